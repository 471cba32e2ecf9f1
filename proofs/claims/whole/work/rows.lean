section
-- ===== PART A: goes FIRST, ahead of the names: the tables' words, and 'selects' of the private methods out of them =====
/-- a private method of a class that the tables say can be made, by its rows of tables_1 -/
def lw_okq (q : MethodName × Nat) : Prop := (q.1.cls ≠ "java/lang/invoke/MethodHandle" ∧ q.1.cls ≠ "java/lang/invoke/VarHandle") ∧ Cond.instantiable q.1.cls q.2 ∈ tables_1 ∧ Cond.privateMethod q.1 ∈ tables_1 ∧ Cond.instanceMethod q.1 ∈ tables_1
theorem lw_p0 : lw_okq (⟨"Stablingroad", "readMorning", "()V"⟩, 10) := ⟨⟨by decide +kernel, by decide +kernel⟩, List.mem_of_getElem? (i := 28) (by decide +kernel), List.mem_of_getElem? (i := 205) (by decide +kernel), List.mem_of_getElem? (i := 206) (by decide +kernel)⟩
theorem lw_p1 : lw_okq (⟨"Stablingroad", "diagramAt", "(I)LStablingroad$Diagram;"⟩, 10) := ⟨⟨by decide +kernel, by decide +kernel⟩, List.mem_of_getElem? (i := 28) (by decide +kernel), List.mem_of_getElem? (i := 223) (by decide +kernel), List.mem_of_getElem? (i := 224) (by decide +kernel)⟩
theorem lw_p2 : lw_okq (⟨"java/lang/Throwable", "fillInStackTrace", "(I)Ljava/lang/Throwable;"⟩, 6) := ⟨⟨by decide +kernel, by decide +kernel⟩, List.mem_of_getElem? (i := 280) (by decide +kernel), List.mem_of_getElem? (i := 278) (by decide +kernel), List.mem_of_getElem? (i := 279) (by decide +kernel)⟩
theorem lw_p3 : lw_okq (⟨"Stablingroad", "unitAt", "(I)LStablingroad$Unit;"⟩, 10) := ⟨⟨by decide +kernel, by decide +kernel⟩, List.mem_of_getElem? (i := 28) (by decide +kernel), List.mem_of_getElem? (i := 310) (by decide +kernel), List.mem_of_getElem? (i := 311) (by decide +kernel)⟩
theorem lw_p4 : lw_okq (⟨"Stablingroad$Rules", "overdueBitsBehind", "(LStablingroad$Unit;I)I"⟩, 2) := ⟨⟨by decide +kernel, by decide +kernel⟩, List.mem_of_getElem? (i := 64) (by decide +kernel), List.mem_of_getElem? (i := 324) (by decide +kernel), List.mem_of_getElem? (i := 325) (by decide +kernel)⟩
theorem lw_p5 : lw_okq (⟨"Stablingroad$Rules", "listForbids", "(LStablingroad$Unit;II)Z"⟩, 2) := ⟨⟨by decide +kernel, by decide +kernel⟩, List.mem_of_getElem? (i := 64) (by decide +kernel), List.mem_of_getElem? (i := 351) (by decide +kernel), List.mem_of_getElem? (i := 352) (by decide +kernel)⟩
theorem lw_p6 : lw_okq (⟨"Stablingroad$Morning", "fillLeastCosts", "()V"⟩, 8) := ⟨⟨by decide +kernel, by decide +kernel⟩, List.mem_of_getElem? (i := 113) (by decide +kernel), List.mem_of_getElem? (i := 415) (by decide +kernel), List.mem_of_getElem? (i := 416) (by decide +kernel)⟩
theorem lw_p7 : lw_okq (⟨"Stablingroad$Morning", "leastCostFrom", "(II)I"⟩, 8) := ⟨⟨by decide +kernel, by decide +kernel⟩, List.mem_of_getElem? (i := 113) (by decide +kernel), List.mem_of_getElem? (i := 422) (by decide +kernel), List.mem_of_getElem? (i := 423) (by decide +kernel)⟩
theorem lw_p8 : lw_okq (⟨"Stablingroad$Morning", "costWith", "(III)I"⟩, 8) := ⟨⟨by decide +kernel, by decide +kernel⟩, List.mem_of_getElem? (i := 113) (by decide +kernel), List.mem_of_getElem? (i := 426) (by decide +kernel), List.mem_of_getElem? (i := 427) (by decide +kernel)⟩
theorem lw_p9 : lw_okq (⟨"Stablingroad$Morning", "lowestOfLeastCost", "(II)I"⟩, 8) := ⟨⟨by decide +kernel, by decide +kernel⟩, List.mem_of_getElem? (i := 113) (by decide +kernel), List.mem_of_getElem? (i := 439) (by decide +kernel), List.mem_of_getElem? (i := 440) (by decide +kernel)⟩
theorem lw_p10 : lw_okq (⟨"Stablingroad$Morning", "lackOf", "([I)I"⟩, 8) := ⟨⟨by decide +kernel, by decide +kernel⟩, List.mem_of_getElem? (i := 113) (by decide +kernel), List.mem_of_getElem? (i := 447) (by decide +kernel), List.mem_of_getElem? (i := 448) (by decide +kernel)⟩
theorem lw_p11 : lw_okq (⟨"Stablingroad", "rowAt", "(I)LStablingroad$Row;"⟩, 10) := ⟨⟨by decide +kernel, by decide +kernel⟩, List.mem_of_getElem? (i := 28) (by decide +kernel), List.mem_of_getElem? (i := 469) (by decide +kernel), List.mem_of_getElem? (i := 470) (by decide +kernel)⟩
theorem lw_p12 : lw_okq (⟨"java/util/ArrayList", "add", "(Ljava/lang/Object;[Ljava/lang/Object;I)V"⟩, 3) := ⟨⟨by decide +kernel, by decide +kernel⟩, List.mem_of_getElem? (i := 36) (by decide +kernel), List.mem_of_getElem? (i := 550) (by decide +kernel), List.mem_of_getElem? (i := 551) (by decide +kernel)⟩
theorem lw_p13 : lw_okq (⟨"java/util/ArrayList", "grow", "()[Ljava/lang/Object;"⟩, 3) := ⟨⟨by decide +kernel, by decide +kernel⟩, List.mem_of_getElem? (i := 36) (by decide +kernel), List.mem_of_getElem? (i := 554) (by decide +kernel), List.mem_of_getElem? (i := 555) (by decide +kernel)⟩
theorem lw_p14 : lw_okq (⟨"java/util/ArrayList", "grow", "(I)[Ljava/lang/Object;"⟩, 3) := ⟨⟨by decide +kernel, by decide +kernel⟩, List.mem_of_getElem? (i := 36) (by decide +kernel), List.mem_of_getElem? (i := 558) (by decide +kernel), List.mem_of_getElem? (i := 559) (by decide +kernel)⟩
theorem lw_p15 : lw_okq (⟨"Stablingroad$Morning", "firstChoice", "()I"⟩, 8) := ⟨⟨by decide +kernel, by decide +kernel⟩, List.mem_of_getElem? (i := 113) (by decide +kernel), List.mem_of_getElem? (i := 742) (by decide +kernel), List.mem_of_getElem? (i := 743) (by decide +kernel)⟩
def lw_privs_1 : List (MethodName × Nat) := [(⟨"Stablingroad", "readMorning", "()V"⟩, 10), (⟨"Stablingroad", "diagramAt", "(I)LStablingroad$Diagram;"⟩, 10), (⟨"java/lang/Throwable", "fillInStackTrace", "(I)Ljava/lang/Throwable;"⟩, 6), (⟨"Stablingroad", "unitAt", "(I)LStablingroad$Unit;"⟩, 10), (⟨"Stablingroad$Rules", "overdueBitsBehind", "(LStablingroad$Unit;I)I"⟩, 2), (⟨"Stablingroad$Rules", "listForbids", "(LStablingroad$Unit;II)Z"⟩, 2), (⟨"Stablingroad$Morning", "fillLeastCosts", "()V"⟩, 8), (⟨"Stablingroad$Morning", "leastCostFrom", "(II)I"⟩, 8), (⟨"Stablingroad$Morning", "costWith", "(III)I"⟩, 8), (⟨"Stablingroad$Morning", "lowestOfLeastCost", "(II)I"⟩, 8), (⟨"Stablingroad$Morning", "lackOf", "([I)I"⟩, 8), (⟨"Stablingroad", "rowAt", "(I)LStablingroad$Row;"⟩, 10), (⟨"java/util/ArrayList", "add", "(Ljava/lang/Object;[Ljava/lang/Object;I)V"⟩, 3), (⟨"java/util/ArrayList", "grow", "()[Ljava/lang/Object;"⟩, 3), (⟨"java/util/ArrayList", "grow", "(I)[Ljava/lang/Object;"⟩, 3), (⟨"Stablingroad$Morning", "firstChoice", "()I"⟩, 8)]
theorem lw_r1 : ∀ q ∈ lw_privs_1, lw_okq q := List.forall_mem_cons.mpr ⟨lw_p0, List.forall_mem_cons.mpr ⟨lw_p1, List.forall_mem_cons.mpr ⟨lw_p2, List.forall_mem_cons.mpr ⟨lw_p3, List.forall_mem_cons.mpr ⟨lw_p4, List.forall_mem_cons.mpr ⟨lw_p5, List.forall_mem_cons.mpr ⟨lw_p6, List.forall_mem_cons.mpr ⟨lw_p7, List.forall_mem_cons.mpr ⟨lw_p8, List.forall_mem_cons.mpr ⟨lw_p9, List.forall_mem_cons.mpr ⟨lw_p10, List.forall_mem_cons.mpr ⟨lw_p11, List.forall_mem_cons.mpr ⟨lw_p12, List.forall_mem_cons.mpr ⟨lw_p13, List.forall_mem_cons.mpr ⟨lw_p14, List.forall_mem_cons.mpr ⟨lw_p15, fun _ h => absurd h List.not_mem_nil⟩⟩⟩⟩⟩⟩⟩⟩⟩⟩⟩⟩⟩⟩⟩⟩
theorem lw_p16 : lw_okq (⟨"Stablingroad$Morning", "howManyTrials", "()I"⟩, 8) := ⟨⟨by decide +kernel, by decide +kernel⟩, List.mem_of_getElem? (i := 113) (by decide +kernel), List.mem_of_getElem? (i := 747) (by decide +kernel), List.mem_of_getElem? (i := 748) (by decide +kernel)⟩
theorem lw_p17 : lw_okq (⟨"Stablingroad$Morning", "trialIsAllowed", "()Z"⟩, 8) := ⟨⟨by decide +kernel, by decide +kernel⟩, List.mem_of_getElem? (i := 113) (by decide +kernel), List.mem_of_getElem? (i := 751) (by decide +kernel), List.mem_of_getElem? (i := 752) (by decide +kernel)⟩
theorem lw_p18 : lw_okq (⟨"Stablingroad$Morning", "trialIsBetter", "()Z"⟩, 8) := ⟨⟨by decide +kernel, by decide +kernel⟩, List.mem_of_getElem? (i := 113) (by decide +kernel), List.mem_of_getElem? (i := 755) (by decide +kernel), List.mem_of_getElem? (i := 756) (by decide +kernel)⟩
theorem lw_p19 : lw_okq (⟨"Stablingroad$Morning", "homingOf", "([I)I"⟩, 8) := ⟨⟨by decide +kernel, by decide +kernel⟩, List.mem_of_getElem? (i := 113) (by decide +kernel), List.mem_of_getElem? (i := 759) (by decide +kernel), List.mem_of_getElem? (i := 760) (by decide +kernel)⟩
theorem lw_p20 : lw_okq (⟨"Stablingroad$Morning", "stepTrial", "()V"⟩, 8) := ⟨⟨by decide +kernel, by decide +kernel⟩, List.mem_of_getElem? (i := 113) (by decide +kernel), List.mem_of_getElem? (i := 764) (by decide +kernel), List.mem_of_getElem? (i := 765) (by decide +kernel)⟩
theorem lw_p21 : lw_okq (⟨"Stablingroad", "leaveRows", "()V"⟩, 10) := ⟨⟨by decide +kernel, by decide +kernel⟩, List.mem_of_getElem? (i := 28) (by decide +kernel), List.mem_of_getElem? (i := 776) (by decide +kernel), List.mem_of_getElem? (i := 777) (by decide +kernel)⟩
theorem lw_p22 : lw_okq (⟨"Stablingroad", "comeToDepots", "()V"⟩, 10) := ⟨⟨by decide +kernel, by decide +kernel⟩, List.mem_of_getElem? (i := 28) (by decide +kernel), List.mem_of_getElem? (i := 792) (by decide +kernel), List.mem_of_getElem? (i := 793) (by decide +kernel)⟩
theorem lw_p23 : lw_okq (⟨"Stablingroad$Unit", "depthOnAxle", "(I)I"⟩, 7) := ⟨⟨by decide +kernel, by decide +kernel⟩, List.mem_of_getElem? (i := 509) (by decide +kernel), List.mem_of_getElem? (i := 831) (by decide +kernel), List.mem_of_getElem? (i := 832) (by decide +kernel)⟩
theorem lw_p24 : lw_okq (⟨"Stablingroad$Unit", "dropFlats", "()V"⟩, 7) := ⟨⟨by decide +kernel, by decide +kernel⟩, List.mem_of_getElem? (i := 509) (by decide +kernel), List.mem_of_getElem? (i := 836) (by decide +kernel), List.mem_of_getElem? (i := 837) (by decide +kernel)⟩
theorem lw_p25 : lw_okq (⟨"java/util/ArrayList", "fastRemove", "([Ljava/lang/Object;I)V"⟩, 3) := ⟨⟨by decide +kernel, by decide +kernel⟩, List.mem_of_getElem? (i := 36) (by decide +kernel), List.mem_of_getElem? (i := 848) (by decide +kernel), List.mem_of_getElem? (i := 849) (by decide +kernel)⟩
theorem lw_p26 : lw_okq (⟨"StablingroadModel", "isDepot", "(I)Z"⟩, 39) := ⟨⟨by decide +kernel, by decide +kernel⟩, List.mem_of_getElem? (i := 935) (by decide +kernel), List.mem_of_getElem? (i := 1068) (by decide +kernel), List.mem_of_getElem? (i := 1069) (by decide +kernel)⟩
theorem lw_p27 : lw_okq (⟨"StablingroadModel", "between", "(III)Z"⟩, 39) := ⟨⟨by decide +kernel, by decide +kernel⟩, List.mem_of_getElem? (i := 935) (by decide +kernel), List.mem_of_getElem? (i := 1072) (by decide +kernel), List.mem_of_getElem? (i := 1073) (by decide +kernel)⟩
theorem lw_p28 : lw_okq (⟨"StablingroadModel", "comes", "(II)V"⟩, 39) := ⟨⟨by decide +kernel, by decide +kernel⟩, List.mem_of_getElem? (i := 935) (by decide +kernel), List.mem_of_getElem? (i := 1077) (by decide +kernel), List.mem_of_getElem? (i := 1078) (by decide +kernel)⟩
theorem lw_p29 : lw_okq (⟨"StablingroadModel", "isExam", "(I)Z"⟩, 39) := ⟨⟨by decide +kernel, by decide +kernel⟩, List.mem_of_getElem? (i := 935) (by decide +kernel), List.mem_of_getElem? (i := 1089) (by decide +kernel), List.mem_of_getElem? (i := 1090) (by decide +kernel)⟩
theorem lw_p30 : lw_okq (⟨"StablingroadModel", "bound", "(I)I"⟩, 39) := ⟨⟨by decide +kernel, by decide +kernel⟩, List.mem_of_getElem? (i := 935) (by decide +kernel), List.mem_of_getElem? (i := 1094) (by decide +kernel), List.mem_of_getElem? (i := 1095) (by decide +kernel)⟩
theorem lw_p31 : lw_okq (⟨"StablingroadModel", "isUnit", "(I)Z"⟩, 39) := ⟨⟨by decide +kernel, by decide +kernel⟩, List.mem_of_getElem? (i := 935) (by decide +kernel), List.mem_of_getElem? (i := 1106) (by decide +kernel), List.mem_of_getElem? (i := 1107) (by decide +kernel)⟩
def lw_privs_2 : List (MethodName × Nat) := [(⟨"Stablingroad$Morning", "howManyTrials", "()I"⟩, 8), (⟨"Stablingroad$Morning", "trialIsAllowed", "()Z"⟩, 8), (⟨"Stablingroad$Morning", "trialIsBetter", "()Z"⟩, 8), (⟨"Stablingroad$Morning", "homingOf", "([I)I"⟩, 8), (⟨"Stablingroad$Morning", "stepTrial", "()V"⟩, 8), (⟨"Stablingroad", "leaveRows", "()V"⟩, 10), (⟨"Stablingroad", "comeToDepots", "()V"⟩, 10), (⟨"Stablingroad$Unit", "depthOnAxle", "(I)I"⟩, 7), (⟨"Stablingroad$Unit", "dropFlats", "()V"⟩, 7), (⟨"java/util/ArrayList", "fastRemove", "([Ljava/lang/Object;I)V"⟩, 3), (⟨"StablingroadModel", "isDepot", "(I)Z"⟩, 39), (⟨"StablingroadModel", "between", "(III)Z"⟩, 39), (⟨"StablingroadModel", "comes", "(II)V"⟩, 39), (⟨"StablingroadModel", "isExam", "(I)Z"⟩, 39), (⟨"StablingroadModel", "bound", "(I)I"⟩, 39), (⟨"StablingroadModel", "isUnit", "(I)Z"⟩, 39)]
theorem lw_r2 : ∀ q ∈ lw_privs_2, lw_okq q := List.forall_mem_cons.mpr ⟨lw_p16, List.forall_mem_cons.mpr ⟨lw_p17, List.forall_mem_cons.mpr ⟨lw_p18, List.forall_mem_cons.mpr ⟨lw_p19, List.forall_mem_cons.mpr ⟨lw_p20, List.forall_mem_cons.mpr ⟨lw_p21, List.forall_mem_cons.mpr ⟨lw_p22, List.forall_mem_cons.mpr ⟨lw_p23, List.forall_mem_cons.mpr ⟨lw_p24, List.forall_mem_cons.mpr ⟨lw_p25, List.forall_mem_cons.mpr ⟨lw_p26, List.forall_mem_cons.mpr ⟨lw_p27, List.forall_mem_cons.mpr ⟨lw_p28, List.forall_mem_cons.mpr ⟨lw_p29, List.forall_mem_cons.mpr ⟨lw_p30, List.forall_mem_cons.mpr ⟨lw_p31, fun _ h => absurd h List.not_mem_nil⟩⟩⟩⟩⟩⟩⟩⟩⟩⟩⟩⟩⟩⟩⟩⟩
theorem lw_p32 : lw_okq (⟨"StablingroadModel", "isDiagram", "(I)Z"⟩, 39) := ⟨⟨by decide +kernel, by decide +kernel⟩, List.mem_of_getElem? (i := 935) (by decide +kernel), List.mem_of_getElem? (i := 1114) (by decide +kernel), List.mem_of_getElem? (i := 1115) (by decide +kernel)⟩
theorem lw_p33 : lw_okq (⟨"StablingroadModel", "reason", "(II)I"⟩, 39) := ⟨⟨by decide +kernel, by decide +kernel⟩, List.mem_of_getElem? (i := 935) (by decide +kernel), List.mem_of_getElem? (i := 1122) (by decide +kernel), List.mem_of_getElem? (i := 1123) (by decide +kernel)⟩
theorem lw_p34 : lw_okq (⟨"StablingroadModel", "isExamDue", "(II)Z"⟩, 39) := ⟨⟨by decide +kernel, by decide +kernel⟩, List.mem_of_getElem? (i := 935) (by decide +kernel), List.mem_of_getElem? (i := 1126) (by decide +kernel), List.mem_of_getElem? (i := 1127) (by decide +kernel)⟩
theorem lw_p35 : lw_okq (⟨"StablingroadModel", "isBarredByList", "(II)Z"⟩, 39) := ⟨⟨by decide +kernel, by decide +kernel⟩, List.mem_of_getElem? (i := 935) (by decide +kernel), List.mem_of_getElem? (i := 1130) (by decide +kernel), List.mem_of_getElem? (i := 1131) (by decide +kernel)⟩
theorem lw_p36 : lw_okq (⟨"StablingroadModel", "isBad", "(I)Z"⟩, 39) := ⟨⟨by decide +kernel, by decide +kernel⟩, List.mem_of_getElem? (i := 935) (by decide +kernel), List.mem_of_getElem? (i := 1134) (by decide +kernel), List.mem_of_getElem? (i := 1135) (by decide +kernel)⟩
theorem lw_p37 : lw_okq (⟨"StablingroadModel", "isWorn", "(I)Z"⟩, 39) := ⟨⟨by decide +kernel, by decide +kernel⟩, List.mem_of_getElem? (i := 935) (by decide +kernel), List.mem_of_getElem? (i := 1138) (by decide +kernel), List.mem_of_getElem? (i := 1139) (by decide +kernel)⟩
theorem lw_p38 : lw_okq (⟨"StablingroadModel", "decides", "()V"⟩, 39) := ⟨⟨by decide +kernel, by decide +kernel⟩, List.mem_of_getElem? (i := 935) (by decide +kernel), List.mem_of_getElem? (i := 1146) (by decide +kernel), List.mem_of_getElem? (i := 1147) (by decide +kernel)⟩
theorem lw_p39 : lw_okq (⟨"StablingroadModel", "isSoon", "(I)Z"⟩, 39) := ⟨⟨by decide +kernel, by decide +kernel⟩, List.mem_of_getElem? (i := 935) (by decide +kernel), List.mem_of_getElem? (i := 1150) (by decide +kernel), List.mem_of_getElem? (i := 1151) (by decide +kernel)⟩
theorem lw_p40 : lw_okq (⟨"StablingroadModel", "looks", "()V"⟩, 39) := ⟨⟨by decide +kernel, by decide +kernel⟩, List.mem_of_getElem? (i := 935) (by decide +kernel), List.mem_of_getElem? (i := 1154) (by decide +kernel), List.mem_of_getElem? (i := 1155) (by decide +kernel)⟩
theorem lw_p41 : lw_okq (⟨"StablingroadModel", "leaves", "(I)V"⟩, 39) := ⟨⟨by decide +kernel, by decide +kernel⟩, List.mem_of_getElem? (i := 935) (by decide +kernel), List.mem_of_getElem? (i := 1170) (by decide +kernel), List.mem_of_getElem? (i := 1171) (by decide +kernel)⟩
theorem lw_p42 : lw_okq (⟨"StablingroadModel", "placeOf", "(I)I"⟩, 39) := ⟨⟨by decide +kernel, by decide +kernel⟩, List.mem_of_getElem? (i := 935) (by decide +kernel), List.mem_of_getElem? (i := 1174) (by decide +kernel), List.mem_of_getElem? (i := 1175) (by decide +kernel)⟩
theorem lw_p43 : lw_okq (⟨"StablingroadModel", "runs", "(II)V"⟩, 39) := ⟨⟨by decide +kernel, by decide +kernel⟩, List.mem_of_getElem? (i := 935) (by decide +kernel), List.mem_of_getElem? (i := 1178) (by decide +kernel), List.mem_of_getElem? (i := 1179) (by decide +kernel)⟩
theorem lw_p44 : lw_okq (⟨"StablingroadModel", "goes", "(II)V"⟩, 39) := ⟨⟨by decide +kernel, by decide +kernel⟩, List.mem_of_getElem? (i := 935) (by decide +kernel), List.mem_of_getElem? (i := 1190) (by decide +kernel), List.mem_of_getElem? (i := 1191) (by decide +kernel)⟩
theorem lw_p45 : lw_okq (⟨"StablingroadModel", "isFault", "(II)Z"⟩, 39) := ⟨⟨by decide +kernel, by decide +kernel⟩, List.mem_of_getElem? (i := 935) (by decide +kernel), List.mem_of_getElem? (i := 1198) (by decide +kernel), List.mem_of_getElem? (i := 1199) (by decide +kernel)⟩
def lw_privs_3 : List (MethodName × Nat) := [(⟨"StablingroadModel", "isDiagram", "(I)Z"⟩, 39), (⟨"StablingroadModel", "reason", "(II)I"⟩, 39), (⟨"StablingroadModel", "isExamDue", "(II)Z"⟩, 39), (⟨"StablingroadModel", "isBarredByList", "(II)Z"⟩, 39), (⟨"StablingroadModel", "isBad", "(I)Z"⟩, 39), (⟨"StablingroadModel", "isWorn", "(I)Z"⟩, 39), (⟨"StablingroadModel", "decides", "()V"⟩, 39), (⟨"StablingroadModel", "isSoon", "(I)Z"⟩, 39), (⟨"StablingroadModel", "looks", "()V"⟩, 39), (⟨"StablingroadModel", "leaves", "(I)V"⟩, 39), (⟨"StablingroadModel", "placeOf", "(I)I"⟩, 39), (⟨"StablingroadModel", "runs", "(II)V"⟩, 39), (⟨"StablingroadModel", "goes", "(II)V"⟩, 39), (⟨"StablingroadModel", "isFault", "(II)Z"⟩, 39)]
theorem lw_r3 : ∀ q ∈ lw_privs_3, lw_okq q := List.forall_mem_cons.mpr ⟨lw_p32, List.forall_mem_cons.mpr ⟨lw_p33, List.forall_mem_cons.mpr ⟨lw_p34, List.forall_mem_cons.mpr ⟨lw_p35, List.forall_mem_cons.mpr ⟨lw_p36, List.forall_mem_cons.mpr ⟨lw_p37, List.forall_mem_cons.mpr ⟨lw_p38, List.forall_mem_cons.mpr ⟨lw_p39, List.forall_mem_cons.mpr ⟨lw_p40, List.forall_mem_cons.mpr ⟨lw_p41, List.forall_mem_cons.mpr ⟨lw_p42, List.forall_mem_cons.mpr ⟨lw_p43, List.forall_mem_cons.mpr ⟨lw_p44, List.forall_mem_cons.mpr ⟨lw_p45, fun _ h => absurd h List.not_mem_nil⟩⟩⟩⟩⟩⟩⟩⟩⟩⟩⟩⟩⟩⟩
def lw_privs : List (MethodName × Nat) := lw_privs_1 ++ (lw_privs_2 ++ (lw_privs_3))
def lw_tbl : List Cond := k2_sels lw_privs ++ tables_1
theorem lw_privs_ok : ∀ q ∈ lw_privs, lw_okq q := by
  show ∀ q ∈ lw_privs_1 ++ (lw_privs_2 ++ (lw_privs_3)), lw_okq q
  exact List.forall_mem_append.mpr ⟨lw_r1, List.forall_mem_append.mpr ⟨lw_r2, lw_r3⟩⟩

/-! ===== BEGIN words of one list among another's, by their places ===== -/
theorem goodIn_r {big : List Cond} (ws : List Cond) (ps : List Nat) (hp : ws = ps.filterMap (fun i => big[i]?)) (h : ws.all goodWord = true) : GoodIn big ws := by
  intro w hw
  have h1 := List.all_eq_true.mp h w hw
  rw [hp] at hw
  obtain ⟨i, -, hi⟩ := List.mem_filterMap.mp hw
  have hm : w ∈ big := by first | exact List.mem_of_getElem? hi | exact List.getElem?_mem hi
  exact ⟨hm, good_of_word h1⟩
theorem goodIn_app {big a b : List Cond} (ha : GoodIn big a) (hb : GoodIn big b) : GoodIn big (a ++ b) := fun w h => (List.mem_append.mp h).elim (ha w) (hb w)
theorem goodIn_ca {big a b : List Cond} {c : Cond} (ha : GoodIn big (c :: a)) (hb : GoodIn big b) : GoodIn big (c :: (a ++ b)) := fun w h => (List.mem_cons.mp h).elim (fun e => ha w (List.mem_cons.mpr (Or.inl e))) (fun h => (List.mem_append.mp h).elim (fun h => ha w (List.mem_cons.mpr (Or.inr h))) (hb w))
theorem goodIn_sub {big ws : List Cond} (hm : ∀ w ∈ ws, w ∈ big) (h : ws.all goodWord = true) : GoodIn big ws := fun w hw => ⟨hm w hw, good_of_word (List.all_eq_true.mp h w hw)⟩
/-! ===== END ===== -/

/-! ===== BEGIN exceptions that leave a method, and their catching by the caller (launches without stack traces) ===== -/
section VXA
/-! The laws vx_back, vx_callV, vx_callS, vx_callSW, vx_throw0, vx_throwS follow proofs of the library, with one case more: JvmDerived/Free/Laws.lean (Back.of_free), Shelf42/LK1.lean (callV, callS), Shelf/KitTraced.lean (throwNew0V, throwNewS). -/
/-- where a method has thrown q: the class by its name, the cell, what was written, the world -/
def vx_T (XC : String → State → State → Prop) (st : State) (q : Addr) (t : State) (mc ms : Nat) (free : Addr → Prop) : Prop :=
  ∃ (E : String) (ce : Cell) (L : List Loc), XC E st t ∧ t.heap[q]? = some ce ∧ ce.vm = .none ∧ st.vm.findClass E = some ce.cls ∧ st.WarmedH t.vm ∧ st.sameButNew ({ t with vm := st.vm } : State) L mc ms ∧ ∀ z ∈ L, free z.base
def vx_Q (Qc : Array Value → State → Outcome → State → Prop) (XC : String → State → State → Prop) (mc ms : Nat) (free : Addr → Prop) : Array Value → State → Outcome → State → Prop := fun a st o t =>
  (Qc a st o t ∧ ∃ L, FrameEnd st o t L mc ms ∧ ∀ q ∈ L, free q.base) ∨ ∃ q, o = .threw q ∧ vx_T XC st q t mc ms free
/-- a callee that returns or throws -/
def vx_Met (l : Launch) (y : MethodName) (ws : List Cond) (rm : Room) (Pc : Array Value → State → Prop) (Qc : Array Value → State → Outcome → State → Prop) (XC : String → State → State → Prop) (mc ms : Nat) (free : Addr → Prop) : Prop :=
  MetFree l y (headSpec ws rm) Pc (fun _ _ _ _ _ => True) (vx_Q Qc XC mc ms free)
def vx_Post (XC : String → State → State → Prop) (mc ms : Nat) (free : Addr → Prop) : Pt → Array Value → Addr → Pt → Prop := fun A a q B =>
  ∃ (g : JFrame) (mk : MethodId) (t : State) (L : List Loc) (E : String) (ce : Cell), B.U.heap = t.heap ∧ B.U.vm = t.vm ∧ XC E (A.U.calling g mk a) t ∧ t.heap[q]? = some ce ∧ ce.vm = .none ∧ A.U.vm.findClass E = some ce.cls ∧ B.locs = A.locs ++ L ∧ (∀ z ∈ L, free z.base) ∧ B.cells = A.cells + mc ∧ B.slots = A.slots + ms
def vx_Back (l : Launch) (R : Room) (p : Program) (e : Env) (below : List Frame) (s : State) (sargs : Array Value) (y : MethodName) (len W9 : Nat)
    (Pre : Pt → Array Value → Prop) (Post : Pt → Array Value → Option Value → Pt → Prop) (PostX : Pt → Array Value → Addr → Pt → Prop) : Prop :=
  ∀ (m : MethodId) (meth : Method) (c : Code) (A : Pt) (g : JFrame) (ig : Instr) (mk : MethodId) (a : Array Value),
    Stand p l e R s m sargs below meth c A.U A.locs A.cells A.slots → g.method = m → g.locals.size = c.maxLocals → decode c.code g.pc = .ok (ig, len) →
    2 * g.monitorRoom + (g.stack.map fun v => v.category).sum ≤ W9 → A.U.methodNamed? y = some mk → Pre A a →
    (∃ (v : Option Value) (B : Pt), Stand p l e R s m sargs below meth c B.U B.locs B.cells B.slots ∧ Post A a v B ∧
      Steps p.tables e below (doInvoke e (A.U.setTop g) [] mk a).1 (B.U.setTop { g with pc := g.pc + len, stack := v.toList ++ g.stack })) ∨
    (∃ (q : Addr) (B : Pt), Stand p l e R s m sargs below meth c B.U B.locs B.cells B.slots ∧ PostX A a q B ∧
      Steps p.tables e below (doInvoke e (A.U.setTop g) [] mk a).1 ((B.U.setTop g).pushFrame (.throwing q)))
section Payer
variable {l : Launch} {R : Room} {p : Program} {e : Env} {below : List Frame} {s : State} {sargs : Array Value} {y : MethodName} {len W9 : Nat}
theorem vx_back {ws : List Cond} {rm : Room} {Pc : Array Value → State → Prop} {Qc : Array Value → State → Outcome → State → Prop} {XC : String → State → State → Prop} {mc ms : Nat} {free : Addr → Prop} {bytes : ByteArray} {maxL : Nat} {ret : Option FieldType}
    (hM : vx_Met l y ws rm Pc Qc XC mc ms free) (hblind : FrameBlind Pc) (hrc : rm.cells = mc) (hrs : rm.slots = ms)
    (hframes : rm.frames + 1 ≤ R.frames) (hlocals : W9 + (maxL + 11) + rm.locals ≤ R.locals)
    (hws : ∀ w ∈ ws, ∀ a' U, s.WarmedH U.vm → w.before a' U = true) (hcode : Cond.code y bytes maxL ret ∈ ws) (hinit : ∀ a' U, s.WarmedH U.vm → (Cond.initialized y.cls).before a' U = true) :
    vx_Back l R p e below s sargs y len W9 (PreOf R mc ms Pc) (PostOf Qc mc ms free) (vx_Post XC mc ms free) := by
  intro m meth c A g ig mk a X hg hsize hdg hW hn hp
  have h1 : (headSpec ws rm).pre.before a A.U = true := atoms_intro fun w hw => hws w hw _ _ X.warmed
  have h2 : (Cond.code y bytes maxL ret).before a A.U = true := hws _ hcode _ _ X.warmed
  have h3 : (Cond.initialized y.cls).before a A.U = true := hinit _ _ X.warmed
  have h4 : A.cells + (headSpec ws rm).room.cells ≤ R.cells := by rw [show (headSpec ws rm).room.cells = mc from hrc]; exact hp.1
  have h5 : A.slots + (headSpec ws rm).room.slots ≤ R.slots := by rw [show (headSpec ws rm).room.slots = ms from hrs]; exact hp.2.1
  have hPc : Pc a (A.U.calling g mk a) := hblind _ _ _ _ hp.2.2
  obtain ⟨U, Ls, c0, s0⟩ := A
  dsimp only [Pt.U, Pt.locs, Pt.cells, Pt.slots] at h1 h2 h3 h4 h5 X hn hPc ⊢
  obtain ⟨methY, cY, hmY, hcY, -, hlY, -, -, -, -⟩ := Cond.code_spec hn h2
  obtain ⟨kY, hkY, -⟩ := className_of_methodNamed hn
  have hinitY : kY.init = .initialized := Cond.initialized_spec (findClass_of_methodNamed hn) hkY h3
  have h : At U g.method c below := by rw [hg]; exact X.here
  have hlocals9 : W9 + (maxL + 11) + (headSpec ws rm).room.locals ≤ R.locals := hlocals
  have happ : (headSpec ws rm).appliesLoose y e.platform (U.calling g mk a) = true :=
    Spec.appliesLoose_calling (g := g) h hdg hn hkY hinitY
      (X.room_calling (g := g) (R' := (headSpec ws rm).room) hsize hmY hcY hframes (by rw [hlY]; omega) h4 h5) h1
  obtain ⟨mid, hmid⟩ := h.above
  have hfr : (U.setTop g).frames = (.java g :: mid) ++ below := by rw [State.frames_setTop' g h.top, hmid]; rfl
  obtain ⟨o, s₂, hsteps, -, hend, hq⟩ := Steps.callFree hM p X.admits X.cas X.clock (acts := []) hfr happ hPc trivial
  have hq' : vx_Q Qc XC mc ms free a (U.calling g mk a) o s₂ := hq
  rw [State.frames_setTop' g h.top] at hend
  obtain ⟨g₀, hg0⟩ := Option.isSome_iff_exists.mp h.top
  obtain ⟨r, hr⟩ := State.topJava?_eq_some.mp hg0
  have hr' : (({ U with heap := s₂.heap, slotsUsed := s₂.slotsUsed } : State).setVm s₂.vm).frames = .java g₀ :: r := hr
  rcases hq' with ⟨hqc, L, hfe, hL⟩ | ⟨q, rfl, E, ce, L, hx, hce, hcv, hcl, hW₂, hsm, hL⟩
  · obtain ⟨⟨v, rfl⟩, hW₂, e2, q2, q3, q4, q5, q6⟩ := id hfe
    have e3 : s₂ = ({ (U.calling g mk a).setFrames s₂.frames with heap := s₂.heap, slotsUsed := s₂.slotsUsed } : State).setVm s₂.vm := by
      have : s₂ = ({ s₂ with vm := (U.calling g mk a).vm } : State).setVm s₂.vm := rfl
      rw [e2] at this
      exact this
    obtain ⟨c₂, i₂, len₂, hc₂, hd₂, hf₂⟩ := hend
    have hW' : U.WarmedH s₂.vm := hW₂
    have hcc : c₂ = c := by
      have h1 : s₂.code? g.method = U.code? g.method := by
        rw [State.code?_eq, State.code?_eq, hW'.alike.method?]
      exact Option.some.inj (hc₂.symm.trans (h1.trans h.code))
    subst hcc
    have hlen : len₂ = len := by rw [hdg] at hd₂; cases hd₂; rfl
    subst hlen
    have hs₂ : s₂ = (({ U with heap := s₂.heap, slotsUsed := s₂.slotsUsed } : State).setVm s₂.vm).setTop { g with pc := g.pc + len₂, stack := v.toList ++ g.stack } := by
      refine e3.trans ?_
      rw [hf₂, State.calling_eq h.top, State.setFrames_setFrames, State.setTop_of_frames _ hr', hr]
      rfl
    have hsame : U.sameButNew ({ U with heap := s₂.heap, slotsUsed := s₂.slotsUsed } : State) L mc ms := by
      refine ⟨?_, q2, q3, q4, q5, q6⟩
      obtain ⟨t, ht, -⟩ := State.frames_cons hr
      show ({ U with heap := s₂.heap, slotsUsed := s₂.slotsUsed } : State) = { U.setFrames U.frames with heap := s₂.heap, slotsUsed := s₂.slotsUsed }
      rw [State.setFrames_self ht]
    subst hg
    refine Or.inl ⟨v, ⟨(({ U with heap := s₂.heap, slotsUsed := s₂.slotsUsed } : State).setVm s₂.vm), Ls ++ L, c0 + mc, s0 + ms⟩,
      ⟨X.admits, X.cas, X.clock, X.frames, X.room, X.hears, X.method, X.code, (X.here.setHeapUsed s₂.heap s₂.slotsUsed).setVm hW'.alike, X.tail, State.WarmedH.trans X.warmed hW', X.limits, X.bytes, X.same.trans (hsame.setVm s.vm)⟩,
      ⟨g, mk, s₂, L, rfl, rfl, hqc, rfl, hL, rfl, rfl⟩, ?_⟩
    show Steps p.tables e below _ ((({ U with heap := s₂.heap, slotsUsed := s₂.slotsUsed } : State).setVm s₂.vm).setTop { g with pc := g.pc + len₂, stack := v.toList ++ g.stack })
    rw [← hs₂]
    exact hsteps
  · obtain ⟨e2, q2, q3, q4, q5, q6⟩ := id hsm
    have e3 : s₂ = ({ (U.calling g mk a).setFrames s₂.frames with heap := s₂.heap, slotsUsed := s₂.slotsUsed } : State).setVm s₂.vm := by
      have : s₂ = ({ s₂ with vm := (U.calling g mk a).vm } : State).setVm s₂.vm := rfl
      rw [e2] at this
      exact this
    have hf₂ : s₂.frames = .throwing q :: .java g :: U.frames.tail := hend
    have hW' : U.WarmedH s₂.vm := hW₂
    have hs₂ : s₂ = ((({ U with heap := s₂.heap, slotsUsed := s₂.slotsUsed } : State).setVm s₂.vm).setTop g).pushFrame (.throwing q) := by
      refine e3.trans ?_
      rw [hf₂, State.calling_eq h.top, State.setFrames_setFrames, State.pushFrame, State.frames_setTop _ hr', State.setTop_of_frames _ hr', State.setFrames_setFrames, hr]
      rfl
    have hsame : U.sameButNew ({ U with heap := s₂.heap, slotsUsed := s₂.slotsUsed } : State) L mc ms := by
      refine ⟨?_, q2, q3, q4, q5, q6⟩
      obtain ⟨t, ht, -⟩ := State.frames_cons hr
      show ({ U with heap := s₂.heap, slotsUsed := s₂.slotsUsed } : State) = { U.setFrames U.frames with heap := s₂.heap, slotsUsed := s₂.slotsUsed }
      rw [State.setFrames_self ht]
    subst hg
    refine Or.inr ⟨q, ⟨(({ U with heap := s₂.heap, slotsUsed := s₂.slotsUsed } : State).setVm s₂.vm), Ls ++ L, c0 + mc, s0 + ms⟩,
      ⟨X.admits, X.cas, X.clock, X.frames, X.room, X.hears, X.method, X.code, (X.here.setHeapUsed s₂.heap s₂.slotsUsed).setVm hW'.alike, X.tail, State.WarmedH.trans X.warmed hW', X.limits, X.bytes, X.same.trans (hsame.setVm s.vm)⟩,
      ⟨g, mk, s₂, L, E, ce, rfl, rfl, hx, hce, hcv, hcl, rfl, hL, rfl, rfl⟩, ?_⟩
    show Steps p.tables e below _ (((({ U with heap := s₂.heap, slotsUsed := s₂.slotsUsed } : State).setVm s₂.vm).setTop g).pushFrame (.throwing q))
    rw [← hs₂]
    exact hsteps
end Payer
section Calls
variable {p : Program} {l : Launch} {e : Env} {R : Room} {s : State} {m : MethodId} {args : Array Value} {below : List Frame} {meth : Method} {c : Code} {T : State} {locs : List Loc} {cells slots : Nat}
theorem vx_callV (X : Stand p l e R s m args below meth c T locs cells slots) (hexec : p.tables.exec = Jvm.exec) {own C : String} {index : Nat} {y : MethodName} {bytes : ByteArray} {maxL : Nat} {ret : Option FieldType}
    (hown : s.vm.findClass own = some m.cls) (hlink : (Cond.methodLink own index y).before args s = true) (hinst : (Cond.instanceMethod y).before args s = true) (hsel : (Cond.selects C y y).before args s = true)
    (hcode : (Cond.code y bytes maxL ret).before args s = true) (hy : y.cls ≠ "java/lang/invoke/MethodHandle" ∧ y.cls ≠ "java/lang/invoke/VarHandle")
    {W9 : Nat} {Pre : Pt → Array Value → Prop} {Post : Pt → Array Value → Option Value → Pt → Prop} {PostX : Pt → Array Value → Addr → Pt → Prop} (hK : vx_Back l R p e below s args y 3 W9 Pre Post PostX)
    {b : Addr} {cellB : Cell} (hcell : T.heap[b]? = some cellB) (hobj : cellB.vm.isStatics = false) (hcls : s.vm.findClass C = some cellB.cls)
    {g : JFrame} (hg : g.method = m) (hsize : g.locals.size = c.maxLocals) {argsL rest : List Value} (hlen : ∀ sig, parseMethodDescriptor y.desc = some sig → argsL.length = sig.parameters.length)
    (hstack : g.stack = argsL.reverse ++ .ref b :: rest) (hW : 2 * g.monitorRoom + (rest.map fun v => v.category).sum ≤ W9) (hdg : decode c.code g.pc = .ok (.invokevirtual index, 3))
    (hpre : ∀ vm₁, s.WarmedH vm₁ → Pre ⟨T.setVm vm₁, locs, cells, slots⟩ (Value.ref b :: argsL).toArray) :
    (∃ (v : Option Value) (vm₁ : Vm) (B : Pt), s.WarmedH vm₁ ∧ Stand p l e R s m args below meth c B.U B.locs B.cells B.slots ∧ Post ⟨T.setVm vm₁, locs, cells, slots⟩ (Value.ref b :: argsL).toArray v B ∧
      ∀ target, Steps p.tables e below (B.U.setTop { g with pc := g.pc + 3, stack := v.toList ++ rest }) target → Steps p.tables e below (T.setTop g) target) ∨
    (∃ (q : Addr) (vm₁ : Vm) (B : Pt), s.WarmedH vm₁ ∧ Stand p l e R s m args below meth c B.U B.locs B.cells B.slots ∧ PostX ⟨T.setVm vm₁, locs, cells, slots⟩ (Value.ref b :: argsL).toArray q B ∧
      Steps p.tables e below (T.setTop g) ((B.U.setTop { g with stack := rest }).pushFrame (.throwing q))) := by
  obtain ⟨mk, methM, hnamed, hmethM, hstM, habM⟩ := Cond.instanceMethod_spec hinst
  obtain ⟨methM', cM, hmethM', -, -, -, -, -, -, hsigM⟩ := Cond.code_spec hnamed hcode
  cases hmethM.symm.trans hmethM'
  obtain ⟨c2, r2, m2, q1, q2, q3, q4, kP, hkP, hkPi⟩ := Cond.selects_spec hsel
  cases hcls.symm.trans q1
  cases (State.methodFound?_of_named hnamed hy).symm.trans q2
  cases hnamed.symm.trans q3
  have hselP : selectMethod e.platform s.vm cellB.cls mk = .method mk := by rw [Launch.admits_selectMethod X.admits]; exact q4
  obtain ⟨vm₁, X₁, hstep₁⟩ := X.invokevirtual hexec hown hlink hnamed hmethM hstM hkP hkPi hy (a := b) (cell := cellB) hcell
    (fun z h => by rw [h] at hobj; cases hobj) hselP hmethM habM hkP hkPi (g := g) hg (argsL := argsL) (rest := rest) (hlen _ hsigM) hstack hdg
  rcases hK m meth c ⟨T.setVm vm₁, locs, cells, slots⟩ { g with stack := rest } (.invokevirtual index) mk (Value.ref b :: argsL).toArray X₁ hg hsize hdg hW (X₁.named hnamed) (hpre vm₁ X₁.warmed) with ⟨v, B, X', hpost, hsteps⟩ | ⟨q, B, X', hpost, hsteps⟩
  · exact Or.inl ⟨v, vm₁, B, X₁.warmed, X', hpost, fun target h => hstep₁ _ fun acts => by rw [doInvoke_state]; exact hsteps.trans h⟩
  · exact Or.inr ⟨q, vm₁, B, X₁.warmed, X', hpost, hstep₁ _ fun acts => by rw [doInvoke_state]; exact hsteps⟩
theorem vx_callS (X : Stand p l e R s m args below meth c T locs cells slots) (hexec : p.tables.exec = Jvm.exec) {own : String} {index : Nat} {y : MethodName} {bytes : ByteArray} {maxL : Nat} {ret : Option FieldType}
    (hown : s.vm.findClass own = some m.cls) (hlink : (Cond.methodLink own index y).before args s = true) (hstat : (Cond.static y).before args s = true) (hinit : (Cond.initialized y.cls).before args s = true)
    (hcode : (Cond.code y bytes maxL ret).before args s = true) (hy : y.cls ≠ "java/lang/invoke/MethodHandle" ∧ y.cls ≠ "java/lang/invoke/VarHandle")
    {W9 : Nat} {Pre : Pt → Array Value → Prop} {Post : Pt → Array Value → Option Value → Pt → Prop} {PostX : Pt → Array Value → Addr → Pt → Prop} (hK : vx_Back l R p e below s args y 3 W9 Pre Post PostX)
    {g : JFrame} (hg : g.method = m) (hsize : g.locals.size = c.maxLocals) {argsL rest : List Value} (hlen : ∀ sig, parseMethodDescriptor y.desc = some sig → argsL.length = sig.parameters.length)
    (hstack : g.stack = argsL.reverse ++ rest) (hW : 2 * g.monitorRoom + (rest.map fun v => v.category).sum ≤ W9) (hdg : decode c.code g.pc = .ok (.invokestatic index, 3))
    (hpre : ∀ vm₁, s.WarmedH vm₁ → Pre ⟨T.setVm vm₁, locs, cells, slots⟩ argsL.toArray) :
    (∃ (v : Option Value) (vm₁ : Vm) (B : Pt), s.WarmedH vm₁ ∧ Stand p l e R s m args below meth c B.U B.locs B.cells B.slots ∧ Post ⟨T.setVm vm₁, locs, cells, slots⟩ argsL.toArray v B ∧
      ∀ target, Steps p.tables e below (B.U.setTop { g with pc := g.pc + 3, stack := v.toList ++ rest }) target → Steps p.tables e below (T.setTop g) target) ∨
    (∃ (q : Addr) (vm₁ : Vm) (B : Pt), s.WarmedH vm₁ ∧ Stand p l e R s m args below meth c B.U B.locs B.cells B.slots ∧ PostX ⟨T.setVm vm₁, locs, cells, slots⟩ argsL.toArray q B ∧
      Steps p.tables e below (T.setTop g) ((B.U.setTop { g with stack := rest }).pushFrame (.throwing q))) := by
  obtain ⟨mk, hnamed⟩ := Cond.code_named hcode
  obtain ⟨methM, cM, hmethM, -, -, -, -, -, -, hsigM⟩ := Cond.code_spec hnamed hcode
  have hstatic : methM.isStatic = true := Cond.static_spec hnamed hmethM hstat
  obtain ⟨kP, hkP, -⟩ := className_of_methodNamed hnamed
  have hinitP : kP.init = .initialized := Cond.initialized_spec (findClass_of_methodNamed hnamed) hkP hinit
  obtain ⟨vm₁, X₁, hstep₁⟩ := X.invokestatic hexec hown hlink hnamed hmethM hstatic hkP hinitP hy (g := g) hg (argsL := argsL) (rest := rest) (hlen _ hsigM) hstack hdg
  rcases hK m meth c ⟨T.setVm vm₁, locs, cells, slots⟩ { g with stack := rest } (.invokestatic index) mk argsL.toArray X₁ hg hsize hdg hW (X₁.named hnamed) (hpre vm₁ X₁.warmed) with ⟨v, B, X', hpost, hsteps⟩ | ⟨q, B, X', hpost, hsteps⟩
  · exact Or.inl ⟨v, vm₁, B, X₁.warmed, X', hpost, fun target h => hstep₁ _ fun acts => by rw [doInvoke_state]; exact hsteps.trans h⟩
  · exact Or.inr ⟨q, vm₁, B, X₁.warmed, X', hpost, hstep₁ _ fun acts => by rw [doInvoke_state]; exact hsteps⟩
end Calls
theorem vx_cls {s : State} {T : State} {vm₁ : Vm} {E : String} {k : ClassId} (hW : s.WarmedH vm₁) (h : (T.setVm vm₁).vm.findClass E = some k) : s.vm.findClass E = some k := by
  have h1 : vm₁.findClass E = some k := h
  rw [hW.alike.findClass] at h1
  exact h1
/-- the method's frame g, with q thrown over it -/
def vx_W (p : Program) (l : Launch) (e : Env) (R : Room) (s : State) (m : MethodId) (args : Array Value) (below : List Frame) (meth : Method) (c : Code) (H : Heap) (locs : List Loc) (cells slots : Nat) (Q : State → Prop) (g : JFrame) (q : Addr) : Prop :=
  ∀ T : State, T.heap = H → Stand p l e R s m args below meth c T locs cells slots → ∃ t, Steps p.tables e below ((T.setTop g).pushFrame (.throwing q)) t ∧ Q t
def vx_Run (p : Program) (l : Launch) (e : Env) (R : Room) (s : State) (m : MethodId) (args : Array Value) (below : List Frame) (meth : Method) (c : Code) (H : Heap) (locs : List Loc) (cells slots mc ms : Nat) (g : JFrame) (rest : List Value) (Qa : State → Outcome → State → Prop) (XC : String → State → State → Prop) (free : Addr → Prop) : Prop :=
  ∀ T : State, T.heap = H → Stand p l e R s m args below meth c T locs cells slots →
    (∃ (v : Option Value) (st₀ t T' : State) (L : List Loc), st₀.heap = H ∧ Stand p l e R s m args below meth c T' (locs ++ L) (cells + mc) (slots + ms) ∧ (∀ q ∈ L, free q.base) ∧ T'.heap = t.heap ∧ T'.vm = t.vm ∧ Qa st₀ (.returned v) t ∧
      Goes p e below T g T' { g with pc := g.pc + 3, stack := v.toList ++ rest }) ∨
    (∃ (q : Addr) (st₀ t T' : State) (L : List Loc) (E : String) (ce : Cell), st₀.heap = H ∧ Stand p l e R s m args below meth c T' (locs ++ L) (cells + mc) (slots + ms) ∧ (∀ z ∈ L, free z.base) ∧ T'.heap = t.heap ∧ T'.vm = t.vm ∧ XC E st₀ t ∧ t.heap[q]? = some ce ∧ ce.vm = .none ∧ s.vm.findClass E = some ce.cls ∧
      Steps p.tables e below (T.setTop g) ((T'.setTop { g with stack := rest }).pushFrame (.throwing q)))
def vx_X {S : Type} (px : S → Prop) (B : String → S → State → Prop) (A : Nat → Prop) : String → State → State → Prop := fun E st t => ∃ u : S, px u ∧ B E u t ∧ va_F A st t
section Runs
variable {p : Program} {l : Launch} {e : Env} {R : Room} {s : State} {m : MethodId} {args : Array Value} {below : List Frame} {meth : Method} {c : Code} {H : Heap} {locs : List Loc} {cells slots : Nat}
variable {y : MethodName} {bytes cc : ByteArray} {maxL nL mc ms n index : Nat} {ret : Option FieldType} {ws : List Cond} {rm : Room} {Pc : Array Value → State → Prop} {Qc : Array Value → State → Outcome → State → Prop} {XC : String → State → State → Prop} {free : Addr → Prop} {Ts : List Cond} {own C : String} {b : Addr} {As rest : List Value} {g : JFrame}
theorem vx_callBack (cb : CallB R s args own index y bytes maxL ret ws rm mc ms n) (hM : vx_Met l y ws rm Pc Qc XC mc ms free) (hbl : FrameBlind Pc) : vx_Back l R p e below s args y 3 8 (PreOf R mc ms Pc) (PostOf Qc mc ms free) (vx_Post XC mc ms free) := by
  obtain ⟨hrc, hrs, hfr, hlo, hws, hcw, -, hini, -⟩ := cb
  exact vx_back (bytes := bytes) (maxL := maxL) (ret := ret) hM hbl hrc hrs hfr hlo hws hcw (fun a' U hW => word_at hW (Or.inl (by first | rfl | simp [Cond.onTables, Cond.keeps, Cond.steady])) hini)
theorem vx_runV (S : CallFix p m c cc nL s args Ts own) (hM : vx_Met l y ws rm Pc Qc XC mc ms free) (cw : CallW R s args own C index y bytes maxL ret ws rm mc ms n) (hp : PreV s H C b Pc As)
    (hg : g.method = m) (hn : As.length = n) (hsize : g.locals.size = nL) (hstack : g.stack = As.reverse ++ .ref b :: rest) (hW : 2 * g.monitorRoom + (rest.map fun v => v.category).sum ≤ 8) (hdg : decode cc g.pc = .ok (.invokevirtual index, 3)) (hf : cells + mc ≤ R.cells ∧ slots + ms ≤ R.slots) :
    vx_Run p l e R s m args below meth c H locs cells slots mc ms g rest (Qc (Value.ref b :: As).toArray) XC free := by
  have hK : vx_Back l R p e below s args y 3 8 (PreOf R mc ms Pc) (PostOf Qc mc ms free) (vx_Post XC mc ms free) := vx_callBack cw.1 hM hp.1
  obtain ⟨⟨-, -, -, -, -, -, hcode, -, hy, hlen, hl⟩, hin, hse⟩ := cw
  obtain ⟨hx, hb, hml, ho, -⟩ := S
  obtain ⟨-, ⟨cellB, hcB, hoB, hclB⟩, hPc⟩ := hp
  intro T hT X
  rcases vx_callV X hx (C := C) (bytes := bytes) (maxL := maxL) (ret := ret) ho hl hin hse hcode hy hK (by rw [hT]; exact hcB) hoB hclB hg (hsize.trans hml.symm) (argsL := As) (rest := rest) (fun sig h => hn.trans (hlen sig h)) hstack hW (by rw [hb]; exact hdg)
    (fun vm₁ hW₁ => ⟨hf.1, hf.2, hPc (T.setVm vm₁) hT hW₁⟩) with ⟨v, vm₁, ⟨U', l2, c2, s2⟩, hW₁, X', ⟨g', mk, t, L, e1, e2, hq, h1, hL, h2, h3⟩, st⟩ | ⟨q, vm₁, ⟨U', l2, c2, s2⟩, hW₁, X', ⟨g', mk, t, L, E, ce, e1, e2, hq, hce, hcv, hcl, h1, hL, h2, h3⟩, st⟩
  · dsimp only [Pt.U, Pt.locs, Pt.cells, Pt.slots] at X' e1 e2 h1 h2 h3 st
    subst h1; subst h2; subst h3
    exact Or.inl ⟨v, (T.setVm vm₁).calling g' mk (Value.ref b :: As).toArray, t, U', L, hT, X', hL, e1, e2, hq, st⟩
  · dsimp only [Pt.U, Pt.locs, Pt.cells, Pt.slots] at X' e1 e2 h1 h2 h3 st hcl
    subst h1; subst h2; subst h3
    exact Or.inr ⟨q, (T.setVm vm₁).calling g' mk (Value.ref b :: As).toArray, t, U', L, E, ce, hT, X', hL, e1, e2, hq, hce, hcv, vx_cls hW₁ hcl, st⟩
theorem vx_runS (S : CallFix p m c cc nL s args Ts own) (hM : vx_Met l y ws rm Pc Qc XC mc ms free) (cw : CallB R s args own index y bytes maxL ret ws rm mc ms n ∧ (Cond.static y).before args s = true) (hp : PreS s H Pc As)
    (hg : g.method = m) (hn : As.length = n) (hsize : g.locals.size = nL) (hstack : g.stack = As.reverse ++ rest) (hW : 2 * g.monitorRoom + (rest.map fun v => v.category).sum ≤ 8) (hdg : decode cc g.pc = .ok (.invokestatic index, 3)) (hf : cells + mc ≤ R.cells ∧ slots + ms ≤ R.slots) :
    vx_Run p l e R s m args below meth c H locs cells slots mc ms g rest (Qc As.toArray) XC free := by
  have hK : vx_Back l R p e below s args y 3 8 (PreOf R mc ms Pc) (PostOf Qc mc ms free) (vx_Post XC mc ms free) := vx_callBack cw.1 hM hp.1
  obtain ⟨⟨-, -, -, -, -, -, hcode, hini, hy, hlen, hl⟩, hstt⟩ := cw
  obtain ⟨hx, hb, hml, ho, -⟩ := S
  intro T hT X
  rcases vx_callS X hx (bytes := bytes) (maxL := maxL) (ret := ret) ho hl hstt hini hcode hy hK hg (hsize.trans hml.symm) (argsL := As) (rest := rest) (fun sig h => hn.trans (hlen sig h)) hstack hW (by rw [hb]; exact hdg)
    (fun vm₁ hW₁ => ⟨hf.1, hf.2, hp.2 (T.setVm vm₁) hT hW₁⟩) with ⟨v, vm₁, ⟨U', l2, c2, s2⟩, hW₁, X', ⟨g', mk, t, L, e1, e2, hq, h1, hL, h2, h3⟩, st⟩ | ⟨q, vm₁, ⟨U', l2, c2, s2⟩, hW₁, X', ⟨g', mk, t, L, E, ce, e1, e2, hq, hce, hcv, hcl, h1, hL, h2, h3⟩, st⟩
  · dsimp only [Pt.U, Pt.locs, Pt.cells, Pt.slots] at X' e1 e2 h1 h2 h3 st
    subst h1; subst h2; subst h3
    exact Or.inl ⟨v, (T.setVm vm₁).calling g' mk As.toArray, t, U', L, hT, X', hL, e1, e2, hq, st⟩
  · dsimp only [Pt.U, Pt.locs, Pt.cells, Pt.slots] at X' e1 e2 h1 h2 h3 st hcl
    subst h1; subst h2; subst h3
    exact Or.inr ⟨q, (T.setVm vm₁).calling g' mk As.toArray, t, U', L, E, ce, hT, X', hL, e1, e2, hq, hce, hcv, vx_cls hW₁ hcl, st⟩
end Runs
section Rows
variable {p : Program} {l : Launch} {e : Env} {R : Room} {s : State} {m : MethodId} {args : Array Value} {below : List Frame} {meth : Method} {c : Code} {H : Heap} {locs : List Loc} {cells slots : Nat} {Q : State → Prop}
variable {mc ms : Nat} {free : Addr → Prop} {A0 A1 : Nat → Prop} {H0 : Heap} {a : Array Value} {pc : Nat} {ls : Array Slot} {st0 rest : List Value}
theorem vx_keep {st₀ t T' : State} {L : List Loc} (h0 : st₀.heap = H) (e1 : T'.heap = t.heap) (hS : va_S A0 H0 H locs) (hA : ∀ q, q < H.size → A1 q → A0 q) (hf : ∀ q, free q → A0 q) (hL : ∀ q ∈ L, free q.base) (hF : va_F A1 st₀ t) :
    H.size ≤ T'.heap.size ∧ (∀ q : Nat, q < H.size → ¬ A1 q → T'.heap[q]? = H[q]?) ∧ va_S A0 H0 T'.heap (locs ++ L) := by
  obtain ⟨hz, hk⟩ := hF
  rw [h0] at hz hk
  exact ⟨by rw [e1]; exact hz, fun q h1 h2 => by rw [e1]; exact hk q h1 h2,
    ⟨Nat.le_trans hS.1 (by rw [e1]; exact hz), fun q h1 h2 => by rw [e1, hk q (Nat.lt_of_lt_of_le h1 hS.1) (fun z => h2 (hA q (Nat.lt_of_lt_of_le h1 hS.1) z))]; exact hS.2.1 q h1 h2, fun q hq => by
      rcases List.mem_append.mp hq with h | h
      · exact hS.2.2 q h
      · exact hf _ (hL q h)⟩⟩
theorem vx_calli {S SX : Type} {post : Int32 → S → Prop} {px : SX → Prop} {B : S → State → Prop} {BX : String → SX → State → Prop} {AX : Nat → Prop} (hr : vx_Run p l e R s m args below meth c H locs cells slots mc ms (F0 m pc ls st0) rest (va_Qi post B A1 a) (vx_X px BX AX) free) (hS : va_S A0 H0 H locs) (hA : ∀ q, q < H.size → A1 q → A0 q) (hf : ∀ q, free q → A0 q) (hAX : ∀ q, q < H.size → AX q → A0 q)
    (kx : ∀ (E : String) (ce : Cell) (q9 : Addr) (u : SX) (t : State) (H1 : Heap) (locs1 : List Loc), t.heap = H1 → s.vm.Alike t.vm → px u → BX E u t → H.size ≤ H1.size → (∀ q : Nat, q < H.size → ¬ AX q → H1[q]? = H[q]?) → va_S A0 H0 H1 locs1 → H1[q9]? = some ce → ce.vm = .none → s.vm.findClass E = some ce.cls → vx_W p l e R s m args below meth c H1 locs1 (cells + mc) (slots + ms) Q (F0 m pc ls rest) q9)
    (kk : ∀ (r : Int32) (u : S) (t : State) (H1 : Heap) (locs1 : List Loc), t.heap = H1 → s.vm.Alike t.vm → post r u → B u t → H.size ≤ H1.size → (∀ q : Nat, q < H.size → ¬ A1 q → H1[q]? = H[q]?) → va_S A0 H0 H1 locs1 → W p l e R s m args below meth c H1 locs1 (cells + mc) (slots + ms) Q (F0 m (pc + 3) ls (.int r :: rest))) : W p l e R s m args below meth c H locs cells slots Q (F0 m pc ls st0) := by
  intro T hT X
  rcases hr T hT X with ⟨v, st₀, t, T', L, h0, X', hL, e1, e2, ⟨⟨r, u, hv, hp, hb⟩, hF⟩, st⟩ | ⟨q, st₀, t, T', L, E, ce, h0, X', hL, e1, e2, ⟨u, hp, hb, hF⟩, hce, hcv, hcl, st⟩
  · cases hv
    obtain ⟨k1, k2, k3⟩ := vx_keep h0 e1 hS hA hf hL hF
    obtain ⟨t2, a1, b1⟩ := kk r u t T'.heap (locs ++ L) e1.symm (by rw [← e2]; exact X'.warmed.alike) hp hb k1 k2 k3 T' rfl X'
    exact ⟨t2, st t2 a1, b1⟩
  · obtain ⟨k1, k2, k3⟩ := vx_keep h0 e1 hS hAX hf hL hF
    obtain ⟨t2, a1, b1⟩ := kx E ce q u t T'.heap (locs ++ L) e1.symm (by rw [← e2]; exact X'.warmed.alike) hp hb k1 k2 k3 (by rw [e1]; exact hce) hcv hcl T' rfl X'
    exact ⟨t2, st.trans a1, b1⟩
theorem vx_calll {S SX : Type} {post : Int64 → S → Prop} {px : SX → Prop} {B : S → State → Prop} {BX : String → SX → State → Prop} {AX : Nat → Prop} (hr : vx_Run p l e R s m args below meth c H locs cells slots mc ms (F0 m pc ls st0) rest (va_Ql post B A1 a) (vx_X px BX AX) free) (hS : va_S A0 H0 H locs) (hA : ∀ q, q < H.size → A1 q → A0 q) (hf : ∀ q, free q → A0 q) (hAX : ∀ q, q < H.size → AX q → A0 q)
    (kx : ∀ (E : String) (ce : Cell) (q9 : Addr) (u : SX) (t : State) (H1 : Heap) (locs1 : List Loc), t.heap = H1 → s.vm.Alike t.vm → px u → BX E u t → H.size ≤ H1.size → (∀ q : Nat, q < H.size → ¬ AX q → H1[q]? = H[q]?) → va_S A0 H0 H1 locs1 → H1[q9]? = some ce → ce.vm = .none → s.vm.findClass E = some ce.cls → vx_W p l e R s m args below meth c H1 locs1 (cells + mc) (slots + ms) Q (F0 m pc ls rest) q9)
    (kk : ∀ (r : Int64) (u : S) (t : State) (H1 : Heap) (locs1 : List Loc), t.heap = H1 → s.vm.Alike t.vm → post r u → B u t → H.size ≤ H1.size → (∀ q : Nat, q < H.size → ¬ A1 q → H1[q]? = H[q]?) → va_S A0 H0 H1 locs1 → W p l e R s m args below meth c H1 locs1 (cells + mc) (slots + ms) Q (F0 m (pc + 3) ls (.long r :: rest))) : W p l e R s m args below meth c H locs cells slots Q (F0 m pc ls st0) := by
  intro T hT X
  rcases hr T hT X with ⟨v, st₀, t, T', L, h0, X', hL, e1, e2, ⟨⟨r, u, hv, hp, hb⟩, hF⟩, st⟩ | ⟨q, st₀, t, T', L, E, ce, h0, X', hL, e1, e2, ⟨u, hp, hb, hF⟩, hce, hcv, hcl, st⟩
  · cases hv
    obtain ⟨k1, k2, k3⟩ := vx_keep h0 e1 hS hA hf hL hF
    obtain ⟨t2, a1, b1⟩ := kk r u t T'.heap (locs ++ L) e1.symm (by rw [← e2]; exact X'.warmed.alike) hp hb k1 k2 k3 T' rfl X'
    exact ⟨t2, st t2 a1, b1⟩
  · obtain ⟨k1, k2, k3⟩ := vx_keep h0 e1 hS hAX hf hL hF
    obtain ⟨t2, a1, b1⟩ := kx E ce q u t T'.heap (locs ++ L) e1.symm (by rw [← e2]; exact X'.warmed.alike) hp hb k1 k2 k3 (by rw [e1]; exact hce) hcv hcl T' rfl X'
    exact ⟨t2, st.trans a1, b1⟩
theorem vx_callf {S SX : Type} {post : UInt32 → S → Prop} {px : SX → Prop} {B : S → State → Prop} {BX : String → SX → State → Prop} {AX : Nat → Prop} (hr : vx_Run p l e R s m args below meth c H locs cells slots mc ms (F0 m pc ls st0) rest (va_Qf post B A1 a) (vx_X px BX AX) free) (hS : va_S A0 H0 H locs) (hA : ∀ q, q < H.size → A1 q → A0 q) (hf : ∀ q, free q → A0 q) (hAX : ∀ q, q < H.size → AX q → A0 q)
    (kx : ∀ (E : String) (ce : Cell) (q9 : Addr) (u : SX) (t : State) (H1 : Heap) (locs1 : List Loc), t.heap = H1 → s.vm.Alike t.vm → px u → BX E u t → H.size ≤ H1.size → (∀ q : Nat, q < H.size → ¬ AX q → H1[q]? = H[q]?) → va_S A0 H0 H1 locs1 → H1[q9]? = some ce → ce.vm = .none → s.vm.findClass E = some ce.cls → vx_W p l e R s m args below meth c H1 locs1 (cells + mc) (slots + ms) Q (F0 m pc ls rest) q9)
    (kk : ∀ (r : UInt32) (u : S) (t : State) (H1 : Heap) (locs1 : List Loc), t.heap = H1 → s.vm.Alike t.vm → post r u → B u t → H.size ≤ H1.size → (∀ q : Nat, q < H.size → ¬ A1 q → H1[q]? = H[q]?) → va_S A0 H0 H1 locs1 → W p l e R s m args below meth c H1 locs1 (cells + mc) (slots + ms) Q (F0 m (pc + 3) ls (.float r :: rest))) : W p l e R s m args below meth c H locs cells slots Q (F0 m pc ls st0) := by
  intro T hT X
  rcases hr T hT X with ⟨v, st₀, t, T', L, h0, X', hL, e1, e2, ⟨⟨r, u, hv, hp, hb⟩, hF⟩, st⟩ | ⟨q, st₀, t, T', L, E, ce, h0, X', hL, e1, e2, ⟨u, hp, hb, hF⟩, hce, hcv, hcl, st⟩
  · cases hv
    obtain ⟨k1, k2, k3⟩ := vx_keep h0 e1 hS hA hf hL hF
    obtain ⟨t2, a1, b1⟩ := kk r u t T'.heap (locs ++ L) e1.symm (by rw [← e2]; exact X'.warmed.alike) hp hb k1 k2 k3 T' rfl X'
    exact ⟨t2, st t2 a1, b1⟩
  · obtain ⟨k1, k2, k3⟩ := vx_keep h0 e1 hS hAX hf hL hF
    obtain ⟨t2, a1, b1⟩ := kx E ce q u t T'.heap (locs ++ L) e1.symm (by rw [← e2]; exact X'.warmed.alike) hp hb k1 k2 k3 (by rw [e1]; exact hce) hcv hcl T' rfl X'
    exact ⟨t2, st.trans a1, b1⟩
theorem vx_calld {S SX : Type} {post : UInt64 → S → Prop} {px : SX → Prop} {B : S → State → Prop} {BX : String → SX → State → Prop} {AX : Nat → Prop} (hr : vx_Run p l e R s m args below meth c H locs cells slots mc ms (F0 m pc ls st0) rest (va_Qd post B A1 a) (vx_X px BX AX) free) (hS : va_S A0 H0 H locs) (hA : ∀ q, q < H.size → A1 q → A0 q) (hf : ∀ q, free q → A0 q) (hAX : ∀ q, q < H.size → AX q → A0 q)
    (kx : ∀ (E : String) (ce : Cell) (q9 : Addr) (u : SX) (t : State) (H1 : Heap) (locs1 : List Loc), t.heap = H1 → s.vm.Alike t.vm → px u → BX E u t → H.size ≤ H1.size → (∀ q : Nat, q < H.size → ¬ AX q → H1[q]? = H[q]?) → va_S A0 H0 H1 locs1 → H1[q9]? = some ce → ce.vm = .none → s.vm.findClass E = some ce.cls → vx_W p l e R s m args below meth c H1 locs1 (cells + mc) (slots + ms) Q (F0 m pc ls rest) q9)
    (kk : ∀ (r : UInt64) (u : S) (t : State) (H1 : Heap) (locs1 : List Loc), t.heap = H1 → s.vm.Alike t.vm → post r u → B u t → H.size ≤ H1.size → (∀ q : Nat, q < H.size → ¬ A1 q → H1[q]? = H[q]?) → va_S A0 H0 H1 locs1 → W p l e R s m args below meth c H1 locs1 (cells + mc) (slots + ms) Q (F0 m (pc + 3) ls (.double r :: rest))) : W p l e R s m args below meth c H locs cells slots Q (F0 m pc ls st0) := by
  intro T hT X
  rcases hr T hT X with ⟨v, st₀, t, T', L, h0, X', hL, e1, e2, ⟨⟨r, u, hv, hp, hb⟩, hF⟩, st⟩ | ⟨q, st₀, t, T', L, E, ce, h0, X', hL, e1, e2, ⟨u, hp, hb, hF⟩, hce, hcv, hcl, st⟩
  · cases hv
    obtain ⟨k1, k2, k3⟩ := vx_keep h0 e1 hS hA hf hL hF
    obtain ⟨t2, a1, b1⟩ := kk r u t T'.heap (locs ++ L) e1.symm (by rw [← e2]; exact X'.warmed.alike) hp hb k1 k2 k3 T' rfl X'
    exact ⟨t2, st t2 a1, b1⟩
  · obtain ⟨k1, k2, k3⟩ := vx_keep h0 e1 hS hAX hf hL hF
    obtain ⟨t2, a1, b1⟩ := kx E ce q u t T'.heap (locs ++ L) e1.symm (by rw [← e2]; exact X'.warmed.alike) hp hb k1 k2 k3 (by rw [e1]; exact hce) hcv hcl T' rfl X'
    exact ⟨t2, st.trans a1, b1⟩
theorem vx_callv {S SX : Type} {post : S → Prop} {px : SX → Prop} {B : S → State → Prop} {BX : String → SX → State → Prop} {AX : Nat → Prop} (hr : vx_Run p l e R s m args below meth c H locs cells slots mc ms (F0 m pc ls st0) rest (va_Qv post B A1 a) (vx_X px BX AX) free) (hS : va_S A0 H0 H locs) (hA : ∀ q, q < H.size → A1 q → A0 q) (hf : ∀ q, free q → A0 q) (hAX : ∀ q, q < H.size → AX q → A0 q)
    (kx : ∀ (E : String) (ce : Cell) (q9 : Addr) (u : SX) (t : State) (H1 : Heap) (locs1 : List Loc), t.heap = H1 → s.vm.Alike t.vm → px u → BX E u t → H.size ≤ H1.size → (∀ q : Nat, q < H.size → ¬ AX q → H1[q]? = H[q]?) → va_S A0 H0 H1 locs1 → H1[q9]? = some ce → ce.vm = .none → s.vm.findClass E = some ce.cls → vx_W p l e R s m args below meth c H1 locs1 (cells + mc) (slots + ms) Q (F0 m pc ls rest) q9)
    (kk : ∀ (u : S) (t : State) (H1 : Heap) (locs1 : List Loc), t.heap = H1 → s.vm.Alike t.vm → post u → B u t → H.size ≤ H1.size → (∀ q : Nat, q < H.size → ¬ A1 q → H1[q]? = H[q]?) → va_S A0 H0 H1 locs1 → W p l e R s m args below meth c H1 locs1 (cells + mc) (slots + ms) Q (F0 m (pc + 3) ls (rest))) : W p l e R s m args below meth c H locs cells slots Q (F0 m pc ls st0) := by
  intro T hT X
  rcases hr T hT X with ⟨v, st₀, t, T', L, h0, X', hL, e1, e2, ⟨⟨u, hv, hp, hb⟩, hF⟩, st⟩ | ⟨q, st₀, t, T', L, E, ce, h0, X', hL, e1, e2, ⟨u, hp, hb, hF⟩, hce, hcv, hcl, st⟩
  · cases hv
    obtain ⟨k1, k2, k3⟩ := vx_keep h0 e1 hS hA hf hL hF
    obtain ⟨t2, a1, b1⟩ := kk u t T'.heap (locs ++ L) e1.symm (by rw [← e2]; exact X'.warmed.alike) hp hb k1 k2 k3 T' rfl X'
    exact ⟨t2, st t2 a1, b1⟩
  · obtain ⟨k1, k2, k3⟩ := vx_keep h0 e1 hS hAX hf hL hF
    obtain ⟨t2, a1, b1⟩ := kx E ce q u t T'.heap (locs ++ L) e1.symm (by rw [← e2]; exact X'.warmed.alike) hp hb k1 k2 k3 (by rw [e1]; exact hce) hcv hcl T' rfl X'
    exact ⟨t2, st.trans a1, b1⟩
/-- caught by the row x of this method's table; the rows ahead don't take it -/
theorem vx_catch {own name : String} {E : String} {ce : Cell} {q : Addr} (hown : s.vm.findClass own = some m.cls) (pre : List ExceptionTableEntry) (x : ExceptionTableEntry) (suf : List ExceptionTableEntry) (hsplit : c.exceptionTable.toList = pre ++ x :: suf)
    (hpass : ∀ z ∈ pre, covers z pc = false ∨ (z.catchType ≠ 0 ∧ ∃ nm : String, (Cond.classLink own z.catchType nm).before args s = true ∧ va_Nc E nm s)) (hx : covers x pc = true) (h0 : x.catchType ≠ 0)
    (hlink : (Cond.classLink own x.catchType name).before args s = true) (hcast : (Cond.castable E name).before args s = true) (hcell : H[q]? = some ce) (hv : ce.vm = .none) (hcl : s.vm.findClass E = some ce.cls)
    (kk : W p l e R s m args below meth c H locs cells slots Q (F0 m x.handlerPc ls [.ref q])) : vx_W p l e R s m args below meth c H locs cells slots Q (F0 m pc ls rest) q := by
  intro T hT X
  have hpl : e.platform.magicAccessors = ({} : Platform).magicAccessors := by rw [X.admits.platform]
  obtain ⟨c3, c4, hc3, hc4, hasg⟩ := Cond.castable_spec hcast
  cases Option.some.inj (hc3.symm.trans hcl)
  obtain ⟨c5, hc5, hcl5⟩ := Cond.classLink_spec hown hlink e.platform hpl
  cases Option.some.inj (hc4.symm.trans hc5)
  obtain ⟨vm', X', st⟩ := X.thenCaughtThrough q (g := F0 m pc ls rest) rfl (Steps.refl _) (by rw [hT]; exact hcell) (by rw [hv]; rfl) (by obtain ⟨k9, h9, -⟩ := Vm.findClass_spec hcl; exact ⟨k9, h9⟩) pre x suf hsplit
    (fun z hz => by
      rcases hpass z hz with h | ⟨hz0, nm, hl1, hn1⟩
      · exact Or.inl h
      · obtain ⟨c6, hc6, hcl6⟩ := Cond.classLink_spec hown hl1 e.platform hpl
        obtain ⟨a8, b8, h1, h2, h3⟩ := hn1
        cases Option.some.inj (h1.symm.trans hcl)
        cases Option.some.inj (h2.symm.trans hc6)
        exact Or.inr ⟨hz0, _, hcl6, h3⟩) hx (Or.inr ⟨h0, c4, hcl5, hasg⟩)
  obtain ⟨t, a1, b1⟩ := kk (T.setVm vm') hT X'
  exact ⟨t, st.trans a1, b1⟩
end Rows
section Ends
variable {p : Program} {l : Launch} {e : Env} {R : Room} {s : State} {m : MethodId} {args : Array Value} {below : List Frame} {meth : Method} {c : Code} {H : Heap} {locs : List Loc} {cells slots : Nat} {Q : State → Prop}
variable {mc ms : Nat} {free : Addr → Prop} {A0 A1 : Nat → Prop} {H0 : Heap} {a : Array Value} {ls : Array Slot} {st0 rest : List Value}
variable {Qc : Array Value → State → Outcome → State → Prop} {XC : String → State → State → Prop}
/-- what a body that may throw owes at its end -/
def vx_MQ (below : List Frame) (Qc : Array Value → State → Outcome → State → Prop) (XC : String → State → State → Prop) (a : Array Value) (s : State) (mc ms : Nat) (free : Addr → Prop) : State → Prop := fun t =>
  ∃ o, t.status = .running ∧ Ended t below o ∧ vx_Q Qc XC mc ms free a s o t
theorem vx_ret {g : JFrame} {mc ms : Nat} (k : W p l e R s m args below meth c H locs cells slots (MQ below Qc args s mc ms free) g) : W p l e R s m args below meth c H locs cells slots (vx_MQ below Qc XC args s mc ms free) g := by
  intro T hT X
  obtain ⟨t, a1, o, b1, b2, b3, b4⟩ := k T hT X
  exact ⟨t, a1, o, b1, b2, Or.inl ⟨b3, b4⟩⟩
/-- not caught here: it goes on to the caller -/
theorem vx_widen {g : JFrame} {q : Addr} {k n : Nat} (h1 : cells ≤ k) (h2 : slots ≤ n) (kk : vx_W p l e R s m args below meth c H locs k n Q g q) : vx_W p l e R s m args below meth c H locs cells slots Q g q := fun T hT X => kk T hT (stand_widen X h1 h2)
theorem vx_out {pc : Nat} {E : String} {ce : Cell} {q : Addr} {mc ms : Nat} (hout : ∀ x ∈ c.exceptionTable.toList, covers x pc = false) (hlocks : meth.locks = false) (hcell : H[q]? = some ce) (hv : ce.vm = .none) (hcl : s.vm.findClass E = some ce.cls)
    (hx : ∀ t : State, t.heap = H → s.vm.Alike t.vm → XC E s t) (hf : ∀ z ∈ locs, free z.base) (hc : cells ≤ mc) (hs : slots ≤ ms) :
    vx_W p l e R s m args below meth c H locs cells slots (vx_MQ below Qc XC args s mc ms free) (F0 m pc ls rest) q := by
  intro T hT X
  obtain ⟨st1, hrun, hend, hW, hsm⟩ := X.leaveThrown q (g := F0 m pc ls rest) rfl rfl rfl hout hlocks
  have hcell9 : (T.setFrames (.throwing q :: below)).heap[q]? = some ce := by
    show T.heap[q]? = some ce
    rw [hT]; exact hcell
  exact ⟨_, st1, .threw q, hrun, hend, Or.inr ⟨q, rfl, E, ce, locs, hx _ hT hW.alike, hcell9, hv, hcl, hW, hsm.mono hc hs, hf⟩⟩
theorem vx_frame {U : State} {k n : Nat} (h : s.sameButNew ({ U with vm := s.vm } : State) locs k n) : s.heap.size ≤ U.heap.size ∧ ∀ q : Nat, q < s.heap.size → (∀ z ∈ locs, z.base ≠ q) → U.heap[q]? = s.heap[q]? := by
  obtain ⟨-, h2, -, -, -, h6⟩ := h
  refine ⟨h2, fun q hq hz => ?_⟩
  obtain ⟨c9, e1, e2, e3, e4⟩ := h6 q _ (Array.getElem?_eq_getElem hq)
  have hs : c9.slots = (s.heap[q]).slots := Array.ext_getElem? fun i => e4 i fun hm => hz _ hm rfl
  have h9 : c9 = s.heap[q] := by
    rw [hs] at e2
    exact e2
  have e5 : U.heap[q]? = some c9 := e1
  rw [e5, h9, Array.getElem?_eq_getElem hq]
/-- the words of a throw but the four that speak of the heap -/
def vx_no (w : Cond) : Bool := decide (w ≠ .isRef (.static Bundle.tN "UNASSIGNED_STACK" Bundle.steD)) && decide (w ≠ .isRef (.static Bundle.tN "SUPPRESSED_SENTINEL" Bundle.listD)) && decide (w ≠ .laysStatic Bundle.tN "UNASSIGNED_STACK" Bundle.steD) && decide (w ≠ .laysStatic Bundle.tN "SUPPRESSED_SENTINEL" Bundle.listD)
def vx_at0 (own : String) (ic : Nat) (X : String) (names : List String) : List Cond := (Bundle.ownAtoms0 own ic X names).filter vx_no
def vx_atS (own : String) (ic : Nat) (X : String) (names : List String) : List Cond := (Bundle.ownAtoms own ic X names).filter vx_no
/-- a word that the tables alone decide, or a good one -/
def vx_ot (w : Cond) : Bool := w.onTables || goodWord w
theorem vx_ot_at {args a' : Array Value} {s U : State} {w : Cond} (hW : s.WarmedH U.vm) (hvm : s.vm = U.vm) (hg : vx_ot w = true) (h : w.before args s = true) : w.before a' U = true := by
  simp only [vx_ot, Bool.or_eq_true] at hg
  rcases hg with hg | hg
  · exact va_tabs hg hvm h
  · exact word_at hW (good_of_word hg) h
/-- a list's words: the good ones out of the method's own list, the others by premises of their own -/
theorem vx_hat {args : Array Value} {s : State} {L B : List Cond} (h1 : ∀ w ∈ L.filter goodWord, w.before args s = true) (h2 : ∀ w ∈ L.filter (fun w => !goodWord w), w ∈ B) (h3 : ∀ w ∈ B, w.before args s = true) : ∀ w ∈ L, w.before args s = true := by
  intro w hw
  by_cases g : goodWord w = true
  · exact h1 w (List.mem_filter.mpr ⟨hw, g⟩)
  · refine h3 w (h2 w (List.mem_filter.mpr ⟨hw, ?_⟩))
    show (!goodWord w) = true
    cases hgw : goodWord w
    · rfl
    · exact absurd hgw g
theorem vx_c {args : Array Value} {s : State} {w : Cond} {B : List Cond} (h : w.before args s = true) (t : ∀ w ∈ B, w.before args s = true) : ∀ w' ∈ w :: B, w'.before args s = true := fun w' h' => (List.mem_cons.mp h').elim (fun e => by rw [e]; exact h) (t w')
theorem vx_n {args : Array Value} {s : State} : ∀ w ∈ ([] : List Cond), w.before args s = true := fun _ h => nomatch h
theorem vx_own {args : Array Value} {s : State} {L : List Cond} (h1 : ∀ w ∈ L.filter vx_no, w.before args s = true)
    (hU : (Cond.isRef (.static Bundle.tN "UNASSIGNED_STACK" Bundle.steD)).before args s = true) (hN : (Cond.isRef (.static Bundle.tN "SUPPRESSED_SENTINEL" Bundle.listD)).before args s = true)
    (lU : (Cond.laysStatic Bundle.tN "UNASSIGNED_STACK" Bundle.steD).before args s = true) (lN : (Cond.laysStatic Bundle.tN "SUPPRESSED_SENTINEL" Bundle.listD).before args s = true) : ∀ w ∈ L, w.before args s = true := by
  intro w hw
  by_cases e1 : w = .isRef (.static Bundle.tN "UNASSIGNED_STACK" Bundle.steD)
  · rw [e1]; exact hU
  · by_cases e2 : w = .isRef (.static Bundle.tN "SUPPRESSED_SENTINEL" Bundle.listD)
    · rw [e2]; exact hN
    · by_cases e3 : w = .laysStatic Bundle.tN "UNASSIGNED_STACK" Bundle.steD
      · rw [e3]; exact lU
      · by_cases e4 : w = .laysStatic Bundle.tN "SUPPRESSED_SENTINEL" Bundle.listD
        · rw [e4]; exact lN
        · exact h1 w (List.mem_filter.mpr ⟨hw, by unfold vx_no; rw [decide_eq_true e1, decide_eq_true e2, decide_eq_true e3, decide_eq_true e4]; rfl⟩)
/-- where a static field lies, its class's statics cell in H -/
def vx_L (C n d : String) (A : Nat → Prop) (U : State) (H : Heap) : Prop := ∃ (c : ClassId) (k : Class) (i : Nat) (f : Field) (a : Nat) (cell : Cell), U.vm.findClass C = some c ∧ U.fieldFound? C n d = some (c, k, i, f) ∧ f.isStatic = true ∧ k.statics = some a ∧ H[a]? = some cell ∧ cell.vm.isStatics = true ∧ cell.cls = c ∧ f.slot < cell.slots.size ∧ k.staticTypes[f.slot]? = some f.type ∧ ¬ A a
theorem vx_L.moved {C n d : String} {A : Nat → Prop} {u U : State} {H : Heap} (hvm : u.vm.Alike U.vm) (h : vx_L C n d A u H) : vx_L C n d A U H := by
  obtain ⟨c, k, i, f, a, cell, h1, h2, h3, h4, h5, h6, h7, h8, h9, h10⟩ := h
  obtain ⟨k', hi', he⟩ := State.fieldFound?_setVm hvm h2
  exact ⟨c, k', i, f, a, cell, by rw [hvm.findClass]; exact h1, hi', h3, by rw [he]; exact h4, h5, h6, h7, h8, by rw [he]; exact h9, h10⟩
theorem vx_L.kept {C n d : String} {A : Nat → Prop} {U : State} {H H1 : Heap} (h : vx_L C n d A U H) (hq : ∀ a : Nat, a < H.size → ¬ A a → H1[a]? = H[a]?) : vx_L C n d A U H1 := by
  obtain ⟨c, k, i, f, a, cell, h1, h2, h3, h4, h5, h6, h7, h8, h9, h10⟩ := h
  exact ⟨c, k, i, f, a, cell, h1, h2, h3, h4, by rw [hq a (Array.getElem?_eq_some_iff.mp h5).1 h10]; exact h5, h6, h7, h8, h9, h10⟩
theorem vx_L.narrow {C n d : String} {A B : Nat → Prop} {U : State} {H : Heap} (h : vx_L C n d A U H) (hAB : ∀ q, B q → A q) : vx_L C n d B U H := by
  obtain ⟨c, k, i, f, a, cell, h1, h2, h3, h4, h5, h6, h7, h8, h9, h10⟩ := h
  exact ⟨c, k, i, f, a, cell, h1, h2, h3, h4, h5, h6, h7, h8, h9, fun z => h10 (hAB _ z)⟩
theorem vx_L.word {C n d : String} {A : Nat → Prop} {s : State} {args : Array Value} (h : vx_L C n d A s s.heap) : (Cond.laysStatic C n d).before args s = true := by
  obtain ⟨c, k, i, f, a, cell, h1, h2, h3, h4, h5, h6, h7, h8, h9, -⟩ := h
  show (Cond.laysStatic C n d).holds args s none s [] = true
  exact Cond.laysStatic_of h1 h2 h3 h4 h5 h6 h7 h8 h9
/-- .. and what it holds: null or some reference -/
def vx_Zq (C n d : String) (A : Nat → Prop) (U : State) (H : Heap) : Prop := va_Zq C n d A U H ∧ vx_L C n d A U H
theorem vx_Zq.moved {C n d : String} {A : Nat → Prop} {u U : State} {H : Heap} (hvm : u.vm.Alike U.vm) (h : vx_Zq C n d A u H) : vx_Zq C n d A U H := ⟨va_Zq.moved hvm h.1, vx_L.moved hvm h.2⟩
theorem vx_Zq.kept {C n d : String} {A : Nat → Prop} {U : State} {H H1 : Heap} (h : vx_Zq C n d A U H) (hq : ∀ a : Nat, a < H.size → ¬ A a → H1[a]? = H[a]?) : vx_Zq C n d A U H1 := ⟨va_Zq.kept h.1 hq, vx_L.kept h.2 hq⟩
theorem vx_Zq.narrow {C n d : String} {A B : Nat → Prop} {U : State} {H : Heap} (h : vx_Zq C n d A U H) (hAB : ∀ q, B q → A q) : vx_Zq C n d B U H := ⟨va_Zq.narrow h.1 hAB, vx_L.narrow h.2 hAB⟩
theorem vx_Zqof {args : Array Value} {s : State} {C n d : String} {A : Nat → Prop} (hl : (Cond.laysStatic C n d).before args s = true) (hini : (Cond.initialized C).before args s = true) (h : (Cond.isRef (.static C n d)).before args s = true) (hA : ∀ a : Nat, a < s.heap.size → ¬ A a) : vx_Zq C n d A s s.heap := by
  refine ⟨va_Zqof hl hini h hA, ?_⟩
  obtain ⟨c, k, i, f, a, cell, h1, h2, h3, h4, h5, h6, h7, h8, h9⟩ := Cond.laysStatic_spec hl
  exact ⟨c, k, i, f, a, cell, h1, h2, h3, h4, h5, h6, h7, h8, h9, hA a (Array.getElem?_eq_some_iff.mp h5).1⟩
theorem vx_isRef {C n d : String} {v : Value} {A : Nat → Prop} {s : State} {args : Array Value} (h : va_Z C n d v A s s.heap) (hv : v.isRef = true) : (Cond.isRef (.static C n d)).before args s = true := by
  obtain ⟨cf, kf, fi, f, a, cell, h1, h2, h3, h4, h5, h6, h7, -⟩ := h
  have he : (Term.static C n d).eval args s none [] s = some v := by
    simp [Term.eval, State.fieldNamed?, h1, h2, h4, h5, h6, h7]
  simp only [Cond.before, Cond.holds, Cond.value, he]
  cases v <;> simp_all [Value.isRef]
theorem vx_isRefq {C n d : String} {A : Nat → Prop} {s : State} {args : Array Value} (h : va_Zq C n d A s s.heap) : (Cond.isRef (.static C n d)).before args s = true := by
  rcases h with h | ⟨t, h⟩
  · exact vx_isRef h rfl
  · exact vx_isRef h rfl
/-- the same frame, seen from here: as if the method were called anew in this heap -/
theorem vx_rebase {T : State} (X : Stand p l e R s m args below meth c T locs cells slots) {R' : Room} (hf : R'.frames ≤ R.frames) (hl : R'.locals ≤ R.locals) (hc : cells + R'.cells ≤ R.cells) (hs : slots + R'.slots ≤ R.slots) :
    Stand p l e R' ((T.setVm s.vm).setFrames (.invoking m args :: below)) m args below meth c T [] 0 0 := by
  have htop : (T.setVm s.vm).topJava?.isSome := X.here.top
  have hF : ((T.setVm s.vm).setFrames (.invoking m args :: below)).frames = .invoking m args :: below := State.frames_setFrames _ (State.cur_lt_of_top htop)
  obtain ⟨g₀, hg0⟩ := Option.isSome_iff_exists.mp htop
  obtain ⟨r, hr⟩ := State.topJava?_eq_some.mp hg0
  have hl9 : e.platform.stackLimits (T.setVm s.vm).me = e.platform.stackLimits s.me := X.limits
  have hb9 : (T.setVm s.vm).me.stackBytes = s.me.stackBytes := X.bytes
  refine ⟨X.admits, X.cas, X.clock, hF, ?_, X.hears, X.method, X.code, X.here, X.tail, X.warmed, ?_, ?_, ?_⟩
  · have h := X.room
    have hU : ((T.setVm s.vm).setFrames (.invoking m args :: below)).localsInUse = s.localsInUse := by
      rw [State.localsInUse_invoking hF (meth := meth) (c := c) X.method X.code, State.localsInUse_invoking X.frames X.method X.code]
    simp only [State.hasRoom, Bool.and_eq_true, decide_eq_true_eq] at h ⊢
    obtain ⟨⟨⟨⟨h1, h2, h3, h4, h5, h6⟩, h7⟩, h8⟩, h9⟩ := h
    rw [X.frames, List.length_cons] at h2 h3
    have q1 := X.heapSize
    have q2 := X.used
    simp only [hF, hU, List.length_cons, State.stackLimits_setFrames, State.stackBytes_setFrames, hl9, hb9]
    refine ⟨⟨⟨⟨by omega, by omega, by omega, by omega, by omega, h6⟩, ?_⟩, ?_⟩, X.book⟩
    · show T.heap.size + R'.cells ≤ e.platform.maxCells
      omega
    · show T.slotsUsed + R'.slots ≤ e.platform.maxSlots
      omega
  · rw [State.stackLimits_setFrames]; rfl
  · rw [State.stackBytes_setFrames]; rfl
  · refine ⟨?_, Nat.le_refl _, Nat.le_refl _, ?_, ?_, fun a c9 h9 => ⟨c9, h9, rfl, rfl, fun _ _ => rfl⟩⟩
    · obtain ⟨t, ht, -⟩ := State.frames_cons hr
      show T.setVm s.vm = { ((T.setVm s.vm).setFrames (.invoking m args :: below)).setFrames (T.setVm s.vm).frames with heap := T.heap, slotsUsed := T.slotsUsed }
      rw [State.setFrames_setFrames, State.setFrames_self ht]
      rfl
    · show T.slotsUsed = T.slotsUsed + ((T.heap.toList.drop T.heap.size).map (·.slots.size)).sum
      rw [List.drop_eq_nil_of_le (Nat.le_of_eq Array.length_toList)]
      rfl
    · show ((T.heap.toList.drop T.heap.size).map (·.slots.size)).sum ≤ 0
      rw [List.drop_eq_nil_of_le (Nat.le_of_eq Array.length_toList)]
      exact Nat.le_refl _
/-- 'throw new E()': new; dup; invokespecial; athrow -/
theorem vx_throw0 {cc : ByteArray} {pc : Nat} (hexec : p.tables.exec = Jvm.exec) (hb : c.code = cc) (hl : l.stackTraces = false) {own cls : String} {names : List String} {ik ic mc ms : Nat} {A : Nat → Prop}
    (hown : s.vm.findClass own = some m.cls) (hcls : Bundle.fit cls = true) (hnames : ∀ n ∈ names, Bundle.fit n = true)
    (hk : (Cond.classLink own ik cls).before args s = true) (hini : (Cond.initialized cls).before args s = true) (hat : ∀ w ∈ vx_at0 own ic cls names, w.before args s = true)
    (hgood : ∀ w ∈ Cond.classLink own ik cls :: Cond.initialized cls :: vx_at0 own ic cls names, vx_ot w = true)
    (hU : vx_Zq Bundle.tN "UNASSIGNED_STACK" Bundle.steD A s s.heap) (hN : vx_Zq Bundle.tN "SUPPRESSED_SENTINEL" Bundle.listD A s s.heap) (hS : va_S A s.heap H locs) (hsize : ls.size = c.maxLocals)
    (d0 : decode cc pc = .ok (.new ik, 3)) (d3 : decode cc (pc + 3) = .ok (.dup, 1)) (d4 : decode cc (pc + 4) = .ok (.invokespecial ic, 3)) (d7 : decode cc (pc + 7) = .ok (.athrow, 1))
    (hout : ∀ x ∈ c.exceptionTable.toList, covers x (pc + 7) = false)
    (hRframes : names.length + 3 < R.frames) (hRlocals : (rest.map fun v => v.category).sum + (13 * (names.length + 1) + 42) ≤ R.locals) (hRcells : cells + 1 ≤ R.cells) (hRslots : slots + 6 ≤ R.slots) (hlocks : meth.locks = false)
    (hx : ∀ t : State, s.vm.Alike t.vm → H.size ≤ t.heap.size → (∀ q : Nat, q < H.size → t.heap[q]? = H[q]?) → XC cls s t)
    (hf : ∀ z ∈ locs, free z.base) (hc : cells + 1 ≤ mc) (hs : slots + 6 ≤ ms) :
    W p l e R s m args below meth c H locs cells slots (vx_MQ below Qc XC args s mc ms free) (F0 m pc ls rest) := by
  intro T hT X
  have htr : e.platform.stackTraces = false := (show e.platform.stackTraces = l.stackTraces by rw [X.admits.platform]).trans hl
  have Y := vx_rebase X (R' := { frames := R.frames, locals := R.locals, cells := 1, slots := 6 }) (Nat.le_refl _) (Nat.le_refl _) hRcells hRslots
  obtain ⟨s', hA⟩ : ∃ z, z = (T.setVm s.vm).setFrames (.invoking m args :: below) := ⟨_, rfl⟩
  rw [← hA] at Y
  have hvm : s'.vm = s.vm := by rw [hA]; rfl
  have hhp : s'.heap = H := by rw [hA]; exact hT
  have hW0 : s.WarmedH s'.vm := by rw [hvm]; exact State.WarmedH.refl s
  have hat' : ∀ w ∈ vx_at0 own ic cls names, w.before args s' = true := fun w hw => vx_ot_at hW0 hvm.symm (hgood w (List.mem_cons_of_mem _ (List.mem_cons_of_mem _ hw))) (hat w hw)
  have hk' : (Cond.classLink own ik cls).before args s' = true := vx_ot_at hW0 hvm.symm (hgood _ List.mem_cons_self) hk
  have hini' : (Cond.initialized cls).before args s' = true := vx_ot_at hW0 hvm.symm (hgood _ (List.mem_cons_of_mem _ List.mem_cons_self)) hini
  have hU' : vx_Zq Bundle.tN "UNASSIGNED_STACK" Bundle.steD A s' s'.heap := by rw [hhp]; exact vx_Zq.moved hW0.alike (hU.kept hS.2.1)
  have hN' : vx_Zq Bundle.tN "SUPPRESSED_SENTINEL" Bundle.listD A s' s'.heap := by rw [hhp]; exact vx_Zq.moved hW0.alike (hN.kept hS.2.1)
  have h : ∀ w ∈ Bundle.ownAtoms0 own ic cls names, w.before args s' = true := vx_own hat' (vx_isRefq hU'.1) (vx_isRefq hN'.1) hU'.2.word hN'.2.word
  have hown' : s'.vm.findClass own = some m.cls := by rw [hvm]; exact hown
  have hins : (Cond.instantiable cls 6).before args s' = true := h _ (by simp [Bundle.ownAtoms0])
  obtain ⟨vm₁, cX, kX, hfX, hkX, -, -, X₁, st1⟩ := Y.newCold hexec (own := own) (C := cls) (index := ik) (n := 6) hown' hk' hins hini'
    (g := F0 m pc ls rest) rfl (by rw [hb]; exact d0) (Nat.le_refl _) (Nat.le_refl _)
  generalize hT1 : (T.setVm vm₁).pushCell { cls := cX, slots := kX.instanceTypes.map defaultValue, vm := .none } = T1 at X₁ st1
  have hcat : (Value.ref T.heap.size).category = 1 := rfl
  have hcellA : T1.heap[T.heap.size]? = some (freshCell cX kX) := by rw [← hT1]; exact State.heap_pushCell_size _ _
  have d3' : decode c.code (pc + 3) = .ok (.dup, 1) := by rw [hb]; exact d3
  obtain ⟨U, hsteps, hrun, hend, hW, hsame, ce, hce, hO⟩ := X₁.ctorThrow0 hexec htr (own := own) (cls := cls) (names := names) (ic := ic) hown' hcls hnames h (fun x hx => nomatch hx) hfX hkX hcellA (by rw [hhp, hT]; exact Nat.le_refl _)
    (g := { method := m, pc := pc + 4, locals := ls, stack := .ref T.heap.size :: .ref T.heap.size :: rest, locked := none }) rfl hsize rfl rfl (rest := rest) rfl
    (by rw [hb]; exact d4) (by rw [hb]; exact d7) hout hRframes (by simp only [List.map_cons, List.sum_cons, hcat]; omega) hlocks
  obtain ⟨f1, f2⟩ := vx_frame hsame
  rw [hhp] at f1 f2
  have hWs : s.WarmedH U.vm := State.WarmedH.trans hW0 hW
  have hcl : s.vm.findClass cls = some ce.cls := by
    have h9 := hO.cls
    rw [hvm] at h9
    exact h9
  have hall : s.sameButNew ({ U with vm := s.vm } : State) locs mc ms := by
    subst hA
    obtain ⟨e1, e2⟩ := hsame
    rw [State.setFrames_setFrames] at e1
    have h2 : (T.setVm s.vm).sameButNew ({ U with vm := s.vm } : State) [] (0 + 1) (0 + 6) := ⟨e1, e2⟩
    have h3 := X.same.trans h2
    rw [List.append_nil] at h3
    exact h3.mono hc hs
  refine ⟨U, ?_, .threw T.heap.size, hrun, hend, Or.inr ⟨T.heap.size, rfl, cls, ce, locs, hx U hWs.alike f1 (fun q hq => f2 q hq (fun z hz => nomatch hz)), hce, hO.vm, hcl, hWs, hall, hf⟩⟩
  refine st1 _ ?_
  show Steps p.tables e below (T1.setTop { method := m, pc := pc + 3, locals := ls, stack := .ref T.heap.size :: rest, locked := none }) _
  jvm_step X₁.here [X₁.here.top, hexec, d3', Value.category]
  exact hsteps
/-- 'throw new E("text")': new; dup; ldc; invokespecial; athrow -/
theorem vx_throwS {cc : ByteArray} {pc : Nat} (hexec : p.tables.exec = Jvm.exec) (hb : c.code = cc) (hl : l.stackTraces = false) {own cls text : String} {names : List String} {ik is ic mc ms sa : Nat} {A : Nat → Prop}
    (hown : s.vm.findClass own = some m.cls) (hcls : Bundle.fit cls = true) (hnames : ∀ n ∈ names, Bundle.fit n = true)
    (hk : (Cond.classLink own ik cls).before args s = true) (hini : (Cond.initialized cls).before args s = true) (hstr : vk_R own is text sa s) (hat : ∀ w ∈ vx_atS own ic cls names, w.before args s = true)
    (hgood : ∀ w ∈ Cond.classLink own ik cls :: Cond.initialized cls :: vx_atS own ic cls names, vx_ot w = true)
    (hU : vx_Zq Bundle.tN "UNASSIGNED_STACK" Bundle.steD A s s.heap) (hN : vx_Zq Bundle.tN "SUPPRESSED_SENTINEL" Bundle.listD A s s.heap) (hS : va_S A s.heap H locs) (hsize : ls.size = c.maxLocals)
    (d0 : decode cc pc = .ok (.new ik, 3)) (d3 : decode cc (pc + 3) = .ok (.dup, 1)) (d4 : decode cc (pc + 4) = .ok (.ldc is, 2)) (d6 : decode cc (pc + 6) = .ok (.invokespecial ic, 3)) (d9 : decode cc (pc + 9) = .ok (.athrow, 1))
    (hout : ∀ x ∈ c.exceptionTable.toList, covers x (pc + 9) = false)
    (hRframes : names.length + 3 < R.frames) (hRlocals : (rest.map fun v => v.category).sum + (13 * (names.length + 1) + 43) ≤ R.locals) (hRcells : cells + 1 ≤ R.cells) (hRslots : slots + 6 ≤ R.slots) (hlocks : meth.locks = false)
    (hx : ∀ t : State, s.vm.Alike t.vm → H.size ≤ t.heap.size → (∀ q : Nat, q < H.size → t.heap[q]? = H[q]?) → XC cls s t)
    (hf : ∀ z ∈ locs, free z.base) (hc : cells + 1 ≤ mc) (hs : slots + 6 ≤ ms) :
    W p l e R s m args below meth c H locs cells slots (vx_MQ below Qc XC args s mc ms free) (F0 m pc ls rest) := by
  intro T hT X
  have htr : e.platform.stackTraces = false := (show e.platform.stackTraces = l.stackTraces by rw [X.admits.platform]).trans hl
  have Y := vx_rebase X (R' := { frames := R.frames, locals := R.locals, cells := 1, slots := 6 }) (Nat.le_refl _) (Nat.le_refl _) hRcells hRslots
  obtain ⟨s', hA⟩ : ∃ z, z = (T.setVm s.vm).setFrames (.invoking m args :: below) := ⟨_, rfl⟩
  rw [← hA] at Y
  have hvm : s'.vm = s.vm := by rw [hA]; rfl
  have hhp : s'.heap = H := by rw [hA]; exact hT
  have hW0 : s.WarmedH s'.vm := by rw [hvm]; exact State.WarmedH.refl s
  have hat' : ∀ w ∈ vx_atS own ic cls names, w.before args s' = true := fun w hw => vx_ot_at hW0 hvm.symm (hgood w (List.mem_cons_of_mem _ (List.mem_cons_of_mem _ hw))) (hat w hw)
  have hk' : (Cond.classLink own ik cls).before args s' = true := vx_ot_at hW0 hvm.symm (hgood _ List.mem_cons_self) hk
  have hini' : (Cond.initialized cls).before args s' = true := vx_ot_at hW0 hvm.symm (hgood _ (List.mem_cons_of_mem _ List.mem_cons_self)) hini
  have hU' : vx_Zq Bundle.tN "UNASSIGNED_STACK" Bundle.steD A s' s'.heap := by rw [hhp]; exact vx_Zq.moved hW0.alike (hU.kept hS.2.1)
  have hN' : vx_Zq Bundle.tN "SUPPRESSED_SENTINEL" Bundle.listD A s' s'.heap := by rw [hhp]; exact vx_Zq.moved hW0.alike (hN.kept hS.2.1)
  have h : ∀ w ∈ Bundle.ownAtoms own ic cls names, w.before args s' = true := vx_own hat' (vx_isRefq hU'.1) (vx_isRefq hN'.1) hU'.2.word hN'.2.word
  have hown' : s'.vm.findClass own = some m.cls := by rw [hvm]; exact hown
  have hins : (Cond.instantiable cls 6).before args s' = true := h _ (by simp [Bundle.ownAtoms])
  obtain ⟨vm₁, cX, kX, hfX, hkX, -, -, X₁, st1⟩ := Y.newCold hexec (own := own) (C := cls) (index := ik) (n := 6) hown' hk' hins hini'
    (g := F0 m pc ls rest) rfl (by rw [hb]; exact d0) (Nat.le_refl _) (Nat.le_refl _)
  generalize hT1 : (T.setVm vm₁).pushCell { cls := cX, slots := kX.instanceTypes.map defaultValue, vm := .none } = T1 at X₁ st1
  have hcat : (Value.ref T.heap.size).category = 1 := rfl
  have hcellA : T1.heap[T.heap.size]? = some (freshCell cX kX) := by rw [← hT1]; exact State.heap_pushCell_size _ _
  have d3' : decode c.code (pc + 3) = .ok (.dup, 1) := by rw [hb]; exact d3
  have d4' : decode c.code (pc + 4) = .ok (.ldc is, 2) := by rw [hb]; exact d4
  have hstr' : vk_R own is text sa s' := vk_R.warm hW0 hstr
  obtain ⟨U, hsteps, hrun, hend, hW, hsame, ce, hce, hO⟩ := X₁.ctorThrowS hexec htr (own := own) (cls := cls) (names := names) (ic := ic) hown' hcls hnames h (fun x hx => nomatch hx) hfX hkX hcellA (by rw [hhp, hT]; exact Nat.le_refl _) (msg := .ref sa) rfl
    (g := { method := m, pc := pc + 6, locals := ls, stack := .ref sa :: .ref T.heap.size :: .ref T.heap.size :: rest, locked := none }) rfl hsize rfl rfl (rest := rest) rfl
    (by rw [hb]; exact d6) (by rw [hb]; exact d9) hout hRframes (by simp only [List.map_cons, List.sum_cons, hcat]; omega) hlocks
  obtain ⟨f1, f2⟩ := vx_frame hsame
  rw [hhp] at f1 f2
  have hWs : s.WarmedH U.vm := State.WarmedH.trans hW0 hW
  have hcl : s.vm.findClass cls = some ce.cls := by
    have h9 := hO.cls
    rw [hvm] at h9
    exact h9
  have hall : s.sameButNew ({ U with vm := s.vm } : State) locs mc ms := by
    subst hA
    obtain ⟨e1, e2⟩ := hsame
    rw [State.setFrames_setFrames] at e1
    have h2 : (T.setVm s.vm).sameButNew ({ U with vm := s.vm } : State) [] (0 + 1) (0 + 6) := ⟨e1, e2⟩
    have h3 := X.same.trans h2
    rw [List.append_nil] at h3
    exact h3.mono hc hs
  refine ⟨U, ?_, .threw T.heap.size, hrun, hend, Or.inr ⟨T.heap.size, rfl, cls, ce, locs, hx U hWs.alike f1 (fun q hq => f2 q hq (fun z hz => nomatch hz)), hce, hO.vm, hcl, hWs, hall, hf⟩⟩
  refine st1 _ ?_
  show Steps p.tables e below (T1.setTop { method := m, pc := pc + 3, locals := ls, stack := .ref T.heap.size :: rest, locked := none }) _
  jvm_step X₁.here [X₁.here.top, hexec, d3', Value.category]
  exact X₁.ldcString hexec (own := own) (text := text) (index := is) (a := sa) hown' hstr'.1 hstr'.2
    (g := { method := m, pc := pc + 4, locals := ls, stack := .ref T.heap.size :: .ref T.heap.size :: rest, locked := none }) rfl d4' _ hsteps
/-- 'throw new E("text")', the text by a wide index -/
theorem vx_throwSW {cc : ByteArray} {pc : Nat} (hexec : p.tables.exec = Jvm.exec) (hb : c.code = cc) (hl : l.stackTraces = false) {own cls text : String} {names : List String} {ik is ic mc ms sa : Nat} {A : Nat → Prop}
    (hown : s.vm.findClass own = some m.cls) (hcls : Bundle.fit cls = true) (hnames : ∀ n ∈ names, Bundle.fit n = true)
    (hk : (Cond.classLink own ik cls).before args s = true) (hini : (Cond.initialized cls).before args s = true) (hstr : vk_R own is text sa s) (hat : ∀ w ∈ vx_atS own ic cls names, w.before args s = true)
    (hgood : ∀ w ∈ Cond.classLink own ik cls :: Cond.initialized cls :: vx_atS own ic cls names, vx_ot w = true)
    (hU : vx_Zq Bundle.tN "UNASSIGNED_STACK" Bundle.steD A s s.heap) (hN : vx_Zq Bundle.tN "SUPPRESSED_SENTINEL" Bundle.listD A s s.heap) (hS : va_S A s.heap H locs) (hsize : ls.size = c.maxLocals)
    (d0 : decode cc pc = .ok (.new ik, 3)) (d3 : decode cc (pc + 3) = .ok (.dup, 1)) (d4 : decode cc (pc + 4) = .ok (.ldc_w is, 3)) (d7 : decode cc (pc + 7) = .ok (.invokespecial ic, 3)) (d10 : decode cc (pc + 10) = .ok (.athrow, 1))
    (hout : ∀ x ∈ c.exceptionTable.toList, covers x (pc + 10) = false)
    (hRframes : names.length + 3 < R.frames) (hRlocals : (rest.map fun v => v.category).sum + (13 * (names.length + 1) + 43) ≤ R.locals) (hRcells : cells + 1 ≤ R.cells) (hRslots : slots + 6 ≤ R.slots) (hlocks : meth.locks = false)
    (hx : ∀ t : State, s.vm.Alike t.vm → H.size ≤ t.heap.size → (∀ q : Nat, q < H.size → t.heap[q]? = H[q]?) → XC cls s t)
    (hf : ∀ z ∈ locs, free z.base) (hc : cells + 1 ≤ mc) (hs : slots + 6 ≤ ms) :
    W p l e R s m args below meth c H locs cells slots (vx_MQ below Qc XC args s mc ms free) (F0 m pc ls rest) := by
  intro T hT X
  have htr : e.platform.stackTraces = false := (show e.platform.stackTraces = l.stackTraces by rw [X.admits.platform]).trans hl
  have Y := vx_rebase X (R' := { frames := R.frames, locals := R.locals, cells := 1, slots := 6 }) (Nat.le_refl _) (Nat.le_refl _) hRcells hRslots
  obtain ⟨s', hA⟩ : ∃ z, z = (T.setVm s.vm).setFrames (.invoking m args :: below) := ⟨_, rfl⟩
  rw [← hA] at Y
  have hvm : s'.vm = s.vm := by rw [hA]; rfl
  have hhp : s'.heap = H := by rw [hA]; exact hT
  have hW0 : s.WarmedH s'.vm := by rw [hvm]; exact State.WarmedH.refl s
  have hat' : ∀ w ∈ vx_atS own ic cls names, w.before args s' = true := fun w hw => vx_ot_at hW0 hvm.symm (hgood w (List.mem_cons_of_mem _ (List.mem_cons_of_mem _ hw))) (hat w hw)
  have hk' : (Cond.classLink own ik cls).before args s' = true := vx_ot_at hW0 hvm.symm (hgood _ List.mem_cons_self) hk
  have hini' : (Cond.initialized cls).before args s' = true := vx_ot_at hW0 hvm.symm (hgood _ (List.mem_cons_of_mem _ List.mem_cons_self)) hini
  have hU' : vx_Zq Bundle.tN "UNASSIGNED_STACK" Bundle.steD A s' s'.heap := by rw [hhp]; exact vx_Zq.moved hW0.alike (hU.kept hS.2.1)
  have hN' : vx_Zq Bundle.tN "SUPPRESSED_SENTINEL" Bundle.listD A s' s'.heap := by rw [hhp]; exact vx_Zq.moved hW0.alike (hN.kept hS.2.1)
  have h : ∀ w ∈ Bundle.ownAtoms own ic cls names, w.before args s' = true := vx_own hat' (vx_isRefq hU'.1) (vx_isRefq hN'.1) hU'.2.word hN'.2.word
  have hown' : s'.vm.findClass own = some m.cls := by rw [hvm]; exact hown
  have hins : (Cond.instantiable cls 6).before args s' = true := h _ (by simp [Bundle.ownAtoms])
  obtain ⟨vm₁, cX, kX, hfX, hkX, -, -, X₁, st1⟩ := Y.newCold hexec (own := own) (C := cls) (index := ik) (n := 6) hown' hk' hins hini'
    (g := F0 m pc ls rest) rfl (by rw [hb]; exact d0) (Nat.le_refl _) (Nat.le_refl _)
  generalize hT1 : (T.setVm vm₁).pushCell { cls := cX, slots := kX.instanceTypes.map defaultValue, vm := .none } = T1 at X₁ st1
  have hcat : (Value.ref T.heap.size).category = 1 := rfl
  have hcellA : T1.heap[T.heap.size]? = some (freshCell cX kX) := by rw [← hT1]; exact State.heap_pushCell_size _ _
  have d3' : decode c.code (pc + 3) = .ok (.dup, 1) := by rw [hb]; exact d3
  have d4' : decode c.code (pc + 4) = .ok (.ldc_w is, 3) := by rw [hb]; exact d4
  have hstr' : vk_R own is text sa s' := vk_R.warm hW0 hstr
  obtain ⟨U, hsteps, hrun, hend, hW, hsame, ce, hce, hO⟩ := X₁.ctorThrowS hexec htr (own := own) (cls := cls) (names := names) (ic := ic) hown' hcls hnames h (fun x hx => nomatch hx) hfX hkX hcellA (by rw [hhp, hT]; exact Nat.le_refl _) (msg := .ref sa) rfl
    (g := { method := m, pc := pc + 7, locals := ls, stack := .ref sa :: .ref T.heap.size :: .ref T.heap.size :: rest, locked := none }) rfl hsize rfl rfl (rest := rest) rfl
    (by rw [hb]; exact d7) (by rw [hb]; exact d10) hout hRframes (by simp only [List.map_cons, List.sum_cons, hcat]; omega) hlocks
  obtain ⟨f1, f2⟩ := vx_frame hsame
  rw [hhp] at f1 f2
  have hWs : s.WarmedH U.vm := State.WarmedH.trans hW0 hW
  have hcl : s.vm.findClass cls = some ce.cls := by
    have h9 := hO.cls
    rw [hvm] at h9
    exact h9
  have hall : s.sameButNew ({ U with vm := s.vm } : State) locs mc ms := by
    subst hA
    obtain ⟨e1, e2⟩ := hsame
    rw [State.setFrames_setFrames] at e1
    have h2 : (T.setVm s.vm).sameButNew ({ U with vm := s.vm } : State) [] (0 + 1) (0 + 6) := ⟨e1, e2⟩
    have h3 := X.same.trans h2
    rw [List.append_nil] at h3
    exact h3.mono hc hs
  refine ⟨U, ?_, .threw T.heap.size, hrun, hend, Or.inr ⟨T.heap.size, rfl, cls, ce, locs, hx U hWs.alike f1 (fun q hq => f2 q hq (fun z hz => nomatch hz)), hce, hO.vm, hcl, hWs, hall, hf⟩⟩
  refine st1 _ ?_
  show Steps p.tables e below (T1.setTop { method := m, pc := pc + 3, locals := ls, stack := .ref T.heap.size :: rest, locked := none }) _
  jvm_step X₁.here [X₁.here.top, hexec, d3', Value.category]
  exact X₁.ldcStringW hexec (own := own) (text := text) (index := is) (a := sa) hown' hstr'.1 hstr'.2
    (g := { method := m, pc := pc + 4, locals := ls, stack := .ref T.heap.size :: .ref T.heap.size :: rest, locked := none }) rfl d4' _ hsteps
end Ends
section Bodies
variable {l : Launch}
theorem vx_ofW {y : MethodName} {ws ws' : List Cond} {rm : Room} {Pc : Array Value → State → Prop} {Qc : Array Value → State → Outcome → State → Prop} {XC : String → State → State → Prop} {mc ms : Nat} {free : Addr → Prop} {cc : ByteArray} {maxL : Nat} {ret : Option FieldType}
    (hy : plainName y.cls = true) (hw : ws = Cond.code y cc maxL ret :: ws')
    (body : ∀ p e s m args below meth c s₁, BodyLoose p l y (headSpec ws rm) cc maxL ret e s m args below meth c s₁ → c.maxLocals = maxL → (∀ x ∈ c.exceptionTable.toList, False) → Pc args s →
      W p l e (headSpec ws rm).room s m args below meth c s.heap [] 0 0 (vx_MQ below Qc XC args s mc ms free) (entryFrame m args maxL)) : vx_Met l y ws rm Pc Qc XC mc ms free := by
  refine MetFree.of_bodyS (code := cc) (maxLocals := maxL) (ret := ret) hy ?_ ?_
  · intro args s m h hn
    obtain ⟨meth, c, h1, h2, h3, h4, h5, h6, -, -⟩ := Cond.code_spec hn (atoms_spec (ws := ws) h _ (by rw [hw]; exact List.mem_cons_self))
    exact ⟨meth, c, h1, h2, h3, h4, h5, h6⟩
  · intro p e s m args below meth c s₁ B hml hP _
    have hh0 : s₁.heap = s.heap := by rw [B.state]; rfl
    have ht : ∀ x ∈ c.exceptionTable.toList, False := by
      obtain ⟨meth9, c9, h1, h2, -, -, -, -, h7, -⟩ := Cond.code_spec B.named (atoms_spec (ws := ws) B.pre _ (by rw [hw]; exact List.mem_cons_self))
      cases Option.some.inj (h1.symm.trans B.method)
      cases Option.some.inj (h2.symm.trans (Stand.of_body B).code)
      intro x hx
      rw [Array.isEmpty_iff.mp h7] at hx
      cases hx
    obtain ⟨t, a1, o, b1, b2, b3⟩ := body p e s m args below meth c s₁ B hml ht hP s₁ hh0 (Stand.of_body B)
    exact ⟨t, o, a1, b1, b2, b3⟩
/-- the table of a body with handlers -/
theorem vx_table {p : Program} {x y : MethodName} {S : Spec} {cc bytes : ByteArray} {maxL maxL' : Nat} {ret ret' : Option FieldType} {e : Env} {s s₁ : State} {m : MethodId} {args : Array Value} {below : List Frame} {meth : Method} {c : Code} {hh : List (Nat × Nat × Nat × Nat)}
    (B : BodyLoose p l y S cc maxL ret e s m args below meth c s₁) (h : (Cond.codeWith y bytes maxL' ret' hh).before args s = true) : c.exceptionTable.toList = tableOf hh := by
  obtain ⟨m9, meth9, c9, hn9, h1, h2, -, -, h6, -⟩ := Cond.codeWith_spec h
  cases Option.some.inj (hn9.symm.trans B.named)
  cases Option.some.inj (h1.symm.trans B.method)
  cases Option.some.inj (h2.symm.trans (Stand.of_body B).code)
  rw [← h6, table_eq]
end Bodies
end VXA
/-! ===== END ===== -/
/-! ===== BEGIN a static call of a method with an exception table ===== -/
section VXS
variable {p : Program} {l : Launch} {e : Env} {R : Room} {s : State} {m : MethodId} {args : Array Value} {below : List Frame} {meth : Method} {c : Code} {T : State} {H : Heap} {locs : List Loc} {cells slots : Nat}
abbrev vx_CSW (R : Room) (s : State) (args : Array Value) (own : String) (index : Nat) (y : MethodName) (bytes : ByteArray) (maxL : Nat) (ret : Option FieldType) (hh : List (Nat × Nat × Nat × Nat)) (ws : List Cond) (rm : Room) (mc ms n : Nat) : Prop :=
  (rm.cells = mc ∧ rm.slots = ms ∧ rm.frames + 1 ≤ R.frames ∧ 8 + (maxL + 11) + rm.locals ≤ R.locals ∧ (∀ w ∈ ws, ∀ (a' : Array Value) (U : State), s.WarmedH U.vm → w.before a' U = true) ∧ Cond.codeWith y bytes maxL ret hh ∈ ws) ∧
  (Cond.codeWith y bytes maxL ret hh).before args s = true ∧ (Cond.initialized y.cls).before args s = true ∧ (y.cls ≠ "java/lang/invoke/MethodHandle" ∧ y.cls ≠ "java/lang/invoke/VarHandle") ∧
  (∀ sig, parseMethodDescriptor y.desc = some sig → n = sig.parameters.length) ∧ (Cond.methodLink own index y).before args s = true ∧ (Cond.static y).before args s = true
theorem vx_cwSW {own : String} {index maxL mc ms : Nat} {y : MethodName} {bytes : ByteArray} {ret : Option FieldType} {hh : List (Nat × Nat × Nat × Nat)} {Ts ws ws' : List Cond} {rm : Room} (n : Nat) (ht : ∀ w ∈ Ts, w.before args s = true) (hT : GoodIn Ts (va_wsS own index y ws)) (hw : ws = Cond.codeWith y bytes maxL ret hh :: ws') (hrc : rm.cells = mc) (hrs : rm.slots = ms)
    (hd : y.cls ≠ "java/lang/invoke/MethodHandle" ∧ y.cls ≠ "java/lang/invoke/VarHandle" ∧ (parseMethodDescriptor y.desc).map (fun d => d.parameters.length) = some n) (hR : rm.frames + 1 ≤ R.frames ∧ 8 + (maxL + 11) + rm.locals ≤ R.locals) :
    vx_CSW R s args own index y bytes maxL ret hh ws rm mc ms n := by
  have ok : ∀ w ∈ va_wsS own index y ws, w.before args s = true := fun w h => ht w (hT w h).1
  have hG : GoodIn Ts ws := fun w h => hT w (by unfold va_wsS; exact List.mem_append_right _ h)
  have hc : Cond.codeWith y bytes maxL ret hh ∈ ws := by rw [hw]; exact List.mem_cons_self
  refine ⟨⟨hrc, hrs, hR.1, hR.2, pay_in ht hG, hc⟩, ht _ (hG _ hc).1, ok _ (by simp [va_wsS]), ⟨hd.1, hd.2.1⟩, fun sig h => ?_, ok _ (by simp [va_wsS]), ok _ (by simp [va_wsS])⟩
  have h2 := hd.2.2
  rw [h] at h2
  exact (Option.some.inj h2).symm
theorem vx_callSW (X : Stand p l e R s m args below meth c T locs cells slots) (hexec : p.tables.exec = Jvm.exec) {own : String} {index : Nat} {y : MethodName} {bytes : ByteArray} {maxL : Nat} {ret : Option FieldType} {hh : List (Nat × Nat × Nat × Nat)}
    (hown : s.vm.findClass own = some m.cls) (hlink : (Cond.methodLink own index y).before args s = true) (hstat : (Cond.static y).before args s = true) (hinit : (Cond.initialized y.cls).before args s = true)
    (hcode : (Cond.codeWith y bytes maxL ret hh).before args s = true) (hy : y.cls ≠ "java/lang/invoke/MethodHandle" ∧ y.cls ≠ "java/lang/invoke/VarHandle")
    {W9 : Nat} {Pre : Pt → Array Value → Prop} {Post : Pt → Array Value → Option Value → Pt → Prop} (hK : Back l R p e below s args y 3 W9 Pre Post)
    {g : JFrame} (hg : g.method = m) (hsize : g.locals.size = c.maxLocals) {argsL rest : List Value} (hlen : ∀ sig, parseMethodDescriptor y.desc = some sig → argsL.length = sig.parameters.length)
    (hstack : g.stack = argsL.reverse ++ rest) (hW : 2 * g.monitorRoom + (rest.map fun v => v.category).sum ≤ W9) (hdg : decode c.code g.pc = .ok (.invokestatic index, 3))
    (hpre : ∀ vm₁, s.WarmedH vm₁ → Pre ⟨T.setVm vm₁, locs, cells, slots⟩ argsL.toArray) :
    ∃ (v : Option Value) (vm₁ : Vm) (B : Pt), s.WarmedH vm₁ ∧ Stand p l e R s m args below meth c B.U B.locs B.cells B.slots ∧ Post ⟨T.setVm vm₁, locs, cells, slots⟩ argsL.toArray v B ∧
      ∀ target, Steps p.tables e below (B.U.setTop { g with pc := g.pc + 3, stack := v.toList ++ rest }) target → Steps p.tables e below (T.setTop g) target := by
  obtain ⟨mk, methM, cM, hnamed, hmethM, -, -, -, -, -, -, hsigM⟩ := Cond.codeWith_spec hcode
  have hstatic : methM.isStatic = true := Cond.static_spec hnamed hmethM hstat
  obtain ⟨kP, hkP, -⟩ := className_of_methodNamed hnamed
  have hinitP : kP.init = .initialized := Cond.initialized_spec (findClass_of_methodNamed hnamed) hkP hinit
  obtain ⟨vm₁, X₁, hstep₁⟩ := X.invokestatic hexec hown hlink hnamed hmethM hstatic hkP hinitP hy (g := g) hg (argsL := argsL) (rest := rest) (hlen _ hsigM) hstack hdg
  obtain ⟨v, B, X', hpost, hsteps⟩ := hK m meth c ⟨T.setVm vm₁, locs, cells, slots⟩ { g with stack := rest } (.invokestatic index) mk argsL.toArray X₁ hg hsize hdg hW (X₁.named hnamed) (hpre vm₁ X₁.warmed)
  exact ⟨v, vm₁, B, X₁.warmed, X', hpost, fun target h => hstep₁ _ fun acts => by rw [doInvoke_state]; exact hsteps.trans h⟩
theorem vx_runSW {y : MethodName} {bytes cc : ByteArray} {maxL nL mc ms n index : Nat} {ret : Option FieldType} {hh : List (Nat × Nat × Nat × Nat)} {ws : List Cond} {rm : Room} {Pc : Array Value → State → Prop} {Qc : Array Value → State → Outcome → State → Prop} {free : Addr → Prop} {Ts : List Cond} {own : String} {As rest : List Value} {g : JFrame}
    (S : CallFix p m c cc nL s args Ts own) (hM : Met l y ws rm Pc Qc mc ms free) (cw : vx_CSW R s args own index y bytes maxL ret hh ws rm mc ms n) (hp : PreS s H Pc As)
    (hg : g.method = m) (hn : As.length = n) (hsize : g.locals.size = nL) (hstack : g.stack = As.reverse ++ rest) (hW : 2 * g.monitorRoom + (rest.map fun v => v.category).sum ≤ 8) (hdg : decode cc g.pc = .ok (.invokestatic index, 3)) (hf : cells + mc ≤ R.cells ∧ slots + ms ≤ R.slots) :
    va_Run p l e R s m args below meth c H locs cells slots mc ms g rest (Qc As.toArray) (free) := by
  obtain ⟨⟨hrc, hrs, hfr, hlo, hws, hcw⟩, hcode, hini, hy, hlen, hl, hstt⟩ := cw
  have hK : Back l R p e below s args y 3 8 (PreOf R mc ms Pc) (PostOf Qc mc ms free) := va_backW (hh := hh) (bytes := bytes) (maxL := maxL) (ret := ret) hM hp.1 hrc hrs hfr hlo hws hcw (fun a' U hW => word_at hW (Or.inl (by first | rfl | simp [Cond.onTables, Cond.keeps, Cond.steady])) hini)
  obtain ⟨hx, hb, hml, ho, -⟩ := S
  intro T hT X
  obtain ⟨v, vm₁, ⟨U', l2, c2, s2⟩, hW₁, X', ⟨g', mk, t, L, e1, e2, hq, h1, hL, h2, h3⟩, st⟩ := vx_callSW X hx (hh := hh) (bytes := bytes) (maxL := maxL) (ret := ret) ho hl hstt hini hcode hy hK hg (hsize.trans hml.symm) (argsL := As) (rest := rest) (fun sig h => hn.trans (hlen sig h)) hstack hW (by rw [hb]; exact hdg)
    (fun vm₁ hW₁ => ⟨hf.1, hf.2, hp.2 (T.setVm vm₁) hT hW₁⟩)
  dsimp only [Pt.U, Pt.locs, Pt.cells, Pt.slots] at X' e1 e2 h1 h2 h3 st
  subst h1; subst h2; subst h3
  exact ⟨v, (T.setVm vm₁).calling g' mk As.toArray, t, U', L, hT, X', hL, e1, e2, hq, st⟩
/-- not caught here, past rows that name other classes: it goes on to the caller -/
theorem vx_outP {p : Program} {l : Launch} {e : Env} {R : Room} {s : State} {m : MethodId} {args : Array Value} {below : List Frame} {meth : Method} {c : Code} {H : Heap} {locs : List Loc} {cells slots : Nat} {free : Addr → Prop} {ls : Array Slot} {rest : List Value} {Qc : Array Value → State → Outcome → State → Prop} {XC : String → State → State → Prop}
    {pc : Nat} {own E : String} {ce : Cell} {q : Addr} {mc ms : Nat} (hown : s.vm.findClass own = some m.cls) (hlocks : meth.locks = false)
    (hpass : ∀ z ∈ c.exceptionTable.toList, covers z pc = false ∨ (z.catchType ≠ 0 ∧ ∃ nm : String, (Cond.classLink own z.catchType nm).before args s = true ∧ va_Nc E nm s)) (hcell : H[q]? = some ce) (hv : ce.vm = .none) (hcl : s.vm.findClass E = some ce.cls)
    (hx : ∀ t : State, t.heap = H → s.vm.Alike t.vm → XC E s t) (hf : ∀ z ∈ locs, free z.base) (hc : cells ≤ mc) (hs : slots ≤ ms) :
    vx_W p l e R s m args below meth c H locs cells slots (vx_MQ below Qc XC args s mc ms free) (F0 m pc ls rest) q := by
  intro T hT X
  have hpl : e.platform.magicAccessors = ({} : Platform).magicAccessors := by rw [X.admits.platform]
  obtain ⟨vm', hW', X', st⟩ := X.outThrough hlocks q (g := F0 m pc ls rest) rfl rfl rfl (cell := ce) (by rw [hT]; exact hcell) (by rw [hv]; rfl)
    (by obtain ⟨k9, h9, -⟩ := Vm.findClass_spec hcl; exact ⟨k9, h9⟩) (fun z hz => by
      rcases hpass z hz with h | ⟨hz0, nm, hl1, hn1⟩
      · exact Or.inl h
      · obtain ⟨c6, hc6, hcl6⟩ := Cond.classLink_spec hown hl1 e.platform hpl
        obtain ⟨a8, b8, h1, h2, h3⟩ := hn1
        cases Option.some.inj (h1.symm.trans hcl)
        cases Option.some.inj (h2.symm.trans hc6)
        exact Or.inr ⟨hz0, _, hcl6, h3⟩)
  obtain ⟨g₀, hfr⟩ := X'.frames_eq
  have hcell9 : ((T.setVm vm').setFrames (.throwing q :: below)).heap[q]? = some ce := by
    show T.heap[q]? = some ce
    rw [hT]; exact hcell
  have hend : Ended ((T.setVm vm').setFrames (.throwing q :: below)) below (.threw q) := State.frames_setFrames _ (State.cur_lt_of_frames hfr)
  refine ⟨(T.setVm vm').setFrames (.throwing q :: below), ?_, .threw q, X'.here.running, hend, Or.inr ⟨q, rfl, E, ce, locs, hx _ hT (X'.ends _).1.alike, hcell9, hv, hcl, (X'.ends _).1, (X'.ends _).2.mono hc hs, hf⟩⟩
  rw [X.pushThrowing_eq]
  exact st
/-- a thing of a world lies in the heap -/
theorem vx_lt {D : va_G} {cl : List vw_C} {ws : va_W} {H1 : Heap} (h : va_P D cl ws H1) {k : Nat} {q : Nat × va_E} (hk : ws[k]? = some q) : q.1 < H1.size := (h k q hk).lt
end VXS
/-! ===== END ===== -/
/-! ===== BEGIN methods with a table of their own: called by a name, returning or throwing ===== -/
section VXH
/-! vx_backW, vx_callVX, vx_callSX, vx_callVW, vx_runVW, vx_runVX, vx_runSX, vx_ofWH follow the same proofs as their sisters above (Free/Laws.lean, Shelf42/LK1.lean); vx_outP calls Shelf42/NT130.lean (outThrough). -/
section
variable {l : Launch} {R : Room} {p : Program} {e : Env} {below : List Frame} {s : State} {sargs : Array Value} {y : MethodName} {len W9 : Nat}
theorem vx_backW {ws : List Cond} {rm : Room} {Pc : Array Value → State → Prop} {Qc : Array Value → State → Outcome → State → Prop} {XC : String → State → State → Prop} {mc ms : Nat} {free : Addr → Prop} {bytes : ByteArray} {maxL : Nat} {ret : Option FieldType} {hh : List (Nat × Nat × Nat × Nat)}
    (hM : vx_Met l y ws rm Pc Qc XC mc ms free) (hblind : FrameBlind Pc) (hrc : rm.cells = mc) (hrs : rm.slots = ms)
    (hframes : rm.frames + 1 ≤ R.frames) (hlocals : W9 + (maxL + 11) + rm.locals ≤ R.locals)
    (hws : ∀ w ∈ ws, ∀ a' U, s.WarmedH U.vm → w.before a' U = true) (hcode : Cond.codeWith y bytes maxL ret hh ∈ ws) (hinit : ∀ a' U, s.WarmedH U.vm → (Cond.initialized y.cls).before a' U = true) :
    vx_Back l R p e below s sargs y len W9 (PreOf R mc ms Pc) (PostOf Qc mc ms free) (vx_Post XC mc ms free) := by
  intro m meth c A g ig mk a X hg hsize hdg hW hn hp
  have h1 : (headSpec ws rm).pre.before a A.U = true := atoms_intro fun w hw => hws w hw _ _ X.warmed
  have h2 : (Cond.codeWith y bytes maxL ret hh).before a A.U = true := hws _ hcode _ _ X.warmed
  have h3 : (Cond.initialized y.cls).before a A.U = true := hinit _ _ X.warmed
  have h4 : A.cells + (headSpec ws rm).room.cells ≤ R.cells := by rw [show (headSpec ws rm).room.cells = mc from hrc]; exact hp.1
  have h5 : A.slots + (headSpec ws rm).room.slots ≤ R.slots := by rw [show (headSpec ws rm).room.slots = ms from hrs]; exact hp.2.1
  have hPc : Pc a (A.U.calling g mk a) := hblind _ _ _ _ hp.2.2
  obtain ⟨U, Ls, c0, s0⟩ := A
  dsimp only [Pt.U, Pt.locs, Pt.cells, Pt.slots] at h1 h2 h3 h4 h5 X hn hPc ⊢
  obtain ⟨m9, methY, cY, hn9, hmY, hcY, -, hlY, -⟩ := Cond.codeWith_spec h2
  cases Option.some.inj (hn9.symm.trans hn)
  obtain ⟨kY, hkY, -⟩ := className_of_methodNamed hn
  have hinitY : kY.init = .initialized := Cond.initialized_spec (findClass_of_methodNamed hn) hkY h3
  have h : At U g.method c below := by rw [hg]; exact X.here
  have hlocals9 : W9 + (maxL + 11) + (headSpec ws rm).room.locals ≤ R.locals := hlocals
  have happ : (headSpec ws rm).appliesLoose y e.platform (U.calling g mk a) = true :=
    Spec.appliesLoose_calling (g := g) h hdg hn hkY hinitY
      (X.room_calling (g := g) (R' := (headSpec ws rm).room) hsize hmY hcY hframes (by rw [hlY]; omega) h4 h5) h1
  obtain ⟨mid, hmid⟩ := h.above
  have hfr : (U.setTop g).frames = (.java g :: mid) ++ below := by rw [State.frames_setTop' g h.top, hmid]; rfl
  obtain ⟨o, s₂, hsteps, -, hend, hq⟩ := Steps.callFree hM p X.admits X.cas X.clock (acts := []) hfr happ hPc trivial
  have hq' : vx_Q Qc XC mc ms free a (U.calling g mk a) o s₂ := hq
  rw [State.frames_setTop' g h.top] at hend
  obtain ⟨g₀, hg0⟩ := Option.isSome_iff_exists.mp h.top
  obtain ⟨r, hr⟩ := State.topJava?_eq_some.mp hg0
  have hr' : (({ U with heap := s₂.heap, slotsUsed := s₂.slotsUsed } : State).setVm s₂.vm).frames = .java g₀ :: r := hr
  rcases hq' with ⟨hqc, L, hfe, hL⟩ | ⟨q, rfl, E, ce, L, hx, hce, hcv, hcl, hW₂, hsm, hL⟩
  · obtain ⟨⟨v, rfl⟩, hW₂, e2, q2, q3, q4, q5, q6⟩ := id hfe
    have e3 : s₂ = ({ (U.calling g mk a).setFrames s₂.frames with heap := s₂.heap, slotsUsed := s₂.slotsUsed } : State).setVm s₂.vm := by
      have : s₂ = ({ s₂ with vm := (U.calling g mk a).vm } : State).setVm s₂.vm := rfl
      rw [e2] at this
      exact this
    obtain ⟨c₂, i₂, len₂, hc₂, hd₂, hf₂⟩ := hend
    have hW' : U.WarmedH s₂.vm := hW₂
    have hcc : c₂ = c := by
      have h1 : s₂.code? g.method = U.code? g.method := by
        rw [State.code?_eq, State.code?_eq, hW'.alike.method?]
      exact Option.some.inj (hc₂.symm.trans (h1.trans h.code))
    subst hcc
    have hlen : len₂ = len := by rw [hdg] at hd₂; cases hd₂; rfl
    subst hlen
    have hs₂ : s₂ = (({ U with heap := s₂.heap, slotsUsed := s₂.slotsUsed } : State).setVm s₂.vm).setTop { g with pc := g.pc + len₂, stack := v.toList ++ g.stack } := by
      refine e3.trans ?_
      rw [hf₂, State.calling_eq h.top, State.setFrames_setFrames, State.setTop_of_frames _ hr', hr]
      rfl
    have hsame : U.sameButNew ({ U with heap := s₂.heap, slotsUsed := s₂.slotsUsed } : State) L mc ms := by
      refine ⟨?_, q2, q3, q4, q5, q6⟩
      obtain ⟨t, ht, -⟩ := State.frames_cons hr
      show ({ U with heap := s₂.heap, slotsUsed := s₂.slotsUsed } : State) = { U.setFrames U.frames with heap := s₂.heap, slotsUsed := s₂.slotsUsed }
      rw [State.setFrames_self ht]
    subst hg
    refine Or.inl ⟨v, ⟨(({ U with heap := s₂.heap, slotsUsed := s₂.slotsUsed } : State).setVm s₂.vm), Ls ++ L, c0 + mc, s0 + ms⟩,
      ⟨X.admits, X.cas, X.clock, X.frames, X.room, X.hears, X.method, X.code, (X.here.setHeapUsed s₂.heap s₂.slotsUsed).setVm hW'.alike, X.tail, State.WarmedH.trans X.warmed hW', X.limits, X.bytes, X.same.trans (hsame.setVm s.vm)⟩,
      ⟨g, mk, s₂, L, rfl, rfl, hqc, rfl, hL, rfl, rfl⟩, ?_⟩
    show Steps p.tables e below _ ((({ U with heap := s₂.heap, slotsUsed := s₂.slotsUsed } : State).setVm s₂.vm).setTop { g with pc := g.pc + len₂, stack := v.toList ++ g.stack })
    rw [← hs₂]
    exact hsteps
  · obtain ⟨e2, q2, q3, q4, q5, q6⟩ := id hsm
    have e3 : s₂ = ({ (U.calling g mk a).setFrames s₂.frames with heap := s₂.heap, slotsUsed := s₂.slotsUsed } : State).setVm s₂.vm := by
      have : s₂ = ({ s₂ with vm := (U.calling g mk a).vm } : State).setVm s₂.vm := rfl
      rw [e2] at this
      exact this
    have hf₂ : s₂.frames = .throwing q :: .java g :: U.frames.tail := hend
    have hW' : U.WarmedH s₂.vm := hW₂
    have hs₂ : s₂ = ((({ U with heap := s₂.heap, slotsUsed := s₂.slotsUsed } : State).setVm s₂.vm).setTop g).pushFrame (.throwing q) := by
      refine e3.trans ?_
      rw [hf₂, State.calling_eq h.top, State.setFrames_setFrames, State.pushFrame, State.frames_setTop _ hr', State.setTop_of_frames _ hr', State.setFrames_setFrames, hr]
      rfl
    have hsame : U.sameButNew ({ U with heap := s₂.heap, slotsUsed := s₂.slotsUsed } : State) L mc ms := by
      refine ⟨?_, q2, q3, q4, q5, q6⟩
      obtain ⟨t, ht, -⟩ := State.frames_cons hr
      show ({ U with heap := s₂.heap, slotsUsed := s₂.slotsUsed } : State) = { U.setFrames U.frames with heap := s₂.heap, slotsUsed := s₂.slotsUsed }
      rw [State.setFrames_self ht]
    subst hg
    refine Or.inr ⟨q, ⟨(({ U with heap := s₂.heap, slotsUsed := s₂.slotsUsed } : State).setVm s₂.vm), Ls ++ L, c0 + mc, s0 + ms⟩,
      ⟨X.admits, X.cas, X.clock, X.frames, X.room, X.hears, X.method, X.code, (X.here.setHeapUsed s₂.heap s₂.slotsUsed).setVm hW'.alike, X.tail, State.WarmedH.trans X.warmed hW', X.limits, X.bytes, X.same.trans (hsame.setVm s.vm)⟩,
      ⟨g, mk, s₂, L, E, ce, rfl, rfl, hx, hce, hcv, hcl, rfl, hL, rfl, rfl⟩, ?_⟩
    show Steps p.tables e below _ (((({ U with heap := s₂.heap, slotsUsed := s₂.slotsUsed } : State).setVm s₂.vm).setTop g).pushFrame (.throwing q))
    rw [← hs₂]
    exact hsteps
end
variable {p : Program} {l : Launch} {e : Env} {R : Room} {s : State} {m : MethodId} {args : Array Value} {below : List Frame} {meth : Method} {c : Code} {T : State} {H : Heap} {locs : List Loc} {cells slots : Nat}
theorem vx_callVX (X : Stand p l e R s m args below meth c T locs cells slots) (hexec : p.tables.exec = Jvm.exec) {own C : String} {index : Nat} {y : MethodName} {bytes : ByteArray} {maxL : Nat} {ret : Option FieldType} {hh : List (Nat × Nat × Nat × Nat)}
    (hown : s.vm.findClass own = some m.cls) (hlink : (Cond.methodLink own index y).before args s = true) (hinst : (Cond.instanceMethod y).before args s = true) (hsel : (Cond.selects C y y).before args s = true)
    (hcode : (Cond.codeWith y bytes maxL ret hh).before args s = true) (hy : y.cls ≠ "java/lang/invoke/MethodHandle" ∧ y.cls ≠ "java/lang/invoke/VarHandle")
    {W9 : Nat} {Pre : Pt → Array Value → Prop} {Post : Pt → Array Value → Option Value → Pt → Prop} {PostX : Pt → Array Value → Addr → Pt → Prop} (hK : vx_Back l R p e below s args y 3 W9 Pre Post PostX)
    {b : Addr} {cellB : Cell} (hcell : T.heap[b]? = some cellB) (hobj : cellB.vm.isStatics = false) (hcls : s.vm.findClass C = some cellB.cls)
    {g : JFrame} (hg : g.method = m) (hsize : g.locals.size = c.maxLocals) {argsL rest : List Value} (hlen : ∀ sig, parseMethodDescriptor y.desc = some sig → argsL.length = sig.parameters.length)
    (hstack : g.stack = argsL.reverse ++ .ref b :: rest) (hW : 2 * g.monitorRoom + (rest.map fun v => v.category).sum ≤ W9) (hdg : decode c.code g.pc = .ok (.invokevirtual index, 3))
    (hpre : ∀ vm₁, s.WarmedH vm₁ → Pre ⟨T.setVm vm₁, locs, cells, slots⟩ (Value.ref b :: argsL).toArray) :
    (∃ (v : Option Value) (vm₁ : Vm) (B : Pt), s.WarmedH vm₁ ∧ Stand p l e R s m args below meth c B.U B.locs B.cells B.slots ∧ Post ⟨T.setVm vm₁, locs, cells, slots⟩ (Value.ref b :: argsL).toArray v B ∧
      ∀ target, Steps p.tables e below (B.U.setTop { g with pc := g.pc + 3, stack := v.toList ++ rest }) target → Steps p.tables e below (T.setTop g) target) ∨
    (∃ (q : Addr) (vm₁ : Vm) (B : Pt), s.WarmedH vm₁ ∧ Stand p l e R s m args below meth c B.U B.locs B.cells B.slots ∧ PostX ⟨T.setVm vm₁, locs, cells, slots⟩ (Value.ref b :: argsL).toArray q B ∧
      Steps p.tables e below (T.setTop g) ((B.U.setTop { g with stack := rest }).pushFrame (.throwing q))) := by
  obtain ⟨mk, methM, hnamed, hmethM, hstM, habM⟩ := Cond.instanceMethod_spec hinst
  obtain ⟨m8, methM', cM, hn8, hmethM', -, -, -, -, -, -, hsigM⟩ := Cond.codeWith_spec hcode
  cases Option.some.inj (hn8.symm.trans hnamed)
  cases hmethM.symm.trans hmethM'
  obtain ⟨c2, r2, m2, q1, q2, q3, q4, kP, hkP, hkPi⟩ := Cond.selects_spec hsel
  cases hcls.symm.trans q1
  cases (State.methodFound?_of_named hnamed hy).symm.trans q2
  cases hnamed.symm.trans q3
  have hselP : selectMethod e.platform s.vm cellB.cls mk = .method mk := by rw [Launch.admits_selectMethod X.admits]; exact q4
  obtain ⟨vm₁, X₁, hstep₁⟩ := X.invokevirtual hexec hown hlink hnamed hmethM hstM hkP hkPi hy (a := b) (cell := cellB) hcell
    (fun z h => by rw [h] at hobj; cases hobj) hselP hmethM habM hkP hkPi (g := g) hg (argsL := argsL) (rest := rest) (hlen _ hsigM) hstack hdg
  rcases hK m meth c ⟨T.setVm vm₁, locs, cells, slots⟩ { g with stack := rest } (.invokevirtual index) mk (Value.ref b :: argsL).toArray X₁ hg hsize hdg hW (X₁.named hnamed) (hpre vm₁ X₁.warmed) with ⟨v, B, X', hpost, hsteps⟩ | ⟨q, B, X', hpost, hsteps⟩
  · exact Or.inl ⟨v, vm₁, B, X₁.warmed, X', hpost, fun target h => hstep₁ _ fun acts => by rw [doInvoke_state]; exact hsteps.trans h⟩
  · exact Or.inr ⟨q, vm₁, B, X₁.warmed, X', hpost, hstep₁ _ fun acts => by rw [doInvoke_state]; exact hsteps⟩
theorem vx_callSX (X : Stand p l e R s m args below meth c T locs cells slots) (hexec : p.tables.exec = Jvm.exec) {own : String} {index : Nat} {y : MethodName} {bytes : ByteArray} {maxL : Nat} {ret : Option FieldType} {hh : List (Nat × Nat × Nat × Nat)}
    (hown : s.vm.findClass own = some m.cls) (hlink : (Cond.methodLink own index y).before args s = true) (hstat : (Cond.static y).before args s = true) (hinit : (Cond.initialized y.cls).before args s = true)
    (hcode : (Cond.codeWith y bytes maxL ret hh).before args s = true) (hy : y.cls ≠ "java/lang/invoke/MethodHandle" ∧ y.cls ≠ "java/lang/invoke/VarHandle")
    {W9 : Nat} {Pre : Pt → Array Value → Prop} {Post : Pt → Array Value → Option Value → Pt → Prop} {PostX : Pt → Array Value → Addr → Pt → Prop} (hK : vx_Back l R p e below s args y 3 W9 Pre Post PostX)
    {g : JFrame} (hg : g.method = m) (hsize : g.locals.size = c.maxLocals) {argsL rest : List Value} (hlen : ∀ sig, parseMethodDescriptor y.desc = some sig → argsL.length = sig.parameters.length)
    (hstack : g.stack = argsL.reverse ++ rest) (hW : 2 * g.monitorRoom + (rest.map fun v => v.category).sum ≤ W9) (hdg : decode c.code g.pc = .ok (.invokestatic index, 3))
    (hpre : ∀ vm₁, s.WarmedH vm₁ → Pre ⟨T.setVm vm₁, locs, cells, slots⟩ argsL.toArray) :
    (∃ (v : Option Value) (vm₁ : Vm) (B : Pt), s.WarmedH vm₁ ∧ Stand p l e R s m args below meth c B.U B.locs B.cells B.slots ∧ Post ⟨T.setVm vm₁, locs, cells, slots⟩ argsL.toArray v B ∧
      ∀ target, Steps p.tables e below (B.U.setTop { g with pc := g.pc + 3, stack := v.toList ++ rest }) target → Steps p.tables e below (T.setTop g) target) ∨
    (∃ (q : Addr) (vm₁ : Vm) (B : Pt), s.WarmedH vm₁ ∧ Stand p l e R s m args below meth c B.U B.locs B.cells B.slots ∧ PostX ⟨T.setVm vm₁, locs, cells, slots⟩ argsL.toArray q B ∧
      Steps p.tables e below (T.setTop g) ((B.U.setTop { g with stack := rest }).pushFrame (.throwing q))) := by
  obtain ⟨mk, methM, cM, hnamed, hmethM, -, -, -, -, -, -, hsigM⟩ := Cond.codeWith_spec hcode
  have hstatic : methM.isStatic = true := Cond.static_spec hnamed hmethM hstat
  obtain ⟨kP, hkP, -⟩ := className_of_methodNamed hnamed
  have hinitP : kP.init = .initialized := Cond.initialized_spec (findClass_of_methodNamed hnamed) hkP hinit
  obtain ⟨vm₁, X₁, hstep₁⟩ := X.invokestatic hexec hown hlink hnamed hmethM hstatic hkP hinitP hy (g := g) hg (argsL := argsL) (rest := rest) (hlen _ hsigM) hstack hdg
  rcases hK m meth c ⟨T.setVm vm₁, locs, cells, slots⟩ { g with stack := rest } (.invokestatic index) mk argsL.toArray X₁ hg hsize hdg hW (X₁.named hnamed) (hpre vm₁ X₁.warmed) with ⟨v, B, X', hpost, hsteps⟩ | ⟨q, B, X', hpost, hsteps⟩
  · exact Or.inl ⟨v, vm₁, B, X₁.warmed, X', hpost, fun target h => hstep₁ _ fun acts => by rw [doInvoke_state]; exact hsteps.trans h⟩
  · exact Or.inr ⟨q, vm₁, B, X₁.warmed, X', hpost, hstep₁ _ fun acts => by rw [doInvoke_state]; exact hsteps⟩
theorem vx_callVW (X : Stand p l e R s m args below meth c T locs cells slots) (hexec : p.tables.exec = Jvm.exec) {own C : String} {index : Nat} {y : MethodName} {bytes : ByteArray} {maxL : Nat} {ret : Option FieldType} {hh : List (Nat × Nat × Nat × Nat)}
    (hown : s.vm.findClass own = some m.cls) (hlink : (Cond.methodLink own index y).before args s = true) (hinst : (Cond.instanceMethod y).before args s = true) (hsel : (Cond.selects C y y).before args s = true)
    (hcode : (Cond.codeWith y bytes maxL ret hh).before args s = true) (hy : y.cls ≠ "java/lang/invoke/MethodHandle" ∧ y.cls ≠ "java/lang/invoke/VarHandle")
    {W9 : Nat} {Pre : Pt → Array Value → Prop} {Post : Pt → Array Value → Option Value → Pt → Prop} (hK : Back l R p e below s args y 3 W9 Pre Post)
    {b : Addr} {cellB : Cell} (hcell : T.heap[b]? = some cellB) (hobj : cellB.vm.isStatics = false) (hcls : s.vm.findClass C = some cellB.cls)
    {g : JFrame} (hg : g.method = m) (hsize : g.locals.size = c.maxLocals) {argsL rest : List Value} (hlen : ∀ sig, parseMethodDescriptor y.desc = some sig → argsL.length = sig.parameters.length)
    (hstack : g.stack = argsL.reverse ++ .ref b :: rest) (hW : 2 * g.monitorRoom + (rest.map fun v => v.category).sum ≤ W9) (hdg : decode c.code g.pc = .ok (.invokevirtual index, 3))
    (hpre : ∀ vm₁, s.WarmedH vm₁ → Pre ⟨T.setVm vm₁, locs, cells, slots⟩ (Value.ref b :: argsL).toArray) :
    ∃ (v : Option Value) (vm₁ : Vm) (B : Pt), s.WarmedH vm₁ ∧ Stand p l e R s m args below meth c B.U B.locs B.cells B.slots ∧ Post ⟨T.setVm vm₁, locs, cells, slots⟩ (Value.ref b :: argsL).toArray v B ∧
      ∀ target, Steps p.tables e below (B.U.setTop { g with pc := g.pc + 3, stack := v.toList ++ rest }) target → Steps p.tables e below (T.setTop g) target := by
  obtain ⟨mk, methM, hnamed, hmethM, hstM, habM⟩ := Cond.instanceMethod_spec hinst
  obtain ⟨m8, methM', cM, hn8, hmethM', -, -, -, -, -, -, hsigM⟩ := Cond.codeWith_spec hcode
  cases Option.some.inj (hn8.symm.trans hnamed)
  cases hmethM.symm.trans hmethM'
  obtain ⟨c2, r2, m2, q1, q2, q3, q4, kP, hkP, hkPi⟩ := Cond.selects_spec hsel
  cases hcls.symm.trans q1
  cases (State.methodFound?_of_named hnamed hy).symm.trans q2
  cases hnamed.symm.trans q3
  have hselP : selectMethod e.platform s.vm cellB.cls mk = .method mk := by rw [Launch.admits_selectMethod X.admits]; exact q4
  obtain ⟨vm₁, X₁, hstep₁⟩ := X.invokevirtual hexec hown hlink hnamed hmethM hstM hkP hkPi hy (a := b) (cell := cellB) hcell
    (fun z h => by rw [h] at hobj; cases hobj) hselP hmethM habM hkP hkPi (g := g) hg (argsL := argsL) (rest := rest) (hlen _ hsigM) hstack hdg
  obtain ⟨v, B, X', hpost, hsteps⟩ := hK m meth c ⟨T.setVm vm₁, locs, cells, slots⟩ { g with stack := rest } (.invokevirtual index) mk (Value.ref b :: argsL).toArray X₁ hg hsize hdg hW (X₁.named hnamed) (hpre vm₁ X₁.warmed)
  exact ⟨v, vm₁, B, X₁.warmed, X', hpost, fun target h => hstep₁ _ fun acts => by rw [doInvoke_state]; exact hsteps.trans h⟩
abbrev vx_CVW (R : Room) (s : State) (args : Array Value) (own C : String) (index : Nat) (y : MethodName) (bytes : ByteArray) (maxL : Nat) (ret : Option FieldType) (hh : List (Nat × Nat × Nat × Nat)) (ws : List Cond) (rm : Room) (mc ms n : Nat) : Prop :=
  (rm.cells = mc ∧ rm.slots = ms ∧ rm.frames + 1 ≤ R.frames ∧ 8 + (maxL + 11) + rm.locals ≤ R.locals ∧ (∀ w ∈ ws, ∀ (a' : Array Value) (U : State), s.WarmedH U.vm → w.before a' U = true) ∧ Cond.codeWith y bytes maxL ret hh ∈ ws) ∧
  (Cond.codeWith y bytes maxL ret hh).before args s = true ∧ (Cond.initialized y.cls).before args s = true ∧ (y.cls ≠ "java/lang/invoke/MethodHandle" ∧ y.cls ≠ "java/lang/invoke/VarHandle") ∧
  (∀ sig, parseMethodDescriptor y.desc = some sig → n = sig.parameters.length) ∧ (Cond.methodLink own index y).before args s = true ∧ (Cond.instanceMethod y).before args s = true ∧ (Cond.selects C y y).before args s = true
theorem vx_cwVW {own C : String} {index maxL mc ms : Nat} {y : MethodName} {bytes : ByteArray} {ret : Option FieldType} {hh : List (Nat × Nat × Nat × Nat)} {Ts ws ws' : List Cond} {rm : Room} (n : Nat) (ht : ∀ w ∈ Ts, w.before args s = true) (hT : GoodIn Ts (wsV own index C y ws)) (hw : ws = Cond.codeWith y bytes maxL ret hh :: ws') (hrc : rm.cells = mc) (hrs : rm.slots = ms)
    (hd : y.cls = C ∧ y.cls ≠ "java/lang/invoke/MethodHandle" ∧ y.cls ≠ "java/lang/invoke/VarHandle" ∧ (parseMethodDescriptor y.desc).map (fun d => d.parameters.length) = some n) (hR : rm.frames + 1 ≤ R.frames ∧ 8 + (maxL + 11) + rm.locals ≤ R.locals) :
    vx_CVW R s args own C index y bytes maxL ret hh ws rm mc ms n := by
  obtain ⟨hC, hd⟩ := hd
  subst hC
  have ok : ∀ w ∈ wsV own index y.cls y ws, w.before args s = true := fun w h => ht w (hT w h).1
  have hG : GoodIn Ts ws := fun w h => hT w (by unfold wsV; exact List.mem_append_right _ h)
  have hc : Cond.codeWith y bytes maxL ret hh ∈ ws := by rw [hw]; exact List.mem_cons_self
  refine ⟨⟨hrc, hrs, hR.1, hR.2, pay_in ht hG, hc⟩, ht _ (hG _ hc).1, ok _ (by simp [wsV]), ⟨hd.1, hd.2.1⟩, fun sig h => ?_, ok _ (by simp [wsV]), ok _ (by simp [wsV]), ok _ (by simp [wsV])⟩
  have h2 := hd.2.2
  rw [h] at h2
  exact (Option.some.inj h2).symm
theorem vx_runVW {y : MethodName} {bytes cc : ByteArray} {maxL nL mc ms n index : Nat} {ret : Option FieldType} {hh : List (Nat × Nat × Nat × Nat)} {ws : List Cond} {rm : Room} {Pc : Array Value → State → Prop} {Qc : Array Value → State → Outcome → State → Prop} {free : Addr → Prop} {Ts : List Cond} {own C : String} {b : Addr} {As rest : List Value} {g : JFrame}
    (S : CallFix p m c cc nL s args Ts own) (hM : Met l y ws rm Pc Qc mc ms free) (cw : vx_CVW R s args own C index y bytes maxL ret hh ws rm mc ms n) (hp : PreV s H C b Pc As)
    (hg : g.method = m) (hn : As.length = n) (hsize : g.locals.size = nL) (hstack : g.stack = As.reverse ++ .ref b :: rest) (hW : 2 * g.monitorRoom + (rest.map fun v => v.category).sum ≤ 8) (hdg : decode cc g.pc = .ok (.invokevirtual index, 3)) (hf : cells + mc ≤ R.cells ∧ slots + ms ≤ R.slots) :
    va_Run p l e R s m args below meth c H locs cells slots mc ms g rest (Qc (Value.ref b :: As).toArray) free := by
  obtain ⟨⟨hrc, hrs, hfr, hlo, hws, hcw⟩, hcode, hini, hy, hlen, hl, hin, hse⟩ := cw
  have hK : Back l R p e below s args y 3 8 (PreOf R mc ms Pc) (PostOf Qc mc ms free) := va_backW (hh := hh) (bytes := bytes) (maxL := maxL) (ret := ret) hM hp.1 hrc hrs hfr hlo hws hcw (fun a' U hW => word_at hW (Or.inl (by first | rfl | simp [Cond.onTables, Cond.keeps, Cond.steady])) hini)
  obtain ⟨hx, hb, hml, ho, -⟩ := S
  obtain ⟨-, ⟨cellB, hcB, hoB, hclB⟩, hPc⟩ := hp
  intro T hT X
  obtain ⟨v, vm₁, ⟨U', l2, c2, s2⟩, hW₁, X', ⟨g', mk, t, L, e1, e2, hq, h1, hL, h2, h3⟩, st⟩ := vx_callVW X hx (C := C) (hh := hh) (bytes := bytes) (maxL := maxL) (ret := ret) ho hl hin hse hcode hy hK (by rw [hT]; exact hcB) hoB hclB hg (hsize.trans hml.symm) (argsL := As) (rest := rest) (fun sig h => hn.trans (hlen sig h)) hstack hW (by rw [hb]; exact hdg)
    (fun vm₁ hW₁ => ⟨hf.1, hf.2, hPc (T.setVm vm₁) hT hW₁⟩)
  dsimp only [Pt.U, Pt.locs, Pt.cells, Pt.slots] at X' e1 e2 h1 h2 h3 st
  subst h1; subst h2; subst h3
  exact ⟨v, (T.setVm vm₁).calling g' mk (Value.ref b :: As).toArray, t, U', L, hT, X', hL, e1, e2, hq, st⟩
section
variable {y : MethodName} {bytes cc : ByteArray} {maxL nL mc ms n index : Nat} {ret : Option FieldType} {ws : List Cond} {rm : Room} {Pc : Array Value → State → Prop} {Qc : Array Value → State → Outcome → State → Prop} {XC : String → State → State → Prop} {free : Addr → Prop} {Ts : List Cond} {own C : String} {b : Addr} {As rest : List Value} {g : JFrame}
theorem vx_runVX {hh : List (Nat × Nat × Nat × Nat)} (S : CallFix p m c cc nL s args Ts own) (hM : vx_Met l y ws rm Pc Qc XC mc ms free) (cw : vx_CVW R s args own C index y bytes maxL ret hh ws rm mc ms n) (hp : PreV s H C b Pc As)
    (hg : g.method = m) (hn : As.length = n) (hsize : g.locals.size = nL) (hstack : g.stack = As.reverse ++ .ref b :: rest) (hW : 2 * g.monitorRoom + (rest.map fun v => v.category).sum ≤ 8) (hdg : decode cc g.pc = .ok (.invokevirtual index, 3)) (hf : cells + mc ≤ R.cells ∧ slots + ms ≤ R.slots) :
    vx_Run p l e R s m args below meth c H locs cells slots mc ms g rest (Qc (Value.ref b :: As).toArray) XC free := by
  obtain ⟨⟨hrc, hrs, hfr, hlo, hws, hcw⟩, hcode, hini, hy, hlen, hl, hin, hse⟩ := cw
  have hK : vx_Back l R p e below s args y 3 8 (PreOf R mc ms Pc) (PostOf Qc mc ms free) (vx_Post XC mc ms free) := vx_backW (hh := hh) (bytes := bytes) (maxL := maxL) (ret := ret) hM hp.1 hrc hrs hfr hlo hws hcw (fun a' U hW => word_at hW (Or.inl (by first | rfl | simp [Cond.onTables, Cond.keeps, Cond.steady])) hini)
  obtain ⟨hx, hb, hml, ho, -⟩ := S
  obtain ⟨-, ⟨cellB, hcB, hoB, hclB⟩, hPc⟩ := hp
  intro T hT X
  rcases vx_callVX X hx (C := C) (hh := hh) (bytes := bytes) (maxL := maxL) (ret := ret) ho hl hin hse hcode hy hK (by rw [hT]; exact hcB) hoB hclB hg (hsize.trans hml.symm) (argsL := As) (rest := rest) (fun sig h => hn.trans (hlen sig h)) hstack hW (by rw [hb]; exact hdg)
    (fun vm₁ hW₁ => ⟨hf.1, hf.2, hPc (T.setVm vm₁) hT hW₁⟩) with ⟨v, vm₁, ⟨U', l2, c2, s2⟩, hW₁, X', ⟨g', mk, t, L, e1, e2, hq, h1, hL, h2, h3⟩, st⟩ | ⟨q, vm₁, ⟨U', l2, c2, s2⟩, hW₁, X', ⟨g', mk, t, L, E, ce, e1, e2, hq, hce, hcv, hcl, h1, hL, h2, h3⟩, st⟩
  · dsimp only [Pt.U, Pt.locs, Pt.cells, Pt.slots] at X' e1 e2 h1 h2 h3 st
    subst h1; subst h2; subst h3
    exact Or.inl ⟨v, (T.setVm vm₁).calling g' mk (Value.ref b :: As).toArray, t, U', L, hT, X', hL, e1, e2, hq, st⟩
  · dsimp only [Pt.U, Pt.locs, Pt.cells, Pt.slots] at X' e1 e2 h1 h2 h3 st hcl
    subst h1; subst h2; subst h3
    exact Or.inr ⟨q, (T.setVm vm₁).calling g' mk (Value.ref b :: As).toArray, t, U', L, E, ce, hT, X', hL, e1, e2, hq, hce, hcv, vx_cls hW₁ hcl, st⟩
theorem vx_runSX {hh : List (Nat × Nat × Nat × Nat)} (S : CallFix p m c cc nL s args Ts own) (hM : vx_Met l y ws rm Pc Qc XC mc ms free) (cw : vx_CSW R s args own index y bytes maxL ret hh ws rm mc ms n) (hp : PreS s H Pc As)
    (hg : g.method = m) (hn : As.length = n) (hsize : g.locals.size = nL) (hstack : g.stack = As.reverse ++ rest) (hW : 2 * g.monitorRoom + (rest.map fun v => v.category).sum ≤ 8) (hdg : decode cc g.pc = .ok (.invokestatic index, 3)) (hf : cells + mc ≤ R.cells ∧ slots + ms ≤ R.slots) :
    vx_Run p l e R s m args below meth c H locs cells slots mc ms g rest (Qc As.toArray) XC free := by
  obtain ⟨⟨hrc, hrs, hfr, hlo, hws, hcw⟩, hcode, hini, hy, hlen, hl, hstt⟩ := cw
  have hK : vx_Back l R p e below s args y 3 8 (PreOf R mc ms Pc) (PostOf Qc mc ms free) (vx_Post XC mc ms free) := vx_backW (hh := hh) (bytes := bytes) (maxL := maxL) (ret := ret) hM hp.1 hrc hrs hfr hlo hws hcw (fun a' U hW => word_at hW (Or.inl (by first | rfl | simp [Cond.onTables, Cond.keeps, Cond.steady])) hini)
  obtain ⟨hx, hb, hml, ho, -⟩ := S
  intro T hT X
  rcases vx_callSX X hx (hh := hh) (bytes := bytes) (maxL := maxL) (ret := ret) ho hl hstt hini hcode hy hK hg (hsize.trans hml.symm) (argsL := As) (rest := rest) (fun sig h => hn.trans (hlen sig h)) hstack hW (by rw [hb]; exact hdg)
    (fun vm₁ hW₁ => ⟨hf.1, hf.2, hp.2 (T.setVm vm₁) hT hW₁⟩) with ⟨v, vm₁, ⟨U', l2, c2, s2⟩, hW₁, X', ⟨g', mk, t, L, e1, e2, hq, h1, hL, h2, h3⟩, st⟩ | ⟨q, vm₁, ⟨U', l2, c2, s2⟩, hW₁, X', ⟨g', mk, t, L, E, ce, e1, e2, hq, hce, hcv, hcl, h1, hL, h2, h3⟩, st⟩
  · dsimp only [Pt.U, Pt.locs, Pt.cells, Pt.slots] at X' e1 e2 h1 h2 h3 st
    subst h1; subst h2; subst h3
    exact Or.inl ⟨v, (T.setVm vm₁).calling g' mk As.toArray, t, U', L, hT, X', hL, e1, e2, hq, st⟩
  · dsimp only [Pt.U, Pt.locs, Pt.cells, Pt.slots] at X' e1 e2 h1 h2 h3 st hcl
    subst h1; subst h2; subst h3
    exact Or.inr ⟨q, (T.setVm vm₁).calling g' mk As.toArray, t, U', L, E, ce, hT, X', hL, e1, e2, hq, hce, hcv, vx_cls hW₁ hcl, st⟩
end
end VXH
theorem vx_ofWH {l : Launch} {y : MethodName} {ws ws' : List Cond} {rm : Room} {Pc : Array Value → State → Prop} {Qc : Array Value → State → Outcome → State → Prop} {XC : String → State → State → Prop} {mc ms : Nat} {free : Addr → Prop} {cc : ByteArray} {maxL : Nat} {ret : Option FieldType} {hh : List (Nat × Nat × Nat × Nat)}
    (hy : plainName y.cls = true) (hw : ws = Cond.codeWith y cc maxL ret hh :: ws')
    (body : ∀ p e s m args below meth c s₁, BodyLoose p l y (headSpec ws rm) cc maxL ret e s m args below meth c s₁ → c.maxLocals = maxL → Pc args s →
      W p l e (headSpec ws rm).room s m args below meth c s.heap [] 0 0 (vx_MQ below Qc XC args s mc ms free) (entryFrame m args maxL)) : vx_Met l y ws rm Pc Qc XC mc ms free := by
  refine MetFree.of_bodyS (code := cc) (maxLocals := maxL) (ret := ret) hy ?_ ?_
  · intro args s m h hn
    obtain ⟨m9, meth, c, hn9, h1, h2, h3, h4, -, h5, h6, -⟩ := Cond.codeWith_spec (atoms_spec (ws := ws) h _ (by rw [hw]; exact List.mem_cons_self))
    cases hn.symm.trans hn9
    exact ⟨meth, c, h1, h2, h3, h4, h5, h6⟩
  · intro p e s m args below meth c s₁ B hml hP _
    have hh0 : s₁.heap = s.heap := by rw [B.state]; rfl
    obtain ⟨t, a1, o, b1, b2, b3⟩ := body p e s m args below meth c s₁ B hml hP s₁ hh0 (Stand.of_body B)
    exact ⟨t, o, a1, b1, b2, b3⟩
/-! ===== END ===== -/
end
section
def RX0 : String := "Stablingroad$Diagram"
def TX0 : u_T := fun k => match k with
  | 0 => ("Stablingroad$Diagram", "from", "I", true)
  | 1 => ("Stablingroad$Diagram", "to", "I", true)
  | 2 => ("Stablingroad$Diagram", "km", "I", true)
  | 3 => ("Stablingroad$Diagram", "line", "I", true)
  | 4 => ("Stablingroad$Diagram", "weight", "I", true)
  | _ => ("Stablingroad$Diagram", "pinnedTo", "I", false)
def tyX0 : Nat → FieldType := fun k => match k with
  | 0 => .int
  | 1 => .int
  | 2 => .int
  | 3 => .int
  | 4 => .int
  | _ => .int
abbrev wsX00 : List Cond := u_ws RX0 TX0 6
theorem nmX0 : ∀ a, a < 6 → ∀ b, b < 6 → a ≠ b → (TX0 a).2.1 ≠ (TX0 b).2.1 := by decide +kernel
theorem tyX0_ok : ∀ k, k < 6 → parseFieldDescriptor (TX0 k).2.2.1 = some (tyX0 k) := by decide +kernel
abbrev cX0_init : ByteArray := prog_2_method_1_code
def yX0_init : MethodName := ⟨RX0, "<init>", "(IIIII)V"⟩
abbrev cX0_isOpenTo : ByteArray := prog_2_method_2_code
def yX0_isOpenTo : MethodName := ⟨RX0, "isOpenTo", "(I)Z"⟩
def RX1 : String := "Stablingroad$Exam"
def TX1 : u_T := fun k => match k with
  | 0 => ("Stablingroad$Exam", "limit", "I", false)
  | 1 => ("Stablingroad$Exam", "tolerance", "I", false)
  | _ => ("Stablingroad$Exam", "days", "I", false)
def tyX1 : Nat → FieldType := fun k => match k with
  | 0 => .int
  | 1 => .int
  | _ => .int
abbrev wsX10 : List Cond := u_ws RX1 TX1 3
theorem nmX1 : ∀ a, a < 3 → ∀ b, b < 3 → a ≠ b → (TX1 a).2.1 ≠ (TX1 b).2.1 := by decide +kernel
theorem tyX1_ok : ∀ k, k < 3 → parseFieldDescriptor (TX1 k).2.2.1 = some (tyX1 k) := by decide +kernel
abbrev cX1_init : ByteArray := prog_3_method_1_code
def yX1_init : MethodName := ⟨RX1, "<init>", "(III)V"⟩
abbrev cX1_bound : ByteArray := prog_3_method_2_code
def yX1_bound : MethodName := ⟨RX1, "bound", "()I"⟩
abbrev cX1_isOverdue : ByteArray := prog_3_method_3_code
def yX1_isOverdue : MethodName := ⟨RX1, "isOverdue", "(II)Z"⟩
abbrev cX1_isNear : ByteArray := prog_3_method_4_code
def yX1_isNear : MethodName := ⟨RX1, "isNear", "(I)Z"⟩
def RX2 : String := "Stablingroad$Fault"
def TX2 : u_T := fun k => match k with
  | 0 => ("Stablingroad$Fault", "kind", "I", true)
  | 1 => ("Stablingroad$Fault", "toldOn", "I", true)
  | 2 => ("Stablingroad$Fault", "where", "I", true)
  | _ => ("Stablingroad$Fault", "amount", "I", true)
def tyX2 : Nat → FieldType := fun k => match k with
  | 0 => .int
  | 1 => .int
  | 2 => .int
  | _ => .int
abbrev wsX20 : List Cond := u_ws RX2 TX2 4
theorem nmX2 : ∀ a, a < 4 → ∀ b, b < 4 → a ≠ b → (TX2 a).2.1 ≠ (TX2 b).2.1 := by decide +kernel
theorem tyX2_ok : ∀ k, k < 4 → parseFieldDescriptor (TX2 k).2.2.1 = some (tyX2 k) := by decide +kernel
abbrev cX2_init : ByteArray := prog_4_method_1_code
def yX2_init : MethodName := ⟨RX2, "<init>", "(IIII)V"⟩
abbrev cX2_isGrave : ByteArray := prog_4_method_2_code
def yX2_isGrave : MethodName := ⟨RX2, "isGrave", "()Z"⟩
def RX3 : String := "Stablingroad$Morning"
def TX3 : u_T := fun k => match k with
  | 0 => ("Stablingroad$Morning", "weights", "[I", true)
  | 1 => ("Stablingroad$Morning", "takers", "[I", true)
  | 2 => ("Stablingroad$Morning", "homers", "[I", true)
  | 3 => ("Stablingroad$Morning", "given", "[I", true)
  | 4 => ("Stablingroad$Morning", "trial", "[I", true)
  | 5 => ("Stablingroad$Morning", "leastCosts", "[I", true)
  | 6 => ("Stablingroad$Morning", "unitCount", "I", false)
  | _ => ("Stablingroad$Morning", "diagramCount", "I", false)
def tyX3 : Nat → FieldType := fun k => match k with
  | 0 => .array .int
  | 1 => .array .int
  | 2 => .array .int
  | 3 => .array .int
  | 4 => .array .int
  | 5 => .array .int
  | 6 => .int
  | _ => .int
abbrev wsX30 : List Cond := u_ws RX3 TX3 8
theorem nmX3 : ∀ a, a < 8 → ∀ b, b < 8 → a ≠ b → (TX3 a).2.1 ≠ (TX3 b).2.1 := by decide +kernel
theorem tyX3_ok : ∀ k, k < 8 → parseFieldDescriptor (TX3 k).2.2.1 = some (tyX3 k) := by decide +kernel
abbrev cX3_init : ByteArray := prog_5_method_1_code
def yX3_init : MethodName := ⟨RX3, "<init>", "()V"⟩
abbrev cX3_begin : ByteArray := prog_5_method_2_code
def yX3_begin : MethodName := ⟨RX3, "begin", "(I)V"⟩
abbrev cX3_addDiagram : ByteArray := prog_5_method_3_code
def yX3_addDiagram : MethodName := ⟨RX3, "addDiagram", "(III)V"⟩
abbrev cX3_givenTo : ByteArray := prog_5_method_4_code
def yX3_givenTo : MethodName := ⟨RX3, "givenTo", "(I)I"⟩
abbrev cX3_lackOfGiven : ByteArray := prog_5_method_5_code
def yX3_lackOfGiven : MethodName := ⟨RX3, "lackOfGiven", "()I"⟩
abbrev cX3_at : ByteArray := prog_5_method_6_code
def yX3_at : MethodName := ⟨RX3, "at", "([III)I"⟩
abbrev cX3_put : ByteArray := prog_5_method_7_code
def yX3_put : MethodName := ⟨RX3, "put", "([III)V"⟩
abbrev cX3_has : ByteArray := prog_5_method_8_code
def yX3_has : MethodName := ⟨RX3, "has", "(II)Z"⟩
abbrev cX3_lackOf : ByteArray := prog_5_method_9_code
def yX3_lackOf : MethodName := ⟨RX3, "lackOf", "([I)I"⟩
abbrev cX3_homingOf : ByteArray := prog_5_method_10_code
def yX3_homingOf : MethodName := ⟨RX3, "homingOf", "([I)I"⟩
abbrev cX3_allocateByParts : ByteArray := prog_5_method_11_code
def yX3_allocateByParts : MethodName := ⟨RX3, "allocateByParts", "()V"⟩
abbrev cX3_fillLeastCosts : ByteArray := prog_5_method_12_code
def yX3_fillLeastCosts : MethodName := ⟨RX3, "fillLeastCosts", "()V"⟩
abbrev cX3_leastCostFrom : ByteArray := prog_5_method_13_code
def yX3_leastCostFrom : MethodName := ⟨RX3, "leastCostFrom", "(II)I"⟩
abbrev cX3_lowestOfLeastCost : ByteArray := prog_5_method_14_code
def yX3_lowestOfLeastCost : MethodName := ⟨RX3, "lowestOfLeastCost", "(II)I"⟩
abbrev cX3_costWith : ByteArray := prog_5_method_15_code
def yX3_costWith : MethodName := ⟨RX3, "costWith", "(III)I"⟩
abbrev cX3_without : ByteArray := prog_5_method_16_code
def yX3_without : MethodName := ⟨RX3, "without", "(II)I"⟩
abbrev cX3_allocateByAll : ByteArray := prog_5_method_17_code
def yX3_allocateByAll : MethodName := ⟨RX3, "allocateByAll", "()V"⟩
abbrev cX3_howManyTrials : ByteArray := prog_5_method_18_code
def yX3_howManyTrials : MethodName := ⟨RX3, "howManyTrials", "()I"⟩
abbrev cX3_stepTrial : ByteArray := prog_5_method_19_code
def yX3_stepTrial : MethodName := ⟨RX3, "stepTrial", "()V"⟩
abbrev cX3_firstChoice : ByteArray := prog_5_method_20_code
def yX3_firstChoice : MethodName := ⟨RX3, "firstChoice", "()I"⟩
abbrev cX3_trialIsAllowed : ByteArray := prog_5_method_21_code
def yX3_trialIsAllowed : MethodName := ⟨RX3, "trialIsAllowed", "()Z"⟩
abbrev cX3_trialIsBetter : ByteArray := prog_5_method_22_code
def yX3_trialIsBetter : MethodName := ⟨RX3, "trialIsBetter", "()Z"⟩
def RX4 : String := "Stablingroad$Past"
def TX4 : u_T := fun k => match k with
  | _ => ("Stablingroad$Past", "runners", "[I", true)
def tyX4 : Nat → FieldType := fun k => match k with
  | _ => .array .int
abbrev wsX40 : List Cond := u_ws RX4 TX4 1
theorem nmX4 : ∀ a, a < 1 → ∀ b, b < 1 → a ≠ b → (TX4 a).2.1 ≠ (TX4 b).2.1 := by decide +kernel
theorem tyX4_ok : ∀ k, k < 1 → parseFieldDescriptor (TX4 k).2.2.1 = some (tyX4 k) := by decide +kernel
abbrev cX4_init : ByteArray := prog_6_method_1_code
def yX4_init : MethodName := ⟨RX4, "<init>", "()V"⟩
abbrev cX4_record : ByteArray := prog_6_method_2_code
def yX4_record : MethodName := ⟨RX4, "record", "(III)V"⟩
abbrev cX4_unitThatRan : ByteArray := prog_6_method_3_code
def yX4_unitThatRan : MethodName := ⟨RX4, "unitThatRan", "(II)I"⟩
abbrev cX4_timesThatRan : ByteArray := prog_6_method_4_code
def yX4_timesThatRan : MethodName := ⟨RX4, "timesThatRan", "(II)I"⟩
def RX5 : String := "Stablingroad$Permit"
def TX5 : u_T := fun k => match k with
  | 0 => ("Stablingroad$Permit", "days", "I", false)
  | _ => ("Stablingroad$Permit", "worstLine", "I", false)
def tyX5 : Nat → FieldType := fun k => match k with
  | 0 => .int
  | _ => .int
abbrev wsX50 : List Cond := u_ws RX5 TX5 2
theorem nmX5 : ∀ a, a < 2 → ∀ b, b < 2 → a ≠ b → (TX5 a).2.1 ≠ (TX5 b).2.1 := by decide +kernel
theorem tyX5_ok : ∀ k, k < 2 → parseFieldDescriptor (TX5 k).2.2.1 = some (tyX5 k) := by decide +kernel
abbrev cX5_init : ByteArray := prog_7_method_1_code
def yX5_init : MethodName := ⟨RX5, "<init>", "()V"⟩
abbrev cX5_forbids : ByteArray := prog_7_method_2_code
def yX5_forbids : MethodName := ⟨RX5, "forbids", "(II)Z"⟩
def RX6 : String := "Stablingroad$Row"
def TX6 : u_T := fun k => match k with
  | 0 => ("Stablingroad$Row", "standing", "[I", true)
  | _ => ("Stablingroad$Row", "count", "I", false)
def tyX6 : Nat → FieldType := fun k => match k with
  | 0 => .array .int
  | _ => .int
abbrev wsX60 : List Cond := u_ws RX6 TX6 2
theorem nmX6 : ∀ a, a < 2 → ∀ b, b < 2 → a ≠ b → (TX6 a).2.1 ≠ (TX6 b).2.1 := by decide +kernel
theorem tyX6_ok : ∀ k, k < 2 → parseFieldDescriptor (TX6 k).2.2.1 = some (tyX6 k) := by decide +kernel
abbrev cX6_init : ByteArray := prog_8_method_1_code
def yX6_init : MethodName := ⟨RX6, "<init>", "()V"⟩
abbrev cX6_come : ByteArray := prog_8_method_2_code
def yX6_come : MethodName := ⟨RX6, "come", "(I)V"⟩
abbrev cX6_leave : ByteArray := prog_8_method_3_code
def yX6_leave : MethodName := ⟨RX6, "leave", "(I)V"⟩
abbrev cX6_behind : ByteArray := prog_8_method_4_code
def yX6_behind : MethodName := ⟨RX6, "behind", "(I)I"⟩
abbrev cX6_fromExit : ByteArray := prog_8_method_5_code
def yX6_fromExit : MethodName := ⟨RX6, "fromExit", "(I)I"⟩
def RX7 : String := "Stablingroad$Rules"
def TX7 : u_T := fun k => match k with
  | 0 => ("Stablingroad$Rules", "exams", "[LStablingroad$Exam;", true)
  | _ => ("Stablingroad$Rules", "permits", "[LStablingroad$Permit;", true)
def tyX7 : Nat → FieldType := fun k => match k with
  | 0 => .array (.object "Stablingroad$Exam")
  | _ => .array (.object "Stablingroad$Permit")
abbrev wsX70 : List Cond := u_ws RX7 TX7 2
theorem nmX7 : ∀ a, a < 2 → ∀ b, b < 2 → a ≠ b → (TX7 a).2.1 ≠ (TX7 b).2.1 := by decide +kernel
theorem tyX7_ok : ∀ k, k < 2 → parseFieldDescriptor (TX7 k).2.2.1 = some (tyX7 k) := by decide +kernel
abbrev cX7_init : ByteArray := prog_9_method_1_code
def yX7_init : MethodName := ⟨RX7, "<init>", "()V"⟩
abbrev cX7_examAt : ByteArray := prog_9_method_2_code
def yX7_examAt : MethodName := ⟨RX7, "examAt", "(I)LStablingroad$Exam;"⟩
abbrev cX7_permitAt : ByteArray := prog_9_method_3_code
def yX7_permitAt : MethodName := ⟨RX7, "permitAt", "(I)LStablingroad$Permit;"⟩
abbrev cX7_reasonAgainst : ByteArray := prog_9_method_4_code
def yX7_reasonAgainst : MethodName := ⟨RX7, "reasonAgainst", "(LStablingroad$Unit;LStablingroad$Diagram;I)I"⟩
abbrev cX7_isSoon : ByteArray := prog_9_method_5_code
def yX7_isSoon : MethodName := ⟨RX7, "isSoon", "(LStablingroad$Unit;)Z"⟩
abbrev cX7_overdueBits : ByteArray := prog_9_method_6_code
def yX7_overdueBits : MethodName := ⟨RX7, "overdueBits", "(LStablingroad$Unit;)I"⟩
abbrev cX7_overdueBitsBehind : ByteArray := prog_9_method_7_code
def yX7_overdueBitsBehind : MethodName := ⟨RX7, "overdueBitsBehind", "(LStablingroad$Unit;I)I"⟩
abbrev cX7_listForbids : ByteArray := prog_9_method_8_code
def yX7_listForbids : MethodName := ⟨RX7, "listForbids", "(LStablingroad$Unit;II)Z"⟩
abbrev cX7_faultsAreGrave : ByteArray := prog_9_method_9_code
def yX7_faultsAreGrave : MethodName := ⟨RX7, "faultsAreGrave", "(LStablingroad$Unit;)Z"⟩
abbrev cX7_axlesAreBad : ByteArray := prog_9_method_10_code
def yX7_axlesAreBad : MethodName := ⟨RX7, "axlesAreBad", "(LStablingroad$Unit;)Z"⟩
def RX8 : String := "Stablingroad$Unit"
def TX8 : u_T := fun k => match k with
  | 0 => ("Stablingroad$Unit", "kmTold", "I", true)
  | 1 => ("Stablingroad$Unit", "faults", "Ljava/util/ArrayList;", true)
  | 2 => ("Stablingroad$Unit", "depot", "I", false)
  | 3 => ("Stablingroad$Unit", "km", "I", false)
  | 4 => ("Stablingroad$Unit", "kmClocks", "[I", true)
  | 5 => ("Stablingroad$Unit", "dayClocks", "[I", true)
  | _ => ("Stablingroad$Unit", "axles", "[I", true)
def tyX8 : Nat → FieldType := fun k => match k with
  | 0 => .int
  | 1 => .object "java/util/ArrayList"
  | 2 => .int
  | 3 => .int
  | 4 => .array .int
  | 5 => .array .int
  | _ => .array .int
abbrev wsX80 : List Cond := u_ws RX8 TX8 7
theorem nmX8 : ∀ a, a < 7 → ∀ b, b < 7 → a ≠ b → (TX8 a).2.1 ≠ (TX8 b).2.1 := by decide +kernel
theorem tyX8_ok : ∀ k, k < 7 → parseFieldDescriptor (TX8 k).2.2.1 = some (tyX8 k) := by decide +kernel
abbrev cX8_init : ByteArray := prog_10_method_1_code
def yX8_init : MethodName := ⟨RX8, "<init>", "(II)V"⟩
abbrev cX8_kmSince : ByteArray := prog_10_method_2_code
def yX8_kmSince : MethodName := ⟨RX8, "kmSince", "(I)I"⟩
abbrev cX8_daysSince : ByteArray := prog_10_method_3_code
def yX8_daysSince : MethodName := ⟨RX8, "daysSince", "(I)I"⟩
abbrev cX8_axleSize : ByteArray := prog_10_method_4_code
def yX8_axleSize : MethodName := ⟨RX8, "axleSize", "(I)I"⟩
abbrev cX8_grow : ByteArray := prog_10_method_5_code
def yX8_grow : MethodName := ⟨RX8, "grow", "(I)V"⟩
abbrev cX8_wear : ByteArray := prog_10_method_6_code
def yX8_wear : MethodName := ⟨RX8, "wear", "(II)I"⟩
abbrev cX8_growOlder : ByteArray := prog_10_method_7_code
def yX8_growOlder : MethodName := ⟨RX8, "growOlder", "()V"⟩
abbrev cX8_beginAgain : ByteArray := prog_10_method_8_code
def yX8_beginAgain : MethodName := ⟨RX8, "beginAgain", "(I)V"⟩
abbrev cX8_greatestAxle : ByteArray := prog_10_method_9_code
def yX8_greatestAxle : MethodName := ⟨RX8, "greatestAxle", "()I"⟩
abbrev cX8_leastAxle : ByteArray := prog_10_method_10_code
def yX8_leastAxle : MethodName := ⟨RX8, "leastAxle", "()I"⟩
abbrev cX8_turn : ByteArray := prog_10_method_11_code
def yX8_turn : MethodName := ⟨RX8, "turn", "()I"⟩
abbrev cX8_depthOnAxle : ByteArray := prog_10_method_12_code
def yX8_depthOnAxle : MethodName := ⟨RX8, "depthOnAxle", "(I)I"⟩
abbrev cX8_dropFlats : ByteArray := prog_10_method_13_code
def yX8_dropFlats : MethodName := ⟨RX8, "dropFlats", "()V"⟩
abbrev cX8_faultAtPlace : ByteArray := prog_10_method_14_code
def yX8_faultAtPlace : MethodName := ⟨RX8, "faultAtPlace", "(I)LStablingroad$Fault;"⟩
abbrev cX8_dropFault : ByteArray := prog_10_method_15_code
def yX8_dropFault : MethodName := ⟨RX8, "dropFault", "(I)V"⟩
def RX9 : String := "Stablingroad"
def TX9 : u_T := fun k => match k with
  | 0 => ("Stablingroad", "units", "Ljava/util/ArrayList;", true)
  | 1 => ("Stablingroad", "diagrams", "Ljava/util/ArrayList;", true)
  | 2 => ("Stablingroad", "rows", "[LStablingroad$Row;", true)
  | 3 => ("Stablingroad", "rules", "LStablingroad$Rules;", true)
  | 4 => ("Stablingroad", "morning", "LStablingroad$Morning;", true)
  | 5 => ("Stablingroad", "past", "LStablingroad$Past;", true)
  | 6 => ("Stablingroad", "now", "I", false)
  | 7 => ("Stablingroad", "shuntCount", "I", false)
  | 8 => ("Stablingroad", "pitIsTaken", "Z", false)
  | _ => ("Stablingroad", "latheIsTaken", "Z", false)
def tyX9 : Nat → FieldType := fun k => match k with
  | 0 => .object "java/util/ArrayList"
  | 1 => .object "java/util/ArrayList"
  | 2 => .array (.object "Stablingroad$Row")
  | 3 => .object "Stablingroad$Rules"
  | 4 => .object "Stablingroad$Morning"
  | 5 => .object "Stablingroad$Past"
  | 6 => .int
  | 7 => .int
  | 8 => .boolean
  | _ => .boolean
abbrev wsX90 : List Cond := u_ws RX9 TX9 10
theorem nmX9 : ∀ a, a < 10 → ∀ b, b < 10 → a ≠ b → (TX9 a).2.1 ≠ (TX9 b).2.1 := by decide +kernel
theorem tyX9_ok : ∀ k, k < 10 → parseFieldDescriptor (TX9 k).2.2.1 = some (tyX9 k) := by decide +kernel
abbrev cX9_init : ByteArray := prog_1_method_1_code
def yX9_init : MethodName := ⟨RX9, "<init>", "()V"⟩
abbrev cX9_unit : ByteArray := prog_1_method_2_code
def yX9_unit : MethodName := ⟨RX9, "unit", "(II)I"⟩
abbrev cX9_diagram : ByteArray := prog_1_method_3_code
def yX9_diagram : MethodName := ⟨RX9, "diagram", "(IIIII)I"⟩
abbrev cX9_exam : ByteArray := prog_1_method_4_code
def yX9_exam : MethodName := ⟨RX9, "exam", "(IIII)I"⟩
abbrev cX9_list : ByteArray := prog_1_method_5_code
def yX9_list : MethodName := ⟨RX9, "list", "(III)I"⟩
abbrev cX9_fault : ByteArray := prog_1_method_6_code
def yX9_fault : MethodName := ⟨RX9, "fault", "(IIII)I"⟩
abbrev cX9_pin : ByteArray := prog_1_method_7_code
def yX9_pin : MethodName := ⟨RX9, "pin", "(II)I"⟩
abbrev cX9_whyNot : ByteArray := prog_1_method_8_code
def yX9_whyNot : MethodName := ⟨RX9, "whyNot", "(II)I"⟩
abbrev cX9_allocation : ByteArray := prog_1_method_9_code
def yX9_allocation : MethodName := ⟨RX9, "allocation", "(I)I"⟩
abbrev cX9_allocationAnew : ByteArray := prog_1_method_10_code
def yX9_allocationAnew : MethodName := ⟨RX9, "allocationAnew", "(I)I"⟩
abbrev cX9_lack : ByteArray := prog_1_method_11_code
def yX9_lack : MethodName := ⟨RX9, "lack", "()I"⟩
abbrev cX9_day : ByteArray := prog_1_method_12_code
def yX9_day : MethodName := ⟨RX9, "day", "()I"⟩
abbrev cX9_examine : ByteArray := prog_1_method_13_code
def yX9_examine : MethodName := ⟨RX9, "examine", "(II)I"⟩
abbrev cX9_lathe : ByteArray := prog_1_method_14_code
def yX9_lathe : MethodName := ⟨RX9, "lathe", "(I)I"⟩
abbrev cX9_mend : ByteArray := prog_1_method_15_code
def yX9_mend : MethodName := ⟨RX9, "mend", "(II)I"⟩
abbrev cX9_today : ByteArray := prog_1_method_16_code
def yX9_today : MethodName := ⟨RX9, "today", "()I"⟩
abbrev cX9_about : ByteArray := prog_1_method_17_code
def yX9_about : MethodName := ⟨RX9, "about", "(II)I"⟩
abbrev cX9_clock : ByteArray := prog_1_method_18_code
def yX9_clock : MethodName := ⟨RX9, "clock", "(IIZ)I"⟩
abbrev cX9_axle : ByteArray := prog_1_method_19_code
def yX9_axle : MethodName := ⟨RX9, "axle", "(II)I"⟩
abbrev cX9_faultAt : ByteArray := prog_1_method_20_code
def yX9_faultAt : MethodName := ⟨RX9, "faultAt", "(III)I"⟩
abbrev cX9_stands : ByteArray := prog_1_method_21_code
def yX9_stands : MethodName := ⟨RX9, "stands", "(II)I"⟩
abbrev cX9_shunts : ByteArray := prog_1_method_22_code
def yX9_shunts : MethodName := ⟨RX9, "shunts", "()I"⟩
abbrev cX9_ran : ByteArray := prog_1_method_23_code
def yX9_ran : MethodName := ⟨RX9, "ran", "(II)I"⟩
abbrev cX9_kmAnew : ByteArray := prog_1_method_24_code
def yX9_kmAnew : MethodName := ⟨RX9, "kmAnew", "(I)I"⟩
abbrev cX9_checkNumber : ByteArray := prog_1_method_25_code
def yX9_checkNumber : MethodName := ⟨RX9, "checkNumber", "(II)V"⟩
abbrev cX9_checkRange : ByteArray := prog_1_method_26_code
def yX9_checkRange : MethodName := ⟨RX9, "checkRange", "(III)V"⟩
abbrev cX9_unitAt : ByteArray := prog_1_method_27_code
def yX9_unitAt : MethodName := ⟨RX9, "unitAt", "(I)LStablingroad$Unit;"⟩
abbrev cX9_diagramAt : ByteArray := prog_1_method_28_code
def yX9_diagramAt : MethodName := ⟨RX9, "diagramAt", "(I)LStablingroad$Diagram;"⟩
abbrev cX9_rowAt : ByteArray := prog_1_method_29_code
def yX9_rowAt : MethodName := ⟨RX9, "rowAt", "(I)LStablingroad$Row;"⟩
abbrev cX9_readMorning : ByteArray := prog_1_method_30_code
def yX9_readMorning : MethodName := ⟨RX9, "readMorning", "()V"⟩
abbrev cX9_leaveRows : ByteArray := prog_1_method_31_code
def yX9_leaveRows : MethodName := ⟨RX9, "leaveRows", "()V"⟩
abbrev cX9_comeToDepots : ByteArray := prog_1_method_32_code
def yX9_comeToDepots : MethodName := ⟨RX9, "comeToDepots", "()V"⟩
def RX10 : String := "StablingroadModel"
def TX10 : u_T := fun k => match k with
  | 0 => ("StablingroadModel", "thrown", "I", false)
  | 1 => ("StablingroadModel", "today", "I", false)
  | 2 => ("StablingroadModel", "shunted", "I", false)
  | 3 => ("StablingroadModel", "isPitUsed", "Z", false)
  | 4 => ("StablingroadModel", "isLatheUsed", "Z", false)
  | 5 => ("StablingroadModel", "units", "I", false)
  | 6 => ("StablingroadModel", "depots", "[I", true)
  | 7 => ("StablingroadModel", "toldKm", "[I", true)
  | 8 => ("StablingroadModel", "kms", "[I", true)
  | 9 => ("StablingroadModel", "axles", "[I", true)
  | 10 => ("StablingroadModel", "kmClocks", "[I", true)
  | 11 => ("StablingroadModel", "dayClocks", "[I", true)
  | 12 => ("StablingroadModel", "rows", "[I", true)
  | 13 => ("StablingroadModel", "long0", "[I", true)
  | 14 => ("StablingroadModel", "faultMany", "[I", true)
  | 15 => ("StablingroadModel", "kinds", "[I", true)
  | 16 => ("StablingroadModel", "days", "[I", true)
  | 17 => ("StablingroadModel", "places", "[I", true)
  | 18 => ("StablingroadModel", "amounts", "[I", true)
  | 19 => ("StablingroadModel", "diagrams", "I", false)
  | 20 => ("StablingroadModel", "froms", "[I", true)
  | 21 => ("StablingroadModel", "tos", "[I", true)
  | 22 => ("StablingroadModel", "lengths", "[I", true)
  | 23 => ("StablingroadModel", "lines", "[I", true)
  | 24 => ("StablingroadModel", "weights", "[I", true)
  | 25 => ("StablingroadModel", "pins", "[I", true)
  | 26 => ("StablingroadModel", "limits", "[I", true)
  | 27 => ("StablingroadModel", "tolerances", "[I", true)
  | 28 => ("StablingroadModel", "examDays", "[I", true)
  | 29 => ("StablingroadModel", "listDays", "[I", true)
  | 30 => ("StablingroadModel", "listLines", "[I", true)
  | 31 => ("StablingroadModel", "log", "[I", true)
  | 32 => ("StablingroadModel", "best", "[I", true)
  | 33 => ("StablingroadModel", "tried", "[I", true)
  | 34 => ("StablingroadModel", "isUsed", "[Z", true)
  | 35 => ("StablingroadModel", "may", "[Z", true)
  | 36 => ("StablingroadModel", "isSoonNow", "[Z", true)
  | 37 => ("StablingroadModel", "bestLack", "I", false)
  | _ => ("StablingroadModel", "bestHoming", "I", false)
def tyX10 : Nat → FieldType := fun k => match k with
  | 0 => .int
  | 1 => .int
  | 2 => .int
  | 3 => .boolean
  | 4 => .boolean
  | 5 => .int
  | 6 => .array .int
  | 7 => .array .int
  | 8 => .array .int
  | 9 => .array .int
  | 10 => .array .int
  | 11 => .array .int
  | 12 => .array .int
  | 13 => .array .int
  | 14 => .array .int
  | 15 => .array .int
  | 16 => .array .int
  | 17 => .array .int
  | 18 => .array .int
  | 19 => .int
  | 20 => .array .int
  | 21 => .array .int
  | 22 => .array .int
  | 23 => .array .int
  | 24 => .array .int
  | 25 => .array .int
  | 26 => .array .int
  | 27 => .array .int
  | 28 => .array .int
  | 29 => .array .int
  | 30 => .array .int
  | 31 => .array .int
  | 32 => .array .int
  | 33 => .array .int
  | 34 => .array .boolean
  | 35 => .array .boolean
  | 36 => .array .boolean
  | 37 => .int
  | _ => .int
abbrev wsX100 : List Cond := u_ws RX10 TX10 39
theorem nmX10 : ∀ a, a < 39 → ∀ b, b < 39 → a ≠ b → (TX10 a).2.1 ≠ (TX10 b).2.1 := by decide +kernel
theorem tyX10_ok : ∀ k, k < 39 → parseFieldDescriptor (TX10 k).2.2.1 = some (tyX10 k) := by decide +kernel
abbrev cX10_init : ByteArray := prog_12_method_1_code
def yX10_init : MethodName := ⟨RX10, "<init>", "()V"⟩
abbrev cX10_thrown : ByteArray := prog_12_method_2_code
def yX10_thrown : MethodName := ⟨RX10, "thrown", "()I"⟩
abbrev cX10_between : ByteArray := prog_12_method_3_code
def yX10_between : MethodName := ⟨RX10, "between", "(III)Z"⟩
abbrev cX10_isDepot : ByteArray := prog_12_method_4_code
def yX10_isDepot : MethodName := ⟨RX10, "isDepot", "(I)Z"⟩
abbrev cX10_isUnit : ByteArray := prog_12_method_5_code
def yX10_isUnit : MethodName := ⟨RX10, "isUnit", "(I)Z"⟩
abbrev cX10_isDiagram : ByteArray := prog_12_method_6_code
def yX10_isDiagram : MethodName := ⟨RX10, "isDiagram", "(I)Z"⟩
abbrev cX10_isExam : ByteArray := prog_12_method_7_code
def yX10_isExam : MethodName := ⟨RX10, "isExam", "(I)Z"⟩
abbrev cX10_isFault : ByteArray := prog_12_method_8_code
def yX10_isFault : MethodName := ⟨RX10, "isFault", "(II)Z"⟩
abbrev cX10_bound : ByteArray := prog_12_method_9_code
def yX10_bound : MethodName := ⟨RX10, "bound", "(I)I"⟩
abbrev cX10_comes : ByteArray := prog_12_method_10_code
def yX10_comes : MethodName := ⟨RX10, "comes", "(II)V"⟩
abbrev cX10_placeOf : ByteArray := prog_12_method_11_code
def yX10_placeOf : MethodName := ⟨RX10, "placeOf", "(I)I"⟩
abbrev cX10_unit : ByteArray := prog_12_method_12_code
def yX10_unit : MethodName := ⟨RX10, "unit", "(II)I"⟩
abbrev cX10_diagram : ByteArray := prog_12_method_13_code
def yX10_diagram : MethodName := ⟨RX10, "diagram", "(IIIII)I"⟩
abbrev cX10_exam : ByteArray := prog_12_method_14_code
def yX10_exam : MethodName := ⟨RX10, "exam", "(IIII)I"⟩
abbrev cX10_list : ByteArray := prog_12_method_15_code
def yX10_list : MethodName := ⟨RX10, "list", "(III)I"⟩
abbrev cX10_fault : ByteArray := prog_12_method_16_code
def yX10_fault : MethodName := ⟨RX10, "fault", "(IIII)I"⟩
abbrev cX10_pin : ByteArray := prog_12_method_17_code
def yX10_pin : MethodName := ⟨RX10, "pin", "(II)I"⟩
abbrev cX10_isExamDue : ByteArray := prog_12_method_18_code
def yX10_isExamDue : MethodName := ⟨RX10, "isExamDue", "(II)Z"⟩
abbrev cX10_isBarredByList : ByteArray := prog_12_method_19_code
def yX10_isBarredByList : MethodName := ⟨RX10, "isBarredByList", "(II)Z"⟩
abbrev cX10_isBad : ByteArray := prog_12_method_20_code
def yX10_isBad : MethodName := ⟨RX10, "isBad", "(I)Z"⟩
abbrev cX10_isWorn : ByteArray := prog_12_method_21_code
def yX10_isWorn : MethodName := ⟨RX10, "isWorn", "(I)Z"⟩
abbrev cX10_reason : ByteArray := prog_12_method_22_code
def yX10_reason : MethodName := ⟨RX10, "reason", "(II)I"⟩
abbrev cX10_whyNot : ByteArray := prog_12_method_23_code
def yX10_whyNot : MethodName := ⟨RX10, "whyNot", "(II)I"⟩
abbrev cX10_isSoon : ByteArray := prog_12_method_24_code
def yX10_isSoon : MethodName := ⟨RX10, "isSoon", "(I)Z"⟩
abbrev cX10_looks : ByteArray := prog_12_method_25_code
def yX10_looks : MethodName := ⟨RX10, "looks", "()V"⟩
abbrev cX10_decides : ByteArray := prog_12_method_26_code
def yX10_decides : MethodName := ⟨RX10, "decides", "()V"⟩
abbrev cX10_allocation : ByteArray := prog_12_method_27_code
def yX10_allocation : MethodName := ⟨RX10, "allocation", "(I)I"⟩
abbrev cX10_allocationAnew : ByteArray := prog_12_method_28_code
def yX10_allocationAnew : MethodName := ⟨RX10, "allocationAnew", "(I)I"⟩
abbrev cX10_lack : ByteArray := prog_12_method_29_code
def yX10_lack : MethodName := ⟨RX10, "lack", "()I"⟩
abbrev cX10_leaves : ByteArray := prog_12_method_30_code
def yX10_leaves : MethodName := ⟨RX10, "leaves", "(I)V"⟩
abbrev cX10_runs : ByteArray := prog_12_method_31_code
def yX10_runs : MethodName := ⟨RX10, "runs", "(II)V"⟩
abbrev cX10_day : ByteArray := prog_12_method_32_code
def yX10_day : MethodName := ⟨RX10, "day", "()I"⟩
abbrev cX10_examine : ByteArray := prog_12_method_33_code
def yX10_examine : MethodName := ⟨RX10, "examine", "(II)I"⟩
abbrev cX10_goes : ByteArray := prog_12_method_34_code
def yX10_goes : MethodName := ⟨RX10, "goes", "(II)V"⟩
abbrev cX10_lathe : ByteArray := prog_12_method_35_code
def yX10_lathe : MethodName := ⟨RX10, "lathe", "(I)I"⟩
abbrev cX10_mend : ByteArray := prog_12_method_36_code
def yX10_mend : MethodName := ⟨RX10, "mend", "(II)I"⟩
abbrev cX10_today : ByteArray := prog_12_method_37_code
def yX10_today : MethodName := ⟨RX10, "today", "()I"⟩
abbrev cX10_about : ByteArray := prog_12_method_38_code
def yX10_about : MethodName := ⟨RX10, "about", "(II)I"⟩
abbrev cX10_clock : ByteArray := prog_12_method_39_code
def yX10_clock : MethodName := ⟨RX10, "clock", "(IIZ)I"⟩
abbrev cX10_axle : ByteArray := prog_12_method_40_code
def yX10_axle : MethodName := ⟨RX10, "axle", "(II)I"⟩
abbrev cX10_faultAt : ByteArray := prog_12_method_41_code
def yX10_faultAt : MethodName := ⟨RX10, "faultAt", "(III)I"⟩
abbrev cX10_stands : ByteArray := prog_12_method_42_code
def yX10_stands : MethodName := ⟨RX10, "stands", "(II)I"⟩
abbrev cX10_shunts : ByteArray := prog_12_method_43_code
def yX10_shunts : MethodName := ⟨RX10, "shunts", "()I"⟩
abbrev cX10_ran : ByteArray := prog_12_method_44_code
def yX10_ran : MethodName := ⟨RX10, "ran", "(II)I"⟩
abbrev cX10_kmAnew : ByteArray := prog_12_method_45_code
def yX10_kmAnew : MethodName := ⟨RX10, "kmAnew", "(I)I"⟩
def RJx145de : String := "java/io/Serializable"
def TJx145de : u_T := fun k => match k with
  | _ => ("", "", "", false)
def tyJx145de : Nat → FieldType := fun k => match k with
  | _ => .int
abbrev wsJx145de0 : List Cond := u_ws RJx145de TJx145de 0
theorem nmJx145de : ∀ a, a < 0 → ∀ b, b < 0 → a ≠ b → (TJx145de a).2.1 ≠ (TJx145de b).2.1 := by decide +kernel
theorem tyJx145de_ok : ∀ k, k < 0 → parseFieldDescriptor (TJx145de k).2.2.1 = some (tyJx145de k) := by decide +kernel
def RJx8e188 : String := "java/lang/Cloneable"
def TJx8e188 : u_T := fun k => match k with
  | _ => ("", "", "", false)
def tyJx8e188 : Nat → FieldType := fun k => match k with
  | _ => .int
abbrev wsJx8e1880 : List Cond := u_ws RJx8e188 TJx8e188 0
theorem nmJx8e188 : ∀ a, a < 0 → ∀ b, b < 0 → a ≠ b → (TJx8e188 a).2.1 ≠ (TJx8e188 b).2.1 := by decide +kernel
theorem tyJx8e188_ok : ∀ k, k < 0 → parseFieldDescriptor (TJx8e188 k).2.2.1 = some (tyJx8e188 k) := by decide +kernel
def RJxab1ab : String := "java/lang/Iterable"
def TJxab1ab : u_T := fun k => match k with
  | _ => ("", "", "", false)
def tyJxab1ab : Nat → FieldType := fun k => match k with
  | _ => .int
abbrev wsJxab1ab0 : List Cond := u_ws RJxab1ab TJxab1ab 0
theorem nmJxab1ab : ∀ a, a < 0 → ∀ b, b < 0 → a ≠ b → (TJxab1ab a).2.1 ≠ (TJxab1ab b).2.1 := by decide +kernel
theorem tyJxab1ab_ok : ∀ k, k < 0 → parseFieldDescriptor (TJxab1ab k).2.2.1 = some (tyJxab1ab k) := by decide +kernel
def RJ9 : String := "java/lang/Math"
def TJ9 : u_T := fun k => match k with
  | _ => ("", "", "", false)
def tyJ9 : Nat → FieldType := fun k => match k with
  | _ => .int
abbrev wsJ90 : List Cond := u_ws RJ9 TJ9 0
theorem nmJ9 : ∀ a, a < 0 → ∀ b, b < 0 → a ≠ b → (TJ9 a).2.1 ≠ (TJ9 b).2.1 := by decide +kernel
theorem tyJ9_ok : ∀ k, k < 0 → parseFieldDescriptor (TJ9 k).2.2.1 = some (tyJ9 k) := by decide +kernel
abbrev cJ9_max_7cf53 : ByteArray := prog_20_method_65_code
def yJ9_max_7cf53 : MethodName := ⟨RJ9, "max", "(II)I"⟩
abbrev cJ9_min_7cf53 : ByteArray := prog_20_method_69_code
def yJ9_min_7cf53 : MethodName := ⟨RJ9, "min", "(II)I"⟩
def RJ0 : String := "java/lang/String"
def TJ0 : u_T := fun k => match k with
  | _ => ("", "", "", false)
def tyJ0 : Nat → FieldType := fun k => match k with
  | _ => .int
abbrev wsJ00 : List Cond := u_ws RJ0 TJ0 0
theorem nmJ0 : ∀ a, a < 0 → ∀ b, b < 0 → a ≠ b → (TJ0 a).2.1 ≠ (TJ0 b).2.1 := by decide +kernel
theorem tyJ0_ok : ∀ k, k < 0 → parseFieldDescriptor (TJ0 k).2.2.1 = some (tyJ0 k) := by decide +kernel
def RJ10 : String := "java/lang/System"
def TJ10 : u_T := fun k => match k with
  | _ => ("", "", "", false)
def tyJ10 : Nat → FieldType := fun k => match k with
  | _ => .int
abbrev wsJ100 : List Cond := u_ws RJ10 TJ10 0
theorem nmJ10 : ∀ a, a < 0 → ∀ b, b < 0 → a ≠ b → (TJ10 a).2.1 ≠ (TJ10 b).2.1 := by decide +kernel
theorem tyJ10_ok : ∀ k, k < 0 → parseFieldDescriptor (TJ10 k).2.2.1 = some (tyJ10 k) := by decide +kernel
def RJxa1e45 : String := "java/util/AbstractCollection"
def TJxa1e45 : u_T := fun k => match k with
  | _ => ("", "", "", false)
def tyJxa1e45 : Nat → FieldType := fun k => match k with
  | _ => .int
abbrev wsJxa1e450 : List Cond := u_ws RJxa1e45 TJxa1e45 0
theorem nmJxa1e45 : ∀ a, a < 0 → ∀ b, b < 0 → a ≠ b → (TJxa1e45 a).2.1 ≠ (TJxa1e45 b).2.1 := by decide +kernel
theorem tyJxa1e45_ok : ∀ k, k < 0 → parseFieldDescriptor (TJxa1e45 k).2.2.1 = some (tyJxa1e45 k) := by decide +kernel
abbrev cJxa1e45_init_da8c8 : ByteArray := prog_25_method_1_code
def yJxa1e45_init_da8c8 : MethodName := ⟨RJxa1e45, "<init>", "()V"⟩
def RJxc12de : String := "java/util/AbstractList"
def TJxc12de : u_T := fun k => match k with
  | _ => ("", "", "", false)
def tyJxc12de : Nat → FieldType := fun k => match k with
  | _ => .int
abbrev wsJxc12de0 : List Cond := u_ws RJxc12de TJxc12de 0
theorem nmJxc12de : ∀ a, a < 0 → ∀ b, b < 0 → a ≠ b → (TJxc12de a).2.1 ≠ (TJxc12de b).2.1 := by decide +kernel
theorem tyJxc12de_ok : ∀ k, k < 0 → parseFieldDescriptor (TJxc12de k).2.2.1 = some (tyJxc12de k) := by decide +kernel
abbrev cJxc12de_init_da8c8 : ByteArray := prog_26_method_1_code
def yJxc12de_init_da8c8 : MethodName := ⟨RJxc12de, "<init>", "()V"⟩
def RJx4a65c : String := "java/util/ArrayList"
def TJx4a65c : u_T := fun k => match k with
  | 0 => ("java/util/AbstractList", "modCount", "I", false)
  | 1 => ("java/util/ArrayList", "elementData", "[Ljava/lang/Object;", false)
  | _ => ("java/util/ArrayList", "size", "I", false)
def tyJx4a65c : Nat → FieldType := fun k => match k with
  | 0 => .int
  | 1 => .array (.object "java/lang/Object")
  | _ => .int
abbrev wsJx4a65c0 : List Cond := u_ws RJx4a65c TJx4a65c 3
theorem nmJx4a65c : ∀ a, a < 3 → ∀ b, b < 3 → a ≠ b → (TJx4a65c a).2.1 ≠ (TJx4a65c b).2.1 := by decide +kernel
theorem tyJx4a65c_ok : ∀ k, k < 3 → parseFieldDescriptor (TJx4a65c k).2.2.1 = some (tyJx4a65c k) := by decide +kernel
abbrev cJx4a65c_init_da8c8 : ByteArray := prog_27_method_2_code
def yJx4a65c_init_da8c8 : MethodName := ⟨RJx4a65c, "<init>", "()V"⟩
abbrev cJx4a65c_grow_92f84 : ByteArray := prog_27_method_6_code
def yJx4a65c_grow_92f84 : MethodName := ⟨RJx4a65c, "grow", "(I)[Ljava/lang/Object;"⟩
abbrev cJx4a65c_grow_d5877 : ByteArray := prog_27_method_7_code
def yJx4a65c_grow_d5877 : MethodName := ⟨RJx4a65c, "grow", "()[Ljava/lang/Object;"⟩
abbrev cJx4a65c_size_8abf5 : ByteArray := prog_27_method_8_code
def yJx4a65c_size_8abf5 : MethodName := ⟨RJx4a65c, "size", "()I"⟩
abbrev cJx4a65c_elementData_915e3 : ByteArray := prog_27_method_18_code
def yJx4a65c_elementData_915e3 : MethodName := ⟨RJx4a65c, "elementData", "(I)Ljava/lang/Object;"⟩
abbrev cJx4a65c_get_915e3 : ByteArray := prog_27_method_20_code
def yJx4a65c_get_915e3 : MethodName := ⟨RJx4a65c, "get", "(I)Ljava/lang/Object;"⟩
abbrev cJx4a65c_add_72be8 : ByteArray := prog_27_method_24_code
def yJx4a65c_add_72be8 : MethodName := ⟨RJx4a65c, "add", "(Ljava/lang/Object;[Ljava/lang/Object;I)V"⟩
abbrev cJx4a65c_add_9ea2d : ByteArray := prog_27_method_25_code
def yJx4a65c_add_9ea2d : MethodName := ⟨RJx4a65c, "add", "(Ljava/lang/Object;)Z"⟩
abbrev cJx4a65c_remove_915e3 : ByteArray := prog_27_method_29_code
def yJx4a65c_remove_915e3 : MethodName := ⟨RJx4a65c, "remove", "(I)Ljava/lang/Object;"⟩
abbrev cJx4a65c_fastRemove_b59b0 : ByteArray := prog_27_method_39_code
def yJx4a65c_fastRemove_b59b0 : MethodName := ⟨RJx4a65c, "fastRemove", "([Ljava/lang/Object;I)V"⟩
def RJ7 : String := "java/util/Arrays"
def TJ7 : u_T := fun k => match k with
  | _ => ("", "", "", false)
def tyJ7 : Nat → FieldType := fun k => match k with
  | _ => .int
abbrev wsJ70 : List Cond := u_ws RJ7 TJ7 0
theorem nmJ7 : ∀ a, a < 0 → ∀ b, b < 0 → a ≠ b → (TJ7 a).2.1 ≠ (TJ7 b).2.1 := by decide +kernel
theorem tyJ7_ok : ∀ k, k < 0 → parseFieldDescriptor (TJ7 k).2.2.1 = some (tyJ7 k) := by decide +kernel
abbrev cJ7_fill_53178 : ByteArray := prog_28_method_103_code
def yJ7_fill_53178 : MethodName := ⟨RJ7, "fill", "([II)V"⟩
abbrev cJ7_copyOf_1904c : ByteArray := prog_28_method_119_code
def yJ7_copyOf_1904c : MethodName := ⟨RJ7, "copyOf", "([Ljava/lang/Object;I)[Ljava/lang/Object;"⟩
abbrev cJ7_copyOf_6403c : ByteArray := prog_28_method_120_code
def yJ7_copyOf_6403c : MethodName := ⟨RJ7, "copyOf", "([Ljava/lang/Object;ILjava/lang/Class;)[Ljava/lang/Object;"⟩
def RJx5ef63 : String := "java/util/Collection"
def TJx5ef63 : u_T := fun k => match k with
  | _ => ("", "", "", false)
def tyJx5ef63 : Nat → FieldType := fun k => match k with
  | _ => .int
abbrev wsJx5ef630 : List Cond := u_ws RJx5ef63 TJx5ef63 0
theorem nmJx5ef63 : ∀ a, a < 0 → ∀ b, b < 0 → a ≠ b → (TJx5ef63 a).2.1 ≠ (TJx5ef63 b).2.1 := by decide +kernel
theorem tyJx5ef63_ok : ∀ k, k < 0 → parseFieldDescriptor (TJx5ef63 k).2.2.1 = some (tyJx5ef63 k) := by decide +kernel
def RJxbd725 : String := "java/util/List"
def TJxbd725 : u_T := fun k => match k with
  | _ => ("", "", "", false)
def tyJxbd725 : Nat → FieldType := fun k => match k with
  | _ => .int
abbrev wsJxbd7250 : List Cond := u_ws RJxbd725 TJxbd725 0
theorem nmJxbd725 : ∀ a, a < 0 → ∀ b, b < 0 → a ≠ b → (TJxbd725 a).2.1 ≠ (TJxbd725 b).2.1 := by decide +kernel
theorem tyJxbd725_ok : ∀ k, k < 0 → parseFieldDescriptor (TJxbd725 k).2.2.1 = some (tyJxbd725 k) := by decide +kernel
def RJ15 : String := "java/util/Objects"
def TJ15 : u_T := fun k => match k with
  | _ => ("", "", "", false)
def tyJ15 : Nat → FieldType := fun k => match k with
  | _ => .int
abbrev wsJ150 : List Cond := u_ws RJ15 TJ15 0
theorem nmJ15 : ∀ a, a < 0 → ∀ b, b < 0 → a ≠ b → (TJ15 a).2.1 ≠ (TJ15 b).2.1 := by decide +kernel
theorem tyJ15_ok : ∀ k, k < 0 → parseFieldDescriptor (TJ15 k).2.2.1 = some (tyJ15 k) := by decide +kernel
abbrev cJ15_checkIndex_7cf53 : ByteArray := prog_31_method_17_code
def yJ15_checkIndex_7cf53 : MethodName := ⟨RJ15, "checkIndex", "(II)I"⟩
def RJxf0a74 : String := "java/util/RandomAccess"
def TJxf0a74 : u_T := fun k => match k with
  | _ => ("", "", "", false)
def tyJxf0a74 : Nat → FieldType := fun k => match k with
  | _ => .int
abbrev wsJxf0a740 : List Cond := u_ws RJxf0a74 TJxf0a74 0
theorem nmJxf0a74 : ∀ a, a < 0 → ∀ b, b < 0 → a ≠ b → (TJxf0a74 a).2.1 ≠ (TJxf0a74 b).2.1 := by decide +kernel
theorem tyJxf0a74_ok : ∀ k, k < 0 → parseFieldDescriptor (TJxf0a74 k).2.2.1 = some (tyJxf0a74 k) := by decide +kernel
def RJxa66e6 : String := "java/util/SequencedCollection"
def TJxa66e6 : u_T := fun k => match k with
  | _ => ("", "", "", false)
def tyJxa66e6 : Nat → FieldType := fun k => match k with
  | _ => .int
abbrev wsJxa66e60 : List Cond := u_ws RJxa66e6 TJxa66e6 0
theorem nmJxa66e6 : ∀ a, a < 0 → ∀ b, b < 0 → a ≠ b → (TJxa66e6 a).2.1 ≠ (TJxa66e6 b).2.1 := by decide +kernel
theorem tyJxa66e6_ok : ∀ k, k < 0 → parseFieldDescriptor (TJxa66e6 k).2.2.1 = some (tyJxa66e6 k) := by decide +kernel
def RJ8 : String := "jdk/internal/util/ArraysSupport"
def TJ8 : u_T := fun k => match k with
  | _ => ("", "", "", false)
def tyJ8 : Nat → FieldType := fun k => match k with
  | _ => .int
abbrev wsJ80 : List Cond := u_ws RJ8 TJ8 0
theorem nmJ8 : ∀ a, a < 0 → ∀ b, b < 0 → a ≠ b → (TJ8 a).2.1 ≠ (TJ8 b).2.1 := by decide +kernel
theorem tyJ8_ok : ∀ k, k < 0 → parseFieldDescriptor (TJ8 k).2.2.1 = some (tyJ8 k) := by decide +kernel
abbrev cJ8_newLength_cabcc : ByteArray := prog_34_method_27_code
def yJ8_newLength_cabcc : MethodName := ⟨RJ8, "newLength", "(III)I"⟩
abbrev cJ8_hugeLength_7cf53 : ByteArray := prog_34_method_28_code
def yJ8_hugeLength_7cf53 : MethodName := ⟨RJ8, "hugeLength", "(II)I"⟩
def RJ3 : String := "jdk/internal/util/Preconditions"
def TJ3 : u_T := fun k => match k with
  | _ => ("", "", "", false)
def tyJ3 : Nat → FieldType := fun k => match k with
  | _ => .int
abbrev wsJ30 : List Cond := u_ws RJ3 TJ3 0
theorem nmJ3 : ∀ a, a < 0 → ∀ b, b < 0 → a ≠ b → (TJ3 a).2.1 ≠ (TJ3 b).2.1 := by decide +kernel
theorem tyJ3_ok : ∀ k, k < 0 → parseFieldDescriptor (TJ3 k).2.2.1 = some (tyJ3 k) := by decide +kernel
abbrev cJ3_checkIndex_8e157 : ByteArray := prog_35_method_11_code
def yJ3_checkIndex_8e157 : MethodName := ⟨RJ3, "checkIndex", "(IILjava/util/function/BiFunction;)I"⟩
def RL : String := "StablingroadLaw"
abbrev cL_unit : ByteArray := method_3_code
def yL_unit : MethodName := ⟨RL, "unit", "(LStablingroad;II[J)I"⟩
abbrev cL_diagram : ByteArray := method_4_code
def yL_diagram : MethodName := ⟨RL, "diagram", "(LStablingroad;IIIII[J)I"⟩
abbrev cL_exam : ByteArray := method_5_code
def yL_exam : MethodName := ⟨RL, "exam", "(LStablingroad;IIII[J)I"⟩
abbrev cL_list : ByteArray := method_6_code
def yL_list : MethodName := ⟨RL, "list", "(LStablingroad;III[J)I"⟩
abbrev cL_fault : ByteArray := method_7_code
def yL_fault : MethodName := ⟨RL, "fault", "(LStablingroad;IIII[J)I"⟩
abbrev cL_pin : ByteArray := method_8_code
def yL_pin : MethodName := ⟨RL, "pin", "(LStablingroad;II[J)I"⟩
abbrev cL_whyNot : ByteArray := method_9_code
def yL_whyNot : MethodName := ⟨RL, "whyNot", "(LStablingroad;II[J)I"⟩
abbrev cL_allocation : ByteArray := method_10_code
def yL_allocation : MethodName := ⟨RL, "allocation", "(LStablingroad;I[J)I"⟩
abbrev cL_allocationAnew : ByteArray := method_11_code
def yL_allocationAnew : MethodName := ⟨RL, "allocationAnew", "(LStablingroad;I[J)I"⟩
abbrev cL_day : ByteArray := method_12_code
def yL_day : MethodName := ⟨RL, "day", "(LStablingroad;[J)I"⟩
abbrev cL_examine : ByteArray := method_13_code
def yL_examine : MethodName := ⟨RL, "examine", "(LStablingroad;II[J)I"⟩
abbrev cL_lathe : ByteArray := method_14_code
def yL_lathe : MethodName := ⟨RL, "lathe", "(LStablingroad;I[J)I"⟩
abbrev cL_mend : ByteArray := method_15_code
def yL_mend : MethodName := ⟨RL, "mend", "(LStablingroad;II[J)I"⟩
abbrev cL_about : ByteArray := method_16_code
def yL_about : MethodName := ⟨RL, "about", "(LStablingroad;II[J)I"⟩
abbrev cL_clock : ByteArray := method_17_code
def yL_clock : MethodName := ⟨RL, "clock", "(LStablingroad;IIZ[J)I"⟩
abbrev cL_axle : ByteArray := method_18_code
def yL_axle : MethodName := ⟨RL, "axle", "(LStablingroad;II[J)I"⟩
abbrev cL_faultAt : ByteArray := method_19_code
def yL_faultAt : MethodName := ⟨RL, "faultAt", "(LStablingroad;III[J)I"⟩
abbrev cL_stands : ByteArray := method_20_code
def yL_stands : MethodName := ⟨RL, "stands", "(LStablingroad;II[J)I"⟩
abbrev cL_ran : ByteArray := method_21_code
def yL_ran : MethodName := ⟨RL, "ran", "(LStablingroad;II[J)I"⟩
abbrev cL_kmAnew : ByteArray := method_22_code
def yL_kmAnew : MethodName := ⟨RL, "kmAnew", "(LStablingroad;I[J)I"⟩
abbrev cL_law : ByteArray := code
def yL_law : MethodName := ⟨RL, "law", "([I)Z"⟩
abbrev vwCl : List vw_C := [(RJx4a65c, TJx4a65c, 3), (RX0, TX0, 6), (RX1, TX1, 3), (RX2, TX2, 4), (RX3, TX3, 8), (RX4, TX4, 1), (RX5, TX5, 2), (RX6, TX6, 2), (RX7, TX7, 2), (RX8, TX8, 7), (RX9, TX9, 10), (RX10, TX10, 39)]
end
section
theorem dX0_init_0 : decode cX0_init 0 = .ok (.aload_n 0, 1) := by decide +kernel
theorem dX0_init_1 : decode cX0_init 1 = .ok (.invokespecial 3, 3) := by decide +kernel
theorem dX0_init_4 : decode cX0_init 4 = .ok (.aload_n 0, 1) := by decide +kernel
theorem dX0_init_5 : decode cX0_init 5 = .ok (.iconst (-1), 1) := by decide +kernel
theorem dX0_init_6 : decode cX0_init 6 = .ok (.putfield 9, 3) := by decide +kernel
theorem dX0_init_9 : decode cX0_init 9 = .ok (.aload_n 0, 1) := by decide +kernel
theorem dX0_init_10 : decode cX0_init 10 = .ok (.iload_n 1, 1) := by decide +kernel
theorem dX0_init_11 : decode cX0_init 11 = .ok (.putfield 15, 3) := by decide +kernel
theorem dX0_init_14 : decode cX0_init 14 = .ok (.aload_n 0, 1) := by decide +kernel
theorem dX0_init_15 : decode cX0_init 15 = .ok (.iload_n 2, 1) := by decide +kernel
theorem dX0_init_16 : decode cX0_init 16 = .ok (.putfield 18, 3) := by decide +kernel
theorem dX0_init_19 : decode cX0_init 19 = .ok (.aload_n 0, 1) := by decide +kernel
theorem dX0_init_20 : decode cX0_init 20 = .ok (.iload_n 3, 1) := by decide +kernel
theorem dX0_init_21 : decode cX0_init 21 = .ok (.putfield 21, 3) := by decide +kernel
theorem dX0_init_24 : decode cX0_init 24 = .ok (.aload_n 0, 1) := by decide +kernel
theorem dX0_init_25 : decode cX0_init 25 = .ok (.iload 4, 2) := by decide +kernel
theorem dX0_init_27 : decode cX0_init 27 = .ok (.putfield 24, 3) := by decide +kernel
theorem dX0_init_30 : decode cX0_init 30 = .ok (.aload_n 0, 1) := by decide +kernel
theorem dX0_init_31 : decode cX0_init 31 = .ok (.iload 5, 2) := by decide +kernel
theorem dX0_init_33 : decode cX0_init 33 = .ok (.putfield 27, 3) := by decide +kernel
theorem dX0_init_36 : decode cX0_init 36 = .ok (.return_, 1) := by decide +kernel
theorem dX0_isOpenTo_0 : decode cX0_isOpenTo 0 = .ok (.aload_n 0, 1) := by decide +kernel
theorem dX0_isOpenTo_1 : decode cX0_isOpenTo 1 = .ok (.getfield 9, 3) := by decide +kernel
theorem dX0_isOpenTo_4 : decode cX0_isOpenTo 4 = .ok (.iconst (-1), 1) := by decide +kernel
theorem dX0_isOpenTo_5 : decode cX0_isOpenTo 5 = .ok (.if_icmp .eq 11, 3) := by decide +kernel
theorem dX0_isOpenTo_8 : decode cX0_isOpenTo 8 = .ok (.aload_n 0, 1) := by decide +kernel
theorem dX0_isOpenTo_9 : decode cX0_isOpenTo 9 = .ok (.getfield 9, 3) := by decide +kernel
theorem dX0_isOpenTo_12 : decode cX0_isOpenTo 12 = .ok (.iload_n 1, 1) := by decide +kernel
theorem dX0_isOpenTo_13 : decode cX0_isOpenTo 13 = .ok (.if_icmp .ne 7, 3) := by decide +kernel
theorem dX0_isOpenTo_16 : decode cX0_isOpenTo 16 = .ok (.iconst 1, 1) := by decide +kernel
theorem dX0_isOpenTo_17 : decode cX0_isOpenTo 17 = .ok (.goto 4, 3) := by decide +kernel
theorem dX0_isOpenTo_20 : decode cX0_isOpenTo 20 = .ok (.iconst 0, 1) := by decide +kernel
theorem dX0_isOpenTo_21 : decode cX0_isOpenTo 21 = .ok (.ireturn, 1) := by decide +kernel
theorem dX1_init_0 : decode cX1_init 0 = .ok (.aload_n 0, 1) := by decide +kernel
theorem dX1_init_1 : decode cX1_init 1 = .ok (.invokespecial 1, 3) := by decide +kernel
theorem dX1_init_4 : decode cX1_init 4 = .ok (.aload_n 0, 1) := by decide +kernel
theorem dX1_init_5 : decode cX1_init 5 = .ok (.iload_n 1, 1) := by decide +kernel
theorem dX1_init_6 : decode cX1_init 6 = .ok (.putfield 7, 3) := by decide +kernel
theorem dX1_init_9 : decode cX1_init 9 = .ok (.aload_n 0, 1) := by decide +kernel
theorem dX1_init_10 : decode cX1_init 10 = .ok (.iload_n 2, 1) := by decide +kernel
theorem dX1_init_11 : decode cX1_init 11 = .ok (.putfield 13, 3) := by decide +kernel
theorem dX1_init_14 : decode cX1_init 14 = .ok (.aload_n 0, 1) := by decide +kernel
theorem dX1_init_15 : decode cX1_init 15 = .ok (.iload_n 3, 1) := by decide +kernel
theorem dX1_init_16 : decode cX1_init 16 = .ok (.putfield 16, 3) := by decide +kernel
theorem dX1_init_19 : decode cX1_init 19 = .ok (.return_, 1) := by decide +kernel
theorem dX1_bound_0 : decode cX1_bound 0 = .ok (.aload_n 0, 1) := by decide +kernel
theorem dX1_bound_1 : decode cX1_bound 1 = .ok (.getfield 7, 3) := by decide +kernel
theorem dX1_bound_4 : decode cX1_bound 4 = .ok (.aload_n 0, 1) := by decide +kernel
theorem dX1_bound_5 : decode cX1_bound 5 = .ok (.getfield 7, 3) := by decide +kernel
theorem dX1_bound_8 : decode cX1_bound 8 = .ok (.aload_n 0, 1) := by decide +kernel
theorem dX1_bound_9 : decode cX1_bound 9 = .ok (.getfield 13, 3) := by decide +kernel
theorem dX1_bound_12 : decode cX1_bound 12 = .ok (.imul, 1) := by decide +kernel
theorem dX1_bound_13 : decode cX1_bound 13 = .ok (.bipush 100, 2) := by decide +kernel
theorem dX1_bound_15 : decode cX1_bound 15 = .ok (.idiv, 1) := by decide +kernel
theorem dX1_bound_16 : decode cX1_bound 16 = .ok (.iadd, 1) := by decide +kernel
theorem dX1_bound_17 : decode cX1_bound 17 = .ok (.ireturn, 1) := by decide +kernel
theorem dX1_isOverdue_0 : decode cX1_isOverdue 0 = .ok (.iload_n 1, 1) := by decide +kernel
theorem dX1_isOverdue_1 : decode cX1_isOverdue 1 = .ok (.aload_n 0, 1) := by decide +kernel
theorem dX1_isOverdue_2 : decode cX1_isOverdue 2 = .ok (.invokevirtual 19, 3) := by decide +kernel
theorem dX1_isOverdue_5 : decode cX1_isOverdue 5 = .ok (.if_icmp .gt 11, 3) := by decide +kernel
theorem dX1_isOverdue_8 : decode cX1_isOverdue 8 = .ok (.iload_n 2, 1) := by decide +kernel
theorem dX1_isOverdue_9 : decode cX1_isOverdue 9 = .ok (.aload_n 0, 1) := by decide +kernel
theorem dX1_isOverdue_10 : decode cX1_isOverdue 10 = .ok (.getfield 16, 3) := by decide +kernel
theorem dX1_isOverdue_13 : decode cX1_isOverdue 13 = .ok (.if_icmp .le 7, 3) := by decide +kernel
theorem dX1_isOverdue_16 : decode cX1_isOverdue 16 = .ok (.iconst 1, 1) := by decide +kernel
theorem dX1_isOverdue_17 : decode cX1_isOverdue 17 = .ok (.goto 4, 3) := by decide +kernel
theorem dX1_isOverdue_20 : decode cX1_isOverdue 20 = .ok (.iconst 0, 1) := by decide +kernel
theorem dX1_isOverdue_21 : decode cX1_isOverdue 21 = .ok (.ireturn, 1) := by decide +kernel
theorem dX1_isNear_0 : decode cX1_isNear 0 = .ok (.iload_n 1, 1) := by decide +kernel
theorem dX1_isNear_1 : decode cX1_isNear 1 = .ok (.bipush 100, 2) := by decide +kernel
theorem dX1_isNear_3 : decode cX1_isNear 3 = .ok (.imul, 1) := by decide +kernel
theorem dX1_isNear_4 : decode cX1_isNear 4 = .ok (.bipush 80, 2) := by decide +kernel
theorem dX1_isNear_6 : decode cX1_isNear 6 = .ok (.aload_n 0, 1) := by decide +kernel
theorem dX1_isNear_7 : decode cX1_isNear 7 = .ok (.getfield 7, 3) := by decide +kernel
theorem dX1_isNear_10 : decode cX1_isNear 10 = .ok (.imul, 1) := by decide +kernel
theorem dX1_isNear_11 : decode cX1_isNear 11 = .ok (.if_icmp .lt 7, 3) := by decide +kernel
theorem dX1_isNear_14 : decode cX1_isNear 14 = .ok (.iconst 1, 1) := by decide +kernel
theorem dX1_isNear_15 : decode cX1_isNear 15 = .ok (.goto 4, 3) := by decide +kernel
theorem dX1_isNear_18 : decode cX1_isNear 18 = .ok (.iconst 0, 1) := by decide +kernel
theorem dX1_isNear_19 : decode cX1_isNear 19 = .ok (.ireturn, 1) := by decide +kernel
theorem dX2_init_0 : decode cX2_init 0 = .ok (.aload_n 0, 1) := by decide +kernel
theorem dX2_init_1 : decode cX2_init 1 = .ok (.invokespecial 3, 3) := by decide +kernel
theorem dX2_init_4 : decode cX2_init 4 = .ok (.aload_n 0, 1) := by decide +kernel
theorem dX2_init_5 : decode cX2_init 5 = .ok (.iload_n 1, 1) := by decide +kernel
theorem dX2_init_6 : decode cX2_init 6 = .ok (.putfield 9, 3) := by decide +kernel
theorem dX2_init_9 : decode cX2_init 9 = .ok (.aload_n 0, 1) := by decide +kernel
theorem dX2_init_10 : decode cX2_init 10 = .ok (.iload_n 2, 1) := by decide +kernel
theorem dX2_init_11 : decode cX2_init 11 = .ok (.putfield 15, 3) := by decide +kernel
theorem dX2_init_14 : decode cX2_init 14 = .ok (.aload_n 0, 1) := by decide +kernel
theorem dX2_init_15 : decode cX2_init 15 = .ok (.iload_n 3, 1) := by decide +kernel
theorem dX2_init_16 : decode cX2_init 16 = .ok (.putfield 18, 3) := by decide +kernel
theorem dX2_init_19 : decode cX2_init 19 = .ok (.aload_n 0, 1) := by decide +kernel
theorem dX2_init_20 : decode cX2_init 20 = .ok (.iload 4, 2) := by decide +kernel
theorem dX2_init_22 : decode cX2_init 22 = .ok (.putfield 21, 3) := by decide +kernel
theorem dX2_init_25 : decode cX2_init 25 = .ok (.return_, 1) := by decide +kernel
theorem dX2_isGrave_0 : decode cX2_isGrave 0 = .ok (.aload_n 0, 1) := by decide +kernel
theorem dX2_isGrave_1 : decode cX2_isGrave 1 = .ok (.getfield 9, 3) := by decide +kernel
theorem dX2_isGrave_4 : decode cX2_isGrave 4 = .ok (.ifCond .ne 11, 3) := by decide +kernel
theorem dX2_isGrave_7 : decode cX2_isGrave 7 = .ok (.aload_n 0, 1) := by decide +kernel
theorem dX2_isGrave_8 : decode cX2_isGrave 8 = .ok (.getfield 21, 3) := by decide +kernel
theorem dX2_isGrave_11 : decode cX2_isGrave 11 = .ok (.iconst 4, 1) := by decide +kernel
theorem dX2_isGrave_12 : decode cX2_isGrave 12 = .ok (.if_icmp .gt 20, 3) := by decide +kernel
theorem dX2_isGrave_15 : decode cX2_isGrave 15 = .ok (.aload_n 0, 1) := by decide +kernel
theorem dX2_isGrave_16 : decode cX2_isGrave 16 = .ok (.getfield 9, 3) := by decide +kernel
theorem dX2_isGrave_19 : decode cX2_isGrave 19 = .ok (.iconst 2, 1) := by decide +kernel
theorem dX2_isGrave_20 : decode cX2_isGrave 20 = .ok (.if_icmp .ne 16, 3) := by decide +kernel
theorem dX2_isGrave_23 : decode cX2_isGrave 23 = .ok (.aload_n 0, 1) := by decide +kernel
theorem dX2_isGrave_24 : decode cX2_isGrave 24 = .ok (.getfield 21, 3) := by decide +kernel
theorem dX2_isGrave_27 : decode cX2_isGrave 27 = .ok (.bipush 50, 2) := by decide +kernel
theorem dX2_isGrave_29 : decode cX2_isGrave 29 = .ok (.if_icmp .le 7, 3) := by decide +kernel
theorem dX2_isGrave_32 : decode cX2_isGrave 32 = .ok (.iconst 1, 1) := by decide +kernel
theorem dX2_isGrave_33 : decode cX2_isGrave 33 = .ok (.goto 4, 3) := by decide +kernel
theorem dX2_isGrave_36 : decode cX2_isGrave 36 = .ok (.iconst 0, 1) := by decide +kernel
theorem dX2_isGrave_37 : decode cX2_isGrave 37 = .ok (.ireturn, 1) := by decide +kernel
theorem dX3_init_0 : decode cX3_init 0 = .ok (.aload_n 0, 1) := by decide +kernel
theorem dX3_init_1 : decode cX3_init 1 = .ok (.invokespecial 3, 3) := by decide +kernel
theorem dX3_init_4 : decode cX3_init 4 = .ok (.aload_n 0, 1) := by decide +kernel
theorem dX3_init_5 : decode cX3_init 5 = .ok (.bipush 6, 2) := by decide +kernel
theorem dX3_init_7 : decode cX3_init 7 = .ok (.newarray .int, 2) := by decide +kernel
theorem dX3_init_9 : decode cX3_init 9 = .ok (.putfield 9, 3) := by decide +kernel
theorem dX3_init_12 : decode cX3_init 12 = .ok (.aload_n 0, 1) := by decide +kernel
theorem dX3_init_13 : decode cX3_init 13 = .ok (.bipush 6, 2) := by decide +kernel
theorem dX3_init_15 : decode cX3_init 15 = .ok (.newarray .int, 2) := by decide +kernel
theorem dX3_init_17 : decode cX3_init 17 = .ok (.putfield 15, 3) := by decide +kernel
theorem dX3_init_20 : decode cX3_init 20 = .ok (.aload_n 0, 1) := by decide +kernel
theorem dX3_init_21 : decode cX3_init 21 = .ok (.bipush 6, 2) := by decide +kernel
theorem dX3_init_23 : decode cX3_init 23 = .ok (.newarray .int, 2) := by decide +kernel
theorem dX3_init_25 : decode cX3_init 25 = .ok (.putfield 18, 3) := by decide +kernel
theorem dX3_init_28 : decode cX3_init 28 = .ok (.aload_n 0, 1) := by decide +kernel
theorem dX3_init_29 : decode cX3_init 29 = .ok (.bipush 6, 2) := by decide +kernel
theorem dX3_init_31 : decode cX3_init 31 = .ok (.newarray .int, 2) := by decide +kernel
theorem dX3_init_33 : decode cX3_init 33 = .ok (.putfield 21, 3) := by decide +kernel
theorem dX3_init_36 : decode cX3_init 36 = .ok (.aload_n 0, 1) := by decide +kernel
theorem dX3_init_37 : decode cX3_init 37 = .ok (.bipush 6, 2) := by decide +kernel
theorem dX3_init_39 : decode cX3_init 39 = .ok (.newarray .int, 2) := by decide +kernel
theorem dX3_init_41 : decode cX3_init 41 = .ok (.putfield 24, 3) := by decide +kernel
theorem dX3_init_44 : decode cX3_init 44 = .ok (.aload_n 0, 1) := by decide +kernel
theorem dX3_init_45 : decode cX3_init 45 = .ok (.sipush 448, 3) := by decide +kernel
theorem dX3_init_48 : decode cX3_init 48 = .ok (.newarray .int, 2) := by decide +kernel
theorem dX3_init_50 : decode cX3_init 50 = .ok (.putfield 27, 3) := by decide +kernel
theorem dX3_init_53 : decode cX3_init 53 = .ok (.aload_n 0, 1) := by decide +kernel
theorem dX3_init_54 : decode cX3_init 54 = .ok (.iconst 0, 1) := by decide +kernel
theorem dX3_init_55 : decode cX3_init 55 = .ok (.putfield 30, 3) := by decide +kernel
theorem dX3_init_58 : decode cX3_init 58 = .ok (.aload_n 0, 1) := by decide +kernel
theorem dX3_init_59 : decode cX3_init 59 = .ok (.iconst 0, 1) := by decide +kernel
theorem dX3_init_60 : decode cX3_init 60 = .ok (.putfield 34, 3) := by decide +kernel
theorem dX3_init_63 : decode cX3_init 63 = .ok (.return_, 1) := by decide +kernel
theorem dX3_begin_0 : decode cX3_begin 0 = .ok (.aload_n 0, 1) := by decide +kernel
theorem dX3_begin_1 : decode cX3_begin 1 = .ok (.iconst 0, 1) := by decide +kernel
theorem dX3_begin_2 : decode cX3_begin 2 = .ok (.iload_n 1, 1) := by decide +kernel
theorem dX3_begin_3 : decode cX3_begin 3 = .ok (.bipush 6, 2) := by decide +kernel
theorem dX3_begin_5 : decode cX3_begin 5 = .ok (.invokestatic 37, 3) := by decide +kernel
theorem dX3_begin_8 : decode cX3_begin 8 = .ok (.invokestatic 43, 3) := by decide +kernel
theorem dX3_begin_11 : decode cX3_begin 11 = .ok (.putfield 30, 3) := by decide +kernel
theorem dX3_begin_14 : decode cX3_begin 14 = .ok (.aload_n 0, 1) := by decide +kernel
theorem dX3_begin_15 : decode cX3_begin 15 = .ok (.iconst 0, 1) := by decide +kernel
theorem dX3_begin_16 : decode cX3_begin 16 = .ok (.putfield 34, 3) := by decide +kernel
theorem dX3_begin_19 : decode cX3_begin 19 = .ok (.return_, 1) := by decide +kernel
theorem dX3_addDiagram_0 : decode cX3_addDiagram 0 = .ok (.aload_n 0, 1) := by decide +kernel
theorem dX3_addDiagram_1 : decode cX3_addDiagram 1 = .ok (.getfield 34, 3) := by decide +kernel
theorem dX3_addDiagram_4 : decode cX3_addDiagram 4 = .ok (.istore 4, 2) := by decide +kernel
theorem dX3_addDiagram_6 : decode cX3_addDiagram 6 = .ok (.iload 4, 2) := by decide +kernel
theorem dX3_addDiagram_8 : decode cX3_addDiagram 8 = .ok (.ifCond .lt 67, 3) := by decide +kernel
theorem dX3_addDiagram_11 : decode cX3_addDiagram 11 = .ok (.iload 4, 2) := by decide +kernel
theorem dX3_addDiagram_13 : decode cX3_addDiagram 13 = .ok (.aload_n 0, 1) := by decide +kernel
theorem dX3_addDiagram_14 : decode cX3_addDiagram 14 = .ok (.getfield 9, 3) := by decide +kernel
theorem dX3_addDiagram_17 : decode cX3_addDiagram 17 = .ok (.arraylength, 1) := by decide +kernel
theorem dX3_addDiagram_18 : decode cX3_addDiagram 18 = .ok (.if_icmp .ge 57, 3) := by decide +kernel
theorem dX3_addDiagram_21 : decode cX3_addDiagram 21 = .ok (.iload 4, 2) := by decide +kernel
theorem dX3_addDiagram_23 : decode cX3_addDiagram 23 = .ok (.aload_n 0, 1) := by decide +kernel
theorem dX3_addDiagram_24 : decode cX3_addDiagram 24 = .ok (.getfield 15, 3) := by decide +kernel
theorem dX3_addDiagram_27 : decode cX3_addDiagram 27 = .ok (.arraylength, 1) := by decide +kernel
theorem dX3_addDiagram_28 : decode cX3_addDiagram 28 = .ok (.if_icmp .ge 47, 3) := by decide +kernel
theorem dX3_addDiagram_31 : decode cX3_addDiagram 31 = .ok (.iload 4, 2) := by decide +kernel
theorem dX3_addDiagram_33 : decode cX3_addDiagram 33 = .ok (.aload_n 0, 1) := by decide +kernel
theorem dX3_addDiagram_34 : decode cX3_addDiagram 34 = .ok (.getfield 18, 3) := by decide +kernel
theorem dX3_addDiagram_37 : decode cX3_addDiagram 37 = .ok (.arraylength, 1) := by decide +kernel
theorem dX3_addDiagram_38 : decode cX3_addDiagram 38 = .ok (.if_icmp .ge 37, 3) := by decide +kernel
theorem dX3_addDiagram_41 : decode cX3_addDiagram 41 = .ok (.aload_n 0, 1) := by decide +kernel
theorem dX3_addDiagram_42 : decode cX3_addDiagram 42 = .ok (.getfield 9, 3) := by decide +kernel
theorem dX3_addDiagram_45 : decode cX3_addDiagram 45 = .ok (.iload 4, 2) := by decide +kernel
theorem dX3_addDiagram_47 : decode cX3_addDiagram 47 = .ok (.iload_n 1, 1) := by decide +kernel
theorem dX3_addDiagram_48 : decode cX3_addDiagram 48 = .ok (.iastore, 1) := by decide +kernel
theorem dX3_addDiagram_49 : decode cX3_addDiagram 49 = .ok (.aload_n 0, 1) := by decide +kernel
theorem dX3_addDiagram_50 : decode cX3_addDiagram 50 = .ok (.getfield 15, 3) := by decide +kernel
theorem dX3_addDiagram_53 : decode cX3_addDiagram 53 = .ok (.iload 4, 2) := by decide +kernel
theorem dX3_addDiagram_55 : decode cX3_addDiagram 55 = .ok (.iload_n 2, 1) := by decide +kernel
theorem dX3_addDiagram_56 : decode cX3_addDiagram 56 = .ok (.iastore, 1) := by decide +kernel
theorem dX3_addDiagram_57 : decode cX3_addDiagram 57 = .ok (.aload_n 0, 1) := by decide +kernel
theorem dX3_addDiagram_58 : decode cX3_addDiagram 58 = .ok (.getfield 18, 3) := by decide +kernel
theorem dX3_addDiagram_61 : decode cX3_addDiagram 61 = .ok (.iload 4, 2) := by decide +kernel
theorem dX3_addDiagram_63 : decode cX3_addDiagram 63 = .ok (.iload_n 3, 1) := by decide +kernel
theorem dX3_addDiagram_64 : decode cX3_addDiagram 64 = .ok (.iastore, 1) := by decide +kernel
theorem dX3_addDiagram_65 : decode cX3_addDiagram 65 = .ok (.aload_n 0, 1) := by decide +kernel
theorem dX3_addDiagram_66 : decode cX3_addDiagram 66 = .ok (.dup, 1) := by decide +kernel
theorem dX3_addDiagram_67 : decode cX3_addDiagram 67 = .ok (.getfield 34, 3) := by decide +kernel
theorem dX3_addDiagram_70 : decode cX3_addDiagram 70 = .ok (.iconst 1, 1) := by decide +kernel
theorem dX3_addDiagram_71 : decode cX3_addDiagram 71 = .ok (.iadd, 1) := by decide +kernel
theorem dX3_addDiagram_72 : decode cX3_addDiagram 72 = .ok (.putfield 34, 3) := by decide +kernel
theorem dX3_addDiagram_75 : decode cX3_addDiagram 75 = .ok (.return_, 1) := by decide +kernel
theorem dX3_givenTo_0 : decode cX3_givenTo 0 = .ok (.aload_n 0, 1) := by decide +kernel
theorem dX3_givenTo_1 : decode cX3_givenTo 1 = .ok (.getfield 21, 3) := by decide +kernel
theorem dX3_givenTo_4 : decode cX3_givenTo 4 = .ok (.iload_n 1, 1) := by decide +kernel
theorem dX3_givenTo_5 : decode cX3_givenTo 5 = .ok (.iconst (-1), 1) := by decide +kernel
theorem dX3_givenTo_6 : decode cX3_givenTo 6 = .ok (.invokestatic 46, 3) := by decide +kernel
theorem dX3_givenTo_9 : decode cX3_givenTo 9 = .ok (.ireturn, 1) := by decide +kernel
theorem dX3_lackOfGiven_0 : decode cX3_lackOfGiven 0 = .ok (.aload_n 0, 1) := by decide +kernel
theorem dX3_lackOfGiven_1 : decode cX3_lackOfGiven 1 = .ok (.aload_n 0, 1) := by decide +kernel
theorem dX3_lackOfGiven_2 : decode cX3_lackOfGiven 2 = .ok (.getfield 21, 3) := by decide +kernel
theorem dX3_lackOfGiven_5 : decode cX3_lackOfGiven 5 = .ok (.invokevirtual 50, 3) := by decide +kernel
theorem dX3_lackOfGiven_8 : decode cX3_lackOfGiven 8 = .ok (.ireturn, 1) := by decide +kernel
theorem dX3_at_0 : decode cX3_at 0 = .ok (.iload_n 1, 1) := by decide +kernel
theorem dX3_at_1 : decode cX3_at 1 = .ok (.ifCond .lt 15, 3) := by decide +kernel
theorem dX3_at_4 : decode cX3_at 4 = .ok (.iload_n 1, 1) := by decide +kernel
theorem dX3_at_5 : decode cX3_at 5 = .ok (.aload_n 0, 1) := by decide +kernel
theorem dX3_at_6 : decode cX3_at 6 = .ok (.arraylength, 1) := by decide +kernel
theorem dX3_at_7 : decode cX3_at 7 = .ok (.if_icmp .ge 9, 3) := by decide +kernel
theorem dX3_at_10 : decode cX3_at 10 = .ok (.aload_n 0, 1) := by decide +kernel
theorem dX3_at_11 : decode cX3_at 11 = .ok (.iload_n 1, 1) := by decide +kernel
theorem dX3_at_12 : decode cX3_at 12 = .ok (.iaload, 1) := by decide +kernel
theorem dX3_at_13 : decode cX3_at 13 = .ok (.goto 4, 3) := by decide +kernel
theorem dX3_at_16 : decode cX3_at 16 = .ok (.iload_n 2, 1) := by decide +kernel
theorem dX3_at_17 : decode cX3_at 17 = .ok (.ireturn, 1) := by decide +kernel
theorem dX3_put_0 : decode cX3_put 0 = .ok (.iload_n 1, 1) := by decide +kernel
theorem dX3_put_1 : decode cX3_put 1 = .ok (.ifCond .lt 13, 3) := by decide +kernel
theorem dX3_put_4 : decode cX3_put 4 = .ok (.iload_n 1, 1) := by decide +kernel
theorem dX3_put_5 : decode cX3_put 5 = .ok (.aload_n 0, 1) := by decide +kernel
theorem dX3_put_6 : decode cX3_put 6 = .ok (.arraylength, 1) := by decide +kernel
theorem dX3_put_7 : decode cX3_put 7 = .ok (.if_icmp .ge 7, 3) := by decide +kernel
theorem dX3_put_10 : decode cX3_put 10 = .ok (.aload_n 0, 1) := by decide +kernel
theorem dX3_put_11 : decode cX3_put 11 = .ok (.iload_n 1, 1) := by decide +kernel
theorem dX3_put_12 : decode cX3_put 12 = .ok (.iload_n 2, 1) := by decide +kernel
theorem dX3_put_13 : decode cX3_put 13 = .ok (.iastore, 1) := by decide +kernel
theorem dX3_put_14 : decode cX3_put 14 = .ok (.return_, 1) := by decide +kernel
theorem dX3_has_0 : decode cX3_has 0 = .ok (.iload_n 0, 1) := by decide +kernel
theorem dX3_has_1 : decode cX3_has 1 = .ok (.iload_n 1, 1) := by decide +kernel
theorem dX3_has_2 : decode cX3_has 2 = .ok (.ishr, 1) := by decide +kernel
theorem dX3_has_3 : decode cX3_has 3 = .ok (.iconst 1, 1) := by decide +kernel
theorem dX3_has_4 : decode cX3_has 4 = .ok (.iand, 1) := by decide +kernel
theorem dX3_has_5 : decode cX3_has 5 = .ok (.iconst 1, 1) := by decide +kernel
theorem dX3_has_6 : decode cX3_has 6 = .ok (.if_icmp .ne 7, 3) := by decide +kernel
theorem dX3_has_9 : decode cX3_has 9 = .ok (.iconst 1, 1) := by decide +kernel
theorem dX3_has_10 : decode cX3_has 10 = .ok (.goto 4, 3) := by decide +kernel
theorem dX3_has_13 : decode cX3_has 13 = .ok (.iconst 0, 1) := by decide +kernel
theorem dX3_has_14 : decode cX3_has 14 = .ok (.ireturn, 1) := by decide +kernel
theorem dX3_lackOf_0 : decode cX3_lackOf 0 = .ok (.iconst 0, 1) := by decide +kernel
theorem dX3_lackOf_1 : decode cX3_lackOf 1 = .ok (.istore_n 2, 1) := by decide +kernel
theorem dX3_lackOf_2 : decode cX3_lackOf 2 = .ok (.iconst 0, 1) := by decide +kernel
theorem dX3_lackOf_3 : decode cX3_lackOf 3 = .ok (.istore_n 3, 1) := by decide +kernel
theorem dX3_lackOf_4 : decode cX3_lackOf 4 = .ok (.iload_n 3, 1) := by decide +kernel
theorem dX3_lackOf_5 : decode cX3_lackOf 5 = .ok (.aload_n 0, 1) := by decide +kernel
theorem dX3_lackOf_6 : decode cX3_lackOf 6 = .ok (.getfield 34, 3) := by decide +kernel
theorem dX3_lackOf_9 : decode cX3_lackOf 9 = .ok (.if_icmp .ge 31, 3) := by decide +kernel
theorem dX3_lackOf_12 : decode cX3_lackOf 12 = .ok (.aload_n 1, 1) := by decide +kernel
theorem dX3_lackOf_13 : decode cX3_lackOf 13 = .ok (.iload_n 3, 1) := by decide +kernel
theorem dX3_lackOf_14 : decode cX3_lackOf 14 = .ok (.iconst (-1), 1) := by decide +kernel
theorem dX3_lackOf_15 : decode cX3_lackOf 15 = .ok (.invokestatic 46, 3) := by decide +kernel
theorem dX3_lackOf_18 : decode cX3_lackOf 18 = .ok (.iconst (-1), 1) := by decide +kernel
theorem dX3_lackOf_19 : decode cX3_lackOf 19 = .ok (.if_icmp .ne 15, 3) := by decide +kernel
theorem dX3_lackOf_22 : decode cX3_lackOf 22 = .ok (.iload_n 2, 1) := by decide +kernel
theorem dX3_lackOf_23 : decode cX3_lackOf 23 = .ok (.aload_n 0, 1) := by decide +kernel
theorem dX3_lackOf_24 : decode cX3_lackOf 24 = .ok (.getfield 9, 3) := by decide +kernel
theorem dX3_lackOf_27 : decode cX3_lackOf 27 = .ok (.iload_n 3, 1) := by decide +kernel
theorem dX3_lackOf_28 : decode cX3_lackOf 28 = .ok (.iconst 0, 1) := by decide +kernel
theorem dX3_lackOf_29 : decode cX3_lackOf 29 = .ok (.invokestatic 46, 3) := by decide +kernel
theorem dX3_lackOf_32 : decode cX3_lackOf 32 = .ok (.iadd, 1) := by decide +kernel
theorem dX3_lackOf_33 : decode cX3_lackOf 33 = .ok (.istore_n 2, 1) := by decide +kernel
theorem dX3_lackOf_34 : decode cX3_lackOf 34 = .ok (.iinc 3 1, 3) := by decide +kernel
theorem dX3_lackOf_37 : decode cX3_lackOf 37 = .ok (.goto (-33), 3) := by decide +kernel
theorem dX3_lackOf_40 : decode cX3_lackOf 40 = .ok (.iload_n 2, 1) := by decide +kernel
theorem dX3_lackOf_41 : decode cX3_lackOf 41 = .ok (.ireturn, 1) := by decide +kernel
theorem dX3_homingOf_0 : decode cX3_homingOf 0 = .ok (.iconst 0, 1) := by decide +kernel
theorem dX3_homingOf_1 : decode cX3_homingOf 1 = .ok (.istore_n 2, 1) := by decide +kernel
theorem dX3_homingOf_2 : decode cX3_homingOf 2 = .ok (.iconst 0, 1) := by decide +kernel
theorem dX3_homingOf_3 : decode cX3_homingOf 3 = .ok (.istore_n 3, 1) := by decide +kernel
theorem dX3_homingOf_4 : decode cX3_homingOf 4 = .ok (.iload_n 3, 1) := by decide +kernel
theorem dX3_homingOf_5 : decode cX3_homingOf 5 = .ok (.aload_n 0, 1) := by decide +kernel
theorem dX3_homingOf_6 : decode cX3_homingOf 6 = .ok (.getfield 34, 3) := by decide +kernel
theorem dX3_homingOf_9 : decode cX3_homingOf 9 = .ok (.if_icmp .ge 43, 3) := by decide +kernel
theorem dX3_homingOf_12 : decode cX3_homingOf 12 = .ok (.aload_n 1, 1) := by decide +kernel
theorem dX3_homingOf_13 : decode cX3_homingOf 13 = .ok (.iload_n 3, 1) := by decide +kernel
theorem dX3_homingOf_14 : decode cX3_homingOf 14 = .ok (.iconst (-1), 1) := by decide +kernel
theorem dX3_homingOf_15 : decode cX3_homingOf 15 = .ok (.invokestatic 46, 3) := by decide +kernel
theorem dX3_homingOf_18 : decode cX3_homingOf 18 = .ok (.istore 4, 2) := by decide +kernel
theorem dX3_homingOf_20 : decode cX3_homingOf 20 = .ok (.iload 4, 2) := by decide +kernel
theorem dX3_homingOf_22 : decode cX3_homingOf 22 = .ok (.iconst (-1), 1) := by decide +kernel
theorem dX3_homingOf_23 : decode cX3_homingOf 23 = .ok (.if_icmp .eq 23, 3) := by decide +kernel
theorem dX3_homingOf_26 : decode cX3_homingOf 26 = .ok (.aload_n 0, 1) := by decide +kernel
theorem dX3_homingOf_27 : decode cX3_homingOf 27 = .ok (.getfield 18, 3) := by decide +kernel
theorem dX3_homingOf_30 : decode cX3_homingOf 30 = .ok (.iload_n 3, 1) := by decide +kernel
theorem dX3_homingOf_31 : decode cX3_homingOf 31 = .ok (.iconst 0, 1) := by decide +kernel
theorem dX3_homingOf_32 : decode cX3_homingOf 32 = .ok (.invokestatic 46, 3) := by decide +kernel
theorem dX3_homingOf_35 : decode cX3_homingOf 35 = .ok (.iload 4, 2) := by decide +kernel
theorem dX3_homingOf_37 : decode cX3_homingOf 37 = .ok (.invokestatic 54, 3) := by decide +kernel
theorem dX3_homingOf_40 : decode cX3_homingOf 40 = .ok (.ifCond .eq 6, 3) := by decide +kernel
theorem dX3_homingOf_43 : decode cX3_homingOf 43 = .ok (.iinc 2 1, 3) := by decide +kernel
theorem dX3_homingOf_46 : decode cX3_homingOf 46 = .ok (.iinc 3 1, 3) := by decide +kernel
theorem dX3_homingOf_49 : decode cX3_homingOf 49 = .ok (.goto (-45), 3) := by decide +kernel
theorem dX3_homingOf_52 : decode cX3_homingOf 52 = .ok (.iload_n 2, 1) := by decide +kernel
theorem dX3_homingOf_53 : decode cX3_homingOf 53 = .ok (.ireturn, 1) := by decide +kernel
theorem dX3_allocateByParts_0 : decode cX3_allocateByParts 0 = .ok (.aload_n 0, 1) := by decide +kernel
theorem dX3_allocateByParts_1 : decode cX3_allocateByParts 1 = .ok (.invokevirtual 58, 3) := by decide +kernel
theorem dX3_allocateByParts_4 : decode cX3_allocateByParts 4 = .ok (.iconst 1, 1) := by decide +kernel
theorem dX3_allocateByParts_5 : decode cX3_allocateByParts 5 = .ok (.aload_n 0, 1) := by decide +kernel
theorem dX3_allocateByParts_6 : decode cX3_allocateByParts 6 = .ok (.getfield 30, 3) := by decide +kernel
theorem dX3_allocateByParts_9 : decode cX3_allocateByParts 9 = .ok (.ishl, 1) := by decide +kernel
theorem dX3_allocateByParts_10 : decode cX3_allocateByParts 10 = .ok (.iconst 1, 1) := by decide +kernel
theorem dX3_allocateByParts_11 : decode cX3_allocateByParts 11 = .ok (.isub, 1) := by decide +kernel
theorem dX3_allocateByParts_12 : decode cX3_allocateByParts 12 = .ok (.istore_n 1, 1) := by decide +kernel
theorem dX3_allocateByParts_13 : decode cX3_allocateByParts 13 = .ok (.iconst 0, 1) := by decide +kernel
theorem dX3_allocateByParts_14 : decode cX3_allocateByParts 14 = .ok (.istore_n 2, 1) := by decide +kernel
theorem dX3_allocateByParts_15 : decode cX3_allocateByParts 15 = .ok (.iload_n 2, 1) := by decide +kernel
theorem dX3_allocateByParts_16 : decode cX3_allocateByParts 16 = .ok (.aload_n 0, 1) := by decide +kernel
theorem dX3_allocateByParts_17 : decode cX3_allocateByParts 17 = .ok (.getfield 34, 3) := by decide +kernel
theorem dX3_allocateByParts_20 : decode cX3_allocateByParts 20 = .ok (.if_icmp .ge 31, 3) := by decide +kernel
theorem dX3_allocateByParts_23 : decode cX3_allocateByParts 23 = .ok (.aload_n 0, 1) := by decide +kernel
theorem dX3_allocateByParts_24 : decode cX3_allocateByParts 24 = .ok (.iload_n 2, 1) := by decide +kernel
theorem dX3_allocateByParts_25 : decode cX3_allocateByParts 25 = .ok (.iload_n 1, 1) := by decide +kernel
theorem dX3_allocateByParts_26 : decode cX3_allocateByParts 26 = .ok (.invokevirtual 61, 3) := by decide +kernel
theorem dX3_allocateByParts_29 : decode cX3_allocateByParts 29 = .ok (.istore_n 3, 1) := by decide +kernel
theorem dX3_allocateByParts_30 : decode cX3_allocateByParts 30 = .ok (.aload_n 0, 1) := by decide +kernel
theorem dX3_allocateByParts_31 : decode cX3_allocateByParts 31 = .ok (.getfield 21, 3) := by decide +kernel
theorem dX3_allocateByParts_34 : decode cX3_allocateByParts 34 = .ok (.iload_n 2, 1) := by decide +kernel
theorem dX3_allocateByParts_35 : decode cX3_allocateByParts 35 = .ok (.iload_n 3, 1) := by decide +kernel
theorem dX3_allocateByParts_36 : decode cX3_allocateByParts 36 = .ok (.invokestatic 64, 3) := by decide +kernel
theorem dX3_allocateByParts_39 : decode cX3_allocateByParts 39 = .ok (.iload_n 1, 1) := by decide +kernel
theorem dX3_allocateByParts_40 : decode cX3_allocateByParts 40 = .ok (.iload_n 3, 1) := by decide +kernel
theorem dX3_allocateByParts_41 : decode cX3_allocateByParts 41 = .ok (.invokestatic 68, 3) := by decide +kernel
theorem dX3_allocateByParts_44 : decode cX3_allocateByParts 44 = .ok (.istore_n 1, 1) := by decide +kernel
theorem dX3_allocateByParts_45 : decode cX3_allocateByParts 45 = .ok (.iinc 2 1, 3) := by decide +kernel
theorem dX3_allocateByParts_48 : decode cX3_allocateByParts 48 = .ok (.goto (-33), 3) := by decide +kernel
theorem dX3_allocateByParts_51 : decode cX3_allocateByParts 51 = .ok (.return_, 1) := by decide +kernel
theorem dX3_fillLeastCosts_0 : decode cX3_fillLeastCosts 0 = .ok (.iconst 1, 1) := by decide +kernel
theorem dX3_fillLeastCosts_1 : decode cX3_fillLeastCosts 1 = .ok (.aload_n 0, 1) := by decide +kernel
theorem dX3_fillLeastCosts_2 : decode cX3_fillLeastCosts 2 = .ok (.getfield 30, 3) := by decide +kernel
theorem dX3_fillLeastCosts_5 : decode cX3_fillLeastCosts 5 = .ok (.ishl, 1) := by decide +kernel
theorem dX3_fillLeastCosts_6 : decode cX3_fillLeastCosts 6 = .ok (.istore_n 1, 1) := by decide +kernel
theorem dX3_fillLeastCosts_7 : decode cX3_fillLeastCosts 7 = .ok (.iconst 0, 1) := by decide +kernel
theorem dX3_fillLeastCosts_8 : decode cX3_fillLeastCosts 8 = .ok (.istore_n 2, 1) := by decide +kernel
theorem dX3_fillLeastCosts_9 : decode cX3_fillLeastCosts 9 = .ok (.iload_n 2, 1) := by decide +kernel
theorem dX3_fillLeastCosts_10 : decode cX3_fillLeastCosts 10 = .ok (.iload_n 1, 1) := by decide +kernel
theorem dX3_fillLeastCosts_11 : decode cX3_fillLeastCosts 11 = .ok (.if_icmp .ge 26, 3) := by decide +kernel
theorem dX3_fillLeastCosts_14 : decode cX3_fillLeastCosts 14 = .ok (.aload_n 0, 1) := by decide +kernel
theorem dX3_fillLeastCosts_15 : decode cX3_fillLeastCosts 15 = .ok (.getfield 27, 3) := by decide +kernel
theorem dX3_fillLeastCosts_18 : decode cX3_fillLeastCosts 18 = .ok (.aload_n 0, 1) := by decide +kernel
theorem dX3_fillLeastCosts_19 : decode cX3_fillLeastCosts 19 = .ok (.getfield 34, 3) := by decide +kernel
theorem dX3_fillLeastCosts_22 : decode cX3_fillLeastCosts 22 = .ok (.bipush 64, 2) := by decide +kernel
theorem dX3_fillLeastCosts_24 : decode cX3_fillLeastCosts 24 = .ok (.imul, 1) := by decide +kernel
theorem dX3_fillLeastCosts_25 : decode cX3_fillLeastCosts 25 = .ok (.iload_n 2, 1) := by decide +kernel
theorem dX3_fillLeastCosts_26 : decode cX3_fillLeastCosts 26 = .ok (.iadd, 1) := by decide +kernel
theorem dX3_fillLeastCosts_27 : decode cX3_fillLeastCosts 27 = .ok (.iconst 0, 1) := by decide +kernel
theorem dX3_fillLeastCosts_28 : decode cX3_fillLeastCosts 28 = .ok (.invokestatic 64, 3) := by decide +kernel
theorem dX3_fillLeastCosts_31 : decode cX3_fillLeastCosts 31 = .ok (.iinc 2 1, 3) := by decide +kernel
theorem dX3_fillLeastCosts_34 : decode cX3_fillLeastCosts 34 = .ok (.goto (-25), 3) := by decide +kernel
theorem dX3_fillLeastCosts_37 : decode cX3_fillLeastCosts 37 = .ok (.aload_n 0, 1) := by decide +kernel
theorem dX3_fillLeastCosts_38 : decode cX3_fillLeastCosts 38 = .ok (.getfield 34, 3) := by decide +kernel
theorem dX3_fillLeastCosts_41 : decode cX3_fillLeastCosts 41 = .ok (.iconst 1, 1) := by decide +kernel
theorem dX3_fillLeastCosts_42 : decode cX3_fillLeastCosts 42 = .ok (.isub, 1) := by decide +kernel
theorem dX3_fillLeastCosts_43 : decode cX3_fillLeastCosts 43 = .ok (.istore_n 2, 1) := by decide +kernel
theorem dX3_fillLeastCosts_44 : decode cX3_fillLeastCosts 44 = .ok (.iload_n 2, 1) := by decide +kernel
theorem dX3_fillLeastCosts_45 : decode cX3_fillLeastCosts 45 = .ok (.ifCond .lt 41, 3) := by decide +kernel
theorem dX3_fillLeastCosts_48 : decode cX3_fillLeastCosts 48 = .ok (.iconst 0, 1) := by decide +kernel
theorem dX3_fillLeastCosts_49 : decode cX3_fillLeastCosts 49 = .ok (.istore_n 3, 1) := by decide +kernel
theorem dX3_fillLeastCosts_50 : decode cX3_fillLeastCosts 50 = .ok (.iload_n 3, 1) := by decide +kernel
theorem dX3_fillLeastCosts_51 : decode cX3_fillLeastCosts 51 = .ok (.iload_n 1, 1) := by decide +kernel
theorem dX3_fillLeastCosts_52 : decode cX3_fillLeastCosts 52 = .ok (.if_icmp .ge 28, 3) := by decide +kernel
theorem dX3_fillLeastCosts_55 : decode cX3_fillLeastCosts 55 = .ok (.aload_n 0, 1) := by decide +kernel
theorem dX3_fillLeastCosts_56 : decode cX3_fillLeastCosts 56 = .ok (.getfield 27, 3) := by decide +kernel
theorem dX3_fillLeastCosts_59 : decode cX3_fillLeastCosts 59 = .ok (.iload_n 2, 1) := by decide +kernel
theorem dX3_fillLeastCosts_60 : decode cX3_fillLeastCosts 60 = .ok (.bipush 64, 2) := by decide +kernel
theorem dX3_fillLeastCosts_62 : decode cX3_fillLeastCosts 62 = .ok (.imul, 1) := by decide +kernel
theorem dX3_fillLeastCosts_63 : decode cX3_fillLeastCosts 63 = .ok (.iload_n 3, 1) := by decide +kernel
theorem dX3_fillLeastCosts_64 : decode cX3_fillLeastCosts 64 = .ok (.iadd, 1) := by decide +kernel
theorem dX3_fillLeastCosts_65 : decode cX3_fillLeastCosts 65 = .ok (.aload_n 0, 1) := by decide +kernel
theorem dX3_fillLeastCosts_66 : decode cX3_fillLeastCosts 66 = .ok (.iload_n 2, 1) := by decide +kernel
theorem dX3_fillLeastCosts_67 : decode cX3_fillLeastCosts 67 = .ok (.iload_n 3, 1) := by decide +kernel
theorem dX3_fillLeastCosts_68 : decode cX3_fillLeastCosts 68 = .ok (.invokevirtual 71, 3) := by decide +kernel
theorem dX3_fillLeastCosts_71 : decode cX3_fillLeastCosts 71 = .ok (.invokestatic 64, 3) := by decide +kernel
theorem dX3_fillLeastCosts_74 : decode cX3_fillLeastCosts 74 = .ok (.iinc 3 1, 3) := by decide +kernel
theorem dX3_fillLeastCosts_77 : decode cX3_fillLeastCosts 77 = .ok (.goto (-27), 3) := by decide +kernel
theorem dX3_fillLeastCosts_80 : decode cX3_fillLeastCosts 80 = .ok (.iinc 2 (-1), 3) := by decide +kernel
theorem dX3_fillLeastCosts_83 : decode cX3_fillLeastCosts 83 = .ok (.goto (-39), 3) := by decide +kernel
theorem dX3_fillLeastCosts_86 : decode cX3_fillLeastCosts 86 = .ok (.return_, 1) := by decide +kernel
theorem dX3_leastCostFrom_0 : decode cX3_leastCostFrom 0 = .ok (.aload_n 0, 1) := by decide +kernel
theorem dX3_leastCostFrom_1 : decode cX3_leastCostFrom 1 = .ok (.iload_n 1, 1) := by decide +kernel
theorem dX3_leastCostFrom_2 : decode cX3_leastCostFrom 2 = .ok (.iconst (-1), 1) := by decide +kernel
theorem dX3_leastCostFrom_3 : decode cX3_leastCostFrom 3 = .ok (.iload_n 2, 1) := by decide +kernel
theorem dX3_leastCostFrom_4 : decode cX3_leastCostFrom 4 = .ok (.invokevirtual 74, 3) := by decide +kernel
theorem dX3_leastCostFrom_7 : decode cX3_leastCostFrom 7 = .ok (.istore_n 3, 1) := by decide +kernel
theorem dX3_leastCostFrom_8 : decode cX3_leastCostFrom 8 = .ok (.iload_n 2, 1) := by decide +kernel
theorem dX3_leastCostFrom_9 : decode cX3_leastCostFrom 9 = .ok (.aload_n 0, 1) := by decide +kernel
theorem dX3_leastCostFrom_10 : decode cX3_leastCostFrom 10 = .ok (.getfield 15, 3) := by decide +kernel
theorem dX3_leastCostFrom_13 : decode cX3_leastCostFrom 13 = .ok (.iload_n 1, 1) := by decide +kernel
theorem dX3_leastCostFrom_14 : decode cX3_leastCostFrom 14 = .ok (.iconst 0, 1) := by decide +kernel
theorem dX3_leastCostFrom_15 : decode cX3_leastCostFrom 15 = .ok (.invokestatic 46, 3) := by decide +kernel
theorem dX3_leastCostFrom_18 : decode cX3_leastCostFrom 18 = .ok (.iand, 1) := by decide +kernel
theorem dX3_leastCostFrom_19 : decode cX3_leastCostFrom 19 = .ok (.istore 4, 2) := by decide +kernel
theorem dX3_leastCostFrom_21 : decode cX3_leastCostFrom 21 = .ok (.iconst 0, 1) := by decide +kernel
theorem dX3_leastCostFrom_22 : decode cX3_leastCostFrom 22 = .ok (.istore 5, 2) := by decide +kernel
theorem dX3_leastCostFrom_24 : decode cX3_leastCostFrom 24 = .ok (.iload 5, 2) := by decide +kernel
theorem dX3_leastCostFrom_26 : decode cX3_leastCostFrom 26 = .ok (.aload_n 0, 1) := by decide +kernel
theorem dX3_leastCostFrom_27 : decode cX3_leastCostFrom 27 = .ok (.getfield 30, 3) := by decide +kernel
theorem dX3_leastCostFrom_30 : decode cX3_leastCostFrom 30 = .ok (.if_icmp .ge 32, 3) := by decide +kernel
theorem dX3_leastCostFrom_33 : decode cX3_leastCostFrom 33 = .ok (.iload 4, 2) := by decide +kernel
theorem dX3_leastCostFrom_35 : decode cX3_leastCostFrom 35 = .ok (.iload 5, 2) := by decide +kernel
theorem dX3_leastCostFrom_37 : decode cX3_leastCostFrom 37 = .ok (.invokestatic 54, 3) := by decide +kernel
theorem dX3_leastCostFrom_40 : decode cX3_leastCostFrom 40 = .ok (.ifCond .eq 16, 3) := by decide +kernel
theorem dX3_leastCostFrom_43 : decode cX3_leastCostFrom 43 = .ok (.iload_n 3, 1) := by decide +kernel
theorem dX3_leastCostFrom_44 : decode cX3_leastCostFrom 44 = .ok (.aload_n 0, 1) := by decide +kernel
theorem dX3_leastCostFrom_45 : decode cX3_leastCostFrom 45 = .ok (.iload_n 1, 1) := by decide +kernel
theorem dX3_leastCostFrom_46 : decode cX3_leastCostFrom 46 = .ok (.iload 5, 2) := by decide +kernel
theorem dX3_leastCostFrom_48 : decode cX3_leastCostFrom 48 = .ok (.iload_n 2, 1) := by decide +kernel
theorem dX3_leastCostFrom_49 : decode cX3_leastCostFrom 49 = .ok (.invokevirtual 74, 3) := by decide +kernel
theorem dX3_leastCostFrom_52 : decode cX3_leastCostFrom 52 = .ok (.invokestatic 37, 3) := by decide +kernel
theorem dX3_leastCostFrom_55 : decode cX3_leastCostFrom 55 = .ok (.istore_n 3, 1) := by decide +kernel
theorem dX3_leastCostFrom_56 : decode cX3_leastCostFrom 56 = .ok (.iinc 5 1, 3) := by decide +kernel
theorem dX3_leastCostFrom_59 : decode cX3_leastCostFrom 59 = .ok (.goto (-35), 3) := by decide +kernel
theorem dX3_leastCostFrom_62 : decode cX3_leastCostFrom 62 = .ok (.iload_n 3, 1) := by decide +kernel
theorem dX3_leastCostFrom_63 : decode cX3_leastCostFrom 63 = .ok (.ireturn, 1) := by decide +kernel
theorem dX3_lowestOfLeastCost_0 : decode cX3_lowestOfLeastCost 0 = .ok (.aload_n 0, 1) := by decide +kernel
theorem dX3_lowestOfLeastCost_1 : decode cX3_lowestOfLeastCost 1 = .ok (.getfield 27, 3) := by decide +kernel
theorem dX3_lowestOfLeastCost_4 : decode cX3_lowestOfLeastCost 4 = .ok (.iload_n 1, 1) := by decide +kernel
theorem dX3_lowestOfLeastCost_5 : decode cX3_lowestOfLeastCost 5 = .ok (.bipush 64, 2) := by decide +kernel
theorem dX3_lowestOfLeastCost_7 : decode cX3_lowestOfLeastCost 7 = .ok (.imul, 1) := by decide +kernel
theorem dX3_lowestOfLeastCost_8 : decode cX3_lowestOfLeastCost 8 = .ok (.iload_n 2, 1) := by decide +kernel
theorem dX3_lowestOfLeastCost_9 : decode cX3_lowestOfLeastCost 9 = .ok (.iadd, 1) := by decide +kernel
theorem dX3_lowestOfLeastCost_10 : decode cX3_lowestOfLeastCost 10 = .ok (.iconst 0, 1) := by decide +kernel
theorem dX3_lowestOfLeastCost_11 : decode cX3_lowestOfLeastCost 11 = .ok (.invokestatic 46, 3) := by decide +kernel
theorem dX3_lowestOfLeastCost_14 : decode cX3_lowestOfLeastCost 14 = .ok (.istore_n 3, 1) := by decide +kernel
theorem dX3_lowestOfLeastCost_15 : decode cX3_lowestOfLeastCost 15 = .ok (.iload_n 2, 1) := by decide +kernel
theorem dX3_lowestOfLeastCost_16 : decode cX3_lowestOfLeastCost 16 = .ok (.aload_n 0, 1) := by decide +kernel
theorem dX3_lowestOfLeastCost_17 : decode cX3_lowestOfLeastCost 17 = .ok (.getfield 15, 3) := by decide +kernel
theorem dX3_lowestOfLeastCost_20 : decode cX3_lowestOfLeastCost 20 = .ok (.iload_n 1, 1) := by decide +kernel
theorem dX3_lowestOfLeastCost_21 : decode cX3_lowestOfLeastCost 21 = .ok (.iconst 0, 1) := by decide +kernel
theorem dX3_lowestOfLeastCost_22 : decode cX3_lowestOfLeastCost 22 = .ok (.invokestatic 46, 3) := by decide +kernel
theorem dX3_lowestOfLeastCost_25 : decode cX3_lowestOfLeastCost 25 = .ok (.iand, 1) := by decide +kernel
theorem dX3_lowestOfLeastCost_26 : decode cX3_lowestOfLeastCost 26 = .ok (.istore 4, 2) := by decide +kernel
theorem dX3_lowestOfLeastCost_28 : decode cX3_lowestOfLeastCost 28 = .ok (.iconst 0, 1) := by decide +kernel
theorem dX3_lowestOfLeastCost_29 : decode cX3_lowestOfLeastCost 29 = .ok (.istore 5, 2) := by decide +kernel
theorem dX3_lowestOfLeastCost_31 : decode cX3_lowestOfLeastCost 31 = .ok (.iload 5, 2) := by decide +kernel
theorem dX3_lowestOfLeastCost_33 : decode cX3_lowestOfLeastCost 33 = .ok (.aload_n 0, 1) := by decide +kernel
theorem dX3_lowestOfLeastCost_34 : decode cX3_lowestOfLeastCost 34 = .ok (.getfield 30, 3) := by decide +kernel
theorem dX3_lowestOfLeastCost_37 : decode cX3_lowestOfLeastCost 37 = .ok (.if_icmp .ge 34, 3) := by decide +kernel
theorem dX3_lowestOfLeastCost_40 : decode cX3_lowestOfLeastCost 40 = .ok (.iload 4, 2) := by decide +kernel
theorem dX3_lowestOfLeastCost_42 : decode cX3_lowestOfLeastCost 42 = .ok (.iload 5, 2) := by decide +kernel
theorem dX3_lowestOfLeastCost_44 : decode cX3_lowestOfLeastCost 44 = .ok (.invokestatic 54, 3) := by decide +kernel
theorem dX3_lowestOfLeastCost_47 : decode cX3_lowestOfLeastCost 47 = .ok (.ifCond .eq 18, 3) := by decide +kernel
theorem dX3_lowestOfLeastCost_50 : decode cX3_lowestOfLeastCost 50 = .ok (.aload_n 0, 1) := by decide +kernel
theorem dX3_lowestOfLeastCost_51 : decode cX3_lowestOfLeastCost 51 = .ok (.iload_n 1, 1) := by decide +kernel
theorem dX3_lowestOfLeastCost_52 : decode cX3_lowestOfLeastCost 52 = .ok (.iload 5, 2) := by decide +kernel
theorem dX3_lowestOfLeastCost_54 : decode cX3_lowestOfLeastCost 54 = .ok (.iload_n 2, 1) := by decide +kernel
theorem dX3_lowestOfLeastCost_55 : decode cX3_lowestOfLeastCost 55 = .ok (.invokevirtual 74, 3) := by decide +kernel
theorem dX3_lowestOfLeastCost_58 : decode cX3_lowestOfLeastCost 58 = .ok (.iload_n 3, 1) := by decide +kernel
theorem dX3_lowestOfLeastCost_59 : decode cX3_lowestOfLeastCost 59 = .ok (.if_icmp .ne 6, 3) := by decide +kernel
theorem dX3_lowestOfLeastCost_62 : decode cX3_lowestOfLeastCost 62 = .ok (.iload 5, 2) := by decide +kernel
theorem dX3_lowestOfLeastCost_64 : decode cX3_lowestOfLeastCost 64 = .ok (.ireturn, 1) := by decide +kernel
theorem dX3_lowestOfLeastCost_65 : decode cX3_lowestOfLeastCost 65 = .ok (.iinc 5 1, 3) := by decide +kernel
theorem dX3_lowestOfLeastCost_68 : decode cX3_lowestOfLeastCost 68 = .ok (.goto (-37), 3) := by decide +kernel
theorem dX3_lowestOfLeastCost_71 : decode cX3_lowestOfLeastCost 71 = .ok (.iconst (-1), 1) := by decide +kernel
theorem dX3_lowestOfLeastCost_72 : decode cX3_lowestOfLeastCost 72 = .ok (.ireturn, 1) := by decide +kernel
theorem dX3_costWith_0 : decode cX3_costWith 0 = .ok (.aload_n 0, 1) := by decide +kernel
theorem dX3_costWith_1 : decode cX3_costWith 1 = .ok (.getfield 27, 3) := by decide +kernel
theorem dX3_costWith_4 : decode cX3_costWith 4 = .ok (.iload_n 1, 1) := by decide +kernel
theorem dX3_costWith_5 : decode cX3_costWith 5 = .ok (.iconst 1, 1) := by decide +kernel
theorem dX3_costWith_6 : decode cX3_costWith 6 = .ok (.iadd, 1) := by decide +kernel
theorem dX3_costWith_7 : decode cX3_costWith 7 = .ok (.bipush 64, 2) := by decide +kernel
theorem dX3_costWith_9 : decode cX3_costWith 9 = .ok (.imul, 1) := by decide +kernel
theorem dX3_costWith_10 : decode cX3_costWith 10 = .ok (.iload_n 3, 1) := by decide +kernel
theorem dX3_costWith_11 : decode cX3_costWith 11 = .ok (.iload_n 2, 1) := by decide +kernel
theorem dX3_costWith_12 : decode cX3_costWith 12 = .ok (.invokestatic 68, 3) := by decide +kernel
theorem dX3_costWith_15 : decode cX3_costWith 15 = .ok (.iadd, 1) := by decide +kernel
theorem dX3_costWith_16 : decode cX3_costWith 16 = .ok (.iconst 0, 1) := by decide +kernel
theorem dX3_costWith_17 : decode cX3_costWith 17 = .ok (.invokestatic 46, 3) := by decide +kernel
theorem dX3_costWith_20 : decode cX3_costWith 20 = .ok (.istore 4, 2) := by decide +kernel
theorem dX3_costWith_22 : decode cX3_costWith 22 = .ok (.iload_n 2, 1) := by decide +kernel
theorem dX3_costWith_23 : decode cX3_costWith 23 = .ok (.iconst (-1), 1) := by decide +kernel
theorem dX3_costWith_24 : decode cX3_costWith 24 = .ok (.if_icmp .ne 19, 3) := by decide +kernel
theorem dX3_costWith_27 : decode cX3_costWith 27 = .ok (.iload 4, 2) := by decide +kernel
theorem dX3_costWith_29 : decode cX3_costWith 29 = .ok (.aload_n 0, 1) := by decide +kernel
theorem dX3_costWith_30 : decode cX3_costWith 30 = .ok (.getfield 9, 3) := by decide +kernel
theorem dX3_costWith_33 : decode cX3_costWith 33 = .ok (.iload_n 1, 1) := by decide +kernel
theorem dX3_costWith_34 : decode cX3_costWith 34 = .ok (.iconst 0, 1) := by decide +kernel
theorem dX3_costWith_35 : decode cX3_costWith 35 = .ok (.invokestatic 46, 3) := by decide +kernel
theorem dX3_costWith_38 : decode cX3_costWith 38 = .ok (.bipush 7, 2) := by decide +kernel
theorem dX3_costWith_40 : decode cX3_costWith 40 = .ok (.imul, 1) := by decide +kernel
theorem dX3_costWith_41 : decode cX3_costWith 41 = .ok (.iadd, 1) := by decide +kernel
theorem dX3_costWith_42 : decode cX3_costWith 42 = .ok (.ireturn, 1) := by decide +kernel
theorem dX3_costWith_43 : decode cX3_costWith 43 = .ok (.aload_n 0, 1) := by decide +kernel
theorem dX3_costWith_44 : decode cX3_costWith 44 = .ok (.getfield 18, 3) := by decide +kernel
theorem dX3_costWith_47 : decode cX3_costWith 47 = .ok (.iload_n 1, 1) := by decide +kernel
theorem dX3_costWith_48 : decode cX3_costWith 48 = .ok (.iconst 0, 1) := by decide +kernel
theorem dX3_costWith_49 : decode cX3_costWith 49 = .ok (.invokestatic 46, 3) := by decide +kernel
theorem dX3_costWith_52 : decode cX3_costWith 52 = .ok (.iload_n 2, 1) := by decide +kernel
theorem dX3_costWith_53 : decode cX3_costWith 53 = .ok (.invokestatic 54, 3) := by decide +kernel
theorem dX3_costWith_56 : decode cX3_costWith 56 = .ok (.ifCond .eq 10, 3) := by decide +kernel
theorem dX3_costWith_59 : decode cX3_costWith 59 = .ok (.iload 4, 2) := by decide +kernel
theorem dX3_costWith_61 : decode cX3_costWith 61 = .ok (.iconst 1, 1) := by decide +kernel
theorem dX3_costWith_62 : decode cX3_costWith 62 = .ok (.isub, 1) := by decide +kernel
theorem dX3_costWith_63 : decode cX3_costWith 63 = .ok (.goto 5, 3) := by decide +kernel
theorem dX3_costWith_66 : decode cX3_costWith 66 = .ok (.iload 4, 2) := by decide +kernel
theorem dX3_costWith_68 : decode cX3_costWith 68 = .ok (.ireturn, 1) := by decide +kernel
theorem dX3_without_0 : decode cX3_without 0 = .ok (.iload_n 1, 1) := by decide +kernel
theorem dX3_without_1 : decode cX3_without 1 = .ok (.iconst (-1), 1) := by decide +kernel
theorem dX3_without_2 : decode cX3_without 2 = .ok (.if_icmp .ne 7, 3) := by decide +kernel
theorem dX3_without_5 : decode cX3_without 5 = .ok (.iload_n 0, 1) := by decide +kernel
theorem dX3_without_6 : decode cX3_without 6 = .ok (.goto 10, 3) := by decide +kernel
theorem dX3_without_9 : decode cX3_without 9 = .ok (.iload_n 0, 1) := by decide +kernel
theorem dX3_without_10 : decode cX3_without 10 = .ok (.iconst 1, 1) := by decide +kernel
theorem dX3_without_11 : decode cX3_without 11 = .ok (.iload_n 1, 1) := by decide +kernel
theorem dX3_without_12 : decode cX3_without 12 = .ok (.ishl, 1) := by decide +kernel
theorem dX3_without_13 : decode cX3_without 13 = .ok (.iconst (-1), 1) := by decide +kernel
theorem dX3_without_14 : decode cX3_without 14 = .ok (.ixor, 1) := by decide +kernel
theorem dX3_without_15 : decode cX3_without 15 = .ok (.iand, 1) := by decide +kernel
theorem dX3_without_16 : decode cX3_without 16 = .ok (.ireturn, 1) := by decide +kernel
theorem dX3_allocateByAll_0 : decode cX3_allocateByAll 0 = .ok (.aload_n 0, 1) := by decide +kernel
theorem dX3_allocateByAll_1 : decode cX3_allocateByAll 1 = .ok (.getfield 24, 3) := by decide +kernel
theorem dX3_allocateByAll_4 : decode cX3_allocateByAll 4 = .ok (.aload_n 0, 1) := by decide +kernel
theorem dX3_allocateByAll_5 : decode cX3_allocateByAll 5 = .ok (.invokevirtual 78, 3) := by decide +kernel
theorem dX3_allocateByAll_8 : decode cX3_allocateByAll 8 = .ok (.invokestatic 82, 3) := by decide +kernel
theorem dX3_allocateByAll_11 : decode cX3_allocateByAll 11 = .ok (.aload_n 0, 1) := by decide +kernel
theorem dX3_allocateByAll_12 : decode cX3_allocateByAll 12 = .ok (.getfield 21, 3) := by decide +kernel
theorem dX3_allocateByAll_15 : decode cX3_allocateByAll 15 = .ok (.iconst (-1), 1) := by decide +kernel
theorem dX3_allocateByAll_16 : decode cX3_allocateByAll 16 = .ok (.invokestatic 82, 3) := by decide +kernel
theorem dX3_allocateByAll_19 : decode cX3_allocateByAll 19 = .ok (.aload_n 0, 1) := by decide +kernel
theorem dX3_allocateByAll_20 : decode cX3_allocateByAll 20 = .ok (.invokevirtual 88, 3) := by decide +kernel
theorem dX3_allocateByAll_23 : decode cX3_allocateByAll 23 = .ok (.istore_n 1, 1) := by decide +kernel
theorem dX3_allocateByAll_24 : decode cX3_allocateByAll 24 = .ok (.iconst 0, 1) := by decide +kernel
theorem dX3_allocateByAll_25 : decode cX3_allocateByAll 25 = .ok (.istore_n 2, 1) := by decide +kernel
theorem dX3_allocateByAll_26 : decode cX3_allocateByAll 26 = .ok (.iload_n 2, 1) := by decide +kernel
theorem dX3_allocateByAll_27 : decode cX3_allocateByAll 27 = .ok (.iload_n 1, 1) := by decide +kernel
theorem dX3_allocateByAll_28 : decode cX3_allocateByAll 28 = .ok (.if_icmp .ge 45, 3) := by decide +kernel
theorem dX3_allocateByAll_31 : decode cX3_allocateByAll 31 = .ok (.aload_n 0, 1) := by decide +kernel
theorem dX3_allocateByAll_32 : decode cX3_allocateByAll 32 = .ok (.invokevirtual 91, 3) := by decide +kernel
theorem dX3_allocateByAll_35 : decode cX3_allocateByAll 35 = .ok (.ifCond .eq 28, 3) := by decide +kernel
theorem dX3_allocateByAll_38 : decode cX3_allocateByAll 38 = .ok (.aload_n 0, 1) := by decide +kernel
theorem dX3_allocateByAll_39 : decode cX3_allocateByAll 39 = .ok (.invokevirtual 95, 3) := by decide +kernel
theorem dX3_allocateByAll_42 : decode cX3_allocateByAll 42 = .ok (.ifCond .eq 21, 3) := by decide +kernel
theorem dX3_allocateByAll_45 : decode cX3_allocateByAll 45 = .ok (.aload_n 0, 1) := by decide +kernel
theorem dX3_allocateByAll_46 : decode cX3_allocateByAll 46 = .ok (.getfield 24, 3) := by decide +kernel
theorem dX3_allocateByAll_49 : decode cX3_allocateByAll 49 = .ok (.iconst 0, 1) := by decide +kernel
theorem dX3_allocateByAll_50 : decode cX3_allocateByAll 50 = .ok (.aload_n 0, 1) := by decide +kernel
theorem dX3_allocateByAll_51 : decode cX3_allocateByAll 51 = .ok (.getfield 21, 3) := by decide +kernel
theorem dX3_allocateByAll_54 : decode cX3_allocateByAll 54 = .ok (.iconst 0, 1) := by decide +kernel
theorem dX3_allocateByAll_55 : decode cX3_allocateByAll 55 = .ok (.aload_n 0, 1) := by decide +kernel
theorem dX3_allocateByAll_56 : decode cX3_allocateByAll 56 = .ok (.getfield 21, 3) := by decide +kernel
theorem dX3_allocateByAll_59 : decode cX3_allocateByAll 59 = .ok (.arraylength, 1) := by decide +kernel
theorem dX3_allocateByAll_60 : decode cX3_allocateByAll 60 = .ok (.invokestatic 98, 3) := by decide +kernel
theorem dX3_allocateByAll_63 : decode cX3_allocateByAll 63 = .ok (.aload_n 0, 1) := by decide +kernel
theorem dX3_allocateByAll_64 : decode cX3_allocateByAll 64 = .ok (.invokevirtual 104, 3) := by decide +kernel
theorem dX3_allocateByAll_67 : decode cX3_allocateByAll 67 = .ok (.iinc 2 1, 3) := by decide +kernel
theorem dX3_allocateByAll_70 : decode cX3_allocateByAll 70 = .ok (.goto (-44), 3) := by decide +kernel
theorem dX3_allocateByAll_73 : decode cX3_allocateByAll 73 = .ok (.return_, 1) := by decide +kernel
theorem dX3_howManyTrials_0 : decode cX3_howManyTrials 0 = .ok (.iconst 1, 1) := by decide +kernel
theorem dX3_howManyTrials_1 : decode cX3_howManyTrials 1 = .ok (.istore_n 1, 1) := by decide +kernel
theorem dX3_howManyTrials_2 : decode cX3_howManyTrials 2 = .ok (.iconst 0, 1) := by decide +kernel
theorem dX3_howManyTrials_3 : decode cX3_howManyTrials 3 = .ok (.istore_n 2, 1) := by decide +kernel
theorem dX3_howManyTrials_4 : decode cX3_howManyTrials 4 = .ok (.iload_n 2, 1) := by decide +kernel
theorem dX3_howManyTrials_5 : decode cX3_howManyTrials 5 = .ok (.aload_n 0, 1) := by decide +kernel
theorem dX3_howManyTrials_6 : decode cX3_howManyTrials 6 = .ok (.getfield 34, 3) := by decide +kernel
theorem dX3_howManyTrials_9 : decode cX3_howManyTrials 9 = .ok (.if_icmp .ge 18, 3) := by decide +kernel
theorem dX3_howManyTrials_12 : decode cX3_howManyTrials 12 = .ok (.iload_n 1, 1) := by decide +kernel
theorem dX3_howManyTrials_13 : decode cX3_howManyTrials 13 = .ok (.aload_n 0, 1) := by decide +kernel
theorem dX3_howManyTrials_14 : decode cX3_howManyTrials 14 = .ok (.getfield 30, 3) := by decide +kernel
theorem dX3_howManyTrials_17 : decode cX3_howManyTrials 17 = .ok (.iconst 1, 1) := by decide +kernel
theorem dX3_howManyTrials_18 : decode cX3_howManyTrials 18 = .ok (.iadd, 1) := by decide +kernel
theorem dX3_howManyTrials_19 : decode cX3_howManyTrials 19 = .ok (.imul, 1) := by decide +kernel
theorem dX3_howManyTrials_20 : decode cX3_howManyTrials 20 = .ok (.istore_n 1, 1) := by decide +kernel
theorem dX3_howManyTrials_21 : decode cX3_howManyTrials 21 = .ok (.iinc 2 1, 3) := by decide +kernel
theorem dX3_howManyTrials_24 : decode cX3_howManyTrials 24 = .ok (.goto (-20), 3) := by decide +kernel
theorem dX3_howManyTrials_27 : decode cX3_howManyTrials 27 = .ok (.iload_n 1, 1) := by decide +kernel
theorem dX3_howManyTrials_28 : decode cX3_howManyTrials 28 = .ok (.ireturn, 1) := by decide +kernel
theorem dX3_stepTrial_0 : decode cX3_stepTrial 0 = .ok (.aload_n 0, 1) := by decide +kernel
theorem dX3_stepTrial_1 : decode cX3_stepTrial 1 = .ok (.getfield 34, 3) := by decide +kernel
theorem dX3_stepTrial_4 : decode cX3_stepTrial 4 = .ok (.iconst 1, 1) := by decide +kernel
theorem dX3_stepTrial_5 : decode cX3_stepTrial 5 = .ok (.isub, 1) := by decide +kernel
theorem dX3_stepTrial_6 : decode cX3_stepTrial 6 = .ok (.istore_n 1, 1) := by decide +kernel
theorem dX3_stepTrial_7 : decode cX3_stepTrial 7 = .ok (.iload_n 1, 1) := by decide +kernel
theorem dX3_stepTrial_8 : decode cX3_stepTrial 8 = .ok (.ifCond .lt 62, 3) := by decide +kernel
theorem dX3_stepTrial_11 : decode cX3_stepTrial 11 = .ok (.aload_n 0, 1) := by decide +kernel
theorem dX3_stepTrial_12 : decode cX3_stepTrial 12 = .ok (.getfield 24, 3) := by decide +kernel
theorem dX3_stepTrial_15 : decode cX3_stepTrial 15 = .ok (.iload_n 1, 1) := by decide +kernel
theorem dX3_stepTrial_16 : decode cX3_stepTrial 16 = .ok (.iconst (-1), 1) := by decide +kernel
theorem dX3_stepTrial_17 : decode cX3_stepTrial 17 = .ok (.invokestatic 46, 3) := by decide +kernel
theorem dX3_stepTrial_20 : decode cX3_stepTrial 20 = .ok (.istore_n 2, 1) := by decide +kernel
theorem dX3_stepTrial_21 : decode cX3_stepTrial 21 = .ok (.iload_n 2, 1) := by decide +kernel
theorem dX3_stepTrial_22 : decode cX3_stepTrial 22 = .ok (.iconst (-1), 1) := by decide +kernel
theorem dX3_stepTrial_23 : decode cX3_stepTrial 23 = .ok (.if_icmp .eq 29, 3) := by decide +kernel
theorem dX3_stepTrial_26 : decode cX3_stepTrial 26 = .ok (.aload_n 0, 1) := by decide +kernel
theorem dX3_stepTrial_27 : decode cX3_stepTrial 27 = .ok (.getfield 24, 3) := by decide +kernel
theorem dX3_stepTrial_30 : decode cX3_stepTrial 30 = .ok (.iload_n 1, 1) := by decide +kernel
theorem dX3_stepTrial_31 : decode cX3_stepTrial 31 = .ok (.iload_n 2, 1) := by decide +kernel
theorem dX3_stepTrial_32 : decode cX3_stepTrial 32 = .ok (.iconst 1, 1) := by decide +kernel
theorem dX3_stepTrial_33 : decode cX3_stepTrial 33 = .ok (.iadd, 1) := by decide +kernel
theorem dX3_stepTrial_34 : decode cX3_stepTrial 34 = .ok (.aload_n 0, 1) := by decide +kernel
theorem dX3_stepTrial_35 : decode cX3_stepTrial 35 = .ok (.getfield 30, 3) := by decide +kernel
theorem dX3_stepTrial_38 : decode cX3_stepTrial 38 = .ok (.if_icmp .ge 9, 3) := by decide +kernel
theorem dX3_stepTrial_41 : decode cX3_stepTrial 41 = .ok (.iload_n 2, 1) := by decide +kernel
theorem dX3_stepTrial_42 : decode cX3_stepTrial 42 = .ok (.iconst 1, 1) := by decide +kernel
theorem dX3_stepTrial_43 : decode cX3_stepTrial 43 = .ok (.iadd, 1) := by decide +kernel
theorem dX3_stepTrial_44 : decode cX3_stepTrial 44 = .ok (.goto 4, 3) := by decide +kernel
theorem dX3_stepTrial_47 : decode cX3_stepTrial 47 = .ok (.iconst (-1), 1) := by decide +kernel
theorem dX3_stepTrial_48 : decode cX3_stepTrial 48 = .ok (.invokestatic 64, 3) := by decide +kernel
theorem dX3_stepTrial_51 : decode cX3_stepTrial 51 = .ok (.return_, 1) := by decide +kernel
theorem dX3_stepTrial_52 : decode cX3_stepTrial 52 = .ok (.aload_n 0, 1) := by decide +kernel
theorem dX3_stepTrial_53 : decode cX3_stepTrial 53 = .ok (.getfield 24, 3) := by decide +kernel
theorem dX3_stepTrial_56 : decode cX3_stepTrial 56 = .ok (.iload_n 1, 1) := by decide +kernel
theorem dX3_stepTrial_57 : decode cX3_stepTrial 57 = .ok (.aload_n 0, 1) := by decide +kernel
theorem dX3_stepTrial_58 : decode cX3_stepTrial 58 = .ok (.invokevirtual 78, 3) := by decide +kernel
theorem dX3_stepTrial_61 : decode cX3_stepTrial 61 = .ok (.invokestatic 64, 3) := by decide +kernel
theorem dX3_stepTrial_64 : decode cX3_stepTrial 64 = .ok (.iinc 1 (-1), 3) := by decide +kernel
theorem dX3_stepTrial_67 : decode cX3_stepTrial 67 = .ok (.goto (-60), 3) := by decide +kernel
theorem dX3_stepTrial_70 : decode cX3_stepTrial 70 = .ok (.return_, 1) := by decide +kernel
theorem dX3_firstChoice_0 : decode cX3_firstChoice 0 = .ok (.aload_n 0, 1) := by decide +kernel
theorem dX3_firstChoice_1 : decode cX3_firstChoice 1 = .ok (.getfield 30, 3) := by decide +kernel
theorem dX3_firstChoice_4 : decode cX3_firstChoice 4 = .ok (.ifCond .ne 7, 3) := by decide +kernel
theorem dX3_firstChoice_7 : decode cX3_firstChoice 7 = .ok (.iconst (-1), 1) := by decide +kernel
theorem dX3_firstChoice_8 : decode cX3_firstChoice 8 = .ok (.goto 4, 3) := by decide +kernel
theorem dX3_firstChoice_11 : decode cX3_firstChoice 11 = .ok (.iconst 0, 1) := by decide +kernel
theorem dX3_firstChoice_12 : decode cX3_firstChoice 12 = .ok (.ireturn, 1) := by decide +kernel
theorem dX3_trialIsAllowed_0 : decode cX3_trialIsAllowed 0 = .ok (.iconst 0, 1) := by decide +kernel
theorem dX3_trialIsAllowed_1 : decode cX3_trialIsAllowed 1 = .ok (.istore_n 1, 1) := by decide +kernel
theorem dX3_trialIsAllowed_2 : decode cX3_trialIsAllowed 2 = .ok (.iconst 0, 1) := by decide +kernel
theorem dX3_trialIsAllowed_3 : decode cX3_trialIsAllowed 3 = .ok (.istore_n 2, 1) := by decide +kernel
theorem dX3_trialIsAllowed_4 : decode cX3_trialIsAllowed 4 = .ok (.iload_n 2, 1) := by decide +kernel
theorem dX3_trialIsAllowed_5 : decode cX3_trialIsAllowed 5 = .ok (.aload_n 0, 1) := by decide +kernel
theorem dX3_trialIsAllowed_6 : decode cX3_trialIsAllowed 6 = .ok (.getfield 34, 3) := by decide +kernel
theorem dX3_trialIsAllowed_9 : decode cX3_trialIsAllowed 9 = .ok (.if_icmp .ge 56, 3) := by decide +kernel
theorem dX3_trialIsAllowed_12 : decode cX3_trialIsAllowed 12 = .ok (.aload_n 0, 1) := by decide +kernel
theorem dX3_trialIsAllowed_13 : decode cX3_trialIsAllowed 13 = .ok (.getfield 24, 3) := by decide +kernel
theorem dX3_trialIsAllowed_16 : decode cX3_trialIsAllowed 16 = .ok (.iload_n 2, 1) := by decide +kernel
theorem dX3_trialIsAllowed_17 : decode cX3_trialIsAllowed 17 = .ok (.iconst (-1), 1) := by decide +kernel
theorem dX3_trialIsAllowed_18 : decode cX3_trialIsAllowed 18 = .ok (.invokestatic 46, 3) := by decide +kernel
theorem dX3_trialIsAllowed_21 : decode cX3_trialIsAllowed 21 = .ok (.istore_n 3, 1) := by decide +kernel
theorem dX3_trialIsAllowed_22 : decode cX3_trialIsAllowed 22 = .ok (.iload_n 3, 1) := by decide +kernel
theorem dX3_trialIsAllowed_23 : decode cX3_trialIsAllowed 23 = .ok (.iconst (-1), 1) := by decide +kernel
theorem dX3_trialIsAllowed_24 : decode cX3_trialIsAllowed 24 = .ok (.if_icmp .eq 35, 3) := by decide +kernel
theorem dX3_trialIsAllowed_27 : decode cX3_trialIsAllowed 27 = .ok (.iload_n 1, 1) := by decide +kernel
theorem dX3_trialIsAllowed_28 : decode cX3_trialIsAllowed 28 = .ok (.iload_n 3, 1) := by decide +kernel
theorem dX3_trialIsAllowed_29 : decode cX3_trialIsAllowed 29 = .ok (.invokestatic 54, 3) := by decide +kernel
theorem dX3_trialIsAllowed_32 : decode cX3_trialIsAllowed 32 = .ok (.ifCond .ne 19, 3) := by decide +kernel
theorem dX3_trialIsAllowed_35 : decode cX3_trialIsAllowed 35 = .ok (.aload_n 0, 1) := by decide +kernel
theorem dX3_trialIsAllowed_36 : decode cX3_trialIsAllowed 36 = .ok (.getfield 15, 3) := by decide +kernel
theorem dX3_trialIsAllowed_39 : decode cX3_trialIsAllowed 39 = .ok (.iload_n 2, 1) := by decide +kernel
theorem dX3_trialIsAllowed_40 : decode cX3_trialIsAllowed 40 = .ok (.iconst 0, 1) := by decide +kernel
theorem dX3_trialIsAllowed_41 : decode cX3_trialIsAllowed 41 = .ok (.invokestatic 46, 3) := by decide +kernel
theorem dX3_trialIsAllowed_44 : decode cX3_trialIsAllowed 44 = .ok (.iload_n 3, 1) := by decide +kernel
theorem dX3_trialIsAllowed_45 : decode cX3_trialIsAllowed 45 = .ok (.invokestatic 54, 3) := by decide +kernel
theorem dX3_trialIsAllowed_48 : decode cX3_trialIsAllowed 48 = .ok (.ifCond .ne 5, 3) := by decide +kernel
theorem dX3_trialIsAllowed_51 : decode cX3_trialIsAllowed 51 = .ok (.iconst 0, 1) := by decide +kernel
theorem dX3_trialIsAllowed_52 : decode cX3_trialIsAllowed 52 = .ok (.ireturn, 1) := by decide +kernel
theorem dX3_trialIsAllowed_53 : decode cX3_trialIsAllowed 53 = .ok (.iload_n 1, 1) := by decide +kernel
theorem dX3_trialIsAllowed_54 : decode cX3_trialIsAllowed 54 = .ok (.iconst 1, 1) := by decide +kernel
theorem dX3_trialIsAllowed_55 : decode cX3_trialIsAllowed 55 = .ok (.iload_n 3, 1) := by decide +kernel
theorem dX3_trialIsAllowed_56 : decode cX3_trialIsAllowed 56 = .ok (.ishl, 1) := by decide +kernel
theorem dX3_trialIsAllowed_57 : decode cX3_trialIsAllowed 57 = .ok (.ior, 1) := by decide +kernel
theorem dX3_trialIsAllowed_58 : decode cX3_trialIsAllowed 58 = .ok (.istore_n 1, 1) := by decide +kernel
theorem dX3_trialIsAllowed_59 : decode cX3_trialIsAllowed 59 = .ok (.iinc 2 1, 3) := by decide +kernel
theorem dX3_trialIsAllowed_62 : decode cX3_trialIsAllowed 62 = .ok (.goto (-58), 3) := by decide +kernel
theorem dX3_trialIsAllowed_65 : decode cX3_trialIsAllowed 65 = .ok (.iconst 1, 1) := by decide +kernel
theorem dX3_trialIsAllowed_66 : decode cX3_trialIsAllowed 66 = .ok (.ireturn, 1) := by decide +kernel
theorem dX3_trialIsBetter_0 : decode cX3_trialIsBetter 0 = .ok (.aload_n 0, 1) := by decide +kernel
theorem dX3_trialIsBetter_1 : decode cX3_trialIsBetter 1 = .ok (.aload_n 0, 1) := by decide +kernel
theorem dX3_trialIsBetter_2 : decode cX3_trialIsBetter 2 = .ok (.getfield 24, 3) := by decide +kernel
theorem dX3_trialIsBetter_5 : decode cX3_trialIsBetter 5 = .ok (.invokevirtual 50, 3) := by decide +kernel
theorem dX3_trialIsBetter_8 : decode cX3_trialIsBetter 8 = .ok (.istore_n 1, 1) := by decide +kernel
theorem dX3_trialIsBetter_9 : decode cX3_trialIsBetter 9 = .ok (.aload_n 0, 1) := by decide +kernel
theorem dX3_trialIsBetter_10 : decode cX3_trialIsBetter 10 = .ok (.aload_n 0, 1) := by decide +kernel
theorem dX3_trialIsBetter_11 : decode cX3_trialIsBetter 11 = .ok (.getfield 21, 3) := by decide +kernel
theorem dX3_trialIsBetter_14 : decode cX3_trialIsBetter 14 = .ok (.invokevirtual 50, 3) := by decide +kernel
theorem dX3_trialIsBetter_17 : decode cX3_trialIsBetter 17 = .ok (.istore_n 2, 1) := by decide +kernel
theorem dX3_trialIsBetter_18 : decode cX3_trialIsBetter 18 = .ok (.iload_n 1, 1) := by decide +kernel
theorem dX3_trialIsBetter_19 : decode cX3_trialIsBetter 19 = .ok (.iload_n 2, 1) := by decide +kernel
theorem dX3_trialIsBetter_20 : decode cX3_trialIsBetter 20 = .ok (.if_icmp .lt 27, 3) := by decide +kernel
theorem dX3_trialIsBetter_23 : decode cX3_trialIsBetter 23 = .ok (.iload_n 1, 1) := by decide +kernel
theorem dX3_trialIsBetter_24 : decode cX3_trialIsBetter 24 = .ok (.iload_n 2, 1) := by decide +kernel
theorem dX3_trialIsBetter_25 : decode cX3_trialIsBetter 25 = .ok (.if_icmp .ne 26, 3) := by decide +kernel
theorem dX3_trialIsBetter_28 : decode cX3_trialIsBetter 28 = .ok (.aload_n 0, 1) := by decide +kernel
theorem dX3_trialIsBetter_29 : decode cX3_trialIsBetter 29 = .ok (.aload_n 0, 1) := by decide +kernel
theorem dX3_trialIsBetter_30 : decode cX3_trialIsBetter 30 = .ok (.getfield 24, 3) := by decide +kernel
theorem dX3_trialIsBetter_33 : decode cX3_trialIsBetter 33 = .ok (.invokevirtual 107, 3) := by decide +kernel
theorem dX3_trialIsBetter_36 : decode cX3_trialIsBetter 36 = .ok (.aload_n 0, 1) := by decide +kernel
theorem dX3_trialIsBetter_37 : decode cX3_trialIsBetter 37 = .ok (.aload_n 0, 1) := by decide +kernel
theorem dX3_trialIsBetter_38 : decode cX3_trialIsBetter 38 = .ok (.getfield 21, 3) := by decide +kernel
theorem dX3_trialIsBetter_41 : decode cX3_trialIsBetter 41 = .ok (.invokevirtual 107, 3) := by decide +kernel
theorem dX3_trialIsBetter_44 : decode cX3_trialIsBetter 44 = .ok (.if_icmp .le 7, 3) := by decide +kernel
theorem dX3_trialIsBetter_47 : decode cX3_trialIsBetter 47 = .ok (.iconst 1, 1) := by decide +kernel
theorem dX3_trialIsBetter_48 : decode cX3_trialIsBetter 48 = .ok (.goto 4, 3) := by decide +kernel
theorem dX3_trialIsBetter_51 : decode cX3_trialIsBetter 51 = .ok (.iconst 0, 1) := by decide +kernel
theorem dX3_trialIsBetter_52 : decode cX3_trialIsBetter 52 = .ok (.ireturn, 1) := by decide +kernel
theorem dX4_init_0 : decode cX4_init 0 = .ok (.aload_n 0, 1) := by decide +kernel
theorem dX4_init_1 : decode cX4_init 1 = .ok (.invokespecial 3, 3) := by decide +kernel
theorem dX4_init_4 : decode cX4_init 4 = .ok (.aload_n 0, 1) := by decide +kernel
theorem dX4_init_5 : decode cX4_init 5 = .ok (.sipush 1200, 3) := by decide +kernel
theorem dX4_init_8 : decode cX4_init 8 = .ok (.newarray .int, 2) := by decide +kernel
theorem dX4_init_10 : decode cX4_init 10 = .ok (.putfield 9, 3) := by decide +kernel
theorem dX4_init_13 : decode cX4_init 13 = .ok (.aload_n 0, 1) := by decide +kernel
theorem dX4_init_14 : decode cX4_init 14 = .ok (.getfield 9, 3) := by decide +kernel
theorem dX4_init_17 : decode cX4_init 17 = .ok (.iconst (-1), 1) := by decide +kernel
theorem dX4_init_18 : decode cX4_init 18 = .ok (.invokestatic 15, 3) := by decide +kernel
theorem dX4_init_21 : decode cX4_init 21 = .ok (.return_, 1) := by decide +kernel
theorem dX4_record_0 : decode cX4_record 0 = .ok (.iload_n 2, 1) := by decide +kernel
theorem dX4_record_1 : decode cX4_record 1 = .ok (.bipush 6, 2) := by decide +kernel
theorem dX4_record_3 : decode cX4_record 3 = .ok (.imul, 1) := by decide +kernel
theorem dX4_record_4 : decode cX4_record 4 = .ok (.iload_n 1, 1) := by decide +kernel
theorem dX4_record_5 : decode cX4_record 5 = .ok (.iadd, 1) := by decide +kernel
theorem dX4_record_6 : decode cX4_record 6 = .ok (.istore 4, 2) := by decide +kernel
theorem dX4_record_8 : decode cX4_record 8 = .ok (.iload 4, 2) := by decide +kernel
theorem dX4_record_10 : decode cX4_record 10 = .ok (.ifCond .lt 21, 3) := by decide +kernel
theorem dX4_record_13 : decode cX4_record 13 = .ok (.iload 4, 2) := by decide +kernel
theorem dX4_record_15 : decode cX4_record 15 = .ok (.aload_n 0, 1) := by decide +kernel
theorem dX4_record_16 : decode cX4_record 16 = .ok (.getfield 9, 3) := by decide +kernel
theorem dX4_record_19 : decode cX4_record 19 = .ok (.arraylength, 1) := by decide +kernel
theorem dX4_record_20 : decode cX4_record 20 = .ok (.if_icmp .ge 11, 3) := by decide +kernel
theorem dX4_record_23 : decode cX4_record 23 = .ok (.aload_n 0, 1) := by decide +kernel
theorem dX4_record_24 : decode cX4_record 24 = .ok (.getfield 9, 3) := by decide +kernel
theorem dX4_record_27 : decode cX4_record 27 = .ok (.iload 4, 2) := by decide +kernel
theorem dX4_record_29 : decode cX4_record 29 = .ok (.iload_n 3, 1) := by decide +kernel
theorem dX4_record_30 : decode cX4_record 30 = .ok (.iastore, 1) := by decide +kernel
theorem dX4_record_31 : decode cX4_record 31 = .ok (.return_, 1) := by decide +kernel
theorem dX4_unitThatRan_0 : decode cX4_unitThatRan 0 = .ok (.iload_n 2, 1) := by decide +kernel
theorem dX4_unitThatRan_1 : decode cX4_unitThatRan 1 = .ok (.bipush 6, 2) := by decide +kernel
theorem dX4_unitThatRan_3 : decode cX4_unitThatRan 3 = .ok (.imul, 1) := by decide +kernel
theorem dX4_unitThatRan_4 : decode cX4_unitThatRan 4 = .ok (.iload_n 1, 1) := by decide +kernel
theorem dX4_unitThatRan_5 : decode cX4_unitThatRan 5 = .ok (.iadd, 1) := by decide +kernel
theorem dX4_unitThatRan_6 : decode cX4_unitThatRan 6 = .ok (.istore_n 3, 1) := by decide +kernel
theorem dX4_unitThatRan_7 : decode cX4_unitThatRan 7 = .ok (.iload_n 3, 1) := by decide +kernel
theorem dX4_unitThatRan_8 : decode cX4_unitThatRan 8 = .ok (.ifCond .lt 21, 3) := by decide +kernel
theorem dX4_unitThatRan_11 : decode cX4_unitThatRan 11 = .ok (.iload_n 3, 1) := by decide +kernel
theorem dX4_unitThatRan_12 : decode cX4_unitThatRan 12 = .ok (.aload_n 0, 1) := by decide +kernel
theorem dX4_unitThatRan_13 : decode cX4_unitThatRan 13 = .ok (.getfield 9, 3) := by decide +kernel
theorem dX4_unitThatRan_16 : decode cX4_unitThatRan 16 = .ok (.arraylength, 1) := by decide +kernel
theorem dX4_unitThatRan_17 : decode cX4_unitThatRan 17 = .ok (.if_icmp .ge 12, 3) := by decide +kernel
theorem dX4_unitThatRan_20 : decode cX4_unitThatRan 20 = .ok (.aload_n 0, 1) := by decide +kernel
theorem dX4_unitThatRan_21 : decode cX4_unitThatRan 21 = .ok (.getfield 9, 3) := by decide +kernel
theorem dX4_unitThatRan_24 : decode cX4_unitThatRan 24 = .ok (.iload_n 3, 1) := by decide +kernel
theorem dX4_unitThatRan_25 : decode cX4_unitThatRan 25 = .ok (.iaload, 1) := by decide +kernel
theorem dX4_unitThatRan_26 : decode cX4_unitThatRan 26 = .ok (.goto 4, 3) := by decide +kernel
theorem dX4_unitThatRan_29 : decode cX4_unitThatRan 29 = .ok (.iconst (-1), 1) := by decide +kernel
theorem dX4_unitThatRan_30 : decode cX4_unitThatRan 30 = .ok (.ireturn, 1) := by decide +kernel
theorem dX4_timesThatRan_0 : decode cX4_timesThatRan 0 = .ok (.iconst 0, 1) := by decide +kernel
theorem dX4_timesThatRan_1 : decode cX4_timesThatRan 1 = .ok (.istore_n 3, 1) := by decide +kernel
theorem dX4_timesThatRan_2 : decode cX4_timesThatRan 2 = .ok (.iconst 0, 1) := by decide +kernel
theorem dX4_timesThatRan_3 : decode cX4_timesThatRan 3 = .ok (.istore 4, 2) := by decide +kernel
theorem dX4_timesThatRan_5 : decode cX4_timesThatRan 5 = .ok (.iload 4, 2) := by decide +kernel
theorem dX4_timesThatRan_7 : decode cX4_timesThatRan 7 = .ok (.sipush 200, 3) := by decide +kernel
theorem dX4_timesThatRan_10 : decode cX4_timesThatRan 10 = .ok (.if_icmp .ge 23, 3) := by decide +kernel
theorem dX4_timesThatRan_13 : decode cX4_timesThatRan 13 = .ok (.aload_n 0, 1) := by decide +kernel
theorem dX4_timesThatRan_14 : decode cX4_timesThatRan 14 = .ok (.iload_n 1, 1) := by decide +kernel
theorem dX4_timesThatRan_15 : decode cX4_timesThatRan 15 = .ok (.iload 4, 2) := by decide +kernel
theorem dX4_timesThatRan_17 : decode cX4_timesThatRan 17 = .ok (.invokevirtual 21, 3) := by decide +kernel
theorem dX4_timesThatRan_20 : decode cX4_timesThatRan 20 = .ok (.iload_n 2, 1) := by decide +kernel
theorem dX4_timesThatRan_21 : decode cX4_timesThatRan 21 = .ok (.if_icmp .ne 6, 3) := by decide +kernel
theorem dX4_timesThatRan_24 : decode cX4_timesThatRan 24 = .ok (.iinc 3 1, 3) := by decide +kernel
theorem dX4_timesThatRan_27 : decode cX4_timesThatRan 27 = .ok (.iinc 4 1, 3) := by decide +kernel
theorem dX4_timesThatRan_30 : decode cX4_timesThatRan 30 = .ok (.goto (-25), 3) := by decide +kernel
theorem dX4_timesThatRan_33 : decode cX4_timesThatRan 33 = .ok (.iload_n 3, 1) := by decide +kernel
theorem dX4_timesThatRan_34 : decode cX4_timesThatRan 34 = .ok (.ireturn, 1) := by decide +kernel
theorem dX5_init_0 : decode cX5_init 0 = .ok (.aload_n 0, 1) := by decide +kernel
theorem dX5_init_1 : decode cX5_init 1 = .ok (.invokespecial 3, 3) := by decide +kernel
theorem dX5_init_4 : decode cX5_init 4 = .ok (.aload_n 0, 1) := by decide +kernel
theorem dX5_init_5 : decode cX5_init 5 = .ok (.iconst (-1), 1) := by decide +kernel
theorem dX5_init_6 : decode cX5_init 6 = .ok (.putfield 9, 3) := by decide +kernel
theorem dX5_init_9 : decode cX5_init 9 = .ok (.aload_n 0, 1) := by decide +kernel
theorem dX5_init_10 : decode cX5_init 10 = .ok (.iconst 0, 1) := by decide +kernel
theorem dX5_init_11 : decode cX5_init 11 = .ok (.putfield 15, 3) := by decide +kernel
theorem dX5_init_14 : decode cX5_init 14 = .ok (.return_, 1) := by decide +kernel
theorem dX5_forbids_0 : decode cX5_forbids 0 = .ok (.aload_n 0, 1) := by decide +kernel
theorem dX5_forbids_1 : decode cX5_forbids 1 = .ok (.getfield 9, 3) := by decide +kernel
theorem dX5_forbids_4 : decode cX5_forbids 4 = .ok (.iconst (-1), 1) := by decide +kernel
theorem dX5_forbids_5 : decode cX5_forbids 5 = .ok (.if_icmp .eq 19, 3) := by decide +kernel
theorem dX5_forbids_8 : decode cX5_forbids 8 = .ok (.iload_n 1, 1) := by decide +kernel
theorem dX5_forbids_9 : decode cX5_forbids 9 = .ok (.aload_n 0, 1) := by decide +kernel
theorem dX5_forbids_10 : decode cX5_forbids 10 = .ok (.getfield 9, 3) := by decide +kernel
theorem dX5_forbids_13 : decode cX5_forbids 13 = .ok (.if_icmp .gt 11, 3) := by decide +kernel
theorem dX5_forbids_16 : decode cX5_forbids 16 = .ok (.iload_n 2, 1) := by decide +kernel
theorem dX5_forbids_17 : decode cX5_forbids 17 = .ok (.aload_n 0, 1) := by decide +kernel
theorem dX5_forbids_18 : decode cX5_forbids 18 = .ok (.getfield 15, 3) := by decide +kernel
theorem dX5_forbids_21 : decode cX5_forbids 21 = .ok (.if_icmp .le 7, 3) := by decide +kernel
theorem dX5_forbids_24 : decode cX5_forbids 24 = .ok (.iconst 1, 1) := by decide +kernel
theorem dX5_forbids_25 : decode cX5_forbids 25 = .ok (.goto 4, 3) := by decide +kernel
theorem dX5_forbids_28 : decode cX5_forbids 28 = .ok (.iconst 0, 1) := by decide +kernel
theorem dX5_forbids_29 : decode cX5_forbids 29 = .ok (.ireturn, 1) := by decide +kernel
theorem dX6_init_0 : decode cX6_init 0 = .ok (.aload_n 0, 1) := by decide +kernel
theorem dX6_init_1 : decode cX6_init 1 = .ok (.invokespecial 3, 3) := by decide +kernel
theorem dX6_init_4 : decode cX6_init 4 = .ok (.aload_n 0, 1) := by decide +kernel
theorem dX6_init_5 : decode cX6_init 5 = .ok (.bipush 6, 2) := by decide +kernel
theorem dX6_init_7 : decode cX6_init 7 = .ok (.newarray .int, 2) := by decide +kernel
theorem dX6_init_9 : decode cX6_init 9 = .ok (.putfield 9, 3) := by decide +kernel
theorem dX6_init_12 : decode cX6_init 12 = .ok (.aload_n 0, 1) := by decide +kernel
theorem dX6_init_13 : decode cX6_init 13 = .ok (.iconst 0, 1) := by decide +kernel
theorem dX6_init_14 : decode cX6_init 14 = .ok (.putfield 15, 3) := by decide +kernel
theorem dX6_init_17 : decode cX6_init 17 = .ok (.return_, 1) := by decide +kernel
theorem dX6_come_0 : decode cX6_come 0 = .ok (.aload_n 0, 1) := by decide +kernel
theorem dX6_come_1 : decode cX6_come 1 = .ok (.getfield 15, 3) := by decide +kernel
theorem dX6_come_4 : decode cX6_come 4 = .ok (.ifCond .lt 35, 3) := by decide +kernel
theorem dX6_come_7 : decode cX6_come 7 = .ok (.aload_n 0, 1) := by decide +kernel
theorem dX6_come_8 : decode cX6_come 8 = .ok (.getfield 15, 3) := by decide +kernel
theorem dX6_come_11 : decode cX6_come 11 = .ok (.aload_n 0, 1) := by decide +kernel
theorem dX6_come_12 : decode cX6_come 12 = .ok (.getfield 9, 3) := by decide +kernel
theorem dX6_come_15 : decode cX6_come 15 = .ok (.arraylength, 1) := by decide +kernel
theorem dX6_come_16 : decode cX6_come 16 = .ok (.if_icmp .ge 23, 3) := by decide +kernel
theorem dX6_come_19 : decode cX6_come 19 = .ok (.aload_n 0, 1) := by decide +kernel
theorem dX6_come_20 : decode cX6_come 20 = .ok (.getfield 9, 3) := by decide +kernel
theorem dX6_come_23 : decode cX6_come 23 = .ok (.aload_n 0, 1) := by decide +kernel
theorem dX6_come_24 : decode cX6_come 24 = .ok (.getfield 15, 3) := by decide +kernel
theorem dX6_come_27 : decode cX6_come 27 = .ok (.iload_n 1, 1) := by decide +kernel
theorem dX6_come_28 : decode cX6_come 28 = .ok (.iastore, 1) := by decide +kernel
theorem dX6_come_29 : decode cX6_come 29 = .ok (.aload_n 0, 1) := by decide +kernel
theorem dX6_come_30 : decode cX6_come 30 = .ok (.dup, 1) := by decide +kernel
theorem dX6_come_31 : decode cX6_come 31 = .ok (.getfield 15, 3) := by decide +kernel
theorem dX6_come_34 : decode cX6_come 34 = .ok (.iconst 1, 1) := by decide +kernel
theorem dX6_come_35 : decode cX6_come 35 = .ok (.iadd, 1) := by decide +kernel
theorem dX6_come_36 : decode cX6_come 36 = .ok (.putfield 15, 3) := by decide +kernel
theorem dX6_come_39 : decode cX6_come 39 = .ok (.return_, 1) := by decide +kernel
theorem dX6_leave_0 : decode cX6_leave 0 = .ok (.iconst 0, 1) := by decide +kernel
theorem dX6_leave_1 : decode cX6_leave 1 = .ok (.istore_n 2, 1) := by decide +kernel
theorem dX6_leave_2 : decode cX6_leave 2 = .ok (.iconst 0, 1) := by decide +kernel
theorem dX6_leave_3 : decode cX6_leave 3 = .ok (.istore_n 3, 1) := by decide +kernel
theorem dX6_leave_4 : decode cX6_leave 4 = .ok (.iload_n 3, 1) := by decide +kernel
theorem dX6_leave_5 : decode cX6_leave 5 = .ok (.aload_n 0, 1) := by decide +kernel
theorem dX6_leave_6 : decode cX6_leave 6 = .ok (.getfield 15, 3) := by decide +kernel
theorem dX6_leave_9 : decode cX6_leave 9 = .ok (.if_icmp .ge 52, 3) := by decide +kernel
theorem dX6_leave_12 : decode cX6_leave 12 = .ok (.iload_n 3, 1) := by decide +kernel
theorem dX6_leave_13 : decode cX6_leave 13 = .ok (.aload_n 0, 1) := by decide +kernel
theorem dX6_leave_14 : decode cX6_leave 14 = .ok (.getfield 9, 3) := by decide +kernel
theorem dX6_leave_17 : decode cX6_leave 17 = .ok (.arraylength, 1) := by decide +kernel
theorem dX6_leave_18 : decode cX6_leave 18 = .ok (.if_icmp .ge 43, 3) := by decide +kernel
theorem dX6_leave_21 : decode cX6_leave 21 = .ok (.aload_n 0, 1) := by decide +kernel
theorem dX6_leave_22 : decode cX6_leave 22 = .ok (.getfield 9, 3) := by decide +kernel
theorem dX6_leave_25 : decode cX6_leave 25 = .ok (.iload_n 3, 1) := by decide +kernel
theorem dX6_leave_26 : decode cX6_leave 26 = .ok (.iaload, 1) := by decide +kernel
theorem dX6_leave_27 : decode cX6_leave 27 = .ok (.istore 4, 2) := by decide +kernel
theorem dX6_leave_29 : decode cX6_leave 29 = .ok (.iload 4, 2) := by decide +kernel
theorem dX6_leave_31 : decode cX6_leave 31 = .ok (.iload_n 1, 1) := by decide +kernel
theorem dX6_leave_32 : decode cX6_leave 32 = .ok (.if_icmp .eq 23, 3) := by decide +kernel
theorem dX6_leave_35 : decode cX6_leave 35 = .ok (.iload_n 2, 1) := by decide +kernel
theorem dX6_leave_36 : decode cX6_leave 36 = .ok (.aload_n 0, 1) := by decide +kernel
theorem dX6_leave_37 : decode cX6_leave 37 = .ok (.getfield 9, 3) := by decide +kernel
theorem dX6_leave_40 : decode cX6_leave 40 = .ok (.arraylength, 1) := by decide +kernel
theorem dX6_leave_41 : decode cX6_leave 41 = .ok (.if_icmp .ge 14, 3) := by decide +kernel
theorem dX6_leave_44 : decode cX6_leave 44 = .ok (.aload_n 0, 1) := by decide +kernel
theorem dX6_leave_45 : decode cX6_leave 45 = .ok (.getfield 9, 3) := by decide +kernel
theorem dX6_leave_48 : decode cX6_leave 48 = .ok (.iload_n 2, 1) := by decide +kernel
theorem dX6_leave_49 : decode cX6_leave 49 = .ok (.iload 4, 2) := by decide +kernel
theorem dX6_leave_51 : decode cX6_leave 51 = .ok (.iastore, 1) := by decide +kernel
theorem dX6_leave_52 : decode cX6_leave 52 = .ok (.iinc 2 1, 3) := by decide +kernel
theorem dX6_leave_55 : decode cX6_leave 55 = .ok (.iinc 3 1, 3) := by decide +kernel
theorem dX6_leave_58 : decode cX6_leave 58 = .ok (.goto (-54), 3) := by decide +kernel
theorem dX6_leave_61 : decode cX6_leave 61 = .ok (.aload_n 0, 1) := by decide +kernel
theorem dX6_leave_62 : decode cX6_leave 62 = .ok (.iload_n 2, 1) := by decide +kernel
theorem dX6_leave_63 : decode cX6_leave 63 = .ok (.putfield 15, 3) := by decide +kernel
theorem dX6_leave_66 : decode cX6_leave 66 = .ok (.return_, 1) := by decide +kernel
theorem dX6_behind_0 : decode cX6_behind 0 = .ok (.iconst 0, 1) := by decide +kernel
theorem dX6_behind_1 : decode cX6_behind 1 = .ok (.istore_n 2, 1) := by decide +kernel
theorem dX6_behind_2 : decode cX6_behind 2 = .ok (.iload_n 2, 1) := by decide +kernel
theorem dX6_behind_3 : decode cX6_behind 3 = .ok (.aload_n 0, 1) := by decide +kernel
theorem dX6_behind_4 : decode cX6_behind 4 = .ok (.getfield 15, 3) := by decide +kernel
theorem dX6_behind_7 : decode cX6_behind 7 = .ok (.if_icmp .ge 37, 3) := by decide +kernel
theorem dX6_behind_10 : decode cX6_behind 10 = .ok (.iload_n 2, 1) := by decide +kernel
theorem dX6_behind_11 : decode cX6_behind 11 = .ok (.aload_n 0, 1) := by decide +kernel
theorem dX6_behind_12 : decode cX6_behind 12 = .ok (.getfield 9, 3) := by decide +kernel
theorem dX6_behind_15 : decode cX6_behind 15 = .ok (.arraylength, 1) := by decide +kernel
theorem dX6_behind_16 : decode cX6_behind 16 = .ok (.if_icmp .ge 28, 3) := by decide +kernel
theorem dX6_behind_19 : decode cX6_behind 19 = .ok (.aload_n 0, 1) := by decide +kernel
theorem dX6_behind_20 : decode cX6_behind 20 = .ok (.getfield 9, 3) := by decide +kernel
theorem dX6_behind_23 : decode cX6_behind 23 = .ok (.iload_n 2, 1) := by decide +kernel
theorem dX6_behind_24 : decode cX6_behind 24 = .ok (.iaload, 1) := by decide +kernel
theorem dX6_behind_25 : decode cX6_behind 25 = .ok (.iload_n 1, 1) := by decide +kernel
theorem dX6_behind_26 : decode cX6_behind 26 = .ok (.if_icmp .ne 12, 3) := by decide +kernel
theorem dX6_behind_29 : decode cX6_behind 29 = .ok (.aload_n 0, 1) := by decide +kernel
theorem dX6_behind_30 : decode cX6_behind 30 = .ok (.getfield 15, 3) := by decide +kernel
theorem dX6_behind_33 : decode cX6_behind 33 = .ok (.iconst 1, 1) := by decide +kernel
theorem dX6_behind_34 : decode cX6_behind 34 = .ok (.isub, 1) := by decide +kernel
theorem dX6_behind_35 : decode cX6_behind 35 = .ok (.iload_n 2, 1) := by decide +kernel
theorem dX6_behind_36 : decode cX6_behind 36 = .ok (.isub, 1) := by decide +kernel
theorem dX6_behind_37 : decode cX6_behind 37 = .ok (.ireturn, 1) := by decide +kernel
theorem dX6_behind_38 : decode cX6_behind 38 = .ok (.iinc 2 1, 3) := by decide +kernel
theorem dX6_behind_41 : decode cX6_behind 41 = .ok (.goto (-39), 3) := by decide +kernel
theorem dX6_behind_44 : decode cX6_behind 44 = .ok (.iconst 0, 1) := by decide +kernel
theorem dX6_behind_45 : decode cX6_behind 45 = .ok (.ireturn, 1) := by decide +kernel
theorem dX6_fromExit_0 : decode cX6_fromExit 0 = .ok (.aload_n 0, 1) := by decide +kernel
theorem dX6_fromExit_1 : decode cX6_fromExit 1 = .ok (.getfield 15, 3) := by decide +kernel
theorem dX6_fromExit_4 : decode cX6_fromExit 4 = .ok (.iconst 1, 1) := by decide +kernel
theorem dX6_fromExit_5 : decode cX6_fromExit 5 = .ok (.isub, 1) := by decide +kernel
theorem dX6_fromExit_6 : decode cX6_fromExit 6 = .ok (.iload_n 1, 1) := by decide +kernel
theorem dX6_fromExit_7 : decode cX6_fromExit 7 = .ok (.isub, 1) := by decide +kernel
theorem dX6_fromExit_8 : decode cX6_fromExit 8 = .ok (.istore_n 2, 1) := by decide +kernel
theorem dX6_fromExit_9 : decode cX6_fromExit 9 = .ok (.iload_n 2, 1) := by decide +kernel
theorem dX6_fromExit_10 : decode cX6_fromExit 10 = .ok (.ifCond .lt 21, 3) := by decide +kernel
theorem dX6_fromExit_13 : decode cX6_fromExit 13 = .ok (.iload_n 2, 1) := by decide +kernel
theorem dX6_fromExit_14 : decode cX6_fromExit 14 = .ok (.aload_n 0, 1) := by decide +kernel
theorem dX6_fromExit_15 : decode cX6_fromExit 15 = .ok (.getfield 9, 3) := by decide +kernel
theorem dX6_fromExit_18 : decode cX6_fromExit 18 = .ok (.arraylength, 1) := by decide +kernel
theorem dX6_fromExit_19 : decode cX6_fromExit 19 = .ok (.if_icmp .ge 12, 3) := by decide +kernel
theorem dX6_fromExit_22 : decode cX6_fromExit 22 = .ok (.aload_n 0, 1) := by decide +kernel
theorem dX6_fromExit_23 : decode cX6_fromExit 23 = .ok (.getfield 9, 3) := by decide +kernel
theorem dX6_fromExit_26 : decode cX6_fromExit 26 = .ok (.iload_n 2, 1) := by decide +kernel
theorem dX6_fromExit_27 : decode cX6_fromExit 27 = .ok (.iaload, 1) := by decide +kernel
theorem dX6_fromExit_28 : decode cX6_fromExit 28 = .ok (.goto 4, 3) := by decide +kernel
theorem dX6_fromExit_31 : decode cX6_fromExit 31 = .ok (.iconst (-1), 1) := by decide +kernel
theorem dX6_fromExit_32 : decode cX6_fromExit 32 = .ok (.ireturn, 1) := by decide +kernel
theorem dX7_init_0 : decode cX7_init 0 = .ok (.aload_n 0, 1) := by decide +kernel
theorem dX7_init_1 : decode cX7_init 1 = .ok (.invokespecial 3, 3) := by decide +kernel
theorem dX7_init_4 : decode cX7_init 4 = .ok (.aload_n 0, 1) := by decide +kernel
theorem dX7_init_5 : decode cX7_init 5 = .ok (.iconst 3, 1) := by decide +kernel
theorem dX7_init_6 : decode cX7_init 6 = .ok (.anewarray 9, 3) := by decide +kernel
theorem dX7_init_9 : decode cX7_init 9 = .ok (.dup, 1) := by decide +kernel
theorem dX7_init_10 : decode cX7_init 10 = .ok (.iconst 0, 1) := by decide +kernel
theorem dX7_init_11 : decode cX7_init 11 = .ok (.new 9, 3) := by decide +kernel
theorem dX7_init_14 : decode cX7_init 14 = .ok (.dup, 1) := by decide +kernel
theorem dX7_init_15 : decode cX7_init 15 = .ok (.sipush 1000, 3) := by decide +kernel
theorem dX7_init_18 : decode cX7_init 18 = .ok (.bipush 10, 2) := by decide +kernel
theorem dX7_init_20 : decode cX7_init 20 = .ok (.iconst 5, 1) := by decide +kernel
theorem dX7_init_21 : decode cX7_init 21 = .ok (.invokespecial 11, 3) := by decide +kernel
theorem dX7_init_24 : decode cX7_init 24 = .ok (.aastore, 1) := by decide +kernel
theorem dX7_init_25 : decode cX7_init 25 = .ok (.dup, 1) := by decide +kernel
theorem dX7_init_26 : decode cX7_init 26 = .ok (.iconst 1, 1) := by decide +kernel
theorem dX7_init_27 : decode cX7_init 27 = .ok (.new 9, 3) := by decide +kernel
theorem dX7_init_30 : decode cX7_init 30 = .ok (.dup, 1) := by decide +kernel
theorem dX7_init_31 : decode cX7_init 31 = .ok (.sipush 3000, 3) := by decide +kernel
theorem dX7_init_34 : decode cX7_init 34 = .ok (.bipush 10, 2) := by decide +kernel
theorem dX7_init_36 : decode cX7_init 36 = .ok (.bipush 20, 2) := by decide +kernel
theorem dX7_init_38 : decode cX7_init 38 = .ok (.invokespecial 11, 3) := by decide +kernel
theorem dX7_init_41 : decode cX7_init 41 = .ok (.aastore, 1) := by decide +kernel
theorem dX7_init_42 : decode cX7_init 42 = .ok (.dup, 1) := by decide +kernel
theorem dX7_init_43 : decode cX7_init 43 = .ok (.iconst 2, 1) := by decide +kernel
theorem dX7_init_44 : decode cX7_init 44 = .ok (.new 9, 3) := by decide +kernel
theorem dX7_init_47 : decode cX7_init 47 = .ok (.dup, 1) := by decide +kernel
theorem dX7_init_48 : decode cX7_init 48 = .ok (.sipush 9000, 3) := by decide +kernel
theorem dX7_init_51 : decode cX7_init 51 = .ok (.bipush 10, 2) := by decide +kernel
theorem dX7_init_53 : decode cX7_init 53 = .ok (.bipush 60, 2) := by decide +kernel
theorem dX7_init_55 : decode cX7_init 55 = .ok (.invokespecial 11, 3) := by decide +kernel
theorem dX7_init_58 : decode cX7_init 58 = .ok (.aastore, 1) := by decide +kernel
theorem dX7_init_59 : decode cX7_init 59 = .ok (.putfield 14, 3) := by decide +kernel
theorem dX7_init_62 : decode cX7_init 62 = .ok (.aload_n 0, 1) := by decide +kernel
theorem dX7_init_63 : decode cX7_init 63 = .ok (.iconst 4, 1) := by decide +kernel
theorem dX7_init_64 : decode cX7_init 64 = .ok (.anewarray 20, 3) := by decide +kernel
theorem dX7_init_67 : decode cX7_init 67 = .ok (.dup, 1) := by decide +kernel
theorem dX7_init_68 : decode cX7_init 68 = .ok (.iconst 0, 1) := by decide +kernel
theorem dX7_init_69 : decode cX7_init 69 = .ok (.new 20, 3) := by decide +kernel
theorem dX7_init_72 : decode cX7_init 72 = .ok (.dup, 1) := by decide +kernel
theorem dX7_init_73 : decode cX7_init 73 = .ok (.invokespecial 22, 3) := by decide +kernel
theorem dX7_init_76 : decode cX7_init 76 = .ok (.aastore, 1) := by decide +kernel
theorem dX7_init_77 : decode cX7_init 77 = .ok (.dup, 1) := by decide +kernel
theorem dX7_init_78 : decode cX7_init 78 = .ok (.iconst 1, 1) := by decide +kernel
theorem dX7_init_79 : decode cX7_init 79 = .ok (.new 20, 3) := by decide +kernel
theorem dX7_init_82 : decode cX7_init 82 = .ok (.dup, 1) := by decide +kernel
theorem dX7_init_83 : decode cX7_init 83 = .ok (.invokespecial 22, 3) := by decide +kernel
theorem dX7_init_86 : decode cX7_init 86 = .ok (.aastore, 1) := by decide +kernel
theorem dX7_init_87 : decode cX7_init 87 = .ok (.dup, 1) := by decide +kernel
theorem dX7_init_88 : decode cX7_init 88 = .ok (.iconst 2, 1) := by decide +kernel
theorem dX7_init_89 : decode cX7_init 89 = .ok (.new 20, 3) := by decide +kernel
theorem dX7_init_92 : decode cX7_init 92 = .ok (.dup, 1) := by decide +kernel
theorem dX7_init_93 : decode cX7_init 93 = .ok (.invokespecial 22, 3) := by decide +kernel
theorem dX7_init_96 : decode cX7_init 96 = .ok (.aastore, 1) := by decide +kernel
theorem dX7_init_97 : decode cX7_init 97 = .ok (.dup, 1) := by decide +kernel
theorem dX7_init_98 : decode cX7_init 98 = .ok (.iconst 3, 1) := by decide +kernel
theorem dX7_init_99 : decode cX7_init 99 = .ok (.new 20, 3) := by decide +kernel
theorem dX7_init_102 : decode cX7_init 102 = .ok (.dup, 1) := by decide +kernel
theorem dX7_init_103 : decode cX7_init 103 = .ok (.invokespecial 22, 3) := by decide +kernel
theorem dX7_init_106 : decode cX7_init 106 = .ok (.aastore, 1) := by decide +kernel
theorem dX7_init_107 : decode cX7_init 107 = .ok (.putfield 23, 3) := by decide +kernel
theorem dX7_init_110 : decode cX7_init 110 = .ok (.return_, 1) := by decide +kernel
theorem dX7_examAt_0 : decode cX7_examAt 0 = .ok (.iload_n 1, 1) := by decide +kernel
theorem dX7_examAt_1 : decode cX7_examAt 1 = .ok (.ifCond .lt 21, 3) := by decide +kernel
theorem dX7_examAt_4 : decode cX7_examAt 4 = .ok (.iload_n 1, 1) := by decide +kernel
theorem dX7_examAt_5 : decode cX7_examAt 5 = .ok (.aload_n 0, 1) := by decide +kernel
theorem dX7_examAt_6 : decode cX7_examAt 6 = .ok (.getfield 14, 3) := by decide +kernel
theorem dX7_examAt_9 : decode cX7_examAt 9 = .ok (.arraylength, 1) := by decide +kernel
theorem dX7_examAt_10 : decode cX7_examAt 10 = .ok (.if_icmp .ge 12, 3) := by decide +kernel
theorem dX7_examAt_13 : decode cX7_examAt 13 = .ok (.aload_n 0, 1) := by decide +kernel
theorem dX7_examAt_14 : decode cX7_examAt 14 = .ok (.getfield 14, 3) := by decide +kernel
theorem dX7_examAt_17 : decode cX7_examAt 17 = .ok (.iload_n 1, 1) := by decide +kernel
theorem dX7_examAt_18 : decode cX7_examAt 18 = .ok (.aaload, 1) := by decide +kernel
theorem dX7_examAt_19 : decode cX7_examAt 19 = .ok (.goto 4, 3) := by decide +kernel
theorem dX7_examAt_22 : decode cX7_examAt 22 = .ok (.aconst_null, 1) := by decide +kernel
theorem dX7_examAt_23 : decode cX7_examAt 23 = .ok (.astore_n 2, 1) := by decide +kernel
theorem dX7_examAt_24 : decode cX7_examAt 24 = .ok (.aload_n 2, 1) := by decide +kernel
theorem dX7_examAt_25 : decode cX7_examAt 25 = .ok (.ifnonnull 13, 3) := by decide +kernel
theorem dX7_examAt_28 : decode cX7_examAt 28 = .ok (.new 27, 3) := by decide +kernel
theorem dX7_examAt_31 : decode cX7_examAt 31 = .ok (.dup, 1) := by decide +kernel
theorem dX7_examAt_32 : decode cX7_examAt 32 = .ok (.ldc 29, 2) := by decide +kernel
theorem dX7_examAt_34 : decode cX7_examAt 34 = .ok (.invokespecial 31, 3) := by decide +kernel
theorem dX7_examAt_37 : decode cX7_examAt 37 = .ok (.athrow, 1) := by decide +kernel
theorem dX7_examAt_38 : decode cX7_examAt 38 = .ok (.aload_n 2, 1) := by decide +kernel
theorem dX7_examAt_39 : decode cX7_examAt 39 = .ok (.areturn, 1) := by decide +kernel
theorem dX7_permitAt_0 : decode cX7_permitAt 0 = .ok (.iload_n 1, 1) := by decide +kernel
theorem dX7_permitAt_1 : decode cX7_permitAt 1 = .ok (.ifCond .lt 21, 3) := by decide +kernel
theorem dX7_permitAt_4 : decode cX7_permitAt 4 = .ok (.iload_n 1, 1) := by decide +kernel
theorem dX7_permitAt_5 : decode cX7_permitAt 5 = .ok (.aload_n 0, 1) := by decide +kernel
theorem dX7_permitAt_6 : decode cX7_permitAt 6 = .ok (.getfield 23, 3) := by decide +kernel
theorem dX7_permitAt_9 : decode cX7_permitAt 9 = .ok (.arraylength, 1) := by decide +kernel
theorem dX7_permitAt_10 : decode cX7_permitAt 10 = .ok (.if_icmp .ge 12, 3) := by decide +kernel
theorem dX7_permitAt_13 : decode cX7_permitAt 13 = .ok (.aload_n 0, 1) := by decide +kernel
theorem dX7_permitAt_14 : decode cX7_permitAt 14 = .ok (.getfield 23, 3) := by decide +kernel
theorem dX7_permitAt_17 : decode cX7_permitAt 17 = .ok (.iload_n 1, 1) := by decide +kernel
theorem dX7_permitAt_18 : decode cX7_permitAt 18 = .ok (.aaload, 1) := by decide +kernel
theorem dX7_permitAt_19 : decode cX7_permitAt 19 = .ok (.goto 4, 3) := by decide +kernel
theorem dX7_permitAt_22 : decode cX7_permitAt 22 = .ok (.aconst_null, 1) := by decide +kernel
theorem dX7_permitAt_23 : decode cX7_permitAt 23 = .ok (.astore_n 2, 1) := by decide +kernel
theorem dX7_permitAt_24 : decode cX7_permitAt 24 = .ok (.aload_n 2, 1) := by decide +kernel
theorem dX7_permitAt_25 : decode cX7_permitAt 25 = .ok (.ifnonnull 13, 3) := by decide +kernel
theorem dX7_permitAt_28 : decode cX7_permitAt 28 = .ok (.new 27, 3) := by decide +kernel
theorem dX7_permitAt_31 : decode cX7_permitAt 31 = .ok (.dup, 1) := by decide +kernel
theorem dX7_permitAt_32 : decode cX7_permitAt 32 = .ok (.ldc 34, 2) := by decide +kernel
theorem dX7_permitAt_34 : decode cX7_permitAt 34 = .ok (.invokespecial 31, 3) := by decide +kernel
theorem dX7_permitAt_37 : decode cX7_permitAt 37 = .ok (.athrow, 1) := by decide +kernel
theorem dX7_permitAt_38 : decode cX7_permitAt 38 = .ok (.aload_n 2, 1) := by decide +kernel
theorem dX7_permitAt_39 : decode cX7_permitAt 39 = .ok (.areturn, 1) := by decide +kernel
theorem dX7_reasonAgainst_0 : decode cX7_reasonAgainst 0 = .ok (.aload_n 1, 1) := by decide +kernel
theorem dX7_reasonAgainst_1 : decode cX7_reasonAgainst 1 = .ok (.getfield 36, 3) := by decide +kernel
theorem dX7_reasonAgainst_4 : decode cX7_reasonAgainst 4 = .ok (.aload_n 2, 1) := by decide +kernel
theorem dX7_reasonAgainst_5 : decode cX7_reasonAgainst 5 = .ok (.getfield 42, 3) := by decide +kernel
theorem dX7_reasonAgainst_8 : decode cX7_reasonAgainst 8 = .ok (.if_icmp .eq 5, 3) := by decide +kernel
theorem dX7_reasonAgainst_11 : decode cX7_reasonAgainst 11 = .ok (.iconst 1, 1) := by decide +kernel
theorem dX7_reasonAgainst_12 : decode cX7_reasonAgainst 12 = .ok (.ireturn, 1) := by decide +kernel
theorem dX7_reasonAgainst_13 : decode cX7_reasonAgainst 13 = .ok (.aload_n 0, 1) := by decide +kernel
theorem dX7_reasonAgainst_14 : decode cX7_reasonAgainst 14 = .ok (.aload_n 1, 1) := by decide +kernel
theorem dX7_reasonAgainst_15 : decode cX7_reasonAgainst 15 = .ok (.aload_n 2, 1) := by decide +kernel
theorem dX7_reasonAgainst_16 : decode cX7_reasonAgainst 16 = .ok (.getfield 47, 3) := by decide +kernel
theorem dX7_reasonAgainst_19 : decode cX7_reasonAgainst 19 = .ok (.invokevirtual 50, 3) := by decide +kernel
theorem dX7_reasonAgainst_22 : decode cX7_reasonAgainst 22 = .ok (.ifCond .eq 5, 3) := by decide +kernel
theorem dX7_reasonAgainst_25 : decode cX7_reasonAgainst 25 = .ok (.iconst 2, 1) := by decide +kernel
theorem dX7_reasonAgainst_26 : decode cX7_reasonAgainst 26 = .ok (.ireturn, 1) := by decide +kernel
theorem dX7_reasonAgainst_27 : decode cX7_reasonAgainst 27 = .ok (.aload_n 0, 1) := by decide +kernel
theorem dX7_reasonAgainst_28 : decode cX7_reasonAgainst 28 = .ok (.aload_n 1, 1) := by decide +kernel
theorem dX7_reasonAgainst_29 : decode cX7_reasonAgainst 29 = .ok (.aload_n 2, 1) := by decide +kernel
theorem dX7_reasonAgainst_30 : decode cX7_reasonAgainst 30 = .ok (.getfield 54, 3) := by decide +kernel
theorem dX7_reasonAgainst_33 : decode cX7_reasonAgainst 33 = .ok (.iload_n 3, 1) := by decide +kernel
theorem dX7_reasonAgainst_34 : decode cX7_reasonAgainst 34 = .ok (.invokevirtual 57, 3) := by decide +kernel
theorem dX7_reasonAgainst_37 : decode cX7_reasonAgainst 37 = .ok (.ifCond .eq 5, 3) := by decide +kernel
theorem dX7_reasonAgainst_40 : decode cX7_reasonAgainst 40 = .ok (.iconst 3, 1) := by decide +kernel
theorem dX7_reasonAgainst_41 : decode cX7_reasonAgainst 41 = .ok (.ireturn, 1) := by decide +kernel
theorem dX7_reasonAgainst_42 : decode cX7_reasonAgainst 42 = .ok (.aload_n 1, 1) := by decide +kernel
theorem dX7_reasonAgainst_43 : decode cX7_reasonAgainst 43 = .ok (.invokestatic 61, 3) := by decide +kernel
theorem dX7_reasonAgainst_46 : decode cX7_reasonAgainst 46 = .ok (.ifCond .eq 5, 3) := by decide +kernel
theorem dX7_reasonAgainst_49 : decode cX7_reasonAgainst 49 = .ok (.iconst 4, 1) := by decide +kernel
theorem dX7_reasonAgainst_50 : decode cX7_reasonAgainst 50 = .ok (.ireturn, 1) := by decide +kernel
theorem dX7_reasonAgainst_51 : decode cX7_reasonAgainst 51 = .ok (.aload_n 1, 1) := by decide +kernel
theorem dX7_reasonAgainst_52 : decode cX7_reasonAgainst 52 = .ok (.invokestatic 65, 3) := by decide +kernel
theorem dX7_reasonAgainst_55 : decode cX7_reasonAgainst 55 = .ok (.ifCond .eq 7, 3) := by decide +kernel
theorem dX7_reasonAgainst_58 : decode cX7_reasonAgainst 58 = .ok (.iconst 5, 1) := by decide +kernel
theorem dX7_reasonAgainst_59 : decode cX7_reasonAgainst 59 = .ok (.goto 4, 3) := by decide +kernel
theorem dX7_reasonAgainst_62 : decode cX7_reasonAgainst 62 = .ok (.iconst 0, 1) := by decide +kernel
theorem dX7_reasonAgainst_63 : decode cX7_reasonAgainst 63 = .ok (.ireturn, 1) := by decide +kernel
theorem dX7_isSoon_0 : decode cX7_isSoon 0 = .ok (.iconst 0, 1) := by decide +kernel
theorem dX7_isSoon_1 : decode cX7_isSoon 1 = .ok (.istore_n 2, 1) := by decide +kernel
theorem dX7_isSoon_2 : decode cX7_isSoon 2 = .ok (.iload_n 2, 1) := by decide +kernel
theorem dX7_isSoon_3 : decode cX7_isSoon 3 = .ok (.aload_n 0, 1) := by decide +kernel
theorem dX7_isSoon_4 : decode cX7_isSoon 4 = .ok (.getfield 14, 3) := by decide +kernel
theorem dX7_isSoon_7 : decode cX7_isSoon 7 = .ok (.arraylength, 1) := by decide +kernel
theorem dX7_isSoon_8 : decode cX7_isSoon 8 = .ok (.if_icmp .ge 27, 3) := by decide +kernel
theorem dX7_isSoon_11 : decode cX7_isSoon 11 = .ok (.aload_n 0, 1) := by decide +kernel
theorem dX7_isSoon_12 : decode cX7_isSoon 12 = .ok (.iload_n 2, 1) := by decide +kernel
theorem dX7_isSoon_13 : decode cX7_isSoon 13 = .ok (.invokevirtual 68, 3) := by decide +kernel
theorem dX7_isSoon_16 : decode cX7_isSoon 16 = .ok (.aload_n 1, 1) := by decide +kernel
theorem dX7_isSoon_17 : decode cX7_isSoon 17 = .ok (.iload_n 2, 1) := by decide +kernel
theorem dX7_isSoon_18 : decode cX7_isSoon 18 = .ok (.invokevirtual 72, 3) := by decide +kernel
theorem dX7_isSoon_21 : decode cX7_isSoon 21 = .ok (.invokevirtual 76, 3) := by decide +kernel
theorem dX7_isSoon_24 : decode cX7_isSoon 24 = .ok (.ifCond .eq 5, 3) := by decide +kernel
theorem dX7_isSoon_27 : decode cX7_isSoon 27 = .ok (.iconst 1, 1) := by decide +kernel
theorem dX7_isSoon_28 : decode cX7_isSoon 28 = .ok (.ireturn, 1) := by decide +kernel
theorem dX7_isSoon_29 : decode cX7_isSoon 29 = .ok (.iinc 2 1, 3) := by decide +kernel
theorem dX7_isSoon_32 : decode cX7_isSoon 32 = .ok (.goto (-30), 3) := by decide +kernel
theorem dX7_isSoon_35 : decode cX7_isSoon 35 = .ok (.iconst 0, 1) := by decide +kernel
theorem dX7_isSoon_36 : decode cX7_isSoon 36 = .ok (.ireturn, 1) := by decide +kernel
theorem dX7_overdueBits_0 : decode cX7_overdueBits 0 = .ok (.aload_n 0, 1) := by decide +kernel
theorem dX7_overdueBits_1 : decode cX7_overdueBits 1 = .ok (.aload_n 1, 1) := by decide +kernel
theorem dX7_overdueBits_2 : decode cX7_overdueBits 2 = .ok (.iconst 0, 1) := by decide +kernel
theorem dX7_overdueBits_3 : decode cX7_overdueBits 3 = .ok (.invokevirtual 50, 3) := by decide +kernel
theorem dX7_overdueBits_6 : decode cX7_overdueBits 6 = .ok (.ireturn, 1) := by decide +kernel
theorem dX7_overdueBitsBehind_0 : decode cX7_overdueBitsBehind 0 = .ok (.iconst 0, 1) := by decide +kernel
theorem dX7_overdueBitsBehind_1 : decode cX7_overdueBitsBehind 1 = .ok (.istore_n 3, 1) := by decide +kernel
theorem dX7_overdueBitsBehind_2 : decode cX7_overdueBitsBehind 2 = .ok (.iconst 0, 1) := by decide +kernel
theorem dX7_overdueBitsBehind_3 : decode cX7_overdueBitsBehind 3 = .ok (.istore 4, 2) := by decide +kernel
theorem dX7_overdueBitsBehind_5 : decode cX7_overdueBitsBehind 5 = .ok (.iload 4, 2) := by decide +kernel
theorem dX7_overdueBitsBehind_7 : decode cX7_overdueBitsBehind 7 = .ok (.aload_n 0, 1) := by decide +kernel
theorem dX7_overdueBitsBehind_8 : decode cX7_overdueBitsBehind 8 = .ok (.getfield 14, 3) := by decide +kernel
theorem dX7_overdueBitsBehind_11 : decode cX7_overdueBitsBehind 11 = .ok (.arraylength, 1) := by decide +kernel
theorem dX7_overdueBitsBehind_12 : decode cX7_overdueBitsBehind 12 = .ok (.if_icmp .ge 42, 3) := by decide +kernel
theorem dX7_overdueBitsBehind_15 : decode cX7_overdueBitsBehind 15 = .ok (.aload_n 0, 1) := by decide +kernel
theorem dX7_overdueBitsBehind_16 : decode cX7_overdueBitsBehind 16 = .ok (.iload 4, 2) := by decide +kernel
theorem dX7_overdueBitsBehind_18 : decode cX7_overdueBitsBehind 18 = .ok (.invokevirtual 68, 3) := by decide +kernel
theorem dX7_overdueBitsBehind_21 : decode cX7_overdueBitsBehind 21 = .ok (.aload_n 1, 1) := by decide +kernel
theorem dX7_overdueBitsBehind_22 : decode cX7_overdueBitsBehind 22 = .ok (.iload 4, 2) := by decide +kernel
theorem dX7_overdueBitsBehind_24 : decode cX7_overdueBitsBehind 24 = .ok (.invokevirtual 72, 3) := by decide +kernel
theorem dX7_overdueBitsBehind_27 : decode cX7_overdueBitsBehind 27 = .ok (.iload_n 2, 1) := by decide +kernel
theorem dX7_overdueBitsBehind_28 : decode cX7_overdueBitsBehind 28 = .ok (.iadd, 1) := by decide +kernel
theorem dX7_overdueBitsBehind_29 : decode cX7_overdueBitsBehind 29 = .ok (.aload_n 1, 1) := by decide +kernel
theorem dX7_overdueBitsBehind_30 : decode cX7_overdueBitsBehind 30 = .ok (.iload 4, 2) := by decide +kernel
theorem dX7_overdueBitsBehind_32 : decode cX7_overdueBitsBehind 32 = .ok (.invokevirtual 80, 3) := by decide +kernel
theorem dX7_overdueBitsBehind_35 : decode cX7_overdueBitsBehind 35 = .ok (.invokevirtual 83, 3) := by decide +kernel
theorem dX7_overdueBitsBehind_38 : decode cX7_overdueBitsBehind 38 = .ok (.ifCond .eq 10, 3) := by decide +kernel
theorem dX7_overdueBitsBehind_41 : decode cX7_overdueBitsBehind 41 = .ok (.iload_n 3, 1) := by decide +kernel
theorem dX7_overdueBitsBehind_42 : decode cX7_overdueBitsBehind 42 = .ok (.iconst 1, 1) := by decide +kernel
theorem dX7_overdueBitsBehind_43 : decode cX7_overdueBitsBehind 43 = .ok (.iload 4, 2) := by decide +kernel
theorem dX7_overdueBitsBehind_45 : decode cX7_overdueBitsBehind 45 = .ok (.ishl, 1) := by decide +kernel
theorem dX7_overdueBitsBehind_46 : decode cX7_overdueBitsBehind 46 = .ok (.ior, 1) := by decide +kernel
theorem dX7_overdueBitsBehind_47 : decode cX7_overdueBitsBehind 47 = .ok (.istore_n 3, 1) := by decide +kernel
theorem dX7_overdueBitsBehind_48 : decode cX7_overdueBitsBehind 48 = .ok (.iinc 4 1, 3) := by decide +kernel
theorem dX7_overdueBitsBehind_51 : decode cX7_overdueBitsBehind 51 = .ok (.goto (-46), 3) := by decide +kernel
theorem dX7_overdueBitsBehind_54 : decode cX7_overdueBitsBehind 54 = .ok (.iload_n 3, 1) := by decide +kernel
theorem dX7_overdueBitsBehind_55 : decode cX7_overdueBitsBehind 55 = .ok (.ireturn, 1) := by decide +kernel
theorem dX7_listForbids_0 : decode cX7_listForbids 0 = .ok (.iconst 0, 1) := by decide +kernel
theorem dX7_listForbids_1 : decode cX7_listForbids 1 = .ok (.istore 4, 2) := by decide +kernel
theorem dX7_listForbids_3 : decode cX7_listForbids 3 = .ok (.iload 4, 2) := by decide +kernel
theorem dX7_listForbids_5 : decode cX7_listForbids 5 = .ok (.aload_n 1, 1) := by decide +kernel
theorem dX7_listForbids_6 : decode cX7_listForbids 6 = .ok (.getfield 87, 3) := by decide +kernel
theorem dX7_listForbids_9 : decode cX7_listForbids 9 = .ok (.invokevirtual 91, 3) := by decide +kernel
theorem dX7_listForbids_12 : decode cX7_listForbids 12 = .ok (.if_icmp .ge 42, 3) := by decide +kernel
theorem dX7_listForbids_15 : decode cX7_listForbids 15 = .ok (.aload_n 1, 1) := by decide +kernel
theorem dX7_listForbids_16 : decode cX7_listForbids 16 = .ok (.iload 4, 2) := by decide +kernel
theorem dX7_listForbids_18 : decode cX7_listForbids 18 = .ok (.invokevirtual 97, 3) := by decide +kernel
theorem dX7_listForbids_21 : decode cX7_listForbids 21 = .ok (.astore 5, 2) := by decide +kernel
theorem dX7_listForbids_23 : decode cX7_listForbids 23 = .ok (.aload_n 0, 1) := by decide +kernel
theorem dX7_listForbids_24 : decode cX7_listForbids 24 = .ok (.aload 5, 2) := by decide +kernel
theorem dX7_listForbids_26 : decode cX7_listForbids 26 = .ok (.getfield 101, 3) := by decide +kernel
theorem dX7_listForbids_29 : decode cX7_listForbids 29 = .ok (.invokevirtual 106, 3) := by decide +kernel
theorem dX7_listForbids_32 : decode cX7_listForbids 32 = .ok (.iload_n 3, 1) := by decide +kernel
theorem dX7_listForbids_33 : decode cX7_listForbids 33 = .ok (.aload 5, 2) := by decide +kernel
theorem dX7_listForbids_35 : decode cX7_listForbids 35 = .ok (.getfield 110, 3) := by decide +kernel
theorem dX7_listForbids_38 : decode cX7_listForbids 38 = .ok (.isub, 1) := by decide +kernel
theorem dX7_listForbids_39 : decode cX7_listForbids 39 = .ok (.iload_n 2, 1) := by decide +kernel
theorem dX7_listForbids_40 : decode cX7_listForbids 40 = .ok (.invokevirtual 113, 3) := by decide +kernel
theorem dX7_listForbids_43 : decode cX7_listForbids 43 = .ok (.ifCond .eq 5, 3) := by decide +kernel
theorem dX7_listForbids_46 : decode cX7_listForbids 46 = .ok (.iconst 1, 1) := by decide +kernel
theorem dX7_listForbids_47 : decode cX7_listForbids 47 = .ok (.ireturn, 1) := by decide +kernel
theorem dX7_listForbids_48 : decode cX7_listForbids 48 = .ok (.iinc 4 1, 3) := by decide +kernel
theorem dX7_listForbids_51 : decode cX7_listForbids 51 = .ok (.goto (-48), 3) := by decide +kernel
theorem dX7_listForbids_54 : decode cX7_listForbids 54 = .ok (.iconst 0, 1) := by decide +kernel
theorem dX7_listForbids_55 : decode cX7_listForbids 55 = .ok (.ireturn, 1) := by decide +kernel
theorem dX7_faultsAreGrave_0 : decode cX7_faultsAreGrave 0 = .ok (.iconst 0, 1) := by decide +kernel
theorem dX7_faultsAreGrave_1 : decode cX7_faultsAreGrave 1 = .ok (.istore_n 1, 1) := by decide +kernel
theorem dX7_faultsAreGrave_2 : decode cX7_faultsAreGrave 2 = .ok (.iconst 0, 1) := by decide +kernel
theorem dX7_faultsAreGrave_3 : decode cX7_faultsAreGrave 3 = .ok (.istore_n 2, 1) := by decide +kernel
theorem dX7_faultsAreGrave_4 : decode cX7_faultsAreGrave 4 = .ok (.iload_n 2, 1) := by decide +kernel
theorem dX7_faultsAreGrave_5 : decode cX7_faultsAreGrave 5 = .ok (.aload_n 0, 1) := by decide +kernel
theorem dX7_faultsAreGrave_6 : decode cX7_faultsAreGrave 6 = .ok (.getfield 87, 3) := by decide +kernel
theorem dX7_faultsAreGrave_9 : decode cX7_faultsAreGrave 9 = .ok (.invokevirtual 91, 3) := by decide +kernel
theorem dX7_faultsAreGrave_12 : decode cX7_faultsAreGrave 12 = .ok (.if_icmp .ge 35, 3) := by decide +kernel
theorem dX7_faultsAreGrave_15 : decode cX7_faultsAreGrave 15 = .ok (.aload_n 0, 1) := by decide +kernel
theorem dX7_faultsAreGrave_16 : decode cX7_faultsAreGrave 16 = .ok (.iload_n 2, 1) := by decide +kernel
theorem dX7_faultsAreGrave_17 : decode cX7_faultsAreGrave 17 = .ok (.invokevirtual 97, 3) := by decide +kernel
theorem dX7_faultsAreGrave_20 : decode cX7_faultsAreGrave 20 = .ok (.astore_n 3, 1) := by decide +kernel
theorem dX7_faultsAreGrave_21 : decode cX7_faultsAreGrave 21 = .ok (.aload_n 3, 1) := by decide +kernel
theorem dX7_faultsAreGrave_22 : decode cX7_faultsAreGrave 22 = .ok (.invokevirtual 116, 3) := by decide +kernel
theorem dX7_faultsAreGrave_25 : decode cX7_faultsAreGrave 25 = .ok (.ifCond .eq 5, 3) := by decide +kernel
theorem dX7_faultsAreGrave_28 : decode cX7_faultsAreGrave 28 = .ok (.iconst 1, 1) := by decide +kernel
theorem dX7_faultsAreGrave_29 : decode cX7_faultsAreGrave 29 = .ok (.ireturn, 1) := by decide +kernel
theorem dX7_faultsAreGrave_30 : decode cX7_faultsAreGrave 30 = .ok (.aload_n 3, 1) := by decide +kernel
theorem dX7_faultsAreGrave_31 : decode cX7_faultsAreGrave 31 = .ok (.getfield 101, 3) := by decide +kernel
theorem dX7_faultsAreGrave_34 : decode cX7_faultsAreGrave 34 = .ok (.iconst 1, 1) := by decide +kernel
theorem dX7_faultsAreGrave_35 : decode cX7_faultsAreGrave 35 = .ok (.if_icmp .ne 6, 3) := by decide +kernel
theorem dX7_faultsAreGrave_38 : decode cX7_faultsAreGrave 38 = .ok (.iinc 1 1, 3) := by decide +kernel
theorem dX7_faultsAreGrave_41 : decode cX7_faultsAreGrave 41 = .ok (.iinc 2 1, 3) := by decide +kernel
theorem dX7_faultsAreGrave_44 : decode cX7_faultsAreGrave 44 = .ok (.goto (-40), 3) := by decide +kernel
theorem dX7_faultsAreGrave_47 : decode cX7_faultsAreGrave 47 = .ok (.iload_n 1, 1) := by decide +kernel
theorem dX7_faultsAreGrave_48 : decode cX7_faultsAreGrave 48 = .ok (.iconst 2, 1) := by decide +kernel
theorem dX7_faultsAreGrave_49 : decode cX7_faultsAreGrave 49 = .ok (.if_icmp .lt 7, 3) := by decide +kernel
theorem dX7_faultsAreGrave_52 : decode cX7_faultsAreGrave 52 = .ok (.iconst 1, 1) := by decide +kernel
theorem dX7_faultsAreGrave_53 : decode cX7_faultsAreGrave 53 = .ok (.goto 4, 3) := by decide +kernel
theorem dX7_faultsAreGrave_56 : decode cX7_faultsAreGrave 56 = .ok (.iconst 0, 1) := by decide +kernel
theorem dX7_faultsAreGrave_57 : decode cX7_faultsAreGrave 57 = .ok (.ireturn, 1) := by decide +kernel
theorem dX7_axlesAreBad_0 : decode cX7_axlesAreBad 0 = .ok (.aload_n 0, 1) := by decide +kernel
theorem dX7_axlesAreBad_1 : decode cX7_axlesAreBad 1 = .ok (.invokevirtual 120, 3) := by decide +kernel
theorem dX7_axlesAreBad_4 : decode cX7_axlesAreBad 4 = .ok (.istore_n 1, 1) := by decide +kernel
theorem dX7_axlesAreBad_5 : decode cX7_axlesAreBad 5 = .ok (.aload_n 0, 1) := by decide +kernel
theorem dX7_axlesAreBad_6 : decode cX7_axlesAreBad 6 = .ok (.invokevirtual 123, 3) := by decide +kernel
theorem dX7_axlesAreBad_9 : decode cX7_axlesAreBad 9 = .ok (.iload_n 1, 1) := by decide +kernel
theorem dX7_axlesAreBad_10 : decode cX7_axlesAreBad 10 = .ok (.isub, 1) := by decide +kernel
theorem dX7_axlesAreBad_11 : decode cX7_axlesAreBad 11 = .ok (.bipush 6, 2) := by decide +kernel
theorem dX7_axlesAreBad_13 : decode cX7_axlesAreBad 13 = .ok (.if_icmp .gt 10, 3) := by decide +kernel
theorem dX7_axlesAreBad_16 : decode cX7_axlesAreBad 16 = .ok (.iload_n 1, 1) := by decide +kernel
theorem dX7_axlesAreBad_17 : decode cX7_axlesAreBad 17 = .ok (.sipush 800, 3) := by decide +kernel
theorem dX7_axlesAreBad_20 : decode cX7_axlesAreBad 20 = .ok (.if_icmp .ge 7, 3) := by decide +kernel
theorem dX7_axlesAreBad_23 : decode cX7_axlesAreBad 23 = .ok (.iconst 1, 1) := by decide +kernel
theorem dX7_axlesAreBad_24 : decode cX7_axlesAreBad 24 = .ok (.goto 4, 3) := by decide +kernel
theorem dX7_axlesAreBad_27 : decode cX7_axlesAreBad 27 = .ok (.iconst 0, 1) := by decide +kernel
theorem dX7_axlesAreBad_28 : decode cX7_axlesAreBad 28 = .ok (.ireturn, 1) := by decide +kernel
theorem dX8_init_0 : decode cX8_init 0 = .ok (.aload_n 0, 1) := by decide +kernel
theorem dX8_init_1 : decode cX8_init 1 = .ok (.invokespecial 3, 3) := by decide +kernel
theorem dX8_init_4 : decode cX8_init 4 = .ok (.aload_n 0, 1) := by decide +kernel
theorem dX8_init_5 : decode cX8_init 5 = .ok (.new 9, 3) := by decide +kernel
theorem dX8_init_8 : decode cX8_init 8 = .ok (.dup, 1) := by decide +kernel
theorem dX8_init_9 : decode cX8_init 9 = .ok (.invokespecial 11, 3) := by decide +kernel
theorem dX8_init_12 : decode cX8_init 12 = .ok (.putfield 12, 3) := by decide +kernel
theorem dX8_init_15 : decode cX8_init 15 = .ok (.aload_n 0, 1) := by decide +kernel
theorem dX8_init_16 : decode cX8_init 16 = .ok (.iconst 3, 1) := by decide +kernel
theorem dX8_init_17 : decode cX8_init 17 = .ok (.newarray .int, 2) := by decide +kernel
theorem dX8_init_19 : decode cX8_init 19 = .ok (.putfield 18, 3) := by decide +kernel
theorem dX8_init_22 : decode cX8_init 22 = .ok (.aload_n 0, 1) := by decide +kernel
theorem dX8_init_23 : decode cX8_init 23 = .ok (.iconst 3, 1) := by decide +kernel
theorem dX8_init_24 : decode cX8_init 24 = .ok (.newarray .int, 2) := by decide +kernel
theorem dX8_init_26 : decode cX8_init 26 = .ok (.putfield 22, 3) := by decide +kernel
theorem dX8_init_29 : decode cX8_init 29 = .ok (.aload_n 0, 1) := by decide +kernel
theorem dX8_init_30 : decode cX8_init 30 = .ok (.iconst 4, 1) := by decide +kernel
theorem dX8_init_31 : decode cX8_init 31 = .ok (.newarray .int, 2) := by decide +kernel
theorem dX8_init_33 : decode cX8_init 33 = .ok (.putfield 25, 3) := by decide +kernel
theorem dX8_init_36 : decode cX8_init 36 = .ok (.aload_n 0, 1) := by decide +kernel
theorem dX8_init_37 : decode cX8_init 37 = .ok (.iload_n 1, 1) := by decide +kernel
theorem dX8_init_38 : decode cX8_init 38 = .ok (.putfield 28, 3) := by decide +kernel
theorem dX8_init_41 : decode cX8_init 41 = .ok (.aload_n 0, 1) := by decide +kernel
theorem dX8_init_42 : decode cX8_init 42 = .ok (.iload_n 2, 1) := by decide +kernel
theorem dX8_init_43 : decode cX8_init 43 = .ok (.putfield 32, 3) := by decide +kernel
theorem dX8_init_46 : decode cX8_init 46 = .ok (.aload_n 0, 1) := by decide +kernel
theorem dX8_init_47 : decode cX8_init 47 = .ok (.iload_n 2, 1) := by decide +kernel
theorem dX8_init_48 : decode cX8_init 48 = .ok (.putfield 35, 3) := by decide +kernel
theorem dX8_init_51 : decode cX8_init 51 = .ok (.aload_n 0, 1) := by decide +kernel
theorem dX8_init_52 : decode cX8_init 52 = .ok (.getfield 25, 3) := by decide +kernel
theorem dX8_init_55 : decode cX8_init 55 = .ok (.sipush 900, 3) := by decide +kernel
theorem dX8_init_58 : decode cX8_init 58 = .ok (.invokestatic 38, 3) := by decide +kernel
theorem dX8_init_61 : decode cX8_init 61 = .ok (.return_, 1) := by decide +kernel
theorem dX8_kmSince_0 : decode cX8_kmSince 0 = .ok (.iload_n 1, 1) := by decide +kernel
theorem dX8_kmSince_1 : decode cX8_kmSince 1 = .ok (.ifCond .lt 21, 3) := by decide +kernel
theorem dX8_kmSince_4 : decode cX8_kmSince 4 = .ok (.iload_n 1, 1) := by decide +kernel
theorem dX8_kmSince_5 : decode cX8_kmSince 5 = .ok (.aload_n 0, 1) := by decide +kernel
theorem dX8_kmSince_6 : decode cX8_kmSince 6 = .ok (.getfield 18, 3) := by decide +kernel
theorem dX8_kmSince_9 : decode cX8_kmSince 9 = .ok (.arraylength, 1) := by decide +kernel
theorem dX8_kmSince_10 : decode cX8_kmSince 10 = .ok (.if_icmp .ge 12, 3) := by decide +kernel
theorem dX8_kmSince_13 : decode cX8_kmSince 13 = .ok (.aload_n 0, 1) := by decide +kernel
theorem dX8_kmSince_14 : decode cX8_kmSince 14 = .ok (.getfield 18, 3) := by decide +kernel
theorem dX8_kmSince_17 : decode cX8_kmSince 17 = .ok (.iload_n 1, 1) := by decide +kernel
theorem dX8_kmSince_18 : decode cX8_kmSince 18 = .ok (.iaload, 1) := by decide +kernel
theorem dX8_kmSince_19 : decode cX8_kmSince 19 = .ok (.goto 4, 3) := by decide +kernel
theorem dX8_kmSince_22 : decode cX8_kmSince 22 = .ok (.iconst 0, 1) := by decide +kernel
theorem dX8_kmSince_23 : decode cX8_kmSince 23 = .ok (.ireturn, 1) := by decide +kernel
theorem dX8_daysSince_0 : decode cX8_daysSince 0 = .ok (.iload_n 1, 1) := by decide +kernel
theorem dX8_daysSince_1 : decode cX8_daysSince 1 = .ok (.ifCond .lt 21, 3) := by decide +kernel
theorem dX8_daysSince_4 : decode cX8_daysSince 4 = .ok (.iload_n 1, 1) := by decide +kernel
theorem dX8_daysSince_5 : decode cX8_daysSince 5 = .ok (.aload_n 0, 1) := by decide +kernel
theorem dX8_daysSince_6 : decode cX8_daysSince 6 = .ok (.getfield 22, 3) := by decide +kernel
theorem dX8_daysSince_9 : decode cX8_daysSince 9 = .ok (.arraylength, 1) := by decide +kernel
theorem dX8_daysSince_10 : decode cX8_daysSince 10 = .ok (.if_icmp .ge 12, 3) := by decide +kernel
theorem dX8_daysSince_13 : decode cX8_daysSince 13 = .ok (.aload_n 0, 1) := by decide +kernel
theorem dX8_daysSince_14 : decode cX8_daysSince 14 = .ok (.getfield 22, 3) := by decide +kernel
theorem dX8_daysSince_17 : decode cX8_daysSince 17 = .ok (.iload_n 1, 1) := by decide +kernel
theorem dX8_daysSince_18 : decode cX8_daysSince 18 = .ok (.iaload, 1) := by decide +kernel
theorem dX8_daysSince_19 : decode cX8_daysSince 19 = .ok (.goto 4, 3) := by decide +kernel
theorem dX8_daysSince_22 : decode cX8_daysSince 22 = .ok (.iconst 0, 1) := by decide +kernel
theorem dX8_daysSince_23 : decode cX8_daysSince 23 = .ok (.ireturn, 1) := by decide +kernel
theorem dX8_axleSize_0 : decode cX8_axleSize 0 = .ok (.iload_n 1, 1) := by decide +kernel
theorem dX8_axleSize_1 : decode cX8_axleSize 1 = .ok (.ifCond .lt 21, 3) := by decide +kernel
theorem dX8_axleSize_4 : decode cX8_axleSize 4 = .ok (.iload_n 1, 1) := by decide +kernel
theorem dX8_axleSize_5 : decode cX8_axleSize 5 = .ok (.aload_n 0, 1) := by decide +kernel
theorem dX8_axleSize_6 : decode cX8_axleSize 6 = .ok (.getfield 25, 3) := by decide +kernel
theorem dX8_axleSize_9 : decode cX8_axleSize 9 = .ok (.arraylength, 1) := by decide +kernel
theorem dX8_axleSize_10 : decode cX8_axleSize 10 = .ok (.if_icmp .ge 12, 3) := by decide +kernel
theorem dX8_axleSize_13 : decode cX8_axleSize 13 = .ok (.aload_n 0, 1) := by decide +kernel
theorem dX8_axleSize_14 : decode cX8_axleSize 14 = .ok (.getfield 25, 3) := by decide +kernel
theorem dX8_axleSize_17 : decode cX8_axleSize 17 = .ok (.iload_n 1, 1) := by decide +kernel
theorem dX8_axleSize_18 : decode cX8_axleSize 18 = .ok (.iaload, 1) := by decide +kernel
theorem dX8_axleSize_19 : decode cX8_axleSize 19 = .ok (.goto 4, 3) := by decide +kernel
theorem dX8_axleSize_22 : decode cX8_axleSize 22 = .ok (.iconst 0, 1) := by decide +kernel
theorem dX8_axleSize_23 : decode cX8_axleSize 23 = .ok (.ireturn, 1) := by decide +kernel
theorem dX8_grow_0 : decode cX8_grow 0 = .ok (.aload_n 0, 1) := by decide +kernel
theorem dX8_grow_1 : decode cX8_grow 1 = .ok (.getfield 32, 3) := by decide +kernel
theorem dX8_grow_4 : decode cX8_grow 4 = .ok (.istore_n 2, 1) := by decide +kernel
theorem dX8_grow_5 : decode cX8_grow 5 = .ok (.aload_n 0, 1) := by decide +kernel
theorem dX8_grow_6 : decode cX8_grow 6 = .ok (.dup, 1) := by decide +kernel
theorem dX8_grow_7 : decode cX8_grow 7 = .ok (.getfield 32, 3) := by decide +kernel
theorem dX8_grow_10 : decode cX8_grow 10 = .ok (.iload_n 1, 1) := by decide +kernel
theorem dX8_grow_11 : decode cX8_grow 11 = .ok (.iadd, 1) := by decide +kernel
theorem dX8_grow_12 : decode cX8_grow 12 = .ok (.putfield 32, 3) := by decide +kernel
theorem dX8_grow_15 : decode cX8_grow 15 = .ok (.iconst 0, 1) := by decide +kernel
theorem dX8_grow_16 : decode cX8_grow 16 = .ok (.istore_n 3, 1) := by decide +kernel
theorem dX8_grow_17 : decode cX8_grow 17 = .ok (.iload_n 3, 1) := by decide +kernel
theorem dX8_grow_18 : decode cX8_grow 18 = .ok (.aload_n 0, 1) := by decide +kernel
theorem dX8_grow_19 : decode cX8_grow 19 = .ok (.getfield 18, 3) := by decide +kernel
theorem dX8_grow_22 : decode cX8_grow 22 = .ok (.arraylength, 1) := by decide +kernel
theorem dX8_grow_23 : decode cX8_grow 23 = .ok (.if_icmp .ge 19, 3) := by decide +kernel
theorem dX8_grow_26 : decode cX8_grow 26 = .ok (.aload_n 0, 1) := by decide +kernel
theorem dX8_grow_27 : decode cX8_grow 27 = .ok (.getfield 18, 3) := by decide +kernel
theorem dX8_grow_30 : decode cX8_grow 30 = .ok (.iload_n 3, 1) := by decide +kernel
theorem dX8_grow_31 : decode cX8_grow 31 = .ok (.dup2, 1) := by decide +kernel
theorem dX8_grow_32 : decode cX8_grow 32 = .ok (.iaload, 1) := by decide +kernel
theorem dX8_grow_33 : decode cX8_grow 33 = .ok (.iload_n 1, 1) := by decide +kernel
theorem dX8_grow_34 : decode cX8_grow 34 = .ok (.iadd, 1) := by decide +kernel
theorem dX8_grow_35 : decode cX8_grow 35 = .ok (.iastore, 1) := by decide +kernel
theorem dX8_grow_36 : decode cX8_grow 36 = .ok (.iinc 3 1, 3) := by decide +kernel
theorem dX8_grow_39 : decode cX8_grow 39 = .ok (.goto (-22), 3) := by decide +kernel
theorem dX8_grow_42 : decode cX8_grow 42 = .ok (.iconst 0, 1) := by decide +kernel
theorem dX8_grow_43 : decode cX8_grow 43 = .ok (.istore_n 3, 1) := by decide +kernel
theorem dX8_grow_44 : decode cX8_grow 44 = .ok (.iload_n 3, 1) := by decide +kernel
theorem dX8_grow_45 : decode cX8_grow 45 = .ok (.aload_n 0, 1) := by decide +kernel
theorem dX8_grow_46 : decode cX8_grow 46 = .ok (.getfield 25, 3) := by decide +kernel
theorem dX8_grow_49 : decode cX8_grow 49 = .ok (.arraylength, 1) := by decide +kernel
theorem dX8_grow_50 : decode cX8_grow 50 = .ok (.if_icmp .ge 32, 3) := by decide +kernel
theorem dX8_grow_53 : decode cX8_grow 53 = .ok (.aload_n 0, 1) := by decide +kernel
theorem dX8_grow_54 : decode cX8_grow 54 = .ok (.getfield 25, 3) := by decide +kernel
theorem dX8_grow_57 : decode cX8_grow 57 = .ok (.iload_n 3, 1) := by decide +kernel
theorem dX8_grow_58 : decode cX8_grow 58 = .ok (.dup2, 1) := by decide +kernel
theorem dX8_grow_59 : decode cX8_grow 59 = .ok (.iaload, 1) := by decide +kernel
theorem dX8_grow_60 : decode cX8_grow 60 = .ok (.iload_n 3, 1) := by decide +kernel
theorem dX8_grow_61 : decode cX8_grow 61 = .ok (.aload_n 0, 1) := by decide +kernel
theorem dX8_grow_62 : decode cX8_grow 62 = .ok (.getfield 32, 3) := by decide +kernel
theorem dX8_grow_65 : decode cX8_grow 65 = .ok (.invokestatic 44, 3) := by decide +kernel
theorem dX8_grow_68 : decode cX8_grow 68 = .ok (.iload_n 3, 1) := by decide +kernel
theorem dX8_grow_69 : decode cX8_grow 69 = .ok (.iload_n 2, 1) := by decide +kernel
theorem dX8_grow_70 : decode cX8_grow 70 = .ok (.invokestatic 44, 3) := by decide +kernel
theorem dX8_grow_73 : decode cX8_grow 73 = .ok (.isub, 1) := by decide +kernel
theorem dX8_grow_74 : decode cX8_grow 74 = .ok (.isub, 1) := by decide +kernel
theorem dX8_grow_75 : decode cX8_grow 75 = .ok (.iastore, 1) := by decide +kernel
theorem dX8_grow_76 : decode cX8_grow 76 = .ok (.iinc 3 1, 3) := by decide +kernel
theorem dX8_grow_79 : decode cX8_grow 79 = .ok (.goto (-35), 3) := by decide +kernel
theorem dX8_grow_82 : decode cX8_grow 82 = .ok (.return_, 1) := by decide +kernel
theorem dX8_wear_0 : decode cX8_wear 0 = .ok (.iload_n 0, 1) := by decide +kernel
theorem dX8_wear_1 : decode cX8_wear 1 = .ok (.ifCond .ne 11, 3) := by decide +kernel
theorem dX8_wear_4 : decode cX8_wear 4 = .ok (.iload_n 1, 1) := by decide +kernel
theorem dX8_wear_5 : decode cX8_wear 5 = .ok (.sipush 300, 3) := by decide +kernel
theorem dX8_wear_8 : decode cX8_wear 8 = .ok (.idiv, 1) := by decide +kernel
theorem dX8_wear_9 : decode cX8_wear 9 = .ok (.goto 8, 3) := by decide +kernel
theorem dX8_wear_12 : decode cX8_wear 12 = .ok (.iload_n 1, 1) := by decide +kernel
theorem dX8_wear_13 : decode cX8_wear 13 = .ok (.sipush 500, 3) := by decide +kernel
theorem dX8_wear_16 : decode cX8_wear 16 = .ok (.idiv, 1) := by decide +kernel
theorem dX8_wear_17 : decode cX8_wear 17 = .ok (.ireturn, 1) := by decide +kernel
theorem dX8_growOlder_0 : decode cX8_growOlder 0 = .ok (.iconst 0, 1) := by decide +kernel
theorem dX8_growOlder_1 : decode cX8_growOlder 1 = .ok (.istore_n 1, 1) := by decide +kernel
theorem dX8_growOlder_2 : decode cX8_growOlder 2 = .ok (.iload_n 1, 1) := by decide +kernel
theorem dX8_growOlder_3 : decode cX8_growOlder 3 = .ok (.aload_n 0, 1) := by decide +kernel
theorem dX8_growOlder_4 : decode cX8_growOlder 4 = .ok (.getfield 22, 3) := by decide +kernel
theorem dX8_growOlder_7 : decode cX8_growOlder 7 = .ok (.arraylength, 1) := by decide +kernel
theorem dX8_growOlder_8 : decode cX8_growOlder 8 = .ok (.if_icmp .ge 19, 3) := by decide +kernel
theorem dX8_growOlder_11 : decode cX8_growOlder 11 = .ok (.aload_n 0, 1) := by decide +kernel
theorem dX8_growOlder_12 : decode cX8_growOlder 12 = .ok (.getfield 22, 3) := by decide +kernel
theorem dX8_growOlder_15 : decode cX8_growOlder 15 = .ok (.iload_n 1, 1) := by decide +kernel
theorem dX8_growOlder_16 : decode cX8_growOlder 16 = .ok (.dup2, 1) := by decide +kernel
theorem dX8_growOlder_17 : decode cX8_growOlder 17 = .ok (.iaload, 1) := by decide +kernel
theorem dX8_growOlder_18 : decode cX8_growOlder 18 = .ok (.iconst 1, 1) := by decide +kernel
theorem dX8_growOlder_19 : decode cX8_growOlder 19 = .ok (.iadd, 1) := by decide +kernel
theorem dX8_growOlder_20 : decode cX8_growOlder 20 = .ok (.iastore, 1) := by decide +kernel
theorem dX8_growOlder_21 : decode cX8_growOlder 21 = .ok (.iinc 1 1, 3) := by decide +kernel
theorem dX8_growOlder_24 : decode cX8_growOlder 24 = .ok (.goto (-22), 3) := by decide +kernel
theorem dX8_growOlder_27 : decode cX8_growOlder 27 = .ok (.return_, 1) := by decide +kernel
theorem dX8_beginAgain_0 : decode cX8_beginAgain 0 = .ok (.iconst 0, 1) := by decide +kernel
theorem dX8_beginAgain_1 : decode cX8_beginAgain 1 = .ok (.istore_n 2, 1) := by decide +kernel
theorem dX8_beginAgain_2 : decode cX8_beginAgain 2 = .ok (.iload_n 2, 1) := by decide +kernel
theorem dX8_beginAgain_3 : decode cX8_beginAgain 3 = .ok (.iload_n 1, 1) := by decide +kernel
theorem dX8_beginAgain_4 : decode cX8_beginAgain 4 = .ok (.if_icmp .gt 41, 3) := by decide +kernel
theorem dX8_beginAgain_7 : decode cX8_beginAgain 7 = .ok (.iload_n 2, 1) := by decide +kernel
theorem dX8_beginAgain_8 : decode cX8_beginAgain 8 = .ok (.aload_n 0, 1) := by decide +kernel
theorem dX8_beginAgain_9 : decode cX8_beginAgain 9 = .ok (.getfield 18, 3) := by decide +kernel
theorem dX8_beginAgain_12 : decode cX8_beginAgain 12 = .ok (.arraylength, 1) := by decide +kernel
theorem dX8_beginAgain_13 : decode cX8_beginAgain 13 = .ok (.if_icmp .ge 32, 3) := by decide +kernel
theorem dX8_beginAgain_16 : decode cX8_beginAgain 16 = .ok (.iload_n 2, 1) := by decide +kernel
theorem dX8_beginAgain_17 : decode cX8_beginAgain 17 = .ok (.aload_n 0, 1) := by decide +kernel
theorem dX8_beginAgain_18 : decode cX8_beginAgain 18 = .ok (.getfield 22, 3) := by decide +kernel
theorem dX8_beginAgain_21 : decode cX8_beginAgain 21 = .ok (.arraylength, 1) := by decide +kernel
theorem dX8_beginAgain_22 : decode cX8_beginAgain 22 = .ok (.if_icmp .ge 23, 3) := by decide +kernel
theorem dX8_beginAgain_25 : decode cX8_beginAgain 25 = .ok (.aload_n 0, 1) := by decide +kernel
theorem dX8_beginAgain_26 : decode cX8_beginAgain 26 = .ok (.getfield 18, 3) := by decide +kernel
theorem dX8_beginAgain_29 : decode cX8_beginAgain 29 = .ok (.iload_n 2, 1) := by decide +kernel
theorem dX8_beginAgain_30 : decode cX8_beginAgain 30 = .ok (.iconst 0, 1) := by decide +kernel
theorem dX8_beginAgain_31 : decode cX8_beginAgain 31 = .ok (.iastore, 1) := by decide +kernel
theorem dX8_beginAgain_32 : decode cX8_beginAgain 32 = .ok (.aload_n 0, 1) := by decide +kernel
theorem dX8_beginAgain_33 : decode cX8_beginAgain 33 = .ok (.getfield 22, 3) := by decide +kernel
theorem dX8_beginAgain_36 : decode cX8_beginAgain 36 = .ok (.iload_n 2, 1) := by decide +kernel
theorem dX8_beginAgain_37 : decode cX8_beginAgain 37 = .ok (.iconst 0, 1) := by decide +kernel
theorem dX8_beginAgain_38 : decode cX8_beginAgain 38 = .ok (.iastore, 1) := by decide +kernel
theorem dX8_beginAgain_39 : decode cX8_beginAgain 39 = .ok (.iinc 2 1, 3) := by decide +kernel
theorem dX8_beginAgain_42 : decode cX8_beginAgain 42 = .ok (.goto (-40), 3) := by decide +kernel
theorem dX8_beginAgain_45 : decode cX8_beginAgain 45 = .ok (.return_, 1) := by decide +kernel
theorem dX8_greatestAxle_0 : decode cX8_greatestAxle 0 = .ok (.aload_n 0, 1) := by decide +kernel
theorem dX8_greatestAxle_1 : decode cX8_greatestAxle 1 = .ok (.iconst 0, 1) := by decide +kernel
theorem dX8_greatestAxle_2 : decode cX8_greatestAxle 2 = .ok (.invokevirtual 48, 3) := by decide +kernel
theorem dX8_greatestAxle_5 : decode cX8_greatestAxle 5 = .ok (.istore_n 1, 1) := by decide +kernel
theorem dX8_greatestAxle_6 : decode cX8_greatestAxle 6 = .ok (.iconst 1, 1) := by decide +kernel
theorem dX8_greatestAxle_7 : decode cX8_greatestAxle 7 = .ok (.istore_n 2, 1) := by decide +kernel
theorem dX8_greatestAxle_8 : decode cX8_greatestAxle 8 = .ok (.iload_n 2, 1) := by decide +kernel
theorem dX8_greatestAxle_9 : decode cX8_greatestAxle 9 = .ok (.aload_n 0, 1) := by decide +kernel
theorem dX8_greatestAxle_10 : decode cX8_greatestAxle 10 = .ok (.getfield 25, 3) := by decide +kernel
theorem dX8_greatestAxle_13 : decode cX8_greatestAxle 13 = .ok (.arraylength, 1) := by decide +kernel
theorem dX8_greatestAxle_14 : decode cX8_greatestAxle 14 = .ok (.if_icmp .ge 20, 3) := by decide +kernel
theorem dX8_greatestAxle_17 : decode cX8_greatestAxle 17 = .ok (.iload_n 1, 1) := by decide +kernel
theorem dX8_greatestAxle_18 : decode cX8_greatestAxle 18 = .ok (.aload_n 0, 1) := by decide +kernel
theorem dX8_greatestAxle_19 : decode cX8_greatestAxle 19 = .ok (.getfield 25, 3) := by decide +kernel
theorem dX8_greatestAxle_22 : decode cX8_greatestAxle 22 = .ok (.iload_n 2, 1) := by decide +kernel
theorem dX8_greatestAxle_23 : decode cX8_greatestAxle 23 = .ok (.iaload, 1) := by decide +kernel
theorem dX8_greatestAxle_24 : decode cX8_greatestAxle 24 = .ok (.invokestatic 52, 3) := by decide +kernel
theorem dX8_greatestAxle_27 : decode cX8_greatestAxle 27 = .ok (.istore_n 1, 1) := by decide +kernel
theorem dX8_greatestAxle_28 : decode cX8_greatestAxle 28 = .ok (.iinc 2 1, 3) := by decide +kernel
theorem dX8_greatestAxle_31 : decode cX8_greatestAxle 31 = .ok (.goto (-23), 3) := by decide +kernel
theorem dX8_greatestAxle_34 : decode cX8_greatestAxle 34 = .ok (.iload_n 1, 1) := by decide +kernel
theorem dX8_greatestAxle_35 : decode cX8_greatestAxle 35 = .ok (.ireturn, 1) := by decide +kernel
theorem dX8_leastAxle_0 : decode cX8_leastAxle 0 = .ok (.aload_n 0, 1) := by decide +kernel
theorem dX8_leastAxle_1 : decode cX8_leastAxle 1 = .ok (.iconst 0, 1) := by decide +kernel
theorem dX8_leastAxle_2 : decode cX8_leastAxle 2 = .ok (.invokevirtual 48, 3) := by decide +kernel
theorem dX8_leastAxle_5 : decode cX8_leastAxle 5 = .ok (.istore_n 1, 1) := by decide +kernel
theorem dX8_leastAxle_6 : decode cX8_leastAxle 6 = .ok (.iconst 1, 1) := by decide +kernel
theorem dX8_leastAxle_7 : decode cX8_leastAxle 7 = .ok (.istore_n 2, 1) := by decide +kernel
theorem dX8_leastAxle_8 : decode cX8_leastAxle 8 = .ok (.iload_n 2, 1) := by decide +kernel
theorem dX8_leastAxle_9 : decode cX8_leastAxle 9 = .ok (.aload_n 0, 1) := by decide +kernel
theorem dX8_leastAxle_10 : decode cX8_leastAxle 10 = .ok (.getfield 25, 3) := by decide +kernel
theorem dX8_leastAxle_13 : decode cX8_leastAxle 13 = .ok (.arraylength, 1) := by decide +kernel
theorem dX8_leastAxle_14 : decode cX8_leastAxle 14 = .ok (.if_icmp .ge 20, 3) := by decide +kernel
theorem dX8_leastAxle_17 : decode cX8_leastAxle 17 = .ok (.iload_n 1, 1) := by decide +kernel
theorem dX8_leastAxle_18 : decode cX8_leastAxle 18 = .ok (.aload_n 0, 1) := by decide +kernel
theorem dX8_leastAxle_19 : decode cX8_leastAxle 19 = .ok (.getfield 25, 3) := by decide +kernel
theorem dX8_leastAxle_22 : decode cX8_leastAxle 22 = .ok (.iload_n 2, 1) := by decide +kernel
theorem dX8_leastAxle_23 : decode cX8_leastAxle 23 = .ok (.iaload, 1) := by decide +kernel
theorem dX8_leastAxle_24 : decode cX8_leastAxle 24 = .ok (.invokestatic 57, 3) := by decide +kernel
theorem dX8_leastAxle_27 : decode cX8_leastAxle 27 = .ok (.istore_n 1, 1) := by decide +kernel
theorem dX8_leastAxle_28 : decode cX8_leastAxle 28 = .ok (.iinc 2 1, 3) := by decide +kernel
theorem dX8_leastAxle_31 : decode cX8_leastAxle 31 = .ok (.goto (-23), 3) := by decide +kernel
theorem dX8_leastAxle_34 : decode cX8_leastAxle 34 = .ok (.iload_n 1, 1) := by decide +kernel
theorem dX8_leastAxle_35 : decode cX8_leastAxle 35 = .ok (.ireturn, 1) := by decide +kernel
theorem dX8_turn_0 : decode cX8_turn 0 = .ok (.aload_n 0, 1) := by decide +kernel
theorem dX8_turn_1 : decode cX8_turn 1 = .ok (.iconst 0, 1) := by decide +kernel
theorem dX8_turn_2 : decode cX8_turn 2 = .ok (.invokevirtual 48, 3) := by decide +kernel
theorem dX8_turn_5 : decode cX8_turn 5 = .ok (.aload_n 0, 1) := by decide +kernel
theorem dX8_turn_6 : decode cX8_turn 6 = .ok (.iconst 0, 1) := by decide +kernel
theorem dX8_turn_7 : decode cX8_turn 7 = .ok (.invokevirtual 60, 3) := by decide +kernel
theorem dX8_turn_10 : decode cX8_turn 10 = .ok (.isub, 1) := by decide +kernel
theorem dX8_turn_11 : decode cX8_turn 11 = .ok (.istore_n 1, 1) := by decide +kernel
theorem dX8_turn_12 : decode cX8_turn 12 = .ok (.iconst 1, 1) := by decide +kernel
theorem dX8_turn_13 : decode cX8_turn 13 = .ok (.istore_n 2, 1) := by decide +kernel
theorem dX8_turn_14 : decode cX8_turn 14 = .ok (.iload_n 2, 1) := by decide +kernel
theorem dX8_turn_15 : decode cX8_turn 15 = .ok (.aload_n 0, 1) := by decide +kernel
theorem dX8_turn_16 : decode cX8_turn 16 = .ok (.getfield 25, 3) := by decide +kernel
theorem dX8_turn_19 : decode cX8_turn 19 = .ok (.arraylength, 1) := by decide +kernel
theorem dX8_turn_20 : decode cX8_turn 20 = .ok (.if_icmp .ge 26, 3) := by decide +kernel
theorem dX8_turn_23 : decode cX8_turn 23 = .ok (.iload_n 1, 1) := by decide +kernel
theorem dX8_turn_24 : decode cX8_turn 24 = .ok (.aload_n 0, 1) := by decide +kernel
theorem dX8_turn_25 : decode cX8_turn 25 = .ok (.getfield 25, 3) := by decide +kernel
theorem dX8_turn_28 : decode cX8_turn 28 = .ok (.iload_n 2, 1) := by decide +kernel
theorem dX8_turn_29 : decode cX8_turn 29 = .ok (.iaload, 1) := by decide +kernel
theorem dX8_turn_30 : decode cX8_turn 30 = .ok (.aload_n 0, 1) := by decide +kernel
theorem dX8_turn_31 : decode cX8_turn 31 = .ok (.iload_n 2, 1) := by decide +kernel
theorem dX8_turn_32 : decode cX8_turn 32 = .ok (.invokevirtual 60, 3) := by decide +kernel
theorem dX8_turn_35 : decode cX8_turn 35 = .ok (.isub, 1) := by decide +kernel
theorem dX8_turn_36 : decode cX8_turn 36 = .ok (.invokestatic 57, 3) := by decide +kernel
theorem dX8_turn_39 : decode cX8_turn 39 = .ok (.istore_n 1, 1) := by decide +kernel
theorem dX8_turn_40 : decode cX8_turn 40 = .ok (.iinc 2 1, 3) := by decide +kernel
theorem dX8_turn_43 : decode cX8_turn 43 = .ok (.goto (-29), 3) := by decide +kernel
theorem dX8_turn_46 : decode cX8_turn 46 = .ok (.aload_n 0, 1) := by decide +kernel
theorem dX8_turn_47 : decode cX8_turn 47 = .ok (.getfield 25, 3) := by decide +kernel
theorem dX8_turn_50 : decode cX8_turn 50 = .ok (.iload_n 1, 1) := by decide +kernel
theorem dX8_turn_51 : decode cX8_turn 51 = .ok (.invokestatic 38, 3) := by decide +kernel
theorem dX8_turn_54 : decode cX8_turn 54 = .ok (.aload_n 0, 1) := by decide +kernel
theorem dX8_turn_55 : decode cX8_turn 55 = .ok (.invokevirtual 63, 3) := by decide +kernel
theorem dX8_turn_58 : decode cX8_turn 58 = .ok (.iload_n 1, 1) := by decide +kernel
theorem dX8_turn_59 : decode cX8_turn 59 = .ok (.ireturn, 1) := by decide +kernel
theorem dX8_depthOnAxle_0 : decode cX8_depthOnAxle 0 = .ok (.iconst 0, 1) := by decide +kernel
theorem dX8_depthOnAxle_1 : decode cX8_depthOnAxle 1 = .ok (.istore_n 2, 1) := by decide +kernel
theorem dX8_depthOnAxle_2 : decode cX8_depthOnAxle 2 = .ok (.iconst 0, 1) := by decide +kernel
theorem dX8_depthOnAxle_3 : decode cX8_depthOnAxle 3 = .ok (.istore_n 3, 1) := by decide +kernel
theorem dX8_depthOnAxle_4 : decode cX8_depthOnAxle 4 = .ok (.iload_n 3, 1) := by decide +kernel
theorem dX8_depthOnAxle_5 : decode cX8_depthOnAxle 5 = .ok (.aload_n 0, 1) := by decide +kernel
theorem dX8_depthOnAxle_6 : decode cX8_depthOnAxle 6 = .ok (.getfield 12, 3) := by decide +kernel
theorem dX8_depthOnAxle_9 : decode cX8_depthOnAxle 9 = .ok (.invokevirtual 66, 3) := by decide +kernel
theorem dX8_depthOnAxle_12 : decode cX8_depthOnAxle 12 = .ok (.if_icmp .ge 41, 3) := by decide +kernel
theorem dX8_depthOnAxle_15 : decode cX8_depthOnAxle 15 = .ok (.aload_n 0, 1) := by decide +kernel
theorem dX8_depthOnAxle_16 : decode cX8_depthOnAxle 16 = .ok (.iload_n 3, 1) := by decide +kernel
theorem dX8_depthOnAxle_17 : decode cX8_depthOnAxle 17 = .ok (.invokevirtual 70, 3) := by decide +kernel
theorem dX8_depthOnAxle_20 : decode cX8_depthOnAxle 20 = .ok (.astore 4, 2) := by decide +kernel
theorem dX8_depthOnAxle_22 : decode cX8_depthOnAxle 22 = .ok (.aload 4, 2) := by decide +kernel
theorem dX8_depthOnAxle_24 : decode cX8_depthOnAxle 24 = .ok (.getfield 74, 3) := by decide +kernel
theorem dX8_depthOnAxle_27 : decode cX8_depthOnAxle 27 = .ok (.ifCond .ne 20, 3) := by decide +kernel
theorem dX8_depthOnAxle_30 : decode cX8_depthOnAxle 30 = .ok (.aload 4, 2) := by decide +kernel
theorem dX8_depthOnAxle_32 : decode cX8_depthOnAxle 32 = .ok (.getfield 79, 3) := by decide +kernel
theorem dX8_depthOnAxle_35 : decode cX8_depthOnAxle 35 = .ok (.iload_n 1, 1) := by decide +kernel
theorem dX8_depthOnAxle_36 : decode cX8_depthOnAxle 36 = .ok (.if_icmp .ne 11, 3) := by decide +kernel
theorem dX8_depthOnAxle_39 : decode cX8_depthOnAxle 39 = .ok (.iload_n 2, 1) := by decide +kernel
theorem dX8_depthOnAxle_40 : decode cX8_depthOnAxle 40 = .ok (.aload 4, 2) := by decide +kernel
theorem dX8_depthOnAxle_42 : decode cX8_depthOnAxle 42 = .ok (.getfield 82, 3) := by decide +kernel
theorem dX8_depthOnAxle_45 : decode cX8_depthOnAxle 45 = .ok (.iadd, 1) := by decide +kernel
theorem dX8_depthOnAxle_46 : decode cX8_depthOnAxle 46 = .ok (.istore_n 2, 1) := by decide +kernel
theorem dX8_depthOnAxle_47 : decode cX8_depthOnAxle 47 = .ok (.iinc 3 1, 3) := by decide +kernel
theorem dX8_depthOnAxle_50 : decode cX8_depthOnAxle 50 = .ok (.goto (-46), 3) := by decide +kernel
theorem dX8_depthOnAxle_53 : decode cX8_depthOnAxle 53 = .ok (.iload_n 2, 1) := by decide +kernel
theorem dX8_depthOnAxle_54 : decode cX8_depthOnAxle 54 = .ok (.ireturn, 1) := by decide +kernel
theorem dX8_dropFlats_0 : decode cX8_dropFlats 0 = .ok (.aload_n 0, 1) := by decide +kernel
theorem dX8_dropFlats_1 : decode cX8_dropFlats 1 = .ok (.getfield 12, 3) := by decide +kernel
theorem dX8_dropFlats_4 : decode cX8_dropFlats 4 = .ok (.invokevirtual 66, 3) := by decide +kernel
theorem dX8_dropFlats_7 : decode cX8_dropFlats 7 = .ok (.iconst 1, 1) := by decide +kernel
theorem dX8_dropFlats_8 : decode cX8_dropFlats 8 = .ok (.isub, 1) := by decide +kernel
theorem dX8_dropFlats_9 : decode cX8_dropFlats 9 = .ok (.istore_n 1, 1) := by decide +kernel
theorem dX8_dropFlats_10 : decode cX8_dropFlats 10 = .ok (.iload_n 1, 1) := by decide +kernel
theorem dX8_dropFlats_11 : decode cX8_dropFlats 11 = .ok (.ifCond .lt 25, 3) := by decide +kernel
theorem dX8_dropFlats_14 : decode cX8_dropFlats 14 = .ok (.aload_n 0, 1) := by decide +kernel
theorem dX8_dropFlats_15 : decode cX8_dropFlats 15 = .ok (.iload_n 1, 1) := by decide +kernel
theorem dX8_dropFlats_16 : decode cX8_dropFlats 16 = .ok (.invokevirtual 70, 3) := by decide +kernel
theorem dX8_dropFlats_19 : decode cX8_dropFlats 19 = .ok (.getfield 74, 3) := by decide +kernel
theorem dX8_dropFlats_22 : decode cX8_dropFlats 22 = .ok (.ifCond .ne 8, 3) := by decide +kernel
theorem dX8_dropFlats_25 : decode cX8_dropFlats 25 = .ok (.aload_n 0, 1) := by decide +kernel
theorem dX8_dropFlats_26 : decode cX8_dropFlats 26 = .ok (.iload_n 1, 1) := by decide +kernel
theorem dX8_dropFlats_27 : decode cX8_dropFlats 27 = .ok (.invokevirtual 85, 3) := by decide +kernel
theorem dX8_dropFlats_30 : decode cX8_dropFlats 30 = .ok (.iinc 1 (-1), 3) := by decide +kernel
theorem dX8_dropFlats_33 : decode cX8_dropFlats 33 = .ok (.goto (-23), 3) := by decide +kernel
theorem dX8_dropFlats_36 : decode cX8_dropFlats 36 = .ok (.return_, 1) := by decide +kernel
theorem dX8_faultAtPlace_0 : decode cX8_faultAtPlace 0 = .ok (.iload_n 1, 1) := by decide +kernel
theorem dX8_faultAtPlace_1 : decode cX8_faultAtPlace 1 = .ok (.ifCond .lt 28, 3) := by decide +kernel
theorem dX8_faultAtPlace_4 : decode cX8_faultAtPlace 4 = .ok (.iload_n 1, 1) := by decide +kernel
theorem dX8_faultAtPlace_5 : decode cX8_faultAtPlace 5 = .ok (.aload_n 0, 1) := by decide +kernel
theorem dX8_faultAtPlace_6 : decode cX8_faultAtPlace 6 = .ok (.getfield 12, 3) := by decide +kernel
theorem dX8_faultAtPlace_9 : decode cX8_faultAtPlace 9 = .ok (.invokevirtual 66, 3) := by decide +kernel
theorem dX8_faultAtPlace_12 : decode cX8_faultAtPlace 12 = .ok (.if_icmp .ge 17, 3) := by decide +kernel
theorem dX8_faultAtPlace_15 : decode cX8_faultAtPlace 15 = .ok (.aload_n 0, 1) := by decide +kernel
theorem dX8_faultAtPlace_16 : decode cX8_faultAtPlace 16 = .ok (.getfield 12, 3) := by decide +kernel
theorem dX8_faultAtPlace_19 : decode cX8_faultAtPlace 19 = .ok (.iload_n 1, 1) := by decide +kernel
theorem dX8_faultAtPlace_20 : decode cX8_faultAtPlace 20 = .ok (.invokevirtual 89, 3) := by decide +kernel
theorem dX8_faultAtPlace_23 : decode cX8_faultAtPlace 23 = .ok (.checkcast 75, 3) := by decide +kernel
theorem dX8_faultAtPlace_26 : decode cX8_faultAtPlace 26 = .ok (.goto 4, 3) := by decide +kernel
theorem dX8_faultAtPlace_29 : decode cX8_faultAtPlace 29 = .ok (.aconst_null, 1) := by decide +kernel
theorem dX8_faultAtPlace_30 : decode cX8_faultAtPlace 30 = .ok (.astore_n 2, 1) := by decide +kernel
theorem dX8_faultAtPlace_31 : decode cX8_faultAtPlace 31 = .ok (.aload_n 2, 1) := by decide +kernel
theorem dX8_faultAtPlace_32 : decode cX8_faultAtPlace 32 = .ok (.ifnonnull 13, 3) := by decide +kernel
theorem dX8_faultAtPlace_35 : decode cX8_faultAtPlace 35 = .ok (.new 93, 3) := by decide +kernel
theorem dX8_faultAtPlace_38 : decode cX8_faultAtPlace 38 = .ok (.dup, 1) := by decide +kernel
theorem dX8_faultAtPlace_39 : decode cX8_faultAtPlace 39 = .ok (.ldc 95, 2) := by decide +kernel
theorem dX8_faultAtPlace_41 : decode cX8_faultAtPlace 41 = .ok (.invokespecial 97, 3) := by decide +kernel
theorem dX8_faultAtPlace_44 : decode cX8_faultAtPlace 44 = .ok (.athrow, 1) := by decide +kernel
theorem dX8_faultAtPlace_45 : decode cX8_faultAtPlace 45 = .ok (.aload_n 2, 1) := by decide +kernel
theorem dX8_faultAtPlace_46 : decode cX8_faultAtPlace 46 = .ok (.areturn, 1) := by decide +kernel
theorem dX8_dropFault_0 : decode cX8_dropFault 0 = .ok (.iload_n 1, 1) := by decide +kernel
theorem dX8_dropFault_1 : decode cX8_dropFault 1 = .ok (.ifCond .lt 23, 3) := by decide +kernel
theorem dX8_dropFault_4 : decode cX8_dropFault 4 = .ok (.iload_n 1, 1) := by decide +kernel
theorem dX8_dropFault_5 : decode cX8_dropFault 5 = .ok (.aload_n 0, 1) := by decide +kernel
theorem dX8_dropFault_6 : decode cX8_dropFault 6 = .ok (.getfield 12, 3) := by decide +kernel
theorem dX8_dropFault_9 : decode cX8_dropFault 9 = .ok (.invokevirtual 66, 3) := by decide +kernel
theorem dX8_dropFault_12 : decode cX8_dropFault 12 = .ok (.if_icmp .ge 12, 3) := by decide +kernel
theorem dX8_dropFault_15 : decode cX8_dropFault 15 = .ok (.aload_n 0, 1) := by decide +kernel
theorem dX8_dropFault_16 : decode cX8_dropFault 16 = .ok (.getfield 12, 3) := by decide +kernel
theorem dX8_dropFault_19 : decode cX8_dropFault 19 = .ok (.iload_n 1, 1) := by decide +kernel
theorem dX8_dropFault_20 : decode cX8_dropFault 20 = .ok (.invokevirtual 100, 3) := by decide +kernel
theorem dX8_dropFault_23 : decode cX8_dropFault 23 = .ok (.pop, 1) := by decide +kernel
theorem dX8_dropFault_24 : decode cX8_dropFault 24 = .ok (.return_, 1) := by decide +kernel
theorem dX9_init_0 : decode cX9_init 0 = .ok (.aload_n 0, 1) := by decide +kernel
theorem dX9_init_1 : decode cX9_init 1 = .ok (.invokespecial 1, 3) := by decide +kernel
theorem dX9_init_4 : decode cX9_init 4 = .ok (.aload_n 0, 1) := by decide +kernel
theorem dX9_init_5 : decode cX9_init 5 = .ok (.new 7, 3) := by decide +kernel
theorem dX9_init_8 : decode cX9_init 8 = .ok (.dup, 1) := by decide +kernel
theorem dX9_init_9 : decode cX9_init 9 = .ok (.invokespecial 9, 3) := by decide +kernel
theorem dX9_init_12 : decode cX9_init 12 = .ok (.putfield 10, 3) := by decide +kernel
theorem dX9_init_15 : decode cX9_init 15 = .ok (.aload_n 0, 1) := by decide +kernel
theorem dX9_init_16 : decode cX9_init 16 = .ok (.new 7, 3) := by decide +kernel
theorem dX9_init_19 : decode cX9_init 19 = .ok (.dup, 1) := by decide +kernel
theorem dX9_init_20 : decode cX9_init 20 = .ok (.invokespecial 9, 3) := by decide +kernel
theorem dX9_init_23 : decode cX9_init 23 = .ok (.putfield 16, 3) := by decide +kernel
theorem dX9_init_26 : decode cX9_init 26 = .ok (.aload_n 0, 1) := by decide +kernel
theorem dX9_init_27 : decode cX9_init 27 = .ok (.iconst 3, 1) := by decide +kernel
theorem dX9_init_28 : decode cX9_init 28 = .ok (.anewarray 19, 3) := by decide +kernel
theorem dX9_init_31 : decode cX9_init 31 = .ok (.putfield 21, 3) := by decide +kernel
theorem dX9_init_34 : decode cX9_init 34 = .ok (.aload_n 0, 1) := by decide +kernel
theorem dX9_init_35 : decode cX9_init 35 = .ok (.new 25, 3) := by decide +kernel
theorem dX9_init_38 : decode cX9_init 38 = .ok (.dup, 1) := by decide +kernel
theorem dX9_init_39 : decode cX9_init 39 = .ok (.invokespecial 27, 3) := by decide +kernel
theorem dX9_init_42 : decode cX9_init 42 = .ok (.putfield 28, 3) := by decide +kernel
theorem dX9_init_45 : decode cX9_init 45 = .ok (.aload_n 0, 1) := by decide +kernel
theorem dX9_init_46 : decode cX9_init 46 = .ok (.new 32, 3) := by decide +kernel
theorem dX9_init_49 : decode cX9_init 49 = .ok (.dup, 1) := by decide +kernel
theorem dX9_init_50 : decode cX9_init 50 = .ok (.invokespecial 34, 3) := by decide +kernel
theorem dX9_init_53 : decode cX9_init 53 = .ok (.putfield 35, 3) := by decide +kernel
theorem dX9_init_56 : decode cX9_init 56 = .ok (.aload_n 0, 1) := by decide +kernel
theorem dX9_init_57 : decode cX9_init 57 = .ok (.new 39, 3) := by decide +kernel
theorem dX9_init_60 : decode cX9_init 60 = .ok (.dup, 1) := by decide +kernel
theorem dX9_init_61 : decode cX9_init 61 = .ok (.invokespecial 41, 3) := by decide +kernel
theorem dX9_init_64 : decode cX9_init 64 = .ok (.putfield 42, 3) := by decide +kernel
theorem dX9_init_67 : decode cX9_init 67 = .ok (.aload_n 0, 1) := by decide +kernel
theorem dX9_init_68 : decode cX9_init 68 = .ok (.iconst 0, 1) := by decide +kernel
theorem dX9_init_69 : decode cX9_init 69 = .ok (.putfield 46, 3) := by decide +kernel
theorem dX9_init_72 : decode cX9_init 72 = .ok (.aload_n 0, 1) := by decide +kernel
theorem dX9_init_73 : decode cX9_init 73 = .ok (.iconst 0, 1) := by decide +kernel
theorem dX9_init_74 : decode cX9_init 74 = .ok (.putfield 50, 3) := by decide +kernel
theorem dX9_init_77 : decode cX9_init 77 = .ok (.aload_n 0, 1) := by decide +kernel
theorem dX9_init_78 : decode cX9_init 78 = .ok (.iconst 0, 1) := by decide +kernel
theorem dX9_init_79 : decode cX9_init 79 = .ok (.putfield 53, 3) := by decide +kernel
theorem dX9_init_82 : decode cX9_init 82 = .ok (.aload_n 0, 1) := by decide +kernel
theorem dX9_init_83 : decode cX9_init 83 = .ok (.iconst 0, 1) := by decide +kernel
theorem dX9_init_84 : decode cX9_init 84 = .ok (.putfield 57, 3) := by decide +kernel
theorem dX9_init_87 : decode cX9_init 87 = .ok (.iconst 0, 1) := by decide +kernel
theorem dX9_init_88 : decode cX9_init 88 = .ok (.istore_n 1, 1) := by decide +kernel
theorem dX9_init_89 : decode cX9_init 89 = .ok (.iload_n 1, 1) := by decide +kernel
theorem dX9_init_90 : decode cX9_init 90 = .ok (.aload_n 0, 1) := by decide +kernel
theorem dX9_init_91 : decode cX9_init 91 = .ok (.getfield 21, 3) := by decide +kernel
theorem dX9_init_94 : decode cX9_init 94 = .ok (.arraylength, 1) := by decide +kernel
theorem dX9_init_95 : decode cX9_init 95 = .ok (.if_icmp .ge 22, 3) := by decide +kernel
theorem dX9_init_98 : decode cX9_init 98 = .ok (.aload_n 0, 1) := by decide +kernel
theorem dX9_init_99 : decode cX9_init 99 = .ok (.getfield 21, 3) := by decide +kernel
theorem dX9_init_102 : decode cX9_init 102 = .ok (.iload_n 1, 1) := by decide +kernel
theorem dX9_init_103 : decode cX9_init 103 = .ok (.new 19, 3) := by decide +kernel
theorem dX9_init_106 : decode cX9_init 106 = .ok (.dup, 1) := by decide +kernel
theorem dX9_init_107 : decode cX9_init 107 = .ok (.invokespecial 60, 3) := by decide +kernel
theorem dX9_init_110 : decode cX9_init 110 = .ok (.aastore, 1) := by decide +kernel
theorem dX9_init_111 : decode cX9_init 111 = .ok (.iinc 1 1, 3) := by decide +kernel
theorem dX9_init_114 : decode cX9_init 114 = .ok (.goto (-25), 3) := by decide +kernel
theorem dX9_init_117 : decode cX9_init 117 = .ok (.return_, 1) := by decide +kernel
theorem dX9_unit_0 : decode cX9_unit 0 = .ok (.aload_n 0, 1) := by decide +kernel
theorem dX9_unit_1 : decode cX9_unit 1 = .ok (.iload_n 1, 1) := by decide +kernel
theorem dX9_unit_2 : decode cX9_unit 2 = .ok (.invokevirtual 61, 3) := by decide +kernel
theorem dX9_unit_5 : decode cX9_unit 5 = .ok (.astore_n 3, 1) := by decide +kernel
theorem dX9_unit_6 : decode cX9_unit 6 = .ok (.iload_n 2, 1) := by decide +kernel
theorem dX9_unit_7 : decode cX9_unit 7 = .ok (.iconst 0, 1) := by decide +kernel
theorem dX9_unit_8 : decode cX9_unit 8 = .ok (.ldc 65, 2) := by decide +kernel
theorem dX9_unit_10 : decode cX9_unit 10 = .ok (.invokestatic 66, 3) := by decide +kernel
theorem dX9_unit_13 : decode cX9_unit 13 = .ok (.aload_n 0, 1) := by decide +kernel
theorem dX9_unit_14 : decode cX9_unit 14 = .ok (.getfield 10, 3) := by decide +kernel
theorem dX9_unit_17 : decode cX9_unit 17 = .ok (.invokevirtual 70, 3) := by decide +kernel
theorem dX9_unit_20 : decode cX9_unit 20 = .ok (.istore 4, 2) := by decide +kernel
theorem dX9_unit_22 : decode cX9_unit 22 = .ok (.iload 4, 2) := by decide +kernel
theorem dX9_unit_24 : decode cX9_unit 24 = .ok (.bipush 6, 2) := by decide +kernel
theorem dX9_unit_26 : decode cX9_unit 26 = .ok (.if_icmp .lt 13, 3) := by decide +kernel
theorem dX9_unit_29 : decode cX9_unit 29 = .ok (.new 74, 3) := by decide +kernel
theorem dX9_unit_32 : decode cX9_unit 32 = .ok (.dup, 1) := by decide +kernel
theorem dX9_unit_33 : decode cX9_unit 33 = .ok (.ldc 76, 2) := by decide +kernel
theorem dX9_unit_35 : decode cX9_unit 35 = .ok (.invokespecial 78, 3) := by decide +kernel
theorem dX9_unit_38 : decode cX9_unit 38 = .ok (.athrow, 1) := by decide +kernel
theorem dX9_unit_39 : decode cX9_unit 39 = .ok (.aload_n 0, 1) := by decide +kernel
theorem dX9_unit_40 : decode cX9_unit 40 = .ok (.getfield 10, 3) := by decide +kernel
theorem dX9_unit_43 : decode cX9_unit 43 = .ok (.new 81, 3) := by decide +kernel
theorem dX9_unit_46 : decode cX9_unit 46 = .ok (.dup, 1) := by decide +kernel
theorem dX9_unit_47 : decode cX9_unit 47 = .ok (.iload_n 1, 1) := by decide +kernel
theorem dX9_unit_48 : decode cX9_unit 48 = .ok (.iload_n 2, 1) := by decide +kernel
theorem dX9_unit_49 : decode cX9_unit 49 = .ok (.invokespecial 83, 3) := by decide +kernel
theorem dX9_unit_52 : decode cX9_unit 52 = .ok (.invokevirtual 86, 3) := by decide +kernel
theorem dX9_unit_55 : decode cX9_unit 55 = .ok (.pop, 1) := by decide +kernel
theorem dX9_unit_56 : decode cX9_unit 56 = .ok (.aload_n 3, 1) := by decide +kernel
theorem dX9_unit_57 : decode cX9_unit 57 = .ok (.iload 4, 2) := by decide +kernel
theorem dX9_unit_59 : decode cX9_unit 59 = .ok (.invokevirtual 90, 3) := by decide +kernel
theorem dX9_unit_62 : decode cX9_unit 62 = .ok (.iload 4, 2) := by decide +kernel
theorem dX9_unit_64 : decode cX9_unit 64 = .ok (.ireturn, 1) := by decide +kernel
theorem dX9_diagram_0 : decode cX9_diagram 0 = .ok (.iload_n 1, 1) := by decide +kernel
theorem dX9_diagram_1 : decode cX9_diagram 1 = .ok (.iconst 3, 1) := by decide +kernel
theorem dX9_diagram_2 : decode cX9_diagram 2 = .ok (.invokestatic 94, 3) := by decide +kernel
theorem dX9_diagram_5 : decode cX9_diagram 5 = .ok (.iload_n 2, 1) := by decide +kernel
theorem dX9_diagram_6 : decode cX9_diagram 6 = .ok (.iconst 3, 1) := by decide +kernel
theorem dX9_diagram_7 : decode cX9_diagram 7 = .ok (.invokestatic 94, 3) := by decide +kernel
theorem dX9_diagram_10 : decode cX9_diagram 10 = .ok (.iload_n 3, 1) := by decide +kernel
theorem dX9_diagram_11 : decode cX9_diagram 11 = .ok (.iconst 1, 1) := by decide +kernel
theorem dX9_diagram_12 : decode cX9_diagram 12 = .ok (.sipush 2000, 3) := by decide +kernel
theorem dX9_diagram_15 : decode cX9_diagram 15 = .ok (.invokestatic 66, 3) := by decide +kernel
theorem dX9_diagram_18 : decode cX9_diagram 18 = .ok (.iload 4, 2) := by decide +kernel
theorem dX9_diagram_20 : decode cX9_diagram 20 = .ok (.iconst 0, 1) := by decide +kernel
theorem dX9_diagram_21 : decode cX9_diagram 21 = .ok (.iconst 2, 1) := by decide +kernel
theorem dX9_diagram_22 : decode cX9_diagram 22 = .ok (.invokestatic 66, 3) := by decide +kernel
theorem dX9_diagram_25 : decode cX9_diagram 25 = .ok (.iload 5, 2) := by decide +kernel
theorem dX9_diagram_27 : decode cX9_diagram 27 = .ok (.iconst 1, 1) := by decide +kernel
theorem dX9_diagram_28 : decode cX9_diagram 28 = .ok (.bipush 100, 2) := by decide +kernel
theorem dX9_diagram_30 : decode cX9_diagram 30 = .ok (.invokestatic 66, 3) := by decide +kernel
theorem dX9_diagram_33 : decode cX9_diagram 33 = .ok (.aload_n 0, 1) := by decide +kernel
theorem dX9_diagram_34 : decode cX9_diagram 34 = .ok (.getfield 16, 3) := by decide +kernel
theorem dX9_diagram_37 : decode cX9_diagram 37 = .ok (.invokevirtual 70, 3) := by decide +kernel
theorem dX9_diagram_40 : decode cX9_diagram 40 = .ok (.istore 6, 2) := by decide +kernel
theorem dX9_diagram_42 : decode cX9_diagram 42 = .ok (.iload 6, 2) := by decide +kernel
theorem dX9_diagram_44 : decode cX9_diagram 44 = .ok (.bipush 6, 2) := by decide +kernel
theorem dX9_diagram_46 : decode cX9_diagram 46 = .ok (.if_icmp .lt 13, 3) := by decide +kernel
theorem dX9_diagram_49 : decode cX9_diagram 49 = .ok (.new 74, 3) := by decide +kernel
theorem dX9_diagram_52 : decode cX9_diagram 52 = .ok (.dup, 1) := by decide +kernel
theorem dX9_diagram_53 : decode cX9_diagram 53 = .ok (.ldc 97, 2) := by decide +kernel
theorem dX9_diagram_55 : decode cX9_diagram 55 = .ok (.invokespecial 78, 3) := by decide +kernel
theorem dX9_diagram_58 : decode cX9_diagram 58 = .ok (.athrow, 1) := by decide +kernel
theorem dX9_diagram_59 : decode cX9_diagram 59 = .ok (.aload_n 0, 1) := by decide +kernel
theorem dX9_diagram_60 : decode cX9_diagram 60 = .ok (.getfield 16, 3) := by decide +kernel
theorem dX9_diagram_63 : decode cX9_diagram 63 = .ok (.new 99, 3) := by decide +kernel
theorem dX9_diagram_66 : decode cX9_diagram 66 = .ok (.dup, 1) := by decide +kernel
theorem dX9_diagram_67 : decode cX9_diagram 67 = .ok (.iload_n 1, 1) := by decide +kernel
theorem dX9_diagram_68 : decode cX9_diagram 68 = .ok (.iload_n 2, 1) := by decide +kernel
theorem dX9_diagram_69 : decode cX9_diagram 69 = .ok (.iload_n 3, 1) := by decide +kernel
theorem dX9_diagram_70 : decode cX9_diagram 70 = .ok (.iload 4, 2) := by decide +kernel
theorem dX9_diagram_72 : decode cX9_diagram 72 = .ok (.iload 5, 2) := by decide +kernel
theorem dX9_diagram_74 : decode cX9_diagram 74 = .ok (.invokespecial 101, 3) := by decide +kernel
theorem dX9_diagram_77 : decode cX9_diagram 77 = .ok (.invokevirtual 86, 3) := by decide +kernel
theorem dX9_diagram_80 : decode cX9_diagram 80 = .ok (.pop, 1) := by decide +kernel
theorem dX9_diagram_81 : decode cX9_diagram 81 = .ok (.iload 6, 2) := by decide +kernel
theorem dX9_diagram_83 : decode cX9_diagram 83 = .ok (.ireturn, 1) := by decide +kernel
theorem dX9_exam_0 : decode cX9_exam 0 = .ok (.aload_n 0, 1) := by decide +kernel
theorem dX9_exam_1 : decode cX9_exam 1 = .ok (.getfield 28, 3) := by decide +kernel
theorem dX9_exam_4 : decode cX9_exam 4 = .ok (.iload_n 1, 1) := by decide +kernel
theorem dX9_exam_5 : decode cX9_exam 5 = .ok (.invokevirtual 104, 3) := by decide +kernel
theorem dX9_exam_8 : decode cX9_exam 8 = .ok (.astore 5, 2) := by decide +kernel
theorem dX9_exam_10 : decode cX9_exam 10 = .ok (.iload_n 2, 1) := by decide +kernel
theorem dX9_exam_11 : decode cX9_exam 11 = .ok (.bipush 100, 2) := by decide +kernel
theorem dX9_exam_13 : decode cX9_exam 13 = .ok (.ldc 108, 2) := by decide +kernel
theorem dX9_exam_15 : decode cX9_exam 15 = .ok (.invokestatic 66, 3) := by decide +kernel
theorem dX9_exam_18 : decode cX9_exam 18 = .ok (.iload_n 3, 1) := by decide +kernel
theorem dX9_exam_19 : decode cX9_exam 19 = .ok (.iconst 0, 1) := by decide +kernel
theorem dX9_exam_20 : decode cX9_exam 20 = .ok (.bipush 20, 2) := by decide +kernel
theorem dX9_exam_22 : decode cX9_exam 22 = .ok (.invokestatic 66, 3) := by decide +kernel
theorem dX9_exam_25 : decode cX9_exam 25 = .ok (.iload 4, 2) := by decide +kernel
theorem dX9_exam_27 : decode cX9_exam 27 = .ok (.iconst 0, 1) := by decide +kernel
theorem dX9_exam_28 : decode cX9_exam 28 = .ok (.sipush 400, 3) := by decide +kernel
theorem dX9_exam_31 : decode cX9_exam 31 = .ok (.invokestatic 66, 3) := by decide +kernel
theorem dX9_exam_34 : decode cX9_exam 34 = .ok (.aload 5, 2) := by decide +kernel
theorem dX9_exam_36 : decode cX9_exam 36 = .ok (.iload_n 2, 1) := by decide +kernel
theorem dX9_exam_37 : decode cX9_exam 37 = .ok (.putfield 109, 3) := by decide +kernel
theorem dX9_exam_40 : decode cX9_exam 40 = .ok (.aload 5, 2) := by decide +kernel
theorem dX9_exam_42 : decode cX9_exam 42 = .ok (.iload_n 3, 1) := by decide +kernel
theorem dX9_exam_43 : decode cX9_exam 43 = .ok (.putfield 114, 3) := by decide +kernel
theorem dX9_exam_46 : decode cX9_exam 46 = .ok (.aload 5, 2) := by decide +kernel
theorem dX9_exam_48 : decode cX9_exam 48 = .ok (.iload 4, 2) := by decide +kernel
theorem dX9_exam_50 : decode cX9_exam 50 = .ok (.putfield 117, 3) := by decide +kernel
theorem dX9_exam_53 : decode cX9_exam 53 = .ok (.aload 5, 2) := by decide +kernel
theorem dX9_exam_55 : decode cX9_exam 55 = .ok (.invokevirtual 120, 3) := by decide +kernel
theorem dX9_exam_58 : decode cX9_exam 58 = .ok (.ireturn, 1) := by decide +kernel
theorem dX9_list_0 : decode cX9_list 0 = .ok (.aload_n 0, 1) := by decide +kernel
theorem dX9_list_1 : decode cX9_list 1 = .ok (.getfield 28, 3) := by decide +kernel
theorem dX9_list_4 : decode cX9_list 4 = .ok (.iload_n 1, 1) := by decide +kernel
theorem dX9_list_5 : decode cX9_list 5 = .ok (.invokevirtual 123, 3) := by decide +kernel
theorem dX9_list_8 : decode cX9_list 8 = .ok (.astore 4, 2) := by decide +kernel
theorem dX9_list_10 : decode cX9_list 10 = .ok (.iload_n 2, 1) := by decide +kernel
theorem dX9_list_11 : decode cX9_list 11 = .ok (.iconst (-1), 1) := by decide +kernel
theorem dX9_list_12 : decode cX9_list 12 = .ok (.bipush 30, 2) := by decide +kernel
theorem dX9_list_14 : decode cX9_list 14 = .ok (.invokestatic 66, 3) := by decide +kernel
theorem dX9_list_17 : decode cX9_list 17 = .ok (.iload_n 2, 1) := by decide +kernel
theorem dX9_list_18 : decode cX9_list 18 = .ok (.iconst (-1), 1) := by decide +kernel
theorem dX9_list_19 : decode cX9_list 19 = .ok (.if_icmp .eq 9, 3) := by decide +kernel
theorem dX9_list_22 : decode cX9_list 22 = .ok (.iload_n 3, 1) := by decide +kernel
theorem dX9_list_23 : decode cX9_list 23 = .ok (.iconst 0, 1) := by decide +kernel
theorem dX9_list_24 : decode cX9_list 24 = .ok (.iconst 2, 1) := by decide +kernel
theorem dX9_list_25 : decode cX9_list 25 = .ok (.invokestatic 66, 3) := by decide +kernel
theorem dX9_list_28 : decode cX9_list 28 = .ok (.aload 4, 2) := by decide +kernel
theorem dX9_list_30 : decode cX9_list 30 = .ok (.getfield 127, 3) := by decide +kernel
theorem dX9_list_33 : decode cX9_list 33 = .ok (.istore 5, 2) := by decide +kernel
theorem dX9_list_35 : decode cX9_list 35 = .ok (.aload 4, 2) := by decide +kernel
theorem dX9_list_37 : decode cX9_list 37 = .ok (.iload_n 2, 1) := by decide +kernel
theorem dX9_list_38 : decode cX9_list 38 = .ok (.putfield 127, 3) := by decide +kernel
theorem dX9_list_41 : decode cX9_list 41 = .ok (.aload 4, 2) := by decide +kernel
theorem dX9_list_43 : decode cX9_list 43 = .ok (.iload_n 3, 1) := by decide +kernel
theorem dX9_list_44 : decode cX9_list 44 = .ok (.putfield 130, 3) := by decide +kernel
theorem dX9_list_47 : decode cX9_list 47 = .ok (.iload 5, 2) := by decide +kernel
theorem dX9_list_49 : decode cX9_list 49 = .ok (.ireturn, 1) := by decide +kernel
theorem dX9_fault_0 : decode cX9_fault 0 = .ok (.aload_n 0, 1) := by decide +kernel
theorem dX9_fault_1 : decode cX9_fault 1 = .ok (.iload_n 1, 1) := by decide +kernel
theorem dX9_fault_2 : decode cX9_fault 2 = .ok (.invokevirtual 133, 3) := by decide +kernel
theorem dX9_fault_5 : decode cX9_fault 5 = .ok (.astore 5, 2) := by decide +kernel
theorem dX9_fault_7 : decode cX9_fault 7 = .ok (.iload_n 2, 1) := by decide +kernel
theorem dX9_fault_8 : decode cX9_fault 8 = .ok (.iconst 4, 1) := by decide +kernel
theorem dX9_fault_9 : decode cX9_fault 9 = .ok (.invokestatic 94, 3) := by decide +kernel
theorem dX9_fault_12 : decode cX9_fault 12 = .ok (.iload_n 2, 1) := by decide +kernel
theorem dX9_fault_13 : decode cX9_fault 13 = .ok (.ifCond .eq 8, 3) := by decide +kernel
theorem dX9_fault_16 : decode cX9_fault 16 = .ok (.iload_n 2, 1) := by decide +kernel
theorem dX9_fault_17 : decode cX9_fault 17 = .ok (.iconst 1, 1) := by decide +kernel
theorem dX9_fault_18 : decode cX9_fault 18 = .ok (.if_icmp .ne 7, 3) := by decide +kernel
theorem dX9_fault_21 : decode cX9_fault 21 = .ok (.iconst 1, 1) := by decide +kernel
theorem dX9_fault_22 : decode cX9_fault 22 = .ok (.goto 4, 3) := by decide +kernel
theorem dX9_fault_25 : decode cX9_fault 25 = .ok (.iconst 0, 1) := by decide +kernel
theorem dX9_fault_26 : decode cX9_fault 26 = .ok (.istore 6, 2) := by decide +kernel
theorem dX9_fault_28 : decode cX9_fault 28 = .ok (.iload_n 2, 1) := by decide +kernel
theorem dX9_fault_29 : decode cX9_fault 29 = .ok (.ifCond .eq 8, 3) := by decide +kernel
theorem dX9_fault_32 : decode cX9_fault 32 = .ok (.iload_n 2, 1) := by decide +kernel
theorem dX9_fault_33 : decode cX9_fault 33 = .ok (.iconst 2, 1) := by decide +kernel
theorem dX9_fault_34 : decode cX9_fault 34 = .ok (.if_icmp .ne 7, 3) := by decide +kernel
theorem dX9_fault_37 : decode cX9_fault 37 = .ok (.iconst 1, 1) := by decide +kernel
theorem dX9_fault_38 : decode cX9_fault 38 = .ok (.goto 4, 3) := by decide +kernel
theorem dX9_fault_41 : decode cX9_fault 41 = .ok (.iconst 0, 1) := by decide +kernel
theorem dX9_fault_42 : decode cX9_fault 42 = .ok (.istore 7, 2) := by decide +kernel
theorem dX9_fault_44 : decode cX9_fault 44 = .ok (.iload 6, 2) := by decide +kernel
theorem dX9_fault_46 : decode cX9_fault 46 = .ok (.ifCond .eq 16, 3) := by decide +kernel
theorem dX9_fault_49 : decode cX9_fault 49 = .ok (.iload_n 3, 1) := by decide +kernel
theorem dX9_fault_50 : decode cX9_fault 50 = .ok (.iload_n 2, 1) := by decide +kernel
theorem dX9_fault_51 : decode cX9_fault 51 = .ok (.ifCond .ne 7, 3) := by decide +kernel
theorem dX9_fault_54 : decode cX9_fault 54 = .ok (.iconst 4, 1) := by decide +kernel
theorem dX9_fault_55 : decode cX9_fault 55 = .ok (.goto 4, 3) := by decide +kernel
theorem dX9_fault_58 : decode cX9_fault 58 = .ok (.iconst 4, 1) := by decide +kernel
theorem dX9_fault_59 : decode cX9_fault 59 = .ok (.invokestatic 94, 3) := by decide +kernel
theorem dX9_fault_62 : decode cX9_fault 62 = .ok (.iload 7, 2) := by decide +kernel
theorem dX9_fault_64 : decode cX9_fault 64 = .ok (.ifCond .eq 20, 3) := by decide +kernel
theorem dX9_fault_67 : decode cX9_fault 67 = .ok (.iload 4, 2) := by decide +kernel
theorem dX9_fault_69 : decode cX9_fault 69 = .ok (.iconst 1, 1) := by decide +kernel
theorem dX9_fault_70 : decode cX9_fault 70 = .ok (.iload_n 2, 1) := by decide +kernel
theorem dX9_fault_71 : decode cX9_fault 71 = .ok (.ifCond .ne 8, 3) := by decide +kernel
theorem dX9_fault_74 : decode cX9_fault 74 = .ok (.bipush 20, 2) := by decide +kernel
theorem dX9_fault_76 : decode cX9_fault 76 = .ok (.goto 5, 3) := by decide +kernel
theorem dX9_fault_79 : decode cX9_fault 79 = .ok (.bipush 100, 2) := by decide +kernel
theorem dX9_fault_81 : decode cX9_fault 81 = .ok (.invokestatic 66, 3) := by decide +kernel
theorem dX9_fault_84 : decode cX9_fault 84 = .ok (.aload 5, 2) := by decide +kernel
theorem dX9_fault_86 : decode cX9_fault 86 = .ok (.getfield 137, 3) := by decide +kernel
theorem dX9_fault_89 : decode cX9_fault 89 = .ok (.invokevirtual 70, 3) := by decide +kernel
theorem dX9_fault_92 : decode cX9_fault 92 = .ok (.bipush 8, 2) := by decide +kernel
theorem dX9_fault_94 : decode cX9_fault 94 = .ok (.if_icmp .lt 13, 3) := by decide +kernel
theorem dX9_fault_97 : decode cX9_fault 97 = .ok (.new 74, 3) := by decide +kernel
theorem dX9_fault_100 : decode cX9_fault 100 = .ok (.dup, 1) := by decide +kernel
theorem dX9_fault_101 : decode cX9_fault 101 = .ok (.ldc 140, 2) := by decide +kernel
theorem dX9_fault_103 : decode cX9_fault 103 = .ok (.invokespecial 78, 3) := by decide +kernel
theorem dX9_fault_106 : decode cX9_fault 106 = .ok (.athrow, 1) := by decide +kernel
theorem dX9_fault_107 : decode cX9_fault 107 = .ok (.aload 5, 2) := by decide +kernel
theorem dX9_fault_109 : decode cX9_fault 109 = .ok (.getfield 137, 3) := by decide +kernel
theorem dX9_fault_112 : decode cX9_fault 112 = .ok (.new 142, 3) := by decide +kernel
theorem dX9_fault_115 : decode cX9_fault 115 = .ok (.dup, 1) := by decide +kernel
theorem dX9_fault_116 : decode cX9_fault 116 = .ok (.iload_n 2, 1) := by decide +kernel
theorem dX9_fault_117 : decode cX9_fault 117 = .ok (.aload_n 0, 1) := by decide +kernel
theorem dX9_fault_118 : decode cX9_fault 118 = .ok (.getfield 46, 3) := by decide +kernel
theorem dX9_fault_121 : decode cX9_fault 121 = .ok (.iload 6, 2) := by decide +kernel
theorem dX9_fault_123 : decode cX9_fault 123 = .ok (.ifCond .eq 7, 3) := by decide +kernel
theorem dX9_fault_126 : decode cX9_fault 126 = .ok (.iload_n 3, 1) := by decide +kernel
theorem dX9_fault_127 : decode cX9_fault 127 = .ok (.goto 4, 3) := by decide +kernel
theorem dX9_fault_130 : decode cX9_fault 130 = .ok (.iconst (-1), 1) := by decide +kernel
theorem dX9_fault_131 : decode cX9_fault 131 = .ok (.iload 7, 2) := by decide +kernel
theorem dX9_fault_133 : decode cX9_fault 133 = .ok (.ifCond .eq 8, 3) := by decide +kernel
theorem dX9_fault_136 : decode cX9_fault 136 = .ok (.iload 4, 2) := by decide +kernel
theorem dX9_fault_138 : decode cX9_fault 138 = .ok (.goto 4, 3) := by decide +kernel
theorem dX9_fault_141 : decode cX9_fault 141 = .ok (.iconst (-1), 1) := by decide +kernel
theorem dX9_fault_142 : decode cX9_fault 142 = .ok (.invokespecial 144, 3) := by decide +kernel
theorem dX9_fault_145 : decode cX9_fault 145 = .ok (.invokevirtual 86, 3) := by decide +kernel
theorem dX9_fault_148 : decode cX9_fault 148 = .ok (.pop, 1) := by decide +kernel
theorem dX9_fault_149 : decode cX9_fault 149 = .ok (.aload 5, 2) := by decide +kernel
theorem dX9_fault_151 : decode cX9_fault 151 = .ok (.getfield 137, 3) := by decide +kernel
theorem dX9_fault_154 : decode cX9_fault 154 = .ok (.invokevirtual 70, 3) := by decide +kernel
theorem dX9_fault_157 : decode cX9_fault 157 = .ok (.ireturn, 1) := by decide +kernel
theorem dX9_pin_0 : decode cX9_pin 0 = .ok (.aload_n 0, 1) := by decide +kernel
theorem dX9_pin_1 : decode cX9_pin 1 = .ok (.iload_n 1, 1) := by decide +kernel
theorem dX9_pin_2 : decode cX9_pin 2 = .ok (.invokevirtual 147, 3) := by decide +kernel
theorem dX9_pin_5 : decode cX9_pin 5 = .ok (.astore_n 3, 1) := by decide +kernel
theorem dX9_pin_6 : decode cX9_pin 6 = .ok (.iload_n 2, 1) := by decide +kernel
theorem dX9_pin_7 : decode cX9_pin 7 = .ok (.iconst (-1), 1) := by decide +kernel
theorem dX9_pin_8 : decode cX9_pin 8 = .ok (.if_icmp .eq 14, 3) := by decide +kernel
theorem dX9_pin_11 : decode cX9_pin 11 = .ok (.iload_n 2, 1) := by decide +kernel
theorem dX9_pin_12 : decode cX9_pin 12 = .ok (.aload_n 0, 1) := by decide +kernel
theorem dX9_pin_13 : decode cX9_pin 13 = .ok (.getfield 10, 3) := by decide +kernel
theorem dX9_pin_16 : decode cX9_pin 16 = .ok (.invokevirtual 70, 3) := by decide +kernel
theorem dX9_pin_19 : decode cX9_pin 19 = .ok (.invokestatic 94, 3) := by decide +kernel
theorem dX9_pin_22 : decode cX9_pin 22 = .ok (.aload_n 3, 1) := by decide +kernel
theorem dX9_pin_23 : decode cX9_pin 23 = .ok (.getfield 151, 3) := by decide +kernel
theorem dX9_pin_26 : decode cX9_pin 26 = .ok (.istore 4, 2) := by decide +kernel
theorem dX9_pin_28 : decode cX9_pin 28 = .ok (.aload_n 3, 1) := by decide +kernel
theorem dX9_pin_29 : decode cX9_pin 29 = .ok (.iload_n 2, 1) := by decide +kernel
theorem dX9_pin_30 : decode cX9_pin 30 = .ok (.putfield 151, 3) := by decide +kernel
theorem dX9_pin_33 : decode cX9_pin 33 = .ok (.iload 4, 2) := by decide +kernel
theorem dX9_pin_35 : decode cX9_pin 35 = .ok (.ireturn, 1) := by decide +kernel
theorem dX9_whyNot_0 : decode cX9_whyNot 0 = .ok (.aload_n 0, 1) := by decide +kernel
theorem dX9_whyNot_1 : decode cX9_whyNot 1 = .ok (.getfield 28, 3) := by decide +kernel
theorem dX9_whyNot_4 : decode cX9_whyNot 4 = .ok (.aload_n 0, 1) := by decide +kernel
theorem dX9_whyNot_5 : decode cX9_whyNot 5 = .ok (.iload_n 1, 1) := by decide +kernel
theorem dX9_whyNot_6 : decode cX9_whyNot 6 = .ok (.invokevirtual 133, 3) := by decide +kernel
theorem dX9_whyNot_9 : decode cX9_whyNot 9 = .ok (.aload_n 0, 1) := by decide +kernel
theorem dX9_whyNot_10 : decode cX9_whyNot 10 = .ok (.iload_n 2, 1) := by decide +kernel
theorem dX9_whyNot_11 : decode cX9_whyNot 11 = .ok (.invokevirtual 147, 3) := by decide +kernel
theorem dX9_whyNot_14 : decode cX9_whyNot 14 = .ok (.aload_n 0, 1) := by decide +kernel
theorem dX9_whyNot_15 : decode cX9_whyNot 15 = .ok (.getfield 46, 3) := by decide +kernel
theorem dX9_whyNot_18 : decode cX9_whyNot 18 = .ok (.invokevirtual 154, 3) := by decide +kernel
theorem dX9_whyNot_21 : decode cX9_whyNot 21 = .ok (.ireturn, 1) := by decide +kernel
theorem dX9_allocation_0 : decode cX9_allocation 0 = .ok (.iload_n 1, 1) := by decide +kernel
theorem dX9_allocation_1 : decode cX9_allocation 1 = .ok (.aload_n 0, 1) := by decide +kernel
theorem dX9_allocation_2 : decode cX9_allocation 2 = .ok (.getfield 16, 3) := by decide +kernel
theorem dX9_allocation_5 : decode cX9_allocation 5 = .ok (.invokevirtual 70, 3) := by decide +kernel
theorem dX9_allocation_8 : decode cX9_allocation 8 = .ok (.invokestatic 94, 3) := by decide +kernel
theorem dX9_allocation_11 : decode cX9_allocation 11 = .ok (.aload_n 0, 1) := by decide +kernel
theorem dX9_allocation_12 : decode cX9_allocation 12 = .ok (.invokevirtual 158, 3) := by decide +kernel
theorem dX9_allocation_15 : decode cX9_allocation 15 = .ok (.aload_n 0, 1) := by decide +kernel
theorem dX9_allocation_16 : decode cX9_allocation 16 = .ok (.getfield 35, 3) := by decide +kernel
theorem dX9_allocation_19 : decode cX9_allocation 19 = .ok (.invokevirtual 161, 3) := by decide +kernel
theorem dX9_allocation_22 : decode cX9_allocation 22 = .ok (.aload_n 0, 1) := by decide +kernel
theorem dX9_allocation_23 : decode cX9_allocation 23 = .ok (.getfield 35, 3) := by decide +kernel
theorem dX9_allocation_26 : decode cX9_allocation 26 = .ok (.iload_n 1, 1) := by decide +kernel
theorem dX9_allocation_27 : decode cX9_allocation 27 = .ok (.invokevirtual 164, 3) := by decide +kernel
theorem dX9_allocation_30 : decode cX9_allocation 30 = .ok (.ireturn, 1) := by decide +kernel
theorem dX9_allocationAnew_0 : decode cX9_allocationAnew 0 = .ok (.iload_n 1, 1) := by decide +kernel
theorem dX9_allocationAnew_1 : decode cX9_allocationAnew 1 = .ok (.aload_n 0, 1) := by decide +kernel
theorem dX9_allocationAnew_2 : decode cX9_allocationAnew 2 = .ok (.getfield 16, 3) := by decide +kernel
theorem dX9_allocationAnew_5 : decode cX9_allocationAnew 5 = .ok (.invokevirtual 70, 3) := by decide +kernel
theorem dX9_allocationAnew_8 : decode cX9_allocationAnew 8 = .ok (.invokestatic 94, 3) := by decide +kernel
theorem dX9_allocationAnew_11 : decode cX9_allocationAnew 11 = .ok (.aload_n 0, 1) := by decide +kernel
theorem dX9_allocationAnew_12 : decode cX9_allocationAnew 12 = .ok (.getfield 16, 3) := by decide +kernel
theorem dX9_allocationAnew_15 : decode cX9_allocationAnew 15 = .ok (.invokevirtual 70, 3) := by decide +kernel
theorem dX9_allocationAnew_18 : decode cX9_allocationAnew 18 = .ok (.iconst 4, 1) := by decide +kernel
theorem dX9_allocationAnew_19 : decode cX9_allocationAnew 19 = .ok (.if_icmp .le 13, 3) := by decide +kernel
theorem dX9_allocationAnew_22 : decode cX9_allocationAnew 22 = .ok (.new 74, 3) := by decide +kernel
theorem dX9_allocationAnew_25 : decode cX9_allocationAnew 25 = .ok (.dup, 1) := by decide +kernel
theorem dX9_allocationAnew_26 : decode cX9_allocationAnew 26 = .ok (.ldc 168, 2) := by decide +kernel
theorem dX9_allocationAnew_28 : decode cX9_allocationAnew 28 = .ok (.invokespecial 78, 3) := by decide +kernel
theorem dX9_allocationAnew_31 : decode cX9_allocationAnew 31 = .ok (.athrow, 1) := by decide +kernel
theorem dX9_allocationAnew_32 : decode cX9_allocationAnew 32 = .ok (.aload_n 0, 1) := by decide +kernel
theorem dX9_allocationAnew_33 : decode cX9_allocationAnew 33 = .ok (.invokevirtual 158, 3) := by decide +kernel
theorem dX9_allocationAnew_36 : decode cX9_allocationAnew 36 = .ok (.aload_n 0, 1) := by decide +kernel
theorem dX9_allocationAnew_37 : decode cX9_allocationAnew 37 = .ok (.getfield 35, 3) := by decide +kernel
theorem dX9_allocationAnew_40 : decode cX9_allocationAnew 40 = .ok (.invokevirtual 170, 3) := by decide +kernel
theorem dX9_allocationAnew_43 : decode cX9_allocationAnew 43 = .ok (.aload_n 0, 1) := by decide +kernel
theorem dX9_allocationAnew_44 : decode cX9_allocationAnew 44 = .ok (.getfield 35, 3) := by decide +kernel
theorem dX9_allocationAnew_47 : decode cX9_allocationAnew 47 = .ok (.iload_n 1, 1) := by decide +kernel
theorem dX9_allocationAnew_48 : decode cX9_allocationAnew 48 = .ok (.invokevirtual 164, 3) := by decide +kernel
theorem dX9_allocationAnew_51 : decode cX9_allocationAnew 51 = .ok (.ireturn, 1) := by decide +kernel
theorem dX9_lack_0 : decode cX9_lack 0 = .ok (.aload_n 0, 1) := by decide +kernel
theorem dX9_lack_1 : decode cX9_lack 1 = .ok (.invokevirtual 158, 3) := by decide +kernel
theorem dX9_lack_4 : decode cX9_lack 4 = .ok (.aload_n 0, 1) := by decide +kernel
theorem dX9_lack_5 : decode cX9_lack 5 = .ok (.getfield 35, 3) := by decide +kernel
theorem dX9_lack_8 : decode cX9_lack 8 = .ok (.invokevirtual 161, 3) := by decide +kernel
theorem dX9_lack_11 : decode cX9_lack 11 = .ok (.aload_n 0, 1) := by decide +kernel
theorem dX9_lack_12 : decode cX9_lack 12 = .ok (.getfield 35, 3) := by decide +kernel
theorem dX9_lack_15 : decode cX9_lack 15 = .ok (.invokevirtual 173, 3) := by decide +kernel
theorem dX9_lack_18 : decode cX9_lack 18 = .ok (.ireturn, 1) := by decide +kernel
theorem dX9_day_0 : decode cX9_day 0 = .ok (.aload_n 0, 1) := by decide +kernel
theorem dX9_day_1 : decode cX9_day 1 = .ok (.getfield 46, 3) := by decide +kernel
theorem dX9_day_4 : decode cX9_day 4 = .ok (.sipush 200, 3) := by decide +kernel
theorem dX9_day_7 : decode cX9_day 7 = .ok (.if_icmp .lt 13, 3) := by decide +kernel
theorem dX9_day_10 : decode cX9_day 10 = .ok (.new 74, 3) := by decide +kernel
theorem dX9_day_13 : decode cX9_day 13 = .ok (.dup, 1) := by decide +kernel
theorem dX9_day_14 : decode cX9_day 14 = .ok (.ldc 176, 2) := by decide +kernel
theorem dX9_day_16 : decode cX9_day 16 = .ok (.invokespecial 78, 3) := by decide +kernel
theorem dX9_day_19 : decode cX9_day 19 = .ok (.athrow, 1) := by decide +kernel
theorem dX9_day_20 : decode cX9_day 20 = .ok (.aload_n 0, 1) := by decide +kernel
theorem dX9_day_21 : decode cX9_day 21 = .ok (.invokevirtual 158, 3) := by decide +kernel
theorem dX9_day_24 : decode cX9_day 24 = .ok (.aload_n 0, 1) := by decide +kernel
theorem dX9_day_25 : decode cX9_day 25 = .ok (.getfield 35, 3) := by decide +kernel
theorem dX9_day_28 : decode cX9_day 28 = .ok (.invokevirtual 161, 3) := by decide +kernel
theorem dX9_day_31 : decode cX9_day 31 = .ok (.aload_n 0, 1) := by decide +kernel
theorem dX9_day_32 : decode cX9_day 32 = .ok (.invokevirtual 178, 3) := by decide +kernel
theorem dX9_day_35 : decode cX9_day 35 = .ok (.aload_n 0, 1) := by decide +kernel
theorem dX9_day_36 : decode cX9_day 36 = .ok (.invokevirtual 181, 3) := by decide +kernel
theorem dX9_day_39 : decode cX9_day 39 = .ok (.iconst 0, 1) := by decide +kernel
theorem dX9_day_40 : decode cX9_day 40 = .ok (.istore_n 1, 1) := by decide +kernel
theorem dX9_day_41 : decode cX9_day 41 = .ok (.iload_n 1, 1) := by decide +kernel
theorem dX9_day_42 : decode cX9_day 42 = .ok (.aload_n 0, 1) := by decide +kernel
theorem dX9_day_43 : decode cX9_day 43 = .ok (.getfield 10, 3) := by decide +kernel
theorem dX9_day_46 : decode cX9_day 46 = .ok (.invokevirtual 70, 3) := by decide +kernel
theorem dX9_day_49 : decode cX9_day 49 = .ok (.if_icmp .ge 17, 3) := by decide +kernel
theorem dX9_day_52 : decode cX9_day 52 = .ok (.aload_n 0, 1) := by decide +kernel
theorem dX9_day_53 : decode cX9_day 53 = .ok (.iload_n 1, 1) := by decide +kernel
theorem dX9_day_54 : decode cX9_day 54 = .ok (.invokevirtual 133, 3) := by decide +kernel
theorem dX9_day_57 : decode cX9_day 57 = .ok (.invokevirtual 184, 3) := by decide +kernel
theorem dX9_day_60 : decode cX9_day 60 = .ok (.iinc 1 1, 3) := by decide +kernel
theorem dX9_day_63 : decode cX9_day 63 = .ok (.goto (-22), 3) := by decide +kernel
theorem dX9_day_66 : decode cX9_day 66 = .ok (.aload_n 0, 1) := by decide +kernel
theorem dX9_day_67 : decode cX9_day 67 = .ok (.iconst 0, 1) := by decide +kernel
theorem dX9_day_68 : decode cX9_day 68 = .ok (.putfield 53, 3) := by decide +kernel
theorem dX9_day_71 : decode cX9_day 71 = .ok (.aload_n 0, 1) := by decide +kernel
theorem dX9_day_72 : decode cX9_day 72 = .ok (.iconst 0, 1) := by decide +kernel
theorem dX9_day_73 : decode cX9_day 73 = .ok (.putfield 57, 3) := by decide +kernel
theorem dX9_day_76 : decode cX9_day 76 = .ok (.aload_n 0, 1) := by decide +kernel
theorem dX9_day_77 : decode cX9_day 77 = .ok (.dup, 1) := by decide +kernel
theorem dX9_day_78 : decode cX9_day 78 = .ok (.getfield 46, 3) := by decide +kernel
theorem dX9_day_81 : decode cX9_day 81 = .ok (.iconst 1, 1) := by decide +kernel
theorem dX9_day_82 : decode cX9_day 82 = .ok (.iadd, 1) := by decide +kernel
theorem dX9_day_83 : decode cX9_day 83 = .ok (.putfield 46, 3) := by decide +kernel
theorem dX9_day_86 : decode cX9_day 86 = .ok (.aload_n 0, 1) := by decide +kernel
theorem dX9_day_87 : decode cX9_day 87 = .ok (.getfield 35, 3) := by decide +kernel
theorem dX9_day_90 : decode cX9_day 90 = .ok (.invokevirtual 173, 3) := by decide +kernel
theorem dX9_day_93 : decode cX9_day 93 = .ok (.ireturn, 1) := by decide +kernel
theorem dX9_examine_0 : decode cX9_examine 0 = .ok (.aload_n 0, 1) := by decide +kernel
theorem dX9_examine_1 : decode cX9_examine 1 = .ok (.iload_n 1, 1) := by decide +kernel
theorem dX9_examine_2 : decode cX9_examine 2 = .ok (.invokevirtual 133, 3) := by decide +kernel
theorem dX9_examine_5 : decode cX9_examine 5 = .ok (.astore_n 3, 1) := by decide +kernel
theorem dX9_examine_6 : decode cX9_examine 6 = .ok (.iload_n 2, 1) := by decide +kernel
theorem dX9_examine_7 : decode cX9_examine 7 = .ok (.iconst 3, 1) := by decide +kernel
theorem dX9_examine_8 : decode cX9_examine 8 = .ok (.invokestatic 94, 3) := by decide +kernel
theorem dX9_examine_11 : decode cX9_examine 11 = .ok (.aload_n 3, 1) := by decide +kernel
theorem dX9_examine_12 : decode cX9_examine 12 = .ok (.getfield 187, 3) := by decide +kernel
theorem dX9_examine_15 : decode cX9_examine 15 = .ok (.ifCond .ne 10, 3) := by decide +kernel
theorem dX9_examine_18 : decode cX9_examine 18 = .ok (.aload_n 0, 1) := by decide +kernel
theorem dX9_examine_19 : decode cX9_examine 19 = .ok (.getfield 53, 3) := by decide +kernel
theorem dX9_examine_22 : decode cX9_examine 22 = .ok (.ifCond .eq 13, 3) := by decide +kernel
theorem dX9_examine_25 : decode cX9_examine 25 = .ok (.new 74, 3) := by decide +kernel
theorem dX9_examine_28 : decode cX9_examine 28 = .ok (.dup, 1) := by decide +kernel
theorem dX9_examine_29 : decode cX9_examine 29 = .ok (.ldc 190, 2) := by decide +kernel
theorem dX9_examine_31 : decode cX9_examine 31 = .ok (.invokespecial 78, 3) := by decide +kernel
theorem dX9_examine_34 : decode cX9_examine 34 = .ok (.athrow, 1) := by decide +kernel
theorem dX9_examine_35 : decode cX9_examine 35 = .ok (.aload_n 0, 1) := by decide +kernel
theorem dX9_examine_36 : decode cX9_examine 36 = .ok (.iconst 1, 1) := by decide +kernel
theorem dX9_examine_37 : decode cX9_examine 37 = .ok (.putfield 53, 3) := by decide +kernel
theorem dX9_examine_40 : decode cX9_examine 40 = .ok (.aload_n 3, 1) := by decide +kernel
theorem dX9_examine_41 : decode cX9_examine 41 = .ok (.iload_n 2, 1) := by decide +kernel
theorem dX9_examine_42 : decode cX9_examine 42 = .ok (.invokevirtual 192, 3) := by decide +kernel
theorem dX9_examine_45 : decode cX9_examine 45 = .ok (.iload_n 2, 1) := by decide +kernel
theorem dX9_examine_46 : decode cX9_examine 46 = .ok (.iconst 1, 1) := by decide +kernel
theorem dX9_examine_47 : decode cX9_examine 47 = .ok (.iadd, 1) := by decide +kernel
theorem dX9_examine_48 : decode cX9_examine 48 = .ok (.ireturn, 1) := by decide +kernel
theorem dX9_lathe_0 : decode cX9_lathe 0 = .ok (.aload_n 0, 1) := by decide +kernel
theorem dX9_lathe_1 : decode cX9_lathe 1 = .ok (.iload_n 1, 1) := by decide +kernel
theorem dX9_lathe_2 : decode cX9_lathe 2 = .ok (.invokevirtual 133, 3) := by decide +kernel
theorem dX9_lathe_5 : decode cX9_lathe 5 = .ok (.astore_n 2, 1) := by decide +kernel
theorem dX9_lathe_6 : decode cX9_lathe 6 = .ok (.aload_n 2, 1) := by decide +kernel
theorem dX9_lathe_7 : decode cX9_lathe 7 = .ok (.getfield 187, 3) := by decide +kernel
theorem dX9_lathe_10 : decode cX9_lathe 10 = .ok (.ifCond .ne 10, 3) := by decide +kernel
theorem dX9_lathe_13 : decode cX9_lathe 13 = .ok (.aload_n 0, 1) := by decide +kernel
theorem dX9_lathe_14 : decode cX9_lathe 14 = .ok (.getfield 57, 3) := by decide +kernel
theorem dX9_lathe_17 : decode cX9_lathe 17 = .ok (.ifCond .eq 13, 3) := by decide +kernel
theorem dX9_lathe_20 : decode cX9_lathe 20 = .ok (.new 74, 3) := by decide +kernel
theorem dX9_lathe_23 : decode cX9_lathe 23 = .ok (.dup, 1) := by decide +kernel
theorem dX9_lathe_24 : decode cX9_lathe 24 = .ok (.ldc 195, 2) := by decide +kernel
theorem dX9_lathe_26 : decode cX9_lathe 26 = .ok (.invokespecial 78, 3) := by decide +kernel
theorem dX9_lathe_29 : decode cX9_lathe 29 = .ok (.athrow, 1) := by decide +kernel
theorem dX9_lathe_30 : decode cX9_lathe 30 = .ok (.aload_n 0, 1) := by decide +kernel
theorem dX9_lathe_31 : decode cX9_lathe 31 = .ok (.iconst 1, 1) := by decide +kernel
theorem dX9_lathe_32 : decode cX9_lathe 32 = .ok (.putfield 57, 3) := by decide +kernel
theorem dX9_lathe_35 : decode cX9_lathe 35 = .ok (.aload_n 2, 1) := by decide +kernel
theorem dX9_lathe_36 : decode cX9_lathe 36 = .ok (.invokevirtual 197, 3) := by decide +kernel
theorem dX9_lathe_39 : decode cX9_lathe 39 = .ok (.ireturn, 1) := by decide +kernel
theorem dX9_mend_0 : decode cX9_mend 0 = .ok (.aload_n 0, 1) := by decide +kernel
theorem dX9_mend_1 : decode cX9_mend 1 = .ok (.iload_n 1, 1) := by decide +kernel
theorem dX9_mend_2 : decode cX9_mend 2 = .ok (.invokevirtual 133, 3) := by decide +kernel
theorem dX9_mend_5 : decode cX9_mend 5 = .ok (.astore_n 3, 1) := by decide +kernel
theorem dX9_mend_6 : decode cX9_mend 6 = .ok (.aload_n 3, 1) := by decide +kernel
theorem dX9_mend_7 : decode cX9_mend 7 = .ok (.iload_n 2, 1) := by decide +kernel
theorem dX9_mend_8 : decode cX9_mend 8 = .ok (.invokevirtual 200, 3) := by decide +kernel
theorem dX9_mend_11 : decode cX9_mend 11 = .ok (.getfield 204, 3) := by decide +kernel
theorem dX9_mend_14 : decode cX9_mend 14 = .ok (.istore 4, 2) := by decide +kernel
theorem dX9_mend_16 : decode cX9_mend 16 = .ok (.iload 4, 2) := by decide +kernel
theorem dX9_mend_18 : decode cX9_mend 18 = .ok (.ifCond .ne 13, 3) := by decide +kernel
theorem dX9_mend_21 : decode cX9_mend 21 = .ok (.new 74, 3) := by decide +kernel
theorem dX9_mend_24 : decode cX9_mend 24 = .ok (.dup, 1) := by decide +kernel
theorem dX9_mend_25 : decode cX9_mend 25 = .ok (.ldc 207, 2) := by decide +kernel
theorem dX9_mend_27 : decode cX9_mend 27 = .ok (.invokespecial 78, 3) := by decide +kernel
theorem dX9_mend_30 : decode cX9_mend 30 = .ok (.athrow, 1) := by decide +kernel
theorem dX9_mend_31 : decode cX9_mend 31 = .ok (.aload_n 3, 1) := by decide +kernel
theorem dX9_mend_32 : decode cX9_mend 32 = .ok (.iload_n 2, 1) := by decide +kernel
theorem dX9_mend_33 : decode cX9_mend 33 = .ok (.invokevirtual 209, 3) := by decide +kernel
theorem dX9_mend_36 : decode cX9_mend 36 = .ok (.iload 4, 2) := by decide +kernel
theorem dX9_mend_38 : decode cX9_mend 38 = .ok (.ireturn, 1) := by decide +kernel
theorem dX9_today_0 : decode cX9_today 0 = .ok (.aload_n 0, 1) := by decide +kernel
theorem dX9_today_1 : decode cX9_today 1 = .ok (.getfield 46, 3) := by decide +kernel
theorem dX9_today_4 : decode cX9_today 4 = .ok (.ireturn, 1) := by decide +kernel
theorem dX9_about_0 : decode cX9_about 0 = .ok (.aload_n 0, 1) := by decide +kernel
theorem dX9_about_1 : decode cX9_about 1 = .ok (.iload_n 1, 1) := by decide +kernel
theorem dX9_about_2 : decode cX9_about 2 = .ok (.invokevirtual 133, 3) := by decide +kernel
theorem dX9_about_5 : decode cX9_about 5 = .ok (.astore_n 3, 1) := by decide +kernel
theorem dX9_about_6 : decode cX9_about 6 = .ok (.iload_n 2, 1) := by decide +kernel
theorem dX9_about_7 : decode cX9_about 7 = .ok (.tableswitch 94 0 5 #[37, 42, 47, 55, 68, 85], 37) := by decide +kernel
theorem dX9_about_44 : decode cX9_about 44 = .ok (.aload_n 3, 1) := by decide +kernel
theorem dX9_about_45 : decode cX9_about 45 = .ok (.getfield 187, 3) := by decide +kernel
theorem dX9_about_48 : decode cX9_about 48 = .ok (.ireturn, 1) := by decide +kernel
theorem dX9_about_49 : decode cX9_about 49 = .ok (.aload_n 3, 1) := by decide +kernel
theorem dX9_about_50 : decode cX9_about 50 = .ok (.getfield 212, 3) := by decide +kernel
theorem dX9_about_53 : decode cX9_about 53 = .ok (.ireturn, 1) := by decide +kernel
theorem dX9_about_54 : decode cX9_about 54 = .ok (.aload_n 3, 1) := by decide +kernel
theorem dX9_about_55 : decode cX9_about 55 = .ok (.getfield 137, 3) := by decide +kernel
theorem dX9_about_58 : decode cX9_about 58 = .ok (.invokevirtual 70, 3) := by decide +kernel
theorem dX9_about_61 : decode cX9_about 61 = .ok (.ireturn, 1) := by decide +kernel
theorem dX9_about_62 : decode cX9_about 62 = .ok (.aload_n 0, 1) := by decide +kernel
theorem dX9_about_63 : decode cX9_about 63 = .ok (.aload_n 3, 1) := by decide +kernel
theorem dX9_about_64 : decode cX9_about 64 = .ok (.getfield 187, 3) := by decide +kernel
theorem dX9_about_67 : decode cX9_about 67 = .ok (.invokevirtual 61, 3) := by decide +kernel
theorem dX9_about_70 : decode cX9_about 70 = .ok (.iload_n 1, 1) := by decide +kernel
theorem dX9_about_71 : decode cX9_about 71 = .ok (.invokevirtual 215, 3) := by decide +kernel
theorem dX9_about_74 : decode cX9_about 74 = .ok (.ireturn, 1) := by decide +kernel
theorem dX9_about_75 : decode cX9_about 75 = .ok (.aload_n 0, 1) := by decide +kernel
theorem dX9_about_76 : decode cX9_about 76 = .ok (.getfield 28, 3) := by decide +kernel
theorem dX9_about_79 : decode cX9_about 79 = .ok (.aload_n 3, 1) := by decide +kernel
theorem dX9_about_80 : decode cX9_about 80 = .ok (.invokevirtual 218, 3) := by decide +kernel
theorem dX9_about_83 : decode cX9_about 83 = .ok (.ifCond .eq 7, 3) := by decide +kernel
theorem dX9_about_86 : decode cX9_about 86 = .ok (.iconst 1, 1) := by decide +kernel
theorem dX9_about_87 : decode cX9_about 87 = .ok (.goto 4, 3) := by decide +kernel
theorem dX9_about_90 : decode cX9_about 90 = .ok (.iconst 0, 1) := by decide +kernel
theorem dX9_about_91 : decode cX9_about 91 = .ok (.ireturn, 1) := by decide +kernel
theorem dX9_about_92 : decode cX9_about 92 = .ok (.aload_n 0, 1) := by decide +kernel
theorem dX9_about_93 : decode cX9_about 93 = .ok (.getfield 28, 3) := by decide +kernel
theorem dX9_about_96 : decode cX9_about 96 = .ok (.aload_n 3, 1) := by decide +kernel
theorem dX9_about_97 : decode cX9_about 97 = .ok (.invokevirtual 222, 3) := by decide +kernel
theorem dX9_about_100 : decode cX9_about 100 = .ok (.ireturn, 1) := by decide +kernel
theorem dX9_about_101 : decode cX9_about 101 = .ok (.new 226, 3) := by decide +kernel
theorem dX9_about_104 : decode cX9_about 104 = .ok (.dup, 1) := by decide +kernel
theorem dX9_about_105 : decode cX9_about 105 = .ok (.ldc 228, 2) := by decide +kernel
theorem dX9_about_107 : decode cX9_about 107 = .ok (.invokespecial 230, 3) := by decide +kernel
theorem dX9_about_110 : decode cX9_about 110 = .ok (.athrow, 1) := by decide +kernel
theorem dX9_clock_0 : decode cX9_clock 0 = .ok (.aload_n 0, 1) := by decide +kernel
theorem dX9_clock_1 : decode cX9_clock 1 = .ok (.iload_n 1, 1) := by decide +kernel
theorem dX9_clock_2 : decode cX9_clock 2 = .ok (.invokevirtual 133, 3) := by decide +kernel
theorem dX9_clock_5 : decode cX9_clock 5 = .ok (.astore 4, 2) := by decide +kernel
theorem dX9_clock_7 : decode cX9_clock 7 = .ok (.iload_n 2, 1) := by decide +kernel
theorem dX9_clock_8 : decode cX9_clock 8 = .ok (.iconst 3, 1) := by decide +kernel
theorem dX9_clock_9 : decode cX9_clock 9 = .ok (.invokestatic 94, 3) := by decide +kernel
theorem dX9_clock_12 : decode cX9_clock 12 = .ok (.iload_n 3, 1) := by decide +kernel
theorem dX9_clock_13 : decode cX9_clock 13 = .ok (.ifCond .eq 12, 3) := by decide +kernel
theorem dX9_clock_16 : decode cX9_clock 16 = .ok (.aload 4, 2) := by decide +kernel
theorem dX9_clock_18 : decode cX9_clock 18 = .ok (.iload_n 2, 1) := by decide +kernel
theorem dX9_clock_19 : decode cX9_clock 19 = .ok (.invokevirtual 231, 3) := by decide +kernel
theorem dX9_clock_22 : decode cX9_clock 22 = .ok (.goto 9, 3) := by decide +kernel
theorem dX9_clock_25 : decode cX9_clock 25 = .ok (.aload 4, 2) := by decide +kernel
theorem dX9_clock_27 : decode cX9_clock 27 = .ok (.iload_n 2, 1) := by decide +kernel
theorem dX9_clock_28 : decode cX9_clock 28 = .ok (.invokevirtual 234, 3) := by decide +kernel
theorem dX9_clock_31 : decode cX9_clock 31 = .ok (.ireturn, 1) := by decide +kernel
theorem dX9_axle_0 : decode cX9_axle 0 = .ok (.aload_n 0, 1) := by decide +kernel
theorem dX9_axle_1 : decode cX9_axle 1 = .ok (.iload_n 1, 1) := by decide +kernel
theorem dX9_axle_2 : decode cX9_axle 2 = .ok (.invokevirtual 133, 3) := by decide +kernel
theorem dX9_axle_5 : decode cX9_axle 5 = .ok (.astore_n 3, 1) := by decide +kernel
theorem dX9_axle_6 : decode cX9_axle 6 = .ok (.iload_n 2, 1) := by decide +kernel
theorem dX9_axle_7 : decode cX9_axle 7 = .ok (.iconst 4, 1) := by decide +kernel
theorem dX9_axle_8 : decode cX9_axle 8 = .ok (.invokestatic 94, 3) := by decide +kernel
theorem dX9_axle_11 : decode cX9_axle 11 = .ok (.aload_n 3, 1) := by decide +kernel
theorem dX9_axle_12 : decode cX9_axle 12 = .ok (.iload_n 2, 1) := by decide +kernel
theorem dX9_axle_13 : decode cX9_axle 13 = .ok (.invokevirtual 237, 3) := by decide +kernel
theorem dX9_axle_16 : decode cX9_axle 16 = .ok (.ireturn, 1) := by decide +kernel
theorem dX9_faultAt_0 : decode cX9_faultAt 0 = .ok (.aload_n 0, 1) := by decide +kernel
theorem dX9_faultAt_1 : decode cX9_faultAt 1 = .ok (.iload_n 1, 1) := by decide +kernel
theorem dX9_faultAt_2 : decode cX9_faultAt 2 = .ok (.invokevirtual 133, 3) := by decide +kernel
theorem dX9_faultAt_5 : decode cX9_faultAt 5 = .ok (.iload_n 2, 1) := by decide +kernel
theorem dX9_faultAt_6 : decode cX9_faultAt 6 = .ok (.invokevirtual 200, 3) := by decide +kernel
theorem dX9_faultAt_9 : decode cX9_faultAt 9 = .ok (.astore 4, 2) := by decide +kernel
theorem dX9_faultAt_11 : decode cX9_faultAt 11 = .ok (.iload_n 3, 1) := by decide +kernel
theorem dX9_faultAt_12 : decode cX9_faultAt 12 = .ok (.tableswitch 56 0 3 #[32, 38, 44, 50], 32) := by decide +kernel
theorem dX9_faultAt_44 : decode cX9_faultAt 44 = .ok (.aload 4, 2) := by decide +kernel
theorem dX9_faultAt_46 : decode cX9_faultAt 46 = .ok (.getfield 204, 3) := by decide +kernel
theorem dX9_faultAt_49 : decode cX9_faultAt 49 = .ok (.ireturn, 1) := by decide +kernel
theorem dX9_faultAt_50 : decode cX9_faultAt 50 = .ok (.aload 4, 2) := by decide +kernel
theorem dX9_faultAt_52 : decode cX9_faultAt 52 = .ok (.getfield 240, 3) := by decide +kernel
theorem dX9_faultAt_55 : decode cX9_faultAt 55 = .ok (.ireturn, 1) := by decide +kernel
theorem dX9_faultAt_56 : decode cX9_faultAt 56 = .ok (.aload 4, 2) := by decide +kernel
theorem dX9_faultAt_58 : decode cX9_faultAt 58 = .ok (.getfield 243, 3) := by decide +kernel
theorem dX9_faultAt_61 : decode cX9_faultAt 61 = .ok (.ireturn, 1) := by decide +kernel
theorem dX9_faultAt_62 : decode cX9_faultAt 62 = .ok (.aload 4, 2) := by decide +kernel
theorem dX9_faultAt_64 : decode cX9_faultAt 64 = .ok (.getfield 246, 3) := by decide +kernel
theorem dX9_faultAt_67 : decode cX9_faultAt 67 = .ok (.ireturn, 1) := by decide +kernel
theorem dX9_faultAt_68 : decode cX9_faultAt 68 = .ok (.new 226, 3) := by decide +kernel
theorem dX9_faultAt_71 : decode cX9_faultAt 71 = .ok (.dup, 1) := by decide +kernel
theorem dX9_faultAt_72 : decode cX9_faultAt 72 = .ok (.ldc 249, 2) := by decide +kernel
theorem dX9_faultAt_74 : decode cX9_faultAt 74 = .ok (.invokespecial 230, 3) := by decide +kernel
theorem dX9_faultAt_77 : decode cX9_faultAt 77 = .ok (.athrow, 1) := by decide +kernel
theorem dX9_stands_0 : decode cX9_stands 0 = .ok (.aload_n 0, 1) := by decide +kernel
theorem dX9_stands_1 : decode cX9_stands 1 = .ok (.iload_n 1, 1) := by decide +kernel
theorem dX9_stands_2 : decode cX9_stands 2 = .ok (.invokevirtual 61, 3) := by decide +kernel
theorem dX9_stands_5 : decode cX9_stands 5 = .ok (.astore_n 3, 1) := by decide +kernel
theorem dX9_stands_6 : decode cX9_stands 6 = .ok (.iload_n 2, 1) := by decide +kernel
theorem dX9_stands_7 : decode cX9_stands 7 = .ok (.ifCond .ge 13, 3) := by decide +kernel
theorem dX9_stands_10 : decode cX9_stands 10 = .ok (.new 251, 3) := by decide +kernel
theorem dX9_stands_13 : decode cX9_stands 13 = .ok (.dup, 1) := by decide +kernel
theorem dX9_stands_14 : decode cX9_stands 14 = .ok (.ldc 253, 2) := by decide +kernel
theorem dX9_stands_16 : decode cX9_stands 16 = .ok (.invokespecial 255, 3) := by decide +kernel
theorem dX9_stands_19 : decode cX9_stands 19 = .ok (.athrow, 1) := by decide +kernel
theorem dX9_stands_20 : decode cX9_stands 20 = .ok (.aload_n 3, 1) := by decide +kernel
theorem dX9_stands_21 : decode cX9_stands 21 = .ok (.iload_n 2, 1) := by decide +kernel
theorem dX9_stands_22 : decode cX9_stands 22 = .ok (.invokevirtual 256, 3) := by decide +kernel
theorem dX9_stands_25 : decode cX9_stands 25 = .ok (.ireturn, 1) := by decide +kernel
theorem dX9_shunts_0 : decode cX9_shunts 0 = .ok (.aload_n 0, 1) := by decide +kernel
theorem dX9_shunts_1 : decode cX9_shunts 1 = .ok (.getfield 50, 3) := by decide +kernel
theorem dX9_shunts_4 : decode cX9_shunts 4 = .ok (.ireturn, 1) := by decide +kernel
theorem dX9_ran_0 : decode cX9_ran 0 = .ok (.iload_n 1, 1) := by decide +kernel
theorem dX9_ran_1 : decode cX9_ran 1 = .ok (.aload_n 0, 1) := by decide +kernel
theorem dX9_ran_2 : decode cX9_ran 2 = .ok (.getfield 16, 3) := by decide +kernel
theorem dX9_ran_5 : decode cX9_ran 5 = .ok (.invokevirtual 70, 3) := by decide +kernel
end
section
theorem dX9_ran_8 : decode cX9_ran 8 = .ok (.invokestatic 94, 3) := by decide +kernel
theorem dX9_ran_11 : decode cX9_ran 11 = .ok (.iload_n 2, 1) := by decide +kernel
theorem dX9_ran_12 : decode cX9_ran 12 = .ok (.iconst 0, 1) := by decide +kernel
theorem dX9_ran_13 : decode cX9_ran 13 = .ok (.aload_n 0, 1) := by decide +kernel
theorem dX9_ran_14 : decode cX9_ran 14 = .ok (.getfield 46, 3) := by decide +kernel
theorem dX9_ran_17 : decode cX9_ran 17 = .ok (.iconst 1, 1) := by decide +kernel
theorem dX9_ran_18 : decode cX9_ran 18 = .ok (.isub, 1) := by decide +kernel
theorem dX9_ran_19 : decode cX9_ran 19 = .ok (.invokestatic 66, 3) := by decide +kernel
theorem dX9_ran_22 : decode cX9_ran 22 = .ok (.aload_n 0, 1) := by decide +kernel
theorem dX9_ran_23 : decode cX9_ran 23 = .ok (.getfield 42, 3) := by decide +kernel
theorem dX9_ran_26 : decode cX9_ran 26 = .ok (.iload_n 1, 1) := by decide +kernel
theorem dX9_ran_27 : decode cX9_ran 27 = .ok (.iload_n 2, 1) := by decide +kernel
theorem dX9_ran_28 : decode cX9_ran 28 = .ok (.invokevirtual 259, 3) := by decide +kernel
theorem dX9_ran_31 : decode cX9_ran 31 = .ok (.ireturn, 1) := by decide +kernel
theorem dX9_kmAnew_0 : decode cX9_kmAnew 0 = .ok (.aload_n 0, 1) := by decide +kernel
theorem dX9_kmAnew_1 : decode cX9_kmAnew 1 = .ok (.iload_n 1, 1) := by decide +kernel
theorem dX9_kmAnew_2 : decode cX9_kmAnew 2 = .ok (.invokevirtual 133, 3) := by decide +kernel
theorem dX9_kmAnew_5 : decode cX9_kmAnew 5 = .ok (.getfield 263, 3) := by decide +kernel
theorem dX9_kmAnew_8 : decode cX9_kmAnew 8 = .ok (.istore_n 2, 1) := by decide +kernel
theorem dX9_kmAnew_9 : decode cX9_kmAnew 9 = .ok (.iconst 0, 1) := by decide +kernel
theorem dX9_kmAnew_10 : decode cX9_kmAnew 10 = .ok (.istore_n 3, 1) := by decide +kernel
theorem dX9_kmAnew_11 : decode cX9_kmAnew 11 = .ok (.iload_n 3, 1) := by decide +kernel
theorem dX9_kmAnew_12 : decode cX9_kmAnew 12 = .ok (.aload_n 0, 1) := by decide +kernel
theorem dX9_kmAnew_13 : decode cX9_kmAnew 13 = .ok (.getfield 16, 3) := by decide +kernel
theorem dX9_kmAnew_16 : decode cX9_kmAnew 16 = .ok (.invokevirtual 70, 3) := by decide +kernel
theorem dX9_kmAnew_19 : decode cX9_kmAnew 19 = .ok (.if_icmp .ge 30, 3) := by decide +kernel
theorem dX9_kmAnew_22 : decode cX9_kmAnew 22 = .ok (.iload_n 2, 1) := by decide +kernel
theorem dX9_kmAnew_23 : decode cX9_kmAnew 23 = .ok (.aload_n 0, 1) := by decide +kernel
theorem dX9_kmAnew_24 : decode cX9_kmAnew 24 = .ok (.iload_n 3, 1) := by decide +kernel
theorem dX9_kmAnew_25 : decode cX9_kmAnew 25 = .ok (.invokevirtual 147, 3) := by decide +kernel
theorem dX9_kmAnew_28 : decode cX9_kmAnew 28 = .ok (.getfield 266, 3) := by decide +kernel
theorem dX9_kmAnew_31 : decode cX9_kmAnew 31 = .ok (.aload_n 0, 1) := by decide +kernel
theorem dX9_kmAnew_32 : decode cX9_kmAnew 32 = .ok (.getfield 42, 3) := by decide +kernel
theorem dX9_kmAnew_35 : decode cX9_kmAnew 35 = .ok (.iload_n 3, 1) := by decide +kernel
theorem dX9_kmAnew_36 : decode cX9_kmAnew 36 = .ok (.iload_n 1, 1) := by decide +kernel
theorem dX9_kmAnew_37 : decode cX9_kmAnew 37 = .ok (.invokevirtual 267, 3) := by decide +kernel
theorem dX9_kmAnew_40 : decode cX9_kmAnew 40 = .ok (.imul, 1) := by decide +kernel
theorem dX9_kmAnew_41 : decode cX9_kmAnew 41 = .ok (.iadd, 1) := by decide +kernel
theorem dX9_kmAnew_42 : decode cX9_kmAnew 42 = .ok (.istore_n 2, 1) := by decide +kernel
theorem dX9_kmAnew_43 : decode cX9_kmAnew 43 = .ok (.iinc 3 1, 3) := by decide +kernel
theorem dX9_kmAnew_46 : decode cX9_kmAnew 46 = .ok (.goto (-35), 3) := by decide +kernel
theorem dX9_kmAnew_49 : decode cX9_kmAnew 49 = .ok (.iload_n 2, 1) := by decide +kernel
theorem dX9_kmAnew_50 : decode cX9_kmAnew 50 = .ok (.ireturn, 1) := by decide +kernel
theorem dX9_checkNumber_0 : decode cX9_checkNumber 0 = .ok (.iload_n 0, 1) := by decide +kernel
theorem dX9_checkNumber_1 : decode cX9_checkNumber 1 = .ok (.ifCond .lt 8, 3) := by decide +kernel
theorem dX9_checkNumber_4 : decode cX9_checkNumber 4 = .ok (.iload_n 0, 1) := by decide +kernel
theorem dX9_checkNumber_5 : decode cX9_checkNumber 5 = .ok (.iload_n 1, 1) := by decide +kernel
theorem dX9_checkNumber_6 : decode cX9_checkNumber 6 = .ok (.if_icmp .lt 14, 3) := by decide +kernel
theorem dX9_checkNumber_9 : decode cX9_checkNumber 9 = .ok (.new 251, 3) := by decide +kernel
theorem dX9_checkNumber_12 : decode cX9_checkNumber 12 = .ok (.dup, 1) := by decide +kernel
theorem dX9_checkNumber_13 : decode cX9_checkNumber 13 = .ok (.ldc_w 270, 3) := by decide +kernel
theorem dX9_checkNumber_16 : decode cX9_checkNumber 16 = .ok (.invokespecial 255, 3) := by decide +kernel
theorem dX9_checkNumber_19 : decode cX9_checkNumber 19 = .ok (.athrow, 1) := by decide +kernel
theorem dX9_checkNumber_20 : decode cX9_checkNumber 20 = .ok (.return_, 1) := by decide +kernel
theorem dX9_checkRange_0 : decode cX9_checkRange 0 = .ok (.iload_n 0, 1) := by decide +kernel
theorem dX9_checkRange_1 : decode cX9_checkRange 1 = .ok (.iload_n 1, 1) := by decide +kernel
theorem dX9_checkRange_2 : decode cX9_checkRange 2 = .ok (.if_icmp .lt 8, 3) := by decide +kernel
theorem dX9_checkRange_5 : decode cX9_checkRange 5 = .ok (.iload_n 0, 1) := by decide +kernel
theorem dX9_checkRange_6 : decode cX9_checkRange 6 = .ok (.iload_n 2, 1) := by decide +kernel
theorem dX9_checkRange_7 : decode cX9_checkRange 7 = .ok (.if_icmp .le 14, 3) := by decide +kernel
theorem dX9_checkRange_10 : decode cX9_checkRange 10 = .ok (.new 226, 3) := by decide +kernel
theorem dX9_checkRange_13 : decode cX9_checkRange 13 = .ok (.dup, 1) := by decide +kernel
theorem dX9_checkRange_14 : decode cX9_checkRange 14 = .ok (.ldc_w 272, 3) := by decide +kernel
theorem dX9_checkRange_17 : decode cX9_checkRange 17 = .ok (.invokespecial 230, 3) := by decide +kernel
theorem dX9_checkRange_20 : decode cX9_checkRange 20 = .ok (.athrow, 1) := by decide +kernel
theorem dX9_checkRange_21 : decode cX9_checkRange 21 = .ok (.return_, 1) := by decide +kernel
theorem dX9_unitAt_0 : decode cX9_unitAt 0 = .ok (.iload_n 1, 1) := by decide +kernel
theorem dX9_unitAt_1 : decode cX9_unitAt 1 = .ok (.ifCond .lt 28, 3) := by decide +kernel
theorem dX9_unitAt_4 : decode cX9_unitAt 4 = .ok (.iload_n 1, 1) := by decide +kernel
theorem dX9_unitAt_5 : decode cX9_unitAt 5 = .ok (.aload_n 0, 1) := by decide +kernel
theorem dX9_unitAt_6 : decode cX9_unitAt 6 = .ok (.getfield 10, 3) := by decide +kernel
theorem dX9_unitAt_9 : decode cX9_unitAt 9 = .ok (.invokevirtual 70, 3) := by decide +kernel
theorem dX9_unitAt_12 : decode cX9_unitAt 12 = .ok (.if_icmp .ge 17, 3) := by decide +kernel
theorem dX9_unitAt_15 : decode cX9_unitAt 15 = .ok (.aload_n 0, 1) := by decide +kernel
theorem dX9_unitAt_16 : decode cX9_unitAt 16 = .ok (.getfield 10, 3) := by decide +kernel
theorem dX9_unitAt_19 : decode cX9_unitAt 19 = .ok (.iload_n 1, 1) := by decide +kernel
theorem dX9_unitAt_20 : decode cX9_unitAt 20 = .ok (.invokevirtual 274, 3) := by decide +kernel
theorem dX9_unitAt_23 : decode cX9_unitAt 23 = .ok (.checkcast 81, 3) := by decide +kernel
theorem dX9_unitAt_26 : decode cX9_unitAt 26 = .ok (.goto 4, 3) := by decide +kernel
theorem dX9_unitAt_29 : decode cX9_unitAt 29 = .ok (.aconst_null, 1) := by decide +kernel
theorem dX9_unitAt_30 : decode cX9_unitAt 30 = .ok (.astore_n 2, 1) := by decide +kernel
theorem dX9_unitAt_31 : decode cX9_unitAt 31 = .ok (.aload_n 2, 1) := by decide +kernel
theorem dX9_unitAt_32 : decode cX9_unitAt 32 = .ok (.ifnonnull 14, 3) := by decide +kernel
theorem dX9_unitAt_35 : decode cX9_unitAt 35 = .ok (.new 251, 3) := by decide +kernel
theorem dX9_unitAt_38 : decode cX9_unitAt 38 = .ok (.dup, 1) := by decide +kernel
theorem dX9_unitAt_39 : decode cX9_unitAt 39 = .ok (.ldc_w 278, 3) := by decide +kernel
theorem dX9_unitAt_42 : decode cX9_unitAt 42 = .ok (.invokespecial 255, 3) := by decide +kernel
theorem dX9_unitAt_45 : decode cX9_unitAt 45 = .ok (.athrow, 1) := by decide +kernel
theorem dX9_unitAt_46 : decode cX9_unitAt 46 = .ok (.aload_n 2, 1) := by decide +kernel
theorem dX9_unitAt_47 : decode cX9_unitAt 47 = .ok (.areturn, 1) := by decide +kernel
theorem dX9_diagramAt_0 : decode cX9_diagramAt 0 = .ok (.iload_n 1, 1) := by decide +kernel
theorem dX9_diagramAt_1 : decode cX9_diagramAt 1 = .ok (.ifCond .lt 28, 3) := by decide +kernel
theorem dX9_diagramAt_4 : decode cX9_diagramAt 4 = .ok (.iload_n 1, 1) := by decide +kernel
theorem dX9_diagramAt_5 : decode cX9_diagramAt 5 = .ok (.aload_n 0, 1) := by decide +kernel
theorem dX9_diagramAt_6 : decode cX9_diagramAt 6 = .ok (.getfield 16, 3) := by decide +kernel
theorem dX9_diagramAt_9 : decode cX9_diagramAt 9 = .ok (.invokevirtual 70, 3) := by decide +kernel
theorem dX9_diagramAt_12 : decode cX9_diagramAt 12 = .ok (.if_icmp .ge 17, 3) := by decide +kernel
theorem dX9_diagramAt_15 : decode cX9_diagramAt 15 = .ok (.aload_n 0, 1) := by decide +kernel
theorem dX9_diagramAt_16 : decode cX9_diagramAt 16 = .ok (.getfield 16, 3) := by decide +kernel
theorem dX9_diagramAt_19 : decode cX9_diagramAt 19 = .ok (.iload_n 1, 1) := by decide +kernel
theorem dX9_diagramAt_20 : decode cX9_diagramAt 20 = .ok (.invokevirtual 274, 3) := by decide +kernel
theorem dX9_diagramAt_23 : decode cX9_diagramAt 23 = .ok (.checkcast 99, 3) := by decide +kernel
theorem dX9_diagramAt_26 : decode cX9_diagramAt 26 = .ok (.goto 4, 3) := by decide +kernel
theorem dX9_diagramAt_29 : decode cX9_diagramAt 29 = .ok (.aconst_null, 1) := by decide +kernel
theorem dX9_diagramAt_30 : decode cX9_diagramAt 30 = .ok (.astore_n 2, 1) := by decide +kernel
theorem dX9_diagramAt_31 : decode cX9_diagramAt 31 = .ok (.aload_n 2, 1) := by decide +kernel
theorem dX9_diagramAt_32 : decode cX9_diagramAt 32 = .ok (.ifnonnull 14, 3) := by decide +kernel
theorem dX9_diagramAt_35 : decode cX9_diagramAt 35 = .ok (.new 251, 3) := by decide +kernel
theorem dX9_diagramAt_38 : decode cX9_diagramAt 38 = .ok (.dup, 1) := by decide +kernel
theorem dX9_diagramAt_39 : decode cX9_diagramAt 39 = .ok (.ldc_w 280, 3) := by decide +kernel
theorem dX9_diagramAt_42 : decode cX9_diagramAt 42 = .ok (.invokespecial 255, 3) := by decide +kernel
theorem dX9_diagramAt_45 : decode cX9_diagramAt 45 = .ok (.athrow, 1) := by decide +kernel
theorem dX9_diagramAt_46 : decode cX9_diagramAt 46 = .ok (.aload_n 2, 1) := by decide +kernel
theorem dX9_diagramAt_47 : decode cX9_diagramAt 47 = .ok (.areturn, 1) := by decide +kernel
theorem dX9_rowAt_0 : decode cX9_rowAt 0 = .ok (.iload_n 1, 1) := by decide +kernel
theorem dX9_rowAt_1 : decode cX9_rowAt 1 = .ok (.ifCond .lt 21, 3) := by decide +kernel
theorem dX9_rowAt_4 : decode cX9_rowAt 4 = .ok (.iload_n 1, 1) := by decide +kernel
theorem dX9_rowAt_5 : decode cX9_rowAt 5 = .ok (.aload_n 0, 1) := by decide +kernel
theorem dX9_rowAt_6 : decode cX9_rowAt 6 = .ok (.getfield 21, 3) := by decide +kernel
theorem dX9_rowAt_9 : decode cX9_rowAt 9 = .ok (.arraylength, 1) := by decide +kernel
theorem dX9_rowAt_10 : decode cX9_rowAt 10 = .ok (.if_icmp .ge 12, 3) := by decide +kernel
theorem dX9_rowAt_13 : decode cX9_rowAt 13 = .ok (.aload_n 0, 1) := by decide +kernel
theorem dX9_rowAt_14 : decode cX9_rowAt 14 = .ok (.getfield 21, 3) := by decide +kernel
theorem dX9_rowAt_17 : decode cX9_rowAt 17 = .ok (.iload_n 1, 1) := by decide +kernel
theorem dX9_rowAt_18 : decode cX9_rowAt 18 = .ok (.aaload, 1) := by decide +kernel
theorem dX9_rowAt_19 : decode cX9_rowAt 19 = .ok (.goto 4, 3) := by decide +kernel
theorem dX9_rowAt_22 : decode cX9_rowAt 22 = .ok (.aconst_null, 1) := by decide +kernel
theorem dX9_rowAt_23 : decode cX9_rowAt 23 = .ok (.astore_n 2, 1) := by decide +kernel
theorem dX9_rowAt_24 : decode cX9_rowAt 24 = .ok (.aload_n 2, 1) := by decide +kernel
theorem dX9_rowAt_25 : decode cX9_rowAt 25 = .ok (.ifnonnull 14, 3) := by decide +kernel
theorem dX9_rowAt_28 : decode cX9_rowAt 28 = .ok (.new 251, 3) := by decide +kernel
theorem dX9_rowAt_31 : decode cX9_rowAt 31 = .ok (.dup, 1) := by decide +kernel
theorem dX9_rowAt_32 : decode cX9_rowAt 32 = .ok (.ldc_w 282, 3) := by decide +kernel
theorem dX9_rowAt_35 : decode cX9_rowAt 35 = .ok (.invokespecial 255, 3) := by decide +kernel
theorem dX9_rowAt_38 : decode cX9_rowAt 38 = .ok (.athrow, 1) := by decide +kernel
theorem dX9_rowAt_39 : decode cX9_rowAt 39 = .ok (.aload_n 2, 1) := by decide +kernel
theorem dX9_rowAt_40 : decode cX9_rowAt 40 = .ok (.areturn, 1) := by decide +kernel
theorem dX9_readMorning_0 : decode cX9_readMorning 0 = .ok (.aload_n 0, 1) := by decide +kernel
theorem dX9_readMorning_1 : decode cX9_readMorning 1 = .ok (.getfield 35, 3) := by decide +kernel
theorem dX9_readMorning_4 : decode cX9_readMorning 4 = .ok (.aload_n 0, 1) := by decide +kernel
theorem dX9_readMorning_5 : decode cX9_readMorning 5 = .ok (.getfield 10, 3) := by decide +kernel
theorem dX9_readMorning_8 : decode cX9_readMorning 8 = .ok (.invokevirtual 70, 3) := by decide +kernel
theorem dX9_readMorning_11 : decode cX9_readMorning 11 = .ok (.invokevirtual 284, 3) := by decide +kernel
theorem dX9_readMorning_14 : decode cX9_readMorning 14 = .ok (.iconst 0, 1) := by decide +kernel
theorem dX9_readMorning_15 : decode cX9_readMorning 15 = .ok (.istore_n 1, 1) := by decide +kernel
theorem dX9_readMorning_16 : decode cX9_readMorning 16 = .ok (.iload_n 1, 1) := by decide +kernel
theorem dX9_readMorning_17 : decode cX9_readMorning 17 = .ok (.aload_n 0, 1) := by decide +kernel
theorem dX9_readMorning_18 : decode cX9_readMorning 18 = .ok (.getfield 16, 3) := by decide +kernel
theorem dX9_readMorning_21 : decode cX9_readMorning 21 = .ok (.invokevirtual 70, 3) := by decide +kernel
theorem dX9_readMorning_24 : decode cX9_readMorning 24 = .ok (.if_icmp .ge 124, 3) := by decide +kernel
theorem dX9_readMorning_27 : decode cX9_readMorning 27 = .ok (.aload_n 0, 1) := by decide +kernel
theorem dX9_readMorning_28 : decode cX9_readMorning 28 = .ok (.iload_n 1, 1) := by decide +kernel
theorem dX9_readMorning_29 : decode cX9_readMorning 29 = .ok (.invokevirtual 147, 3) := by decide +kernel
theorem dX9_readMorning_32 : decode cX9_readMorning 32 = .ok (.astore_n 2, 1) := by decide +kernel
theorem dX9_readMorning_33 : decode cX9_readMorning 33 = .ok (.iconst 0, 1) := by decide +kernel
theorem dX9_readMorning_34 : decode cX9_readMorning 34 = .ok (.istore_n 3, 1) := by decide +kernel
theorem dX9_readMorning_35 : decode cX9_readMorning 35 = .ok (.iconst 0, 1) := by decide +kernel
theorem dX9_readMorning_36 : decode cX9_readMorning 36 = .ok (.istore 4, 2) := by decide +kernel
theorem dX9_readMorning_38 : decode cX9_readMorning 38 = .ok (.iconst 0, 1) := by decide +kernel
theorem dX9_readMorning_39 : decode cX9_readMorning 39 = .ok (.istore 5, 2) := by decide +kernel
theorem dX9_readMorning_41 : decode cX9_readMorning 41 = .ok (.iload 5, 2) := by decide +kernel
theorem dX9_readMorning_43 : decode cX9_readMorning 43 = .ok (.aload_n 0, 1) := by decide +kernel
theorem dX9_readMorning_44 : decode cX9_readMorning 44 = .ok (.getfield 10, 3) := by decide +kernel
theorem dX9_readMorning_47 : decode cX9_readMorning 47 = .ok (.invokevirtual 70, 3) := by decide +kernel
theorem dX9_readMorning_50 : decode cX9_readMorning 50 = .ok (.if_icmp .ge 78, 3) := by decide +kernel
theorem dX9_readMorning_53 : decode cX9_readMorning 53 = .ok (.aload_n 0, 1) := by decide +kernel
theorem dX9_readMorning_54 : decode cX9_readMorning 54 = .ok (.iload 5, 2) := by decide +kernel
theorem dX9_readMorning_56 : decode cX9_readMorning 56 = .ok (.invokevirtual 133, 3) := by decide +kernel
theorem dX9_readMorning_59 : decode cX9_readMorning 59 = .ok (.astore 6, 2) := by decide +kernel
theorem dX9_readMorning_61 : decode cX9_readMorning 61 = .ok (.aload_n 2, 1) := by decide +kernel
theorem dX9_readMorning_62 : decode cX9_readMorning 62 = .ok (.iload 5, 2) := by decide +kernel
theorem dX9_readMorning_64 : decode cX9_readMorning 64 = .ok (.invokevirtual 287, 3) := by decide +kernel
theorem dX9_readMorning_67 : decode cX9_readMorning 67 = .ok (.ifCond .eq 27, 3) := by decide +kernel
theorem dX9_readMorning_70 : decode cX9_readMorning 70 = .ok (.aload_n 0, 1) := by decide +kernel
theorem dX9_readMorning_71 : decode cX9_readMorning 71 = .ok (.getfield 28, 3) := by decide +kernel
theorem dX9_readMorning_74 : decode cX9_readMorning 74 = .ok (.aload 6, 2) := by decide +kernel
theorem dX9_readMorning_76 : decode cX9_readMorning 76 = .ok (.aload_n 2, 1) := by decide +kernel
theorem dX9_readMorning_77 : decode cX9_readMorning 77 = .ok (.aload_n 0, 1) := by decide +kernel
theorem dX9_readMorning_78 : decode cX9_readMorning 78 = .ok (.getfield 46, 3) := by decide +kernel
theorem dX9_readMorning_81 : decode cX9_readMorning 81 = .ok (.invokevirtual 154, 3) := by decide +kernel
theorem dX9_readMorning_84 : decode cX9_readMorning 84 = .ok (.ifCond .ne 10, 3) := by decide +kernel
theorem dX9_readMorning_87 : decode cX9_readMorning 87 = .ok (.iload_n 3, 1) := by decide +kernel
theorem dX9_readMorning_88 : decode cX9_readMorning 88 = .ok (.iconst 1, 1) := by decide +kernel
theorem dX9_readMorning_89 : decode cX9_readMorning 89 = .ok (.iload 5, 2) := by decide +kernel
theorem dX9_readMorning_91 : decode cX9_readMorning 91 = .ok (.ishl, 1) := by decide +kernel
theorem dX9_readMorning_92 : decode cX9_readMorning 92 = .ok (.ior, 1) := by decide +kernel
theorem dX9_readMorning_93 : decode cX9_readMorning 93 = .ok (.istore_n 3, 1) := by decide +kernel
theorem dX9_readMorning_94 : decode cX9_readMorning 94 = .ok (.aload_n 2, 1) := by decide +kernel
theorem dX9_readMorning_95 : decode cX9_readMorning 95 = .ok (.getfield 291, 3) := by decide +kernel
theorem dX9_readMorning_98 : decode cX9_readMorning 98 = .ok (.ifCond .ne 24, 3) := by decide +kernel
theorem dX9_readMorning_101 : decode cX9_readMorning 101 = .ok (.aload_n 0, 1) := by decide +kernel
theorem dX9_readMorning_102 : decode cX9_readMorning 102 = .ok (.getfield 28, 3) := by decide +kernel
theorem dX9_readMorning_105 : decode cX9_readMorning 105 = .ok (.aload 6, 2) := by decide +kernel
theorem dX9_readMorning_107 : decode cX9_readMorning 107 = .ok (.invokevirtual 218, 3) := by decide +kernel
theorem dX9_readMorning_110 : decode cX9_readMorning 110 = .ok (.ifCond .eq 12, 3) := by decide +kernel
theorem dX9_readMorning_113 : decode cX9_readMorning 113 = .ok (.iload 4, 2) := by decide +kernel
theorem dX9_readMorning_115 : decode cX9_readMorning 115 = .ok (.iconst 1, 1) := by decide +kernel
theorem dX9_readMorning_116 : decode cX9_readMorning 116 = .ok (.iload 5, 2) := by decide +kernel
theorem dX9_readMorning_118 : decode cX9_readMorning 118 = .ok (.ishl, 1) := by decide +kernel
theorem dX9_readMorning_119 : decode cX9_readMorning 119 = .ok (.ior, 1) := by decide +kernel
theorem dX9_readMorning_120 : decode cX9_readMorning 120 = .ok (.istore 4, 2) := by decide +kernel
theorem dX9_readMorning_122 : decode cX9_readMorning 122 = .ok (.iinc 5 1, 3) := by decide +kernel
theorem dX9_readMorning_125 : decode cX9_readMorning 125 = .ok (.goto (-84), 3) := by decide +kernel
theorem dX9_readMorning_128 : decode cX9_readMorning 128 = .ok (.aload_n 0, 1) := by decide +kernel
theorem dX9_readMorning_129 : decode cX9_readMorning 129 = .ok (.getfield 35, 3) := by decide +kernel
theorem dX9_readMorning_132 : decode cX9_readMorning 132 = .ok (.aload_n 2, 1) := by decide +kernel
theorem dX9_readMorning_133 : decode cX9_readMorning 133 = .ok (.getfield 294, 3) := by decide +kernel
theorem dX9_readMorning_136 : decode cX9_readMorning 136 = .ok (.iload_n 3, 1) := by decide +kernel
theorem dX9_readMorning_137 : decode cX9_readMorning 137 = .ok (.iload 4, 2) := by decide +kernel
theorem dX9_readMorning_139 : decode cX9_readMorning 139 = .ok (.invokevirtual 297, 3) := by decide +kernel
theorem dX9_readMorning_142 : decode cX9_readMorning 142 = .ok (.iinc 1 1, 3) := by decide +kernel
theorem dX9_readMorning_145 : decode cX9_readMorning 145 = .ok (.goto (-129), 3) := by decide +kernel
theorem dX9_readMorning_148 : decode cX9_readMorning 148 = .ok (.return_, 1) := by decide +kernel
theorem dX9_leaveRows_0 : decode cX9_leaveRows 0 = .ok (.iconst 0, 1) := by decide +kernel
theorem dX9_leaveRows_1 : decode cX9_leaveRows 1 = .ok (.istore_n 1, 1) := by decide +kernel
theorem dX9_leaveRows_2 : decode cX9_leaveRows 2 = .ok (.iload_n 1, 1) := by decide +kernel
theorem dX9_leaveRows_3 : decode cX9_leaveRows 3 = .ok (.aload_n 0, 1) := by decide +kernel
theorem dX9_leaveRows_4 : decode cX9_leaveRows 4 = .ok (.getfield 16, 3) := by decide +kernel
theorem dX9_leaveRows_7 : decode cX9_leaveRows 7 = .ok (.invokevirtual 70, 3) := by decide +kernel
theorem dX9_leaveRows_10 : decode cX9_leaveRows 10 = .ok (.if_icmp .ge 68, 3) := by decide +kernel
theorem dX9_leaveRows_13 : decode cX9_leaveRows 13 = .ok (.aload_n 0, 1) := by decide +kernel
theorem dX9_leaveRows_14 : decode cX9_leaveRows 14 = .ok (.getfield 35, 3) := by decide +kernel
theorem dX9_leaveRows_17 : decode cX9_leaveRows 17 = .ok (.iload_n 1, 1) := by decide +kernel
theorem dX9_leaveRows_18 : decode cX9_leaveRows 18 = .ok (.invokevirtual 164, 3) := by decide +kernel
theorem dX9_leaveRows_21 : decode cX9_leaveRows 21 = .ok (.istore_n 2, 1) := by decide +kernel
theorem dX9_leaveRows_22 : decode cX9_leaveRows 22 = .ok (.aload_n 0, 1) := by decide +kernel
theorem dX9_leaveRows_23 : decode cX9_leaveRows 23 = .ok (.getfield 42, 3) := by decide +kernel
theorem dX9_leaveRows_26 : decode cX9_leaveRows 26 = .ok (.iload_n 1, 1) := by decide +kernel
theorem dX9_leaveRows_27 : decode cX9_leaveRows 27 = .ok (.aload_n 0, 1) := by decide +kernel
theorem dX9_leaveRows_28 : decode cX9_leaveRows 28 = .ok (.getfield 46, 3) := by decide +kernel
theorem dX9_leaveRows_31 : decode cX9_leaveRows 31 = .ok (.iload_n 2, 1) := by decide +kernel
theorem dX9_leaveRows_32 : decode cX9_leaveRows 32 = .ok (.invokevirtual 300, 3) := by decide +kernel
theorem dX9_leaveRows_35 : decode cX9_leaveRows 35 = .ok (.iload_n 2, 1) := by decide +kernel
theorem dX9_leaveRows_36 : decode cX9_leaveRows 36 = .ok (.iconst (-1), 1) := by decide +kernel
theorem dX9_leaveRows_37 : decode cX9_leaveRows 37 = .ok (.if_icmp .eq 35, 3) := by decide +kernel
theorem dX9_leaveRows_40 : decode cX9_leaveRows 40 = .ok (.aload_n 0, 1) := by decide +kernel
theorem dX9_leaveRows_41 : decode cX9_leaveRows 41 = .ok (.aload_n 0, 1) := by decide +kernel
theorem dX9_leaveRows_42 : decode cX9_leaveRows 42 = .ok (.iload_n 2, 1) := by decide +kernel
theorem dX9_leaveRows_43 : decode cX9_leaveRows 43 = .ok (.invokevirtual 133, 3) := by decide +kernel
theorem dX9_leaveRows_46 : decode cX9_leaveRows 46 = .ok (.getfield 187, 3) := by decide +kernel
theorem dX9_leaveRows_49 : decode cX9_leaveRows 49 = .ok (.invokevirtual 61, 3) := by decide +kernel
theorem dX9_leaveRows_52 : decode cX9_leaveRows 52 = .ok (.astore_n 3, 1) := by decide +kernel
theorem dX9_leaveRows_53 : decode cX9_leaveRows 53 = .ok (.aload_n 0, 1) := by decide +kernel
theorem dX9_leaveRows_54 : decode cX9_leaveRows 54 = .ok (.dup, 1) := by decide +kernel
theorem dX9_leaveRows_55 : decode cX9_leaveRows 55 = .ok (.getfield 50, 3) := by decide +kernel
theorem dX9_leaveRows_58 : decode cX9_leaveRows 58 = .ok (.aload_n 3, 1) := by decide +kernel
theorem dX9_leaveRows_59 : decode cX9_leaveRows 59 = .ok (.iload_n 2, 1) := by decide +kernel
theorem dX9_leaveRows_60 : decode cX9_leaveRows 60 = .ok (.invokevirtual 215, 3) := by decide +kernel
theorem dX9_leaveRows_63 : decode cX9_leaveRows 63 = .ok (.iadd, 1) := by decide +kernel
theorem dX9_leaveRows_64 : decode cX9_leaveRows 64 = .ok (.putfield 50, 3) := by decide +kernel
theorem dX9_leaveRows_67 : decode cX9_leaveRows 67 = .ok (.aload_n 3, 1) := by decide +kernel
theorem dX9_leaveRows_68 : decode cX9_leaveRows 68 = .ok (.iload_n 2, 1) := by decide +kernel
theorem dX9_leaveRows_69 : decode cX9_leaveRows 69 = .ok (.invokevirtual 303, 3) := by decide +kernel
theorem dX9_leaveRows_72 : decode cX9_leaveRows 72 = .ok (.iinc 1 1, 3) := by decide +kernel
theorem dX9_leaveRows_75 : decode cX9_leaveRows 75 = .ok (.goto (-73), 3) := by decide +kernel
theorem dX9_leaveRows_78 : decode cX9_leaveRows 78 = .ok (.return_, 1) := by decide +kernel
theorem dX9_comeToDepots_0 : decode cX9_comeToDepots 0 = .ok (.iconst 0, 1) := by decide +kernel
theorem dX9_comeToDepots_1 : decode cX9_comeToDepots 1 = .ok (.istore_n 1, 1) := by decide +kernel
theorem dX9_comeToDepots_2 : decode cX9_comeToDepots 2 = .ok (.iload_n 1, 1) := by decide +kernel
theorem dX9_comeToDepots_3 : decode cX9_comeToDepots 3 = .ok (.aload_n 0, 1) := by decide +kernel
theorem dX9_comeToDepots_4 : decode cX9_comeToDepots 4 = .ok (.getfield 16, 3) := by decide +kernel
theorem dX9_comeToDepots_7 : decode cX9_comeToDepots 7 = .ok (.invokevirtual 70, 3) := by decide +kernel
theorem dX9_comeToDepots_10 : decode cX9_comeToDepots 10 = .ok (.if_icmp .ge 66, 3) := by decide +kernel
theorem dX9_comeToDepots_13 : decode cX9_comeToDepots 13 = .ok (.aload_n 0, 1) := by decide +kernel
theorem dX9_comeToDepots_14 : decode cX9_comeToDepots 14 = .ok (.getfield 35, 3) := by decide +kernel
theorem dX9_comeToDepots_17 : decode cX9_comeToDepots 17 = .ok (.iload_n 1, 1) := by decide +kernel
theorem dX9_comeToDepots_18 : decode cX9_comeToDepots 18 = .ok (.invokevirtual 164, 3) := by decide +kernel
theorem dX9_comeToDepots_21 : decode cX9_comeToDepots 21 = .ok (.istore_n 2, 1) := by decide +kernel
theorem dX9_comeToDepots_22 : decode cX9_comeToDepots 22 = .ok (.iload_n 2, 1) := by decide +kernel
theorem dX9_comeToDepots_23 : decode cX9_comeToDepots 23 = .ok (.iconst (-1), 1) := by decide +kernel
theorem dX9_comeToDepots_24 : decode cX9_comeToDepots 24 = .ok (.if_icmp .eq 46, 3) := by decide +kernel
theorem dX9_comeToDepots_27 : decode cX9_comeToDepots 27 = .ok (.aload_n 0, 1) := by decide +kernel
theorem dX9_comeToDepots_28 : decode cX9_comeToDepots 28 = .ok (.iload_n 1, 1) := by decide +kernel
theorem dX9_comeToDepots_29 : decode cX9_comeToDepots 29 = .ok (.invokevirtual 147, 3) := by decide +kernel
theorem dX9_comeToDepots_32 : decode cX9_comeToDepots 32 = .ok (.astore_n 3, 1) := by decide +kernel
theorem dX9_comeToDepots_33 : decode cX9_comeToDepots 33 = .ok (.aload_n 0, 1) := by decide +kernel
theorem dX9_comeToDepots_34 : decode cX9_comeToDepots 34 = .ok (.iload_n 2, 1) := by decide +kernel
theorem dX9_comeToDepots_35 : decode cX9_comeToDepots 35 = .ok (.invokevirtual 133, 3) := by decide +kernel
theorem dX9_comeToDepots_38 : decode cX9_comeToDepots 38 = .ok (.astore 4, 2) := by decide +kernel
theorem dX9_comeToDepots_40 : decode cX9_comeToDepots 40 = .ok (.aload 4, 2) := by decide +kernel
theorem dX9_comeToDepots_42 : decode cX9_comeToDepots 42 = .ok (.aload_n 3, 1) := by decide +kernel
theorem dX9_comeToDepots_43 : decode cX9_comeToDepots 43 = .ok (.getfield 291, 3) := by decide +kernel
theorem dX9_comeToDepots_46 : decode cX9_comeToDepots 46 = .ok (.putfield 187, 3) := by decide +kernel
theorem dX9_comeToDepots_49 : decode cX9_comeToDepots 49 = .ok (.aload 4, 2) := by decide +kernel
theorem dX9_comeToDepots_51 : decode cX9_comeToDepots 51 = .ok (.aload_n 3, 1) := by decide +kernel
theorem dX9_comeToDepots_52 : decode cX9_comeToDepots 52 = .ok (.getfield 266, 3) := by decide +kernel
theorem dX9_comeToDepots_55 : decode cX9_comeToDepots 55 = .ok (.invokevirtual 306, 3) := by decide +kernel
theorem dX9_comeToDepots_58 : decode cX9_comeToDepots 58 = .ok (.aload_n 0, 1) := by decide +kernel
theorem dX9_comeToDepots_59 : decode cX9_comeToDepots 59 = .ok (.aload_n 3, 1) := by decide +kernel
theorem dX9_comeToDepots_60 : decode cX9_comeToDepots 60 = .ok (.getfield 291, 3) := by decide +kernel
theorem dX9_comeToDepots_63 : decode cX9_comeToDepots 63 = .ok (.invokevirtual 61, 3) := by decide +kernel
theorem dX9_comeToDepots_66 : decode cX9_comeToDepots 66 = .ok (.iload_n 2, 1) := by decide +kernel
theorem dX9_comeToDepots_67 : decode cX9_comeToDepots 67 = .ok (.invokevirtual 90, 3) := by decide +kernel
theorem dX9_comeToDepots_70 : decode cX9_comeToDepots 70 = .ok (.iinc 1 1, 3) := by decide +kernel
theorem dX9_comeToDepots_73 : decode cX9_comeToDepots 73 = .ok (.goto (-71), 3) := by decide +kernel
theorem dX9_comeToDepots_76 : decode cX9_comeToDepots 76 = .ok (.return_, 1) := by decide +kernel
theorem dX10_init_0 : decode cX10_init 0 = .ok (.aload_n 0, 1) := by decide +kernel
theorem dX10_init_1 : decode cX10_init 1 = .ok (.invokespecial 1, 3) := by decide +kernel
theorem dX10_init_4 : decode cX10_init 4 = .ok (.aload_n 0, 1) := by decide +kernel
theorem dX10_init_5 : decode cX10_init 5 = .ok (.bipush 6, 2) := by decide +kernel
theorem dX10_init_7 : decode cX10_init 7 = .ok (.newarray .int, 2) := by decide +kernel
theorem dX10_init_9 : decode cX10_init 9 = .ok (.putfield 7, 3) := by decide +kernel
theorem dX10_init_12 : decode cX10_init 12 = .ok (.aload_n 0, 1) := by decide +kernel
theorem dX10_init_13 : decode cX10_init 13 = .ok (.bipush 6, 2) := by decide +kernel
theorem dX10_init_15 : decode cX10_init 15 = .ok (.newarray .int, 2) := by decide +kernel
theorem dX10_init_17 : decode cX10_init 17 = .ok (.putfield 13, 3) := by decide +kernel
theorem dX10_init_20 : decode cX10_init 20 = .ok (.aload_n 0, 1) := by decide +kernel
theorem dX10_init_21 : decode cX10_init 21 = .ok (.bipush 6, 2) := by decide +kernel
theorem dX10_init_23 : decode cX10_init 23 = .ok (.newarray .int, 2) := by decide +kernel
theorem dX10_init_25 : decode cX10_init 25 = .ok (.putfield 16, 3) := by decide +kernel
theorem dX10_init_28 : decode cX10_init 28 = .ok (.aload_n 0, 1) := by decide +kernel
theorem dX10_init_29 : decode cX10_init 29 = .ok (.bipush 24, 2) := by decide +kernel
theorem dX10_init_31 : decode cX10_init 31 = .ok (.newarray .int, 2) := by decide +kernel
theorem dX10_init_33 : decode cX10_init 33 = .ok (.putfield 19, 3) := by decide +kernel
theorem dX10_init_36 : decode cX10_init 36 = .ok (.aload_n 0, 1) := by decide +kernel
theorem dX10_init_37 : decode cX10_init 37 = .ok (.bipush 18, 2) := by decide +kernel
theorem dX10_init_39 : decode cX10_init 39 = .ok (.newarray .int, 2) := by decide +kernel
theorem dX10_init_41 : decode cX10_init 41 = .ok (.putfield 22, 3) := by decide +kernel
theorem dX10_init_44 : decode cX10_init 44 = .ok (.aload_n 0, 1) := by decide +kernel
theorem dX10_init_45 : decode cX10_init 45 = .ok (.bipush 18, 2) := by decide +kernel
theorem dX10_init_47 : decode cX10_init 47 = .ok (.newarray .int, 2) := by decide +kernel
theorem dX10_init_49 : decode cX10_init 49 = .ok (.putfield 25, 3) := by decide +kernel
theorem dX10_init_52 : decode cX10_init 52 = .ok (.aload_n 0, 1) := by decide +kernel
theorem dX10_init_53 : decode cX10_init 53 = .ok (.bipush 18, 2) := by decide +kernel
theorem dX10_init_55 : decode cX10_init 55 = .ok (.newarray .int, 2) := by decide +kernel
theorem dX10_init_57 : decode cX10_init 57 = .ok (.putfield 28, 3) := by decide +kernel
theorem dX10_init_60 : decode cX10_init 60 = .ok (.aload_n 0, 1) := by decide +kernel
theorem dX10_init_61 : decode cX10_init 61 = .ok (.iconst 3, 1) := by decide +kernel
theorem dX10_init_62 : decode cX10_init 62 = .ok (.newarray .int, 2) := by decide +kernel
theorem dX10_init_64 : decode cX10_init 64 = .ok (.putfield 31, 3) := by decide +kernel
theorem dX10_init_67 : decode cX10_init 67 = .ok (.aload_n 0, 1) := by decide +kernel
theorem dX10_init_68 : decode cX10_init 68 = .ok (.bipush 6, 2) := by decide +kernel
theorem dX10_init_70 : decode cX10_init 70 = .ok (.newarray .int, 2) := by decide +kernel
theorem dX10_init_72 : decode cX10_init 72 = .ok (.putfield 34, 3) := by decide +kernel
theorem dX10_init_75 : decode cX10_init 75 = .ok (.aload_n 0, 1) := by decide +kernel
theorem dX10_init_76 : decode cX10_init 76 = .ok (.bipush 48, 2) := by decide +kernel
theorem dX10_init_78 : decode cX10_init 78 = .ok (.newarray .int, 2) := by decide +kernel
theorem dX10_init_80 : decode cX10_init 80 = .ok (.putfield 37, 3) := by decide +kernel
theorem dX10_init_83 : decode cX10_init 83 = .ok (.aload_n 0, 1) := by decide +kernel
theorem dX10_init_84 : decode cX10_init 84 = .ok (.bipush 48, 2) := by decide +kernel
theorem dX10_init_86 : decode cX10_init 86 = .ok (.newarray .int, 2) := by decide +kernel
theorem dX10_init_88 : decode cX10_init 88 = .ok (.putfield 40, 3) := by decide +kernel
theorem dX10_init_91 : decode cX10_init 91 = .ok (.aload_n 0, 1) := by decide +kernel
theorem dX10_init_92 : decode cX10_init 92 = .ok (.bipush 48, 2) := by decide +kernel
theorem dX10_init_94 : decode cX10_init 94 = .ok (.newarray .int, 2) := by decide +kernel
theorem dX10_init_96 : decode cX10_init 96 = .ok (.putfield 43, 3) := by decide +kernel
theorem dX10_init_99 : decode cX10_init 99 = .ok (.aload_n 0, 1) := by decide +kernel
theorem dX10_init_100 : decode cX10_init 100 = .ok (.bipush 48, 2) := by decide +kernel
theorem dX10_init_102 : decode cX10_init 102 = .ok (.newarray .int, 2) := by decide +kernel
theorem dX10_init_104 : decode cX10_init 104 = .ok (.putfield 46, 3) := by decide +kernel
theorem dX10_init_107 : decode cX10_init 107 = .ok (.aload_n 0, 1) := by decide +kernel
theorem dX10_init_108 : decode cX10_init 108 = .ok (.bipush 6, 2) := by decide +kernel
theorem dX10_init_110 : decode cX10_init 110 = .ok (.newarray .int, 2) := by decide +kernel
theorem dX10_init_112 : decode cX10_init 112 = .ok (.putfield 49, 3) := by decide +kernel
theorem dX10_init_115 : decode cX10_init 115 = .ok (.aload_n 0, 1) := by decide +kernel
theorem dX10_init_116 : decode cX10_init 116 = .ok (.bipush 6, 2) := by decide +kernel
theorem dX10_init_118 : decode cX10_init 118 = .ok (.newarray .int, 2) := by decide +kernel
theorem dX10_init_120 : decode cX10_init 120 = .ok (.putfield 52, 3) := by decide +kernel
theorem dX10_init_123 : decode cX10_init 123 = .ok (.aload_n 0, 1) := by decide +kernel
theorem dX10_init_124 : decode cX10_init 124 = .ok (.bipush 6, 2) := by decide +kernel
theorem dX10_init_126 : decode cX10_init 126 = .ok (.newarray .int, 2) := by decide +kernel
theorem dX10_init_128 : decode cX10_init 128 = .ok (.putfield 55, 3) := by decide +kernel
theorem dX10_init_131 : decode cX10_init 131 = .ok (.aload_n 0, 1) := by decide +kernel
theorem dX10_init_132 : decode cX10_init 132 = .ok (.bipush 6, 2) := by decide +kernel
theorem dX10_init_134 : decode cX10_init 134 = .ok (.newarray .int, 2) := by decide +kernel
theorem dX10_init_136 : decode cX10_init 136 = .ok (.putfield 58, 3) := by decide +kernel
theorem dX10_init_139 : decode cX10_init 139 = .ok (.aload_n 0, 1) := by decide +kernel
theorem dX10_init_140 : decode cX10_init 140 = .ok (.bipush 6, 2) := by decide +kernel
theorem dX10_init_142 : decode cX10_init 142 = .ok (.newarray .int, 2) := by decide +kernel
theorem dX10_init_144 : decode cX10_init 144 = .ok (.putfield 61, 3) := by decide +kernel
theorem dX10_init_147 : decode cX10_init 147 = .ok (.aload_n 0, 1) := by decide +kernel
theorem dX10_init_148 : decode cX10_init 148 = .ok (.bipush 6, 2) := by decide +kernel
theorem dX10_init_150 : decode cX10_init 150 = .ok (.newarray .int, 2) := by decide +kernel
theorem dX10_init_152 : decode cX10_init 152 = .ok (.putfield 64, 3) := by decide +kernel
theorem dX10_init_155 : decode cX10_init 155 = .ok (.aload_n 0, 1) := by decide +kernel
theorem dX10_init_156 : decode cX10_init 156 = .ok (.iconst 3, 1) := by decide +kernel
theorem dX10_init_157 : decode cX10_init 157 = .ok (.newarray .int, 2) := by decide +kernel
theorem dX10_init_159 : decode cX10_init 159 = .ok (.putfield 67, 3) := by decide +kernel
theorem dX10_init_162 : decode cX10_init 162 = .ok (.aload_n 0, 1) := by decide +kernel
theorem dX10_init_163 : decode cX10_init 163 = .ok (.iconst 3, 1) := by decide +kernel
theorem dX10_init_164 : decode cX10_init 164 = .ok (.newarray .int, 2) := by decide +kernel
theorem dX10_init_166 : decode cX10_init 166 = .ok (.putfield 70, 3) := by decide +kernel
theorem dX10_init_169 : decode cX10_init 169 = .ok (.aload_n 0, 1) := by decide +kernel
theorem dX10_init_170 : decode cX10_init 170 = .ok (.iconst 3, 1) := by decide +kernel
theorem dX10_init_171 : decode cX10_init 171 = .ok (.newarray .int, 2) := by decide +kernel
theorem dX10_init_173 : decode cX10_init 173 = .ok (.putfield 73, 3) := by decide +kernel
theorem dX10_init_176 : decode cX10_init 176 = .ok (.aload_n 0, 1) := by decide +kernel
theorem dX10_init_177 : decode cX10_init 177 = .ok (.iconst 4, 1) := by decide +kernel
theorem dX10_init_178 : decode cX10_init 178 = .ok (.newarray .int, 2) := by decide +kernel
theorem dX10_init_180 : decode cX10_init 180 = .ok (.putfield 76, 3) := by decide +kernel
theorem dX10_init_183 : decode cX10_init 183 = .ok (.aload_n 0, 1) := by decide +kernel
theorem dX10_init_184 : decode cX10_init 184 = .ok (.iconst 4, 1) := by decide +kernel
theorem dX10_init_185 : decode cX10_init 185 = .ok (.newarray .int, 2) := by decide +kernel
theorem dX10_init_187 : decode cX10_init 187 = .ok (.putfield 79, 3) := by decide +kernel
theorem dX10_init_190 : decode cX10_init 190 = .ok (.aload_n 0, 1) := by decide +kernel
theorem dX10_init_191 : decode cX10_init 191 = .ok (.sipush 1200, 3) := by decide +kernel
theorem dX10_init_194 : decode cX10_init 194 = .ok (.newarray .int, 2) := by decide +kernel
theorem dX10_init_196 : decode cX10_init 196 = .ok (.putfield 82, 3) := by decide +kernel
theorem dX10_init_199 : decode cX10_init 199 = .ok (.aload_n 0, 1) := by decide +kernel
theorem dX10_init_200 : decode cX10_init 200 = .ok (.bipush 6, 2) := by decide +kernel
theorem dX10_init_202 : decode cX10_init 202 = .ok (.newarray .int, 2) := by decide +kernel
theorem dX10_init_204 : decode cX10_init 204 = .ok (.putfield 85, 3) := by decide +kernel
theorem dX10_init_207 : decode cX10_init 207 = .ok (.aload_n 0, 1) := by decide +kernel
theorem dX10_init_208 : decode cX10_init 208 = .ok (.bipush 6, 2) := by decide +kernel
theorem dX10_init_210 : decode cX10_init 210 = .ok (.newarray .int, 2) := by decide +kernel
theorem dX10_init_212 : decode cX10_init 212 = .ok (.putfield 88, 3) := by decide +kernel
theorem dX10_init_215 : decode cX10_init 215 = .ok (.aload_n 0, 1) := by decide +kernel
theorem dX10_init_216 : decode cX10_init 216 = .ok (.bipush 6, 2) := by decide +kernel
theorem dX10_init_218 : decode cX10_init 218 = .ok (.newarray .boolean, 2) := by decide +kernel
theorem dX10_init_220 : decode cX10_init 220 = .ok (.putfield 91, 3) := by decide +kernel
theorem dX10_init_223 : decode cX10_init 223 = .ok (.aload_n 0, 1) := by decide +kernel
theorem dX10_init_224 : decode cX10_init 224 = .ok (.bipush 36, 2) := by decide +kernel
theorem dX10_init_226 : decode cX10_init 226 = .ok (.newarray .boolean, 2) := by decide +kernel
theorem dX10_init_228 : decode cX10_init 228 = .ok (.putfield 95, 3) := by decide +kernel
theorem dX10_init_231 : decode cX10_init 231 = .ok (.aload_n 0, 1) := by decide +kernel
theorem dX10_init_232 : decode cX10_init 232 = .ok (.bipush 6, 2) := by decide +kernel
theorem dX10_init_234 : decode cX10_init 234 = .ok (.newarray .boolean, 2) := by decide +kernel
theorem dX10_init_236 : decode cX10_init 236 = .ok (.putfield 98, 3) := by decide +kernel
theorem dX10_init_239 : decode cX10_init 239 = .ok (.aload_n 0, 1) := by decide +kernel
theorem dX10_init_240 : decode cX10_init 240 = .ok (.getfield 67, 3) := by decide +kernel
theorem dX10_init_243 : decode cX10_init 243 = .ok (.iconst 0, 1) := by decide +kernel
theorem dX10_init_244 : decode cX10_init 244 = .ok (.sipush 1000, 3) := by decide +kernel
theorem dX10_init_247 : decode cX10_init 247 = .ok (.iastore, 1) := by decide +kernel
theorem dX10_init_248 : decode cX10_init 248 = .ok (.aload_n 0, 1) := by decide +kernel
theorem dX10_init_249 : decode cX10_init 249 = .ok (.getfield 67, 3) := by decide +kernel
theorem dX10_init_252 : decode cX10_init 252 = .ok (.iconst 1, 1) := by decide +kernel
theorem dX10_init_253 : decode cX10_init 253 = .ok (.sipush 3000, 3) := by decide +kernel
theorem dX10_init_256 : decode cX10_init 256 = .ok (.iastore, 1) := by decide +kernel
theorem dX10_init_257 : decode cX10_init 257 = .ok (.aload_n 0, 1) := by decide +kernel
theorem dX10_init_258 : decode cX10_init 258 = .ok (.getfield 67, 3) := by decide +kernel
theorem dX10_init_261 : decode cX10_init 261 = .ok (.iconst 2, 1) := by decide +kernel
theorem dX10_init_262 : decode cX10_init 262 = .ok (.sipush 9000, 3) := by decide +kernel
theorem dX10_init_265 : decode cX10_init 265 = .ok (.iastore, 1) := by decide +kernel
theorem dX10_init_266 : decode cX10_init 266 = .ok (.aload_n 0, 1) := by decide +kernel
theorem dX10_init_267 : decode cX10_init 267 = .ok (.getfield 73, 3) := by decide +kernel
theorem dX10_init_270 : decode cX10_init 270 = .ok (.iconst 0, 1) := by decide +kernel
theorem dX10_init_271 : decode cX10_init 271 = .ok (.iconst 5, 1) := by decide +kernel
theorem dX10_init_272 : decode cX10_init 272 = .ok (.iastore, 1) := by decide +kernel
theorem dX10_init_273 : decode cX10_init 273 = .ok (.aload_n 0, 1) := by decide +kernel
theorem dX10_init_274 : decode cX10_init 274 = .ok (.getfield 73, 3) := by decide +kernel
theorem dX10_init_277 : decode cX10_init 277 = .ok (.iconst 1, 1) := by decide +kernel
theorem dX10_init_278 : decode cX10_init 278 = .ok (.bipush 20, 2) := by decide +kernel
theorem dX10_init_280 : decode cX10_init 280 = .ok (.iastore, 1) := by decide +kernel
theorem dX10_init_281 : decode cX10_init 281 = .ok (.aload_n 0, 1) := by decide +kernel
theorem dX10_init_282 : decode cX10_init 282 = .ok (.getfield 73, 3) := by decide +kernel
theorem dX10_init_285 : decode cX10_init 285 = .ok (.iconst 2, 1) := by decide +kernel
theorem dX10_init_286 : decode cX10_init 286 = .ok (.bipush 60, 2) := by decide +kernel
theorem dX10_init_288 : decode cX10_init 288 = .ok (.iastore, 1) := by decide +kernel
theorem dX10_init_289 : decode cX10_init 289 = .ok (.iconst 0, 1) := by decide +kernel
theorem dX10_init_290 : decode cX10_init 290 = .ok (.istore_n 1, 1) := by decide +kernel
theorem dX10_init_291 : decode cX10_init 291 = .ok (.iload_n 1, 1) := by decide +kernel
theorem dX10_init_292 : decode cX10_init 292 = .ok (.iconst 3, 1) := by decide +kernel
theorem dX10_init_293 : decode cX10_init 293 = .ok (.if_icmp .ge 17, 3) := by decide +kernel
theorem dX10_init_296 : decode cX10_init 296 = .ok (.aload_n 0, 1) := by decide +kernel
theorem dX10_init_297 : decode cX10_init 297 = .ok (.getfield 70, 3) := by decide +kernel
theorem dX10_init_300 : decode cX10_init 300 = .ok (.iload_n 1, 1) := by decide +kernel
theorem dX10_init_301 : decode cX10_init 301 = .ok (.bipush 10, 2) := by decide +kernel
theorem dX10_init_303 : decode cX10_init 303 = .ok (.iastore, 1) := by decide +kernel
theorem dX10_init_304 : decode cX10_init 304 = .ok (.iinc 1 1, 3) := by decide +kernel
theorem dX10_init_307 : decode cX10_init 307 = .ok (.goto (-16), 3) := by decide +kernel
theorem dX10_init_310 : decode cX10_init 310 = .ok (.iconst 0, 1) := by decide +kernel
theorem dX10_init_311 : decode cX10_init 311 = .ok (.istore_n 1, 1) := by decide +kernel
theorem dX10_init_312 : decode cX10_init 312 = .ok (.iload_n 1, 1) := by decide +kernel
theorem dX10_init_313 : decode cX10_init 313 = .ok (.iconst 4, 1) := by decide +kernel
theorem dX10_init_314 : decode cX10_init 314 = .ok (.if_icmp .ge 16, 3) := by decide +kernel
theorem dX10_init_317 : decode cX10_init 317 = .ok (.aload_n 0, 1) := by decide +kernel
theorem dX10_init_318 : decode cX10_init 318 = .ok (.getfield 76, 3) := by decide +kernel
theorem dX10_init_321 : decode cX10_init 321 = .ok (.iload_n 1, 1) := by decide +kernel
theorem dX10_init_322 : decode cX10_init 322 = .ok (.iconst (-1), 1) := by decide +kernel
theorem dX10_init_323 : decode cX10_init 323 = .ok (.iastore, 1) := by decide +kernel
theorem dX10_init_324 : decode cX10_init 324 = .ok (.iinc 1 1, 3) := by decide +kernel
theorem dX10_init_327 : decode cX10_init 327 = .ok (.goto (-15), 3) := by decide +kernel
theorem dX10_init_330 : decode cX10_init 330 = .ok (.iconst 0, 1) := by decide +kernel
theorem dX10_init_331 : decode cX10_init 331 = .ok (.istore_n 1, 1) := by decide +kernel
theorem dX10_init_332 : decode cX10_init 332 = .ok (.iload_n 1, 1) := by decide +kernel
theorem dX10_init_333 : decode cX10_init 333 = .ok (.sipush 1200, 3) := by decide +kernel
theorem dX10_init_336 : decode cX10_init 336 = .ok (.if_icmp .ge 16, 3) := by decide +kernel
theorem dX10_init_339 : decode cX10_init 339 = .ok (.aload_n 0, 1) := by decide +kernel
theorem dX10_init_340 : decode cX10_init 340 = .ok (.getfield 82, 3) := by decide +kernel
theorem dX10_init_343 : decode cX10_init 343 = .ok (.iload_n 1, 1) := by decide +kernel
theorem dX10_init_344 : decode cX10_init 344 = .ok (.iconst (-1), 1) := by decide +kernel
theorem dX10_init_345 : decode cX10_init 345 = .ok (.iastore, 1) := by decide +kernel
theorem dX10_init_346 : decode cX10_init 346 = .ok (.iinc 1 1, 3) := by decide +kernel
theorem dX10_init_349 : decode cX10_init 349 = .ok (.goto (-17), 3) := by decide +kernel
theorem dX10_init_352 : decode cX10_init 352 = .ok (.return_, 1) := by decide +kernel
theorem dX10_thrown_0 : decode cX10_thrown 0 = .ok (.aload_n 0, 1) := by decide +kernel
theorem dX10_thrown_1 : decode cX10_thrown 1 = .ok (.getfield 101, 3) := by decide +kernel
theorem dX10_thrown_4 : decode cX10_thrown 4 = .ok (.ireturn, 1) := by decide +kernel
theorem dX10_between_0 : decode cX10_between 0 = .ok (.iload_n 1, 1) := by decide +kernel
theorem dX10_between_1 : decode cX10_between 1 = .ok (.iload_n 2, 1) := by decide +kernel
theorem dX10_between_2 : decode cX10_between 2 = .ok (.if_icmp .lt 12, 3) := by decide +kernel
theorem dX10_between_5 : decode cX10_between 5 = .ok (.iload_n 1, 1) := by decide +kernel
theorem dX10_between_6 : decode cX10_between 6 = .ok (.iload_n 3, 1) := by decide +kernel
theorem dX10_between_7 : decode cX10_between 7 = .ok (.if_icmp .gt 7, 3) := by decide +kernel
theorem dX10_between_10 : decode cX10_between 10 = .ok (.iconst 1, 1) := by decide +kernel
theorem dX10_between_11 : decode cX10_between 11 = .ok (.goto 4, 3) := by decide +kernel
theorem dX10_between_14 : decode cX10_between 14 = .ok (.iconst 0, 1) := by decide +kernel
theorem dX10_between_15 : decode cX10_between 15 = .ok (.ireturn, 1) := by decide +kernel
theorem dX10_isDepot_0 : decode cX10_isDepot 0 = .ok (.aload_n 0, 1) := by decide +kernel
theorem dX10_isDepot_1 : decode cX10_isDepot 1 = .ok (.iload_n 1, 1) := by decide +kernel
theorem dX10_isDepot_2 : decode cX10_isDepot 2 = .ok (.iconst 0, 1) := by decide +kernel
theorem dX10_isDepot_3 : decode cX10_isDepot 3 = .ok (.iconst 2, 1) := by decide +kernel
theorem dX10_isDepot_4 : decode cX10_isDepot 4 = .ok (.invokevirtual 105, 3) := by decide +kernel
theorem dX10_isDepot_7 : decode cX10_isDepot 7 = .ok (.ireturn, 1) := by decide +kernel
theorem dX10_isUnit_0 : decode cX10_isUnit 0 = .ok (.aload_n 0, 1) := by decide +kernel
theorem dX10_isUnit_1 : decode cX10_isUnit 1 = .ok (.iload_n 1, 1) := by decide +kernel
theorem dX10_isUnit_2 : decode cX10_isUnit 2 = .ok (.iconst 0, 1) := by decide +kernel
theorem dX10_isUnit_3 : decode cX10_isUnit 3 = .ok (.aload_n 0, 1) := by decide +kernel
theorem dX10_isUnit_4 : decode cX10_isUnit 4 = .ok (.getfield 109, 3) := by decide +kernel
theorem dX10_isUnit_7 : decode cX10_isUnit 7 = .ok (.iconst 1, 1) := by decide +kernel
theorem dX10_isUnit_8 : decode cX10_isUnit 8 = .ok (.isub, 1) := by decide +kernel
theorem dX10_isUnit_9 : decode cX10_isUnit 9 = .ok (.invokevirtual 105, 3) := by decide +kernel
theorem dX10_isUnit_12 : decode cX10_isUnit 12 = .ok (.ireturn, 1) := by decide +kernel
theorem dX10_isDiagram_0 : decode cX10_isDiagram 0 = .ok (.aload_n 0, 1) := by decide +kernel
theorem dX10_isDiagram_1 : decode cX10_isDiagram 1 = .ok (.iload_n 1, 1) := by decide +kernel
theorem dX10_isDiagram_2 : decode cX10_isDiagram 2 = .ok (.iconst 0, 1) := by decide +kernel
theorem dX10_isDiagram_3 : decode cX10_isDiagram 3 = .ok (.aload_n 0, 1) := by decide +kernel
theorem dX10_isDiagram_4 : decode cX10_isDiagram 4 = .ok (.getfield 112, 3) := by decide +kernel
theorem dX10_isDiagram_7 : decode cX10_isDiagram 7 = .ok (.iconst 1, 1) := by decide +kernel
theorem dX10_isDiagram_8 : decode cX10_isDiagram 8 = .ok (.isub, 1) := by decide +kernel
theorem dX10_isDiagram_9 : decode cX10_isDiagram 9 = .ok (.invokevirtual 105, 3) := by decide +kernel
theorem dX10_isDiagram_12 : decode cX10_isDiagram 12 = .ok (.ireturn, 1) := by decide +kernel
theorem dX10_isExam_0 : decode cX10_isExam 0 = .ok (.aload_n 0, 1) := by decide +kernel
theorem dX10_isExam_1 : decode cX10_isExam 1 = .ok (.iload_n 1, 1) := by decide +kernel
theorem dX10_isExam_2 : decode cX10_isExam 2 = .ok (.iconst 0, 1) := by decide +kernel
theorem dX10_isExam_3 : decode cX10_isExam 3 = .ok (.iconst 2, 1) := by decide +kernel
theorem dX10_isExam_4 : decode cX10_isExam 4 = .ok (.invokevirtual 105, 3) := by decide +kernel
theorem dX10_isExam_7 : decode cX10_isExam 7 = .ok (.ireturn, 1) := by decide +kernel
theorem dX10_isFault_0 : decode cX10_isFault 0 = .ok (.aload_n 0, 1) := by decide +kernel
theorem dX10_isFault_1 : decode cX10_isFault 1 = .ok (.iload_n 1, 1) := by decide +kernel
theorem dX10_isFault_2 : decode cX10_isFault 2 = .ok (.invokevirtual 115, 3) := by decide +kernel
theorem dX10_isFault_5 : decode cX10_isFault 5 = .ok (.ifCond .eq 24, 3) := by decide +kernel
theorem dX10_isFault_8 : decode cX10_isFault 8 = .ok (.aload_n 0, 1) := by decide +kernel
theorem dX10_isFault_9 : decode cX10_isFault 9 = .ok (.iload_n 2, 1) := by decide +kernel
theorem dX10_isFault_10 : decode cX10_isFault 10 = .ok (.iconst 0, 1) := by decide +kernel
theorem dX10_isFault_11 : decode cX10_isFault 11 = .ok (.aload_n 0, 1) := by decide +kernel
theorem dX10_isFault_12 : decode cX10_isFault 12 = .ok (.getfield 34, 3) := by decide +kernel
theorem dX10_isFault_15 : decode cX10_isFault 15 = .ok (.iload_n 1, 1) := by decide +kernel
theorem dX10_isFault_16 : decode cX10_isFault 16 = .ok (.iaload, 1) := by decide +kernel
theorem dX10_isFault_17 : decode cX10_isFault 17 = .ok (.iconst 1, 1) := by decide +kernel
theorem dX10_isFault_18 : decode cX10_isFault 18 = .ok (.isub, 1) := by decide +kernel
theorem dX10_isFault_19 : decode cX10_isFault 19 = .ok (.invokevirtual 105, 3) := by decide +kernel
theorem dX10_isFault_22 : decode cX10_isFault 22 = .ok (.ifCond .eq 7, 3) := by decide +kernel
theorem dX10_isFault_25 : decode cX10_isFault 25 = .ok (.iconst 1, 1) := by decide +kernel
theorem dX10_isFault_26 : decode cX10_isFault 26 = .ok (.goto 4, 3) := by decide +kernel
theorem dX10_isFault_29 : decode cX10_isFault 29 = .ok (.iconst 0, 1) := by decide +kernel
theorem dX10_isFault_30 : decode cX10_isFault 30 = .ok (.ireturn, 1) := by decide +kernel
theorem dX10_bound_0 : decode cX10_bound 0 = .ok (.aload_n 0, 1) := by decide +kernel
theorem dX10_bound_1 : decode cX10_bound 1 = .ok (.getfield 67, 3) := by decide +kernel
theorem dX10_bound_4 : decode cX10_bound 4 = .ok (.iload_n 1, 1) := by decide +kernel
theorem dX10_bound_5 : decode cX10_bound 5 = .ok (.iaload, 1) := by decide +kernel
theorem dX10_bound_6 : decode cX10_bound 6 = .ok (.aload_n 0, 1) := by decide +kernel
theorem dX10_bound_7 : decode cX10_bound 7 = .ok (.getfield 67, 3) := by decide +kernel
theorem dX10_bound_10 : decode cX10_bound 10 = .ok (.iload_n 1, 1) := by decide +kernel
theorem dX10_bound_11 : decode cX10_bound 11 = .ok (.iaload, 1) := by decide +kernel
theorem dX10_bound_12 : decode cX10_bound 12 = .ok (.aload_n 0, 1) := by decide +kernel
theorem dX10_bound_13 : decode cX10_bound 13 = .ok (.getfield 70, 3) := by decide +kernel
theorem dX10_bound_16 : decode cX10_bound 16 = .ok (.iload_n 1, 1) := by decide +kernel
theorem dX10_bound_17 : decode cX10_bound 17 = .ok (.iaload, 1) := by decide +kernel
theorem dX10_bound_18 : decode cX10_bound 18 = .ok (.imul, 1) := by decide +kernel
theorem dX10_bound_19 : decode cX10_bound 19 = .ok (.bipush 100, 2) := by decide +kernel
theorem dX10_bound_21 : decode cX10_bound 21 = .ok (.idiv, 1) := by decide +kernel
theorem dX10_bound_22 : decode cX10_bound 22 = .ok (.iadd, 1) := by decide +kernel
theorem dX10_bound_23 : decode cX10_bound 23 = .ok (.ireturn, 1) := by decide +kernel
theorem dX10_comes_0 : decode cX10_comes 0 = .ok (.aload_n 0, 1) := by decide +kernel
theorem dX10_comes_1 : decode cX10_comes 1 = .ok (.getfield 7, 3) := by decide +kernel
theorem dX10_comes_4 : decode cX10_comes 4 = .ok (.iload_n 1, 1) := by decide +kernel
theorem dX10_comes_5 : decode cX10_comes 5 = .ok (.iload_n 2, 1) := by decide +kernel
theorem dX10_comes_6 : decode cX10_comes 6 = .ok (.iastore, 1) := by decide +kernel
theorem dX10_comes_7 : decode cX10_comes 7 = .ok (.aload_n 0, 1) := by decide +kernel
theorem dX10_comes_8 : decode cX10_comes 8 = .ok (.getfield 28, 3) := by decide +kernel
theorem dX10_comes_11 : decode cX10_comes 11 = .ok (.bipush 6, 2) := by decide +kernel
theorem dX10_comes_13 : decode cX10_comes 13 = .ok (.iload_n 2, 1) := by decide +kernel
theorem dX10_comes_14 : decode cX10_comes 14 = .ok (.imul, 1) := by decide +kernel
theorem dX10_comes_15 : decode cX10_comes 15 = .ok (.aload_n 0, 1) := by decide +kernel
theorem dX10_comes_16 : decode cX10_comes 16 = .ok (.getfield 31, 3) := by decide +kernel
theorem dX10_comes_19 : decode cX10_comes 19 = .ok (.iload_n 2, 1) := by decide +kernel
theorem dX10_comes_20 : decode cX10_comes 20 = .ok (.iaload, 1) := by decide +kernel
theorem dX10_comes_21 : decode cX10_comes 21 = .ok (.iadd, 1) := by decide +kernel
theorem dX10_comes_22 : decode cX10_comes 22 = .ok (.iload_n 1, 1) := by decide +kernel
theorem dX10_comes_23 : decode cX10_comes 23 = .ok (.iastore, 1) := by decide +kernel
theorem dX10_comes_24 : decode cX10_comes 24 = .ok (.aload_n 0, 1) := by decide +kernel
theorem dX10_comes_25 : decode cX10_comes 25 = .ok (.getfield 31, 3) := by decide +kernel
theorem dX10_comes_28 : decode cX10_comes 28 = .ok (.iload_n 2, 1) := by decide +kernel
theorem dX10_comes_29 : decode cX10_comes 29 = .ok (.dup2, 1) := by decide +kernel
theorem dX10_comes_30 : decode cX10_comes 30 = .ok (.iaload, 1) := by decide +kernel
theorem dX10_comes_31 : decode cX10_comes 31 = .ok (.iconst 1, 1) := by decide +kernel
theorem dX10_comes_32 : decode cX10_comes 32 = .ok (.iadd, 1) := by decide +kernel
theorem dX10_comes_33 : decode cX10_comes 33 = .ok (.iastore, 1) := by decide +kernel
theorem dX10_comes_34 : decode cX10_comes 34 = .ok (.return_, 1) := by decide +kernel
theorem dX10_placeOf_0 : decode cX10_placeOf 0 = .ok (.bipush 6, 2) := by decide +kernel
theorem dX10_placeOf_2 : decode cX10_placeOf 2 = .ok (.aload_n 0, 1) := by decide +kernel
theorem dX10_placeOf_3 : decode cX10_placeOf 3 = .ok (.getfield 7, 3) := by decide +kernel
theorem dX10_placeOf_6 : decode cX10_placeOf 6 = .ok (.iload_n 1, 1) := by decide +kernel
theorem dX10_placeOf_7 : decode cX10_placeOf 7 = .ok (.iaload, 1) := by decide +kernel
theorem dX10_placeOf_8 : decode cX10_placeOf 8 = .ok (.imul, 1) := by decide +kernel
theorem dX10_placeOf_9 : decode cX10_placeOf 9 = .ok (.istore_n 2, 1) := by decide +kernel
theorem dX10_placeOf_10 : decode cX10_placeOf 10 = .ok (.aload_n 0, 1) := by decide +kernel
theorem dX10_placeOf_11 : decode cX10_placeOf 11 = .ok (.getfield 28, 3) := by decide +kernel
theorem dX10_placeOf_14 : decode cX10_placeOf 14 = .ok (.iload_n 2, 1) := by decide +kernel
theorem dX10_placeOf_15 : decode cX10_placeOf 15 = .ok (.iaload, 1) := by decide +kernel
theorem dX10_placeOf_16 : decode cX10_placeOf 16 = .ok (.iload_n 1, 1) := by decide +kernel
theorem dX10_placeOf_17 : decode cX10_placeOf 17 = .ok (.if_icmp .eq 9, 3) := by decide +kernel
theorem dX10_placeOf_20 : decode cX10_placeOf 20 = .ok (.iinc 2 1, 3) := by decide +kernel
theorem dX10_placeOf_23 : decode cX10_placeOf 23 = .ok (.goto (-13), 3) := by decide +kernel
theorem dX10_placeOf_26 : decode cX10_placeOf 26 = .ok (.iload_n 2, 1) := by decide +kernel
theorem dX10_placeOf_27 : decode cX10_placeOf 27 = .ok (.bipush 6, 2) := by decide +kernel
theorem dX10_placeOf_29 : decode cX10_placeOf 29 = .ok (.aload_n 0, 1) := by decide +kernel
theorem dX10_placeOf_30 : decode cX10_placeOf 30 = .ok (.getfield 7, 3) := by decide +kernel
theorem dX10_placeOf_33 : decode cX10_placeOf 33 = .ok (.iload_n 1, 1) := by decide +kernel
theorem dX10_placeOf_34 : decode cX10_placeOf 34 = .ok (.iaload, 1) := by decide +kernel
theorem dX10_placeOf_35 : decode cX10_placeOf 35 = .ok (.imul, 1) := by decide +kernel
theorem dX10_placeOf_36 : decode cX10_placeOf 36 = .ok (.isub, 1) := by decide +kernel
theorem dX10_placeOf_37 : decode cX10_placeOf 37 = .ok (.ireturn, 1) := by decide +kernel
theorem dX10_unit_0 : decode cX10_unit 0 = .ok (.aload_n 0, 1) := by decide +kernel
theorem dX10_unit_1 : decode cX10_unit 1 = .ok (.aload_n 0, 1) := by decide +kernel
theorem dX10_unit_2 : decode cX10_unit 2 = .ok (.iload_n 1, 1) := by decide +kernel
theorem dX10_unit_3 : decode cX10_unit 3 = .ok (.invokevirtual 119, 3) := by decide +kernel
theorem dX10_unit_6 : decode cX10_unit 6 = .ok (.ifCond .ne 7, 3) := by decide +kernel
theorem dX10_unit_9 : decode cX10_unit 9 = .ok (.iconst 1, 1) := by decide +kernel
theorem dX10_unit_10 : decode cX10_unit 10 = .ok (.goto 32, 3) := by decide +kernel
theorem dX10_unit_13 : decode cX10_unit 13 = .ok (.aload_n 0, 1) := by decide +kernel
theorem dX10_unit_14 : decode cX10_unit 14 = .ok (.iload_n 2, 1) := by decide +kernel
theorem dX10_unit_15 : decode cX10_unit 15 = .ok (.iconst 0, 1) := by decide +kernel
theorem dX10_unit_16 : decode cX10_unit 16 = .ok (.ldc 122, 2) := by decide +kernel
theorem dX10_unit_18 : decode cX10_unit 18 = .ok (.invokevirtual 105, 3) := by decide +kernel
theorem dX10_unit_21 : decode cX10_unit 21 = .ok (.ifCond .ne 7, 3) := by decide +kernel
theorem dX10_unit_24 : decode cX10_unit 24 = .ok (.iconst 2, 1) := by decide +kernel
theorem dX10_unit_25 : decode cX10_unit 25 = .ok (.goto 17, 3) := by decide +kernel
theorem dX10_unit_28 : decode cX10_unit 28 = .ok (.aload_n 0, 1) := by decide +kernel
theorem dX10_unit_29 : decode cX10_unit 29 = .ok (.getfield 109, 3) := by decide +kernel
theorem dX10_unit_32 : decode cX10_unit 32 = .ok (.bipush 6, 2) := by decide +kernel
theorem dX10_unit_34 : decode cX10_unit 34 = .ok (.if_icmp .ne 7, 3) := by decide +kernel
theorem dX10_unit_37 : decode cX10_unit 37 = .ok (.iconst 3, 1) := by decide +kernel
theorem dX10_unit_38 : decode cX10_unit 38 = .ok (.goto 4, 3) := by decide +kernel
theorem dX10_unit_41 : decode cX10_unit 41 = .ok (.iconst 0, 1) := by decide +kernel
theorem dX10_unit_42 : decode cX10_unit 42 = .ok (.putfield 101, 3) := by decide +kernel
theorem dX10_unit_45 : decode cX10_unit 45 = .ok (.aload_n 0, 1) := by decide +kernel
theorem dX10_unit_46 : decode cX10_unit 46 = .ok (.getfield 101, 3) := by decide +kernel
theorem dX10_unit_49 : decode cX10_unit 49 = .ok (.ifCond .le 5, 3) := by decide +kernel
theorem dX10_unit_52 : decode cX10_unit 52 = .ok (.iconst 0, 1) := by decide +kernel
theorem dX10_unit_53 : decode cX10_unit 53 = .ok (.ireturn, 1) := by decide +kernel
theorem dX10_unit_54 : decode cX10_unit 54 = .ok (.aload_n 0, 1) := by decide +kernel
theorem dX10_unit_55 : decode cX10_unit 55 = .ok (.getfield 16, 3) := by decide +kernel
theorem dX10_unit_58 : decode cX10_unit 58 = .ok (.aload_n 0, 1) := by decide +kernel
theorem dX10_unit_59 : decode cX10_unit 59 = .ok (.getfield 109, 3) := by decide +kernel
theorem dX10_unit_62 : decode cX10_unit 62 = .ok (.iload_n 2, 1) := by decide +kernel
theorem dX10_unit_63 : decode cX10_unit 63 = .ok (.iastore, 1) := by decide +kernel
theorem dX10_unit_64 : decode cX10_unit 64 = .ok (.aload_n 0, 1) := by decide +kernel
theorem dX10_unit_65 : decode cX10_unit 65 = .ok (.getfield 13, 3) := by decide +kernel
theorem dX10_unit_68 : decode cX10_unit 68 = .ok (.aload_n 0, 1) := by decide +kernel
theorem dX10_unit_69 : decode cX10_unit 69 = .ok (.getfield 109, 3) := by decide +kernel
theorem dX10_unit_72 : decode cX10_unit 72 = .ok (.iload_n 2, 1) := by decide +kernel
theorem dX10_unit_73 : decode cX10_unit 73 = .ok (.iastore, 1) := by decide +kernel
theorem dX10_unit_74 : decode cX10_unit 74 = .ok (.iconst 0, 1) := by decide +kernel
theorem dX10_unit_75 : decode cX10_unit 75 = .ok (.istore_n 3, 1) := by decide +kernel
theorem dX10_unit_76 : decode cX10_unit 76 = .ok (.iload_n 3, 1) := by decide +kernel
theorem dX10_unit_77 : decode cX10_unit 77 = .ok (.iconst 4, 1) := by decide +kernel
theorem dX10_unit_78 : decode cX10_unit 78 = .ok (.if_icmp .ge 25, 3) := by decide +kernel
theorem dX10_unit_81 : decode cX10_unit 81 = .ok (.aload_n 0, 1) := by decide +kernel
theorem dX10_unit_82 : decode cX10_unit 82 = .ok (.getfield 19, 3) := by decide +kernel
theorem dX10_unit_85 : decode cX10_unit 85 = .ok (.iconst 4, 1) := by decide +kernel
theorem dX10_unit_86 : decode cX10_unit 86 = .ok (.aload_n 0, 1) := by decide +kernel
theorem dX10_unit_87 : decode cX10_unit 87 = .ok (.getfield 109, 3) := by decide +kernel
theorem dX10_unit_90 : decode cX10_unit 90 = .ok (.imul, 1) := by decide +kernel
theorem dX10_unit_91 : decode cX10_unit 91 = .ok (.iload_n 3, 1) := by decide +kernel
theorem dX10_unit_92 : decode cX10_unit 92 = .ok (.iadd, 1) := by decide +kernel
theorem dX10_unit_93 : decode cX10_unit 93 = .ok (.sipush 900, 3) := by decide +kernel
theorem dX10_unit_96 : decode cX10_unit 96 = .ok (.iastore, 1) := by decide +kernel
theorem dX10_unit_97 : decode cX10_unit 97 = .ok (.iinc 3 1, 3) := by decide +kernel
theorem dX10_unit_100 : decode cX10_unit 100 = .ok (.goto (-24), 3) := by decide +kernel
theorem dX10_unit_103 : decode cX10_unit 103 = .ok (.aload_n 0, 1) := by decide +kernel
theorem dX10_unit_104 : decode cX10_unit 104 = .ok (.aload_n 0, 1) := by decide +kernel
theorem dX10_unit_105 : decode cX10_unit 105 = .ok (.getfield 109, 3) := by decide +kernel
theorem dX10_unit_108 : decode cX10_unit 108 = .ok (.iload_n 1, 1) := by decide +kernel
theorem dX10_unit_109 : decode cX10_unit 109 = .ok (.invokevirtual 123, 3) := by decide +kernel
theorem dX10_unit_112 : decode cX10_unit 112 = .ok (.aload_n 0, 1) := by decide +kernel
theorem dX10_unit_113 : decode cX10_unit 113 = .ok (.dup, 1) := by decide +kernel
theorem dX10_unit_114 : decode cX10_unit 114 = .ok (.getfield 109, 3) := by decide +kernel
theorem dX10_unit_117 : decode cX10_unit 117 = .ok (.iconst 1, 1) := by decide +kernel
theorem dX10_unit_118 : decode cX10_unit 118 = .ok (.iadd, 1) := by decide +kernel
theorem dX10_unit_119 : decode cX10_unit 119 = .ok (.putfield 109, 3) := by decide +kernel
theorem dX10_unit_122 : decode cX10_unit 122 = .ok (.aload_n 0, 1) := by decide +kernel
theorem dX10_unit_123 : decode cX10_unit 123 = .ok (.getfield 109, 3) := by decide +kernel
theorem dX10_unit_126 : decode cX10_unit 126 = .ok (.iconst 1, 1) := by decide +kernel
theorem dX10_unit_127 : decode cX10_unit 127 = .ok (.isub, 1) := by decide +kernel
theorem dX10_unit_128 : decode cX10_unit 128 = .ok (.ireturn, 1) := by decide +kernel
theorem dX10_diagram_0 : decode cX10_diagram 0 = .ok (.aload_n 0, 1) := by decide +kernel
theorem dX10_diagram_1 : decode cX10_diagram 1 = .ok (.aload_n 0, 1) := by decide +kernel
theorem dX10_diagram_2 : decode cX10_diagram 2 = .ok (.iload_n 1, 1) := by decide +kernel
theorem dX10_diagram_3 : decode cX10_diagram 3 = .ok (.invokevirtual 119, 3) := by decide +kernel
theorem dX10_diagram_6 : decode cX10_diagram 6 = .ok (.ifCond .eq 11, 3) := by decide +kernel
theorem dX10_diagram_9 : decode cX10_diagram 9 = .ok (.aload_n 0, 1) := by decide +kernel
theorem dX10_diagram_10 : decode cX10_diagram 10 = .ok (.iload_n 2, 1) := by decide +kernel
theorem dX10_diagram_11 : decode cX10_diagram 11 = .ok (.invokevirtual 119, 3) := by decide +kernel
theorem dX10_diagram_14 : decode cX10_diagram 14 = .ok (.ifCond .ne 7, 3) := by decide +kernel
theorem dX10_diagram_17 : decode cX10_diagram 17 = .ok (.iconst 1, 1) := by decide +kernel
theorem dX10_diagram_18 : decode cX10_diagram 18 = .ok (.goto 56, 3) := by decide +kernel
theorem dX10_diagram_21 : decode cX10_diagram 21 = .ok (.aload_n 0, 1) := by decide +kernel
theorem dX10_diagram_22 : decode cX10_diagram 22 = .ok (.iload_n 3, 1) := by decide +kernel
theorem dX10_diagram_23 : decode cX10_diagram 23 = .ok (.iconst 1, 1) := by decide +kernel
theorem dX10_diagram_24 : decode cX10_diagram 24 = .ok (.sipush 2000, 3) := by decide +kernel
theorem dX10_diagram_27 : decode cX10_diagram 27 = .ok (.invokevirtual 105, 3) := by decide +kernel
theorem dX10_diagram_30 : decode cX10_diagram 30 = .ok (.ifCond .eq 26, 3) := by decide +kernel
theorem dX10_diagram_33 : decode cX10_diagram 33 = .ok (.aload_n 0, 1) := by decide +kernel
theorem dX10_diagram_34 : decode cX10_diagram 34 = .ok (.iload 4, 2) := by decide +kernel
theorem dX10_diagram_36 : decode cX10_diagram 36 = .ok (.iconst 0, 1) := by decide +kernel
theorem dX10_diagram_37 : decode cX10_diagram 37 = .ok (.iconst 2, 1) := by decide +kernel
theorem dX10_diagram_38 : decode cX10_diagram 38 = .ok (.invokevirtual 105, 3) := by decide +kernel
theorem dX10_diagram_41 : decode cX10_diagram 41 = .ok (.ifCond .eq 15, 3) := by decide +kernel
theorem dX10_diagram_44 : decode cX10_diagram 44 = .ok (.aload_n 0, 1) := by decide +kernel
theorem dX10_diagram_45 : decode cX10_diagram 45 = .ok (.iload 5, 2) := by decide +kernel
theorem dX10_diagram_47 : decode cX10_diagram 47 = .ok (.iconst 1, 1) := by decide +kernel
theorem dX10_diagram_48 : decode cX10_diagram 48 = .ok (.bipush 100, 2) := by decide +kernel
theorem dX10_diagram_50 : decode cX10_diagram 50 = .ok (.invokevirtual 105, 3) := by decide +kernel
theorem dX10_diagram_53 : decode cX10_diagram 53 = .ok (.ifCond .ne 7, 3) := by decide +kernel
theorem dX10_diagram_56 : decode cX10_diagram 56 = .ok (.iconst 2, 1) := by decide +kernel
theorem dX10_diagram_57 : decode cX10_diagram 57 = .ok (.goto 17, 3) := by decide +kernel
theorem dX10_diagram_60 : decode cX10_diagram 60 = .ok (.aload_n 0, 1) := by decide +kernel
theorem dX10_diagram_61 : decode cX10_diagram 61 = .ok (.getfield 112, 3) := by decide +kernel
theorem dX10_diagram_64 : decode cX10_diagram 64 = .ok (.bipush 6, 2) := by decide +kernel
theorem dX10_diagram_66 : decode cX10_diagram 66 = .ok (.if_icmp .ne 7, 3) := by decide +kernel
theorem dX10_diagram_69 : decode cX10_diagram 69 = .ok (.iconst 3, 1) := by decide +kernel
theorem dX10_diagram_70 : decode cX10_diagram 70 = .ok (.goto 4, 3) := by decide +kernel
theorem dX10_diagram_73 : decode cX10_diagram 73 = .ok (.iconst 0, 1) := by decide +kernel
theorem dX10_diagram_74 : decode cX10_diagram 74 = .ok (.putfield 101, 3) := by decide +kernel
theorem dX10_diagram_77 : decode cX10_diagram 77 = .ok (.aload_n 0, 1) := by decide +kernel
theorem dX10_diagram_78 : decode cX10_diagram 78 = .ok (.getfield 101, 3) := by decide +kernel
theorem dX10_diagram_81 : decode cX10_diagram 81 = .ok (.ifCond .le 5, 3) := by decide +kernel
theorem dX10_diagram_84 : decode cX10_diagram 84 = .ok (.iconst 0, 1) := by decide +kernel
theorem dX10_diagram_85 : decode cX10_diagram 85 = .ok (.ireturn, 1) := by decide +kernel
theorem dX10_diagram_86 : decode cX10_diagram 86 = .ok (.aload_n 0, 1) := by decide +kernel
theorem dX10_diagram_87 : decode cX10_diagram 87 = .ok (.getfield 49, 3) := by decide +kernel
theorem dX10_diagram_90 : decode cX10_diagram 90 = .ok (.aload_n 0, 1) := by decide +kernel
theorem dX10_diagram_91 : decode cX10_diagram 91 = .ok (.getfield 112, 3) := by decide +kernel
theorem dX10_diagram_94 : decode cX10_diagram 94 = .ok (.iload_n 1, 1) := by decide +kernel
theorem dX10_diagram_95 : decode cX10_diagram 95 = .ok (.iastore, 1) := by decide +kernel
theorem dX10_diagram_96 : decode cX10_diagram 96 = .ok (.aload_n 0, 1) := by decide +kernel
theorem dX10_diagram_97 : decode cX10_diagram 97 = .ok (.getfield 52, 3) := by decide +kernel
theorem dX10_diagram_100 : decode cX10_diagram 100 = .ok (.aload_n 0, 1) := by decide +kernel
theorem dX10_diagram_101 : decode cX10_diagram 101 = .ok (.getfield 112, 3) := by decide +kernel
theorem dX10_diagram_104 : decode cX10_diagram 104 = .ok (.iload_n 2, 1) := by decide +kernel
theorem dX10_diagram_105 : decode cX10_diagram 105 = .ok (.iastore, 1) := by decide +kernel
theorem dX10_diagram_106 : decode cX10_diagram 106 = .ok (.aload_n 0, 1) := by decide +kernel
theorem dX10_diagram_107 : decode cX10_diagram 107 = .ok (.getfield 55, 3) := by decide +kernel
theorem dX10_diagram_110 : decode cX10_diagram 110 = .ok (.aload_n 0, 1) := by decide +kernel
theorem dX10_diagram_111 : decode cX10_diagram 111 = .ok (.getfield 112, 3) := by decide +kernel
theorem dX10_diagram_114 : decode cX10_diagram 114 = .ok (.iload_n 3, 1) := by decide +kernel
theorem dX10_diagram_115 : decode cX10_diagram 115 = .ok (.iastore, 1) := by decide +kernel
theorem dX10_diagram_116 : decode cX10_diagram 116 = .ok (.aload_n 0, 1) := by decide +kernel
theorem dX10_diagram_117 : decode cX10_diagram 117 = .ok (.getfield 58, 3) := by decide +kernel
theorem dX10_diagram_120 : decode cX10_diagram 120 = .ok (.aload_n 0, 1) := by decide +kernel
theorem dX10_diagram_121 : decode cX10_diagram 121 = .ok (.getfield 112, 3) := by decide +kernel
theorem dX10_diagram_124 : decode cX10_diagram 124 = .ok (.iload 4, 2) := by decide +kernel
theorem dX10_diagram_126 : decode cX10_diagram 126 = .ok (.iastore, 1) := by decide +kernel
theorem dX10_diagram_127 : decode cX10_diagram 127 = .ok (.aload_n 0, 1) := by decide +kernel
theorem dX10_diagram_128 : decode cX10_diagram 128 = .ok (.getfield 61, 3) := by decide +kernel
theorem dX10_diagram_131 : decode cX10_diagram 131 = .ok (.aload_n 0, 1) := by decide +kernel
theorem dX10_diagram_132 : decode cX10_diagram 132 = .ok (.getfield 112, 3) := by decide +kernel
theorem dX10_diagram_135 : decode cX10_diagram 135 = .ok (.iload 5, 2) := by decide +kernel
theorem dX10_diagram_137 : decode cX10_diagram 137 = .ok (.iastore, 1) := by decide +kernel
theorem dX10_diagram_138 : decode cX10_diagram 138 = .ok (.aload_n 0, 1) := by decide +kernel
theorem dX10_diagram_139 : decode cX10_diagram 139 = .ok (.getfield 64, 3) := by decide +kernel
theorem dX10_diagram_142 : decode cX10_diagram 142 = .ok (.aload_n 0, 1) := by decide +kernel
theorem dX10_diagram_143 : decode cX10_diagram 143 = .ok (.getfield 112, 3) := by decide +kernel
theorem dX10_diagram_146 : decode cX10_diagram 146 = .ok (.iconst (-1), 1) := by decide +kernel
theorem dX10_diagram_147 : decode cX10_diagram 147 = .ok (.iastore, 1) := by decide +kernel
theorem dX10_diagram_148 : decode cX10_diagram 148 = .ok (.aload_n 0, 1) := by decide +kernel
theorem dX10_diagram_149 : decode cX10_diagram 149 = .ok (.dup, 1) := by decide +kernel
theorem dX10_diagram_150 : decode cX10_diagram 150 = .ok (.getfield 112, 3) := by decide +kernel
theorem dX10_diagram_153 : decode cX10_diagram 153 = .ok (.iconst 1, 1) := by decide +kernel
theorem dX10_diagram_154 : decode cX10_diagram 154 = .ok (.iadd, 1) := by decide +kernel
theorem dX10_diagram_155 : decode cX10_diagram 155 = .ok (.putfield 112, 3) := by decide +kernel
theorem dX10_diagram_158 : decode cX10_diagram 158 = .ok (.aload_n 0, 1) := by decide +kernel
theorem dX10_diagram_159 : decode cX10_diagram 159 = .ok (.getfield 112, 3) := by decide +kernel
theorem dX10_diagram_162 : decode cX10_diagram 162 = .ok (.iconst 1, 1) := by decide +kernel
theorem dX10_diagram_163 : decode cX10_diagram 163 = .ok (.isub, 1) := by decide +kernel
theorem dX10_diagram_164 : decode cX10_diagram 164 = .ok (.ireturn, 1) := by decide +kernel
theorem dX10_exam_0 : decode cX10_exam 0 = .ok (.aload_n 0, 1) := by decide +kernel
theorem dX10_exam_1 : decode cX10_exam 1 = .ok (.aload_n 0, 1) := by decide +kernel
theorem dX10_exam_2 : decode cX10_exam 2 = .ok (.iload_n 1, 1) := by decide +kernel
theorem dX10_exam_3 : decode cX10_exam 3 = .ok (.invokevirtual 127, 3) := by decide +kernel
theorem dX10_exam_6 : decode cX10_exam 6 = .ok (.ifCond .ne 7, 3) := by decide +kernel
theorem dX10_exam_9 : decode cX10_exam 9 = .ok (.iconst 1, 1) := by decide +kernel
theorem dX10_exam_10 : decode cX10_exam 10 = .ok (.goto 44, 3) := by decide +kernel
theorem dX10_exam_13 : decode cX10_exam 13 = .ok (.aload_n 0, 1) := by decide +kernel
theorem dX10_exam_14 : decode cX10_exam 14 = .ok (.iload_n 2, 1) := by decide +kernel
theorem dX10_exam_15 : decode cX10_exam 15 = .ok (.bipush 100, 2) := by decide +kernel
theorem dX10_exam_17 : decode cX10_exam 17 = .ok (.ldc 130, 2) := by decide +kernel
theorem dX10_exam_19 : decode cX10_exam 19 = .ok (.invokevirtual 105, 3) := by decide +kernel
theorem dX10_exam_22 : decode cX10_exam 22 = .ok (.ifCond .eq 27, 3) := by decide +kernel
theorem dX10_exam_25 : decode cX10_exam 25 = .ok (.aload_n 0, 1) := by decide +kernel
theorem dX10_exam_26 : decode cX10_exam 26 = .ok (.iload_n 3, 1) := by decide +kernel
theorem dX10_exam_27 : decode cX10_exam 27 = .ok (.iconst 0, 1) := by decide +kernel
theorem dX10_exam_28 : decode cX10_exam 28 = .ok (.bipush 20, 2) := by decide +kernel
theorem dX10_exam_30 : decode cX10_exam 30 = .ok (.invokevirtual 105, 3) := by decide +kernel
theorem dX10_exam_33 : decode cX10_exam 33 = .ok (.ifCond .eq 16, 3) := by decide +kernel
theorem dX10_exam_36 : decode cX10_exam 36 = .ok (.aload_n 0, 1) := by decide +kernel
theorem dX10_exam_37 : decode cX10_exam 37 = .ok (.iload 4, 2) := by decide +kernel
theorem dX10_exam_39 : decode cX10_exam 39 = .ok (.iconst 0, 1) := by decide +kernel
theorem dX10_exam_40 : decode cX10_exam 40 = .ok (.sipush 400, 3) := by decide +kernel
theorem dX10_exam_43 : decode cX10_exam 43 = .ok (.invokevirtual 105, 3) := by decide +kernel
theorem dX10_exam_46 : decode cX10_exam 46 = .ok (.ifCond .ne 7, 3) := by decide +kernel
theorem dX10_exam_49 : decode cX10_exam 49 = .ok (.iconst 2, 1) := by decide +kernel
theorem dX10_exam_50 : decode cX10_exam 50 = .ok (.goto 4, 3) := by decide +kernel
theorem dX10_exam_53 : decode cX10_exam 53 = .ok (.iconst 0, 1) := by decide +kernel
theorem dX10_exam_54 : decode cX10_exam 54 = .ok (.putfield 101, 3) := by decide +kernel
theorem dX10_exam_57 : decode cX10_exam 57 = .ok (.aload_n 0, 1) := by decide +kernel
theorem dX10_exam_58 : decode cX10_exam 58 = .ok (.getfield 101, 3) := by decide +kernel
theorem dX10_exam_61 : decode cX10_exam 61 = .ok (.ifCond .le 5, 3) := by decide +kernel
theorem dX10_exam_64 : decode cX10_exam 64 = .ok (.iconst 0, 1) := by decide +kernel
theorem dX10_exam_65 : decode cX10_exam 65 = .ok (.ireturn, 1) := by decide +kernel
theorem dX10_exam_66 : decode cX10_exam 66 = .ok (.aload_n 0, 1) := by decide +kernel
theorem dX10_exam_67 : decode cX10_exam 67 = .ok (.getfield 67, 3) := by decide +kernel
theorem dX10_exam_70 : decode cX10_exam 70 = .ok (.iload_n 1, 1) := by decide +kernel
theorem dX10_exam_71 : decode cX10_exam 71 = .ok (.iload_n 2, 1) := by decide +kernel
theorem dX10_exam_72 : decode cX10_exam 72 = .ok (.iastore, 1) := by decide +kernel
theorem dX10_exam_73 : decode cX10_exam 73 = .ok (.aload_n 0, 1) := by decide +kernel
theorem dX10_exam_74 : decode cX10_exam 74 = .ok (.getfield 70, 3) := by decide +kernel
theorem dX10_exam_77 : decode cX10_exam 77 = .ok (.iload_n 1, 1) := by decide +kernel
theorem dX10_exam_78 : decode cX10_exam 78 = .ok (.iload_n 3, 1) := by decide +kernel
theorem dX10_exam_79 : decode cX10_exam 79 = .ok (.iastore, 1) := by decide +kernel
theorem dX10_exam_80 : decode cX10_exam 80 = .ok (.aload_n 0, 1) := by decide +kernel
theorem dX10_exam_81 : decode cX10_exam 81 = .ok (.getfield 73, 3) := by decide +kernel
theorem dX10_exam_84 : decode cX10_exam 84 = .ok (.iload_n 1, 1) := by decide +kernel
theorem dX10_exam_85 : decode cX10_exam 85 = .ok (.iload 4, 2) := by decide +kernel
theorem dX10_exam_87 : decode cX10_exam 87 = .ok (.iastore, 1) := by decide +kernel
theorem dX10_exam_88 : decode cX10_exam 88 = .ok (.aload_n 0, 1) := by decide +kernel
theorem dX10_exam_89 : decode cX10_exam 89 = .ok (.iload_n 1, 1) := by decide +kernel
theorem dX10_exam_90 : decode cX10_exam 90 = .ok (.invokevirtual 131, 3) := by decide +kernel
theorem dX10_exam_93 : decode cX10_exam 93 = .ok (.ireturn, 1) := by decide +kernel
theorem dX10_list_0 : decode cX10_list 0 = .ok (.aload_n 0, 1) := by decide +kernel
theorem dX10_list_1 : decode cX10_list 1 = .ok (.aload_n 0, 1) := by decide +kernel
theorem dX10_list_2 : decode cX10_list 2 = .ok (.iload_n 1, 1) := by decide +kernel
theorem dX10_list_3 : decode cX10_list 3 = .ok (.iconst 0, 1) := by decide +kernel
theorem dX10_list_4 : decode cX10_list 4 = .ok (.iconst 3, 1) := by decide +kernel
theorem dX10_list_5 : decode cX10_list 5 = .ok (.invokevirtual 105, 3) := by decide +kernel
theorem dX10_list_8 : decode cX10_list 8 = .ok (.ifCond .ne 7, 3) := by decide +kernel
theorem dX10_list_11 : decode cX10_list 11 = .ok (.iconst 1, 1) := by decide +kernel
theorem dX10_list_12 : decode cX10_list 12 = .ok (.goto 34, 3) := by decide +kernel
theorem dX10_list_15 : decode cX10_list 15 = .ok (.aload_n 0, 1) := by decide +kernel
theorem dX10_list_16 : decode cX10_list 16 = .ok (.iload_n 2, 1) := by decide +kernel
theorem dX10_list_17 : decode cX10_list 17 = .ok (.iconst (-1), 1) := by decide +kernel
theorem dX10_list_18 : decode cX10_list 18 = .ok (.bipush 30, 2) := by decide +kernel
theorem dX10_list_20 : decode cX10_list 20 = .ok (.invokevirtual 105, 3) := by decide +kernel
theorem dX10_list_23 : decode cX10_list 23 = .ok (.ifCond .eq 18, 3) := by decide +kernel
theorem dX10_list_26 : decode cX10_list 26 = .ok (.iload_n 2, 1) := by decide +kernel
theorem dX10_list_27 : decode cX10_list 27 = .ok (.iconst (-1), 1) := by decide +kernel
theorem dX10_list_28 : decode cX10_list 28 = .ok (.if_icmp .eq 17, 3) := by decide +kernel
theorem dX10_list_31 : decode cX10_list 31 = .ok (.aload_n 0, 1) := by decide +kernel
theorem dX10_list_32 : decode cX10_list 32 = .ok (.iload_n 3, 1) := by decide +kernel
theorem dX10_list_33 : decode cX10_list 33 = .ok (.iconst 0, 1) := by decide +kernel
theorem dX10_list_34 : decode cX10_list 34 = .ok (.iconst 2, 1) := by decide +kernel
theorem dX10_list_35 : decode cX10_list 35 = .ok (.invokevirtual 105, 3) := by decide +kernel
theorem dX10_list_38 : decode cX10_list 38 = .ok (.ifCond .ne 7, 3) := by decide +kernel
theorem dX10_list_41 : decode cX10_list 41 = .ok (.iconst 2, 1) := by decide +kernel
theorem dX10_list_42 : decode cX10_list 42 = .ok (.goto 4, 3) := by decide +kernel
theorem dX10_list_45 : decode cX10_list 45 = .ok (.iconst 0, 1) := by decide +kernel
theorem dX10_list_46 : decode cX10_list 46 = .ok (.putfield 101, 3) := by decide +kernel
theorem dX10_list_49 : decode cX10_list 49 = .ok (.aload_n 0, 1) := by decide +kernel
theorem dX10_list_50 : decode cX10_list 50 = .ok (.getfield 101, 3) := by decide +kernel
theorem dX10_list_53 : decode cX10_list 53 = .ok (.ifCond .le 5, 3) := by decide +kernel
theorem dX10_list_56 : decode cX10_list 56 = .ok (.iconst 0, 1) := by decide +kernel
theorem dX10_list_57 : decode cX10_list 57 = .ok (.ireturn, 1) := by decide +kernel
theorem dX10_list_58 : decode cX10_list 58 = .ok (.aload_n 0, 1) := by decide +kernel
theorem dX10_list_59 : decode cX10_list 59 = .ok (.getfield 76, 3) := by decide +kernel
theorem dX10_list_62 : decode cX10_list 62 = .ok (.iload_n 1, 1) := by decide +kernel
theorem dX10_list_63 : decode cX10_list 63 = .ok (.iaload, 1) := by decide +kernel
theorem dX10_list_64 : decode cX10_list 64 = .ok (.istore 4, 2) := by decide +kernel
theorem dX10_list_66 : decode cX10_list 66 = .ok (.aload_n 0, 1) := by decide +kernel
theorem dX10_list_67 : decode cX10_list 67 = .ok (.getfield 76, 3) := by decide +kernel
theorem dX10_list_70 : decode cX10_list 70 = .ok (.iload_n 1, 1) := by decide +kernel
theorem dX10_list_71 : decode cX10_list 71 = .ok (.iload_n 2, 1) := by decide +kernel
theorem dX10_list_72 : decode cX10_list 72 = .ok (.iastore, 1) := by decide +kernel
theorem dX10_list_73 : decode cX10_list 73 = .ok (.aload_n 0, 1) := by decide +kernel
theorem dX10_list_74 : decode cX10_list 74 = .ok (.getfield 79, 3) := by decide +kernel
theorem dX10_list_77 : decode cX10_list 77 = .ok (.iload_n 1, 1) := by decide +kernel
theorem dX10_list_78 : decode cX10_list 78 = .ok (.iload_n 3, 1) := by decide +kernel
theorem dX10_list_79 : decode cX10_list 79 = .ok (.iastore, 1) := by decide +kernel
theorem dX10_list_80 : decode cX10_list 80 = .ok (.iload 4, 2) := by decide +kernel
theorem dX10_list_82 : decode cX10_list 82 = .ok (.ireturn, 1) := by decide +kernel
theorem dX10_fault_0 : decode cX10_fault 0 = .ok (.aload_n 0, 1) := by decide +kernel
theorem dX10_fault_1 : decode cX10_fault 1 = .ok (.aload_n 0, 1) := by decide +kernel
theorem dX10_fault_2 : decode cX10_fault 2 = .ok (.iload_n 1, 1) := by decide +kernel
theorem dX10_fault_3 : decode cX10_fault 3 = .ok (.invokevirtual 115, 3) := by decide +kernel
theorem dX10_fault_6 : decode cX10_fault 6 = .ok (.ifCond .eq 28, 3) := by decide +kernel
theorem dX10_fault_9 : decode cX10_fault 9 = .ok (.aload_n 0, 1) := by decide +kernel
theorem dX10_fault_10 : decode cX10_fault 10 = .ok (.iload_n 2, 1) := by decide +kernel
theorem dX10_fault_11 : decode cX10_fault 11 = .ok (.iconst 0, 1) := by decide +kernel
theorem dX10_fault_12 : decode cX10_fault 12 = .ok (.iconst 3, 1) := by decide +kernel
theorem dX10_fault_13 : decode cX10_fault 13 = .ok (.invokevirtual 105, 3) := by decide +kernel
theorem dX10_fault_16 : decode cX10_fault 16 = .ok (.ifCond .eq 18, 3) := by decide +kernel
theorem dX10_fault_19 : decode cX10_fault 19 = .ok (.iload_n 2, 1) := by decide +kernel
theorem dX10_fault_20 : decode cX10_fault 20 = .ok (.iconst 1, 1) := by decide +kernel
theorem dX10_fault_21 : decode cX10_fault 21 = .ok (.if_icmp .gt 17, 3) := by decide +kernel
theorem dX10_fault_24 : decode cX10_fault 24 = .ok (.aload_n 0, 1) := by decide +kernel
theorem dX10_fault_25 : decode cX10_fault 25 = .ok (.iload_n 3, 1) := by decide +kernel
theorem dX10_fault_26 : decode cX10_fault 26 = .ok (.iconst 0, 1) := by decide +kernel
theorem dX10_fault_27 : decode cX10_fault 27 = .ok (.iconst 3, 1) := by decide +kernel
theorem dX10_fault_28 : decode cX10_fault 28 = .ok (.invokevirtual 105, 3) := by decide +kernel
theorem dX10_fault_31 : decode cX10_fault 31 = .ok (.ifCond .ne 7, 3) := by decide +kernel
theorem dX10_fault_34 : decode cX10_fault 34 = .ok (.iconst 1, 1) := by decide +kernel
theorem dX10_fault_35 : decode cX10_fault 35 = .ok (.goto 4, 3) := by decide +kernel
theorem dX10_fault_38 : decode cX10_fault 38 = .ok (.iconst 0, 1) := by decide +kernel
theorem dX10_fault_39 : decode cX10_fault 39 = .ok (.putfield 101, 3) := by decide +kernel
theorem dX10_fault_42 : decode cX10_fault 42 = .ok (.aload_n 0, 1) := by decide +kernel
theorem dX10_fault_43 : decode cX10_fault 43 = .ok (.getfield 101, 3) := by decide +kernel
theorem dX10_fault_46 : decode cX10_fault 46 = .ok (.ifCond .ne 41, 3) := by decide +kernel
theorem dX10_fault_49 : decode cX10_fault 49 = .ok (.iload_n 2, 1) := by decide +kernel
theorem dX10_fault_50 : decode cX10_fault 50 = .ok (.ifCond .ne 15, 3) := by decide +kernel
theorem dX10_fault_53 : decode cX10_fault 53 = .ok (.aload_n 0, 1) := by decide +kernel
theorem dX10_fault_54 : decode cX10_fault 54 = .ok (.iload 4, 2) := by decide +kernel
theorem dX10_fault_56 : decode cX10_fault 56 = .ok (.iconst 1, 1) := by decide +kernel
theorem dX10_fault_57 : decode cX10_fault 57 = .ok (.bipush 20, 2) := by decide +kernel
theorem dX10_fault_59 : decode cX10_fault 59 = .ok (.invokevirtual 105, 3) := by decide +kernel
theorem dX10_fault_62 : decode cX10_fault 62 = .ok (.ifCond .eq 20, 3) := by decide +kernel
theorem dX10_fault_65 : decode cX10_fault 65 = .ok (.iload_n 2, 1) := by decide +kernel
theorem dX10_fault_66 : decode cX10_fault 66 = .ok (.iconst 2, 1) := by decide +kernel
theorem dX10_fault_67 : decode cX10_fault 67 = .ok (.if_icmp .ne 20, 3) := by decide +kernel
theorem dX10_fault_70 : decode cX10_fault 70 = .ok (.aload_n 0, 1) := by decide +kernel
theorem dX10_fault_71 : decode cX10_fault 71 = .ok (.iload 4, 2) := by decide +kernel
theorem dX10_fault_73 : decode cX10_fault 73 = .ok (.iconst 1, 1) := by decide +kernel
theorem dX10_fault_74 : decode cX10_fault 74 = .ok (.bipush 100, 2) := by decide +kernel
theorem dX10_fault_76 : decode cX10_fault 76 = .ok (.invokevirtual 105, 3) := by decide +kernel
theorem dX10_fault_79 : decode cX10_fault 79 = .ok (.ifCond .ne 8, 3) := by decide +kernel
theorem dX10_fault_82 : decode cX10_fault 82 = .ok (.aload_n 0, 1) := by decide +kernel
theorem dX10_fault_83 : decode cX10_fault 83 = .ok (.iconst 2, 1) := by decide +kernel
theorem dX10_fault_84 : decode cX10_fault 84 = .ok (.putfield 101, 3) := by decide +kernel
theorem dX10_fault_87 : decode cX10_fault 87 = .ok (.aload_n 0, 1) := by decide +kernel
theorem dX10_fault_88 : decode cX10_fault 88 = .ok (.getfield 101, 3) := by decide +kernel
theorem dX10_fault_91 : decode cX10_fault 91 = .ok (.ifCond .ne 19, 3) := by decide +kernel
theorem dX10_fault_94 : decode cX10_fault 94 = .ok (.aload_n 0, 1) := by decide +kernel
theorem dX10_fault_95 : decode cX10_fault 95 = .ok (.getfield 34, 3) := by decide +kernel
theorem dX10_fault_98 : decode cX10_fault 98 = .ok (.iload_n 1, 1) := by decide +kernel
theorem dX10_fault_99 : decode cX10_fault 99 = .ok (.iaload, 1) := by decide +kernel
theorem dX10_fault_100 : decode cX10_fault 100 = .ok (.bipush 8, 2) := by decide +kernel
theorem dX10_fault_102 : decode cX10_fault 102 = .ok (.if_icmp .ne 8, 3) := by decide +kernel
theorem dX10_fault_105 : decode cX10_fault 105 = .ok (.aload_n 0, 1) := by decide +kernel
theorem dX10_fault_106 : decode cX10_fault 106 = .ok (.iconst 3, 1) := by decide +kernel
theorem dX10_fault_107 : decode cX10_fault 107 = .ok (.putfield 101, 3) := by decide +kernel
theorem dX10_fault_110 : decode cX10_fault 110 = .ok (.aload_n 0, 1) := by decide +kernel
theorem dX10_fault_111 : decode cX10_fault 111 = .ok (.getfield 101, 3) := by decide +kernel
theorem dX10_fault_114 : decode cX10_fault 114 = .ok (.ifCond .le 5, 3) := by decide +kernel
theorem dX10_fault_117 : decode cX10_fault 117 = .ok (.iconst 0, 1) := by decide +kernel
theorem dX10_fault_118 : decode cX10_fault 118 = .ok (.ireturn, 1) := by decide +kernel
theorem dX10_fault_119 : decode cX10_fault 119 = .ok (.bipush 8, 2) := by decide +kernel
theorem dX10_fault_121 : decode cX10_fault 121 = .ok (.iload_n 1, 1) := by decide +kernel
theorem dX10_fault_122 : decode cX10_fault 122 = .ok (.imul, 1) := by decide +kernel
theorem dX10_fault_123 : decode cX10_fault 123 = .ok (.aload_n 0, 1) := by decide +kernel
theorem dX10_fault_124 : decode cX10_fault 124 = .ok (.getfield 34, 3) := by decide +kernel
theorem dX10_fault_127 : decode cX10_fault 127 = .ok (.iload_n 1, 1) := by decide +kernel
theorem dX10_fault_128 : decode cX10_fault 128 = .ok (.iaload, 1) := by decide +kernel
theorem dX10_fault_129 : decode cX10_fault 129 = .ok (.iadd, 1) := by decide +kernel
theorem dX10_fault_130 : decode cX10_fault 130 = .ok (.istore 5, 2) := by decide +kernel
theorem dX10_fault_132 : decode cX10_fault 132 = .ok (.aload_n 0, 1) := by decide +kernel
theorem dX10_fault_133 : decode cX10_fault 133 = .ok (.getfield 37, 3) := by decide +kernel
theorem dX10_fault_136 : decode cX10_fault 136 = .ok (.iload 5, 2) := by decide +kernel
theorem dX10_fault_138 : decode cX10_fault 138 = .ok (.iload_n 2, 1) := by decide +kernel
theorem dX10_fault_139 : decode cX10_fault 139 = .ok (.iastore, 1) := by decide +kernel
theorem dX10_fault_140 : decode cX10_fault 140 = .ok (.aload_n 0, 1) := by decide +kernel
theorem dX10_fault_141 : decode cX10_fault 141 = .ok (.getfield 40, 3) := by decide +kernel
theorem dX10_fault_144 : decode cX10_fault 144 = .ok (.iload 5, 2) := by decide +kernel
theorem dX10_fault_146 : decode cX10_fault 146 = .ok (.aload_n 0, 1) := by decide +kernel
theorem dX10_fault_147 : decode cX10_fault 147 = .ok (.getfield 135, 3) := by decide +kernel
theorem dX10_fault_150 : decode cX10_fault 150 = .ok (.iastore, 1) := by decide +kernel
theorem dX10_fault_151 : decode cX10_fault 151 = .ok (.aload_n 0, 1) := by decide +kernel
theorem dX10_fault_152 : decode cX10_fault 152 = .ok (.getfield 43, 3) := by decide +kernel
theorem dX10_fault_155 : decode cX10_fault 155 = .ok (.iload 5, 2) := by decide +kernel
theorem dX10_fault_157 : decode cX10_fault 157 = .ok (.iload_n 2, 1) := by decide +kernel
theorem dX10_fault_158 : decode cX10_fault 158 = .ok (.iconst 1, 1) := by decide +kernel
theorem dX10_fault_159 : decode cX10_fault 159 = .ok (.if_icmp .gt 7, 3) := by decide +kernel
theorem dX10_fault_162 : decode cX10_fault 162 = .ok (.iload_n 3, 1) := by decide +kernel
theorem dX10_fault_163 : decode cX10_fault 163 = .ok (.goto 4, 3) := by decide +kernel
theorem dX10_fault_166 : decode cX10_fault 166 = .ok (.iconst (-1), 1) := by decide +kernel
theorem dX10_fault_167 : decode cX10_fault 167 = .ok (.iastore, 1) := by decide +kernel
theorem dX10_fault_168 : decode cX10_fault 168 = .ok (.aload_n 0, 1) := by decide +kernel
theorem dX10_fault_169 : decode cX10_fault 169 = .ok (.getfield 46, 3) := by decide +kernel
theorem dX10_fault_172 : decode cX10_fault 172 = .ok (.iload 5, 2) := by decide +kernel
theorem dX10_fault_174 : decode cX10_fault 174 = .ok (.iload_n 2, 1) := by decide +kernel
theorem dX10_fault_175 : decode cX10_fault 175 = .ok (.ifCond .eq 8, 3) := by decide +kernel
theorem dX10_fault_178 : decode cX10_fault 178 = .ok (.iload_n 2, 1) := by decide +kernel
theorem dX10_fault_179 : decode cX10_fault 179 = .ok (.iconst 2, 1) := by decide +kernel
theorem dX10_fault_180 : decode cX10_fault 180 = .ok (.if_icmp .ne 8, 3) := by decide +kernel
theorem dX10_fault_183 : decode cX10_fault 183 = .ok (.iload 4, 2) := by decide +kernel
theorem dX10_fault_185 : decode cX10_fault 185 = .ok (.goto 4, 3) := by decide +kernel
theorem dX10_fault_188 : decode cX10_fault 188 = .ok (.iconst (-1), 1) := by decide +kernel
theorem dX10_fault_189 : decode cX10_fault 189 = .ok (.iastore, 1) := by decide +kernel
theorem dX10_fault_190 : decode cX10_fault 190 = .ok (.aload_n 0, 1) := by decide +kernel
theorem dX10_fault_191 : decode cX10_fault 191 = .ok (.getfield 34, 3) := by decide +kernel
theorem dX10_fault_194 : decode cX10_fault 194 = .ok (.iload_n 1, 1) := by decide +kernel
theorem dX10_fault_195 : decode cX10_fault 195 = .ok (.dup2, 1) := by decide +kernel
theorem dX10_fault_196 : decode cX10_fault 196 = .ok (.iaload, 1) := by decide +kernel
theorem dX10_fault_197 : decode cX10_fault 197 = .ok (.iconst 1, 1) := by decide +kernel
theorem dX10_fault_198 : decode cX10_fault 198 = .ok (.iadd, 1) := by decide +kernel
theorem dX10_fault_199 : decode cX10_fault 199 = .ok (.iastore, 1) := by decide +kernel
theorem dX10_fault_200 : decode cX10_fault 200 = .ok (.aload_n 0, 1) := by decide +kernel
theorem dX10_fault_201 : decode cX10_fault 201 = .ok (.getfield 34, 3) := by decide +kernel
theorem dX10_fault_204 : decode cX10_fault 204 = .ok (.iload_n 1, 1) := by decide +kernel
theorem dX10_fault_205 : decode cX10_fault 205 = .ok (.iaload, 1) := by decide +kernel
theorem dX10_fault_206 : decode cX10_fault 206 = .ok (.ireturn, 1) := by decide +kernel
theorem dX10_pin_0 : decode cX10_pin 0 = .ok (.aload_n 0, 1) := by decide +kernel
theorem dX10_pin_1 : decode cX10_pin 1 = .ok (.aload_n 0, 1) := by decide +kernel
theorem dX10_pin_2 : decode cX10_pin 2 = .ok (.iload_n 1, 1) := by decide +kernel
theorem dX10_pin_3 : decode cX10_pin 3 = .ok (.invokevirtual 138, 3) := by decide +kernel
theorem dX10_pin_6 : decode cX10_pin 6 = .ok (.ifCond .eq 16, 3) := by decide +kernel
theorem dX10_pin_9 : decode cX10_pin 9 = .ok (.iload_n 2, 1) := by decide +kernel
theorem dX10_pin_10 : decode cX10_pin 10 = .ok (.iconst (-1), 1) := by decide +kernel
theorem dX10_pin_11 : decode cX10_pin 11 = .ok (.if_icmp .eq 15, 3) := by decide +kernel
theorem dX10_pin_14 : decode cX10_pin 14 = .ok (.aload_n 0, 1) := by decide +kernel
theorem dX10_pin_15 : decode cX10_pin 15 = .ok (.iload_n 2, 1) := by decide +kernel
theorem dX10_pin_16 : decode cX10_pin 16 = .ok (.invokevirtual 115, 3) := by decide +kernel
theorem dX10_pin_19 : decode cX10_pin 19 = .ok (.ifCond .ne 7, 3) := by decide +kernel
theorem dX10_pin_22 : decode cX10_pin 22 = .ok (.iconst 1, 1) := by decide +kernel
theorem dX10_pin_23 : decode cX10_pin 23 = .ok (.goto 4, 3) := by decide +kernel
theorem dX10_pin_26 : decode cX10_pin 26 = .ok (.iconst 0, 1) := by decide +kernel
theorem dX10_pin_27 : decode cX10_pin 27 = .ok (.putfield 101, 3) := by decide +kernel
theorem dX10_pin_30 : decode cX10_pin 30 = .ok (.aload_n 0, 1) := by decide +kernel
theorem dX10_pin_31 : decode cX10_pin 31 = .ok (.getfield 101, 3) := by decide +kernel
theorem dX10_pin_34 : decode cX10_pin 34 = .ok (.ifCond .le 5, 3) := by decide +kernel
theorem dX10_pin_37 : decode cX10_pin 37 = .ok (.iconst 0, 1) := by decide +kernel
theorem dX10_pin_38 : decode cX10_pin 38 = .ok (.ireturn, 1) := by decide +kernel
theorem dX10_pin_39 : decode cX10_pin 39 = .ok (.aload_n 0, 1) := by decide +kernel
theorem dX10_pin_40 : decode cX10_pin 40 = .ok (.getfield 64, 3) := by decide +kernel
theorem dX10_pin_43 : decode cX10_pin 43 = .ok (.iload_n 1, 1) := by decide +kernel
theorem dX10_pin_44 : decode cX10_pin 44 = .ok (.iaload, 1) := by decide +kernel
theorem dX10_pin_45 : decode cX10_pin 45 = .ok (.istore_n 3, 1) := by decide +kernel
theorem dX10_pin_46 : decode cX10_pin 46 = .ok (.aload_n 0, 1) := by decide +kernel
theorem dX10_pin_47 : decode cX10_pin 47 = .ok (.getfield 64, 3) := by decide +kernel
theorem dX10_pin_50 : decode cX10_pin 50 = .ok (.iload_n 1, 1) := by decide +kernel
theorem dX10_pin_51 : decode cX10_pin 51 = .ok (.iload_n 2, 1) := by decide +kernel
theorem dX10_pin_52 : decode cX10_pin 52 = .ok (.iastore, 1) := by decide +kernel
theorem dX10_pin_53 : decode cX10_pin 53 = .ok (.iload_n 3, 1) := by decide +kernel
theorem dX10_pin_54 : decode cX10_pin 54 = .ok (.ireturn, 1) := by decide +kernel
theorem dX10_isExamDue_0 : decode cX10_isExamDue 0 = .ok (.iconst 0, 1) := by decide +kernel
theorem dX10_isExamDue_1 : decode cX10_isExamDue 1 = .ok (.istore_n 3, 1) := by decide +kernel
theorem dX10_isExamDue_2 : decode cX10_isExamDue 2 = .ok (.iconst 0, 1) := by decide +kernel
theorem dX10_isExamDue_3 : decode cX10_isExamDue 3 = .ok (.istore 4, 2) := by decide +kernel
theorem dX10_isExamDue_5 : decode cX10_isExamDue 5 = .ok (.iload 4, 2) := by decide +kernel
theorem dX10_isExamDue_7 : decode cX10_isExamDue 7 = .ok (.iconst 3, 1) := by decide +kernel
theorem dX10_isExamDue_8 : decode cX10_isExamDue 8 = .ok (.if_icmp .ge 62, 3) := by decide +kernel
theorem dX10_isExamDue_11 : decode cX10_isExamDue 11 = .ok (.iload_n 3, 1) := by decide +kernel
theorem dX10_isExamDue_12 : decode cX10_isExamDue 12 = .ok (.ifCond .ne 46, 3) := by decide +kernel
theorem dX10_isExamDue_15 : decode cX10_isExamDue 15 = .ok (.aload_n 0, 1) := by decide +kernel
theorem dX10_isExamDue_16 : decode cX10_isExamDue 16 = .ok (.getfield 22, 3) := by decide +kernel
theorem dX10_isExamDue_19 : decode cX10_isExamDue 19 = .ok (.iconst 3, 1) := by decide +kernel
theorem dX10_isExamDue_20 : decode cX10_isExamDue 20 = .ok (.iload_n 1, 1) := by decide +kernel
theorem dX10_isExamDue_21 : decode cX10_isExamDue 21 = .ok (.imul, 1) := by decide +kernel
theorem dX10_isExamDue_22 : decode cX10_isExamDue 22 = .ok (.iload 4, 2) := by decide +kernel
theorem dX10_isExamDue_24 : decode cX10_isExamDue 24 = .ok (.iadd, 1) := by decide +kernel
theorem dX10_isExamDue_25 : decode cX10_isExamDue 25 = .ok (.iaload, 1) := by decide +kernel
theorem dX10_isExamDue_26 : decode cX10_isExamDue 26 = .ok (.iload_n 2, 1) := by decide +kernel
theorem dX10_isExamDue_27 : decode cX10_isExamDue 27 = .ok (.iadd, 1) := by decide +kernel
theorem dX10_isExamDue_28 : decode cX10_isExamDue 28 = .ok (.aload_n 0, 1) := by decide +kernel
theorem dX10_isExamDue_29 : decode cX10_isExamDue 29 = .ok (.iload 4, 2) := by decide +kernel
theorem dX10_isExamDue_31 : decode cX10_isExamDue 31 = .ok (.invokevirtual 131, 3) := by decide +kernel
theorem dX10_isExamDue_34 : decode cX10_isExamDue 34 = .ok (.if_icmp .gt 24, 3) := by decide +kernel
theorem dX10_isExamDue_37 : decode cX10_isExamDue 37 = .ok (.aload_n 0, 1) := by decide +kernel
theorem dX10_isExamDue_38 : decode cX10_isExamDue 38 = .ok (.getfield 25, 3) := by decide +kernel
theorem dX10_isExamDue_41 : decode cX10_isExamDue 41 = .ok (.iconst 3, 1) := by decide +kernel
theorem dX10_isExamDue_42 : decode cX10_isExamDue 42 = .ok (.iload_n 1, 1) := by decide +kernel
theorem dX10_isExamDue_43 : decode cX10_isExamDue 43 = .ok (.imul, 1) := by decide +kernel
theorem dX10_isExamDue_44 : decode cX10_isExamDue 44 = .ok (.iload 4, 2) := by decide +kernel
theorem dX10_isExamDue_46 : decode cX10_isExamDue 46 = .ok (.iadd, 1) := by decide +kernel
theorem dX10_isExamDue_47 : decode cX10_isExamDue 47 = .ok (.iaload, 1) := by decide +kernel
theorem dX10_isExamDue_48 : decode cX10_isExamDue 48 = .ok (.aload_n 0, 1) := by decide +kernel
theorem dX10_isExamDue_49 : decode cX10_isExamDue 49 = .ok (.getfield 73, 3) := by decide +kernel
theorem dX10_isExamDue_52 : decode cX10_isExamDue 52 = .ok (.iload 4, 2) := by decide +kernel
theorem dX10_isExamDue_54 : decode cX10_isExamDue 54 = .ok (.iaload, 1) := by decide +kernel
theorem dX10_isExamDue_55 : decode cX10_isExamDue 55 = .ok (.if_icmp .le 7, 3) := by decide +kernel
theorem dX10_isExamDue_58 : decode cX10_isExamDue 58 = .ok (.iconst 1, 1) := by decide +kernel
theorem dX10_isExamDue_59 : decode cX10_isExamDue 59 = .ok (.goto 4, 3) := by decide +kernel
theorem dX10_isExamDue_62 : decode cX10_isExamDue 62 = .ok (.iconst 0, 1) := by decide +kernel
theorem dX10_isExamDue_63 : decode cX10_isExamDue 63 = .ok (.istore_n 3, 1) := by decide +kernel
theorem dX10_isExamDue_64 : decode cX10_isExamDue 64 = .ok (.iinc 4 1, 3) := by decide +kernel
theorem dX10_isExamDue_67 : decode cX10_isExamDue 67 = .ok (.goto (-62), 3) := by decide +kernel
theorem dX10_isExamDue_70 : decode cX10_isExamDue 70 = .ok (.iload_n 3, 1) := by decide +kernel
theorem dX10_isExamDue_71 : decode cX10_isExamDue 71 = .ok (.ireturn, 1) := by decide +kernel
theorem dX10_isBarredByList_0 : decode cX10_isBarredByList 0 = .ok (.iconst 0, 1) := by decide +kernel
theorem dX10_isBarredByList_1 : decode cX10_isBarredByList 1 = .ok (.istore_n 3, 1) := by decide +kernel
theorem dX10_isBarredByList_2 : decode cX10_isBarredByList 2 = .ok (.bipush 8, 2) := by decide +kernel
theorem dX10_isBarredByList_4 : decode cX10_isBarredByList 4 = .ok (.iload_n 1, 1) := by decide +kernel
theorem dX10_isBarredByList_5 : decode cX10_isBarredByList 5 = .ok (.imul, 1) := by decide +kernel
theorem dX10_isBarredByList_6 : decode cX10_isBarredByList 6 = .ok (.istore 4, 2) := by decide +kernel
theorem dX10_isBarredByList_8 : decode cX10_isBarredByList 8 = .ok (.iload 4, 2) := by decide +kernel
theorem dX10_isBarredByList_10 : decode cX10_isBarredByList 10 = .ok (.bipush 8, 2) := by decide +kernel
theorem dX10_isBarredByList_12 : decode cX10_isBarredByList 12 = .ok (.iload_n 1, 1) := by decide +kernel
theorem dX10_isBarredByList_13 : decode cX10_isBarredByList 13 = .ok (.imul, 1) := by decide +kernel
theorem dX10_isBarredByList_14 : decode cX10_isBarredByList 14 = .ok (.aload_n 0, 1) := by decide +kernel
theorem dX10_isBarredByList_15 : decode cX10_isBarredByList 15 = .ok (.getfield 34, 3) := by decide +kernel
theorem dX10_isBarredByList_18 : decode cX10_isBarredByList 18 = .ok (.iload_n 1, 1) := by decide +kernel
theorem dX10_isBarredByList_19 : decode cX10_isBarredByList 19 = .ok (.iaload, 1) := by decide +kernel
theorem dX10_isBarredByList_20 : decode cX10_isBarredByList 20 = .ok (.iadd, 1) := by decide +kernel
theorem dX10_isBarredByList_21 : decode cX10_isBarredByList 21 = .ok (.if_icmp .ge 72, 3) := by decide +kernel
theorem dX10_isBarredByList_24 : decode cX10_isBarredByList 24 = .ok (.aload_n 0, 1) := by decide +kernel
theorem dX10_isBarredByList_25 : decode cX10_isBarredByList 25 = .ok (.getfield 76, 3) := by decide +kernel
theorem dX10_isBarredByList_28 : decode cX10_isBarredByList 28 = .ok (.aload_n 0, 1) := by decide +kernel
theorem dX10_isBarredByList_29 : decode cX10_isBarredByList 29 = .ok (.getfield 37, 3) := by decide +kernel
theorem dX10_isBarredByList_32 : decode cX10_isBarredByList 32 = .ok (.iload 4, 2) := by decide +kernel
theorem dX10_isBarredByList_34 : decode cX10_isBarredByList 34 = .ok (.iaload, 1) := by decide +kernel
theorem dX10_isBarredByList_35 : decode cX10_isBarredByList 35 = .ok (.iaload, 1) := by decide +kernel
theorem dX10_isBarredByList_36 : decode cX10_isBarredByList 36 = .ok (.istore 5, 2) := by decide +kernel
theorem dX10_isBarredByList_38 : decode cX10_isBarredByList 38 = .ok (.iload_n 3, 1) := by decide +kernel
theorem dX10_isBarredByList_39 : decode cX10_isBarredByList 39 = .ok (.ifCond .ne 42, 3) := by decide +kernel
theorem dX10_isBarredByList_42 : decode cX10_isBarredByList 42 = .ok (.iload 5, 2) := by decide +kernel
theorem dX10_isBarredByList_44 : decode cX10_isBarredByList 44 = .ok (.iconst (-1), 1) := by decide +kernel
theorem dX10_isBarredByList_45 : decode cX10_isBarredByList 45 = .ok (.if_icmp .eq 36, 3) := by decide +kernel
theorem dX10_isBarredByList_48 : decode cX10_isBarredByList 48 = .ok (.aload_n 0, 1) := by decide +kernel
theorem dX10_isBarredByList_49 : decode cX10_isBarredByList 49 = .ok (.getfield 135, 3) := by decide +kernel
theorem dX10_isBarredByList_52 : decode cX10_isBarredByList 52 = .ok (.aload_n 0, 1) := by decide +kernel
theorem dX10_isBarredByList_53 : decode cX10_isBarredByList 53 = .ok (.getfield 40, 3) := by decide +kernel
theorem dX10_isBarredByList_56 : decode cX10_isBarredByList 56 = .ok (.iload 4, 2) := by decide +kernel
theorem dX10_isBarredByList_58 : decode cX10_isBarredByList 58 = .ok (.iaload, 1) := by decide +kernel
theorem dX10_isBarredByList_59 : decode cX10_isBarredByList 59 = .ok (.isub, 1) := by decide +kernel
theorem dX10_isBarredByList_60 : decode cX10_isBarredByList 60 = .ok (.iload 5, 2) := by decide +kernel
theorem dX10_isBarredByList_62 : decode cX10_isBarredByList 62 = .ok (.if_icmp .gt 19, 3) := by decide +kernel
theorem dX10_isBarredByList_65 : decode cX10_isBarredByList 65 = .ok (.iload_n 2, 1) := by decide +kernel
theorem dX10_isBarredByList_66 : decode cX10_isBarredByList 66 = .ok (.aload_n 0, 1) := by decide +kernel
theorem dX10_isBarredByList_67 : decode cX10_isBarredByList 67 = .ok (.getfield 79, 3) := by decide +kernel
theorem dX10_isBarredByList_70 : decode cX10_isBarredByList 70 = .ok (.aload_n 0, 1) := by decide +kernel
theorem dX10_isBarredByList_71 : decode cX10_isBarredByList 71 = .ok (.getfield 37, 3) := by decide +kernel
theorem dX10_isBarredByList_74 : decode cX10_isBarredByList 74 = .ok (.iload 4, 2) := by decide +kernel
theorem dX10_isBarredByList_76 : decode cX10_isBarredByList 76 = .ok (.iaload, 1) := by decide +kernel
theorem dX10_isBarredByList_77 : decode cX10_isBarredByList 77 = .ok (.iaload, 1) := by decide +kernel
theorem dX10_isBarredByList_78 : decode cX10_isBarredByList 78 = .ok (.if_icmp .le 7, 3) := by decide +kernel
theorem dX10_isBarredByList_81 : decode cX10_isBarredByList 81 = .ok (.iconst 1, 1) := by decide +kernel
theorem dX10_isBarredByList_82 : decode cX10_isBarredByList 82 = .ok (.goto 4, 3) := by decide +kernel
theorem dX10_isBarredByList_85 : decode cX10_isBarredByList 85 = .ok (.iconst 0, 1) := by decide +kernel
theorem dX10_isBarredByList_86 : decode cX10_isBarredByList 86 = .ok (.istore_n 3, 1) := by decide +kernel
theorem dX10_isBarredByList_87 : decode cX10_isBarredByList 87 = .ok (.iinc 4 1, 3) := by decide +kernel
theorem dX10_isBarredByList_90 : decode cX10_isBarredByList 90 = .ok (.goto (-82), 3) := by decide +kernel
theorem dX10_isBarredByList_93 : decode cX10_isBarredByList 93 = .ok (.iload_n 3, 1) := by decide +kernel
theorem dX10_isBarredByList_94 : decode cX10_isBarredByList 94 = .ok (.ireturn, 1) := by decide +kernel
theorem dX10_isBad_0 : decode cX10_isBad 0 = .ok (.iconst 0, 1) := by decide +kernel
theorem dX10_isBad_1 : decode cX10_isBad 1 = .ok (.istore_n 2, 1) := by decide +kernel
theorem dX10_isBad_2 : decode cX10_isBad 2 = .ok (.iconst 0, 1) := by decide +kernel
theorem dX10_isBad_3 : decode cX10_isBad 3 = .ok (.istore_n 3, 1) := by decide +kernel
theorem dX10_isBad_4 : decode cX10_isBad 4 = .ok (.bipush 8, 2) := by decide +kernel
theorem dX10_isBad_6 : decode cX10_isBad 6 = .ok (.iload_n 1, 1) := by decide +kernel
theorem dX10_isBad_7 : decode cX10_isBad 7 = .ok (.imul, 1) := by decide +kernel
theorem dX10_isBad_8 : decode cX10_isBad 8 = .ok (.istore 4, 2) := by decide +kernel
theorem dX10_isBad_10 : decode cX10_isBad 10 = .ok (.iload 4, 2) := by decide +kernel
theorem dX10_isBad_12 : decode cX10_isBad 12 = .ok (.bipush 8, 2) := by decide +kernel
theorem dX10_isBad_14 : decode cX10_isBad 14 = .ok (.iload_n 1, 1) := by decide +kernel
theorem dX10_isBad_15 : decode cX10_isBad 15 = .ok (.imul, 1) := by decide +kernel
theorem dX10_isBad_16 : decode cX10_isBad 16 = .ok (.aload_n 0, 1) := by decide +kernel
theorem dX10_isBad_17 : decode cX10_isBad 17 = .ok (.getfield 34, 3) := by decide +kernel
theorem dX10_isBad_20 : decode cX10_isBad 20 = .ok (.iload_n 1, 1) := by decide +kernel
theorem dX10_isBad_21 : decode cX10_isBad 21 = .ok (.iaload, 1) := by decide +kernel
theorem dX10_isBad_22 : decode cX10_isBad 22 = .ok (.iadd, 1) := by decide +kernel
theorem dX10_isBad_23 : decode cX10_isBad 23 = .ok (.if_icmp .ge 82, 3) := by decide +kernel
theorem dX10_isBad_26 : decode cX10_isBad 26 = .ok (.iload_n 2, 1) := by decide +kernel
theorem dX10_isBad_27 : decode cX10_isBad 27 = .ok (.ifCond .ne 47, 3) := by decide +kernel
theorem dX10_isBad_30 : decode cX10_isBad 30 = .ok (.aload_n 0, 1) := by decide +kernel
theorem dX10_isBad_31 : decode cX10_isBad 31 = .ok (.getfield 37, 3) := by decide +kernel
theorem dX10_isBad_34 : decode cX10_isBad 34 = .ok (.iload 4, 2) := by decide +kernel
theorem dX10_isBad_36 : decode cX10_isBad 36 = .ok (.iaload, 1) := by decide +kernel
theorem dX10_isBad_37 : decode cX10_isBad 37 = .ok (.ifCond .ne 14, 3) := by decide +kernel
theorem dX10_isBad_40 : decode cX10_isBad 40 = .ok (.aload_n 0, 1) := by decide +kernel
theorem dX10_isBad_41 : decode cX10_isBad 41 = .ok (.getfield 46, 3) := by decide +kernel
theorem dX10_isBad_44 : decode cX10_isBad 44 = .ok (.iload 4, 2) := by decide +kernel
theorem dX10_isBad_46 : decode cX10_isBad 46 = .ok (.iaload, 1) := by decide +kernel
theorem dX10_isBad_47 : decode cX10_isBad 47 = .ok (.iconst 4, 1) := by decide +kernel
theorem dX10_isBad_48 : decode cX10_isBad 48 = .ok (.if_icmp .gt 26, 3) := by decide +kernel
theorem dX10_isBad_51 : decode cX10_isBad 51 = .ok (.aload_n 0, 1) := by decide +kernel
theorem dX10_isBad_52 : decode cX10_isBad 52 = .ok (.getfield 37, 3) := by decide +kernel
theorem dX10_isBad_55 : decode cX10_isBad 55 = .ok (.iload 4, 2) := by decide +kernel
theorem dX10_isBad_57 : decode cX10_isBad 57 = .ok (.iaload, 1) := by decide +kernel
theorem dX10_isBad_58 : decode cX10_isBad 58 = .ok (.iconst 2, 1) := by decide +kernel
theorem dX10_isBad_59 : decode cX10_isBad 59 = .ok (.if_icmp .ne 19, 3) := by decide +kernel
theorem dX10_isBad_62 : decode cX10_isBad 62 = .ok (.aload_n 0, 1) := by decide +kernel
theorem dX10_isBad_63 : decode cX10_isBad 63 = .ok (.getfield 46, 3) := by decide +kernel
theorem dX10_isBad_66 : decode cX10_isBad 66 = .ok (.iload 4, 2) := by decide +kernel
theorem dX10_isBad_68 : decode cX10_isBad 68 = .ok (.iaload, 1) := by decide +kernel
theorem dX10_isBad_69 : decode cX10_isBad 69 = .ok (.bipush 50, 2) := by decide +kernel
theorem dX10_isBad_71 : decode cX10_isBad 71 = .ok (.if_icmp .le 7, 3) := by decide +kernel
theorem dX10_isBad_74 : decode cX10_isBad 74 = .ok (.iconst 1, 1) := by decide +kernel
theorem dX10_isBad_75 : decode cX10_isBad 75 = .ok (.goto 4, 3) := by decide +kernel
theorem dX10_isBad_78 : decode cX10_isBad 78 = .ok (.iconst 0, 1) := by decide +kernel
theorem dX10_isBad_79 : decode cX10_isBad 79 = .ok (.istore_n 2, 1) := by decide +kernel
theorem dX10_isBad_80 : decode cX10_isBad 80 = .ok (.iload_n 3, 1) := by decide +kernel
theorem dX10_isBad_81 : decode cX10_isBad 81 = .ok (.aload_n 0, 1) := by decide +kernel
theorem dX10_isBad_82 : decode cX10_isBad 82 = .ok (.getfield 37, 3) := by decide +kernel
theorem dX10_isBad_85 : decode cX10_isBad 85 = .ok (.iload 4, 2) := by decide +kernel
theorem dX10_isBad_87 : decode cX10_isBad 87 = .ok (.iaload, 1) := by decide +kernel
theorem dX10_isBad_88 : decode cX10_isBad 88 = .ok (.iconst 1, 1) := by decide +kernel
theorem dX10_isBad_89 : decode cX10_isBad 89 = .ok (.if_icmp .ne 7, 3) := by decide +kernel
theorem dX10_isBad_92 : decode cX10_isBad 92 = .ok (.iconst 1, 1) := by decide +kernel
theorem dX10_isBad_93 : decode cX10_isBad 93 = .ok (.goto 4, 3) := by decide +kernel
theorem dX10_isBad_96 : decode cX10_isBad 96 = .ok (.iconst 0, 1) := by decide +kernel
theorem dX10_isBad_97 : decode cX10_isBad 97 = .ok (.iadd, 1) := by decide +kernel
theorem dX10_isBad_98 : decode cX10_isBad 98 = .ok (.istore_n 3, 1) := by decide +kernel
theorem dX10_isBad_99 : decode cX10_isBad 99 = .ok (.iinc 4 1, 3) := by decide +kernel
theorem dX10_isBad_102 : decode cX10_isBad 102 = .ok (.goto (-92), 3) := by decide +kernel
theorem dX10_isBad_105 : decode cX10_isBad 105 = .ok (.iload_n 2, 1) := by decide +kernel
theorem dX10_isBad_106 : decode cX10_isBad 106 = .ok (.ifCond .ne 8, 3) := by decide +kernel
theorem dX10_isBad_109 : decode cX10_isBad 109 = .ok (.iload_n 3, 1) := by decide +kernel
theorem dX10_isBad_110 : decode cX10_isBad 110 = .ok (.iconst 1, 1) := by decide +kernel
theorem dX10_isBad_111 : decode cX10_isBad 111 = .ok (.if_icmp .le 7, 3) := by decide +kernel
theorem dX10_isBad_114 : decode cX10_isBad 114 = .ok (.iconst 1, 1) := by decide +kernel
theorem dX10_isBad_115 : decode cX10_isBad 115 = .ok (.goto 4, 3) := by decide +kernel
theorem dX10_isBad_118 : decode cX10_isBad 118 = .ok (.iconst 0, 1) := by decide +kernel
theorem dX10_isBad_119 : decode cX10_isBad 119 = .ok (.ireturn, 1) := by decide +kernel
theorem dX10_isWorn_0 : decode cX10_isWorn 0 = .ok (.aload_n 0, 1) := by decide +kernel
theorem dX10_isWorn_1 : decode cX10_isWorn 1 = .ok (.getfield 19, 3) := by decide +kernel
theorem dX10_isWorn_4 : decode cX10_isWorn 4 = .ok (.iconst 4, 1) := by decide +kernel
theorem dX10_isWorn_5 : decode cX10_isWorn 5 = .ok (.iload_n 1, 1) := by decide +kernel
theorem dX10_isWorn_6 : decode cX10_isWorn 6 = .ok (.imul, 1) := by decide +kernel
theorem dX10_isWorn_7 : decode cX10_isWorn 7 = .ok (.iaload, 1) := by decide +kernel
theorem dX10_isWorn_8 : decode cX10_isWorn 8 = .ok (.istore_n 2, 1) := by decide +kernel
theorem dX10_isWorn_9 : decode cX10_isWorn 9 = .ok (.iload_n 2, 1) := by decide +kernel
theorem dX10_isWorn_10 : decode cX10_isWorn 10 = .ok (.istore_n 3, 1) := by decide +kernel
theorem dX10_isWorn_11 : decode cX10_isWorn 11 = .ok (.iconst 4, 1) := by decide +kernel
theorem dX10_isWorn_12 : decode cX10_isWorn 12 = .ok (.iload_n 1, 1) := by decide +kernel
theorem dX10_isWorn_13 : decode cX10_isWorn 13 = .ok (.imul, 1) := by decide +kernel
theorem dX10_isWorn_14 : decode cX10_isWorn 14 = .ok (.istore 4, 2) := by decide +kernel
theorem dX10_isWorn_16 : decode cX10_isWorn 16 = .ok (.iload 4, 2) := by decide +kernel
theorem dX10_isWorn_18 : decode cX10_isWorn 18 = .ok (.iconst 4, 1) := by decide +kernel
theorem dX10_isWorn_19 : decode cX10_isWorn 19 = .ok (.iload_n 1, 1) := by decide +kernel
theorem dX10_isWorn_20 : decode cX10_isWorn 20 = .ok (.imul, 1) := by decide +kernel
theorem dX10_isWorn_21 : decode cX10_isWorn 21 = .ok (.iconst 4, 1) := by decide +kernel
theorem dX10_isWorn_22 : decode cX10_isWorn 22 = .ok (.iadd, 1) := by decide +kernel
theorem dX10_isWorn_23 : decode cX10_isWorn 23 = .ok (.if_icmp .ge 55, 3) := by decide +kernel
theorem dX10_isWorn_26 : decode cX10_isWorn 26 = .ok (.aload_n 0, 1) := by decide +kernel
theorem dX10_isWorn_27 : decode cX10_isWorn 27 = .ok (.getfield 19, 3) := by decide +kernel
theorem dX10_isWorn_30 : decode cX10_isWorn 30 = .ok (.iload 4, 2) := by decide +kernel
theorem dX10_isWorn_32 : decode cX10_isWorn 32 = .ok (.iaload, 1) := by decide +kernel
theorem dX10_isWorn_33 : decode cX10_isWorn 33 = .ok (.iload_n 2, 1) := by decide +kernel
theorem dX10_isWorn_34 : decode cX10_isWorn 34 = .ok (.if_icmp .ge 13, 3) := by decide +kernel
theorem dX10_isWorn_37 : decode cX10_isWorn 37 = .ok (.aload_n 0, 1) := by decide +kernel
theorem dX10_isWorn_38 : decode cX10_isWorn 38 = .ok (.getfield 19, 3) := by decide +kernel
theorem dX10_isWorn_41 : decode cX10_isWorn 41 = .ok (.iload 4, 2) := by decide +kernel
theorem dX10_isWorn_43 : decode cX10_isWorn 43 = .ok (.iaload, 1) := by decide +kernel
theorem dX10_isWorn_44 : decode cX10_isWorn 44 = .ok (.goto 4, 3) := by decide +kernel
theorem dX10_isWorn_47 : decode cX10_isWorn 47 = .ok (.iload_n 2, 1) := by decide +kernel
theorem dX10_isWorn_48 : decode cX10_isWorn 48 = .ok (.istore_n 2, 1) := by decide +kernel
theorem dX10_isWorn_49 : decode cX10_isWorn 49 = .ok (.aload_n 0, 1) := by decide +kernel
theorem dX10_isWorn_50 : decode cX10_isWorn 50 = .ok (.getfield 19, 3) := by decide +kernel
theorem dX10_isWorn_53 : decode cX10_isWorn 53 = .ok (.iload 4, 2) := by decide +kernel
theorem dX10_isWorn_55 : decode cX10_isWorn 55 = .ok (.iaload, 1) := by decide +kernel
theorem dX10_isWorn_56 : decode cX10_isWorn 56 = .ok (.iload_n 3, 1) := by decide +kernel
theorem dX10_isWorn_57 : decode cX10_isWorn 57 = .ok (.if_icmp .le 13, 3) := by decide +kernel
theorem dX10_isWorn_60 : decode cX10_isWorn 60 = .ok (.aload_n 0, 1) := by decide +kernel
theorem dX10_isWorn_61 : decode cX10_isWorn 61 = .ok (.getfield 19, 3) := by decide +kernel
theorem dX10_isWorn_64 : decode cX10_isWorn 64 = .ok (.iload 4, 2) := by decide +kernel
theorem dX10_isWorn_66 : decode cX10_isWorn 66 = .ok (.iaload, 1) := by decide +kernel
theorem dX10_isWorn_67 : decode cX10_isWorn 67 = .ok (.goto 4, 3) := by decide +kernel
theorem dX10_isWorn_70 : decode cX10_isWorn 70 = .ok (.iload_n 3, 1) := by decide +kernel
theorem dX10_isWorn_71 : decode cX10_isWorn 71 = .ok (.istore_n 3, 1) := by decide +kernel
theorem dX10_isWorn_72 : decode cX10_isWorn 72 = .ok (.iinc 4 1, 3) := by decide +kernel
theorem dX10_isWorn_75 : decode cX10_isWorn 75 = .ok (.goto (-59), 3) := by decide +kernel
theorem dX10_isWorn_78 : decode cX10_isWorn 78 = .ok (.iload_n 3, 1) := by decide +kernel
theorem dX10_isWorn_79 : decode cX10_isWorn 79 = .ok (.iload_n 2, 1) := by decide +kernel
theorem dX10_isWorn_80 : decode cX10_isWorn 80 = .ok (.isub, 1) := by decide +kernel
theorem dX10_isWorn_81 : decode cX10_isWorn 81 = .ok (.bipush 6, 2) := by decide +kernel
theorem dX10_isWorn_83 : decode cX10_isWorn 83 = .ok (.if_icmp .gt 10, 3) := by decide +kernel
theorem dX10_isWorn_86 : decode cX10_isWorn 86 = .ok (.iload_n 2, 1) := by decide +kernel
theorem dX10_isWorn_87 : decode cX10_isWorn 87 = .ok (.sipush 800, 3) := by decide +kernel
theorem dX10_isWorn_90 : decode cX10_isWorn 90 = .ok (.if_icmp .ge 7, 3) := by decide +kernel
theorem dX10_isWorn_93 : decode cX10_isWorn 93 = .ok (.iconst 1, 1) := by decide +kernel
theorem dX10_isWorn_94 : decode cX10_isWorn 94 = .ok (.goto 4, 3) := by decide +kernel
theorem dX10_isWorn_97 : decode cX10_isWorn 97 = .ok (.iconst 0, 1) := by decide +kernel
theorem dX10_isWorn_98 : decode cX10_isWorn 98 = .ok (.ireturn, 1) := by decide +kernel
theorem dX10_reason_0 : decode cX10_reason 0 = .ok (.aload_n 0, 1) := by decide +kernel
theorem dX10_reason_1 : decode cX10_reason 1 = .ok (.getfield 7, 3) := by decide +kernel
theorem dX10_reason_4 : decode cX10_reason 4 = .ok (.iload_n 1, 1) := by decide +kernel
theorem dX10_reason_5 : decode cX10_reason 5 = .ok (.iaload, 1) := by decide +kernel
theorem dX10_reason_6 : decode cX10_reason 6 = .ok (.aload_n 0, 1) := by decide +kernel
theorem dX10_reason_7 : decode cX10_reason 7 = .ok (.getfield 49, 3) := by decide +kernel
theorem dX10_reason_10 : decode cX10_reason 10 = .ok (.iload_n 2, 1) := by decide +kernel
theorem dX10_reason_11 : decode cX10_reason 11 = .ok (.iaload, 1) := by decide +kernel
theorem dX10_reason_12 : decode cX10_reason 12 = .ok (.if_icmp .eq 5, 3) := by decide +kernel
theorem dX10_reason_15 : decode cX10_reason 15 = .ok (.iconst 1, 1) := by decide +kernel
theorem dX10_reason_16 : decode cX10_reason 16 = .ok (.ireturn, 1) := by decide +kernel
theorem dX10_reason_17 : decode cX10_reason 17 = .ok (.aload_n 0, 1) := by decide +kernel
theorem dX10_reason_18 : decode cX10_reason 18 = .ok (.iload_n 1, 1) := by decide +kernel
theorem dX10_reason_19 : decode cX10_reason 19 = .ok (.aload_n 0, 1) := by decide +kernel
theorem dX10_reason_20 : decode cX10_reason 20 = .ok (.getfield 55, 3) := by decide +kernel
theorem dX10_reason_23 : decode cX10_reason 23 = .ok (.iload_n 2, 1) := by decide +kernel
theorem dX10_reason_24 : decode cX10_reason 24 = .ok (.iaload, 1) := by decide +kernel
theorem dX10_reason_25 : decode cX10_reason 25 = .ok (.invokevirtual 141, 3) := by decide +kernel
theorem dX10_reason_28 : decode cX10_reason 28 = .ok (.ifCond .eq 7, 3) := by decide +kernel
theorem dX10_reason_31 : decode cX10_reason 31 = .ok (.iconst 2, 1) := by decide +kernel
theorem dX10_reason_32 : decode cX10_reason 32 = .ok (.goto 46, 3) := by decide +kernel
theorem dX10_reason_35 : decode cX10_reason 35 = .ok (.aload_n 0, 1) := by decide +kernel
theorem dX10_reason_36 : decode cX10_reason 36 = .ok (.iload_n 1, 1) := by decide +kernel
theorem dX10_reason_37 : decode cX10_reason 37 = .ok (.aload_n 0, 1) := by decide +kernel
theorem dX10_reason_38 : decode cX10_reason 38 = .ok (.getfield 58, 3) := by decide +kernel
theorem dX10_reason_41 : decode cX10_reason 41 = .ok (.iload_n 2, 1) := by decide +kernel
theorem dX10_reason_42 : decode cX10_reason 42 = .ok (.iaload, 1) := by decide +kernel
theorem dX10_reason_43 : decode cX10_reason 43 = .ok (.invokevirtual 145, 3) := by decide +kernel
theorem dX10_reason_46 : decode cX10_reason 46 = .ok (.ifCond .eq 7, 3) := by decide +kernel
theorem dX10_reason_49 : decode cX10_reason 49 = .ok (.iconst 3, 1) := by decide +kernel
theorem dX10_reason_50 : decode cX10_reason 50 = .ok (.goto 28, 3) := by decide +kernel
theorem dX10_reason_53 : decode cX10_reason 53 = .ok (.aload_n 0, 1) := by decide +kernel
theorem dX10_reason_54 : decode cX10_reason 54 = .ok (.iload_n 1, 1) := by decide +kernel
theorem dX10_reason_55 : decode cX10_reason 55 = .ok (.invokevirtual 148, 3) := by decide +kernel
theorem dX10_reason_58 : decode cX10_reason 58 = .ok (.ifCond .eq 7, 3) := by decide +kernel
theorem dX10_reason_61 : decode cX10_reason 61 = .ok (.iconst 4, 1) := by decide +kernel
theorem dX10_reason_62 : decode cX10_reason 62 = .ok (.goto 16, 3) := by decide +kernel
theorem dX10_reason_65 : decode cX10_reason 65 = .ok (.aload_n 0, 1) := by decide +kernel
theorem dX10_reason_66 : decode cX10_reason 66 = .ok (.iload_n 1, 1) := by decide +kernel
theorem dX10_reason_67 : decode cX10_reason 67 = .ok (.invokevirtual 151, 3) := by decide +kernel
theorem dX10_reason_70 : decode cX10_reason 70 = .ok (.ifCond .eq 7, 3) := by decide +kernel
theorem dX10_reason_73 : decode cX10_reason 73 = .ok (.iconst 5, 1) := by decide +kernel
theorem dX10_reason_74 : decode cX10_reason 74 = .ok (.goto 4, 3) := by decide +kernel
theorem dX10_reason_77 : decode cX10_reason 77 = .ok (.iconst 0, 1) := by decide +kernel
theorem dX10_reason_78 : decode cX10_reason 78 = .ok (.ireturn, 1) := by decide +kernel
theorem dX10_whyNot_0 : decode cX10_whyNot 0 = .ok (.aload_n 0, 1) := by decide +kernel
theorem dX10_whyNot_1 : decode cX10_whyNot 1 = .ok (.aload_n 0, 1) := by decide +kernel
theorem dX10_whyNot_2 : decode cX10_whyNot 2 = .ok (.iload_n 1, 1) := by decide +kernel
theorem dX10_whyNot_3 : decode cX10_whyNot 3 = .ok (.invokevirtual 115, 3) := by decide +kernel
theorem dX10_whyNot_6 : decode cX10_whyNot 6 = .ok (.ifCond .eq 11, 3) := by decide +kernel
theorem dX10_whyNot_9 : decode cX10_whyNot 9 = .ok (.aload_n 0, 1) := by decide +kernel
theorem dX10_whyNot_10 : decode cX10_whyNot 10 = .ok (.iload_n 2, 1) := by decide +kernel
theorem dX10_whyNot_11 : decode cX10_whyNot 11 = .ok (.invokevirtual 138, 3) := by decide +kernel
theorem dX10_whyNot_14 : decode cX10_whyNot 14 = .ok (.ifCond .ne 7, 3) := by decide +kernel
theorem dX10_whyNot_17 : decode cX10_whyNot 17 = .ok (.iconst 1, 1) := by decide +kernel
theorem dX10_whyNot_18 : decode cX10_whyNot 18 = .ok (.goto 4, 3) := by decide +kernel
theorem dX10_whyNot_21 : decode cX10_whyNot 21 = .ok (.iconst 0, 1) := by decide +kernel
theorem dX10_whyNot_22 : decode cX10_whyNot 22 = .ok (.putfield 101, 3) := by decide +kernel
theorem dX10_whyNot_25 : decode cX10_whyNot 25 = .ok (.aload_n 0, 1) := by decide +kernel
theorem dX10_whyNot_26 : decode cX10_whyNot 26 = .ok (.getfield 101, 3) := by decide +kernel
theorem dX10_whyNot_29 : decode cX10_whyNot 29 = .ok (.ifCond .le 7, 3) := by decide +kernel
theorem dX10_whyNot_32 : decode cX10_whyNot 32 = .ok (.iconst 0, 1) := by decide +kernel
theorem dX10_whyNot_33 : decode cX10_whyNot 33 = .ok (.goto 9, 3) := by decide +kernel
theorem dX10_whyNot_36 : decode cX10_whyNot 36 = .ok (.aload_n 0, 1) := by decide +kernel
theorem dX10_whyNot_37 : decode cX10_whyNot 37 = .ok (.iload_n 1, 1) := by decide +kernel
theorem dX10_whyNot_38 : decode cX10_whyNot 38 = .ok (.iload_n 2, 1) := by decide +kernel
theorem dX10_whyNot_39 : decode cX10_whyNot 39 = .ok (.invokevirtual 154, 3) := by decide +kernel
theorem dX10_whyNot_42 : decode cX10_whyNot 42 = .ok (.ireturn, 1) := by decide +kernel
theorem dX10_isSoon_0 : decode cX10_isSoon 0 = .ok (.iconst 0, 1) := by decide +kernel
theorem dX10_isSoon_1 : decode cX10_isSoon 1 = .ok (.istore_n 2, 1) := by decide +kernel
theorem dX10_isSoon_2 : decode cX10_isSoon 2 = .ok (.iconst 0, 1) := by decide +kernel
theorem dX10_isSoon_3 : decode cX10_isSoon 3 = .ok (.istore_n 3, 1) := by decide +kernel
theorem dX10_isSoon_4 : decode cX10_isSoon 4 = .ok (.iload_n 3, 1) := by decide +kernel
theorem dX10_isSoon_5 : decode cX10_isSoon 5 = .ok (.iconst 3, 1) := by decide +kernel
theorem dX10_isSoon_6 : decode cX10_isSoon 6 = .ok (.if_icmp .ge 44, 3) := by decide +kernel
theorem dX10_isSoon_9 : decode cX10_isSoon 9 = .ok (.iload_n 2, 1) := by decide +kernel
theorem dX10_isSoon_10 : decode cX10_isSoon 10 = .ok (.ifCond .ne 28, 3) := by decide +kernel
theorem dX10_isSoon_13 : decode cX10_isSoon 13 = .ok (.aload_n 0, 1) := by decide +kernel
theorem dX10_isSoon_14 : decode cX10_isSoon 14 = .ok (.getfield 22, 3) := by decide +kernel
theorem dX10_isSoon_17 : decode cX10_isSoon 17 = .ok (.iconst 3, 1) := by decide +kernel
theorem dX10_isSoon_18 : decode cX10_isSoon 18 = .ok (.iload_n 1, 1) := by decide +kernel
theorem dX10_isSoon_19 : decode cX10_isSoon 19 = .ok (.imul, 1) := by decide +kernel
theorem dX10_isSoon_20 : decode cX10_isSoon 20 = .ok (.iload_n 3, 1) := by decide +kernel
theorem dX10_isSoon_21 : decode cX10_isSoon 21 = .ok (.iadd, 1) := by decide +kernel
theorem dX10_isSoon_22 : decode cX10_isSoon 22 = .ok (.iaload, 1) := by decide +kernel
theorem dX10_isSoon_23 : decode cX10_isSoon 23 = .ok (.bipush 100, 2) := by decide +kernel
theorem dX10_isSoon_25 : decode cX10_isSoon 25 = .ok (.imul, 1) := by decide +kernel
theorem dX10_isSoon_26 : decode cX10_isSoon 26 = .ok (.bipush 80, 2) := by decide +kernel
theorem dX10_isSoon_28 : decode cX10_isSoon 28 = .ok (.aload_n 0, 1) := by decide +kernel
theorem dX10_isSoon_29 : decode cX10_isSoon 29 = .ok (.getfield 67, 3) := by decide +kernel
theorem dX10_isSoon_32 : decode cX10_isSoon 32 = .ok (.iload_n 3, 1) := by decide +kernel
theorem dX10_isSoon_33 : decode cX10_isSoon 33 = .ok (.iaload, 1) := by decide +kernel
theorem dX10_isSoon_34 : decode cX10_isSoon 34 = .ok (.imul, 1) := by decide +kernel
theorem dX10_isSoon_35 : decode cX10_isSoon 35 = .ok (.if_icmp .lt 7, 3) := by decide +kernel
theorem dX10_isSoon_38 : decode cX10_isSoon 38 = .ok (.iconst 1, 1) := by decide +kernel
theorem dX10_isSoon_39 : decode cX10_isSoon 39 = .ok (.goto 4, 3) := by decide +kernel
theorem dX10_isSoon_42 : decode cX10_isSoon 42 = .ok (.iconst 0, 1) := by decide +kernel
theorem dX10_isSoon_43 : decode cX10_isSoon 43 = .ok (.istore_n 2, 1) := by decide +kernel
theorem dX10_isSoon_44 : decode cX10_isSoon 44 = .ok (.iinc 3 1, 3) := by decide +kernel
theorem dX10_isSoon_47 : decode cX10_isSoon 47 = .ok (.goto (-43), 3) := by decide +kernel
theorem dX10_isSoon_50 : decode cX10_isSoon 50 = .ok (.iload_n 2, 1) := by decide +kernel
theorem dX10_isSoon_51 : decode cX10_isSoon 51 = .ok (.ireturn, 1) := by decide +kernel
theorem dX10_looks_0 : decode cX10_looks 0 = .ok (.iconst 0, 1) := by decide +kernel
theorem dX10_looks_1 : decode cX10_looks 1 = .ok (.istore_n 1, 1) := by decide +kernel
theorem dX10_looks_2 : decode cX10_looks 2 = .ok (.iconst 0, 1) := by decide +kernel
theorem dX10_looks_3 : decode cX10_looks 3 = .ok (.istore_n 2, 1) := by decide +kernel
theorem dX10_looks_4 : decode cX10_looks 4 = .ok (.iconst 0, 1) := by decide +kernel
theorem dX10_looks_5 : decode cX10_looks 5 = .ok (.istore_n 3, 1) := by decide +kernel
theorem dX10_looks_6 : decode cX10_looks 6 = .ok (.iload_n 3, 1) := by decide +kernel
theorem dX10_looks_7 : decode cX10_looks 7 = .ok (.aload_n 0, 1) := by decide +kernel
theorem dX10_looks_8 : decode cX10_looks 8 = .ok (.getfield 112, 3) := by decide +kernel
theorem dX10_looks_11 : decode cX10_looks 11 = .ok (.if_icmp .ge 79, 3) := by decide +kernel
theorem dX10_looks_14 : decode cX10_looks 14 = .ok (.iload_n 1, 1) := by decide +kernel
theorem dX10_looks_15 : decode cX10_looks 15 = .ok (.aload_n 0, 1) := by decide +kernel
theorem dX10_looks_16 : decode cX10_looks 16 = .ok (.getfield 88, 3) := by decide +kernel
theorem dX10_looks_19 : decode cX10_looks 19 = .ok (.iload_n 3, 1) := by decide +kernel
theorem dX10_looks_20 : decode cX10_looks 20 = .ok (.iaload, 1) := by decide +kernel
theorem dX10_looks_21 : decode cX10_looks 21 = .ok (.aload_n 0, 1) := by decide +kernel
theorem dX10_looks_22 : decode cX10_looks 22 = .ok (.getfield 109, 3) := by decide +kernel
theorem dX10_looks_25 : decode cX10_looks 25 = .ok (.if_icmp .ne 12, 3) := by decide +kernel
theorem dX10_looks_28 : decode cX10_looks 28 = .ok (.aload_n 0, 1) := by decide +kernel
theorem dX10_looks_29 : decode cX10_looks 29 = .ok (.getfield 61, 3) := by decide +kernel
theorem dX10_looks_32 : decode cX10_looks 32 = .ok (.iload_n 3, 1) := by decide +kernel
theorem dX10_looks_33 : decode cX10_looks 33 = .ok (.iaload, 1) := by decide +kernel
theorem dX10_looks_34 : decode cX10_looks 34 = .ok (.goto 4, 3) := by decide +kernel
theorem dX10_looks_37 : decode cX10_looks 37 = .ok (.iconst 0, 1) := by decide +kernel
theorem dX10_looks_38 : decode cX10_looks 38 = .ok (.iadd, 1) := by decide +kernel
theorem dX10_looks_39 : decode cX10_looks 39 = .ok (.istore_n 1, 1) := by decide +kernel
theorem dX10_looks_40 : decode cX10_looks 40 = .ok (.iload_n 2, 1) := by decide +kernel
theorem dX10_looks_41 : decode cX10_looks 41 = .ok (.aload_n 0, 1) := by decide +kernel
theorem dX10_looks_42 : decode cX10_looks 42 = .ok (.getfield 88, 3) := by decide +kernel
theorem dX10_looks_45 : decode cX10_looks 45 = .ok (.iload_n 3, 1) := by decide +kernel
theorem dX10_looks_46 : decode cX10_looks 46 = .ok (.iaload, 1) := by decide +kernel
theorem dX10_looks_47 : decode cX10_looks 47 = .ok (.aload_n 0, 1) := by decide +kernel
theorem dX10_looks_48 : decode cX10_looks 48 = .ok (.getfield 109, 3) := by decide +kernel
theorem dX10_looks_51 : decode cX10_looks 51 = .ok (.if_icmp .ge 30, 3) := by decide +kernel
theorem dX10_looks_54 : decode cX10_looks 54 = .ok (.aload_n 0, 1) := by decide +kernel
theorem dX10_looks_55 : decode cX10_looks 55 = .ok (.getfield 52, 3) := by decide +kernel
theorem dX10_looks_58 : decode cX10_looks 58 = .ok (.iload_n 3, 1) := by decide +kernel
theorem dX10_looks_59 : decode cX10_looks 59 = .ok (.iaload, 1) := by decide +kernel
theorem dX10_looks_60 : decode cX10_looks 60 = .ok (.ifCond .ne 21, 3) := by decide +kernel
theorem dX10_looks_63 : decode cX10_looks 63 = .ok (.aload_n 0, 1) := by decide +kernel
theorem dX10_looks_64 : decode cX10_looks 64 = .ok (.getfield 98, 3) := by decide +kernel
theorem dX10_looks_67 : decode cX10_looks 67 = .ok (.aload_n 0, 1) := by decide +kernel
theorem dX10_looks_68 : decode cX10_looks 68 = .ok (.getfield 88, 3) := by decide +kernel
theorem dX10_looks_71 : decode cX10_looks 71 = .ok (.iload_n 3, 1) := by decide +kernel
theorem dX10_looks_72 : decode cX10_looks 72 = .ok (.iaload, 1) := by decide +kernel
theorem dX10_looks_73 : decode cX10_looks 73 = .ok (.baload, 1) := by decide +kernel
theorem dX10_looks_74 : decode cX10_looks 74 = .ok (.ifCond .eq 7, 3) := by decide +kernel
theorem dX10_looks_77 : decode cX10_looks 77 = .ok (.iconst 1, 1) := by decide +kernel
theorem dX10_looks_78 : decode cX10_looks 78 = .ok (.goto 4, 3) := by decide +kernel
theorem dX10_looks_81 : decode cX10_looks 81 = .ok (.iconst 0, 1) := by decide +kernel
theorem dX10_looks_82 : decode cX10_looks 82 = .ok (.iadd, 1) := by decide +kernel
theorem dX10_looks_83 : decode cX10_looks 83 = .ok (.istore_n 2, 1) := by decide +kernel
theorem dX10_looks_84 : decode cX10_looks 84 = .ok (.iinc 3 1, 3) := by decide +kernel
theorem dX10_looks_87 : decode cX10_looks 87 = .ok (.goto (-81), 3) := by decide +kernel
theorem dX10_looks_90 : decode cX10_looks 90 = .ok (.aload_n 0, 1) := by decide +kernel
theorem dX10_looks_91 : decode cX10_looks 91 = .ok (.getfield 158, 3) := by decide +kernel
theorem dX10_looks_94 : decode cX10_looks 94 = .ok (.iconst (-1), 1) := by decide +kernel
theorem dX10_looks_95 : decode cX10_looks 95 = .ok (.if_icmp .eq 27, 3) := by decide +kernel
theorem dX10_looks_98 : decode cX10_looks 98 = .ok (.iload_n 1, 1) := by decide +kernel
theorem dX10_looks_99 : decode cX10_looks 99 = .ok (.aload_n 0, 1) := by decide +kernel
theorem dX10_looks_100 : decode cX10_looks 100 = .ok (.getfield 158, 3) := by decide +kernel
theorem dX10_looks_103 : decode cX10_looks 103 = .ok (.if_icmp .lt 19, 3) := by decide +kernel
theorem dX10_looks_106 : decode cX10_looks 106 = .ok (.iload_n 1, 1) := by decide +kernel
theorem dX10_looks_107 : decode cX10_looks 107 = .ok (.aload_n 0, 1) := by decide +kernel
theorem dX10_looks_108 : decode cX10_looks 108 = .ok (.getfield 158, 3) := by decide +kernel
theorem dX10_looks_111 : decode cX10_looks 111 = .ok (.if_icmp .ne 66, 3) := by decide +kernel
theorem dX10_looks_114 : decode cX10_looks 114 = .ok (.iload_n 2, 1) := by decide +kernel
theorem dX10_looks_115 : decode cX10_looks 115 = .ok (.aload_n 0, 1) := by decide +kernel
theorem dX10_looks_116 : decode cX10_looks 116 = .ok (.getfield 161, 3) := by decide +kernel
theorem dX10_looks_119 : decode cX10_looks 119 = .ok (.if_icmp .le 58, 3) := by decide +kernel
theorem dX10_looks_122 : decode cX10_looks 122 = .ok (.aload_n 0, 1) := by decide +kernel
theorem dX10_looks_123 : decode cX10_looks 123 = .ok (.iload_n 1, 1) := by decide +kernel
theorem dX10_looks_124 : decode cX10_looks 124 = .ok (.putfield 158, 3) := by decide +kernel
theorem dX10_looks_127 : decode cX10_looks 127 = .ok (.aload_n 0, 1) := by decide +kernel
theorem dX10_looks_128 : decode cX10_looks 128 = .ok (.iload_n 2, 1) := by decide +kernel
theorem dX10_looks_129 : decode cX10_looks 129 = .ok (.putfield 161, 3) := by decide +kernel
theorem dX10_looks_132 : decode cX10_looks 132 = .ok (.iconst 0, 1) := by decide +kernel
theorem dX10_looks_133 : decode cX10_looks 133 = .ok (.istore_n 3, 1) := by decide +kernel
theorem dX10_looks_134 : decode cX10_looks 134 = .ok (.iload_n 3, 1) := by decide +kernel
theorem dX10_looks_135 : decode cX10_looks 135 = .ok (.aload_n 0, 1) := by decide +kernel
theorem dX10_looks_136 : decode cX10_looks 136 = .ok (.getfield 112, 3) := by decide +kernel
theorem dX10_looks_139 : decode cX10_looks 139 = .ok (.if_icmp .ge 38, 3) := by decide +kernel
theorem dX10_looks_142 : decode cX10_looks 142 = .ok (.aload_n 0, 1) := by decide +kernel
theorem dX10_looks_143 : decode cX10_looks 143 = .ok (.getfield 85, 3) := by decide +kernel
theorem dX10_looks_146 : decode cX10_looks 146 = .ok (.iload_n 3, 1) := by decide +kernel
theorem dX10_looks_147 : decode cX10_looks 147 = .ok (.aload_n 0, 1) := by decide +kernel
theorem dX10_looks_148 : decode cX10_looks 148 = .ok (.getfield 88, 3) := by decide +kernel
theorem dX10_looks_151 : decode cX10_looks 151 = .ok (.iload_n 3, 1) := by decide +kernel
theorem dX10_looks_152 : decode cX10_looks 152 = .ok (.iaload, 1) := by decide +kernel
theorem dX10_looks_153 : decode cX10_looks 153 = .ok (.aload_n 0, 1) := by decide +kernel
theorem dX10_looks_154 : decode cX10_looks 154 = .ok (.getfield 109, 3) := by decide +kernel
theorem dX10_looks_157 : decode cX10_looks 157 = .ok (.if_icmp .ne 7, 3) := by decide +kernel
theorem dX10_looks_160 : decode cX10_looks 160 = .ok (.iconst (-1), 1) := by decide +kernel
theorem dX10_looks_161 : decode cX10_looks 161 = .ok (.goto 9, 3) := by decide +kernel
theorem dX10_looks_164 : decode cX10_looks 164 = .ok (.aload_n 0, 1) := by decide +kernel
theorem dX10_looks_165 : decode cX10_looks 165 = .ok (.getfield 88, 3) := by decide +kernel
theorem dX10_looks_168 : decode cX10_looks 168 = .ok (.iload_n 3, 1) := by decide +kernel
theorem dX10_looks_169 : decode cX10_looks 169 = .ok (.iaload, 1) := by decide +kernel
theorem dX10_looks_170 : decode cX10_looks 170 = .ok (.iastore, 1) := by decide +kernel
theorem dX10_looks_171 : decode cX10_looks 171 = .ok (.iinc 3 1, 3) := by decide +kernel
theorem dX10_looks_174 : decode cX10_looks 174 = .ok (.goto (-40), 3) := by decide +kernel
theorem dX10_looks_177 : decode cX10_looks 177 = .ok (.return_, 1) := by decide +kernel
theorem dX10_decides_0 : decode cX10_decides 0 = .ok (.aload_n 0, 1) := by decide +kernel
theorem dX10_decides_1 : decode cX10_decides 1 = .ok (.aload_n 0, 1) := by decide +kernel
theorem dX10_decides_2 : decode cX10_decides 2 = .ok (.getfield 112, 3) := by decide +kernel
theorem dX10_decides_5 : decode cX10_decides 5 = .ok (.ifCond .ne 7, 3) := by decide +kernel
theorem dX10_decides_8 : decode cX10_decides 8 = .ok (.iconst 0, 1) := by decide +kernel
theorem dX10_decides_9 : decode cX10_decides 9 = .ok (.goto 4, 3) := by decide +kernel
theorem dX10_decides_12 : decode cX10_decides 12 = .ok (.iconst (-1), 1) := by decide +kernel
theorem dX10_decides_13 : decode cX10_decides 13 = .ok (.putfield 158, 3) := by decide +kernel
theorem dX10_decides_16 : decode cX10_decides 16 = .ok (.aload_n 0, 1) := by decide +kernel
theorem dX10_decides_17 : decode cX10_decides 17 = .ok (.iconst 0, 1) := by decide +kernel
theorem dX10_decides_18 : decode cX10_decides 18 = .ok (.putfield 161, 3) := by decide +kernel
theorem dX10_decides_21 : decode cX10_decides 21 = .ok (.iconst 0, 1) := by decide +kernel
theorem dX10_decides_22 : decode cX10_decides 22 = .ok (.istore_n 1, 1) := by decide +kernel
theorem dX10_decides_23 : decode cX10_decides 23 = .ok (.iload_n 1, 1) := by decide +kernel
theorem dX10_decides_24 : decode cX10_decides 24 = .ok (.aload_n 0, 1) := by decide +kernel
theorem dX10_decides_25 : decode cX10_decides 25 = .ok (.getfield 109, 3) := by decide +kernel
theorem dX10_decides_28 : decode cX10_decides 28 = .ok (.if_icmp .ge 88, 3) := by decide +kernel
theorem dX10_decides_31 : decode cX10_decides 31 = .ok (.aload_n 0, 1) := by decide +kernel
theorem dX10_decides_32 : decode cX10_decides 32 = .ok (.getfield 91, 3) := by decide +kernel
theorem dX10_decides_35 : decode cX10_decides 35 = .ok (.iload_n 1, 1) := by decide +kernel
theorem dX10_decides_36 : decode cX10_decides 36 = .ok (.iconst 0, 1) := by decide +kernel
theorem dX10_decides_37 : decode cX10_decides 37 = .ok (.bastore, 1) := by decide +kernel
theorem dX10_decides_38 : decode cX10_decides 38 = .ok (.aload_n 0, 1) := by decide +kernel
theorem dX10_decides_39 : decode cX10_decides 39 = .ok (.getfield 98, 3) := by decide +kernel
theorem dX10_decides_42 : decode cX10_decides 42 = .ok (.iload_n 1, 1) := by decide +kernel
theorem dX10_decides_43 : decode cX10_decides 43 = .ok (.aload_n 0, 1) := by decide +kernel
theorem dX10_decides_44 : decode cX10_decides 44 = .ok (.iload_n 1, 1) := by decide +kernel
theorem dX10_decides_45 : decode cX10_decides 45 = .ok (.invokevirtual 164, 3) := by decide +kernel
theorem dX10_decides_48 : decode cX10_decides 48 = .ok (.bastore, 1) := by decide +kernel
theorem dX10_decides_49 : decode cX10_decides 49 = .ok (.iconst 0, 1) := by decide +kernel
theorem dX10_decides_50 : decode cX10_decides 50 = .ok (.istore_n 2, 1) := by decide +kernel
theorem dX10_decides_51 : decode cX10_decides 51 = .ok (.iload_n 2, 1) := by decide +kernel
theorem dX10_decides_52 : decode cX10_decides 52 = .ok (.aload_n 0, 1) := by decide +kernel
theorem dX10_decides_53 : decode cX10_decides 53 = .ok (.getfield 112, 3) := by decide +kernel
theorem dX10_decides_56 : decode cX10_decides 56 = .ok (.if_icmp .ge 54, 3) := by decide +kernel
theorem dX10_decides_59 : decode cX10_decides 59 = .ok (.aload_n 0, 1) := by decide +kernel
theorem dX10_decides_60 : decode cX10_decides 60 = .ok (.getfield 95, 3) := by decide +kernel
theorem dX10_decides_63 : decode cX10_decides 63 = .ok (.bipush 6, 2) := by decide +kernel
theorem dX10_decides_65 : decode cX10_decides 65 = .ok (.iload_n 2, 1) := by decide +kernel
theorem dX10_decides_66 : decode cX10_decides 66 = .ok (.imul, 1) := by decide +kernel
theorem dX10_decides_67 : decode cX10_decides 67 = .ok (.iload_n 1, 1) := by decide +kernel
theorem dX10_decides_68 : decode cX10_decides 68 = .ok (.iadd, 1) := by decide +kernel
theorem dX10_decides_69 : decode cX10_decides 69 = .ok (.aload_n 0, 1) := by decide +kernel
theorem dX10_decides_70 : decode cX10_decides 70 = .ok (.iload_n 1, 1) := by decide +kernel
theorem dX10_decides_71 : decode cX10_decides 71 = .ok (.iload_n 2, 1) := by decide +kernel
theorem dX10_decides_72 : decode cX10_decides 72 = .ok (.invokevirtual 154, 3) := by decide +kernel
theorem dX10_decides_75 : decode cX10_decides 75 = .ok (.ifCond .ne 27, 3) := by decide +kernel
theorem dX10_decides_78 : decode cX10_decides 78 = .ok (.aload_n 0, 1) := by decide +kernel
theorem dX10_decides_79 : decode cX10_decides 79 = .ok (.getfield 64, 3) := by decide +kernel
theorem dX10_decides_82 : decode cX10_decides 82 = .ok (.iload_n 2, 1) := by decide +kernel
theorem dX10_decides_83 : decode cX10_decides 83 = .ok (.iaload, 1) := by decide +kernel
theorem dX10_decides_84 : decode cX10_decides 84 = .ok (.iconst (-1), 1) := by decide +kernel
theorem dX10_decides_85 : decode cX10_decides 85 = .ok (.if_icmp .eq 13, 3) := by decide +kernel
theorem dX10_decides_88 : decode cX10_decides 88 = .ok (.aload_n 0, 1) := by decide +kernel
theorem dX10_decides_89 : decode cX10_decides 89 = .ok (.getfield 64, 3) := by decide +kernel
theorem dX10_decides_92 : decode cX10_decides 92 = .ok (.iload_n 2, 1) := by decide +kernel
theorem dX10_decides_93 : decode cX10_decides 93 = .ok (.iaload, 1) := by decide +kernel
theorem dX10_decides_94 : decode cX10_decides 94 = .ok (.iload_n 1, 1) := by decide +kernel
theorem dX10_decides_95 : decode cX10_decides 95 = .ok (.if_icmp .ne 7, 3) := by decide +kernel
theorem dX10_decides_98 : decode cX10_decides 98 = .ok (.iconst 1, 1) := by decide +kernel
theorem dX10_decides_99 : decode cX10_decides 99 = .ok (.goto 4, 3) := by decide +kernel
theorem dX10_decides_102 : decode cX10_decides 102 = .ok (.iconst 0, 1) := by decide +kernel
theorem dX10_decides_103 : decode cX10_decides 103 = .ok (.bastore, 1) := by decide +kernel
theorem dX10_decides_104 : decode cX10_decides 104 = .ok (.iinc 2 1, 3) := by decide +kernel
theorem dX10_decides_107 : decode cX10_decides 107 = .ok (.goto (-56), 3) := by decide +kernel
theorem dX10_decides_110 : decode cX10_decides 110 = .ok (.iinc 1 1, 3) := by decide +kernel
theorem dX10_decides_113 : decode cX10_decides 113 = .ok (.goto (-90), 3) := by decide +kernel
theorem dX10_decides_116 : decode cX10_decides 116 = .ok (.aload_n 0, 1) := by decide +kernel
theorem dX10_decides_117 : decode cX10_decides 117 = .ok (.getfield 112, 3) := by decide +kernel
theorem dX10_decides_120 : decode cX10_decides 120 = .ok (.ifCond .ne 7, 3) := by decide +kernel
theorem dX10_decides_123 : decode cX10_decides 123 = .ok (.iconst (-1), 1) := by decide +kernel
theorem dX10_decides_124 : decode cX10_decides 124 = .ok (.goto 4, 3) := by decide +kernel
theorem dX10_decides_127 : decode cX10_decides 127 = .ok (.iconst 0, 1) := by decide +kernel
theorem dX10_decides_128 : decode cX10_decides 128 = .ok (.istore_n 1, 1) := by decide +kernel
theorem dX10_decides_129 : decode cX10_decides 129 = .ok (.aload_n 0, 1) := by decide +kernel
theorem dX10_decides_130 : decode cX10_decides 130 = .ok (.getfield 88, 3) := by decide +kernel
theorem dX10_decides_133 : decode cX10_decides 133 = .ok (.iconst 0, 1) := by decide +kernel
theorem dX10_decides_134 : decode cX10_decides 134 = .ok (.iconst (-1), 1) := by decide +kernel
theorem dX10_decides_135 : decode cX10_decides 135 = .ok (.iastore, 1) := by decide +kernel
theorem dX10_decides_136 : decode cX10_decides 136 = .ok (.iload_n 1, 1) := by decide +kernel
theorem dX10_decides_137 : decode cX10_decides 137 = .ok (.ifCond .lt 178, 3) := by decide +kernel
theorem dX10_decides_140 : decode cX10_decides 140 = .ok (.aload_n 0, 1) := by decide +kernel
theorem dX10_decides_141 : decode cX10_decides 141 = .ok (.aload_n 0, 1) := by decide +kernel
theorem dX10_decides_142 : decode cX10_decides 142 = .ok (.getfield 88, 3) := by decide +kernel
theorem dX10_decides_145 : decode cX10_decides 145 = .ok (.iload_n 1, 1) := by decide +kernel
theorem dX10_decides_146 : decode cX10_decides 146 = .ok (.iaload, 1) := by decide +kernel
theorem dX10_decides_147 : decode cX10_decides 147 = .ok (.iconst 0, 1) := by decide +kernel
theorem dX10_decides_148 : decode cX10_decides 148 = .ok (.aload_n 0, 1) := by decide +kernel
theorem dX10_decides_149 : decode cX10_decides 149 = .ok (.getfield 109, 3) := by decide +kernel
theorem dX10_decides_152 : decode cX10_decides 152 = .ok (.iconst 1, 1) := by decide +kernel
theorem dX10_decides_153 : decode cX10_decides 153 = .ok (.isub, 1) := by decide +kernel
theorem dX10_decides_154 : decode cX10_decides 154 = .ok (.invokevirtual 105, 3) := by decide +kernel
theorem dX10_decides_157 : decode cX10_decides 157 = .ok (.ifCond .eq 15, 3) := by decide +kernel
theorem dX10_decides_160 : decode cX10_decides 160 = .ok (.aload_n 0, 1) := by decide +kernel
theorem dX10_decides_161 : decode cX10_decides 161 = .ok (.getfield 91, 3) := by decide +kernel
theorem dX10_decides_164 : decode cX10_decides 164 = .ok (.aload_n 0, 1) := by decide +kernel
theorem dX10_decides_165 : decode cX10_decides 165 = .ok (.getfield 88, 3) := by decide +kernel
theorem dX10_decides_168 : decode cX10_decides 168 = .ok (.iload_n 1, 1) := by decide +kernel
theorem dX10_decides_169 : decode cX10_decides 169 = .ok (.iaload, 1) := by decide +kernel
theorem dX10_decides_170 : decode cX10_decides 170 = .ok (.iconst 0, 1) := by decide +kernel
theorem dX10_decides_171 : decode cX10_decides 171 = .ok (.bastore, 1) := by decide +kernel
theorem dX10_decides_172 : decode cX10_decides 172 = .ok (.aload_n 0, 1) := by decide +kernel
theorem dX10_decides_173 : decode cX10_decides 173 = .ok (.getfield 88, 3) := by decide +kernel
theorem dX10_decides_176 : decode cX10_decides 176 = .ok (.iload_n 1, 1) := by decide +kernel
theorem dX10_decides_177 : decode cX10_decides 177 = .ok (.dup2, 1) := by decide +kernel
theorem dX10_decides_178 : decode cX10_decides 178 = .ok (.iaload, 1) := by decide +kernel
theorem dX10_decides_179 : decode cX10_decides 179 = .ok (.iconst 1, 1) := by decide +kernel
theorem dX10_decides_180 : decode cX10_decides 180 = .ok (.iadd, 1) := by decide +kernel
theorem dX10_decides_181 : decode cX10_decides 181 = .ok (.iastore, 1) := by decide +kernel
theorem dX10_decides_182 : decode cX10_decides 182 = .ok (.aload_n 0, 1) := by decide +kernel
theorem dX10_decides_183 : decode cX10_decides 183 = .ok (.getfield 88, 3) := by decide +kernel
theorem dX10_decides_186 : decode cX10_decides 186 = .ok (.iload_n 1, 1) := by decide +kernel
theorem dX10_decides_187 : decode cX10_decides 187 = .ok (.iaload, 1) := by decide +kernel
theorem dX10_decides_188 : decode cX10_decides 188 = .ok (.aload_n 0, 1) := by decide +kernel
theorem dX10_decides_189 : decode cX10_decides 189 = .ok (.getfield 109, 3) := by decide +kernel
theorem dX10_decides_192 : decode cX10_decides 192 = .ok (.if_icmp .ge 49, 3) := by decide +kernel
theorem dX10_decides_195 : decode cX10_decides 195 = .ok (.aload_n 0, 1) := by decide +kernel
theorem dX10_decides_196 : decode cX10_decides 196 = .ok (.getfield 91, 3) := by decide +kernel
theorem dX10_decides_199 : decode cX10_decides 199 = .ok (.aload_n 0, 1) := by decide +kernel
theorem dX10_decides_200 : decode cX10_decides 200 = .ok (.getfield 88, 3) := by decide +kernel
theorem dX10_decides_203 : decode cX10_decides 203 = .ok (.iload_n 1, 1) := by decide +kernel
theorem dX10_decides_204 : decode cX10_decides 204 = .ok (.iaload, 1) := by decide +kernel
theorem dX10_decides_205 : decode cX10_decides 205 = .ok (.baload, 1) := by decide +kernel
theorem dX10_decides_206 : decode cX10_decides 206 = .ok (.ifCond .ne 22, 3) := by decide +kernel
theorem dX10_decides_209 : decode cX10_decides 209 = .ok (.aload_n 0, 1) := by decide +kernel
theorem dX10_decides_210 : decode cX10_decides 210 = .ok (.getfield 95, 3) := by decide +kernel
theorem dX10_decides_213 : decode cX10_decides 213 = .ok (.bipush 6, 2) := by decide +kernel
theorem dX10_decides_215 : decode cX10_decides 215 = .ok (.iload_n 1, 1) := by decide +kernel
theorem dX10_decides_216 : decode cX10_decides 216 = .ok (.imul, 1) := by decide +kernel
theorem dX10_decides_217 : decode cX10_decides 217 = .ok (.aload_n 0, 1) := by decide +kernel
theorem dX10_decides_218 : decode cX10_decides 218 = .ok (.getfield 88, 3) := by decide +kernel
theorem dX10_decides_221 : decode cX10_decides 221 = .ok (.iload_n 1, 1) := by decide +kernel
theorem dX10_decides_222 : decode cX10_decides 222 = .ok (.iaload, 1) := by decide +kernel
theorem dX10_decides_223 : decode cX10_decides 223 = .ok (.iadd, 1) := by decide +kernel
theorem dX10_decides_224 : decode cX10_decides 224 = .ok (.baload, 1) := by decide +kernel
theorem dX10_decides_225 : decode cX10_decides 225 = .ok (.ifCond .ne 16, 3) := by decide +kernel
theorem dX10_decides_228 : decode cX10_decides 228 = .ok (.aload_n 0, 1) := by decide +kernel
theorem dX10_decides_229 : decode cX10_decides 229 = .ok (.getfield 88, 3) := by decide +kernel
theorem dX10_decides_232 : decode cX10_decides 232 = .ok (.iload_n 1, 1) := by decide +kernel
theorem dX10_decides_233 : decode cX10_decides 233 = .ok (.dup2, 1) := by decide +kernel
theorem dX10_decides_234 : decode cX10_decides 234 = .ok (.iaload, 1) := by decide +kernel
theorem dX10_decides_235 : decode cX10_decides 235 = .ok (.iconst 1, 1) := by decide +kernel
theorem dX10_decides_236 : decode cX10_decides 236 = .ok (.iadd, 1) := by decide +kernel
theorem dX10_decides_237 : decode cX10_decides 237 = .ok (.iastore, 1) := by decide +kernel
theorem dX10_decides_238 : decode cX10_decides 238 = .ok (.goto (-56), 3) := by decide +kernel
theorem dX10_decides_241 : decode cX10_decides 241 = .ok (.aload_n 0, 1) := by decide +kernel
theorem dX10_decides_242 : decode cX10_decides 242 = .ok (.getfield 88, 3) := by decide +kernel
theorem dX10_decides_245 : decode cX10_decides 245 = .ok (.iload_n 1, 1) := by decide +kernel
theorem dX10_decides_246 : decode cX10_decides 246 = .ok (.iaload, 1) := by decide +kernel
theorem dX10_decides_247 : decode cX10_decides 247 = .ok (.aload_n 0, 1) := by decide +kernel
theorem dX10_decides_248 : decode cX10_decides 248 = .ok (.getfield 109, 3) := by decide +kernel
theorem dX10_decides_251 : decode cX10_decides 251 = .ok (.if_icmp .le 9, 3) := by decide +kernel
theorem dX10_decides_254 : decode cX10_decides 254 = .ok (.iinc 1 (-1), 3) := by decide +kernel
theorem dX10_decides_257 : decode cX10_decides 257 = .ok (.goto (-121), 3) := by decide +kernel
theorem dX10_decides_260 : decode cX10_decides 260 = .ok (.aload_n 0, 1) := by decide +kernel
theorem dX10_decides_261 : decode cX10_decides 261 = .ok (.getfield 88, 3) := by decide +kernel
theorem dX10_decides_264 : decode cX10_decides 264 = .ok (.iload_n 1, 1) := by decide +kernel
theorem dX10_decides_265 : decode cX10_decides 265 = .ok (.iaload, 1) := by decide +kernel
theorem dX10_decides_266 : decode cX10_decides 266 = .ok (.aload_n 0, 1) := by decide +kernel
theorem dX10_decides_267 : decode cX10_decides 267 = .ok (.getfield 109, 3) := by decide +kernel
theorem dX10_decides_270 : decode cX10_decides 270 = .ok (.if_icmp .ge 15, 3) := by decide +kernel
theorem dX10_decides_273 : decode cX10_decides 273 = .ok (.aload_n 0, 1) := by decide +kernel
theorem dX10_decides_274 : decode cX10_decides 274 = .ok (.getfield 91, 3) := by decide +kernel
theorem dX10_decides_277 : decode cX10_decides 277 = .ok (.aload_n 0, 1) := by decide +kernel
theorem dX10_decides_278 : decode cX10_decides 278 = .ok (.getfield 88, 3) := by decide +kernel
theorem dX10_decides_281 : decode cX10_decides 281 = .ok (.iload_n 1, 1) := by decide +kernel
theorem dX10_decides_282 : decode cX10_decides 282 = .ok (.iaload, 1) := by decide +kernel
theorem dX10_decides_283 : decode cX10_decides 283 = .ok (.iconst 1, 1) := by decide +kernel
theorem dX10_decides_284 : decode cX10_decides 284 = .ok (.bastore, 1) := by decide +kernel
theorem dX10_decides_285 : decode cX10_decides 285 = .ok (.iload_n 1, 1) := by decide +kernel
theorem dX10_decides_286 : decode cX10_decides 286 = .ok (.aload_n 0, 1) := by decide +kernel
theorem dX10_decides_287 : decode cX10_decides 287 = .ok (.getfield 112, 3) := by decide +kernel
theorem dX10_decides_290 : decode cX10_decides 290 = .ok (.iconst 1, 1) := by decide +kernel
theorem dX10_decides_291 : decode cX10_decides 291 = .ok (.isub, 1) := by decide +kernel
theorem dX10_decides_292 : decode cX10_decides 292 = .ok (.if_icmp .ne 10, 3) := by decide +kernel
theorem dX10_decides_295 : decode cX10_decides 295 = .ok (.aload_n 0, 1) := by decide +kernel
theorem dX10_decides_296 : decode cX10_decides 296 = .ok (.invokevirtual 167, 3) := by decide +kernel
theorem dX10_decides_299 : decode cX10_decides 299 = .ok (.goto (-163), 3) := by decide +kernel
theorem dX10_decides_302 : decode cX10_decides 302 = .ok (.iinc 1 1, 3) := by decide +kernel
theorem dX10_decides_305 : decode cX10_decides 305 = .ok (.aload_n 0, 1) := by decide +kernel
theorem dX10_decides_306 : decode cX10_decides 306 = .ok (.getfield 88, 3) := by decide +kernel
theorem dX10_decides_309 : decode cX10_decides 309 = .ok (.iload_n 1, 1) := by decide +kernel
theorem dX10_decides_310 : decode cX10_decides 310 = .ok (.iconst (-1), 1) := by decide +kernel
theorem dX10_decides_311 : decode cX10_decides 311 = .ok (.iastore, 1) := by decide +kernel
theorem dX10_decides_312 : decode cX10_decides 312 = .ok (.goto (-176), 3) := by decide +kernel
theorem dX10_decides_315 : decode cX10_decides 315 = .ok (.return_, 1) := by decide +kernel
theorem dX10_allocation_0 : decode cX10_allocation 0 = .ok (.aload_n 0, 1) := by decide +kernel
theorem dX10_allocation_1 : decode cX10_allocation 1 = .ok (.aload_n 0, 1) := by decide +kernel
theorem dX10_allocation_2 : decode cX10_allocation 2 = .ok (.iload_n 1, 1) := by decide +kernel
theorem dX10_allocation_3 : decode cX10_allocation 3 = .ok (.invokevirtual 138, 3) := by decide +kernel
theorem dX10_allocation_6 : decode cX10_allocation 6 = .ok (.ifCond .eq 7, 3) := by decide +kernel
theorem dX10_allocation_9 : decode cX10_allocation 9 = .ok (.iconst 0, 1) := by decide +kernel
theorem dX10_allocation_10 : decode cX10_allocation 10 = .ok (.goto 4, 3) := by decide +kernel
theorem dX10_allocation_13 : decode cX10_allocation 13 = .ok (.iconst 1, 1) := by decide +kernel
theorem dX10_allocation_14 : decode cX10_allocation 14 = .ok (.putfield 101, 3) := by decide +kernel
theorem dX10_allocation_17 : decode cX10_allocation 17 = .ok (.aload_n 0, 1) := by decide +kernel
theorem dX10_allocation_18 : decode cX10_allocation 18 = .ok (.getfield 101, 3) := by decide +kernel
theorem dX10_allocation_21 : decode cX10_allocation 21 = .ok (.ifCond .le 5, 3) := by decide +kernel
theorem dX10_allocation_24 : decode cX10_allocation 24 = .ok (.iconst 0, 1) := by decide +kernel
theorem dX10_allocation_25 : decode cX10_allocation 25 = .ok (.ireturn, 1) := by decide +kernel
theorem dX10_allocation_26 : decode cX10_allocation 26 = .ok (.aload_n 0, 1) := by decide +kernel
theorem dX10_allocation_27 : decode cX10_allocation 27 = .ok (.invokevirtual 170, 3) := by decide +kernel
theorem dX10_allocation_30 : decode cX10_allocation 30 = .ok (.aload_n 0, 1) := by decide +kernel
theorem dX10_allocation_31 : decode cX10_allocation 31 = .ok (.getfield 85, 3) := by decide +kernel
theorem dX10_allocation_34 : decode cX10_allocation 34 = .ok (.iload_n 1, 1) := by decide +kernel
theorem dX10_allocation_35 : decode cX10_allocation 35 = .ok (.iaload, 1) := by decide +kernel
theorem dX10_allocation_36 : decode cX10_allocation 36 = .ok (.ireturn, 1) := by decide +kernel
theorem dX10_allocationAnew_0 : decode cX10_allocationAnew 0 = .ok (.aload_n 0, 1) := by decide +kernel
theorem dX10_allocationAnew_1 : decode cX10_allocationAnew 1 = .ok (.aload_n 0, 1) := by decide +kernel
theorem dX10_allocationAnew_2 : decode cX10_allocationAnew 2 = .ok (.iload_n 1, 1) := by decide +kernel
theorem dX10_allocationAnew_3 : decode cX10_allocationAnew 3 = .ok (.invokevirtual 138, 3) := by decide +kernel
theorem dX10_allocationAnew_6 : decode cX10_allocationAnew 6 = .ok (.ifCond .ne 7, 3) := by decide +kernel
theorem dX10_allocationAnew_9 : decode cX10_allocationAnew 9 = .ok (.iconst 1, 1) := by decide +kernel
theorem dX10_allocationAnew_10 : decode cX10_allocationAnew 10 = .ok (.goto 16, 3) := by decide +kernel
theorem dX10_allocationAnew_13 : decode cX10_allocationAnew 13 = .ok (.aload_n 0, 1) := by decide +kernel
theorem dX10_allocationAnew_14 : decode cX10_allocationAnew 14 = .ok (.getfield 112, 3) := by decide +kernel
theorem dX10_allocationAnew_17 : decode cX10_allocationAnew 17 = .ok (.iconst 4, 1) := by decide +kernel
theorem dX10_allocationAnew_18 : decode cX10_allocationAnew 18 = .ok (.if_icmp .le 7, 3) := by decide +kernel
theorem dX10_allocationAnew_21 : decode cX10_allocationAnew 21 = .ok (.iconst 2, 1) := by decide +kernel
theorem dX10_allocationAnew_22 : decode cX10_allocationAnew 22 = .ok (.goto 4, 3) := by decide +kernel
theorem dX10_allocationAnew_25 : decode cX10_allocationAnew 25 = .ok (.iconst 0, 1) := by decide +kernel
theorem dX10_allocationAnew_26 : decode cX10_allocationAnew 26 = .ok (.putfield 101, 3) := by decide +kernel
theorem dX10_allocationAnew_29 : decode cX10_allocationAnew 29 = .ok (.aload_n 0, 1) := by decide +kernel
theorem dX10_allocationAnew_30 : decode cX10_allocationAnew 30 = .ok (.getfield 101, 3) := by decide +kernel
theorem dX10_allocationAnew_33 : decode cX10_allocationAnew 33 = .ok (.ifCond .le 5, 3) := by decide +kernel
theorem dX10_allocationAnew_36 : decode cX10_allocationAnew 36 = .ok (.iconst 0, 1) := by decide +kernel
theorem dX10_allocationAnew_37 : decode cX10_allocationAnew 37 = .ok (.ireturn, 1) := by decide +kernel
theorem dX10_allocationAnew_38 : decode cX10_allocationAnew 38 = .ok (.aload_n 0, 1) := by decide +kernel
theorem dX10_allocationAnew_39 : decode cX10_allocationAnew 39 = .ok (.invokevirtual 170, 3) := by decide +kernel
theorem dX10_allocationAnew_42 : decode cX10_allocationAnew 42 = .ok (.aload_n 0, 1) := by decide +kernel
theorem dX10_allocationAnew_43 : decode cX10_allocationAnew 43 = .ok (.getfield 85, 3) := by decide +kernel
theorem dX10_allocationAnew_46 : decode cX10_allocationAnew 46 = .ok (.iload_n 1, 1) := by decide +kernel
theorem dX10_allocationAnew_47 : decode cX10_allocationAnew 47 = .ok (.iaload, 1) := by decide +kernel
theorem dX10_allocationAnew_48 : decode cX10_allocationAnew 48 = .ok (.ireturn, 1) := by decide +kernel
theorem dX10_lack_0 : decode cX10_lack 0 = .ok (.aload_n 0, 1) := by decide +kernel
theorem dX10_lack_1 : decode cX10_lack 1 = .ok (.iconst 0, 1) := by decide +kernel
theorem dX10_lack_2 : decode cX10_lack 2 = .ok (.putfield 101, 3) := by decide +kernel
theorem dX10_lack_5 : decode cX10_lack 5 = .ok (.aload_n 0, 1) := by decide +kernel
theorem dX10_lack_6 : decode cX10_lack 6 = .ok (.invokevirtual 170, 3) := by decide +kernel
theorem dX10_lack_9 : decode cX10_lack 9 = .ok (.aload_n 0, 1) := by decide +kernel
theorem dX10_lack_10 : decode cX10_lack 10 = .ok (.getfield 158, 3) := by decide +kernel
theorem dX10_lack_13 : decode cX10_lack 13 = .ok (.ireturn, 1) := by decide +kernel
theorem dX10_leaves_0 : decode cX10_leaves 0 = .ok (.aload_n 0, 1) := by decide +kernel
theorem dX10_leaves_1 : decode cX10_leaves 1 = .ok (.getfield 7, 3) := by decide +kernel
theorem dX10_leaves_4 : decode cX10_leaves 4 = .ok (.iload_n 1, 1) := by decide +kernel
theorem dX10_leaves_5 : decode cX10_leaves 5 = .ok (.iaload, 1) := by decide +kernel
theorem dX10_leaves_6 : decode cX10_leaves 6 = .ok (.istore_n 2, 1) := by decide +kernel
theorem dX10_leaves_7 : decode cX10_leaves 7 = .ok (.aload_n 0, 1) := by decide +kernel
theorem dX10_leaves_8 : decode cX10_leaves 8 = .ok (.iload_n 1, 1) := by decide +kernel
theorem dX10_leaves_9 : decode cX10_leaves 9 = .ok (.invokevirtual 173, 3) := by decide +kernel
theorem dX10_leaves_12 : decode cX10_leaves 12 = .ok (.istore_n 3, 1) := by decide +kernel
theorem dX10_leaves_13 : decode cX10_leaves 13 = .ok (.aload_n 0, 1) := by decide +kernel
theorem dX10_leaves_14 : decode cX10_leaves 14 = .ok (.dup, 1) := by decide +kernel
theorem dX10_leaves_15 : decode cX10_leaves 15 = .ok (.getfield 176, 3) := by decide +kernel
theorem dX10_leaves_18 : decode cX10_leaves 18 = .ok (.aload_n 0, 1) := by decide +kernel
theorem dX10_leaves_19 : decode cX10_leaves 19 = .ok (.getfield 31, 3) := by decide +kernel
theorem dX10_leaves_22 : decode cX10_leaves 22 = .ok (.iload_n 2, 1) := by decide +kernel
theorem dX10_leaves_23 : decode cX10_leaves 23 = .ok (.iaload, 1) := by decide +kernel
theorem dX10_leaves_24 : decode cX10_leaves 24 = .ok (.iconst 1, 1) := by decide +kernel
theorem dX10_leaves_25 : decode cX10_leaves 25 = .ok (.isub, 1) := by decide +kernel
theorem dX10_leaves_26 : decode cX10_leaves 26 = .ok (.iload_n 3, 1) := by decide +kernel
theorem dX10_leaves_27 : decode cX10_leaves 27 = .ok (.isub, 1) := by decide +kernel
theorem dX10_leaves_28 : decode cX10_leaves 28 = .ok (.iadd, 1) := by decide +kernel
theorem dX10_leaves_29 : decode cX10_leaves 29 = .ok (.putfield 176, 3) := by decide +kernel
theorem dX10_leaves_32 : decode cX10_leaves 32 = .ok (.iload_n 3, 1) := by decide +kernel
theorem dX10_leaves_33 : decode cX10_leaves 33 = .ok (.istore 4, 2) := by decide +kernel
theorem dX10_leaves_35 : decode cX10_leaves 35 = .ok (.iload 4, 2) := by decide +kernel
theorem dX10_leaves_37 : decode cX10_leaves 37 = .ok (.aload_n 0, 1) := by decide +kernel
theorem dX10_leaves_38 : decode cX10_leaves 38 = .ok (.getfield 31, 3) := by decide +kernel
theorem dX10_leaves_41 : decode cX10_leaves 41 = .ok (.iload_n 2, 1) := by decide +kernel
theorem dX10_leaves_42 : decode cX10_leaves 42 = .ok (.iaload, 1) := by decide +kernel
theorem dX10_leaves_43 : decode cX10_leaves 43 = .ok (.iconst 1, 1) := by decide +kernel
theorem dX10_leaves_44 : decode cX10_leaves 44 = .ok (.isub, 1) := by decide +kernel
theorem dX10_leaves_45 : decode cX10_leaves 45 = .ok (.if_icmp .ge 35, 3) := by decide +kernel
theorem dX10_leaves_48 : decode cX10_leaves 48 = .ok (.aload_n 0, 1) := by decide +kernel
theorem dX10_leaves_49 : decode cX10_leaves 49 = .ok (.getfield 28, 3) := by decide +kernel
theorem dX10_leaves_52 : decode cX10_leaves 52 = .ok (.bipush 6, 2) := by decide +kernel
theorem dX10_leaves_54 : decode cX10_leaves 54 = .ok (.iload_n 2, 1) := by decide +kernel
theorem dX10_leaves_55 : decode cX10_leaves 55 = .ok (.imul, 1) := by decide +kernel
theorem dX10_leaves_56 : decode cX10_leaves 56 = .ok (.iload 4, 2) := by decide +kernel
theorem dX10_leaves_58 : decode cX10_leaves 58 = .ok (.iadd, 1) := by decide +kernel
theorem dX10_leaves_59 : decode cX10_leaves 59 = .ok (.aload_n 0, 1) := by decide +kernel
theorem dX10_leaves_60 : decode cX10_leaves 60 = .ok (.getfield 28, 3) := by decide +kernel
theorem dX10_leaves_63 : decode cX10_leaves 63 = .ok (.bipush 6, 2) := by decide +kernel
theorem dX10_leaves_65 : decode cX10_leaves 65 = .ok (.iload_n 2, 1) := by decide +kernel
theorem dX10_leaves_66 : decode cX10_leaves 66 = .ok (.imul, 1) := by decide +kernel
theorem dX10_leaves_67 : decode cX10_leaves 67 = .ok (.iload 4, 2) := by decide +kernel
theorem dX10_leaves_69 : decode cX10_leaves 69 = .ok (.iadd, 1) := by decide +kernel
theorem dX10_leaves_70 : decode cX10_leaves 70 = .ok (.iconst 1, 1) := by decide +kernel
theorem dX10_leaves_71 : decode cX10_leaves 71 = .ok (.iadd, 1) := by decide +kernel
theorem dX10_leaves_72 : decode cX10_leaves 72 = .ok (.iaload, 1) := by decide +kernel
theorem dX10_leaves_73 : decode cX10_leaves 73 = .ok (.iastore, 1) := by decide +kernel
theorem dX10_leaves_74 : decode cX10_leaves 74 = .ok (.iinc 4 1, 3) := by decide +kernel
theorem dX10_leaves_77 : decode cX10_leaves 77 = .ok (.goto (-42), 3) := by decide +kernel
theorem dX10_leaves_80 : decode cX10_leaves 80 = .ok (.aload_n 0, 1) := by decide +kernel
theorem dX10_leaves_81 : decode cX10_leaves 81 = .ok (.getfield 31, 3) := by decide +kernel
theorem dX10_leaves_84 : decode cX10_leaves 84 = .ok (.iload_n 2, 1) := by decide +kernel
theorem dX10_leaves_85 : decode cX10_leaves 85 = .ok (.dup2, 1) := by decide +kernel
theorem dX10_leaves_86 : decode cX10_leaves 86 = .ok (.iaload, 1) := by decide +kernel
theorem dX10_leaves_87 : decode cX10_leaves 87 = .ok (.iconst 1, 1) := by decide +kernel
theorem dX10_leaves_88 : decode cX10_leaves 88 = .ok (.isub, 1) := by decide +kernel
theorem dX10_leaves_89 : decode cX10_leaves 89 = .ok (.iastore, 1) := by decide +kernel
theorem dX10_leaves_90 : decode cX10_leaves 90 = .ok (.return_, 1) := by decide +kernel
theorem dX10_runs_0 : decode cX10_runs 0 = .ok (.aload_n 0, 1) := by decide +kernel
theorem dX10_runs_1 : decode cX10_runs 1 = .ok (.getfield 16, 3) := by decide +kernel
theorem dX10_runs_4 : decode cX10_runs 4 = .ok (.iload_n 1, 1) := by decide +kernel
theorem dX10_runs_5 : decode cX10_runs 5 = .ok (.iaload, 1) := by decide +kernel
theorem dX10_runs_6 : decode cX10_runs 6 = .ok (.iload_n 2, 1) := by decide +kernel
theorem dX10_runs_7 : decode cX10_runs 7 = .ok (.iadd, 1) := by decide +kernel
theorem dX10_runs_8 : decode cX10_runs 8 = .ok (.istore_n 3, 1) := by decide +kernel
theorem dX10_runs_9 : decode cX10_runs 9 = .ok (.iconst 0, 1) := by decide +kernel
theorem dX10_runs_10 : decode cX10_runs 10 = .ok (.istore 4, 2) := by decide +kernel
theorem dX10_runs_12 : decode cX10_runs 12 = .ok (.iload 4, 2) := by decide +kernel
theorem dX10_runs_14 : decode cX10_runs 14 = .ok (.iconst 4, 1) := by decide +kernel
theorem dX10_runs_15 : decode cX10_runs 15 = .ok (.if_icmp .ge 53, 3) := by decide +kernel
theorem dX10_runs_18 : decode cX10_runs 18 = .ok (.iload 4, 2) := by decide +kernel
theorem dX10_runs_20 : decode cX10_runs 20 = .ok (.ifCond .ne 9, 3) := by decide +kernel
theorem dX10_runs_23 : decode cX10_runs 23 = .ok (.sipush 300, 3) := by decide +kernel
theorem dX10_runs_26 : decode cX10_runs 26 = .ok (.goto 6, 3) := by decide +kernel
theorem dX10_runs_29 : decode cX10_runs 29 = .ok (.sipush 500, 3) := by decide +kernel
theorem dX10_runs_32 : decode cX10_runs 32 = .ok (.istore 5, 2) := by decide +kernel
theorem dX10_runs_34 : decode cX10_runs 34 = .ok (.aload_n 0, 1) := by decide +kernel
theorem dX10_runs_35 : decode cX10_runs 35 = .ok (.getfield 19, 3) := by decide +kernel
theorem dX10_runs_38 : decode cX10_runs 38 = .ok (.iconst 4, 1) := by decide +kernel
theorem dX10_runs_39 : decode cX10_runs 39 = .ok (.iload_n 1, 1) := by decide +kernel
theorem dX10_runs_40 : decode cX10_runs 40 = .ok (.imul, 1) := by decide +kernel
theorem dX10_runs_41 : decode cX10_runs 41 = .ok (.iload 4, 2) := by decide +kernel
theorem dX10_runs_43 : decode cX10_runs 43 = .ok (.iadd, 1) := by decide +kernel
theorem dX10_runs_44 : decode cX10_runs 44 = .ok (.dup2, 1) := by decide +kernel
theorem dX10_runs_45 : decode cX10_runs 45 = .ok (.iaload, 1) := by decide +kernel
theorem dX10_runs_46 : decode cX10_runs 46 = .ok (.iload_n 3, 1) := by decide +kernel
theorem dX10_runs_47 : decode cX10_runs 47 = .ok (.iload 5, 2) := by decide +kernel
theorem dX10_runs_49 : decode cX10_runs 49 = .ok (.idiv, 1) := by decide +kernel
theorem dX10_runs_50 : decode cX10_runs 50 = .ok (.aload_n 0, 1) := by decide +kernel
theorem dX10_runs_51 : decode cX10_runs 51 = .ok (.getfield 16, 3) := by decide +kernel
theorem dX10_runs_54 : decode cX10_runs 54 = .ok (.iload_n 1, 1) := by decide +kernel
theorem dX10_runs_55 : decode cX10_runs 55 = .ok (.iaload, 1) := by decide +kernel
theorem dX10_runs_56 : decode cX10_runs 56 = .ok (.iload 5, 2) := by decide +kernel
theorem dX10_runs_58 : decode cX10_runs 58 = .ok (.idiv, 1) := by decide +kernel
theorem dX10_runs_59 : decode cX10_runs 59 = .ok (.isub, 1) := by decide +kernel
theorem dX10_runs_60 : decode cX10_runs 60 = .ok (.isub, 1) := by decide +kernel
theorem dX10_runs_61 : decode cX10_runs 61 = .ok (.iastore, 1) := by decide +kernel
theorem dX10_runs_62 : decode cX10_runs 62 = .ok (.iinc 4 1, 3) := by decide +kernel
theorem dX10_runs_65 : decode cX10_runs 65 = .ok (.goto (-53), 3) := by decide +kernel
theorem dX10_runs_68 : decode cX10_runs 68 = .ok (.aload_n 0, 1) := by decide +kernel
theorem dX10_runs_69 : decode cX10_runs 69 = .ok (.getfield 16, 3) := by decide +kernel
theorem dX10_runs_72 : decode cX10_runs 72 = .ok (.iload_n 1, 1) := by decide +kernel
theorem dX10_runs_73 : decode cX10_runs 73 = .ok (.iload_n 3, 1) := by decide +kernel
theorem dX10_runs_74 : decode cX10_runs 74 = .ok (.iastore, 1) := by decide +kernel
theorem dX10_runs_75 : decode cX10_runs 75 = .ok (.iconst 0, 1) := by decide +kernel
theorem dX10_runs_76 : decode cX10_runs 76 = .ok (.istore 4, 2) := by decide +kernel
theorem dX10_runs_78 : decode cX10_runs 78 = .ok (.iload 4, 2) := by decide +kernel
theorem dX10_runs_80 : decode cX10_runs 80 = .ok (.iconst 3, 1) := by decide +kernel
theorem dX10_runs_81 : decode cX10_runs 81 = .ok (.if_icmp .ge 24, 3) := by decide +kernel
theorem dX10_runs_84 : decode cX10_runs 84 = .ok (.aload_n 0, 1) := by decide +kernel
theorem dX10_runs_85 : decode cX10_runs 85 = .ok (.getfield 22, 3) := by decide +kernel
theorem dX10_runs_88 : decode cX10_runs 88 = .ok (.iconst 3, 1) := by decide +kernel
theorem dX10_runs_89 : decode cX10_runs 89 = .ok (.iload_n 1, 1) := by decide +kernel
theorem dX10_runs_90 : decode cX10_runs 90 = .ok (.imul, 1) := by decide +kernel
theorem dX10_runs_91 : decode cX10_runs 91 = .ok (.iload 4, 2) := by decide +kernel
theorem dX10_runs_93 : decode cX10_runs 93 = .ok (.iadd, 1) := by decide +kernel
theorem dX10_runs_94 : decode cX10_runs 94 = .ok (.dup2, 1) := by decide +kernel
theorem dX10_runs_95 : decode cX10_runs 95 = .ok (.iaload, 1) := by decide +kernel
theorem dX10_runs_96 : decode cX10_runs 96 = .ok (.iload_n 2, 1) := by decide +kernel
theorem dX10_runs_97 : decode cX10_runs 97 = .ok (.iadd, 1) := by decide +kernel
theorem dX10_runs_98 : decode cX10_runs 98 = .ok (.iastore, 1) := by decide +kernel
theorem dX10_runs_99 : decode cX10_runs 99 = .ok (.iinc 4 1, 3) := by decide +kernel
theorem dX10_runs_102 : decode cX10_runs 102 = .ok (.goto (-24), 3) := by decide +kernel
theorem dX10_runs_105 : decode cX10_runs 105 = .ok (.return_, 1) := by decide +kernel
theorem dX10_day_0 : decode cX10_day 0 = .ok (.aload_n 0, 1) := by decide +kernel
theorem dX10_day_1 : decode cX10_day 1 = .ok (.aload_n 0, 1) := by decide +kernel
theorem dX10_day_2 : decode cX10_day 2 = .ok (.getfield 135, 3) := by decide +kernel
theorem dX10_day_5 : decode cX10_day 5 = .ok (.sipush 200, 3) := by decide +kernel
theorem dX10_day_8 : decode cX10_day 8 = .ok (.if_icmp .ne 7, 3) := by decide +kernel
theorem dX10_day_11 : decode cX10_day 11 = .ok (.iconst 1, 1) := by decide +kernel
theorem dX10_day_12 : decode cX10_day 12 = .ok (.goto 4, 3) := by decide +kernel
theorem dX10_day_15 : decode cX10_day 15 = .ok (.iconst 0, 1) := by decide +kernel
theorem dX10_day_16 : decode cX10_day 16 = .ok (.putfield 101, 3) := by decide +kernel
theorem dX10_day_19 : decode cX10_day 19 = .ok (.aload_n 0, 1) := by decide +kernel
theorem dX10_day_20 : decode cX10_day 20 = .ok (.getfield 101, 3) := by decide +kernel
theorem dX10_day_23 : decode cX10_day 23 = .ok (.ifCond .le 5, 3) := by decide +kernel
theorem dX10_day_26 : decode cX10_day 26 = .ok (.iconst 0, 1) := by decide +kernel
theorem dX10_day_27 : decode cX10_day 27 = .ok (.ireturn, 1) := by decide +kernel
theorem dX10_day_28 : decode cX10_day 28 = .ok (.aload_n 0, 1) := by decide +kernel
theorem dX10_day_29 : decode cX10_day 29 = .ok (.invokevirtual 170, 3) := by decide +kernel
theorem dX10_day_32 : decode cX10_day 32 = .ok (.iconst 0, 1) := by decide +kernel
theorem dX10_day_33 : decode cX10_day 33 = .ok (.istore_n 1, 1) := by decide +kernel
theorem dX10_day_34 : decode cX10_day 34 = .ok (.iload_n 1, 1) := by decide +kernel
theorem dX10_day_35 : decode cX10_day 35 = .ok (.aload_n 0, 1) := by decide +kernel
theorem dX10_day_36 : decode cX10_day 36 = .ok (.getfield 112, 3) := by decide +kernel
theorem dX10_day_39 : decode cX10_day 39 = .ok (.if_icmp .ge 50, 3) := by decide +kernel
theorem dX10_day_42 : decode cX10_day 42 = .ok (.aload_n 0, 1) := by decide +kernel
theorem dX10_day_43 : decode cX10_day 43 = .ok (.getfield 82, 3) := by decide +kernel
theorem dX10_day_46 : decode cX10_day 46 = .ok (.sipush 200, 3) := by decide +kernel
theorem dX10_day_49 : decode cX10_day 49 = .ok (.iload_n 1, 1) := by decide +kernel
theorem dX10_day_50 : decode cX10_day 50 = .ok (.imul, 1) := by decide +kernel
theorem dX10_day_51 : decode cX10_day 51 = .ok (.aload_n 0, 1) := by decide +kernel
theorem dX10_day_52 : decode cX10_day 52 = .ok (.getfield 135, 3) := by decide +kernel
theorem dX10_day_55 : decode cX10_day 55 = .ok (.iadd, 1) := by decide +kernel
theorem dX10_day_56 : decode cX10_day 56 = .ok (.aload_n 0, 1) := by decide +kernel
theorem dX10_day_57 : decode cX10_day 57 = .ok (.getfield 85, 3) := by decide +kernel
theorem dX10_day_60 : decode cX10_day 60 = .ok (.iload_n 1, 1) := by decide +kernel
theorem dX10_day_61 : decode cX10_day 61 = .ok (.iaload, 1) := by decide +kernel
theorem dX10_day_62 : decode cX10_day 62 = .ok (.iastore, 1) := by decide +kernel
theorem dX10_day_63 : decode cX10_day 63 = .ok (.aload_n 0, 1) := by decide +kernel
theorem dX10_day_64 : decode cX10_day 64 = .ok (.getfield 85, 3) := by decide +kernel
theorem dX10_day_67 : decode cX10_day 67 = .ok (.iload_n 1, 1) := by decide +kernel
theorem dX10_day_68 : decode cX10_day 68 = .ok (.iaload, 1) := by decide +kernel
theorem dX10_day_69 : decode cX10_day 69 = .ok (.iconst (-1), 1) := by decide +kernel
theorem dX10_day_70 : decode cX10_day 70 = .ok (.if_icmp .eq 13, 3) := by decide +kernel
theorem dX10_day_73 : decode cX10_day 73 = .ok (.aload_n 0, 1) := by decide +kernel
theorem dX10_day_74 : decode cX10_day 74 = .ok (.aload_n 0, 1) := by decide +kernel
theorem dX10_day_75 : decode cX10_day 75 = .ok (.getfield 85, 3) := by decide +kernel
theorem dX10_day_78 : decode cX10_day 78 = .ok (.iload_n 1, 1) := by decide +kernel
theorem dX10_day_79 : decode cX10_day 79 = .ok (.iaload, 1) := by decide +kernel
theorem dX10_day_80 : decode cX10_day 80 = .ok (.invokevirtual 179, 3) := by decide +kernel
theorem dX10_day_83 : decode cX10_day 83 = .ok (.iinc 1 1, 3) := by decide +kernel
theorem dX10_day_86 : decode cX10_day 86 = .ok (.goto (-52), 3) := by decide +kernel
theorem dX10_day_89 : decode cX10_day 89 = .ok (.iconst 0, 1) := by decide +kernel
theorem dX10_day_90 : decode cX10_day 90 = .ok (.istore_n 1, 1) := by decide +kernel
theorem dX10_day_91 : decode cX10_day 91 = .ok (.iload_n 1, 1) := by decide +kernel
theorem dX10_day_92 : decode cX10_day 92 = .ok (.aload_n 0, 1) := by decide +kernel
theorem dX10_day_93 : decode cX10_day 93 = .ok (.getfield 112, 3) := by decide +kernel
theorem dX10_day_96 : decode cX10_day 96 = .ok (.if_icmp .ge 51, 3) := by decide +kernel
theorem dX10_day_99 : decode cX10_day 99 = .ok (.aload_n 0, 1) := by decide +kernel
theorem dX10_day_100 : decode cX10_day 100 = .ok (.getfield 85, 3) := by decide +kernel
theorem dX10_day_103 : decode cX10_day 103 = .ok (.iload_n 1, 1) := by decide +kernel
theorem dX10_day_104 : decode cX10_day 104 = .ok (.iaload, 1) := by decide +kernel
theorem dX10_day_105 : decode cX10_day 105 = .ok (.iconst (-1), 1) := by decide +kernel
theorem dX10_day_106 : decode cX10_day 106 = .ok (.if_icmp .eq 35, 3) := by decide +kernel
theorem dX10_day_109 : decode cX10_day 109 = .ok (.aload_n 0, 1) := by decide +kernel
theorem dX10_day_110 : decode cX10_day 110 = .ok (.aload_n 0, 1) := by decide +kernel
theorem dX10_day_111 : decode cX10_day 111 = .ok (.getfield 85, 3) := by decide +kernel
theorem dX10_day_114 : decode cX10_day 114 = .ok (.iload_n 1, 1) := by decide +kernel
theorem dX10_day_115 : decode cX10_day 115 = .ok (.iaload, 1) := by decide +kernel
theorem dX10_day_116 : decode cX10_day 116 = .ok (.aload_n 0, 1) := by decide +kernel
theorem dX10_day_117 : decode cX10_day 117 = .ok (.getfield 52, 3) := by decide +kernel
theorem dX10_day_120 : decode cX10_day 120 = .ok (.iload_n 1, 1) := by decide +kernel
theorem dX10_day_121 : decode cX10_day 121 = .ok (.iaload, 1) := by decide +kernel
theorem dX10_day_122 : decode cX10_day 122 = .ok (.invokevirtual 123, 3) := by decide +kernel
theorem dX10_day_125 : decode cX10_day 125 = .ok (.aload_n 0, 1) := by decide +kernel
theorem dX10_day_126 : decode cX10_day 126 = .ok (.aload_n 0, 1) := by decide +kernel
theorem dX10_day_127 : decode cX10_day 127 = .ok (.getfield 85, 3) := by decide +kernel
theorem dX10_day_130 : decode cX10_day 130 = .ok (.iload_n 1, 1) := by decide +kernel
theorem dX10_day_131 : decode cX10_day 131 = .ok (.iaload, 1) := by decide +kernel
theorem dX10_day_132 : decode cX10_day 132 = .ok (.aload_n 0, 1) := by decide +kernel
theorem dX10_day_133 : decode cX10_day 133 = .ok (.getfield 55, 3) := by decide +kernel
theorem dX10_day_136 : decode cX10_day 136 = .ok (.iload_n 1, 1) := by decide +kernel
theorem dX10_day_137 : decode cX10_day 137 = .ok (.iaload, 1) := by decide +kernel
theorem dX10_day_138 : decode cX10_day 138 = .ok (.invokevirtual 183, 3) := by decide +kernel
theorem dX10_day_141 : decode cX10_day 141 = .ok (.iinc 1 1, 3) := by decide +kernel
theorem dX10_day_144 : decode cX10_day 144 = .ok (.goto (-53), 3) := by decide +kernel
theorem dX10_day_147 : decode cX10_day 147 = .ok (.iconst 0, 1) := by decide +kernel
theorem dX10_day_148 : decode cX10_day 148 = .ok (.istore_n 1, 1) := by decide +kernel
theorem dX10_day_149 : decode cX10_day 149 = .ok (.iload_n 1, 1) := by decide +kernel
theorem dX10_day_150 : decode cX10_day 150 = .ok (.iconst 3, 1) := by decide +kernel
theorem dX10_day_151 : decode cX10_day 151 = .ok (.aload_n 0, 1) := by decide +kernel
theorem dX10_day_152 : decode cX10_day 152 = .ok (.getfield 109, 3) := by decide +kernel
theorem dX10_day_155 : decode cX10_day 155 = .ok (.imul, 1) := by decide +kernel
theorem dX10_day_156 : decode cX10_day 156 = .ok (.if_icmp .ge 19, 3) := by decide +kernel
theorem dX10_day_159 : decode cX10_day 159 = .ok (.aload_n 0, 1) := by decide +kernel
theorem dX10_day_160 : decode cX10_day 160 = .ok (.getfield 25, 3) := by decide +kernel
theorem dX10_day_163 : decode cX10_day 163 = .ok (.iload_n 1, 1) := by decide +kernel
theorem dX10_day_164 : decode cX10_day 164 = .ok (.dup2, 1) := by decide +kernel
theorem dX10_day_165 : decode cX10_day 165 = .ok (.iaload, 1) := by decide +kernel
theorem dX10_day_166 : decode cX10_day 166 = .ok (.iconst 1, 1) := by decide +kernel
theorem dX10_day_167 : decode cX10_day 167 = .ok (.iadd, 1) := by decide +kernel
theorem dX10_day_168 : decode cX10_day 168 = .ok (.iastore, 1) := by decide +kernel
theorem dX10_day_169 : decode cX10_day 169 = .ok (.iinc 1 1, 3) := by decide +kernel
theorem dX10_day_172 : decode cX10_day 172 = .ok (.goto (-23), 3) := by decide +kernel
theorem dX10_day_175 : decode cX10_day 175 = .ok (.aload_n 0, 1) := by decide +kernel
theorem dX10_day_176 : decode cX10_day 176 = .ok (.iconst 0, 1) := by decide +kernel
theorem dX10_day_177 : decode cX10_day 177 = .ok (.putfield 186, 3) := by decide +kernel
theorem dX10_day_180 : decode cX10_day 180 = .ok (.aload_n 0, 1) := by decide +kernel
theorem dX10_day_181 : decode cX10_day 181 = .ok (.iconst 0, 1) := by decide +kernel
theorem dX10_day_182 : decode cX10_day 182 = .ok (.putfield 190, 3) := by decide +kernel
theorem dX10_day_185 : decode cX10_day 185 = .ok (.aload_n 0, 1) := by decide +kernel
theorem dX10_day_186 : decode cX10_day 186 = .ok (.dup, 1) := by decide +kernel
theorem dX10_day_187 : decode cX10_day 187 = .ok (.getfield 135, 3) := by decide +kernel
theorem dX10_day_190 : decode cX10_day 190 = .ok (.iconst 1, 1) := by decide +kernel
theorem dX10_day_191 : decode cX10_day 191 = .ok (.iadd, 1) := by decide +kernel
theorem dX10_day_192 : decode cX10_day 192 = .ok (.putfield 135, 3) := by decide +kernel
theorem dX10_day_195 : decode cX10_day 195 = .ok (.aload_n 0, 1) := by decide +kernel
theorem dX10_day_196 : decode cX10_day 196 = .ok (.getfield 158, 3) := by decide +kernel
theorem dX10_day_199 : decode cX10_day 199 = .ok (.ireturn, 1) := by decide +kernel
theorem dX10_examine_0 : decode cX10_examine 0 = .ok (.aload_n 0, 1) := by decide +kernel
theorem dX10_examine_1 : decode cX10_examine 1 = .ok (.aload_n 0, 1) := by decide +kernel
theorem dX10_examine_2 : decode cX10_examine 2 = .ok (.iload_n 1, 1) := by decide +kernel
theorem dX10_examine_3 : decode cX10_examine 3 = .ok (.invokevirtual 115, 3) := by decide +kernel
theorem dX10_examine_6 : decode cX10_examine 6 = .ok (.ifCond .eq 11, 3) := by decide +kernel
theorem dX10_examine_9 : decode cX10_examine 9 = .ok (.aload_n 0, 1) := by decide +kernel
theorem dX10_examine_10 : decode cX10_examine 10 = .ok (.iload_n 2, 1) := by decide +kernel
theorem dX10_examine_11 : decode cX10_examine 11 = .ok (.invokevirtual 127, 3) := by decide +kernel
theorem dX10_examine_14 : decode cX10_examine 14 = .ok (.ifCond .ne 7, 3) := by decide +kernel
theorem dX10_examine_17 : decode cX10_examine 17 = .ok (.iconst 1, 1) := by decide +kernel
theorem dX10_examine_18 : decode cX10_examine 18 = .ok (.goto 24, 3) := by decide +kernel
theorem dX10_examine_21 : decode cX10_examine 21 = .ok (.aload_n 0, 1) := by decide +kernel
theorem dX10_examine_22 : decode cX10_examine 22 = .ok (.getfield 7, 3) := by decide +kernel
theorem dX10_examine_25 : decode cX10_examine 25 = .ok (.iload_n 1, 1) := by decide +kernel
theorem dX10_examine_26 : decode cX10_examine 26 = .ok (.iaload, 1) := by decide +kernel
theorem dX10_examine_27 : decode cX10_examine 27 = .ok (.ifCond .ne 10, 3) := by decide +kernel
theorem dX10_examine_30 : decode cX10_examine 30 = .ok (.aload_n 0, 1) := by decide +kernel
theorem dX10_examine_31 : decode cX10_examine 31 = .ok (.getfield 186, 3) := by decide +kernel
theorem dX10_examine_34 : decode cX10_examine 34 = .ok (.ifCond .eq 7, 3) := by decide +kernel
theorem dX10_examine_37 : decode cX10_examine 37 = .ok (.iconst 2, 1) := by decide +kernel
theorem dX10_examine_38 : decode cX10_examine 38 = .ok (.goto 4, 3) := by decide +kernel
theorem dX10_examine_41 : decode cX10_examine 41 = .ok (.iconst 0, 1) := by decide +kernel
theorem dX10_examine_42 : decode cX10_examine 42 = .ok (.putfield 101, 3) := by decide +kernel
theorem dX10_examine_45 : decode cX10_examine 45 = .ok (.aload_n 0, 1) := by decide +kernel
theorem dX10_examine_46 : decode cX10_examine 46 = .ok (.getfield 101, 3) := by decide +kernel
theorem dX10_examine_49 : decode cX10_examine 49 = .ok (.ifCond .le 5, 3) := by decide +kernel
theorem dX10_examine_52 : decode cX10_examine 52 = .ok (.iconst 0, 1) := by decide +kernel
theorem dX10_examine_53 : decode cX10_examine 53 = .ok (.ireturn, 1) := by decide +kernel
theorem dX10_examine_54 : decode cX10_examine 54 = .ok (.aload_n 0, 1) := by decide +kernel
theorem dX10_examine_55 : decode cX10_examine 55 = .ok (.iconst 1, 1) := by decide +kernel
theorem dX10_examine_56 : decode cX10_examine 56 = .ok (.putfield 186, 3) := by decide +kernel
theorem dX10_examine_59 : decode cX10_examine 59 = .ok (.iconst 0, 1) := by decide +kernel
theorem dX10_examine_60 : decode cX10_examine 60 = .ok (.istore_n 3, 1) := by decide +kernel
theorem dX10_examine_61 : decode cX10_examine 61 = .ok (.iload_n 3, 1) := by decide +kernel
theorem dX10_examine_62 : decode cX10_examine 62 = .ok (.iload_n 2, 1) := by decide +kernel
theorem dX10_examine_63 : decode cX10_examine 63 = .ok (.if_icmp .gt 31, 3) := by decide +kernel
theorem dX10_examine_66 : decode cX10_examine 66 = .ok (.aload_n 0, 1) := by decide +kernel
theorem dX10_examine_67 : decode cX10_examine 67 = .ok (.getfield 22, 3) := by decide +kernel
theorem dX10_examine_70 : decode cX10_examine 70 = .ok (.iconst 3, 1) := by decide +kernel
theorem dX10_examine_71 : decode cX10_examine 71 = .ok (.iload_n 1, 1) := by decide +kernel
theorem dX10_examine_72 : decode cX10_examine 72 = .ok (.imul, 1) := by decide +kernel
theorem dX10_examine_73 : decode cX10_examine 73 = .ok (.iload_n 3, 1) := by decide +kernel
theorem dX10_examine_74 : decode cX10_examine 74 = .ok (.iadd, 1) := by decide +kernel
theorem dX10_examine_75 : decode cX10_examine 75 = .ok (.iconst 0, 1) := by decide +kernel
theorem dX10_examine_76 : decode cX10_examine 76 = .ok (.iastore, 1) := by decide +kernel
theorem dX10_examine_77 : decode cX10_examine 77 = .ok (.aload_n 0, 1) := by decide +kernel
theorem dX10_examine_78 : decode cX10_examine 78 = .ok (.getfield 25, 3) := by decide +kernel
theorem dX10_examine_81 : decode cX10_examine 81 = .ok (.iconst 3, 1) := by decide +kernel
theorem dX10_examine_82 : decode cX10_examine 82 = .ok (.iload_n 1, 1) := by decide +kernel
theorem dX10_examine_83 : decode cX10_examine 83 = .ok (.imul, 1) := by decide +kernel
theorem dX10_examine_84 : decode cX10_examine 84 = .ok (.iload_n 3, 1) := by decide +kernel
theorem dX10_examine_85 : decode cX10_examine 85 = .ok (.iadd, 1) := by decide +kernel
theorem dX10_examine_86 : decode cX10_examine 86 = .ok (.iconst 0, 1) := by decide +kernel
theorem dX10_examine_87 : decode cX10_examine 87 = .ok (.iastore, 1) := by decide +kernel
theorem dX10_examine_88 : decode cX10_examine 88 = .ok (.iinc 3 1, 3) := by decide +kernel
theorem dX10_examine_91 : decode cX10_examine 91 = .ok (.goto (-30), 3) := by decide +kernel
theorem dX10_examine_94 : decode cX10_examine 94 = .ok (.iload_n 2, 1) := by decide +kernel
theorem dX10_examine_95 : decode cX10_examine 95 = .ok (.iconst 1, 1) := by decide +kernel
theorem dX10_examine_96 : decode cX10_examine 96 = .ok (.iadd, 1) := by decide +kernel
theorem dX10_examine_97 : decode cX10_examine 97 = .ok (.ireturn, 1) := by decide +kernel
theorem dX10_goes_0 : decode cX10_goes 0 = .ok (.bipush 8, 2) := by decide +kernel
theorem dX10_goes_2 : decode cX10_goes 2 = .ok (.iload_n 1, 1) := by decide +kernel
theorem dX10_goes_3 : decode cX10_goes 3 = .ok (.imul, 1) := by decide +kernel
theorem dX10_goes_4 : decode cX10_goes 4 = .ok (.iload_n 2, 1) := by decide +kernel
theorem dX10_goes_5 : decode cX10_goes 5 = .ok (.iadd, 1) := by decide +kernel
theorem dX10_goes_6 : decode cX10_goes 6 = .ok (.istore_n 3, 1) := by decide +kernel
theorem dX10_goes_7 : decode cX10_goes 7 = .ok (.iload_n 3, 1) := by decide +kernel
theorem dX10_goes_8 : decode cX10_goes 8 = .ok (.bipush 8, 2) := by decide +kernel
theorem dX10_goes_10 : decode cX10_goes 10 = .ok (.iload_n 1, 1) := by decide +kernel
theorem dX10_goes_11 : decode cX10_goes 11 = .ok (.imul, 1) := by decide +kernel
theorem dX10_goes_12 : decode cX10_goes 12 = .ok (.aload_n 0, 1) := by decide +kernel
theorem dX10_goes_13 : decode cX10_goes 13 = .ok (.getfield 34, 3) := by decide +kernel
theorem dX10_goes_16 : decode cX10_goes 16 = .ok (.iload_n 1, 1) := by decide +kernel
theorem dX10_goes_17 : decode cX10_goes 17 = .ok (.iaload, 1) := by decide +kernel
theorem dX10_goes_18 : decode cX10_goes 18 = .ok (.iadd, 1) := by decide +kernel
theorem dX10_goes_19 : decode cX10_goes 19 = .ok (.iconst 1, 1) := by decide +kernel
theorem dX10_goes_20 : decode cX10_goes 20 = .ok (.isub, 1) := by decide +kernel
theorem dX10_goes_21 : decode cX10_goes 21 = .ok (.if_icmp .ge 65, 3) := by decide +kernel
theorem dX10_goes_24 : decode cX10_goes 24 = .ok (.aload_n 0, 1) := by decide +kernel
theorem dX10_goes_25 : decode cX10_goes 25 = .ok (.getfield 37, 3) := by decide +kernel
theorem dX10_goes_28 : decode cX10_goes 28 = .ok (.iload_n 3, 1) := by decide +kernel
theorem dX10_goes_29 : decode cX10_goes 29 = .ok (.aload_n 0, 1) := by decide +kernel
theorem dX10_goes_30 : decode cX10_goes 30 = .ok (.getfield 37, 3) := by decide +kernel
theorem dX10_goes_33 : decode cX10_goes 33 = .ok (.iload_n 3, 1) := by decide +kernel
theorem dX10_goes_34 : decode cX10_goes 34 = .ok (.iconst 1, 1) := by decide +kernel
theorem dX10_goes_35 : decode cX10_goes 35 = .ok (.iadd, 1) := by decide +kernel
theorem dX10_goes_36 : decode cX10_goes 36 = .ok (.iaload, 1) := by decide +kernel
theorem dX10_goes_37 : decode cX10_goes 37 = .ok (.iastore, 1) := by decide +kernel
theorem dX10_goes_38 : decode cX10_goes 38 = .ok (.aload_n 0, 1) := by decide +kernel
theorem dX10_goes_39 : decode cX10_goes 39 = .ok (.getfield 40, 3) := by decide +kernel
theorem dX10_goes_42 : decode cX10_goes 42 = .ok (.iload_n 3, 1) := by decide +kernel
theorem dX10_goes_43 : decode cX10_goes 43 = .ok (.aload_n 0, 1) := by decide +kernel
theorem dX10_goes_44 : decode cX10_goes 44 = .ok (.getfield 40, 3) := by decide +kernel
theorem dX10_goes_47 : decode cX10_goes 47 = .ok (.iload_n 3, 1) := by decide +kernel
theorem dX10_goes_48 : decode cX10_goes 48 = .ok (.iconst 1, 1) := by decide +kernel
theorem dX10_goes_49 : decode cX10_goes 49 = .ok (.iadd, 1) := by decide +kernel
theorem dX10_goes_50 : decode cX10_goes 50 = .ok (.iaload, 1) := by decide +kernel
theorem dX10_goes_51 : decode cX10_goes 51 = .ok (.iastore, 1) := by decide +kernel
theorem dX10_goes_52 : decode cX10_goes 52 = .ok (.aload_n 0, 1) := by decide +kernel
theorem dX10_goes_53 : decode cX10_goes 53 = .ok (.getfield 43, 3) := by decide +kernel
theorem dX10_goes_56 : decode cX10_goes 56 = .ok (.iload_n 3, 1) := by decide +kernel
theorem dX10_goes_57 : decode cX10_goes 57 = .ok (.aload_n 0, 1) := by decide +kernel
theorem dX10_goes_58 : decode cX10_goes 58 = .ok (.getfield 43, 3) := by decide +kernel
theorem dX10_goes_61 : decode cX10_goes 61 = .ok (.iload_n 3, 1) := by decide +kernel
theorem dX10_goes_62 : decode cX10_goes 62 = .ok (.iconst 1, 1) := by decide +kernel
theorem dX10_goes_63 : decode cX10_goes 63 = .ok (.iadd, 1) := by decide +kernel
theorem dX10_goes_64 : decode cX10_goes 64 = .ok (.iaload, 1) := by decide +kernel
theorem dX10_goes_65 : decode cX10_goes 65 = .ok (.iastore, 1) := by decide +kernel
theorem dX10_goes_66 : decode cX10_goes 66 = .ok (.aload_n 0, 1) := by decide +kernel
theorem dX10_goes_67 : decode cX10_goes 67 = .ok (.getfield 46, 3) := by decide +kernel
theorem dX10_goes_70 : decode cX10_goes 70 = .ok (.iload_n 3, 1) := by decide +kernel
theorem dX10_goes_71 : decode cX10_goes 71 = .ok (.aload_n 0, 1) := by decide +kernel
theorem dX10_goes_72 : decode cX10_goes 72 = .ok (.getfield 46, 3) := by decide +kernel
theorem dX10_goes_75 : decode cX10_goes 75 = .ok (.iload_n 3, 1) := by decide +kernel
theorem dX10_goes_76 : decode cX10_goes 76 = .ok (.iconst 1, 1) := by decide +kernel
theorem dX10_goes_77 : decode cX10_goes 77 = .ok (.iadd, 1) := by decide +kernel
theorem dX10_goes_78 : decode cX10_goes 78 = .ok (.iaload, 1) := by decide +kernel
theorem dX10_goes_79 : decode cX10_goes 79 = .ok (.iastore, 1) := by decide +kernel
theorem dX10_goes_80 : decode cX10_goes 80 = .ok (.iinc 3 1, 3) := by decide +kernel
theorem dX10_goes_83 : decode cX10_goes 83 = .ok (.goto (-76), 3) := by decide +kernel
theorem dX10_goes_86 : decode cX10_goes 86 = .ok (.aload_n 0, 1) := by decide +kernel
theorem dX10_goes_87 : decode cX10_goes 87 = .ok (.getfield 34, 3) := by decide +kernel
theorem dX10_goes_90 : decode cX10_goes 90 = .ok (.iload_n 1, 1) := by decide +kernel
theorem dX10_goes_91 : decode cX10_goes 91 = .ok (.dup2, 1) := by decide +kernel
theorem dX10_goes_92 : decode cX10_goes 92 = .ok (.iaload, 1) := by decide +kernel
theorem dX10_goes_93 : decode cX10_goes 93 = .ok (.iconst 1, 1) := by decide +kernel
theorem dX10_goes_94 : decode cX10_goes 94 = .ok (.isub, 1) := by decide +kernel
theorem dX10_goes_95 : decode cX10_goes 95 = .ok (.iastore, 1) := by decide +kernel
theorem dX10_goes_96 : decode cX10_goes 96 = .ok (.return_, 1) := by decide +kernel
theorem dX10_lathe_0 : decode cX10_lathe 0 = .ok (.aload_n 0, 1) := by decide +kernel
theorem dX10_lathe_1 : decode cX10_lathe 1 = .ok (.aload_n 0, 1) := by decide +kernel
theorem dX10_lathe_2 : decode cX10_lathe 2 = .ok (.iload_n 1, 1) := by decide +kernel
theorem dX10_lathe_3 : decode cX10_lathe 3 = .ok (.invokevirtual 115, 3) := by decide +kernel
theorem dX10_lathe_6 : decode cX10_lathe 6 = .ok (.ifCond .ne 7, 3) := by decide +kernel
theorem dX10_lathe_9 : decode cX10_lathe 9 = .ok (.iconst 1, 1) := by decide +kernel
theorem dX10_lathe_10 : decode cX10_lathe 10 = .ok (.goto 24, 3) := by decide +kernel
theorem dX10_lathe_13 : decode cX10_lathe 13 = .ok (.aload_n 0, 1) := by decide +kernel
theorem dX10_lathe_14 : decode cX10_lathe 14 = .ok (.getfield 7, 3) := by decide +kernel
theorem dX10_lathe_17 : decode cX10_lathe 17 = .ok (.iload_n 1, 1) := by decide +kernel
theorem dX10_lathe_18 : decode cX10_lathe 18 = .ok (.iaload, 1) := by decide +kernel
theorem dX10_lathe_19 : decode cX10_lathe 19 = .ok (.ifCond .ne 10, 3) := by decide +kernel
theorem dX10_lathe_22 : decode cX10_lathe 22 = .ok (.aload_n 0, 1) := by decide +kernel
theorem dX10_lathe_23 : decode cX10_lathe 23 = .ok (.getfield 190, 3) := by decide +kernel
theorem dX10_lathe_26 : decode cX10_lathe 26 = .ok (.ifCond .eq 7, 3) := by decide +kernel
theorem dX10_lathe_29 : decode cX10_lathe 29 = .ok (.iconst 2, 1) := by decide +kernel
theorem dX10_lathe_30 : decode cX10_lathe 30 = .ok (.goto 4, 3) := by decide +kernel
theorem dX10_lathe_33 : decode cX10_lathe 33 = .ok (.iconst 0, 1) := by decide +kernel
theorem dX10_lathe_34 : decode cX10_lathe 34 = .ok (.putfield 101, 3) := by decide +kernel
theorem dX10_lathe_37 : decode cX10_lathe 37 = .ok (.aload_n 0, 1) := by decide +kernel
theorem dX10_lathe_38 : decode cX10_lathe 38 = .ok (.getfield 101, 3) := by decide +kernel
theorem dX10_lathe_41 : decode cX10_lathe 41 = .ok (.ifCond .le 5, 3) := by decide +kernel
theorem dX10_lathe_44 : decode cX10_lathe 44 = .ok (.iconst 0, 1) := by decide +kernel
theorem dX10_lathe_45 : decode cX10_lathe 45 = .ok (.ireturn, 1) := by decide +kernel
theorem dX10_lathe_46 : decode cX10_lathe 46 = .ok (.aload_n 0, 1) := by decide +kernel
theorem dX10_lathe_47 : decode cX10_lathe 47 = .ok (.iconst 1, 1) := by decide +kernel
theorem dX10_lathe_48 : decode cX10_lathe 48 = .ok (.putfield 190, 3) := by decide +kernel
theorem dX10_lathe_51 : decode cX10_lathe 51 = .ok (.aload_n 0, 1) := by decide +kernel
theorem dX10_lathe_52 : decode cX10_lathe 52 = .ok (.getfield 34, 3) := by decide +kernel
theorem dX10_lathe_55 : decode cX10_lathe 55 = .ok (.iload_n 1, 1) := by decide +kernel
theorem dX10_lathe_56 : decode cX10_lathe 56 = .ok (.iaload, 1) := by decide +kernel
theorem dX10_lathe_57 : decode cX10_lathe 57 = .ok (.iconst 1, 1) := by decide +kernel
theorem dX10_lathe_58 : decode cX10_lathe 58 = .ok (.isub, 1) := by decide +kernel
theorem dX10_lathe_59 : decode cX10_lathe 59 = .ok (.istore_n 2, 1) := by decide +kernel
theorem dX10_lathe_60 : decode cX10_lathe 60 = .ok (.iload_n 2, 1) := by decide +kernel
theorem dX10_lathe_61 : decode cX10_lathe 61 = .ok (.ifCond .lt 55, 3) := by decide +kernel
end
section
theorem dX10_lathe_64 : decode cX10_lathe 64 = .ok (.bipush 8, 2) := by decide +kernel
theorem dX10_lathe_66 : decode cX10_lathe 66 = .ok (.iload_n 1, 1) := by decide +kernel
theorem dX10_lathe_67 : decode cX10_lathe 67 = .ok (.imul, 1) := by decide +kernel
theorem dX10_lathe_68 : decode cX10_lathe 68 = .ok (.iload_n 2, 1) := by decide +kernel
theorem dX10_lathe_69 : decode cX10_lathe 69 = .ok (.iadd, 1) := by decide +kernel
theorem dX10_lathe_70 : decode cX10_lathe 70 = .ok (.istore_n 3, 1) := by decide +kernel
theorem dX10_lathe_71 : decode cX10_lathe 71 = .ok (.aload_n 0, 1) := by decide +kernel
theorem dX10_lathe_72 : decode cX10_lathe 72 = .ok (.getfield 37, 3) := by decide +kernel
theorem dX10_lathe_75 : decode cX10_lathe 75 = .ok (.iload_n 3, 1) := by decide +kernel
theorem dX10_lathe_76 : decode cX10_lathe 76 = .ok (.iaload, 1) := by decide +kernel
theorem dX10_lathe_77 : decode cX10_lathe 77 = .ok (.ifCond .ne 33, 3) := by decide +kernel
theorem dX10_lathe_80 : decode cX10_lathe 80 = .ok (.aload_n 0, 1) := by decide +kernel
theorem dX10_lathe_81 : decode cX10_lathe 81 = .ok (.getfield 19, 3) := by decide +kernel
theorem dX10_lathe_84 : decode cX10_lathe 84 = .ok (.iconst 4, 1) := by decide +kernel
theorem dX10_lathe_85 : decode cX10_lathe 85 = .ok (.iload_n 1, 1) := by decide +kernel
theorem dX10_lathe_86 : decode cX10_lathe 86 = .ok (.imul, 1) := by decide +kernel
theorem dX10_lathe_87 : decode cX10_lathe 87 = .ok (.aload_n 0, 1) := by decide +kernel
theorem dX10_lathe_88 : decode cX10_lathe 88 = .ok (.getfield 43, 3) := by decide +kernel
theorem dX10_lathe_91 : decode cX10_lathe 91 = .ok (.iload_n 3, 1) := by decide +kernel
theorem dX10_lathe_92 : decode cX10_lathe 92 = .ok (.iaload, 1) := by decide +kernel
theorem dX10_lathe_93 : decode cX10_lathe 93 = .ok (.iadd, 1) := by decide +kernel
theorem dX10_lathe_94 : decode cX10_lathe 94 = .ok (.dup2, 1) := by decide +kernel
theorem dX10_lathe_95 : decode cX10_lathe 95 = .ok (.iaload, 1) := by decide +kernel
theorem dX10_lathe_96 : decode cX10_lathe 96 = .ok (.aload_n 0, 1) := by decide +kernel
theorem dX10_lathe_97 : decode cX10_lathe 97 = .ok (.getfield 46, 3) := by decide +kernel
theorem dX10_lathe_100 : decode cX10_lathe 100 = .ok (.iload_n 3, 1) := by decide +kernel
theorem dX10_lathe_101 : decode cX10_lathe 101 = .ok (.iaload, 1) := by decide +kernel
theorem dX10_lathe_102 : decode cX10_lathe 102 = .ok (.isub, 1) := by decide +kernel
theorem dX10_lathe_103 : decode cX10_lathe 103 = .ok (.iastore, 1) := by decide +kernel
theorem dX10_lathe_104 : decode cX10_lathe 104 = .ok (.aload_n 0, 1) := by decide +kernel
theorem dX10_lathe_105 : decode cX10_lathe 105 = .ok (.iload_n 1, 1) := by decide +kernel
theorem dX10_lathe_106 : decode cX10_lathe 106 = .ok (.iload_n 2, 1) := by decide +kernel
theorem dX10_lathe_107 : decode cX10_lathe 107 = .ok (.invokevirtual 193, 3) := by decide +kernel
theorem dX10_lathe_110 : decode cX10_lathe 110 = .ok (.iinc 2 (-1), 3) := by decide +kernel
theorem dX10_lathe_113 : decode cX10_lathe 113 = .ok (.goto (-53), 3) := by decide +kernel
theorem dX10_lathe_116 : decode cX10_lathe 116 = .ok (.aload_n 0, 1) := by decide +kernel
theorem dX10_lathe_117 : decode cX10_lathe 117 = .ok (.getfield 19, 3) := by decide +kernel
theorem dX10_lathe_120 : decode cX10_lathe 120 = .ok (.iconst 4, 1) := by decide +kernel
theorem dX10_lathe_121 : decode cX10_lathe 121 = .ok (.iload_n 1, 1) := by decide +kernel
theorem dX10_lathe_122 : decode cX10_lathe 122 = .ok (.imul, 1) := by decide +kernel
theorem dX10_lathe_123 : decode cX10_lathe 123 = .ok (.iaload, 1) := by decide +kernel
theorem dX10_lathe_124 : decode cX10_lathe 124 = .ok (.istore_n 2, 1) := by decide +kernel
theorem dX10_lathe_125 : decode cX10_lathe 125 = .ok (.iconst 4, 1) := by decide +kernel
theorem dX10_lathe_126 : decode cX10_lathe 126 = .ok (.iload_n 1, 1) := by decide +kernel
theorem dX10_lathe_127 : decode cX10_lathe 127 = .ok (.imul, 1) := by decide +kernel
theorem dX10_lathe_128 : decode cX10_lathe 128 = .ok (.istore_n 3, 1) := by decide +kernel
theorem dX10_lathe_129 : decode cX10_lathe 129 = .ok (.iload_n 3, 1) := by decide +kernel
theorem dX10_lathe_130 : decode cX10_lathe 130 = .ok (.iconst 4, 1) := by decide +kernel
theorem dX10_lathe_131 : decode cX10_lathe 131 = .ok (.iload_n 1, 1) := by decide +kernel
theorem dX10_lathe_132 : decode cX10_lathe 132 = .ok (.imul, 1) := by decide +kernel
theorem dX10_lathe_133 : decode cX10_lathe 133 = .ok (.iconst 4, 1) := by decide +kernel
theorem dX10_lathe_134 : decode cX10_lathe 134 = .ok (.iadd, 1) := by decide +kernel
theorem dX10_lathe_135 : decode cX10_lathe 135 = .ok (.if_icmp .ge 30, 3) := by decide +kernel
theorem dX10_lathe_138 : decode cX10_lathe 138 = .ok (.aload_n 0, 1) := by decide +kernel
theorem dX10_lathe_139 : decode cX10_lathe 139 = .ok (.getfield 19, 3) := by decide +kernel
theorem dX10_lathe_142 : decode cX10_lathe 142 = .ok (.iload_n 3, 1) := by decide +kernel
theorem dX10_lathe_143 : decode cX10_lathe 143 = .ok (.iaload, 1) := by decide +kernel
theorem dX10_lathe_144 : decode cX10_lathe 144 = .ok (.iload_n 2, 1) := by decide +kernel
theorem dX10_lathe_145 : decode cX10_lathe 145 = .ok (.if_icmp .ge 12, 3) := by decide +kernel
theorem dX10_lathe_148 : decode cX10_lathe 148 = .ok (.aload_n 0, 1) := by decide +kernel
theorem dX10_lathe_149 : decode cX10_lathe 149 = .ok (.getfield 19, 3) := by decide +kernel
theorem dX10_lathe_152 : decode cX10_lathe 152 = .ok (.iload_n 3, 1) := by decide +kernel
theorem dX10_lathe_153 : decode cX10_lathe 153 = .ok (.iaload, 1) := by decide +kernel
theorem dX10_lathe_154 : decode cX10_lathe 154 = .ok (.goto 4, 3) := by decide +kernel
theorem dX10_lathe_157 : decode cX10_lathe 157 = .ok (.iload_n 2, 1) := by decide +kernel
theorem dX10_lathe_158 : decode cX10_lathe 158 = .ok (.istore_n 2, 1) := by decide +kernel
theorem dX10_lathe_159 : decode cX10_lathe 159 = .ok (.iinc 3 1, 3) := by decide +kernel
theorem dX10_lathe_162 : decode cX10_lathe 162 = .ok (.goto (-33), 3) := by decide +kernel
theorem dX10_lathe_165 : decode cX10_lathe 165 = .ok (.iconst 4, 1) := by decide +kernel
theorem dX10_lathe_166 : decode cX10_lathe 166 = .ok (.iload_n 1, 1) := by decide +kernel
theorem dX10_lathe_167 : decode cX10_lathe 167 = .ok (.imul, 1) := by decide +kernel
theorem dX10_lathe_168 : decode cX10_lathe 168 = .ok (.istore_n 3, 1) := by decide +kernel
theorem dX10_lathe_169 : decode cX10_lathe 169 = .ok (.iload_n 3, 1) := by decide +kernel
theorem dX10_lathe_170 : decode cX10_lathe 170 = .ok (.iconst 4, 1) := by decide +kernel
theorem dX10_lathe_171 : decode cX10_lathe 171 = .ok (.iload_n 1, 1) := by decide +kernel
theorem dX10_lathe_172 : decode cX10_lathe 172 = .ok (.imul, 1) := by decide +kernel
theorem dX10_lathe_173 : decode cX10_lathe 173 = .ok (.iconst 4, 1) := by decide +kernel
theorem dX10_lathe_174 : decode cX10_lathe 174 = .ok (.iadd, 1) := by decide +kernel
theorem dX10_lathe_175 : decode cX10_lathe 175 = .ok (.if_icmp .ge 16, 3) := by decide +kernel
theorem dX10_lathe_178 : decode cX10_lathe 178 = .ok (.aload_n 0, 1) := by decide +kernel
theorem dX10_lathe_179 : decode cX10_lathe 179 = .ok (.getfield 19, 3) := by decide +kernel
theorem dX10_lathe_182 : decode cX10_lathe 182 = .ok (.iload_n 3, 1) := by decide +kernel
theorem dX10_lathe_183 : decode cX10_lathe 183 = .ok (.iload_n 2, 1) := by decide +kernel
theorem dX10_lathe_184 : decode cX10_lathe 184 = .ok (.iastore, 1) := by decide +kernel
theorem dX10_lathe_185 : decode cX10_lathe 185 = .ok (.iinc 3 1, 3) := by decide +kernel
theorem dX10_lathe_188 : decode cX10_lathe 188 = .ok (.goto (-19), 3) := by decide +kernel
theorem dX10_lathe_191 : decode cX10_lathe 191 = .ok (.iload_n 2, 1) := by decide +kernel
theorem dX10_lathe_192 : decode cX10_lathe 192 = .ok (.ireturn, 1) := by decide +kernel
theorem dX10_mend_0 : decode cX10_mend 0 = .ok (.aload_n 0, 1) := by decide +kernel
theorem dX10_mend_1 : decode cX10_mend 1 = .ok (.aload_n 0, 1) := by decide +kernel
theorem dX10_mend_2 : decode cX10_mend 2 = .ok (.iload_n 1, 1) := by decide +kernel
theorem dX10_mend_3 : decode cX10_mend 3 = .ok (.iload_n 2, 1) := by decide +kernel
theorem dX10_mend_4 : decode cX10_mend 4 = .ok (.invokevirtual 196, 3) := by decide +kernel
theorem dX10_mend_7 : decode cX10_mend 7 = .ok (.ifCond .ne 7, 3) := by decide +kernel
theorem dX10_mend_10 : decode cX10_mend 10 = .ok (.iconst 1, 1) := by decide +kernel
theorem dX10_mend_11 : decode cX10_mend 11 = .ok (.goto 22, 3) := by decide +kernel
theorem dX10_mend_14 : decode cX10_mend 14 = .ok (.aload_n 0, 1) := by decide +kernel
theorem dX10_mend_15 : decode cX10_mend 15 = .ok (.getfield 37, 3) := by decide +kernel
theorem dX10_mend_18 : decode cX10_mend 18 = .ok (.bipush 8, 2) := by decide +kernel
theorem dX10_mend_20 : decode cX10_mend 20 = .ok (.iload_n 1, 1) := by decide +kernel
theorem dX10_mend_21 : decode cX10_mend 21 = .ok (.imul, 1) := by decide +kernel
theorem dX10_mend_22 : decode cX10_mend 22 = .ok (.iload_n 2, 1) := by decide +kernel
theorem dX10_mend_23 : decode cX10_mend 23 = .ok (.iadd, 1) := by decide +kernel
theorem dX10_mend_24 : decode cX10_mend 24 = .ok (.iaload, 1) := by decide +kernel
theorem dX10_mend_25 : decode cX10_mend 25 = .ok (.ifCond .ne 7, 3) := by decide +kernel
theorem dX10_mend_28 : decode cX10_mend 28 = .ok (.iconst 2, 1) := by decide +kernel
theorem dX10_mend_29 : decode cX10_mend 29 = .ok (.goto 4, 3) := by decide +kernel
theorem dX10_mend_32 : decode cX10_mend 32 = .ok (.iconst 0, 1) := by decide +kernel
theorem dX10_mend_33 : decode cX10_mend 33 = .ok (.putfield 101, 3) := by decide +kernel
theorem dX10_mend_36 : decode cX10_mend 36 = .ok (.aload_n 0, 1) := by decide +kernel
theorem dX10_mend_37 : decode cX10_mend 37 = .ok (.getfield 101, 3) := by decide +kernel
theorem dX10_mend_40 : decode cX10_mend 40 = .ok (.ifCond .le 5, 3) := by decide +kernel
theorem dX10_mend_43 : decode cX10_mend 43 = .ok (.iconst 0, 1) := by decide +kernel
theorem dX10_mend_44 : decode cX10_mend 44 = .ok (.ireturn, 1) := by decide +kernel
theorem dX10_mend_45 : decode cX10_mend 45 = .ok (.aload_n 0, 1) := by decide +kernel
theorem dX10_mend_46 : decode cX10_mend 46 = .ok (.getfield 37, 3) := by decide +kernel
theorem dX10_mend_49 : decode cX10_mend 49 = .ok (.bipush 8, 2) := by decide +kernel
theorem dX10_mend_51 : decode cX10_mend 51 = .ok (.iload_n 1, 1) := by decide +kernel
theorem dX10_mend_52 : decode cX10_mend 52 = .ok (.imul, 1) := by decide +kernel
theorem dX10_mend_53 : decode cX10_mend 53 = .ok (.iload_n 2, 1) := by decide +kernel
theorem dX10_mend_54 : decode cX10_mend 54 = .ok (.iadd, 1) := by decide +kernel
theorem dX10_mend_55 : decode cX10_mend 55 = .ok (.iaload, 1) := by decide +kernel
theorem dX10_mend_56 : decode cX10_mend 56 = .ok (.istore_n 3, 1) := by decide +kernel
theorem dX10_mend_57 : decode cX10_mend 57 = .ok (.aload_n 0, 1) := by decide +kernel
theorem dX10_mend_58 : decode cX10_mend 58 = .ok (.iload_n 1, 1) := by decide +kernel
theorem dX10_mend_59 : decode cX10_mend 59 = .ok (.iload_n 2, 1) := by decide +kernel
theorem dX10_mend_60 : decode cX10_mend 60 = .ok (.invokevirtual 193, 3) := by decide +kernel
theorem dX10_mend_63 : decode cX10_mend 63 = .ok (.iload_n 3, 1) := by decide +kernel
theorem dX10_mend_64 : decode cX10_mend 64 = .ok (.ireturn, 1) := by decide +kernel
theorem dX10_today_0 : decode cX10_today 0 = .ok (.aload_n 0, 1) := by decide +kernel
theorem dX10_today_1 : decode cX10_today 1 = .ok (.iconst 0, 1) := by decide +kernel
theorem dX10_today_2 : decode cX10_today 2 = .ok (.putfield 101, 3) := by decide +kernel
theorem dX10_today_5 : decode cX10_today 5 = .ok (.aload_n 0, 1) := by decide +kernel
theorem dX10_today_6 : decode cX10_today 6 = .ok (.getfield 135, 3) := by decide +kernel
theorem dX10_today_9 : decode cX10_today 9 = .ok (.ireturn, 1) := by decide +kernel
theorem dX10_about_0 : decode cX10_about 0 = .ok (.aload_n 0, 1) := by decide +kernel
theorem dX10_about_1 : decode cX10_about 1 = .ok (.aload_n 0, 1) := by decide +kernel
theorem dX10_about_2 : decode cX10_about 2 = .ok (.iload_n 1, 1) := by decide +kernel
theorem dX10_about_3 : decode cX10_about 3 = .ok (.invokevirtual 115, 3) := by decide +kernel
theorem dX10_about_6 : decode cX10_about 6 = .ok (.ifCond .ne 7, 3) := by decide +kernel
theorem dX10_about_9 : decode cX10_about 9 = .ok (.iconst 1, 1) := by decide +kernel
theorem dX10_about_10 : decode cX10_about 10 = .ok (.goto 18, 3) := by decide +kernel
theorem dX10_about_13 : decode cX10_about 13 = .ok (.aload_n 0, 1) := by decide +kernel
theorem dX10_about_14 : decode cX10_about 14 = .ok (.iload_n 2, 1) := by decide +kernel
theorem dX10_about_15 : decode cX10_about 15 = .ok (.iconst 0, 1) := by decide +kernel
theorem dX10_about_16 : decode cX10_about 16 = .ok (.iconst 5, 1) := by decide +kernel
theorem dX10_about_17 : decode cX10_about 17 = .ok (.invokevirtual 105, 3) := by decide +kernel
theorem dX10_about_20 : decode cX10_about 20 = .ok (.ifCond .ne 7, 3) := by decide +kernel
theorem dX10_about_23 : decode cX10_about 23 = .ok (.iconst 2, 1) := by decide +kernel
theorem dX10_about_24 : decode cX10_about 24 = .ok (.goto 4, 3) := by decide +kernel
theorem dX10_about_27 : decode cX10_about 27 = .ok (.iconst 0, 1) := by decide +kernel
theorem dX10_about_28 : decode cX10_about 28 = .ok (.putfield 101, 3) := by decide +kernel
theorem dX10_about_31 : decode cX10_about 31 = .ok (.aload_n 0, 1) := by decide +kernel
theorem dX10_about_32 : decode cX10_about 32 = .ok (.getfield 101, 3) := by decide +kernel
theorem dX10_about_35 : decode cX10_about 35 = .ok (.ifCond .le 5, 3) := by decide +kernel
theorem dX10_about_38 : decode cX10_about 38 = .ok (.iconst 0, 1) := by decide +kernel
theorem dX10_about_39 : decode cX10_about 39 = .ok (.ireturn, 1) := by decide +kernel
theorem dX10_about_40 : decode cX10_about 40 = .ok (.iload_n 2, 1) := by decide +kernel
theorem dX10_about_41 : decode cX10_about 41 = .ok (.iconst 3, 1) := by decide +kernel
theorem dX10_about_42 : decode cX10_about 42 = .ok (.if_icmp .ge 37, 3) := by decide +kernel
theorem dX10_about_45 : decode cX10_about 45 = .ok (.iload_n 2, 1) := by decide +kernel
theorem dX10_about_46 : decode cX10_about 46 = .ok (.ifCond .ne 12, 3) := by decide +kernel
theorem dX10_about_49 : decode cX10_about 49 = .ok (.aload_n 0, 1) := by decide +kernel
theorem dX10_about_50 : decode cX10_about 50 = .ok (.getfield 7, 3) := by decide +kernel
theorem dX10_about_53 : decode cX10_about 53 = .ok (.iload_n 1, 1) := by decide +kernel
theorem dX10_about_54 : decode cX10_about 54 = .ok (.iaload, 1) := by decide +kernel
theorem dX10_about_55 : decode cX10_about 55 = .ok (.goto 23, 3) := by decide +kernel
theorem dX10_about_58 : decode cX10_about 58 = .ok (.iload_n 2, 1) := by decide +kernel
theorem dX10_about_59 : decode cX10_about 59 = .ok (.iconst 1, 1) := by decide +kernel
theorem dX10_about_60 : decode cX10_about 60 = .ok (.if_icmp .ne 12, 3) := by decide +kernel
theorem dX10_about_63 : decode cX10_about 63 = .ok (.aload_n 0, 1) := by decide +kernel
theorem dX10_about_64 : decode cX10_about 64 = .ok (.getfield 16, 3) := by decide +kernel
theorem dX10_about_67 : decode cX10_about 67 = .ok (.iload_n 1, 1) := by decide +kernel
theorem dX10_about_68 : decode cX10_about 68 = .ok (.iaload, 1) := by decide +kernel
theorem dX10_about_69 : decode cX10_about 69 = .ok (.goto 9, 3) := by decide +kernel
theorem dX10_about_72 : decode cX10_about 72 = .ok (.aload_n 0, 1) := by decide +kernel
theorem dX10_about_73 : decode cX10_about 73 = .ok (.getfield 34, 3) := by decide +kernel
theorem dX10_about_76 : decode cX10_about 76 = .ok (.iload_n 1, 1) := by decide +kernel
theorem dX10_about_77 : decode cX10_about 77 = .ok (.iaload, 1) := by decide +kernel
theorem dX10_about_78 : decode cX10_about 78 = .ok (.ireturn, 1) := by decide +kernel
theorem dX10_about_79 : decode cX10_about 79 = .ok (.iload_n 2, 1) := by decide +kernel
theorem dX10_about_80 : decode cX10_about 80 = .ok (.iconst 5, 1) := by decide +kernel
theorem dX10_about_81 : decode cX10_about 81 = .ok (.if_icmp .ge 44, 3) := by decide +kernel
theorem dX10_about_84 : decode cX10_about 84 = .ok (.iload_n 2, 1) := by decide +kernel
theorem dX10_about_85 : decode cX10_about 85 = .ok (.iconst 3, 1) := by decide +kernel
theorem dX10_about_86 : decode cX10_about 86 = .ok (.if_icmp .ne 25, 3) := by decide +kernel
theorem dX10_about_89 : decode cX10_about 89 = .ok (.aload_n 0, 1) := by decide +kernel
theorem dX10_about_90 : decode cX10_about 90 = .ok (.getfield 31, 3) := by decide +kernel
theorem dX10_about_93 : decode cX10_about 93 = .ok (.aload_n 0, 1) := by decide +kernel
theorem dX10_about_94 : decode cX10_about 94 = .ok (.getfield 7, 3) := by decide +kernel
theorem dX10_about_97 : decode cX10_about 97 = .ok (.iload_n 1, 1) := by decide +kernel
theorem dX10_about_98 : decode cX10_about 98 = .ok (.iaload, 1) := by decide +kernel
theorem dX10_about_99 : decode cX10_about 99 = .ok (.iaload, 1) := by decide +kernel
theorem dX10_about_100 : decode cX10_about 100 = .ok (.iconst 1, 1) := by decide +kernel
theorem dX10_about_101 : decode cX10_about 101 = .ok (.isub, 1) := by decide +kernel
theorem dX10_about_102 : decode cX10_about 102 = .ok (.aload_n 0, 1) := by decide +kernel
theorem dX10_about_103 : decode cX10_about 103 = .ok (.iload_n 1, 1) := by decide +kernel
theorem dX10_about_104 : decode cX10_about 104 = .ok (.invokevirtual 173, 3) := by decide +kernel
theorem dX10_about_107 : decode cX10_about 107 = .ok (.isub, 1) := by decide +kernel
theorem dX10_about_108 : decode cX10_about 108 = .ok (.goto 16, 3) := by decide +kernel
theorem dX10_about_111 : decode cX10_about 111 = .ok (.aload_n 0, 1) := by decide +kernel
theorem dX10_about_112 : decode cX10_about 112 = .ok (.iload_n 1, 1) := by decide +kernel
theorem dX10_about_113 : decode cX10_about 113 = .ok (.invokevirtual 164, 3) := by decide +kernel
theorem dX10_about_116 : decode cX10_about 116 = .ok (.ifCond .eq 7, 3) := by decide +kernel
theorem dX10_about_119 : decode cX10_about 119 = .ok (.iconst 1, 1) := by decide +kernel
theorem dX10_about_120 : decode cX10_about 120 = .ok (.goto 4, 3) := by decide +kernel
theorem dX10_about_123 : decode cX10_about 123 = .ok (.iconst 0, 1) := by decide +kernel
theorem dX10_about_124 : decode cX10_about 124 = .ok (.ireturn, 1) := by decide +kernel
theorem dX10_about_125 : decode cX10_about 125 = .ok (.iconst 0, 1) := by decide +kernel
theorem dX10_about_126 : decode cX10_about 126 = .ok (.istore_n 3, 1) := by decide +kernel
theorem dX10_about_127 : decode cX10_about 127 = .ok (.iconst 0, 1) := by decide +kernel
theorem dX10_about_128 : decode cX10_about 128 = .ok (.istore 4, 2) := by decide +kernel
theorem dX10_about_130 : decode cX10_about 130 = .ok (.iload 4, 2) := by decide +kernel
theorem dX10_about_132 : decode cX10_about 132 = .ok (.iconst 3, 1) := by decide +kernel
theorem dX10_about_133 : decode cX10_about 133 = .ok (.if_icmp .ge 73, 3) := by decide +kernel
theorem dX10_about_136 : decode cX10_about 136 = .ok (.aload_n 0, 1) := by decide +kernel
theorem dX10_about_137 : decode cX10_about 137 = .ok (.getfield 22, 3) := by decide +kernel
theorem dX10_about_140 : decode cX10_about 140 = .ok (.iconst 3, 1) := by decide +kernel
theorem dX10_about_141 : decode cX10_about 141 = .ok (.iload_n 1, 1) := by decide +kernel
theorem dX10_about_142 : decode cX10_about 142 = .ok (.imul, 1) := by decide +kernel
theorem dX10_about_143 : decode cX10_about 143 = .ok (.iload 4, 2) := by decide +kernel
theorem dX10_about_145 : decode cX10_about 145 = .ok (.iadd, 1) := by decide +kernel
theorem dX10_about_146 : decode cX10_about 146 = .ok (.iaload, 1) := by decide +kernel
theorem dX10_about_147 : decode cX10_about 147 = .ok (.aload_n 0, 1) := by decide +kernel
theorem dX10_about_148 : decode cX10_about 148 = .ok (.iload 4, 2) := by decide +kernel
theorem dX10_about_150 : decode cX10_about 150 = .ok (.invokevirtual 131, 3) := by decide +kernel
theorem dX10_about_153 : decode cX10_about 153 = .ok (.if_icmp .gt 24, 3) := by decide +kernel
theorem dX10_about_156 : decode cX10_about 156 = .ok (.aload_n 0, 1) := by decide +kernel
theorem dX10_about_157 : decode cX10_about 157 = .ok (.getfield 25, 3) := by decide +kernel
theorem dX10_about_160 : decode cX10_about 160 = .ok (.iconst 3, 1) := by decide +kernel
theorem dX10_about_161 : decode cX10_about 161 = .ok (.iload_n 1, 1) := by decide +kernel
theorem dX10_about_162 : decode cX10_about 162 = .ok (.imul, 1) := by decide +kernel
theorem dX10_about_163 : decode cX10_about 163 = .ok (.iload 4, 2) := by decide +kernel
theorem dX10_about_165 : decode cX10_about 165 = .ok (.iadd, 1) := by decide +kernel
theorem dX10_about_166 : decode cX10_about 166 = .ok (.iaload, 1) := by decide +kernel
theorem dX10_about_167 : decode cX10_about 167 = .ok (.aload_n 0, 1) := by decide +kernel
theorem dX10_about_168 : decode cX10_about 168 = .ok (.getfield 73, 3) := by decide +kernel
theorem dX10_about_171 : decode cX10_about 171 = .ok (.iload 4, 2) := by decide +kernel
theorem dX10_about_173 : decode cX10_about 173 = .ok (.iaload, 1) := by decide +kernel
theorem dX10_about_174 : decode cX10_about 174 = .ok (.if_icmp .le 7, 3) := by decide +kernel
theorem dX10_about_177 : decode cX10_about 177 = .ok (.iconst 1, 1) := by decide +kernel
theorem dX10_about_178 : decode cX10_about 178 = .ok (.goto 4, 3) := by decide +kernel
theorem dX10_about_181 : decode cX10_about 181 = .ok (.iconst 0, 1) := by decide +kernel
theorem dX10_about_182 : decode cX10_about 182 = .ok (.istore 5, 2) := by decide +kernel
theorem dX10_about_184 : decode cX10_about 184 = .ok (.iload_n 3, 1) := by decide +kernel
theorem dX10_about_185 : decode cX10_about 185 = .ok (.iload 5, 2) := by decide +kernel
theorem dX10_about_187 : decode cX10_about 187 = .ok (.ifCond .eq 10, 3) := by decide +kernel
theorem dX10_about_190 : decode cX10_about 190 = .ok (.iconst 1, 1) := by decide +kernel
theorem dX10_about_191 : decode cX10_about 191 = .ok (.iload 4, 2) := by decide +kernel
theorem dX10_about_193 : decode cX10_about 193 = .ok (.ishl, 1) := by decide +kernel
theorem dX10_about_194 : decode cX10_about 194 = .ok (.goto 4, 3) := by decide +kernel
theorem dX10_about_197 : decode cX10_about 197 = .ok (.iconst 0, 1) := by decide +kernel
theorem dX10_about_198 : decode cX10_about 198 = .ok (.iadd, 1) := by decide +kernel
theorem dX10_about_199 : decode cX10_about 199 = .ok (.istore_n 3, 1) := by decide +kernel
theorem dX10_about_200 : decode cX10_about 200 = .ok (.iinc 4 1, 3) := by decide +kernel
theorem dX10_about_203 : decode cX10_about 203 = .ok (.goto (-73), 3) := by decide +kernel
theorem dX10_about_206 : decode cX10_about 206 = .ok (.iload_n 3, 1) := by decide +kernel
theorem dX10_about_207 : decode cX10_about 207 = .ok (.ireturn, 1) := by decide +kernel
theorem dX10_clock_0 : decode cX10_clock 0 = .ok (.aload_n 0, 1) := by decide +kernel
theorem dX10_clock_1 : decode cX10_clock 1 = .ok (.aload_n 0, 1) := by decide +kernel
theorem dX10_clock_2 : decode cX10_clock 2 = .ok (.iload_n 1, 1) := by decide +kernel
theorem dX10_clock_3 : decode cX10_clock 3 = .ok (.invokevirtual 115, 3) := by decide +kernel
theorem dX10_clock_6 : decode cX10_clock 6 = .ok (.ifCond .eq 11, 3) := by decide +kernel
theorem dX10_clock_9 : decode cX10_clock 9 = .ok (.aload_n 0, 1) := by decide +kernel
theorem dX10_clock_10 : decode cX10_clock 10 = .ok (.iload_n 2, 1) := by decide +kernel
theorem dX10_clock_11 : decode cX10_clock 11 = .ok (.invokevirtual 127, 3) := by decide +kernel
theorem dX10_clock_14 : decode cX10_clock 14 = .ok (.ifCond .ne 7, 3) := by decide +kernel
theorem dX10_clock_17 : decode cX10_clock 17 = .ok (.iconst 1, 1) := by decide +kernel
theorem dX10_clock_18 : decode cX10_clock 18 = .ok (.goto 4, 3) := by decide +kernel
theorem dX10_clock_21 : decode cX10_clock 21 = .ok (.iconst 0, 1) := by decide +kernel
theorem dX10_clock_22 : decode cX10_clock 22 = .ok (.putfield 101, 3) := by decide +kernel
theorem dX10_clock_25 : decode cX10_clock 25 = .ok (.aload_n 0, 1) := by decide +kernel
theorem dX10_clock_26 : decode cX10_clock 26 = .ok (.getfield 101, 3) := by decide +kernel
theorem dX10_clock_29 : decode cX10_clock 29 = .ok (.ifCond .le 7, 3) := by decide +kernel
theorem dX10_clock_32 : decode cX10_clock 32 = .ok (.iconst 0, 1) := by decide +kernel
theorem dX10_clock_33 : decode cX10_clock 33 = .ok (.goto 30, 3) := by decide +kernel
theorem dX10_clock_36 : decode cX10_clock 36 = .ok (.iload_n 3, 1) := by decide +kernel
theorem dX10_clock_37 : decode cX10_clock 37 = .ok (.ifCond .eq 16, 3) := by decide +kernel
theorem dX10_clock_40 : decode cX10_clock 40 = .ok (.aload_n 0, 1) := by decide +kernel
theorem dX10_clock_41 : decode cX10_clock 41 = .ok (.getfield 25, 3) := by decide +kernel
theorem dX10_clock_44 : decode cX10_clock 44 = .ok (.iconst 3, 1) := by decide +kernel
theorem dX10_clock_45 : decode cX10_clock 45 = .ok (.iload_n 1, 1) := by decide +kernel
theorem dX10_clock_46 : decode cX10_clock 46 = .ok (.imul, 1) := by decide +kernel
theorem dX10_clock_47 : decode cX10_clock 47 = .ok (.iload_n 2, 1) := by decide +kernel
theorem dX10_clock_48 : decode cX10_clock 48 = .ok (.iadd, 1) := by decide +kernel
theorem dX10_clock_49 : decode cX10_clock 49 = .ok (.iaload, 1) := by decide +kernel
theorem dX10_clock_50 : decode cX10_clock 50 = .ok (.goto 13, 3) := by decide +kernel
theorem dX10_clock_53 : decode cX10_clock 53 = .ok (.aload_n 0, 1) := by decide +kernel
theorem dX10_clock_54 : decode cX10_clock 54 = .ok (.getfield 22, 3) := by decide +kernel
theorem dX10_clock_57 : decode cX10_clock 57 = .ok (.iconst 3, 1) := by decide +kernel
theorem dX10_clock_58 : decode cX10_clock 58 = .ok (.iload_n 1, 1) := by decide +kernel
theorem dX10_clock_59 : decode cX10_clock 59 = .ok (.imul, 1) := by decide +kernel
theorem dX10_clock_60 : decode cX10_clock 60 = .ok (.iload_n 2, 1) := by decide +kernel
theorem dX10_clock_61 : decode cX10_clock 61 = .ok (.iadd, 1) := by decide +kernel
theorem dX10_clock_62 : decode cX10_clock 62 = .ok (.iaload, 1) := by decide +kernel
theorem dX10_clock_63 : decode cX10_clock 63 = .ok (.ireturn, 1) := by decide +kernel
theorem dX10_axle_0 : decode cX10_axle 0 = .ok (.aload_n 0, 1) := by decide +kernel
theorem dX10_axle_1 : decode cX10_axle 1 = .ok (.aload_n 0, 1) := by decide +kernel
theorem dX10_axle_2 : decode cX10_axle 2 = .ok (.iload_n 1, 1) := by decide +kernel
theorem dX10_axle_3 : decode cX10_axle 3 = .ok (.invokevirtual 115, 3) := by decide +kernel
theorem dX10_axle_6 : decode cX10_axle 6 = .ok (.ifCond .eq 13, 3) := by decide +kernel
theorem dX10_axle_9 : decode cX10_axle 9 = .ok (.aload_n 0, 1) := by decide +kernel
theorem dX10_axle_10 : decode cX10_axle 10 = .ok (.iload_n 2, 1) := by decide +kernel
theorem dX10_axle_11 : decode cX10_axle 11 = .ok (.iconst 0, 1) := by decide +kernel
theorem dX10_axle_12 : decode cX10_axle 12 = .ok (.iconst 3, 1) := by decide +kernel
theorem dX10_axle_13 : decode cX10_axle 13 = .ok (.invokevirtual 105, 3) := by decide +kernel
theorem dX10_axle_16 : decode cX10_axle 16 = .ok (.ifCond .ne 7, 3) := by decide +kernel
theorem dX10_axle_19 : decode cX10_axle 19 = .ok (.iconst 1, 1) := by decide +kernel
theorem dX10_axle_20 : decode cX10_axle 20 = .ok (.goto 4, 3) := by decide +kernel
theorem dX10_axle_23 : decode cX10_axle 23 = .ok (.iconst 0, 1) := by decide +kernel
theorem dX10_axle_24 : decode cX10_axle 24 = .ok (.putfield 101, 3) := by decide +kernel
theorem dX10_axle_27 : decode cX10_axle 27 = .ok (.aload_n 0, 1) := by decide +kernel
theorem dX10_axle_28 : decode cX10_axle 28 = .ok (.getfield 101, 3) := by decide +kernel
theorem dX10_axle_31 : decode cX10_axle 31 = .ok (.ifCond .le 7, 3) := by decide +kernel
theorem dX10_axle_34 : decode cX10_axle 34 = .ok (.iconst 0, 1) := by decide +kernel
theorem dX10_axle_35 : decode cX10_axle 35 = .ok (.goto 13, 3) := by decide +kernel
theorem dX10_axle_38 : decode cX10_axle 38 = .ok (.aload_n 0, 1) := by decide +kernel
theorem dX10_axle_39 : decode cX10_axle 39 = .ok (.getfield 19, 3) := by decide +kernel
theorem dX10_axle_42 : decode cX10_axle 42 = .ok (.iconst 4, 1) := by decide +kernel
theorem dX10_axle_43 : decode cX10_axle 43 = .ok (.iload_n 1, 1) := by decide +kernel
theorem dX10_axle_44 : decode cX10_axle 44 = .ok (.imul, 1) := by decide +kernel
theorem dX10_axle_45 : decode cX10_axle 45 = .ok (.iload_n 2, 1) := by decide +kernel
theorem dX10_axle_46 : decode cX10_axle 46 = .ok (.iadd, 1) := by decide +kernel
theorem dX10_axle_47 : decode cX10_axle 47 = .ok (.iaload, 1) := by decide +kernel
theorem dX10_axle_48 : decode cX10_axle 48 = .ok (.ireturn, 1) := by decide +kernel
theorem dX10_faultAt_0 : decode cX10_faultAt 0 = .ok (.aload_n 0, 1) := by decide +kernel
theorem dX10_faultAt_1 : decode cX10_faultAt 1 = .ok (.aload_n 0, 1) := by decide +kernel
theorem dX10_faultAt_2 : decode cX10_faultAt 2 = .ok (.iload_n 1, 1) := by decide +kernel
theorem dX10_faultAt_3 : decode cX10_faultAt 3 = .ok (.iload_n 2, 1) := by decide +kernel
theorem dX10_faultAt_4 : decode cX10_faultAt 4 = .ok (.invokevirtual 196, 3) := by decide +kernel
theorem dX10_faultAt_7 : decode cX10_faultAt 7 = .ok (.ifCond .ne 7, 3) := by decide +kernel
theorem dX10_faultAt_10 : decode cX10_faultAt 10 = .ok (.iconst 1, 1) := by decide +kernel
theorem dX10_faultAt_11 : decode cX10_faultAt 11 = .ok (.goto 18, 3) := by decide +kernel
theorem dX10_faultAt_14 : decode cX10_faultAt 14 = .ok (.aload_n 0, 1) := by decide +kernel
theorem dX10_faultAt_15 : decode cX10_faultAt 15 = .ok (.iload_n 3, 1) := by decide +kernel
theorem dX10_faultAt_16 : decode cX10_faultAt 16 = .ok (.iconst 0, 1) := by decide +kernel
theorem dX10_faultAt_17 : decode cX10_faultAt 17 = .ok (.iconst 3, 1) := by decide +kernel
theorem dX10_faultAt_18 : decode cX10_faultAt 18 = .ok (.invokevirtual 105, 3) := by decide +kernel
theorem dX10_faultAt_21 : decode cX10_faultAt 21 = .ok (.ifCond .ne 7, 3) := by decide +kernel
theorem dX10_faultAt_24 : decode cX10_faultAt 24 = .ok (.iconst 2, 1) := by decide +kernel
theorem dX10_faultAt_25 : decode cX10_faultAt 25 = .ok (.goto 4, 3) := by decide +kernel
theorem dX10_faultAt_28 : decode cX10_faultAt 28 = .ok (.iconst 0, 1) := by decide +kernel
theorem dX10_faultAt_29 : decode cX10_faultAt 29 = .ok (.putfield 101, 3) := by decide +kernel
theorem dX10_faultAt_32 : decode cX10_faultAt 32 = .ok (.aload_n 0, 1) := by decide +kernel
theorem dX10_faultAt_33 : decode cX10_faultAt 33 = .ok (.getfield 101, 3) := by decide +kernel
theorem dX10_faultAt_36 : decode cX10_faultAt 36 = .ok (.ifCond .le 5, 3) := by decide +kernel
theorem dX10_faultAt_39 : decode cX10_faultAt 39 = .ok (.iconst 0, 1) := by decide +kernel
theorem dX10_faultAt_40 : decode cX10_faultAt 40 = .ok (.ireturn, 1) := by decide +kernel
theorem dX10_faultAt_41 : decode cX10_faultAt 41 = .ok (.bipush 8, 2) := by decide +kernel
theorem dX10_faultAt_43 : decode cX10_faultAt 43 = .ok (.iload_n 1, 1) := by decide +kernel
theorem dX10_faultAt_44 : decode cX10_faultAt 44 = .ok (.imul, 1) := by decide +kernel
theorem dX10_faultAt_45 : decode cX10_faultAt 45 = .ok (.iload_n 2, 1) := by decide +kernel
theorem dX10_faultAt_46 : decode cX10_faultAt 46 = .ok (.iadd, 1) := by decide +kernel
theorem dX10_faultAt_47 : decode cX10_faultAt 47 = .ok (.istore 4, 2) := by decide +kernel
theorem dX10_faultAt_49 : decode cX10_faultAt 49 = .ok (.iload_n 3, 1) := by decide +kernel
theorem dX10_faultAt_50 : decode cX10_faultAt 50 = .ok (.ifCond .ne 13, 3) := by decide +kernel
theorem dX10_faultAt_53 : decode cX10_faultAt 53 = .ok (.aload_n 0, 1) := by decide +kernel
theorem dX10_faultAt_54 : decode cX10_faultAt 54 = .ok (.getfield 37, 3) := by decide +kernel
theorem dX10_faultAt_57 : decode cX10_faultAt 57 = .ok (.iload 4, 2) := by decide +kernel
theorem dX10_faultAt_59 : decode cX10_faultAt 59 = .ok (.iaload, 1) := by decide +kernel
theorem dX10_faultAt_60 : decode cX10_faultAt 60 = .ok (.goto 40, 3) := by decide +kernel
theorem dX10_faultAt_63 : decode cX10_faultAt 63 = .ok (.iload_n 3, 1) := by decide +kernel
theorem dX10_faultAt_64 : decode cX10_faultAt 64 = .ok (.iconst 1, 1) := by decide +kernel
theorem dX10_faultAt_65 : decode cX10_faultAt 65 = .ok (.if_icmp .ne 13, 3) := by decide +kernel
theorem dX10_faultAt_68 : decode cX10_faultAt 68 = .ok (.aload_n 0, 1) := by decide +kernel
theorem dX10_faultAt_69 : decode cX10_faultAt 69 = .ok (.getfield 40, 3) := by decide +kernel
theorem dX10_faultAt_72 : decode cX10_faultAt 72 = .ok (.iload 4, 2) := by decide +kernel
theorem dX10_faultAt_74 : decode cX10_faultAt 74 = .ok (.iaload, 1) := by decide +kernel
theorem dX10_faultAt_75 : decode cX10_faultAt 75 = .ok (.goto 25, 3) := by decide +kernel
theorem dX10_faultAt_78 : decode cX10_faultAt 78 = .ok (.iload_n 3, 1) := by decide +kernel
theorem dX10_faultAt_79 : decode cX10_faultAt 79 = .ok (.iconst 2, 1) := by decide +kernel
theorem dX10_faultAt_80 : decode cX10_faultAt 80 = .ok (.if_icmp .ne 13, 3) := by decide +kernel
theorem dX10_faultAt_83 : decode cX10_faultAt 83 = .ok (.aload_n 0, 1) := by decide +kernel
theorem dX10_faultAt_84 : decode cX10_faultAt 84 = .ok (.getfield 43, 3) := by decide +kernel
theorem dX10_faultAt_87 : decode cX10_faultAt 87 = .ok (.iload 4, 2) := by decide +kernel
theorem dX10_faultAt_89 : decode cX10_faultAt 89 = .ok (.iaload, 1) := by decide +kernel
theorem dX10_faultAt_90 : decode cX10_faultAt 90 = .ok (.goto 10, 3) := by decide +kernel
theorem dX10_faultAt_93 : decode cX10_faultAt 93 = .ok (.aload_n 0, 1) := by decide +kernel
theorem dX10_faultAt_94 : decode cX10_faultAt 94 = .ok (.getfield 46, 3) := by decide +kernel
theorem dX10_faultAt_97 : decode cX10_faultAt 97 = .ok (.iload 4, 2) := by decide +kernel
theorem dX10_faultAt_99 : decode cX10_faultAt 99 = .ok (.iaload, 1) := by decide +kernel
theorem dX10_faultAt_100 : decode cX10_faultAt 100 = .ok (.ireturn, 1) := by decide +kernel
theorem dX10_stands_0 : decode cX10_stands 0 = .ok (.aload_n 0, 1) := by decide +kernel
theorem dX10_stands_1 : decode cX10_stands 1 = .ok (.aload_n 0, 1) := by decide +kernel
theorem dX10_stands_2 : decode cX10_stands 2 = .ok (.iload_n 1, 1) := by decide +kernel
theorem dX10_stands_3 : decode cX10_stands 3 = .ok (.invokevirtual 119, 3) := by decide +kernel
theorem dX10_stands_6 : decode cX10_stands 6 = .ok (.ifCond .eq 7, 3) := by decide +kernel
theorem dX10_stands_9 : decode cX10_stands 9 = .ok (.iload_n 2, 1) := by decide +kernel
theorem dX10_stands_10 : decode cX10_stands 10 = .ok (.ifCond .ge 7, 3) := by decide +kernel
theorem dX10_stands_13 : decode cX10_stands 13 = .ok (.iconst 1, 1) := by decide +kernel
theorem dX10_stands_14 : decode cX10_stands 14 = .ok (.goto 4, 3) := by decide +kernel
theorem dX10_stands_17 : decode cX10_stands 17 = .ok (.iconst 0, 1) := by decide +kernel
theorem dX10_stands_18 : decode cX10_stands 18 = .ok (.putfield 101, 3) := by decide +kernel
theorem dX10_stands_21 : decode cX10_stands 21 = .ok (.aload_n 0, 1) := by decide +kernel
theorem dX10_stands_22 : decode cX10_stands 22 = .ok (.getfield 101, 3) := by decide +kernel
theorem dX10_stands_25 : decode cX10_stands 25 = .ok (.ifCond .le 5, 3) := by decide +kernel
theorem dX10_stands_28 : decode cX10_stands 28 = .ok (.iconst 0, 1) := by decide +kernel
theorem dX10_stands_29 : decode cX10_stands 29 = .ok (.ireturn, 1) := by decide +kernel
theorem dX10_stands_30 : decode cX10_stands 30 = .ok (.iload_n 2, 1) := by decide +kernel
theorem dX10_stands_31 : decode cX10_stands 31 = .ok (.aload_n 0, 1) := by decide +kernel
theorem dX10_stands_32 : decode cX10_stands 32 = .ok (.getfield 31, 3) := by decide +kernel
theorem dX10_stands_35 : decode cX10_stands 35 = .ok (.iload_n 1, 1) := by decide +kernel
theorem dX10_stands_36 : decode cX10_stands 36 = .ok (.iaload, 1) := by decide +kernel
theorem dX10_stands_37 : decode cX10_stands 37 = .ok (.if_icmp .ge 26, 3) := by decide +kernel
theorem dX10_stands_40 : decode cX10_stands 40 = .ok (.aload_n 0, 1) := by decide +kernel
theorem dX10_stands_41 : decode cX10_stands 41 = .ok (.getfield 28, 3) := by decide +kernel
theorem dX10_stands_44 : decode cX10_stands 44 = .ok (.bipush 6, 2) := by decide +kernel
theorem dX10_stands_46 : decode cX10_stands 46 = .ok (.iload_n 1, 1) := by decide +kernel
theorem dX10_stands_47 : decode cX10_stands 47 = .ok (.imul, 1) := by decide +kernel
theorem dX10_stands_48 : decode cX10_stands 48 = .ok (.aload_n 0, 1) := by decide +kernel
theorem dX10_stands_49 : decode cX10_stands 49 = .ok (.getfield 31, 3) := by decide +kernel
theorem dX10_stands_52 : decode cX10_stands 52 = .ok (.iload_n 1, 1) := by decide +kernel
theorem dX10_stands_53 : decode cX10_stands 53 = .ok (.iaload, 1) := by decide +kernel
theorem dX10_stands_54 : decode cX10_stands 54 = .ok (.iadd, 1) := by decide +kernel
theorem dX10_stands_55 : decode cX10_stands 55 = .ok (.iconst 1, 1) := by decide +kernel
theorem dX10_stands_56 : decode cX10_stands 56 = .ok (.isub, 1) := by decide +kernel
theorem dX10_stands_57 : decode cX10_stands 57 = .ok (.iload_n 2, 1) := by decide +kernel
theorem dX10_stands_58 : decode cX10_stands 58 = .ok (.isub, 1) := by decide +kernel
theorem dX10_stands_59 : decode cX10_stands 59 = .ok (.iaload, 1) := by decide +kernel
theorem dX10_stands_60 : decode cX10_stands 60 = .ok (.goto 4, 3) := by decide +kernel
theorem dX10_stands_63 : decode cX10_stands 63 = .ok (.iconst (-1), 1) := by decide +kernel
theorem dX10_stands_64 : decode cX10_stands 64 = .ok (.ireturn, 1) := by decide +kernel
theorem dX10_shunts_0 : decode cX10_shunts 0 = .ok (.aload_n 0, 1) := by decide +kernel
theorem dX10_shunts_1 : decode cX10_shunts 1 = .ok (.iconst 0, 1) := by decide +kernel
theorem dX10_shunts_2 : decode cX10_shunts 2 = .ok (.putfield 101, 3) := by decide +kernel
theorem dX10_shunts_5 : decode cX10_shunts 5 = .ok (.aload_n 0, 1) := by decide +kernel
theorem dX10_shunts_6 : decode cX10_shunts 6 = .ok (.getfield 176, 3) := by decide +kernel
theorem dX10_shunts_9 : decode cX10_shunts 9 = .ok (.ireturn, 1) := by decide +kernel
theorem dX10_ran_0 : decode cX10_ran 0 = .ok (.aload_n 0, 1) := by decide +kernel
theorem dX10_ran_1 : decode cX10_ran 1 = .ok (.aload_n 0, 1) := by decide +kernel
theorem dX10_ran_2 : decode cX10_ran 2 = .ok (.iload_n 1, 1) := by decide +kernel
theorem dX10_ran_3 : decode cX10_ran 3 = .ok (.invokevirtual 138, 3) := by decide +kernel
theorem dX10_ran_6 : decode cX10_ran 6 = .ok (.ifCond .ne 7, 3) := by decide +kernel
theorem dX10_ran_9 : decode cX10_ran 9 = .ok (.iconst 1, 1) := by decide +kernel
theorem dX10_ran_10 : decode cX10_ran 10 = .ok (.goto 23, 3) := by decide +kernel
theorem dX10_ran_13 : decode cX10_ran 13 = .ok (.aload_n 0, 1) := by decide +kernel
theorem dX10_ran_14 : decode cX10_ran 14 = .ok (.iload_n 2, 1) := by decide +kernel
theorem dX10_ran_15 : decode cX10_ran 15 = .ok (.iconst 0, 1) := by decide +kernel
theorem dX10_ran_16 : decode cX10_ran 16 = .ok (.aload_n 0, 1) := by decide +kernel
theorem dX10_ran_17 : decode cX10_ran 17 = .ok (.getfield 135, 3) := by decide +kernel
theorem dX10_ran_20 : decode cX10_ran 20 = .ok (.iconst 1, 1) := by decide +kernel
theorem dX10_ran_21 : decode cX10_ran 21 = .ok (.isub, 1) := by decide +kernel
theorem dX10_ran_22 : decode cX10_ran 22 = .ok (.invokevirtual 105, 3) := by decide +kernel
theorem dX10_ran_25 : decode cX10_ran 25 = .ok (.ifCond .ne 7, 3) := by decide +kernel
theorem dX10_ran_28 : decode cX10_ran 28 = .ok (.iconst 2, 1) := by decide +kernel
theorem dX10_ran_29 : decode cX10_ran 29 = .ok (.goto 4, 3) := by decide +kernel
theorem dX10_ran_32 : decode cX10_ran 32 = .ok (.iconst 0, 1) := by decide +kernel
theorem dX10_ran_33 : decode cX10_ran 33 = .ok (.putfield 101, 3) := by decide +kernel
theorem dX10_ran_36 : decode cX10_ran 36 = .ok (.aload_n 0, 1) := by decide +kernel
theorem dX10_ran_37 : decode cX10_ran 37 = .ok (.getfield 101, 3) := by decide +kernel
theorem dX10_ran_40 : decode cX10_ran 40 = .ok (.ifCond .le 7, 3) := by decide +kernel
theorem dX10_ran_43 : decode cX10_ran 43 = .ok (.iconst 0, 1) := by decide +kernel
theorem dX10_ran_44 : decode cX10_ran 44 = .ok (.goto 15, 3) := by decide +kernel
theorem dX10_ran_47 : decode cX10_ran 47 = .ok (.aload_n 0, 1) := by decide +kernel
theorem dX10_ran_48 : decode cX10_ran 48 = .ok (.getfield 82, 3) := by decide +kernel
theorem dX10_ran_51 : decode cX10_ran 51 = .ok (.sipush 200, 3) := by decide +kernel
theorem dX10_ran_54 : decode cX10_ran 54 = .ok (.iload_n 1, 1) := by decide +kernel
theorem dX10_ran_55 : decode cX10_ran 55 = .ok (.imul, 1) := by decide +kernel
theorem dX10_ran_56 : decode cX10_ran 56 = .ok (.iload_n 2, 1) := by decide +kernel
theorem dX10_ran_57 : decode cX10_ran 57 = .ok (.iadd, 1) := by decide +kernel
theorem dX10_ran_58 : decode cX10_ran 58 = .ok (.iaload, 1) := by decide +kernel
theorem dX10_ran_59 : decode cX10_ran 59 = .ok (.ireturn, 1) := by decide +kernel
theorem dX10_kmAnew_0 : decode cX10_kmAnew 0 = .ok (.aload_n 0, 1) := by decide +kernel
theorem dX10_kmAnew_1 : decode cX10_kmAnew 1 = .ok (.aload_n 0, 1) := by decide +kernel
theorem dX10_kmAnew_2 : decode cX10_kmAnew 2 = .ok (.iload_n 1, 1) := by decide +kernel
theorem dX10_kmAnew_3 : decode cX10_kmAnew 3 = .ok (.invokevirtual 115, 3) := by decide +kernel
theorem dX10_kmAnew_6 : decode cX10_kmAnew 6 = .ok (.ifCond .ne 7, 3) := by decide +kernel
theorem dX10_kmAnew_9 : decode cX10_kmAnew 9 = .ok (.iconst 1, 1) := by decide +kernel
theorem dX10_kmAnew_10 : decode cX10_kmAnew 10 = .ok (.goto 4, 3) := by decide +kernel
theorem dX10_kmAnew_13 : decode cX10_kmAnew 13 = .ok (.iconst 0, 1) := by decide +kernel
theorem dX10_kmAnew_14 : decode cX10_kmAnew 14 = .ok (.putfield 101, 3) := by decide +kernel
theorem dX10_kmAnew_17 : decode cX10_kmAnew 17 = .ok (.aload_n 0, 1) := by decide +kernel
theorem dX10_kmAnew_18 : decode cX10_kmAnew 18 = .ok (.getfield 101, 3) := by decide +kernel
theorem dX10_kmAnew_21 : decode cX10_kmAnew 21 = .ok (.ifCond .le 5, 3) := by decide +kernel
theorem dX10_kmAnew_24 : decode cX10_kmAnew 24 = .ok (.iconst 0, 1) := by decide +kernel
theorem dX10_kmAnew_25 : decode cX10_kmAnew 25 = .ok (.ireturn, 1) := by decide +kernel
theorem dX10_kmAnew_26 : decode cX10_kmAnew 26 = .ok (.aload_n 0, 1) := by decide +kernel
theorem dX10_kmAnew_27 : decode cX10_kmAnew 27 = .ok (.getfield 13, 3) := by decide +kernel
theorem dX10_kmAnew_30 : decode cX10_kmAnew 30 = .ok (.iload_n 1, 1) := by decide +kernel
theorem dX10_kmAnew_31 : decode cX10_kmAnew 31 = .ok (.iaload, 1) := by decide +kernel
theorem dX10_kmAnew_32 : decode cX10_kmAnew 32 = .ok (.istore_n 2, 1) := by decide +kernel
theorem dX10_kmAnew_33 : decode cX10_kmAnew 33 = .ok (.iconst 0, 1) := by decide +kernel
theorem dX10_kmAnew_34 : decode cX10_kmAnew 34 = .ok (.istore_n 3, 1) := by decide +kernel
theorem dX10_kmAnew_35 : decode cX10_kmAnew 35 = .ok (.iload_n 3, 1) := by decide +kernel
theorem dX10_kmAnew_36 : decode cX10_kmAnew 36 = .ok (.sipush 1200, 3) := by decide +kernel
theorem dX10_kmAnew_39 : decode cX10_kmAnew 39 = .ok (.if_icmp .ge 36, 3) := by decide +kernel
theorem dX10_kmAnew_42 : decode cX10_kmAnew 42 = .ok (.iload_n 2, 1) := by decide +kernel
theorem dX10_kmAnew_43 : decode cX10_kmAnew 43 = .ok (.aload_n 0, 1) := by decide +kernel
theorem dX10_kmAnew_44 : decode cX10_kmAnew 44 = .ok (.getfield 82, 3) := by decide +kernel
theorem dX10_kmAnew_47 : decode cX10_kmAnew 47 = .ok (.iload_n 3, 1) := by decide +kernel
theorem dX10_kmAnew_48 : decode cX10_kmAnew 48 = .ok (.iaload, 1) := by decide +kernel
theorem dX10_kmAnew_49 : decode cX10_kmAnew 49 = .ok (.iload_n 1, 1) := by decide +kernel
theorem dX10_kmAnew_50 : decode cX10_kmAnew 50 = .ok (.if_icmp .ne 16, 3) := by decide +kernel
theorem dX10_kmAnew_53 : decode cX10_kmAnew 53 = .ok (.aload_n 0, 1) := by decide +kernel
theorem dX10_kmAnew_54 : decode cX10_kmAnew 54 = .ok (.getfield 55, 3) := by decide +kernel
theorem dX10_kmAnew_57 : decode cX10_kmAnew 57 = .ok (.iload_n 3, 1) := by decide +kernel
theorem dX10_kmAnew_58 : decode cX10_kmAnew 58 = .ok (.sipush 200, 3) := by decide +kernel
theorem dX10_kmAnew_61 : decode cX10_kmAnew 61 = .ok (.idiv, 1) := by decide +kernel
theorem dX10_kmAnew_62 : decode cX10_kmAnew 62 = .ok (.iaload, 1) := by decide +kernel
theorem dX10_kmAnew_63 : decode cX10_kmAnew 63 = .ok (.goto 4, 3) := by decide +kernel
theorem dX10_kmAnew_66 : decode cX10_kmAnew 66 = .ok (.iconst 0, 1) := by decide +kernel
theorem dX10_kmAnew_67 : decode cX10_kmAnew 67 = .ok (.iadd, 1) := by decide +kernel
theorem dX10_kmAnew_68 : decode cX10_kmAnew 68 = .ok (.istore_n 2, 1) := by decide +kernel
theorem dX10_kmAnew_69 : decode cX10_kmAnew 69 = .ok (.iinc 3 1, 3) := by decide +kernel
theorem dX10_kmAnew_72 : decode cX10_kmAnew 72 = .ok (.goto (-37), 3) := by decide +kernel
theorem dX10_kmAnew_75 : decode cX10_kmAnew 75 = .ok (.iload_n 2, 1) := by decide +kernel
theorem dX10_kmAnew_76 : decode cX10_kmAnew 76 = .ok (.ireturn, 1) := by decide +kernel
theorem dJ9_max_7cf53_0 : decode cJ9_max_7cf53 0 = .ok (.iload_n 0, 1) := by decide +kernel
theorem dJ9_max_7cf53_1 : decode cJ9_max_7cf53 1 = .ok (.iload_n 1, 1) := by decide +kernel
theorem dJ9_max_7cf53_2 : decode cJ9_max_7cf53 2 = .ok (.if_icmp .lt 7, 3) := by decide +kernel
theorem dJ9_max_7cf53_5 : decode cJ9_max_7cf53 5 = .ok (.iload_n 0, 1) := by decide +kernel
theorem dJ9_max_7cf53_6 : decode cJ9_max_7cf53 6 = .ok (.goto 4, 3) := by decide +kernel
theorem dJ9_max_7cf53_9 : decode cJ9_max_7cf53 9 = .ok (.iload_n 1, 1) := by decide +kernel
theorem dJ9_max_7cf53_10 : decode cJ9_max_7cf53 10 = .ok (.ireturn, 1) := by decide +kernel
theorem dJ9_min_7cf53_0 : decode cJ9_min_7cf53 0 = .ok (.iload_n 0, 1) := by decide +kernel
theorem dJ9_min_7cf53_1 : decode cJ9_min_7cf53 1 = .ok (.iload_n 1, 1) := by decide +kernel
theorem dJ9_min_7cf53_2 : decode cJ9_min_7cf53 2 = .ok (.if_icmp .gt 7, 3) := by decide +kernel
theorem dJ9_min_7cf53_5 : decode cJ9_min_7cf53 5 = .ok (.iload_n 0, 1) := by decide +kernel
theorem dJ9_min_7cf53_6 : decode cJ9_min_7cf53 6 = .ok (.goto 4, 3) := by decide +kernel
theorem dJ9_min_7cf53_9 : decode cJ9_min_7cf53 9 = .ok (.iload_n 1, 1) := by decide +kernel
theorem dJ9_min_7cf53_10 : decode cJ9_min_7cf53 10 = .ok (.ireturn, 1) := by decide +kernel
theorem dJxa1e45_init_da8c8_0 : decode cJxa1e45_init_da8c8 0 = .ok (.aload_n 0, 1) := by decide +kernel
theorem dJxa1e45_init_da8c8_1 : decode cJxa1e45_init_da8c8 1 = .ok (.invokespecial 1, 3) := by decide +kernel
theorem dJxa1e45_init_da8c8_4 : decode cJxa1e45_init_da8c8 4 = .ok (.return_, 1) := by decide +kernel
theorem dJxc12de_init_da8c8_0 : decode cJxc12de_init_da8c8 0 = .ok (.aload_n 0, 1) := by decide +kernel
theorem dJxc12de_init_da8c8_1 : decode cJxc12de_init_da8c8 1 = .ok (.invokespecial 1, 3) := by decide +kernel
theorem dJxc12de_init_da8c8_4 : decode cJxc12de_init_da8c8 4 = .ok (.aload_n 0, 1) := by decide +kernel
theorem dJxc12de_init_da8c8_5 : decode cJxc12de_init_da8c8 5 = .ok (.iconst 0, 1) := by decide +kernel
theorem dJxc12de_init_da8c8_6 : decode cJxc12de_init_da8c8 6 = .ok (.putfield 7, 3) := by decide +kernel
theorem dJxc12de_init_da8c8_9 : decode cJxc12de_init_da8c8 9 = .ok (.return_, 1) := by decide +kernel
theorem dJx4a65c_init_da8c8_0 : decode cJx4a65c_init_da8c8 0 = .ok (.aload_n 0, 1) := by decide +kernel
theorem dJx4a65c_init_da8c8_1 : decode cJx4a65c_init_da8c8 1 = .ok (.invokespecial 1, 3) := by decide +kernel
theorem dJx4a65c_init_da8c8_4 : decode cJx4a65c_init_da8c8 4 = .ok (.aload_n 0, 1) := by decide +kernel
theorem dJx4a65c_init_da8c8_5 : decode cJx4a65c_init_da8c8 5 = .ok (.getstatic 39, 3) := by decide +kernel
theorem dJx4a65c_init_da8c8_8 : decode cJx4a65c_init_da8c8 8 = .ok (.putfield 9, 3) := by decide +kernel
theorem dJx4a65c_init_da8c8_11 : decode cJx4a65c_init_da8c8 11 = .ok (.return_, 1) := by decide +kernel
theorem dJx4a65c_grow_92f84_0 : decode cJx4a65c_grow_92f84 0 = .ok (.aload_n 0, 1) := by decide +kernel
theorem dJx4a65c_grow_92f84_1 : decode cJx4a65c_grow_92f84 1 = .ok (.getfield 9, 3) := by decide +kernel
theorem dJx4a65c_grow_92f84_4 : decode cJx4a65c_grow_92f84 4 = .ok (.arraylength, 1) := by decide +kernel
theorem dJx4a65c_grow_92f84_5 : decode cJx4a65c_grow_92f84 5 = .ok (.istore_n 2, 1) := by decide +kernel
theorem dJx4a65c_grow_92f84_6 : decode cJx4a65c_grow_92f84 6 = .ok (.iload_n 2, 1) := by decide +kernel
theorem dJx4a65c_grow_92f84_7 : decode cJx4a65c_grow_92f84 7 = .ok (.ifCond .gt 13, 3) := by decide +kernel
theorem dJx4a65c_grow_92f84_10 : decode cJx4a65c_grow_92f84 10 = .ok (.aload_n 0, 1) := by decide +kernel
theorem dJx4a65c_grow_92f84_11 : decode cJx4a65c_grow_92f84 11 = .ok (.getfield 9, 3) := by decide +kernel
theorem dJx4a65c_grow_92f84_14 : decode cJx4a65c_grow_92f84 14 = .ok (.getstatic 39, 3) := by decide +kernel
theorem dJx4a65c_grow_92f84_17 : decode cJx4a65c_grow_92f84 17 = .ok (.if_acmp .eq 28, 3) := by decide +kernel
theorem dJx4a65c_grow_92f84_20 : decode cJx4a65c_grow_92f84 20 = .ok (.iload_n 2, 1) := by decide +kernel
theorem dJx4a65c_grow_92f84_21 : decode cJx4a65c_grow_92f84 21 = .ok (.iload_n 1, 1) := by decide +kernel
theorem dJx4a65c_grow_92f84_22 : decode cJx4a65c_grow_92f84 22 = .ok (.iload_n 2, 1) := by decide +kernel
theorem dJx4a65c_grow_92f84_23 : decode cJx4a65c_grow_92f84 23 = .ok (.isub, 1) := by decide +kernel
theorem dJx4a65c_grow_92f84_24 : decode cJx4a65c_grow_92f84 24 = .ok (.iload_n 2, 1) := by decide +kernel
theorem dJx4a65c_grow_92f84_25 : decode cJx4a65c_grow_92f84 25 = .ok (.iconst 1, 1) := by decide +kernel
theorem dJx4a65c_grow_92f84_26 : decode cJx4a65c_grow_92f84 26 = .ok (.ishr, 1) := by decide +kernel
theorem dJx4a65c_grow_92f84_27 : decode cJx4a65c_grow_92f84 27 = .ok (.invokestatic 73, 3) := by decide +kernel
theorem dJx4a65c_grow_92f84_30 : decode cJx4a65c_grow_92f84 30 = .ok (.istore_n 3, 1) := by decide +kernel
theorem dJx4a65c_grow_92f84_31 : decode cJx4a65c_grow_92f84 31 = .ok (.aload_n 0, 1) := by decide +kernel
theorem dJx4a65c_grow_92f84_32 : decode cJx4a65c_grow_92f84 32 = .ok (.aload_n 0, 1) := by decide +kernel
theorem dJx4a65c_grow_92f84_33 : decode cJx4a65c_grow_92f84 33 = .ok (.getfield 9, 3) := by decide +kernel
theorem dJx4a65c_grow_92f84_36 : decode cJx4a65c_grow_92f84 36 = .ok (.iload_n 3, 1) := by decide +kernel
theorem dJx4a65c_grow_92f84_37 : decode cJx4a65c_grow_92f84 37 = .ok (.invokestatic 66, 3) := by decide +kernel
theorem dJx4a65c_grow_92f84_40 : decode cJx4a65c_grow_92f84 40 = .ok (.dup_x1, 1) := by decide +kernel
theorem dJx4a65c_grow_92f84_41 : decode cJx4a65c_grow_92f84 41 = .ok (.putfield 9, 3) := by decide +kernel
theorem dJx4a65c_grow_92f84_44 : decode cJx4a65c_grow_92f84 44 = .ok (.areturn, 1) := by decide +kernel
theorem dJx4a65c_grow_92f84_45 : decode cJx4a65c_grow_92f84 45 = .ok (.aload_n 0, 1) := by decide +kernel
theorem dJx4a65c_grow_92f84_46 : decode cJx4a65c_grow_92f84 46 = .ok (.bipush 10, 2) := by decide +kernel
theorem dJx4a65c_grow_92f84_48 : decode cJx4a65c_grow_92f84 48 = .ok (.iload_n 1, 1) := by decide +kernel
theorem dJx4a65c_grow_92f84_49 : decode cJx4a65c_grow_92f84 49 = .ok (.invokestatic 79, 3) := by decide +kernel
theorem dJx4a65c_grow_92f84_52 : decode cJx4a65c_grow_92f84 52 = .ok (.anewarray 7, 3) := by decide +kernel
theorem dJx4a65c_grow_92f84_55 : decode cJx4a65c_grow_92f84 55 = .ok (.dup_x1, 1) := by decide +kernel
theorem dJx4a65c_grow_92f84_56 : decode cJx4a65c_grow_92f84 56 = .ok (.putfield 9, 3) := by decide +kernel
theorem dJx4a65c_grow_92f84_59 : decode cJx4a65c_grow_92f84 59 = .ok (.areturn, 1) := by decide +kernel
theorem dJx4a65c_grow_d5877_0 : decode cJx4a65c_grow_d5877 0 = .ok (.aload_n 0, 1) := by decide +kernel
theorem dJx4a65c_grow_d5877_1 : decode cJx4a65c_grow_d5877 1 = .ok (.aload_n 0, 1) := by decide +kernel
theorem dJx4a65c_grow_d5877_2 : decode cJx4a65c_grow_d5877 2 = .ok (.getfield 48, 3) := by decide +kernel
theorem dJx4a65c_grow_d5877_5 : decode cJx4a65c_grow_d5877 5 = .ok (.iconst 1, 1) := by decide +kernel
theorem dJx4a65c_grow_d5877_6 : decode cJx4a65c_grow_d5877 6 = .ok (.iadd, 1) := by decide +kernel
theorem dJx4a65c_grow_d5877_7 : decode cJx4a65c_grow_d5877 7 = .ok (.invokevirtual 69, 3) := by decide +kernel
theorem dJx4a65c_grow_d5877_10 : decode cJx4a65c_grow_d5877 10 = .ok (.areturn, 1) := by decide +kernel
theorem dJx4a65c_size_8abf5_0 : decode cJx4a65c_size_8abf5 0 = .ok (.aload_n 0, 1) := by decide +kernel
theorem dJx4a65c_size_8abf5_1 : decode cJx4a65c_size_8abf5 1 = .ok (.getfield 48, 3) := by decide +kernel
theorem dJx4a65c_size_8abf5_4 : decode cJx4a65c_size_8abf5 4 = .ok (.ireturn, 1) := by decide +kernel
theorem dJx4a65c_elementData_915e3_0 : decode cJx4a65c_elementData_915e3 0 = .ok (.aload_n 0, 1) := by decide +kernel
theorem dJx4a65c_elementData_915e3_1 : decode cJx4a65c_elementData_915e3 1 = .ok (.getfield 9, 3) := by decide +kernel
theorem dJx4a65c_elementData_915e3_4 : decode cJx4a65c_elementData_915e3 4 = .ok (.iload_n 1, 1) := by decide +kernel
theorem dJx4a65c_elementData_915e3_5 : decode cJx4a65c_elementData_915e3 5 = .ok (.aaload, 1) := by decide +kernel
theorem dJx4a65c_elementData_915e3_6 : decode cJx4a65c_elementData_915e3 6 = .ok (.areturn, 1) := by decide +kernel
theorem dJx4a65c_get_915e3_0 : decode cJx4a65c_get_915e3 0 = .ok (.iload_n 1, 1) := by decide +kernel
theorem dJx4a65c_get_915e3_1 : decode cJx4a65c_get_915e3 1 = .ok (.aload_n 0, 1) := by decide +kernel
theorem dJx4a65c_get_915e3_2 : decode cJx4a65c_get_915e3 2 = .ok (.getfield 48, 3) := by decide +kernel
theorem dJx4a65c_get_915e3_5 : decode cJx4a65c_get_915e3 5 = .ok (.invokestatic 118, 3) := by decide +kernel
theorem dJx4a65c_get_915e3_8 : decode cJx4a65c_get_915e3 8 = .ok (.pop, 1) := by decide +kernel
theorem dJx4a65c_get_915e3_9 : decode cJx4a65c_get_915e3 9 = .ok (.aload_n 0, 1) := by decide +kernel
theorem dJx4a65c_get_915e3_10 : decode cJx4a65c_get_915e3 10 = .ok (.iload_n 1, 1) := by decide +kernel
theorem dJx4a65c_get_915e3_11 : decode cJx4a65c_get_915e3 11 = .ok (.invokevirtual 123, 3) := by decide +kernel
theorem dJx4a65c_get_915e3_14 : decode cJx4a65c_get_915e3 14 = .ok (.areturn, 1) := by decide +kernel
theorem dJx4a65c_add_72be8_0 : decode cJx4a65c_add_72be8 0 = .ok (.iload_n 3, 1) := by decide +kernel
theorem dJx4a65c_add_72be8_1 : decode cJx4a65c_add_72be8 1 = .ok (.aload_n 2, 1) := by decide +kernel
theorem dJx4a65c_add_72be8_2 : decode cJx4a65c_add_72be8 2 = .ok (.arraylength, 1) := by decide +kernel
theorem dJx4a65c_add_72be8_3 : decode cJx4a65c_add_72be8 3 = .ok (.if_icmp .ne 8, 3) := by decide +kernel
theorem dJx4a65c_add_72be8_6 : decode cJx4a65c_add_72be8 6 = .ok (.aload_n 0, 1) := by decide +kernel
theorem dJx4a65c_add_72be8_7 : decode cJx4a65c_add_72be8 7 = .ok (.invokevirtual 129, 3) := by decide +kernel
theorem dJx4a65c_add_72be8_10 : decode cJx4a65c_add_72be8 10 = .ok (.astore_n 2, 1) := by decide +kernel
theorem dJx4a65c_add_72be8_11 : decode cJx4a65c_add_72be8 11 = .ok (.aload_n 2, 1) := by decide +kernel
theorem dJx4a65c_add_72be8_12 : decode cJx4a65c_add_72be8 12 = .ok (.iload_n 3, 1) := by decide +kernel
theorem dJx4a65c_add_72be8_13 : decode cJx4a65c_add_72be8 13 = .ok (.aload_n 1, 1) := by decide +kernel
theorem dJx4a65c_add_72be8_14 : decode cJx4a65c_add_72be8 14 = .ok (.aastore, 1) := by decide +kernel
theorem dJx4a65c_add_72be8_15 : decode cJx4a65c_add_72be8 15 = .ok (.aload_n 0, 1) := by decide +kernel
theorem dJx4a65c_add_72be8_16 : decode cJx4a65c_add_72be8 16 = .ok (.iload_n 3, 1) := by decide +kernel
theorem dJx4a65c_add_72be8_17 : decode cJx4a65c_add_72be8 17 = .ok (.iconst 1, 1) := by decide +kernel
theorem dJx4a65c_add_72be8_18 : decode cJx4a65c_add_72be8 18 = .ok (.iadd, 1) := by decide +kernel
theorem dJx4a65c_add_72be8_19 : decode cJx4a65c_add_72be8 19 = .ok (.putfield 48, 3) := by decide +kernel
theorem dJx4a65c_add_72be8_22 : decode cJx4a65c_add_72be8 22 = .ok (.return_, 1) := by decide +kernel
theorem dJx4a65c_add_9ea2d_0 : decode cJx4a65c_add_9ea2d 0 = .ok (.aload_n 0, 1) := by decide +kernel
theorem dJx4a65c_add_9ea2d_1 : decode cJx4a65c_add_9ea2d 1 = .ok (.dup, 1) := by decide +kernel
theorem dJx4a65c_add_9ea2d_2 : decode cJx4a65c_add_9ea2d 2 = .ok (.getfield 63, 3) := by decide +kernel
theorem dJx4a65c_add_9ea2d_5 : decode cJx4a65c_add_9ea2d 5 = .ok (.iconst 1, 1) := by decide +kernel
theorem dJx4a65c_add_9ea2d_6 : decode cJx4a65c_add_9ea2d 6 = .ok (.iadd, 1) := by decide +kernel
theorem dJx4a65c_add_9ea2d_7 : decode cJx4a65c_add_9ea2d 7 = .ok (.putfield 63, 3) := by decide +kernel
theorem dJx4a65c_add_9ea2d_10 : decode cJx4a65c_add_9ea2d 10 = .ok (.aload_n 0, 1) := by decide +kernel
theorem dJx4a65c_add_9ea2d_11 : decode cJx4a65c_add_9ea2d 11 = .ok (.aload_n 1, 1) := by decide +kernel
theorem dJx4a65c_add_9ea2d_12 : decode cJx4a65c_add_9ea2d 12 = .ok (.aload_n 0, 1) := by decide +kernel
theorem dJx4a65c_add_9ea2d_13 : decode cJx4a65c_add_9ea2d 13 = .ok (.getfield 9, 3) := by decide +kernel
theorem dJx4a65c_add_9ea2d_16 : decode cJx4a65c_add_9ea2d 16 = .ok (.aload_n 0, 1) := by decide +kernel
theorem dJx4a65c_add_9ea2d_17 : decode cJx4a65c_add_9ea2d 17 = .ok (.getfield 48, 3) := by decide +kernel
theorem dJx4a65c_add_9ea2d_20 : decode cJx4a65c_add_9ea2d 20 = .ok (.invokevirtual 131, 3) := by decide +kernel
theorem dJx4a65c_add_9ea2d_23 : decode cJx4a65c_add_9ea2d 23 = .ok (.iconst 1, 1) := by decide +kernel
theorem dJx4a65c_add_9ea2d_24 : decode cJx4a65c_add_9ea2d 24 = .ok (.ireturn, 1) := by decide +kernel
theorem dJx4a65c_remove_915e3_0 : decode cJx4a65c_remove_915e3 0 = .ok (.iload_n 1, 1) := by decide +kernel
theorem dJx4a65c_remove_915e3_1 : decode cJx4a65c_remove_915e3 1 = .ok (.aload_n 0, 1) := by decide +kernel
theorem dJx4a65c_remove_915e3_2 : decode cJx4a65c_remove_915e3 2 = .ok (.getfield 48, 3) := by decide +kernel
theorem dJx4a65c_remove_915e3_5 : decode cJx4a65c_remove_915e3 5 = .ok (.invokestatic 118, 3) := by decide +kernel
theorem dJx4a65c_remove_915e3_8 : decode cJx4a65c_remove_915e3 8 = .ok (.pop, 1) := by decide +kernel
theorem dJx4a65c_remove_915e3_9 : decode cJx4a65c_remove_915e3 9 = .ok (.aload_n 0, 1) := by decide +kernel
theorem dJx4a65c_remove_915e3_10 : decode cJx4a65c_remove_915e3 10 = .ok (.getfield 9, 3) := by decide +kernel
theorem dJx4a65c_remove_915e3_13 : decode cJx4a65c_remove_915e3 13 = .ok (.astore_n 2, 1) := by decide +kernel
theorem dJx4a65c_remove_915e3_14 : decode cJx4a65c_remove_915e3 14 = .ok (.aload_n 2, 1) := by decide +kernel
theorem dJx4a65c_remove_915e3_15 : decode cJx4a65c_remove_915e3 15 = .ok (.iload_n 1, 1) := by decide +kernel
theorem dJx4a65c_remove_915e3_16 : decode cJx4a65c_remove_915e3 16 = .ok (.aaload, 1) := by decide +kernel
theorem dJx4a65c_remove_915e3_17 : decode cJx4a65c_remove_915e3 17 = .ok (.astore_n 3, 1) := by decide +kernel
theorem dJx4a65c_remove_915e3_18 : decode cJx4a65c_remove_915e3 18 = .ok (.aload_n 0, 1) := by decide +kernel
theorem dJx4a65c_remove_915e3_19 : decode cJx4a65c_remove_915e3 19 = .ok (.aload_n 2, 1) := by decide +kernel
theorem dJx4a65c_remove_915e3_20 : decode cJx4a65c_remove_915e3 20 = .ok (.iload_n 1, 1) := by decide +kernel
theorem dJx4a65c_remove_915e3_21 : decode cJx4a65c_remove_915e3 21 = .ok (.invokevirtual 144, 3) := by decide +kernel
theorem dJx4a65c_remove_915e3_24 : decode cJx4a65c_remove_915e3 24 = .ok (.aload_n 3, 1) := by decide +kernel
theorem dJx4a65c_remove_915e3_25 : decode cJx4a65c_remove_915e3 25 = .ok (.areturn, 1) := by decide +kernel
theorem dJx4a65c_fastRemove_b59b0_0 : decode cJx4a65c_fastRemove_b59b0 0 = .ok (.aload_n 0, 1) := by decide +kernel
theorem dJx4a65c_fastRemove_b59b0_1 : decode cJx4a65c_fastRemove_b59b0 1 = .ok (.dup, 1) := by decide +kernel
theorem dJx4a65c_fastRemove_b59b0_2 : decode cJx4a65c_fastRemove_b59b0 2 = .ok (.getfield 63, 3) := by decide +kernel
theorem dJx4a65c_fastRemove_b59b0_5 : decode cJx4a65c_fastRemove_b59b0 5 = .ok (.iconst 1, 1) := by decide +kernel
theorem dJx4a65c_fastRemove_b59b0_6 : decode cJx4a65c_fastRemove_b59b0 6 = .ok (.iadd, 1) := by decide +kernel
theorem dJx4a65c_fastRemove_b59b0_7 : decode cJx4a65c_fastRemove_b59b0 7 = .ok (.putfield 63, 3) := by decide +kernel
theorem dJx4a65c_fastRemove_b59b0_10 : decode cJx4a65c_fastRemove_b59b0 10 = .ok (.aload_n 0, 1) := by decide +kernel
theorem dJx4a65c_fastRemove_b59b0_11 : decode cJx4a65c_fastRemove_b59b0 11 = .ok (.getfield 48, 3) := by decide +kernel
theorem dJx4a65c_fastRemove_b59b0_14 : decode cJx4a65c_fastRemove_b59b0 14 = .ok (.iconst 1, 1) := by decide +kernel
theorem dJx4a65c_fastRemove_b59b0_15 : decode cJx4a65c_fastRemove_b59b0 15 = .ok (.isub, 1) := by decide +kernel
theorem dJx4a65c_fastRemove_b59b0_16 : decode cJx4a65c_fastRemove_b59b0 16 = .ok (.dup, 1) := by decide +kernel
theorem dJx4a65c_fastRemove_b59b0_17 : decode cJx4a65c_fastRemove_b59b0 17 = .ok (.istore_n 3, 1) := by decide +kernel
theorem dJx4a65c_fastRemove_b59b0_18 : decode cJx4a65c_fastRemove_b59b0 18 = .ok (.iload_n 2, 1) := by decide +kernel
theorem dJx4a65c_fastRemove_b59b0_19 : decode cJx4a65c_fastRemove_b59b0 19 = .ok (.if_icmp .le 15, 3) := by decide +kernel
theorem dJx4a65c_fastRemove_b59b0_22 : decode cJx4a65c_fastRemove_b59b0 22 = .ok (.aload_n 1, 1) := by decide +kernel
theorem dJx4a65c_fastRemove_b59b0_23 : decode cJx4a65c_fastRemove_b59b0 23 = .ok (.iload_n 2, 1) := by decide +kernel
theorem dJx4a65c_fastRemove_b59b0_24 : decode cJx4a65c_fastRemove_b59b0 24 = .ok (.iconst 1, 1) := by decide +kernel
theorem dJx4a65c_fastRemove_b59b0_25 : decode cJx4a65c_fastRemove_b59b0 25 = .ok (.iadd, 1) := by decide +kernel
theorem dJx4a65c_fastRemove_b59b0_26 : decode cJx4a65c_fastRemove_b59b0 26 = .ok (.aload_n 1, 1) := by decide +kernel
theorem dJx4a65c_fastRemove_b59b0_27 : decode cJx4a65c_fastRemove_b59b0 27 = .ok (.iload_n 2, 1) := by decide +kernel
theorem dJx4a65c_fastRemove_b59b0_28 : decode cJx4a65c_fastRemove_b59b0 28 = .ok (.iload_n 3, 1) := by decide +kernel
theorem dJx4a65c_fastRemove_b59b0_29 : decode cJx4a65c_fastRemove_b59b0 29 = .ok (.iload_n 2, 1) := by decide +kernel
theorem dJx4a65c_fastRemove_b59b0_30 : decode cJx4a65c_fastRemove_b59b0 30 = .ok (.isub, 1) := by decide +kernel
theorem dJx4a65c_fastRemove_b59b0_31 : decode cJx4a65c_fastRemove_b59b0 31 = .ok (.invokestatic 112, 3) := by decide +kernel
theorem dJx4a65c_fastRemove_b59b0_34 : decode cJx4a65c_fastRemove_b59b0 34 = .ok (.aload_n 1, 1) := by decide +kernel
theorem dJx4a65c_fastRemove_b59b0_35 : decode cJx4a65c_fastRemove_b59b0 35 = .ok (.aload_n 0, 1) := by decide +kernel
theorem dJx4a65c_fastRemove_b59b0_36 : decode cJx4a65c_fastRemove_b59b0 36 = .ok (.iload_n 3, 1) := by decide +kernel
theorem dJx4a65c_fastRemove_b59b0_37 : decode cJx4a65c_fastRemove_b59b0 37 = .ok (.dup_x1, 1) := by decide +kernel
theorem dJx4a65c_fastRemove_b59b0_38 : decode cJx4a65c_fastRemove_b59b0 38 = .ok (.putfield 48, 3) := by decide +kernel
theorem dJx4a65c_fastRemove_b59b0_41 : decode cJx4a65c_fastRemove_b59b0 41 = .ok (.aconst_null, 1) := by decide +kernel
theorem dJx4a65c_fastRemove_b59b0_42 : decode cJx4a65c_fastRemove_b59b0 42 = .ok (.aastore, 1) := by decide +kernel
theorem dJx4a65c_fastRemove_b59b0_43 : decode cJx4a65c_fastRemove_b59b0 43 = .ok (.return_, 1) := by decide +kernel
theorem dJ7_fill_53178_0 : decode cJ7_fill_53178 0 = .ok (.iconst 0, 1) := by decide +kernel
theorem dJ7_fill_53178_1 : decode cJ7_fill_53178 1 = .ok (.istore_n 2, 1) := by decide +kernel
theorem dJ7_fill_53178_2 : decode cJ7_fill_53178 2 = .ok (.aload_n 0, 1) := by decide +kernel
theorem dJ7_fill_53178_3 : decode cJ7_fill_53178 3 = .ok (.arraylength, 1) := by decide +kernel
theorem dJ7_fill_53178_4 : decode cJ7_fill_53178 4 = .ok (.istore_n 3, 1) := by decide +kernel
theorem dJ7_fill_53178_5 : decode cJ7_fill_53178 5 = .ok (.iload_n 2, 1) := by decide +kernel
theorem dJ7_fill_53178_6 : decode cJ7_fill_53178 6 = .ok (.iload_n 3, 1) := by decide +kernel
theorem dJ7_fill_53178_7 : decode cJ7_fill_53178 7 = .ok (.if_icmp .ge 13, 3) := by decide +kernel
theorem dJ7_fill_53178_10 : decode cJ7_fill_53178 10 = .ok (.aload_n 0, 1) := by decide +kernel
theorem dJ7_fill_53178_11 : decode cJ7_fill_53178 11 = .ok (.iload_n 2, 1) := by decide +kernel
theorem dJ7_fill_53178_12 : decode cJ7_fill_53178 12 = .ok (.iload_n 1, 1) := by decide +kernel
theorem dJ7_fill_53178_13 : decode cJ7_fill_53178 13 = .ok (.iastore, 1) := by decide +kernel
theorem dJ7_fill_53178_14 : decode cJ7_fill_53178 14 = .ok (.iinc 2 1, 3) := by decide +kernel
theorem dJ7_fill_53178_17 : decode cJ7_fill_53178 17 = .ok (.goto (-12), 3) := by decide +kernel
theorem dJ7_fill_53178_20 : decode cJ7_fill_53178 20 = .ok (.return_, 1) := by decide +kernel
theorem dJ7_copyOf_1904c_0 : decode cJ7_copyOf_1904c 0 = .ok (.aload_n 0, 1) := by decide +kernel
theorem dJ7_copyOf_1904c_1 : decode cJ7_copyOf_1904c 1 = .ok (.iload_n 1, 1) := by decide +kernel
theorem dJ7_copyOf_1904c_2 : decode cJ7_copyOf_1904c 2 = .ok (.aload_n 0, 1) := by decide +kernel
theorem dJ7_copyOf_1904c_3 : decode cJ7_copyOf_1904c 3 = .ok (.invokevirtual 86, 3) := by decide +kernel
theorem dJ7_copyOf_1904c_6 : decode cJ7_copyOf_1904c 6 = .ok (.invokestatic 300, 3) := by decide +kernel
theorem dJ7_copyOf_1904c_9 : decode cJ7_copyOf_1904c 9 = .ok (.areturn, 1) := by decide +kernel
theorem dJ7_copyOf_6403c_0 : decode cJ7_copyOf_6403c 0 = .ok (.aload_n 2, 1) := by decide +kernel
theorem dJ7_copyOf_6403c_1 : decode cJ7_copyOf_6403c 1 = .ok (.ldc 110, 2) := by decide +kernel
theorem dJ7_copyOf_6403c_3 : decode cJ7_copyOf_6403c 3 = .ok (.if_acmp .ne 10, 3) := by decide +kernel
theorem dJ7_copyOf_6403c_6 : decode cJ7_copyOf_6403c 6 = .ok (.iload_n 1, 1) := by decide +kernel
theorem dJ7_copyOf_6403c_7 : decode cJ7_copyOf_6403c 7 = .ok (.anewarray 2, 3) := by decide +kernel
theorem dJ7_copyOf_6403c_10 : decode cJ7_copyOf_6403c 10 = .ok (.goto 14, 3) := by decide +kernel
theorem dJ7_copyOf_6403c_13 : decode cJ7_copyOf_6403c 13 = .ok (.aload_n 2, 1) := by decide +kernel
theorem dJ7_copyOf_6403c_14 : decode cJ7_copyOf_6403c 14 = .ok (.invokevirtual 90, 3) := by decide +kernel
theorem dJ7_copyOf_6403c_17 : decode cJ7_copyOf_6403c 17 = .ok (.iload_n 1, 1) := by decide +kernel
theorem dJ7_copyOf_6403c_18 : decode cJ7_copyOf_6403c 18 = .ok (.invokestatic 95, 3) := by decide +kernel
theorem dJ7_copyOf_6403c_21 : decode cJ7_copyOf_6403c 21 = .ok (.checkcast 110, 3) := by decide +kernel
theorem dJ7_copyOf_6403c_24 : decode cJ7_copyOf_6403c 24 = .ok (.astore_n 3, 1) := by decide +kernel
theorem dJ7_copyOf_6403c_25 : decode cJ7_copyOf_6403c 25 = .ok (.aload_n 0, 1) := by decide +kernel
theorem dJ7_copyOf_6403c_26 : decode cJ7_copyOf_6403c 26 = .ok (.iconst 0, 1) := by decide +kernel
theorem dJ7_copyOf_6403c_27 : decode cJ7_copyOf_6403c 27 = .ok (.aload_n 3, 1) := by decide +kernel
theorem dJ7_copyOf_6403c_28 : decode cJ7_copyOf_6403c 28 = .ok (.iconst 0, 1) := by decide +kernel
theorem dJ7_copyOf_6403c_29 : decode cJ7_copyOf_6403c 29 = .ok (.aload_n 0, 1) := by decide +kernel
theorem dJ7_copyOf_6403c_30 : decode cJ7_copyOf_6403c 30 = .ok (.arraylength, 1) := by decide +kernel
theorem dJ7_copyOf_6403c_31 : decode cJ7_copyOf_6403c 31 = .ok (.iload_n 1, 1) := by decide +kernel
theorem dJ7_copyOf_6403c_32 : decode cJ7_copyOf_6403c 32 = .ok (.invokestatic 304, 3) := by decide +kernel
theorem dJ7_copyOf_6403c_35 : decode cJ7_copyOf_6403c 35 = .ok (.invokestatic 150, 3) := by decide +kernel
theorem dJ7_copyOf_6403c_38 : decode cJ7_copyOf_6403c 38 = .ok (.aload_n 3, 1) := by decide +kernel
theorem dJ7_copyOf_6403c_39 : decode cJ7_copyOf_6403c 39 = .ok (.areturn, 1) := by decide +kernel
theorem dJ15_checkIndex_7cf53_0 : decode cJ15_checkIndex_7cf53 0 = .ok (.iload_n 0, 1) := by decide +kernel
theorem dJ15_checkIndex_7cf53_1 : decode cJ15_checkIndex_7cf53 1 = .ok (.iload_n 1, 1) := by decide +kernel
theorem dJ15_checkIndex_7cf53_2 : decode cJ15_checkIndex_7cf53 2 = .ok (.aconst_null, 1) := by decide +kernel
theorem dJ15_checkIndex_7cf53_3 : decode cJ15_checkIndex_7cf53 3 = .ok (.invokestatic 105, 3) := by decide +kernel
theorem dJ15_checkIndex_7cf53_6 : decode cJ15_checkIndex_7cf53 6 = .ok (.ireturn, 1) := by decide +kernel
theorem dJ8_newLength_cabcc_0 : decode cJ8_newLength_cabcc 0 = .ok (.iload_n 0, 1) := by decide +kernel
theorem dJ8_newLength_cabcc_1 : decode cJ8_newLength_cabcc 1 = .ok (.iload_n 1, 1) := by decide +kernel
theorem dJ8_newLength_cabcc_2 : decode cJ8_newLength_cabcc 2 = .ok (.iload_n 2, 1) := by decide +kernel
theorem dJ8_newLength_cabcc_3 : decode cJ8_newLength_cabcc 3 = .ok (.invokestatic 194, 3) := by decide +kernel
theorem dJ8_newLength_cabcc_6 : decode cJ8_newLength_cabcc 6 = .ok (.iadd, 1) := by decide +kernel
theorem dJ8_newLength_cabcc_7 : decode cJ8_newLength_cabcc 7 = .ok (.istore_n 3, 1) := by decide +kernel
theorem dJ8_newLength_cabcc_8 : decode cJ8_newLength_cabcc 8 = .ok (.iconst 0, 1) := by decide +kernel
theorem dJ8_newLength_cabcc_9 : decode cJ8_newLength_cabcc 9 = .ok (.iload_n 3, 1) := by decide +kernel
theorem dJ8_newLength_cabcc_10 : decode cJ8_newLength_cabcc 10 = .ok (.if_icmp .ge 11, 3) := by decide +kernel
theorem dJ8_newLength_cabcc_13 : decode cJ8_newLength_cabcc 13 = .ok (.iload_n 3, 1) := by decide +kernel
theorem dJ8_newLength_cabcc_14 : decode cJ8_newLength_cabcc 14 = .ok (.ldc 200, 2) := by decide +kernel
theorem dJ8_newLength_cabcc_16 : decode cJ8_newLength_cabcc 16 = .ok (.if_icmp .gt 5, 3) := by decide +kernel
theorem dJ8_newLength_cabcc_19 : decode cJ8_newLength_cabcc 19 = .ok (.iload_n 3, 1) := by decide +kernel
theorem dJ8_newLength_cabcc_20 : decode cJ8_newLength_cabcc 20 = .ok (.ireturn, 1) := by decide +kernel
theorem dJ8_newLength_cabcc_21 : decode cJ8_newLength_cabcc 21 = .ok (.iload_n 0, 1) := by decide +kernel
theorem dJ8_newLength_cabcc_22 : decode cJ8_newLength_cabcc 22 = .ok (.iload_n 1, 1) := by decide +kernel
theorem dJ8_newLength_cabcc_23 : decode cJ8_newLength_cabcc 23 = .ok (.invokestatic 201, 3) := by decide +kernel
theorem dJ8_newLength_cabcc_26 : decode cJ8_newLength_cabcc 26 = .ok (.ireturn, 1) := by decide +kernel
theorem dJ8_hugeLength_7cf53_0 : decode cJ8_hugeLength_7cf53 0 = .ok (.iload_n 0, 1) := by decide +kernel
theorem dJ8_hugeLength_7cf53_1 : decode cJ8_hugeLength_7cf53 1 = .ok (.iload_n 1, 1) := by decide +kernel
theorem dJ8_hugeLength_7cf53_2 : decode cJ8_hugeLength_7cf53 2 = .ok (.iadd, 1) := by decide +kernel
theorem dJ8_hugeLength_7cf53_3 : decode cJ8_hugeLength_7cf53 3 = .ok (.istore_n 2, 1) := by decide +kernel
theorem dJ8_hugeLength_7cf53_4 : decode cJ8_hugeLength_7cf53 4 = .ok (.iload_n 2, 1) := by decide +kernel
theorem dJ8_hugeLength_7cf53_5 : decode cJ8_hugeLength_7cf53 5 = .ok (.ifCond .ge 44, 3) := by decide +kernel
theorem dJ8_hugeLength_7cf53_8 : decode cJ8_hugeLength_7cf53 8 = .ok (.new 204, 3) := by decide +kernel
theorem dJ8_hugeLength_7cf53_11 : decode cJ8_hugeLength_7cf53 11 = .ok (.dup, 1) := by decide +kernel
theorem dJ8_hugeLength_7cf53_12 : decode cJ8_hugeLength_7cf53 12 = .ok (.new 89, 3) := by decide +kernel
theorem dJ8_hugeLength_7cf53_15 : decode cJ8_hugeLength_7cf53 15 = .ok (.dup, 1) := by decide +kernel
theorem dJ8_hugeLength_7cf53_16 : decode cJ8_hugeLength_7cf53 16 = .ok (.invokespecial 91, 3) := by decide +kernel
theorem dJ8_hugeLength_7cf53_19 : decode cJ8_hugeLength_7cf53 19 = .ok (.ldc 206, 2) := by decide +kernel
theorem dJ8_hugeLength_7cf53_21 : decode cJ8_hugeLength_7cf53 21 = .ok (.invokevirtual 94, 3) := by decide +kernel
theorem dJ8_hugeLength_7cf53_24 : decode cJ8_hugeLength_7cf53 24 = .ok (.iload_n 0, 1) := by decide +kernel
theorem dJ8_hugeLength_7cf53_25 : decode cJ8_hugeLength_7cf53 25 = .ok (.invokevirtual 98, 3) := by decide +kernel
theorem dJ8_hugeLength_7cf53_28 : decode cJ8_hugeLength_7cf53 28 = .ok (.ldc 208, 2) := by decide +kernel
theorem dJ8_hugeLength_7cf53_30 : decode cJ8_hugeLength_7cf53 30 = .ok (.invokevirtual 94, 3) := by decide +kernel
theorem dJ8_hugeLength_7cf53_33 : decode cJ8_hugeLength_7cf53 33 = .ok (.iload_n 1, 1) := by decide +kernel
theorem dJ8_hugeLength_7cf53_34 : decode cJ8_hugeLength_7cf53 34 = .ok (.invokevirtual 98, 3) := by decide +kernel
theorem dJ8_hugeLength_7cf53_37 : decode cJ8_hugeLength_7cf53 37 = .ok (.ldc 210, 2) := by decide +kernel
theorem dJ8_hugeLength_7cf53_39 : decode cJ8_hugeLength_7cf53 39 = .ok (.invokevirtual 94, 3) := by decide +kernel
theorem dJ8_hugeLength_7cf53_42 : decode cJ8_hugeLength_7cf53 42 = .ok (.invokevirtual 101, 3) := by decide +kernel
theorem dJ8_hugeLength_7cf53_45 : decode cJ8_hugeLength_7cf53 45 = .ok (.invokespecial 212, 3) := by decide +kernel
theorem dJ8_hugeLength_7cf53_48 : decode cJ8_hugeLength_7cf53 48 = .ok (.athrow, 1) := by decide +kernel
theorem dJ8_hugeLength_7cf53_49 : decode cJ8_hugeLength_7cf53 49 = .ok (.iload_n 2, 1) := by decide +kernel
theorem dJ8_hugeLength_7cf53_50 : decode cJ8_hugeLength_7cf53 50 = .ok (.ldc 200, 2) := by decide +kernel
theorem dJ8_hugeLength_7cf53_52 : decode cJ8_hugeLength_7cf53 52 = .ok (.if_icmp .gt 6, 3) := by decide +kernel
theorem dJ8_hugeLength_7cf53_55 : decode cJ8_hugeLength_7cf53 55 = .ok (.ldc 200, 2) := by decide +kernel
theorem dJ8_hugeLength_7cf53_57 : decode cJ8_hugeLength_7cf53 57 = .ok (.ireturn, 1) := by decide +kernel
theorem dJ8_hugeLength_7cf53_58 : decode cJ8_hugeLength_7cf53 58 = .ok (.iload_n 2, 1) := by decide +kernel
theorem dJ8_hugeLength_7cf53_59 : decode cJ8_hugeLength_7cf53 59 = .ok (.ireturn, 1) := by decide +kernel
theorem dJ3_checkIndex_8e157_0 : decode cJ3_checkIndex_8e157 0 = .ok (.iload_n 0, 1) := by decide +kernel
theorem dJ3_checkIndex_8e157_1 : decode cJ3_checkIndex_8e157 1 = .ok (.ifCond .lt 8, 3) := by decide +kernel
theorem dJ3_checkIndex_8e157_4 : decode cJ3_checkIndex_8e157 4 = .ok (.iload_n 0, 1) := by decide +kernel
theorem dJ3_checkIndex_8e157_5 : decode cJ3_checkIndex_8e157 5 = .ok (.iload_n 1, 1) := by decide +kernel
theorem dJ3_checkIndex_8e157_6 : decode cJ3_checkIndex_8e157 6 = .ok (.if_icmp .lt 10, 3) := by decide +kernel
theorem dJ3_checkIndex_8e157_9 : decode cJ3_checkIndex_8e157 9 = .ok (.aload_n 2, 1) := by decide +kernel
theorem dJ3_checkIndex_8e157_10 : decode cJ3_checkIndex_8e157 10 = .ok (.iload_n 0, 1) := by decide +kernel
theorem dJ3_checkIndex_8e157_11 : decode cJ3_checkIndex_8e157 11 = .ok (.iload_n 1, 1) := by decide +kernel
theorem dJ3_checkIndex_8e157_12 : decode cJ3_checkIndex_8e157 12 = .ok (.invokestatic 95, 3) := by decide +kernel
theorem dJ3_checkIndex_8e157_15 : decode cJ3_checkIndex_8e157 15 = .ok (.athrow, 1) := by decide +kernel
theorem dJ3_checkIndex_8e157_16 : decode cJ3_checkIndex_8e157 16 = .ok (.iload_n 0, 1) := by decide +kernel
theorem dJ3_checkIndex_8e157_17 : decode cJ3_checkIndex_8e157 17 = .ok (.ireturn, 1) := by decide +kernel
theorem dL_unit_0 : decode cL_unit 0 = .ok (.aload_n 3, 1) := by decide +kernel
theorem dL_unit_1 : decode cL_unit 1 = .ok (.iconst 0, 1) := by decide +kernel
theorem dL_unit_2 : decode cL_unit 2 = .ok (.aload_n 0, 1) := by decide +kernel
theorem dL_unit_3 : decode cL_unit 3 = .ok (.iload_n 1, 1) := by decide +kernel
theorem dL_unit_4 : decode cL_unit 4 = .ok (.iload_n 2, 1) := by decide +kernel
theorem dL_unit_5 : decode cL_unit 5 = .ok (.invokevirtual 7, 3) := by decide +kernel
theorem dL_unit_8 : decode cL_unit 8 = .ok (.i2l, 1) := by decide +kernel
theorem dL_unit_9 : decode cL_unit 9 = .ok (.lastore, 1) := by decide +kernel
theorem dL_unit_10 : decode cL_unit 10 = .ok (.goto 15, 3) := by decide +kernel
theorem dL_unit_13 : decode cL_unit 13 = .ok (.astore 4, 2) := by decide +kernel
theorem dL_unit_15 : decode cL_unit 15 = .ok (.iconst 1, 1) := by decide +kernel
theorem dL_unit_16 : decode cL_unit 16 = .ok (.ireturn, 1) := by decide +kernel
theorem dL_unit_17 : decode cL_unit 17 = .ok (.astore 4, 2) := by decide +kernel
theorem dL_unit_19 : decode cL_unit 19 = .ok (.iconst 2, 1) := by decide +kernel
theorem dL_unit_20 : decode cL_unit 20 = .ok (.ireturn, 1) := by decide +kernel
theorem dL_unit_21 : decode cL_unit 21 = .ok (.astore 4, 2) := by decide +kernel
theorem dL_unit_23 : decode cL_unit 23 = .ok (.iconst 3, 1) := by decide +kernel
theorem dL_unit_24 : decode cL_unit 24 = .ok (.ireturn, 1) := by decide +kernel
theorem dL_unit_25 : decode cL_unit 25 = .ok (.iconst 0, 1) := by decide +kernel
theorem dL_unit_26 : decode cL_unit 26 = .ok (.ireturn, 1) := by decide +kernel
theorem dL_diagram_0 : decode cL_diagram 0 = .ok (.aload 6, 2) := by decide +kernel
theorem dL_diagram_2 : decode cL_diagram 2 = .ok (.iconst 0, 1) := by decide +kernel
theorem dL_diagram_3 : decode cL_diagram 3 = .ok (.aload_n 0, 1) := by decide +kernel
theorem dL_diagram_4 : decode cL_diagram 4 = .ok (.iload_n 1, 1) := by decide +kernel
theorem dL_diagram_5 : decode cL_diagram 5 = .ok (.iload_n 2, 1) := by decide +kernel
theorem dL_diagram_6 : decode cL_diagram 6 = .ok (.iload_n 3, 1) := by decide +kernel
theorem dL_diagram_7 : decode cL_diagram 7 = .ok (.iload 4, 2) := by decide +kernel
theorem dL_diagram_9 : decode cL_diagram 9 = .ok (.iload 5, 2) := by decide +kernel
theorem dL_diagram_11 : decode cL_diagram 11 = .ok (.invokevirtual 19, 3) := by decide +kernel
theorem dL_diagram_14 : decode cL_diagram 14 = .ok (.i2l, 1) := by decide +kernel
theorem dL_diagram_15 : decode cL_diagram 15 = .ok (.lastore, 1) := by decide +kernel
theorem dL_diagram_16 : decode cL_diagram 16 = .ok (.goto 15, 3) := by decide +kernel
theorem dL_diagram_19 : decode cL_diagram 19 = .ok (.astore 7, 2) := by decide +kernel
theorem dL_diagram_21 : decode cL_diagram 21 = .ok (.iconst 1, 1) := by decide +kernel
theorem dL_diagram_22 : decode cL_diagram 22 = .ok (.ireturn, 1) := by decide +kernel
theorem dL_diagram_23 : decode cL_diagram 23 = .ok (.astore 7, 2) := by decide +kernel
theorem dL_diagram_25 : decode cL_diagram 25 = .ok (.iconst 2, 1) := by decide +kernel
theorem dL_diagram_26 : decode cL_diagram 26 = .ok (.ireturn, 1) := by decide +kernel
theorem dL_diagram_27 : decode cL_diagram 27 = .ok (.astore 7, 2) := by decide +kernel
theorem dL_diagram_29 : decode cL_diagram 29 = .ok (.iconst 3, 1) := by decide +kernel
theorem dL_diagram_30 : decode cL_diagram 30 = .ok (.ireturn, 1) := by decide +kernel
theorem dL_diagram_31 : decode cL_diagram 31 = .ok (.iconst 0, 1) := by decide +kernel
theorem dL_diagram_32 : decode cL_diagram 32 = .ok (.ireturn, 1) := by decide +kernel
theorem dL_exam_0 : decode cL_exam 0 = .ok (.aload 5, 2) := by decide +kernel
theorem dL_exam_2 : decode cL_exam 2 = .ok (.iconst 0, 1) := by decide +kernel
theorem dL_exam_3 : decode cL_exam 3 = .ok (.aload_n 0, 1) := by decide +kernel
theorem dL_exam_4 : decode cL_exam 4 = .ok (.iload_n 1, 1) := by decide +kernel
theorem dL_exam_5 : decode cL_exam 5 = .ok (.iload_n 2, 1) := by decide +kernel
theorem dL_exam_6 : decode cL_exam 6 = .ok (.iload_n 3, 1) := by decide +kernel
theorem dL_exam_7 : decode cL_exam 7 = .ok (.iload 4, 2) := by decide +kernel
theorem dL_exam_9 : decode cL_exam 9 = .ok (.invokevirtual 23, 3) := by decide +kernel
theorem dL_exam_12 : decode cL_exam 12 = .ok (.i2l, 1) := by decide +kernel
theorem dL_exam_13 : decode cL_exam 13 = .ok (.lastore, 1) := by decide +kernel
theorem dL_exam_14 : decode cL_exam 14 = .ok (.goto 11, 3) := by decide +kernel
theorem dL_exam_17 : decode cL_exam 17 = .ok (.astore 6, 2) := by decide +kernel
theorem dL_exam_19 : decode cL_exam 19 = .ok (.iconst 1, 1) := by decide +kernel
theorem dL_exam_20 : decode cL_exam 20 = .ok (.ireturn, 1) := by decide +kernel
theorem dL_exam_21 : decode cL_exam 21 = .ok (.astore 6, 2) := by decide +kernel
theorem dL_exam_23 : decode cL_exam 23 = .ok (.iconst 2, 1) := by decide +kernel
theorem dL_exam_24 : decode cL_exam 24 = .ok (.ireturn, 1) := by decide +kernel
theorem dL_exam_25 : decode cL_exam 25 = .ok (.iconst 0, 1) := by decide +kernel
theorem dL_exam_26 : decode cL_exam 26 = .ok (.ireturn, 1) := by decide +kernel
theorem dL_list_0 : decode cL_list 0 = .ok (.aload 4, 2) := by decide +kernel
theorem dL_list_2 : decode cL_list 2 = .ok (.iconst 0, 1) := by decide +kernel
theorem dL_list_3 : decode cL_list 3 = .ok (.aload_n 0, 1) := by decide +kernel
theorem dL_list_4 : decode cL_list 4 = .ok (.iload_n 1, 1) := by decide +kernel
theorem dL_list_5 : decode cL_list 5 = .ok (.iload_n 2, 1) := by decide +kernel
theorem dL_list_6 : decode cL_list 6 = .ok (.iload_n 3, 1) := by decide +kernel
theorem dL_list_7 : decode cL_list 7 = .ok (.invokevirtual 27, 3) := by decide +kernel
theorem dL_list_10 : decode cL_list 10 = .ok (.i2l, 1) := by decide +kernel
theorem dL_list_11 : decode cL_list 11 = .ok (.lastore, 1) := by decide +kernel
theorem dL_list_12 : decode cL_list 12 = .ok (.goto 11, 3) := by decide +kernel
theorem dL_list_15 : decode cL_list 15 = .ok (.astore 5, 2) := by decide +kernel
theorem dL_list_17 : decode cL_list 17 = .ok (.iconst 1, 1) := by decide +kernel
theorem dL_list_18 : decode cL_list 18 = .ok (.ireturn, 1) := by decide +kernel
theorem dL_list_19 : decode cL_list 19 = .ok (.astore 5, 2) := by decide +kernel
theorem dL_list_21 : decode cL_list 21 = .ok (.iconst 2, 1) := by decide +kernel
theorem dL_list_22 : decode cL_list 22 = .ok (.ireturn, 1) := by decide +kernel
theorem dL_list_23 : decode cL_list 23 = .ok (.iconst 0, 1) := by decide +kernel
theorem dL_list_24 : decode cL_list 24 = .ok (.ireturn, 1) := by decide +kernel
theorem dL_fault_0 : decode cL_fault 0 = .ok (.aload 5, 2) := by decide +kernel
theorem dL_fault_2 : decode cL_fault 2 = .ok (.iconst 0, 1) := by decide +kernel
theorem dL_fault_3 : decode cL_fault 3 = .ok (.aload_n 0, 1) := by decide +kernel
theorem dL_fault_4 : decode cL_fault 4 = .ok (.iload_n 1, 1) := by decide +kernel
theorem dL_fault_5 : decode cL_fault 5 = .ok (.iload_n 2, 1) := by decide +kernel
theorem dL_fault_6 : decode cL_fault 6 = .ok (.iload_n 3, 1) := by decide +kernel
theorem dL_fault_7 : decode cL_fault 7 = .ok (.iload 4, 2) := by decide +kernel
theorem dL_fault_9 : decode cL_fault 9 = .ok (.invokevirtual 31, 3) := by decide +kernel
theorem dL_fault_12 : decode cL_fault 12 = .ok (.i2l, 1) := by decide +kernel
theorem dL_fault_13 : decode cL_fault 13 = .ok (.lastore, 1) := by decide +kernel
theorem dL_fault_14 : decode cL_fault 14 = .ok (.goto 15, 3) := by decide +kernel
theorem dL_fault_17 : decode cL_fault 17 = .ok (.astore 6, 2) := by decide +kernel
theorem dL_fault_19 : decode cL_fault 19 = .ok (.iconst 1, 1) := by decide +kernel
theorem dL_fault_20 : decode cL_fault 20 = .ok (.ireturn, 1) := by decide +kernel
theorem dL_fault_21 : decode cL_fault 21 = .ok (.astore 6, 2) := by decide +kernel
theorem dL_fault_23 : decode cL_fault 23 = .ok (.iconst 2, 1) := by decide +kernel
theorem dL_fault_24 : decode cL_fault 24 = .ok (.ireturn, 1) := by decide +kernel
theorem dL_fault_25 : decode cL_fault 25 = .ok (.astore 6, 2) := by decide +kernel
theorem dL_fault_27 : decode cL_fault 27 = .ok (.iconst 3, 1) := by decide +kernel
theorem dL_fault_28 : decode cL_fault 28 = .ok (.ireturn, 1) := by decide +kernel
theorem dL_fault_29 : decode cL_fault 29 = .ok (.iconst 0, 1) := by decide +kernel
theorem dL_fault_30 : decode cL_fault 30 = .ok (.ireturn, 1) := by decide +kernel
theorem dL_pin_0 : decode cL_pin 0 = .ok (.aload_n 3, 1) := by decide +kernel
theorem dL_pin_1 : decode cL_pin 1 = .ok (.iconst 0, 1) := by decide +kernel
theorem dL_pin_2 : decode cL_pin 2 = .ok (.aload_n 0, 1) := by decide +kernel
theorem dL_pin_3 : decode cL_pin 3 = .ok (.iload_n 1, 1) := by decide +kernel
theorem dL_pin_4 : decode cL_pin 4 = .ok (.iload_n 2, 1) := by decide +kernel
theorem dL_pin_5 : decode cL_pin 5 = .ok (.invokevirtual 34, 3) := by decide +kernel
theorem dL_pin_8 : decode cL_pin 8 = .ok (.i2l, 1) := by decide +kernel
theorem dL_pin_9 : decode cL_pin 9 = .ok (.lastore, 1) := by decide +kernel
theorem dL_pin_10 : decode cL_pin 10 = .ok (.goto 7, 3) := by decide +kernel
theorem dL_pin_13 : decode cL_pin 13 = .ok (.astore 4, 2) := by decide +kernel
theorem dL_pin_15 : decode cL_pin 15 = .ok (.iconst 1, 1) := by decide +kernel
theorem dL_pin_16 : decode cL_pin 16 = .ok (.ireturn, 1) := by decide +kernel
theorem dL_pin_17 : decode cL_pin 17 = .ok (.iconst 0, 1) := by decide +kernel
theorem dL_pin_18 : decode cL_pin 18 = .ok (.ireturn, 1) := by decide +kernel
theorem dL_whyNot_0 : decode cL_whyNot 0 = .ok (.aload_n 3, 1) := by decide +kernel
theorem dL_whyNot_1 : decode cL_whyNot 1 = .ok (.iconst 0, 1) := by decide +kernel
theorem dL_whyNot_2 : decode cL_whyNot 2 = .ok (.aload_n 0, 1) := by decide +kernel
theorem dL_whyNot_3 : decode cL_whyNot 3 = .ok (.iload_n 1, 1) := by decide +kernel
theorem dL_whyNot_4 : decode cL_whyNot 4 = .ok (.iload_n 2, 1) := by decide +kernel
theorem dL_whyNot_5 : decode cL_whyNot 5 = .ok (.invokevirtual 37, 3) := by decide +kernel
theorem dL_whyNot_8 : decode cL_whyNot 8 = .ok (.i2l, 1) := by decide +kernel
theorem dL_whyNot_9 : decode cL_whyNot 9 = .ok (.lastore, 1) := by decide +kernel
theorem dL_whyNot_10 : decode cL_whyNot 10 = .ok (.goto 7, 3) := by decide +kernel
theorem dL_whyNot_13 : decode cL_whyNot 13 = .ok (.astore 4, 2) := by decide +kernel
theorem dL_whyNot_15 : decode cL_whyNot 15 = .ok (.iconst 1, 1) := by decide +kernel
theorem dL_whyNot_16 : decode cL_whyNot 16 = .ok (.ireturn, 1) := by decide +kernel
theorem dL_whyNot_17 : decode cL_whyNot 17 = .ok (.iconst 0, 1) := by decide +kernel
theorem dL_whyNot_18 : decode cL_whyNot 18 = .ok (.ireturn, 1) := by decide +kernel
theorem dL_allocation_0 : decode cL_allocation 0 = .ok (.aload_n 2, 1) := by decide +kernel
theorem dL_allocation_1 : decode cL_allocation 1 = .ok (.iconst 0, 1) := by decide +kernel
theorem dL_allocation_2 : decode cL_allocation 2 = .ok (.aload_n 0, 1) := by decide +kernel
theorem dL_allocation_3 : decode cL_allocation 3 = .ok (.iload_n 1, 1) := by decide +kernel
theorem dL_allocation_4 : decode cL_allocation 4 = .ok (.invokevirtual 40, 3) := by decide +kernel
theorem dL_allocation_7 : decode cL_allocation 7 = .ok (.i2l, 1) := by decide +kernel
theorem dL_allocation_8 : decode cL_allocation 8 = .ok (.lastore, 1) := by decide +kernel
theorem dL_allocation_9 : decode cL_allocation 9 = .ok (.goto 6, 3) := by decide +kernel
theorem dL_allocation_12 : decode cL_allocation 12 = .ok (.astore_n 3, 1) := by decide +kernel
theorem dL_allocation_13 : decode cL_allocation 13 = .ok (.iconst 1, 1) := by decide +kernel
theorem dL_allocation_14 : decode cL_allocation 14 = .ok (.ireturn, 1) := by decide +kernel
theorem dL_allocation_15 : decode cL_allocation 15 = .ok (.iconst 0, 1) := by decide +kernel
theorem dL_allocation_16 : decode cL_allocation 16 = .ok (.ireturn, 1) := by decide +kernel
theorem dL_allocationAnew_0 : decode cL_allocationAnew 0 = .ok (.aload_n 2, 1) := by decide +kernel
theorem dL_allocationAnew_1 : decode cL_allocationAnew 1 = .ok (.iconst 0, 1) := by decide +kernel
theorem dL_allocationAnew_2 : decode cL_allocationAnew 2 = .ok (.aload_n 0, 1) := by decide +kernel
theorem dL_allocationAnew_3 : decode cL_allocationAnew 3 = .ok (.iload_n 1, 1) := by decide +kernel
theorem dL_allocationAnew_4 : decode cL_allocationAnew 4 = .ok (.invokevirtual 44, 3) := by decide +kernel
theorem dL_allocationAnew_7 : decode cL_allocationAnew 7 = .ok (.i2l, 1) := by decide +kernel
theorem dL_allocationAnew_8 : decode cL_allocationAnew 8 = .ok (.lastore, 1) := by decide +kernel
theorem dL_allocationAnew_9 : decode cL_allocationAnew 9 = .ok (.goto 9, 3) := by decide +kernel
theorem dL_allocationAnew_12 : decode cL_allocationAnew 12 = .ok (.astore_n 3, 1) := by decide +kernel
theorem dL_allocationAnew_13 : decode cL_allocationAnew 13 = .ok (.iconst 1, 1) := by decide +kernel
theorem dL_allocationAnew_14 : decode cL_allocationAnew 14 = .ok (.ireturn, 1) := by decide +kernel
theorem dL_allocationAnew_15 : decode cL_allocationAnew 15 = .ok (.astore_n 3, 1) := by decide +kernel
theorem dL_allocationAnew_16 : decode cL_allocationAnew 16 = .ok (.iconst 2, 1) := by decide +kernel
theorem dL_allocationAnew_17 : decode cL_allocationAnew 17 = .ok (.ireturn, 1) := by decide +kernel
theorem dL_allocationAnew_18 : decode cL_allocationAnew 18 = .ok (.iconst 0, 1) := by decide +kernel
theorem dL_allocationAnew_19 : decode cL_allocationAnew 19 = .ok (.ireturn, 1) := by decide +kernel
theorem dL_day_0 : decode cL_day 0 = .ok (.aload_n 1, 1) := by decide +kernel
theorem dL_day_1 : decode cL_day 1 = .ok (.iconst 0, 1) := by decide +kernel
theorem dL_day_2 : decode cL_day 2 = .ok (.aload_n 0, 1) := by decide +kernel
theorem dL_day_3 : decode cL_day 3 = .ok (.invokevirtual 47, 3) := by decide +kernel
theorem dL_day_6 : decode cL_day 6 = .ok (.i2l, 1) := by decide +kernel
theorem dL_day_7 : decode cL_day 7 = .ok (.lastore, 1) := by decide +kernel
theorem dL_day_8 : decode cL_day 8 = .ok (.goto 6, 3) := by decide +kernel
theorem dL_day_11 : decode cL_day 11 = .ok (.astore_n 2, 1) := by decide +kernel
theorem dL_day_12 : decode cL_day 12 = .ok (.iconst 1, 1) := by decide +kernel
theorem dL_day_13 : decode cL_day 13 = .ok (.ireturn, 1) := by decide +kernel
theorem dL_day_14 : decode cL_day 14 = .ok (.iconst 0, 1) := by decide +kernel
theorem dL_day_15 : decode cL_day 15 = .ok (.ireturn, 1) := by decide +kernel
theorem dL_examine_0 : decode cL_examine 0 = .ok (.aload_n 3, 1) := by decide +kernel
theorem dL_examine_1 : decode cL_examine 1 = .ok (.iconst 0, 1) := by decide +kernel
theorem dL_examine_2 : decode cL_examine 2 = .ok (.aload_n 0, 1) := by decide +kernel
theorem dL_examine_3 : decode cL_examine 3 = .ok (.iload_n 1, 1) := by decide +kernel
theorem dL_examine_4 : decode cL_examine 4 = .ok (.iload_n 2, 1) := by decide +kernel
theorem dL_examine_5 : decode cL_examine 5 = .ok (.invokevirtual 51, 3) := by decide +kernel
theorem dL_examine_8 : decode cL_examine 8 = .ok (.i2l, 1) := by decide +kernel
theorem dL_examine_9 : decode cL_examine 9 = .ok (.lastore, 1) := by decide +kernel
theorem dL_examine_10 : decode cL_examine 10 = .ok (.goto 11, 3) := by decide +kernel
theorem dL_examine_13 : decode cL_examine 13 = .ok (.astore 4, 2) := by decide +kernel
theorem dL_examine_15 : decode cL_examine 15 = .ok (.iconst 1, 1) := by decide +kernel
theorem dL_examine_16 : decode cL_examine 16 = .ok (.ireturn, 1) := by decide +kernel
theorem dL_examine_17 : decode cL_examine 17 = .ok (.astore 4, 2) := by decide +kernel
theorem dL_examine_19 : decode cL_examine 19 = .ok (.iconst 2, 1) := by decide +kernel
theorem dL_examine_20 : decode cL_examine 20 = .ok (.ireturn, 1) := by decide +kernel
theorem dL_examine_21 : decode cL_examine 21 = .ok (.iconst 0, 1) := by decide +kernel
theorem dL_examine_22 : decode cL_examine 22 = .ok (.ireturn, 1) := by decide +kernel
theorem dL_lathe_0 : decode cL_lathe 0 = .ok (.aload_n 2, 1) := by decide +kernel
theorem dL_lathe_1 : decode cL_lathe 1 = .ok (.iconst 0, 1) := by decide +kernel
theorem dL_lathe_2 : decode cL_lathe 2 = .ok (.aload_n 0, 1) := by decide +kernel
theorem dL_lathe_3 : decode cL_lathe 3 = .ok (.iload_n 1, 1) := by decide +kernel
theorem dL_lathe_4 : decode cL_lathe 4 = .ok (.invokevirtual 54, 3) := by decide +kernel
theorem dL_lathe_7 : decode cL_lathe 7 = .ok (.i2l, 1) := by decide +kernel
theorem dL_lathe_8 : decode cL_lathe 8 = .ok (.lastore, 1) := by decide +kernel
theorem dL_lathe_9 : decode cL_lathe 9 = .ok (.goto 9, 3) := by decide +kernel
theorem dL_lathe_12 : decode cL_lathe 12 = .ok (.astore_n 3, 1) := by decide +kernel
theorem dL_lathe_13 : decode cL_lathe 13 = .ok (.iconst 1, 1) := by decide +kernel
theorem dL_lathe_14 : decode cL_lathe 14 = .ok (.ireturn, 1) := by decide +kernel
theorem dL_lathe_15 : decode cL_lathe 15 = .ok (.astore_n 3, 1) := by decide +kernel
theorem dL_lathe_16 : decode cL_lathe 16 = .ok (.iconst 2, 1) := by decide +kernel
theorem dL_lathe_17 : decode cL_lathe 17 = .ok (.ireturn, 1) := by decide +kernel
theorem dL_lathe_18 : decode cL_lathe 18 = .ok (.iconst 0, 1) := by decide +kernel
theorem dL_lathe_19 : decode cL_lathe 19 = .ok (.ireturn, 1) := by decide +kernel
theorem dL_mend_0 : decode cL_mend 0 = .ok (.aload_n 3, 1) := by decide +kernel
theorem dL_mend_1 : decode cL_mend 1 = .ok (.iconst 0, 1) := by decide +kernel
theorem dL_mend_2 : decode cL_mend 2 = .ok (.aload_n 0, 1) := by decide +kernel
theorem dL_mend_3 : decode cL_mend 3 = .ok (.iload_n 1, 1) := by decide +kernel
theorem dL_mend_4 : decode cL_mend 4 = .ok (.iload_n 2, 1) := by decide +kernel
theorem dL_mend_5 : decode cL_mend 5 = .ok (.invokevirtual 57, 3) := by decide +kernel
theorem dL_mend_8 : decode cL_mend 8 = .ok (.i2l, 1) := by decide +kernel
theorem dL_mend_9 : decode cL_mend 9 = .ok (.lastore, 1) := by decide +kernel
theorem dL_mend_10 : decode cL_mend 10 = .ok (.goto 11, 3) := by decide +kernel
theorem dL_mend_13 : decode cL_mend 13 = .ok (.astore 4, 2) := by decide +kernel
theorem dL_mend_15 : decode cL_mend 15 = .ok (.iconst 1, 1) := by decide +kernel
theorem dL_mend_16 : decode cL_mend 16 = .ok (.ireturn, 1) := by decide +kernel
theorem dL_mend_17 : decode cL_mend 17 = .ok (.astore 4, 2) := by decide +kernel
theorem dL_mend_19 : decode cL_mend 19 = .ok (.iconst 2, 1) := by decide +kernel
theorem dL_mend_20 : decode cL_mend 20 = .ok (.ireturn, 1) := by decide +kernel
theorem dL_mend_21 : decode cL_mend 21 = .ok (.iconst 0, 1) := by decide +kernel
theorem dL_mend_22 : decode cL_mend 22 = .ok (.ireturn, 1) := by decide +kernel
theorem dL_about_0 : decode cL_about 0 = .ok (.aload_n 3, 1) := by decide +kernel
theorem dL_about_1 : decode cL_about 1 = .ok (.iconst 0, 1) := by decide +kernel
theorem dL_about_2 : decode cL_about 2 = .ok (.aload_n 0, 1) := by decide +kernel
theorem dL_about_3 : decode cL_about 3 = .ok (.iload_n 1, 1) := by decide +kernel
theorem dL_about_4 : decode cL_about 4 = .ok (.iload_n 2, 1) := by decide +kernel
theorem dL_about_5 : decode cL_about 5 = .ok (.invokevirtual 60, 3) := by decide +kernel
theorem dL_about_8 : decode cL_about 8 = .ok (.i2l, 1) := by decide +kernel
theorem dL_about_9 : decode cL_about 9 = .ok (.lastore, 1) := by decide +kernel
theorem dL_about_10 : decode cL_about 10 = .ok (.goto 11, 3) := by decide +kernel
theorem dL_about_13 : decode cL_about 13 = .ok (.astore 4, 2) := by decide +kernel
theorem dL_about_15 : decode cL_about 15 = .ok (.iconst 1, 1) := by decide +kernel
theorem dL_about_16 : decode cL_about 16 = .ok (.ireturn, 1) := by decide +kernel
theorem dL_about_17 : decode cL_about 17 = .ok (.astore 4, 2) := by decide +kernel
theorem dL_about_19 : decode cL_about 19 = .ok (.iconst 2, 1) := by decide +kernel
theorem dL_about_20 : decode cL_about 20 = .ok (.ireturn, 1) := by decide +kernel
theorem dL_about_21 : decode cL_about 21 = .ok (.iconst 0, 1) := by decide +kernel
theorem dL_about_22 : decode cL_about 22 = .ok (.ireturn, 1) := by decide +kernel
theorem dL_clock_0 : decode cL_clock 0 = .ok (.aload 4, 2) := by decide +kernel
theorem dL_clock_2 : decode cL_clock 2 = .ok (.iconst 0, 1) := by decide +kernel
theorem dL_clock_3 : decode cL_clock 3 = .ok (.aload_n 0, 1) := by decide +kernel
theorem dL_clock_4 : decode cL_clock 4 = .ok (.iload_n 1, 1) := by decide +kernel
theorem dL_clock_5 : decode cL_clock 5 = .ok (.iload_n 2, 1) := by decide +kernel
theorem dL_clock_6 : decode cL_clock 6 = .ok (.iload_n 3, 1) := by decide +kernel
theorem dL_clock_7 : decode cL_clock 7 = .ok (.invokevirtual 63, 3) := by decide +kernel
theorem dL_clock_10 : decode cL_clock 10 = .ok (.i2l, 1) := by decide +kernel
theorem dL_clock_11 : decode cL_clock 11 = .ok (.lastore, 1) := by decide +kernel
theorem dL_clock_12 : decode cL_clock 12 = .ok (.goto 7, 3) := by decide +kernel
theorem dL_clock_15 : decode cL_clock 15 = .ok (.astore 5, 2) := by decide +kernel
theorem dL_clock_17 : decode cL_clock 17 = .ok (.iconst 1, 1) := by decide +kernel
theorem dL_clock_18 : decode cL_clock 18 = .ok (.ireturn, 1) := by decide +kernel
theorem dL_clock_19 : decode cL_clock 19 = .ok (.iconst 0, 1) := by decide +kernel
theorem dL_clock_20 : decode cL_clock 20 = .ok (.ireturn, 1) := by decide +kernel
theorem dL_axle_0 : decode cL_axle 0 = .ok (.aload_n 3, 1) := by decide +kernel
theorem dL_axle_1 : decode cL_axle 1 = .ok (.iconst 0, 1) := by decide +kernel
theorem dL_axle_2 : decode cL_axle 2 = .ok (.aload_n 0, 1) := by decide +kernel
theorem dL_axle_3 : decode cL_axle 3 = .ok (.iload_n 1, 1) := by decide +kernel
theorem dL_axle_4 : decode cL_axle 4 = .ok (.iload_n 2, 1) := by decide +kernel
theorem dL_axle_5 : decode cL_axle 5 = .ok (.invokevirtual 67, 3) := by decide +kernel
theorem dL_axle_8 : decode cL_axle 8 = .ok (.i2l, 1) := by decide +kernel
theorem dL_axle_9 : decode cL_axle 9 = .ok (.lastore, 1) := by decide +kernel
theorem dL_axle_10 : decode cL_axle 10 = .ok (.goto 7, 3) := by decide +kernel
theorem dL_axle_13 : decode cL_axle 13 = .ok (.astore 4, 2) := by decide +kernel
theorem dL_axle_15 : decode cL_axle 15 = .ok (.iconst 1, 1) := by decide +kernel
theorem dL_axle_16 : decode cL_axle 16 = .ok (.ireturn, 1) := by decide +kernel
theorem dL_axle_17 : decode cL_axle 17 = .ok (.iconst 0, 1) := by decide +kernel
theorem dL_axle_18 : decode cL_axle 18 = .ok (.ireturn, 1) := by decide +kernel
theorem dL_faultAt_0 : decode cL_faultAt 0 = .ok (.aload 4, 2) := by decide +kernel
theorem dL_faultAt_2 : decode cL_faultAt 2 = .ok (.iconst 0, 1) := by decide +kernel
theorem dL_faultAt_3 : decode cL_faultAt 3 = .ok (.aload_n 0, 1) := by decide +kernel
theorem dL_faultAt_4 : decode cL_faultAt 4 = .ok (.iload_n 1, 1) := by decide +kernel
theorem dL_faultAt_5 : decode cL_faultAt 5 = .ok (.iload_n 2, 1) := by decide +kernel
theorem dL_faultAt_6 : decode cL_faultAt 6 = .ok (.iload_n 3, 1) := by decide +kernel
theorem dL_faultAt_7 : decode cL_faultAt 7 = .ok (.invokevirtual 70, 3) := by decide +kernel
theorem dL_faultAt_10 : decode cL_faultAt 10 = .ok (.i2l, 1) := by decide +kernel
theorem dL_faultAt_11 : decode cL_faultAt 11 = .ok (.lastore, 1) := by decide +kernel
theorem dL_faultAt_12 : decode cL_faultAt 12 = .ok (.goto 11, 3) := by decide +kernel
theorem dL_faultAt_15 : decode cL_faultAt 15 = .ok (.astore 5, 2) := by decide +kernel
theorem dL_faultAt_17 : decode cL_faultAt 17 = .ok (.iconst 1, 1) := by decide +kernel
theorem dL_faultAt_18 : decode cL_faultAt 18 = .ok (.ireturn, 1) := by decide +kernel
theorem dL_faultAt_19 : decode cL_faultAt 19 = .ok (.astore 5, 2) := by decide +kernel
theorem dL_faultAt_21 : decode cL_faultAt 21 = .ok (.iconst 2, 1) := by decide +kernel
theorem dL_faultAt_22 : decode cL_faultAt 22 = .ok (.ireturn, 1) := by decide +kernel
theorem dL_faultAt_23 : decode cL_faultAt 23 = .ok (.iconst 0, 1) := by decide +kernel
theorem dL_faultAt_24 : decode cL_faultAt 24 = .ok (.ireturn, 1) := by decide +kernel
theorem dL_stands_0 : decode cL_stands 0 = .ok (.aload_n 3, 1) := by decide +kernel
theorem dL_stands_1 : decode cL_stands 1 = .ok (.iconst 0, 1) := by decide +kernel
theorem dL_stands_2 : decode cL_stands 2 = .ok (.aload_n 0, 1) := by decide +kernel
theorem dL_stands_3 : decode cL_stands 3 = .ok (.iload_n 1, 1) := by decide +kernel
theorem dL_stands_4 : decode cL_stands 4 = .ok (.iload_n 2, 1) := by decide +kernel
theorem dL_stands_5 : decode cL_stands 5 = .ok (.invokevirtual 73, 3) := by decide +kernel
theorem dL_stands_8 : decode cL_stands 8 = .ok (.i2l, 1) := by decide +kernel
theorem dL_stands_9 : decode cL_stands 9 = .ok (.lastore, 1) := by decide +kernel
theorem dL_stands_10 : decode cL_stands 10 = .ok (.goto 7, 3) := by decide +kernel
theorem dL_stands_13 : decode cL_stands 13 = .ok (.astore 4, 2) := by decide +kernel
theorem dL_stands_15 : decode cL_stands 15 = .ok (.iconst 1, 1) := by decide +kernel
theorem dL_stands_16 : decode cL_stands 16 = .ok (.ireturn, 1) := by decide +kernel
theorem dL_stands_17 : decode cL_stands 17 = .ok (.iconst 0, 1) := by decide +kernel
theorem dL_stands_18 : decode cL_stands 18 = .ok (.ireturn, 1) := by decide +kernel
theorem dL_ran_0 : decode cL_ran 0 = .ok (.aload_n 3, 1) := by decide +kernel
theorem dL_ran_1 : decode cL_ran 1 = .ok (.iconst 0, 1) := by decide +kernel
theorem dL_ran_2 : decode cL_ran 2 = .ok (.aload_n 0, 1) := by decide +kernel
theorem dL_ran_3 : decode cL_ran 3 = .ok (.iload_n 1, 1) := by decide +kernel
theorem dL_ran_4 : decode cL_ran 4 = .ok (.iload_n 2, 1) := by decide +kernel
theorem dL_ran_5 : decode cL_ran 5 = .ok (.invokevirtual 76, 3) := by decide +kernel
theorem dL_ran_8 : decode cL_ran 8 = .ok (.i2l, 1) := by decide +kernel
theorem dL_ran_9 : decode cL_ran 9 = .ok (.lastore, 1) := by decide +kernel
theorem dL_ran_10 : decode cL_ran 10 = .ok (.goto 11, 3) := by decide +kernel
theorem dL_ran_13 : decode cL_ran 13 = .ok (.astore 4, 2) := by decide +kernel
theorem dL_ran_15 : decode cL_ran 15 = .ok (.iconst 1, 1) := by decide +kernel
theorem dL_ran_16 : decode cL_ran 16 = .ok (.ireturn, 1) := by decide +kernel
theorem dL_ran_17 : decode cL_ran 17 = .ok (.astore 4, 2) := by decide +kernel
theorem dL_ran_19 : decode cL_ran 19 = .ok (.iconst 2, 1) := by decide +kernel
theorem dL_ran_20 : decode cL_ran 20 = .ok (.ireturn, 1) := by decide +kernel
theorem dL_ran_21 : decode cL_ran 21 = .ok (.iconst 0, 1) := by decide +kernel
theorem dL_ran_22 : decode cL_ran 22 = .ok (.ireturn, 1) := by decide +kernel
theorem dL_kmAnew_0 : decode cL_kmAnew 0 = .ok (.aload_n 2, 1) := by decide +kernel
theorem dL_kmAnew_1 : decode cL_kmAnew 1 = .ok (.iconst 0, 1) := by decide +kernel
theorem dL_kmAnew_2 : decode cL_kmAnew 2 = .ok (.aload_n 0, 1) := by decide +kernel
theorem dL_kmAnew_3 : decode cL_kmAnew 3 = .ok (.iload_n 1, 1) := by decide +kernel
theorem dL_kmAnew_4 : decode cL_kmAnew 4 = .ok (.invokevirtual 79, 3) := by decide +kernel
theorem dL_kmAnew_7 : decode cL_kmAnew 7 = .ok (.i2l, 1) := by decide +kernel
theorem dL_kmAnew_8 : decode cL_kmAnew 8 = .ok (.lastore, 1) := by decide +kernel
theorem dL_kmAnew_9 : decode cL_kmAnew 9 = .ok (.goto 6, 3) := by decide +kernel
theorem dL_kmAnew_12 : decode cL_kmAnew 12 = .ok (.astore_n 3, 1) := by decide +kernel
theorem dL_kmAnew_13 : decode cL_kmAnew 13 = .ok (.iconst 1, 1) := by decide +kernel
theorem dL_kmAnew_14 : decode cL_kmAnew 14 = .ok (.ireturn, 1) := by decide +kernel
theorem dL_kmAnew_15 : decode cL_kmAnew 15 = .ok (.iconst 0, 1) := by decide +kernel
theorem dL_kmAnew_16 : decode cL_kmAnew 16 = .ok (.ireturn, 1) := by decide +kernel
theorem dL_law_0 : decode cL_law 0 = .ok (.new 8, 3) := by decide +kernel
theorem dL_law_3 : decode cL_law 3 = .ok (.dup, 1) := by decide +kernel
theorem dL_law_4 : decode cL_law 4 = .ok (.invokespecial 82, 3) := by decide +kernel
theorem dL_law_7 : decode cL_law 7 = .ok (.astore_n 1, 1) := by decide +kernel
theorem dL_law_8 : decode cL_law 8 = .ok (.new 83, 3) := by decide +kernel
theorem dL_law_11 : decode cL_law 11 = .ok (.dup, 1) := by decide +kernel
theorem dL_law_12 : decode cL_law 12 = .ok (.invokespecial 85, 3) := by decide +kernel
theorem dL_law_15 : decode cL_law 15 = .ok (.astore_n 2, 1) := by decide +kernel
theorem dL_law_16 : decode cL_law 16 = .ok (.iconst 1, 1) := by decide +kernel
theorem dL_law_17 : decode cL_law 17 = .ok (.newarray .long, 2) := by decide +kernel
theorem dL_law_19 : decode cL_law 19 = .ok (.astore_n 3, 1) := by decide +kernel
theorem dL_law_20 : decode cL_law 20 = .ok (.iconst 0, 1) := by decide +kernel
theorem dL_law_21 : decode cL_law 21 = .ok (.istore 4, 2) := by decide +kernel
theorem dL_law_23 : decode cL_law 23 = .ok (.iload 4, 2) := by decide +kernel
theorem dL_law_25 : decode cL_law 25 = .ok (.aload_n 0, 1) := by decide +kernel
theorem dL_law_26 : decode cL_law 26 = .ok (.arraylength, 1) := by decide +kernel
theorem dL_law_27 : decode cL_law 27 = .ok (.bipush 6, 2) := by decide +kernel
theorem dL_law_29 : decode cL_law 29 = .ok (.isub, 1) := by decide +kernel
theorem dL_law_30 : decode cL_law 30 = .ok (.if_icmp .gt 1587, 3) := by decide +kernel
theorem dL_law_33 : decode cL_law 33 = .ok (.aload_n 0, 1) := by decide +kernel
theorem dL_law_34 : decode cL_law 34 = .ok (.iload 4, 2) := by decide +kernel
theorem dL_law_36 : decode cL_law 36 = .ok (.iaload, 1) := by decide +kernel
theorem dL_law_37 : decode cL_law 37 = .ok (.bipush 31, 2) := by decide +kernel
theorem dL_law_39 : decode cL_law 39 = .ok (.iand, 1) := by decide +kernel
theorem dL_law_40 : decode cL_law 40 = .ok (.tableswitch 1571 0 22 #[108, 176, 280, 372, 452, 544, 612, 680, 736, 792, 805, 849, 917, 973, 1041, 1054, 1122, 1218, 1286, 1366, 1434, 1447, 1515], 108) := by decide +kernel
theorem dL_law_148 : decode cL_law 148 = .ok (.aload_n 1, 1) := by decide +kernel
theorem dL_law_149 : decode cL_law 149 = .ok (.aload_n 0, 1) := by decide +kernel
theorem dL_law_150 : decode cL_law 150 = .ok (.iload 4, 2) := by decide +kernel
theorem dL_law_152 : decode cL_law 152 = .ok (.iconst 1, 1) := by decide +kernel
theorem dL_law_153 : decode cL_law 153 = .ok (.iadd, 1) := by decide +kernel
theorem dL_law_154 : decode cL_law 154 = .ok (.iaload, 1) := by decide +kernel
theorem dL_law_155 : decode cL_law 155 = .ok (.aload_n 0, 1) := by decide +kernel
theorem dL_law_156 : decode cL_law 156 = .ok (.iload 4, 2) := by decide +kernel
theorem dL_law_158 : decode cL_law 158 = .ok (.iconst 2, 1) := by decide +kernel
theorem dL_law_159 : decode cL_law 159 = .ok (.iadd, 1) := by decide +kernel
theorem dL_law_160 : decode cL_law 160 = .ok (.iaload, 1) := by decide +kernel
theorem dL_law_161 : decode cL_law 161 = .ok (.aload_n 3, 1) := by decide +kernel
theorem dL_law_162 : decode cL_law 162 = .ok (.invokestatic 86, 3) := by decide +kernel
theorem dL_law_165 : decode cL_law 165 = .ok (.istore 5, 2) := by decide +kernel
theorem dL_law_167 : decode cL_law 167 = .ok (.aload_n 2, 1) := by decide +kernel
theorem dL_law_168 : decode cL_law 168 = .ok (.aload_n 0, 1) := by decide +kernel
theorem dL_law_169 : decode cL_law 169 = .ok (.iload 4, 2) := by decide +kernel
theorem dL_law_171 : decode cL_law 171 = .ok (.iconst 1, 1) := by decide +kernel
theorem dL_law_172 : decode cL_law 172 = .ok (.iadd, 1) := by decide +kernel
theorem dL_law_173 : decode cL_law 173 = .ok (.iaload, 1) := by decide +kernel
theorem dL_law_174 : decode cL_law 174 = .ok (.aload_n 0, 1) := by decide +kernel
theorem dL_law_175 : decode cL_law 175 = .ok (.iload 4, 2) := by decide +kernel
theorem dL_law_177 : decode cL_law 177 = .ok (.iconst 2, 1) := by decide +kernel
theorem dL_law_178 : decode cL_law 178 = .ok (.iadd, 1) := by decide +kernel
theorem dL_law_179 : decode cL_law 179 = .ok (.iaload, 1) := by decide +kernel
theorem dL_law_180 : decode cL_law 180 = .ok (.invokevirtual 91, 3) := by decide +kernel
theorem dL_law_183 : decode cL_law 183 = .ok (.istore 6, 2) := by decide +kernel
theorem dL_law_185 : decode cL_law 185 = .ok (.aload_n 2, 1) := by decide +kernel
theorem dL_law_186 : decode cL_law 186 = .ok (.invokevirtual 92, 3) := by decide +kernel
theorem dL_law_189 : decode cL_law 189 = .ok (.iload 5, 2) := by decide +kernel
theorem dL_law_191 : decode cL_law 191 = .ok (.if_icmp .eq 5, 3) := by decide +kernel
theorem dL_law_194 : decode cL_law 194 = .ok (.iconst 0, 1) := by decide +kernel
theorem dL_law_195 : decode cL_law 195 = .ok (.ireturn, 1) := by decide +kernel
theorem dL_law_196 : decode cL_law 196 = .ok (.iload 5, 2) := by decide +kernel
theorem dL_law_198 : decode cL_law 198 = .ok (.ifCond .ne 15, 3) := by decide +kernel
theorem dL_law_201 : decode cL_law 201 = .ok (.aload_n 3, 1) := by decide +kernel
theorem dL_law_202 : decode cL_law 202 = .ok (.iconst 0, 1) := by decide +kernel
theorem dL_law_203 : decode cL_law 203 = .ok (.laload, 1) := by decide +kernel
theorem dL_law_204 : decode cL_law 204 = .ok (.iload 6, 2) := by decide +kernel
theorem dL_law_206 : decode cL_law 206 = .ok (.i2l, 1) := by decide +kernel
theorem dL_law_207 : decode cL_law 207 = .ok (.lcmp, 1) := by decide +kernel
theorem dL_law_208 : decode cL_law 208 = .ok (.ifCond .eq 5, 3) := by decide +kernel
theorem dL_law_211 : decode cL_law 211 = .ok (.iconst 0, 1) := by decide +kernel
theorem dL_law_212 : decode cL_law 212 = .ok (.ireturn, 1) := by decide +kernel
theorem dL_law_213 : decode cL_law 213 = .ok (.goto 1398, 3) := by decide +kernel
theorem dL_law_216 : decode cL_law 216 = .ok (.aload_n 1, 1) := by decide +kernel
theorem dL_law_217 : decode cL_law 217 = .ok (.aload_n 0, 1) := by decide +kernel
theorem dL_law_218 : decode cL_law 218 = .ok (.iload 4, 2) := by decide +kernel
theorem dL_law_220 : decode cL_law 220 = .ok (.iconst 1, 1) := by decide +kernel
theorem dL_law_221 : decode cL_law 221 = .ok (.iadd, 1) := by decide +kernel
theorem dL_law_222 : decode cL_law 222 = .ok (.iaload, 1) := by decide +kernel
theorem dL_law_223 : decode cL_law 223 = .ok (.aload_n 0, 1) := by decide +kernel
theorem dL_law_224 : decode cL_law 224 = .ok (.iload 4, 2) := by decide +kernel
theorem dL_law_226 : decode cL_law 226 = .ok (.iconst 2, 1) := by decide +kernel
theorem dL_law_227 : decode cL_law 227 = .ok (.iadd, 1) := by decide +kernel
theorem dL_law_228 : decode cL_law 228 = .ok (.iaload, 1) := by decide +kernel
theorem dL_law_229 : decode cL_law 229 = .ok (.aload_n 0, 1) := by decide +kernel
theorem dL_law_230 : decode cL_law 230 = .ok (.iload 4, 2) := by decide +kernel
theorem dL_law_232 : decode cL_law 232 = .ok (.iconst 3, 1) := by decide +kernel
theorem dL_law_233 : decode cL_law 233 = .ok (.iadd, 1) := by decide +kernel
theorem dL_law_234 : decode cL_law 234 = .ok (.iaload, 1) := by decide +kernel
theorem dL_law_235 : decode cL_law 235 = .ok (.aload_n 0, 1) := by decide +kernel
theorem dL_law_236 : decode cL_law 236 = .ok (.iload 4, 2) := by decide +kernel
theorem dL_law_238 : decode cL_law 238 = .ok (.iconst 4, 1) := by decide +kernel
theorem dL_law_239 : decode cL_law 239 = .ok (.iadd, 1) := by decide +kernel
theorem dL_law_240 : decode cL_law 240 = .ok (.iaload, 1) := by decide +kernel
theorem dL_law_241 : decode cL_law 241 = .ok (.aload_n 0, 1) := by decide +kernel
theorem dL_law_242 : decode cL_law 242 = .ok (.iload 4, 2) := by decide +kernel
theorem dL_law_244 : decode cL_law 244 = .ok (.iconst 5, 1) := by decide +kernel
theorem dL_law_245 : decode cL_law 245 = .ok (.iadd, 1) := by decide +kernel
theorem dL_law_246 : decode cL_law 246 = .ok (.iaload, 1) := by decide +kernel
theorem dL_law_247 : decode cL_law 247 = .ok (.aload_n 3, 1) := by decide +kernel
theorem dL_law_248 : decode cL_law 248 = .ok (.invokestatic 95, 3) := by decide +kernel
theorem dL_law_251 : decode cL_law 251 = .ok (.istore 5, 2) := by decide +kernel
theorem dL_law_253 : decode cL_law 253 = .ok (.aload_n 2, 1) := by decide +kernel
theorem dL_law_254 : decode cL_law 254 = .ok (.aload_n 0, 1) := by decide +kernel
theorem dL_law_255 : decode cL_law 255 = .ok (.iload 4, 2) := by decide +kernel
theorem dL_law_257 : decode cL_law 257 = .ok (.iconst 1, 1) := by decide +kernel
theorem dL_law_258 : decode cL_law 258 = .ok (.iadd, 1) := by decide +kernel
theorem dL_law_259 : decode cL_law 259 = .ok (.iaload, 1) := by decide +kernel
theorem dL_law_260 : decode cL_law 260 = .ok (.aload_n 0, 1) := by decide +kernel
theorem dL_law_261 : decode cL_law 261 = .ok (.iload 4, 2) := by decide +kernel
theorem dL_law_263 : decode cL_law 263 = .ok (.iconst 2, 1) := by decide +kernel
theorem dL_law_264 : decode cL_law 264 = .ok (.iadd, 1) := by decide +kernel
theorem dL_law_265 : decode cL_law 265 = .ok (.iaload, 1) := by decide +kernel
theorem dL_law_266 : decode cL_law 266 = .ok (.aload_n 0, 1) := by decide +kernel
theorem dL_law_267 : decode cL_law 267 = .ok (.iload 4, 2) := by decide +kernel
theorem dL_law_269 : decode cL_law 269 = .ok (.iconst 3, 1) := by decide +kernel
theorem dL_law_270 : decode cL_law 270 = .ok (.iadd, 1) := by decide +kernel
theorem dL_law_271 : decode cL_law 271 = .ok (.iaload, 1) := by decide +kernel
theorem dL_law_272 : decode cL_law 272 = .ok (.aload_n 0, 1) := by decide +kernel
theorem dL_law_273 : decode cL_law 273 = .ok (.iload 4, 2) := by decide +kernel
theorem dL_law_275 : decode cL_law 275 = .ok (.iconst 4, 1) := by decide +kernel
theorem dL_law_276 : decode cL_law 276 = .ok (.iadd, 1) := by decide +kernel
theorem dL_law_277 : decode cL_law 277 = .ok (.iaload, 1) := by decide +kernel
theorem dL_law_278 : decode cL_law 278 = .ok (.aload_n 0, 1) := by decide +kernel
theorem dL_law_279 : decode cL_law 279 = .ok (.iload 4, 2) := by decide +kernel
theorem dL_law_281 : decode cL_law 281 = .ok (.iconst 5, 1) := by decide +kernel
theorem dL_law_282 : decode cL_law 282 = .ok (.iadd, 1) := by decide +kernel
theorem dL_law_283 : decode cL_law 283 = .ok (.iaload, 1) := by decide +kernel
theorem dL_law_284 : decode cL_law 284 = .ok (.invokevirtual 98, 3) := by decide +kernel
theorem dL_law_287 : decode cL_law 287 = .ok (.istore 6, 2) := by decide +kernel
theorem dL_law_289 : decode cL_law 289 = .ok (.aload_n 2, 1) := by decide +kernel
theorem dL_law_290 : decode cL_law 290 = .ok (.invokevirtual 92, 3) := by decide +kernel
theorem dL_law_293 : decode cL_law 293 = .ok (.iload 5, 2) := by decide +kernel
theorem dL_law_295 : decode cL_law 295 = .ok (.if_icmp .eq 5, 3) := by decide +kernel
theorem dL_law_298 : decode cL_law 298 = .ok (.iconst 0, 1) := by decide +kernel
theorem dL_law_299 : decode cL_law 299 = .ok (.ireturn, 1) := by decide +kernel
theorem dL_law_300 : decode cL_law 300 = .ok (.iload 5, 2) := by decide +kernel
theorem dL_law_302 : decode cL_law 302 = .ok (.ifCond .ne 15, 3) := by decide +kernel
theorem dL_law_305 : decode cL_law 305 = .ok (.aload_n 3, 1) := by decide +kernel
theorem dL_law_306 : decode cL_law 306 = .ok (.iconst 0, 1) := by decide +kernel
theorem dL_law_307 : decode cL_law 307 = .ok (.laload, 1) := by decide +kernel
theorem dL_law_308 : decode cL_law 308 = .ok (.iload 6, 2) := by decide +kernel
theorem dL_law_310 : decode cL_law 310 = .ok (.i2l, 1) := by decide +kernel
theorem dL_law_311 : decode cL_law 311 = .ok (.lcmp, 1) := by decide +kernel
theorem dL_law_312 : decode cL_law 312 = .ok (.ifCond .eq 5, 3) := by decide +kernel
theorem dL_law_315 : decode cL_law 315 = .ok (.iconst 0, 1) := by decide +kernel
theorem dL_law_316 : decode cL_law 316 = .ok (.ireturn, 1) := by decide +kernel
theorem dL_law_317 : decode cL_law 317 = .ok (.goto 1294, 3) := by decide +kernel
theorem dL_law_320 : decode cL_law 320 = .ok (.aload_n 1, 1) := by decide +kernel
theorem dL_law_321 : decode cL_law 321 = .ok (.aload_n 0, 1) := by decide +kernel
theorem dL_law_322 : decode cL_law 322 = .ok (.iload 4, 2) := by decide +kernel
theorem dL_law_324 : decode cL_law 324 = .ok (.iconst 1, 1) := by decide +kernel
theorem dL_law_325 : decode cL_law 325 = .ok (.iadd, 1) := by decide +kernel
theorem dL_law_326 : decode cL_law 326 = .ok (.iaload, 1) := by decide +kernel
theorem dL_law_327 : decode cL_law 327 = .ok (.aload_n 0, 1) := by decide +kernel
theorem dL_law_328 : decode cL_law 328 = .ok (.iload 4, 2) := by decide +kernel
theorem dL_law_330 : decode cL_law 330 = .ok (.iconst 2, 1) := by decide +kernel
theorem dL_law_331 : decode cL_law 331 = .ok (.iadd, 1) := by decide +kernel
theorem dL_law_332 : decode cL_law 332 = .ok (.iaload, 1) := by decide +kernel
theorem dL_law_333 : decode cL_law 333 = .ok (.aload_n 0, 1) := by decide +kernel
theorem dL_law_334 : decode cL_law 334 = .ok (.iload 4, 2) := by decide +kernel
theorem dL_law_336 : decode cL_law 336 = .ok (.iconst 3, 1) := by decide +kernel
theorem dL_law_337 : decode cL_law 337 = .ok (.iadd, 1) := by decide +kernel
theorem dL_law_338 : decode cL_law 338 = .ok (.iaload, 1) := by decide +kernel
theorem dL_law_339 : decode cL_law 339 = .ok (.aload_n 0, 1) := by decide +kernel
theorem dL_law_340 : decode cL_law 340 = .ok (.iload 4, 2) := by decide +kernel
theorem dL_law_342 : decode cL_law 342 = .ok (.iconst 4, 1) := by decide +kernel
theorem dL_law_343 : decode cL_law 343 = .ok (.iadd, 1) := by decide +kernel
theorem dL_law_344 : decode cL_law 344 = .ok (.iaload, 1) := by decide +kernel
theorem dL_law_345 : decode cL_law 345 = .ok (.aload_n 3, 1) := by decide +kernel
theorem dL_law_346 : decode cL_law 346 = .ok (.invokestatic 99, 3) := by decide +kernel
theorem dL_law_349 : decode cL_law 349 = .ok (.istore 5, 2) := by decide +kernel
theorem dL_law_351 : decode cL_law 351 = .ok (.aload_n 2, 1) := by decide +kernel
theorem dL_law_352 : decode cL_law 352 = .ok (.aload_n 0, 1) := by decide +kernel
theorem dL_law_353 : decode cL_law 353 = .ok (.iload 4, 2) := by decide +kernel
theorem dL_law_355 : decode cL_law 355 = .ok (.iconst 1, 1) := by decide +kernel
theorem dL_law_356 : decode cL_law 356 = .ok (.iadd, 1) := by decide +kernel
theorem dL_law_357 : decode cL_law 357 = .ok (.iaload, 1) := by decide +kernel
theorem dL_law_358 : decode cL_law 358 = .ok (.aload_n 0, 1) := by decide +kernel
theorem dL_law_359 : decode cL_law 359 = .ok (.iload 4, 2) := by decide +kernel
theorem dL_law_361 : decode cL_law 361 = .ok (.iconst 2, 1) := by decide +kernel
theorem dL_law_362 : decode cL_law 362 = .ok (.iadd, 1) := by decide +kernel
theorem dL_law_363 : decode cL_law 363 = .ok (.iaload, 1) := by decide +kernel
theorem dL_law_364 : decode cL_law 364 = .ok (.aload_n 0, 1) := by decide +kernel
theorem dL_law_365 : decode cL_law 365 = .ok (.iload 4, 2) := by decide +kernel
theorem dL_law_367 : decode cL_law 367 = .ok (.iconst 3, 1) := by decide +kernel
theorem dL_law_368 : decode cL_law 368 = .ok (.iadd, 1) := by decide +kernel
theorem dL_law_369 : decode cL_law 369 = .ok (.iaload, 1) := by decide +kernel
theorem dL_law_370 : decode cL_law 370 = .ok (.aload_n 0, 1) := by decide +kernel
theorem dL_law_371 : decode cL_law 371 = .ok (.iload 4, 2) := by decide +kernel
theorem dL_law_373 : decode cL_law 373 = .ok (.iconst 4, 1) := by decide +kernel
theorem dL_law_374 : decode cL_law 374 = .ok (.iadd, 1) := by decide +kernel
theorem dL_law_375 : decode cL_law 375 = .ok (.iaload, 1) := by decide +kernel
theorem dL_law_376 : decode cL_law 376 = .ok (.invokevirtual 102, 3) := by decide +kernel
theorem dL_law_379 : decode cL_law 379 = .ok (.istore 6, 2) := by decide +kernel
theorem dL_law_381 : decode cL_law 381 = .ok (.aload_n 2, 1) := by decide +kernel
theorem dL_law_382 : decode cL_law 382 = .ok (.invokevirtual 92, 3) := by decide +kernel
theorem dL_law_385 : decode cL_law 385 = .ok (.iload 5, 2) := by decide +kernel
theorem dL_law_387 : decode cL_law 387 = .ok (.if_icmp .eq 5, 3) := by decide +kernel
theorem dL_law_390 : decode cL_law 390 = .ok (.iconst 0, 1) := by decide +kernel
theorem dL_law_391 : decode cL_law 391 = .ok (.ireturn, 1) := by decide +kernel
theorem dL_law_392 : decode cL_law 392 = .ok (.iload 5, 2) := by decide +kernel
theorem dL_law_394 : decode cL_law 394 = .ok (.ifCond .ne 15, 3) := by decide +kernel
theorem dL_law_397 : decode cL_law 397 = .ok (.aload_n 3, 1) := by decide +kernel
theorem dL_law_398 : decode cL_law 398 = .ok (.iconst 0, 1) := by decide +kernel
theorem dL_law_399 : decode cL_law 399 = .ok (.laload, 1) := by decide +kernel
theorem dL_law_400 : decode cL_law 400 = .ok (.iload 6, 2) := by decide +kernel
theorem dL_law_402 : decode cL_law 402 = .ok (.i2l, 1) := by decide +kernel
theorem dL_law_403 : decode cL_law 403 = .ok (.lcmp, 1) := by decide +kernel
theorem dL_law_404 : decode cL_law 404 = .ok (.ifCond .eq 5, 3) := by decide +kernel
theorem dL_law_407 : decode cL_law 407 = .ok (.iconst 0, 1) := by decide +kernel
theorem dL_law_408 : decode cL_law 408 = .ok (.ireturn, 1) := by decide +kernel
theorem dL_law_409 : decode cL_law 409 = .ok (.goto 1202, 3) := by decide +kernel
theorem dL_law_412 : decode cL_law 412 = .ok (.aload_n 1, 1) := by decide +kernel
theorem dL_law_413 : decode cL_law 413 = .ok (.aload_n 0, 1) := by decide +kernel
theorem dL_law_414 : decode cL_law 414 = .ok (.iload 4, 2) := by decide +kernel
theorem dL_law_416 : decode cL_law 416 = .ok (.iconst 1, 1) := by decide +kernel
theorem dL_law_417 : decode cL_law 417 = .ok (.iadd, 1) := by decide +kernel
theorem dL_law_418 : decode cL_law 418 = .ok (.iaload, 1) := by decide +kernel
theorem dL_law_419 : decode cL_law 419 = .ok (.aload_n 0, 1) := by decide +kernel
theorem dL_law_420 : decode cL_law 420 = .ok (.iload 4, 2) := by decide +kernel
theorem dL_law_422 : decode cL_law 422 = .ok (.iconst 2, 1) := by decide +kernel
theorem dL_law_423 : decode cL_law 423 = .ok (.iadd, 1) := by decide +kernel
theorem dL_law_424 : decode cL_law 424 = .ok (.iaload, 1) := by decide +kernel
theorem dL_law_425 : decode cL_law 425 = .ok (.aload_n 0, 1) := by decide +kernel
theorem dL_law_426 : decode cL_law 426 = .ok (.iload 4, 2) := by decide +kernel
theorem dL_law_428 : decode cL_law 428 = .ok (.iconst 3, 1) := by decide +kernel
theorem dL_law_429 : decode cL_law 429 = .ok (.iadd, 1) := by decide +kernel
theorem dL_law_430 : decode cL_law 430 = .ok (.iaload, 1) := by decide +kernel
theorem dL_law_431 : decode cL_law 431 = .ok (.aload_n 3, 1) := by decide +kernel
theorem dL_law_432 : decode cL_law 432 = .ok (.invokestatic 103, 3) := by decide +kernel
theorem dL_law_435 : decode cL_law 435 = .ok (.istore 5, 2) := by decide +kernel
theorem dL_law_437 : decode cL_law 437 = .ok (.aload_n 2, 1) := by decide +kernel
theorem dL_law_438 : decode cL_law 438 = .ok (.aload_n 0, 1) := by decide +kernel
theorem dL_law_439 : decode cL_law 439 = .ok (.iload 4, 2) := by decide +kernel
theorem dL_law_441 : decode cL_law 441 = .ok (.iconst 1, 1) := by decide +kernel
theorem dL_law_442 : decode cL_law 442 = .ok (.iadd, 1) := by decide +kernel
theorem dL_law_443 : decode cL_law 443 = .ok (.iaload, 1) := by decide +kernel
theorem dL_law_444 : decode cL_law 444 = .ok (.aload_n 0, 1) := by decide +kernel
theorem dL_law_445 : decode cL_law 445 = .ok (.iload 4, 2) := by decide +kernel
theorem dL_law_447 : decode cL_law 447 = .ok (.iconst 2, 1) := by decide +kernel
theorem dL_law_448 : decode cL_law 448 = .ok (.iadd, 1) := by decide +kernel
theorem dL_law_449 : decode cL_law 449 = .ok (.iaload, 1) := by decide +kernel
theorem dL_law_450 : decode cL_law 450 = .ok (.aload_n 0, 1) := by decide +kernel
theorem dL_law_451 : decode cL_law 451 = .ok (.iload 4, 2) := by decide +kernel
theorem dL_law_453 : decode cL_law 453 = .ok (.iconst 3, 1) := by decide +kernel
theorem dL_law_454 : decode cL_law 454 = .ok (.iadd, 1) := by decide +kernel
theorem dL_law_455 : decode cL_law 455 = .ok (.iaload, 1) := by decide +kernel
theorem dL_law_456 : decode cL_law 456 = .ok (.invokevirtual 106, 3) := by decide +kernel
theorem dL_law_459 : decode cL_law 459 = .ok (.istore 6, 2) := by decide +kernel
theorem dL_law_461 : decode cL_law 461 = .ok (.aload_n 2, 1) := by decide +kernel
theorem dL_law_462 : decode cL_law 462 = .ok (.invokevirtual 92, 3) := by decide +kernel
theorem dL_law_465 : decode cL_law 465 = .ok (.iload 5, 2) := by decide +kernel
theorem dL_law_467 : decode cL_law 467 = .ok (.if_icmp .eq 5, 3) := by decide +kernel
theorem dL_law_470 : decode cL_law 470 = .ok (.iconst 0, 1) := by decide +kernel
theorem dL_law_471 : decode cL_law 471 = .ok (.ireturn, 1) := by decide +kernel
theorem dL_law_472 : decode cL_law 472 = .ok (.iload 5, 2) := by decide +kernel
theorem dL_law_474 : decode cL_law 474 = .ok (.ifCond .ne 15, 3) := by decide +kernel
theorem dL_law_477 : decode cL_law 477 = .ok (.aload_n 3, 1) := by decide +kernel
theorem dL_law_478 : decode cL_law 478 = .ok (.iconst 0, 1) := by decide +kernel
theorem dL_law_479 : decode cL_law 479 = .ok (.laload, 1) := by decide +kernel
theorem dL_law_480 : decode cL_law 480 = .ok (.iload 6, 2) := by decide +kernel
theorem dL_law_482 : decode cL_law 482 = .ok (.i2l, 1) := by decide +kernel
theorem dL_law_483 : decode cL_law 483 = .ok (.lcmp, 1) := by decide +kernel
theorem dL_law_484 : decode cL_law 484 = .ok (.ifCond .eq 5, 3) := by decide +kernel
theorem dL_law_487 : decode cL_law 487 = .ok (.iconst 0, 1) := by decide +kernel
theorem dL_law_488 : decode cL_law 488 = .ok (.ireturn, 1) := by decide +kernel
theorem dL_law_489 : decode cL_law 489 = .ok (.goto 1122, 3) := by decide +kernel
theorem dL_law_492 : decode cL_law 492 = .ok (.aload_n 1, 1) := by decide +kernel
theorem dL_law_493 : decode cL_law 493 = .ok (.aload_n 0, 1) := by decide +kernel
theorem dL_law_494 : decode cL_law 494 = .ok (.iload 4, 2) := by decide +kernel
theorem dL_law_496 : decode cL_law 496 = .ok (.iconst 1, 1) := by decide +kernel
theorem dL_law_497 : decode cL_law 497 = .ok (.iadd, 1) := by decide +kernel
theorem dL_law_498 : decode cL_law 498 = .ok (.iaload, 1) := by decide +kernel
theorem dL_law_499 : decode cL_law 499 = .ok (.aload_n 0, 1) := by decide +kernel
theorem dL_law_500 : decode cL_law 500 = .ok (.iload 4, 2) := by decide +kernel
theorem dL_law_502 : decode cL_law 502 = .ok (.iconst 2, 1) := by decide +kernel
theorem dL_law_503 : decode cL_law 503 = .ok (.iadd, 1) := by decide +kernel
theorem dL_law_504 : decode cL_law 504 = .ok (.iaload, 1) := by decide +kernel
theorem dL_law_505 : decode cL_law 505 = .ok (.aload_n 0, 1) := by decide +kernel
theorem dL_law_506 : decode cL_law 506 = .ok (.iload 4, 2) := by decide +kernel
theorem dL_law_508 : decode cL_law 508 = .ok (.iconst 3, 1) := by decide +kernel
theorem dL_law_509 : decode cL_law 509 = .ok (.iadd, 1) := by decide +kernel
theorem dL_law_510 : decode cL_law 510 = .ok (.iaload, 1) := by decide +kernel
theorem dL_law_511 : decode cL_law 511 = .ok (.aload_n 0, 1) := by decide +kernel
theorem dL_law_512 : decode cL_law 512 = .ok (.iload 4, 2) := by decide +kernel
theorem dL_law_514 : decode cL_law 514 = .ok (.iconst 4, 1) := by decide +kernel
theorem dL_law_515 : decode cL_law 515 = .ok (.iadd, 1) := by decide +kernel
theorem dL_law_516 : decode cL_law 516 = .ok (.iaload, 1) := by decide +kernel
theorem dL_law_517 : decode cL_law 517 = .ok (.aload_n 3, 1) := by decide +kernel
theorem dL_law_518 : decode cL_law 518 = .ok (.invokestatic 107, 3) := by decide +kernel
theorem dL_law_521 : decode cL_law 521 = .ok (.istore 5, 2) := by decide +kernel
theorem dL_law_523 : decode cL_law 523 = .ok (.aload_n 2, 1) := by decide +kernel
theorem dL_law_524 : decode cL_law 524 = .ok (.aload_n 0, 1) := by decide +kernel
theorem dL_law_525 : decode cL_law 525 = .ok (.iload 4, 2) := by decide +kernel
theorem dL_law_527 : decode cL_law 527 = .ok (.iconst 1, 1) := by decide +kernel
theorem dL_law_528 : decode cL_law 528 = .ok (.iadd, 1) := by decide +kernel
theorem dL_law_529 : decode cL_law 529 = .ok (.iaload, 1) := by decide +kernel
theorem dL_law_530 : decode cL_law 530 = .ok (.aload_n 0, 1) := by decide +kernel
theorem dL_law_531 : decode cL_law 531 = .ok (.iload 4, 2) := by decide +kernel
theorem dL_law_533 : decode cL_law 533 = .ok (.iconst 2, 1) := by decide +kernel
theorem dL_law_534 : decode cL_law 534 = .ok (.iadd, 1) := by decide +kernel
theorem dL_law_535 : decode cL_law 535 = .ok (.iaload, 1) := by decide +kernel
theorem dL_law_536 : decode cL_law 536 = .ok (.aload_n 0, 1) := by decide +kernel
theorem dL_law_537 : decode cL_law 537 = .ok (.iload 4, 2) := by decide +kernel
theorem dL_law_539 : decode cL_law 539 = .ok (.iconst 3, 1) := by decide +kernel
theorem dL_law_540 : decode cL_law 540 = .ok (.iadd, 1) := by decide +kernel
theorem dL_law_541 : decode cL_law 541 = .ok (.iaload, 1) := by decide +kernel
theorem dL_law_542 : decode cL_law 542 = .ok (.aload_n 0, 1) := by decide +kernel
theorem dL_law_543 : decode cL_law 543 = .ok (.iload 4, 2) := by decide +kernel
theorem dL_law_545 : decode cL_law 545 = .ok (.iconst 4, 1) := by decide +kernel
theorem dL_law_546 : decode cL_law 546 = .ok (.iadd, 1) := by decide +kernel
theorem dL_law_547 : decode cL_law 547 = .ok (.iaload, 1) := by decide +kernel
theorem dL_law_548 : decode cL_law 548 = .ok (.invokevirtual 109, 3) := by decide +kernel
theorem dL_law_551 : decode cL_law 551 = .ok (.istore 6, 2) := by decide +kernel
theorem dL_law_553 : decode cL_law 553 = .ok (.aload_n 2, 1) := by decide +kernel
theorem dL_law_554 : decode cL_law 554 = .ok (.invokevirtual 92, 3) := by decide +kernel
theorem dL_law_557 : decode cL_law 557 = .ok (.iload 5, 2) := by decide +kernel
theorem dL_law_559 : decode cL_law 559 = .ok (.if_icmp .eq 5, 3) := by decide +kernel
theorem dL_law_562 : decode cL_law 562 = .ok (.iconst 0, 1) := by decide +kernel
theorem dL_law_563 : decode cL_law 563 = .ok (.ireturn, 1) := by decide +kernel
theorem dL_law_564 : decode cL_law 564 = .ok (.iload 5, 2) := by decide +kernel
theorem dL_law_566 : decode cL_law 566 = .ok (.ifCond .ne 15, 3) := by decide +kernel
theorem dL_law_569 : decode cL_law 569 = .ok (.aload_n 3, 1) := by decide +kernel
theorem dL_law_570 : decode cL_law 570 = .ok (.iconst 0, 1) := by decide +kernel
theorem dL_law_571 : decode cL_law 571 = .ok (.laload, 1) := by decide +kernel
theorem dL_law_572 : decode cL_law 572 = .ok (.iload 6, 2) := by decide +kernel
theorem dL_law_574 : decode cL_law 574 = .ok (.i2l, 1) := by decide +kernel
theorem dL_law_575 : decode cL_law 575 = .ok (.lcmp, 1) := by decide +kernel
theorem dL_law_576 : decode cL_law 576 = .ok (.ifCond .eq 5, 3) := by decide +kernel
theorem dL_law_579 : decode cL_law 579 = .ok (.iconst 0, 1) := by decide +kernel
theorem dL_law_580 : decode cL_law 580 = .ok (.ireturn, 1) := by decide +kernel
theorem dL_law_581 : decode cL_law 581 = .ok (.goto 1030, 3) := by decide +kernel
theorem dL_law_584 : decode cL_law 584 = .ok (.aload_n 1, 1) := by decide +kernel
theorem dL_law_585 : decode cL_law 585 = .ok (.aload_n 0, 1) := by decide +kernel
theorem dL_law_586 : decode cL_law 586 = .ok (.iload 4, 2) := by decide +kernel
theorem dL_law_588 : decode cL_law 588 = .ok (.iconst 1, 1) := by decide +kernel
theorem dL_law_589 : decode cL_law 589 = .ok (.iadd, 1) := by decide +kernel
theorem dL_law_590 : decode cL_law 590 = .ok (.iaload, 1) := by decide +kernel
theorem dL_law_591 : decode cL_law 591 = .ok (.aload_n 0, 1) := by decide +kernel
theorem dL_law_592 : decode cL_law 592 = .ok (.iload 4, 2) := by decide +kernel
theorem dL_law_594 : decode cL_law 594 = .ok (.iconst 2, 1) := by decide +kernel
theorem dL_law_595 : decode cL_law 595 = .ok (.iadd, 1) := by decide +kernel
theorem dL_law_596 : decode cL_law 596 = .ok (.iaload, 1) := by decide +kernel
theorem dL_law_597 : decode cL_law 597 = .ok (.aload_n 3, 1) := by decide +kernel
theorem dL_law_598 : decode cL_law 598 = .ok (.invokestatic 110, 3) := by decide +kernel
theorem dL_law_601 : decode cL_law 601 = .ok (.istore 5, 2) := by decide +kernel
theorem dL_law_603 : decode cL_law 603 = .ok (.aload_n 2, 1) := by decide +kernel
theorem dL_law_604 : decode cL_law 604 = .ok (.aload_n 0, 1) := by decide +kernel
theorem dL_law_605 : decode cL_law 605 = .ok (.iload 4, 2) := by decide +kernel
theorem dL_law_607 : decode cL_law 607 = .ok (.iconst 1, 1) := by decide +kernel
theorem dL_law_608 : decode cL_law 608 = .ok (.iadd, 1) := by decide +kernel
theorem dL_law_609 : decode cL_law 609 = .ok (.iaload, 1) := by decide +kernel
theorem dL_law_610 : decode cL_law 610 = .ok (.aload_n 0, 1) := by decide +kernel
theorem dL_law_611 : decode cL_law 611 = .ok (.iload 4, 2) := by decide +kernel
theorem dL_law_613 : decode cL_law 613 = .ok (.iconst 2, 1) := by decide +kernel
theorem dL_law_614 : decode cL_law 614 = .ok (.iadd, 1) := by decide +kernel
theorem dL_law_615 : decode cL_law 615 = .ok (.iaload, 1) := by decide +kernel
theorem dL_law_616 : decode cL_law 616 = .ok (.invokevirtual 112, 3) := by decide +kernel
theorem dL_law_619 : decode cL_law 619 = .ok (.istore 6, 2) := by decide +kernel
theorem dL_law_621 : decode cL_law 621 = .ok (.aload_n 2, 1) := by decide +kernel
theorem dL_law_622 : decode cL_law 622 = .ok (.invokevirtual 92, 3) := by decide +kernel
theorem dL_law_625 : decode cL_law 625 = .ok (.iload 5, 2) := by decide +kernel
theorem dL_law_627 : decode cL_law 627 = .ok (.if_icmp .eq 5, 3) := by decide +kernel
theorem dL_law_630 : decode cL_law 630 = .ok (.iconst 0, 1) := by decide +kernel
theorem dL_law_631 : decode cL_law 631 = .ok (.ireturn, 1) := by decide +kernel
theorem dL_law_632 : decode cL_law 632 = .ok (.iload 5, 2) := by decide +kernel
theorem dL_law_634 : decode cL_law 634 = .ok (.ifCond .ne 15, 3) := by decide +kernel
theorem dL_law_637 : decode cL_law 637 = .ok (.aload_n 3, 1) := by decide +kernel
theorem dL_law_638 : decode cL_law 638 = .ok (.iconst 0, 1) := by decide +kernel
theorem dL_law_639 : decode cL_law 639 = .ok (.laload, 1) := by decide +kernel
theorem dL_law_640 : decode cL_law 640 = .ok (.iload 6, 2) := by decide +kernel
theorem dL_law_642 : decode cL_law 642 = .ok (.i2l, 1) := by decide +kernel
theorem dL_law_643 : decode cL_law 643 = .ok (.lcmp, 1) := by decide +kernel
theorem dL_law_644 : decode cL_law 644 = .ok (.ifCond .eq 5, 3) := by decide +kernel
theorem dL_law_647 : decode cL_law 647 = .ok (.iconst 0, 1) := by decide +kernel
theorem dL_law_648 : decode cL_law 648 = .ok (.ireturn, 1) := by decide +kernel
theorem dL_law_649 : decode cL_law 649 = .ok (.goto 962, 3) := by decide +kernel
theorem dL_law_652 : decode cL_law 652 = .ok (.aload_n 1, 1) := by decide +kernel
theorem dL_law_653 : decode cL_law 653 = .ok (.aload_n 0, 1) := by decide +kernel
theorem dL_law_654 : decode cL_law 654 = .ok (.iload 4, 2) := by decide +kernel
theorem dL_law_656 : decode cL_law 656 = .ok (.iconst 1, 1) := by decide +kernel
theorem dL_law_657 : decode cL_law 657 = .ok (.iadd, 1) := by decide +kernel
theorem dL_law_658 : decode cL_law 658 = .ok (.iaload, 1) := by decide +kernel
theorem dL_law_659 : decode cL_law 659 = .ok (.aload_n 0, 1) := by decide +kernel
theorem dL_law_660 : decode cL_law 660 = .ok (.iload 4, 2) := by decide +kernel
theorem dL_law_662 : decode cL_law 662 = .ok (.iconst 2, 1) := by decide +kernel
theorem dL_law_663 : decode cL_law 663 = .ok (.iadd, 1) := by decide +kernel
theorem dL_law_664 : decode cL_law 664 = .ok (.iaload, 1) := by decide +kernel
theorem dL_law_665 : decode cL_law 665 = .ok (.aload_n 3, 1) := by decide +kernel
theorem dL_law_666 : decode cL_law 666 = .ok (.invokestatic 113, 3) := by decide +kernel
theorem dL_law_669 : decode cL_law 669 = .ok (.istore 5, 2) := by decide +kernel
theorem dL_law_671 : decode cL_law 671 = .ok (.aload_n 2, 1) := by decide +kernel
theorem dL_law_672 : decode cL_law 672 = .ok (.aload_n 0, 1) := by decide +kernel
theorem dL_law_673 : decode cL_law 673 = .ok (.iload 4, 2) := by decide +kernel
theorem dL_law_675 : decode cL_law 675 = .ok (.iconst 1, 1) := by decide +kernel
theorem dL_law_676 : decode cL_law 676 = .ok (.iadd, 1) := by decide +kernel
theorem dL_law_677 : decode cL_law 677 = .ok (.iaload, 1) := by decide +kernel
theorem dL_law_678 : decode cL_law 678 = .ok (.aload_n 0, 1) := by decide +kernel
theorem dL_law_679 : decode cL_law 679 = .ok (.iload 4, 2) := by decide +kernel
theorem dL_law_681 : decode cL_law 681 = .ok (.iconst 2, 1) := by decide +kernel
theorem dL_law_682 : decode cL_law 682 = .ok (.iadd, 1) := by decide +kernel
theorem dL_law_683 : decode cL_law 683 = .ok (.iaload, 1) := by decide +kernel
theorem dL_law_684 : decode cL_law 684 = .ok (.invokevirtual 115, 3) := by decide +kernel
theorem dL_law_687 : decode cL_law 687 = .ok (.istore 6, 2) := by decide +kernel
theorem dL_law_689 : decode cL_law 689 = .ok (.aload_n 2, 1) := by decide +kernel
theorem dL_law_690 : decode cL_law 690 = .ok (.invokevirtual 92, 3) := by decide +kernel
theorem dL_law_693 : decode cL_law 693 = .ok (.iload 5, 2) := by decide +kernel
theorem dL_law_695 : decode cL_law 695 = .ok (.if_icmp .eq 5, 3) := by decide +kernel
theorem dL_law_698 : decode cL_law 698 = .ok (.iconst 0, 1) := by decide +kernel
theorem dL_law_699 : decode cL_law 699 = .ok (.ireturn, 1) := by decide +kernel
theorem dL_law_700 : decode cL_law 700 = .ok (.iload 5, 2) := by decide +kernel
theorem dL_law_702 : decode cL_law 702 = .ok (.ifCond .ne 15, 3) := by decide +kernel
theorem dL_law_705 : decode cL_law 705 = .ok (.aload_n 3, 1) := by decide +kernel
theorem dL_law_706 : decode cL_law 706 = .ok (.iconst 0, 1) := by decide +kernel
theorem dL_law_707 : decode cL_law 707 = .ok (.laload, 1) := by decide +kernel
theorem dL_law_708 : decode cL_law 708 = .ok (.iload 6, 2) := by decide +kernel
theorem dL_law_710 : decode cL_law 710 = .ok (.i2l, 1) := by decide +kernel
theorem dL_law_711 : decode cL_law 711 = .ok (.lcmp, 1) := by decide +kernel
theorem dL_law_712 : decode cL_law 712 = .ok (.ifCond .eq 5, 3) := by decide +kernel
theorem dL_law_715 : decode cL_law 715 = .ok (.iconst 0, 1) := by decide +kernel
theorem dL_law_716 : decode cL_law 716 = .ok (.ireturn, 1) := by decide +kernel
theorem dL_law_717 : decode cL_law 717 = .ok (.goto 894, 3) := by decide +kernel
theorem dL_law_720 : decode cL_law 720 = .ok (.aload_n 1, 1) := by decide +kernel
theorem dL_law_721 : decode cL_law 721 = .ok (.aload_n 0, 1) := by decide +kernel
theorem dL_law_722 : decode cL_law 722 = .ok (.iload 4, 2) := by decide +kernel
theorem dL_law_724 : decode cL_law 724 = .ok (.iconst 1, 1) := by decide +kernel
theorem dL_law_725 : decode cL_law 725 = .ok (.iadd, 1) := by decide +kernel
theorem dL_law_726 : decode cL_law 726 = .ok (.iaload, 1) := by decide +kernel
theorem dL_law_727 : decode cL_law 727 = .ok (.aload_n 3, 1) := by decide +kernel
theorem dL_law_728 : decode cL_law 728 = .ok (.invokestatic 116, 3) := by decide +kernel
theorem dL_law_731 : decode cL_law 731 = .ok (.istore 5, 2) := by decide +kernel
theorem dL_law_733 : decode cL_law 733 = .ok (.aload_n 2, 1) := by decide +kernel
theorem dL_law_734 : decode cL_law 734 = .ok (.aload_n 0, 1) := by decide +kernel
theorem dL_law_735 : decode cL_law 735 = .ok (.iload 4, 2) := by decide +kernel
theorem dL_law_737 : decode cL_law 737 = .ok (.iconst 1, 1) := by decide +kernel
theorem dL_law_738 : decode cL_law 738 = .ok (.iadd, 1) := by decide +kernel
theorem dL_law_739 : decode cL_law 739 = .ok (.iaload, 1) := by decide +kernel
theorem dL_law_740 : decode cL_law 740 = .ok (.invokevirtual 119, 3) := by decide +kernel
theorem dL_law_743 : decode cL_law 743 = .ok (.istore 6, 2) := by decide +kernel
theorem dL_law_745 : decode cL_law 745 = .ok (.aload_n 2, 1) := by decide +kernel
theorem dL_law_746 : decode cL_law 746 = .ok (.invokevirtual 92, 3) := by decide +kernel
theorem dL_law_749 : decode cL_law 749 = .ok (.iload 5, 2) := by decide +kernel
theorem dL_law_751 : decode cL_law 751 = .ok (.if_icmp .eq 5, 3) := by decide +kernel
theorem dL_law_754 : decode cL_law 754 = .ok (.iconst 0, 1) := by decide +kernel
theorem dL_law_755 : decode cL_law 755 = .ok (.ireturn, 1) := by decide +kernel
theorem dL_law_756 : decode cL_law 756 = .ok (.iload 5, 2) := by decide +kernel
theorem dL_law_758 : decode cL_law 758 = .ok (.ifCond .ne 15, 3) := by decide +kernel
theorem dL_law_761 : decode cL_law 761 = .ok (.aload_n 3, 1) := by decide +kernel
theorem dL_law_762 : decode cL_law 762 = .ok (.iconst 0, 1) := by decide +kernel
theorem dL_law_763 : decode cL_law 763 = .ok (.laload, 1) := by decide +kernel
theorem dL_law_764 : decode cL_law 764 = .ok (.iload 6, 2) := by decide +kernel
theorem dL_law_766 : decode cL_law 766 = .ok (.i2l, 1) := by decide +kernel
theorem dL_law_767 : decode cL_law 767 = .ok (.lcmp, 1) := by decide +kernel
theorem dL_law_768 : decode cL_law 768 = .ok (.ifCond .eq 5, 3) := by decide +kernel
theorem dL_law_771 : decode cL_law 771 = .ok (.iconst 0, 1) := by decide +kernel
theorem dL_law_772 : decode cL_law 772 = .ok (.ireturn, 1) := by decide +kernel
theorem dL_law_773 : decode cL_law 773 = .ok (.goto 838, 3) := by decide +kernel
theorem dL_law_776 : decode cL_law 776 = .ok (.aload_n 1, 1) := by decide +kernel
theorem dL_law_777 : decode cL_law 777 = .ok (.aload_n 0, 1) := by decide +kernel
theorem dL_law_778 : decode cL_law 778 = .ok (.iload 4, 2) := by decide +kernel
theorem dL_law_780 : decode cL_law 780 = .ok (.iconst 1, 1) := by decide +kernel
theorem dL_law_781 : decode cL_law 781 = .ok (.iadd, 1) := by decide +kernel
theorem dL_law_782 : decode cL_law 782 = .ok (.iaload, 1) := by decide +kernel
theorem dL_law_783 : decode cL_law 783 = .ok (.aload_n 3, 1) := by decide +kernel
theorem dL_law_784 : decode cL_law 784 = .ok (.invokestatic 120, 3) := by decide +kernel
theorem dL_law_787 : decode cL_law 787 = .ok (.istore 5, 2) := by decide +kernel
theorem dL_law_789 : decode cL_law 789 = .ok (.aload_n 2, 1) := by decide +kernel
theorem dL_law_790 : decode cL_law 790 = .ok (.aload_n 0, 1) := by decide +kernel
theorem dL_law_791 : decode cL_law 791 = .ok (.iload 4, 2) := by decide +kernel
theorem dL_law_793 : decode cL_law 793 = .ok (.iconst 1, 1) := by decide +kernel
theorem dL_law_794 : decode cL_law 794 = .ok (.iadd, 1) := by decide +kernel
theorem dL_law_795 : decode cL_law 795 = .ok (.iaload, 1) := by decide +kernel
theorem dL_law_796 : decode cL_law 796 = .ok (.invokevirtual 122, 3) := by decide +kernel
theorem dL_law_799 : decode cL_law 799 = .ok (.istore 6, 2) := by decide +kernel
theorem dL_law_801 : decode cL_law 801 = .ok (.aload_n 2, 1) := by decide +kernel
theorem dL_law_802 : decode cL_law 802 = .ok (.invokevirtual 92, 3) := by decide +kernel
theorem dL_law_805 : decode cL_law 805 = .ok (.iload 5, 2) := by decide +kernel
theorem dL_law_807 : decode cL_law 807 = .ok (.if_icmp .eq 5, 3) := by decide +kernel
theorem dL_law_810 : decode cL_law 810 = .ok (.iconst 0, 1) := by decide +kernel
theorem dL_law_811 : decode cL_law 811 = .ok (.ireturn, 1) := by decide +kernel
theorem dL_law_812 : decode cL_law 812 = .ok (.iload 5, 2) := by decide +kernel
theorem dL_law_814 : decode cL_law 814 = .ok (.ifCond .ne 15, 3) := by decide +kernel
theorem dL_law_817 : decode cL_law 817 = .ok (.aload_n 3, 1) := by decide +kernel
theorem dL_law_818 : decode cL_law 818 = .ok (.iconst 0, 1) := by decide +kernel
theorem dL_law_819 : decode cL_law 819 = .ok (.laload, 1) := by decide +kernel
theorem dL_law_820 : decode cL_law 820 = .ok (.iload 6, 2) := by decide +kernel
theorem dL_law_822 : decode cL_law 822 = .ok (.i2l, 1) := by decide +kernel
theorem dL_law_823 : decode cL_law 823 = .ok (.lcmp, 1) := by decide +kernel
theorem dL_law_824 : decode cL_law 824 = .ok (.ifCond .eq 5, 3) := by decide +kernel
theorem dL_law_827 : decode cL_law 827 = .ok (.iconst 0, 1) := by decide +kernel
theorem dL_law_828 : decode cL_law 828 = .ok (.ireturn, 1) := by decide +kernel
theorem dL_law_829 : decode cL_law 829 = .ok (.goto 782, 3) := by decide +kernel
theorem dL_law_832 : decode cL_law 832 = .ok (.aload_n 1, 1) := by decide +kernel
theorem dL_law_833 : decode cL_law 833 = .ok (.invokevirtual 123, 3) := by decide +kernel
theorem dL_law_836 : decode cL_law 836 = .ok (.aload_n 2, 1) := by decide +kernel
theorem dL_law_837 : decode cL_law 837 = .ok (.invokevirtual 126, 3) := by decide +kernel
theorem dL_law_840 : decode cL_law 840 = .ok (.if_icmp .eq 771, 3) := by decide +kernel
theorem dL_law_843 : decode cL_law 843 = .ok (.iconst 0, 1) := by decide +kernel
theorem dL_law_844 : decode cL_law 844 = .ok (.ireturn, 1) := by decide +kernel
theorem dL_law_845 : decode cL_law 845 = .ok (.aload_n 1, 1) := by decide +kernel
theorem dL_law_846 : decode cL_law 846 = .ok (.aload_n 3, 1) := by decide +kernel
theorem dL_law_847 : decode cL_law 847 = .ok (.invokestatic 127, 3) := by decide +kernel
theorem dL_law_850 : decode cL_law 850 = .ok (.istore 5, 2) := by decide +kernel
theorem dL_law_852 : decode cL_law 852 = .ok (.aload_n 2, 1) := by decide +kernel
theorem dL_law_853 : decode cL_law 853 = .ok (.invokevirtual 130, 3) := by decide +kernel
theorem dL_law_856 : decode cL_law 856 = .ok (.istore 6, 2) := by decide +kernel
theorem dL_law_858 : decode cL_law 858 = .ok (.aload_n 2, 1) := by decide +kernel
theorem dL_law_859 : decode cL_law 859 = .ok (.invokevirtual 92, 3) := by decide +kernel
theorem dL_law_862 : decode cL_law 862 = .ok (.iload 5, 2) := by decide +kernel
theorem dL_law_864 : decode cL_law 864 = .ok (.if_icmp .eq 5, 3) := by decide +kernel
theorem dL_law_867 : decode cL_law 867 = .ok (.iconst 0, 1) := by decide +kernel
theorem dL_law_868 : decode cL_law 868 = .ok (.ireturn, 1) := by decide +kernel
theorem dL_law_869 : decode cL_law 869 = .ok (.iload 5, 2) := by decide +kernel
theorem dL_law_871 : decode cL_law 871 = .ok (.ifCond .ne 15, 3) := by decide +kernel
theorem dL_law_874 : decode cL_law 874 = .ok (.aload_n 3, 1) := by decide +kernel
theorem dL_law_875 : decode cL_law 875 = .ok (.iconst 0, 1) := by decide +kernel
theorem dL_law_876 : decode cL_law 876 = .ok (.laload, 1) := by decide +kernel
theorem dL_law_877 : decode cL_law 877 = .ok (.iload 6, 2) := by decide +kernel
theorem dL_law_879 : decode cL_law 879 = .ok (.i2l, 1) := by decide +kernel
theorem dL_law_880 : decode cL_law 880 = .ok (.lcmp, 1) := by decide +kernel
theorem dL_law_881 : decode cL_law 881 = .ok (.ifCond .eq 5, 3) := by decide +kernel
theorem dL_law_884 : decode cL_law 884 = .ok (.iconst 0, 1) := by decide +kernel
theorem dL_law_885 : decode cL_law 885 = .ok (.ireturn, 1) := by decide +kernel
theorem dL_law_886 : decode cL_law 886 = .ok (.goto 725, 3) := by decide +kernel
theorem dL_law_889 : decode cL_law 889 = .ok (.aload_n 1, 1) := by decide +kernel
theorem dL_law_890 : decode cL_law 890 = .ok (.aload_n 0, 1) := by decide +kernel
theorem dL_law_891 : decode cL_law 891 = .ok (.iload 4, 2) := by decide +kernel
theorem dL_law_893 : decode cL_law 893 = .ok (.iconst 1, 1) := by decide +kernel
theorem dL_law_894 : decode cL_law 894 = .ok (.iadd, 1) := by decide +kernel
theorem dL_law_895 : decode cL_law 895 = .ok (.iaload, 1) := by decide +kernel
theorem dL_law_896 : decode cL_law 896 = .ok (.aload_n 0, 1) := by decide +kernel
theorem dL_law_897 : decode cL_law 897 = .ok (.iload 4, 2) := by decide +kernel
theorem dL_law_899 : decode cL_law 899 = .ok (.iconst 2, 1) := by decide +kernel
theorem dL_law_900 : decode cL_law 900 = .ok (.iadd, 1) := by decide +kernel
theorem dL_law_901 : decode cL_law 901 = .ok (.iaload, 1) := by decide +kernel
theorem dL_law_902 : decode cL_law 902 = .ok (.aload_n 3, 1) := by decide +kernel
theorem dL_law_903 : decode cL_law 903 = .ok (.invokestatic 131, 3) := by decide +kernel
theorem dL_law_906 : decode cL_law 906 = .ok (.istore 5, 2) := by decide +kernel
theorem dL_law_908 : decode cL_law 908 = .ok (.aload_n 2, 1) := by decide +kernel
theorem dL_law_909 : decode cL_law 909 = .ok (.aload_n 0, 1) := by decide +kernel
theorem dL_law_910 : decode cL_law 910 = .ok (.iload 4, 2) := by decide +kernel
theorem dL_law_912 : decode cL_law 912 = .ok (.iconst 1, 1) := by decide +kernel
theorem dL_law_913 : decode cL_law 913 = .ok (.iadd, 1) := by decide +kernel
theorem dL_law_914 : decode cL_law 914 = .ok (.iaload, 1) := by decide +kernel
theorem dL_law_915 : decode cL_law 915 = .ok (.aload_n 0, 1) := by decide +kernel
theorem dL_law_916 : decode cL_law 916 = .ok (.iload 4, 2) := by decide +kernel
theorem dL_law_918 : decode cL_law 918 = .ok (.iconst 2, 1) := by decide +kernel
theorem dL_law_919 : decode cL_law 919 = .ok (.iadd, 1) := by decide +kernel
theorem dL_law_920 : decode cL_law 920 = .ok (.iaload, 1) := by decide +kernel
theorem dL_law_921 : decode cL_law 921 = .ok (.invokevirtual 133, 3) := by decide +kernel
theorem dL_law_924 : decode cL_law 924 = .ok (.istore 6, 2) := by decide +kernel
theorem dL_law_926 : decode cL_law 926 = .ok (.aload_n 2, 1) := by decide +kernel
theorem dL_law_927 : decode cL_law 927 = .ok (.invokevirtual 92, 3) := by decide +kernel
theorem dL_law_930 : decode cL_law 930 = .ok (.iload 5, 2) := by decide +kernel
theorem dL_law_932 : decode cL_law 932 = .ok (.if_icmp .eq 5, 3) := by decide +kernel
theorem dL_law_935 : decode cL_law 935 = .ok (.iconst 0, 1) := by decide +kernel
theorem dL_law_936 : decode cL_law 936 = .ok (.ireturn, 1) := by decide +kernel
theorem dL_law_937 : decode cL_law 937 = .ok (.iload 5, 2) := by decide +kernel
theorem dL_law_939 : decode cL_law 939 = .ok (.ifCond .ne 15, 3) := by decide +kernel
theorem dL_law_942 : decode cL_law 942 = .ok (.aload_n 3, 1) := by decide +kernel
theorem dL_law_943 : decode cL_law 943 = .ok (.iconst 0, 1) := by decide +kernel
theorem dL_law_944 : decode cL_law 944 = .ok (.laload, 1) := by decide +kernel
theorem dL_law_945 : decode cL_law 945 = .ok (.iload 6, 2) := by decide +kernel
theorem dL_law_947 : decode cL_law 947 = .ok (.i2l, 1) := by decide +kernel
theorem dL_law_948 : decode cL_law 948 = .ok (.lcmp, 1) := by decide +kernel
theorem dL_law_949 : decode cL_law 949 = .ok (.ifCond .eq 5, 3) := by decide +kernel
theorem dL_law_952 : decode cL_law 952 = .ok (.iconst 0, 1) := by decide +kernel
theorem dL_law_953 : decode cL_law 953 = .ok (.ireturn, 1) := by decide +kernel
theorem dL_law_954 : decode cL_law 954 = .ok (.goto 657, 3) := by decide +kernel
theorem dL_law_957 : decode cL_law 957 = .ok (.aload_n 1, 1) := by decide +kernel
theorem dL_law_958 : decode cL_law 958 = .ok (.aload_n 0, 1) := by decide +kernel
theorem dL_law_959 : decode cL_law 959 = .ok (.iload 4, 2) := by decide +kernel
theorem dL_law_961 : decode cL_law 961 = .ok (.iconst 1, 1) := by decide +kernel
theorem dL_law_962 : decode cL_law 962 = .ok (.iadd, 1) := by decide +kernel
theorem dL_law_963 : decode cL_law 963 = .ok (.iaload, 1) := by decide +kernel
theorem dL_law_964 : decode cL_law 964 = .ok (.aload_n 3, 1) := by decide +kernel
theorem dL_law_965 : decode cL_law 965 = .ok (.invokestatic 134, 3) := by decide +kernel
theorem dL_law_968 : decode cL_law 968 = .ok (.istore 5, 2) := by decide +kernel
theorem dL_law_970 : decode cL_law 970 = .ok (.aload_n 2, 1) := by decide +kernel
theorem dL_law_971 : decode cL_law 971 = .ok (.aload_n 0, 1) := by decide +kernel
theorem dL_law_972 : decode cL_law 972 = .ok (.iload 4, 2) := by decide +kernel
theorem dL_law_974 : decode cL_law 974 = .ok (.iconst 1, 1) := by decide +kernel
theorem dL_law_975 : decode cL_law 975 = .ok (.iadd, 1) := by decide +kernel
theorem dL_law_976 : decode cL_law 976 = .ok (.iaload, 1) := by decide +kernel
theorem dL_law_977 : decode cL_law 977 = .ok (.invokevirtual 136, 3) := by decide +kernel
theorem dL_law_980 : decode cL_law 980 = .ok (.istore 6, 2) := by decide +kernel
theorem dL_law_982 : decode cL_law 982 = .ok (.aload_n 2, 1) := by decide +kernel
theorem dL_law_983 : decode cL_law 983 = .ok (.invokevirtual 92, 3) := by decide +kernel
theorem dL_law_986 : decode cL_law 986 = .ok (.iload 5, 2) := by decide +kernel
theorem dL_law_988 : decode cL_law 988 = .ok (.if_icmp .eq 5, 3) := by decide +kernel
theorem dL_law_991 : decode cL_law 991 = .ok (.iconst 0, 1) := by decide +kernel
theorem dL_law_992 : decode cL_law 992 = .ok (.ireturn, 1) := by decide +kernel
theorem dL_law_993 : decode cL_law 993 = .ok (.iload 5, 2) := by decide +kernel
theorem dL_law_995 : decode cL_law 995 = .ok (.ifCond .ne 15, 3) := by decide +kernel
theorem dL_law_998 : decode cL_law 998 = .ok (.aload_n 3, 1) := by decide +kernel
theorem dL_law_999 : decode cL_law 999 = .ok (.iconst 0, 1) := by decide +kernel
theorem dL_law_1000 : decode cL_law 1000 = .ok (.laload, 1) := by decide +kernel
theorem dL_law_1001 : decode cL_law 1001 = .ok (.iload 6, 2) := by decide +kernel
theorem dL_law_1003 : decode cL_law 1003 = .ok (.i2l, 1) := by decide +kernel
theorem dL_law_1004 : decode cL_law 1004 = .ok (.lcmp, 1) := by decide +kernel
theorem dL_law_1005 : decode cL_law 1005 = .ok (.ifCond .eq 5, 3) := by decide +kernel
theorem dL_law_1008 : decode cL_law 1008 = .ok (.iconst 0, 1) := by decide +kernel
theorem dL_law_1009 : decode cL_law 1009 = .ok (.ireturn, 1) := by decide +kernel
theorem dL_law_1010 : decode cL_law 1010 = .ok (.goto 601, 3) := by decide +kernel
theorem dL_law_1013 : decode cL_law 1013 = .ok (.aload_n 1, 1) := by decide +kernel
theorem dL_law_1014 : decode cL_law 1014 = .ok (.aload_n 0, 1) := by decide +kernel
theorem dL_law_1015 : decode cL_law 1015 = .ok (.iload 4, 2) := by decide +kernel
theorem dL_law_1017 : decode cL_law 1017 = .ok (.iconst 1, 1) := by decide +kernel
theorem dL_law_1018 : decode cL_law 1018 = .ok (.iadd, 1) := by decide +kernel
theorem dL_law_1019 : decode cL_law 1019 = .ok (.iaload, 1) := by decide +kernel
theorem dL_law_1020 : decode cL_law 1020 = .ok (.aload_n 0, 1) := by decide +kernel
theorem dL_law_1021 : decode cL_law 1021 = .ok (.iload 4, 2) := by decide +kernel
theorem dL_law_1023 : decode cL_law 1023 = .ok (.iconst 2, 1) := by decide +kernel
theorem dL_law_1024 : decode cL_law 1024 = .ok (.iadd, 1) := by decide +kernel
theorem dL_law_1025 : decode cL_law 1025 = .ok (.iaload, 1) := by decide +kernel
theorem dL_law_1026 : decode cL_law 1026 = .ok (.aload_n 3, 1) := by decide +kernel
theorem dL_law_1027 : decode cL_law 1027 = .ok (.invokestatic 137, 3) := by decide +kernel
theorem dL_law_1030 : decode cL_law 1030 = .ok (.istore 5, 2) := by decide +kernel
theorem dL_law_1032 : decode cL_law 1032 = .ok (.aload_n 2, 1) := by decide +kernel
theorem dL_law_1033 : decode cL_law 1033 = .ok (.aload_n 0, 1) := by decide +kernel
theorem dL_law_1034 : decode cL_law 1034 = .ok (.iload 4, 2) := by decide +kernel
theorem dL_law_1036 : decode cL_law 1036 = .ok (.iconst 1, 1) := by decide +kernel
theorem dL_law_1037 : decode cL_law 1037 = .ok (.iadd, 1) := by decide +kernel
theorem dL_law_1038 : decode cL_law 1038 = .ok (.iaload, 1) := by decide +kernel
theorem dL_law_1039 : decode cL_law 1039 = .ok (.aload_n 0, 1) := by decide +kernel
theorem dL_law_1040 : decode cL_law 1040 = .ok (.iload 4, 2) := by decide +kernel
theorem dL_law_1042 : decode cL_law 1042 = .ok (.iconst 2, 1) := by decide +kernel
theorem dL_law_1043 : decode cL_law 1043 = .ok (.iadd, 1) := by decide +kernel
theorem dL_law_1044 : decode cL_law 1044 = .ok (.iaload, 1) := by decide +kernel
theorem dL_law_1045 : decode cL_law 1045 = .ok (.invokevirtual 139, 3) := by decide +kernel
theorem dL_law_1048 : decode cL_law 1048 = .ok (.istore 6, 2) := by decide +kernel
theorem dL_law_1050 : decode cL_law 1050 = .ok (.aload_n 2, 1) := by decide +kernel
theorem dL_law_1051 : decode cL_law 1051 = .ok (.invokevirtual 92, 3) := by decide +kernel
theorem dL_law_1054 : decode cL_law 1054 = .ok (.iload 5, 2) := by decide +kernel
theorem dL_law_1056 : decode cL_law 1056 = .ok (.if_icmp .eq 5, 3) := by decide +kernel
theorem dL_law_1059 : decode cL_law 1059 = .ok (.iconst 0, 1) := by decide +kernel
theorem dL_law_1060 : decode cL_law 1060 = .ok (.ireturn, 1) := by decide +kernel
theorem dL_law_1061 : decode cL_law 1061 = .ok (.iload 5, 2) := by decide +kernel
theorem dL_law_1063 : decode cL_law 1063 = .ok (.ifCond .ne 15, 3) := by decide +kernel
theorem dL_law_1066 : decode cL_law 1066 = .ok (.aload_n 3, 1) := by decide +kernel
theorem dL_law_1067 : decode cL_law 1067 = .ok (.iconst 0, 1) := by decide +kernel
theorem dL_law_1068 : decode cL_law 1068 = .ok (.laload, 1) := by decide +kernel
theorem dL_law_1069 : decode cL_law 1069 = .ok (.iload 6, 2) := by decide +kernel
theorem dL_law_1071 : decode cL_law 1071 = .ok (.i2l, 1) := by decide +kernel
theorem dL_law_1072 : decode cL_law 1072 = .ok (.lcmp, 1) := by decide +kernel
theorem dL_law_1073 : decode cL_law 1073 = .ok (.ifCond .eq 5, 3) := by decide +kernel
theorem dL_law_1076 : decode cL_law 1076 = .ok (.iconst 0, 1) := by decide +kernel
theorem dL_law_1077 : decode cL_law 1077 = .ok (.ireturn, 1) := by decide +kernel
theorem dL_law_1078 : decode cL_law 1078 = .ok (.goto 533, 3) := by decide +kernel
theorem dL_law_1081 : decode cL_law 1081 = .ok (.aload_n 1, 1) := by decide +kernel
theorem dL_law_1082 : decode cL_law 1082 = .ok (.invokevirtual 140, 3) := by decide +kernel
theorem dL_law_1085 : decode cL_law 1085 = .ok (.aload_n 2, 1) := by decide +kernel
theorem dL_law_1086 : decode cL_law 1086 = .ok (.invokevirtual 143, 3) := by decide +kernel
theorem dL_law_1089 : decode cL_law 1089 = .ok (.if_icmp .eq 522, 3) := by decide +kernel
theorem dL_law_1092 : decode cL_law 1092 = .ok (.iconst 0, 1) := by decide +kernel
theorem dL_law_1093 : decode cL_law 1093 = .ok (.ireturn, 1) := by decide +kernel
theorem dL_law_1094 : decode cL_law 1094 = .ok (.aload_n 1, 1) := by decide +kernel
theorem dL_law_1095 : decode cL_law 1095 = .ok (.aload_n 0, 1) := by decide +kernel
theorem dL_law_1096 : decode cL_law 1096 = .ok (.iload 4, 2) := by decide +kernel
theorem dL_law_1098 : decode cL_law 1098 = .ok (.iconst 1, 1) := by decide +kernel
theorem dL_law_1099 : decode cL_law 1099 = .ok (.iadd, 1) := by decide +kernel
theorem dL_law_1100 : decode cL_law 1100 = .ok (.iaload, 1) := by decide +kernel
theorem dL_law_1101 : decode cL_law 1101 = .ok (.aload_n 0, 1) := by decide +kernel
theorem dL_law_1102 : decode cL_law 1102 = .ok (.iload 4, 2) := by decide +kernel
theorem dL_law_1104 : decode cL_law 1104 = .ok (.iconst 2, 1) := by decide +kernel
theorem dL_law_1105 : decode cL_law 1105 = .ok (.iadd, 1) := by decide +kernel
theorem dL_law_1106 : decode cL_law 1106 = .ok (.iaload, 1) := by decide +kernel
theorem dL_law_1107 : decode cL_law 1107 = .ok (.aload_n 3, 1) := by decide +kernel
theorem dL_law_1108 : decode cL_law 1108 = .ok (.invokestatic 144, 3) := by decide +kernel
theorem dL_law_1111 : decode cL_law 1111 = .ok (.istore 5, 2) := by decide +kernel
theorem dL_law_1113 : decode cL_law 1113 = .ok (.aload_n 2, 1) := by decide +kernel
theorem dL_law_1114 : decode cL_law 1114 = .ok (.aload_n 0, 1) := by decide +kernel
theorem dL_law_1115 : decode cL_law 1115 = .ok (.iload 4, 2) := by decide +kernel
theorem dL_law_1117 : decode cL_law 1117 = .ok (.iconst 1, 1) := by decide +kernel
theorem dL_law_1118 : decode cL_law 1118 = .ok (.iadd, 1) := by decide +kernel
theorem dL_law_1119 : decode cL_law 1119 = .ok (.iaload, 1) := by decide +kernel
theorem dL_law_1120 : decode cL_law 1120 = .ok (.aload_n 0, 1) := by decide +kernel
theorem dL_law_1121 : decode cL_law 1121 = .ok (.iload 4, 2) := by decide +kernel
theorem dL_law_1123 : decode cL_law 1123 = .ok (.iconst 2, 1) := by decide +kernel
theorem dL_law_1124 : decode cL_law 1124 = .ok (.iadd, 1) := by decide +kernel
theorem dL_law_1125 : decode cL_law 1125 = .ok (.iaload, 1) := by decide +kernel
theorem dL_law_1126 : decode cL_law 1126 = .ok (.invokevirtual 146, 3) := by decide +kernel
theorem dL_law_1129 : decode cL_law 1129 = .ok (.istore 6, 2) := by decide +kernel
theorem dL_law_1131 : decode cL_law 1131 = .ok (.aload_n 2, 1) := by decide +kernel
theorem dL_law_1132 : decode cL_law 1132 = .ok (.invokevirtual 92, 3) := by decide +kernel
theorem dL_law_1135 : decode cL_law 1135 = .ok (.iload 5, 2) := by decide +kernel
theorem dL_law_1137 : decode cL_law 1137 = .ok (.if_icmp .eq 5, 3) := by decide +kernel
theorem dL_law_1140 : decode cL_law 1140 = .ok (.iconst 0, 1) := by decide +kernel
theorem dL_law_1141 : decode cL_law 1141 = .ok (.ireturn, 1) := by decide +kernel
theorem dL_law_1142 : decode cL_law 1142 = .ok (.iload 5, 2) := by decide +kernel
theorem dL_law_1144 : decode cL_law 1144 = .ok (.ifCond .ne 15, 3) := by decide +kernel
theorem dL_law_1147 : decode cL_law 1147 = .ok (.aload_n 3, 1) := by decide +kernel
theorem dL_law_1148 : decode cL_law 1148 = .ok (.iconst 0, 1) := by decide +kernel
theorem dL_law_1149 : decode cL_law 1149 = .ok (.laload, 1) := by decide +kernel
theorem dL_law_1150 : decode cL_law 1150 = .ok (.iload 6, 2) := by decide +kernel
theorem dL_law_1152 : decode cL_law 1152 = .ok (.i2l, 1) := by decide +kernel
theorem dL_law_1153 : decode cL_law 1153 = .ok (.lcmp, 1) := by decide +kernel
theorem dL_law_1154 : decode cL_law 1154 = .ok (.ifCond .eq 5, 3) := by decide +kernel
theorem dL_law_1157 : decode cL_law 1157 = .ok (.iconst 0, 1) := by decide +kernel
theorem dL_law_1158 : decode cL_law 1158 = .ok (.ireturn, 1) := by decide +kernel
theorem dL_law_1159 : decode cL_law 1159 = .ok (.goto 452, 3) := by decide +kernel
theorem dL_law_1162 : decode cL_law 1162 = .ok (.aload_n 1, 1) := by decide +kernel
theorem dL_law_1163 : decode cL_law 1163 = .ok (.aload_n 0, 1) := by decide +kernel
theorem dL_law_1164 : decode cL_law 1164 = .ok (.iload 4, 2) := by decide +kernel
theorem dL_law_1166 : decode cL_law 1166 = .ok (.iconst 1, 1) := by decide +kernel
theorem dL_law_1167 : decode cL_law 1167 = .ok (.iadd, 1) := by decide +kernel
theorem dL_law_1168 : decode cL_law 1168 = .ok (.iaload, 1) := by decide +kernel
theorem dL_law_1169 : decode cL_law 1169 = .ok (.aload_n 0, 1) := by decide +kernel
theorem dL_law_1170 : decode cL_law 1170 = .ok (.iload 4, 2) := by decide +kernel
theorem dL_law_1172 : decode cL_law 1172 = .ok (.iconst 2, 1) := by decide +kernel
theorem dL_law_1173 : decode cL_law 1173 = .ok (.iadd, 1) := by decide +kernel
theorem dL_law_1174 : decode cL_law 1174 = .ok (.iaload, 1) := by decide +kernel
theorem dL_law_1175 : decode cL_law 1175 = .ok (.aload_n 0, 1) := by decide +kernel
theorem dL_law_1176 : decode cL_law 1176 = .ok (.iload 4, 2) := by decide +kernel
theorem dL_law_1178 : decode cL_law 1178 = .ok (.iconst 3, 1) := by decide +kernel
theorem dL_law_1179 : decode cL_law 1179 = .ok (.iadd, 1) := by decide +kernel
theorem dL_law_1180 : decode cL_law 1180 = .ok (.iaload, 1) := by decide +kernel
theorem dL_law_1181 : decode cL_law 1181 = .ok (.ifCond .eq 7, 3) := by decide +kernel
theorem dL_law_1184 : decode cL_law 1184 = .ok (.iconst 1, 1) := by decide +kernel
theorem dL_law_1185 : decode cL_law 1185 = .ok (.goto 4, 3) := by decide +kernel
theorem dL_law_1188 : decode cL_law 1188 = .ok (.iconst 0, 1) := by decide +kernel
theorem dL_law_1189 : decode cL_law 1189 = .ok (.aload_n 3, 1) := by decide +kernel
theorem dL_law_1190 : decode cL_law 1190 = .ok (.invokestatic 147, 3) := by decide +kernel
theorem dL_law_1193 : decode cL_law 1193 = .ok (.istore 5, 2) := by decide +kernel
theorem dL_law_1195 : decode cL_law 1195 = .ok (.aload_n 2, 1) := by decide +kernel
theorem dL_law_1196 : decode cL_law 1196 = .ok (.aload_n 0, 1) := by decide +kernel
theorem dL_law_1197 : decode cL_law 1197 = .ok (.iload 4, 2) := by decide +kernel
theorem dL_law_1199 : decode cL_law 1199 = .ok (.iconst 1, 1) := by decide +kernel
theorem dL_law_1200 : decode cL_law 1200 = .ok (.iadd, 1) := by decide +kernel
theorem dL_law_1201 : decode cL_law 1201 = .ok (.iaload, 1) := by decide +kernel
theorem dL_law_1202 : decode cL_law 1202 = .ok (.aload_n 0, 1) := by decide +kernel
theorem dL_law_1203 : decode cL_law 1203 = .ok (.iload 4, 2) := by decide +kernel
theorem dL_law_1205 : decode cL_law 1205 = .ok (.iconst 2, 1) := by decide +kernel
theorem dL_law_1206 : decode cL_law 1206 = .ok (.iadd, 1) := by decide +kernel
theorem dL_law_1207 : decode cL_law 1207 = .ok (.iaload, 1) := by decide +kernel
theorem dL_law_1208 : decode cL_law 1208 = .ok (.aload_n 0, 1) := by decide +kernel
theorem dL_law_1209 : decode cL_law 1209 = .ok (.iload 4, 2) := by decide +kernel
theorem dL_law_1211 : decode cL_law 1211 = .ok (.iconst 3, 1) := by decide +kernel
theorem dL_law_1212 : decode cL_law 1212 = .ok (.iadd, 1) := by decide +kernel
theorem dL_law_1213 : decode cL_law 1213 = .ok (.iaload, 1) := by decide +kernel
theorem dL_law_1214 : decode cL_law 1214 = .ok (.ifCond .eq 7, 3) := by decide +kernel
theorem dL_law_1217 : decode cL_law 1217 = .ok (.iconst 1, 1) := by decide +kernel
theorem dL_law_1218 : decode cL_law 1218 = .ok (.goto 4, 3) := by decide +kernel
theorem dL_law_1221 : decode cL_law 1221 = .ok (.iconst 0, 1) := by decide +kernel
theorem dL_law_1222 : decode cL_law 1222 = .ok (.invokevirtual 150, 3) := by decide +kernel
theorem dL_law_1225 : decode cL_law 1225 = .ok (.istore 6, 2) := by decide +kernel
theorem dL_law_1227 : decode cL_law 1227 = .ok (.aload_n 2, 1) := by decide +kernel
theorem dL_law_1228 : decode cL_law 1228 = .ok (.invokevirtual 92, 3) := by decide +kernel
theorem dL_law_1231 : decode cL_law 1231 = .ok (.iload 5, 2) := by decide +kernel
theorem dL_law_1233 : decode cL_law 1233 = .ok (.if_icmp .eq 5, 3) := by decide +kernel
theorem dL_law_1236 : decode cL_law 1236 = .ok (.iconst 0, 1) := by decide +kernel
theorem dL_law_1237 : decode cL_law 1237 = .ok (.ireturn, 1) := by decide +kernel
theorem dL_law_1238 : decode cL_law 1238 = .ok (.iload 5, 2) := by decide +kernel
theorem dL_law_1240 : decode cL_law 1240 = .ok (.ifCond .ne 15, 3) := by decide +kernel
theorem dL_law_1243 : decode cL_law 1243 = .ok (.aload_n 3, 1) := by decide +kernel
theorem dL_law_1244 : decode cL_law 1244 = .ok (.iconst 0, 1) := by decide +kernel
theorem dL_law_1245 : decode cL_law 1245 = .ok (.laload, 1) := by decide +kernel
theorem dL_law_1246 : decode cL_law 1246 = .ok (.iload 6, 2) := by decide +kernel
theorem dL_law_1248 : decode cL_law 1248 = .ok (.i2l, 1) := by decide +kernel
theorem dL_law_1249 : decode cL_law 1249 = .ok (.lcmp, 1) := by decide +kernel
theorem dL_law_1250 : decode cL_law 1250 = .ok (.ifCond .eq 5, 3) := by decide +kernel
theorem dL_law_1253 : decode cL_law 1253 = .ok (.iconst 0, 1) := by decide +kernel
theorem dL_law_1254 : decode cL_law 1254 = .ok (.ireturn, 1) := by decide +kernel
theorem dL_law_1255 : decode cL_law 1255 = .ok (.goto 356, 3) := by decide +kernel
theorem dL_law_1258 : decode cL_law 1258 = .ok (.aload_n 1, 1) := by decide +kernel
theorem dL_law_1259 : decode cL_law 1259 = .ok (.aload_n 0, 1) := by decide +kernel
theorem dL_law_1260 : decode cL_law 1260 = .ok (.iload 4, 2) := by decide +kernel
theorem dL_law_1262 : decode cL_law 1262 = .ok (.iconst 1, 1) := by decide +kernel
theorem dL_law_1263 : decode cL_law 1263 = .ok (.iadd, 1) := by decide +kernel
theorem dL_law_1264 : decode cL_law 1264 = .ok (.iaload, 1) := by decide +kernel
theorem dL_law_1265 : decode cL_law 1265 = .ok (.aload_n 0, 1) := by decide +kernel
theorem dL_law_1266 : decode cL_law 1266 = .ok (.iload 4, 2) := by decide +kernel
theorem dL_law_1268 : decode cL_law 1268 = .ok (.iconst 2, 1) := by decide +kernel
theorem dL_law_1269 : decode cL_law 1269 = .ok (.iadd, 1) := by decide +kernel
theorem dL_law_1270 : decode cL_law 1270 = .ok (.iaload, 1) := by decide +kernel
theorem dL_law_1271 : decode cL_law 1271 = .ok (.aload_n 3, 1) := by decide +kernel
theorem dL_law_1272 : decode cL_law 1272 = .ok (.invokestatic 151, 3) := by decide +kernel
theorem dL_law_1275 : decode cL_law 1275 = .ok (.istore 5, 2) := by decide +kernel
theorem dL_law_1277 : decode cL_law 1277 = .ok (.aload_n 2, 1) := by decide +kernel
theorem dL_law_1278 : decode cL_law 1278 = .ok (.aload_n 0, 1) := by decide +kernel
theorem dL_law_1279 : decode cL_law 1279 = .ok (.iload 4, 2) := by decide +kernel
theorem dL_law_1281 : decode cL_law 1281 = .ok (.iconst 1, 1) := by decide +kernel
theorem dL_law_1282 : decode cL_law 1282 = .ok (.iadd, 1) := by decide +kernel
theorem dL_law_1283 : decode cL_law 1283 = .ok (.iaload, 1) := by decide +kernel
theorem dL_law_1284 : decode cL_law 1284 = .ok (.aload_n 0, 1) := by decide +kernel
theorem dL_law_1285 : decode cL_law 1285 = .ok (.iload 4, 2) := by decide +kernel
theorem dL_law_1287 : decode cL_law 1287 = .ok (.iconst 2, 1) := by decide +kernel
theorem dL_law_1288 : decode cL_law 1288 = .ok (.iadd, 1) := by decide +kernel
theorem dL_law_1289 : decode cL_law 1289 = .ok (.iaload, 1) := by decide +kernel
theorem dL_law_1290 : decode cL_law 1290 = .ok (.invokevirtual 153, 3) := by decide +kernel
theorem dL_law_1293 : decode cL_law 1293 = .ok (.istore 6, 2) := by decide +kernel
theorem dL_law_1295 : decode cL_law 1295 = .ok (.aload_n 2, 1) := by decide +kernel
theorem dL_law_1296 : decode cL_law 1296 = .ok (.invokevirtual 92, 3) := by decide +kernel
theorem dL_law_1299 : decode cL_law 1299 = .ok (.iload 5, 2) := by decide +kernel
theorem dL_law_1301 : decode cL_law 1301 = .ok (.if_icmp .eq 5, 3) := by decide +kernel
theorem dL_law_1304 : decode cL_law 1304 = .ok (.iconst 0, 1) := by decide +kernel
theorem dL_law_1305 : decode cL_law 1305 = .ok (.ireturn, 1) := by decide +kernel
theorem dL_law_1306 : decode cL_law 1306 = .ok (.iload 5, 2) := by decide +kernel
theorem dL_law_1308 : decode cL_law 1308 = .ok (.ifCond .ne 15, 3) := by decide +kernel
theorem dL_law_1311 : decode cL_law 1311 = .ok (.aload_n 3, 1) := by decide +kernel
theorem dL_law_1312 : decode cL_law 1312 = .ok (.iconst 0, 1) := by decide +kernel
theorem dL_law_1313 : decode cL_law 1313 = .ok (.laload, 1) := by decide +kernel
theorem dL_law_1314 : decode cL_law 1314 = .ok (.iload 6, 2) := by decide +kernel
theorem dL_law_1316 : decode cL_law 1316 = .ok (.i2l, 1) := by decide +kernel
theorem dL_law_1317 : decode cL_law 1317 = .ok (.lcmp, 1) := by decide +kernel
theorem dL_law_1318 : decode cL_law 1318 = .ok (.ifCond .eq 5, 3) := by decide +kernel
theorem dL_law_1321 : decode cL_law 1321 = .ok (.iconst 0, 1) := by decide +kernel
theorem dL_law_1322 : decode cL_law 1322 = .ok (.ireturn, 1) := by decide +kernel
theorem dL_law_1323 : decode cL_law 1323 = .ok (.goto 288, 3) := by decide +kernel
theorem dL_law_1326 : decode cL_law 1326 = .ok (.aload_n 1, 1) := by decide +kernel
theorem dL_law_1327 : decode cL_law 1327 = .ok (.aload_n 0, 1) := by decide +kernel
theorem dL_law_1328 : decode cL_law 1328 = .ok (.iload 4, 2) := by decide +kernel
theorem dL_law_1330 : decode cL_law 1330 = .ok (.iconst 1, 1) := by decide +kernel
theorem dL_law_1331 : decode cL_law 1331 = .ok (.iadd, 1) := by decide +kernel
theorem dL_law_1332 : decode cL_law 1332 = .ok (.iaload, 1) := by decide +kernel
theorem dL_law_1333 : decode cL_law 1333 = .ok (.aload_n 0, 1) := by decide +kernel
theorem dL_law_1334 : decode cL_law 1334 = .ok (.iload 4, 2) := by decide +kernel
theorem dL_law_1336 : decode cL_law 1336 = .ok (.iconst 2, 1) := by decide +kernel
theorem dL_law_1337 : decode cL_law 1337 = .ok (.iadd, 1) := by decide +kernel
theorem dL_law_1338 : decode cL_law 1338 = .ok (.iaload, 1) := by decide +kernel
theorem dL_law_1339 : decode cL_law 1339 = .ok (.aload_n 0, 1) := by decide +kernel
theorem dL_law_1340 : decode cL_law 1340 = .ok (.iload 4, 2) := by decide +kernel
theorem dL_law_1342 : decode cL_law 1342 = .ok (.iconst 3, 1) := by decide +kernel
theorem dL_law_1343 : decode cL_law 1343 = .ok (.iadd, 1) := by decide +kernel
theorem dL_law_1344 : decode cL_law 1344 = .ok (.iaload, 1) := by decide +kernel
theorem dL_law_1345 : decode cL_law 1345 = .ok (.aload_n 3, 1) := by decide +kernel
theorem dL_law_1346 : decode cL_law 1346 = .ok (.invokestatic 154, 3) := by decide +kernel
theorem dL_law_1349 : decode cL_law 1349 = .ok (.istore 5, 2) := by decide +kernel
theorem dL_law_1351 : decode cL_law 1351 = .ok (.aload_n 2, 1) := by decide +kernel
theorem dL_law_1352 : decode cL_law 1352 = .ok (.aload_n 0, 1) := by decide +kernel
theorem dL_law_1353 : decode cL_law 1353 = .ok (.iload 4, 2) := by decide +kernel
theorem dL_law_1355 : decode cL_law 1355 = .ok (.iconst 1, 1) := by decide +kernel
theorem dL_law_1356 : decode cL_law 1356 = .ok (.iadd, 1) := by decide +kernel
theorem dL_law_1357 : decode cL_law 1357 = .ok (.iaload, 1) := by decide +kernel
theorem dL_law_1358 : decode cL_law 1358 = .ok (.aload_n 0, 1) := by decide +kernel
theorem dL_law_1359 : decode cL_law 1359 = .ok (.iload 4, 2) := by decide +kernel
theorem dL_law_1361 : decode cL_law 1361 = .ok (.iconst 2, 1) := by decide +kernel
theorem dL_law_1362 : decode cL_law 1362 = .ok (.iadd, 1) := by decide +kernel
theorem dL_law_1363 : decode cL_law 1363 = .ok (.iaload, 1) := by decide +kernel
theorem dL_law_1364 : decode cL_law 1364 = .ok (.aload_n 0, 1) := by decide +kernel
theorem dL_law_1365 : decode cL_law 1365 = .ok (.iload 4, 2) := by decide +kernel
theorem dL_law_1367 : decode cL_law 1367 = .ok (.iconst 3, 1) := by decide +kernel
theorem dL_law_1368 : decode cL_law 1368 = .ok (.iadd, 1) := by decide +kernel
theorem dL_law_1369 : decode cL_law 1369 = .ok (.iaload, 1) := by decide +kernel
theorem dL_law_1370 : decode cL_law 1370 = .ok (.invokevirtual 156, 3) := by decide +kernel
theorem dL_law_1373 : decode cL_law 1373 = .ok (.istore 6, 2) := by decide +kernel
theorem dL_law_1375 : decode cL_law 1375 = .ok (.aload_n 2, 1) := by decide +kernel
theorem dL_law_1376 : decode cL_law 1376 = .ok (.invokevirtual 92, 3) := by decide +kernel
theorem dL_law_1379 : decode cL_law 1379 = .ok (.iload 5, 2) := by decide +kernel
theorem dL_law_1381 : decode cL_law 1381 = .ok (.if_icmp .eq 5, 3) := by decide +kernel
theorem dL_law_1384 : decode cL_law 1384 = .ok (.iconst 0, 1) := by decide +kernel
theorem dL_law_1385 : decode cL_law 1385 = .ok (.ireturn, 1) := by decide +kernel
theorem dL_law_1386 : decode cL_law 1386 = .ok (.iload 5, 2) := by decide +kernel
theorem dL_law_1388 : decode cL_law 1388 = .ok (.ifCond .ne 15, 3) := by decide +kernel
theorem dL_law_1391 : decode cL_law 1391 = .ok (.aload_n 3, 1) := by decide +kernel
theorem dL_law_1392 : decode cL_law 1392 = .ok (.iconst 0, 1) := by decide +kernel
theorem dL_law_1393 : decode cL_law 1393 = .ok (.laload, 1) := by decide +kernel
theorem dL_law_1394 : decode cL_law 1394 = .ok (.iload 6, 2) := by decide +kernel
theorem dL_law_1396 : decode cL_law 1396 = .ok (.i2l, 1) := by decide +kernel
theorem dL_law_1397 : decode cL_law 1397 = .ok (.lcmp, 1) := by decide +kernel
theorem dL_law_1398 : decode cL_law 1398 = .ok (.ifCond .eq 5, 3) := by decide +kernel
theorem dL_law_1401 : decode cL_law 1401 = .ok (.iconst 0, 1) := by decide +kernel
theorem dL_law_1402 : decode cL_law 1402 = .ok (.ireturn, 1) := by decide +kernel
theorem dL_law_1403 : decode cL_law 1403 = .ok (.goto 208, 3) := by decide +kernel
theorem dL_law_1406 : decode cL_law 1406 = .ok (.aload_n 1, 1) := by decide +kernel
theorem dL_law_1407 : decode cL_law 1407 = .ok (.aload_n 0, 1) := by decide +kernel
theorem dL_law_1408 : decode cL_law 1408 = .ok (.iload 4, 2) := by decide +kernel
theorem dL_law_1410 : decode cL_law 1410 = .ok (.iconst 1, 1) := by decide +kernel
theorem dL_law_1411 : decode cL_law 1411 = .ok (.iadd, 1) := by decide +kernel
theorem dL_law_1412 : decode cL_law 1412 = .ok (.iaload, 1) := by decide +kernel
theorem dL_law_1413 : decode cL_law 1413 = .ok (.aload_n 0, 1) := by decide +kernel
theorem dL_law_1414 : decode cL_law 1414 = .ok (.iload 4, 2) := by decide +kernel
theorem dL_law_1416 : decode cL_law 1416 = .ok (.iconst 2, 1) := by decide +kernel
theorem dL_law_1417 : decode cL_law 1417 = .ok (.iadd, 1) := by decide +kernel
theorem dL_law_1418 : decode cL_law 1418 = .ok (.iaload, 1) := by decide +kernel
theorem dL_law_1419 : decode cL_law 1419 = .ok (.aload_n 3, 1) := by decide +kernel
theorem dL_law_1420 : decode cL_law 1420 = .ok (.invokestatic 157, 3) := by decide +kernel
theorem dL_law_1423 : decode cL_law 1423 = .ok (.istore 5, 2) := by decide +kernel
theorem dL_law_1425 : decode cL_law 1425 = .ok (.aload_n 2, 1) := by decide +kernel
theorem dL_law_1426 : decode cL_law 1426 = .ok (.aload_n 0, 1) := by decide +kernel
theorem dL_law_1427 : decode cL_law 1427 = .ok (.iload 4, 2) := by decide +kernel
theorem dL_law_1429 : decode cL_law 1429 = .ok (.iconst 1, 1) := by decide +kernel
theorem dL_law_1430 : decode cL_law 1430 = .ok (.iadd, 1) := by decide +kernel
theorem dL_law_1431 : decode cL_law 1431 = .ok (.iaload, 1) := by decide +kernel
theorem dL_law_1432 : decode cL_law 1432 = .ok (.aload_n 0, 1) := by decide +kernel
theorem dL_law_1433 : decode cL_law 1433 = .ok (.iload 4, 2) := by decide +kernel
theorem dL_law_1435 : decode cL_law 1435 = .ok (.iconst 2, 1) := by decide +kernel
theorem dL_law_1436 : decode cL_law 1436 = .ok (.iadd, 1) := by decide +kernel
theorem dL_law_1437 : decode cL_law 1437 = .ok (.iaload, 1) := by decide +kernel
theorem dL_law_1438 : decode cL_law 1438 = .ok (.invokevirtual 159, 3) := by decide +kernel
theorem dL_law_1441 : decode cL_law 1441 = .ok (.istore 6, 2) := by decide +kernel
theorem dL_law_1443 : decode cL_law 1443 = .ok (.aload_n 2, 1) := by decide +kernel
theorem dL_law_1444 : decode cL_law 1444 = .ok (.invokevirtual 92, 3) := by decide +kernel
theorem dL_law_1447 : decode cL_law 1447 = .ok (.iload 5, 2) := by decide +kernel
theorem dL_law_1449 : decode cL_law 1449 = .ok (.if_icmp .eq 5, 3) := by decide +kernel
theorem dL_law_1452 : decode cL_law 1452 = .ok (.iconst 0, 1) := by decide +kernel
theorem dL_law_1453 : decode cL_law 1453 = .ok (.ireturn, 1) := by decide +kernel
theorem dL_law_1454 : decode cL_law 1454 = .ok (.iload 5, 2) := by decide +kernel
theorem dL_law_1456 : decode cL_law 1456 = .ok (.ifCond .ne 15, 3) := by decide +kernel
theorem dL_law_1459 : decode cL_law 1459 = .ok (.aload_n 3, 1) := by decide +kernel
theorem dL_law_1460 : decode cL_law 1460 = .ok (.iconst 0, 1) := by decide +kernel
theorem dL_law_1461 : decode cL_law 1461 = .ok (.laload, 1) := by decide +kernel
theorem dL_law_1462 : decode cL_law 1462 = .ok (.iload 6, 2) := by decide +kernel
theorem dL_law_1464 : decode cL_law 1464 = .ok (.i2l, 1) := by decide +kernel
theorem dL_law_1465 : decode cL_law 1465 = .ok (.lcmp, 1) := by decide +kernel
theorem dL_law_1466 : decode cL_law 1466 = .ok (.ifCond .eq 5, 3) := by decide +kernel
theorem dL_law_1469 : decode cL_law 1469 = .ok (.iconst 0, 1) := by decide +kernel
theorem dL_law_1470 : decode cL_law 1470 = .ok (.ireturn, 1) := by decide +kernel
theorem dL_law_1471 : decode cL_law 1471 = .ok (.goto 140, 3) := by decide +kernel
theorem dL_law_1474 : decode cL_law 1474 = .ok (.aload_n 1, 1) := by decide +kernel
theorem dL_law_1475 : decode cL_law 1475 = .ok (.invokevirtual 160, 3) := by decide +kernel
theorem dL_law_1478 : decode cL_law 1478 = .ok (.aload_n 2, 1) := by decide +kernel
theorem dL_law_1479 : decode cL_law 1479 = .ok (.invokevirtual 163, 3) := by decide +kernel
theorem dL_law_1482 : decode cL_law 1482 = .ok (.if_icmp .eq 129, 3) := by decide +kernel
theorem dL_law_1485 : decode cL_law 1485 = .ok (.iconst 0, 1) := by decide +kernel
theorem dL_law_1486 : decode cL_law 1486 = .ok (.ireturn, 1) := by decide +kernel
theorem dL_law_1487 : decode cL_law 1487 = .ok (.aload_n 1, 1) := by decide +kernel
theorem dL_law_1488 : decode cL_law 1488 = .ok (.aload_n 0, 1) := by decide +kernel
theorem dL_law_1489 : decode cL_law 1489 = .ok (.iload 4, 2) := by decide +kernel
theorem dL_law_1491 : decode cL_law 1491 = .ok (.iconst 1, 1) := by decide +kernel
theorem dL_law_1492 : decode cL_law 1492 = .ok (.iadd, 1) := by decide +kernel
theorem dL_law_1493 : decode cL_law 1493 = .ok (.iaload, 1) := by decide +kernel
theorem dL_law_1494 : decode cL_law 1494 = .ok (.aload_n 0, 1) := by decide +kernel
theorem dL_law_1495 : decode cL_law 1495 = .ok (.iload 4, 2) := by decide +kernel
theorem dL_law_1497 : decode cL_law 1497 = .ok (.iconst 2, 1) := by decide +kernel
theorem dL_law_1498 : decode cL_law 1498 = .ok (.iadd, 1) := by decide +kernel
theorem dL_law_1499 : decode cL_law 1499 = .ok (.iaload, 1) := by decide +kernel
theorem dL_law_1500 : decode cL_law 1500 = .ok (.aload_n 3, 1) := by decide +kernel
theorem dL_law_1501 : decode cL_law 1501 = .ok (.invokestatic 164, 3) := by decide +kernel
theorem dL_law_1504 : decode cL_law 1504 = .ok (.istore 5, 2) := by decide +kernel
theorem dL_law_1506 : decode cL_law 1506 = .ok (.aload_n 2, 1) := by decide +kernel
theorem dL_law_1507 : decode cL_law 1507 = .ok (.aload_n 0, 1) := by decide +kernel
theorem dL_law_1508 : decode cL_law 1508 = .ok (.iload 4, 2) := by decide +kernel
theorem dL_law_1510 : decode cL_law 1510 = .ok (.iconst 1, 1) := by decide +kernel
theorem dL_law_1511 : decode cL_law 1511 = .ok (.iadd, 1) := by decide +kernel
theorem dL_law_1512 : decode cL_law 1512 = .ok (.iaload, 1) := by decide +kernel
theorem dL_law_1513 : decode cL_law 1513 = .ok (.aload_n 0, 1) := by decide +kernel
theorem dL_law_1514 : decode cL_law 1514 = .ok (.iload 4, 2) := by decide +kernel
theorem dL_law_1516 : decode cL_law 1516 = .ok (.iconst 2, 1) := by decide +kernel
theorem dL_law_1517 : decode cL_law 1517 = .ok (.iadd, 1) := by decide +kernel
theorem dL_law_1518 : decode cL_law 1518 = .ok (.iaload, 1) := by decide +kernel
theorem dL_law_1519 : decode cL_law 1519 = .ok (.invokevirtual 166, 3) := by decide +kernel
theorem dL_law_1522 : decode cL_law 1522 = .ok (.istore 6, 2) := by decide +kernel
theorem dL_law_1524 : decode cL_law 1524 = .ok (.aload_n 2, 1) := by decide +kernel
theorem dL_law_1525 : decode cL_law 1525 = .ok (.invokevirtual 92, 3) := by decide +kernel
theorem dL_law_1528 : decode cL_law 1528 = .ok (.iload 5, 2) := by decide +kernel
theorem dL_law_1530 : decode cL_law 1530 = .ok (.if_icmp .eq 5, 3) := by decide +kernel
theorem dL_law_1533 : decode cL_law 1533 = .ok (.iconst 0, 1) := by decide +kernel
theorem dL_law_1534 : decode cL_law 1534 = .ok (.ireturn, 1) := by decide +kernel
theorem dL_law_1535 : decode cL_law 1535 = .ok (.iload 5, 2) := by decide +kernel
theorem dL_law_1537 : decode cL_law 1537 = .ok (.ifCond .ne 15, 3) := by decide +kernel
theorem dL_law_1540 : decode cL_law 1540 = .ok (.aload_n 3, 1) := by decide +kernel
theorem dL_law_1541 : decode cL_law 1541 = .ok (.iconst 0, 1) := by decide +kernel
theorem dL_law_1542 : decode cL_law 1542 = .ok (.laload, 1) := by decide +kernel
theorem dL_law_1543 : decode cL_law 1543 = .ok (.iload 6, 2) := by decide +kernel
theorem dL_law_1545 : decode cL_law 1545 = .ok (.i2l, 1) := by decide +kernel
theorem dL_law_1546 : decode cL_law 1546 = .ok (.lcmp, 1) := by decide +kernel
theorem dL_law_1547 : decode cL_law 1547 = .ok (.ifCond .eq 5, 3) := by decide +kernel
theorem dL_law_1550 : decode cL_law 1550 = .ok (.iconst 0, 1) := by decide +kernel
theorem dL_law_1551 : decode cL_law 1551 = .ok (.ireturn, 1) := by decide +kernel
theorem dL_law_1552 : decode cL_law 1552 = .ok (.goto 59, 3) := by decide +kernel
theorem dL_law_1555 : decode cL_law 1555 = .ok (.aload_n 1, 1) := by decide +kernel
theorem dL_law_1556 : decode cL_law 1556 = .ok (.aload_n 0, 1) := by decide +kernel
theorem dL_law_1557 : decode cL_law 1557 = .ok (.iload 4, 2) := by decide +kernel
theorem dL_law_1559 : decode cL_law 1559 = .ok (.iconst 1, 1) := by decide +kernel
theorem dL_law_1560 : decode cL_law 1560 = .ok (.iadd, 1) := by decide +kernel
theorem dL_law_1561 : decode cL_law 1561 = .ok (.iaload, 1) := by decide +kernel
theorem dL_law_1562 : decode cL_law 1562 = .ok (.aload_n 3, 1) := by decide +kernel
theorem dL_law_1563 : decode cL_law 1563 = .ok (.invokestatic 167, 3) := by decide +kernel
theorem dL_law_1566 : decode cL_law 1566 = .ok (.istore 5, 2) := by decide +kernel
theorem dL_law_1568 : decode cL_law 1568 = .ok (.aload_n 2, 1) := by decide +kernel
theorem dL_law_1569 : decode cL_law 1569 = .ok (.aload_n 0, 1) := by decide +kernel
theorem dL_law_1570 : decode cL_law 1570 = .ok (.iload 4, 2) := by decide +kernel
theorem dL_law_1572 : decode cL_law 1572 = .ok (.iconst 1, 1) := by decide +kernel
theorem dL_law_1573 : decode cL_law 1573 = .ok (.iadd, 1) := by decide +kernel
theorem dL_law_1574 : decode cL_law 1574 = .ok (.iaload, 1) := by decide +kernel
theorem dL_law_1575 : decode cL_law 1575 = .ok (.invokevirtual 169, 3) := by decide +kernel
theorem dL_law_1578 : decode cL_law 1578 = .ok (.istore 6, 2) := by decide +kernel
theorem dL_law_1580 : decode cL_law 1580 = .ok (.aload_n 2, 1) := by decide +kernel
theorem dL_law_1581 : decode cL_law 1581 = .ok (.invokevirtual 92, 3) := by decide +kernel
theorem dL_law_1584 : decode cL_law 1584 = .ok (.iload 5, 2) := by decide +kernel
theorem dL_law_1586 : decode cL_law 1586 = .ok (.if_icmp .eq 5, 3) := by decide +kernel
theorem dL_law_1589 : decode cL_law 1589 = .ok (.iconst 0, 1) := by decide +kernel
theorem dL_law_1590 : decode cL_law 1590 = .ok (.ireturn, 1) := by decide +kernel
theorem dL_law_1591 : decode cL_law 1591 = .ok (.iload 5, 2) := by decide +kernel
theorem dL_law_1593 : decode cL_law 1593 = .ok (.ifCond .ne 15, 3) := by decide +kernel
theorem dL_law_1596 : decode cL_law 1596 = .ok (.aload_n 3, 1) := by decide +kernel
theorem dL_law_1597 : decode cL_law 1597 = .ok (.iconst 0, 1) := by decide +kernel
theorem dL_law_1598 : decode cL_law 1598 = .ok (.laload, 1) := by decide +kernel
theorem dL_law_1599 : decode cL_law 1599 = .ok (.iload 6, 2) := by decide +kernel
theorem dL_law_1601 : decode cL_law 1601 = .ok (.i2l, 1) := by decide +kernel
theorem dL_law_1602 : decode cL_law 1602 = .ok (.lcmp, 1) := by decide +kernel
theorem dL_law_1603 : decode cL_law 1603 = .ok (.ifCond .eq 5, 3) := by decide +kernel
theorem dL_law_1606 : decode cL_law 1606 = .ok (.iconst 0, 1) := by decide +kernel
theorem dL_law_1607 : decode cL_law 1607 = .ok (.ireturn, 1) := by decide +kernel
theorem dL_law_1608 : decode cL_law 1608 = .ok (.goto 3, 3) := by decide +kernel
theorem dL_law_1611 : decode cL_law 1611 = .ok (.iinc 4 6, 3) := by decide +kernel
theorem dL_law_1614 : decode cL_law 1614 = .ok (.goto (-1591), 3) := by decide +kernel
theorem dL_law_1617 : decode cL_law 1617 = .ok (.iconst 1, 1) := by decide +kernel
theorem dL_law_1618 : decode cL_law 1618 = .ok (.ireturn, 1) := by decide +kernel
end
section
/-! the words of the tables that are good ones, and those that need a premise of their own -/
def G_ : List Cond := lw_tbl.filter goodWord
def nwk : Cond → Bool
  | .castable _ _ => true
  | .declares _ => true
  | .methodLinkNest _ _ _ _ => true
  | _ => false
def NW_ : List Cond := tables_1.filter nwk
theorem g_mem {w : Cond} (h : w ∈ tables_1) (hg : goodWord w = true) : w ∈ G_ := List.mem_filter.mpr ⟨List.mem_append_right _ h, hg⟩
theorem gt1 {w : Cond} (i : Nat) (h : tables_1_1[i]? = some w) (hg : goodWord w = true) : w ∈ G_ := g_mem (List.mem_append_left _ (List.mem_of_getElem? h)) hg
theorem gt2 {w : Cond} (i : Nat) (h : tables_1_2[i]? = some w) (hg : goodWord w = true) : w ∈ G_ := g_mem (List.mem_append_right _ (List.mem_append_left _ (List.mem_of_getElem? h))) hg
theorem gt3 {w : Cond} (i : Nat) (h : tables_1_3[i]? = some w) (hg : goodWord w = true) : w ∈ G_ := g_mem (List.mem_append_right _ (List.mem_append_right _ (List.mem_append_left _ (List.mem_of_getElem? h)))) hg
theorem gt4 {w : Cond} (i : Nat) (h : tables_1_4[i]? = some w) (hg : goodWord w = true) : w ∈ G_ := g_mem (List.mem_append_right _ (List.mem_append_right _ (List.mem_append_right _ (List.mem_append_left _ (List.mem_of_getElem? h))))) hg
theorem gt5 {w : Cond} (i : Nat) (h : tables_1_5[i]? = some w) (hg : goodWord w = true) : w ∈ G_ := g_mem (List.mem_append_right _ (List.mem_append_right _ (List.mem_append_right _ (List.mem_append_right _ (List.mem_append_left _ (List.mem_of_getElem? h)))))) hg
theorem gt6 {w : Cond} (i : Nat) (h : tables_1_6[i]? = some w) (hg : goodWord w = true) : w ∈ G_ := g_mem (List.mem_append_right _ (List.mem_append_right _ (List.mem_append_right _ (List.mem_append_right _ (List.mem_append_right _ (List.mem_of_getElem? h)))))) hg
theorem gsl {w : Cond} (i : Nat) (h : (k2_sels lw_privs)[i]? = some w) (hg : goodWord w = true) : w ∈ G_ := List.mem_filter.mpr ⟨List.mem_append_left _ (List.mem_of_getElem? h), hg⟩
theorem nw_mem {w : Cond} (h : w ∈ tables_1) (hg : nwk w = true) : w ∈ NW_ := List.mem_filter.mpr ⟨h, hg⟩
theorem nt1 {w : Cond} (i : Nat) (h : tables_1_1[i]? = some w) (hg : nwk w = true) : w ∈ NW_ := nw_mem (List.mem_append_left _ (List.mem_of_getElem? h)) hg
theorem nt2 {w : Cond} (i : Nat) (h : tables_1_2[i]? = some w) (hg : nwk w = true) : w ∈ NW_ := nw_mem (List.mem_append_right _ (List.mem_append_left _ (List.mem_of_getElem? h))) hg
theorem nt3 {w : Cond} (i : Nat) (h : tables_1_3[i]? = some w) (hg : nwk w = true) : w ∈ NW_ := nw_mem (List.mem_append_right _ (List.mem_append_right _ (List.mem_append_left _ (List.mem_of_getElem? h)))) hg
theorem nt4 {w : Cond} (i : Nat) (h : tables_1_4[i]? = some w) (hg : nwk w = true) : w ∈ NW_ := nw_mem (List.mem_append_right _ (List.mem_append_right _ (List.mem_append_right _ (List.mem_append_left _ (List.mem_of_getElem? h))))) hg
theorem nt5 {w : Cond} (i : Nat) (h : tables_1_5[i]? = some w) (hg : nwk w = true) : w ∈ NW_ := nw_mem (List.mem_append_right _ (List.mem_append_right _ (List.mem_append_right _ (List.mem_append_right _ (List.mem_append_left _ (List.mem_of_getElem? h)))))) hg
theorem nt6 {w : Cond} (i : Nat) (h : tables_1_6[i]? = some w) (hg : nwk w = true) : w ∈ NW_ := nw_mem (List.mem_append_right _ (List.mem_append_right _ (List.mem_append_right _ (List.mem_append_right _ (List.mem_append_right _ (List.mem_of_getElem? h)))))) hg
theorem nwk_on {w : Cond} (h : nwk w = true) : w.onTables = true := by
  cases w <;> first | rfl | cases h
theorem nwk_warm {w : Cond} {s U : State} (h : nwk w = true) (hW : s.WarmedH U.vm) (hZ : va_Nw w s) : va_Nw w U := by
  cases w <;> first | exact va_Nw.warmC hW hZ | exact va_Nw.warmD hW hZ | exact va_Nw.warmM hW hZ | cases h
theorem G_good : ∀ w ∈ G_, goodWord w = true := fun _ h => (List.mem_filter.mp h).2
theorem G_in {y : MethodName} {cc : ByteArray} {n : Nat} {r : Option FieldType} (h : Cond.code y cc n r ∈ G_) : GoodIn G_ (Cond.code y cc n r :: G_) := fun w hw => by
  have h1 : w ∈ G_ := (List.mem_cons.mp hw).elim (fun e => by rw [e]; exact h) id
  exact ⟨h1, good_of_word (G_good w h1)⟩
/-! the state: numbers by (tag, index, slot); what the lists hold; how many there are -/
abbrev Ad : Type := Nat → Nat → Nat
abbrev Wd : Type := (Nat → Nat → Nat → Int32) × (Nat → Nat → Nat) × (Nat → Nat)
/-- the launch; where the fields lie; the numbers of the array types; where the new cells begin; the empty array of the lists -/
abbrev Xt : Type := Launch × va_G × (Nat → ClassId) × Nat × Nat
def tysX (X : Xt) : List (ClassId × FieldType) := [(X.2.2.1 0, .int), (X.2.2.1 1, .boolean), (X.2.2.1 2, .object "Stablingroad$Exam"), (X.2.2.1 3, .object "Stablingroad$Permit"), (X.2.2.1 4, .object "Stablingroad$Row"), (X.2.2.1 5, .object "java/lang/Object"), (X.2.2.1 6, .long)]
def Az (X : Xt) : Nat → Prop := fun q => X.2.2.2.1 ≤ q
/-- the tag of a list's elements -/
def et (i : Nat) : Nat := match i with
  | 0 => 21
  | 1 => 25
  | _ => 26
def elA (X : Xt) (ad : Ad) (σ : Wd) (i : Nat) : Nat := if σ.2.2 (20 + i) = 0 then X.2.2.2.2 else ad 27 i
def elF (ad : Ad) (σ : Wd) (i : Nat) : Nat → Option Nat := fun j => if j < σ.2.2 i then some (ad (et i) (σ.2.1 i j)) else none
def cellv (X : Xt) (ad : Ad) (σ : Wd) (t i : Nat) : va_E := match t with
  | 0 => .inr (10, [.ref (ad 1 0), .ref (ad 1 1), .ref (ad 4 0), .ref (ad 7 0), .ref (ad 12 0), .ref (ad 19 0), .int (σ.1 0 i 6), .int (σ.1 0 i 7), .int (σ.1 0 i 8), .int (σ.1 0 i 9)])
  | 1 => .inr (0, [.int (σ.1 1 i 0), .ref (elA X ad σ i), .int (nI (σ.2.2 i))])
  | 4 => .inl (X.2.2.1 4, 3, .inr (.inr (.inr (.inr (fun j => some (ad 5 j))))))
  | 5 => .inr (7, [.ref (ad 6 i), .int (σ.1 5 i 1)])
  | 6 => .inl (X.2.2.1 0, 6, .inl (σ.1 6 i))
  | 7 => .inr (8, [.ref (ad 8 0), .ref (ad 10 0)])
  | 8 => .inl (X.2.2.1 2, 3, .inr (.inr (.inr (.inr (fun j => some (ad 9 j))))))
  | 9 => .inr (2, [.int (σ.1 9 i 0), .int (σ.1 9 i 1), .int (σ.1 9 i 2)])
  | 10 => .inl (X.2.2.1 3, 4, .inr (.inr (.inr (.inr (fun j => some (ad 11 j))))))
  | 11 => .inr (6, [.int (σ.1 11 i 0), .int (σ.1 11 i 1)])
  | 12 => .inr (4, [.ref (ad 13 0), .ref (ad 14 0), .ref (ad 15 0), .ref (ad 16 0), .ref (ad 17 0), .ref (ad 18 0), .int (σ.1 12 i 6), .int (σ.1 12 i 7)])
  | 13 => .inl (X.2.2.1 0, 6, .inl (σ.1 13 i))
  | 14 => .inl (X.2.2.1 0, 6, .inl (σ.1 14 i))
  | 15 => .inl (X.2.2.1 0, 6, .inl (σ.1 15 i))
  | 16 => .inl (X.2.2.1 0, 6, .inl (σ.1 16 i))
  | 17 => .inl (X.2.2.1 0, 6, .inl (σ.1 17 i))
  | 18 => .inl (X.2.2.1 0, 448, .inl (σ.1 18 i))
  | 19 => .inr (5, [.ref (ad 20 0)])
  | 20 => .inl (X.2.2.1 0, 1200, .inl (σ.1 20 i))
  | 21 => .inr (9, [.int (σ.1 21 i 0), .ref (ad 1 (i + 2)), .int (σ.1 21 i 2), .int (σ.1 21 i 3), .ref (ad 22 i), .ref (ad 23 i), .ref (ad 24 i)])
  | 22 => .inl (X.2.2.1 0, 3, .inl (σ.1 22 i))
  | 23 => .inl (X.2.2.1 0, 3, .inl (σ.1 23 i))
  | 24 => .inl (X.2.2.1 0, 4, .inl (σ.1 24 i))
  | 25 => .inr (1, [.int (σ.1 25 i 0), .int (σ.1 25 i 1), .int (σ.1 25 i 2), .int (σ.1 25 i 3), .int (σ.1 25 i 4), .int (σ.1 25 i 5)])
  | 26 => .inr (3, [.int (σ.1 26 i 0), .int (σ.1 26 i 1), .int (σ.1 26 i 2), .int (σ.1 26 i 3)])
  | 27 => .inl (X.2.2.1 5, 10, .inr (.inr (.inr (.inr (elF ad σ i)))))
  | 30 => .inr (11, [.int (σ.1 30 i 0), .int (σ.1 30 i 1), .int (σ.1 30 i 2), .int (σ.1 30 i 3), .int (σ.1 30 i 4), .int (σ.1 30 i 5), .ref (ad 31 0), .ref (ad 32 0), .ref (ad 33 0), .ref (ad 34 0), .ref (ad 35 0), .ref (ad 36 0), .ref (ad 37 0), .ref (ad 38 0), .ref (ad 39 0), .ref (ad 40 0), .ref (ad 41 0), .ref (ad 42 0), .ref (ad 43 0), .int (σ.1 30 i 19), .ref (ad 44 0), .ref (ad 45 0), .ref (ad 46 0), .ref (ad 47 0), .ref (ad 48 0), .ref (ad 49 0), .ref (ad 50 0), .ref (ad 51 0), .ref (ad 52 0), .ref (ad 53 0), .ref (ad 54 0), .ref (ad 55 0), .ref (ad 56 0), .ref (ad 57 0), .ref (ad 58 0), .ref (ad 59 0), .ref (ad 60 0), .int (σ.1 30 i 37), .int (σ.1 30 i 38)])
  | 31 => .inl (X.2.2.1 0, 6, .inl (σ.1 31 i))
  | 32 => .inl (X.2.2.1 0, 6, .inl (σ.1 32 i))
  | 33 => .inl (X.2.2.1 0, 6, .inl (σ.1 33 i))
  | 34 => .inl (X.2.2.1 0, 24, .inl (σ.1 34 i))
  | 35 => .inl (X.2.2.1 0, 18, .inl (σ.1 35 i))
  | 36 => .inl (X.2.2.1 0, 18, .inl (σ.1 36 i))
  | 37 => .inl (X.2.2.1 0, 18, .inl (σ.1 37 i))
  | 38 => .inl (X.2.2.1 0, 3, .inl (σ.1 38 i))
  | 39 => .inl (X.2.2.1 0, 6, .inl (σ.1 39 i))
  | 40 => .inl (X.2.2.1 0, 48, .inl (σ.1 40 i))
  | 41 => .inl (X.2.2.1 0, 48, .inl (σ.1 41 i))
  | 42 => .inl (X.2.2.1 0, 48, .inl (σ.1 42 i))
  | 43 => .inl (X.2.2.1 0, 48, .inl (σ.1 43 i))
  | 44 => .inl (X.2.2.1 0, 6, .inl (σ.1 44 i))
  | 45 => .inl (X.2.2.1 0, 6, .inl (σ.1 45 i))
  | 46 => .inl (X.2.2.1 0, 6, .inl (σ.1 46 i))
  | 47 => .inl (X.2.2.1 0, 6, .inl (σ.1 47 i))
  | 48 => .inl (X.2.2.1 0, 6, .inl (σ.1 48 i))
  | 49 => .inl (X.2.2.1 0, 6, .inl (σ.1 49 i))
  | 50 => .inl (X.2.2.1 0, 3, .inl (σ.1 50 i))
  | 51 => .inl (X.2.2.1 0, 3, .inl (σ.1 51 i))
  | 52 => .inl (X.2.2.1 0, 3, .inl (σ.1 52 i))
  | 53 => .inl (X.2.2.1 0, 4, .inl (σ.1 53 i))
  | 54 => .inl (X.2.2.1 0, 4, .inl (σ.1 54 i))
  | 55 => .inl (X.2.2.1 0, 1200, .inl (σ.1 55 i))
  | 56 => .inl (X.2.2.1 0, 6, .inl (σ.1 56 i))
  | 57 => .inl (X.2.2.1 0, 6, .inl (σ.1 57 i))
  | 58 => .inl (X.2.2.1 1, 6, .inl (σ.1 58 i))
  | 59 => .inl (X.2.2.1 1, 36, .inl (σ.1 59 i))
  | 60 => .inl (X.2.2.1 1, 6, .inl (σ.1 60 i))
  | 70 => .inl (X.2.2.1 6, 1, .inr (.inl (fun j => (σ.1 70 i j).toInt64)))
  | _ => .inl (X.2.2.1 0, 0, .inl (fun _ => 0))
/-- how many of a tag there are -/
def lim (σ : Wd) (t : Nat) : Nat := match t with
  | 0 => 1
  | 1 => 2 + σ.2.2 8
  | 4 => 1
  | 5 => 3
  | 6 => 3
  | 7 => 1
  | 8 => 1
  | 9 => 3
  | 10 => 1
  | 11 => 4
  | 12 => 1
  | 13 => 1
  | 14 => 1
  | 15 => 1
  | 16 => 1
  | 17 => 1
  | 18 => 1
  | 19 => 1
  | 20 => 1
  | 21 => σ.2.2 8
  | 22 => σ.2.2 8
  | 23 => σ.2.2 8
  | 24 => σ.2.2 8
  | 25 => σ.2.2 9
  | 26 => σ.2.2 10
  | 27 => 8
  | 30 => 1
  | 31 => 1
  | 32 => 1
  | 33 => 1
  | 34 => 1
  | 35 => 1
  | 36 => 1
  | 37 => 1
  | 38 => 1
  | 39 => 1
  | 40 => 1
  | 41 => 1
  | 42 => 1
  | 43 => 1
  | 44 => 1
  | 45 => 1
  | 46 => 1
  | 47 => 1
  | 48 => 1
  | 49 => 1
  | 50 => 1
  | 51 => 1
  | 52 => 1
  | 53 => 1
  | 54 => 1
  | 55 => 1
  | 56 => 1
  | 57 => 1
  | 58 => 1
  | 59 => 1
  | 60 => 1
  | 70 => 1
  | _ => 0
def lvp (σ : Wd) (t i : Nat) : Prop := i < lim σ t ∧ (t = 27 → σ.2.2 (20 + i) ≠ 0)
/-- a number is written -/
def wr (σ : Wd) (t i k : Nat) (v : Int32) : Wd := (fun t' i' k' => if t' = t ∧ i' = i ∧ k' = k then v else σ.1 t' i' k', σ.2)
theorem wr_same (σ : Wd) (t i k : Nat) (v : Int32) : (wr σ t i k v).1 t i k = v := if_pos ⟨rfl, rfl, rfl⟩
theorem wr_upd (σ : Wd) (t i k : Nat) (v : Int32) : (wr σ t i k v).1 t i = upd (σ.1 t i) k v := by
  funext j
  simp [wr, upd]
theorem wr_off (σ : Wd) {t i k : Nat} {v : Int32} {t' i' : Nat} (h : ¬ (t' = t ∧ i' = i)) : (wr σ t i k v).1 t' i' = σ.1 t' i' := by
  funext j
  simp only [wr]
  rw [if_neg (fun z => h ⟨z.1, z.2.1⟩)]
theorem cellv_eq {X : Xt} {ad : Ad} {σ τ : Wd} {t i : Nat} (h : σ.1 t i = τ.1 t i) (h2 : σ.2 = τ.2) : cellv X ad σ t i = cellv X ad τ t i := by
  unfold cellv elA elF
  split <;> simp only [h, h2]
/-- the world: each thing that there is stands at its place, and no two at one -/
def HW (X : Xt) (ad : Ad) (σ : Wd) (H : Heap) : Prop := (∀ t i, lvp σ t i → va_at X.2.1 vwCl (ad t i, cellv X ad σ t i) H ∧ X.2.2.2.1 ≤ ad t i) ∧ ∀ t i t' i', lvp σ t i → lvp σ t' i' → ad t i = ad t' i' → t = t' ∧ i = i'
theorem HW.kept {X : Xt} {ad : Ad} {σ : Wd} {H H1 : Heap} (h : HW X ad σ H) (hq : ∀ t i, lvp σ t i → H1[ad t i]? = H[ad t i]?) : HW X ad σ H1 := ⟨fun t i hl => ⟨(h.1 t i hl).1.kept (hq t i hl), (h.1 t i hl).2⟩, h.2⟩
theorem HW.put {X : Xt} {ad : Ad} {σ σ1 : Wd} {H H1 : Heap} (h : HW X ad σ H) {t i : Nat} (hl : lvp σ t i) {e : va_E} (he : va_at X.2.1 vwCl (ad t i, e) H1) (oq : ∀ q : Nat, q ≠ ad t i → H1[q]? = H[q]?) (hc : cellv X ad σ1 t i = e) (hs : ∀ t' i', ¬ (t' = t ∧ i' = i) → cellv X ad σ1 t' i' = cellv X ad σ t' i') (hv : ∀ t' i', lvp σ1 t' i' → lvp σ t' i') : HW X ad σ1 H1 := by
  refine ⟨fun t' i' h1 => ?_, fun a b c d h1 h2 h3 => h.2 a b c d (hv a b h1) (hv c d h2) h3⟩
  have h0 := hv t' i' h1
  refine ⟨?_, (h.1 t' i' h0).2⟩
  by_cases hk : t' = t ∧ i' = i
  · obtain ⟨rfl, rfl⟩ := hk
    rw [hc]; exact he
  · rw [hs t' i' hk]
    exact (h.1 t' i' h0).1.kept (oq _ (fun z => hk (h.2 t' i' t i h0 hl z)))
theorem HW.wr {X : Xt} {ad : Ad} {σ : Wd} {H H1 : Heap} (h : HW X ad σ H) {t i k : Nat} {v : Int32} (hl : lvp σ t i) {e : va_E} (he : va_at X.2.1 vwCl (ad t i, e) H1) (oq : ∀ q : Nat, q ≠ ad t i → H1[q]? = H[q]?) (hc : cellv X ad (wr σ t i k v) t i = e) : HW X ad (wr σ t i k v) H1 :=
  h.put hl he oq hc (fun t' i' hn => cellv_eq (wr_off σ hn) rfl) (fun _ _ z => z)
/-! the statics, the texts, the words with premises of their own -/
def strs : List (String × Nat × String) := [("Stablingroad", 280, "no such diagram"), ("Stablingroad", 278, "no such unit"), ("Stablingroad$Rules", 29, "no such exam"), ("Stablingroad$Unit", 95, "no such fault"), ("Stablingroad$Rules", 34, "no such kind"), ("Stablingroad", 282, "no such depot"), ("Stablingroad", 272, "out of its range"), ("Stablingroad", 76, "there are 6 units"), ("Stablingroad", 270, "there is nothing of that number"), ("Stablingroad", 97, "there are 6 diagrams"), ("Stablingroad", 140, "the unit has 8 faults"), ("Stablingroad", 168, "more than 4 diagrams"), ("Stablingroad", 176, "today is the day 200"), ("Stablingroad", 190, "not at the depot 0, or the pit is taken"), ("Stablingroad", 195, "not at the depot 0, or the lathe is taken"), ("Stablingroad", 207, "a flat is turned, not mended"), ("Stablingroad", 228, "there is nothing like that to tell of a unit"), ("Stablingroad", 249, "there is nothing like that to tell of a fault"), ("Stablingroad", 253, "no such place")]
def SF (X : Xt) (U : State) : Prop := vx_Zq Bundle.tN "UNASSIGNED_STACK" Bundle.steD (Az X) U U.heap ∧ vx_Zq Bundle.tN "SUPPRESSED_SENTINEL" Bundle.listD (Az X) U U.heap ∧ va_Z "java/util/ArrayList" "DEFAULTCAPACITY_EMPTY_ELEMENTDATA" "[Ljava/lang/Object;" (.ref X.2.2.2.2) (Az X) U U.heap ∧ va_T (.object "java/lang/Object") X.2.2.2.2 0 (fun _ => .null) (Az X) U U.heap ∧ (∀ q ∈ strs, ∃ sa : Nat, vk_R q.1 q.2.1 q.2.2 sa U) ∧ ∀ w ∈ NW_, va_Nw w U
theorem SF.warm {X : Xt} {s U : State} (h : SF X s) (hW : s.WarmedH U.vm) (hq : ∀ q : Nat, q < s.heap.size → ¬ Az X q → U.heap[q]? = s.heap[q]?) : SF X U := by
  obtain ⟨h1, h2, h3, h4, h5, h6⟩ := h
  exact ⟨vx_Zq.moved hW.alike (h1.kept hq), vx_Zq.moved hW.alike (h2.kept hq), va_Z.moved hW.alike (h3.kept hq), va_T.moved hW.alike (h4.kept hq), fun q hm => (h5 q hm).elim (fun sa z => ⟨sa, vk_R.warm hW z⟩), fun w hw => nwk_warm (List.mem_filter.mp hw).2 hW (h6 w hw)⟩
theorem SF.same {X : Xt} {s U : State} (h : SF X s) (hv : U.vm = s.vm) (hh : U.heap = s.heap) : SF X U := by
  obtain ⟨h1, h2, h3, h4, h5, h6⟩ := h
  have hA : s.vm.Alike U.vm := by rw [hv]; exact Vm.Alike.refl s.vm
  rw [← hh] at h1 h2 h3 h4
  exact ⟨vx_Zq.moved hA h1, vx_Zq.moved hA h2, va_Z.moved hA h3, va_T.moved hA h4, fun q hm => (h5 q hm).elim (fun sa z => ⟨sa, vk_R.same hv z⟩), fun w hw => va_Nw.same (nwk_on (List.mem_filter.mp hw).2) hv.symm (h6 w hw)⟩
def SW (X : Xt) (ad : Ad) (σ : Wd) (U : State) : Prop := HW X ad σ U.heap ∧ va_K X.2.1 vwCl (tysX X) U ∧ SF X U
theorem SW.calling {X : Xt} {ad : Ad} {σ : Wd} {U : State} (h : SW X ad σ U) (g : JFrame) (mk : MethodId) (a : Array Value) : SW X ad σ (U.calling g mk a) :=
  ⟨h.1, va_K.moved (u := U) (U := U.calling g mk a) (Vm.Alike.refl U.vm) h.2.1, h.2.2.same rfl rfl⟩
/-! what a method's end says -/
def xc {α : Type} (kc : Nat × Nat) (r : α ⊕ String) : Nat := match r with
  | .inl _ => kc.1
  | .inr _ => 1
def xs {α : Type} (kc : Nat × Nat) (r : α ⊕ String) : Nat := match r with
  | .inl _ => kc.2
  | .inr _ => 6
def Pn (X : Xt) (ad : Ad) (σ : Wd) (avs : List Value) : Array Value → State → Prop := fun v U => v = avs.toArray ∧ SW X ad σ U
theorem Pn.blind {X : Xt} {ad : Ad} {σ : Wd} {avs : List Value} : FrameBlind (Pn X ad σ avs) := fun a _ g mk h => ⟨h.1, h.2.calling g mk a⟩
def Qn {α : Type} (X : Xt) (fin : Ad → Prop) (val : α → Option Value) (res : α ⊕ String) (σ' : Wd) : Array Value → State → Outcome → State → Prop := fun _ st o t =>
  (∃ v, res = .inl v ∧ o = .returned (val v) ∧ ∃ ad', fin ad' ∧ HW X ad' σ' t.heap) ∧ va_F (Az X) st t
def Qx {α : Type} (X : Xt) (fin : Ad → Prop) (res : α ⊕ String) (σ' : Wd) : String → State → State → Prop := fun E st t =>
  (res = .inr E ∧ ∃ ad', fin ad' ∧ HW X ad' σ' t.heap) ∧ va_F (Az X) st t
/-- a method, by what a function says of its answer -/
def NC {β : Type} (X : Xt) (fin : Ad → Prop) (y : MethodName) (cc : ByteArray) (nL : Nat) (rt : Option FieldType) (fr lo : Nat) (val : β → Option Value) (kc : Nat × Nat) (ad : Ad) (σ : Wd) (avs : List Value) (g : Option ((β ⊕ String) × Wd)) : Prop :=
  ∀ res σ', g = some (res, σ') → vx_Met X.1 y (Cond.code y cc nL rt :: G_) { frames := fr, cells := xc kc res, slots := xs kc res, locals := lo } (Pn X ad σ avs) (Qn X fin val res σ') (Qx X fin res σ') (xc kc res) (xs kc res) (Az X)
/-- what a body stands in -/
def Bod (X : Xt) (cc : ByteArray) (nL : Nat) (own : String) (rt : Option FieldType) (p : Program) (s : State) (m : MethodId) (args : Array Value) (meth : Method) (c : Code) : Prop :=
  p.tables.exec = Jvm.exec ∧ c.code = cc ∧ c.maxLocals = nL ∧ s.vm.findClass own = some m.cls ∧ (∀ w ∈ G_, w.before args s = true) ∧ meth.sig.returnType = rt ∧ meth.locks = false ∧ (∀ x ∈ c.exceptionTable.toList, False) ∧ va_K X.2.1 vwCl (tysX X) s ∧ SF X s ∧ X.1.stackTraces = false
def Bk {α : Type} (X : Xt) (fin : Ad → Prop) (cc : ByteArray) (nL : Nat) (own : String) (rt : Option FieldType) (fr lo : Nat) (val : α → Option Value) (kc cs : Nat × Nat) (ad : Ad) (σ : Wd) (pc : Nat) (lv : List (Nat × Value)) (st : List Value) (f : Option ((α ⊕ String) × Wd)) : Prop :=
  ∀ res σ', f = some (res, σ') → ∀ p e s m args below meth c, Bod X cc nL own rt p s m args meth c → ∀ H locs ls, HW X ad σ H → va_S (Az X) s.heap H locs → lv_has ls nL lv →
    W p X.1 e { frames := fr, cells := xc kc res, slots := xs kc res, locals := lo } s m args below meth c H locs cs.1 cs.2 (vx_MQ below (Qn X fin val res σ') (Qx X fin res σ') args s (xc kc res) (xs kc res) (Az X)) (F0 m pc ls st)
/-- a test that the machine would throw at -/
def gd {β : Type} (c : Prop) [Decidable c] (k : Option β) : Option β := if c then k else none
/-- a name for a state -/
def bd {β γ : Type} (x : β) (k : β → γ) : γ := k x
/-- behind a call -/
def bx {β α : Type} (g : Option ((β ⊕ String) × Wd)) (k : β → Wd → Option ((α ⊕ String) × Wd)) : Option ((α ⊕ String) × Wd) := match g with
  | none => none
  | some (.inl v, σ1) => k v σ1
  | some (.inr E, σ1) => some (.inr E, σ1)
theorem gd_some {β : Type} {c : Prop} [Decidable c] {k : Option β} {r : β} (h : gd c k = some r) : c ∧ k = some r := by
  unfold gd at h
  by_cases hc : c
  · rw [if_pos hc] at h; exact ⟨hc, h⟩
  · rw [if_neg hc] at h; cases h
theorem cell_0 (X : Xt) (ad : Ad) (σ : Wd) (i : Nat) : cellv X ad σ 0 i = .inr (10, [.ref (ad 1 0), .ref (ad 1 1), .ref (ad 4 0), .ref (ad 7 0), .ref (ad 12 0), .ref (ad 19 0), .int (σ.1 0 i 6), .int (σ.1 0 i 7), .int (σ.1 0 i 8), .int (σ.1 0 i 9)]) := rfl
theorem cell_1 (X : Xt) (ad : Ad) (σ : Wd) (i : Nat) : cellv X ad σ 1 i = .inr (0, [.int (σ.1 1 i 0), .ref (elA X ad σ i), .int (nI (σ.2.2 i))]) := rfl
theorem cell_4 (X : Xt) (ad : Ad) (σ : Wd) (i : Nat) : cellv X ad σ 4 i = .inl (X.2.2.1 4, 3, .inr (.inr (.inr (.inr (fun j => some (ad 5 j)))))) := rfl
theorem cell_5 (X : Xt) (ad : Ad) (σ : Wd) (i : Nat) : cellv X ad σ 5 i = .inr (7, [.ref (ad 6 i), .int (σ.1 5 i 1)]) := rfl
theorem cell_6 (X : Xt) (ad : Ad) (σ : Wd) (i : Nat) : cellv X ad σ 6 i = .inl (X.2.2.1 0, 6, .inl (σ.1 6 i)) := rfl
theorem cell_7 (X : Xt) (ad : Ad) (σ : Wd) (i : Nat) : cellv X ad σ 7 i = .inr (8, [.ref (ad 8 0), .ref (ad 10 0)]) := rfl
theorem cell_8 (X : Xt) (ad : Ad) (σ : Wd) (i : Nat) : cellv X ad σ 8 i = .inl (X.2.2.1 2, 3, .inr (.inr (.inr (.inr (fun j => some (ad 9 j)))))) := rfl
theorem cell_9 (X : Xt) (ad : Ad) (σ : Wd) (i : Nat) : cellv X ad σ 9 i = .inr (2, [.int (σ.1 9 i 0), .int (σ.1 9 i 1), .int (σ.1 9 i 2)]) := rfl
theorem cell_10 (X : Xt) (ad : Ad) (σ : Wd) (i : Nat) : cellv X ad σ 10 i = .inl (X.2.2.1 3, 4, .inr (.inr (.inr (.inr (fun j => some (ad 11 j)))))) := rfl
theorem cell_11 (X : Xt) (ad : Ad) (σ : Wd) (i : Nat) : cellv X ad σ 11 i = .inr (6, [.int (σ.1 11 i 0), .int (σ.1 11 i 1)]) := rfl
theorem cell_12 (X : Xt) (ad : Ad) (σ : Wd) (i : Nat) : cellv X ad σ 12 i = .inr (4, [.ref (ad 13 0), .ref (ad 14 0), .ref (ad 15 0), .ref (ad 16 0), .ref (ad 17 0), .ref (ad 18 0), .int (σ.1 12 i 6), .int (σ.1 12 i 7)]) := rfl
theorem cell_13 (X : Xt) (ad : Ad) (σ : Wd) (i : Nat) : cellv X ad σ 13 i = .inl (X.2.2.1 0, 6, .inl (σ.1 13 i)) := rfl
theorem cell_14 (X : Xt) (ad : Ad) (σ : Wd) (i : Nat) : cellv X ad σ 14 i = .inl (X.2.2.1 0, 6, .inl (σ.1 14 i)) := rfl
theorem cell_15 (X : Xt) (ad : Ad) (σ : Wd) (i : Nat) : cellv X ad σ 15 i = .inl (X.2.2.1 0, 6, .inl (σ.1 15 i)) := rfl
theorem cell_16 (X : Xt) (ad : Ad) (σ : Wd) (i : Nat) : cellv X ad σ 16 i = .inl (X.2.2.1 0, 6, .inl (σ.1 16 i)) := rfl
theorem cell_17 (X : Xt) (ad : Ad) (σ : Wd) (i : Nat) : cellv X ad σ 17 i = .inl (X.2.2.1 0, 6, .inl (σ.1 17 i)) := rfl
theorem cell_18 (X : Xt) (ad : Ad) (σ : Wd) (i : Nat) : cellv X ad σ 18 i = .inl (X.2.2.1 0, 448, .inl (σ.1 18 i)) := rfl
theorem cell_19 (X : Xt) (ad : Ad) (σ : Wd) (i : Nat) : cellv X ad σ 19 i = .inr (5, [.ref (ad 20 0)]) := rfl
theorem cell_20 (X : Xt) (ad : Ad) (σ : Wd) (i : Nat) : cellv X ad σ 20 i = .inl (X.2.2.1 0, 1200, .inl (σ.1 20 i)) := rfl
theorem cell_21 (X : Xt) (ad : Ad) (σ : Wd) (i : Nat) : cellv X ad σ 21 i = .inr (9, [.int (σ.1 21 i 0), .ref (ad 1 (i + 2)), .int (σ.1 21 i 2), .int (σ.1 21 i 3), .ref (ad 22 i), .ref (ad 23 i), .ref (ad 24 i)]) := rfl
theorem cell_22 (X : Xt) (ad : Ad) (σ : Wd) (i : Nat) : cellv X ad σ 22 i = .inl (X.2.2.1 0, 3, .inl (σ.1 22 i)) := rfl
theorem cell_23 (X : Xt) (ad : Ad) (σ : Wd) (i : Nat) : cellv X ad σ 23 i = .inl (X.2.2.1 0, 3, .inl (σ.1 23 i)) := rfl
theorem cell_24 (X : Xt) (ad : Ad) (σ : Wd) (i : Nat) : cellv X ad σ 24 i = .inl (X.2.2.1 0, 4, .inl (σ.1 24 i)) := rfl
theorem cell_25 (X : Xt) (ad : Ad) (σ : Wd) (i : Nat) : cellv X ad σ 25 i = .inr (1, [.int (σ.1 25 i 0), .int (σ.1 25 i 1), .int (σ.1 25 i 2), .int (σ.1 25 i 3), .int (σ.1 25 i 4), .int (σ.1 25 i 5)]) := rfl
theorem cell_26 (X : Xt) (ad : Ad) (σ : Wd) (i : Nat) : cellv X ad σ 26 i = .inr (3, [.int (σ.1 26 i 0), .int (σ.1 26 i 1), .int (σ.1 26 i 2), .int (σ.1 26 i 3)]) := rfl
theorem cell_27 (X : Xt) (ad : Ad) (σ : Wd) (i : Nat) : cellv X ad σ 27 i = .inl (X.2.2.1 5, 10, .inr (.inr (.inr (.inr (elF ad σ i))))) := rfl
theorem cell_30 (X : Xt) (ad : Ad) (σ : Wd) (i : Nat) : cellv X ad σ 30 i = .inr (11, [.int (σ.1 30 i 0), .int (σ.1 30 i 1), .int (σ.1 30 i 2), .int (σ.1 30 i 3), .int (σ.1 30 i 4), .int (σ.1 30 i 5), .ref (ad 31 0), .ref (ad 32 0), .ref (ad 33 0), .ref (ad 34 0), .ref (ad 35 0), .ref (ad 36 0), .ref (ad 37 0), .ref (ad 38 0), .ref (ad 39 0), .ref (ad 40 0), .ref (ad 41 0), .ref (ad 42 0), .ref (ad 43 0), .int (σ.1 30 i 19), .ref (ad 44 0), .ref (ad 45 0), .ref (ad 46 0), .ref (ad 47 0), .ref (ad 48 0), .ref (ad 49 0), .ref (ad 50 0), .ref (ad 51 0), .ref (ad 52 0), .ref (ad 53 0), .ref (ad 54 0), .ref (ad 55 0), .ref (ad 56 0), .ref (ad 57 0), .ref (ad 58 0), .ref (ad 59 0), .ref (ad 60 0), .int (σ.1 30 i 37), .int (σ.1 30 i 38)]) := rfl
theorem cell_31 (X : Xt) (ad : Ad) (σ : Wd) (i : Nat) : cellv X ad σ 31 i = .inl (X.2.2.1 0, 6, .inl (σ.1 31 i)) := rfl
theorem cell_32 (X : Xt) (ad : Ad) (σ : Wd) (i : Nat) : cellv X ad σ 32 i = .inl (X.2.2.1 0, 6, .inl (σ.1 32 i)) := rfl
theorem cell_33 (X : Xt) (ad : Ad) (σ : Wd) (i : Nat) : cellv X ad σ 33 i = .inl (X.2.2.1 0, 6, .inl (σ.1 33 i)) := rfl
theorem cell_34 (X : Xt) (ad : Ad) (σ : Wd) (i : Nat) : cellv X ad σ 34 i = .inl (X.2.2.1 0, 24, .inl (σ.1 34 i)) := rfl
theorem cell_35 (X : Xt) (ad : Ad) (σ : Wd) (i : Nat) : cellv X ad σ 35 i = .inl (X.2.2.1 0, 18, .inl (σ.1 35 i)) := rfl
theorem cell_36 (X : Xt) (ad : Ad) (σ : Wd) (i : Nat) : cellv X ad σ 36 i = .inl (X.2.2.1 0, 18, .inl (σ.1 36 i)) := rfl
theorem cell_37 (X : Xt) (ad : Ad) (σ : Wd) (i : Nat) : cellv X ad σ 37 i = .inl (X.2.2.1 0, 18, .inl (σ.1 37 i)) := rfl
theorem cell_38 (X : Xt) (ad : Ad) (σ : Wd) (i : Nat) : cellv X ad σ 38 i = .inl (X.2.2.1 0, 3, .inl (σ.1 38 i)) := rfl
theorem cell_39 (X : Xt) (ad : Ad) (σ : Wd) (i : Nat) : cellv X ad σ 39 i = .inl (X.2.2.1 0, 6, .inl (σ.1 39 i)) := rfl
theorem cell_40 (X : Xt) (ad : Ad) (σ : Wd) (i : Nat) : cellv X ad σ 40 i = .inl (X.2.2.1 0, 48, .inl (σ.1 40 i)) := rfl
theorem cell_41 (X : Xt) (ad : Ad) (σ : Wd) (i : Nat) : cellv X ad σ 41 i = .inl (X.2.2.1 0, 48, .inl (σ.1 41 i)) := rfl
theorem cell_42 (X : Xt) (ad : Ad) (σ : Wd) (i : Nat) : cellv X ad σ 42 i = .inl (X.2.2.1 0, 48, .inl (σ.1 42 i)) := rfl
theorem cell_43 (X : Xt) (ad : Ad) (σ : Wd) (i : Nat) : cellv X ad σ 43 i = .inl (X.2.2.1 0, 48, .inl (σ.1 43 i)) := rfl
theorem cell_44 (X : Xt) (ad : Ad) (σ : Wd) (i : Nat) : cellv X ad σ 44 i = .inl (X.2.2.1 0, 6, .inl (σ.1 44 i)) := rfl
theorem cell_45 (X : Xt) (ad : Ad) (σ : Wd) (i : Nat) : cellv X ad σ 45 i = .inl (X.2.2.1 0, 6, .inl (σ.1 45 i)) := rfl
theorem cell_46 (X : Xt) (ad : Ad) (σ : Wd) (i : Nat) : cellv X ad σ 46 i = .inl (X.2.2.1 0, 6, .inl (σ.1 46 i)) := rfl
theorem cell_47 (X : Xt) (ad : Ad) (σ : Wd) (i : Nat) : cellv X ad σ 47 i = .inl (X.2.2.1 0, 6, .inl (σ.1 47 i)) := rfl
theorem cell_48 (X : Xt) (ad : Ad) (σ : Wd) (i : Nat) : cellv X ad σ 48 i = .inl (X.2.2.1 0, 6, .inl (σ.1 48 i)) := rfl
theorem cell_49 (X : Xt) (ad : Ad) (σ : Wd) (i : Nat) : cellv X ad σ 49 i = .inl (X.2.2.1 0, 6, .inl (σ.1 49 i)) := rfl
theorem cell_50 (X : Xt) (ad : Ad) (σ : Wd) (i : Nat) : cellv X ad σ 50 i = .inl (X.2.2.1 0, 3, .inl (σ.1 50 i)) := rfl
theorem cell_51 (X : Xt) (ad : Ad) (σ : Wd) (i : Nat) : cellv X ad σ 51 i = .inl (X.2.2.1 0, 3, .inl (σ.1 51 i)) := rfl
theorem cell_52 (X : Xt) (ad : Ad) (σ : Wd) (i : Nat) : cellv X ad σ 52 i = .inl (X.2.2.1 0, 3, .inl (σ.1 52 i)) := rfl
theorem cell_53 (X : Xt) (ad : Ad) (σ : Wd) (i : Nat) : cellv X ad σ 53 i = .inl (X.2.2.1 0, 4, .inl (σ.1 53 i)) := rfl
theorem cell_54 (X : Xt) (ad : Ad) (σ : Wd) (i : Nat) : cellv X ad σ 54 i = .inl (X.2.2.1 0, 4, .inl (σ.1 54 i)) := rfl
theorem cell_55 (X : Xt) (ad : Ad) (σ : Wd) (i : Nat) : cellv X ad σ 55 i = .inl (X.2.2.1 0, 1200, .inl (σ.1 55 i)) := rfl
theorem cell_56 (X : Xt) (ad : Ad) (σ : Wd) (i : Nat) : cellv X ad σ 56 i = .inl (X.2.2.1 0, 6, .inl (σ.1 56 i)) := rfl
theorem cell_57 (X : Xt) (ad : Ad) (σ : Wd) (i : Nat) : cellv X ad σ 57 i = .inl (X.2.2.1 0, 6, .inl (σ.1 57 i)) := rfl
theorem cell_58 (X : Xt) (ad : Ad) (σ : Wd) (i : Nat) : cellv X ad σ 58 i = .inl (X.2.2.1 1, 6, .inl (σ.1 58 i)) := rfl
theorem cell_59 (X : Xt) (ad : Ad) (σ : Wd) (i : Nat) : cellv X ad σ 59 i = .inl (X.2.2.1 1, 36, .inl (σ.1 59 i)) := rfl
theorem cell_60 (X : Xt) (ad : Ad) (σ : Wd) (i : Nat) : cellv X ad σ 60 i = .inl (X.2.2.1 1, 6, .inl (σ.1 60 i)) := rfl
theorem cell_70 (X : Xt) (ad : Ad) (σ : Wd) (i : Nat) : cellv X ad σ 70 i = .inl (X.2.2.1 6, 1, .inr (.inl (fun j => (σ.1 70 i j).toInt64))) := rfl
theorem ia_6 (X : Xt) (ad : Ad) (i : Nat) : ∀ σ, cellv X ad σ 6 i = .inl (X.2.2.1 0, 6, .inl (σ.1 6 i)) := fun _ => rfl
theorem ia_13 (X : Xt) (ad : Ad) (i : Nat) : ∀ σ, cellv X ad σ 13 i = .inl (X.2.2.1 0, 6, .inl (σ.1 13 i)) := fun _ => rfl
theorem ia_14 (X : Xt) (ad : Ad) (i : Nat) : ∀ σ, cellv X ad σ 14 i = .inl (X.2.2.1 0, 6, .inl (σ.1 14 i)) := fun _ => rfl
theorem ia_15 (X : Xt) (ad : Ad) (i : Nat) : ∀ σ, cellv X ad σ 15 i = .inl (X.2.2.1 0, 6, .inl (σ.1 15 i)) := fun _ => rfl
theorem ia_16 (X : Xt) (ad : Ad) (i : Nat) : ∀ σ, cellv X ad σ 16 i = .inl (X.2.2.1 0, 6, .inl (σ.1 16 i)) := fun _ => rfl
theorem ia_17 (X : Xt) (ad : Ad) (i : Nat) : ∀ σ, cellv X ad σ 17 i = .inl (X.2.2.1 0, 6, .inl (σ.1 17 i)) := fun _ => rfl
theorem ia_18 (X : Xt) (ad : Ad) (i : Nat) : ∀ σ, cellv X ad σ 18 i = .inl (X.2.2.1 0, 448, .inl (σ.1 18 i)) := fun _ => rfl
theorem ia_20 (X : Xt) (ad : Ad) (i : Nat) : ∀ σ, cellv X ad σ 20 i = .inl (X.2.2.1 0, 1200, .inl (σ.1 20 i)) := fun _ => rfl
theorem ia_22 (X : Xt) (ad : Ad) (i : Nat) : ∀ σ, cellv X ad σ 22 i = .inl (X.2.2.1 0, 3, .inl (σ.1 22 i)) := fun _ => rfl
theorem ia_23 (X : Xt) (ad : Ad) (i : Nat) : ∀ σ, cellv X ad σ 23 i = .inl (X.2.2.1 0, 3, .inl (σ.1 23 i)) := fun _ => rfl
theorem ia_24 (X : Xt) (ad : Ad) (i : Nat) : ∀ σ, cellv X ad σ 24 i = .inl (X.2.2.1 0, 4, .inl (σ.1 24 i)) := fun _ => rfl
theorem ia_31 (X : Xt) (ad : Ad) (i : Nat) : ∀ σ, cellv X ad σ 31 i = .inl (X.2.2.1 0, 6, .inl (σ.1 31 i)) := fun _ => rfl
theorem ia_32 (X : Xt) (ad : Ad) (i : Nat) : ∀ σ, cellv X ad σ 32 i = .inl (X.2.2.1 0, 6, .inl (σ.1 32 i)) := fun _ => rfl
theorem ia_33 (X : Xt) (ad : Ad) (i : Nat) : ∀ σ, cellv X ad σ 33 i = .inl (X.2.2.1 0, 6, .inl (σ.1 33 i)) := fun _ => rfl
theorem ia_34 (X : Xt) (ad : Ad) (i : Nat) : ∀ σ, cellv X ad σ 34 i = .inl (X.2.2.1 0, 24, .inl (σ.1 34 i)) := fun _ => rfl
theorem ia_35 (X : Xt) (ad : Ad) (i : Nat) : ∀ σ, cellv X ad σ 35 i = .inl (X.2.2.1 0, 18, .inl (σ.1 35 i)) := fun _ => rfl
theorem ia_36 (X : Xt) (ad : Ad) (i : Nat) : ∀ σ, cellv X ad σ 36 i = .inl (X.2.2.1 0, 18, .inl (σ.1 36 i)) := fun _ => rfl
theorem ia_37 (X : Xt) (ad : Ad) (i : Nat) : ∀ σ, cellv X ad σ 37 i = .inl (X.2.2.1 0, 18, .inl (σ.1 37 i)) := fun _ => rfl
theorem ia_38 (X : Xt) (ad : Ad) (i : Nat) : ∀ σ, cellv X ad σ 38 i = .inl (X.2.2.1 0, 3, .inl (σ.1 38 i)) := fun _ => rfl
theorem ia_39 (X : Xt) (ad : Ad) (i : Nat) : ∀ σ, cellv X ad σ 39 i = .inl (X.2.2.1 0, 6, .inl (σ.1 39 i)) := fun _ => rfl
theorem ia_40 (X : Xt) (ad : Ad) (i : Nat) : ∀ σ, cellv X ad σ 40 i = .inl (X.2.2.1 0, 48, .inl (σ.1 40 i)) := fun _ => rfl
theorem ia_41 (X : Xt) (ad : Ad) (i : Nat) : ∀ σ, cellv X ad σ 41 i = .inl (X.2.2.1 0, 48, .inl (σ.1 41 i)) := fun _ => rfl
theorem ia_42 (X : Xt) (ad : Ad) (i : Nat) : ∀ σ, cellv X ad σ 42 i = .inl (X.2.2.1 0, 48, .inl (σ.1 42 i)) := fun _ => rfl
theorem ia_43 (X : Xt) (ad : Ad) (i : Nat) : ∀ σ, cellv X ad σ 43 i = .inl (X.2.2.1 0, 48, .inl (σ.1 43 i)) := fun _ => rfl
theorem ia_44 (X : Xt) (ad : Ad) (i : Nat) : ∀ σ, cellv X ad σ 44 i = .inl (X.2.2.1 0, 6, .inl (σ.1 44 i)) := fun _ => rfl
theorem ia_45 (X : Xt) (ad : Ad) (i : Nat) : ∀ σ, cellv X ad σ 45 i = .inl (X.2.2.1 0, 6, .inl (σ.1 45 i)) := fun _ => rfl
theorem ia_46 (X : Xt) (ad : Ad) (i : Nat) : ∀ σ, cellv X ad σ 46 i = .inl (X.2.2.1 0, 6, .inl (σ.1 46 i)) := fun _ => rfl
theorem ia_47 (X : Xt) (ad : Ad) (i : Nat) : ∀ σ, cellv X ad σ 47 i = .inl (X.2.2.1 0, 6, .inl (σ.1 47 i)) := fun _ => rfl
theorem ia_48 (X : Xt) (ad : Ad) (i : Nat) : ∀ σ, cellv X ad σ 48 i = .inl (X.2.2.1 0, 6, .inl (σ.1 48 i)) := fun _ => rfl
theorem ia_49 (X : Xt) (ad : Ad) (i : Nat) : ∀ σ, cellv X ad σ 49 i = .inl (X.2.2.1 0, 6, .inl (σ.1 49 i)) := fun _ => rfl
theorem ia_50 (X : Xt) (ad : Ad) (i : Nat) : ∀ σ, cellv X ad σ 50 i = .inl (X.2.2.1 0, 3, .inl (σ.1 50 i)) := fun _ => rfl
theorem ia_51 (X : Xt) (ad : Ad) (i : Nat) : ∀ σ, cellv X ad σ 51 i = .inl (X.2.2.1 0, 3, .inl (σ.1 51 i)) := fun _ => rfl
theorem ia_52 (X : Xt) (ad : Ad) (i : Nat) : ∀ σ, cellv X ad σ 52 i = .inl (X.2.2.1 0, 3, .inl (σ.1 52 i)) := fun _ => rfl
theorem ia_53 (X : Xt) (ad : Ad) (i : Nat) : ∀ σ, cellv X ad σ 53 i = .inl (X.2.2.1 0, 4, .inl (σ.1 53 i)) := fun _ => rfl
theorem ia_54 (X : Xt) (ad : Ad) (i : Nat) : ∀ σ, cellv X ad σ 54 i = .inl (X.2.2.1 0, 4, .inl (σ.1 54 i)) := fun _ => rfl
theorem ia_55 (X : Xt) (ad : Ad) (i : Nat) : ∀ σ, cellv X ad σ 55 i = .inl (X.2.2.1 0, 1200, .inl (σ.1 55 i)) := fun _ => rfl
theorem ia_56 (X : Xt) (ad : Ad) (i : Nat) : ∀ σ, cellv X ad σ 56 i = .inl (X.2.2.1 0, 6, .inl (σ.1 56 i)) := fun _ => rfl
theorem ia_57 (X : Xt) (ad : Ad) (i : Nat) : ∀ σ, cellv X ad σ 57 i = .inl (X.2.2.1 0, 6, .inl (σ.1 57 i)) := fun _ => rfl
theorem ia_58 (X : Xt) (ad : Ad) (i : Nat) : ∀ σ, cellv X ad σ 58 i = .inl (X.2.2.1 1, 6, .inl (σ.1 58 i)) := fun _ => rfl
theorem ia_59 (X : Xt) (ad : Ad) (i : Nat) : ∀ σ, cellv X ad σ 59 i = .inl (X.2.2.1 1, 36, .inl (σ.1 59 i)) := fun _ => rfl
theorem ia_60 (X : Xt) (ad : Ad) (i : Nat) : ∀ σ, cellv X ad σ 60 i = .inl (X.2.2.1 1, 6, .inl (σ.1 60 i)) := fun _ => rfl
end
section
theorem va_P1 {D : va_G} {cl : List vw_C} {q : Nat × va_E} {H : Heap} (h : va_at D cl q H) : va_P D cl [q] H := fun k q' hk => by
  cases k with
  | zero => cases hk; exact h
  | succ k => simp at hk
abbrev inb (j : Int32) (n : Nat) : Prop := ¬ j < 0 ∧ j.toNatClampNeg < n
theorem inb_vp {j : Int32} {n : Nat} (h : inb j n) : vp_in j n := fun q => q.elim (fun z => h.1 z) (fun z => Nat.lt_irrefl _ (Nat.lt_of_lt_of_le h.2 z))
theorem NC.intro {β : Type} {X : Xt} {fin : Ad → Prop} {y : MethodName} {cc : ByteArray} {nL : Nat} {rt : Option FieldType} {fr lo : Nat} {val : β → Option Value} {kc : Nat × Nat} {ad : Ad} {σ : Wd} {avs : List Value} {g : Option ((β ⊕ String) × Wd)} (own : String) (ho : y.cls = own) (hst : X.1.stackTraces = false) (hy : plainName y.cls = true) (hlen : (lg_sl avs).length ≤ nL) {lv : List (Nat × Value)} (hlv : lv_args 0 avs = lv)
    (k : Bk X fin cc nL own rt fr lo val kc (0, 0) ad σ 0 lv [] g) : NC X fin y cc nL rt fr lo val kc ad σ avs g := by
  subst ho
  intro res σ' hg
  refine vx_ofW (cc := cc) (maxL := nL) (ret := rt) hy rfl ?_
  intro p e s m args below meth c s₁ B hml htab hv
  obtain ⟨rfl, hHW, hK, hSF⟩ := hv
  have hts0 := atoms_spec (ws := Cond.code y cc nL rt :: G_) B.pre
  have hB : Bod X cc nL y.cls rt p s m avs.toArray meth c := ⟨B.exec, B.bytes, hml, findClass_of_methodNamed B.named, fun w hw => hts0 w (List.mem_cons_of_mem _ hw), B.returns, B.notSynchronized, htab, hK, hSF, hst⟩
  rw [lg_entry_eq]
  exact k res σ' hg p e s m _ below meth c hB s.heap [] _ hHW va_S.rf (hlv ▸ lv_entry avs hlen)
section RBK
variable {α : Type} {X : Xt} {fin : Ad → Prop} {cc : ByteArray} {nL : Nat} {own : String} {rt : Option FieldType} {fr lo : Nat} {val : α → Option Value} {kc cs : Nat × Nat} {ad : Ad} {σ : Wd} {pc : Nat} {lv : List (Nat × Value)} {st : List Value} {f f1 f2 : Option ((α ⊕ String) × Wd)}
theorem r_none : Bk X fin cc nL own rt fr lo val kc cs ad σ pc lv st none := fun _ _ h => nomatch h
theorem r_gd {c : Prop} [Decidable c] (k : c → Bk X fin cc nL own rt fr lo val kc cs ad σ pc lv st f) : Bk X fin cc nL own rt fr lo val kc cs ad σ pc lv st (gd c f) := fun res σ' h => k (gd_some h).1 res σ' (gd_some h).2
theorem r_sub {lv' : List (Nat × Value)} (ks : List Nat) (hk : lv_pick lv ks = lv') (k : Bk X fin cc nL own rt fr lo val kc cs ad σ pc lv' st f) : Bk X fin cc nL own rt fr lo val kc cs ad σ pc lv st f :=
  fun res σ' h p e s m args below meth c B H locs ls hH hS hl => k res σ' h p e s m args below meth c B H locs ls hH hS (lv_sub hl ks hk)
theorem r_bd {γ : Type} {x : γ} {kf : γ → Option ((α ⊕ String) × Wd)} (k : Bk X fin cc nL own rt fr lo val kc cs ad σ pc lv st (kf x)) : Bk X fin cc nL own rt fr lo val kc cs ad σ pc lv st (bd x kf) := k
theorem r_iconst {n : Int} (v : Int32) (hv : Int32.ofInt n = v) (hd : decode cc pc = .ok (.iconst n, 1)) (k : Bk X fin cc nL own rt fr lo val kc cs ad σ (pc + 1) lv (.int v :: st) f) : Bk X fin cc nL own rt fr lo val kc cs ad σ pc lv st f :=
  fun res σ' h p e s m args below meth c B H locs ls hH hS hl => lv_iconst B.1 B.2.1 hd hv (k res σ' h p e s m args below meth c B H locs ls hH hS hl)
theorem r_bipush {n : Int} (v : Int32) (hv : (Int8.ofInt n).toInt32 = v) (hd : decode cc pc = .ok (.bipush n, 2)) (k : Bk X fin cc nL own rt fr lo val kc cs ad σ (pc + 2) lv (.int v :: st) f) : Bk X fin cc nL own rt fr lo val kc cs ad σ pc lv st f :=
  fun res σ' h p e s m args below meth c B H locs ls hH hS hl => lv_bipush B.1 B.2.1 hd hv (k res σ' h p e s m args below meth c B H locs ls hH hS hl)
theorem r_sipush {n : Int} (v : Int32) (hv : (Int16.ofInt n).toInt32 = v) (hd : decode cc pc = .ok (.sipush n, 3)) (k : Bk X fin cc nL own rt fr lo val kc cs ad σ (pc + 3) lv (.int v :: st) f) : Bk X fin cc nL own rt fr lo val kc cs ad σ pc lv st f :=
  fun res σ' h p e s m args below meth c B H locs ls hH hS hl => lv_sipush B.1 B.2.1 hd hv (k res σ' h p e s m args below meth c B H locs ls hH hS hl)
theorem r_ldc {index : Nat} (v : Int32) (w : Cond.constant own index v ∈ G_) (hd : decode cc pc = .ok (.ldc index, 2)) (k : Bk X fin cc nL own rt fr lo val kc cs ad σ (pc + 2) lv (.int v :: st) f) : Bk X fin cc nL own rt fr lo val kc cs ad σ pc lv st f :=
  fun res σ' h p e s m args below meth c B H locs ls hH hS hl => lv_ldc B.1 B.2.1 B.2.2.2.1 (B.2.2.2.2.1 _ w) hd (k res σ' h p e s m args below meth c B H locs ls hH hS hl)
theorem r_null (hd : decode cc pc = .ok (.aconst_null, 1)) (k : Bk X fin cc nL own rt fr lo val kc cs ad σ (pc + 1) lv (.null :: st) f) : Bk X fin cc nL own rt fr lo val kc cs ad σ pc lv st f :=
  fun res σ' h p e s m args below meth c B H locs ls hH hS hl => lv_null B.1 B.2.1 hd (k res σ' h p e s m args below meth c B H locs ls hH hS hl)
theorem r_iload_n {j : Fin 4} {x : Int32} (q : Nat) (hq : lv[q]? = some ((j : Nat), .int x)) (hd : decode cc pc = .ok (.iload_n j, 1)) (k : Bk X fin cc nL own rt fr lo val kc cs ad σ (pc + 1) lv (.int x :: st) f) : Bk X fin cc nL own rt fr lo val kc cs ad σ pc lv st f :=
  fun res σ' h p e s m args below meth c B H locs ls hH hS hl => lv_iload_n B.1 B.2.1 hd rfl (lv_at hl q hq) (k res σ' h p e s m args below meth c B H locs ls hH hS hl)
theorem r_iload {j : Nat} {x : Int32} (q : Nat) (hq : lv[q]? = some (j, .int x)) (hd : decode cc pc = .ok (.iload j, 2)) (k : Bk X fin cc nL own rt fr lo val kc cs ad σ (pc + 2) lv (.int x :: st) f) : Bk X fin cc nL own rt fr lo val kc cs ad σ pc lv st f :=
  fun res σ' h p e s m args below meth c B H locs ls hH hS hl => lv_iload B.1 B.2.1 hd (lv_at hl q hq) (k res σ' h p e s m args below meth c B H locs ls hH hS hl)
theorem r_aload_n {j : Fin 4} {x : Nat} (q : Nat) (hq : lv[q]? = some ((j : Nat), .ref x)) (hd : decode cc pc = .ok (.aload_n j, 1)) (k : Bk X fin cc nL own rt fr lo val kc cs ad σ (pc + 1) lv (.ref x :: st) f) : Bk X fin cc nL own rt fr lo val kc cs ad σ pc lv st f :=
  fun res σ' h p e s m args below meth c B H locs ls hH hS hl => lv_aload_n B.1 B.2.1 hd rfl (lv_at hl q hq) (k res σ' h p e s m args below meth c B H locs ls hH hS hl)
theorem r_aload {j : Nat} {x : Nat} (q : Nat) (hq : lv[q]? = some (j, .ref x)) (hd : decode cc pc = .ok (.aload j, 2)) (k : Bk X fin cc nL own rt fr lo val kc cs ad σ (pc + 2) lv (.ref x :: st) f) : Bk X fin cc nL own rt fr lo val kc cs ad σ pc lv st f :=
  fun res σ' h p e s m args below meth c B H locs ls hH hS hl => lv_aload B.1 B.2.1 hd (lv_at hl q hq) (k res σ' h p e s m args below meth c B H locs ls hH hS hl)
theorem r_aload_nN {j : Fin 4} (q : Nat) (hq : lv[q]? = some ((j : Nat), .null)) (hd : decode cc pc = .ok (.aload_n j, 1)) (k : Bk X fin cc nL own rt fr lo val kc cs ad σ (pc + 1) lv (.null :: st) f) : Bk X fin cc nL own rt fr lo val kc cs ad σ pc lv st f :=
  fun res σ' h p e s m args below meth c B H locs ls hH hS hl => lv_aload_nN B.1 B.2.1 hd rfl (lv_at hl q hq) (k res σ' h p e s m args below meth c B H locs ls hH hS hl)
theorem r_istore_n {j : Fin 4} {x : Int32} (lv' : List (Nat × Value)) (hl' : ((j : Nat), Value.int x) :: lv.filter (fun q => !(q.1 == (j : Nat)) && !(q.1 + 1 == (j : Nat) && q.2.category == 2)) = lv') (hn : (j : Nat) < nL) (hd : decode cc pc = .ok (.istore_n j, 1)) (k : Bk X fin cc nL own rt fr lo val kc cs ad σ (pc + 1) lv' st f) : Bk X fin cc nL own rt fr lo val kc cs ad σ pc lv (.int x :: st) f :=
  fun res σ' h p e s m args below meth c B H locs ls hH hS hl => lv_istore_n B.1 B.2.1 hd rfl hl hn hl' (fun ls' hl2 => k res σ' h p e s m args below meth c B H locs ls' hH hS hl2)
theorem r_istore {j : Nat} {x : Int32} (lv' : List (Nat × Value)) (hl' : (j, Value.int x) :: lv.filter (fun q => !(q.1 == j) && !(q.1 + 1 == j && q.2.category == 2)) = lv') (hn : j < nL) (hd : decode cc pc = .ok (.istore j, 2)) (k : Bk X fin cc nL own rt fr lo val kc cs ad σ (pc + 2) lv' st f) : Bk X fin cc nL own rt fr lo val kc cs ad σ pc lv (.int x :: st) f :=
  fun res σ' h p e s m args below meth c B H locs ls hH hS hl => lv_istore B.1 B.2.1 hd hl hn hl' (fun ls' hl2 => k res σ' h p e s m args below meth c B H locs ls' hH hS hl2)
theorem r_astore_n {j : Fin 4} {x : Nat} (lv' : List (Nat × Value)) (hl' : ((j : Nat), Value.ref x) :: lv.filter (fun q => !(q.1 == (j : Nat)) && !(q.1 + 1 == (j : Nat) && q.2.category == 2)) = lv') (hn : (j : Nat) < nL) (hd : decode cc pc = .ok (.astore_n j, 1)) (k : Bk X fin cc nL own rt fr lo val kc cs ad σ (pc + 1) lv' st f) : Bk X fin cc nL own rt fr lo val kc cs ad σ pc lv (.ref x :: st) f :=
  fun res σ' h p e s m args below meth c B H locs ls hH hS hl => lv_astore_n B.1 B.2.1 hd rfl hl hn hl' (fun ls' hl2 => k res σ' h p e s m args below meth c B H locs ls' hH hS hl2)
theorem r_astore {j : Nat} {x : Nat} (lv' : List (Nat × Value)) (hl' : (j, Value.ref x) :: lv.filter (fun q => !(q.1 == j) && !(q.1 + 1 == j && q.2.category == 2)) = lv') (hn : j < nL) (hd : decode cc pc = .ok (.astore j, 2)) (k : Bk X fin cc nL own rt fr lo val kc cs ad σ (pc + 2) lv' st f) : Bk X fin cc nL own rt fr lo val kc cs ad σ pc lv (.ref x :: st) f :=
  fun res σ' h p e s m args below meth c B H locs ls hH hS hl => lv_astore B.1 B.2.1 hd hl hn hl' (fun ls' hl2 => k res σ' h p e s m args below meth c B H locs ls' hH hS hl2)
theorem r_astore_nN {j : Fin 4} (lv' : List (Nat × Value)) (hl' : ((j : Nat), Value.null) :: lv.filter (fun q => !(q.1 == (j : Nat)) && !(q.1 + 1 == (j : Nat) && q.2.category == 2)) = lv') (hn : (j : Nat) < nL) (hd : decode cc pc = .ok (.astore_n j, 1)) (k : Bk X fin cc nL own rt fr lo val kc cs ad σ (pc + 1) lv' st f) : Bk X fin cc nL own rt fr lo val kc cs ad σ pc lv (.null :: st) f :=
  fun res σ' h p e s m args below meth c B H locs ls hH hS hl => lv_astore_nN B.1 B.2.1 hd rfl hl hn hl' (fun ls' hl2 => k res σ' h p e s m args below meth c B H locs ls' hH hS hl2)
theorem r_iinc {i : Nat} {n : Int} {x : Int32} (d : Int32) (lv' : List (Nat × Value)) (q : Nat) (hq : lv[q]? = some (i, .int x)) (hdv : Int32.ofInt n = d) (hl' : (i, Value.int (x + d)) :: lv.filter (fun q => !(q.1 == i) && !(q.1 + 1 == i && q.2.category == 2)) = lv') (hn : i < nL) (hd : decode cc pc = .ok (.iinc i n, 3)) (k : Bk X fin cc nL own rt fr lo val kc cs ad σ (pc + 3) lv' st f) : Bk X fin cc nL own rt fr lo val kc cs ad σ pc lv st f :=
  fun res σ' h p e s m args below meth c B H locs ls hH hS hl => lv_iinc B.1 B.2.1 hd hl hq (by rw [hdv]) hn hl' (fun ls' hl2 => k res σ' h p e s m args below meth c B H locs ls' hH hS hl2)
theorem r_iadd {x y : Int32} (hd : decode cc pc = .ok (.iadd, 1)) (k : Bk X fin cc nL own rt fr lo val kc cs ad σ (pc + 1) lv (.int (x + y) :: st) f) : Bk X fin cc nL own rt fr lo val kc cs ad σ pc lv (.int y :: .int x :: st) f :=
  fun res σ' h p e s m args below meth c B H locs ls hH hS hl => lv_iadd B.1 B.2.1 hd (k res σ' h p e s m args below meth c B H locs ls hH hS hl)
theorem r_isub {x y : Int32} (hd : decode cc pc = .ok (.isub, 1)) (k : Bk X fin cc nL own rt fr lo val kc cs ad σ (pc + 1) lv (.int (x - y) :: st) f) : Bk X fin cc nL own rt fr lo val kc cs ad σ pc lv (.int y :: .int x :: st) f :=
  fun res σ' h p e s m args below meth c B H locs ls hH hS hl => lv_isub B.1 B.2.1 hd (k res σ' h p e s m args below meth c B H locs ls hH hS hl)
theorem r_imul {x y : Int32} (hd : decode cc pc = .ok (.imul, 1)) (k : Bk X fin cc nL own rt fr lo val kc cs ad σ (pc + 1) lv (.int (x * y) :: st) f) : Bk X fin cc nL own rt fr lo val kc cs ad σ pc lv (.int y :: .int x :: st) f :=
  fun res σ' h p e s m args below meth c B H locs ls hH hS hl => lv_imul B.1 B.2.1 hd (k res σ' h p e s m args below meth c B H locs ls hH hS hl)
theorem r_iand {x y : Int32} (hd : decode cc pc = .ok (.iand, 1)) (k : Bk X fin cc nL own rt fr lo val kc cs ad σ (pc + 1) lv (.int (x &&& y) :: st) f) : Bk X fin cc nL own rt fr lo val kc cs ad σ pc lv (.int y :: .int x :: st) f :=
  fun res σ' h p e s m args below meth c B H locs ls hH hS hl => lv_iand B.1 B.2.1 hd (k res σ' h p e s m args below meth c B H locs ls hH hS hl)
theorem r_ior {x y : Int32} (hd : decode cc pc = .ok (.ior, 1)) (k : Bk X fin cc nL own rt fr lo val kc cs ad σ (pc + 1) lv (.int (x ||| y) :: st) f) : Bk X fin cc nL own rt fr lo val kc cs ad σ pc lv (.int y :: .int x :: st) f :=
  fun res σ' h p e s m args below meth c B H locs ls hH hS hl => lv_ior B.1 B.2.1 hd (k res σ' h p e s m args below meth c B H locs ls hH hS hl)
theorem r_ixor {x y : Int32} (hd : decode cc pc = .ok (.ixor, 1)) (k : Bk X fin cc nL own rt fr lo val kc cs ad σ (pc + 1) lv (.int (x ^^^ y) :: st) f) : Bk X fin cc nL own rt fr lo val kc cs ad σ pc lv (.int y :: .int x :: st) f :=
  fun res σ' h p e s m args below meth c B H locs ls hH hS hl => lv_ixor B.1 B.2.1 hd (k res σ' h p e s m args below meth c B H locs ls hH hS hl)
theorem r_ishl {x y : Int32} (hd : decode cc pc = .ok (.ishl, 1)) (k : Bk X fin cc nL own rt fr lo val kc cs ad σ (pc + 1) lv (.int (x <<< (y &&& 31)) :: st) f) : Bk X fin cc nL own rt fr lo val kc cs ad σ pc lv (.int y :: .int x :: st) f :=
  fun res σ' h p e s m args below meth c B H locs ls hH hS hl => lv_ishl B.1 B.2.1 hd (k res σ' h p e s m args below meth c B H locs ls hH hS hl)
theorem r_ishr {x y : Int32} (hd : decode cc pc = .ok (.ishr, 1)) (k : Bk X fin cc nL own rt fr lo val kc cs ad σ (pc + 1) lv (.int (x >>> (y &&& 31)) :: st) f) : Bk X fin cc nL own rt fr lo val kc cs ad σ pc lv (.int y :: .int x :: st) f :=
  fun res σ' h p e s m args below meth c B H locs ls hH hS hl => lv_ishr B.1 B.2.1 hd (k res σ' h p e s m args below meth c B H locs ls hH hS hl)
theorem r_idiv {x y : Int32} (hne : ¬ y = 0) (hd : decode cc pc = .ok (.idiv, 1)) (k : Bk X fin cc nL own rt fr lo val kc cs ad σ (pc + 1) lv (.int (x / y) :: st) f) : Bk X fin cc nL own rt fr lo val kc cs ad σ pc lv (.int y :: .int x :: st) f :=
  fun res σ' h p e s m args below meth c B H locs ls hH hS hl => lv_idiv B.1 B.2.1 hd hne (k res σ' h p e s m args below meth c B H locs ls hH hS hl)
theorem r_dup {v : Value} (hv : v.category = 1) (hd : decode cc pc = .ok (.dup, 1)) (k : Bk X fin cc nL own rt fr lo val kc cs ad σ (pc + 1) lv (v :: v :: st) f) : Bk X fin cc nL own rt fr lo val kc cs ad σ pc lv (v :: st) f :=
  fun res σ' h p e s m args below meth c B H locs ls hH hS hl => lv_dup B.1 B.2.1 hd hv (k res σ' h p e s m args below meth c B H locs ls hH hS hl)
theorem r_pop {v : Value} (hv : v.category = 1) (hd : decode cc pc = .ok (.pop, 1)) (k : Bk X fin cc nL own rt fr lo val kc cs ad σ (pc + 1) lv st f) : Bk X fin cc nL own rt fr lo val kc cs ad σ pc lv (v :: st) f :=
  fun res σ' h p e s m args below meth c B H locs ls hH hS hl => lv_pop B.1 B.2.1 hd hv (k res σ' h p e s m args below meth c B H locs ls hH hS hl)
theorem r_dup2 {v w : Value} (hv : v.category = 1) (hw : w.category = 1) (hd : decode cc pc = .ok (.dup2, 1)) (k : Bk X fin cc nL own rt fr lo val kc cs ad σ (pc + 1) lv (v :: w :: v :: w :: st) f) : Bk X fin cc nL own rt fr lo val kc cs ad σ pc lv (v :: w :: st) f :=
  fun res σ' h p e s m args below meth c B H locs ls hH hS hl => lv_dup2_11 B.1 B.2.1 hd hv hw (k res σ' h p e s m args below meth c B H locs ls hH hS hl)
theorem r_dup_x1 {v w : Value} (hv : v.category = 1) (hw : w.category = 1) (hd : decode cc pc = .ok (.dup_x1, 1)) (k : Bk X fin cc nL own rt fr lo val kc cs ad σ (pc + 1) lv (v :: w :: v :: st) f) : Bk X fin cc nL own rt fr lo val kc cs ad σ pc lv (v :: w :: st) f :=
  fun res σ' h p e s m args below meth c B H locs ls hH hS hl => lv_dup_x1 B.1 B.2.1 hd hv hw (k res σ' h p e s m args below meth c B H locs ls hH hS hl)
theorem r_goto {off : Int} (tgt : Nat) (hd : decode cc pc = .ok (.goto off, 3)) (ht : (pc : Int) + off = (tgt : Int)) (k : Bk X fin cc nL own rt fr lo val kc cs ad σ tgt lv st f) : Bk X fin cc nL own rt fr lo val kc cs ad σ pc lv st f :=
  fun res σ' h p e s m args below meth c B H locs ls hH hS hl => lv_goto B.1 B.2.1 hd ht (k res σ' h p e s m args below meth c B H locs ls hH hS hl)
theorem r_if_eq {x : Int32} {off : Int} (tgt : Nat) (hd : decode cc pc = .ok (.ifCond .eq off, 3)) (ht : (pc : Int) + off = (tgt : Int)) (k1 : Bk X fin cc nL own rt fr lo val kc cs ad σ tgt lv st f1) (k2 : Bk X fin cc nL own rt fr lo val kc cs ad σ (pc + 3) lv st f2) : Bk X fin cc nL own rt fr lo val kc cs ad σ pc lv (.int x :: st) (if x = 0 then f1 else f2) := by
  intro res σ' h p e s m args below meth c B H locs ls hH hS hl
  refine lv_if_eq B.1 B.2.1 hd ht (fun hc => k1 res σ' (by rw [if_pos hc] at h; exact h) p e s m args below meth c B H locs ls hH hS hl) (fun hc => k2 res σ' (by rw [if_neg hc] at h; exact h) p e s m args below meth c B H locs ls hH hS hl)
theorem r_icmp_eq {x y : Int32} {off : Int} (tgt : Nat) (hd : decode cc pc = .ok (.if_icmp .eq off, 3)) (ht : (pc : Int) + off = (tgt : Int)) (k1 : Bk X fin cc nL own rt fr lo val kc cs ad σ tgt lv st f1) (k2 : Bk X fin cc nL own rt fr lo val kc cs ad σ (pc + 3) lv st f2) : Bk X fin cc nL own rt fr lo val kc cs ad σ pc lv (.int y :: .int x :: st) (if x = y then f1 else f2) := by
  intro res σ' h p e s m args below meth c B H locs ls hH hS hl
  refine lv_icmp_eq B.1 B.2.1 hd ht (fun hc => k1 res σ' (by rw [if_pos hc] at h; exact h) p e s m args below meth c B H locs ls hH hS hl) (fun hc => k2 res σ' (by rw [if_neg hc] at h; exact h) p e s m args below meth c B H locs ls hH hS hl)
theorem r_if_ne {x : Int32} {off : Int} (tgt : Nat) (hd : decode cc pc = .ok (.ifCond .ne off, 3)) (ht : (pc : Int) + off = (tgt : Int)) (k1 : Bk X fin cc nL own rt fr lo val kc cs ad σ (pc + 3) lv st f1) (k2 : Bk X fin cc nL own rt fr lo val kc cs ad σ tgt lv st f2) : Bk X fin cc nL own rt fr lo val kc cs ad σ pc lv (.int x :: st) (if x = 0 then f1 else f2) := by
  intro res σ' h p e s m args below meth c B H locs ls hH hS hl
  refine lv_if_ne B.1 B.2.1 hd ht (fun hc => k2 res σ' (by rw [if_neg hc] at h; exact h) p e s m args below meth c B H locs ls hH hS hl) (fun hc => k1 res σ' (by rw [if_pos hc] at h; exact h) p e s m args below meth c B H locs ls hH hS hl)
theorem r_icmp_ne {x y : Int32} {off : Int} (tgt : Nat) (hd : decode cc pc = .ok (.if_icmp .ne off, 3)) (ht : (pc : Int) + off = (tgt : Int)) (k1 : Bk X fin cc nL own rt fr lo val kc cs ad σ (pc + 3) lv st f1) (k2 : Bk X fin cc nL own rt fr lo val kc cs ad σ tgt lv st f2) : Bk X fin cc nL own rt fr lo val kc cs ad σ pc lv (.int y :: .int x :: st) (if x = y then f1 else f2) := by
  intro res σ' h p e s m args below meth c B H locs ls hH hS hl
  refine lv_icmp_ne B.1 B.2.1 hd ht (fun hc => k2 res σ' (by rw [if_neg hc] at h; exact h) p e s m args below meth c B H locs ls hH hS hl) (fun hc => k1 res σ' (by rw [if_pos hc] at h; exact h) p e s m args below meth c B H locs ls hH hS hl)
theorem r_if_lt {x : Int32} {off : Int} (tgt : Nat) (hd : decode cc pc = .ok (.ifCond .lt off, 3)) (ht : (pc : Int) + off = (tgt : Int)) (k1 : Bk X fin cc nL own rt fr lo val kc cs ad σ tgt lv st f1) (k2 : Bk X fin cc nL own rt fr lo val kc cs ad σ (pc + 3) lv st f2) : Bk X fin cc nL own rt fr lo val kc cs ad σ pc lv (.int x :: st) (if x < 0 then f1 else f2) := by
  intro res σ' h p e s m args below meth c B H locs ls hH hS hl
  refine lv_if_lt B.1 B.2.1 hd ht (fun hc => k1 res σ' (by rw [if_pos hc] at h; exact h) p e s m args below meth c B H locs ls hH hS hl) (fun hc => k2 res σ' (by rw [if_neg hc] at h; exact h) p e s m args below meth c B H locs ls hH hS hl)
theorem r_icmp_lt {x y : Int32} {off : Int} (tgt : Nat) (hd : decode cc pc = .ok (.if_icmp .lt off, 3)) (ht : (pc : Int) + off = (tgt : Int)) (k1 : Bk X fin cc nL own rt fr lo val kc cs ad σ tgt lv st f1) (k2 : Bk X fin cc nL own rt fr lo val kc cs ad σ (pc + 3) lv st f2) : Bk X fin cc nL own rt fr lo val kc cs ad σ pc lv (.int y :: .int x :: st) (if x < y then f1 else f2) := by
  intro res σ' h p e s m args below meth c B H locs ls hH hS hl
  refine lv_icmp_lt B.1 B.2.1 hd ht (fun hc => k1 res σ' (by rw [if_pos hc] at h; exact h) p e s m args below meth c B H locs ls hH hS hl) (fun hc => k2 res σ' (by rw [if_neg hc] at h; exact h) p e s m args below meth c B H locs ls hH hS hl)
theorem r_if_ge {x : Int32} {off : Int} (tgt : Nat) (hd : decode cc pc = .ok (.ifCond .ge off, 3)) (ht : (pc : Int) + off = (tgt : Int)) (k1 : Bk X fin cc nL own rt fr lo val kc cs ad σ tgt lv st f1) (k2 : Bk X fin cc nL own rt fr lo val kc cs ad σ (pc + 3) lv st f2) : Bk X fin cc nL own rt fr lo val kc cs ad σ pc lv (.int x :: st) (if 0 ≤ x then f1 else f2) := by
  intro res σ' h p e s m args below meth c B H locs ls hH hS hl
  refine lv_if_ge B.1 B.2.1 hd ht (fun hc => k1 res σ' (by rw [if_pos hc] at h; exact h) p e s m args below meth c B H locs ls hH hS hl) (fun hc => k2 res σ' (by rw [if_neg hc] at h; exact h) p e s m args below meth c B H locs ls hH hS hl)
theorem r_icmp_ge {x y : Int32} {off : Int} (tgt : Nat) (hd : decode cc pc = .ok (.if_icmp .ge off, 3)) (ht : (pc : Int) + off = (tgt : Int)) (k1 : Bk X fin cc nL own rt fr lo val kc cs ad σ tgt lv st f1) (k2 : Bk X fin cc nL own rt fr lo val kc cs ad σ (pc + 3) lv st f2) : Bk X fin cc nL own rt fr lo val kc cs ad σ pc lv (.int y :: .int x :: st) (if y ≤ x then f1 else f2) := by
  intro res σ' h p e s m args below meth c B H locs ls hH hS hl
  refine lv_icmp_ge B.1 B.2.1 hd ht (fun hc => k1 res σ' (by rw [if_pos hc] at h; exact h) p e s m args below meth c B H locs ls hH hS hl) (fun hc => k2 res σ' (by rw [if_neg hc] at h; exact h) p e s m args below meth c B H locs ls hH hS hl)
theorem r_if_gt {x : Int32} {off : Int} (tgt : Nat) (hd : decode cc pc = .ok (.ifCond .gt off, 3)) (ht : (pc : Int) + off = (tgt : Int)) (k1 : Bk X fin cc nL own rt fr lo val kc cs ad σ tgt lv st f1) (k2 : Bk X fin cc nL own rt fr lo val kc cs ad σ (pc + 3) lv st f2) : Bk X fin cc nL own rt fr lo val kc cs ad σ pc lv (.int x :: st) (if 0 < x then f1 else f2) := by
  intro res σ' h p e s m args below meth c B H locs ls hH hS hl
  refine lv_if_gt B.1 B.2.1 hd ht (fun hc => k1 res σ' (by rw [if_pos hc] at h; exact h) p e s m args below meth c B H locs ls hH hS hl) (fun hc => k2 res σ' (by rw [if_neg hc] at h; exact h) p e s m args below meth c B H locs ls hH hS hl)
theorem r_icmp_gt {x y : Int32} {off : Int} (tgt : Nat) (hd : decode cc pc = .ok (.if_icmp .gt off, 3)) (ht : (pc : Int) + off = (tgt : Int)) (k1 : Bk X fin cc nL own rt fr lo val kc cs ad σ tgt lv st f1) (k2 : Bk X fin cc nL own rt fr lo val kc cs ad σ (pc + 3) lv st f2) : Bk X fin cc nL own rt fr lo val kc cs ad σ pc lv (.int y :: .int x :: st) (if y < x then f1 else f2) := by
  intro res σ' h p e s m args below meth c B H locs ls hH hS hl
  refine lv_icmp_gt B.1 B.2.1 hd ht (fun hc => k1 res σ' (by rw [if_pos hc] at h; exact h) p e s m args below meth c B H locs ls hH hS hl) (fun hc => k2 res σ' (by rw [if_neg hc] at h; exact h) p e s m args below meth c B H locs ls hH hS hl)
theorem r_if_le {x : Int32} {off : Int} (tgt : Nat) (hd : decode cc pc = .ok (.ifCond .le off, 3)) (ht : (pc : Int) + off = (tgt : Int)) (k1 : Bk X fin cc nL own rt fr lo val kc cs ad σ tgt lv st f1) (k2 : Bk X fin cc nL own rt fr lo val kc cs ad σ (pc + 3) lv st f2) : Bk X fin cc nL own rt fr lo val kc cs ad σ pc lv (.int x :: st) (if x ≤ 0 then f1 else f2) := by
  intro res σ' h p e s m args below meth c B H locs ls hH hS hl
  refine lv_if_le B.1 B.2.1 hd ht (fun hc => k1 res σ' (by rw [if_pos hc] at h; exact h) p e s m args below meth c B H locs ls hH hS hl) (fun hc => k2 res σ' (by rw [if_neg hc] at h; exact h) p e s m args below meth c B H locs ls hH hS hl)
theorem r_icmp_le {x y : Int32} {off : Int} (tgt : Nat) (hd : decode cc pc = .ok (.if_icmp .le off, 3)) (ht : (pc : Int) + off = (tgt : Int)) (k1 : Bk X fin cc nL own rt fr lo val kc cs ad σ tgt lv st f1) (k2 : Bk X fin cc nL own rt fr lo val kc cs ad σ (pc + 3) lv st f2) : Bk X fin cc nL own rt fr lo val kc cs ad σ pc lv (.int y :: .int x :: st) (if x ≤ y then f1 else f2) := by
  intro res σ' h p e s m args below meth c B H locs ls hH hS hl
  refine lv_icmp_le B.1 B.2.1 hd ht (fun hc => k1 res σ' (by rw [if_pos hc] at h; exact h) p e s m args below meth c B H locs ls hH hS hl) (fun hc => k2 res σ' (by rw [if_neg hc] at h; exact h) p e s m args below meth c B H locs ls hH hS hl)
theorem r_ifnull {x : Nat} {off : Int} (hd : decode cc pc = .ok (.ifnull off, 3)) (k : Bk X fin cc nL own rt fr lo val kc cs ad σ (pc + 3) lv st f) : Bk X fin cc nL own rt fr lo val kc cs ad σ pc lv (.ref x :: st) f :=
  fun res σ' h p e s m args below meth c B H locs ls hH hS hl => lv_ifnull B.1 B.2.1 hd (k res σ' h p e s m args below meth c B H locs ls hH hS hl)
theorem r_ifnullN {off : Int} (tgt : Nat) (hd : decode cc pc = .ok (.ifnull off, 3)) (ht : (pc : Int) + off = (tgt : Int)) (k : Bk X fin cc nL own rt fr lo val kc cs ad σ tgt lv st f) : Bk X fin cc nL own rt fr lo val kc cs ad σ pc lv (.null :: st) f :=
  fun res σ' h p e s m args below meth c B H locs ls hH hS hl => lv_ifnullN B.1 B.2.1 hd ht (k res σ' h p e s m args below meth c B H locs ls hH hS hl)
theorem r_ifnonnull {x : Nat} {off : Int} (tgt : Nat) (hd : decode cc pc = .ok (.ifnonnull off, 3)) (ht : (pc : Int) + off = (tgt : Int)) (k : Bk X fin cc nL own rt fr lo val kc cs ad σ tgt lv st f) : Bk X fin cc nL own rt fr lo val kc cs ad σ pc lv (.ref x :: st) f :=
  fun res σ' h p e s m args below meth c B H locs ls hH hS hl => lv_ifnonnull B.1 B.2.1 hd ht (k res σ' h p e s m args below meth c B H locs ls hH hS hl)
theorem r_ifnonnullN {off : Int} (hd : decode cc pc = .ok (.ifnonnull off, 3)) (k : Bk X fin cc nL own rt fr lo val kc cs ad σ (pc + 3) lv st f) : Bk X fin cc nL own rt fr lo val kc cs ad σ pc lv (.null :: st) f :=
  fun res σ' h p e s m args below meth c B H locs ls hH hS hl => lv_ifnonnullN B.1 B.2.1 hd (k res σ' h p e s m args below meth c B H locs ls hH hS hl)
/-! fields and rows -/
theorem r_getf {t i ci index N : Nat} {C : String} {T : u_T} {fs : List Value} {v : Value} (k : Nat) (hl : lvp σ t i) (hc : cellv X ad σ t i = .inr (ci, fs)) (hci : vwCl[ci]? = some (C, T, N)) (hkN : k < N) (hin : ∀ w ∈ u_ws C T N, w ∈ G_) (hlink : Cond.fieldLink own index (T k).1 (T k).2.1 (T k).2.2.1 ∈ G_) (hv : fs[k]? = some v) (hd : decode cc pc = .ok (.getfield index, 3)) (kk : Bk X fin cc nL own rt fr lo val kc cs ad σ (pc + 3) lv (v :: st) f) : Bk X fin cc nL own rt fr lo val kc cs ad σ pc lv (.ref (ad t i) :: st) f := by
  intro res σ' h p e s m args below meth c B H locs ls hH hS hl9
  have hP : va_P X.2.1 vwCl [(ad t i, .inr (ci, fs))] H := va_P1 (by rw [← hc]; exact (hH.1 t i hl).1)
  exact va_get B.1 B.2.1 (Ts := G_) B.2.2.2.2.1 hin B.2.2.2.1 B.2.2.2.2.2.2.2.2.1 hP 0 rfl hci k hkN (B.2.2.2.2.1 _ hlink) (fun _ z => z) hv hd (kk res σ' h p e s m args below meth c B H locs ls hH hS hl9)
theorem r_putf {t i ci index N : Nat} {C : String} {T : u_T} {fs : List Value} {v : Int32} (k : Nat) (ty : Nat → FieldType) (hty : ∀ k, k < N → parseFieldDescriptor (T k).2.2.1 = some (ty k)) (hnm : ∀ a, a < N → ∀ b, b < N → a ≠ b → (T a).2.1 ≠ (T b).2.1) (hl : lvp σ t i) (hc : cellv X ad σ t i = .inr (ci, fs)) (hc1 : cellv X ad (wr σ t i k v) t i = .inr (ci, fs.set k (.int v))) (hci : vwCl[ci]? = some (C, T, N)) (hkN : k < N) (hkf : k < fs.length) (hin : ∀ w ∈ u_ws C T N, w ∈ G_) (hlink : Cond.fieldLink own index (T k).1 (T k).2.1 (T k).2.2.1 ∈ G_) (hfin : (T k).2.2.2 = false) (hn : narrow (ty k) (.int v) = .int v) (hfit : fits (ty k) (.int v) = true) (hd : decode cc pc = .ok (.putfield index, 3)) (kk : Bk X fin cc nL own rt fr lo val kc cs ad (wr σ t i k v) (pc + 3) lv st f) : Bk X fin cc nL own rt fr lo val kc cs ad σ pc lv (.int v :: .ref (ad t i) :: st) f := by
  intro res σ' h p e s m args below meth c B H locs ls hH hS hl9
  have hts := B.2.2.2.2.1
  have hK := B.2.2.2.2.2.2.2.2.1
  have hat : va_at X.2.1 vwCl (ad t i, .inr (ci, fs)) H := by rw [← hc]; exact (hH.1 t i hl).1
  have hap := va_apart (own := own) hts hin ty hty hnm hK hci
  obtain ⟨r, h1, cell, q1, q2, q3, q4⟩ := hat
  have hr : r = (C, T, N) := Option.some.inj (h1.symm.trans hci)
  subst hr
  obtain ⟨hS2, hfc, kC, hkC, hkind⟩ := hK.1 ci _ hci
  obtain ⟨cf, kf, fi, fl, hi, hsl⟩ := hS2 k hkN
  have hlay := hts _ (hin _ (u_in_lay hkN))
  unfold u_lay at hlay
  rw [if_neg (by rw [hfin]; decide)] at hlay
  have hst := (u_facts hfc hkC (u_lays hts hin hkN) hi).1
  have h6 := u_store hfc hkC hkind hlay hi (hty k hkN) hn hfit
  refine W.putK B.1 B.2.1 (f := fl) ⟨B.2.2.2.1, hts _ hlink, ⟨_, _, _, hi⟩, hst⟩ (by rw [q2]; exact h6) q1 q3 (by rw [hsl]; exact k2_hasslot (q4 k hkN)) rfl rfl hd fun H' e1 e2 e3 => ?_
  rw [hsl] at e1 ⊢
  exact kk res σ' h p e s m args below meth c B H' _ ls (hH.wr hl (e := .inr (ci, fs.set k (.int v))) ⟨_, hci, t_OB.to (V := updV (vp_V fs) k (.int v)) ⟨_, e1, q2, q3, t_set q4 hap hkN (.int v)⟩ (fun j _ => vp_updV_set hkf (.int v) j)⟩ e3 hc1) (hS.put e2 e3 (hH.1 t i hl).2) hl9
theorem r_iaload {t i n : Nat} {j : Int32} {F : Nat → Int32} (hl : lvp σ t i) (hc : cellv X ad σ t i = .inl (X.2.2.1 0, n, .inl F)) (hin : inb j n) (hd : decode cc pc = .ok (.iaload, 1)) (kk : Bk X fin cc nL own rt fr lo val kc cs ad σ (pc + 1) lv (.int (F j.toNatClampNeg) :: st) f) : Bk X fin cc nL own rt fr lo val kc cs ad σ pc lv (.int j :: .ref (ad t i) :: st) f := by
  intro res σ' h p e s m args below meth c B H locs ls hH hS hl9
  have hP : va_P X.2.1 vwCl [(ad t i, .inl (X.2.2.1 0, n, .inl F))] H := va_P1 (by rw [← hc]; exact (hH.1 t i hl).1)
  exact va_iald B.1 B.2.1 B.2.2.2.2.2.2.2.2.1 hP 0 0 rfl rfl (inb_vp hin) hd (kk res σ' h p e s m args below meth c B H locs ls hH hS hl9)
theorem r_zaload {t i n : Nat} {j : Int32} {F : Nat → Int32} (hl : lvp σ t i) (hc : cellv X ad σ t i = .inl (X.2.2.1 1, n, .inl F)) (hin : inb j n) (hd : decode cc pc = .ok (.baload, 1)) (kk : Bk X fin cc nL own rt fr lo val kc cs ad σ (pc + 1) lv (.int (F j.toNatClampNeg) :: st) f) : Bk X fin cc nL own rt fr lo val kc cs ad σ pc lv (.int j :: .ref (ad t i) :: st) f := by
  intro res σ' h p e s m args below meth c B H locs ls hH hS hl9
  have hP : va_P X.2.1 vwCl [(ad t i, .inl (X.2.2.1 1, n, .inl F))] H := va_P1 (by rw [← hc]; exact (hH.1 t i hl).1)
  exact va_zald B.1 B.2.1 B.2.2.2.2.2.2.2.2.1 hP 0 1 rfl rfl (inb_vp hin) hd (kk res σ' h p e s m args below meth c B H locs ls hH hS hl9)
theorem r_aaload {t i n a : Nat} {C : String} {j : Int32} {F : Nat → Option Nat} (r : Nat) (hl : lvp σ t i) (hc : cellv X ad σ t i = .inl (X.2.2.1 a, n, .inr (.inr (.inr (.inr F))))) (ha : (tysX X)[a]? = some (X.2.2.1 a, .object C)) (hin : inb j n) (hF : F j.toNatClampNeg = some r) (hd : decode cc pc = .ok (.aaload, 1)) (kk : Bk X fin cc nL own rt fr lo val kc cs ad σ (pc + 1) lv (.ref r :: st) f) : Bk X fin cc nL own rt fr lo val kc cs ad σ pc lv (.int j :: .ref (ad t i) :: st) f := by
  intro res σ' h p e s m args below meth c B H locs ls hH hS hl9
  have hP : va_P X.2.1 vwCl [(ad t i, .inl (X.2.2.1 a, n, .inr (.inr (.inr (.inr F)))))] H := va_P1 (by rw [← hc]; exact (hH.1 t i hl).1)
  refine va_aldq B.1 B.2.1 B.2.2.2.2.2.2.2.2.1 hP 0 a rfl ha (inb_vp hin) hd ?_
  rw [hF]
  exact kk res σ' h p e s m args below meth c B H locs ls hH hS hl9
theorem r_alen {t i a : Nat} {x : vp_A} {ty : FieldType} (v : Int32) (hl : lvp σ t i) (hc : cellv X ad σ t i = .inl (X.2.2.1 a, x)) (ha : (tysX X)[a]? = some (X.2.2.1 a, ty)) (hv : Int32.ofNat x.1 = v) (hd : decode cc pc = .ok (.arraylength, 1)) (kk : Bk X fin cc nL own rt fr lo val kc cs ad σ (pc + 1) lv (.int v :: st) f) : Bk X fin cc nL own rt fr lo val kc cs ad σ pc lv (.ref (ad t i) :: st) f := by
  intro res σ' h p e s m args below meth c B H locs ls hH hS hl9
  have hP : va_P X.2.1 vwCl [(ad t i, .inl (X.2.2.1 a, x))] H := va_P1 (by rw [← hc]; exact (hH.1 t i hl).1)
  exact va_alen B.1 B.2.1 B.2.2.2.2.2.2.2.2.1 hP 0 a rfl ha hv hd (kk res σ' h p e s m args below meth c B H locs ls hH hS hl9)
theorem r_iastore {t i n : Nat} {j v : Int32} (hl : lvp σ t i) (hc : ∀ τ : Wd, cellv X ad τ t i = .inl (X.2.2.1 0, n, .inl (τ.1 t i))) (hin : inb j n) (hd : decode cc pc = .ok (.iastore, 1)) (kk : Bk X fin cc nL own rt fr lo val kc cs ad (wr σ t i j.toNatClampNeg v) (pc + 1) lv st f) : Bk X fin cc nL own rt fr lo val kc cs ad σ pc lv (.int v :: .int j :: .ref (ad t i) :: st) f := by
  intro res σ' h p e s m args below meth c B H locs ls hH hS hl9
  have hP : va_at X.2.1 vwCl (ad t i, .inl (X.2.2.1 0, n, .inl (σ.1 t i))) H := by rw [← hc σ]; exact (hH.1 t i hl).1
  refine W.iast B.1 B.2.1 hP ((B.2.2.2.2.2.2.2.2.1.2 0 (X.2.2.1 0, .int) rfl).1 n (fun j => .int (σ.1 t i j))) (fun q => by cases q) (by show ¬ (j < 0 ∨ (arrV _ _ _).slots.size ≤ _); rw [arrV_size]; exact inb_vp hin) rfl rfl hd fun H1 e1 z oq => ?_
  refine kk res σ' h p e s m args below meth c B H1 _ ls (hH.wr hl (e := .inl (X.2.2.1 0, n, .inl (upd (σ.1 t i) j.toNatClampNeg v))) ?_ oq (by rw [hc, wr_upd])) (hS.put z oq (hH.1 t i hl).2) hl9
  show H1[ad t i]? = some (vp_cell _ _)
  rw [e1]
  rw [vp_cell_i, vp_cell_i, arrV_store]
  congr 2
  funext q
  by_cases hq : q = j.toNatClampNeg
  · subst hq
    simp [updV, upd]
  · simp [updV, upd, hq]
theorem r_zastore {t i n : Nat} {j v : Int32} (hl : lvp σ t i) (hc : ∀ τ : Wd, cellv X ad τ t i = .inl (X.2.2.1 1, n, .inl (τ.1 t i))) (hin : inb j n) (hd : decode cc pc = .ok (.bastore, 1)) (kk : Bk X fin cc nL own rt fr lo val kc cs ad (wr σ t i j.toNatClampNeg (vp_nar .boolean v)) (pc + 1) lv st f) : Bk X fin cc nL own rt fr lo val kc cs ad σ pc lv (.int v :: .int j :: .ref (ad t i) :: st) f := by
  intro res σ' h p e s m args below meth c B H locs ls hH hS hl9
  have hP : va_at X.2.1 vwCl (ad t i, .inl (X.2.2.1 1, n, .inl (σ.1 t i))) H := by rw [← hc σ]; exact (hH.1 t i hl).1
  refine W.zast B.1 B.2.1 hP ((B.2.2.2.2.2.2.2.2.1.2 1 (X.2.2.1 1, .boolean) rfl).1 n (fun j => .int (σ.1 t i j))) (fun q => by cases q) (by show ¬ (j < 0 ∨ (arrV _ _ _).slots.size ≤ _); rw [arrV_size]; exact inb_vp hin) rfl rfl hd fun H1 e1 z oq => ?_
  refine kk res σ' h p e s m args below meth c B H1 _ ls (hH.wr hl (e := .inl (X.2.2.1 1, n, .inl (upd (σ.1 t i) j.toNatClampNeg (vp_nar .boolean v)))) ?_ oq (by rw [hc, wr_upd])) (hS.put z oq (hH.1 t i hl).2) hl9
  show H1[ad t i]? = some (vp_cell _ _)
  rw [e1]
  rw [vp_cell_i, vp_cell_i, arrV_store]
  congr 2
  funext q
  by_cases hq : q = j.toNatClampNeg
  · subst hq
    simp [updV, upd, vp_nar]
    try rfl
  · simp [updV, upd, hq]
/-! ends -/
theorem r_iret {v : Int32} {a : α} (hval : val a = some (.int v)) (hrt : rt = some .int) (hfin : fin ad) (hd : decode cc pc = .ok (.ireturn, 1)) : Bk X fin cc nL own rt fr lo val kc kc ad σ pc lv [.int v] (some (.inl a, σ)) := by
  intro res σ' h p e s m args below meth c B H locs ls hH hS hl9
  cases h
  exact vx_ret (W.iret B.1 B.2.1 (B.2.2.2.2.2.1.trans hrt) (fun t ht hW => ⟨⟨a, rfl, by rw [hval], ad, hfin, by rw [ht]; exact hH⟩, hS.F ht⟩) hS.2.2 hd B.2.2.2.2.2.2.1)
theorem r_zret {v : Int32} {a : α} (hval : val a = some (.int v)) (hrt : rt = some .boolean) (hn : narrow .boolean (.int v) = .int v) (hfin : fin ad) (hd : decode cc pc = .ok (.ireturn, 1)) : Bk X fin cc nL own rt fr lo val kc kc ad σ pc lv [.int v] (some (.inl a, σ)) := by
  intro res σ' h p e s m args below meth c B H locs ls hH hS hl9
  cases h
  exact vx_ret (W.zret B.1 B.2.1 (B.2.2.2.2.2.1.trans hrt) hn (fun t ht hW => ⟨⟨a, rfl, by rw [hval], ad, hfin, by rw [ht]; exact hH⟩, hS.F ht⟩) hS.2.2 hd B.2.2.2.2.2.2.1)
theorem r_vret {a : α} (hval : val a = none) (hrt : rt = none) (hfin : fin ad) (hd : decode cc pc = .ok (.return_, 1)) : Bk X fin cc nL own rt fr lo val kc kc ad σ pc lv [] (some (.inl a, σ)) := by
  intro res σ' h p e s m args below meth c B H locs ls hH hS hl9
  cases h
  exact vx_ret (W.vret B.1 B.2.1 (B.2.2.2.2.2.1.trans hrt) (fun t ht hW => ⟨⟨a, rfl, by rw [hval], ad, hfin, by rw [ht]; exact hH⟩, hS.F ht⟩) hS.2.2 hd B.2.2.2.2.2.2.1)
theorem r_aret {v : Nat} {a : α} {n : String} (hval : val a = some (.ref v)) (hrt : rt = some (.object n)) (hfin : fin ad) (hd : decode cc pc = .ok (.areturn, 1)) : Bk X fin cc nL own rt fr lo val kc kc ad σ pc lv [.ref v] (some (.inl a, σ)) := by
  intro res σ' h p e s m args below meth c B H locs ls hH hS hl9
  cases h
  exact vx_ret (W.aret B.1 B.2.1 (B.2.2.2.2.2.1.trans hrt) (Or.inl ⟨n, rfl⟩) (Or.inr ⟨v, rfl⟩) (fun t ht hW => ⟨⟨a, rfl, by rw [hval], ad, hfin, by rw [ht]; exact hH⟩, hS.F ht⟩) hS.2.2 hd B.2.2.2.2.2.2.1)
end RBK
end
section
section CBK
variable {α β : Type} {X : Xt} {fin fin' : Ad → Prop} {cc bytes : ByteArray} {nL maxL : Nat} {own : String} {rt rt' : Option FieldType} {fr lo fr' lo' : Nat} {val : α → Option Value} {val' : β → Option Value} {kc : Nat × Nat} {ad : Ad} {σ : Wd} {pc : Nat} {lv : List (Nat × Value)} {st stack : List Value} {g : Option ((β ⊕ String) × Wd)} {k : β → Wd → Option ((α ⊕ String) × Wd)}
theorem bx_cases {res : α ⊕ String} {σ' : Wd} (h : bx g k = some (res, σ')) : (∃ v σ1, g = some (.inl v, σ1) ∧ k v σ1 = some (res, σ')) ∨ ∃ E, g = some (.inr E, σ') ∧ res = .inr E := by
  unfold bx at h
  match g, h with
  | some (.inl v, σ1), h => exact Or.inl ⟨v, σ1, rfl, h⟩
  | some (.inr E, σ1), h => cases h; exact Or.inr ⟨E, rfl, rfl⟩
/-- behind a call that came back or threw -/
theorem r_calls (hfin' : ∀ ad', fin' ad' → ad' = ad) (hfa : fin ad)
    (hrun : ∀ res1 σ1, g = some (res1, σ1) → ∀ p e s m args below meth c, Bod X cc nL own rt p s m args meth c → ∀ (R : Room), fr ≤ R.frames → lo ≤ R.locals → xc (0, 0) res1 ≤ R.cells → xs (0, 0) res1 ≤ R.slots → ∀ H locs ls, HW X ad σ H → va_S (Az X) s.heap H locs → lv_has ls nL lv → ∃ a : Array Value,
      vx_Run p X.1 e R s m args below meth c H locs 0 0 (xc (0, 0) res1) (xs (0, 0) res1) (F0 m pc ls stack) st (Qn X fin' val' res1 σ1 a) (Qx X fin' res1 σ1) (Az X))
    (kk : ∀ v σ1, Bk X fin cc nL own rt fr lo val kc (0, 0) ad σ1 (pc + 3) lv ((val' v).toList ++ st) (k v σ1)) : Bk X fin cc nL own rt fr lo val kc (0, 0) ad σ pc lv stack (bx g k) := by
  intro res σ' h p e s m args below meth c B H locs ls hH hS hl9
  rcases bx_cases h with ⟨v, σ1, hg, hk⟩ | ⟨E, hg, rfl⟩
  · obtain ⟨a, hr⟩ := hrun _ _ hg p e s m args below meth c B { frames := fr, cells := xc kc res, slots := xs kc res, locals := lo } (Nat.le_refl _) (Nat.le_refl _) (Nat.zero_le _) (Nat.zero_le _) H locs ls hH hS hl9
    intro T hT Y
    rcases hr T hT Y with ⟨v0, st0, t, T', L, h0, Y', hL, e1, e2, ⟨⟨v', hv1, hv2, ad', hf', hsw⟩, hF⟩, hgo⟩ | ⟨q, st0, t, T', L, E, ce, h0, Y', hL, e1, e2, ⟨⟨hx, -⟩, -⟩, -⟩
    · cases hv1
      cases hv2
      have := hfin' ad' hf'
      subst this
      obtain ⟨k1, k2, k3⟩ := vx_keep h0 e1 hS (fun _ _ z => z) (fun _ z => z) hL hF
      obtain ⟨t2, a1, b1⟩ := kk v σ1 res σ' hk p e s m args below meth c B T'.heap (locs ++ L) ls (by rw [e1]; exact hsw) k3 hl9 T' rfl Y'
      exact ⟨t2, hgo t2 a1, b1⟩
    · cases hx
  · obtain ⟨a, hr⟩ := hrun _ _ hg p e s m args below meth c B { frames := fr, cells := 1, slots := 6, locals := lo } (Nat.le_refl _) (Nat.le_refl _) (Nat.le_refl _) (Nat.le_refl _) H locs ls hH hS hl9
    intro T hT Y
    rcases hr T hT Y with ⟨v0, st0, t, T', L, h0, Y', hL, e1, e2, ⟨⟨v', hv1, -⟩, -⟩, -⟩ | ⟨q, st0, t, T', L, E', ce, h0, Y', hL, e1, e2, ⟨⟨hx, ad', hf', hsw⟩, hF⟩, hce, hcv, hcl, hst⟩
    · cases hv1
    · cases hx
      have := hfin' ad' hf'
      subst this
      obtain ⟨k1, k2, k3⟩ := vx_keep h0 e1 hS (fun _ _ z => z) (fun _ z => z) hL hF
      have hout : vx_W p X.1 e { frames := fr, cells := 1, slots := 6, locals := lo } s m args below meth c T'.heap (locs ++ L) (0 + 1) (0 + 6) (vx_MQ below (Qn X fin val (Sum.inr E : α ⊕ String) σ') (Qx X fin (Sum.inr E : α ⊕ String) σ') args s 1 6 (Az X)) (F0 m pc ls st) q :=
        vx_out (fun x hx => absurd (B.2.2.2.2.2.2.2.1 x hx) id) B.2.2.2.2.2.2.1 (by rw [e1]; exact hce) hcv hcl (fun t2 ht2 hA2 => by
          exact ⟨⟨rfl, ad', hfa, by rw [ht2, e1]; exact hsw⟩, k3.F ht2⟩) k3.2.2 (Nat.le_refl _) (Nat.le_refl _)
      obtain ⟨t2, a1, b1⟩ := hout T' rfl Y'
      exact ⟨t2, hst.trans a1, b1⟩
theorem SW.of {X : Xt} {ad : Ad} {σ : Wd} {cc : ByteArray} {nL : Nat} {own : String} {rt : Option FieldType} {p : Program} {s : State} {m : MethodId} {args : Array Value} {meth : Method} {c : Code} {H : Heap} {locs : List Loc} {U : State} (B : Bod X cc nL own rt p s m args meth c) (hH : HW X ad σ H) (hS : va_S (Az X) s.heap H locs) (hU : U.heap = H) (hW : s.WarmedH U.vm) : SW X ad σ U :=
  ⟨by rw [hU]; exact hH, va_K.moved hW.alike B.2.2.2.2.2.2.2.2.1, B.2.2.2.2.2.2.2.2.2.1.warm hW (by rw [hU]; exact hS.2.1)⟩
theorem Bod.fix {X : Xt} {cc : ByteArray} {nL : Nat} {own : String} {rt : Option FieldType} {p : Program} {s : State} {m : MethodId} {args : Array Value} {meth : Method} {c : Code} (B : Bod X cc nL own rt p s m args meth c) : CallFix p m c cc nL s args G_ own := ⟨B.1, B.2.1, B.2.2.1, B.2.2.2.1, B.2.2.2.2.1⟩
theorem r_callV {y : MethodName} {C : String} {T : u_T} {N ci t i index n : Nat} {fs : List Value} {As : List Value} (hc : cellv X ad σ t i = .inr (ci, fs)) (hl : lvp σ t i) (hci : vwCl[ci]? = some (C, T, N)) (nc : NC X fin' y bytes maxL rt' fr' lo' val' (0, 0) ad σ (.ref (ad t i) :: As) g) (hfin' : ∀ ad', fin' ad' → ad' = ad) (hfa : fin ad)
    (hy : y.cls = C ∧ y.cls ≠ "java/lang/invoke/MethodHandle" ∧ y.cls ≠ "java/lang/invoke/VarHandle" ∧ (parseMethodDescriptor y.desc).map (fun d => d.parameters.length) = some n)
    (w1 : Cond.methodLink own index y ∈ G_) (w2 : Cond.instanceMethod y ∈ G_) (w3 : Cond.selects y.cls y y ∈ G_) (w4 : Cond.initialized y.cls ∈ G_) (w5 : Cond.code y bytes maxL rt' ∈ G_)
    (hn : As.length = n) (hst : stack = As.reverse ++ .ref (ad t i) :: st) (hsum : (st.map fun v => v.category).sum ≤ 8) (hroom : fr' + 1 ≤ fr ∧ 8 + (maxL + 11) + lo' ≤ lo) (hd : decode cc pc = .ok (.invokevirtual index, 3))
    (kk : ∀ v σ1, Bk X fin cc nL own rt fr lo val kc (0, 0) ad σ1 (pc + 3) lv ((val' v).toList ++ st) (k v σ1)) : Bk X fin cc nL own rt fr lo val kc (0, 0) ad σ pc lv stack (bx g k) := by
  refine r_calls hfin' hfa (fun res1 σ1 hg p e s m args below meth c B R hR1 hR2 hR3 hR4 H locs ls hH hS hl9 => ⟨(Value.ref (ad t i) :: As).toArray, ?_⟩) kk
  have hat : va_at X.2.1 vwCl (ad t i, .inr (ci, fs)) H := by rw [← hc]; exact (hH.1 t i hl).1
  have hts := B.2.2.2.2.1
  have hG : GoodIn G_ (wsV own index y.cls y (Cond.code y bytes maxL rt' :: G_)) := fun w hw => by
    have h1 : w ∈ G_ := by
      simp only [wsV, List.cons_append, List.nil_append, List.mem_cons] at hw
      rcases hw with rfl | rfl | rfl | rfl | rfl | h
      · exact w1
      · exact w2
      · exact w3
      · exact w4
      · exact w5
      · exact h
    exact ⟨h1, good_of_word (G_good w h1)⟩
  refine vx_runV B.fix (nc res1 σ1 hg) (C := y.cls) (cwV n hts hG rfl rfl rfl ⟨rfl, hy.2⟩ ⟨Nat.le_trans hroom.1 hR1, Nat.le_trans hroom.2 hR2⟩) ⟨Pn.blind, ?_, fun U hU hW => ⟨rfl, SW.of B hH hS hU hW⟩⟩ rfl hn hl9.1 hst (lv_room hsum) hd ⟨by rw [Nat.zero_add]; exact hR3, by rw [Nat.zero_add]; exact hR4⟩
  have hr := va_recv (q := (C, T, N)) (q0 := 0) B.2.2.2.2.2.2.2.2.1 (va_P1 hat) hci rfl
  rw [hy.1]
  exact hr
theorem r_callS {y : MethodName} {index n : Nat} {As : List Value} (nc : NC X fin' y bytes maxL rt' fr' lo' val' (0, 0) ad σ As g) (hfin' : ∀ ad', fin' ad' → ad' = ad) (hfa : fin ad)
    (hy : y.cls ≠ "java/lang/invoke/MethodHandle" ∧ y.cls ≠ "java/lang/invoke/VarHandle" ∧ (parseMethodDescriptor y.desc).map (fun d => d.parameters.length) = some n)
    (w1 : Cond.methodLink own index y ∈ G_) (w2 : Cond.static y ∈ G_) (w4 : Cond.initialized y.cls ∈ G_) (w5 : Cond.code y bytes maxL rt' ∈ G_)
    (hn : As.length = n) (hst : stack = As.reverse ++ st) (hsum : (st.map fun v => v.category).sum ≤ 8) (hroom : fr' + 1 ≤ fr ∧ 8 + (maxL + 11) + lo' ≤ lo) (hd : decode cc pc = .ok (.invokestatic index, 3))
    (kk : ∀ v σ1, Bk X fin cc nL own rt fr lo val kc (0, 0) ad σ1 (pc + 3) lv ((val' v).toList ++ st) (k v σ1)) : Bk X fin cc nL own rt fr lo val kc (0, 0) ad σ pc lv stack (bx g k) := by
  refine r_calls hfin' hfa (fun res1 σ1 hg p e s m args below meth c B R hR1 hR2 hR3 hR4 H locs ls hH hS hl9 => ⟨As.toArray, ?_⟩) kk
  have hts := B.2.2.2.2.1
  have hG : GoodIn G_ (va_wsS own index y (Cond.code y bytes maxL rt' :: G_)) := fun w hw => by
    have h1 : w ∈ G_ := by
      simp only [va_wsS, List.cons_append, List.nil_append, List.mem_cons] at hw
      rcases hw with rfl | rfl | rfl | rfl | h
      · exact w1
      · exact w2
      · exact w4
      · exact w5
      · exact h
    exact ⟨h1, good_of_word (G_good w h1)⟩
  exact vx_runS B.fix (nc res1 σ1 hg) (va_cwS n hts hG rfl rfl rfl hy ⟨Nat.le_trans hroom.1 hR1, Nat.le_trans hroom.2 hR2⟩) ⟨Pn.blind, fun U hU hW => ⟨rfl, SW.of B hH hS hU hW⟩⟩ rfl hn hl9.1 hst (lv_room hsum) hd ⟨by rw [Nat.zero_add]; exact hR3, by rw [Nat.zero_add]; exact hR4⟩
theorem str_at {X : Xt} {s : State} (h : SF X s) {own text : String} {is : Nat} (hm : (own, is, text) ∈ strs) : ∃ sa : Nat, vk_R own is text sa s := h.2.2.2.2.1 _ hm
theorem nw_at {X : Xt} {s : State} (h : SF X s) {args : Array Value} {w : Cond} (hm : w ∈ NW_) : w.before args s = true := va_Nw.use (nwk_on (List.mem_filter.mp hm).2) (h.2.2.2.2.2 w hm)
end CBK
section TBK
variable {α : Type} {X : Xt} {fin : Ad → Prop} {cc : ByteArray} {nL : Nat} {own : String} {rt : Option FieldType} {fr lo : Nat} {val : α → Option Value} {kc : Nat × Nat} {ad : Ad} {σ : Wd} {pc : Nat} {lv : List (Nat × Value)} {st : List Value}
/-- the words of a throw, once for a place of the pool and a kind -/
def AtOk (own : String) (ik ic : Nat) (cls : String) (names : List String) : Prop := (∀ w ∈ (vx_atS own ic cls names).filter goodWord, w ∈ G_) ∧ (∀ w ∈ (vx_atS own ic cls names).filter (fun w => !goodWord w), w ∈ NW_) ∧ (∀ w ∈ Cond.classLink own ik cls :: Cond.initialized cls :: vx_atS own ic cls names, vx_ot w = true) ∧ Bundle.fit cls = true ∧ (∀ n ∈ names, Bundle.fit n = true) ∧ Cond.classLink own ik cls ∈ G_ ∧ Cond.initialized cls ∈ G_
theorem r_throw {text cls : String} {names : List String} {ik is ic : Nat} (hat : AtOk own ik ic cls names) (hstr : (own, is, text) ∈ strs) (hfa : fin ad)
    (d0 : decode cc pc = .ok (.new ik, 3)) (d3 : decode cc (pc + 3) = .ok (.dup, 1)) (d4 : decode cc (pc + 4) = .ok (.ldc is, 2)) (d6 : decode cc (pc + 6) = .ok (.invokespecial ic, 3)) (d9 : decode cc (pc + 9) = .ok (.athrow, 1))
    (hRf : names.length + 3 < fr) (hRl : (st.map fun v => v.category).sum + (13 * (names.length + 1) + 43) ≤ lo) : Bk X fin cc nL own rt fr lo val kc (0, 0) ad σ pc lv st (some (.inr cls, σ)) := by
  intro res σ' h p e s m args below meth c B H locs ls hH hS hl9
  cases h
  obtain ⟨a1, a2, a3, a4, a5, a6, a7⟩ := hat
  have hSF := B.2.2.2.2.2.2.2.2.2.1
  obtain ⟨sa, hsa⟩ := str_at hSF hstr
  have hw : ∀ w ∈ vx_atS own ic cls names, w.before args s = true := vx_hat (B := NW_) (fun w hw => B.2.2.2.2.1 w (a1 w hw)) a2 (fun w hw => nw_at hSF hw)
  exact vx_throwS B.1 B.2.1 B.2.2.2.2.2.2.2.2.2.2 B.2.2.2.1 a4 a5 (B.2.2.2.2.1 _ a6) (B.2.2.2.2.1 _ a7) hsa hw a3 hSF.1 hSF.2.1 hS (hl9.1.trans B.2.2.1.symm) d0 d3 d4 d6 d9 (fun x hx => absurd (B.2.2.2.2.2.2.2.1 x hx) id) hRf hRl (Nat.le_refl _) (Nat.le_refl _) B.2.2.2.2.2.2.1
    (fun t hA hz hq => ⟨⟨rfl, ad, hfa, hH.kept (fun t' i' hlv => hq _ ((hH.1 t' i' hlv).1.lt))⟩, ⟨Nat.le_trans hS.1 hz, fun q h1 h2 => by rw [hq q (Nat.lt_of_lt_of_le h1 hS.1)]; exact hS.2.1 q h1 h2⟩⟩) hS.2.2 (Nat.le_refl _) (Nat.le_refl _)
theorem r_throwW {text cls : String} {names : List String} {ik is ic : Nat} (hat : AtOk own ik ic cls names) (hstr : (own, is, text) ∈ strs) (hfa : fin ad)
    (d0 : decode cc pc = .ok (.new ik, 3)) (d3 : decode cc (pc + 3) = .ok (.dup, 1)) (d4 : decode cc (pc + 4) = .ok (.ldc_w is, 3)) (d7 : decode cc (pc + 7) = .ok (.invokespecial ic, 3)) (d10 : decode cc (pc + 10) = .ok (.athrow, 1))
    (hRf : names.length + 3 < fr) (hRl : (st.map fun v => v.category).sum + (13 * (names.length + 1) + 43) ≤ lo) : Bk X fin cc nL own rt fr lo val kc (0, 0) ad σ pc lv st (some (.inr cls, σ)) := by
  intro res σ' h p e s m args below meth c B H locs ls hH hS hl9
  cases h
  obtain ⟨a1, a2, a3, a4, a5, a6, a7⟩ := hat
  have hSF := B.2.2.2.2.2.2.2.2.2.1
  obtain ⟨sa, hsa⟩ := str_at hSF hstr
  have hw : ∀ w ∈ vx_atS own ic cls names, w.before args s = true := vx_hat (B := NW_) (fun w hw => B.2.2.2.2.1 w (a1 w hw)) a2 (fun w hw => nw_at hSF hw)
  exact vx_throwSW B.1 B.2.1 B.2.2.2.2.2.2.2.2.2.2 B.2.2.2.1 a4 a5 (B.2.2.2.2.1 _ a6) (B.2.2.2.2.1 _ a7) hsa hw a3 hSF.1 hSF.2.1 hS (hl9.1.trans B.2.2.1.symm) d0 d3 d4 d7 d10 (fun x hx => absurd (B.2.2.2.2.2.2.2.1 x hx) id) hRf hRl (Nat.le_refl _) (Nat.le_refl _) B.2.2.2.2.2.2.1
    (fun t hA hz hq => ⟨⟨rfl, ad, hfa, hH.kept (fun t' i' hlv => hq _ ((hH.1 t' i' hlv).1.lt))⟩, ⟨Nat.le_trans hS.1 hz, fun q h1 h2 => by rw [hq q (Nat.lt_of_lt_of_le h1 hS.1)]; exact hS.2.1 q h1 h2⟩⟩) hS.2.2 (Nat.le_refl _) (Nat.le_refl _)
theorem r_cast {t i ci index N : Nat} {C nm : String} {T : u_T} {fs : List Value} (hl : lvp σ t i) (hc : cellv X ad σ t i = .inr (ci, fs)) (hci : vwCl[ci]? = some (C, T, N)) (w1 : Cond.classLink own index nm ∈ G_) (w2 : Cond.castable C nm ∈ NW_) (hd : decode cc pc = .ok (.checkcast index, 3)) {f : Option ((α ⊕ String) × Wd)} {cs : Nat × Nat}
    (kk : Bk X fin cc nL own rt fr lo val kc cs ad σ (pc + 3) lv (.ref (ad t i) :: st) f) : Bk X fin cc nL own rt fr lo val kc cs ad σ pc lv (.ref (ad t i) :: st) f := by
  intro res σ' h p e s m args below meth c B H locs ls hH hS hl9
  have hat : va_at X.2.1 vwCl (ad t i, .inr (ci, fs)) H := by rw [← hc]; exact (hH.1 t i hl).1
  exact va_castY B.1 B.2.1 B.2.2.2.1 (B.2.2.2.2.1 _ w1) (B.2.2.2.2.2.2.2.2.2.1.2.2.2.2.2 _ w2) (va_recv (q := (C, T, N)) (q0 := 0) B.2.2.2.2.2.2.2.2.1 (va_P1 hat) hci rfl) hd (kk res σ' h p e s m args below meth c B H locs ls hH hS hl9)
theorem r_mmin {index : Nat} {x y : Int32} {f : Option ((α ⊕ String) × Wd)} (w1 : Cond.methodLink own index Lib.Math.min.name ∈ G_) (w2 : Cond.static Lib.Math.min.name ∈ G_) (w3 : Cond.initialized "java/lang/Math" ∈ G_) (w4 : Cond.code Lib.Math.min.name Lib.Math.min.code 2 (some .int) ∈ G_) (hf : 1 ≤ fr) (hlo : (st.map fun v => v.category).sum + 13 ≤ lo) (hd : decode cc pc = .ok (.invokestatic index, 3))
    (kk : Bk X fin cc nL own rt fr lo val kc (0, 0) ad σ (pc + 3) lv (.int (if y < x then y else x) :: st) f) : Bk X fin cc nL own rt fr lo val kc (0, 0) ad σ pc lv (.int y :: .int x :: st) f := by
  intro res σ' h p e s m args below meth c B H locs ls hH hS hl9
  exact va_mmin B.1 B.2.1 (B.2.2.1.trans hl9.1.symm) B.2.2.2.1 (B.2.2.2.2.1 _ w1) (B.2.2.2.2.1 _ w2) (B.2.2.2.2.1 _ w3) (B.2.2.2.2.1 _ w4) hf hlo (Nat.zero_le _) (Nat.zero_le _) hd (kk res σ' h p e s m args below meth c B H locs ls hH hS hl9)
theorem r_mmax {index : Nat} {x y : Int32} {f : Option ((α ⊕ String) × Wd)} (w1 : Cond.methodLink own index Lib.Math.max.name ∈ G_) (w2 : Cond.static Lib.Math.max.name ∈ G_) (w3 : Cond.initialized "java/lang/Math" ∈ G_) (w4 : Cond.code Lib.Math.max.name Lib.Math.max.code 2 (some .int) ∈ G_) (hf : 1 ≤ fr) (hlo : (st.map fun v => v.category).sum + 13 ≤ lo) (hd : decode cc pc = .ok (.invokestatic index, 3))
    (kk : Bk X fin cc nL own rt fr lo val kc (0, 0) ad σ (pc + 3) lv (.int (if x < y then y else x) :: st) f) : Bk X fin cc nL own rt fr lo val kc (0, 0) ad σ pc lv (.int y :: .int x :: st) f := by
  intro res σ' h p e s m args below meth c B H locs ls hH hS hl9
  exact va_mmax B.1 B.2.1 (B.2.2.1.trans hl9.1.symm) B.2.2.2.1 (B.2.2.2.2.1 _ w1) (B.2.2.2.2.1 _ w2) (B.2.2.2.2.1 _ w3) (B.2.2.2.2.1 _ w4) hf hlo (Nat.zero_le _) (Nat.zero_le _) hd (kk res σ' h p e s m args below meth c B H locs ls hH hS hl9)
theorem at_9i : AtOk RX9 251 255 "java/lang/IndexOutOfBoundsException" ["java/lang/RuntimeException", "java/lang/Exception"] := ⟨by decide +kernel, by decide +kernel, by decide +kernel, by decide +kernel, by decide +kernel, by decide +kernel, by decide +kernel⟩
end TBK
end
section
abbrev vI (v : Int32) : Option Value := some (.int v)
abbrev vV (_ : Unit) : Option Value := none
abbrev vR (ad : Ad) (t : Nat) (i : Nat) : Option Value := some (.ref (ad t i))
/-- enough for every loop -/
def FU : Nat := 1000000000
theorem zn {v : Int32} (h : v = 0 ∨ v = 1) : narrow .boolean (.int v) = .int v := by rcases h with rfl | rfl <;> rfl
theorem lvs_0 (σ : Wd) : lvp σ 0 0 := ⟨Nat.zero_lt_one, fun z => absurd z (by decide)⟩
theorem lvs_4 (σ : Wd) : lvp σ 4 0 := ⟨Nat.zero_lt_one, fun z => absurd z (by decide)⟩
theorem lvb_5 {σ : Wd} {i : Nat} (h : i < 3) : lvp σ 5 i := ⟨h, fun z => absurd z (by decide)⟩
theorem lvb_6 {σ : Wd} {i : Nat} (h : i < 3) : lvp σ 6 i := ⟨h, fun z => absurd z (by decide)⟩
theorem lvs_7 (σ : Wd) : lvp σ 7 0 := ⟨Nat.zero_lt_one, fun z => absurd z (by decide)⟩
theorem lvs_8 (σ : Wd) : lvp σ 8 0 := ⟨Nat.zero_lt_one, fun z => absurd z (by decide)⟩
theorem lvb_9 {σ : Wd} {i : Nat} (h : i < 3) : lvp σ 9 i := ⟨h, fun z => absurd z (by decide)⟩
theorem lvs_10 (σ : Wd) : lvp σ 10 0 := ⟨Nat.zero_lt_one, fun z => absurd z (by decide)⟩
theorem lvb_11 {σ : Wd} {i : Nat} (h : i < 4) : lvp σ 11 i := ⟨h, fun z => absurd z (by decide)⟩
theorem lvs_12 (σ : Wd) : lvp σ 12 0 := ⟨Nat.zero_lt_one, fun z => absurd z (by decide)⟩
theorem lvs_13 (σ : Wd) : lvp σ 13 0 := ⟨Nat.zero_lt_one, fun z => absurd z (by decide)⟩
theorem lvs_14 (σ : Wd) : lvp σ 14 0 := ⟨Nat.zero_lt_one, fun z => absurd z (by decide)⟩
theorem lvs_15 (σ : Wd) : lvp σ 15 0 := ⟨Nat.zero_lt_one, fun z => absurd z (by decide)⟩
theorem lvs_16 (σ : Wd) : lvp σ 16 0 := ⟨Nat.zero_lt_one, fun z => absurd z (by decide)⟩
theorem lvs_17 (σ : Wd) : lvp σ 17 0 := ⟨Nat.zero_lt_one, fun z => absurd z (by decide)⟩
theorem lvs_18 (σ : Wd) : lvp σ 18 0 := ⟨Nat.zero_lt_one, fun z => absurd z (by decide)⟩
theorem lvs_19 (σ : Wd) : lvp σ 19 0 := ⟨Nat.zero_lt_one, fun z => absurd z (by decide)⟩
theorem lvs_20 (σ : Wd) : lvp σ 20 0 := ⟨Nat.zero_lt_one, fun z => absurd z (by decide)⟩
theorem lvd_21 {σ : Wd} {i : Nat} (h : i < σ.2.2 8) : lvp σ 21 i := ⟨h, fun z => absurd z (by decide)⟩
theorem lvd_22 {σ : Wd} {i : Nat} (h : i < σ.2.2 8) : lvp σ 22 i := ⟨h, fun z => absurd z (by decide)⟩
theorem lvd_23 {σ : Wd} {i : Nat} (h : i < σ.2.2 8) : lvp σ 23 i := ⟨h, fun z => absurd z (by decide)⟩
theorem lvd_24 {σ : Wd} {i : Nat} (h : i < σ.2.2 8) : lvp σ 24 i := ⟨h, fun z => absurd z (by decide)⟩
theorem lvd_25 {σ : Wd} {i : Nat} (h : i < σ.2.2 9) : lvp σ 25 i := ⟨h, fun z => absurd z (by decide)⟩
theorem lvd_26 {σ : Wd} {i : Nat} (h : i < σ.2.2 10) : lvp σ 26 i := ⟨h, fun z => absurd z (by decide)⟩
theorem lvs_30 (σ : Wd) : lvp σ 30 0 := ⟨Nat.zero_lt_one, fun z => absurd z (by decide)⟩
theorem lvs_31 (σ : Wd) : lvp σ 31 0 := ⟨Nat.zero_lt_one, fun z => absurd z (by decide)⟩
theorem lvs_32 (σ : Wd) : lvp σ 32 0 := ⟨Nat.zero_lt_one, fun z => absurd z (by decide)⟩
theorem lvs_33 (σ : Wd) : lvp σ 33 0 := ⟨Nat.zero_lt_one, fun z => absurd z (by decide)⟩
theorem lvs_34 (σ : Wd) : lvp σ 34 0 := ⟨Nat.zero_lt_one, fun z => absurd z (by decide)⟩
theorem lvs_35 (σ : Wd) : lvp σ 35 0 := ⟨Nat.zero_lt_one, fun z => absurd z (by decide)⟩
theorem lvs_36 (σ : Wd) : lvp σ 36 0 := ⟨Nat.zero_lt_one, fun z => absurd z (by decide)⟩
theorem lvs_37 (σ : Wd) : lvp σ 37 0 := ⟨Nat.zero_lt_one, fun z => absurd z (by decide)⟩
theorem lvs_38 (σ : Wd) : lvp σ 38 0 := ⟨Nat.zero_lt_one, fun z => absurd z (by decide)⟩
theorem lvs_39 (σ : Wd) : lvp σ 39 0 := ⟨Nat.zero_lt_one, fun z => absurd z (by decide)⟩
theorem lvs_40 (σ : Wd) : lvp σ 40 0 := ⟨Nat.zero_lt_one, fun z => absurd z (by decide)⟩
theorem lvs_41 (σ : Wd) : lvp σ 41 0 := ⟨Nat.zero_lt_one, fun z => absurd z (by decide)⟩
theorem lvs_42 (σ : Wd) : lvp σ 42 0 := ⟨Nat.zero_lt_one, fun z => absurd z (by decide)⟩
theorem lvs_43 (σ : Wd) : lvp σ 43 0 := ⟨Nat.zero_lt_one, fun z => absurd z (by decide)⟩
theorem lvs_44 (σ : Wd) : lvp σ 44 0 := ⟨Nat.zero_lt_one, fun z => absurd z (by decide)⟩
theorem lvs_45 (σ : Wd) : lvp σ 45 0 := ⟨Nat.zero_lt_one, fun z => absurd z (by decide)⟩
theorem lvs_46 (σ : Wd) : lvp σ 46 0 := ⟨Nat.zero_lt_one, fun z => absurd z (by decide)⟩
theorem lvs_47 (σ : Wd) : lvp σ 47 0 := ⟨Nat.zero_lt_one, fun z => absurd z (by decide)⟩
theorem lvs_48 (σ : Wd) : lvp σ 48 0 := ⟨Nat.zero_lt_one, fun z => absurd z (by decide)⟩
theorem lvs_49 (σ : Wd) : lvp σ 49 0 := ⟨Nat.zero_lt_one, fun z => absurd z (by decide)⟩
theorem lvs_50 (σ : Wd) : lvp σ 50 0 := ⟨Nat.zero_lt_one, fun z => absurd z (by decide)⟩
theorem lvs_51 (σ : Wd) : lvp σ 51 0 := ⟨Nat.zero_lt_one, fun z => absurd z (by decide)⟩
theorem lvs_52 (σ : Wd) : lvp σ 52 0 := ⟨Nat.zero_lt_one, fun z => absurd z (by decide)⟩
theorem lvs_53 (σ : Wd) : lvp σ 53 0 := ⟨Nat.zero_lt_one, fun z => absurd z (by decide)⟩
theorem lvs_54 (σ : Wd) : lvp σ 54 0 := ⟨Nat.zero_lt_one, fun z => absurd z (by decide)⟩
theorem lvs_55 (σ : Wd) : lvp σ 55 0 := ⟨Nat.zero_lt_one, fun z => absurd z (by decide)⟩
theorem lvs_56 (σ : Wd) : lvp σ 56 0 := ⟨Nat.zero_lt_one, fun z => absurd z (by decide)⟩
theorem lvs_57 (σ : Wd) : lvp σ 57 0 := ⟨Nat.zero_lt_one, fun z => absurd z (by decide)⟩
theorem lvs_58 (σ : Wd) : lvp σ 58 0 := ⟨Nat.zero_lt_one, fun z => absurd z (by decide)⟩
theorem lvs_59 (σ : Wd) : lvp σ 59 0 := ⟨Nat.zero_lt_one, fun z => absurd z (by decide)⟩
theorem lvs_60 (σ : Wd) : lvp σ 60 0 := ⟨Nat.zero_lt_one, fun z => absurd z (by decide)⟩
theorem lvs_70 (σ : Wd) : lvp σ 70 0 := ⟨Nat.zero_lt_one, fun z => absurd z (by decide)⟩
theorem lvl_0 (σ : Wd) : lvp σ 1 0 := ⟨show 0 < 2 + σ.2.2 8 by omega, fun z => absurd z (by decide)⟩
theorem lvl_1 (σ : Wd) : lvp σ 1 1 := ⟨show 1 < 2 + σ.2.2 8 by omega, fun z => absurd z (by decide)⟩
theorem lvl_f {σ : Wd} {u : Nat} (h : u < σ.2.2 8) : lvp σ 1 (u + 2) := ⟨show u + 2 < 2 + σ.2.2 8 by omega, fun z => absurd z (by decide)⟩
theorem wrc_0_6 (X : Xt) (ad : Ad) (σ : Wd) (i : Nat) (v : Int32) : cellv X ad (wr σ 0 i 6 v) 0 i = .inr (10, [.ref (ad 1 0), .ref (ad 1 1), .ref (ad 4 0), .ref (ad 7 0), .ref (ad 12 0), .ref (ad 19 0), .int v, .int (σ.1 0 i 7), .int (σ.1 0 i 8), .int (σ.1 0 i 9)]) := by rw [cell_0]; simp [wr]
theorem wrc_0_7 (X : Xt) (ad : Ad) (σ : Wd) (i : Nat) (v : Int32) : cellv X ad (wr σ 0 i 7 v) 0 i = .inr (10, [.ref (ad 1 0), .ref (ad 1 1), .ref (ad 4 0), .ref (ad 7 0), .ref (ad 12 0), .ref (ad 19 0), .int (σ.1 0 i 6), .int v, .int (σ.1 0 i 8), .int (σ.1 0 i 9)]) := by rw [cell_0]; simp [wr]
theorem wrc_0_8 (X : Xt) (ad : Ad) (σ : Wd) (i : Nat) (v : Int32) : cellv X ad (wr σ 0 i 8 v) 0 i = .inr (10, [.ref (ad 1 0), .ref (ad 1 1), .ref (ad 4 0), .ref (ad 7 0), .ref (ad 12 0), .ref (ad 19 0), .int (σ.1 0 i 6), .int (σ.1 0 i 7), .int v, .int (σ.1 0 i 9)]) := by rw [cell_0]; simp [wr]
theorem wrc_0_9 (X : Xt) (ad : Ad) (σ : Wd) (i : Nat) (v : Int32) : cellv X ad (wr σ 0 i 9 v) 0 i = .inr (10, [.ref (ad 1 0), .ref (ad 1 1), .ref (ad 4 0), .ref (ad 7 0), .ref (ad 12 0), .ref (ad 19 0), .int (σ.1 0 i 6), .int (σ.1 0 i 7), .int (σ.1 0 i 8), .int v]) := by rw [cell_0]; simp [wr]
theorem wrc_5_1 (X : Xt) (ad : Ad) (σ : Wd) (i : Nat) (v : Int32) : cellv X ad (wr σ 5 i 1 v) 5 i = .inr (7, [.ref (ad 6 i), .int v]) := by rw [cell_5]; simp [wr]
theorem wrc_9_0 (X : Xt) (ad : Ad) (σ : Wd) (i : Nat) (v : Int32) : cellv X ad (wr σ 9 i 0 v) 9 i = .inr (2, [.int v, .int (σ.1 9 i 1), .int (σ.1 9 i 2)]) := by rw [cell_9]; simp [wr]
theorem wrc_9_1 (X : Xt) (ad : Ad) (σ : Wd) (i : Nat) (v : Int32) : cellv X ad (wr σ 9 i 1 v) 9 i = .inr (2, [.int (σ.1 9 i 0), .int v, .int (σ.1 9 i 2)]) := by rw [cell_9]; simp [wr]
theorem wrc_9_2 (X : Xt) (ad : Ad) (σ : Wd) (i : Nat) (v : Int32) : cellv X ad (wr σ 9 i 2 v) 9 i = .inr (2, [.int (σ.1 9 i 0), .int (σ.1 9 i 1), .int v]) := by rw [cell_9]; simp [wr]
theorem wrc_11_0 (X : Xt) (ad : Ad) (σ : Wd) (i : Nat) (v : Int32) : cellv X ad (wr σ 11 i 0 v) 11 i = .inr (6, [.int v, .int (σ.1 11 i 1)]) := by rw [cell_11]; simp [wr]
theorem wrc_11_1 (X : Xt) (ad : Ad) (σ : Wd) (i : Nat) (v : Int32) : cellv X ad (wr σ 11 i 1 v) 11 i = .inr (6, [.int (σ.1 11 i 0), .int v]) := by rw [cell_11]; simp [wr]
theorem wrc_12_6 (X : Xt) (ad : Ad) (σ : Wd) (i : Nat) (v : Int32) : cellv X ad (wr σ 12 i 6 v) 12 i = .inr (4, [.ref (ad 13 0), .ref (ad 14 0), .ref (ad 15 0), .ref (ad 16 0), .ref (ad 17 0), .ref (ad 18 0), .int v, .int (σ.1 12 i 7)]) := by rw [cell_12]; simp [wr]
theorem wrc_12_7 (X : Xt) (ad : Ad) (σ : Wd) (i : Nat) (v : Int32) : cellv X ad (wr σ 12 i 7 v) 12 i = .inr (4, [.ref (ad 13 0), .ref (ad 14 0), .ref (ad 15 0), .ref (ad 16 0), .ref (ad 17 0), .ref (ad 18 0), .int (σ.1 12 i 6), .int v]) := by rw [cell_12]; simp [wr]
theorem wrc_21_0 (X : Xt) (ad : Ad) (σ : Wd) (i : Nat) (v : Int32) : cellv X ad (wr σ 21 i 0 v) 21 i = .inr (9, [.int v, .ref (ad 1 (i + 2)), .int (σ.1 21 i 2), .int (σ.1 21 i 3), .ref (ad 22 i), .ref (ad 23 i), .ref (ad 24 i)]) := by rw [cell_21]; simp [wr]
theorem wrc_21_2 (X : Xt) (ad : Ad) (σ : Wd) (i : Nat) (v : Int32) : cellv X ad (wr σ 21 i 2 v) 21 i = .inr (9, [.int (σ.1 21 i 0), .ref (ad 1 (i + 2)), .int v, .int (σ.1 21 i 3), .ref (ad 22 i), .ref (ad 23 i), .ref (ad 24 i)]) := by rw [cell_21]; simp [wr]
theorem wrc_21_3 (X : Xt) (ad : Ad) (σ : Wd) (i : Nat) (v : Int32) : cellv X ad (wr σ 21 i 3 v) 21 i = .inr (9, [.int (σ.1 21 i 0), .ref (ad 1 (i + 2)), .int (σ.1 21 i 2), .int v, .ref (ad 22 i), .ref (ad 23 i), .ref (ad 24 i)]) := by rw [cell_21]; simp [wr]
theorem wrc_25_0 (X : Xt) (ad : Ad) (σ : Wd) (i : Nat) (v : Int32) : cellv X ad (wr σ 25 i 0 v) 25 i = .inr (1, [.int v, .int (σ.1 25 i 1), .int (σ.1 25 i 2), .int (σ.1 25 i 3), .int (σ.1 25 i 4), .int (σ.1 25 i 5)]) := by rw [cell_25]; simp [wr]
theorem wrc_25_1 (X : Xt) (ad : Ad) (σ : Wd) (i : Nat) (v : Int32) : cellv X ad (wr σ 25 i 1 v) 25 i = .inr (1, [.int (σ.1 25 i 0), .int v, .int (σ.1 25 i 2), .int (σ.1 25 i 3), .int (σ.1 25 i 4), .int (σ.1 25 i 5)]) := by rw [cell_25]; simp [wr]
theorem wrc_25_2 (X : Xt) (ad : Ad) (σ : Wd) (i : Nat) (v : Int32) : cellv X ad (wr σ 25 i 2 v) 25 i = .inr (1, [.int (σ.1 25 i 0), .int (σ.1 25 i 1), .int v, .int (σ.1 25 i 3), .int (σ.1 25 i 4), .int (σ.1 25 i 5)]) := by rw [cell_25]; simp [wr]
theorem wrc_25_3 (X : Xt) (ad : Ad) (σ : Wd) (i : Nat) (v : Int32) : cellv X ad (wr σ 25 i 3 v) 25 i = .inr (1, [.int (σ.1 25 i 0), .int (σ.1 25 i 1), .int (σ.1 25 i 2), .int v, .int (σ.1 25 i 4), .int (σ.1 25 i 5)]) := by rw [cell_25]; simp [wr]
theorem wrc_25_4 (X : Xt) (ad : Ad) (σ : Wd) (i : Nat) (v : Int32) : cellv X ad (wr σ 25 i 4 v) 25 i = .inr (1, [.int (σ.1 25 i 0), .int (σ.1 25 i 1), .int (σ.1 25 i 2), .int (σ.1 25 i 3), .int v, .int (σ.1 25 i 5)]) := by rw [cell_25]; simp [wr]
theorem wrc_25_5 (X : Xt) (ad : Ad) (σ : Wd) (i : Nat) (v : Int32) : cellv X ad (wr σ 25 i 5 v) 25 i = .inr (1, [.int (σ.1 25 i 0), .int (σ.1 25 i 1), .int (σ.1 25 i 2), .int (σ.1 25 i 3), .int (σ.1 25 i 4), .int v]) := by rw [cell_25]; simp [wr]
theorem wrc_26_0 (X : Xt) (ad : Ad) (σ : Wd) (i : Nat) (v : Int32) : cellv X ad (wr σ 26 i 0 v) 26 i = .inr (3, [.int v, .int (σ.1 26 i 1), .int (σ.1 26 i 2), .int (σ.1 26 i 3)]) := by rw [cell_26]; simp [wr]
theorem wrc_26_1 (X : Xt) (ad : Ad) (σ : Wd) (i : Nat) (v : Int32) : cellv X ad (wr σ 26 i 1 v) 26 i = .inr (3, [.int (σ.1 26 i 0), .int v, .int (σ.1 26 i 2), .int (σ.1 26 i 3)]) := by rw [cell_26]; simp [wr]
theorem wrc_26_2 (X : Xt) (ad : Ad) (σ : Wd) (i : Nat) (v : Int32) : cellv X ad (wr σ 26 i 2 v) 26 i = .inr (3, [.int (σ.1 26 i 0), .int (σ.1 26 i 1), .int v, .int (σ.1 26 i 3)]) := by rw [cell_26]; simp [wr]
theorem wrc_26_3 (X : Xt) (ad : Ad) (σ : Wd) (i : Nat) (v : Int32) : cellv X ad (wr σ 26 i 3 v) 26 i = .inr (3, [.int (σ.1 26 i 0), .int (σ.1 26 i 1), .int (σ.1 26 i 2), .int v]) := by rw [cell_26]; simp [wr]
theorem wrc_30_0 (X : Xt) (ad : Ad) (σ : Wd) (i : Nat) (v : Int32) : cellv X ad (wr σ 30 i 0 v) 30 i = .inr (11, [.int v, .int (σ.1 30 i 1), .int (σ.1 30 i 2), .int (σ.1 30 i 3), .int (σ.1 30 i 4), .int (σ.1 30 i 5), .ref (ad 31 0), .ref (ad 32 0), .ref (ad 33 0), .ref (ad 34 0), .ref (ad 35 0), .ref (ad 36 0), .ref (ad 37 0), .ref (ad 38 0), .ref (ad 39 0), .ref (ad 40 0), .ref (ad 41 0), .ref (ad 42 0), .ref (ad 43 0), .int (σ.1 30 i 19), .ref (ad 44 0), .ref (ad 45 0), .ref (ad 46 0), .ref (ad 47 0), .ref (ad 48 0), .ref (ad 49 0), .ref (ad 50 0), .ref (ad 51 0), .ref (ad 52 0), .ref (ad 53 0), .ref (ad 54 0), .ref (ad 55 0), .ref (ad 56 0), .ref (ad 57 0), .ref (ad 58 0), .ref (ad 59 0), .ref (ad 60 0), .int (σ.1 30 i 37), .int (σ.1 30 i 38)]) := by rw [cell_30]; simp [wr]
theorem wrc_30_1 (X : Xt) (ad : Ad) (σ : Wd) (i : Nat) (v : Int32) : cellv X ad (wr σ 30 i 1 v) 30 i = .inr (11, [.int (σ.1 30 i 0), .int v, .int (σ.1 30 i 2), .int (σ.1 30 i 3), .int (σ.1 30 i 4), .int (σ.1 30 i 5), .ref (ad 31 0), .ref (ad 32 0), .ref (ad 33 0), .ref (ad 34 0), .ref (ad 35 0), .ref (ad 36 0), .ref (ad 37 0), .ref (ad 38 0), .ref (ad 39 0), .ref (ad 40 0), .ref (ad 41 0), .ref (ad 42 0), .ref (ad 43 0), .int (σ.1 30 i 19), .ref (ad 44 0), .ref (ad 45 0), .ref (ad 46 0), .ref (ad 47 0), .ref (ad 48 0), .ref (ad 49 0), .ref (ad 50 0), .ref (ad 51 0), .ref (ad 52 0), .ref (ad 53 0), .ref (ad 54 0), .ref (ad 55 0), .ref (ad 56 0), .ref (ad 57 0), .ref (ad 58 0), .ref (ad 59 0), .ref (ad 60 0), .int (σ.1 30 i 37), .int (σ.1 30 i 38)]) := by rw [cell_30]; simp [wr]
theorem wrc_30_2 (X : Xt) (ad : Ad) (σ : Wd) (i : Nat) (v : Int32) : cellv X ad (wr σ 30 i 2 v) 30 i = .inr (11, [.int (σ.1 30 i 0), .int (σ.1 30 i 1), .int v, .int (σ.1 30 i 3), .int (σ.1 30 i 4), .int (σ.1 30 i 5), .ref (ad 31 0), .ref (ad 32 0), .ref (ad 33 0), .ref (ad 34 0), .ref (ad 35 0), .ref (ad 36 0), .ref (ad 37 0), .ref (ad 38 0), .ref (ad 39 0), .ref (ad 40 0), .ref (ad 41 0), .ref (ad 42 0), .ref (ad 43 0), .int (σ.1 30 i 19), .ref (ad 44 0), .ref (ad 45 0), .ref (ad 46 0), .ref (ad 47 0), .ref (ad 48 0), .ref (ad 49 0), .ref (ad 50 0), .ref (ad 51 0), .ref (ad 52 0), .ref (ad 53 0), .ref (ad 54 0), .ref (ad 55 0), .ref (ad 56 0), .ref (ad 57 0), .ref (ad 58 0), .ref (ad 59 0), .ref (ad 60 0), .int (σ.1 30 i 37), .int (σ.1 30 i 38)]) := by rw [cell_30]; simp [wr]
theorem wrc_30_3 (X : Xt) (ad : Ad) (σ : Wd) (i : Nat) (v : Int32) : cellv X ad (wr σ 30 i 3 v) 30 i = .inr (11, [.int (σ.1 30 i 0), .int (σ.1 30 i 1), .int (σ.1 30 i 2), .int v, .int (σ.1 30 i 4), .int (σ.1 30 i 5), .ref (ad 31 0), .ref (ad 32 0), .ref (ad 33 0), .ref (ad 34 0), .ref (ad 35 0), .ref (ad 36 0), .ref (ad 37 0), .ref (ad 38 0), .ref (ad 39 0), .ref (ad 40 0), .ref (ad 41 0), .ref (ad 42 0), .ref (ad 43 0), .int (σ.1 30 i 19), .ref (ad 44 0), .ref (ad 45 0), .ref (ad 46 0), .ref (ad 47 0), .ref (ad 48 0), .ref (ad 49 0), .ref (ad 50 0), .ref (ad 51 0), .ref (ad 52 0), .ref (ad 53 0), .ref (ad 54 0), .ref (ad 55 0), .ref (ad 56 0), .ref (ad 57 0), .ref (ad 58 0), .ref (ad 59 0), .ref (ad 60 0), .int (σ.1 30 i 37), .int (σ.1 30 i 38)]) := by rw [cell_30]; simp [wr]
theorem wrc_30_4 (X : Xt) (ad : Ad) (σ : Wd) (i : Nat) (v : Int32) : cellv X ad (wr σ 30 i 4 v) 30 i = .inr (11, [.int (σ.1 30 i 0), .int (σ.1 30 i 1), .int (σ.1 30 i 2), .int (σ.1 30 i 3), .int v, .int (σ.1 30 i 5), .ref (ad 31 0), .ref (ad 32 0), .ref (ad 33 0), .ref (ad 34 0), .ref (ad 35 0), .ref (ad 36 0), .ref (ad 37 0), .ref (ad 38 0), .ref (ad 39 0), .ref (ad 40 0), .ref (ad 41 0), .ref (ad 42 0), .ref (ad 43 0), .int (σ.1 30 i 19), .ref (ad 44 0), .ref (ad 45 0), .ref (ad 46 0), .ref (ad 47 0), .ref (ad 48 0), .ref (ad 49 0), .ref (ad 50 0), .ref (ad 51 0), .ref (ad 52 0), .ref (ad 53 0), .ref (ad 54 0), .ref (ad 55 0), .ref (ad 56 0), .ref (ad 57 0), .ref (ad 58 0), .ref (ad 59 0), .ref (ad 60 0), .int (σ.1 30 i 37), .int (σ.1 30 i 38)]) := by rw [cell_30]; simp [wr]
theorem wrc_30_5 (X : Xt) (ad : Ad) (σ : Wd) (i : Nat) (v : Int32) : cellv X ad (wr σ 30 i 5 v) 30 i = .inr (11, [.int (σ.1 30 i 0), .int (σ.1 30 i 1), .int (σ.1 30 i 2), .int (σ.1 30 i 3), .int (σ.1 30 i 4), .int v, .ref (ad 31 0), .ref (ad 32 0), .ref (ad 33 0), .ref (ad 34 0), .ref (ad 35 0), .ref (ad 36 0), .ref (ad 37 0), .ref (ad 38 0), .ref (ad 39 0), .ref (ad 40 0), .ref (ad 41 0), .ref (ad 42 0), .ref (ad 43 0), .int (σ.1 30 i 19), .ref (ad 44 0), .ref (ad 45 0), .ref (ad 46 0), .ref (ad 47 0), .ref (ad 48 0), .ref (ad 49 0), .ref (ad 50 0), .ref (ad 51 0), .ref (ad 52 0), .ref (ad 53 0), .ref (ad 54 0), .ref (ad 55 0), .ref (ad 56 0), .ref (ad 57 0), .ref (ad 58 0), .ref (ad 59 0), .ref (ad 60 0), .int (σ.1 30 i 37), .int (σ.1 30 i 38)]) := by rw [cell_30]; simp [wr]
theorem wrc_30_19 (X : Xt) (ad : Ad) (σ : Wd) (i : Nat) (v : Int32) : cellv X ad (wr σ 30 i 19 v) 30 i = .inr (11, [.int (σ.1 30 i 0), .int (σ.1 30 i 1), .int (σ.1 30 i 2), .int (σ.1 30 i 3), .int (σ.1 30 i 4), .int (σ.1 30 i 5), .ref (ad 31 0), .ref (ad 32 0), .ref (ad 33 0), .ref (ad 34 0), .ref (ad 35 0), .ref (ad 36 0), .ref (ad 37 0), .ref (ad 38 0), .ref (ad 39 0), .ref (ad 40 0), .ref (ad 41 0), .ref (ad 42 0), .ref (ad 43 0), .int v, .ref (ad 44 0), .ref (ad 45 0), .ref (ad 46 0), .ref (ad 47 0), .ref (ad 48 0), .ref (ad 49 0), .ref (ad 50 0), .ref (ad 51 0), .ref (ad 52 0), .ref (ad 53 0), .ref (ad 54 0), .ref (ad 55 0), .ref (ad 56 0), .ref (ad 57 0), .ref (ad 58 0), .ref (ad 59 0), .ref (ad 60 0), .int (σ.1 30 i 37), .int (σ.1 30 i 38)]) := by rw [cell_30]; simp [wr]
theorem wrc_30_37 (X : Xt) (ad : Ad) (σ : Wd) (i : Nat) (v : Int32) : cellv X ad (wr σ 30 i 37 v) 30 i = .inr (11, [.int (σ.1 30 i 0), .int (σ.1 30 i 1), .int (σ.1 30 i 2), .int (σ.1 30 i 3), .int (σ.1 30 i 4), .int (σ.1 30 i 5), .ref (ad 31 0), .ref (ad 32 0), .ref (ad 33 0), .ref (ad 34 0), .ref (ad 35 0), .ref (ad 36 0), .ref (ad 37 0), .ref (ad 38 0), .ref (ad 39 0), .ref (ad 40 0), .ref (ad 41 0), .ref (ad 42 0), .ref (ad 43 0), .int (σ.1 30 i 19), .ref (ad 44 0), .ref (ad 45 0), .ref (ad 46 0), .ref (ad 47 0), .ref (ad 48 0), .ref (ad 49 0), .ref (ad 50 0), .ref (ad 51 0), .ref (ad 52 0), .ref (ad 53 0), .ref (ad 54 0), .ref (ad 55 0), .ref (ad 56 0), .ref (ad 57 0), .ref (ad 58 0), .ref (ad 59 0), .ref (ad 60 0), .int v, .int (σ.1 30 i 38)]) := by rw [cell_30]; simp [wr]
theorem wrc_30_38 (X : Xt) (ad : Ad) (σ : Wd) (i : Nat) (v : Int32) : cellv X ad (wr σ 30 i 38 v) 30 i = .inr (11, [.int (σ.1 30 i 0), .int (σ.1 30 i 1), .int (σ.1 30 i 2), .int (σ.1 30 i 3), .int (σ.1 30 i 4), .int (σ.1 30 i 5), .ref (ad 31 0), .ref (ad 32 0), .ref (ad 33 0), .ref (ad 34 0), .ref (ad 35 0), .ref (ad 36 0), .ref (ad 37 0), .ref (ad 38 0), .ref (ad 39 0), .ref (ad 40 0), .ref (ad 41 0), .ref (ad 42 0), .ref (ad 43 0), .int (σ.1 30 i 19), .ref (ad 44 0), .ref (ad 45 0), .ref (ad 46 0), .ref (ad 47 0), .ref (ad 48 0), .ref (ad 49 0), .ref (ad 50 0), .ref (ad 51 0), .ref (ad 52 0), .ref (ad 53 0), .ref (ad 54 0), .ref (ad 55 0), .ref (ad 56 0), .ref (ad 57 0), .ref (ad 58 0), .ref (ad 59 0), .ref (ad 60 0), .int (σ.1 30 i 37), .int v]) := by rw [cell_30]; simp [wr]
theorem in_0 : ∀ w ∈ u_ws RJx4a65c TJx4a65c 3, w ∈ G_ := by
  show ∀ w ∈ [u_lay RJx4a65c TJx4a65c 0, u_lay RJx4a65c TJx4a65c 1, u_lay RJx4a65c TJx4a65c 2], w ∈ G_
  exact List.forall_mem_cons.mpr ⟨gt1 58 (by decide +kernel) (by decide +kernel), List.forall_mem_cons.mpr ⟨gt1 54 (by decide +kernel) (by decide +kernel), List.forall_mem_cons.mpr ⟨gt1 56 (by decide +kernel) (by decide +kernel), fun _ h => absurd h List.not_mem_nil⟩⟩⟩
theorem in_1 : ∀ w ∈ u_ws RX0 TX0 6, w ∈ G_ := by
  show ∀ w ∈ [u_lay RX0 TX0 0, u_lay RX0 TX0 1, u_lay RX0 TX0 2, u_lay RX0 TX0 3, u_lay RX0 TX0 4, u_lay RX0 TX0 5], w ∈ G_
  exact List.forall_mem_cons.mpr ⟨gt3 157 (by decide +kernel) (by decide +kernel), List.forall_mem_cons.mpr ⟨gt3 159 (by decide +kernel) (by decide +kernel), List.forall_mem_cons.mpr ⟨gt3 161 (by decide +kernel) (by decide +kernel), List.forall_mem_cons.mpr ⟨gt3 163 (by decide +kernel) (by decide +kernel), List.forall_mem_cons.mpr ⟨gt3 165 (by decide +kernel) (by decide +kernel), List.forall_mem_cons.mpr ⟨gt3 167 (by decide +kernel) (by decide +kernel), fun _ h => absurd h List.not_mem_nil⟩⟩⟩⟩⟩⟩
theorem in_2 : ∀ w ∈ u_ws RX1 TX1 3, w ∈ G_ := by
  show ∀ w ∈ [u_lay RX1 TX1 0, u_lay RX1 TX1 1, u_lay RX1 TX1 2], w ∈ G_
  exact List.forall_mem_cons.mpr ⟨gt1 82 (by decide +kernel) (by decide +kernel), List.forall_mem_cons.mpr ⟨gt1 84 (by decide +kernel) (by decide +kernel), List.forall_mem_cons.mpr ⟨gt1 86 (by decide +kernel) (by decide +kernel), fun _ h => absurd h List.not_mem_nil⟩⟩⟩
theorem in_3 : ∀ w ∈ u_ws RX2 TX2 4, w ∈ G_ := by
  show ∀ w ∈ [u_lay RX2 TX2 0, u_lay RX2 TX2 1, u_lay RX2 TX2 2, u_lay RX2 TX2 3], w ∈ G_
  exact List.forall_mem_cons.mpr ⟨gt3 215 (by decide +kernel) (by decide +kernel), List.forall_mem_cons.mpr ⟨gt3 217 (by decide +kernel) (by decide +kernel), List.forall_mem_cons.mpr ⟨gt3 219 (by decide +kernel) (by decide +kernel), List.forall_mem_cons.mpr ⟨gt3 221 (by decide +kernel) (by decide +kernel), fun _ h => absurd h List.not_mem_nil⟩⟩⟩⟩
theorem in_4 : ∀ w ∈ u_ws RX3 TX3 8, w ∈ G_ := by
  show ∀ w ∈ [u_lay RX3 TX3 0, u_lay RX3 TX3 1, u_lay RX3 TX3 2, u_lay RX3 TX3 3, u_lay RX3 TX3 4, u_lay RX3 TX3 5, u_lay RX3 TX3 6, u_lay RX3 TX3 7], w ∈ G_
  exact List.forall_mem_cons.mpr ⟨gt1 126 (by decide +kernel) (by decide +kernel), List.forall_mem_cons.mpr ⟨gt1 128 (by decide +kernel) (by decide +kernel), List.forall_mem_cons.mpr ⟨gt1 130 (by decide +kernel) (by decide +kernel), List.forall_mem_cons.mpr ⟨gt1 132 (by decide +kernel) (by decide +kernel), List.forall_mem_cons.mpr ⟨gt1 134 (by decide +kernel) (by decide +kernel), List.forall_mem_cons.mpr ⟨gt1 136 (by decide +kernel) (by decide +kernel), List.forall_mem_cons.mpr ⟨gt1 138 (by decide +kernel) (by decide +kernel), List.forall_mem_cons.mpr ⟨gt1 140 (by decide +kernel) (by decide +kernel), fun _ h => absurd h List.not_mem_nil⟩⟩⟩⟩⟩⟩⟩⟩
theorem in_5 : ∀ w ∈ u_ws RX4 TX4 1, w ∈ G_ := by
  show ∀ w ∈ [u_lay RX4 TX4 0], w ∈ G_
  exact List.forall_mem_cons.mpr ⟨gt1 154 (by decide +kernel) (by decide +kernel), fun _ h => absurd h List.not_mem_nil⟩
theorem in_6 : ∀ w ∈ u_ws RX5 TX5 2, w ∈ G_ := by
  show ∀ w ∈ [u_lay RX5 TX5 0, u_lay RX5 TX5 1], w ∈ G_
  exact List.forall_mem_cons.mpr ⟨gt1 100 (by decide +kernel) (by decide +kernel), List.forall_mem_cons.mpr ⟨gt1 102 (by decide +kernel) (by decide +kernel), fun _ h => absurd h List.not_mem_nil⟩⟩
theorem in_7 : ∀ w ∈ u_ws RX6 TX6 2, w ∈ G_ := by
  show ∀ w ∈ [u_lay RX6 TX6 0, u_lay RX6 TX6 1], w ∈ G_
  exact List.forall_mem_cons.mpr ⟨gt1 164 (by decide +kernel) (by decide +kernel), List.forall_mem_cons.mpr ⟨gt1 166 (by decide +kernel) (by decide +kernel), fun _ h => absurd h List.not_mem_nil⟩⟩
theorem in_8 : ∀ w ∈ u_ws RX7 TX7 2, w ∈ G_ := by
  show ∀ w ∈ [u_lay RX7 TX7 0, u_lay RX7 TX7 1], w ∈ G_
  exact List.forall_mem_cons.mpr ⟨gt1 107 (by decide +kernel) (by decide +kernel), List.forall_mem_cons.mpr ⟨gt1 109 (by decide +kernel) (by decide +kernel), fun _ h => absurd h List.not_mem_nil⟩⟩
theorem in_9 : ∀ w ∈ u_ws RX8 TX8 7, w ∈ G_ := by
  show ∀ w ∈ [u_lay RX8 TX8 0, u_lay RX8 TX8 1, u_lay RX8 TX8 2, u_lay RX8 TX8 3, u_lay RX8 TX8 4, u_lay RX8 TX8 5, u_lay RX8 TX8 6], w ∈ G_
  exact List.forall_mem_cons.mpr ⟨gt3 50 (by decide +kernel) (by decide +kernel), List.forall_mem_cons.mpr ⟨gt3 52 (by decide +kernel) (by decide +kernel), List.forall_mem_cons.mpr ⟨gt3 54 (by decide +kernel) (by decide +kernel), List.forall_mem_cons.mpr ⟨gt3 56 (by decide +kernel) (by decide +kernel), List.forall_mem_cons.mpr ⟨gt3 58 (by decide +kernel) (by decide +kernel), List.forall_mem_cons.mpr ⟨gt3 60 (by decide +kernel) (by decide +kernel), List.forall_mem_cons.mpr ⟨gt3 62 (by decide +kernel) (by decide +kernel), fun _ h => absurd h List.not_mem_nil⟩⟩⟩⟩⟩⟩⟩
theorem in_10 : ∀ w ∈ u_ws RX9 TX9 10, w ∈ G_ := by
  show ∀ w ∈ [u_lay RX9 TX9 0, u_lay RX9 TX9 1, u_lay RX9 TX9 2, u_lay RX9 TX9 3, u_lay RX9 TX9 4, u_lay RX9 TX9 5, u_lay RX9 TX9 6, u_lay RX9 TX9 7, u_lay RX9 TX9 8, u_lay RX9 TX9 9], w ∈ G_
  exact List.forall_mem_cons.mpr ⟨gt1 179 (by decide +kernel) (by decide +kernel), List.forall_mem_cons.mpr ⟨gt1 181 (by decide +kernel) (by decide +kernel), List.forall_mem_cons.mpr ⟨gt1 183 (by decide +kernel) (by decide +kernel), List.forall_mem_cons.mpr ⟨gt1 185 (by decide +kernel) (by decide +kernel), List.forall_mem_cons.mpr ⟨gt1 187 (by decide +kernel) (by decide +kernel), List.forall_mem_cons.mpr ⟨gt1 189 (by decide +kernel) (by decide +kernel), List.forall_mem_cons.mpr ⟨gt1 191 (by decide +kernel) (by decide +kernel), List.forall_mem_cons.mpr ⟨gt1 193 (by decide +kernel) (by decide +kernel), List.forall_mem_cons.mpr ⟨gt1 195 (by decide +kernel) (by decide +kernel), List.forall_mem_cons.mpr ⟨gt1 197 (by decide +kernel) (by decide +kernel), fun _ h => absurd h List.not_mem_nil⟩⟩⟩⟩⟩⟩⟩⟩⟩⟩
theorem in_11 : ∀ w ∈ u_ws RX10 TX10 39, w ∈ G_ := by
  show ∀ w ∈ [u_lay RX10 TX10 0, u_lay RX10 TX10 1, u_lay RX10 TX10 2, u_lay RX10 TX10 3, u_lay RX10 TX10 4, u_lay RX10 TX10 5, u_lay RX10 TX10 6, u_lay RX10 TX10 7, u_lay RX10 TX10 8, u_lay RX10 TX10 9, u_lay RX10 TX10 10, u_lay RX10 TX10 11, u_lay RX10 TX10 12, u_lay RX10 TX10 13, u_lay RX10 TX10 14, u_lay RX10 TX10 15, u_lay RX10 TX10 16, u_lay RX10 TX10 17, u_lay RX10 TX10 18, u_lay RX10 TX10 19, u_lay RX10 TX10 20, u_lay RX10 TX10 21, u_lay RX10 TX10 22, u_lay RX10 TX10 23, u_lay RX10 TX10 24, u_lay RX10 TX10 25, u_lay RX10 TX10 26, u_lay RX10 TX10 27, u_lay RX10 TX10 28, u_lay RX10 TX10 29, u_lay RX10 TX10 30, u_lay RX10 TX10 31, u_lay RX10 TX10 32, u_lay RX10 TX10 33, u_lay RX10 TX10 34, u_lay RX10 TX10 35, u_lay RX10 TX10 36, u_lay RX10 TX10 37, u_lay RX10 TX10 38], w ∈ G_
  exact List.forall_mem_cons.mpr ⟨gt5 19 (by decide +kernel) (by decide +kernel), List.forall_mem_cons.mpr ⟨gt5 21 (by decide +kernel) (by decide +kernel), List.forall_mem_cons.mpr ⟨gt5 23 (by decide +kernel) (by decide +kernel), List.forall_mem_cons.mpr ⟨gt5 25 (by decide +kernel) (by decide +kernel), List.forall_mem_cons.mpr ⟨gt5 27 (by decide +kernel) (by decide +kernel), List.forall_mem_cons.mpr ⟨gt5 29 (by decide +kernel) (by decide +kernel), List.forall_mem_cons.mpr ⟨gt5 31 (by decide +kernel) (by decide +kernel), List.forall_mem_cons.mpr ⟨gt5 33 (by decide +kernel) (by decide +kernel), List.forall_mem_cons.mpr ⟨gt5 35 (by decide +kernel) (by decide +kernel), List.forall_mem_cons.mpr ⟨gt5 37 (by decide +kernel) (by decide +kernel), List.forall_mem_cons.mpr ⟨gt5 39 (by decide +kernel) (by decide +kernel), List.forall_mem_cons.mpr ⟨gt5 41 (by decide +kernel) (by decide +kernel), List.forall_mem_cons.mpr ⟨gt5 43 (by decide +kernel) (by decide +kernel), List.forall_mem_cons.mpr ⟨gt5 45 (by decide +kernel) (by decide +kernel), List.forall_mem_cons.mpr ⟨gt5 47 (by decide +kernel) (by decide +kernel), List.forall_mem_cons.mpr ⟨gt5 49 (by decide +kernel) (by decide +kernel), List.forall_mem_cons.mpr ⟨gt5 51 (by decide +kernel) (by decide +kernel), List.forall_mem_cons.mpr ⟨gt5 53 (by decide +kernel) (by decide +kernel), List.forall_mem_cons.mpr ⟨gt5 55 (by decide +kernel) (by decide +kernel), List.forall_mem_cons.mpr ⟨gt5 57 (by decide +kernel) (by decide +kernel), List.forall_mem_cons.mpr ⟨gt5 59 (by decide +kernel) (by decide +kernel), List.forall_mem_cons.mpr ⟨gt5 61 (by decide +kernel) (by decide +kernel), List.forall_mem_cons.mpr ⟨gt5 63 (by decide +kernel) (by decide +kernel), List.forall_mem_cons.mpr ⟨gt5 65 (by decide +kernel) (by decide +kernel), List.forall_mem_cons.mpr ⟨gt5 67 (by decide +kernel) (by decide +kernel), List.forall_mem_cons.mpr ⟨gt5 69 (by decide +kernel) (by decide +kernel), List.forall_mem_cons.mpr ⟨gt5 71 (by decide +kernel) (by decide +kernel), List.forall_mem_cons.mpr ⟨gt5 73 (by decide +kernel) (by decide +kernel), List.forall_mem_cons.mpr ⟨gt5 75 (by decide +kernel) (by decide +kernel), List.forall_mem_cons.mpr ⟨gt5 77 (by decide +kernel) (by decide +kernel), List.forall_mem_cons.mpr ⟨gt5 79 (by decide +kernel) (by decide +kernel), List.forall_mem_cons.mpr ⟨gt5 81 (by decide +kernel) (by decide +kernel), List.forall_mem_cons.mpr ⟨gt5 83 (by decide +kernel) (by decide +kernel), List.forall_mem_cons.mpr ⟨gt5 85 (by decide +kernel) (by decide +kernel), List.forall_mem_cons.mpr ⟨gt5 87 (by decide +kernel) (by decide +kernel), List.forall_mem_cons.mpr ⟨gt5 89 (by decide +kernel) (by decide +kernel), List.forall_mem_cons.mpr ⟨gt5 91 (by decide +kernel) (by decide +kernel), List.forall_mem_cons.mpr ⟨gt5 93 (by decide +kernel) (by decide +kernel), List.forall_mem_cons.mpr ⟨gt5 95 (by decide +kernel) (by decide +kernel), fun _ h => absurd h List.not_mem_nil⟩⟩⟩⟩⟩⟩⟩⟩⟩⟩⟩⟩⟩⟩⟩⟩⟩⟩⟩⟩⟩⟩⟩⟩⟩⟩⟩⟩⟩⟩⟩⟩⟩⟩⟩⟩⟩⟩⟩
section TSW
variable {α : Type} {X : Xt} {fin : Ad → Prop} {cc : ByteArray} {nL : Nat} {own : String} {rt : Option FieldType} {fr lo : Nat} {val : α → Option Value} {kc cs : Nat × Nat} {ad : Ad} {σ : Wd} {pc : Nat} {lv : List (Nat × Value)} {st : List Value} {f f1 f2 : Option ((α ⊕ String) × Wd)}
theorem r_ite {c : Prop} [Decidable c] (k1 : c → Bk X fin cc nL own rt fr lo val kc cs ad σ pc lv st f1) (k2 : ¬ c → Bk X fin cc nL own rt fr lo val kc cs ad σ pc lv st f2) : Bk X fin cc nL own rt fr lo val kc cs ad σ pc lv st (if c then f1 else f2) := by
  by_cases h : c
  · rw [if_pos h]; exact k1 h
  · rw [if_neg h]; exact k2 h
theorem r_tswIn {dflt lo9 hi : Int} {offs : Array Int} {len : Nat} {x y : Int32} {off : Int} (tgt : Nat) (hx : x = y) (hd : decode cc pc = .ok (.tableswitch dflt lo9 hi offs, len)) (h1 : ¬ y.toInt < lo9) (h2 : ¬ hi < y.toInt) (ho : (offs[(y.toInt - lo9).toNat]?).isSome = true) (hoo : (offs[(y.toInt - lo9).toNat]?).getD 0 = off) (ht : (pc : Int) + off = (tgt : Int)) (k : Bk X fin cc nL own rt fr lo val kc cs ad σ tgt lv st f) : Bk X fin cc nL own rt fr lo val kc cs ad σ pc lv (.int x :: st) f := by
  intro res σ' h p e s m args below meth c B H locs ls hH hS hl
  subst hx
  obtain ⟨z, hz⟩ := Option.isSome_iff_exists.mp ho
  rw [hz] at hoo
  cases hoo
  exact lv_tableIn B.1 B.2.1 hd h1 h2 hz ht (k res σ' h p e s m args below meth c B H locs ls hH hS hl)
theorem r_tswOut {dflt lo9 hi : Int} {offs : Array Int} {len : Nat} {x : Int32} (tgt : Nat) (hd : decode cc pc = .ok (.tableswitch dflt lo9 hi offs, len)) (hx : x.toInt < lo9 ∨ hi < x.toInt) (ht : (pc : Int) + dflt = (tgt : Int)) (k : Bk X fin cc nL own rt fr lo val kc cs ad σ tgt lv st f) : Bk X fin cc nL own rt fr lo val kc cs ad σ pc lv (.int x :: st) f :=
  fun res σ' h p e s m args below meth c B H locs ls hH hS hl => lv_tableOut B.1 B.2.1 hd hx ht (k res σ' h p e s m args below meth c B H locs ls hH hS hl)
theorem tsw_ne {x : Int32} (k : Int32) (n : Int) (hk : k.toInt = n) (h : ¬ x = k) : ¬ x.toInt = n := fun z => h (Int32.toInt_inj.mp (z.trans hk.symm))
theorem tsw_out4 {x : Int32} (h0 : ¬ x = 0) (h1 : ¬ x = 1) (h2 : ¬ x = 2) (h3 : ¬ x = 3) : x.toInt < 0 ∨ 3 < x.toInt := by
  have a0 := tsw_ne 0 0 (by decide) h0
  have a1 := tsw_ne 1 1 (by decide) h1
  have a2 := tsw_ne 2 2 (by decide) h2
  have a3 := tsw_ne 3 3 (by decide) h3
  omega
theorem tsw_out6 {x : Int32} (h0 : ¬ x = 0) (h1 : ¬ x = 1) (h2 : ¬ x = 2) (h3 : ¬ x = 3) (h4 : ¬ x = 4) (h5 : ¬ x = 5) : x.toInt < 0 ∨ 5 < x.toInt := by
  have a0 := tsw_ne 0 0 (by decide) h0
  have a1 := tsw_ne 1 1 (by decide) h1
  have a2 := tsw_ne 2 2 (by decide) h2
  have a3 := tsw_ne 3 3 (by decide) h3
  have a4 := tsw_ne 4 4 (by decide) h4
  have a5 := tsw_ne 5 5 (by decide) h5
  omega
end TSW
end
