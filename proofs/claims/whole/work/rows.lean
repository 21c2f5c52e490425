section
-- ===== PART A: goes FIRST, ahead of the names: the tables' words, and 'selects' of the private methods out of them =====
/-- a private method of a class that the tables say can be made, by its rows of tables_1 -/
def lw_okq (q : MethodName × Nat) : Prop := (q.1.cls ≠ "java/lang/invoke/MethodHandle" ∧ q.1.cls ≠ "java/lang/invoke/VarHandle") ∧ Cond.instantiable q.1.cls q.2 ∈ tables_1 ∧ Cond.privateMethod q.1 ∈ tables_1 ∧ Cond.instanceMethod q.1 ∈ tables_1
theorem lw_p0 : lw_okq (⟨"LineTimes$Text", "parseItem", "()V"⟩, 6) := ⟨⟨by decide +kernel, by decide +kernel⟩, List.mem_of_getElem? (i := 145) (by decide +kernel), List.mem_of_getElem? (i := 224) (by decide +kernel), List.mem_of_getElem? (i := 225) (by decide +kernel)⟩
theorem lw_p1 : lw_okq (⟨"LineTimes$Text", "stands", "(C)Z"⟩, 6) := ⟨⟨by decide +kernel, by decide +kernel⟩, List.mem_of_getElem? (i := 145) (by decide +kernel), List.mem_of_getElem? (i := 228) (by decide +kernel), List.mem_of_getElem? (i := 229) (by decide +kernel)⟩
theorem lw_p2 : lw_okq (⟨"LineTimes$Text", "parseLine", "()V"⟩, 6) := ⟨⟨by decide +kernel, by decide +kernel⟩, List.mem_of_getElem? (i := 145) (by decide +kernel), List.mem_of_getElem? (i := 234) (by decide +kernel), List.mem_of_getElem? (i := 235) (by decide +kernel)⟩
theorem lw_p3 : lw_okq (⟨"LineTimes$Text", "parseNumber", "(II)I"⟩, 6) := ⟨⟨by decide +kernel, by decide +kernel⟩, List.mem_of_getElem? (i := 145) (by decide +kernel), List.mem_of_getElem? (i := 238) (by decide +kernel), List.mem_of_getElem? (i := 239) (by decide +kernel)⟩
theorem lw_p4 : lw_okq (⟨"java/util/ArrayList", "add", "(Ljava/lang/Object;[Ljava/lang/Object;I)V"⟩, 3) := ⟨⟨by decide +kernel, by decide +kernel⟩, List.mem_of_getElem? (i := 43) (by decide +kernel), List.mem_of_getElem? (i := 301) (by decide +kernel), List.mem_of_getElem? (i := 302) (by decide +kernel)⟩
theorem lw_p5 : lw_okq (⟨"java/util/ArrayList", "grow", "()[Ljava/lang/Object;"⟩, 3) := ⟨⟨by decide +kernel, by decide +kernel⟩, List.mem_of_getElem? (i := 43) (by decide +kernel), List.mem_of_getElem? (i := 305) (by decide +kernel), List.mem_of_getElem? (i := 306) (by decide +kernel)⟩
theorem lw_p6 : lw_okq (⟨"java/util/ArrayList", "grow", "(I)[Ljava/lang/Object;"⟩, 3) := ⟨⟨by decide +kernel, by decide +kernel⟩, List.mem_of_getElem? (i := 43) (by decide +kernel), List.mem_of_getElem? (i := 309) (by decide +kernel), List.mem_of_getElem? (i := 310) (by decide +kernel)⟩
theorem lw_p7 : lw_okq (⟨"LineTimes$Text", "lastHasRoom", "()Z"⟩, 6) := ⟨⟨by decide +kernel, by decide +kernel⟩, List.mem_of_getElem? (i := 145) (by decide +kernel), List.mem_of_getElem? (i := 360) (by decide +kernel), List.mem_of_getElem? (i := 361) (by decide +kernel)⟩
theorem lw_p8 : lw_okq (⟨"LineTimes$Text", "parseStop", "(LLineTimes$Line;)V"⟩, 6) := ⟨⟨by decide +kernel, by decide +kernel⟩, List.mem_of_getElem? (i := 145) (by decide +kernel), List.mem_of_getElem? (i := 396) (by decide +kernel), List.mem_of_getElem? (i := 397) (by decide +kernel)⟩
theorem lw_p9 : lw_okq (⟨"LineTimes$Text", "parseSign", "(C)V"⟩, 6) := ⟨⟨by decide +kernel, by decide +kernel⟩, List.mem_of_getElem? (i := 145) (by decide +kernel), List.mem_of_getElem? (i := 400) (by decide +kernel), List.mem_of_getElem? (i := 401) (by decide +kernel)⟩
theorem lw_p10 : lw_okq (⟨"java/lang/Throwable", "fillInStackTrace", "(I)Ljava/lang/Throwable;"⟩, 6) := ⟨⟨by decide +kernel, by decide +kernel⟩, List.mem_of_getElem? (i := 475) (by decide +kernel), List.mem_of_getElem? (i := 473) (by decide +kernel), List.mem_of_getElem? (i := 474) (by decide +kernel)⟩
theorem lw_p11 : lw_okq (⟨"LineTimes$Net", "workOutRuns", "(I)V"⟩, 5) := ⟨⟨by decide +kernel, by decide +kernel⟩, List.mem_of_getElem? (i := 37) (by decide +kernel), List.mem_of_getElem? (i := 679) (by decide +kernel), List.mem_of_getElem? (i := 680) (by decide +kernel)⟩
theorem lw_p12 : lw_okq (⟨"LineTimes$Line", "runsOn", "(I)Z"⟩, 11) := ⟨⟨by decide +kernel, by decide +kernel⟩, List.mem_of_getElem? (i := 242) (by decide +kernel), List.mem_of_getElem? (i := 693) (by decide +kernel), List.mem_of_getElem? (i := 694) (by decide +kernel)⟩
theorem lw_p13 : lw_okq (⟨"LineTimes$Line", "workOutTimes", "(II[LLineTimes$Place;)V"⟩, 11) := ⟨⟨by decide +kernel, by decide +kernel⟩, List.mem_of_getElem? (i := 242) (by decide +kernel), List.mem_of_getElem? (i := 698) (by decide +kernel), List.mem_of_getElem? (i := 699) (by decide +kernel)⟩
theorem lw_p14 : lw_okq (⟨"LineTimes$Line", "gatherLate", "(I)V"⟩, 11) := ⟨⟨by decide +kernel, by decide +kernel⟩, List.mem_of_getElem? (i := 242) (by decide +kernel), List.mem_of_getElem? (i := 702) (by decide +kernel), List.mem_of_getElem? (i := 703) (by decide +kernel)⟩
theorem lw_p15 : lw_okq (⟨"LineTimes$Net", "spread", "(II)Z"⟩, 5) := ⟨⟨by decide +kernel, by decide +kernel⟩, List.mem_of_getElem? (i := 37) (by decide +kernel), List.mem_of_getElem? (i := 716) (by decide +kernel), List.mem_of_getElem? (i := 717) (by decide +kernel)⟩
def lw_privs_1 : List (MethodName × Nat) := [(⟨"LineTimes$Text", "parseItem", "()V"⟩, 6), (⟨"LineTimes$Text", "stands", "(C)Z"⟩, 6), (⟨"LineTimes$Text", "parseLine", "()V"⟩, 6), (⟨"LineTimes$Text", "parseNumber", "(II)I"⟩, 6), (⟨"java/util/ArrayList", "add", "(Ljava/lang/Object;[Ljava/lang/Object;I)V"⟩, 3), (⟨"java/util/ArrayList", "grow", "()[Ljava/lang/Object;"⟩, 3), (⟨"java/util/ArrayList", "grow", "(I)[Ljava/lang/Object;"⟩, 3), (⟨"LineTimes$Text", "lastHasRoom", "()Z"⟩, 6), (⟨"LineTimes$Text", "parseStop", "(LLineTimes$Line;)V"⟩, 6), (⟨"LineTimes$Text", "parseSign", "(C)V"⟩, 6), (⟨"java/lang/Throwable", "fillInStackTrace", "(I)Ljava/lang/Throwable;"⟩, 6), (⟨"LineTimes$Net", "workOutRuns", "(I)V"⟩, 5), (⟨"LineTimes$Line", "runsOn", "(I)Z"⟩, 11), (⟨"LineTimes$Line", "workOutTimes", "(II[LLineTimes$Place;)V"⟩, 11), (⟨"LineTimes$Line", "gatherLate", "(I)V"⟩, 11), (⟨"LineTimes$Net", "spread", "(II)Z"⟩, 5)]
theorem lw_r1 : ∀ q ∈ lw_privs_1, lw_okq q := List.forall_mem_cons.mpr ⟨lw_p0, List.forall_mem_cons.mpr ⟨lw_p1, List.forall_mem_cons.mpr ⟨lw_p2, List.forall_mem_cons.mpr ⟨lw_p3, List.forall_mem_cons.mpr ⟨lw_p4, List.forall_mem_cons.mpr ⟨lw_p5, List.forall_mem_cons.mpr ⟨lw_p6, List.forall_mem_cons.mpr ⟨lw_p7, List.forall_mem_cons.mpr ⟨lw_p8, List.forall_mem_cons.mpr ⟨lw_p9, List.forall_mem_cons.mpr ⟨lw_p10, List.forall_mem_cons.mpr ⟨lw_p11, List.forall_mem_cons.mpr ⟨lw_p12, List.forall_mem_cons.mpr ⟨lw_p13, List.forall_mem_cons.mpr ⟨lw_p14, List.forall_mem_cons.mpr ⟨lw_p15, fun _ h => absurd h List.not_mem_nil⟩⟩⟩⟩⟩⟩⟩⟩⟩⟩⟩⟩⟩⟩⟩⟩
theorem lw_p16 : lw_okq (⟨"LineTimes$Net", "ride", "(LLineTimes$Line;III)Z"⟩, 5) := ⟨⟨by decide +kernel, by decide +kernel⟩, List.mem_of_getElem? (i := 37) (by decide +kernel), List.mem_of_getElem? (i := 720) (by decide +kernel), List.mem_of_getElem? (i := 721) (by decide +kernel)⟩
theorem lw_p17 : lw_okq (⟨"LineTimes$Net", "canEnter", "(III)Z"⟩, 5) := ⟨⟨by decide +kernel, by decide +kernel⟩, List.mem_of_getElem? (i := 37) (by decide +kernel), List.mem_of_getElem? (i := 724) (by decide +kernel), List.mem_of_getElem? (i := 725) (by decide +kernel)⟩
theorem lw_p18 : lw_okq (⟨"LineTimes$Net", "tellLastLeg", "([III)I"⟩, 5) := ⟨⟨by decide +kernel, by decide +kernel⟩, List.mem_of_getElem? (i := 37) (by decide +kernel), List.mem_of_getElem? (i := 733) (by decide +kernel), List.mem_of_getElem? (i := 734) (by decide +kernel)⟩
theorem lw_p19 : lw_okq (⟨"LineTimes$Net", "findLeg", "([ILLineTimes$Line;III)Z"⟩, 5) := ⟨⟨by decide +kernel, by decide +kernel⟩, List.mem_of_getElem? (i := 37) (by decide +kernel), List.mem_of_getElem? (i := 737) (by decide +kernel), List.mem_of_getElem? (i := 738) (by decide +kernel)⟩
theorem lw_p20 : lw_okq (⟨"LineTimes$Net", "findEntry", "(LLineTimes$Line;III)I"⟩, 5) := ⟨⟨by decide +kernel, by decide +kernel⟩, List.mem_of_getElem? (i := 37) (by decide +kernel), List.mem_of_getElem? (i := 741) (by decide +kernel), List.mem_of_getElem? (i := 742) (by decide +kernel)⟩
theorem lw_p21 : lw_okq (⟨"LineTimes$Net", "gatherRun", "(LLineTimes$Leavings;LLineTimes$Line;IIII)V"⟩, 5) := ⟨⟨by decide +kernel, by decide +kernel⟩, List.mem_of_getElem? (i := 37) (by decide +kernel), List.mem_of_getElem? (i := 801) (by decide +kernel), List.mem_of_getElem? (i := 802) (by decide +kernel)⟩
theorem lw_p22 : lw_okq (⟨"LineTimesModel", "refused", "(ZZZ)Z"⟩, 37) := ⟨⟨by decide +kernel, by decide +kernel⟩, List.mem_of_getElem? (i := 822) (by decide +kernel), List.mem_of_getElem? (i := 953) (by decide +kernel), List.mem_of_getElem? (i := 954) (by decide +kernel)⟩
theorem lw_p23 : lw_okq (⟨"LineTimesModel", "isLine", "(I)Z"⟩, 37) := ⟨⟨by decide +kernel, by decide +kernel⟩, List.mem_of_getElem? (i := 822) (by decide +kernel), List.mem_of_getElem? (i := 961) (by decide +kernel), List.mem_of_getElem? (i := 962) (by decide +kernel)⟩
theorem lw_p24 : lw_okq (⟨"LineTimesModel", "addStop", "(IIJJ)V"⟩, 37) := ⟨⟨by decide +kernel, by decide +kernel⟩, List.mem_of_getElem? (i := 822) (by decide +kernel), List.mem_of_getElem? (i := 970) (by decide +kernel), List.mem_of_getElem? (i := 971) (by decide +kernel)⟩
theorem lw_p25 : lw_okq (⟨"LineTimesModel", "round", "(IIJ)V"⟩, 37) := ⟨⟨by decide +kernel, by decide +kernel⟩, List.mem_of_getElem? (i := 822) (by decide +kernel), List.mem_of_getElem? (i := 1001) (by decide +kernel), List.mem_of_getElem? (i := 1002) (by decide +kernel)⟩
theorem lw_p26 : lw_okq (⟨"LineTimesModel", "take", "(IJ)Z"⟩, 37) := ⟨⟨by decide +kernel, by decide +kernel⟩, List.mem_of_getElem? (i := 822) (by decide +kernel), List.mem_of_getElem? (i := 1008) (by decide +kernel), List.mem_of_getElem? (i := 1009) (by decide +kernel)⟩
theorem lw_p27 : lw_okq (⟨"LineTimesModel", "runs", "(IJ)Z"⟩, 37) := ⟨⟨by decide +kernel, by decide +kernel⟩, List.mem_of_getElem? (i := 822) (by decide +kernel), List.mem_of_getElem? (i := 1012) (by decide +kernel), List.mem_of_getElem? (i := 1013) (by decide +kernel)⟩
theorem lw_p28 : lw_okq (⟨"LineTimesModel", "timeAt", "(IJIZ)J"⟩, 37) := ⟨⟨by decide +kernel, by decide +kernel⟩, List.mem_of_getElem? (i := 822) (by decide +kernel), List.mem_of_getElem? (i := 1017) (by decide +kernel), List.mem_of_getElem? (i := 1018) (by decide +kernel)⟩
theorem lw_p29 : lw_okq (⟨"LineTimesModel", "minutesAt", "(IJ)I"⟩, 37) := ⟨⟨by decide +kernel, by decide +kernel⟩, List.mem_of_getElem? (i := 822) (by decide +kernel), List.mem_of_getElem? (i := 1022) (by decide +kernel), List.mem_of_getElem? (i := 1023) (by decide +kernel)⟩
theorem lw_p30 : lw_okq (⟨"LineTimesModel", "lateAt", "(IIJ)J"⟩, 37) := ⟨⟨by decide +kernel, by decide +kernel⟩, List.mem_of_getElem? (i := 822) (by decide +kernel), List.mem_of_getElem? (i := 1026) (by decide +kernel), List.mem_of_getElem? (i := 1027) (by decide +kernel)⟩
theorem lw_p31 : lw_okq (⟨"LineTimesModel", "ready", "(IIIJ)J"⟩, 37) := ⟨⟨by decide +kernel, by decide +kernel⟩, List.mem_of_getElem? (i := 822) (by decide +kernel), List.mem_of_getElem? (i := 1030) (by decide +kernel), List.mem_of_getElem? (i := 1031) (by decide +kernel)⟩
def lw_privs_2 : List (MethodName × Nat) := [(⟨"LineTimes$Net", "ride", "(LLineTimes$Line;III)Z"⟩, 5), (⟨"LineTimes$Net", "canEnter", "(III)Z"⟩, 5), (⟨"LineTimes$Net", "tellLastLeg", "([III)I"⟩, 5), (⟨"LineTimes$Net", "findLeg", "([ILLineTimes$Line;III)Z"⟩, 5), (⟨"LineTimes$Net", "findEntry", "(LLineTimes$Line;III)I"⟩, 5), (⟨"LineTimes$Net", "gatherRun", "(LLineTimes$Leavings;LLineTimes$Line;IIII)V"⟩, 5), (⟨"LineTimesModel", "refused", "(ZZZ)Z"⟩, 37), (⟨"LineTimesModel", "isLine", "(I)Z"⟩, 37), (⟨"LineTimesModel", "addStop", "(IIJJ)V"⟩, 37), (⟨"LineTimesModel", "round", "(IIJ)V"⟩, 37), (⟨"LineTimesModel", "take", "(IJ)Z"⟩, 37), (⟨"LineTimesModel", "runs", "(IJ)Z"⟩, 37), (⟨"LineTimesModel", "timeAt", "(IJIZ)J"⟩, 37), (⟨"LineTimesModel", "minutesAt", "(IJ)I"⟩, 37), (⟨"LineTimesModel", "lateAt", "(IIJ)J"⟩, 37), (⟨"LineTimesModel", "ready", "(IIIJ)J"⟩, 37)]
theorem lw_r2 : ∀ q ∈ lw_privs_2, lw_okq q := List.forall_mem_cons.mpr ⟨lw_p16, List.forall_mem_cons.mpr ⟨lw_p17, List.forall_mem_cons.mpr ⟨lw_p18, List.forall_mem_cons.mpr ⟨lw_p19, List.forall_mem_cons.mpr ⟨lw_p20, List.forall_mem_cons.mpr ⟨lw_p21, List.forall_mem_cons.mpr ⟨lw_p22, List.forall_mem_cons.mpr ⟨lw_p23, List.forall_mem_cons.mpr ⟨lw_p24, List.forall_mem_cons.mpr ⟨lw_p25, List.forall_mem_cons.mpr ⟨lw_p26, List.forall_mem_cons.mpr ⟨lw_p27, List.forall_mem_cons.mpr ⟨lw_p28, List.forall_mem_cons.mpr ⟨lw_p29, List.forall_mem_cons.mpr ⟨lw_p30, List.forall_mem_cons.mpr ⟨lw_p31, fun _ h => absurd h List.not_mem_nil⟩⟩⟩⟩⟩⟩⟩⟩⟩⟩⟩⟩⟩⟩⟩⟩
theorem lw_p32 : lw_okq (⟨"LineTimesModel", "isLeg", "(II)Z"⟩, 37) := ⟨⟨by decide +kernel, by decide +kernel⟩, List.mem_of_getElem? (i := 822) (by decide +kernel), List.mem_of_getElem? (i := 1034) (by decide +kernel), List.mem_of_getElem? (i := 1035) (by decide +kernel)⟩
theorem lw_p33 : lw_okq (⟨"LineTimesModel", "choose", "(IIIJ)V"⟩, 37) := ⟨⟨by decide +kernel, by decide +kernel⟩, List.mem_of_getElem? (i := 822) (by decide +kernel), List.mem_of_getElem? (i := 1039) (by decide +kernel), List.mem_of_getElem? (i := 1040) (by decide +kernel)⟩
theorem lw_p34 : lw_okq (⟨"LineTimesModel", "keepTimes", "()V"⟩, 37) := ⟨⟨by decide +kernel, by decide +kernel⟩, List.mem_of_getElem? (i := 822) (by decide +kernel), List.mem_of_getElem? (i := 1043) (by decide +kernel), List.mem_of_getElem? (i := 1044) (by decide +kernel)⟩
theorem lw_p35 : lw_okq (⟨"LineTimesModel", "goOn", "(IIJZ)Z"⟩, 37) := ⟨⟨by decide +kernel, by decide +kernel⟩, List.mem_of_getElem? (i := 822) (by decide +kernel), List.mem_of_getElem? (i := 1062) (by decide +kernel), List.mem_of_getElem? (i := 1063) (by decide +kernel)⟩
theorem lw_p36 : lw_okq (⟨"LineTimesModel", "look", "()I"⟩, 37) := ⟨⟨by decide +kernel, by decide +kernel⟩, List.mem_of_getElem? (i := 822) (by decide +kernel), List.mem_of_getElem? (i := 1079) (by decide +kernel), List.mem_of_getElem? (i := 1080) (by decide +kernel)⟩
theorem lw_p37 : lw_okq (⟨"LineTimesModel", "fail", "(I)V"⟩, 37) := ⟨⟨by decide +kernel, by decide +kernel⟩, List.mem_of_getElem? (i := 822) (by decide +kernel), List.mem_of_getElem? (i := 1083) (by decide +kernel), List.mem_of_getElem? (i := 1084) (by decide +kernel)⟩
theorem lw_p38 : lw_okq (⟨"LineTimesModel", "number", "(I)I"⟩, 37) := ⟨⟨by decide +kernel, by decide +kernel⟩, List.mem_of_getElem? (i := 822) (by decide +kernel), List.mem_of_getElem? (i := 1087) (by decide +kernel), List.mem_of_getElem? (i := 1088) (by decide +kernel)⟩
theorem lw_p39 : lw_okq (⟨"LineTimesModel", "readStop", "(I)V"⟩, 37) := ⟨⟨by decide +kernel, by decide +kernel⟩, List.mem_of_getElem? (i := 822) (by decide +kernel), List.mem_of_getElem? (i := 1091) (by decide +kernel), List.mem_of_getElem? (i := 1092) (by decide +kernel)⟩
theorem lw_p40 : lw_okq (⟨"LineTimesModel", "blank", "()V"⟩, 37) := ⟨⟨by decide +kernel, by decide +kernel⟩, List.mem_of_getElem? (i := 822) (by decide +kernel), List.mem_of_getElem? (i := 1095) (by decide +kernel), List.mem_of_getElem? (i := 1096) (by decide +kernel)⟩
def lw_privs_3 : List (MethodName × Nat) := [(⟨"LineTimesModel", "isLeg", "(II)Z"⟩, 37), (⟨"LineTimesModel", "choose", "(IIIJ)V"⟩, 37), (⟨"LineTimesModel", "keepTimes", "()V"⟩, 37), (⟨"LineTimesModel", "goOn", "(IIJZ)Z"⟩, 37), (⟨"LineTimesModel", "look", "()I"⟩, 37), (⟨"LineTimesModel", "fail", "(I)V"⟩, 37), (⟨"LineTimesModel", "number", "(I)I"⟩, 37), (⟨"LineTimesModel", "readStop", "(I)V"⟩, 37), (⟨"LineTimesModel", "blank", "()V"⟩, 37)]
theorem lw_r3 : ∀ q ∈ lw_privs_3, lw_okq q := List.forall_mem_cons.mpr ⟨lw_p32, List.forall_mem_cons.mpr ⟨lw_p33, List.forall_mem_cons.mpr ⟨lw_p34, List.forall_mem_cons.mpr ⟨lw_p35, List.forall_mem_cons.mpr ⟨lw_p36, List.forall_mem_cons.mpr ⟨lw_p37, List.forall_mem_cons.mpr ⟨lw_p38, List.forall_mem_cons.mpr ⟨lw_p39, List.forall_mem_cons.mpr ⟨lw_p40, fun _ h => absurd h List.not_mem_nil⟩⟩⟩⟩⟩⟩⟩⟩⟩
def lw_privs : List (MethodName × Nat) := lw_privs_1 ++ (lw_privs_2 ++ (lw_privs_3))
def lw_tbl : List Cond := k2_sels lw_privs ++ tables_1
theorem lw_privs_ok : ∀ q ∈ lw_privs, lw_okq q := by
  show ∀ q ∈ lw_privs_1 ++ (lw_privs_2 ++ (lw_privs_3)), lw_okq q
  exact List.forall_mem_append.mpr ⟨lw_r1, List.forall_mem_append.mpr ⟨lw_r2, lw_r3⟩⟩
/-! ===== BEGIN words of one list among another's, by their places ===== -/
theorem goodIn_r {big : List Cond} (ws : List Cond) (ps : List Nat) (hp : ws = ps.filterMap (fun i => big[i]?)) (h : ws.all goodWord = true) : GoodIn big ws := by
  intro w hw
  have h1 := List.all_eq_true.mp h w hw
  rw [hp] at hw
  obtain ⟨i, -, hi⟩ := List.mem_filterMap.mp hw
  have hm : w ∈ big := by first | exact List.mem_of_getElem? hi | exact List.getElem?_mem hi
  exact ⟨hm, good_of_word h1⟩
theorem goodIn_app {big a b : List Cond} (ha : GoodIn big a) (hb : GoodIn big b) : GoodIn big (a ++ b) := fun w h => (List.mem_append.mp h).elim (ha w) (hb w)
theorem goodIn_ca {big a b : List Cond} {c : Cond} (ha : GoodIn big (c :: a)) (hb : GoodIn big b) : GoodIn big (c :: (a ++ b)) := fun w h => (List.mem_cons.mp h).elim (fun e => ha w (List.mem_cons.mpr (Or.inl e))) (fun h => (List.mem_append.mp h).elim (fun h => ha w (List.mem_cons.mpr (Or.inr h))) (hb w))
theorem goodIn_sub {big ws : List Cond} (hm : ∀ w ∈ ws, w ∈ big) (h : ws.all goodWord = true) : GoodIn big ws := fun w hw => ⟨hm w hw, good_of_word (List.all_eq_true.mp h w hw)⟩
/-! ===== END ===== -/

/-! ===== BEGIN exceptions that leave a method, and their catching by the caller (launches without stack traces) ===== -/
section VXA
/-! The laws vx_back, vx_callV, vx_callS, vx_callSW, vx_throw0, vx_throwS follow proofs of the library, with one case more: JvmDerived/Free/Laws.lean (Back.of_free), Shelf42/LK1.lean (callV, callS), Shelf/KitTraced.lean (throwNew0V, throwNewS). -/
/-- where a method has thrown q: the class by its name, the cell, what was written, the world -/
def vx_T (XC : String → State → State → Prop) (st : State) (q : Addr) (t : State) (mc ms : Nat) (free : Addr → Prop) : Prop :=
  ∃ (E : String) (ce : Cell) (L : List Loc), XC E st t ∧ t.heap[q]? = some ce ∧ ce.vm = .none ∧ st.vm.findClass E = some ce.cls ∧ st.WarmedH t.vm ∧ st.sameButNew ({ t with vm := st.vm } : State) L mc ms ∧ ∀ z ∈ L, free z.base
def vx_Q (Qc : Array Value → State → Outcome → State → Prop) (XC : String → State → State → Prop) (mc ms : Nat) (free : Addr → Prop) : Array Value → State → Outcome → State → Prop := fun a st o t =>
  (Qc a st o t ∧ ∃ L, FrameEnd st o t L mc ms ∧ ∀ q ∈ L, free q.base) ∨ ∃ q, o = .threw q ∧ vx_T XC st q t mc ms free
/-- a callee that returns or throws -/
def vx_Met (l : Launch) (y : MethodName) (ws : List Cond) (rm : Room) (Pc : Array Value → State → Prop) (Qc : Array Value → State → Outcome → State → Prop) (XC : String → State → State → Prop) (mc ms : Nat) (free : Addr → Prop) : Prop :=
  MetFree l y (headSpec ws rm) Pc (fun _ _ _ _ _ => True) (vx_Q Qc XC mc ms free)
def vx_Post (XC : String → State → State → Prop) (mc ms : Nat) (free : Addr → Prop) : Pt → Array Value → Addr → Pt → Prop := fun A a q B =>
  ∃ (g : JFrame) (mk : MethodId) (t : State) (L : List Loc) (E : String) (ce : Cell), B.U.heap = t.heap ∧ B.U.vm = t.vm ∧ XC E (A.U.calling g mk a) t ∧ t.heap[q]? = some ce ∧ ce.vm = .none ∧ A.U.vm.findClass E = some ce.cls ∧ B.locs = A.locs ++ L ∧ (∀ z ∈ L, free z.base) ∧ B.cells = A.cells + mc ∧ B.slots = A.slots + ms
def vx_Back (l : Launch) (R : Room) (p : Program) (e : Env) (below : List Frame) (s : State) (sargs : Array Value) (y : MethodName) (len W9 : Nat)
    (Pre : Pt → Array Value → Prop) (Post : Pt → Array Value → Option Value → Pt → Prop) (PostX : Pt → Array Value → Addr → Pt → Prop) : Prop :=
  ∀ (m : MethodId) (meth : Method) (c : Code) (A : Pt) (g : JFrame) (ig : Instr) (mk : MethodId) (a : Array Value),
    Stand p l e R s m sargs below meth c A.U A.locs A.cells A.slots → g.method = m → g.locals.size = c.maxLocals → decode c.code g.pc = .ok (ig, len) →
    2 * g.monitorRoom + (g.stack.map fun v => v.category).sum ≤ W9 → A.U.methodNamed? y = some mk → Pre A a →
    (∃ (v : Option Value) (B : Pt), Stand p l e R s m sargs below meth c B.U B.locs B.cells B.slots ∧ Post A a v B ∧
      Steps p.tables e below (doInvoke e (A.U.setTop g) [] mk a).1 (B.U.setTop { g with pc := g.pc + len, stack := v.toList ++ g.stack })) ∨
    (∃ (q : Addr) (B : Pt), Stand p l e R s m sargs below meth c B.U B.locs B.cells B.slots ∧ PostX A a q B ∧
      Steps p.tables e below (doInvoke e (A.U.setTop g) [] mk a).1 ((B.U.setTop g).pushFrame (.throwing q)))
section Payer
variable {l : Launch} {R : Room} {p : Program} {e : Env} {below : List Frame} {s : State} {sargs : Array Value} {y : MethodName} {len W9 : Nat}
theorem vx_back {ws : List Cond} {rm : Room} {Pc : Array Value → State → Prop} {Qc : Array Value → State → Outcome → State → Prop} {XC : String → State → State → Prop} {mc ms : Nat} {free : Addr → Prop} {bytes : ByteArray} {maxL : Nat} {ret : Option FieldType}
    (hM : vx_Met l y ws rm Pc Qc XC mc ms free) (hblind : FrameBlind Pc) (hrc : rm.cells = mc) (hrs : rm.slots = ms)
    (hframes : rm.frames + 1 ≤ R.frames) (hlocals : W9 + (maxL + 11) + rm.locals ≤ R.locals)
    (hws : ∀ w ∈ ws, ∀ a' U, s.WarmedH U.vm → w.before a' U = true) (hcode : Cond.code y bytes maxL ret ∈ ws) (hinit : ∀ a' U, s.WarmedH U.vm → (Cond.initialized y.cls).before a' U = true) :
    vx_Back l R p e below s sargs y len W9 (PreOf R mc ms Pc) (PostOf Qc mc ms free) (vx_Post XC mc ms free) := by
  intro m meth c A g ig mk a X hg hsize hdg hW hn hp
  have h1 : (headSpec ws rm).pre.before a A.U = true := atoms_intro fun w hw => hws w hw _ _ X.warmed
  have h2 : (Cond.code y bytes maxL ret).before a A.U = true := hws _ hcode _ _ X.warmed
  have h3 : (Cond.initialized y.cls).before a A.U = true := hinit _ _ X.warmed
  have h4 : A.cells + (headSpec ws rm).room.cells ≤ R.cells := by rw [show (headSpec ws rm).room.cells = mc from hrc]; exact hp.1
  have h5 : A.slots + (headSpec ws rm).room.slots ≤ R.slots := by rw [show (headSpec ws rm).room.slots = ms from hrs]; exact hp.2.1
  have hPc : Pc a (A.U.calling g mk a) := hblind _ _ _ _ hp.2.2
  obtain ⟨U, Ls, c0, s0⟩ := A
  dsimp only [Pt.U, Pt.locs, Pt.cells, Pt.slots] at h1 h2 h3 h4 h5 X hn hPc ⊢
  obtain ⟨methY, cY, hmY, hcY, -, hlY, -, -, -, -⟩ := Cond.code_spec hn h2
  obtain ⟨kY, hkY, -⟩ := className_of_methodNamed hn
  have hinitY : kY.init = .initialized := Cond.initialized_spec (findClass_of_methodNamed hn) hkY h3
  have h : At U g.method c below := by rw [hg]; exact X.here
  have hlocals9 : W9 + (maxL + 11) + (headSpec ws rm).room.locals ≤ R.locals := hlocals
  have happ : (headSpec ws rm).appliesLoose y e.platform (U.calling g mk a) = true :=
    Spec.appliesLoose_calling (g := g) h hdg hn hkY hinitY
      (X.room_calling (g := g) (R' := (headSpec ws rm).room) hsize hmY hcY hframes (by rw [hlY]; omega) h4 h5) h1
  obtain ⟨mid, hmid⟩ := h.above
  have hfr : (U.setTop g).frames = (.java g :: mid) ++ below := by rw [State.frames_setTop' g h.top, hmid]; rfl
  obtain ⟨o, s₂, hsteps, -, hend, hq⟩ := Steps.callFree hM p X.admits X.cas X.clock (acts := []) hfr happ hPc trivial
  have hq' : vx_Q Qc XC mc ms free a (U.calling g mk a) o s₂ := hq
  rw [State.frames_setTop' g h.top] at hend
  obtain ⟨g₀, hg0⟩ := Option.isSome_iff_exists.mp h.top
  obtain ⟨r, hr⟩ := State.topJava?_eq_some.mp hg0
  have hr' : (({ U with heap := s₂.heap, slotsUsed := s₂.slotsUsed } : State).setVm s₂.vm).frames = .java g₀ :: r := hr
  rcases hq' with ⟨hqc, L, hfe, hL⟩ | ⟨q, rfl, E, ce, L, hx, hce, hcv, hcl, hW₂, hsm, hL⟩
  · obtain ⟨⟨v, rfl⟩, hW₂, e2, q2, q3, q4, q5, q6⟩ := id hfe
    have e3 : s₂ = ({ (U.calling g mk a).setFrames s₂.frames with heap := s₂.heap, slotsUsed := s₂.slotsUsed } : State).setVm s₂.vm := by
      have : s₂ = ({ s₂ with vm := (U.calling g mk a).vm } : State).setVm s₂.vm := rfl
      rw [e2] at this
      exact this
    obtain ⟨c₂, i₂, len₂, hc₂, hd₂, hf₂⟩ := hend
    have hW' : U.WarmedH s₂.vm := hW₂
    have hcc : c₂ = c := by
      have h1 : s₂.code? g.method = U.code? g.method := by
        rw [State.code?_eq, State.code?_eq, hW'.alike.method?]
      exact Option.some.inj (hc₂.symm.trans (h1.trans h.code))
    subst hcc
    have hlen : len₂ = len := by rw [hdg] at hd₂; cases hd₂; rfl
    subst hlen
    have hs₂ : s₂ = (({ U with heap := s₂.heap, slotsUsed := s₂.slotsUsed } : State).setVm s₂.vm).setTop { g with pc := g.pc + len₂, stack := v.toList ++ g.stack } := by
      refine e3.trans ?_
      rw [hf₂, State.calling_eq h.top, State.setFrames_setFrames, State.setTop_of_frames _ hr', hr]
      rfl
    have hsame : U.sameButNew ({ U with heap := s₂.heap, slotsUsed := s₂.slotsUsed } : State) L mc ms := by
      refine ⟨?_, q2, q3, q4, q5, q6⟩
      obtain ⟨t, ht, -⟩ := State.frames_cons hr
      show ({ U with heap := s₂.heap, slotsUsed := s₂.slotsUsed } : State) = { U.setFrames U.frames with heap := s₂.heap, slotsUsed := s₂.slotsUsed }
      rw [State.setFrames_self ht]
    subst hg
    refine Or.inl ⟨v, ⟨(({ U with heap := s₂.heap, slotsUsed := s₂.slotsUsed } : State).setVm s₂.vm), Ls ++ L, c0 + mc, s0 + ms⟩,
      ⟨X.admits, X.cas, X.clock, X.frames, X.room, X.hears, X.method, X.code, (X.here.setHeapUsed s₂.heap s₂.slotsUsed).setVm hW'.alike, X.tail, State.WarmedH.trans X.warmed hW', X.limits, X.bytes, X.same.trans (hsame.setVm s.vm)⟩,
      ⟨g, mk, s₂, L, rfl, rfl, hqc, rfl, hL, rfl, rfl⟩, ?_⟩
    show Steps p.tables e below _ ((({ U with heap := s₂.heap, slotsUsed := s₂.slotsUsed } : State).setVm s₂.vm).setTop { g with pc := g.pc + len₂, stack := v.toList ++ g.stack })
    rw [← hs₂]
    exact hsteps
  · obtain ⟨e2, q2, q3, q4, q5, q6⟩ := id hsm
    have e3 : s₂ = ({ (U.calling g mk a).setFrames s₂.frames with heap := s₂.heap, slotsUsed := s₂.slotsUsed } : State).setVm s₂.vm := by
      have : s₂ = ({ s₂ with vm := (U.calling g mk a).vm } : State).setVm s₂.vm := rfl
      rw [e2] at this
      exact this
    have hf₂ : s₂.frames = .throwing q :: .java g :: U.frames.tail := hend
    have hW' : U.WarmedH s₂.vm := hW₂
    have hs₂ : s₂ = ((({ U with heap := s₂.heap, slotsUsed := s₂.slotsUsed } : State).setVm s₂.vm).setTop g).pushFrame (.throwing q) := by
      refine e3.trans ?_
      rw [hf₂, State.calling_eq h.top, State.setFrames_setFrames, State.pushFrame, State.frames_setTop _ hr', State.setTop_of_frames _ hr', State.setFrames_setFrames, hr]
      rfl
    have hsame : U.sameButNew ({ U with heap := s₂.heap, slotsUsed := s₂.slotsUsed } : State) L mc ms := by
      refine ⟨?_, q2, q3, q4, q5, q6⟩
      obtain ⟨t, ht, -⟩ := State.frames_cons hr
      show ({ U with heap := s₂.heap, slotsUsed := s₂.slotsUsed } : State) = { U.setFrames U.frames with heap := s₂.heap, slotsUsed := s₂.slotsUsed }
      rw [State.setFrames_self ht]
    subst hg
    refine Or.inr ⟨q, ⟨(({ U with heap := s₂.heap, slotsUsed := s₂.slotsUsed } : State).setVm s₂.vm), Ls ++ L, c0 + mc, s0 + ms⟩,
      ⟨X.admits, X.cas, X.clock, X.frames, X.room, X.hears, X.method, X.code, (X.here.setHeapUsed s₂.heap s₂.slotsUsed).setVm hW'.alike, X.tail, State.WarmedH.trans X.warmed hW', X.limits, X.bytes, X.same.trans (hsame.setVm s.vm)⟩,
      ⟨g, mk, s₂, L, E, ce, rfl, rfl, hx, hce, hcv, hcl, rfl, hL, rfl, rfl⟩, ?_⟩
    show Steps p.tables e below _ (((({ U with heap := s₂.heap, slotsUsed := s₂.slotsUsed } : State).setVm s₂.vm).setTop g).pushFrame (.throwing q))
    rw [← hs₂]
    exact hsteps
end Payer
section Calls
variable {p : Program} {l : Launch} {e : Env} {R : Room} {s : State} {m : MethodId} {args : Array Value} {below : List Frame} {meth : Method} {c : Code} {T : State} {locs : List Loc} {cells slots : Nat}
theorem vx_callV (X : Stand p l e R s m args below meth c T locs cells slots) (hexec : p.tables.exec = Jvm.exec) {own C : String} {index : Nat} {y : MethodName} {bytes : ByteArray} {maxL : Nat} {ret : Option FieldType}
    (hown : s.vm.findClass own = some m.cls) (hlink : (Cond.methodLink own index y).before args s = true) (hinst : (Cond.instanceMethod y).before args s = true) (hsel : (Cond.selects C y y).before args s = true)
    (hcode : (Cond.code y bytes maxL ret).before args s = true) (hy : y.cls ≠ "java/lang/invoke/MethodHandle" ∧ y.cls ≠ "java/lang/invoke/VarHandle")
    {W9 : Nat} {Pre : Pt → Array Value → Prop} {Post : Pt → Array Value → Option Value → Pt → Prop} {PostX : Pt → Array Value → Addr → Pt → Prop} (hK : vx_Back l R p e below s args y 3 W9 Pre Post PostX)
    {b : Addr} {cellB : Cell} (hcell : T.heap[b]? = some cellB) (hobj : cellB.vm.isStatics = false) (hcls : s.vm.findClass C = some cellB.cls)
    {g : JFrame} (hg : g.method = m) (hsize : g.locals.size = c.maxLocals) {argsL rest : List Value} (hlen : ∀ sig, parseMethodDescriptor y.desc = some sig → argsL.length = sig.parameters.length)
    (hstack : g.stack = argsL.reverse ++ .ref b :: rest) (hW : 2 * g.monitorRoom + (rest.map fun v => v.category).sum ≤ W9) (hdg : decode c.code g.pc = .ok (.invokevirtual index, 3))
    (hpre : ∀ vm₁, s.WarmedH vm₁ → Pre ⟨T.setVm vm₁, locs, cells, slots⟩ (Value.ref b :: argsL).toArray) :
    (∃ (v : Option Value) (vm₁ : Vm) (B : Pt), s.WarmedH vm₁ ∧ Stand p l e R s m args below meth c B.U B.locs B.cells B.slots ∧ Post ⟨T.setVm vm₁, locs, cells, slots⟩ (Value.ref b :: argsL).toArray v B ∧
      ∀ target, Steps p.tables e below (B.U.setTop { g with pc := g.pc + 3, stack := v.toList ++ rest }) target → Steps p.tables e below (T.setTop g) target) ∨
    (∃ (q : Addr) (vm₁ : Vm) (B : Pt), s.WarmedH vm₁ ∧ Stand p l e R s m args below meth c B.U B.locs B.cells B.slots ∧ PostX ⟨T.setVm vm₁, locs, cells, slots⟩ (Value.ref b :: argsL).toArray q B ∧
      Steps p.tables e below (T.setTop g) ((B.U.setTop { g with stack := rest }).pushFrame (.throwing q))) := by
  obtain ⟨mk, methM, hnamed, hmethM, hstM, habM⟩ := Cond.instanceMethod_spec hinst
  obtain ⟨methM', cM, hmethM', -, -, -, -, -, -, hsigM⟩ := Cond.code_spec hnamed hcode
  cases hmethM.symm.trans hmethM'
  obtain ⟨c2, r2, m2, q1, q2, q3, q4, kP, hkP, hkPi⟩ := Cond.selects_spec hsel
  cases hcls.symm.trans q1
  cases (State.methodFound?_of_named hnamed hy).symm.trans q2
  cases hnamed.symm.trans q3
  have hselP : selectMethod e.platform s.vm cellB.cls mk = .method mk := by rw [Launch.admits_selectMethod X.admits]; exact q4
  obtain ⟨vm₁, X₁, hstep₁⟩ := X.invokevirtual hexec hown hlink hnamed hmethM hstM hkP hkPi hy (a := b) (cell := cellB) hcell
    (fun z h => by rw [h] at hobj; cases hobj) hselP hmethM habM hkP hkPi (g := g) hg (argsL := argsL) (rest := rest) (hlen _ hsigM) hstack hdg
  rcases hK m meth c ⟨T.setVm vm₁, locs, cells, slots⟩ { g with stack := rest } (.invokevirtual index) mk (Value.ref b :: argsL).toArray X₁ hg hsize hdg hW (X₁.named hnamed) (hpre vm₁ X₁.warmed) with ⟨v, B, X', hpost, hsteps⟩ | ⟨q, B, X', hpost, hsteps⟩
  · exact Or.inl ⟨v, vm₁, B, X₁.warmed, X', hpost, fun target h => hstep₁ _ fun acts => by rw [doInvoke_state]; exact hsteps.trans h⟩
  · exact Or.inr ⟨q, vm₁, B, X₁.warmed, X', hpost, hstep₁ _ fun acts => by rw [doInvoke_state]; exact hsteps⟩
theorem vx_callS (X : Stand p l e R s m args below meth c T locs cells slots) (hexec : p.tables.exec = Jvm.exec) {own : String} {index : Nat} {y : MethodName} {bytes : ByteArray} {maxL : Nat} {ret : Option FieldType}
    (hown : s.vm.findClass own = some m.cls) (hlink : (Cond.methodLink own index y).before args s = true) (hstat : (Cond.static y).before args s = true) (hinit : (Cond.initialized y.cls).before args s = true)
    (hcode : (Cond.code y bytes maxL ret).before args s = true) (hy : y.cls ≠ "java/lang/invoke/MethodHandle" ∧ y.cls ≠ "java/lang/invoke/VarHandle")
    {W9 : Nat} {Pre : Pt → Array Value → Prop} {Post : Pt → Array Value → Option Value → Pt → Prop} {PostX : Pt → Array Value → Addr → Pt → Prop} (hK : vx_Back l R p e below s args y 3 W9 Pre Post PostX)
    {g : JFrame} (hg : g.method = m) (hsize : g.locals.size = c.maxLocals) {argsL rest : List Value} (hlen : ∀ sig, parseMethodDescriptor y.desc = some sig → argsL.length = sig.parameters.length)
    (hstack : g.stack = argsL.reverse ++ rest) (hW : 2 * g.monitorRoom + (rest.map fun v => v.category).sum ≤ W9) (hdg : decode c.code g.pc = .ok (.invokestatic index, 3))
    (hpre : ∀ vm₁, s.WarmedH vm₁ → Pre ⟨T.setVm vm₁, locs, cells, slots⟩ argsL.toArray) :
    (∃ (v : Option Value) (vm₁ : Vm) (B : Pt), s.WarmedH vm₁ ∧ Stand p l e R s m args below meth c B.U B.locs B.cells B.slots ∧ Post ⟨T.setVm vm₁, locs, cells, slots⟩ argsL.toArray v B ∧
      ∀ target, Steps p.tables e below (B.U.setTop { g with pc := g.pc + 3, stack := v.toList ++ rest }) target → Steps p.tables e below (T.setTop g) target) ∨
    (∃ (q : Addr) (vm₁ : Vm) (B : Pt), s.WarmedH vm₁ ∧ Stand p l e R s m args below meth c B.U B.locs B.cells B.slots ∧ PostX ⟨T.setVm vm₁, locs, cells, slots⟩ argsL.toArray q B ∧
      Steps p.tables e below (T.setTop g) ((B.U.setTop { g with stack := rest }).pushFrame (.throwing q))) := by
  obtain ⟨mk, hnamed⟩ := Cond.code_named hcode
  obtain ⟨methM, cM, hmethM, -, -, -, -, -, -, hsigM⟩ := Cond.code_spec hnamed hcode
  have hstatic : methM.isStatic = true := Cond.static_spec hnamed hmethM hstat
  obtain ⟨kP, hkP, -⟩ := className_of_methodNamed hnamed
  have hinitP : kP.init = .initialized := Cond.initialized_spec (findClass_of_methodNamed hnamed) hkP hinit
  obtain ⟨vm₁, X₁, hstep₁⟩ := X.invokestatic hexec hown hlink hnamed hmethM hstatic hkP hinitP hy (g := g) hg (argsL := argsL) (rest := rest) (hlen _ hsigM) hstack hdg
  rcases hK m meth c ⟨T.setVm vm₁, locs, cells, slots⟩ { g with stack := rest } (.invokestatic index) mk argsL.toArray X₁ hg hsize hdg hW (X₁.named hnamed) (hpre vm₁ X₁.warmed) with ⟨v, B, X', hpost, hsteps⟩ | ⟨q, B, X', hpost, hsteps⟩
  · exact Or.inl ⟨v, vm₁, B, X₁.warmed, X', hpost, fun target h => hstep₁ _ fun acts => by rw [doInvoke_state]; exact hsteps.trans h⟩
  · exact Or.inr ⟨q, vm₁, B, X₁.warmed, X', hpost, hstep₁ _ fun acts => by rw [doInvoke_state]; exact hsteps⟩
end Calls
theorem vx_cls {s : State} {T : State} {vm₁ : Vm} {E : String} {k : ClassId} (hW : s.WarmedH vm₁) (h : (T.setVm vm₁).vm.findClass E = some k) : s.vm.findClass E = some k := by
  have h1 : vm₁.findClass E = some k := h
  rw [hW.alike.findClass] at h1
  exact h1
/-- the method's frame g, with q thrown over it -/
def vx_W (p : Program) (l : Launch) (e : Env) (R : Room) (s : State) (m : MethodId) (args : Array Value) (below : List Frame) (meth : Method) (c : Code) (H : Heap) (locs : List Loc) (cells slots : Nat) (Q : State → Prop) (g : JFrame) (q : Addr) : Prop :=
  ∀ T : State, T.heap = H → Stand p l e R s m args below meth c T locs cells slots → ∃ t, Steps p.tables e below ((T.setTop g).pushFrame (.throwing q)) t ∧ Q t
def vx_Run (p : Program) (l : Launch) (e : Env) (R : Room) (s : State) (m : MethodId) (args : Array Value) (below : List Frame) (meth : Method) (c : Code) (H : Heap) (locs : List Loc) (cells slots mc ms : Nat) (g : JFrame) (rest : List Value) (Qa : State → Outcome → State → Prop) (XC : String → State → State → Prop) (free : Addr → Prop) : Prop :=
  ∀ T : State, T.heap = H → Stand p l e R s m args below meth c T locs cells slots →
    (∃ (v : Option Value) (st₀ t T' : State) (L : List Loc), st₀.heap = H ∧ Stand p l e R s m args below meth c T' (locs ++ L) (cells + mc) (slots + ms) ∧ (∀ q ∈ L, free q.base) ∧ T'.heap = t.heap ∧ T'.vm = t.vm ∧ Qa st₀ (.returned v) t ∧
      Goes p e below T g T' { g with pc := g.pc + 3, stack := v.toList ++ rest }) ∨
    (∃ (q : Addr) (st₀ t T' : State) (L : List Loc) (E : String) (ce : Cell), st₀.heap = H ∧ Stand p l e R s m args below meth c T' (locs ++ L) (cells + mc) (slots + ms) ∧ (∀ z ∈ L, free z.base) ∧ T'.heap = t.heap ∧ T'.vm = t.vm ∧ XC E st₀ t ∧ t.heap[q]? = some ce ∧ ce.vm = .none ∧ s.vm.findClass E = some ce.cls ∧
      Steps p.tables e below (T.setTop g) ((T'.setTop { g with stack := rest }).pushFrame (.throwing q)))
def vx_X {S : Type} (px : S → Prop) (B : String → S → State → Prop) (A : Nat → Prop) : String → State → State → Prop := fun E st t => ∃ u : S, px u ∧ B E u t ∧ va_F A st t
section Runs
variable {p : Program} {l : Launch} {e : Env} {R : Room} {s : State} {m : MethodId} {args : Array Value} {below : List Frame} {meth : Method} {c : Code} {H : Heap} {locs : List Loc} {cells slots : Nat}
variable {y : MethodName} {bytes cc : ByteArray} {maxL nL mc ms n index : Nat} {ret : Option FieldType} {ws : List Cond} {rm : Room} {Pc : Array Value → State → Prop} {Qc : Array Value → State → Outcome → State → Prop} {XC : String → State → State → Prop} {free : Addr → Prop} {Ts : List Cond} {own C : String} {b : Addr} {As rest : List Value} {g : JFrame}
theorem vx_callBack (cb : CallB R s args own index y bytes maxL ret ws rm mc ms n) (hM : vx_Met l y ws rm Pc Qc XC mc ms free) (hbl : FrameBlind Pc) : vx_Back l R p e below s args y 3 8 (PreOf R mc ms Pc) (PostOf Qc mc ms free) (vx_Post XC mc ms free) := by
  obtain ⟨hrc, hrs, hfr, hlo, hws, hcw, -, hini, -⟩ := cb
  exact vx_back (bytes := bytes) (maxL := maxL) (ret := ret) hM hbl hrc hrs hfr hlo hws hcw (fun a' U hW => word_at hW (Or.inl (by first | rfl | simp [Cond.onTables, Cond.keeps, Cond.steady])) hini)
theorem vx_runV (S : CallFix p m c cc nL s args Ts own) (hM : vx_Met l y ws rm Pc Qc XC mc ms free) (cw : CallW R s args own C index y bytes maxL ret ws rm mc ms n) (hp : PreV s H C b Pc As)
    (hg : g.method = m) (hn : As.length = n) (hsize : g.locals.size = nL) (hstack : g.stack = As.reverse ++ .ref b :: rest) (hW : 2 * g.monitorRoom + (rest.map fun v => v.category).sum ≤ 8) (hdg : decode cc g.pc = .ok (.invokevirtual index, 3)) (hf : cells + mc ≤ R.cells ∧ slots + ms ≤ R.slots) :
    vx_Run p l e R s m args below meth c H locs cells slots mc ms g rest (Qc (Value.ref b :: As).toArray) XC free := by
  have hK : vx_Back l R p e below s args y 3 8 (PreOf R mc ms Pc) (PostOf Qc mc ms free) (vx_Post XC mc ms free) := vx_callBack cw.1 hM hp.1
  obtain ⟨⟨-, -, -, -, -, -, hcode, -, hy, hlen, hl⟩, hin, hse⟩ := cw
  obtain ⟨hx, hb, hml, ho, -⟩ := S
  obtain ⟨-, ⟨cellB, hcB, hoB, hclB⟩, hPc⟩ := hp
  intro T hT X
  rcases vx_callV X hx (C := C) (bytes := bytes) (maxL := maxL) (ret := ret) ho hl hin hse hcode hy hK (by rw [hT]; exact hcB) hoB hclB hg (hsize.trans hml.symm) (argsL := As) (rest := rest) (fun sig h => hn.trans (hlen sig h)) hstack hW (by rw [hb]; exact hdg)
    (fun vm₁ hW₁ => ⟨hf.1, hf.2, hPc (T.setVm vm₁) hT hW₁⟩) with ⟨v, vm₁, ⟨U', l2, c2, s2⟩, hW₁, X', ⟨g', mk, t, L, e1, e2, hq, h1, hL, h2, h3⟩, st⟩ | ⟨q, vm₁, ⟨U', l2, c2, s2⟩, hW₁, X', ⟨g', mk, t, L, E, ce, e1, e2, hq, hce, hcv, hcl, h1, hL, h2, h3⟩, st⟩
  · dsimp only [Pt.U, Pt.locs, Pt.cells, Pt.slots] at X' e1 e2 h1 h2 h3 st
    subst h1; subst h2; subst h3
    exact Or.inl ⟨v, (T.setVm vm₁).calling g' mk (Value.ref b :: As).toArray, t, U', L, hT, X', hL, e1, e2, hq, st⟩
  · dsimp only [Pt.U, Pt.locs, Pt.cells, Pt.slots] at X' e1 e2 h1 h2 h3 st hcl
    subst h1; subst h2; subst h3
    exact Or.inr ⟨q, (T.setVm vm₁).calling g' mk (Value.ref b :: As).toArray, t, U', L, E, ce, hT, X', hL, e1, e2, hq, hce, hcv, vx_cls hW₁ hcl, st⟩
theorem vx_runS (S : CallFix p m c cc nL s args Ts own) (hM : vx_Met l y ws rm Pc Qc XC mc ms free) (cw : CallB R s args own index y bytes maxL ret ws rm mc ms n ∧ (Cond.static y).before args s = true) (hp : PreS s H Pc As)
    (hg : g.method = m) (hn : As.length = n) (hsize : g.locals.size = nL) (hstack : g.stack = As.reverse ++ rest) (hW : 2 * g.monitorRoom + (rest.map fun v => v.category).sum ≤ 8) (hdg : decode cc g.pc = .ok (.invokestatic index, 3)) (hf : cells + mc ≤ R.cells ∧ slots + ms ≤ R.slots) :
    vx_Run p l e R s m args below meth c H locs cells slots mc ms g rest (Qc As.toArray) XC free := by
  have hK : vx_Back l R p e below s args y 3 8 (PreOf R mc ms Pc) (PostOf Qc mc ms free) (vx_Post XC mc ms free) := vx_callBack cw.1 hM hp.1
  obtain ⟨⟨-, -, -, -, -, -, hcode, hini, hy, hlen, hl⟩, hstt⟩ := cw
  obtain ⟨hx, hb, hml, ho, -⟩ := S
  intro T hT X
  rcases vx_callS X hx (bytes := bytes) (maxL := maxL) (ret := ret) ho hl hstt hini hcode hy hK hg (hsize.trans hml.symm) (argsL := As) (rest := rest) (fun sig h => hn.trans (hlen sig h)) hstack hW (by rw [hb]; exact hdg)
    (fun vm₁ hW₁ => ⟨hf.1, hf.2, hp.2 (T.setVm vm₁) hT hW₁⟩) with ⟨v, vm₁, ⟨U', l2, c2, s2⟩, hW₁, X', ⟨g', mk, t, L, e1, e2, hq, h1, hL, h2, h3⟩, st⟩ | ⟨q, vm₁, ⟨U', l2, c2, s2⟩, hW₁, X', ⟨g', mk, t, L, E, ce, e1, e2, hq, hce, hcv, hcl, h1, hL, h2, h3⟩, st⟩
  · dsimp only [Pt.U, Pt.locs, Pt.cells, Pt.slots] at X' e1 e2 h1 h2 h3 st
    subst h1; subst h2; subst h3
    exact Or.inl ⟨v, (T.setVm vm₁).calling g' mk As.toArray, t, U', L, hT, X', hL, e1, e2, hq, st⟩
  · dsimp only [Pt.U, Pt.locs, Pt.cells, Pt.slots] at X' e1 e2 h1 h2 h3 st hcl
    subst h1; subst h2; subst h3
    exact Or.inr ⟨q, (T.setVm vm₁).calling g' mk As.toArray, t, U', L, E, ce, hT, X', hL, e1, e2, hq, hce, hcv, vx_cls hW₁ hcl, st⟩
end Runs
section Rows
variable {p : Program} {l : Launch} {e : Env} {R : Room} {s : State} {m : MethodId} {args : Array Value} {below : List Frame} {meth : Method} {c : Code} {H : Heap} {locs : List Loc} {cells slots : Nat} {Q : State → Prop}
variable {mc ms : Nat} {free : Addr → Prop} {A0 A1 : Nat → Prop} {H0 : Heap} {a : Array Value} {pc : Nat} {ls : Array Slot} {st0 rest : List Value}
theorem vx_keep {st₀ t T' : State} {L : List Loc} (h0 : st₀.heap = H) (e1 : T'.heap = t.heap) (hS : va_S A0 H0 H locs) (hA : ∀ q, q < H.size → A1 q → A0 q) (hf : ∀ q, free q → A0 q) (hL : ∀ q ∈ L, free q.base) (hF : va_F A1 st₀ t) :
    H.size ≤ T'.heap.size ∧ (∀ q : Nat, q < H.size → ¬ A1 q → T'.heap[q]? = H[q]?) ∧ va_S A0 H0 T'.heap (locs ++ L) := by
  obtain ⟨hz, hk⟩ := hF
  rw [h0] at hz hk
  exact ⟨by rw [e1]; exact hz, fun q h1 h2 => by rw [e1]; exact hk q h1 h2,
    ⟨Nat.le_trans hS.1 (by rw [e1]; exact hz), fun q h1 h2 => by rw [e1, hk q (Nat.lt_of_lt_of_le h1 hS.1) (fun z => h2 (hA q (Nat.lt_of_lt_of_le h1 hS.1) z))]; exact hS.2.1 q h1 h2, fun q hq => by
      rcases List.mem_append.mp hq with h | h
      · exact hS.2.2 q h
      · exact hf _ (hL q h)⟩⟩
theorem vx_calli {S SX : Type} {post : Int32 → S → Prop} {px : SX → Prop} {B : S → State → Prop} {BX : String → SX → State → Prop} {AX : Nat → Prop} (hr : vx_Run p l e R s m args below meth c H locs cells slots mc ms (F0 m pc ls st0) rest (va_Qi post B A1 a) (vx_X px BX AX) free) (hS : va_S A0 H0 H locs) (hA : ∀ q, q < H.size → A1 q → A0 q) (hf : ∀ q, free q → A0 q) (hAX : ∀ q, q < H.size → AX q → A0 q)
    (kx : ∀ (E : String) (ce : Cell) (q9 : Addr) (u : SX) (t : State) (H1 : Heap) (locs1 : List Loc), t.heap = H1 → s.vm.Alike t.vm → px u → BX E u t → H.size ≤ H1.size → (∀ q : Nat, q < H.size → ¬ AX q → H1[q]? = H[q]?) → va_S A0 H0 H1 locs1 → H1[q9]? = some ce → ce.vm = .none → s.vm.findClass E = some ce.cls → vx_W p l e R s m args below meth c H1 locs1 (cells + mc) (slots + ms) Q (F0 m pc ls rest) q9)
    (kk : ∀ (r : Int32) (u : S) (t : State) (H1 : Heap) (locs1 : List Loc), t.heap = H1 → s.vm.Alike t.vm → post r u → B u t → H.size ≤ H1.size → (∀ q : Nat, q < H.size → ¬ A1 q → H1[q]? = H[q]?) → va_S A0 H0 H1 locs1 → W p l e R s m args below meth c H1 locs1 (cells + mc) (slots + ms) Q (F0 m (pc + 3) ls (.int r :: rest))) : W p l e R s m args below meth c H locs cells slots Q (F0 m pc ls st0) := by
  intro T hT X
  rcases hr T hT X with ⟨v, st₀, t, T', L, h0, X', hL, e1, e2, ⟨⟨r, u, hv, hp, hb⟩, hF⟩, st⟩ | ⟨q, st₀, t, T', L, E, ce, h0, X', hL, e1, e2, ⟨u, hp, hb, hF⟩, hce, hcv, hcl, st⟩
  · cases hv
    obtain ⟨k1, k2, k3⟩ := vx_keep h0 e1 hS hA hf hL hF
    obtain ⟨t2, a1, b1⟩ := kk r u t T'.heap (locs ++ L) e1.symm (by rw [← e2]; exact X'.warmed.alike) hp hb k1 k2 k3 T' rfl X'
    exact ⟨t2, st t2 a1, b1⟩
  · obtain ⟨k1, k2, k3⟩ := vx_keep h0 e1 hS hAX hf hL hF
    obtain ⟨t2, a1, b1⟩ := kx E ce q u t T'.heap (locs ++ L) e1.symm (by rw [← e2]; exact X'.warmed.alike) hp hb k1 k2 k3 (by rw [e1]; exact hce) hcv hcl T' rfl X'
    exact ⟨t2, st.trans a1, b1⟩
theorem vx_calll {S SX : Type} {post : Int64 → S → Prop} {px : SX → Prop} {B : S → State → Prop} {BX : String → SX → State → Prop} {AX : Nat → Prop} (hr : vx_Run p l e R s m args below meth c H locs cells slots mc ms (F0 m pc ls st0) rest (va_Ql post B A1 a) (vx_X px BX AX) free) (hS : va_S A0 H0 H locs) (hA : ∀ q, q < H.size → A1 q → A0 q) (hf : ∀ q, free q → A0 q) (hAX : ∀ q, q < H.size → AX q → A0 q)
    (kx : ∀ (E : String) (ce : Cell) (q9 : Addr) (u : SX) (t : State) (H1 : Heap) (locs1 : List Loc), t.heap = H1 → s.vm.Alike t.vm → px u → BX E u t → H.size ≤ H1.size → (∀ q : Nat, q < H.size → ¬ AX q → H1[q]? = H[q]?) → va_S A0 H0 H1 locs1 → H1[q9]? = some ce → ce.vm = .none → s.vm.findClass E = some ce.cls → vx_W p l e R s m args below meth c H1 locs1 (cells + mc) (slots + ms) Q (F0 m pc ls rest) q9)
    (kk : ∀ (r : Int64) (u : S) (t : State) (H1 : Heap) (locs1 : List Loc), t.heap = H1 → s.vm.Alike t.vm → post r u → B u t → H.size ≤ H1.size → (∀ q : Nat, q < H.size → ¬ A1 q → H1[q]? = H[q]?) → va_S A0 H0 H1 locs1 → W p l e R s m args below meth c H1 locs1 (cells + mc) (slots + ms) Q (F0 m (pc + 3) ls (.long r :: rest))) : W p l e R s m args below meth c H locs cells slots Q (F0 m pc ls st0) := by
  intro T hT X
  rcases hr T hT X with ⟨v, st₀, t, T', L, h0, X', hL, e1, e2, ⟨⟨r, u, hv, hp, hb⟩, hF⟩, st⟩ | ⟨q, st₀, t, T', L, E, ce, h0, X', hL, e1, e2, ⟨u, hp, hb, hF⟩, hce, hcv, hcl, st⟩
  · cases hv
    obtain ⟨k1, k2, k3⟩ := vx_keep h0 e1 hS hA hf hL hF
    obtain ⟨t2, a1, b1⟩ := kk r u t T'.heap (locs ++ L) e1.symm (by rw [← e2]; exact X'.warmed.alike) hp hb k1 k2 k3 T' rfl X'
    exact ⟨t2, st t2 a1, b1⟩
  · obtain ⟨k1, k2, k3⟩ := vx_keep h0 e1 hS hAX hf hL hF
    obtain ⟨t2, a1, b1⟩ := kx E ce q u t T'.heap (locs ++ L) e1.symm (by rw [← e2]; exact X'.warmed.alike) hp hb k1 k2 k3 (by rw [e1]; exact hce) hcv hcl T' rfl X'
    exact ⟨t2, st.trans a1, b1⟩
theorem vx_callf {S SX : Type} {post : UInt32 → S → Prop} {px : SX → Prop} {B : S → State → Prop} {BX : String → SX → State → Prop} {AX : Nat → Prop} (hr : vx_Run p l e R s m args below meth c H locs cells slots mc ms (F0 m pc ls st0) rest (va_Qf post B A1 a) (vx_X px BX AX) free) (hS : va_S A0 H0 H locs) (hA : ∀ q, q < H.size → A1 q → A0 q) (hf : ∀ q, free q → A0 q) (hAX : ∀ q, q < H.size → AX q → A0 q)
    (kx : ∀ (E : String) (ce : Cell) (q9 : Addr) (u : SX) (t : State) (H1 : Heap) (locs1 : List Loc), t.heap = H1 → s.vm.Alike t.vm → px u → BX E u t → H.size ≤ H1.size → (∀ q : Nat, q < H.size → ¬ AX q → H1[q]? = H[q]?) → va_S A0 H0 H1 locs1 → H1[q9]? = some ce → ce.vm = .none → s.vm.findClass E = some ce.cls → vx_W p l e R s m args below meth c H1 locs1 (cells + mc) (slots + ms) Q (F0 m pc ls rest) q9)
    (kk : ∀ (r : UInt32) (u : S) (t : State) (H1 : Heap) (locs1 : List Loc), t.heap = H1 → s.vm.Alike t.vm → post r u → B u t → H.size ≤ H1.size → (∀ q : Nat, q < H.size → ¬ A1 q → H1[q]? = H[q]?) → va_S A0 H0 H1 locs1 → W p l e R s m args below meth c H1 locs1 (cells + mc) (slots + ms) Q (F0 m (pc + 3) ls (.float r :: rest))) : W p l e R s m args below meth c H locs cells slots Q (F0 m pc ls st0) := by
  intro T hT X
  rcases hr T hT X with ⟨v, st₀, t, T', L, h0, X', hL, e1, e2, ⟨⟨r, u, hv, hp, hb⟩, hF⟩, st⟩ | ⟨q, st₀, t, T', L, E, ce, h0, X', hL, e1, e2, ⟨u, hp, hb, hF⟩, hce, hcv, hcl, st⟩
  · cases hv
    obtain ⟨k1, k2, k3⟩ := vx_keep h0 e1 hS hA hf hL hF
    obtain ⟨t2, a1, b1⟩ := kk r u t T'.heap (locs ++ L) e1.symm (by rw [← e2]; exact X'.warmed.alike) hp hb k1 k2 k3 T' rfl X'
    exact ⟨t2, st t2 a1, b1⟩
  · obtain ⟨k1, k2, k3⟩ := vx_keep h0 e1 hS hAX hf hL hF
    obtain ⟨t2, a1, b1⟩ := kx E ce q u t T'.heap (locs ++ L) e1.symm (by rw [← e2]; exact X'.warmed.alike) hp hb k1 k2 k3 (by rw [e1]; exact hce) hcv hcl T' rfl X'
    exact ⟨t2, st.trans a1, b1⟩
theorem vx_calld {S SX : Type} {post : UInt64 → S → Prop} {px : SX → Prop} {B : S → State → Prop} {BX : String → SX → State → Prop} {AX : Nat → Prop} (hr : vx_Run p l e R s m args below meth c H locs cells slots mc ms (F0 m pc ls st0) rest (va_Qd post B A1 a) (vx_X px BX AX) free) (hS : va_S A0 H0 H locs) (hA : ∀ q, q < H.size → A1 q → A0 q) (hf : ∀ q, free q → A0 q) (hAX : ∀ q, q < H.size → AX q → A0 q)
    (kx : ∀ (E : String) (ce : Cell) (q9 : Addr) (u : SX) (t : State) (H1 : Heap) (locs1 : List Loc), t.heap = H1 → s.vm.Alike t.vm → px u → BX E u t → H.size ≤ H1.size → (∀ q : Nat, q < H.size → ¬ AX q → H1[q]? = H[q]?) → va_S A0 H0 H1 locs1 → H1[q9]? = some ce → ce.vm = .none → s.vm.findClass E = some ce.cls → vx_W p l e R s m args below meth c H1 locs1 (cells + mc) (slots + ms) Q (F0 m pc ls rest) q9)
    (kk : ∀ (r : UInt64) (u : S) (t : State) (H1 : Heap) (locs1 : List Loc), t.heap = H1 → s.vm.Alike t.vm → post r u → B u t → H.size ≤ H1.size → (∀ q : Nat, q < H.size → ¬ A1 q → H1[q]? = H[q]?) → va_S A0 H0 H1 locs1 → W p l e R s m args below meth c H1 locs1 (cells + mc) (slots + ms) Q (F0 m (pc + 3) ls (.double r :: rest))) : W p l e R s m args below meth c H locs cells slots Q (F0 m pc ls st0) := by
  intro T hT X
  rcases hr T hT X with ⟨v, st₀, t, T', L, h0, X', hL, e1, e2, ⟨⟨r, u, hv, hp, hb⟩, hF⟩, st⟩ | ⟨q, st₀, t, T', L, E, ce, h0, X', hL, e1, e2, ⟨u, hp, hb, hF⟩, hce, hcv, hcl, st⟩
  · cases hv
    obtain ⟨k1, k2, k3⟩ := vx_keep h0 e1 hS hA hf hL hF
    obtain ⟨t2, a1, b1⟩ := kk r u t T'.heap (locs ++ L) e1.symm (by rw [← e2]; exact X'.warmed.alike) hp hb k1 k2 k3 T' rfl X'
    exact ⟨t2, st t2 a1, b1⟩
  · obtain ⟨k1, k2, k3⟩ := vx_keep h0 e1 hS hAX hf hL hF
    obtain ⟨t2, a1, b1⟩ := kx E ce q u t T'.heap (locs ++ L) e1.symm (by rw [← e2]; exact X'.warmed.alike) hp hb k1 k2 k3 (by rw [e1]; exact hce) hcv hcl T' rfl X'
    exact ⟨t2, st.trans a1, b1⟩
theorem vx_callv {S SX : Type} {post : S → Prop} {px : SX → Prop} {B : S → State → Prop} {BX : String → SX → State → Prop} {AX : Nat → Prop} (hr : vx_Run p l e R s m args below meth c H locs cells slots mc ms (F0 m pc ls st0) rest (va_Qv post B A1 a) (vx_X px BX AX) free) (hS : va_S A0 H0 H locs) (hA : ∀ q, q < H.size → A1 q → A0 q) (hf : ∀ q, free q → A0 q) (hAX : ∀ q, q < H.size → AX q → A0 q)
    (kx : ∀ (E : String) (ce : Cell) (q9 : Addr) (u : SX) (t : State) (H1 : Heap) (locs1 : List Loc), t.heap = H1 → s.vm.Alike t.vm → px u → BX E u t → H.size ≤ H1.size → (∀ q : Nat, q < H.size → ¬ AX q → H1[q]? = H[q]?) → va_S A0 H0 H1 locs1 → H1[q9]? = some ce → ce.vm = .none → s.vm.findClass E = some ce.cls → vx_W p l e R s m args below meth c H1 locs1 (cells + mc) (slots + ms) Q (F0 m pc ls rest) q9)
    (kk : ∀ (u : S) (t : State) (H1 : Heap) (locs1 : List Loc), t.heap = H1 → s.vm.Alike t.vm → post u → B u t → H.size ≤ H1.size → (∀ q : Nat, q < H.size → ¬ A1 q → H1[q]? = H[q]?) → va_S A0 H0 H1 locs1 → W p l e R s m args below meth c H1 locs1 (cells + mc) (slots + ms) Q (F0 m (pc + 3) ls (rest))) : W p l e R s m args below meth c H locs cells slots Q (F0 m pc ls st0) := by
  intro T hT X
  rcases hr T hT X with ⟨v, st₀, t, T', L, h0, X', hL, e1, e2, ⟨⟨u, hv, hp, hb⟩, hF⟩, st⟩ | ⟨q, st₀, t, T', L, E, ce, h0, X', hL, e1, e2, ⟨u, hp, hb, hF⟩, hce, hcv, hcl, st⟩
  · cases hv
    obtain ⟨k1, k2, k3⟩ := vx_keep h0 e1 hS hA hf hL hF
    obtain ⟨t2, a1, b1⟩ := kk u t T'.heap (locs ++ L) e1.symm (by rw [← e2]; exact X'.warmed.alike) hp hb k1 k2 k3 T' rfl X'
    exact ⟨t2, st t2 a1, b1⟩
  · obtain ⟨k1, k2, k3⟩ := vx_keep h0 e1 hS hAX hf hL hF
    obtain ⟨t2, a1, b1⟩ := kx E ce q u t T'.heap (locs ++ L) e1.symm (by rw [← e2]; exact X'.warmed.alike) hp hb k1 k2 k3 (by rw [e1]; exact hce) hcv hcl T' rfl X'
    exact ⟨t2, st.trans a1, b1⟩
end Rows
section Ends
variable {p : Program} {l : Launch} {e : Env} {R : Room} {s : State} {m : MethodId} {args : Array Value} {below : List Frame} {meth : Method} {c : Code} {H : Heap} {locs : List Loc} {cells slots : Nat} {Q : State → Prop}
variable {mc ms : Nat} {free : Addr → Prop} {A0 A1 : Nat → Prop} {H0 : Heap} {a : Array Value} {ls : Array Slot} {st0 rest : List Value}
variable {Qc : Array Value → State → Outcome → State → Prop} {XC : String → State → State → Prop}
/-- what a body that may throw owes at its end -/
def vx_MQ (below : List Frame) (Qc : Array Value → State → Outcome → State → Prop) (XC : String → State → State → Prop) (a : Array Value) (s : State) (mc ms : Nat) (free : Addr → Prop) : State → Prop := fun t =>
  ∃ o, t.status = .running ∧ Ended t below o ∧ vx_Q Qc XC mc ms free a s o t
theorem vx_ret {g : JFrame} {mc ms : Nat} (k : W p l e R s m args below meth c H locs cells slots (MQ below Qc args s mc ms free) g) : W p l e R s m args below meth c H locs cells slots (vx_MQ below Qc XC args s mc ms free) g := by
  intro T hT X
  obtain ⟨t, a1, o, b1, b2, b3, b4⟩ := k T hT X
  exact ⟨t, a1, o, b1, b2, Or.inl ⟨b3, b4⟩⟩
/-- not caught here: it goes on to the caller -/
theorem vx_widen {g : JFrame} {q : Addr} {k n : Nat} (h1 : cells ≤ k) (h2 : slots ≤ n) (kk : vx_W p l e R s m args below meth c H locs k n Q g q) : vx_W p l e R s m args below meth c H locs cells slots Q g q := fun T hT X => kk T hT (stand_widen X h1 h2)
theorem vx_out {pc : Nat} {E : String} {ce : Cell} {q : Addr} {mc ms : Nat} (hout : ∀ x ∈ c.exceptionTable.toList, covers x pc = false) (hlocks : meth.locks = false) (hcell : H[q]? = some ce) (hv : ce.vm = .none) (hcl : s.vm.findClass E = some ce.cls)
    (hx : ∀ t : State, t.heap = H → s.vm.Alike t.vm → XC E s t) (hf : ∀ z ∈ locs, free z.base) (hc : cells ≤ mc) (hs : slots ≤ ms) :
    vx_W p l e R s m args below meth c H locs cells slots (vx_MQ below Qc XC args s mc ms free) (F0 m pc ls rest) q := by
  intro T hT X
  obtain ⟨st1, hrun, hend, hW, hsm⟩ := X.leaveThrown q (g := F0 m pc ls rest) rfl rfl rfl hout hlocks
  have hcell9 : (T.setFrames (.throwing q :: below)).heap[q]? = some ce := by
    show T.heap[q]? = some ce
    rw [hT]; exact hcell
  exact ⟨_, st1, .threw q, hrun, hend, Or.inr ⟨q, rfl, E, ce, locs, hx _ hT hW.alike, hcell9, hv, hcl, hW, hsm.mono hc hs, hf⟩⟩
theorem vx_frame {U : State} {k n : Nat} (h : s.sameButNew ({ U with vm := s.vm } : State) locs k n) : s.heap.size ≤ U.heap.size ∧ ∀ q : Nat, q < s.heap.size → (∀ z ∈ locs, z.base ≠ q) → U.heap[q]? = s.heap[q]? := by
  obtain ⟨-, h2, -, -, -, h6⟩ := h
  refine ⟨h2, fun q hq hz => ?_⟩
  obtain ⟨c9, e1, e2, e3, e4⟩ := h6 q _ (Array.getElem?_eq_getElem hq)
  have hs : c9.slots = (s.heap[q]).slots := Array.ext_getElem? fun i => e4 i fun hm => hz _ hm rfl
  have h9 : c9 = s.heap[q] := by
    rw [hs] at e2
    exact e2
  have e5 : U.heap[q]? = some c9 := e1
  rw [e5, h9, Array.getElem?_eq_getElem hq]
/-- the words of a throw but the four that speak of the heap -/
def vx_no (w : Cond) : Bool := decide (w ≠ .isRef (.static Bundle.tN "UNASSIGNED_STACK" Bundle.steD)) && decide (w ≠ .isRef (.static Bundle.tN "SUPPRESSED_SENTINEL" Bundle.listD)) && decide (w ≠ .laysStatic Bundle.tN "UNASSIGNED_STACK" Bundle.steD) && decide (w ≠ .laysStatic Bundle.tN "SUPPRESSED_SENTINEL" Bundle.listD)
def vx_at0 (own : String) (ic : Nat) (X : String) (names : List String) : List Cond := (Bundle.ownAtoms0 own ic X names).filter vx_no
def vx_atS (own : String) (ic : Nat) (X : String) (names : List String) : List Cond := (Bundle.ownAtoms own ic X names).filter vx_no
/-- a word that the tables alone decide, or a good one -/
def vx_ot (w : Cond) : Bool := w.onTables || goodWord w
theorem vx_ot_at {args a' : Array Value} {s U : State} {w : Cond} (hW : s.WarmedH U.vm) (hvm : s.vm = U.vm) (hg : vx_ot w = true) (h : w.before args s = true) : w.before a' U = true := by
  simp only [vx_ot, Bool.or_eq_true] at hg
  rcases hg with hg | hg
  · exact va_tabs hg hvm h
  · exact word_at hW (good_of_word hg) h
/-- a list's words: the good ones out of the method's own list, the others by premises of their own -/
theorem vx_hat {args : Array Value} {s : State} {L B : List Cond} (h1 : ∀ w ∈ L.filter goodWord, w.before args s = true) (h2 : ∀ w ∈ L.filter (fun w => !goodWord w), w ∈ B) (h3 : ∀ w ∈ B, w.before args s = true) : ∀ w ∈ L, w.before args s = true := by
  intro w hw
  by_cases g : goodWord w = true
  · exact h1 w (List.mem_filter.mpr ⟨hw, g⟩)
  · refine h3 w (h2 w (List.mem_filter.mpr ⟨hw, ?_⟩))
    show (!goodWord w) = true
    cases hgw : goodWord w
    · rfl
    · exact absurd hgw g
theorem vx_c {args : Array Value} {s : State} {w : Cond} {B : List Cond} (h : w.before args s = true) (t : ∀ w ∈ B, w.before args s = true) : ∀ w' ∈ w :: B, w'.before args s = true := fun w' h' => (List.mem_cons.mp h').elim (fun e => by rw [e]; exact h) (t w')
theorem vx_n {args : Array Value} {s : State} : ∀ w ∈ ([] : List Cond), w.before args s = true := fun _ h => nomatch h
theorem vx_own {args : Array Value} {s : State} {L : List Cond} (h1 : ∀ w ∈ L.filter vx_no, w.before args s = true)
    (hU : (Cond.isRef (.static Bundle.tN "UNASSIGNED_STACK" Bundle.steD)).before args s = true) (hN : (Cond.isRef (.static Bundle.tN "SUPPRESSED_SENTINEL" Bundle.listD)).before args s = true)
    (lU : (Cond.laysStatic Bundle.tN "UNASSIGNED_STACK" Bundle.steD).before args s = true) (lN : (Cond.laysStatic Bundle.tN "SUPPRESSED_SENTINEL" Bundle.listD).before args s = true) : ∀ w ∈ L, w.before args s = true := by
  intro w hw
  by_cases e1 : w = .isRef (.static Bundle.tN "UNASSIGNED_STACK" Bundle.steD)
  · rw [e1]; exact hU
  · by_cases e2 : w = .isRef (.static Bundle.tN "SUPPRESSED_SENTINEL" Bundle.listD)
    · rw [e2]; exact hN
    · by_cases e3 : w = .laysStatic Bundle.tN "UNASSIGNED_STACK" Bundle.steD
      · rw [e3]; exact lU
      · by_cases e4 : w = .laysStatic Bundle.tN "SUPPRESSED_SENTINEL" Bundle.listD
        · rw [e4]; exact lN
        · exact h1 w (List.mem_filter.mpr ⟨hw, by unfold vx_no; rw [decide_eq_true e1, decide_eq_true e2, decide_eq_true e3, decide_eq_true e4]; rfl⟩)
/-- where a static field lies, its class's statics cell in H -/
def vx_L (C n d : String) (A : Nat → Prop) (U : State) (H : Heap) : Prop := ∃ (c : ClassId) (k : Class) (i : Nat) (f : Field) (a : Nat) (cell : Cell), U.vm.findClass C = some c ∧ U.fieldFound? C n d = some (c, k, i, f) ∧ f.isStatic = true ∧ k.statics = some a ∧ H[a]? = some cell ∧ cell.vm.isStatics = true ∧ cell.cls = c ∧ f.slot < cell.slots.size ∧ k.staticTypes[f.slot]? = some f.type ∧ ¬ A a
theorem vx_L.moved {C n d : String} {A : Nat → Prop} {u U : State} {H : Heap} (hvm : u.vm.Alike U.vm) (h : vx_L C n d A u H) : vx_L C n d A U H := by
  obtain ⟨c, k, i, f, a, cell, h1, h2, h3, h4, h5, h6, h7, h8, h9, h10⟩ := h
  obtain ⟨k', hi', he⟩ := State.fieldFound?_setVm hvm h2
  exact ⟨c, k', i, f, a, cell, by rw [hvm.findClass]; exact h1, hi', h3, by rw [he]; exact h4, h5, h6, h7, h8, by rw [he]; exact h9, h10⟩
theorem vx_L.kept {C n d : String} {A : Nat → Prop} {U : State} {H H1 : Heap} (h : vx_L C n d A U H) (hq : ∀ a : Nat, a < H.size → ¬ A a → H1[a]? = H[a]?) : vx_L C n d A U H1 := by
  obtain ⟨c, k, i, f, a, cell, h1, h2, h3, h4, h5, h6, h7, h8, h9, h10⟩ := h
  exact ⟨c, k, i, f, a, cell, h1, h2, h3, h4, by rw [hq a (Array.getElem?_eq_some_iff.mp h5).1 h10]; exact h5, h6, h7, h8, h9, h10⟩
theorem vx_L.narrow {C n d : String} {A B : Nat → Prop} {U : State} {H : Heap} (h : vx_L C n d A U H) (hAB : ∀ q, B q → A q) : vx_L C n d B U H := by
  obtain ⟨c, k, i, f, a, cell, h1, h2, h3, h4, h5, h6, h7, h8, h9, h10⟩ := h
  exact ⟨c, k, i, f, a, cell, h1, h2, h3, h4, h5, h6, h7, h8, h9, fun z => h10 (hAB _ z)⟩
theorem vx_L.word {C n d : String} {A : Nat → Prop} {s : State} {args : Array Value} (h : vx_L C n d A s s.heap) : (Cond.laysStatic C n d).before args s = true := by
  obtain ⟨c, k, i, f, a, cell, h1, h2, h3, h4, h5, h6, h7, h8, h9, -⟩ := h
  show (Cond.laysStatic C n d).holds args s none s [] = true
  exact Cond.laysStatic_of h1 h2 h3 h4 h5 h6 h7 h8 h9
/-- .. and what it holds: null or some reference -/
def vx_Zq (C n d : String) (A : Nat → Prop) (U : State) (H : Heap) : Prop := va_Zq C n d A U H ∧ vx_L C n d A U H
theorem vx_Zq.moved {C n d : String} {A : Nat → Prop} {u U : State} {H : Heap} (hvm : u.vm.Alike U.vm) (h : vx_Zq C n d A u H) : vx_Zq C n d A U H := ⟨va_Zq.moved hvm h.1, vx_L.moved hvm h.2⟩
theorem vx_Zq.kept {C n d : String} {A : Nat → Prop} {U : State} {H H1 : Heap} (h : vx_Zq C n d A U H) (hq : ∀ a : Nat, a < H.size → ¬ A a → H1[a]? = H[a]?) : vx_Zq C n d A U H1 := ⟨va_Zq.kept h.1 hq, vx_L.kept h.2 hq⟩
theorem vx_Zq.narrow {C n d : String} {A B : Nat → Prop} {U : State} {H : Heap} (h : vx_Zq C n d A U H) (hAB : ∀ q, B q → A q) : vx_Zq C n d B U H := ⟨va_Zq.narrow h.1 hAB, vx_L.narrow h.2 hAB⟩
theorem vx_Zqof {args : Array Value} {s : State} {C n d : String} {A : Nat → Prop} (hl : (Cond.laysStatic C n d).before args s = true) (hini : (Cond.initialized C).before args s = true) (h : (Cond.isRef (.static C n d)).before args s = true) (hA : ∀ a : Nat, a < s.heap.size → ¬ A a) : vx_Zq C n d A s s.heap := by
  refine ⟨va_Zqof hl hini h hA, ?_⟩
  obtain ⟨c, k, i, f, a, cell, h1, h2, h3, h4, h5, h6, h7, h8, h9⟩ := Cond.laysStatic_spec hl
  exact ⟨c, k, i, f, a, cell, h1, h2, h3, h4, h5, h6, h7, h8, h9, hA a (Array.getElem?_eq_some_iff.mp h5).1⟩
theorem vx_isRef {C n d : String} {v : Value} {A : Nat → Prop} {s : State} {args : Array Value} (h : va_Z C n d v A s s.heap) (hv : v.isRef = true) : (Cond.isRef (.static C n d)).before args s = true := by
  obtain ⟨cf, kf, fi, f, a, cell, h1, h2, h3, h4, h5, h6, h7, -⟩ := h
  have he : (Term.static C n d).eval args s none [] s = some v := by
    simp [Term.eval, State.fieldNamed?, h1, h2, h4, h5, h6, h7]
  simp only [Cond.before, Cond.holds, Cond.value, he]
  cases v <;> simp_all [Value.isRef]
theorem vx_isRefq {C n d : String} {A : Nat → Prop} {s : State} {args : Array Value} (h : va_Zq C n d A s s.heap) : (Cond.isRef (.static C n d)).before args s = true := by
  rcases h with h | ⟨t, h⟩
  · exact vx_isRef h rfl
  · exact vx_isRef h rfl
/-- the same frame, seen from here: as if the method were called anew in this heap -/
theorem vx_rebase {T : State} (X : Stand p l e R s m args below meth c T locs cells slots) {R' : Room} (hf : R'.frames ≤ R.frames) (hl : R'.locals ≤ R.locals) (hc : cells + R'.cells ≤ R.cells) (hs : slots + R'.slots ≤ R.slots) :
    Stand p l e R' ((T.setVm s.vm).setFrames (.invoking m args :: below)) m args below meth c T [] 0 0 := by
  have htop : (T.setVm s.vm).topJava?.isSome := X.here.top
  have hF : ((T.setVm s.vm).setFrames (.invoking m args :: below)).frames = .invoking m args :: below := State.frames_setFrames _ (State.cur_lt_of_top htop)
  obtain ⟨g₀, hg0⟩ := Option.isSome_iff_exists.mp htop
  obtain ⟨r, hr⟩ := State.topJava?_eq_some.mp hg0
  have hl9 : e.platform.stackLimits (T.setVm s.vm).me = e.platform.stackLimits s.me := X.limits
  have hb9 : (T.setVm s.vm).me.stackBytes = s.me.stackBytes := X.bytes
  refine ⟨X.admits, X.cas, X.clock, hF, ?_, X.hears, X.method, X.code, X.here, X.tail, X.warmed, ?_, ?_, ?_⟩
  · have h := X.room
    have hU : ((T.setVm s.vm).setFrames (.invoking m args :: below)).localsInUse = s.localsInUse := by
      rw [State.localsInUse_invoking hF (meth := meth) (c := c) X.method X.code, State.localsInUse_invoking X.frames X.method X.code]
    simp only [State.hasRoom, Bool.and_eq_true, decide_eq_true_eq] at h ⊢
    obtain ⟨⟨⟨⟨h1, h2, h3, h4, h5, h6⟩, h7⟩, h8⟩, h9⟩ := h
    rw [X.frames, List.length_cons] at h2 h3
    have q1 := X.heapSize
    have q2 := X.used
    simp only [hF, hU, List.length_cons, State.stackLimits_setFrames, State.stackBytes_setFrames, hl9, hb9]
    refine ⟨⟨⟨⟨by omega, by omega, by omega, by omega, by omega, h6⟩, ?_⟩, ?_⟩, X.book⟩
    · show T.heap.size + R'.cells ≤ e.platform.maxCells
      omega
    · show T.slotsUsed + R'.slots ≤ e.platform.maxSlots
      omega
  · rw [State.stackLimits_setFrames]; rfl
  · rw [State.stackBytes_setFrames]; rfl
  · refine ⟨?_, Nat.le_refl _, Nat.le_refl _, ?_, ?_, fun a c9 h9 => ⟨c9, h9, rfl, rfl, fun _ _ => rfl⟩⟩
    · obtain ⟨t, ht, -⟩ := State.frames_cons hr
      show T.setVm s.vm = { ((T.setVm s.vm).setFrames (.invoking m args :: below)).setFrames (T.setVm s.vm).frames with heap := T.heap, slotsUsed := T.slotsUsed }
      rw [State.setFrames_setFrames, State.setFrames_self ht]
      rfl
    · show T.slotsUsed = T.slotsUsed + ((T.heap.toList.drop T.heap.size).map (·.slots.size)).sum
      rw [List.drop_eq_nil_of_le (Nat.le_of_eq Array.length_toList)]
      rfl
    · show ((T.heap.toList.drop T.heap.size).map (·.slots.size)).sum ≤ 0
      rw [List.drop_eq_nil_of_le (Nat.le_of_eq Array.length_toList)]
      exact Nat.le_refl _
/-- 'throw new E()': new; dup; invokespecial; athrow -/
theorem vx_throw0 {cc : ByteArray} {pc : Nat} (hexec : p.tables.exec = Jvm.exec) (hb : c.code = cc) (hl : l.stackTraces = false) {own cls : String} {names : List String} {ik ic mc ms : Nat} {A : Nat → Prop}
    (hown : s.vm.findClass own = some m.cls) (hcls : Bundle.fit cls = true) (hnames : ∀ n ∈ names, Bundle.fit n = true)
    (hk : (Cond.classLink own ik cls).before args s = true) (hini : (Cond.initialized cls).before args s = true) (hat : ∀ w ∈ vx_at0 own ic cls names, w.before args s = true)
    (hgood : ∀ w ∈ Cond.classLink own ik cls :: Cond.initialized cls :: vx_at0 own ic cls names, vx_ot w = true)
    (hU : vx_Zq Bundle.tN "UNASSIGNED_STACK" Bundle.steD A s s.heap) (hN : vx_Zq Bundle.tN "SUPPRESSED_SENTINEL" Bundle.listD A s s.heap) (hS : va_S A s.heap H locs) (hsize : ls.size = c.maxLocals)
    (d0 : decode cc pc = .ok (.new ik, 3)) (d3 : decode cc (pc + 3) = .ok (.dup, 1)) (d4 : decode cc (pc + 4) = .ok (.invokespecial ic, 3)) (d7 : decode cc (pc + 7) = .ok (.athrow, 1))
    (hout : ∀ x ∈ c.exceptionTable.toList, covers x (pc + 7) = false)
    (hRframes : names.length + 3 < R.frames) (hRlocals : (rest.map fun v => v.category).sum + (13 * (names.length + 1) + 42) ≤ R.locals) (hRcells : cells + 1 ≤ R.cells) (hRslots : slots + 6 ≤ R.slots) (hlocks : meth.locks = false)
    (hx : ∀ t : State, s.vm.Alike t.vm → H.size ≤ t.heap.size → (∀ q : Nat, q < H.size → t.heap[q]? = H[q]?) → XC cls s t)
    (hf : ∀ z ∈ locs, free z.base) (hc : cells + 1 ≤ mc) (hs : slots + 6 ≤ ms) :
    W p l e R s m args below meth c H locs cells slots (vx_MQ below Qc XC args s mc ms free) (F0 m pc ls rest) := by
  intro T hT X
  have htr : e.platform.stackTraces = false := (show e.platform.stackTraces = l.stackTraces by rw [X.admits.platform]).trans hl
  have Y := vx_rebase X (R' := { frames := R.frames, locals := R.locals, cells := 1, slots := 6 }) (Nat.le_refl _) (Nat.le_refl _) hRcells hRslots
  obtain ⟨s', hA⟩ : ∃ z, z = (T.setVm s.vm).setFrames (.invoking m args :: below) := ⟨_, rfl⟩
  rw [← hA] at Y
  have hvm : s'.vm = s.vm := by rw [hA]; rfl
  have hhp : s'.heap = H := by rw [hA]; exact hT
  have hW0 : s.WarmedH s'.vm := by rw [hvm]; exact State.WarmedH.refl s
  have hat' : ∀ w ∈ vx_at0 own ic cls names, w.before args s' = true := fun w hw => vx_ot_at hW0 hvm.symm (hgood w (List.mem_cons_of_mem _ (List.mem_cons_of_mem _ hw))) (hat w hw)
  have hk' : (Cond.classLink own ik cls).before args s' = true := vx_ot_at hW0 hvm.symm (hgood _ List.mem_cons_self) hk
  have hini' : (Cond.initialized cls).before args s' = true := vx_ot_at hW0 hvm.symm (hgood _ (List.mem_cons_of_mem _ List.mem_cons_self)) hini
  have hU' : vx_Zq Bundle.tN "UNASSIGNED_STACK" Bundle.steD A s' s'.heap := by rw [hhp]; exact vx_Zq.moved hW0.alike (hU.kept hS.2.1)
  have hN' : vx_Zq Bundle.tN "SUPPRESSED_SENTINEL" Bundle.listD A s' s'.heap := by rw [hhp]; exact vx_Zq.moved hW0.alike (hN.kept hS.2.1)
  have h : ∀ w ∈ Bundle.ownAtoms0 own ic cls names, w.before args s' = true := vx_own hat' (vx_isRefq hU'.1) (vx_isRefq hN'.1) hU'.2.word hN'.2.word
  have hown' : s'.vm.findClass own = some m.cls := by rw [hvm]; exact hown
  have hins : (Cond.instantiable cls 6).before args s' = true := h _ (by simp [Bundle.ownAtoms0])
  obtain ⟨vm₁, cX, kX, hfX, hkX, -, -, X₁, st1⟩ := Y.newCold hexec (own := own) (C := cls) (index := ik) (n := 6) hown' hk' hins hini'
    (g := F0 m pc ls rest) rfl (by rw [hb]; exact d0) (Nat.le_refl _) (Nat.le_refl _)
  generalize hT1 : (T.setVm vm₁).pushCell { cls := cX, slots := kX.instanceTypes.map defaultValue, vm := .none } = T1 at X₁ st1
  have hcat : (Value.ref T.heap.size).category = 1 := rfl
  have hcellA : T1.heap[T.heap.size]? = some (freshCell cX kX) := by rw [← hT1]; exact State.heap_pushCell_size _ _
  have d3' : decode c.code (pc + 3) = .ok (.dup, 1) := by rw [hb]; exact d3
  obtain ⟨U, hsteps, hrun, hend, hW, hsame, ce, hce, hO⟩ := X₁.ctorThrow0 hexec htr (own := own) (cls := cls) (names := names) (ic := ic) hown' hcls hnames h (fun x hx => nomatch hx) hfX hkX hcellA (by rw [hhp, hT]; exact Nat.le_refl _)
    (g := { method := m, pc := pc + 4, locals := ls, stack := .ref T.heap.size :: .ref T.heap.size :: rest, locked := none }) rfl hsize rfl rfl (rest := rest) rfl
    (by rw [hb]; exact d4) (by rw [hb]; exact d7) hout hRframes (by simp only [List.map_cons, List.sum_cons, hcat]; omega) hlocks
  obtain ⟨f1, f2⟩ := vx_frame hsame
  rw [hhp] at f1 f2
  have hWs : s.WarmedH U.vm := State.WarmedH.trans hW0 hW
  have hcl : s.vm.findClass cls = some ce.cls := by
    have h9 := hO.cls
    rw [hvm] at h9
    exact h9
  have hall : s.sameButNew ({ U with vm := s.vm } : State) locs mc ms := by
    subst hA
    obtain ⟨e1, e2⟩ := hsame
    rw [State.setFrames_setFrames] at e1
    have h2 : (T.setVm s.vm).sameButNew ({ U with vm := s.vm } : State) [] (0 + 1) (0 + 6) := ⟨e1, e2⟩
    have h3 := X.same.trans h2
    rw [List.append_nil] at h3
    exact h3.mono hc hs
  refine ⟨U, ?_, .threw T.heap.size, hrun, hend, Or.inr ⟨T.heap.size, rfl, cls, ce, locs, hx U hWs.alike f1 (fun q hq => f2 q hq (fun z hz => nomatch hz)), hce, hO.vm, hcl, hWs, hall, hf⟩⟩
  refine st1 _ ?_
  show Steps p.tables e below (T1.setTop { method := m, pc := pc + 3, locals := ls, stack := .ref T.heap.size :: rest, locked := none }) _
  jvm_step X₁.here [X₁.here.top, hexec, d3', Value.category]
  exact hsteps
/-- 'throw new E("text")': new; dup; ldc; invokespecial; athrow -/
theorem vx_throwS {cc : ByteArray} {pc : Nat} (hexec : p.tables.exec = Jvm.exec) (hb : c.code = cc) (hl : l.stackTraces = false) {own cls text : String} {names : List String} {ik is ic mc ms sa : Nat} {A : Nat → Prop}
    (hown : s.vm.findClass own = some m.cls) (hcls : Bundle.fit cls = true) (hnames : ∀ n ∈ names, Bundle.fit n = true)
    (hk : (Cond.classLink own ik cls).before args s = true) (hini : (Cond.initialized cls).before args s = true) (hstr : vk_R own is text sa s) (hat : ∀ w ∈ vx_atS own ic cls names, w.before args s = true)
    (hgood : ∀ w ∈ Cond.classLink own ik cls :: Cond.initialized cls :: vx_atS own ic cls names, vx_ot w = true)
    (hU : vx_Zq Bundle.tN "UNASSIGNED_STACK" Bundle.steD A s s.heap) (hN : vx_Zq Bundle.tN "SUPPRESSED_SENTINEL" Bundle.listD A s s.heap) (hS : va_S A s.heap H locs) (hsize : ls.size = c.maxLocals)
    (d0 : decode cc pc = .ok (.new ik, 3)) (d3 : decode cc (pc + 3) = .ok (.dup, 1)) (d4 : decode cc (pc + 4) = .ok (.ldc is, 2)) (d6 : decode cc (pc + 6) = .ok (.invokespecial ic, 3)) (d9 : decode cc (pc + 9) = .ok (.athrow, 1))
    (hout : ∀ x ∈ c.exceptionTable.toList, covers x (pc + 9) = false)
    (hRframes : names.length + 3 < R.frames) (hRlocals : (rest.map fun v => v.category).sum + (13 * (names.length + 1) + 43) ≤ R.locals) (hRcells : cells + 1 ≤ R.cells) (hRslots : slots + 6 ≤ R.slots) (hlocks : meth.locks = false)
    (hx : ∀ t : State, s.vm.Alike t.vm → H.size ≤ t.heap.size → (∀ q : Nat, q < H.size → t.heap[q]? = H[q]?) → XC cls s t)
    (hf : ∀ z ∈ locs, free z.base) (hc : cells + 1 ≤ mc) (hs : slots + 6 ≤ ms) :
    W p l e R s m args below meth c H locs cells slots (vx_MQ below Qc XC args s mc ms free) (F0 m pc ls rest) := by
  intro T hT X
  have htr : e.platform.stackTraces = false := (show e.platform.stackTraces = l.stackTraces by rw [X.admits.platform]).trans hl
  have Y := vx_rebase X (R' := { frames := R.frames, locals := R.locals, cells := 1, slots := 6 }) (Nat.le_refl _) (Nat.le_refl _) hRcells hRslots
  obtain ⟨s', hA⟩ : ∃ z, z = (T.setVm s.vm).setFrames (.invoking m args :: below) := ⟨_, rfl⟩
  rw [← hA] at Y
  have hvm : s'.vm = s.vm := by rw [hA]; rfl
  have hhp : s'.heap = H := by rw [hA]; exact hT
  have hW0 : s.WarmedH s'.vm := by rw [hvm]; exact State.WarmedH.refl s
  have hat' : ∀ w ∈ vx_atS own ic cls names, w.before args s' = true := fun w hw => vx_ot_at hW0 hvm.symm (hgood w (List.mem_cons_of_mem _ (List.mem_cons_of_mem _ hw))) (hat w hw)
  have hk' : (Cond.classLink own ik cls).before args s' = true := vx_ot_at hW0 hvm.symm (hgood _ List.mem_cons_self) hk
  have hini' : (Cond.initialized cls).before args s' = true := vx_ot_at hW0 hvm.symm (hgood _ (List.mem_cons_of_mem _ List.mem_cons_self)) hini
  have hU' : vx_Zq Bundle.tN "UNASSIGNED_STACK" Bundle.steD A s' s'.heap := by rw [hhp]; exact vx_Zq.moved hW0.alike (hU.kept hS.2.1)
  have hN' : vx_Zq Bundle.tN "SUPPRESSED_SENTINEL" Bundle.listD A s' s'.heap := by rw [hhp]; exact vx_Zq.moved hW0.alike (hN.kept hS.2.1)
  have h : ∀ w ∈ Bundle.ownAtoms own ic cls names, w.before args s' = true := vx_own hat' (vx_isRefq hU'.1) (vx_isRefq hN'.1) hU'.2.word hN'.2.word
  have hown' : s'.vm.findClass own = some m.cls := by rw [hvm]; exact hown
  have hins : (Cond.instantiable cls 6).before args s' = true := h _ (by simp [Bundle.ownAtoms])
  obtain ⟨vm₁, cX, kX, hfX, hkX, -, -, X₁, st1⟩ := Y.newCold hexec (own := own) (C := cls) (index := ik) (n := 6) hown' hk' hins hini'
    (g := F0 m pc ls rest) rfl (by rw [hb]; exact d0) (Nat.le_refl _) (Nat.le_refl _)
  generalize hT1 : (T.setVm vm₁).pushCell { cls := cX, slots := kX.instanceTypes.map defaultValue, vm := .none } = T1 at X₁ st1
  have hcat : (Value.ref T.heap.size).category = 1 := rfl
  have hcellA : T1.heap[T.heap.size]? = some (freshCell cX kX) := by rw [← hT1]; exact State.heap_pushCell_size _ _
  have d3' : decode c.code (pc + 3) = .ok (.dup, 1) := by rw [hb]; exact d3
  have d4' : decode c.code (pc + 4) = .ok (.ldc is, 2) := by rw [hb]; exact d4
  have hstr' : vk_R own is text sa s' := vk_R.warm hW0 hstr
  obtain ⟨U, hsteps, hrun, hend, hW, hsame, ce, hce, hO⟩ := X₁.ctorThrowS hexec htr (own := own) (cls := cls) (names := names) (ic := ic) hown' hcls hnames h (fun x hx => nomatch hx) hfX hkX hcellA (by rw [hhp, hT]; exact Nat.le_refl _) (msg := .ref sa) rfl
    (g := { method := m, pc := pc + 6, locals := ls, stack := .ref sa :: .ref T.heap.size :: .ref T.heap.size :: rest, locked := none }) rfl hsize rfl rfl (rest := rest) rfl
    (by rw [hb]; exact d6) (by rw [hb]; exact d9) hout hRframes (by simp only [List.map_cons, List.sum_cons, hcat]; omega) hlocks
  obtain ⟨f1, f2⟩ := vx_frame hsame
  rw [hhp] at f1 f2
  have hWs : s.WarmedH U.vm := State.WarmedH.trans hW0 hW
  have hcl : s.vm.findClass cls = some ce.cls := by
    have h9 := hO.cls
    rw [hvm] at h9
    exact h9
  have hall : s.sameButNew ({ U with vm := s.vm } : State) locs mc ms := by
    subst hA
    obtain ⟨e1, e2⟩ := hsame
    rw [State.setFrames_setFrames] at e1
    have h2 : (T.setVm s.vm).sameButNew ({ U with vm := s.vm } : State) [] (0 + 1) (0 + 6) := ⟨e1, e2⟩
    have h3 := X.same.trans h2
    rw [List.append_nil] at h3
    exact h3.mono hc hs
  refine ⟨U, ?_, .threw T.heap.size, hrun, hend, Or.inr ⟨T.heap.size, rfl, cls, ce, locs, hx U hWs.alike f1 (fun q hq => f2 q hq (fun z hz => nomatch hz)), hce, hO.vm, hcl, hWs, hall, hf⟩⟩
  refine st1 _ ?_
  show Steps p.tables e below (T1.setTop { method := m, pc := pc + 3, locals := ls, stack := .ref T.heap.size :: rest, locked := none }) _
  jvm_step X₁.here [X₁.here.top, hexec, d3', Value.category]
  exact X₁.ldcString hexec (own := own) (text := text) (index := is) (a := sa) hown' hstr'.1 hstr'.2
    (g := { method := m, pc := pc + 4, locals := ls, stack := .ref T.heap.size :: .ref T.heap.size :: rest, locked := none }) rfl d4' _ hsteps
/-- 'throw new E("text")', the text by a wide index -/
theorem vx_throwSW {cc : ByteArray} {pc : Nat} (hexec : p.tables.exec = Jvm.exec) (hb : c.code = cc) (hl : l.stackTraces = false) {own cls text : String} {names : List String} {ik is ic mc ms sa : Nat} {A : Nat → Prop}
    (hown : s.vm.findClass own = some m.cls) (hcls : Bundle.fit cls = true) (hnames : ∀ n ∈ names, Bundle.fit n = true)
    (hk : (Cond.classLink own ik cls).before args s = true) (hini : (Cond.initialized cls).before args s = true) (hstr : vk_R own is text sa s) (hat : ∀ w ∈ vx_atS own ic cls names, w.before args s = true)
    (hgood : ∀ w ∈ Cond.classLink own ik cls :: Cond.initialized cls :: vx_atS own ic cls names, vx_ot w = true)
    (hU : vx_Zq Bundle.tN "UNASSIGNED_STACK" Bundle.steD A s s.heap) (hN : vx_Zq Bundle.tN "SUPPRESSED_SENTINEL" Bundle.listD A s s.heap) (hS : va_S A s.heap H locs) (hsize : ls.size = c.maxLocals)
    (d0 : decode cc pc = .ok (.new ik, 3)) (d3 : decode cc (pc + 3) = .ok (.dup, 1)) (d4 : decode cc (pc + 4) = .ok (.ldc_w is, 3)) (d7 : decode cc (pc + 7) = .ok (.invokespecial ic, 3)) (d10 : decode cc (pc + 10) = .ok (.athrow, 1))
    (hout : ∀ x ∈ c.exceptionTable.toList, covers x (pc + 10) = false)
    (hRframes : names.length + 3 < R.frames) (hRlocals : (rest.map fun v => v.category).sum + (13 * (names.length + 1) + 43) ≤ R.locals) (hRcells : cells + 1 ≤ R.cells) (hRslots : slots + 6 ≤ R.slots) (hlocks : meth.locks = false)
    (hx : ∀ t : State, s.vm.Alike t.vm → H.size ≤ t.heap.size → (∀ q : Nat, q < H.size → t.heap[q]? = H[q]?) → XC cls s t)
    (hf : ∀ z ∈ locs, free z.base) (hc : cells + 1 ≤ mc) (hs : slots + 6 ≤ ms) :
    W p l e R s m args below meth c H locs cells slots (vx_MQ below Qc XC args s mc ms free) (F0 m pc ls rest) := by
  intro T hT X
  have htr : e.platform.stackTraces = false := (show e.platform.stackTraces = l.stackTraces by rw [X.admits.platform]).trans hl
  have Y := vx_rebase X (R' := { frames := R.frames, locals := R.locals, cells := 1, slots := 6 }) (Nat.le_refl _) (Nat.le_refl _) hRcells hRslots
  obtain ⟨s', hA⟩ : ∃ z, z = (T.setVm s.vm).setFrames (.invoking m args :: below) := ⟨_, rfl⟩
  rw [← hA] at Y
  have hvm : s'.vm = s.vm := by rw [hA]; rfl
  have hhp : s'.heap = H := by rw [hA]; exact hT
  have hW0 : s.WarmedH s'.vm := by rw [hvm]; exact State.WarmedH.refl s
  have hat' : ∀ w ∈ vx_atS own ic cls names, w.before args s' = true := fun w hw => vx_ot_at hW0 hvm.symm (hgood w (List.mem_cons_of_mem _ (List.mem_cons_of_mem _ hw))) (hat w hw)
  have hk' : (Cond.classLink own ik cls).before args s' = true := vx_ot_at hW0 hvm.symm (hgood _ List.mem_cons_self) hk
  have hini' : (Cond.initialized cls).before args s' = true := vx_ot_at hW0 hvm.symm (hgood _ (List.mem_cons_of_mem _ List.mem_cons_self)) hini
  have hU' : vx_Zq Bundle.tN "UNASSIGNED_STACK" Bundle.steD A s' s'.heap := by rw [hhp]; exact vx_Zq.moved hW0.alike (hU.kept hS.2.1)
  have hN' : vx_Zq Bundle.tN "SUPPRESSED_SENTINEL" Bundle.listD A s' s'.heap := by rw [hhp]; exact vx_Zq.moved hW0.alike (hN.kept hS.2.1)
  have h : ∀ w ∈ Bundle.ownAtoms own ic cls names, w.before args s' = true := vx_own hat' (vx_isRefq hU'.1) (vx_isRefq hN'.1) hU'.2.word hN'.2.word
  have hown' : s'.vm.findClass own = some m.cls := by rw [hvm]; exact hown
  have hins : (Cond.instantiable cls 6).before args s' = true := h _ (by simp [Bundle.ownAtoms])
  obtain ⟨vm₁, cX, kX, hfX, hkX, -, -, X₁, st1⟩ := Y.newCold hexec (own := own) (C := cls) (index := ik) (n := 6) hown' hk' hins hini'
    (g := F0 m pc ls rest) rfl (by rw [hb]; exact d0) (Nat.le_refl _) (Nat.le_refl _)
  generalize hT1 : (T.setVm vm₁).pushCell { cls := cX, slots := kX.instanceTypes.map defaultValue, vm := .none } = T1 at X₁ st1
  have hcat : (Value.ref T.heap.size).category = 1 := rfl
  have hcellA : T1.heap[T.heap.size]? = some (freshCell cX kX) := by rw [← hT1]; exact State.heap_pushCell_size _ _
  have d3' : decode c.code (pc + 3) = .ok (.dup, 1) := by rw [hb]; exact d3
  have d4' : decode c.code (pc + 4) = .ok (.ldc_w is, 3) := by rw [hb]; exact d4
  have hstr' : vk_R own is text sa s' := vk_R.warm hW0 hstr
  obtain ⟨U, hsteps, hrun, hend, hW, hsame, ce, hce, hO⟩ := X₁.ctorThrowS hexec htr (own := own) (cls := cls) (names := names) (ic := ic) hown' hcls hnames h (fun x hx => nomatch hx) hfX hkX hcellA (by rw [hhp, hT]; exact Nat.le_refl _) (msg := .ref sa) rfl
    (g := { method := m, pc := pc + 7, locals := ls, stack := .ref sa :: .ref T.heap.size :: .ref T.heap.size :: rest, locked := none }) rfl hsize rfl rfl (rest := rest) rfl
    (by rw [hb]; exact d7) (by rw [hb]; exact d10) hout hRframes (by simp only [List.map_cons, List.sum_cons, hcat]; omega) hlocks
  obtain ⟨f1, f2⟩ := vx_frame hsame
  rw [hhp] at f1 f2
  have hWs : s.WarmedH U.vm := State.WarmedH.trans hW0 hW
  have hcl : s.vm.findClass cls = some ce.cls := by
    have h9 := hO.cls
    rw [hvm] at h9
    exact h9
  have hall : s.sameButNew ({ U with vm := s.vm } : State) locs mc ms := by
    subst hA
    obtain ⟨e1, e2⟩ := hsame
    rw [State.setFrames_setFrames] at e1
    have h2 : (T.setVm s.vm).sameButNew ({ U with vm := s.vm } : State) [] (0 + 1) (0 + 6) := ⟨e1, e2⟩
    have h3 := X.same.trans h2
    rw [List.append_nil] at h3
    exact h3.mono hc hs
  refine ⟨U, ?_, .threw T.heap.size, hrun, hend, Or.inr ⟨T.heap.size, rfl, cls, ce, locs, hx U hWs.alike f1 (fun q hq => f2 q hq (fun z hz => nomatch hz)), hce, hO.vm, hcl, hWs, hall, hf⟩⟩
  refine st1 _ ?_
  show Steps p.tables e below (T1.setTop { method := m, pc := pc + 3, locals := ls, stack := .ref T.heap.size :: rest, locked := none }) _
  jvm_step X₁.here [X₁.here.top, hexec, d3', Value.category]
  exact X₁.ldcStringW hexec (own := own) (text := text) (index := is) (a := sa) hown' hstr'.1 hstr'.2
    (g := { method := m, pc := pc + 4, locals := ls, stack := .ref T.heap.size :: .ref T.heap.size :: rest, locked := none }) rfl d4' _ hsteps
end Ends
section Bodies
variable {l : Launch}
theorem vx_ofW {y : MethodName} {ws ws' : List Cond} {rm : Room} {Pc : Array Value → State → Prop} {Qc : Array Value → State → Outcome → State → Prop} {XC : String → State → State → Prop} {mc ms : Nat} {free : Addr → Prop} {cc : ByteArray} {maxL : Nat} {ret : Option FieldType}
    (hy : plainName y.cls = true) (hw : ws = Cond.code y cc maxL ret :: ws')
    (body : ∀ p e s m args below meth c s₁, BodyLoose p l y (headSpec ws rm) cc maxL ret e s m args below meth c s₁ → c.maxLocals = maxL → (∀ x ∈ c.exceptionTable.toList, False) → Pc args s →
      W p l e (headSpec ws rm).room s m args below meth c s.heap [] 0 0 (vx_MQ below Qc XC args s mc ms free) (entryFrame m args maxL)) : vx_Met l y ws rm Pc Qc XC mc ms free := by
  refine MetFree.of_bodyS (code := cc) (maxLocals := maxL) (ret := ret) hy ?_ ?_
  · intro args s m h hn
    obtain ⟨meth, c, h1, h2, h3, h4, h5, h6, -, -⟩ := Cond.code_spec hn (atoms_spec (ws := ws) h _ (by rw [hw]; exact List.mem_cons_self))
    exact ⟨meth, c, h1, h2, h3, h4, h5, h6⟩
  · intro p e s m args below meth c s₁ B hml hP _
    have hh0 : s₁.heap = s.heap := by rw [B.state]; rfl
    have ht : ∀ x ∈ c.exceptionTable.toList, False := by
      obtain ⟨meth9, c9, h1, h2, -, -, -, -, h7, -⟩ := Cond.code_spec B.named (atoms_spec (ws := ws) B.pre _ (by rw [hw]; exact List.mem_cons_self))
      cases Option.some.inj (h1.symm.trans B.method)
      cases Option.some.inj (h2.symm.trans (Stand.of_body B).code)
      intro x hx
      rw [Array.isEmpty_iff.mp h7] at hx
      cases hx
    obtain ⟨t, a1, o, b1, b2, b3⟩ := body p e s m args below meth c s₁ B hml ht hP s₁ hh0 (Stand.of_body B)
    exact ⟨t, o, a1, b1, b2, b3⟩
/-- the table of a body with handlers -/
theorem vx_table {p : Program} {x y : MethodName} {S : Spec} {cc bytes : ByteArray} {maxL maxL' : Nat} {ret ret' : Option FieldType} {e : Env} {s s₁ : State} {m : MethodId} {args : Array Value} {below : List Frame} {meth : Method} {c : Code} {hh : List (Nat × Nat × Nat × Nat)}
    (B : BodyLoose p l y S cc maxL ret e s m args below meth c s₁) (h : (Cond.codeWith y bytes maxL' ret' hh).before args s = true) : c.exceptionTable.toList = tableOf hh := by
  obtain ⟨m9, meth9, c9, hn9, h1, h2, -, -, h6, -⟩ := Cond.codeWith_spec h
  cases Option.some.inj (hn9.symm.trans B.named)
  cases Option.some.inj (h1.symm.trans B.method)
  cases Option.some.inj (h2.symm.trans (Stand.of_body B).code)
  rw [← h6, table_eq]
end Bodies
end VXA
/-! ===== END ===== -/
/-! ===== BEGIN a static call of a method with an exception table ===== -/
section VXS
variable {p : Program} {l : Launch} {e : Env} {R : Room} {s : State} {m : MethodId} {args : Array Value} {below : List Frame} {meth : Method} {c : Code} {T : State} {H : Heap} {locs : List Loc} {cells slots : Nat}
abbrev vx_CSW (R : Room) (s : State) (args : Array Value) (own : String) (index : Nat) (y : MethodName) (bytes : ByteArray) (maxL : Nat) (ret : Option FieldType) (hh : List (Nat × Nat × Nat × Nat)) (ws : List Cond) (rm : Room) (mc ms n : Nat) : Prop :=
  (rm.cells = mc ∧ rm.slots = ms ∧ rm.frames + 1 ≤ R.frames ∧ 8 + (maxL + 11) + rm.locals ≤ R.locals ∧ (∀ w ∈ ws, ∀ (a' : Array Value) (U : State), s.WarmedH U.vm → w.before a' U = true) ∧ Cond.codeWith y bytes maxL ret hh ∈ ws) ∧
  (Cond.codeWith y bytes maxL ret hh).before args s = true ∧ (Cond.initialized y.cls).before args s = true ∧ (y.cls ≠ "java/lang/invoke/MethodHandle" ∧ y.cls ≠ "java/lang/invoke/VarHandle") ∧
  (∀ sig, parseMethodDescriptor y.desc = some sig → n = sig.parameters.length) ∧ (Cond.methodLink own index y).before args s = true ∧ (Cond.static y).before args s = true
theorem vx_cwSW {own : String} {index maxL mc ms : Nat} {y : MethodName} {bytes : ByteArray} {ret : Option FieldType} {hh : List (Nat × Nat × Nat × Nat)} {Ts ws ws' : List Cond} {rm : Room} (n : Nat) (ht : ∀ w ∈ Ts, w.before args s = true) (hT : GoodIn Ts (va_wsS own index y ws)) (hw : ws = Cond.codeWith y bytes maxL ret hh :: ws') (hrc : rm.cells = mc) (hrs : rm.slots = ms)
    (hd : y.cls ≠ "java/lang/invoke/MethodHandle" ∧ y.cls ≠ "java/lang/invoke/VarHandle" ∧ (parseMethodDescriptor y.desc).map (fun d => d.parameters.length) = some n) (hR : rm.frames + 1 ≤ R.frames ∧ 8 + (maxL + 11) + rm.locals ≤ R.locals) :
    vx_CSW R s args own index y bytes maxL ret hh ws rm mc ms n := by
  have ok : ∀ w ∈ va_wsS own index y ws, w.before args s = true := fun w h => ht w (hT w h).1
  have hG : GoodIn Ts ws := fun w h => hT w (by unfold va_wsS; exact List.mem_append_right _ h)
  have hc : Cond.codeWith y bytes maxL ret hh ∈ ws := by rw [hw]; exact List.mem_cons_self
  refine ⟨⟨hrc, hrs, hR.1, hR.2, pay_in ht hG, hc⟩, ht _ (hG _ hc).1, ok _ (by simp [va_wsS]), ⟨hd.1, hd.2.1⟩, fun sig h => ?_, ok _ (by simp [va_wsS]), ok _ (by simp [va_wsS])⟩
  have h2 := hd.2.2
  rw [h] at h2
  exact (Option.some.inj h2).symm
theorem vx_callSW (X : Stand p l e R s m args below meth c T locs cells slots) (hexec : p.tables.exec = Jvm.exec) {own : String} {index : Nat} {y : MethodName} {bytes : ByteArray} {maxL : Nat} {ret : Option FieldType} {hh : List (Nat × Nat × Nat × Nat)}
    (hown : s.vm.findClass own = some m.cls) (hlink : (Cond.methodLink own index y).before args s = true) (hstat : (Cond.static y).before args s = true) (hinit : (Cond.initialized y.cls).before args s = true)
    (hcode : (Cond.codeWith y bytes maxL ret hh).before args s = true) (hy : y.cls ≠ "java/lang/invoke/MethodHandle" ∧ y.cls ≠ "java/lang/invoke/VarHandle")
    {W9 : Nat} {Pre : Pt → Array Value → Prop} {Post : Pt → Array Value → Option Value → Pt → Prop} (hK : Back l R p e below s args y 3 W9 Pre Post)
    {g : JFrame} (hg : g.method = m) (hsize : g.locals.size = c.maxLocals) {argsL rest : List Value} (hlen : ∀ sig, parseMethodDescriptor y.desc = some sig → argsL.length = sig.parameters.length)
    (hstack : g.stack = argsL.reverse ++ rest) (hW : 2 * g.monitorRoom + (rest.map fun v => v.category).sum ≤ W9) (hdg : decode c.code g.pc = .ok (.invokestatic index, 3))
    (hpre : ∀ vm₁, s.WarmedH vm₁ → Pre ⟨T.setVm vm₁, locs, cells, slots⟩ argsL.toArray) :
    ∃ (v : Option Value) (vm₁ : Vm) (B : Pt), s.WarmedH vm₁ ∧ Stand p l e R s m args below meth c B.U B.locs B.cells B.slots ∧ Post ⟨T.setVm vm₁, locs, cells, slots⟩ argsL.toArray v B ∧
      ∀ target, Steps p.tables e below (B.U.setTop { g with pc := g.pc + 3, stack := v.toList ++ rest }) target → Steps p.tables e below (T.setTop g) target := by
  obtain ⟨mk, methM, cM, hnamed, hmethM, -, -, -, -, -, -, hsigM⟩ := Cond.codeWith_spec hcode
  have hstatic : methM.isStatic = true := Cond.static_spec hnamed hmethM hstat
  obtain ⟨kP, hkP, -⟩ := className_of_methodNamed hnamed
  have hinitP : kP.init = .initialized := Cond.initialized_spec (findClass_of_methodNamed hnamed) hkP hinit
  obtain ⟨vm₁, X₁, hstep₁⟩ := X.invokestatic hexec hown hlink hnamed hmethM hstatic hkP hinitP hy (g := g) hg (argsL := argsL) (rest := rest) (hlen _ hsigM) hstack hdg
  obtain ⟨v, B, X', hpost, hsteps⟩ := hK m meth c ⟨T.setVm vm₁, locs, cells, slots⟩ { g with stack := rest } (.invokestatic index) mk argsL.toArray X₁ hg hsize hdg hW (X₁.named hnamed) (hpre vm₁ X₁.warmed)
  exact ⟨v, vm₁, B, X₁.warmed, X', hpost, fun target h => hstep₁ _ fun acts => by rw [doInvoke_state]; exact hsteps.trans h⟩
theorem vx_runSW {y : MethodName} {bytes cc : ByteArray} {maxL nL mc ms n index : Nat} {ret : Option FieldType} {hh : List (Nat × Nat × Nat × Nat)} {ws : List Cond} {rm : Room} {Pc : Array Value → State → Prop} {Qc : Array Value → State → Outcome → State → Prop} {free : Addr → Prop} {Ts : List Cond} {own : String} {As rest : List Value} {g : JFrame}
    (S : CallFix p m c cc nL s args Ts own) (hM : Met l y ws rm Pc Qc mc ms free) (cw : vx_CSW R s args own index y bytes maxL ret hh ws rm mc ms n) (hp : PreS s H Pc As)
    (hg : g.method = m) (hn : As.length = n) (hsize : g.locals.size = nL) (hstack : g.stack = As.reverse ++ rest) (hW : 2 * g.monitorRoom + (rest.map fun v => v.category).sum ≤ 8) (hdg : decode cc g.pc = .ok (.invokestatic index, 3)) (hf : cells + mc ≤ R.cells ∧ slots + ms ≤ R.slots) :
    va_Run p l e R s m args below meth c H locs cells slots mc ms g rest (Qc As.toArray) (free) := by
  obtain ⟨⟨hrc, hrs, hfr, hlo, hws, hcw⟩, hcode, hini, hy, hlen, hl, hstt⟩ := cw
  have hK : Back l R p e below s args y 3 8 (PreOf R mc ms Pc) (PostOf Qc mc ms free) := va_backW (hh := hh) (bytes := bytes) (maxL := maxL) (ret := ret) hM hp.1 hrc hrs hfr hlo hws hcw (fun a' U hW => word_at hW (Or.inl (by first | rfl | simp [Cond.onTables, Cond.keeps, Cond.steady])) hini)
  obtain ⟨hx, hb, hml, ho, -⟩ := S
  intro T hT X
  obtain ⟨v, vm₁, ⟨U', l2, c2, s2⟩, hW₁, X', ⟨g', mk, t, L, e1, e2, hq, h1, hL, h2, h3⟩, st⟩ := vx_callSW X hx (hh := hh) (bytes := bytes) (maxL := maxL) (ret := ret) ho hl hstt hini hcode hy hK hg (hsize.trans hml.symm) (argsL := As) (rest := rest) (fun sig h => hn.trans (hlen sig h)) hstack hW (by rw [hb]; exact hdg)
    (fun vm₁ hW₁ => ⟨hf.1, hf.2, hp.2 (T.setVm vm₁) hT hW₁⟩)
  dsimp only [Pt.U, Pt.locs, Pt.cells, Pt.slots] at X' e1 e2 h1 h2 h3 st
  subst h1; subst h2; subst h3
  exact ⟨v, (T.setVm vm₁).calling g' mk As.toArray, t, U', L, hT, X', hL, e1, e2, hq, st⟩
/-- a thing of a world lies in the heap -/
theorem vx_lt {D : va_G} {cl : List vw_C} {ws : va_W} {H1 : Heap} (h : va_P D cl ws H1) {k : Nat} {q : Nat × va_E} (hk : ws[k]? = some q) : q.1 < H1.size := (h k q hk).lt
end VXS
/-! ===== END ===== -/
/-! ===== BEGIN methods with a table of their own: called by a name, returning or throwing ===== -/
section VXH
/-! vx_backW, vx_callVX, vx_callSX, vx_callVW, vx_runVW, vx_runVX, vx_runSX, vx_ofWH follow the same proofs as their sisters above (Free/Laws.lean, Shelf42/LK1.lean); vx_outP calls Shelf42/NT130.lean (outThrough). -/
section
variable {l : Launch} {R : Room} {p : Program} {e : Env} {below : List Frame} {s : State} {sargs : Array Value} {y : MethodName} {len W9 : Nat}
theorem vx_backW {ws : List Cond} {rm : Room} {Pc : Array Value → State → Prop} {Qc : Array Value → State → Outcome → State → Prop} {XC : String → State → State → Prop} {mc ms : Nat} {free : Addr → Prop} {bytes : ByteArray} {maxL : Nat} {ret : Option FieldType} {hh : List (Nat × Nat × Nat × Nat)}
    (hM : vx_Met l y ws rm Pc Qc XC mc ms free) (hblind : FrameBlind Pc) (hrc : rm.cells = mc) (hrs : rm.slots = ms)
    (hframes : rm.frames + 1 ≤ R.frames) (hlocals : W9 + (maxL + 11) + rm.locals ≤ R.locals)
    (hws : ∀ w ∈ ws, ∀ a' U, s.WarmedH U.vm → w.before a' U = true) (hcode : Cond.codeWith y bytes maxL ret hh ∈ ws) (hinit : ∀ a' U, s.WarmedH U.vm → (Cond.initialized y.cls).before a' U = true) :
    vx_Back l R p e below s sargs y len W9 (PreOf R mc ms Pc) (PostOf Qc mc ms free) (vx_Post XC mc ms free) := by
  intro m meth c A g ig mk a X hg hsize hdg hW hn hp
  have h1 : (headSpec ws rm).pre.before a A.U = true := atoms_intro fun w hw => hws w hw _ _ X.warmed
  have h2 : (Cond.codeWith y bytes maxL ret hh).before a A.U = true := hws _ hcode _ _ X.warmed
  have h3 : (Cond.initialized y.cls).before a A.U = true := hinit _ _ X.warmed
  have h4 : A.cells + (headSpec ws rm).room.cells ≤ R.cells := by rw [show (headSpec ws rm).room.cells = mc from hrc]; exact hp.1
  have h5 : A.slots + (headSpec ws rm).room.slots ≤ R.slots := by rw [show (headSpec ws rm).room.slots = ms from hrs]; exact hp.2.1
  have hPc : Pc a (A.U.calling g mk a) := hblind _ _ _ _ hp.2.2
  obtain ⟨U, Ls, c0, s0⟩ := A
  dsimp only [Pt.U, Pt.locs, Pt.cells, Pt.slots] at h1 h2 h3 h4 h5 X hn hPc ⊢
  obtain ⟨m9, methY, cY, hn9, hmY, hcY, -, hlY, -⟩ := Cond.codeWith_spec h2
  cases Option.some.inj (hn9.symm.trans hn)
  obtain ⟨kY, hkY, -⟩ := className_of_methodNamed hn
  have hinitY : kY.init = .initialized := Cond.initialized_spec (findClass_of_methodNamed hn) hkY h3
  have h : At U g.method c below := by rw [hg]; exact X.here
  have hlocals9 : W9 + (maxL + 11) + (headSpec ws rm).room.locals ≤ R.locals := hlocals
  have happ : (headSpec ws rm).appliesLoose y e.platform (U.calling g mk a) = true :=
    Spec.appliesLoose_calling (g := g) h hdg hn hkY hinitY
      (X.room_calling (g := g) (R' := (headSpec ws rm).room) hsize hmY hcY hframes (by rw [hlY]; omega) h4 h5) h1
  obtain ⟨mid, hmid⟩ := h.above
  have hfr : (U.setTop g).frames = (.java g :: mid) ++ below := by rw [State.frames_setTop' g h.top, hmid]; rfl
  obtain ⟨o, s₂, hsteps, -, hend, hq⟩ := Steps.callFree hM p X.admits X.cas X.clock (acts := []) hfr happ hPc trivial
  have hq' : vx_Q Qc XC mc ms free a (U.calling g mk a) o s₂ := hq
  rw [State.frames_setTop' g h.top] at hend
  obtain ⟨g₀, hg0⟩ := Option.isSome_iff_exists.mp h.top
  obtain ⟨r, hr⟩ := State.topJava?_eq_some.mp hg0
  have hr' : (({ U with heap := s₂.heap, slotsUsed := s₂.slotsUsed } : State).setVm s₂.vm).frames = .java g₀ :: r := hr
  rcases hq' with ⟨hqc, L, hfe, hL⟩ | ⟨q, rfl, E, ce, L, hx, hce, hcv, hcl, hW₂, hsm, hL⟩
  · obtain ⟨⟨v, rfl⟩, hW₂, e2, q2, q3, q4, q5, q6⟩ := id hfe
    have e3 : s₂ = ({ (U.calling g mk a).setFrames s₂.frames with heap := s₂.heap, slotsUsed := s₂.slotsUsed } : State).setVm s₂.vm := by
      have : s₂ = ({ s₂ with vm := (U.calling g mk a).vm } : State).setVm s₂.vm := rfl
      rw [e2] at this
      exact this
    obtain ⟨c₂, i₂, len₂, hc₂, hd₂, hf₂⟩ := hend
    have hW' : U.WarmedH s₂.vm := hW₂
    have hcc : c₂ = c := by
      have h1 : s₂.code? g.method = U.code? g.method := by
        rw [State.code?_eq, State.code?_eq, hW'.alike.method?]
      exact Option.some.inj (hc₂.symm.trans (h1.trans h.code))
    subst hcc
    have hlen : len₂ = len := by rw [hdg] at hd₂; cases hd₂; rfl
    subst hlen
    have hs₂ : s₂ = (({ U with heap := s₂.heap, slotsUsed := s₂.slotsUsed } : State).setVm s₂.vm).setTop { g with pc := g.pc + len₂, stack := v.toList ++ g.stack } := by
      refine e3.trans ?_
      rw [hf₂, State.calling_eq h.top, State.setFrames_setFrames, State.setTop_of_frames _ hr', hr]
      rfl
    have hsame : U.sameButNew ({ U with heap := s₂.heap, slotsUsed := s₂.slotsUsed } : State) L mc ms := by
      refine ⟨?_, q2, q3, q4, q5, q6⟩
      obtain ⟨t, ht, -⟩ := State.frames_cons hr
      show ({ U with heap := s₂.heap, slotsUsed := s₂.slotsUsed } : State) = { U.setFrames U.frames with heap := s₂.heap, slotsUsed := s₂.slotsUsed }
      rw [State.setFrames_self ht]
    subst hg
    refine Or.inl ⟨v, ⟨(({ U with heap := s₂.heap, slotsUsed := s₂.slotsUsed } : State).setVm s₂.vm), Ls ++ L, c0 + mc, s0 + ms⟩,
      ⟨X.admits, X.cas, X.clock, X.frames, X.room, X.hears, X.method, X.code, (X.here.setHeapUsed s₂.heap s₂.slotsUsed).setVm hW'.alike, X.tail, State.WarmedH.trans X.warmed hW', X.limits, X.bytes, X.same.trans (hsame.setVm s.vm)⟩,
      ⟨g, mk, s₂, L, rfl, rfl, hqc, rfl, hL, rfl, rfl⟩, ?_⟩
    show Steps p.tables e below _ ((({ U with heap := s₂.heap, slotsUsed := s₂.slotsUsed } : State).setVm s₂.vm).setTop { g with pc := g.pc + len₂, stack := v.toList ++ g.stack })
    rw [← hs₂]
    exact hsteps
  · obtain ⟨e2, q2, q3, q4, q5, q6⟩ := id hsm
    have e3 : s₂ = ({ (U.calling g mk a).setFrames s₂.frames with heap := s₂.heap, slotsUsed := s₂.slotsUsed } : State).setVm s₂.vm := by
      have : s₂ = ({ s₂ with vm := (U.calling g mk a).vm } : State).setVm s₂.vm := rfl
      rw [e2] at this
      exact this
    have hf₂ : s₂.frames = .throwing q :: .java g :: U.frames.tail := hend
    have hW' : U.WarmedH s₂.vm := hW₂
    have hs₂ : s₂ = ((({ U with heap := s₂.heap, slotsUsed := s₂.slotsUsed } : State).setVm s₂.vm).setTop g).pushFrame (.throwing q) := by
      refine e3.trans ?_
      rw [hf₂, State.calling_eq h.top, State.setFrames_setFrames, State.pushFrame, State.frames_setTop _ hr', State.setTop_of_frames _ hr', State.setFrames_setFrames, hr]
      rfl
    have hsame : U.sameButNew ({ U with heap := s₂.heap, slotsUsed := s₂.slotsUsed } : State) L mc ms := by
      refine ⟨?_, q2, q3, q4, q5, q6⟩
      obtain ⟨t, ht, -⟩ := State.frames_cons hr
      show ({ U with heap := s₂.heap, slotsUsed := s₂.slotsUsed } : State) = { U.setFrames U.frames with heap := s₂.heap, slotsUsed := s₂.slotsUsed }
      rw [State.setFrames_self ht]
    subst hg
    refine Or.inr ⟨q, ⟨(({ U with heap := s₂.heap, slotsUsed := s₂.slotsUsed } : State).setVm s₂.vm), Ls ++ L, c0 + mc, s0 + ms⟩,
      ⟨X.admits, X.cas, X.clock, X.frames, X.room, X.hears, X.method, X.code, (X.here.setHeapUsed s₂.heap s₂.slotsUsed).setVm hW'.alike, X.tail, State.WarmedH.trans X.warmed hW', X.limits, X.bytes, X.same.trans (hsame.setVm s.vm)⟩,
      ⟨g, mk, s₂, L, E, ce, rfl, rfl, hx, hce, hcv, hcl, rfl, hL, rfl, rfl⟩, ?_⟩
    show Steps p.tables e below _ (((({ U with heap := s₂.heap, slotsUsed := s₂.slotsUsed } : State).setVm s₂.vm).setTop g).pushFrame (.throwing q))
    rw [← hs₂]
    exact hsteps
end
variable {p : Program} {l : Launch} {e : Env} {R : Room} {s : State} {m : MethodId} {args : Array Value} {below : List Frame} {meth : Method} {c : Code} {T : State} {H : Heap} {locs : List Loc} {cells slots : Nat}
theorem vx_callVX (X : Stand p l e R s m args below meth c T locs cells slots) (hexec : p.tables.exec = Jvm.exec) {own C : String} {index : Nat} {y : MethodName} {bytes : ByteArray} {maxL : Nat} {ret : Option FieldType} {hh : List (Nat × Nat × Nat × Nat)}
    (hown : s.vm.findClass own = some m.cls) (hlink : (Cond.methodLink own index y).before args s = true) (hinst : (Cond.instanceMethod y).before args s = true) (hsel : (Cond.selects C y y).before args s = true)
    (hcode : (Cond.codeWith y bytes maxL ret hh).before args s = true) (hy : y.cls ≠ "java/lang/invoke/MethodHandle" ∧ y.cls ≠ "java/lang/invoke/VarHandle")
    {W9 : Nat} {Pre : Pt → Array Value → Prop} {Post : Pt → Array Value → Option Value → Pt → Prop} {PostX : Pt → Array Value → Addr → Pt → Prop} (hK : vx_Back l R p e below s args y 3 W9 Pre Post PostX)
    {b : Addr} {cellB : Cell} (hcell : T.heap[b]? = some cellB) (hobj : cellB.vm.isStatics = false) (hcls : s.vm.findClass C = some cellB.cls)
    {g : JFrame} (hg : g.method = m) (hsize : g.locals.size = c.maxLocals) {argsL rest : List Value} (hlen : ∀ sig, parseMethodDescriptor y.desc = some sig → argsL.length = sig.parameters.length)
    (hstack : g.stack = argsL.reverse ++ .ref b :: rest) (hW : 2 * g.monitorRoom + (rest.map fun v => v.category).sum ≤ W9) (hdg : decode c.code g.pc = .ok (.invokevirtual index, 3))
    (hpre : ∀ vm₁, s.WarmedH vm₁ → Pre ⟨T.setVm vm₁, locs, cells, slots⟩ (Value.ref b :: argsL).toArray) :
    (∃ (v : Option Value) (vm₁ : Vm) (B : Pt), s.WarmedH vm₁ ∧ Stand p l e R s m args below meth c B.U B.locs B.cells B.slots ∧ Post ⟨T.setVm vm₁, locs, cells, slots⟩ (Value.ref b :: argsL).toArray v B ∧
      ∀ target, Steps p.tables e below (B.U.setTop { g with pc := g.pc + 3, stack := v.toList ++ rest }) target → Steps p.tables e below (T.setTop g) target) ∨
    (∃ (q : Addr) (vm₁ : Vm) (B : Pt), s.WarmedH vm₁ ∧ Stand p l e R s m args below meth c B.U B.locs B.cells B.slots ∧ PostX ⟨T.setVm vm₁, locs, cells, slots⟩ (Value.ref b :: argsL).toArray q B ∧
      Steps p.tables e below (T.setTop g) ((B.U.setTop { g with stack := rest }).pushFrame (.throwing q))) := by
  obtain ⟨mk, methM, hnamed, hmethM, hstM, habM⟩ := Cond.instanceMethod_spec hinst
  obtain ⟨m8, methM', cM, hn8, hmethM', -, -, -, -, -, -, hsigM⟩ := Cond.codeWith_spec hcode
  cases Option.some.inj (hn8.symm.trans hnamed)
  cases hmethM.symm.trans hmethM'
  obtain ⟨c2, r2, m2, q1, q2, q3, q4, kP, hkP, hkPi⟩ := Cond.selects_spec hsel
  cases hcls.symm.trans q1
  cases (State.methodFound?_of_named hnamed hy).symm.trans q2
  cases hnamed.symm.trans q3
  have hselP : selectMethod e.platform s.vm cellB.cls mk = .method mk := by rw [Launch.admits_selectMethod X.admits]; exact q4
  obtain ⟨vm₁, X₁, hstep₁⟩ := X.invokevirtual hexec hown hlink hnamed hmethM hstM hkP hkPi hy (a := b) (cell := cellB) hcell
    (fun z h => by rw [h] at hobj; cases hobj) hselP hmethM habM hkP hkPi (g := g) hg (argsL := argsL) (rest := rest) (hlen _ hsigM) hstack hdg
  rcases hK m meth c ⟨T.setVm vm₁, locs, cells, slots⟩ { g with stack := rest } (.invokevirtual index) mk (Value.ref b :: argsL).toArray X₁ hg hsize hdg hW (X₁.named hnamed) (hpre vm₁ X₁.warmed) with ⟨v, B, X', hpost, hsteps⟩ | ⟨q, B, X', hpost, hsteps⟩
  · exact Or.inl ⟨v, vm₁, B, X₁.warmed, X', hpost, fun target h => hstep₁ _ fun acts => by rw [doInvoke_state]; exact hsteps.trans h⟩
  · exact Or.inr ⟨q, vm₁, B, X₁.warmed, X', hpost, hstep₁ _ fun acts => by rw [doInvoke_state]; exact hsteps⟩
theorem vx_callSX (X : Stand p l e R s m args below meth c T locs cells slots) (hexec : p.tables.exec = Jvm.exec) {own : String} {index : Nat} {y : MethodName} {bytes : ByteArray} {maxL : Nat} {ret : Option FieldType} {hh : List (Nat × Nat × Nat × Nat)}
    (hown : s.vm.findClass own = some m.cls) (hlink : (Cond.methodLink own index y).before args s = true) (hstat : (Cond.static y).before args s = true) (hinit : (Cond.initialized y.cls).before args s = true)
    (hcode : (Cond.codeWith y bytes maxL ret hh).before args s = true) (hy : y.cls ≠ "java/lang/invoke/MethodHandle" ∧ y.cls ≠ "java/lang/invoke/VarHandle")
    {W9 : Nat} {Pre : Pt → Array Value → Prop} {Post : Pt → Array Value → Option Value → Pt → Prop} {PostX : Pt → Array Value → Addr → Pt → Prop} (hK : vx_Back l R p e below s args y 3 W9 Pre Post PostX)
    {g : JFrame} (hg : g.method = m) (hsize : g.locals.size = c.maxLocals) {argsL rest : List Value} (hlen : ∀ sig, parseMethodDescriptor y.desc = some sig → argsL.length = sig.parameters.length)
    (hstack : g.stack = argsL.reverse ++ rest) (hW : 2 * g.monitorRoom + (rest.map fun v => v.category).sum ≤ W9) (hdg : decode c.code g.pc = .ok (.invokestatic index, 3))
    (hpre : ∀ vm₁, s.WarmedH vm₁ → Pre ⟨T.setVm vm₁, locs, cells, slots⟩ argsL.toArray) :
    (∃ (v : Option Value) (vm₁ : Vm) (B : Pt), s.WarmedH vm₁ ∧ Stand p l e R s m args below meth c B.U B.locs B.cells B.slots ∧ Post ⟨T.setVm vm₁, locs, cells, slots⟩ argsL.toArray v B ∧
      ∀ target, Steps p.tables e below (B.U.setTop { g with pc := g.pc + 3, stack := v.toList ++ rest }) target → Steps p.tables e below (T.setTop g) target) ∨
    (∃ (q : Addr) (vm₁ : Vm) (B : Pt), s.WarmedH vm₁ ∧ Stand p l e R s m args below meth c B.U B.locs B.cells B.slots ∧ PostX ⟨T.setVm vm₁, locs, cells, slots⟩ argsL.toArray q B ∧
      Steps p.tables e below (T.setTop g) ((B.U.setTop { g with stack := rest }).pushFrame (.throwing q))) := by
  obtain ⟨mk, methM, cM, hnamed, hmethM, -, -, -, -, -, -, hsigM⟩ := Cond.codeWith_spec hcode
  have hstatic : methM.isStatic = true := Cond.static_spec hnamed hmethM hstat
  obtain ⟨kP, hkP, -⟩ := className_of_methodNamed hnamed
  have hinitP : kP.init = .initialized := Cond.initialized_spec (findClass_of_methodNamed hnamed) hkP hinit
  obtain ⟨vm₁, X₁, hstep₁⟩ := X.invokestatic hexec hown hlink hnamed hmethM hstatic hkP hinitP hy (g := g) hg (argsL := argsL) (rest := rest) (hlen _ hsigM) hstack hdg
  rcases hK m meth c ⟨T.setVm vm₁, locs, cells, slots⟩ { g with stack := rest } (.invokestatic index) mk argsL.toArray X₁ hg hsize hdg hW (X₁.named hnamed) (hpre vm₁ X₁.warmed) with ⟨v, B, X', hpost, hsteps⟩ | ⟨q, B, X', hpost, hsteps⟩
  · exact Or.inl ⟨v, vm₁, B, X₁.warmed, X', hpost, fun target h => hstep₁ _ fun acts => by rw [doInvoke_state]; exact hsteps.trans h⟩
  · exact Or.inr ⟨q, vm₁, B, X₁.warmed, X', hpost, hstep₁ _ fun acts => by rw [doInvoke_state]; exact hsteps⟩
theorem vx_callVW (X : Stand p l e R s m args below meth c T locs cells slots) (hexec : p.tables.exec = Jvm.exec) {own C : String} {index : Nat} {y : MethodName} {bytes : ByteArray} {maxL : Nat} {ret : Option FieldType} {hh : List (Nat × Nat × Nat × Nat)}
    (hown : s.vm.findClass own = some m.cls) (hlink : (Cond.methodLink own index y).before args s = true) (hinst : (Cond.instanceMethod y).before args s = true) (hsel : (Cond.selects C y y).before args s = true)
    (hcode : (Cond.codeWith y bytes maxL ret hh).before args s = true) (hy : y.cls ≠ "java/lang/invoke/MethodHandle" ∧ y.cls ≠ "java/lang/invoke/VarHandle")
    {W9 : Nat} {Pre : Pt → Array Value → Prop} {Post : Pt → Array Value → Option Value → Pt → Prop} (hK : Back l R p e below s args y 3 W9 Pre Post)
    {b : Addr} {cellB : Cell} (hcell : T.heap[b]? = some cellB) (hobj : cellB.vm.isStatics = false) (hcls : s.vm.findClass C = some cellB.cls)
    {g : JFrame} (hg : g.method = m) (hsize : g.locals.size = c.maxLocals) {argsL rest : List Value} (hlen : ∀ sig, parseMethodDescriptor y.desc = some sig → argsL.length = sig.parameters.length)
    (hstack : g.stack = argsL.reverse ++ .ref b :: rest) (hW : 2 * g.monitorRoom + (rest.map fun v => v.category).sum ≤ W9) (hdg : decode c.code g.pc = .ok (.invokevirtual index, 3))
    (hpre : ∀ vm₁, s.WarmedH vm₁ → Pre ⟨T.setVm vm₁, locs, cells, slots⟩ (Value.ref b :: argsL).toArray) :
    ∃ (v : Option Value) (vm₁ : Vm) (B : Pt), s.WarmedH vm₁ ∧ Stand p l e R s m args below meth c B.U B.locs B.cells B.slots ∧ Post ⟨T.setVm vm₁, locs, cells, slots⟩ (Value.ref b :: argsL).toArray v B ∧
      ∀ target, Steps p.tables e below (B.U.setTop { g with pc := g.pc + 3, stack := v.toList ++ rest }) target → Steps p.tables e below (T.setTop g) target := by
  obtain ⟨mk, methM, hnamed, hmethM, hstM, habM⟩ := Cond.instanceMethod_spec hinst
  obtain ⟨m8, methM', cM, hn8, hmethM', -, -, -, -, -, -, hsigM⟩ := Cond.codeWith_spec hcode
  cases Option.some.inj (hn8.symm.trans hnamed)
  cases hmethM.symm.trans hmethM'
  obtain ⟨c2, r2, m2, q1, q2, q3, q4, kP, hkP, hkPi⟩ := Cond.selects_spec hsel
  cases hcls.symm.trans q1
  cases (State.methodFound?_of_named hnamed hy).symm.trans q2
  cases hnamed.symm.trans q3
  have hselP : selectMethod e.platform s.vm cellB.cls mk = .method mk := by rw [Launch.admits_selectMethod X.admits]; exact q4
  obtain ⟨vm₁, X₁, hstep₁⟩ := X.invokevirtual hexec hown hlink hnamed hmethM hstM hkP hkPi hy (a := b) (cell := cellB) hcell
    (fun z h => by rw [h] at hobj; cases hobj) hselP hmethM habM hkP hkPi (g := g) hg (argsL := argsL) (rest := rest) (hlen _ hsigM) hstack hdg
  obtain ⟨v, B, X', hpost, hsteps⟩ := hK m meth c ⟨T.setVm vm₁, locs, cells, slots⟩ { g with stack := rest } (.invokevirtual index) mk (Value.ref b :: argsL).toArray X₁ hg hsize hdg hW (X₁.named hnamed) (hpre vm₁ X₁.warmed)
  exact ⟨v, vm₁, B, X₁.warmed, X', hpost, fun target h => hstep₁ _ fun acts => by rw [doInvoke_state]; exact hsteps.trans h⟩
abbrev vx_CVW (R : Room) (s : State) (args : Array Value) (own C : String) (index : Nat) (y : MethodName) (bytes : ByteArray) (maxL : Nat) (ret : Option FieldType) (hh : List (Nat × Nat × Nat × Nat)) (ws : List Cond) (rm : Room) (mc ms n : Nat) : Prop :=
  (rm.cells = mc ∧ rm.slots = ms ∧ rm.frames + 1 ≤ R.frames ∧ 8 + (maxL + 11) + rm.locals ≤ R.locals ∧ (∀ w ∈ ws, ∀ (a' : Array Value) (U : State), s.WarmedH U.vm → w.before a' U = true) ∧ Cond.codeWith y bytes maxL ret hh ∈ ws) ∧
  (Cond.codeWith y bytes maxL ret hh).before args s = true ∧ (Cond.initialized y.cls).before args s = true ∧ (y.cls ≠ "java/lang/invoke/MethodHandle" ∧ y.cls ≠ "java/lang/invoke/VarHandle") ∧
  (∀ sig, parseMethodDescriptor y.desc = some sig → n = sig.parameters.length) ∧ (Cond.methodLink own index y).before args s = true ∧ (Cond.instanceMethod y).before args s = true ∧ (Cond.selects C y y).before args s = true
theorem vx_cwVW {own C : String} {index maxL mc ms : Nat} {y : MethodName} {bytes : ByteArray} {ret : Option FieldType} {hh : List (Nat × Nat × Nat × Nat)} {Ts ws ws' : List Cond} {rm : Room} (n : Nat) (ht : ∀ w ∈ Ts, w.before args s = true) (hT : GoodIn Ts (wsV own index C y ws)) (hw : ws = Cond.codeWith y bytes maxL ret hh :: ws') (hrc : rm.cells = mc) (hrs : rm.slots = ms)
    (hd : y.cls = C ∧ y.cls ≠ "java/lang/invoke/MethodHandle" ∧ y.cls ≠ "java/lang/invoke/VarHandle" ∧ (parseMethodDescriptor y.desc).map (fun d => d.parameters.length) = some n) (hR : rm.frames + 1 ≤ R.frames ∧ 8 + (maxL + 11) + rm.locals ≤ R.locals) :
    vx_CVW R s args own C index y bytes maxL ret hh ws rm mc ms n := by
  obtain ⟨hC, hd⟩ := hd
  subst hC
  have ok : ∀ w ∈ wsV own index y.cls y ws, w.before args s = true := fun w h => ht w (hT w h).1
  have hG : GoodIn Ts ws := fun w h => hT w (by unfold wsV; exact List.mem_append_right _ h)
  have hc : Cond.codeWith y bytes maxL ret hh ∈ ws := by rw [hw]; exact List.mem_cons_self
  refine ⟨⟨hrc, hrs, hR.1, hR.2, pay_in ht hG, hc⟩, ht _ (hG _ hc).1, ok _ (by simp [wsV]), ⟨hd.1, hd.2.1⟩, fun sig h => ?_, ok _ (by simp [wsV]), ok _ (by simp [wsV]), ok _ (by simp [wsV])⟩
  have h2 := hd.2.2
  rw [h] at h2
  exact (Option.some.inj h2).symm
theorem vx_runVW {y : MethodName} {bytes cc : ByteArray} {maxL nL mc ms n index : Nat} {ret : Option FieldType} {hh : List (Nat × Nat × Nat × Nat)} {ws : List Cond} {rm : Room} {Pc : Array Value → State → Prop} {Qc : Array Value → State → Outcome → State → Prop} {free : Addr → Prop} {Ts : List Cond} {own C : String} {b : Addr} {As rest : List Value} {g : JFrame}
    (S : CallFix p m c cc nL s args Ts own) (hM : Met l y ws rm Pc Qc mc ms free) (cw : vx_CVW R s args own C index y bytes maxL ret hh ws rm mc ms n) (hp : PreV s H C b Pc As)
    (hg : g.method = m) (hn : As.length = n) (hsize : g.locals.size = nL) (hstack : g.stack = As.reverse ++ .ref b :: rest) (hW : 2 * g.monitorRoom + (rest.map fun v => v.category).sum ≤ 8) (hdg : decode cc g.pc = .ok (.invokevirtual index, 3)) (hf : cells + mc ≤ R.cells ∧ slots + ms ≤ R.slots) :
    va_Run p l e R s m args below meth c H locs cells slots mc ms g rest (Qc (Value.ref b :: As).toArray) free := by
  obtain ⟨⟨hrc, hrs, hfr, hlo, hws, hcw⟩, hcode, hini, hy, hlen, hl, hin, hse⟩ := cw
  have hK : Back l R p e below s args y 3 8 (PreOf R mc ms Pc) (PostOf Qc mc ms free) := va_backW (hh := hh) (bytes := bytes) (maxL := maxL) (ret := ret) hM hp.1 hrc hrs hfr hlo hws hcw (fun a' U hW => word_at hW (Or.inl (by first | rfl | simp [Cond.onTables, Cond.keeps, Cond.steady])) hini)
  obtain ⟨hx, hb, hml, ho, -⟩ := S
  obtain ⟨-, ⟨cellB, hcB, hoB, hclB⟩, hPc⟩ := hp
  intro T hT X
  obtain ⟨v, vm₁, ⟨U', l2, c2, s2⟩, hW₁, X', ⟨g', mk, t, L, e1, e2, hq, h1, hL, h2, h3⟩, st⟩ := vx_callVW X hx (C := C) (hh := hh) (bytes := bytes) (maxL := maxL) (ret := ret) ho hl hin hse hcode hy hK (by rw [hT]; exact hcB) hoB hclB hg (hsize.trans hml.symm) (argsL := As) (rest := rest) (fun sig h => hn.trans (hlen sig h)) hstack hW (by rw [hb]; exact hdg)
    (fun vm₁ hW₁ => ⟨hf.1, hf.2, hPc (T.setVm vm₁) hT hW₁⟩)
  dsimp only [Pt.U, Pt.locs, Pt.cells, Pt.slots] at X' e1 e2 h1 h2 h3 st
  subst h1; subst h2; subst h3
  exact ⟨v, (T.setVm vm₁).calling g' mk (Value.ref b :: As).toArray, t, U', L, hT, X', hL, e1, e2, hq, st⟩
section
variable {y : MethodName} {bytes cc : ByteArray} {maxL nL mc ms n index : Nat} {ret : Option FieldType} {ws : List Cond} {rm : Room} {Pc : Array Value → State → Prop} {Qc : Array Value → State → Outcome → State → Prop} {XC : String → State → State → Prop} {free : Addr → Prop} {Ts : List Cond} {own C : String} {b : Addr} {As rest : List Value} {g : JFrame}
theorem vx_runVX {hh : List (Nat × Nat × Nat × Nat)} (S : CallFix p m c cc nL s args Ts own) (hM : vx_Met l y ws rm Pc Qc XC mc ms free) (cw : vx_CVW R s args own C index y bytes maxL ret hh ws rm mc ms n) (hp : PreV s H C b Pc As)
    (hg : g.method = m) (hn : As.length = n) (hsize : g.locals.size = nL) (hstack : g.stack = As.reverse ++ .ref b :: rest) (hW : 2 * g.monitorRoom + (rest.map fun v => v.category).sum ≤ 8) (hdg : decode cc g.pc = .ok (.invokevirtual index, 3)) (hf : cells + mc ≤ R.cells ∧ slots + ms ≤ R.slots) :
    vx_Run p l e R s m args below meth c H locs cells slots mc ms g rest (Qc (Value.ref b :: As).toArray) XC free := by
  obtain ⟨⟨hrc, hrs, hfr, hlo, hws, hcw⟩, hcode, hini, hy, hlen, hl, hin, hse⟩ := cw
  have hK : vx_Back l R p e below s args y 3 8 (PreOf R mc ms Pc) (PostOf Qc mc ms free) (vx_Post XC mc ms free) := vx_backW (hh := hh) (bytes := bytes) (maxL := maxL) (ret := ret) hM hp.1 hrc hrs hfr hlo hws hcw (fun a' U hW => word_at hW (Or.inl (by first | rfl | simp [Cond.onTables, Cond.keeps, Cond.steady])) hini)
  obtain ⟨hx, hb, hml, ho, -⟩ := S
  obtain ⟨-, ⟨cellB, hcB, hoB, hclB⟩, hPc⟩ := hp
  intro T hT X
  rcases vx_callVX X hx (C := C) (hh := hh) (bytes := bytes) (maxL := maxL) (ret := ret) ho hl hin hse hcode hy hK (by rw [hT]; exact hcB) hoB hclB hg (hsize.trans hml.symm) (argsL := As) (rest := rest) (fun sig h => hn.trans (hlen sig h)) hstack hW (by rw [hb]; exact hdg)
    (fun vm₁ hW₁ => ⟨hf.1, hf.2, hPc (T.setVm vm₁) hT hW₁⟩) with ⟨v, vm₁, ⟨U', l2, c2, s2⟩, hW₁, X', ⟨g', mk, t, L, e1, e2, hq, h1, hL, h2, h3⟩, st⟩ | ⟨q, vm₁, ⟨U', l2, c2, s2⟩, hW₁, X', ⟨g', mk, t, L, E, ce, e1, e2, hq, hce, hcv, hcl, h1, hL, h2, h3⟩, st⟩
  · dsimp only [Pt.U, Pt.locs, Pt.cells, Pt.slots] at X' e1 e2 h1 h2 h3 st
    subst h1; subst h2; subst h3
    exact Or.inl ⟨v, (T.setVm vm₁).calling g' mk (Value.ref b :: As).toArray, t, U', L, hT, X', hL, e1, e2, hq, st⟩
  · dsimp only [Pt.U, Pt.locs, Pt.cells, Pt.slots] at X' e1 e2 h1 h2 h3 st hcl
    subst h1; subst h2; subst h3
    exact Or.inr ⟨q, (T.setVm vm₁).calling g' mk (Value.ref b :: As).toArray, t, U', L, E, ce, hT, X', hL, e1, e2, hq, hce, hcv, vx_cls hW₁ hcl, st⟩
theorem vx_runSX {hh : List (Nat × Nat × Nat × Nat)} (S : CallFix p m c cc nL s args Ts own) (hM : vx_Met l y ws rm Pc Qc XC mc ms free) (cw : vx_CSW R s args own index y bytes maxL ret hh ws rm mc ms n) (hp : PreS s H Pc As)
    (hg : g.method = m) (hn : As.length = n) (hsize : g.locals.size = nL) (hstack : g.stack = As.reverse ++ rest) (hW : 2 * g.monitorRoom + (rest.map fun v => v.category).sum ≤ 8) (hdg : decode cc g.pc = .ok (.invokestatic index, 3)) (hf : cells + mc ≤ R.cells ∧ slots + ms ≤ R.slots) :
    vx_Run p l e R s m args below meth c H locs cells slots mc ms g rest (Qc As.toArray) XC free := by
  obtain ⟨⟨hrc, hrs, hfr, hlo, hws, hcw⟩, hcode, hini, hy, hlen, hl, hstt⟩ := cw
  have hK : vx_Back l R p e below s args y 3 8 (PreOf R mc ms Pc) (PostOf Qc mc ms free) (vx_Post XC mc ms free) := vx_backW (hh := hh) (bytes := bytes) (maxL := maxL) (ret := ret) hM hp.1 hrc hrs hfr hlo hws hcw (fun a' U hW => word_at hW (Or.inl (by first | rfl | simp [Cond.onTables, Cond.keeps, Cond.steady])) hini)
  obtain ⟨hx, hb, hml, ho, -⟩ := S
  intro T hT X
  rcases vx_callSX X hx (hh := hh) (bytes := bytes) (maxL := maxL) (ret := ret) ho hl hstt hini hcode hy hK hg (hsize.trans hml.symm) (argsL := As) (rest := rest) (fun sig h => hn.trans (hlen sig h)) hstack hW (by rw [hb]; exact hdg)
    (fun vm₁ hW₁ => ⟨hf.1, hf.2, hp.2 (T.setVm vm₁) hT hW₁⟩) with ⟨v, vm₁, ⟨U', l2, c2, s2⟩, hW₁, X', ⟨g', mk, t, L, e1, e2, hq, h1, hL, h2, h3⟩, st⟩ | ⟨q, vm₁, ⟨U', l2, c2, s2⟩, hW₁, X', ⟨g', mk, t, L, E, ce, e1, e2, hq, hce, hcv, hcl, h1, hL, h2, h3⟩, st⟩
  · dsimp only [Pt.U, Pt.locs, Pt.cells, Pt.slots] at X' e1 e2 h1 h2 h3 st
    subst h1; subst h2; subst h3
    exact Or.inl ⟨v, (T.setVm vm₁).calling g' mk As.toArray, t, U', L, hT, X', hL, e1, e2, hq, st⟩
  · dsimp only [Pt.U, Pt.locs, Pt.cells, Pt.slots] at X' e1 e2 h1 h2 h3 st hcl
    subst h1; subst h2; subst h3
    exact Or.inr ⟨q, (T.setVm vm₁).calling g' mk As.toArray, t, U', L, E, ce, hT, X', hL, e1, e2, hq, hce, hcv, vx_cls hW₁ hcl, st⟩
end
end VXH
theorem vx_ofWH {l : Launch} {y : MethodName} {ws ws' : List Cond} {rm : Room} {Pc : Array Value → State → Prop} {Qc : Array Value → State → Outcome → State → Prop} {XC : String → State → State → Prop} {mc ms : Nat} {free : Addr → Prop} {cc : ByteArray} {maxL : Nat} {ret : Option FieldType} {hh : List (Nat × Nat × Nat × Nat)}
    (hy : plainName y.cls = true) (hw : ws = Cond.codeWith y cc maxL ret hh :: ws')
    (body : ∀ p e s m args below meth c s₁, BodyLoose p l y (headSpec ws rm) cc maxL ret e s m args below meth c s₁ → c.maxLocals = maxL → Pc args s →
      W p l e (headSpec ws rm).room s m args below meth c s.heap [] 0 0 (vx_MQ below Qc XC args s mc ms free) (entryFrame m args maxL)) : vx_Met l y ws rm Pc Qc XC mc ms free := by
  refine MetFree.of_bodyS (code := cc) (maxLocals := maxL) (ret := ret) hy ?_ ?_
  · intro args s m h hn
    obtain ⟨m9, meth, c, hn9, h1, h2, h3, h4, -, h5, h6, -⟩ := Cond.codeWith_spec (atoms_spec (ws := ws) h _ (by rw [hw]; exact List.mem_cons_self))
    cases hn.symm.trans hn9
    exact ⟨meth, c, h1, h2, h3, h4, h5, h6⟩
  · intro p e s m args below meth c s₁ B hml hP _
    have hh0 : s₁.heap = s.heap := by rw [B.state]; rfl
    obtain ⟨t, a1, o, b1, b2, b3⟩ := body p e s m args below meth c s₁ B hml hP s₁ hh0 (Stand.of_body B)
    exact ⟨t, o, a1, b1, b2, b3⟩
/-! ===== END ===== -/
end
section
/-! ===== BEGIN printed: names, fields, word lists, decode rows ===== -/
def RX0 : String := "LineTimes$DayWord"
def TX0 : u_T := fun k => match k with
  | 0 => ("LineTimes$DayWord", "day", "I", true)
  | 1 => ("LineTimes$DayWord", "runs", "Z", false)
  | _ => ("LineTimes$DayWord", "before", "LLineTimes$DayWord;", true)
def tyX0 : Nat → FieldType := fun k => match k with
  | 0 => .int
  | 1 => .boolean
  | _ => .object "LineTimes$DayWord"
abbrev wsX00 : List Cond := u_ws RX0 TX0 3
theorem nmX0 : ∀ a, a < 3 → ∀ b, b < 3 → a ≠ b → (TX0 a).2.1 ≠ (TX0 b).2.1 := by decide +kernel
theorem tyX0_ok : ∀ k, k < 3 → parseFieldDescriptor (TX0 k).2.2.1 = some (tyX0 k) := by decide +kernel
abbrev cX0_init : ByteArray := prog_2_method_1_code
def yX0_init : MethodName := ⟨RX0, "<init>", "(IZLLineTimes$DayWord;)V"⟩
def RX1 : String := "LineTimes$LateWord"
def TX1 : u_T := fun k => match k with
  | 0 => ("LineTimes$LateWord", "stop", "I", true)
  | 1 => ("LineTimes$LateWord", "by", "I", true)
  | 2 => ("LineTimes$LateWord", "day", "I", true)
  | _ => ("LineTimes$LateWord", "before", "LLineTimes$LateWord;", true)
def tyX1 : Nat → FieldType := fun k => match k with
  | 0 => .int
  | 1 => .int
  | 2 => .int
  | _ => .object "LineTimes$LateWord"
abbrev wsX10 : List Cond := u_ws RX1 TX1 4
theorem nmX1 : ∀ a, a < 4 → ∀ b, b < 4 → a ≠ b → (TX1 a).2.1 ≠ (TX1 b).2.1 := by decide +kernel
theorem tyX1_ok : ∀ k, k < 4 → parseFieldDescriptor (TX1 k).2.2.1 = some (tyX1 k) := by decide +kernel
abbrev cX1_init : ByteArray := prog_3_method_1_code
def yX1_init : MethodName := ⟨RX1, "<init>", "(IIILLineTimes$LateWord;)V"⟩
def RX2 : String := "LineTimes$Leavings"
def TX2 : u_T := fun k => match k with
  | 0 => ("LineTimes$Leavings", "times", "[I", true)
  | 1 => ("LineTimes$Leavings", "count", "I", false)
  | _ => ("LineTimes$Leavings", "wanted", "I", false)
def tyX2 : Nat → FieldType := fun k => match k with
  | 0 => .array .int
  | 1 => .int
  | _ => .int
abbrev wsX20 : List Cond := u_ws RX2 TX2 3
theorem nmX2 : ∀ a, a < 3 → ∀ b, b < 3 → a ≠ b → (TX2 a).2.1 ≠ (TX2 b).2.1 := by decide +kernel
theorem tyX2_ok : ∀ k, k < 3 → parseFieldDescriptor (TX2 k).2.2.1 = some (tyX2 k) := by decide +kernel
abbrev cX2_init : ByteArray := prog_4_method_1_code
def yX2_init : MethodName := ⟨RX2, "<init>", "()V"⟩
abbrev cX2_clear : ByteArray := prog_4_method_2_code
def yX2_clear : MethodName := ⟨RX2, "clear", "(I)V"⟩
abbrev cX2_note : ByteArray := prog_4_method_3_code
def yX2_note : MethodName := ⟨RX2, "note", "(I)V"⟩
def RX3 : String := "LineTimes$Line"
def TX3 : u_T := fun k => match k with
  | 0 => ("LineTimes$Line", "weekDays", "I", true)
  | 1 => ("LineTimes$Line", "stopPlaces", "[I", true)
  | 2 => ("LineTimes$Line", "stopArrives", "[I", true)
  | 3 => ("LineTimes$Line", "stopLeaves", "[I", true)
  | 4 => ("LineTimes$Line", "stopCount", "I", false)
  | 5 => ("LineTimes$Line", "dayWords", "LLineTimes$DayWord;", false)
  | 6 => ("LineTimes$Line", "lateWords", "LLineTimes$LateWord;", false)
  | 7 => ("LineTimes$Line", "runs", "[Z", true)
  | 8 => ("LineTimes$Line", "arrivals", "[[I", true)
  | 9 => ("LineTimes$Line", "departures", "[[I", true)
  | _ => ("LineTimes$Line", "lateBy", "[I", true)
def tyX3 : Nat → FieldType := fun k => match k with
  | 0 => .int
  | 1 => .array .int
  | 2 => .array .int
  | 3 => .array .int
  | 4 => .int
  | 5 => .object "LineTimes$DayWord"
  | 6 => .object "LineTimes$LateWord"
  | 7 => .array .boolean
  | 8 => .array (.array .int)
  | 9 => .array (.array .int)
  | _ => .array .int
abbrev wsX30 : List Cond := u_ws RX3 TX3 11
theorem nmX3 : ∀ a, a < 11 → ∀ b, b < 11 → a ≠ b → (TX3 a).2.1 ≠ (TX3 b).2.1 := by decide +kernel
theorem tyX3_ok : ∀ k, k < 11 → parseFieldDescriptor (TX3 k).2.2.1 = some (tyX3 k) := by decide +kernel
abbrev cX3_init : ByteArray := prog_5_method_1_code
def yX3_init : MethodName := ⟨RX3, "<init>", "(I)V"⟩
abbrev cX3_hasRoom : ByteArray := prog_5_method_2_code
def yX3_hasRoom : MethodName := ⟨RX3, "hasRoom", "()Z"⟩
abbrev cX3_lastLeaving : ByteArray := prog_5_method_3_code
def yX3_lastLeaving : MethodName := ⟨RX3, "lastLeaving", "()I"⟩
abbrev cX3_addStop : ByteArray := prog_5_method_4_code
def yX3_addStop : MethodName := ⟨RX3, "addStop", "(III)V"⟩
abbrev cX3_wordFor : ByteArray := prog_5_method_5_code
def yX3_wordFor : MethodName := ⟨RX3, "wordFor", "(I)LLineTimes$DayWord;"⟩
abbrev cX3_workOutRuns : ByteArray := prog_5_method_6_code
def yX3_workOutRuns : MethodName := ⟨RX3, "workOutRuns", "(I[LLineTimes$Place;)V"⟩
abbrev cX3_runsOn : ByteArray := prog_5_method_7_code
def yX3_runsOn : MethodName := ⟨RX3, "runsOn", "(I)Z"⟩
abbrev cX3_workOutTimes : ByteArray := prog_5_method_8_code
def yX3_workOutTimes : MethodName := ⟨RX3, "workOutTimes", "(II[LLineTimes$Place;)V"⟩
abbrev cX3_gatherLate : ByteArray := prog_5_method_9_code
def yX3_gatherLate : MethodName := ⟨RX3, "gatherLate", "(I)V"⟩
def RX4 : String := "LineTimes$Net"
def TX4 : u_T := fun k => match k with
  | 0 => ("LineTimes$Net", "lines", "Ljava/util/List;", true)
  | 1 => ("LineTimes$Net", "places", "[LLineTimes$Place;", true)
  | 2 => ("LineTimes$Net", "arrivals", "[[I", true)
  | 3 => ("LineTimes$Net", "soonest", "[I", true)
  | _ => ("LineTimes$Net", "firstDay", "I", false)
def tyX4 : Nat → FieldType := fun k => match k with
  | 0 => .object "java/util/List"
  | 1 => .array (.object "LineTimes$Place")
  | 2 => .array (.array .int)
  | 3 => .array .int
  | _ => .int
abbrev wsX40 : List Cond := u_ws RX4 TX4 5
theorem nmX4 : ∀ a, a < 5 → ∀ b, b < 5 → a ≠ b → (TX4 a).2.1 ≠ (TX4 b).2.1 := by decide +kernel
theorem tyX4_ok : ∀ k, k < 5 → parseFieldDescriptor (TX4 k).2.2.1 = some (tyX4 k) := by decide +kernel
abbrev cX4_init : ByteArray := prog_6_method_1_code
def yX4_init : MethodName := ⟨RX4, "<init>", "()V"⟩
abbrev cX4_findBest : ByteArray := prog_6_method_2_code
def yX4_findBest : MethodName := ⟨RX4, "findBest", "(III)I"⟩
abbrev cX4_workOutRuns : ByteArray := prog_6_method_3_code
def yX4_workOutRuns : MethodName := ⟨RX4, "workOutRuns", "(I)V"⟩
abbrev cX4_spread : ByteArray := prog_6_method_4_code
def yX4_spread : MethodName := ⟨RX4, "spread", "(II)Z"⟩
abbrev cX4_ride : ByteArray := prog_6_method_5_code
def yX4_ride : MethodName := ⟨RX4, "ride", "(LLineTimes$Line;III)Z"⟩
abbrev cX4_canEnter : ByteArray := prog_6_method_6_code
def yX4_canEnter : MethodName := ⟨RX4, "canEnter", "(III)Z"⟩
abbrev cX4_tell : ByteArray := prog_6_method_7_code
def yX4_tell : MethodName := ⟨RX4, "tell", "(LLineTimes$Way;II)V"⟩
abbrev cX4_tellLastLeg : ByteArray := prog_6_method_8_code
def yX4_tellLastLeg : MethodName := ⟨RX4, "tellLastLeg", "([III)I"⟩
abbrev cX4_findLeg : ByteArray := prog_6_method_9_code
def yX4_findLeg : MethodName := ⟨RX4, "findLeg", "([ILLineTimes$Line;III)Z"⟩
abbrev cX4_findEntry : ByteArray := prog_6_method_10_code
def yX4_findEntry : MethodName := ⟨RX4, "findEntry", "(LLineTimes$Line;III)I"⟩
abbrev cX4_gather : ByteArray := prog_6_method_11_code
def yX4_gather : MethodName := ⟨RX4, "gather", "(LLineTimes$Leavings;III)V"⟩
abbrev cX4_gatherRun : ByteArray := prog_6_method_12_code
def yX4_gatherRun : MethodName := ⟨RX4, "gatherRun", "(LLineTimes$Leavings;LLineTimes$Line;IIII)V"⟩
def RX5 : String := "LineTimes$Place"
def TX5 : u_T := fun k => match k with
  | 0 => ("LineTimes$Place", "latest", "LLineTimes$ZoneRow;", false)
  | 1 => ("LineTimes$Place", "rowCount", "I", false)
  | _ => ("LineTimes$Place", "changeSeconds", "I", false)
def tyX5 : Nat → FieldType := fun k => match k with
  | 0 => .object "LineTimes$ZoneRow"
  | 1 => .int
  | _ => .int
abbrev wsX50 : List Cond := u_ws RX5 TX5 3
theorem nmX5 : ∀ a, a < 3 → ∀ b, b < 3 → a ≠ b → (TX5 a).2.1 ≠ (TX5 b).2.1 := by decide +kernel
theorem tyX5_ok : ∀ k, k < 3 → parseFieldDescriptor (TX5 k).2.2.1 = some (tyX5 k) := by decide +kernel
abbrev cX5_init : ByteArray := prog_7_method_1_code
def yX5_init : MethodName := ⟨RX5, "<init>", "()V"⟩
abbrev cX5_rowFrom : ByteArray := prog_7_method_2_code
def yX5_rowFrom : MethodName := ⟨RX5, "rowFrom", "(I)LLineTimes$ZoneRow;"⟩
abbrev cX5_addRow : ByteArray := prog_7_method_3_code
def yX5_addRow : MethodName := ⟨RX5, "addRow", "(II)V"⟩
abbrev cX5_minutesAt : ByteArray := prog_7_method_4_code
def yX5_minutesAt : MethodName := ⟨RX5, "minutesAt", "(I)I"⟩
def RX6 : String := "LineTimes$Text"
def TX6 : u_T := fun k => match k with
  | 0 => ("LineTimes$Text", "came", "Ljava/util/List;", true)
  | 1 => ("LineTimes$Text", "length", "I", false)
  | 2 => ("LineTimes$Text", "signs", "[C", true)
  | 3 => ("LineTimes$Text", "at", "I", false)
  | 4 => ("LineTimes$Text", "fault", "I", false)
  | _ => ("LineTimes$Text", "room", "I", false)
def tyX6 : Nat → FieldType := fun k => match k with
  | 0 => .object "java/util/List"
  | 1 => .int
  | 2 => .array .char
  | 3 => .int
  | 4 => .int
  | _ => .int
abbrev wsX60 : List Cond := u_ws RX6 TX6 6
theorem nmX6 : ∀ a, a < 6 → ∀ b, b < 6 → a ≠ b → (TX6 a).2.1 ≠ (TX6 b).2.1 := by decide +kernel
theorem tyX6_ok : ∀ k, k < 6 → parseFieldDescriptor (TX6 k).2.2.1 = some (tyX6 k) := by decide +kernel
abbrev cX6_init : ByteArray := prog_8_method_1_code
def yX6_init : MethodName := ⟨RX6, "<init>", "()V"⟩
abbrev cX6_add : ByteArray := prog_8_method_2_code
def yX6_add : MethodName := ⟨RX6, "add", "(C)V"⟩
abbrev cX6_clear : ByteArray := prog_8_method_3_code
def yX6_clear : MethodName := ⟨RX6, "clear", "()V"⟩
abbrev cX6_parse : ByteArray := prog_8_method_4_code
def yX6_parse : MethodName := ⟨RX6, "parse", "(I)I"⟩
abbrev cX6_parseItem : ByteArray := prog_8_method_5_code
def yX6_parseItem : MethodName := ⟨RX6, "parseItem", "()V"⟩
abbrev cX6_lastHasRoom : ByteArray := prog_8_method_6_code
def yX6_lastHasRoom : MethodName := ⟨RX6, "lastHasRoom", "()Z"⟩
abbrev cX6_parseLine : ByteArray := prog_8_method_7_code
def yX6_parseLine : MethodName := ⟨RX6, "parseLine", "()V"⟩
abbrev cX6_parseStop : ByteArray := prog_8_method_8_code
def yX6_parseStop : MethodName := ⟨RX6, "parseStop", "(LLineTimes$Line;)V"⟩
abbrev cX6_stands : ByteArray := prog_8_method_9_code
def yX6_stands : MethodName := ⟨RX6, "stands", "(C)Z"⟩
abbrev cX6_parseSign : ByteArray := prog_8_method_10_code
def yX6_parseSign : MethodName := ⟨RX6, "parseSign", "(C)V"⟩
abbrev cX6_parseNumber : ByteArray := prog_8_method_11_code
def yX6_parseNumber : MethodName := ⟨RX6, "parseNumber", "(II)I"⟩
def RX7 : String := "LineTimes$Way"
def TX7 : u_T := fun k => match k with
  | 0 => ("LineTimes$Way", "legs", "[[I", true)
  | _ => ("LineTimes$Way", "legCount", "I", false)
def tyX7 : Nat → FieldType := fun k => match k with
  | 0 => .array (.array .int)
  | _ => .int
abbrev wsX70 : List Cond := u_ws RX7 TX7 2
theorem nmX7 : ∀ a, a < 2 → ∀ b, b < 2 → a ≠ b → (TX7 a).2.1 ≠ (TX7 b).2.1 := by decide +kernel
theorem tyX7_ok : ∀ k, k < 2 → parseFieldDescriptor (TX7 k).2.2.1 = some (tyX7 k) := by decide +kernel
abbrev cX7_init : ByteArray := prog_9_method_1_code
def yX7_init : MethodName := ⟨RX7, "<init>", "()V"⟩
def RX8 : String := "LineTimes$ZoneRow"
def TX8 : u_T := fun k => match k with
  | 0 => ("LineTimes$ZoneRow", "from", "I", true)
  | 1 => ("LineTimes$ZoneRow", "minutes", "I", false)
  | _ => ("LineTimes$ZoneRow", "earlier", "LLineTimes$ZoneRow;", false)
def tyX8 : Nat → FieldType := fun k => match k with
  | 0 => .int
  | 1 => .int
  | _ => .object "LineTimes$ZoneRow"
abbrev wsX80 : List Cond := u_ws RX8 TX8 3
theorem nmX8 : ∀ a, a < 3 → ∀ b, b < 3 → a ≠ b → (TX8 a).2.1 ≠ (TX8 b).2.1 := by decide +kernel
theorem tyX8_ok : ∀ k, k < 3 → parseFieldDescriptor (TX8 k).2.2.1 = some (tyX8 k) := by decide +kernel
abbrev cX8_init : ByteArray := prog_10_method_1_code
def yX8_init : MethodName := ⟨RX8, "<init>", "(IILLineTimes$ZoneRow;)V"⟩
def RX9 : String := "LineTimes"
def TX9 : u_T := fun k => match k with
  | 0 => ("LineTimes", "net", "LLineTimes$Net;", true)
  | 1 => ("LineTimes", "way", "LLineTimes$Way;", true)
  | 2 => ("LineTimes", "leavings", "LLineTimes$Leavings;", true)
  | 3 => ("LineTimes", "text", "LLineTimes$Text;", true)
  | 4 => ("LineTimes", "exceptionCount", "I", false)
  | 5 => ("LineTimes", "zoneCount", "I", false)
  | _ => ("LineTimes", "lateCount", "I", false)
def tyX9 : Nat → FieldType := fun k => match k with
  | 0 => .object "LineTimes$Net"
  | 1 => .object "LineTimes$Way"
  | 2 => .object "LineTimes$Leavings"
  | 3 => .object "LineTimes$Text"
  | 4 => .int
  | 5 => .int
  | _ => .int
abbrev wsX90 : List Cond := u_ws RX9 TX9 7
theorem nmX9 : ∀ a, a < 7 → ∀ b, b < 7 → a ≠ b → (TX9 a).2.1 ≠ (TX9 b).2.1 := by decide +kernel
theorem tyX9_ok : ∀ k, k < 7 → parseFieldDescriptor (TX9 k).2.2.1 = some (tyX9 k) := by decide +kernel
abbrev cX9_init : ByteArray := prog_1_method_1_code
def yX9_init : MethodName := ⟨RX9, "<init>", "()V"⟩
abbrev cX9_line : ByteArray := prog_1_method_2_code
def yX9_line : MethodName := ⟨RX9, "line", "(I)I"⟩
abbrev cX9_stop : ByteArray := prog_1_method_3_code
def yX9_stop : MethodName := ⟨RX9, "stop", "(IIJJ)I"⟩
abbrev cX9_exception : ByteArray := prog_1_method_4_code
def yX9_exception : MethodName := ⟨RX9, "exception", "(IJZ)I"⟩
abbrev cX9_zone : ByteArray := prog_1_method_5_code
def yX9_zone : MethodName := ⟨RX9, "zone", "(IJI)I"⟩
abbrev cX9_least : ByteArray := prog_1_method_6_code
def yX9_least : MethodName := ⟨RX9, "least", "(IJ)I"⟩
abbrev cX9_change : ByteArray := prog_1_method_7_code
def yX9_change : MethodName := ⟨RX9, "change", "(IIJJ)I"⟩
abbrev cX9_earliest : ByteArray := prog_1_method_8_code
def yX9_earliest : MethodName := ⟨RX9, "earliest", "(IIJ)J"⟩
abbrev cX9_step : ByteArray := prog_1_method_9_code
def yX9_step : MethodName := ⟨RX9, "step", "(II)I"⟩
abbrev cX9_days : ByteArray := prog_1_method_10_code
def yX9_days : MethodName := ⟨RX9, "days", "(II)I"⟩
abbrev cX9_next : ByteArray := prog_1_method_11_code
def yX9_next : MethodName := ⟨RX9, "next", "(IIJI)I"⟩
abbrev cX9_sign : ByteArray := prog_1_method_12_code
def yX9_sign : MethodName := ⟨RX9, "sign", "(I)V"⟩
abbrev cX9_read : ByteArray := prog_1_method_13_code
def yX9_read : MethodName := ⟨RX9, "read", "()I"⟩
abbrev cX9_isLeap : ByteArray := prog_1_method_14_code
def yX9_isLeap : MethodName := ⟨RX9, "isLeap", "(I)Z"⟩
abbrev cX9_requireJourney : ByteArray := prog_1_method_15_code
def yX9_requireJourney : MethodName := ⟨RX9, "requireJourney", "(IIJ)V"⟩
abbrev cX9_requireIndex : ByteArray := prog_1_method_16_code
def yX9_requireIndex : MethodName := ⟨RX9, "requireIndex", "(II)V"⟩
abbrev cX9_requireRange : ByteArray := prog_1_method_17_code
def yX9_requireRange : MethodName := ⟨RX9, "requireRange", "(JJJ)V"⟩
abbrev cX9_requireRoom : ByteArray := prog_1_method_18_code
def yX9_requireRoom : MethodName := ⟨RX9, "requireRoom", "(Z)V"⟩
def RX10 : String := "LineTimesModel"
def TX10 : u_T := fun k => match k with
  | 0 => ("LineTimesModel", "thrown", "I", false)
  | 1 => ("LineTimesModel", "lines", "I", false)
  | 2 => ("LineTimesModel", "days", "[I", true)
  | 3 => ("LineTimesModel", "many", "[I", true)
  | 4 => ("LineTimesModel", "places", "[I", true)
  | 5 => ("LineTimesModel", "arrives", "[J", true)
  | 6 => ("LineTimesModel", "leaves", "[J", true)
  | 7 => ("LineTimesModel", "exceptions", "I", false)
  | 8 => ("LineTimesModel", "exceptLine", "[I", true)
  | 9 => ("LineTimesModel", "exceptDay", "[J", true)
  | 10 => ("LineTimesModel", "exceptRuns", "[Z", true)
  | 11 => ("LineTimesModel", "zones", "I", false)
  | 12 => ("LineTimesModel", "zonePlace", "[I", true)
  | 13 => ("LineTimesModel", "zoneFrom", "[J", true)
  | 14 => ("LineTimesModel", "zoneMinutes", "[I", true)
  | 15 => ("LineTimesModel", "lates", "I", false)
  | 16 => ("LineTimesModel", "lateLine", "[I", true)
  | 17 => ("LineTimesModel", "lateStop", "[I", true)
  | 18 => ("LineTimesModel", "lateBy", "[J", true)
  | 19 => ("LineTimesModel", "lateDay", "[J", true)
  | 20 => ("LineTimesModel", "changes", "[I", true)
  | 21 => ("LineTimesModel", "earliest", "[J", true)
  | 22 => ("LineTimesModel", "legs", "I", false)
  | 23 => ("LineTimesModel", "legLine", "[I", true)
  | 24 => ("LineTimesModel", "legDay", "[J", true)
  | 25 => ("LineTimesModel", "legOn", "[I", true)
  | 26 => ("LineTimesModel", "legOff", "[I", true)
  | 27 => ("LineTimesModel", "written", "I", false)
  | 28 => ("LineTimesModel", "text", "[I", true)
  | 29 => ("LineTimesModel", "in", "[J", true)
  | 30 => ("LineTimesModel", "out", "[J", true)
  | 31 => ("LineTimesModel", "legTimes", "[I", true)
  | 32 => ("LineTimesModel", "told", "[J", true)
  | 33 => ("LineTimesModel", "best", "[J", true)
  | 34 => ("LineTimesModel", "probe", "[J", true)
  | 35 => ("LineTimesModel", "at", "I", false)
  | _ => ("LineTimesModel", "fault", "I", false)
def tyX10 : Nat → FieldType := fun k => match k with
  | 0 => .int
  | 1 => .int
  | 2 => .array .int
  | 3 => .array .int
  | 4 => .array .int
  | 5 => .array .long
  | 6 => .array .long
  | 7 => .int
  | 8 => .array .int
  | 9 => .array .long
  | 10 => .array .boolean
  | 11 => .int
  | 12 => .array .int
  | 13 => .array .long
  | 14 => .array .int
  | 15 => .int
  | 16 => .array .int
  | 17 => .array .int
  | 18 => .array .long
  | 19 => .array .long
  | 20 => .array .int
  | 21 => .array .long
  | 22 => .int
  | 23 => .array .int
  | 24 => .array .long
  | 25 => .array .int
  | 26 => .array .int
  | 27 => .int
  | 28 => .array .int
  | 29 => .array .long
  | 30 => .array .long
  | 31 => .array .int
  | 32 => .array .long
  | 33 => .array .long
  | 34 => .array .long
  | 35 => .int
  | _ => .int
abbrev wsX100 : List Cond := u_ws RX10 TX10 37
theorem nmX10 : ∀ a, a < 37 → ∀ b, b < 37 → a ≠ b → (TX10 a).2.1 ≠ (TX10 b).2.1 := by decide +kernel
theorem tyX10_ok : ∀ k, k < 37 → parseFieldDescriptor (TX10 k).2.2.1 = some (tyX10 k) := by decide +kernel
abbrev cX10_init : ByteArray := prog_12_method_1_code
def yX10_init : MethodName := ⟨RX10, "<init>", "()V"⟩
abbrev cX10_thrown : ByteArray := prog_12_method_2_code
def yX10_thrown : MethodName := ⟨RX10, "thrown", "()I"⟩
abbrev cX10_refused : ByteArray := prog_12_method_3_code
def yX10_refused : MethodName := ⟨RX10, "refused", "(ZZZ)Z"⟩
abbrev cX10_within : ByteArray := prog_12_method_4_code
def yX10_within : MethodName := ⟨RX10, "within", "(JJJ)Z"⟩
abbrev cX10_isPlace : ByteArray := prog_12_method_5_code
def yX10_isPlace : MethodName := ⟨RX10, "isPlace", "(I)Z"⟩
abbrev cX10_isLine : ByteArray := prog_12_method_6_code
def yX10_isLine : MethodName := ⟨RX10, "isLine", "(I)Z"⟩
abbrev cX10_line : ByteArray := prog_12_method_7_code
def yX10_line : MethodName := ⟨RX10, "line", "(I)I"⟩
abbrev cX10_addStop : ByteArray := prog_12_method_8_code
def yX10_addStop : MethodName := ⟨RX10, "addStop", "(IIJJ)V"⟩
abbrev cX10_stop : ByteArray := prog_12_method_9_code
def yX10_stop : MethodName := ⟨RX10, "stop", "(IIJJ)I"⟩
abbrev cX10_exception : ByteArray := prog_12_method_10_code
def yX10_exception : MethodName := ⟨RX10, "exception", "(IJZ)I"⟩
abbrev cX10_zone : ByteArray := prog_12_method_11_code
def yX10_zone : MethodName := ⟨RX10, "zone", "(IJI)I"⟩
abbrev cX10_least : ByteArray := prog_12_method_12_code
def yX10_least : MethodName := ⟨RX10, "least", "(IJ)I"⟩
abbrev cX10_change : ByteArray := prog_12_method_13_code
def yX10_change : MethodName := ⟨RX10, "change", "(IIJJ)I"⟩
abbrev cX10_runs : ByteArray := prog_12_method_14_code
def yX10_runs : MethodName := ⟨RX10, "runs", "(IJ)Z"⟩
abbrev cX10_minutesAt : ByteArray := prog_12_method_15_code
def yX10_minutesAt : MethodName := ⟨RX10, "minutesAt", "(IJ)I"⟩
abbrev cX10_lateAt : ByteArray := prog_12_method_16_code
def yX10_lateAt : MethodName := ⟨RX10, "lateAt", "(IIJ)J"⟩
abbrev cX10_timeAt : ByteArray := prog_12_method_17_code
def yX10_timeAt : MethodName := ⟨RX10, "timeAt", "(IJIZ)J"⟩
abbrev cX10_take : ByteArray := prog_12_method_18_code
def yX10_take : MethodName := ⟨RX10, "take", "(IJ)Z"⟩
abbrev cX10_isLeg : ByteArray := prog_12_method_19_code
def yX10_isLeg : MethodName := ⟨RX10, "isLeg", "(II)Z"⟩
abbrev cX10_ready : ByteArray := prog_12_method_20_code
def yX10_ready : MethodName := ⟨RX10, "ready", "(IIIJ)J"⟩
abbrev cX10_round : ByteArray := prog_12_method_21_code
def yX10_round : MethodName := ⟨RX10, "round", "(IIJ)V"⟩
abbrev cX10_choose : ByteArray := prog_12_method_22_code
def yX10_choose : MethodName := ⟨RX10, "choose", "(IIIJ)V"⟩
abbrev cX10_earliest : ByteArray := prog_12_method_23_code
def yX10_earliest : MethodName := ⟨RX10, "earliest", "(IIJ)J"⟩
abbrev cX10_step : ByteArray := prog_12_method_24_code
def yX10_step : MethodName := ⟨RX10, "step", "(II)I"⟩
abbrev cX10_keepTimes : ByteArray := prog_12_method_25_code
def yX10_keepTimes : MethodName := ⟨RX10, "keepTimes", "()V"⟩
abbrev cX10_days : ByteArray := prog_12_method_26_code
def yX10_days : MethodName := ⟨RX10, "days", "(II)I"⟩
abbrev cX10_order : ByteArray := prog_12_method_27_code
def yX10_order : MethodName := ⟨RX10, "order", "([J[J)I"⟩
abbrev cX10_goOn : ByteArray := prog_12_method_28_code
def yX10_goOn : MethodName := ⟨RX10, "goOn", "(IIJZ)Z"⟩
abbrev cX10_next : ByteArray := prog_12_method_29_code
def yX10_next : MethodName := ⟨RX10, "next", "(IIJI)I"⟩
abbrev cX10_sign : ByteArray := prog_12_method_30_code
def yX10_sign : MethodName := ⟨RX10, "sign", "(I)V"⟩
abbrev cX10_fail : ByteArray := prog_12_method_31_code
def yX10_fail : MethodName := ⟨RX10, "fail", "(I)V"⟩
abbrev cX10_look : ByteArray := prog_12_method_32_code
def yX10_look : MethodName := ⟨RX10, "look", "()I"⟩
abbrev cX10_number : ByteArray := prog_12_method_33_code
def yX10_number : MethodName := ⟨RX10, "number", "(I)I"⟩
abbrev cX10_blank : ByteArray := prog_12_method_34_code
def yX10_blank : MethodName := ⟨RX10, "blank", "()V"⟩
abbrev cX10_readStop : ByteArray := prog_12_method_35_code
def yX10_readStop : MethodName := ⟨RX10, "readStop", "(I)V"⟩
abbrev cX10_read : ByteArray := prog_12_method_36_code
def yX10_read : MethodName := ⟨RX10, "read", "()I"⟩
def RJx145de : String := "java/io/Serializable"
def TJx145de : u_T := fun k => match k with
  | _ => ("", "", "", false)
def tyJx145de : Nat → FieldType := fun k => match k with
  | _ => .int
abbrev wsJx145de0 : List Cond := u_ws RJx145de TJx145de 0
theorem nmJx145de : ∀ a, a < 0 → ∀ b, b < 0 → a ≠ b → (TJx145de a).2.1 ≠ (TJx145de b).2.1 := by decide +kernel
theorem tyJx145de_ok : ∀ k, k < 0 → parseFieldDescriptor (TJx145de k).2.2.1 = some (tyJx145de k) := by decide +kernel
def RJx00060 : String := "java/lang/ArrayIndexOutOfBoundsException"
def TJx00060 : u_T := fun k => match k with
  | 0 => ("java/lang/Throwable", "cause", "Ljava/lang/Throwable;", false)
  | 1 => ("java/lang/Throwable", "stackTrace", "[Ljava/lang/StackTraceElement;", false)
  | 2 => ("java/lang/Throwable", "suppressedExceptions", "Ljava/util/List;", false)
  | 3 => ("java/lang/Throwable", "detailMessage", "Ljava/lang/String;", false)
  | 4 => ("java/lang/Throwable", "backtrace", "Ljava/lang/Object;", false)
  | _ => ("java/lang/Throwable", "depth", "I", false)
def tyJx00060 : Nat → FieldType := fun k => match k with
  | 0 => .object "java/lang/Throwable"
  | 1 => .array (.object "java/lang/StackTraceElement")
  | 2 => .object "java/util/List"
  | 3 => .object "java/lang/String"
  | 4 => .object "java/lang/Object"
  | _ => .int
abbrev wsJx000600 : List Cond := u_ws RJx00060 TJx00060 6
theorem nmJx00060 : ∀ a, a < 6 → ∀ b, b < 6 → a ≠ b → (TJx00060 a).2.1 ≠ (TJx00060 b).2.1 := by decide +kernel
theorem tyJx00060_ok : ∀ k, k < 6 → parseFieldDescriptor (TJx00060 k).2.2.1 = some (tyJx00060 k) := by decide +kernel
abbrev cJx00060_init_a7421 : ByteArray := prog_14_method_2_code
def yJx00060_init_a7421 : MethodName := ⟨RJx00060, "<init>", "(Ljava/lang/String;)V"⟩
def RJx8e188 : String := "java/lang/Cloneable"
def TJx8e188 : u_T := fun k => match k with
  | _ => ("", "", "", false)
def tyJx8e188 : Nat → FieldType := fun k => match k with
  | _ => .int
abbrev wsJx8e1880 : List Cond := u_ws RJx8e188 TJx8e188 0
theorem nmJx8e188 : ∀ a, a < 0 → ∀ b, b < 0 → a ≠ b → (TJx8e188 a).2.1 ≠ (TJx8e188 b).2.1 := by decide +kernel
theorem tyJx8e188_ok : ∀ k, k < 0 → parseFieldDescriptor (TJx8e188 k).2.2.1 = some (tyJx8e188 k) := by decide +kernel
def RJxab1ab : String := "java/lang/Iterable"
def TJxab1ab : u_T := fun k => match k with
  | _ => ("", "", "", false)
def tyJxab1ab : Nat → FieldType := fun k => match k with
  | _ => .int
abbrev wsJxab1ab0 : List Cond := u_ws RJxab1ab TJxab1ab 0
theorem nmJxab1ab : ∀ a, a < 0 → ∀ b, b < 0 → a ≠ b → (TJxab1ab a).2.1 ≠ (TJxab1ab b).2.1 := by decide +kernel
theorem tyJxab1ab_ok : ∀ k, k < 0 → parseFieldDescriptor (TJxab1ab k).2.2.1 = some (tyJxab1ab k) := by decide +kernel
def RJ9 : String := "java/lang/Math"
def TJ9 : u_T := fun k => match k with
  | _ => ("", "", "", false)
def tyJ9 : Nat → FieldType := fun k => match k with
  | _ => .int
abbrev wsJ90 : List Cond := u_ws RJ9 TJ9 0
theorem nmJ9 : ∀ a, a < 0 → ∀ b, b < 0 → a ≠ b → (TJ9 a).2.1 ≠ (TJ9 b).2.1 := by decide +kernel
theorem tyJ9_ok : ∀ k, k < 0 → parseFieldDescriptor (TJ9 k).2.2.1 = some (tyJ9 k) := by decide +kernel
abbrev cJ9_max_7cf53 : ByteArray := prog_20_method_65_code
def yJ9_max_7cf53 : MethodName := ⟨RJ9, "max", "(II)I"⟩
abbrev cJ9_min_7cf53 : ByteArray := prog_20_method_69_code
def yJ9_min_7cf53 : MethodName := ⟨RJ9, "min", "(II)I"⟩
def RJ0 : String := "java/lang/String"
def TJ0 : u_T := fun k => match k with
  | _ => ("", "", "", false)
def tyJ0 : Nat → FieldType := fun k => match k with
  | _ => .int
abbrev wsJ00 : List Cond := u_ws RJ0 TJ0 0
theorem nmJ0 : ∀ a, a < 0 → ∀ b, b < 0 → a ≠ b → (TJ0 a).2.1 ≠ (TJ0 b).2.1 := by decide +kernel
theorem tyJ0_ok : ∀ k, k < 0 → parseFieldDescriptor (TJ0 k).2.2.1 = some (tyJ0 k) := by decide +kernel
def RJ10 : String := "java/lang/System"
def TJ10 : u_T := fun k => match k with
  | _ => ("", "", "", false)
def tyJ10 : Nat → FieldType := fun k => match k with
  | _ => .int
abbrev wsJ100 : List Cond := u_ws RJ10 TJ10 0
theorem nmJ10 : ∀ a, a < 0 → ∀ b, b < 0 → a ≠ b → (TJ10 a).2.1 ≠ (TJ10 b).2.1 := by decide +kernel
theorem tyJ10_ok : ∀ k, k < 0 → parseFieldDescriptor (TJ10 k).2.2.1 = some (tyJ10 k) := by decide +kernel
def RJxa1e45 : String := "java/util/AbstractCollection"
def TJxa1e45 : u_T := fun k => match k with
  | _ => ("", "", "", false)
def tyJxa1e45 : Nat → FieldType := fun k => match k with
  | _ => .int
abbrev wsJxa1e450 : List Cond := u_ws RJxa1e45 TJxa1e45 0
theorem nmJxa1e45 : ∀ a, a < 0 → ∀ b, b < 0 → a ≠ b → (TJxa1e45 a).2.1 ≠ (TJxa1e45 b).2.1 := by decide +kernel
theorem tyJxa1e45_ok : ∀ k, k < 0 → parseFieldDescriptor (TJxa1e45 k).2.2.1 = some (tyJxa1e45 k) := by decide +kernel
abbrev cJxa1e45_init_da8c8 : ByteArray := prog_26_method_1_code
def yJxa1e45_init_da8c8 : MethodName := ⟨RJxa1e45, "<init>", "()V"⟩
def RJxc12de : String := "java/util/AbstractList"
def TJxc12de : u_T := fun k => match k with
  | _ => ("", "", "", false)
def tyJxc12de : Nat → FieldType := fun k => match k with
  | _ => .int
abbrev wsJxc12de0 : List Cond := u_ws RJxc12de TJxc12de 0
theorem nmJxc12de : ∀ a, a < 0 → ∀ b, b < 0 → a ≠ b → (TJxc12de a).2.1 ≠ (TJxc12de b).2.1 := by decide +kernel
theorem tyJxc12de_ok : ∀ k, k < 0 → parseFieldDescriptor (TJxc12de k).2.2.1 = some (tyJxc12de k) := by decide +kernel
abbrev cJxc12de_init_da8c8 : ByteArray := prog_27_method_1_code
def yJxc12de_init_da8c8 : MethodName := ⟨RJxc12de, "<init>", "()V"⟩
def RJx4a65c : String := "java/util/ArrayList"
def TJx4a65c : u_T := fun k => match k with
  | 0 => ("java/util/AbstractList", "modCount", "I", false)
  | 1 => ("java/util/ArrayList", "elementData", "[Ljava/lang/Object;", false)
  | _ => ("java/util/ArrayList", "size", "I", false)
def tyJx4a65c : Nat → FieldType := fun k => match k with
  | 0 => .int
  | 1 => .array (.object "java/lang/Object")
  | _ => .int
abbrev wsJx4a65c0 : List Cond := u_ws RJx4a65c TJx4a65c 3
theorem nmJx4a65c : ∀ a, a < 3 → ∀ b, b < 3 → a ≠ b → (TJx4a65c a).2.1 ≠ (TJx4a65c b).2.1 := by decide +kernel
theorem tyJx4a65c_ok : ∀ k, k < 3 → parseFieldDescriptor (TJx4a65c k).2.2.1 = some (tyJx4a65c k) := by decide +kernel
abbrev cJx4a65c_init_da8c8 : ByteArray := prog_28_method_2_code
def yJx4a65c_init_da8c8 : MethodName := ⟨RJx4a65c, "<init>", "()V"⟩
abbrev cJx4a65c_grow_92f84 : ByteArray := prog_28_method_6_code
def yJx4a65c_grow_92f84 : MethodName := ⟨RJx4a65c, "grow", "(I)[Ljava/lang/Object;"⟩
abbrev cJx4a65c_grow_d5877 : ByteArray := prog_28_method_7_code
def yJx4a65c_grow_d5877 : MethodName := ⟨RJx4a65c, "grow", "()[Ljava/lang/Object;"⟩
abbrev cJx4a65c_size_8abf5 : ByteArray := prog_28_method_8_code
def yJx4a65c_size_8abf5 : MethodName := ⟨RJx4a65c, "size", "()I"⟩
abbrev cJx4a65c_isEmpty_aae02 : ByteArray := prog_28_method_9_code
def yJx4a65c_isEmpty_aae02 : MethodName := ⟨RJx4a65c, "isEmpty", "()Z"⟩
abbrev cJx4a65c_elementData_915e3 : ByteArray := prog_28_method_18_code
def yJx4a65c_elementData_915e3 : MethodName := ⟨RJx4a65c, "elementData", "(I)Ljava/lang/Object;"⟩
abbrev cJx4a65c_get_915e3 : ByteArray := prog_28_method_20_code
def yJx4a65c_get_915e3 : MethodName := ⟨RJx4a65c, "get", "(I)Ljava/lang/Object;"⟩
abbrev cJx4a65c_add_72be8 : ByteArray := prog_28_method_24_code
def yJx4a65c_add_72be8 : MethodName := ⟨RJx4a65c, "add", "(Ljava/lang/Object;[Ljava/lang/Object;I)V"⟩
abbrev cJx4a65c_add_9ea2d : ByteArray := prog_28_method_25_code
def yJx4a65c_add_9ea2d : MethodName := ⟨RJx4a65c, "add", "(Ljava/lang/Object;)Z"⟩
abbrev cJx4a65c_clear_da8c8 : ByteArray := prog_28_method_40_code
def yJx4a65c_clear_da8c8 : MethodName := ⟨RJx4a65c, "clear", "()V"⟩
def RJ7 : String := "java/util/Arrays"
def TJ7 : u_T := fun k => match k with
  | _ => ("", "", "", false)
def tyJ7 : Nat → FieldType := fun k => match k with
  | _ => .int
abbrev wsJ70 : List Cond := u_ws RJ7 TJ7 0
theorem nmJ7 : ∀ a, a < 0 → ∀ b, b < 0 → a ≠ b → (TJ7 a).2.1 ≠ (TJ7 b).2.1 := by decide +kernel
theorem tyJ7_ok : ∀ k, k < 0 → parseFieldDescriptor (TJ7 k).2.2.1 = some (tyJ7 k) := by decide +kernel
abbrev cJ7_fill_53178 : ByteArray := prog_29_method_103_code
def yJ7_fill_53178 : MethodName := ⟨RJ7, "fill", "([II)V"⟩
abbrev cJ7_copyOf_1904c : ByteArray := prog_29_method_119_code
def yJ7_copyOf_1904c : MethodName := ⟨RJ7, "copyOf", "([Ljava/lang/Object;I)[Ljava/lang/Object;"⟩
abbrev cJ7_copyOf_6403c : ByteArray := prog_29_method_120_code
def yJ7_copyOf_6403c : MethodName := ⟨RJ7, "copyOf", "([Ljava/lang/Object;ILjava/lang/Class;)[Ljava/lang/Object;"⟩
def RJx5ef63 : String := "java/util/Collection"
def TJx5ef63 : u_T := fun k => match k with
  | _ => ("", "", "", false)
def tyJx5ef63 : Nat → FieldType := fun k => match k with
  | _ => .int
abbrev wsJx5ef630 : List Cond := u_ws RJx5ef63 TJx5ef63 0
theorem nmJx5ef63 : ∀ a, a < 0 → ∀ b, b < 0 → a ≠ b → (TJx5ef63 a).2.1 ≠ (TJx5ef63 b).2.1 := by decide +kernel
theorem tyJx5ef63_ok : ∀ k, k < 0 → parseFieldDescriptor (TJx5ef63 k).2.2.1 = some (tyJx5ef63 k) := by decide +kernel
def RJxbd725 : String := "java/util/List"
def TJxbd725 : u_T := fun k => match k with
  | _ => ("", "", "", false)
def tyJxbd725 : Nat → FieldType := fun k => match k with
  | _ => .int
abbrev wsJxbd7250 : List Cond := u_ws RJxbd725 TJxbd725 0
theorem nmJxbd725 : ∀ a, a < 0 → ∀ b, b < 0 → a ≠ b → (TJxbd725 a).2.1 ≠ (TJxbd725 b).2.1 := by decide +kernel
theorem tyJxbd725_ok : ∀ k, k < 0 → parseFieldDescriptor (TJxbd725 k).2.2.1 = some (tyJxbd725 k) := by decide +kernel
def RJ15 : String := "java/util/Objects"
def TJ15 : u_T := fun k => match k with
  | _ => ("", "", "", false)
def tyJ15 : Nat → FieldType := fun k => match k with
  | _ => .int
abbrev wsJ150 : List Cond := u_ws RJ15 TJ15 0
theorem nmJ15 : ∀ a, a < 0 → ∀ b, b < 0 → a ≠ b → (TJ15 a).2.1 ≠ (TJ15 b).2.1 := by decide +kernel
theorem tyJ15_ok : ∀ k, k < 0 → parseFieldDescriptor (TJ15 k).2.2.1 = some (tyJ15 k) := by decide +kernel
abbrev cJ15_checkIndex_7cf53 : ByteArray := prog_32_method_17_code
def yJ15_checkIndex_7cf53 : MethodName := ⟨RJ15, "checkIndex", "(II)I"⟩
def RJxf0a74 : String := "java/util/RandomAccess"
def TJxf0a74 : u_T := fun k => match k with
  | _ => ("", "", "", false)
def tyJxf0a74 : Nat → FieldType := fun k => match k with
  | _ => .int
abbrev wsJxf0a740 : List Cond := u_ws RJxf0a74 TJxf0a74 0
theorem nmJxf0a74 : ∀ a, a < 0 → ∀ b, b < 0 → a ≠ b → (TJxf0a74 a).2.1 ≠ (TJxf0a74 b).2.1 := by decide +kernel
theorem tyJxf0a74_ok : ∀ k, k < 0 → parseFieldDescriptor (TJxf0a74 k).2.2.1 = some (tyJxf0a74 k) := by decide +kernel
def RJxa66e6 : String := "java/util/SequencedCollection"
def TJxa66e6 : u_T := fun k => match k with
  | _ => ("", "", "", false)
def tyJxa66e6 : Nat → FieldType := fun k => match k with
  | _ => .int
abbrev wsJxa66e60 : List Cond := u_ws RJxa66e6 TJxa66e6 0
theorem nmJxa66e6 : ∀ a, a < 0 → ∀ b, b < 0 → a ≠ b → (TJxa66e6 a).2.1 ≠ (TJxa66e6 b).2.1 := by decide +kernel
theorem tyJxa66e6_ok : ∀ k, k < 0 → parseFieldDescriptor (TJxa66e6 k).2.2.1 = some (tyJxa66e6 k) := by decide +kernel
def RJ8 : String := "jdk/internal/util/ArraysSupport"
def TJ8 : u_T := fun k => match k with
  | _ => ("", "", "", false)
def tyJ8 : Nat → FieldType := fun k => match k with
  | _ => .int
abbrev wsJ80 : List Cond := u_ws RJ8 TJ8 0
theorem nmJ8 : ∀ a, a < 0 → ∀ b, b < 0 → a ≠ b → (TJ8 a).2.1 ≠ (TJ8 b).2.1 := by decide +kernel
theorem tyJ8_ok : ∀ k, k < 0 → parseFieldDescriptor (TJ8 k).2.2.1 = some (tyJ8 k) := by decide +kernel
abbrev cJ8_newLength_cabcc : ByteArray := prog_35_method_27_code
def yJ8_newLength_cabcc : MethodName := ⟨RJ8, "newLength", "(III)I"⟩
abbrev cJ8_hugeLength_7cf53 : ByteArray := prog_35_method_28_code
def yJ8_hugeLength_7cf53 : MethodName := ⟨RJ8, "hugeLength", "(II)I"⟩
def RJ3 : String := "jdk/internal/util/Preconditions"
def TJ3 : u_T := fun k => match k with
  | _ => ("", "", "", false)
def tyJ3 : Nat → FieldType := fun k => match k with
  | _ => .int
abbrev wsJ30 : List Cond := u_ws RJ3 TJ3 0
theorem nmJ3 : ∀ a, a < 0 → ∀ b, b < 0 → a ≠ b → (TJ3 a).2.1 ≠ (TJ3 b).2.1 := by decide +kernel
theorem tyJ3_ok : ∀ k, k < 0 → parseFieldDescriptor (TJ3 k).2.2.1 = some (tyJ3 k) := by decide +kernel
abbrev cJ3_checkIndex_8e157 : ByteArray := prog_36_method_11_code
def yJ3_checkIndex_8e157 : MethodName := ⟨RJ3, "checkIndex", "(IILjava/util/function/BiFunction;)I"⟩
def RL : String := "LineTimesLaw"
abbrev cL_line : ByteArray := method_3_code
def yL_line : MethodName := ⟨RL, "line", "(LLineTimes;I[J)I"⟩
abbrev cL_stop : ByteArray := method_4_code
def yL_stop : MethodName := ⟨RL, "stop", "(LLineTimes;IIJJ[J)I"⟩
abbrev cL_exception : ByteArray := method_5_code
def yL_exception : MethodName := ⟨RL, "exception", "(LLineTimes;IJZ[J)I"⟩
abbrev cL_zone : ByteArray := method_6_code
def yL_zone : MethodName := ⟨RL, "zone", "(LLineTimes;IJI[J)I"⟩
abbrev cL_least : ByteArray := method_7_code
def yL_least : MethodName := ⟨RL, "least", "(LLineTimes;IJ[J)I"⟩
abbrev cL_change : ByteArray := method_8_code
def yL_change : MethodName := ⟨RL, "change", "(LLineTimes;IIJJ[J)I"⟩
abbrev cL_earliest : ByteArray := method_9_code
def yL_earliest : MethodName := ⟨RL, "earliest", "(LLineTimes;IIJ[J)I"⟩
abbrev cL_step : ByteArray := method_10_code
def yL_step : MethodName := ⟨RL, "step", "(LLineTimes;II[J)I"⟩
abbrev cL_days : ByteArray := method_11_code
def yL_days : MethodName := ⟨RL, "days", "(LLineTimes;II[J)I"⟩
abbrev cL_next : ByteArray := method_12_code
def yL_next : MethodName := ⟨RL, "next", "(LLineTimes;IIJI[J)I"⟩
abbrev cL_sign : ByteArray := method_13_code
def yL_sign : MethodName := ⟨RL, "sign", "(LLineTimes;I)I"⟩
abbrev cL_law : ByteArray := code
def yL_law : MethodName := ⟨RL, "law", "([I)Z"⟩
end
section
theorem dX0_init_0 : decode cX0_init 0 = .ok (.aload_n 0, 1) := by decide +kernel
theorem dX0_init_1 : decode cX0_init 1 = .ok (.invokespecial 1, 3) := by decide +kernel
theorem dX0_init_4 : decode cX0_init 4 = .ok (.aload_n 0, 1) := by decide +kernel
theorem dX0_init_5 : decode cX0_init 5 = .ok (.iload_n 1, 1) := by decide +kernel
theorem dX0_init_6 : decode cX0_init 6 = .ok (.putfield 7, 3) := by decide +kernel
theorem dX0_init_9 : decode cX0_init 9 = .ok (.aload_n 0, 1) := by decide +kernel
theorem dX0_init_10 : decode cX0_init 10 = .ok (.iload_n 2, 1) := by decide +kernel
theorem dX0_init_11 : decode cX0_init 11 = .ok (.putfield 13, 3) := by decide +kernel
theorem dX0_init_14 : decode cX0_init 14 = .ok (.aload_n 0, 1) := by decide +kernel
theorem dX0_init_15 : decode cX0_init 15 = .ok (.aload_n 3, 1) := by decide +kernel
theorem dX0_init_16 : decode cX0_init 16 = .ok (.putfield 17, 3) := by decide +kernel
theorem dX0_init_19 : decode cX0_init 19 = .ok (.return_, 1) := by decide +kernel
theorem dX1_init_0 : decode cX1_init 0 = .ok (.aload_n 0, 1) := by decide +kernel
theorem dX1_init_1 : decode cX1_init 1 = .ok (.invokespecial 1, 3) := by decide +kernel
theorem dX1_init_4 : decode cX1_init 4 = .ok (.aload_n 0, 1) := by decide +kernel
theorem dX1_init_5 : decode cX1_init 5 = .ok (.iload_n 1, 1) := by decide +kernel
theorem dX1_init_6 : decode cX1_init 6 = .ok (.putfield 7, 3) := by decide +kernel
theorem dX1_init_9 : decode cX1_init 9 = .ok (.aload_n 0, 1) := by decide +kernel
theorem dX1_init_10 : decode cX1_init 10 = .ok (.iload_n 2, 1) := by decide +kernel
theorem dX1_init_11 : decode cX1_init 11 = .ok (.putfield 13, 3) := by decide +kernel
theorem dX1_init_14 : decode cX1_init 14 = .ok (.aload_n 0, 1) := by decide +kernel
theorem dX1_init_15 : decode cX1_init 15 = .ok (.iload_n 3, 1) := by decide +kernel
theorem dX1_init_16 : decode cX1_init 16 = .ok (.putfield 16, 3) := by decide +kernel
theorem dX1_init_19 : decode cX1_init 19 = .ok (.aload_n 0, 1) := by decide +kernel
theorem dX1_init_20 : decode cX1_init 20 = .ok (.aload 4, 2) := by decide +kernel
theorem dX1_init_22 : decode cX1_init 22 = .ok (.putfield 19, 3) := by decide +kernel
theorem dX1_init_25 : decode cX1_init 25 = .ok (.return_, 1) := by decide +kernel
theorem dX2_init_0 : decode cX2_init 0 = .ok (.aload_n 0, 1) := by decide +kernel
theorem dX2_init_1 : decode cX2_init 1 = .ok (.invokespecial 3, 3) := by decide +kernel
theorem dX2_init_4 : decode cX2_init 4 = .ok (.aload_n 0, 1) := by decide +kernel
theorem dX2_init_5 : decode cX2_init 5 = .ok (.bipush 101, 2) := by decide +kernel
theorem dX2_init_7 : decode cX2_init 7 = .ok (.newarray .int, 2) := by decide +kernel
theorem dX2_init_9 : decode cX2_init 9 = .ok (.putfield 9, 3) := by decide +kernel
theorem dX2_init_12 : decode cX2_init 12 = .ok (.return_, 1) := by decide +kernel
theorem dX2_clear_0 : decode cX2_clear 0 = .ok (.aload_n 0, 1) := by decide +kernel
theorem dX2_clear_1 : decode cX2_clear 1 = .ok (.iload_n 1, 1) := by decide +kernel
theorem dX2_clear_2 : decode cX2_clear 2 = .ok (.aload_n 0, 1) := by decide +kernel
theorem dX2_clear_3 : decode cX2_clear 3 = .ok (.getfield 9, 3) := by decide +kernel
theorem dX2_clear_6 : decode cX2_clear 6 = .ok (.arraylength, 1) := by decide +kernel
theorem dX2_clear_7 : decode cX2_clear 7 = .ok (.invokestatic 15, 3) := by decide +kernel
theorem dX2_clear_10 : decode cX2_clear 10 = .ok (.putfield 21, 3) := by decide +kernel
theorem dX2_clear_13 : decode cX2_clear 13 = .ok (.aload_n 0, 1) := by decide +kernel
theorem dX2_clear_14 : decode cX2_clear 14 = .ok (.iconst 0, 1) := by decide +kernel
theorem dX2_clear_15 : decode cX2_clear 15 = .ok (.putfield 25, 3) := by decide +kernel
theorem dX2_clear_18 : decode cX2_clear 18 = .ok (.return_, 1) := by decide +kernel
theorem dX2_note_0 : decode cX2_note 0 = .ok (.aload_n 0, 1) := by decide +kernel
theorem dX2_note_1 : decode cX2_note 1 = .ok (.getfield 25, 3) := by decide +kernel
theorem dX2_note_4 : decode cX2_note 4 = .ok (.aload_n 0, 1) := by decide +kernel
theorem dX2_note_5 : decode cX2_note 5 = .ok (.getfield 21, 3) := by decide +kernel
theorem dX2_note_8 : decode cX2_note 8 = .ok (.if_icmp .ge 16, 3) := by decide +kernel
theorem dX2_note_11 : decode cX2_note 11 = .ok (.aload_n 0, 1) := by decide +kernel
theorem dX2_note_12 : decode cX2_note 12 = .ok (.dup, 1) := by decide +kernel
theorem dX2_note_13 : decode cX2_note 13 = .ok (.getfield 25, 3) := by decide +kernel
theorem dX2_note_16 : decode cX2_note 16 = .ok (.iconst 1, 1) := by decide +kernel
theorem dX2_note_17 : decode cX2_note 17 = .ok (.iadd, 1) := by decide +kernel
theorem dX2_note_18 : decode cX2_note 18 = .ok (.putfield 25, 3) := by decide +kernel
theorem dX2_note_21 : decode cX2_note 21 = .ok (.goto 26, 3) := by decide +kernel
theorem dX2_note_24 : decode cX2_note 24 = .ok (.aload_n 0, 1) := by decide +kernel
theorem dX2_note_25 : decode cX2_note 25 = .ok (.getfield 25, 3) := by decide +kernel
theorem dX2_note_28 : decode cX2_note 28 = .ok (.ifCond .eq 18, 3) := by decide +kernel
theorem dX2_note_31 : decode cX2_note 31 = .ok (.iload_n 1, 1) := by decide +kernel
theorem dX2_note_32 : decode cX2_note 32 = .ok (.aload_n 0, 1) := by decide +kernel
theorem dX2_note_33 : decode cX2_note 33 = .ok (.getfield 9, 3) := by decide +kernel
theorem dX2_note_36 : decode cX2_note 36 = .ok (.aload_n 0, 1) := by decide +kernel
theorem dX2_note_37 : decode cX2_note 37 = .ok (.getfield 25, 3) := by decide +kernel
theorem dX2_note_40 : decode cX2_note 40 = .ok (.iconst 1, 1) := by decide +kernel
theorem dX2_note_41 : decode cX2_note 41 = .ok (.isub, 1) := by decide +kernel
theorem dX2_note_42 : decode cX2_note 42 = .ok (.iaload, 1) := by decide +kernel
theorem dX2_note_43 : decode cX2_note 43 = .ok (.if_icmp .lt 4, 3) := by decide +kernel
theorem dX2_note_46 : decode cX2_note 46 = .ok (.return_, 1) := by decide +kernel
theorem dX2_note_47 : decode cX2_note 47 = .ok (.aload_n 0, 1) := by decide +kernel
theorem dX2_note_48 : decode cX2_note 48 = .ok (.getfield 25, 3) := by decide +kernel
theorem dX2_note_51 : decode cX2_note 51 = .ok (.iconst 1, 1) := by decide +kernel
theorem dX2_note_52 : decode cX2_note 52 = .ok (.isub, 1) := by decide +kernel
theorem dX2_note_53 : decode cX2_note 53 = .ok (.istore_n 2, 1) := by decide +kernel
theorem dX2_note_54 : decode cX2_note 54 = .ok (.iload_n 2, 1) := by decide +kernel
theorem dX2_note_55 : decode cX2_note 55 = .ok (.ifCond .le 35, 3) := by decide +kernel
theorem dX2_note_58 : decode cX2_note 58 = .ok (.aload_n 0, 1) := by decide +kernel
theorem dX2_note_59 : decode cX2_note 59 = .ok (.getfield 9, 3) := by decide +kernel
theorem dX2_note_62 : decode cX2_note 62 = .ok (.iload_n 2, 1) := by decide +kernel
theorem dX2_note_63 : decode cX2_note 63 = .ok (.iconst 1, 1) := by decide +kernel
theorem dX2_note_64 : decode cX2_note 64 = .ok (.isub, 1) := by decide +kernel
theorem dX2_note_65 : decode cX2_note 65 = .ok (.iaload, 1) := by decide +kernel
theorem dX2_note_66 : decode cX2_note 66 = .ok (.iload_n 1, 1) := by decide +kernel
theorem dX2_note_67 : decode cX2_note 67 = .ok (.if_icmp .le 23, 3) := by decide +kernel
theorem dX2_note_70 : decode cX2_note 70 = .ok (.aload_n 0, 1) := by decide +kernel
theorem dX2_note_71 : decode cX2_note 71 = .ok (.getfield 9, 3) := by decide +kernel
theorem dX2_note_74 : decode cX2_note 74 = .ok (.iload_n 2, 1) := by decide +kernel
theorem dX2_note_75 : decode cX2_note 75 = .ok (.aload_n 0, 1) := by decide +kernel
theorem dX2_note_76 : decode cX2_note 76 = .ok (.getfield 9, 3) := by decide +kernel
theorem dX2_note_79 : decode cX2_note 79 = .ok (.iload_n 2, 1) := by decide +kernel
theorem dX2_note_80 : decode cX2_note 80 = .ok (.iconst 1, 1) := by decide +kernel
theorem dX2_note_81 : decode cX2_note 81 = .ok (.isub, 1) := by decide +kernel
theorem dX2_note_82 : decode cX2_note 82 = .ok (.iaload, 1) := by decide +kernel
theorem dX2_note_83 : decode cX2_note 83 = .ok (.iastore, 1) := by decide +kernel
theorem dX2_note_84 : decode cX2_note 84 = .ok (.iinc 2 (-1), 3) := by decide +kernel
theorem dX2_note_87 : decode cX2_note 87 = .ok (.goto (-33), 3) := by decide +kernel
theorem dX2_note_90 : decode cX2_note 90 = .ok (.aload_n 0, 1) := by decide +kernel
theorem dX2_note_91 : decode cX2_note 91 = .ok (.getfield 9, 3) := by decide +kernel
theorem dX2_note_94 : decode cX2_note 94 = .ok (.iload_n 2, 1) := by decide +kernel
theorem dX2_note_95 : decode cX2_note 95 = .ok (.iload_n 1, 1) := by decide +kernel
theorem dX2_note_96 : decode cX2_note 96 = .ok (.iastore, 1) := by decide +kernel
theorem dX2_note_97 : decode cX2_note 97 = .ok (.return_, 1) := by decide +kernel
theorem dX3_init_0 : decode cX3_init 0 = .ok (.aload_n 0, 1) := by decide +kernel
theorem dX3_init_1 : decode cX3_init 1 = .ok (.invokespecial 3, 3) := by decide +kernel
theorem dX3_init_4 : decode cX3_init 4 = .ok (.aload_n 0, 1) := by decide +kernel
theorem dX3_init_5 : decode cX3_init 5 = .ok (.bipush 12, 2) := by decide +kernel
theorem dX3_init_7 : decode cX3_init 7 = .ok (.newarray .int, 2) := by decide +kernel
theorem dX3_init_9 : decode cX3_init 9 = .ok (.putfield 9, 3) := by decide +kernel
theorem dX3_init_12 : decode cX3_init 12 = .ok (.aload_n 0, 1) := by decide +kernel
theorem dX3_init_13 : decode cX3_init 13 = .ok (.bipush 12, 2) := by decide +kernel
theorem dX3_init_15 : decode cX3_init 15 = .ok (.newarray .int, 2) := by decide +kernel
theorem dX3_init_17 : decode cX3_init 17 = .ok (.putfield 15, 3) := by decide +kernel
theorem dX3_init_20 : decode cX3_init 20 = .ok (.aload_n 0, 1) := by decide +kernel
theorem dX3_init_21 : decode cX3_init 21 = .ok (.bipush 12, 2) := by decide +kernel
theorem dX3_init_23 : decode cX3_init 23 = .ok (.newarray .int, 2) := by decide +kernel
theorem dX3_init_25 : decode cX3_init 25 = .ok (.putfield 18, 3) := by decide +kernel
theorem dX3_init_28 : decode cX3_init 28 = .ok (.aload_n 0, 1) := by decide +kernel
theorem dX3_init_29 : decode cX3_init 29 = .ok (.bipush 13, 2) := by decide +kernel
theorem dX3_init_31 : decode cX3_init 31 = .ok (.newarray .boolean, 2) := by decide +kernel
theorem dX3_init_33 : decode cX3_init 33 = .ok (.putfield 21, 3) := by decide +kernel
theorem dX3_init_36 : decode cX3_init 36 = .ok (.aload_n 0, 1) := by decide +kernel
theorem dX3_init_37 : decode cX3_init 37 = .ok (.bipush 13, 2) := by decide +kernel
theorem dX3_init_39 : decode cX3_init 39 = .ok (.bipush 12, 2) := by decide +kernel
theorem dX3_init_41 : decode cX3_init 41 = .ok (.multianewarray 25 2, 4) := by decide +kernel
theorem dX3_init_45 : decode cX3_init 45 = .ok (.putfield 27, 3) := by decide +kernel
theorem dX3_init_48 : decode cX3_init 48 = .ok (.aload_n 0, 1) := by decide +kernel
theorem dX3_init_49 : decode cX3_init 49 = .ok (.bipush 13, 2) := by decide +kernel
theorem dX3_init_51 : decode cX3_init 51 = .ok (.bipush 12, 2) := by decide +kernel
theorem dX3_init_53 : decode cX3_init 53 = .ok (.multianewarray 25 2, 4) := by decide +kernel
theorem dX3_init_57 : decode cX3_init 57 = .ok (.putfield 30, 3) := by decide +kernel
theorem dX3_init_60 : decode cX3_init 60 = .ok (.aload_n 0, 1) := by decide +kernel
theorem dX3_init_61 : decode cX3_init 61 = .ok (.bipush 12, 2) := by decide +kernel
theorem dX3_init_63 : decode cX3_init 63 = .ok (.newarray .int, 2) := by decide +kernel
theorem dX3_init_65 : decode cX3_init 65 = .ok (.putfield 33, 3) := by decide +kernel
theorem dX3_init_68 : decode cX3_init 68 = .ok (.aload_n 0, 1) := by decide +kernel
theorem dX3_init_69 : decode cX3_init 69 = .ok (.iload_n 1, 1) := by decide +kernel
theorem dX3_init_70 : decode cX3_init 70 = .ok (.putfield 36, 3) := by decide +kernel
theorem dX3_init_73 : decode cX3_init 73 = .ok (.return_, 1) := by decide +kernel
theorem dX3_hasRoom_0 : decode cX3_hasRoom 0 = .ok (.aload_n 0, 1) := by decide +kernel
theorem dX3_hasRoom_1 : decode cX3_hasRoom 1 = .ok (.getfield 40, 3) := by decide +kernel
theorem dX3_hasRoom_4 : decode cX3_hasRoom 4 = .ok (.bipush 12, 2) := by decide +kernel
theorem dX3_hasRoom_6 : decode cX3_hasRoom 6 = .ok (.if_icmp .ge 7, 3) := by decide +kernel
theorem dX3_hasRoom_9 : decode cX3_hasRoom 9 = .ok (.iconst 1, 1) := by decide +kernel
theorem dX3_hasRoom_10 : decode cX3_hasRoom 10 = .ok (.goto 4, 3) := by decide +kernel
theorem dX3_hasRoom_13 : decode cX3_hasRoom 13 = .ok (.iconst 0, 1) := by decide +kernel
theorem dX3_hasRoom_14 : decode cX3_hasRoom 14 = .ok (.ireturn, 1) := by decide +kernel
theorem dX3_lastLeaving_0 : decode cX3_lastLeaving 0 = .ok (.aload_n 0, 1) := by decide +kernel
theorem dX3_lastLeaving_1 : decode cX3_lastLeaving 1 = .ok (.getfield 40, 3) := by decide +kernel
theorem dX3_lastLeaving_4 : decode cX3_lastLeaving 4 = .ok (.ifCond .ne 7, 3) := by decide +kernel
theorem dX3_lastLeaving_7 : decode cX3_lastLeaving 7 = .ok (.iconst 0, 1) := by decide +kernel
theorem dX3_lastLeaving_8 : decode cX3_lastLeaving 8 = .ok (.goto 14, 3) := by decide +kernel
theorem dX3_lastLeaving_11 : decode cX3_lastLeaving 11 = .ok (.aload_n 0, 1) := by decide +kernel
theorem dX3_lastLeaving_12 : decode cX3_lastLeaving 12 = .ok (.getfield 18, 3) := by decide +kernel
theorem dX3_lastLeaving_15 : decode cX3_lastLeaving 15 = .ok (.aload_n 0, 1) := by decide +kernel
theorem dX3_lastLeaving_16 : decode cX3_lastLeaving 16 = .ok (.getfield 40, 3) := by decide +kernel
theorem dX3_lastLeaving_19 : decode cX3_lastLeaving 19 = .ok (.iconst 1, 1) := by decide +kernel
theorem dX3_lastLeaving_20 : decode cX3_lastLeaving 20 = .ok (.isub, 1) := by decide +kernel
theorem dX3_lastLeaving_21 : decode cX3_lastLeaving 21 = .ok (.iaload, 1) := by decide +kernel
theorem dX3_lastLeaving_22 : decode cX3_lastLeaving 22 = .ok (.ireturn, 1) := by decide +kernel
theorem dX3_addStop_0 : decode cX3_addStop 0 = .ok (.aload_n 0, 1) := by decide +kernel
theorem dX3_addStop_1 : decode cX3_addStop 1 = .ok (.invokevirtual 43, 3) := by decide +kernel
theorem dX3_addStop_4 : decode cX3_addStop 4 = .ok (.ifCond .ne 4, 3) := by decide +kernel
theorem dX3_addStop_7 : decode cX3_addStop 7 = .ok (.return_, 1) := by decide +kernel
theorem dX3_addStop_8 : decode cX3_addStop 8 = .ok (.aload_n 0, 1) := by decide +kernel
theorem dX3_addStop_9 : decode cX3_addStop 9 = .ok (.getfield 9, 3) := by decide +kernel
theorem dX3_addStop_12 : decode cX3_addStop 12 = .ok (.aload_n 0, 1) := by decide +kernel
theorem dX3_addStop_13 : decode cX3_addStop 13 = .ok (.getfield 40, 3) := by decide +kernel
theorem dX3_addStop_16 : decode cX3_addStop 16 = .ok (.iload_n 1, 1) := by decide +kernel
theorem dX3_addStop_17 : decode cX3_addStop 17 = .ok (.iastore, 1) := by decide +kernel
theorem dX3_addStop_18 : decode cX3_addStop 18 = .ok (.aload_n 0, 1) := by decide +kernel
theorem dX3_addStop_19 : decode cX3_addStop 19 = .ok (.getfield 15, 3) := by decide +kernel
theorem dX3_addStop_22 : decode cX3_addStop 22 = .ok (.aload_n 0, 1) := by decide +kernel
theorem dX3_addStop_23 : decode cX3_addStop 23 = .ok (.getfield 40, 3) := by decide +kernel
theorem dX3_addStop_26 : decode cX3_addStop 26 = .ok (.iload_n 2, 1) := by decide +kernel
theorem dX3_addStop_27 : decode cX3_addStop 27 = .ok (.iastore, 1) := by decide +kernel
theorem dX3_addStop_28 : decode cX3_addStop 28 = .ok (.aload_n 0, 1) := by decide +kernel
theorem dX3_addStop_29 : decode cX3_addStop 29 = .ok (.getfield 18, 3) := by decide +kernel
theorem dX3_addStop_32 : decode cX3_addStop 32 = .ok (.aload_n 0, 1) := by decide +kernel
theorem dX3_addStop_33 : decode cX3_addStop 33 = .ok (.getfield 40, 3) := by decide +kernel
theorem dX3_addStop_36 : decode cX3_addStop 36 = .ok (.iload_n 3, 1) := by decide +kernel
theorem dX3_addStop_37 : decode cX3_addStop 37 = .ok (.iastore, 1) := by decide +kernel
theorem dX3_addStop_38 : decode cX3_addStop 38 = .ok (.aload_n 0, 1) := by decide +kernel
theorem dX3_addStop_39 : decode cX3_addStop 39 = .ok (.dup, 1) := by decide +kernel
theorem dX3_addStop_40 : decode cX3_addStop 40 = .ok (.getfield 40, 3) := by decide +kernel
theorem dX3_addStop_43 : decode cX3_addStop 43 = .ok (.iconst 1, 1) := by decide +kernel
theorem dX3_addStop_44 : decode cX3_addStop 44 = .ok (.iadd, 1) := by decide +kernel
theorem dX3_addStop_45 : decode cX3_addStop 45 = .ok (.putfield 40, 3) := by decide +kernel
theorem dX3_addStop_48 : decode cX3_addStop 48 = .ok (.return_, 1) := by decide +kernel
theorem dX3_wordFor_0 : decode cX3_wordFor 0 = .ok (.aload_n 0, 1) := by decide +kernel
theorem dX3_wordFor_1 : decode cX3_wordFor 1 = .ok (.getfield 47, 3) := by decide +kernel
theorem dX3_wordFor_4 : decode cX3_wordFor 4 = .ok (.astore_n 2, 1) := by decide +kernel
theorem dX3_wordFor_5 : decode cX3_wordFor 5 = .ok (.aload_n 2, 1) := by decide +kernel
theorem dX3_wordFor_6 : decode cX3_wordFor 6 = .ok (.ifnull 21, 3) := by decide +kernel
theorem dX3_wordFor_9 : decode cX3_wordFor 9 = .ok (.aload_n 2, 1) := by decide +kernel
theorem dX3_wordFor_10 : decode cX3_wordFor 10 = .ok (.getfield 51, 3) := by decide +kernel
theorem dX3_wordFor_13 : decode cX3_wordFor 13 = .ok (.iload_n 1, 1) := by decide +kernel
theorem dX3_wordFor_14 : decode cX3_wordFor 14 = .ok (.if_icmp .ne 5, 3) := by decide +kernel
theorem dX3_wordFor_17 : decode cX3_wordFor 17 = .ok (.aload_n 2, 1) := by decide +kernel
theorem dX3_wordFor_18 : decode cX3_wordFor 18 = .ok (.areturn, 1) := by decide +kernel
theorem dX3_wordFor_19 : decode cX3_wordFor 19 = .ok (.aload_n 2, 1) := by decide +kernel
theorem dX3_wordFor_20 : decode cX3_wordFor 20 = .ok (.getfield 56, 3) := by decide +kernel
theorem dX3_wordFor_23 : decode cX3_wordFor 23 = .ok (.astore_n 2, 1) := by decide +kernel
theorem dX3_wordFor_24 : decode cX3_wordFor 24 = .ok (.goto (-19), 3) := by decide +kernel
theorem dX3_wordFor_27 : decode cX3_wordFor 27 = .ok (.aconst_null, 1) := by decide +kernel
theorem dX3_wordFor_28 : decode cX3_wordFor 28 = .ok (.areturn, 1) := by decide +kernel
theorem dX3_workOutRuns_0 : decode cX3_workOutRuns 0 = .ok (.iconst 0, 1) := by decide +kernel
theorem dX3_workOutRuns_1 : decode cX3_workOutRuns 1 = .ok (.istore_n 3, 1) := by decide +kernel
theorem dX3_workOutRuns_2 : decode cX3_workOutRuns 2 = .ok (.iload_n 3, 1) := by decide +kernel
theorem dX3_workOutRuns_3 : decode cX3_workOutRuns 3 = .ok (.bipush 13, 2) := by decide +kernel
theorem dX3_workOutRuns_5 : decode cX3_workOutRuns 5 = .ok (.if_icmp .ge 40, 3) := by decide +kernel
theorem dX3_workOutRuns_8 : decode cX3_workOutRuns 8 = .ok (.aload_n 0, 1) := by decide +kernel
theorem dX3_workOutRuns_9 : decode cX3_workOutRuns 9 = .ok (.getfield 21, 3) := by decide +kernel
theorem dX3_workOutRuns_12 : decode cX3_workOutRuns 12 = .ok (.iload_n 3, 1) := by decide +kernel
theorem dX3_workOutRuns_13 : decode cX3_workOutRuns 13 = .ok (.aload_n 0, 1) := by decide +kernel
theorem dX3_workOutRuns_14 : decode cX3_workOutRuns 14 = .ok (.iload_n 1, 1) := by decide +kernel
theorem dX3_workOutRuns_15 : decode cX3_workOutRuns 15 = .ok (.iload_n 3, 1) := by decide +kernel
theorem dX3_workOutRuns_16 : decode cX3_workOutRuns 16 = .ok (.iadd, 1) := by decide +kernel
theorem dX3_workOutRuns_17 : decode cX3_workOutRuns 17 = .ok (.invokevirtual 59, 3) := by decide +kernel
theorem dX3_workOutRuns_20 : decode cX3_workOutRuns 20 = .ok (.bastore, 1) := by decide +kernel
theorem dX3_workOutRuns_21 : decode cX3_workOutRuns 21 = .ok (.aload_n 0, 1) := by decide +kernel
theorem dX3_workOutRuns_22 : decode cX3_workOutRuns 22 = .ok (.getfield 21, 3) := by decide +kernel
theorem dX3_workOutRuns_25 : decode cX3_workOutRuns 25 = .ok (.iload_n 3, 1) := by decide +kernel
theorem dX3_workOutRuns_26 : decode cX3_workOutRuns 26 = .ok (.baload, 1) := by decide +kernel
theorem dX3_workOutRuns_27 : decode cX3_workOutRuns 27 = .ok (.ifCond .eq 12, 3) := by decide +kernel
theorem dX3_workOutRuns_30 : decode cX3_workOutRuns 30 = .ok (.aload_n 0, 1) := by decide +kernel
theorem dX3_workOutRuns_31 : decode cX3_workOutRuns 31 = .ok (.iload_n 3, 1) := by decide +kernel
theorem dX3_workOutRuns_32 : decode cX3_workOutRuns 32 = .ok (.iload_n 1, 1) := by decide +kernel
theorem dX3_workOutRuns_33 : decode cX3_workOutRuns 33 = .ok (.iload_n 3, 1) := by decide +kernel
theorem dX3_workOutRuns_34 : decode cX3_workOutRuns 34 = .ok (.iadd, 1) := by decide +kernel
theorem dX3_workOutRuns_35 : decode cX3_workOutRuns 35 = .ok (.aload_n 2, 1) := by decide +kernel
theorem dX3_workOutRuns_36 : decode cX3_workOutRuns 36 = .ok (.invokevirtual 63, 3) := by decide +kernel
theorem dX3_workOutRuns_39 : decode cX3_workOutRuns 39 = .ok (.iinc 3 1, 3) := by decide +kernel
theorem dX3_workOutRuns_42 : decode cX3_workOutRuns 42 = .ok (.goto (-40), 3) := by decide +kernel
theorem dX3_workOutRuns_45 : decode cX3_workOutRuns 45 = .ok (.return_, 1) := by decide +kernel
theorem dX3_runsOn_0 : decode cX3_runsOn 0 = .ok (.iload_n 1, 1) := by decide +kernel
theorem dX3_runsOn_1 : decode cX3_runsOn 1 = .ok (.ifCond .ge 5, 3) := by decide +kernel
theorem dX3_runsOn_4 : decode cX3_runsOn 4 = .ok (.iconst 0, 1) := by decide +kernel
theorem dX3_runsOn_5 : decode cX3_runsOn 5 = .ok (.ireturn, 1) := by decide +kernel
theorem dX3_runsOn_6 : decode cX3_runsOn 6 = .ok (.aload_n 0, 1) := by decide +kernel
theorem dX3_runsOn_7 : decode cX3_runsOn 7 = .ok (.iload_n 1, 1) := by decide +kernel
theorem dX3_runsOn_8 : decode cX3_runsOn 8 = .ok (.invokevirtual 67, 3) := by decide +kernel
theorem dX3_runsOn_11 : decode cX3_runsOn 11 = .ok (.astore_n 2, 1) := by decide +kernel
theorem dX3_runsOn_12 : decode cX3_runsOn 12 = .ok (.aload_n 2, 1) := by decide +kernel
theorem dX3_runsOn_13 : decode cX3_runsOn 13 = .ok (.ifnull 8, 3) := by decide +kernel
theorem dX3_runsOn_16 : decode cX3_runsOn 16 = .ok (.aload_n 2, 1) := by decide +kernel
theorem dX3_runsOn_17 : decode cX3_runsOn 17 = .ok (.getfield 71, 3) := by decide +kernel
theorem dX3_runsOn_20 : decode cX3_runsOn 20 = .ok (.ireturn, 1) := by decide +kernel
theorem dX3_runsOn_21 : decode cX3_runsOn 21 = .ok (.aload_n 0, 1) := by decide +kernel
theorem dX3_runsOn_22 : decode cX3_runsOn 22 = .ok (.getfield 36, 3) := by decide +kernel
theorem dX3_runsOn_25 : decode cX3_runsOn 25 = .ok (.iload_n 1, 1) := by decide +kernel
theorem dX3_runsOn_26 : decode cX3_runsOn 26 = .ok (.bipush 7, 2) := by decide +kernel
theorem dX3_runsOn_28 : decode cX3_runsOn 28 = .ok (.irem, 1) := by decide +kernel
theorem dX3_runsOn_29 : decode cX3_runsOn 29 = .ok (.ishr, 1) := by decide +kernel
theorem dX3_runsOn_30 : decode cX3_runsOn 30 = .ok (.iconst 1, 1) := by decide +kernel
theorem dX3_runsOn_31 : decode cX3_runsOn 31 = .ok (.iand, 1) := by decide +kernel
theorem dX3_runsOn_32 : decode cX3_runsOn 32 = .ok (.iconst 1, 1) := by decide +kernel
theorem dX3_runsOn_33 : decode cX3_runsOn 33 = .ok (.if_icmp .ne 7, 3) := by decide +kernel
theorem dX3_runsOn_36 : decode cX3_runsOn 36 = .ok (.iconst 1, 1) := by decide +kernel
theorem dX3_runsOn_37 : decode cX3_runsOn 37 = .ok (.goto 4, 3) := by decide +kernel
theorem dX3_runsOn_40 : decode cX3_runsOn 40 = .ok (.iconst 0, 1) := by decide +kernel
theorem dX3_runsOn_41 : decode cX3_runsOn 41 = .ok (.ireturn, 1) := by decide +kernel
theorem dX3_workOutTimes_0 : decode cX3_workOutTimes 0 = .ok (.aload_n 0, 1) := by decide +kernel
theorem dX3_workOutTimes_1 : decode cX3_workOutTimes 1 = .ok (.iload_n 2, 1) := by decide +kernel
theorem dX3_workOutTimes_2 : decode cX3_workOutTimes 2 = .ok (.invokevirtual 74, 3) := by decide +kernel
theorem dX3_workOutTimes_5 : decode cX3_workOutTimes 5 = .ok (.ldc 78, 2) := by decide +kernel
theorem dX3_workOutTimes_7 : decode cX3_workOutTimes 7 = .ok (.iload_n 2, 1) := by decide +kernel
theorem dX3_workOutTimes_8 : decode cX3_workOutTimes 8 = .ok (.imul, 1) := by decide +kernel
theorem dX3_workOutTimes_9 : decode cX3_workOutTimes 9 = .ok (.istore 4, 2) := by decide +kernel
theorem dX3_workOutTimes_11 : decode cX3_workOutTimes 11 = .ok (.iconst 0, 1) := by decide +kernel
theorem dX3_workOutTimes_12 : decode cX3_workOutTimes 12 = .ok (.istore 5, 2) := by decide +kernel
theorem dX3_workOutTimes_14 : decode cX3_workOutTimes 14 = .ok (.iconst 0, 1) := by decide +kernel
theorem dX3_workOutTimes_15 : decode cX3_workOutTimes 15 = .ok (.istore 6, 2) := by decide +kernel
theorem dX3_workOutTimes_17 : decode cX3_workOutTimes 17 = .ok (.iload 6, 2) := by decide +kernel
theorem dX3_workOutTimes_19 : decode cX3_workOutTimes 19 = .ok (.aload_n 0, 1) := by decide +kernel
theorem dX3_workOutTimes_20 : decode cX3_workOutTimes 20 = .ok (.getfield 40, 3) := by decide +kernel
theorem dX3_workOutTimes_23 : decode cX3_workOutTimes 23 = .ok (.if_icmp .ge 84, 3) := by decide +kernel
theorem dX3_workOutTimes_26 : decode cX3_workOutTimes 26 = .ok (.iload 5, 2) := by decide +kernel
theorem dX3_workOutTimes_28 : decode cX3_workOutTimes 28 = .ok (.aload_n 0, 1) := by decide +kernel
theorem dX3_workOutTimes_29 : decode cX3_workOutTimes 29 = .ok (.getfield 33, 3) := by decide +kernel
theorem dX3_workOutTimes_32 : decode cX3_workOutTimes 32 = .ok (.iload 6, 2) := by decide +kernel
theorem dX3_workOutTimes_34 : decode cX3_workOutTimes 34 = .ok (.iaload, 1) := by decide +kernel
theorem dX3_workOutTimes_35 : decode cX3_workOutTimes 35 = .ok (.iadd, 1) := by decide +kernel
theorem dX3_workOutTimes_36 : decode cX3_workOutTimes 36 = .ok (.istore 5, 2) := by decide +kernel
theorem dX3_workOutTimes_38 : decode cX3_workOutTimes 38 = .ok (.iload 4, 2) := by decide +kernel
theorem dX3_workOutTimes_40 : decode cX3_workOutTimes 40 = .ok (.bipush 60, 2) := by decide +kernel
theorem dX3_workOutTimes_42 : decode cX3_workOutTimes 42 = .ok (.aload_n 3, 1) := by decide +kernel
theorem dX3_workOutTimes_43 : decode cX3_workOutTimes 43 = .ok (.aload_n 0, 1) := by decide +kernel
theorem dX3_workOutTimes_44 : decode cX3_workOutTimes 44 = .ok (.getfield 9, 3) := by decide +kernel
theorem dX3_workOutTimes_47 : decode cX3_workOutTimes 47 = .ok (.iload 6, 2) := by decide +kernel
theorem dX3_workOutTimes_49 : decode cX3_workOutTimes 49 = .ok (.iaload, 1) := by decide +kernel
theorem dX3_workOutTimes_50 : decode cX3_workOutTimes 50 = .ok (.aaload, 1) := by decide +kernel
theorem dX3_workOutTimes_51 : decode cX3_workOutTimes 51 = .ok (.iload 4, 2) := by decide +kernel
theorem dX3_workOutTimes_53 : decode cX3_workOutTimes 53 = .ok (.invokevirtual 79, 3) := by decide +kernel
theorem dX3_workOutTimes_56 : decode cX3_workOutTimes 56 = .ok (.imul, 1) := by decide +kernel
theorem dX3_workOutTimes_57 : decode cX3_workOutTimes 57 = .ok (.isub, 1) := by decide +kernel
theorem dX3_workOutTimes_58 : decode cX3_workOutTimes 58 = .ok (.iload 5, 2) := by decide +kernel
theorem dX3_workOutTimes_60 : decode cX3_workOutTimes 60 = .ok (.iadd, 1) := by decide +kernel
theorem dX3_workOutTimes_61 : decode cX3_workOutTimes 61 = .ok (.istore 7, 2) := by decide +kernel
theorem dX3_workOutTimes_63 : decode cX3_workOutTimes 63 = .ok (.aload_n 0, 1) := by decide +kernel
theorem dX3_workOutTimes_64 : decode cX3_workOutTimes 64 = .ok (.getfield 27, 3) := by decide +kernel
theorem dX3_workOutTimes_67 : decode cX3_workOutTimes 67 = .ok (.iload_n 1, 1) := by decide +kernel
theorem dX3_workOutTimes_68 : decode cX3_workOutTimes 68 = .ok (.aaload, 1) := by decide +kernel
theorem dX3_workOutTimes_69 : decode cX3_workOutTimes 69 = .ok (.iload 6, 2) := by decide +kernel
theorem dX3_workOutTimes_71 : decode cX3_workOutTimes 71 = .ok (.aload_n 0, 1) := by decide +kernel
theorem dX3_workOutTimes_72 : decode cX3_workOutTimes 72 = .ok (.getfield 15, 3) := by decide +kernel
theorem dX3_workOutTimes_75 : decode cX3_workOutTimes 75 = .ok (.iload 6, 2) := by decide +kernel
theorem dX3_workOutTimes_77 : decode cX3_workOutTimes 77 = .ok (.iaload, 1) := by decide +kernel
theorem dX3_workOutTimes_78 : decode cX3_workOutTimes 78 = .ok (.iload 7, 2) := by decide +kernel
theorem dX3_workOutTimes_80 : decode cX3_workOutTimes 80 = .ok (.iadd, 1) := by decide +kernel
theorem dX3_workOutTimes_81 : decode cX3_workOutTimes 81 = .ok (.iastore, 1) := by decide +kernel
theorem dX3_workOutTimes_82 : decode cX3_workOutTimes 82 = .ok (.aload_n 0, 1) := by decide +kernel
theorem dX3_workOutTimes_83 : decode cX3_workOutTimes 83 = .ok (.getfield 30, 3) := by decide +kernel
theorem dX3_workOutTimes_86 : decode cX3_workOutTimes 86 = .ok (.iload_n 1, 1) := by decide +kernel
theorem dX3_workOutTimes_87 : decode cX3_workOutTimes 87 = .ok (.aaload, 1) := by decide +kernel
theorem dX3_workOutTimes_88 : decode cX3_workOutTimes 88 = .ok (.iload 6, 2) := by decide +kernel
theorem dX3_workOutTimes_90 : decode cX3_workOutTimes 90 = .ok (.aload_n 0, 1) := by decide +kernel
theorem dX3_workOutTimes_91 : decode cX3_workOutTimes 91 = .ok (.getfield 18, 3) := by decide +kernel
theorem dX3_workOutTimes_94 : decode cX3_workOutTimes 94 = .ok (.iload 6, 2) := by decide +kernel
theorem dX3_workOutTimes_96 : decode cX3_workOutTimes 96 = .ok (.iaload, 1) := by decide +kernel
theorem dX3_workOutTimes_97 : decode cX3_workOutTimes 97 = .ok (.iload 7, 2) := by decide +kernel
theorem dX3_workOutTimes_99 : decode cX3_workOutTimes 99 = .ok (.iadd, 1) := by decide +kernel
theorem dX3_workOutTimes_100 : decode cX3_workOutTimes 100 = .ok (.iastore, 1) := by decide +kernel
theorem dX3_workOutTimes_101 : decode cX3_workOutTimes 101 = .ok (.iinc 6 1, 3) := by decide +kernel
theorem dX3_workOutTimes_104 : decode cX3_workOutTimes 104 = .ok (.goto (-87), 3) := by decide +kernel
theorem dX3_workOutTimes_107 : decode cX3_workOutTimes 107 = .ok (.return_, 1) := by decide +kernel
theorem dX3_gatherLate_0 : decode cX3_gatherLate 0 = .ok (.aload_n 0, 1) := by decide +kernel
theorem dX3_gatherLate_1 : decode cX3_gatherLate 1 = .ok (.getfield 33, 3) := by decide +kernel
theorem dX3_gatherLate_4 : decode cX3_gatherLate 4 = .ok (.iconst 0, 1) := by decide +kernel
theorem dX3_gatherLate_5 : decode cX3_gatherLate 5 = .ok (.invokestatic 85, 3) := by decide +kernel
theorem dX3_gatherLate_8 : decode cX3_gatherLate 8 = .ok (.aload_n 0, 1) := by decide +kernel
theorem dX3_gatherLate_9 : decode cX3_gatherLate 9 = .ok (.getfield 91, 3) := by decide +kernel
theorem dX3_gatherLate_12 : decode cX3_gatherLate 12 = .ok (.astore_n 2, 1) := by decide +kernel
theorem dX3_gatherLate_13 : decode cX3_gatherLate 13 = .ok (.aload_n 2, 1) := by decide +kernel
theorem dX3_gatherLate_14 : decode cX3_gatherLate 14 = .ok (.ifnull 35, 3) := by decide +kernel
theorem dX3_gatherLate_17 : decode cX3_gatherLate 17 = .ok (.aload_n 2, 1) := by decide +kernel
theorem dX3_gatherLate_18 : decode cX3_gatherLate 18 = .ok (.getfield 95, 3) := by decide +kernel
theorem dX3_gatherLate_21 : decode cX3_gatherLate 21 = .ok (.iload_n 1, 1) := by decide +kernel
theorem dX3_gatherLate_22 : decode cX3_gatherLate 22 = .ok (.if_icmp .ne 19, 3) := by decide +kernel
theorem dX3_gatherLate_25 : decode cX3_gatherLate 25 = .ok (.aload_n 0, 1) := by decide +kernel
theorem dX3_gatherLate_26 : decode cX3_gatherLate 26 = .ok (.getfield 33, 3) := by decide +kernel
theorem dX3_gatherLate_29 : decode cX3_gatherLate 29 = .ok (.aload_n 2, 1) := by decide +kernel
theorem dX3_gatherLate_30 : decode cX3_gatherLate 30 = .ok (.getfield 98, 3) := by decide +kernel
theorem dX3_gatherLate_33 : decode cX3_gatherLate 33 = .ok (.dup2, 1) := by decide +kernel
theorem dX3_gatherLate_34 : decode cX3_gatherLate 34 = .ok (.iaload, 1) := by decide +kernel
theorem dX3_gatherLate_35 : decode cX3_gatherLate 35 = .ok (.aload_n 2, 1) := by decide +kernel
theorem dX3_gatherLate_36 : decode cX3_gatherLate 36 = .ok (.getfield 101, 3) := by decide +kernel
theorem dX3_gatherLate_39 : decode cX3_gatherLate 39 = .ok (.iadd, 1) := by decide +kernel
theorem dX3_gatherLate_40 : decode cX3_gatherLate 40 = .ok (.iastore, 1) := by decide +kernel
theorem dX3_gatherLate_41 : decode cX3_gatherLate 41 = .ok (.aload_n 2, 1) := by decide +kernel
theorem dX3_gatherLate_42 : decode cX3_gatherLate 42 = .ok (.getfield 104, 3) := by decide +kernel
theorem dX3_gatherLate_45 : decode cX3_gatherLate 45 = .ok (.astore_n 2, 1) := by decide +kernel
theorem dX3_gatherLate_46 : decode cX3_gatherLate 46 = .ok (.goto (-33), 3) := by decide +kernel
theorem dX3_gatherLate_49 : decode cX3_gatherLate 49 = .ok (.return_, 1) := by decide +kernel
theorem dX4_init_0 : decode cX4_init 0 = .ok (.aload_n 0, 1) := by decide +kernel
theorem dX4_init_1 : decode cX4_init 1 = .ok (.invokespecial 3, 3) := by decide +kernel
theorem dX4_init_4 : decode cX4_init 4 = .ok (.aload_n 0, 1) := by decide +kernel
theorem dX4_init_5 : decode cX4_init 5 = .ok (.new 9, 3) := by decide +kernel
theorem dX4_init_8 : decode cX4_init 8 = .ok (.dup, 1) := by decide +kernel
theorem dX4_init_9 : decode cX4_init 9 = .ok (.invokespecial 11, 3) := by decide +kernel
theorem dX4_init_12 : decode cX4_init 12 = .ok (.putfield 12, 3) := by decide +kernel
theorem dX4_init_15 : decode cX4_init 15 = .ok (.aload_n 0, 1) := by decide +kernel
theorem dX4_init_16 : decode cX4_init 16 = .ok (.bipush 100, 2) := by decide +kernel
theorem dX4_init_18 : decode cX4_init 18 = .ok (.anewarray 18, 3) := by decide +kernel
theorem dX4_init_21 : decode cX4_init 21 = .ok (.putfield 20, 3) := by decide +kernel
theorem dX4_init_24 : decode cX4_init 24 = .ok (.aload_n 0, 1) := by decide +kernel
theorem dX4_init_25 : decode cX4_init 25 = .ok (.bipush 7, 2) := by decide +kernel
theorem dX4_init_27 : decode cX4_init 27 = .ok (.bipush 100, 2) := by decide +kernel
theorem dX4_init_29 : decode cX4_init 29 = .ok (.multianewarray 24 2, 4) := by decide +kernel
theorem dX4_init_33 : decode cX4_init 33 = .ok (.putfield 26, 3) := by decide +kernel
theorem dX4_init_36 : decode cX4_init 36 = .ok (.aload_n 0, 1) := by decide +kernel
theorem dX4_init_37 : decode cX4_init 37 = .ok (.bipush 100, 2) := by decide +kernel
theorem dX4_init_39 : decode cX4_init 39 = .ok (.newarray .int, 2) := by decide +kernel
theorem dX4_init_41 : decode cX4_init 41 = .ok (.putfield 29, 3) := by decide +kernel
theorem dX4_init_44 : decode cX4_init 44 = .ok (.iconst 0, 1) := by decide +kernel
theorem dX4_init_45 : decode cX4_init 45 = .ok (.istore_n 1, 1) := by decide +kernel
theorem dX4_init_46 : decode cX4_init 46 = .ok (.iload_n 1, 1) := by decide +kernel
theorem dX4_init_47 : decode cX4_init 47 = .ok (.bipush 100, 2) := by decide +kernel
theorem dX4_init_49 : decode cX4_init 49 = .ok (.if_icmp .ge 22, 3) := by decide +kernel
theorem dX4_init_52 : decode cX4_init 52 = .ok (.aload_n 0, 1) := by decide +kernel
theorem dX4_init_53 : decode cX4_init 53 = .ok (.getfield 20, 3) := by decide +kernel
theorem dX4_init_56 : decode cX4_init 56 = .ok (.iload_n 1, 1) := by decide +kernel
theorem dX4_init_57 : decode cX4_init 57 = .ok (.new 18, 3) := by decide +kernel
theorem dX4_init_60 : decode cX4_init 60 = .ok (.dup, 1) := by decide +kernel
theorem dX4_init_61 : decode cX4_init 61 = .ok (.invokespecial 33, 3) := by decide +kernel
theorem dX4_init_64 : decode cX4_init 64 = .ok (.aastore, 1) := by decide +kernel
theorem dX4_init_65 : decode cX4_init 65 = .ok (.iinc 1 1, 3) := by decide +kernel
theorem dX4_init_68 : decode cX4_init 68 = .ok (.goto (-22), 3) := by decide +kernel
theorem dX4_init_71 : decode cX4_init 71 = .ok (.return_, 1) := by decide +kernel
theorem dX4_findBest_0 : decode cX4_findBest 0 = .ok (.aload_n 0, 1) := by decide +kernel
theorem dX4_findBest_1 : decode cX4_findBest 1 = .ok (.iload_n 3, 1) := by decide +kernel
theorem dX4_findBest_2 : decode cX4_findBest 2 = .ok (.invokevirtual 34, 3) := by decide +kernel
theorem dX4_findBest_5 : decode cX4_findBest 5 = .ok (.aload_n 0, 1) := by decide +kernel
theorem dX4_findBest_6 : decode cX4_findBest 6 = .ok (.getfield 29, 3) := by decide +kernel
theorem dX4_findBest_9 : decode cX4_findBest 9 = .ok (.ldc 38, 2) := by decide +kernel
theorem dX4_findBest_11 : decode cX4_findBest 11 = .ok (.invokestatic 39, 3) := by decide +kernel
theorem dX4_findBest_14 : decode cX4_findBest 14 = .ok (.aload_n 0, 1) := by decide +kernel
theorem dX4_findBest_15 : decode cX4_findBest 15 = .ok (.getfield 26, 3) := by decide +kernel
theorem dX4_findBest_18 : decode cX4_findBest 18 = .ok (.iconst 0, 1) := by decide +kernel
theorem dX4_findBest_19 : decode cX4_findBest 19 = .ok (.aaload, 1) := by decide +kernel
theorem dX4_findBest_20 : decode cX4_findBest 20 = .ok (.ldc 38, 2) := by decide +kernel
theorem dX4_findBest_22 : decode cX4_findBest 22 = .ok (.invokestatic 39, 3) := by decide +kernel
theorem dX4_findBest_25 : decode cX4_findBest 25 = .ok (.aload_n 0, 1) := by decide +kernel
theorem dX4_findBest_26 : decode cX4_findBest 26 = .ok (.getfield 29, 3) := by decide +kernel
theorem dX4_findBest_29 : decode cX4_findBest 29 = .ok (.iload_n 1, 1) := by decide +kernel
theorem dX4_findBest_30 : decode cX4_findBest 30 = .ok (.iload_n 3, 1) := by decide +kernel
theorem dX4_findBest_31 : decode cX4_findBest 31 = .ok (.iastore, 1) := by decide +kernel
theorem dX4_findBest_32 : decode cX4_findBest 32 = .ok (.aload_n 0, 1) := by decide +kernel
theorem dX4_findBest_33 : decode cX4_findBest 33 = .ok (.getfield 26, 3) := by decide +kernel
theorem dX4_findBest_36 : decode cX4_findBest 36 = .ok (.iconst 0, 1) := by decide +kernel
theorem dX4_findBest_37 : decode cX4_findBest 37 = .ok (.aaload, 1) := by decide +kernel
theorem dX4_findBest_38 : decode cX4_findBest 38 = .ok (.iload_n 1, 1) := by decide +kernel
theorem dX4_findBest_39 : decode cX4_findBest 39 = .ok (.iload_n 3, 1) := by decide +kernel
theorem dX4_findBest_40 : decode cX4_findBest 40 = .ok (.iastore, 1) := by decide +kernel
theorem dX4_findBest_41 : decode cX4_findBest 41 = .ok (.iconst (-1), 1) := by decide +kernel
theorem dX4_findBest_42 : decode cX4_findBest 42 = .ok (.istore 4, 2) := by decide +kernel
theorem dX4_findBest_44 : decode cX4_findBest 44 = .ok (.iconst 1, 1) := by decide +kernel
theorem dX4_findBest_45 : decode cX4_findBest 45 = .ok (.istore 5, 2) := by decide +kernel
theorem dX4_findBest_47 : decode cX4_findBest 47 = .ok (.iconst 1, 1) := by decide +kernel
theorem dX4_findBest_48 : decode cX4_findBest 48 = .ok (.istore 6, 2) := by decide +kernel
theorem dX4_findBest_50 : decode cX4_findBest 50 = .ok (.iload 6, 2) := by decide +kernel
theorem dX4_findBest_52 : decode cX4_findBest 52 = .ok (.bipush 6, 2) := by decide +kernel
theorem dX4_findBest_54 : decode cX4_findBest 54 = .ok (.if_icmp .gt 41, 3) := by decide +kernel
theorem dX4_findBest_57 : decode cX4_findBest 57 = .ok (.iload 5, 2) := by decide +kernel
theorem dX4_findBest_59 : decode cX4_findBest 59 = .ok (.ifCond .eq 36, 3) := by decide +kernel
theorem dX4_findBest_62 : decode cX4_findBest 62 = .ok (.aload_n 0, 1) := by decide +kernel
theorem dX4_findBest_63 : decode cX4_findBest 63 = .ok (.iload 6, 2) := by decide +kernel
theorem dX4_findBest_65 : decode cX4_findBest 65 = .ok (.iload_n 2, 1) := by decide +kernel
theorem dX4_findBest_66 : decode cX4_findBest 66 = .ok (.invokevirtual 45, 3) := by decide +kernel
theorem dX4_findBest_69 : decode cX4_findBest 69 = .ok (.istore 5, 2) := by decide +kernel
theorem dX4_findBest_71 : decode cX4_findBest 71 = .ok (.aload_n 0, 1) := by decide +kernel
theorem dX4_findBest_72 : decode cX4_findBest 72 = .ok (.getfield 26, 3) := by decide +kernel
theorem dX4_findBest_75 : decode cX4_findBest 75 = .ok (.iload 6, 2) := by decide +kernel
theorem dX4_findBest_77 : decode cX4_findBest 77 = .ok (.aaload, 1) := by decide +kernel
theorem dX4_findBest_78 : decode cX4_findBest 78 = .ok (.iload_n 2, 1) := by decide +kernel
theorem dX4_findBest_79 : decode cX4_findBest 79 = .ok (.iaload, 1) := by decide +kernel
theorem dX4_findBest_80 : decode cX4_findBest 80 = .ok (.ldc 38, 2) := by decide +kernel
theorem dX4_findBest_82 : decode cX4_findBest 82 = .ok (.if_icmp .eq 7, 3) := by decide +kernel
theorem dX4_findBest_85 : decode cX4_findBest 85 = .ok (.iload 6, 2) := by decide +kernel
theorem dX4_findBest_87 : decode cX4_findBest 87 = .ok (.istore 4, 2) := by decide +kernel
theorem dX4_findBest_89 : decode cX4_findBest 89 = .ok (.iinc 6 1, 3) := by decide +kernel
theorem dX4_findBest_92 : decode cX4_findBest 92 = .ok (.goto (-42), 3) := by decide +kernel
theorem dX4_findBest_95 : decode cX4_findBest 95 = .ok (.iload 4, 2) := by decide +kernel
theorem dX4_findBest_97 : decode cX4_findBest 97 = .ok (.ireturn, 1) := by decide +kernel
theorem dX4_workOutRuns_0 : decode cX4_workOutRuns 0 = .ok (.aload_n 0, 1) := by decide +kernel
theorem dX4_workOutRuns_1 : decode cX4_workOutRuns 1 = .ok (.iload_n 1, 1) := by decide +kernel
theorem dX4_workOutRuns_2 : decode cX4_workOutRuns 2 = .ok (.ldc 49, 2) := by decide +kernel
theorem dX4_workOutRuns_4 : decode cX4_workOutRuns 4 = .ok (.idiv, 1) := by decide +kernel
theorem dX4_workOutRuns_5 : decode cX4_workOutRuns 5 = .ok (.iconst 3, 1) := by decide +kernel
theorem dX4_workOutRuns_6 : decode cX4_workOutRuns 6 = .ok (.isub, 1) := by decide +kernel
theorem dX4_workOutRuns_7 : decode cX4_workOutRuns 7 = .ok (.putfield 50, 3) := by decide +kernel
theorem dX4_workOutRuns_10 : decode cX4_workOutRuns 10 = .ok (.iconst 0, 1) := by decide +kernel
theorem dX4_workOutRuns_11 : decode cX4_workOutRuns 11 = .ok (.istore_n 2, 1) := by decide +kernel
theorem dX4_workOutRuns_12 : decode cX4_workOutRuns 12 = .ok (.iload_n 2, 1) := by decide +kernel
theorem dX4_workOutRuns_13 : decode cX4_workOutRuns 13 = .ok (.aload_n 0, 1) := by decide +kernel
theorem dX4_workOutRuns_14 : decode cX4_workOutRuns 14 = .ok (.getfield 12, 3) := by decide +kernel
theorem dX4_workOutRuns_17 : decode cX4_workOutRuns 17 = .ok (.invokeinterface 54 1, 5) := by decide +kernel
theorem dX4_workOutRuns_22 : decode cX4_workOutRuns 22 = .ok (.if_icmp .ge 33, 3) := by decide +kernel
theorem dX4_workOutRuns_25 : decode cX4_workOutRuns 25 = .ok (.aload_n 0, 1) := by decide +kernel
theorem dX4_workOutRuns_26 : decode cX4_workOutRuns 26 = .ok (.getfield 12, 3) := by decide +kernel
theorem dX4_workOutRuns_29 : decode cX4_workOutRuns 29 = .ok (.iload_n 2, 1) := by decide +kernel
theorem dX4_workOutRuns_30 : decode cX4_workOutRuns 30 = .ok (.invokeinterface 60 2, 5) := by decide +kernel
theorem dX4_workOutRuns_35 : decode cX4_workOutRuns 35 = .ok (.checkcast 64, 3) := by decide +kernel
theorem dX4_workOutRuns_38 : decode cX4_workOutRuns 38 = .ok (.aload_n 0, 1) := by decide +kernel
theorem dX4_workOutRuns_39 : decode cX4_workOutRuns 39 = .ok (.getfield 50, 3) := by decide +kernel
theorem dX4_workOutRuns_42 : decode cX4_workOutRuns 42 = .ok (.aload_n 0, 1) := by decide +kernel
theorem dX4_workOutRuns_43 : decode cX4_workOutRuns 43 = .ok (.getfield 20, 3) := by decide +kernel
theorem dX4_workOutRuns_46 : decode cX4_workOutRuns 46 = .ok (.invokevirtual 66, 3) := by decide +kernel
theorem dX4_workOutRuns_49 : decode cX4_workOutRuns 49 = .ok (.iinc 2 1, 3) := by decide +kernel
theorem dX4_workOutRuns_52 : decode cX4_workOutRuns 52 = .ok (.goto (-40), 3) := by decide +kernel
theorem dX4_workOutRuns_55 : decode cX4_workOutRuns 55 = .ok (.return_, 1) := by decide +kernel
theorem dX4_spread_0 : decode cX4_spread 0 = .ok (.aload_n 0, 1) := by decide +kernel
theorem dX4_spread_1 : decode cX4_spread 1 = .ok (.getfield 26, 3) := by decide +kernel
theorem dX4_spread_4 : decode cX4_spread 4 = .ok (.iload_n 1, 1) := by decide +kernel
theorem dX4_spread_5 : decode cX4_spread 5 = .ok (.aaload, 1) := by decide +kernel
theorem dX4_spread_6 : decode cX4_spread 6 = .ok (.ldc 38, 2) := by decide +kernel
theorem dX4_spread_8 : decode cX4_spread 8 = .ok (.invokestatic 39, 3) := by decide +kernel
theorem dX4_spread_11 : decode cX4_spread 11 = .ok (.iconst 0, 1) := by decide +kernel
theorem dX4_spread_12 : decode cX4_spread 12 = .ok (.istore_n 3, 1) := by decide +kernel
theorem dX4_spread_13 : decode cX4_spread 13 = .ok (.iconst 0, 1) := by decide +kernel
theorem dX4_spread_14 : decode cX4_spread 14 = .ok (.istore 4, 2) := by decide +kernel
theorem dX4_spread_16 : decode cX4_spread 16 = .ok (.iload 4, 2) := by decide +kernel
theorem dX4_spread_18 : decode cX4_spread 18 = .ok (.aload_n 0, 1) := by decide +kernel
theorem dX4_spread_19 : decode cX4_spread 19 = .ok (.getfield 12, 3) := by decide +kernel
theorem dX4_spread_22 : decode cX4_spread 22 = .ok (.invokeinterface 54 1, 5) := by decide +kernel
theorem dX4_spread_27 : decode cX4_spread 27 = .ok (.if_icmp .ge 67, 3) := by decide +kernel
theorem dX4_spread_30 : decode cX4_spread 30 = .ok (.aload_n 0, 1) := by decide +kernel
theorem dX4_spread_31 : decode cX4_spread 31 = .ok (.getfield 12, 3) := by decide +kernel
theorem dX4_spread_34 : decode cX4_spread 34 = .ok (.iload 4, 2) := by decide +kernel
theorem dX4_spread_36 : decode cX4_spread 36 = .ok (.invokeinterface 60 2, 5) := by decide +kernel
theorem dX4_spread_41 : decode cX4_spread 41 = .ok (.checkcast 64, 3) := by decide +kernel
theorem dX4_spread_44 : decode cX4_spread 44 = .ok (.astore 5, 2) := by decide +kernel
theorem dX4_spread_46 : decode cX4_spread 46 = .ok (.iconst 0, 1) := by decide +kernel
theorem dX4_spread_47 : decode cX4_spread 47 = .ok (.istore 6, 2) := by decide +kernel
theorem dX4_spread_49 : decode cX4_spread 49 = .ok (.iload 6, 2) := by decide +kernel
theorem dX4_spread_51 : decode cX4_spread 51 = .ok (.bipush 13, 2) := by decide +kernel
theorem dX4_spread_53 : decode cX4_spread 53 = .ok (.if_icmp .ge 35, 3) := by decide +kernel
theorem dX4_spread_56 : decode cX4_spread 56 = .ok (.aload 5, 2) := by decide +kernel
theorem dX4_spread_58 : decode cX4_spread 58 = .ok (.getfield 69, 3) := by decide +kernel
theorem dX4_spread_61 : decode cX4_spread 61 = .ok (.iload 6, 2) := by decide +kernel
theorem dX4_spread_63 : decode cX4_spread 63 = .ok (.baload, 1) := by decide +kernel
theorem dX4_spread_64 : decode cX4_spread 64 = .ok (.ifCond .eq 18, 3) := by decide +kernel
theorem dX4_spread_67 : decode cX4_spread 67 = .ok (.aload_n 0, 1) := by decide +kernel
theorem dX4_spread_68 : decode cX4_spread 68 = .ok (.aload 5, 2) := by decide +kernel
theorem dX4_spread_70 : decode cX4_spread 70 = .ok (.iload 6, 2) := by decide +kernel
theorem dX4_spread_72 : decode cX4_spread 72 = .ok (.iload_n 1, 1) := by decide +kernel
theorem dX4_spread_73 : decode cX4_spread 73 = .ok (.iload_n 2, 1) := by decide +kernel
theorem dX4_spread_74 : decode cX4_spread 74 = .ok (.invokevirtual 73, 3) := by decide +kernel
theorem dX4_spread_77 : decode cX4_spread 77 = .ok (.ifCond .eq 5, 3) := by decide +kernel
theorem dX4_spread_80 : decode cX4_spread 80 = .ok (.iconst 1, 1) := by decide +kernel
theorem dX4_spread_81 : decode cX4_spread 81 = .ok (.istore_n 3, 1) := by decide +kernel
theorem dX4_spread_82 : decode cX4_spread 82 = .ok (.iinc 6 1, 3) := by decide +kernel
theorem dX4_spread_85 : decode cX4_spread 85 = .ok (.goto (-36), 3) := by decide +kernel
theorem dX4_spread_88 : decode cX4_spread 88 = .ok (.iinc 4 1, 3) := by decide +kernel
theorem dX4_spread_91 : decode cX4_spread 91 = .ok (.goto (-75), 3) := by decide +kernel
theorem dX4_spread_94 : decode cX4_spread 94 = .ok (.iload_n 3, 1) := by decide +kernel
theorem dX4_spread_95 : decode cX4_spread 95 = .ok (.ireturn, 1) := by decide +kernel
theorem dX4_ride_0 : decode cX4_ride 0 = .ok (.iconst 0, 1) := by decide +kernel
theorem dX4_ride_1 : decode cX4_ride 1 = .ok (.istore 5, 2) := by decide +kernel
theorem dX4_ride_3 : decode cX4_ride 3 = .ok (.ldc 38, 2) := by decide +kernel
theorem dX4_ride_5 : decode cX4_ride 5 = .ok (.istore 6, 2) := by decide +kernel
theorem dX4_ride_7 : decode cX4_ride 7 = .ok (.iconst 0, 1) := by decide +kernel
theorem dX4_ride_8 : decode cX4_ride 8 = .ok (.istore 7, 2) := by decide +kernel
theorem dX4_ride_10 : decode cX4_ride 10 = .ok (.iload 7, 2) := by decide +kernel
theorem dX4_ride_12 : decode cX4_ride 12 = .ok (.aload_n 1, 1) := by decide +kernel
theorem dX4_ride_13 : decode cX4_ride 13 = .ok (.getfield 77, 3) := by decide +kernel
theorem dX4_ride_16 : decode cX4_ride 16 = .ok (.if_icmp .ge 119, 3) := by decide +kernel
theorem dX4_ride_19 : decode cX4_ride 19 = .ok (.aload_n 1, 1) := by decide +kernel
theorem dX4_ride_20 : decode cX4_ride 20 = .ok (.getfield 80, 3) := by decide +kernel
theorem dX4_ride_23 : decode cX4_ride 23 = .ok (.iload 7, 2) := by decide +kernel
theorem dX4_ride_25 : decode cX4_ride 25 = .ok (.iaload, 1) := by decide +kernel
theorem dX4_ride_26 : decode cX4_ride 26 = .ok (.istore 8, 2) := by decide +kernel
theorem dX4_ride_28 : decode cX4_ride 28 = .ok (.aload_n 1, 1) := by decide +kernel
theorem dX4_ride_29 : decode cX4_ride 29 = .ok (.getfield 83, 3) := by decide +kernel
theorem dX4_ride_32 : decode cX4_ride 32 = .ok (.iload_n 2, 1) := by decide +kernel
theorem dX4_ride_33 : decode cX4_ride 33 = .ok (.aaload, 1) := by decide +kernel
theorem dX4_ride_34 : decode cX4_ride 34 = .ok (.iload 7, 2) := by decide +kernel
theorem dX4_ride_36 : decode cX4_ride 36 = .ok (.iaload, 1) := by decide +kernel
theorem dX4_ride_37 : decode cX4_ride 37 = .ok (.istore 9, 2) := by decide +kernel
theorem dX4_ride_39 : decode cX4_ride 39 = .ok (.iload 6, 2) := by decide +kernel
theorem dX4_ride_41 : decode cX4_ride 41 = .ok (.iload 9, 2) := by decide +kernel
theorem dX4_ride_43 : decode cX4_ride 43 = .ok (.if_icmp .gt 50, 3) := by decide +kernel
theorem dX4_ride_46 : decode cX4_ride 46 = .ok (.iload 9, 2) := by decide +kernel
theorem dX4_ride_48 : decode cX4_ride 48 = .ok (.aload_n 0, 1) := by decide +kernel
theorem dX4_ride_49 : decode cX4_ride 49 = .ok (.getfield 29, 3) := by decide +kernel
theorem dX4_ride_52 : decode cX4_ride 52 = .ok (.iload 8, 2) := by decide +kernel
theorem dX4_ride_54 : decode cX4_ride 54 = .ok (.iaload, 1) := by decide +kernel
theorem dX4_ride_55 : decode cX4_ride 55 = .ok (.if_icmp .ge 38, 3) := by decide +kernel
theorem dX4_ride_58 : decode cX4_ride 58 = .ok (.iload 9, 2) := by decide +kernel
theorem dX4_ride_60 : decode cX4_ride 60 = .ok (.aload_n 0, 1) := by decide +kernel
theorem dX4_ride_61 : decode cX4_ride 61 = .ok (.getfield 29, 3) := by decide +kernel
theorem dX4_ride_64 : decode cX4_ride 64 = .ok (.iload 4, 2) := by decide +kernel
theorem dX4_ride_66 : decode cX4_ride 66 = .ok (.iaload, 1) := by decide +kernel
theorem dX4_ride_67 : decode cX4_ride 67 = .ok (.if_icmp .ge 26, 3) := by decide +kernel
theorem dX4_ride_70 : decode cX4_ride 70 = .ok (.aload_n 0, 1) := by decide +kernel
theorem dX4_ride_71 : decode cX4_ride 71 = .ok (.getfield 29, 3) := by decide +kernel
theorem dX4_ride_74 : decode cX4_ride 74 = .ok (.iload 8, 2) := by decide +kernel
theorem dX4_ride_76 : decode cX4_ride 76 = .ok (.iload 9, 2) := by decide +kernel
theorem dX4_ride_78 : decode cX4_ride 78 = .ok (.iastore, 1) := by decide +kernel
theorem dX4_ride_79 : decode cX4_ride 79 = .ok (.aload_n 0, 1) := by decide +kernel
theorem dX4_ride_80 : decode cX4_ride 80 = .ok (.getfield 26, 3) := by decide +kernel
theorem dX4_ride_83 : decode cX4_ride 83 = .ok (.iload_n 3, 1) := by decide +kernel
theorem dX4_ride_84 : decode cX4_ride 84 = .ok (.aaload, 1) := by decide +kernel
theorem dX4_ride_85 : decode cX4_ride 85 = .ok (.iload 8, 2) := by decide +kernel
theorem dX4_ride_87 : decode cX4_ride 87 = .ok (.iload 9, 2) := by decide +kernel
theorem dX4_ride_89 : decode cX4_ride 89 = .ok (.iastore, 1) := by decide +kernel
theorem dX4_ride_90 : decode cX4_ride 90 = .ok (.iconst 1, 1) := by decide +kernel
theorem dX4_ride_91 : decode cX4_ride 91 = .ok (.istore 5, 2) := by decide +kernel
theorem dX4_ride_93 : decode cX4_ride 93 = .ok (.aload_n 1, 1) := by decide +kernel
theorem dX4_ride_94 : decode cX4_ride 94 = .ok (.getfield 84, 3) := by decide +kernel
theorem dX4_ride_97 : decode cX4_ride 97 = .ok (.iload_n 2, 1) := by decide +kernel
theorem dX4_ride_98 : decode cX4_ride 98 = .ok (.aaload, 1) := by decide +kernel
theorem dX4_ride_99 : decode cX4_ride 99 = .ok (.iload 7, 2) := by decide +kernel
theorem dX4_ride_101 : decode cX4_ride 101 = .ok (.iaload, 1) := by decide +kernel
theorem dX4_ride_102 : decode cX4_ride 102 = .ok (.istore 10, 2) := by decide +kernel
theorem dX4_ride_104 : decode cX4_ride 104 = .ok (.iload 10, 2) := by decide +kernel
theorem dX4_ride_106 : decode cX4_ride 106 = .ok (.iload 6, 2) := by decide +kernel
theorem dX4_ride_108 : decode cX4_ride 108 = .ok (.if_icmp .ge 21, 3) := by decide +kernel
theorem dX4_ride_111 : decode cX4_ride 111 = .ok (.aload_n 0, 1) := by decide +kernel
theorem dX4_ride_112 : decode cX4_ride 112 = .ok (.iload 8, 2) := by decide +kernel
theorem dX4_ride_114 : decode cX4_ride 114 = .ok (.iload 10, 2) := by decide +kernel
theorem dX4_ride_116 : decode cX4_ride 116 = .ok (.iload_n 3, 1) := by decide +kernel
theorem dX4_ride_117 : decode cX4_ride 117 = .ok (.iconst 1, 1) := by decide +kernel
theorem dX4_ride_118 : decode cX4_ride 118 = .ok (.isub, 1) := by decide +kernel
theorem dX4_ride_119 : decode cX4_ride 119 = .ok (.invokevirtual 87, 3) := by decide +kernel
theorem dX4_ride_122 : decode cX4_ride 122 = .ok (.ifCond .eq 7, 3) := by decide +kernel
theorem dX4_ride_125 : decode cX4_ride 125 = .ok (.iload 10, 2) := by decide +kernel
theorem dX4_ride_127 : decode cX4_ride 127 = .ok (.istore 6, 2) := by decide +kernel
theorem dX4_ride_129 : decode cX4_ride 129 = .ok (.iinc 7 1, 3) := by decide +kernel
theorem dX4_ride_132 : decode cX4_ride 132 = .ok (.goto (-122), 3) := by decide +kernel
theorem dX4_ride_135 : decode cX4_ride 135 = .ok (.iload 5, 2) := by decide +kernel
theorem dX4_ride_137 : decode cX4_ride 137 = .ok (.ireturn, 1) := by decide +kernel
theorem dX4_canEnter_0 : decode cX4_canEnter 0 = .ok (.aload_n 0, 1) := by decide +kernel
theorem dX4_canEnter_1 : decode cX4_canEnter 1 = .ok (.getfield 26, 3) := by decide +kernel
theorem dX4_canEnter_4 : decode cX4_canEnter 4 = .ok (.iload_n 3, 1) := by decide +kernel
theorem dX4_canEnter_5 : decode cX4_canEnter 5 = .ok (.aaload, 1) := by decide +kernel
theorem dX4_canEnter_6 : decode cX4_canEnter 6 = .ok (.iload_n 1, 1) := by decide +kernel
theorem dX4_canEnter_7 : decode cX4_canEnter 7 = .ok (.iaload, 1) := by decide +kernel
theorem dX4_canEnter_8 : decode cX4_canEnter 8 = .ok (.istore 4, 2) := by decide +kernel
theorem dX4_canEnter_10 : decode cX4_canEnter 10 = .ok (.iload 4, 2) := by decide +kernel
theorem dX4_canEnter_12 : decode cX4_canEnter 12 = .ok (.ldc 38, 2) := by decide +kernel
theorem dX4_canEnter_14 : decode cX4_canEnter 14 = .ok (.if_icmp .ne 5, 3) := by decide +kernel
theorem dX4_canEnter_17 : decode cX4_canEnter 17 = .ok (.iconst 0, 1) := by decide +kernel
theorem dX4_canEnter_18 : decode cX4_canEnter 18 = .ok (.ireturn, 1) := by decide +kernel
theorem dX4_canEnter_19 : decode cX4_canEnter 19 = .ok (.iload_n 2, 1) := by decide +kernel
theorem dX4_canEnter_20 : decode cX4_canEnter 20 = .ok (.iload_n 3, 1) := by decide +kernel
theorem dX4_canEnter_21 : decode cX4_canEnter 21 = .ok (.ifCond .ne 8, 3) := by decide +kernel
theorem dX4_canEnter_24 : decode cX4_canEnter 24 = .ok (.iload 4, 2) := by decide +kernel
theorem dX4_canEnter_26 : decode cX4_canEnter 26 = .ok (.goto 15, 3) := by decide +kernel
theorem dX4_canEnter_29 : decode cX4_canEnter 29 = .ok (.iload 4, 2) := by decide +kernel
theorem dX4_canEnter_31 : decode cX4_canEnter 31 = .ok (.aload_n 0, 1) := by decide +kernel
theorem dX4_canEnter_32 : decode cX4_canEnter 32 = .ok (.getfield 20, 3) := by decide +kernel
theorem dX4_canEnter_35 : decode cX4_canEnter 35 = .ok (.iload_n 1, 1) := by decide +kernel
theorem dX4_canEnter_36 : decode cX4_canEnter 36 = .ok (.aaload, 1) := by decide +kernel
theorem dX4_canEnter_37 : decode cX4_canEnter 37 = .ok (.getfield 91, 3) := by decide +kernel
theorem dX4_canEnter_40 : decode cX4_canEnter 40 = .ok (.iadd, 1) := by decide +kernel
theorem dX4_canEnter_41 : decode cX4_canEnter 41 = .ok (.if_icmp .lt 7, 3) := by decide +kernel
theorem dX4_canEnter_44 : decode cX4_canEnter 44 = .ok (.iconst 1, 1) := by decide +kernel
theorem dX4_canEnter_45 : decode cX4_canEnter 45 = .ok (.goto 4, 3) := by decide +kernel
theorem dX4_canEnter_48 : decode cX4_canEnter 48 = .ok (.iconst 0, 1) := by decide +kernel
theorem dX4_canEnter_49 : decode cX4_canEnter 49 = .ok (.ireturn, 1) := by decide +kernel
theorem dX4_tell_0 : decode cX4_tell 0 = .ok (.aload_n 1, 1) := by decide +kernel
theorem dX4_tell_1 : decode cX4_tell 1 = .ok (.iload_n 3, 1) := by decide +kernel
theorem dX4_tell_2 : decode cX4_tell 2 = .ok (.putfield 94, 3) := by decide +kernel
theorem dX4_tell_5 : decode cX4_tell 5 = .ok (.iload_n 2, 1) := by decide +kernel
theorem dX4_tell_6 : decode cX4_tell 6 = .ok (.istore 4, 2) := by decide +kernel
theorem dX4_tell_8 : decode cX4_tell 8 = .ok (.iload_n 3, 1) := by decide +kernel
theorem dX4_tell_9 : decode cX4_tell 9 = .ok (.istore 5, 2) := by decide +kernel
theorem dX4_tell_11 : decode cX4_tell 11 = .ok (.iload 5, 2) := by decide +kernel
theorem dX4_tell_13 : decode cX4_tell 13 = .ok (.ifCond .le 28, 3) := by decide +kernel
theorem dX4_tell_16 : decode cX4_tell 16 = .ok (.aload_n 0, 1) := by decide +kernel
theorem dX4_tell_17 : decode cX4_tell 17 = .ok (.aload_n 1, 1) := by decide +kernel
theorem dX4_tell_18 : decode cX4_tell 18 = .ok (.getfield 99, 3) := by decide +kernel
theorem dX4_tell_21 : decode cX4_tell 21 = .ok (.iload 5, 2) := by decide +kernel
theorem dX4_tell_23 : decode cX4_tell 23 = .ok (.iconst 1, 1) := by decide +kernel
theorem dX4_tell_24 : decode cX4_tell 24 = .ok (.isub, 1) := by decide +kernel
theorem dX4_tell_25 : decode cX4_tell 25 = .ok (.aaload, 1) := by decide +kernel
theorem dX4_tell_26 : decode cX4_tell 26 = .ok (.iload 4, 2) := by decide +kernel
theorem dX4_tell_28 : decode cX4_tell 28 = .ok (.iload 5, 2) := by decide +kernel
theorem dX4_tell_30 : decode cX4_tell 30 = .ok (.invokevirtual 102, 3) := by decide +kernel
theorem dX4_tell_33 : decode cX4_tell 33 = .ok (.istore 4, 2) := by decide +kernel
theorem dX4_tell_35 : decode cX4_tell 35 = .ok (.iinc 5 (-1), 3) := by decide +kernel
theorem dX4_tell_38 : decode cX4_tell 38 = .ok (.goto (-27), 3) := by decide +kernel
theorem dX4_tell_41 : decode cX4_tell 41 = .ok (.return_, 1) := by decide +kernel
theorem dX4_tellLastLeg_0 : decode cX4_tellLastLeg 0 = .ok (.iconst 0, 1) := by decide +kernel
theorem dX4_tellLastLeg_1 : decode cX4_tellLastLeg 1 = .ok (.istore 4, 2) := by decide +kernel
theorem dX4_tellLastLeg_3 : decode cX4_tellLastLeg 3 = .ok (.iload 4, 2) := by decide +kernel
theorem dX4_tellLastLeg_5 : decode cX4_tellLastLeg 5 = .ok (.aload_n 0, 1) := by decide +kernel
theorem dX4_tellLastLeg_6 : decode cX4_tellLastLeg 6 = .ok (.getfield 12, 3) := by decide +kernel
theorem dX4_tellLastLeg_9 : decode cX4_tellLastLeg 9 = .ok (.invokeinterface 54 1, 5) := by decide +kernel
theorem dX4_tellLastLeg_14 : decode cX4_tellLastLeg 14 = .ok (.if_icmp .ge 91, 3) := by decide +kernel
theorem dX4_tellLastLeg_17 : decode cX4_tellLastLeg 17 = .ok (.aload_n 0, 1) := by decide +kernel
theorem dX4_tellLastLeg_18 : decode cX4_tellLastLeg 18 = .ok (.getfield 12, 3) := by decide +kernel
theorem dX4_tellLastLeg_21 : decode cX4_tellLastLeg 21 = .ok (.iload 4, 2) := by decide +kernel
theorem dX4_tellLastLeg_23 : decode cX4_tellLastLeg 23 = .ok (.invokeinterface 60 2, 5) := by decide +kernel
theorem dX4_tellLastLeg_28 : decode cX4_tellLastLeg 28 = .ok (.checkcast 64, 3) := by decide +kernel
theorem dX4_tellLastLeg_31 : decode cX4_tellLastLeg 31 = .ok (.astore 5, 2) := by decide +kernel
theorem dX4_tellLastLeg_33 : decode cX4_tellLastLeg 33 = .ok (.iconst 0, 1) := by decide +kernel
theorem dX4_tellLastLeg_34 : decode cX4_tellLastLeg 34 = .ok (.istore 6, 2) := by decide +kernel
theorem dX4_tellLastLeg_36 : decode cX4_tellLastLeg 36 = .ok (.iload 6, 2) := by decide +kernel
theorem dX4_tellLastLeg_38 : decode cX4_tellLastLeg 38 = .ok (.bipush 13, 2) := by decide +kernel
theorem dX4_tellLastLeg_40 : decode cX4_tellLastLeg 40 = .ok (.if_icmp .ge 59, 3) := by decide +kernel
theorem dX4_tellLastLeg_43 : decode cX4_tellLastLeg 43 = .ok (.aload 5, 2) := by decide +kernel
theorem dX4_tellLastLeg_45 : decode cX4_tellLastLeg 45 = .ok (.getfield 69, 3) := by decide +kernel
theorem dX4_tellLastLeg_48 : decode cX4_tellLastLeg 48 = .ok (.iload 6, 2) := by decide +kernel
theorem dX4_tellLastLeg_50 : decode cX4_tellLastLeg 50 = .ok (.baload, 1) := by decide +kernel
theorem dX4_tellLastLeg_51 : decode cX4_tellLastLeg 51 = .ok (.ifCond .eq 42, 3) := by decide +kernel
theorem dX4_tellLastLeg_54 : decode cX4_tellLastLeg 54 = .ok (.aload_n 0, 1) := by decide +kernel
theorem dX4_tellLastLeg_55 : decode cX4_tellLastLeg 55 = .ok (.aload_n 1, 1) := by decide +kernel
theorem dX4_tellLastLeg_56 : decode cX4_tellLastLeg 56 = .ok (.aload 5, 2) := by decide +kernel
theorem dX4_tellLastLeg_58 : decode cX4_tellLastLeg 58 = .ok (.iload 6, 2) := by decide +kernel
theorem dX4_tellLastLeg_60 : decode cX4_tellLastLeg 60 = .ok (.iload_n 2, 1) := by decide +kernel
theorem dX4_tellLastLeg_61 : decode cX4_tellLastLeg 61 = .ok (.iload_n 3, 1) := by decide +kernel
theorem dX4_tellLastLeg_62 : decode cX4_tellLastLeg 62 = .ok (.invokevirtual 106, 3) := by decide +kernel
theorem dX4_tellLastLeg_65 : decode cX4_tellLastLeg 65 = .ok (.ifCond .eq 28, 3) := by decide +kernel
theorem dX4_tellLastLeg_68 : decode cX4_tellLastLeg 68 = .ok (.aload_n 1, 1) := by decide +kernel
theorem dX4_tellLastLeg_69 : decode cX4_tellLastLeg 69 = .ok (.iconst 0, 1) := by decide +kernel
theorem dX4_tellLastLeg_70 : decode cX4_tellLastLeg 70 = .ok (.iload 4, 2) := by decide +kernel
theorem dX4_tellLastLeg_72 : decode cX4_tellLastLeg 72 = .ok (.iastore, 1) := by decide +kernel
theorem dX4_tellLastLeg_73 : decode cX4_tellLastLeg 73 = .ok (.aload_n 1, 1) := by decide +kernel
theorem dX4_tellLastLeg_74 : decode cX4_tellLastLeg 74 = .ok (.iconst 1, 1) := by decide +kernel
theorem dX4_tellLastLeg_75 : decode cX4_tellLastLeg 75 = .ok (.aload_n 0, 1) := by decide +kernel
theorem dX4_tellLastLeg_76 : decode cX4_tellLastLeg 76 = .ok (.getfield 50, 3) := by decide +kernel
theorem dX4_tellLastLeg_79 : decode cX4_tellLastLeg 79 = .ok (.iload 6, 2) := by decide +kernel
theorem dX4_tellLastLeg_81 : decode cX4_tellLastLeg 81 = .ok (.iadd, 1) := by decide +kernel
theorem dX4_tellLastLeg_82 : decode cX4_tellLastLeg 82 = .ok (.iastore, 1) := by decide +kernel
theorem dX4_tellLastLeg_83 : decode cX4_tellLastLeg 83 = .ok (.aload 5, 2) := by decide +kernel
theorem dX4_tellLastLeg_85 : decode cX4_tellLastLeg 85 = .ok (.getfield 80, 3) := by decide +kernel
theorem dX4_tellLastLeg_88 : decode cX4_tellLastLeg 88 = .ok (.aload_n 1, 1) := by decide +kernel
theorem dX4_tellLastLeg_89 : decode cX4_tellLastLeg 89 = .ok (.iconst 2, 1) := by decide +kernel
theorem dX4_tellLastLeg_90 : decode cX4_tellLastLeg 90 = .ok (.iaload, 1) := by decide +kernel
theorem dX4_tellLastLeg_91 : decode cX4_tellLastLeg 91 = .ok (.iaload, 1) := by decide +kernel
theorem dX4_tellLastLeg_92 : decode cX4_tellLastLeg 92 = .ok (.ireturn, 1) := by decide +kernel
theorem dX4_tellLastLeg_93 : decode cX4_tellLastLeg 93 = .ok (.iinc 6 1, 3) := by decide +kernel
theorem dX4_tellLastLeg_96 : decode cX4_tellLastLeg 96 = .ok (.goto (-60), 3) := by decide +kernel
theorem dX4_tellLastLeg_99 : decode cX4_tellLastLeg 99 = .ok (.iinc 4 1, 3) := by decide +kernel
theorem dX4_tellLastLeg_102 : decode cX4_tellLastLeg 102 = .ok (.goto (-99), 3) := by decide +kernel
theorem dX4_tellLastLeg_105 : decode cX4_tellLastLeg 105 = .ok (.iload_n 2, 1) := by decide +kernel
theorem dX4_tellLastLeg_106 : decode cX4_tellLastLeg 106 = .ok (.ireturn, 1) := by decide +kernel
theorem dX4_findLeg_0 : decode cX4_findLeg 0 = .ok (.iconst 1, 1) := by decide +kernel
theorem dX4_findLeg_1 : decode cX4_findLeg 1 = .ok (.istore 6, 2) := by decide +kernel
theorem dX4_findLeg_3 : decode cX4_findLeg 3 = .ok (.iload 6, 2) := by decide +kernel
theorem dX4_findLeg_5 : decode cX4_findLeg 5 = .ok (.aload_n 2, 1) := by decide +kernel
theorem dX4_findLeg_6 : decode cX4_findLeg 6 = .ok (.getfield 77, 3) := by decide +kernel
theorem dX4_findLeg_9 : decode cX4_findLeg 9 = .ok (.if_icmp .ge 99, 3) := by decide +kernel
theorem dX4_findLeg_12 : decode cX4_findLeg 12 = .ok (.aload_n 2, 1) := by decide +kernel
theorem dX4_findLeg_13 : decode cX4_findLeg 13 = .ok (.getfield 83, 3) := by decide +kernel
theorem dX4_findLeg_16 : decode cX4_findLeg 16 = .ok (.iload_n 3, 1) := by decide +kernel
theorem dX4_findLeg_17 : decode cX4_findLeg 17 = .ok (.aaload, 1) := by decide +kernel
theorem dX4_findLeg_18 : decode cX4_findLeg 18 = .ok (.iload 6, 2) := by decide +kernel
theorem dX4_findLeg_20 : decode cX4_findLeg 20 = .ok (.iaload, 1) := by decide +kernel
theorem dX4_findLeg_21 : decode cX4_findLeg 21 = .ok (.istore 7, 2) := by decide +kernel
theorem dX4_findLeg_23 : decode cX4_findLeg 23 = .ok (.aload_n 2, 1) := by decide +kernel
theorem dX4_findLeg_24 : decode cX4_findLeg 24 = .ok (.getfield 80, 3) := by decide +kernel
theorem dX4_findLeg_27 : decode cX4_findLeg 27 = .ok (.iload 6, 2) := by decide +kernel
theorem dX4_findLeg_29 : decode cX4_findLeg 29 = .ok (.iaload, 1) := by decide +kernel
theorem dX4_findLeg_30 : decode cX4_findLeg 30 = .ok (.iload 4, 2) := by decide +kernel
theorem dX4_findLeg_32 : decode cX4_findLeg 32 = .ok (.if_icmp .ne 70, 3) := by decide +kernel
theorem dX4_findLeg_35 : decode cX4_findLeg 35 = .ok (.iload 7, 2) := by decide +kernel
theorem dX4_findLeg_37 : decode cX4_findLeg 37 = .ok (.aload_n 0, 1) := by decide +kernel
theorem dX4_findLeg_38 : decode cX4_findLeg 38 = .ok (.getfield 26, 3) := by decide +kernel
theorem dX4_findLeg_41 : decode cX4_findLeg 41 = .ok (.iload 5, 2) := by decide +kernel
theorem dX4_findLeg_43 : decode cX4_findLeg 43 = .ok (.aaload, 1) := by decide +kernel
theorem dX4_findLeg_44 : decode cX4_findLeg 44 = .ok (.iload 4, 2) := by decide +kernel
theorem dX4_findLeg_46 : decode cX4_findLeg 46 = .ok (.iaload, 1) := by decide +kernel
theorem dX4_findLeg_47 : decode cX4_findLeg 47 = .ok (.if_icmp .eq 6, 3) := by decide +kernel
theorem dX4_findLeg_50 : decode cX4_findLeg 50 = .ok (.goto 52, 3) := by decide +kernel
theorem dX4_findLeg_53 : decode cX4_findLeg 53 = .ok (.aload_n 0, 1) := by decide +kernel
theorem dX4_findLeg_54 : decode cX4_findLeg 54 = .ok (.aload_n 2, 1) := by decide +kernel
theorem dX4_findLeg_55 : decode cX4_findLeg 55 = .ok (.iload_n 3, 1) := by decide +kernel
theorem dX4_findLeg_56 : decode cX4_findLeg 56 = .ok (.iload 6, 2) := by decide +kernel
theorem dX4_findLeg_58 : decode cX4_findLeg 58 = .ok (.iload 5, 2) := by decide +kernel
theorem dX4_findLeg_60 : decode cX4_findLeg 60 = .ok (.iconst 1, 1) := by decide +kernel
theorem dX4_findLeg_61 : decode cX4_findLeg 61 = .ok (.isub, 1) := by decide +kernel
theorem dX4_findLeg_62 : decode cX4_findLeg 62 = .ok (.invokevirtual 110, 3) := by decide +kernel
theorem dX4_findLeg_65 : decode cX4_findLeg 65 = .ok (.istore 8, 2) := by decide +kernel
theorem dX4_findLeg_67 : decode cX4_findLeg 67 = .ok (.iload 8, 2) := by decide +kernel
theorem dX4_findLeg_69 : decode cX4_findLeg 69 = .ok (.iconst (-1), 1) := by decide +kernel
theorem dX4_findLeg_70 : decode cX4_findLeg 70 = .ok (.if_icmp .eq 32, 3) := by decide +kernel
theorem dX4_findLeg_73 : decode cX4_findLeg 73 = .ok (.aload_n 1, 1) := by decide +kernel
theorem dX4_findLeg_74 : decode cX4_findLeg 74 = .ok (.iconst 2, 1) := by decide +kernel
theorem dX4_findLeg_75 : decode cX4_findLeg 75 = .ok (.iload 8, 2) := by decide +kernel
theorem dX4_findLeg_77 : decode cX4_findLeg 77 = .ok (.iastore, 1) := by decide +kernel
theorem dX4_findLeg_78 : decode cX4_findLeg 78 = .ok (.aload_n 1, 1) := by decide +kernel
theorem dX4_findLeg_79 : decode cX4_findLeg 79 = .ok (.iconst 3, 1) := by decide +kernel
theorem dX4_findLeg_80 : decode cX4_findLeg 80 = .ok (.iload 6, 2) := by decide +kernel
theorem dX4_findLeg_82 : decode cX4_findLeg 82 = .ok (.iastore, 1) := by decide +kernel
theorem dX4_findLeg_83 : decode cX4_findLeg 83 = .ok (.aload_n 1, 1) := by decide +kernel
theorem dX4_findLeg_84 : decode cX4_findLeg 84 = .ok (.iconst 4, 1) := by decide +kernel
theorem dX4_findLeg_85 : decode cX4_findLeg 85 = .ok (.aload_n 2, 1) := by decide +kernel
theorem dX4_findLeg_86 : decode cX4_findLeg 86 = .ok (.getfield 84, 3) := by decide +kernel
theorem dX4_findLeg_89 : decode cX4_findLeg 89 = .ok (.iload_n 3, 1) := by decide +kernel
theorem dX4_findLeg_90 : decode cX4_findLeg 90 = .ok (.aaload, 1) := by decide +kernel
theorem dX4_findLeg_91 : decode cX4_findLeg 91 = .ok (.iload 8, 2) := by decide +kernel
theorem dX4_findLeg_93 : decode cX4_findLeg 93 = .ok (.iaload, 1) := by decide +kernel
theorem dX4_findLeg_94 : decode cX4_findLeg 94 = .ok (.iastore, 1) := by decide +kernel
theorem dX4_findLeg_95 : decode cX4_findLeg 95 = .ok (.aload_n 1, 1) := by decide +kernel
theorem dX4_findLeg_96 : decode cX4_findLeg 96 = .ok (.iconst 5, 1) := by decide +kernel
theorem dX4_findLeg_97 : decode cX4_findLeg 97 = .ok (.iload 7, 2) := by decide +kernel
theorem dX4_findLeg_99 : decode cX4_findLeg 99 = .ok (.iastore, 1) := by decide +kernel
theorem dX4_findLeg_100 : decode cX4_findLeg 100 = .ok (.iconst 1, 1) := by decide +kernel
theorem dX4_findLeg_101 : decode cX4_findLeg 101 = .ok (.ireturn, 1) := by decide +kernel
theorem dX4_findLeg_102 : decode cX4_findLeg 102 = .ok (.iinc 6 1, 3) := by decide +kernel
theorem dX4_findLeg_105 : decode cX4_findLeg 105 = .ok (.goto (-102), 3) := by decide +kernel
theorem dX4_findLeg_108 : decode cX4_findLeg 108 = .ok (.iconst 0, 1) := by decide +kernel
theorem dX4_findLeg_109 : decode cX4_findLeg 109 = .ok (.ireturn, 1) := by decide +kernel
theorem dX4_findEntry_0 : decode cX4_findEntry 0 = .ok (.iconst 0, 1) := by decide +kernel
theorem dX4_findEntry_1 : decode cX4_findEntry 1 = .ok (.istore 5, 2) := by decide +kernel
theorem dX4_findEntry_3 : decode cX4_findEntry 3 = .ok (.iload 5, 2) := by decide +kernel
theorem dX4_findEntry_5 : decode cX4_findEntry 5 = .ok (.iload_n 3, 1) := by decide +kernel
theorem dX4_findEntry_6 : decode cX4_findEntry 6 = .ok (.if_icmp .ge 54, 3) := by decide +kernel
theorem dX4_findEntry_9 : decode cX4_findEntry 9 = .ok (.aload_n 1, 1) := by decide +kernel
theorem dX4_findEntry_10 : decode cX4_findEntry 10 = .ok (.getfield 84, 3) := by decide +kernel
theorem dX4_findEntry_13 : decode cX4_findEntry 13 = .ok (.iload_n 2, 1) := by decide +kernel
theorem dX4_findEntry_14 : decode cX4_findEntry 14 = .ok (.aaload, 1) := by decide +kernel
theorem dX4_findEntry_15 : decode cX4_findEntry 15 = .ok (.iload 5, 2) := by decide +kernel
theorem dX4_findEntry_17 : decode cX4_findEntry 17 = .ok (.iaload, 1) := by decide +kernel
theorem dX4_findEntry_18 : decode cX4_findEntry 18 = .ok (.istore 6, 2) := by decide +kernel
theorem dX4_findEntry_20 : decode cX4_findEntry 20 = .ok (.iload 6, 2) := by decide +kernel
theorem dX4_findEntry_22 : decode cX4_findEntry 22 = .ok (.aload_n 1, 1) := by decide +kernel
theorem dX4_findEntry_23 : decode cX4_findEntry 23 = .ok (.getfield 83, 3) := by decide +kernel
theorem dX4_findEntry_26 : decode cX4_findEntry 26 = .ok (.iload_n 2, 1) := by decide +kernel
theorem dX4_findEntry_27 : decode cX4_findEntry 27 = .ok (.aaload, 1) := by decide +kernel
theorem dX4_findEntry_28 : decode cX4_findEntry 28 = .ok (.iload_n 3, 1) := by decide +kernel
theorem dX4_findEntry_29 : decode cX4_findEntry 29 = .ok (.iaload, 1) := by decide +kernel
theorem dX4_findEntry_30 : decode cX4_findEntry 30 = .ok (.if_icmp .gt 24, 3) := by decide +kernel
theorem dX4_findEntry_33 : decode cX4_findEntry 33 = .ok (.aload_n 0, 1) := by decide +kernel
theorem dX4_findEntry_34 : decode cX4_findEntry 34 = .ok (.aload_n 1, 1) := by decide +kernel
theorem dX4_findEntry_35 : decode cX4_findEntry 35 = .ok (.getfield 80, 3) := by decide +kernel
theorem dX4_findEntry_38 : decode cX4_findEntry 38 = .ok (.iload 5, 2) := by decide +kernel
theorem dX4_findEntry_40 : decode cX4_findEntry 40 = .ok (.iaload, 1) := by decide +kernel
theorem dX4_findEntry_41 : decode cX4_findEntry 41 = .ok (.iload 6, 2) := by decide +kernel
theorem dX4_findEntry_43 : decode cX4_findEntry 43 = .ok (.iload 4, 2) := by decide +kernel
theorem dX4_findEntry_45 : decode cX4_findEntry 45 = .ok (.invokevirtual 87, 3) := by decide +kernel
theorem dX4_findEntry_48 : decode cX4_findEntry 48 = .ok (.ifCond .eq 6, 3) := by decide +kernel
theorem dX4_findEntry_51 : decode cX4_findEntry 51 = .ok (.iload 5, 2) := by decide +kernel
theorem dX4_findEntry_53 : decode cX4_findEntry 53 = .ok (.ireturn, 1) := by decide +kernel
theorem dX4_findEntry_54 : decode cX4_findEntry 54 = .ok (.iinc 5 1, 3) := by decide +kernel
theorem dX4_findEntry_57 : decode cX4_findEntry 57 = .ok (.goto (-54), 3) := by decide +kernel
theorem dX4_findEntry_60 : decode cX4_findEntry 60 = .ok (.iconst (-1), 1) := by decide +kernel
theorem dX4_findEntry_61 : decode cX4_findEntry 61 = .ok (.ireturn, 1) := by decide +kernel
theorem dX4_gather_0 : decode cX4_gather 0 = .ok (.aload_n 0, 1) := by decide +kernel
theorem dX4_gather_1 : decode cX4_gather 1 = .ok (.iload 4, 2) := by decide +kernel
theorem dX4_gather_3 : decode cX4_gather 3 = .ok (.invokevirtual 34, 3) := by decide +kernel
theorem dX4_gather_6 : decode cX4_gather 6 = .ok (.iconst 0, 1) := by decide +kernel
theorem dX4_gather_7 : decode cX4_gather 7 = .ok (.istore 5, 2) := by decide +kernel
theorem dX4_gather_9 : decode cX4_gather 9 = .ok (.iload 5, 2) := by decide +kernel
theorem dX4_gather_11 : decode cX4_gather 11 = .ok (.aload_n 0, 1) := by decide +kernel
theorem dX4_gather_12 : decode cX4_gather 12 = .ok (.getfield 12, 3) := by decide +kernel
theorem dX4_gather_15 : decode cX4_gather 15 = .ok (.invokeinterface 54 1, 5) := by decide +kernel
theorem dX4_gather_20 : decode cX4_gather 20 = .ok (.if_icmp .ge 65, 3) := by decide +kernel
theorem dX4_gather_23 : decode cX4_gather 23 = .ok (.aload_n 0, 1) := by decide +kernel
theorem dX4_gather_24 : decode cX4_gather 24 = .ok (.getfield 12, 3) := by decide +kernel
theorem dX4_gather_27 : decode cX4_gather 27 = .ok (.iload 5, 2) := by decide +kernel
theorem dX4_gather_29 : decode cX4_gather 29 = .ok (.invokeinterface 60 2, 5) := by decide +kernel
theorem dX4_gather_34 : decode cX4_gather 34 = .ok (.checkcast 64, 3) := by decide +kernel
theorem dX4_gather_37 : decode cX4_gather 37 = .ok (.astore 6, 2) := by decide +kernel
theorem dX4_gather_39 : decode cX4_gather 39 = .ok (.iconst 0, 1) := by decide +kernel
theorem dX4_gather_40 : decode cX4_gather 40 = .ok (.istore 7, 2) := by decide +kernel
theorem dX4_gather_42 : decode cX4_gather 42 = .ok (.iload 7, 2) := by decide +kernel
theorem dX4_gather_44 : decode cX4_gather 44 = .ok (.bipush 13, 2) := by decide +kernel
theorem dX4_gather_46 : decode cX4_gather 46 = .ok (.if_icmp .ge 33, 3) := by decide +kernel
theorem dX4_gather_49 : decode cX4_gather 49 = .ok (.aload 6, 2) := by decide +kernel
theorem dX4_gather_51 : decode cX4_gather 51 = .ok (.getfield 69, 3) := by decide +kernel
theorem dX4_gather_54 : decode cX4_gather 54 = .ok (.iload 7, 2) := by decide +kernel
theorem dX4_gather_56 : decode cX4_gather 56 = .ok (.baload, 1) := by decide +kernel
theorem dX4_gather_57 : decode cX4_gather 57 = .ok (.ifCond .eq 16, 3) := by decide +kernel
theorem dX4_gather_60 : decode cX4_gather 60 = .ok (.aload_n 0, 1) := by decide +kernel
theorem dX4_gather_61 : decode cX4_gather 61 = .ok (.aload_n 1, 1) := by decide +kernel
theorem dX4_gather_62 : decode cX4_gather 62 = .ok (.aload 6, 2) := by decide +kernel
theorem dX4_gather_64 : decode cX4_gather 64 = .ok (.iload 7, 2) := by decide +kernel
theorem dX4_gather_66 : decode cX4_gather 66 = .ok (.iload_n 2, 1) := by decide +kernel
theorem dX4_gather_67 : decode cX4_gather 67 = .ok (.iload_n 3, 1) := by decide +kernel
theorem dX4_gather_68 : decode cX4_gather 68 = .ok (.iload 4, 2) := by decide +kernel
theorem dX4_gather_70 : decode cX4_gather 70 = .ok (.invokevirtual 114, 3) := by decide +kernel
theorem dX4_gather_73 : decode cX4_gather 73 = .ok (.iinc 7 1, 3) := by decide +kernel
theorem dX4_gather_76 : decode cX4_gather 76 = .ok (.goto (-34), 3) := by decide +kernel
theorem dX4_gather_79 : decode cX4_gather 79 = .ok (.iinc 5 1, 3) := by decide +kernel
theorem dX4_gather_82 : decode cX4_gather 82 = .ok (.goto (-73), 3) := by decide +kernel
theorem dX4_gather_85 : decode cX4_gather 85 = .ok (.return_, 1) := by decide +kernel
theorem dX4_gatherRun_0 : decode cX4_gatherRun 0 = .ok (.iconst 0, 1) := by decide +kernel
theorem dX4_gatherRun_1 : decode cX4_gatherRun 1 = .ok (.istore 7, 2) := by decide +kernel
theorem dX4_gatherRun_3 : decode cX4_gatherRun 3 = .ok (.iload 7, 2) := by decide +kernel
theorem dX4_gatherRun_5 : decode cX4_gatherRun 5 = .ok (.aload_n 2, 1) := by decide +kernel
theorem dX4_gatherRun_6 : decode cX4_gatherRun 6 = .ok (.getfield 77, 3) := by decide +kernel
theorem dX4_gatherRun_9 : decode cX4_gatherRun 9 = .ok (.if_icmp .ge 95, 3) := by decide +kernel
theorem dX4_gatherRun_12 : decode cX4_gatherRun 12 = .ok (.aload_n 2, 1) := by decide +kernel
theorem dX4_gatherRun_13 : decode cX4_gatherRun 13 = .ok (.getfield 84, 3) := by decide +kernel
theorem dX4_gatherRun_16 : decode cX4_gatherRun 16 = .ok (.iload_n 3, 1) := by decide +kernel
theorem dX4_gatherRun_17 : decode cX4_gatherRun 17 = .ok (.aaload, 1) := by decide +kernel
theorem dX4_gatherRun_18 : decode cX4_gatherRun 18 = .ok (.iload 7, 2) := by decide +kernel
theorem dX4_gatherRun_20 : decode cX4_gatherRun 20 = .ok (.iaload, 1) := by decide +kernel
theorem dX4_gatherRun_21 : decode cX4_gatherRun 21 = .ok (.istore 8, 2) := by decide +kernel
theorem dX4_gatherRun_23 : decode cX4_gatherRun 23 = .ok (.aload_n 2, 1) := by decide +kernel
theorem dX4_gatherRun_24 : decode cX4_gatherRun 24 = .ok (.getfield 80, 3) := by decide +kernel
theorem dX4_gatherRun_27 : decode cX4_gatherRun 27 = .ok (.iload 7, 2) := by decide +kernel
theorem dX4_gatherRun_29 : decode cX4_gatherRun 29 = .ok (.iaload, 1) := by decide +kernel
theorem dX4_gatherRun_30 : decode cX4_gatherRun 30 = .ok (.iload 4, 2) := by decide +kernel
theorem dX4_gatherRun_32 : decode cX4_gatherRun 32 = .ok (.if_icmp .ne 66, 3) := by decide +kernel
theorem dX4_gatherRun_35 : decode cX4_gatherRun 35 = .ok (.iload 8, 2) := by decide +kernel
theorem dX4_gatherRun_37 : decode cX4_gatherRun 37 = .ok (.iload 6, 2) := by decide +kernel
theorem dX4_gatherRun_39 : decode cX4_gatherRun 39 = .ok (.if_icmp .ge 6, 3) := by decide +kernel
theorem dX4_gatherRun_42 : decode cX4_gatherRun 42 = .ok (.goto 56, 3) := by decide +kernel
theorem dX4_gatherRun_45 : decode cX4_gatherRun 45 = .ok (.iload 7, 2) := by decide +kernel
theorem dX4_gatherRun_47 : decode cX4_gatherRun 47 = .ok (.iconst 1, 1) := by decide +kernel
theorem dX4_gatherRun_48 : decode cX4_gatherRun 48 = .ok (.iadd, 1) := by decide +kernel
theorem dX4_gatherRun_49 : decode cX4_gatherRun 49 = .ok (.istore 9, 2) := by decide +kernel
theorem dX4_gatherRun_51 : decode cX4_gatherRun 51 = .ok (.iload 9, 2) := by decide +kernel
theorem dX4_gatherRun_53 : decode cX4_gatherRun 53 = .ok (.aload_n 2, 1) := by decide +kernel
theorem dX4_gatherRun_54 : decode cX4_gatherRun 54 = .ok (.getfield 77, 3) := by decide +kernel
theorem dX4_gatherRun_57 : decode cX4_gatherRun 57 = .ok (.if_icmp .ge 41, 3) := by decide +kernel
theorem dX4_gatherRun_60 : decode cX4_gatherRun 60 = .ok (.aload_n 2, 1) := by decide +kernel
theorem dX4_gatherRun_61 : decode cX4_gatherRun 61 = .ok (.getfield 80, 3) := by decide +kernel
theorem dX4_gatherRun_64 : decode cX4_gatherRun 64 = .ok (.iload 9, 2) := by decide +kernel
theorem dX4_gatherRun_66 : decode cX4_gatherRun 66 = .ok (.iaload, 1) := by decide +kernel
theorem dX4_gatherRun_67 : decode cX4_gatherRun 67 = .ok (.iload 5, 2) := by decide +kernel
theorem dX4_gatherRun_69 : decode cX4_gatherRun 69 = .ok (.if_icmp .ne 23, 3) := by decide +kernel
theorem dX4_gatherRun_72 : decode cX4_gatherRun 72 = .ok (.aload_n 2, 1) := by decide +kernel
theorem dX4_gatherRun_73 : decode cX4_gatherRun 73 = .ok (.getfield 83, 3) := by decide +kernel
theorem dX4_gatherRun_76 : decode cX4_gatherRun 76 = .ok (.iload_n 3, 1) := by decide +kernel
theorem dX4_gatherRun_77 : decode cX4_gatherRun 77 = .ok (.aaload, 1) := by decide +kernel
theorem dX4_gatherRun_78 : decode cX4_gatherRun 78 = .ok (.iload 9, 2) := by decide +kernel
theorem dX4_gatherRun_80 : decode cX4_gatherRun 80 = .ok (.iaload, 1) := by decide +kernel
theorem dX4_gatherRun_81 : decode cX4_gatherRun 81 = .ok (.iload 8, 2) := by decide +kernel
theorem dX4_gatherRun_83 : decode cX4_gatherRun 83 = .ok (.if_icmp .lt 9, 3) := by decide +kernel
theorem dX4_gatherRun_86 : decode cX4_gatherRun 86 = .ok (.aload_n 1, 1) := by decide +kernel
theorem dX4_gatherRun_87 : decode cX4_gatherRun 87 = .ok (.iload 8, 2) := by decide +kernel
theorem dX4_gatherRun_89 : decode cX4_gatherRun 89 = .ok (.invokevirtual 118, 3) := by decide +kernel
theorem dX4_gatherRun_92 : decode cX4_gatherRun 92 = .ok (.iinc 9 1, 3) := by decide +kernel
theorem dX4_gatherRun_95 : decode cX4_gatherRun 95 = .ok (.goto (-44), 3) := by decide +kernel
theorem dX4_gatherRun_98 : decode cX4_gatherRun 98 = .ok (.iinc 7 1, 3) := by decide +kernel
theorem dX4_gatherRun_101 : decode cX4_gatherRun 101 = .ok (.goto (-98), 3) := by decide +kernel
theorem dX4_gatherRun_104 : decode cX4_gatherRun 104 = .ok (.return_, 1) := by decide +kernel
theorem dX5_init_0 : decode cX5_init 0 = .ok (.aload_n 0, 1) := by decide +kernel
theorem dX5_init_1 : decode cX5_init 1 = .ok (.invokespecial 1, 3) := by decide +kernel
theorem dX5_init_4 : decode cX5_init 4 = .ok (.return_, 1) := by decide +kernel
theorem dX5_rowFrom_0 : decode cX5_rowFrom 0 = .ok (.aload_n 0, 1) := by decide +kernel
theorem dX5_rowFrom_1 : decode cX5_rowFrom 1 = .ok (.getfield 7, 3) := by decide +kernel
theorem dX5_rowFrom_4 : decode cX5_rowFrom 4 = .ok (.astore_n 2, 1) := by decide +kernel
theorem dX5_rowFrom_5 : decode cX5_rowFrom 5 = .ok (.aload_n 2, 1) := by decide +kernel
theorem dX5_rowFrom_6 : decode cX5_rowFrom 6 = .ok (.ifnull 21, 3) := by decide +kernel
theorem dX5_rowFrom_9 : decode cX5_rowFrom 9 = .ok (.aload_n 2, 1) := by decide +kernel
theorem dX5_rowFrom_10 : decode cX5_rowFrom 10 = .ok (.getfield 13, 3) := by decide +kernel
theorem dX5_rowFrom_13 : decode cX5_rowFrom 13 = .ok (.iload_n 1, 1) := by decide +kernel
theorem dX5_rowFrom_14 : decode cX5_rowFrom 14 = .ok (.if_icmp .ne 5, 3) := by decide +kernel
theorem dX5_rowFrom_17 : decode cX5_rowFrom 17 = .ok (.aload_n 2, 1) := by decide +kernel
theorem dX5_rowFrom_18 : decode cX5_rowFrom 18 = .ok (.areturn, 1) := by decide +kernel
theorem dX5_rowFrom_19 : decode cX5_rowFrom 19 = .ok (.aload_n 2, 1) := by decide +kernel
theorem dX5_rowFrom_20 : decode cX5_rowFrom 20 = .ok (.getfield 19, 3) := by decide +kernel
theorem dX5_rowFrom_23 : decode cX5_rowFrom 23 = .ok (.astore_n 2, 1) := by decide +kernel
theorem dX5_rowFrom_24 : decode cX5_rowFrom 24 = .ok (.goto (-19), 3) := by decide +kernel
theorem dX5_rowFrom_27 : decode cX5_rowFrom 27 = .ok (.aconst_null, 1) := by decide +kernel
theorem dX5_rowFrom_28 : decode cX5_rowFrom 28 = .ok (.areturn, 1) := by decide +kernel
theorem dX5_addRow_0 : decode cX5_addRow 0 = .ok (.aconst_null, 1) := by decide +kernel
theorem dX5_addRow_1 : decode cX5_addRow 1 = .ok (.astore_n 3, 1) := by decide +kernel
theorem dX5_addRow_2 : decode cX5_addRow 2 = .ok (.aload_n 0, 1) := by decide +kernel
theorem dX5_addRow_3 : decode cX5_addRow 3 = .ok (.getfield 7, 3) := by decide +kernel
theorem dX5_addRow_6 : decode cX5_addRow 6 = .ok (.astore 4, 2) := by decide +kernel
theorem dX5_addRow_8 : decode cX5_addRow 8 = .ok (.aload 4, 2) := by decide +kernel
theorem dX5_addRow_10 : decode cX5_addRow 10 = .ok (.ifnull 25, 3) := by decide +kernel
theorem dX5_addRow_13 : decode cX5_addRow 13 = .ok (.aload 4, 2) := by decide +kernel
theorem dX5_addRow_15 : decode cX5_addRow 15 = .ok (.getfield 13, 3) := by decide +kernel
theorem dX5_addRow_18 : decode cX5_addRow 18 = .ok (.iload_n 1, 1) := by decide +kernel
theorem dX5_addRow_19 : decode cX5_addRow 19 = .ok (.if_icmp .le 16, 3) := by decide +kernel
theorem dX5_addRow_22 : decode cX5_addRow 22 = .ok (.aload 4, 2) := by decide +kernel
theorem dX5_addRow_24 : decode cX5_addRow 24 = .ok (.astore_n 3, 1) := by decide +kernel
theorem dX5_addRow_25 : decode cX5_addRow 25 = .ok (.aload 4, 2) := by decide +kernel
theorem dX5_addRow_27 : decode cX5_addRow 27 = .ok (.getfield 19, 3) := by decide +kernel
theorem dX5_addRow_30 : decode cX5_addRow 30 = .ok (.astore 4, 2) := by decide +kernel
theorem dX5_addRow_32 : decode cX5_addRow 32 = .ok (.goto (-24), 3) := by decide +kernel
theorem dX5_addRow_35 : decode cX5_addRow 35 = .ok (.aload_n 3, 1) := by decide +kernel
theorem dX5_addRow_36 : decode cX5_addRow 36 = .ok (.ifnonnull 23, 3) := by decide +kernel
theorem dX5_addRow_39 : decode cX5_addRow 39 = .ok (.aload_n 0, 1) := by decide +kernel
theorem dX5_addRow_40 : decode cX5_addRow 40 = .ok (.new 14, 3) := by decide +kernel
theorem dX5_addRow_43 : decode cX5_addRow 43 = .ok (.dup, 1) := by decide +kernel
theorem dX5_addRow_44 : decode cX5_addRow 44 = .ok (.iload_n 1, 1) := by decide +kernel
theorem dX5_addRow_45 : decode cX5_addRow 45 = .ok (.iload_n 2, 1) := by decide +kernel
theorem dX5_addRow_46 : decode cX5_addRow 46 = .ok (.aload_n 0, 1) := by decide +kernel
theorem dX5_addRow_47 : decode cX5_addRow 47 = .ok (.getfield 7, 3) := by decide +kernel
theorem dX5_addRow_50 : decode cX5_addRow 50 = .ok (.invokespecial 22, 3) := by decide +kernel
theorem dX5_addRow_53 : decode cX5_addRow 53 = .ok (.putfield 7, 3) := by decide +kernel
theorem dX5_addRow_56 : decode cX5_addRow 56 = .ok (.goto 20, 3) := by decide +kernel
theorem dX5_addRow_59 : decode cX5_addRow 59 = .ok (.aload_n 3, 1) := by decide +kernel
theorem dX5_addRow_60 : decode cX5_addRow 60 = .ok (.new 14, 3) := by decide +kernel
theorem dX5_addRow_63 : decode cX5_addRow 63 = .ok (.dup, 1) := by decide +kernel
theorem dX5_addRow_64 : decode cX5_addRow 64 = .ok (.iload_n 1, 1) := by decide +kernel
theorem dX5_addRow_65 : decode cX5_addRow 65 = .ok (.iload_n 2, 1) := by decide +kernel
theorem dX5_addRow_66 : decode cX5_addRow 66 = .ok (.aload_n 3, 1) := by decide +kernel
theorem dX5_addRow_67 : decode cX5_addRow 67 = .ok (.getfield 19, 3) := by decide +kernel
theorem dX5_addRow_70 : decode cX5_addRow 70 = .ok (.invokespecial 22, 3) := by decide +kernel
theorem dX5_addRow_73 : decode cX5_addRow 73 = .ok (.putfield 19, 3) := by decide +kernel
theorem dX5_addRow_76 : decode cX5_addRow 76 = .ok (.aload_n 0, 1) := by decide +kernel
theorem dX5_addRow_77 : decode cX5_addRow 77 = .ok (.dup, 1) := by decide +kernel
theorem dX5_addRow_78 : decode cX5_addRow 78 = .ok (.getfield 25, 3) := by decide +kernel
theorem dX5_addRow_81 : decode cX5_addRow 81 = .ok (.iconst 1, 1) := by decide +kernel
theorem dX5_addRow_82 : decode cX5_addRow 82 = .ok (.iadd, 1) := by decide +kernel
theorem dX5_addRow_83 : decode cX5_addRow 83 = .ok (.putfield 25, 3) := by decide +kernel
theorem dX5_addRow_86 : decode cX5_addRow 86 = .ok (.return_, 1) := by decide +kernel
theorem dX5_minutesAt_0 : decode cX5_minutesAt 0 = .ok (.iconst 0, 1) := by decide +kernel
theorem dX5_minutesAt_1 : decode cX5_minutesAt 1 = .ok (.istore_n 2, 1) := by decide +kernel
theorem dX5_minutesAt_2 : decode cX5_minutesAt 2 = .ok (.aload_n 0, 1) := by decide +kernel
theorem dX5_minutesAt_3 : decode cX5_minutesAt 3 = .ok (.getfield 7, 3) := by decide +kernel
theorem dX5_minutesAt_6 : decode cX5_minutesAt 6 = .ok (.astore_n 3, 1) := by decide +kernel
theorem dX5_minutesAt_7 : decode cX5_minutesAt 7 = .ok (.aload_n 3, 1) := by decide +kernel
theorem dX5_minutesAt_8 : decode cX5_minutesAt 8 = .ok (.ifnull 26, 3) := by decide +kernel
theorem dX5_minutesAt_11 : decode cX5_minutesAt 11 = .ok (.aload_n 3, 1) := by decide +kernel
theorem dX5_minutesAt_12 : decode cX5_minutesAt 12 = .ok (.getfield 28, 3) := by decide +kernel
theorem dX5_minutesAt_15 : decode cX5_minutesAt 15 = .ok (.istore_n 2, 1) := by decide +kernel
theorem dX5_minutesAt_16 : decode cX5_minutesAt 16 = .ok (.aload_n 3, 1) := by decide +kernel
theorem dX5_minutesAt_17 : decode cX5_minutesAt 17 = .ok (.getfield 13, 3) := by decide +kernel
theorem dX5_minutesAt_20 : decode cX5_minutesAt 20 = .ok (.iload_n 1, 1) := by decide +kernel
theorem dX5_minutesAt_21 : decode cX5_minutesAt 21 = .ok (.if_icmp .gt 5, 3) := by decide +kernel
theorem dX5_minutesAt_24 : decode cX5_minutesAt 24 = .ok (.iload_n 2, 1) := by decide +kernel
theorem dX5_minutesAt_25 : decode cX5_minutesAt 25 = .ok (.ireturn, 1) := by decide +kernel
theorem dX5_minutesAt_26 : decode cX5_minutesAt 26 = .ok (.aload_n 3, 1) := by decide +kernel
theorem dX5_minutesAt_27 : decode cX5_minutesAt 27 = .ok (.getfield 19, 3) := by decide +kernel
theorem dX5_minutesAt_30 : decode cX5_minutesAt 30 = .ok (.astore_n 3, 1) := by decide +kernel
theorem dX5_minutesAt_31 : decode cX5_minutesAt 31 = .ok (.goto (-24), 3) := by decide +kernel
theorem dX5_minutesAt_34 : decode cX5_minutesAt 34 = .ok (.iload_n 2, 1) := by decide +kernel
theorem dX5_minutesAt_35 : decode cX5_minutesAt 35 = .ok (.ireturn, 1) := by decide +kernel
theorem dX6_init_0 : decode cX6_init 0 = .ok (.aload_n 0, 1) := by decide +kernel
theorem dX6_init_1 : decode cX6_init 1 = .ok (.invokespecial 3, 3) := by decide +kernel
theorem dX6_init_4 : decode cX6_init 4 = .ok (.aload_n 0, 1) := by decide +kernel
theorem dX6_init_5 : decode cX6_init 5 = .ok (.new 9, 3) := by decide +kernel
theorem dX6_init_8 : decode cX6_init 8 = .ok (.dup, 1) := by decide +kernel
theorem dX6_init_9 : decode cX6_init 9 = .ok (.invokespecial 11, 3) := by decide +kernel
theorem dX6_init_12 : decode cX6_init 12 = .ok (.putfield 12, 3) := by decide +kernel
theorem dX6_init_15 : decode cX6_init 15 = .ok (.aload_n 0, 1) := by decide +kernel
theorem dX6_init_16 : decode cX6_init 16 = .ok (.sipush 500, 3) := by decide +kernel
theorem dX6_init_19 : decode cX6_init 19 = .ok (.newarray .char, 2) := by decide +kernel
theorem dX6_init_21 : decode cX6_init 21 = .ok (.putfield 18, 3) := by decide +kernel
theorem dX6_init_24 : decode cX6_init 24 = .ok (.return_, 1) := by decide +kernel
theorem dX6_add_0 : decode cX6_add 0 = .ok (.aload_n 0, 1) := by decide +kernel
theorem dX6_add_1 : decode cX6_add 1 = .ok (.getfield 22, 3) := by decide +kernel
theorem dX6_add_4 : decode cX6_add 4 = .ok (.sipush 500, 3) := by decide +kernel
theorem dX6_add_7 : decode cX6_add 7 = .ok (.if_icmp .ge 23, 3) := by decide +kernel
theorem dX6_add_10 : decode cX6_add 10 = .ok (.aload_n 0, 1) := by decide +kernel
theorem dX6_add_11 : decode cX6_add 11 = .ok (.getfield 18, 3) := by decide +kernel
theorem dX6_add_14 : decode cX6_add 14 = .ok (.aload_n 0, 1) := by decide +kernel
theorem dX6_add_15 : decode cX6_add 15 = .ok (.getfield 22, 3) := by decide +kernel
theorem dX6_add_18 : decode cX6_add 18 = .ok (.iload_n 1, 1) := by decide +kernel
theorem dX6_add_19 : decode cX6_add 19 = .ok (.castore, 1) := by decide +kernel
theorem dX6_add_20 : decode cX6_add 20 = .ok (.aload_n 0, 1) := by decide +kernel
theorem dX6_add_21 : decode cX6_add 21 = .ok (.dup, 1) := by decide +kernel
theorem dX6_add_22 : decode cX6_add 22 = .ok (.getfield 22, 3) := by decide +kernel
theorem dX6_add_25 : decode cX6_add 25 = .ok (.iconst 1, 1) := by decide +kernel
theorem dX6_add_26 : decode cX6_add 26 = .ok (.iadd, 1) := by decide +kernel
theorem dX6_add_27 : decode cX6_add 27 = .ok (.putfield 22, 3) := by decide +kernel
theorem dX6_add_30 : decode cX6_add 30 = .ok (.return_, 1) := by decide +kernel
theorem dX6_clear_0 : decode cX6_clear 0 = .ok (.aload_n 0, 1) := by decide +kernel
theorem dX6_clear_1 : decode cX6_clear 1 = .ok (.iconst 0, 1) := by decide +kernel
theorem dX6_clear_2 : decode cX6_clear 2 = .ok (.putfield 22, 3) := by decide +kernel
theorem dX6_clear_5 : decode cX6_clear 5 = .ok (.aload_n 0, 1) := by decide +kernel
theorem dX6_clear_6 : decode cX6_clear 6 = .ok (.getfield 12, 3) := by decide +kernel
theorem dX6_clear_9 : decode cX6_clear 9 = .ok (.invokeinterface 26 1, 5) := by decide +kernel
theorem dX6_clear_14 : decode cX6_clear 14 = .ok (.return_, 1) := by decide +kernel
theorem dX6_parse_0 : decode cX6_parse 0 = .ok (.aload_n 0, 1) := by decide +kernel
theorem dX6_parse_1 : decode cX6_parse 1 = .ok (.iload_n 1, 1) := by decide +kernel
theorem dX6_parse_2 : decode cX6_parse 2 = .ok (.putfield 31, 3) := by decide +kernel
theorem dX6_parse_5 : decode cX6_parse 5 = .ok (.aload_n 0, 1) := by decide +kernel
theorem dX6_parse_6 : decode cX6_parse 6 = .ok (.iconst 0, 1) := by decide +kernel
theorem dX6_parse_7 : decode cX6_parse 7 = .ok (.putfield 34, 3) := by decide +kernel
theorem dX6_parse_10 : decode cX6_parse 10 = .ok (.aload_n 0, 1) := by decide +kernel
theorem dX6_parse_11 : decode cX6_parse 11 = .ok (.iconst (-1), 1) := by decide +kernel
theorem dX6_parse_12 : decode cX6_parse 12 = .ok (.putfield 37, 3) := by decide +kernel
theorem dX6_parse_15 : decode cX6_parse 15 = .ok (.aload_n 0, 1) := by decide +kernel
theorem dX6_parse_16 : decode cX6_parse 16 = .ok (.getfield 12, 3) := by decide +kernel
theorem dX6_parse_19 : decode cX6_parse 19 = .ok (.invokeinterface 26 1, 5) := by decide +kernel
theorem dX6_parse_24 : decode cX6_parse 24 = .ok (.aload_n 0, 1) := by decide +kernel
theorem dX6_parse_25 : decode cX6_parse 25 = .ok (.getfield 22, 3) := by decide +kernel
theorem dX6_parse_28 : decode cX6_parse 28 = .ok (.ifCond .ne 5, 3) := by decide +kernel
theorem dX6_parse_31 : decode cX6_parse 31 = .ok (.iconst 0, 1) := by decide +kernel
theorem dX6_parse_32 : decode cX6_parse 32 = .ok (.ireturn, 1) := by decide +kernel
theorem dX6_parse_33 : decode cX6_parse 33 = .ok (.aload_n 0, 1) := by decide +kernel
theorem dX6_parse_34 : decode cX6_parse 34 = .ok (.invokevirtual 40, 3) := by decide +kernel
theorem dX6_parse_37 : decode cX6_parse 37 = .ok (.iconst 1, 1) := by decide +kernel
theorem dX6_parse_38 : decode cX6_parse 38 = .ok (.istore_n 2, 1) := by decide +kernel
theorem dX6_parse_39 : decode cX6_parse 39 = .ok (.iload_n 2, 1) := by decide +kernel
theorem dX6_parse_40 : decode cX6_parse 40 = .ok (.aload_n 0, 1) := by decide +kernel
theorem dX6_parse_41 : decode cX6_parse 41 = .ok (.getfield 22, 3) := by decide +kernel
theorem dX6_parse_44 : decode cX6_parse 44 = .ok (.if_icmp .ge 38, 3) := by decide +kernel
theorem dX6_parse_47 : decode cX6_parse 47 = .ok (.aload_n 0, 1) := by decide +kernel
theorem dX6_parse_48 : decode cX6_parse 48 = .ok (.getfield 37, 3) := by decide +kernel
theorem dX6_parse_51 : decode cX6_parse 51 = .ok (.iconst (-1), 1) := by decide +kernel
theorem dX6_parse_52 : decode cX6_parse 52 = .ok (.if_icmp .ne 30, 3) := by decide +kernel
theorem dX6_parse_55 : decode cX6_parse 55 = .ok (.aload_n 0, 1) := by decide +kernel
theorem dX6_parse_56 : decode cX6_parse 56 = .ok (.getfield 34, 3) := by decide +kernel
theorem dX6_parse_59 : decode cX6_parse 59 = .ok (.aload_n 0, 1) := by decide +kernel
theorem dX6_parse_60 : decode cX6_parse 60 = .ok (.getfield 22, 3) := by decide +kernel
theorem dX6_parse_63 : decode cX6_parse 63 = .ok (.if_icmp .ge 19, 3) := by decide +kernel
theorem dX6_parse_66 : decode cX6_parse 66 = .ok (.aload_n 0, 1) := by decide +kernel
theorem dX6_parse_67 : decode cX6_parse 67 = .ok (.bipush 59, 2) := by decide +kernel
theorem dX6_parse_69 : decode cX6_parse 69 = .ok (.invokevirtual 43, 3) := by decide +kernel
theorem dX6_parse_72 : decode cX6_parse 72 = .ok (.aload_n 0, 1) := by decide +kernel
theorem dX6_parse_73 : decode cX6_parse 73 = .ok (.invokevirtual 40, 3) := by decide +kernel
theorem dX6_parse_76 : decode cX6_parse 76 = .ok (.iinc 2 1, 3) := by decide +kernel
theorem dX6_parse_79 : decode cX6_parse 79 = .ok (.goto (-40), 3) := by decide +kernel
theorem dX6_parse_82 : decode cX6_parse 82 = .ok (.aload_n 0, 1) := by decide +kernel
theorem dX6_parse_83 : decode cX6_parse 83 = .ok (.getfield 37, 3) := by decide +kernel
theorem dX6_parse_86 : decode cX6_parse 86 = .ok (.iconst (-1), 1) := by decide +kernel
theorem dX6_parse_87 : decode cX6_parse 87 = .ok (.if_icmp .ne 15, 3) := by decide +kernel
theorem dX6_parse_90 : decode cX6_parse 90 = .ok (.aload_n 0, 1) := by decide +kernel
theorem dX6_parse_91 : decode cX6_parse 91 = .ok (.getfield 12, 3) := by decide +kernel
theorem dX6_parse_94 : decode cX6_parse 94 = .ok (.invokeinterface 47 1, 5) := by decide +kernel
theorem dX6_parse_99 : decode cX6_parse 99 = .ok (.goto 9, 3) := by decide +kernel
theorem dX6_parse_102 : decode cX6_parse 102 = .ok (.iconst (-1), 1) := by decide +kernel
theorem dX6_parse_103 : decode cX6_parse 103 = .ok (.aload_n 0, 1) := by decide +kernel
theorem dX6_parse_104 : decode cX6_parse 104 = .ok (.getfield 37, 3) := by decide +kernel
theorem dX6_parse_107 : decode cX6_parse 107 = .ok (.isub, 1) := by decide +kernel
theorem dX6_parse_108 : decode cX6_parse 108 = .ok (.ireturn, 1) := by decide +kernel
theorem dX6_parseItem_0 : decode cX6_parseItem 0 = .ok (.aload_n 0, 1) := by decide +kernel
theorem dX6_parseItem_1 : decode cX6_parseItem 1 = .ok (.getfield 37, 3) := by decide +kernel
theorem dX6_parseItem_4 : decode cX6_parseItem 4 = .ok (.iconst (-1), 1) := by decide +kernel
theorem dX6_parseItem_5 : decode cX6_parseItem 5 = .ok (.if_icmp .eq 4, 3) := by decide +kernel
theorem dX6_parseItem_8 : decode cX6_parseItem 8 = .ok (.return_, 1) := by decide +kernel
theorem dX6_parseItem_9 : decode cX6_parseItem 9 = .ok (.aload_n 0, 1) := by decide +kernel
theorem dX6_parseItem_10 : decode cX6_parseItem 10 = .ok (.bipush 76, 2) := by decide +kernel
theorem dX6_parseItem_12 : decode cX6_parseItem 12 = .ok (.invokevirtual 51, 3) := by decide +kernel
theorem dX6_parseItem_15 : decode cX6_parseItem 15 = .ok (.ifCond .eq 36, 3) := by decide +kernel
theorem dX6_parseItem_18 : decode cX6_parseItem 18 = .ok (.aload_n 0, 1) := by decide +kernel
theorem dX6_parseItem_19 : decode cX6_parseItem 19 = .ok (.getfield 12, 3) := by decide +kernel
theorem dX6_parseItem_22 : decode cX6_parseItem 22 = .ok (.invokeinterface 47 1, 5) := by decide +kernel
theorem dX6_parseItem_27 : decode cX6_parseItem 27 = .ok (.aload_n 0, 1) := by decide +kernel
theorem dX6_parseItem_28 : decode cX6_parseItem 28 = .ok (.getfield 31, 3) := by decide +kernel
theorem dX6_parseItem_31 : decode cX6_parseItem 31 = .ok (.if_icmp .ge 20, 3) := by decide +kernel
theorem dX6_parseItem_34 : decode cX6_parseItem 34 = .ok (.aload_n 0, 1) := by decide +kernel
theorem dX6_parseItem_35 : decode cX6_parseItem 35 = .ok (.dup, 1) := by decide +kernel
theorem dX6_parseItem_36 : decode cX6_parseItem 36 = .ok (.getfield 34, 3) := by decide +kernel
theorem dX6_parseItem_39 : decode cX6_parseItem 39 = .ok (.iconst 1, 1) := by decide +kernel
theorem dX6_parseItem_40 : decode cX6_parseItem 40 = .ok (.iadd, 1) := by decide +kernel
theorem dX6_parseItem_41 : decode cX6_parseItem 41 = .ok (.putfield 34, 3) := by decide +kernel
theorem dX6_parseItem_44 : decode cX6_parseItem 44 = .ok (.aload_n 0, 1) := by decide +kernel
theorem dX6_parseItem_45 : decode cX6_parseItem 45 = .ok (.invokevirtual 55, 3) := by decide +kernel
theorem dX6_parseItem_48 : decode cX6_parseItem 48 = .ok (.goto 67, 3) := by decide +kernel
theorem dX6_parseItem_51 : decode cX6_parseItem 51 = .ok (.aload_n 0, 1) := by decide +kernel
theorem dX6_parseItem_52 : decode cX6_parseItem 52 = .ok (.bipush 83, 2) := by decide +kernel
theorem dX6_parseItem_54 : decode cX6_parseItem 54 = .ok (.invokevirtual 51, 3) := by decide +kernel
theorem dX6_parseItem_57 : decode cX6_parseItem 57 = .ok (.ifCond .eq 50, 3) := by decide +kernel
theorem dX6_parseItem_60 : decode cX6_parseItem 60 = .ok (.aload_n 0, 1) := by decide +kernel
theorem dX6_parseItem_61 : decode cX6_parseItem 61 = .ok (.invokevirtual 58, 3) := by decide +kernel
theorem dX6_parseItem_64 : decode cX6_parseItem 64 = .ok (.ifCond .eq 43, 3) := by decide +kernel
theorem dX6_parseItem_67 : decode cX6_parseItem 67 = .ok (.aload_n 0, 1) := by decide +kernel
theorem dX6_parseItem_68 : decode cX6_parseItem 68 = .ok (.dup, 1) := by decide +kernel
theorem dX6_parseItem_69 : decode cX6_parseItem 69 = .ok (.getfield 34, 3) := by decide +kernel
theorem dX6_parseItem_72 : decode cX6_parseItem 72 = .ok (.iconst 1, 1) := by decide +kernel
theorem dX6_parseItem_73 : decode cX6_parseItem 73 = .ok (.iadd, 1) := by decide +kernel
theorem dX6_parseItem_74 : decode cX6_parseItem 74 = .ok (.putfield 34, 3) := by decide +kernel
theorem dX6_parseItem_77 : decode cX6_parseItem 77 = .ok (.aload_n 0, 1) := by decide +kernel
theorem dX6_parseItem_78 : decode cX6_parseItem 78 = .ok (.aload_n 0, 1) := by decide +kernel
theorem dX6_parseItem_79 : decode cX6_parseItem 79 = .ok (.getfield 12, 3) := by decide +kernel
theorem dX6_parseItem_82 : decode cX6_parseItem 82 = .ok (.aload_n 0, 1) := by decide +kernel
theorem dX6_parseItem_83 : decode cX6_parseItem 83 = .ok (.getfield 12, 3) := by decide +kernel
theorem dX6_parseItem_86 : decode cX6_parseItem 86 = .ok (.invokeinterface 47 1, 5) := by decide +kernel
theorem dX6_parseItem_91 : decode cX6_parseItem 91 = .ok (.iconst 1, 1) := by decide +kernel
theorem dX6_parseItem_92 : decode cX6_parseItem 92 = .ok (.isub, 1) := by decide +kernel
theorem dX6_parseItem_93 : decode cX6_parseItem 93 = .ok (.invokeinterface 62 2, 5) := by decide +kernel
theorem dX6_parseItem_98 : decode cX6_parseItem 98 = .ok (.checkcast 66, 3) := by decide +kernel
theorem dX6_parseItem_101 : decode cX6_parseItem 101 = .ok (.invokevirtual 68, 3) := by decide +kernel
theorem dX6_parseItem_104 : decode cX6_parseItem 104 = .ok (.goto 11, 3) := by decide +kernel
theorem dX6_parseItem_107 : decode cX6_parseItem 107 = .ok (.aload_n 0, 1) := by decide +kernel
theorem dX6_parseItem_108 : decode cX6_parseItem 108 = .ok (.aload_n 0, 1) := by decide +kernel
theorem dX6_parseItem_109 : decode cX6_parseItem 109 = .ok (.getfield 34, 3) := by decide +kernel
theorem dX6_parseItem_112 : decode cX6_parseItem 112 = .ok (.putfield 37, 3) := by decide +kernel
theorem dX6_parseItem_115 : decode cX6_parseItem 115 = .ok (.return_, 1) := by decide +kernel
theorem dX6_lastHasRoom_0 : decode cX6_lastHasRoom 0 = .ok (.aload_n 0, 1) := by decide +kernel
theorem dX6_lastHasRoom_1 : decode cX6_lastHasRoom 1 = .ok (.getfield 12, 3) := by decide +kernel
theorem dX6_lastHasRoom_4 : decode cX6_lastHasRoom 4 = .ok (.invokeinterface 72 1, 5) := by decide +kernel
theorem dX6_lastHasRoom_9 : decode cX6_lastHasRoom 9 = .ok (.ifCond .ne 36, 3) := by decide +kernel
theorem dX6_lastHasRoom_12 : decode cX6_lastHasRoom 12 = .ok (.aload_n 0, 1) := by decide +kernel
theorem dX6_lastHasRoom_13 : decode cX6_lastHasRoom 13 = .ok (.getfield 12, 3) := by decide +kernel
theorem dX6_lastHasRoom_16 : decode cX6_lastHasRoom 16 = .ok (.aload_n 0, 1) := by decide +kernel
theorem dX6_lastHasRoom_17 : decode cX6_lastHasRoom 17 = .ok (.getfield 12, 3) := by decide +kernel
theorem dX6_lastHasRoom_20 : decode cX6_lastHasRoom 20 = .ok (.invokeinterface 47 1, 5) := by decide +kernel
theorem dX6_lastHasRoom_25 : decode cX6_lastHasRoom 25 = .ok (.iconst 1, 1) := by decide +kernel
theorem dX6_lastHasRoom_26 : decode cX6_lastHasRoom 26 = .ok (.isub, 1) := by decide +kernel
theorem dX6_lastHasRoom_27 : decode cX6_lastHasRoom 27 = .ok (.invokeinterface 62 2, 5) := by decide +kernel
theorem dX6_lastHasRoom_32 : decode cX6_lastHasRoom 32 = .ok (.checkcast 66, 3) := by decide +kernel
theorem dX6_lastHasRoom_35 : decode cX6_lastHasRoom 35 = .ok (.invokevirtual 75, 3) := by decide +kernel
theorem dX6_lastHasRoom_38 : decode cX6_lastHasRoom 38 = .ok (.ifCond .eq 7, 3) := by decide +kernel
theorem dX6_lastHasRoom_41 : decode cX6_lastHasRoom 41 = .ok (.iconst 1, 1) := by decide +kernel
theorem dX6_lastHasRoom_42 : decode cX6_lastHasRoom 42 = .ok (.goto 4, 3) := by decide +kernel
theorem dX6_lastHasRoom_45 : decode cX6_lastHasRoom 45 = .ok (.iconst 0, 1) := by decide +kernel
theorem dX6_lastHasRoom_46 : decode cX6_lastHasRoom 46 = .ok (.ireturn, 1) := by decide +kernel
theorem dX6_parseLine_0 : decode cX6_parseLine 0 = .ok (.aload_n 0, 1) := by decide +kernel
theorem dX6_parseLine_1 : decode cX6_parseLine 1 = .ok (.iconst 0, 1) := by decide +kernel
theorem dX6_parseLine_2 : decode cX6_parseLine 2 = .ok (.bipush 127, 2) := by decide +kernel
theorem dX6_parseLine_4 : decode cX6_parseLine 4 = .ok (.invokevirtual 78, 3) := by decide +kernel
theorem dX6_parseLine_7 : decode cX6_parseLine 7 = .ok (.istore_n 1, 1) := by decide +kernel
theorem dX6_parseLine_8 : decode cX6_parseLine 8 = .ok (.aload_n 0, 1) := by decide +kernel
theorem dX6_parseLine_9 : decode cX6_parseLine 9 = .ok (.getfield 37, 3) := by decide +kernel
theorem dX6_parseLine_12 : decode cX6_parseLine 12 = .ok (.iconst (-1), 1) := by decide +kernel
theorem dX6_parseLine_13 : decode cX6_parseLine 13 = .ok (.if_icmp .ne 21, 3) := by decide +kernel
theorem dX6_parseLine_16 : decode cX6_parseLine 16 = .ok (.aload_n 0, 1) := by decide +kernel
theorem dX6_parseLine_17 : decode cX6_parseLine 17 = .ok (.getfield 12, 3) := by decide +kernel
theorem dX6_parseLine_20 : decode cX6_parseLine 20 = .ok (.new 66, 3) := by decide +kernel
theorem dX6_parseLine_23 : decode cX6_parseLine 23 = .ok (.dup, 1) := by decide +kernel
theorem dX6_parseLine_24 : decode cX6_parseLine 24 = .ok (.iload_n 1, 1) := by decide +kernel
theorem dX6_parseLine_25 : decode cX6_parseLine 25 = .ok (.invokespecial 82, 3) := by decide +kernel
theorem dX6_parseLine_28 : decode cX6_parseLine 28 = .ok (.invokeinterface 85 2, 5) := by decide +kernel
theorem dX6_parseLine_33 : decode cX6_parseLine 33 = .ok (.pop, 1) := by decide +kernel
theorem dX6_parseLine_34 : decode cX6_parseLine 34 = .ok (.return_, 1) := by decide +kernel
theorem dX6_parseStop_0 : decode cX6_parseStop 0 = .ok (.aload_n 0, 1) := by decide +kernel
theorem dX6_parseStop_1 : decode cX6_parseStop 1 = .ok (.iconst 0, 1) := by decide +kernel
theorem dX6_parseStop_2 : decode cX6_parseStop 2 = .ok (.bipush 99, 2) := by decide +kernel
theorem dX6_parseStop_4 : decode cX6_parseStop 4 = .ok (.invokevirtual 78, 3) := by decide +kernel
theorem dX6_parseStop_7 : decode cX6_parseStop 7 = .ok (.istore_n 2, 1) := by decide +kernel
theorem dX6_parseStop_8 : decode cX6_parseStop 8 = .ok (.aload_n 0, 1) := by decide +kernel
theorem dX6_parseStop_9 : decode cX6_parseStop 9 = .ok (.bipush 32, 2) := by decide +kernel
theorem dX6_parseStop_11 : decode cX6_parseStop 11 = .ok (.invokevirtual 43, 3) := by decide +kernel
theorem dX6_parseStop_14 : decode cX6_parseStop 14 = .ok (.aload_n 0, 1) := by decide +kernel
theorem dX6_parseStop_15 : decode cX6_parseStop 15 = .ok (.aload_n 1, 1) := by decide +kernel
theorem dX6_parseStop_16 : decode cX6_parseStop 16 = .ok (.invokevirtual 89, 3) := by decide +kernel
theorem dX6_parseStop_19 : decode cX6_parseStop 19 = .ok (.ldc 92, 2) := by decide +kernel
theorem dX6_parseStop_21 : decode cX6_parseStop 21 = .ok (.invokevirtual 78, 3) := by decide +kernel
theorem dX6_parseStop_24 : decode cX6_parseStop 24 = .ok (.istore_n 3, 1) := by decide +kernel
theorem dX6_parseStop_25 : decode cX6_parseStop 25 = .ok (.aload_n 0, 1) := by decide +kernel
theorem dX6_parseStop_26 : decode cX6_parseStop 26 = .ok (.bipush 32, 2) := by decide +kernel
theorem dX6_parseStop_28 : decode cX6_parseStop 28 = .ok (.invokevirtual 43, 3) := by decide +kernel
theorem dX6_parseStop_31 : decode cX6_parseStop 31 = .ok (.aload_n 0, 1) := by decide +kernel
theorem dX6_parseStop_32 : decode cX6_parseStop 32 = .ok (.iload_n 3, 1) := by decide +kernel
theorem dX6_parseStop_33 : decode cX6_parseStop 33 = .ok (.ldc 92, 2) := by decide +kernel
theorem dX6_parseStop_35 : decode cX6_parseStop 35 = .ok (.invokevirtual 78, 3) := by decide +kernel
theorem dX6_parseStop_38 : decode cX6_parseStop 38 = .ok (.istore 4, 2) := by decide +kernel
theorem dX6_parseStop_40 : decode cX6_parseStop 40 = .ok (.aload_n 0, 1) := by decide +kernel
theorem dX6_parseStop_41 : decode cX6_parseStop 41 = .ok (.getfield 37, 3) := by decide +kernel
theorem dX6_parseStop_44 : decode cX6_parseStop 44 = .ok (.iconst (-1), 1) := by decide +kernel
theorem dX6_parseStop_45 : decode cX6_parseStop 45 = .ok (.if_icmp .ne 11, 3) := by decide +kernel
theorem dX6_parseStop_48 : decode cX6_parseStop 48 = .ok (.aload_n 1, 1) := by decide +kernel
theorem dX6_parseStop_49 : decode cX6_parseStop 49 = .ok (.iload_n 2, 1) := by decide +kernel
theorem dX6_parseStop_50 : decode cX6_parseStop 50 = .ok (.iload_n 3, 1) := by decide +kernel
theorem dX6_parseStop_51 : decode cX6_parseStop 51 = .ok (.iload 4, 2) := by decide +kernel
theorem dX6_parseStop_53 : decode cX6_parseStop 53 = .ok (.invokevirtual 93, 3) := by decide +kernel
theorem dX6_parseStop_56 : decode cX6_parseStop 56 = .ok (.return_, 1) := by decide +kernel
theorem dX6_stands_0 : decode cX6_stands 0 = .ok (.aload_n 0, 1) := by decide +kernel
theorem dX6_stands_1 : decode cX6_stands 1 = .ok (.getfield 34, 3) := by decide +kernel
theorem dX6_stands_4 : decode cX6_stands 4 = .ok (.aload_n 0, 1) := by decide +kernel
theorem dX6_stands_5 : decode cX6_stands 5 = .ok (.getfield 22, 3) := by decide +kernel
theorem dX6_stands_8 : decode cX6_stands 8 = .ok (.if_icmp .ge 20, 3) := by decide +kernel
theorem dX6_stands_11 : decode cX6_stands 11 = .ok (.aload_n 0, 1) := by decide +kernel
theorem dX6_stands_12 : decode cX6_stands 12 = .ok (.getfield 18, 3) := by decide +kernel
theorem dX6_stands_15 : decode cX6_stands 15 = .ok (.aload_n 0, 1) := by decide +kernel
theorem dX6_stands_16 : decode cX6_stands 16 = .ok (.getfield 34, 3) := by decide +kernel
theorem dX6_stands_19 : decode cX6_stands 19 = .ok (.caload, 1) := by decide +kernel
theorem dX6_stands_20 : decode cX6_stands 20 = .ok (.iload_n 1, 1) := by decide +kernel
theorem dX6_stands_21 : decode cX6_stands 21 = .ok (.if_icmp .ne 7, 3) := by decide +kernel
theorem dX6_stands_24 : decode cX6_stands 24 = .ok (.iconst 1, 1) := by decide +kernel
theorem dX6_stands_25 : decode cX6_stands 25 = .ok (.goto 4, 3) := by decide +kernel
theorem dX6_stands_28 : decode cX6_stands 28 = .ok (.iconst 0, 1) := by decide +kernel
theorem dX6_stands_29 : decode cX6_stands 29 = .ok (.ireturn, 1) := by decide +kernel
theorem dX6_parseSign_0 : decode cX6_parseSign 0 = .ok (.aload_n 0, 1) := by decide +kernel
theorem dX6_parseSign_1 : decode cX6_parseSign 1 = .ok (.getfield 37, 3) := by decide +kernel
theorem dX6_parseSign_4 : decode cX6_parseSign 4 = .ok (.iconst (-1), 1) := by decide +kernel
theorem dX6_parseSign_5 : decode cX6_parseSign 5 = .ok (.if_icmp .eq 4, 3) := by decide +kernel
theorem dX6_parseSign_8 : decode cX6_parseSign 8 = .ok (.return_, 1) := by decide +kernel
theorem dX6_parseSign_9 : decode cX6_parseSign 9 = .ok (.aload_n 0, 1) := by decide +kernel
theorem dX6_parseSign_10 : decode cX6_parseSign 10 = .ok (.iload_n 1, 1) := by decide +kernel
theorem dX6_parseSign_11 : decode cX6_parseSign 11 = .ok (.invokevirtual 51, 3) := by decide +kernel
theorem dX6_parseSign_14 : decode cX6_parseSign 14 = .ok (.ifCond .eq 16, 3) := by decide +kernel
theorem dX6_parseSign_17 : decode cX6_parseSign 17 = .ok (.aload_n 0, 1) := by decide +kernel
theorem dX6_parseSign_18 : decode cX6_parseSign 18 = .ok (.dup, 1) := by decide +kernel
theorem dX6_parseSign_19 : decode cX6_parseSign 19 = .ok (.getfield 34, 3) := by decide +kernel
theorem dX6_parseSign_22 : decode cX6_parseSign 22 = .ok (.iconst 1, 1) := by decide +kernel
theorem dX6_parseSign_23 : decode cX6_parseSign 23 = .ok (.iadd, 1) := by decide +kernel
theorem dX6_parseSign_24 : decode cX6_parseSign 24 = .ok (.putfield 34, 3) := by decide +kernel
theorem dX6_parseSign_27 : decode cX6_parseSign 27 = .ok (.goto 11, 3) := by decide +kernel
theorem dX6_parseSign_30 : decode cX6_parseSign 30 = .ok (.aload_n 0, 1) := by decide +kernel
theorem dX6_parseSign_31 : decode cX6_parseSign 31 = .ok (.aload_n 0, 1) := by decide +kernel
theorem dX6_parseSign_32 : decode cX6_parseSign 32 = .ok (.getfield 34, 3) := by decide +kernel
theorem dX6_parseSign_35 : decode cX6_parseSign 35 = .ok (.putfield 37, 3) := by decide +kernel
theorem dX6_parseSign_38 : decode cX6_parseSign 38 = .ok (.return_, 1) := by decide +kernel
theorem dX6_parseNumber_0 : decode cX6_parseNumber 0 = .ok (.aload_n 0, 1) := by decide +kernel
theorem dX6_parseNumber_1 : decode cX6_parseNumber 1 = .ok (.getfield 37, 3) := by decide +kernel
theorem dX6_parseNumber_4 : decode cX6_parseNumber 4 = .ok (.iconst (-1), 1) := by decide +kernel
theorem dX6_parseNumber_5 : decode cX6_parseNumber 5 = .ok (.if_icmp .eq 5, 3) := by decide +kernel
theorem dX6_parseNumber_8 : decode cX6_parseNumber 8 = .ok (.iconst 0, 1) := by decide +kernel
theorem dX6_parseNumber_9 : decode cX6_parseNumber 9 = .ok (.ireturn, 1) := by decide +kernel
theorem dX6_parseNumber_10 : decode cX6_parseNumber 10 = .ok (.aload_n 0, 1) := by decide +kernel
theorem dX6_parseNumber_11 : decode cX6_parseNumber 11 = .ok (.getfield 34, 3) := by decide +kernel
theorem dX6_parseNumber_14 : decode cX6_parseNumber 14 = .ok (.istore_n 3, 1) := by decide +kernel
theorem dX6_parseNumber_15 : decode cX6_parseNumber 15 = .ok (.iconst 0, 1) := by decide +kernel
theorem dX6_parseNumber_16 : decode cX6_parseNumber 16 = .ok (.istore 4, 2) := by decide +kernel
theorem dX6_parseNumber_18 : decode cX6_parseNumber 18 = .ok (.aload_n 0, 1) := by decide +kernel
theorem dX6_parseNumber_19 : decode cX6_parseNumber 19 = .ok (.getfield 34, 3) := by decide +kernel
theorem dX6_parseNumber_22 : decode cX6_parseNumber 22 = .ok (.aload_n 0, 1) := by decide +kernel
theorem dX6_parseNumber_23 : decode cX6_parseNumber 23 = .ok (.getfield 22, 3) := by decide +kernel
theorem dX6_parseNumber_26 : decode cX6_parseNumber 26 = .ok (.if_icmp .ge 75, 3) := by decide +kernel
theorem dX6_parseNumber_29 : decode cX6_parseNumber 29 = .ok (.aload_n 0, 1) := by decide +kernel
theorem dX6_parseNumber_30 : decode cX6_parseNumber 30 = .ok (.getfield 34, 3) := by decide +kernel
theorem dX6_parseNumber_33 : decode cX6_parseNumber 33 = .ok (.iload_n 3, 1) := by decide +kernel
theorem dX6_parseNumber_34 : decode cX6_parseNumber 34 = .ok (.bipush 6, 2) := by decide +kernel
theorem dX6_parseNumber_36 : decode cX6_parseNumber 36 = .ok (.iadd, 1) := by decide +kernel
theorem dX6_parseNumber_37 : decode cX6_parseNumber 37 = .ok (.if_icmp .ge 64, 3) := by decide +kernel
theorem dX6_parseNumber_40 : decode cX6_parseNumber 40 = .ok (.aload_n 0, 1) := by decide +kernel
theorem dX6_parseNumber_41 : decode cX6_parseNumber 41 = .ok (.getfield 18, 3) := by decide +kernel
theorem dX6_parseNumber_44 : decode cX6_parseNumber 44 = .ok (.aload_n 0, 1) := by decide +kernel
theorem dX6_parseNumber_45 : decode cX6_parseNumber 45 = .ok (.getfield 34, 3) := by decide +kernel
theorem dX6_parseNumber_48 : decode cX6_parseNumber 48 = .ok (.caload, 1) := by decide +kernel
theorem dX6_parseNumber_49 : decode cX6_parseNumber 49 = .ok (.bipush 48, 2) := by decide +kernel
theorem dX6_parseNumber_51 : decode cX6_parseNumber 51 = .ok (.if_icmp .lt 50, 3) := by decide +kernel
theorem dX6_parseNumber_54 : decode cX6_parseNumber 54 = .ok (.aload_n 0, 1) := by decide +kernel
theorem dX6_parseNumber_55 : decode cX6_parseNumber 55 = .ok (.getfield 18, 3) := by decide +kernel
theorem dX6_parseNumber_58 : decode cX6_parseNumber 58 = .ok (.aload_n 0, 1) := by decide +kernel
theorem dX6_parseNumber_59 : decode cX6_parseNumber 59 = .ok (.getfield 34, 3) := by decide +kernel
theorem dX6_parseNumber_62 : decode cX6_parseNumber 62 = .ok (.caload, 1) := by decide +kernel
theorem dX6_parseNumber_63 : decode cX6_parseNumber 63 = .ok (.bipush 57, 2) := by decide +kernel
theorem dX6_parseNumber_65 : decode cX6_parseNumber 65 = .ok (.if_icmp .gt 36, 3) := by decide +kernel
theorem dX6_parseNumber_68 : decode cX6_parseNumber 68 = .ok (.bipush 10, 2) := by decide +kernel
theorem dX6_parseNumber_70 : decode cX6_parseNumber 70 = .ok (.iload 4, 2) := by decide +kernel
theorem dX6_parseNumber_72 : decode cX6_parseNumber 72 = .ok (.imul, 1) := by decide +kernel
theorem dX6_parseNumber_73 : decode cX6_parseNumber 73 = .ok (.aload_n 0, 1) := by decide +kernel
theorem dX6_parseNumber_74 : decode cX6_parseNumber 74 = .ok (.getfield 18, 3) := by decide +kernel
theorem dX6_parseNumber_77 : decode cX6_parseNumber 77 = .ok (.aload_n 0, 1) := by decide +kernel
theorem dX6_parseNumber_78 : decode cX6_parseNumber 78 = .ok (.getfield 34, 3) := by decide +kernel
theorem dX6_parseNumber_81 : decode cX6_parseNumber 81 = .ok (.caload, 1) := by decide +kernel
theorem dX6_parseNumber_82 : decode cX6_parseNumber 82 = .ok (.bipush 48, 2) := by decide +kernel
theorem dX6_parseNumber_84 : decode cX6_parseNumber 84 = .ok (.isub, 1) := by decide +kernel
theorem dX6_parseNumber_85 : decode cX6_parseNumber 85 = .ok (.iadd, 1) := by decide +kernel
theorem dX6_parseNumber_86 : decode cX6_parseNumber 86 = .ok (.istore 4, 2) := by decide +kernel
theorem dX6_parseNumber_88 : decode cX6_parseNumber 88 = .ok (.aload_n 0, 1) := by decide +kernel
theorem dX6_parseNumber_89 : decode cX6_parseNumber 89 = .ok (.dup, 1) := by decide +kernel
theorem dX6_parseNumber_90 : decode cX6_parseNumber 90 = .ok (.getfield 34, 3) := by decide +kernel
theorem dX6_parseNumber_93 : decode cX6_parseNumber 93 = .ok (.iconst 1, 1) := by decide +kernel
theorem dX6_parseNumber_94 : decode cX6_parseNumber 94 = .ok (.iadd, 1) := by decide +kernel
theorem dX6_parseNumber_95 : decode cX6_parseNumber 95 = .ok (.putfield 34, 3) := by decide +kernel
theorem dX6_parseNumber_98 : decode cX6_parseNumber 98 = .ok (.goto (-80), 3) := by decide +kernel
theorem dX6_parseNumber_101 : decode cX6_parseNumber 101 = .ok (.aload_n 0, 1) := by decide +kernel
theorem dX6_parseNumber_102 : decode cX6_parseNumber 102 = .ok (.getfield 34, 3) := by decide +kernel
theorem dX6_parseNumber_105 : decode cX6_parseNumber 105 = .ok (.iload_n 3, 1) := by decide +kernel
theorem dX6_parseNumber_106 : decode cX6_parseNumber 106 = .ok (.if_icmp .eq 15, 3) := by decide +kernel
theorem dX6_parseNumber_109 : decode cX6_parseNumber 109 = .ok (.iload 4, 2) := by decide +kernel
theorem dX6_parseNumber_111 : decode cX6_parseNumber 111 = .ok (.iload_n 1, 1) := by decide +kernel
theorem dX6_parseNumber_112 : decode cX6_parseNumber 112 = .ok (.if_icmp .lt 9, 3) := by decide +kernel
theorem dX6_parseNumber_115 : decode cX6_parseNumber 115 = .ok (.iload 4, 2) := by decide +kernel
theorem dX6_parseNumber_117 : decode cX6_parseNumber 117 = .ok (.iload_n 2, 1) := by decide +kernel
theorem dX6_parseNumber_118 : decode cX6_parseNumber 118 = .ok (.if_icmp .le 8, 3) := by decide +kernel
theorem dX6_parseNumber_121 : decode cX6_parseNumber 121 = .ok (.aload_n 0, 1) := by decide +kernel
theorem dX6_parseNumber_122 : decode cX6_parseNumber 122 = .ok (.iload_n 3, 1) := by decide +kernel
theorem dX6_parseNumber_123 : decode cX6_parseNumber 123 = .ok (.putfield 37, 3) := by decide +kernel
theorem dX6_parseNumber_126 : decode cX6_parseNumber 126 = .ok (.iload 4, 2) := by decide +kernel
theorem dX6_parseNumber_128 : decode cX6_parseNumber 128 = .ok (.ireturn, 1) := by decide +kernel
theorem dX7_init_0 : decode cX7_init 0 = .ok (.aload_n 0, 1) := by decide +kernel
theorem dX7_init_1 : decode cX7_init 1 = .ok (.invokespecial 3, 3) := by decide +kernel
theorem dX7_init_4 : decode cX7_init 4 = .ok (.aload_n 0, 1) := by decide +kernel
theorem dX7_init_5 : decode cX7_init 5 = .ok (.bipush 6, 2) := by decide +kernel
theorem dX7_init_7 : decode cX7_init 7 = .ok (.bipush 6, 2) := by decide +kernel
theorem dX7_init_9 : decode cX7_init 9 = .ok (.multianewarray 9 2, 4) := by decide +kernel
theorem dX7_init_13 : decode cX7_init 13 = .ok (.putfield 11, 3) := by decide +kernel
theorem dX7_init_16 : decode cX7_init 16 = .ok (.return_, 1) := by decide +kernel
theorem dX8_init_0 : decode cX8_init 0 = .ok (.aload_n 0, 1) := by decide +kernel
theorem dX8_init_1 : decode cX8_init 1 = .ok (.invokespecial 1, 3) := by decide +kernel
theorem dX8_init_4 : decode cX8_init 4 = .ok (.aload_n 0, 1) := by decide +kernel
theorem dX8_init_5 : decode cX8_init 5 = .ok (.iload_n 1, 1) := by decide +kernel
theorem dX8_init_6 : decode cX8_init 6 = .ok (.putfield 7, 3) := by decide +kernel
theorem dX8_init_9 : decode cX8_init 9 = .ok (.aload_n 0, 1) := by decide +kernel
theorem dX8_init_10 : decode cX8_init 10 = .ok (.iload_n 2, 1) := by decide +kernel
theorem dX8_init_11 : decode cX8_init 11 = .ok (.putfield 13, 3) := by decide +kernel
theorem dX8_init_14 : decode cX8_init 14 = .ok (.aload_n 0, 1) := by decide +kernel
theorem dX8_init_15 : decode cX8_init 15 = .ok (.aload_n 3, 1) := by decide +kernel
theorem dX8_init_16 : decode cX8_init 16 = .ok (.putfield 16, 3) := by decide +kernel
end
section
theorem dX8_init_19 : decode cX8_init 19 = .ok (.return_, 1) := by decide +kernel
theorem dX9_init_0 : decode cX9_init 0 = .ok (.aload_n 0, 1) := by decide +kernel
theorem dX9_init_1 : decode cX9_init 1 = .ok (.invokespecial 3, 3) := by decide +kernel
theorem dX9_init_4 : decode cX9_init 4 = .ok (.aload_n 0, 1) := by decide +kernel
theorem dX9_init_5 : decode cX9_init 5 = .ok (.new 9, 3) := by decide +kernel
theorem dX9_init_8 : decode cX9_init 8 = .ok (.dup, 1) := by decide +kernel
theorem dX9_init_9 : decode cX9_init 9 = .ok (.invokespecial 11, 3) := by decide +kernel
theorem dX9_init_12 : decode cX9_init 12 = .ok (.putfield 12, 3) := by decide +kernel
theorem dX9_init_15 : decode cX9_init 15 = .ok (.aload_n 0, 1) := by decide +kernel
theorem dX9_init_16 : decode cX9_init 16 = .ok (.new 18, 3) := by decide +kernel
theorem dX9_init_19 : decode cX9_init 19 = .ok (.dup, 1) := by decide +kernel
theorem dX9_init_20 : decode cX9_init 20 = .ok (.invokespecial 20, 3) := by decide +kernel
theorem dX9_init_23 : decode cX9_init 23 = .ok (.putfield 21, 3) := by decide +kernel
theorem dX9_init_26 : decode cX9_init 26 = .ok (.aload_n 0, 1) := by decide +kernel
theorem dX9_init_27 : decode cX9_init 27 = .ok (.new 25, 3) := by decide +kernel
theorem dX9_init_30 : decode cX9_init 30 = .ok (.dup, 1) := by decide +kernel
theorem dX9_init_31 : decode cX9_init 31 = .ok (.invokespecial 27, 3) := by decide +kernel
theorem dX9_init_34 : decode cX9_init 34 = .ok (.putfield 28, 3) := by decide +kernel
theorem dX9_init_37 : decode cX9_init 37 = .ok (.aload_n 0, 1) := by decide +kernel
theorem dX9_init_38 : decode cX9_init 38 = .ok (.new 32, 3) := by decide +kernel
theorem dX9_init_41 : decode cX9_init 41 = .ok (.dup, 1) := by decide +kernel
theorem dX9_init_42 : decode cX9_init 42 = .ok (.invokespecial 34, 3) := by decide +kernel
theorem dX9_init_45 : decode cX9_init 45 = .ok (.putfield 35, 3) := by decide +kernel
theorem dX9_init_48 : decode cX9_init 48 = .ok (.return_, 1) := by decide +kernel
theorem dX9_line_0 : decode cX9_line 0 = .ok (.iload_n 1, 1) := by decide +kernel
theorem dX9_line_1 : decode cX9_line 1 = .ok (.i2l, 1) := by decide +kernel
theorem dX9_line_2 : decode cX9_line 2 = .ok (.lconst 0, 1) := by decide +kernel
theorem dX9_line_3 : decode cX9_line 3 = .ok (.ldc2_w 39, 3) := by decide +kernel
theorem dX9_line_6 : decode cX9_line 6 = .ok (.invokestatic 41, 3) := by decide +kernel
theorem dX9_line_9 : decode cX9_line 9 = .ok (.aload_n 0, 1) := by decide +kernel
theorem dX9_line_10 : decode cX9_line 10 = .ok (.getfield 12, 3) := by decide +kernel
theorem dX9_line_13 : decode cX9_line 13 = .ok (.getfield 45, 3) := by decide +kernel
theorem dX9_line_16 : decode cX9_line 16 = .ok (.invokeinterface 49 1, 5) := by decide +kernel
theorem dX9_line_21 : decode cX9_line 21 = .ok (.bipush 40, 2) := by decide +kernel
theorem dX9_line_23 : decode cX9_line 23 = .ok (.if_icmp .ge 7, 3) := by decide +kernel
theorem dX9_line_26 : decode cX9_line 26 = .ok (.iconst 1, 1) := by decide +kernel
theorem dX9_line_27 : decode cX9_line 27 = .ok (.goto 4, 3) := by decide +kernel
theorem dX9_line_30 : decode cX9_line 30 = .ok (.iconst 0, 1) := by decide +kernel
theorem dX9_line_31 : decode cX9_line 31 = .ok (.invokestatic 55, 3) := by decide +kernel
theorem dX9_line_34 : decode cX9_line 34 = .ok (.aload_n 0, 1) := by decide +kernel
theorem dX9_line_35 : decode cX9_line 35 = .ok (.getfield 12, 3) := by decide +kernel
theorem dX9_line_38 : decode cX9_line 38 = .ok (.getfield 45, 3) := by decide +kernel
theorem dX9_line_41 : decode cX9_line 41 = .ok (.new 59, 3) := by decide +kernel
theorem dX9_line_44 : decode cX9_line 44 = .ok (.dup, 1) := by decide +kernel
theorem dX9_line_45 : decode cX9_line 45 = .ok (.iload_n 1, 1) := by decide +kernel
theorem dX9_line_46 : decode cX9_line 46 = .ok (.invokespecial 61, 3) := by decide +kernel
theorem dX9_line_49 : decode cX9_line 49 = .ok (.invokeinterface 64 2, 5) := by decide +kernel
theorem dX9_line_54 : decode cX9_line 54 = .ok (.pop, 1) := by decide +kernel
theorem dX9_line_55 : decode cX9_line 55 = .ok (.aload_n 0, 1) := by decide +kernel
theorem dX9_line_56 : decode cX9_line 56 = .ok (.getfield 12, 3) := by decide +kernel
theorem dX9_line_59 : decode cX9_line 59 = .ok (.getfield 45, 3) := by decide +kernel
theorem dX9_line_62 : decode cX9_line 62 = .ok (.invokeinterface 49 1, 5) := by decide +kernel
theorem dX9_line_67 : decode cX9_line 67 = .ok (.iconst 1, 1) := by decide +kernel
theorem dX9_line_68 : decode cX9_line 68 = .ok (.isub, 1) := by decide +kernel
theorem dX9_line_69 : decode cX9_line 69 = .ok (.ireturn, 1) := by decide +kernel
theorem dX9_stop_0 : decode cX9_stop 0 = .ok (.iload_n 1, 1) := by decide +kernel
theorem dX9_stop_1 : decode cX9_stop 1 = .ok (.aload_n 0, 1) := by decide +kernel
theorem dX9_stop_2 : decode cX9_stop 2 = .ok (.getfield 12, 3) := by decide +kernel
theorem dX9_stop_5 : decode cX9_stop 5 = .ok (.getfield 45, 3) := by decide +kernel
theorem dX9_stop_8 : decode cX9_stop 8 = .ok (.invokeinterface 49 1, 5) := by decide +kernel
theorem dX9_stop_13 : decode cX9_stop 13 = .ok (.invokestatic 68, 3) := by decide +kernel
theorem dX9_stop_16 : decode cX9_stop 16 = .ok (.iload_n 2, 1) := by decide +kernel
theorem dX9_stop_17 : decode cX9_stop 17 = .ok (.bipush 100, 2) := by decide +kernel
theorem dX9_stop_19 : decode cX9_stop 19 = .ok (.invokestatic 68, 3) := by decide +kernel
theorem dX9_stop_22 : decode cX9_stop 22 = .ok (.lload_n 3, 1) := by decide +kernel
theorem dX9_stop_23 : decode cX9_stop 23 = .ok (.lconst 0, 1) := by decide +kernel
theorem dX9_stop_24 : decode cX9_stop 24 = .ok (.ldc2_w 72, 3) := by decide +kernel
theorem dX9_stop_27 : decode cX9_stop 27 = .ok (.invokestatic 41, 3) := by decide +kernel
theorem dX9_stop_30 : decode cX9_stop 30 = .ok (.lload 5, 2) := by decide +kernel
theorem dX9_stop_32 : decode cX9_stop 32 = .ok (.lconst 0, 1) := by decide +kernel
theorem dX9_stop_33 : decode cX9_stop 33 = .ok (.ldc2_w 72, 3) := by decide +kernel
theorem dX9_stop_36 : decode cX9_stop 36 = .ok (.invokestatic 41, 3) := by decide +kernel
theorem dX9_stop_39 : decode cX9_stop 39 = .ok (.aload_n 0, 1) := by decide +kernel
theorem dX9_stop_40 : decode cX9_stop 40 = .ok (.getfield 12, 3) := by decide +kernel
theorem dX9_stop_43 : decode cX9_stop 43 = .ok (.getfield 45, 3) := by decide +kernel
theorem dX9_stop_46 : decode cX9_stop 46 = .ok (.iload_n 1, 1) := by decide +kernel
theorem dX9_stop_47 : decode cX9_stop 47 = .ok (.invokeinterface 74 2, 5) := by decide +kernel
theorem dX9_stop_52 : decode cX9_stop 52 = .ok (.checkcast 59, 3) := by decide +kernel
theorem dX9_stop_55 : decode cX9_stop 55 = .ok (.astore 7, 2) := by decide +kernel
theorem dX9_stop_57 : decode cX9_stop 57 = .ok (.aload 7, 2) := by decide +kernel
theorem dX9_stop_59 : decode cX9_stop 59 = .ok (.invokevirtual 78, 3) := by decide +kernel
theorem dX9_stop_62 : decode cX9_stop 62 = .ok (.invokestatic 55, 3) := by decide +kernel
theorem dX9_stop_65 : decode cX9_stop 65 = .ok (.lload_n 3, 1) := by decide +kernel
theorem dX9_stop_66 : decode cX9_stop 66 = .ok (.aload 7, 2) := by decide +kernel
theorem dX9_stop_68 : decode cX9_stop 68 = .ok (.invokevirtual 82, 3) := by decide +kernel
theorem dX9_stop_71 : decode cX9_stop 71 = .ok (.i2l, 1) := by decide +kernel
theorem dX9_stop_72 : decode cX9_stop 72 = .ok (.lcmp, 1) := by decide +kernel
theorem dX9_stop_73 : decode cX9_stop 73 = .ok (.ifCond .lt 10, 3) := by decide +kernel
theorem dX9_stop_76 : decode cX9_stop 76 = .ok (.lload 5, 2) := by decide +kernel
theorem dX9_stop_78 : decode cX9_stop 78 = .ok (.lload_n 3, 1) := by decide +kernel
theorem dX9_stop_79 : decode cX9_stop 79 = .ok (.lcmp, 1) := by decide +kernel
theorem dX9_stop_80 : decode cX9_stop 80 = .ok (.ifCond .ge 5, 3) := by decide +kernel
theorem dX9_stop_83 : decode cX9_stop 83 = .ok (.iconst 0, 1) := by decide +kernel
theorem dX9_stop_84 : decode cX9_stop 84 = .ok (.ireturn, 1) := by decide +kernel
theorem dX9_stop_85 : decode cX9_stop 85 = .ok (.aload 7, 2) := by decide +kernel
theorem dX9_stop_87 : decode cX9_stop 87 = .ok (.iload_n 2, 1) := by decide +kernel
theorem dX9_stop_88 : decode cX9_stop 88 = .ok (.lload_n 3, 1) := by decide +kernel
theorem dX9_stop_89 : decode cX9_stop 89 = .ok (.l2i, 1) := by decide +kernel
theorem dX9_stop_90 : decode cX9_stop 90 = .ok (.lload 5, 2) := by decide +kernel
theorem dX9_stop_92 : decode cX9_stop 92 = .ok (.l2i, 1) := by decide +kernel
theorem dX9_stop_93 : decode cX9_stop 93 = .ok (.invokevirtual 85, 3) := by decide +kernel
theorem dX9_stop_96 : decode cX9_stop 96 = .ok (.iconst 1, 1) := by decide +kernel
theorem dX9_stop_97 : decode cX9_stop 97 = .ok (.ireturn, 1) := by decide +kernel
theorem dX9_exception_0 : decode cX9_exception 0 = .ok (.iload_n 1, 1) := by decide +kernel
theorem dX9_exception_1 : decode cX9_exception 1 = .ok (.aload_n 0, 1) := by decide +kernel
theorem dX9_exception_2 : decode cX9_exception 2 = .ok (.getfield 12, 3) := by decide +kernel
theorem dX9_exception_5 : decode cX9_exception 5 = .ok (.getfield 45, 3) := by decide +kernel
theorem dX9_exception_8 : decode cX9_exception 8 = .ok (.invokeinterface 49 1, 5) := by decide +kernel
theorem dX9_exception_13 : decode cX9_exception 13 = .ok (.invokestatic 68, 3) := by decide +kernel
theorem dX9_exception_16 : decode cX9_exception 16 = .ok (.lload_n 2, 1) := by decide +kernel
theorem dX9_exception_17 : decode cX9_exception 17 = .ok (.lconst 0, 1) := by decide +kernel
theorem dX9_exception_18 : decode cX9_exception 18 = .ok (.ldc2_w 89, 3) := by decide +kernel
theorem dX9_exception_21 : decode cX9_exception 21 = .ok (.invokestatic 41, 3) := by decide +kernel
theorem dX9_exception_24 : decode cX9_exception 24 = .ok (.aload_n 0, 1) := by decide +kernel
theorem dX9_exception_25 : decode cX9_exception 25 = .ok (.getfield 12, 3) := by decide +kernel
theorem dX9_exception_28 : decode cX9_exception 28 = .ok (.getfield 45, 3) := by decide +kernel
theorem dX9_exception_31 : decode cX9_exception 31 = .ok (.iload_n 1, 1) := by decide +kernel
theorem dX9_exception_32 : decode cX9_exception 32 = .ok (.invokeinterface 74 2, 5) := by decide +kernel
theorem dX9_exception_37 : decode cX9_exception 37 = .ok (.checkcast 59, 3) := by decide +kernel
theorem dX9_exception_40 : decode cX9_exception 40 = .ok (.astore 5, 2) := by decide +kernel
theorem dX9_exception_42 : decode cX9_exception 42 = .ok (.aload 5, 2) := by decide +kernel
theorem dX9_exception_44 : decode cX9_exception 44 = .ok (.lload_n 2, 1) := by decide +kernel
theorem dX9_exception_45 : decode cX9_exception 45 = .ok (.l2i, 1) := by decide +kernel
theorem dX9_exception_46 : decode cX9_exception 46 = .ok (.invokevirtual 91, 3) := by decide +kernel
theorem dX9_exception_49 : decode cX9_exception 49 = .ok (.astore 6, 2) := by decide +kernel
theorem dX9_exception_51 : decode cX9_exception 51 = .ok (.aload 6, 2) := by decide +kernel
theorem dX9_exception_53 : decode cX9_exception 53 = .ok (.ifnull 15, 3) := by decide +kernel
theorem dX9_exception_56 : decode cX9_exception 56 = .ok (.aload 6, 2) := by decide +kernel
theorem dX9_exception_58 : decode cX9_exception 58 = .ok (.iload 4, 2) := by decide +kernel
theorem dX9_exception_60 : decode cX9_exception 60 = .ok (.putfield 95, 3) := by decide +kernel
theorem dX9_exception_63 : decode cX9_exception 63 = .ok (.aload_n 0, 1) := by decide +kernel
theorem dX9_exception_64 : decode cX9_exception 64 = .ok (.getfield 101, 3) := by decide +kernel
theorem dX9_exception_67 : decode cX9_exception 67 = .ok (.ireturn, 1) := by decide +kernel
theorem dX9_exception_68 : decode cX9_exception 68 = .ok (.aload_n 0, 1) := by decide +kernel
theorem dX9_exception_69 : decode cX9_exception 69 = .ok (.getfield 101, 3) := by decide +kernel
theorem dX9_exception_72 : decode cX9_exception 72 = .ok (.bipush 100, 2) := by decide +kernel
theorem dX9_exception_74 : decode cX9_exception 74 = .ok (.if_icmp .ge 7, 3) := by decide +kernel
theorem dX9_exception_77 : decode cX9_exception 77 = .ok (.iconst 1, 1) := by decide +kernel
theorem dX9_exception_78 : decode cX9_exception 78 = .ok (.goto 4, 3) := by decide +kernel
theorem dX9_exception_81 : decode cX9_exception 81 = .ok (.iconst 0, 1) := by decide +kernel
theorem dX9_exception_82 : decode cX9_exception 82 = .ok (.invokestatic 55, 3) := by decide +kernel
theorem dX9_exception_85 : decode cX9_exception 85 = .ok (.aload 5, 2) := by decide +kernel
theorem dX9_exception_87 : decode cX9_exception 87 = .ok (.new 96, 3) := by decide +kernel
theorem dX9_exception_90 : decode cX9_exception 90 = .ok (.dup, 1) := by decide +kernel
theorem dX9_exception_91 : decode cX9_exception 91 = .ok (.lload_n 2, 1) := by decide +kernel
theorem dX9_exception_92 : decode cX9_exception 92 = .ok (.l2i, 1) := by decide +kernel
theorem dX9_exception_93 : decode cX9_exception 93 = .ok (.iload 4, 2) := by decide +kernel
theorem dX9_exception_95 : decode cX9_exception 95 = .ok (.aload 5, 2) := by decide +kernel
theorem dX9_exception_97 : decode cX9_exception 97 = .ok (.getfield 105, 3) := by decide +kernel
theorem dX9_exception_100 : decode cX9_exception 100 = .ok (.invokespecial 109, 3) := by decide +kernel
theorem dX9_exception_103 : decode cX9_exception 103 = .ok (.putfield 105, 3) := by decide +kernel
theorem dX9_exception_106 : decode cX9_exception 106 = .ok (.aload_n 0, 1) := by decide +kernel
theorem dX9_exception_107 : decode cX9_exception 107 = .ok (.dup, 1) := by decide +kernel
theorem dX9_exception_108 : decode cX9_exception 108 = .ok (.getfield 101, 3) := by decide +kernel
theorem dX9_exception_111 : decode cX9_exception 111 = .ok (.iconst 1, 1) := by decide +kernel
theorem dX9_exception_112 : decode cX9_exception 112 = .ok (.iadd, 1) := by decide +kernel
theorem dX9_exception_113 : decode cX9_exception 113 = .ok (.putfield 101, 3) := by decide +kernel
theorem dX9_exception_116 : decode cX9_exception 116 = .ok (.aload_n 0, 1) := by decide +kernel
theorem dX9_exception_117 : decode cX9_exception 117 = .ok (.getfield 101, 3) := by decide +kernel
theorem dX9_exception_120 : decode cX9_exception 120 = .ok (.ireturn, 1) := by decide +kernel
theorem dX9_zone_0 : decode cX9_zone 0 = .ok (.iload_n 1, 1) := by decide +kernel
theorem dX9_zone_1 : decode cX9_zone 1 = .ok (.bipush 100, 2) := by decide +kernel
theorem dX9_zone_3 : decode cX9_zone 3 = .ok (.invokestatic 68, 3) := by decide +kernel
theorem dX9_zone_6 : decode cX9_zone 6 = .ok (.lload_n 2, 1) := by decide +kernel
theorem dX9_zone_7 : decode cX9_zone 7 = .ok (.lconst 0, 1) := by decide +kernel
theorem dX9_zone_8 : decode cX9_zone 8 = .ok (.ldc2_w 112, 3) := by decide +kernel
theorem dX9_zone_11 : decode cX9_zone 11 = .ok (.invokestatic 41, 3) := by decide +kernel
theorem dX9_zone_14 : decode cX9_zone 14 = .ok (.iload 4, 2) := by decide +kernel
theorem dX9_zone_16 : decode cX9_zone 16 = .ok (.i2l, 1) := by decide +kernel
theorem dX9_zone_17 : decode cX9_zone 17 = .ok (.ldc2_w 114, 3) := by decide +kernel
theorem dX9_zone_20 : decode cX9_zone 20 = .ok (.ldc2_w 116, 3) := by decide +kernel
theorem dX9_zone_23 : decode cX9_zone 23 = .ok (.invokestatic 41, 3) := by decide +kernel
theorem dX9_zone_26 : decode cX9_zone 26 = .ok (.aload_n 0, 1) := by decide +kernel
theorem dX9_zone_27 : decode cX9_zone 27 = .ok (.getfield 12, 3) := by decide +kernel
theorem dX9_zone_30 : decode cX9_zone 30 = .ok (.getfield 118, 3) := by decide +kernel
theorem dX9_zone_33 : decode cX9_zone 33 = .ok (.iload_n 1, 1) := by decide +kernel
theorem dX9_zone_34 : decode cX9_zone 34 = .ok (.aaload, 1) := by decide +kernel
theorem dX9_zone_35 : decode cX9_zone 35 = .ok (.astore 5, 2) := by decide +kernel
theorem dX9_zone_37 : decode cX9_zone 37 = .ok (.aload 5, 2) := by decide +kernel
theorem dX9_zone_39 : decode cX9_zone 39 = .ok (.lload_n 2, 1) := by decide +kernel
theorem dX9_zone_40 : decode cX9_zone 40 = .ok (.l2i, 1) := by decide +kernel
theorem dX9_zone_41 : decode cX9_zone 41 = .ok (.invokevirtual 122, 3) := by decide +kernel
theorem dX9_zone_44 : decode cX9_zone 44 = .ok (.astore 6, 2) := by decide +kernel
theorem dX9_zone_46 : decode cX9_zone 46 = .ok (.aload 6, 2) := by decide +kernel
theorem dX9_zone_48 : decode cX9_zone 48 = .ok (.ifnull 16, 3) := by decide +kernel
theorem dX9_zone_51 : decode cX9_zone 51 = .ok (.aload 6, 2) := by decide +kernel
theorem dX9_zone_53 : decode cX9_zone 53 = .ok (.iload 4, 2) := by decide +kernel
theorem dX9_zone_55 : decode cX9_zone 55 = .ok (.putfield 128, 3) := by decide +kernel
theorem dX9_zone_58 : decode cX9_zone 58 = .ok (.aload 5, 2) := by decide +kernel
theorem dX9_zone_60 : decode cX9_zone 60 = .ok (.getfield 133, 3) := by decide +kernel
theorem dX9_zone_63 : decode cX9_zone 63 = .ok (.ireturn, 1) := by decide +kernel
theorem dX9_zone_64 : decode cX9_zone 64 = .ok (.aload_n 0, 1) := by decide +kernel
theorem dX9_zone_65 : decode cX9_zone 65 = .ok (.getfield 136, 3) := by decide +kernel
theorem dX9_zone_68 : decode cX9_zone 68 = .ok (.bipush 100, 2) := by decide +kernel
theorem dX9_zone_70 : decode cX9_zone 70 = .ok (.if_icmp .ge 7, 3) := by decide +kernel
theorem dX9_zone_73 : decode cX9_zone 73 = .ok (.iconst 1, 1) := by decide +kernel
theorem dX9_zone_74 : decode cX9_zone 74 = .ok (.goto 4, 3) := by decide +kernel
theorem dX9_zone_77 : decode cX9_zone 77 = .ok (.iconst 0, 1) := by decide +kernel
theorem dX9_zone_78 : decode cX9_zone 78 = .ok (.invokestatic 55, 3) := by decide +kernel
theorem dX9_zone_81 : decode cX9_zone 81 = .ok (.aload 5, 2) := by decide +kernel
theorem dX9_zone_83 : decode cX9_zone 83 = .ok (.lload_n 2, 1) := by decide +kernel
theorem dX9_zone_84 : decode cX9_zone 84 = .ok (.l2i, 1) := by decide +kernel
theorem dX9_zone_85 : decode cX9_zone 85 = .ok (.iload 4, 2) := by decide +kernel
theorem dX9_zone_87 : decode cX9_zone 87 = .ok (.invokevirtual 139, 3) := by decide +kernel
theorem dX9_zone_90 : decode cX9_zone 90 = .ok (.aload_n 0, 1) := by decide +kernel
theorem dX9_zone_91 : decode cX9_zone 91 = .ok (.dup, 1) := by decide +kernel
theorem dX9_zone_92 : decode cX9_zone 92 = .ok (.getfield 136, 3) := by decide +kernel
theorem dX9_zone_95 : decode cX9_zone 95 = .ok (.iconst 1, 1) := by decide +kernel
theorem dX9_zone_96 : decode cX9_zone 96 = .ok (.iadd, 1) := by decide +kernel
theorem dX9_zone_97 : decode cX9_zone 97 = .ok (.putfield 136, 3) := by decide +kernel
theorem dX9_zone_100 : decode cX9_zone 100 = .ok (.aload 5, 2) := by decide +kernel
theorem dX9_zone_102 : decode cX9_zone 102 = .ok (.getfield 133, 3) := by decide +kernel
theorem dX9_zone_105 : decode cX9_zone 105 = .ok (.ireturn, 1) := by decide +kernel
theorem dX9_least_0 : decode cX9_least 0 = .ok (.iload_n 1, 1) := by decide +kernel
theorem dX9_least_1 : decode cX9_least 1 = .ok (.bipush 100, 2) := by decide +kernel
theorem dX9_least_3 : decode cX9_least 3 = .ok (.invokestatic 68, 3) := by decide +kernel
theorem dX9_least_6 : decode cX9_least 6 = .ok (.lload_n 2, 1) := by decide +kernel
theorem dX9_least_7 : decode cX9_least 7 = .ok (.lconst 0, 1) := by decide +kernel
theorem dX9_least_8 : decode cX9_least 8 = .ok (.ldc2_w 142, 3) := by decide +kernel
theorem dX9_least_11 : decode cX9_least 11 = .ok (.invokestatic 41, 3) := by decide +kernel
theorem dX9_least_14 : decode cX9_least 14 = .ok (.aload_n 0, 1) := by decide +kernel
theorem dX9_least_15 : decode cX9_least 15 = .ok (.getfield 12, 3) := by decide +kernel
theorem dX9_least_18 : decode cX9_least 18 = .ok (.getfield 118, 3) := by decide +kernel
theorem dX9_least_21 : decode cX9_least 21 = .ok (.iload_n 1, 1) := by decide +kernel
theorem dX9_least_22 : decode cX9_least 22 = .ok (.aaload, 1) := by decide +kernel
theorem dX9_least_23 : decode cX9_least 23 = .ok (.astore 4, 2) := by decide +kernel
theorem dX9_least_25 : decode cX9_least 25 = .ok (.aload 4, 2) := by decide +kernel
theorem dX9_least_27 : decode cX9_least 27 = .ok (.getfield 144, 3) := by decide +kernel
theorem dX9_least_30 : decode cX9_least 30 = .ok (.istore 5, 2) := by decide +kernel
theorem dX9_least_32 : decode cX9_least 32 = .ok (.aload 4, 2) := by decide +kernel
theorem dX9_least_34 : decode cX9_least 34 = .ok (.lload_n 2, 1) := by decide +kernel
theorem dX9_least_35 : decode cX9_least 35 = .ok (.l2i, 1) := by decide +kernel
theorem dX9_least_36 : decode cX9_least 36 = .ok (.putfield 144, 3) := by decide +kernel
theorem dX9_least_39 : decode cX9_least 39 = .ok (.iload 5, 2) := by decide +kernel
theorem dX9_least_41 : decode cX9_least 41 = .ok (.ireturn, 1) := by decide +kernel
theorem dX9_change_0 : decode cX9_change 0 = .ok (.iload_n 1, 1) := by decide +kernel
theorem dX9_change_1 : decode cX9_change 1 = .ok (.aload_n 0, 1) := by decide +kernel
theorem dX9_change_2 : decode cX9_change 2 = .ok (.getfield 12, 3) := by decide +kernel
theorem dX9_change_5 : decode cX9_change 5 = .ok (.getfield 45, 3) := by decide +kernel
theorem dX9_change_8 : decode cX9_change 8 = .ok (.invokeinterface 49 1, 5) := by decide +kernel
theorem dX9_change_13 : decode cX9_change 13 = .ok (.invokestatic 68, 3) := by decide +kernel
theorem dX9_change_16 : decode cX9_change 16 = .ok (.aload_n 0, 1) := by decide +kernel
theorem dX9_change_17 : decode cX9_change 17 = .ok (.getfield 12, 3) := by decide +kernel
theorem dX9_change_20 : decode cX9_change 20 = .ok (.getfield 45, 3) := by decide +kernel
theorem dX9_change_23 : decode cX9_change 23 = .ok (.iload_n 1, 1) := by decide +kernel
theorem dX9_change_24 : decode cX9_change 24 = .ok (.invokeinterface 74 2, 5) := by decide +kernel
theorem dX9_change_29 : decode cX9_change 29 = .ok (.checkcast 59, 3) := by decide +kernel
theorem dX9_change_32 : decode cX9_change 32 = .ok (.astore 7, 2) := by decide +kernel
theorem dX9_change_34 : decode cX9_change 34 = .ok (.iload_n 2, 1) := by decide +kernel
theorem dX9_change_35 : decode cX9_change 35 = .ok (.aload 7, 2) := by decide +kernel
theorem dX9_change_37 : decode cX9_change 37 = .ok (.getfield 147, 3) := by decide +kernel
theorem dX9_change_40 : decode cX9_change 40 = .ok (.invokestatic 68, 3) := by decide +kernel
theorem dX9_change_43 : decode cX9_change 43 = .ok (.lload_n 3, 1) := by decide +kernel
theorem dX9_change_44 : decode cX9_change 44 = .ok (.lconst 0, 1) := by decide +kernel
theorem dX9_change_45 : decode cX9_change 45 = .ok (.ldc2_w 142, 3) := by decide +kernel
theorem dX9_change_48 : decode cX9_change 48 = .ok (.invokestatic 41, 3) := by decide +kernel
theorem dX9_change_51 : decode cX9_change 51 = .ok (.lload 5, 2) := by decide +kernel
theorem dX9_change_53 : decode cX9_change 53 = .ok (.lconst 0, 1) := by decide +kernel
theorem dX9_change_54 : decode cX9_change 54 = .ok (.ldc2_w 89, 3) := by decide +kernel
theorem dX9_change_57 : decode cX9_change 57 = .ok (.invokestatic 41, 3) := by decide +kernel
theorem dX9_change_60 : decode cX9_change 60 = .ok (.aload_n 0, 1) := by decide +kernel
theorem dX9_change_61 : decode cX9_change 61 = .ok (.getfield 150, 3) := by decide +kernel
theorem dX9_change_64 : decode cX9_change 64 = .ok (.bipush 100, 2) := by decide +kernel
theorem dX9_change_66 : decode cX9_change 66 = .ok (.if_icmp .ge 7, 3) := by decide +kernel
theorem dX9_change_69 : decode cX9_change 69 = .ok (.iconst 1, 1) := by decide +kernel
theorem dX9_change_70 : decode cX9_change 70 = .ok (.goto 4, 3) := by decide +kernel
theorem dX9_change_73 : decode cX9_change 73 = .ok (.iconst 0, 1) := by decide +kernel
theorem dX9_change_74 : decode cX9_change 74 = .ok (.invokestatic 55, 3) := by decide +kernel
theorem dX9_change_77 : decode cX9_change 77 = .ok (.aload 7, 2) := by decide +kernel
theorem dX9_change_79 : decode cX9_change 79 = .ok (.new 153, 3) := by decide +kernel
theorem dX9_change_82 : decode cX9_change 82 = .ok (.dup, 1) := by decide +kernel
theorem dX9_change_83 : decode cX9_change 83 = .ok (.iload_n 2, 1) := by decide +kernel
theorem dX9_change_84 : decode cX9_change 84 = .ok (.lload_n 3, 1) := by decide +kernel
theorem dX9_change_85 : decode cX9_change 85 = .ok (.l2i, 1) := by decide +kernel
theorem dX9_change_86 : decode cX9_change 86 = .ok (.lload 5, 2) := by decide +kernel
theorem dX9_change_88 : decode cX9_change 88 = .ok (.l2i, 1) := by decide +kernel
theorem dX9_change_89 : decode cX9_change 89 = .ok (.aload 7, 2) := by decide +kernel
theorem dX9_change_91 : decode cX9_change 91 = .ok (.getfield 155, 3) := by decide +kernel
theorem dX9_change_94 : decode cX9_change 94 = .ok (.invokespecial 159, 3) := by decide +kernel
theorem dX9_change_97 : decode cX9_change 97 = .ok (.putfield 155, 3) := by decide +kernel
theorem dX9_change_100 : decode cX9_change 100 = .ok (.aload_n 0, 1) := by decide +kernel
theorem dX9_change_101 : decode cX9_change 101 = .ok (.dup, 1) := by decide +kernel
theorem dX9_change_102 : decode cX9_change 102 = .ok (.getfield 150, 3) := by decide +kernel
theorem dX9_change_105 : decode cX9_change 105 = .ok (.iconst 1, 1) := by decide +kernel
theorem dX9_change_106 : decode cX9_change 106 = .ok (.iadd, 1) := by decide +kernel
theorem dX9_change_107 : decode cX9_change 107 = .ok (.putfield 150, 3) := by decide +kernel
theorem dX9_change_110 : decode cX9_change 110 = .ok (.aload_n 0, 1) := by decide +kernel
theorem dX9_change_111 : decode cX9_change 111 = .ok (.getfield 150, 3) := by decide +kernel
theorem dX9_change_114 : decode cX9_change 114 = .ok (.ireturn, 1) := by decide +kernel
theorem dX9_earliest_0 : decode cX9_earliest 0 = .ok (.iload_n 1, 1) := by decide +kernel
theorem dX9_earliest_1 : decode cX9_earliest 1 = .ok (.iload_n 2, 1) := by decide +kernel
theorem dX9_earliest_2 : decode cX9_earliest 2 = .ok (.lload_n 3, 1) := by decide +kernel
theorem dX9_earliest_3 : decode cX9_earliest 3 = .ok (.invokestatic 162, 3) := by decide +kernel
theorem dX9_earliest_6 : decode cX9_earliest 6 = .ok (.aload_n 0, 1) := by decide +kernel
theorem dX9_earliest_7 : decode cX9_earliest 7 = .ok (.getfield 21, 3) := by decide +kernel
theorem dX9_earliest_10 : decode cX9_earliest 10 = .ok (.iconst 0, 1) := by decide +kernel
theorem dX9_earliest_11 : decode cX9_earliest 11 = .ok (.putfield 166, 3) := by decide +kernel
theorem dX9_earliest_14 : decode cX9_earliest 14 = .ok (.iload_n 1, 1) := by decide +kernel
theorem dX9_earliest_15 : decode cX9_earliest 15 = .ok (.iload_n 2, 1) := by decide +kernel
theorem dX9_earliest_16 : decode cX9_earliest 16 = .ok (.if_icmp .ne 5, 3) := by decide +kernel
theorem dX9_earliest_19 : decode cX9_earliest 19 = .ok (.lload_n 3, 1) := by decide +kernel
theorem dX9_earliest_20 : decode cX9_earliest 20 = .ok (.lreturn, 1) := by decide +kernel
theorem dX9_earliest_21 : decode cX9_earliest 21 = .ok (.aload_n 0, 1) := by decide +kernel
theorem dX9_earliest_22 : decode cX9_earliest 22 = .ok (.getfield 12, 3) := by decide +kernel
theorem dX9_earliest_25 : decode cX9_earliest 25 = .ok (.iload_n 1, 1) := by decide +kernel
theorem dX9_earliest_26 : decode cX9_earliest 26 = .ok (.iload_n 2, 1) := by decide +kernel
theorem dX9_earliest_27 : decode cX9_earliest 27 = .ok (.lload_n 3, 1) := by decide +kernel
theorem dX9_earliest_28 : decode cX9_earliest 28 = .ok (.l2i, 1) := by decide +kernel
theorem dX9_earliest_29 : decode cX9_earliest 29 = .ok (.invokevirtual 169, 3) := by decide +kernel
theorem dX9_earliest_32 : decode cX9_earliest 32 = .ok (.istore 5, 2) := by decide +kernel
theorem dX9_earliest_34 : decode cX9_earliest 34 = .ok (.iload 5, 2) := by decide +kernel
theorem dX9_earliest_36 : decode cX9_earliest 36 = .ok (.iconst (-1), 1) := by decide +kernel
theorem dX9_earliest_37 : decode cX9_earliest 37 = .ok (.if_icmp .ne 7, 3) := by decide +kernel
theorem dX9_earliest_40 : decode cX9_earliest 40 = .ok (.ldc2_w 173, 3) := by decide +kernel
theorem dX9_earliest_43 : decode cX9_earliest 43 = .ok (.lreturn, 1) := by decide +kernel
theorem dX9_earliest_44 : decode cX9_earliest 44 = .ok (.aload_n 0, 1) := by decide +kernel
theorem dX9_earliest_45 : decode cX9_earliest 45 = .ok (.getfield 12, 3) := by decide +kernel
theorem dX9_earliest_48 : decode cX9_earliest 48 = .ok (.aload_n 0, 1) := by decide +kernel
theorem dX9_earliest_49 : decode cX9_earliest 49 = .ok (.getfield 21, 3) := by decide +kernel
theorem dX9_earliest_52 : decode cX9_earliest 52 = .ok (.iload_n 2, 1) := by decide +kernel
theorem dX9_earliest_53 : decode cX9_earliest 53 = .ok (.iload 5, 2) := by decide +kernel
theorem dX9_earliest_55 : decode cX9_earliest 55 = .ok (.invokevirtual 175, 3) := by decide +kernel
theorem dX9_earliest_58 : decode cX9_earliest 58 = .ok (.aload_n 0, 1) := by decide +kernel
theorem dX9_earliest_59 : decode cX9_earliest 59 = .ok (.getfield 12, 3) := by decide +kernel
theorem dX9_earliest_62 : decode cX9_earliest 62 = .ok (.getfield 179, 3) := by decide +kernel
theorem dX9_earliest_65 : decode cX9_earliest 65 = .ok (.iload 5, 2) := by decide +kernel
theorem dX9_earliest_67 : decode cX9_earliest 67 = .ok (.aaload, 1) := by decide +kernel
theorem dX9_earliest_68 : decode cX9_earliest 68 = .ok (.iload_n 2, 1) := by decide +kernel
theorem dX9_earliest_69 : decode cX9_earliest 69 = .ok (.iaload, 1) := by decide +kernel
theorem dX9_earliest_70 : decode cX9_earliest 70 = .ok (.i2l, 1) := by decide +kernel
theorem dX9_earliest_71 : decode cX9_earliest 71 = .ok (.lreturn, 1) := by decide +kernel
theorem dX9_step_0 : decode cX9_step 0 = .ok (.iload_n 2, 1) := by decide +kernel
theorem dX9_step_1 : decode cX9_step 1 = .ok (.i2l, 1) := by decide +kernel
theorem dX9_step_2 : decode cX9_step 2 = .ok (.lconst 0, 1) := by decide +kernel
theorem dX9_step_3 : decode cX9_step 3 = .ok (.ldc2_w 183, 3) := by decide +kernel
theorem dX9_step_6 : decode cX9_step 6 = .ok (.invokestatic 41, 3) := by decide +kernel
theorem dX9_step_9 : decode cX9_step 9 = .ok (.iload_n 1, 1) := by decide +kernel
theorem dX9_step_10 : decode cX9_step 10 = .ok (.ifCond .lt 14, 3) := by decide +kernel
theorem dX9_step_13 : decode cX9_step 13 = .ok (.iload_n 1, 1) := by decide +kernel
theorem dX9_step_14 : decode cX9_step 14 = .ok (.aload_n 0, 1) := by decide +kernel
theorem dX9_step_15 : decode cX9_step 15 = .ok (.getfield 21, 3) := by decide +kernel
theorem dX9_step_18 : decode cX9_step 18 = .ok (.getfield 166, 3) := by decide +kernel
theorem dX9_step_21 : decode cX9_step 21 = .ok (.if_icmp .lt 5, 3) := by decide +kernel
theorem dX9_step_24 : decode cX9_step 24 = .ok (.iconst (-1), 1) := by decide +kernel
theorem dX9_step_25 : decode cX9_step 25 = .ok (.ireturn, 1) := by decide +kernel
theorem dX9_step_26 : decode cX9_step 26 = .ok (.aload_n 0, 1) := by decide +kernel
theorem dX9_step_27 : decode cX9_step 27 = .ok (.getfield 21, 3) := by decide +kernel
theorem dX9_step_30 : decode cX9_step 30 = .ok (.getfield 185, 3) := by decide +kernel
theorem dX9_step_33 : decode cX9_step 33 = .ok (.iload_n 1, 1) := by decide +kernel
theorem dX9_step_34 : decode cX9_step 34 = .ok (.aaload, 1) := by decide +kernel
theorem dX9_step_35 : decode cX9_step 35 = .ok (.iload_n 2, 1) := by decide +kernel
theorem dX9_step_36 : decode cX9_step 36 = .ok (.iaload, 1) := by decide +kernel
theorem dX9_step_37 : decode cX9_step 37 = .ok (.ireturn, 1) := by decide +kernel
theorem dX9_days_0 : decode cX9_days 0 = .ok (.iload_n 1, 1) := by decide +kernel
theorem dX9_days_1 : decode cX9_days 1 = .ok (.iconst 1, 1) := by decide +kernel
theorem dX9_days_2 : decode cX9_days 2 = .ok (.if_icmp .lt 11, 3) := by decide +kernel
theorem dX9_days_5 : decode cX9_days 5 = .ok (.iload_n 1, 1) := by decide +kernel
theorem dX9_days_6 : decode cX9_days 6 = .ok (.getstatic 188, 3) := by decide +kernel
theorem dX9_days_9 : decode cX9_days 9 = .ok (.arraylength, 1) := by decide +kernel
theorem dX9_days_10 : decode cX9_days 10 = .ok (.if_icmp .le 13, 3) := by decide +kernel
theorem dX9_days_13 : decode cX9_days 13 = .ok (.new 192, 3) := by decide +kernel
theorem dX9_days_16 : decode cX9_days 16 = .ok (.dup, 1) := by decide +kernel
theorem dX9_days_17 : decode cX9_days 17 = .ok (.ldc 194, 2) := by decide +kernel
theorem dX9_days_19 : decode cX9_days 19 = .ok (.invokespecial 196, 3) := by decide +kernel
theorem dX9_days_22 : decode cX9_days 22 = .ok (.athrow, 1) := by decide +kernel
theorem dX9_days_23 : decode cX9_days 23 = .ok (.iload_n 1, 1) := by decide +kernel
theorem dX9_days_24 : decode cX9_days 24 = .ok (.iconst 2, 1) := by decide +kernel
theorem dX9_days_25 : decode cX9_days 25 = .ok (.if_icmp .ne 20, 3) := by decide +kernel
theorem dX9_days_28 : decode cX9_days 28 = .ok (.iload_n 2, 1) := by decide +kernel
theorem dX9_days_29 : decode cX9_days 29 = .ok (.invokestatic 199, 3) := by decide +kernel
theorem dX9_days_32 : decode cX9_days 32 = .ok (.ifCond .eq 13, 3) := by decide +kernel
theorem dX9_days_35 : decode cX9_days 35 = .ok (.getstatic 188, 3) := by decide +kernel
theorem dX9_days_38 : decode cX9_days 38 = .ok (.iload_n 1, 1) := by decide +kernel
theorem dX9_days_39 : decode cX9_days 39 = .ok (.iconst 1, 1) := by decide +kernel
theorem dX9_days_40 : decode cX9_days 40 = .ok (.isub, 1) := by decide +kernel
theorem dX9_days_41 : decode cX9_days 41 = .ok (.iaload, 1) := by decide +kernel
theorem dX9_days_42 : decode cX9_days 42 = .ok (.iconst 1, 1) := by decide +kernel
theorem dX9_days_43 : decode cX9_days 43 = .ok (.iadd, 1) := by decide +kernel
theorem dX9_days_44 : decode cX9_days 44 = .ok (.ireturn, 1) := by decide +kernel
theorem dX9_days_45 : decode cX9_days 45 = .ok (.getstatic 188, 3) := by decide +kernel
theorem dX9_days_48 : decode cX9_days 48 = .ok (.iload_n 1, 1) := by decide +kernel
theorem dX9_days_49 : decode cX9_days 49 = .ok (.iconst 1, 1) := by decide +kernel
theorem dX9_days_50 : decode cX9_days 50 = .ok (.isub, 1) := by decide +kernel
theorem dX9_days_51 : decode cX9_days 51 = .ok (.iaload, 1) := by decide +kernel
theorem dX9_days_52 : decode cX9_days 52 = .ok (.ireturn, 1) := by decide +kernel
theorem dX9_next_0 : decode cX9_next 0 = .ok (.iload_n 1, 1) := by decide +kernel
theorem dX9_next_1 : decode cX9_next 1 = .ok (.iload_n 2, 1) := by decide +kernel
theorem dX9_next_2 : decode cX9_next 2 = .ok (.lload_n 3, 1) := by decide +kernel
theorem dX9_next_3 : decode cX9_next 3 = .ok (.invokestatic 162, 3) := by decide +kernel
theorem dX9_next_6 : decode cX9_next 6 = .ok (.iload 5, 2) := by decide +kernel
theorem dX9_next_8 : decode cX9_next 8 = .ok (.i2l, 1) := by decide +kernel
theorem dX9_next_9 : decode cX9_next 9 = .ok (.lconst 0, 1) := by decide +kernel
theorem dX9_next_10 : decode cX9_next 10 = .ok (.ldc2_w 203, 3) := by decide +kernel
theorem dX9_next_13 : decode cX9_next 13 = .ok (.invokestatic 41, 3) := by decide +kernel
theorem dX9_next_16 : decode cX9_next 16 = .ok (.aload_n 0, 1) := by decide +kernel
theorem dX9_next_17 : decode cX9_next 17 = .ok (.getfield 28, 3) := by decide +kernel
theorem dX9_next_20 : decode cX9_next 20 = .ok (.iload 5, 2) := by decide +kernel
theorem dX9_next_22 : decode cX9_next 22 = .ok (.iconst 1, 1) := by decide +kernel
theorem dX9_next_23 : decode cX9_next 23 = .ok (.iadd, 1) := by decide +kernel
theorem dX9_next_24 : decode cX9_next 24 = .ok (.invokevirtual 205, 3) := by decide +kernel
theorem dX9_next_27 : decode cX9_next 27 = .ok (.aload_n 0, 1) := by decide +kernel
theorem dX9_next_28 : decode cX9_next 28 = .ok (.getfield 12, 3) := by decide +kernel
theorem dX9_next_31 : decode cX9_next 31 = .ok (.aload_n 0, 1) := by decide +kernel
theorem dX9_next_32 : decode cX9_next 32 = .ok (.getfield 28, 3) := by decide +kernel
theorem dX9_next_35 : decode cX9_next 35 = .ok (.iload_n 1, 1) := by decide +kernel
theorem dX9_next_36 : decode cX9_next 36 = .ok (.iload_n 2, 1) := by decide +kernel
theorem dX9_next_37 : decode cX9_next 37 = .ok (.lload_n 3, 1) := by decide +kernel
theorem dX9_next_38 : decode cX9_next 38 = .ok (.l2i, 1) := by decide +kernel
theorem dX9_next_39 : decode cX9_next 39 = .ok (.invokevirtual 208, 3) := by decide +kernel
theorem dX9_next_42 : decode cX9_next 42 = .ok (.iload 5, 2) := by decide +kernel
theorem dX9_next_44 : decode cX9_next 44 = .ok (.aload_n 0, 1) := by decide +kernel
theorem dX9_next_45 : decode cX9_next 45 = .ok (.getfield 28, 3) := by decide +kernel
theorem dX9_next_48 : decode cX9_next 48 = .ok (.getfield 212, 3) := by decide +kernel
theorem dX9_next_51 : decode cX9_next 51 = .ok (.if_icmp .ge 16, 3) := by decide +kernel
theorem dX9_next_54 : decode cX9_next 54 = .ok (.aload_n 0, 1) := by decide +kernel
theorem dX9_next_55 : decode cX9_next 55 = .ok (.getfield 28, 3) := by decide +kernel
theorem dX9_next_58 : decode cX9_next 58 = .ok (.getfield 215, 3) := by decide +kernel
theorem dX9_next_61 : decode cX9_next 61 = .ok (.iload 5, 2) := by decide +kernel
theorem dX9_next_63 : decode cX9_next 63 = .ok (.iaload, 1) := by decide +kernel
theorem dX9_next_64 : decode cX9_next 64 = .ok (.goto 4, 3) := by decide +kernel
theorem dX9_next_67 : decode cX9_next 67 = .ok (.iconst (-1), 1) := by decide +kernel
theorem dX9_next_68 : decode cX9_next 68 = .ok (.ireturn, 1) := by decide +kernel
theorem dX9_sign_0 : decode cX9_sign 0 = .ok (.iload_n 1, 1) := by decide +kernel
theorem dX9_sign_1 : decode cX9_sign 1 = .ok (.i2l, 1) := by decide +kernel
theorem dX9_sign_2 : decode cX9_sign 2 = .ok (.ldc2_w 218, 3) := by decide +kernel
theorem dX9_sign_5 : decode cX9_sign 5 = .ok (.ldc2_w 220, 3) := by decide +kernel
theorem dX9_sign_8 : decode cX9_sign 8 = .ok (.invokestatic 41, 3) := by decide +kernel
theorem dX9_sign_11 : decode cX9_sign 11 = .ok (.aload_n 0, 1) := by decide +kernel
theorem dX9_sign_12 : decode cX9_sign 12 = .ok (.getfield 35, 3) := by decide +kernel
theorem dX9_sign_15 : decode cX9_sign 15 = .ok (.getfield 222, 3) := by decide +kernel
theorem dX9_sign_18 : decode cX9_sign 18 = .ok (.sipush 500, 3) := by decide +kernel
theorem dX9_sign_21 : decode cX9_sign 21 = .ok (.if_icmp .ge 7, 3) := by decide +kernel
theorem dX9_sign_24 : decode cX9_sign 24 = .ok (.iconst 1, 1) := by decide +kernel
theorem dX9_sign_25 : decode cX9_sign 25 = .ok (.goto 4, 3) := by decide +kernel
theorem dX9_sign_28 : decode cX9_sign 28 = .ok (.iconst 0, 1) := by decide +kernel
theorem dX9_sign_29 : decode cX9_sign 29 = .ok (.invokestatic 55, 3) := by decide +kernel
theorem dX9_sign_32 : decode cX9_sign 32 = .ok (.aload_n 0, 1) := by decide +kernel
theorem dX9_sign_33 : decode cX9_sign 33 = .ok (.getfield 35, 3) := by decide +kernel
theorem dX9_sign_36 : decode cX9_sign 36 = .ok (.iload_n 1, 1) := by decide +kernel
theorem dX9_sign_37 : decode cX9_sign 37 = .ok (.i2c, 1) := by decide +kernel
theorem dX9_sign_38 : decode cX9_sign 38 = .ok (.invokevirtual 225, 3) := by decide +kernel
theorem dX9_sign_41 : decode cX9_sign 41 = .ok (.return_, 1) := by decide +kernel
theorem dX9_read_0 : decode cX9_read 0 = .ok (.aload_n 0, 1) := by decide +kernel
theorem dX9_read_1 : decode cX9_read 1 = .ok (.getfield 35, 3) := by decide +kernel
theorem dX9_read_4 : decode cX9_read 4 = .ok (.bipush 40, 2) := by decide +kernel
theorem dX9_read_6 : decode cX9_read 6 = .ok (.aload_n 0, 1) := by decide +kernel
theorem dX9_read_7 : decode cX9_read 7 = .ok (.getfield 12, 3) := by decide +kernel
theorem dX9_read_10 : decode cX9_read 10 = .ok (.getfield 45, 3) := by decide +kernel
theorem dX9_read_13 : decode cX9_read 13 = .ok (.invokeinterface 49 1, 5) := by decide +kernel
theorem dX9_read_18 : decode cX9_read 18 = .ok (.isub, 1) := by decide +kernel
theorem dX9_read_19 : decode cX9_read 19 = .ok (.invokevirtual 228, 3) := by decide +kernel
theorem dX9_read_22 : decode cX9_read 22 = .ok (.istore_n 1, 1) := by decide +kernel
theorem dX9_read_23 : decode cX9_read 23 = .ok (.iload_n 1, 1) := by decide +kernel
theorem dX9_read_24 : decode cX9_read 24 = .ok (.ifCond .le 56, 3) := by decide +kernel
theorem dX9_read_27 : decode cX9_read 27 = .ok (.iconst 0, 1) := by decide +kernel
theorem dX9_read_28 : decode cX9_read 28 = .ok (.istore_n 2, 1) := by decide +kernel
theorem dX9_read_29 : decode cX9_read 29 = .ok (.iload_n 2, 1) := by decide +kernel
theorem dX9_read_30 : decode cX9_read 30 = .ok (.aload_n 0, 1) := by decide +kernel
theorem dX9_read_31 : decode cX9_read 31 = .ok (.getfield 35, 3) := by decide +kernel
theorem dX9_read_34 : decode cX9_read 34 = .ok (.getfield 232, 3) := by decide +kernel
theorem dX9_read_37 : decode cX9_read 37 = .ok (.invokeinterface 49 1, 5) := by decide +kernel
theorem dX9_read_42 : decode cX9_read 42 = .ok (.if_icmp .ge 38, 3) := by decide +kernel
theorem dX9_read_45 : decode cX9_read 45 = .ok (.aload_n 0, 1) := by decide +kernel
theorem dX9_read_46 : decode cX9_read 46 = .ok (.getfield 12, 3) := by decide +kernel
theorem dX9_read_49 : decode cX9_read 49 = .ok (.getfield 45, 3) := by decide +kernel
theorem dX9_read_52 : decode cX9_read 52 = .ok (.aload_n 0, 1) := by decide +kernel
theorem dX9_read_53 : decode cX9_read 53 = .ok (.getfield 35, 3) := by decide +kernel
theorem dX9_read_56 : decode cX9_read 56 = .ok (.getfield 232, 3) := by decide +kernel
theorem dX9_read_59 : decode cX9_read 59 = .ok (.iload_n 2, 1) := by decide +kernel
theorem dX9_read_60 : decode cX9_read 60 = .ok (.invokeinterface 74 2, 5) := by decide +kernel
theorem dX9_read_65 : decode cX9_read 65 = .ok (.checkcast 59, 3) := by decide +kernel
theorem dX9_read_68 : decode cX9_read 68 = .ok (.invokeinterface 64 2, 5) := by decide +kernel
theorem dX9_read_73 : decode cX9_read 73 = .ok (.pop, 1) := by decide +kernel
theorem dX9_read_74 : decode cX9_read 74 = .ok (.iinc 2 1, 3) := by decide +kernel
theorem dX9_read_77 : decode cX9_read 77 = .ok (.goto (-48), 3) := by decide +kernel
theorem dX9_read_80 : decode cX9_read 80 = .ok (.aload_n 0, 1) := by decide +kernel
theorem dX9_read_81 : decode cX9_read 81 = .ok (.getfield 35, 3) := by decide +kernel
theorem dX9_read_84 : decode cX9_read 84 = .ok (.invokevirtual 235, 3) := by decide +kernel
theorem dX9_read_87 : decode cX9_read 87 = .ok (.iload_n 1, 1) := by decide +kernel
theorem dX9_read_88 : decode cX9_read 88 = .ok (.ireturn, 1) := by decide +kernel
theorem dX9_isLeap_0 : decode cX9_isLeap 0 = .ok (.iload_n 0, 1) := by decide +kernel
theorem dX9_isLeap_1 : decode cX9_isLeap 1 = .ok (.iconst 4, 1) := by decide +kernel
theorem dX9_isLeap_2 : decode cX9_isLeap 2 = .ok (.irem, 1) := by decide +kernel
theorem dX9_isLeap_3 : decode cX9_isLeap 3 = .ok (.ifCond .ne 22, 3) := by decide +kernel
theorem dX9_isLeap_6 : decode cX9_isLeap 6 = .ok (.iload_n 0, 1) := by decide +kernel
theorem dX9_isLeap_7 : decode cX9_isLeap 7 = .ok (.bipush 100, 2) := by decide +kernel
theorem dX9_isLeap_9 : decode cX9_isLeap 9 = .ok (.irem, 1) := by decide +kernel
theorem dX9_isLeap_10 : decode cX9_isLeap 10 = .ok (.ifCond .ne 11, 3) := by decide +kernel
theorem dX9_isLeap_13 : decode cX9_isLeap 13 = .ok (.iload_n 0, 1) := by decide +kernel
theorem dX9_isLeap_14 : decode cX9_isLeap 14 = .ok (.sipush 400, 3) := by decide +kernel
theorem dX9_isLeap_17 : decode cX9_isLeap 17 = .ok (.irem, 1) := by decide +kernel
theorem dX9_isLeap_18 : decode cX9_isLeap 18 = .ok (.ifCond .ne 7, 3) := by decide +kernel
theorem dX9_isLeap_21 : decode cX9_isLeap 21 = .ok (.iconst 1, 1) := by decide +kernel
theorem dX9_isLeap_22 : decode cX9_isLeap 22 = .ok (.goto 4, 3) := by decide +kernel
theorem dX9_isLeap_25 : decode cX9_isLeap 25 = .ok (.iconst 0, 1) := by decide +kernel
theorem dX9_isLeap_26 : decode cX9_isLeap 26 = .ok (.ireturn, 1) := by decide +kernel
theorem dX9_requireJourney_0 : decode cX9_requireJourney 0 = .ok (.iload_n 0, 1) := by decide +kernel
theorem dX9_requireJourney_1 : decode cX9_requireJourney 1 = .ok (.bipush 100, 2) := by decide +kernel
theorem dX9_requireJourney_3 : decode cX9_requireJourney 3 = .ok (.invokestatic 68, 3) := by decide +kernel
theorem dX9_requireJourney_6 : decode cX9_requireJourney 6 = .ok (.iload_n 1, 1) := by decide +kernel
theorem dX9_requireJourney_7 : decode cX9_requireJourney 7 = .ok (.bipush 100, 2) := by decide +kernel
theorem dX9_requireJourney_9 : decode cX9_requireJourney 9 = .ok (.invokestatic 68, 3) := by decide +kernel
theorem dX9_requireJourney_12 : decode cX9_requireJourney 12 = .ok (.lload_n 2, 1) := by decide +kernel
theorem dX9_requireJourney_13 : decode cX9_requireJourney 13 = .ok (.lconst 0, 1) := by decide +kernel
theorem dX9_requireJourney_14 : decode cX9_requireJourney 14 = .ok (.ldc2_w 237, 3) := by decide +kernel
theorem dX9_requireJourney_17 : decode cX9_requireJourney 17 = .ok (.invokestatic 41, 3) := by decide +kernel
theorem dX9_requireJourney_20 : decode cX9_requireJourney 20 = .ok (.return_, 1) := by decide +kernel
theorem dX9_requireIndex_0 : decode cX9_requireIndex 0 = .ok (.iload_n 0, 1) := by decide +kernel
theorem dX9_requireIndex_1 : decode cX9_requireIndex 1 = .ok (.ifCond .lt 8, 3) := by decide +kernel
theorem dX9_requireIndex_4 : decode cX9_requireIndex 4 = .ok (.iload_n 0, 1) := by decide +kernel
theorem dX9_requireIndex_5 : decode cX9_requireIndex 5 = .ok (.iload_n 1, 1) := by decide +kernel
theorem dX9_requireIndex_6 : decode cX9_requireIndex 6 = .ok (.if_icmp .lt 13, 3) := by decide +kernel
theorem dX9_requireIndex_9 : decode cX9_requireIndex 9 = .ok (.new 239, 3) := by decide +kernel
theorem dX9_requireIndex_12 : decode cX9_requireIndex 12 = .ok (.dup, 1) := by decide +kernel
theorem dX9_requireIndex_13 : decode cX9_requireIndex 13 = .ok (.ldc 241, 2) := by decide +kernel
theorem dX9_requireIndex_15 : decode cX9_requireIndex 15 = .ok (.invokespecial 243, 3) := by decide +kernel
theorem dX9_requireIndex_18 : decode cX9_requireIndex 18 = .ok (.athrow, 1) := by decide +kernel
theorem dX9_requireIndex_19 : decode cX9_requireIndex 19 = .ok (.return_, 1) := by decide +kernel
theorem dX9_requireRange_0 : decode cX9_requireRange 0 = .ok (.lload_n 0, 1) := by decide +kernel
theorem dX9_requireRange_1 : decode cX9_requireRange 1 = .ok (.lload_n 2, 1) := by decide +kernel
theorem dX9_requireRange_2 : decode cX9_requireRange 2 = .ok (.lcmp, 1) := by decide +kernel
theorem dX9_requireRange_3 : decode cX9_requireRange 3 = .ok (.ifCond .lt 10, 3) := by decide +kernel
theorem dX9_requireRange_6 : decode cX9_requireRange 6 = .ok (.lload_n 0, 1) := by decide +kernel
theorem dX9_requireRange_7 : decode cX9_requireRange 7 = .ok (.lload 4, 2) := by decide +kernel
theorem dX9_requireRange_9 : decode cX9_requireRange 9 = .ok (.lcmp, 1) := by decide +kernel
theorem dX9_requireRange_10 : decode cX9_requireRange 10 = .ok (.ifCond .le 13, 3) := by decide +kernel
theorem dX9_requireRange_13 : decode cX9_requireRange 13 = .ok (.new 244, 3) := by decide +kernel
theorem dX9_requireRange_16 : decode cX9_requireRange 16 = .ok (.dup, 1) := by decide +kernel
theorem dX9_requireRange_17 : decode cX9_requireRange 17 = .ok (.ldc 246, 2) := by decide +kernel
theorem dX9_requireRange_19 : decode cX9_requireRange 19 = .ok (.invokespecial 248, 3) := by decide +kernel
theorem dX9_requireRange_22 : decode cX9_requireRange 22 = .ok (.athrow, 1) := by decide +kernel
theorem dX9_requireRange_23 : decode cX9_requireRange 23 = .ok (.return_, 1) := by decide +kernel
theorem dX9_requireRoom_0 : decode cX9_requireRoom 0 = .ok (.iload_n 0, 1) := by decide +kernel
theorem dX9_requireRoom_1 : decode cX9_requireRoom 1 = .ok (.ifCond .ne 13, 3) := by decide +kernel
theorem dX9_requireRoom_4 : decode cX9_requireRoom 4 = .ok (.new 249, 3) := by decide +kernel
theorem dX9_requireRoom_7 : decode cX9_requireRoom 7 = .ok (.dup, 1) := by decide +kernel
theorem dX9_requireRoom_8 : decode cX9_requireRoom 8 = .ok (.ldc 251, 2) := by decide +kernel
theorem dX9_requireRoom_10 : decode cX9_requireRoom 10 = .ok (.invokespecial 253, 3) := by decide +kernel
theorem dX9_requireRoom_13 : decode cX9_requireRoom 13 = .ok (.athrow, 1) := by decide +kernel
theorem dX9_requireRoom_14 : decode cX9_requireRoom 14 = .ok (.return_, 1) := by decide +kernel
theorem dX10_init_0 : decode cX10_init 0 = .ok (.aload_n 0, 1) := by decide +kernel
theorem dX10_init_1 : decode cX10_init 1 = .ok (.invokespecial 1, 3) := by decide +kernel
theorem dX10_init_4 : decode cX10_init 4 = .ok (.aload_n 0, 1) := by decide +kernel
theorem dX10_init_5 : decode cX10_init 5 = .ok (.bipush 40, 2) := by decide +kernel
theorem dX10_init_7 : decode cX10_init 7 = .ok (.newarray .int, 2) := by decide +kernel
theorem dX10_init_9 : decode cX10_init 9 = .ok (.putfield 7, 3) := by decide +kernel
theorem dX10_init_12 : decode cX10_init 12 = .ok (.aload_n 0, 1) := by decide +kernel
theorem dX10_init_13 : decode cX10_init 13 = .ok (.bipush 40, 2) := by decide +kernel
theorem dX10_init_15 : decode cX10_init 15 = .ok (.newarray .int, 2) := by decide +kernel
theorem dX10_init_17 : decode cX10_init 17 = .ok (.putfield 13, 3) := by decide +kernel
theorem dX10_init_20 : decode cX10_init 20 = .ok (.aload_n 0, 1) := by decide +kernel
theorem dX10_init_21 : decode cX10_init 21 = .ok (.sipush 480, 3) := by decide +kernel
theorem dX10_init_24 : decode cX10_init 24 = .ok (.newarray .int, 2) := by decide +kernel
theorem dX10_init_26 : decode cX10_init 26 = .ok (.putfield 16, 3) := by decide +kernel
theorem dX10_init_29 : decode cX10_init 29 = .ok (.aload_n 0, 1) := by decide +kernel
theorem dX10_init_30 : decode cX10_init 30 = .ok (.sipush 480, 3) := by decide +kernel
theorem dX10_init_33 : decode cX10_init 33 = .ok (.newarray .long, 2) := by decide +kernel
theorem dX10_init_35 : decode cX10_init 35 = .ok (.putfield 19, 3) := by decide +kernel
theorem dX10_init_38 : decode cX10_init 38 = .ok (.aload_n 0, 1) := by decide +kernel
theorem dX10_init_39 : decode cX10_init 39 = .ok (.sipush 480, 3) := by decide +kernel
theorem dX10_init_42 : decode cX10_init 42 = .ok (.newarray .long, 2) := by decide +kernel
theorem dX10_init_44 : decode cX10_init 44 = .ok (.putfield 23, 3) := by decide +kernel
theorem dX10_init_47 : decode cX10_init 47 = .ok (.aload_n 0, 1) := by decide +kernel
theorem dX10_init_48 : decode cX10_init 48 = .ok (.bipush 100, 2) := by decide +kernel
theorem dX10_init_50 : decode cX10_init 50 = .ok (.newarray .int, 2) := by decide +kernel
theorem dX10_init_52 : decode cX10_init 52 = .ok (.putfield 26, 3) := by decide +kernel
theorem dX10_init_55 : decode cX10_init 55 = .ok (.aload_n 0, 1) := by decide +kernel
theorem dX10_init_56 : decode cX10_init 56 = .ok (.bipush 100, 2) := by decide +kernel
theorem dX10_init_58 : decode cX10_init 58 = .ok (.newarray .long, 2) := by decide +kernel
theorem dX10_init_60 : decode cX10_init 60 = .ok (.putfield 29, 3) := by decide +kernel
theorem dX10_init_63 : decode cX10_init 63 = .ok (.aload_n 0, 1) := by decide +kernel
theorem dX10_init_64 : decode cX10_init 64 = .ok (.bipush 100, 2) := by decide +kernel
theorem dX10_init_66 : decode cX10_init 66 = .ok (.newarray .boolean, 2) := by decide +kernel
theorem dX10_init_68 : decode cX10_init 68 = .ok (.putfield 32, 3) := by decide +kernel
theorem dX10_init_71 : decode cX10_init 71 = .ok (.aload_n 0, 1) := by decide +kernel
theorem dX10_init_72 : decode cX10_init 72 = .ok (.bipush 100, 2) := by decide +kernel
theorem dX10_init_74 : decode cX10_init 74 = .ok (.newarray .int, 2) := by decide +kernel
theorem dX10_init_76 : decode cX10_init 76 = .ok (.putfield 36, 3) := by decide +kernel
theorem dX10_init_79 : decode cX10_init 79 = .ok (.aload_n 0, 1) := by decide +kernel
theorem dX10_init_80 : decode cX10_init 80 = .ok (.bipush 100, 2) := by decide +kernel
theorem dX10_init_82 : decode cX10_init 82 = .ok (.newarray .long, 2) := by decide +kernel
theorem dX10_init_84 : decode cX10_init 84 = .ok (.putfield 39, 3) := by decide +kernel
theorem dX10_init_87 : decode cX10_init 87 = .ok (.aload_n 0, 1) := by decide +kernel
theorem dX10_init_88 : decode cX10_init 88 = .ok (.bipush 100, 2) := by decide +kernel
theorem dX10_init_90 : decode cX10_init 90 = .ok (.newarray .int, 2) := by decide +kernel
theorem dX10_init_92 : decode cX10_init 92 = .ok (.putfield 42, 3) := by decide +kernel
theorem dX10_init_95 : decode cX10_init 95 = .ok (.aload_n 0, 1) := by decide +kernel
theorem dX10_init_96 : decode cX10_init 96 = .ok (.bipush 100, 2) := by decide +kernel
theorem dX10_init_98 : decode cX10_init 98 = .ok (.newarray .int, 2) := by decide +kernel
theorem dX10_init_100 : decode cX10_init 100 = .ok (.putfield 45, 3) := by decide +kernel
theorem dX10_init_103 : decode cX10_init 103 = .ok (.aload_n 0, 1) := by decide +kernel
theorem dX10_init_104 : decode cX10_init 104 = .ok (.bipush 100, 2) := by decide +kernel
theorem dX10_init_106 : decode cX10_init 106 = .ok (.newarray .int, 2) := by decide +kernel
theorem dX10_init_108 : decode cX10_init 108 = .ok (.putfield 48, 3) := by decide +kernel
theorem dX10_init_111 : decode cX10_init 111 = .ok (.aload_n 0, 1) := by decide +kernel
theorem dX10_init_112 : decode cX10_init 112 = .ok (.bipush 100, 2) := by decide +kernel
theorem dX10_init_114 : decode cX10_init 114 = .ok (.newarray .long, 2) := by decide +kernel
theorem dX10_init_116 : decode cX10_init 116 = .ok (.putfield 51, 3) := by decide +kernel
theorem dX10_init_119 : decode cX10_init 119 = .ok (.aload_n 0, 1) := by decide +kernel
theorem dX10_init_120 : decode cX10_init 120 = .ok (.bipush 100, 2) := by decide +kernel
theorem dX10_init_122 : decode cX10_init 122 = .ok (.newarray .long, 2) := by decide +kernel
theorem dX10_init_124 : decode cX10_init 124 = .ok (.putfield 54, 3) := by decide +kernel
theorem dX10_init_127 : decode cX10_init 127 = .ok (.aload_n 0, 1) := by decide +kernel
theorem dX10_init_128 : decode cX10_init 128 = .ok (.bipush 100, 2) := by decide +kernel
theorem dX10_init_130 : decode cX10_init 130 = .ok (.newarray .int, 2) := by decide +kernel
theorem dX10_init_132 : decode cX10_init 132 = .ok (.putfield 57, 3) := by decide +kernel
theorem dX10_init_135 : decode cX10_init 135 = .ok (.aload_n 0, 1) := by decide +kernel
theorem dX10_init_136 : decode cX10_init 136 = .ok (.sipush 700, 3) := by decide +kernel
theorem dX10_init_139 : decode cX10_init 139 = .ok (.newarray .long, 2) := by decide +kernel
theorem dX10_init_141 : decode cX10_init 141 = .ok (.putfield 60, 3) := by decide +kernel
theorem dX10_init_144 : decode cX10_init 144 = .ok (.aload_n 0, 1) := by decide +kernel
theorem dX10_init_145 : decode cX10_init 145 = .ok (.bipush 6, 2) := by decide +kernel
theorem dX10_init_147 : decode cX10_init 147 = .ok (.newarray .int, 2) := by decide +kernel
theorem dX10_init_149 : decode cX10_init 149 = .ok (.putfield 63, 3) := by decide +kernel
theorem dX10_init_152 : decode cX10_init 152 = .ok (.aload_n 0, 1) := by decide +kernel
theorem dX10_init_153 : decode cX10_init 153 = .ok (.bipush 6, 2) := by decide +kernel
theorem dX10_init_155 : decode cX10_init 155 = .ok (.newarray .long, 2) := by decide +kernel
theorem dX10_init_157 : decode cX10_init 157 = .ok (.putfield 66, 3) := by decide +kernel
theorem dX10_init_160 : decode cX10_init 160 = .ok (.aload_n 0, 1) := by decide +kernel
theorem dX10_init_161 : decode cX10_init 161 = .ok (.bipush 6, 2) := by decide +kernel
theorem dX10_init_163 : decode cX10_init 163 = .ok (.newarray .int, 2) := by decide +kernel
theorem dX10_init_165 : decode cX10_init 165 = .ok (.putfield 69, 3) := by decide +kernel
theorem dX10_init_168 : decode cX10_init 168 = .ok (.aload_n 0, 1) := by decide +kernel
theorem dX10_init_169 : decode cX10_init 169 = .ok (.bipush 6, 2) := by decide +kernel
theorem dX10_init_171 : decode cX10_init 171 = .ok (.newarray .int, 2) := by decide +kernel
theorem dX10_init_173 : decode cX10_init 173 = .ok (.putfield 72, 3) := by decide +kernel
theorem dX10_init_176 : decode cX10_init 176 = .ok (.aload_n 0, 1) := by decide +kernel
theorem dX10_init_177 : decode cX10_init 177 = .ok (.sipush 500, 3) := by decide +kernel
theorem dX10_init_180 : decode cX10_init 180 = .ok (.newarray .int, 2) := by decide +kernel
theorem dX10_init_182 : decode cX10_init 182 = .ok (.putfield 75, 3) := by decide +kernel
theorem dX10_init_185 : decode cX10_init 185 = .ok (.aload_n 0, 1) := by decide +kernel
theorem dX10_init_186 : decode cX10_init 186 = .ok (.bipush 12, 2) := by decide +kernel
theorem dX10_init_188 : decode cX10_init 188 = .ok (.newarray .long, 2) := by decide +kernel
theorem dX10_init_190 : decode cX10_init 190 = .ok (.putfield 78, 3) := by decide +kernel
theorem dX10_init_193 : decode cX10_init 193 = .ok (.aload_n 0, 1) := by decide +kernel
theorem dX10_init_194 : decode cX10_init 194 = .ok (.bipush 12, 2) := by decide +kernel
theorem dX10_init_196 : decode cX10_init 196 = .ok (.newarray .long, 2) := by decide +kernel
theorem dX10_init_198 : decode cX10_init 198 = .ok (.putfield 81, 3) := by decide +kernel
theorem dX10_init_201 : decode cX10_init 201 = .ok (.aload_n 0, 1) := by decide +kernel
theorem dX10_init_202 : decode cX10_init 202 = .ok (.bipush 12, 2) := by decide +kernel
theorem dX10_init_204 : decode cX10_init 204 = .ok (.newarray .int, 2) := by decide +kernel
theorem dX10_init_206 : decode cX10_init 206 = .ok (.putfield 84, 3) := by decide +kernel
theorem dX10_init_209 : decode cX10_init 209 = .ok (.aload_n 0, 1) := by decide +kernel
theorem dX10_init_210 : decode cX10_init 210 = .ok (.bipush 6, 2) := by decide +kernel
theorem dX10_init_212 : decode cX10_init 212 = .ok (.newarray .long, 2) := by decide +kernel
theorem dX10_init_214 : decode cX10_init 214 = .ok (.putfield 87, 3) := by decide +kernel
theorem dX10_init_217 : decode cX10_init 217 = .ok (.aload_n 0, 1) := by decide +kernel
theorem dX10_init_218 : decode cX10_init 218 = .ok (.bipush 6, 2) := by decide +kernel
theorem dX10_init_220 : decode cX10_init 220 = .ok (.newarray .long, 2) := by decide +kernel
theorem dX10_init_222 : decode cX10_init 222 = .ok (.putfield 90, 3) := by decide +kernel
theorem dX10_init_225 : decode cX10_init 225 = .ok (.aload_n 0, 1) := by decide +kernel
theorem dX10_init_226 : decode cX10_init 226 = .ok (.bipush 6, 2) := by decide +kernel
theorem dX10_init_228 : decode cX10_init 228 = .ok (.newarray .long, 2) := by decide +kernel
theorem dX10_init_230 : decode cX10_init 230 = .ok (.putfield 93, 3) := by decide +kernel
theorem dX10_init_233 : decode cX10_init 233 = .ok (.aload_n 0, 1) := by decide +kernel
theorem dX10_init_234 : decode cX10_init 234 = .ok (.iconst 0, 1) := by decide +kernel
theorem dX10_init_235 : decode cX10_init 235 = .ok (.putfield 96, 3) := by decide +kernel
theorem dX10_init_238 : decode cX10_init 238 = .ok (.return_, 1) := by decide +kernel
theorem dX10_thrown_0 : decode cX10_thrown 0 = .ok (.aload_n 0, 1) := by decide +kernel
theorem dX10_thrown_1 : decode cX10_thrown 1 = .ok (.getfield 100, 3) := by decide +kernel
theorem dX10_thrown_4 : decode cX10_thrown 4 = .ok (.ireturn, 1) := by decide +kernel
theorem dX10_refused_0 : decode cX10_refused 0 = .ok (.aload_n 0, 1) := by decide +kernel
theorem dX10_refused_1 : decode cX10_refused 1 = .ok (.iload_n 1, 1) := by decide +kernel
theorem dX10_refused_2 : decode cX10_refused 2 = .ok (.ifCond .eq 7, 3) := by decide +kernel
theorem dX10_refused_5 : decode cX10_refused 5 = .ok (.iconst 1, 1) := by decide +kernel
theorem dX10_refused_6 : decode cX10_refused 6 = .ok (.goto 20, 3) := by decide +kernel
theorem dX10_refused_9 : decode cX10_refused 9 = .ok (.iload_n 2, 1) := by decide +kernel
theorem dX10_refused_10 : decode cX10_refused 10 = .ok (.ifCond .eq 7, 3) := by decide +kernel
theorem dX10_refused_13 : decode cX10_refused 13 = .ok (.iconst 2, 1) := by decide +kernel
theorem dX10_refused_14 : decode cX10_refused 14 = .ok (.goto 12, 3) := by decide +kernel
theorem dX10_refused_17 : decode cX10_refused 17 = .ok (.iload_n 3, 1) := by decide +kernel
theorem dX10_refused_18 : decode cX10_refused 18 = .ok (.ifCond .eq 7, 3) := by decide +kernel
theorem dX10_refused_21 : decode cX10_refused 21 = .ok (.iconst 3, 1) := by decide +kernel
theorem dX10_refused_22 : decode cX10_refused 22 = .ok (.goto 4, 3) := by decide +kernel
theorem dX10_refused_25 : decode cX10_refused 25 = .ok (.iconst 0, 1) := by decide +kernel
theorem dX10_refused_26 : decode cX10_refused 26 = .ok (.putfield 100, 3) := by decide +kernel
theorem dX10_refused_29 : decode cX10_refused 29 = .ok (.aload_n 0, 1) := by decide +kernel
theorem dX10_refused_30 : decode cX10_refused 30 = .ok (.getfield 100, 3) := by decide +kernel
theorem dX10_refused_33 : decode cX10_refused 33 = .ok (.ifCond .le 7, 3) := by decide +kernel
theorem dX10_refused_36 : decode cX10_refused 36 = .ok (.iconst 1, 1) := by decide +kernel
theorem dX10_refused_37 : decode cX10_refused 37 = .ok (.goto 4, 3) := by decide +kernel
theorem dX10_refused_40 : decode cX10_refused 40 = .ok (.iconst 0, 1) := by decide +kernel
theorem dX10_refused_41 : decode cX10_refused 41 = .ok (.ireturn, 1) := by decide +kernel
theorem dX10_within_0 : decode cX10_within 0 = .ok (.lload_n 0, 1) := by decide +kernel
theorem dX10_within_1 : decode cX10_within 1 = .ok (.lload_n 2, 1) := by decide +kernel
theorem dX10_within_2 : decode cX10_within 2 = .ok (.lcmp, 1) := by decide +kernel
theorem dX10_within_3 : decode cX10_within 3 = .ok (.ifCond .lt 14, 3) := by decide +kernel
theorem dX10_within_6 : decode cX10_within 6 = .ok (.lload_n 0, 1) := by decide +kernel
theorem dX10_within_7 : decode cX10_within 7 = .ok (.lload 4, 2) := by decide +kernel
theorem dX10_within_9 : decode cX10_within 9 = .ok (.lcmp, 1) := by decide +kernel
theorem dX10_within_10 : decode cX10_within 10 = .ok (.ifCond .gt 7, 3) := by decide +kernel
theorem dX10_within_13 : decode cX10_within 13 = .ok (.iconst 1, 1) := by decide +kernel
theorem dX10_within_14 : decode cX10_within 14 = .ok (.goto 4, 3) := by decide +kernel
theorem dX10_within_17 : decode cX10_within 17 = .ok (.iconst 0, 1) := by decide +kernel
theorem dX10_within_18 : decode cX10_within 18 = .ok (.ireturn, 1) := by decide +kernel
theorem dX10_isPlace_0 : decode cX10_isPlace 0 = .ok (.iload_n 0, 1) := by decide +kernel
theorem dX10_isPlace_1 : decode cX10_isPlace 1 = .ok (.i2l, 1) := by decide +kernel
theorem dX10_isPlace_2 : decode cX10_isPlace 2 = .ok (.lconst 0, 1) := by decide +kernel
theorem dX10_isPlace_3 : decode cX10_isPlace 3 = .ok (.ldc2_w 103, 3) := by decide +kernel
theorem dX10_isPlace_6 : decode cX10_isPlace 6 = .ok (.invokestatic 105, 3) := by decide +kernel
theorem dX10_isPlace_9 : decode cX10_isPlace 9 = .ok (.ireturn, 1) := by decide +kernel
theorem dX10_isLine_0 : decode cX10_isLine 0 = .ok (.iload_n 1, 1) := by decide +kernel
theorem dX10_isLine_1 : decode cX10_isLine 1 = .ok (.i2l, 1) := by decide +kernel
theorem dX10_isLine_2 : decode cX10_isLine 2 = .ok (.lconst 0, 1) := by decide +kernel
theorem dX10_isLine_3 : decode cX10_isLine 3 = .ok (.aload_n 0, 1) := by decide +kernel
theorem dX10_isLine_4 : decode cX10_isLine 4 = .ok (.getfield 96, 3) := by decide +kernel
theorem dX10_isLine_7 : decode cX10_isLine 7 = .ok (.iconst 1, 1) := by decide +kernel
theorem dX10_isLine_8 : decode cX10_isLine 8 = .ok (.isub, 1) := by decide +kernel
theorem dX10_isLine_9 : decode cX10_isLine 9 = .ok (.i2l, 1) := by decide +kernel
theorem dX10_isLine_10 : decode cX10_isLine 10 = .ok (.invokestatic 105, 3) := by decide +kernel
theorem dX10_isLine_13 : decode cX10_isLine 13 = .ok (.ireturn, 1) := by decide +kernel
theorem dX10_line_0 : decode cX10_line 0 = .ok (.aload_n 0, 1) := by decide +kernel
theorem dX10_line_1 : decode cX10_line 1 = .ok (.iload_n 1, 1) := by decide +kernel
theorem dX10_line_2 : decode cX10_line 2 = .ok (.i2l, 1) := by decide +kernel
theorem dX10_line_3 : decode cX10_line 3 = .ok (.lconst 0, 1) := by decide +kernel
theorem dX10_line_4 : decode cX10_line 4 = .ok (.ldc2_w 109, 3) := by decide +kernel
theorem dX10_line_7 : decode cX10_line 7 = .ok (.invokestatic 105, 3) := by decide +kernel
theorem dX10_line_10 : decode cX10_line 10 = .ok (.ifCond .ne 7, 3) := by decide +kernel
theorem dX10_line_13 : decode cX10_line 13 = .ok (.iconst 1, 1) := by decide +kernel
theorem dX10_line_14 : decode cX10_line 14 = .ok (.goto 4, 3) := by decide +kernel
theorem dX10_line_17 : decode cX10_line 17 = .ok (.iconst 0, 1) := by decide +kernel
theorem dX10_line_18 : decode cX10_line 18 = .ok (.aload_n 0, 1) := by decide +kernel
theorem dX10_line_19 : decode cX10_line 19 = .ok (.getfield 96, 3) := by decide +kernel
theorem dX10_line_22 : decode cX10_line 22 = .ok (.bipush 40, 2) := by decide +kernel
theorem dX10_line_24 : decode cX10_line 24 = .ok (.if_icmp .ne 7, 3) := by decide +kernel
theorem dX10_line_27 : decode cX10_line 27 = .ok (.iconst 1, 1) := by decide +kernel
theorem dX10_line_28 : decode cX10_line 28 = .ok (.goto 4, 3) := by decide +kernel
theorem dX10_line_31 : decode cX10_line 31 = .ok (.iconst 0, 1) := by decide +kernel
theorem dX10_line_32 : decode cX10_line 32 = .ok (.iconst 0, 1) := by decide +kernel
theorem dX10_line_33 : decode cX10_line 33 = .ok (.invokevirtual 111, 3) := by decide +kernel
theorem dX10_line_36 : decode cX10_line 36 = .ok (.ifCond .eq 5, 3) := by decide +kernel
theorem dX10_line_39 : decode cX10_line 39 = .ok (.iconst 0, 1) := by decide +kernel
theorem dX10_line_40 : decode cX10_line 40 = .ok (.ireturn, 1) := by decide +kernel
theorem dX10_line_41 : decode cX10_line 41 = .ok (.aload_n 0, 1) := by decide +kernel
theorem dX10_line_42 : decode cX10_line 42 = .ok (.getfield 7, 3) := by decide +kernel
theorem dX10_line_45 : decode cX10_line 45 = .ok (.aload_n 0, 1) := by decide +kernel
theorem dX10_line_46 : decode cX10_line 46 = .ok (.getfield 96, 3) := by decide +kernel
theorem dX10_line_49 : decode cX10_line 49 = .ok (.iload_n 1, 1) := by decide +kernel
theorem dX10_line_50 : decode cX10_line 50 = .ok (.iastore, 1) := by decide +kernel
theorem dX10_line_51 : decode cX10_line 51 = .ok (.aload_n 0, 1) := by decide +kernel
theorem dX10_line_52 : decode cX10_line 52 = .ok (.getfield 13, 3) := by decide +kernel
theorem dX10_line_55 : decode cX10_line 55 = .ok (.aload_n 0, 1) := by decide +kernel
theorem dX10_line_56 : decode cX10_line 56 = .ok (.getfield 96, 3) := by decide +kernel
theorem dX10_line_59 : decode cX10_line 59 = .ok (.iconst 0, 1) := by decide +kernel
theorem dX10_line_60 : decode cX10_line 60 = .ok (.iastore, 1) := by decide +kernel
theorem dX10_line_61 : decode cX10_line 61 = .ok (.aload_n 0, 1) := by decide +kernel
theorem dX10_line_62 : decode cX10_line 62 = .ok (.dup, 1) := by decide +kernel
theorem dX10_line_63 : decode cX10_line 63 = .ok (.getfield 96, 3) := by decide +kernel
theorem dX10_line_66 : decode cX10_line 66 = .ok (.iconst 1, 1) := by decide +kernel
theorem dX10_line_67 : decode cX10_line 67 = .ok (.iadd, 1) := by decide +kernel
theorem dX10_line_68 : decode cX10_line 68 = .ok (.putfield 96, 3) := by decide +kernel
theorem dX10_line_71 : decode cX10_line 71 = .ok (.aload_n 0, 1) := by decide +kernel
theorem dX10_line_72 : decode cX10_line 72 = .ok (.getfield 96, 3) := by decide +kernel
theorem dX10_line_75 : decode cX10_line 75 = .ok (.iconst 1, 1) := by decide +kernel
theorem dX10_line_76 : decode cX10_line 76 = .ok (.isub, 1) := by decide +kernel
theorem dX10_line_77 : decode cX10_line 77 = .ok (.ireturn, 1) := by decide +kernel
theorem dX10_addStop_0 : decode cX10_addStop 0 = .ok (.bipush 12, 2) := by decide +kernel
theorem dX10_addStop_2 : decode cX10_addStop 2 = .ok (.iload_n 1, 1) := by decide +kernel
theorem dX10_addStop_3 : decode cX10_addStop 3 = .ok (.imul, 1) := by decide +kernel
theorem dX10_addStop_4 : decode cX10_addStop 4 = .ok (.aload_n 0, 1) := by decide +kernel
theorem dX10_addStop_5 : decode cX10_addStop 5 = .ok (.getfield 13, 3) := by decide +kernel
theorem dX10_addStop_8 : decode cX10_addStop 8 = .ok (.iload_n 1, 1) := by decide +kernel
theorem dX10_addStop_9 : decode cX10_addStop 9 = .ok (.iaload, 1) := by decide +kernel
theorem dX10_addStop_10 : decode cX10_addStop 10 = .ok (.iadd, 1) := by decide +kernel
theorem dX10_addStop_11 : decode cX10_addStop 11 = .ok (.istore 7, 2) := by decide +kernel
theorem dX10_addStop_13 : decode cX10_addStop 13 = .ok (.aload_n 0, 1) := by decide +kernel
theorem dX10_addStop_14 : decode cX10_addStop 14 = .ok (.getfield 16, 3) := by decide +kernel
theorem dX10_addStop_17 : decode cX10_addStop 17 = .ok (.iload 7, 2) := by decide +kernel
theorem dX10_addStop_19 : decode cX10_addStop 19 = .ok (.iload_n 2, 1) := by decide +kernel
theorem dX10_addStop_20 : decode cX10_addStop 20 = .ok (.iastore, 1) := by decide +kernel
theorem dX10_addStop_21 : decode cX10_addStop 21 = .ok (.aload_n 0, 1) := by decide +kernel
theorem dX10_addStop_22 : decode cX10_addStop 22 = .ok (.getfield 19, 3) := by decide +kernel
theorem dX10_addStop_25 : decode cX10_addStop 25 = .ok (.iload 7, 2) := by decide +kernel
theorem dX10_addStop_27 : decode cX10_addStop 27 = .ok (.lload_n 3, 1) := by decide +kernel
theorem dX10_addStop_28 : decode cX10_addStop 28 = .ok (.lastore, 1) := by decide +kernel
theorem dX10_addStop_29 : decode cX10_addStop 29 = .ok (.aload_n 0, 1) := by decide +kernel
theorem dX10_addStop_30 : decode cX10_addStop 30 = .ok (.getfield 23, 3) := by decide +kernel
theorem dX10_addStop_33 : decode cX10_addStop 33 = .ok (.iload 7, 2) := by decide +kernel
theorem dX10_addStop_35 : decode cX10_addStop 35 = .ok (.lload 5, 2) := by decide +kernel
theorem dX10_addStop_37 : decode cX10_addStop 37 = .ok (.lastore, 1) := by decide +kernel
theorem dX10_addStop_38 : decode cX10_addStop 38 = .ok (.aload_n 0, 1) := by decide +kernel
theorem dX10_addStop_39 : decode cX10_addStop 39 = .ok (.getfield 13, 3) := by decide +kernel
theorem dX10_addStop_42 : decode cX10_addStop 42 = .ok (.iload_n 1, 1) := by decide +kernel
theorem dX10_addStop_43 : decode cX10_addStop 43 = .ok (.dup2, 1) := by decide +kernel
theorem dX10_addStop_44 : decode cX10_addStop 44 = .ok (.iaload, 1) := by decide +kernel
theorem dX10_addStop_45 : decode cX10_addStop 45 = .ok (.iconst 1, 1) := by decide +kernel
theorem dX10_addStop_46 : decode cX10_addStop 46 = .ok (.iadd, 1) := by decide +kernel
theorem dX10_addStop_47 : decode cX10_addStop 47 = .ok (.iastore, 1) := by decide +kernel
theorem dX10_addStop_48 : decode cX10_addStop 48 = .ok (.return_, 1) := by decide +kernel
theorem dX10_stop_0 : decode cX10_stop 0 = .ok (.aload_n 0, 1) := by decide +kernel
theorem dX10_stop_1 : decode cX10_stop 1 = .ok (.iload_n 1, 1) := by decide +kernel
theorem dX10_stop_2 : decode cX10_stop 2 = .ok (.invokevirtual 115, 3) := by decide +kernel
theorem dX10_stop_5 : decode cX10_stop 5 = .ok (.ifCond .eq 10, 3) := by decide +kernel
theorem dX10_stop_8 : decode cX10_stop 8 = .ok (.iload_n 2, 1) := by decide +kernel
theorem dX10_stop_9 : decode cX10_stop 9 = .ok (.invokestatic 119, 3) := by decide +kernel
theorem dX10_stop_12 : decode cX10_stop 12 = .ok (.ifCond .ne 7, 3) := by decide +kernel
theorem dX10_stop_15 : decode cX10_stop 15 = .ok (.iconst 1, 1) := by decide +kernel
theorem dX10_stop_16 : decode cX10_stop 16 = .ok (.goto 4, 3) := by decide +kernel
theorem dX10_stop_19 : decode cX10_stop 19 = .ok (.iconst 0, 1) := by decide +kernel
theorem dX10_stop_20 : decode cX10_stop 20 = .ok (.istore 7, 2) := by decide +kernel
theorem dX10_stop_22 : decode cX10_stop 22 = .ok (.aload_n 0, 1) := by decide +kernel
theorem dX10_stop_23 : decode cX10_stop 23 = .ok (.iload 7, 2) := by decide +kernel
theorem dX10_stop_25 : decode cX10_stop 25 = .ok (.lload_n 3, 1) := by decide +kernel
theorem dX10_stop_26 : decode cX10_stop 26 = .ok (.lconst 0, 1) := by decide +kernel
theorem dX10_stop_27 : decode cX10_stop 27 = .ok (.ldc2_w 122, 3) := by decide +kernel
theorem dX10_stop_30 : decode cX10_stop 30 = .ok (.invokestatic 105, 3) := by decide +kernel
theorem dX10_stop_33 : decode cX10_stop 33 = .ok (.ifCond .eq 15, 3) := by decide +kernel
theorem dX10_stop_36 : decode cX10_stop 36 = .ok (.lload 5, 2) := by decide +kernel
theorem dX10_stop_38 : decode cX10_stop 38 = .ok (.lconst 0, 1) := by decide +kernel
theorem dX10_stop_39 : decode cX10_stop 39 = .ok (.ldc2_w 122, 3) := by decide +kernel
theorem dX10_stop_42 : decode cX10_stop 42 = .ok (.invokestatic 105, 3) := by decide +kernel
theorem dX10_stop_45 : decode cX10_stop 45 = .ok (.ifCond .ne 7, 3) := by decide +kernel
theorem dX10_stop_48 : decode cX10_stop 48 = .ok (.iconst 1, 1) := by decide +kernel
theorem dX10_stop_49 : decode cX10_stop 49 = .ok (.goto 4, 3) := by decide +kernel
theorem dX10_stop_52 : decode cX10_stop 52 = .ok (.iconst 0, 1) := by decide +kernel
theorem dX10_stop_53 : decode cX10_stop 53 = .ok (.iload 7, 2) := by decide +kernel
theorem dX10_stop_55 : decode cX10_stop 55 = .ok (.ifCond .ne 18, 3) := by decide +kernel
theorem dX10_stop_58 : decode cX10_stop 58 = .ok (.aload_n 0, 1) := by decide +kernel
theorem dX10_stop_59 : decode cX10_stop 59 = .ok (.getfield 13, 3) := by decide +kernel
theorem dX10_stop_62 : decode cX10_stop 62 = .ok (.iload_n 1, 1) := by decide +kernel
theorem dX10_stop_63 : decode cX10_stop 63 = .ok (.iaload, 1) := by decide +kernel
theorem dX10_stop_64 : decode cX10_stop 64 = .ok (.bipush 12, 2) := by decide +kernel
theorem dX10_stop_66 : decode cX10_stop 66 = .ok (.if_icmp .ne 7, 3) := by decide +kernel
theorem dX10_stop_69 : decode cX10_stop 69 = .ok (.iconst 1, 1) := by decide +kernel
theorem dX10_stop_70 : decode cX10_stop 70 = .ok (.goto 4, 3) := by decide +kernel
theorem dX10_stop_73 : decode cX10_stop 73 = .ok (.iconst 0, 1) := by decide +kernel
theorem dX10_stop_74 : decode cX10_stop 74 = .ok (.invokevirtual 111, 3) := by decide +kernel
theorem dX10_stop_77 : decode cX10_stop 77 = .ok (.ifCond .eq 5, 3) := by decide +kernel
theorem dX10_stop_80 : decode cX10_stop 80 = .ok (.iconst 0, 1) := by decide +kernel
theorem dX10_stop_81 : decode cX10_stop 81 = .ok (.ireturn, 1) := by decide +kernel
theorem dX10_stop_82 : decode cX10_stop 82 = .ok (.lload 5, 2) := by decide +kernel
theorem dX10_stop_84 : decode cX10_stop 84 = .ok (.lload_n 3, 1) := by decide +kernel
theorem dX10_stop_85 : decode cX10_stop 85 = .ok (.lcmp, 1) := by decide +kernel
theorem dX10_stop_86 : decode cX10_stop 86 = .ok (.ifCond .lt 35, 3) := by decide +kernel
theorem dX10_stop_89 : decode cX10_stop 89 = .ok (.aload_n 0, 1) := by decide +kernel
theorem dX10_stop_90 : decode cX10_stop 90 = .ok (.getfield 13, 3) := by decide +kernel
theorem dX10_stop_93 : decode cX10_stop 93 = .ok (.iload_n 1, 1) := by decide +kernel
theorem dX10_stop_94 : decode cX10_stop 94 = .ok (.iaload, 1) := by decide +kernel
theorem dX10_stop_95 : decode cX10_stop 95 = .ok (.ifCond .le 28, 3) := by decide +kernel
theorem dX10_stop_98 : decode cX10_stop 98 = .ok (.lload_n 3, 1) := by decide +kernel
theorem dX10_stop_99 : decode cX10_stop 99 = .ok (.aload_n 0, 1) := by decide +kernel
theorem dX10_stop_100 : decode cX10_stop 100 = .ok (.getfield 23, 3) := by decide +kernel
theorem dX10_stop_103 : decode cX10_stop 103 = .ok (.bipush 12, 2) := by decide +kernel
theorem dX10_stop_105 : decode cX10_stop 105 = .ok (.iload_n 1, 1) := by decide +kernel
theorem dX10_stop_106 : decode cX10_stop 106 = .ok (.imul, 1) := by decide +kernel
theorem dX10_stop_107 : decode cX10_stop 107 = .ok (.aload_n 0, 1) := by decide +kernel
theorem dX10_stop_108 : decode cX10_stop 108 = .ok (.getfield 13, 3) := by decide +kernel
theorem dX10_stop_111 : decode cX10_stop 111 = .ok (.iload_n 1, 1) := by decide +kernel
theorem dX10_stop_112 : decode cX10_stop 112 = .ok (.iaload, 1) := by decide +kernel
theorem dX10_stop_113 : decode cX10_stop 113 = .ok (.iadd, 1) := by decide +kernel
theorem dX10_stop_114 : decode cX10_stop 114 = .ok (.iconst 1, 1) := by decide +kernel
theorem dX10_stop_115 : decode cX10_stop 115 = .ok (.isub, 1) := by decide +kernel
theorem dX10_stop_116 : decode cX10_stop 116 = .ok (.laload, 1) := by decide +kernel
theorem dX10_stop_117 : decode cX10_stop 117 = .ok (.lcmp, 1) := by decide +kernel
theorem dX10_stop_118 : decode cX10_stop 118 = .ok (.ifCond .ge 5, 3) := by decide +kernel
theorem dX10_stop_121 : decode cX10_stop 121 = .ok (.iconst 0, 1) := by decide +kernel
theorem dX10_stop_122 : decode cX10_stop 122 = .ok (.ireturn, 1) := by decide +kernel
theorem dX10_stop_123 : decode cX10_stop 123 = .ok (.aload_n 0, 1) := by decide +kernel
theorem dX10_stop_124 : decode cX10_stop 124 = .ok (.iload_n 1, 1) := by decide +kernel
theorem dX10_stop_125 : decode cX10_stop 125 = .ok (.iload_n 2, 1) := by decide +kernel
theorem dX10_stop_126 : decode cX10_stop 126 = .ok (.lload_n 3, 1) := by decide +kernel
theorem dX10_stop_127 : decode cX10_stop 127 = .ok (.lload 5, 2) := by decide +kernel
theorem dX10_stop_129 : decode cX10_stop 129 = .ok (.invokevirtual 124, 3) := by decide +kernel
theorem dX10_stop_132 : decode cX10_stop 132 = .ok (.iconst 1, 1) := by decide +kernel
theorem dX10_stop_133 : decode cX10_stop 133 = .ok (.ireturn, 1) := by decide +kernel
theorem dX10_exception_0 : decode cX10_exception 0 = .ok (.iconst 0, 1) := by decide +kernel
theorem dX10_exception_1 : decode cX10_exception 1 = .ok (.istore 5, 2) := by decide +kernel
theorem dX10_exception_3 : decode cX10_exception 3 = .ok (.iload 5, 2) := by decide +kernel
theorem dX10_exception_5 : decode cX10_exception 5 = .ok (.aload_n 0, 1) := by decide +kernel
theorem dX10_exception_6 : decode cX10_exception 6 = .ok (.getfield 128, 3) := by decide +kernel
theorem dX10_exception_9 : decode cX10_exception 9 = .ok (.if_icmp .ge 32, 3) := by decide +kernel
theorem dX10_exception_12 : decode cX10_exception 12 = .ok (.aload_n 0, 1) := by decide +kernel
theorem dX10_exception_13 : decode cX10_exception 13 = .ok (.getfield 26, 3) := by decide +kernel
theorem dX10_exception_16 : decode cX10_exception 16 = .ok (.iload 5, 2) := by decide +kernel
theorem dX10_exception_18 : decode cX10_exception 18 = .ok (.iaload, 1) := by decide +kernel
theorem dX10_exception_19 : decode cX10_exception 19 = .ok (.iload_n 1, 1) := by decide +kernel
theorem dX10_exception_20 : decode cX10_exception 20 = .ok (.if_icmp .ne 15, 3) := by decide +kernel
theorem dX10_exception_23 : decode cX10_exception 23 = .ok (.aload_n 0, 1) := by decide +kernel
theorem dX10_exception_24 : decode cX10_exception 24 = .ok (.getfield 29, 3) := by decide +kernel
theorem dX10_exception_27 : decode cX10_exception 27 = .ok (.iload 5, 2) := by decide +kernel
theorem dX10_exception_29 : decode cX10_exception 29 = .ok (.laload, 1) := by decide +kernel
theorem dX10_exception_30 : decode cX10_exception 30 = .ok (.lload_n 2, 1) := by decide +kernel
theorem dX10_exception_31 : decode cX10_exception 31 = .ok (.lcmp, 1) := by decide +kernel
theorem dX10_exception_32 : decode cX10_exception 32 = .ok (.ifCond .eq 9, 3) := by decide +kernel
theorem dX10_exception_35 : decode cX10_exception 35 = .ok (.iinc 5 1, 3) := by decide +kernel
theorem dX10_exception_38 : decode cX10_exception 38 = .ok (.goto (-35), 3) := by decide +kernel
theorem dX10_exception_41 : decode cX10_exception 41 = .ok (.aload_n 0, 1) := by decide +kernel
theorem dX10_exception_42 : decode cX10_exception 42 = .ok (.aload_n 0, 1) := by decide +kernel
theorem dX10_exception_43 : decode cX10_exception 43 = .ok (.iload_n 1, 1) := by decide +kernel
theorem dX10_exception_44 : decode cX10_exception 44 = .ok (.invokevirtual 115, 3) := by decide +kernel
theorem dX10_exception_47 : decode cX10_exception 47 = .ok (.ifCond .ne 7, 3) := by decide +kernel
theorem dX10_exception_50 : decode cX10_exception 50 = .ok (.iconst 1, 1) := by decide +kernel
theorem dX10_exception_51 : decode cX10_exception 51 = .ok (.goto 4, 3) := by decide +kernel
theorem dX10_exception_54 : decode cX10_exception 54 = .ok (.iconst 0, 1) := by decide +kernel
theorem dX10_exception_55 : decode cX10_exception 55 = .ok (.lload_n 2, 1) := by decide +kernel
theorem dX10_exception_56 : decode cX10_exception 56 = .ok (.lconst 0, 1) := by decide +kernel
theorem dX10_exception_57 : decode cX10_exception 57 = .ok (.ldc2_w 131, 3) := by decide +kernel
theorem dX10_exception_60 : decode cX10_exception 60 = .ok (.invokestatic 105, 3) := by decide +kernel
theorem dX10_exception_63 : decode cX10_exception 63 = .ok (.ifCond .ne 7, 3) := by decide +kernel
theorem dX10_exception_66 : decode cX10_exception 66 = .ok (.iconst 1, 1) := by decide +kernel
theorem dX10_exception_67 : decode cX10_exception 67 = .ok (.goto 4, 3) := by decide +kernel
theorem dX10_exception_70 : decode cX10_exception 70 = .ok (.iconst 0, 1) := by decide +kernel
theorem dX10_exception_71 : decode cX10_exception 71 = .ok (.iload 5, 2) := by decide +kernel
theorem dX10_exception_73 : decode cX10_exception 73 = .ok (.bipush 100, 2) := by decide +kernel
theorem dX10_exception_75 : decode cX10_exception 75 = .ok (.if_icmp .ne 7, 3) := by decide +kernel
theorem dX10_exception_78 : decode cX10_exception 78 = .ok (.iconst 1, 1) := by decide +kernel
theorem dX10_exception_79 : decode cX10_exception 79 = .ok (.goto 4, 3) := by decide +kernel
theorem dX10_exception_82 : decode cX10_exception 82 = .ok (.iconst 0, 1) := by decide +kernel
theorem dX10_exception_83 : decode cX10_exception 83 = .ok (.invokevirtual 111, 3) := by decide +kernel
theorem dX10_exception_86 : decode cX10_exception 86 = .ok (.ifCond .eq 5, 3) := by decide +kernel
theorem dX10_exception_89 : decode cX10_exception 89 = .ok (.iconst 0, 1) := by decide +kernel
theorem dX10_exception_90 : decode cX10_exception 90 = .ok (.ireturn, 1) := by decide +kernel
theorem dX10_exception_91 : decode cX10_exception 91 = .ok (.aload_n 0, 1) := by decide +kernel
theorem dX10_exception_92 : decode cX10_exception 92 = .ok (.getfield 26, 3) := by decide +kernel
theorem dX10_exception_95 : decode cX10_exception 95 = .ok (.iload 5, 2) := by decide +kernel
theorem dX10_exception_97 : decode cX10_exception 97 = .ok (.iload_n 1, 1) := by decide +kernel
theorem dX10_exception_98 : decode cX10_exception 98 = .ok (.iastore, 1) := by decide +kernel
theorem dX10_exception_99 : decode cX10_exception 99 = .ok (.aload_n 0, 1) := by decide +kernel
theorem dX10_exception_100 : decode cX10_exception 100 = .ok (.getfield 29, 3) := by decide +kernel
theorem dX10_exception_103 : decode cX10_exception 103 = .ok (.iload 5, 2) := by decide +kernel
theorem dX10_exception_105 : decode cX10_exception 105 = .ok (.lload_n 2, 1) := by decide +kernel
theorem dX10_exception_106 : decode cX10_exception 106 = .ok (.lastore, 1) := by decide +kernel
theorem dX10_exception_107 : decode cX10_exception 107 = .ok (.aload_n 0, 1) := by decide +kernel
theorem dX10_exception_108 : decode cX10_exception 108 = .ok (.getfield 32, 3) := by decide +kernel
theorem dX10_exception_111 : decode cX10_exception 111 = .ok (.iload 5, 2) := by decide +kernel
theorem dX10_exception_113 : decode cX10_exception 113 = .ok (.iload 4, 2) := by decide +kernel
theorem dX10_exception_115 : decode cX10_exception 115 = .ok (.bastore, 1) := by decide +kernel
theorem dX10_exception_116 : decode cX10_exception 116 = .ok (.aload_n 0, 1) := by decide +kernel
theorem dX10_exception_117 : decode cX10_exception 117 = .ok (.iload 5, 2) := by decide +kernel
theorem dX10_exception_119 : decode cX10_exception 119 = .ok (.aload_n 0, 1) := by decide +kernel
theorem dX10_exception_120 : decode cX10_exception 120 = .ok (.getfield 128, 3) := by decide +kernel
theorem dX10_exception_123 : decode cX10_exception 123 = .ok (.if_icmp .ne 12, 3) := by decide +kernel
theorem dX10_exception_126 : decode cX10_exception 126 = .ok (.aload_n 0, 1) := by decide +kernel
theorem dX10_exception_127 : decode cX10_exception 127 = .ok (.getfield 128, 3) := by decide +kernel
theorem dX10_exception_130 : decode cX10_exception 130 = .ok (.iconst 1, 1) := by decide +kernel
theorem dX10_exception_131 : decode cX10_exception 131 = .ok (.iadd, 1) := by decide +kernel
theorem dX10_exception_132 : decode cX10_exception 132 = .ok (.goto 7, 3) := by decide +kernel
theorem dX10_exception_135 : decode cX10_exception 135 = .ok (.aload_n 0, 1) := by decide +kernel
theorem dX10_exception_136 : decode cX10_exception 136 = .ok (.getfield 128, 3) := by decide +kernel
theorem dX10_exception_139 : decode cX10_exception 139 = .ok (.putfield 128, 3) := by decide +kernel
theorem dX10_exception_142 : decode cX10_exception 142 = .ok (.aload_n 0, 1) := by decide +kernel
theorem dX10_exception_143 : decode cX10_exception 143 = .ok (.getfield 128, 3) := by decide +kernel
theorem dX10_exception_146 : decode cX10_exception 146 = .ok (.ireturn, 1) := by decide +kernel
theorem dX10_zone_0 : decode cX10_zone 0 = .ok (.iconst 0, 1) := by decide +kernel
theorem dX10_zone_1 : decode cX10_zone 1 = .ok (.istore 5, 2) := by decide +kernel
theorem dX10_zone_3 : decode cX10_zone 3 = .ok (.iload 5, 2) := by decide +kernel
theorem dX10_zone_5 : decode cX10_zone 5 = .ok (.aload_n 0, 1) := by decide +kernel
theorem dX10_zone_6 : decode cX10_zone 6 = .ok (.getfield 133, 3) := by decide +kernel
theorem dX10_zone_9 : decode cX10_zone 9 = .ok (.if_icmp .ge 32, 3) := by decide +kernel
theorem dX10_zone_12 : decode cX10_zone 12 = .ok (.aload_n 0, 1) := by decide +kernel
theorem dX10_zone_13 : decode cX10_zone 13 = .ok (.getfield 36, 3) := by decide +kernel
theorem dX10_zone_16 : decode cX10_zone 16 = .ok (.iload 5, 2) := by decide +kernel
theorem dX10_zone_18 : decode cX10_zone 18 = .ok (.iaload, 1) := by decide +kernel
theorem dX10_zone_19 : decode cX10_zone 19 = .ok (.iload_n 1, 1) := by decide +kernel
theorem dX10_zone_20 : decode cX10_zone 20 = .ok (.if_icmp .ne 15, 3) := by decide +kernel
theorem dX10_zone_23 : decode cX10_zone 23 = .ok (.aload_n 0, 1) := by decide +kernel
theorem dX10_zone_24 : decode cX10_zone 24 = .ok (.getfield 39, 3) := by decide +kernel
theorem dX10_zone_27 : decode cX10_zone 27 = .ok (.iload 5, 2) := by decide +kernel
theorem dX10_zone_29 : decode cX10_zone 29 = .ok (.laload, 1) := by decide +kernel
theorem dX10_zone_30 : decode cX10_zone 30 = .ok (.lload_n 2, 1) := by decide +kernel
theorem dX10_zone_31 : decode cX10_zone 31 = .ok (.lcmp, 1) := by decide +kernel
theorem dX10_zone_32 : decode cX10_zone 32 = .ok (.ifCond .eq 9, 3) := by decide +kernel
theorem dX10_zone_35 : decode cX10_zone 35 = .ok (.iinc 5 1, 3) := by decide +kernel
theorem dX10_zone_38 : decode cX10_zone 38 = .ok (.goto (-35), 3) := by decide +kernel
theorem dX10_zone_41 : decode cX10_zone 41 = .ok (.aload_n 0, 1) := by decide +kernel
theorem dX10_zone_42 : decode cX10_zone 42 = .ok (.iload_n 1, 1) := by decide +kernel
theorem dX10_zone_43 : decode cX10_zone 43 = .ok (.invokestatic 119, 3) := by decide +kernel
theorem dX10_zone_46 : decode cX10_zone 46 = .ok (.ifCond .ne 7, 3) := by decide +kernel
theorem dX10_zone_49 : decode cX10_zone 49 = .ok (.iconst 1, 1) := by decide +kernel
theorem dX10_zone_50 : decode cX10_zone 50 = .ok (.goto 4, 3) := by decide +kernel
theorem dX10_zone_53 : decode cX10_zone 53 = .ok (.iconst 0, 1) := by decide +kernel
theorem dX10_zone_54 : decode cX10_zone 54 = .ok (.lload_n 2, 1) := by decide +kernel
theorem dX10_zone_55 : decode cX10_zone 55 = .ok (.lconst 0, 1) := by decide +kernel
theorem dX10_zone_56 : decode cX10_zone 56 = .ok (.ldc2_w 136, 3) := by decide +kernel
theorem dX10_zone_59 : decode cX10_zone 59 = .ok (.invokestatic 105, 3) := by decide +kernel
theorem dX10_zone_62 : decode cX10_zone 62 = .ok (.ifCond .eq 18, 3) := by decide +kernel
theorem dX10_zone_65 : decode cX10_zone 65 = .ok (.iload 4, 2) := by decide +kernel
theorem dX10_zone_67 : decode cX10_zone 67 = .ok (.i2l, 1) := by decide +kernel
theorem dX10_zone_68 : decode cX10_zone 68 = .ok (.ldc2_w 138, 3) := by decide +kernel
theorem dX10_zone_71 : decode cX10_zone 71 = .ok (.ldc2_w 140, 3) := by decide +kernel
theorem dX10_zone_74 : decode cX10_zone 74 = .ok (.invokestatic 105, 3) := by decide +kernel
theorem dX10_zone_77 : decode cX10_zone 77 = .ok (.ifCond .ne 7, 3) := by decide +kernel
theorem dX10_zone_80 : decode cX10_zone 80 = .ok (.iconst 1, 1) := by decide +kernel
theorem dX10_zone_81 : decode cX10_zone 81 = .ok (.goto 4, 3) := by decide +kernel
theorem dX10_zone_84 : decode cX10_zone 84 = .ok (.iconst 0, 1) := by decide +kernel
theorem dX10_zone_85 : decode cX10_zone 85 = .ok (.iload 5, 2) := by decide +kernel
theorem dX10_zone_87 : decode cX10_zone 87 = .ok (.bipush 100, 2) := by decide +kernel
theorem dX10_zone_89 : decode cX10_zone 89 = .ok (.if_icmp .ne 7, 3) := by decide +kernel
theorem dX10_zone_92 : decode cX10_zone 92 = .ok (.iconst 1, 1) := by decide +kernel
theorem dX10_zone_93 : decode cX10_zone 93 = .ok (.goto 4, 3) := by decide +kernel
theorem dX10_zone_96 : decode cX10_zone 96 = .ok (.iconst 0, 1) := by decide +kernel
theorem dX10_zone_97 : decode cX10_zone 97 = .ok (.invokevirtual 111, 3) := by decide +kernel
theorem dX10_zone_100 : decode cX10_zone 100 = .ok (.ifCond .eq 5, 3) := by decide +kernel
theorem dX10_zone_103 : decode cX10_zone 103 = .ok (.iconst 0, 1) := by decide +kernel
theorem dX10_zone_104 : decode cX10_zone 104 = .ok (.ireturn, 1) := by decide +kernel
theorem dX10_zone_105 : decode cX10_zone 105 = .ok (.aload_n 0, 1) := by decide +kernel
theorem dX10_zone_106 : decode cX10_zone 106 = .ok (.getfield 36, 3) := by decide +kernel
theorem dX10_zone_109 : decode cX10_zone 109 = .ok (.iload 5, 2) := by decide +kernel
theorem dX10_zone_111 : decode cX10_zone 111 = .ok (.iload_n 1, 1) := by decide +kernel
theorem dX10_zone_112 : decode cX10_zone 112 = .ok (.iastore, 1) := by decide +kernel
theorem dX10_zone_113 : decode cX10_zone 113 = .ok (.aload_n 0, 1) := by decide +kernel
theorem dX10_zone_114 : decode cX10_zone 114 = .ok (.getfield 39, 3) := by decide +kernel
theorem dX10_zone_117 : decode cX10_zone 117 = .ok (.iload 5, 2) := by decide +kernel
theorem dX10_zone_119 : decode cX10_zone 119 = .ok (.lload_n 2, 1) := by decide +kernel
theorem dX10_zone_120 : decode cX10_zone 120 = .ok (.lastore, 1) := by decide +kernel
theorem dX10_zone_121 : decode cX10_zone 121 = .ok (.aload_n 0, 1) := by decide +kernel
theorem dX10_zone_122 : decode cX10_zone 122 = .ok (.getfield 42, 3) := by decide +kernel
theorem dX10_zone_125 : decode cX10_zone 125 = .ok (.iload 5, 2) := by decide +kernel
theorem dX10_zone_127 : decode cX10_zone 127 = .ok (.iload 4, 2) := by decide +kernel
theorem dX10_zone_129 : decode cX10_zone 129 = .ok (.iastore, 1) := by decide +kernel
theorem dX10_zone_130 : decode cX10_zone 130 = .ok (.aload_n 0, 1) := by decide +kernel
theorem dX10_zone_131 : decode cX10_zone 131 = .ok (.iload 5, 2) := by decide +kernel
theorem dX10_zone_133 : decode cX10_zone 133 = .ok (.aload_n 0, 1) := by decide +kernel
theorem dX10_zone_134 : decode cX10_zone 134 = .ok (.getfield 133, 3) := by decide +kernel
theorem dX10_zone_137 : decode cX10_zone 137 = .ok (.if_icmp .ne 12, 3) := by decide +kernel
theorem dX10_zone_140 : decode cX10_zone 140 = .ok (.aload_n 0, 1) := by decide +kernel
theorem dX10_zone_141 : decode cX10_zone 141 = .ok (.getfield 133, 3) := by decide +kernel
theorem dX10_zone_144 : decode cX10_zone 144 = .ok (.iconst 1, 1) := by decide +kernel
theorem dX10_zone_145 : decode cX10_zone 145 = .ok (.iadd, 1) := by decide +kernel
theorem dX10_zone_146 : decode cX10_zone 146 = .ok (.goto 7, 3) := by decide +kernel
theorem dX10_zone_149 : decode cX10_zone 149 = .ok (.aload_n 0, 1) := by decide +kernel
theorem dX10_zone_150 : decode cX10_zone 150 = .ok (.getfield 133, 3) := by decide +kernel
theorem dX10_zone_153 : decode cX10_zone 153 = .ok (.putfield 133, 3) := by decide +kernel
theorem dX10_zone_156 : decode cX10_zone 156 = .ok (.iconst 0, 1) := by decide +kernel
theorem dX10_zone_157 : decode cX10_zone 157 = .ok (.istore 6, 2) := by decide +kernel
theorem dX10_zone_159 : decode cX10_zone 159 = .ok (.iconst 0, 1) := by decide +kernel
theorem dX10_zone_160 : decode cX10_zone 160 = .ok (.istore 7, 2) := by decide +kernel
theorem dX10_zone_162 : decode cX10_zone 162 = .ok (.iload 7, 2) := by decide +kernel
theorem dX10_zone_164 : decode cX10_zone 164 = .ok (.aload_n 0, 1) := by decide +kernel
theorem dX10_zone_165 : decode cX10_zone 165 = .ok (.getfield 133, 3) := by decide +kernel
theorem dX10_zone_168 : decode cX10_zone 168 = .ok (.if_icmp .ge 31, 3) := by decide +kernel
theorem dX10_zone_171 : decode cX10_zone 171 = .ok (.aload_n 0, 1) := by decide +kernel
theorem dX10_zone_172 : decode cX10_zone 172 = .ok (.getfield 36, 3) := by decide +kernel
theorem dX10_zone_175 : decode cX10_zone 175 = .ok (.iload 7, 2) := by decide +kernel
theorem dX10_zone_177 : decode cX10_zone 177 = .ok (.iaload, 1) := by decide +kernel
theorem dX10_zone_178 : decode cX10_zone 178 = .ok (.iload_n 1, 1) := by decide +kernel
theorem dX10_zone_179 : decode cX10_zone 179 = .ok (.if_icmp .ne 10, 3) := by decide +kernel
theorem dX10_zone_182 : decode cX10_zone 182 = .ok (.iload 6, 2) := by decide +kernel
theorem dX10_zone_184 : decode cX10_zone 184 = .ok (.iconst 1, 1) := by decide +kernel
theorem dX10_zone_185 : decode cX10_zone 185 = .ok (.iadd, 1) := by decide +kernel
theorem dX10_zone_186 : decode cX10_zone 186 = .ok (.goto 5, 3) := by decide +kernel
theorem dX10_zone_189 : decode cX10_zone 189 = .ok (.iload 6, 2) := by decide +kernel
theorem dX10_zone_191 : decode cX10_zone 191 = .ok (.istore 6, 2) := by decide +kernel
theorem dX10_zone_193 : decode cX10_zone 193 = .ok (.iinc 7 1, 3) := by decide +kernel
theorem dX10_zone_196 : decode cX10_zone 196 = .ok (.goto (-34), 3) := by decide +kernel
theorem dX10_zone_199 : decode cX10_zone 199 = .ok (.iload 6, 2) := by decide +kernel
theorem dX10_zone_201 : decode cX10_zone 201 = .ok (.ireturn, 1) := by decide +kernel
theorem dX10_least_0 : decode cX10_least 0 = .ok (.aload_n 0, 1) := by decide +kernel
theorem dX10_least_1 : decode cX10_least 1 = .ok (.iload_n 1, 1) := by decide +kernel
theorem dX10_least_2 : decode cX10_least 2 = .ok (.invokestatic 119, 3) := by decide +kernel
theorem dX10_least_5 : decode cX10_least 5 = .ok (.ifCond .ne 7, 3) := by decide +kernel
theorem dX10_least_8 : decode cX10_least 8 = .ok (.iconst 1, 1) := by decide +kernel
theorem dX10_least_9 : decode cX10_least 9 = .ok (.goto 4, 3) := by decide +kernel
theorem dX10_least_12 : decode cX10_least 12 = .ok (.iconst 0, 1) := by decide +kernel
theorem dX10_least_13 : decode cX10_least 13 = .ok (.lload_n 2, 1) := by decide +kernel
theorem dX10_least_14 : decode cX10_least 14 = .ok (.lconst 0, 1) := by decide +kernel
theorem dX10_least_15 : decode cX10_least 15 = .ok (.ldc2_w 142, 3) := by decide +kernel
theorem dX10_least_18 : decode cX10_least 18 = .ok (.invokestatic 105, 3) := by decide +kernel
theorem dX10_least_21 : decode cX10_least 21 = .ok (.ifCond .ne 7, 3) := by decide +kernel
theorem dX10_least_24 : decode cX10_least 24 = .ok (.iconst 1, 1) := by decide +kernel
theorem dX10_least_25 : decode cX10_least 25 = .ok (.goto 4, 3) := by decide +kernel
theorem dX10_least_28 : decode cX10_least 28 = .ok (.iconst 0, 1) := by decide +kernel
theorem dX10_least_29 : decode cX10_least 29 = .ok (.iconst 0, 1) := by decide +kernel
theorem dX10_least_30 : decode cX10_least 30 = .ok (.invokevirtual 111, 3) := by decide +kernel
theorem dX10_least_33 : decode cX10_least 33 = .ok (.ifCond .eq 5, 3) := by decide +kernel
theorem dX10_least_36 : decode cX10_least 36 = .ok (.iconst 0, 1) := by decide +kernel
theorem dX10_least_37 : decode cX10_least 37 = .ok (.ireturn, 1) := by decide +kernel
theorem dX10_least_38 : decode cX10_least 38 = .ok (.aload_n 0, 1) := by decide +kernel
theorem dX10_least_39 : decode cX10_least 39 = .ok (.getfield 57, 3) := by decide +kernel
theorem dX10_least_42 : decode cX10_least 42 = .ok (.iload_n 1, 1) := by decide +kernel
theorem dX10_least_43 : decode cX10_least 43 = .ok (.iaload, 1) := by decide +kernel
theorem dX10_least_44 : decode cX10_least 44 = .ok (.istore 4, 2) := by decide +kernel
theorem dX10_least_46 : decode cX10_least 46 = .ok (.aload_n 0, 1) := by decide +kernel
theorem dX10_least_47 : decode cX10_least 47 = .ok (.getfield 57, 3) := by decide +kernel
theorem dX10_least_50 : decode cX10_least 50 = .ok (.iload_n 1, 1) := by decide +kernel
theorem dX10_least_51 : decode cX10_least 51 = .ok (.lload_n 2, 1) := by decide +kernel
theorem dX10_least_52 : decode cX10_least 52 = .ok (.l2i, 1) := by decide +kernel
theorem dX10_least_53 : decode cX10_least 53 = .ok (.iastore, 1) := by decide +kernel
theorem dX10_least_54 : decode cX10_least 54 = .ok (.iload 4, 2) := by decide +kernel
theorem dX10_least_56 : decode cX10_least 56 = .ok (.ireturn, 1) := by decide +kernel
theorem dX10_change_0 : decode cX10_change 0 = .ok (.aload_n 0, 1) := by decide +kernel
theorem dX10_change_1 : decode cX10_change 1 = .ok (.iload_n 1, 1) := by decide +kernel
theorem dX10_change_2 : decode cX10_change 2 = .ok (.invokevirtual 115, 3) := by decide +kernel
theorem dX10_change_5 : decode cX10_change 5 = .ok (.ifCond .eq 21, 3) := by decide +kernel
theorem dX10_change_8 : decode cX10_change 8 = .ok (.iload_n 2, 1) := by decide +kernel
theorem dX10_change_9 : decode cX10_change 9 = .ok (.i2l, 1) := by decide +kernel
theorem dX10_change_10 : decode cX10_change 10 = .ok (.lconst 0, 1) := by decide +kernel
theorem dX10_change_11 : decode cX10_change 11 = .ok (.aload_n 0, 1) := by decide +kernel
theorem dX10_change_12 : decode cX10_change 12 = .ok (.getfield 13, 3) := by decide +kernel
theorem dX10_change_15 : decode cX10_change 15 = .ok (.iload_n 1, 1) := by decide +kernel
theorem dX10_change_16 : decode cX10_change 16 = .ok (.iaload, 1) := by decide +kernel
theorem dX10_change_17 : decode cX10_change 17 = .ok (.iconst 1, 1) := by decide +kernel
theorem dX10_change_18 : decode cX10_change 18 = .ok (.isub, 1) := by decide +kernel
theorem dX10_change_19 : decode cX10_change 19 = .ok (.i2l, 1) := by decide +kernel
theorem dX10_change_20 : decode cX10_change 20 = .ok (.invokestatic 105, 3) := by decide +kernel
theorem dX10_change_23 : decode cX10_change 23 = .ok (.ifCond .ne 7, 3) := by decide +kernel
theorem dX10_change_26 : decode cX10_change 26 = .ok (.iconst 1, 1) := by decide +kernel
theorem dX10_change_27 : decode cX10_change 27 = .ok (.goto 4, 3) := by decide +kernel
theorem dX10_change_30 : decode cX10_change 30 = .ok (.iconst 0, 1) := by decide +kernel
theorem dX10_change_31 : decode cX10_change 31 = .ok (.istore 7, 2) := by decide +kernel
theorem dX10_change_33 : decode cX10_change 33 = .ok (.aload_n 0, 1) := by decide +kernel
theorem dX10_change_34 : decode cX10_change 34 = .ok (.iload 7, 2) := by decide +kernel
theorem dX10_change_36 : decode cX10_change 36 = .ok (.lload_n 3, 1) := by decide +kernel
theorem dX10_change_37 : decode cX10_change 37 = .ok (.lconst 0, 1) := by decide +kernel
theorem dX10_change_38 : decode cX10_change 38 = .ok (.ldc2_w 142, 3) := by decide +kernel
theorem dX10_change_41 : decode cX10_change 41 = .ok (.invokestatic 105, 3) := by decide +kernel
theorem dX10_change_44 : decode cX10_change 44 = .ok (.ifCond .eq 15, 3) := by decide +kernel
theorem dX10_change_47 : decode cX10_change 47 = .ok (.lload 5, 2) := by decide +kernel
theorem dX10_change_49 : decode cX10_change 49 = .ok (.lconst 0, 1) := by decide +kernel
theorem dX10_change_50 : decode cX10_change 50 = .ok (.ldc2_w 131, 3) := by decide +kernel
theorem dX10_change_53 : decode cX10_change 53 = .ok (.invokestatic 105, 3) := by decide +kernel
theorem dX10_change_56 : decode cX10_change 56 = .ok (.ifCond .ne 7, 3) := by decide +kernel
theorem dX10_change_59 : decode cX10_change 59 = .ok (.iconst 1, 1) := by decide +kernel
theorem dX10_change_60 : decode cX10_change 60 = .ok (.goto 4, 3) := by decide +kernel
theorem dX10_change_63 : decode cX10_change 63 = .ok (.iconst 0, 1) := by decide +kernel
theorem dX10_change_64 : decode cX10_change 64 = .ok (.aload_n 0, 1) := by decide +kernel
theorem dX10_change_65 : decode cX10_change 65 = .ok (.getfield 144, 3) := by decide +kernel
theorem dX10_change_68 : decode cX10_change 68 = .ok (.bipush 100, 2) := by decide +kernel
theorem dX10_change_70 : decode cX10_change 70 = .ok (.if_icmp .ne 7, 3) := by decide +kernel
theorem dX10_change_73 : decode cX10_change 73 = .ok (.iconst 1, 1) := by decide +kernel
theorem dX10_change_74 : decode cX10_change 74 = .ok (.goto 4, 3) := by decide +kernel
theorem dX10_change_77 : decode cX10_change 77 = .ok (.iconst 0, 1) := by decide +kernel
theorem dX10_change_78 : decode cX10_change 78 = .ok (.invokevirtual 111, 3) := by decide +kernel
theorem dX10_change_81 : decode cX10_change 81 = .ok (.ifCond .eq 5, 3) := by decide +kernel
theorem dX10_change_84 : decode cX10_change 84 = .ok (.iconst 0, 1) := by decide +kernel
theorem dX10_change_85 : decode cX10_change 85 = .ok (.ireturn, 1) := by decide +kernel
theorem dX10_change_86 : decode cX10_change 86 = .ok (.aload_n 0, 1) := by decide +kernel
theorem dX10_change_87 : decode cX10_change 87 = .ok (.getfield 45, 3) := by decide +kernel
theorem dX10_change_90 : decode cX10_change 90 = .ok (.aload_n 0, 1) := by decide +kernel
theorem dX10_change_91 : decode cX10_change 91 = .ok (.getfield 144, 3) := by decide +kernel
theorem dX10_change_94 : decode cX10_change 94 = .ok (.iload_n 1, 1) := by decide +kernel
theorem dX10_change_95 : decode cX10_change 95 = .ok (.iastore, 1) := by decide +kernel
theorem dX10_change_96 : decode cX10_change 96 = .ok (.aload_n 0, 1) := by decide +kernel
theorem dX10_change_97 : decode cX10_change 97 = .ok (.getfield 48, 3) := by decide +kernel
theorem dX10_change_100 : decode cX10_change 100 = .ok (.aload_n 0, 1) := by decide +kernel
theorem dX10_change_101 : decode cX10_change 101 = .ok (.getfield 144, 3) := by decide +kernel
theorem dX10_change_104 : decode cX10_change 104 = .ok (.iload_n 2, 1) := by decide +kernel
theorem dX10_change_105 : decode cX10_change 105 = .ok (.iastore, 1) := by decide +kernel
theorem dX10_change_106 : decode cX10_change 106 = .ok (.aload_n 0, 1) := by decide +kernel
theorem dX10_change_107 : decode cX10_change 107 = .ok (.getfield 51, 3) := by decide +kernel
theorem dX10_change_110 : decode cX10_change 110 = .ok (.aload_n 0, 1) := by decide +kernel
theorem dX10_change_111 : decode cX10_change 111 = .ok (.getfield 144, 3) := by decide +kernel
theorem dX10_change_114 : decode cX10_change 114 = .ok (.lload_n 3, 1) := by decide +kernel
theorem dX10_change_115 : decode cX10_change 115 = .ok (.lastore, 1) := by decide +kernel
theorem dX10_change_116 : decode cX10_change 116 = .ok (.aload_n 0, 1) := by decide +kernel
theorem dX10_change_117 : decode cX10_change 117 = .ok (.getfield 54, 3) := by decide +kernel
theorem dX10_change_120 : decode cX10_change 120 = .ok (.aload_n 0, 1) := by decide +kernel
theorem dX10_change_121 : decode cX10_change 121 = .ok (.getfield 144, 3) := by decide +kernel
theorem dX10_change_124 : decode cX10_change 124 = .ok (.lload 5, 2) := by decide +kernel
theorem dX10_change_126 : decode cX10_change 126 = .ok (.lastore, 1) := by decide +kernel
theorem dX10_change_127 : decode cX10_change 127 = .ok (.aload_n 0, 1) := by decide +kernel
theorem dX10_change_128 : decode cX10_change 128 = .ok (.dup, 1) := by decide +kernel
theorem dX10_change_129 : decode cX10_change 129 = .ok (.getfield 144, 3) := by decide +kernel
theorem dX10_change_132 : decode cX10_change 132 = .ok (.iconst 1, 1) := by decide +kernel
theorem dX10_change_133 : decode cX10_change 133 = .ok (.iadd, 1) := by decide +kernel
theorem dX10_change_134 : decode cX10_change 134 = .ok (.putfield 144, 3) := by decide +kernel
theorem dX10_change_137 : decode cX10_change 137 = .ok (.aload_n 0, 1) := by decide +kernel
theorem dX10_change_138 : decode cX10_change 138 = .ok (.getfield 144, 3) := by decide +kernel
theorem dX10_change_141 : decode cX10_change 141 = .ok (.ireturn, 1) := by decide +kernel
theorem dX10_runs_0 : decode cX10_runs 0 = .ok (.lload_n 2, 1) := by decide +kernel
theorem dX10_runs_1 : decode cX10_runs 1 = .ok (.lconst 0, 1) := by decide +kernel
theorem dX10_runs_2 : decode cX10_runs 2 = .ok (.lcmp, 1) := by decide +kernel
theorem dX10_runs_3 : decode cX10_runs 3 = .ok (.ifCond .ge 5, 3) := by decide +kernel
theorem dX10_runs_6 : decode cX10_runs 6 = .ok (.iconst 0, 1) := by decide +kernel
theorem dX10_runs_7 : decode cX10_runs 7 = .ok (.ireturn, 1) := by decide +kernel
theorem dX10_runs_8 : decode cX10_runs 8 = .ok (.iconst 0, 1) := by decide +kernel
theorem dX10_runs_9 : decode cX10_runs 9 = .ok (.istore 4, 2) := by decide +kernel
theorem dX10_runs_11 : decode cX10_runs 11 = .ok (.iload 4, 2) := by decide +kernel
theorem dX10_runs_13 : decode cX10_runs 13 = .ok (.aload_n 0, 1) := by decide +kernel
theorem dX10_runs_14 : decode cX10_runs 14 = .ok (.getfield 128, 3) := by decide +kernel
theorem dX10_runs_17 : decode cX10_runs 17 = .ok (.if_icmp .ge 40, 3) := by decide +kernel
theorem dX10_runs_20 : decode cX10_runs 20 = .ok (.aload_n 0, 1) := by decide +kernel
theorem dX10_runs_21 : decode cX10_runs 21 = .ok (.getfield 26, 3) := by decide +kernel
theorem dX10_runs_24 : decode cX10_runs 24 = .ok (.iload 4, 2) := by decide +kernel
theorem dX10_runs_26 : decode cX10_runs 26 = .ok (.iaload, 1) := by decide +kernel
theorem dX10_runs_27 : decode cX10_runs 27 = .ok (.iload_n 1, 1) := by decide +kernel
theorem dX10_runs_28 : decode cX10_runs 28 = .ok (.if_icmp .ne 23, 3) := by decide +kernel
theorem dX10_runs_31 : decode cX10_runs 31 = .ok (.aload_n 0, 1) := by decide +kernel
theorem dX10_runs_32 : decode cX10_runs 32 = .ok (.getfield 29, 3) := by decide +kernel
theorem dX10_runs_35 : decode cX10_runs 35 = .ok (.iload 4, 2) := by decide +kernel
theorem dX10_runs_37 : decode cX10_runs 37 = .ok (.laload, 1) := by decide +kernel
theorem dX10_runs_38 : decode cX10_runs 38 = .ok (.lload_n 2, 1) := by decide +kernel
theorem dX10_runs_39 : decode cX10_runs 39 = .ok (.lcmp, 1) := by decide +kernel
theorem dX10_runs_40 : decode cX10_runs 40 = .ok (.ifCond .ne 11, 3) := by decide +kernel
theorem dX10_runs_43 : decode cX10_runs 43 = .ok (.aload_n 0, 1) := by decide +kernel
theorem dX10_runs_44 : decode cX10_runs 44 = .ok (.getfield 32, 3) := by decide +kernel
theorem dX10_runs_47 : decode cX10_runs 47 = .ok (.iload 4, 2) := by decide +kernel
theorem dX10_runs_49 : decode cX10_runs 49 = .ok (.baload, 1) := by decide +kernel
theorem dX10_runs_50 : decode cX10_runs 50 = .ok (.ireturn, 1) := by decide +kernel
theorem dX10_runs_51 : decode cX10_runs 51 = .ok (.iinc 4 1, 3) := by decide +kernel
theorem dX10_runs_54 : decode cX10_runs 54 = .ok (.goto (-43), 3) := by decide +kernel
theorem dX10_runs_57 : decode cX10_runs 57 = .ok (.lload_n 2, 1) := by decide +kernel
theorem dX10_runs_58 : decode cX10_runs 58 = .ok (.ldc2_w 147, 3) := by decide +kernel
theorem dX10_runs_61 : decode cX10_runs 61 = .ok (.lrem, 1) := by decide +kernel
theorem dX10_runs_62 : decode cX10_runs 62 = .ok (.l2i, 1) := by decide +kernel
theorem dX10_runs_63 : decode cX10_runs 63 = .ok (.istore 4, 2) := by decide +kernel
theorem dX10_runs_65 : decode cX10_runs 65 = .ok (.aload_n 0, 1) := by decide +kernel
theorem dX10_runs_66 : decode cX10_runs 66 = .ok (.getfield 7, 3) := by decide +kernel
theorem dX10_runs_69 : decode cX10_runs 69 = .ok (.iload_n 1, 1) := by decide +kernel
theorem dX10_runs_70 : decode cX10_runs 70 = .ok (.iaload, 1) := by decide +kernel
theorem dX10_runs_71 : decode cX10_runs 71 = .ok (.iload 4, 2) := by decide +kernel
theorem dX10_runs_73 : decode cX10_runs 73 = .ok (.ishr, 1) := by decide +kernel
theorem dX10_runs_74 : decode cX10_runs 74 = .ok (.iconst 1, 1) := by decide +kernel
theorem dX10_runs_75 : decode cX10_runs 75 = .ok (.iand, 1) := by decide +kernel
theorem dX10_runs_76 : decode cX10_runs 76 = .ok (.iconst 1, 1) := by decide +kernel
theorem dX10_runs_77 : decode cX10_runs 77 = .ok (.if_icmp .ne 7, 3) := by decide +kernel
theorem dX10_runs_80 : decode cX10_runs 80 = .ok (.iconst 1, 1) := by decide +kernel
theorem dX10_runs_81 : decode cX10_runs 81 = .ok (.goto 4, 3) := by decide +kernel
theorem dX10_runs_84 : decode cX10_runs 84 = .ok (.iconst 0, 1) := by decide +kernel
theorem dX10_runs_85 : decode cX10_runs 85 = .ok (.ireturn, 1) := by decide +kernel
theorem dX10_minutesAt_0 : decode cX10_minutesAt 0 = .ok (.iconst (-1), 1) := by decide +kernel
theorem dX10_minutesAt_1 : decode cX10_minutesAt 1 = .ok (.istore 4, 2) := by decide +kernel
theorem dX10_minutesAt_3 : decode cX10_minutesAt 3 = .ok (.iconst 0, 1) := by decide +kernel
theorem dX10_minutesAt_4 : decode cX10_minutesAt 4 = .ok (.istore 5, 2) := by decide +kernel
theorem dX10_minutesAt_6 : decode cX10_minutesAt 6 = .ok (.iload 5, 2) := by decide +kernel
theorem dX10_minutesAt_8 : decode cX10_minutesAt 8 = .ok (.aload_n 0, 1) := by decide +kernel
theorem dX10_minutesAt_9 : decode cX10_minutesAt 9 = .ok (.getfield 133, 3) := by decide +kernel
theorem dX10_minutesAt_12 : decode cX10_minutesAt 12 = .ok (.if_icmp .ge 153, 3) := by decide +kernel
theorem dX10_minutesAt_15 : decode cX10_minutesAt 15 = .ok (.aload_n 0, 1) := by decide +kernel
theorem dX10_minutesAt_16 : decode cX10_minutesAt 16 = .ok (.getfield 36, 3) := by decide +kernel
theorem dX10_minutesAt_19 : decode cX10_minutesAt 19 = .ok (.iload 5, 2) := by decide +kernel
theorem dX10_minutesAt_21 : decode cX10_minutesAt 21 = .ok (.iaload, 1) := by decide +kernel
theorem dX10_minutesAt_22 : decode cX10_minutesAt 22 = .ok (.iload_n 1, 1) := by decide +kernel
theorem dX10_minutesAt_23 : decode cX10_minutesAt 23 = .ok (.if_icmp .ne 136, 3) := by decide +kernel
theorem dX10_minutesAt_26 : decode cX10_minutesAt 26 = .ok (.aload_n 0, 1) := by decide +kernel
theorem dX10_minutesAt_27 : decode cX10_minutesAt 27 = .ok (.getfield 39, 3) := by decide +kernel
theorem dX10_minutesAt_30 : decode cX10_minutesAt 30 = .ok (.iload 5, 2) := by decide +kernel
theorem dX10_minutesAt_32 : decode cX10_minutesAt 32 = .ok (.laload, 1) := by decide +kernel
theorem dX10_minutesAt_33 : decode cX10_minutesAt 33 = .ok (.ldc2_w 149, 3) := by decide +kernel
theorem dX10_minutesAt_36 : decode cX10_minutesAt 36 = .ok (.lload_n 2, 1) := by decide +kernel
theorem dX10_minutesAt_37 : decode cX10_minutesAt 37 = .ok (.lmul, 1) := by decide +kernel
theorem dX10_minutesAt_38 : decode cX10_minutesAt 38 = .ok (.lcmp, 1) := by decide +kernel
theorem dX10_minutesAt_39 : decode cX10_minutesAt 39 = .ok (.ifCond .gt 7, 3) := by decide +kernel
theorem dX10_minutesAt_42 : decode cX10_minutesAt 42 = .ok (.iconst 1, 1) := by decide +kernel
theorem dX10_minutesAt_43 : decode cX10_minutesAt 43 = .ok (.goto 4, 3) := by decide +kernel
theorem dX10_minutesAt_46 : decode cX10_minutesAt 46 = .ok (.iconst 0, 1) := by decide +kernel
theorem dX10_minutesAt_47 : decode cX10_minutesAt 47 = .ok (.istore 6, 2) := by decide +kernel
theorem dX10_minutesAt_49 : decode cX10_minutesAt 49 = .ok (.iload 4, 2) := by decide +kernel
theorem dX10_minutesAt_51 : decode cX10_minutesAt 51 = .ok (.ifCond .lt 23, 3) := by decide +kernel
theorem dX10_minutesAt_54 : decode cX10_minutesAt 54 = .ok (.aload_n 0, 1) := by decide +kernel
theorem dX10_minutesAt_55 : decode cX10_minutesAt 55 = .ok (.getfield 39, 3) := by decide +kernel
theorem dX10_minutesAt_58 : decode cX10_minutesAt 58 = .ok (.iload 4, 2) := by decide +kernel
theorem dX10_minutesAt_60 : decode cX10_minutesAt 60 = .ok (.laload, 1) := by decide +kernel
theorem dX10_minutesAt_61 : decode cX10_minutesAt 61 = .ok (.ldc2_w 149, 3) := by decide +kernel
theorem dX10_minutesAt_64 : decode cX10_minutesAt 64 = .ok (.lload_n 2, 1) := by decide +kernel
theorem dX10_minutesAt_65 : decode cX10_minutesAt 65 = .ok (.lmul, 1) := by decide +kernel
theorem dX10_minutesAt_66 : decode cX10_minutesAt 66 = .ok (.lcmp, 1) := by decide +kernel
theorem dX10_minutesAt_67 : decode cX10_minutesAt 67 = .ok (.ifCond .gt 7, 3) := by decide +kernel
theorem dX10_minutesAt_70 : decode cX10_minutesAt 70 = .ok (.iconst 1, 1) := by decide +kernel
theorem dX10_minutesAt_71 : decode cX10_minutesAt 71 = .ok (.goto 4, 3) := by decide +kernel
theorem dX10_minutesAt_74 : decode cX10_minutesAt 74 = .ok (.iconst 0, 1) := by decide +kernel
theorem dX10_minutesAt_75 : decode cX10_minutesAt 75 = .ok (.istore 7, 2) := by decide +kernel
theorem dX10_minutesAt_77 : decode cX10_minutesAt 77 = .ok (.iload 4, 2) := by decide +kernel
theorem dX10_minutesAt_79 : decode cX10_minutesAt 79 = .ok (.ifCond .lt 59, 3) := by decide +kernel
theorem dX10_minutesAt_82 : decode cX10_minutesAt 82 = .ok (.iload 6, 2) := by decide +kernel
theorem dX10_minutesAt_84 : decode cX10_minutesAt 84 = .ok (.ifCond .eq 26, 3) := by decide +kernel
theorem dX10_minutesAt_87 : decode cX10_minutesAt 87 = .ok (.iload 7, 2) := by decide +kernel
theorem dX10_minutesAt_89 : decode cX10_minutesAt 89 = .ok (.ifCond .eq 49, 3) := by decide +kernel
theorem dX10_minutesAt_92 : decode cX10_minutesAt 92 = .ok (.aload_n 0, 1) := by decide +kernel
theorem dX10_minutesAt_93 : decode cX10_minutesAt 93 = .ok (.getfield 39, 3) := by decide +kernel
theorem dX10_minutesAt_96 : decode cX10_minutesAt 96 = .ok (.iload 5, 2) := by decide +kernel
theorem dX10_minutesAt_98 : decode cX10_minutesAt 98 = .ok (.laload, 1) := by decide +kernel
theorem dX10_minutesAt_99 : decode cX10_minutesAt 99 = .ok (.aload_n 0, 1) := by decide +kernel
theorem dX10_minutesAt_100 : decode cX10_minutesAt 100 = .ok (.getfield 39, 3) := by decide +kernel
theorem dX10_minutesAt_103 : decode cX10_minutesAt 103 = .ok (.iload 4, 2) := by decide +kernel
theorem dX10_minutesAt_105 : decode cX10_minutesAt 105 = .ok (.laload, 1) := by decide +kernel
theorem dX10_minutesAt_106 : decode cX10_minutesAt 106 = .ok (.lcmp, 1) := by decide +kernel
theorem dX10_minutesAt_107 : decode cX10_minutesAt 107 = .ok (.ifCond .gt 31, 3) := by decide +kernel
theorem dX10_minutesAt_110 : decode cX10_minutesAt 110 = .ok (.iload 6, 2) := by decide +kernel
theorem dX10_minutesAt_112 : decode cX10_minutesAt 112 = .ok (.ifCond .ne 30, 3) := by decide +kernel
theorem dX10_minutesAt_115 : decode cX10_minutesAt 115 = .ok (.iload 7, 2) := by decide +kernel
theorem dX10_minutesAt_117 : decode cX10_minutesAt 117 = .ok (.ifCond .ne 25, 3) := by decide +kernel
theorem dX10_minutesAt_120 : decode cX10_minutesAt 120 = .ok (.aload_n 0, 1) := by decide +kernel
theorem dX10_minutesAt_121 : decode cX10_minutesAt 121 = .ok (.getfield 39, 3) := by decide +kernel
theorem dX10_minutesAt_124 : decode cX10_minutesAt 124 = .ok (.iload 5, 2) := by decide +kernel
theorem dX10_minutesAt_126 : decode cX10_minutesAt 126 = .ok (.laload, 1) := by decide +kernel
theorem dX10_minutesAt_127 : decode cX10_minutesAt 127 = .ok (.aload_n 0, 1) := by decide +kernel
theorem dX10_minutesAt_128 : decode cX10_minutesAt 128 = .ok (.getfield 39, 3) := by decide +kernel
theorem dX10_minutesAt_131 : decode cX10_minutesAt 131 = .ok (.iload 4, 2) := by decide +kernel
theorem dX10_minutesAt_133 : decode cX10_minutesAt 133 = .ok (.laload, 1) := by decide +kernel
theorem dX10_minutesAt_134 : decode cX10_minutesAt 134 = .ok (.lcmp, 1) := by decide +kernel
theorem dX10_minutesAt_135 : decode cX10_minutesAt 135 = .ok (.ifCond .ge 7, 3) := by decide +kernel
theorem dX10_minutesAt_138 : decode cX10_minutesAt 138 = .ok (.iconst 1, 1) := by decide +kernel
theorem dX10_minutesAt_139 : decode cX10_minutesAt 139 = .ok (.goto 4, 3) := by decide +kernel
theorem dX10_minutesAt_142 : decode cX10_minutesAt 142 = .ok (.iconst 0, 1) := by decide +kernel
theorem dX10_minutesAt_143 : decode cX10_minutesAt 143 = .ok (.istore 8, 2) := by decide +kernel
theorem dX10_minutesAt_145 : decode cX10_minutesAt 145 = .ok (.iload 8, 2) := by decide +kernel
theorem dX10_minutesAt_147 : decode cX10_minutesAt 147 = .ok (.ifCond .eq 8, 3) := by decide +kernel
theorem dX10_minutesAt_150 : decode cX10_minutesAt 150 = .ok (.iload 5, 2) := by decide +kernel
theorem dX10_minutesAt_152 : decode cX10_minutesAt 152 = .ok (.goto 5, 3) := by decide +kernel
theorem dX10_minutesAt_155 : decode cX10_minutesAt 155 = .ok (.iload 4, 2) := by decide +kernel
theorem dX10_minutesAt_157 : decode cX10_minutesAt 157 = .ok (.istore 4, 2) := by decide +kernel
theorem dX10_minutesAt_159 : decode cX10_minutesAt 159 = .ok (.iinc 5 1, 3) := by decide +kernel
theorem dX10_minutesAt_162 : decode cX10_minutesAt 162 = .ok (.goto (-156), 3) := by decide +kernel
theorem dX10_minutesAt_165 : decode cX10_minutesAt 165 = .ok (.iload 4, 2) := by decide +kernel
theorem dX10_minutesAt_167 : decode cX10_minutesAt 167 = .ok (.ifCond .ge 7, 3) := by decide +kernel
theorem dX10_minutesAt_170 : decode cX10_minutesAt 170 = .ok (.iconst 0, 1) := by decide +kernel
theorem dX10_minutesAt_171 : decode cX10_minutesAt 171 = .ok (.goto 10, 3) := by decide +kernel
theorem dX10_minutesAt_174 : decode cX10_minutesAt 174 = .ok (.aload_n 0, 1) := by decide +kernel
theorem dX10_minutesAt_175 : decode cX10_minutesAt 175 = .ok (.getfield 42, 3) := by decide +kernel
theorem dX10_minutesAt_178 : decode cX10_minutesAt 178 = .ok (.iload 4, 2) := by decide +kernel
theorem dX10_minutesAt_180 : decode cX10_minutesAt 180 = .ok (.iaload, 1) := by decide +kernel
theorem dX10_minutesAt_181 : decode cX10_minutesAt 181 = .ok (.ireturn, 1) := by decide +kernel
theorem dX10_lateAt_0 : decode cX10_lateAt 0 = .ok (.lconst 0, 1) := by decide +kernel
theorem dX10_lateAt_1 : decode cX10_lateAt 1 = .ok (.lstore 5, 2) := by decide +kernel
theorem dX10_lateAt_3 : decode cX10_lateAt 3 = .ok (.iconst 0, 1) := by decide +kernel
theorem dX10_lateAt_4 : decode cX10_lateAt 4 = .ok (.istore 7, 2) := by decide +kernel
theorem dX10_lateAt_6 : decode cX10_lateAt 6 = .ok (.iload 7, 2) := by decide +kernel
theorem dX10_lateAt_8 : decode cX10_lateAt 8 = .ok (.aload_n 0, 1) := by decide +kernel
theorem dX10_lateAt_9 : decode cX10_lateAt 9 = .ok (.getfield 144, 3) := by decide +kernel
theorem dX10_lateAt_12 : decode cX10_lateAt 12 = .ok (.if_icmp .ge 60, 3) := by decide +kernel
theorem dX10_lateAt_15 : decode cX10_lateAt 15 = .ok (.aload_n 0, 1) := by decide +kernel
theorem dX10_lateAt_16 : decode cX10_lateAt 16 = .ok (.getfield 45, 3) := by decide +kernel
theorem dX10_lateAt_19 : decode cX10_lateAt 19 = .ok (.iload 7, 2) := by decide +kernel
theorem dX10_lateAt_21 : decode cX10_lateAt 21 = .ok (.iaload, 1) := by decide +kernel
theorem dX10_lateAt_22 : decode cX10_lateAt 22 = .ok (.iload_n 1, 1) := by decide +kernel
theorem dX10_lateAt_23 : decode cX10_lateAt 23 = .ok (.if_icmp .ne 39, 3) := by decide +kernel
theorem dX10_lateAt_26 : decode cX10_lateAt 26 = .ok (.aload_n 0, 1) := by decide +kernel
theorem dX10_lateAt_27 : decode cX10_lateAt 27 = .ok (.getfield 54, 3) := by decide +kernel
end
section
theorem dX10_lateAt_30 : decode cX10_lateAt 30 = .ok (.iload 7, 2) := by decide +kernel
theorem dX10_lateAt_32 : decode cX10_lateAt 32 = .ok (.laload, 1) := by decide +kernel
theorem dX10_lateAt_33 : decode cX10_lateAt 33 = .ok (.lload_n 3, 1) := by decide +kernel
theorem dX10_lateAt_34 : decode cX10_lateAt 34 = .ok (.lcmp, 1) := by decide +kernel
theorem dX10_lateAt_35 : decode cX10_lateAt 35 = .ok (.ifCond .ne 27, 3) := by decide +kernel
theorem dX10_lateAt_38 : decode cX10_lateAt 38 = .ok (.aload_n 0, 1) := by decide +kernel
theorem dX10_lateAt_39 : decode cX10_lateAt 39 = .ok (.getfield 48, 3) := by decide +kernel
theorem dX10_lateAt_42 : decode cX10_lateAt 42 = .ok (.iload 7, 2) := by decide +kernel
theorem dX10_lateAt_44 : decode cX10_lateAt 44 = .ok (.iaload, 1) := by decide +kernel
theorem dX10_lateAt_45 : decode cX10_lateAt 45 = .ok (.iload_n 2, 1) := by decide +kernel
theorem dX10_lateAt_46 : decode cX10_lateAt 46 = .ok (.if_icmp .gt 16, 3) := by decide +kernel
theorem dX10_lateAt_49 : decode cX10_lateAt 49 = .ok (.lload 5, 2) := by decide +kernel
theorem dX10_lateAt_51 : decode cX10_lateAt 51 = .ok (.aload_n 0, 1) := by decide +kernel
theorem dX10_lateAt_52 : decode cX10_lateAt 52 = .ok (.getfield 51, 3) := by decide +kernel
theorem dX10_lateAt_55 : decode cX10_lateAt 55 = .ok (.iload 7, 2) := by decide +kernel
theorem dX10_lateAt_57 : decode cX10_lateAt 57 = .ok (.laload, 1) := by decide +kernel
theorem dX10_lateAt_58 : decode cX10_lateAt 58 = .ok (.ladd, 1) := by decide +kernel
theorem dX10_lateAt_59 : decode cX10_lateAt 59 = .ok (.goto 5, 3) := by decide +kernel
theorem dX10_lateAt_62 : decode cX10_lateAt 62 = .ok (.lload 5, 2) := by decide +kernel
theorem dX10_lateAt_64 : decode cX10_lateAt 64 = .ok (.lstore 5, 2) := by decide +kernel
theorem dX10_lateAt_66 : decode cX10_lateAt 66 = .ok (.iinc 7 1, 3) := by decide +kernel
theorem dX10_lateAt_69 : decode cX10_lateAt 69 = .ok (.goto (-63), 3) := by decide +kernel
theorem dX10_lateAt_72 : decode cX10_lateAt 72 = .ok (.lload 5, 2) := by decide +kernel
theorem dX10_lateAt_74 : decode cX10_lateAt 74 = .ok (.lreturn, 1) := by decide +kernel
theorem dX10_timeAt_0 : decode cX10_timeAt 0 = .ok (.bipush 12, 2) := by decide +kernel
theorem dX10_timeAt_2 : decode cX10_timeAt 2 = .ok (.iload_n 1, 1) := by decide +kernel
theorem dX10_timeAt_3 : decode cX10_timeAt 3 = .ok (.imul, 1) := by decide +kernel
theorem dX10_timeAt_4 : decode cX10_timeAt 4 = .ok (.iload 4, 2) := by decide +kernel
theorem dX10_timeAt_6 : decode cX10_timeAt 6 = .ok (.iadd, 1) := by decide +kernel
theorem dX10_timeAt_7 : decode cX10_timeAt 7 = .ok (.istore 6, 2) := by decide +kernel
theorem dX10_timeAt_9 : decode cX10_timeAt 9 = .ok (.ldc2_w 149, 3) := by decide +kernel
theorem dX10_timeAt_12 : decode cX10_timeAt 12 = .ok (.lload_n 2, 1) := by decide +kernel
theorem dX10_timeAt_13 : decode cX10_timeAt 13 = .ok (.lmul, 1) := by decide +kernel
theorem dX10_timeAt_14 : decode cX10_timeAt 14 = .ok (.iload 5, 2) := by decide +kernel
theorem dX10_timeAt_16 : decode cX10_timeAt 16 = .ok (.ifCond .eq 13, 3) := by decide +kernel
theorem dX10_timeAt_19 : decode cX10_timeAt 19 = .ok (.aload_n 0, 1) := by decide +kernel
theorem dX10_timeAt_20 : decode cX10_timeAt 20 = .ok (.getfield 23, 3) := by decide +kernel
theorem dX10_timeAt_23 : decode cX10_timeAt 23 = .ok (.iload 6, 2) := by decide +kernel
theorem dX10_timeAt_25 : decode cX10_timeAt 25 = .ok (.laload, 1) := by decide +kernel
theorem dX10_timeAt_26 : decode cX10_timeAt 26 = .ok (.goto 10, 3) := by decide +kernel
theorem dX10_timeAt_29 : decode cX10_timeAt 29 = .ok (.aload_n 0, 1) := by decide +kernel
theorem dX10_timeAt_30 : decode cX10_timeAt 30 = .ok (.getfield 19, 3) := by decide +kernel
theorem dX10_timeAt_33 : decode cX10_timeAt 33 = .ok (.iload 6, 2) := by decide +kernel
theorem dX10_timeAt_35 : decode cX10_timeAt 35 = .ok (.laload, 1) := by decide +kernel
theorem dX10_timeAt_36 : decode cX10_timeAt 36 = .ok (.ladd, 1) := by decide +kernel
theorem dX10_timeAt_37 : decode cX10_timeAt 37 = .ok (.ldc2_w 151, 3) := by decide +kernel
theorem dX10_timeAt_40 : decode cX10_timeAt 40 = .ok (.aload_n 0, 1) := by decide +kernel
theorem dX10_timeAt_41 : decode cX10_timeAt 41 = .ok (.aload_n 0, 1) := by decide +kernel
theorem dX10_timeAt_42 : decode cX10_timeAt 42 = .ok (.getfield 16, 3) := by decide +kernel
theorem dX10_timeAt_45 : decode cX10_timeAt 45 = .ok (.iload 6, 2) := by decide +kernel
theorem dX10_timeAt_47 : decode cX10_timeAt 47 = .ok (.iaload, 1) := by decide +kernel
theorem dX10_timeAt_48 : decode cX10_timeAt 48 = .ok (.lload_n 2, 1) := by decide +kernel
theorem dX10_timeAt_49 : decode cX10_timeAt 49 = .ok (.invokevirtual 153, 3) := by decide +kernel
theorem dX10_timeAt_52 : decode cX10_timeAt 52 = .ok (.i2l, 1) := by decide +kernel
theorem dX10_timeAt_53 : decode cX10_timeAt 53 = .ok (.lmul, 1) := by decide +kernel
theorem dX10_timeAt_54 : decode cX10_timeAt 54 = .ok (.lsub, 1) := by decide +kernel
theorem dX10_timeAt_55 : decode cX10_timeAt 55 = .ok (.aload_n 0, 1) := by decide +kernel
theorem dX10_timeAt_56 : decode cX10_timeAt 56 = .ok (.iload_n 1, 1) := by decide +kernel
theorem dX10_timeAt_57 : decode cX10_timeAt 57 = .ok (.iload 4, 2) := by decide +kernel
theorem dX10_timeAt_59 : decode cX10_timeAt 59 = .ok (.lload_n 2, 1) := by decide +kernel
theorem dX10_timeAt_60 : decode cX10_timeAt 60 = .ok (.invokevirtual 157, 3) := by decide +kernel
theorem dX10_timeAt_63 : decode cX10_timeAt 63 = .ok (.ladd, 1) := by decide +kernel
theorem dX10_timeAt_64 : decode cX10_timeAt 64 = .ok (.lreturn, 1) := by decide +kernel
theorem dX10_take_0 : decode cX10_take 0 = .ok (.aload_n 0, 1) := by decide +kernel
theorem dX10_take_1 : decode cX10_take 1 = .ok (.iload_n 1, 1) := by decide +kernel
theorem dX10_take_2 : decode cX10_take 2 = .ok (.lload_n 2, 1) := by decide +kernel
theorem dX10_take_3 : decode cX10_take 3 = .ok (.invokevirtual 161, 3) := by decide +kernel
theorem dX10_take_6 : decode cX10_take 6 = .ok (.ifCond .ne 5, 3) := by decide +kernel
theorem dX10_take_9 : decode cX10_take 9 = .ok (.iconst 0, 1) := by decide +kernel
theorem dX10_take_10 : decode cX10_take 10 = .ok (.ireturn, 1) := by decide +kernel
theorem dX10_take_11 : decode cX10_take 11 = .ok (.iconst 0, 1) := by decide +kernel
theorem dX10_take_12 : decode cX10_take 12 = .ok (.istore 4, 2) := by decide +kernel
theorem dX10_take_14 : decode cX10_take 14 = .ok (.iload 4, 2) := by decide +kernel
theorem dX10_take_16 : decode cX10_take 16 = .ok (.aload_n 0, 1) := by decide +kernel
theorem dX10_take_17 : decode cX10_take 17 = .ok (.getfield 13, 3) := by decide +kernel
theorem dX10_take_20 : decode cX10_take 20 = .ok (.iload_n 1, 1) := by decide +kernel
theorem dX10_take_21 : decode cX10_take 21 = .ok (.iaload, 1) := by decide +kernel
theorem dX10_take_22 : decode cX10_take 22 = .ok (.if_icmp .ge 41, 3) := by decide +kernel
theorem dX10_take_25 : decode cX10_take 25 = .ok (.aload_n 0, 1) := by decide +kernel
theorem dX10_take_26 : decode cX10_take 26 = .ok (.getfield 78, 3) := by decide +kernel
theorem dX10_take_29 : decode cX10_take 29 = .ok (.iload 4, 2) := by decide +kernel
theorem dX10_take_31 : decode cX10_take 31 = .ok (.aload_n 0, 1) := by decide +kernel
theorem dX10_take_32 : decode cX10_take 32 = .ok (.iload_n 1, 1) := by decide +kernel
theorem dX10_take_33 : decode cX10_take 33 = .ok (.lload_n 2, 1) := by decide +kernel
theorem dX10_take_34 : decode cX10_take 34 = .ok (.iload 4, 2) := by decide +kernel
theorem dX10_take_36 : decode cX10_take 36 = .ok (.iconst 0, 1) := by decide +kernel
theorem dX10_take_37 : decode cX10_take 37 = .ok (.invokevirtual 165, 3) := by decide +kernel
theorem dX10_take_40 : decode cX10_take 40 = .ok (.lastore, 1) := by decide +kernel
theorem dX10_take_41 : decode cX10_take 41 = .ok (.aload_n 0, 1) := by decide +kernel
theorem dX10_take_42 : decode cX10_take 42 = .ok (.getfield 81, 3) := by decide +kernel
theorem dX10_take_45 : decode cX10_take 45 = .ok (.iload 4, 2) := by decide +kernel
theorem dX10_take_47 : decode cX10_take 47 = .ok (.aload_n 0, 1) := by decide +kernel
theorem dX10_take_48 : decode cX10_take 48 = .ok (.iload_n 1, 1) := by decide +kernel
theorem dX10_take_49 : decode cX10_take 49 = .ok (.lload_n 2, 1) := by decide +kernel
theorem dX10_take_50 : decode cX10_take 50 = .ok (.iload 4, 2) := by decide +kernel
theorem dX10_take_52 : decode cX10_take 52 = .ok (.iconst 1, 1) := by decide +kernel
theorem dX10_take_53 : decode cX10_take 53 = .ok (.invokevirtual 165, 3) := by decide +kernel
theorem dX10_take_56 : decode cX10_take 56 = .ok (.lastore, 1) := by decide +kernel
theorem dX10_take_57 : decode cX10_take 57 = .ok (.iinc 4 1, 3) := by decide +kernel
theorem dX10_take_60 : decode cX10_take 60 = .ok (.goto (-46), 3) := by decide +kernel
theorem dX10_take_63 : decode cX10_take 63 = .ok (.iconst 1, 1) := by decide +kernel
theorem dX10_take_64 : decode cX10_take 64 = .ok (.ireturn, 1) := by decide +kernel
theorem dX10_isLeg_0 : decode cX10_isLeg 0 = .ok (.aload_n 0, 1) := by decide +kernel
theorem dX10_isLeg_1 : decode cX10_isLeg 1 = .ok (.getfield 78, 3) := by decide +kernel
theorem dX10_isLeg_4 : decode cX10_isLeg 4 = .ok (.iload_n 2, 1) := by decide +kernel
theorem dX10_isLeg_5 : decode cX10_isLeg 5 = .ok (.laload, 1) := by decide +kernel
theorem dX10_isLeg_6 : decode cX10_isLeg 6 = .ok (.aload_n 0, 1) := by decide +kernel
theorem dX10_isLeg_7 : decode cX10_isLeg 7 = .ok (.getfield 81, 3) := by decide +kernel
theorem dX10_isLeg_10 : decode cX10_isLeg 10 = .ok (.iload_n 1, 1) := by decide +kernel
theorem dX10_isLeg_11 : decode cX10_isLeg 11 = .ok (.laload, 1) := by decide +kernel
theorem dX10_isLeg_12 : decode cX10_isLeg 12 = .ok (.lcmp, 1) := by decide +kernel
theorem dX10_isLeg_13 : decode cX10_isLeg 13 = .ok (.ifCond .lt 7, 3) := by decide +kernel
theorem dX10_isLeg_16 : decode cX10_isLeg 16 = .ok (.iconst 1, 1) := by decide +kernel
theorem dX10_isLeg_17 : decode cX10_isLeg 17 = .ok (.goto 4, 3) := by decide +kernel
theorem dX10_isLeg_20 : decode cX10_isLeg 20 = .ok (.iconst 0, 1) := by decide +kernel
theorem dX10_isLeg_21 : decode cX10_isLeg 21 = .ok (.ireturn, 1) := by decide +kernel
theorem dX10_ready_0 : decode cX10_ready 0 = .ok (.iload_n 2, 1) := by decide +kernel
theorem dX10_ready_1 : decode cX10_ready 1 = .ok (.iload_n 3, 1) := by decide +kernel
theorem dX10_ready_2 : decode cX10_ready 2 = .ok (.if_icmp .ne 6, 3) := by decide +kernel
theorem dX10_ready_5 : decode cX10_ready 5 = .ok (.lload 4, 2) := by decide +kernel
theorem dX10_ready_7 : decode cX10_ready 7 = .ok (.lreturn, 1) := by decide +kernel
theorem dX10_ready_8 : decode cX10_ready 8 = .ok (.aload_n 0, 1) := by decide +kernel
theorem dX10_ready_9 : decode cX10_ready 9 = .ok (.getfield 60, 3) := by decide +kernel
theorem dX10_ready_12 : decode cX10_ready 12 = .ok (.bipush 100, 2) := by decide +kernel
theorem dX10_ready_14 : decode cX10_ready 14 = .ok (.iload_n 1, 1) := by decide +kernel
theorem dX10_ready_15 : decode cX10_ready 15 = .ok (.imul, 1) := by decide +kernel
theorem dX10_ready_16 : decode cX10_ready 16 = .ok (.iload_n 2, 1) := by decide +kernel
theorem dX10_ready_17 : decode cX10_ready 17 = .ok (.iadd, 1) := by decide +kernel
theorem dX10_ready_18 : decode cX10_ready 18 = .ok (.laload, 1) := by decide +kernel
theorem dX10_ready_19 : decode cX10_ready 19 = .ok (.lstore 6, 2) := by decide +kernel
theorem dX10_ready_21 : decode cX10_ready 21 = .ok (.lload 6, 2) := by decide +kernel
theorem dX10_ready_23 : decode cX10_ready 23 = .ok (.ldc2_w 169, 3) := by decide +kernel
theorem dX10_ready_26 : decode cX10_ready 26 = .ok (.lcmp, 1) := by decide +kernel
theorem dX10_ready_27 : decode cX10_ready 27 = .ok (.ifCond .ne 9, 3) := by decide +kernel
theorem dX10_ready_30 : decode cX10_ready 30 = .ok (.ldc2_w 169, 3) := by decide +kernel
theorem dX10_ready_33 : decode cX10_ready 33 = .ok (.goto 13, 3) := by decide +kernel
theorem dX10_ready_36 : decode cX10_ready 36 = .ok (.lload 6, 2) := by decide +kernel
theorem dX10_ready_38 : decode cX10_ready 38 = .ok (.aload_n 0, 1) := by decide +kernel
theorem dX10_ready_39 : decode cX10_ready 39 = .ok (.getfield 57, 3) := by decide +kernel
theorem dX10_ready_42 : decode cX10_ready 42 = .ok (.iload_n 2, 1) := by decide +kernel
theorem dX10_ready_43 : decode cX10_ready 43 = .ok (.iaload, 1) := by decide +kernel
theorem dX10_ready_44 : decode cX10_ready 44 = .ok (.i2l, 1) := by decide +kernel
theorem dX10_ready_45 : decode cX10_ready 45 = .ok (.ladd, 1) := by decide +kernel
theorem dX10_ready_46 : decode cX10_ready 46 = .ok (.lreturn, 1) := by decide +kernel
theorem dX10_round_0 : decode cX10_round 0 = .ok (.iconst 0, 1) := by decide +kernel
theorem dX10_round_1 : decode cX10_round 1 = .ok (.istore 5, 2) := by decide +kernel
theorem dX10_round_3 : decode cX10_round 3 = .ok (.iload 5, 2) := by decide +kernel
theorem dX10_round_5 : decode cX10_round 5 = .ok (.bipush 100, 2) := by decide +kernel
theorem dX10_round_7 : decode cX10_round 7 = .ok (.if_icmp .ge 35, 3) := by decide +kernel
theorem dX10_round_10 : decode cX10_round 10 = .ok (.aload_n 0, 1) := by decide +kernel
theorem dX10_round_11 : decode cX10_round 11 = .ok (.getfield 60, 3) := by decide +kernel
theorem dX10_round_14 : decode cX10_round 14 = .ok (.bipush 100, 2) := by decide +kernel
theorem dX10_round_16 : decode cX10_round 16 = .ok (.iload_n 1, 1) := by decide +kernel
theorem dX10_round_17 : decode cX10_round 17 = .ok (.imul, 1) := by decide +kernel
theorem dX10_round_18 : decode cX10_round 18 = .ok (.iload 5, 2) := by decide +kernel
theorem dX10_round_20 : decode cX10_round 20 = .ok (.iadd, 1) := by decide +kernel
theorem dX10_round_21 : decode cX10_round 21 = .ok (.aload_n 0, 1) := by decide +kernel
theorem dX10_round_22 : decode cX10_round 22 = .ok (.getfield 60, 3) := by decide +kernel
theorem dX10_round_25 : decode cX10_round 25 = .ok (.bipush 100, 2) := by decide +kernel
theorem dX10_round_27 : decode cX10_round 27 = .ok (.iload_n 1, 1) := by decide +kernel
theorem dX10_round_28 : decode cX10_round 28 = .ok (.iconst 1, 1) := by decide +kernel
theorem dX10_round_29 : decode cX10_round 29 = .ok (.isub, 1) := by decide +kernel
theorem dX10_round_30 : decode cX10_round 30 = .ok (.imul, 1) := by decide +kernel
theorem dX10_round_31 : decode cX10_round 31 = .ok (.iload 5, 2) := by decide +kernel
theorem dX10_round_33 : decode cX10_round 33 = .ok (.iadd, 1) := by decide +kernel
theorem dX10_round_34 : decode cX10_round 34 = .ok (.laload, 1) := by decide +kernel
theorem dX10_round_35 : decode cX10_round 35 = .ok (.lastore, 1) := by decide +kernel
theorem dX10_round_36 : decode cX10_round 36 = .ok (.iinc 5 1, 3) := by decide +kernel
theorem dX10_round_39 : decode cX10_round 39 = .ok (.goto (-36), 3) := by decide +kernel
theorem dX10_round_42 : decode cX10_round 42 = .ok (.iconst 0, 1) := by decide +kernel
theorem dX10_round_43 : decode cX10_round 43 = .ok (.istore 5, 2) := by decide +kernel
theorem dX10_round_45 : decode cX10_round 45 = .ok (.iload 5, 2) := by decide +kernel
theorem dX10_round_47 : decode cX10_round 47 = .ok (.aload_n 0, 1) := by decide +kernel
theorem dX10_round_48 : decode cX10_round 48 = .ok (.getfield 96, 3) := by decide +kernel
theorem dX10_round_51 : decode cX10_round 51 = .ok (.if_icmp .ge 222, 3) := by decide +kernel
theorem dX10_round_54 : decode cX10_round 54 = .ok (.lload_n 3, 1) := by decide +kernel
theorem dX10_round_55 : decode cX10_round 55 = .ok (.ldc2_w 149, 3) := by decide +kernel
theorem dX10_round_58 : decode cX10_round 58 = .ok (.ldiv, 1) := by decide +kernel
theorem dX10_round_59 : decode cX10_round 59 = .ok (.ldc2_w 171, 3) := by decide +kernel
theorem dX10_round_62 : decode cX10_round 62 = .ok (.lsub, 1) := by decide +kernel
theorem dX10_round_63 : decode cX10_round 63 = .ok (.lstore 6, 2) := by decide +kernel
theorem dX10_round_65 : decode cX10_round 65 = .ok (.lload 6, 2) := by decide +kernel
theorem dX10_round_67 : decode cX10_round 67 = .ok (.lload_n 3, 1) := by decide +kernel
theorem dX10_round_68 : decode cX10_round 68 = .ok (.ldc2_w 149, 3) := by decide +kernel
theorem dX10_round_71 : decode cX10_round 71 = .ok (.ldiv, 1) := by decide +kernel
theorem dX10_round_72 : decode cX10_round 72 = .ok (.ldc2_w 173, 3) := by decide +kernel
theorem dX10_round_75 : decode cX10_round 75 = .ok (.ladd, 1) := by decide +kernel
theorem dX10_round_76 : decode cX10_round 76 = .ok (.lcmp, 1) := by decide +kernel
theorem dX10_round_77 : decode cX10_round 77 = .ok (.ifCond .gt 190, 3) := by decide +kernel
theorem dX10_round_80 : decode cX10_round 80 = .ok (.aload_n 0, 1) := by decide +kernel
theorem dX10_round_81 : decode cX10_round 81 = .ok (.iload 5, 2) := by decide +kernel
theorem dX10_round_83 : decode cX10_round 83 = .ok (.lload 6, 2) := by decide +kernel
theorem dX10_round_85 : decode cX10_round 85 = .ok (.invokevirtual 175, 3) := by decide +kernel
theorem dX10_round_88 : decode cX10_round 88 = .ok (.istore 8, 2) := by decide +kernel
theorem dX10_round_90 : decode cX10_round 90 = .ok (.iconst 0, 1) := by decide +kernel
theorem dX10_round_91 : decode cX10_round 91 = .ok (.istore 9, 2) := by decide +kernel
theorem dX10_round_93 : decode cX10_round 93 = .ok (.iload 9, 2) := by decide +kernel
theorem dX10_round_95 : decode cX10_round 95 = .ok (.aload_n 0, 1) := by decide +kernel
theorem dX10_round_96 : decode cX10_round 96 = .ok (.getfield 13, 3) := by decide +kernel
theorem dX10_round_99 : decode cX10_round 99 = .ok (.iload 5, 2) := by decide +kernel
theorem dX10_round_101 : decode cX10_round 101 = .ok (.iaload, 1) := by decide +kernel
theorem dX10_round_102 : decode cX10_round 102 = .ok (.if_icmp .ge 156, 3) := by decide +kernel
theorem dX10_round_105 : decode cX10_round 105 = .ok (.iload 8, 2) := by decide +kernel
theorem dX10_round_107 : decode cX10_round 107 = .ok (.ifCond .eq 151, 3) := by decide +kernel
theorem dX10_round_110 : decode cX10_round 110 = .ok (.aload_n 0, 1) := by decide +kernel
theorem dX10_round_111 : decode cX10_round 111 = .ok (.getfield 81, 3) := by decide +kernel
theorem dX10_round_114 : decode cX10_round 114 = .ok (.iload 9, 2) := by decide +kernel
theorem dX10_round_116 : decode cX10_round 116 = .ok (.laload, 1) := by decide +kernel
theorem dX10_round_117 : decode cX10_round 117 = .ok (.aload_n 0, 1) := by decide +kernel
theorem dX10_round_118 : decode cX10_round 118 = .ok (.iload_n 1, 1) := by decide +kernel
theorem dX10_round_119 : decode cX10_round 119 = .ok (.iconst 1, 1) := by decide +kernel
theorem dX10_round_120 : decode cX10_round 120 = .ok (.isub, 1) := by decide +kernel
theorem dX10_round_121 : decode cX10_round 121 = .ok (.aload_n 0, 1) := by decide +kernel
theorem dX10_round_122 : decode cX10_round 122 = .ok (.getfield 16, 3) := by decide +kernel
theorem dX10_round_125 : decode cX10_round 125 = .ok (.bipush 12, 2) := by decide +kernel
theorem dX10_round_127 : decode cX10_round 127 = .ok (.iload 5, 2) := by decide +kernel
theorem dX10_round_129 : decode cX10_round 129 = .ok (.imul, 1) := by decide +kernel
theorem dX10_round_130 : decode cX10_round 130 = .ok (.iload 9, 2) := by decide +kernel
theorem dX10_round_132 : decode cX10_round 132 = .ok (.iadd, 1) := by decide +kernel
theorem dX10_round_133 : decode cX10_round 133 = .ok (.iaload, 1) := by decide +kernel
theorem dX10_round_134 : decode cX10_round 134 = .ok (.iload_n 2, 1) := by decide +kernel
theorem dX10_round_135 : decode cX10_round 135 = .ok (.lload_n 3, 1) := by decide +kernel
theorem dX10_round_136 : decode cX10_round 136 = .ok (.invokevirtual 178, 3) := by decide +kernel
theorem dX10_round_139 : decode cX10_round 139 = .ok (.lcmp, 1) := by decide +kernel
theorem dX10_round_140 : decode cX10_round 140 = .ok (.ifCond .lt 7, 3) := by decide +kernel
theorem dX10_round_143 : decode cX10_round 143 = .ok (.iconst 1, 1) := by decide +kernel
theorem dX10_round_144 : decode cX10_round 144 = .ok (.goto 4, 3) := by decide +kernel
theorem dX10_round_147 : decode cX10_round 147 = .ok (.iconst 0, 1) := by decide +kernel
theorem dX10_round_148 : decode cX10_round 148 = .ok (.istore 10, 2) := by decide +kernel
theorem dX10_round_150 : decode cX10_round 150 = .ok (.iload 9, 2) := by decide +kernel
theorem dX10_round_152 : decode cX10_round 152 = .ok (.iconst 1, 1) := by decide +kernel
theorem dX10_round_153 : decode cX10_round 153 = .ok (.iadd, 1) := by decide +kernel
theorem dX10_round_154 : decode cX10_round 154 = .ok (.istore 11, 2) := by decide +kernel
theorem dX10_round_156 : decode cX10_round 156 = .ok (.iload 11, 2) := by decide +kernel
theorem dX10_round_158 : decode cX10_round 158 = .ok (.aload_n 0, 1) := by decide +kernel
theorem dX10_round_159 : decode cX10_round 159 = .ok (.getfield 13, 3) := by decide +kernel
theorem dX10_round_162 : decode cX10_round 162 = .ok (.iload 5, 2) := by decide +kernel
theorem dX10_round_164 : decode cX10_round 164 = .ok (.iaload, 1) := by decide +kernel
theorem dX10_round_165 : decode cX10_round 165 = .ok (.if_icmp .ge 87, 3) := by decide +kernel
theorem dX10_round_168 : decode cX10_round 168 = .ok (.iload 10, 2) := by decide +kernel
theorem dX10_round_170 : decode cX10_round 170 = .ok (.ifCond .eq 82, 3) := by decide +kernel
theorem dX10_round_173 : decode cX10_round 173 = .ok (.bipush 100, 2) := by decide +kernel
theorem dX10_round_175 : decode cX10_round 175 = .ok (.iload_n 1, 1) := by decide +kernel
theorem dX10_round_176 : decode cX10_round 176 = .ok (.imul, 1) := by decide +kernel
theorem dX10_round_177 : decode cX10_round 177 = .ok (.aload_n 0, 1) := by decide +kernel
theorem dX10_round_178 : decode cX10_round 178 = .ok (.getfield 16, 3) := by decide +kernel
theorem dX10_round_181 : decode cX10_round 181 = .ok (.bipush 12, 2) := by decide +kernel
theorem dX10_round_183 : decode cX10_round 183 = .ok (.iload 5, 2) := by decide +kernel
theorem dX10_round_185 : decode cX10_round 185 = .ok (.imul, 1) := by decide +kernel
theorem dX10_round_186 : decode cX10_round 186 = .ok (.iload 11, 2) := by decide +kernel
theorem dX10_round_188 : decode cX10_round 188 = .ok (.iadd, 1) := by decide +kernel
theorem dX10_round_189 : decode cX10_round 189 = .ok (.iaload, 1) := by decide +kernel
theorem dX10_round_190 : decode cX10_round 190 = .ok (.iadd, 1) := by decide +kernel
theorem dX10_round_191 : decode cX10_round 191 = .ok (.istore 12, 2) := by decide +kernel
theorem dX10_round_193 : decode cX10_round 193 = .ok (.aload_n 0, 1) := by decide +kernel
theorem dX10_round_194 : decode cX10_round 194 = .ok (.getfield 60, 3) := by decide +kernel
theorem dX10_round_197 : decode cX10_round 197 = .ok (.iload 12, 2) := by decide +kernel
theorem dX10_round_199 : decode cX10_round 199 = .ok (.aload_n 0, 1) := by decide +kernel
theorem dX10_round_200 : decode cX10_round 200 = .ok (.iload 9, 2) := by decide +kernel
theorem dX10_round_202 : decode cX10_round 202 = .ok (.iload 11, 2) := by decide +kernel
theorem dX10_round_204 : decode cX10_round 204 = .ok (.invokevirtual 182, 3) := by decide +kernel
theorem dX10_round_207 : decode cX10_round 207 = .ok (.ifCond .eq 31, 3) := by decide +kernel
theorem dX10_round_210 : decode cX10_round 210 = .ok (.aload_n 0, 1) := by decide +kernel
theorem dX10_round_211 : decode cX10_round 211 = .ok (.getfield 78, 3) := by decide +kernel
theorem dX10_round_214 : decode cX10_round 214 = .ok (.iload 11, 2) := by decide +kernel
theorem dX10_round_216 : decode cX10_round 216 = .ok (.laload, 1) := by decide +kernel
theorem dX10_round_217 : decode cX10_round 217 = .ok (.aload_n 0, 1) := by decide +kernel
theorem dX10_round_218 : decode cX10_round 218 = .ok (.getfield 60, 3) := by decide +kernel
theorem dX10_round_221 : decode cX10_round 221 = .ok (.iload 12, 2) := by decide +kernel
theorem dX10_round_223 : decode cX10_round 223 = .ok (.laload, 1) := by decide +kernel
theorem dX10_round_224 : decode cX10_round 224 = .ok (.lcmp, 1) := by decide +kernel
theorem dX10_round_225 : decode cX10_round 225 = .ok (.ifCond .ge 13, 3) := by decide +kernel
theorem dX10_round_228 : decode cX10_round 228 = .ok (.aload_n 0, 1) := by decide +kernel
theorem dX10_round_229 : decode cX10_round 229 = .ok (.getfield 78, 3) := by decide +kernel
theorem dX10_round_232 : decode cX10_round 232 = .ok (.iload 11, 2) := by decide +kernel
theorem dX10_round_234 : decode cX10_round 234 = .ok (.laload, 1) := by decide +kernel
theorem dX10_round_235 : decode cX10_round 235 = .ok (.goto 10, 3) := by decide +kernel
theorem dX10_round_238 : decode cX10_round 238 = .ok (.aload_n 0, 1) := by decide +kernel
theorem dX10_round_239 : decode cX10_round 239 = .ok (.getfield 60, 3) := by decide +kernel
theorem dX10_round_242 : decode cX10_round 242 = .ok (.iload 12, 2) := by decide +kernel
theorem dX10_round_244 : decode cX10_round 244 = .ok (.laload, 1) := by decide +kernel
theorem dX10_round_245 : decode cX10_round 245 = .ok (.lastore, 1) := by decide +kernel
theorem dX10_round_246 : decode cX10_round 246 = .ok (.iinc 11 1, 3) := by decide +kernel
theorem dX10_round_249 : decode cX10_round 249 = .ok (.goto (-93), 3) := by decide +kernel
theorem dX10_round_252 : decode cX10_round 252 = .ok (.iinc 9 1, 3) := by decide +kernel
theorem dX10_round_255 : decode cX10_round 255 = .ok (.goto (-162), 3) := by decide +kernel
theorem dX10_round_258 : decode cX10_round 258 = .ok (.lload 6, 2) := by decide +kernel
theorem dX10_round_260 : decode cX10_round 260 = .ok (.lconst 1, 1) := by decide +kernel
theorem dX10_round_261 : decode cX10_round 261 = .ok (.ladd, 1) := by decide +kernel
theorem dX10_round_262 : decode cX10_round 262 = .ok (.lstore 6, 2) := by decide +kernel
theorem dX10_round_264 : decode cX10_round 264 = .ok (.goto (-199), 3) := by decide +kernel
theorem dX10_round_267 : decode cX10_round 267 = .ok (.iinc 5 1, 3) := by decide +kernel
theorem dX10_round_270 : decode cX10_round 270 = .ok (.goto (-225), 3) := by decide +kernel
theorem dX10_round_273 : decode cX10_round 273 = .ok (.return_, 1) := by decide +kernel
theorem dX10_choose_0 : decode cX10_choose 0 = .ok (.iconst 0, 1) := by decide +kernel
theorem dX10_choose_1 : decode cX10_choose 1 = .ok (.istore 6, 2) := by decide +kernel
theorem dX10_choose_3 : decode cX10_choose 3 = .ok (.iload 6, 2) := by decide +kernel
theorem dX10_choose_5 : decode cX10_choose 5 = .ok (.aload_n 0, 1) := by decide +kernel
theorem dX10_choose_6 : decode cX10_choose 6 = .ok (.getfield 96, 3) := by decide +kernel
theorem dX10_choose_9 : decode cX10_choose 9 = .ok (.if_icmp .ge 235, 3) := by decide +kernel
theorem dX10_choose_12 : decode cX10_choose 12 = .ok (.lload 4, 2) := by decide +kernel
theorem dX10_choose_14 : decode cX10_choose 14 = .ok (.ldc2_w 149, 3) := by decide +kernel
theorem dX10_choose_17 : decode cX10_choose 17 = .ok (.ldiv, 1) := by decide +kernel
theorem dX10_choose_18 : decode cX10_choose 18 = .ok (.ldc2_w 171, 3) := by decide +kernel
theorem dX10_choose_21 : decode cX10_choose 21 = .ok (.lsub, 1) := by decide +kernel
theorem dX10_choose_22 : decode cX10_choose 22 = .ok (.lstore 7, 2) := by decide +kernel
theorem dX10_choose_24 : decode cX10_choose 24 = .ok (.lload 7, 2) := by decide +kernel
theorem dX10_choose_26 : decode cX10_choose 26 = .ok (.lload 4, 2) := by decide +kernel
theorem dX10_choose_28 : decode cX10_choose 28 = .ok (.ldc2_w 149, 3) := by decide +kernel
theorem dX10_choose_31 : decode cX10_choose 31 = .ok (.ldiv, 1) := by decide +kernel
theorem dX10_choose_32 : decode cX10_choose 32 = .ok (.ldc2_w 173, 3) := by decide +kernel
theorem dX10_choose_35 : decode cX10_choose 35 = .ok (.ladd, 1) := by decide +kernel
theorem dX10_choose_36 : decode cX10_choose 36 = .ok (.lcmp, 1) := by decide +kernel
theorem dX10_choose_37 : decode cX10_choose 37 = .ok (.ifCond .gt 201, 3) := by decide +kernel
theorem dX10_choose_40 : decode cX10_choose 40 = .ok (.aload_n 0, 1) := by decide +kernel
theorem dX10_choose_41 : decode cX10_choose 41 = .ok (.iload 6, 2) := by decide +kernel
theorem dX10_choose_43 : decode cX10_choose 43 = .ok (.lload 7, 2) := by decide +kernel
theorem dX10_choose_45 : decode cX10_choose 45 = .ok (.invokevirtual 175, 3) := by decide +kernel
theorem dX10_choose_48 : decode cX10_choose 48 = .ok (.istore 9, 2) := by decide +kernel
theorem dX10_choose_50 : decode cX10_choose 50 = .ok (.iconst 1, 1) := by decide +kernel
theorem dX10_choose_51 : decode cX10_choose 51 = .ok (.istore 10, 2) := by decide +kernel
theorem dX10_choose_53 : decode cX10_choose 53 = .ok (.iload 10, 2) := by decide +kernel
theorem dX10_choose_55 : decode cX10_choose 55 = .ok (.aload_n 0, 1) := by decide +kernel
theorem dX10_choose_56 : decode cX10_choose 56 = .ok (.getfield 13, 3) := by decide +kernel
theorem dX10_choose_59 : decode cX10_choose 59 = .ok (.iload 6, 2) := by decide +kernel
theorem dX10_choose_61 : decode cX10_choose 61 = .ok (.iaload, 1) := by decide +kernel
theorem dX10_choose_62 : decode cX10_choose 62 = .ok (.if_icmp .ge 167, 3) := by decide +kernel
theorem dX10_choose_65 : decode cX10_choose 65 = .ok (.iload 9, 2) := by decide +kernel
theorem dX10_choose_67 : decode cX10_choose 67 = .ok (.ifCond .eq 162, 3) := by decide +kernel
theorem dX10_choose_70 : decode cX10_choose 70 = .ok (.aload_n 0, 1) := by decide +kernel
theorem dX10_choose_71 : decode cX10_choose 71 = .ok (.getfield 16, 3) := by decide +kernel
theorem dX10_choose_74 : decode cX10_choose 74 = .ok (.bipush 12, 2) := by decide +kernel
theorem dX10_choose_76 : decode cX10_choose 76 = .ok (.iload 6, 2) := by decide +kernel
theorem dX10_choose_78 : decode cX10_choose 78 = .ok (.imul, 1) := by decide +kernel
theorem dX10_choose_79 : decode cX10_choose 79 = .ok (.iload 10, 2) := by decide +kernel
theorem dX10_choose_81 : decode cX10_choose 81 = .ok (.iadd, 1) := by decide +kernel
theorem dX10_choose_82 : decode cX10_choose 82 = .ok (.iaload, 1) := by decide +kernel
theorem dX10_choose_83 : decode cX10_choose 83 = .ok (.iload_n 2, 1) := by decide +kernel
theorem dX10_choose_84 : decode cX10_choose 84 = .ok (.if_icmp .ne 29, 3) := by decide +kernel
theorem dX10_choose_87 : decode cX10_choose 87 = .ok (.aload_n 0, 1) := by decide +kernel
theorem dX10_choose_88 : decode cX10_choose 88 = .ok (.getfield 78, 3) := by decide +kernel
theorem dX10_choose_91 : decode cX10_choose 91 = .ok (.iload 10, 2) := by decide +kernel
theorem dX10_choose_93 : decode cX10_choose 93 = .ok (.laload, 1) := by decide +kernel
theorem dX10_choose_94 : decode cX10_choose 94 = .ok (.aload_n 0, 1) := by decide +kernel
theorem dX10_choose_95 : decode cX10_choose 95 = .ok (.getfield 60, 3) := by decide +kernel
theorem dX10_choose_98 : decode cX10_choose 98 = .ok (.bipush 100, 2) := by decide +kernel
theorem dX10_choose_100 : decode cX10_choose 100 = .ok (.iload_n 1, 1) := by decide +kernel
theorem dX10_choose_101 : decode cX10_choose 101 = .ok (.imul, 1) := by decide +kernel
theorem dX10_choose_102 : decode cX10_choose 102 = .ok (.iload_n 2, 1) := by decide +kernel
theorem dX10_choose_103 : decode cX10_choose 103 = .ok (.iadd, 1) := by decide +kernel
theorem dX10_choose_104 : decode cX10_choose 104 = .ok (.laload, 1) := by decide +kernel
theorem dX10_choose_105 : decode cX10_choose 105 = .ok (.lcmp, 1) := by decide +kernel
theorem dX10_choose_106 : decode cX10_choose 106 = .ok (.ifCond .ne 7, 3) := by decide +kernel
theorem dX10_choose_109 : decode cX10_choose 109 = .ok (.iconst 1, 1) := by decide +kernel
theorem dX10_choose_110 : decode cX10_choose 110 = .ok (.goto 4, 3) := by decide +kernel
theorem dX10_choose_113 : decode cX10_choose 113 = .ok (.iconst 0, 1) := by decide +kernel
theorem dX10_choose_114 : decode cX10_choose 114 = .ok (.istore 11, 2) := by decide +kernel
theorem dX10_choose_116 : decode cX10_choose 116 = .ok (.iconst 0, 1) := by decide +kernel
theorem dX10_choose_117 : decode cX10_choose 117 = .ok (.istore 12, 2) := by decide +kernel
theorem dX10_choose_119 : decode cX10_choose 119 = .ok (.iload 12, 2) := by decide +kernel
theorem dX10_choose_121 : decode cX10_choose 121 = .ok (.iload 10, 2) := by decide +kernel
theorem dX10_choose_123 : decode cX10_choose 123 = .ok (.if_icmp .ge 100, 3) := by decide +kernel
theorem dX10_choose_126 : decode cX10_choose 126 = .ok (.iload 11, 2) := by decide +kernel
theorem dX10_choose_128 : decode cX10_choose 128 = .ok (.ifCond .eq 95, 3) := by decide +kernel
theorem dX10_choose_131 : decode cX10_choose 131 = .ok (.aload_n 0, 1) := by decide +kernel
theorem dX10_choose_132 : decode cX10_choose 132 = .ok (.iload 12, 2) := by decide +kernel
theorem dX10_choose_134 : decode cX10_choose 134 = .ok (.iload 10, 2) := by decide +kernel
theorem dX10_choose_136 : decode cX10_choose 136 = .ok (.invokevirtual 182, 3) := by decide +kernel
theorem dX10_choose_139 : decode cX10_choose 139 = .ok (.ifCond .eq 78, 3) := by decide +kernel
theorem dX10_choose_142 : decode cX10_choose 142 = .ok (.aload_n 0, 1) := by decide +kernel
theorem dX10_choose_143 : decode cX10_choose 143 = .ok (.getfield 81, 3) := by decide +kernel
theorem dX10_choose_146 : decode cX10_choose 146 = .ok (.iload 12, 2) := by decide +kernel
theorem dX10_choose_148 : decode cX10_choose 148 = .ok (.laload, 1) := by decide +kernel
theorem dX10_choose_149 : decode cX10_choose 149 = .ok (.aload_n 0, 1) := by decide +kernel
theorem dX10_choose_150 : decode cX10_choose 150 = .ok (.iload_n 1, 1) := by decide +kernel
theorem dX10_choose_151 : decode cX10_choose 151 = .ok (.iconst 1, 1) := by decide +kernel
theorem dX10_choose_152 : decode cX10_choose 152 = .ok (.isub, 1) := by decide +kernel
theorem dX10_choose_153 : decode cX10_choose 153 = .ok (.aload_n 0, 1) := by decide +kernel
theorem dX10_choose_154 : decode cX10_choose 154 = .ok (.getfield 16, 3) := by decide +kernel
theorem dX10_choose_157 : decode cX10_choose 157 = .ok (.bipush 12, 2) := by decide +kernel
theorem dX10_choose_159 : decode cX10_choose 159 = .ok (.iload 6, 2) := by decide +kernel
theorem dX10_choose_161 : decode cX10_choose 161 = .ok (.imul, 1) := by decide +kernel
theorem dX10_choose_162 : decode cX10_choose 162 = .ok (.iload 12, 2) := by decide +kernel
theorem dX10_choose_164 : decode cX10_choose 164 = .ok (.iadd, 1) := by decide +kernel
theorem dX10_choose_165 : decode cX10_choose 165 = .ok (.iaload, 1) := by decide +kernel
theorem dX10_choose_166 : decode cX10_choose 166 = .ok (.iload_n 3, 1) := by decide +kernel
theorem dX10_choose_167 : decode cX10_choose 167 = .ok (.lload 4, 2) := by decide +kernel
theorem dX10_choose_169 : decode cX10_choose 169 = .ok (.invokevirtual 178, 3) := by decide +kernel
theorem dX10_choose_172 : decode cX10_choose 172 = .ok (.lcmp, 1) := by decide +kernel
theorem dX10_choose_173 : decode cX10_choose 173 = .ok (.ifCond .lt 44, 3) := by decide +kernel
theorem dX10_choose_176 : decode cX10_choose 176 = .ok (.aload_n 0, 1) := by decide +kernel
theorem dX10_choose_177 : decode cX10_choose 177 = .ok (.getfield 63, 3) := by decide +kernel
theorem dX10_choose_180 : decode cX10_choose 180 = .ok (.iload_n 1, 1) := by decide +kernel
theorem dX10_choose_181 : decode cX10_choose 181 = .ok (.iconst 1, 1) := by decide +kernel
theorem dX10_choose_182 : decode cX10_choose 182 = .ok (.isub, 1) := by decide +kernel
theorem dX10_choose_183 : decode cX10_choose 183 = .ok (.iload 6, 2) := by decide +kernel
theorem dX10_choose_185 : decode cX10_choose 185 = .ok (.iastore, 1) := by decide +kernel
theorem dX10_choose_186 : decode cX10_choose 186 = .ok (.aload_n 0, 1) := by decide +kernel
theorem dX10_choose_187 : decode cX10_choose 187 = .ok (.getfield 66, 3) := by decide +kernel
theorem dX10_choose_190 : decode cX10_choose 190 = .ok (.iload_n 1, 1) := by decide +kernel
theorem dX10_choose_191 : decode cX10_choose 191 = .ok (.iconst 1, 1) := by decide +kernel
theorem dX10_choose_192 : decode cX10_choose 192 = .ok (.isub, 1) := by decide +kernel
theorem dX10_choose_193 : decode cX10_choose 193 = .ok (.lload 7, 2) := by decide +kernel
theorem dX10_choose_195 : decode cX10_choose 195 = .ok (.lastore, 1) := by decide +kernel
theorem dX10_choose_196 : decode cX10_choose 196 = .ok (.aload_n 0, 1) := by decide +kernel
theorem dX10_choose_197 : decode cX10_choose 197 = .ok (.getfield 69, 3) := by decide +kernel
theorem dX10_choose_200 : decode cX10_choose 200 = .ok (.iload_n 1, 1) := by decide +kernel
theorem dX10_choose_201 : decode cX10_choose 201 = .ok (.iconst 1, 1) := by decide +kernel
theorem dX10_choose_202 : decode cX10_choose 202 = .ok (.isub, 1) := by decide +kernel
theorem dX10_choose_203 : decode cX10_choose 203 = .ok (.iload 12, 2) := by decide +kernel
theorem dX10_choose_205 : decode cX10_choose 205 = .ok (.iastore, 1) := by decide +kernel
theorem dX10_choose_206 : decode cX10_choose 206 = .ok (.aload_n 0, 1) := by decide +kernel
theorem dX10_choose_207 : decode cX10_choose 207 = .ok (.getfield 72, 3) := by decide +kernel
theorem dX10_choose_210 : decode cX10_choose 210 = .ok (.iload_n 1, 1) := by decide +kernel
theorem dX10_choose_211 : decode cX10_choose 211 = .ok (.iconst 1, 1) := by decide +kernel
theorem dX10_choose_212 : decode cX10_choose 212 = .ok (.isub, 1) := by decide +kernel
theorem dX10_choose_213 : decode cX10_choose 213 = .ok (.iload 10, 2) := by decide +kernel
theorem dX10_choose_215 : decode cX10_choose 215 = .ok (.iastore, 1) := by decide +kernel
theorem dX10_choose_216 : decode cX10_choose 216 = .ok (.return_, 1) := by decide +kernel
theorem dX10_choose_217 : decode cX10_choose 217 = .ok (.iinc 12 1, 3) := by decide +kernel
theorem dX10_choose_220 : decode cX10_choose 220 = .ok (.goto (-101), 3) := by decide +kernel
theorem dX10_choose_223 : decode cX10_choose 223 = .ok (.iinc 10 1, 3) := by decide +kernel
theorem dX10_choose_226 : decode cX10_choose 226 = .ok (.goto (-173), 3) := by decide +kernel
theorem dX10_choose_229 : decode cX10_choose 229 = .ok (.lload 7, 2) := by decide +kernel
theorem dX10_choose_231 : decode cX10_choose 231 = .ok (.lconst 1, 1) := by decide +kernel
theorem dX10_choose_232 : decode cX10_choose 232 = .ok (.ladd, 1) := by decide +kernel
theorem dX10_choose_233 : decode cX10_choose 233 = .ok (.lstore 7, 2) := by decide +kernel
theorem dX10_choose_235 : decode cX10_choose 235 = .ok (.goto (-211), 3) := by decide +kernel
theorem dX10_choose_238 : decode cX10_choose 238 = .ok (.iinc 6 1, 3) := by decide +kernel
theorem dX10_choose_241 : decode cX10_choose 241 = .ok (.goto (-238), 3) := by decide +kernel
theorem dX10_choose_244 : decode cX10_choose 244 = .ok (.return_, 1) := by decide +kernel
theorem dX10_earliest_0 : decode cX10_earliest 0 = .ok (.aload_n 0, 1) := by decide +kernel
theorem dX10_earliest_1 : decode cX10_earliest 1 = .ok (.iload_n 1, 1) := by decide +kernel
theorem dX10_earliest_2 : decode cX10_earliest 2 = .ok (.invokestatic 119, 3) := by decide +kernel
theorem dX10_earliest_5 : decode cX10_earliest 5 = .ok (.ifCond .eq 10, 3) := by decide +kernel
theorem dX10_earliest_8 : decode cX10_earliest 8 = .ok (.iload_n 2, 1) := by decide +kernel
theorem dX10_earliest_9 : decode cX10_earliest 9 = .ok (.invokestatic 119, 3) := by decide +kernel
theorem dX10_earliest_12 : decode cX10_earliest 12 = .ok (.ifCond .ne 7, 3) := by decide +kernel
theorem dX10_earliest_15 : decode cX10_earliest 15 = .ok (.iconst 1, 1) := by decide +kernel
theorem dX10_earliest_16 : decode cX10_earliest 16 = .ok (.goto 4, 3) := by decide +kernel
theorem dX10_earliest_19 : decode cX10_earliest 19 = .ok (.iconst 0, 1) := by decide +kernel
theorem dX10_earliest_20 : decode cX10_earliest 20 = .ok (.lload_n 3, 1) := by decide +kernel
theorem dX10_earliest_21 : decode cX10_earliest 21 = .ok (.lconst 0, 1) := by decide +kernel
theorem dX10_earliest_22 : decode cX10_earliest 22 = .ok (.ldc2_w 186, 3) := by decide +kernel
theorem dX10_earliest_25 : decode cX10_earliest 25 = .ok (.invokestatic 105, 3) := by decide +kernel
theorem dX10_earliest_28 : decode cX10_earliest 28 = .ok (.ifCond .ne 7, 3) := by decide +kernel
theorem dX10_earliest_31 : decode cX10_earliest 31 = .ok (.iconst 1, 1) := by decide +kernel
theorem dX10_earliest_32 : decode cX10_earliest 32 = .ok (.goto 4, 3) := by decide +kernel
theorem dX10_earliest_35 : decode cX10_earliest 35 = .ok (.iconst 0, 1) := by decide +kernel
theorem dX10_earliest_36 : decode cX10_earliest 36 = .ok (.iconst 0, 1) := by decide +kernel
theorem dX10_earliest_37 : decode cX10_earliest 37 = .ok (.invokevirtual 111, 3) := by decide +kernel
theorem dX10_earliest_40 : decode cX10_earliest 40 = .ok (.ifCond .eq 5, 3) := by decide +kernel
theorem dX10_earliest_43 : decode cX10_earliest 43 = .ok (.lconst 0, 1) := by decide +kernel
theorem dX10_earliest_44 : decode cX10_earliest 44 = .ok (.lreturn, 1) := by decide +kernel
theorem dX10_earliest_45 : decode cX10_earliest 45 = .ok (.iconst 0, 1) := by decide +kernel
theorem dX10_earliest_46 : decode cX10_earliest 46 = .ok (.istore 5, 2) := by decide +kernel
theorem dX10_earliest_48 : decode cX10_earliest 48 = .ok (.iload 5, 2) := by decide +kernel
theorem dX10_earliest_50 : decode cX10_earliest 50 = .ok (.bipush 100, 2) := by decide +kernel
theorem dX10_earliest_52 : decode cX10_earliest 52 = .ok (.if_icmp .ge 29, 3) := by decide +kernel
theorem dX10_earliest_55 : decode cX10_earliest 55 = .ok (.aload_n 0, 1) := by decide +kernel
theorem dX10_earliest_56 : decode cX10_earliest 56 = .ok (.getfield 60, 3) := by decide +kernel
theorem dX10_earliest_59 : decode cX10_earliest 59 = .ok (.iload 5, 2) := by decide +kernel
theorem dX10_earliest_61 : decode cX10_earliest 61 = .ok (.iload 5, 2) := by decide +kernel
theorem dX10_earliest_63 : decode cX10_earliest 63 = .ok (.iload_n 1, 1) := by decide +kernel
theorem dX10_earliest_64 : decode cX10_earliest 64 = .ok (.if_icmp .ne 7, 3) := by decide +kernel
theorem dX10_earliest_67 : decode cX10_earliest 67 = .ok (.lload_n 3, 1) := by decide +kernel
theorem dX10_earliest_68 : decode cX10_earliest 68 = .ok (.goto 6, 3) := by decide +kernel
theorem dX10_earliest_71 : decode cX10_earliest 71 = .ok (.ldc2_w 169, 3) := by decide +kernel
theorem dX10_earliest_74 : decode cX10_earliest 74 = .ok (.lastore, 1) := by decide +kernel
theorem dX10_earliest_75 : decode cX10_earliest 75 = .ok (.iinc 5 1, 3) := by decide +kernel
theorem dX10_earliest_78 : decode cX10_earliest 78 = .ok (.goto (-30), 3) := by decide +kernel
theorem dX10_earliest_81 : decode cX10_earliest 81 = .ok (.iconst 1, 1) := by decide +kernel
theorem dX10_earliest_82 : decode cX10_earliest 82 = .ok (.istore 5, 2) := by decide +kernel
theorem dX10_earliest_84 : decode cX10_earliest 84 = .ok (.iload 5, 2) := by decide +kernel
theorem dX10_earliest_86 : decode cX10_earliest 86 = .ok (.bipush 6, 2) := by decide +kernel
theorem dX10_earliest_88 : decode cX10_earliest 88 = .ok (.if_icmp .gt 17, 3) := by decide +kernel
theorem dX10_earliest_91 : decode cX10_earliest 91 = .ok (.aload_n 0, 1) := by decide +kernel
theorem dX10_earliest_92 : decode cX10_earliest 92 = .ok (.iload 5, 2) := by decide +kernel
theorem dX10_earliest_94 : decode cX10_earliest 94 = .ok (.iload_n 1, 1) := by decide +kernel
theorem dX10_earliest_95 : decode cX10_earliest 95 = .ok (.lload_n 3, 1) := by decide +kernel
theorem dX10_earliest_96 : decode cX10_earliest 96 = .ok (.invokevirtual 188, 3) := by decide +kernel
theorem dX10_earliest_99 : decode cX10_earliest 99 = .ok (.iinc 5 1, 3) := by decide +kernel
theorem dX10_earliest_102 : decode cX10_earliest 102 = .ok (.goto (-18), 3) := by decide +kernel
theorem dX10_earliest_105 : decode cX10_earliest 105 = .ok (.aload_n 0, 1) := by decide +kernel
theorem dX10_earliest_106 : decode cX10_earliest 106 = .ok (.getfield 60, 3) := by decide +kernel
theorem dX10_earliest_109 : decode cX10_earliest 109 = .ok (.sipush 600, 3) := by decide +kernel
theorem dX10_earliest_112 : decode cX10_earliest 112 = .ok (.iload_n 2, 1) := by decide +kernel
theorem dX10_earliest_113 : decode cX10_earliest 113 = .ok (.iadd, 1) := by decide +kernel
theorem dX10_earliest_114 : decode cX10_earliest 114 = .ok (.laload, 1) := by decide +kernel
theorem dX10_earliest_115 : decode cX10_earliest 115 = .ok (.lstore 5, 2) := by decide +kernel
theorem dX10_earliest_117 : decode cX10_earliest 117 = .ok (.aload_n 0, 1) := by decide +kernel
theorem dX10_earliest_118 : decode cX10_earliest 118 = .ok (.iconst 0, 1) := by decide +kernel
theorem dX10_earliest_119 : decode cX10_earliest 119 = .ok (.putfield 192, 3) := by decide +kernel
theorem dX10_earliest_122 : decode cX10_earliest 122 = .ok (.lload 5, 2) := by decide +kernel
theorem dX10_earliest_124 : decode cX10_earliest 124 = .ok (.ldc2_w 169, 3) := by decide +kernel
theorem dX10_earliest_127 : decode cX10_earliest 127 = .ok (.lcmp, 1) := by decide +kernel
theorem dX10_earliest_128 : decode cX10_earliest 128 = .ok (.ifCond .ne 7, 3) := by decide +kernel
theorem dX10_earliest_131 : decode cX10_earliest 131 = .ok (.ldc2_w 195, 3) := by decide +kernel
theorem dX10_earliest_134 : decode cX10_earliest 134 = .ok (.lreturn, 1) := by decide +kernel
theorem dX10_earliest_135 : decode cX10_earliest 135 = .ok (.aload_n 0, 1) := by decide +kernel
theorem dX10_earliest_136 : decode cX10_earliest 136 = .ok (.getfield 60, 3) := by decide +kernel
theorem dX10_earliest_139 : decode cX10_earliest 139 = .ok (.bipush 100, 2) := by decide +kernel
theorem dX10_earliest_141 : decode cX10_earliest 141 = .ok (.aload_n 0, 1) := by decide +kernel
theorem dX10_earliest_142 : decode cX10_earliest 142 = .ok (.getfield 192, 3) := by decide +kernel
theorem dX10_earliest_145 : decode cX10_earliest 145 = .ok (.imul, 1) := by decide +kernel
theorem dX10_earliest_146 : decode cX10_earliest 146 = .ok (.iload_n 2, 1) := by decide +kernel
theorem dX10_earliest_147 : decode cX10_earliest 147 = .ok (.iadd, 1) := by decide +kernel
theorem dX10_earliest_148 : decode cX10_earliest 148 = .ok (.laload, 1) := by decide +kernel
theorem dX10_earliest_149 : decode cX10_earliest 149 = .ok (.lload 5, 2) := by decide +kernel
theorem dX10_earliest_151 : decode cX10_earliest 151 = .ok (.lcmp, 1) := by decide +kernel
theorem dX10_earliest_152 : decode cX10_earliest 152 = .ok (.ifCond .eq 16, 3) := by decide +kernel
theorem dX10_earliest_155 : decode cX10_earliest 155 = .ok (.aload_n 0, 1) := by decide +kernel
theorem dX10_earliest_156 : decode cX10_earliest 156 = .ok (.dup, 1) := by decide +kernel
theorem dX10_earliest_157 : decode cX10_earliest 157 = .ok (.getfield 192, 3) := by decide +kernel
theorem dX10_earliest_160 : decode cX10_earliest 160 = .ok (.iconst 1, 1) := by decide +kernel
theorem dX10_earliest_161 : decode cX10_earliest 161 = .ok (.iadd, 1) := by decide +kernel
theorem dX10_earliest_162 : decode cX10_earliest 162 = .ok (.putfield 192, 3) := by decide +kernel
theorem dX10_earliest_165 : decode cX10_earliest 165 = .ok (.goto (-30), 3) := by decide +kernel
theorem dX10_earliest_168 : decode cX10_earliest 168 = .ok (.iload_n 2, 1) := by decide +kernel
theorem dX10_earliest_169 : decode cX10_earliest 169 = .ok (.istore 7, 2) := by decide +kernel
theorem dX10_earliest_171 : decode cX10_earliest 171 = .ok (.aload_n 0, 1) := by decide +kernel
theorem dX10_earliest_172 : decode cX10_earliest 172 = .ok (.getfield 192, 3) := by decide +kernel
theorem dX10_earliest_175 : decode cX10_earliest 175 = .ok (.istore 8, 2) := by decide +kernel
theorem dX10_earliest_177 : decode cX10_earliest 177 = .ok (.iload 8, 2) := by decide +kernel
theorem dX10_earliest_179 : decode cX10_earliest 179 = .ok (.ifCond .le 48, 3) := by decide +kernel
theorem dX10_earliest_182 : decode cX10_earliest 182 = .ok (.aload_n 0, 1) := by decide +kernel
theorem dX10_earliest_183 : decode cX10_earliest 183 = .ok (.iload 8, 2) := by decide +kernel
theorem dX10_earliest_185 : decode cX10_earliest 185 = .ok (.iload 7, 2) := by decide +kernel
theorem dX10_earliest_187 : decode cX10_earliest 187 = .ok (.iload_n 1, 1) := by decide +kernel
theorem dX10_earliest_188 : decode cX10_earliest 188 = .ok (.lload_n 3, 1) := by decide +kernel
theorem dX10_earliest_189 : decode cX10_earliest 189 = .ok (.invokevirtual 197, 3) := by decide +kernel
theorem dX10_earliest_192 : decode cX10_earliest 192 = .ok (.aload_n 0, 1) := by decide +kernel
theorem dX10_earliest_193 : decode cX10_earliest 193 = .ok (.getfield 16, 3) := by decide +kernel
theorem dX10_earliest_196 : decode cX10_earliest 196 = .ok (.bipush 12, 2) := by decide +kernel
theorem dX10_earliest_198 : decode cX10_earliest 198 = .ok (.aload_n 0, 1) := by decide +kernel
theorem dX10_earliest_199 : decode cX10_earliest 199 = .ok (.getfield 63, 3) := by decide +kernel
theorem dX10_earliest_202 : decode cX10_earliest 202 = .ok (.iload 8, 2) := by decide +kernel
theorem dX10_earliest_204 : decode cX10_earliest 204 = .ok (.iconst 1, 1) := by decide +kernel
theorem dX10_earliest_205 : decode cX10_earliest 205 = .ok (.isub, 1) := by decide +kernel
theorem dX10_earliest_206 : decode cX10_earliest 206 = .ok (.iaload, 1) := by decide +kernel
theorem dX10_earliest_207 : decode cX10_earliest 207 = .ok (.imul, 1) := by decide +kernel
theorem dX10_earliest_208 : decode cX10_earliest 208 = .ok (.aload_n 0, 1) := by decide +kernel
theorem dX10_earliest_209 : decode cX10_earliest 209 = .ok (.getfield 69, 3) := by decide +kernel
theorem dX10_earliest_212 : decode cX10_earliest 212 = .ok (.iload 8, 2) := by decide +kernel
theorem dX10_earliest_214 : decode cX10_earliest 214 = .ok (.iconst 1, 1) := by decide +kernel
theorem dX10_earliest_215 : decode cX10_earliest 215 = .ok (.isub, 1) := by decide +kernel
theorem dX10_earliest_216 : decode cX10_earliest 216 = .ok (.iaload, 1) := by decide +kernel
theorem dX10_earliest_217 : decode cX10_earliest 217 = .ok (.iadd, 1) := by decide +kernel
theorem dX10_earliest_218 : decode cX10_earliest 218 = .ok (.iaload, 1) := by decide +kernel
theorem dX10_earliest_219 : decode cX10_earliest 219 = .ok (.istore 7, 2) := by decide +kernel
theorem dX10_earliest_221 : decode cX10_earliest 221 = .ok (.iinc 8 (-1), 3) := by decide +kernel
theorem dX10_earliest_224 : decode cX10_earliest 224 = .ok (.goto (-47), 3) := by decide +kernel
theorem dX10_earliest_227 : decode cX10_earliest 227 = .ok (.aload_n 0, 1) := by decide +kernel
theorem dX10_earliest_228 : decode cX10_earliest 228 = .ok (.invokevirtual 201, 3) := by decide +kernel
theorem dX10_earliest_231 : decode cX10_earliest 231 = .ok (.lload 5, 2) := by decide +kernel
theorem dX10_earliest_233 : decode cX10_earliest 233 = .ok (.lreturn, 1) := by decide +kernel
theorem dX10_step_0 : decode cX10_step 0 = .ok (.aload_n 0, 1) := by decide +kernel
theorem dX10_step_1 : decode cX10_step 1 = .ok (.iload_n 2, 1) := by decide +kernel
theorem dX10_step_2 : decode cX10_step 2 = .ok (.i2l, 1) := by decide +kernel
theorem dX10_step_3 : decode cX10_step 3 = .ok (.lconst 0, 1) := by decide +kernel
theorem dX10_step_4 : decode cX10_step 4 = .ok (.ldc2_w 204, 3) := by decide +kernel
theorem dX10_step_7 : decode cX10_step 7 = .ok (.invokestatic 105, 3) := by decide +kernel
theorem dX10_step_10 : decode cX10_step 10 = .ok (.ifCond .ne 7, 3) := by decide +kernel
theorem dX10_step_13 : decode cX10_step 13 = .ok (.iconst 1, 1) := by decide +kernel
theorem dX10_step_14 : decode cX10_step 14 = .ok (.goto 4, 3) := by decide +kernel
theorem dX10_step_17 : decode cX10_step 17 = .ok (.iconst 0, 1) := by decide +kernel
theorem dX10_step_18 : decode cX10_step 18 = .ok (.iconst 0, 1) := by decide +kernel
theorem dX10_step_19 : decode cX10_step 19 = .ok (.iconst 0, 1) := by decide +kernel
theorem dX10_step_20 : decode cX10_step 20 = .ok (.invokevirtual 111, 3) := by decide +kernel
theorem dX10_step_23 : decode cX10_step 23 = .ok (.ifCond .eq 5, 3) := by decide +kernel
theorem dX10_step_26 : decode cX10_step 26 = .ok (.iconst 0, 1) := by decide +kernel
theorem dX10_step_27 : decode cX10_step 27 = .ok (.ireturn, 1) := by decide +kernel
theorem dX10_step_28 : decode cX10_step 28 = .ok (.iload_n 1, 1) := by decide +kernel
theorem dX10_step_29 : decode cX10_step 29 = .ok (.i2l, 1) := by decide +kernel
theorem dX10_step_30 : decode cX10_step 30 = .ok (.lconst 0, 1) := by decide +kernel
theorem dX10_step_31 : decode cX10_step 31 = .ok (.aload_n 0, 1) := by decide +kernel
theorem dX10_step_32 : decode cX10_step 32 = .ok (.getfield 192, 3) := by decide +kernel
theorem dX10_step_35 : decode cX10_step 35 = .ok (.iconst 1, 1) := by decide +kernel
theorem dX10_step_36 : decode cX10_step 36 = .ok (.isub, 1) := by decide +kernel
theorem dX10_step_37 : decode cX10_step 37 = .ok (.i2l, 1) := by decide +kernel
theorem dX10_step_38 : decode cX10_step 38 = .ok (.invokestatic 105, 3) := by decide +kernel
theorem dX10_step_41 : decode cX10_step 41 = .ok (.ifCond .ne 5, 3) := by decide +kernel
theorem dX10_step_44 : decode cX10_step 44 = .ok (.iconst (-1), 1) := by decide +kernel
theorem dX10_step_45 : decode cX10_step 45 = .ok (.ireturn, 1) := by decide +kernel
theorem dX10_step_46 : decode cX10_step 46 = .ok (.iload_n 2, 1) := by decide +kernel
theorem dX10_step_47 : decode cX10_step 47 = .ok (.iconst 4, 1) := by decide +kernel
theorem dX10_step_48 : decode cX10_step 48 = .ok (.if_icmp .ge 52, 3) := by decide +kernel
theorem dX10_step_51 : decode cX10_step 51 = .ok (.iload_n 2, 1) := by decide +kernel
theorem dX10_step_52 : decode cX10_step 52 = .ok (.ifCond .ne 12, 3) := by decide +kernel
theorem dX10_step_55 : decode cX10_step 55 = .ok (.aload_n 0, 1) := by decide +kernel
theorem dX10_step_56 : decode cX10_step 56 = .ok (.getfield 63, 3) := by decide +kernel
theorem dX10_step_59 : decode cX10_step 59 = .ok (.iload_n 1, 1) := by decide +kernel
theorem dX10_step_60 : decode cX10_step 60 = .ok (.iaload, 1) := by decide +kernel
theorem dX10_step_61 : decode cX10_step 61 = .ok (.goto 38, 3) := by decide +kernel
theorem dX10_step_64 : decode cX10_step 64 = .ok (.iload_n 2, 1) := by decide +kernel
theorem dX10_step_65 : decode cX10_step 65 = .ok (.iconst 1, 1) := by decide +kernel
theorem dX10_step_66 : decode cX10_step 66 = .ok (.if_icmp .ne 13, 3) := by decide +kernel
theorem dX10_step_69 : decode cX10_step 69 = .ok (.aload_n 0, 1) := by decide +kernel
theorem dX10_step_70 : decode cX10_step 70 = .ok (.getfield 66, 3) := by decide +kernel
theorem dX10_step_73 : decode cX10_step 73 = .ok (.iload_n 1, 1) := by decide +kernel
theorem dX10_step_74 : decode cX10_step 74 = .ok (.laload, 1) := by decide +kernel
theorem dX10_step_75 : decode cX10_step 75 = .ok (.l2i, 1) := by decide +kernel
theorem dX10_step_76 : decode cX10_step 76 = .ok (.goto 23, 3) := by decide +kernel
theorem dX10_step_79 : decode cX10_step 79 = .ok (.iload_n 2, 1) := by decide +kernel
theorem dX10_step_80 : decode cX10_step 80 = .ok (.iconst 2, 1) := by decide +kernel
theorem dX10_step_81 : decode cX10_step 81 = .ok (.if_icmp .ne 12, 3) := by decide +kernel
theorem dX10_step_84 : decode cX10_step 84 = .ok (.aload_n 0, 1) := by decide +kernel
theorem dX10_step_85 : decode cX10_step 85 = .ok (.getfield 69, 3) := by decide +kernel
theorem dX10_step_88 : decode cX10_step 88 = .ok (.iload_n 1, 1) := by decide +kernel
theorem dX10_step_89 : decode cX10_step 89 = .ok (.iaload, 1) := by decide +kernel
theorem dX10_step_90 : decode cX10_step 90 = .ok (.goto 9, 3) := by decide +kernel
theorem dX10_step_93 : decode cX10_step 93 = .ok (.aload_n 0, 1) := by decide +kernel
theorem dX10_step_94 : decode cX10_step 94 = .ok (.getfield 72, 3) := by decide +kernel
theorem dX10_step_97 : decode cX10_step 97 = .ok (.iload_n 1, 1) := by decide +kernel
theorem dX10_step_98 : decode cX10_step 98 = .ok (.iaload, 1) := by decide +kernel
theorem dX10_step_99 : decode cX10_step 99 = .ok (.ireturn, 1) := by decide +kernel
theorem dX10_step_100 : decode cX10_step 100 = .ok (.aload_n 0, 1) := by decide +kernel
theorem dX10_step_101 : decode cX10_step 101 = .ok (.getfield 84, 3) := by decide +kernel
theorem dX10_step_104 : decode cX10_step 104 = .ok (.iconst 2, 1) := by decide +kernel
theorem dX10_step_105 : decode cX10_step 105 = .ok (.iload_n 1, 1) := by decide +kernel
theorem dX10_step_106 : decode cX10_step 106 = .ok (.imul, 1) := by decide +kernel
theorem dX10_step_107 : decode cX10_step 107 = .ok (.iload_n 2, 1) := by decide +kernel
theorem dX10_step_108 : decode cX10_step 108 = .ok (.iadd, 1) := by decide +kernel
theorem dX10_step_109 : decode cX10_step 109 = .ok (.iconst 4, 1) := by decide +kernel
theorem dX10_step_110 : decode cX10_step 110 = .ok (.isub, 1) := by decide +kernel
theorem dX10_step_111 : decode cX10_step 111 = .ok (.iaload, 1) := by decide +kernel
theorem dX10_step_112 : decode cX10_step 112 = .ok (.ireturn, 1) := by decide +kernel
theorem dX10_keepTimes_0 : decode cX10_keepTimes 0 = .ok (.iconst 0, 1) := by decide +kernel
theorem dX10_keepTimes_1 : decode cX10_keepTimes 1 = .ok (.istore_n 1, 1) := by decide +kernel
theorem dX10_keepTimes_2 : decode cX10_keepTimes 2 = .ok (.iload_n 1, 1) := by decide +kernel
theorem dX10_keepTimes_3 : decode cX10_keepTimes 3 = .ok (.aload_n 0, 1) := by decide +kernel
theorem dX10_keepTimes_4 : decode cX10_keepTimes 4 = .ok (.getfield 192, 3) := by decide +kernel
theorem dX10_keepTimes_7 : decode cX10_keepTimes 7 = .ok (.if_icmp .ge 75, 3) := by decide +kernel
theorem dX10_keepTimes_10 : decode cX10_keepTimes 10 = .ok (.aload_n 0, 1) := by decide +kernel
theorem dX10_keepTimes_11 : decode cX10_keepTimes 11 = .ok (.getfield 84, 3) := by decide +kernel
theorem dX10_keepTimes_14 : decode cX10_keepTimes 14 = .ok (.iconst 2, 1) := by decide +kernel
theorem dX10_keepTimes_15 : decode cX10_keepTimes 15 = .ok (.iload_n 1, 1) := by decide +kernel
theorem dX10_keepTimes_16 : decode cX10_keepTimes 16 = .ok (.imul, 1) := by decide +kernel
theorem dX10_keepTimes_17 : decode cX10_keepTimes 17 = .ok (.aload_n 0, 1) := by decide +kernel
theorem dX10_keepTimes_18 : decode cX10_keepTimes 18 = .ok (.aload_n 0, 1) := by decide +kernel
theorem dX10_keepTimes_19 : decode cX10_keepTimes 19 = .ok (.getfield 63, 3) := by decide +kernel
theorem dX10_keepTimes_22 : decode cX10_keepTimes 22 = .ok (.iload_n 1, 1) := by decide +kernel
theorem dX10_keepTimes_23 : decode cX10_keepTimes 23 = .ok (.iaload, 1) := by decide +kernel
theorem dX10_keepTimes_24 : decode cX10_keepTimes 24 = .ok (.aload_n 0, 1) := by decide +kernel
theorem dX10_keepTimes_25 : decode cX10_keepTimes 25 = .ok (.getfield 66, 3) := by decide +kernel
theorem dX10_keepTimes_28 : decode cX10_keepTimes 28 = .ok (.iload_n 1, 1) := by decide +kernel
theorem dX10_keepTimes_29 : decode cX10_keepTimes 29 = .ok (.laload, 1) := by decide +kernel
theorem dX10_keepTimes_30 : decode cX10_keepTimes 30 = .ok (.aload_n 0, 1) := by decide +kernel
theorem dX10_keepTimes_31 : decode cX10_keepTimes 31 = .ok (.getfield 69, 3) := by decide +kernel
theorem dX10_keepTimes_34 : decode cX10_keepTimes 34 = .ok (.iload_n 1, 1) := by decide +kernel
theorem dX10_keepTimes_35 : decode cX10_keepTimes 35 = .ok (.iaload, 1) := by decide +kernel
theorem dX10_keepTimes_36 : decode cX10_keepTimes 36 = .ok (.iconst 1, 1) := by decide +kernel
theorem dX10_keepTimes_37 : decode cX10_keepTimes 37 = .ok (.invokevirtual 165, 3) := by decide +kernel
theorem dX10_keepTimes_40 : decode cX10_keepTimes 40 = .ok (.l2i, 1) := by decide +kernel
theorem dX10_keepTimes_41 : decode cX10_keepTimes 41 = .ok (.iastore, 1) := by decide +kernel
theorem dX10_keepTimes_42 : decode cX10_keepTimes 42 = .ok (.aload_n 0, 1) := by decide +kernel
theorem dX10_keepTimes_43 : decode cX10_keepTimes 43 = .ok (.getfield 84, 3) := by decide +kernel
theorem dX10_keepTimes_46 : decode cX10_keepTimes 46 = .ok (.iconst 2, 1) := by decide +kernel
theorem dX10_keepTimes_47 : decode cX10_keepTimes 47 = .ok (.iload_n 1, 1) := by decide +kernel
theorem dX10_keepTimes_48 : decode cX10_keepTimes 48 = .ok (.imul, 1) := by decide +kernel
theorem dX10_keepTimes_49 : decode cX10_keepTimes 49 = .ok (.iconst 1, 1) := by decide +kernel
theorem dX10_keepTimes_50 : decode cX10_keepTimes 50 = .ok (.iadd, 1) := by decide +kernel
theorem dX10_keepTimes_51 : decode cX10_keepTimes 51 = .ok (.aload_n 0, 1) := by decide +kernel
theorem dX10_keepTimes_52 : decode cX10_keepTimes 52 = .ok (.aload_n 0, 1) := by decide +kernel
theorem dX10_keepTimes_53 : decode cX10_keepTimes 53 = .ok (.getfield 63, 3) := by decide +kernel
theorem dX10_keepTimes_56 : decode cX10_keepTimes 56 = .ok (.iload_n 1, 1) := by decide +kernel
theorem dX10_keepTimes_57 : decode cX10_keepTimes 57 = .ok (.iaload, 1) := by decide +kernel
theorem dX10_keepTimes_58 : decode cX10_keepTimes 58 = .ok (.aload_n 0, 1) := by decide +kernel
theorem dX10_keepTimes_59 : decode cX10_keepTimes 59 = .ok (.getfield 66, 3) := by decide +kernel
theorem dX10_keepTimes_62 : decode cX10_keepTimes 62 = .ok (.iload_n 1, 1) := by decide +kernel
theorem dX10_keepTimes_63 : decode cX10_keepTimes 63 = .ok (.laload, 1) := by decide +kernel
theorem dX10_keepTimes_64 : decode cX10_keepTimes 64 = .ok (.aload_n 0, 1) := by decide +kernel
theorem dX10_keepTimes_65 : decode cX10_keepTimes 65 = .ok (.getfield 72, 3) := by decide +kernel
theorem dX10_keepTimes_68 : decode cX10_keepTimes 68 = .ok (.iload_n 1, 1) := by decide +kernel
theorem dX10_keepTimes_69 : decode cX10_keepTimes 69 = .ok (.iaload, 1) := by decide +kernel
theorem dX10_keepTimes_70 : decode cX10_keepTimes 70 = .ok (.iconst 0, 1) := by decide +kernel
theorem dX10_keepTimes_71 : decode cX10_keepTimes 71 = .ok (.invokevirtual 165, 3) := by decide +kernel
theorem dX10_keepTimes_74 : decode cX10_keepTimes 74 = .ok (.l2i, 1) := by decide +kernel
theorem dX10_keepTimes_75 : decode cX10_keepTimes 75 = .ok (.iastore, 1) := by decide +kernel
theorem dX10_keepTimes_76 : decode cX10_keepTimes 76 = .ok (.iinc 1 1, 3) := by decide +kernel
theorem dX10_keepTimes_79 : decode cX10_keepTimes 79 = .ok (.goto (-77), 3) := by decide +kernel
theorem dX10_keepTimes_82 : decode cX10_keepTimes 82 = .ok (.return_, 1) := by decide +kernel
theorem dX10_days_0 : decode cX10_days 0 = .ok (.aload_n 0, 1) := by decide +kernel
theorem dX10_days_1 : decode cX10_days 1 = .ok (.iload_n 1, 1) := by decide +kernel
theorem dX10_days_2 : decode cX10_days 2 = .ok (.i2l, 1) := by decide +kernel
theorem dX10_days_3 : decode cX10_days 3 = .ok (.lconst 1, 1) := by decide +kernel
theorem dX10_days_4 : decode cX10_days 4 = .ok (.ldc2_w 206, 3) := by decide +kernel
theorem dX10_days_7 : decode cX10_days 7 = .ok (.invokestatic 105, 3) := by decide +kernel
theorem dX10_days_10 : decode cX10_days 10 = .ok (.ifCond .ne 7, 3) := by decide +kernel
theorem dX10_days_13 : decode cX10_days 13 = .ok (.iconst 1, 1) := by decide +kernel
theorem dX10_days_14 : decode cX10_days 14 = .ok (.goto 4, 3) := by decide +kernel
theorem dX10_days_17 : decode cX10_days 17 = .ok (.iconst 0, 1) := by decide +kernel
theorem dX10_days_18 : decode cX10_days 18 = .ok (.iconst 0, 1) := by decide +kernel
theorem dX10_days_19 : decode cX10_days 19 = .ok (.iconst 0, 1) := by decide +kernel
theorem dX10_days_20 : decode cX10_days 20 = .ok (.invokevirtual 111, 3) := by decide +kernel
theorem dX10_days_23 : decode cX10_days 23 = .ok (.ifCond .eq 5, 3) := by decide +kernel
theorem dX10_days_26 : decode cX10_days 26 = .ok (.iconst 0, 1) := by decide +kernel
theorem dX10_days_27 : decode cX10_days 27 = .ok (.ireturn, 1) := by decide +kernel
theorem dX10_days_28 : decode cX10_days 28 = .ok (.iload_n 2, 1) := by decide +kernel
theorem dX10_days_29 : decode cX10_days 29 = .ok (.iconst 4, 1) := by decide +kernel
theorem dX10_days_30 : decode cX10_days 30 = .ok (.irem, 1) := by decide +kernel
theorem dX10_days_31 : decode cX10_days 31 = .ok (.ifCond .ne 10, 3) := by decide +kernel
theorem dX10_days_34 : decode cX10_days 34 = .ok (.iload_n 2, 1) := by decide +kernel
theorem dX10_days_35 : decode cX10_days 35 = .ok (.bipush 100, 2) := by decide +kernel
theorem dX10_days_37 : decode cX10_days 37 = .ok (.irem, 1) := by decide +kernel
theorem dX10_days_38 : decode cX10_days 38 = .ok (.ifCond .ne 11, 3) := by decide +kernel
theorem dX10_days_41 : decode cX10_days 41 = .ok (.iload_n 2, 1) := by decide +kernel
theorem dX10_days_42 : decode cX10_days 42 = .ok (.sipush 400, 3) := by decide +kernel
theorem dX10_days_45 : decode cX10_days 45 = .ok (.irem, 1) := by decide +kernel
theorem dX10_days_46 : decode cX10_days 46 = .ok (.ifCond .ne 7, 3) := by decide +kernel
theorem dX10_days_49 : decode cX10_days 49 = .ok (.iconst 1, 1) := by decide +kernel
theorem dX10_days_50 : decode cX10_days 50 = .ok (.goto 4, 3) := by decide +kernel
theorem dX10_days_53 : decode cX10_days 53 = .ok (.iconst 0, 1) := by decide +kernel
theorem dX10_days_54 : decode cX10_days 54 = .ok (.istore_n 3, 1) := by decide +kernel
theorem dX10_days_55 : decode cX10_days 55 = .ok (.iload_n 1, 1) := by decide +kernel
theorem dX10_days_56 : decode cX10_days 56 = .ok (.iconst 2, 1) := by decide +kernel
theorem dX10_days_57 : decode cX10_days 57 = .ok (.if_icmp .ne 17, 3) := by decide +kernel
theorem dX10_days_60 : decode cX10_days 60 = .ok (.iload_n 3, 1) := by decide +kernel
theorem dX10_days_61 : decode cX10_days 61 = .ok (.ifCond .eq 8, 3) := by decide +kernel
theorem dX10_days_64 : decode cX10_days 64 = .ok (.bipush 29, 2) := by decide +kernel
theorem dX10_days_66 : decode cX10_days 66 = .ok (.goto 38, 3) := by decide +kernel
theorem dX10_days_69 : decode cX10_days 69 = .ok (.bipush 28, 2) := by decide +kernel
theorem dX10_days_71 : decode cX10_days 71 = .ok (.goto 33, 3) := by decide +kernel
theorem dX10_days_74 : decode cX10_days 74 = .ok (.iload_n 1, 1) := by decide +kernel
theorem dX10_days_75 : decode cX10_days 75 = .ok (.iconst 4, 1) := by decide +kernel
theorem dX10_days_76 : decode cX10_days 76 = .ok (.if_icmp .eq 21, 3) := by decide +kernel
theorem dX10_days_79 : decode cX10_days 79 = .ok (.iload_n 1, 1) := by decide +kernel
theorem dX10_days_80 : decode cX10_days 80 = .ok (.bipush 6, 2) := by decide +kernel
theorem dX10_days_82 : decode cX10_days 82 = .ok (.if_icmp .eq 15, 3) := by decide +kernel
theorem dX10_days_85 : decode cX10_days 85 = .ok (.iload_n 1, 1) := by decide +kernel
theorem dX10_days_86 : decode cX10_days 86 = .ok (.bipush 9, 2) := by decide +kernel
theorem dX10_days_88 : decode cX10_days 88 = .ok (.if_icmp .eq 9, 3) := by decide +kernel
theorem dX10_days_91 : decode cX10_days 91 = .ok (.iload_n 1, 1) := by decide +kernel
theorem dX10_days_92 : decode cX10_days 92 = .ok (.bipush 11, 2) := by decide +kernel
theorem dX10_days_94 : decode cX10_days 94 = .ok (.if_icmp .ne 8, 3) := by decide +kernel
theorem dX10_days_97 : decode cX10_days 97 = .ok (.bipush 30, 2) := by decide +kernel
theorem dX10_days_99 : decode cX10_days 99 = .ok (.goto 5, 3) := by decide +kernel
theorem dX10_days_102 : decode cX10_days 102 = .ok (.bipush 31, 2) := by decide +kernel
theorem dX10_days_104 : decode cX10_days 104 = .ok (.ireturn, 1) := by decide +kernel
theorem dX10_order_0 : decode cX10_order 0 = .ok (.iconst 0, 1) := by decide +kernel
theorem dX10_order_1 : decode cX10_order 1 = .ok (.istore_n 2, 1) := by decide +kernel
theorem dX10_order_2 : decode cX10_order 2 = .ok (.iload_n 2, 1) := by decide +kernel
theorem dX10_order_3 : decode cX10_order 3 = .ok (.bipush 6, 2) := by decide +kernel
theorem dX10_order_5 : decode cX10_order 5 = .ok (.if_icmp .ge 35, 3) := by decide +kernel
theorem dX10_order_8 : decode cX10_order 8 = .ok (.aload_n 0, 1) := by decide +kernel
theorem dX10_order_9 : decode cX10_order 9 = .ok (.iload_n 2, 1) := by decide +kernel
theorem dX10_order_10 : decode cX10_order 10 = .ok (.laload, 1) := by decide +kernel
theorem dX10_order_11 : decode cX10_order 11 = .ok (.aload_n 1, 1) := by decide +kernel
theorem dX10_order_12 : decode cX10_order 12 = .ok (.iload_n 2, 1) := by decide +kernel
theorem dX10_order_13 : decode cX10_order 13 = .ok (.laload, 1) := by decide +kernel
theorem dX10_order_14 : decode cX10_order 14 = .ok (.lcmp, 1) := by decide +kernel
theorem dX10_order_15 : decode cX10_order 15 = .ok (.ifCond .eq 19, 3) := by decide +kernel
theorem dX10_order_18 : decode cX10_order 18 = .ok (.aload_n 0, 1) := by decide +kernel
theorem dX10_order_19 : decode cX10_order 19 = .ok (.iload_n 2, 1) := by decide +kernel
theorem dX10_order_20 : decode cX10_order 20 = .ok (.laload, 1) := by decide +kernel
theorem dX10_order_21 : decode cX10_order 21 = .ok (.aload_n 1, 1) := by decide +kernel
theorem dX10_order_22 : decode cX10_order 22 = .ok (.iload_n 2, 1) := by decide +kernel
theorem dX10_order_23 : decode cX10_order 23 = .ok (.laload, 1) := by decide +kernel
theorem dX10_order_24 : decode cX10_order 24 = .ok (.lcmp, 1) := by decide +kernel
theorem dX10_order_25 : decode cX10_order 25 = .ok (.ifCond .ge 7, 3) := by decide +kernel
theorem dX10_order_28 : decode cX10_order 28 = .ok (.iconst (-1), 1) := by decide +kernel
theorem dX10_order_29 : decode cX10_order 29 = .ok (.goto 4, 3) := by decide +kernel
theorem dX10_order_32 : decode cX10_order 32 = .ok (.iconst 1, 1) := by decide +kernel
theorem dX10_order_33 : decode cX10_order 33 = .ok (.ireturn, 1) := by decide +kernel
theorem dX10_order_34 : decode cX10_order 34 = .ok (.iinc 2 1, 3) := by decide +kernel
theorem dX10_order_37 : decode cX10_order 37 = .ok (.goto (-35), 3) := by decide +kernel
theorem dX10_order_40 : decode cX10_order 40 = .ok (.iconst 0, 1) := by decide +kernel
theorem dX10_order_41 : decode cX10_order 41 = .ok (.ireturn, 1) := by decide +kernel
theorem dX10_goOn_0 : decode cX10_goOn 0 = .ok (.iconst 0, 1) := by decide +kernel
theorem dX10_goOn_1 : decode cX10_goOn 1 = .ok (.istore 6, 2) := by decide +kernel
theorem dX10_goOn_3 : decode cX10_goOn 3 = .ok (.iconst 0, 1) := by decide +kernel
theorem dX10_goOn_4 : decode cX10_goOn 4 = .ok (.istore 7, 2) := by decide +kernel
theorem dX10_goOn_6 : decode cX10_goOn 6 = .ok (.iload 7, 2) := by decide +kernel
theorem dX10_goOn_8 : decode cX10_goOn 8 = .ok (.aload_n 0, 1) := by decide +kernel
theorem dX10_goOn_9 : decode cX10_goOn 9 = .ok (.getfield 96, 3) := by decide +kernel
theorem dX10_goOn_12 : decode cX10_goOn 12 = .ok (.if_icmp .ge 331, 3) := by decide +kernel
theorem dX10_goOn_15 : decode cX10_goOn 15 = .ok (.lload_n 3, 1) := by decide +kernel
theorem dX10_goOn_16 : decode cX10_goOn 16 = .ok (.ldc2_w 149, 3) := by decide +kernel
theorem dX10_goOn_19 : decode cX10_goOn 19 = .ok (.ldiv, 1) := by decide +kernel
theorem dX10_goOn_20 : decode cX10_goOn 20 = .ok (.ldc2_w 171, 3) := by decide +kernel
theorem dX10_goOn_23 : decode cX10_goOn 23 = .ok (.lsub, 1) := by decide +kernel
theorem dX10_goOn_24 : decode cX10_goOn 24 = .ok (.lstore 8, 2) := by decide +kernel
theorem dX10_goOn_26 : decode cX10_goOn 26 = .ok (.lload 8, 2) := by decide +kernel
theorem dX10_goOn_28 : decode cX10_goOn 28 = .ok (.lload_n 3, 1) := by decide +kernel
theorem dX10_goOn_29 : decode cX10_goOn 29 = .ok (.ldc2_w 149, 3) := by decide +kernel
theorem dX10_goOn_32 : decode cX10_goOn 32 = .ok (.ldiv, 1) := by decide +kernel
theorem dX10_goOn_33 : decode cX10_goOn 33 = .ok (.ldc2_w 173, 3) := by decide +kernel
theorem dX10_goOn_36 : decode cX10_goOn 36 = .ok (.ladd, 1) := by decide +kernel
theorem dX10_goOn_37 : decode cX10_goOn 37 = .ok (.lcmp, 1) := by decide +kernel
theorem dX10_goOn_38 : decode cX10_goOn 38 = .ok (.ifCond .gt 299, 3) := by decide +kernel
theorem dX10_goOn_41 : decode cX10_goOn 41 = .ok (.aload_n 0, 1) := by decide +kernel
theorem dX10_goOn_42 : decode cX10_goOn 42 = .ok (.iload 7, 2) := by decide +kernel
theorem dX10_goOn_44 : decode cX10_goOn 44 = .ok (.lload 8, 2) := by decide +kernel
theorem dX10_goOn_46 : decode cX10_goOn 46 = .ok (.invokevirtual 175, 3) := by decide +kernel
theorem dX10_goOn_49 : decode cX10_goOn 49 = .ok (.istore 10, 2) := by decide +kernel
theorem dX10_goOn_51 : decode cX10_goOn 51 = .ok (.iconst 0, 1) := by decide +kernel
theorem dX10_goOn_52 : decode cX10_goOn 52 = .ok (.istore 11, 2) := by decide +kernel
theorem dX10_goOn_54 : decode cX10_goOn 54 = .ok (.iload 11, 2) := by decide +kernel
theorem dX10_goOn_56 : decode cX10_goOn 56 = .ok (.aload_n 0, 1) := by decide +kernel
theorem dX10_goOn_57 : decode cX10_goOn 57 = .ok (.getfield 13, 3) := by decide +kernel
theorem dX10_goOn_60 : decode cX10_goOn 60 = .ok (.iload 7, 2) := by decide +kernel
theorem dX10_goOn_62 : decode cX10_goOn 62 = .ok (.iaload, 1) := by decide +kernel
theorem dX10_goOn_63 : decode cX10_goOn 63 = .ok (.if_icmp .ge 265, 3) := by decide +kernel
theorem dX10_goOn_66 : decode cX10_goOn 66 = .ok (.iload 10, 2) := by decide +kernel
theorem dX10_goOn_68 : decode cX10_goOn 68 = .ok (.ifCond .eq 260, 3) := by decide +kernel
theorem dX10_goOn_71 : decode cX10_goOn 71 = .ok (.aload_n 0, 1) := by decide +kernel
theorem dX10_goOn_72 : decode cX10_goOn 72 = .ok (.getfield 16, 3) := by decide +kernel
theorem dX10_goOn_75 : decode cX10_goOn 75 = .ok (.bipush 12, 2) := by decide +kernel
theorem dX10_goOn_77 : decode cX10_goOn 77 = .ok (.iload 7, 2) := by decide +kernel
theorem dX10_goOn_79 : decode cX10_goOn 79 = .ok (.imul, 1) := by decide +kernel
theorem dX10_goOn_80 : decode cX10_goOn 80 = .ok (.iload 11, 2) := by decide +kernel
theorem dX10_goOn_82 : decode cX10_goOn 82 = .ok (.iadd, 1) := by decide +kernel
theorem dX10_goOn_83 : decode cX10_goOn 83 = .ok (.iaload, 1) := by decide +kernel
theorem dX10_goOn_84 : decode cX10_goOn 84 = .ok (.iload_n 1, 1) := by decide +kernel
theorem dX10_goOn_85 : decode cX10_goOn 85 = .ok (.if_icmp .ne 19, 3) := by decide +kernel
theorem dX10_goOn_88 : decode cX10_goOn 88 = .ok (.aload_n 0, 1) := by decide +kernel
theorem dX10_goOn_89 : decode cX10_goOn 89 = .ok (.getfield 81, 3) := by decide +kernel
theorem dX10_goOn_92 : decode cX10_goOn 92 = .ok (.iload 11, 2) := by decide +kernel
theorem dX10_goOn_94 : decode cX10_goOn 94 = .ok (.laload, 1) := by decide +kernel
theorem dX10_goOn_95 : decode cX10_goOn 95 = .ok (.lload_n 3, 1) := by decide +kernel
theorem dX10_goOn_96 : decode cX10_goOn 96 = .ok (.lcmp, 1) := by decide +kernel
theorem dX10_goOn_97 : decode cX10_goOn 97 = .ok (.ifCond .lt 7, 3) := by decide +kernel
theorem dX10_goOn_100 : decode cX10_goOn 100 = .ok (.iconst 1, 1) := by decide +kernel
theorem dX10_goOn_101 : decode cX10_goOn 101 = .ok (.goto 4, 3) := by decide +kernel
theorem dX10_goOn_104 : decode cX10_goOn 104 = .ok (.iconst 0, 1) := by decide +kernel
theorem dX10_goOn_105 : decode cX10_goOn 105 = .ok (.istore 12, 2) := by decide +kernel
theorem dX10_goOn_107 : decode cX10_goOn 107 = .ok (.iload 11, 2) := by decide +kernel
theorem dX10_goOn_109 : decode cX10_goOn 109 = .ok (.iconst 1, 1) := by decide +kernel
theorem dX10_goOn_110 : decode cX10_goOn 110 = .ok (.iadd, 1) := by decide +kernel
theorem dX10_goOn_111 : decode cX10_goOn 111 = .ok (.istore 13, 2) := by decide +kernel
theorem dX10_goOn_113 : decode cX10_goOn 113 = .ok (.iload 13, 2) := by decide +kernel
theorem dX10_goOn_115 : decode cX10_goOn 115 = .ok (.aload_n 0, 1) := by decide +kernel
theorem dX10_goOn_116 : decode cX10_goOn 116 = .ok (.getfield 13, 3) := by decide +kernel
theorem dX10_goOn_119 : decode cX10_goOn 119 = .ok (.iload 7, 2) := by decide +kernel
theorem dX10_goOn_121 : decode cX10_goOn 121 = .ok (.iaload, 1) := by decide +kernel
theorem dX10_goOn_122 : decode cX10_goOn 122 = .ok (.if_icmp .ge 200, 3) := by decide +kernel
theorem dX10_goOn_125 : decode cX10_goOn 125 = .ok (.iload 12, 2) := by decide +kernel
theorem dX10_goOn_127 : decode cX10_goOn 127 = .ok (.ifCond .eq 195, 3) := by decide +kernel
theorem dX10_goOn_130 : decode cX10_goOn 130 = .ok (.aload_n 0, 1) := by decide +kernel
theorem dX10_goOn_131 : decode cX10_goOn 131 = .ok (.getfield 16, 3) := by decide +kernel
theorem dX10_goOn_134 : decode cX10_goOn 134 = .ok (.bipush 12, 2) := by decide +kernel
theorem dX10_goOn_136 : decode cX10_goOn 136 = .ok (.iload 7, 2) := by decide +kernel
theorem dX10_goOn_138 : decode cX10_goOn 138 = .ok (.imul, 1) := by decide +kernel
theorem dX10_goOn_139 : decode cX10_goOn 139 = .ok (.iload 13, 2) := by decide +kernel
theorem dX10_goOn_141 : decode cX10_goOn 141 = .ok (.iadd, 1) := by decide +kernel
theorem dX10_goOn_142 : decode cX10_goOn 142 = .ok (.iaload, 1) := by decide +kernel
theorem dX10_goOn_143 : decode cX10_goOn 143 = .ok (.iload_n 2, 1) := by decide +kernel
theorem dX10_goOn_144 : decode cX10_goOn 144 = .ok (.if_icmp .ne 172, 3) := by decide +kernel
theorem dX10_goOn_147 : decode cX10_goOn 147 = .ok (.aload_n 0, 1) := by decide +kernel
theorem dX10_goOn_148 : decode cX10_goOn 148 = .ok (.iload 11, 2) := by decide +kernel
theorem dX10_goOn_150 : decode cX10_goOn 150 = .ok (.iload 13, 2) := by decide +kernel
theorem dX10_goOn_152 : decode cX10_goOn 152 = .ok (.invokevirtual 182, 3) := by decide +kernel
theorem dX10_goOn_155 : decode cX10_goOn 155 = .ok (.ifCond .eq 161, 3) := by decide +kernel
theorem dX10_goOn_158 : decode cX10_goOn 158 = .ok (.aload_n 0, 1) := by decide +kernel
theorem dX10_goOn_159 : decode cX10_goOn 159 = .ok (.getfield 93, 3) := by decide +kernel
theorem dX10_goOn_162 : decode cX10_goOn 162 = .ok (.iconst 0, 1) := by decide +kernel
theorem dX10_goOn_163 : decode cX10_goOn 163 = .ok (.aload_n 0, 1) := by decide +kernel
theorem dX10_goOn_164 : decode cX10_goOn 164 = .ok (.getfield 81, 3) := by decide +kernel
theorem dX10_goOn_167 : decode cX10_goOn 167 = .ok (.iload 11, 2) := by decide +kernel
theorem dX10_goOn_169 : decode cX10_goOn 169 = .ok (.laload, 1) := by decide +kernel
theorem dX10_goOn_170 : decode cX10_goOn 170 = .ok (.lastore, 1) := by decide +kernel
theorem dX10_goOn_171 : decode cX10_goOn 171 = .ok (.aload_n 0, 1) := by decide +kernel
theorem dX10_goOn_172 : decode cX10_goOn 172 = .ok (.getfield 93, 3) := by decide +kernel
theorem dX10_goOn_175 : decode cX10_goOn 175 = .ok (.iconst 1, 1) := by decide +kernel
theorem dX10_goOn_176 : decode cX10_goOn 176 = .ok (.aload_n 0, 1) := by decide +kernel
theorem dX10_goOn_177 : decode cX10_goOn 177 = .ok (.getfield 78, 3) := by decide +kernel
theorem dX10_goOn_180 : decode cX10_goOn 180 = .ok (.iload 13, 2) := by decide +kernel
theorem dX10_goOn_182 : decode cX10_goOn 182 = .ok (.laload, 1) := by decide +kernel
theorem dX10_goOn_183 : decode cX10_goOn 183 = .ok (.lastore, 1) := by decide +kernel
theorem dX10_goOn_184 : decode cX10_goOn 184 = .ok (.aload_n 0, 1) := by decide +kernel
theorem dX10_goOn_185 : decode cX10_goOn 185 = .ok (.getfield 93, 3) := by decide +kernel
theorem dX10_goOn_188 : decode cX10_goOn 188 = .ok (.iconst 2, 1) := by decide +kernel
theorem dX10_goOn_189 : decode cX10_goOn 189 = .ok (.iload 7, 2) := by decide +kernel
theorem dX10_goOn_191 : decode cX10_goOn 191 = .ok (.i2l, 1) := by decide +kernel
theorem dX10_goOn_192 : decode cX10_goOn 192 = .ok (.lastore, 1) := by decide +kernel
theorem dX10_goOn_193 : decode cX10_goOn 193 = .ok (.aload_n 0, 1) := by decide +kernel
theorem dX10_goOn_194 : decode cX10_goOn 194 = .ok (.getfield 93, 3) := by decide +kernel
theorem dX10_goOn_197 : decode cX10_goOn 197 = .ok (.iconst 3, 1) := by decide +kernel
theorem dX10_goOn_198 : decode cX10_goOn 198 = .ok (.lload 8, 2) := by decide +kernel
theorem dX10_goOn_200 : decode cX10_goOn 200 = .ok (.lastore, 1) := by decide +kernel
theorem dX10_goOn_201 : decode cX10_goOn 201 = .ok (.aload_n 0, 1) := by decide +kernel
theorem dX10_goOn_202 : decode cX10_goOn 202 = .ok (.getfield 93, 3) := by decide +kernel
theorem dX10_goOn_205 : decode cX10_goOn 205 = .ok (.iconst 4, 1) := by decide +kernel
theorem dX10_goOn_206 : decode cX10_goOn 206 = .ok (.iload 11, 2) := by decide +kernel
theorem dX10_goOn_208 : decode cX10_goOn 208 = .ok (.i2l, 1) := by decide +kernel
theorem dX10_goOn_209 : decode cX10_goOn 209 = .ok (.lastore, 1) := by decide +kernel
theorem dX10_goOn_210 : decode cX10_goOn 210 = .ok (.aload_n 0, 1) := by decide +kernel
theorem dX10_goOn_211 : decode cX10_goOn 211 = .ok (.getfield 93, 3) := by decide +kernel
theorem dX10_goOn_214 : decode cX10_goOn 214 = .ok (.iconst 5, 1) := by decide +kernel
theorem dX10_goOn_215 : decode cX10_goOn 215 = .ok (.iload 13, 2) := by decide +kernel
theorem dX10_goOn_217 : decode cX10_goOn 217 = .ok (.i2l, 1) := by decide +kernel
theorem dX10_goOn_218 : decode cX10_goOn 218 = .ok (.lastore, 1) := by decide +kernel
theorem dX10_goOn_219 : decode cX10_goOn 219 = .ok (.iload 5, 2) := by decide +kernel
theorem dX10_goOn_221 : decode cX10_goOn 221 = .ok (.ifCond .ne 17, 3) := by decide +kernel
theorem dX10_goOn_224 : decode cX10_goOn 224 = .ok (.aload_n 0, 1) := by decide +kernel
theorem dX10_goOn_225 : decode cX10_goOn 225 = .ok (.getfield 93, 3) := by decide +kernel
theorem dX10_goOn_228 : decode cX10_goOn 228 = .ok (.aload_n 0, 1) := by decide +kernel
theorem dX10_goOn_229 : decode cX10_goOn 229 = .ok (.getfield 87, 3) := by decide +kernel
theorem dX10_goOn_232 : decode cX10_goOn 232 = .ok (.invokestatic 208, 3) := by decide +kernel
theorem dX10_goOn_235 : decode cX10_goOn 235 = .ok (.ifCond .le 26, 3) := by decide +kernel
theorem dX10_goOn_238 : decode cX10_goOn 238 = .ok (.iload 6, 2) := by decide +kernel
theorem dX10_goOn_240 : decode cX10_goOn 240 = .ok (.ifCond .eq 17, 3) := by decide +kernel
theorem dX10_goOn_243 : decode cX10_goOn 243 = .ok (.aload_n 0, 1) := by decide +kernel
theorem dX10_goOn_244 : decode cX10_goOn 244 = .ok (.getfield 93, 3) := by decide +kernel
theorem dX10_goOn_247 : decode cX10_goOn 247 = .ok (.aload_n 0, 1) := by decide +kernel
theorem dX10_goOn_248 : decode cX10_goOn 248 = .ok (.getfield 90, 3) := by decide +kernel
theorem dX10_goOn_251 : decode cX10_goOn 251 = .ok (.invokestatic 208, 3) := by decide +kernel
theorem dX10_goOn_254 : decode cX10_goOn 254 = .ok (.ifCond .ge 7, 3) := by decide +kernel
theorem dX10_goOn_257 : decode cX10_goOn 257 = .ok (.iconst 1, 1) := by decide +kernel
theorem dX10_goOn_258 : decode cX10_goOn 258 = .ok (.goto 4, 3) := by decide +kernel
theorem dX10_goOn_261 : decode cX10_goOn 261 = .ok (.iconst 0, 1) := by decide +kernel
theorem dX10_goOn_262 : decode cX10_goOn 262 = .ok (.istore 14, 2) := by decide +kernel
theorem dX10_goOn_264 : decode cX10_goOn 264 = .ok (.iconst 0, 1) := by decide +kernel
theorem dX10_goOn_265 : decode cX10_goOn 265 = .ok (.istore 15, 2) := by decide +kernel
theorem dX10_goOn_267 : decode cX10_goOn 267 = .ok (.iload 15, 2) := by decide +kernel
theorem dX10_goOn_269 : decode cX10_goOn 269 = .ok (.bipush 6, 2) := by decide +kernel
theorem dX10_goOn_271 : decode cX10_goOn 271 = .ok (.if_icmp .ge 28, 3) := by decide +kernel
theorem dX10_goOn_274 : decode cX10_goOn 274 = .ok (.iload 14, 2) := by decide +kernel
theorem dX10_goOn_276 : decode cX10_goOn 276 = .ok (.ifCond .eq 23, 3) := by decide +kernel
theorem dX10_goOn_279 : decode cX10_goOn 279 = .ok (.aload_n 0, 1) := by decide +kernel
theorem dX10_goOn_280 : decode cX10_goOn 280 = .ok (.getfield 90, 3) := by decide +kernel
theorem dX10_goOn_283 : decode cX10_goOn 283 = .ok (.iload 15, 2) := by decide +kernel
theorem dX10_goOn_285 : decode cX10_goOn 285 = .ok (.aload_n 0, 1) := by decide +kernel
theorem dX10_goOn_286 : decode cX10_goOn 286 = .ok (.getfield 93, 3) := by decide +kernel
theorem dX10_goOn_289 : decode cX10_goOn 289 = .ok (.iload 15, 2) := by decide +kernel
theorem dX10_goOn_291 : decode cX10_goOn 291 = .ok (.laload, 1) := by decide +kernel
theorem dX10_goOn_292 : decode cX10_goOn 292 = .ok (.lastore, 1) := by decide +kernel
theorem dX10_goOn_293 : decode cX10_goOn 293 = .ok (.iinc 15 1, 3) := by decide +kernel
theorem dX10_goOn_296 : decode cX10_goOn 296 = .ok (.goto (-29), 3) := by decide +kernel
theorem dX10_goOn_299 : decode cX10_goOn 299 = .ok (.iload 6, 2) := by decide +kernel
theorem dX10_goOn_301 : decode cX10_goOn 301 = .ok (.ifCond .ne 8, 3) := by decide +kernel
theorem dX10_goOn_304 : decode cX10_goOn 304 = .ok (.iload 14, 2) := by decide +kernel
theorem dX10_goOn_306 : decode cX10_goOn 306 = .ok (.ifCond .eq 7, 3) := by decide +kernel
theorem dX10_goOn_309 : decode cX10_goOn 309 = .ok (.iconst 1, 1) := by decide +kernel
theorem dX10_goOn_310 : decode cX10_goOn 310 = .ok (.goto 4, 3) := by decide +kernel
theorem dX10_goOn_313 : decode cX10_goOn 313 = .ok (.iconst 0, 1) := by decide +kernel
theorem dX10_goOn_314 : decode cX10_goOn 314 = .ok (.istore 6, 2) := by decide +kernel
theorem dX10_goOn_316 : decode cX10_goOn 316 = .ok (.iinc 13 1, 3) := by decide +kernel
theorem dX10_goOn_319 : decode cX10_goOn 319 = .ok (.goto (-206), 3) := by decide +kernel
theorem dX10_goOn_322 : decode cX10_goOn 322 = .ok (.iinc 11 1, 3) := by decide +kernel
theorem dX10_goOn_325 : decode cX10_goOn 325 = .ok (.goto (-271), 3) := by decide +kernel
theorem dX10_goOn_328 : decode cX10_goOn 328 = .ok (.lload 8, 2) := by decide +kernel
theorem dX10_goOn_330 : decode cX10_goOn 330 = .ok (.lconst 1, 1) := by decide +kernel
theorem dX10_goOn_331 : decode cX10_goOn 331 = .ok (.ladd, 1) := by decide +kernel
theorem dX10_goOn_332 : decode cX10_goOn 332 = .ok (.lstore 8, 2) := by decide +kernel
theorem dX10_goOn_334 : decode cX10_goOn 334 = .ok (.goto (-308), 3) := by decide +kernel
theorem dX10_goOn_337 : decode cX10_goOn 337 = .ok (.iinc 7 1, 3) := by decide +kernel
theorem dX10_goOn_340 : decode cX10_goOn 340 = .ok (.goto (-334), 3) := by decide +kernel
theorem dX10_goOn_343 : decode cX10_goOn 343 = .ok (.iconst 0, 1) := by decide +kernel
theorem dX10_goOn_344 : decode cX10_goOn 344 = .ok (.istore 7, 2) := by decide +kernel
theorem dX10_goOn_346 : decode cX10_goOn 346 = .ok (.iload 7, 2) := by decide +kernel
theorem dX10_goOn_348 : decode cX10_goOn 348 = .ok (.bipush 6, 2) := by decide +kernel
theorem dX10_goOn_350 : decode cX10_goOn 350 = .ok (.if_icmp .ge 23, 3) := by decide +kernel
theorem dX10_goOn_353 : decode cX10_goOn 353 = .ok (.aload_n 0, 1) := by decide +kernel
theorem dX10_goOn_354 : decode cX10_goOn 354 = .ok (.getfield 87, 3) := by decide +kernel
theorem dX10_goOn_357 : decode cX10_goOn 357 = .ok (.iload 7, 2) := by decide +kernel
theorem dX10_goOn_359 : decode cX10_goOn 359 = .ok (.aload_n 0, 1) := by decide +kernel
theorem dX10_goOn_360 : decode cX10_goOn 360 = .ok (.getfield 90, 3) := by decide +kernel
theorem dX10_goOn_363 : decode cX10_goOn 363 = .ok (.iload 7, 2) := by decide +kernel
theorem dX10_goOn_365 : decode cX10_goOn 365 = .ok (.laload, 1) := by decide +kernel
theorem dX10_goOn_366 : decode cX10_goOn 366 = .ok (.lastore, 1) := by decide +kernel
theorem dX10_goOn_367 : decode cX10_goOn 367 = .ok (.iinc 7 1, 3) := by decide +kernel
theorem dX10_goOn_370 : decode cX10_goOn 370 = .ok (.goto (-24), 3) := by decide +kernel
theorem dX10_goOn_373 : decode cX10_goOn 373 = .ok (.iload 6, 2) := by decide +kernel
theorem dX10_goOn_375 : decode cX10_goOn 375 = .ok (.ireturn, 1) := by decide +kernel
theorem dX10_next_0 : decode cX10_next 0 = .ok (.aload_n 0, 1) := by decide +kernel
theorem dX10_next_1 : decode cX10_next 1 = .ok (.iload_n 1, 1) := by decide +kernel
theorem dX10_next_2 : decode cX10_next 2 = .ok (.invokestatic 119, 3) := by decide +kernel
theorem dX10_next_5 : decode cX10_next 5 = .ok (.ifCond .eq 10, 3) := by decide +kernel
theorem dX10_next_8 : decode cX10_next 8 = .ok (.iload_n 2, 1) := by decide +kernel
theorem dX10_next_9 : decode cX10_next 9 = .ok (.invokestatic 119, 3) := by decide +kernel
theorem dX10_next_12 : decode cX10_next 12 = .ok (.ifCond .ne 7, 3) := by decide +kernel
theorem dX10_next_15 : decode cX10_next 15 = .ok (.iconst 1, 1) := by decide +kernel
theorem dX10_next_16 : decode cX10_next 16 = .ok (.goto 4, 3) := by decide +kernel
theorem dX10_next_19 : decode cX10_next 19 = .ok (.iconst 0, 1) := by decide +kernel
theorem dX10_next_20 : decode cX10_next 20 = .ok (.lload_n 3, 1) := by decide +kernel
theorem dX10_next_21 : decode cX10_next 21 = .ok (.lconst 0, 1) := by decide +kernel
theorem dX10_next_22 : decode cX10_next 22 = .ok (.ldc2_w 186, 3) := by decide +kernel
theorem dX10_next_25 : decode cX10_next 25 = .ok (.invokestatic 105, 3) := by decide +kernel
theorem dX10_next_28 : decode cX10_next 28 = .ok (.ifCond .eq 16, 3) := by decide +kernel
theorem dX10_next_31 : decode cX10_next 31 = .ok (.iload 5, 2) := by decide +kernel
theorem dX10_next_33 : decode cX10_next 33 = .ok (.i2l, 1) := by decide +kernel
theorem dX10_next_34 : decode cX10_next 34 = .ok (.lconst 0, 1) := by decide +kernel
theorem dX10_next_35 : decode cX10_next 35 = .ok (.ldc2_w 212, 3) := by decide +kernel
theorem dX10_next_38 : decode cX10_next 38 = .ok (.invokestatic 105, 3) := by decide +kernel
theorem dX10_next_41 : decode cX10_next 41 = .ok (.ifCond .ne 7, 3) := by decide +kernel
theorem dX10_next_44 : decode cX10_next 44 = .ok (.iconst 1, 1) := by decide +kernel
theorem dX10_next_45 : decode cX10_next 45 = .ok (.goto 4, 3) := by decide +kernel
theorem dX10_next_48 : decode cX10_next 48 = .ok (.iconst 0, 1) := by decide +kernel
theorem dX10_next_49 : decode cX10_next 49 = .ok (.iconst 0, 1) := by decide +kernel
theorem dX10_next_50 : decode cX10_next 50 = .ok (.invokevirtual 111, 3) := by decide +kernel
theorem dX10_next_53 : decode cX10_next 53 = .ok (.ifCond .eq 5, 3) := by decide +kernel
theorem dX10_next_56 : decode cX10_next 56 = .ok (.iconst 0, 1) := by decide +kernel
theorem dX10_next_57 : decode cX10_next 57 = .ok (.ireturn, 1) := by decide +kernel
theorem dX10_next_58 : decode cX10_next 58 = .ok (.iconst 0, 1) := by decide +kernel
theorem dX10_next_59 : decode cX10_next 59 = .ok (.istore 6, 2) := by decide +kernel
theorem dX10_next_61 : decode cX10_next 61 = .ok (.iload 6, 2) := by decide +kernel
theorem dX10_next_63 : decode cX10_next 63 = .ok (.iload 5, 2) := by decide +kernel
theorem dX10_next_65 : decode cX10_next 65 = .ok (.if_icmp .gt 31, 3) := by decide +kernel
theorem dX10_next_68 : decode cX10_next 68 = .ok (.aload_n 0, 1) := by decide +kernel
theorem dX10_next_69 : decode cX10_next 69 = .ok (.iload_n 1, 1) := by decide +kernel
theorem dX10_next_70 : decode cX10_next 70 = .ok (.iload_n 2, 1) := by decide +kernel
theorem dX10_next_71 : decode cX10_next 71 = .ok (.lload_n 3, 1) := by decide +kernel
theorem dX10_next_72 : decode cX10_next 72 = .ok (.iload 6, 2) := by decide +kernel
theorem dX10_next_74 : decode cX10_next 74 = .ok (.ifCond .ne 7, 3) := by decide +kernel
theorem dX10_next_77 : decode cX10_next 77 = .ok (.iconst 1, 1) := by decide +kernel
theorem dX10_next_78 : decode cX10_next 78 = .ok (.goto 4, 3) := by decide +kernel
theorem dX10_next_81 : decode cX10_next 81 = .ok (.iconst 0, 1) := by decide +kernel
theorem dX10_next_82 : decode cX10_next 82 = .ok (.invokevirtual 214, 3) := by decide +kernel
theorem dX10_next_85 : decode cX10_next 85 = .ok (.ifCond .ne 5, 3) := by decide +kernel
theorem dX10_next_88 : decode cX10_next 88 = .ok (.iconst (-1), 1) := by decide +kernel
theorem dX10_next_89 : decode cX10_next 89 = .ok (.ireturn, 1) := by decide +kernel
theorem dX10_next_90 : decode cX10_next 90 = .ok (.iinc 6 1, 3) := by decide +kernel
theorem dX10_next_93 : decode cX10_next 93 = .ok (.goto (-32), 3) := by decide +kernel
theorem dX10_next_96 : decode cX10_next 96 = .ok (.aload_n 0, 1) := by decide +kernel
theorem dX10_next_97 : decode cX10_next 97 = .ok (.getfield 87, 3) := by decide +kernel
theorem dX10_next_100 : decode cX10_next 100 = .ok (.iconst 0, 1) := by decide +kernel
theorem dX10_next_101 : decode cX10_next 101 = .ok (.laload, 1) := by decide +kernel
theorem dX10_next_102 : decode cX10_next 102 = .ok (.l2i, 1) := by decide +kernel
theorem dX10_next_103 : decode cX10_next 103 = .ok (.ireturn, 1) := by decide +kernel
theorem dX10_sign_0 : decode cX10_sign 0 = .ok (.aload_n 0, 1) := by decide +kernel
theorem dX10_sign_1 : decode cX10_sign 1 = .ok (.iload_n 1, 1) := by decide +kernel
theorem dX10_sign_2 : decode cX10_sign 2 = .ok (.i2l, 1) := by decide +kernel
theorem dX10_sign_3 : decode cX10_sign 3 = .ok (.ldc2_w 218, 3) := by decide +kernel
theorem dX10_sign_6 : decode cX10_sign 6 = .ok (.ldc2_w 220, 3) := by decide +kernel
theorem dX10_sign_9 : decode cX10_sign 9 = .ok (.invokestatic 105, 3) := by decide +kernel
theorem dX10_sign_12 : decode cX10_sign 12 = .ok (.ifCond .ne 7, 3) := by decide +kernel
theorem dX10_sign_15 : decode cX10_sign 15 = .ok (.iconst 1, 1) := by decide +kernel
theorem dX10_sign_16 : decode cX10_sign 16 = .ok (.goto 4, 3) := by decide +kernel
theorem dX10_sign_19 : decode cX10_sign 19 = .ok (.iconst 0, 1) := by decide +kernel
theorem dX10_sign_20 : decode cX10_sign 20 = .ok (.aload_n 0, 1) := by decide +kernel
theorem dX10_sign_21 : decode cX10_sign 21 = .ok (.getfield 222, 3) := by decide +kernel
theorem dX10_sign_24 : decode cX10_sign 24 = .ok (.sipush 500, 3) := by decide +kernel
theorem dX10_sign_27 : decode cX10_sign 27 = .ok (.if_icmp .ne 7, 3) := by decide +kernel
theorem dX10_sign_30 : decode cX10_sign 30 = .ok (.iconst 1, 1) := by decide +kernel
theorem dX10_sign_31 : decode cX10_sign 31 = .ok (.goto 4, 3) := by decide +kernel
theorem dX10_sign_34 : decode cX10_sign 34 = .ok (.iconst 0, 1) := by decide +kernel
theorem dX10_sign_35 : decode cX10_sign 35 = .ok (.iconst 0, 1) := by decide +kernel
theorem dX10_sign_36 : decode cX10_sign 36 = .ok (.invokevirtual 111, 3) := by decide +kernel
theorem dX10_sign_39 : decode cX10_sign 39 = .ok (.ifCond .ne 23, 3) := by decide +kernel
theorem dX10_sign_42 : decode cX10_sign 42 = .ok (.aload_n 0, 1) := by decide +kernel
theorem dX10_sign_43 : decode cX10_sign 43 = .ok (.getfield 75, 3) := by decide +kernel
theorem dX10_sign_46 : decode cX10_sign 46 = .ok (.aload_n 0, 1) := by decide +kernel
theorem dX10_sign_47 : decode cX10_sign 47 = .ok (.getfield 222, 3) := by decide +kernel
theorem dX10_sign_50 : decode cX10_sign 50 = .ok (.iload_n 1, 1) := by decide +kernel
theorem dX10_sign_51 : decode cX10_sign 51 = .ok (.iastore, 1) := by decide +kernel
theorem dX10_sign_52 : decode cX10_sign 52 = .ok (.aload_n 0, 1) := by decide +kernel
theorem dX10_sign_53 : decode cX10_sign 53 = .ok (.dup, 1) := by decide +kernel
theorem dX10_sign_54 : decode cX10_sign 54 = .ok (.getfield 222, 3) := by decide +kernel
theorem dX10_sign_57 : decode cX10_sign 57 = .ok (.iconst 1, 1) := by decide +kernel
theorem dX10_sign_58 : decode cX10_sign 58 = .ok (.iadd, 1) := by decide +kernel
theorem dX10_sign_59 : decode cX10_sign 59 = .ok (.putfield 222, 3) := by decide +kernel
theorem dX10_sign_62 : decode cX10_sign 62 = .ok (.return_, 1) := by decide +kernel
theorem dX10_fail_0 : decode cX10_fail 0 = .ok (.aload_n 0, 1) := by decide +kernel
theorem dX10_fail_1 : decode cX10_fail 1 = .ok (.aload_n 0, 1) := by decide +kernel
theorem dX10_fail_2 : decode cX10_fail 2 = .ok (.getfield 225, 3) := by decide +kernel
theorem dX10_fail_5 : decode cX10_fail 5 = .ok (.ifCond .ge 7, 3) := by decide +kernel
theorem dX10_fail_8 : decode cX10_fail 8 = .ok (.iload_n 1, 1) := by decide +kernel
theorem dX10_fail_9 : decode cX10_fail 9 = .ok (.goto 7, 3) := by decide +kernel
theorem dX10_fail_12 : decode cX10_fail 12 = .ok (.aload_n 0, 1) := by decide +kernel
theorem dX10_fail_13 : decode cX10_fail 13 = .ok (.getfield 225, 3) := by decide +kernel
theorem dX10_fail_16 : decode cX10_fail 16 = .ok (.putfield 225, 3) := by decide +kernel
theorem dX10_fail_19 : decode cX10_fail 19 = .ok (.return_, 1) := by decide +kernel
theorem dX10_look_0 : decode cX10_look 0 = .ok (.aload_n 0, 1) := by decide +kernel
theorem dX10_look_1 : decode cX10_look 1 = .ok (.getfield 228, 3) := by decide +kernel
theorem dX10_look_4 : decode cX10_look 4 = .ok (.aload_n 0, 1) := by decide +kernel
theorem dX10_look_5 : decode cX10_look 5 = .ok (.getfield 222, 3) := by decide +kernel
theorem dX10_look_8 : decode cX10_look 8 = .ok (.if_icmp .ge 15, 3) := by decide +kernel
theorem dX10_look_11 : decode cX10_look 11 = .ok (.aload_n 0, 1) := by decide +kernel
theorem dX10_look_12 : decode cX10_look 12 = .ok (.getfield 75, 3) := by decide +kernel
theorem dX10_look_15 : decode cX10_look 15 = .ok (.aload_n 0, 1) := by decide +kernel
theorem dX10_look_16 : decode cX10_look 16 = .ok (.getfield 228, 3) := by decide +kernel
theorem dX10_look_19 : decode cX10_look 19 = .ok (.iaload, 1) := by decide +kernel
theorem dX10_look_20 : decode cX10_look 20 = .ok (.goto 4, 3) := by decide +kernel
theorem dX10_look_23 : decode cX10_look 23 = .ok (.iconst (-1), 1) := by decide +kernel
theorem dX10_look_24 : decode cX10_look 24 = .ok (.ireturn, 1) := by decide +kernel
theorem dX10_number_0 : decode cX10_number 0 = .ok (.aload_n 0, 1) := by decide +kernel
theorem dX10_number_1 : decode cX10_number 1 = .ok (.getfield 228, 3) := by decide +kernel
theorem dX10_number_4 : decode cX10_number 4 = .ok (.istore_n 2, 1) := by decide +kernel
theorem dX10_number_5 : decode cX10_number 5 = .ok (.iconst 0, 1) := by decide +kernel
theorem dX10_number_6 : decode cX10_number 6 = .ok (.istore_n 3, 1) := by decide +kernel
theorem dX10_number_7 : decode cX10_number 7 = .ok (.aload_n 0, 1) := by decide +kernel
theorem dX10_number_8 : decode cX10_number 8 = .ok (.getfield 228, 3) := by decide +kernel
theorem dX10_number_11 : decode cX10_number 11 = .ok (.iload_n 2, 1) := by decide +kernel
theorem dX10_number_12 : decode cX10_number 12 = .ok (.bipush 6, 2) := by decide +kernel
theorem dX10_number_14 : decode cX10_number 14 = .ok (.iadd, 1) := by decide +kernel
theorem dX10_number_15 : decode cX10_number 15 = .ok (.if_icmp .ge 47, 3) := by decide +kernel
theorem dX10_number_18 : decode cX10_number 18 = .ok (.aload_n 0, 1) := by decide +kernel
theorem dX10_number_19 : decode cX10_number 19 = .ok (.invokevirtual 231, 3) := by decide +kernel
theorem dX10_number_22 : decode cX10_number 22 = .ok (.bipush 48, 2) := by decide +kernel
theorem dX10_number_24 : decode cX10_number 24 = .ok (.if_icmp .lt 38, 3) := by decide +kernel
theorem dX10_number_27 : decode cX10_number 27 = .ok (.aload_n 0, 1) := by decide +kernel
theorem dX10_number_28 : decode cX10_number 28 = .ok (.invokevirtual 231, 3) := by decide +kernel
theorem dX10_number_31 : decode cX10_number 31 = .ok (.bipush 57, 2) := by decide +kernel
theorem dX10_number_33 : decode cX10_number 33 = .ok (.if_icmp .gt 29, 3) := by decide +kernel
theorem dX10_number_36 : decode cX10_number 36 = .ok (.bipush 10, 2) := by decide +kernel
theorem dX10_number_38 : decode cX10_number 38 = .ok (.iload_n 3, 1) := by decide +kernel
theorem dX10_number_39 : decode cX10_number 39 = .ok (.imul, 1) := by decide +kernel
theorem dX10_number_40 : decode cX10_number 40 = .ok (.aload_n 0, 1) := by decide +kernel
theorem dX10_number_41 : decode cX10_number 41 = .ok (.invokevirtual 231, 3) := by decide +kernel
theorem dX10_number_44 : decode cX10_number 44 = .ok (.iadd, 1) := by decide +kernel
theorem dX10_number_45 : decode cX10_number 45 = .ok (.bipush 48, 2) := by decide +kernel
theorem dX10_number_47 : decode cX10_number 47 = .ok (.isub, 1) := by decide +kernel
theorem dX10_number_48 : decode cX10_number 48 = .ok (.istore_n 3, 1) := by decide +kernel
theorem dX10_number_49 : decode cX10_number 49 = .ok (.aload_n 0, 1) := by decide +kernel
theorem dX10_number_50 : decode cX10_number 50 = .ok (.dup, 1) := by decide +kernel
theorem dX10_number_51 : decode cX10_number 51 = .ok (.getfield 228, 3) := by decide +kernel
theorem dX10_number_54 : decode cX10_number 54 = .ok (.iconst 1, 1) := by decide +kernel
theorem dX10_number_55 : decode cX10_number 55 = .ok (.iadd, 1) := by decide +kernel
theorem dX10_number_56 : decode cX10_number 56 = .ok (.putfield 228, 3) := by decide +kernel
theorem dX10_number_59 : decode cX10_number 59 = .ok (.goto (-52), 3) := by decide +kernel
theorem dX10_number_62 : decode cX10_number 62 = .ok (.aload_n 0, 1) := by decide +kernel
theorem dX10_number_63 : decode cX10_number 63 = .ok (.getfield 228, 3) := by decide +kernel
theorem dX10_number_66 : decode cX10_number 66 = .ok (.iload_n 2, 1) := by decide +kernel
theorem dX10_number_67 : decode cX10_number 67 = .ok (.if_icmp .ne 14, 3) := by decide +kernel
theorem dX10_number_70 : decode cX10_number 70 = .ok (.aload_n 0, 1) := by decide +kernel
theorem dX10_number_71 : decode cX10_number 71 = .ok (.aload_n 0, 1) := by decide +kernel
theorem dX10_number_72 : decode cX10_number 72 = .ok (.getfield 228, 3) := by decide +kernel
theorem dX10_number_75 : decode cX10_number 75 = .ok (.invokevirtual 235, 3) := by decide +kernel
theorem dX10_number_78 : decode cX10_number 78 = .ok (.goto 13, 3) := by decide +kernel
theorem dX10_number_81 : decode cX10_number 81 = .ok (.iload_n 3, 1) := by decide +kernel
theorem dX10_number_82 : decode cX10_number 82 = .ok (.iload_n 1, 1) := by decide +kernel
theorem dX10_number_83 : decode cX10_number 83 = .ok (.if_icmp .le 8, 3) := by decide +kernel
theorem dX10_number_86 : decode cX10_number 86 = .ok (.aload_n 0, 1) := by decide +kernel
theorem dX10_number_87 : decode cX10_number 87 = .ok (.iload_n 2, 1) := by decide +kernel
theorem dX10_number_88 : decode cX10_number 88 = .ok (.invokevirtual 235, 3) := by decide +kernel
theorem dX10_number_91 : decode cX10_number 91 = .ok (.iload_n 3, 1) := by decide +kernel
theorem dX10_number_92 : decode cX10_number 92 = .ok (.ireturn, 1) := by decide +kernel
theorem dX10_blank_0 : decode cX10_blank 0 = .ok (.aload_n 0, 1) := by decide +kernel
theorem dX10_blank_1 : decode cX10_blank 1 = .ok (.invokevirtual 231, 3) := by decide +kernel
theorem dX10_blank_4 : decode cX10_blank 4 = .ok (.bipush 32, 2) := by decide +kernel
theorem dX10_blank_6 : decode cX10_blank 6 = .ok (.if_icmp .ne 16, 3) := by decide +kernel
theorem dX10_blank_9 : decode cX10_blank 9 = .ok (.aload_n 0, 1) := by decide +kernel
theorem dX10_blank_10 : decode cX10_blank 10 = .ok (.dup, 1) := by decide +kernel
theorem dX10_blank_11 : decode cX10_blank 11 = .ok (.getfield 228, 3) := by decide +kernel
theorem dX10_blank_14 : decode cX10_blank 14 = .ok (.iconst 1, 1) := by decide +kernel
theorem dX10_blank_15 : decode cX10_blank 15 = .ok (.iadd, 1) := by decide +kernel
theorem dX10_blank_16 : decode cX10_blank 16 = .ok (.putfield 228, 3) := by decide +kernel
theorem dX10_blank_19 : decode cX10_blank 19 = .ok (.goto 11, 3) := by decide +kernel
theorem dX10_blank_22 : decode cX10_blank 22 = .ok (.aload_n 0, 1) := by decide +kernel
theorem dX10_blank_23 : decode cX10_blank 23 = .ok (.aload_n 0, 1) := by decide +kernel
theorem dX10_blank_24 : decode cX10_blank 24 = .ok (.getfield 228, 3) := by decide +kernel
theorem dX10_blank_27 : decode cX10_blank 27 = .ok (.invokevirtual 235, 3) := by decide +kernel
theorem dX10_blank_30 : decode cX10_blank 30 = .ok (.return_, 1) := by decide +kernel
theorem dX10_readStop_0 : decode cX10_readStop 0 = .ok (.aload_n 0, 1) := by decide +kernel
theorem dX10_readStop_1 : decode cX10_readStop 1 = .ok (.getfield 228, 3) := by decide +kernel
theorem dX10_readStop_4 : decode cX10_readStop 4 = .ok (.istore_n 2, 1) := by decide +kernel
theorem dX10_readStop_5 : decode cX10_readStop 5 = .ok (.aload_n 0, 1) := by decide +kernel
theorem dX10_readStop_6 : decode cX10_readStop 6 = .ok (.dup, 1) := by decide +kernel
theorem dX10_readStop_7 : decode cX10_readStop 7 = .ok (.getfield 228, 3) := by decide +kernel
theorem dX10_readStop_10 : decode cX10_readStop 10 = .ok (.iconst 1, 1) := by decide +kernel
theorem dX10_readStop_11 : decode cX10_readStop 11 = .ok (.iadd, 1) := by decide +kernel
theorem dX10_readStop_12 : decode cX10_readStop 12 = .ok (.putfield 228, 3) := by decide +kernel
theorem dX10_readStop_15 : decode cX10_readStop 15 = .ok (.iload_n 1, 1) := by decide +kernel
theorem dX10_readStop_16 : decode cX10_readStop 16 = .ok (.ifCond .lt 14, 3) := by decide +kernel
theorem dX10_readStop_19 : decode cX10_readStop 19 = .ok (.aload_n 0, 1) := by decide +kernel
theorem dX10_readStop_20 : decode cX10_readStop 20 = .ok (.getfield 13, 3) := by decide +kernel
theorem dX10_readStop_23 : decode cX10_readStop 23 = .ok (.iload_n 1, 1) := by decide +kernel
theorem dX10_readStop_24 : decode cX10_readStop 24 = .ok (.iaload, 1) := by decide +kernel
theorem dX10_readStop_25 : decode cX10_readStop 25 = .ok (.bipush 12, 2) := by decide +kernel
theorem dX10_readStop_27 : decode cX10_readStop 27 = .ok (.if_icmp .ne 9, 3) := by decide +kernel
theorem dX10_readStop_30 : decode cX10_readStop 30 = .ok (.aload_n 0, 1) := by decide +kernel
theorem dX10_readStop_31 : decode cX10_readStop 31 = .ok (.iload_n 2, 1) := by decide +kernel
theorem dX10_readStop_32 : decode cX10_readStop 32 = .ok (.invokevirtual 235, 3) := by decide +kernel
theorem dX10_readStop_35 : decode cX10_readStop 35 = .ok (.return_, 1) := by decide +kernel
theorem dX10_readStop_36 : decode cX10_readStop 36 = .ok (.aload_n 0, 1) := by decide +kernel
theorem dX10_readStop_37 : decode cX10_readStop 37 = .ok (.bipush 99, 2) := by decide +kernel
theorem dX10_readStop_39 : decode cX10_readStop 39 = .ok (.invokevirtual 239, 3) := by decide +kernel
theorem dX10_readStop_42 : decode cX10_readStop 42 = .ok (.istore_n 3, 1) := by decide +kernel
theorem dX10_readStop_43 : decode cX10_readStop 43 = .ok (.aload_n 0, 1) := by decide +kernel
theorem dX10_readStop_44 : decode cX10_readStop 44 = .ok (.invokevirtual 243, 3) := by decide +kernel
theorem dX10_readStop_47 : decode cX10_readStop 47 = .ok (.aload_n 0, 1) := by decide +kernel
theorem dX10_readStop_48 : decode cX10_readStop 48 = .ok (.getfield 228, 3) := by decide +kernel
theorem dX10_readStop_51 : decode cX10_readStop 51 = .ok (.istore 4, 2) := by decide +kernel
theorem dX10_readStop_53 : decode cX10_readStop 53 = .ok (.aload_n 0, 1) := by decide +kernel
theorem dX10_readStop_54 : decode cX10_readStop 54 = .ok (.ldc 246, 2) := by decide +kernel
theorem dX10_readStop_56 : decode cX10_readStop 56 = .ok (.invokevirtual 239, 3) := by decide +kernel
theorem dX10_readStop_59 : decode cX10_readStop 59 = .ok (.istore 5, 2) := by decide +kernel
theorem dX10_readStop_61 : decode cX10_readStop 61 = .ok (.aload_n 0, 1) := by decide +kernel
theorem dX10_readStop_62 : decode cX10_readStop 62 = .ok (.getfield 13, 3) := by decide +kernel
theorem dX10_readStop_65 : decode cX10_readStop 65 = .ok (.iload_n 1, 1) := by decide +kernel
theorem dX10_readStop_66 : decode cX10_readStop 66 = .ok (.iaload, 1) := by decide +kernel
theorem dX10_readStop_67 : decode cX10_readStop 67 = .ok (.ifCond .le 34, 3) := by decide +kernel
theorem dX10_readStop_70 : decode cX10_readStop 70 = .ok (.iload 5, 2) := by decide +kernel
theorem dX10_readStop_72 : decode cX10_readStop 72 = .ok (.i2l, 1) := by decide +kernel
theorem dX10_readStop_73 : decode cX10_readStop 73 = .ok (.aload_n 0, 1) := by decide +kernel
theorem dX10_readStop_74 : decode cX10_readStop 74 = .ok (.getfield 23, 3) := by decide +kernel
theorem dX10_readStop_77 : decode cX10_readStop 77 = .ok (.bipush 12, 2) := by decide +kernel
theorem dX10_readStop_79 : decode cX10_readStop 79 = .ok (.iload_n 1, 1) := by decide +kernel
theorem dX10_readStop_80 : decode cX10_readStop 80 = .ok (.imul, 1) := by decide +kernel
theorem dX10_readStop_81 : decode cX10_readStop 81 = .ok (.aload_n 0, 1) := by decide +kernel
theorem dX10_readStop_82 : decode cX10_readStop 82 = .ok (.getfield 13, 3) := by decide +kernel
theorem dX10_readStop_85 : decode cX10_readStop 85 = .ok (.iload_n 1, 1) := by decide +kernel
theorem dX10_readStop_86 : decode cX10_readStop 86 = .ok (.iaload, 1) := by decide +kernel
theorem dX10_readStop_87 : decode cX10_readStop 87 = .ok (.iadd, 1) := by decide +kernel
theorem dX10_readStop_88 : decode cX10_readStop 88 = .ok (.iconst 1, 1) := by decide +kernel
theorem dX10_readStop_89 : decode cX10_readStop 89 = .ok (.isub, 1) := by decide +kernel
theorem dX10_readStop_90 : decode cX10_readStop 90 = .ok (.laload, 1) := by decide +kernel
theorem dX10_readStop_91 : decode cX10_readStop 91 = .ok (.lcmp, 1) := by decide +kernel
theorem dX10_readStop_92 : decode cX10_readStop 92 = .ok (.ifCond .ge 9, 3) := by decide +kernel
theorem dX10_readStop_95 : decode cX10_readStop 95 = .ok (.aload_n 0, 1) := by decide +kernel
theorem dX10_readStop_96 : decode cX10_readStop 96 = .ok (.iload 4, 2) := by decide +kernel
theorem dX10_readStop_98 : decode cX10_readStop 98 = .ok (.invokevirtual 235, 3) := by decide +kernel
theorem dX10_readStop_101 : decode cX10_readStop 101 = .ok (.aload_n 0, 1) := by decide +kernel
theorem dX10_readStop_102 : decode cX10_readStop 102 = .ok (.invokevirtual 243, 3) := by decide +kernel
theorem dX10_readStop_105 : decode cX10_readStop 105 = .ok (.aload_n 0, 1) := by decide +kernel
theorem dX10_readStop_106 : decode cX10_readStop 106 = .ok (.getfield 228, 3) := by decide +kernel
theorem dX10_readStop_109 : decode cX10_readStop 109 = .ok (.istore 6, 2) := by decide +kernel
theorem dX10_readStop_111 : decode cX10_readStop 111 = .ok (.aload_n 0, 1) := by decide +kernel
theorem dX10_readStop_112 : decode cX10_readStop 112 = .ok (.ldc 246, 2) := by decide +kernel
theorem dX10_readStop_114 : decode cX10_readStop 114 = .ok (.invokevirtual 239, 3) := by decide +kernel
theorem dX10_readStop_117 : decode cX10_readStop 117 = .ok (.istore 7, 2) := by decide +kernel
theorem dX10_readStop_119 : decode cX10_readStop 119 = .ok (.iload 7, 2) := by decide +kernel
theorem dX10_readStop_121 : decode cX10_readStop 121 = .ok (.iload 5, 2) := by decide +kernel
theorem dX10_readStop_123 : decode cX10_readStop 123 = .ok (.if_icmp .ge 9, 3) := by decide +kernel
theorem dX10_readStop_126 : decode cX10_readStop 126 = .ok (.aload_n 0, 1) := by decide +kernel
theorem dX10_readStop_127 : decode cX10_readStop 127 = .ok (.iload 6, 2) := by decide +kernel
theorem dX10_readStop_129 : decode cX10_readStop 129 = .ok (.invokevirtual 235, 3) := by decide +kernel
theorem dX10_readStop_132 : decode cX10_readStop 132 = .ok (.aload_n 0, 1) := by decide +kernel
theorem dX10_readStop_133 : decode cX10_readStop 133 = .ok (.getfield 225, 3) := by decide +kernel
theorem dX10_readStop_136 : decode cX10_readStop 136 = .ok (.ifCond .ge 15, 3) := by decide +kernel
theorem dX10_readStop_139 : decode cX10_readStop 139 = .ok (.aload_n 0, 1) := by decide +kernel
theorem dX10_readStop_140 : decode cX10_readStop 140 = .ok (.iload_n 1, 1) := by decide +kernel
theorem dX10_readStop_141 : decode cX10_readStop 141 = .ok (.iload_n 3, 1) := by decide +kernel
theorem dX10_readStop_142 : decode cX10_readStop 142 = .ok (.iload 5, 2) := by decide +kernel
theorem dX10_readStop_144 : decode cX10_readStop 144 = .ok (.i2l, 1) := by decide +kernel
theorem dX10_readStop_145 : decode cX10_readStop 145 = .ok (.iload 7, 2) := by decide +kernel
theorem dX10_readStop_147 : decode cX10_readStop 147 = .ok (.i2l, 1) := by decide +kernel
theorem dX10_readStop_148 : decode cX10_readStop 148 = .ok (.invokevirtual 124, 3) := by decide +kernel
theorem dX10_readStop_151 : decode cX10_readStop 151 = .ok (.return_, 1) := by decide +kernel
theorem dX10_read_0 : decode cX10_read 0 = .ok (.aload_n 0, 1) := by decide +kernel
theorem dX10_read_1 : decode cX10_read 1 = .ok (.iconst 0, 1) := by decide +kernel
theorem dX10_read_2 : decode cX10_read 2 = .ok (.putfield 100, 3) := by decide +kernel
theorem dX10_read_5 : decode cX10_read 5 = .ok (.aload_n 0, 1) := by decide +kernel
theorem dX10_read_6 : decode cX10_read 6 = .ok (.getfield 96, 3) := by decide +kernel
theorem dX10_read_9 : decode cX10_read 9 = .ok (.istore_n 1, 1) := by decide +kernel
theorem dX10_read_10 : decode cX10_read 10 = .ok (.iconst (-1), 1) := by decide +kernel
theorem dX10_read_11 : decode cX10_read 11 = .ok (.istore_n 2, 1) := by decide +kernel
theorem dX10_read_12 : decode cX10_read 12 = .ok (.aload_n 0, 1) := by decide +kernel
theorem dX10_read_13 : decode cX10_read 13 = .ok (.iconst 0, 1) := by decide +kernel
theorem dX10_read_14 : decode cX10_read 14 = .ok (.putfield 228, 3) := by decide +kernel
theorem dX10_read_17 : decode cX10_read 17 = .ok (.aload_n 0, 1) := by decide +kernel
theorem dX10_read_18 : decode cX10_read 18 = .ok (.iconst (-1), 1) := by decide +kernel
theorem dX10_read_19 : decode cX10_read 19 = .ok (.putfield 225, 3) := by decide +kernel
theorem dX10_read_22 : decode cX10_read 22 = .ok (.aload_n 0, 1) := by decide +kernel
theorem dX10_read_23 : decode cX10_read 23 = .ok (.getfield 222, 3) := by decide +kernel
theorem dX10_read_26 : decode cX10_read 26 = .ok (.ifCond .le 7, 3) := by decide +kernel
theorem dX10_read_29 : decode cX10_read 29 = .ok (.iconst 1, 1) := by decide +kernel
theorem dX10_read_30 : decode cX10_read 30 = .ok (.goto 4, 3) := by decide +kernel
theorem dX10_read_33 : decode cX10_read 33 = .ok (.iconst 0, 1) := by decide +kernel
theorem dX10_read_34 : decode cX10_read 34 = .ok (.istore_n 3, 1) := by decide +kernel
theorem dX10_read_35 : decode cX10_read 35 = .ok (.iload_n 3, 1) := by decide +kernel
theorem dX10_read_36 : decode cX10_read 36 = .ok (.ifCond .eq 179, 3) := by decide +kernel
theorem dX10_read_39 : decode cX10_read 39 = .ok (.aload_n 0, 1) := by decide +kernel
theorem dX10_read_40 : decode cX10_read 40 = .ok (.invokevirtual 231, 3) := by decide +kernel
theorem dX10_read_43 : decode cX10_read 43 = .ok (.bipush 76, 2) := by decide +kernel
theorem dX10_read_45 : decode cX10_read 45 = .ok (.if_icmp .ne 78, 3) := by decide +kernel
theorem dX10_read_48 : decode cX10_read 48 = .ok (.aload_n 0, 1) := by decide +kernel
theorem dX10_read_49 : decode cX10_read 49 = .ok (.getfield 96, 3) := by decide +kernel
theorem dX10_read_52 : decode cX10_read 52 = .ok (.bipush 40, 2) := by decide +kernel
theorem dX10_read_54 : decode cX10_read 54 = .ok (.if_icmp .ne 11, 3) := by decide +kernel
theorem dX10_read_57 : decode cX10_read 57 = .ok (.aload_n 0, 1) := by decide +kernel
theorem dX10_read_58 : decode cX10_read 58 = .ok (.aload_n 0, 1) := by decide +kernel
theorem dX10_read_59 : decode cX10_read 59 = .ok (.getfield 228, 3) := by decide +kernel
theorem dX10_read_62 : decode cX10_read 62 = .ok (.invokevirtual 235, 3) := by decide +kernel
theorem dX10_read_65 : decode cX10_read 65 = .ok (.aload_n 0, 1) := by decide +kernel
theorem dX10_read_66 : decode cX10_read 66 = .ok (.dup, 1) := by decide +kernel
theorem dX10_read_67 : decode cX10_read 67 = .ok (.getfield 228, 3) := by decide +kernel
theorem dX10_read_70 : decode cX10_read 70 = .ok (.iconst 1, 1) := by decide +kernel
theorem dX10_read_71 : decode cX10_read 71 = .ok (.iadd, 1) := by decide +kernel
theorem dX10_read_72 : decode cX10_read 72 = .ok (.putfield 228, 3) := by decide +kernel
theorem dX10_read_75 : decode cX10_read 75 = .ok (.aload_n 0, 1) := by decide +kernel
theorem dX10_read_76 : decode cX10_read 76 = .ok (.bipush 127, 2) := by decide +kernel
theorem dX10_read_78 : decode cX10_read 78 = .ok (.invokevirtual 239, 3) := by decide +kernel
theorem dX10_read_81 : decode cX10_read 81 = .ok (.istore 4, 2) := by decide +kernel
theorem dX10_read_83 : decode cX10_read 83 = .ok (.aload_n 0, 1) := by decide +kernel
theorem dX10_read_84 : decode cX10_read 84 = .ok (.getfield 225, 3) := by decide +kernel
theorem dX10_read_87 : decode cX10_read 87 = .ok (.ifCond .ge 33, 3) := by decide +kernel
theorem dX10_read_90 : decode cX10_read 90 = .ok (.aload_n 0, 1) := by decide +kernel
theorem dX10_read_91 : decode cX10_read 91 = .ok (.getfield 96, 3) := by decide +kernel
theorem dX10_read_94 : decode cX10_read 94 = .ok (.istore_n 2, 1) := by decide +kernel
theorem dX10_read_95 : decode cX10_read 95 = .ok (.aload_n 0, 1) := by decide +kernel
theorem dX10_read_96 : decode cX10_read 96 = .ok (.getfield 7, 3) := by decide +kernel
theorem dX10_read_99 : decode cX10_read 99 = .ok (.iload_n 2, 1) := by decide +kernel
theorem dX10_read_100 : decode cX10_read 100 = .ok (.iload 4, 2) := by decide +kernel
theorem dX10_read_102 : decode cX10_read 102 = .ok (.iastore, 1) := by decide +kernel
theorem dX10_read_103 : decode cX10_read 103 = .ok (.aload_n 0, 1) := by decide +kernel
theorem dX10_read_104 : decode cX10_read 104 = .ok (.getfield 13, 3) := by decide +kernel
theorem dX10_read_107 : decode cX10_read 107 = .ok (.iload_n 2, 1) := by decide +kernel
theorem dX10_read_108 : decode cX10_read 108 = .ok (.iconst 0, 1) := by decide +kernel
theorem dX10_read_109 : decode cX10_read 109 = .ok (.iastore, 1) := by decide +kernel
theorem dX10_read_110 : decode cX10_read 110 = .ok (.aload_n 0, 1) := by decide +kernel
theorem dX10_read_111 : decode cX10_read 111 = .ok (.dup, 1) := by decide +kernel
theorem dX10_read_112 : decode cX10_read 112 = .ok (.getfield 96, 3) := by decide +kernel
theorem dX10_read_115 : decode cX10_read 115 = .ok (.iconst 1, 1) := by decide +kernel
theorem dX10_read_116 : decode cX10_read 116 = .ok (.iadd, 1) := by decide +kernel
theorem dX10_read_117 : decode cX10_read 117 = .ok (.putfield 96, 3) := by decide +kernel
theorem dX10_read_120 : decode cX10_read 120 = .ok (.goto 28, 3) := by decide +kernel
theorem dX10_read_123 : decode cX10_read 123 = .ok (.aload_n 0, 1) := by decide +kernel
theorem dX10_read_124 : decode cX10_read 124 = .ok (.invokevirtual 231, 3) := by decide +kernel
theorem dX10_read_127 : decode cX10_read 127 = .ok (.bipush 83, 2) := by decide +kernel
theorem dX10_read_129 : decode cX10_read 129 = .ok (.if_icmp .ne 11, 3) := by decide +kernel
theorem dX10_read_132 : decode cX10_read 132 = .ok (.aload_n 0, 1) := by decide +kernel
theorem dX10_read_133 : decode cX10_read 133 = .ok (.iload_n 2, 1) := by decide +kernel
theorem dX10_read_134 : decode cX10_read 134 = .ok (.invokevirtual 247, 3) := by decide +kernel
theorem dX10_read_137 : decode cX10_read 137 = .ok (.goto 11, 3) := by decide +kernel
theorem dX10_read_140 : decode cX10_read 140 = .ok (.aload_n 0, 1) := by decide +kernel
theorem dX10_read_141 : decode cX10_read 141 = .ok (.aload_n 0, 1) := by decide +kernel
theorem dX10_read_142 : decode cX10_read 142 = .ok (.getfield 228, 3) := by decide +kernel
theorem dX10_read_145 : decode cX10_read 145 = .ok (.invokevirtual 235, 3) := by decide +kernel
theorem dX10_read_148 : decode cX10_read 148 = .ok (.aload_n 0, 1) := by decide +kernel
theorem dX10_read_149 : decode cX10_read 149 = .ok (.getfield 225, 3) := by decide +kernel
theorem dX10_read_152 : decode cX10_read 152 = .ok (.ifCond .ge 18, 3) := by decide +kernel
theorem dX10_read_155 : decode cX10_read 155 = .ok (.aload_n 0, 1) := by decide +kernel
theorem dX10_read_156 : decode cX10_read 156 = .ok (.getfield 228, 3) := by decide +kernel
theorem dX10_read_159 : decode cX10_read 159 = .ok (.aload_n 0, 1) := by decide +kernel
theorem dX10_read_160 : decode cX10_read 160 = .ok (.getfield 222, 3) := by decide +kernel
theorem dX10_read_163 : decode cX10_read 163 = .ok (.if_icmp .ge 7, 3) := by decide +kernel
theorem dX10_read_166 : decode cX10_read 166 = .ok (.iconst 1, 1) := by decide +kernel
end
section
theorem dX10_read_167 : decode cX10_read 167 = .ok (.goto 4, 3) := by decide +kernel
theorem dX10_read_170 : decode cX10_read 170 = .ok (.iconst 0, 1) := by decide +kernel
theorem dX10_read_171 : decode cX10_read 171 = .ok (.istore_n 3, 1) := by decide +kernel
theorem dX10_read_172 : decode cX10_read 172 = .ok (.iload_n 3, 1) := by decide +kernel
theorem dX10_read_173 : decode cX10_read 173 = .ok (.ifCond .eq 25, 3) := by decide +kernel
theorem dX10_read_176 : decode cX10_read 176 = .ok (.aload_n 0, 1) := by decide +kernel
theorem dX10_read_177 : decode cX10_read 177 = .ok (.invokevirtual 231, 3) := by decide +kernel
theorem dX10_read_180 : decode cX10_read 180 = .ok (.bipush 59, 2) := by decide +kernel
theorem dX10_read_182 : decode cX10_read 182 = .ok (.if_icmp .ne 16, 3) := by decide +kernel
theorem dX10_read_185 : decode cX10_read 185 = .ok (.aload_n 0, 1) := by decide +kernel
theorem dX10_read_186 : decode cX10_read 186 = .ok (.dup, 1) := by decide +kernel
theorem dX10_read_187 : decode cX10_read 187 = .ok (.getfield 228, 3) := by decide +kernel
theorem dX10_read_190 : decode cX10_read 190 = .ok (.iconst 1, 1) := by decide +kernel
theorem dX10_read_191 : decode cX10_read 191 = .ok (.iadd, 1) := by decide +kernel
theorem dX10_read_192 : decode cX10_read 192 = .ok (.putfield 228, 3) := by decide +kernel
theorem dX10_read_195 : decode cX10_read 195 = .ok (.goto (-160), 3) := by decide +kernel
theorem dX10_read_198 : decode cX10_read 198 = .ok (.iload_n 3, 1) := by decide +kernel
theorem dX10_read_199 : decode cX10_read 199 = .ok (.ifCond .eq (-164), 3) := by decide +kernel
theorem dX10_read_202 : decode cX10_read 202 = .ok (.aload_n 0, 1) := by decide +kernel
theorem dX10_read_203 : decode cX10_read 203 = .ok (.aload_n 0, 1) := by decide +kernel
theorem dX10_read_204 : decode cX10_read 204 = .ok (.getfield 228, 3) := by decide +kernel
theorem dX10_read_207 : decode cX10_read 207 = .ok (.invokevirtual 235, 3) := by decide +kernel
theorem dX10_read_210 : decode cX10_read 210 = .ok (.iconst 0, 1) := by decide +kernel
theorem dX10_read_211 : decode cX10_read 211 = .ok (.istore_n 3, 1) := by decide +kernel
theorem dX10_read_212 : decode cX10_read 212 = .ok (.goto (-177), 3) := by decide +kernel
theorem dX10_read_215 : decode cX10_read 215 = .ok (.aload_n 0, 1) := by decide +kernel
theorem dX10_read_216 : decode cX10_read 216 = .ok (.iconst 0, 1) := by decide +kernel
theorem dX10_read_217 : decode cX10_read 217 = .ok (.putfield 222, 3) := by decide +kernel
theorem dX10_read_220 : decode cX10_read 220 = .ok (.aload_n 0, 1) := by decide +kernel
theorem dX10_read_221 : decode cX10_read 221 = .ok (.getfield 225, 3) := by decide +kernel
theorem dX10_read_224 : decode cX10_read 224 = .ok (.ifCond .lt 15, 3) := by decide +kernel
theorem dX10_read_227 : decode cX10_read 227 = .ok (.aload_n 0, 1) := by decide +kernel
theorem dX10_read_228 : decode cX10_read 228 = .ok (.iload_n 1, 1) := by decide +kernel
theorem dX10_read_229 : decode cX10_read 229 = .ok (.putfield 96, 3) := by decide +kernel
theorem dX10_read_232 : decode cX10_read 232 = .ok (.iconst (-1), 1) := by decide +kernel
theorem dX10_read_233 : decode cX10_read 233 = .ok (.aload_n 0, 1) := by decide +kernel
theorem dX10_read_234 : decode cX10_read 234 = .ok (.getfield 225, 3) := by decide +kernel
theorem dX10_read_237 : decode cX10_read 237 = .ok (.isub, 1) := by decide +kernel
theorem dX10_read_238 : decode cX10_read 238 = .ok (.ireturn, 1) := by decide +kernel
theorem dX10_read_239 : decode cX10_read 239 = .ok (.aload_n 0, 1) := by decide +kernel
theorem dX10_read_240 : decode cX10_read 240 = .ok (.getfield 96, 3) := by decide +kernel
theorem dX10_read_243 : decode cX10_read 243 = .ok (.iload_n 1, 1) := by decide +kernel
theorem dX10_read_244 : decode cX10_read 244 = .ok (.isub, 1) := by decide +kernel
theorem dX10_read_245 : decode cX10_read 245 = .ok (.ireturn, 1) := by decide +kernel
theorem dJx00060_init_a7421_0 : decode cJx00060_init_a7421 0 = .ok (.aload_n 0, 1) := by decide +kernel
theorem dJx00060_init_a7421_1 : decode cJx00060_init_a7421 1 = .ok (.aload_n 1, 1) := by decide +kernel
theorem dJx00060_init_a7421_2 : decode cJx00060_init_a7421 2 = .ok (.invokespecial 7, 3) := by decide +kernel
theorem dJx00060_init_a7421_5 : decode cJx00060_init_a7421 5 = .ok (.return_, 1) := by decide +kernel
theorem dJ9_max_7cf53_0 : decode cJ9_max_7cf53 0 = .ok (.iload_n 0, 1) := by decide +kernel
theorem dJ9_max_7cf53_1 : decode cJ9_max_7cf53 1 = .ok (.iload_n 1, 1) := by decide +kernel
theorem dJ9_max_7cf53_2 : decode cJ9_max_7cf53 2 = .ok (.if_icmp .lt 7, 3) := by decide +kernel
theorem dJ9_max_7cf53_5 : decode cJ9_max_7cf53 5 = .ok (.iload_n 0, 1) := by decide +kernel
theorem dJ9_max_7cf53_6 : decode cJ9_max_7cf53 6 = .ok (.goto 4, 3) := by decide +kernel
theorem dJ9_max_7cf53_9 : decode cJ9_max_7cf53 9 = .ok (.iload_n 1, 1) := by decide +kernel
theorem dJ9_max_7cf53_10 : decode cJ9_max_7cf53 10 = .ok (.ireturn, 1) := by decide +kernel
theorem dJ9_min_7cf53_0 : decode cJ9_min_7cf53 0 = .ok (.iload_n 0, 1) := by decide +kernel
theorem dJ9_min_7cf53_1 : decode cJ9_min_7cf53 1 = .ok (.iload_n 1, 1) := by decide +kernel
theorem dJ9_min_7cf53_2 : decode cJ9_min_7cf53 2 = .ok (.if_icmp .gt 7, 3) := by decide +kernel
theorem dJ9_min_7cf53_5 : decode cJ9_min_7cf53 5 = .ok (.iload_n 0, 1) := by decide +kernel
theorem dJ9_min_7cf53_6 : decode cJ9_min_7cf53 6 = .ok (.goto 4, 3) := by decide +kernel
theorem dJ9_min_7cf53_9 : decode cJ9_min_7cf53 9 = .ok (.iload_n 1, 1) := by decide +kernel
theorem dJ9_min_7cf53_10 : decode cJ9_min_7cf53 10 = .ok (.ireturn, 1) := by decide +kernel
theorem dJxa1e45_init_da8c8_0 : decode cJxa1e45_init_da8c8 0 = .ok (.aload_n 0, 1) := by decide +kernel
theorem dJxa1e45_init_da8c8_1 : decode cJxa1e45_init_da8c8 1 = .ok (.invokespecial 1, 3) := by decide +kernel
theorem dJxa1e45_init_da8c8_4 : decode cJxa1e45_init_da8c8 4 = .ok (.return_, 1) := by decide +kernel
theorem dJxc12de_init_da8c8_0 : decode cJxc12de_init_da8c8 0 = .ok (.aload_n 0, 1) := by decide +kernel
theorem dJxc12de_init_da8c8_1 : decode cJxc12de_init_da8c8 1 = .ok (.invokespecial 1, 3) := by decide +kernel
theorem dJxc12de_init_da8c8_4 : decode cJxc12de_init_da8c8 4 = .ok (.aload_n 0, 1) := by decide +kernel
theorem dJxc12de_init_da8c8_5 : decode cJxc12de_init_da8c8 5 = .ok (.iconst 0, 1) := by decide +kernel
theorem dJxc12de_init_da8c8_6 : decode cJxc12de_init_da8c8 6 = .ok (.putfield 7, 3) := by decide +kernel
theorem dJxc12de_init_da8c8_9 : decode cJxc12de_init_da8c8 9 = .ok (.return_, 1) := by decide +kernel
theorem dJx4a65c_init_da8c8_0 : decode cJx4a65c_init_da8c8 0 = .ok (.aload_n 0, 1) := by decide +kernel
theorem dJx4a65c_init_da8c8_1 : decode cJx4a65c_init_da8c8 1 = .ok (.invokespecial 1, 3) := by decide +kernel
theorem dJx4a65c_init_da8c8_4 : decode cJx4a65c_init_da8c8 4 = .ok (.aload_n 0, 1) := by decide +kernel
theorem dJx4a65c_init_da8c8_5 : decode cJx4a65c_init_da8c8 5 = .ok (.getstatic 39, 3) := by decide +kernel
theorem dJx4a65c_init_da8c8_8 : decode cJx4a65c_init_da8c8 8 = .ok (.putfield 9, 3) := by decide +kernel
theorem dJx4a65c_init_da8c8_11 : decode cJx4a65c_init_da8c8 11 = .ok (.return_, 1) := by decide +kernel
theorem dJx4a65c_grow_92f84_0 : decode cJx4a65c_grow_92f84 0 = .ok (.aload_n 0, 1) := by decide +kernel
theorem dJx4a65c_grow_92f84_1 : decode cJx4a65c_grow_92f84 1 = .ok (.getfield 9, 3) := by decide +kernel
theorem dJx4a65c_grow_92f84_4 : decode cJx4a65c_grow_92f84 4 = .ok (.arraylength, 1) := by decide +kernel
theorem dJx4a65c_grow_92f84_5 : decode cJx4a65c_grow_92f84 5 = .ok (.istore_n 2, 1) := by decide +kernel
theorem dJx4a65c_grow_92f84_6 : decode cJx4a65c_grow_92f84 6 = .ok (.iload_n 2, 1) := by decide +kernel
theorem dJx4a65c_grow_92f84_7 : decode cJx4a65c_grow_92f84 7 = .ok (.ifCond .gt 13, 3) := by decide +kernel
theorem dJx4a65c_grow_92f84_10 : decode cJx4a65c_grow_92f84 10 = .ok (.aload_n 0, 1) := by decide +kernel
theorem dJx4a65c_grow_92f84_11 : decode cJx4a65c_grow_92f84 11 = .ok (.getfield 9, 3) := by decide +kernel
theorem dJx4a65c_grow_92f84_14 : decode cJx4a65c_grow_92f84 14 = .ok (.getstatic 39, 3) := by decide +kernel
theorem dJx4a65c_grow_92f84_17 : decode cJx4a65c_grow_92f84 17 = .ok (.if_acmp .eq 28, 3) := by decide +kernel
theorem dJx4a65c_grow_92f84_20 : decode cJx4a65c_grow_92f84 20 = .ok (.iload_n 2, 1) := by decide +kernel
theorem dJx4a65c_grow_92f84_21 : decode cJx4a65c_grow_92f84 21 = .ok (.iload_n 1, 1) := by decide +kernel
theorem dJx4a65c_grow_92f84_22 : decode cJx4a65c_grow_92f84 22 = .ok (.iload_n 2, 1) := by decide +kernel
theorem dJx4a65c_grow_92f84_23 : decode cJx4a65c_grow_92f84 23 = .ok (.isub, 1) := by decide +kernel
theorem dJx4a65c_grow_92f84_24 : decode cJx4a65c_grow_92f84 24 = .ok (.iload_n 2, 1) := by decide +kernel
theorem dJx4a65c_grow_92f84_25 : decode cJx4a65c_grow_92f84 25 = .ok (.iconst 1, 1) := by decide +kernel
theorem dJx4a65c_grow_92f84_26 : decode cJx4a65c_grow_92f84 26 = .ok (.ishr, 1) := by decide +kernel
theorem dJx4a65c_grow_92f84_27 : decode cJx4a65c_grow_92f84 27 = .ok (.invokestatic 73, 3) := by decide +kernel
theorem dJx4a65c_grow_92f84_30 : decode cJx4a65c_grow_92f84 30 = .ok (.istore_n 3, 1) := by decide +kernel
theorem dJx4a65c_grow_92f84_31 : decode cJx4a65c_grow_92f84 31 = .ok (.aload_n 0, 1) := by decide +kernel
theorem dJx4a65c_grow_92f84_32 : decode cJx4a65c_grow_92f84 32 = .ok (.aload_n 0, 1) := by decide +kernel
theorem dJx4a65c_grow_92f84_33 : decode cJx4a65c_grow_92f84 33 = .ok (.getfield 9, 3) := by decide +kernel
theorem dJx4a65c_grow_92f84_36 : decode cJx4a65c_grow_92f84 36 = .ok (.iload_n 3, 1) := by decide +kernel
theorem dJx4a65c_grow_92f84_37 : decode cJx4a65c_grow_92f84 37 = .ok (.invokestatic 66, 3) := by decide +kernel
theorem dJx4a65c_grow_92f84_40 : decode cJx4a65c_grow_92f84 40 = .ok (.dup_x1, 1) := by decide +kernel
theorem dJx4a65c_grow_92f84_41 : decode cJx4a65c_grow_92f84 41 = .ok (.putfield 9, 3) := by decide +kernel
theorem dJx4a65c_grow_92f84_44 : decode cJx4a65c_grow_92f84 44 = .ok (.areturn, 1) := by decide +kernel
theorem dJx4a65c_grow_92f84_45 : decode cJx4a65c_grow_92f84 45 = .ok (.aload_n 0, 1) := by decide +kernel
theorem dJx4a65c_grow_92f84_46 : decode cJx4a65c_grow_92f84 46 = .ok (.bipush 10, 2) := by decide +kernel
theorem dJx4a65c_grow_92f84_48 : decode cJx4a65c_grow_92f84 48 = .ok (.iload_n 1, 1) := by decide +kernel
theorem dJx4a65c_grow_92f84_49 : decode cJx4a65c_grow_92f84 49 = .ok (.invokestatic 79, 3) := by decide +kernel
theorem dJx4a65c_grow_92f84_52 : decode cJx4a65c_grow_92f84 52 = .ok (.anewarray 7, 3) := by decide +kernel
theorem dJx4a65c_grow_92f84_55 : decode cJx4a65c_grow_92f84 55 = .ok (.dup_x1, 1) := by decide +kernel
theorem dJx4a65c_grow_92f84_56 : decode cJx4a65c_grow_92f84 56 = .ok (.putfield 9, 3) := by decide +kernel
theorem dJx4a65c_grow_92f84_59 : decode cJx4a65c_grow_92f84 59 = .ok (.areturn, 1) := by decide +kernel
theorem dJx4a65c_grow_d5877_0 : decode cJx4a65c_grow_d5877 0 = .ok (.aload_n 0, 1) := by decide +kernel
theorem dJx4a65c_grow_d5877_1 : decode cJx4a65c_grow_d5877 1 = .ok (.aload_n 0, 1) := by decide +kernel
theorem dJx4a65c_grow_d5877_2 : decode cJx4a65c_grow_d5877 2 = .ok (.getfield 48, 3) := by decide +kernel
theorem dJx4a65c_grow_d5877_5 : decode cJx4a65c_grow_d5877 5 = .ok (.iconst 1, 1) := by decide +kernel
theorem dJx4a65c_grow_d5877_6 : decode cJx4a65c_grow_d5877 6 = .ok (.iadd, 1) := by decide +kernel
theorem dJx4a65c_grow_d5877_7 : decode cJx4a65c_grow_d5877 7 = .ok (.invokevirtual 69, 3) := by decide +kernel
theorem dJx4a65c_grow_d5877_10 : decode cJx4a65c_grow_d5877 10 = .ok (.areturn, 1) := by decide +kernel
theorem dJx4a65c_size_8abf5_0 : decode cJx4a65c_size_8abf5 0 = .ok (.aload_n 0, 1) := by decide +kernel
theorem dJx4a65c_size_8abf5_1 : decode cJx4a65c_size_8abf5 1 = .ok (.getfield 48, 3) := by decide +kernel
theorem dJx4a65c_size_8abf5_4 : decode cJx4a65c_size_8abf5 4 = .ok (.ireturn, 1) := by decide +kernel
theorem dJx4a65c_isEmpty_aae02_0 : decode cJx4a65c_isEmpty_aae02 0 = .ok (.aload_n 0, 1) := by decide +kernel
theorem dJx4a65c_isEmpty_aae02_1 : decode cJx4a65c_isEmpty_aae02 1 = .ok (.getfield 48, 3) := by decide +kernel
theorem dJx4a65c_isEmpty_aae02_4 : decode cJx4a65c_isEmpty_aae02 4 = .ok (.ifCond .ne 7, 3) := by decide +kernel
theorem dJx4a65c_isEmpty_aae02_7 : decode cJx4a65c_isEmpty_aae02 7 = .ok (.iconst 1, 1) := by decide +kernel
theorem dJx4a65c_isEmpty_aae02_8 : decode cJx4a65c_isEmpty_aae02 8 = .ok (.goto 4, 3) := by decide +kernel
theorem dJx4a65c_isEmpty_aae02_11 : decode cJx4a65c_isEmpty_aae02 11 = .ok (.iconst 0, 1) := by decide +kernel
theorem dJx4a65c_isEmpty_aae02_12 : decode cJx4a65c_isEmpty_aae02 12 = .ok (.ireturn, 1) := by decide +kernel
theorem dJx4a65c_elementData_915e3_0 : decode cJx4a65c_elementData_915e3 0 = .ok (.aload_n 0, 1) := by decide +kernel
theorem dJx4a65c_elementData_915e3_1 : decode cJx4a65c_elementData_915e3 1 = .ok (.getfield 9, 3) := by decide +kernel
theorem dJx4a65c_elementData_915e3_4 : decode cJx4a65c_elementData_915e3 4 = .ok (.iload_n 1, 1) := by decide +kernel
theorem dJx4a65c_elementData_915e3_5 : decode cJx4a65c_elementData_915e3 5 = .ok (.aaload, 1) := by decide +kernel
theorem dJx4a65c_elementData_915e3_6 : decode cJx4a65c_elementData_915e3 6 = .ok (.areturn, 1) := by decide +kernel
theorem dJx4a65c_get_915e3_0 : decode cJx4a65c_get_915e3 0 = .ok (.iload_n 1, 1) := by decide +kernel
theorem dJx4a65c_get_915e3_1 : decode cJx4a65c_get_915e3 1 = .ok (.aload_n 0, 1) := by decide +kernel
theorem dJx4a65c_get_915e3_2 : decode cJx4a65c_get_915e3 2 = .ok (.getfield 48, 3) := by decide +kernel
theorem dJx4a65c_get_915e3_5 : decode cJx4a65c_get_915e3 5 = .ok (.invokestatic 118, 3) := by decide +kernel
theorem dJx4a65c_get_915e3_8 : decode cJx4a65c_get_915e3 8 = .ok (.pop, 1) := by decide +kernel
theorem dJx4a65c_get_915e3_9 : decode cJx4a65c_get_915e3 9 = .ok (.aload_n 0, 1) := by decide +kernel
theorem dJx4a65c_get_915e3_10 : decode cJx4a65c_get_915e3 10 = .ok (.iload_n 1, 1) := by decide +kernel
theorem dJx4a65c_get_915e3_11 : decode cJx4a65c_get_915e3 11 = .ok (.invokevirtual 123, 3) := by decide +kernel
theorem dJx4a65c_get_915e3_14 : decode cJx4a65c_get_915e3 14 = .ok (.areturn, 1) := by decide +kernel
theorem dJx4a65c_add_72be8_0 : decode cJx4a65c_add_72be8 0 = .ok (.iload_n 3, 1) := by decide +kernel
theorem dJx4a65c_add_72be8_1 : decode cJx4a65c_add_72be8 1 = .ok (.aload_n 2, 1) := by decide +kernel
theorem dJx4a65c_add_72be8_2 : decode cJx4a65c_add_72be8 2 = .ok (.arraylength, 1) := by decide +kernel
theorem dJx4a65c_add_72be8_3 : decode cJx4a65c_add_72be8 3 = .ok (.if_icmp .ne 8, 3) := by decide +kernel
theorem dJx4a65c_add_72be8_6 : decode cJx4a65c_add_72be8 6 = .ok (.aload_n 0, 1) := by decide +kernel
theorem dJx4a65c_add_72be8_7 : decode cJx4a65c_add_72be8 7 = .ok (.invokevirtual 129, 3) := by decide +kernel
theorem dJx4a65c_add_72be8_10 : decode cJx4a65c_add_72be8 10 = .ok (.astore_n 2, 1) := by decide +kernel
theorem dJx4a65c_add_72be8_11 : decode cJx4a65c_add_72be8 11 = .ok (.aload_n 2, 1) := by decide +kernel
theorem dJx4a65c_add_72be8_12 : decode cJx4a65c_add_72be8 12 = .ok (.iload_n 3, 1) := by decide +kernel
theorem dJx4a65c_add_72be8_13 : decode cJx4a65c_add_72be8 13 = .ok (.aload_n 1, 1) := by decide +kernel
theorem dJx4a65c_add_72be8_14 : decode cJx4a65c_add_72be8 14 = .ok (.aastore, 1) := by decide +kernel
theorem dJx4a65c_add_72be8_15 : decode cJx4a65c_add_72be8 15 = .ok (.aload_n 0, 1) := by decide +kernel
theorem dJx4a65c_add_72be8_16 : decode cJx4a65c_add_72be8 16 = .ok (.iload_n 3, 1) := by decide +kernel
theorem dJx4a65c_add_72be8_17 : decode cJx4a65c_add_72be8 17 = .ok (.iconst 1, 1) := by decide +kernel
theorem dJx4a65c_add_72be8_18 : decode cJx4a65c_add_72be8 18 = .ok (.iadd, 1) := by decide +kernel
theorem dJx4a65c_add_72be8_19 : decode cJx4a65c_add_72be8 19 = .ok (.putfield 48, 3) := by decide +kernel
theorem dJx4a65c_add_72be8_22 : decode cJx4a65c_add_72be8 22 = .ok (.return_, 1) := by decide +kernel
theorem dJx4a65c_add_9ea2d_0 : decode cJx4a65c_add_9ea2d 0 = .ok (.aload_n 0, 1) := by decide +kernel
theorem dJx4a65c_add_9ea2d_1 : decode cJx4a65c_add_9ea2d 1 = .ok (.dup, 1) := by decide +kernel
theorem dJx4a65c_add_9ea2d_2 : decode cJx4a65c_add_9ea2d 2 = .ok (.getfield 63, 3) := by decide +kernel
theorem dJx4a65c_add_9ea2d_5 : decode cJx4a65c_add_9ea2d 5 = .ok (.iconst 1, 1) := by decide +kernel
theorem dJx4a65c_add_9ea2d_6 : decode cJx4a65c_add_9ea2d 6 = .ok (.iadd, 1) := by decide +kernel
theorem dJx4a65c_add_9ea2d_7 : decode cJx4a65c_add_9ea2d 7 = .ok (.putfield 63, 3) := by decide +kernel
theorem dJx4a65c_add_9ea2d_10 : decode cJx4a65c_add_9ea2d 10 = .ok (.aload_n 0, 1) := by decide +kernel
theorem dJx4a65c_add_9ea2d_11 : decode cJx4a65c_add_9ea2d 11 = .ok (.aload_n 1, 1) := by decide +kernel
theorem dJx4a65c_add_9ea2d_12 : decode cJx4a65c_add_9ea2d 12 = .ok (.aload_n 0, 1) := by decide +kernel
theorem dJx4a65c_add_9ea2d_13 : decode cJx4a65c_add_9ea2d 13 = .ok (.getfield 9, 3) := by decide +kernel
theorem dJx4a65c_add_9ea2d_16 : decode cJx4a65c_add_9ea2d 16 = .ok (.aload_n 0, 1) := by decide +kernel
theorem dJx4a65c_add_9ea2d_17 : decode cJx4a65c_add_9ea2d 17 = .ok (.getfield 48, 3) := by decide +kernel
theorem dJx4a65c_add_9ea2d_20 : decode cJx4a65c_add_9ea2d 20 = .ok (.invokevirtual 131, 3) := by decide +kernel
theorem dJx4a65c_add_9ea2d_23 : decode cJx4a65c_add_9ea2d 23 = .ok (.iconst 1, 1) := by decide +kernel
theorem dJx4a65c_add_9ea2d_24 : decode cJx4a65c_add_9ea2d 24 = .ok (.ireturn, 1) := by decide +kernel
theorem dJx4a65c_clear_da8c8_0 : decode cJx4a65c_clear_da8c8 0 = .ok (.aload_n 0, 1) := by decide +kernel
theorem dJx4a65c_clear_da8c8_1 : decode cJx4a65c_clear_da8c8 1 = .ok (.dup, 1) := by decide +kernel
theorem dJx4a65c_clear_da8c8_2 : decode cJx4a65c_clear_da8c8 2 = .ok (.getfield 63, 3) := by decide +kernel
theorem dJx4a65c_clear_da8c8_5 : decode cJx4a65c_clear_da8c8 5 = .ok (.iconst 1, 1) := by decide +kernel
theorem dJx4a65c_clear_da8c8_6 : decode cJx4a65c_clear_da8c8 6 = .ok (.iadd, 1) := by decide +kernel
theorem dJx4a65c_clear_da8c8_7 : decode cJx4a65c_clear_da8c8 7 = .ok (.putfield 63, 3) := by decide +kernel
theorem dJx4a65c_clear_da8c8_10 : decode cJx4a65c_clear_da8c8 10 = .ok (.aload_n 0, 1) := by decide +kernel
theorem dJx4a65c_clear_da8c8_11 : decode cJx4a65c_clear_da8c8 11 = .ok (.getfield 9, 3) := by decide +kernel
theorem dJx4a65c_clear_da8c8_14 : decode cJx4a65c_clear_da8c8 14 = .ok (.astore_n 1, 1) := by decide +kernel
theorem dJx4a65c_clear_da8c8_15 : decode cJx4a65c_clear_da8c8 15 = .ok (.aload_n 0, 1) := by decide +kernel
theorem dJx4a65c_clear_da8c8_16 : decode cJx4a65c_clear_da8c8 16 = .ok (.getfield 48, 3) := by decide +kernel
theorem dJx4a65c_clear_da8c8_19 : decode cJx4a65c_clear_da8c8 19 = .ok (.istore_n 2, 1) := by decide +kernel
theorem dJx4a65c_clear_da8c8_20 : decode cJx4a65c_clear_da8c8 20 = .ok (.aload_n 0, 1) := by decide +kernel
theorem dJx4a65c_clear_da8c8_21 : decode cJx4a65c_clear_da8c8 21 = .ok (.iconst 0, 1) := by decide +kernel
theorem dJx4a65c_clear_da8c8_22 : decode cJx4a65c_clear_da8c8 22 = .ok (.dup_x1, 1) := by decide +kernel
theorem dJx4a65c_clear_da8c8_23 : decode cJx4a65c_clear_da8c8 23 = .ok (.putfield 48, 3) := by decide +kernel
theorem dJx4a65c_clear_da8c8_26 : decode cJx4a65c_clear_da8c8 26 = .ok (.istore_n 3, 1) := by decide +kernel
theorem dJx4a65c_clear_da8c8_27 : decode cJx4a65c_clear_da8c8 27 = .ok (.iload_n 3, 1) := by decide +kernel
theorem dJx4a65c_clear_da8c8_28 : decode cJx4a65c_clear_da8c8 28 = .ok (.iload_n 2, 1) := by decide +kernel
theorem dJx4a65c_clear_da8c8_29 : decode cJx4a65c_clear_da8c8 29 = .ok (.if_icmp .ge 13, 3) := by decide +kernel
theorem dJx4a65c_clear_da8c8_32 : decode cJx4a65c_clear_da8c8 32 = .ok (.aload_n 1, 1) := by decide +kernel
theorem dJx4a65c_clear_da8c8_33 : decode cJx4a65c_clear_da8c8 33 = .ok (.iload_n 3, 1) := by decide +kernel
theorem dJx4a65c_clear_da8c8_34 : decode cJx4a65c_clear_da8c8 34 = .ok (.aconst_null, 1) := by decide +kernel
theorem dJx4a65c_clear_da8c8_35 : decode cJx4a65c_clear_da8c8 35 = .ok (.aastore, 1) := by decide +kernel
theorem dJx4a65c_clear_da8c8_36 : decode cJx4a65c_clear_da8c8 36 = .ok (.iinc 3 1, 3) := by decide +kernel
theorem dJx4a65c_clear_da8c8_39 : decode cJx4a65c_clear_da8c8 39 = .ok (.goto (-12), 3) := by decide +kernel
theorem dJx4a65c_clear_da8c8_42 : decode cJx4a65c_clear_da8c8 42 = .ok (.return_, 1) := by decide +kernel
theorem dJ7_fill_53178_0 : decode cJ7_fill_53178 0 = .ok (.iconst 0, 1) := by decide +kernel
theorem dJ7_fill_53178_1 : decode cJ7_fill_53178 1 = .ok (.istore_n 2, 1) := by decide +kernel
theorem dJ7_fill_53178_2 : decode cJ7_fill_53178 2 = .ok (.aload_n 0, 1) := by decide +kernel
theorem dJ7_fill_53178_3 : decode cJ7_fill_53178 3 = .ok (.arraylength, 1) := by decide +kernel
theorem dJ7_fill_53178_4 : decode cJ7_fill_53178 4 = .ok (.istore_n 3, 1) := by decide +kernel
theorem dJ7_fill_53178_5 : decode cJ7_fill_53178 5 = .ok (.iload_n 2, 1) := by decide +kernel
theorem dJ7_fill_53178_6 : decode cJ7_fill_53178 6 = .ok (.iload_n 3, 1) := by decide +kernel
theorem dJ7_fill_53178_7 : decode cJ7_fill_53178 7 = .ok (.if_icmp .ge 13, 3) := by decide +kernel
theorem dJ7_fill_53178_10 : decode cJ7_fill_53178 10 = .ok (.aload_n 0, 1) := by decide +kernel
theorem dJ7_fill_53178_11 : decode cJ7_fill_53178 11 = .ok (.iload_n 2, 1) := by decide +kernel
theorem dJ7_fill_53178_12 : decode cJ7_fill_53178 12 = .ok (.iload_n 1, 1) := by decide +kernel
theorem dJ7_fill_53178_13 : decode cJ7_fill_53178 13 = .ok (.iastore, 1) := by decide +kernel
theorem dJ7_fill_53178_14 : decode cJ7_fill_53178 14 = .ok (.iinc 2 1, 3) := by decide +kernel
theorem dJ7_fill_53178_17 : decode cJ7_fill_53178 17 = .ok (.goto (-12), 3) := by decide +kernel
theorem dJ7_fill_53178_20 : decode cJ7_fill_53178 20 = .ok (.return_, 1) := by decide +kernel
theorem dJ7_copyOf_1904c_0 : decode cJ7_copyOf_1904c 0 = .ok (.aload_n 0, 1) := by decide +kernel
theorem dJ7_copyOf_1904c_1 : decode cJ7_copyOf_1904c 1 = .ok (.iload_n 1, 1) := by decide +kernel
theorem dJ7_copyOf_1904c_2 : decode cJ7_copyOf_1904c 2 = .ok (.aload_n 0, 1) := by decide +kernel
theorem dJ7_copyOf_1904c_3 : decode cJ7_copyOf_1904c 3 = .ok (.invokevirtual 86, 3) := by decide +kernel
theorem dJ7_copyOf_1904c_6 : decode cJ7_copyOf_1904c 6 = .ok (.invokestatic 300, 3) := by decide +kernel
theorem dJ7_copyOf_1904c_9 : decode cJ7_copyOf_1904c 9 = .ok (.areturn, 1) := by decide +kernel
theorem dJ7_copyOf_6403c_0 : decode cJ7_copyOf_6403c 0 = .ok (.aload_n 2, 1) := by decide +kernel
theorem dJ7_copyOf_6403c_1 : decode cJ7_copyOf_6403c 1 = .ok (.ldc 110, 2) := by decide +kernel
theorem dJ7_copyOf_6403c_3 : decode cJ7_copyOf_6403c 3 = .ok (.if_acmp .ne 10, 3) := by decide +kernel
theorem dJ7_copyOf_6403c_6 : decode cJ7_copyOf_6403c 6 = .ok (.iload_n 1, 1) := by decide +kernel
theorem dJ7_copyOf_6403c_7 : decode cJ7_copyOf_6403c 7 = .ok (.anewarray 2, 3) := by decide +kernel
theorem dJ7_copyOf_6403c_10 : decode cJ7_copyOf_6403c 10 = .ok (.goto 14, 3) := by decide +kernel
theorem dJ7_copyOf_6403c_13 : decode cJ7_copyOf_6403c 13 = .ok (.aload_n 2, 1) := by decide +kernel
theorem dJ7_copyOf_6403c_14 : decode cJ7_copyOf_6403c 14 = .ok (.invokevirtual 90, 3) := by decide +kernel
theorem dJ7_copyOf_6403c_17 : decode cJ7_copyOf_6403c 17 = .ok (.iload_n 1, 1) := by decide +kernel
theorem dJ7_copyOf_6403c_18 : decode cJ7_copyOf_6403c 18 = .ok (.invokestatic 95, 3) := by decide +kernel
theorem dJ7_copyOf_6403c_21 : decode cJ7_copyOf_6403c 21 = .ok (.checkcast 110, 3) := by decide +kernel
theorem dJ7_copyOf_6403c_24 : decode cJ7_copyOf_6403c 24 = .ok (.astore_n 3, 1) := by decide +kernel
theorem dJ7_copyOf_6403c_25 : decode cJ7_copyOf_6403c 25 = .ok (.aload_n 0, 1) := by decide +kernel
theorem dJ7_copyOf_6403c_26 : decode cJ7_copyOf_6403c 26 = .ok (.iconst 0, 1) := by decide +kernel
theorem dJ7_copyOf_6403c_27 : decode cJ7_copyOf_6403c 27 = .ok (.aload_n 3, 1) := by decide +kernel
theorem dJ7_copyOf_6403c_28 : decode cJ7_copyOf_6403c 28 = .ok (.iconst 0, 1) := by decide +kernel
theorem dJ7_copyOf_6403c_29 : decode cJ7_copyOf_6403c 29 = .ok (.aload_n 0, 1) := by decide +kernel
theorem dJ7_copyOf_6403c_30 : decode cJ7_copyOf_6403c 30 = .ok (.arraylength, 1) := by decide +kernel
theorem dJ7_copyOf_6403c_31 : decode cJ7_copyOf_6403c 31 = .ok (.iload_n 1, 1) := by decide +kernel
theorem dJ7_copyOf_6403c_32 : decode cJ7_copyOf_6403c 32 = .ok (.invokestatic 304, 3) := by decide +kernel
theorem dJ7_copyOf_6403c_35 : decode cJ7_copyOf_6403c 35 = .ok (.invokestatic 150, 3) := by decide +kernel
theorem dJ7_copyOf_6403c_38 : decode cJ7_copyOf_6403c 38 = .ok (.aload_n 3, 1) := by decide +kernel
theorem dJ7_copyOf_6403c_39 : decode cJ7_copyOf_6403c 39 = .ok (.areturn, 1) := by decide +kernel
theorem dJ15_checkIndex_7cf53_0 : decode cJ15_checkIndex_7cf53 0 = .ok (.iload_n 0, 1) := by decide +kernel
theorem dJ15_checkIndex_7cf53_1 : decode cJ15_checkIndex_7cf53 1 = .ok (.iload_n 1, 1) := by decide +kernel
theorem dJ15_checkIndex_7cf53_2 : decode cJ15_checkIndex_7cf53 2 = .ok (.aconst_null, 1) := by decide +kernel
theorem dJ15_checkIndex_7cf53_3 : decode cJ15_checkIndex_7cf53 3 = .ok (.invokestatic 105, 3) := by decide +kernel
theorem dJ15_checkIndex_7cf53_6 : decode cJ15_checkIndex_7cf53 6 = .ok (.ireturn, 1) := by decide +kernel
theorem dJ8_newLength_cabcc_0 : decode cJ8_newLength_cabcc 0 = .ok (.iload_n 0, 1) := by decide +kernel
theorem dJ8_newLength_cabcc_1 : decode cJ8_newLength_cabcc 1 = .ok (.iload_n 1, 1) := by decide +kernel
theorem dJ8_newLength_cabcc_2 : decode cJ8_newLength_cabcc 2 = .ok (.iload_n 2, 1) := by decide +kernel
theorem dJ8_newLength_cabcc_3 : decode cJ8_newLength_cabcc 3 = .ok (.invokestatic 194, 3) := by decide +kernel
theorem dJ8_newLength_cabcc_6 : decode cJ8_newLength_cabcc 6 = .ok (.iadd, 1) := by decide +kernel
theorem dJ8_newLength_cabcc_7 : decode cJ8_newLength_cabcc 7 = .ok (.istore_n 3, 1) := by decide +kernel
theorem dJ8_newLength_cabcc_8 : decode cJ8_newLength_cabcc 8 = .ok (.iconst 0, 1) := by decide +kernel
theorem dJ8_newLength_cabcc_9 : decode cJ8_newLength_cabcc 9 = .ok (.iload_n 3, 1) := by decide +kernel
theorem dJ8_newLength_cabcc_10 : decode cJ8_newLength_cabcc 10 = .ok (.if_icmp .ge 11, 3) := by decide +kernel
theorem dJ8_newLength_cabcc_13 : decode cJ8_newLength_cabcc 13 = .ok (.iload_n 3, 1) := by decide +kernel
theorem dJ8_newLength_cabcc_14 : decode cJ8_newLength_cabcc 14 = .ok (.ldc 200, 2) := by decide +kernel
theorem dJ8_newLength_cabcc_16 : decode cJ8_newLength_cabcc 16 = .ok (.if_icmp .gt 5, 3) := by decide +kernel
theorem dJ8_newLength_cabcc_19 : decode cJ8_newLength_cabcc 19 = .ok (.iload_n 3, 1) := by decide +kernel
theorem dJ8_newLength_cabcc_20 : decode cJ8_newLength_cabcc 20 = .ok (.ireturn, 1) := by decide +kernel
theorem dJ8_newLength_cabcc_21 : decode cJ8_newLength_cabcc 21 = .ok (.iload_n 0, 1) := by decide +kernel
theorem dJ8_newLength_cabcc_22 : decode cJ8_newLength_cabcc 22 = .ok (.iload_n 1, 1) := by decide +kernel
theorem dJ8_newLength_cabcc_23 : decode cJ8_newLength_cabcc 23 = .ok (.invokestatic 201, 3) := by decide +kernel
theorem dJ8_newLength_cabcc_26 : decode cJ8_newLength_cabcc 26 = .ok (.ireturn, 1) := by decide +kernel
theorem dJ8_hugeLength_7cf53_0 : decode cJ8_hugeLength_7cf53 0 = .ok (.iload_n 0, 1) := by decide +kernel
theorem dJ8_hugeLength_7cf53_1 : decode cJ8_hugeLength_7cf53 1 = .ok (.iload_n 1, 1) := by decide +kernel
theorem dJ8_hugeLength_7cf53_2 : decode cJ8_hugeLength_7cf53 2 = .ok (.iadd, 1) := by decide +kernel
theorem dJ8_hugeLength_7cf53_3 : decode cJ8_hugeLength_7cf53 3 = .ok (.istore_n 2, 1) := by decide +kernel
theorem dJ8_hugeLength_7cf53_4 : decode cJ8_hugeLength_7cf53 4 = .ok (.iload_n 2, 1) := by decide +kernel
theorem dJ8_hugeLength_7cf53_5 : decode cJ8_hugeLength_7cf53 5 = .ok (.ifCond .ge 44, 3) := by decide +kernel
theorem dJ8_hugeLength_7cf53_8 : decode cJ8_hugeLength_7cf53 8 = .ok (.new 204, 3) := by decide +kernel
theorem dJ8_hugeLength_7cf53_11 : decode cJ8_hugeLength_7cf53 11 = .ok (.dup, 1) := by decide +kernel
theorem dJ8_hugeLength_7cf53_12 : decode cJ8_hugeLength_7cf53 12 = .ok (.new 89, 3) := by decide +kernel
theorem dJ8_hugeLength_7cf53_15 : decode cJ8_hugeLength_7cf53 15 = .ok (.dup, 1) := by decide +kernel
theorem dJ8_hugeLength_7cf53_16 : decode cJ8_hugeLength_7cf53 16 = .ok (.invokespecial 91, 3) := by decide +kernel
theorem dJ8_hugeLength_7cf53_19 : decode cJ8_hugeLength_7cf53 19 = .ok (.ldc 206, 2) := by decide +kernel
theorem dJ8_hugeLength_7cf53_21 : decode cJ8_hugeLength_7cf53 21 = .ok (.invokevirtual 94, 3) := by decide +kernel
theorem dJ8_hugeLength_7cf53_24 : decode cJ8_hugeLength_7cf53 24 = .ok (.iload_n 0, 1) := by decide +kernel
theorem dJ8_hugeLength_7cf53_25 : decode cJ8_hugeLength_7cf53 25 = .ok (.invokevirtual 98, 3) := by decide +kernel
theorem dJ8_hugeLength_7cf53_28 : decode cJ8_hugeLength_7cf53 28 = .ok (.ldc 208, 2) := by decide +kernel
theorem dJ8_hugeLength_7cf53_30 : decode cJ8_hugeLength_7cf53 30 = .ok (.invokevirtual 94, 3) := by decide +kernel
theorem dJ8_hugeLength_7cf53_33 : decode cJ8_hugeLength_7cf53 33 = .ok (.iload_n 1, 1) := by decide +kernel
theorem dJ8_hugeLength_7cf53_34 : decode cJ8_hugeLength_7cf53 34 = .ok (.invokevirtual 98, 3) := by decide +kernel
theorem dJ8_hugeLength_7cf53_37 : decode cJ8_hugeLength_7cf53 37 = .ok (.ldc 210, 2) := by decide +kernel
theorem dJ8_hugeLength_7cf53_39 : decode cJ8_hugeLength_7cf53 39 = .ok (.invokevirtual 94, 3) := by decide +kernel
theorem dJ8_hugeLength_7cf53_42 : decode cJ8_hugeLength_7cf53 42 = .ok (.invokevirtual 101, 3) := by decide +kernel
theorem dJ8_hugeLength_7cf53_45 : decode cJ8_hugeLength_7cf53 45 = .ok (.invokespecial 212, 3) := by decide +kernel
theorem dJ8_hugeLength_7cf53_48 : decode cJ8_hugeLength_7cf53 48 = .ok (.athrow, 1) := by decide +kernel
theorem dJ8_hugeLength_7cf53_49 : decode cJ8_hugeLength_7cf53 49 = .ok (.iload_n 2, 1) := by decide +kernel
theorem dJ8_hugeLength_7cf53_50 : decode cJ8_hugeLength_7cf53 50 = .ok (.ldc 200, 2) := by decide +kernel
theorem dJ8_hugeLength_7cf53_52 : decode cJ8_hugeLength_7cf53 52 = .ok (.if_icmp .gt 6, 3) := by decide +kernel
theorem dJ8_hugeLength_7cf53_55 : decode cJ8_hugeLength_7cf53 55 = .ok (.ldc 200, 2) := by decide +kernel
theorem dJ8_hugeLength_7cf53_57 : decode cJ8_hugeLength_7cf53 57 = .ok (.ireturn, 1) := by decide +kernel
theorem dJ8_hugeLength_7cf53_58 : decode cJ8_hugeLength_7cf53 58 = .ok (.iload_n 2, 1) := by decide +kernel
theorem dJ8_hugeLength_7cf53_59 : decode cJ8_hugeLength_7cf53 59 = .ok (.ireturn, 1) := by decide +kernel
theorem dJ3_checkIndex_8e157_0 : decode cJ3_checkIndex_8e157 0 = .ok (.iload_n 0, 1) := by decide +kernel
theorem dJ3_checkIndex_8e157_1 : decode cJ3_checkIndex_8e157 1 = .ok (.ifCond .lt 8, 3) := by decide +kernel
theorem dJ3_checkIndex_8e157_4 : decode cJ3_checkIndex_8e157 4 = .ok (.iload_n 0, 1) := by decide +kernel
theorem dJ3_checkIndex_8e157_5 : decode cJ3_checkIndex_8e157 5 = .ok (.iload_n 1, 1) := by decide +kernel
theorem dJ3_checkIndex_8e157_6 : decode cJ3_checkIndex_8e157 6 = .ok (.if_icmp .lt 10, 3) := by decide +kernel
theorem dJ3_checkIndex_8e157_9 : decode cJ3_checkIndex_8e157 9 = .ok (.aload_n 2, 1) := by decide +kernel
theorem dJ3_checkIndex_8e157_10 : decode cJ3_checkIndex_8e157 10 = .ok (.iload_n 0, 1) := by decide +kernel
theorem dJ3_checkIndex_8e157_11 : decode cJ3_checkIndex_8e157 11 = .ok (.iload_n 1, 1) := by decide +kernel
theorem dJ3_checkIndex_8e157_12 : decode cJ3_checkIndex_8e157 12 = .ok (.invokestatic 95, 3) := by decide +kernel
theorem dJ3_checkIndex_8e157_15 : decode cJ3_checkIndex_8e157 15 = .ok (.athrow, 1) := by decide +kernel
theorem dJ3_checkIndex_8e157_16 : decode cJ3_checkIndex_8e157 16 = .ok (.iload_n 0, 1) := by decide +kernel
theorem dJ3_checkIndex_8e157_17 : decode cJ3_checkIndex_8e157 17 = .ok (.ireturn, 1) := by decide +kernel
theorem dL_line_0 : decode cL_line 0 = .ok (.aload_n 2, 1) := by decide +kernel
theorem dL_line_1 : decode cL_line 1 = .ok (.iconst 0, 1) := by decide +kernel
theorem dL_line_2 : decode cL_line 2 = .ok (.aload_n 0, 1) := by decide +kernel
theorem dL_line_3 : decode cL_line 3 = .ok (.iload_n 1, 1) := by decide +kernel
theorem dL_line_4 : decode cL_line 4 = .ok (.invokevirtual 7, 3) := by decide +kernel
theorem dL_line_7 : decode cL_line 7 = .ok (.i2l, 1) := by decide +kernel
theorem dL_line_8 : decode cL_line 8 = .ok (.lastore, 1) := by decide +kernel
theorem dL_line_9 : decode cL_line 9 = .ok (.goto 9, 3) := by decide +kernel
theorem dL_line_12 : decode cL_line 12 = .ok (.astore_n 3, 1) := by decide +kernel
theorem dL_line_13 : decode cL_line 13 = .ok (.iconst 1, 1) := by decide +kernel
theorem dL_line_14 : decode cL_line 14 = .ok (.ireturn, 1) := by decide +kernel
theorem dL_line_15 : decode cL_line 15 = .ok (.astore_n 3, 1) := by decide +kernel
theorem dL_line_16 : decode cL_line 16 = .ok (.iconst 2, 1) := by decide +kernel
theorem dL_line_17 : decode cL_line 17 = .ok (.ireturn, 1) := by decide +kernel
theorem dL_line_18 : decode cL_line 18 = .ok (.iconst 0, 1) := by decide +kernel
theorem dL_line_19 : decode cL_line 19 = .ok (.ireturn, 1) := by decide +kernel
theorem dL_stop_0 : decode cL_stop 0 = .ok (.aload 7, 2) := by decide +kernel
theorem dL_stop_2 : decode cL_stop 2 = .ok (.iconst 0, 1) := by decide +kernel
theorem dL_stop_3 : decode cL_stop 3 = .ok (.aload_n 0, 1) := by decide +kernel
theorem dL_stop_4 : decode cL_stop 4 = .ok (.iload_n 1, 1) := by decide +kernel
theorem dL_stop_5 : decode cL_stop 5 = .ok (.iload_n 2, 1) := by decide +kernel
theorem dL_stop_6 : decode cL_stop 6 = .ok (.lload_n 3, 1) := by decide +kernel
theorem dL_stop_7 : decode cL_stop 7 = .ok (.lload 5, 2) := by decide +kernel
theorem dL_stop_9 : decode cL_stop 9 = .ok (.invokevirtual 17, 3) := by decide +kernel
theorem dL_stop_12 : decode cL_stop 12 = .ok (.i2l, 1) := by decide +kernel
theorem dL_stop_13 : decode cL_stop 13 = .ok (.lastore, 1) := by decide +kernel
theorem dL_stop_14 : decode cL_stop 14 = .ok (.goto 15, 3) := by decide +kernel
theorem dL_stop_17 : decode cL_stop 17 = .ok (.astore 8, 2) := by decide +kernel
theorem dL_stop_19 : decode cL_stop 19 = .ok (.iconst 1, 1) := by decide +kernel
theorem dL_stop_20 : decode cL_stop 20 = .ok (.ireturn, 1) := by decide +kernel
theorem dL_stop_21 : decode cL_stop 21 = .ok (.astore 8, 2) := by decide +kernel
theorem dL_stop_23 : decode cL_stop 23 = .ok (.iconst 2, 1) := by decide +kernel
theorem dL_stop_24 : decode cL_stop 24 = .ok (.ireturn, 1) := by decide +kernel
theorem dL_stop_25 : decode cL_stop 25 = .ok (.astore 8, 2) := by decide +kernel
theorem dL_stop_27 : decode cL_stop 27 = .ok (.iconst 3, 1) := by decide +kernel
theorem dL_stop_28 : decode cL_stop 28 = .ok (.ireturn, 1) := by decide +kernel
theorem dL_stop_29 : decode cL_stop 29 = .ok (.iconst 0, 1) := by decide +kernel
theorem dL_stop_30 : decode cL_stop 30 = .ok (.ireturn, 1) := by decide +kernel
theorem dL_exception_0 : decode cL_exception 0 = .ok (.aload 5, 2) := by decide +kernel
theorem dL_exception_2 : decode cL_exception 2 = .ok (.iconst 0, 1) := by decide +kernel
theorem dL_exception_3 : decode cL_exception 3 = .ok (.aload_n 0, 1) := by decide +kernel
theorem dL_exception_4 : decode cL_exception 4 = .ok (.iload_n 1, 1) := by decide +kernel
theorem dL_exception_5 : decode cL_exception 5 = .ok (.lload_n 2, 1) := by decide +kernel
theorem dL_exception_6 : decode cL_exception 6 = .ok (.iload 4, 2) := by decide +kernel
theorem dL_exception_8 : decode cL_exception 8 = .ok (.invokevirtual 23, 3) := by decide +kernel
theorem dL_exception_11 : decode cL_exception 11 = .ok (.i2l, 1) := by decide +kernel
theorem dL_exception_12 : decode cL_exception 12 = .ok (.lastore, 1) := by decide +kernel
theorem dL_exception_13 : decode cL_exception 13 = .ok (.goto 15, 3) := by decide +kernel
theorem dL_exception_16 : decode cL_exception 16 = .ok (.astore 6, 2) := by decide +kernel
theorem dL_exception_18 : decode cL_exception 18 = .ok (.iconst 1, 1) := by decide +kernel
theorem dL_exception_19 : decode cL_exception 19 = .ok (.ireturn, 1) := by decide +kernel
theorem dL_exception_20 : decode cL_exception 20 = .ok (.astore 6, 2) := by decide +kernel
theorem dL_exception_22 : decode cL_exception 22 = .ok (.iconst 2, 1) := by decide +kernel
theorem dL_exception_23 : decode cL_exception 23 = .ok (.ireturn, 1) := by decide +kernel
theorem dL_exception_24 : decode cL_exception 24 = .ok (.astore 6, 2) := by decide +kernel
theorem dL_exception_26 : decode cL_exception 26 = .ok (.iconst 3, 1) := by decide +kernel
theorem dL_exception_27 : decode cL_exception 27 = .ok (.ireturn, 1) := by decide +kernel
theorem dL_exception_28 : decode cL_exception 28 = .ok (.iconst 0, 1) := by decide +kernel
theorem dL_exception_29 : decode cL_exception 29 = .ok (.ireturn, 1) := by decide +kernel
theorem dL_zone_0 : decode cL_zone 0 = .ok (.aload 5, 2) := by decide +kernel
theorem dL_zone_2 : decode cL_zone 2 = .ok (.iconst 0, 1) := by decide +kernel
theorem dL_zone_3 : decode cL_zone 3 = .ok (.aload_n 0, 1) := by decide +kernel
theorem dL_zone_4 : decode cL_zone 4 = .ok (.iload_n 1, 1) := by decide +kernel
theorem dL_zone_5 : decode cL_zone 5 = .ok (.lload_n 2, 1) := by decide +kernel
theorem dL_zone_6 : decode cL_zone 6 = .ok (.iload 4, 2) := by decide +kernel
theorem dL_zone_8 : decode cL_zone 8 = .ok (.invokevirtual 27, 3) := by decide +kernel
theorem dL_zone_11 : decode cL_zone 11 = .ok (.i2l, 1) := by decide +kernel
theorem dL_zone_12 : decode cL_zone 12 = .ok (.lastore, 1) := by decide +kernel
theorem dL_zone_13 : decode cL_zone 13 = .ok (.goto 15, 3) := by decide +kernel
theorem dL_zone_16 : decode cL_zone 16 = .ok (.astore 6, 2) := by decide +kernel
theorem dL_zone_18 : decode cL_zone 18 = .ok (.iconst 1, 1) := by decide +kernel
theorem dL_zone_19 : decode cL_zone 19 = .ok (.ireturn, 1) := by decide +kernel
theorem dL_zone_20 : decode cL_zone 20 = .ok (.astore 6, 2) := by decide +kernel
theorem dL_zone_22 : decode cL_zone 22 = .ok (.iconst 2, 1) := by decide +kernel
theorem dL_zone_23 : decode cL_zone 23 = .ok (.ireturn, 1) := by decide +kernel
theorem dL_zone_24 : decode cL_zone 24 = .ok (.astore 6, 2) := by decide +kernel
theorem dL_zone_26 : decode cL_zone 26 = .ok (.iconst 3, 1) := by decide +kernel
theorem dL_zone_27 : decode cL_zone 27 = .ok (.ireturn, 1) := by decide +kernel
theorem dL_zone_28 : decode cL_zone 28 = .ok (.iconst 0, 1) := by decide +kernel
theorem dL_zone_29 : decode cL_zone 29 = .ok (.ireturn, 1) := by decide +kernel
theorem dL_least_0 : decode cL_least 0 = .ok (.aload 4, 2) := by decide +kernel
theorem dL_least_2 : decode cL_least 2 = .ok (.iconst 0, 1) := by decide +kernel
theorem dL_least_3 : decode cL_least 3 = .ok (.aload_n 0, 1) := by decide +kernel
theorem dL_least_4 : decode cL_least 4 = .ok (.iload_n 1, 1) := by decide +kernel
theorem dL_least_5 : decode cL_least 5 = .ok (.lload_n 2, 1) := by decide +kernel
theorem dL_least_6 : decode cL_least 6 = .ok (.invokevirtual 31, 3) := by decide +kernel
theorem dL_least_9 : decode cL_least 9 = .ok (.i2l, 1) := by decide +kernel
theorem dL_least_10 : decode cL_least 10 = .ok (.lastore, 1) := by decide +kernel
theorem dL_least_11 : decode cL_least 11 = .ok (.goto 11, 3) := by decide +kernel
theorem dL_least_14 : decode cL_least 14 = .ok (.astore 5, 2) := by decide +kernel
theorem dL_least_16 : decode cL_least 16 = .ok (.iconst 1, 1) := by decide +kernel
theorem dL_least_17 : decode cL_least 17 = .ok (.ireturn, 1) := by decide +kernel
theorem dL_least_18 : decode cL_least 18 = .ok (.astore 5, 2) := by decide +kernel
theorem dL_least_20 : decode cL_least 20 = .ok (.iconst 2, 1) := by decide +kernel
theorem dL_least_21 : decode cL_least 21 = .ok (.ireturn, 1) := by decide +kernel
theorem dL_least_22 : decode cL_least 22 = .ok (.iconst 0, 1) := by decide +kernel
theorem dL_least_23 : decode cL_least 23 = .ok (.ireturn, 1) := by decide +kernel
theorem dL_change_0 : decode cL_change 0 = .ok (.aload 7, 2) := by decide +kernel
theorem dL_change_2 : decode cL_change 2 = .ok (.iconst 0, 1) := by decide +kernel
theorem dL_change_3 : decode cL_change 3 = .ok (.aload_n 0, 1) := by decide +kernel
theorem dL_change_4 : decode cL_change 4 = .ok (.iload_n 1, 1) := by decide +kernel
theorem dL_change_5 : decode cL_change 5 = .ok (.iload_n 2, 1) := by decide +kernel
theorem dL_change_6 : decode cL_change 6 = .ok (.lload_n 3, 1) := by decide +kernel
theorem dL_change_7 : decode cL_change 7 = .ok (.lload 5, 2) := by decide +kernel
theorem dL_change_9 : decode cL_change 9 = .ok (.invokevirtual 35, 3) := by decide +kernel
theorem dL_change_12 : decode cL_change 12 = .ok (.i2l, 1) := by decide +kernel
theorem dL_change_13 : decode cL_change 13 = .ok (.lastore, 1) := by decide +kernel
theorem dL_change_14 : decode cL_change 14 = .ok (.goto 15, 3) := by decide +kernel
theorem dL_change_17 : decode cL_change 17 = .ok (.astore 8, 2) := by decide +kernel
theorem dL_change_19 : decode cL_change 19 = .ok (.iconst 1, 1) := by decide +kernel
theorem dL_change_20 : decode cL_change 20 = .ok (.ireturn, 1) := by decide +kernel
theorem dL_change_21 : decode cL_change 21 = .ok (.astore 8, 2) := by decide +kernel
theorem dL_change_23 : decode cL_change 23 = .ok (.iconst 2, 1) := by decide +kernel
theorem dL_change_24 : decode cL_change 24 = .ok (.ireturn, 1) := by decide +kernel
theorem dL_change_25 : decode cL_change 25 = .ok (.astore 8, 2) := by decide +kernel
theorem dL_change_27 : decode cL_change 27 = .ok (.iconst 3, 1) := by decide +kernel
theorem dL_change_28 : decode cL_change 28 = .ok (.ireturn, 1) := by decide +kernel
theorem dL_change_29 : decode cL_change 29 = .ok (.iconst 0, 1) := by decide +kernel
theorem dL_change_30 : decode cL_change 30 = .ok (.ireturn, 1) := by decide +kernel
theorem dL_earliest_0 : decode cL_earliest 0 = .ok (.aload 5, 2) := by decide +kernel
theorem dL_earliest_2 : decode cL_earliest 2 = .ok (.iconst 0, 1) := by decide +kernel
theorem dL_earliest_3 : decode cL_earliest 3 = .ok (.aload_n 0, 1) := by decide +kernel
theorem dL_earliest_4 : decode cL_earliest 4 = .ok (.iload_n 1, 1) := by decide +kernel
theorem dL_earliest_5 : decode cL_earliest 5 = .ok (.iload_n 2, 1) := by decide +kernel
theorem dL_earliest_6 : decode cL_earliest 6 = .ok (.lload_n 3, 1) := by decide +kernel
theorem dL_earliest_7 : decode cL_earliest 7 = .ok (.invokevirtual 38, 3) := by decide +kernel
theorem dL_earliest_10 : decode cL_earliest 10 = .ok (.lastore, 1) := by decide +kernel
theorem dL_earliest_11 : decode cL_earliest 11 = .ok (.goto 11, 3) := by decide +kernel
theorem dL_earliest_14 : decode cL_earliest 14 = .ok (.astore 6, 2) := by decide +kernel
theorem dL_earliest_16 : decode cL_earliest 16 = .ok (.iconst 1, 1) := by decide +kernel
theorem dL_earliest_17 : decode cL_earliest 17 = .ok (.ireturn, 1) := by decide +kernel
theorem dL_earliest_18 : decode cL_earliest 18 = .ok (.astore 6, 2) := by decide +kernel
theorem dL_earliest_20 : decode cL_earliest 20 = .ok (.iconst 2, 1) := by decide +kernel
theorem dL_earliest_21 : decode cL_earliest 21 = .ok (.ireturn, 1) := by decide +kernel
theorem dL_earliest_22 : decode cL_earliest 22 = .ok (.iconst 0, 1) := by decide +kernel
theorem dL_earliest_23 : decode cL_earliest 23 = .ok (.ireturn, 1) := by decide +kernel
theorem dL_step_0 : decode cL_step 0 = .ok (.aload_n 3, 1) := by decide +kernel
theorem dL_step_1 : decode cL_step 1 = .ok (.iconst 0, 1) := by decide +kernel
theorem dL_step_2 : decode cL_step 2 = .ok (.aload_n 0, 1) := by decide +kernel
theorem dL_step_3 : decode cL_step 3 = .ok (.iload_n 1, 1) := by decide +kernel
theorem dL_step_4 : decode cL_step 4 = .ok (.iload_n 2, 1) := by decide +kernel
theorem dL_step_5 : decode cL_step 5 = .ok (.invokevirtual 42, 3) := by decide +kernel
theorem dL_step_8 : decode cL_step 8 = .ok (.i2l, 1) := by decide +kernel
theorem dL_step_9 : decode cL_step 9 = .ok (.lastore, 1) := by decide +kernel
theorem dL_step_10 : decode cL_step 10 = .ok (.goto 7, 3) := by decide +kernel
theorem dL_step_13 : decode cL_step 13 = .ok (.astore 4, 2) := by decide +kernel
theorem dL_step_15 : decode cL_step 15 = .ok (.iconst 1, 1) := by decide +kernel
theorem dL_step_16 : decode cL_step 16 = .ok (.ireturn, 1) := by decide +kernel
theorem dL_step_17 : decode cL_step 17 = .ok (.iconst 0, 1) := by decide +kernel
theorem dL_step_18 : decode cL_step 18 = .ok (.ireturn, 1) := by decide +kernel
theorem dL_days_0 : decode cL_days 0 = .ok (.aload_n 3, 1) := by decide +kernel
theorem dL_days_1 : decode cL_days 1 = .ok (.iconst 0, 1) := by decide +kernel
theorem dL_days_2 : decode cL_days 2 = .ok (.aload_n 0, 1) := by decide +kernel
theorem dL_days_3 : decode cL_days 3 = .ok (.iload_n 1, 1) := by decide +kernel
theorem dL_days_4 : decode cL_days 4 = .ok (.iload_n 2, 1) := by decide +kernel
theorem dL_days_5 : decode cL_days 5 = .ok (.invokevirtual 46, 3) := by decide +kernel
theorem dL_days_8 : decode cL_days 8 = .ok (.i2l, 1) := by decide +kernel
theorem dL_days_9 : decode cL_days 9 = .ok (.lastore, 1) := by decide +kernel
theorem dL_days_10 : decode cL_days 10 = .ok (.goto 7, 3) := by decide +kernel
theorem dL_days_13 : decode cL_days 13 = .ok (.astore 4, 2) := by decide +kernel
theorem dL_days_15 : decode cL_days 15 = .ok (.iconst 1, 1) := by decide +kernel
theorem dL_days_16 : decode cL_days 16 = .ok (.ireturn, 1) := by decide +kernel
theorem dL_days_17 : decode cL_days 17 = .ok (.iconst 0, 1) := by decide +kernel
theorem dL_days_18 : decode cL_days 18 = .ok (.ireturn, 1) := by decide +kernel
theorem dL_next_0 : decode cL_next 0 = .ok (.aload 6, 2) := by decide +kernel
theorem dL_next_2 : decode cL_next 2 = .ok (.iconst 0, 1) := by decide +kernel
theorem dL_next_3 : decode cL_next 3 = .ok (.aload_n 0, 1) := by decide +kernel
theorem dL_next_4 : decode cL_next 4 = .ok (.iload_n 1, 1) := by decide +kernel
theorem dL_next_5 : decode cL_next 5 = .ok (.iload_n 2, 1) := by decide +kernel
theorem dL_next_6 : decode cL_next 6 = .ok (.lload_n 3, 1) := by decide +kernel
theorem dL_next_7 : decode cL_next 7 = .ok (.iload 5, 2) := by decide +kernel
theorem dL_next_9 : decode cL_next 9 = .ok (.invokevirtual 51, 3) := by decide +kernel
theorem dL_next_12 : decode cL_next 12 = .ok (.i2l, 1) := by decide +kernel
theorem dL_next_13 : decode cL_next 13 = .ok (.lastore, 1) := by decide +kernel
theorem dL_next_14 : decode cL_next 14 = .ok (.goto 11, 3) := by decide +kernel
theorem dL_next_17 : decode cL_next 17 = .ok (.astore 7, 2) := by decide +kernel
theorem dL_next_19 : decode cL_next 19 = .ok (.iconst 1, 1) := by decide +kernel
theorem dL_next_20 : decode cL_next 20 = .ok (.ireturn, 1) := by decide +kernel
theorem dL_next_21 : decode cL_next 21 = .ok (.astore 7, 2) := by decide +kernel
theorem dL_next_23 : decode cL_next 23 = .ok (.iconst 2, 1) := by decide +kernel
theorem dL_next_24 : decode cL_next 24 = .ok (.ireturn, 1) := by decide +kernel
theorem dL_next_25 : decode cL_next 25 = .ok (.iconst 0, 1) := by decide +kernel
theorem dL_next_26 : decode cL_next 26 = .ok (.ireturn, 1) := by decide +kernel
theorem dL_sign_0 : decode cL_sign 0 = .ok (.aload_n 0, 1) := by decide +kernel
theorem dL_sign_1 : decode cL_sign 1 = .ok (.iload_n 1, 1) := by decide +kernel
theorem dL_sign_2 : decode cL_sign 2 = .ok (.invokevirtual 55, 3) := by decide +kernel
theorem dL_sign_5 : decode cL_sign 5 = .ok (.goto 9, 3) := by decide +kernel
theorem dL_sign_8 : decode cL_sign 8 = .ok (.astore_n 2, 1) := by decide +kernel
theorem dL_sign_9 : decode cL_sign 9 = .ok (.iconst 1, 1) := by decide +kernel
theorem dL_sign_10 : decode cL_sign 10 = .ok (.ireturn, 1) := by decide +kernel
theorem dL_sign_11 : decode cL_sign 11 = .ok (.astore_n 2, 1) := by decide +kernel
theorem dL_sign_12 : decode cL_sign 12 = .ok (.iconst 2, 1) := by decide +kernel
theorem dL_sign_13 : decode cL_sign 13 = .ok (.ireturn, 1) := by decide +kernel
theorem dL_sign_14 : decode cL_sign 14 = .ok (.iconst 0, 1) := by decide +kernel
theorem dL_sign_15 : decode cL_sign 15 = .ok (.ireturn, 1) := by decide +kernel
theorem dL_law_0 : decode cL_law 0 = .ok (.new 8, 3) := by decide +kernel
theorem dL_law_3 : decode cL_law 3 = .ok (.dup, 1) := by decide +kernel
theorem dL_law_4 : decode cL_law 4 = .ok (.invokespecial 59, 3) := by decide +kernel
theorem dL_law_7 : decode cL_law 7 = .ok (.astore_n 1, 1) := by decide +kernel
theorem dL_law_8 : decode cL_law 8 = .ok (.new 60, 3) := by decide +kernel
theorem dL_law_11 : decode cL_law 11 = .ok (.dup, 1) := by decide +kernel
theorem dL_law_12 : decode cL_law 12 = .ok (.invokespecial 62, 3) := by decide +kernel
theorem dL_law_15 : decode cL_law 15 = .ok (.astore_n 2, 1) := by decide +kernel
theorem dL_law_16 : decode cL_law 16 = .ok (.iconst 1, 1) := by decide +kernel
theorem dL_law_17 : decode cL_law 17 = .ok (.newarray .long, 2) := by decide +kernel
theorem dL_law_19 : decode cL_law 19 = .ok (.astore_n 3, 1) := by decide +kernel
theorem dL_law_20 : decode cL_law 20 = .ok (.iconst 0, 1) := by decide +kernel
theorem dL_law_21 : decode cL_law 21 = .ok (.istore 4, 2) := by decide +kernel
theorem dL_law_23 : decode cL_law 23 = .ok (.iload 4, 2) := by decide +kernel
theorem dL_law_25 : decode cL_law 25 = .ok (.aload_n 0, 1) := by decide +kernel
theorem dL_law_26 : decode cL_law 26 = .ok (.arraylength, 1) := by decide +kernel
theorem dL_law_27 : decode cL_law 27 = .ok (.bipush 7, 2) := by decide +kernel
theorem dL_law_29 : decode cL_law 29 = .ok (.isub, 1) := by decide +kernel
theorem dL_law_30 : decode cL_law 30 = .ok (.if_icmp .gt 1212, 3) := by decide +kernel
theorem dL_law_33 : decode cL_law 33 = .ok (.aload_n 0, 1) := by decide +kernel
theorem dL_law_34 : decode cL_law 34 = .ok (.iload 4, 2) := by decide +kernel
theorem dL_law_36 : decode cL_law 36 = .ok (.iaload, 1) := by decide +kernel
theorem dL_law_37 : decode cL_law 37 = .ok (.bipush 15, 2) := by decide +kernel
theorem dL_law_39 : decode cL_law 39 = .ok (.iand, 1) := by decide +kernel
theorem dL_law_40 : decode cL_law 40 = .ok (.tableswitch 1196 0 11 #[64, 120, 278, 406, 518, 618, 776, 887, 955, 1023, 1147, 1183], 64) := by decide +kernel
theorem dL_law_104 : decode cL_law 104 = .ok (.aload_n 1, 1) := by decide +kernel
theorem dL_law_105 : decode cL_law 105 = .ok (.aload_n 0, 1) := by decide +kernel
theorem dL_law_106 : decode cL_law 106 = .ok (.iload 4, 2) := by decide +kernel
theorem dL_law_108 : decode cL_law 108 = .ok (.iconst 1, 1) := by decide +kernel
theorem dL_law_109 : decode cL_law 109 = .ok (.iadd, 1) := by decide +kernel
theorem dL_law_110 : decode cL_law 110 = .ok (.iaload, 1) := by decide +kernel
theorem dL_law_111 : decode cL_law 111 = .ok (.aload_n 3, 1) := by decide +kernel
theorem dL_law_112 : decode cL_law 112 = .ok (.invokestatic 63, 3) := by decide +kernel
theorem dL_law_115 : decode cL_law 115 = .ok (.istore 5, 2) := by decide +kernel
theorem dL_law_117 : decode cL_law 117 = .ok (.aload_n 2, 1) := by decide +kernel
theorem dL_law_118 : decode cL_law 118 = .ok (.aload_n 0, 1) := by decide +kernel
theorem dL_law_119 : decode cL_law 119 = .ok (.iload 4, 2) := by decide +kernel
theorem dL_law_121 : decode cL_law 121 = .ok (.iconst 1, 1) := by decide +kernel
theorem dL_law_122 : decode cL_law 122 = .ok (.iadd, 1) := by decide +kernel
theorem dL_law_123 : decode cL_law 123 = .ok (.iaload, 1) := by decide +kernel
theorem dL_law_124 : decode cL_law 124 = .ok (.invokevirtual 68, 3) := by decide +kernel
theorem dL_law_127 : decode cL_law 127 = .ok (.istore 6, 2) := by decide +kernel
theorem dL_law_129 : decode cL_law 129 = .ok (.aload_n 2, 1) := by decide +kernel
theorem dL_law_130 : decode cL_law 130 = .ok (.invokevirtual 69, 3) := by decide +kernel
theorem dL_law_133 : decode cL_law 133 = .ok (.iload 5, 2) := by decide +kernel
theorem dL_law_135 : decode cL_law 135 = .ok (.if_icmp .eq 5, 3) := by decide +kernel
theorem dL_law_138 : decode cL_law 138 = .ok (.iconst 0, 1) := by decide +kernel
theorem dL_law_139 : decode cL_law 139 = .ok (.ireturn, 1) := by decide +kernel
theorem dL_law_140 : decode cL_law 140 = .ok (.iload 5, 2) := by decide +kernel
theorem dL_law_142 : decode cL_law 142 = .ok (.ifCond .ne 15, 3) := by decide +kernel
theorem dL_law_145 : decode cL_law 145 = .ok (.aload_n 3, 1) := by decide +kernel
theorem dL_law_146 : decode cL_law 146 = .ok (.iconst 0, 1) := by decide +kernel
theorem dL_law_147 : decode cL_law 147 = .ok (.laload, 1) := by decide +kernel
theorem dL_law_148 : decode cL_law 148 = .ok (.iload 6, 2) := by decide +kernel
theorem dL_law_150 : decode cL_law 150 = .ok (.i2l, 1) := by decide +kernel
theorem dL_law_151 : decode cL_law 151 = .ok (.lcmp, 1) := by decide +kernel
theorem dL_law_152 : decode cL_law 152 = .ok (.ifCond .eq 5, 3) := by decide +kernel
theorem dL_law_155 : decode cL_law 155 = .ok (.iconst 0, 1) := by decide +kernel
theorem dL_law_156 : decode cL_law 156 = .ok (.ireturn, 1) := by decide +kernel
theorem dL_law_157 : decode cL_law 157 = .ok (.goto 1079, 3) := by decide +kernel
theorem dL_law_160 : decode cL_law 160 = .ok (.aload_n 1, 1) := by decide +kernel
theorem dL_law_161 : decode cL_law 161 = .ok (.aload_n 0, 1) := by decide +kernel
theorem dL_law_162 : decode cL_law 162 = .ok (.iload 4, 2) := by decide +kernel
theorem dL_law_164 : decode cL_law 164 = .ok (.iconst 1, 1) := by decide +kernel
theorem dL_law_165 : decode cL_law 165 = .ok (.iadd, 1) := by decide +kernel
theorem dL_law_166 : decode cL_law 166 = .ok (.iaload, 1) := by decide +kernel
theorem dL_law_167 : decode cL_law 167 = .ok (.aload_n 0, 1) := by decide +kernel
theorem dL_law_168 : decode cL_law 168 = .ok (.iload 4, 2) := by decide +kernel
theorem dL_law_170 : decode cL_law 170 = .ok (.iconst 2, 1) := by decide +kernel
theorem dL_law_171 : decode cL_law 171 = .ok (.iadd, 1) := by decide +kernel
theorem dL_law_172 : decode cL_law 172 = .ok (.iaload, 1) := by decide +kernel
theorem dL_law_173 : decode cL_law 173 = .ok (.aload_n 0, 1) := by decide +kernel
theorem dL_law_174 : decode cL_law 174 = .ok (.iload 4, 2) := by decide +kernel
theorem dL_law_176 : decode cL_law 176 = .ok (.iconst 3, 1) := by decide +kernel
theorem dL_law_177 : decode cL_law 177 = .ok (.iadd, 1) := by decide +kernel
theorem dL_law_178 : decode cL_law 178 = .ok (.iaload, 1) := by decide +kernel
theorem dL_law_179 : decode cL_law 179 = .ok (.i2l, 1) := by decide +kernel
theorem dL_law_180 : decode cL_law 180 = .ok (.bipush 32, 2) := by decide +kernel
theorem dL_law_182 : decode cL_law 182 = .ok (.lshl, 1) := by decide +kernel
theorem dL_law_183 : decode cL_law 183 = .ok (.aload_n 0, 1) := by decide +kernel
theorem dL_law_184 : decode cL_law 184 = .ok (.iload 4, 2) := by decide +kernel
theorem dL_law_186 : decode cL_law 186 = .ok (.iconst 4, 1) := by decide +kernel
theorem dL_law_187 : decode cL_law 187 = .ok (.iadd, 1) := by decide +kernel
theorem dL_law_188 : decode cL_law 188 = .ok (.iaload, 1) := by decide +kernel
theorem dL_law_189 : decode cL_law 189 = .ok (.i2l, 1) := by decide +kernel
theorem dL_law_190 : decode cL_law 190 = .ok (.ldc2_w 73, 3) := by decide +kernel
theorem dL_law_193 : decode cL_law 193 = .ok (.land, 1) := by decide +kernel
theorem dL_law_194 : decode cL_law 194 = .ok (.lor, 1) := by decide +kernel
theorem dL_law_195 : decode cL_law 195 = .ok (.aload_n 0, 1) := by decide +kernel
theorem dL_law_196 : decode cL_law 196 = .ok (.iload 4, 2) := by decide +kernel
theorem dL_law_198 : decode cL_law 198 = .ok (.iconst 5, 1) := by decide +kernel
theorem dL_law_199 : decode cL_law 199 = .ok (.iadd, 1) := by decide +kernel
theorem dL_law_200 : decode cL_law 200 = .ok (.iaload, 1) := by decide +kernel
theorem dL_law_201 : decode cL_law 201 = .ok (.i2l, 1) := by decide +kernel
theorem dL_law_202 : decode cL_law 202 = .ok (.bipush 32, 2) := by decide +kernel
theorem dL_law_204 : decode cL_law 204 = .ok (.lshl, 1) := by decide +kernel
theorem dL_law_205 : decode cL_law 205 = .ok (.aload_n 0, 1) := by decide +kernel
theorem dL_law_206 : decode cL_law 206 = .ok (.iload 4, 2) := by decide +kernel
theorem dL_law_208 : decode cL_law 208 = .ok (.bipush 6, 2) := by decide +kernel
theorem dL_law_210 : decode cL_law 210 = .ok (.iadd, 1) := by decide +kernel
theorem dL_law_211 : decode cL_law 211 = .ok (.iaload, 1) := by decide +kernel
theorem dL_law_212 : decode cL_law 212 = .ok (.i2l, 1) := by decide +kernel
theorem dL_law_213 : decode cL_law 213 = .ok (.ldc2_w 73, 3) := by decide +kernel
theorem dL_law_216 : decode cL_law 216 = .ok (.land, 1) := by decide +kernel
theorem dL_law_217 : decode cL_law 217 = .ok (.lor, 1) := by decide +kernel
theorem dL_law_218 : decode cL_law 218 = .ok (.aload_n 3, 1) := by decide +kernel
theorem dL_law_219 : decode cL_law 219 = .ok (.invokestatic 75, 3) := by decide +kernel
theorem dL_law_222 : decode cL_law 222 = .ok (.istore 5, 2) := by decide +kernel
theorem dL_law_224 : decode cL_law 224 = .ok (.aload_n 2, 1) := by decide +kernel
theorem dL_law_225 : decode cL_law 225 = .ok (.aload_n 0, 1) := by decide +kernel
theorem dL_law_226 : decode cL_law 226 = .ok (.iload 4, 2) := by decide +kernel
theorem dL_law_228 : decode cL_law 228 = .ok (.iconst 1, 1) := by decide +kernel
theorem dL_law_229 : decode cL_law 229 = .ok (.iadd, 1) := by decide +kernel
theorem dL_law_230 : decode cL_law 230 = .ok (.iaload, 1) := by decide +kernel
theorem dL_law_231 : decode cL_law 231 = .ok (.aload_n 0, 1) := by decide +kernel
theorem dL_law_232 : decode cL_law 232 = .ok (.iload 4, 2) := by decide +kernel
theorem dL_law_234 : decode cL_law 234 = .ok (.iconst 2, 1) := by decide +kernel
theorem dL_law_235 : decode cL_law 235 = .ok (.iadd, 1) := by decide +kernel
theorem dL_law_236 : decode cL_law 236 = .ok (.iaload, 1) := by decide +kernel
theorem dL_law_237 : decode cL_law 237 = .ok (.aload_n 0, 1) := by decide +kernel
theorem dL_law_238 : decode cL_law 238 = .ok (.iload 4, 2) := by decide +kernel
theorem dL_law_240 : decode cL_law 240 = .ok (.iconst 3, 1) := by decide +kernel
theorem dL_law_241 : decode cL_law 241 = .ok (.iadd, 1) := by decide +kernel
theorem dL_law_242 : decode cL_law 242 = .ok (.iaload, 1) := by decide +kernel
theorem dL_law_243 : decode cL_law 243 = .ok (.i2l, 1) := by decide +kernel
theorem dL_law_244 : decode cL_law 244 = .ok (.bipush 32, 2) := by decide +kernel
theorem dL_law_246 : decode cL_law 246 = .ok (.lshl, 1) := by decide +kernel
theorem dL_law_247 : decode cL_law 247 = .ok (.aload_n 0, 1) := by decide +kernel
theorem dL_law_248 : decode cL_law 248 = .ok (.iload 4, 2) := by decide +kernel
theorem dL_law_250 : decode cL_law 250 = .ok (.iconst 4, 1) := by decide +kernel
theorem dL_law_251 : decode cL_law 251 = .ok (.iadd, 1) := by decide +kernel
theorem dL_law_252 : decode cL_law 252 = .ok (.iaload, 1) := by decide +kernel
theorem dL_law_253 : decode cL_law 253 = .ok (.i2l, 1) := by decide +kernel
theorem dL_law_254 : decode cL_law 254 = .ok (.ldc2_w 73, 3) := by decide +kernel
theorem dL_law_257 : decode cL_law 257 = .ok (.land, 1) := by decide +kernel
theorem dL_law_258 : decode cL_law 258 = .ok (.lor, 1) := by decide +kernel
theorem dL_law_259 : decode cL_law 259 = .ok (.aload_n 0, 1) := by decide +kernel
theorem dL_law_260 : decode cL_law 260 = .ok (.iload 4, 2) := by decide +kernel
theorem dL_law_262 : decode cL_law 262 = .ok (.iconst 5, 1) := by decide +kernel
theorem dL_law_263 : decode cL_law 263 = .ok (.iadd, 1) := by decide +kernel
theorem dL_law_264 : decode cL_law 264 = .ok (.iaload, 1) := by decide +kernel
theorem dL_law_265 : decode cL_law 265 = .ok (.i2l, 1) := by decide +kernel
theorem dL_law_266 : decode cL_law 266 = .ok (.bipush 32, 2) := by decide +kernel
theorem dL_law_268 : decode cL_law 268 = .ok (.lshl, 1) := by decide +kernel
theorem dL_law_269 : decode cL_law 269 = .ok (.aload_n 0, 1) := by decide +kernel
theorem dL_law_270 : decode cL_law 270 = .ok (.iload 4, 2) := by decide +kernel
theorem dL_law_272 : decode cL_law 272 = .ok (.bipush 6, 2) := by decide +kernel
theorem dL_law_274 : decode cL_law 274 = .ok (.iadd, 1) := by decide +kernel
theorem dL_law_275 : decode cL_law 275 = .ok (.iaload, 1) := by decide +kernel
theorem dL_law_276 : decode cL_law 276 = .ok (.i2l, 1) := by decide +kernel
theorem dL_law_277 : decode cL_law 277 = .ok (.ldc2_w 73, 3) := by decide +kernel
theorem dL_law_280 : decode cL_law 280 = .ok (.land, 1) := by decide +kernel
theorem dL_law_281 : decode cL_law 281 = .ok (.lor, 1) := by decide +kernel
theorem dL_law_282 : decode cL_law 282 = .ok (.invokevirtual 78, 3) := by decide +kernel
theorem dL_law_285 : decode cL_law 285 = .ok (.istore 6, 2) := by decide +kernel
theorem dL_law_287 : decode cL_law 287 = .ok (.aload_n 2, 1) := by decide +kernel
theorem dL_law_288 : decode cL_law 288 = .ok (.invokevirtual 69, 3) := by decide +kernel
theorem dL_law_291 : decode cL_law 291 = .ok (.iload 5, 2) := by decide +kernel
theorem dL_law_293 : decode cL_law 293 = .ok (.if_icmp .eq 5, 3) := by decide +kernel
theorem dL_law_296 : decode cL_law 296 = .ok (.iconst 0, 1) := by decide +kernel
theorem dL_law_297 : decode cL_law 297 = .ok (.ireturn, 1) := by decide +kernel
theorem dL_law_298 : decode cL_law 298 = .ok (.iload 5, 2) := by decide +kernel
theorem dL_law_300 : decode cL_law 300 = .ok (.ifCond .ne 15, 3) := by decide +kernel
theorem dL_law_303 : decode cL_law 303 = .ok (.aload_n 3, 1) := by decide +kernel
theorem dL_law_304 : decode cL_law 304 = .ok (.iconst 0, 1) := by decide +kernel
theorem dL_law_305 : decode cL_law 305 = .ok (.laload, 1) := by decide +kernel
theorem dL_law_306 : decode cL_law 306 = .ok (.iload 6, 2) := by decide +kernel
theorem dL_law_308 : decode cL_law 308 = .ok (.i2l, 1) := by decide +kernel
theorem dL_law_309 : decode cL_law 309 = .ok (.lcmp, 1) := by decide +kernel
theorem dL_law_310 : decode cL_law 310 = .ok (.ifCond .eq 5, 3) := by decide +kernel
theorem dL_law_313 : decode cL_law 313 = .ok (.iconst 0, 1) := by decide +kernel
theorem dL_law_314 : decode cL_law 314 = .ok (.ireturn, 1) := by decide +kernel
theorem dL_law_315 : decode cL_law 315 = .ok (.goto 921, 3) := by decide +kernel
theorem dL_law_318 : decode cL_law 318 = .ok (.aload_n 1, 1) := by decide +kernel
theorem dL_law_319 : decode cL_law 319 = .ok (.aload_n 0, 1) := by decide +kernel
theorem dL_law_320 : decode cL_law 320 = .ok (.iload 4, 2) := by decide +kernel
theorem dL_law_322 : decode cL_law 322 = .ok (.iconst 1, 1) := by decide +kernel
theorem dL_law_323 : decode cL_law 323 = .ok (.iadd, 1) := by decide +kernel
theorem dL_law_324 : decode cL_law 324 = .ok (.iaload, 1) := by decide +kernel
theorem dL_law_325 : decode cL_law 325 = .ok (.aload_n 0, 1) := by decide +kernel
theorem dL_law_326 : decode cL_law 326 = .ok (.iload 4, 2) := by decide +kernel
theorem dL_law_328 : decode cL_law 328 = .ok (.iconst 2, 1) := by decide +kernel
theorem dL_law_329 : decode cL_law 329 = .ok (.iadd, 1) := by decide +kernel
theorem dL_law_330 : decode cL_law 330 = .ok (.iaload, 1) := by decide +kernel
theorem dL_law_331 : decode cL_law 331 = .ok (.i2l, 1) := by decide +kernel
theorem dL_law_332 : decode cL_law 332 = .ok (.bipush 32, 2) := by decide +kernel
theorem dL_law_334 : decode cL_law 334 = .ok (.lshl, 1) := by decide +kernel
theorem dL_law_335 : decode cL_law 335 = .ok (.aload_n 0, 1) := by decide +kernel
theorem dL_law_336 : decode cL_law 336 = .ok (.iload 4, 2) := by decide +kernel
theorem dL_law_338 : decode cL_law 338 = .ok (.iconst 3, 1) := by decide +kernel
theorem dL_law_339 : decode cL_law 339 = .ok (.iadd, 1) := by decide +kernel
theorem dL_law_340 : decode cL_law 340 = .ok (.iaload, 1) := by decide +kernel
theorem dL_law_341 : decode cL_law 341 = .ok (.i2l, 1) := by decide +kernel
theorem dL_law_342 : decode cL_law 342 = .ok (.ldc2_w 73, 3) := by decide +kernel
theorem dL_law_345 : decode cL_law 345 = .ok (.land, 1) := by decide +kernel
theorem dL_law_346 : decode cL_law 346 = .ok (.lor, 1) := by decide +kernel
theorem dL_law_347 : decode cL_law 347 = .ok (.aload_n 0, 1) := by decide +kernel
theorem dL_law_348 : decode cL_law 348 = .ok (.iload 4, 2) := by decide +kernel
theorem dL_law_350 : decode cL_law 350 = .ok (.iconst 4, 1) := by decide +kernel
theorem dL_law_351 : decode cL_law 351 = .ok (.iadd, 1) := by decide +kernel
theorem dL_law_352 : decode cL_law 352 = .ok (.iaload, 1) := by decide +kernel
theorem dL_law_353 : decode cL_law 353 = .ok (.ifCond .eq 7, 3) := by decide +kernel
theorem dL_law_356 : decode cL_law 356 = .ok (.iconst 1, 1) := by decide +kernel
theorem dL_law_357 : decode cL_law 357 = .ok (.goto 4, 3) := by decide +kernel
theorem dL_law_360 : decode cL_law 360 = .ok (.iconst 0, 1) := by decide +kernel
theorem dL_law_361 : decode cL_law 361 = .ok (.aload_n 3, 1) := by decide +kernel
theorem dL_law_362 : decode cL_law 362 = .ok (.invokestatic 79, 3) := by decide +kernel
theorem dL_law_365 : decode cL_law 365 = .ok (.istore 5, 2) := by decide +kernel
theorem dL_law_367 : decode cL_law 367 = .ok (.aload_n 2, 1) := by decide +kernel
theorem dL_law_368 : decode cL_law 368 = .ok (.aload_n 0, 1) := by decide +kernel
theorem dL_law_369 : decode cL_law 369 = .ok (.iload 4, 2) := by decide +kernel
theorem dL_law_371 : decode cL_law 371 = .ok (.iconst 1, 1) := by decide +kernel
theorem dL_law_372 : decode cL_law 372 = .ok (.iadd, 1) := by decide +kernel
theorem dL_law_373 : decode cL_law 373 = .ok (.iaload, 1) := by decide +kernel
theorem dL_law_374 : decode cL_law 374 = .ok (.aload_n 0, 1) := by decide +kernel
theorem dL_law_375 : decode cL_law 375 = .ok (.iload 4, 2) := by decide +kernel
theorem dL_law_377 : decode cL_law 377 = .ok (.iconst 2, 1) := by decide +kernel
theorem dL_law_378 : decode cL_law 378 = .ok (.iadd, 1) := by decide +kernel
theorem dL_law_379 : decode cL_law 379 = .ok (.iaload, 1) := by decide +kernel
theorem dL_law_380 : decode cL_law 380 = .ok (.i2l, 1) := by decide +kernel
theorem dL_law_381 : decode cL_law 381 = .ok (.bipush 32, 2) := by decide +kernel
theorem dL_law_383 : decode cL_law 383 = .ok (.lshl, 1) := by decide +kernel
theorem dL_law_384 : decode cL_law 384 = .ok (.aload_n 0, 1) := by decide +kernel
theorem dL_law_385 : decode cL_law 385 = .ok (.iload 4, 2) := by decide +kernel
theorem dL_law_387 : decode cL_law 387 = .ok (.iconst 3, 1) := by decide +kernel
theorem dL_law_388 : decode cL_law 388 = .ok (.iadd, 1) := by decide +kernel
theorem dL_law_389 : decode cL_law 389 = .ok (.iaload, 1) := by decide +kernel
theorem dL_law_390 : decode cL_law 390 = .ok (.i2l, 1) := by decide +kernel
theorem dL_law_391 : decode cL_law 391 = .ok (.ldc2_w 73, 3) := by decide +kernel
theorem dL_law_394 : decode cL_law 394 = .ok (.land, 1) := by decide +kernel
theorem dL_law_395 : decode cL_law 395 = .ok (.lor, 1) := by decide +kernel
theorem dL_law_396 : decode cL_law 396 = .ok (.aload_n 0, 1) := by decide +kernel
theorem dL_law_397 : decode cL_law 397 = .ok (.iload 4, 2) := by decide +kernel
theorem dL_law_399 : decode cL_law 399 = .ok (.iconst 4, 1) := by decide +kernel
theorem dL_law_400 : decode cL_law 400 = .ok (.iadd, 1) := by decide +kernel
theorem dL_law_401 : decode cL_law 401 = .ok (.iaload, 1) := by decide +kernel
theorem dL_law_402 : decode cL_law 402 = .ok (.ifCond .eq 7, 3) := by decide +kernel
theorem dL_law_405 : decode cL_law 405 = .ok (.iconst 1, 1) := by decide +kernel
theorem dL_law_406 : decode cL_law 406 = .ok (.goto 4, 3) := by decide +kernel
theorem dL_law_409 : decode cL_law 409 = .ok (.iconst 0, 1) := by decide +kernel
theorem dL_law_410 : decode cL_law 410 = .ok (.invokevirtual 82, 3) := by decide +kernel
theorem dL_law_413 : decode cL_law 413 = .ok (.istore 6, 2) := by decide +kernel
theorem dL_law_415 : decode cL_law 415 = .ok (.aload_n 2, 1) := by decide +kernel
theorem dL_law_416 : decode cL_law 416 = .ok (.invokevirtual 69, 3) := by decide +kernel
theorem dL_law_419 : decode cL_law 419 = .ok (.iload 5, 2) := by decide +kernel
theorem dL_law_421 : decode cL_law 421 = .ok (.if_icmp .eq 5, 3) := by decide +kernel
theorem dL_law_424 : decode cL_law 424 = .ok (.iconst 0, 1) := by decide +kernel
theorem dL_law_425 : decode cL_law 425 = .ok (.ireturn, 1) := by decide +kernel
theorem dL_law_426 : decode cL_law 426 = .ok (.iload 5, 2) := by decide +kernel
theorem dL_law_428 : decode cL_law 428 = .ok (.ifCond .ne 15, 3) := by decide +kernel
theorem dL_law_431 : decode cL_law 431 = .ok (.aload_n 3, 1) := by decide +kernel
theorem dL_law_432 : decode cL_law 432 = .ok (.iconst 0, 1) := by decide +kernel
theorem dL_law_433 : decode cL_law 433 = .ok (.laload, 1) := by decide +kernel
theorem dL_law_434 : decode cL_law 434 = .ok (.iload 6, 2) := by decide +kernel
theorem dL_law_436 : decode cL_law 436 = .ok (.i2l, 1) := by decide +kernel
theorem dL_law_437 : decode cL_law 437 = .ok (.lcmp, 1) := by decide +kernel
theorem dL_law_438 : decode cL_law 438 = .ok (.ifCond .eq 5, 3) := by decide +kernel
theorem dL_law_441 : decode cL_law 441 = .ok (.iconst 0, 1) := by decide +kernel
theorem dL_law_442 : decode cL_law 442 = .ok (.ireturn, 1) := by decide +kernel
theorem dL_law_443 : decode cL_law 443 = .ok (.goto 793, 3) := by decide +kernel
theorem dL_law_446 : decode cL_law 446 = .ok (.aload_n 1, 1) := by decide +kernel
theorem dL_law_447 : decode cL_law 447 = .ok (.aload_n 0, 1) := by decide +kernel
theorem dL_law_448 : decode cL_law 448 = .ok (.iload 4, 2) := by decide +kernel
theorem dL_law_450 : decode cL_law 450 = .ok (.iconst 1, 1) := by decide +kernel
theorem dL_law_451 : decode cL_law 451 = .ok (.iadd, 1) := by decide +kernel
theorem dL_law_452 : decode cL_law 452 = .ok (.iaload, 1) := by decide +kernel
theorem dL_law_453 : decode cL_law 453 = .ok (.aload_n 0, 1) := by decide +kernel
theorem dL_law_454 : decode cL_law 454 = .ok (.iload 4, 2) := by decide +kernel
theorem dL_law_456 : decode cL_law 456 = .ok (.iconst 2, 1) := by decide +kernel
theorem dL_law_457 : decode cL_law 457 = .ok (.iadd, 1) := by decide +kernel
theorem dL_law_458 : decode cL_law 458 = .ok (.iaload, 1) := by decide +kernel
theorem dL_law_459 : decode cL_law 459 = .ok (.i2l, 1) := by decide +kernel
theorem dL_law_460 : decode cL_law 460 = .ok (.bipush 32, 2) := by decide +kernel
theorem dL_law_462 : decode cL_law 462 = .ok (.lshl, 1) := by decide +kernel
theorem dL_law_463 : decode cL_law 463 = .ok (.aload_n 0, 1) := by decide +kernel
theorem dL_law_464 : decode cL_law 464 = .ok (.iload 4, 2) := by decide +kernel
theorem dL_law_466 : decode cL_law 466 = .ok (.iconst 3, 1) := by decide +kernel
theorem dL_law_467 : decode cL_law 467 = .ok (.iadd, 1) := by decide +kernel
theorem dL_law_468 : decode cL_law 468 = .ok (.iaload, 1) := by decide +kernel
theorem dL_law_469 : decode cL_law 469 = .ok (.i2l, 1) := by decide +kernel
theorem dL_law_470 : decode cL_law 470 = .ok (.ldc2_w 73, 3) := by decide +kernel
theorem dL_law_473 : decode cL_law 473 = .ok (.land, 1) := by decide +kernel
theorem dL_law_474 : decode cL_law 474 = .ok (.lor, 1) := by decide +kernel
theorem dL_law_475 : decode cL_law 475 = .ok (.aload_n 0, 1) := by decide +kernel
theorem dL_law_476 : decode cL_law 476 = .ok (.iload 4, 2) := by decide +kernel
theorem dL_law_478 : decode cL_law 478 = .ok (.iconst 4, 1) := by decide +kernel
theorem dL_law_479 : decode cL_law 479 = .ok (.iadd, 1) := by decide +kernel
theorem dL_law_480 : decode cL_law 480 = .ok (.iaload, 1) := by decide +kernel
theorem dL_law_481 : decode cL_law 481 = .ok (.aload_n 3, 1) := by decide +kernel
theorem dL_law_482 : decode cL_law 482 = .ok (.invokestatic 83, 3) := by decide +kernel
theorem dL_law_485 : decode cL_law 485 = .ok (.istore 5, 2) := by decide +kernel
theorem dL_law_487 : decode cL_law 487 = .ok (.aload_n 2, 1) := by decide +kernel
theorem dL_law_488 : decode cL_law 488 = .ok (.aload_n 0, 1) := by decide +kernel
theorem dL_law_489 : decode cL_law 489 = .ok (.iload 4, 2) := by decide +kernel
theorem dL_law_491 : decode cL_law 491 = .ok (.iconst 1, 1) := by decide +kernel
theorem dL_law_492 : decode cL_law 492 = .ok (.iadd, 1) := by decide +kernel
theorem dL_law_493 : decode cL_law 493 = .ok (.iaload, 1) := by decide +kernel
theorem dL_law_494 : decode cL_law 494 = .ok (.aload_n 0, 1) := by decide +kernel
theorem dL_law_495 : decode cL_law 495 = .ok (.iload 4, 2) := by decide +kernel
theorem dL_law_497 : decode cL_law 497 = .ok (.iconst 2, 1) := by decide +kernel
theorem dL_law_498 : decode cL_law 498 = .ok (.iadd, 1) := by decide +kernel
theorem dL_law_499 : decode cL_law 499 = .ok (.iaload, 1) := by decide +kernel
theorem dL_law_500 : decode cL_law 500 = .ok (.i2l, 1) := by decide +kernel
theorem dL_law_501 : decode cL_law 501 = .ok (.bipush 32, 2) := by decide +kernel
theorem dL_law_503 : decode cL_law 503 = .ok (.lshl, 1) := by decide +kernel
theorem dL_law_504 : decode cL_law 504 = .ok (.aload_n 0, 1) := by decide +kernel
theorem dL_law_505 : decode cL_law 505 = .ok (.iload 4, 2) := by decide +kernel
theorem dL_law_507 : decode cL_law 507 = .ok (.iconst 3, 1) := by decide +kernel
theorem dL_law_508 : decode cL_law 508 = .ok (.iadd, 1) := by decide +kernel
theorem dL_law_509 : decode cL_law 509 = .ok (.iaload, 1) := by decide +kernel
theorem dL_law_510 : decode cL_law 510 = .ok (.i2l, 1) := by decide +kernel
theorem dL_law_511 : decode cL_law 511 = .ok (.ldc2_w 73, 3) := by decide +kernel
theorem dL_law_514 : decode cL_law 514 = .ok (.land, 1) := by decide +kernel
theorem dL_law_515 : decode cL_law 515 = .ok (.lor, 1) := by decide +kernel
theorem dL_law_516 : decode cL_law 516 = .ok (.aload_n 0, 1) := by decide +kernel
theorem dL_law_517 : decode cL_law 517 = .ok (.iload 4, 2) := by decide +kernel
theorem dL_law_519 : decode cL_law 519 = .ok (.iconst 4, 1) := by decide +kernel
theorem dL_law_520 : decode cL_law 520 = .ok (.iadd, 1) := by decide +kernel
theorem dL_law_521 : decode cL_law 521 = .ok (.iaload, 1) := by decide +kernel
theorem dL_law_522 : decode cL_law 522 = .ok (.invokevirtual 86, 3) := by decide +kernel
theorem dL_law_525 : decode cL_law 525 = .ok (.istore 6, 2) := by decide +kernel
theorem dL_law_527 : decode cL_law 527 = .ok (.aload_n 2, 1) := by decide +kernel
theorem dL_law_528 : decode cL_law 528 = .ok (.invokevirtual 69, 3) := by decide +kernel
theorem dL_law_531 : decode cL_law 531 = .ok (.iload 5, 2) := by decide +kernel
theorem dL_law_533 : decode cL_law 533 = .ok (.if_icmp .eq 5, 3) := by decide +kernel
theorem dL_law_536 : decode cL_law 536 = .ok (.iconst 0, 1) := by decide +kernel
theorem dL_law_537 : decode cL_law 537 = .ok (.ireturn, 1) := by decide +kernel
theorem dL_law_538 : decode cL_law 538 = .ok (.iload 5, 2) := by decide +kernel
theorem dL_law_540 : decode cL_law 540 = .ok (.ifCond .ne 15, 3) := by decide +kernel
theorem dL_law_543 : decode cL_law 543 = .ok (.aload_n 3, 1) := by decide +kernel
theorem dL_law_544 : decode cL_law 544 = .ok (.iconst 0, 1) := by decide +kernel
theorem dL_law_545 : decode cL_law 545 = .ok (.laload, 1) := by decide +kernel
theorem dL_law_546 : decode cL_law 546 = .ok (.iload 6, 2) := by decide +kernel
theorem dL_law_548 : decode cL_law 548 = .ok (.i2l, 1) := by decide +kernel
theorem dL_law_549 : decode cL_law 549 = .ok (.lcmp, 1) := by decide +kernel
theorem dL_law_550 : decode cL_law 550 = .ok (.ifCond .eq 5, 3) := by decide +kernel
theorem dL_law_553 : decode cL_law 553 = .ok (.iconst 0, 1) := by decide +kernel
theorem dL_law_554 : decode cL_law 554 = .ok (.ireturn, 1) := by decide +kernel
theorem dL_law_555 : decode cL_law 555 = .ok (.goto 681, 3) := by decide +kernel
theorem dL_law_558 : decode cL_law 558 = .ok (.aload_n 1, 1) := by decide +kernel
theorem dL_law_559 : decode cL_law 559 = .ok (.aload_n 0, 1) := by decide +kernel
theorem dL_law_560 : decode cL_law 560 = .ok (.iload 4, 2) := by decide +kernel
theorem dL_law_562 : decode cL_law 562 = .ok (.iconst 1, 1) := by decide +kernel
theorem dL_law_563 : decode cL_law 563 = .ok (.iadd, 1) := by decide +kernel
theorem dL_law_564 : decode cL_law 564 = .ok (.iaload, 1) := by decide +kernel
theorem dL_law_565 : decode cL_law 565 = .ok (.aload_n 0, 1) := by decide +kernel
theorem dL_law_566 : decode cL_law 566 = .ok (.iload 4, 2) := by decide +kernel
theorem dL_law_568 : decode cL_law 568 = .ok (.iconst 2, 1) := by decide +kernel
theorem dL_law_569 : decode cL_law 569 = .ok (.iadd, 1) := by decide +kernel
theorem dL_law_570 : decode cL_law 570 = .ok (.iaload, 1) := by decide +kernel
theorem dL_law_571 : decode cL_law 571 = .ok (.i2l, 1) := by decide +kernel
theorem dL_law_572 : decode cL_law 572 = .ok (.bipush 32, 2) := by decide +kernel
theorem dL_law_574 : decode cL_law 574 = .ok (.lshl, 1) := by decide +kernel
theorem dL_law_575 : decode cL_law 575 = .ok (.aload_n 0, 1) := by decide +kernel
theorem dL_law_576 : decode cL_law 576 = .ok (.iload 4, 2) := by decide +kernel
theorem dL_law_578 : decode cL_law 578 = .ok (.iconst 3, 1) := by decide +kernel
theorem dL_law_579 : decode cL_law 579 = .ok (.iadd, 1) := by decide +kernel
theorem dL_law_580 : decode cL_law 580 = .ok (.iaload, 1) := by decide +kernel
theorem dL_law_581 : decode cL_law 581 = .ok (.i2l, 1) := by decide +kernel
theorem dL_law_582 : decode cL_law 582 = .ok (.ldc2_w 73, 3) := by decide +kernel
theorem dL_law_585 : decode cL_law 585 = .ok (.land, 1) := by decide +kernel
theorem dL_law_586 : decode cL_law 586 = .ok (.lor, 1) := by decide +kernel
theorem dL_law_587 : decode cL_law 587 = .ok (.aload_n 3, 1) := by decide +kernel
theorem dL_law_588 : decode cL_law 588 = .ok (.invokestatic 87, 3) := by decide +kernel
theorem dL_law_591 : decode cL_law 591 = .ok (.istore 5, 2) := by decide +kernel
theorem dL_law_593 : decode cL_law 593 = .ok (.aload_n 2, 1) := by decide +kernel
theorem dL_law_594 : decode cL_law 594 = .ok (.aload_n 0, 1) := by decide +kernel
theorem dL_law_595 : decode cL_law 595 = .ok (.iload 4, 2) := by decide +kernel
theorem dL_law_597 : decode cL_law 597 = .ok (.iconst 1, 1) := by decide +kernel
theorem dL_law_598 : decode cL_law 598 = .ok (.iadd, 1) := by decide +kernel
theorem dL_law_599 : decode cL_law 599 = .ok (.iaload, 1) := by decide +kernel
theorem dL_law_600 : decode cL_law 600 = .ok (.aload_n 0, 1) := by decide +kernel
theorem dL_law_601 : decode cL_law 601 = .ok (.iload 4, 2) := by decide +kernel
theorem dL_law_603 : decode cL_law 603 = .ok (.iconst 2, 1) := by decide +kernel
theorem dL_law_604 : decode cL_law 604 = .ok (.iadd, 1) := by decide +kernel
theorem dL_law_605 : decode cL_law 605 = .ok (.iaload, 1) := by decide +kernel
theorem dL_law_606 : decode cL_law 606 = .ok (.i2l, 1) := by decide +kernel
theorem dL_law_607 : decode cL_law 607 = .ok (.bipush 32, 2) := by decide +kernel
theorem dL_law_609 : decode cL_law 609 = .ok (.lshl, 1) := by decide +kernel
theorem dL_law_610 : decode cL_law 610 = .ok (.aload_n 0, 1) := by decide +kernel
theorem dL_law_611 : decode cL_law 611 = .ok (.iload 4, 2) := by decide +kernel
theorem dL_law_613 : decode cL_law 613 = .ok (.iconst 3, 1) := by decide +kernel
theorem dL_law_614 : decode cL_law 614 = .ok (.iadd, 1) := by decide +kernel
theorem dL_law_615 : decode cL_law 615 = .ok (.iaload, 1) := by decide +kernel
theorem dL_law_616 : decode cL_law 616 = .ok (.i2l, 1) := by decide +kernel
theorem dL_law_617 : decode cL_law 617 = .ok (.ldc2_w 73, 3) := by decide +kernel
theorem dL_law_620 : decode cL_law 620 = .ok (.land, 1) := by decide +kernel
theorem dL_law_621 : decode cL_law 621 = .ok (.lor, 1) := by decide +kernel
theorem dL_law_622 : decode cL_law 622 = .ok (.invokevirtual 90, 3) := by decide +kernel
theorem dL_law_625 : decode cL_law 625 = .ok (.istore 6, 2) := by decide +kernel
theorem dL_law_627 : decode cL_law 627 = .ok (.aload_n 2, 1) := by decide +kernel
theorem dL_law_628 : decode cL_law 628 = .ok (.invokevirtual 69, 3) := by decide +kernel
theorem dL_law_631 : decode cL_law 631 = .ok (.iload 5, 2) := by decide +kernel
theorem dL_law_633 : decode cL_law 633 = .ok (.if_icmp .eq 5, 3) := by decide +kernel
theorem dL_law_636 : decode cL_law 636 = .ok (.iconst 0, 1) := by decide +kernel
theorem dL_law_637 : decode cL_law 637 = .ok (.ireturn, 1) := by decide +kernel
theorem dL_law_638 : decode cL_law 638 = .ok (.iload 5, 2) := by decide +kernel
theorem dL_law_640 : decode cL_law 640 = .ok (.ifCond .ne 15, 3) := by decide +kernel
theorem dL_law_643 : decode cL_law 643 = .ok (.aload_n 3, 1) := by decide +kernel
theorem dL_law_644 : decode cL_law 644 = .ok (.iconst 0, 1) := by decide +kernel
theorem dL_law_645 : decode cL_law 645 = .ok (.laload, 1) := by decide +kernel
theorem dL_law_646 : decode cL_law 646 = .ok (.iload 6, 2) := by decide +kernel
theorem dL_law_648 : decode cL_law 648 = .ok (.i2l, 1) := by decide +kernel
theorem dL_law_649 : decode cL_law 649 = .ok (.lcmp, 1) := by decide +kernel
theorem dL_law_650 : decode cL_law 650 = .ok (.ifCond .eq 5, 3) := by decide +kernel
theorem dL_law_653 : decode cL_law 653 = .ok (.iconst 0, 1) := by decide +kernel
theorem dL_law_654 : decode cL_law 654 = .ok (.ireturn, 1) := by decide +kernel
theorem dL_law_655 : decode cL_law 655 = .ok (.goto 581, 3) := by decide +kernel
theorem dL_law_658 : decode cL_law 658 = .ok (.aload_n 1, 1) := by decide +kernel
theorem dL_law_659 : decode cL_law 659 = .ok (.aload_n 0, 1) := by decide +kernel
theorem dL_law_660 : decode cL_law 660 = .ok (.iload 4, 2) := by decide +kernel
theorem dL_law_662 : decode cL_law 662 = .ok (.iconst 1, 1) := by decide +kernel
theorem dL_law_663 : decode cL_law 663 = .ok (.iadd, 1) := by decide +kernel
theorem dL_law_664 : decode cL_law 664 = .ok (.iaload, 1) := by decide +kernel
theorem dL_law_665 : decode cL_law 665 = .ok (.aload_n 0, 1) := by decide +kernel
theorem dL_law_666 : decode cL_law 666 = .ok (.iload 4, 2) := by decide +kernel
theorem dL_law_668 : decode cL_law 668 = .ok (.iconst 2, 1) := by decide +kernel
theorem dL_law_669 : decode cL_law 669 = .ok (.iadd, 1) := by decide +kernel
theorem dL_law_670 : decode cL_law 670 = .ok (.iaload, 1) := by decide +kernel
theorem dL_law_671 : decode cL_law 671 = .ok (.aload_n 0, 1) := by decide +kernel
theorem dL_law_672 : decode cL_law 672 = .ok (.iload 4, 2) := by decide +kernel
theorem dL_law_674 : decode cL_law 674 = .ok (.iconst 3, 1) := by decide +kernel
theorem dL_law_675 : decode cL_law 675 = .ok (.iadd, 1) := by decide +kernel
theorem dL_law_676 : decode cL_law 676 = .ok (.iaload, 1) := by decide +kernel
theorem dL_law_677 : decode cL_law 677 = .ok (.i2l, 1) := by decide +kernel
theorem dL_law_678 : decode cL_law 678 = .ok (.bipush 32, 2) := by decide +kernel
theorem dL_law_680 : decode cL_law 680 = .ok (.lshl, 1) := by decide +kernel
theorem dL_law_681 : decode cL_law 681 = .ok (.aload_n 0, 1) := by decide +kernel
theorem dL_law_682 : decode cL_law 682 = .ok (.iload 4, 2) := by decide +kernel
theorem dL_law_684 : decode cL_law 684 = .ok (.iconst 4, 1) := by decide +kernel
theorem dL_law_685 : decode cL_law 685 = .ok (.iadd, 1) := by decide +kernel
theorem dL_law_686 : decode cL_law 686 = .ok (.iaload, 1) := by decide +kernel
theorem dL_law_687 : decode cL_law 687 = .ok (.i2l, 1) := by decide +kernel
theorem dL_law_688 : decode cL_law 688 = .ok (.ldc2_w 73, 3) := by decide +kernel
theorem dL_law_691 : decode cL_law 691 = .ok (.land, 1) := by decide +kernel
theorem dL_law_692 : decode cL_law 692 = .ok (.lor, 1) := by decide +kernel
theorem dL_law_693 : decode cL_law 693 = .ok (.aload_n 0, 1) := by decide +kernel
theorem dL_law_694 : decode cL_law 694 = .ok (.iload 4, 2) := by decide +kernel
theorem dL_law_696 : decode cL_law 696 = .ok (.iconst 5, 1) := by decide +kernel
theorem dL_law_697 : decode cL_law 697 = .ok (.iadd, 1) := by decide +kernel
theorem dL_law_698 : decode cL_law 698 = .ok (.iaload, 1) := by decide +kernel
theorem dL_law_699 : decode cL_law 699 = .ok (.i2l, 1) := by decide +kernel
theorem dL_law_700 : decode cL_law 700 = .ok (.bipush 32, 2) := by decide +kernel
theorem dL_law_702 : decode cL_law 702 = .ok (.lshl, 1) := by decide +kernel
theorem dL_law_703 : decode cL_law 703 = .ok (.aload_n 0, 1) := by decide +kernel
theorem dL_law_704 : decode cL_law 704 = .ok (.iload 4, 2) := by decide +kernel
theorem dL_law_706 : decode cL_law 706 = .ok (.bipush 6, 2) := by decide +kernel
theorem dL_law_708 : decode cL_law 708 = .ok (.iadd, 1) := by decide +kernel
theorem dL_law_709 : decode cL_law 709 = .ok (.iaload, 1) := by decide +kernel
theorem dL_law_710 : decode cL_law 710 = .ok (.i2l, 1) := by decide +kernel
theorem dL_law_711 : decode cL_law 711 = .ok (.ldc2_w 73, 3) := by decide +kernel
theorem dL_law_714 : decode cL_law 714 = .ok (.land, 1) := by decide +kernel
theorem dL_law_715 : decode cL_law 715 = .ok (.lor, 1) := by decide +kernel
theorem dL_law_716 : decode cL_law 716 = .ok (.aload_n 3, 1) := by decide +kernel
theorem dL_law_717 : decode cL_law 717 = .ok (.invokestatic 91, 3) := by decide +kernel
theorem dL_law_720 : decode cL_law 720 = .ok (.istore 5, 2) := by decide +kernel
theorem dL_law_722 : decode cL_law 722 = .ok (.aload_n 2, 1) := by decide +kernel
theorem dL_law_723 : decode cL_law 723 = .ok (.aload_n 0, 1) := by decide +kernel
theorem dL_law_724 : decode cL_law 724 = .ok (.iload 4, 2) := by decide +kernel
theorem dL_law_726 : decode cL_law 726 = .ok (.iconst 1, 1) := by decide +kernel
theorem dL_law_727 : decode cL_law 727 = .ok (.iadd, 1) := by decide +kernel
theorem dL_law_728 : decode cL_law 728 = .ok (.iaload, 1) := by decide +kernel
theorem dL_law_729 : decode cL_law 729 = .ok (.aload_n 0, 1) := by decide +kernel
theorem dL_law_730 : decode cL_law 730 = .ok (.iload 4, 2) := by decide +kernel
theorem dL_law_732 : decode cL_law 732 = .ok (.iconst 2, 1) := by decide +kernel
theorem dL_law_733 : decode cL_law 733 = .ok (.iadd, 1) := by decide +kernel
theorem dL_law_734 : decode cL_law 734 = .ok (.iaload, 1) := by decide +kernel
theorem dL_law_735 : decode cL_law 735 = .ok (.aload_n 0, 1) := by decide +kernel
theorem dL_law_736 : decode cL_law 736 = .ok (.iload 4, 2) := by decide +kernel
theorem dL_law_738 : decode cL_law 738 = .ok (.iconst 3, 1) := by decide +kernel
theorem dL_law_739 : decode cL_law 739 = .ok (.iadd, 1) := by decide +kernel
theorem dL_law_740 : decode cL_law 740 = .ok (.iaload, 1) := by decide +kernel
theorem dL_law_741 : decode cL_law 741 = .ok (.i2l, 1) := by decide +kernel
theorem dL_law_742 : decode cL_law 742 = .ok (.bipush 32, 2) := by decide +kernel
theorem dL_law_744 : decode cL_law 744 = .ok (.lshl, 1) := by decide +kernel
theorem dL_law_745 : decode cL_law 745 = .ok (.aload_n 0, 1) := by decide +kernel
theorem dL_law_746 : decode cL_law 746 = .ok (.iload 4, 2) := by decide +kernel
theorem dL_law_748 : decode cL_law 748 = .ok (.iconst 4, 1) := by decide +kernel
theorem dL_law_749 : decode cL_law 749 = .ok (.iadd, 1) := by decide +kernel
theorem dL_law_750 : decode cL_law 750 = .ok (.iaload, 1) := by decide +kernel
theorem dL_law_751 : decode cL_law 751 = .ok (.i2l, 1) := by decide +kernel
theorem dL_law_752 : decode cL_law 752 = .ok (.ldc2_w 73, 3) := by decide +kernel
theorem dL_law_755 : decode cL_law 755 = .ok (.land, 1) := by decide +kernel
theorem dL_law_756 : decode cL_law 756 = .ok (.lor, 1) := by decide +kernel
theorem dL_law_757 : decode cL_law 757 = .ok (.aload_n 0, 1) := by decide +kernel
theorem dL_law_758 : decode cL_law 758 = .ok (.iload 4, 2) := by decide +kernel
theorem dL_law_760 : decode cL_law 760 = .ok (.iconst 5, 1) := by decide +kernel
theorem dL_law_761 : decode cL_law 761 = .ok (.iadd, 1) := by decide +kernel
theorem dL_law_762 : decode cL_law 762 = .ok (.iaload, 1) := by decide +kernel
theorem dL_law_763 : decode cL_law 763 = .ok (.i2l, 1) := by decide +kernel
theorem dL_law_764 : decode cL_law 764 = .ok (.bipush 32, 2) := by decide +kernel
theorem dL_law_766 : decode cL_law 766 = .ok (.lshl, 1) := by decide +kernel
theorem dL_law_767 : decode cL_law 767 = .ok (.aload_n 0, 1) := by decide +kernel
theorem dL_law_768 : decode cL_law 768 = .ok (.iload 4, 2) := by decide +kernel
theorem dL_law_770 : decode cL_law 770 = .ok (.bipush 6, 2) := by decide +kernel
theorem dL_law_772 : decode cL_law 772 = .ok (.iadd, 1) := by decide +kernel
theorem dL_law_773 : decode cL_law 773 = .ok (.iaload, 1) := by decide +kernel
theorem dL_law_774 : decode cL_law 774 = .ok (.i2l, 1) := by decide +kernel
theorem dL_law_775 : decode cL_law 775 = .ok (.ldc2_w 73, 3) := by decide +kernel
theorem dL_law_778 : decode cL_law 778 = .ok (.land, 1) := by decide +kernel
theorem dL_law_779 : decode cL_law 779 = .ok (.lor, 1) := by decide +kernel
theorem dL_law_780 : decode cL_law 780 = .ok (.invokevirtual 93, 3) := by decide +kernel
theorem dL_law_783 : decode cL_law 783 = .ok (.istore 6, 2) := by decide +kernel
theorem dL_law_785 : decode cL_law 785 = .ok (.aload_n 2, 1) := by decide +kernel
theorem dL_law_786 : decode cL_law 786 = .ok (.invokevirtual 69, 3) := by decide +kernel
theorem dL_law_789 : decode cL_law 789 = .ok (.iload 5, 2) := by decide +kernel
theorem dL_law_791 : decode cL_law 791 = .ok (.if_icmp .eq 5, 3) := by decide +kernel
theorem dL_law_794 : decode cL_law 794 = .ok (.iconst 0, 1) := by decide +kernel
theorem dL_law_795 : decode cL_law 795 = .ok (.ireturn, 1) := by decide +kernel
theorem dL_law_796 : decode cL_law 796 = .ok (.iload 5, 2) := by decide +kernel
theorem dL_law_798 : decode cL_law 798 = .ok (.ifCond .ne 15, 3) := by decide +kernel
theorem dL_law_801 : decode cL_law 801 = .ok (.aload_n 3, 1) := by decide +kernel
theorem dL_law_802 : decode cL_law 802 = .ok (.iconst 0, 1) := by decide +kernel
theorem dL_law_803 : decode cL_law 803 = .ok (.laload, 1) := by decide +kernel
theorem dL_law_804 : decode cL_law 804 = .ok (.iload 6, 2) := by decide +kernel
theorem dL_law_806 : decode cL_law 806 = .ok (.i2l, 1) := by decide +kernel
theorem dL_law_807 : decode cL_law 807 = .ok (.lcmp, 1) := by decide +kernel
theorem dL_law_808 : decode cL_law 808 = .ok (.ifCond .eq 5, 3) := by decide +kernel
theorem dL_law_811 : decode cL_law 811 = .ok (.iconst 0, 1) := by decide +kernel
theorem dL_law_812 : decode cL_law 812 = .ok (.ireturn, 1) := by decide +kernel
theorem dL_law_813 : decode cL_law 813 = .ok (.goto 423, 3) := by decide +kernel
theorem dL_law_816 : decode cL_law 816 = .ok (.aload_n 1, 1) := by decide +kernel
theorem dL_law_817 : decode cL_law 817 = .ok (.aload_n 0, 1) := by decide +kernel
theorem dL_law_818 : decode cL_law 818 = .ok (.iload 4, 2) := by decide +kernel
theorem dL_law_820 : decode cL_law 820 = .ok (.iconst 1, 1) := by decide +kernel
theorem dL_law_821 : decode cL_law 821 = .ok (.iadd, 1) := by decide +kernel
theorem dL_law_822 : decode cL_law 822 = .ok (.iaload, 1) := by decide +kernel
theorem dL_law_823 : decode cL_law 823 = .ok (.aload_n 0, 1) := by decide +kernel
theorem dL_law_824 : decode cL_law 824 = .ok (.iload 4, 2) := by decide +kernel
theorem dL_law_826 : decode cL_law 826 = .ok (.iconst 2, 1) := by decide +kernel
theorem dL_law_827 : decode cL_law 827 = .ok (.iadd, 1) := by decide +kernel
theorem dL_law_828 : decode cL_law 828 = .ok (.iaload, 1) := by decide +kernel
theorem dL_law_829 : decode cL_law 829 = .ok (.aload_n 0, 1) := by decide +kernel
theorem dL_law_830 : decode cL_law 830 = .ok (.iload 4, 2) := by decide +kernel
theorem dL_law_832 : decode cL_law 832 = .ok (.iconst 3, 1) := by decide +kernel
theorem dL_law_833 : decode cL_law 833 = .ok (.iadd, 1) := by decide +kernel
theorem dL_law_834 : decode cL_law 834 = .ok (.iaload, 1) := by decide +kernel
theorem dL_law_835 : decode cL_law 835 = .ok (.i2l, 1) := by decide +kernel
theorem dL_law_836 : decode cL_law 836 = .ok (.bipush 32, 2) := by decide +kernel
theorem dL_law_838 : decode cL_law 838 = .ok (.lshl, 1) := by decide +kernel
theorem dL_law_839 : decode cL_law 839 = .ok (.aload_n 0, 1) := by decide +kernel
theorem dL_law_840 : decode cL_law 840 = .ok (.iload 4, 2) := by decide +kernel
theorem dL_law_842 : decode cL_law 842 = .ok (.iconst 4, 1) := by decide +kernel
theorem dL_law_843 : decode cL_law 843 = .ok (.iadd, 1) := by decide +kernel
theorem dL_law_844 : decode cL_law 844 = .ok (.iaload, 1) := by decide +kernel
theorem dL_law_845 : decode cL_law 845 = .ok (.i2l, 1) := by decide +kernel
theorem dL_law_846 : decode cL_law 846 = .ok (.ldc2_w 73, 3) := by decide +kernel
theorem dL_law_849 : decode cL_law 849 = .ok (.land, 1) := by decide +kernel
theorem dL_law_850 : decode cL_law 850 = .ok (.lor, 1) := by decide +kernel
theorem dL_law_851 : decode cL_law 851 = .ok (.aload_n 3, 1) := by decide +kernel
theorem dL_law_852 : decode cL_law 852 = .ok (.invokestatic 94, 3) := by decide +kernel
theorem dL_law_855 : decode cL_law 855 = .ok (.istore 5, 2) := by decide +kernel
theorem dL_law_857 : decode cL_law 857 = .ok (.aload_n 2, 1) := by decide +kernel
theorem dL_law_858 : decode cL_law 858 = .ok (.aload_n 0, 1) := by decide +kernel
theorem dL_law_859 : decode cL_law 859 = .ok (.iload 4, 2) := by decide +kernel
theorem dL_law_861 : decode cL_law 861 = .ok (.iconst 1, 1) := by decide +kernel
theorem dL_law_862 : decode cL_law 862 = .ok (.iadd, 1) := by decide +kernel
theorem dL_law_863 : decode cL_law 863 = .ok (.iaload, 1) := by decide +kernel
theorem dL_law_864 : decode cL_law 864 = .ok (.aload_n 0, 1) := by decide +kernel
theorem dL_law_865 : decode cL_law 865 = .ok (.iload 4, 2) := by decide +kernel
theorem dL_law_867 : decode cL_law 867 = .ok (.iconst 2, 1) := by decide +kernel
theorem dL_law_868 : decode cL_law 868 = .ok (.iadd, 1) := by decide +kernel
theorem dL_law_869 : decode cL_law 869 = .ok (.iaload, 1) := by decide +kernel
theorem dL_law_870 : decode cL_law 870 = .ok (.aload_n 0, 1) := by decide +kernel
theorem dL_law_871 : decode cL_law 871 = .ok (.iload 4, 2) := by decide +kernel
theorem dL_law_873 : decode cL_law 873 = .ok (.iconst 3, 1) := by decide +kernel
theorem dL_law_874 : decode cL_law 874 = .ok (.iadd, 1) := by decide +kernel
theorem dL_law_875 : decode cL_law 875 = .ok (.iaload, 1) := by decide +kernel
theorem dL_law_876 : decode cL_law 876 = .ok (.i2l, 1) := by decide +kernel
theorem dL_law_877 : decode cL_law 877 = .ok (.bipush 32, 2) := by decide +kernel
theorem dL_law_879 : decode cL_law 879 = .ok (.lshl, 1) := by decide +kernel
theorem dL_law_880 : decode cL_law 880 = .ok (.aload_n 0, 1) := by decide +kernel
theorem dL_law_881 : decode cL_law 881 = .ok (.iload 4, 2) := by decide +kernel
theorem dL_law_883 : decode cL_law 883 = .ok (.iconst 4, 1) := by decide +kernel
theorem dL_law_884 : decode cL_law 884 = .ok (.iadd, 1) := by decide +kernel
theorem dL_law_885 : decode cL_law 885 = .ok (.iaload, 1) := by decide +kernel
theorem dL_law_886 : decode cL_law 886 = .ok (.i2l, 1) := by decide +kernel
theorem dL_law_887 : decode cL_law 887 = .ok (.ldc2_w 73, 3) := by decide +kernel
theorem dL_law_890 : decode cL_law 890 = .ok (.land, 1) := by decide +kernel
theorem dL_law_891 : decode cL_law 891 = .ok (.lor, 1) := by decide +kernel
theorem dL_law_892 : decode cL_law 892 = .ok (.invokevirtual 97, 3) := by decide +kernel
theorem dL_law_895 : decode cL_law 895 = .ok (.lstore 6, 2) := by decide +kernel
theorem dL_law_897 : decode cL_law 897 = .ok (.aload_n 2, 1) := by decide +kernel
theorem dL_law_898 : decode cL_law 898 = .ok (.invokevirtual 69, 3) := by decide +kernel
theorem dL_law_901 : decode cL_law 901 = .ok (.iload 5, 2) := by decide +kernel
theorem dL_law_903 : decode cL_law 903 = .ok (.if_icmp .eq 5, 3) := by decide +kernel
theorem dL_law_906 : decode cL_law 906 = .ok (.iconst 0, 1) := by decide +kernel
theorem dL_law_907 : decode cL_law 907 = .ok (.ireturn, 1) := by decide +kernel
theorem dL_law_908 : decode cL_law 908 = .ok (.iload 5, 2) := by decide +kernel
theorem dL_law_910 : decode cL_law 910 = .ok (.ifCond .ne 14, 3) := by decide +kernel
theorem dL_law_913 : decode cL_law 913 = .ok (.aload_n 3, 1) := by decide +kernel
theorem dL_law_914 : decode cL_law 914 = .ok (.iconst 0, 1) := by decide +kernel
theorem dL_law_915 : decode cL_law 915 = .ok (.laload, 1) := by decide +kernel
theorem dL_law_916 : decode cL_law 916 = .ok (.lload 6, 2) := by decide +kernel
theorem dL_law_918 : decode cL_law 918 = .ok (.lcmp, 1) := by decide +kernel
theorem dL_law_919 : decode cL_law 919 = .ok (.ifCond .eq 5, 3) := by decide +kernel
theorem dL_law_922 : decode cL_law 922 = .ok (.iconst 0, 1) := by decide +kernel
theorem dL_law_923 : decode cL_law 923 = .ok (.ireturn, 1) := by decide +kernel
theorem dL_law_924 : decode cL_law 924 = .ok (.goto 312, 3) := by decide +kernel
theorem dL_law_927 : decode cL_law 927 = .ok (.aload_n 1, 1) := by decide +kernel
theorem dL_law_928 : decode cL_law 928 = .ok (.aload_n 0, 1) := by decide +kernel
theorem dL_law_929 : decode cL_law 929 = .ok (.iload 4, 2) := by decide +kernel
theorem dL_law_931 : decode cL_law 931 = .ok (.iconst 1, 1) := by decide +kernel
theorem dL_law_932 : decode cL_law 932 = .ok (.iadd, 1) := by decide +kernel
theorem dL_law_933 : decode cL_law 933 = .ok (.iaload, 1) := by decide +kernel
theorem dL_law_934 : decode cL_law 934 = .ok (.aload_n 0, 1) := by decide +kernel
theorem dL_law_935 : decode cL_law 935 = .ok (.iload 4, 2) := by decide +kernel
theorem dL_law_937 : decode cL_law 937 = .ok (.iconst 2, 1) := by decide +kernel
theorem dL_law_938 : decode cL_law 938 = .ok (.iadd, 1) := by decide +kernel
theorem dL_law_939 : decode cL_law 939 = .ok (.iaload, 1) := by decide +kernel
theorem dL_law_940 : decode cL_law 940 = .ok (.aload_n 3, 1) := by decide +kernel
theorem dL_law_941 : decode cL_law 941 = .ok (.invokestatic 98, 3) := by decide +kernel
theorem dL_law_944 : decode cL_law 944 = .ok (.istore 5, 2) := by decide +kernel
theorem dL_law_946 : decode cL_law 946 = .ok (.aload_n 2, 1) := by decide +kernel
theorem dL_law_947 : decode cL_law 947 = .ok (.aload_n 0, 1) := by decide +kernel
theorem dL_law_948 : decode cL_law 948 = .ok (.iload 4, 2) := by decide +kernel
theorem dL_law_950 : decode cL_law 950 = .ok (.iconst 1, 1) := by decide +kernel
theorem dL_law_951 : decode cL_law 951 = .ok (.iadd, 1) := by decide +kernel
theorem dL_law_952 : decode cL_law 952 = .ok (.iaload, 1) := by decide +kernel
theorem dL_law_953 : decode cL_law 953 = .ok (.aload_n 0, 1) := by decide +kernel
theorem dL_law_954 : decode cL_law 954 = .ok (.iload 4, 2) := by decide +kernel
theorem dL_law_956 : decode cL_law 956 = .ok (.iconst 2, 1) := by decide +kernel
theorem dL_law_957 : decode cL_law 957 = .ok (.iadd, 1) := by decide +kernel
theorem dL_law_958 : decode cL_law 958 = .ok (.iaload, 1) := by decide +kernel
theorem dL_law_959 : decode cL_law 959 = .ok (.invokevirtual 101, 3) := by decide +kernel
theorem dL_law_962 : decode cL_law 962 = .ok (.istore 6, 2) := by decide +kernel
theorem dL_law_964 : decode cL_law 964 = .ok (.aload_n 2, 1) := by decide +kernel
theorem dL_law_965 : decode cL_law 965 = .ok (.invokevirtual 69, 3) := by decide +kernel
theorem dL_law_968 : decode cL_law 968 = .ok (.iload 5, 2) := by decide +kernel
theorem dL_law_970 : decode cL_law 970 = .ok (.if_icmp .eq 5, 3) := by decide +kernel
theorem dL_law_973 : decode cL_law 973 = .ok (.iconst 0, 1) := by decide +kernel
theorem dL_law_974 : decode cL_law 974 = .ok (.ireturn, 1) := by decide +kernel
theorem dL_law_975 : decode cL_law 975 = .ok (.iload 5, 2) := by decide +kernel
theorem dL_law_977 : decode cL_law 977 = .ok (.ifCond .ne 15, 3) := by decide +kernel
theorem dL_law_980 : decode cL_law 980 = .ok (.aload_n 3, 1) := by decide +kernel
theorem dL_law_981 : decode cL_law 981 = .ok (.iconst 0, 1) := by decide +kernel
theorem dL_law_982 : decode cL_law 982 = .ok (.laload, 1) := by decide +kernel
theorem dL_law_983 : decode cL_law 983 = .ok (.iload 6, 2) := by decide +kernel
theorem dL_law_985 : decode cL_law 985 = .ok (.i2l, 1) := by decide +kernel
theorem dL_law_986 : decode cL_law 986 = .ok (.lcmp, 1) := by decide +kernel
theorem dL_law_987 : decode cL_law 987 = .ok (.ifCond .eq 5, 3) := by decide +kernel
theorem dL_law_990 : decode cL_law 990 = .ok (.iconst 0, 1) := by decide +kernel
theorem dL_law_991 : decode cL_law 991 = .ok (.ireturn, 1) := by decide +kernel
theorem dL_law_992 : decode cL_law 992 = .ok (.goto 244, 3) := by decide +kernel
theorem dL_law_995 : decode cL_law 995 = .ok (.aload_n 1, 1) := by decide +kernel
theorem dL_law_996 : decode cL_law 996 = .ok (.aload_n 0, 1) := by decide +kernel
theorem dL_law_997 : decode cL_law 997 = .ok (.iload 4, 2) := by decide +kernel
theorem dL_law_999 : decode cL_law 999 = .ok (.iconst 1, 1) := by decide +kernel
theorem dL_law_1000 : decode cL_law 1000 = .ok (.iadd, 1) := by decide +kernel
theorem dL_law_1001 : decode cL_law 1001 = .ok (.iaload, 1) := by decide +kernel
theorem dL_law_1002 : decode cL_law 1002 = .ok (.aload_n 0, 1) := by decide +kernel
theorem dL_law_1003 : decode cL_law 1003 = .ok (.iload 4, 2) := by decide +kernel
theorem dL_law_1005 : decode cL_law 1005 = .ok (.iconst 2, 1) := by decide +kernel
theorem dL_law_1006 : decode cL_law 1006 = .ok (.iadd, 1) := by decide +kernel
theorem dL_law_1007 : decode cL_law 1007 = .ok (.iaload, 1) := by decide +kernel
theorem dL_law_1008 : decode cL_law 1008 = .ok (.aload_n 3, 1) := by decide +kernel
theorem dL_law_1009 : decode cL_law 1009 = .ok (.invokestatic 102, 3) := by decide +kernel
theorem dL_law_1012 : decode cL_law 1012 = .ok (.istore 5, 2) := by decide +kernel
theorem dL_law_1014 : decode cL_law 1014 = .ok (.aload_n 2, 1) := by decide +kernel
theorem dL_law_1015 : decode cL_law 1015 = .ok (.aload_n 0, 1) := by decide +kernel
theorem dL_law_1016 : decode cL_law 1016 = .ok (.iload 4, 2) := by decide +kernel
theorem dL_law_1018 : decode cL_law 1018 = .ok (.iconst 1, 1) := by decide +kernel
theorem dL_law_1019 : decode cL_law 1019 = .ok (.iadd, 1) := by decide +kernel
theorem dL_law_1020 : decode cL_law 1020 = .ok (.iaload, 1) := by decide +kernel
theorem dL_law_1021 : decode cL_law 1021 = .ok (.aload_n 0, 1) := by decide +kernel
theorem dL_law_1022 : decode cL_law 1022 = .ok (.iload 4, 2) := by decide +kernel
theorem dL_law_1024 : decode cL_law 1024 = .ok (.iconst 2, 1) := by decide +kernel
theorem dL_law_1025 : decode cL_law 1025 = .ok (.iadd, 1) := by decide +kernel
theorem dL_law_1026 : decode cL_law 1026 = .ok (.iaload, 1) := by decide +kernel
theorem dL_law_1027 : decode cL_law 1027 = .ok (.invokevirtual 104, 3) := by decide +kernel
theorem dL_law_1030 : decode cL_law 1030 = .ok (.istore 6, 2) := by decide +kernel
theorem dL_law_1032 : decode cL_law 1032 = .ok (.aload_n 2, 1) := by decide +kernel
theorem dL_law_1033 : decode cL_law 1033 = .ok (.invokevirtual 69, 3) := by decide +kernel
theorem dL_law_1036 : decode cL_law 1036 = .ok (.iload 5, 2) := by decide +kernel
theorem dL_law_1038 : decode cL_law 1038 = .ok (.if_icmp .eq 5, 3) := by decide +kernel
theorem dL_law_1041 : decode cL_law 1041 = .ok (.iconst 0, 1) := by decide +kernel
theorem dL_law_1042 : decode cL_law 1042 = .ok (.ireturn, 1) := by decide +kernel
theorem dL_law_1043 : decode cL_law 1043 = .ok (.iload 5, 2) := by decide +kernel
theorem dL_law_1045 : decode cL_law 1045 = .ok (.ifCond .ne 15, 3) := by decide +kernel
theorem dL_law_1048 : decode cL_law 1048 = .ok (.aload_n 3, 1) := by decide +kernel
theorem dL_law_1049 : decode cL_law 1049 = .ok (.iconst 0, 1) := by decide +kernel
theorem dL_law_1050 : decode cL_law 1050 = .ok (.laload, 1) := by decide +kernel
theorem dL_law_1051 : decode cL_law 1051 = .ok (.iload 6, 2) := by decide +kernel
theorem dL_law_1053 : decode cL_law 1053 = .ok (.i2l, 1) := by decide +kernel
theorem dL_law_1054 : decode cL_law 1054 = .ok (.lcmp, 1) := by decide +kernel
theorem dL_law_1055 : decode cL_law 1055 = .ok (.ifCond .eq 5, 3) := by decide +kernel
theorem dL_law_1058 : decode cL_law 1058 = .ok (.iconst 0, 1) := by decide +kernel
theorem dL_law_1059 : decode cL_law 1059 = .ok (.ireturn, 1) := by decide +kernel
theorem dL_law_1060 : decode cL_law 1060 = .ok (.goto 176, 3) := by decide +kernel
theorem dL_law_1063 : decode cL_law 1063 = .ok (.aload_n 1, 1) := by decide +kernel
theorem dL_law_1064 : decode cL_law 1064 = .ok (.aload_n 0, 1) := by decide +kernel
theorem dL_law_1065 : decode cL_law 1065 = .ok (.iload 4, 2) := by decide +kernel
theorem dL_law_1067 : decode cL_law 1067 = .ok (.iconst 1, 1) := by decide +kernel
theorem dL_law_1068 : decode cL_law 1068 = .ok (.iadd, 1) := by decide +kernel
theorem dL_law_1069 : decode cL_law 1069 = .ok (.iaload, 1) := by decide +kernel
theorem dL_law_1070 : decode cL_law 1070 = .ok (.aload_n 0, 1) := by decide +kernel
theorem dL_law_1071 : decode cL_law 1071 = .ok (.iload 4, 2) := by decide +kernel
theorem dL_law_1073 : decode cL_law 1073 = .ok (.iconst 2, 1) := by decide +kernel
theorem dL_law_1074 : decode cL_law 1074 = .ok (.iadd, 1) := by decide +kernel
theorem dL_law_1075 : decode cL_law 1075 = .ok (.iaload, 1) := by decide +kernel
theorem dL_law_1076 : decode cL_law 1076 = .ok (.aload_n 0, 1) := by decide +kernel
theorem dL_law_1077 : decode cL_law 1077 = .ok (.iload 4, 2) := by decide +kernel
theorem dL_law_1079 : decode cL_law 1079 = .ok (.iconst 3, 1) := by decide +kernel
theorem dL_law_1080 : decode cL_law 1080 = .ok (.iadd, 1) := by decide +kernel
theorem dL_law_1081 : decode cL_law 1081 = .ok (.iaload, 1) := by decide +kernel
theorem dL_law_1082 : decode cL_law 1082 = .ok (.i2l, 1) := by decide +kernel
theorem dL_law_1083 : decode cL_law 1083 = .ok (.bipush 32, 2) := by decide +kernel
theorem dL_law_1085 : decode cL_law 1085 = .ok (.lshl, 1) := by decide +kernel
theorem dL_law_1086 : decode cL_law 1086 = .ok (.aload_n 0, 1) := by decide +kernel
theorem dL_law_1087 : decode cL_law 1087 = .ok (.iload 4, 2) := by decide +kernel
theorem dL_law_1089 : decode cL_law 1089 = .ok (.iconst 4, 1) := by decide +kernel
theorem dL_law_1090 : decode cL_law 1090 = .ok (.iadd, 1) := by decide +kernel
theorem dL_law_1091 : decode cL_law 1091 = .ok (.iaload, 1) := by decide +kernel
theorem dL_law_1092 : decode cL_law 1092 = .ok (.i2l, 1) := by decide +kernel
theorem dL_law_1093 : decode cL_law 1093 = .ok (.ldc2_w 73, 3) := by decide +kernel
theorem dL_law_1096 : decode cL_law 1096 = .ok (.land, 1) := by decide +kernel
theorem dL_law_1097 : decode cL_law 1097 = .ok (.lor, 1) := by decide +kernel
theorem dL_law_1098 : decode cL_law 1098 = .ok (.aload_n 0, 1) := by decide +kernel
theorem dL_law_1099 : decode cL_law 1099 = .ok (.iload 4, 2) := by decide +kernel
theorem dL_law_1101 : decode cL_law 1101 = .ok (.iconst 5, 1) := by decide +kernel
theorem dL_law_1102 : decode cL_law 1102 = .ok (.iadd, 1) := by decide +kernel
theorem dL_law_1103 : decode cL_law 1103 = .ok (.iaload, 1) := by decide +kernel
theorem dL_law_1104 : decode cL_law 1104 = .ok (.aload_n 3, 1) := by decide +kernel
theorem dL_law_1105 : decode cL_law 1105 = .ok (.invokestatic 105, 3) := by decide +kernel
theorem dL_law_1108 : decode cL_law 1108 = .ok (.istore 5, 2) := by decide +kernel
theorem dL_law_1110 : decode cL_law 1110 = .ok (.aload_n 2, 1) := by decide +kernel
theorem dL_law_1111 : decode cL_law 1111 = .ok (.aload_n 0, 1) := by decide +kernel
theorem dL_law_1112 : decode cL_law 1112 = .ok (.iload 4, 2) := by decide +kernel
theorem dL_law_1114 : decode cL_law 1114 = .ok (.iconst 1, 1) := by decide +kernel
theorem dL_law_1115 : decode cL_law 1115 = .ok (.iadd, 1) := by decide +kernel
theorem dL_law_1116 : decode cL_law 1116 = .ok (.iaload, 1) := by decide +kernel
theorem dL_law_1117 : decode cL_law 1117 = .ok (.aload_n 0, 1) := by decide +kernel
theorem dL_law_1118 : decode cL_law 1118 = .ok (.iload 4, 2) := by decide +kernel
theorem dL_law_1120 : decode cL_law 1120 = .ok (.iconst 2, 1) := by decide +kernel
theorem dL_law_1121 : decode cL_law 1121 = .ok (.iadd, 1) := by decide +kernel
theorem dL_law_1122 : decode cL_law 1122 = .ok (.iaload, 1) := by decide +kernel
theorem dL_law_1123 : decode cL_law 1123 = .ok (.aload_n 0, 1) := by decide +kernel
theorem dL_law_1124 : decode cL_law 1124 = .ok (.iload 4, 2) := by decide +kernel
theorem dL_law_1126 : decode cL_law 1126 = .ok (.iconst 3, 1) := by decide +kernel
theorem dL_law_1127 : decode cL_law 1127 = .ok (.iadd, 1) := by decide +kernel
theorem dL_law_1128 : decode cL_law 1128 = .ok (.iaload, 1) := by decide +kernel
theorem dL_law_1129 : decode cL_law 1129 = .ok (.i2l, 1) := by decide +kernel
theorem dL_law_1130 : decode cL_law 1130 = .ok (.bipush 32, 2) := by decide +kernel
theorem dL_law_1132 : decode cL_law 1132 = .ok (.lshl, 1) := by decide +kernel
theorem dL_law_1133 : decode cL_law 1133 = .ok (.aload_n 0, 1) := by decide +kernel
theorem dL_law_1134 : decode cL_law 1134 = .ok (.iload 4, 2) := by decide +kernel
theorem dL_law_1136 : decode cL_law 1136 = .ok (.iconst 4, 1) := by decide +kernel
theorem dL_law_1137 : decode cL_law 1137 = .ok (.iadd, 1) := by decide +kernel
theorem dL_law_1138 : decode cL_law 1138 = .ok (.iaload, 1) := by decide +kernel
theorem dL_law_1139 : decode cL_law 1139 = .ok (.i2l, 1) := by decide +kernel
theorem dL_law_1140 : decode cL_law 1140 = .ok (.ldc2_w 73, 3) := by decide +kernel
theorem dL_law_1143 : decode cL_law 1143 = .ok (.land, 1) := by decide +kernel
theorem dL_law_1144 : decode cL_law 1144 = .ok (.lor, 1) := by decide +kernel
theorem dL_law_1145 : decode cL_law 1145 = .ok (.aload_n 0, 1) := by decide +kernel
theorem dL_law_1146 : decode cL_law 1146 = .ok (.iload 4, 2) := by decide +kernel
theorem dL_law_1148 : decode cL_law 1148 = .ok (.iconst 5, 1) := by decide +kernel
theorem dL_law_1149 : decode cL_law 1149 = .ok (.iadd, 1) := by decide +kernel
theorem dL_law_1150 : decode cL_law 1150 = .ok (.iaload, 1) := by decide +kernel
theorem dL_law_1151 : decode cL_law 1151 = .ok (.invokevirtual 108, 3) := by decide +kernel
theorem dL_law_1154 : decode cL_law 1154 = .ok (.istore 6, 2) := by decide +kernel
theorem dL_law_1156 : decode cL_law 1156 = .ok (.aload_n 2, 1) := by decide +kernel
theorem dL_law_1157 : decode cL_law 1157 = .ok (.invokevirtual 69, 3) := by decide +kernel
theorem dL_law_1160 : decode cL_law 1160 = .ok (.iload 5, 2) := by decide +kernel
theorem dL_law_1162 : decode cL_law 1162 = .ok (.if_icmp .eq 5, 3) := by decide +kernel
theorem dL_law_1165 : decode cL_law 1165 = .ok (.iconst 0, 1) := by decide +kernel
theorem dL_law_1166 : decode cL_law 1166 = .ok (.ireturn, 1) := by decide +kernel
theorem dL_law_1167 : decode cL_law 1167 = .ok (.iload 5, 2) := by decide +kernel
theorem dL_law_1169 : decode cL_law 1169 = .ok (.ifCond .ne 15, 3) := by decide +kernel
theorem dL_law_1172 : decode cL_law 1172 = .ok (.aload_n 3, 1) := by decide +kernel
theorem dL_law_1173 : decode cL_law 1173 = .ok (.iconst 0, 1) := by decide +kernel
theorem dL_law_1174 : decode cL_law 1174 = .ok (.laload, 1) := by decide +kernel
theorem dL_law_1175 : decode cL_law 1175 = .ok (.iload 6, 2) := by decide +kernel
theorem dL_law_1177 : decode cL_law 1177 = .ok (.i2l, 1) := by decide +kernel
theorem dL_law_1178 : decode cL_law 1178 = .ok (.lcmp, 1) := by decide +kernel
theorem dL_law_1179 : decode cL_law 1179 = .ok (.ifCond .eq 5, 3) := by decide +kernel
theorem dL_law_1182 : decode cL_law 1182 = .ok (.iconst 0, 1) := by decide +kernel
theorem dL_law_1183 : decode cL_law 1183 = .ok (.ireturn, 1) := by decide +kernel
theorem dL_law_1184 : decode cL_law 1184 = .ok (.goto 52, 3) := by decide +kernel
theorem dL_law_1187 : decode cL_law 1187 = .ok (.aload_n 1, 1) := by decide +kernel
theorem dL_law_1188 : decode cL_law 1188 = .ok (.aload_n 0, 1) := by decide +kernel
theorem dL_law_1189 : decode cL_law 1189 = .ok (.iload 4, 2) := by decide +kernel
theorem dL_law_1191 : decode cL_law 1191 = .ok (.iconst 1, 1) := by decide +kernel
theorem dL_law_1192 : decode cL_law 1192 = .ok (.iadd, 1) := by decide +kernel
theorem dL_law_1193 : decode cL_law 1193 = .ok (.iaload, 1) := by decide +kernel
theorem dL_law_1194 : decode cL_law 1194 = .ok (.invokestatic 109, 3) := by decide +kernel
theorem dL_law_1197 : decode cL_law 1197 = .ok (.istore 5, 2) := by decide +kernel
theorem dL_law_1199 : decode cL_law 1199 = .ok (.aload_n 2, 1) := by decide +kernel
theorem dL_law_1200 : decode cL_law 1200 = .ok (.aload_n 0, 1) := by decide +kernel
theorem dL_law_1201 : decode cL_law 1201 = .ok (.iload 4, 2) := by decide +kernel
theorem dL_law_1203 : decode cL_law 1203 = .ok (.iconst 1, 1) := by decide +kernel
theorem dL_law_1204 : decode cL_law 1204 = .ok (.iadd, 1) := by decide +kernel
theorem dL_law_1205 : decode cL_law 1205 = .ok (.iaload, 1) := by decide +kernel
theorem dL_law_1206 : decode cL_law 1206 = .ok (.invokevirtual 112, 3) := by decide +kernel
theorem dL_law_1209 : decode cL_law 1209 = .ok (.aload_n 2, 1) := by decide +kernel
theorem dL_law_1210 : decode cL_law 1210 = .ok (.invokevirtual 69, 3) := by decide +kernel
theorem dL_law_1213 : decode cL_law 1213 = .ok (.iload 5, 2) := by decide +kernel
theorem dL_law_1215 : decode cL_law 1215 = .ok (.if_icmp .eq 5, 3) := by decide +kernel
theorem dL_law_1218 : decode cL_law 1218 = .ok (.iconst 0, 1) := by decide +kernel
theorem dL_law_1219 : decode cL_law 1219 = .ok (.ireturn, 1) := by decide +kernel
theorem dL_law_1220 : decode cL_law 1220 = .ok (.goto 16, 3) := by decide +kernel
theorem dL_law_1223 : decode cL_law 1223 = .ok (.aload_n 1, 1) := by decide +kernel
theorem dL_law_1224 : decode cL_law 1224 = .ok (.invokevirtual 113, 3) := by decide +kernel
theorem dL_law_1227 : decode cL_law 1227 = .ok (.aload_n 2, 1) := by decide +kernel
theorem dL_law_1228 : decode cL_law 1228 = .ok (.invokevirtual 116, 3) := by decide +kernel
theorem dL_law_1231 : decode cL_law 1231 = .ok (.if_icmp .eq 5, 3) := by decide +kernel
theorem dL_law_1234 : decode cL_law 1234 = .ok (.iconst 0, 1) := by decide +kernel
theorem dL_law_1235 : decode cL_law 1235 = .ok (.ireturn, 1) := by decide +kernel
theorem dL_law_1236 : decode cL_law 1236 = .ok (.iinc 4 7, 3) := by decide +kernel
theorem dL_law_1239 : decode cL_law 1239 = .ok (.goto (-1216), 3) := by decide +kernel
theorem dL_law_1242 : decode cL_law 1242 = .ok (.iconst 1, 1) := by decide +kernel
theorem dL_law_1243 : decode cL_law 1243 = .ok (.ireturn, 1) := by decide +kernel
end
section
abbrev vwCl : List vw_C := [(RJx00060, TJx00060, 6), (RJx4a65c, TJx4a65c, 3), (RX0, TX0, 3), (RX1, TX1, 4), (RX2, TX2, 3), (RX3, TX3, 11), (RX4, TX4, 5), (RX5, TX5, 3), (RX6, TX6, 6), (RX7, TX7, 2), (RX8, TX8, 3), (RX9, TX9, 7), (RX10, TX10, 37)]
/-! the pool: what the heap holds, by address, with a label of ours on each cell -/
abbrev pz_V : Type := Int32 ⊕ (Int64 ⊕ Option Nat)
def pz_v : pz_V → Value
  | .inl x => .int x
  | .inr (.inl x) => .long x
  | .inr (.inr r) => va_rf r
abbrev pz_E : Type := (Nat × vp_A) ⊕ (Nat × List pz_V)
abbrev pz_H : Type := Nat → Option (List Nat × pz_E)
def pz_e (cy : Nat → ClassId) : pz_E → va_E
  | .inl q => .inl (cy q.1, q.2)
  | .inr q => .inr (q.1, q.2.map pz_v)
def pz_g (cy : Nat → ClassId) (g : pz_H) (a : Nat) : va_E := match g a with
  | some q => pz_e cy q.2
  | none => .inr (0, [])
abbrev pz_ty (cy : Nat → ClassId) : List (ClassId × FieldType) := [(cy 0, .int), (cy 1, .long), (cy 2, .boolean), (cy 3, .char), (cy 4, .object "LineTimes$Place"), (cy 5, .object "java/lang/Object"), (cy 6, .array .int)]
def pz_P (D : va_G) (cy : Nat → ClassId) (A : Nat → Prop) (g : pz_H) (H : Heap) : Prop := ∃ L : List Nat, (∀ a, a ∈ L ↔ (g a).isSome = true) ∧ va_P D vwCl (va_pl L (pz_g cy g)) H ∧ va_D A (va_pl L (pz_g cy g))
theorem pz_g_up (cy : Nat → ClassId) (g : pz_H) (a : Nat) (b : List Nat) (e : pz_E) : pz_g cy (va_up g a (some (b, e))) = va_up (pz_g cy g) a (pz_e cy e) := by
  funext x
  by_cases h : x = a
  · subst h; simp [pz_g, va_up]
  · simp [pz_g, va_up, h]
theorem pz_at {cy : Nat → ClassId} {g : pz_H} {L : List Nat} (hL : ∀ a, a ∈ L ↔ (g a).isSome = true) {a : Nat} {b : List Nat} {e : pz_E} (ha : g a = some (b, e)) : a ∈ L ∧ pz_g cy g a = pz_e cy e ∧ ∃ k : Nat, (va_pl L (pz_g cy g))[k]? = some (a, pz_e cy e) := by
  have hm : a ∈ L := (hL a).mpr (by rw [ha]; rfl)
  have he : pz_g cy g a = pz_e cy e := by simp [pz_g, ha]
  obtain ⟨k, hk⟩ := va_pl_get (X := []) (f := pz_g cy g) hm
  rw [he] at hk
  exact ⟨hm, he, k, hk⟩
theorem pz_set {D : va_G} {cy : Nat → ClassId} {A : Nat → Prop} {g : pz_H} {L : List Nat} {H1 : Heap} (hL : ∀ a, a ∈ L ↔ (g a).isSome = true) (hD0 : va_D A (va_pl L (pz_g cy g))) {a k : Nat} {b b' : List Nat} {e0 e : pz_E} (ha : g a = some (b, e0)) (hk : (va_pl L (pz_g cy g))[k]? = some (a, pz_e cy e0)) (hP : va_P D vwCl ((va_pl L (pz_g cy g)).set k (a, pz_e cy e)) H1) (hD : va_D A ((va_pl L (pz_g cy g)).set k (a, pz_e cy e))) : pz_P D cy A (va_up g a (some (b', e))) H1 := by
  obtain ⟨hm, he, -⟩ := pz_at (cy := cy) hL ha
  have hk' : ([] ++ va_pl L (pz_g cy g))[k]? = some (a, pz_g cy g a) := by rw [he]; exact hk
  have hs : (va_pl L (pz_g cy g)).set k (a, pz_e cy e) = va_pl L (pz_g cy (va_up g a (some (b', e)))) := by
    have := va_pl_set (X := []) (e := pz_e cy e) hD0 hm hk'
    rw [pz_g_up]
    exact this
  rw [hs] at hP hD
  refine ⟨L, fun x => ?_, hP, hD⟩
  by_cases h : x = a
  · subst h; simp [va_up, hm]
  · simp [va_up, h, hL x]
theorem pz_push {D : va_G} {cy : Nat → ClassId} {A : Nat → Prop} {g : pz_H} {L : List Nat} {H1 : Heap} (hL : ∀ a, a ∈ L ↔ (g a).isSome = true) {q : Nat} (b : List Nat) {e : pz_E} (hP : va_P D vwCl (va_pl L (pz_g cy g) ++ [(q, pz_e cy e)]) H1) (hD : va_D A (va_pl L (pz_g cy g) ++ [(q, pz_e cy e)])) : g q = none ∧ pz_P D cy A (va_up g q (some (b, e))) H1 := by
  have hn : q ∉ L := va_pl_fresh2 (X := []) hD
  have hg : g q = none := by
    cases hq : g q with
    | none => rfl
    | some z => exact absurd ((hL q).mpr (by rw [hq]; rfl)) hn
  rw [va_pl_push hn, ← pz_g_up cy g q b e] at hP hD
  refine ⟨hg, L ++ [q], fun x => ?_, hP, hD⟩
  by_cases h : x = q
  · subst h; simp [va_up]
  · simp [va_up, h, hL x]
theorem pz_P.mem {D : va_G} {cy : Nat → ClassId} {A : Nat → Prop} {g : pz_H} {H : Heap} (h : pz_P D cy A g H) {a : Nat} {q : List Nat × pz_E} (ha : g a = some q) : A a ∧ a < H.size := by
  obtain ⟨L, hL, hP, hD⟩ := h
  obtain ⟨-, -, k, hk⟩ := pz_at (cy := cy) (b := q.1) (e := q.2) hL ha
  exact ⟨hD.2 k _ hk, (hP k _ hk).lt⟩
theorem pz_P.weaken {D : va_G} {cy : Nat → ClassId} {A B : Nat → Prop} {g : pz_H} {H : Heap} (h : pz_P D cy A g H) (hAB : ∀ a q, g a = some q → A a → B a) : pz_P D cy B g H := by
  obtain ⟨L, hL, hP, hD⟩ := h
  refine ⟨L, hL, hP, hD.weaken (fun k q hk hA => ?_)⟩
  obtain ⟨a, ha, rfl⟩ := List.mem_map.mp (List.mem_of_getElem? hk)
  have := (hL a).mp ha
  cases hq : g a with
  | none => rw [hq] at this; cases this
  | some z => exact hAB a z hq hA
/-! the words that every method may use -/
def pz_W : List Cond := lw_tbl.filter goodWord
theorem pz_in {w : Cond} (h : w ∈ lw_tbl) (hg : goodWord w = true) : w ∈ pz_W := List.mem_filter.mpr ⟨h, hg⟩
theorem pz_good {w : Cond} (h : w ∈ pz_W) : goodWord w = true := (List.mem_filter.mp h).2
/-! a method's body under way -/
abbrev pz_C : Type := Program × Launch × Env × Room × State × MethodId × Array Value × List Frame × Method × Code × (State → Prop) × va_G × (Nat → ClassId) × (Nat → Prop) × ((Nat → Prop) → State → Heap → Prop)
/-- what is known of the statics and the tables beyond the words: kept by all that leaves the rest of the heap alone -/
def pz_Ok (En : (Nat → Prop) → State → Heap → Prop) : Prop := ∀ (A B : Nat → Prop) (U V : State) (H K : Heap), En A U H → U.vm.Alike V.vm → (∀ q, B q → A q) → (∀ a : Nat, a < H.size → ¬ A a → K[a]? = H[a]?) → En B V K
abbrev pz_L : Type := List (Nat × pz_V)
abbrev pz_K : Type := Nat → pz_L → List pz_V → pz_H → Nat → Nat → Prop
def pz_lv (lv : pz_L) : List (Nat × Value) := lv.map (fun q => (q.1, pz_v q.2))
def pz_Z (X : pz_C) (nL : Nat) : pz_K := fun pc lv st g cells slots => match X with
  | (p, l, e, R, s, m, args, below, meth, c, Q, D, cy, A, En) => ∀ (ls : Array Slot) (H : Heap) (locs : List Loc), lv_has ls nL (pz_lv lv) → pz_P D cy A g H → va_S A s.heap H locs → W p l e R s m args below meth c H locs cells slots Q (F0 m pc ls (st.map pz_v))
def pz_X (X : pz_C) (cc : ByteArray) (nL : Nat) (own : String) : Prop := match X with
  | (p, l, e, R, s, m, args, below, meth, c, Q, D, cy, A, En) => p.tables.exec = Jvm.exec ∧ c.code = cc ∧ c.maxLocals = nL ∧ s.vm.findClass own = some m.cls ∧ (∀ w ∈ pz_W, w.before args s = true) ∧ va_K D vwCl (pz_ty cy) s ∧ (∀ q, s.heap.size ≤ q → A q) ∧ pz_Ok En ∧ En A s s.heap
def pz_f : pz_L → Nat → Option pz_V
  | [], _ => none
  | (j, v) :: l, i => if j = i then some v else pz_f l i
def pz_2 : pz_V → Bool
  | .inr (.inl _) => true
  | _ => false
def pz_s (i : Nat) (v : pz_V) (lv : pz_L) : pz_L := (i, v) :: lv.filter (fun q => !(q.1 == i) && !(q.1 + 1 == i && pz_2 q.2))
def pz_s2 (i : Nat) (v : pz_V) (lv : pz_L) : pz_L := (i, v) :: lv.filter (fun q => !(q.1 == i) && (!(q.1 == i + 1) && !(q.1 + 1 == i && pz_2 q.2)))
theorem pz_cat (v : pz_V) : ((pz_v v).category == 2) = pz_2 v := by
  rcases v with x | x | r
  · rfl
  · rfl
  · cases r <;> rfl
theorem pz_cat1 {v : pz_V} (h : pz_2 v = false) : (pz_v v).category = 1 := by
  rcases v with x | x | r
  · rfl
  · cases h
  · cases r <;> rfl
theorem pz_lv_s (i : Nat) (v : pz_V) (lv : pz_L) : (i, pz_v v) :: (pz_lv lv).filter (fun q => !(q.1 == i) && !(q.1 + 1 == i && q.2.category == 2)) = pz_lv (pz_s i v lv) := by
  simp only [pz_lv, pz_s, List.map_cons, List.filter_map, Function.comp_def, pz_cat]
theorem pz_lv_s2 (i : Nat) (v : pz_V) (lv : pz_L) : (i, pz_v v) :: (pz_lv lv).filter (fun q => !(q.1 == i) && (!(q.1 == i + 1) && !(q.1 + 1 == i && q.2.category == 2))) = pz_lv (pz_s2 i v lv) := by
  simp only [pz_lv, pz_s2, List.map_cons, List.filter_map, Function.comp_def, pz_cat]
theorem pz_fa {lv : pz_L} {i : Nat} {v : pz_V} (h : pz_f lv i = some v) : ∃ k : Nat, (pz_lv lv)[k]? = some (i, pz_v v) := by
  induction lv with
  | nil => cases h
  | cons q l ih =>
    obtain ⟨j, u⟩ := q
    unfold pz_f at h
    split at h
    · rename_i hj
      cases h
      exact ⟨0, by rw [hj]; rfl⟩
    · obtain ⟨k, hk⟩ := ih h
      exact ⟨k + 1, hk⟩
theorem pz_ls {lv : pz_L} {ls : Array Slot} {nL i : Nat} {v : pz_V} (hl : lv_has ls nL (pz_lv lv)) (h : pz_f lv i = some v) : ls[i]? = some (.val (pz_v v)) := by
  obtain ⟨k, hk⟩ := pz_fa h
  exact lv_at hl k hk
end
section
def zo_ic (n : Nat) (v : Int32) (K : pz_K) : pz_K := fun pc lv st g c s => K (pc + n) lv (.inl v :: st) g c s
theorem zs_iconst {X : pz_C} {cc : ByteArray} {nL : Nat} {own : String} {K : pz_K} {pc : Nat} (hX : pz_X X cc nL own) {n : Int} {v : Int32} (hd : decode cc pc = .ok (.iconst n, 1)) (hv : Int32.ofInt n = v) (hk : ∀ lv st g c s, K (pc + 1) lv st g c s → pz_Z X nL (pc + 1) lv st g c s) : ∀ lv st g c s, zo_ic 1 v K pc lv st g c s → pz_Z X nL pc lv st g c s := by
  obtain ⟨p, l, e, R, s, m, args, below, meth, c, Q, D, cy, A, En⟩ := X
  obtain ⟨hx, hb, hml, hown, hts, hK, hA, hOk, hEn⟩ := hX
  intro lv st g c0 s0 h ls H locs hl hP hS
  exact lv_iconst hx hb hd hv (hk _ _ _ _ _ h ls H locs hl hP hS)
theorem zs_bipush {X : pz_C} {cc : ByteArray} {nL : Nat} {own : String} {K : pz_K} {pc : Nat} (hX : pz_X X cc nL own) {n : Int} {v : Int32} (hd : decode cc pc = .ok (.bipush n, 2)) (hv : (Int8.ofInt n).toInt32 = v) (hk : ∀ lv st g c s, K (pc + 2) lv st g c s → pz_Z X nL (pc + 2) lv st g c s) : ∀ lv st g c s, zo_ic 2 v K pc lv st g c s → pz_Z X nL pc lv st g c s := by
  obtain ⟨p, l, e, R, s, m, args, below, meth, c, Q, D, cy, A, En⟩ := X
  obtain ⟨hx, hb, hml, hown, hts, hK, hA, hOk, hEn⟩ := hX
  intro lv st g c0 s0 h ls H locs hl hP hS
  exact lv_bipush hx hb hd hv (hk _ _ _ _ _ h ls H locs hl hP hS)
theorem zs_sipush {X : pz_C} {cc : ByteArray} {nL : Nat} {own : String} {K : pz_K} {pc : Nat} (hX : pz_X X cc nL own) {n : Int} {v : Int32} (hd : decode cc pc = .ok (.sipush n, 3)) (hv : (Int16.ofInt n).toInt32 = v) (hk : ∀ lv st g c s, K (pc + 3) lv st g c s → pz_Z X nL (pc + 3) lv st g c s) : ∀ lv st g c s, zo_ic 3 v K pc lv st g c s → pz_Z X nL pc lv st g c s := by
  obtain ⟨p, l, e, R, s, m, args, below, meth, c, Q, D, cy, A, En⟩ := X
  obtain ⟨hx, hb, hml, hown, hts, hK, hA, hOk, hEn⟩ := hX
  intro lv st g c0 s0 h ls H locs hl hP hS
  exact lv_sipush hx hb hd hv (hk _ _ _ _ _ h ls H locs hl hP hS)
theorem zs_ldc {X : pz_C} {cc : ByteArray} {nL : Nat} {own : String} {K : pz_K} {pc : Nat} (hX : pz_X X cc nL own) {ix : Nat} {v : Int32} (hd : decode cc pc = .ok (.ldc ix, 2)) (hw : Cond.constant own ix v ∈ pz_W) (hk : ∀ lv st g c s, K (pc + 2) lv st g c s → pz_Z X nL (pc + 2) lv st g c s) : ∀ lv st g c s, zo_ic 2 v K pc lv st g c s → pz_Z X nL pc lv st g c s := by
  obtain ⟨p, l, e, R, s, m, args, below, meth, c, Q, D, cy, A, En⟩ := X
  obtain ⟨hx, hb, hml, hown, hts, hK, hA, hOk, hEn⟩ := hX
  intro lv st g c0 s0 h ls H locs hl hP hS
  exact lv_ldc hx hb hown (hts _ hw) hd (hk _ _ _ _ _ h ls H locs hl hP hS)
def zo_lc (n : Nat) (v : Int64) (K : pz_K) : pz_K := fun pc lv st g c s => K (pc + n) lv (.inr (.inl v) :: st) g c s
theorem zs_lconst {X : pz_C} {cc : ByteArray} {nL : Nat} {own : String} {K : pz_K} {pc : Nat} (hX : pz_X X cc nL own) {n : Fin 2} {v : Int64} (hd : decode cc pc = .ok (.lconst n, 1)) (hv : Int64.ofNat (n : Nat) = v) (hk : ∀ lv st g c s, K (pc + 1) lv st g c s → pz_Z X nL (pc + 1) lv st g c s) : ∀ lv st g c s, zo_lc 1 v K pc lv st g c s → pz_Z X nL pc lv st g c s := by
  obtain ⟨p, l, e, R, s, m, args, below, meth, c, Q, D, cy, A, En⟩ := X
  obtain ⟨hx, hb, hml, hown, hts, hK, hA, hOk, hEn⟩ := hX
  intro lv st g c0 s0 h ls H locs hl hP hS
  exact lv_lconst hx hb hd hv (hk _ _ _ _ _ h ls H locs hl hP hS)
theorem zs_ldc2 {X : pz_C} {cc : ByteArray} {nL : Nat} {own : String} {K : pz_K} {pc : Nat} (hX : pz_X X cc nL own) {ix : Nat} {v : Int64} (hd : decode cc pc = .ok (.ldc2_w ix, 3)) (hw : Cond.constantLong own ix v ∈ pz_W) (hk : ∀ lv st g c s, K (pc + 3) lv st g c s → pz_Z X nL (pc + 3) lv st g c s) : ∀ lv st g c s, zo_lc 3 v K pc lv st g c s → pz_Z X nL pc lv st g c s := by
  obtain ⟨p, l, e, R, s, m, args, below, meth, c, Q, D, cy, A, En⟩ := X
  obtain ⟨hx, hb, hml, hown, hts, hK, hA, hOk, hEn⟩ := hX
  intro lv st g c0 s0 h ls H locs hl hP hS
  exact lv_ldc2 hx hb hown (hts _ hw) hd (hk _ _ _ _ _ h ls H locs hl hP hS)
def zo_null (K : pz_K) : pz_K := fun pc lv st g c s => K (pc + 1) lv (.inr (.inr none) :: st) g c s
theorem zs_null {X : pz_C} {cc : ByteArray} {nL : Nat} {own : String} {K : pz_K} {pc : Nat} (hX : pz_X X cc nL own) (hd : decode cc pc = .ok (.aconst_null, 1)) (hk : ∀ lv st g c s, K (pc + 1) lv st g c s → pz_Z X nL (pc + 1) lv st g c s) : ∀ lv st g c s, zo_null K pc lv st g c s → pz_Z X nL pc lv st g c s := by
  obtain ⟨p, l, e, R, s, m, args, below, meth, c, Q, D, cy, A, En⟩ := X
  obtain ⟨hx, hb, hml, hown, hts, hK, hA, hOk, hEn⟩ := hX
  intro lv st g c0 s0 h ls H locs hl hP hS
  exact lv_null hx hb hd (hk _ _ _ _ _ h ls H locs hl hP hS)
def zo_il (n i : Nat) (K : pz_K) : pz_K := fun pc lv st g c s => match pz_f lv i with
  | some (.inl x) => K (pc + n) lv (.inl x :: st) g c s
  | _ => False
theorem zs_iload {X : pz_C} {cc : ByteArray} {nL : Nat} {own : String} {K : pz_K} {pc : Nat} (hX : pz_X X cc nL own) {i : Nat} (hd : decode cc pc = .ok (.iload i, 2)) (hk : ∀ lv st g c s, K (pc + 2) lv st g c s → pz_Z X nL (pc + 2) lv st g c s) : ∀ lv st g c s, zo_il 2 i K pc lv st g c s → pz_Z X nL pc lv st g c s := by
  obtain ⟨p, l, e, R, s, m, args, below, meth, c, Q, D, cy, A, En⟩ := X
  obtain ⟨hx, hb, hml, hown, hts, hK, hA, hOk, hEn⟩ := hX
  intro lv st g c0 s0 h ls H locs hl hP hS
  unfold zo_il at h
  split at h
  · rename_i x hf
    exact lv_iload hx hb hd (pz_ls hl hf) (hk _ _ _ _ _ h ls H locs hl hP hS)
  · exact h.elim
theorem zs_iload_n {X : pz_C} {cc : ByteArray} {nL : Nat} {own : String} {K : pz_K} {pc : Nat} (hX : pz_X X cc nL own) {k : Fin 4} {i : Nat} (hd : decode cc pc = .ok (.iload_n k, 1)) (hi : (k : Nat) = i) (hk : ∀ lv st g c s, K (pc + 1) lv st g c s → pz_Z X nL (pc + 1) lv st g c s) : ∀ lv st g c s, zo_il 1 i K pc lv st g c s → pz_Z X nL pc lv st g c s := by
  obtain ⟨p, l, e, R, s, m, args, below, meth, c, Q, D, cy, A, En⟩ := X
  obtain ⟨hx, hb, hml, hown, hts, hK, hA, hOk, hEn⟩ := hX
  intro lv st g c0 s0 h ls H locs hl hP hS
  unfold zo_il at h
  split at h
  · rename_i x hf
    exact lv_iload_n hx hb hd hi (pz_ls hl hf) (hk _ _ _ _ _ h ls H locs hl hP hS)
  · exact h.elim
def zo_ll (n i : Nat) (K : pz_K) : pz_K := fun pc lv st g c s => match pz_f lv i with
  | some (.inr (.inl x)) => K (pc + n) lv (.inr (.inl x) :: st) g c s
  | _ => False
theorem zs_lload {X : pz_C} {cc : ByteArray} {nL : Nat} {own : String} {K : pz_K} {pc : Nat} (hX : pz_X X cc nL own) {i : Nat} (hd : decode cc pc = .ok (.lload i, 2)) (hk : ∀ lv st g c s, K (pc + 2) lv st g c s → pz_Z X nL (pc + 2) lv st g c s) : ∀ lv st g c s, zo_ll 2 i K pc lv st g c s → pz_Z X nL pc lv st g c s := by
  obtain ⟨p, l, e, R, s, m, args, below, meth, c, Q, D, cy, A, En⟩ := X
  obtain ⟨hx, hb, hml, hown, hts, hK, hA, hOk, hEn⟩ := hX
  intro lv st g c0 s0 h ls H locs hl hP hS
  unfold zo_ll at h
  split at h
  · rename_i x hf
    exact lv_lload hx hb hd (pz_ls hl hf) (hk _ _ _ _ _ h ls H locs hl hP hS)
  · exact h.elim
theorem zs_lload_n {X : pz_C} {cc : ByteArray} {nL : Nat} {own : String} {K : pz_K} {pc : Nat} (hX : pz_X X cc nL own) {k : Fin 4} {i : Nat} (hd : decode cc pc = .ok (.lload_n k, 1)) (hi : (k : Nat) = i) (hk : ∀ lv st g c s, K (pc + 1) lv st g c s → pz_Z X nL (pc + 1) lv st g c s) : ∀ lv st g c s, zo_ll 1 i K pc lv st g c s → pz_Z X nL pc lv st g c s := by
  obtain ⟨p, l, e, R, s, m, args, below, meth, c, Q, D, cy, A, En⟩ := X
  obtain ⟨hx, hb, hml, hown, hts, hK, hA, hOk, hEn⟩ := hX
  intro lv st g c0 s0 h ls H locs hl hP hS
  unfold zo_ll at h
  split at h
  · rename_i x hf
    exact lv_lload_n hx hb hd hi (pz_ls hl hf) (hk _ _ _ _ _ h ls H locs hl hP hS)
  · exact h.elim
def zo_al (n i : Nat) (K : pz_K) : pz_K := fun pc lv st g c s => match pz_f lv i with
  | some (.inr (.inr r)) => K (pc + n) lv (.inr (.inr r) :: st) g c s
  | _ => False
theorem zs_aload {X : pz_C} {cc : ByteArray} {nL : Nat} {own : String} {K : pz_K} {pc : Nat} (hX : pz_X X cc nL own) {i : Nat} (hd : decode cc pc = .ok (.aload i, 2)) (hk : ∀ lv st g c s, K (pc + 2) lv st g c s → pz_Z X nL (pc + 2) lv st g c s) : ∀ lv st g c s, zo_al 2 i K pc lv st g c s → pz_Z X nL pc lv st g c s := by
  obtain ⟨p, l, e, R, s, m, args, below, meth, c, Q, D, cy, A, En⟩ := X
  obtain ⟨hx, hb, hml, hown, hts, hK, hA, hOk, hEn⟩ := hX
  intro lv st g c0 s0 h ls H locs hl hP hS
  unfold zo_al at h
  split at h
  · rename_i r hf
    cases r with
    | none => exact lv_aloadN hx hb hd (pz_ls hl hf) (hk _ _ _ _ _ h ls H locs hl hP hS)
    | some a => exact lv_aload hx hb hd (pz_ls hl hf) (hk _ _ _ _ _ h ls H locs hl hP hS)
  · exact h.elim
theorem zs_aload_n {X : pz_C} {cc : ByteArray} {nL : Nat} {own : String} {K : pz_K} {pc : Nat} (hX : pz_X X cc nL own) {k : Fin 4} {i : Nat} (hd : decode cc pc = .ok (.aload_n k, 1)) (hi : (k : Nat) = i) (hk : ∀ lv st g c s, K (pc + 1) lv st g c s → pz_Z X nL (pc + 1) lv st g c s) : ∀ lv st g c s, zo_al 1 i K pc lv st g c s → pz_Z X nL pc lv st g c s := by
  obtain ⟨p, l, e, R, s, m, args, below, meth, c, Q, D, cy, A, En⟩ := X
  obtain ⟨hx, hb, hml, hown, hts, hK, hA, hOk, hEn⟩ := hX
  intro lv st g c0 s0 h ls H locs hl hP hS
  unfold zo_al at h
  split at h
  · rename_i r hf
    cases r with
    | none => exact lv_aload_nN hx hb hd hi (pz_ls hl hf) (hk _ _ _ _ _ h ls H locs hl hP hS)
    | some a => exact lv_aload_n hx hb hd hi (pz_ls hl hf) (hk _ _ _ _ _ h ls H locs hl hP hS)
  · exact h.elim
def zo_is (n i : Nat) (K : pz_K) : pz_K := fun pc lv st g c s => match st with
  | .inl x :: r => K (pc + n) (pz_s i (.inl x) lv) r g c s
  | _ => False
theorem zs_istore {X : pz_C} {cc : ByteArray} {nL : Nat} {own : String} {K : pz_K} {pc : Nat} (hX : pz_X X cc nL own) {i : Nat} (hd : decode cc pc = .ok (.istore i, 2)) (hn : i < nL) (hk : ∀ lv st g c s, K (pc + 2) lv st g c s → pz_Z X nL (pc + 2) lv st g c s) : ∀ lv st g c s, zo_is 2 i K pc lv st g c s → pz_Z X nL pc lv st g c s := by
  obtain ⟨p, l, e, R, s, m, args, below, meth, c, Q, D, cy, A, En⟩ := X
  obtain ⟨hx, hb, hml, hown, hts, hK, hA, hOk, hEn⟩ := hX
  intro lv st g c0 s0 h ls H locs hl hP hS
  unfold zo_is at h
  split at h
  · rename_i x r
    exact lv_istore hx hb hd hl hn (pz_lv_s i (.inl x) lv) (fun ls2 hl2 => hk _ _ _ _ _ h ls2 H locs hl2 hP hS)
  · exact h.elim
theorem zs_istore_n {X : pz_C} {cc : ByteArray} {nL : Nat} {own : String} {K : pz_K} {pc : Nat} (hX : pz_X X cc nL own) {k : Fin 4} {i : Nat} (hd : decode cc pc = .ok (.istore_n k, 1)) (hi : (k : Nat) = i) (hn : i < nL) (hk : ∀ lv st g c s, K (pc + 1) lv st g c s → pz_Z X nL (pc + 1) lv st g c s) : ∀ lv st g c s, zo_is 1 i K pc lv st g c s → pz_Z X nL pc lv st g c s := by
  obtain ⟨p, l, e, R, s, m, args, below, meth, c, Q, D, cy, A, En⟩ := X
  obtain ⟨hx, hb, hml, hown, hts, hK, hA, hOk, hEn⟩ := hX
  intro lv st g c0 s0 h ls H locs hl hP hS
  unfold zo_is at h
  split at h
  · rename_i x r
    exact lv_istore_n hx hb hd hi hl hn (pz_lv_s i (.inl x) lv) (fun ls2 hl2 => hk _ _ _ _ _ h ls2 H locs hl2 hP hS)
  · exact h.elim
def zo_lst (n i : Nat) (K : pz_K) : pz_K := fun pc lv st g c s => match st with
  | .inr (.inl x) :: r => K (pc + n) (pz_s2 i (.inr (.inl x)) lv) r g c s
  | _ => False
theorem zs_lstore {X : pz_C} {cc : ByteArray} {nL : Nat} {own : String} {K : pz_K} {pc : Nat} (hX : pz_X X cc nL own) {i : Nat} (hd : decode cc pc = .ok (.lstore i, 2)) (hn : i + 1 < nL) (hk : ∀ lv st g c s, K (pc + 2) lv st g c s → pz_Z X nL (pc + 2) lv st g c s) : ∀ lv st g c s, zo_lst 2 i K pc lv st g c s → pz_Z X nL pc lv st g c s := by
  obtain ⟨p, l, e, R, s, m, args, below, meth, c, Q, D, cy, A, En⟩ := X
  obtain ⟨hx, hb, hml, hown, hts, hK, hA, hOk, hEn⟩ := hX
  intro lv st g c0 s0 h ls H locs hl hP hS
  unfold zo_lst at h
  split at h
  · rename_i x r
    exact lv_lstore hx hb hd hl hn (pz_lv_s2 i (.inr (.inl x)) lv) (fun ls2 hl2 => hk _ _ _ _ _ h ls2 H locs hl2 hP hS)
  · exact h.elim
theorem zs_lstore_n {X : pz_C} {cc : ByteArray} {nL : Nat} {own : String} {K : pz_K} {pc : Nat} (hX : pz_X X cc nL own) {k : Fin 4} {i : Nat} (hd : decode cc pc = .ok (.lstore_n k, 1)) (hi : (k : Nat) = i) (hn : i + 1 < nL) (hk : ∀ lv st g c s, K (pc + 1) lv st g c s → pz_Z X nL (pc + 1) lv st g c s) : ∀ lv st g c s, zo_lst 1 i K pc lv st g c s → pz_Z X nL pc lv st g c s := by
  obtain ⟨p, l, e, R, s, m, args, below, meth, c, Q, D, cy, A, En⟩ := X
  obtain ⟨hx, hb, hml, hown, hts, hK, hA, hOk, hEn⟩ := hX
  intro lv st g c0 s0 h ls H locs hl hP hS
  unfold zo_lst at h
  split at h
  · rename_i x r
    exact lv_lstore_n hx hb hd hi hl hn (pz_lv_s2 i (.inr (.inl x)) lv) (fun ls2 hl2 => hk _ _ _ _ _ h ls2 H locs hl2 hP hS)
  · exact h.elim
def zo_as (n i : Nat) (K : pz_K) : pz_K := fun pc lv st g c s => match st with
  | .inr (.inr x) :: r => K (pc + n) (pz_s i (.inr (.inr x)) lv) r g c s
  | _ => False
theorem zs_astore {X : pz_C} {cc : ByteArray} {nL : Nat} {own : String} {K : pz_K} {pc : Nat} (hX : pz_X X cc nL own) {i : Nat} (hd : decode cc pc = .ok (.astore i, 2)) (hn : i < nL) (hk : ∀ lv st g c s, K (pc + 2) lv st g c s → pz_Z X nL (pc + 2) lv st g c s) : ∀ lv st g c s, zo_as 2 i K pc lv st g c s → pz_Z X nL pc lv st g c s := by
  obtain ⟨p, l, e, R, s, m, args, below, meth, c, Q, D, cy, A, En⟩ := X
  obtain ⟨hx, hb, hml, hown, hts, hK, hA, hOk, hEn⟩ := hX
  intro lv st g c0 s0 h ls H locs hl hP hS
  unfold zo_as at h
  split at h
  · rename_i x r
    cases x with
    | none => exact lv_astoreN hx hb hd hl hn (pz_lv_s i (.inr (.inr none)) lv) (fun ls2 hl2 => hk _ _ _ _ _ h ls2 H locs hl2 hP hS)
    | some a => exact lv_astore hx hb hd hl hn (pz_lv_s i (.inr (.inr (some a))) lv) (fun ls2 hl2 => hk _ _ _ _ _ h ls2 H locs hl2 hP hS)
  · exact h.elim
theorem zs_astore_n {X : pz_C} {cc : ByteArray} {nL : Nat} {own : String} {K : pz_K} {pc : Nat} (hX : pz_X X cc nL own) {k : Fin 4} {i : Nat} (hd : decode cc pc = .ok (.astore_n k, 1)) (hi : (k : Nat) = i) (hn : i < nL) (hk : ∀ lv st g c s, K (pc + 1) lv st g c s → pz_Z X nL (pc + 1) lv st g c s) : ∀ lv st g c s, zo_as 1 i K pc lv st g c s → pz_Z X nL pc lv st g c s := by
  obtain ⟨p, l, e, R, s, m, args, below, meth, c, Q, D, cy, A, En⟩ := X
  obtain ⟨hx, hb, hml, hown, hts, hK, hA, hOk, hEn⟩ := hX
  intro lv st g c0 s0 h ls H locs hl hP hS
  unfold zo_as at h
  split at h
  · rename_i x r
    cases x with
    | none => exact lv_astore_nN hx hb hd hi hl hn (pz_lv_s i (.inr (.inr none)) lv) (fun ls2 hl2 => hk _ _ _ _ _ h ls2 H locs hl2 hP hS)
    | some a => exact lv_astore_n hx hb hd hi hl hn (pz_lv_s i (.inr (.inr (some a))) lv) (fun ls2 hl2 => hk _ _ _ _ _ h ls2 H locs hl2 hP hS)
  · exact h.elim
def zo_inc (i : Nat) (k : Int32) (K : pz_K) : pz_K := fun pc lv st g c s => match pz_f lv i with
  | some (.inl x) => K (pc + 3) (pz_s i (.inl (x + k)) lv) st g c s
  | _ => False
theorem zs_iinc {X : pz_C} {cc : ByteArray} {nL : Nat} {own : String} {K : pz_K} {pc : Nat} (hX : pz_X X cc nL own) {i : Nat} {n : Int} {v : Int32} (hd : decode cc pc = .ok (.iinc i n, 3)) (hv : Int32.ofInt n = v) (hn : i < nL) (hk : ∀ lv st g c s, K (pc + 3) lv st g c s → pz_Z X nL (pc + 3) lv st g c s) : ∀ lv st g c s, zo_inc i v K pc lv st g c s → pz_Z X nL pc lv st g c s := by
  obtain ⟨p, l, e, R, s, m, args, below, meth, c, Q, D, cy, A, En⟩ := X
  obtain ⟨hx, hb, hml, hown, hts, hK, hA, hOk, hEn⟩ := hX
  intro lv st g c0 s0 h ls H locs hl hP hS
  unfold zo_inc at h
  split at h
  · rename_i x hf
    obtain ⟨k, hk0⟩ := pz_fa hf
    exact lv_iinc (v := x + v) hx hb hd hl hk0 (by rw [hv]) hn (pz_lv_s i (.inl (x + v)) lv) (fun ls2 hl2 => hk _ _ _ _ _ h ls2 H locs hl2 hP hS)
  · exact h.elim
def zo_iadd (K : pz_K) : pz_K := fun pc lv st g c s => match st with
  | .inl y :: .inl x :: r => K (pc + 1) lv (.inl (x + y) :: r) g c s
  | _ => False
theorem zs_iadd {X : pz_C} {cc : ByteArray} {nL : Nat} {own : String} {K : pz_K} {pc : Nat} (hX : pz_X X cc nL own) (hd : decode cc pc = .ok (.iadd, 1)) (hk : ∀ lv st g c s, K (pc + 1) lv st g c s → pz_Z X nL (pc + 1) lv st g c s) : ∀ lv st g c s, zo_iadd K pc lv st g c s → pz_Z X nL pc lv st g c s := by
  obtain ⟨p, l, e, R, s, m, args, below, meth, c, Q, D, cy, A, En⟩ := X
  obtain ⟨hx, hb, hml, hown, hts, hK, hA, hOk, hEn⟩ := hX
  intro lv st g c0 s0 h ls H locs hl hP hS
  unfold zo_iadd at h
  split at h
  · rename_i y x r
    exact lv_iadd hx hb hd (hk _ _ _ _ _ h ls H locs hl hP hS)
  · exact h.elim
def zo_isub (K : pz_K) : pz_K := fun pc lv st g c s => match st with
  | .inl y :: .inl x :: r => K (pc + 1) lv (.inl (x - y) :: r) g c s
  | _ => False
theorem zs_isub {X : pz_C} {cc : ByteArray} {nL : Nat} {own : String} {K : pz_K} {pc : Nat} (hX : pz_X X cc nL own) (hd : decode cc pc = .ok (.isub, 1)) (hk : ∀ lv st g c s, K (pc + 1) lv st g c s → pz_Z X nL (pc + 1) lv st g c s) : ∀ lv st g c s, zo_isub K pc lv st g c s → pz_Z X nL pc lv st g c s := by
  obtain ⟨p, l, e, R, s, m, args, below, meth, c, Q, D, cy, A, En⟩ := X
  obtain ⟨hx, hb, hml, hown, hts, hK, hA, hOk, hEn⟩ := hX
  intro lv st g c0 s0 h ls H locs hl hP hS
  unfold zo_isub at h
  split at h
  · rename_i y x r
    exact lv_isub hx hb hd (hk _ _ _ _ _ h ls H locs hl hP hS)
  · exact h.elim
def zo_imul (K : pz_K) : pz_K := fun pc lv st g c s => match st with
  | .inl y :: .inl x :: r => K (pc + 1) lv (.inl (x * y) :: r) g c s
  | _ => False
theorem zs_imul {X : pz_C} {cc : ByteArray} {nL : Nat} {own : String} {K : pz_K} {pc : Nat} (hX : pz_X X cc nL own) (hd : decode cc pc = .ok (.imul, 1)) (hk : ∀ lv st g c s, K (pc + 1) lv st g c s → pz_Z X nL (pc + 1) lv st g c s) : ∀ lv st g c s, zo_imul K pc lv st g c s → pz_Z X nL pc lv st g c s := by
  obtain ⟨p, l, e, R, s, m, args, below, meth, c, Q, D, cy, A, En⟩ := X
  obtain ⟨hx, hb, hml, hown, hts, hK, hA, hOk, hEn⟩ := hX
  intro lv st g c0 s0 h ls H locs hl hP hS
  unfold zo_imul at h
  split at h
  · rename_i y x r
    exact lv_imul hx hb hd (hk _ _ _ _ _ h ls H locs hl hP hS)
  · exact h.elim
def zo_iand (K : pz_K) : pz_K := fun pc lv st g c s => match st with
  | .inl y :: .inl x :: r => K (pc + 1) lv (.inl (x &&& y) :: r) g c s
  | _ => False
theorem zs_iand {X : pz_C} {cc : ByteArray} {nL : Nat} {own : String} {K : pz_K} {pc : Nat} (hX : pz_X X cc nL own) (hd : decode cc pc = .ok (.iand, 1)) (hk : ∀ lv st g c s, K (pc + 1) lv st g c s → pz_Z X nL (pc + 1) lv st g c s) : ∀ lv st g c s, zo_iand K pc lv st g c s → pz_Z X nL pc lv st g c s := by
  obtain ⟨p, l, e, R, s, m, args, below, meth, c, Q, D, cy, A, En⟩ := X
  obtain ⟨hx, hb, hml, hown, hts, hK, hA, hOk, hEn⟩ := hX
  intro lv st g c0 s0 h ls H locs hl hP hS
  unfold zo_iand at h
  split at h
  · rename_i y x r
    exact lv_iand hx hb hd (hk _ _ _ _ _ h ls H locs hl hP hS)
  · exact h.elim
def zo_ior (K : pz_K) : pz_K := fun pc lv st g c s => match st with
  | .inl y :: .inl x :: r => K (pc + 1) lv (.inl (x ||| y) :: r) g c s
  | _ => False
theorem zs_ior {X : pz_C} {cc : ByteArray} {nL : Nat} {own : String} {K : pz_K} {pc : Nat} (hX : pz_X X cc nL own) (hd : decode cc pc = .ok (.ior, 1)) (hk : ∀ lv st g c s, K (pc + 1) lv st g c s → pz_Z X nL (pc + 1) lv st g c s) : ∀ lv st g c s, zo_ior K pc lv st g c s → pz_Z X nL pc lv st g c s := by
  obtain ⟨p, l, e, R, s, m, args, below, meth, c, Q, D, cy, A, En⟩ := X
  obtain ⟨hx, hb, hml, hown, hts, hK, hA, hOk, hEn⟩ := hX
  intro lv st g c0 s0 h ls H locs hl hP hS
  unfold zo_ior at h
  split at h
  · rename_i y x r
    exact lv_ior hx hb hd (hk _ _ _ _ _ h ls H locs hl hP hS)
  · exact h.elim
def zo_ishr (K : pz_K) : pz_K := fun pc lv st g c s => match st with
  | .inl y :: .inl x :: r => K (pc + 1) lv (.inl (x >>> (y &&& 31)) :: r) g c s
  | _ => False
theorem zs_ishr {X : pz_C} {cc : ByteArray} {nL : Nat} {own : String} {K : pz_K} {pc : Nat} (hX : pz_X X cc nL own) (hd : decode cc pc = .ok (.ishr, 1)) (hk : ∀ lv st g c s, K (pc + 1) lv st g c s → pz_Z X nL (pc + 1) lv st g c s) : ∀ lv st g c s, zo_ishr K pc lv st g c s → pz_Z X nL pc lv st g c s := by
  obtain ⟨p, l, e, R, s, m, args, below, meth, c, Q, D, cy, A, En⟩ := X
  obtain ⟨hx, hb, hml, hown, hts, hK, hA, hOk, hEn⟩ := hX
  intro lv st g c0 s0 h ls H locs hl hP hS
  unfold zo_ishr at h
  split at h
  · rename_i y x r
    exact lv_ishr hx hb hd (hk _ _ _ _ _ h ls H locs hl hP hS)
  · exact h.elim
def zo_ishl (K : pz_K) : pz_K := fun pc lv st g c s => match st with
  | .inl y :: .inl x :: r => K (pc + 1) lv (.inl (x <<< (y &&& 31)) :: r) g c s
  | _ => False
theorem zs_ishl {X : pz_C} {cc : ByteArray} {nL : Nat} {own : String} {K : pz_K} {pc : Nat} (hX : pz_X X cc nL own) (hd : decode cc pc = .ok (.ishl, 1)) (hk : ∀ lv st g c s, K (pc + 1) lv st g c s → pz_Z X nL (pc + 1) lv st g c s) : ∀ lv st g c s, zo_ishl K pc lv st g c s → pz_Z X nL pc lv st g c s := by
  obtain ⟨p, l, e, R, s, m, args, below, meth, c, Q, D, cy, A, En⟩ := X
  obtain ⟨hx, hb, hml, hown, hts, hK, hA, hOk, hEn⟩ := hX
  intro lv st g c0 s0 h ls H locs hl hP hS
  unfold zo_ishl at h
  split at h
  · rename_i y x r
    exact lv_ishl hx hb hd (hk _ _ _ _ _ h ls H locs hl hP hS)
  · exact h.elim
def zo_ladd (K : pz_K) : pz_K := fun pc lv st g c s => match st with
  | .inr (.inl y) :: .inr (.inl x) :: r => K (pc + 1) lv (.inr (.inl (x + y)) :: r) g c s
  | _ => False
theorem zs_ladd {X : pz_C} {cc : ByteArray} {nL : Nat} {own : String} {K : pz_K} {pc : Nat} (hX : pz_X X cc nL own) (hd : decode cc pc = .ok (.ladd, 1)) (hk : ∀ lv st g c s, K (pc + 1) lv st g c s → pz_Z X nL (pc + 1) lv st g c s) : ∀ lv st g c s, zo_ladd K pc lv st g c s → pz_Z X nL pc lv st g c s := by
  obtain ⟨p, l, e, R, s, m, args, below, meth, c, Q, D, cy, A, En⟩ := X
  obtain ⟨hx, hb, hml, hown, hts, hK, hA, hOk, hEn⟩ := hX
  intro lv st g c0 s0 h ls H locs hl hP hS
  unfold zo_ladd at h
  split at h
  · rename_i y x r
    exact lv_ladd hx hb hd (hk _ _ _ _ _ h ls H locs hl hP hS)
  · exact h.elim
def zo_lsub (K : pz_K) : pz_K := fun pc lv st g c s => match st with
  | .inr (.inl y) :: .inr (.inl x) :: r => K (pc + 1) lv (.inr (.inl (x - y)) :: r) g c s
  | _ => False
theorem zs_lsub {X : pz_C} {cc : ByteArray} {nL : Nat} {own : String} {K : pz_K} {pc : Nat} (hX : pz_X X cc nL own) (hd : decode cc pc = .ok (.lsub, 1)) (hk : ∀ lv st g c s, K (pc + 1) lv st g c s → pz_Z X nL (pc + 1) lv st g c s) : ∀ lv st g c s, zo_lsub K pc lv st g c s → pz_Z X nL pc lv st g c s := by
  obtain ⟨p, l, e, R, s, m, args, below, meth, c, Q, D, cy, A, En⟩ := X
  obtain ⟨hx, hb, hml, hown, hts, hK, hA, hOk, hEn⟩ := hX
  intro lv st g c0 s0 h ls H locs hl hP hS
  unfold zo_lsub at h
  split at h
  · rename_i y x r
    exact lv_lsub hx hb hd (hk _ _ _ _ _ h ls H locs hl hP hS)
  · exact h.elim
def zo_lmul (K : pz_K) : pz_K := fun pc lv st g c s => match st with
  | .inr (.inl y) :: .inr (.inl x) :: r => K (pc + 1) lv (.inr (.inl (x * y)) :: r) g c s
  | _ => False
theorem zs_lmul {X : pz_C} {cc : ByteArray} {nL : Nat} {own : String} {K : pz_K} {pc : Nat} (hX : pz_X X cc nL own) (hd : decode cc pc = .ok (.lmul, 1)) (hk : ∀ lv st g c s, K (pc + 1) lv st g c s → pz_Z X nL (pc + 1) lv st g c s) : ∀ lv st g c s, zo_lmul K pc lv st g c s → pz_Z X nL pc lv st g c s := by
  obtain ⟨p, l, e, R, s, m, args, below, meth, c, Q, D, cy, A, En⟩ := X
  obtain ⟨hx, hb, hml, hown, hts, hK, hA, hOk, hEn⟩ := hX
  intro lv st g c0 s0 h ls H locs hl hP hS
  unfold zo_lmul at h
  split at h
  · rename_i y x r
    exact lv_lmul hx hb hd (hk _ _ _ _ _ h ls H locs hl hP hS)
  · exact h.elim
def zo_land (K : pz_K) : pz_K := fun pc lv st g c s => match st with
  | .inr (.inl y) :: .inr (.inl x) :: r => K (pc + 1) lv (.inr (.inl (x &&& y)) :: r) g c s
  | _ => False
theorem zs_land {X : pz_C} {cc : ByteArray} {nL : Nat} {own : String} {K : pz_K} {pc : Nat} (hX : pz_X X cc nL own) (hd : decode cc pc = .ok (.land, 1)) (hk : ∀ lv st g c s, K (pc + 1) lv st g c s → pz_Z X nL (pc + 1) lv st g c s) : ∀ lv st g c s, zo_land K pc lv st g c s → pz_Z X nL pc lv st g c s := by
  obtain ⟨p, l, e, R, s, m, args, below, meth, c, Q, D, cy, A, En⟩ := X
  obtain ⟨hx, hb, hml, hown, hts, hK, hA, hOk, hEn⟩ := hX
  intro lv st g c0 s0 h ls H locs hl hP hS
  unfold zo_land at h
  split at h
  · rename_i y x r
    exact lv_land hx hb hd (hk _ _ _ _ _ h ls H locs hl hP hS)
  · exact h.elim
def zo_lor (K : pz_K) : pz_K := fun pc lv st g c s => match st with
  | .inr (.inl y) :: .inr (.inl x) :: r => K (pc + 1) lv (.inr (.inl (x ||| y)) :: r) g c s
  | _ => False
theorem zs_lor {X : pz_C} {cc : ByteArray} {nL : Nat} {own : String} {K : pz_K} {pc : Nat} (hX : pz_X X cc nL own) (hd : decode cc pc = .ok (.lor, 1)) (hk : ∀ lv st g c s, K (pc + 1) lv st g c s → pz_Z X nL (pc + 1) lv st g c s) : ∀ lv st g c s, zo_lor K pc lv st g c s → pz_Z X nL pc lv st g c s := by
  obtain ⟨p, l, e, R, s, m, args, below, meth, c, Q, D, cy, A, En⟩ := X
  obtain ⟨hx, hb, hml, hown, hts, hK, hA, hOk, hEn⟩ := hX
  intro lv st g c0 s0 h ls H locs hl hP hS
  unfold zo_lor at h
  split at h
  · rename_i y x r
    exact lv_lor hx hb hd (hk _ _ _ _ _ h ls H locs hl hP hS)
  · exact h.elim
def zo_idiv (K : pz_K) : pz_K := fun pc lv st g c s => match st with
  | .inl y :: .inl x :: r => ¬ y = 0 ∧ K (pc + 1) lv (.inl (x / y) :: r) g c s
  | _ => False
theorem zs_idiv {X : pz_C} {cc : ByteArray} {nL : Nat} {own : String} {K : pz_K} {pc : Nat} (hX : pz_X X cc nL own) (hd : decode cc pc = .ok (.idiv, 1)) (hk : ∀ lv st g c s, K (pc + 1) lv st g c s → pz_Z X nL (pc + 1) lv st g c s) : ∀ lv st g c s, zo_idiv K pc lv st g c s → pz_Z X nL pc lv st g c s := by
  obtain ⟨p, l, e, R, s, m, args, below, meth, c, Q, D, cy, A, En⟩ := X
  obtain ⟨hx, hb, hml, hown, hts, hK, hA, hOk, hEn⟩ := hX
  intro lv st g c0 s0 h ls H locs hl hP hS
  unfold zo_idiv at h
  split at h
  · rename_i y x r
    obtain ⟨h0, h⟩ := h
    exact lv_idiv hx hb hd h0 (hk _ _ _ _ _ h ls H locs hl hP hS)
  · exact h.elim
def zo_irem (K : pz_K) : pz_K := fun pc lv st g c s => match st with
  | .inl y :: .inl x :: r => ¬ y = 0 ∧ K (pc + 1) lv (.inl (x - x / y * y) :: r) g c s
  | _ => False
theorem zs_irem {X : pz_C} {cc : ByteArray} {nL : Nat} {own : String} {K : pz_K} {pc : Nat} (hX : pz_X X cc nL own) (hd : decode cc pc = .ok (.irem, 1)) (hk : ∀ lv st g c s, K (pc + 1) lv st g c s → pz_Z X nL (pc + 1) lv st g c s) : ∀ lv st g c s, zo_irem K pc lv st g c s → pz_Z X nL pc lv st g c s := by
  obtain ⟨p, l, e, R, s, m, args, below, meth, c, Q, D, cy, A, En⟩ := X
  obtain ⟨hx, hb, hml, hown, hts, hK, hA, hOk, hEn⟩ := hX
  intro lv st g c0 s0 h ls H locs hl hP hS
  unfold zo_irem at h
  split at h
  · rename_i y x r
    obtain ⟨h0, h⟩ := h
    exact lv_irem hx hb hd h0 (hk _ _ _ _ _ h ls H locs hl hP hS)
  · exact h.elim
def zo_ldiv (K : pz_K) : pz_K := fun pc lv st g c s => match st with
  | .inr (.inl y) :: .inr (.inl x) :: r => ¬ y = 0 ∧ K (pc + 1) lv (.inr (.inl (x / y)) :: r) g c s
  | _ => False
theorem zs_ldiv {X : pz_C} {cc : ByteArray} {nL : Nat} {own : String} {K : pz_K} {pc : Nat} (hX : pz_X X cc nL own) (hd : decode cc pc = .ok (.ldiv, 1)) (hk : ∀ lv st g c s, K (pc + 1) lv st g c s → pz_Z X nL (pc + 1) lv st g c s) : ∀ lv st g c s, zo_ldiv K pc lv st g c s → pz_Z X nL pc lv st g c s := by
  obtain ⟨p, l, e, R, s, m, args, below, meth, c, Q, D, cy, A, En⟩ := X
  obtain ⟨hx, hb, hml, hown, hts, hK, hA, hOk, hEn⟩ := hX
  intro lv st g c0 s0 h ls H locs hl hP hS
  unfold zo_ldiv at h
  split at h
  · rename_i y x r
    obtain ⟨h0, h⟩ := h
    exact lv_ldiv hx hb hd h0 (hk _ _ _ _ _ h ls H locs hl hP hS)
  · exact h.elim
def zo_lrem (K : pz_K) : pz_K := fun pc lv st g c s => match st with
  | .inr (.inl y) :: .inr (.inl x) :: r => ¬ y = 0 ∧ K (pc + 1) lv (.inr (.inl (x - x / y * y)) :: r) g c s
  | _ => False
theorem zs_lrem {X : pz_C} {cc : ByteArray} {nL : Nat} {own : String} {K : pz_K} {pc : Nat} (hX : pz_X X cc nL own) (hd : decode cc pc = .ok (.lrem, 1)) (hk : ∀ lv st g c s, K (pc + 1) lv st g c s → pz_Z X nL (pc + 1) lv st g c s) : ∀ lv st g c s, zo_lrem K pc lv st g c s → pz_Z X nL pc lv st g c s := by
  obtain ⟨p, l, e, R, s, m, args, below, meth, c, Q, D, cy, A, En⟩ := X
  obtain ⟨hx, hb, hml, hown, hts, hK, hA, hOk, hEn⟩ := hX
  intro lv st g c0 s0 h ls H locs hl hP hS
  unfold zo_lrem at h
  split at h
  · rename_i y x r
    obtain ⟨h0, h⟩ := h
    exact lv_lrem hx hb hd h0 (hk _ _ _ _ _ h ls H locs hl hP hS)
  · exact h.elim
def zo_lshl (K : pz_K) : pz_K := fun pc lv st g c s => match st with
  | .inl y :: .inr (.inl x) :: r => K (pc + 1) lv (.inr (.inl (x <<< (y.toInt64 &&& 63))) :: r) g c s
  | _ => False
theorem zs_lshl {X : pz_C} {cc : ByteArray} {nL : Nat} {own : String} {K : pz_K} {pc : Nat} (hX : pz_X X cc nL own) (hd : decode cc pc = .ok (.lshl, 1)) (hk : ∀ lv st g c s, K (pc + 1) lv st g c s → pz_Z X nL (pc + 1) lv st g c s) : ∀ lv st g c s, zo_lshl K pc lv st g c s → pz_Z X nL pc lv st g c s := by
  obtain ⟨p, l, e, R, s, m, args, below, meth, c, Q, D, cy, A, En⟩ := X
  obtain ⟨hx, hb, hml, hown, hts, hK, hA, hOk, hEn⟩ := hX
  intro lv st g c0 s0 h ls H locs hl hP hS
  unfold zo_lshl at h
  split at h
  · rename_i y x r
    exact lv_lshl hx hb hd rfl (hk _ _ _ _ _ h ls H locs hl hP hS)
  · exact h.elim
def zo_lcmp (K : pz_K) : pz_K := fun pc lv st g c s => match st with
  | .inr (.inl y) :: .inr (.inl x) :: r => K (pc + 1) lv (.inl (lg_cmp x y) :: r) g c s
  | _ => False
theorem zs_lcmp {X : pz_C} {cc : ByteArray} {nL : Nat} {own : String} {K : pz_K} {pc : Nat} (hX : pz_X X cc nL own) (hd : decode cc pc = .ok (.lcmp, 1)) (hk : ∀ lv st g c s, K (pc + 1) lv st g c s → pz_Z X nL (pc + 1) lv st g c s) : ∀ lv st g c s, zo_lcmp K pc lv st g c s → pz_Z X nL pc lv st g c s := by
  obtain ⟨p, l, e, R, s, m, args, below, meth, c, Q, D, cy, A, En⟩ := X
  obtain ⟨hx, hb, hml, hown, hts, hK, hA, hOk, hEn⟩ := hX
  intro lv st g c0 s0 h ls H locs hl hP hS
  unfold zo_lcmp at h
  split at h
  · rename_i y x r
    exact W.lcmp hx hb hd (hk _ _ _ _ _ h ls H locs hl hP hS)
  · exact h.elim
def zo_i2l (K : pz_K) : pz_K := fun pc lv st g c s => match st with
  | .inl x :: r => K (pc + 1) lv (.inr (.inl (x.toInt64)) :: r) g c s
  | _ => False
theorem zs_i2l {X : pz_C} {cc : ByteArray} {nL : Nat} {own : String} {K : pz_K} {pc : Nat} (hX : pz_X X cc nL own) (hd : decode cc pc = .ok (.i2l, 1)) (hk : ∀ lv st g c s, K (pc + 1) lv st g c s → pz_Z X nL (pc + 1) lv st g c s) : ∀ lv st g c s, zo_i2l K pc lv st g c s → pz_Z X nL pc lv st g c s := by
  obtain ⟨p, l, e, R, s, m, args, below, meth, c, Q, D, cy, A, En⟩ := X
  obtain ⟨hx, hb, hml, hown, hts, hK, hA, hOk, hEn⟩ := hX
  intro lv st g c0 s0 h ls H locs hl hP hS
  unfold zo_i2l at h
  split at h
  · rename_i x r
    exact lv_i2l hx hb hd rfl (hk _ _ _ _ _ h ls H locs hl hP hS)
  · exact h.elim
def zo_l2i (K : pz_K) : pz_K := fun pc lv st g c s => match st with
  | .inr (.inl x) :: r => K (pc + 1) lv (.inl (x.toInt32) :: r) g c s
  | _ => False
theorem zs_l2i {X : pz_C} {cc : ByteArray} {nL : Nat} {own : String} {K : pz_K} {pc : Nat} (hX : pz_X X cc nL own) (hd : decode cc pc = .ok (.l2i, 1)) (hk : ∀ lv st g c s, K (pc + 1) lv st g c s → pz_Z X nL (pc + 1) lv st g c s) : ∀ lv st g c s, zo_l2i K pc lv st g c s → pz_Z X nL pc lv st g c s := by
  obtain ⟨p, l, e, R, s, m, args, below, meth, c, Q, D, cy, A, En⟩ := X
  obtain ⟨hx, hb, hml, hown, hts, hK, hA, hOk, hEn⟩ := hX
  intro lv st g c0 s0 h ls H locs hl hP hS
  unfold zo_l2i at h
  split at h
  · rename_i x r
    exact lv_l2i hx hb hd rfl (hk _ _ _ _ _ h ls H locs hl hP hS)
  · exact h.elim
def zo_i2c (K : pz_K) : pz_K := fun pc lv st g c s => match st with
  | .inl x :: r => K (pc + 1) lv (.inl ((x.toUInt32 % 65536).toInt32) :: r) g c s
  | _ => False
theorem zs_i2c {X : pz_C} {cc : ByteArray} {nL : Nat} {own : String} {K : pz_K} {pc : Nat} (hX : pz_X X cc nL own) (hd : decode cc pc = .ok (.i2c, 1)) (hk : ∀ lv st g c s, K (pc + 1) lv st g c s → pz_Z X nL (pc + 1) lv st g c s) : ∀ lv st g c s, zo_i2c K pc lv st g c s → pz_Z X nL pc lv st g c s := by
  obtain ⟨p, l, e, R, s, m, args, below, meth, c, Q, D, cy, A, En⟩ := X
  obtain ⟨hx, hb, hml, hown, hts, hK, hA, hOk, hEn⟩ := hX
  intro lv st g c0 s0 h ls H locs hl hP hS
  unfold zo_i2c at h
  split at h
  · rename_i x r
    exact lv_i2c hx hb hd rfl (hk _ _ _ _ _ h ls H locs hl hP hS)
  · exact h.elim
def zo_pop (K : pz_K) : pz_K := fun pc lv st g c s => match st with
  | v :: r => pz_2 v = false ∧ K (pc + 1) lv r g c s
  | _ => False
theorem zs_pop {X : pz_C} {cc : ByteArray} {nL : Nat} {own : String} {K : pz_K} {pc : Nat} (hX : pz_X X cc nL own) (hd : decode cc pc = .ok (.pop, 1)) (hk : ∀ lv st g c s, K (pc + 1) lv st g c s → pz_Z X nL (pc + 1) lv st g c s) : ∀ lv st g c s, zo_pop K pc lv st g c s → pz_Z X nL pc lv st g c s := by
  obtain ⟨p, l, e, R, s, m, args, below, meth, c, Q, D, cy, A, En⟩ := X
  obtain ⟨hx, hb, hml, hown, hts, hK, hA, hOk, hEn⟩ := hX
  intro lv st g c0 s0 h ls H locs hl hP hS
  unfold zo_pop at h
  split at h
  · rename_i v r
    obtain ⟨h0, h⟩ := h
    exact lv_pop hx hb hd (pz_cat1 h0) (hk _ _ _ _ _ h ls H locs hl hP hS)
  · exact h.elim
def zo_dup (K : pz_K) : pz_K := fun pc lv st g c s => match st with
  | v :: r => pz_2 v = false ∧ K (pc + 1) lv (v :: v :: r) g c s
  | _ => False
theorem zs_dup {X : pz_C} {cc : ByteArray} {nL : Nat} {own : String} {K : pz_K} {pc : Nat} (hX : pz_X X cc nL own) (hd : decode cc pc = .ok (.dup, 1)) (hk : ∀ lv st g c s, K (pc + 1) lv st g c s → pz_Z X nL (pc + 1) lv st g c s) : ∀ lv st g c s, zo_dup K pc lv st g c s → pz_Z X nL pc lv st g c s := by
  obtain ⟨p, l, e, R, s, m, args, below, meth, c, Q, D, cy, A, En⟩ := X
  obtain ⟨hx, hb, hml, hown, hts, hK, hA, hOk, hEn⟩ := hX
  intro lv st g c0 s0 h ls H locs hl hP hS
  unfold zo_dup at h
  split at h
  · rename_i v r
    obtain ⟨h0, h⟩ := h
    exact lv_dup hx hb hd (pz_cat1 h0) (hk _ _ _ _ _ h ls H locs hl hP hS)
  · exact h.elim
def zo_dup2 (K : pz_K) : pz_K := fun pc lv st g c s => match st with
  | v :: u :: r => pz_2 v = false ∧ pz_2 u = false ∧ K (pc + 1) lv (v :: u :: v :: u :: r) g c s
  | _ => False
theorem zs_dup2 {X : pz_C} {cc : ByteArray} {nL : Nat} {own : String} {K : pz_K} {pc : Nat} (hX : pz_X X cc nL own) (hd : decode cc pc = .ok (.dup2, 1)) (hk : ∀ lv st g c s, K (pc + 1) lv st g c s → pz_Z X nL (pc + 1) lv st g c s) : ∀ lv st g c s, zo_dup2 K pc lv st g c s → pz_Z X nL pc lv st g c s := by
  obtain ⟨p, l, e, R, s, m, args, below, meth, c, Q, D, cy, A, En⟩ := X
  obtain ⟨hx, hb, hml, hown, hts, hK, hA, hOk, hEn⟩ := hX
  intro lv st g c0 s0 h ls H locs hl hP hS
  unfold zo_dup2 at h
  split at h
  · rename_i v u r
    obtain ⟨h0, h1, h⟩ := h
    exact lv_dup2_11 hx hb hd (pz_cat1 h0) (pz_cat1 h1) (hk _ _ _ _ _ h ls H locs hl hP hS)
  · exact h.elim
def zo_if_eq (t : Nat) (K : pz_K) : pz_K := fun pc lv st g c s => match st with
  | .inl x :: r => (x = 0 → K t lv r g c s) ∧ (¬ x = 0 → K (pc + 3) lv r g c s)
  | _ => False
theorem zs_if_eq {X : pz_C} {cc : ByteArray} {nL : Nat} {own : String} {K : pz_K} {pc : Nat} (hX : pz_X X cc nL own) {off : Int} {t : Nat} (hd : decode cc pc = .ok (.ifCond .eq off, 3)) (ht : (pc : Int) + off = (t : Int)) (hk : ∀ pc lv st g c s, K pc lv st g c s → pz_Z X nL pc lv st g c s) : ∀ lv st g c s, zo_if_eq t K pc lv st g c s → pz_Z X nL pc lv st g c s := by
  obtain ⟨p, l, e, R, s, m, args, below, meth, c, Q, D, cy, A, En⟩ := X
  obtain ⟨hx, hb, hml, hown, hts, hK, hA, hOk, hEn⟩ := hX
  intro lv st g c0 s0 h ls H locs hl hP hS
  unfold zo_if_eq at h
  split at h
  · rename_i x r
    exact lv_if_eq hx hb hd ht (fun q => hk _ _ _ _ _ _ (h.1 q) ls H locs hl hP hS) (fun q => hk _ _ _ _ _ _ (h.2 q) ls H locs hl hP hS)
  · exact h.elim
def zo_if_ne (t : Nat) (K : pz_K) : pz_K := fun pc lv st g c s => match st with
  | .inl x :: r => (¬ x = 0 → K t lv r g c s) ∧ (x = 0 → K (pc + 3) lv r g c s)
  | _ => False
theorem zs_if_ne {X : pz_C} {cc : ByteArray} {nL : Nat} {own : String} {K : pz_K} {pc : Nat} (hX : pz_X X cc nL own) {off : Int} {t : Nat} (hd : decode cc pc = .ok (.ifCond .ne off, 3)) (ht : (pc : Int) + off = (t : Int)) (hk : ∀ pc lv st g c s, K pc lv st g c s → pz_Z X nL pc lv st g c s) : ∀ lv st g c s, zo_if_ne t K pc lv st g c s → pz_Z X nL pc lv st g c s := by
  obtain ⟨p, l, e, R, s, m, args, below, meth, c, Q, D, cy, A, En⟩ := X
  obtain ⟨hx, hb, hml, hown, hts, hK, hA, hOk, hEn⟩ := hX
  intro lv st g c0 s0 h ls H locs hl hP hS
  unfold zo_if_ne at h
  split at h
  · rename_i x r
    exact lv_if_ne hx hb hd ht (fun q => hk _ _ _ _ _ _ (h.1 q) ls H locs hl hP hS) (fun q => hk _ _ _ _ _ _ (h.2 q) ls H locs hl hP hS)
  · exact h.elim
def zo_if_lt (t : Nat) (K : pz_K) : pz_K := fun pc lv st g c s => match st with
  | .inl x :: r => (x < 0 → K t lv r g c s) ∧ (¬ x < 0 → K (pc + 3) lv r g c s)
  | _ => False
theorem zs_if_lt {X : pz_C} {cc : ByteArray} {nL : Nat} {own : String} {K : pz_K} {pc : Nat} (hX : pz_X X cc nL own) {off : Int} {t : Nat} (hd : decode cc pc = .ok (.ifCond .lt off, 3)) (ht : (pc : Int) + off = (t : Int)) (hk : ∀ pc lv st g c s, K pc lv st g c s → pz_Z X nL pc lv st g c s) : ∀ lv st g c s, zo_if_lt t K pc lv st g c s → pz_Z X nL pc lv st g c s := by
  obtain ⟨p, l, e, R, s, m, args, below, meth, c, Q, D, cy, A, En⟩ := X
  obtain ⟨hx, hb, hml, hown, hts, hK, hA, hOk, hEn⟩ := hX
  intro lv st g c0 s0 h ls H locs hl hP hS
  unfold zo_if_lt at h
  split at h
  · rename_i x r
    exact lv_if_lt hx hb hd ht (fun q => hk _ _ _ _ _ _ (h.1 q) ls H locs hl hP hS) (fun q => hk _ _ _ _ _ _ (h.2 q) ls H locs hl hP hS)
  · exact h.elim
def zo_if_ge (t : Nat) (K : pz_K) : pz_K := fun pc lv st g c s => match st with
  | .inl x :: r => (0 ≤ x → K t lv r g c s) ∧ (¬ 0 ≤ x → K (pc + 3) lv r g c s)
  | _ => False
theorem zs_if_ge {X : pz_C} {cc : ByteArray} {nL : Nat} {own : String} {K : pz_K} {pc : Nat} (hX : pz_X X cc nL own) {off : Int} {t : Nat} (hd : decode cc pc = .ok (.ifCond .ge off, 3)) (ht : (pc : Int) + off = (t : Int)) (hk : ∀ pc lv st g c s, K pc lv st g c s → pz_Z X nL pc lv st g c s) : ∀ lv st g c s, zo_if_ge t K pc lv st g c s → pz_Z X nL pc lv st g c s := by
  obtain ⟨p, l, e, R, s, m, args, below, meth, c, Q, D, cy, A, En⟩ := X
  obtain ⟨hx, hb, hml, hown, hts, hK, hA, hOk, hEn⟩ := hX
  intro lv st g c0 s0 h ls H locs hl hP hS
  unfold zo_if_ge at h
  split at h
  · rename_i x r
    exact lv_if_ge hx hb hd ht (fun q => hk _ _ _ _ _ _ (h.1 q) ls H locs hl hP hS) (fun q => hk _ _ _ _ _ _ (h.2 q) ls H locs hl hP hS)
  · exact h.elim
def zo_if_gt (t : Nat) (K : pz_K) : pz_K := fun pc lv st g c s => match st with
  | .inl x :: r => (0 < x → K t lv r g c s) ∧ (¬ 0 < x → K (pc + 3) lv r g c s)
  | _ => False
theorem zs_if_gt {X : pz_C} {cc : ByteArray} {nL : Nat} {own : String} {K : pz_K} {pc : Nat} (hX : pz_X X cc nL own) {off : Int} {t : Nat} (hd : decode cc pc = .ok (.ifCond .gt off, 3)) (ht : (pc : Int) + off = (t : Int)) (hk : ∀ pc lv st g c s, K pc lv st g c s → pz_Z X nL pc lv st g c s) : ∀ lv st g c s, zo_if_gt t K pc lv st g c s → pz_Z X nL pc lv st g c s := by
  obtain ⟨p, l, e, R, s, m, args, below, meth, c, Q, D, cy, A, En⟩ := X
  obtain ⟨hx, hb, hml, hown, hts, hK, hA, hOk, hEn⟩ := hX
  intro lv st g c0 s0 h ls H locs hl hP hS
  unfold zo_if_gt at h
  split at h
  · rename_i x r
    exact lv_if_gt hx hb hd ht (fun q => hk _ _ _ _ _ _ (h.1 q) ls H locs hl hP hS) (fun q => hk _ _ _ _ _ _ (h.2 q) ls H locs hl hP hS)
  · exact h.elim
def zo_if_le (t : Nat) (K : pz_K) : pz_K := fun pc lv st g c s => match st with
  | .inl x :: r => (x ≤ 0 → K t lv r g c s) ∧ (¬ x ≤ 0 → K (pc + 3) lv r g c s)
  | _ => False
theorem zs_if_le {X : pz_C} {cc : ByteArray} {nL : Nat} {own : String} {K : pz_K} {pc : Nat} (hX : pz_X X cc nL own) {off : Int} {t : Nat} (hd : decode cc pc = .ok (.ifCond .le off, 3)) (ht : (pc : Int) + off = (t : Int)) (hk : ∀ pc lv st g c s, K pc lv st g c s → pz_Z X nL pc lv st g c s) : ∀ lv st g c s, zo_if_le t K pc lv st g c s → pz_Z X nL pc lv st g c s := by
  obtain ⟨p, l, e, R, s, m, args, below, meth, c, Q, D, cy, A, En⟩ := X
  obtain ⟨hx, hb, hml, hown, hts, hK, hA, hOk, hEn⟩ := hX
  intro lv st g c0 s0 h ls H locs hl hP hS
  unfold zo_if_le at h
  split at h
  · rename_i x r
    exact lv_if_le hx hb hd ht (fun q => hk _ _ _ _ _ _ (h.1 q) ls H locs hl hP hS) (fun q => hk _ _ _ _ _ _ (h.2 q) ls H locs hl hP hS)
  · exact h.elim
def zo_ic_eq (t : Nat) (K : pz_K) : pz_K := fun pc lv st g c s => match st with
  | .inl y :: .inl x :: r => (x = y → K t lv r g c s) ∧ (¬ x = y → K (pc + 3) lv r g c s)
  | _ => False
theorem zs_ic_eq {X : pz_C} {cc : ByteArray} {nL : Nat} {own : String} {K : pz_K} {pc : Nat} (hX : pz_X X cc nL own) {off : Int} {t : Nat} (hd : decode cc pc = .ok (.if_icmp .eq off, 3)) (ht : (pc : Int) + off = (t : Int)) (hk : ∀ pc lv st g c s, K pc lv st g c s → pz_Z X nL pc lv st g c s) : ∀ lv st g c s, zo_ic_eq t K pc lv st g c s → pz_Z X nL pc lv st g c s := by
  obtain ⟨p, l, e, R, s, m, args, below, meth, c, Q, D, cy, A, En⟩ := X
  obtain ⟨hx, hb, hml, hown, hts, hK, hA, hOk, hEn⟩ := hX
  intro lv st g c0 s0 h ls H locs hl hP hS
  unfold zo_ic_eq at h
  split at h
  · rename_i y x r
    exact lv_icmp_eq hx hb hd ht (fun q => hk _ _ _ _ _ _ (h.1 q) ls H locs hl hP hS) (fun q => hk _ _ _ _ _ _ (h.2 q) ls H locs hl hP hS)
  · exact h.elim
def zo_ic_ne (t : Nat) (K : pz_K) : pz_K := fun pc lv st g c s => match st with
  | .inl y :: .inl x :: r => (¬ x = y → K t lv r g c s) ∧ (x = y → K (pc + 3) lv r g c s)
  | _ => False
theorem zs_ic_ne {X : pz_C} {cc : ByteArray} {nL : Nat} {own : String} {K : pz_K} {pc : Nat} (hX : pz_X X cc nL own) {off : Int} {t : Nat} (hd : decode cc pc = .ok (.if_icmp .ne off, 3)) (ht : (pc : Int) + off = (t : Int)) (hk : ∀ pc lv st g c s, K pc lv st g c s → pz_Z X nL pc lv st g c s) : ∀ lv st g c s, zo_ic_ne t K pc lv st g c s → pz_Z X nL pc lv st g c s := by
  obtain ⟨p, l, e, R, s, m, args, below, meth, c, Q, D, cy, A, En⟩ := X
  obtain ⟨hx, hb, hml, hown, hts, hK, hA, hOk, hEn⟩ := hX
  intro lv st g c0 s0 h ls H locs hl hP hS
  unfold zo_ic_ne at h
  split at h
  · rename_i y x r
    exact lv_icmp_ne hx hb hd ht (fun q => hk _ _ _ _ _ _ (h.1 q) ls H locs hl hP hS) (fun q => hk _ _ _ _ _ _ (h.2 q) ls H locs hl hP hS)
  · exact h.elim
def zo_ic_lt (t : Nat) (K : pz_K) : pz_K := fun pc lv st g c s => match st with
  | .inl y :: .inl x :: r => (x < y → K t lv r g c s) ∧ (¬ x < y → K (pc + 3) lv r g c s)
  | _ => False
theorem zs_ic_lt {X : pz_C} {cc : ByteArray} {nL : Nat} {own : String} {K : pz_K} {pc : Nat} (hX : pz_X X cc nL own) {off : Int} {t : Nat} (hd : decode cc pc = .ok (.if_icmp .lt off, 3)) (ht : (pc : Int) + off = (t : Int)) (hk : ∀ pc lv st g c s, K pc lv st g c s → pz_Z X nL pc lv st g c s) : ∀ lv st g c s, zo_ic_lt t K pc lv st g c s → pz_Z X nL pc lv st g c s := by
  obtain ⟨p, l, e, R, s, m, args, below, meth, c, Q, D, cy, A, En⟩ := X
  obtain ⟨hx, hb, hml, hown, hts, hK, hA, hOk, hEn⟩ := hX
  intro lv st g c0 s0 h ls H locs hl hP hS
  unfold zo_ic_lt at h
  split at h
  · rename_i y x r
    exact lv_icmp_lt hx hb hd ht (fun q => hk _ _ _ _ _ _ (h.1 q) ls H locs hl hP hS) (fun q => hk _ _ _ _ _ _ (h.2 q) ls H locs hl hP hS)
  · exact h.elim
def zo_ic_ge (t : Nat) (K : pz_K) : pz_K := fun pc lv st g c s => match st with
  | .inl y :: .inl x :: r => (y ≤ x → K t lv r g c s) ∧ (¬ y ≤ x → K (pc + 3) lv r g c s)
  | _ => False
theorem zs_ic_ge {X : pz_C} {cc : ByteArray} {nL : Nat} {own : String} {K : pz_K} {pc : Nat} (hX : pz_X X cc nL own) {off : Int} {t : Nat} (hd : decode cc pc = .ok (.if_icmp .ge off, 3)) (ht : (pc : Int) + off = (t : Int)) (hk : ∀ pc lv st g c s, K pc lv st g c s → pz_Z X nL pc lv st g c s) : ∀ lv st g c s, zo_ic_ge t K pc lv st g c s → pz_Z X nL pc lv st g c s := by
  obtain ⟨p, l, e, R, s, m, args, below, meth, c, Q, D, cy, A, En⟩ := X
  obtain ⟨hx, hb, hml, hown, hts, hK, hA, hOk, hEn⟩ := hX
  intro lv st g c0 s0 h ls H locs hl hP hS
  unfold zo_ic_ge at h
  split at h
  · rename_i y x r
    exact lv_icmp_ge hx hb hd ht (fun q => hk _ _ _ _ _ _ (h.1 q) ls H locs hl hP hS) (fun q => hk _ _ _ _ _ _ (h.2 q) ls H locs hl hP hS)
  · exact h.elim
def zo_ic_gt (t : Nat) (K : pz_K) : pz_K := fun pc lv st g c s => match st with
  | .inl y :: .inl x :: r => (y < x → K t lv r g c s) ∧ (¬ y < x → K (pc + 3) lv r g c s)
  | _ => False
theorem zs_ic_gt {X : pz_C} {cc : ByteArray} {nL : Nat} {own : String} {K : pz_K} {pc : Nat} (hX : pz_X X cc nL own) {off : Int} {t : Nat} (hd : decode cc pc = .ok (.if_icmp .gt off, 3)) (ht : (pc : Int) + off = (t : Int)) (hk : ∀ pc lv st g c s, K pc lv st g c s → pz_Z X nL pc lv st g c s) : ∀ lv st g c s, zo_ic_gt t K pc lv st g c s → pz_Z X nL pc lv st g c s := by
  obtain ⟨p, l, e, R, s, m, args, below, meth, c, Q, D, cy, A, En⟩ := X
  obtain ⟨hx, hb, hml, hown, hts, hK, hA, hOk, hEn⟩ := hX
  intro lv st g c0 s0 h ls H locs hl hP hS
  unfold zo_ic_gt at h
  split at h
  · rename_i y x r
    exact lv_icmp_gt hx hb hd ht (fun q => hk _ _ _ _ _ _ (h.1 q) ls H locs hl hP hS) (fun q => hk _ _ _ _ _ _ (h.2 q) ls H locs hl hP hS)
  · exact h.elim
def zo_ic_le (t : Nat) (K : pz_K) : pz_K := fun pc lv st g c s => match st with
  | .inl y :: .inl x :: r => (x ≤ y → K t lv r g c s) ∧ (¬ x ≤ y → K (pc + 3) lv r g c s)
  | _ => False
theorem zs_ic_le {X : pz_C} {cc : ByteArray} {nL : Nat} {own : String} {K : pz_K} {pc : Nat} (hX : pz_X X cc nL own) {off : Int} {t : Nat} (hd : decode cc pc = .ok (.if_icmp .le off, 3)) (ht : (pc : Int) + off = (t : Int)) (hk : ∀ pc lv st g c s, K pc lv st g c s → pz_Z X nL pc lv st g c s) : ∀ lv st g c s, zo_ic_le t K pc lv st g c s → pz_Z X nL pc lv st g c s := by
  obtain ⟨p, l, e, R, s, m, args, below, meth, c, Q, D, cy, A, En⟩ := X
  obtain ⟨hx, hb, hml, hown, hts, hK, hA, hOk, hEn⟩ := hX
  intro lv st g c0 s0 h ls H locs hl hP hS
  unfold zo_ic_le at h
  split at h
  · rename_i y x r
    exact lv_icmp_le hx hb hd ht (fun q => hk _ _ _ _ _ _ (h.1 q) ls H locs hl hP hS) (fun q => hk _ _ _ _ _ _ (h.2 q) ls H locs hl hP hS)
  · exact h.elim
def zo_goto (t : Nat) (K : pz_K) : pz_K := fun pc lv st g c s => K t lv st g c s
theorem zs_goto {X : pz_C} {cc : ByteArray} {nL : Nat} {own : String} {K : pz_K} {pc : Nat} (hX : pz_X X cc nL own) {off : Int} {t : Nat} (hd : decode cc pc = .ok (.goto off, 3)) (ht : (pc : Int) + off = (t : Int)) (hk : ∀ pc lv st g c s, K pc lv st g c s → pz_Z X nL pc lv st g c s) : ∀ lv st g c s, zo_goto t K pc lv st g c s → pz_Z X nL pc lv st g c s := by
  obtain ⟨p, l, e, R, s, m, args, below, meth, c, Q, D, cy, A, En⟩ := X
  obtain ⟨hx, hb, hml, hown, hts, hK, hA, hOk, hEn⟩ := hX
  intro lv st g c0 s0 h ls H locs hl hP hS
  exact lv_goto hx hb hd ht (hk _ _ _ _ _ _ h ls H locs hl hP hS)
def zo_ifnull (t : Nat) (K : pz_K) : pz_K := fun pc lv st g c s => match st with
  | .inr (.inr x) :: r => (x = none → K t lv r g c s) ∧ (∀ a, x = some a → K (pc + 3) lv r g c s)
  | _ => False
theorem zs_ifnull {X : pz_C} {cc : ByteArray} {nL : Nat} {own : String} {K : pz_K} {pc : Nat} (hX : pz_X X cc nL own) {off : Int} {t : Nat} (hd : decode cc pc = .ok (.ifnull off, 3)) (ht : (pc : Int) + off = (t : Int)) (hk : ∀ pc lv st g c s, K pc lv st g c s → pz_Z X nL pc lv st g c s) : ∀ lv st g c s, zo_ifnull t K pc lv st g c s → pz_Z X nL pc lv st g c s := by
  obtain ⟨p, l, e, R, s, m, args, below, meth, c, Q, D, cy, A, En⟩ := X
  obtain ⟨hx, hb, hml, hown, hts, hK, hA, hOk, hEn⟩ := hX
  intro lv st g c0 s0 h ls H locs hl hP hS
  unfold zo_ifnull at h
  split at h
  · rename_i x r
    cases x with
    | none => exact lv_ifnullN hx hb hd ht (hk _ _ _ _ _ _ (h.1 rfl) ls H locs hl hP hS)
    | some a => exact lv_ifnull hx hb hd (hk _ _ _ _ _ _ (h.2 a rfl) ls H locs hl hP hS)
  · exact h.elim
def zo_ifnonnull (t : Nat) (K : pz_K) : pz_K := fun pc lv st g c s => match st with
  | .inr (.inr x) :: r => (∀ a, x = some a → K t lv r g c s) ∧ (x = none → K (pc + 3) lv r g c s)
  | _ => False
theorem zs_ifnonnull {X : pz_C} {cc : ByteArray} {nL : Nat} {own : String} {K : pz_K} {pc : Nat} (hX : pz_X X cc nL own) {off : Int} {t : Nat} (hd : decode cc pc = .ok (.ifnonnull off, 3)) (ht : (pc : Int) + off = (t : Int)) (hk : ∀ pc lv st g c s, K pc lv st g c s → pz_Z X nL pc lv st g c s) : ∀ lv st g c s, zo_ifnonnull t K pc lv st g c s → pz_Z X nL pc lv st g c s := by
  obtain ⟨p, l, e, R, s, m, args, below, meth, c, Q, D, cy, A, En⟩ := X
  obtain ⟨hx, hb, hml, hown, hts, hK, hA, hOk, hEn⟩ := hX
  intro lv st g c0 s0 h ls H locs hl hP hS
  unfold zo_ifnonnull at h
  split at h
  · rename_i x r
    cases x with
    | none => exact lv_ifnonnullN hx hb hd (hk _ _ _ _ _ _ (h.2 rfl) ls H locs hl hP hS)
    | some a => exact lv_ifnonnull hx hb hd ht (hk _ _ _ _ _ _ (h.1 a rfl) ls H locs hl hP hS)
  · exact h.elim
end
section
def pz_N (X : pz_C) : Prop := match X with
  | (_, _, _, _, _, _, _, _, meth, _) => meth.name = "<init>"
def pz_rm (X : pz_C) : Room := X.2.2.2.1
theorem pz_tyIx {cy : Nat → ClassId} {t : Nat} (h : t < 7) : ∃ ty, (pz_ty cy)[t]? = some (cy t, ty) := by
  match t, h with
  | 0, _ => exact ⟨_, rfl⟩
  | 1, _ => exact ⟨_, rfl⟩
  | 2, _ => exact ⟨_, rfl⟩
  | 3, _ => exact ⟨_, rfl⟩
  | 4, _ => exact ⟨_, rfl⟩
  | 5, _ => exact ⟨_, rfl⟩
  | 6, _ => exact ⟨_, rfl⟩
theorem pz_mset (fs : List pz_V) (k : Nat) (v : pz_V) : (fs.map pz_v).set k (pz_v v) = (fs.set k v).map pz_v := by simp
theorem pz_nref {ty : FieldType} (h : ty.isReference = true) (q : Option Nat) : narrow ty (va_rf q) = va_rf q ∧ fits ty (va_rf q) = true := by
  cases ty <;> first | (cases h; done) | (cases q <;> exact ⟨rfl, rfl⟩)
def zo_get (ci k : Nat) (K : pz_K) : pz_K := fun pc lv st g c s => match st with
  | .inr (.inr (some a)) :: r => ∃ (b : List Nat) (fs : List pz_V) (v : pz_V), g a = some (b, .inr (ci, fs)) ∧ fs[k]? = some v ∧ K (pc + 3) lv (v :: r) g c s
  | _ => False
theorem zs_get {X : pz_C} {cc : ByteArray} {nL : Nat} {own : String} {K : pz_K} {pc : Nat} (hX : pz_X X cc nL own) {C : String} {T : u_T} {N ci k ix : Nat} (hc : vwCl[ci]? = some (C, T, N)) (hin : ∀ w ∈ u_ws C T N, w ∈ pz_W) (hkN : k < N) (hw : Cond.fieldLink own ix (T k).1 (T k).2.1 (T k).2.2.1 ∈ pz_W) (hd : decode cc pc = .ok (.getfield ix, 3)) (hk : ∀ lv st g c s, K (pc + 3) lv st g c s → pz_Z X nL (pc + 3) lv st g c s) : ∀ lv st g c s, zo_get ci k K pc lv st g c s → pz_Z X nL pc lv st g c s := by
  obtain ⟨p, l, e, R, s, m, args, below, meth, c, Q, D, cy, A, En⟩ := X
  obtain ⟨hx, hb, hml, hown, hts, hK, hA, hOk, hEn⟩ := hX
  intro lv st g c0 s0 h ls H locs hl hP hS
  unfold zo_get at h
  split at h
  · rename_i a r
    obtain ⟨b, fs, v, ha, hv, h⟩ := h
    obtain ⟨L, hL, hPP, hD⟩ := id hP
    obtain ⟨-, -, k0, hk0⟩ := pz_at (cy := cy) hL ha
    exact va_get (D := D) (v := pz_v v) hx hb hts hin hown hK hPP k0 hk0 hc k hkN (hts _ hw) (fun _ h9 => h9) (by rw [List.getElem?_map, hv]; rfl) hd (hk _ _ _ _ _ h ls H locs hl hP hS)
  · exact h.elim
def zo_puti (ci k : Nat) (K : pz_K) : pz_K := fun pc lv st g c s => match st with
  | .inl x :: .inr (.inr (some a)) :: r => ∃ (b : List Nat) (fs : List pz_V), g a = some (b, .inr (ci, fs)) ∧ k < fs.length ∧ K (pc + 3) lv r (va_up g a (some (b, .inr (ci, fs.set k (.inl x))))) c s
  | _ => False
theorem zs_puti {X : pz_C} {cc : ByteArray} {nL : Nat} {own : String} {K : pz_K} {pc : Nat} (hX : pz_X X cc nL own) {C : String} {T : u_T} {N ci k ix : Nat} (hc : vwCl[ci]? = some (C, T, N)) (hin : ∀ w ∈ u_ws C T N, w ∈ pz_W) (hkN : k < N) (hw : Cond.fieldLink own ix (T k).1 (T k).2.1 (T k).2.2.1 ∈ pz_W) (ty0 : Nat → FieldType) (hty : ∀ k, k < N → parseFieldDescriptor (T k).2.2.1 = some (ty0 k)) (hnm : ∀ a, a < N → ∀ b, b < N → a ≠ b → (T a).2.1 ≠ (T b).2.1) (hfd : parseFieldDescriptor (T k).2.2.1 = some .int) (hfin : (T k).2.2.2 = false) (hd : decode cc pc = .ok (.putfield ix, 3)) (hk : ∀ lv st g c s, K (pc + 3) lv st g c s → pz_Z X nL (pc + 3) lv st g c s) : ∀ lv st g c s, zo_puti ci k K pc lv st g c s → pz_Z X nL pc lv st g c s := by
  obtain ⟨p, l, e, R, s, m, args, below, meth, c, Q, D, cy, A, En⟩ := X
  obtain ⟨hx, hb, hml, hown, hts, hK, hA, hOk, hEn⟩ := hX
  intro lv st g c0 s0 h ls H locs hl hP hS
  unfold zo_puti at h
  split at h
  · rename_i x a r
    obtain ⟨b, fs, ha, hkl, h⟩ := h
    obtain ⟨L, hL, hPP, hD⟩ := id hP
    obtain ⟨-, -, k0, hk0⟩ := pz_at (cy := cy) hL ha
    refine va_put (D := D) (v := pz_v (.inl x)) (ty := .int) hx hb hts hin ty0 hty hnm hown hK hPP hD hS k0 hk0 hc k hkN (hts _ hw) (fun _ h9 => h9) hfin hfd rfl rfl (by rw [List.length_map]; exact hkl) hd (fun H1 locs1 hP1 hD1 hS1 => ?_)
    rw [pz_mset] at hP1 hD1
    exact hk _ _ _ _ _ h ls H1 locs1 hl (pz_set (e := .inr (ci, fs.set k (.inl x))) hL hD ha hk0 hP1 hD1) hS1
  · exact h.elim
theorem zs_putiF {X : pz_C} {cc : ByteArray} {nL : Nat} {own : String} {K : pz_K} {pc : Nat} (hX : pz_X X cc nL own) {C : String} {T : u_T} {N ci k ix : Nat} (hc : vwCl[ci]? = some (C, T, N)) (hin : ∀ w ∈ u_ws C T N, w ∈ pz_W) (hkN : k < N) (hw : Cond.fieldLink own ix (T k).1 (T k).2.1 (T k).2.2.1 ∈ pz_W) (ty0 : Nat → FieldType) (hty : ∀ k, k < N → parseFieldDescriptor (T k).2.2.1 = some (ty0 k)) (hnm : ∀ a, a < N → ∀ b, b < N → a ≠ b → (T a).2.1 ≠ (T b).2.1) (hfd : parseFieldDescriptor (T k).2.2.1 = some .int) (hfin : (T k).2.2.2 = true) (hN : pz_N X) (hdc : (T k).1 = own) (hd : decode cc pc = .ok (.putfield ix, 3)) (hk : ∀ lv st g c s, K (pc + 3) lv st g c s → pz_Z X nL (pc + 3) lv st g c s) : ∀ lv st g c s, zo_puti ci k K pc lv st g c s → pz_Z X nL pc lv st g c s := by
  obtain ⟨p, l, e, R, s, m, args, below, meth, c, Q, D, cy, A, En⟩ := X
  obtain ⟨hx, hb, hml, hown, hts, hK, hA, hOk, hEn⟩ := hX
  intro lv st g c0 s0 h ls H locs hl hP hS
  unfold zo_puti at h
  split at h
  · rename_i x a r
    obtain ⟨b, fs, ha, hkl, h⟩ := h
    obtain ⟨L, hL, hPP, hD⟩ := id hP
    obtain ⟨-, -, k0, hk0⟩ := pz_at (cy := cy) hL ha
    refine va_putF (D := D) (v := pz_v (.inl x)) (ty := .int) hx hb hts hin ty0 hty hnm hown hK hPP hD hS k0 hk0 hc k hkN (hts _ hw) (fun _ h9 => h9) hfin hN hdc hfd rfl rfl (by rw [List.length_map]; exact hkl) hd (fun H1 locs1 hP1 hD1 hS1 => ?_)
    rw [pz_mset] at hP1 hD1
    exact hk _ _ _ _ _ h ls H1 locs1 hl (pz_set (e := .inr (ci, fs.set k (.inl x))) hL hD ha hk0 hP1 hD1) hS1
  · exact h.elim
def zo_putz (ci k : Nat) (K : pz_K) : pz_K := fun pc lv st g c s => match st with
  | .inl x :: .inr (.inr (some a)) :: r => (x = 0 ∨ x = 1) ∧ ∃ (b : List Nat) (fs : List pz_V), g a = some (b, .inr (ci, fs)) ∧ k < fs.length ∧ K (pc + 3) lv r (va_up g a (some (b, .inr (ci, fs.set k (.inl x))))) c s
  | _ => False
theorem zs_putz {X : pz_C} {cc : ByteArray} {nL : Nat} {own : String} {K : pz_K} {pc : Nat} (hX : pz_X X cc nL own) {C : String} {T : u_T} {N ci k ix : Nat} (hc : vwCl[ci]? = some (C, T, N)) (hin : ∀ w ∈ u_ws C T N, w ∈ pz_W) (hkN : k < N) (hw : Cond.fieldLink own ix (T k).1 (T k).2.1 (T k).2.2.1 ∈ pz_W) (ty0 : Nat → FieldType) (hty : ∀ k, k < N → parseFieldDescriptor (T k).2.2.1 = some (ty0 k)) (hnm : ∀ a, a < N → ∀ b, b < N → a ≠ b → (T a).2.1 ≠ (T b).2.1) (hfd : parseFieldDescriptor (T k).2.2.1 = some .boolean) (hfin : (T k).2.2.2 = false) (hd : decode cc pc = .ok (.putfield ix, 3)) (hk : ∀ lv st g c s, K (pc + 3) lv st g c s → pz_Z X nL (pc + 3) lv st g c s) : ∀ lv st g c s, zo_putz ci k K pc lv st g c s → pz_Z X nL pc lv st g c s := by
  obtain ⟨p, l, e, R, s, m, args, below, meth, c, Q, D, cy, A, En⟩ := X
  obtain ⟨hx, hb, hml, hown, hts, hK, hA, hOk, hEn⟩ := hX
  intro lv st g c0 s0 h ls H locs hl hP hS
  unfold zo_putz at h
  split at h
  · rename_i x a r
    obtain ⟨hz, b, fs, ha, hkl, h⟩ := h
    obtain ⟨L, hL, hPP, hD⟩ := id hP
    obtain ⟨-, -, k0, hk0⟩ := pz_at (cy := cy) hL ha
    refine va_put (D := D) (v := pz_v (.inl x)) (ty := .boolean) hx hb hts hin ty0 hty hnm hown hK hPP hD hS k0 hk0 hc k hkN (hts _ hw) (fun _ h9 => h9) hfin hfd (by rcases hz with rfl | rfl <;> rfl) (by rcases hz with rfl | rfl <;> rfl) (by rw [List.length_map]; exact hkl) hd (fun H1 locs1 hP1 hD1 hS1 => ?_)
    rw [pz_mset] at hP1 hD1
    exact hk _ _ _ _ _ h ls H1 locs1 hl (pz_set (e := .inr (ci, fs.set k (.inl x))) hL hD ha hk0 hP1 hD1) hS1
  · exact h.elim
theorem zs_putzF {X : pz_C} {cc : ByteArray} {nL : Nat} {own : String} {K : pz_K} {pc : Nat} (hX : pz_X X cc nL own) {C : String} {T : u_T} {N ci k ix : Nat} (hc : vwCl[ci]? = some (C, T, N)) (hin : ∀ w ∈ u_ws C T N, w ∈ pz_W) (hkN : k < N) (hw : Cond.fieldLink own ix (T k).1 (T k).2.1 (T k).2.2.1 ∈ pz_W) (ty0 : Nat → FieldType) (hty : ∀ k, k < N → parseFieldDescriptor (T k).2.2.1 = some (ty0 k)) (hnm : ∀ a, a < N → ∀ b, b < N → a ≠ b → (T a).2.1 ≠ (T b).2.1) (hfd : parseFieldDescriptor (T k).2.2.1 = some .boolean) (hfin : (T k).2.2.2 = true) (hN : pz_N X) (hdc : (T k).1 = own) (hd : decode cc pc = .ok (.putfield ix, 3)) (hk : ∀ lv st g c s, K (pc + 3) lv st g c s → pz_Z X nL (pc + 3) lv st g c s) : ∀ lv st g c s, zo_putz ci k K pc lv st g c s → pz_Z X nL pc lv st g c s := by
  obtain ⟨p, l, e, R, s, m, args, below, meth, c, Q, D, cy, A, En⟩ := X
  obtain ⟨hx, hb, hml, hown, hts, hK, hA, hOk, hEn⟩ := hX
  intro lv st g c0 s0 h ls H locs hl hP hS
  unfold zo_putz at h
  split at h
  · rename_i x a r
    obtain ⟨hz, b, fs, ha, hkl, h⟩ := h
    obtain ⟨L, hL, hPP, hD⟩ := id hP
    obtain ⟨-, -, k0, hk0⟩ := pz_at (cy := cy) hL ha
    refine va_putF (D := D) (v := pz_v (.inl x)) (ty := .boolean) hx hb hts hin ty0 hty hnm hown hK hPP hD hS k0 hk0 hc k hkN (hts _ hw) (fun _ h9 => h9) hfin hN hdc hfd (by rcases hz with rfl | rfl <;> rfl) (by rcases hz with rfl | rfl <;> rfl) (by rw [List.length_map]; exact hkl) hd (fun H1 locs1 hP1 hD1 hS1 => ?_)
    rw [pz_mset] at hP1 hD1
    exact hk _ _ _ _ _ h ls H1 locs1 hl (pz_set (e := .inr (ci, fs.set k (.inl x))) hL hD ha hk0 hP1 hD1) hS1
  · exact h.elim
def zo_putr (ci k : Nat) (K : pz_K) : pz_K := fun pc lv st g c s => match st with
  | .inr (.inr x) :: .inr (.inr (some a)) :: r => ∃ (b : List Nat) (fs : List pz_V), g a = some (b, .inr (ci, fs)) ∧ k < fs.length ∧ K (pc + 3) lv r (va_up g a (some (b, .inr (ci, fs.set k (.inr (.inr x)))))) c s
  | _ => False
theorem zs_putr {X : pz_C} {cc : ByteArray} {nL : Nat} {own : String} {K : pz_K} {pc : Nat} (hX : pz_X X cc nL own) {C : String} {T : u_T} {N ci k ix : Nat} (hc : vwCl[ci]? = some (C, T, N)) (hin : ∀ w ∈ u_ws C T N, w ∈ pz_W) (hkN : k < N) (hw : Cond.fieldLink own ix (T k).1 (T k).2.1 (T k).2.2.1 ∈ pz_W) (ty0 : Nat → FieldType) (hty : ∀ k, k < N → parseFieldDescriptor (T k).2.2.1 = some (ty0 k)) (hnm : ∀ a, a < N → ∀ b, b < N → a ≠ b → (T a).2.1 ≠ (T b).2.1) {ty : FieldType} (hfd : parseFieldDescriptor (T k).2.2.1 = some ty) (hrf : ty.isReference = true) (hfin : (T k).2.2.2 = false) (hd : decode cc pc = .ok (.putfield ix, 3)) (hk : ∀ lv st g c s, K (pc + 3) lv st g c s → pz_Z X nL (pc + 3) lv st g c s) : ∀ lv st g c s, zo_putr ci k K pc lv st g c s → pz_Z X nL pc lv st g c s := by
  obtain ⟨p, l, e, R, s, m, args, below, meth, c, Q, D, cy, A, En⟩ := X
  obtain ⟨hx, hb, hml, hown, hts, hK, hA, hOk, hEn⟩ := hX
  intro lv st g c0 s0 h ls H locs hl hP hS
  unfold zo_putr at h
  split at h
  · rename_i x a r
    obtain ⟨b, fs, ha, hkl, h⟩ := h
    obtain ⟨L, hL, hPP, hD⟩ := id hP
    obtain ⟨-, -, k0, hk0⟩ := pz_at (cy := cy) hL ha
    refine va_put (D := D) (v := pz_v (.inr (.inr x))) (ty := ty) hx hb hts hin ty0 hty hnm hown hK hPP hD hS k0 hk0 hc k hkN (hts _ hw) (fun _ h9 => h9) hfin hfd (pz_nref hrf x).1 (pz_nref hrf x).2 (by rw [List.length_map]; exact hkl) hd (fun H1 locs1 hP1 hD1 hS1 => ?_)
    rw [pz_mset] at hP1 hD1
    exact hk _ _ _ _ _ h ls H1 locs1 hl (pz_set (e := .inr (ci, fs.set k (.inr (.inr x)))) hL hD ha hk0 hP1 hD1) hS1
  · exact h.elim
theorem zs_putrF {X : pz_C} {cc : ByteArray} {nL : Nat} {own : String} {K : pz_K} {pc : Nat} (hX : pz_X X cc nL own) {C : String} {T : u_T} {N ci k ix : Nat} (hc : vwCl[ci]? = some (C, T, N)) (hin : ∀ w ∈ u_ws C T N, w ∈ pz_W) (hkN : k < N) (hw : Cond.fieldLink own ix (T k).1 (T k).2.1 (T k).2.2.1 ∈ pz_W) (ty0 : Nat → FieldType) (hty : ∀ k, k < N → parseFieldDescriptor (T k).2.2.1 = some (ty0 k)) (hnm : ∀ a, a < N → ∀ b, b < N → a ≠ b → (T a).2.1 ≠ (T b).2.1) {ty : FieldType} (hfd : parseFieldDescriptor (T k).2.2.1 = some ty) (hrf : ty.isReference = true) (hfin : (T k).2.2.2 = true) (hN : pz_N X) (hdc : (T k).1 = own) (hd : decode cc pc = .ok (.putfield ix, 3)) (hk : ∀ lv st g c s, K (pc + 3) lv st g c s → pz_Z X nL (pc + 3) lv st g c s) : ∀ lv st g c s, zo_putr ci k K pc lv st g c s → pz_Z X nL pc lv st g c s := by
  obtain ⟨p, l, e, R, s, m, args, below, meth, c, Q, D, cy, A, En⟩ := X
  obtain ⟨hx, hb, hml, hown, hts, hK, hA, hOk, hEn⟩ := hX
  intro lv st g c0 s0 h ls H locs hl hP hS
  unfold zo_putr at h
  split at h
  · rename_i x a r
    obtain ⟨b, fs, ha, hkl, h⟩ := h
    obtain ⟨L, hL, hPP, hD⟩ := id hP
    obtain ⟨-, -, k0, hk0⟩ := pz_at (cy := cy) hL ha
    refine va_putF (D := D) (v := pz_v (.inr (.inr x))) (ty := ty) hx hb hts hin ty0 hty hnm hown hK hPP hD hS k0 hk0 hc k hkN (hts _ hw) (fun _ h9 => h9) hfin hN hdc hfd (pz_nref hrf x).1 (pz_nref hrf x).2 (by rw [List.length_map]; exact hkl) hd (fun H1 locs1 hP1 hD1 hS1 => ?_)
    rw [pz_mset] at hP1 hD1
    exact hk _ _ _ _ _ h ls H1 locs1 hl (pz_set (e := .inr (ci, fs.set k (.inr (.inr x)))) hL hD ha hk0 hP1 hD1) hS1
  · exact h.elim
def zo_iald (K : pz_K) : pz_K := fun pc lv st g c s => match st with
  | .inl i :: .inr (.inr (some a)) :: r => ∃ (b : List Nat) (n : Nat) (f : Nat → Int32), g a = some (b, .inl (0, n, .inl f)) ∧ vp_in i n ∧ K (pc + 1) lv (.inl (f i.toNatClampNeg) :: r) g c s
  | _ => False
theorem zs_iald {X : pz_C} {cc : ByteArray} {nL : Nat} {own : String} {K : pz_K} {pc : Nat} (hX : pz_X X cc nL own) (hd : decode cc pc = .ok (.iaload, 1)) (hk : ∀ lv st g c s, K (pc + 1) lv st g c s → pz_Z X nL (pc + 1) lv st g c s) : ∀ lv st g c s, zo_iald K pc lv st g c s → pz_Z X nL pc lv st g c s := by
  obtain ⟨p, l, e, R, s, m, args, below, meth, c, Q, D, cy, A, En⟩ := X
  obtain ⟨hx, hb, hml, hown, hts, hK, hA, hOk, hEn⟩ := hX
  intro lv st g c0 s0 h ls H locs hl hP hS
  unfold zo_iald at h
  split at h
  · rename_i i a r
    obtain ⟨b, n, f, ha, hi, h⟩ := h
    obtain ⟨L, hL, hPP, hD⟩ := id hP
    obtain ⟨-, -, k0, hk0⟩ := pz_at (cy := cy) hL ha
    exact va_iald hx hb hK hPP k0 0 hk0 rfl hi hd (hk _ _ _ _ _ h ls H locs hl hP hS)
  · exact h.elim
def zo_zald (K : pz_K) : pz_K := fun pc lv st g c s => match st with
  | .inl i :: .inr (.inr (some a)) :: r => ∃ (b : List Nat) (n : Nat) (f : Nat → Int32), g a = some (b, .inl (2, n, .inl f)) ∧ vp_in i n ∧ K (pc + 1) lv (.inl (f i.toNatClampNeg) :: r) g c s
  | _ => False
theorem zs_zald {X : pz_C} {cc : ByteArray} {nL : Nat} {own : String} {K : pz_K} {pc : Nat} (hX : pz_X X cc nL own) (hd : decode cc pc = .ok (.baload, 1)) (hk : ∀ lv st g c s, K (pc + 1) lv st g c s → pz_Z X nL (pc + 1) lv st g c s) : ∀ lv st g c s, zo_zald K pc lv st g c s → pz_Z X nL pc lv st g c s := by
  obtain ⟨p, l, e, R, s, m, args, below, meth, c, Q, D, cy, A, En⟩ := X
  obtain ⟨hx, hb, hml, hown, hts, hK, hA, hOk, hEn⟩ := hX
  intro lv st g c0 s0 h ls H locs hl hP hS
  unfold zo_zald at h
  split at h
  · rename_i i a r
    obtain ⟨b, n, f, ha, hi, h⟩ := h
    obtain ⟨L, hL, hPP, hD⟩ := id hP
    obtain ⟨-, -, k0, hk0⟩ := pz_at (cy := cy) hL ha
    exact va_zald hx hb hK hPP k0 2 hk0 rfl hi hd (hk _ _ _ _ _ h ls H locs hl hP hS)
  · exact h.elim
def zo_cald (K : pz_K) : pz_K := fun pc lv st g c s => match st with
  | .inl i :: .inr (.inr (some a)) :: r => ∃ (b : List Nat) (n : Nat) (f : Nat → Int32), g a = some (b, .inl (3, n, .inl f)) ∧ vp_in i n ∧ K (pc + 1) lv (.inl (f i.toNatClampNeg) :: r) g c s
  | _ => False
theorem zs_cald {X : pz_C} {cc : ByteArray} {nL : Nat} {own : String} {K : pz_K} {pc : Nat} (hX : pz_X X cc nL own) (hd : decode cc pc = .ok (.caload, 1)) (hk : ∀ lv st g c s, K (pc + 1) lv st g c s → pz_Z X nL (pc + 1) lv st g c s) : ∀ lv st g c s, zo_cald K pc lv st g c s → pz_Z X nL pc lv st g c s := by
  obtain ⟨p, l, e, R, s, m, args, below, meth, c, Q, D, cy, A, En⟩ := X
  obtain ⟨hx, hb, hml, hown, hts, hK, hA, hOk, hEn⟩ := hX
  intro lv st g c0 s0 h ls H locs hl hP hS
  unfold zo_cald at h
  split at h
  · rename_i i a r
    obtain ⟨b, n, f, ha, hi, h⟩ := h
    obtain ⟨L, hL, hPP, hD⟩ := id hP
    obtain ⟨-, -, k0, hk0⟩ := pz_at (cy := cy) hL ha
    exact va_cald hx hb hK hPP k0 3 hk0 rfl hi hd (hk _ _ _ _ _ h ls H locs hl hP hS)
  · exact h.elim
def zo_lald (K : pz_K) : pz_K := fun pc lv st g c s => match st with
  | .inl i :: .inr (.inr (some a)) :: r => ∃ (b : List Nat) (n : Nat) (f : Nat → Int64), g a = some (b, .inl (1, n, .inr (.inl f))) ∧ vp_in i n ∧ K (pc + 1) lv (.inr (.inl (f i.toNatClampNeg)) :: r) g c s
  | _ => False
theorem zs_lald {X : pz_C} {cc : ByteArray} {nL : Nat} {own : String} {K : pz_K} {pc : Nat} (hX : pz_X X cc nL own) (hd : decode cc pc = .ok (.laload, 1)) (hk : ∀ lv st g c s, K (pc + 1) lv st g c s → pz_Z X nL (pc + 1) lv st g c s) : ∀ lv st g c s, zo_lald K pc lv st g c s → pz_Z X nL pc lv st g c s := by
  obtain ⟨p, l, e, R, s, m, args, below, meth, c, Q, D, cy, A, En⟩ := X
  obtain ⟨hx, hb, hml, hown, hts, hK, hA, hOk, hEn⟩ := hX
  intro lv st g c0 s0 h ls H locs hl hP hS
  unfold zo_lald at h
  split at h
  · rename_i i a r
    obtain ⟨b, n, f, ha, hi, h⟩ := h
    obtain ⟨L, hL, hPP, hD⟩ := id hP
    obtain ⟨-, -, k0, hk0⟩ := pz_at (cy := cy) hL ha
    exact va_lald hx hb hK hPP k0 1 hk0 rfl hi hd (hk _ _ _ _ _ h ls H locs hl hP hS)
  · exact h.elim
def zo_aald (t : Nat) (K : pz_K) : pz_K := fun pc lv st g c s => match st with
  | .inl i :: .inr (.inr (some a)) :: r => ∃ (b : List Nat) (n : Nat) (f : Nat → Option Nat), g a = some (b, .inl (t, n, .inr (.inr (.inr (.inr f))))) ∧ vp_in i n ∧ K (pc + 1) lv (.inr (.inr (f i.toNatClampNeg)) :: r) g c s
  | _ => False
theorem zs_aald {X : pz_C} {cc : ByteArray} {nL : Nat} {own : String} {K : pz_K} {pc : Nat} (hX : pz_X X cc nL own) {t : Nat} {ty : FieldType} (ht : ∀ cy : Nat → ClassId, (pz_ty cy)[t]? = some (cy t, ty)) (hrf : ty.isReference = true) (hd : decode cc pc = .ok (.aaload, 1)) (hk : ∀ lv st g c s, K (pc + 1) lv st g c s → pz_Z X nL (pc + 1) lv st g c s) : ∀ lv st g c s, zo_aald t K pc lv st g c s → pz_Z X nL pc lv st g c s := by
  obtain ⟨p, l, e, R, s, m, args, below, meth, c, Q, D, cy, A, En⟩ := X
  obtain ⟨hx, hb, hml, hown, hts, hK, hA, hOk, hEn⟩ := hX
  intro lv st g c0 s0 h ls H locs hl hP hS
  unfold zo_aald at h
  split at h
  · rename_i i a r
    obtain ⟨b, n, f, ha, hi, h⟩ := h
    obtain ⟨L, hL, hPP, hD⟩ := id hP
    obtain ⟨-, -, k0, hk0⟩ := pz_at (cy := cy) hL ha
    have hlt : i.toNatClampNeg < n := Nat.not_le.mp fun q => hi (Or.inr q)
    exact W.aald (v := va_rf (f i.toNatClampNeg)) (ty := ty) hx hb (hPP k0 _ hk0) ((hK.2 t _ (ht cy)).1 n (fun j => va_rf (f j))) hrf (fun q => by cases q) (by show ¬ (i < 0 ∨ (arrV _ _ _).slots.size ≤ _); rw [arrV_size]; exact hi) (by show (arrV _ _ _).slots[_]? = _; rw [arrV_read _ _ hlt]) rfl rfl hd (hk _ _ _ _ _ h ls H locs hl hP hS)
  · exact h.elim
def zo_iast (K : pz_K) : pz_K := fun pc lv st g c s => match st with
  | .inl x :: .inl i :: .inr (.inr (some a)) :: r => ∃ (b : List Nat) (n : Nat) (f : Nat → Int32), g a = some (b, .inl (0, n, .inl f)) ∧ vp_in i n ∧ K (pc + 1) lv r (va_up g a (some (b, .inl (0, n, .inl (upd f i.toNatClampNeg x))))) c s
  | _ => False
theorem zs_iast {X : pz_C} {cc : ByteArray} {nL : Nat} {own : String} {K : pz_K} {pc : Nat} (hX : pz_X X cc nL own) (hd : decode cc pc = .ok (.iastore, 1)) (hk : ∀ lv st g c s, K (pc + 1) lv st g c s → pz_Z X nL (pc + 1) lv st g c s) : ∀ lv st g c s, zo_iast K pc lv st g c s → pz_Z X nL pc lv st g c s := by
  obtain ⟨p, l, e, R, s, m, args, below, meth, c, Q, D, cy, A, En⟩ := X
  obtain ⟨hx, hb, hml, hown, hts, hK, hA, hOk, hEn⟩ := hX
  intro lv st g c0 s0 h ls H locs hl hP hS
  unfold zo_iast at h
  split at h
  · rename_i x i a r
    obtain ⟨b, n, f, ha, hi, h⟩ := h
    obtain ⟨L, hL, hPP, hD⟩ := id hP
    obtain ⟨-, -, k0, hk0⟩ := pz_at (cy := cy) hL ha
    exact va_iast hx hb hK hPP hD hS k0 0 hk0 rfl hi hd (fun H1 locs1 hP1 hD1 hS1 => hk _ _ _ _ _ h ls H1 locs1 hl (pz_set (e := .inl (0, n, .inl (upd f i.toNatClampNeg x))) hL hD ha hk0 hP1 hD1) hS1)
  · exact h.elim
def zo_zast (K : pz_K) : pz_K := fun pc lv st g c s => match st with
  | .inl x :: .inl i :: .inr (.inr (some a)) :: r => ∃ (b : List Nat) (n : Nat) (f : Nat → Int32), g a = some (b, .inl (2, n, .inl f)) ∧ vp_in i n ∧ K (pc + 1) lv r (va_up g a (some (b, .inl (2, n, .inl (upd f i.toNatClampNeg (vp_nar .boolean x)))))) c s
  | _ => False
theorem zs_zast {X : pz_C} {cc : ByteArray} {nL : Nat} {own : String} {K : pz_K} {pc : Nat} (hX : pz_X X cc nL own) (hd : decode cc pc = .ok (.bastore, 1)) (hk : ∀ lv st g c s, K (pc + 1) lv st g c s → pz_Z X nL (pc + 1) lv st g c s) : ∀ lv st g c s, zo_zast K pc lv st g c s → pz_Z X nL pc lv st g c s := by
  obtain ⟨p, l, e, R, s, m, args, below, meth, c, Q, D, cy, A, En⟩ := X
  obtain ⟨hx, hb, hml, hown, hts, hK, hA, hOk, hEn⟩ := hX
  intro lv st g c0 s0 h ls H locs hl hP hS
  unfold zo_zast at h
  split at h
  · rename_i x i a r
    obtain ⟨b, n, f, ha, hi, h⟩ := h
    obtain ⟨L, hL, hPP, hD⟩ := id hP
    obtain ⟨-, -, k0, hk0⟩ := pz_at (cy := cy) hL ha
    exact va_zast hx hb hK hPP hD hS k0 2 hk0 rfl hi hd (fun H1 locs1 hP1 hD1 hS1 => hk _ _ _ _ _ h ls H1 locs1 hl (pz_set (e := .inl (2, n, .inl (upd f i.toNatClampNeg (vp_nar .boolean x)))) hL hD ha hk0 hP1 hD1) hS1)
  · exact h.elim
def zo_cast (K : pz_K) : pz_K := fun pc lv st g c s => match st with
  | .inl x :: .inl i :: .inr (.inr (some a)) :: r => ∃ (b : List Nat) (n : Nat) (f : Nat → Int32), g a = some (b, .inl (3, n, .inl f)) ∧ vp_in i n ∧ K (pc + 1) lv r (va_up g a (some (b, .inl (3, n, .inl (upd f i.toNatClampNeg (vp_nar .char x)))))) c s
  | _ => False
theorem zs_cast {X : pz_C} {cc : ByteArray} {nL : Nat} {own : String} {K : pz_K} {pc : Nat} (hX : pz_X X cc nL own) (hd : decode cc pc = .ok (.castore, 1)) (hk : ∀ lv st g c s, K (pc + 1) lv st g c s → pz_Z X nL (pc + 1) lv st g c s) : ∀ lv st g c s, zo_cast K pc lv st g c s → pz_Z X nL pc lv st g c s := by
  obtain ⟨p, l, e, R, s, m, args, below, meth, c, Q, D, cy, A, En⟩ := X
  obtain ⟨hx, hb, hml, hown, hts, hK, hA, hOk, hEn⟩ := hX
  intro lv st g c0 s0 h ls H locs hl hP hS
  unfold zo_cast at h
  split at h
  · rename_i x i a r
    obtain ⟨b, n, f, ha, hi, h⟩ := h
    obtain ⟨L, hL, hPP, hD⟩ := id hP
    obtain ⟨-, -, k0, hk0⟩ := pz_at (cy := cy) hL ha
    exact va_cast hx hb hK hPP hD hS k0 3 hk0 rfl hi hd (fun H1 locs1 hP1 hD1 hS1 => hk _ _ _ _ _ h ls H1 locs1 hl (pz_set (e := .inl (3, n, .inl (upd f i.toNatClampNeg (vp_nar .char x)))) hL hD ha hk0 hP1 hD1) hS1)
  · exact h.elim
def zo_last (K : pz_K) : pz_K := fun pc lv st g c s => match st with
  | .inr (.inl x) :: .inl i :: .inr (.inr (some a)) :: r => ∃ (b : List Nat) (n : Nat) (f : Nat → Int64), g a = some (b, .inl (1, n, .inr (.inl f))) ∧ vp_in i n ∧ K (pc + 1) lv r (va_up g a (some (b, .inl (1, n, .inr (.inl (vp_updL f i.toNatClampNeg x)))))) c s
  | _ => False
theorem zs_last {X : pz_C} {cc : ByteArray} {nL : Nat} {own : String} {K : pz_K} {pc : Nat} (hX : pz_X X cc nL own) (hd : decode cc pc = .ok (.lastore, 1)) (hk : ∀ lv st g c s, K (pc + 1) lv st g c s → pz_Z X nL (pc + 1) lv st g c s) : ∀ lv st g c s, zo_last K pc lv st g c s → pz_Z X nL pc lv st g c s := by
  obtain ⟨p, l, e, R, s, m, args, below, meth, c, Q, D, cy, A, En⟩ := X
  obtain ⟨hx, hb, hml, hown, hts, hK, hA, hOk, hEn⟩ := hX
  intro lv st g c0 s0 h ls H locs hl hP hS
  unfold zo_last at h
  split at h
  · rename_i x i a r
    obtain ⟨b, n, f, ha, hi, h⟩ := h
    obtain ⟨L, hL, hPP, hD⟩ := id hP
    obtain ⟨-, -, k0, hk0⟩ := pz_at (cy := cy) hL ha
    exact va_last hx hb hK hPP hD hS k0 1 hk0 rfl hi hd (fun H1 locs1 hP1 hD1 hS1 => hk _ _ _ _ _ h ls H1 locs1 hl (pz_set (e := .inl (1, n, .inr (.inl (vp_updL f i.toNatClampNeg x)))) hL hD ha hk0 hP1 hD1) hS1)
  · exact h.elim
def zo_alen (K : pz_K) : pz_K := fun pc lv st g c s => match st with
  | .inr (.inr (some a)) :: r => ∃ (b : List Nat) (t : Nat) (x : vp_A), g a = some (b, .inl (t, x)) ∧ t < 7 ∧ K (pc + 1) lv (.inl (Int32.ofNat x.1) :: r) g c s
  | _ => False
theorem zs_alen {X : pz_C} {cc : ByteArray} {nL : Nat} {own : String} {K : pz_K} {pc : Nat} (hX : pz_X X cc nL own) (hd : decode cc pc = .ok (.arraylength, 1)) (hk : ∀ lv st g c s, K (pc + 1) lv st g c s → pz_Z X nL (pc + 1) lv st g c s) : ∀ lv st g c s, zo_alen K pc lv st g c s → pz_Z X nL pc lv st g c s := by
  obtain ⟨p, l, e, R, s, m, args, below, meth, c, Q, D, cy, A, En⟩ := X
  obtain ⟨hx, hb, hml, hown, hts, hK, hA, hOk, hEn⟩ := hX
  intro lv st g c0 s0 h ls H locs hl hP hS
  unfold zo_alen at h
  split at h
  · rename_i a r
    obtain ⟨b, t, x, ha, ht, h⟩ := h
    obtain ⟨L, hL, hPP, hD⟩ := id hP
    obtain ⟨-, -, k0, hk0⟩ := pz_at (cy := cy) hL ha
    obtain ⟨ty, hty⟩ := pz_tyIx (cy := cy) ht
    exact va_alen hx hb hK hPP k0 t hk0 hty rfl hd (hk _ _ _ _ _ h ls H locs hl hP hS)
  · exact h.elim
def zo_new (R : Room) (ci N : Nat) (fs : List pz_V) (K : pz_K) : pz_K := fun pc lv st g c s => c + 1 ≤ R.cells ∧ s + N ≤ R.slots ∧ ∃ b : List Nat, ∀ q : Nat, g q = none → K (pc + 3) lv (.inr (.inr (some q)) :: st) (va_up g q (some (b, .inr (ci, fs)))) (c + 1) (s + N)
theorem zs_new {X : pz_C} {cc : ByteArray} {nL : Nat} {own : String} {K : pz_K} {pc : Nat} (hX : pz_X X cc nL own) {C : String} {T : u_T} {N ci ix : Nat} {fs : List pz_V} (hc : vwCl[ci]? = some (C, T, N)) (hin : ∀ w ∈ u_ws C T N, w ∈ pz_W) (ty0 : Nat → FieldType) (hty : ∀ k, k < N → parseFieldDescriptor (T k).2.2.1 = some (ty0 k)) (hw1 : Cond.classLink own ix C ∈ pz_W) (hw2 : Cond.instantiable C N ∈ pz_W) (hw3 : Cond.initialized C ∈ pz_W) (hfs : ∀ j, j < N → defaultValue (ty0 j) = vp_V (fs.map pz_v) j) (hd : decode cc pc = .ok (.new ix, 3)) (hk : ∀ lv st g c s, K (pc + 3) lv st g c s → pz_Z X nL (pc + 3) lv st g c s) : ∀ lv st g c s, zo_new (pz_rm X) ci N fs K pc lv st g c s → pz_Z X nL pc lv st g c s := by
  obtain ⟨p, l, e, R, s, m, args, below, meth, c, Q, D, cy, A, En⟩ := X
  obtain ⟨hx, hb, hml, hown, hts, hK, hA, hOk, hEn⟩ := hX
  intro lv st g c0 s0 h ls H locs hl hP hS
  obtain ⟨h1, h2, b, h⟩ := h
  obtain ⟨L, hL, hPP, hD⟩ := id hP
  refine va_new (D := D) (fs := fs.map pz_v) hx hb hts hin ty0 hty hown (hts _ hw1) (hts _ hw2) (hts _ hw3) hK hPP hD hS hA hc hfs h1 h2 hd (fun q H1 hP1 hD1 hS1 => ?_)
  obtain ⟨hq, hp⟩ := pz_push (cy := cy) (e := .inr (ci, fs)) hL b hP1 hD1
  exact hk _ _ _ _ _ (h q hq) ls H1 locs hl hp hS1
def zo_newa (R : Room) (t : Nat) (z : (Nat → Int32) ⊕ (Nat → Int64) ⊕ (Nat → UInt32) ⊕ (Nat → UInt64) ⊕ (Nat → Option Nat)) (K : pz_K) : pz_K := fun pc lv st g c s => match st with
  | .inl n :: r => ¬ n < 0 ∧ n.toNatClampNeg ≤ 1000000 ∧ c + 1 ≤ R.cells ∧ s + n.toNatClampNeg ≤ R.slots ∧ ∃ b : List Nat, ∀ q : Nat, g q = none → K (pc + 2) lv (.inr (.inr (some q)) :: r) (va_up g q (some (b, .inl (t, n.toNatClampNeg, z)))) (c + 1) (s + n.toNatClampNeg)
  | _ => False
theorem zs_newI {X : pz_C} {cc : ByteArray} {nL : Nat} {own : String} {K : pz_K} {pc : Nat} (hX : pz_X X cc nL own) (hw : Cond.arrayClass .int ∈ pz_W) (hd : decode cc pc = .ok (.newarray .int, 2)) (hk : ∀ lv st g c s, K (pc + 2) lv st g c s → pz_Z X nL (pc + 2) lv st g c s) : ∀ lv st g c s, zo_newa (pz_rm X) 0 (.inl (fun _ => 0)) K pc lv st g c s → pz_Z X nL pc lv st g c s := by
  obtain ⟨p, l, e, R, s, m, args, below, meth, c, Q, D, cy, A, En⟩ := X
  obtain ⟨hx, hb, hml, hown, hts, hK, hA, hOk, hEn⟩ := hX
  intro lv st g c0 s0 h ls H locs hl hP hS
  unfold zo_newa at h
  split at h
  · rename_i n r
    obtain ⟨h0, h00, h1, h2, b, h⟩ := h
    obtain ⟨L, hL, hPP, hD⟩ := id hP
    refine va_newa (D := D) (atype := .int) (ty := .int) (a0 := (n.toNatClampNeg, .inl (fun _ => 0))) hx hb (hts _ hw) rfl hK hPP hD hS hA (fun _ => rfl) h0 rfl (Nat.le_trans (Nat.mul_le_mul_right _ h00) (by decide)) h1 h2 hd (fun q cA H1 hK1 hP1 hD1 hS1 => ?_)
    have e1 : s.vm.findClass ("[" ++ FieldType.toString .int) = some (cy 0) := (hK.2 0 _ rfl).2
    have e2 : s.vm.findClass ("[" ++ FieldType.toString .int) = some cA := (hK1.2 7 _ rfl).2
    have e3 : cy 0 = cA := Option.some.inj (e1.symm.trans e2)
    subst e3
    obtain ⟨hq, hp⟩ := pz_push (cy := cy) (e := .inl (0, n.toNatClampNeg, .inl (fun _ => 0))) hL b hP1 hD1
    exact hk _ _ _ _ _ (h q hq) ls H1 locs hl hp hS1
  · exact h.elim
theorem zs_newJ {X : pz_C} {cc : ByteArray} {nL : Nat} {own : String} {K : pz_K} {pc : Nat} (hX : pz_X X cc nL own) (hw : Cond.arrayClass .long ∈ pz_W) (hd : decode cc pc = .ok (.newarray .long, 2)) (hk : ∀ lv st g c s, K (pc + 2) lv st g c s → pz_Z X nL (pc + 2) lv st g c s) : ∀ lv st g c s, zo_newa (pz_rm X) 1 (.inr (.inl (fun _ => 0))) K pc lv st g c s → pz_Z X nL pc lv st g c s := by
  obtain ⟨p, l, e, R, s, m, args, below, meth, c, Q, D, cy, A, En⟩ := X
  obtain ⟨hx, hb, hml, hown, hts, hK, hA, hOk, hEn⟩ := hX
  intro lv st g c0 s0 h ls H locs hl hP hS
  unfold zo_newa at h
  split at h
  · rename_i n r
    obtain ⟨h0, h00, h1, h2, b, h⟩ := h
    obtain ⟨L, hL, hPP, hD⟩ := id hP
    refine va_newa (D := D) (atype := .long) (ty := .long) (a0 := (n.toNatClampNeg, .inr (.inl (fun _ => 0)))) hx hb (hts _ hw) rfl hK hPP hD hS hA (fun _ => rfl) h0 rfl (Nat.le_trans (Nat.mul_le_mul_right _ h00) (by decide)) h1 h2 hd (fun q cA H1 hK1 hP1 hD1 hS1 => ?_)
    have e1 : s.vm.findClass ("[" ++ FieldType.toString .long) = some (cy 1) := (hK.2 1 _ rfl).2
    have e2 : s.vm.findClass ("[" ++ FieldType.toString .long) = some cA := (hK1.2 7 _ rfl).2
    have e3 : cy 1 = cA := Option.some.inj (e1.symm.trans e2)
    subst e3
    obtain ⟨hq, hp⟩ := pz_push (cy := cy) (e := .inl (1, n.toNatClampNeg, .inr (.inl (fun _ => 0)))) hL b hP1 hD1
    exact hk _ _ _ _ _ (h q hq) ls H1 locs hl hp hS1
  · exact h.elim
theorem zs_newZ {X : pz_C} {cc : ByteArray} {nL : Nat} {own : String} {K : pz_K} {pc : Nat} (hX : pz_X X cc nL own) (hw : Cond.arrayClass .boolean ∈ pz_W) (hd : decode cc pc = .ok (.newarray .boolean, 2)) (hk : ∀ lv st g c s, K (pc + 2) lv st g c s → pz_Z X nL (pc + 2) lv st g c s) : ∀ lv st g c s, zo_newa (pz_rm X) 2 (.inl (fun _ => 0)) K pc lv st g c s → pz_Z X nL pc lv st g c s := by
  obtain ⟨p, l, e, R, s, m, args, below, meth, c, Q, D, cy, A, En⟩ := X
  obtain ⟨hx, hb, hml, hown, hts, hK, hA, hOk, hEn⟩ := hX
  intro lv st g c0 s0 h ls H locs hl hP hS
  unfold zo_newa at h
  split at h
  · rename_i n r
    obtain ⟨h0, h00, h1, h2, b, h⟩ := h
    obtain ⟨L, hL, hPP, hD⟩ := id hP
    refine va_newa (D := D) (atype := .boolean) (ty := .boolean) (a0 := (n.toNatClampNeg, .inl (fun _ => 0))) hx hb (hts _ hw) rfl hK hPP hD hS hA (fun _ => rfl) h0 rfl (Nat.le_trans (Nat.mul_le_mul_right _ h00) (by decide)) h1 h2 hd (fun q cA H1 hK1 hP1 hD1 hS1 => ?_)
    have e1 : s.vm.findClass ("[" ++ FieldType.toString .boolean) = some (cy 2) := (hK.2 2 _ rfl).2
    have e2 : s.vm.findClass ("[" ++ FieldType.toString .boolean) = some cA := (hK1.2 7 _ rfl).2
    have e3 : cy 2 = cA := Option.some.inj (e1.symm.trans e2)
    subst e3
    obtain ⟨hq, hp⟩ := pz_push (cy := cy) (e := .inl (2, n.toNatClampNeg, .inl (fun _ => 0))) hL b hP1 hD1
    exact hk _ _ _ _ _ (h q hq) ls H1 locs hl hp hS1
  · exact h.elim
theorem zs_newC {X : pz_C} {cc : ByteArray} {nL : Nat} {own : String} {K : pz_K} {pc : Nat} (hX : pz_X X cc nL own) (hw : Cond.arrayClass .char ∈ pz_W) (hd : decode cc pc = .ok (.newarray .char, 2)) (hk : ∀ lv st g c s, K (pc + 2) lv st g c s → pz_Z X nL (pc + 2) lv st g c s) : ∀ lv st g c s, zo_newa (pz_rm X) 3 (.inl (fun _ => 0)) K pc lv st g c s → pz_Z X nL pc lv st g c s := by
  obtain ⟨p, l, e, R, s, m, args, below, meth, c, Q, D, cy, A, En⟩ := X
  obtain ⟨hx, hb, hml, hown, hts, hK, hA, hOk, hEn⟩ := hX
  intro lv st g c0 s0 h ls H locs hl hP hS
  unfold zo_newa at h
  split at h
  · rename_i n r
    obtain ⟨h0, h00, h1, h2, b, h⟩ := h
    obtain ⟨L, hL, hPP, hD⟩ := id hP
    refine va_newa (D := D) (atype := .char) (ty := .char) (a0 := (n.toNatClampNeg, .inl (fun _ => 0))) hx hb (hts _ hw) rfl hK hPP hD hS hA (fun _ => rfl) h0 rfl (Nat.le_trans (Nat.mul_le_mul_right _ h00) (by decide)) h1 h2 hd (fun q cA H1 hK1 hP1 hD1 hS1 => ?_)
    have e1 : s.vm.findClass ("[" ++ FieldType.toString .char) = some (cy 3) := (hK.2 3 _ rfl).2
    have e2 : s.vm.findClass ("[" ++ FieldType.toString .char) = some cA := (hK1.2 7 _ rfl).2
    have e3 : cy 3 = cA := Option.some.inj (e1.symm.trans e2)
    subst e3
    obtain ⟨hq, hp⟩ := pz_push (cy := cy) (e := .inl (3, n.toNatClampNeg, .inl (fun _ => 0))) hL b hP1 hD1
    exact hk _ _ _ _ _ (h q hq) ls H1 locs hl hp hS1
  · exact h.elim
def zo_cast1 (ci : Nat) (K : pz_K) : pz_K := fun pc lv st g c s => match st with
  | .inr (.inr (some a)) :: r => ∃ (b : List Nat) (fs : List pz_V), g a = some (b, .inr (ci, fs)) ∧ K (pc + 3) lv (.inr (.inr (some a)) :: r) g c s
  | _ => False
theorem zs_cast1 {X : pz_C} {cc : ByteArray} {nL : Nat} {own : String} {K : pz_K} {pc : Nat} (hX : pz_X X cc nL own) {C : String} {T : u_T} {N ci ix : Nat} (hc : vwCl[ci]? = some (C, T, N)) (hw : Cond.classLink own ix C ∈ pz_W) (hd : decode cc pc = .ok (.checkcast ix, 3)) (hk : ∀ lv st g c s, K (pc + 3) lv st g c s → pz_Z X nL (pc + 3) lv st g c s) : ∀ lv st g c s, zo_cast1 ci K pc lv st g c s → pz_Z X nL pc lv st g c s := by
  obtain ⟨p, l, e, R, s, m, args, below, meth, c, Q, D, cy, A, En⟩ := X
  obtain ⟨hx, hb, hml, hown, hts, hK, hA, hOk, hEn⟩ := hX
  intro lv st g c0 s0 h ls H locs hl hP hS
  unfold zo_cast1 at h
  split at h
  · rename_i a r
    obtain ⟨b, fs, ha, h⟩ := h
    obtain ⟨L, hL, hPP, hD⟩ := id hP
    obtain ⟨-, -, k0, hk0⟩ := pz_at (cy := cy) hL ha
    exact va_castS hx hb hown (hts _ hw) (hK.1 ci _ hc).2 (va_recv hK hPP hc hk0) hd (hk _ _ _ _ _ h ls H locs hl hP hS)
  · exact h.elim
def zo_oin (R : Room) (K : pz_K) : pz_K := fun pc lv st g c s => match st with
  | .inr (.inr (some a)) :: r => 1 ≤ R.frames ∧ (r.map fun v => (pz_v v).category).sum + 12 ≤ R.locals ∧ K (pc + 3) lv r g c s
  | _ => False
theorem zs_oin {X : pz_C} {cc : ByteArray} {nL : Nat} {own : String} {K : pz_K} {pc : Nat} (hX : pz_X X cc nL own) {ix : Nat} (hw1 : Cond.methodLink own ix objectInit ∈ pz_W) (hw2 : Cond.instanceMethod objectInit ∈ pz_W) (hw3 : Cond.code objectInit ⟨#[0xb1]⟩ 1 none ∈ pz_W) (hd : decode cc pc = .ok (.invokespecial ix, 3)) (hk : ∀ lv st g c s, K (pc + 3) lv st g c s → pz_Z X nL (pc + 3) lv st g c s) : ∀ lv st g c s, zo_oin (pz_rm X) K pc lv st g c s → pz_Z X nL pc lv st g c s := by
  obtain ⟨p, l, e, R, s, m, args, below, meth, c, Q, D, cy, A, En⟩ := X
  obtain ⟨hx, hb, hml, hown, hts, hK, hA, hOk, hEn⟩ := hX
  intro lv st g c0 s0 h ls H locs hl hP hS
  unfold zo_oin at h
  split at h
  · rename_i a r
    obtain ⟨h1, h2, h⟩ := h
    refine W.objInit hx hb hown (hts _ hw1) (hts _ hw2) (hts _ hw3) (g := F0 m pc ls (.ref a :: r.map pz_v)) rfl (by rw [hml]; exact hl.1) rfl hd h1 ?_ ?_
    · have e9 : (2 * (F0 m pc ls (.ref a :: r.map pz_v)).monitorRoom) = 0 := rfl
      rw [e9, List.map_map, Nat.zero_add]
      exact h2
    · exact hk _ _ _ _ _ h ls H locs hl hP hS
  · exact h.elim
end
section
/-! contracts over the pool -/
abbrev pz_Gx : Type := Launch × va_G × (Nat → ClassId) × ((Nat → Prop) → State → Heap → Prop)
def pz_GX (X : pz_C) (G : pz_Gx) : Prop := match X with
  | (_, l, _, _, _, _, _, _, _, _, _, D, cy, _, En) => (l, D, cy, En) = G
def pz_A (g : pz_H) (sz : Nat) : Nat → Prop := fun q => (g q).isSome = true ∨ sz ≤ q
def pz_sh (ret : Option FieldType) (v : Option pz_V) : Prop := match ret with
  | none => v = none
  | some .int => ∃ x, v = some (.inl x)
  | some .boolean => ∃ x, v = some (.inl x) ∧ (x = 0 ∨ x = 1)
  | some .long => ∃ x, v = some (.inr (.inl x))
  | some _ => ∃ r, v = some (.inr (.inr r))
def pz_Q (D : va_G) (cy : Nat → ClassId) (ret : Option FieldType) (A : Nat → Prop) (post : Option pz_V → pz_H → Prop) : Array Value → State → Outcome → State → Prop := fun _ st oc t =>
  (∃ (v : Option pz_V) (g' : pz_H), oc = .returned (v.map pz_v) ∧ pz_sh ret v ∧ post v g' ∧ pz_P D cy A g' t.heap ∧ va_K D vwCl (pz_ty cy) t) ∧ va_F A st t
def pz_Pr (D : va_G) (cy : Nat → ClassId) (En : (Nat → Prop) → State → Heap → Prop) (av : List pz_V) (g : pz_H) (sz : Nat) : Array Value → State → Prop :=
  va_Pc (av.map pz_v) (fun U => U.heap.size = sz ∧ pz_P D cy (fun _ => True) g U.heap ∧ va_K D vwCl (pz_ty cy) U ∧ En (pz_A g sz) U U.heap)
def pz_M (G : pz_Gx) (y : MethodName) (cc : ByteArray) (maxL : Nat) (ret : Option FieldType) (rm : Room) (pre : List pz_V → pz_H → Prop) (post : List pz_V → pz_H → Option pz_V → pz_H → Prop) : Prop :=
  ∀ (av : List pz_V) (g : pz_H) (sz : Nat), pre av g → Met G.1 y (.code y cc maxL ret :: pz_W) rm (pz_Pr G.2.1 G.2.2.1 G.2.2.2 av g sz) (pz_Q G.2.1 G.2.2.1 ret (pz_A g sz) (post av g)) rm.cells rm.slots (pz_A g sz)
def pz_ar : Nat → List pz_V → pz_L
  | _, [] => []
  | i, v :: vs => (i, v) :: pz_ar (if pz_2 v = true then i + 2 else i + 1) vs
def pz_w : List pz_V → Nat
  | [] => 0
  | v :: vs => (if pz_2 v = true then 2 else 1) + pz_w vs
theorem pz_cat2 (v : pz_V) : (pz_v v).category = 2 ↔ pz_2 v = true := by
  rw [← pz_cat]; simp
theorem pz_ar_lv : ∀ (i : Nat) (av : List pz_V), lv_args i (av.map pz_v) = pz_lv (pz_ar i av)
  | _, [] => rfl
  | i, v :: vs => by
    show (i, pz_v v) :: lv_args (if (pz_v v).category = 2 then i + 2 else i + 1) (vs.map pz_v) = _
    rw [pz_ar_lv]
    simp only [pz_cat2]
    rfl
theorem pz_w_sl : ∀ av : List pz_V, (lg_sl (av.map pz_v)).length = pz_w av
  | [] => rfl
  | v :: vs => by
    have ih := pz_w_sl vs
    unfold lg_sl at ih ⊢
    rw [List.map_cons, List.flatMap_cons, List.length_append, ih]
    show _ = (if pz_2 v = true then 2 else 1) + pz_w vs
    simp only [pz_cat2]
    by_cases h : pz_2 v = true
    · rw [if_pos h, if_pos h]; rfl
    · rw [if_neg h, if_neg h]; rfl
/-! a body's ends -/
def pz_Rt (X : pz_C) (cc : ByteArray) (nL : Nat) (ret : Option FieldType) (rm : Room) (E : Option pz_V → pz_H → Prop) : Prop :=
  ∀ (pc : Nat) (lv : pz_L) (v : Option pz_V) (g : pz_H) (c s : Nat), pz_sh ret v → c ≤ rm.cells → s ≤ rm.slots → E v g →
    ((v = none → decode cc pc = .ok (.return_, 1)) ∧ (∀ x, v = some (.inl x) → decode cc pc = .ok (.ireturn, 1)) ∧ (∀ x, v = some (.inr (.inl x)) → decode cc pc = .ok (.lreturn, 1)) ∧ (∀ r, v = some (.inr (.inr r)) → decode cc pc = .ok (.areturn, 1))) → pz_Z X nL pc lv v.toList g c s
theorem pz_ofZ {G : pz_Gx} {y : MethodName} {cc : ByteArray} {maxL : Nat} {ret : Option FieldType} {rm : Room} {pre : List pz_V → pz_H → Prop} {post : List pz_V → pz_H → Option pz_V → pz_H → Prop} (hy : plainName y.cls = true) (hOk : pz_Ok G.2.2.2) (hret : ret = none ∨ ret = some .int ∨ ret = some .boolean ∨ ret = some .long ∨ (∃ n, ret = some (.object n)) ∨ ∃ t, ret = some (.array t))
    (hlen : ∀ av g, pre av g → pz_w av ≤ maxL) (body : ∀ X : pz_C, pz_X X cc maxL y.cls → pz_GX X G → pz_rm X = rm → (y.name = "<init>" → pz_N X) → ∀ av g, pre av g → pz_Rt X cc maxL ret rm (post av g) → pz_Z X maxL 0 (pz_ar 0 av) [] g 0 0) : pz_M G y cc maxL ret rm pre post := by
  obtain ⟨l, D, cy, En⟩ := G
  intro av g sz hpre
  refine Met.ofW (cc := cc) (maxL := maxL) (ret := ret) hy rfl ?_
  intro p e s m args below meth c s₁ B hml hv
  obtain ⟨rfl, hsz, hP, hK, hEn⟩ := hv
  subst hsz
  have hx := B.exec
  have hb := B.bytes
  have hr := B.returns
  have hts0 := atoms_spec (ws := .code y cc maxL ret :: pz_W) B.pre
  have hts : ∀ w ∈ pz_W, w.before ((av.map pz_v).toArray) s = true := fun w hw => hts0 w (List.mem_cons_of_mem _ hw)
  have hown : s.vm.findClass y.cls = some m.cls := findClass_of_methodNamed B.named
  have hlocks := B.notSynchronized
  have hnm : y.name = "<init>" → meth.name = "<init>" := fun h => by rw [(name_of_methodNamed B.named B.method).1]; exact h
  have hA : ∀ q : Nat, s.heap.size ≤ q → pz_A g s.heap.size q := fun q h => Or.inr h
  have hP0 : pz_P D cy (pz_A g s.heap.size) g s.heap := hP.weaken (fun a q h _ => Or.inl (by rw [h]; rfl))
  have hRt : pz_Rt (p, l, e, rm, s, m, (av.map pz_v).toArray, below, meth, c, MQ below (pz_Q D cy ret (pz_A g s.heap.size) (post av g)) ((av.map pz_v).toArray) s rm.cells rm.slots (pz_A g s.heap.size), D, cy, pz_A g s.heap.size, En) cc maxL ret rm (post av g) := by
    intro pc lv v g' c0 s0 hsh hc0 hs0 hE hd ls H locs hl hPp hS
    have hq : ∀ t : State, t.heap = H → s.WarmedH t.vm → pz_Q D cy ret (pz_A g s.heap.size) (post av g) ((av.map pz_v).toArray) s (.returned (v.map pz_v)) t := fun t ht hW => ⟨⟨v, g', rfl, hsh, hE, by rw [ht]; exact hPp, va_K.moved hW.alike hK⟩, hS.F ht⟩
    refine W.widen hc0 hs0 ?_
    rcases hret with rfl | rfl | rfl | rfl | ⟨n, rfl⟩ | ⟨t, rfl⟩
    · cases hsh
      exact W.vret hx hb hr hq hS.2.2 (hd.1 rfl) hlocks
    · obtain ⟨x, rfl⟩ := hsh
      exact W.iret hx hb hr hq hS.2.2 (hd.2.1 x rfl) hlocks
    · obtain ⟨x, rfl, h01⟩ := hsh
      exact W.zret (ty := .boolean) hx hb hr (by rcases h01 with rfl | rfl <;> rfl) hq hS.2.2 (hd.2.1 x rfl) hlocks
    · obtain ⟨x, rfl⟩ := hsh
      exact W.lret hx hb hr hq hS.2.2 (hd.2.2.1 x rfl) hlocks
    · obtain ⟨r, rfl⟩ := hsh
      exact W.aret hx hb hr (Or.inl ⟨n, rfl⟩) (va_rf_or r) hq hS.2.2 (hd.2.2.2 r rfl) hlocks
    · obtain ⟨r, rfl⟩ := hsh
      exact W.aret hx hb hr (Or.inr ⟨t, rfl⟩) (va_rf_or r) hq hS.2.2 (hd.2.2.2 r rfl) hlocks
  have hZ := body (p, l, e, rm, s, m, (av.map pz_v).toArray, below, meth, c, MQ below (pz_Q D cy ret (pz_A g s.heap.size) (post av g)) ((av.map pz_v).toArray) s rm.cells rm.slots (pz_A g s.heap.size), D, cy, pz_A g s.heap.size, En) ⟨hx, hb, hml, hown, hts, hK, hA, hOk, hEn⟩ rfl rfl hnm av g hpre hRt
  have hle := lv_entry (av.map pz_v) (n := maxL) (by rw [pz_w_sl]; exact hlen av g hpre)
  rw [pz_ar_lv] at hle
  rw [lg_entry_eq]
  exact hZ _ s.heap [] hle hP0 va_S.rf

def zo_ri (rm : Room) (E : Option pz_V → pz_H → Prop) : pz_K := fun pc lv st g c s => match st with
  | [.inl x] => c ≤ rm.cells ∧ s ≤ rm.slots ∧ E (some (.inl x)) g
  | _ => False
theorem zs_ri {X : pz_C} {cc : ByteArray} {nL pc : Nat} {rm : Room} {E : Option pz_V → pz_H → Prop} (hR : pz_Rt X cc nL (some .int) rm E) (hd : decode cc pc = .ok (.ireturn, 1)) : ∀ lv st g c s, zo_ri rm E pc lv st g c s → pz_Z X nL pc lv st g c s := by
  intro lv st g c s h
  unfold zo_ri at h
  split at h
  · rename_i x
    exact hR pc lv (some (.inl x)) g c s ⟨x, rfl⟩ h.1 h.2.1 h.2.2 ⟨fun q => (by first | exact hd | cases q), fun _ q => (by first | exact hd | cases q), fun _ q => (by first | exact hd | cases q), fun _ q => (by first | exact hd | cases q)⟩
  · exact h.elim
def zo_rz (rm : Room) (E : Option pz_V → pz_H → Prop) : pz_K := fun pc lv st g c s => match st with
  | [.inl x] => (x = 0 ∨ x = 1) ∧ c ≤ rm.cells ∧ s ≤ rm.slots ∧ E (some (.inl x)) g
  | _ => False
theorem zs_rz {X : pz_C} {cc : ByteArray} {nL pc : Nat} {rm : Room} {E : Option pz_V → pz_H → Prop} (hR : pz_Rt X cc nL (some .boolean) rm E) (hd : decode cc pc = .ok (.ireturn, 1)) : ∀ lv st g c s, zo_rz rm E pc lv st g c s → pz_Z X nL pc lv st g c s := by
  intro lv st g c s h
  unfold zo_rz at h
  split at h
  · rename_i x
    exact hR pc lv (some (.inl x)) g c s ⟨x, rfl, h.1⟩ h.2.1 h.2.2.1 h.2.2.2 ⟨fun q => (by first | exact hd | cases q), fun _ q => (by first | exact hd | cases q), fun _ q => (by first | exact hd | cases q), fun _ q => (by first | exact hd | cases q)⟩
  · exact h.elim
def zo_rl (rm : Room) (E : Option pz_V → pz_H → Prop) : pz_K := fun pc lv st g c s => match st with
  | [.inr (.inl x)] => c ≤ rm.cells ∧ s ≤ rm.slots ∧ E (some (.inr (.inl x))) g
  | _ => False
theorem zs_rl {X : pz_C} {cc : ByteArray} {nL pc : Nat} {rm : Room} {E : Option pz_V → pz_H → Prop} (hR : pz_Rt X cc nL (some .long) rm E) (hd : decode cc pc = .ok (.lreturn, 1)) : ∀ lv st g c s, zo_rl rm E pc lv st g c s → pz_Z X nL pc lv st g c s := by
  intro lv st g c s h
  unfold zo_rl at h
  split at h
  · rename_i x
    exact hR pc lv (some (.inr (.inl x))) g c s ⟨x, rfl⟩ h.1 h.2.1 h.2.2 ⟨fun q => (by first | exact hd | cases q), fun _ q => (by first | exact hd | cases q), fun _ q => (by first | exact hd | cases q), fun _ q => (by first | exact hd | cases q)⟩
  · exact h.elim
def zo_rr (rm : Room) (E : Option pz_V → pz_H → Prop) : pz_K := fun pc lv st g c s => match st with
  | [.inr (.inr x)] => c ≤ rm.cells ∧ s ≤ rm.slots ∧ E (some (.inr (.inr x))) g
  | _ => False
theorem zs_rr {X : pz_C} {cc : ByteArray} {nL pc : Nat} {rm : Room} {E : Option pz_V → pz_H → Prop} {ret : Option FieldType} (hret : (∃ n, ret = some (.object n)) ∨ ∃ t, ret = some (.array t)) (hR : pz_Rt X cc nL ret rm E) (hd : decode cc pc = .ok (.areturn, 1)) : ∀ lv st g c s, zo_rr rm E pc lv st g c s → pz_Z X nL pc lv st g c s := by
  intro lv st g c s h
  unfold zo_rr at h
  split at h
  · rename_i x
    exact hR pc lv (some (.inr (.inr x))) g c s (by rcases hret with ⟨n, rfl⟩ | ⟨t, rfl⟩ <;> exact ⟨x, rfl⟩) h.1 h.2.1 h.2.2 ⟨fun q => (by first | exact hd | cases q), fun _ q => (by first | exact hd | cases q), fun _ q => (by first | exact hd | cases q), fun _ q => (by first | exact hd | cases q)⟩
  · exact h.elim
def zo_rv (rm : Room) (E : Option pz_V → pz_H → Prop) : pz_K := fun pc lv st g c s => match st with
  | [] => c ≤ rm.cells ∧ s ≤ rm.slots ∧ E (none) g
  | _ => False
theorem zs_rv {X : pz_C} {cc : ByteArray} {nL pc : Nat} {rm : Room} {E : Option pz_V → pz_H → Prop} (hR : pz_Rt X cc nL none rm E) (hd : decode cc pc = .ok (.return_, 1)) : ∀ lv st g c s, zo_rv rm E pc lv st g c s → pz_Z X nL pc lv st g c s := by
  intro lv st g c s h
  unfold zo_rv at h
  split at h
  · exact hR pc lv (none) g c s rfl h.1 h.2.1 h.2.2 ⟨fun q => (by first | exact hd | cases q), fun _ q => (by first | exact hd | cases q), fun _ q => (by first | exact hd | cases q), fun _ q => (by first | exact hd | cases q)⟩
  · exact h.elim
/-! calls -/
theorem pz_blind {D : va_G} {cy : Nat → ClassId} {En : (Nat → Prop) → State → Heap → Prop} (hOk : pz_Ok En) (av : List pz_V) (g : pz_H) (sz : Nat) : FrameBlind (pz_Pr D cy En av g sz) := by
  intro a U fr mk q
  obtain ⟨q0, q1, q2, q3, q4⟩ := q
  exact ⟨q0, q1, q2, va_K.moved (u := U) (U := U.calling fr mk a) (Vm.Alike.refl U.vm) q3, hOk _ _ U (U.calling fr mk a) _ _ q4 (Vm.Alike.refl U.vm) (fun _ h => h) (fun _ _ _ => rfl)⟩
section PZC
variable {p : Program} {l : Launch} {e : Env} {R : Room} {s : State} {m : MethodId} {args : Array Value} {below : List Frame} {meth : Method} {c : Code} {H : Heap} {locs : List Loc} {cells slots : Nat} {Q : State → Prop}
variable {D : va_G} {cy : Nat → ClassId} {A : Nat → Prop} {En : (Nat → Prop) → State → Heap → Prop} {g : pz_H}
theorem pz_subA (hP : pz_P D cy A g H) (hS : va_S A s.heap H locs) (hA : ∀ q, s.heap.size ≤ q → A q) : ∀ q, pz_A g H.size q → A q := by
  intro q h
  rcases h with h | h
  · cases hq : g q with
    | none => rw [hq] at h; cases h
    | some z => exact (hP.mem hq).1
  · exact hA q (Nat.le_trans hS.1 h)
theorem pz_preOf (hOk : pz_Ok En) (hEn : En A s s.heap) (hP : pz_P D cy A g H) (hS : va_S A s.heap H locs) (hA : ∀ q, s.heap.size ≤ q → A q) (hK : va_K D vwCl (pz_ty cy) s) (av : List pz_V) : ∀ U : State, U.heap = H → s.WarmedH U.vm → pz_Pr D cy En av g H.size (av.map pz_v).toArray U := by
  intro U hU hW
  refine ⟨rfl, by rw [hU], by rw [hU]; exact hP.weaken (fun _ _ _ _ => trivial), va_K.moved hW.alike hK, ?_⟩
  exact hOk A (pz_A g H.size) s U s.heap U.heap hEn hW.alike (pz_subA hP hS hA) (fun a h1 h2 => by rw [hU]; exact hS.2.1 a h1 h2)
theorem pz_callW {mc ms pc : Nat} {ls : Array Slot} {st0 rest : List Value} {ret : Option FieldType} {A1 : Nat → Prop} {post : Option pz_V → pz_H → Prop} {a : Array Value} (hr : va_Run p l e R s m args below meth c H locs cells slots mc ms (F0 m pc ls st0) rest (pz_Q D cy ret A1 post a) A1) (hS : va_S A s.heap H locs) (hA1 : ∀ q, A1 q → A q)
    (kk : ∀ (v : Option pz_V) (g' : pz_H) (H1 : Heap) (locs1 : List Loc), pz_sh ret v → post v g' → pz_P D cy A g' H1 → va_S A s.heap H1 locs1 → W p l e R s m args below meth c H1 locs1 (cells + mc) (slots + ms) Q (F0 m (pc + 3) ls ((v.map pz_v).toList ++ rest))) : W p l e R s m args below meth c H locs cells slots Q (F0 m pc ls st0) := by
  intro T hT X
  obtain ⟨v, st₀, t, T', L, h0, X', hL, e1, e2, ⟨⟨r, u, hv, hsh, hp, hb, hK⟩, hz, hk⟩, st⟩ := hr T hT X
  cases hv
  rw [h0] at hz hk
  obtain ⟨t2, a1, b1⟩ := kk r u T'.heap (locs ++ L) hsh hp (by rw [e1]; exact hb.weaken (fun q _ _ h => hA1 q h))
    ⟨Nat.le_trans hS.1 (by rw [e1]; exact hz), fun q h1 h2 => by rw [e1, hk q (Nat.lt_of_lt_of_le h1 hS.1) (fun z => h2 (hA1 q z))]; exact hS.2.1 q h1 h2, fun q hq => by
      rcases List.mem_append.mp hq with h | h
      · exact hS.2.2 q h
      · exact hA1 _ (hL q h)⟩ T' rfl X'
  exact ⟨t2, st t2 a1, b1⟩
theorem pz_callW5 {mc ms pc : Nat} {ls : Array Slot} {st0 rest : List Value} {ret : Option FieldType} {A1 : Nat → Prop} {post : Option pz_V → pz_H → Prop} {a : Array Value} (hr : va_Run5 p l e R s m args below meth c H locs cells slots mc ms (F0 m pc ls st0) rest (pz_Q D cy ret A1 post a) A1) (hS : va_S A s.heap H locs) (hA1 : ∀ q, A1 q → A q)
    (kk : ∀ (v : Option pz_V) (g' : pz_H) (H1 : Heap) (locs1 : List Loc), pz_sh ret v → post v g' → pz_P D cy A g' H1 → va_S A s.heap H1 locs1 → W p l e R s m args below meth c H1 locs1 (cells + mc) (slots + ms) Q (F0 m (pc + 5) ls ((v.map pz_v).toList ++ rest))) : W p l e R s m args below meth c H locs cells slots Q (F0 m pc ls st0) := by
  intro T hT X
  obtain ⟨v, st₀, t, T', L, h0, X', hL, e1, e2, ⟨⟨r, u, hv, hsh, hp, hb, hK⟩, hz, hk⟩, st⟩ := hr T hT X
  cases hv
  rw [h0] at hz hk
  obtain ⟨t2, a1, b1⟩ := kk r u T'.heap (locs ++ L) hsh hp (by rw [e1]; exact hb.weaken (fun q _ _ h => hA1 q h))
    ⟨Nat.le_trans hS.1 (by rw [e1]; exact hz), fun q h1 h2 => by rw [e1, hk q (Nat.lt_of_lt_of_le h1 hS.1) (fun z => h2 (hA1 q z))]; exact hS.2.1 q h1 h2, fun q hq => by
      rcases List.mem_append.mp hq with h | h
      · exact hS.2.2 q h
      · exact hA1 _ (hL q h)⟩ T' rfl X'
  exact ⟨t2, st t2 a1, b1⟩
end PZC
theorem pz_GoodIn {y : MethodName} {cc : ByteArray} {maxL : Nat} {ret : Option FieldType} (hw : Cond.code y cc maxL ret ∈ pz_W) : GoodIn pz_W (.code y cc maxL ret :: pz_W) := fun w h => by
  rcases List.mem_cons.mp h with rfl | h
  · exact ⟨hw, good_of_word (pz_good hw)⟩
  · exact ⟨h, good_of_word (pz_good h)⟩
theorem pz_GoodC {w : Cond} {ws : List Cond} (hw : w ∈ pz_W) (h : GoodIn pz_W ws) : GoodIn pz_W (w :: ws) := fun v hv => by
  rcases List.mem_cons.mp hv with rfl | h2
  · exact ⟨hw, good_of_word (pz_good hw)⟩
  · exact h v h2
theorem pz_stk (st : List pz_V) (n : Nat) : st.map pz_v = ((st.take n).reverse.map pz_v).reverse ++ (st.drop n).map pz_v := by
  rw [List.map_reverse, List.reverse_reverse, ← List.map_append, List.take_append_drop]
/-- what a call needs, and what it leaves -/
def zo_c (R : Room) (n len mc ms : Nat) (pre : List pz_V → pz_H → Prop) (post : List pz_V → pz_H → Option pz_V → pz_H → Prop) (KK : Option pz_V → pz_K) : pz_K := fun pc lv st g c s =>
  c + mc ≤ R.cells ∧ s + ms ≤ R.slots ∧ ((st.drop n).map (fun v => (pz_v v).category)).sum ≤ 8 ∧ pre (st.take n).reverse g ∧ ∀ (v : Option pz_V) (g' : pz_H), post (st.take n).reverse g v g' → KK v (pc + len) lv (st.drop n) g' (c + mc) (s + ms)
def zo_kv (K : pz_K) : Option pz_V → pz_K := fun v pc lv st g c s => v = none → K pc lv st g c s
def zo_ki (K : pz_K) : Option pz_V → pz_K := fun v pc lv st g c s => ∀ x, v = some (.inl x) → K pc lv (.inl x :: st) g c s
def zo_kz (K : pz_K) : Option pz_V → pz_K := fun v pc lv st g c s => ∀ x, v = some (.inl x) → (x = 0 ∨ x = 1) → K pc lv (.inl x :: st) g c s
def zo_kl (K : pz_K) : Option pz_V → pz_K := fun v pc lv st g c s => ∀ x, v = some (.inr (.inl x)) → K pc lv (.inr (.inl x) :: st) g c s
def zo_kr (K : pz_K) : Option pz_V → pz_K := fun v pc lv st g c s => ∀ r, v = some (.inr (.inr r)) → K pc lv (.inr (.inr r) :: st) g c s
def zo_KOk (X : pz_C) (nL pc : Nat) (ret : Option FieldType) (KK : Option pz_V → pz_K) : Prop := ∀ v lv st g c s, pz_sh ret v → KK v pc lv st g c s → pz_Z X nL pc lv (v.toList ++ st) g c s

theorem zs_kv {X : pz_C} {nL pc : Nat} {K : pz_K} (hk : ∀ lv st g c s, K pc lv st g c s → pz_Z X nL pc lv st g c s) : zo_KOk X nL pc none (zo_kv K) := by
  intro v lv st g c s hsh h
  cases hsh; exact hk _ _ _ _ _ (h rfl)
theorem zs_ki {X : pz_C} {nL pc : Nat} {K : pz_K} (hk : ∀ lv st g c s, K pc lv st g c s → pz_Z X nL pc lv st g c s) : zo_KOk X nL pc (some .int) (zo_ki K) := by
  intro v lv st g c s hsh h
  obtain ⟨x, rfl⟩ := hsh; exact hk _ _ _ _ _ (h x rfl)
theorem zs_kz {X : pz_C} {nL pc : Nat} {K : pz_K} (hk : ∀ lv st g c s, K pc lv st g c s → pz_Z X nL pc lv st g c s) : zo_KOk X nL pc (some .boolean) (zo_kz K) := by
  intro v lv st g c s hsh h
  obtain ⟨x, rfl, h01⟩ := hsh; exact hk _ _ _ _ _ (h x rfl h01)
theorem zs_kl {X : pz_C} {nL pc : Nat} {K : pz_K} (hk : ∀ lv st g c s, K pc lv st g c s → pz_Z X nL pc lv st g c s) : zo_KOk X nL pc (some .long) (zo_kl K) := by
  intro v lv st g c s hsh h
  obtain ⟨x, rfl⟩ := hsh; exact hk _ _ _ _ _ (h x rfl)
theorem zs_kr {X : pz_C} {nL pc : Nat} {K : pz_K} {ret : Option FieldType} (hret : (∃ n, ret = some (.object n)) ∨ ∃ t, ret = some (.array t)) (hk : ∀ lv st g c s, K pc lv st g c s → pz_Z X nL pc lv st g c s) : zo_KOk X nL pc ret (zo_kr K) := by
  intro v lv st g c s hsh h
  rcases hret with ⟨n, rfl⟩ | ⟨t, rfl⟩ <;> (obtain ⟨x, rfl⟩ := hsh; exact hk _ _ _ _ _ (h x rfl))
theorem zs_cS {X : pz_C} {cc : ByteArray} {nL : Nat} {own : String} {KK : Option pz_V → pz_K} {pc : Nat} {G : pz_Gx} {y : MethodName} {bytes : ByteArray} {maxL n ix : Nat} {ret : Option FieldType} {rm : Room} {pre : List pz_V → pz_H → Prop} {post : List pz_V → pz_H → Option pz_V → pz_H → Prop} (hX : pz_X X cc nL own) (hGX : pz_GX X G) (hM : pz_M G y bytes maxL ret rm pre post) (hw1 : Cond.methodLink own ix y ∈ pz_W) (hw2 : Cond.static y ∈ pz_W) (hw3 : Cond.initialized y.cls ∈ pz_W) (hw4 : Cond.code y bytes maxL ret ∈ pz_W) (hdd : y.cls ≠ "java/lang/invoke/MethodHandle" ∧ y.cls ≠ "java/lang/invoke/VarHandle" ∧ (parseMethodDescriptor y.desc).map (fun d => d.parameters.length) = some n) (hR : rm.frames + 1 ≤ (pz_rm X).frames ∧ 8 + (maxL + 11) + rm.locals ≤ (pz_rm X).locals) (hd : decode cc pc = .ok (.invokestatic ix, 3)) (hk : zo_KOk X nL (pc + 3) ret KK) : ∀ lv st g c s, n ≤ st.length → zo_c (pz_rm X) n 3 rm.cells rm.slots pre post KK pc lv st g c s → pz_Z X nL pc lv st g c s := by
  obtain ⟨p, l, e, R, s, m, args, below, meth, c, Q, D, cy, A, En⟩ := X
  obtain ⟨hx, hb, hml, hown, hts, hK, hA, hOk, hEn⟩ := hX
  obtain ⟨l', D', cy', En'⟩ := G
  cases hGX
  intro lv st g c0 s0 hn h ls H locs hl hP hS
  obtain ⟨h1, h2, h3, h4, h5⟩ := h
  have hg := pz_GoodC hw1 (pz_GoodC hw2 (pz_GoodC hw3 (pz_GoodIn hw4)))
  have hr := va_runS (As := (st.take n).reverse.map pz_v) (rest := (st.drop n).map pz_v) (g := F0 m pc ls (st.map pz_v)) (cells := c0) (slots := s0) (locs := locs) (below := below) (meth := meth) (R := R) (e := e) ⟨hx, hb, hml, hown, hts⟩ (hM (st.take n).reverse g H.size h4) (va_cwS n hts hg rfl rfl rfl hdd hR) ⟨pz_blind hOk _ _ _, pz_preOf hOk hEn hP hS hA hK _⟩ rfl (by rw [List.length_map, List.length_reverse, List.length_take]; omega) hl.1 (pz_stk st n) (by have e9 : 2 * (F0 m pc ls (st.map pz_v)).monitorRoom = 0 := rfl; rw [e9, List.map_map, Nat.zero_add]; exact h3) hd ⟨h1, h2⟩
  exact pz_callW hr hS (pz_subA hP hS hA) (fun v g' H1 locs1 hsh hp hP1 hS1 => by
    have := hk v lv (st.drop n) g' _ _ hsh (h5 v g' hp) ls H1 locs1 hl hP1 hS1
    rw [List.map_append] at this
    cases v <;> exact this)
theorem zs_cI {X : pz_C} {cc : ByteArray} {nL : Nat} {own : String} {KK : Option pz_V → pz_K} {pc : Nat} {G : pz_Gx} {y : MethodName} {bytes : ByteArray} {maxL n ix : Nat} {rm : Room} {pre : List pz_V → pz_H → Prop} {post : List pz_V → pz_H → Option pz_V → pz_H → Prop} (hX : pz_X X cc nL own) (hGX : pz_GX X G) (hM : pz_M G y bytes maxL none rm pre post) (hw1 : Cond.methodLink own ix y ∈ pz_W) (hw2 : Cond.instanceMethod y ∈ pz_W) (hw3 : Cond.initialized y.cls ∈ pz_W) (hw4 : Cond.code y bytes maxL none ∈ pz_W) (hy1 : y.name = "<init>") (hdd : y.cls ≠ "java/lang/invoke/MethodHandle" ∧ y.cls ≠ "java/lang/invoke/VarHandle" ∧ (parseMethodDescriptor y.desc).map (fun d => d.parameters.length) = some n) (hR : rm.frames + 1 ≤ (pz_rm X).frames ∧ 8 + (maxL + 11) + rm.locals ≤ (pz_rm X).locals) (hd : decode cc pc = .ok (.invokespecial ix, 3)) (hk : zo_KOk X nL (pc + 3) none KK) : ∀ lv st g c s, n + 1 ≤ st.length → (∃ b As, (st.take (n + 1)).reverse = .inr (.inr (some b)) :: As) → zo_c (pz_rm X) (n + 1) 3 rm.cells rm.slots pre post KK pc lv st g c s → pz_Z X nL pc lv st g c s := by
  obtain ⟨p, l, e, R, s, m, args, below, meth, c, Q, D, cy, A, En⟩ := X
  obtain ⟨hx, hb, hml, hown, hts, hK, hA, hOk, hEn⟩ := hX
  obtain ⟨l', D', cy', En'⟩ := G
  cases hGX
  intro lv st g c0 s0 hn hav h ls H locs hl hP hS
  obtain ⟨h1, h2, h3, h4, h5⟩ := h
  obtain ⟨b, As, hAs⟩ := hav
  have hlen : As.length = n := by
    have := congrArg List.length hAs
    rw [List.length_reverse, List.length_take, List.length_cons] at this
    omega
  have hstk : (F0 m pc ls (st.map pz_v)).stack = (As.map pz_v).reverse ++ .ref b :: (st.drop (n + 1)).map pz_v := by
    have := pz_stk st (n + 1)
    rw [hAs, List.map_cons, List.reverse_cons, List.append_assoc] at this
    exact this
  rw [hAs] at h4 h5
  have hr := va_runI (As := As.map pz_v) (rest := (st.drop (n + 1)).map pz_v) (b := b) (g := F0 m pc ls (st.map pz_v)) (cells := c0) (slots := s0) (locs := locs) (below := below) (meth := meth) (R := R) (e := e) ⟨hx, hb, hml, hown, hts⟩ (hM (.inr (.inr (some b)) :: As) g H.size h4) (cwI n hts (pz_GoodIn hw4) rfl rfl rfl (hts _ hw3) (hts _ hw1) (hts _ hw2) hy1 hdd hR) ⟨pz_blind hOk _ _ _, pz_preOf hOk hEn hP hS hA hK (.inr (.inr (some b)) :: As)⟩ rfl (by rw [List.length_map]; exact hlen) hl.1 hstk (by have e9 : 2 * (F0 m pc ls (st.map pz_v)).monitorRoom = 0 := rfl; rw [e9, List.map_map, Nat.zero_add]; exact h3) hd ⟨h1, h2⟩
  exact pz_callW hr hS (pz_subA hP hS hA) (fun v g' H1 locs1 hsh hp hP1 hS1 => by
    have := hk v lv (st.drop (n + 1)) g' _ _ hsh (h5 v g' hp) ls H1 locs1 hl hP1 hS1
    rw [List.map_append] at this
    cases v <;> exact this)
theorem zs_cV {X : pz_C} {cc : ByteArray} {nL : Nat} {own : String} {KK : Option pz_V → pz_K} {pc : Nat} {G : pz_Gx} {y : MethodName} {bytes : ByteArray} {maxL n ix : Nat} {ret : Option FieldType} {rm : Room} {pre : List pz_V → pz_H → Prop} {post : List pz_V → pz_H → Option pz_V → pz_H → Prop} (hX : pz_X X cc nL own) (hGX : pz_GX X G) {C : String} {T : u_T} {N ci : Nat} (hc : vwCl[ci]? = some (C, T, N)) (hM : pz_M G y bytes maxL ret rm pre post) (hw1 : Cond.methodLink own ix y ∈ pz_W) (hw2 : Cond.instanceMethod y ∈ pz_W) (hw5 : Cond.selects C y y ∈ pz_W) (hw3 : Cond.initialized C ∈ pz_W) (hw4 : Cond.code y bytes maxL ret ∈ pz_W) (hdd : y.cls = C ∧ y.cls ≠ "java/lang/invoke/MethodHandle" ∧ y.cls ≠ "java/lang/invoke/VarHandle" ∧ (parseMethodDescriptor y.desc).map (fun d => d.parameters.length) = some n) (hR : rm.frames + 1 ≤ (pz_rm X).frames ∧ 8 + (maxL + 11) + rm.locals ≤ (pz_rm X).locals) (hd : decode cc pc = .ok (.invokevirtual ix, 3)) (hk : zo_KOk X nL (pc + 3) ret KK) : ∀ lv st g c s, n + 1 ≤ st.length → (∃ b As lb fs, (st.take (n + 1)).reverse = .inr (.inr (some b)) :: As ∧ g b = some (lb, .inr (ci, fs))) → zo_c (pz_rm X) (n + 1) 3 rm.cells rm.slots pre post KK pc lv st g c s → pz_Z X nL pc lv st g c s := by
  obtain ⟨p, l, e, R, s, m, args, below, meth, c, Q, D, cy, A, En⟩ := X
  obtain ⟨hx, hb, hml, hown, hts, hK, hA, hOk, hEn⟩ := hX
  obtain ⟨l', D', cy', En'⟩ := G
  cases hGX
  intro lv st g c0 s0 hn hav h ls H locs hl hP hS
  obtain ⟨h1, h2, h3, h4, h5⟩ := h
  obtain ⟨b, As, lb, fs, hAs, ha⟩ := hav
  obtain ⟨L, hL, hPP, hD⟩ := id hP
  obtain ⟨-, -, k0, hk0⟩ := pz_at (cy := cy) hL ha
  have hlen : As.length = n := by
    have := congrArg List.length hAs
    rw [List.length_reverse, List.length_take, List.length_cons] at this
    omega
  have hstk : (F0 m pc ls (st.map pz_v)).stack = (As.map pz_v).reverse ++ .ref b :: (st.drop (n + 1)).map pz_v := by
    have := pz_stk st (n + 1)
    rw [hAs, List.map_cons, List.reverse_cons, List.append_assoc] at this
    exact this
  rw [hAs] at h4 h5
  have hr := va_runV (As := As.map pz_v) (rest := (st.drop (n + 1)).map pz_v) (b := b) (g := F0 m pc ls (st.map pz_v)) (cells := c0) (slots := s0) (locs := locs) (below := below) (meth := meth) (R := R) (e := e) (C := C) ⟨hx, hb, hml, hown, hts⟩ (hM (.inr (.inr (some b)) :: As) g H.size h4) (cwV n hts (pz_GoodC hw1 (pz_GoodC hw2 (pz_GoodC hw5 (pz_GoodC hw3 (pz_GoodIn hw4))))) rfl rfl rfl hdd hR) ⟨pz_blind hOk _ _ _, va_recv hK hPP hc hk0, pz_preOf hOk hEn hP hS hA hK (.inr (.inr (some b)) :: As)⟩ rfl (by rw [List.length_map]; exact hlen) hl.1 hstk (by have e9 : 2 * (F0 m pc ls (st.map pz_v)).monitorRoom = 0 := rfl; rw [e9, List.map_map, Nat.zero_add]; exact h3) hd ⟨h1, h2⟩
  exact pz_callW hr hS (pz_subA hP hS hA) (fun v g' H1 locs1 hsh hp hP1 hS1 => by
    have := hk v lv (st.drop (n + 1)) g' _ _ hsh (h5 v g' hp) ls H1 locs1 hl hP1 hS1
    rw [List.map_append] at this
    cases v <;> exact this)
theorem zs_cF {X : pz_C} {cc : ByteArray} {nL : Nat} {own : String} {KK : Option pz_V → pz_K} {pc : Nat} {G : pz_Gx} {x y : MethodName} {bytes : ByteArray} {maxL n ix : Nat} {ret : Option FieldType} {rm : Room} {pre : List pz_V → pz_H → Prop} {post : List pz_V → pz_H → Option pz_V → pz_H → Prop} (hX : pz_X X cc nL own) (hGX : pz_GX X G) {C : String} {T : u_T} {N ci count : Nat} (hc : vwCl[ci]? = some (C, T, N)) (hM : pz_M G y bytes maxL ret rm pre post) (hF : ∀ (B : Nat → Prop) (U : State) (J : Heap), G.2.2.2 B U J → va_Fw C x y U) (hw1 : Cond.methodLink own ix x ∈ pz_W) (hw5 : Cond.selects C x y ∈ pz_W) (hw2 : Cond.instanceMethod y ∈ pz_W) (hw3 : Cond.initialized y.cls ∈ pz_W) (hw4 : Cond.code y bytes maxL ret ∈ pz_W) (hdd : x.cls ≠ "java/lang/invoke/MethodHandle" ∧ x.cls ≠ "java/lang/invoke/VarHandle" ∧ (parseMethodDescriptor x.desc).map (fun d => d.parameters.length) = some n) (hR : rm.frames + 1 ≤ (pz_rm X).frames ∧ 8 + (maxL + 11) + rm.locals ≤ (pz_rm X).locals) (hd : decode cc pc = .ok (.invokeinterface ix count, 5)) (hk : zo_KOk X nL (pc + 5) ret KK) : ∀ lv st g c s, n + 1 ≤ st.length → (∃ b As lb fs, (st.take (n + 1)).reverse = .inr (.inr (some b)) :: As ∧ g b = some (lb, .inr (ci, fs))) → zo_c (pz_rm X) (n + 1) 5 rm.cells rm.slots pre post KK pc lv st g c s → pz_Z X nL pc lv st g c s := by
  obtain ⟨p, l, e, R, s, m, args, below, meth, c, Q, D, cy, A, En⟩ := X
  obtain ⟨hx, hb, hml, hown, hts, hK, hA, hOk, hEn⟩ := hX
  obtain ⟨l', D', cy', En'⟩ := G
  cases hGX
  intro lv st g c0 s0 hn hav h ls H locs hl hP hS
  obtain ⟨h1, h2, h3, h4, h5⟩ := h
  obtain ⟨b, As, lb, fs, hAs, ha⟩ := hav
  obtain ⟨L, hL, hPP, hD⟩ := id hP
  obtain ⟨-, -, k0, hk0⟩ := pz_at (cy := cy) hL ha
  have hlen : As.length = n := by
    have := congrArg List.length hAs
    rw [List.length_reverse, List.length_take, List.length_cons] at this
    omega
  have hstk : (F0 m pc ls (st.map pz_v)).stack = (As.map pz_v).reverse ++ .ref b :: (st.drop (n + 1)).map pz_v := by
    have := pz_stk st (n + 1)
    rw [hAs, List.map_cons, List.reverse_cons, List.append_assoc] at this
    exact this
  rw [hAs] at h4 h5
  have hr := va_runF (As := As.map pz_v) (rest := (st.drop (n + 1)).map pz_v) (b := b) (g := F0 m pc ls (st.map pz_v)) (cells := c0) (slots := s0) (locs := locs) (below := below) (meth := meth) (R := R) (e := e) (C := C) (hK.1 ci _ hc).2 ⟨hx, hb, hml, hown, hts⟩ (hM (.inr (.inr (some b)) :: As) g H.size h4) (va_cwF n hts (pz_GoodC hw1 (pz_GoodC hw5 (pz_GoodC hw2 (pz_GoodC hw3 (pz_GoodIn hw4))))) rfl rfl rfl (hF _ _ _ hEn) hdd hR) ⟨pz_blind hOk _ _ _, va_recv hK hPP hc hk0, pz_preOf hOk hEn hP hS hA hK (.inr (.inr (some b)) :: As)⟩ rfl (by rw [List.length_map]; exact hlen) hl.1 hstk (by have e9 : 2 * (F0 m pc ls (st.map pz_v)).monitorRoom = 0 := rfl; rw [e9, List.map_map, Nat.zero_add]; exact h3) hd ⟨h1, h2⟩
  exact pz_callW5 hr hS (pz_subA hP hS hA) (fun v g' H1 locs1 hsh hp hP1 hS1 => by
    have := hk v lv (st.drop (n + 1)) g' _ _ hsh (h5 v g' hp) ls H1 locs1 hl hP1 hS1
    rw [List.map_append] at this
    cases v <;> exact this)
def zo_cs (R : Room) (n len mc ms : Nat) (pre : List pz_V → pz_H → Prop) (post : List pz_V → pz_H → Option pz_V → pz_H → Prop) (KK : Option pz_V → pz_K) : pz_K := fun pc lv st g c s => n ≤ st.length ∧ zo_c R n len mc ms pre post KK pc lv st g c s
def zo_cI (R : Room) (n len mc ms : Nat) (pre : List pz_V → pz_H → Prop) (post : List pz_V → pz_H → Option pz_V → pz_H → Prop) (KK : Option pz_V → pz_K) : pz_K := fun pc lv st g c s => n + 1 ≤ st.length ∧ (∃ b As, (st.take (n + 1)).reverse = .inr (.inr (some b)) :: As) ∧ zo_c R (n + 1) len mc ms pre post KK pc lv st g c s
def zo_cV (R : Room) (ci n len mc ms : Nat) (pre : List pz_V → pz_H → Prop) (post : List pz_V → pz_H → Option pz_V → pz_H → Prop) (KK : Option pz_V → pz_K) : pz_K := fun pc lv st g c s => n + 1 ≤ st.length ∧ (∃ b As lb fs, (st.take (n + 1)).reverse = .inr (.inr (some b)) :: As ∧ g b = some (lb, .inr (ci, fs))) ∧ zo_c R (n + 1) len mc ms pre post KK pc lv st g c s
theorem zs_csS {X : pz_C} {cc : ByteArray} {nL : Nat} {own : String} {KK : Option pz_V → pz_K} {pc : Nat} {G : pz_Gx} {y : MethodName} {bytes : ByteArray} {maxL n ix : Nat} {ret : Option FieldType} {rm : Room} {pre : List pz_V → pz_H → Prop} {post : List pz_V → pz_H → Option pz_V → pz_H → Prop} (hX : pz_X X cc nL own) (hGX : pz_GX X G) (hM : pz_M G y bytes maxL ret rm pre post) (hw1 : Cond.methodLink own ix y ∈ pz_W) (hw2 : Cond.static y ∈ pz_W) (hw3 : Cond.initialized y.cls ∈ pz_W) (hw4 : Cond.code y bytes maxL ret ∈ pz_W) (hdd : y.cls ≠ "java/lang/invoke/MethodHandle" ∧ y.cls ≠ "java/lang/invoke/VarHandle" ∧ (parseMethodDescriptor y.desc).map (fun d => d.parameters.length) = some n) (hR : rm.frames + 1 ≤ (pz_rm X).frames ∧ 8 + (maxL + 11) + rm.locals ≤ (pz_rm X).locals) (hd : decode cc pc = .ok (.invokestatic ix, 3)) (hk : zo_KOk X nL (pc + 3) ret KK) : ∀ lv st g c s, zo_cs (pz_rm X) n 3 rm.cells rm.slots pre post KK pc lv st g c s → pz_Z X nL pc lv st g c s := fun lv st g c s h => zs_cS hX hGX hM hw1 hw2 hw3 hw4 hdd hR hd hk lv st g c s h.1 h.2
theorem zs_csI {X : pz_C} {cc : ByteArray} {nL : Nat} {own : String} {KK : Option pz_V → pz_K} {pc : Nat} {G : pz_Gx} {y : MethodName} {bytes : ByteArray} {maxL n ix : Nat} {rm : Room} {pre : List pz_V → pz_H → Prop} {post : List pz_V → pz_H → Option pz_V → pz_H → Prop} (hX : pz_X X cc nL own) (hGX : pz_GX X G) (hM : pz_M G y bytes maxL none rm pre post) (hw1 : Cond.methodLink own ix y ∈ pz_W) (hw2 : Cond.instanceMethod y ∈ pz_W) (hw3 : Cond.initialized y.cls ∈ pz_W) (hw4 : Cond.code y bytes maxL none ∈ pz_W) (hy1 : y.name = "<init>") (hdd : y.cls ≠ "java/lang/invoke/MethodHandle" ∧ y.cls ≠ "java/lang/invoke/VarHandle" ∧ (parseMethodDescriptor y.desc).map (fun d => d.parameters.length) = some n) (hR : rm.frames + 1 ≤ (pz_rm X).frames ∧ 8 + (maxL + 11) + rm.locals ≤ (pz_rm X).locals) (hd : decode cc pc = .ok (.invokespecial ix, 3)) (hk : zo_KOk X nL (pc + 3) none KK) : ∀ lv st g c s, zo_cI (pz_rm X) n 3 rm.cells rm.slots pre post KK pc lv st g c s → pz_Z X nL pc lv st g c s := fun lv st g c s h => zs_cI hX hGX hM hw1 hw2 hw3 hw4 hy1 hdd hR hd hk lv st g c s h.1 h.2.1 h.2.2
theorem zs_csV {X : pz_C} {cc : ByteArray} {nL : Nat} {own : String} {KK : Option pz_V → pz_K} {pc : Nat} {G : pz_Gx} {y : MethodName} {bytes : ByteArray} {maxL n ix : Nat} {ret : Option FieldType} {rm : Room} {pre : List pz_V → pz_H → Prop} {post : List pz_V → pz_H → Option pz_V → pz_H → Prop} (hX : pz_X X cc nL own) (hGX : pz_GX X G) {C : String} {T : u_T} {N ci : Nat} (hc : vwCl[ci]? = some (C, T, N)) (hM : pz_M G y bytes maxL ret rm pre post) (hw1 : Cond.methodLink own ix y ∈ pz_W) (hw2 : Cond.instanceMethod y ∈ pz_W) (hw5 : Cond.selects C y y ∈ pz_W) (hw3 : Cond.initialized C ∈ pz_W) (hw4 : Cond.code y bytes maxL ret ∈ pz_W) (hdd : y.cls = C ∧ y.cls ≠ "java/lang/invoke/MethodHandle" ∧ y.cls ≠ "java/lang/invoke/VarHandle" ∧ (parseMethodDescriptor y.desc).map (fun d => d.parameters.length) = some n) (hR : rm.frames + 1 ≤ (pz_rm X).frames ∧ 8 + (maxL + 11) + rm.locals ≤ (pz_rm X).locals) (hd : decode cc pc = .ok (.invokevirtual ix, 3)) (hk : zo_KOk X nL (pc + 3) ret KK) : ∀ lv st g c s, zo_cV (pz_rm X) ci n 3 rm.cells rm.slots pre post KK pc lv st g c s → pz_Z X nL pc lv st g c s := fun lv st g c s h => zs_cV hX hGX hc hM hw1 hw2 hw5 hw3 hw4 hdd hR hd hk lv st g c s h.1 h.2.1 h.2.2
theorem zs_csF {X : pz_C} {cc : ByteArray} {nL : Nat} {own : String} {KK : Option pz_V → pz_K} {pc : Nat} {G : pz_Gx} {x y : MethodName} {bytes : ByteArray} {maxL n ix : Nat} {ret : Option FieldType} {rm : Room} {pre : List pz_V → pz_H → Prop} {post : List pz_V → pz_H → Option pz_V → pz_H → Prop} (hX : pz_X X cc nL own) (hGX : pz_GX X G) {C : String} {T : u_T} {N ci count : Nat} (hc : vwCl[ci]? = some (C, T, N)) (hM : pz_M G y bytes maxL ret rm pre post) (hF : ∀ (B : Nat → Prop) (U : State) (J : Heap), G.2.2.2 B U J → va_Fw C x y U) (hw1 : Cond.methodLink own ix x ∈ pz_W) (hw5 : Cond.selects C x y ∈ pz_W) (hw2 : Cond.instanceMethod y ∈ pz_W) (hw3 : Cond.initialized y.cls ∈ pz_W) (hw4 : Cond.code y bytes maxL ret ∈ pz_W) (hdd : x.cls ≠ "java/lang/invoke/MethodHandle" ∧ x.cls ≠ "java/lang/invoke/VarHandle" ∧ (parseMethodDescriptor x.desc).map (fun d => d.parameters.length) = some n) (hR : rm.frames + 1 ≤ (pz_rm X).frames ∧ 8 + (maxL + 11) + rm.locals ≤ (pz_rm X).locals) (hd : decode cc pc = .ok (.invokeinterface ix count, 5)) (hk : zo_KOk X nL (pc + 5) ret KK) : ∀ lv st g c s, zo_cV (pz_rm X) ci n 5 rm.cells rm.slots pre post KK pc lv st g c s → pz_Z X nL pc lv st g c s := fun lv st g c s h => zs_cF hX hGX hc hM hF hw1 hw5 hw2 hw3 hw4 hdd hR hd hk lv st g c s h.1 h.2.1 h.2.2
end
section
set_option maxRecDepth 100000 in
theorem in_Jx4a65c : ∀ w ∈ u_ws RJx4a65c TJx4a65c 3, w ∈ pz_W := fun w h => pz_in ((by decide +kernel : ∀ w ∈ u_ws RJx4a65c TJx4a65c 3, w ∈ lw_tbl) w h) ((by decide +kernel : ∀ w ∈ u_ws RJx4a65c TJx4a65c 3, goodWord w = true) w h)
set_option maxRecDepth 100000 in
theorem in_X0 : ∀ w ∈ u_ws RX0 TX0 3, w ∈ pz_W := fun w h => pz_in ((by decide +kernel : ∀ w ∈ u_ws RX0 TX0 3, w ∈ lw_tbl) w h) ((by decide +kernel : ∀ w ∈ u_ws RX0 TX0 3, goodWord w = true) w h)
set_option maxRecDepth 100000 in
theorem in_X1 : ∀ w ∈ u_ws RX1 TX1 4, w ∈ pz_W := fun w h => pz_in ((by decide +kernel : ∀ w ∈ u_ws RX1 TX1 4, w ∈ lw_tbl) w h) ((by decide +kernel : ∀ w ∈ u_ws RX1 TX1 4, goodWord w = true) w h)
set_option maxRecDepth 100000 in
theorem in_X2 : ∀ w ∈ u_ws RX2 TX2 3, w ∈ pz_W := fun w h => pz_in ((by decide +kernel : ∀ w ∈ u_ws RX2 TX2 3, w ∈ lw_tbl) w h) ((by decide +kernel : ∀ w ∈ u_ws RX2 TX2 3, goodWord w = true) w h)
set_option maxRecDepth 100000 in
theorem in_X3 : ∀ w ∈ u_ws RX3 TX3 11, w ∈ pz_W := fun w h => pz_in ((by decide +kernel : ∀ w ∈ u_ws RX3 TX3 11, w ∈ lw_tbl) w h) ((by decide +kernel : ∀ w ∈ u_ws RX3 TX3 11, goodWord w = true) w h)
set_option maxRecDepth 100000 in
theorem in_X4 : ∀ w ∈ u_ws RX4 TX4 5, w ∈ pz_W := fun w h => pz_in ((by decide +kernel : ∀ w ∈ u_ws RX4 TX4 5, w ∈ lw_tbl) w h) ((by decide +kernel : ∀ w ∈ u_ws RX4 TX4 5, goodWord w = true) w h)
set_option maxRecDepth 100000 in
theorem in_X5 : ∀ w ∈ u_ws RX5 TX5 3, w ∈ pz_W := fun w h => pz_in ((by decide +kernel : ∀ w ∈ u_ws RX5 TX5 3, w ∈ lw_tbl) w h) ((by decide +kernel : ∀ w ∈ u_ws RX5 TX5 3, goodWord w = true) w h)
set_option maxRecDepth 100000 in
theorem in_X6 : ∀ w ∈ u_ws RX6 TX6 6, w ∈ pz_W := fun w h => pz_in ((by decide +kernel : ∀ w ∈ u_ws RX6 TX6 6, w ∈ lw_tbl) w h) ((by decide +kernel : ∀ w ∈ u_ws RX6 TX6 6, goodWord w = true) w h)
set_option maxRecDepth 100000 in
theorem in_X7 : ∀ w ∈ u_ws RX7 TX7 2, w ∈ pz_W := fun w h => pz_in ((by decide +kernel : ∀ w ∈ u_ws RX7 TX7 2, w ∈ lw_tbl) w h) ((by decide +kernel : ∀ w ∈ u_ws RX7 TX7 2, goodWord w = true) w h)
set_option maxRecDepth 100000 in
theorem in_X8 : ∀ w ∈ u_ws RX8 TX8 3, w ∈ pz_W := fun w h => pz_in ((by decide +kernel : ∀ w ∈ u_ws RX8 TX8 3, w ∈ lw_tbl) w h) ((by decide +kernel : ∀ w ∈ u_ws RX8 TX8 3, goodWord w = true) w h)
set_option maxRecDepth 100000 in
theorem in_X9 : ∀ w ∈ u_ws RX9 TX9 7, w ∈ pz_W := fun w h => pz_in ((by decide +kernel : ∀ w ∈ u_ws RX9 TX9 7, w ∈ lw_tbl) w h) ((by decide +kernel : ∀ w ∈ u_ws RX9 TX9 7, goodWord w = true) w h)
set_option maxRecDepth 100000 in
theorem in_X10 : ∀ w ∈ u_ws RX10 TX10 37, w ∈ pz_W := fun w h => pz_in ((by decide +kernel : ∀ w ∈ u_ws RX10 TX10 37, w ∈ lw_tbl) w h) ((by decide +kernel : ∀ w ∈ u_ws RX10 TX10 37, goodWord w = true) w h)
theorem mw_b945c40c : Cond.selects RX6 yX6_parseItem yX6_parseItem ∈ pz_W := pz_in (List.mem_append_left _ (List.mem_of_getElem? (i := 0) (by decide +kernel))) (by decide +kernel)
theorem mw_e772b8d6 : Cond.selects RX6 yX6_stands yX6_stands ∈ pz_W := pz_in (List.mem_append_left _ (List.mem_of_getElem? (i := 1) (by decide +kernel))) (by decide +kernel)
theorem mw_99b0a707 : Cond.selects RX6 yX6_parseLine yX6_parseLine ∈ pz_W := pz_in (List.mem_append_left _ (List.mem_of_getElem? (i := 2) (by decide +kernel))) (by decide +kernel)
theorem mw_ecfa4db1 : Cond.selects RX6 yX6_parseNumber yX6_parseNumber ∈ pz_W := pz_in (List.mem_append_left _ (List.mem_of_getElem? (i := 3) (by decide +kernel))) (by decide +kernel)
theorem mw_a7f042f4 : Cond.selects RJx4a65c yJx4a65c_grow_d5877 yJx4a65c_grow_d5877 ∈ pz_W := pz_in (List.mem_append_left _ (List.mem_of_getElem? (i := 5) (by decide +kernel))) (by decide +kernel)
theorem mw_dd878a92 : Cond.selects RJx4a65c yJx4a65c_grow_92f84 yJx4a65c_grow_92f84 ∈ pz_W := pz_in (List.mem_append_left _ (List.mem_of_getElem? (i := 6) (by decide +kernel))) (by decide +kernel)
theorem mw_4aa80949 : Cond.selects RX6 yX6_lastHasRoom yX6_lastHasRoom ∈ pz_W := pz_in (List.mem_append_left _ (List.mem_of_getElem? (i := 7) (by decide +kernel))) (by decide +kernel)
theorem mw_32fdaecf : Cond.selects RX6 yX6_parseStop yX6_parseStop ∈ pz_W := pz_in (List.mem_append_left _ (List.mem_of_getElem? (i := 8) (by decide +kernel))) (by decide +kernel)
theorem mw_883123ce : Cond.selects RX6 yX6_parseSign yX6_parseSign ∈ pz_W := pz_in (List.mem_append_left _ (List.mem_of_getElem? (i := 9) (by decide +kernel))) (by decide +kernel)
theorem mw_81fa01b7 : Cond.selects RX4 yX4_workOutRuns yX4_workOutRuns ∈ pz_W := pz_in (List.mem_append_left _ (List.mem_of_getElem? (i := 11) (by decide +kernel))) (by decide +kernel)
theorem mw_ba907501 : Cond.selects RX3 yX3_runsOn yX3_runsOn ∈ pz_W := pz_in (List.mem_append_left _ (List.mem_of_getElem? (i := 12) (by decide +kernel))) (by decide +kernel)
theorem mw_1d00ce55 : Cond.selects RX3 yX3_workOutTimes yX3_workOutTimes ∈ pz_W := pz_in (List.mem_append_left _ (List.mem_of_getElem? (i := 13) (by decide +kernel))) (by decide +kernel)
theorem mw_61d3abdd : Cond.selects RX3 yX3_gatherLate yX3_gatherLate ∈ pz_W := pz_in (List.mem_append_left _ (List.mem_of_getElem? (i := 14) (by decide +kernel))) (by decide +kernel)
theorem mw_71ef1389 : Cond.selects RX4 yX4_spread yX4_spread ∈ pz_W := pz_in (List.mem_append_left _ (List.mem_of_getElem? (i := 15) (by decide +kernel))) (by decide +kernel)
theorem mw_ac647976 : Cond.selects RX4 yX4_ride yX4_ride ∈ pz_W := pz_in (List.mem_append_left _ (List.mem_of_getElem? (i := 16) (by decide +kernel))) (by decide +kernel)
theorem mw_c0c583b8 : Cond.selects RX4 yX4_canEnter yX4_canEnter ∈ pz_W := pz_in (List.mem_append_left _ (List.mem_of_getElem? (i := 17) (by decide +kernel))) (by decide +kernel)
theorem mw_a4245f78 : Cond.selects RX4 yX4_tellLastLeg yX4_tellLastLeg ∈ pz_W := pz_in (List.mem_append_left _ (List.mem_of_getElem? (i := 18) (by decide +kernel))) (by decide +kernel)
theorem mw_cee56dd3 : Cond.selects RX4 yX4_findLeg yX4_findLeg ∈ pz_W := pz_in (List.mem_append_left _ (List.mem_of_getElem? (i := 19) (by decide +kernel))) (by decide +kernel)
theorem mw_646adad6 : Cond.selects RX4 yX4_findEntry yX4_findEntry ∈ pz_W := pz_in (List.mem_append_left _ (List.mem_of_getElem? (i := 20) (by decide +kernel))) (by decide +kernel)
theorem mw_88968ee8 : Cond.selects RX4 yX4_gatherRun yX4_gatherRun ∈ pz_W := pz_in (List.mem_append_left _ (List.mem_of_getElem? (i := 21) (by decide +kernel))) (by decide +kernel)
theorem mw_7c91c019 : Cond.selects RX10 yX10_refused yX10_refused ∈ pz_W := pz_in (List.mem_append_left _ (List.mem_of_getElem? (i := 22) (by decide +kernel))) (by decide +kernel)
theorem mw_6737fe84 : Cond.selects RX10 yX10_isLine yX10_isLine ∈ pz_W := pz_in (List.mem_append_left _ (List.mem_of_getElem? (i := 23) (by decide +kernel))) (by decide +kernel)
theorem mw_f9e1ba14 : Cond.selects RX10 yX10_addStop yX10_addStop ∈ pz_W := pz_in (List.mem_append_left _ (List.mem_of_getElem? (i := 24) (by decide +kernel))) (by decide +kernel)
theorem mw_68fd3f6b : Cond.selects RX10 yX10_round yX10_round ∈ pz_W := pz_in (List.mem_append_left _ (List.mem_of_getElem? (i := 25) (by decide +kernel))) (by decide +kernel)
theorem mw_62cbaf3f : Cond.selects RX10 yX10_take yX10_take ∈ pz_W := pz_in (List.mem_append_left _ (List.mem_of_getElem? (i := 26) (by decide +kernel))) (by decide +kernel)
theorem mw_a96dd931 : Cond.selects RX10 yX10_runs yX10_runs ∈ pz_W := pz_in (List.mem_append_left _ (List.mem_of_getElem? (i := 27) (by decide +kernel))) (by decide +kernel)
theorem mw_7ec4fd9a : Cond.selects RX10 yX10_timeAt yX10_timeAt ∈ pz_W := pz_in (List.mem_append_left _ (List.mem_of_getElem? (i := 28) (by decide +kernel))) (by decide +kernel)
theorem mw_8d466a6e : Cond.selects RX10 yX10_minutesAt yX10_minutesAt ∈ pz_W := pz_in (List.mem_append_left _ (List.mem_of_getElem? (i := 29) (by decide +kernel))) (by decide +kernel)
theorem mw_a97a7539 : Cond.selects RX10 yX10_lateAt yX10_lateAt ∈ pz_W := pz_in (List.mem_append_left _ (List.mem_of_getElem? (i := 30) (by decide +kernel))) (by decide +kernel)
theorem mw_32e14c6f : Cond.selects RX10 yX10_ready yX10_ready ∈ pz_W := pz_in (List.mem_append_left _ (List.mem_of_getElem? (i := 31) (by decide +kernel))) (by decide +kernel)
theorem mw_2eae6606 : Cond.selects RX10 yX10_isLeg yX10_isLeg ∈ pz_W := pz_in (List.mem_append_left _ (List.mem_of_getElem? (i := 32) (by decide +kernel))) (by decide +kernel)
theorem mw_1aacad54 : Cond.selects RX10 yX10_choose yX10_choose ∈ pz_W := pz_in (List.mem_append_left _ (List.mem_of_getElem? (i := 33) (by decide +kernel))) (by decide +kernel)
theorem mw_a43e0317 : Cond.selects RX10 yX10_keepTimes yX10_keepTimes ∈ pz_W := pz_in (List.mem_append_left _ (List.mem_of_getElem? (i := 34) (by decide +kernel))) (by decide +kernel)
theorem mw_5e5335cd : Cond.selects RX10 yX10_goOn yX10_goOn ∈ pz_W := pz_in (List.mem_append_left _ (List.mem_of_getElem? (i := 35) (by decide +kernel))) (by decide +kernel)
theorem mw_672af563 : Cond.selects RX10 yX10_look yX10_look ∈ pz_W := pz_in (List.mem_append_left _ (List.mem_of_getElem? (i := 36) (by decide +kernel))) (by decide +kernel)
theorem mw_835bf90e : Cond.selects RX10 yX10_fail yX10_fail ∈ pz_W := pz_in (List.mem_append_left _ (List.mem_of_getElem? (i := 37) (by decide +kernel))) (by decide +kernel)
theorem mw_d9a567a8 : Cond.selects RX10 yX10_number yX10_number ∈ pz_W := pz_in (List.mem_append_left _ (List.mem_of_getElem? (i := 38) (by decide +kernel))) (by decide +kernel)
theorem mw_44568455 : Cond.selects RX10 yX10_readStop yX10_readStop ∈ pz_W := pz_in (List.mem_append_left _ (List.mem_of_getElem? (i := 39) (by decide +kernel))) (by decide +kernel)
theorem mw_68bc6fd1 : Cond.selects RX10 yX10_blank yX10_blank ∈ pz_W := pz_in (List.mem_append_left _ (List.mem_of_getElem? (i := 40) (by decide +kernel))) (by decide +kernel)
theorem mw_8bb91264 : Cond.initialized RX9 ∈ pz_W := pz_in (List.mem_append_right _ (List.mem_append_left _ (List.mem_of_getElem? (i := 1) (by decide +kernel)))) (by decide +kernel)
theorem mw_5ae0c28b : Cond.initialized RX4 ∈ pz_W := pz_in (List.mem_append_right _ (List.mem_append_left _ (List.mem_of_getElem? (i := 2) (by decide +kernel)))) (by decide +kernel)
theorem mw_dedb4dee : Cond.initialized RJxa1e45 ∈ pz_W := pz_in (List.mem_append_right _ (List.mem_append_left _ (List.mem_of_getElem? (i := 3) (by decide +kernel)))) (by decide +kernel)
theorem mw_5f7525d4 : Cond.initialized RJxc12de ∈ pz_W := pz_in (List.mem_append_right _ (List.mem_append_left _ (List.mem_of_getElem? (i := 4) (by decide +kernel)))) (by decide +kernel)
theorem mw_dd3bf01c : Cond.initialized RJx4a65c ∈ pz_W := pz_in (List.mem_append_right _ (List.mem_append_left _ (List.mem_of_getElem? (i := 5) (by decide +kernel)))) (by decide +kernel)
theorem mw_fae7169a : Cond.initialized RX5 ∈ pz_W := pz_in (List.mem_append_right _ (List.mem_append_left _ (List.mem_of_getElem? (i := 6) (by decide +kernel)))) (by decide +kernel)
theorem mw_a7e3565f : Cond.initialized RX7 ∈ pz_W := pz_in (List.mem_append_right _ (List.mem_append_left _ (List.mem_of_getElem? (i := 7) (by decide +kernel)))) (by decide +kernel)
theorem mw_ee921776 : Cond.initialized RX2 ∈ pz_W := pz_in (List.mem_append_right _ (List.mem_append_left _ (List.mem_of_getElem? (i := 8) (by decide +kernel)))) (by decide +kernel)
theorem mw_59af5b5a : Cond.initialized RX6 ∈ pz_W := pz_in (List.mem_append_right _ (List.mem_append_left _ (List.mem_of_getElem? (i := 9) (by decide +kernel)))) (by decide +kernel)
theorem mw_33939a39 : Cond.initialized RX10 ∈ pz_W := pz_in (List.mem_append_right _ (List.mem_append_left _ (List.mem_of_getElem? (i := 10) (by decide +kernel)))) (by decide +kernel)
theorem mw_ad64dfa1 : Cond.initialized RX3 ∈ pz_W := pz_in (List.mem_append_right _ (List.mem_append_left _ (List.mem_of_getElem? (i := 16) (by decide +kernel)))) (by decide +kernel)
theorem mw_efe7719f : Cond.initialized RJ8 ∈ pz_W := pz_in (List.mem_append_right _ (List.mem_append_left _ (List.mem_of_getElem? (i := 17) (by decide +kernel)))) (by decide +kernel)
theorem mw_6c163f40 : Cond.initialized RJ9 ∈ pz_W := pz_in (List.mem_append_right _ (List.mem_append_left _ (List.mem_of_getElem? (i := 18) (by decide +kernel)))) (by decide +kernel)
theorem mw_76fc92b1 : Cond.initialized RJ7 ∈ pz_W := pz_in (List.mem_append_right _ (List.mem_append_left _ (List.mem_of_getElem? (i := 19) (by decide +kernel)))) (by decide +kernel)
theorem mw_9f309c20 : Cond.initialized RJ15 ∈ pz_W := pz_in (List.mem_append_right _ (List.mem_append_left _ (List.mem_of_getElem? (i := 22) (by decide +kernel)))) (by decide +kernel)
theorem mw_607d3767 : Cond.initialized RJ3 ∈ pz_W := pz_in (List.mem_append_right _ (List.mem_append_left _ (List.mem_of_getElem? (i := 23) (by decide +kernel)))) (by decide +kernel)
theorem mw_3f2a2ae7 : Cond.initialized RX0 ∈ pz_W := pz_in (List.mem_append_right _ (List.mem_append_left _ (List.mem_of_getElem? (i := 24) (by decide +kernel)))) (by decide +kernel)
theorem mw_2423a86d : Cond.initialized RX8 ∈ pz_W := pz_in (List.mem_append_right _ (List.mem_append_left _ (List.mem_of_getElem? (i := 25) (by decide +kernel)))) (by decide +kernel)
theorem mw_4bb6cc20 : Cond.initialized RX1 ∈ pz_W := pz_in (List.mem_append_right _ (List.mem_append_left _ (List.mem_of_getElem? (i := 26) (by decide +kernel)))) (by decide +kernel)
theorem mw_5fac6ae1 : Cond.methodLink RX9 3 objectInit ∈ pz_W := pz_in (List.mem_append_right _ (List.mem_append_left _ (List.mem_of_getElem? (i := 33) (by decide +kernel)))) (by decide +kernel)
theorem mw_98b694a7 : Cond.instanceMethod objectInit ∈ pz_W := pz_in (List.mem_append_right _ (List.mem_append_left _ (List.mem_of_getElem? (i := 34) (by decide +kernel)))) (by decide +kernel)
theorem mw_abc23770 : Cond.code objectInit ⟨#[0xb1]⟩ 1 none ∈ pz_W := pz_in (List.mem_append_right _ (List.mem_append_left _ (List.mem_of_getElem? (i := 35) (by decide +kernel)))) (by decide +kernel)
theorem mw_20beb786 : Cond.classLink RX9 9 RX4 ∈ pz_W := pz_in (List.mem_append_right _ (List.mem_append_left _ (List.mem_of_getElem? (i := 36) (by decide +kernel)))) (by decide +kernel)
theorem mw_f906728f : Cond.instantiable RX4 5 ∈ pz_W := pz_in (List.mem_append_right _ (List.mem_append_left _ (List.mem_of_getElem? (i := 37) (by decide +kernel)))) (by decide +kernel)
theorem mw_6cebf699 : Cond.methodLink RX9 11 yX4_init ∈ pz_W := pz_in (List.mem_append_right _ (List.mem_append_left _ (List.mem_of_getElem? (i := 38) (by decide +kernel)))) (by decide +kernel)
theorem mw_b6e9f5b0 : Cond.instanceMethod yX4_init ∈ pz_W := pz_in (List.mem_append_right _ (List.mem_append_left _ (List.mem_of_getElem? (i := 39) (by decide +kernel)))) (by decide +kernel)
theorem mw_c6fb3a3d : Cond.code yX4_init cX4_init 2 none ∈ pz_W := pz_in (List.mem_append_right _ (List.mem_append_left _ (List.mem_of_getElem? (i := 40) (by decide +kernel)))) (by decide +kernel)
theorem mw_b46972fe : Cond.methodLink RX4 3 objectInit ∈ pz_W := pz_in (List.mem_append_right _ (List.mem_append_left _ (List.mem_of_getElem? (i := 41) (by decide +kernel)))) (by decide +kernel)
theorem mw_bfae2e21 : Cond.classLink RX4 9 RJx4a65c ∈ pz_W := pz_in (List.mem_append_right _ (List.mem_append_left _ (List.mem_of_getElem? (i := 42) (by decide +kernel)))) (by decide +kernel)
theorem mw_2367215d : Cond.instantiable RJx4a65c 3 ∈ pz_W := pz_in (List.mem_append_right _ (List.mem_append_left _ (List.mem_of_getElem? (i := 43) (by decide +kernel)))) (by decide +kernel)
theorem mw_cc21773f : Cond.methodLink RX4 11 yJx4a65c_init_da8c8 ∈ pz_W := pz_in (List.mem_append_right _ (List.mem_append_left _ (List.mem_of_getElem? (i := 44) (by decide +kernel)))) (by decide +kernel)
theorem mw_6efabaf0 : Cond.instanceMethod yJx4a65c_init_da8c8 ∈ pz_W := pz_in (List.mem_append_right _ (List.mem_append_left _ (List.mem_of_getElem? (i := 45) (by decide +kernel)))) (by decide +kernel)
theorem mw_3492767b : Cond.code yJx4a65c_init_da8c8 cJx4a65c_init_da8c8 1 none ∈ pz_W := pz_in (List.mem_append_right _ (List.mem_append_left _ (List.mem_of_getElem? (i := 46) (by decide +kernel)))) (by decide +kernel)
theorem mw_d08883b7 : Cond.methodLink RJx4a65c 1 yJxc12de_init_da8c8 ∈ pz_W := pz_in (List.mem_append_right _ (List.mem_append_left _ (List.mem_of_getElem? (i := 47) (by decide +kernel)))) (by decide +kernel)
theorem mw_3ad7eb7a : Cond.instanceMethod yJxc12de_init_da8c8 ∈ pz_W := pz_in (List.mem_append_right _ (List.mem_append_left _ (List.mem_of_getElem? (i := 48) (by decide +kernel)))) (by decide +kernel)
theorem mw_d7b1b9a3 : Cond.code yJxc12de_init_da8c8 cJxc12de_init_da8c8 1 none ∈ pz_W := pz_in (List.mem_append_right _ (List.mem_append_left _ (List.mem_of_getElem? (i := 49) (by decide +kernel)))) (by decide +kernel)
theorem mw_d2a01495 : Cond.methodLink RJxc12de 1 yJxa1e45_init_da8c8 ∈ pz_W := pz_in (List.mem_append_right _ (List.mem_append_left _ (List.mem_of_getElem? (i := 50) (by decide +kernel)))) (by decide +kernel)
theorem mw_db60ebd7 : Cond.instanceMethod yJxa1e45_init_da8c8 ∈ pz_W := pz_in (List.mem_append_right _ (List.mem_append_left _ (List.mem_of_getElem? (i := 51) (by decide +kernel)))) (by decide +kernel)
theorem mw_eecdb2f6 : Cond.code yJxa1e45_init_da8c8 cJxa1e45_init_da8c8 1 none ∈ pz_W := pz_in (List.mem_append_right _ (List.mem_append_left _ (List.mem_of_getElem? (i := 52) (by decide +kernel)))) (by decide +kernel)
theorem mw_45541939 : Cond.methodLink RJxa1e45 1 objectInit ∈ pz_W := pz_in (List.mem_append_right _ (List.mem_append_left _ (List.mem_of_getElem? (i := 53) (by decide +kernel)))) (by decide +kernel)
theorem mw_87e553ed : Cond.fieldLink RJx4a65c 9 "java/util/ArrayList" "elementData" "[Ljava/lang/Object;" ∈ pz_W := pz_in (List.mem_append_right _ (List.mem_append_left _ (List.mem_of_getElem? (i := 56) (by decide +kernel)))) (by decide +kernel)
theorem mw_259fe66e : Cond.fieldLink RJx4a65c 48 "java/util/ArrayList" "size" "I" ∈ pz_W := pz_in (List.mem_append_right _ (List.mem_append_left _ (List.mem_of_getElem? (i := 57) (by decide +kernel)))) (by decide +kernel)
theorem mw_d78e19c5 : Cond.methodLink RX5 1 objectInit ∈ pz_W := pz_in (List.mem_append_right _ (List.mem_append_left _ (List.mem_of_getElem? (i := 76) (by decide +kernel)))) (by decide +kernel)
theorem mw_902ce658 : Cond.fieldLink RX5 7 "LineTimes$Place" "latest" "LLineTimes$ZoneRow;" ∈ pz_W := pz_in (List.mem_append_right _ (List.mem_append_left _ (List.mem_of_getElem? (i := 77) (by decide +kernel)))) (by decide +kernel)
theorem mw_d71ae628 : Cond.fieldLink RX5 25 "LineTimes$Place" "rowCount" "I" ∈ pz_W := pz_in (List.mem_append_right _ (List.mem_append_left _ (List.mem_of_getElem? (i := 78) (by decide +kernel)))) (by decide +kernel)
theorem mw_98606334 : Cond.fieldLink RX9 133 "LineTimes$Place" "rowCount" "I" ∈ pz_W := pz_in (List.mem_append_right _ (List.mem_append_left _ (List.mem_of_getElem? (i := 79) (by decide +kernel)))) (by decide +kernel)
theorem mw_6e55fdea : Cond.fieldLink RX9 144 "LineTimes$Place" "changeSeconds" "I" ∈ pz_W := pz_in (List.mem_append_right _ (List.mem_append_left _ (List.mem_of_getElem? (i := 80) (by decide +kernel)))) (by decide +kernel)
theorem mw_a7a2a259 : Cond.fieldLink RX4 91 "LineTimes$Place" "changeSeconds" "I" ∈ pz_W := pz_in (List.mem_append_right _ (List.mem_append_left _ (List.mem_of_getElem? (i := 81) (by decide +kernel)))) (by decide +kernel)
theorem mw_e0d6632e : Cond.arrayClass .int ∈ pz_W := pz_in (List.mem_append_right _ (List.mem_append_left _ (List.mem_of_getElem? (i := 89) (by decide +kernel)))) (by decide +kernel)
theorem mw_6a265c56 : Cond.fieldLink RX4 12 "LineTimes$Net" "lines" "Ljava/util/List;" ∈ pz_W := pz_in (List.mem_append_right _ (List.mem_append_left _ (List.mem_of_getElem? (i := 90) (by decide +kernel)))) (by decide +kernel)
theorem mw_6611bb1b : Cond.fieldLink RX9 45 "LineTimes$Net" "lines" "Ljava/util/List;" ∈ pz_W := pz_in (List.mem_append_right _ (List.mem_append_left _ (List.mem_of_getElem? (i := 91) (by decide +kernel)))) (by decide +kernel)
theorem mw_41e0f833 : Cond.fieldLink RX4 20 "LineTimes$Net" "places" "[LLineTimes$Place;" ∈ pz_W := pz_in (List.mem_append_right _ (List.mem_append_left _ (List.mem_of_getElem? (i := 92) (by decide +kernel)))) (by decide +kernel)
theorem mw_98ed5036 : Cond.fieldLink RX9 118 "LineTimes$Net" "places" "[LLineTimes$Place;" ∈ pz_W := pz_in (List.mem_append_right _ (List.mem_append_left _ (List.mem_of_getElem? (i := 93) (by decide +kernel)))) (by decide +kernel)
theorem mw_e3f537a3 : Cond.fieldLink RX4 26 "LineTimes$Net" "arrivals" "[[I" ∈ pz_W := pz_in (List.mem_append_right _ (List.mem_append_left _ (List.mem_of_getElem? (i := 94) (by decide +kernel)))) (by decide +kernel)
theorem mw_a3524283 : Cond.fieldLink RX9 179 "LineTimes$Net" "arrivals" "[[I" ∈ pz_W := pz_in (List.mem_append_right _ (List.mem_append_left _ (List.mem_of_getElem? (i := 95) (by decide +kernel)))) (by decide +kernel)
theorem mw_d8a77461 : Cond.fieldLink RX4 29 "LineTimes$Net" "soonest" "[I" ∈ pz_W := pz_in (List.mem_append_right _ (List.mem_append_left _ (List.mem_of_getElem? (i := 96) (by decide +kernel)))) (by decide +kernel)
theorem mw_38b84c97 : Cond.fieldLink RX4 50 "LineTimes$Net" "firstDay" "I" ∈ pz_W := pz_in (List.mem_append_right _ (List.mem_append_left _ (List.mem_of_getElem? (i := 97) (by decide +kernel)))) (by decide +kernel)
theorem mw_e355ab55 : Cond.classLink RX9 18 RX7 ∈ pz_W := pz_in (List.mem_append_right _ (List.mem_append_left _ (List.mem_of_getElem? (i := 109) (by decide +kernel)))) (by decide +kernel)
theorem mw_b69610e6 : Cond.instantiable RX7 2 ∈ pz_W := pz_in (List.mem_append_right _ (List.mem_append_left _ (List.mem_of_getElem? (i := 110) (by decide +kernel)))) (by decide +kernel)
theorem mw_dd054106 : Cond.methodLink RX7 3 objectInit ∈ pz_W := pz_in (List.mem_append_right _ (List.mem_append_left _ (List.mem_of_getElem? (i := 114) (by decide +kernel)))) (by decide +kernel)
theorem mw_4049032c : Cond.fieldLink RX4 99 "LineTimes$Way" "legs" "[[I" ∈ pz_W := pz_in (List.mem_append_right _ (List.mem_append_left _ (List.mem_of_getElem? (i := 117) (by decide +kernel)))) (by decide +kernel)
theorem mw_83be0897 : Cond.fieldLink RX9 185 "LineTimes$Way" "legs" "[[I" ∈ pz_W := pz_in (List.mem_append_right _ (List.mem_append_left _ (List.mem_of_getElem? (i := 118) (by decide +kernel)))) (by decide +kernel)
theorem mw_905299b9 : Cond.fieldLink RX4 94 "LineTimes$Way" "legCount" "I" ∈ pz_W := pz_in (List.mem_append_right _ (List.mem_append_left _ (List.mem_of_getElem? (i := 119) (by decide +kernel)))) (by decide +kernel)
theorem mw_72a2e363 : Cond.fieldLink RX9 166 "LineTimes$Way" "legCount" "I" ∈ pz_W := pz_in (List.mem_append_right _ (List.mem_append_left _ (List.mem_of_getElem? (i := 120) (by decide +kernel)))) (by decide +kernel)
theorem mw_3ed77d1a : Cond.methodLink RX2 3 objectInit ∈ pz_W := pz_in (List.mem_append_right _ (List.mem_append_left _ (List.mem_of_getElem? (i := 131) (by decide +kernel)))) (by decide +kernel)
theorem mw_73b11fd4 : Cond.fieldLink RX2 9 "LineTimes$Leavings" "times" "[I" ∈ pz_W := pz_in (List.mem_append_right _ (List.mem_append_left _ (List.mem_of_getElem? (i := 132) (by decide +kernel)))) (by decide +kernel)
theorem mw_b8fae221 : Cond.fieldLink RX9 215 "LineTimes$Leavings" "times" "[I" ∈ pz_W := pz_in (List.mem_append_right _ (List.mem_append_left _ (List.mem_of_getElem? (i := 133) (by decide +kernel)))) (by decide +kernel)
theorem mw_78ccfceb : Cond.fieldLink RX2 25 "LineTimes$Leavings" "count" "I" ∈ pz_W := pz_in (List.mem_append_right _ (List.mem_append_left _ (List.mem_of_getElem? (i := 134) (by decide +kernel)))) (by decide +kernel)
theorem mw_b5b717cc : Cond.fieldLink RX9 212 "LineTimes$Leavings" "count" "I" ∈ pz_W := pz_in (List.mem_append_right _ (List.mem_append_left _ (List.mem_of_getElem? (i := 135) (by decide +kernel)))) (by decide +kernel)
theorem mw_ace7bf61 : Cond.fieldLink RX2 21 "LineTimes$Leavings" "wanted" "I" ∈ pz_W := pz_in (List.mem_append_right _ (List.mem_append_left _ (List.mem_of_getElem? (i := 136) (by decide +kernel)))) (by decide +kernel)
theorem mw_edd5d14e : Cond.methodLink RX6 3 objectInit ∈ pz_W := pz_in (List.mem_append_right _ (List.mem_append_left _ (List.mem_of_getElem? (i := 149) (by decide +kernel)))) (by decide +kernel)
theorem mw_cde070bd : Cond.classLink RX6 9 RJx4a65c ∈ pz_W := pz_in (List.mem_append_right _ (List.mem_append_left _ (List.mem_of_getElem? (i := 150) (by decide +kernel)))) (by decide +kernel)
theorem mw_7a993529 : Cond.methodLink RX6 11 yJx4a65c_init_da8c8 ∈ pz_W := pz_in (List.mem_append_right _ (List.mem_append_left _ (List.mem_of_getElem? (i := 151) (by decide +kernel)))) (by decide +kernel)
theorem mw_aa01b0a6 : Cond.fieldLink RX6 12 "LineTimes$Text" "came" "Ljava/util/List;" ∈ pz_W := pz_in (List.mem_append_right _ (List.mem_append_left _ (List.mem_of_getElem? (i := 152) (by decide +kernel)))) (by decide +kernel)
theorem mw_889265f0 : Cond.fieldLink RX9 232 "LineTimes$Text" "came" "Ljava/util/List;" ∈ pz_W := pz_in (List.mem_append_right _ (List.mem_append_left _ (List.mem_of_getElem? (i := 153) (by decide +kernel)))) (by decide +kernel)
theorem mw_526baddf : Cond.fieldLink RX6 22 "LineTimes$Text" "length" "I" ∈ pz_W := pz_in (List.mem_append_right _ (List.mem_append_left _ (List.mem_of_getElem? (i := 154) (by decide +kernel)))) (by decide +kernel)
theorem mw_e7e9623b : Cond.fieldLink RX9 222 "LineTimes$Text" "length" "I" ∈ pz_W := pz_in (List.mem_append_right _ (List.mem_append_left _ (List.mem_of_getElem? (i := 155) (by decide +kernel)))) (by decide +kernel)
theorem mw_1d02cde0 : Cond.fieldLink RX6 18 "LineTimes$Text" "signs" "[C" ∈ pz_W := pz_in (List.mem_append_right _ (List.mem_append_left _ (List.mem_of_getElem? (i := 156) (by decide +kernel)))) (by decide +kernel)
theorem mw_efbf8de0 : Cond.fieldLink RX6 34 "LineTimes$Text" "at" "I" ∈ pz_W := pz_in (List.mem_append_right _ (List.mem_append_left _ (List.mem_of_getElem? (i := 157) (by decide +kernel)))) (by decide +kernel)
theorem mw_f486a86b : Cond.fieldLink RX6 37 "LineTimes$Text" "fault" "I" ∈ pz_W := pz_in (List.mem_append_right _ (List.mem_append_left _ (List.mem_of_getElem? (i := 158) (by decide +kernel)))) (by decide +kernel)
theorem mw_de20c77d : Cond.fieldLink RX6 31 "LineTimes$Text" "room" "I" ∈ pz_W := pz_in (List.mem_append_right _ (List.mem_append_left _ (List.mem_of_getElem? (i := 159) (by decide +kernel)))) (by decide +kernel)
theorem mw_6e9e5424 : Cond.arrayClass .char ∈ pz_W := pz_in (List.mem_append_right _ (List.mem_append_left _ (List.mem_of_getElem? (i := 173) (by decide +kernel)))) (by decide +kernel)
theorem mw_1c570542 : Cond.fieldLink RX9 12 "LineTimes" "net" "LLineTimes$Net;" ∈ pz_W := pz_in (List.mem_append_right _ (List.mem_append_left _ (List.mem_of_getElem? (i := 174) (by decide +kernel)))) (by decide +kernel)
theorem mw_b0dba466 : Cond.fieldLink RX9 21 "LineTimes" "way" "LLineTimes$Way;" ∈ pz_W := pz_in (List.mem_append_right _ (List.mem_append_left _ (List.mem_of_getElem? (i := 175) (by decide +kernel)))) (by decide +kernel)
theorem mw_9e3055e8 : Cond.fieldLink RX9 28 "LineTimes" "leavings" "LLineTimes$Leavings;" ∈ pz_W := pz_in (List.mem_append_right _ (List.mem_append_left _ (List.mem_of_getElem? (i := 176) (by decide +kernel)))) (by decide +kernel)
theorem mw_ee2ee132 : Cond.fieldLink RX9 35 "LineTimes" "text" "LLineTimes$Text;" ∈ pz_W := pz_in (List.mem_append_right _ (List.mem_append_left _ (List.mem_of_getElem? (i := 177) (by decide +kernel)))) (by decide +kernel)
theorem mw_32c830d4 : Cond.fieldLink RX9 101 "LineTimes" "exceptionCount" "I" ∈ pz_W := pz_in (List.mem_append_right _ (List.mem_append_left _ (List.mem_of_getElem? (i := 178) (by decide +kernel)))) (by decide +kernel)
theorem mw_24f3fbb4 : Cond.fieldLink RX9 136 "LineTimes" "zoneCount" "I" ∈ pz_W := pz_in (List.mem_append_right _ (List.mem_append_left _ (List.mem_of_getElem? (i := 179) (by decide +kernel)))) (by decide +kernel)
theorem mw_320ff82a : Cond.fieldLink RX9 150 "LineTimes" "lateCount" "I" ∈ pz_W := pz_in (List.mem_append_right _ (List.mem_append_left _ (List.mem_of_getElem? (i := 180) (by decide +kernel)))) (by decide +kernel)
theorem mw_57de62c0 : Cond.methodLink RX9 49 ⟨"java/util/List", "size", "()I"⟩ ∈ pz_W := pz_in (List.mem_append_right _ (List.mem_append_left _ (List.mem_of_getElem? (i := 201) (by decide +kernel)))) (by decide +kernel)
theorem mw_e0c83bb7 : Cond.selects RJx4a65c ⟨"java/util/List", "size", "()I"⟩ yJx4a65c_size_8abf5 ∈ pz_W := pz_in (List.mem_append_right _ (List.mem_append_left _ (List.mem_of_getElem? (i := 205) (by decide +kernel)))) (by decide +kernel)
theorem mw_8c7bf081 : Cond.instanceMethod yJx4a65c_size_8abf5 ∈ pz_W := pz_in (List.mem_append_right _ (List.mem_append_left _ (List.mem_of_getElem? (i := 207) (by decide +kernel)))) (by decide +kernel)
theorem mw_d1eac4b0 : Cond.code yJx4a65c_size_8abf5 cJx4a65c_size_8abf5 1 (some .int) ∈ pz_W := pz_in (List.mem_append_right _ (List.mem_append_left _ (List.mem_of_getElem? (i := 209) (by decide +kernel)))) (by decide +kernel)
theorem mw_cd2ff0c6 : Cond.methodLink RX9 228 yX6_parse ∈ pz_W := pz_in (List.mem_append_right _ (List.mem_append_left _ (List.mem_of_getElem? (i := 210) (by decide +kernel)))) (by decide +kernel)
theorem mw_8f10d46d : Cond.instanceMethod yX6_parse ∈ pz_W := pz_in (List.mem_append_right _ (List.mem_append_left _ (List.mem_of_getElem? (i := 211) (by decide +kernel)))) (by decide +kernel)
theorem mw_423d9463 : Cond.selects RX6 yX6_parse yX6_parse ∈ pz_W := pz_in (List.mem_append_right _ (List.mem_append_left _ (List.mem_of_getElem? (i := 212) (by decide +kernel)))) (by decide +kernel)
theorem mw_5a353f8f : Cond.code yX6_parse cX6_parse 3 (some .int) ∈ pz_W := pz_in (List.mem_append_right _ (List.mem_append_left _ (List.mem_of_getElem? (i := 213) (by decide +kernel)))) (by decide +kernel)
theorem mw_f2c4c734 : Cond.methodLink RX6 26 ⟨"java/util/List", "clear", "()V"⟩ ∈ pz_W := pz_in (List.mem_append_right _ (List.mem_append_left _ (List.mem_of_getElem? (i := 215) (by decide +kernel)))) (by decide +kernel)
theorem mw_1556ba1d : Cond.selects RJx4a65c ⟨"java/util/List", "clear", "()V"⟩ yJx4a65c_clear_da8c8 ∈ pz_W := pz_in (List.mem_append_right _ (List.mem_append_left _ (List.mem_of_getElem? (i := 218) (by decide +kernel)))) (by decide +kernel)
theorem mw_4fe049fb : Cond.instanceMethod yJx4a65c_clear_da8c8 ∈ pz_W := pz_in (List.mem_append_right _ (List.mem_append_left _ (List.mem_of_getElem? (i := 220) (by decide +kernel)))) (by decide +kernel)
theorem mw_e2a6a5de : Cond.code yJx4a65c_clear_da8c8 cJx4a65c_clear_da8c8 4 none ∈ pz_W := pz_in (List.mem_append_right _ (List.mem_append_left _ (List.mem_of_getElem? (i := 222) (by decide +kernel)))) (by decide +kernel)
theorem mw_c5133ef3 : Cond.methodLink RX6 40 yX6_parseItem ∈ pz_W := pz_in (List.mem_append_right _ (List.mem_append_left _ (List.mem_of_getElem? (i := 223) (by decide +kernel)))) (by decide +kernel)
theorem mw_b7e05c5d : Cond.instanceMethod yX6_parseItem ∈ pz_W := pz_in (List.mem_append_right _ (List.mem_append_left _ (List.mem_of_getElem? (i := 225) (by decide +kernel)))) (by decide +kernel)
theorem mw_3c9d58e5 : Cond.code yX6_parseItem cX6_parseItem 1 none ∈ pz_W := pz_in (List.mem_append_right _ (List.mem_append_left _ (List.mem_of_getElem? (i := 226) (by decide +kernel)))) (by decide +kernel)
theorem mw_fb379dcc : Cond.methodLink RX6 51 yX6_stands ∈ pz_W := pz_in (List.mem_append_right _ (List.mem_append_left _ (List.mem_of_getElem? (i := 227) (by decide +kernel)))) (by decide +kernel)
theorem mw_69bbb7ad : Cond.instanceMethod yX6_stands ∈ pz_W := pz_in (List.mem_append_right _ (List.mem_append_left _ (List.mem_of_getElem? (i := 229) (by decide +kernel)))) (by decide +kernel)
theorem mw_b04f04b9 : Cond.code yX6_stands cX6_stands 2 (some .boolean) ∈ pz_W := pz_in (List.mem_append_right _ (List.mem_append_left _ (List.mem_of_getElem? (i := 230) (by decide +kernel)))) (by decide +kernel)
theorem mw_1dca36d4 : Cond.methodLink RX6 47 ⟨"java/util/List", "size", "()I"⟩ ∈ pz_W := pz_in (List.mem_append_right _ (List.mem_append_left _ (List.mem_of_getElem? (i := 232) (by decide +kernel)))) (by decide +kernel)
theorem mw_e1c1cc34 : Cond.methodLink RX6 55 yX6_parseLine ∈ pz_W := pz_in (List.mem_append_right _ (List.mem_append_left _ (List.mem_of_getElem? (i := 233) (by decide +kernel)))) (by decide +kernel)
theorem mw_e6d95e78 : Cond.instanceMethod yX6_parseLine ∈ pz_W := pz_in (List.mem_append_right _ (List.mem_append_left _ (List.mem_of_getElem? (i := 235) (by decide +kernel)))) (by decide +kernel)
theorem mw_f4e87a71 : Cond.code yX6_parseLine cX6_parseLine 2 none ∈ pz_W := pz_in (List.mem_append_right _ (List.mem_append_left _ (List.mem_of_getElem? (i := 236) (by decide +kernel)))) (by decide +kernel)
theorem mw_7360403f : Cond.methodLink RX6 78 yX6_parseNumber ∈ pz_W := pz_in (List.mem_append_right _ (List.mem_append_left _ (List.mem_of_getElem? (i := 237) (by decide +kernel)))) (by decide +kernel)
theorem mw_283d2462 : Cond.instanceMethod yX6_parseNumber ∈ pz_W := pz_in (List.mem_append_right _ (List.mem_append_left _ (List.mem_of_getElem? (i := 239) (by decide +kernel)))) (by decide +kernel)
theorem mw_5fc2b268 : Cond.code yX6_parseNumber cX6_parseNumber 5 (some .int) ∈ pz_W := pz_in (List.mem_append_right _ (List.mem_append_right _ (List.mem_append_left _ (List.mem_of_getElem? (i := 0) (by decide +kernel))))) (by decide +kernel)
theorem mw_eccefa00 : Cond.classLink RX6 66 RX3 ∈ pz_W := pz_in (List.mem_append_right _ (List.mem_append_right _ (List.mem_append_left _ (List.mem_of_getElem? (i := 1) (by decide +kernel))))) (by decide +kernel)
theorem mw_5ff7e16d : Cond.instantiable RX3 11 ∈ pz_W := pz_in (List.mem_append_right _ (List.mem_append_right _ (List.mem_append_left _ (List.mem_of_getElem? (i := 2) (by decide +kernel))))) (by decide +kernel)
theorem mw_75c329a4 : Cond.methodLink RX6 82 yX3_init ∈ pz_W := pz_in (List.mem_append_right _ (List.mem_append_right _ (List.mem_append_left _ (List.mem_of_getElem? (i := 3) (by decide +kernel))))) (by decide +kernel)
theorem mw_bed9cbb3 : Cond.instanceMethod yX3_init ∈ pz_W := pz_in (List.mem_append_right _ (List.mem_append_right _ (List.mem_append_left _ (List.mem_of_getElem? (i := 4) (by decide +kernel))))) (by decide +kernel)
theorem mw_e5c97563 : Cond.code yX3_init cX3_init 2 none ∈ pz_W := pz_in (List.mem_append_right _ (List.mem_append_right _ (List.mem_append_left _ (List.mem_of_getElem? (i := 5) (by decide +kernel))))) (by decide +kernel)
theorem mw_e006af53 : Cond.methodLink RX3 3 objectInit ∈ pz_W := pz_in (List.mem_append_right _ (List.mem_append_right _ (List.mem_append_left _ (List.mem_of_getElem? (i := 6) (by decide +kernel))))) (by decide +kernel)
theorem mw_1e5c016b : Cond.fieldLink RX3 36 "LineTimes$Line" "weekDays" "I" ∈ pz_W := pz_in (List.mem_append_right _ (List.mem_append_right _ (List.mem_append_left _ (List.mem_of_getElem? (i := 8) (by decide +kernel))))) (by decide +kernel)
theorem mw_7ffb4013 : Cond.fieldLink RX3 9 "LineTimes$Line" "stopPlaces" "[I" ∈ pz_W := pz_in (List.mem_append_right _ (List.mem_append_right _ (List.mem_append_left _ (List.mem_of_getElem? (i := 9) (by decide +kernel))))) (by decide +kernel)
theorem mw_6bb37aef : Cond.fieldLink RX4 80 "LineTimes$Line" "stopPlaces" "[I" ∈ pz_W := pz_in (List.mem_append_right _ (List.mem_append_right _ (List.mem_append_left _ (List.mem_of_getElem? (i := 10) (by decide +kernel))))) (by decide +kernel)
theorem mw_22306b94 : Cond.fieldLink RX3 15 "LineTimes$Line" "stopArrives" "[I" ∈ pz_W := pz_in (List.mem_append_right _ (List.mem_append_right _ (List.mem_append_left _ (List.mem_of_getElem? (i := 11) (by decide +kernel))))) (by decide +kernel)
theorem mw_23200ee7 : Cond.fieldLink RX3 18 "LineTimes$Line" "stopLeaves" "[I" ∈ pz_W := pz_in (List.mem_append_right _ (List.mem_append_right _ (List.mem_append_left _ (List.mem_of_getElem? (i := 12) (by decide +kernel))))) (by decide +kernel)
theorem mw_eb463ec7 : Cond.fieldLink RX3 40 "LineTimes$Line" "stopCount" "I" ∈ pz_W := pz_in (List.mem_append_right _ (List.mem_append_right _ (List.mem_append_left _ (List.mem_of_getElem? (i := 13) (by decide +kernel))))) (by decide +kernel)
theorem mw_7ddd2f0e : Cond.fieldLink RX4 77 "LineTimes$Line" "stopCount" "I" ∈ pz_W := pz_in (List.mem_append_right _ (List.mem_append_right _ (List.mem_append_left _ (List.mem_of_getElem? (i := 14) (by decide +kernel))))) (by decide +kernel)
theorem mw_a4ceeadc : Cond.fieldLink RX9 147 "LineTimes$Line" "stopCount" "I" ∈ pz_W := pz_in (List.mem_append_right _ (List.mem_append_right _ (List.mem_append_left _ (List.mem_of_getElem? (i := 15) (by decide +kernel))))) (by decide +kernel)
theorem mw_d735ed7b : Cond.fieldLink RX9 105 "LineTimes$Line" "dayWords" "LLineTimes$DayWord;" ∈ pz_W := pz_in (List.mem_append_right _ (List.mem_append_right _ (List.mem_append_left _ (List.mem_of_getElem? (i := 16) (by decide +kernel))))) (by decide +kernel)
theorem mw_933948ad : Cond.fieldLink RX3 47 "LineTimes$Line" "dayWords" "LLineTimes$DayWord;" ∈ pz_W := pz_in (List.mem_append_right _ (List.mem_append_right _ (List.mem_append_left _ (List.mem_of_getElem? (i := 17) (by decide +kernel))))) (by decide +kernel)
theorem mw_eb3a61b5 : Cond.fieldLink RX9 155 "LineTimes$Line" "lateWords" "LLineTimes$LateWord;" ∈ pz_W := pz_in (List.mem_append_right _ (List.mem_append_right _ (List.mem_append_left _ (List.mem_of_getElem? (i := 18) (by decide +kernel))))) (by decide +kernel)
theorem mw_d775e35a : Cond.fieldLink RX3 91 "LineTimes$Line" "lateWords" "LLineTimes$LateWord;" ∈ pz_W := pz_in (List.mem_append_right _ (List.mem_append_right _ (List.mem_append_left _ (List.mem_of_getElem? (i := 19) (by decide +kernel))))) (by decide +kernel)
theorem mw_5b456fc6 : Cond.fieldLink RX3 21 "LineTimes$Line" "runs" "[Z" ∈ pz_W := pz_in (List.mem_append_right _ (List.mem_append_right _ (List.mem_append_left _ (List.mem_of_getElem? (i := 20) (by decide +kernel))))) (by decide +kernel)
theorem mw_324d2fc6 : Cond.fieldLink RX4 69 "LineTimes$Line" "runs" "[Z" ∈ pz_W := pz_in (List.mem_append_right _ (List.mem_append_right _ (List.mem_append_left _ (List.mem_of_getElem? (i := 21) (by decide +kernel))))) (by decide +kernel)
theorem mw_a565fce3 : Cond.fieldLink RX3 27 "LineTimes$Line" "arrivals" "[[I" ∈ pz_W := pz_in (List.mem_append_right _ (List.mem_append_right _ (List.mem_append_left _ (List.mem_of_getElem? (i := 22) (by decide +kernel))))) (by decide +kernel)
theorem mw_c4b4b32a : Cond.fieldLink RX4 83 "LineTimes$Line" "arrivals" "[[I" ∈ pz_W := pz_in (List.mem_append_right _ (List.mem_append_right _ (List.mem_append_left _ (List.mem_of_getElem? (i := 23) (by decide +kernel))))) (by decide +kernel)
theorem mw_d9a7b0a9 : Cond.fieldLink RX3 30 "LineTimes$Line" "departures" "[[I" ∈ pz_W := pz_in (List.mem_append_right _ (List.mem_append_right _ (List.mem_append_left _ (List.mem_of_getElem? (i := 24) (by decide +kernel))))) (by decide +kernel)
theorem mw_ab24417a : Cond.fieldLink RX4 84 "LineTimes$Line" "departures" "[[I" ∈ pz_W := pz_in (List.mem_append_right _ (List.mem_append_right _ (List.mem_append_left _ (List.mem_of_getElem? (i := 25) (by decide +kernel))))) (by decide +kernel)
theorem mw_b5197fa4 : Cond.fieldLink RX3 33 "LineTimes$Line" "lateBy" "[I" ∈ pz_W := pz_in (List.mem_append_right _ (List.mem_append_right _ (List.mem_append_left _ (List.mem_of_getElem? (i := 26) (by decide +kernel))))) (by decide +kernel)
theorem mw_7d1231b9 : Cond.arrayClass .boolean ∈ pz_W := pz_in (List.mem_append_right _ (List.mem_append_right _ (List.mem_append_left _ (List.mem_of_getElem? (i := 50) (by decide +kernel))))) (by decide +kernel)
theorem mw_ca7ab130 : Cond.methodLink RX6 85 ⟨"java/util/List", "add", "(Ljava/lang/Object;)Z"⟩ ∈ pz_W := pz_in (List.mem_append_right _ (List.mem_append_right _ (List.mem_append_left _ (List.mem_of_getElem? (i := 52) (by decide +kernel))))) (by decide +kernel)
theorem mw_40c6a661 : Cond.selects RJx4a65c ⟨"java/util/List", "add", "(Ljava/lang/Object;)Z"⟩ yJx4a65c_add_9ea2d ∈ pz_W := pz_in (List.mem_append_right _ (List.mem_append_right _ (List.mem_append_left _ (List.mem_of_getElem? (i := 55) (by decide +kernel))))) (by decide +kernel)
theorem mw_4686a889 : Cond.instanceMethod yJx4a65c_add_9ea2d ∈ pz_W := pz_in (List.mem_append_right _ (List.mem_append_right _ (List.mem_append_left _ (List.mem_of_getElem? (i := 57) (by decide +kernel))))) (by decide +kernel)
theorem mw_b7383cc8 : Cond.code yJx4a65c_add_9ea2d cJx4a65c_add_9ea2d 2 (some .boolean) ∈ pz_W := pz_in (List.mem_append_right _ (List.mem_append_right _ (List.mem_append_left _ (List.mem_of_getElem? (i := 59) (by decide +kernel))))) (by decide +kernel)
theorem mw_d590bb77 : Cond.methodLink RJx4a65c 129 yJx4a65c_grow_d5877 ∈ pz_W := pz_in (List.mem_append_right _ (List.mem_append_right _ (List.mem_append_left _ (List.mem_of_getElem? (i := 64) (by decide +kernel))))) (by decide +kernel)
theorem mw_8414da0d : Cond.instanceMethod yJx4a65c_grow_d5877 ∈ pz_W := pz_in (List.mem_append_right _ (List.mem_append_right _ (List.mem_append_left _ (List.mem_of_getElem? (i := 66) (by decide +kernel))))) (by decide +kernel)
theorem mw_fc788926 : Cond.code yJx4a65c_grow_d5877 cJx4a65c_grow_d5877 1 (some (.array (.object "java/lang/Object"))) ∈ pz_W := pz_in (List.mem_append_right _ (List.mem_append_right _ (List.mem_append_left _ (List.mem_of_getElem? (i := 67) (by decide +kernel))))) (by decide +kernel)
theorem mw_86e22cfe : Cond.methodLink RJx4a65c 69 yJx4a65c_grow_92f84 ∈ pz_W := pz_in (List.mem_append_right _ (List.mem_append_right _ (List.mem_append_left _ (List.mem_of_getElem? (i := 68) (by decide +kernel))))) (by decide +kernel)
theorem mw_cec8105b : Cond.instanceMethod yJx4a65c_grow_92f84 ∈ pz_W := pz_in (List.mem_append_right _ (List.mem_append_right _ (List.mem_append_left _ (List.mem_of_getElem? (i := 70) (by decide +kernel))))) (by decide +kernel)
theorem mw_23cc1832 : Cond.code yJx4a65c_grow_92f84 cJx4a65c_grow_92f84 4 (some (.array (.object "java/lang/Object"))) ∈ pz_W := pz_in (List.mem_append_right _ (List.mem_append_right _ (List.mem_append_left _ (List.mem_of_getElem? (i := 71) (by decide +kernel))))) (by decide +kernel)
theorem mw_c2626106 : Cond.methodLink RJ8 194 yJ9_max_7cf53 ∈ pz_W := pz_in (List.mem_append_right _ (List.mem_append_right _ (List.mem_append_left _ (List.mem_of_getElem? (i := 75) (by decide +kernel))))) (by decide +kernel)
theorem mw_6e480681 : Cond.static yJ9_max_7cf53 ∈ pz_W := pz_in (List.mem_append_right _ (List.mem_append_right _ (List.mem_append_left _ (List.mem_of_getElem? (i := 76) (by decide +kernel))))) (by decide +kernel)
theorem mw_9aca1025 : Cond.code yJ9_max_7cf53 cJ9_max_7cf53 2 (some .int) ∈ pz_W := pz_in (List.mem_append_right _ (List.mem_append_right _ (List.mem_append_left _ (List.mem_of_getElem? (i := 77) (by decide +kernel))))) (by decide +kernel)
theorem mw_dbfefbf6 : Cond.constant RJ8 200 (2147483639) ∈ pz_W := pz_in (List.mem_append_right _ (List.mem_append_right _ (List.mem_append_left _ (List.mem_of_getElem? (i := 78) (by decide +kernel))))) (by decide +kernel)
theorem mw_57bc18c9 : Cond.methodLink RJ8 201 yJ8_hugeLength_7cf53 ∈ pz_W := pz_in (List.mem_append_right _ (List.mem_append_right _ (List.mem_append_left _ (List.mem_of_getElem? (i := 79) (by decide +kernel))))) (by decide +kernel)
theorem mw_71529a5a : Cond.static yJ8_hugeLength_7cf53 ∈ pz_W := pz_in (List.mem_append_right _ (List.mem_append_right _ (List.mem_append_left _ (List.mem_of_getElem? (i := 80) (by decide +kernel))))) (by decide +kernel)
theorem mw_a2118ddc : Cond.code yJ8_hugeLength_7cf53 cJ8_hugeLength_7cf53 3 (some .int) ∈ pz_W := pz_in (List.mem_append_right _ (List.mem_append_right _ (List.mem_append_left _ (List.mem_of_getElem? (i := 81) (by decide +kernel))))) (by decide +kernel)
theorem mw_69f65be3 : Cond.static yJ9_min_7cf53 ∈ pz_W := pz_in (List.mem_append_right _ (List.mem_append_right _ (List.mem_append_left _ (List.mem_of_getElem? (i := 112) (by decide +kernel))))) (by decide +kernel)
theorem mw_d60f6dfd : Cond.code yJ9_min_7cf53 cJ9_min_7cf53 2 (some .int) ∈ pz_W := pz_in (List.mem_append_right _ (List.mem_append_right _ (List.mem_append_left _ (List.mem_of_getElem? (i := 113) (by decide +kernel))))) (by decide +kernel)
theorem mw_ada07ab2 : Cond.methodLink RX6 58 yX6_lastHasRoom ∈ pz_W := pz_in (List.mem_append_right _ (List.mem_append_right _ (List.mem_append_left _ (List.mem_of_getElem? (i := 119) (by decide +kernel))))) (by decide +kernel)
theorem mw_917004fb : Cond.instanceMethod yX6_lastHasRoom ∈ pz_W := pz_in (List.mem_append_right _ (List.mem_append_right _ (List.mem_append_left _ (List.mem_of_getElem? (i := 121) (by decide +kernel))))) (by decide +kernel)
theorem mw_cc3dd344 : Cond.code yX6_lastHasRoom cX6_lastHasRoom 1 (some .boolean) ∈ pz_W := pz_in (List.mem_append_right _ (List.mem_append_right _ (List.mem_append_left _ (List.mem_of_getElem? (i := 122) (by decide +kernel))))) (by decide +kernel)
theorem mw_7a4f2e88 : Cond.methodLink RX6 72 ⟨"java/util/List", "isEmpty", "()Z"⟩ ∈ pz_W := pz_in (List.mem_append_right _ (List.mem_append_right _ (List.mem_append_left _ (List.mem_of_getElem? (i := 124) (by decide +kernel))))) (by decide +kernel)
theorem mw_1d35e455 : Cond.selects RJx4a65c ⟨"java/util/List", "isEmpty", "()Z"⟩ yJx4a65c_isEmpty_aae02 ∈ pz_W := pz_in (List.mem_append_right _ (List.mem_append_right _ (List.mem_append_left _ (List.mem_of_getElem? (i := 127) (by decide +kernel))))) (by decide +kernel)
theorem mw_d0d5e325 : Cond.instanceMethod yJx4a65c_isEmpty_aae02 ∈ pz_W := pz_in (List.mem_append_right _ (List.mem_append_right _ (List.mem_append_left _ (List.mem_of_getElem? (i := 129) (by decide +kernel))))) (by decide +kernel)
theorem mw_94b4a852 : Cond.code yJx4a65c_isEmpty_aae02 cJx4a65c_isEmpty_aae02 1 (some .boolean) ∈ pz_W := pz_in (List.mem_append_right _ (List.mem_append_right _ (List.mem_append_left _ (List.mem_of_getElem? (i := 131) (by decide +kernel))))) (by decide +kernel)
theorem mw_473bde84 : Cond.methodLink RX6 62 ⟨"java/util/List", "get", "(I)Ljava/lang/Object;"⟩ ∈ pz_W := pz_in (List.mem_append_right _ (List.mem_append_right _ (List.mem_append_left _ (List.mem_of_getElem? (i := 133) (by decide +kernel))))) (by decide +kernel)
theorem mw_50a82afc : Cond.selects RJx4a65c ⟨"java/util/List", "get", "(I)Ljava/lang/Object;"⟩ yJx4a65c_get_915e3 ∈ pz_W := pz_in (List.mem_append_right _ (List.mem_append_right _ (List.mem_append_left _ (List.mem_of_getElem? (i := 136) (by decide +kernel))))) (by decide +kernel)
theorem mw_e81a0f1b : Cond.instanceMethod yJx4a65c_get_915e3 ∈ pz_W := pz_in (List.mem_append_right _ (List.mem_append_right _ (List.mem_append_left _ (List.mem_of_getElem? (i := 138) (by decide +kernel))))) (by decide +kernel)
theorem mw_817361af : Cond.code yJx4a65c_get_915e3 cJx4a65c_get_915e3 2 (some (.object "java/lang/Object")) ∈ pz_W := pz_in (List.mem_append_right _ (List.mem_append_right _ (List.mem_append_left _ (List.mem_of_getElem? (i := 140) (by decide +kernel))))) (by decide +kernel)
theorem mw_f8cecb24 : Cond.methodLink RJx4a65c 118 yJ15_checkIndex_7cf53 ∈ pz_W := pz_in (List.mem_append_right _ (List.mem_append_right _ (List.mem_append_left _ (List.mem_of_getElem? (i := 141) (by decide +kernel))))) (by decide +kernel)
theorem mw_1dff5b38 : Cond.static yJ15_checkIndex_7cf53 ∈ pz_W := pz_in (List.mem_append_right _ (List.mem_append_right _ (List.mem_append_left _ (List.mem_of_getElem? (i := 142) (by decide +kernel))))) (by decide +kernel)
theorem mw_c3226dac : Cond.code yJ15_checkIndex_7cf53 cJ15_checkIndex_7cf53 2 (some .int) ∈ pz_W := pz_in (List.mem_append_right _ (List.mem_append_right _ (List.mem_append_left _ (List.mem_of_getElem? (i := 143) (by decide +kernel))))) (by decide +kernel)
theorem mw_884ab548 : Cond.methodLink RJ15 105 yJ3_checkIndex_8e157 ∈ pz_W := pz_in (List.mem_append_right _ (List.mem_append_right _ (List.mem_append_left _ (List.mem_of_getElem? (i := 144) (by decide +kernel))))) (by decide +kernel)
theorem mw_ed9ff974 : Cond.static yJ3_checkIndex_8e157 ∈ pz_W := pz_in (List.mem_append_right _ (List.mem_append_right _ (List.mem_append_left _ (List.mem_of_getElem? (i := 145) (by decide +kernel))))) (by decide +kernel)
theorem mw_bd75b55b : Cond.code yJ3_checkIndex_8e157 cJ3_checkIndex_8e157 3 (some .int) ∈ pz_W := pz_in (List.mem_append_right _ (List.mem_append_right _ (List.mem_append_left _ (List.mem_of_getElem? (i := 146) (by decide +kernel))))) (by decide +kernel)
theorem mw_4616b041 : Cond.methodLink RJx4a65c 123 yJx4a65c_elementData_915e3 ∈ pz_W := pz_in (List.mem_append_right _ (List.mem_append_right _ (List.mem_append_left _ (List.mem_of_getElem? (i := 147) (by decide +kernel))))) (by decide +kernel)
theorem mw_56576ae4 : Cond.instanceMethod yJx4a65c_elementData_915e3 ∈ pz_W := pz_in (List.mem_append_right _ (List.mem_append_right _ (List.mem_append_left _ (List.mem_of_getElem? (i := 148) (by decide +kernel))))) (by decide +kernel)
theorem mw_cc99cf04 : Cond.selects RJx4a65c yJx4a65c_elementData_915e3 yJx4a65c_elementData_915e3 ∈ pz_W := pz_in (List.mem_append_right _ (List.mem_append_right _ (List.mem_append_left _ (List.mem_of_getElem? (i := 149) (by decide +kernel))))) (by decide +kernel)
theorem mw_b1fefb9e : Cond.code yJx4a65c_elementData_915e3 cJx4a65c_elementData_915e3 2 (some (.object "java/lang/Object")) ∈ pz_W := pz_in (List.mem_append_right _ (List.mem_append_right _ (List.mem_append_left _ (List.mem_of_getElem? (i := 150) (by decide +kernel))))) (by decide +kernel)
theorem mw_c191c69b : Cond.methodLink RX6 75 yX3_hasRoom ∈ pz_W := pz_in (List.mem_append_right _ (List.mem_append_right _ (List.mem_append_left _ (List.mem_of_getElem? (i := 151) (by decide +kernel))))) (by decide +kernel)
theorem mw_443464b6 : Cond.instanceMethod yX3_hasRoom ∈ pz_W := pz_in (List.mem_append_right _ (List.mem_append_right _ (List.mem_append_left _ (List.mem_of_getElem? (i := 152) (by decide +kernel))))) (by decide +kernel)
theorem mw_87633111 : Cond.selects RX3 yX3_hasRoom yX3_hasRoom ∈ pz_W := pz_in (List.mem_append_right _ (List.mem_append_right _ (List.mem_append_left _ (List.mem_of_getElem? (i := 153) (by decide +kernel))))) (by decide +kernel)
theorem mw_2a36a0f8 : Cond.code yX3_hasRoom cX3_hasRoom 1 (some .boolean) ∈ pz_W := pz_in (List.mem_append_right _ (List.mem_append_right _ (List.mem_append_left _ (List.mem_of_getElem? (i := 154) (by decide +kernel))))) (by decide +kernel)
theorem mw_7ceed14e : Cond.methodLink RX6 68 yX6_parseStop ∈ pz_W := pz_in (List.mem_append_right _ (List.mem_append_right _ (List.mem_append_left _ (List.mem_of_getElem? (i := 155) (by decide +kernel))))) (by decide +kernel)
theorem mw_ae41c612 : Cond.instanceMethod yX6_parseStop ∈ pz_W := pz_in (List.mem_append_right _ (List.mem_append_right _ (List.mem_append_left _ (List.mem_of_getElem? (i := 157) (by decide +kernel))))) (by decide +kernel)
theorem mw_1b2c8c3d : Cond.code yX6_parseStop cX6_parseStop 5 none ∈ pz_W := pz_in (List.mem_append_right _ (List.mem_append_right _ (List.mem_append_left _ (List.mem_of_getElem? (i := 158) (by decide +kernel))))) (by decide +kernel)
theorem mw_1fe06e7f : Cond.methodLink RX6 43 yX6_parseSign ∈ pz_W := pz_in (List.mem_append_right _ (List.mem_append_right _ (List.mem_append_left _ (List.mem_of_getElem? (i := 159) (by decide +kernel))))) (by decide +kernel)
theorem mw_5172d50a : Cond.instanceMethod yX6_parseSign ∈ pz_W := pz_in (List.mem_append_right _ (List.mem_append_right _ (List.mem_append_left _ (List.mem_of_getElem? (i := 161) (by decide +kernel))))) (by decide +kernel)
theorem mw_efb32b27 : Cond.code yX6_parseSign cX6_parseSign 2 none ∈ pz_W := pz_in (List.mem_append_right _ (List.mem_append_right _ (List.mem_append_left _ (List.mem_of_getElem? (i := 162) (by decide +kernel))))) (by decide +kernel)
theorem mw_4fe64430 : Cond.methodLink RX6 89 yX3_lastLeaving ∈ pz_W := pz_in (List.mem_append_right _ (List.mem_append_right _ (List.mem_append_left _ (List.mem_of_getElem? (i := 163) (by decide +kernel))))) (by decide +kernel)
theorem mw_8b5f5627 : Cond.instanceMethod yX3_lastLeaving ∈ pz_W := pz_in (List.mem_append_right _ (List.mem_append_right _ (List.mem_append_left _ (List.mem_of_getElem? (i := 164) (by decide +kernel))))) (by decide +kernel)
theorem mw_8e6a40fb : Cond.selects RX3 yX3_lastLeaving yX3_lastLeaving ∈ pz_W := pz_in (List.mem_append_right _ (List.mem_append_right _ (List.mem_append_left _ (List.mem_of_getElem? (i := 165) (by decide +kernel))))) (by decide +kernel)
theorem mw_e5375cfa : Cond.code yX3_lastLeaving cX3_lastLeaving 1 (some .int) ∈ pz_W := pz_in (List.mem_append_right _ (List.mem_append_right _ (List.mem_append_left _ (List.mem_of_getElem? (i := 166) (by decide +kernel))))) (by decide +kernel)
theorem mw_a27bc279 : Cond.constant RX6 92 (259200) ∈ pz_W := pz_in (List.mem_append_right _ (List.mem_append_right _ (List.mem_append_left _ (List.mem_of_getElem? (i := 167) (by decide +kernel))))) (by decide +kernel)
theorem mw_1a0cdae5 : Cond.methodLink RX6 93 yX3_addStop ∈ pz_W := pz_in (List.mem_append_right _ (List.mem_append_right _ (List.mem_append_left _ (List.mem_of_getElem? (i := 168) (by decide +kernel))))) (by decide +kernel)
theorem mw_d9f351e1 : Cond.instanceMethod yX3_addStop ∈ pz_W := pz_in (List.mem_append_right _ (List.mem_append_right _ (List.mem_append_left _ (List.mem_of_getElem? (i := 169) (by decide +kernel))))) (by decide +kernel)
theorem mw_816b5e1b : Cond.selects RX3 yX3_addStop yX3_addStop ∈ pz_W := pz_in (List.mem_append_right _ (List.mem_append_right _ (List.mem_append_left _ (List.mem_of_getElem? (i := 170) (by decide +kernel))))) (by decide +kernel)
theorem mw_6ada0a91 : Cond.code yX3_addStop cX3_addStop 4 none ∈ pz_W := pz_in (List.mem_append_right _ (List.mem_append_right _ (List.mem_append_left _ (List.mem_of_getElem? (i := 171) (by decide +kernel))))) (by decide +kernel)
theorem mw_d0dabec8 : Cond.methodLink RX3 43 yX3_hasRoom ∈ pz_W := pz_in (List.mem_append_right _ (List.mem_append_right _ (List.mem_append_left _ (List.mem_of_getElem? (i := 172) (by decide +kernel))))) (by decide +kernel)
theorem mw_fd2705d0 : Cond.methodLink RX9 74 ⟨"java/util/List", "get", "(I)Ljava/lang/Object;"⟩ ∈ pz_W := pz_in (List.mem_append_right _ (List.mem_append_right _ (List.mem_append_left _ (List.mem_of_getElem? (i := 174) (by decide +kernel))))) (by decide +kernel)
theorem mw_ea131c1f : Cond.classLink RX9 59 RX3 ∈ pz_W := pz_in (List.mem_append_right _ (List.mem_append_right _ (List.mem_append_left _ (List.mem_of_getElem? (i := 175) (by decide +kernel))))) (by decide +kernel)
theorem mw_4ce38b8c : Cond.methodLink RX9 64 ⟨"java/util/List", "add", "(Ljava/lang/Object;)Z"⟩ ∈ pz_W := pz_in (List.mem_append_right _ (List.mem_append_right _ (List.mem_append_left _ (List.mem_of_getElem? (i := 177) (by decide +kernel))))) (by decide +kernel)
theorem mw_71b0b3d0 : Cond.methodLink RX9 235 yX6_clear ∈ pz_W := pz_in (List.mem_append_right _ (List.mem_append_right _ (List.mem_append_left _ (List.mem_of_getElem? (i := 178) (by decide +kernel))))) (by decide +kernel)
theorem mw_6b500e7c : Cond.instanceMethod yX6_clear ∈ pz_W := pz_in (List.mem_append_right _ (List.mem_append_right _ (List.mem_append_left _ (List.mem_of_getElem? (i := 179) (by decide +kernel))))) (by decide +kernel)
theorem mw_1dc4c4ca : Cond.selects RX6 yX6_clear yX6_clear ∈ pz_W := pz_in (List.mem_append_right _ (List.mem_append_right _ (List.mem_append_left _ (List.mem_of_getElem? (i := 180) (by decide +kernel))))) (by decide +kernel)
theorem mw_f6dce7b4 : Cond.code yX6_clear cX6_clear 1 none ∈ pz_W := pz_in (List.mem_append_right _ (List.mem_append_right _ (List.mem_append_left _ (List.mem_of_getElem? (i := 181) (by decide +kernel))))) (by decide +kernel)
theorem mw_df64aedd : Cond.constantLong RX9 39 (127) ∈ pz_W := pz_in (List.mem_append_right _ (List.mem_append_right _ (List.mem_append_left _ (List.mem_of_getElem? (i := 191) (by decide +kernel))))) (by decide +kernel)
theorem mw_175cc5df : Cond.methodLink RX9 41 yX9_requireRange ∈ pz_W := pz_in (List.mem_append_right _ (List.mem_append_right _ (List.mem_append_left _ (List.mem_of_getElem? (i := 192) (by decide +kernel))))) (by decide +kernel)
theorem mw_14fb916b : Cond.static yX9_requireRange ∈ pz_W := pz_in (List.mem_append_right _ (List.mem_append_right _ (List.mem_append_left _ (List.mem_of_getElem? (i := 193) (by decide +kernel))))) (by decide +kernel)
theorem mw_a40b3fa2 : Cond.code yX9_requireRange cX9_requireRange 6 none ∈ pz_W := pz_in (List.mem_append_right _ (List.mem_append_right _ (List.mem_append_left _ (List.mem_of_getElem? (i := 194) (by decide +kernel))))) (by decide +kernel)
theorem mw_60328696 : Cond.methodLink RX9 55 yX9_requireRoom ∈ pz_W := pz_in (List.mem_append_right _ (List.mem_append_right _ (List.mem_append_right _ (List.mem_append_left _ (List.mem_of_getElem? (i := 24) (by decide +kernel)))))) (by decide +kernel)
theorem mw_3412a6f2 : Cond.static yX9_requireRoom ∈ pz_W := pz_in (List.mem_append_right _ (List.mem_append_right _ (List.mem_append_right _ (List.mem_append_left _ (List.mem_of_getElem? (i := 25) (by decide +kernel)))))) (by decide +kernel)
theorem mw_389c92d4 : Cond.code yX9_requireRoom cX9_requireRoom 1 none ∈ pz_W := pz_in (List.mem_append_right _ (List.mem_append_right _ (List.mem_append_right _ (List.mem_append_left _ (List.mem_of_getElem? (i := 26) (by decide +kernel)))))) (by decide +kernel)
theorem mw_4ba52f6d : Cond.methodLink RX9 61 yX3_init ∈ pz_W := pz_in (List.mem_append_right _ (List.mem_append_right _ (List.mem_append_right _ (List.mem_append_left _ (List.mem_of_getElem? (i := 43) (by decide +kernel)))))) (by decide +kernel)
theorem mw_f78d9540 : Cond.methodLink RX9 68 yX9_requireIndex ∈ pz_W := pz_in (List.mem_append_right _ (List.mem_append_right _ (List.mem_append_right _ (List.mem_append_left _ (List.mem_of_getElem? (i := 52) (by decide +kernel)))))) (by decide +kernel)
theorem mw_6fa824eb : Cond.static yX9_requireIndex ∈ pz_W := pz_in (List.mem_append_right _ (List.mem_append_right _ (List.mem_append_right _ (List.mem_append_left _ (List.mem_of_getElem? (i := 53) (by decide +kernel)))))) (by decide +kernel)
theorem mw_b75cb11b : Cond.code yX9_requireIndex cX9_requireIndex 2 none ∈ pz_W := pz_in (List.mem_append_right _ (List.mem_append_right _ (List.mem_append_right _ (List.mem_append_left _ (List.mem_of_getElem? (i := 54) (by decide +kernel)))))) (by decide +kernel)
theorem mw_bf3344d2 : Cond.constantLong RX9 72 (259200) ∈ pz_W := pz_in (List.mem_append_right _ (List.mem_append_right _ (List.mem_append_right _ (List.mem_append_left _ (List.mem_of_getElem? (i := 71) (by decide +kernel)))))) (by decide +kernel)
theorem mw_8d3cf7e6 : Cond.methodLink RX9 78 yX3_hasRoom ∈ pz_W := pz_in (List.mem_append_right _ (List.mem_append_right _ (List.mem_append_right _ (List.mem_append_left _ (List.mem_of_getElem? (i := 72) (by decide +kernel)))))) (by decide +kernel)
theorem mw_bfd19333 : Cond.methodLink RX9 82 yX3_lastLeaving ∈ pz_W := pz_in (List.mem_append_right _ (List.mem_append_right _ (List.mem_append_right _ (List.mem_append_left _ (List.mem_of_getElem? (i := 73) (by decide +kernel)))))) (by decide +kernel)
theorem mw_cccc884c : Cond.methodLink RX9 85 yX3_addStop ∈ pz_W := pz_in (List.mem_append_right _ (List.mem_append_right _ (List.mem_append_right _ (List.mem_append_left _ (List.mem_of_getElem? (i := 74) (by decide +kernel)))))) (by decide +kernel)
theorem mw_68f27c4c : Cond.constantLong RX9 89 (20000) ∈ pz_W := pz_in (List.mem_append_right _ (List.mem_append_right _ (List.mem_append_right _ (List.mem_append_left _ (List.mem_of_getElem? (i := 82) (by decide +kernel)))))) (by decide +kernel)
theorem mw_9f318e55 : Cond.methodLink RX9 91 yX3_wordFor ∈ pz_W := pz_in (List.mem_append_right _ (List.mem_append_right _ (List.mem_append_right _ (List.mem_append_left _ (List.mem_of_getElem? (i := 83) (by decide +kernel)))))) (by decide +kernel)
theorem mw_573890c9 : Cond.instanceMethod yX3_wordFor ∈ pz_W := pz_in (List.mem_append_right _ (List.mem_append_right _ (List.mem_append_right _ (List.mem_append_left _ (List.mem_of_getElem? (i := 84) (by decide +kernel)))))) (by decide +kernel)
theorem mw_361e345e : Cond.selects RX3 yX3_wordFor yX3_wordFor ∈ pz_W := pz_in (List.mem_append_right _ (List.mem_append_right _ (List.mem_append_right _ (List.mem_append_left _ (List.mem_of_getElem? (i := 85) (by decide +kernel)))))) (by decide +kernel)
theorem mw_ea7b4c2c : Cond.code yX3_wordFor cX3_wordFor 3 (some (.object "LineTimes$DayWord")) ∈ pz_W := pz_in (List.mem_append_right _ (List.mem_append_right _ (List.mem_append_right _ (List.mem_append_left _ (List.mem_of_getElem? (i := 86) (by decide +kernel)))))) (by decide +kernel)
theorem mw_565a05da : Cond.classLink RX9 96 RX0 ∈ pz_W := pz_in (List.mem_append_right _ (List.mem_append_right _ (List.mem_append_right _ (List.mem_append_left _ (List.mem_of_getElem? (i := 87) (by decide +kernel)))))) (by decide +kernel)
theorem mw_614a5dee : Cond.instantiable RX0 3 ∈ pz_W := pz_in (List.mem_append_right _ (List.mem_append_right _ (List.mem_append_right _ (List.mem_append_left _ (List.mem_of_getElem? (i := 88) (by decide +kernel)))))) (by decide +kernel)
theorem mw_78e4da29 : Cond.methodLink RX9 109 yX0_init ∈ pz_W := pz_in (List.mem_append_right _ (List.mem_append_right _ (List.mem_append_right _ (List.mem_append_left _ (List.mem_of_getElem? (i := 89) (by decide +kernel)))))) (by decide +kernel)
theorem mw_7c5fbee8 : Cond.instanceMethod yX0_init ∈ pz_W := pz_in (List.mem_append_right _ (List.mem_append_right _ (List.mem_append_right _ (List.mem_append_left _ (List.mem_of_getElem? (i := 90) (by decide +kernel)))))) (by decide +kernel)
theorem mw_4eaeba9d : Cond.code yX0_init cX0_init 4 none ∈ pz_W := pz_in (List.mem_append_right _ (List.mem_append_right _ (List.mem_append_right _ (List.mem_append_left _ (List.mem_of_getElem? (i := 91) (by decide +kernel)))))) (by decide +kernel)
theorem mw_7e83891c : Cond.methodLink RX0 1 objectInit ∈ pz_W := pz_in (List.mem_append_right _ (List.mem_append_right _ (List.mem_append_right _ (List.mem_append_left _ (List.mem_of_getElem? (i := 92) (by decide +kernel)))))) (by decide +kernel)
theorem mw_4512307e : Cond.fieldLink RX0 7 "LineTimes$DayWord" "day" "I" ∈ pz_W := pz_in (List.mem_append_right _ (List.mem_append_right _ (List.mem_append_right _ (List.mem_append_left _ (List.mem_of_getElem? (i := 93) (by decide +kernel)))))) (by decide +kernel)
theorem mw_9c599262 : Cond.fieldLink RX3 51 "LineTimes$DayWord" "day" "I" ∈ pz_W := pz_in (List.mem_append_right _ (List.mem_append_right _ (List.mem_append_right _ (List.mem_append_left _ (List.mem_of_getElem? (i := 94) (by decide +kernel)))))) (by decide +kernel)
theorem mw_42951e05 : Cond.fieldLink RX0 13 "LineTimes$DayWord" "runs" "Z" ∈ pz_W := pz_in (List.mem_append_right _ (List.mem_append_right _ (List.mem_append_right _ (List.mem_append_left _ (List.mem_of_getElem? (i := 95) (by decide +kernel)))))) (by decide +kernel)
theorem mw_c1e5082e : Cond.fieldLink RX9 95 "LineTimes$DayWord" "runs" "Z" ∈ pz_W := pz_in (List.mem_append_right _ (List.mem_append_right _ (List.mem_append_right _ (List.mem_append_left _ (List.mem_of_getElem? (i := 96) (by decide +kernel)))))) (by decide +kernel)
theorem mw_ec0b77f6 : Cond.fieldLink RX3 71 "LineTimes$DayWord" "runs" "Z" ∈ pz_W := pz_in (List.mem_append_right _ (List.mem_append_right _ (List.mem_append_right _ (List.mem_append_left _ (List.mem_of_getElem? (i := 97) (by decide +kernel)))))) (by decide +kernel)
theorem mw_7a2e3854 : Cond.fieldLink RX0 17 "LineTimes$DayWord" "before" "LLineTimes$DayWord;" ∈ pz_W := pz_in (List.mem_append_right _ (List.mem_append_right _ (List.mem_append_right _ (List.mem_append_left _ (List.mem_of_getElem? (i := 98) (by decide +kernel)))))) (by decide +kernel)
theorem mw_59c91b4c : Cond.fieldLink RX3 56 "LineTimes$DayWord" "before" "LLineTimes$DayWord;" ∈ pz_W := pz_in (List.mem_append_right _ (List.mem_append_right _ (List.mem_append_right _ (List.mem_append_left _ (List.mem_of_getElem? (i := 99) (by decide +kernel)))))) (by decide +kernel)
theorem mw_cdda03a9 : Cond.constantLong RX9 112 (2000000000) ∈ pz_W := pz_in (List.mem_append_right _ (List.mem_append_right _ (List.mem_append_right _ (List.mem_append_left _ (List.mem_of_getElem? (i := 114) (by decide +kernel)))))) (by decide +kernel)
theorem mw_8f5c5d99 : Cond.constantLong RX9 114 (-900) ∈ pz_W := pz_in (List.mem_append_right _ (List.mem_append_right _ (List.mem_append_right _ (List.mem_append_left _ (List.mem_of_getElem? (i := 115) (by decide +kernel)))))) (by decide +kernel)
theorem mw_b2e112fa : Cond.constantLong RX9 116 (900) ∈ pz_W := pz_in (List.mem_append_right _ (List.mem_append_right _ (List.mem_append_right _ (List.mem_append_left _ (List.mem_of_getElem? (i := 116) (by decide +kernel)))))) (by decide +kernel)
theorem mw_1742e3ae : Cond.methodLink RX9 122 yX5_rowFrom ∈ pz_W := pz_in (List.mem_append_right _ (List.mem_append_right _ (List.mem_append_right _ (List.mem_append_left _ (List.mem_of_getElem? (i := 117) (by decide +kernel)))))) (by decide +kernel)
theorem mw_c0a94c36 : Cond.instanceMethod yX5_rowFrom ∈ pz_W := pz_in (List.mem_append_right _ (List.mem_append_right _ (List.mem_append_right _ (List.mem_append_left _ (List.mem_of_getElem? (i := 118) (by decide +kernel)))))) (by decide +kernel)
theorem mw_bf01daad : Cond.selects RX5 yX5_rowFrom yX5_rowFrom ∈ pz_W := pz_in (List.mem_append_right _ (List.mem_append_right _ (List.mem_append_right _ (List.mem_append_left _ (List.mem_of_getElem? (i := 119) (by decide +kernel)))))) (by decide +kernel)
theorem mw_129a8280 : Cond.code yX5_rowFrom cX5_rowFrom 3 (some (.object "LineTimes$ZoneRow")) ∈ pz_W := pz_in (List.mem_append_right _ (List.mem_append_right _ (List.mem_append_right _ (List.mem_append_left _ (List.mem_of_getElem? (i := 120) (by decide +kernel)))))) (by decide +kernel)
theorem mw_3aee3405 : Cond.methodLink RX9 139 yX5_addRow ∈ pz_W := pz_in (List.mem_append_right _ (List.mem_append_right _ (List.mem_append_right _ (List.mem_append_left _ (List.mem_of_getElem? (i := 121) (by decide +kernel)))))) (by decide +kernel)
theorem mw_f55df681 : Cond.instanceMethod yX5_addRow ∈ pz_W := pz_in (List.mem_append_right _ (List.mem_append_right _ (List.mem_append_right _ (List.mem_append_left _ (List.mem_of_getElem? (i := 122) (by decide +kernel)))))) (by decide +kernel)
theorem mw_79df23e9 : Cond.selects RX5 yX5_addRow yX5_addRow ∈ pz_W := pz_in (List.mem_append_right _ (List.mem_append_right _ (List.mem_append_right _ (List.mem_append_left _ (List.mem_of_getElem? (i := 123) (by decide +kernel)))))) (by decide +kernel)
theorem mw_19a83628 : Cond.code yX5_addRow cX5_addRow 5 none ∈ pz_W := pz_in (List.mem_append_right _ (List.mem_append_right _ (List.mem_append_right _ (List.mem_append_left _ (List.mem_of_getElem? (i := 124) (by decide +kernel)))))) (by decide +kernel)
theorem mw_8f4f6b68 : Cond.classLink RX5 14 RX8 ∈ pz_W := pz_in (List.mem_append_right _ (List.mem_append_right _ (List.mem_append_right _ (List.mem_append_left _ (List.mem_of_getElem? (i := 125) (by decide +kernel)))))) (by decide +kernel)
theorem mw_eb18f5ed : Cond.instantiable RX8 3 ∈ pz_W := pz_in (List.mem_append_right _ (List.mem_append_right _ (List.mem_append_right _ (List.mem_append_left _ (List.mem_of_getElem? (i := 126) (by decide +kernel)))))) (by decide +kernel)
theorem mw_904d6220 : Cond.methodLink RX5 22 yX8_init ∈ pz_W := pz_in (List.mem_append_right _ (List.mem_append_right _ (List.mem_append_right _ (List.mem_append_left _ (List.mem_of_getElem? (i := 127) (by decide +kernel)))))) (by decide +kernel)
theorem mw_de1751c3 : Cond.instanceMethod yX8_init ∈ pz_W := pz_in (List.mem_append_right _ (List.mem_append_right _ (List.mem_append_right _ (List.mem_append_left _ (List.mem_of_getElem? (i := 128) (by decide +kernel)))))) (by decide +kernel)
theorem mw_def0b114 : Cond.code yX8_init cX8_init 4 none ∈ pz_W := pz_in (List.mem_append_right _ (List.mem_append_right _ (List.mem_append_right _ (List.mem_append_left _ (List.mem_of_getElem? (i := 129) (by decide +kernel)))))) (by decide +kernel)
theorem mw_506ba447 : Cond.methodLink RX8 1 objectInit ∈ pz_W := pz_in (List.mem_append_right _ (List.mem_append_right _ (List.mem_append_right _ (List.mem_append_left _ (List.mem_of_getElem? (i := 130) (by decide +kernel)))))) (by decide +kernel)
theorem mw_2ef2a81f : Cond.fieldLink RX8 7 "LineTimes$ZoneRow" "from" "I" ∈ pz_W := pz_in (List.mem_append_right _ (List.mem_append_right _ (List.mem_append_right _ (List.mem_append_left _ (List.mem_of_getElem? (i := 131) (by decide +kernel)))))) (by decide +kernel)
theorem mw_8d18b59e : Cond.fieldLink RX5 13 "LineTimes$ZoneRow" "from" "I" ∈ pz_W := pz_in (List.mem_append_right _ (List.mem_append_right _ (List.mem_append_right _ (List.mem_append_left _ (List.mem_of_getElem? (i := 132) (by decide +kernel)))))) (by decide +kernel)
theorem mw_2b0a871a : Cond.fieldLink RX8 13 "LineTimes$ZoneRow" "minutes" "I" ∈ pz_W := pz_in (List.mem_append_right _ (List.mem_append_right _ (List.mem_append_right _ (List.mem_append_left _ (List.mem_of_getElem? (i := 133) (by decide +kernel)))))) (by decide +kernel)
theorem mw_efc3a75f : Cond.fieldLink RX5 28 "LineTimes$ZoneRow" "minutes" "I" ∈ pz_W := pz_in (List.mem_append_right _ (List.mem_append_right _ (List.mem_append_right _ (List.mem_append_left _ (List.mem_of_getElem? (i := 134) (by decide +kernel)))))) (by decide +kernel)
theorem mw_c1e997d3 : Cond.fieldLink RX9 128 "LineTimes$ZoneRow" "minutes" "I" ∈ pz_W := pz_in (List.mem_append_right _ (List.mem_append_right _ (List.mem_append_right _ (List.mem_append_left _ (List.mem_of_getElem? (i := 135) (by decide +kernel)))))) (by decide +kernel)
theorem mw_1541c8ce : Cond.fieldLink RX8 16 "LineTimes$ZoneRow" "earlier" "LLineTimes$ZoneRow;" ∈ pz_W := pz_in (List.mem_append_right _ (List.mem_append_right _ (List.mem_append_right _ (List.mem_append_left _ (List.mem_of_getElem? (i := 136) (by decide +kernel)))))) (by decide +kernel)
theorem mw_a66cadf3 : Cond.fieldLink RX5 19 "LineTimes$ZoneRow" "earlier" "LLineTimes$ZoneRow;" ∈ pz_W := pz_in (List.mem_append_right _ (List.mem_append_right _ (List.mem_append_right _ (List.mem_append_left _ (List.mem_of_getElem? (i := 137) (by decide +kernel)))))) (by decide +kernel)
theorem mw_ecaeff2f : Cond.constantLong RX9 142 (100000) ∈ pz_W := pz_in (List.mem_append_right _ (List.mem_append_right _ (List.mem_append_right _ (List.mem_append_left _ (List.mem_of_getElem? (i := 152) (by decide +kernel)))))) (by decide +kernel)
theorem mw_de276485 : Cond.classLink RX9 153 RX1 ∈ pz_W := pz_in (List.mem_append_right _ (List.mem_append_right _ (List.mem_append_right _ (List.mem_append_left _ (List.mem_of_getElem? (i := 160) (by decide +kernel)))))) (by decide +kernel)
theorem mw_aa9f3754 : Cond.instantiable RX1 4 ∈ pz_W := pz_in (List.mem_append_right _ (List.mem_append_right _ (List.mem_append_right _ (List.mem_append_left _ (List.mem_of_getElem? (i := 161) (by decide +kernel)))))) (by decide +kernel)
theorem mw_6afa25b3 : Cond.methodLink RX9 159 yX1_init ∈ pz_W := pz_in (List.mem_append_right _ (List.mem_append_right _ (List.mem_append_right _ (List.mem_append_left _ (List.mem_of_getElem? (i := 162) (by decide +kernel)))))) (by decide +kernel)
theorem mw_af3db68f : Cond.instanceMethod yX1_init ∈ pz_W := pz_in (List.mem_append_right _ (List.mem_append_right _ (List.mem_append_right _ (List.mem_append_left _ (List.mem_of_getElem? (i := 163) (by decide +kernel)))))) (by decide +kernel)
theorem mw_aed3c867 : Cond.code yX1_init cX1_init 5 none ∈ pz_W := pz_in (List.mem_append_right _ (List.mem_append_right _ (List.mem_append_right _ (List.mem_append_left _ (List.mem_of_getElem? (i := 164) (by decide +kernel)))))) (by decide +kernel)
theorem mw_241613e8 : Cond.methodLink RX1 1 objectInit ∈ pz_W := pz_in (List.mem_append_right _ (List.mem_append_right _ (List.mem_append_right _ (List.mem_append_left _ (List.mem_of_getElem? (i := 165) (by decide +kernel)))))) (by decide +kernel)
theorem mw_971e17e5 : Cond.fieldLink RX1 7 "LineTimes$LateWord" "stop" "I" ∈ pz_W := pz_in (List.mem_append_right _ (List.mem_append_right _ (List.mem_append_right _ (List.mem_append_left _ (List.mem_of_getElem? (i := 166) (by decide +kernel)))))) (by decide +kernel)
theorem mw_480f6050 : Cond.fieldLink RX3 98 "LineTimes$LateWord" "stop" "I" ∈ pz_W := pz_in (List.mem_append_right _ (List.mem_append_right _ (List.mem_append_right _ (List.mem_append_left _ (List.mem_of_getElem? (i := 167) (by decide +kernel)))))) (by decide +kernel)
theorem mw_753c90cb : Cond.fieldLink RX1 13 "LineTimes$LateWord" "by" "I" ∈ pz_W := pz_in (List.mem_append_right _ (List.mem_append_right _ (List.mem_append_right _ (List.mem_append_left _ (List.mem_of_getElem? (i := 168) (by decide +kernel)))))) (by decide +kernel)
theorem mw_2fcdfd9a : Cond.fieldLink RX3 101 "LineTimes$LateWord" "by" "I" ∈ pz_W := pz_in (List.mem_append_right _ (List.mem_append_right _ (List.mem_append_right _ (List.mem_append_left _ (List.mem_of_getElem? (i := 169) (by decide +kernel)))))) (by decide +kernel)
theorem mw_227a7ffb : Cond.fieldLink RX1 16 "LineTimes$LateWord" "day" "I" ∈ pz_W := pz_in (List.mem_append_right _ (List.mem_append_right _ (List.mem_append_right _ (List.mem_append_left _ (List.mem_of_getElem? (i := 170) (by decide +kernel)))))) (by decide +kernel)
theorem mw_ec8f050c : Cond.fieldLink RX3 95 "LineTimes$LateWord" "day" "I" ∈ pz_W := pz_in (List.mem_append_right _ (List.mem_append_right _ (List.mem_append_right _ (List.mem_append_left _ (List.mem_of_getElem? (i := 171) (by decide +kernel)))))) (by decide +kernel)
theorem mw_232cb81f : Cond.fieldLink RX1 19 "LineTimes$LateWord" "before" "LLineTimes$LateWord;" ∈ pz_W := pz_in (List.mem_append_right _ (List.mem_append_right _ (List.mem_append_right _ (List.mem_append_left _ (List.mem_of_getElem? (i := 172) (by decide +kernel)))))) (by decide +kernel)
theorem mw_2707ff53 : Cond.fieldLink RX3 104 "LineTimes$LateWord" "before" "LLineTimes$LateWord;" ∈ pz_W := pz_in (List.mem_append_right _ (List.mem_append_right _ (List.mem_append_right _ (List.mem_append_left _ (List.mem_of_getElem? (i := 173) (by decide +kernel)))))) (by decide +kernel)
theorem mw_67633a82 : Cond.methodLink RX9 162 yX9_requireJourney ∈ pz_W := pz_in (List.mem_append_right _ (List.mem_append_right _ (List.mem_append_right _ (List.mem_append_left _ (List.mem_of_getElem? (i := 190) (by decide +kernel)))))) (by decide +kernel)
theorem mw_8a698b31 : Cond.static yX9_requireJourney ∈ pz_W := pz_in (List.mem_append_right _ (List.mem_append_right _ (List.mem_append_right _ (List.mem_append_left _ (List.mem_of_getElem? (i := 191) (by decide +kernel)))))) (by decide +kernel)
theorem mw_42fba559 : Cond.code yX9_requireJourney cX9_requireJourney 4 none ∈ pz_W := pz_in (List.mem_append_right _ (List.mem_append_right _ (List.mem_append_right _ (List.mem_append_left _ (List.mem_of_getElem? (i := 192) (by decide +kernel)))))) (by decide +kernel)
theorem mw_e2f5119d : Cond.constantLong RX9 237 (1700000000) ∈ pz_W := pz_in (List.mem_append_right _ (List.mem_append_right _ (List.mem_append_right _ (List.mem_append_left _ (List.mem_of_getElem? (i := 193) (by decide +kernel)))))) (by decide +kernel)
theorem mw_3f5e3063 : Cond.methodLink RX9 169 yX4_findBest ∈ pz_W := pz_in (List.mem_append_right _ (List.mem_append_right _ (List.mem_append_right _ (List.mem_append_left _ (List.mem_of_getElem? (i := 194) (by decide +kernel)))))) (by decide +kernel)
theorem mw_f49e5536 : Cond.instanceMethod yX4_findBest ∈ pz_W := pz_in (List.mem_append_right _ (List.mem_append_right _ (List.mem_append_right _ (List.mem_append_left _ (List.mem_of_getElem? (i := 195) (by decide +kernel)))))) (by decide +kernel)
theorem mw_a1c25740 : Cond.selects RX4 yX4_findBest yX4_findBest ∈ pz_W := pz_in (List.mem_append_right _ (List.mem_append_right _ (List.mem_append_right _ (List.mem_append_left _ (List.mem_of_getElem? (i := 196) (by decide +kernel)))))) (by decide +kernel)
theorem mw_7db23d59 : Cond.code yX4_findBest cX4_findBest 7 (some .int) ∈ pz_W := pz_in (List.mem_append_right _ (List.mem_append_right _ (List.mem_append_right _ (List.mem_append_left _ (List.mem_of_getElem? (i := 197) (by decide +kernel)))))) (by decide +kernel)
theorem mw_f9590921 : Cond.methodLink RX4 34 yX4_workOutRuns ∈ pz_W := pz_in (List.mem_append_right _ (List.mem_append_right _ (List.mem_append_right _ (List.mem_append_left _ (List.mem_of_getElem? (i := 198) (by decide +kernel)))))) (by decide +kernel)
theorem mw_99f301bd : Cond.instanceMethod yX4_workOutRuns ∈ pz_W := pz_in (List.mem_append_right _ (List.mem_append_right _ (List.mem_append_right _ (List.mem_append_left _ (List.mem_of_getElem? (i := 200) (by decide +kernel)))))) (by decide +kernel)
theorem mw_2f4889b7 : Cond.code yX4_workOutRuns cX4_workOutRuns 3 none ∈ pz_W := pz_in (List.mem_append_right _ (List.mem_append_right _ (List.mem_append_right _ (List.mem_append_left _ (List.mem_of_getElem? (i := 201) (by decide +kernel)))))) (by decide +kernel)
theorem mw_90b4fc44 : Cond.constant RX4 49 (86400) ∈ pz_W := pz_in (List.mem_append_right _ (List.mem_append_right _ (List.mem_append_right _ (List.mem_append_left _ (List.mem_of_getElem? (i := 202) (by decide +kernel)))))) (by decide +kernel)
theorem mw_d5bce3b2 : Cond.methodLink RX4 54 ⟨"java/util/List", "size", "()I"⟩ ∈ pz_W := pz_in (List.mem_append_right _ (List.mem_append_right _ (List.mem_append_right _ (List.mem_append_left _ (List.mem_of_getElem? (i := 204) (by decide +kernel)))))) (by decide +kernel)
theorem mw_3d0b9f87 : Cond.methodLink RX4 60 ⟨"java/util/List", "get", "(I)Ljava/lang/Object;"⟩ ∈ pz_W := pz_in (List.mem_append_right _ (List.mem_append_right _ (List.mem_append_right _ (List.mem_append_left _ (List.mem_of_getElem? (i := 206) (by decide +kernel)))))) (by decide +kernel)
theorem mw_e6efc03c : Cond.classLink RX4 64 RX3 ∈ pz_W := pz_in (List.mem_append_right _ (List.mem_append_right _ (List.mem_append_right _ (List.mem_append_left _ (List.mem_of_getElem? (i := 207) (by decide +kernel)))))) (by decide +kernel)
theorem mw_6c948eaa : Cond.methodLink RX4 66 yX3_workOutRuns ∈ pz_W := pz_in (List.mem_append_right _ (List.mem_append_right _ (List.mem_append_right _ (List.mem_append_left _ (List.mem_of_getElem? (i := 208) (by decide +kernel)))))) (by decide +kernel)
theorem mw_6628903d : Cond.instanceMethod yX3_workOutRuns ∈ pz_W := pz_in (List.mem_append_right _ (List.mem_append_right _ (List.mem_append_right _ (List.mem_append_left _ (List.mem_of_getElem? (i := 209) (by decide +kernel)))))) (by decide +kernel)
theorem mw_38da72f5 : Cond.selects RX3 yX3_workOutRuns yX3_workOutRuns ∈ pz_W := pz_in (List.mem_append_right _ (List.mem_append_right _ (List.mem_append_right _ (List.mem_append_left _ (List.mem_of_getElem? (i := 210) (by decide +kernel)))))) (by decide +kernel)
theorem mw_e3148e5e : Cond.code yX3_workOutRuns cX3_workOutRuns 4 none ∈ pz_W := pz_in (List.mem_append_right _ (List.mem_append_right _ (List.mem_append_right _ (List.mem_append_left _ (List.mem_of_getElem? (i := 211) (by decide +kernel)))))) (by decide +kernel)
theorem mw_4f1ebaac : Cond.methodLink RX3 59 yX3_runsOn ∈ pz_W := pz_in (List.mem_append_right _ (List.mem_append_right _ (List.mem_append_right _ (List.mem_append_left _ (List.mem_of_getElem? (i := 212) (by decide +kernel)))))) (by decide +kernel)
theorem mw_1a52d823 : Cond.instanceMethod yX3_runsOn ∈ pz_W := pz_in (List.mem_append_right _ (List.mem_append_right _ (List.mem_append_right _ (List.mem_append_left _ (List.mem_of_getElem? (i := 214) (by decide +kernel)))))) (by decide +kernel)
theorem mw_f2baf0bd : Cond.code yX3_runsOn cX3_runsOn 3 (some .boolean) ∈ pz_W := pz_in (List.mem_append_right _ (List.mem_append_right _ (List.mem_append_right _ (List.mem_append_left _ (List.mem_of_getElem? (i := 215) (by decide +kernel)))))) (by decide +kernel)
theorem mw_27324109 : Cond.methodLink RX3 67 yX3_wordFor ∈ pz_W := pz_in (List.mem_append_right _ (List.mem_append_right _ (List.mem_append_right _ (List.mem_append_left _ (List.mem_of_getElem? (i := 216) (by decide +kernel)))))) (by decide +kernel)
theorem mw_7b092935 : Cond.methodLink RX3 63 yX3_workOutTimes ∈ pz_W := pz_in (List.mem_append_right _ (List.mem_append_right _ (List.mem_append_right _ (List.mem_append_left _ (List.mem_of_getElem? (i := 217) (by decide +kernel)))))) (by decide +kernel)
theorem mw_26175f65 : Cond.instanceMethod yX3_workOutTimes ∈ pz_W := pz_in (List.mem_append_right _ (List.mem_append_right _ (List.mem_append_right _ (List.mem_append_left _ (List.mem_of_getElem? (i := 219) (by decide +kernel)))))) (by decide +kernel)
theorem mw_9bc4609e : Cond.code yX3_workOutTimes cX3_workOutTimes 8 none ∈ pz_W := pz_in (List.mem_append_right _ (List.mem_append_right _ (List.mem_append_right _ (List.mem_append_left _ (List.mem_of_getElem? (i := 220) (by decide +kernel)))))) (by decide +kernel)
theorem mw_f531baa8 : Cond.methodLink RX3 74 yX3_gatherLate ∈ pz_W := pz_in (List.mem_append_right _ (List.mem_append_right _ (List.mem_append_right _ (List.mem_append_left _ (List.mem_of_getElem? (i := 221) (by decide +kernel)))))) (by decide +kernel)
theorem mw_6acb76ba : Cond.instanceMethod yX3_gatherLate ∈ pz_W := pz_in (List.mem_append_right _ (List.mem_append_right _ (List.mem_append_right _ (List.mem_append_left _ (List.mem_of_getElem? (i := 223) (by decide +kernel)))))) (by decide +kernel)
theorem mw_83e9764b : Cond.code yX3_gatherLate cX3_gatherLate 3 none ∈ pz_W := pz_in (List.mem_append_right _ (List.mem_append_right _ (List.mem_append_right _ (List.mem_append_left _ (List.mem_of_getElem? (i := 224) (by decide +kernel)))))) (by decide +kernel)
theorem mw_e1b088c6 : Cond.methodLink RX3 85 yJ7_fill_53178 ∈ pz_W := pz_in (List.mem_append_right _ (List.mem_append_right _ (List.mem_append_right _ (List.mem_append_left _ (List.mem_of_getElem? (i := 225) (by decide +kernel)))))) (by decide +kernel)
theorem mw_f64f8428 : Cond.static yJ7_fill_53178 ∈ pz_W := pz_in (List.mem_append_right _ (List.mem_append_right _ (List.mem_append_right _ (List.mem_append_left _ (List.mem_of_getElem? (i := 226) (by decide +kernel)))))) (by decide +kernel)
theorem mw_9f3bf93d : Cond.code yJ7_fill_53178 cJ7_fill_53178 4 none ∈ pz_W := pz_in (List.mem_append_right _ (List.mem_append_right _ (List.mem_append_right _ (List.mem_append_left _ (List.mem_of_getElem? (i := 227) (by decide +kernel)))))) (by decide +kernel)
theorem mw_85fe67e2 : Cond.constant RX3 78 (86400) ∈ pz_W := pz_in (List.mem_append_right _ (List.mem_append_right _ (List.mem_append_right _ (List.mem_append_left _ (List.mem_of_getElem? (i := 228) (by decide +kernel)))))) (by decide +kernel)
theorem mw_b6f75c5a : Cond.methodLink RX3 79 yX5_minutesAt ∈ pz_W := pz_in (List.mem_append_right _ (List.mem_append_right _ (List.mem_append_right _ (List.mem_append_left _ (List.mem_of_getElem? (i := 229) (by decide +kernel)))))) (by decide +kernel)
theorem mw_1a82624b : Cond.instanceMethod yX5_minutesAt ∈ pz_W := pz_in (List.mem_append_right _ (List.mem_append_right _ (List.mem_append_right _ (List.mem_append_left _ (List.mem_of_getElem? (i := 230) (by decide +kernel)))))) (by decide +kernel)
theorem mw_d87dbaba : Cond.selects RX5 yX5_minutesAt yX5_minutesAt ∈ pz_W := pz_in (List.mem_append_right _ (List.mem_append_right _ (List.mem_append_right _ (List.mem_append_left _ (List.mem_of_getElem? (i := 231) (by decide +kernel)))))) (by decide +kernel)
theorem mw_665a371f : Cond.code yX5_minutesAt cX5_minutesAt 4 (some .int) ∈ pz_W := pz_in (List.mem_append_right _ (List.mem_append_right _ (List.mem_append_right _ (List.mem_append_left _ (List.mem_of_getElem? (i := 232) (by decide +kernel)))))) (by decide +kernel)
theorem mw_9b89bef2 : Cond.constant RX4 38 (2147483647) ∈ pz_W := pz_in (List.mem_append_right _ (List.mem_append_right _ (List.mem_append_right _ (List.mem_append_left _ (List.mem_of_getElem? (i := 233) (by decide +kernel)))))) (by decide +kernel)
theorem mw_e28a97c6 : Cond.methodLink RX4 39 yJ7_fill_53178 ∈ pz_W := pz_in (List.mem_append_right _ (List.mem_append_right _ (List.mem_append_right _ (List.mem_append_left _ (List.mem_of_getElem? (i := 234) (by decide +kernel)))))) (by decide +kernel)
theorem mw_4d6baa92 : Cond.methodLink RX4 45 yX4_spread ∈ pz_W := pz_in (List.mem_append_right _ (List.mem_append_right _ (List.mem_append_right _ (List.mem_append_left _ (List.mem_of_getElem? (i := 235) (by decide +kernel)))))) (by decide +kernel)
theorem mw_83833635 : Cond.instanceMethod yX4_spread ∈ pz_W := pz_in (List.mem_append_right _ (List.mem_append_right _ (List.mem_append_right _ (List.mem_append_left _ (List.mem_of_getElem? (i := 237) (by decide +kernel)))))) (by decide +kernel)
theorem mw_363fdb41 : Cond.code yX4_spread cX4_spread 7 (some .boolean) ∈ pz_W := pz_in (List.mem_append_right _ (List.mem_append_right _ (List.mem_append_right _ (List.mem_append_left _ (List.mem_of_getElem? (i := 238) (by decide +kernel)))))) (by decide +kernel)
theorem mw_85f37019 : Cond.methodLink RX4 73 yX4_ride ∈ pz_W := pz_in (List.mem_append_right _ (List.mem_append_right _ (List.mem_append_right _ (List.mem_append_left _ (List.mem_of_getElem? (i := 239) (by decide +kernel)))))) (by decide +kernel)
theorem mw_7fea20e5 : Cond.instanceMethod yX4_ride ∈ pz_W := pz_in (List.mem_append_right _ (List.mem_append_right _ (List.mem_append_right _ (List.mem_append_right _ (List.mem_append_left _ (List.mem_of_getElem? (i := 1) (by decide +kernel))))))) (by decide +kernel)
theorem mw_79337aeb : Cond.code yX4_ride cX4_ride 11 (some .boolean) ∈ pz_W := pz_in (List.mem_append_right _ (List.mem_append_right _ (List.mem_append_right _ (List.mem_append_right _ (List.mem_append_left _ (List.mem_of_getElem? (i := 2) (by decide +kernel))))))) (by decide +kernel)
theorem mw_2e94ed91 : Cond.methodLink RX4 87 yX4_canEnter ∈ pz_W := pz_in (List.mem_append_right _ (List.mem_append_right _ (List.mem_append_right _ (List.mem_append_right _ (List.mem_append_left _ (List.mem_of_getElem? (i := 3) (by decide +kernel))))))) (by decide +kernel)
theorem mw_549f7f9f : Cond.instanceMethod yX4_canEnter ∈ pz_W := pz_in (List.mem_append_right _ (List.mem_append_right _ (List.mem_append_right _ (List.mem_append_right _ (List.mem_append_left _ (List.mem_of_getElem? (i := 5) (by decide +kernel))))))) (by decide +kernel)
theorem mw_8433c21b : Cond.code yX4_canEnter cX4_canEnter 5 (some .boolean) ∈ pz_W := pz_in (List.mem_append_right _ (List.mem_append_right _ (List.mem_append_right _ (List.mem_append_right _ (List.mem_append_left _ (List.mem_of_getElem? (i := 6) (by decide +kernel))))))) (by decide +kernel)
theorem mw_b768bf3a : Cond.constantLong RX9 173 (-1) ∈ pz_W := pz_in (List.mem_append_right _ (List.mem_append_right _ (List.mem_append_right _ (List.mem_append_right _ (List.mem_append_left _ (List.mem_of_getElem? (i := 7) (by decide +kernel))))))) (by decide +kernel)
theorem mw_add71879 : Cond.methodLink RX9 175 yX4_tell ∈ pz_W := pz_in (List.mem_append_right _ (List.mem_append_right _ (List.mem_append_right _ (List.mem_append_right _ (List.mem_append_left _ (List.mem_of_getElem? (i := 8) (by decide +kernel))))))) (by decide +kernel)
theorem mw_fb5bd3cc : Cond.instanceMethod yX4_tell ∈ pz_W := pz_in (List.mem_append_right _ (List.mem_append_right _ (List.mem_append_right _ (List.mem_append_right _ (List.mem_append_left _ (List.mem_of_getElem? (i := 9) (by decide +kernel))))))) (by decide +kernel)
theorem mw_8301676e : Cond.selects RX4 yX4_tell yX4_tell ∈ pz_W := pz_in (List.mem_append_right _ (List.mem_append_right _ (List.mem_append_right _ (List.mem_append_right _ (List.mem_append_left _ (List.mem_of_getElem? (i := 10) (by decide +kernel))))))) (by decide +kernel)
theorem mw_bfd437d5 : Cond.code yX4_tell cX4_tell 6 none ∈ pz_W := pz_in (List.mem_append_right _ (List.mem_append_right _ (List.mem_append_right _ (List.mem_append_right _ (List.mem_append_left _ (List.mem_of_getElem? (i := 11) (by decide +kernel))))))) (by decide +kernel)
theorem mw_7fad718e : Cond.methodLink RX4 102 yX4_tellLastLeg ∈ pz_W := pz_in (List.mem_append_right _ (List.mem_append_right _ (List.mem_append_right _ (List.mem_append_right _ (List.mem_append_left _ (List.mem_of_getElem? (i := 12) (by decide +kernel))))))) (by decide +kernel)
theorem mw_aa04a5a2 : Cond.instanceMethod yX4_tellLastLeg ∈ pz_W := pz_in (List.mem_append_right _ (List.mem_append_right _ (List.mem_append_right _ (List.mem_append_right _ (List.mem_append_left _ (List.mem_of_getElem? (i := 14) (by decide +kernel))))))) (by decide +kernel)
theorem mw_20a1b810 : Cond.code yX4_tellLastLeg cX4_tellLastLeg 7 (some .int) ∈ pz_W := pz_in (List.mem_append_right _ (List.mem_append_right _ (List.mem_append_right _ (List.mem_append_right _ (List.mem_append_left _ (List.mem_of_getElem? (i := 15) (by decide +kernel))))))) (by decide +kernel)
theorem mw_ad682756 : Cond.methodLink RX4 106 yX4_findLeg ∈ pz_W := pz_in (List.mem_append_right _ (List.mem_append_right _ (List.mem_append_right _ (List.mem_append_right _ (List.mem_append_left _ (List.mem_of_getElem? (i := 16) (by decide +kernel))))))) (by decide +kernel)
theorem mw_3af89903 : Cond.instanceMethod yX4_findLeg ∈ pz_W := pz_in (List.mem_append_right _ (List.mem_append_right _ (List.mem_append_right _ (List.mem_append_right _ (List.mem_append_left _ (List.mem_of_getElem? (i := 18) (by decide +kernel))))))) (by decide +kernel)
theorem mw_64d118d2 : Cond.code yX4_findLeg cX4_findLeg 9 (some .boolean) ∈ pz_W := pz_in (List.mem_append_right _ (List.mem_append_right _ (List.mem_append_right _ (List.mem_append_right _ (List.mem_append_left _ (List.mem_of_getElem? (i := 19) (by decide +kernel))))))) (by decide +kernel)
theorem mw_2929ebcb : Cond.methodLink RX4 110 yX4_findEntry ∈ pz_W := pz_in (List.mem_append_right _ (List.mem_append_right _ (List.mem_append_right _ (List.mem_append_right _ (List.mem_append_left _ (List.mem_of_getElem? (i := 20) (by decide +kernel))))))) (by decide +kernel)
theorem mw_871ea3cf : Cond.instanceMethod yX4_findEntry ∈ pz_W := pz_in (List.mem_append_right _ (List.mem_append_right _ (List.mem_append_right _ (List.mem_append_right _ (List.mem_append_left _ (List.mem_of_getElem? (i := 22) (by decide +kernel))))))) (by decide +kernel)
theorem mw_337623be : Cond.code yX4_findEntry cX4_findEntry 7 (some .int) ∈ pz_W := pz_in (List.mem_append_right _ (List.mem_append_right _ (List.mem_append_right _ (List.mem_append_right _ (List.mem_append_left _ (List.mem_of_getElem? (i := 23) (by decide +kernel))))))) (by decide +kernel)
theorem mw_9be87723 : Cond.constantLong RX9 183 (5) ∈ pz_W := pz_in (List.mem_append_right _ (List.mem_append_right _ (List.mem_append_right _ (List.mem_append_right _ (List.mem_append_left _ (List.mem_of_getElem? (i := 31) (by decide +kernel))))))) (by decide +kernel)
theorem mw_c170fa33 : Cond.constantLong RX9 203 (100) ∈ pz_W := pz_in (List.mem_append_right _ (List.mem_append_right _ (List.mem_append_right _ (List.mem_append_right _ (List.mem_append_left _ (List.mem_of_getElem? (i := 70) (by decide +kernel))))))) (by decide +kernel)
theorem mw_46cc8862 : Cond.methodLink RX9 205 yX2_clear ∈ pz_W := pz_in (List.mem_append_right _ (List.mem_append_right _ (List.mem_append_right _ (List.mem_append_right _ (List.mem_append_left _ (List.mem_of_getElem? (i := 71) (by decide +kernel))))))) (by decide +kernel)
theorem mw_2b05dfe6 : Cond.instanceMethod yX2_clear ∈ pz_W := pz_in (List.mem_append_right _ (List.mem_append_right _ (List.mem_append_right _ (List.mem_append_right _ (List.mem_append_left _ (List.mem_of_getElem? (i := 72) (by decide +kernel))))))) (by decide +kernel)
theorem mw_dca6164a : Cond.selects RX2 yX2_clear yX2_clear ∈ pz_W := pz_in (List.mem_append_right _ (List.mem_append_right _ (List.mem_append_right _ (List.mem_append_right _ (List.mem_append_left _ (List.mem_of_getElem? (i := 73) (by decide +kernel))))))) (by decide +kernel)
theorem mw_de06d67e : Cond.code yX2_clear cX2_clear 2 none ∈ pz_W := pz_in (List.mem_append_right _ (List.mem_append_right _ (List.mem_append_right _ (List.mem_append_right _ (List.mem_append_left _ (List.mem_of_getElem? (i := 74) (by decide +kernel))))))) (by decide +kernel)
theorem mw_79f98940 : Cond.methodLink RX2 15 yJ9_min_7cf53 ∈ pz_W := pz_in (List.mem_append_right _ (List.mem_append_right _ (List.mem_append_right _ (List.mem_append_right _ (List.mem_append_left _ (List.mem_of_getElem? (i := 75) (by decide +kernel))))))) (by decide +kernel)
theorem mw_d90f2675 : Cond.methodLink RX9 208 yX4_gather ∈ pz_W := pz_in (List.mem_append_right _ (List.mem_append_right _ (List.mem_append_right _ (List.mem_append_right _ (List.mem_append_left _ (List.mem_of_getElem? (i := 76) (by decide +kernel))))))) (by decide +kernel)
theorem mw_2a857356 : Cond.instanceMethod yX4_gather ∈ pz_W := pz_in (List.mem_append_right _ (List.mem_append_right _ (List.mem_append_right _ (List.mem_append_right _ (List.mem_append_left _ (List.mem_of_getElem? (i := 77) (by decide +kernel))))))) (by decide +kernel)
theorem mw_4974d551 : Cond.selects RX4 yX4_gather yX4_gather ∈ pz_W := pz_in (List.mem_append_right _ (List.mem_append_right _ (List.mem_append_right _ (List.mem_append_right _ (List.mem_append_left _ (List.mem_of_getElem? (i := 78) (by decide +kernel))))))) (by decide +kernel)
theorem mw_8f4a9da6 : Cond.code yX4_gather cX4_gather 8 none ∈ pz_W := pz_in (List.mem_append_right _ (List.mem_append_right _ (List.mem_append_right _ (List.mem_append_right _ (List.mem_append_left _ (List.mem_of_getElem? (i := 79) (by decide +kernel))))))) (by decide +kernel)
theorem mw_af428b5f : Cond.methodLink RX4 114 yX4_gatherRun ∈ pz_W := pz_in (List.mem_append_right _ (List.mem_append_right _ (List.mem_append_right _ (List.mem_append_right _ (List.mem_append_left _ (List.mem_of_getElem? (i := 80) (by decide +kernel))))))) (by decide +kernel)
theorem mw_634683a1 : Cond.instanceMethod yX4_gatherRun ∈ pz_W := pz_in (List.mem_append_right _ (List.mem_append_right _ (List.mem_append_right _ (List.mem_append_right _ (List.mem_append_left _ (List.mem_of_getElem? (i := 82) (by decide +kernel))))))) (by decide +kernel)
theorem mw_46d929c5 : Cond.code yX4_gatherRun cX4_gatherRun 10 none ∈ pz_W := pz_in (List.mem_append_right _ (List.mem_append_right _ (List.mem_append_right _ (List.mem_append_right _ (List.mem_append_left _ (List.mem_of_getElem? (i := 83) (by decide +kernel))))))) (by decide +kernel)
theorem mw_88258e64 : Cond.methodLink RX4 118 yX2_note ∈ pz_W := pz_in (List.mem_append_right _ (List.mem_append_right _ (List.mem_append_right _ (List.mem_append_right _ (List.mem_append_left _ (List.mem_of_getElem? (i := 84) (by decide +kernel))))))) (by decide +kernel)
theorem mw_7089cdc0 : Cond.instanceMethod yX2_note ∈ pz_W := pz_in (List.mem_append_right _ (List.mem_append_right _ (List.mem_append_right _ (List.mem_append_right _ (List.mem_append_left _ (List.mem_of_getElem? (i := 85) (by decide +kernel))))))) (by decide +kernel)
theorem mw_cd414451 : Cond.selects RX2 yX2_note yX2_note ∈ pz_W := pz_in (List.mem_append_right _ (List.mem_append_right _ (List.mem_append_right _ (List.mem_append_right _ (List.mem_append_left _ (List.mem_of_getElem? (i := 86) (by decide +kernel))))))) (by decide +kernel)
theorem mw_1c9890cb : Cond.code yX2_note cX2_note 3 none ∈ pz_W := pz_in (List.mem_append_right _ (List.mem_append_right _ (List.mem_append_right _ (List.mem_append_right _ (List.mem_append_left _ (List.mem_of_getElem? (i := 87) (by decide +kernel))))))) (by decide +kernel)
theorem mw_db4b8e8d : Cond.constantLong RX9 218 (32) ∈ pz_W := pz_in (List.mem_append_right _ (List.mem_append_right _ (List.mem_append_right _ (List.mem_append_right _ (List.mem_append_left _ (List.mem_of_getElem? (i := 95) (by decide +kernel))))))) (by decide +kernel)
theorem mw_bf50a385 : Cond.constantLong RX9 220 (126) ∈ pz_W := pz_in (List.mem_append_right _ (List.mem_append_right _ (List.mem_append_right _ (List.mem_append_right _ (List.mem_append_left _ (List.mem_of_getElem? (i := 96) (by decide +kernel))))))) (by decide +kernel)
theorem mw_c92f2b5f : Cond.methodLink RX9 225 yX6_add ∈ pz_W := pz_in (List.mem_append_right _ (List.mem_append_right _ (List.mem_append_right _ (List.mem_append_right _ (List.mem_append_left _ (List.mem_of_getElem? (i := 97) (by decide +kernel))))))) (by decide +kernel)
theorem mw_d63fc09a : Cond.instanceMethod yX6_add ∈ pz_W := pz_in (List.mem_append_right _ (List.mem_append_right _ (List.mem_append_right _ (List.mem_append_right _ (List.mem_append_left _ (List.mem_of_getElem? (i := 98) (by decide +kernel))))))) (by decide +kernel)
theorem mw_3edc55ce : Cond.selects RX6 yX6_add yX6_add ∈ pz_W := pz_in (List.mem_append_right _ (List.mem_append_right _ (List.mem_append_right _ (List.mem_append_right _ (List.mem_append_left _ (List.mem_of_getElem? (i := 99) (by decide +kernel))))))) (by decide +kernel)
theorem mw_8a2ca6ac : Cond.code yX6_add cX6_add 2 none ∈ pz_W := pz_in (List.mem_append_right _ (List.mem_append_right _ (List.mem_append_right _ (List.mem_append_right _ (List.mem_append_left _ (List.mem_of_getElem? (i := 100) (by decide +kernel))))))) (by decide +kernel)
theorem mw_574f03c9 : Cond.methodLink RX10 1 objectInit ∈ pz_W := pz_in (List.mem_append_right _ (List.mem_append_right _ (List.mem_append_right _ (List.mem_append_right _ (List.mem_append_left _ (List.mem_of_getElem? (i := 106) (by decide +kernel))))))) (by decide +kernel)
theorem mw_98cc72c1 : Cond.fieldLink RX10 100 "LineTimesModel" "thrown" "I" ∈ pz_W := pz_in (List.mem_append_right _ (List.mem_append_right _ (List.mem_append_right _ (List.mem_append_right _ (List.mem_append_left _ (List.mem_of_getElem? (i := 107) (by decide +kernel))))))) (by decide +kernel)
theorem mw_479e8e34 : Cond.fieldLink RX10 96 "LineTimesModel" "lines" "I" ∈ pz_W := pz_in (List.mem_append_right _ (List.mem_append_right _ (List.mem_append_right _ (List.mem_append_right _ (List.mem_append_left _ (List.mem_of_getElem? (i := 108) (by decide +kernel))))))) (by decide +kernel)
theorem mw_803dc064 : Cond.fieldLink RX10 7 "LineTimesModel" "days" "[I" ∈ pz_W := pz_in (List.mem_append_right _ (List.mem_append_right _ (List.mem_append_right _ (List.mem_append_right _ (List.mem_append_left _ (List.mem_of_getElem? (i := 109) (by decide +kernel))))))) (by decide +kernel)
theorem mw_6c7416b9 : Cond.fieldLink RX10 13 "LineTimesModel" "many" "[I" ∈ pz_W := pz_in (List.mem_append_right _ (List.mem_append_right _ (List.mem_append_right _ (List.mem_append_right _ (List.mem_append_left _ (List.mem_of_getElem? (i := 110) (by decide +kernel))))))) (by decide +kernel)
theorem mw_d81b3427 : Cond.fieldLink RX10 16 "LineTimesModel" "places" "[I" ∈ pz_W := pz_in (List.mem_append_right _ (List.mem_append_right _ (List.mem_append_right _ (List.mem_append_right _ (List.mem_append_left _ (List.mem_of_getElem? (i := 111) (by decide +kernel))))))) (by decide +kernel)
theorem mw_6426076d : Cond.fieldLink RX10 19 "LineTimesModel" "arrives" "[J" ∈ pz_W := pz_in (List.mem_append_right _ (List.mem_append_right _ (List.mem_append_right _ (List.mem_append_right _ (List.mem_append_left _ (List.mem_of_getElem? (i := 112) (by decide +kernel))))))) (by decide +kernel)
theorem mw_7b8e4d38 : Cond.fieldLink RX10 23 "LineTimesModel" "leaves" "[J" ∈ pz_W := pz_in (List.mem_append_right _ (List.mem_append_right _ (List.mem_append_right _ (List.mem_append_right _ (List.mem_append_left _ (List.mem_of_getElem? (i := 113) (by decide +kernel))))))) (by decide +kernel)
theorem mw_bba43add : Cond.fieldLink RX10 128 "LineTimesModel" "exceptions" "I" ∈ pz_W := pz_in (List.mem_append_right _ (List.mem_append_right _ (List.mem_append_right _ (List.mem_append_right _ (List.mem_append_left _ (List.mem_of_getElem? (i := 114) (by decide +kernel))))))) (by decide +kernel)
theorem mw_2a6260c2 : Cond.fieldLink RX10 26 "LineTimesModel" "exceptLine" "[I" ∈ pz_W := pz_in (List.mem_append_right _ (List.mem_append_right _ (List.mem_append_right _ (List.mem_append_right _ (List.mem_append_left _ (List.mem_of_getElem? (i := 115) (by decide +kernel))))))) (by decide +kernel)
theorem mw_5ad55f98 : Cond.fieldLink RX10 29 "LineTimesModel" "exceptDay" "[J" ∈ pz_W := pz_in (List.mem_append_right _ (List.mem_append_right _ (List.mem_append_right _ (List.mem_append_right _ (List.mem_append_left _ (List.mem_of_getElem? (i := 116) (by decide +kernel))))))) (by decide +kernel)
theorem mw_be70b4db : Cond.fieldLink RX10 32 "LineTimesModel" "exceptRuns" "[Z" ∈ pz_W := pz_in (List.mem_append_right _ (List.mem_append_right _ (List.mem_append_right _ (List.mem_append_right _ (List.mem_append_left _ (List.mem_of_getElem? (i := 117) (by decide +kernel))))))) (by decide +kernel)
theorem mw_d2d27b6e : Cond.fieldLink RX10 133 "LineTimesModel" "zones" "I" ∈ pz_W := pz_in (List.mem_append_right _ (List.mem_append_right _ (List.mem_append_right _ (List.mem_append_right _ (List.mem_append_left _ (List.mem_of_getElem? (i := 118) (by decide +kernel))))))) (by decide +kernel)
theorem mw_9e763348 : Cond.fieldLink RX10 36 "LineTimesModel" "zonePlace" "[I" ∈ pz_W := pz_in (List.mem_append_right _ (List.mem_append_right _ (List.mem_append_right _ (List.mem_append_right _ (List.mem_append_left _ (List.mem_of_getElem? (i := 119) (by decide +kernel))))))) (by decide +kernel)
theorem mw_e59d7dce : Cond.fieldLink RX10 39 "LineTimesModel" "zoneFrom" "[J" ∈ pz_W := pz_in (List.mem_append_right _ (List.mem_append_right _ (List.mem_append_right _ (List.mem_append_right _ (List.mem_append_left _ (List.mem_of_getElem? (i := 120) (by decide +kernel))))))) (by decide +kernel)
theorem mw_9d3a66d3 : Cond.fieldLink RX10 42 "LineTimesModel" "zoneMinutes" "[I" ∈ pz_W := pz_in (List.mem_append_right _ (List.mem_append_right _ (List.mem_append_right _ (List.mem_append_right _ (List.mem_append_left _ (List.mem_of_getElem? (i := 121) (by decide +kernel))))))) (by decide +kernel)
theorem mw_bc59504b : Cond.fieldLink RX10 144 "LineTimesModel" "lates" "I" ∈ pz_W := pz_in (List.mem_append_right _ (List.mem_append_right _ (List.mem_append_right _ (List.mem_append_right _ (List.mem_append_left _ (List.mem_of_getElem? (i := 122) (by decide +kernel))))))) (by decide +kernel)
theorem mw_6b61d357 : Cond.fieldLink RX10 45 "LineTimesModel" "lateLine" "[I" ∈ pz_W := pz_in (List.mem_append_right _ (List.mem_append_right _ (List.mem_append_right _ (List.mem_append_right _ (List.mem_append_left _ (List.mem_of_getElem? (i := 123) (by decide +kernel))))))) (by decide +kernel)
theorem mw_6d2c644d : Cond.fieldLink RX10 48 "LineTimesModel" "lateStop" "[I" ∈ pz_W := pz_in (List.mem_append_right _ (List.mem_append_right _ (List.mem_append_right _ (List.mem_append_right _ (List.mem_append_left _ (List.mem_of_getElem? (i := 124) (by decide +kernel))))))) (by decide +kernel)
theorem mw_d5614c62 : Cond.fieldLink RX10 51 "LineTimesModel" "lateBy" "[J" ∈ pz_W := pz_in (List.mem_append_right _ (List.mem_append_right _ (List.mem_append_right _ (List.mem_append_right _ (List.mem_append_left _ (List.mem_of_getElem? (i := 125) (by decide +kernel))))))) (by decide +kernel)
theorem mw_4846735b : Cond.fieldLink RX10 54 "LineTimesModel" "lateDay" "[J" ∈ pz_W := pz_in (List.mem_append_right _ (List.mem_append_right _ (List.mem_append_right _ (List.mem_append_right _ (List.mem_append_left _ (List.mem_of_getElem? (i := 126) (by decide +kernel))))))) (by decide +kernel)
theorem mw_1b6f5ecd : Cond.fieldLink RX10 57 "LineTimesModel" "changes" "[I" ∈ pz_W := pz_in (List.mem_append_right _ (List.mem_append_right _ (List.mem_append_right _ (List.mem_append_right _ (List.mem_append_left _ (List.mem_of_getElem? (i := 127) (by decide +kernel))))))) (by decide +kernel)
theorem mw_2f85e0df : Cond.fieldLink RX10 60 "LineTimesModel" "earliest" "[J" ∈ pz_W := pz_in (List.mem_append_right _ (List.mem_append_right _ (List.mem_append_right _ (List.mem_append_right _ (List.mem_append_left _ (List.mem_of_getElem? (i := 128) (by decide +kernel))))))) (by decide +kernel)
theorem mw_2c09b292 : Cond.fieldLink RX10 192 "LineTimesModel" "legs" "I" ∈ pz_W := pz_in (List.mem_append_right _ (List.mem_append_right _ (List.mem_append_right _ (List.mem_append_right _ (List.mem_append_left _ (List.mem_of_getElem? (i := 129) (by decide +kernel))))))) (by decide +kernel)
theorem mw_6928b6ad : Cond.fieldLink RX10 63 "LineTimesModel" "legLine" "[I" ∈ pz_W := pz_in (List.mem_append_right _ (List.mem_append_right _ (List.mem_append_right _ (List.mem_append_right _ (List.mem_append_left _ (List.mem_of_getElem? (i := 130) (by decide +kernel))))))) (by decide +kernel)
theorem mw_f2a9cd90 : Cond.fieldLink RX10 66 "LineTimesModel" "legDay" "[J" ∈ pz_W := pz_in (List.mem_append_right _ (List.mem_append_right _ (List.mem_append_right _ (List.mem_append_right _ (List.mem_append_left _ (List.mem_of_getElem? (i := 131) (by decide +kernel))))))) (by decide +kernel)
theorem mw_6e65b301 : Cond.fieldLink RX10 69 "LineTimesModel" "legOn" "[I" ∈ pz_W := pz_in (List.mem_append_right _ (List.mem_append_right _ (List.mem_append_right _ (List.mem_append_right _ (List.mem_append_left _ (List.mem_of_getElem? (i := 132) (by decide +kernel))))))) (by decide +kernel)
theorem mw_7f211ead : Cond.fieldLink RX10 72 "LineTimesModel" "legOff" "[I" ∈ pz_W := pz_in (List.mem_append_right _ (List.mem_append_right _ (List.mem_append_right _ (List.mem_append_right _ (List.mem_append_left _ (List.mem_of_getElem? (i := 133) (by decide +kernel))))))) (by decide +kernel)
theorem mw_a8e9bc22 : Cond.fieldLink RX10 222 "LineTimesModel" "written" "I" ∈ pz_W := pz_in (List.mem_append_right _ (List.mem_append_right _ (List.mem_append_right _ (List.mem_append_right _ (List.mem_append_left _ (List.mem_of_getElem? (i := 134) (by decide +kernel))))))) (by decide +kernel)
theorem mw_b9007286 : Cond.fieldLink RX10 75 "LineTimesModel" "text" "[I" ∈ pz_W := pz_in (List.mem_append_right _ (List.mem_append_right _ (List.mem_append_right _ (List.mem_append_right _ (List.mem_append_left _ (List.mem_of_getElem? (i := 135) (by decide +kernel))))))) (by decide +kernel)
theorem mw_4cf35770 : Cond.fieldLink RX10 78 "LineTimesModel" "in" "[J" ∈ pz_W := pz_in (List.mem_append_right _ (List.mem_append_right _ (List.mem_append_right _ (List.mem_append_right _ (List.mem_append_left _ (List.mem_of_getElem? (i := 136) (by decide +kernel))))))) (by decide +kernel)
theorem mw_664a2ed3 : Cond.fieldLink RX10 81 "LineTimesModel" "out" "[J" ∈ pz_W := pz_in (List.mem_append_right _ (List.mem_append_right _ (List.mem_append_right _ (List.mem_append_right _ (List.mem_append_left _ (List.mem_of_getElem? (i := 137) (by decide +kernel))))))) (by decide +kernel)
theorem mw_fd6ebad1 : Cond.fieldLink RX10 84 "LineTimesModel" "legTimes" "[I" ∈ pz_W := pz_in (List.mem_append_right _ (List.mem_append_right _ (List.mem_append_right _ (List.mem_append_right _ (List.mem_append_left _ (List.mem_of_getElem? (i := 138) (by decide +kernel))))))) (by decide +kernel)
theorem mw_d201e80b : Cond.fieldLink RX10 87 "LineTimesModel" "told" "[J" ∈ pz_W := pz_in (List.mem_append_right _ (List.mem_append_right _ (List.mem_append_right _ (List.mem_append_right _ (List.mem_append_left _ (List.mem_of_getElem? (i := 139) (by decide +kernel))))))) (by decide +kernel)
theorem mw_a87c2e50 : Cond.fieldLink RX10 90 "LineTimesModel" "best" "[J" ∈ pz_W := pz_in (List.mem_append_right _ (List.mem_append_right _ (List.mem_append_right _ (List.mem_append_right _ (List.mem_append_left _ (List.mem_of_getElem? (i := 140) (by decide +kernel))))))) (by decide +kernel)
theorem mw_f9a79a2c : Cond.fieldLink RX10 93 "LineTimesModel" "probe" "[J" ∈ pz_W := pz_in (List.mem_append_right _ (List.mem_append_right _ (List.mem_append_right _ (List.mem_append_right _ (List.mem_append_left _ (List.mem_of_getElem? (i := 141) (by decide +kernel))))))) (by decide +kernel)
theorem mw_792624ad : Cond.fieldLink RX10 228 "LineTimesModel" "at" "I" ∈ pz_W := pz_in (List.mem_append_right _ (List.mem_append_right _ (List.mem_append_right _ (List.mem_append_right _ (List.mem_append_left _ (List.mem_of_getElem? (i := 142) (by decide +kernel))))))) (by decide +kernel)
theorem mw_198aa72f : Cond.fieldLink RX10 225 "LineTimesModel" "fault" "I" ∈ pz_W := pz_in (List.mem_append_right _ (List.mem_append_right _ (List.mem_append_right _ (List.mem_append_right _ (List.mem_append_left _ (List.mem_of_getElem? (i := 143) (by decide +kernel))))))) (by decide +kernel)
theorem mw_53885fe2 : Cond.arrayClass .long ∈ pz_W := pz_in (List.mem_append_right _ (List.mem_append_right _ (List.mem_append_right _ (List.mem_append_right _ (List.mem_append_left _ (List.mem_of_getElem? (i := 219) (by decide +kernel))))))) (by decide +kernel)
theorem mw_e76aa501 : Cond.constantLong RX10 109 (127) ∈ pz_W := pz_in (List.mem_append_right _ (List.mem_append_right _ (List.mem_append_right _ (List.mem_append_right _ (List.mem_append_left _ (List.mem_of_getElem? (i := 228) (by decide +kernel))))))) (by decide +kernel)
theorem mw_b2fd6b25 : Cond.methodLink RX10 105 yX10_within ∈ pz_W := pz_in (List.mem_append_right _ (List.mem_append_right _ (List.mem_append_right _ (List.mem_append_right _ (List.mem_append_left _ (List.mem_of_getElem? (i := 229) (by decide +kernel))))))) (by decide +kernel)
theorem mw_bf52c9cc : Cond.static yX10_within ∈ pz_W := pz_in (List.mem_append_right _ (List.mem_append_right _ (List.mem_append_right _ (List.mem_append_right _ (List.mem_append_left _ (List.mem_of_getElem? (i := 230) (by decide +kernel))))))) (by decide +kernel)
theorem mw_fee1cb2c : Cond.code yX10_within cX10_within 6 (some .boolean) ∈ pz_W := pz_in (List.mem_append_right _ (List.mem_append_right _ (List.mem_append_right _ (List.mem_append_right _ (List.mem_append_left _ (List.mem_of_getElem? (i := 231) (by decide +kernel))))))) (by decide +kernel)
theorem mw_53c1f8a2 : Cond.methodLink RX10 111 yX10_refused ∈ pz_W := pz_in (List.mem_append_right _ (List.mem_append_right _ (List.mem_append_right _ (List.mem_append_right _ (List.mem_append_left _ (List.mem_of_getElem? (i := 232) (by decide +kernel))))))) (by decide +kernel)
theorem mw_ba17b74c : Cond.instanceMethod yX10_refused ∈ pz_W := pz_in (List.mem_append_right _ (List.mem_append_right _ (List.mem_append_right _ (List.mem_append_right _ (List.mem_append_left _ (List.mem_of_getElem? (i := 234) (by decide +kernel))))))) (by decide +kernel)
theorem mw_471b458e : Cond.code yX10_refused cX10_refused 4 (some .boolean) ∈ pz_W := pz_in (List.mem_append_right _ (List.mem_append_right _ (List.mem_append_right _ (List.mem_append_right _ (List.mem_append_left _ (List.mem_of_getElem? (i := 235) (by decide +kernel))))))) (by decide +kernel)
theorem mw_e8056c21 : Cond.methodLink RX10 115 yX10_isLine ∈ pz_W := pz_in (List.mem_append_right _ (List.mem_append_right _ (List.mem_append_right _ (List.mem_append_right _ (List.mem_append_right _ (List.mem_of_getElem? (i := 0) (by decide +kernel))))))) (by decide +kernel)
theorem mw_6b16837e : Cond.instanceMethod yX10_isLine ∈ pz_W := pz_in (List.mem_append_right _ (List.mem_append_right _ (List.mem_append_right _ (List.mem_append_right _ (List.mem_append_right _ (List.mem_of_getElem? (i := 2) (by decide +kernel))))))) (by decide +kernel)
theorem mw_6be8286f : Cond.code yX10_isLine cX10_isLine 2 (some .boolean) ∈ pz_W := pz_in (List.mem_append_right _ (List.mem_append_right _ (List.mem_append_right _ (List.mem_append_right _ (List.mem_append_right _ (List.mem_of_getElem? (i := 3) (by decide +kernel))))))) (by decide +kernel)
theorem mw_57aced96 : Cond.methodLink RX10 119 yX10_isPlace ∈ pz_W := pz_in (List.mem_append_right _ (List.mem_append_right _ (List.mem_append_right _ (List.mem_append_right _ (List.mem_append_right _ (List.mem_of_getElem? (i := 4) (by decide +kernel))))))) (by decide +kernel)
theorem mw_2d6024eb : Cond.static yX10_isPlace ∈ pz_W := pz_in (List.mem_append_right _ (List.mem_append_right _ (List.mem_append_right _ (List.mem_append_right _ (List.mem_append_right _ (List.mem_of_getElem? (i := 5) (by decide +kernel))))))) (by decide +kernel)
theorem mw_b2184c85 : Cond.code yX10_isPlace cX10_isPlace 1 (some .boolean) ∈ pz_W := pz_in (List.mem_append_right _ (List.mem_append_right _ (List.mem_append_right _ (List.mem_append_right _ (List.mem_append_right _ (List.mem_of_getElem? (i := 6) (by decide +kernel))))))) (by decide +kernel)
theorem mw_8e42fc09 : Cond.constantLong RX10 103 (99) ∈ pz_W := pz_in (List.mem_append_right _ (List.mem_append_right _ (List.mem_append_right _ (List.mem_append_right _ (List.mem_append_right _ (List.mem_of_getElem? (i := 7) (by decide +kernel))))))) (by decide +kernel)
theorem mw_358b21a7 : Cond.constantLong RX10 122 (259200) ∈ pz_W := pz_in (List.mem_append_right _ (List.mem_append_right _ (List.mem_append_right _ (List.mem_append_right _ (List.mem_append_right _ (List.mem_of_getElem? (i := 8) (by decide +kernel))))))) (by decide +kernel)
theorem mw_545736fd : Cond.methodLink RX10 124 yX10_addStop ∈ pz_W := pz_in (List.mem_append_right _ (List.mem_append_right _ (List.mem_append_right _ (List.mem_append_right _ (List.mem_append_right _ (List.mem_of_getElem? (i := 9) (by decide +kernel))))))) (by decide +kernel)
theorem mw_da35c34f : Cond.instanceMethod yX10_addStop ∈ pz_W := pz_in (List.mem_append_right _ (List.mem_append_right _ (List.mem_append_right _ (List.mem_append_right _ (List.mem_append_right _ (List.mem_of_getElem? (i := 11) (by decide +kernel))))))) (by decide +kernel)
theorem mw_c0e3c33a : Cond.code yX10_addStop cX10_addStop 8 none ∈ pz_W := pz_in (List.mem_append_right _ (List.mem_append_right _ (List.mem_append_right _ (List.mem_append_right _ (List.mem_append_right _ (List.mem_of_getElem? (i := 12) (by decide +kernel))))))) (by decide +kernel)
theorem mw_864b0a66 : Cond.constantLong RX10 131 (20000) ∈ pz_W := pz_in (List.mem_append_right _ (List.mem_append_right _ (List.mem_append_right _ (List.mem_append_right _ (List.mem_append_right _ (List.mem_of_getElem? (i := 17) (by decide +kernel))))))) (by decide +kernel)
theorem mw_a736ad55 : Cond.constantLong RX10 136 (2000000000) ∈ pz_W := pz_in (List.mem_append_right _ (List.mem_append_right _ (List.mem_append_right _ (List.mem_append_right _ (List.mem_append_right _ (List.mem_of_getElem? (i := 22) (by decide +kernel))))))) (by decide +kernel)
theorem mw_a236f6e0 : Cond.constantLong RX10 138 (-900) ∈ pz_W := pz_in (List.mem_append_right _ (List.mem_append_right _ (List.mem_append_right _ (List.mem_append_right _ (List.mem_append_right _ (List.mem_of_getElem? (i := 23) (by decide +kernel))))))) (by decide +kernel)
theorem mw_6def7dd5 : Cond.constantLong RX10 140 (900) ∈ pz_W := pz_in (List.mem_append_right _ (List.mem_append_right _ (List.mem_append_right _ (List.mem_append_right _ (List.mem_append_right _ (List.mem_of_getElem? (i := 24) (by decide +kernel))))))) (by decide +kernel)
theorem mw_e15ddb53 : Cond.constantLong RX10 142 (100000) ∈ pz_W := pz_in (List.mem_append_right _ (List.mem_append_right _ (List.mem_append_right _ (List.mem_append_right _ (List.mem_append_right _ (List.mem_of_getElem? (i := 29) (by decide +kernel))))))) (by decide +kernel)
theorem mw_3b033ce7 : Cond.constantLong RX10 186 (1700000000) ∈ pz_W := pz_in (List.mem_append_right _ (List.mem_append_right _ (List.mem_append_right _ (List.mem_append_right _ (List.mem_append_right _ (List.mem_of_getElem? (i := 38) (by decide +kernel))))))) (by decide +kernel)
theorem mw_19e5e0c8 : Cond.constantLong RX10 169 (9223372036854775807) ∈ pz_W := pz_in (List.mem_append_right _ (List.mem_append_right _ (List.mem_append_right _ (List.mem_append_right _ (List.mem_append_right _ (List.mem_of_getElem? (i := 39) (by decide +kernel))))))) (by decide +kernel)
theorem mw_cab40f94 : Cond.methodLink RX10 188 yX10_round ∈ pz_W := pz_in (List.mem_append_right _ (List.mem_append_right _ (List.mem_append_right _ (List.mem_append_right _ (List.mem_append_right _ (List.mem_of_getElem? (i := 40) (by decide +kernel))))))) (by decide +kernel)
theorem mw_2aebd775 : Cond.instanceMethod yX10_round ∈ pz_W := pz_in (List.mem_append_right _ (List.mem_append_right _ (List.mem_append_right _ (List.mem_append_right _ (List.mem_append_right _ (List.mem_of_getElem? (i := 42) (by decide +kernel))))))) (by decide +kernel)
theorem mw_53edc1b9 : Cond.code yX10_round cX10_round 13 none ∈ pz_W := pz_in (List.mem_append_right _ (List.mem_append_right _ (List.mem_append_right _ (List.mem_append_right _ (List.mem_append_right _ (List.mem_of_getElem? (i := 43) (by decide +kernel))))))) (by decide +kernel)
theorem mw_e93d3cab : Cond.constantLong RX10 149 (86400) ∈ pz_W := pz_in (List.mem_append_right _ (List.mem_append_right _ (List.mem_append_right _ (List.mem_append_right _ (List.mem_append_right _ (List.mem_of_getElem? (i := 44) (by decide +kernel))))))) (by decide +kernel)
theorem mw_ac79b3bb : Cond.constantLong RX10 171 (3) ∈ pz_W := pz_in (List.mem_append_right _ (List.mem_append_right _ (List.mem_append_right _ (List.mem_append_right _ (List.mem_append_right _ (List.mem_of_getElem? (i := 45) (by decide +kernel))))))) (by decide +kernel)
theorem mw_7663b009 : Cond.constantLong RX10 173 (9) ∈ pz_W := pz_in (List.mem_append_right _ (List.mem_append_right _ (List.mem_append_right _ (List.mem_append_right _ (List.mem_append_right _ (List.mem_of_getElem? (i := 46) (by decide +kernel))))))) (by decide +kernel)
theorem mw_95669e7d : Cond.methodLink RX10 175 yX10_take ∈ pz_W := pz_in (List.mem_append_right _ (List.mem_append_right _ (List.mem_append_right _ (List.mem_append_right _ (List.mem_append_right _ (List.mem_of_getElem? (i := 47) (by decide +kernel))))))) (by decide +kernel)
theorem mw_e7ac52cd : Cond.instanceMethod yX10_take ∈ pz_W := pz_in (List.mem_append_right _ (List.mem_append_right _ (List.mem_append_right _ (List.mem_append_right _ (List.mem_append_right _ (List.mem_of_getElem? (i := 49) (by decide +kernel))))))) (by decide +kernel)
theorem mw_ca7d03b2 : Cond.code yX10_take cX10_take 5 (some .boolean) ∈ pz_W := pz_in (List.mem_append_right _ (List.mem_append_right _ (List.mem_append_right _ (List.mem_append_right _ (List.mem_append_right _ (List.mem_of_getElem? (i := 50) (by decide +kernel))))))) (by decide +kernel)
theorem mw_9ebc38e8 : Cond.methodLink RX10 161 yX10_runs ∈ pz_W := pz_in (List.mem_append_right _ (List.mem_append_right _ (List.mem_append_right _ (List.mem_append_right _ (List.mem_append_right _ (List.mem_of_getElem? (i := 51) (by decide +kernel))))))) (by decide +kernel)
theorem mw_c828406e : Cond.instanceMethod yX10_runs ∈ pz_W := pz_in (List.mem_append_right _ (List.mem_append_right _ (List.mem_append_right _ (List.mem_append_right _ (List.mem_append_right _ (List.mem_of_getElem? (i := 53) (by decide +kernel))))))) (by decide +kernel)
theorem mw_774f2974 : Cond.code yX10_runs cX10_runs 5 (some .boolean) ∈ pz_W := pz_in (List.mem_append_right _ (List.mem_append_right _ (List.mem_append_right _ (List.mem_append_right _ (List.mem_append_right _ (List.mem_of_getElem? (i := 54) (by decide +kernel))))))) (by decide +kernel)
theorem mw_7ccb59e7 : Cond.constantLong RX10 147 (7) ∈ pz_W := pz_in (List.mem_append_right _ (List.mem_append_right _ (List.mem_append_right _ (List.mem_append_right _ (List.mem_append_right _ (List.mem_of_getElem? (i := 55) (by decide +kernel))))))) (by decide +kernel)
theorem mw_711bf8ae : Cond.methodLink RX10 165 yX10_timeAt ∈ pz_W := pz_in (List.mem_append_right _ (List.mem_append_right _ (List.mem_append_right _ (List.mem_append_right _ (List.mem_append_right _ (List.mem_of_getElem? (i := 56) (by decide +kernel))))))) (by decide +kernel)
theorem mw_615ae78b : Cond.instanceMethod yX10_timeAt ∈ pz_W := pz_in (List.mem_append_right _ (List.mem_append_right _ (List.mem_append_right _ (List.mem_append_right _ (List.mem_append_right _ (List.mem_of_getElem? (i := 58) (by decide +kernel))))))) (by decide +kernel)
theorem mw_b6d174ac : Cond.code yX10_timeAt cX10_timeAt 7 (some .long) ∈ pz_W := pz_in (List.mem_append_right _ (List.mem_append_right _ (List.mem_append_right _ (List.mem_append_right _ (List.mem_append_right _ (List.mem_of_getElem? (i := 59) (by decide +kernel))))))) (by decide +kernel)
theorem mw_197b32cd : Cond.constantLong RX10 151 (60) ∈ pz_W := pz_in (List.mem_append_right _ (List.mem_append_right _ (List.mem_append_right _ (List.mem_append_right _ (List.mem_append_right _ (List.mem_of_getElem? (i := 60) (by decide +kernel))))))) (by decide +kernel)
theorem mw_9e54ffa4 : Cond.methodLink RX10 153 yX10_minutesAt ∈ pz_W := pz_in (List.mem_append_right _ (List.mem_append_right _ (List.mem_append_right _ (List.mem_append_right _ (List.mem_append_right _ (List.mem_of_getElem? (i := 61) (by decide +kernel))))))) (by decide +kernel)
theorem mw_c4b49a2c : Cond.instanceMethod yX10_minutesAt ∈ pz_W := pz_in (List.mem_append_right _ (List.mem_append_right _ (List.mem_append_right _ (List.mem_append_right _ (List.mem_append_right _ (List.mem_of_getElem? (i := 63) (by decide +kernel))))))) (by decide +kernel)
theorem mw_49535ec6 : Cond.code yX10_minutesAt cX10_minutesAt 9 (some .int) ∈ pz_W := pz_in (List.mem_append_right _ (List.mem_append_right _ (List.mem_append_right _ (List.mem_append_right _ (List.mem_append_right _ (List.mem_of_getElem? (i := 64) (by decide +kernel))))))) (by decide +kernel)
theorem mw_dd6aea58 : Cond.methodLink RX10 157 yX10_lateAt ∈ pz_W := pz_in (List.mem_append_right _ (List.mem_append_right _ (List.mem_append_right _ (List.mem_append_right _ (List.mem_append_right _ (List.mem_of_getElem? (i := 65) (by decide +kernel))))))) (by decide +kernel)
theorem mw_70f902e8 : Cond.instanceMethod yX10_lateAt ∈ pz_W := pz_in (List.mem_append_right _ (List.mem_append_right _ (List.mem_append_right _ (List.mem_append_right _ (List.mem_append_right _ (List.mem_of_getElem? (i := 67) (by decide +kernel))))))) (by decide +kernel)
theorem mw_e37def5a : Cond.code yX10_lateAt cX10_lateAt 8 (some .long) ∈ pz_W := pz_in (List.mem_append_right _ (List.mem_append_right _ (List.mem_append_right _ (List.mem_append_right _ (List.mem_append_right _ (List.mem_of_getElem? (i := 68) (by decide +kernel))))))) (by decide +kernel)
theorem mw_f010a24d : Cond.methodLink RX10 178 yX10_ready ∈ pz_W := pz_in (List.mem_append_right _ (List.mem_append_right _ (List.mem_append_right _ (List.mem_append_right _ (List.mem_append_right _ (List.mem_of_getElem? (i := 69) (by decide +kernel))))))) (by decide +kernel)
theorem mw_3142e364 : Cond.instanceMethod yX10_ready ∈ pz_W := pz_in (List.mem_append_right _ (List.mem_append_right _ (List.mem_append_right _ (List.mem_append_right _ (List.mem_append_right _ (List.mem_of_getElem? (i := 71) (by decide +kernel))))))) (by decide +kernel)
theorem mw_99ddfc1c : Cond.code yX10_ready cX10_ready 8 (some .long) ∈ pz_W := pz_in (List.mem_append_right _ (List.mem_append_right _ (List.mem_append_right _ (List.mem_append_right _ (List.mem_append_right _ (List.mem_of_getElem? (i := 72) (by decide +kernel))))))) (by decide +kernel)
theorem mw_9fdd040c : Cond.methodLink RX10 182 yX10_isLeg ∈ pz_W := pz_in (List.mem_append_right _ (List.mem_append_right _ (List.mem_append_right _ (List.mem_append_right _ (List.mem_append_right _ (List.mem_of_getElem? (i := 73) (by decide +kernel))))))) (by decide +kernel)
theorem mw_f42fee7f : Cond.instanceMethod yX10_isLeg ∈ pz_W := pz_in (List.mem_append_right _ (List.mem_append_right _ (List.mem_append_right _ (List.mem_append_right _ (List.mem_append_right _ (List.mem_of_getElem? (i := 75) (by decide +kernel))))))) (by decide +kernel)
theorem mw_12b9c6e3 : Cond.code yX10_isLeg cX10_isLeg 3 (some .boolean) ∈ pz_W := pz_in (List.mem_append_right _ (List.mem_append_right _ (List.mem_append_right _ (List.mem_append_right _ (List.mem_append_right _ (List.mem_of_getElem? (i := 76) (by decide +kernel))))))) (by decide +kernel)
theorem mw_38b1cbde : Cond.constantLong RX10 195 (-1) ∈ pz_W := pz_in (List.mem_append_right _ (List.mem_append_right _ (List.mem_append_right _ (List.mem_append_right _ (List.mem_append_right _ (List.mem_of_getElem? (i := 77) (by decide +kernel))))))) (by decide +kernel)
theorem mw_47a23af0 : Cond.methodLink RX10 197 yX10_choose ∈ pz_W := pz_in (List.mem_append_right _ (List.mem_append_right _ (List.mem_append_right _ (List.mem_append_right _ (List.mem_append_right _ (List.mem_of_getElem? (i := 78) (by decide +kernel))))))) (by decide +kernel)
theorem mw_32a36f05 : Cond.instanceMethod yX10_choose ∈ pz_W := pz_in (List.mem_append_right _ (List.mem_append_right _ (List.mem_append_right _ (List.mem_append_right _ (List.mem_append_right _ (List.mem_of_getElem? (i := 80) (by decide +kernel))))))) (by decide +kernel)
theorem mw_76e22ade : Cond.code yX10_choose cX10_choose 13 none ∈ pz_W := pz_in (List.mem_append_right _ (List.mem_append_right _ (List.mem_append_right _ (List.mem_append_right _ (List.mem_append_right _ (List.mem_of_getElem? (i := 81) (by decide +kernel))))))) (by decide +kernel)
theorem mw_b164ee6b : Cond.methodLink RX10 201 yX10_keepTimes ∈ pz_W := pz_in (List.mem_append_right _ (List.mem_append_right _ (List.mem_append_right _ (List.mem_append_right _ (List.mem_append_right _ (List.mem_of_getElem? (i := 82) (by decide +kernel))))))) (by decide +kernel)
theorem mw_e9a6f95e : Cond.instanceMethod yX10_keepTimes ∈ pz_W := pz_in (List.mem_append_right _ (List.mem_append_right _ (List.mem_append_right _ (List.mem_append_right _ (List.mem_append_right _ (List.mem_of_getElem? (i := 84) (by decide +kernel))))))) (by decide +kernel)
theorem mw_867174a1 : Cond.code yX10_keepTimes cX10_keepTimes 2 none ∈ pz_W := pz_in (List.mem_append_right _ (List.mem_append_right _ (List.mem_append_right _ (List.mem_append_right _ (List.mem_append_right _ (List.mem_of_getElem? (i := 85) (by decide +kernel))))))) (by decide +kernel)
theorem mw_7d6f65f7 : Cond.constantLong RX10 204 (5) ∈ pz_W := pz_in (List.mem_append_right _ (List.mem_append_right _ (List.mem_append_right _ (List.mem_append_right _ (List.mem_append_right _ (List.mem_of_getElem? (i := 90) (by decide +kernel))))))) (by decide +kernel)
theorem mw_bac607d1 : Cond.constantLong RX10 206 (12) ∈ pz_W := pz_in (List.mem_append_right _ (List.mem_append_right _ (List.mem_append_right _ (List.mem_append_right _ (List.mem_append_right _ (List.mem_of_getElem? (i := 95) (by decide +kernel))))))) (by decide +kernel)
theorem mw_c57303f6 : Cond.constantLong RX10 212 (100) ∈ pz_W := pz_in (List.mem_append_right _ (List.mem_append_right _ (List.mem_append_right _ (List.mem_append_right _ (List.mem_append_right _ (List.mem_of_getElem? (i := 100) (by decide +kernel))))))) (by decide +kernel)
theorem mw_b3231e0c : Cond.methodLink RX10 214 yX10_goOn ∈ pz_W := pz_in (List.mem_append_right _ (List.mem_append_right _ (List.mem_append_right _ (List.mem_append_right _ (List.mem_append_right _ (List.mem_of_getElem? (i := 101) (by decide +kernel))))))) (by decide +kernel)
theorem mw_c0e3401a : Cond.instanceMethod yX10_goOn ∈ pz_W := pz_in (List.mem_append_right _ (List.mem_append_right _ (List.mem_append_right _ (List.mem_append_right _ (List.mem_append_right _ (List.mem_of_getElem? (i := 103) (by decide +kernel))))))) (by decide +kernel)
theorem mw_d0701813 : Cond.code yX10_goOn cX10_goOn 16 (some .boolean) ∈ pz_W := pz_in (List.mem_append_right _ (List.mem_append_right _ (List.mem_append_right _ (List.mem_append_right _ (List.mem_append_right _ (List.mem_of_getElem? (i := 104) (by decide +kernel))))))) (by decide +kernel)
theorem mw_7383535b : Cond.methodLink RX10 208 yX10_order ∈ pz_W := pz_in (List.mem_append_right _ (List.mem_append_right _ (List.mem_append_right _ (List.mem_append_right _ (List.mem_append_right _ (List.mem_of_getElem? (i := 105) (by decide +kernel))))))) (by decide +kernel)
theorem mw_971be5ce : Cond.static yX10_order ∈ pz_W := pz_in (List.mem_append_right _ (List.mem_append_right _ (List.mem_append_right _ (List.mem_append_right _ (List.mem_append_right _ (List.mem_of_getElem? (i := 106) (by decide +kernel))))))) (by decide +kernel)
theorem mw_9e49c3f6 : Cond.code yX10_order cX10_order 3 (some .int) ∈ pz_W := pz_in (List.mem_append_right _ (List.mem_append_right _ (List.mem_append_right _ (List.mem_append_right _ (List.mem_append_right _ (List.mem_of_getElem? (i := 107) (by decide +kernel))))))) (by decide +kernel)
theorem mw_7b8bc9b7 : Cond.constantLong RX10 218 (32) ∈ pz_W := pz_in (List.mem_append_right _ (List.mem_append_right _ (List.mem_append_right _ (List.mem_append_right _ (List.mem_append_right _ (List.mem_of_getElem? (i := 112) (by decide +kernel))))))) (by decide +kernel)
theorem mw_46989f95 : Cond.constantLong RX10 220 (126) ∈ pz_W := pz_in (List.mem_append_right _ (List.mem_append_right _ (List.mem_append_right _ (List.mem_append_right _ (List.mem_append_right _ (List.mem_of_getElem? (i := 113) (by decide +kernel))))))) (by decide +kernel)
theorem mw_163d9655 : Cond.methodLink RX10 231 yX10_look ∈ pz_W := pz_in (List.mem_append_right _ (List.mem_append_right _ (List.mem_append_right _ (List.mem_append_right _ (List.mem_append_right _ (List.mem_of_getElem? (i := 118) (by decide +kernel))))))) (by decide +kernel)
theorem mw_3c3d61f3 : Cond.instanceMethod yX10_look ∈ pz_W := pz_in (List.mem_append_right _ (List.mem_append_right _ (List.mem_append_right _ (List.mem_append_right _ (List.mem_append_right _ (List.mem_of_getElem? (i := 120) (by decide +kernel))))))) (by decide +kernel)
theorem mw_a8b3240f : Cond.code yX10_look cX10_look 1 (some .int) ∈ pz_W := pz_in (List.mem_append_right _ (List.mem_append_right _ (List.mem_append_right _ (List.mem_append_right _ (List.mem_append_right _ (List.mem_of_getElem? (i := 121) (by decide +kernel))))))) (by decide +kernel)
theorem mw_90a73359 : Cond.methodLink RX10 235 yX10_fail ∈ pz_W := pz_in (List.mem_append_right _ (List.mem_append_right _ (List.mem_append_right _ (List.mem_append_right _ (List.mem_append_right _ (List.mem_of_getElem? (i := 122) (by decide +kernel))))))) (by decide +kernel)
theorem mw_b39d85ff : Cond.instanceMethod yX10_fail ∈ pz_W := pz_in (List.mem_append_right _ (List.mem_append_right _ (List.mem_append_right _ (List.mem_append_right _ (List.mem_append_right _ (List.mem_of_getElem? (i := 124) (by decide +kernel))))))) (by decide +kernel)
theorem mw_b0fcd068 : Cond.code yX10_fail cX10_fail 2 none ∈ pz_W := pz_in (List.mem_append_right _ (List.mem_append_right _ (List.mem_append_right _ (List.mem_append_right _ (List.mem_append_right _ (List.mem_of_getElem? (i := 125) (by decide +kernel))))))) (by decide +kernel)
theorem mw_45279ebd : Cond.methodLink RX10 239 yX10_number ∈ pz_W := pz_in (List.mem_append_right _ (List.mem_append_right _ (List.mem_append_right _ (List.mem_append_right _ (List.mem_append_right _ (List.mem_of_getElem? (i := 126) (by decide +kernel))))))) (by decide +kernel)
theorem mw_a2815e7c : Cond.instanceMethod yX10_number ∈ pz_W := pz_in (List.mem_append_right _ (List.mem_append_right _ (List.mem_append_right _ (List.mem_append_right _ (List.mem_append_right _ (List.mem_of_getElem? (i := 128) (by decide +kernel))))))) (by decide +kernel)
theorem mw_dcfc2031 : Cond.code yX10_number cX10_number 4 (some .int) ∈ pz_W := pz_in (List.mem_append_right _ (List.mem_append_right _ (List.mem_append_right _ (List.mem_append_right _ (List.mem_append_right _ (List.mem_of_getElem? (i := 129) (by decide +kernel))))))) (by decide +kernel)
theorem mw_cb452f41 : Cond.methodLink RX10 247 yX10_readStop ∈ pz_W := pz_in (List.mem_append_right _ (List.mem_append_right _ (List.mem_append_right _ (List.mem_append_right _ (List.mem_append_right _ (List.mem_of_getElem? (i := 130) (by decide +kernel))))))) (by decide +kernel)
theorem mw_ee772228 : Cond.instanceMethod yX10_readStop ∈ pz_W := pz_in (List.mem_append_right _ (List.mem_append_right _ (List.mem_append_right _ (List.mem_append_right _ (List.mem_append_right _ (List.mem_of_getElem? (i := 132) (by decide +kernel))))))) (by decide +kernel)
theorem mw_b16f2471 : Cond.code yX10_readStop cX10_readStop 8 none ∈ pz_W := pz_in (List.mem_append_right _ (List.mem_append_right _ (List.mem_append_right _ (List.mem_append_right _ (List.mem_append_right _ (List.mem_of_getElem? (i := 133) (by decide +kernel))))))) (by decide +kernel)
theorem mw_f4b43ab0 : Cond.methodLink RX10 243 yX10_blank ∈ pz_W := pz_in (List.mem_append_right _ (List.mem_append_right _ (List.mem_append_right _ (List.mem_append_right _ (List.mem_append_right _ (List.mem_of_getElem? (i := 134) (by decide +kernel))))))) (by decide +kernel)
theorem mw_f1219b6b : Cond.instanceMethod yX10_blank ∈ pz_W := pz_in (List.mem_append_right _ (List.mem_append_right _ (List.mem_append_right _ (List.mem_append_right _ (List.mem_append_right _ (List.mem_of_getElem? (i := 136) (by decide +kernel))))))) (by decide +kernel)
theorem mw_9e9c7049 : Cond.code yX10_blank cX10_blank 1 none ∈ pz_W := pz_in (List.mem_append_right _ (List.mem_append_right _ (List.mem_append_right _ (List.mem_append_right _ (List.mem_append_right _ (List.mem_of_getElem? (i := 137) (by decide +kernel))))))) (by decide +kernel)
theorem mw_54420761 : Cond.constant RX10 246 (259200) ∈ pz_W := pz_in (List.mem_append_right _ (List.mem_append_right _ (List.mem_append_right _ (List.mem_append_right _ (List.mem_append_right _ (List.mem_of_getElem? (i := 138) (by decide +kernel))))))) (by decide +kernel)
end
section
/-! labels keep cells apart -/
def hg (S : List Nat → Prop) (g g' : pz_H) : Prop := ∀ a b e, g a = some (b, e) → ¬ S b → g' a = some (b, e)
theorem hg_rf {S : List Nat → Prop} {g : pz_H} : hg S g g := fun _ _ _ h _ => h
theorem hg_tr {S : List Nat → Prop} {g g1 g2 : pz_H} (h1 : hg S g g1) (h2 : hg S g1 g2) : hg S g g2 := fun a b e h hb => h2 a b e (h1 a b e h hb) hb
theorem hg_mono {S S' : List Nat → Prop} {g g1 : pz_H} (h1 : hg S g g1) (h : ∀ b, S b → S' b) : hg S' g g1 := fun a b e h2 hb => h1 a b e h2 (fun q => hb (h b q))
theorem hg_up {S : List Nat → Prop} {g g1 : pz_H} {a : Nat} {b : List Nat} {e0 : pz_E} {v : Option (List Nat × pz_E)} (h : hg S g g1) (ha : g1 a = some (b, e0)) (hb : S b) : hg S g (va_up g1 a v) := by
  intro x b' e' hx hn
  have h1 := h x b' e' hx hn
  by_cases he : x = a
  · subst he
    rw [ha] at h1
    cases h1
    exact absurd hb hn
  · rw [va_up_ne _ _ he]
    exact h1
theorem hg_new {S : List Nat → Prop} {g g1 : pz_H} {q : Nat} {v : Option (List Nat × pz_E)} (h : hg S g g1) (hq : g1 q = none) : hg S g (va_up g1 q v) := by
  intro x b' e' hx hn
  have h1 := h x b' e' hx hn
  by_cases he : x = q
  · subst he
    rw [hq] at h1
    cases h1
  · rw [va_up_ne _ _ he]
    exact h1
theorem up_at {g : pz_H} {a : Nat} {v : Option (List Nat × pz_E)} : va_up g a v a = v := va_up_self g a v
theorem up_ne {g : pz_H} {x a : Nat} {b b' : List Nat} {e e' : pz_E} {v : Option (List Nat × pz_E)} (h : g x = some (b', e')) (ha : g a = some (b, e)) (hb : b' ≠ b) : va_up g a v x = some (b', e') := by
  rw [va_up_ne]
  · exact h
  · intro q
    subst q
    rw [h] at ha
    cases ha
    exact hb rfl
theorem up_nq {g : pz_H} {x q : Nat} {b' : List Nat} {e' : pz_E} {v : Option (List Nat × pz_E)} (h : g x = some (b', e')) (hq : g q = none) : va_up g q v x = some (b', e') := by
  rw [va_up_ne]
  · exact h
  · intro q2
    subst q2
    rw [h] at hq
    cases hq
theorem up_up {g : pz_H} {a : Nat} {v w : Option (List Nat × pz_E)} : va_up (va_up g a v) a w = va_up g a w := bx_uu g a v w
theorem ni_in {j n : Nat} (h : j < n) (hn : n ≤ 1000000) : vp_in (nI j) n := vp_in_nI h (by omega)
theorem ni_cl {j : Nat} (h : j ≤ 1000000) : (nI j).toNatClampNeg = j := nI_clamp (by omega)
theorem ni_pred {n : Nat} (h : 0 < n) : nI n - 1 = nI (n - 1) := by
  obtain ⟨k, rfl⟩ : ∃ k, n = k + 1 := ⟨n - 1, by omega⟩
  exact nI_pred k
theorem ni_inj {a b : Nat} (ha : a ≤ 1000000) (hb : b ≤ 1000000) (h : nI a = nI b) : a = b := (nI_eq (by omega) (by omega)).mp h
theorem ni_lt {a b : Nat} (ha : a ≤ 1000000) (hb : b ≤ 1000000) : nI a < nI b ↔ a < b := nI_ltI (by omega) (by omega)
theorem ni_le {a b : Nat} (ha : a ≤ 1000000) (hb : b ≤ 1000000) : nI a ≤ nI b ↔ a ≤ b := nI_leI (by omega) (by omega)
/-! fewer locals, in another order -/
def pz_all (lv : pz_L) : pz_L → Prop
  | [] => True
  | (i, v) :: l => pz_f lv i = some v ∧ pz_all lv l
theorem pz_lsub {X : pz_C} {nL pc c s : Nat} {lv lv' : pz_L} {st : List pz_V} {g : pz_H} (h : pz_all lv lv') (k : pz_Z X nL pc lv' st g c s) : pz_Z X nL pc lv st g c s := by
  obtain ⟨p, l, e, R, s1, m, args, below, meth, c1, Q, D, cy, A, En⟩ := X
  intro ls H locs hl hP hS
  refine k ls H locs ⟨hl.1, hl.2.1, ?_⟩ hP hS
  clear k
  induction lv' with
  | nil => intro q hq; cases hq
  | cons q l ih =>
    obtain ⟨i, v⟩ := q
    obtain ⟨h1, h2⟩ := h
    intro z hz
    rcases List.mem_cons.mp hz with rfl | hz
    · exact pz_ls hl h1
    · exact ih h2 z hz
theorem ni_inc {i : Nat} : some (Sum.inl (nI i + 1) : pz_V) = some (Sum.inl (nI (i + 1))) := by rw [nI_1]
theorem pz_grf {g : pz_H} {a : Nat} {v : Option (List Nat × pz_E)} (h : g a = v) : va_up g a v = g := funext fun y => by
  by_cases e : y = a
  · subst e; rw [up_at, h]
  · rw [va_up_ne _ _ e]
/-! what is known beside the words: List's methods are ArrayList's -/
def pz_Fw (G : pz_Gx) (x y : MethodName) : Prop := ∀ (B : Nat → Prop) (U : State) (J : Heap), G.2.2.2 B U J → va_Fw RJx4a65c x y U
def pz_OK (G : pz_Gx) : Prop := pz_Ok G.2.2.2 ∧ pz_Fw G ⟨"java/util/List", "size", "()I"⟩ yJx4a65c_size_8abf5 ∧ pz_Fw G ⟨"java/util/List", "get", "(I)Ljava/lang/Object;"⟩ yJx4a65c_get_915e3 ∧ pz_Fw G ⟨"java/util/List", "add", "(Ljava/lang/Object;)Z"⟩ yJx4a65c_add_9ea2d ∧ pz_Fw G ⟨"java/util/List", "clear", "()V"⟩ yJx4a65c_clear_da8c8 ∧ pz_Fw G ⟨"java/util/List", "isEmpty", "()Z"⟩ yJx4a65c_isEmpty_aae02
/-! java.util.Arrays.fill(int[], int) -/
set_option maxRecDepth 20000 in
theorem bJ7_fill_53178_0 {X : pz_C} (hX : pz_X X cJ7_fill_53178 4 RJ7) : ∀ lv st g c s, (zo_ic 1 (0) (zo_is 1 2 (zo_al 1 0 (zo_alen (zo_is 1 3 (pz_Z X 4)))))) 0 lv st g c s → pz_Z X 4 0 lv st g c s := (zs_iconst hX dJ7_fill_53178_0 (by decide) (zs_istore_n hX dJ7_fill_53178_1 rfl (by decide) (zs_aload_n hX dJ7_fill_53178_2 rfl (zs_alen hX dJ7_fill_53178_3 (zs_istore_n hX dJ7_fill_53178_4 rfl (by decide) (fun _ _ _ _ _ h => h))))))
set_option maxRecDepth 20000 in
theorem bJ7_fill_53178_5 {X : pz_C} (hX : pz_X X cJ7_fill_53178 4 RJ7) : ∀ lv st g c s, (zo_il 1 2 (zo_il 1 3 (zo_ic_ge 20 (pz_Z X 4)))) 5 lv st g c s → pz_Z X 4 5 lv st g c s := (zs_iload_n hX dJ7_fill_53178_5 rfl (zs_iload_n hX dJ7_fill_53178_6 rfl (zs_ic_ge hX dJ7_fill_53178_7 (by decide) (fun _ _ _ _ _ _ h => h))))
set_option maxRecDepth 20000 in
theorem bJ7_fill_53178_10 {X : pz_C} (hX : pz_X X cJ7_fill_53178 4 RJ7) : ∀ lv st g c s, (zo_al 1 0 (zo_il 1 2 (zo_il 1 1 (zo_iast (zo_inc 2 (1) (zo_goto 5 (pz_Z X 4))))))) 10 lv st g c s → pz_Z X 4 10 lv st g c s := (zs_aload_n hX dJ7_fill_53178_10 rfl (zs_iload_n hX dJ7_fill_53178_11 rfl (zs_iload_n hX dJ7_fill_53178_12 rfl (zs_iast hX dJ7_fill_53178_13 (zs_iinc hX dJ7_fill_53178_14 (by decide) (by decide) (zs_goto hX dJ7_fill_53178_17 (by decide) (fun _ _ _ _ _ _ h => h)))))))
set_option maxRecDepth 20000 in
theorem bJ7_fill_53178_20 {X : pz_C} {rm : Room} {E : Option pz_V → pz_H → Prop} (hX : pz_X X cJ7_fill_53178 4 RJ7) (hR : pz_Rt X cJ7_fill_53178 4 none rm E) : ∀ lv st g c s, (zo_rv rm E) 20 lv st g c s → pz_Z X 4 20 lv st g c s := (zs_rv hR dJ7_fill_53178_20)
def rm_J7_fill_53178 : Room := { frames := 0, cells := 0, slots := 0, locals := 0 }
abbrev gt_J7_fill_53178 : Type := Nat × Int32 × List Nat × Nat × (Nat → Int32)
def pr_J7_fill_53178 : gt_J7_fill_53178 → List pz_V → pz_H → Prop := fun (a, x, b, n, f) av g => av = [.inr (.inr (some a)), .inl x] ∧ g a = some (b, .inl (0, n, .inl f)) ∧ n ≤ 1000000
def po_J7_fill_53178 : gt_J7_fill_53178 → List pz_V → pz_H → Option pz_V → pz_H → Prop := fun (a, x, b, n, _) _ g v g' => v = none ∧ ∃ f' : Nat → Int32, g' = va_up g a (some (b, .inl (0, n, .inl f'))) ∧ ∀ j, j < n → f' j = x
set_option maxRecDepth 20000 in
theorem ct_J7_fill_53178 {G : pz_Gx} (hOk : pz_OK G) (gh : gt_J7_fill_53178) : pz_M G yJ7_fill_53178 cJ7_fill_53178 4 none rm_J7_fill_53178 (pr_J7_fill_53178 gh) (po_J7_fill_53178 gh) := by
  obtain ⟨a, x, b, n, f⟩ := gh
  refine pz_ofZ (by decide) hOk.1 (Or.inl rfl) ?_ ?_
  · rintro av g ⟨rfl, -⟩
    exact Nat.le_of_ble_eq_true rfl
  · rintro X hX hGX hrm - av g ⟨rfl, hg, hn⟩ hR
    have loop : ∀ (k i : Nat) (f2 : Nat → Int32), i + k = n → (∀ j, j < i → f2 j = x) → pz_Z X 4 5 [(3, .inl (nI n)), (2, .inl (nI i)), (0, .inr (.inr (some a))), (1, .inl x)] [] (va_up g a (some (b, .inl (0, n, .inl f2)))) 0 0 := by
      intro k
      induction k with
      | zero =>
        intro i f2 hi hf
        refine bJ7_fill_53178_5 hX _ _ _ _ _ ⟨fun _ => ?_, fun q => absurd (by rw [ni_le (by omega) (by omega)]; omega) q⟩
        exact bJ7_fill_53178_20 hX hR _ _ _ _ _ ⟨Nat.le_refl _, Nat.le_refl _, rfl, f2, rfl, fun j hj => hf j (by omega)⟩
      | succ k ih =>
        intro i f2 hi hf
        refine bJ7_fill_53178_5 hX _ _ _ _ _ ⟨fun q => absurd ((ni_le (by omega) (by omega)).mp q) (by omega), fun _ => ?_⟩
        refine bJ7_fill_53178_10 hX _ _ _ _ _ ⟨b, n, f2, up_at, ni_in (by omega) hn, ?_⟩
        rw [up_up, ni_cl (by omega)]
        refine pz_lsub (lv' := [(3, .inl (nI n)), (2, .inl (nI (i + 1))), (0, .inr (.inr (some a))), (1, .inl x)]) ⟨rfl, ni_inc, rfl, rfl, trivial⟩ ?_
        refine ih (i + 1) (upd f2 i x) (by omega) (fun j hj => ?_)
        by_cases h : j = i
        · subst h; exact pk_us
        · rw [pk_un h]; exact hf j (by omega)
    refine bJ7_fill_53178_0 hX _ _ _ _ _ ⟨_, _, _, hg, by decide, ?_⟩
    have := loop n 0 f (by omega) (fun j hj => absurd hj (Nat.not_lt_zero j))
    rw [pz_grf hg] at this
    exact this
end
section
/-! LineTimes$Place: a place's zone rows, the latest in front; minutesAt -/
set_option maxRecDepth 20000 in
theorem bX5_minutesAt_0 {X : pz_C} (hX : pz_X X cX5_minutesAt 4 RX5) : ∀ lv st g c s, (zo_ic 1 (0) (zo_is 1 2 (zo_al 1 0 (zo_get 7 0 (zo_as 1 3 (pz_Z X 4)))))) 0 lv st g c s → pz_Z X 4 0 lv st g c s := (zs_iconst hX dX5_minutesAt_0 (by decide) (zs_istore_n hX dX5_minutesAt_1 rfl (by decide) (zs_aload_n hX dX5_minutesAt_2 rfl (zs_get hX (C := RX5) (T := TX5) (N := 3) rfl in_X5 (by decide) mw_902ce658 dX5_minutesAt_3 (zs_astore_n hX dX5_minutesAt_6 rfl (by decide) (fun _ _ _ _ _ h => h))))))
set_option maxRecDepth 20000 in
theorem bX5_minutesAt_7 {X : pz_C} (hX : pz_X X cX5_minutesAt 4 RX5) : ∀ lv st g c s, (zo_al 1 3 (zo_ifnull 34 (pz_Z X 4))) 7 lv st g c s → pz_Z X 4 7 lv st g c s := (zs_aload_n hX dX5_minutesAt_7 rfl (zs_ifnull hX dX5_minutesAt_8 (by decide) (fun _ _ _ _ _ _ h => h)))
set_option maxRecDepth 20000 in
theorem bX5_minutesAt_11 {X : pz_C} (hX : pz_X X cX5_minutesAt 4 RX5) : ∀ lv st g c s, (zo_al 1 3 (zo_get 10 1 (zo_is 1 2 (zo_al 1 3 (zo_get 10 0 (zo_il 1 1 (zo_ic_gt 26 (pz_Z X 4)))))))) 11 lv st g c s → pz_Z X 4 11 lv st g c s := (zs_aload_n hX dX5_minutesAt_11 rfl (zs_get hX (C := RX8) (T := TX8) (N := 3) rfl in_X8 (by decide) mw_efc3a75f dX5_minutesAt_12 (zs_istore_n hX dX5_minutesAt_15 rfl (by decide) (zs_aload_n hX dX5_minutesAt_16 rfl (zs_get hX (C := RX8) (T := TX8) (N := 3) rfl in_X8 (by decide) mw_8d18b59e dX5_minutesAt_17 (zs_iload_n hX dX5_minutesAt_20 rfl (zs_ic_gt hX dX5_minutesAt_21 (by decide) (fun _ _ _ _ _ _ h => h))))))))
set_option maxRecDepth 20000 in
theorem bX5_minutesAt_24 {X : pz_C} {rm : Room} {E : Option pz_V → pz_H → Prop} (hX : pz_X X cX5_minutesAt 4 RX5) (hR : pz_Rt X cX5_minutesAt 4 (some .int) rm E) : ∀ lv st g c s, (zo_il 1 2 (zo_ri rm E)) 24 lv st g c s → pz_Z X 4 24 lv st g c s := (zs_iload_n hX dX5_minutesAt_24 rfl (zs_ri hR dX5_minutesAt_25))
set_option maxRecDepth 20000 in
theorem bX5_minutesAt_26 {X : pz_C} (hX : pz_X X cX5_minutesAt 4 RX5) : ∀ lv st g c s, (zo_al 1 3 (zo_get 10 2 (zo_as 1 3 (zo_goto 7 (pz_Z X 4))))) 26 lv st g c s → pz_Z X 4 26 lv st g c s := (zs_aload_n hX dX5_minutesAt_26 rfl (zs_get hX (C := RX8) (T := TX8) (N := 3) rfl in_X8 (by decide) mw_a66cadf3 dX5_minutesAt_27 (zs_astore_n hX dX5_minutesAt_30 rfl (by decide) (zs_goto hX dX5_minutesAt_31 (by decide) (fun _ _ _ _ _ _ h => h)))))
set_option maxRecDepth 20000 in
theorem bX5_minutesAt_34 {X : pz_C} {rm : Room} {E : Option pz_V → pz_H → Prop} (hX : pz_X X cX5_minutesAt 4 RX5) (hR : pz_Rt X cX5_minutesAt 4 (some .int) rm E) : ∀ lv st g c s, (zo_il 1 2 (zo_ri rm E)) 34 lv st g c s → pz_Z X 4 34 lv st g c s := (zs_iload_n hX dX5_minutesAt_34 rfl (zs_ri hR dX5_minutesAt_35))
def pl_ch (g : pz_H) (p : Nat) : Option Nat → List (Int32 × Int32) → Prop
  | r, [] => r = none
  | r, (f, m) :: l => ∃ a r', r = some a ∧ g a = some ([21, p, f.toNatClampNeg], .inr (10, [.inl f, .inl m, .inr (.inr r')])) ∧ pl_ch g p r' l
def pl_min (sec : Int32) : Int32 → List (Int32 × Int32) → Int32
  | d, [] => d
  | _, (f, m) :: l => if f ≤ sec then m else pl_min sec m l
def rm_X5_minutesAt : Room := { frames := 0, cells := 0, slots := 0, locals := 0 }
abbrev gt_X5_minutesAt : Type := Nat × Int32 × Nat × List (Int32 × Int32)
def pr_X5_minutesAt : gt_X5_minutesAt → List pz_V → pz_H → Prop := fun (h, sec, p, zs) av g => av = [.inr (.inr (some h)), .inl sec] ∧ ∃ b r n c, g h = some (b, .inr (7, [.inr (.inr r), .inl n, .inl c])) ∧ pl_ch g p r zs
def po_X5_minutesAt : gt_X5_minutesAt → List pz_V → pz_H → Option pz_V → pz_H → Prop := fun (_, sec, _, zs) _ g v g' => g' = g ∧ v = some (.inl (pl_min sec 0 zs))
set_option maxRecDepth 20000 in
theorem ct_X5_minutesAt {G : pz_Gx} (hOk : pz_OK G) (gh : gt_X5_minutesAt) : pz_M G yX5_minutesAt cX5_minutesAt 4 (some .int) rm_X5_minutesAt (pr_X5_minutesAt gh) (po_X5_minutesAt gh) := by
  obtain ⟨h, sec, p, zs⟩ := gh
  refine pz_ofZ (by decide) hOk.1 (Or.inr (Or.inl rfl)) ?_ ?_
  · rintro av g ⟨rfl, -⟩
    exact Nat.le_of_ble_eq_true rfl
  · rintro X hX hGX hrm - av g ⟨rfl, b, r, n, c, hg, hz⟩ hR
    have loop : ∀ (zs2 : List (Int32 × Int32)) (r2 : Option Nat) (d : Int32), pl_ch g p r2 zs2 → pl_min sec d zs2 = pl_min sec 0 zs → pz_Z X 4 7 [(3, .inr (.inr r2)), (2, .inl d), (0, .inr (.inr (some h))), (1, .inl sec)] [] g 0 0 := by
      intro zs2
      induction zs2 with
      | nil =>
        intro r2 d h2 he
        cases h2
        refine bX5_minutesAt_7 hX _ _ _ _ _ ⟨fun _ => ?_, fun a q => by cases q⟩
        exact bX5_minutesAt_34 hX hR _ _ _ _ _ ⟨Nat.le_refl _, Nat.le_refl _, rfl, by rw [← he]; rfl⟩
      | cons z l ih =>
        intro r2 d h2 he
        obtain ⟨f, mi⟩ := z
        obtain ⟨a, r3, rfl, ha, h3⟩ := h2
        refine bX5_minutesAt_7 hX _ _ _ _ _ ⟨fun q => (by cases q), fun a q => ?_⟩
        refine bX5_minutesAt_11 hX _ _ _ _ _ ⟨_, _, _, ha, rfl, _, _, _, ha, rfl, fun q => ?_, fun q => ?_⟩
        · refine bX5_minutesAt_26 hX _ _ _ _ _ ⟨_, _, _, ha, rfl, ?_⟩
          refine ih r3 mi h3 ?_
          rw [← he]
          show _ = if f ≤ sec then mi else pl_min sec mi l
          rw [if_neg (by rw [Int32.not_le]; exact q)]
        · refine bX5_minutesAt_24 hX hR _ _ _ _ _ ⟨Nat.le_refl _, Nat.le_refl _, rfl, ?_⟩
          rw [← he]
          show _ = some (Sum.inl (if f ≤ sec then mi else pl_min sec mi l))
          rw [if_pos (by rw [← Int32.not_lt]; exact q)]
    refine bX5_minutesAt_0 hX _ _ _ _ _ ⟨_, _, _, hg, rfl, ?_⟩
    exact loop zs r 0 hz rfl
end
section
/-! LineTimes$Line: hasRoom, lastLeaving, addStop -/
set_option maxRecDepth 20000 in
theorem bX3_hasRoom_0 {X : pz_C} (hX : pz_X X cX3_hasRoom 1 RX3) : ∀ lv st g c s, (zo_al 1 0 (zo_get 5 4 (zo_ic 2 (12) (zo_ic_ge 13 (pz_Z X 1))))) 0 lv st g c s → pz_Z X 1 0 lv st g c s := (zs_aload_n hX dX3_hasRoom_0 rfl (zs_get hX (C := RX3) (T := TX3) (N := 11) rfl in_X3 (by decide) mw_eb463ec7 dX3_hasRoom_1 (zs_bipush hX dX3_hasRoom_4 (by decide) (zs_ic_ge hX dX3_hasRoom_6 (by decide) (fun _ _ _ _ _ _ h => h)))))
set_option maxRecDepth 20000 in
theorem bX3_hasRoom_9 {X : pz_C} (hX : pz_X X cX3_hasRoom 1 RX3) : ∀ lv st g c s, (zo_ic 1 (1) (zo_goto 14 (pz_Z X 1))) 9 lv st g c s → pz_Z X 1 9 lv st g c s := (zs_iconst hX dX3_hasRoom_9 (by decide) (zs_goto hX dX3_hasRoom_10 (by decide) (fun _ _ _ _ _ _ h => h)))
set_option maxRecDepth 20000 in
theorem bX3_hasRoom_13 {X : pz_C} (hX : pz_X X cX3_hasRoom 1 RX3) : ∀ lv st g c s, (zo_ic 1 (0) (pz_Z X 1)) 13 lv st g c s → pz_Z X 1 13 lv st g c s := (zs_iconst hX dX3_hasRoom_13 (by decide) (fun _ _ _ _ _ h => h))
set_option maxRecDepth 20000 in
theorem bX3_hasRoom_14 {X : pz_C} {rm : Room} {E : Option pz_V → pz_H → Prop} (hX : pz_X X cX3_hasRoom 1 RX3) (hR : pz_Rt X cX3_hasRoom 1 (some .boolean) rm E) : ∀ lv st g c s, (zo_rz rm E) 14 lv st g c s → pz_Z X 1 14 lv st g c s := (zs_rz hR dX3_hasRoom_14)
set_option maxRecDepth 20000 in
theorem bX3_lastLeaving_0 {X : pz_C} (hX : pz_X X cX3_lastLeaving 1 RX3) : ∀ lv st g c s, (zo_al 1 0 (zo_get 5 4 (zo_if_ne 11 (pz_Z X 1)))) 0 lv st g c s → pz_Z X 1 0 lv st g c s := (zs_aload_n hX dX3_lastLeaving_0 rfl (zs_get hX (C := RX3) (T := TX3) (N := 11) rfl in_X3 (by decide) mw_eb463ec7 dX3_lastLeaving_1 (zs_if_ne hX dX3_lastLeaving_4 (by decide) (fun _ _ _ _ _ _ h => h))))
set_option maxRecDepth 20000 in
theorem bX3_lastLeaving_7 {X : pz_C} (hX : pz_X X cX3_lastLeaving 1 RX3) : ∀ lv st g c s, (zo_ic 1 (0) (zo_goto 22 (pz_Z X 1))) 7 lv st g c s → pz_Z X 1 7 lv st g c s := (zs_iconst hX dX3_lastLeaving_7 (by decide) (zs_goto hX dX3_lastLeaving_8 (by decide) (fun _ _ _ _ _ _ h => h)))
set_option maxRecDepth 20000 in
theorem bX3_lastLeaving_11 {X : pz_C} (hX : pz_X X cX3_lastLeaving 1 RX3) : ∀ lv st g c s, (zo_al 1 0 (zo_get 5 3 (zo_al 1 0 (zo_get 5 4 (zo_ic 1 (1) (zo_isub (zo_iald (pz_Z X 1)))))))) 11 lv st g c s → pz_Z X 1 11 lv st g c s := (zs_aload_n hX dX3_lastLeaving_11 rfl (zs_get hX (C := RX3) (T := TX3) (N := 11) rfl in_X3 (by decide) mw_23200ee7 dX3_lastLeaving_12 (zs_aload_n hX dX3_lastLeaving_15 rfl (zs_get hX (C := RX3) (T := TX3) (N := 11) rfl in_X3 (by decide) mw_eb463ec7 dX3_lastLeaving_16 (zs_iconst hX dX3_lastLeaving_19 (by decide) (zs_isub hX dX3_lastLeaving_20 (zs_iald hX dX3_lastLeaving_21 (fun _ _ _ _ _ h => h))))))))
set_option maxRecDepth 20000 in
theorem bX3_lastLeaving_22 {X : pz_C} {rm : Room} {E : Option pz_V → pz_H → Prop} (hX : pz_X X cX3_lastLeaving 1 RX3) (hR : pz_Rt X cX3_lastLeaving 1 (some .int) rm E) : ∀ lv st g c s, (zo_ri rm E) 22 lv st g c s → pz_Z X 1 22 lv st g c s := (zs_ri hR dX3_lastLeaving_22)
def rm_X3_hasRoom : Room := { frames := 0, cells := 0, slots := 0, locals := 0 }
abbrev gt_X3_hasRoom : Type := Nat × Int32
def pr_X3_hasRoom : gt_X3_hasRoom → List pz_V → pz_H → Prop := fun (h, n) av g => av = [.inr (.inr (some h))] ∧ ∃ b fs, g h = some (b, .inr (5, fs)) ∧ fs[4]? = some (.inl n)
def po_X3_hasRoom : gt_X3_hasRoom → List pz_V → pz_H → Option pz_V → pz_H → Prop := fun (_, n) _ g v g' => g' = g ∧ v = some (.inl (if n < 12 then 1 else 0))
set_option maxRecDepth 20000 in
theorem ct_X3_hasRoom {G : pz_Gx} (hOk : pz_OK G) (gh : gt_X3_hasRoom) : pz_M G yX3_hasRoom cX3_hasRoom 1 (some .boolean) rm_X3_hasRoom (pr_X3_hasRoom gh) (po_X3_hasRoom gh) := by
  obtain ⟨h, n⟩ := gh
  refine pz_ofZ (by decide) hOk.1 (Or.inr (Or.inr (Or.inl rfl))) ?_ ?_
  · rintro av g ⟨rfl, -⟩
    exact Nat.le_of_ble_eq_true rfl
  · rintro X hX hGX hrm - av g ⟨rfl, b, fs, hg, hf⟩ hR
    refine bX3_hasRoom_0 hX _ _ _ _ _ ⟨_, _, _, hg, hf, fun q => ?_, fun q => ?_⟩
    · refine bX3_hasRoom_13 hX _ _ _ _ _ ?_
      exact bX3_hasRoom_14 hX hR _ _ _ _ _ ⟨Or.inl rfl, Nat.le_refl _, Nat.le_refl _, rfl, by rw [if_neg (Int32.not_lt.mpr q)]⟩
    · refine bX3_hasRoom_9 hX _ _ _ _ _ ?_
      exact bX3_hasRoom_14 hX hR _ _ _ _ _ ⟨Or.inr rfl, Nat.le_refl _, Nat.le_refl _, rfl, by rw [if_pos (Int32.not_le.mp q)]⟩
def rm_X3_lastLeaving : Room := { frames := 0, cells := 0, slots := 0, locals := 0 }
abbrev gt_X3_lastLeaving : Type := Nat × Nat × (Nat → Int32)
def pr_X3_lastLeaving : gt_X3_lastLeaving → List pz_V → pz_H → Prop := fun (h, n, f) av g => av = [.inr (.inr (some h))] ∧ n ≤ 12 ∧ ∃ b fs b2 sl, g h = some (b, .inr (5, fs)) ∧ fs[4]? = some (.inl (nI n)) ∧ fs[3]? = some (.inr (.inr (some sl))) ∧ g sl = some (b2, .inl (0, 12, .inl f))
def po_X3_lastLeaving : gt_X3_lastLeaving → List pz_V → pz_H → Option pz_V → pz_H → Prop := fun (_, n, f) _ g v g' => g' = g ∧ v = some (.inl (if n = 0 then 0 else f (n - 1)))
set_option maxRecDepth 20000 in
theorem ct_X3_lastLeaving {G : pz_Gx} (hOk : pz_OK G) (gh : gt_X3_lastLeaving) : pz_M G yX3_lastLeaving cX3_lastLeaving 1 (some .int) rm_X3_lastLeaving (pr_X3_lastLeaving gh) (po_X3_lastLeaving gh) := by
  obtain ⟨h, n, f⟩ := gh
  refine pz_ofZ (by decide) hOk.1 (Or.inr (Or.inl rfl)) ?_ ?_
  · rintro av g ⟨rfl, -⟩
    exact Nat.le_of_ble_eq_true rfl
  · rintro X hX hGX hrm - av g ⟨rfl, hn, b, fs, b2, sl, hg, hf, hf3, hs⟩ hR
    refine bX3_lastLeaving_0 hX _ _ _ _ _ ⟨_, _, _, hg, hf, fun q => ?_, fun q => ?_⟩
    · have h0 : 0 < n := by
        rcases Nat.eq_zero_or_pos n with h | h
        · subst h; exact absurd nI_0 q
        · exact h
      refine bX3_lastLeaving_11 hX _ _ _ _ _ ⟨_, _, _, hg, hf3, _, _, _, hg, hf, _, _, _, hs, ?_, ?_⟩
      · rw [ni_pred h0]; exact ni_in (by omega) (by omega)
      · rw [ni_pred h0, ni_cl (by omega)]
        exact bX3_lastLeaving_22 hX hR _ _ _ _ _ ⟨Nat.le_refl _, Nat.le_refl _, rfl, by rw [if_neg (by omega)]⟩
    · have h0 : n = 0 := ni_inj (by omega) (by omega) (q.trans nI_0.symm)
      refine bX3_lastLeaving_7 hX _ _ _ _ _ ?_
      exact bX3_lastLeaving_22 hX hR _ _ _ _ _ ⟨Nat.le_refl _, Nat.le_refl _, rfl, by rw [if_pos h0]⟩
set_option maxRecDepth 20000 in
theorem bX3_addStop_0 {X : pz_C} (hX : pz_X X cX3_addStop 4 RX3) : ∀ lv st g c s, (zo_al 1 0 (pz_Z X 4)) 0 lv st g c s → pz_Z X 4 0 lv st g c s := (zs_aload_n hX dX3_addStop_0 rfl (fun _ _ _ _ _ h => h))
set_option maxRecDepth 20000 in
theorem bX3_addStop_1 {X : pz_C} {G : pz_Gx} {rm : Room} (hX : pz_X X cX3_addStop 4 RX3) (hrm : pz_rm X = rm) (hGX : pz_GX X G) (hOk : pz_OK G) (gh : gt_X3_hasRoom) (hr_X3_hasRoom : rm_X3_hasRoom.frames + 1 ≤ rm.frames ∧ 8 + (1 + 11) + rm_X3_hasRoom.locals ≤ rm.locals) : ∀ lv st g c s, (zo_cV rm 5 0 3 rm_X3_hasRoom.cells rm_X3_hasRoom.slots (pr_X3_hasRoom gh) (po_X3_hasRoom gh) (zo_kz (zo_if_ne 8 (pz_Z X 4)))) 1 lv st g c s → pz_Z X 4 1 lv st g c s := by
  subst hrm
  exact (zs_csV hX hGX (C := RX3) (T := TX3) (N := 11) rfl (ct_X3_hasRoom hOk gh) mw_d0dabec8 mw_443464b6 mw_87633111 mw_ad64dfa1 mw_2a36a0f8 (by decide +kernel) hr_X3_hasRoom dX3_addStop_1 (zs_kz (zs_if_ne hX dX3_addStop_4 (by decide) (fun _ _ _ _ _ _ h => h))))
set_option maxRecDepth 20000 in
theorem bX3_addStop_7 {X : pz_C} {rm : Room} {E : Option pz_V → pz_H → Prop} (hX : pz_X X cX3_addStop 4 RX3) (hR : pz_Rt X cX3_addStop 4 none rm E) : ∀ lv st g c s, (zo_rv rm E) 7 lv st g c s → pz_Z X 4 7 lv st g c s := (zs_rv hR dX3_addStop_7)
set_option maxRecDepth 20000 in
theorem bX3_addStop_8 {X : pz_C} {rm : Room} {E : Option pz_V → pz_H → Prop} (hX : pz_X X cX3_addStop 4 RX3) (hR : pz_Rt X cX3_addStop 4 none rm E) : ∀ lv st g c s, (zo_al 1 0 (zo_get 5 1 (zo_al 1 0 (zo_get 5 4 (zo_il 1 1 (zo_iast (zo_al 1 0 (zo_get 5 2 (zo_al 1 0 (zo_get 5 4 (zo_il 1 2 (zo_iast (zo_al 1 0 (zo_get 5 3 (zo_al 1 0 (zo_get 5 4 (zo_il 1 3 (zo_iast (zo_al 1 0 (zo_dup (zo_get 5 4 (zo_ic 1 (1) (zo_iadd (zo_puti 5 4 (zo_rv rm E))))))))))))))))))))))))) 8 lv st g c s → pz_Z X 4 8 lv st g c s := (zs_aload_n hX dX3_addStop_8 rfl (zs_get hX (C := RX3) (T := TX3) (N := 11) rfl in_X3 (by decide) mw_7ffb4013 dX3_addStop_9 (zs_aload_n hX dX3_addStop_12 rfl (zs_get hX (C := RX3) (T := TX3) (N := 11) rfl in_X3 (by decide) mw_eb463ec7 dX3_addStop_13 (zs_iload_n hX dX3_addStop_16 rfl (zs_iast hX dX3_addStop_17 (zs_aload_n hX dX3_addStop_18 rfl (zs_get hX (C := RX3) (T := TX3) (N := 11) rfl in_X3 (by decide) mw_22306b94 dX3_addStop_19 (zs_aload_n hX dX3_addStop_22 rfl (zs_get hX (C := RX3) (T := TX3) (N := 11) rfl in_X3 (by decide) mw_eb463ec7 dX3_addStop_23 (zs_iload_n hX dX3_addStop_26 rfl (zs_iast hX dX3_addStop_27 (zs_aload_n hX dX3_addStop_28 rfl (zs_get hX (C := RX3) (T := TX3) (N := 11) rfl in_X3 (by decide) mw_23200ee7 dX3_addStop_29 (zs_aload_n hX dX3_addStop_32 rfl (zs_get hX (C := RX3) (T := TX3) (N := 11) rfl in_X3 (by decide) mw_eb463ec7 dX3_addStop_33 (zs_iload_n hX dX3_addStop_36 rfl (zs_iast hX dX3_addStop_37 (zs_aload_n hX dX3_addStop_38 rfl (zs_dup hX dX3_addStop_39 (zs_get hX (C := RX3) (T := TX3) (N := 11) rfl in_X3 (by decide) mw_eb463ec7 dX3_addStop_40 (zs_iconst hX dX3_addStop_43 (by decide) (zs_iadd hX dX3_addStop_44 (zs_puti hX (C := RX3) (T := TX3) (N := 11) rfl in_X3 (by decide) mw_eb463ec7 tyX3 tyX3_ok nmX3 (by decide +kernel) rfl dX3_addStop_45 (zs_rv hR dX3_addStop_48)))))))))))))))))))))))))
def rm_X3_addStop : Room := { frames := 1, cells := 0, slots := 0, locals := 20 }
abbrev gt_X3_addStop : Type := Nat × (Int32 × Int32 × Int32) × (List Nat × List pz_V) × Nat × (Nat × Nat × Nat) × (List Nat × List Nat × List Nat) × (Nat → Int32) × (Nat → Int32) × (Nat → Int32)
def pr_X3_addStop : gt_X3_addStop → List pz_V → pz_H → Prop := fun (h, (x, y, z), (b, fs), n, (sp, sa, sl), (b1, b2, b3), f1, f2, f3) av g => av = [.inr (.inr (some h)), .inl x, .inl y, .inl z] ∧ n ≤ 12 ∧ g h = some (b, .inr (5, fs)) ∧ fs[1]? = some (.inr (.inr (some sp))) ∧ fs[2]? = some (.inr (.inr (some sa))) ∧ fs[3]? = some (.inr (.inr (some sl))) ∧ fs[4]? = some (.inl (nI n)) ∧ g sp = some (b1, .inl (0, 12, .inl f1)) ∧ g sa = some (b2, .inl (0, 12, .inl f2)) ∧ g sl = some (b3, .inl (0, 12, .inl f3)) ∧ b1 ≠ b2 ∧ b1 ≠ b3 ∧ b2 ≠ b3 ∧ b ≠ b1 ∧ b ≠ b2 ∧ b ≠ b3
def po_X3_addStop : gt_X3_addStop → List pz_V → pz_H → Option pz_V → pz_H → Prop := fun (h, (x, y, z), (b, fs), n, (sp, sa, sl), (b1, b2, b3), f1, f2, f3) _ g v g' => v = none ∧ ((n = 12 ∧ g' = g) ∨ (n < 12 ∧ hg (fun q => q = b ∨ q = b1 ∨ q = b2 ∨ q = b3) g g' ∧ g' h = some (b, .inr (5, fs.set 4 (.inl (nI (n + 1))))) ∧ g' sp = some (b1, .inl (0, 12, .inl (upd f1 n x))) ∧ g' sa = some (b2, .inl (0, 12, .inl (upd f2 n y))) ∧ g' sl = some (b3, .inl (0, 12, .inl (upd f3 n z)))))
set_option maxRecDepth 20000 in
theorem ct_X3_addStop {G : pz_Gx} (hOk : pz_OK G) (gh : gt_X3_addStop) : pz_M G yX3_addStop cX3_addStop 4 none rm_X3_addStop (pr_X3_addStop gh) (po_X3_addStop gh) := by
  obtain ⟨h, ⟨x, y, z⟩, ⟨b, fs⟩, n, ⟨sp, sa, sl⟩, ⟨b1, b2, b3⟩, f1, f2, f3⟩ := gh
  refine pz_ofZ (by decide) hOk.1 (Or.inl rfl) ?_ ?_
  · rintro av g ⟨rfl, -⟩
    exact Nat.le_of_ble_eq_true rfl
  · rintro X hX hGX hrm - av g ⟨rfl, hn, hg, e1, e2, e3, e4, g1, g2, g3, n12, n13, n23, nb1, nb2, nb3⟩ hR
    refine bX3_addStop_0 hX _ _ _ _ _ ?_
    refine bX3_addStop_1 hX hrm hGX hOk (h, nI n) (by decide) _ _ _ _ _ ⟨Nat.le_of_ble_eq_true rfl, ⟨h, [], b, fs, rfl, hg⟩, Nat.le_of_ble_eq_true rfl, Nat.le_of_ble_eq_true rfl, Nat.le_of_ble_eq_true rfl, ⟨rfl, b, fs, hg, e4⟩, ?_⟩
    rintro v g' ⟨rfl, rfl⟩ r hr h01
    cases hr
    by_cases h12 : n < 12
    · rw [if_pos (show nI n < 12 from (ni_lt (b := 12) (by omega) (by omega)).mpr h12)]
      refine ⟨fun _ => ?_, fun q => absurd q (by decide)⟩
      have hi : vp_in (nI n) 12 := ni_in h12 (by omega)
      have hc : (nI n).toNatClampNeg = n := ni_cl (by omega)
      refine bX3_addStop_8 hX hR _ _ _ _ _ ⟨_, _, _, hg, e1, _, _, _, hg, e4, _, _, _, g1, hi, ?_⟩
      refine ⟨_, _, _, up_ne hg g1 nb1, e2, _, _, _, up_ne hg g1 nb1, e4, _, _, _, up_ne g2 g1 n12.symm, hi, ?_⟩
      refine ⟨_, _, _, up_ne (up_ne hg g1 nb1) (up_ne g2 g1 n12.symm) nb2, e3, _, _, _, up_ne (up_ne hg g1 nb1) (up_ne g2 g1 n12.symm) nb2, e4, _, _, _, up_ne (up_ne g3 g1 n13.symm) (up_ne g2 g1 n12.symm) n23.symm, hi, ?_⟩
      have hh3 := up_ne (v := some (b3, .inl (0, 12, .inl (upd f3 (nI n).toNatClampNeg z)))) (up_ne (v := some (b2, .inl (0, 12, .inl (upd f2 (nI n).toNatClampNeg y)))) (up_ne (v := some (b1, .inl (0, 12, .inl (upd f1 (nI n).toNatClampNeg x)))) hg g1 nb1) (up_ne g2 g1 n12.symm) nb2) (up_ne (up_ne g3 g1 n13.symm) (up_ne g2 g1 n12.symm) n23.symm) nb3
      refine ⟨rfl, _, _, _, hh3, e4, _, _, hh3, (List.getElem?_eq_some_iff.mp e4).1, Nat.le_refl _, Nat.le_refl _, rfl, Or.inr ⟨h12, ?_, ?_, ?_, ?_, ?_⟩⟩
      · exact hg_up (hg_up (hg_up (hg_up hg_rf g1 (Or.inr (Or.inl rfl))) (up_ne g2 g1 n12.symm) (Or.inr (Or.inr (Or.inl rfl)))) (up_ne (up_ne g3 g1 n13.symm) (up_ne g2 g1 n12.symm) n23.symm) (Or.inr (Or.inr (Or.inr rfl)))) hh3 (Or.inl rfl)
      · rw [up_at, nI_1]
      · rw [hc]
        rw [hc] at hh3
        exact up_ne (up_ne (up_ne up_at (up_ne g2 g1 n12.symm) n12) (up_ne (up_ne g3 g1 n13.symm) (up_ne g2 g1 n12.symm) n23.symm) n13) hh3 nb1.symm
      · rw [hc]
        rw [hc] at hh3
        exact up_ne (up_ne up_at (up_ne (up_ne g3 g1 n13.symm) (up_ne g2 g1 n12.symm) n23.symm) n23) hh3 nb2.symm
      · rw [hc]
        rw [hc] at hh3
        exact up_ne up_at hh3 nb3.symm
    · rw [if_neg (show ¬ nI n < 12 from fun q => h12 ((ni_lt (b := 12) (by omega) (by omega)).mp q))]
      refine ⟨fun q => absurd rfl q, fun _ => ?_⟩
      exact bX3_addStop_7 hX hR _ _ _ _ _ ⟨Nat.le_refl _, Nat.le_refl _, rfl, Or.inl ⟨by omega, rfl⟩⟩
/-! day words: the latest in front -/
def dw_ch (g : pz_H) (u : Nat) : Option Nat → List (Int32 × Int32) → Prop
  | r, [] => r = none
  | r, (d, x) :: l => ∃ a r', r = some a ∧ g a = some ([40, u, d.toNatClampNeg], .inr (2, [.inl d, .inl x, .inr (.inr r')])) ∧ dw_ch g u r' l
def dw_get : List (Int32 × Int32) → Int32 → Option Int32
  | [], _ => none
  | (d, x) :: l, k => if d = k then some x else dw_get l k
set_option maxRecDepth 20000 in
theorem bX3_wordFor_0 {X : pz_C} (hX : pz_X X cX3_wordFor 3 RX3) : ∀ lv st g c s, (zo_al 1 0 (zo_get 5 5 (zo_as 1 2 (pz_Z X 3)))) 0 lv st g c s → pz_Z X 3 0 lv st g c s := (zs_aload_n hX dX3_wordFor_0 rfl (zs_get hX (C := RX3) (T := TX3) (N := 11) rfl in_X3 (by decide) mw_933948ad dX3_wordFor_1 (zs_astore_n hX dX3_wordFor_4 rfl (by decide) (fun _ _ _ _ _ h => h))))
set_option maxRecDepth 20000 in
theorem bX3_wordFor_5 {X : pz_C} (hX : pz_X X cX3_wordFor 3 RX3) : ∀ lv st g c s, (zo_al 1 2 (zo_ifnull 27 (pz_Z X 3))) 5 lv st g c s → pz_Z X 3 5 lv st g c s := (zs_aload_n hX dX3_wordFor_5 rfl (zs_ifnull hX dX3_wordFor_6 (by decide) (fun _ _ _ _ _ _ h => h)))
set_option maxRecDepth 20000 in
theorem bX3_wordFor_9 {X : pz_C} (hX : pz_X X cX3_wordFor 3 RX3) : ∀ lv st g c s, (zo_al 1 2 (zo_get 2 0 (zo_il 1 1 (zo_ic_ne 19 (pz_Z X 3))))) 9 lv st g c s → pz_Z X 3 9 lv st g c s := (zs_aload_n hX dX3_wordFor_9 rfl (zs_get hX (C := RX0) (T := TX0) (N := 3) rfl in_X0 (by decide) mw_9c599262 dX3_wordFor_10 (zs_iload_n hX dX3_wordFor_13 rfl (zs_ic_ne hX dX3_wordFor_14 (by decide) (fun _ _ _ _ _ _ h => h)))))
set_option maxRecDepth 20000 in
theorem bX3_wordFor_17 {X : pz_C} {rm : Room} {E : Option pz_V → pz_H → Prop} (hX : pz_X X cX3_wordFor 3 RX3) (hR : pz_Rt X cX3_wordFor 3 (some (.object "LineTimes$DayWord")) rm E) : ∀ lv st g c s, (zo_al 1 2 (zo_rr rm E)) 17 lv st g c s → pz_Z X 3 17 lv st g c s := (zs_aload_n hX dX3_wordFor_17 rfl (zs_rr (by first | exact Or.inl ⟨_, rfl⟩ | exact Or.inr ⟨_, rfl⟩) hR dX3_wordFor_18))
set_option maxRecDepth 20000 in
theorem bX3_wordFor_19 {X : pz_C} (hX : pz_X X cX3_wordFor 3 RX3) : ∀ lv st g c s, (zo_al 1 2 (zo_get 2 2 (zo_as 1 2 (zo_goto 5 (pz_Z X 3))))) 19 lv st g c s → pz_Z X 3 19 lv st g c s := (zs_aload_n hX dX3_wordFor_19 rfl (zs_get hX (C := RX0) (T := TX0) (N := 3) rfl in_X0 (by decide) mw_59c91b4c dX3_wordFor_20 (zs_astore_n hX dX3_wordFor_23 rfl (by decide) (zs_goto hX dX3_wordFor_24 (by decide) (fun _ _ _ _ _ _ h => h)))))
set_option maxRecDepth 20000 in
theorem bX3_wordFor_27 {X : pz_C} {rm : Room} {E : Option pz_V → pz_H → Prop} (hX : pz_X X cX3_wordFor 3 RX3) (hR : pz_Rt X cX3_wordFor 3 (some (.object "LineTimes$DayWord")) rm E) : ∀ lv st g c s, (zo_null (zo_rr rm E)) 27 lv st g c s → pz_Z X 3 27 lv st g c s := (zs_null hX dX3_wordFor_27 (zs_rr (by first | exact Or.inl ⟨_, rfl⟩ | exact Or.inr ⟨_, rfl⟩) hR dX3_wordFor_28))
def rm_X3_wordFor : Room := { frames := 0, cells := 0, slots := 0, locals := 0 }
abbrev gt_X3_wordFor : Type := Nat × Int32 × Nat × List (Int32 × Int32)
def pr_X3_wordFor : gt_X3_wordFor → List pz_V → pz_H → Prop := fun (h, d, u, l) av g => av = [.inr (.inr (some h)), .inl d] ∧ ∃ b fs r, g h = some (b, .inr (5, fs)) ∧ fs[5]? = some (.inr (.inr r)) ∧ dw_ch g u r l
def po_X3_wordFor : gt_X3_wordFor → List pz_V → pz_H → Option pz_V → pz_H → Prop := fun (_, d, u, l) _ g v g' => g' = g ∧ ((v = some (.inr (.inr none)) ∧ dw_get l d = none) ∨ ∃ a x r', v = some (.inr (.inr (some a))) ∧ g a = some ([40, u, d.toNatClampNeg], .inr (2, [.inl d, .inl x, .inr (.inr r')])) ∧ dw_get l d = some x)
set_option maxRecDepth 20000 in
theorem ct_X3_wordFor {G : pz_Gx} (hOk : pz_OK G) (gh : gt_X3_wordFor) : pz_M G yX3_wordFor cX3_wordFor 3 (some (.object "LineTimes$DayWord")) rm_X3_wordFor (pr_X3_wordFor gh) (po_X3_wordFor gh) := by
  obtain ⟨h, d, u, l⟩ := gh
  refine pz_ofZ (by decide) hOk.1 (Or.inr (Or.inr (Or.inr (Or.inr (Or.inl ⟨_, rfl⟩))))) ?_ ?_
  · rintro av g ⟨rfl, -⟩
    exact Nat.le_of_ble_eq_true rfl
  · rintro X hX hGX hrm - av g ⟨rfl, b, fs, r, hg, hf, hz⟩ hR
    have loop : ∀ (l2 : List (Int32 × Int32)) (r2 : Option Nat), dw_ch g u r2 l2 → dw_get l2 d = dw_get l d → pz_Z X 3 5 [(2, .inr (.inr r2)), (0, .inr (.inr (some h))), (1, .inl d)] [] g 0 0 := by
      intro l2
      induction l2 with
      | nil =>
        intro r2 h2 he
        cases h2
        refine bX3_wordFor_5 hX _ _ _ _ _ ⟨fun _ => ?_, fun a q => by cases q⟩
        exact bX3_wordFor_27 hX hR _ _ _ _ _ ⟨Nat.le_refl _, Nat.le_refl _, rfl, Or.inl ⟨rfl, he.symm⟩⟩
      | cons z l3 ih =>
        intro r2 h2 he
        obtain ⟨d2, x⟩ := z
        obtain ⟨a, r3, rfl, ha, h3⟩ := h2
        refine bX3_wordFor_5 hX _ _ _ _ _ ⟨fun q => (by cases q), fun _ _ => ?_⟩
        refine bX3_wordFor_9 hX _ _ _ _ _ ⟨_, _, _, ha, rfl, fun q => ?_, fun q => ?_⟩
        · refine bX3_wordFor_19 hX _ _ _ _ _ ⟨_, _, _, ha, rfl, ?_⟩
          refine ih r3 h3 ?_
          rw [← he]
          show _ = if d2 = d then some x else dw_get l3 d
          rw [if_neg q]
        · subst q
          refine bX3_wordFor_17 hX hR _ _ _ _ _ ⟨Nat.le_refl _, Nat.le_refl _, rfl, Or.inr ⟨a, x, r3, rfl, ha, ?_⟩⟩
          rw [← he]
          show (if d2 = d2 then some x else dw_get l3 d2) = some x
          rw [if_pos rfl]
    refine bX3_wordFor_0 hX _ _ _ _ _ ⟨_, _, _, hg, hf, ?_⟩
    exact loop l r hz rfl
set_option maxRecDepth 20000 in
theorem bX3_runsOn_0 {X : pz_C} (hX : pz_X X cX3_runsOn 3 RX3) : ∀ lv st g c s, (zo_il 1 1 (zo_if_ge 6 (pz_Z X 3))) 0 lv st g c s → pz_Z X 3 0 lv st g c s := (zs_iload_n hX dX3_runsOn_0 rfl (zs_if_ge hX dX3_runsOn_1 (by decide) (fun _ _ _ _ _ _ h => h)))
set_option maxRecDepth 20000 in
theorem bX3_runsOn_4 {X : pz_C} {rm : Room} {E : Option pz_V → pz_H → Prop} (hX : pz_X X cX3_runsOn 3 RX3) (hR : pz_Rt X cX3_runsOn 3 (some .boolean) rm E) : ∀ lv st g c s, (zo_ic 1 (0) (zo_rz rm E)) 4 lv st g c s → pz_Z X 3 4 lv st g c s := (zs_iconst hX dX3_runsOn_4 (by decide) (zs_rz hR dX3_runsOn_5))
set_option maxRecDepth 20000 in
theorem bX3_runsOn_6 {X : pz_C} (hX : pz_X X cX3_runsOn 3 RX3) : ∀ lv st g c s, (zo_al 1 0 (zo_il 1 1 (pz_Z X 3))) 6 lv st g c s → pz_Z X 3 6 lv st g c s := (zs_aload_n hX dX3_runsOn_6 rfl (zs_iload_n hX dX3_runsOn_7 rfl (fun _ _ _ _ _ h => h)))
set_option maxRecDepth 20000 in
theorem bX3_runsOn_8 {X : pz_C} {G : pz_Gx} {rm : Room} (hX : pz_X X cX3_runsOn 3 RX3) (hrm : pz_rm X = rm) (hGX : pz_GX X G) (hOk : pz_OK G) (gh : gt_X3_wordFor) (hr_X3_wordFor : rm_X3_wordFor.frames + 1 ≤ rm.frames ∧ 8 + (3 + 11) + rm_X3_wordFor.locals ≤ rm.locals) : ∀ lv st g c s, (zo_cV rm 5 1 3 rm_X3_wordFor.cells rm_X3_wordFor.slots (pr_X3_wordFor gh) (po_X3_wordFor gh) (zo_kr (zo_as 1 2 (zo_al 1 2 (zo_ifnull 21 (pz_Z X 3)))))) 8 lv st g c s → pz_Z X 3 8 lv st g c s := by
  subst hrm
  exact (zs_csV hX hGX (C := RX3) (T := TX3) (N := 11) rfl (ct_X3_wordFor hOk gh) mw_27324109 mw_573890c9 mw_361e345e mw_ad64dfa1 mw_ea7b4c2c (by decide +kernel) hr_X3_wordFor dX3_runsOn_8 (zs_kr (by first | exact Or.inl ⟨_, rfl⟩ | exact Or.inr ⟨_, rfl⟩) (zs_astore_n hX dX3_runsOn_11 rfl (by decide) (zs_aload_n hX dX3_runsOn_12 rfl (zs_ifnull hX dX3_runsOn_13 (by decide) (fun _ _ _ _ _ _ h => h))))))
set_option maxRecDepth 20000 in
theorem bX3_runsOn_16 {X : pz_C} {rm : Room} {E : Option pz_V → pz_H → Prop} (hX : pz_X X cX3_runsOn 3 RX3) (hR : pz_Rt X cX3_runsOn 3 (some .boolean) rm E) : ∀ lv st g c s, (zo_al 1 2 (zo_get 2 1 (zo_rz rm E))) 16 lv st g c s → pz_Z X 3 16 lv st g c s := (zs_aload_n hX dX3_runsOn_16 rfl (zs_get hX (C := RX0) (T := TX0) (N := 3) rfl in_X0 (by decide) mw_ec0b77f6 dX3_runsOn_17 (zs_rz hR dX3_runsOn_20)))
set_option maxRecDepth 20000 in
theorem bX3_runsOn_21 {X : pz_C} (hX : pz_X X cX3_runsOn 3 RX3) : ∀ lv st g c s, (zo_al 1 0 (zo_get 5 0 (zo_il 1 1 (zo_ic 2 (7) (zo_irem (zo_ishr (zo_ic 1 (1) (zo_iand (zo_ic 1 (1) (zo_ic_ne 40 (pz_Z X 3))))))))))) 21 lv st g c s → pz_Z X 3 21 lv st g c s := (zs_aload_n hX dX3_runsOn_21 rfl (zs_get hX (C := RX3) (T := TX3) (N := 11) rfl in_X3 (by decide) mw_1e5c016b dX3_runsOn_22 (zs_iload_n hX dX3_runsOn_25 rfl (zs_bipush hX dX3_runsOn_26 (by decide) (zs_irem hX dX3_runsOn_28 (zs_ishr hX dX3_runsOn_29 (zs_iconst hX dX3_runsOn_30 (by decide) (zs_iand hX dX3_runsOn_31 (zs_iconst hX dX3_runsOn_32 (by decide) (zs_ic_ne hX dX3_runsOn_33 (by decide) (fun _ _ _ _ _ _ h => h)))))))))))
set_option maxRecDepth 20000 in
theorem bX3_runsOn_36 {X : pz_C} (hX : pz_X X cX3_runsOn 3 RX3) : ∀ lv st g c s, (zo_ic 1 (1) (zo_goto 41 (pz_Z X 3))) 36 lv st g c s → pz_Z X 3 36 lv st g c s := (zs_iconst hX dX3_runsOn_36 (by decide) (zs_goto hX dX3_runsOn_37 (by decide) (fun _ _ _ _ _ _ h => h)))
set_option maxRecDepth 20000 in
theorem bX3_runsOn_40 {X : pz_C} (hX : pz_X X cX3_runsOn 3 RX3) : ∀ lv st g c s, (zo_ic 1 (0) (pz_Z X 3)) 40 lv st g c s → pz_Z X 3 40 lv st g c s := (zs_iconst hX dX3_runsOn_40 (by decide) (fun _ _ _ _ _ h => h))
set_option maxRecDepth 20000 in
theorem bX3_runsOn_41 {X : pz_C} {rm : Room} {E : Option pz_V → pz_H → Prop} (hX : pz_X X cX3_runsOn 3 RX3) (hR : pz_Rt X cX3_runsOn 3 (some .boolean) rm E) : ∀ lv st g c s, (zo_rz rm E) 41 lv st g c s → pz_Z X 3 41 lv st g c s := (zs_rz hR dX3_runsOn_41)
def dw_run (wd : Int32) (l : List (Int32 × Int32)) (d : Int32) : Int32 := if d < 0 then 0 else match dw_get l d with
  | some x => x
  | none => if wd >>> ((d - d / 7 * 7) &&& 31) &&& 1 = 1 then 1 else 0
def rm_X3_runsOn : Room := { frames := 1, cells := 0, slots := 0, locals := 22 }
abbrev gt_X3_runsOn : Type := Nat × Int32 × Nat × Int32 × List (Int32 × Int32)
def pr_X3_runsOn : gt_X3_runsOn → List pz_V → pz_H → Prop := fun (h, d, u, wd, l) av g => av = [.inr (.inr (some h)), .inl d] ∧ (∀ q ∈ l, q.2 = 0 ∨ q.2 = 1) ∧ ∃ b fs r, g h = some (b, .inr (5, fs)) ∧ fs[0]? = some (.inl wd) ∧ fs[5]? = some (.inr (.inr r)) ∧ dw_ch g u r l
def po_X3_runsOn : gt_X3_runsOn → List pz_V → pz_H → Option pz_V → pz_H → Prop := fun (_, d, _, wd, l) _ g v g' => g' = g ∧ v = some (.inl (dw_run wd l d))
theorem dw_get_01 {l : List (Int32 × Int32)} (h : ∀ q ∈ l, q.2 = 0 ∨ q.2 = 1) {d x : Int32} (hx : dw_get l d = some x) : x = 0 ∨ x = 1 := by
  induction l with
  | nil => cases hx
  | cons z l ih =>
    obtain ⟨d2, x2⟩ := z
    unfold dw_get at hx
    split at hx
    · have := h _ List.mem_cons_self
      cases hx
      exact this
    · exact ih (fun q hq => h q (List.mem_cons_of_mem _ hq)) hx
set_option maxRecDepth 20000 in
theorem ct_X3_runsOn {G : pz_Gx} (hOk : pz_OK G) (gh : gt_X3_runsOn) : pz_M G yX3_runsOn cX3_runsOn 3 (some .boolean) rm_X3_runsOn (pr_X3_runsOn gh) (po_X3_runsOn gh) := by
  obtain ⟨h, d, u, wd, l⟩ := gh
  refine pz_ofZ (by decide) hOk.1 (Or.inr (Or.inr (Or.inl rfl))) ?_ ?_
  · rintro av g ⟨rfl, -⟩
    exact Nat.le_of_ble_eq_true rfl
  · rintro X hX hGX hrm - av g ⟨rfl, h01, b, fs, r, hg, hf0, hf5, hz⟩ hR
    refine bX3_runsOn_0 hX _ _ _ _ _ ⟨fun q => ?_, fun q => ?_⟩
    · have hd : ¬ d < 0 := Int32.not_lt.mpr q
      refine bX3_runsOn_6 hX _ _ _ _ _ ?_
      refine bX3_runsOn_8 hX hrm hGX hOk (h, d, u, l) (by decide) _ _ _ _ _ ⟨Nat.le_of_ble_eq_true rfl, ⟨h, [.inl d], b, fs, rfl, hg⟩, Nat.le_of_ble_eq_true rfl, Nat.le_of_ble_eq_true rfl, Nat.le_of_ble_eq_true rfl, ⟨rfl, b, fs, r, hg, hf5, hz⟩, ?_⟩
      rintro v g' ⟨rfl, hv⟩ r2 hr
      rcases hv with ⟨rfl, hn⟩ | ⟨a, x, r', rfl, ha, hx⟩
      · cases hr
        refine ⟨fun _ => ?_, fun a q => (by cases q)⟩
        refine bX3_runsOn_21 hX _ _ _ _ _ ⟨_, _, _, hg, hf0, (by decide), fun q => ?_, fun q => ?_⟩
        · refine bX3_runsOn_40 hX _ _ _ _ _ ?_
          refine bX3_runsOn_41 hX hR _ _ _ _ _ ⟨Or.inl rfl, Nat.le_refl _, Nat.le_refl _, rfl, ?_⟩
          simp only [dw_run, if_neg hd, hn, if_neg q]
        · refine bX3_runsOn_36 hX _ _ _ _ _ ?_
          refine bX3_runsOn_41 hX hR _ _ _ _ _ ⟨Or.inr rfl, Nat.le_refl _, Nat.le_refl _, rfl, ?_⟩
          simp only [dw_run, if_neg hd, hn, if_pos q]
      · cases hr
        refine ⟨fun q => (by cases q), fun a q => ?_⟩
        refine bX3_runsOn_16 hX hR _ _ _ _ _ ⟨_, _, _, ha, rfl, dw_get_01 h01 hx, Nat.le_refl _, Nat.le_refl _, rfl, ?_⟩
        simp only [dw_run, if_neg hd, hx]
    · refine bX3_runsOn_4 hX hR _ _ _ _ _ ⟨Or.inl rfl, Nat.le_refl _, Nat.le_refl _, rfl, ?_⟩
      simp only [dw_run, if_pos (Int32.not_le.mp q)]
/-! late words -/
def lt_ch (g : pz_H) (u : Nat) : Option Nat → List (Int32 × Int32 × Int32) → Prop
  | r, [] => r = none
  | r, (st, by', d) :: l => ∃ a r', r = some a ∧ g a = some ([41, u], .inr (3, [.inl st, .inl by', .inl d, .inr (.inr r')])) ∧ lt_ch g u r' l
def lt_acc (d : Int32) (j : Nat) : List (Int32 × Int32 × Int32) → Int32 → Int32
  | [], x => x
  | (st, by', d2) :: l, x => lt_acc d j l (if d2 = d ∧ st = nI j then x + by' else x)
theorem lt_mono {g g' : pz_H} {u : Nat} {S : List Nat → Prop} (hh : hg S g g') (hS : ¬ S [41, u]) : ∀ (l : List (Int32 × Int32 × Int32)) (r : Option Nat), lt_ch g u r l → lt_ch g' u r l
  | [], _, h => h
  | (_, _, _) :: l, _, ⟨a, r', h1, h2, h3⟩ => ⟨a, r', h1, hh _ _ _ h2 hS, lt_mono hh hS l r' h3⟩
theorem dw_mono {g g' : pz_H} {u : Nat} {S : List Nat → Prop} (hh : hg S g g') (hS : ∀ d, ¬ S [40, u, d]) : ∀ (l : List (Int32 × Int32)) (r : Option Nat), dw_ch g u r l → dw_ch g' u r l
  | [], _, h => h
  | (_, _) :: l, _, ⟨a, r', h1, h2, h3⟩ => ⟨a, r', h1, hh _ _ _ h2 (hS _), dw_mono hh hS l r' h3⟩
theorem pl_mono {g g' : pz_H} {p : Nat} {S : List Nat → Prop} (hh : hg S g g') (hS : ∀ d, ¬ S [21, p, d]) : ∀ (l : List (Int32 × Int32)) (r : Option Nat), pl_ch g p r l → pl_ch g' p r l
  | [], _, h => h
  | (_, _) :: l, _, ⟨a, r', h1, h2, h3⟩ => ⟨a, r', h1, hh _ _ _ h2 (hS _), pl_mono hh hS l r' h3⟩
set_option maxRecDepth 20000 in
theorem bX3_gatherLate_0 {X : pz_C} (hX : pz_X X cX3_gatherLate 3 RX3) : ∀ lv st g c s, (zo_al 1 0 (zo_get 5 10 (zo_ic 1 (0) (pz_Z X 3)))) 0 lv st g c s → pz_Z X 3 0 lv st g c s := (zs_aload_n hX dX3_gatherLate_0 rfl (zs_get hX (C := RX3) (T := TX3) (N := 11) rfl in_X3 (by decide) mw_b5197fa4 dX3_gatherLate_1 (zs_iconst hX dX3_gatherLate_4 (by decide) (fun _ _ _ _ _ h => h))))
set_option maxRecDepth 20000 in
theorem bX3_gatherLate_5 {X : pz_C} {G : pz_Gx} {rm : Room} (hX : pz_X X cX3_gatherLate 3 RX3) (hrm : pz_rm X = rm) (hGX : pz_GX X G) (hOk : pz_OK G) (gh : gt_J7_fill_53178) (hr_J7_fill_53178 : rm_J7_fill_53178.frames + 1 ≤ rm.frames ∧ 8 + (4 + 11) + rm_J7_fill_53178.locals ≤ rm.locals) : ∀ lv st g c s, (zo_cs rm 2 3 rm_J7_fill_53178.cells rm_J7_fill_53178.slots (pr_J7_fill_53178 gh) (po_J7_fill_53178 gh) (zo_kv (zo_al 1 0 (zo_get 5 6 (zo_as 1 2 (pz_Z X 3)))))) 5 lv st g c s → pz_Z X 3 5 lv st g c s := by
  subst hrm
  exact (zs_csS hX hGX (ct_J7_fill_53178 hOk gh) mw_e1b088c6 mw_f64f8428 mw_76fc92b1 mw_9f3bf93d (by decide +kernel) hr_J7_fill_53178 dX3_gatherLate_5 (zs_kv (zs_aload_n hX dX3_gatherLate_8 rfl (zs_get hX (C := RX3) (T := TX3) (N := 11) rfl in_X3 (by decide) mw_d775e35a dX3_gatherLate_9 (zs_astore_n hX dX3_gatherLate_12 rfl (by decide) (fun _ _ _ _ _ h => h))))))
set_option maxRecDepth 20000 in
theorem bX3_gatherLate_13 {X : pz_C} (hX : pz_X X cX3_gatherLate 3 RX3) : ∀ lv st g c s, (zo_al 1 2 (zo_ifnull 49 (pz_Z X 3))) 13 lv st g c s → pz_Z X 3 13 lv st g c s := (zs_aload_n hX dX3_gatherLate_13 rfl (zs_ifnull hX dX3_gatherLate_14 (by decide) (fun _ _ _ _ _ _ h => h)))
set_option maxRecDepth 20000 in
theorem bX3_gatherLate_17 {X : pz_C} (hX : pz_X X cX3_gatherLate 3 RX3) : ∀ lv st g c s, (zo_al 1 2 (zo_get 3 2 (zo_il 1 1 (zo_ic_ne 41 (pz_Z X 3))))) 17 lv st g c s → pz_Z X 3 17 lv st g c s := (zs_aload_n hX dX3_gatherLate_17 rfl (zs_get hX (C := RX1) (T := TX1) (N := 4) rfl in_X1 (by decide) mw_ec8f050c dX3_gatherLate_18 (zs_iload_n hX dX3_gatherLate_21 rfl (zs_ic_ne hX dX3_gatherLate_22 (by decide) (fun _ _ _ _ _ _ h => h)))))
set_option maxRecDepth 20000 in
theorem bX3_gatherLate_25 {X : pz_C} (hX : pz_X X cX3_gatherLate 3 RX3) : ∀ lv st g c s, (zo_al 1 0 (zo_get 5 10 (zo_al 1 2 (zo_get 3 0 (zo_dup2 (zo_iald (zo_al 1 2 (zo_get 3 1 (zo_iadd (zo_iast (pz_Z X 3))))))))))) 25 lv st g c s → pz_Z X 3 25 lv st g c s := (zs_aload_n hX dX3_gatherLate_25 rfl (zs_get hX (C := RX3) (T := TX3) (N := 11) rfl in_X3 (by decide) mw_b5197fa4 dX3_gatherLate_26 (zs_aload_n hX dX3_gatherLate_29 rfl (zs_get hX (C := RX1) (T := TX1) (N := 4) rfl in_X1 (by decide) mw_480f6050 dX3_gatherLate_30 (zs_dup2 hX dX3_gatherLate_33 (zs_iald hX dX3_gatherLate_34 (zs_aload_n hX dX3_gatherLate_35 rfl (zs_get hX (C := RX1) (T := TX1) (N := 4) rfl in_X1 (by decide) mw_2fcdfd9a dX3_gatherLate_36 (zs_iadd hX dX3_gatherLate_39 (zs_iast hX dX3_gatherLate_40 (fun _ _ _ _ _ h => h)))))))))))
set_option maxRecDepth 20000 in
theorem bX3_gatherLate_41 {X : pz_C} (hX : pz_X X cX3_gatherLate 3 RX3) : ∀ lv st g c s, (zo_al 1 2 (zo_get 3 3 (zo_as 1 2 (zo_goto 13 (pz_Z X 3))))) 41 lv st g c s → pz_Z X 3 41 lv st g c s := (zs_aload_n hX dX3_gatherLate_41 rfl (zs_get hX (C := RX1) (T := TX1) (N := 4) rfl in_X1 (by decide) mw_2707ff53 dX3_gatherLate_42 (zs_astore_n hX dX3_gatherLate_45 rfl (by decide) (zs_goto hX dX3_gatherLate_46 (by decide) (fun _ _ _ _ _ _ h => h)))))
set_option maxRecDepth 20000 in
theorem bX3_gatherLate_49 {X : pz_C} {rm : Room} {E : Option pz_V → pz_H → Prop} (hX : pz_X X cX3_gatherLate 3 RX3) (hR : pz_Rt X cX3_gatherLate 3 none rm E) : ∀ lv st g c s, (zo_rv rm E) 49 lv st g c s → pz_Z X 3 49 lv st g c s := (zs_rv hR dX3_gatherLate_49)
def rm_X3_gatherLate : Room := { frames := 1, cells := 0, slots := 0, locals := 23 }
abbrev gt_X3_gatherLate : Type := Nat × Int32 × Nat × List (Int32 × Int32 × Int32) × Nat × (Nat → Int32)
def pr_X3_gatherLate : gt_X3_gatherLate → List pz_V → pz_H → Prop := fun (h, d, u, l, lb, f) av g => av = [.inr (.inr (some h)), .inl d] ∧ (∀ q ∈ l, ∃ k, k < 12 ∧ q.1 = nI k) ∧ ∃ fs r, g h = some ([30, u], .inr (5, fs)) ∧ fs[6]? = some (.inr (.inr r)) ∧ fs[10]? = some (.inr (.inr (some lb))) ∧ lt_ch g u r l ∧ g lb = some ([39, u], .inl (0, 12, .inl f))
def po_X3_gatherLate : gt_X3_gatherLate → List pz_V → pz_H → Option pz_V → pz_H → Prop := fun (_, d, u, l, lb, _) _ g v g' => v = none ∧ ∃ f' : Nat → Int32, g' = va_up g lb (some ([39, u], .inl (0, 12, .inl f'))) ∧ ∀ j, j < 12 → f' j = lt_acc d j l 0
set_option maxRecDepth 20000 in
theorem ct_X3_gatherLate {G : pz_Gx} (hOk : pz_OK G) (gh : gt_X3_gatherLate) : pz_M G yX3_gatherLate cX3_gatherLate 3 none rm_X3_gatherLate (pr_X3_gatherLate gh) (po_X3_gatherLate gh) := by
  obtain ⟨h, d, u, l, lb, f⟩ := gh
  refine pz_ofZ (by decide) hOk.1 (Or.inl rfl) ?_ ?_
  · rintro av g ⟨rfl, -⟩
    exact Nat.le_of_ble_eq_true rfl
  · rintro X hX hGX hrm - av g ⟨rfl, hst, fs, r, hg, h6, h10, hz, hlb⟩ hR
    have loop : ∀ (l2 : List (Int32 × Int32 × Int32)) (r2 : Option Nat) (f2 : Nat → Int32), (∀ q ∈ l2, ∃ k, k < 12 ∧ q.1 = nI k) → lt_ch g u r2 l2 → (∀ j, j < 12 → lt_acc d j l2 (f2 j) = lt_acc d j l 0) → pz_Z X 3 13 [(2, .inr (.inr r2)), (0, .inr (.inr (some h))), (1, .inl d)] [] (va_up g lb (some ([39, u], .inl (0, 12, .inl f2)))) 0 0 := by
      intro l2
      induction l2 with
      | nil =>
        intro r2 f2 _ h2 he
        cases h2
        refine bX3_gatherLate_13 hX _ _ _ _ _ ⟨fun _ => ?_, fun a q => (by cases q)⟩
        exact bX3_gatherLate_49 hX hR _ _ _ _ _ ⟨Nat.le_refl _, Nat.le_refl _, rfl, f2, rfl, he⟩
      | cons z l3 ih =>
        intro r2 f2 hk h2 he
        obtain ⟨st, by', d2⟩ := z
        obtain ⟨a, r3, rfl, ha, h3⟩ := h2
        have hk3 : ∀ q ∈ l3, ∃ k, k < 12 ∧ q.1 = nI k := fun q hq => hk q (List.mem_cons_of_mem _ hq)
        obtain ⟨k, hk12, rfl⟩ : ∃ k, k < 12 ∧ st = nI k := hk _ List.mem_cons_self
        have ha' := up_ne (v := some ([39, u], .inl (0, 12, .inl f2))) ha hlb (by simp)
        have hg' := up_ne (v := some ([39, u], .inl (0, 12, .inl f2))) hg hlb (by simp)
        refine bX3_gatherLate_13 hX _ _ _ _ _ ⟨fun q => (by cases q), fun _ _ => ?_⟩
        refine bX3_gatherLate_17 hX _ _ _ _ _ ⟨_, _, _, ha', rfl, fun q => ?_, fun q => ?_⟩
        · refine bX3_gatherLate_41 hX _ _ _ _ _ ⟨_, _, _, ha', rfl, ?_⟩
          refine ih r3 f2 hk3 h3 (fun j hj => ?_)
          rw [← he j hj]
          show _ = lt_acc d j l3 (if d2 = d ∧ nI k = nI j then f2 j + by' else f2 j)
          rw [if_neg (fun z => q z.1)]
        · subst q
          refine bX3_gatherLate_25 hX _ _ _ _ _ ⟨_, _, _, hg', h10, _, _, _, ha', rfl, rfl, rfl, _, _, _, up_at, ni_in hk12 (by omega), _, _, _, ha', rfl, _, _, _, up_at, ni_in hk12 (by omega), ?_⟩
          rw [up_up, ni_cl (by omega)]
          have ha2 := up_ne (v := some ([39, u], .inl (0, 12, .inl (upd f2 k (f2 k + by'))))) ha hlb (by simp)
          refine bX3_gatherLate_41 hX _ _ _ _ _ ⟨_, _, _, ha2, rfl, ?_⟩
          refine ih r3 (upd f2 k (f2 k + by')) hk3 h3 (fun j hj => ?_)
          rw [← he j hj]
          show _ = lt_acc d2 j l3 (if d2 = d2 ∧ nI k = nI j then f2 j + by' else f2 j)
          by_cases hjk : j = k
          · subst hjk
            rw [pk_us, if_pos ⟨rfl, rfl⟩]
          · rw [pk_un hjk, if_neg (fun z => hjk (ni_inj (by omega) (by omega) z.2).symm)]
    refine bX3_gatherLate_0 hX _ _ _ _ _ ⟨_, _, _, hg, h10, ?_⟩
    refine bX3_gatherLate_5 hX hrm hGX hOk (lb, 0, [39, u], 12, f) (by decide) _ _ _ _ _ ⟨Nat.le_of_ble_eq_true rfl, Nat.le_of_ble_eq_true rfl, Nat.le_of_ble_eq_true rfl, Nat.le_of_ble_eq_true rfl, ⟨rfl, hlb, by omega⟩, ?_⟩
    rintro v g' ⟨rfl, f', rfl, hf'⟩ _
    have hg' := up_ne (v := some ([39, u], .inl (0, 12, .inl f'))) hg hlb (by simp)
    refine ⟨_, _, _, hg', h6, ?_⟩
    refine loop l r f' hst hz (fun j hj => ?_)
    rw [hf' j hj]
end
section
/-! a line's cells: what stays in a search (lnH), what a search works out (lnT); the places (plS) -/
abbrev ln_fs (wd : Int32) (sp sa sl n : Nat) (dw lw : Option Nat) (ra ar dp lb : Nat) : List pz_V := [.inl wd, .inr (.inr (some sp)), .inr (.inr (some sa)), .inr (.inr (some sl)), .inl (nI n), .inr (.inr dw), .inr (.inr lw), .inr (.inr (some ra)), .inr (.inr (some ar)), .inr (.inr (some dp)), .inr (.inr (some lb))]
abbrev ar_i (n : Nat) (f : Nat → Int32) : pz_E := .inl (0, n, .inl f)
abbrev ar_z (n : Nat) (f : Nat → Int32) : pz_E := .inl (2, n, .inl f)
abbrev ar_r (t n : Nat) (f : Nat → Option Nat) : pz_E := .inl (t, n, .inr (.inr (.inr (.inr f))))
def lnH (g : pz_H) (u h : Nat) (La Ra Rd : Nat → Nat) (wd : Int32) (n : Nat) (dw lw : Option Nat) (f1 f2 f3 : Nat → Int32) : Prop :=
  g h = some ([30, u], .inr (5, ln_fs wd (La 1) (La 2) (La 3) n dw lw (La 7) (La 8) (La 9) (La 10))) ∧ g (La 1) = some ([31, u], ar_i 12 f1) ∧ g (La 2) = some ([32, u], ar_i 12 f2) ∧ g (La 3) = some ([33, u], ar_i 12 f3) ∧ (∃ o, g (La 8) = some ([35, u], ar_r 6 13 o) ∧ ∀ i, i < 13 → o i = some (Ra i)) ∧ ∃ o, g (La 9) = some ([37, u], ar_r 6 13 o) ∧ ∀ i, i < 13 → o i = some (Rd i)
def plS (g : pz_H) (pa : Nat) (fp : Nat → Nat) (Z : Nat → List (Int32 × Int32)) (N C : Nat → Int32) : Prop :=
  (∃ o, g pa = some ([9], ar_r 4 100 o) ∧ ∀ p, p < 100 → o p = some (fp p)) ∧ ∀ p, p < 100 → ∃ r, g (fp p) = some ([20, p], .inr (7, [.inr (.inr r), .inl (N p), .inl (C p)])) ∧ pl_ch g p r (Z p)
theorem lnH_mono {g g' : pz_H} {S : List Nat → Prop} (hh : hg S g g') {u h : Nat} {La Ra Rd : Nat → Nat} {wd : Int32} {n : Nat} {dw lw : Option Nat} {f1 f2 f3 : Nat → Int32} (hS : ¬ S [30, u] ∧ ¬ S [31, u] ∧ ¬ S [32, u] ∧ ¬ S [33, u] ∧ ¬ S [35, u] ∧ ¬ S [37, u]) (h1 : lnH g u h La Ra Rd wd n dw lw f1 f2 f3) : lnH g' u h La Ra Rd wd n dw lw f1 f2 f3 := by
  obtain ⟨a1, a2, a3, a4, ⟨o, a5, a6⟩, o2, a7, a8⟩ := h1
  obtain ⟨s1, s2, s3, s4, s5, s6⟩ := hS
  exact ⟨hh _ _ _ a1 s1, hh _ _ _ a2 s2, hh _ _ _ a3 s3, hh _ _ _ a4 s4, ⟨o, hh _ _ _ a5 s5, a6⟩, o2, hh _ _ _ a7 s6, a8⟩
theorem plS_mono {g g' : pz_H} {S : List Nat → Prop} (hh : hg S g g') {pa : Nat} {fp : Nat → Nat} {Z : Nat → List (Int32 × Int32)} {N C : Nat → Int32} (hS : ¬ S [9] ∧ (∀ p, ¬ S [20, p]) ∧ ∀ p d, ¬ S [21, p, d]) (h1 : plS g pa fp Z N C) : plS g' pa fp Z N C := by
  obtain ⟨⟨o, a1, a2⟩, a3⟩ := h1
  obtain ⟨s1, s2, s3⟩ := hS
  refine ⟨⟨o, hh _ _ _ a1 s1, a2⟩, fun p hp => ?_⟩
  obtain ⟨r, b1, b2⟩ := a3 p hp
  exact ⟨r, hh _ _ _ b1 (s2 p), pl_mono hh (s3 p) _ _ b2⟩
/-- how late the line is at its first k stops, in all -/
def wt_l (d : Int32) (ll : List (Int32 × Int32 × Int32)) : Nat → Int32
  | 0 => 0
  | k + 1 => wt_l d ll k + lt_acc d k ll 0
def wt_s (d : Int32) (ll : List (Int32 × Int32 × Int32)) (f1 : Nat → Int32) (Z : Nat → List (Int32 × Int32)) (k : Nat) : Int32 := 86400 * d - 60 * pl_min (86400 * d) 0 (Z (f1 k).toNatClampNeg) + wt_l d ll (k + 1)
set_option maxRecDepth 20000 in
theorem bX3_workOutTimes_0 {X : pz_C} (hX : pz_X X cX3_workOutTimes 8 RX3) : ∀ lv st g c s, (zo_al 1 0 (zo_il 1 2 (pz_Z X 8))) 0 lv st g c s → pz_Z X 8 0 lv st g c s := (zs_aload_n hX dX3_workOutTimes_0 rfl (zs_iload_n hX dX3_workOutTimes_1 rfl (fun _ _ _ _ _ h => h)))
set_option maxRecDepth 20000 in
theorem bX3_workOutTimes_2 {X : pz_C} {G : pz_Gx} {rm : Room} (hX : pz_X X cX3_workOutTimes 8 RX3) (hrm : pz_rm X = rm) (hGX : pz_GX X G) (hOk : pz_OK G) (gh : gt_X3_gatherLate) (hr_X3_gatherLate : rm_X3_gatherLate.frames + 1 ≤ rm.frames ∧ 8 + (3 + 11) + rm_X3_gatherLate.locals ≤ rm.locals) : ∀ lv st g c s, (zo_cV rm 5 1 3 rm_X3_gatherLate.cells rm_X3_gatherLate.slots (pr_X3_gatherLate gh) (po_X3_gatherLate gh) (zo_kv (zo_ic 2 (86400) (zo_il 1 2 (zo_imul (zo_is 2 4 (zo_ic 1 (0) (zo_is 2 5 (zo_ic 1 (0) (zo_is 2 6 (pz_Z X 8))))))))))) 2 lv st g c s → pz_Z X 8 2 lv st g c s := by
  subst hrm
  exact (zs_csV hX hGX (C := RX3) (T := TX3) (N := 11) rfl (ct_X3_gatherLate hOk gh) mw_f531baa8 mw_6acb76ba mw_61d3abdd mw_ad64dfa1 mw_83e9764b (by decide +kernel) hr_X3_gatherLate dX3_workOutTimes_2 (zs_kv (zs_ldc hX dX3_workOutTimes_5 mw_85fe67e2 (zs_iload_n hX dX3_workOutTimes_7 rfl (zs_imul hX dX3_workOutTimes_8 (zs_istore hX dX3_workOutTimes_9 (by decide) (zs_iconst hX dX3_workOutTimes_11 (by decide) (zs_istore hX dX3_workOutTimes_12 (by decide) (zs_iconst hX dX3_workOutTimes_14 (by decide) (zs_istore hX dX3_workOutTimes_15 (by decide) (fun _ _ _ _ _ h => h)))))))))))
set_option maxRecDepth 20000 in
theorem bX3_workOutTimes_17 {X : pz_C} (hX : pz_X X cX3_workOutTimes 8 RX3) : ∀ lv st g c s, (zo_il 2 6 (zo_al 1 0 (zo_get 5 4 (zo_ic_ge 107 (pz_Z X 8))))) 17 lv st g c s → pz_Z X 8 17 lv st g c s := (zs_iload hX dX3_workOutTimes_17 (zs_aload_n hX dX3_workOutTimes_19 rfl (zs_get hX (C := RX3) (T := TX3) (N := 11) rfl in_X3 (by decide) mw_eb463ec7 dX3_workOutTimes_20 (zs_ic_ge hX dX3_workOutTimes_23 (by decide) (fun _ _ _ _ _ _ h => h)))))
set_option maxRecDepth 20000 in
theorem bX3_workOutTimes_26 {X : pz_C} (hX : pz_X X cX3_workOutTimes 8 RX3) : ∀ lv st g c s, (zo_il 2 5 (zo_al 1 0 (zo_get 5 10 (zo_il 2 6 (zo_iald (zo_iadd (zo_is 2 5 (zo_il 2 4 (zo_ic 2 (60) (zo_al 1 3 (zo_al 1 0 (zo_get 5 1 (zo_il 2 6 (zo_iald (zo_aald 4 (zo_il 2 4 (pz_Z X 8))))))))))))))))) 26 lv st g c s → pz_Z X 8 26 lv st g c s := (zs_iload hX dX3_workOutTimes_26 (zs_aload_n hX dX3_workOutTimes_28 rfl (zs_get hX (C := RX3) (T := TX3) (N := 11) rfl in_X3 (by decide) mw_b5197fa4 dX3_workOutTimes_29 (zs_iload hX dX3_workOutTimes_32 (zs_iald hX dX3_workOutTimes_34 (zs_iadd hX dX3_workOutTimes_35 (zs_istore hX dX3_workOutTimes_36 (by decide) (zs_iload hX dX3_workOutTimes_38 (zs_bipush hX dX3_workOutTimes_40 (by decide) (zs_aload_n hX dX3_workOutTimes_42 rfl (zs_aload_n hX dX3_workOutTimes_43 rfl (zs_get hX (C := RX3) (T := TX3) (N := 11) rfl in_X3 (by decide) mw_7ffb4013 dX3_workOutTimes_44 (zs_iload hX dX3_workOutTimes_47 (zs_iald hX dX3_workOutTimes_49 (zs_aald hX (ty := (.object "LineTimes$Place")) (fun _ => rfl) rfl dX3_workOutTimes_50 (zs_iload hX dX3_workOutTimes_51 (fun _ _ _ _ _ h => h)))))))))))))))))
set_option maxRecDepth 20000 in
theorem bX3_workOutTimes_53 {X : pz_C} {G : pz_Gx} {rm : Room} (hX : pz_X X cX3_workOutTimes 8 RX3) (hrm : pz_rm X = rm) (hGX : pz_GX X G) (hOk : pz_OK G) (gh : gt_X5_minutesAt) (hr_X5_minutesAt : rm_X5_minutesAt.frames + 1 ≤ rm.frames ∧ 8 + (4 + 11) + rm_X5_minutesAt.locals ≤ rm.locals) : ∀ lv st g c s, (zo_cV rm 7 1 3 rm_X5_minutesAt.cells rm_X5_minutesAt.slots (pr_X5_minutesAt gh) (po_X5_minutesAt gh) (zo_ki (zo_imul (zo_isub (zo_il 2 5 (zo_iadd (zo_is 2 7 (zo_al 1 0 (zo_get 5 8 (zo_il 1 1 (zo_aald 6 (zo_il 2 6 (zo_al 1 0 (zo_get 5 2 (zo_il 2 6 (zo_iald (zo_il 2 7 (zo_iadd (zo_iast (zo_al 1 0 (zo_get 5 9 (zo_il 1 1 (zo_aald 6 (zo_il 2 6 (zo_al 1 0 (zo_get 5 3 (zo_il 2 6 (zo_iald (zo_il 2 7 (zo_iadd (zo_iast (zo_inc 6 (1) (zo_goto 17 (pz_Z X 8)))))))))))))))))))))))))))))))))) 53 lv st g c s → pz_Z X 8 53 lv st g c s := by
  subst hrm
  exact (zs_csV hX hGX (C := RX5) (T := TX5) (N := 3) rfl (ct_X5_minutesAt hOk gh) mw_b6f75c5a mw_1a82624b mw_d87dbaba mw_fae7169a mw_665a371f (by decide +kernel) hr_X5_minutesAt dX3_workOutTimes_53 (zs_ki (zs_imul hX dX3_workOutTimes_56 (zs_isub hX dX3_workOutTimes_57 (zs_iload hX dX3_workOutTimes_58 (zs_iadd hX dX3_workOutTimes_60 (zs_istore hX dX3_workOutTimes_61 (by decide) (zs_aload_n hX dX3_workOutTimes_63 rfl (zs_get hX (C := RX3) (T := TX3) (N := 11) rfl in_X3 (by decide) mw_a565fce3 dX3_workOutTimes_64 (zs_iload_n hX dX3_workOutTimes_67 rfl (zs_aald hX (ty := (.array .int)) (fun _ => rfl) rfl dX3_workOutTimes_68 (zs_iload hX dX3_workOutTimes_69 (zs_aload_n hX dX3_workOutTimes_71 rfl (zs_get hX (C := RX3) (T := TX3) (N := 11) rfl in_X3 (by decide) mw_22306b94 dX3_workOutTimes_72 (zs_iload hX dX3_workOutTimes_75 (zs_iald hX dX3_workOutTimes_77 (zs_iload hX dX3_workOutTimes_78 (zs_iadd hX dX3_workOutTimes_80 (zs_iast hX dX3_workOutTimes_81 (zs_aload_n hX dX3_workOutTimes_82 rfl (zs_get hX (C := RX3) (T := TX3) (N := 11) rfl in_X3 (by decide) mw_d9a7b0a9 dX3_workOutTimes_83 (zs_iload_n hX dX3_workOutTimes_86 rfl (zs_aald hX (ty := (.array .int)) (fun _ => rfl) rfl dX3_workOutTimes_87 (zs_iload hX dX3_workOutTimes_88 (zs_aload_n hX dX3_workOutTimes_90 rfl (zs_get hX (C := RX3) (T := TX3) (N := 11) rfl in_X3 (by decide) mw_23200ee7 dX3_workOutTimes_91 (zs_iload hX dX3_workOutTimes_94 (zs_iald hX dX3_workOutTimes_96 (zs_iload hX dX3_workOutTimes_97 (zs_iadd hX dX3_workOutTimes_99 (zs_iast hX dX3_workOutTimes_100 (zs_iinc hX dX3_workOutTimes_101 (by decide) (by decide) (zs_goto hX dX3_workOutTimes_104 (by decide) (fun _ _ _ _ _ _ h => h))))))))))))))))))))))))))))))))))
set_option maxRecDepth 20000 in
theorem bX3_workOutTimes_107 {X : pz_C} {rm : Room} {E : Option pz_V → pz_H → Prop} (hX : pz_X X cX3_workOutTimes 8 RX3) (hR : pz_Rt X cX3_workOutTimes 8 none rm E) : ∀ lv st g c s, (zo_rv rm E) 107 lv st g c s → pz_Z X 8 107 lv st g c s := (zs_rv hR dX3_workOutTimes_107)
def rm_X3_workOutTimes : Room := { frames := 2, cells := 0, slots := 0, locals := 45 }
abbrev gt_X3_workOutTimes : Type := (Nat × Nat × Int32 × Nat) × Nat × ((Nat → Nat) × (Nat → Nat) × (Nat → Nat)) × (Int32 × Nat × Option Nat × Option Nat) × ((Nat → Int32) × (Nat → Int32) × (Nat → Int32)) × List (Int32 × Int32 × Int32) × ((Nat → Nat) × (Nat → List (Int32 × Int32)) × (Nat → Int32) × (Nat → Int32))
def pr_X3_workOutTimes : gt_X3_workOutTimes → List pz_V → pz_H → Prop := fun ((h, row, d, pa), u, (La, Ra, Rd), (wd, n, dw, lw), (f1, f2, f3), ll, (fp, Z, N, C)) av g => av = [.inr (.inr (some h)), .inl (nI row), .inl d, .inr (.inr (some pa))] ∧ row < 13 ∧ n ≤ 12 ∧ lnH g u h La Ra Rd wd n dw lw f1 f2 f3 ∧ lt_ch g u lw ll ∧ (∀ q ∈ ll, ∃ k, k < 12 ∧ q.1 = nI k) ∧ (∀ k, k < n → ∃ p, p < 100 ∧ f1 k = nI p) ∧ plS g pa fp Z N C ∧ (∃ A, g (Ra row) = some ([36, u, row], ar_i 12 A)) ∧ (∃ B, g (Rd row) = some ([38, u, row], ar_i 12 B)) ∧ ∃ f, g (La 10) = some ([39, u], ar_i 12 f)
def po_X3_workOutTimes : gt_X3_workOutTimes → List pz_V → pz_H → Option pz_V → pz_H → Prop := fun ((_, row, d, _), u, (La, Ra, Rd), (_, n, _, _), (f1, f2, f3), ll, (_, Z, _, _)) _ g v g' => v = none ∧ hg (fun b => b = [36, u, row] ∨ b = [38, u, row] ∨ b = [39, u]) g g' ∧ (∃ A, g' (Ra row) = some ([36, u, row], ar_i 12 A) ∧ ∀ k, k < n → A k = f2 k + wt_s d ll f1 Z k) ∧ (∃ B, g' (Rd row) = some ([38, u, row], ar_i 12 B) ∧ ∀ k, k < n → B k = f3 k + wt_s d ll f1 Z k) ∧ ∃ f, g' (La 10) = some ([39, u], ar_i 12 f)
set_option maxRecDepth 20000 in
set_option maxHeartbeats 4000000 in
theorem ct_X3_workOutTimes {G : pz_Gx} (hOk : pz_OK G) (gh : gt_X3_workOutTimes) : pz_M G yX3_workOutTimes cX3_workOutTimes 8 none rm_X3_workOutTimes (pr_X3_workOutTimes gh) (po_X3_workOutTimes gh) := by
  obtain ⟨⟨h, row, d, pa⟩, u, ⟨La, Ra, Rd⟩, ⟨wd, n, dw, lw⟩, ⟨f1, f2, f3⟩, ll, fp, Z, N, C⟩ := gh
  refine pz_ofZ (by decide) hOk.1 (Or.inl rfl) ?_ ?_
  · rintro av g ⟨rfl, -⟩
    exact Nat.le_of_ble_eq_true rfl
  · rintro X hX hGX hrm - av g ⟨rfl, hrow, hn, hL, hlt, hst, hpl, hpS, ⟨A0, hA0⟩, ⟨B0, hB0⟩, lb0, hlb0⟩ hR
    have loop : ∀ (lbf : Nat → Int32), (∀ j, j < 12 → lbf j = lt_acc d j ll 0) → ∀ (m k : Nat) (A2 B2 : Nat → Int32) (gk : pz_H), k + m = n → hg (fun b => b = [36, u, row] ∨ b = [38, u, row] ∨ b = [39, u]) g gk → gk (Ra row) = some ([36, u, row], ar_i 12 A2) → gk (Rd row) = some ([38, u, row], ar_i 12 B2) → gk (La 10) = some ([39, u], ar_i 12 lbf) → (∀ j, j < k → A2 j = f2 j + wt_s d ll f1 Z j ∧ B2 j = f3 j + wt_s d ll f1 Z j) → pz_Z X 8 17 [(6, .inl (nI k)), (5, .inl (wt_l d ll k)), (4, .inl (86400 * d)), (0, .inr (.inr (some h))), (1, .inl (nI row)), (2, .inl d), (3, .inr (.inr (some pa)))] [] gk 0 0 := by
      intro lbf hlbf m
      induction m with
      | zero =>
        intro k A2 B2 gk hk hS hA hB hlb hAB
        have hL' := lnH_mono hS (by simp) hL
        refine bX3_workOutTimes_17 hX _ _ _ _ _ ⟨_, _, _, hL'.1, rfl, fun _ => ?_, fun q => absurd ((ni_le (by omega) (by omega)).mpr (by omega)) q⟩
        exact bX3_workOutTimes_107 hX hR _ _ _ _ _ ⟨Nat.le_refl _, Nat.le_refl _, rfl, hS, ⟨A2, hA, fun j hj => (hAB j (by omega)).1⟩, ⟨B2, hB, fun j hj => (hAB j (by omega)).2⟩, lbf, hlb⟩
      | succ m ih =>
        intro k A2 B2 gk hk hS hA hB hlb hAB
        obtain ⟨hh, h1, h2, h3, ⟨o8, h8, ho8⟩, o9, h9, ho9⟩ := lnH_mono hS (by simp) hL
        obtain ⟨⟨op, hpa, hop⟩, hpp⟩ := plS_mono hS (by simp) hpS
        obtain ⟨p, hp, hfp⟩ := hpl k (by omega)
        obtain ⟨r, hpl1, hpl2⟩ := hpp p hp
        have hk12 : vp_in (nI k) 12 := ni_in (by omega) (by omega)
        have hkc : (nI k).toNatClampNeg = k := ni_cl (by omega)
        have hrc : (nI row).toNatClampNeg = row := ni_cl (by omega)
        have hri : vp_in (nI row) 13 := ni_in hrow (by omega)
        refine bX3_workOutTimes_17 hX _ _ _ _ _ ⟨_, _, _, hh, rfl, fun q => absurd ((ni_le (by omega) (by omega)).mp q) (by omega), fun _ => ?_⟩
        refine bX3_workOutTimes_26 hX _ _ _ _ _ ⟨_, _, _, hh, rfl, _, _, _, hlb, hk12, _, _, _, hh, rfl, _, _, _, h1, hk12, _, _, _, hpa, ?_, ?_⟩
        · rw [hkc, hfp]; exact ni_in hp (by omega)
        rw [hkc, hfp, ni_cl (j := p) (by omega), hop p hp]
        refine bX3_workOutTimes_53 hX hrm hGX hOk (fp p, 86400 * d, p, Z p) (by decide) _ _ _ _ _ ⟨Nat.le_of_ble_eq_true rfl, ⟨fp p, [.inl (86400 * d)], [20, p], _, rfl, hpl1⟩, Nat.le_of_ble_eq_true rfl, Nat.le_of_ble_eq_true rfl, Nat.le_of_ble_eq_true rfl, ⟨rfl, [20, p], r, _, _, hpl1, hpl2⟩, ?_⟩
        rintro v g' ⟨rfl, rfl⟩ x hx
        cases hx
        refine ⟨_, _, _, hh, rfl, _, _, _, h8, hri, ?_⟩
        rw [hrc, ho8 row hrow]
        refine ⟨_, _, _, hh, rfl, _, _, _, h2, hk12, _, _, _, hA, hk12, _, _, _, up_ne hh hA (by simp), rfl, _, _, _, up_ne h9 hA (by simp), hri, ?_⟩
        rw [hrc, ho9 row hrow]
        refine ⟨_, _, _, up_ne hh hA (by simp), rfl, _, _, _, up_ne h3 hA (by simp), hk12, _, _, _, up_ne hB hA (by simp), hk12, ?_⟩
        rw [hkc, hlbf k (by omega)]
        refine pz_lsub (lv' := [(6, .inl (nI (k + 1))), (5, .inl (wt_l d ll (k + 1))), (4, .inl (86400 * d)), (0, .inr (.inr (some h))), (1, .inl (nI row)), (2, .inl d), (3, .inr (.inr (some pa)))]) ⟨ni_inc, rfl, rfl, rfl, rfl, rfl, rfl, trivial⟩ ?_
        have hsh : 86400 * d - 60 * pl_min (86400 * d) 0 (Z p) + (wt_l d ll k + lt_acc d k ll 0) = wt_s d ll f1 Z k := by
          unfold wt_s
          rw [hfp, ni_cl (j := p) (by omega)]
          rfl
        rw [hsh]
        refine ih (k + 1) _ _ _ (by omega) (hg_up (hg_up hS hA (Or.inl rfl)) (up_ne hB hA (by simp)) (Or.inr (Or.inl rfl))) (up_ne up_at (up_ne hB hA (by simp)) (by simp)) up_at (up_ne (up_ne hlb hA (by simp)) (up_ne hB hA (by simp)) (by simp)) (fun j hj => ?_)
        by_cases hjk : j = k
        · subst hjk
          exact ⟨pk_us, pk_us⟩
        · rw [pk_un hjk, pk_un hjk]
          exact hAB j (by omega)
    refine bX3_workOutTimes_0 hX _ _ _ _ _ ?_
    refine bX3_workOutTimes_2 hX hrm hGX hOk (h, d, u, ll, La 10, lb0) (by decide) _ _ _ _ _ ⟨Nat.le_of_ble_eq_true rfl, ⟨h, [.inl d], [30, u], _, rfl, hL.1⟩, Nat.le_of_ble_eq_true rfl, Nat.le_of_ble_eq_true rfl, Nat.le_of_ble_eq_true rfl, ⟨rfl, hst, _, _, hL.1, rfl, rfl, hlt, hlb0⟩, ?_⟩
    rintro v g' ⟨rfl, f', rfl, hf'⟩ _
    exact loop f' hf' n 0 A0 B0 _ (by omega) (hg_up hg_rf hlb0 (Or.inr (Or.inr rfl))) (up_ne hA0 hlb0 (by simp)) (up_ne hB0 hlb0 (by simp)) up_at (fun j hj => absurd hj (Nat.not_lt_zero j))
/-! the runs of the thirteen days -/
def lnT (g : pz_H) (u : Nat) (La Ra Rd : Nat → Nat) (rn : Nat → Int32) (A B : Nat → Nat → Int32) : Prop :=
  g (La 7) = some ([34, u], ar_z 13 rn) ∧ (∀ i, i < 13 → g (Ra i) = some ([36, u, i], ar_i 12 (A i))) ∧ (∀ i, i < 13 → g (Rd i) = some ([38, u, i], ar_i 12 (B i))) ∧ ∃ f, g (La 10) = some ([39, u], ar_i 12 f)
def lnSc (u : Nat) : List Nat → Prop := fun b => b = [34, u] ∨ (∃ i, b = [36, u, i]) ∨ (∃ i, b = [38, u, i]) ∨ b = [39, u]
set_option maxRecDepth 20000 in
theorem bX3_workOutRuns_0 {X : pz_C} (hX : pz_X X cX3_workOutRuns 4 RX3) : ∀ lv st g c s, (zo_ic 1 (0) (zo_is 1 3 (pz_Z X 4))) 0 lv st g c s → pz_Z X 4 0 lv st g c s := (zs_iconst hX dX3_workOutRuns_0 (by decide) (zs_istore_n hX dX3_workOutRuns_1 rfl (by decide) (fun _ _ _ _ _ h => h)))
set_option maxRecDepth 20000 in
theorem bX3_workOutRuns_2 {X : pz_C} (hX : pz_X X cX3_workOutRuns 4 RX3) : ∀ lv st g c s, (zo_il 1 3 (zo_ic 2 (13) (zo_ic_ge 45 (pz_Z X 4)))) 2 lv st g c s → pz_Z X 4 2 lv st g c s := (zs_iload_n hX dX3_workOutRuns_2 rfl (zs_bipush hX dX3_workOutRuns_3 (by decide) (zs_ic_ge hX dX3_workOutRuns_5 (by decide) (fun _ _ _ _ _ _ h => h))))
set_option maxRecDepth 20000 in
theorem bX3_workOutRuns_8 {X : pz_C} (hX : pz_X X cX3_workOutRuns 4 RX3) : ∀ lv st g c s, (zo_al 1 0 (zo_get 5 7 (zo_il 1 3 (zo_al 1 0 (zo_il 1 1 (zo_il 1 3 (zo_iadd (pz_Z X 4)))))))) 8 lv st g c s → pz_Z X 4 8 lv st g c s := (zs_aload_n hX dX3_workOutRuns_8 rfl (zs_get hX (C := RX3) (T := TX3) (N := 11) rfl in_X3 (by decide) mw_5b456fc6 dX3_workOutRuns_9 (zs_iload_n hX dX3_workOutRuns_12 rfl (zs_aload_n hX dX3_workOutRuns_13 rfl (zs_iload_n hX dX3_workOutRuns_14 rfl (zs_iload_n hX dX3_workOutRuns_15 rfl (zs_iadd hX dX3_workOutRuns_16 (fun _ _ _ _ _ h => h))))))))
set_option maxRecDepth 20000 in
theorem bX3_workOutRuns_17 {X : pz_C} {G : pz_Gx} {rm : Room} (hX : pz_X X cX3_workOutRuns 4 RX3) (hrm : pz_rm X = rm) (hGX : pz_GX X G) (hOk : pz_OK G) (gh : gt_X3_runsOn) (hr_X3_runsOn : rm_X3_runsOn.frames + 1 ≤ rm.frames ∧ 8 + (3 + 11) + rm_X3_runsOn.locals ≤ rm.locals) : ∀ lv st g c s, (zo_cV rm 5 1 3 rm_X3_runsOn.cells rm_X3_runsOn.slots (pr_X3_runsOn gh) (po_X3_runsOn gh) (zo_kz (zo_zast (zo_al 1 0 (zo_get 5 7 (zo_il 1 3 (zo_zald (zo_if_eq 39 (pz_Z X 4))))))))) 17 lv st g c s → pz_Z X 4 17 lv st g c s := by
  subst hrm
  exact (zs_csV hX hGX (C := RX3) (T := TX3) (N := 11) rfl (ct_X3_runsOn hOk gh) mw_4f1ebaac mw_1a52d823 mw_ba907501 mw_ad64dfa1 mw_f2baf0bd (by decide +kernel) hr_X3_runsOn dX3_workOutRuns_17 (zs_kz (zs_zast hX dX3_workOutRuns_20 (zs_aload_n hX dX3_workOutRuns_21 rfl (zs_get hX (C := RX3) (T := TX3) (N := 11) rfl in_X3 (by decide) mw_5b456fc6 dX3_workOutRuns_22 (zs_iload_n hX dX3_workOutRuns_25 rfl (zs_zald hX dX3_workOutRuns_26 (zs_if_eq hX dX3_workOutRuns_27 (by decide) (fun _ _ _ _ _ _ h => h)))))))))
set_option maxRecDepth 20000 in
theorem bX3_workOutRuns_30 {X : pz_C} (hX : pz_X X cX3_workOutRuns 4 RX3) : ∀ lv st g c s, (zo_al 1 0 (zo_il 1 3 (zo_il 1 1 (zo_il 1 3 (zo_iadd (zo_al 1 2 (pz_Z X 4))))))) 30 lv st g c s → pz_Z X 4 30 lv st g c s := (zs_aload_n hX dX3_workOutRuns_30 rfl (zs_iload_n hX dX3_workOutRuns_31 rfl (zs_iload_n hX dX3_workOutRuns_32 rfl (zs_iload_n hX dX3_workOutRuns_33 rfl (zs_iadd hX dX3_workOutRuns_34 (zs_aload_n hX dX3_workOutRuns_35 rfl (fun _ _ _ _ _ h => h)))))))
set_option maxRecDepth 20000 in
theorem bX3_workOutRuns_36 {X : pz_C} {G : pz_Gx} {rm : Room} (hX : pz_X X cX3_workOutRuns 4 RX3) (hrm : pz_rm X = rm) (hGX : pz_GX X G) (hOk : pz_OK G) (gh : gt_X3_workOutTimes) (hr_X3_workOutTimes : rm_X3_workOutTimes.frames + 1 ≤ rm.frames ∧ 8 + (8 + 11) + rm_X3_workOutTimes.locals ≤ rm.locals) : ∀ lv st g c s, (zo_cV rm 5 3 3 rm_X3_workOutTimes.cells rm_X3_workOutTimes.slots (pr_X3_workOutTimes gh) (po_X3_workOutTimes gh) (zo_kv (pz_Z X 4))) 36 lv st g c s → pz_Z X 4 36 lv st g c s := by
  subst hrm
  exact (zs_csV hX hGX (C := RX3) (T := TX3) (N := 11) rfl (ct_X3_workOutTimes hOk gh) mw_7b092935 mw_26175f65 mw_1d00ce55 mw_ad64dfa1 mw_9bc4609e (by decide +kernel) hr_X3_workOutTimes dX3_workOutRuns_36 (zs_kv (fun _ _ _ _ _ h => h)))
set_option maxRecDepth 20000 in
theorem bX3_workOutRuns_39 {X : pz_C} (hX : pz_X X cX3_workOutRuns 4 RX3) : ∀ lv st g c s, (zo_inc 3 (1) (zo_goto 2 (pz_Z X 4))) 39 lv st g c s → pz_Z X 4 39 lv st g c s := (zs_iinc hX dX3_workOutRuns_39 (by decide) (by decide) (zs_goto hX dX3_workOutRuns_42 (by decide) (fun _ _ _ _ _ _ h => h)))
set_option maxRecDepth 20000 in
theorem bX3_workOutRuns_45 {X : pz_C} {rm : Room} {E : Option pz_V → pz_H → Prop} (hX : pz_X X cX3_workOutRuns 4 RX3) (hR : pz_Rt X cX3_workOutRuns 4 none rm E) : ∀ lv st g c s, (zo_rv rm E) 45 lv st g c s → pz_Z X 4 45 lv st g c s := (zs_rv hR dX3_workOutRuns_45)
def rm_X3_workOutRuns : Room := { frames := 3, cells := 0, slots := 0, locals := 72 }
abbrev gt_X3_workOutRuns : Type := (Nat × Int32 × Nat) × Nat × ((Nat → Nat) × (Nat → Nat) × (Nat → Nat)) × (Int32 × Nat × Option Nat × Option Nat) × ((Nat → Int32) × (Nat → Int32) × (Nat → Int32)) × (List (Int32 × Int32) × List (Int32 × Int32 × Int32)) × ((Nat → Nat) × (Nat → List (Int32 × Int32)) × (Nat → Int32) × (Nat → Int32))
def pr_X3_workOutRuns : gt_X3_workOutRuns → List pz_V → pz_H → Prop := fun ((h, fd, pa), u, (La, Ra, Rd), (wd, n, dw, lw), (f1, f2, f3), (dl, ll), (fp, Z, N, C)) av g => av = [.inr (.inr (some h)), .inl fd, .inr (.inr (some pa))] ∧ n ≤ 12 ∧ lnH g u h La Ra Rd wd n dw lw f1 f2 f3 ∧ dw_ch g u dw dl ∧ (∀ q ∈ dl, q.2 = 0 ∨ q.2 = 1) ∧ lt_ch g u lw ll ∧ (∀ q ∈ ll, ∃ k, k < 12 ∧ q.1 = nI k) ∧ (∀ k, k < n → ∃ p, p < 100 ∧ f1 k = nI p) ∧ plS g pa fp Z N C ∧ ∃ rn A B, lnT g u La Ra Rd rn A B
def po_X3_workOutRuns : gt_X3_workOutRuns → List pz_V → pz_H → Option pz_V → pz_H → Prop := fun ((_, fd, _), u, (La, Ra, Rd), (wd, n, _, _), (f1, f2, f3), (dl, ll), (_, Z, _, _)) _ g v g' => v = none ∧ hg (lnSc u) g g' ∧ ∃ rn A B, lnT g' u La Ra Rd rn A B ∧ (∀ i, i < 13 → rn i = dw_run wd dl (fd + nI i)) ∧ ∀ i, i < 13 → rn i = 1 → ∀ k, k < n → A i k = f2 k + wt_s (fd + nI i) ll f1 Z k ∧ B i k = f3 k + wt_s (fd + nI i) ll f1 Z k
theorem dw_run_01 {wd : Int32} {l : List (Int32 × Int32)} (h : ∀ q ∈ l, q.2 = 0 ∨ q.2 = 1) (d : Int32) : dw_run wd l d = 0 ∨ dw_run wd l d = 1 := by
  unfold dw_run
  split
  · exact Or.inl rfl
  · cases hx : dw_get l d with
    | some x => exact dw_get_01 h hx
    | none =>
      simp only
      split
      · exact Or.inr rfl
      · exact Or.inl rfl
theorem nar_01 {x : Int32} (h : x = 0 ∨ x = 1) : vp_nar .boolean x = x := by
  rcases h with rfl | rfl <;> rfl
set_option maxRecDepth 20000 in
set_option maxHeartbeats 4000000 in
theorem ct_X3_workOutRuns {G : pz_Gx} (hOk : pz_OK G) (gh : gt_X3_workOutRuns) : pz_M G yX3_workOutRuns cX3_workOutRuns 4 none rm_X3_workOutRuns (pr_X3_workOutRuns gh) (po_X3_workOutRuns gh) := by
  obtain ⟨⟨h, fd, pa⟩, u, ⟨La, Ra, Rd⟩, ⟨wd, n, dw, lw⟩, ⟨f1, f2, f3⟩, ⟨dl, ll⟩, fp, Z, N, C⟩ := gh
  refine pz_ofZ (by decide) hOk.1 (Or.inl rfl) ?_ ?_
  · rintro av g ⟨rfl, -⟩
    exact Nat.le_of_ble_eq_true rfl
  · rintro X hX hGX hrm - av g ⟨rfl, hn, hL, hdw, h01, hlt, hst, hpl, hpS, rn0, A0, B0, hT0⟩ hR
    have loop : ∀ (m k : Nat) (rn : Nat → Int32) (A B : Nat → Nat → Int32) (gk : pz_H), k + m = 13 → hg (lnSc u) g gk → lnT gk u La Ra Rd rn A B → (∀ i, i < k → rn i = dw_run wd dl (fd + nI i)) → (∀ i, i < k → rn i = 1 → ∀ j, j < n → A i j = f2 j + wt_s (fd + nI i) ll f1 Z j ∧ B i j = f3 j + wt_s (fd + nI i) ll f1 Z j) → pz_Z X 4 2 [(3, .inl (nI k)), (0, .inr (.inr (some h))), (1, .inl fd), (2, .inr (.inr (some pa)))] [] gk 0 0 := by
      intro m
      induction m with
      | zero =>
        intro k rn A B gk hk hS hT hr hab
        obtain rfl : k = 13 := by omega
        refine bX3_workOutRuns_2 hX _ _ _ _ _ ⟨fun _ => ?_, fun q => absurd (show (13 : Int32) ≤ nI 13 by decide) q⟩
        exact bX3_workOutRuns_45 hX hR _ _ _ _ _ ⟨Nat.le_refl _, Nat.le_refl _, rfl, hS, rn, A, B, hT, hr, hab⟩
      | succ m ih =>
        intro k rn A B gk hk hS hT hr hab
        have hL' := lnH_mono hS (by simp [lnSc]) hL
        have hdw' := dw_mono hS (by simp [lnSc]) _ _ hdw
        have hlt' := lt_mono hS (by simp [lnSc]) _ _ hlt
        have hpS' := plS_mono hS (by simp [lnSc]) hpS
        obtain ⟨t7, tA, tB, lbf, t10⟩ := hT
        have hki : vp_in (nI k) 13 := ni_in (by omega) (by omega)
        have hkc : (nI k).toNatClampNeg = k := ni_cl (by omega)
        refine bX3_workOutRuns_2 hX _ _ _ _ _ ⟨fun q => absurd ((ni_le (a := 13) (by omega) (by omega)).mp q) (by omega), fun _ => ?_⟩
        refine bX3_workOutRuns_8 hX _ _ _ _ _ ⟨_, _, _, hL'.1, rfl, ?_⟩
        refine bX3_workOutRuns_17 hX hrm hGX hOk (h, fd + nI k, u, wd, dl) (by decide) _ _ _ _ _ ⟨Nat.le_of_ble_eq_true rfl, ⟨h, [.inl (fd + nI k)], [30, u], _, rfl, hL'.1⟩, Nat.le_of_ble_eq_true rfl, Nat.le_of_ble_eq_true rfl, Nat.le_of_ble_eq_true rfl, ⟨rfl, h01, [30, u], _, dw, hL'.1, rfl, rfl, hdw'⟩, ?_⟩
        rintro v g' ⟨rfl, rfl⟩ x hx -
        cases hx
        have hL1 := lnH_mono (hg_up (S := lnSc u) (v := some ([34, u], ar_z 13 (upd rn k (dw_run wd dl (fd + nI k))))) hg_rf t7 (Or.inl rfl)) (by simp [lnSc]) hL'
        refine ⟨_, _, _, t7, hki, ?_⟩
        rw [hkc, nar_01 (dw_run_01 h01 _)]
        refine ⟨_, _, _, hL1.1, rfl, _, _, _, up_at, hki, ?_⟩
        rw [hkc, pk_us]
        have hS1 := hg_up (v := some ([34, u], ar_z 13 (upd rn k (dw_run wd dl (fd + nI k))))) hS t7 (Or.inl rfl)
        have tA1 : ∀ i, i < 13 → va_up g' (La 7) (some ([34, u], ar_z 13 (upd rn k (dw_run wd dl (fd + nI k))))) (Ra i) = some ([36, u, i], ar_i 12 (A i)) := fun i hi => up_ne (tA i hi) t7 (by simp)
        have tB1 : ∀ i, i < 13 → va_up g' (La 7) (some ([34, u], ar_z 13 (upd rn k (dw_run wd dl (fd + nI k))))) (Rd i) = some ([38, u, i], ar_i 12 (B i)) := fun i hi => up_ne (tB i hi) t7 (by simp)
        have t101 := up_ne (v := some ([34, u], ar_z 13 (upd rn k (dw_run wd dl (fd + nI k))))) t10 t7 (by simp)
        refine ⟨fun q => ?_, fun q => ?_⟩
        · refine bX3_workOutRuns_39 hX _ _ _ _ _ ?_
          refine pz_lsub (lv' := [(3, .inl (nI (k + 1))), (0, .inr (.inr (some h))), (1, .inl fd), (2, .inr (.inr (some pa)))]) ⟨ni_inc, rfl, rfl, rfl, trivial⟩ ?_
          refine ih (k + 1) (upd rn k (dw_run wd dl (fd + nI k))) A B _ (by omega) hS1 ⟨up_at, tA1, tB1, lbf, t101⟩ (fun i hi => ?_) (fun i hi h1 => ?_)
          · by_cases hik : i = k
            · subst hik; exact pk_us
            · rw [pk_un hik]; exact hr i (by omega)
          · by_cases hik : i = k
            · subst hik; rw [pk_us, q] at h1; exact absurd h1 (by decide)
            · rw [pk_un hik] at h1; exact hab i (by omega) h1
        · refine bX3_workOutRuns_30 hX _ _ _ _ _ ?_
          refine bX3_workOutRuns_36 hX hrm hGX hOk ((h, k, fd + nI k, pa), u, (La, Ra, Rd), (wd, n, dw, lw), (f1, f2, f3), ll, (fp, Z, N, C)) (by decide) _ _ _ _ _ ⟨Nat.le_of_ble_eq_true rfl, ⟨h, [.inl (nI k), .inl (fd + nI k), .inr (.inr (some pa))], [30, u], _, rfl, hL1.1⟩, Nat.le_of_ble_eq_true rfl, Nat.le_of_ble_eq_true rfl, Nat.le_of_ble_eq_true rfl, ⟨rfl, by omega, hn, hL1, lt_mono hS1 (by simp [lnSc]) _ _ hlt, hst, hpl, plS_mono hS1 (by simp [lnSc]) hpS, ⟨_, tA1 k (by omega)⟩, ⟨_, tB1 k (by omega)⟩, _, t101⟩, ?_⟩
          rintro v g2 ⟨rfl, hS2, ⟨A2, hA2, eA⟩, ⟨B2, hB2, eB⟩, lb2, hlb2⟩ _
          refine bX3_workOutRuns_39 hX _ _ _ _ _ ?_
          refine pz_lsub (lv' := [(3, .inl (nI (k + 1))), (0, .inr (.inr (some h))), (1, .inl fd), (2, .inr (.inr (some pa)))]) ⟨ni_inc, rfl, rfl, rfl, trivial⟩ ?_
          refine ih (k + 1) (upd rn k (dw_run wd dl (fd + nI k))) (fun i => if i = k then A2 else A i) (fun i => if i = k then B2 else B i) _ (by omega) (hg_tr hS1 (hg_mono hS2 (fun b hb => ?_))) ⟨hS2 _ _ _ up_at (by simp), fun i hi => ?_, fun i hi => ?_, lb2, hlb2⟩ (fun i hi => ?_) (fun i hi h1 => ?_)
          · rcases hb with rfl | rfl | rfl
            · exact Or.inr (Or.inl ⟨_, rfl⟩)
            · exact Or.inr (Or.inr (Or.inl ⟨_, rfl⟩))
            · exact Or.inr (Or.inr (Or.inr rfl))
          · by_cases hik : i = k
            · subst hik; simp only [if_pos]; exact hA2
            · simp only [if_neg hik]; exact hS2 _ _ _ (tA1 i hi) (by simp [hik])
          · by_cases hik : i = k
            · subst hik; simp only [if_pos]; exact hB2
            · simp only [if_neg hik]; exact hS2 _ _ _ (tB1 i hi) (by simp [hik])
          · by_cases hik : i = k
            · subst hik; exact pk_us
            · rw [pk_un hik]; exact hr i (by omega)
          · by_cases hik : i = k
            · subst hik
              intro j hj
              simp only [if_pos]
              exact ⟨eA j hj, eB j hj⟩
            · simp only [if_neg hik]
              rw [pk_un hik] at h1
              exact hab i (by omega) h1
    refine bX3_workOutRuns_0 hX _ _ _ _ _ ?_
    exact loop 13 0 rn0 A0 B0 g (by omega) hg_rf hT0 (fun i hi => absurd hi (Nat.not_lt_zero i)) (fun i hi => absurd hi (Nat.not_lt_zero i))
end
section
/-! java.util.ArrayList: size, isEmpty, get -/
set_option maxRecDepth 20000 in
theorem bJx4a65c_size_8abf5_0 {X : pz_C} {rm : Room} {E : Option pz_V → pz_H → Prop} (hX : pz_X X cJx4a65c_size_8abf5 1 RJx4a65c) (hR : pz_Rt X cJx4a65c_size_8abf5 1 (some .int) rm E) : ∀ lv st g c s, (zo_al 1 0 (zo_get 1 2 (zo_ri rm E))) 0 lv st g c s → pz_Z X 1 0 lv st g c s := (zs_aload_n hX dJx4a65c_size_8abf5_0 rfl (zs_get hX (C := RJx4a65c) (T := TJx4a65c) (N := 3) rfl in_Jx4a65c (by decide) mw_259fe66e dJx4a65c_size_8abf5_1 (zs_ri hR dJx4a65c_size_8abf5_4)))
set_option maxRecDepth 20000 in
theorem bJx4a65c_isEmpty_aae02_0 {X : pz_C} (hX : pz_X X cJx4a65c_isEmpty_aae02 1 RJx4a65c) : ∀ lv st g c s, (zo_al 1 0 (zo_get 1 2 (zo_if_ne 11 (pz_Z X 1)))) 0 lv st g c s → pz_Z X 1 0 lv st g c s := (zs_aload_n hX dJx4a65c_isEmpty_aae02_0 rfl (zs_get hX (C := RJx4a65c) (T := TJx4a65c) (N := 3) rfl in_Jx4a65c (by decide) mw_259fe66e dJx4a65c_isEmpty_aae02_1 (zs_if_ne hX dJx4a65c_isEmpty_aae02_4 (by decide) (fun _ _ _ _ _ _ h => h))))
set_option maxRecDepth 20000 in
theorem bJx4a65c_isEmpty_aae02_7 {X : pz_C} (hX : pz_X X cJx4a65c_isEmpty_aae02 1 RJx4a65c) : ∀ lv st g c s, (zo_ic 1 (1) (zo_goto 12 (pz_Z X 1))) 7 lv st g c s → pz_Z X 1 7 lv st g c s := (zs_iconst hX dJx4a65c_isEmpty_aae02_7 (by decide) (zs_goto hX dJx4a65c_isEmpty_aae02_8 (by decide) (fun _ _ _ _ _ _ h => h)))
set_option maxRecDepth 20000 in
theorem bJx4a65c_isEmpty_aae02_11 {X : pz_C} (hX : pz_X X cJx4a65c_isEmpty_aae02 1 RJx4a65c) : ∀ lv st g c s, (zo_ic 1 (0) (pz_Z X 1)) 11 lv st g c s → pz_Z X 1 11 lv st g c s := (zs_iconst hX dJx4a65c_isEmpty_aae02_11 (by decide) (fun _ _ _ _ _ h => h))
set_option maxRecDepth 20000 in
theorem bJx4a65c_isEmpty_aae02_12 {X : pz_C} {rm : Room} {E : Option pz_V → pz_H → Prop} (hX : pz_X X cJx4a65c_isEmpty_aae02 1 RJx4a65c) (hR : pz_Rt X cJx4a65c_isEmpty_aae02 1 (some .boolean) rm E) : ∀ lv st g c s, (zo_rz rm E) 12 lv st g c s → pz_Z X 1 12 lv st g c s := (zs_rz hR dJx4a65c_isEmpty_aae02_12)
def rm_Jx4a65c_size_8abf5 : Room := { frames := 0, cells := 0, slots := 0, locals := 0 }
abbrev gt_Jx4a65c_size_8abf5 : Type := Nat × Int32
def pr_Jx4a65c_size_8abf5 : gt_Jx4a65c_size_8abf5 → List pz_V → pz_H → Prop := fun (a, k) av g => av = [.inr (.inr (some a))] ∧ ∃ b fs, g a = some (b, .inr (1, fs)) ∧ fs[2]? = some (.inl k)
def po_Jx4a65c_size_8abf5 : gt_Jx4a65c_size_8abf5 → List pz_V → pz_H → Option pz_V → pz_H → Prop := fun (_, k) _ g v g' => g' = g ∧ v = some (.inl k)
theorem ct_Jx4a65c_size_8abf5 {G : pz_Gx} (hOk : pz_OK G) (gh : gt_Jx4a65c_size_8abf5) : pz_M G yJx4a65c_size_8abf5 cJx4a65c_size_8abf5 1 (some .int) rm_Jx4a65c_size_8abf5 (pr_Jx4a65c_size_8abf5 gh) (po_Jx4a65c_size_8abf5 gh) := by
  obtain ⟨a, k⟩ := gh
  refine pz_ofZ (by decide) hOk.1 (Or.inr (Or.inl rfl)) ?_ ?_
  · rintro av g ⟨rfl, -⟩
    exact Nat.le_of_ble_eq_true rfl
  · rintro X hX hGX hrm - av g ⟨rfl, b, fs, hg, hf⟩ hR
    exact bJx4a65c_size_8abf5_0 hX hR _ _ _ _ _ ⟨_, _, _, hg, hf, Nat.le_refl _, Nat.le_refl _, rfl, rfl⟩
def rm_Jx4a65c_isEmpty_aae02 : Room := { frames := 0, cells := 0, slots := 0, locals := 0 }
abbrev gt_Jx4a65c_isEmpty_aae02 : Type := Nat × Int32
def pr_Jx4a65c_isEmpty_aae02 : gt_Jx4a65c_isEmpty_aae02 → List pz_V → pz_H → Prop := fun (a, k) av g => av = [.inr (.inr (some a))] ∧ ∃ b fs, g a = some (b, .inr (1, fs)) ∧ fs[2]? = some (.inl k)
def po_Jx4a65c_isEmpty_aae02 : gt_Jx4a65c_isEmpty_aae02 → List pz_V → pz_H → Option pz_V → pz_H → Prop := fun (_, k) _ g v g' => g' = g ∧ v = some (.inl (if k = 0 then 1 else 0))
theorem ct_Jx4a65c_isEmpty_aae02 {G : pz_Gx} (hOk : pz_OK G) (gh : gt_Jx4a65c_isEmpty_aae02) : pz_M G yJx4a65c_isEmpty_aae02 cJx4a65c_isEmpty_aae02 1 (some .boolean) rm_Jx4a65c_isEmpty_aae02 (pr_Jx4a65c_isEmpty_aae02 gh) (po_Jx4a65c_isEmpty_aae02 gh) := by
  obtain ⟨a, k⟩ := gh
  refine pz_ofZ (by decide) hOk.1 (Or.inr (Or.inr (Or.inl rfl))) ?_ ?_
  · rintro av g ⟨rfl, -⟩
    exact Nat.le_of_ble_eq_true rfl
  · rintro X hX hGX hrm - av g ⟨rfl, b, fs, hg, hf⟩ hR
    refine bJx4a65c_isEmpty_aae02_0 hX _ _ _ _ _ ⟨_, _, _, hg, hf, fun q => ?_, fun q => ?_⟩
    · refine bJx4a65c_isEmpty_aae02_11 hX _ _ _ _ _ ?_
      exact bJx4a65c_isEmpty_aae02_12 hX hR _ _ _ _ _ ⟨Or.inl rfl, Nat.le_refl _, Nat.le_refl _, rfl, by rw [if_neg q]⟩
    · refine bJx4a65c_isEmpty_aae02_7 hX _ _ _ _ _ ?_
      exact bJx4a65c_isEmpty_aae02_12 hX hR _ _ _ _ _ ⟨Or.inr rfl, Nat.le_refl _, Nat.le_refl _, rfl, by rw [if_pos q]⟩
set_option maxRecDepth 20000 in
theorem bJ3_checkIndex_8e157_0 {X : pz_C} (hX : pz_X X cJ3_checkIndex_8e157 3 RJ3) : ∀ lv st g c s, (zo_il 1 0 (zo_if_lt 9 (pz_Z X 3))) 0 lv st g c s → pz_Z X 3 0 lv st g c s := (zs_iload_n hX dJ3_checkIndex_8e157_0 rfl (zs_if_lt hX dJ3_checkIndex_8e157_1 (by decide) (fun _ _ _ _ _ _ h => h)))
set_option maxRecDepth 20000 in
theorem bJ3_checkIndex_8e157_4 {X : pz_C} (hX : pz_X X cJ3_checkIndex_8e157 3 RJ3) : ∀ lv st g c s, (zo_il 1 0 (zo_il 1 1 (zo_ic_lt 16 (pz_Z X 3)))) 4 lv st g c s → pz_Z X 3 4 lv st g c s := (zs_iload_n hX dJ3_checkIndex_8e157_4 rfl (zs_iload_n hX dJ3_checkIndex_8e157_5 rfl (zs_ic_lt hX dJ3_checkIndex_8e157_6 (by decide) (fun _ _ _ _ _ _ h => h))))
set_option maxRecDepth 20000 in
theorem bJ3_checkIndex_8e157_16 {X : pz_C} {rm : Room} {E : Option pz_V → pz_H → Prop} (hX : pz_X X cJ3_checkIndex_8e157 3 RJ3) (hR : pz_Rt X cJ3_checkIndex_8e157 3 (some .int) rm E) : ∀ lv st g c s, (zo_il 1 0 (zo_ri rm E)) 16 lv st g c s → pz_Z X 3 16 lv st g c s := (zs_iload_n hX dJ3_checkIndex_8e157_16 rfl (zs_ri hR dJ3_checkIndex_8e157_17))
def rm_J3_checkIndex_8e157 : Room := { frames := 0, cells := 0, slots := 0, locals := 0 }
abbrev gt_J3_checkIndex_8e157 : Type := Int32 × Int32
def pr_J3_checkIndex_8e157 : gt_J3_checkIndex_8e157 → List pz_V → pz_H → Prop := fun (i, n) av _ => av = [.inl i, .inl n, .inr (.inr none)] ∧ ¬ i < 0 ∧ i < n
def po_J3_checkIndex_8e157 : gt_J3_checkIndex_8e157 → List pz_V → pz_H → Option pz_V → pz_H → Prop := fun (i, _) _ g v g' => g' = g ∧ v = some (.inl i)
theorem ct_J3_checkIndex_8e157 {G : pz_Gx} (hOk : pz_OK G) (gh : gt_J3_checkIndex_8e157) : pz_M G yJ3_checkIndex_8e157 cJ3_checkIndex_8e157 3 (some .int) rm_J3_checkIndex_8e157 (pr_J3_checkIndex_8e157 gh) (po_J3_checkIndex_8e157 gh) := by
  obtain ⟨i, n⟩ := gh
  refine pz_ofZ (by decide) hOk.1 (Or.inr (Or.inl rfl)) ?_ ?_
  · rintro av g ⟨rfl, -⟩
    exact Nat.le_of_ble_eq_true rfl
  · rintro X hX hGX hrm - av g ⟨rfl, h0, h1⟩ hR
    refine bJ3_checkIndex_8e157_0 hX _ _ _ _ _ ⟨fun q => absurd q h0, fun _ => ?_⟩
    refine bJ3_checkIndex_8e157_4 hX _ _ _ _ _ ⟨fun _ => ?_, fun q => absurd h1 q⟩
    exact bJ3_checkIndex_8e157_16 hX hR _ _ _ _ _ ⟨Nat.le_refl _, Nat.le_refl _, rfl, rfl⟩
set_option maxRecDepth 20000 in
theorem bJ15_checkIndex_7cf53_0 {X : pz_C} (hX : pz_X X cJ15_checkIndex_7cf53 2 RJ15) : ∀ lv st g c s, (zo_il 1 0 (zo_il 1 1 (zo_null (pz_Z X 2)))) 0 lv st g c s → pz_Z X 2 0 lv st g c s := (zs_iload_n hX dJ15_checkIndex_7cf53_0 rfl (zs_iload_n hX dJ15_checkIndex_7cf53_1 rfl (zs_null hX dJ15_checkIndex_7cf53_2 (fun _ _ _ _ _ h => h))))
set_option maxRecDepth 20000 in
theorem bJ15_checkIndex_7cf53_3 {X : pz_C} {G : pz_Gx} {rm : Room} {E : Option pz_V → pz_H → Prop} (hX : pz_X X cJ15_checkIndex_7cf53 2 RJ15) (hR : pz_Rt X cJ15_checkIndex_7cf53 2 (some .int) rm E) (hrm : pz_rm X = rm) (hGX : pz_GX X G) (hOk : pz_OK G) (gh : gt_J3_checkIndex_8e157) (hr_J3_checkIndex_8e157 : rm_J3_checkIndex_8e157.frames + 1 ≤ rm.frames ∧ 8 + (3 + 11) + rm_J3_checkIndex_8e157.locals ≤ rm.locals) : ∀ lv st g c s, (zo_cs rm 3 3 rm_J3_checkIndex_8e157.cells rm_J3_checkIndex_8e157.slots (pr_J3_checkIndex_8e157 gh) (po_J3_checkIndex_8e157 gh) (zo_ki (zo_ri rm E))) 3 lv st g c s → pz_Z X 2 3 lv st g c s := by
  subst hrm
  exact (zs_csS hX hGX (ct_J3_checkIndex_8e157 hOk gh) mw_884ab548 mw_ed9ff974 mw_607d3767 mw_bd75b55b (by decide +kernel) hr_J3_checkIndex_8e157 dJ15_checkIndex_7cf53_3 (zs_ki (zs_ri hR dJ15_checkIndex_7cf53_6)))
set_option maxRecDepth 20000 in
theorem bJx4a65c_elementData_915e3_0 {X : pz_C} {rm : Room} {E : Option pz_V → pz_H → Prop} (hX : pz_X X cJx4a65c_elementData_915e3 2 RJx4a65c) (hR : pz_Rt X cJx4a65c_elementData_915e3 2 (some (.object "java/lang/Object")) rm E) : ∀ lv st g c s, (zo_al 1 0 (zo_get 1 1 (zo_il 1 1 (zo_aald 5 (zo_rr rm E))))) 0 lv st g c s → pz_Z X 2 0 lv st g c s := (zs_aload_n hX dJx4a65c_elementData_915e3_0 rfl (zs_get hX (C := RJx4a65c) (T := TJx4a65c) (N := 3) rfl in_Jx4a65c (by decide) mw_87e553ed dJx4a65c_elementData_915e3_1 (zs_iload_n hX dJx4a65c_elementData_915e3_4 rfl (zs_aald hX (ty := (.object "java/lang/Object")) (fun _ => rfl) rfl dJx4a65c_elementData_915e3_5 (zs_rr (by first | exact Or.inl ⟨_, rfl⟩ | exact Or.inr ⟨_, rfl⟩) hR dJx4a65c_elementData_915e3_6)))))
def rm_J15_checkIndex_7cf53 : Room := { frames := 1, cells := 0, slots := 0, locals := 22 }
abbrev gt_J15_checkIndex_7cf53 : Type := Int32 × Int32
def pr_J15_checkIndex_7cf53 : gt_J15_checkIndex_7cf53 → List pz_V → pz_H → Prop := fun (i, n) av _ => av = [.inl i, .inl n] ∧ ¬ i < 0 ∧ i < n
def po_J15_checkIndex_7cf53 : gt_J15_checkIndex_7cf53 → List pz_V → pz_H → Option pz_V → pz_H → Prop := fun (i, _) _ g v g' => g' = g ∧ v = some (.inl i)
theorem ct_J15_checkIndex_7cf53 {G : pz_Gx} (hOk : pz_OK G) (gh : gt_J15_checkIndex_7cf53) : pz_M G yJ15_checkIndex_7cf53 cJ15_checkIndex_7cf53 2 (some .int) rm_J15_checkIndex_7cf53 (pr_J15_checkIndex_7cf53 gh) (po_J15_checkIndex_7cf53 gh) := by
  obtain ⟨i, n⟩ := gh
  refine pz_ofZ (by decide) hOk.1 (Or.inr (Or.inl rfl)) ?_ ?_
  · rintro av g ⟨rfl, -⟩
    exact Nat.le_of_ble_eq_true rfl
  · rintro X hX hGX hrm - av g ⟨rfl, h0, h1⟩ hR
    refine bJ15_checkIndex_7cf53_0 hX _ _ _ _ _ ?_
    refine bJ15_checkIndex_7cf53_3 hX hR hrm hGX hOk (i, n) (by decide) _ _ _ _ _ ⟨Nat.le_of_ble_eq_true rfl, Nat.le_of_ble_eq_true rfl, Nat.le_of_ble_eq_true rfl, Nat.le_of_ble_eq_true rfl, ⟨rfl, h0, h1⟩, ?_⟩
    rintro v g' ⟨rfl, rfl⟩ x hx
    cases hx
    exact ⟨Nat.le_refl _, Nat.le_refl _, rfl, rfl⟩
def rm_Jx4a65c_elementData_915e3 : Room := { frames := 0, cells := 0, slots := 0, locals := 0 }
abbrev gt_Jx4a65c_elementData_915e3 : Type := Nat × Nat × Nat × Nat × (Nat → Option Nat)
def pr_Jx4a65c_elementData_915e3 : gt_Jx4a65c_elementData_915e3 → List pz_V → pz_H → Prop := fun (a, i, e, cap, o) av g => av = [.inr (.inr (some a)), .inl (nI i)] ∧ i < cap ∧ cap ≤ 100000 ∧ ∃ b fs b2, g a = some (b, .inr (1, fs)) ∧ fs[1]? = some (.inr (.inr (some e))) ∧ g e = some (b2, ar_r 5 cap o)
def po_Jx4a65c_elementData_915e3 : gt_Jx4a65c_elementData_915e3 → List pz_V → pz_H → Option pz_V → pz_H → Prop := fun (_, i, _, _, o) _ g v g' => g' = g ∧ v = some (.inr (.inr (o i)))
theorem ct_Jx4a65c_elementData_915e3 {G : pz_Gx} (hOk : pz_OK G) (gh : gt_Jx4a65c_elementData_915e3) : pz_M G yJx4a65c_elementData_915e3 cJx4a65c_elementData_915e3 2 (some (.object "java/lang/Object")) rm_Jx4a65c_elementData_915e3 (pr_Jx4a65c_elementData_915e3 gh) (po_Jx4a65c_elementData_915e3 gh) := by
  obtain ⟨a, i, e, cap, o⟩ := gh
  refine pz_ofZ (by decide) hOk.1 (Or.inr (Or.inr (Or.inr (Or.inr (Or.inl ⟨_, rfl⟩))))) ?_ ?_
  · rintro av g ⟨rfl, -⟩
    exact Nat.le_of_ble_eq_true rfl
  · rintro X hX hGX hrm - av g ⟨rfl, hi, hc, b, fs, b2, hg, hf, he⟩ hR
    refine bJx4a65c_elementData_915e3_0 hX hR _ _ _ _ _ ⟨_, _, _, hg, hf, _, _, _, he, ni_in hi (by omega), Nat.le_refl _, Nat.le_refl _, rfl, ?_⟩
    rw [ni_cl (by omega)]
set_option maxRecDepth 20000 in
theorem bJx4a65c_get_915e3_0 {X : pz_C} (hX : pz_X X cJx4a65c_get_915e3 2 RJx4a65c) : ∀ lv st g c s, (zo_il 1 1 (zo_al 1 0 (zo_get 1 2 (pz_Z X 2)))) 0 lv st g c s → pz_Z X 2 0 lv st g c s := (zs_iload_n hX dJx4a65c_get_915e3_0 rfl (zs_aload_n hX dJx4a65c_get_915e3_1 rfl (zs_get hX (C := RJx4a65c) (T := TJx4a65c) (N := 3) rfl in_Jx4a65c (by decide) mw_259fe66e dJx4a65c_get_915e3_2 (fun _ _ _ _ _ h => h))))
set_option maxRecDepth 20000 in
theorem bJx4a65c_get_915e3_5 {X : pz_C} {G : pz_Gx} {rm : Room} (hX : pz_X X cJx4a65c_get_915e3 2 RJx4a65c) (hrm : pz_rm X = rm) (hGX : pz_GX X G) (hOk : pz_OK G) (gh : gt_J15_checkIndex_7cf53) (hr_J15_checkIndex_7cf53 : rm_J15_checkIndex_7cf53.frames + 1 ≤ rm.frames ∧ 8 + (2 + 11) + rm_J15_checkIndex_7cf53.locals ≤ rm.locals) : ∀ lv st g c s, (zo_cs rm 2 3 rm_J15_checkIndex_7cf53.cells rm_J15_checkIndex_7cf53.slots (pr_J15_checkIndex_7cf53 gh) (po_J15_checkIndex_7cf53 gh) (zo_ki (zo_pop (zo_al 1 0 (zo_il 1 1 (pz_Z X 2)))))) 5 lv st g c s → pz_Z X 2 5 lv st g c s := by
  subst hrm
  exact (zs_csS hX hGX (ct_J15_checkIndex_7cf53 hOk gh) mw_f8cecb24 mw_1dff5b38 mw_9f309c20 mw_c3226dac (by decide +kernel) hr_J15_checkIndex_7cf53 dJx4a65c_get_915e3_5 (zs_ki (zs_pop hX dJx4a65c_get_915e3_8 (zs_aload_n hX dJx4a65c_get_915e3_9 rfl (zs_iload_n hX dJx4a65c_get_915e3_10 rfl (fun _ _ _ _ _ h => h))))))
set_option maxRecDepth 20000 in
theorem bJx4a65c_get_915e3_11 {X : pz_C} {G : pz_Gx} {rm : Room} {E : Option pz_V → pz_H → Prop} (hX : pz_X X cJx4a65c_get_915e3 2 RJx4a65c) (hR : pz_Rt X cJx4a65c_get_915e3 2 (some (.object "java/lang/Object")) rm E) (hrm : pz_rm X = rm) (hGX : pz_GX X G) (hOk : pz_OK G) (gh : gt_Jx4a65c_elementData_915e3) (hr_Jx4a65c_elementData_915e3 : rm_Jx4a65c_elementData_915e3.frames + 1 ≤ rm.frames ∧ 8 + (2 + 11) + rm_Jx4a65c_elementData_915e3.locals ≤ rm.locals) : ∀ lv st g c s, (zo_cV rm 1 1 3 rm_Jx4a65c_elementData_915e3.cells rm_Jx4a65c_elementData_915e3.slots (pr_Jx4a65c_elementData_915e3 gh) (po_Jx4a65c_elementData_915e3 gh) (zo_kr (zo_rr rm E))) 11 lv st g c s → pz_Z X 2 11 lv st g c s := by
  subst hrm
  exact (zs_csV hX hGX (C := RJx4a65c) (T := TJx4a65c) (N := 3) rfl (ct_Jx4a65c_elementData_915e3 hOk gh) mw_4616b041 mw_56576ae4 mw_cc99cf04 mw_dd3bf01c mw_b1fefb9e (by decide +kernel) hr_Jx4a65c_elementData_915e3 dJx4a65c_get_915e3_11 (zs_kr (by first | exact Or.inl ⟨_, rfl⟩ | exact Or.inr ⟨_, rfl⟩) (zs_rr (by first | exact Or.inl ⟨_, rfl⟩ | exact Or.inr ⟨_, rfl⟩) hR dJx4a65c_get_915e3_14)))
/-- a list of objects: how many, and where -/
def lsS (g : pz_H) (la : Nat) (bl be : List Nat) (n : Nat) (hl : Nat → Nat) : Prop := n ≤ 100000 ∧ ∃ mc ed, g la = some (bl, .inr (1, [.inl mc, .inr (.inr ed), .inl (nI n)])) ∧ (0 < n → ∃ e cap o, ed = some e ∧ g e = some (be, ar_r 5 cap o) ∧ n ≤ cap ∧ cap ≤ 100000 ∧ ∀ i, i < n → o i = some (hl i))
theorem lsS_mono {g g' : pz_H} {S : List Nat → Prop} (hh : hg S g g') {la n : Nat} {bl be : List Nat} {hl : Nat → Nat} (hS : ¬ S bl ∧ ¬ S be) (h : lsS g la bl be n hl) : lsS g' la bl be n hl := by
  obtain ⟨h0, mc, ed, h1, h2⟩ := h
  refine ⟨h0, mc, ed, hh _ _ _ h1 hS.1, fun hn => ?_⟩
  obtain ⟨e, cap, o, a1, a2, a3⟩ := h2 hn
  exact ⟨e, cap, o, a1, hh _ _ _ a2 hS.2, a3⟩
def rm_Jx4a65c_get_915e3 : Room := { frames := 2, cells := 0, slots := 0, locals := 43 }
abbrev gt_Jx4a65c_get_915e3 : Type := Nat × Nat × List Nat × List Nat × Nat × (Nat → Nat)
def pr_Jx4a65c_get_915e3 : gt_Jx4a65c_get_915e3 → List pz_V → pz_H → Prop := fun (a, i, bl, be, n, hl) av g => av = [.inr (.inr (some a)), .inl (nI i)] ∧ i < n ∧ lsS g a bl be n hl
def po_Jx4a65c_get_915e3 : gt_Jx4a65c_get_915e3 → List pz_V → pz_H → Option pz_V → pz_H → Prop := fun (_, i, _, _, _, hl) _ g v g' => g' = g ∧ v = some (.inr (.inr (some (hl i))))
set_option maxRecDepth 20000 in
theorem ct_Jx4a65c_get_915e3 {G : pz_Gx} (hOk : pz_OK G) (gh : gt_Jx4a65c_get_915e3) : pz_M G yJx4a65c_get_915e3 cJx4a65c_get_915e3 2 (some (.object "java/lang/Object")) rm_Jx4a65c_get_915e3 (pr_Jx4a65c_get_915e3 gh) (po_Jx4a65c_get_915e3 gh) := by
  obtain ⟨a, i, bl, be, n, hl⟩ := gh
  refine pz_ofZ (by decide) hOk.1 (Or.inr (Or.inr (Or.inr (Or.inr (Or.inl ⟨_, rfl⟩))))) ?_ ?_
  · rintro av g ⟨rfl, -⟩
    exact Nat.le_of_ble_eq_true rfl
  · rintro X hX hGX hrm - av g ⟨rfl, hi, h0, mc, ed, hg, h2⟩ hR
    obtain ⟨e, cap, o, rfl, he, hc1, hc2, ho⟩ := h2 (by omega)
    refine bJx4a65c_get_915e3_0 hX _ _ _ _ _ ⟨_, _, _, hg, rfl, ?_⟩
    refine bJx4a65c_get_915e3_5 hX hrm hGX hOk (nI i, nI n) (by decide) _ _ _ _ _ ⟨Nat.le_of_ble_eq_true rfl, Nat.le_of_ble_eq_true rfl, Nat.le_of_ble_eq_true rfl, Nat.le_of_ble_eq_true rfl, ⟨rfl, nI_pos (by omega), (ni_lt (by omega) (by omega)).mpr hi⟩, ?_⟩
    rintro v g' ⟨rfl, rfl⟩ x hx
    cases hx
    refine ⟨rfl, ?_⟩
    refine bJx4a65c_get_915e3_11 hX hR hrm hGX hOk (a, i, e, cap, o) (by decide) _ _ _ _ _ ⟨Nat.le_of_ble_eq_true rfl, ⟨a, [.inl (nI i)], bl, _, rfl, hg⟩, Nat.le_of_ble_eq_true rfl, Nat.le_of_ble_eq_true rfl, Nat.le_of_ble_eq_true rfl, ⟨rfl, by omega, hc2, bl, _, be, hg, rfl, he⟩, ?_⟩
    rintro v g2 ⟨rfl, rfl⟩ x hx
    cases hx
    exact ⟨Nat.le_refl _, Nat.le_refl _, rfl, by rw [ho i hi]⟩
end
section
/-! LineTimes$Net: its own cells -/
def ntS (g : pz_H) (nt la pa na sa : Nat) (fd : Int32) (Wa : Nat → Nat) : Prop := g nt = some ([1], .inr (6, [.inr (.inr (some la)), .inr (.inr (some pa)), .inr (.inr (some na)), .inr (.inr (some sa)), .inl fd])) ∧ ∃ o, g na = some ([10], ar_r 6 7 o) ∧ ∀ i, i < 7 → o i = some (Wa i)
theorem ntS_mono {g g' : pz_H} {S : List Nat → Prop} (hh : hg S g g') {nt la pa na sa : Nat} {fd : Int32} {Wa : Nat → Nat} (hS : ¬ S [1] ∧ ¬ S [10]) (h : ntS g nt la pa na sa fd Wa) : ntS g' nt la pa na sa fd Wa := by
  obtain ⟨h1, o, h2, h3⟩ := h
  exact ⟨hh _ _ _ h1 hS.1, o, hh _ _ _ h2 hS.2, h3⟩
/-- may a run be entered at a place reached at w with lb legs, changing in c, when it leaves at l -/
def nt_ce (w : Int32) (lb : Nat) (c l : Int32) : Bool := if w = 2147483647 then false else decide ((if lb = 0 then w else w + c) ≤ l)
set_option maxRecDepth 20000 in
theorem bX4_canEnter_0 {X : pz_C} (hX : pz_X X cX4_canEnter 5 RX4) : ∀ lv st g c s, (zo_al 1 0 (zo_get 6 2 (zo_il 1 3 (zo_aald 6 (zo_il 1 1 (zo_iald (zo_is 2 4 (zo_il 2 4 (zo_ic 2 (2147483647) (zo_ic_ne 19 (pz_Z X 5))))))))))) 0 lv st g c s → pz_Z X 5 0 lv st g c s := (zs_aload_n hX dX4_canEnter_0 rfl (zs_get hX (C := RX4) (T := TX4) (N := 5) rfl in_X4 (by decide) mw_e3f537a3 dX4_canEnter_1 (zs_iload_n hX dX4_canEnter_4 rfl (zs_aald hX (ty := (.array .int)) (fun _ => rfl) rfl dX4_canEnter_5 (zs_iload_n hX dX4_canEnter_6 rfl (zs_iald hX dX4_canEnter_7 (zs_istore hX dX4_canEnter_8 (by decide) (zs_iload hX dX4_canEnter_10 (zs_ldc hX dX4_canEnter_12 mw_9b89bef2 (zs_ic_ne hX dX4_canEnter_14 (by decide) (fun _ _ _ _ _ _ h => h)))))))))))
set_option maxRecDepth 20000 in
theorem bX4_canEnter_17 {X : pz_C} {rm : Room} {E : Option pz_V → pz_H → Prop} (hX : pz_X X cX4_canEnter 5 RX4) (hR : pz_Rt X cX4_canEnter 5 (some .boolean) rm E) : ∀ lv st g c s, (zo_ic 1 (0) (zo_rz rm E)) 17 lv st g c s → pz_Z X 5 17 lv st g c s := (zs_iconst hX dX4_canEnter_17 (by decide) (zs_rz hR dX4_canEnter_18))
set_option maxRecDepth 20000 in
theorem bX4_canEnter_19 {X : pz_C} (hX : pz_X X cX4_canEnter 5 RX4) : ∀ lv st g c s, (zo_il 1 2 (zo_il 1 3 (zo_if_ne 29 (pz_Z X 5)))) 19 lv st g c s → pz_Z X 5 19 lv st g c s := (zs_iload_n hX dX4_canEnter_19 rfl (zs_iload_n hX dX4_canEnter_20 rfl (zs_if_ne hX dX4_canEnter_21 (by decide) (fun _ _ _ _ _ _ h => h))))
set_option maxRecDepth 20000 in
theorem bX4_canEnter_24 {X : pz_C} (hX : pz_X X cX4_canEnter 5 RX4) : ∀ lv st g c s, (zo_il 2 4 (zo_goto 41 (pz_Z X 5))) 24 lv st g c s → pz_Z X 5 24 lv st g c s := (zs_iload hX dX4_canEnter_24 (zs_goto hX dX4_canEnter_26 (by decide) (fun _ _ _ _ _ _ h => h)))
set_option maxRecDepth 20000 in
theorem bX4_canEnter_29 {X : pz_C} (hX : pz_X X cX4_canEnter 5 RX4) : ∀ lv st g c s, (zo_il 2 4 (zo_al 1 0 (zo_get 6 1 (zo_il 1 1 (zo_aald 4 (zo_get 7 2 (zo_iadd (pz_Z X 5)))))))) 29 lv st g c s → pz_Z X 5 29 lv st g c s := (zs_iload hX dX4_canEnter_29 (zs_aload_n hX dX4_canEnter_31 rfl (zs_get hX (C := RX4) (T := TX4) (N := 5) rfl in_X4 (by decide) mw_41e0f833 dX4_canEnter_32 (zs_iload_n hX dX4_canEnter_35 rfl (zs_aald hX (ty := (.object "LineTimes$Place")) (fun _ => rfl) rfl dX4_canEnter_36 (zs_get hX (C := RX5) (T := TX5) (N := 3) rfl in_X5 (by decide) mw_a7a2a259 dX4_canEnter_37 (zs_iadd hX dX4_canEnter_40 (fun _ _ _ _ _ h => h))))))))
set_option maxRecDepth 20000 in
theorem bX4_canEnter_41 {X : pz_C} (hX : pz_X X cX4_canEnter 5 RX4) : ∀ lv st g c s, (zo_ic_lt 48 (pz_Z X 5)) 41 lv st g c s → pz_Z X 5 41 lv st g c s := (zs_ic_lt hX dX4_canEnter_41 (by decide) (fun _ _ _ _ _ _ h => h))
set_option maxRecDepth 20000 in
theorem bX4_canEnter_44 {X : pz_C} (hX : pz_X X cX4_canEnter 5 RX4) : ∀ lv st g c s, (zo_ic 1 (1) (zo_goto 49 (pz_Z X 5))) 44 lv st g c s → pz_Z X 5 44 lv st g c s := (zs_iconst hX dX4_canEnter_44 (by decide) (zs_goto hX dX4_canEnter_45 (by decide) (fun _ _ _ _ _ _ h => h)))
set_option maxRecDepth 20000 in
theorem bX4_canEnter_48 {X : pz_C} (hX : pz_X X cX4_canEnter 5 RX4) : ∀ lv st g c s, (zo_ic 1 (0) (pz_Z X 5)) 48 lv st g c s → pz_Z X 5 48 lv st g c s := (zs_iconst hX dX4_canEnter_48 (by decide) (fun _ _ _ _ _ h => h))
set_option maxRecDepth 20000 in
theorem bX4_canEnter_49 {X : pz_C} {rm : Room} {E : Option pz_V → pz_H → Prop} (hX : pz_X X cX4_canEnter 5 RX4) (hR : pz_Rt X cX4_canEnter 5 (some .boolean) rm E) : ∀ lv st g c s, (zo_rz rm E) 49 lv st g c s → pz_Z X 5 49 lv st g c s := (zs_rz hR dX4_canEnter_49)
def rm_X4_canEnter : Room := { frames := 0, cells := 0, slots := 0, locals := 0 }
abbrev gt_X4_canEnter : Type := (Nat × Nat × Int32 × Nat) × (Nat × Nat × Nat × Nat) × Int32 × (Nat → Nat) × (Nat → Int32) × ((Nat → Nat) × (Nat → List (Int32 × Int32)) × (Nat → Int32) × (Nat → Int32))
def pr_X4_canEnter : gt_X4_canEnter → List pz_V → pz_H → Prop := fun ((nt, p, l, lb), (la, pa, na, sa), fd, Wa, w, (fp, Z, N, C)) av g => av = [.inr (.inr (some nt)), .inl (nI p), .inl l, .inl (nI lb)] ∧ p < 100 ∧ lb < 7 ∧ ntS g nt la pa na sa fd Wa ∧ g (Wa lb) = some ([11, lb], ar_i 100 w) ∧ plS g pa fp Z N C
def po_X4_canEnter : gt_X4_canEnter → List pz_V → pz_H → Option pz_V → pz_H → Prop := fun ((_, p, l, lb), _, _, _, w, (_, _, _, C)) _ g v g' => g' = g ∧ v = some (.inl (if nt_ce (w p) lb (C p) l = true then 1 else 0))
set_option maxRecDepth 20000 in
theorem ct_X4_canEnter {G : pz_Gx} (hOk : pz_OK G) (gh : gt_X4_canEnter) : pz_M G yX4_canEnter cX4_canEnter 5 (some .boolean) rm_X4_canEnter (pr_X4_canEnter gh) (po_X4_canEnter gh) := by
  obtain ⟨⟨nt, p, l, lb⟩, ⟨la, pa, na, sa⟩, fd, Wa, w, fp, Z, N, C⟩ := gh
  refine pz_ofZ (by decide) hOk.1 (Or.inr (Or.inr (Or.inl rfl))) ?_ ?_
  · rintro av g ⟨rfl, -⟩
    exact Nat.le_of_ble_eq_true rfl
  · rintro X hX hGX hrm - av g ⟨rfl, hp, hlb, ⟨hn, o, hna, ho⟩, hw, ⟨op, hpa, hop⟩, hpp⟩ hR
    obtain ⟨r, hpl1, -⟩ := hpp p hp
    have hpc : (nI p).toNatClampNeg = p := ni_cl (by omega)
    have fin : ∀ (lim : Int32) (lv : pz_L), (if nt_ce (w p) lb (C p) l = true then (1 : Int32) else 0) = (if lim ≤ l then 1 else 0) → pz_Z X 5 41 lv [.inl lim, .inl l] g 0 0 := by
      intro lim lv he
      refine bX4_canEnter_41 hX _ _ _ _ _ ⟨fun q => ?_, fun q => ?_⟩
      · refine bX4_canEnter_48 hX _ _ _ _ _ ?_
        exact bX4_canEnter_49 hX hR _ _ _ _ _ ⟨Or.inl rfl, Nat.le_refl _, Nat.le_refl _, rfl, by rw [he, if_neg (Int32.not_le.mpr q)]⟩
      · refine bX4_canEnter_44 hX _ _ _ _ _ ?_
        exact bX4_canEnter_49 hX hR _ _ _ _ _ ⟨Or.inr rfl, Nat.le_refl _, Nat.le_refl _, rfl, by rw [he, if_pos (Int32.not_lt.mp q)]⟩
    refine bX4_canEnter_0 hX _ _ _ _ _ ⟨_, _, _, hn, rfl, _, _, _, hna, ni_in hlb (by omega), ?_⟩
    rw [ni_cl (by omega), ho lb hlb]
    refine ⟨_, _, _, hw, ni_in hp (by omega), ?_⟩
    rw [hpc]
    refine ⟨fun q => ?_, fun q => ?_⟩
    · refine bX4_canEnter_19 hX _ _ _ _ _ ⟨fun q2 => ?_, fun q2 => ?_⟩
      · have hl0 : lb ≠ 0 := fun z => q2 (by rw [z]; exact nI_0)
        refine bX4_canEnter_29 hX _ _ _ _ _ ⟨_, _, _, hn, rfl, _, _, _, hpa, ni_in hp (by omega), ?_⟩
        rw [hpc, hop p hp]
        refine ⟨_, _, _, hpl1, rfl, ?_⟩
        refine fin _ _ ?_
        simp only [nt_ce, if_neg q, if_neg hl0, decide_eq_true_eq]
      · have hl0 : lb = 0 := ni_inj (by omega) (by omega) (q2.trans nI_0.symm)
        refine bX4_canEnter_24 hX _ _ _ _ _ ?_
        refine fin _ _ ?_
        simp only [nt_ce, if_neg q, if_pos hl0, decide_eq_true_eq]
    · refine bX4_canEnter_17 hX hR _ _ _ _ _ ⟨Or.inl rfl, Nat.le_refl _, Nat.le_refl _, rfl, ?_⟩
      simp only [nt_ce, if_pos q]
      rfl
end
section
/-- arrays of arrays: the word that new int[n][m] wants -/
def va_AOA (t : FieldType) (U : State) : Prop := (Cond.arrayOver (.array t)).before #[] U = true
theorem va_AOA.use {t : FieldType} {A : Array Value} {U : State} (h : va_AOA t U) : (Cond.arrayOver (.array t)).before A U = true := h
/-! ===== BEGIN new T[n][m]: the outer array a place, the inner ones among the pooled ===== -/
/-- f, but v at every address of l -/
def vr_up {α : Type} (f : Nat → α) (l : List Nat) (v : α) : Nat → α := fun a => if a ∈ l then v else f a
theorem vr_up_in {α : Type} {f : Nat → α} {l : List Nat} {v : α} {a : Nat} (h : a ∈ l) : vr_up f l v a = v := if_pos h
theorem vr_up_ne {α : Type} {f : Nat → α} {l : List Nat} {v : α} {a : Nat} (h : a ∉ l) : vr_up f l v a = f a := if_neg h
theorem vr_rows {L l : List Nat} {f : Nat → va_E} {e : va_E} (h : ∀ a, a ∈ l → a ∉ L) : va_pl L f ++ l.map (fun a => (a, e)) = va_pl (L ++ l) (vr_up f l e) := by
  unfold va_pl
  rw [List.map_append]
  congr 1
  · apply List.map_congr_left
    intro a ha
    rw [vr_up_ne (fun q => h a q ha)]
  · apply List.map_congr_left
    intro a ha
    rw [vr_up_in ha]
theorem vr_lay {X rows : va_W} {x : Nat × va_E} {pl : va_W} {D : va_G} {cl : List vw_C} {H : Heap} (hP : va_P D cl (((X ++ pl) ++ [x]) ++ rows) H) : va_P D cl ((X ++ [x]) ++ (pl ++ rows)) H := by
  rw [List.append_assoc (X ++ pl)] at hP
  have h := va_P.swap hP
  rw [← List.append_assoc X] at h
  have h2 := va_P.swap h
  rw [List.append_assoc (X ++ [x])] at h2
  exact h2
theorem vr_layD {X rows : va_W} {x : Nat × va_E} {pl : va_W} {A : Nat → Prop} (hD : va_D A (((X ++ pl) ++ [x]) ++ rows)) : va_D A ((X ++ [x]) ++ (pl ++ rows)) := by
  rw [List.append_assoc (X ++ pl)] at hD
  have h := va_D.swap hD
  rw [← List.append_assoc X] at h
  have h2 := va_D.swap h
  rw [List.append_assoc (X ++ [x])] at h2
  exact h2
theorem vr_outer (c : ClassId) (N h0 : Nat) : ∀ i : Nat, Jvm.Free.Multi.outerC c N h0 i = arrV c N (fun j => va_rf (if j < i then some (h0 + 1 + j) else none))
  | 0 => by
    show ({ cls := c, slots := Array.replicate N .null, vm := .none } : Cell) = _
    rw [arrV_new]
    refine congrArg (arrV c N) (funext fun j => ?_)
    simp [va_rf]
  | i + 1 => by
    show (Jvm.Free.Multi.outerC c N h0 i).setSlot i (.ref (h0 + 1 + i)) = _
    rw [vr_outer c N h0 i, arrV_store]
    refine congrArg (arrV c N) (funext fun j => ?_)
    by_cases e : j = i
    · subst e
      simp [updV, va_rf]
    · by_cases h : j < i
      · simp [updV, e, h, Nat.lt_succ_of_lt h]
      · simp [updV, e, h, show ¬ j < i + 1 by omega]
section VGM
variable {p : Program} {l : Launch} {e : Env} {R : Room} {s : State} {m : MethodId} {args : Array Value} {below : List Frame} {meth : Method} {c : Code} {H : Heap} {locs : List Loc} {cells slots : Nat} {Q : State → Prop}
variable {cc : ByteArray} {pc : Nat} {ls : Array Slot} {rest : List Value} {D : va_G} {cl : List vw_C} {A : Nat → Prop} {a : Nat} {tys : List (ClassId × FieldType)} {ws : va_W} {H0 : Heap}
theorem va_mna {X : va_W} {L : List Nat} {f : Nat → va_E} {cc : ByteArray} (hexec : p.tables.exec = Jvm.exec) (hb : c.code = cc) {own : String} {index : Nat} {ty : FieldType} {cy : ClassId} (hown : s.vm.findClass own = some m.cls) (hclink : (Cond.classLink own index ("[" ++ (FieldType.array ty).toString)).before args s = true) (hover : va_AOA ty s) (harr : (Cond.arrayClass ty).before args s = true) (hcy : s.vm.findClass (FieldType.array ty).toString = some cy)
    (hK : va_K D cl tys s) (hP : va_P D cl (X ++ va_pl L f) H) (hD : va_D A (X ++ va_pl L f)) (hS : va_S A H0 H locs) (hA : ∀ q, H0.size ≤ q → A q) {n k : Int32} {N' K' : Nat} {z : vp_A} (hn : ¬ n < 0) (hk : ¬ k < 0) (hN : n.toNatClampNeg = N') (hM : k.toNatClampNeg = K')
    (hb1 : N' * 4 ≤ 536870912) (hb2 : K' * componentBytes ty ≤ 536870912) (hb3 : K' ≤ 536870912) (hdf : fits ty (defaultValue ty) = true) (hdd : (defaultValue ty).isDefault = true) (hcells : cells + (1 + N') ≤ R.cells) (hslots : slots + (N' + N' * K') ≤ R.slots) (hz : ∀ c : ClassId, Jvm.Free.Multi.innerC c K' (defaultValue ty) = vp_cell c z) (hdg : decode cc pc = .ok (.multianewarray index 2, 4))
    (kk : ∀ (q : Nat) (r : Nat → Nat) (cA : ClassId) (H1 : Heap), (∀ i j : Nat, i < N' → j < N' → r i = r j → i = j) → (∀ i : Nat, i < N' → r i ∉ L) → va_K D cl (tys ++ [(cA, .array ty)]) s →
      va_P D cl ((X ++ [(q, .inl (cA, N', .inr (.inr (.inr (.inr (fun i => if i < N' then some (r i) else none))))))]) ++ va_pl (L ++ (List.range N').map r) (vr_up f ((List.range N').map r) (.inl (cy, z)))) H1 → va_D A ((X ++ [(q, .inl (cA, N', .inr (.inr (.inr (.inr (fun i => if i < N' then some (r i) else none))))))]) ++ va_pl (L ++ (List.range N').map r) (vr_up f ((List.range N').map r) (.inl (cy, z)))) → va_S A H0 H1 locs →
      W p l e R s m args below meth c H1 locs (cells + 1 + N') (slots + N' + N' * K') Q (F0 m (pc + 4) ls (.ref q :: rest))) : W p l e R s m args below meth c H locs cells slots Q (F0 m pc ls (.int k :: .int n :: rest)) := by
  subst hN
  subst hM
  intro T hT Xs
  obtain ⟨vm₁, cA, comp, -, fA, fC, hO, -, X', step⟩ := Xs.multianewarray2F hexec hown hclink (va_AOA.use hover) harr (g := F0 m pc ls (.int k :: .int n :: rest)) rfl (by rw [hb]; exact hdg) rfl hn hk hb1 hb2 hb3 hdf hdd hcells hslots
  have ec : some cy = some comp := hcy.symm.trans fC
  cases ec
  generalize hF : Jvm.Free.Multi.fill (T.setVm vm₁) cA cy n.toNatClampNeg k.toNatClampNeg (defaultValue ty) n.toNatClampNeg = F at X' step
  have hTh : (T.setVm vm₁).heap = H := hT
  obtain ⟨f1, f2, -, -⟩ := Jvm.Free.Multi.fill_facts (T.setVm vm₁) cA cy n.toNatClampNeg k.toNatClampNeg (defaultValue ty) n.toNatClampNeg
  rw [hF, hTh] at f1 f2
  have hold : ∀ x : Nat, x < H.size → F.heap[x]? = H[x]? := fun x hx => by
    have := Jvm.Free.Multi.fill_old (T.setVm vm₁) cA cy n.toNatClampNeg k.toNatClampNeg (defaultValue ty) (a := x) (by rw [hTh]; exact hx) n.toNatClampNeg
    rw [hF, hTh] at this
    exact this
  have hrow : ∀ j : Nat, j < n.toNatClampNeg → F.heap[H.size + 1 + j]? = some (vp_cell cy z) := fun j hj => by
    have := Jvm.Free.Multi.fill_inner (T.setVm vm₁) cA cy n.toNatClampNeg k.toNatClampNeg (defaultValue ty) n.toNatClampNeg j hj
    rw [hF, hTh, hz] at this
    exact this
  have hout : Jvm.Free.Multi.outerC cA n.toNatClampNeg H.size n.toNatClampNeg = vp_cell cA (n.toNatClampNeg, .inr (.inr (.inr (.inr (fun i => if i < n.toNatClampNeg then some (H.size + 1 + i) else none))))) := by
    rw [vp_cell_q]
    exact vr_outer cA n.toNatClampNeg H.size n.toNatClampNeg
  rw [hout] at f2
  have hlt : ∀ a, a ∈ L → a < H.size := fun a ha => by
    obtain ⟨k9, hk9⟩ := va_pl_get (X := X) (f := f) ha
    exact (hP k9 _ hk9).lt
  have hnl : ∀ i : Nat, i < n.toNatClampNeg → H.size + 1 + i ∉ L := fun i _ h => by
    have := hlt _ h
    omega
  have hnm : ∀ a, a ∈ (List.range n.toNatClampNeg).map (fun i => H.size + 1 + i) → a ∉ L := fun a ha h => by
    obtain ⟨i, -, rfl⟩ := List.mem_map.mp ha
    have := hlt _ h
    omega
  have hP0 : va_P D cl (X ++ va_pl L f) F.heap := hP.kept (fun k9 x hx => hold x.1 ((hP k9 x hx).lt))
  have hP1 : va_P D cl ((X ++ va_pl L f) ++ [(H.size, .inl (cA, n.toNatClampNeg, .inr (.inr (.inr (.inr (fun i => if i < n.toNatClampNeg then some (H.size + 1 + i) else none))))))]) F.heap := hP0.app (fun k9 x hx => by
    have h0 : k9 < 1 := (List.getElem?_eq_some_iff.mp hx).1
    rw [show k9 = 0 by omega] at hx
    cases hx
    exact f2)
  have hP2 : va_P D cl (((X ++ va_pl L f) ++ [(H.size, .inl (cA, n.toNatClampNeg, .inr (.inr (.inr (.inr (fun i => if i < n.toNatClampNeg then some (H.size + 1 + i) else none))))))]) ++ ((List.range n.toNatClampNeg).map (fun i => H.size + 1 + i)).map (fun a => (a, .inl (cy, z)))) F.heap := hP1.app (fun k9 x hx => by
    obtain ⟨a, ha, rfl⟩ := List.mem_map.mp (List.mem_of_getElem? hx)
    obtain ⟨i, hi, rfl⟩ := List.mem_map.mp ha
    exact hrow i (List.mem_range.mp hi))
  have hD2 : va_D A (((X ++ va_pl L f) ++ [(H.size, .inl (cA, n.toNatClampNeg, .inr (.inr (.inr (.inr (fun i => if i < n.toNatClampNeg then some (H.size + 1 + i) else none))))))]) ++ ((List.range n.toNatClampNeg).map (fun i => H.size + 1 + i)).map (fun a => (a, .inl (cy, z)))) := by
    have hD1 := hD.push (e := .inl (cA, n.toNatClampNeg, .inr (.inr (.inr (.inr (fun i => if i < n.toNatClampNeg then some (H.size + 1 + i) else none)))))) hP rfl (hA _ hS.1)
    generalize hW1 : (X ++ va_pl L f) ++ [(H.size, .inl (cA, n.toNatClampNeg, .inr (.inr (.inr (.inr (fun i => if i < n.toNatClampNeg then some (H.size + 1 + i) else none))))))] = W1 at hD1 hP1 ⊢
    have hle : ∀ (k9 : Nat) (x : Nat × va_E), W1[k9]? = some x → x.1 ≤ H.size := fun k9 x hx => by
      rw [← hW1] at hx
      by_cases hl : k9 < (X ++ va_pl L f).length
      · rw [List.getElem?_append_left hl] at hx
        exact Nat.le_of_lt ((hP k9 x hx).lt)
      · rw [List.getElem?_append_right (by omega)] at hx
        have h0 : k9 - (X ++ va_pl L f).length < 1 := (List.getElem?_eq_some_iff.mp hx).1
        rw [show k9 - (X ++ va_pl L f).length = 0 by omega] at hx
        cases hx
        exact Nat.le_refl _
    have hr : ∀ (k9 : Nat) (x : Nat × va_E), (((List.range n.toNatClampNeg).map (fun i => H.size + 1 + i)).map (fun a => ((a, .inl (cy, z)) : Nat × va_E)))[k9]? = some x → x.1 = H.size + 1 + k9 := fun k9 x hx => by
      rw [List.getElem?_map, List.getElem?_map] at hx
      by_cases h9 : k9 < n.toNatClampNeg
      · rw [List.getElem?_range h9] at hx
        cases hx
        rfl
      · have hn0 : (List.range n.toNatClampNeg)[k9]? = none := List.getElem?_eq_none (by rw [List.length_range]; omega)
        rw [hn0] at hx
        cases hx
    refine ⟨fun i j x y hi hj hxy => ?_, fun k9 x hx => ?_⟩
    · by_cases h1 : i < W1.length <;> by_cases h2 : j < W1.length
      · rw [List.getElem?_append_left h1] at hi
        rw [List.getElem?_append_left h2] at hj
        exact hD1.1 i j x y hi hj hxy
      · rw [List.getElem?_append_left h1] at hi
        rw [List.getElem?_append_right (by omega)] at hj
        have := hle _ _ hi
        have := hr _ _ hj
        omega
      · rw [List.getElem?_append_right (by omega)] at hi
        rw [List.getElem?_append_left h2] at hj
        have := hle _ _ hj
        have := hr _ _ hi
        omega
      · rw [List.getElem?_append_right (by omega)] at hi hj
        have := hr _ _ hi
        have := hr _ _ hj
        omega
    · by_cases h1 : k9 < W1.length
      · rw [List.getElem?_append_left h1] at hx
        exact hD1.2 k9 x hx
      · rw [List.getElem?_append_right (by omega)] at hx
        have := hr _ _ hx
        exact hA _ (by have := hS.1; omega)
  have hAr : ArrOfT s cA (.array ty) := fun N9 z9 => by
    obtain ⟨-, k9, hk9, cm9, hkk9⟩ := (hO 0 0 0).1
    exact ⟨(fun q hq => by cases hq), k9, hk9, cm9, hkk9⟩
  have hK2 : va_K D cl (tys ++ [(cA, .array ty)]) s := ⟨hK.1, fun k9 x hx => by
    by_cases hl : k9 < tys.length
    · rw [List.getElem?_append_left hl] at hx
      exact hK.2 k9 x hx
    · rw [List.getElem?_append_right (by omega)] at hx
      have h0 : k9 - tys.length < 1 := (List.getElem?_eq_some_iff.mp hx).1
      rw [show k9 - tys.length = 0 by omega] at hx
      cases hx
      exact ⟨hAr, fA⟩⟩
  obtain ⟨t, a1, b1⟩ := kk H.size (fun i => H.size + 1 + i) cA F.heap (fun i j _ _ h => by have h9 : H.size + 1 + i = H.size + 1 + j := h; omega) hnl hK2 (by rw [← vr_rows hnm]; exact vr_lay hP2) (by rw [← vr_rows hnm]; exact vr_layD hD2) ⟨by rw [f1]; have := hS.1; omega, fun x h1 h2 => (hold x (Nat.lt_of_lt_of_le h1 hS.1)).trans (hS.2.1 x h1 h2), hS.2.2⟩ F rfl X'
  refine ⟨t, step t ?_, b1⟩
  have e : T.heap.size = H.size := by rw [hT]
  rw [e]
  exact a1
end VGM
/-! ===== END ===== -/
section RowsB
variable {p : Program} {l : Launch} {e : Env} {R : Room} {s : State} {m : MethodId} {args : Array Value} {below : List Frame} {meth : Method} {c : Code} {H : Heap} {locs : List Loc} {cells slots : Nat} {Q : State → Prop}
variable {mc ms : Nat} {free : Addr → Prop} {A0 A1 : Nat → Prop} {H0 : Heap} {a : Array Value} {pc : Nat} {ls : Array Slot} {st0 rest : List Value}
theorem vx_catch {own name : String} {E : String} {ce : Cell} {q : Addr} (hown : s.vm.findClass own = some m.cls) (pre : List ExceptionTableEntry) (x : ExceptionTableEntry) (suf : List ExceptionTableEntry) (hsplit : c.exceptionTable.toList = pre ++ x :: suf)
    (hpass : ∀ z ∈ pre, covers z pc = false ∨ (z.catchType ≠ 0 ∧ ∃ nm : String, (Cond.classLink own z.catchType nm).before args s = true ∧ va_Nc E nm s)) (hx : covers x pc = true) (h0 : x.catchType ≠ 0)
    (hlink : (Cond.classLink own x.catchType name).before args s = true) (hcast : (Cond.castable E name).before args s = true) (hcell : H[q]? = some ce) (hv : ce.vm = .none) (hcl : s.vm.findClass E = some ce.cls)
    (kk : W p l e R s m args below meth c H locs cells slots Q (F0 m x.handlerPc ls [.ref q])) : vx_W p l e R s m args below meth c H locs cells slots Q (F0 m pc ls rest) q := by
  intro T hT X
  have hpl : e.platform.magicAccessors = ({} : Platform).magicAccessors := by rw [X.admits.platform]
  obtain ⟨c3, c4, hc3, hc4, hasg⟩ := Cond.castable_spec hcast
  cases Option.some.inj (hc3.symm.trans hcl)
  obtain ⟨c5, hc5, hcl5⟩ := Cond.classLink_spec hown hlink e.platform hpl
  cases Option.some.inj (hc4.symm.trans hc5)
  obtain ⟨vm', X', st⟩ := X.thenCaughtThrough q (g := F0 m pc ls rest) rfl (Steps.refl _) (by rw [hT]; exact hcell) (by rw [hv]; rfl) (by obtain ⟨k9, h9, -⟩ := Vm.findClass_spec hcl; exact ⟨k9, h9⟩) pre x suf hsplit
    (fun z hz => by
      rcases hpass z hz with h | ⟨hz0, nm, hl1, hn1⟩
      · exact Or.inl h
      · obtain ⟨c6, hc6, hcl6⟩ := Cond.classLink_spec hown hl1 e.platform hpl
        obtain ⟨a8, b8, h1, h2, h3⟩ := hn1
        cases Option.some.inj (h1.symm.trans hcl)
        cases Option.some.inj (h2.symm.trans hc6)
        exact Or.inr ⟨hz0, _, hcl6, h3⟩) hx (Or.inr ⟨h0, c4, hcl5, hasg⟩)
  obtain ⟨t, a1, b1⟩ := kk (T.setVm vm') hT X'
  exact ⟨t, st.trans a1, b1⟩
end RowsB
section VXSB
theorem vx_outP {p : Program} {l : Launch} {e : Env} {R : Room} {s : State} {m : MethodId} {args : Array Value} {below : List Frame} {meth : Method} {c : Code} {H : Heap} {locs : List Loc} {cells slots : Nat} {free : Addr → Prop} {ls : Array Slot} {rest : List Value} {Qc : Array Value → State → Outcome → State → Prop} {XC : String → State → State → Prop}
    {pc : Nat} {own E : String} {ce : Cell} {q : Addr} {mc ms : Nat} (hown : s.vm.findClass own = some m.cls) (hlocks : meth.locks = false)
    (hpass : ∀ z ∈ c.exceptionTable.toList, covers z pc = false ∨ (z.catchType ≠ 0 ∧ ∃ nm : String, (Cond.classLink own z.catchType nm).before args s = true ∧ va_Nc E nm s)) (hcell : H[q]? = some ce) (hv : ce.vm = .none) (hcl : s.vm.findClass E = some ce.cls)
    (hx : ∀ t : State, t.heap = H → s.vm.Alike t.vm → XC E s t) (hf : ∀ z ∈ locs, free z.base) (hc : cells ≤ mc) (hs : slots ≤ ms) :
    vx_W p l e R s m args below meth c H locs cells slots (vx_MQ below Qc XC args s mc ms free) (F0 m pc ls rest) q := by
  intro T hT X
  have hpl : e.platform.magicAccessors = ({} : Platform).magicAccessors := by rw [X.admits.platform]
  obtain ⟨vm', hW', X', st⟩ := X.outThrough hlocks q (g := F0 m pc ls rest) rfl rfl rfl (cell := ce) (by rw [hT]; exact hcell) (by rw [hv]; rfl)
    (by obtain ⟨k9, h9, -⟩ := Vm.findClass_spec hcl; exact ⟨k9, h9⟩) (fun z hz => by
      rcases hpass z hz with h | ⟨hz0, nm, hl1, hn1⟩
      · exact Or.inl h
      · obtain ⟨c6, hc6, hcl6⟩ := Cond.classLink_spec hown hl1 e.platform hpl
        obtain ⟨a8, b8, h1, h2, h3⟩ := hn1
        cases Option.some.inj (h1.symm.trans hcl)
        cases Option.some.inj (h2.symm.trans hc6)
        exact Or.inr ⟨hz0, _, hcl6, h3⟩)
  obtain ⟨g₀, hfr⟩ := X'.frames_eq
  have hcell9 : ((T.setVm vm').setFrames (.throwing q :: below)).heap[q]? = some ce := by
    show T.heap[q]? = some ce
    rw [hT]; exact hcell
  have hend : Ended ((T.setVm vm').setFrames (.throwing q :: below)) below (.threw q) := State.frames_setFrames _ (State.cur_lt_of_frames hfr)
  refine ⟨(T.setVm vm').setFrames (.throwing q :: below), ?_, .threw q, X'.here.running, hend, Or.inr ⟨q, rfl, E, ce, locs, hx _ hT (X'.ends _).1.alike, hcell9, hv, hcl, (X'.ends _).1, (X'.ends _).2.mono hc hs, hf⟩⟩
  rw [X.pushThrowing_eq]
  exact st
end VXSB
end
