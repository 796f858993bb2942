section
-- ===== PART A: goes FIRST, ahead of the names: the tables' words, and 'selects' of the private methods out of them =====
/-- a private method of a class that the tables say can be made, by its rows of tables_1 -/
def lw_okq (q : MethodName × Nat) : Prop := (q.1.cls ≠ "java/lang/invoke/MethodHandle" ∧ q.1.cls ≠ "java/lang/invoke/VarHandle") ∧ Cond.instantiable q.1.cls q.2 ∈ tables_1 ∧ Cond.privateMethod q.1 ∈ tables_1 ∧ Cond.instanceMethod q.1 ∈ tables_1
theorem lw_p0 : lw_okq (⟨"LakeLearns", "append", "(I)V"⟩, 17) := ⟨⟨by decide +kernel, by decide +kernel⟩, List.mem_of_getElem? (i := 26) (by decide +kernel), List.mem_of_getElem? (i := 526) (by decide +kernel), List.mem_of_getElem? (i := 527) (by decide +kernel)⟩
theorem lw_p1 : lw_okq (⟨"LakeLearns", "openTape", "(I)V"⟩, 17) := ⟨⟨by decide +kernel, by decide +kernel⟩, List.mem_of_getElem? (i := 26) (by decide +kernel), List.mem_of_getElem? (i := 538) (by decide +kernel), List.mem_of_getElem? (i := 539) (by decide +kernel)⟩
theorem lw_p2 : lw_okq (⟨"LakeLearns$Reader", "readRun", "()V"⟩, 11) := ⟨⟨by decide +kernel, by decide +kernel⟩, List.mem_of_getElem? (i := 34) (by decide +kernel), List.mem_of_getElem? (i := 553) (by decide +kernel), List.mem_of_getElem? (i := 554) (by decide +kernel)⟩
theorem lw_p3 : lw_okq (⟨"LakeLearns$Reader", "keyOf", "(J)I"⟩, 11) := ⟨⟨by decide +kernel, by decide +kernel⟩, List.mem_of_getElem? (i := 34) (by decide +kernel), List.mem_of_getElem? (i := 560) (by decide +kernel), List.mem_of_getElem? (i := 561) (by decide +kernel)⟩
theorem lw_p4 : lw_okq (⟨"LakeLearns$LakeReader", "readNamed", "(I)Z"⟩, 3) := ⟨⟨by decide +kernel, by decide +kernel⟩, List.mem_of_getElem? (i := 136) (by decide +kernel), List.mem_of_getElem? (i := 575) (by decide +kernel), List.mem_of_getElem? (i := 576) (by decide +kernel)⟩
theorem lw_p5 : lw_okq (⟨"LakeLearns$LakeReader", "readLesson", "(I)Z"⟩, 3) := ⟨⟨by decide +kernel, by decide +kernel⟩, List.mem_of_getElem? (i := 136) (by decide +kernel), List.mem_of_getElem? (i := 595) (by decide +kernel), List.mem_of_getElem? (i := 596) (by decide +kernel)⟩
theorem lw_p6 : lw_okq (⟨"LakeLearns$LakeReader", "readStep", "(I)Z"⟩, 3) := ⟨⟨by decide +kernel, by decide +kernel⟩, List.mem_of_getElem? (i := 136) (by decide +kernel), List.mem_of_getElem? (i := 605) (by decide +kernel), List.mem_of_getElem? (i := 606) (by decide +kernel)⟩
theorem lw_p7 : lw_okq (⟨"LakeLearns$LakeReader", "readPier", "(I)Z"⟩, 3) := ⟨⟨by decide +kernel, by decide +kernel⟩, List.mem_of_getElem? (i := 136) (by decide +kernel), List.mem_of_getElem? (i := 621) (by decide +kernel), List.mem_of_getElem? (i := 622) (by decide +kernel)⟩
theorem lw_p8 : lw_okq (⟨"LakeLearns$LakeReader", "readSetting", "(I)Z"⟩, 3) := ⟨⟨by decide +kernel, by decide +kernel⟩, List.mem_of_getElem? (i := 136) (by decide +kernel), List.mem_of_getElem? (i := 625) (by decide +kernel), List.mem_of_getElem? (i := 626) (by decide +kernel)⟩
theorem lw_p9 : lw_okq (⟨"LakeLearns$LakeReader", "readIceLong", "(I)Z"⟩, 3) := ⟨⟨by decide +kernel, by decide +kernel⟩, List.mem_of_getElem? (i := 136) (by decide +kernel), List.mem_of_getElem? (i := 633) (by decide +kernel), List.mem_of_getElem? (i := 634) (by decide +kernel)⟩
theorem lw_p10 : lw_okq (⟨"LakeLearns$Life", "countShowings", "(LLakeLearns$Lake;)V"⟩, 16) := ⟨⟨by decide +kernel, by decide +kernel⟩, List.mem_of_getElem? (i := 279) (by decide +kernel), List.mem_of_getElem? (i := 778) (by decide +kernel), List.mem_of_getElem? (i := 779) (by decide +kernel)⟩
theorem lw_p11 : lw_okq (⟨"LakeLearns$Life", "keepOrForget", "(LLakeLearns$Lake;I)V"⟩, 16) := ⟨⟨by decide +kernel, by decide +kernel⟩, List.mem_of_getElem? (i := 279) (by decide +kernel), List.mem_of_getElem? (i := 783) (by decide +kernel), List.mem_of_getElem? (i := 784) (by decide +kernel)⟩
theorem lw_p12 : lw_okq (⟨"LakeLearns$Life", "unlearn", "(I)V"⟩, 16) := ⟨⟨by decide +kernel, by decide +kernel⟩, List.mem_of_getElem? (i := 279) (by decide +kernel), List.mem_of_getElem? (i := 791) (by decide +kernel), List.mem_of_getElem? (i := 792) (by decide +kernel)⟩
theorem lw_p13 : lw_okq (⟨"LakeLearns$Guess", "listen", "(LLakeLearns$Lake;[BI)Z"⟩, 8) := ⟨⟨by decide +kernel, by decide +kernel⟩, List.mem_of_getElem? (i := 426) (by decide +kernel), List.mem_of_getElem? (i := 833) (by decide +kernel), List.mem_of_getElem? (i := 834) (by decide +kernel)⟩
theorem lw_p14 : lw_okq (⟨"LakeLearns$Guess", "findSets", "(LLakeLearns$Lake;)V"⟩, 8) := ⟨⟨by decide +kernel, by decide +kernel⟩, List.mem_of_getElem? (i := 426) (by decide +kernel), List.mem_of_getElem? (i := 846) (by decide +kernel), List.mem_of_getElem? (i := 847) (by decide +kernel)⟩
theorem lw_p15 : lw_okq (⟨"LakeLearns$Guess", "explains", "(LLakeLearns$Lake;I)Z"⟩, 8) := ⟨⟨by decide +kernel, by decide +kernel⟩, List.mem_of_getElem? (i := 426) (by decide +kernel), List.mem_of_getElem? (i := 850) (by decide +kernel), List.mem_of_getElem? (i := 851) (by decide +kernel)⟩
def lw_privs_1 : List (MethodName × Nat) := [(⟨"LakeLearns", "append", "(I)V"⟩, 17), (⟨"LakeLearns", "openTape", "(I)V"⟩, 17), (⟨"LakeLearns$Reader", "readRun", "()V"⟩, 11), (⟨"LakeLearns$Reader", "keyOf", "(J)I"⟩, 11), (⟨"LakeLearns$LakeReader", "readNamed", "(I)Z"⟩, 3), (⟨"LakeLearns$LakeReader", "readLesson", "(I)Z"⟩, 3), (⟨"LakeLearns$LakeReader", "readStep", "(I)Z"⟩, 3), (⟨"LakeLearns$LakeReader", "readPier", "(I)Z"⟩, 3), (⟨"LakeLearns$LakeReader", "readSetting", "(I)Z"⟩, 3), (⟨"LakeLearns$LakeReader", "readIceLong", "(I)Z"⟩, 3), (⟨"LakeLearns$Life", "countShowings", "(LLakeLearns$Lake;)V"⟩, 16), (⟨"LakeLearns$Life", "keepOrForget", "(LLakeLearns$Lake;I)V"⟩, 16), (⟨"LakeLearns$Life", "unlearn", "(I)V"⟩, 16), (⟨"LakeLearns$Guess", "listen", "(LLakeLearns$Lake;[BI)Z"⟩, 8), (⟨"LakeLearns$Guess", "findSets", "(LLakeLearns$Lake;)V"⟩, 8), (⟨"LakeLearns$Guess", "explains", "(LLakeLearns$Lake;I)Z"⟩, 8)]
theorem lw_r1 : ∀ q ∈ lw_privs_1, lw_okq q := List.forall_mem_cons.mpr ⟨lw_p0, List.forall_mem_cons.mpr ⟨lw_p1, List.forall_mem_cons.mpr ⟨lw_p2, List.forall_mem_cons.mpr ⟨lw_p3, List.forall_mem_cons.mpr ⟨lw_p4, List.forall_mem_cons.mpr ⟨lw_p5, List.forall_mem_cons.mpr ⟨lw_p6, List.forall_mem_cons.mpr ⟨lw_p7, List.forall_mem_cons.mpr ⟨lw_p8, List.forall_mem_cons.mpr ⟨lw_p9, List.forall_mem_cons.mpr ⟨lw_p10, List.forall_mem_cons.mpr ⟨lw_p11, List.forall_mem_cons.mpr ⟨lw_p12, List.forall_mem_cons.mpr ⟨lw_p13, List.forall_mem_cons.mpr ⟨lw_p14, List.forall_mem_cons.mpr ⟨lw_p15, fun _ h => absurd h List.not_mem_nil⟩⟩⟩⟩⟩⟩⟩⟩⟩⟩⟩⟩⟩⟩⟩⟩
theorem lw_p16 : lw_okq (⟨"LakeLearns$Guess", "judgeLessons", "(LLakeLearns$Lake;)V"⟩, 8) := ⟨⟨by decide +kernel, by decide +kernel⟩, List.mem_of_getElem? (i := 426) (by decide +kernel), List.mem_of_getElem? (i := 855) (by decide +kernel), List.mem_of_getElem? (i := 856) (by decide +kernel)⟩
theorem lw_p17 : lw_okq (⟨"LakeLearns$Guess", "judgeCues", "(LLakeLearns$Lake;)V"⟩, 8) := ⟨⟨by decide +kernel, by decide +kernel⟩, List.mem_of_getElem? (i := 426) (by decide +kernel), List.mem_of_getElem? (i := 859) (by decide +kernel), List.mem_of_getElem? (i := 860) (by decide +kernel)⟩
theorem lw_p18 : lw_okq (⟨"LakeLearns$Guess", "countUnlike", "(LLakeLearns$Lake;I)I"⟩, 8) := ⟨⟨by decide +kernel, by decide +kernel⟩, List.mem_of_getElem? (i := 426) (by decide +kernel), List.mem_of_getElem? (i := 863) (by decide +kernel), List.mem_of_getElem? (i := 864) (by decide +kernel)⟩
theorem lw_p19 : lw_okq (⟨"LakeLearns", "cheapest", "(II)I"⟩, 17) := ⟨⟨by decide +kernel, by decide +kernel⟩, List.mem_of_getElem? (i := 26) (by decide +kernel), List.mem_of_getElem? (i := 885) (by decide +kernel), List.mem_of_getElem? (i := 886) (by decide +kernel)⟩
theorem lw_p20 : lw_okq (⟨"LakeLearns", "pairs", "(IZ)I"⟩, 17) := ⟨⟨by decide +kernel, by decide +kernel⟩, List.mem_of_getElem? (i := 26) (by decide +kernel), List.mem_of_getElem? (i := 901) (by decide +kernel), List.mem_of_getElem? (i := 902) (by decide +kernel)⟩
theorem lw_p21 : lw_okq (⟨"LakeLearns$Draw", "drawDay", "(LLakeLearns$Lake;LLakeLearns$Life;)V"⟩, 1) := ⟨⟨by decide +kernel, by decide +kernel⟩, List.mem_of_getElem? (i := 460) (by decide +kernel), List.mem_of_getElem? (i := 946) (by decide +kernel), List.mem_of_getElem? (i := 947) (by decide +kernel)⟩
theorem lw_p22 : lw_okq (⟨"LakeLearns$Draw", "of", "(I)I"⟩, 1) := ⟨⟨by decide +kernel, by decide +kernel⟩, List.mem_of_getElem? (i := 460) (by decide +kernel), List.mem_of_getElem? (i := 950) (by decide +kernel), List.mem_of_getElem? (i := 951) (by decide +kernel)⟩
theorem lw_p23 : lw_okq (⟨"LakeLearns$Diary", "readLine", "(LLakeLearns$Reader;LLakeLearns$Lake;)Z"⟩, 4) := ⟨⟨by decide +kernel, by decide +kernel⟩, List.mem_of_getElem? (i := 407) (by decide +kernel), List.mem_of_getElem? (i := 973) (by decide +kernel), List.mem_of_getElem? (i := 974) (by decide +kernel)⟩
theorem lw_p24 : lw_okq (⟨"LakeLearns$Diary", "liveLine", "(LLakeLearns$Lake;LLakeLearns$Life;I)I"⟩, 4) := ⟨⟨by decide +kernel, by decide +kernel⟩, List.mem_of_getElem? (i := 407) (by decide +kernel), List.mem_of_getElem? (i := 999) (by decide +kernel), List.mem_of_getElem? (i := 1000) (by decide +kernel)⟩
theorem lw_p25 : lw_okq (⟨"LakeLearns$SentenceReader", "readCond", "(LLakeLearns$Lake;I)Z"⟩, 2) := ⟨⟨by decide +kernel, by decide +kernel⟩, List.mem_of_getElem? (i := 236) (by decide +kernel), List.mem_of_getElem? (i := 1037) (by decide +kernel), List.mem_of_getElem? (i := 1038) (by decide +kernel)⟩
theorem lw_p26 : lw_okq (⟨"LakeLearns$SentenceReader", "readOne", "(LLakeLearns$Lake;I)Z"⟩, 2) := ⟨⟨by decide +kernel, by decide +kernel⟩, List.mem_of_getElem? (i := 236) (by decide +kernel), List.mem_of_getElem? (i := 1041) (by decide +kernel), List.mem_of_getElem? (i := 1042) (by decide +kernel)⟩
theorem lw_p27 : lw_okq (⟨"LakeLearns$SentenceReader", "readMeasure", "(I)Z"⟩, 2) := ⟨⟨by decide +kernel, by decide +kernel⟩, List.mem_of_getElem? (i := 236) (by decide +kernel), List.mem_of_getElem? (i := 1053) (by decide +kernel), List.mem_of_getElem? (i := 1054) (by decide +kernel)⟩
theorem lw_p28 : lw_okq (⟨"LakeLearns$SentenceReader", "readPlain", "(LLakeLearns$Lake;I)Z"⟩, 2) := ⟨⟨by decide +kernel, by decide +kernel⟩, List.mem_of_getElem? (i := 236) (by decide +kernel), List.mem_of_getElem? (i := 1058) (by decide +kernel), List.mem_of_getElem? (i := 1059) (by decide +kernel)⟩
theorem lw_p29 : lw_okq (⟨"LakeLearns$Sentence", "saidByPart", "(LLakeLearns$Lake;LLakeLearns$Life;I)I"⟩, 6) := ⟨⟨by decide +kernel, by decide +kernel⟩, List.mem_of_getElem? (i := 242) (by decide +kernel), List.mem_of_getElem? (i := 1077) (by decide +kernel), List.mem_of_getElem? (i := 1078) (by decide +kernel)⟩
theorem lw_p30 : lw_okq (⟨"LakeLearns$Sentence", "saidByNumber", "(LLakeLearns$Lake;LLakeLearns$Life;I)I"⟩, 6) := ⟨⟨by decide +kernel, by decide +kernel⟩, List.mem_of_getElem? (i := 242) (by decide +kernel), List.mem_of_getElem? (i := 1086) (by decide +kernel), List.mem_of_getElem? (i := 1087) (by decide +kernel)⟩
theorem lw_p31 : lw_okq (⟨"java/lang/Throwable", "fillInStackTrace", "(I)Ljava/lang/Throwable;"⟩, 6) := ⟨⟨by decide +kernel, by decide +kernel⟩, List.mem_of_getElem? (i := 1152) (by decide +kernel), List.mem_of_getElem? (i := 1150) (by decide +kernel), List.mem_of_getElem? (i := 1151) (by decide +kernel)⟩
def lw_privs_2 : List (MethodName × Nat) := [(⟨"LakeLearns$Guess", "judgeLessons", "(LLakeLearns$Lake;)V"⟩, 8), (⟨"LakeLearns$Guess", "judgeCues", "(LLakeLearns$Lake;)V"⟩, 8), (⟨"LakeLearns$Guess", "countUnlike", "(LLakeLearns$Lake;I)I"⟩, 8), (⟨"LakeLearns", "cheapest", "(II)I"⟩, 17), (⟨"LakeLearns", "pairs", "(IZ)I"⟩, 17), (⟨"LakeLearns$Draw", "drawDay", "(LLakeLearns$Lake;LLakeLearns$Life;)V"⟩, 1), (⟨"LakeLearns$Draw", "of", "(I)I"⟩, 1), (⟨"LakeLearns$Diary", "readLine", "(LLakeLearns$Reader;LLakeLearns$Lake;)Z"⟩, 4), (⟨"LakeLearns$Diary", "liveLine", "(LLakeLearns$Lake;LLakeLearns$Life;I)I"⟩, 4), (⟨"LakeLearns$SentenceReader", "readCond", "(LLakeLearns$Lake;I)Z"⟩, 2), (⟨"LakeLearns$SentenceReader", "readOne", "(LLakeLearns$Lake;I)Z"⟩, 2), (⟨"LakeLearns$SentenceReader", "readMeasure", "(I)Z"⟩, 2), (⟨"LakeLearns$SentenceReader", "readPlain", "(LLakeLearns$Lake;I)Z"⟩, 2), (⟨"LakeLearns$Sentence", "saidByPart", "(LLakeLearns$Lake;LLakeLearns$Life;I)I"⟩, 6), (⟨"LakeLearns$Sentence", "saidByNumber", "(LLakeLearns$Lake;LLakeLearns$Life;I)I"⟩, 6), (⟨"java/lang/Throwable", "fillInStackTrace", "(I)Ljava/lang/Throwable;"⟩, 6)]
theorem lw_r2 : ∀ q ∈ lw_privs_2, lw_okq q := List.forall_mem_cons.mpr ⟨lw_p16, List.forall_mem_cons.mpr ⟨lw_p17, List.forall_mem_cons.mpr ⟨lw_p18, List.forall_mem_cons.mpr ⟨lw_p19, List.forall_mem_cons.mpr ⟨lw_p20, List.forall_mem_cons.mpr ⟨lw_p21, List.forall_mem_cons.mpr ⟨lw_p22, List.forall_mem_cons.mpr ⟨lw_p23, List.forall_mem_cons.mpr ⟨lw_p24, List.forall_mem_cons.mpr ⟨lw_p25, List.forall_mem_cons.mpr ⟨lw_p26, List.forall_mem_cons.mpr ⟨lw_p27, List.forall_mem_cons.mpr ⟨lw_p28, List.forall_mem_cons.mpr ⟨lw_p29, List.forall_mem_cons.mpr ⟨lw_p30, List.forall_mem_cons.mpr ⟨lw_p31, fun _ h => absurd h List.not_mem_nil⟩⟩⟩⟩⟩⟩⟩⟩⟩⟩⟩⟩⟩⟩⟩⟩
theorem lw_p32 : lw_okq (⟨"LakeLearnsModel", "four", "(I)V"⟩, 48) := ⟨⟨by decide +kernel, by decide +kernel⟩, List.mem_of_getElem? (i := 1191) (by decide +kernel), List.mem_of_getElem? (i := 1189) (by decide +kernel), List.mem_of_getElem? (i := 1190) (by decide +kernel)⟩
theorem lw_p33 : lw_okq (⟨"LakeLearnsModel", "clears", "()V"⟩, 48) := ⟨⟨by decide +kernel, by decide +kernel⟩, List.mem_of_getElem? (i := 1191) (by decide +kernel), List.mem_of_getElem? (i := 1227) (by decide +kernel), List.mem_of_getElem? (i := 1228) (by decide +kernel)⟩
theorem lw_p34 : lw_okq (⟨"LakeLearnsModel", "taken", "(I)V"⟩, 48) := ⟨⟨by decide +kernel, by decide +kernel⟩, List.mem_of_getElem? (i := 1191) (by decide +kernel), List.mem_of_getElem? (i := 1381) (by decide +kernel), List.mem_of_getElem? (i := 1382) (by decide +kernel)⟩
theorem lw_p35 : lw_okq (⟨"LakeLearnsModel", "next", "()V"⟩, 48) := ⟨⟨by decide +kernel, by decide +kernel⟩, List.mem_of_getElem? (i := 1191) (by decide +kernel), List.mem_of_getElem? (i := 1385) (by decide +kernel), List.mem_of_getElem? (i := 1386) (by decide +kernel)⟩
theorem lw_p36 : lw_okq (⟨"LakeLearnsModel", "peek", "()I"⟩, 48) := ⟨⟨by decide +kernel, by decide +kernel⟩, List.mem_of_getElem? (i := 1191) (by decide +kernel), List.mem_of_getElem? (i := 1389) (by decide +kernel), List.mem_of_getElem? (i := 1390) (by decide +kernel)⟩
theorem lw_p37 : lw_okq (⟨"LakeLearnsModel", "line", "()Z"⟩, 48) := ⟨⟨by decide +kernel, by decide +kernel⟩, List.mem_of_getElem? (i := 1191) (by decide +kernel), List.mem_of_getElem? (i := 1399) (by decide +kernel), List.mem_of_getElem? (i := 1400) (by decide +kernel)⟩
theorem lw_p38 : lw_okq (⟨"LakeLearnsModel", "isWord", "(J)Z"⟩, 48) := ⟨⟨by decide +kernel, by decide +kernel⟩, List.mem_of_getElem? (i := 1191) (by decide +kernel), List.mem_of_getElem? (i := 1403) (by decide +kernel), List.mem_of_getElem? (i := 1404) (by decide +kernel)⟩
theorem lw_p39 : lw_okq (⟨"LakeLearnsModel", "isOnce", "(I)Z"⟩, 48) := ⟨⟨by decide +kernel, by decide +kernel⟩, List.mem_of_getElem? (i := 1191) (by decide +kernel), List.mem_of_getElem? (i := 1407) (by decide +kernel), List.mem_of_getElem? (i := 1408) (by decide +kernel)⟩
theorem lw_p40 : lw_okq (⟨"LakeLearnsModel", "bad", "(I)Z"⟩, 48) := ⟨⟨by decide +kernel, by decide +kernel⟩, List.mem_of_getElem? (i := 1191) (by decide +kernel), List.mem_of_getElem? (i := 1414) (by decide +kernel), List.mem_of_getElem? (i := 1415) (by decide +kernel)⟩
theorem lw_p41 : lw_okq (⟨"LakeLearnsModel", "puts", "(III)Z"⟩, 48) := ⟨⟨by decide +kernel, by decide +kernel⟩, List.mem_of_getElem? (i := 1191) (by decide +kernel), List.mem_of_getElem? (i := 1418) (by decide +kernel), List.mem_of_getElem? (i := 1419) (by decide +kernel)⟩
theorem lw_p42 : lw_okq (⟨"LakeLearnsModel", "takes", "(II)Z"⟩, 48) := ⟨⟨by decide +kernel, by decide +kernel⟩, List.mem_of_getElem? (i := 1191) (by decide +kernel), List.mem_of_getElem? (i := 1422) (by decide +kernel), List.mem_of_getElem? (i := 1423) (by decide +kernel)⟩
theorem lw_p43 : lw_okq (⟨"LakeLearnsModel", "fresh", "(I)Z"⟩, 48) := ⟨⟨by decide +kernel, by decide +kernel⟩, List.mem_of_getElem? (i := 1191) (by decide +kernel), List.mem_of_getElem? (i := 1429) (by decide +kernel), List.mem_of_getElem? (i := 1430) (by decide +kernel)⟩
theorem lw_p44 : lw_okq (⟨"LakeLearnsModel", "isName", "()Z"⟩, 48) := ⟨⟨by decide +kernel, by decide +kernel⟩, List.mem_of_getElem? (i := 1191) (by decide +kernel), List.mem_of_getElem? (i := 1433) (by decide +kernel), List.mem_of_getElem? (i := 1434) (by decide +kernel)⟩
theorem lw_p45 : lw_okq (⟨"LakeLearnsModel", "find", "(II)I"⟩, 48) := ⟨⟨by decide +kernel, by decide +kernel⟩, List.mem_of_getElem? (i := 1191) (by decide +kernel), List.mem_of_getElem? (i := 1437) (by decide +kernel), List.mem_of_getElem? (i := 1438) (by decide +kernel)⟩
theorem lw_p46 : lw_okq (⟨"LakeLearnsModel", "readLesson", "()Z"⟩, 48) := ⟨⟨by decide +kernel, by decide +kernel⟩, List.mem_of_getElem? (i := 1191) (by decide +kernel), List.mem_of_getElem? (i := 1441) (by decide +kernel), List.mem_of_getElem? (i := 1442) (by decide +kernel)⟩
theorem lw_p47 : lw_okq (⟨"LakeLearnsModel", "looksAt", "(II)Z"⟩, 48) := ⟨⟨by decide +kernel, by decide +kernel⟩, List.mem_of_getElem? (i := 1191) (by decide +kernel), List.mem_of_getElem? (i := 1445) (by decide +kernel), List.mem_of_getElem? (i := 1446) (by decide +kernel)⟩
def lw_privs_3 : List (MethodName × Nat) := [(⟨"LakeLearnsModel", "four", "(I)V"⟩, 48), (⟨"LakeLearnsModel", "clears", "()V"⟩, 48), (⟨"LakeLearnsModel", "taken", "(I)V"⟩, 48), (⟨"LakeLearnsModel", "next", "()V"⟩, 48), (⟨"LakeLearnsModel", "peek", "()I"⟩, 48), (⟨"LakeLearnsModel", "line", "()Z"⟩, 48), (⟨"LakeLearnsModel", "isWord", "(J)Z"⟩, 48), (⟨"LakeLearnsModel", "isOnce", "(I)Z"⟩, 48), (⟨"LakeLearnsModel", "bad", "(I)Z"⟩, 48), (⟨"LakeLearnsModel", "puts", "(III)Z"⟩, 48), (⟨"LakeLearnsModel", "takes", "(II)Z"⟩, 48), (⟨"LakeLearnsModel", "fresh", "(I)Z"⟩, 48), (⟨"LakeLearnsModel", "isName", "()Z"⟩, 48), (⟨"LakeLearnsModel", "find", "(II)I"⟩, 48), (⟨"LakeLearnsModel", "readLesson", "()Z"⟩, 48), (⟨"LakeLearnsModel", "looksAt", "(II)Z"⟩, 48)]
theorem lw_r3 : ∀ q ∈ lw_privs_3, lw_okq q := List.forall_mem_cons.mpr ⟨lw_p32, List.forall_mem_cons.mpr ⟨lw_p33, List.forall_mem_cons.mpr ⟨lw_p34, List.forall_mem_cons.mpr ⟨lw_p35, List.forall_mem_cons.mpr ⟨lw_p36, List.forall_mem_cons.mpr ⟨lw_p37, List.forall_mem_cons.mpr ⟨lw_p38, List.forall_mem_cons.mpr ⟨lw_p39, List.forall_mem_cons.mpr ⟨lw_p40, List.forall_mem_cons.mpr ⟨lw_p41, List.forall_mem_cons.mpr ⟨lw_p42, List.forall_mem_cons.mpr ⟨lw_p43, List.forall_mem_cons.mpr ⟨lw_p44, List.forall_mem_cons.mpr ⟨lw_p45, List.forall_mem_cons.mpr ⟨lw_p46, List.forall_mem_cons.mpr ⟨lw_p47, fun _ h => absurd h List.not_mem_nil⟩⟩⟩⟩⟩⟩⟩⟩⟩⟩⟩⟩⟩⟩⟩⟩
theorem lw_p48 : lw_okq (⟨"LakeLearnsModel", "isSign", "(I)Z"⟩, 48) := ⟨⟨by decide +kernel, by decide +kernel⟩, List.mem_of_getElem? (i := 1191) (by decide +kernel), List.mem_of_getElem? (i := 1449) (by decide +kernel), List.mem_of_getElem? (i := 1450) (by decide +kernel)⟩
theorem lw_p49 : lw_okq (⟨"LakeLearnsModel", "sign", "(I)Z"⟩, 48) := ⟨⟨by decide +kernel, by decide +kernel⟩, List.mem_of_getElem? (i := 1191) (by decide +kernel), List.mem_of_getElem? (i := 1453) (by decide +kernel), List.mem_of_getElem? (i := 1454) (by decide +kernel)⟩
theorem lw_p50 : lw_okq (⟨"LakeLearnsModel", "isLesson", "(I)Z"⟩, 48) := ⟨⟨by decide +kernel, by decide +kernel⟩, List.mem_of_getElem? (i := 1191) (by decide +kernel), List.mem_of_getElem? (i := 1465) (by decide +kernel), List.mem_of_getElem? (i := 1466) (by decide +kernel)⟩
theorem lw_p51 : lw_okq (⟨"LakeLearnsModel", "throwsIf", "(Z)Z"⟩, 48) := ⟨⟨by decide +kernel, by decide +kernel⟩, List.mem_of_getElem? (i := 1191) (by decide +kernel), List.mem_of_getElem? (i := 1469) (by decide +kernel), List.mem_of_getElem? (i := 1470) (by decide +kernel)⟩
theorem lw_p52 : lw_okq (⟨"LakeLearnsModel", "isKnown", "(I)Z"⟩, 48) := ⟨⟨by decide +kernel, by decide +kernel⟩, List.mem_of_getElem? (i := 1191) (by decide +kernel), List.mem_of_getElem? (i := 1473) (by decide +kernel), List.mem_of_getElem? (i := 1474) (by decide +kernel)⟩
theorem lw_p53 : lw_okq (⟨"LakeLearnsModel", "isBoat", "(I)Z"⟩, 48) := ⟨⟨by decide +kernel, by decide +kernel⟩, List.mem_of_getElem? (i := 1191) (by decide +kernel), List.mem_of_getElem? (i := 1485) (by decide +kernel), List.mem_of_getElem? (i := 1486) (by decide +kernel)⟩
theorem lw_p54 : lw_okq (⟨"LakeLearnsModel", "isCell", "(I)Z"⟩, 48) := ⟨⟨by decide +kernel, by decide +kernel⟩, List.mem_of_getElem? (i := 1191) (by decide +kernel), List.mem_of_getElem? (i := 1493) (by decide +kernel), List.mem_of_getElem? (i := 1494) (by decide +kernel)⟩
theorem lw_p55 : lw_okq (⟨"LakeLearnsModel", "isConfused", "(I)Z"⟩, 48) := ⟨⟨by decide +kernel, by decide +kernel⟩, List.mem_of_getElem? (i := 1191) (by decide +kernel), List.mem_of_getElem? (i := 1501) (by decide +kernel), List.mem_of_getElem? (i := 1502) (by decide +kernel)⟩
theorem lw_p56 : lw_okq (⟨"LakeLearnsModel", "isIce", "(I)Z"⟩, 48) := ⟨⟨by decide +kernel, by decide +kernel⟩, List.mem_of_getElem? (i := 1191) (by decide +kernel), List.mem_of_getElem? (i := 1505) (by decide +kernel), List.mem_of_getElem? (i := 1506) (by decide +kernel)⟩
theorem lw_p57 : lw_okq (⟨"LakeLearnsModel", "knownSet", "()I"⟩, 48) := ⟨⟨by decide +kernel, by decide +kernel⟩, List.mem_of_getElem? (i := 1191) (by decide +kernel), List.mem_of_getElem? (i := 1509) (by decide +kernel), List.mem_of_getElem? (i := 1510) (by decide +kernel)⟩
theorem lw_p58 : lw_okq (⟨"LakeLearnsModel", "todaySet", "()I"⟩, 48) := ⟨⟨by decide +kernel, by decide +kernel⟩, List.mem_of_getElem? (i := 1191) (by decide +kernel), List.mem_of_getElem? (i := 1513) (by decide +kernel), List.mem_of_getElem? (i := 1514) (by decide +kernel)⟩
theorem lw_p59 : lw_okq (⟨"LakeLearnsModel", "isTeacher", "(I)Z"⟩, 48) := ⟨⟨by decide +kernel, by decide +kernel⟩, List.mem_of_getElem? (i := 1191) (by decide +kernel), List.mem_of_getElem? (i := 1521) (by decide +kernel), List.mem_of_getElem? (i := 1522) (by decide +kernel)⟩
theorem lw_p60 : lw_okq (⟨"LakeLearnsModel", "whyShow", "(I)I"⟩, 48) := ⟨⟨by decide +kernel, by decide +kernel⟩, List.mem_of_getElem? (i := 1191) (by decide +kernel), List.mem_of_getElem? (i := 1525) (by decide +kernel), List.mem_of_getElem? (i := 1526) (by decide +kernel)⟩
theorem lw_p61 : lw_okq (⟨"LakeLearnsModel", "keep", "()V"⟩, 48) := ⟨⟨by decide +kernel, by decide +kernel⟩, List.mem_of_getElem? (i := 1191) (by decide +kernel), List.mem_of_getElem? (i := 1529) (by decide +kernel), List.mem_of_getElem? (i := 1530) (by decide +kernel)⟩
theorem lw_p62 : lw_okq (⟨"LakeLearnsModel", "shows", "(II)V"⟩, 48) := ⟨⟨by decide +kernel, by decide +kernel⟩, List.mem_of_getElem? (i := 1191) (by decide +kernel), List.mem_of_getElem? (i := 1533) (by decide +kernel), List.mem_of_getElem? (i := 1534) (by decide +kernel)⟩
theorem lw_p63 : lw_okq (⟨"LakeLearnsModel", "isCue", "(I)Z"⟩, 48) := ⟨⟨by decide +kernel, by decide +kernel⟩, List.mem_of_getElem? (i := 1191) (by decide +kernel), List.mem_of_getElem? (i := 1541) (by decide +kernel), List.mem_of_getElem? (i := 1542) (by decide +kernel)⟩
def lw_privs_4 : List (MethodName × Nat) := [(⟨"LakeLearnsModel", "isSign", "(I)Z"⟩, 48), (⟨"LakeLearnsModel", "sign", "(I)Z"⟩, 48), (⟨"LakeLearnsModel", "isLesson", "(I)Z"⟩, 48), (⟨"LakeLearnsModel", "throwsIf", "(Z)Z"⟩, 48), (⟨"LakeLearnsModel", "isKnown", "(I)Z"⟩, 48), (⟨"LakeLearnsModel", "isBoat", "(I)Z"⟩, 48), (⟨"LakeLearnsModel", "isCell", "(I)Z"⟩, 48), (⟨"LakeLearnsModel", "isConfused", "(I)Z"⟩, 48), (⟨"LakeLearnsModel", "isIce", "(I)Z"⟩, 48), (⟨"LakeLearnsModel", "knownSet", "()I"⟩, 48), (⟨"LakeLearnsModel", "todaySet", "()I"⟩, 48), (⟨"LakeLearnsModel", "isTeacher", "(I)Z"⟩, 48), (⟨"LakeLearnsModel", "whyShow", "(I)I"⟩, 48), (⟨"LakeLearnsModel", "keep", "()V"⟩, 48), (⟨"LakeLearnsModel", "shows", "(II)V"⟩, 48), (⟨"LakeLearnsModel", "isCue", "(I)Z"⟩, 48)]
theorem lw_r4 : ∀ q ∈ lw_privs_4, lw_okq q := List.forall_mem_cons.mpr ⟨lw_p48, List.forall_mem_cons.mpr ⟨lw_p49, List.forall_mem_cons.mpr ⟨lw_p50, List.forall_mem_cons.mpr ⟨lw_p51, List.forall_mem_cons.mpr ⟨lw_p52, List.forall_mem_cons.mpr ⟨lw_p53, List.forall_mem_cons.mpr ⟨lw_p54, List.forall_mem_cons.mpr ⟨lw_p55, List.forall_mem_cons.mpr ⟨lw_p56, List.forall_mem_cons.mpr ⟨lw_p57, List.forall_mem_cons.mpr ⟨lw_p58, List.forall_mem_cons.mpr ⟨lw_p59, List.forall_mem_cons.mpr ⟨lw_p60, List.forall_mem_cons.mpr ⟨lw_p61, List.forall_mem_cons.mpr ⟨lw_p62, List.forall_mem_cons.mpr ⟨lw_p63, fun _ h => absurd h List.not_mem_nil⟩⟩⟩⟩⟩⟩⟩⟩⟩⟩⟩⟩⟩⟩⟩⟩
theorem lw_p64 : lw_okq (⟨"LakeLearnsModel", "whyRing", "()I"⟩, 48) := ⟨⟨by decide +kernel, by decide +kernel⟩, List.mem_of_getElem? (i := 1191) (by decide +kernel), List.mem_of_getElem? (i := 1545) (by decide +kernel), List.mem_of_getElem? (i := 1546) (by decide +kernel)⟩
theorem lw_p65 : lw_okq (⟨"LakeLearnsModel", "rings", "(I)V"⟩, 48) := ⟨⟨by decide +kernel, by decide +kernel⟩, List.mem_of_getElem? (i := 1191) (by decide +kernel), List.mem_of_getElem? (i := 1549) (by decide +kernel), List.mem_of_getElem? (i := 1550) (by decide +kernel)⟩
theorem lw_p66 : lw_okq (⟨"LakeLearnsModel", "moves", "(II)V"⟩, 48) := ⟨⟨by decide +kernel, by decide +kernel⟩, List.mem_of_getElem? (i := 1191) (by decide +kernel), List.mem_of_getElem? (i := 1553) (by decide +kernel), List.mem_of_getElem? (i := 1554) (by decide +kernel)⟩
theorem lw_p67 : lw_okq (⟨"LakeLearnsModel", "longest", "(II)I"⟩, 48) := ⟨⟨by decide +kernel, by decide +kernel⟩, List.mem_of_getElem? (i := 1191) (by decide +kernel), List.mem_of_getElem? (i := 1557) (by decide +kernel), List.mem_of_getElem? (i := 1558) (by decide +kernel)⟩
theorem lw_p68 : lw_okq (⟨"LakeLearnsModel", "whySail", "(II)I"⟩, 48) := ⟨⟨by decide +kernel, by decide +kernel⟩, List.mem_of_getElem? (i := 1191) (by decide +kernel), List.mem_of_getElem? (i := 1568) (by decide +kernel), List.mem_of_getElem? (i := 1569) (by decide +kernel)⟩
theorem lw_p69 : lw_okq (⟨"LakeLearnsModel", "sails", "(II)V"⟩, 48) := ⟨⟨by decide +kernel, by decide +kernel⟩, List.mem_of_getElem? (i := 1191) (by decide +kernel), List.mem_of_getElem? (i := 1572) (by decide +kernel), List.mem_of_getElem? (i := 1573) (by decide +kernel)⟩
theorem lw_p70 : lw_okq (⟨"LakeLearnsModel", "goesOn", "(I)I"⟩, 48) := ⟨⟨by decide +kernel, by decide +kernel⟩, List.mem_of_getElem? (i := 1191) (by decide +kernel), List.mem_of_getElem? (i := 1580) (by decide +kernel), List.mem_of_getElem? (i := 1581) (by decide +kernel)⟩
theorem lw_p71 : lw_okq (⟨"LakeLearnsModel", "day", "()V"⟩, 48) := ⟨⟨by decide +kernel, by decide +kernel⟩, List.mem_of_getElem? (i := 1191) (by decide +kernel), List.mem_of_getElem? (i := 1584) (by decide +kernel), List.mem_of_getElem? (i := 1585) (by decide +kernel)⟩
theorem lw_p72 : lw_okq (⟨"LakeLearnsModel", "counts", "(I)V"⟩, 48) := ⟨⟨by decide +kernel, by decide +kernel⟩, List.mem_of_getElem? (i := 1191) (by decide +kernel), List.mem_of_getElem? (i := 1588) (by decide +kernel), List.mem_of_getElem? (i := 1589) (by decide +kernel)⟩
theorem lw_p73 : lw_okq (⟨"LakeLearnsModel", "unlearns", "(I)V"⟩, 48) := ⟨⟨by decide +kernel, by decide +kernel⟩, List.mem_of_getElem? (i := 1191) (by decide +kernel), List.mem_of_getElem? (i := 1592) (by decide +kernel), List.mem_of_getElem? (i := 1593) (by decide +kernel)⟩
theorem lw_p74 : lw_okq (⟨"LakeLearnsModel", "isPractised", "(I)Z"⟩, 48) := ⟨⟨by decide +kernel, by decide +kernel⟩, List.mem_of_getElem? (i := 1191) (by decide +kernel), List.mem_of_getElem? (i := 1596) (by decide +kernel), List.mem_of_getElem? (i := 1597) (by decide +kernel)⟩
theorem lw_p75 : lw_okq (⟨"LakeLearnsModel", "isSet", "(I)Z"⟩, 48) := ⟨⟨by decide +kernel, by decide +kernel⟩, List.mem_of_getElem? (i := 1191) (by decide +kernel), List.mem_of_getElem? (i := 1608) (by decide +kernel), List.mem_of_getElem? (i := 1609) (by decide +kernel)⟩
theorem lw_p76 : lw_okq (⟨"LakeLearnsModel", "heightsOf", "(II)I"⟩, 48) := ⟨⟨by decide +kernel, by decide +kernel⟩, List.mem_of_getElem? (i := 1191) (by decide +kernel), List.mem_of_getElem? (i := 1612) (by decide +kernel), List.mem_of_getElem? (i := 1613) (by decide +kernel)⟩
theorem lw_p77 : lw_okq (⟨"LakeLearnsModel", "wavesOf", "(II)I"⟩, 48) := ⟨⟨by decide +kernel, by decide +kernel⟩, List.mem_of_getElem? (i := 1191) (by decide +kernel), List.mem_of_getElem? (i := 1620) (by decide +kernel), List.mem_of_getElem? (i := 1621) (by decide +kernel)⟩
theorem lw_p78 : lw_okq (⟨"LakeLearnsModel", "octet", "(I)I"⟩, 48) := ⟨⟨by decide +kernel, by decide +kernel⟩, List.mem_of_getElem? (i := 1191) (by decide +kernel), List.mem_of_getElem? (i := 1636) (by decide +kernel), List.mem_of_getElem? (i := 1637) (by decide +kernel)⟩
theorem lw_p79 : lw_okq (⟨"LakeLearnsModel", "heightsAt", "(I)I"⟩, 48) := ⟨⟨by decide +kernel, by decide +kernel⟩, List.mem_of_getElem? (i := 1191) (by decide +kernel), List.mem_of_getElem? (i := 1640) (by decide +kernel), List.mem_of_getElem? (i := 1641) (by decide +kernel)⟩
def lw_privs_5 : List (MethodName × Nat) := [(⟨"LakeLearnsModel", "whyRing", "()I"⟩, 48), (⟨"LakeLearnsModel", "rings", "(I)V"⟩, 48), (⟨"LakeLearnsModel", "moves", "(II)V"⟩, 48), (⟨"LakeLearnsModel", "longest", "(II)I"⟩, 48), (⟨"LakeLearnsModel", "whySail", "(II)I"⟩, 48), (⟨"LakeLearnsModel", "sails", "(II)V"⟩, 48), (⟨"LakeLearnsModel", "goesOn", "(I)I"⟩, 48), (⟨"LakeLearnsModel", "day", "()V"⟩, 48), (⟨"LakeLearnsModel", "counts", "(I)V"⟩, 48), (⟨"LakeLearnsModel", "unlearns", "(I)V"⟩, 48), (⟨"LakeLearnsModel", "isPractised", "(I)Z"⟩, 48), (⟨"LakeLearnsModel", "isSet", "(I)Z"⟩, 48), (⟨"LakeLearnsModel", "heightsOf", "(II)I"⟩, 48), (⟨"LakeLearnsModel", "wavesOf", "(II)I"⟩, 48), (⟨"LakeLearnsModel", "octet", "(I)I"⟩, 48), (⟨"LakeLearnsModel", "heightsAt", "(I)I"⟩, 48)]
theorem lw_r5 : ∀ q ∈ lw_privs_5, lw_okq q := List.forall_mem_cons.mpr ⟨lw_p64, List.forall_mem_cons.mpr ⟨lw_p65, List.forall_mem_cons.mpr ⟨lw_p66, List.forall_mem_cons.mpr ⟨lw_p67, List.forall_mem_cons.mpr ⟨lw_p68, List.forall_mem_cons.mpr ⟨lw_p69, List.forall_mem_cons.mpr ⟨lw_p70, List.forall_mem_cons.mpr ⟨lw_p71, List.forall_mem_cons.mpr ⟨lw_p72, List.forall_mem_cons.mpr ⟨lw_p73, List.forall_mem_cons.mpr ⟨lw_p74, List.forall_mem_cons.mpr ⟨lw_p75, List.forall_mem_cons.mpr ⟨lw_p76, List.forall_mem_cons.mpr ⟨lw_p77, List.forall_mem_cons.mpr ⟨lw_p78, List.forall_mem_cons.mpr ⟨lw_p79, fun _ h => absurd h List.not_mem_nil⟩⟩⟩⟩⟩⟩⟩⟩⟩⟩⟩⟩⟩⟩⟩⟩
theorem lw_p80 : lw_okq (⟨"LakeLearnsModel", "answersAt", "(I)I"⟩, 48) := ⟨⟨by decide +kernel, by decide +kernel⟩, List.mem_of_getElem? (i := 1191) (by decide +kernel), List.mem_of_getElem? (i := 1644) (by decide +kernel), List.mem_of_getElem? (i := 1645) (by decide +kernel)⟩
theorem lw_p81 : lw_okq (⟨"LakeLearnsModel", "needsOf", "(I)I"⟩, 48) := ⟨⟨by decide +kernel, by decide +kernel⟩, List.mem_of_getElem? (i := 1191) (by decide +kernel), List.mem_of_getElem? (i := 1664) (by decide +kernel), List.mem_of_getElem? (i := 1665) (by decide +kernel)⟩
theorem lw_p82 : lw_okq (⟨"LakeLearnsModel", "pairAt", "(IZ)I"⟩, 48) := ⟨⟨by decide +kernel, by decide +kernel⟩, List.mem_of_getElem? (i := 1191) (by decide +kernel), List.mem_of_getElem? (i := 1676) (by decide +kernel), List.mem_of_getElem? (i := 1677) (by decide +kernel)⟩
theorem lw_p83 : lw_okq (⟨"LakeLearnsModel", "isPair", "(IIZ)Z"⟩, 48) := ⟨⟨by decide +kernel, by decide +kernel⟩, List.mem_of_getElem? (i := 1191) (by decide +kernel), List.mem_of_getElem? (i := 1680) (by decide +kernel), List.mem_of_getElem? (i := 1681) (by decide +kernel)⟩
theorem lw_p84 : lw_okq (⟨"LakeLearnsModel", "draws", "(II)I"⟩, 48) := ⟨⟨by decide +kernel, by decide +kernel⟩, List.mem_of_getElem? (i := 1191) (by decide +kernel), List.mem_of_getElem? (i := 1708) (by decide +kernel), List.mem_of_getElem? (i := 1709) (by decide +kernel)⟩
theorem lw_p85 : lw_okq (⟨"LakeLearnsModel", "draw", "(I)I"⟩, 48) := ⟨⟨by decide +kernel, by decide +kernel⟩, List.mem_of_getElem? (i := 1191) (by decide +kernel), List.mem_of_getElem? (i := 1712) (by decide +kernel), List.mem_of_getElem? (i := 1713) (by decide +kernel)⟩
theorem lw_p86 : lw_okq (⟨"LakeLearnsModel", "tries", "()V"⟩, 48) := ⟨⟨by decide +kernel, by decide +kernel⟩, List.mem_of_getElem? (i := 1191) (by decide +kernel), List.mem_of_getElem? (i := 1721) (by decide +kernel), List.mem_of_getElem? (i := 1722) (by decide +kernel)⟩
theorem lw_p87 : lw_okq (⟨"LakeLearnsModel", "back", "()V"⟩, 48) := ⟨⟨by decide +kernel, by decide +kernel⟩, List.mem_of_getElem? (i := 1191) (by decide +kernel), List.mem_of_getElem? (i := 1725) (by decide +kernel), List.mem_of_getElem? (i := 1726) (by decide +kernel)⟩
theorem lw_p88 : lw_okq (⟨"LakeLearnsModel", "diaryLine", "()Z"⟩, 48) := ⟨⟨by decide +kernel, by decide +kernel⟩, List.mem_of_getElem? (i := 1191) (by decide +kernel), List.mem_of_getElem? (i := 1733) (by decide +kernel), List.mem_of_getElem? (i := 1734) (by decide +kernel)⟩
theorem lw_p89 : lw_okq (⟨"LakeLearnsModel", "lives", "(III)I"⟩, 48) := ⟨⟨by decide +kernel, by decide +kernel⟩, List.mem_of_getElem? (i := 1191) (by decide +kernel), List.mem_of_getElem? (i := 1737) (by decide +kernel), List.mem_of_getElem? (i := 1738) (by decide +kernel)⟩
theorem lw_p90 : lw_okq (⟨"LakeLearnsModel", "nots", "()V"⟩, 48) := ⟨⟨by decide +kernel, by decide +kernel⟩, List.mem_of_getElem? (i := 1191) (by decide +kernel), List.mem_of_getElem? (i := 1749) (by decide +kernel), List.mem_of_getElem? (i := 1750) (by decide +kernel)⟩
theorem lw_p91 : lw_okq (⟨"LakeLearnsModel", "code", "(III)V"⟩, 48) := ⟨⟨by decide +kernel, by decide +kernel⟩, List.mem_of_getElem? (i := 1191) (by decide +kernel), List.mem_of_getElem? (i := 1753) (by decide +kernel), List.mem_of_getElem? (i := 1754) (by decide +kernel)⟩
theorem lw_p92 : lw_okq (⟨"LakeLearnsModel", "joins", "(I)V"⟩, 48) := ⟨⟨by decide +kernel, by decide +kernel⟩, List.mem_of_getElem? (i := 1191) (by decide +kernel), List.mem_of_getElem? (i := 1757) (by decide +kernel), List.mem_of_getElem? (i := 1758) (by decide +kernel)⟩
theorem lw_p93 : lw_okq (⟨"LakeLearnsModel", "behind", "()Z"⟩, 48) := ⟨⟨by decide +kernel, by decide +kernel⟩, List.mem_of_getElem? (i := 1191) (by decide +kernel), List.mem_of_getElem? (i := 1761) (by decide +kernel), List.mem_of_getElem? (i := 1762) (by decide +kernel)⟩
theorem lw_p94 : lw_okq (⟨"LakeLearnsModel", "operand", "()Z"⟩, 48) := ⟨⟨by decide +kernel, by decide +kernel⟩, List.mem_of_getElem? (i := 1191) (by decide +kernel), List.mem_of_getElem? (i := 1765) (by decide +kernel), List.mem_of_getElem? (i := 1766) (by decide +kernel)⟩
theorem lw_p95 : lw_okq (⟨"LakeLearnsModel", "leafOf", "()I"⟩, 48) := ⟨⟨by decide +kernel, by decide +kernel⟩, List.mem_of_getElem? (i := 1191) (by decide +kernel), List.mem_of_getElem? (i := 1769) (by decide +kernel), List.mem_of_getElem? (i := 1770) (by decide +kernel)⟩
def lw_privs_6 : List (MethodName × Nat) := [(⟨"LakeLearnsModel", "answersAt", "(I)I"⟩, 48), (⟨"LakeLearnsModel", "needsOf", "(I)I"⟩, 48), (⟨"LakeLearnsModel", "pairAt", "(IZ)I"⟩, 48), (⟨"LakeLearnsModel", "isPair", "(IIZ)Z"⟩, 48), (⟨"LakeLearnsModel", "draws", "(II)I"⟩, 48), (⟨"LakeLearnsModel", "draw", "(I)I"⟩, 48), (⟨"LakeLearnsModel", "tries", "()V"⟩, 48), (⟨"LakeLearnsModel", "back", "()V"⟩, 48), (⟨"LakeLearnsModel", "diaryLine", "()Z"⟩, 48), (⟨"LakeLearnsModel", "lives", "(III)I"⟩, 48), (⟨"LakeLearnsModel", "nots", "()V"⟩, 48), (⟨"LakeLearnsModel", "code", "(III)V"⟩, 48), (⟨"LakeLearnsModel", "joins", "(I)V"⟩, 48), (⟨"LakeLearnsModel", "behind", "()Z"⟩, 48), (⟨"LakeLearnsModel", "operand", "()Z"⟩, 48), (⟨"LakeLearnsModel", "leafOf", "()I"⟩, 48)]
theorem lw_r6 : ∀ q ∈ lw_privs_6, lw_okq q := List.forall_mem_cons.mpr ⟨lw_p80, List.forall_mem_cons.mpr ⟨lw_p81, List.forall_mem_cons.mpr ⟨lw_p82, List.forall_mem_cons.mpr ⟨lw_p83, List.forall_mem_cons.mpr ⟨lw_p84, List.forall_mem_cons.mpr ⟨lw_p85, List.forall_mem_cons.mpr ⟨lw_p86, List.forall_mem_cons.mpr ⟨lw_p87, List.forall_mem_cons.mpr ⟨lw_p88, List.forall_mem_cons.mpr ⟨lw_p89, List.forall_mem_cons.mpr ⟨lw_p90, List.forall_mem_cons.mpr ⟨lw_p91, List.forall_mem_cons.mpr ⟨lw_p92, List.forall_mem_cons.mpr ⟨lw_p93, List.forall_mem_cons.mpr ⟨lw_p94, List.forall_mem_cons.mpr ⟨lw_p95, fun _ h => absurd h List.not_mem_nil⟩⟩⟩⟩⟩⟩⟩⟩⟩⟩⟩⟩⟩⟩⟩⟩
theorem lw_p96 : lw_okq (⟨"LakeLearnsModel", "isSaid", "(I)Z"⟩, 48) := ⟨⟨by decide +kernel, by decide +kernel⟩, List.mem_of_getElem? (i := 1191) (by decide +kernel), List.mem_of_getElem? (i := 1777) (by decide +kernel), List.mem_of_getElem? (i := 1778) (by decide +kernel)⟩
theorem lw_p97 : lw_okq (⟨"LakeLearnsModel", "isLeaf", "(IIII)Z"⟩, 48) := ⟨⟨by decide +kernel, by decide +kernel⟩, List.mem_of_getElem? (i := 1191) (by decide +kernel), List.mem_of_getElem? (i := 1781) (by decide +kernel), List.mem_of_getElem? (i := 1782) (by decide +kernel)⟩
def lw_privs_7 : List (MethodName × Nat) := [(⟨"LakeLearnsModel", "isSaid", "(I)Z"⟩, 48), (⟨"LakeLearnsModel", "isLeaf", "(IIII)Z"⟩, 48)]
theorem lw_r7 : ∀ q ∈ lw_privs_7, lw_okq q := List.forall_mem_cons.mpr ⟨lw_p96, List.forall_mem_cons.mpr ⟨lw_p97, fun _ h => absurd h List.not_mem_nil⟩⟩
def lw_privs : List (MethodName × Nat) := lw_privs_1 ++ (lw_privs_2 ++ (lw_privs_3 ++ (lw_privs_4 ++ (lw_privs_5 ++ (lw_privs_6 ++ (lw_privs_7))))))
def lw_tbl : List Cond := k2_sels lw_privs ++ tables_1
theorem lw_privs_ok : ∀ q ∈ lw_privs, lw_okq q := by
  show ∀ q ∈ lw_privs_1 ++ (lw_privs_2 ++ (lw_privs_3 ++ (lw_privs_4 ++ (lw_privs_5 ++ (lw_privs_6 ++ (lw_privs_7)))))), lw_okq q
  exact List.forall_mem_append.mpr ⟨lw_r1, List.forall_mem_append.mpr ⟨lw_r2, List.forall_mem_append.mpr ⟨lw_r3, List.forall_mem_append.mpr ⟨lw_r4, List.forall_mem_append.mpr ⟨lw_r5, List.forall_mem_append.mpr ⟨lw_r6, lw_r7⟩⟩⟩⟩⟩⟩
end
section
def RX0 : String := "LakeLearns$Diary"
def TX0 : u_T := fun k => match k with
  | 0 => ("LakeLearns$Diary", "act", "[I", true)
  | 1 => ("LakeLearns$Diary", "who", "[I", true)
  | 2 => ("LakeLearns$Diary", "what", "[I", true)
  | _ => ("LakeLearns$Diary", "lines", "I", false)
def tyX0 : Nat → FieldType := fun k => match k with
  | 0 => .array .int
  | 1 => .array .int
  | 2 => .array .int
  | _ => .int
abbrev wsX00 : List Cond := u_ws RX0 TX0 4
theorem nmX0 : ∀ a, a < 4 → ∀ b, b < 4 → a ≠ b → (TX0 a).2.1 ≠ (TX0 b).2.1 := by decide +kernel
theorem tyX0_ok : ∀ k, k < 4 → parseFieldDescriptor (TX0 k).2.2.1 = some (tyX0 k) := by decide +kernel
abbrev cX0_init : ByteArray := prog_2_method_1_code
def yX0_init : MethodName := ⟨RX0, "<init>", "()V"⟩
abbrev cX0_readLines : ByteArray := prog_2_method_2_code
def yX0_readLines : MethodName := ⟨RX0, "readLines", "(LLakeLearns$Reader;LLakeLearns$Lake;)Z"⟩
abbrev cX0_readLine : ByteArray := prog_2_method_3_code
def yX0_readLine : MethodName := ⟨RX0, "readLine", "(LLakeLearns$Reader;LLakeLearns$Lake;)Z"⟩
abbrev cX0_readWhat : ByteArray := prog_2_method_4_code
def yX0_readWhat : MethodName := ⟨RX0, "readWhat", "(LLakeLearns$Reader;LLakeLearns$Lake;I)I"⟩
abbrev cX0_liveLines : ByteArray := prog_2_method_5_code
def yX0_liveLines : MethodName := ⟨RX0, "liveLines", "(LLakeLearns$Lake;LLakeLearns$Life;[I)I"⟩
abbrev cX0_liveLine : ByteArray := prog_2_method_6_code
def yX0_liveLine : MethodName := ⟨RX0, "liveLine", "(LLakeLearns$Lake;LLakeLearns$Life;I)I"⟩
abbrev cX0_liveShow : ByteArray := prog_2_method_7_code
def yX0_liveShow : MethodName := ⟨RX0, "liveShow", "(LLakeLearns$Lake;LLakeLearns$Life;II)I"⟩
abbrev cX0_liveRing : ByteArray := prog_2_method_8_code
def yX0_liveRing : MethodName := ⟨RX0, "liveRing", "(LLakeLearns$Lake;LLakeLearns$Life;I)I"⟩
abbrev cX0_liveSail : ByteArray := prog_2_method_9_code
def yX0_liveSail : MethodName := ⟨RX0, "liveSail", "(LLakeLearns$Lake;LLakeLearns$Life;II)I"⟩
abbrev cX0_liveDays : ByteArray := prog_2_method_10_code
def yX0_liveDays : MethodName := ⟨RX0, "liveDays", "(LLakeLearns$Lake;LLakeLearns$Life;I)I"⟩
def RX1 : String := "LakeLearns$Draw"
def TX1 : u_T := fun k => match k with
  | _ => ("LakeLearns$Draw", "x", "I", false)
def tyX1 : Nat → FieldType := fun k => match k with
  | _ => .int
abbrev wsX10 : List Cond := u_ws RX1 TX1 1
theorem nmX1 : ∀ a, a < 1 → ∀ b, b < 1 → a ≠ b → (TX1 a).2.1 ≠ (TX1 b).2.1 := by decide +kernel
theorem tyX1_ok : ∀ k, k < 1 → parseFieldDescriptor (TX1 k).2.2.1 = some (tyX1 k) := by decide +kernel
abbrev cX1_init : ByteArray := prog_3_method_1_code
def yX1_init : MethodName := ⟨RX1, "<init>", "()V"⟩
abbrev cX1_of : ByteArray := prog_3_method_2_code
def yX1_of : MethodName := ⟨RX1, "of", "(I)I"⟩
abbrev cX1_liveDrawn : ByteArray := prog_3_method_3_code
def yX1_liveDrawn : MethodName := ⟨RX1, "liveDrawn", "(LLakeLearns$Lake;LLakeLearns$Life;II)V"⟩
abbrev cX1_drawDay : ByteArray := prog_3_method_4_code
def yX1_drawDay : MethodName := ⟨RX1, "drawDay", "(LLakeLearns$Lake;LLakeLearns$Life;)V"⟩
def RX2 : String := "LakeLearns$Guess"
def TX2 : u_T := fun k => match k with
  | 0 => ("LakeLearns$Guess", "inEach", "I", false)
  | 1 => ("LakeLearns$Guess", "inNone", "I", false)
  | 2 => ("LakeLearns$Guess", "bestCue", "I", false)
  | 3 => ("LakeLearns$Guess", "heard", "[I", true)
  | 4 => ("LakeLearns$Guess", "contradicts", "Z", false)
  | 5 => ("LakeLearns$Guess", "sets", "[I", true)
  | 6 => ("LakeLearns$Guess", "held", "I", false)
  | _ => ("LakeLearns$Guess", "unlike", "[I", true)
def tyX2 : Nat → FieldType := fun k => match k with
  | 0 => .int
  | 1 => .int
  | 2 => .int
  | 3 => .array .int
  | 4 => .boolean
  | 5 => .array .int
  | 6 => .int
  | _ => .array .int
abbrev wsX20 : List Cond := u_ws RX2 TX2 8
theorem nmX2 : ∀ a, a < 8 → ∀ b, b < 8 → a ≠ b → (TX2 a).2.1 ≠ (TX2 b).2.1 := by decide +kernel
theorem tyX2_ok : ∀ k, k < 8 → parseFieldDescriptor (TX2 k).2.2.1 = some (tyX2 k) := by decide +kernel
abbrev cX2_init : ByteArray := prog_4_method_1_code
def yX2_init : MethodName := ⟨RX2, "<init>", "()V"⟩
abbrev cX2_judge : ByteArray := prog_4_method_2_code
def yX2_judge : MethodName := ⟨RX2, "judge", "(LLakeLearns$Lake;[BI)I"⟩
abbrev cX2_listen : ByteArray := prog_4_method_3_code
def yX2_listen : MethodName := ⟨RX2, "listen", "(LLakeLearns$Lake;[BI)Z"⟩
abbrev cX2_findSets : ByteArray := prog_4_method_4_code
def yX2_findSets : MethodName := ⟨RX2, "findSets", "(LLakeLearns$Lake;)V"⟩
abbrev cX2_explains : ByteArray := prog_4_method_5_code
def yX2_explains : MethodName := ⟨RX2, "explains", "(LLakeLearns$Lake;I)Z"⟩
abbrev cX2_judgeLessons : ByteArray := prog_4_method_6_code
def yX2_judgeLessons : MethodName := ⟨RX2, "judgeLessons", "(LLakeLearns$Lake;)V"⟩
abbrev cX2_judgeCues : ByteArray := prog_4_method_7_code
def yX2_judgeCues : MethodName := ⟨RX2, "judgeCues", "(LLakeLearns$Lake;)V"⟩
abbrev cX2_countUnlike : ByteArray := prog_4_method_8_code
def yX2_countUnlike : MethodName := ⟨RX2, "countUnlike", "(LLakeLearns$Lake;I)I"⟩
def RX3 : String := "LakeLearns$Image"
def TX3 : u_T := fun k => match k with
  | 0 => ("LakeLearns$Image", "lake", "LLakeLearns$Lake;", true)
  | 1 => ("LakeLearns$Image", "life", "LLakeLearns$Life;", true)
  | 2 => ("LakeLearns$Image", "spoken", "LLakeLearns$Sentence;", true)
  | _ => ("LakeLearns$Image", "kept", "Z", false)
def tyX3 : Nat → FieldType := fun k => match k with
  | 0 => .object "LakeLearns$Lake"
  | 1 => .object "LakeLearns$Life"
  | 2 => .object "LakeLearns$Sentence"
  | _ => .boolean
abbrev wsX30 : List Cond := u_ws RX3 TX3 4
theorem nmX3 : ∀ a, a < 4 → ∀ b, b < 4 → a ≠ b → (TX3 a).2.1 ≠ (TX3 b).2.1 := by decide +kernel
theorem tyX3_ok : ∀ k, k < 4 → parseFieldDescriptor (TX3 k).2.2.1 = some (tyX3 k) := by decide +kernel
abbrev cX3_init : ByteArray := prog_5_method_1_code
def yX3_init : MethodName := ⟨RX3, "<init>", "()V"⟩
def RX4 : String := "LakeLearns$Lake"
def TX4 : u_T := fun k => match k with
  | 0 => ("LakeLearns$Lake", "setting", "[I", true)
  | 1 => ("LakeLearns$Lake", "iceLong", "I", false)
  | 2 => ("LakeLearns$Lake", "counts", "[I", true)
  | 3 => ("LakeLearns$Lake", "cueOf", "[I", true)
  | 4 => ("LakeLearns$Lake", "ofCue", "[I", true)
  | 5 => ("LakeLearns$Lake", "steps", "[I", true)
  | 6 => ("LakeLearns$Lake", "stepTold", "[I", true)
  | 7 => ("LakeLearns$Lake", "leaves", "[I", true)
  | 8 => ("LakeLearns$Lake", "pier", "[I", true)
  | 9 => ("LakeLearns$Lake", "nameCode", "[J", true)
  | 10 => ("LakeLearns$Lake", "nameSort", "[I", true)
  | 11 => ("LakeLearns$Lake", "nameNumber", "[I", true)
  | _ => ("LakeLearns$Lake", "names", "I", false)
def tyX4 : Nat → FieldType := fun k => match k with
  | 0 => .array .int
  | 1 => .int
  | 2 => .array .int
  | 3 => .array .int
  | 4 => .array .int
  | 5 => .array .int
  | 6 => .array .int
  | 7 => .array .int
  | 8 => .array .int
  | 9 => .array .long
  | 10 => .array .int
  | 11 => .array .int
  | _ => .int
abbrev wsX40 : List Cond := u_ws RX4 TX4 13
theorem nmX4 : ∀ a, a < 13 → ∀ b, b < 13 → a ≠ b → (TX4 a).2.1 ≠ (TX4 b).2.1 := by decide +kernel
theorem tyX4_ok : ∀ k, k < 13 → parseFieldDescriptor (TX4 k).2.2.1 = some (tyX4 k) := by decide +kernel
abbrev cX4_init : ByteArray := prog_6_method_1_code
def yX4_init : MethodName := ⟨RX4, "<init>", "()V"⟩
abbrev cX4_clear : ByteArray := prog_6_method_2_code
def yX4_clear : MethodName := ⟨RX4, "clear", "()V"⟩
abbrev cX4_copyFrom : ByteArray := prog_6_method_3_code
def yX4_copyFrom : MethodName := ⟨RX4, "copyFrom", "(LLakeLearns$Lake;)V"⟩
abbrev cX4_has : ByteArray := prog_6_method_4_code
def yX4_has : MethodName := ⟨RX4, "has", "(II)Z"⟩
abbrev cX4_hasCell : ByteArray := prog_6_method_5_code
def yX4_hasCell : MethodName := ⟨RX4, "hasCell", "(I)Z"⟩
abbrev cX4_hasLessons : ByteArray := prog_6_method_6_code
def yX4_hasLessons : MethodName := ⟨RX4, "hasLessons", "(I)Z"⟩
abbrev cX4_find : ByteArray := prog_6_method_7_code
def yX4_find : MethodName := ⟨RX4, "find", "(J)I"⟩
abbrev cX4_addName : ByteArray := prog_6_method_8_code
def yX4_addName : MethodName := ⟨RX4, "addName", "(IJ)I"⟩
abbrev cX4_addStep : ByteArray := prog_6_method_9_code
def yX4_addStep : MethodName := ⟨RX4, "addStep", "(III)V"⟩
abbrev cX4_added : ByteArray := prog_6_method_10_code
def yX4_added : MethodName := ⟨RX4, "added", "(II)I"⟩
abbrev cX4_heightsBehind : ByteArray := prog_6_method_11_code
def yX4_heightsBehind : MethodName := ⟨RX4, "heightsBehind", "(II)I"⟩
abbrev cX4_wavesAt : ByteArray := prog_6_method_12_code
def yX4_wavesAt : MethodName := ⟨RX4, "wavesAt", "(II)I"⟩
abbrev cX4_cellsOf : ByteArray := prog_6_method_13_code
def yX4_cellsOf : MethodName := ⟨RX4, "cellsOf", "(I)I"⟩
abbrev cX4_areHeights : ByteArray := prog_6_method_14_code
def yX4_areHeights : MethodName := ⟨RX4, "areHeights", "([BI)Z"⟩
abbrev cX4_packHeights : ByteArray := prog_6_method_15_code
def yX4_packHeights : MethodName := ⟨RX4, "packHeights", "([BI)I"⟩
abbrev cX4_areStill : ByteArray := prog_6_method_16_code
def yX4_areStill : MethodName := ⟨RX4, "areStill", "(II)Z"⟩
abbrev cX4_isIce : ByteArray := prog_6_method_17_code
def yX4_isIce : MethodName := ⟨RX4, "isIce", "(I)Z"⟩
abbrev cX4_daysTillIce : ByteArray := prog_6_method_18_code
def yX4_daysTillIce : MethodName := ⟨RX4, "daysTillIce", "(I)I"⟩
abbrev cX4_practisesOn : ByteArray := prog_6_method_19_code
def yX4_practisesOn : MethodName := ⟨RX4, "practisesOn", "(I)Z"⟩
def RX5 : String := "LakeLearns$LakeReader"
def TX5 : u_T := fun k => match k with
  | 0 => ("LakeLearns$LakeReader", "reader", "LLakeLearns$Reader;", true)
  | 1 => ("LakeLearns$LakeReader", "draft", "LLakeLearns$Lake;", true)
  | _ => ("LakeLearns$LakeReader", "toldOnce", "I", false)
def tyX5 : Nat → FieldType := fun k => match k with
  | 0 => .object "LakeLearns$Reader"
  | 1 => .object "LakeLearns$Lake"
  | _ => .int
abbrev wsX50 : List Cond := u_ws RX5 TX5 3
theorem nmX5 : ∀ a, a < 3 → ∀ b, b < 3 → a ≠ b → (TX5 a).2.1 ≠ (TX5 b).2.1 := by decide +kernel
theorem tyX5_ok : ∀ k, k < 3 → parseFieldDescriptor (TX5 k).2.2.1 = some (tyX5 k) := by decide +kernel
abbrev cX5_init : ByteArray := prog_7_method_1_code
def yX5_init : MethodName := ⟨RX5, "<init>", "(LLakeLearns$Reader;)V"⟩
abbrev cX5_readLines : ByteArray := prog_7_method_2_code
def yX5_readLines : MethodName := ⟨RX5, "readLines", "()I"⟩
abbrev cX5_readSetting : ByteArray := prog_7_method_3_code
def yX5_readSetting : MethodName := ⟨RX5, "readSetting", "(I)Z"⟩
abbrev cX5_readIceLong : ByteArray := prog_7_method_4_code
def yX5_readIceLong : MethodName := ⟨RX5, "readIceLong", "(I)Z"⟩
abbrev cX5_readNamed : ByteArray := prog_7_method_5_code
def yX5_readNamed : MethodName := ⟨RX5, "readNamed", "(I)Z"⟩
abbrev cX5_readLesson : ByteArray := prog_7_method_6_code
def yX5_readLesson : MethodName := ⟨RX5, "readLesson", "(I)Z"⟩
abbrev cX5_readStep : ByteArray := prog_7_method_7_code
def yX5_readStep : MethodName := ⟨RX5, "readStep", "(I)Z"⟩
abbrev cX5_readPier : ByteArray := prog_7_method_8_code
def yX5_readPier : MethodName := ⟨RX5, "readPier", "(I)Z"⟩
def RX6 : String := "LakeLearns$Life"
def TX6 : u_T := fun k => match k with
  | 0 => ("LakeLearns$Life", "day", "I", false)
  | 1 => ("LakeLearns$Life", "rings", "I", false)
  | 2 => ("LakeLearns$Life", "showings", "I", false)
  | 3 => ("LakeLearns$Life", "known", "I", false)
  | 4 => ("LakeLearns$Life", "today", "I", false)
  | 5 => ("LakeLearns$Life", "wet", "I", false)
  | 6 => ("LakeLearns$Life", "heights", "I", false)
  | 7 => ("LakeLearns$Life", "shower", "[I", true)
  | 8 => ("LakeLearns$Life", "times", "[I", true)
  | 9 => ("LakeLearns$Life", "by", "[I", true)
  | 10 => ("LakeLearns$Life", "kept", "[I", true)
  | 11 => ("LakeLearns$Life", "done", "[I", true)
  | 12 => ("LakeLearns$Life", "forgotten", "[I", true)
  | 13 => ("LakeLearns$Life", "berth", "[I", true)
  | 14 => ("LakeLearns$Life", "soaked", "[I", true)
  | _ => ("LakeLearns$Life", "voyages", "[I", true)
def tyX6 : Nat → FieldType := fun k => match k with
  | 0 => .int
  | 1 => .int
  | 2 => .int
  | 3 => .int
  | 4 => .int
  | 5 => .int
  | 6 => .int
  | 7 => .array .int
  | 8 => .array .int
  | 9 => .array .int
  | 10 => .array .int
  | 11 => .array .int
  | 12 => .array .int
  | 13 => .array .int
  | 14 => .array .int
  | _ => .array .int
abbrev wsX60 : List Cond := u_ws RX6 TX6 16
theorem nmX6 : ∀ a, a < 16 → ∀ b, b < 16 → a ≠ b → (TX6 a).2.1 ≠ (TX6 b).2.1 := by decide +kernel
theorem tyX6_ok : ∀ k, k < 16 → parseFieldDescriptor (TX6 k).2.2.1 = some (tyX6 k) := by decide +kernel
abbrev cX6_init : ByteArray := prog_8_method_1_code
def yX6_init : MethodName := ⟨RX6, "<init>", "()V"⟩
abbrev cX6_begin : ByteArray := prog_8_method_2_code
def yX6_begin : MethodName := ⟨RX6, "begin", "(LLakeLearns$Lake;)V"⟩
abbrev cX6_copyFrom : ByteArray := prog_8_method_3_code
def yX6_copyFrom : MethodName := ⟨RX6, "copyFrom", "(LLakeLearns$Life;)V"⟩
abbrev cX6_heightAt : ByteArray := prog_8_method_4_code
def yX6_heightAt : MethodName := ⟨RX6, "heightAt", "(I)I"⟩
abbrev cX6_daysLeft : ByteArray := prog_8_method_5_code
def yX6_daysLeft : MethodName := ⟨RX6, "daysLeft", "()I"⟩
abbrev cX6_confused : ByteArray := prog_8_method_6_code
def yX6_confused : MethodName := ⟨RX6, "confused", "(LLakeLearns$Lake;)I"⟩
abbrev cX6_needed : ByteArray := prog_8_method_7_code
def yX6_needed : MethodName := ⟨RX6, "needed", "(LLakeLearns$Lake;I)I"⟩
abbrev cX6_whyNotShown : ByteArray := prog_8_method_8_code
def yX6_whyNotShown : MethodName := ⟨RX6, "whyNotShown", "(LLakeLearns$Lake;I)I"⟩
abbrev cX6_beShown : ByteArray := prog_8_method_9_code
def yX6_beShown : MethodName := ⟨RX6, "beShown", "(II)V"⟩
abbrev cX6_whyNotRung : ByteArray := prog_8_method_10_code
def yX6_whyNotRung : MethodName := ⟨RX6, "whyNotRung", "(LLakeLearns$Lake;)I"⟩
abbrev cX6_hear : ByteArray := prog_8_method_11_code
def yX6_hear : MethodName := ⟨RX6, "hear", "(LLakeLearns$Lake;I)V"⟩
abbrev cX6_whyNotSailed : ByteArray := prog_8_method_12_code
def yX6_whyNotSailed : MethodName := ⟨RX6, "whyNotSailed", "(LLakeLearns$Lake;II)I"⟩
abbrev cX6_moveBoat : ByteArray := prog_8_method_13_code
def yX6_moveBoat : MethodName := ⟨RX6, "moveBoat", "(II)V"⟩
abbrev cX6_passDays : ByteArray := prog_8_method_14_code
def yX6_passDays : MethodName := ⟨RX6, "passDays", "(LLakeLearns$Lake;I)V"⟩
abbrev cX6_finishDay : ByteArray := prog_8_method_15_code
def yX6_finishDay : MethodName := ⟨RX6, "finishDay", "(LLakeLearns$Lake;)V"⟩
abbrev cX6_countShowings : ByteArray := prog_8_method_16_code
def yX6_countShowings : MethodName := ⟨RX6, "countShowings", "(LLakeLearns$Lake;)V"⟩
abbrev cX6_keepOrForget : ByteArray := prog_8_method_17_code
def yX6_keepOrForget : MethodName := ⟨RX6, "keepOrForget", "(LLakeLearns$Lake;I)V"⟩
abbrev cX6_unlearn : ByteArray := prog_8_method_18_code
def yX6_unlearn : MethodName := ⟨RX6, "unlearn", "(I)V"⟩
def RX7 : String := "LakeLearns$Past"
def TX7 : u_T := fun k => match k with
  | 0 => ("LakeLearns$Past", "lives", "[LLakeLearns$Life;", true)
  | 1 => ("LakeLearns$Past", "next", "I", false)
  | _ => ("LakeLearns$Past", "held", "I", false)
def tyX7 : Nat → FieldType := fun k => match k with
  | 0 => .array (.object "LakeLearns$Life")
  | 1 => .int
  | _ => .int
abbrev wsX70 : List Cond := u_ws RX7 TX7 3
theorem nmX7 : ∀ a, a < 3 → ∀ b, b < 3 → a ≠ b → (TX7 a).2.1 ≠ (TX7 b).2.1 := by decide +kernel
theorem tyX7_ok : ∀ k, k < 3 → parseFieldDescriptor (TX7 k).2.2.1 = some (tyX7 k) := by decide +kernel
abbrev cX7_init : ByteArray := prog_9_method_1_code
def yX7_init : MethodName := ⟨RX7, "<init>", "()V"⟩
abbrev cX7_forget : ByteArray := prog_9_method_2_code
def yX7_forget : MethodName := ⟨RX7, "forget", "()V"⟩
abbrev cX7_keep : ByteArray := prog_9_method_3_code
def yX7_keep : MethodName := ⟨RX7, "keep", "(LLakeLearns$Life;)V"⟩
abbrev cX7_takeBack : ByteArray := prog_9_method_4_code
def yX7_takeBack : MethodName := ⟨RX7, "takeBack", "(LLakeLearns$Life;)I"⟩
def RX8 : String := "LakeLearns$Reader"
def TX8 : u_T := fun k => match k with
  | 0 => ("LakeLearns$Reader", "text", "[B", true)
  | 1 => ("LakeLearns$Reader", "keyCodes", "[J", true)
  | 2 => ("LakeLearns$Reader", "length", "I", false)
  | 3 => ("LakeLearns$Reader", "most", "I", false)
  | 4 => ("LakeLearns$Reader", "at", "I", false)
  | 5 => ("LakeLearns$Reader", "kind", "I", false)
  | 6 => ("LakeLearns$Reader", "start", "I", false)
  | 7 => ("LakeLearns$Reader", "value", "I", false)
  | 8 => ("LakeLearns$Reader", "code", "J", false)
  | 9 => ("LakeLearns$Reader", "fault", "I", false)
  | _ => ("LakeLearns$Reader", "place", "I", false)
def tyX8 : Nat → FieldType := fun k => match k with
  | 0 => .array .byte
  | 1 => .array .long
  | 2 => .int
  | 3 => .int
  | 4 => .int
  | 5 => .int
  | 6 => .int
  | 7 => .int
  | 8 => .long
  | 9 => .int
  | _ => .int
abbrev wsX80 : List Cond := u_ws RX8 TX8 11
theorem nmX8 : ∀ a, a < 11 → ∀ b, b < 11 → a ≠ b → (TX8 a).2.1 ≠ (TX8 b).2.1 := by decide +kernel
theorem tyX8_ok : ∀ k, k < 11 → parseFieldDescriptor (TX8 k).2.2.1 = some (tyX8 k) := by decide +kernel
abbrev cX8_init : ByteArray := prog_10_method_1_code
def yX8_init : MethodName := ⟨RX8, "<init>", "([B)V"⟩
abbrev cX8_open : ByteArray := prog_10_method_2_code
def yX8_open : MethodName := ⟨RX8, "open", "(II)V"⟩
abbrev cX8_advance : ByteArray := prog_10_method_3_code
def yX8_advance : MethodName := ⟨RX8, "advance", "()V"⟩
abbrev cX8_readRun : ByteArray := prog_10_method_4_code
def yX8_readRun : MethodName := ⟨RX8, "readRun", "()V"⟩
abbrev cX8_keyOf : ByteArray := prog_10_method_5_code
def yX8_keyOf : MethodName := ⟨RX8, "keyOf", "(J)I"⟩
abbrev cX8_isSign : ByteArray := prog_10_method_6_code
def yX8_isSign : MethodName := ⟨RX8, "isSign", "(I)Z"⟩
abbrev cX8_fail : ByteArray := prog_10_method_7_code
def yX8_fail : MethodName := ⟨RX8, "fail", "(I)Z"⟩
abbrev cX8_isKey : ByteArray := prog_10_method_8_code
def yX8_isKey : MethodName := ⟨RX8, "isKey", "(I)Z"⟩
abbrev cX8_isSignNow : ByteArray := prog_10_method_9_code
def yX8_isSignNow : MethodName := ⟨RX8, "isSignNow", "(I)Z"⟩
abbrev cX8_passKey : ByteArray := prog_10_method_10_code
def yX8_passKey : MethodName := ⟨RX8, "passKey", "(I)Z"⟩
abbrev cX8_passSign : ByteArray := prog_10_method_11_code
def yX8_passSign : MethodName := ⟨RX8, "passSign", "(I)Z"⟩
abbrev cX8_passNumber : ByteArray := prog_10_method_12_code
def yX8_passNumber : MethodName := ⟨RX8, "passNumber", "(II)I"⟩
abbrev cX8_passName : ByteArray := prog_10_method_13_code
def yX8_passName : MethodName := ⟨RX8, "passName", "(LLakeLearns$Lake;I)I"⟩
def RX9 : String := "LakeLearns$Sentence"
def TX9 : u_T := fun k => match k with
  | 0 => ("LakeLearns$Sentence", "ones", "I", false)
  | 1 => ("LakeLearns$Sentence", "parts", "I", false)
  | 2 => ("LakeLearns$Sentence", "key", "[I", true)
  | 3 => ("LakeLearns$Sentence", "sign", "[I", true)
  | 4 => ("LakeLearns$Sentence", "number", "[I", true)
  | _ => ("LakeLearns$Sentence", "open", "[I", true)
def tyX9 : Nat → FieldType := fun k => match k with
  | 0 => .int
  | 1 => .int
  | 2 => .array .int
  | 3 => .array .int
  | 4 => .array .int
  | _ => .array .int
abbrev wsX90 : List Cond := u_ws RX9 TX9 6
theorem nmX9 : ∀ a, a < 6 → ∀ b, b < 6 → a ≠ b → (TX9 a).2.1 ≠ (TX9 b).2.1 := by decide +kernel
theorem tyX9_ok : ∀ k, k < 6 → parseFieldDescriptor (TX9 k).2.2.1 = some (tyX9 k) := by decide +kernel
abbrev cX9_init : ByteArray := prog_11_method_1_code
def yX9_init : MethodName := ⟨RX9, "<init>", "()V"⟩
abbrev cX9_forget : ByteArray := prog_11_method_2_code
def yX9_forget : MethodName := ⟨RX9, "forget", "()V"⟩
abbrev cX9_copyFrom : ByteArray := prog_11_method_3_code
def yX9_copyFrom : MethodName := ⟨RX9, "copyFrom", "(LLakeLearns$Sentence;)V"⟩
abbrev cX9_add : ByteArray := prog_11_method_4_code
def yX9_add : MethodName := ⟨RX9, "add", "(III)V"⟩
abbrev cX9_saidOf : ByteArray := prog_11_method_5_code
def yX9_saidOf : MethodName := ⟨RX9, "saidOf", "(LLakeLearns$Lake;LLakeLearns$Life;)I"⟩
abbrev cX9_saidByPart : ByteArray := prog_11_method_6_code
def yX9_saidByPart : MethodName := ⟨RX9, "saidByPart", "(LLakeLearns$Lake;LLakeLearns$Life;I)I"⟩
abbrev cX9_saidByTeacher : ByteArray := prog_11_method_7_code
def yX9_saidByTeacher : MethodName := ⟨RX9, "saidByTeacher", "(LLakeLearns$Lake;LLakeLearns$Life;I)I"⟩
abbrev cX9_saidByNumber : ByteArray := prog_11_method_8_code
def yX9_saidByNumber : MethodName := ⟨RX9, "saidByNumber", "(LLakeLearns$Lake;LLakeLearns$Life;I)I"⟩
abbrev cX9_measure : ByteArray := prog_11_method_9_code
def yX9_measure : MethodName := ⟨RX9, "measure", "(LLakeLearns$Lake;LLakeLearns$Life;II)I"⟩
def RX10 : String := "LakeLearns$SentenceReader"
def TX10 : u_T := fun k => match k with
  | 0 => ("LakeLearns$SentenceReader", "reader", "LLakeLearns$Reader;", true)
  | _ => ("LakeLearns$SentenceReader", "draft", "LLakeLearns$Sentence;", true)
def tyX10 : Nat → FieldType := fun k => match k with
  | 0 => .object "LakeLearns$Reader"
  | _ => .object "LakeLearns$Sentence"
abbrev wsX100 : List Cond := u_ws RX10 TX10 2
theorem nmX10 : ∀ a, a < 2 → ∀ b, b < 2 → a ≠ b → (TX10 a).2.1 ≠ (TX10 b).2.1 := by decide +kernel
theorem tyX10_ok : ∀ k, k < 2 → parseFieldDescriptor (TX10 k).2.2.1 = some (tyX10 k) := by decide +kernel
abbrev cX10_init : ByteArray := prog_12_method_1_code
def yX10_init : MethodName := ⟨RX10, "<init>", "(LLakeLearns$Reader;)V"⟩
abbrev cX10_readWhole : ByteArray := prog_12_method_2_code
def yX10_readWhole : MethodName := ⟨RX10, "readWhole", "(LLakeLearns$Lake;)Z"⟩
abbrev cX10_readCond : ByteArray := prog_12_method_3_code
def yX10_readCond : MethodName := ⟨RX10, "readCond", "(LLakeLearns$Lake;I)Z"⟩
abbrev cX10_readOne : ByteArray := prog_12_method_4_code
def yX10_readOne : MethodName := ⟨RX10, "readOne", "(LLakeLearns$Lake;I)Z"⟩
abbrev cX10_readPlain : ByteArray := prog_12_method_5_code
def yX10_readPlain : MethodName := ⟨RX10, "readPlain", "(LLakeLearns$Lake;I)Z"⟩
abbrev cX10_readMeasure : ByteArray := prog_12_method_6_code
def yX10_readMeasure : MethodName := ⟨RX10, "readMeasure", "(I)Z"⟩
def RX11 : String := "LakeLearns"
def TX11 : u_T := fun k => match k with
  | 0 => ("LakeLearns", "tape", "[B", true)
  | 1 => ("LakeLearns", "bytes", "I", false)
  | 2 => ("LakeLearns", "reader", "LLakeLearns$Reader;", true)
  | 3 => ("LakeLearns", "lakeReader", "LLakeLearns$LakeReader;", true)
  | 4 => ("LakeLearns", "sentenceReader", "LLakeLearns$SentenceReader;", true)
  | 5 => ("LakeLearns", "lake", "LLakeLearns$Lake;", true)
  | 6 => ("LakeLearns", "life", "LLakeLearns$Life;", true)
  | 7 => ("LakeLearns", "trial", "LLakeLearns$Life;", true)
  | 8 => ("LakeLearns", "past", "LLakeLearns$Past;", true)
  | 9 => ("LakeLearns", "spoken", "LLakeLearns$Sentence;", true)
  | 10 => ("LakeLearns", "images", "[LLakeLearns$Image;", true)
  | 11 => ("LakeLearns", "diary", "LLakeLearns$Diary;", true)
  | 12 => ("LakeLearns", "guess", "LLakeLearns$Guess;", true)
  | 13 => ("LakeLearns", "draw", "LLakeLearns$Draw;", true)
  | 14 => ("LakeLearns", "toldLast", "[I", true)
  | 15 => ("LakeLearns", "faultLast", "I", false)
  | _ => ("LakeLearns", "taughtLast", "I", false)
def tyX11 : Nat → FieldType := fun k => match k with
  | 0 => .array .byte
  | 1 => .int
  | 2 => .object "LakeLearns$Reader"
  | 3 => .object "LakeLearns$LakeReader"
  | 4 => .object "LakeLearns$SentenceReader"
  | 5 => .object "LakeLearns$Lake"
  | 6 => .object "LakeLearns$Life"
  | 7 => .object "LakeLearns$Life"
  | 8 => .object "LakeLearns$Past"
  | 9 => .object "LakeLearns$Sentence"
  | 10 => .array (.object "LakeLearns$Image")
  | 11 => .object "LakeLearns$Diary"
  | 12 => .object "LakeLearns$Guess"
  | 13 => .object "LakeLearns$Draw"
  | 14 => .array .int
  | 15 => .int
  | _ => .int
abbrev wsX110 : List Cond := u_ws RX11 TX11 17
theorem nmX11 : ∀ a, a < 17 → ∀ b, b < 17 → a ≠ b → (TX11 a).2.1 ≠ (TX11 b).2.1 := by decide +kernel
theorem tyX11_ok : ∀ k, k < 17 → parseFieldDescriptor (TX11 k).2.2.1 = some (tyX11 k) := by decide +kernel
abbrev cX11_init : ByteArray := prog_1_method_1_code
def yX11_init : MethodName := ⟨RX11, "<init>", "()V"⟩
abbrev cX11_feed : ByteArray := prog_1_method_2_code
def yX11_feed : MethodName := ⟨RX11, "feed", "(IIIII)I"⟩
abbrev cX11_append : ByteArray := prog_1_method_3_code
def yX11_append : MethodName := ⟨RX11, "append", "(I)V"⟩
abbrev cX11_end : ByteArray := prog_1_method_4_code
def yX11_end : MethodName := ⟨RX11, "end", "(I)Z"⟩
abbrev cX11_lake : ByteArray := prog_1_method_5_code
def yX11_lake : MethodName := ⟨RX11, "lake", "()I"⟩
abbrev cX11_openTape : ByteArray := prog_1_method_6_code
def yX11_openTape : MethodName := ⟨RX11, "openTape", "(I)V"⟩
abbrev cX11_fault : ByteArray := prog_1_method_7_code
def yX11_fault : MethodName := ⟨RX11, "fault", "()I"⟩
abbrev cX11_lesson : ByteArray := prog_1_method_8_code
def yX11_lesson : MethodName := ⟨RX11, "lesson", "(II)I"⟩
abbrev cX11_step : ByteArray := prog_1_method_9_code
def yX11_step : MethodName := ⟨RX11, "step", "(II)I"⟩
abbrev cX11_boat : ByteArray := prog_1_method_10_code
def yX11_boat : MethodName := ⟨RX11, "boat", "(II)I"⟩
abbrev cX11_height : ByteArray := prog_1_method_11_code
def yX11_height : MethodName := ⟨RX11, "height", "(I)I"⟩
abbrev cX11_now : ByteArray := prog_1_method_12_code
def yX11_now : MethodName := ⟨RX11, "now", "(I)I"⟩
abbrev cX11_show : ByteArray := prog_1_method_13_code
def yX11_show : MethodName := ⟨RX11, "show", "(II)I"⟩
abbrev cX11_ring : ByteArray := prog_1_method_14_code
def yX11_ring : MethodName := ⟨RX11, "ring", "(I)I"⟩
abbrev cX11_sail : ByteArray := prog_1_method_15_code
def yX11_sail : MethodName := ⟨RX11, "sail", "(II)I"⟩
abbrev cX11_days : ByteArray := prog_1_method_16_code
def yX11_days : MethodName := ⟨RX11, "days", "(I)I"⟩
abbrev cX11_undo : ByteArray := prog_1_method_17_code
def yX11_undo : MethodName := ⟨RX11, "undo", "()I"⟩
abbrev cX11_does : ByteArray := prog_1_method_18_code
def yX11_does : MethodName := ⟨RX11, "does", "(II)I"⟩
abbrev cX11_waves : ByteArray := prog_1_method_19_code
def yX11_waves : MethodName := ⟨RX11, "waves", "(II)I"⟩
abbrev cX11_dry : ByteArray := prog_1_method_20_code
def yX11_dry : MethodName := ⟨RX11, "dry", "(I)I"⟩
abbrev cX11_havens : ByteArray := prog_1_method_21_code
def yX11_havens : MethodName := ⟨RX11, "havens", "(I)I"⟩
abbrev cX11_learnt : ByteArray := prog_1_method_22_code
def yX11_learnt : MethodName := ⟨RX11, "learnt", "()I"⟩
abbrev cX11_surely : ByteArray := prog_1_method_23_code
def yX11_surely : MethodName := ⟨RX11, "surely", "()I"⟩
abbrev cX11_never : ByteArray := prog_1_method_24_code
def yX11_never : MethodName := ⟨RX11, "never", "()I"⟩
abbrev cX11_ask : ByteArray := prog_1_method_25_code
def yX11_ask : MethodName := ⟨RX11, "ask", "()I"⟩
abbrev cX11_teach : ByteArray := prog_1_method_26_code
def yX11_teach : MethodName := ⟨RX11, "teach", "(I)I"⟩
abbrev cX11_cheapest : ByteArray := prog_1_method_27_code
def yX11_cheapest : MethodName := ⟨RX11, "cheapest", "(II)I"⟩
abbrev cX11_taught : ByteArray := prog_1_method_28_code
def yX11_taught : MethodName := ⟨RX11, "taught", "()I"⟩
abbrev cX11_apart : ByteArray := prog_1_method_29_code
def yX11_apart : MethodName := ⟨RX11, "apart", "(I)I"⟩
abbrev cX11_still : ByteArray := prog_1_method_30_code
def yX11_still : MethodName := ⟨RX11, "still", "(I)I"⟩
abbrev cX11_pairs : ByteArray := prog_1_method_31_code
def yX11_pairs : MethodName := ⟨RX11, "pairs", "(IZ)I"⟩
abbrev cX11_lasts : ByteArray := prog_1_method_32_code
def yX11_lasts : MethodName := ⟨RX11, "lasts", "(I)I"⟩
abbrev cX11_forgets : ByteArray := prog_1_method_33_code
def yX11_forgets : MethodName := ⟨RX11, "forgets", "(I)I"⟩
abbrev cX11_pupils : ByteArray := prog_1_method_34_code
def yX11_pupils : MethodName := ⟨RX11, "pupils", "(I)I"⟩
abbrev cX11_ice : ByteArray := prog_1_method_35_code
def yX11_ice : MethodName := ⟨RX11, "ice", "()I"⟩
abbrev cX11_drawn : ByteArray := prog_1_method_36_code
def yX11_drawn : MethodName := ⟨RX11, "drawn", "(II)I"⟩
abbrev cX11_odds : ByteArray := prog_1_method_37_code
def yX11_odds : MethodName := ⟨RX11, "odds", "(III)I"⟩
abbrev cX11_diary : ByteArray := prog_1_method_38_code
def yX11_diary : MethodName := ⟨RX11, "diary", "(I)I"⟩
abbrev cX11_told : ByteArray := prog_1_method_39_code
def yX11_told : MethodName := ⟨RX11, "told", "(I)I"⟩
abbrev cX11_sentence : ByteArray := prog_1_method_40_code
def yX11_sentence : MethodName := ⟨RX11, "sentence", "()I"⟩
abbrev cX11_said : ByteArray := prog_1_method_41_code
def yX11_said : MethodName := ⟨RX11, "said", "(I)I"⟩
abbrev cX11_image : ByteArray := prog_1_method_42_code
def yX11_image : MethodName := ⟨RX11, "image", "(I)Z"⟩
abbrev cX11_restore : ByteArray := prog_1_method_43_code
def yX11_restore : MethodName := ⟨RX11, "restore", "(I)Z"⟩
abbrev cX11_count : ByteArray := prog_1_method_44_code
def yX11_count : MethodName := ⟨RX11, "count", "(I)I"⟩
def RX12 : String := "LakeLearnsModel"
def TX12 : u_T := fun k => match k with
  | 0 => ("LakeLearnsModel", "thrown", "I", false)
  | 1 => ("LakeLearnsModel", "tape", "[B", true)
  | 2 => ("LakeLearnsModel", "length", "I", false)
  | 3 => ("LakeLearnsModel", "size", "I", false)
  | 4 => ("LakeLearnsModel", "p", "I", false)
  | 5 => ("LakeLearnsModel", "limit", "I", false)
  | 6 => ("LakeLearnsModel", "s", "[I", true)
  | 7 => ("LakeLearnsModel", "h", "[I", true)
  | 8 => ("LakeLearnsModel", "read", "[I", true)
  | 9 => ("LakeLearnsModel", "names", "[J", true)
  | 10 => ("LakeLearnsModel", "reserved", "[J", true)
  | 11 => ("LakeLearnsModel", "token", "I", false)
  | 12 => ("LakeLearnsModel", "at", "I", false)
  | 13 => ("LakeLearnsModel", "span", "I", false)
  | 14 => ("LakeLearnsModel", "number", "I", false)
  | 15 => ("LakeLearnsModel", "fault", "I", false)
  | 16 => ("LakeLearnsModel", "faultAt", "I", false)
  | 17 => ("LakeLearnsModel", "word", "J", false)
  | 18 => ("LakeLearnsModel", "got", "I", false)
  | 19 => ("LakeLearnsModel", "lines", "I", false)
  | 20 => ("LakeLearnsModel", "onces", "I", false)
  | 21 => ("LakeLearnsModel", "row", "[I", true)
  | 22 => ("LakeLearnsModel", "high", "I", false)
  | 23 => ("LakeLearnsModel", "undone", "[I", true)
  | 24 => ("LakeLearnsModel", "before", "[I", true)
  | 25 => ("LakeLearnsModel", "undoMany", "I", false)
  | 26 => ("LakeLearnsModel", "fits", "[Z", true)
  | 27 => ("LakeLearnsModel", "answer", "[I", true)
  | 28 => ("LakeLearnsModel", "surelySet", "I", false)
  | 29 => ("LakeLearnsModel", "neverSet", "I", false)
  | 30 => ("LakeLearnsModel", "askCue", "I", false)
  | 31 => ("LakeLearnsModel", "hasLearnt", "Z", false)
  | 32 => ("LakeLearnsModel", "taughtSet", "I", false)
  | 33 => ("LakeLearnsModel", "hasTaught", "Z", false)
  | 34 => ("LakeLearnsModel", "seed", "I", false)
  | 35 => ("LakeLearnsModel", "told", "I", false)
  | 36 => ("LakeLearnsModel", "toldAt", "[I", true)
  | 37 => ("LakeLearnsModel", "hasTold", "Z", false)
  | 38 => ("LakeLearnsModel", "stack", "[I", true)
  | 39 => ("LakeLearnsModel", "codes", "I", false)
  | 40 => ("LakeLearnsModel", "ones", "I", false)
  | 41 => ("LakeLearnsModel", "top", "I", false)
  | 42 => ("LakeLearnsModel", "deep", "I", false)
  | 43 => ("LakeLearnsModel", "isWhole", "Z", false)
  | 44 => ("LakeLearnsModel", "truths", "[Z", true)
  | 45 => ("LakeLearnsModel", "kept", "[I", true)
  | 46 => ("LakeLearnsModel", "namesKept", "[J", true)
  | _ => ("LakeLearnsModel", "areKept", "[Z", true)
def tyX12 : Nat → FieldType := fun k => match k with
  | 0 => .int
  | 1 => .array .byte
  | 2 => .int
  | 3 => .int
  | 4 => .int
  | 5 => .int
  | 6 => .array .int
  | 7 => .array .int
  | 8 => .array .int
  | 9 => .array .long
  | 10 => .array .long
  | 11 => .int
  | 12 => .int
  | 13 => .int
  | 14 => .int
  | 15 => .int
  | 16 => .int
  | 17 => .long
  | 18 => .int
  | 19 => .int
  | 20 => .int
  | 21 => .array .int
  | 22 => .int
  | 23 => .array .int
  | 24 => .array .int
  | 25 => .int
  | 26 => .array .boolean
  | 27 => .array .int
  | 28 => .int
  | 29 => .int
  | 30 => .int
  | 31 => .boolean
  | 32 => .int
  | 33 => .boolean
  | 34 => .int
  | 35 => .int
  | 36 => .array .int
  | 37 => .boolean
  | 38 => .array .int
  | 39 => .int
  | 40 => .int
  | 41 => .int
  | 42 => .int
  | 43 => .boolean
  | 44 => .array .boolean
  | 45 => .array .int
  | 46 => .array .long
  | _ => .array .boolean
abbrev wsX120 : List Cond := u_ws RX12 TX12 48
theorem nmX12 : ∀ a, a < 48 → ∀ b, b < 48 → a ≠ b → (TX12 a).2.1 ≠ (TX12 b).2.1 := by decide +kernel
theorem tyX12_ok : ∀ k, k < 48 → parseFieldDescriptor (TX12 k).2.2.1 = some (tyX12 k) := by decide +kernel
abbrev cX12_thrown : ByteArray := prog_14_method_1_code
def yX12_thrown : MethodName := ⟨RX12, "thrown", "()I"⟩
abbrev cX12_throwsIf : ByteArray := prog_14_method_2_code
def yX12_throwsIf : MethodName := ⟨RX12, "throwsIf", "(Z)Z"⟩
abbrev cX12_feed : ByteArray := prog_14_method_3_code
def yX12_feed : MethodName := ⟨RX12, "feed", "(IIIII)I"⟩
abbrev cX12_four : ByteArray := prog_14_method_4_code
def yX12_four : MethodName := ⟨RX12, "four", "(I)V"⟩
abbrev cX12_end : ByteArray := prog_14_method_5_code
def yX12_end : MethodName := ⟨RX12, "end", "(I)Z"⟩
abbrev cX12_taken : ByteArray := prog_14_method_6_code
def yX12_taken : MethodName := ⟨RX12, "taken", "(I)V"⟩
abbrev cX12_isIn : ByteArray := prog_14_method_7_code
def yX12_isIn : MethodName := ⟨RX12, "isIn", "(III)Z"⟩
abbrev cX12_bitOf : ByteArray := prog_14_method_8_code
def yX12_bitOf : MethodName := ⟨RX12, "bitOf", "(II)Z"⟩
abbrev cX12_greater : ByteArray := prog_14_method_9_code
def yX12_greater : MethodName := ⟨RX12, "greater", "(II)I"⟩
abbrev cX12_octet : ByteArray := prog_14_method_10_code
def yX12_octet : MethodName := ⟨RX12, "octet", "(I)I"⟩
abbrev cX12_init : ByteArray := prog_14_method_11_code
def yX12_init : MethodName := ⟨RX12, "<init>", "()V"⟩
abbrev cX12_clears : ByteArray := prog_14_method_12_code
def yX12_clears : MethodName := ⟨RX12, "clears", "()V"⟩
abbrev cX12_peek : ByteArray := prog_14_method_13_code
def yX12_peek : MethodName := ⟨RX12, "peek", "()I"⟩
abbrev cX12_isSmall : ByteArray := prog_14_method_14_code
def yX12_isSmall : MethodName := ⟨RX12, "isSmall", "(I)Z"⟩
abbrev cX12_isDigit : ByteArray := prog_14_method_15_code
def yX12_isDigit : MethodName := ⟨RX12, "isDigit", "(I)Z"⟩
abbrev cX12_next : ByteArray := prog_14_method_16_code
def yX12_next : MethodName := ⟨RX12, "next", "()V"⟩
abbrev cX12_bad : ByteArray := prog_14_method_17_code
def yX12_bad : MethodName := ⟨RX12, "bad", "(I)Z"⟩
abbrev cX12_isWord : ByteArray := prog_14_method_18_code
def yX12_isWord : MethodName := ⟨RX12, "isWord", "(J)Z"⟩
abbrev cX12_isSign : ByteArray := prog_14_method_19_code
def yX12_isSign : MethodName := ⟨RX12, "isSign", "(I)Z"⟩
abbrev cX12_sign : ByteArray := prog_14_method_20_code
def yX12_sign : MethodName := ⟨RX12, "sign", "(I)Z"⟩
abbrev cX12_isName : ByteArray := prog_14_method_21_code
def yX12_isName : MethodName := ⟨RX12, "isName", "()Z"⟩
abbrev cX12_takes : ByteArray := prog_14_method_22_code
def yX12_takes : MethodName := ⟨RX12, "takes", "(II)Z"⟩
abbrev cX12_puts : ByteArray := prog_14_method_23_code
def yX12_puts : MethodName := ⟨RX12, "puts", "(III)Z"⟩
abbrev cX12_find : ByteArray := prog_14_method_24_code
def yX12_find : MethodName := ⟨RX12, "find", "(II)I"⟩
abbrev cX12_fresh : ByteArray := prog_14_method_25_code
def yX12_fresh : MethodName := ⟨RX12, "fresh", "(I)Z"⟩
abbrev cX12_looksAt : ByteArray := prog_14_method_26_code
def yX12_looksAt : MethodName := ⟨RX12, "looksAt", "(II)Z"⟩
abbrev cX12_isOnce : ByteArray := prog_14_method_27_code
def yX12_isOnce : MethodName := ⟨RX12, "isOnce", "(I)Z"⟩
abbrev cX12_line : ByteArray := prog_14_method_28_code
def yX12_line : MethodName := ⟨RX12, "line", "()Z"⟩
abbrev cX12_readLesson : ByteArray := prog_14_method_29_code
def yX12_readLesson : MethodName := ⟨RX12, "readLesson", "()Z"⟩
abbrev cX12_lake : ByteArray := prog_14_method_30_code
def yX12_lake : MethodName := ⟨RX12, "lake", "()I"⟩
abbrev cX12_fault : ByteArray := prog_14_method_31_code
def yX12_fault : MethodName := ⟨RX12, "fault", "()I"⟩
abbrev cX12_isCell : ByteArray := prog_14_method_32_code
def yX12_isCell : MethodName := ⟨RX12, "isCell", "(I)Z"⟩
abbrev cX12_isCue : ByteArray := prog_14_method_33_code
def yX12_isCue : MethodName := ⟨RX12, "isCue", "(I)Z"⟩
abbrev cX12_isLesson : ByteArray := prog_14_method_34_code
def yX12_isLesson : MethodName := ⟨RX12, "isLesson", "(I)Z"⟩
abbrev cX12_isTeacher : ByteArray := prog_14_method_35_code
def yX12_isTeacher : MethodName := ⟨RX12, "isTeacher", "(I)Z"⟩
abbrev cX12_isBoat : ByteArray := prog_14_method_36_code
def yX12_isBoat : MethodName := ⟨RX12, "isBoat", "(I)Z"⟩
abbrev cX12_isSet : ByteArray := prog_14_method_37_code
def yX12_isSet : MethodName := ⟨RX12, "isSet", "(I)Z"⟩
abbrev cX12_isKnown : ByteArray := prog_14_method_38_code
def yX12_isKnown : MethodName := ⟨RX12, "isKnown", "(I)Z"⟩
abbrev cX12_knownSet : ByteArray := prog_14_method_39_code
def yX12_knownSet : MethodName := ⟨RX12, "knownSet", "()I"⟩
abbrev cX12_todaySet : ByteArray := prog_14_method_40_code
def yX12_todaySet : MethodName := ⟨RX12, "todaySet", "()I"⟩
abbrev cX12_isConfused : ByteArray := prog_14_method_41_code
def yX12_isConfused : MethodName := ⟨RX12, "isConfused", "(I)Z"⟩
abbrev cX12_isIce : ByteArray := prog_14_method_42_code
def yX12_isIce : MethodName := ⟨RX12, "isIce", "(I)Z"⟩
abbrev cX12_lesson : ByteArray := prog_14_method_43_code
def yX12_lesson : MethodName := ⟨RX12, "lesson", "(II)I"⟩
abbrev cX12_step : ByteArray := prog_14_method_44_code
def yX12_step : MethodName := ⟨RX12, "step", "(II)I"⟩
abbrev cX12_boat : ByteArray := prog_14_method_45_code
def yX12_boat : MethodName := ⟨RX12, "boat", "(II)I"⟩
abbrev cX12_height : ByteArray := prog_14_method_46_code
def yX12_height : MethodName := ⟨RX12, "height", "(I)I"⟩
abbrev cX12_now : ByteArray := prog_14_method_47_code
def yX12_now : MethodName := ⟨RX12, "now", "(I)I"⟩
abbrev cX12_moves : ByteArray := prog_14_method_48_code
def yX12_moves : MethodName := ⟨RX12, "moves", "(II)V"⟩
abbrev cX12_longest : ByteArray := prog_14_method_49_code
def yX12_longest : MethodName := ⟨RX12, "longest", "(II)I"⟩
abbrev cX12_heightsOf : ByteArray := prog_14_method_50_code
def yX12_heightsOf : MethodName := ⟨RX12, "heightsOf", "(II)I"⟩
abbrev cX12_wavesOf : ByteArray := prog_14_method_51_code
def yX12_wavesOf : MethodName := ⟨RX12, "wavesOf", "(II)I"⟩
abbrev cX12_whyShow : ByteArray := prog_14_method_52_code
def yX12_whyShow : MethodName := ⟨RX12, "whyShow", "(I)I"⟩
abbrev cX12_shows : ByteArray := prog_14_method_53_code
def yX12_shows : MethodName := ⟨RX12, "shows", "(II)V"⟩
abbrev cX12_whyRing : ByteArray := prog_14_method_54_code
def yX12_whyRing : MethodName := ⟨RX12, "whyRing", "()I"⟩
abbrev cX12_rings : ByteArray := prog_14_method_55_code
def yX12_rings : MethodName := ⟨RX12, "rings", "(I)V"⟩
abbrev cX12_whySail : ByteArray := prog_14_method_56_code
def yX12_whySail : MethodName := ⟨RX12, "whySail", "(II)I"⟩
abbrev cX12_sails : ByteArray := prog_14_method_57_code
def yX12_sails : MethodName := ⟨RX12, "sails", "(II)V"⟩
abbrev cX12_unlearns : ByteArray := prog_14_method_58_code
def yX12_unlearns : MethodName := ⟨RX12, "unlearns", "(I)V"⟩
abbrev cX12_isPractised : ByteArray := prog_14_method_59_code
def yX12_isPractised : MethodName := ⟨RX12, "isPractised", "(I)Z"⟩
abbrev cX12_counts : ByteArray := prog_14_method_60_code
def yX12_counts : MethodName := ⟨RX12, "counts", "(I)V"⟩
abbrev cX12_day : ByteArray := prog_14_method_61_code
def yX12_day : MethodName := ⟨RX12, "day", "()V"⟩
abbrev cX12_goesOn : ByteArray := prog_14_method_62_code
def yX12_goesOn : MethodName := ⟨RX12, "goesOn", "(I)I"⟩
abbrev cX12_show : ByteArray := prog_14_method_63_code
def yX12_show : MethodName := ⟨RX12, "show", "(II)I"⟩
abbrev cX12_ring : ByteArray := prog_14_method_64_code
def yX12_ring : MethodName := ⟨RX12, "ring", "(I)I"⟩
abbrev cX12_sail : ByteArray := prog_14_method_65_code
def yX12_sail : MethodName := ⟨RX12, "sail", "(II)I"⟩
abbrev cX12_days : ByteArray := prog_14_method_66_code
def yX12_days : MethodName := ⟨RX12, "days", "(I)I"⟩
abbrev cX12_keep : ByteArray := prog_14_method_67_code
def yX12_keep : MethodName := ⟨RX12, "keep", "()V"⟩
abbrev cX12_undo : ByteArray := prog_14_method_68_code
def yX12_undo : MethodName := ⟨RX12, "undo", "()I"⟩
abbrev cX12_tries : ByteArray := prog_14_method_69_code
def yX12_tries : MethodName := ⟨RX12, "tries", "()V"⟩
abbrev cX12_back : ByteArray := prog_14_method_70_code
def yX12_back : MethodName := ⟨RX12, "back", "()V"⟩
abbrev cX12_does : ByteArray := prog_14_method_71_code
def yX12_does : MethodName := ⟨RX12, "does", "(II)I"⟩
abbrev cX12_waves : ByteArray := prog_14_method_72_code
def yX12_waves : MethodName := ⟨RX12, "waves", "(II)I"⟩
abbrev cX12_dry : ByteArray := prog_14_method_73_code
def yX12_dry : MethodName := ⟨RX12, "dry", "(I)I"⟩
abbrev cX12_havens : ByteArray := prog_14_method_74_code
def yX12_havens : MethodName := ⟨RX12, "havens", "(I)I"⟩
abbrev cX12_heightsAt : ByteArray := prog_14_method_75_code
def yX12_heightsAt : MethodName := ⟨RX12, "heightsAt", "(I)I"⟩
abbrev cX12_answersAt : ByteArray := prog_14_method_76_code
def yX12_answersAt : MethodName := ⟨RX12, "answersAt", "(I)I"⟩
abbrev cX12_learnt : ByteArray := prog_14_method_77_code
def yX12_learnt : MethodName := ⟨RX12, "learnt", "()I"⟩
abbrev cX12_surely : ByteArray := prog_14_method_78_code
def yX12_surely : MethodName := ⟨RX12, "surely", "()I"⟩
abbrev cX12_never : ByteArray := prog_14_method_79_code
def yX12_never : MethodName := ⟨RX12, "never", "()I"⟩
abbrev cX12_ask : ByteArray := prog_14_method_80_code
def yX12_ask : MethodName := ⟨RX12, "ask", "()I"⟩
abbrev cX12_needsOf : ByteArray := prog_14_method_81_code
def yX12_needsOf : MethodName := ⟨RX12, "needsOf", "(I)I"⟩
abbrev cX12_teach : ByteArray := prog_14_method_82_code
def yX12_teach : MethodName := ⟨RX12, "teach", "(I)I"⟩
abbrev cX12_taught : ByteArray := prog_14_method_83_code
def yX12_taught : MethodName := ⟨RX12, "taught", "()I"⟩
abbrev cX12_isPair : ByteArray := prog_14_method_84_code
def yX12_isPair : MethodName := ⟨RX12, "isPair", "(IIZ)Z"⟩
abbrev cX12_pairAt : ByteArray := prog_14_method_85_code
def yX12_pairAt : MethodName := ⟨RX12, "pairAt", "(IZ)I"⟩
abbrev cX12_apart : ByteArray := prog_14_method_86_code
def yX12_apart : MethodName := ⟨RX12, "apart", "(I)I"⟩
abbrev cX12_still : ByteArray := prog_14_method_87_code
def yX12_still : MethodName := ⟨RX12, "still", "(I)I"⟩
abbrev cX12_lasts : ByteArray := prog_14_method_88_code
def yX12_lasts : MethodName := ⟨RX12, "lasts", "(I)I"⟩
abbrev cX12_forgets : ByteArray := prog_14_method_89_code
def yX12_forgets : MethodName := ⟨RX12, "forgets", "(I)I"⟩
abbrev cX12_pupils : ByteArray := prog_14_method_90_code
def yX12_pupils : MethodName := ⟨RX12, "pupils", "(I)I"⟩
abbrev cX12_ice : ByteArray := prog_14_method_91_code
def yX12_ice : MethodName := ⟨RX12, "ice", "()I"⟩
abbrev cX12_draw : ByteArray := prog_14_method_92_code
def yX12_draw : MethodName := ⟨RX12, "draw", "(I)I"⟩
abbrev cX12_draws : ByteArray := prog_14_method_93_code
def yX12_draws : MethodName := ⟨RX12, "draws", "(II)I"⟩
abbrev cX12_drawn : ByteArray := prog_14_method_94_code
def yX12_drawn : MethodName := ⟨RX12, "drawn", "(II)I"⟩
abbrev cX12_odds : ByteArray := prog_14_method_95_code
def yX12_odds : MethodName := ⟨RX12, "odds", "(III)I"⟩
abbrev cX12_diaryLine : ByteArray := prog_14_method_96_code
def yX12_diaryLine : MethodName := ⟨RX12, "diaryLine", "()Z"⟩
abbrev cX12_lives : ByteArray := prog_14_method_97_code
def yX12_lives : MethodName := ⟨RX12, "lives", "(III)I"⟩
abbrev cX12_diary : ByteArray := prog_14_method_98_code
def yX12_diary : MethodName := ⟨RX12, "diary", "(I)I"⟩
abbrev cX12_told : ByteArray := prog_14_method_99_code
def yX12_told : MethodName := ⟨RX12, "told", "(I)I"⟩
abbrev cX12_code : ByteArray := prog_14_method_100_code
def yX12_code : MethodName := ⟨RX12, "code", "(III)V"⟩
abbrev cX12_joins : ByteArray := prog_14_method_101_code
def yX12_joins : MethodName := ⟨RX12, "joins", "(I)V"⟩
abbrev cX12_nots : ByteArray := prog_14_method_102_code
def yX12_nots : MethodName := ⟨RX12, "nots", "()V"⟩
abbrev cX12_leafOf : ByteArray := prog_14_method_103_code
def yX12_leafOf : MethodName := ⟨RX12, "leafOf", "()I"⟩
abbrev cX12_operand : ByteArray := prog_14_method_104_code
def yX12_operand : MethodName := ⟨RX12, "operand", "()Z"⟩
abbrev cX12_behind : ByteArray := prog_14_method_105_code
def yX12_behind : MethodName := ⟨RX12, "behind", "()Z"⟩
abbrev cX12_sentence : ByteArray := prog_14_method_106_code
def yX12_sentence : MethodName := ⟨RX12, "sentence", "()I"⟩
abbrev cX12_isLeaf : ByteArray := prog_14_method_107_code
def yX12_isLeaf : MethodName := ⟨RX12, "isLeaf", "(IIII)Z"⟩
abbrev cX12_isSaid : ByteArray := prog_14_method_108_code
def yX12_isSaid : MethodName := ⟨RX12, "isSaid", "(I)Z"⟩
abbrev cX12_said : ByteArray := prog_14_method_109_code
def yX12_said : MethodName := ⟨RX12, "said", "(I)I"⟩
abbrev cX12_image : ByteArray := prog_14_method_110_code
def yX12_image : MethodName := ⟨RX12, "image", "(I)Z"⟩
abbrev cX12_restore : ByteArray := prog_14_method_111_code
def yX12_restore : MethodName := ⟨RX12, "restore", "(I)Z"⟩
abbrev cX12_count : ByteArray := prog_14_method_112_code
def yX12_count : MethodName := ⟨RX12, "count", "(I)I"⟩
def RJx145de : String := "java/io/Serializable"
def RJx9f9b0 : String := "java/lang/CharSequence"
def RJx8e188 : String := "java/lang/Cloneable"
def RJxb160c : String := "java/lang/Comparable"
def RJ6 : String := "java/lang/Integer"
abbrev cJ6_compare_7cf53 : ByteArray := prog_20_method_40_code
def yJ6_compare_7cf53 : MethodName := ⟨RJ6, "compare", "(II)I"⟩
def RJ9 : String := "java/lang/Math"
abbrev cJ9_max_7cf53 : ByteArray := prog_21_method_65_code
def yJ9_max_7cf53 : MethodName := ⟨RJ9, "max", "(II)I"⟩
abbrev cJ9_min_7cf53 : ByteArray := prog_21_method_69_code
def yJ9_min_7cf53 : MethodName := ⟨RJ9, "min", "(II)I"⟩
def RJ0 : String := "java/lang/String"
abbrev cJ0_length_8abf5 : ByteArray := prog_23_method_54_code
def yJ0_length_8abf5 : MethodName := ⟨RJ0, "length", "()I"⟩
abbrev cJ0_charAt_5068e : ByteArray := prog_23_method_56_code
def yJ0_charAt_5068e : MethodName := ⟨RJ0, "charAt", "(I)C"⟩
abbrev cJ0_coder_7d493 : ByteArray := prog_23_method_152_code
def yJ0_coder_7d493 : MethodName := ⟨RJ0, "coder", "()B"⟩
abbrev cJ0_isLatin1_aae02 : ByteArray := prog_23_method_154_code
def yJ0_isLatin1_aae02 : MethodName := ⟨RJ0, "isLatin1", "()Z"⟩
abbrev cJ0_checkIndex_df160 : ByteArray := prog_23_method_155_code
def yJ0_checkIndex_df160 : MethodName := ⟨RJ0, "checkIndex", "(II)V"⟩
def RJ1 : String := "java/lang/StringLatin1"
abbrev cJ1_charAt_3b067 : ByteArray := prog_24_method_2_code
def yJ1_charAt_3b067 : MethodName := ⟨RJ1, "charAt", "([BI)C"⟩
def RJ2 : String := "java/lang/StringUTF16"
abbrev cJ2_getChar_3b067 : ByteArray := prog_25_method_5_code
def yJ2_getChar_3b067 : MethodName := ⟨RJ2, "getChar", "([BI)C"⟩
abbrev cJ2_length_9d52b : ByteArray := prog_25_method_6_code
def yJ2_length_9d52b : MethodName := ⟨RJ2, "length", "([B)I"⟩
abbrev cJ2_charAt_3b067 : ByteArray := prog_25_method_83_code
def yJ2_charAt_3b067 : MethodName := ⟨RJ2, "charAt", "([BI)C"⟩
abbrev cJ2_checkIndex_2214a : ByteArray := prog_25_method_91_code
def yJ2_checkIndex_2214a : MethodName := ⟨RJ2, "checkIndex", "(I[B)V"⟩
def RJ10 : String := "java/lang/System"
def RJxfd54e : String := "java/lang/constant/Constable"
def RJx3cf43 : String := "java/lang/constant/ConstantDesc"
def RJ3 : String := "jdk/internal/util/Preconditions"
abbrev cJ3_checkIndex_8e157 : ByteArray := prog_31_method_11_code
def yJ3_checkIndex_8e157 : MethodName := ⟨RJ3, "checkIndex", "(IILjava/util/function/BiFunction;)I"⟩
def RL : String := "LakeLearnsLaw"
abbrev cL_lesson : ByteArray := method_3_code
def yL_lesson : MethodName := ⟨RL, "lesson", "(LLakeLearns;II[J)I"⟩
abbrev cL_law : ByteArray := code
def yL_law : MethodName := ⟨RL, "law", "([I)Z"⟩
abbrev vwCl : List vw_C := [(RX0, TX0, 4), (RX1, TX1, 1), (RX2, TX2, 8), (RX3, TX3, 4), (RX4, TX4, 13), (RX5, TX5, 3), (RX6, TX6, 16), (RX7, TX7, 3), (RX8, TX8, 11), (RX9, TX9, 6), (RX10, TX10, 2), (RX11, TX11, 17), (RX12, TX12, 48)]
end
section
/-! An abstract machine (ri_): references are counted from the first cell that the law makes; a cell is a kind and a list of values; steps and runs are functions. A float stands for a named int, a returnAddress for a cell that was there before. -/
abbrev ri_C : Type := Nat × List Value
abbrev ri_H : Type := List ri_C
abbrev ri_En : Type := Instr × Nat × List Nat × Value
abbrev ri_F : Type := Nat × List (Nat × Value) × List Value × ri_H × Nat × Nat
abbrev ri_M : Type := MethodName × ByteArray × Nat × Option FieldType × String × Nat × Nat
abbrev ri_T : Type := List (Nat × List (Nat × ri_En))
abbrev ri_V : Type := Nat × (Nat → Option Nat) × (Nat → Int32)
abbrev ri_O : Type := List (Nat × Value × Value × Bool)
def ri_A (E : ri_V) : Nat → Prop := fun q => E.1 ≤ q
def ri_ush (x : Int32) (k : Nat) : Int32 := (x.toUInt32 >>> ((nI k).toUInt32 &&& Int32.toUInt32 31)).toInt32
def ri_shr (x : Int32) (k : Nat) : Int32 := x >>> (nI k &&& 31)
def ri_sem (sg : Nat → Int32) (n : Nat) : Int32 :=
  match n / 512 with
  | 0 => sg (n % 16)
  | 1 => ri_ush (sg (n % 16)) (n / 16 % 32)
  | 2 => ri_shr (sg (n % 16)) (n / 16 % 32)
  | 3 => (ri_ush (sg (n % 16)) (n / 16 % 32)).toInt8.toInt32
  | _ => (ri_shr (sg (n % 16)) (n / 16 % 32)).toInt8.toInt32
/-- what a value of the abstract machine is on the machine -/
def ri_cv (E : ri_V) (v : Value) : Value := match v with
  | .ref k => .ref (E.1 + k)
  | .retAddr n => va_rf (E.2.1 n)
  | .float t => .int (ri_sem E.2.2 t.toNat)
  | v => v
def ri_isA (v : Value) : Bool := match v with
  | .ref _ => true
  | .retAddr _ => true
  | .null => true
  | _ => false
def ri_isI (v : Value) : Bool := match v with
  | .int _ => true
  | .float _ => true
  | _ => false
def ri_isL (v : Value) : Bool := match v with
  | .long _ => true
  | _ => false
def ri_ic (E : ri_V) (v : Value) : Int32 := match ri_cv E v with
  | .int x => x
  | _ => 0
def ri_lk : List (Nat × Value) → Nat → Option Value
  | [], _ => none
  | q :: t, i => bif Nat.beq q.1 i then some q.2 else ri_lk t i
def ri_st1 (lo : List (Nat × Value)) (i : Nat) (v : Value) : List (Nat × Value) := (i, v) :: lo.filter (fun q => !(q.1 == i) && !(q.1 + 1 == i && q.2.category == 2))
def ri_as : Nat → List Value → List (Nat × Value)
  | _, [] => []
  | i, v :: vs => (i, v) :: ri_as (if v.category = 2 then i + 2 else i + 1) vs
def ri_look : List (Nat × ri_En) → Nat → Option ri_En
  | [], _ => none
  | q :: t, pc => bif Nat.beq q.1 pc then some q.2 else ri_look t pc
def ri_look2 : ri_T → Nat → Option ri_En
  | [], _ => none
  | q :: t, pc => bif Nat.blt pc q.1 then ri_look q.2 pc else ri_look2 t pc
/-- compares: 0 eq, 1 ne, 2 lt, 3 ge, 4 gt, 5 le, 6 outside 0 .. b -/
def ri_hd (c : Nat) (a b : Int32) : Bool := match c with
  | 0 => decide (a = b)
  | 1 => !decide (a = b)
  | 2 => decide (a < b)
  | 3 => decide (b ≤ a)
  | 4 => decide (b < a)
  | 5 => decide (a ≤ b)
  | _ => decide (a.toInt < 0) || decide (b.toInt < a.toInt)
def ri_cn (c : ClassFile.Cond) : Nat := match c with
  | .eq => 0
  | .ne => 1
  | .lt => 2
  | .ge => 3
  | .gt => 4
  | .le => 5
def ri_fd : ri_O → Nat → Value → Value → Option Bool
  | [], _, _, _ => none
  | q :: t, c, x, y => bif Nat.beq q.1 c && (decide (q.2.1 = x) && decide (q.2.2.1 = y)) then some q.2.2.2 else ri_fd t c x y
def ri_cmp (dc : ri_O) (c : Nat) (x y : Value) : Option Bool := match x, y with
  | .int a, .int b => some (ri_hd c a b)
  | x, y => bif ri_isI x && ri_isI y then ri_fd dc c x y else none
def ri_br (dc : ri_O) (c : Nat) (x y : Value) (tgt nx : Nat) (lo : List (Nat × Value)) (st : List Value) (h : ri_H) (k z : Nat) : Option ri_F := match ri_cmp dc c x y with
  | some true => some (tgt, lo, st, h, k, z)
  | some false => some (nx, lo, st, h, k, z)
  | none => none
/-- the default values of an object's fields, by its kind -/
def ri_dv (d : String) : Value := match d.toList with
  | ['I'] => .int 0
  | ['Z'] => .int 0
  | ['J'] => .long 0
  | _ => .null
def ri_df (t : Nat) : Option (List Value) := match vwCl[t]? with
  | some r => some ((List.range r.2.2).map (fun k => ri_dv (r.2.1 k).2.2.1))
  | none => none
/-- may a value go into a field of a type: 0 int, 1 boolean, 2 long, 3 reference -/
def ri_fit (q : Nat) (v : Value) : Bool := match q, v with
  | 0, .int _ => true
  | 0, .float _ => true
  | 1, .int x => decide (x = 0) || decide (x = 1)
  | 2, .long _ => true
  | 3, .ref _ => true
  | 3, .null => true
  | _, _ => false
/-- arrays that were there before: the class's four tables, the bytes of the key words -/
def ri_xl (n : Nat) : List Int32 := match n with
  | 1 => [4, 3, 20, 0, 0]
  | 2 => [6, 8, 4, 6]
  | 3 => [1, 1, 1, 1, 0]
  | 4 => [8, 9, 99, 30, 99]
  | 6 => [99, 101, 108, 108, 115, 32, 115, 104, 111, 119, 110, 32, 107, 101, 101, 112, 115, 32, 110, 105, 103, 104, 116, 115, 32, 105, 99, 101, 32, 99, 117, 101, 32, 108, 101, 115, 115, 111, 110, 32, 116, 101, 97, 99, 104, 101, 114, 32, 98, 111, 97, 116, 32, 115, 104, 111, 119, 115, 32, 114, 105, 110, 103, 115, 32, 115, 97, 105, 108, 115, 32, 100, 97, 121, 32, 111, 114, 32, 97, 110, 100, 32, 110, 111, 116, 32, 107, 110, 111, 119, 110, 32, 116, 111, 100, 97, 121, 32, 97, 116, 32, 98, 121, 32, 116, 105, 109, 101, 115, 32, 115, 116, 101, 112, 115, 32, 100, 111, 110, 101, 32, 110, 117, 109, 98, 101, 114, 32]
  | _ => []
/-- what an array holds at a place; kinds 13 int, 14 byte, 15 long, 16 boolean, 17 Life, 18 Image -/
def ri_ald (g : Nat → Bool) (x : Nat) (a : Value) (i : Int32) (h : ri_H) : Option Value := match a with
  | .ref r => match h[r]? with
    | some q => bif g q.1 && !decide (i < 0) then q.2[i.toNatClampNeg]? else none
    | none => none
  | .retAddr n => bif Nat.beq x 1 && (Nat.ble 1 n && Nat.ble n 4) || (Nat.beq x 2 && Nat.beq n 6) then (bif !decide (i < 0) then ((ri_xl n)[i.toNatClampNeg]?).map Value.int else none) else none
  | _ => none
def ri_ast (g : Nat → Bool) (a : Value) (i : Int32) (v : Value) (h : ri_H) : Option ri_H := match a with
  | .ref r => match h[r]? with
    | some q => bif g q.1 && (!decide (i < 0) && Nat.blt i.toNatClampNeg q.2.length) then some (h.set r (q.1, q.2.set i.toNatClampNeg v)) else none
    | none => none
  | _ => none
/-- a value as a byte array keeps it -/
def ri_nb (v : Value) : Option Value := match v with
  | .int x => some (.int x.toInt8.toInt32)
  | .float t => bif Nat.ble 1536 t.toNat then some v else none
  | _ => none
def ri_alen (a : Value) (h : ri_H) : Option Int32 := match a with
  | .ref r => match h[r]? with
    | some q => bif Nat.ble 13 q.1 && Nat.ble q.1 18 then some (Int32.ofNat q.2.length) else none
    | none => none
  | .retAddr n => bif Nat.ble 1 n && Nat.ble n 4 || Nat.beq n 6 then some (Int32.ofNat (ri_xl n).length) else none
  | _ => none
def ri_new (M : ri_M) (t nx : Nat) (fs : List Value) (lo : List (Nat × Value)) (st : List Value) (h : ri_H) (k z : Nat) : Option ri_F :=
  bif Nat.ble (k + 1) M.2.2.2.2.2.1 && Nat.ble (z + fs.length) M.2.2.2.2.2.2 then some (nx, lo, .ref h.length :: st, h ++ [(t, fs)], k + 1, z + fs.length) else none
def ri_wt (st : List Value) : Nat := (st.map fun v => v.category).sum
def ri_take : Nat → List Value → List Value → Option (List Value × List Value)
  | 0, acc, st => some (acc, st)
  | n + 1, acc, v :: st => ri_take n (v :: acc) st
  | _ + 1, _, [] => none
def ri_cpy (f g : List Value) (sp dp n : Nat) : List Value := g.take dp ++ (f.drop sp).take n ++ g.drop (dp + n)
def ri_copy (a b : Value) (sp dp n : Int32) (h : ri_H) : Option ri_H := match b with
  | .ref rb => match h[rb]? with
    | some qb => bif (Nat.beq qb.1 13 || Nat.beq qb.1 15) && (!decide (sp < 0) && (!decide (dp < 0) && (!decide (n < 0) && Nat.ble (dp.toNatClampNeg + n.toNatClampNeg) qb.2.length))) then (match a with
        | .ref ra => match h[ra]? with
          | some qa => bif Nat.beq qa.1 qb.1 && Nat.ble (sp.toNatClampNeg + n.toNatClampNeg) qa.2.length then some (h.set rb (qb.1, ri_cpy qa.2 qb.2 sp.toNatClampNeg dp.toNatClampNeg n.toNatClampNeg)) else none
          | none => none
        | .retAddr x => bif Nat.beq qb.1 13 && (Nat.ble 1 x && Nat.ble x 4 && Nat.ble (sp.toNatClampNeg + n.toNatClampNeg) (ri_xl x).length) then some (h.set rb (qb.1, ri_cpy ((ri_xl x).map Value.int) qb.2 sp.toNatClampNeg dp.toNatClampNeg n.toNatClampNeg)) else none
        | _ => none) else none
    | none => none
  | _ => none
/-- a call: kind 0 Object(), 1 virtual, 2 constructor, 3 static, 4 arraycopy, 5 clone of a table, 6 virtual on the key words, 7 constructor of a nest mate; then the callee's number, how many arguments beside the receiver, the receiver's kind -/
def ri_inv (cal : Nat → List Value → ri_H → Option (Option Value × ri_H)) (bud : Nat → Option (Nat × Nat)) (M : ri_M) (pc : Nat) (aux : List Nat) (lo : List (Nat × Value)) (st : List Value) (h : ri_H) (k z : Nat) : Option ri_F := match aux with
  | 0 :: _ => match st with
    | .ref _ :: r => bif Nat.ble (ri_wt r) 8 then some (pc + 3, lo, r, h, k, z) else none
    | _ => none
  | 4 :: _ => match st with
    | .int n :: .int dp :: b :: .int sp :: a :: r => bif Nat.ble (ri_wt r) 8 then (match ri_copy a b sp dp n h with
      | some h' => some (pc + 3, lo, r, h', k, z)
      | none => none) else none
    | _ => none
  | 5 :: _ => match st with
    | .retAddr n :: r => bif Nat.ble 1 n && (Nat.ble n 4 && Nat.ble (ri_wt r) 8) then ri_new M 13 (pc + 3) ((ri_xl n).map Value.int) lo r h k z else none
    | _ => none
  | kd :: j :: n :: t :: _ => match ri_take n [] st with
    | some (as, r0) => match (bif Nat.beq kd 3 then some (as, r0) else match r0 with
        | .ref b :: r => bif Nat.beq kd 1 || (Nat.beq kd 2 || Nat.beq kd 7) then (match h[b]? with
          | some q => bif Nat.beq q.1 t then some (.ref b :: as, r) else none
          | none => none) else none
        | .retAddr 5 :: r => bif Nat.beq kd 6 then some (.retAddr 5 :: as, r) else none
        | _ => none) with
      | some (as', r) => bif Nat.ble (ri_wt r) 8 then (match bud j, cal j as' h with
        | some (mc, ms), some (v, h') => bif Nat.ble (k + mc) M.2.2.2.2.2.1 && Nat.ble (z + ms) M.2.2.2.2.2.2 then some (pc + 3, lo, v.toList ++ r, h', k + mc, z + ms) else none
        | _, _ => none) else none
      | none => none
    | none => none
  | _ => none
def ri_i2 (op : Int32 → Int32 → Int32) (pc : Nat) (lo : List (Nat × Value)) (st : List Value) (h : ri_H) (k z : Nat) : Option ri_F := match st with
  | .int y :: .int x :: r => some (pc + 1, lo, .int (op x y) :: r, h, k, z)
  | _ => none
def ri_d2 (op : Int32 → Int32 → Int32) (pc : Nat) (lo : List (Nat × Value)) (st : List Value) (h : ri_H) (k z : Nat) : Option ri_F := match st with
  | .int y :: .int x :: r => bif decide (y = 0) then none else some (pc + 1, lo, .int (op x y) :: r, h, k, z)
  | _ => none
def ri_s2 (op : Int32 → Int32 → Int32) (q : Nat) (pc : Nat) (lo : List (Nat × Value)) (st : List Value) (h : ri_H) (k z : Nat) : Option ri_F := match st with
  | .int y :: .int x :: r => some (pc + 1, lo, .int (op x y) :: r, h, k, z)
  | .int y :: .float t :: r => bif Nat.blt t.toNat 16 && (Nat.blt y.toNatClampNeg 32 && decide (nI y.toNatClampNeg = y)) then some (pc + 1, lo, .float (UInt32.ofNat (512 * q + 16 * y.toNatClampNeg + t.toNat)) :: r, h, k, z) else none
  | _ => none
def ri_l2 (op : Int64 → Int64 → Int64) (pc : Nat) (lo : List (Nat × Value)) (st : List Value) (h : ri_H) (k z : Nat) : Option ri_F := match st with
  | .long y :: .long x :: r => some (pc + 1, lo, .long (op x y) :: r, h, k, z)
  | _ => none
def ri_ld (t : Value → Bool) (i n pc : Nat) (lo : List (Nat × Value)) (st : List Value) (h : ri_H) (k z : Nat) : Option ri_F := match ri_lk lo i with
  | some v => bif t v then some (pc + n, lo, v :: st, h, k, z) else none
  | none => none
def ri_sto (t : Value → Bool) (M : ri_M) (i n pc : Nat) (lo : List (Nat × Value)) (st : List Value) (h : ri_H) (k z : Nat) : Option ri_F := match st with
  | v :: r => bif t v && Nat.blt i M.2.2.1 then some (pc + n, ri_st1 lo i v, r, h, k, z) else none
  | [] => none
def ri_g1 (n : Nat) : Bool := Nat.beq n 13
def ri_g2 (n : Nat) : Bool := Nat.beq n 14
def ri_g3 (n : Nat) : Bool := Nat.beq n 15
def ri_g4 (n : Nat) : Bool := Nat.beq n 16
def ri_g5 (n : Nat) : Bool := Nat.beq n 17 || Nat.beq n 18
def ri_g24 (n : Nat) : Bool := Nat.beq n 14 || Nat.beq n 16
/-- may a method of this return type give this value back -/
def ri_rok (r : Option FieldType) (v : Value) : Bool := match r, v with
  | some .int, .int _ => true
  | some .int, .float _ => true
  | some .boolean, .int x => decide (x = 0) || decide (x = 1)
  | some .byte, .int x => decide (x = 0) || decide (x = 1)
  | some .char, .int x => decide ((x.toUInt32 % 65536).toInt32 = x)
  | _, _ => false
def ri_step (dc : ri_O) (cal : Nat → List Value → ri_H → Option (Option Value × ri_H)) (bud : Nat → Option (Nat × Nat)) (M : ri_M) (e : ri_En) (pc : Nat) (lo : List (Nat × Value)) (st : List Value) (h : ri_H) (k z : Nat) : Option ri_F := match e.1 with
  | .aload_n n => ri_ld ri_isA n.val 1 pc lo st h k z
  | .aload n => ri_ld ri_isA n 2 pc lo st h k z
  | .iload_n n => ri_ld ri_isI n.val 1 pc lo st h k z
  | .iload n => ri_ld ri_isI n 2 pc lo st h k z
  | .lload_n n => ri_ld ri_isL n.val 1 pc lo st h k z
  | .istore_n n => ri_sto ri_isI M n.val 1 pc lo st h k z
  | .istore n => ri_sto ri_isI M n 2 pc lo st h k z
  | .astore_n n => ri_sto ri_isA M n.val 1 pc lo st h k z
  | .astore n => ri_sto ri_isA M n 2 pc lo st h k z
  | .iinc i n => match ri_lk lo i with
    | some (.int x) => bif Nat.blt i M.2.2.1 then some (pc + 3, ri_st1 lo i (.int (x + Int32.ofInt n)), st, h, k, z) else none
    | _ => none
  | .iconst n => some (pc + 1, lo, .int (Int32.ofInt n) :: st, h, k, z)
  | .bipush n => some (pc + 2, lo, .int ((Int8.ofInt n).toInt32) :: st, h, k, z)
  | .sipush n => some (pc + 3, lo, .int ((Int16.ofInt n).toInt32) :: st, h, k, z)
  | .lconst n => some (pc + 1, lo, .long (Int64.ofNat n.val) :: st, h, k, z)
  | .ldc _ => match e.2.2.2 with
    | .int x => some (pc + 2, lo, .int x :: st, h, k, z)
    | .retAddr 5 => some (pc + 2, lo, .retAddr 5 :: st, h, k, z)
    | _ => none
  | .ldc_w _ => match e.2.2.2 with
    | .int x => some (pc + 3, lo, .int x :: st, h, k, z)
    | _ => none
  | .ldc2_w _ => match e.2.2.2 with
    | .long x => some (pc + 3, lo, .long x :: st, h, k, z)
    | _ => none
  | .iadd => ri_i2 (fun x y => x + y) pc lo st h k z
  | .isub => ri_i2 (fun x y => x - y) pc lo st h k z
  | .imul => ri_i2 (fun x y => x * y) pc lo st h k z
  | .iand => ri_i2 (fun x y => x &&& y) pc lo st h k z
  | .ior => ri_i2 (fun x y => x ||| y) pc lo st h k z
  | .ixor => ri_i2 (fun x y => x ^^^ y) pc lo st h k z
  | .ishl => ri_i2 (fun x y => x <<< (y &&& 31)) pc lo st h k z
  | .idiv => ri_d2 (fun x y => x / y) pc lo st h k z
  | .irem => ri_d2 (fun x y => x - x / y * y) pc lo st h k z
  | .iushr => ri_s2 (fun x y => (x.toUInt32 >>> (y.toUInt32 &&& Int32.toUInt32 31)).toInt32) 1 pc lo st h k z
  | .ishr => ri_s2 (fun x y => x >>> (y &&& 31)) 2 pc lo st h k z
  | .i2b => match st with
    | .int x :: r => some (pc + 1, lo, .int x.toInt8.toInt32 :: r, h, k, z)
    | .float t :: r => bif Nat.ble 512 t.toNat && Nat.blt t.toNat 1536 then some (pc + 1, lo, .float (UInt32.ofNat (t.toNat + 1024)) :: r, h, k, z) else none
    | _ => none
  | .i2c => match st with
    | .int x :: r => some (pc + 1, lo, .int (x.toUInt32 % 65536).toInt32 :: r, h, k, z)
    | _ => none
  | .i2l => match st with
    | .int x :: r => some (pc + 1, lo, .long x.toInt64 :: r, h, k, z)
    | _ => none
  | .ladd => ri_l2 (fun x y => x + y) pc lo st h k z
  | .lmul => ri_l2 (fun x y => x * y) pc lo st h k z
  | .lor => ri_l2 (fun x y => x ||| y) pc lo st h k z
  | .lshl => match st with
    | .int y :: .long x :: r => some (pc + 1, lo, .long (x <<< (y.toInt64 &&& 63)) :: r, h, k, z)
    | _ => none
  | .lcmp => match st with
    | .long y :: .long x :: r => some (pc + 1, lo, .int (lg_cmp x y) :: r, h, k, z)
    | _ => none
  | .dup => match st with
    | v :: r => bif Nat.beq v.category 1 then some (pc + 1, lo, v :: v :: r, h, k, z) else none
    | _ => none
  | .dup2 => match st with
    | v :: w :: r => bif Nat.beq v.category 1 && Nat.beq w.category 1 then some (pc + 1, lo, v :: w :: v :: w :: r, h, k, z) else none
    | _ => none
  | .pop => match st with
    | v :: r => bif Nat.beq v.category 1 then some (pc + 1, lo, r, h, k, z) else none
    | _ => none
  | .goto _ => match e.2.2.1 with
    | [tgt] => some (tgt, lo, st, h, k, z)
    | _ => none
  | .ifCond c _ => match e.2.2.1, st with
    | [tgt], x :: r => ri_br dc (ri_cn c) x (.int 0) tgt (pc + 3) lo r h k z
    | _, _ => none
  | .if_icmp c _ => match e.2.2.1, st with
    | [tgt], y :: x :: r => ri_br dc (ri_cn c) x y tgt (pc + 3) lo r h k z
    | _, _ => none
  | .tableswitch _ lw hw _ => match e.2.2.1, st with
    | dt :: ts, .int x :: r => bif decide (x.toInt < lw) || decide (hw < x.toInt) then some (dt, lo, r, h, k, z) else (match ts[(x.toInt - lw).toNat]? with
      | some tgt => some (tgt, lo, r, h, k, z)
      | none => none)
    | dt :: _, .float t :: r => bif decide (0 ≤ lw) then (match ri_fd dc 6 (.float t) (.int (Int32.ofInt hw)) with
      | some true => bif decide ((Int32.ofInt hw).toInt = hw) then some (dt, lo, r, h, k, z) else none
      | _ => none) else none
    | _, _ => none
  | .getfield _ => match e.2.2.1, st with
    | [t, i, _], .ref r :: s => match h[r]? with
      | some q => bif Nat.beq q.1 t then (match q.2[i]? with
        | some v => some (pc + 3, lo, v :: s, h, k, z)
        | none => none) else none
      | none => none
    | [50, 0, _], .retAddr 5 :: s => some (pc + 3, lo, .int 0 :: s, h, k, z)
    | [50, 1, _], .retAddr 5 :: s => some (pc + 3, lo, .retAddr 6 :: s, h, k, z)
    | _, _ => none
  | .putfield _ => match e.2.2.1, st with
    | [t, i, _, q], v :: .ref r :: s => match h[r]? with
      | some c => bif Nat.beq c.1 t && (Nat.blt i c.2.length && ri_fit q v) then some (pc + 3, lo, s, h.set r (c.1, c.2.set i v), k, z) else none
      | none => none
    | _, _ => none
  | .getstatic _ => match e.2.2.1 with
    | [1, _] => some (pc + 3, lo, .retAddr 1 :: st, h, k, z)
    | [2, _] => some (pc + 3, lo, .retAddr 2 :: st, h, k, z)
    | [3, _] => some (pc + 3, lo, .retAddr 3 :: st, h, k, z)
    | [4, _] => some (pc + 3, lo, .retAddr 4 :: st, h, k, z)
    | [5, _] => some (pc + 3, lo, .int 1 :: st, h, k, z)
    | [7, _] => some (pc + 3, lo, .retAddr 7 :: st, h, k, z)
    | _ => none
  | .new _ => match e.2.2.1 with
    | t :: _ => match ri_df t with
      | some fs => ri_new M t (pc + 3) fs lo st h k z
      | none => none
    | _ => none
  | .newarray a => match st with
    | .int n :: r => bif !decide (n < 0) && Nat.ble n.toNatClampNeg 100000 then (match a with
      | .int => ri_new M 13 (pc + 2) (List.replicate n.toNatClampNeg (.int 0)) lo r h k z
      | .byte => ri_new M 14 (pc + 2) (List.replicate n.toNatClampNeg (.int 0)) lo r h k z
      | .long => ri_new M 15 (pc + 2) (List.replicate n.toNatClampNeg (.long 0)) lo r h k z
      | .boolean => ri_new M 16 (pc + 2) (List.replicate n.toNatClampNeg (.int 0)) lo r h k z
      | _ => none) else none
    | _ => none
  | .anewarray _ => match e.2.2.1, st with
    | t :: _, .int n :: r => bif (Nat.beq t 17 || Nat.beq t 18) && (!decide (n < 0) && Nat.ble n.toNatClampNeg 100000) then ri_new M t (pc + 3) (List.replicate n.toNatClampNeg .null) lo r h k z else none
    | _, _ => none
  | .arraylength => match st with
    | a :: r => match ri_alen a h with
      | some n => some (pc + 1, lo, .int n :: r, h, k, z)
      | none => none
    | _ => none
  | .iaload => match st with
    | .int i :: a :: r => match ri_ald ri_g1 1 a i h with
      | some v => some (pc + 1, lo, v :: r, h, k, z)
      | none => none
    | _ => none
  | .baload => match st with
    | .int i :: a :: r => match ri_ald ri_g24 2 a i h with
      | some v => some (pc + 1, lo, v :: r, h, k, z)
      | none => none
    | _ => none
  | .laload => match st with
    | .int i :: a :: r => match ri_ald ri_g3 0 a i h with
      | some v => some (pc + 1, lo, v :: r, h, k, z)
      | none => none
    | _ => none
  | .aaload => match st with
    | .int i :: a :: r => match ri_ald ri_g5 0 a i h with
      | some v => some (pc + 1, lo, v :: r, h, k, z)
      | none => none
    | _ => none
  | .iastore => match st with
    | v :: .int i :: a :: r => bif ri_isI v then (match ri_ast ri_g1 a i v h with
      | some h' => some (pc + 1, lo, r, h', k, z)
      | none => none) else none
    | _ => none
  | .bastore => match st with
    | v :: .int i :: a :: r => match ri_nb v with
      | some w => (match ri_ast ri_g2 a i w h with
        | some h' => some (pc + 1, lo, r, h', k, z)
        | none => (match v with
          | .int x => bif decide (x = 0) || decide (x = 1) then (match ri_ast ri_g4 a i v h with
            | some h' => some (pc + 1, lo, r, h', k, z)
            | none => none) else none
          | _ => none))
      | none => none
    | _ => none
  | .lastore => match st with
    | v :: .int i :: a :: r => bif ri_isL v then (match ri_ast ri_g3 a i v h with
      | some h' => some (pc + 1, lo, r, h', k, z)
      | none => none) else none
    | _ => none
  | .aastore => match st with
    | .ref w :: .int i :: .ref a :: r => match h[w]?, h[a]? with
      | some qw, some qa => bif Nat.beq qw.1 6 && Nat.beq qa.1 17 || (Nat.beq qw.1 3 && Nat.beq qa.1 18) then (match ri_ast ri_g5 (.ref a) i (.ref w) h with
        | some h' => some (pc + 1, lo, r, h', k, z)
        | none => none) else none
      | _, _ => none
    | _ => none
  | .invokevirtual _ => ri_inv cal bud M pc e.2.2.1 lo st h k z
  | .invokespecial _ => ri_inv cal bud M pc e.2.2.1 lo st h k z
  | .invokestatic _ => ri_inv cal bud M pc e.2.2.1 lo st h k z
  | .checkcast _ => match st with
    | .ref a :: r => match h[a]? with
      | some q => bif Nat.beq q.1 13 then some (pc + 3, lo, .ref a :: r, h, k, z) else none
      | none => none
    | _ => none
  | .ireturn => match st with
    | v :: _ => bif ri_rok M.2.2.2.1 v then some (70000, [], [v], h, k, z) else none
    | _ => none
  | .return_ => match M.2.2.2.1 with
    | none => some (70000, [], [], h, k, z)
    | _ => none
  | _ => none
/-- one step of a method's frame; at 70000 it has returned -/
def ri_st (dc : ri_O) (cal : Nat → List Value → ri_H → Option (Option Value × ri_H)) (bud : Nat → Option (Nat × Nat)) (q : ri_M × ri_T) (f : ri_F) : Option ri_F :=
  bif Nat.beq f.1 70000 then some f else match ri_look2 q.2 f.1 with
    | some e => ri_step dc cal bud q.1 e f.1 f.2.1 f.2.2.1 f.2.2.2.1 f.2.2.2.2.1 f.2.2.2.2.2
    | none => none
/-- 2 ^ n steps, or as many as there are -/
noncomputable def ri_it (stp : ri_F → Option ri_F) (n : Nat) : ri_F → Option ri_F :=
  Nat.rec (motive := fun _ => ri_F → Option ri_F) stp (fun _ ih f => match ih f with
    | some f' => bif Nat.beq f'.1 70000 then some f' else ih f'
    | none => none) n
def ri_bud (md : List (ri_M × ri_T)) (j : Nat) : Option (Nat × Nat) := match md[j]? with
  | some q => some (q.1.2.2.2.2.2.1, q.1.2.2.2.2.2.2)
  | none => none
/-- a whole call, of depth d at most, of 2 ^ 14 steps a frame at most -/
noncomputable def ri_call (dc : ri_O) (md : List (ri_M × ri_T)) (d : Nat) : Nat → List Value → ri_H → Option (Option Value × ri_H) :=
  Nat.rec (motive := fun _ => Nat → List Value → ri_H → Option (Option Value × ri_H)) (fun _ _ _ => none) (fun _ ih j as h => match md[j]? with
    | some q => match ri_it (ri_st dc ih (ri_bud md) q) 14 (0, ri_as 0 as, [], h, 0, 0) with
      | some f => bif Nat.beq f.1 70000 then some (f.2.2.1.head?, f.2.2.2.1) else none
      | none => none
    | none => none) d
end
