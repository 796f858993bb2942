section
-- ===== PART A: goes FIRST, ahead of the names: the tables' words, and 'selects' of the private methods out of them =====
/-- a private method of a class that the tables say can be made, by its rows of tables_1 -/
def lw_okq (q : MethodName × Nat) : Prop := (q.1.cls ≠ "java/lang/invoke/MethodHandle" ∧ q.1.cls ≠ "java/lang/invoke/VarHandle") ∧ Cond.instantiable q.1.cls q.2 ∈ tables_1 ∧ Cond.privateMethod q.1 ∈ tables_1 ∧ Cond.instanceMethod q.1 ∈ tables_1
theorem lw_p0 : lw_okq (⟨"LakeLearns", "append", "(I)V"⟩, 17) := ⟨⟨by decide +kernel, by decide +kernel⟩, List.mem_of_getElem? (i := 26) (by decide +kernel), List.mem_of_getElem? (i := 526) (by decide +kernel), List.mem_of_getElem? (i := 527) (by decide +kernel)⟩
theorem lw_p1 : lw_okq (⟨"LakeLearns", "openTape", "(I)V"⟩, 17) := ⟨⟨by decide +kernel, by decide +kernel⟩, List.mem_of_getElem? (i := 26) (by decide +kernel), List.mem_of_getElem? (i := 538) (by decide +kernel), List.mem_of_getElem? (i := 539) (by decide +kernel)⟩
theorem lw_p2 : lw_okq (⟨"LakeLearns$Reader", "readRun", "()V"⟩, 11) := ⟨⟨by decide +kernel, by decide +kernel⟩, List.mem_of_getElem? (i := 34) (by decide +kernel), List.mem_of_getElem? (i := 553) (by decide +kernel), List.mem_of_getElem? (i := 554) (by decide +kernel)⟩
theorem lw_p3 : lw_okq (⟨"LakeLearns$Reader", "keyOf", "(J)I"⟩, 11) := ⟨⟨by decide +kernel, by decide +kernel⟩, List.mem_of_getElem? (i := 34) (by decide +kernel), List.mem_of_getElem? (i := 560) (by decide +kernel), List.mem_of_getElem? (i := 561) (by decide +kernel)⟩
theorem lw_p4 : lw_okq (⟨"LakeLearns$LakeReader", "readNamed", "(I)Z"⟩, 3) := ⟨⟨by decide +kernel, by decide +kernel⟩, List.mem_of_getElem? (i := 136) (by decide +kernel), List.mem_of_getElem? (i := 575) (by decide +kernel), List.mem_of_getElem? (i := 576) (by decide +kernel)⟩
theorem lw_p5 : lw_okq (⟨"LakeLearns$LakeReader", "readLesson", "(I)Z"⟩, 3) := ⟨⟨by decide +kernel, by decide +kernel⟩, List.mem_of_getElem? (i := 136) (by decide +kernel), List.mem_of_getElem? (i := 595) (by decide +kernel), List.mem_of_getElem? (i := 596) (by decide +kernel)⟩
theorem lw_p6 : lw_okq (⟨"LakeLearns$LakeReader", "readStep", "(I)Z"⟩, 3) := ⟨⟨by decide +kernel, by decide +kernel⟩, List.mem_of_getElem? (i := 136) (by decide +kernel), List.mem_of_getElem? (i := 605) (by decide +kernel), List.mem_of_getElem? (i := 606) (by decide +kernel)⟩
theorem lw_p7 : lw_okq (⟨"LakeLearns$LakeReader", "readPier", "(I)Z"⟩, 3) := ⟨⟨by decide +kernel, by decide +kernel⟩, List.mem_of_getElem? (i := 136) (by decide +kernel), List.mem_of_getElem? (i := 621) (by decide +kernel), List.mem_of_getElem? (i := 622) (by decide +kernel)⟩
theorem lw_p8 : lw_okq (⟨"LakeLearns$LakeReader", "readSetting", "(I)Z"⟩, 3) := ⟨⟨by decide +kernel, by decide +kernel⟩, List.mem_of_getElem? (i := 136) (by decide +kernel), List.mem_of_getElem? (i := 625) (by decide +kernel), List.mem_of_getElem? (i := 626) (by decide +kernel)⟩
theorem lw_p9 : lw_okq (⟨"LakeLearns$LakeReader", "readIceLong", "(I)Z"⟩, 3) := ⟨⟨by decide +kernel, by decide +kernel⟩, List.mem_of_getElem? (i := 136) (by decide +kernel), List.mem_of_getElem? (i := 633) (by decide +kernel), List.mem_of_getElem? (i := 634) (by decide +kernel)⟩
theorem lw_p10 : lw_okq (⟨"LakeLearns$Life", "countShowings", "(LLakeLearns$Lake;)V"⟩, 16) := ⟨⟨by decide +kernel, by decide +kernel⟩, List.mem_of_getElem? (i := 279) (by decide +kernel), List.mem_of_getElem? (i := 778) (by decide +kernel), List.mem_of_getElem? (i := 779) (by decide +kernel)⟩
theorem lw_p11 : lw_okq (⟨"LakeLearns$Life", "keepOrForget", "(LLakeLearns$Lake;I)V"⟩, 16) := ⟨⟨by decide +kernel, by decide +kernel⟩, List.mem_of_getElem? (i := 279) (by decide +kernel), List.mem_of_getElem? (i := 783) (by decide +kernel), List.mem_of_getElem? (i := 784) (by decide +kernel)⟩
theorem lw_p12 : lw_okq (⟨"LakeLearns$Life", "unlearn", "(I)V"⟩, 16) := ⟨⟨by decide +kernel, by decide +kernel⟩, List.mem_of_getElem? (i := 279) (by decide +kernel), List.mem_of_getElem? (i := 791) (by decide +kernel), List.mem_of_getElem? (i := 792) (by decide +kernel)⟩
theorem lw_p13 : lw_okq (⟨"LakeLearns$Guess", "listen", "(LLakeLearns$Lake;[BI)Z"⟩, 8) := ⟨⟨by decide +kernel, by decide +kernel⟩, List.mem_of_getElem? (i := 426) (by decide +kernel), List.mem_of_getElem? (i := 833) (by decide +kernel), List.mem_of_getElem? (i := 834) (by decide +kernel)⟩
theorem lw_p14 : lw_okq (⟨"LakeLearns$Guess", "findSets", "(LLakeLearns$Lake;)V"⟩, 8) := ⟨⟨by decide +kernel, by decide +kernel⟩, List.mem_of_getElem? (i := 426) (by decide +kernel), List.mem_of_getElem? (i := 846) (by decide +kernel), List.mem_of_getElem? (i := 847) (by decide +kernel)⟩
theorem lw_p15 : lw_okq (⟨"LakeLearns$Guess", "explains", "(LLakeLearns$Lake;I)Z"⟩, 8) := ⟨⟨by decide +kernel, by decide +kernel⟩, List.mem_of_getElem? (i := 426) (by decide +kernel), List.mem_of_getElem? (i := 850) (by decide +kernel), List.mem_of_getElem? (i := 851) (by decide +kernel)⟩
def lw_privs_1 : List (MethodName × Nat) := [(⟨"LakeLearns", "append", "(I)V"⟩, 17), (⟨"LakeLearns", "openTape", "(I)V"⟩, 17), (⟨"LakeLearns$Reader", "readRun", "()V"⟩, 11), (⟨"LakeLearns$Reader", "keyOf", "(J)I"⟩, 11), (⟨"LakeLearns$LakeReader", "readNamed", "(I)Z"⟩, 3), (⟨"LakeLearns$LakeReader", "readLesson", "(I)Z"⟩, 3), (⟨"LakeLearns$LakeReader", "readStep", "(I)Z"⟩, 3), (⟨"LakeLearns$LakeReader", "readPier", "(I)Z"⟩, 3), (⟨"LakeLearns$LakeReader", "readSetting", "(I)Z"⟩, 3), (⟨"LakeLearns$LakeReader", "readIceLong", "(I)Z"⟩, 3), (⟨"LakeLearns$Life", "countShowings", "(LLakeLearns$Lake;)V"⟩, 16), (⟨"LakeLearns$Life", "keepOrForget", "(LLakeLearns$Lake;I)V"⟩, 16), (⟨"LakeLearns$Life", "unlearn", "(I)V"⟩, 16), (⟨"LakeLearns$Guess", "listen", "(LLakeLearns$Lake;[BI)Z"⟩, 8), (⟨"LakeLearns$Guess", "findSets", "(LLakeLearns$Lake;)V"⟩, 8), (⟨"LakeLearns$Guess", "explains", "(LLakeLearns$Lake;I)Z"⟩, 8)]
theorem lw_r1 : ∀ q ∈ lw_privs_1, lw_okq q := List.forall_mem_cons.mpr ⟨lw_p0, List.forall_mem_cons.mpr ⟨lw_p1, List.forall_mem_cons.mpr ⟨lw_p2, List.forall_mem_cons.mpr ⟨lw_p3, List.forall_mem_cons.mpr ⟨lw_p4, List.forall_mem_cons.mpr ⟨lw_p5, List.forall_mem_cons.mpr ⟨lw_p6, List.forall_mem_cons.mpr ⟨lw_p7, List.forall_mem_cons.mpr ⟨lw_p8, List.forall_mem_cons.mpr ⟨lw_p9, List.forall_mem_cons.mpr ⟨lw_p10, List.forall_mem_cons.mpr ⟨lw_p11, List.forall_mem_cons.mpr ⟨lw_p12, List.forall_mem_cons.mpr ⟨lw_p13, List.forall_mem_cons.mpr ⟨lw_p14, List.forall_mem_cons.mpr ⟨lw_p15, fun _ h => absurd h List.not_mem_nil⟩⟩⟩⟩⟩⟩⟩⟩⟩⟩⟩⟩⟩⟩⟩⟩
theorem lw_p16 : lw_okq (⟨"LakeLearns$Guess", "judgeLessons", "(LLakeLearns$Lake;)V"⟩, 8) := ⟨⟨by decide +kernel, by decide +kernel⟩, List.mem_of_getElem? (i := 426) (by decide +kernel), List.mem_of_getElem? (i := 855) (by decide +kernel), List.mem_of_getElem? (i := 856) (by decide +kernel)⟩
theorem lw_p17 : lw_okq (⟨"LakeLearns$Guess", "judgeCues", "(LLakeLearns$Lake;)V"⟩, 8) := ⟨⟨by decide +kernel, by decide +kernel⟩, List.mem_of_getElem? (i := 426) (by decide +kernel), List.mem_of_getElem? (i := 859) (by decide +kernel), List.mem_of_getElem? (i := 860) (by decide +kernel)⟩
theorem lw_p18 : lw_okq (⟨"LakeLearns$Guess", "countUnlike", "(LLakeLearns$Lake;I)I"⟩, 8) := ⟨⟨by decide +kernel, by decide +kernel⟩, List.mem_of_getElem? (i := 426) (by decide +kernel), List.mem_of_getElem? (i := 863) (by decide +kernel), List.mem_of_getElem? (i := 864) (by decide +kernel)⟩
theorem lw_p19 : lw_okq (⟨"LakeLearns", "cheapest", "(II)I"⟩, 17) := ⟨⟨by decide +kernel, by decide +kernel⟩, List.mem_of_getElem? (i := 26) (by decide +kernel), List.mem_of_getElem? (i := 885) (by decide +kernel), List.mem_of_getElem? (i := 886) (by decide +kernel)⟩
theorem lw_p20 : lw_okq (⟨"LakeLearns", "pairs", "(IZ)I"⟩, 17) := ⟨⟨by decide +kernel, by decide +kernel⟩, List.mem_of_getElem? (i := 26) (by decide +kernel), List.mem_of_getElem? (i := 901) (by decide +kernel), List.mem_of_getElem? (i := 902) (by decide +kernel)⟩
theorem lw_p21 : lw_okq (⟨"LakeLearns$Draw", "drawDay", "(LLakeLearns$Lake;LLakeLearns$Life;)V"⟩, 1) := ⟨⟨by decide +kernel, by decide +kernel⟩, List.mem_of_getElem? (i := 460) (by decide +kernel), List.mem_of_getElem? (i := 946) (by decide +kernel), List.mem_of_getElem? (i := 947) (by decide +kernel)⟩
theorem lw_p22 : lw_okq (⟨"LakeLearns$Draw", "of", "(I)I"⟩, 1) := ⟨⟨by decide +kernel, by decide +kernel⟩, List.mem_of_getElem? (i := 460) (by decide +kernel), List.mem_of_getElem? (i := 950) (by decide +kernel), List.mem_of_getElem? (i := 951) (by decide +kernel)⟩
theorem lw_p23 : lw_okq (⟨"LakeLearns$Diary", "readLine", "(LLakeLearns$Reader;LLakeLearns$Lake;)Z"⟩, 4) := ⟨⟨by decide +kernel, by decide +kernel⟩, List.mem_of_getElem? (i := 407) (by decide +kernel), List.mem_of_getElem? (i := 973) (by decide +kernel), List.mem_of_getElem? (i := 974) (by decide +kernel)⟩
theorem lw_p24 : lw_okq (⟨"LakeLearns$Diary", "liveLine", "(LLakeLearns$Lake;LLakeLearns$Life;I)I"⟩, 4) := ⟨⟨by decide +kernel, by decide +kernel⟩, List.mem_of_getElem? (i := 407) (by decide +kernel), List.mem_of_getElem? (i := 999) (by decide +kernel), List.mem_of_getElem? (i := 1000) (by decide +kernel)⟩
theorem lw_p25 : lw_okq (⟨"LakeLearns$SentenceReader", "readCond", "(LLakeLearns$Lake;I)Z"⟩, 2) := ⟨⟨by decide +kernel, by decide +kernel⟩, List.mem_of_getElem? (i := 236) (by decide +kernel), List.mem_of_getElem? (i := 1037) (by decide +kernel), List.mem_of_getElem? (i := 1038) (by decide +kernel)⟩
theorem lw_p26 : lw_okq (⟨"LakeLearns$SentenceReader", "readOne", "(LLakeLearns$Lake;I)Z"⟩, 2) := ⟨⟨by decide +kernel, by decide +kernel⟩, List.mem_of_getElem? (i := 236) (by decide +kernel), List.mem_of_getElem? (i := 1041) (by decide +kernel), List.mem_of_getElem? (i := 1042) (by decide +kernel)⟩
theorem lw_p27 : lw_okq (⟨"LakeLearns$SentenceReader", "readMeasure", "(I)Z"⟩, 2) := ⟨⟨by decide +kernel, by decide +kernel⟩, List.mem_of_getElem? (i := 236) (by decide +kernel), List.mem_of_getElem? (i := 1053) (by decide +kernel), List.mem_of_getElem? (i := 1054) (by decide +kernel)⟩
theorem lw_p28 : lw_okq (⟨"LakeLearns$SentenceReader", "readPlain", "(LLakeLearns$Lake;I)Z"⟩, 2) := ⟨⟨by decide +kernel, by decide +kernel⟩, List.mem_of_getElem? (i := 236) (by decide +kernel), List.mem_of_getElem? (i := 1058) (by decide +kernel), List.mem_of_getElem? (i := 1059) (by decide +kernel)⟩
theorem lw_p29 : lw_okq (⟨"LakeLearns$Sentence", "saidByPart", "(LLakeLearns$Lake;LLakeLearns$Life;I)I"⟩, 6) := ⟨⟨by decide +kernel, by decide +kernel⟩, List.mem_of_getElem? (i := 242) (by decide +kernel), List.mem_of_getElem? (i := 1077) (by decide +kernel), List.mem_of_getElem? (i := 1078) (by decide +kernel)⟩
theorem lw_p30 : lw_okq (⟨"LakeLearns$Sentence", "saidByNumber", "(LLakeLearns$Lake;LLakeLearns$Life;I)I"⟩, 6) := ⟨⟨by decide +kernel, by decide +kernel⟩, List.mem_of_getElem? (i := 242) (by decide +kernel), List.mem_of_getElem? (i := 1086) (by decide +kernel), List.mem_of_getElem? (i := 1087) (by decide +kernel)⟩
theorem lw_p31 : lw_okq (⟨"java/lang/Throwable", "fillInStackTrace", "(I)Ljava/lang/Throwable;"⟩, 6) := ⟨⟨by decide +kernel, by decide +kernel⟩, List.mem_of_getElem? (i := 1152) (by decide +kernel), List.mem_of_getElem? (i := 1150) (by decide +kernel), List.mem_of_getElem? (i := 1151) (by decide +kernel)⟩
def lw_privs_2 : List (MethodName × Nat) := [(⟨"LakeLearns$Guess", "judgeLessons", "(LLakeLearns$Lake;)V"⟩, 8), (⟨"LakeLearns$Guess", "judgeCues", "(LLakeLearns$Lake;)V"⟩, 8), (⟨"LakeLearns$Guess", "countUnlike", "(LLakeLearns$Lake;I)I"⟩, 8), (⟨"LakeLearns", "cheapest", "(II)I"⟩, 17), (⟨"LakeLearns", "pairs", "(IZ)I"⟩, 17), (⟨"LakeLearns$Draw", "drawDay", "(LLakeLearns$Lake;LLakeLearns$Life;)V"⟩, 1), (⟨"LakeLearns$Draw", "of", "(I)I"⟩, 1), (⟨"LakeLearns$Diary", "readLine", "(LLakeLearns$Reader;LLakeLearns$Lake;)Z"⟩, 4), (⟨"LakeLearns$Diary", "liveLine", "(LLakeLearns$Lake;LLakeLearns$Life;I)I"⟩, 4), (⟨"LakeLearns$SentenceReader", "readCond", "(LLakeLearns$Lake;I)Z"⟩, 2), (⟨"LakeLearns$SentenceReader", "readOne", "(LLakeLearns$Lake;I)Z"⟩, 2), (⟨"LakeLearns$SentenceReader", "readMeasure", "(I)Z"⟩, 2), (⟨"LakeLearns$SentenceReader", "readPlain", "(LLakeLearns$Lake;I)Z"⟩, 2), (⟨"LakeLearns$Sentence", "saidByPart", "(LLakeLearns$Lake;LLakeLearns$Life;I)I"⟩, 6), (⟨"LakeLearns$Sentence", "saidByNumber", "(LLakeLearns$Lake;LLakeLearns$Life;I)I"⟩, 6), (⟨"java/lang/Throwable", "fillInStackTrace", "(I)Ljava/lang/Throwable;"⟩, 6)]
theorem lw_r2 : ∀ q ∈ lw_privs_2, lw_okq q := List.forall_mem_cons.mpr ⟨lw_p16, List.forall_mem_cons.mpr ⟨lw_p17, List.forall_mem_cons.mpr ⟨lw_p18, List.forall_mem_cons.mpr ⟨lw_p19, List.forall_mem_cons.mpr ⟨lw_p20, List.forall_mem_cons.mpr ⟨lw_p21, List.forall_mem_cons.mpr ⟨lw_p22, List.forall_mem_cons.mpr ⟨lw_p23, List.forall_mem_cons.mpr ⟨lw_p24, List.forall_mem_cons.mpr ⟨lw_p25, List.forall_mem_cons.mpr ⟨lw_p26, List.forall_mem_cons.mpr ⟨lw_p27, List.forall_mem_cons.mpr ⟨lw_p28, List.forall_mem_cons.mpr ⟨lw_p29, List.forall_mem_cons.mpr ⟨lw_p30, List.forall_mem_cons.mpr ⟨lw_p31, fun _ h => absurd h List.not_mem_nil⟩⟩⟩⟩⟩⟩⟩⟩⟩⟩⟩⟩⟩⟩⟩⟩
theorem lw_p32 : lw_okq (⟨"LakeLearnsModel", "four", "(I)V"⟩, 48) := ⟨⟨by decide +kernel, by decide +kernel⟩, List.mem_of_getElem? (i := 1187) (by decide +kernel), List.mem_of_getElem? (i := 1185) (by decide +kernel), List.mem_of_getElem? (i := 1186) (by decide +kernel)⟩
theorem lw_p33 : lw_okq (⟨"LakeLearnsModel", "clears", "()V"⟩, 48) := ⟨⟨by decide +kernel, by decide +kernel⟩, List.mem_of_getElem? (i := 1187) (by decide +kernel), List.mem_of_getElem? (i := 1223) (by decide +kernel), List.mem_of_getElem? (i := 1224) (by decide +kernel)⟩
theorem lw_p34 : lw_okq (⟨"LakeLearnsModel", "taken", "(I)V"⟩, 48) := ⟨⟨by decide +kernel, by decide +kernel⟩, List.mem_of_getElem? (i := 1187) (by decide +kernel), List.mem_of_getElem? (i := 1377) (by decide +kernel), List.mem_of_getElem? (i := 1378) (by decide +kernel)⟩
theorem lw_p35 : lw_okq (⟨"LakeLearnsModel", "next", "()V"⟩, 48) := ⟨⟨by decide +kernel, by decide +kernel⟩, List.mem_of_getElem? (i := 1187) (by decide +kernel), List.mem_of_getElem? (i := 1381) (by decide +kernel), List.mem_of_getElem? (i := 1382) (by decide +kernel)⟩
theorem lw_p36 : lw_okq (⟨"LakeLearnsModel", "peek", "()I"⟩, 48) := ⟨⟨by decide +kernel, by decide +kernel⟩, List.mem_of_getElem? (i := 1187) (by decide +kernel), List.mem_of_getElem? (i := 1385) (by decide +kernel), List.mem_of_getElem? (i := 1386) (by decide +kernel)⟩
theorem lw_p37 : lw_okq (⟨"LakeLearnsModel", "line", "()Z"⟩, 48) := ⟨⟨by decide +kernel, by decide +kernel⟩, List.mem_of_getElem? (i := 1187) (by decide +kernel), List.mem_of_getElem? (i := 1395) (by decide +kernel), List.mem_of_getElem? (i := 1396) (by decide +kernel)⟩
theorem lw_p38 : lw_okq (⟨"LakeLearnsModel", "isWord", "(J)Z"⟩, 48) := ⟨⟨by decide +kernel, by decide +kernel⟩, List.mem_of_getElem? (i := 1187) (by decide +kernel), List.mem_of_getElem? (i := 1399) (by decide +kernel), List.mem_of_getElem? (i := 1400) (by decide +kernel)⟩
theorem lw_p39 : lw_okq (⟨"LakeLearnsModel", "isOnce", "(I)Z"⟩, 48) := ⟨⟨by decide +kernel, by decide +kernel⟩, List.mem_of_getElem? (i := 1187) (by decide +kernel), List.mem_of_getElem? (i := 1403) (by decide +kernel), List.mem_of_getElem? (i := 1404) (by decide +kernel)⟩
theorem lw_p40 : lw_okq (⟨"LakeLearnsModel", "bad", "(I)Z"⟩, 48) := ⟨⟨by decide +kernel, by decide +kernel⟩, List.mem_of_getElem? (i := 1187) (by decide +kernel), List.mem_of_getElem? (i := 1410) (by decide +kernel), List.mem_of_getElem? (i := 1411) (by decide +kernel)⟩
theorem lw_p41 : lw_okq (⟨"LakeLearnsModel", "puts", "(III)Z"⟩, 48) := ⟨⟨by decide +kernel, by decide +kernel⟩, List.mem_of_getElem? (i := 1187) (by decide +kernel), List.mem_of_getElem? (i := 1414) (by decide +kernel), List.mem_of_getElem? (i := 1415) (by decide +kernel)⟩
theorem lw_p42 : lw_okq (⟨"LakeLearnsModel", "takes", "(II)Z"⟩, 48) := ⟨⟨by decide +kernel, by decide +kernel⟩, List.mem_of_getElem? (i := 1187) (by decide +kernel), List.mem_of_getElem? (i := 1418) (by decide +kernel), List.mem_of_getElem? (i := 1419) (by decide +kernel)⟩
theorem lw_p43 : lw_okq (⟨"LakeLearnsModel", "fresh", "(I)Z"⟩, 48) := ⟨⟨by decide +kernel, by decide +kernel⟩, List.mem_of_getElem? (i := 1187) (by decide +kernel), List.mem_of_getElem? (i := 1425) (by decide +kernel), List.mem_of_getElem? (i := 1426) (by decide +kernel)⟩
theorem lw_p44 : lw_okq (⟨"LakeLearnsModel", "isName", "()Z"⟩, 48) := ⟨⟨by decide +kernel, by decide +kernel⟩, List.mem_of_getElem? (i := 1187) (by decide +kernel), List.mem_of_getElem? (i := 1429) (by decide +kernel), List.mem_of_getElem? (i := 1430) (by decide +kernel)⟩
theorem lw_p45 : lw_okq (⟨"LakeLearnsModel", "find", "(II)I"⟩, 48) := ⟨⟨by decide +kernel, by decide +kernel⟩, List.mem_of_getElem? (i := 1187) (by decide +kernel), List.mem_of_getElem? (i := 1433) (by decide +kernel), List.mem_of_getElem? (i := 1434) (by decide +kernel)⟩
theorem lw_p46 : lw_okq (⟨"LakeLearnsModel", "readLesson", "()Z"⟩, 48) := ⟨⟨by decide +kernel, by decide +kernel⟩, List.mem_of_getElem? (i := 1187) (by decide +kernel), List.mem_of_getElem? (i := 1437) (by decide +kernel), List.mem_of_getElem? (i := 1438) (by decide +kernel)⟩
theorem lw_p47 : lw_okq (⟨"LakeLearnsModel", "looksAt", "(II)Z"⟩, 48) := ⟨⟨by decide +kernel, by decide +kernel⟩, List.mem_of_getElem? (i := 1187) (by decide +kernel), List.mem_of_getElem? (i := 1441) (by decide +kernel), List.mem_of_getElem? (i := 1442) (by decide +kernel)⟩
def lw_privs_3 : List (MethodName × Nat) := [(⟨"LakeLearnsModel", "four", "(I)V"⟩, 48), (⟨"LakeLearnsModel", "clears", "()V"⟩, 48), (⟨"LakeLearnsModel", "taken", "(I)V"⟩, 48), (⟨"LakeLearnsModel", "next", "()V"⟩, 48), (⟨"LakeLearnsModel", "peek", "()I"⟩, 48), (⟨"LakeLearnsModel", "line", "()Z"⟩, 48), (⟨"LakeLearnsModel", "isWord", "(J)Z"⟩, 48), (⟨"LakeLearnsModel", "isOnce", "(I)Z"⟩, 48), (⟨"LakeLearnsModel", "bad", "(I)Z"⟩, 48), (⟨"LakeLearnsModel", "puts", "(III)Z"⟩, 48), (⟨"LakeLearnsModel", "takes", "(II)Z"⟩, 48), (⟨"LakeLearnsModel", "fresh", "(I)Z"⟩, 48), (⟨"LakeLearnsModel", "isName", "()Z"⟩, 48), (⟨"LakeLearnsModel", "find", "(II)I"⟩, 48), (⟨"LakeLearnsModel", "readLesson", "()Z"⟩, 48), (⟨"LakeLearnsModel", "looksAt", "(II)Z"⟩, 48)]
theorem lw_r3 : ∀ q ∈ lw_privs_3, lw_okq q := List.forall_mem_cons.mpr ⟨lw_p32, List.forall_mem_cons.mpr ⟨lw_p33, List.forall_mem_cons.mpr ⟨lw_p34, List.forall_mem_cons.mpr ⟨lw_p35, List.forall_mem_cons.mpr ⟨lw_p36, List.forall_mem_cons.mpr ⟨lw_p37, List.forall_mem_cons.mpr ⟨lw_p38, List.forall_mem_cons.mpr ⟨lw_p39, List.forall_mem_cons.mpr ⟨lw_p40, List.forall_mem_cons.mpr ⟨lw_p41, List.forall_mem_cons.mpr ⟨lw_p42, List.forall_mem_cons.mpr ⟨lw_p43, List.forall_mem_cons.mpr ⟨lw_p44, List.forall_mem_cons.mpr ⟨lw_p45, List.forall_mem_cons.mpr ⟨lw_p46, List.forall_mem_cons.mpr ⟨lw_p47, fun _ h => absurd h List.not_mem_nil⟩⟩⟩⟩⟩⟩⟩⟩⟩⟩⟩⟩⟩⟩⟩⟩
theorem lw_p48 : lw_okq (⟨"LakeLearnsModel", "isSign", "(I)Z"⟩, 48) := ⟨⟨by decide +kernel, by decide +kernel⟩, List.mem_of_getElem? (i := 1187) (by decide +kernel), List.mem_of_getElem? (i := 1445) (by decide +kernel), List.mem_of_getElem? (i := 1446) (by decide +kernel)⟩
theorem lw_p49 : lw_okq (⟨"LakeLearnsModel", "sign", "(I)Z"⟩, 48) := ⟨⟨by decide +kernel, by decide +kernel⟩, List.mem_of_getElem? (i := 1187) (by decide +kernel), List.mem_of_getElem? (i := 1449) (by decide +kernel), List.mem_of_getElem? (i := 1450) (by decide +kernel)⟩
theorem lw_p50 : lw_okq (⟨"LakeLearnsModel", "isLesson", "(I)Z"⟩, 48) := ⟨⟨by decide +kernel, by decide +kernel⟩, List.mem_of_getElem? (i := 1187) (by decide +kernel), List.mem_of_getElem? (i := 1461) (by decide +kernel), List.mem_of_getElem? (i := 1462) (by decide +kernel)⟩
theorem lw_p51 : lw_okq (⟨"LakeLearnsModel", "throwsIf", "(Z)Z"⟩, 48) := ⟨⟨by decide +kernel, by decide +kernel⟩, List.mem_of_getElem? (i := 1187) (by decide +kernel), List.mem_of_getElem? (i := 1465) (by decide +kernel), List.mem_of_getElem? (i := 1466) (by decide +kernel)⟩
theorem lw_p52 : lw_okq (⟨"LakeLearnsModel", "isKnown", "(I)Z"⟩, 48) := ⟨⟨by decide +kernel, by decide +kernel⟩, List.mem_of_getElem? (i := 1187) (by decide +kernel), List.mem_of_getElem? (i := 1469) (by decide +kernel), List.mem_of_getElem? (i := 1470) (by decide +kernel)⟩
theorem lw_p53 : lw_okq (⟨"LakeLearnsModel", "isBoat", "(I)Z"⟩, 48) := ⟨⟨by decide +kernel, by decide +kernel⟩, List.mem_of_getElem? (i := 1187) (by decide +kernel), List.mem_of_getElem? (i := 1481) (by decide +kernel), List.mem_of_getElem? (i := 1482) (by decide +kernel)⟩
theorem lw_p54 : lw_okq (⟨"LakeLearnsModel", "isCell", "(I)Z"⟩, 48) := ⟨⟨by decide +kernel, by decide +kernel⟩, List.mem_of_getElem? (i := 1187) (by decide +kernel), List.mem_of_getElem? (i := 1489) (by decide +kernel), List.mem_of_getElem? (i := 1490) (by decide +kernel)⟩
theorem lw_p55 : lw_okq (⟨"LakeLearnsModel", "isConfused", "(I)Z"⟩, 48) := ⟨⟨by decide +kernel, by decide +kernel⟩, List.mem_of_getElem? (i := 1187) (by decide +kernel), List.mem_of_getElem? (i := 1497) (by decide +kernel), List.mem_of_getElem? (i := 1498) (by decide +kernel)⟩
theorem lw_p56 : lw_okq (⟨"LakeLearnsModel", "isIce", "(I)Z"⟩, 48) := ⟨⟨by decide +kernel, by decide +kernel⟩, List.mem_of_getElem? (i := 1187) (by decide +kernel), List.mem_of_getElem? (i := 1501) (by decide +kernel), List.mem_of_getElem? (i := 1502) (by decide +kernel)⟩
theorem lw_p57 : lw_okq (⟨"LakeLearnsModel", "knownSet", "()I"⟩, 48) := ⟨⟨by decide +kernel, by decide +kernel⟩, List.mem_of_getElem? (i := 1187) (by decide +kernel), List.mem_of_getElem? (i := 1505) (by decide +kernel), List.mem_of_getElem? (i := 1506) (by decide +kernel)⟩
theorem lw_p58 : lw_okq (⟨"LakeLearnsModel", "todaySet", "()I"⟩, 48) := ⟨⟨by decide +kernel, by decide +kernel⟩, List.mem_of_getElem? (i := 1187) (by decide +kernel), List.mem_of_getElem? (i := 1509) (by decide +kernel), List.mem_of_getElem? (i := 1510) (by decide +kernel)⟩
theorem lw_p59 : lw_okq (⟨"LakeLearnsModel", "isTeacher", "(I)Z"⟩, 48) := ⟨⟨by decide +kernel, by decide +kernel⟩, List.mem_of_getElem? (i := 1187) (by decide +kernel), List.mem_of_getElem? (i := 1517) (by decide +kernel), List.mem_of_getElem? (i := 1518) (by decide +kernel)⟩
theorem lw_p60 : lw_okq (⟨"LakeLearnsModel", "whyShow", "(I)I"⟩, 48) := ⟨⟨by decide +kernel, by decide +kernel⟩, List.mem_of_getElem? (i := 1187) (by decide +kernel), List.mem_of_getElem? (i := 1521) (by decide +kernel), List.mem_of_getElem? (i := 1522) (by decide +kernel)⟩
theorem lw_p61 : lw_okq (⟨"LakeLearnsModel", "keep", "()V"⟩, 48) := ⟨⟨by decide +kernel, by decide +kernel⟩, List.mem_of_getElem? (i := 1187) (by decide +kernel), List.mem_of_getElem? (i := 1525) (by decide +kernel), List.mem_of_getElem? (i := 1526) (by decide +kernel)⟩
theorem lw_p62 : lw_okq (⟨"LakeLearnsModel", "shows", "(II)V"⟩, 48) := ⟨⟨by decide +kernel, by decide +kernel⟩, List.mem_of_getElem? (i := 1187) (by decide +kernel), List.mem_of_getElem? (i := 1529) (by decide +kernel), List.mem_of_getElem? (i := 1530) (by decide +kernel)⟩
theorem lw_p63 : lw_okq (⟨"LakeLearnsModel", "isCue", "(I)Z"⟩, 48) := ⟨⟨by decide +kernel, by decide +kernel⟩, List.mem_of_getElem? (i := 1187) (by decide +kernel), List.mem_of_getElem? (i := 1537) (by decide +kernel), List.mem_of_getElem? (i := 1538) (by decide +kernel)⟩
def lw_privs_4 : List (MethodName × Nat) := [(⟨"LakeLearnsModel", "isSign", "(I)Z"⟩, 48), (⟨"LakeLearnsModel", "sign", "(I)Z"⟩, 48), (⟨"LakeLearnsModel", "isLesson", "(I)Z"⟩, 48), (⟨"LakeLearnsModel", "throwsIf", "(Z)Z"⟩, 48), (⟨"LakeLearnsModel", "isKnown", "(I)Z"⟩, 48), (⟨"LakeLearnsModel", "isBoat", "(I)Z"⟩, 48), (⟨"LakeLearnsModel", "isCell", "(I)Z"⟩, 48), (⟨"LakeLearnsModel", "isConfused", "(I)Z"⟩, 48), (⟨"LakeLearnsModel", "isIce", "(I)Z"⟩, 48), (⟨"LakeLearnsModel", "knownSet", "()I"⟩, 48), (⟨"LakeLearnsModel", "todaySet", "()I"⟩, 48), (⟨"LakeLearnsModel", "isTeacher", "(I)Z"⟩, 48), (⟨"LakeLearnsModel", "whyShow", "(I)I"⟩, 48), (⟨"LakeLearnsModel", "keep", "()V"⟩, 48), (⟨"LakeLearnsModel", "shows", "(II)V"⟩, 48), (⟨"LakeLearnsModel", "isCue", "(I)Z"⟩, 48)]
theorem lw_r4 : ∀ q ∈ lw_privs_4, lw_okq q := List.forall_mem_cons.mpr ⟨lw_p48, List.forall_mem_cons.mpr ⟨lw_p49, List.forall_mem_cons.mpr ⟨lw_p50, List.forall_mem_cons.mpr ⟨lw_p51, List.forall_mem_cons.mpr ⟨lw_p52, List.forall_mem_cons.mpr ⟨lw_p53, List.forall_mem_cons.mpr ⟨lw_p54, List.forall_mem_cons.mpr ⟨lw_p55, List.forall_mem_cons.mpr ⟨lw_p56, List.forall_mem_cons.mpr ⟨lw_p57, List.forall_mem_cons.mpr ⟨lw_p58, List.forall_mem_cons.mpr ⟨lw_p59, List.forall_mem_cons.mpr ⟨lw_p60, List.forall_mem_cons.mpr ⟨lw_p61, List.forall_mem_cons.mpr ⟨lw_p62, List.forall_mem_cons.mpr ⟨lw_p63, fun _ h => absurd h List.not_mem_nil⟩⟩⟩⟩⟩⟩⟩⟩⟩⟩⟩⟩⟩⟩⟩⟩
theorem lw_p64 : lw_okq (⟨"LakeLearnsModel", "whyRing", "()I"⟩, 48) := ⟨⟨by decide +kernel, by decide +kernel⟩, List.mem_of_getElem? (i := 1187) (by decide +kernel), List.mem_of_getElem? (i := 1541) (by decide +kernel), List.mem_of_getElem? (i := 1542) (by decide +kernel)⟩
theorem lw_p65 : lw_okq (⟨"LakeLearnsModel", "rings", "(I)V"⟩, 48) := ⟨⟨by decide +kernel, by decide +kernel⟩, List.mem_of_getElem? (i := 1187) (by decide +kernel), List.mem_of_getElem? (i := 1545) (by decide +kernel), List.mem_of_getElem? (i := 1546) (by decide +kernel)⟩
theorem lw_p66 : lw_okq (⟨"LakeLearnsModel", "moves", "(II)V"⟩, 48) := ⟨⟨by decide +kernel, by decide +kernel⟩, List.mem_of_getElem? (i := 1187) (by decide +kernel), List.mem_of_getElem? (i := 1549) (by decide +kernel), List.mem_of_getElem? (i := 1550) (by decide +kernel)⟩
theorem lw_p67 : lw_okq (⟨"LakeLearnsModel", "longest", "(II)I"⟩, 48) := ⟨⟨by decide +kernel, by decide +kernel⟩, List.mem_of_getElem? (i := 1187) (by decide +kernel), List.mem_of_getElem? (i := 1553) (by decide +kernel), List.mem_of_getElem? (i := 1554) (by decide +kernel)⟩
theorem lw_p68 : lw_okq (⟨"LakeLearnsModel", "whySail", "(II)I"⟩, 48) := ⟨⟨by decide +kernel, by decide +kernel⟩, List.mem_of_getElem? (i := 1187) (by decide +kernel), List.mem_of_getElem? (i := 1564) (by decide +kernel), List.mem_of_getElem? (i := 1565) (by decide +kernel)⟩
theorem lw_p69 : lw_okq (⟨"LakeLearnsModel", "sails", "(II)V"⟩, 48) := ⟨⟨by decide +kernel, by decide +kernel⟩, List.mem_of_getElem? (i := 1187) (by decide +kernel), List.mem_of_getElem? (i := 1568) (by decide +kernel), List.mem_of_getElem? (i := 1569) (by decide +kernel)⟩
theorem lw_p70 : lw_okq (⟨"LakeLearnsModel", "goesOn", "(I)I"⟩, 48) := ⟨⟨by decide +kernel, by decide +kernel⟩, List.mem_of_getElem? (i := 1187) (by decide +kernel), List.mem_of_getElem? (i := 1576) (by decide +kernel), List.mem_of_getElem? (i := 1577) (by decide +kernel)⟩
theorem lw_p71 : lw_okq (⟨"LakeLearnsModel", "day", "()V"⟩, 48) := ⟨⟨by decide +kernel, by decide +kernel⟩, List.mem_of_getElem? (i := 1187) (by decide +kernel), List.mem_of_getElem? (i := 1580) (by decide +kernel), List.mem_of_getElem? (i := 1581) (by decide +kernel)⟩
theorem lw_p72 : lw_okq (⟨"LakeLearnsModel", "counts", "(I)V"⟩, 48) := ⟨⟨by decide +kernel, by decide +kernel⟩, List.mem_of_getElem? (i := 1187) (by decide +kernel), List.mem_of_getElem? (i := 1584) (by decide +kernel), List.mem_of_getElem? (i := 1585) (by decide +kernel)⟩
theorem lw_p73 : lw_okq (⟨"LakeLearnsModel", "unlearns", "(I)V"⟩, 48) := ⟨⟨by decide +kernel, by decide +kernel⟩, List.mem_of_getElem? (i := 1187) (by decide +kernel), List.mem_of_getElem? (i := 1588) (by decide +kernel), List.mem_of_getElem? (i := 1589) (by decide +kernel)⟩
theorem lw_p74 : lw_okq (⟨"LakeLearnsModel", "isPractised", "(I)Z"⟩, 48) := ⟨⟨by decide +kernel, by decide +kernel⟩, List.mem_of_getElem? (i := 1187) (by decide +kernel), List.mem_of_getElem? (i := 1592) (by decide +kernel), List.mem_of_getElem? (i := 1593) (by decide +kernel)⟩
theorem lw_p75 : lw_okq (⟨"LakeLearnsModel", "isSet", "(I)Z"⟩, 48) := ⟨⟨by decide +kernel, by decide +kernel⟩, List.mem_of_getElem? (i := 1187) (by decide +kernel), List.mem_of_getElem? (i := 1604) (by decide +kernel), List.mem_of_getElem? (i := 1605) (by decide +kernel)⟩
theorem lw_p76 : lw_okq (⟨"LakeLearnsModel", "heightsOf", "(II)I"⟩, 48) := ⟨⟨by decide +kernel, by decide +kernel⟩, List.mem_of_getElem? (i := 1187) (by decide +kernel), List.mem_of_getElem? (i := 1608) (by decide +kernel), List.mem_of_getElem? (i := 1609) (by decide +kernel)⟩
theorem lw_p77 : lw_okq (⟨"LakeLearnsModel", "wavesOf", "(II)I"⟩, 48) := ⟨⟨by decide +kernel, by decide +kernel⟩, List.mem_of_getElem? (i := 1187) (by decide +kernel), List.mem_of_getElem? (i := 1616) (by decide +kernel), List.mem_of_getElem? (i := 1617) (by decide +kernel)⟩
theorem lw_p78 : lw_okq (⟨"LakeLearnsModel", "octet", "(I)I"⟩, 48) := ⟨⟨by decide +kernel, by decide +kernel⟩, List.mem_of_getElem? (i := 1187) (by decide +kernel), List.mem_of_getElem? (i := 1632) (by decide +kernel), List.mem_of_getElem? (i := 1633) (by decide +kernel)⟩
theorem lw_p79 : lw_okq (⟨"LakeLearnsModel", "heightsAt", "(I)I"⟩, 48) := ⟨⟨by decide +kernel, by decide +kernel⟩, List.mem_of_getElem? (i := 1187) (by decide +kernel), List.mem_of_getElem? (i := 1636) (by decide +kernel), List.mem_of_getElem? (i := 1637) (by decide +kernel)⟩
def lw_privs_5 : List (MethodName × Nat) := [(⟨"LakeLearnsModel", "whyRing", "()I"⟩, 48), (⟨"LakeLearnsModel", "rings", "(I)V"⟩, 48), (⟨"LakeLearnsModel", "moves", "(II)V"⟩, 48), (⟨"LakeLearnsModel", "longest", "(II)I"⟩, 48), (⟨"LakeLearnsModel", "whySail", "(II)I"⟩, 48), (⟨"LakeLearnsModel", "sails", "(II)V"⟩, 48), (⟨"LakeLearnsModel", "goesOn", "(I)I"⟩, 48), (⟨"LakeLearnsModel", "day", "()V"⟩, 48), (⟨"LakeLearnsModel", "counts", "(I)V"⟩, 48), (⟨"LakeLearnsModel", "unlearns", "(I)V"⟩, 48), (⟨"LakeLearnsModel", "isPractised", "(I)Z"⟩, 48), (⟨"LakeLearnsModel", "isSet", "(I)Z"⟩, 48), (⟨"LakeLearnsModel", "heightsOf", "(II)I"⟩, 48), (⟨"LakeLearnsModel", "wavesOf", "(II)I"⟩, 48), (⟨"LakeLearnsModel", "octet", "(I)I"⟩, 48), (⟨"LakeLearnsModel", "heightsAt", "(I)I"⟩, 48)]
theorem lw_r5 : ∀ q ∈ lw_privs_5, lw_okq q := List.forall_mem_cons.mpr ⟨lw_p64, List.forall_mem_cons.mpr ⟨lw_p65, List.forall_mem_cons.mpr ⟨lw_p66, List.forall_mem_cons.mpr ⟨lw_p67, List.forall_mem_cons.mpr ⟨lw_p68, List.forall_mem_cons.mpr ⟨lw_p69, List.forall_mem_cons.mpr ⟨lw_p70, List.forall_mem_cons.mpr ⟨lw_p71, List.forall_mem_cons.mpr ⟨lw_p72, List.forall_mem_cons.mpr ⟨lw_p73, List.forall_mem_cons.mpr ⟨lw_p74, List.forall_mem_cons.mpr ⟨lw_p75, List.forall_mem_cons.mpr ⟨lw_p76, List.forall_mem_cons.mpr ⟨lw_p77, List.forall_mem_cons.mpr ⟨lw_p78, List.forall_mem_cons.mpr ⟨lw_p79, fun _ h => absurd h List.not_mem_nil⟩⟩⟩⟩⟩⟩⟩⟩⟩⟩⟩⟩⟩⟩⟩⟩
theorem lw_p80 : lw_okq (⟨"LakeLearnsModel", "answersAt", "(I)I"⟩, 48) := ⟨⟨by decide +kernel, by decide +kernel⟩, List.mem_of_getElem? (i := 1187) (by decide +kernel), List.mem_of_getElem? (i := 1640) (by decide +kernel), List.mem_of_getElem? (i := 1641) (by decide +kernel)⟩
theorem lw_p81 : lw_okq (⟨"LakeLearnsModel", "needsOf", "(I)I"⟩, 48) := ⟨⟨by decide +kernel, by decide +kernel⟩, List.mem_of_getElem? (i := 1187) (by decide +kernel), List.mem_of_getElem? (i := 1660) (by decide +kernel), List.mem_of_getElem? (i := 1661) (by decide +kernel)⟩
theorem lw_p82 : lw_okq (⟨"LakeLearnsModel", "pairAt", "(IZ)I"⟩, 48) := ⟨⟨by decide +kernel, by decide +kernel⟩, List.mem_of_getElem? (i := 1187) (by decide +kernel), List.mem_of_getElem? (i := 1672) (by decide +kernel), List.mem_of_getElem? (i := 1673) (by decide +kernel)⟩
theorem lw_p83 : lw_okq (⟨"LakeLearnsModel", "isPair", "(IIZ)Z"⟩, 48) := ⟨⟨by decide +kernel, by decide +kernel⟩, List.mem_of_getElem? (i := 1187) (by decide +kernel), List.mem_of_getElem? (i := 1676) (by decide +kernel), List.mem_of_getElem? (i := 1677) (by decide +kernel)⟩
theorem lw_p84 : lw_okq (⟨"LakeLearnsModel", "draws", "(II)I"⟩, 48) := ⟨⟨by decide +kernel, by decide +kernel⟩, List.mem_of_getElem? (i := 1187) (by decide +kernel), List.mem_of_getElem? (i := 1704) (by decide +kernel), List.mem_of_getElem? (i := 1705) (by decide +kernel)⟩
theorem lw_p85 : lw_okq (⟨"LakeLearnsModel", "draw", "(I)I"⟩, 48) := ⟨⟨by decide +kernel, by decide +kernel⟩, List.mem_of_getElem? (i := 1187) (by decide +kernel), List.mem_of_getElem? (i := 1708) (by decide +kernel), List.mem_of_getElem? (i := 1709) (by decide +kernel)⟩
theorem lw_p86 : lw_okq (⟨"LakeLearnsModel", "tries", "()V"⟩, 48) := ⟨⟨by decide +kernel, by decide +kernel⟩, List.mem_of_getElem? (i := 1187) (by decide +kernel), List.mem_of_getElem? (i := 1717) (by decide +kernel), List.mem_of_getElem? (i := 1718) (by decide +kernel)⟩
theorem lw_p87 : lw_okq (⟨"LakeLearnsModel", "back", "()V"⟩, 48) := ⟨⟨by decide +kernel, by decide +kernel⟩, List.mem_of_getElem? (i := 1187) (by decide +kernel), List.mem_of_getElem? (i := 1721) (by decide +kernel), List.mem_of_getElem? (i := 1722) (by decide +kernel)⟩
theorem lw_p88 : lw_okq (⟨"LakeLearnsModel", "diaryLine", "()Z"⟩, 48) := ⟨⟨by decide +kernel, by decide +kernel⟩, List.mem_of_getElem? (i := 1187) (by decide +kernel), List.mem_of_getElem? (i := 1729) (by decide +kernel), List.mem_of_getElem? (i := 1730) (by decide +kernel)⟩
theorem lw_p89 : lw_okq (⟨"LakeLearnsModel", "lives", "(III)I"⟩, 48) := ⟨⟨by decide +kernel, by decide +kernel⟩, List.mem_of_getElem? (i := 1187) (by decide +kernel), List.mem_of_getElem? (i := 1733) (by decide +kernel), List.mem_of_getElem? (i := 1734) (by decide +kernel)⟩
theorem lw_p90 : lw_okq (⟨"LakeLearnsModel", "nots", "()V"⟩, 48) := ⟨⟨by decide +kernel, by decide +kernel⟩, List.mem_of_getElem? (i := 1187) (by decide +kernel), List.mem_of_getElem? (i := 1745) (by decide +kernel), List.mem_of_getElem? (i := 1746) (by decide +kernel)⟩
theorem lw_p91 : lw_okq (⟨"LakeLearnsModel", "code", "(III)V"⟩, 48) := ⟨⟨by decide +kernel, by decide +kernel⟩, List.mem_of_getElem? (i := 1187) (by decide +kernel), List.mem_of_getElem? (i := 1749) (by decide +kernel), List.mem_of_getElem? (i := 1750) (by decide +kernel)⟩
theorem lw_p92 : lw_okq (⟨"LakeLearnsModel", "joins", "(I)V"⟩, 48) := ⟨⟨by decide +kernel, by decide +kernel⟩, List.mem_of_getElem? (i := 1187) (by decide +kernel), List.mem_of_getElem? (i := 1753) (by decide +kernel), List.mem_of_getElem? (i := 1754) (by decide +kernel)⟩
theorem lw_p93 : lw_okq (⟨"LakeLearnsModel", "behind", "()Z"⟩, 48) := ⟨⟨by decide +kernel, by decide +kernel⟩, List.mem_of_getElem? (i := 1187) (by decide +kernel), List.mem_of_getElem? (i := 1757) (by decide +kernel), List.mem_of_getElem? (i := 1758) (by decide +kernel)⟩
theorem lw_p94 : lw_okq (⟨"LakeLearnsModel", "operand", "()Z"⟩, 48) := ⟨⟨by decide +kernel, by decide +kernel⟩, List.mem_of_getElem? (i := 1187) (by decide +kernel), List.mem_of_getElem? (i := 1761) (by decide +kernel), List.mem_of_getElem? (i := 1762) (by decide +kernel)⟩
theorem lw_p95 : lw_okq (⟨"LakeLearnsModel", "leafOf", "()I"⟩, 48) := ⟨⟨by decide +kernel, by decide +kernel⟩, List.mem_of_getElem? (i := 1187) (by decide +kernel), List.mem_of_getElem? (i := 1765) (by decide +kernel), List.mem_of_getElem? (i := 1766) (by decide +kernel)⟩
def lw_privs_6 : List (MethodName × Nat) := [(⟨"LakeLearnsModel", "answersAt", "(I)I"⟩, 48), (⟨"LakeLearnsModel", "needsOf", "(I)I"⟩, 48), (⟨"LakeLearnsModel", "pairAt", "(IZ)I"⟩, 48), (⟨"LakeLearnsModel", "isPair", "(IIZ)Z"⟩, 48), (⟨"LakeLearnsModel", "draws", "(II)I"⟩, 48), (⟨"LakeLearnsModel", "draw", "(I)I"⟩, 48), (⟨"LakeLearnsModel", "tries", "()V"⟩, 48), (⟨"LakeLearnsModel", "back", "()V"⟩, 48), (⟨"LakeLearnsModel", "diaryLine", "()Z"⟩, 48), (⟨"LakeLearnsModel", "lives", "(III)I"⟩, 48), (⟨"LakeLearnsModel", "nots", "()V"⟩, 48), (⟨"LakeLearnsModel", "code", "(III)V"⟩, 48), (⟨"LakeLearnsModel", "joins", "(I)V"⟩, 48), (⟨"LakeLearnsModel", "behind", "()Z"⟩, 48), (⟨"LakeLearnsModel", "operand", "()Z"⟩, 48), (⟨"LakeLearnsModel", "leafOf", "()I"⟩, 48)]
theorem lw_r6 : ∀ q ∈ lw_privs_6, lw_okq q := List.forall_mem_cons.mpr ⟨lw_p80, List.forall_mem_cons.mpr ⟨lw_p81, List.forall_mem_cons.mpr ⟨lw_p82, List.forall_mem_cons.mpr ⟨lw_p83, List.forall_mem_cons.mpr ⟨lw_p84, List.forall_mem_cons.mpr ⟨lw_p85, List.forall_mem_cons.mpr ⟨lw_p86, List.forall_mem_cons.mpr ⟨lw_p87, List.forall_mem_cons.mpr ⟨lw_p88, List.forall_mem_cons.mpr ⟨lw_p89, List.forall_mem_cons.mpr ⟨lw_p90, List.forall_mem_cons.mpr ⟨lw_p91, List.forall_mem_cons.mpr ⟨lw_p92, List.forall_mem_cons.mpr ⟨lw_p93, List.forall_mem_cons.mpr ⟨lw_p94, List.forall_mem_cons.mpr ⟨lw_p95, fun _ h => absurd h List.not_mem_nil⟩⟩⟩⟩⟩⟩⟩⟩⟩⟩⟩⟩⟩⟩⟩⟩
theorem lw_p96 : lw_okq (⟨"LakeLearnsModel", "isSaid", "(I)Z"⟩, 48) := ⟨⟨by decide +kernel, by decide +kernel⟩, List.mem_of_getElem? (i := 1187) (by decide +kernel), List.mem_of_getElem? (i := 1773) (by decide +kernel), List.mem_of_getElem? (i := 1774) (by decide +kernel)⟩
theorem lw_p97 : lw_okq (⟨"LakeLearnsModel", "isLeaf", "(IIII)Z"⟩, 48) := ⟨⟨by decide +kernel, by decide +kernel⟩, List.mem_of_getElem? (i := 1187) (by decide +kernel), List.mem_of_getElem? (i := 1777) (by decide +kernel), List.mem_of_getElem? (i := 1778) (by decide +kernel)⟩
def lw_privs_7 : List (MethodName × Nat) := [(⟨"LakeLearnsModel", "isSaid", "(I)Z"⟩, 48), (⟨"LakeLearnsModel", "isLeaf", "(IIII)Z"⟩, 48)]
theorem lw_r7 : ∀ q ∈ lw_privs_7, lw_okq q := List.forall_mem_cons.mpr ⟨lw_p96, List.forall_mem_cons.mpr ⟨lw_p97, fun _ h => absurd h List.not_mem_nil⟩⟩
def lw_privs : List (MethodName × Nat) := lw_privs_1 ++ (lw_privs_2 ++ (lw_privs_3 ++ (lw_privs_4 ++ (lw_privs_5 ++ (lw_privs_6 ++ (lw_privs_7))))))
def lw_tbl : List Cond := k2_sels lw_privs ++ tables_1
theorem lw_privs_ok : ∀ q ∈ lw_privs, lw_okq q := by
  show ∀ q ∈ lw_privs_1 ++ (lw_privs_2 ++ (lw_privs_3 ++ (lw_privs_4 ++ (lw_privs_5 ++ (lw_privs_6 ++ (lw_privs_7)))))), lw_okq q
  exact List.forall_mem_append.mpr ⟨lw_r1, List.forall_mem_append.mpr ⟨lw_r2, List.forall_mem_append.mpr ⟨lw_r3, List.forall_mem_append.mpr ⟨lw_r4, List.forall_mem_append.mpr ⟨lw_r5, List.forall_mem_append.mpr ⟨lw_r6, lw_r7⟩⟩⟩⟩⟩⟩
end
section
def RX0 : String := "LakeLearns$Diary"
def TX0 : u_T := fun k => match k with
  | 0 => ("LakeLearns$Diary", "act", "[I", true)
  | 1 => ("LakeLearns$Diary", "who", "[I", true)
  | 2 => ("LakeLearns$Diary", "what", "[I", true)
  | _ => ("LakeLearns$Diary", "lines", "I", false)
def tyX0 : Nat → FieldType := fun k => match k with
  | 0 => .array .int
  | 1 => .array .int
  | 2 => .array .int
  | _ => .int
abbrev wsX00 : List Cond := u_ws RX0 TX0 4
theorem nmX0 : ∀ a, a < 4 → ∀ b, b < 4 → a ≠ b → (TX0 a).2.1 ≠ (TX0 b).2.1 := by decide +kernel
theorem tyX0_ok : ∀ k, k < 4 → parseFieldDescriptor (TX0 k).2.2.1 = some (tyX0 k) := by decide +kernel
abbrev cX0_init : ByteArray := prog_2_method_1_code
def yX0_init : MethodName := ⟨RX0, "<init>", "()V"⟩
abbrev cX0_readLines : ByteArray := prog_2_method_2_code
def yX0_readLines : MethodName := ⟨RX0, "readLines", "(LLakeLearns$Reader;LLakeLearns$Lake;)Z"⟩
abbrev cX0_readLine : ByteArray := prog_2_method_3_code
def yX0_readLine : MethodName := ⟨RX0, "readLine", "(LLakeLearns$Reader;LLakeLearns$Lake;)Z"⟩
abbrev cX0_readWhat : ByteArray := prog_2_method_4_code
def yX0_readWhat : MethodName := ⟨RX0, "readWhat", "(LLakeLearns$Reader;LLakeLearns$Lake;I)I"⟩
abbrev cX0_liveLines : ByteArray := prog_2_method_5_code
def yX0_liveLines : MethodName := ⟨RX0, "liveLines", "(LLakeLearns$Lake;LLakeLearns$Life;[I)I"⟩
abbrev cX0_liveLine : ByteArray := prog_2_method_6_code
def yX0_liveLine : MethodName := ⟨RX0, "liveLine", "(LLakeLearns$Lake;LLakeLearns$Life;I)I"⟩
abbrev cX0_liveShow : ByteArray := prog_2_method_7_code
def yX0_liveShow : MethodName := ⟨RX0, "liveShow", "(LLakeLearns$Lake;LLakeLearns$Life;II)I"⟩
abbrev cX0_liveRing : ByteArray := prog_2_method_8_code
def yX0_liveRing : MethodName := ⟨RX0, "liveRing", "(LLakeLearns$Lake;LLakeLearns$Life;I)I"⟩
abbrev cX0_liveSail : ByteArray := prog_2_method_9_code
def yX0_liveSail : MethodName := ⟨RX0, "liveSail", "(LLakeLearns$Lake;LLakeLearns$Life;II)I"⟩
abbrev cX0_liveDays : ByteArray := prog_2_method_10_code
def yX0_liveDays : MethodName := ⟨RX0, "liveDays", "(LLakeLearns$Lake;LLakeLearns$Life;I)I"⟩
def RX1 : String := "LakeLearns$Draw"
def TX1 : u_T := fun k => match k with
  | _ => ("LakeLearns$Draw", "x", "I", false)
def tyX1 : Nat → FieldType := fun k => match k with
  | _ => .int
abbrev wsX10 : List Cond := u_ws RX1 TX1 1
theorem nmX1 : ∀ a, a < 1 → ∀ b, b < 1 → a ≠ b → (TX1 a).2.1 ≠ (TX1 b).2.1 := by decide +kernel
theorem tyX1_ok : ∀ k, k < 1 → parseFieldDescriptor (TX1 k).2.2.1 = some (tyX1 k) := by decide +kernel
abbrev cX1_init : ByteArray := prog_3_method_1_code
def yX1_init : MethodName := ⟨RX1, "<init>", "()V"⟩
abbrev cX1_of : ByteArray := prog_3_method_2_code
def yX1_of : MethodName := ⟨RX1, "of", "(I)I"⟩
abbrev cX1_liveDrawn : ByteArray := prog_3_method_3_code
def yX1_liveDrawn : MethodName := ⟨RX1, "liveDrawn", "(LLakeLearns$Lake;LLakeLearns$Life;II)V"⟩
abbrev cX1_drawDay : ByteArray := prog_3_method_4_code
def yX1_drawDay : MethodName := ⟨RX1, "drawDay", "(LLakeLearns$Lake;LLakeLearns$Life;)V"⟩
def RX2 : String := "LakeLearns$Guess"
def TX2 : u_T := fun k => match k with
  | 0 => ("LakeLearns$Guess", "inEach", "I", false)
  | 1 => ("LakeLearns$Guess", "inNone", "I", false)
  | 2 => ("LakeLearns$Guess", "bestCue", "I", false)
  | 3 => ("LakeLearns$Guess", "heard", "[I", true)
  | 4 => ("LakeLearns$Guess", "contradicts", "Z", false)
  | 5 => ("LakeLearns$Guess", "sets", "[I", true)
  | 6 => ("LakeLearns$Guess", "held", "I", false)
  | _ => ("LakeLearns$Guess", "unlike", "[I", true)
def tyX2 : Nat → FieldType := fun k => match k with
  | 0 => .int
  | 1 => .int
  | 2 => .int
  | 3 => .array .int
  | 4 => .boolean
  | 5 => .array .int
  | 6 => .int
  | _ => .array .int
abbrev wsX20 : List Cond := u_ws RX2 TX2 8
theorem nmX2 : ∀ a, a < 8 → ∀ b, b < 8 → a ≠ b → (TX2 a).2.1 ≠ (TX2 b).2.1 := by decide +kernel
theorem tyX2_ok : ∀ k, k < 8 → parseFieldDescriptor (TX2 k).2.2.1 = some (tyX2 k) := by decide +kernel
abbrev cX2_init : ByteArray := prog_4_method_1_code
def yX2_init : MethodName := ⟨RX2, "<init>", "()V"⟩
abbrev cX2_judge : ByteArray := prog_4_method_2_code
def yX2_judge : MethodName := ⟨RX2, "judge", "(LLakeLearns$Lake;[BI)I"⟩
abbrev cX2_listen : ByteArray := prog_4_method_3_code
def yX2_listen : MethodName := ⟨RX2, "listen", "(LLakeLearns$Lake;[BI)Z"⟩
abbrev cX2_findSets : ByteArray := prog_4_method_4_code
def yX2_findSets : MethodName := ⟨RX2, "findSets", "(LLakeLearns$Lake;)V"⟩
abbrev cX2_explains : ByteArray := prog_4_method_5_code
def yX2_explains : MethodName := ⟨RX2, "explains", "(LLakeLearns$Lake;I)Z"⟩
abbrev cX2_judgeLessons : ByteArray := prog_4_method_6_code
def yX2_judgeLessons : MethodName := ⟨RX2, "judgeLessons", "(LLakeLearns$Lake;)V"⟩
abbrev cX2_judgeCues : ByteArray := prog_4_method_7_code
def yX2_judgeCues : MethodName := ⟨RX2, "judgeCues", "(LLakeLearns$Lake;)V"⟩
abbrev cX2_countUnlike : ByteArray := prog_4_method_8_code
def yX2_countUnlike : MethodName := ⟨RX2, "countUnlike", "(LLakeLearns$Lake;I)I"⟩
def RX3 : String := "LakeLearns$Image"
def TX3 : u_T := fun k => match k with
  | 0 => ("LakeLearns$Image", "lake", "LLakeLearns$Lake;", true)
  | 1 => ("LakeLearns$Image", "life", "LLakeLearns$Life;", true)
  | 2 => ("LakeLearns$Image", "spoken", "LLakeLearns$Sentence;", true)
  | _ => ("LakeLearns$Image", "kept", "Z", false)
def tyX3 : Nat → FieldType := fun k => match k with
  | 0 => .object "LakeLearns$Lake"
  | 1 => .object "LakeLearns$Life"
  | 2 => .object "LakeLearns$Sentence"
  | _ => .boolean
abbrev wsX30 : List Cond := u_ws RX3 TX3 4
theorem nmX3 : ∀ a, a < 4 → ∀ b, b < 4 → a ≠ b → (TX3 a).2.1 ≠ (TX3 b).2.1 := by decide +kernel
theorem tyX3_ok : ∀ k, k < 4 → parseFieldDescriptor (TX3 k).2.2.1 = some (tyX3 k) := by decide +kernel
abbrev cX3_init : ByteArray := prog_5_method_1_code
def yX3_init : MethodName := ⟨RX3, "<init>", "()V"⟩
def RX4 : String := "LakeLearns$Lake"
def TX4 : u_T := fun k => match k with
  | 0 => ("LakeLearns$Lake", "setting", "[I", true)
  | 1 => ("LakeLearns$Lake", "iceLong", "I", false)
  | 2 => ("LakeLearns$Lake", "counts", "[I", true)
  | 3 => ("LakeLearns$Lake", "cueOf", "[I", true)
  | 4 => ("LakeLearns$Lake", "ofCue", "[I", true)
  | 5 => ("LakeLearns$Lake", "steps", "[I", true)
  | 6 => ("LakeLearns$Lake", "stepTold", "[I", true)
  | 7 => ("LakeLearns$Lake", "leaves", "[I", true)
  | 8 => ("LakeLearns$Lake", "pier", "[I", true)
  | 9 => ("LakeLearns$Lake", "nameCode", "[J", true)
  | 10 => ("LakeLearns$Lake", "nameSort", "[I", true)
  | 11 => ("LakeLearns$Lake", "nameNumber", "[I", true)
  | _ => ("LakeLearns$Lake", "names", "I", false)
def tyX4 : Nat → FieldType := fun k => match k with
  | 0 => .array .int
  | 1 => .int
  | 2 => .array .int
  | 3 => .array .int
  | 4 => .array .int
  | 5 => .array .int
  | 6 => .array .int
  | 7 => .array .int
  | 8 => .array .int
  | 9 => .array .long
  | 10 => .array .int
  | 11 => .array .int
  | _ => .int
abbrev wsX40 : List Cond := u_ws RX4 TX4 13
theorem nmX4 : ∀ a, a < 13 → ∀ b, b < 13 → a ≠ b → (TX4 a).2.1 ≠ (TX4 b).2.1 := by decide +kernel
theorem tyX4_ok : ∀ k, k < 13 → parseFieldDescriptor (TX4 k).2.2.1 = some (tyX4 k) := by decide +kernel
abbrev cX4_init : ByteArray := prog_6_method_1_code
def yX4_init : MethodName := ⟨RX4, "<init>", "()V"⟩
abbrev cX4_clear : ByteArray := prog_6_method_2_code
def yX4_clear : MethodName := ⟨RX4, "clear", "()V"⟩
abbrev cX4_copyFrom : ByteArray := prog_6_method_3_code
def yX4_copyFrom : MethodName := ⟨RX4, "copyFrom", "(LLakeLearns$Lake;)V"⟩
abbrev cX4_has : ByteArray := prog_6_method_4_code
def yX4_has : MethodName := ⟨RX4, "has", "(II)Z"⟩
abbrev cX4_hasCell : ByteArray := prog_6_method_5_code
def yX4_hasCell : MethodName := ⟨RX4, "hasCell", "(I)Z"⟩
abbrev cX4_hasLessons : ByteArray := prog_6_method_6_code
def yX4_hasLessons : MethodName := ⟨RX4, "hasLessons", "(I)Z"⟩
abbrev cX4_find : ByteArray := prog_6_method_7_code
def yX4_find : MethodName := ⟨RX4, "find", "(J)I"⟩
abbrev cX4_addName : ByteArray := prog_6_method_8_code
def yX4_addName : MethodName := ⟨RX4, "addName", "(IJ)I"⟩
abbrev cX4_addStep : ByteArray := prog_6_method_9_code
def yX4_addStep : MethodName := ⟨RX4, "addStep", "(III)V"⟩
abbrev cX4_added : ByteArray := prog_6_method_10_code
def yX4_added : MethodName := ⟨RX4, "added", "(II)I"⟩
abbrev cX4_heightsBehind : ByteArray := prog_6_method_11_code
def yX4_heightsBehind : MethodName := ⟨RX4, "heightsBehind", "(II)I"⟩
abbrev cX4_wavesAt : ByteArray := prog_6_method_12_code
def yX4_wavesAt : MethodName := ⟨RX4, "wavesAt", "(II)I"⟩
abbrev cX4_cellsOf : ByteArray := prog_6_method_13_code
def yX4_cellsOf : MethodName := ⟨RX4, "cellsOf", "(I)I"⟩
abbrev cX4_areHeights : ByteArray := prog_6_method_14_code
def yX4_areHeights : MethodName := ⟨RX4, "areHeights", "([BI)Z"⟩
abbrev cX4_packHeights : ByteArray := prog_6_method_15_code
def yX4_packHeights : MethodName := ⟨RX4, "packHeights", "([BI)I"⟩
abbrev cX4_areStill : ByteArray := prog_6_method_16_code
def yX4_areStill : MethodName := ⟨RX4, "areStill", "(II)Z"⟩
abbrev cX4_isIce : ByteArray := prog_6_method_17_code
def yX4_isIce : MethodName := ⟨RX4, "isIce", "(I)Z"⟩
abbrev cX4_daysTillIce : ByteArray := prog_6_method_18_code
def yX4_daysTillIce : MethodName := ⟨RX4, "daysTillIce", "(I)I"⟩
abbrev cX4_practisesOn : ByteArray := prog_6_method_19_code
def yX4_practisesOn : MethodName := ⟨RX4, "practisesOn", "(I)Z"⟩
def RX5 : String := "LakeLearns$LakeReader"
def TX5 : u_T := fun k => match k with
  | 0 => ("LakeLearns$LakeReader", "reader", "LLakeLearns$Reader;", true)
  | 1 => ("LakeLearns$LakeReader", "draft", "LLakeLearns$Lake;", true)
  | _ => ("LakeLearns$LakeReader", "toldOnce", "I", false)
def tyX5 : Nat → FieldType := fun k => match k with
  | 0 => .object "LakeLearns$Reader"
  | 1 => .object "LakeLearns$Lake"
  | _ => .int
abbrev wsX50 : List Cond := u_ws RX5 TX5 3
theorem nmX5 : ∀ a, a < 3 → ∀ b, b < 3 → a ≠ b → (TX5 a).2.1 ≠ (TX5 b).2.1 := by decide +kernel
theorem tyX5_ok : ∀ k, k < 3 → parseFieldDescriptor (TX5 k).2.2.1 = some (tyX5 k) := by decide +kernel
abbrev cX5_init : ByteArray := prog_7_method_1_code
def yX5_init : MethodName := ⟨RX5, "<init>", "(LLakeLearns$Reader;)V"⟩
abbrev cX5_readLines : ByteArray := prog_7_method_2_code
def yX5_readLines : MethodName := ⟨RX5, "readLines", "()I"⟩
abbrev cX5_readSetting : ByteArray := prog_7_method_3_code
def yX5_readSetting : MethodName := ⟨RX5, "readSetting", "(I)Z"⟩
abbrev cX5_readIceLong : ByteArray := prog_7_method_4_code
def yX5_readIceLong : MethodName := ⟨RX5, "readIceLong", "(I)Z"⟩
abbrev cX5_readNamed : ByteArray := prog_7_method_5_code
def yX5_readNamed : MethodName := ⟨RX5, "readNamed", "(I)Z"⟩
abbrev cX5_readLesson : ByteArray := prog_7_method_6_code
def yX5_readLesson : MethodName := ⟨RX5, "readLesson", "(I)Z"⟩
abbrev cX5_readStep : ByteArray := prog_7_method_7_code
def yX5_readStep : MethodName := ⟨RX5, "readStep", "(I)Z"⟩
abbrev cX5_readPier : ByteArray := prog_7_method_8_code
def yX5_readPier : MethodName := ⟨RX5, "readPier", "(I)Z"⟩
def RX6 : String := "LakeLearns$Life"
def TX6 : u_T := fun k => match k with
  | 0 => ("LakeLearns$Life", "day", "I", false)
  | 1 => ("LakeLearns$Life", "rings", "I", false)
  | 2 => ("LakeLearns$Life", "showings", "I", false)
  | 3 => ("LakeLearns$Life", "known", "I", false)
  | 4 => ("LakeLearns$Life", "today", "I", false)
  | 5 => ("LakeLearns$Life", "wet", "I", false)
  | 6 => ("LakeLearns$Life", "heights", "I", false)
  | 7 => ("LakeLearns$Life", "shower", "[I", true)
  | 8 => ("LakeLearns$Life", "times", "[I", true)
  | 9 => ("LakeLearns$Life", "by", "[I", true)
  | 10 => ("LakeLearns$Life", "kept", "[I", true)
  | 11 => ("LakeLearns$Life", "done", "[I", true)
  | 12 => ("LakeLearns$Life", "forgotten", "[I", true)
  | 13 => ("LakeLearns$Life", "berth", "[I", true)
  | 14 => ("LakeLearns$Life", "soaked", "[I", true)
  | _ => ("LakeLearns$Life", "voyages", "[I", true)
def tyX6 : Nat → FieldType := fun k => match k with
  | 0 => .int
  | 1 => .int
  | 2 => .int
  | 3 => .int
  | 4 => .int
  | 5 => .int
  | 6 => .int
  | 7 => .array .int
  | 8 => .array .int
  | 9 => .array .int
  | 10 => .array .int
  | 11 => .array .int
  | 12 => .array .int
  | 13 => .array .int
  | 14 => .array .int
  | _ => .array .int
abbrev wsX60 : List Cond := u_ws RX6 TX6 16
theorem nmX6 : ∀ a, a < 16 → ∀ b, b < 16 → a ≠ b → (TX6 a).2.1 ≠ (TX6 b).2.1 := by decide +kernel
theorem tyX6_ok : ∀ k, k < 16 → parseFieldDescriptor (TX6 k).2.2.1 = some (tyX6 k) := by decide +kernel
abbrev cX6_init : ByteArray := prog_8_method_1_code
def yX6_init : MethodName := ⟨RX6, "<init>", "()V"⟩
abbrev cX6_begin : ByteArray := prog_8_method_2_code
def yX6_begin : MethodName := ⟨RX6, "begin", "(LLakeLearns$Lake;)V"⟩
abbrev cX6_copyFrom : ByteArray := prog_8_method_3_code
def yX6_copyFrom : MethodName := ⟨RX6, "copyFrom", "(LLakeLearns$Life;)V"⟩
abbrev cX6_heightAt : ByteArray := prog_8_method_4_code
def yX6_heightAt : MethodName := ⟨RX6, "heightAt", "(I)I"⟩
abbrev cX6_daysLeft : ByteArray := prog_8_method_5_code
def yX6_daysLeft : MethodName := ⟨RX6, "daysLeft", "()I"⟩
abbrev cX6_confused : ByteArray := prog_8_method_6_code
def yX6_confused : MethodName := ⟨RX6, "confused", "(LLakeLearns$Lake;)I"⟩
abbrev cX6_needed : ByteArray := prog_8_method_7_code
def yX6_needed : MethodName := ⟨RX6, "needed", "(LLakeLearns$Lake;I)I"⟩
abbrev cX6_whyNotShown : ByteArray := prog_8_method_8_code
def yX6_whyNotShown : MethodName := ⟨RX6, "whyNotShown", "(LLakeLearns$Lake;I)I"⟩
abbrev cX6_beShown : ByteArray := prog_8_method_9_code
def yX6_beShown : MethodName := ⟨RX6, "beShown", "(II)V"⟩
abbrev cX6_whyNotRung : ByteArray := prog_8_method_10_code
def yX6_whyNotRung : MethodName := ⟨RX6, "whyNotRung", "(LLakeLearns$Lake;)I"⟩
abbrev cX6_hear : ByteArray := prog_8_method_11_code
def yX6_hear : MethodName := ⟨RX6, "hear", "(LLakeLearns$Lake;I)V"⟩
abbrev cX6_whyNotSailed : ByteArray := prog_8_method_12_code
def yX6_whyNotSailed : MethodName := ⟨RX6, "whyNotSailed", "(LLakeLearns$Lake;II)I"⟩
abbrev cX6_moveBoat : ByteArray := prog_8_method_13_code
def yX6_moveBoat : MethodName := ⟨RX6, "moveBoat", "(II)V"⟩
abbrev cX6_passDays : ByteArray := prog_8_method_14_code
def yX6_passDays : MethodName := ⟨RX6, "passDays", "(LLakeLearns$Lake;I)V"⟩
abbrev cX6_finishDay : ByteArray := prog_8_method_15_code
def yX6_finishDay : MethodName := ⟨RX6, "finishDay", "(LLakeLearns$Lake;)V"⟩
abbrev cX6_countShowings : ByteArray := prog_8_method_16_code
def yX6_countShowings : MethodName := ⟨RX6, "countShowings", "(LLakeLearns$Lake;)V"⟩
abbrev cX6_keepOrForget : ByteArray := prog_8_method_17_code
def yX6_keepOrForget : MethodName := ⟨RX6, "keepOrForget", "(LLakeLearns$Lake;I)V"⟩
abbrev cX6_unlearn : ByteArray := prog_8_method_18_code
def yX6_unlearn : MethodName := ⟨RX6, "unlearn", "(I)V"⟩
def RX7 : String := "LakeLearns$Past"
def TX7 : u_T := fun k => match k with
  | 0 => ("LakeLearns$Past", "lives", "[LLakeLearns$Life;", true)
  | 1 => ("LakeLearns$Past", "next", "I", false)
  | _ => ("LakeLearns$Past", "held", "I", false)
def tyX7 : Nat → FieldType := fun k => match k with
  | 0 => .array (.object "LakeLearns$Life")
  | 1 => .int
  | _ => .int
abbrev wsX70 : List Cond := u_ws RX7 TX7 3
theorem nmX7 : ∀ a, a < 3 → ∀ b, b < 3 → a ≠ b → (TX7 a).2.1 ≠ (TX7 b).2.1 := by decide +kernel
theorem tyX7_ok : ∀ k, k < 3 → parseFieldDescriptor (TX7 k).2.2.1 = some (tyX7 k) := by decide +kernel
abbrev cX7_init : ByteArray := prog_9_method_1_code
def yX7_init : MethodName := ⟨RX7, "<init>", "()V"⟩
abbrev cX7_forget : ByteArray := prog_9_method_2_code
def yX7_forget : MethodName := ⟨RX7, "forget", "()V"⟩
abbrev cX7_keep : ByteArray := prog_9_method_3_code
def yX7_keep : MethodName := ⟨RX7, "keep", "(LLakeLearns$Life;)V"⟩
abbrev cX7_takeBack : ByteArray := prog_9_method_4_code
def yX7_takeBack : MethodName := ⟨RX7, "takeBack", "(LLakeLearns$Life;)I"⟩
def RX8 : String := "LakeLearns$Reader"
def TX8 : u_T := fun k => match k with
  | 0 => ("LakeLearns$Reader", "text", "[B", true)
  | 1 => ("LakeLearns$Reader", "keyCodes", "[J", true)
  | 2 => ("LakeLearns$Reader", "length", "I", false)
  | 3 => ("LakeLearns$Reader", "most", "I", false)
  | 4 => ("LakeLearns$Reader", "at", "I", false)
  | 5 => ("LakeLearns$Reader", "kind", "I", false)
  | 6 => ("LakeLearns$Reader", "start", "I", false)
  | 7 => ("LakeLearns$Reader", "value", "I", false)
  | 8 => ("LakeLearns$Reader", "code", "J", false)
  | 9 => ("LakeLearns$Reader", "fault", "I", false)
  | _ => ("LakeLearns$Reader", "place", "I", false)
def tyX8 : Nat → FieldType := fun k => match k with
  | 0 => .array .byte
  | 1 => .array .long
  | 2 => .int
  | 3 => .int
  | 4 => .int
  | 5 => .int
  | 6 => .int
  | 7 => .int
  | 8 => .long
  | 9 => .int
  | _ => .int
abbrev wsX80 : List Cond := u_ws RX8 TX8 11
theorem nmX8 : ∀ a, a < 11 → ∀ b, b < 11 → a ≠ b → (TX8 a).2.1 ≠ (TX8 b).2.1 := by decide +kernel
theorem tyX8_ok : ∀ k, k < 11 → parseFieldDescriptor (TX8 k).2.2.1 = some (tyX8 k) := by decide +kernel
abbrev cX8_init : ByteArray := prog_10_method_1_code
def yX8_init : MethodName := ⟨RX8, "<init>", "([B)V"⟩
abbrev cX8_open : ByteArray := prog_10_method_2_code
def yX8_open : MethodName := ⟨RX8, "open", "(II)V"⟩
abbrev cX8_advance : ByteArray := prog_10_method_3_code
def yX8_advance : MethodName := ⟨RX8, "advance", "()V"⟩
abbrev cX8_readRun : ByteArray := prog_10_method_4_code
def yX8_readRun : MethodName := ⟨RX8, "readRun", "()V"⟩
abbrev cX8_keyOf : ByteArray := prog_10_method_5_code
def yX8_keyOf : MethodName := ⟨RX8, "keyOf", "(J)I"⟩
abbrev cX8_isSign : ByteArray := prog_10_method_6_code
def yX8_isSign : MethodName := ⟨RX8, "isSign", "(I)Z"⟩
abbrev cX8_fail : ByteArray := prog_10_method_7_code
def yX8_fail : MethodName := ⟨RX8, "fail", "(I)Z"⟩
abbrev cX8_isKey : ByteArray := prog_10_method_8_code
def yX8_isKey : MethodName := ⟨RX8, "isKey", "(I)Z"⟩
abbrev cX8_isSignNow : ByteArray := prog_10_method_9_code
def yX8_isSignNow : MethodName := ⟨RX8, "isSignNow", "(I)Z"⟩
abbrev cX8_passKey : ByteArray := prog_10_method_10_code
def yX8_passKey : MethodName := ⟨RX8, "passKey", "(I)Z"⟩
abbrev cX8_passSign : ByteArray := prog_10_method_11_code
def yX8_passSign : MethodName := ⟨RX8, "passSign", "(I)Z"⟩
abbrev cX8_passNumber : ByteArray := prog_10_method_12_code
def yX8_passNumber : MethodName := ⟨RX8, "passNumber", "(II)I"⟩
abbrev cX8_passName : ByteArray := prog_10_method_13_code
def yX8_passName : MethodName := ⟨RX8, "passName", "(LLakeLearns$Lake;I)I"⟩
def RX9 : String := "LakeLearns$Sentence"
def TX9 : u_T := fun k => match k with
  | 0 => ("LakeLearns$Sentence", "ones", "I", false)
  | 1 => ("LakeLearns$Sentence", "parts", "I", false)
  | 2 => ("LakeLearns$Sentence", "key", "[I", true)
  | 3 => ("LakeLearns$Sentence", "sign", "[I", true)
  | 4 => ("LakeLearns$Sentence", "number", "[I", true)
  | _ => ("LakeLearns$Sentence", "open", "[I", true)
def tyX9 : Nat → FieldType := fun k => match k with
  | 0 => .int
  | 1 => .int
  | 2 => .array .int
  | 3 => .array .int
  | 4 => .array .int
  | _ => .array .int
abbrev wsX90 : List Cond := u_ws RX9 TX9 6
theorem nmX9 : ∀ a, a < 6 → ∀ b, b < 6 → a ≠ b → (TX9 a).2.1 ≠ (TX9 b).2.1 := by decide +kernel
theorem tyX9_ok : ∀ k, k < 6 → parseFieldDescriptor (TX9 k).2.2.1 = some (tyX9 k) := by decide +kernel
abbrev cX9_init : ByteArray := prog_11_method_1_code
def yX9_init : MethodName := ⟨RX9, "<init>", "()V"⟩
abbrev cX9_forget : ByteArray := prog_11_method_2_code
def yX9_forget : MethodName := ⟨RX9, "forget", "()V"⟩
abbrev cX9_copyFrom : ByteArray := prog_11_method_3_code
def yX9_copyFrom : MethodName := ⟨RX9, "copyFrom", "(LLakeLearns$Sentence;)V"⟩
abbrev cX9_add : ByteArray := prog_11_method_4_code
def yX9_add : MethodName := ⟨RX9, "add", "(III)V"⟩
abbrev cX9_saidOf : ByteArray := prog_11_method_5_code
def yX9_saidOf : MethodName := ⟨RX9, "saidOf", "(LLakeLearns$Lake;LLakeLearns$Life;)I"⟩
abbrev cX9_saidByPart : ByteArray := prog_11_method_6_code
def yX9_saidByPart : MethodName := ⟨RX9, "saidByPart", "(LLakeLearns$Lake;LLakeLearns$Life;I)I"⟩
abbrev cX9_saidByTeacher : ByteArray := prog_11_method_7_code
def yX9_saidByTeacher : MethodName := ⟨RX9, "saidByTeacher", "(LLakeLearns$Lake;LLakeLearns$Life;I)I"⟩
abbrev cX9_saidByNumber : ByteArray := prog_11_method_8_code
def yX9_saidByNumber : MethodName := ⟨RX9, "saidByNumber", "(LLakeLearns$Lake;LLakeLearns$Life;I)I"⟩
abbrev cX9_measure : ByteArray := prog_11_method_9_code
def yX9_measure : MethodName := ⟨RX9, "measure", "(LLakeLearns$Lake;LLakeLearns$Life;II)I"⟩
def RX10 : String := "LakeLearns$SentenceReader"
def TX10 : u_T := fun k => match k with
  | 0 => ("LakeLearns$SentenceReader", "reader", "LLakeLearns$Reader;", true)
  | _ => ("LakeLearns$SentenceReader", "draft", "LLakeLearns$Sentence;", true)
def tyX10 : Nat → FieldType := fun k => match k with
  | 0 => .object "LakeLearns$Reader"
  | _ => .object "LakeLearns$Sentence"
abbrev wsX100 : List Cond := u_ws RX10 TX10 2
theorem nmX10 : ∀ a, a < 2 → ∀ b, b < 2 → a ≠ b → (TX10 a).2.1 ≠ (TX10 b).2.1 := by decide +kernel
theorem tyX10_ok : ∀ k, k < 2 → parseFieldDescriptor (TX10 k).2.2.1 = some (tyX10 k) := by decide +kernel
abbrev cX10_init : ByteArray := prog_12_method_1_code
def yX10_init : MethodName := ⟨RX10, "<init>", "(LLakeLearns$Reader;)V"⟩
abbrev cX10_readWhole : ByteArray := prog_12_method_2_code
def yX10_readWhole : MethodName := ⟨RX10, "readWhole", "(LLakeLearns$Lake;)Z"⟩
abbrev cX10_readCond : ByteArray := prog_12_method_3_code
def yX10_readCond : MethodName := ⟨RX10, "readCond", "(LLakeLearns$Lake;I)Z"⟩
abbrev cX10_readOne : ByteArray := prog_12_method_4_code
def yX10_readOne : MethodName := ⟨RX10, "readOne", "(LLakeLearns$Lake;I)Z"⟩
abbrev cX10_readPlain : ByteArray := prog_12_method_5_code
def yX10_readPlain : MethodName := ⟨RX10, "readPlain", "(LLakeLearns$Lake;I)Z"⟩
abbrev cX10_readMeasure : ByteArray := prog_12_method_6_code
def yX10_readMeasure : MethodName := ⟨RX10, "readMeasure", "(I)Z"⟩
def RX11 : String := "LakeLearns"
def TX11 : u_T := fun k => match k with
  | 0 => ("LakeLearns", "tape", "[B", true)
  | 1 => ("LakeLearns", "bytes", "I", false)
  | 2 => ("LakeLearns", "reader", "LLakeLearns$Reader;", true)
  | 3 => ("LakeLearns", "lakeReader", "LLakeLearns$LakeReader;", true)
  | 4 => ("LakeLearns", "sentenceReader", "LLakeLearns$SentenceReader;", true)
  | 5 => ("LakeLearns", "lake", "LLakeLearns$Lake;", true)
  | 6 => ("LakeLearns", "life", "LLakeLearns$Life;", true)
  | 7 => ("LakeLearns", "trial", "LLakeLearns$Life;", true)
  | 8 => ("LakeLearns", "past", "LLakeLearns$Past;", true)
  | 9 => ("LakeLearns", "spoken", "LLakeLearns$Sentence;", true)
  | 10 => ("LakeLearns", "images", "[LLakeLearns$Image;", true)
  | 11 => ("LakeLearns", "diary", "LLakeLearns$Diary;", true)
  | 12 => ("LakeLearns", "guess", "LLakeLearns$Guess;", true)
  | 13 => ("LakeLearns", "draw", "LLakeLearns$Draw;", true)
  | 14 => ("LakeLearns", "toldLast", "[I", true)
  | 15 => ("LakeLearns", "faultLast", "I", false)
  | _ => ("LakeLearns", "taughtLast", "I", false)
def tyX11 : Nat → FieldType := fun k => match k with
  | 0 => .array .byte
  | 1 => .int
  | 2 => .object "LakeLearns$Reader"
  | 3 => .object "LakeLearns$LakeReader"
  | 4 => .object "LakeLearns$SentenceReader"
  | 5 => .object "LakeLearns$Lake"
  | 6 => .object "LakeLearns$Life"
  | 7 => .object "LakeLearns$Life"
  | 8 => .object "LakeLearns$Past"
  | 9 => .object "LakeLearns$Sentence"
  | 10 => .array (.object "LakeLearns$Image")
  | 11 => .object "LakeLearns$Diary"
  | 12 => .object "LakeLearns$Guess"
  | 13 => .object "LakeLearns$Draw"
  | 14 => .array .int
  | 15 => .int
  | _ => .int
abbrev wsX110 : List Cond := u_ws RX11 TX11 17
theorem nmX11 : ∀ a, a < 17 → ∀ b, b < 17 → a ≠ b → (TX11 a).2.1 ≠ (TX11 b).2.1 := by decide +kernel
theorem tyX11_ok : ∀ k, k < 17 → parseFieldDescriptor (TX11 k).2.2.1 = some (tyX11 k) := by decide +kernel
abbrev cX11_init : ByteArray := prog_1_method_1_code
def yX11_init : MethodName := ⟨RX11, "<init>", "()V"⟩
abbrev cX11_feed : ByteArray := prog_1_method_2_code
def yX11_feed : MethodName := ⟨RX11, "feed", "(IIIII)I"⟩
abbrev cX11_append : ByteArray := prog_1_method_3_code
def yX11_append : MethodName := ⟨RX11, "append", "(I)V"⟩
abbrev cX11_end : ByteArray := prog_1_method_4_code
def yX11_end : MethodName := ⟨RX11, "end", "(I)Z"⟩
abbrev cX11_lake : ByteArray := prog_1_method_5_code
def yX11_lake : MethodName := ⟨RX11, "lake", "()I"⟩
abbrev cX11_openTape : ByteArray := prog_1_method_6_code
def yX11_openTape : MethodName := ⟨RX11, "openTape", "(I)V"⟩
abbrev cX11_fault : ByteArray := prog_1_method_7_code
def yX11_fault : MethodName := ⟨RX11, "fault", "()I"⟩
abbrev cX11_lesson : ByteArray := prog_1_method_8_code
def yX11_lesson : MethodName := ⟨RX11, "lesson", "(II)I"⟩
abbrev cX11_step : ByteArray := prog_1_method_9_code
def yX11_step : MethodName := ⟨RX11, "step", "(II)I"⟩
abbrev cX11_boat : ByteArray := prog_1_method_10_code
def yX11_boat : MethodName := ⟨RX11, "boat", "(II)I"⟩
abbrev cX11_height : ByteArray := prog_1_method_11_code
def yX11_height : MethodName := ⟨RX11, "height", "(I)I"⟩
abbrev cX11_now : ByteArray := prog_1_method_12_code
def yX11_now : MethodName := ⟨RX11, "now", "(I)I"⟩
abbrev cX11_show : ByteArray := prog_1_method_13_code
def yX11_show : MethodName := ⟨RX11, "show", "(II)I"⟩
abbrev cX11_ring : ByteArray := prog_1_method_14_code
def yX11_ring : MethodName := ⟨RX11, "ring", "(I)I"⟩
abbrev cX11_sail : ByteArray := prog_1_method_15_code
def yX11_sail : MethodName := ⟨RX11, "sail", "(II)I"⟩
abbrev cX11_days : ByteArray := prog_1_method_16_code
def yX11_days : MethodName := ⟨RX11, "days", "(I)I"⟩
abbrev cX11_undo : ByteArray := prog_1_method_17_code
def yX11_undo : MethodName := ⟨RX11, "undo", "()I"⟩
abbrev cX11_does : ByteArray := prog_1_method_18_code
def yX11_does : MethodName := ⟨RX11, "does", "(II)I"⟩
abbrev cX11_waves : ByteArray := prog_1_method_19_code
def yX11_waves : MethodName := ⟨RX11, "waves", "(II)I"⟩
abbrev cX11_dry : ByteArray := prog_1_method_20_code
def yX11_dry : MethodName := ⟨RX11, "dry", "(I)I"⟩
abbrev cX11_havens : ByteArray := prog_1_method_21_code
def yX11_havens : MethodName := ⟨RX11, "havens", "(I)I"⟩
abbrev cX11_learnt : ByteArray := prog_1_method_22_code
def yX11_learnt : MethodName := ⟨RX11, "learnt", "()I"⟩
abbrev cX11_surely : ByteArray := prog_1_method_23_code
def yX11_surely : MethodName := ⟨RX11, "surely", "()I"⟩
abbrev cX11_never : ByteArray := prog_1_method_24_code
def yX11_never : MethodName := ⟨RX11, "never", "()I"⟩
abbrev cX11_ask : ByteArray := prog_1_method_25_code
def yX11_ask : MethodName := ⟨RX11, "ask", "()I"⟩
abbrev cX11_teach : ByteArray := prog_1_method_26_code
def yX11_teach : MethodName := ⟨RX11, "teach", "(I)I"⟩
abbrev cX11_cheapest : ByteArray := prog_1_method_27_code
def yX11_cheapest : MethodName := ⟨RX11, "cheapest", "(II)I"⟩
abbrev cX11_taught : ByteArray := prog_1_method_28_code
def yX11_taught : MethodName := ⟨RX11, "taught", "()I"⟩
abbrev cX11_apart : ByteArray := prog_1_method_29_code
def yX11_apart : MethodName := ⟨RX11, "apart", "(I)I"⟩
abbrev cX11_still : ByteArray := prog_1_method_30_code
def yX11_still : MethodName := ⟨RX11, "still", "(I)I"⟩
abbrev cX11_pairs : ByteArray := prog_1_method_31_code
def yX11_pairs : MethodName := ⟨RX11, "pairs", "(IZ)I"⟩
abbrev cX11_lasts : ByteArray := prog_1_method_32_code
def yX11_lasts : MethodName := ⟨RX11, "lasts", "(I)I"⟩
abbrev cX11_forgets : ByteArray := prog_1_method_33_code
def yX11_forgets : MethodName := ⟨RX11, "forgets", "(I)I"⟩
abbrev cX11_pupils : ByteArray := prog_1_method_34_code
def yX11_pupils : MethodName := ⟨RX11, "pupils", "(I)I"⟩
abbrev cX11_ice : ByteArray := prog_1_method_35_code
def yX11_ice : MethodName := ⟨RX11, "ice", "()I"⟩
abbrev cX11_drawn : ByteArray := prog_1_method_36_code
def yX11_drawn : MethodName := ⟨RX11, "drawn", "(II)I"⟩
abbrev cX11_odds : ByteArray := prog_1_method_37_code
def yX11_odds : MethodName := ⟨RX11, "odds", "(III)I"⟩
abbrev cX11_diary : ByteArray := prog_1_method_38_code
def yX11_diary : MethodName := ⟨RX11, "diary", "(I)I"⟩
abbrev cX11_told : ByteArray := prog_1_method_39_code
def yX11_told : MethodName := ⟨RX11, "told", "(I)I"⟩
abbrev cX11_sentence : ByteArray := prog_1_method_40_code
def yX11_sentence : MethodName := ⟨RX11, "sentence", "()I"⟩
abbrev cX11_said : ByteArray := prog_1_method_41_code
def yX11_said : MethodName := ⟨RX11, "said", "(I)I"⟩
abbrev cX11_image : ByteArray := prog_1_method_42_code
def yX11_image : MethodName := ⟨RX11, "image", "(I)Z"⟩
abbrev cX11_restore : ByteArray := prog_1_method_43_code
def yX11_restore : MethodName := ⟨RX11, "restore", "(I)Z"⟩
abbrev cX11_count : ByteArray := prog_1_method_44_code
def yX11_count : MethodName := ⟨RX11, "count", "(I)I"⟩
def RX12 : String := "LakeLearnsModel"
def TX12 : u_T := fun k => match k with
  | 0 => ("LakeLearnsModel", "thrown", "I", false)
  | 1 => ("LakeLearnsModel", "tape", "[B", true)
  | 2 => ("LakeLearnsModel", "length", "I", false)
  | 3 => ("LakeLearnsModel", "size", "I", false)
  | 4 => ("LakeLearnsModel", "p", "I", false)
  | 5 => ("LakeLearnsModel", "limit", "I", false)
  | 6 => ("LakeLearnsModel", "s", "[I", true)
  | 7 => ("LakeLearnsModel", "h", "[I", true)
  | 8 => ("LakeLearnsModel", "read", "[I", true)
  | 9 => ("LakeLearnsModel", "names", "[J", true)
  | 10 => ("LakeLearnsModel", "reserved", "[J", true)
  | 11 => ("LakeLearnsModel", "token", "I", false)
  | 12 => ("LakeLearnsModel", "at", "I", false)
  | 13 => ("LakeLearnsModel", "span", "I", false)
  | 14 => ("LakeLearnsModel", "number", "I", false)
  | 15 => ("LakeLearnsModel", "fault", "I", false)
  | 16 => ("LakeLearnsModel", "faultAt", "I", false)
  | 17 => ("LakeLearnsModel", "word", "J", false)
  | 18 => ("LakeLearnsModel", "got", "I", false)
  | 19 => ("LakeLearnsModel", "lines", "I", false)
  | 20 => ("LakeLearnsModel", "onces", "I", false)
  | 21 => ("LakeLearnsModel", "row", "[I", true)
  | 22 => ("LakeLearnsModel", "high", "I", false)
  | 23 => ("LakeLearnsModel", "undone", "[I", true)
  | 24 => ("LakeLearnsModel", "before", "[I", true)
  | 25 => ("LakeLearnsModel", "undoMany", "I", false)
  | 26 => ("LakeLearnsModel", "fits", "[Z", true)
  | 27 => ("LakeLearnsModel", "answer", "[I", true)
  | 28 => ("LakeLearnsModel", "surelySet", "I", false)
  | 29 => ("LakeLearnsModel", "neverSet", "I", false)
  | 30 => ("LakeLearnsModel", "askCue", "I", false)
  | 31 => ("LakeLearnsModel", "hasLearnt", "Z", false)
  | 32 => ("LakeLearnsModel", "taughtSet", "I", false)
  | 33 => ("LakeLearnsModel", "hasTaught", "Z", false)
  | 34 => ("LakeLearnsModel", "seed", "I", false)
  | 35 => ("LakeLearnsModel", "told", "I", false)
  | 36 => ("LakeLearnsModel", "toldAt", "[I", true)
  | 37 => ("LakeLearnsModel", "hasTold", "Z", false)
  | 38 => ("LakeLearnsModel", "stack", "[I", true)
  | 39 => ("LakeLearnsModel", "codes", "I", false)
  | 40 => ("LakeLearnsModel", "ones", "I", false)
  | 41 => ("LakeLearnsModel", "top", "I", false)
  | 42 => ("LakeLearnsModel", "deep", "I", false)
  | 43 => ("LakeLearnsModel", "isWhole", "Z", false)
  | 44 => ("LakeLearnsModel", "truths", "[Z", true)
  | 45 => ("LakeLearnsModel", "kept", "[I", true)
  | 46 => ("LakeLearnsModel", "namesKept", "[J", true)
  | _ => ("LakeLearnsModel", "areKept", "[Z", true)
def tyX12 : Nat → FieldType := fun k => match k with
  | 0 => .int
  | 1 => .array .byte
  | 2 => .int
  | 3 => .int
  | 4 => .int
  | 5 => .int
  | 6 => .array .int
  | 7 => .array .int
  | 8 => .array .int
  | 9 => .array .long
  | 10 => .array .long
  | 11 => .int
  | 12 => .int
  | 13 => .int
  | 14 => .int
  | 15 => .int
  | 16 => .int
  | 17 => .long
  | 18 => .int
  | 19 => .int
  | 20 => .int
  | 21 => .array .int
  | 22 => .int
  | 23 => .array .int
  | 24 => .array .int
  | 25 => .int
  | 26 => .array .boolean
  | 27 => .array .int
  | 28 => .int
  | 29 => .int
  | 30 => .int
  | 31 => .boolean
  | 32 => .int
  | 33 => .boolean
  | 34 => .int
  | 35 => .int
  | 36 => .array .int
  | 37 => .boolean
  | 38 => .array .int
  | 39 => .int
  | 40 => .int
  | 41 => .int
  | 42 => .int
  | 43 => .boolean
  | 44 => .array .boolean
  | 45 => .array .int
  | 46 => .array .long
  | _ => .array .boolean
abbrev wsX120 : List Cond := u_ws RX12 TX12 48
theorem nmX12 : ∀ a, a < 48 → ∀ b, b < 48 → a ≠ b → (TX12 a).2.1 ≠ (TX12 b).2.1 := by decide +kernel
theorem tyX12_ok : ∀ k, k < 48 → parseFieldDescriptor (TX12 k).2.2.1 = some (tyX12 k) := by decide +kernel
abbrev cX12_throwsIf : ByteArray := prog_14_method_2_code
def yX12_throwsIf : MethodName := ⟨RX12, "throwsIf", "(Z)Z"⟩
abbrev cX12_feed : ByteArray := prog_14_method_3_code
def yX12_feed : MethodName := ⟨RX12, "feed", "(IIIII)I"⟩
abbrev cX12_four : ByteArray := prog_14_method_4_code
def yX12_four : MethodName := ⟨RX12, "four", "(I)V"⟩
abbrev cX12_end : ByteArray := prog_14_method_5_code
def yX12_end : MethodName := ⟨RX12, "end", "(I)Z"⟩
abbrev cX12_taken : ByteArray := prog_14_method_6_code
def yX12_taken : MethodName := ⟨RX12, "taken", "(I)V"⟩
abbrev cX12_isIn : ByteArray := prog_14_method_7_code
def yX12_isIn : MethodName := ⟨RX12, "isIn", "(III)Z"⟩
abbrev cX12_bitOf : ByteArray := prog_14_method_8_code
def yX12_bitOf : MethodName := ⟨RX12, "bitOf", "(II)Z"⟩
abbrev cX12_greater : ByteArray := prog_14_method_9_code
def yX12_greater : MethodName := ⟨RX12, "greater", "(II)I"⟩
abbrev cX12_octet : ByteArray := prog_14_method_10_code
def yX12_octet : MethodName := ⟨RX12, "octet", "(I)I"⟩
abbrev cX12_init : ByteArray := prog_14_method_11_code
def yX12_init : MethodName := ⟨RX12, "<init>", "()V"⟩
abbrev cX12_clears : ByteArray := prog_14_method_12_code
def yX12_clears : MethodName := ⟨RX12, "clears", "()V"⟩
abbrev cX12_peek : ByteArray := prog_14_method_13_code
def yX12_peek : MethodName := ⟨RX12, "peek", "()I"⟩
abbrev cX12_isSmall : ByteArray := prog_14_method_14_code
def yX12_isSmall : MethodName := ⟨RX12, "isSmall", "(I)Z"⟩
abbrev cX12_isDigit : ByteArray := prog_14_method_15_code
def yX12_isDigit : MethodName := ⟨RX12, "isDigit", "(I)Z"⟩
abbrev cX12_next : ByteArray := prog_14_method_16_code
def yX12_next : MethodName := ⟨RX12, "next", "()V"⟩
abbrev cX12_bad : ByteArray := prog_14_method_17_code
def yX12_bad : MethodName := ⟨RX12, "bad", "(I)Z"⟩
abbrev cX12_isWord : ByteArray := prog_14_method_18_code
def yX12_isWord : MethodName := ⟨RX12, "isWord", "(J)Z"⟩
abbrev cX12_isSign : ByteArray := prog_14_method_19_code
def yX12_isSign : MethodName := ⟨RX12, "isSign", "(I)Z"⟩
abbrev cX12_sign : ByteArray := prog_14_method_20_code
def yX12_sign : MethodName := ⟨RX12, "sign", "(I)Z"⟩
abbrev cX12_isName : ByteArray := prog_14_method_21_code
def yX12_isName : MethodName := ⟨RX12, "isName", "()Z"⟩
abbrev cX12_takes : ByteArray := prog_14_method_22_code
def yX12_takes : MethodName := ⟨RX12, "takes", "(II)Z"⟩
abbrev cX12_puts : ByteArray := prog_14_method_23_code
def yX12_puts : MethodName := ⟨RX12, "puts", "(III)Z"⟩
abbrev cX12_find : ByteArray := prog_14_method_24_code
def yX12_find : MethodName := ⟨RX12, "find", "(II)I"⟩
abbrev cX12_fresh : ByteArray := prog_14_method_25_code
def yX12_fresh : MethodName := ⟨RX12, "fresh", "(I)Z"⟩
abbrev cX12_looksAt : ByteArray := prog_14_method_26_code
def yX12_looksAt : MethodName := ⟨RX12, "looksAt", "(II)Z"⟩
abbrev cX12_isOnce : ByteArray := prog_14_method_27_code
def yX12_isOnce : MethodName := ⟨RX12, "isOnce", "(I)Z"⟩
abbrev cX12_line : ByteArray := prog_14_method_28_code
def yX12_line : MethodName := ⟨RX12, "line", "()Z"⟩
abbrev cX12_readLesson : ByteArray := prog_14_method_29_code
def yX12_readLesson : MethodName := ⟨RX12, "readLesson", "()Z"⟩
abbrev cX12_lake : ByteArray := prog_14_method_30_code
def yX12_lake : MethodName := ⟨RX12, "lake", "()I"⟩
abbrev cX12_fault : ByteArray := prog_14_method_31_code
def yX12_fault : MethodName := ⟨RX12, "fault", "()I"⟩
abbrev cX12_isCell : ByteArray := prog_14_method_32_code
def yX12_isCell : MethodName := ⟨RX12, "isCell", "(I)Z"⟩
abbrev cX12_isCue : ByteArray := prog_14_method_33_code
def yX12_isCue : MethodName := ⟨RX12, "isCue", "(I)Z"⟩
abbrev cX12_isLesson : ByteArray := prog_14_method_34_code
def yX12_isLesson : MethodName := ⟨RX12, "isLesson", "(I)Z"⟩
abbrev cX12_isTeacher : ByteArray := prog_14_method_35_code
def yX12_isTeacher : MethodName := ⟨RX12, "isTeacher", "(I)Z"⟩
abbrev cX12_isBoat : ByteArray := prog_14_method_36_code
def yX12_isBoat : MethodName := ⟨RX12, "isBoat", "(I)Z"⟩
abbrev cX12_isSet : ByteArray := prog_14_method_37_code
def yX12_isSet : MethodName := ⟨RX12, "isSet", "(I)Z"⟩
abbrev cX12_isKnown : ByteArray := prog_14_method_38_code
def yX12_isKnown : MethodName := ⟨RX12, "isKnown", "(I)Z"⟩
abbrev cX12_knownSet : ByteArray := prog_14_method_39_code
def yX12_knownSet : MethodName := ⟨RX12, "knownSet", "()I"⟩
abbrev cX12_todaySet : ByteArray := prog_14_method_40_code
def yX12_todaySet : MethodName := ⟨RX12, "todaySet", "()I"⟩
abbrev cX12_isConfused : ByteArray := prog_14_method_41_code
def yX12_isConfused : MethodName := ⟨RX12, "isConfused", "(I)Z"⟩
abbrev cX12_isIce : ByteArray := prog_14_method_42_code
def yX12_isIce : MethodName := ⟨RX12, "isIce", "(I)Z"⟩
abbrev cX12_lesson : ByteArray := prog_14_method_43_code
def yX12_lesson : MethodName := ⟨RX12, "lesson", "(II)I"⟩
abbrev cX12_step : ByteArray := prog_14_method_44_code
def yX12_step : MethodName := ⟨RX12, "step", "(II)I"⟩
abbrev cX12_boat : ByteArray := prog_14_method_45_code
def yX12_boat : MethodName := ⟨RX12, "boat", "(II)I"⟩
abbrev cX12_height : ByteArray := prog_14_method_46_code
def yX12_height : MethodName := ⟨RX12, "height", "(I)I"⟩
abbrev cX12_now : ByteArray := prog_14_method_47_code
def yX12_now : MethodName := ⟨RX12, "now", "(I)I"⟩
abbrev cX12_moves : ByteArray := prog_14_method_48_code
def yX12_moves : MethodName := ⟨RX12, "moves", "(II)V"⟩
abbrev cX12_longest : ByteArray := prog_14_method_49_code
def yX12_longest : MethodName := ⟨RX12, "longest", "(II)I"⟩
abbrev cX12_heightsOf : ByteArray := prog_14_method_50_code
def yX12_heightsOf : MethodName := ⟨RX12, "heightsOf", "(II)I"⟩
abbrev cX12_wavesOf : ByteArray := prog_14_method_51_code
def yX12_wavesOf : MethodName := ⟨RX12, "wavesOf", "(II)I"⟩
abbrev cX12_whyShow : ByteArray := prog_14_method_52_code
def yX12_whyShow : MethodName := ⟨RX12, "whyShow", "(I)I"⟩
abbrev cX12_shows : ByteArray := prog_14_method_53_code
def yX12_shows : MethodName := ⟨RX12, "shows", "(II)V"⟩
abbrev cX12_whyRing : ByteArray := prog_14_method_54_code
def yX12_whyRing : MethodName := ⟨RX12, "whyRing", "()I"⟩
abbrev cX12_rings : ByteArray := prog_14_method_55_code
def yX12_rings : MethodName := ⟨RX12, "rings", "(I)V"⟩
abbrev cX12_whySail : ByteArray := prog_14_method_56_code
def yX12_whySail : MethodName := ⟨RX12, "whySail", "(II)I"⟩
abbrev cX12_sails : ByteArray := prog_14_method_57_code
def yX12_sails : MethodName := ⟨RX12, "sails", "(II)V"⟩
abbrev cX12_unlearns : ByteArray := prog_14_method_58_code
def yX12_unlearns : MethodName := ⟨RX12, "unlearns", "(I)V"⟩
abbrev cX12_isPractised : ByteArray := prog_14_method_59_code
def yX12_isPractised : MethodName := ⟨RX12, "isPractised", "(I)Z"⟩
abbrev cX12_counts : ByteArray := prog_14_method_60_code
def yX12_counts : MethodName := ⟨RX12, "counts", "(I)V"⟩
abbrev cX12_day : ByteArray := prog_14_method_61_code
def yX12_day : MethodName := ⟨RX12, "day", "()V"⟩
abbrev cX12_goesOn : ByteArray := prog_14_method_62_code
def yX12_goesOn : MethodName := ⟨RX12, "goesOn", "(I)I"⟩
abbrev cX12_show : ByteArray := prog_14_method_63_code
def yX12_show : MethodName := ⟨RX12, "show", "(II)I"⟩
abbrev cX12_ring : ByteArray := prog_14_method_64_code
def yX12_ring : MethodName := ⟨RX12, "ring", "(I)I"⟩
abbrev cX12_sail : ByteArray := prog_14_method_65_code
def yX12_sail : MethodName := ⟨RX12, "sail", "(II)I"⟩
abbrev cX12_days : ByteArray := prog_14_method_66_code
def yX12_days : MethodName := ⟨RX12, "days", "(I)I"⟩
abbrev cX12_keep : ByteArray := prog_14_method_67_code
def yX12_keep : MethodName := ⟨RX12, "keep", "()V"⟩
abbrev cX12_undo : ByteArray := prog_14_method_68_code
def yX12_undo : MethodName := ⟨RX12, "undo", "()I"⟩
abbrev cX12_tries : ByteArray := prog_14_method_69_code
def yX12_tries : MethodName := ⟨RX12, "tries", "()V"⟩
abbrev cX12_back : ByteArray := prog_14_method_70_code
def yX12_back : MethodName := ⟨RX12, "back", "()V"⟩
abbrev cX12_does : ByteArray := prog_14_method_71_code
def yX12_does : MethodName := ⟨RX12, "does", "(II)I"⟩
abbrev cX12_waves : ByteArray := prog_14_method_72_code
def yX12_waves : MethodName := ⟨RX12, "waves", "(II)I"⟩
abbrev cX12_dry : ByteArray := prog_14_method_73_code
def yX12_dry : MethodName := ⟨RX12, "dry", "(I)I"⟩
abbrev cX12_havens : ByteArray := prog_14_method_74_code
def yX12_havens : MethodName := ⟨RX12, "havens", "(I)I"⟩
abbrev cX12_heightsAt : ByteArray := prog_14_method_75_code
def yX12_heightsAt : MethodName := ⟨RX12, "heightsAt", "(I)I"⟩
abbrev cX12_answersAt : ByteArray := prog_14_method_76_code
def yX12_answersAt : MethodName := ⟨RX12, "answersAt", "(I)I"⟩
abbrev cX12_learnt : ByteArray := prog_14_method_77_code
def yX12_learnt : MethodName := ⟨RX12, "learnt", "()I"⟩
abbrev cX12_surely : ByteArray := prog_14_method_78_code
def yX12_surely : MethodName := ⟨RX12, "surely", "()I"⟩
abbrev cX12_never : ByteArray := prog_14_method_79_code
def yX12_never : MethodName := ⟨RX12, "never", "()I"⟩
abbrev cX12_ask : ByteArray := prog_14_method_80_code
def yX12_ask : MethodName := ⟨RX12, "ask", "()I"⟩
abbrev cX12_needsOf : ByteArray := prog_14_method_81_code
def yX12_needsOf : MethodName := ⟨RX12, "needsOf", "(I)I"⟩
abbrev cX12_teach : ByteArray := prog_14_method_82_code
def yX12_teach : MethodName := ⟨RX12, "teach", "(I)I"⟩
abbrev cX12_taught : ByteArray := prog_14_method_83_code
def yX12_taught : MethodName := ⟨RX12, "taught", "()I"⟩
abbrev cX12_isPair : ByteArray := prog_14_method_84_code
def yX12_isPair : MethodName := ⟨RX12, "isPair", "(IIZ)Z"⟩
abbrev cX12_pairAt : ByteArray := prog_14_method_85_code
def yX12_pairAt : MethodName := ⟨RX12, "pairAt", "(IZ)I"⟩
abbrev cX12_apart : ByteArray := prog_14_method_86_code
def yX12_apart : MethodName := ⟨RX12, "apart", "(I)I"⟩
abbrev cX12_still : ByteArray := prog_14_method_87_code
def yX12_still : MethodName := ⟨RX12, "still", "(I)I"⟩
abbrev cX12_lasts : ByteArray := prog_14_method_88_code
def yX12_lasts : MethodName := ⟨RX12, "lasts", "(I)I"⟩
abbrev cX12_forgets : ByteArray := prog_14_method_89_code
def yX12_forgets : MethodName := ⟨RX12, "forgets", "(I)I"⟩
abbrev cX12_pupils : ByteArray := prog_14_method_90_code
def yX12_pupils : MethodName := ⟨RX12, "pupils", "(I)I"⟩
abbrev cX12_ice : ByteArray := prog_14_method_91_code
def yX12_ice : MethodName := ⟨RX12, "ice", "()I"⟩
abbrev cX12_draw : ByteArray := prog_14_method_92_code
def yX12_draw : MethodName := ⟨RX12, "draw", "(I)I"⟩
abbrev cX12_draws : ByteArray := prog_14_method_93_code
def yX12_draws : MethodName := ⟨RX12, "draws", "(II)I"⟩
abbrev cX12_drawn : ByteArray := prog_14_method_94_code
def yX12_drawn : MethodName := ⟨RX12, "drawn", "(II)I"⟩
abbrev cX12_odds : ByteArray := prog_14_method_95_code
def yX12_odds : MethodName := ⟨RX12, "odds", "(III)I"⟩
abbrev cX12_diaryLine : ByteArray := prog_14_method_96_code
def yX12_diaryLine : MethodName := ⟨RX12, "diaryLine", "()Z"⟩
abbrev cX12_lives : ByteArray := prog_14_method_97_code
def yX12_lives : MethodName := ⟨RX12, "lives", "(III)I"⟩
abbrev cX12_diary : ByteArray := prog_14_method_98_code
def yX12_diary : MethodName := ⟨RX12, "diary", "(I)I"⟩
abbrev cX12_told : ByteArray := prog_14_method_99_code
def yX12_told : MethodName := ⟨RX12, "told", "(I)I"⟩
abbrev cX12_code : ByteArray := prog_14_method_100_code
def yX12_code : MethodName := ⟨RX12, "code", "(III)V"⟩
abbrev cX12_joins : ByteArray := prog_14_method_101_code
def yX12_joins : MethodName := ⟨RX12, "joins", "(I)V"⟩
abbrev cX12_nots : ByteArray := prog_14_method_102_code
def yX12_nots : MethodName := ⟨RX12, "nots", "()V"⟩
abbrev cX12_leafOf : ByteArray := prog_14_method_103_code
def yX12_leafOf : MethodName := ⟨RX12, "leafOf", "()I"⟩
abbrev cX12_operand : ByteArray := prog_14_method_104_code
def yX12_operand : MethodName := ⟨RX12, "operand", "()Z"⟩
abbrev cX12_behind : ByteArray := prog_14_method_105_code
def yX12_behind : MethodName := ⟨RX12, "behind", "()Z"⟩
abbrev cX12_sentence : ByteArray := prog_14_method_106_code
def yX12_sentence : MethodName := ⟨RX12, "sentence", "()I"⟩
abbrev cX12_isLeaf : ByteArray := prog_14_method_107_code
def yX12_isLeaf : MethodName := ⟨RX12, "isLeaf", "(IIII)Z"⟩
abbrev cX12_isSaid : ByteArray := prog_14_method_108_code
def yX12_isSaid : MethodName := ⟨RX12, "isSaid", "(I)Z"⟩
abbrev cX12_said : ByteArray := prog_14_method_109_code
def yX12_said : MethodName := ⟨RX12, "said", "(I)I"⟩
abbrev cX12_image : ByteArray := prog_14_method_110_code
def yX12_image : MethodName := ⟨RX12, "image", "(I)Z"⟩
abbrev cX12_restore : ByteArray := prog_14_method_111_code
def yX12_restore : MethodName := ⟨RX12, "restore", "(I)Z"⟩
abbrev cX12_count : ByteArray := prog_14_method_112_code
def yX12_count : MethodName := ⟨RX12, "count", "(I)I"⟩
def RJx145de : String := "java/io/Serializable"
def RJx9f9b0 : String := "java/lang/CharSequence"
def RJx8e188 : String := "java/lang/Cloneable"
def RJxb160c : String := "java/lang/Comparable"
def RJ6 : String := "java/lang/Integer"
abbrev cJ6_compare_7cf53 : ByteArray := prog_20_method_40_code
def yJ6_compare_7cf53 : MethodName := ⟨RJ6, "compare", "(II)I"⟩
def RJ9 : String := "java/lang/Math"
abbrev cJ9_max_7cf53 : ByteArray := prog_21_method_65_code
def yJ9_max_7cf53 : MethodName := ⟨RJ9, "max", "(II)I"⟩
abbrev cJ9_min_7cf53 : ByteArray := prog_21_method_69_code
def yJ9_min_7cf53 : MethodName := ⟨RJ9, "min", "(II)I"⟩
def RJ0 : String := "java/lang/String"
abbrev cJ0_length_8abf5 : ByteArray := prog_23_method_54_code
def yJ0_length_8abf5 : MethodName := ⟨RJ0, "length", "()I"⟩
abbrev cJ0_charAt_5068e : ByteArray := prog_23_method_56_code
def yJ0_charAt_5068e : MethodName := ⟨RJ0, "charAt", "(I)C"⟩
abbrev cJ0_coder_7d493 : ByteArray := prog_23_method_152_code
def yJ0_coder_7d493 : MethodName := ⟨RJ0, "coder", "()B"⟩
abbrev cJ0_isLatin1_aae02 : ByteArray := prog_23_method_154_code
def yJ0_isLatin1_aae02 : MethodName := ⟨RJ0, "isLatin1", "()Z"⟩
abbrev cJ0_checkIndex_df160 : ByteArray := prog_23_method_155_code
def yJ0_checkIndex_df160 : MethodName := ⟨RJ0, "checkIndex", "(II)V"⟩
def RJ1 : String := "java/lang/StringLatin1"
abbrev cJ1_charAt_3b067 : ByteArray := prog_24_method_2_code
def yJ1_charAt_3b067 : MethodName := ⟨RJ1, "charAt", "([BI)C"⟩
def RJ2 : String := "java/lang/StringUTF16"
abbrev cJ2_getChar_3b067 : ByteArray := prog_25_method_5_code
def yJ2_getChar_3b067 : MethodName := ⟨RJ2, "getChar", "([BI)C"⟩
abbrev cJ2_length_9d52b : ByteArray := prog_25_method_6_code
def yJ2_length_9d52b : MethodName := ⟨RJ2, "length", "([B)I"⟩
abbrev cJ2_charAt_3b067 : ByteArray := prog_25_method_83_code
def yJ2_charAt_3b067 : MethodName := ⟨RJ2, "charAt", "([BI)C"⟩
abbrev cJ2_checkIndex_2214a : ByteArray := prog_25_method_91_code
def yJ2_checkIndex_2214a : MethodName := ⟨RJ2, "checkIndex", "(I[B)V"⟩
def RJ10 : String := "java/lang/System"
def RJxfd54e : String := "java/lang/constant/Constable"
def RJx3cf43 : String := "java/lang/constant/ConstantDesc"
def RJ3 : String := "jdk/internal/util/Preconditions"
abbrev cJ3_checkIndex_8e157 : ByteArray := prog_31_method_11_code
def yJ3_checkIndex_8e157 : MethodName := ⟨RJ3, "checkIndex", "(IILjava/util/function/BiFunction;)I"⟩
def RL : String := "LakeLearnsLaw"
abbrev cL_lesson : ByteArray := method_3_code
def yL_lesson : MethodName := ⟨RL, "lesson", "(LLakeLearns;II[J)I"⟩
abbrev cL_law : ByteArray := code
def yL_law : MethodName := ⟨RL, "law", "([I)Z"⟩
abbrev vwCl : List vw_C := [(RX0, TX0, 4), (RX1, TX1, 1), (RX2, TX2, 8), (RX3, TX3, 4), (RX4, TX4, 13), (RX5, TX5, 3), (RX6, TX6, 16), (RX7, TX7, 3), (RX8, TX8, 11), (RX9, TX9, 6), (RX10, TX10, 2), (RX11, TX11, 17), (RX12, TX12, 48)]
end
section
/-! An abstract machine (ri_): references are counted from the first cell that the law makes; a cell is a kind and a list of values; steps and runs are functions. A float stands for a named int, a returnAddress for a cell that was there before. -/
abbrev ri_C : Type := Nat × List Value
abbrev ri_H : Type := List ri_C
abbrev ri_En : Type := Instr × Nat × List Nat × Value
abbrev ri_F : Type := Nat × List (Nat × Value) × List Value × ri_H × Nat × Nat
abbrev ri_M : Type := MethodName × ByteArray × Nat × Option FieldType × String × Nat × Nat
abbrev ri_T : Type := List (Nat × List (Nat × ri_En))
abbrev ri_V : Type := Nat × (Nat → Option Nat) × (Nat → Int32)
abbrev ri_O : Type := List (Nat × Value × Value × Bool)
def ri_A (E : ri_V) : Nat → Prop := fun q => E.1 ≤ q
def ri_ush (x : Int32) (k : Nat) : Int32 := (x.toUInt32 >>> ((nI k).toUInt32 &&& Int32.toUInt32 31)).toInt32
def ri_shr (x : Int32) (k : Nat) : Int32 := x >>> (nI k &&& 31)
def ri_sem (sg : Nat → Int32) (n : Nat) : Int32 :=
  match n / 512 with
  | 0 => sg (n % 16)
  | 1 => ri_ush (sg (n % 16)) (n / 16 % 32)
  | 2 => ri_shr (sg (n % 16)) (n / 16 % 32)
  | 3 => (ri_ush (sg (n % 16)) (n / 16 % 32)).toInt8.toInt32
  | _ => (ri_shr (sg (n % 16)) (n / 16 % 32)).toInt8.toInt32
/-- what a value of the abstract machine is on the machine -/
def ri_cv (E : ri_V) (v : Value) : Value := match v with
  | .ref k => .ref (E.1 + k)
  | .retAddr n => va_rf (E.2.1 n)
  | .float t => .int (ri_sem E.2.2 t.toNat)
  | v => v
def ri_isA (v : Value) : Bool := match v with
  | .ref _ => true
  | .retAddr _ => true
  | .null => true
  | _ => false
def ri_isI (v : Value) : Bool := match v with
  | .int _ => true
  | .float _ => true
  | _ => false
def ri_isL (v : Value) : Bool := match v with
  | .long _ => true
  | _ => false
def ri_ic (E : ri_V) (v : Value) : Int32 := match ri_cv E v with
  | .int x => x
  | _ => 0
def ri_lk : List (Nat × Value) → Nat → Option Value
  | [], _ => none
  | q :: t, i => bif Nat.beq q.1 i then some q.2 else ri_lk t i
def ri_st1 (lo : List (Nat × Value)) (i : Nat) (v : Value) : List (Nat × Value) := (i, v) :: lo.filter (fun q => !(q.1 == i) && !(q.1 + 1 == i && q.2.category == 2))
def ri_as : Nat → List Value → List (Nat × Value)
  | _, [] => []
  | i, v :: vs => (i, v) :: ri_as (if v.category = 2 then i + 2 else i + 1) vs
def ri_look : List (Nat × ri_En) → Nat → Option ri_En
  | [], _ => none
  | q :: t, pc => bif Nat.beq q.1 pc then some q.2 else ri_look t pc
def ri_look2 : ri_T → Nat → Option ri_En
  | [], _ => none
  | q :: t, pc => bif Nat.blt pc q.1 then ri_look q.2 pc else ri_look2 t pc
/-- compares: 0 eq, 1 ne, 2 lt, 3 ge, 4 gt, 5 le, 6 outside 0 .. b -/
def ri_hd (c : Nat) (a b : Int32) : Bool := match c with
  | 0 => decide (a = b)
  | 1 => !decide (a = b)
  | 2 => decide (a < b)
  | 3 => decide (b ≤ a)
  | 4 => decide (b < a)
  | 5 => decide (a ≤ b)
  | _ => decide (a.toInt < 0) || decide (b.toInt < a.toInt)
def ri_cn (c : ClassFile.Cond) : Nat := match c with
  | .eq => 0
  | .ne => 1
  | .lt => 2
  | .ge => 3
  | .gt => 4
  | .le => 5
def ri_fd : ri_O → Nat → Value → Value → Option Bool
  | [], _, _, _ => none
  | q :: t, c, x, y => bif Nat.beq q.1 c && (decide (q.2.1 = x) && decide (q.2.2.1 = y)) then some q.2.2.2 else ri_fd t c x y
def ri_cmp (dc : ri_O) (c : Nat) (x y : Value) : Option Bool := match x, y with
  | .int a, .int b => some (ri_hd c a b)
  | x, y => bif ri_isI x && ri_isI y then ri_fd dc c x y else none
def ri_br (dc : ri_O) (c : Nat) (x y : Value) (tgt nx : Nat) (lo : List (Nat × Value)) (st : List Value) (h : ri_H) (k z : Nat) : Option ri_F := match ri_cmp dc c x y with
  | some true => some (tgt, lo, st, h, k, z)
  | some false => some (nx, lo, st, h, k, z)
  | none => none
/-- the default values of an object's fields, by its kind -/
def ri_dv (d : String) : Value := match d.toList with
  | ['I'] => .int 0
  | ['Z'] => .int 0
  | ['J'] => .long 0
  | _ => .null
def ri_df (t : Nat) : Option (List Value) := match vwCl[t]? with
  | some r => some ((List.range r.2.2).map (fun k => ri_dv (r.2.1 k).2.2.1))
  | none => none
/-- may a value go into a field of a type: 0 int, 1 boolean, 2 long, 3 reference -/
def ri_fit (q : Nat) (v : Value) : Bool := match q, v with
  | 0, .int _ => true
  | 0, .float _ => true
  | 1, .int x => decide (x = 0) || decide (x = 1)
  | 2, .long _ => true
  | 3, .ref _ => true
  | 3, .null => true
  | _, _ => false
/-- arrays that were there before: the class's four tables, the bytes of the key words -/
def ri_xl (n : Nat) : List Int32 := match n with
  | 1 => [4, 3, 20, 0, 0]
  | 2 => [6, 8, 4, 6]
  | 3 => [1, 1, 1, 1, 0]
  | 4 => [8, 9, 99, 30, 99]
  | 6 => [99, 101, 108, 108, 115, 32, 115, 104, 111, 119, 110, 32, 107, 101, 101, 112, 115, 32, 110, 105, 103, 104, 116, 115, 32, 105, 99, 101, 32, 99, 117, 101, 32, 108, 101, 115, 115, 111, 110, 32, 116, 101, 97, 99, 104, 101, 114, 32, 98, 111, 97, 116, 32, 115, 104, 111, 119, 115, 32, 114, 105, 110, 103, 115, 32, 115, 97, 105, 108, 115, 32, 100, 97, 121, 32, 111, 114, 32, 97, 110, 100, 32, 110, 111, 116, 32, 107, 110, 111, 119, 110, 32, 116, 111, 100, 97, 121, 32, 97, 116, 32, 98, 121, 32, 116, 105, 109, 101, 115, 32, 115, 116, 101, 112, 115, 32, 100, 111, 110, 101, 32, 110, 117, 109, 98, 101, 114, 32]
  | _ => []
/-- what an array holds at a place; kinds 13 int, 14 byte, 15 long, 16 boolean, 17 Life, 18 Image -/
def ri_ald (g : Nat → Bool) (x : Nat) (a : Value) (i : Int32) (h : ri_H) : Option Value := match a with
  | .ref r => match h[r]? with
    | some q => bif g q.1 && !decide (i < 0) then q.2[i.toNatClampNeg]? else none
    | none => none
  | .retAddr n => bif Nat.beq x 1 && (Nat.ble 1 n && Nat.ble n 4) || (Nat.beq x 2 && Nat.beq n 6) then (bif !decide (i < 0) then ((ri_xl n)[i.toNatClampNeg]?).map Value.int else none) else none
  | _ => none
def ri_ast (g : Nat → Bool) (a : Value) (i : Int32) (v : Value) (h : ri_H) : Option ri_H := match a with
  | .ref r => match h[r]? with
    | some q => bif g q.1 && (!decide (i < 0) && Nat.blt i.toNatClampNeg q.2.length) then some (h.set r (q.1, q.2.set i.toNatClampNeg v)) else none
    | none => none
  | _ => none
/-- a value as a byte array keeps it -/
def ri_nb (v : Value) : Option Value := match v with
  | .int x => some (.int x.toInt8.toInt32)
  | .float t => bif Nat.ble 1536 t.toNat then some v else none
  | _ => none
def ri_alen (a : Value) (h : ri_H) : Option Int32 := match a with
  | .ref r => match h[r]? with
    | some q => bif Nat.ble 13 q.1 && Nat.ble q.1 18 then some (Int32.ofNat q.2.length) else none
    | none => none
  | .retAddr n => bif Nat.ble 1 n && Nat.ble n 4 || Nat.beq n 6 then some (Int32.ofNat (ri_xl n).length) else none
  | _ => none
def ri_new (M : ri_M) (t nx : Nat) (fs : List Value) (lo : List (Nat × Value)) (st : List Value) (h : ri_H) (k z : Nat) : Option ri_F :=
  bif Nat.ble (k + 1) M.2.2.2.2.2.1 && Nat.ble (z + fs.length) M.2.2.2.2.2.2 then some (nx, lo, .ref h.length :: st, h ++ [(t, fs)], k + 1, z + fs.length) else none
def ri_wt (st : List Value) : Nat := (st.map fun v => v.category).sum
def ri_take : Nat → List Value → List Value → Option (List Value × List Value)
  | 0, acc, st => some (acc, st)
  | n + 1, acc, v :: st => ri_take n (v :: acc) st
  | _ + 1, _, [] => none
def ri_cpy (f g : List Value) (sp dp n : Nat) : List Value := g.take dp ++ (f.drop sp).take n ++ g.drop (dp + n)
def ri_copy (a b : Value) (sp dp n : Int32) (h : ri_H) : Option ri_H := match b with
  | .ref rb => match h[rb]? with
    | some qb => bif (Nat.beq qb.1 13 || Nat.beq qb.1 15) && (!decide (sp < 0) && (!decide (dp < 0) && (!decide (n < 0) && Nat.ble (dp.toNatClampNeg + n.toNatClampNeg) qb.2.length))) then (match a with
        | .ref ra => match h[ra]? with
          | some qa => bif Nat.beq qa.1 qb.1 && (Nat.ble (sp.toNatClampNeg + n.toNatClampNeg) qa.2.length && ((qa.2.drop sp.toNatClampNeg).take n.toNatClampNeg).all (fun v => bif Nat.beq qb.1 13 then ri_isI v else ri_isL v)) then some (h.set rb (qb.1, ri_cpy qa.2 qb.2 sp.toNatClampNeg dp.toNatClampNeg n.toNatClampNeg)) else none
          | none => none
        | .retAddr x => bif Nat.beq qb.1 13 && (Nat.ble 1 x && Nat.ble x 4 && Nat.ble (sp.toNatClampNeg + n.toNatClampNeg) (ri_xl x).length) then some (h.set rb (qb.1, ri_cpy ((ri_xl x).map Value.int) qb.2 sp.toNatClampNeg dp.toNatClampNeg n.toNatClampNeg)) else none
        | _ => none) else none
    | none => none
  | _ => none
/-- a call: kind 0 Object(), 1 virtual, 2 constructor, 3 static, 4 arraycopy, 5 clone of a table, 6 virtual on the key words, 7 constructor of a nest mate, 8 Math.min, 9 Math.max; then the callee's number, how many arguments beside the receiver, the receiver's kind -/
def ri_inv (dc : ri_O) (cal : Nat → List Value → ri_H → Option (Option Value × ri_H)) (bud : Nat → Option (Nat × Nat)) (M : ri_M) (pc : Nat) (aux : List Nat) (lo : List (Nat × Value)) (st : List Value) (h : ri_H) (k z : Nat) : Option ri_F := match aux with
  | 0 :: _ => match st with
    | .ref _ :: r => bif Nat.ble (ri_wt r) 8 then some (pc + 3, lo, r, h, k, z) else none
    | _ => none
  | 4 :: _ => match st with
    | .int n :: .int dp :: b :: .int sp :: a :: r => bif Nat.ble (ri_wt r) 8 then (match ri_copy a b sp dp n h with
      | some h' => some (pc + 3, lo, r, h', k, z)
      | none => none) else none
    | _ => none
  | 5 :: _ => match st with
    | .retAddr n :: r => bif Nat.ble 1 n && (Nat.ble n 4 && Nat.ble (ri_wt r) 8) then ri_new M 13 (pc + 3) ((ri_xl n).map Value.int) lo r h k z else none
    | _ => none
  | 8 :: _ => match st with
    | y :: x :: r => bif Nat.ble (ri_wt r) 8 && (Nat.ble k M.2.2.2.2.2.1 && Nat.ble z M.2.2.2.2.2.2) then (match ri_cmp dc 2 y x with
      | some b => some (pc + 3, lo, (bif b then y else x) :: r, h, k, z)
      | none => none) else none
    | _ => none
  | 9 :: _ => match st with
    | y :: x :: r => bif Nat.ble (ri_wt r) 8 && (Nat.ble k M.2.2.2.2.2.1 && Nat.ble z M.2.2.2.2.2.2) then (match ri_cmp dc 2 x y with
      | some b => some (pc + 3, lo, (bif b then y else x) :: r, h, k, z)
      | none => none) else none
    | _ => none
  | kd :: j :: n :: t :: _ => match ri_take n [] st with
    | some (as, r0) => match (bif Nat.beq kd 3 then some (as, r0) else match r0 with
        | .ref b :: r => bif Nat.beq kd 1 || (Nat.beq kd 2 || Nat.beq kd 7) then (match h[b]? with
          | some q => bif Nat.beq q.1 t then some (.ref b :: as, r) else none
          | none => none) else none
        | .retAddr 5 :: r => bif Nat.beq kd 6 then some (.retAddr 5 :: as, r) else none
        | _ => none) with
      | some (as', r) => bif Nat.ble (ri_wt r) 8 then (match bud j, cal j as' h with
        | some (mc, ms), some (v, h') => bif Nat.ble (k + mc) M.2.2.2.2.2.1 && Nat.ble (z + ms) M.2.2.2.2.2.2 then some (pc + 3, lo, v.toList ++ r, h', k + mc, z + ms) else none
        | _, _ => none) else none
      | none => none
    | none => none
  | _ => none
def ri_i2 (op : Int32 → Int32 → Int32) (pc : Nat) (lo : List (Nat × Value)) (st : List Value) (h : ri_H) (k z : Nat) : Option ri_F := match st with
  | .int y :: .int x :: r => some (pc + 1, lo, .int (op x y) :: r, h, k, z)
  | _ => none
def ri_d2 (op : Int32 → Int32 → Int32) (pc : Nat) (lo : List (Nat × Value)) (st : List Value) (h : ri_H) (k z : Nat) : Option ri_F := match st with
  | .int y :: .int x :: r => bif decide (y = 0) then none else some (pc + 1, lo, .int (op x y) :: r, h, k, z)
  | _ => none
def ri_s2 (op : Int32 → Int32 → Int32) (q : Nat) (pc : Nat) (lo : List (Nat × Value)) (st : List Value) (h : ri_H) (k z : Nat) : Option ri_F := match st with
  | .int y :: .int x :: r => some (pc + 1, lo, .int (op x y) :: r, h, k, z)
  | .int y :: .float t :: r => bif Nat.blt t.toNat 16 && (Nat.blt y.toNatClampNeg 32 && decide (nI y.toNatClampNeg = y)) then some (pc + 1, lo, .float (UInt32.ofNat (512 * q + 16 * y.toNatClampNeg + t.toNat)) :: r, h, k, z) else none
  | _ => none
def ri_l2 (op : Int64 → Int64 → Int64) (pc : Nat) (lo : List (Nat × Value)) (st : List Value) (h : ri_H) (k z : Nat) : Option ri_F := match st with
  | .long y :: .long x :: r => some (pc + 1, lo, .long (op x y) :: r, h, k, z)
  | _ => none
def ri_ld (t : Value → Bool) (i n pc : Nat) (lo : List (Nat × Value)) (st : List Value) (h : ri_H) (k z : Nat) : Option ri_F := match ri_lk lo i with
  | some v => bif t v then some (pc + n, lo, v :: st, h, k, z) else none
  | none => none
def ri_sto (t : Value → Bool) (M : ri_M) (i n pc : Nat) (lo : List (Nat × Value)) (st : List Value) (h : ri_H) (k z : Nat) : Option ri_F := match st with
  | v :: r => bif t v && Nat.blt i M.2.2.1 then some (pc + n, ri_st1 lo i v, r, h, k, z) else none
  | [] => none
def ri_g1 (n : Nat) : Bool := Nat.beq n 13
def ri_g2 (n : Nat) : Bool := Nat.beq n 14
def ri_g3 (n : Nat) : Bool := Nat.beq n 15
def ri_g4 (n : Nat) : Bool := Nat.beq n 16
def ri_g5 (n : Nat) : Bool := Nat.beq n 17 || Nat.beq n 18
def ri_g24 (n : Nat) : Bool := Nat.beq n 14 || Nat.beq n 16
/-- may a method of this return type give this value back -/
def ri_rok (r : Option FieldType) (v : Value) : Bool := match r, v with
  | some .int, .int _ => true
  | some .int, .float _ => true
  | some .boolean, .int x => decide (x = 0) || decide (x = 1)
  | some .byte, .int x => decide (x = 0) || decide (x = 1)
  | some .char, .int x => decide ((x.toUInt32 % 65536).toInt32 = x)
  | _, _ => false
def ri_step (dc : ri_O) (cal : Nat → List Value → ri_H → Option (Option Value × ri_H)) (bud : Nat → Option (Nat × Nat)) (M : ri_M) (e : ri_En) (pc : Nat) (lo : List (Nat × Value)) (st : List Value) (h : ri_H) (k z : Nat) : Option ri_F := match e.1 with
  | .aload_n n => ri_ld ri_isA n.val 1 pc lo st h k z
  | .aload n => ri_ld ri_isA n 2 pc lo st h k z
  | .iload_n n => ri_ld ri_isI n.val 1 pc lo st h k z
  | .iload n => ri_ld ri_isI n 2 pc lo st h k z
  | .lload_n n => ri_ld ri_isL n.val 1 pc lo st h k z
  | .istore_n n => ri_sto ri_isI M n.val 1 pc lo st h k z
  | .istore n => ri_sto ri_isI M n 2 pc lo st h k z
  | .astore_n n => ri_sto ri_isA M n.val 1 pc lo st h k z
  | .astore n => ri_sto ri_isA M n 2 pc lo st h k z
  | .iinc i n => match ri_lk lo i with
    | some (.int x) => bif Nat.blt i M.2.2.1 then some (pc + 3, ri_st1 lo i (.int (x + Int32.ofInt n)), st, h, k, z) else none
    | _ => none
  | .iconst n => some (pc + 1, lo, .int (Int32.ofInt n) :: st, h, k, z)
  | .bipush n => some (pc + 2, lo, .int ((Int8.ofInt n).toInt32) :: st, h, k, z)
  | .sipush n => some (pc + 3, lo, .int ((Int16.ofInt n).toInt32) :: st, h, k, z)
  | .lconst n => some (pc + 1, lo, .long (Int64.ofNat n.val) :: st, h, k, z)
  | .ldc _ => match e.2.2.2 with
    | .int x => some (pc + 2, lo, .int x :: st, h, k, z)
    | .retAddr 5 => some (pc + 2, lo, .retAddr 5 :: st, h, k, z)
    | _ => none
  | .ldc_w _ => match e.2.2.2 with
    | .int x => some (pc + 3, lo, .int x :: st, h, k, z)
    | _ => none
  | .ldc2_w _ => match e.2.2.2 with
    | .long x => some (pc + 3, lo, .long x :: st, h, k, z)
    | _ => none
  | .iadd => ri_i2 (fun x y => x + y) pc lo st h k z
  | .isub => ri_i2 (fun x y => x - y) pc lo st h k z
  | .imul => ri_i2 (fun x y => x * y) pc lo st h k z
  | .iand => ri_i2 (fun x y => x &&& y) pc lo st h k z
  | .ior => ri_i2 (fun x y => x ||| y) pc lo st h k z
  | .ixor => ri_i2 (fun x y => x ^^^ y) pc lo st h k z
  | .ishl => ri_i2 (fun x y => x <<< (y &&& 31)) pc lo st h k z
  | .idiv => ri_d2 (fun x y => x / y) pc lo st h k z
  | .irem => ri_d2 (fun x y => x - x / y * y) pc lo st h k z
  | .iushr => ri_s2 (fun x y => (x.toUInt32 >>> (y.toUInt32 &&& Int32.toUInt32 31)).toInt32) 1 pc lo st h k z
  | .ishr => ri_s2 (fun x y => x >>> (y &&& 31)) 2 pc lo st h k z
  | .i2b => match st with
    | .int x :: r => some (pc + 1, lo, .int x.toInt8.toInt32 :: r, h, k, z)
    | .float t :: r => bif Nat.ble 512 t.toNat && Nat.blt t.toNat 1536 then some (pc + 1, lo, .float (UInt32.ofNat (t.toNat + 1024)) :: r, h, k, z) else none
    | _ => none
  | .i2c => match st with
    | .int x :: r => some (pc + 1, lo, .int (x.toUInt32 % 65536).toInt32 :: r, h, k, z)
    | _ => none
  | .i2l => match st with
    | .int x :: r => some (pc + 1, lo, .long x.toInt64 :: r, h, k, z)
    | _ => none
  | .ladd => ri_l2 (fun x y => x + y) pc lo st h k z
  | .lmul => ri_l2 (fun x y => x * y) pc lo st h k z
  | .lor => ri_l2 (fun x y => x ||| y) pc lo st h k z
  | .lshl => match st with
    | .int y :: .long x :: r => some (pc + 1, lo, .long (x <<< (y.toInt64 &&& 63)) :: r, h, k, z)
    | _ => none
  | .lcmp => match st with
    | .long y :: .long x :: r => some (pc + 1, lo, .int (lg_cmp x y) :: r, h, k, z)
    | _ => none
  | .dup => match st with
    | v :: r => bif Nat.beq v.category 1 then some (pc + 1, lo, v :: v :: r, h, k, z) else none
    | _ => none
  | .dup2 => match st with
    | v :: w :: r => bif Nat.beq v.category 1 && Nat.beq w.category 1 then some (pc + 1, lo, v :: w :: v :: w :: r, h, k, z) else none
    | _ => none
  | .pop => match st with
    | v :: r => bif Nat.beq v.category 1 then some (pc + 1, lo, r, h, k, z) else none
    | _ => none
  | .goto _ => match e.2.2.1 with
    | [tgt] => some (tgt, lo, st, h, k, z)
    | _ => none
  | .ifCond c _ => match e.2.2.1, st with
    | [tgt], x :: r => ri_br dc (ri_cn c) x (.int 0) tgt (pc + 3) lo r h k z
    | _, _ => none
  | .if_icmp c _ => match e.2.2.1, st with
    | [tgt], y :: x :: r => ri_br dc (ri_cn c) x y tgt (pc + 3) lo r h k z
    | _, _ => none
  | .tableswitch _ lw hw _ => match e.2.2.1, st with
    | dt :: ts, .int x :: r => bif decide (x.toInt < lw) || decide (hw < x.toInt) then some (dt, lo, r, h, k, z) else (match ts[(x.toInt - lw).toNat]? with
      | some tgt => some (tgt, lo, r, h, k, z)
      | none => none)
    | dt :: _, .float t :: r => bif decide (0 ≤ lw) then (match ri_fd dc 6 (.float t) (.int (Int32.ofInt hw)) with
      | some true => bif decide ((Int32.ofInt hw).toInt = hw) then some (dt, lo, r, h, k, z) else none
      | _ => none) else none
    | _, _ => none
  | .getfield _ => match e.2.2.1, st with
    | [t, i, _], .ref r :: s => match h[r]? with
      | some q => bif Nat.beq q.1 t && Nat.blt t 13 then (match q.2[i]? with
        | some v => some (pc + 3, lo, v :: s, h, k, z)
        | none => none) else none
      | none => none
    | [50, 0, _], .retAddr 5 :: s => some (pc + 3, lo, .int 0 :: s, h, k, z)
    | [50, 1, _], .retAddr 5 :: s => some (pc + 3, lo, .retAddr 6 :: s, h, k, z)
    | _, _ => none
  | .putfield _ => match e.2.2.1, st with
    | [t, i, _, q], v :: .ref r :: s => match h[r]? with
      | some c => bif (Nat.beq c.1 t && Nat.blt t 13) && (Nat.blt i c.2.length && ri_fit q v) then some (pc + 3, lo, s, h.set r (c.1, c.2.set i v), k, z) else none
      | none => none
    | _, _ => none
  | .getstatic _ => match e.2.2.1 with
    | [1, _] => some (pc + 3, lo, .retAddr 1 :: st, h, k, z)
    | [2, _] => some (pc + 3, lo, .retAddr 2 :: st, h, k, z)
    | [3, _] => some (pc + 3, lo, .retAddr 3 :: st, h, k, z)
    | [4, _] => some (pc + 3, lo, .retAddr 4 :: st, h, k, z)
    | [5, _] => some (pc + 3, lo, .int 1 :: st, h, k, z)
    | [7, _] => some (pc + 3, lo, .retAddr 7 :: st, h, k, z)
    | _ => none
  | .new _ => match e.2.2.1 with
    | t :: _ => match ri_df t with
      | some fs => ri_new M t (pc + 3) fs lo st h k z
      | none => none
    | _ => none
  | .newarray a => match st with
    | .int n :: r => bif !decide (n < 0) && Nat.ble n.toNatClampNeg 100000 then (match a with
      | .int => ri_new M 13 (pc + 2) (List.replicate n.toNatClampNeg (.int 0)) lo r h k z
      | .byte => ri_new M 14 (pc + 2) (List.replicate n.toNatClampNeg (.int 0)) lo r h k z
      | .long => ri_new M 15 (pc + 2) (List.replicate n.toNatClampNeg (.long 0)) lo r h k z
      | .boolean => ri_new M 16 (pc + 2) (List.replicate n.toNatClampNeg (.int 0)) lo r h k z
      | _ => none) else none
    | _ => none
  | .anewarray _ => match e.2.2.1, st with
    | t :: _, .int n :: r => bif (Nat.beq t 17 || Nat.beq t 18) && (!decide (n < 0) && Nat.ble n.toNatClampNeg 100000) then ri_new M t (pc + 3) (List.replicate n.toNatClampNeg .null) lo r h k z else none
    | _, _ => none
  | .arraylength => match st with
    | a :: r => match ri_alen a h with
      | some n => some (pc + 1, lo, .int n :: r, h, k, z)
      | none => none
    | _ => none
  | .iaload => match st with
    | .int i :: a :: r => match ri_ald ri_g1 1 a i h with
      | some v => some (pc + 1, lo, v :: r, h, k, z)
      | none => none
    | _ => none
  | .baload => match st with
    | .int i :: a :: r => match ri_ald ri_g24 2 a i h with
      | some v => some (pc + 1, lo, v :: r, h, k, z)
      | none => none
    | _ => none
  | .laload => match st with
    | .int i :: a :: r => match ri_ald ri_g3 0 a i h with
      | some v => some (pc + 1, lo, v :: r, h, k, z)
      | none => none
    | _ => none
  | .aaload => match st with
    | .int i :: a :: r => match ri_ald ri_g5 0 a i h with
      | some v => some (pc + 1, lo, v :: r, h, k, z)
      | none => none
    | _ => none
  | .iastore => match st with
    | v :: .int i :: a :: r => bif ri_isI v then (match ri_ast ri_g1 a i v h with
      | some h' => some (pc + 1, lo, r, h', k, z)
      | none => none) else none
    | _ => none
  | .bastore => match st with
    | v :: .int i :: a :: r => match ri_nb v with
      | some w => (match ri_ast ri_g2 a i w h with
        | some h' => some (pc + 1, lo, r, h', k, z)
        | none => (match v with
          | .int x => bif decide (x = 0) || decide (x = 1) then (match ri_ast ri_g4 a i v h with
            | some h' => some (pc + 1, lo, r, h', k, z)
            | none => none) else none
          | _ => none))
      | none => none
    | _ => none
  | .lastore => match st with
    | v :: .int i :: a :: r => bif ri_isL v then (match ri_ast ri_g3 a i v h with
      | some h' => some (pc + 1, lo, r, h', k, z)
      | none => none) else none
    | _ => none
  | .aastore => match st with
    | .ref w :: .int i :: .ref a :: r => match h[w]?, h[a]? with
      | some qw, some qa => bif Nat.beq qw.1 6 && Nat.beq qa.1 17 || (Nat.beq qw.1 3 && Nat.beq qa.1 18) then (match ri_ast ri_g5 (.ref a) i (.ref w) h with
        | some h' => some (pc + 1, lo, r, h', k, z)
        | none => none) else none
      | _, _ => none
    | _ => none
  | .invokevirtual _ => ri_inv dc cal bud M pc e.2.2.1 lo st h k z
  | .invokespecial _ => ri_inv dc cal bud M pc e.2.2.1 lo st h k z
  | .invokestatic _ => ri_inv dc cal bud M pc e.2.2.1 lo st h k z
  | .checkcast _ => match st with
    | .ref a :: r => match h[a]? with
      | some q => bif Nat.beq q.1 13 then some (pc + 3, lo, .ref a :: r, h, k, z) else none
      | none => none
    | _ => none
  | _ => none
def ri_isR (i : Instr) : Bool := match i with
  | .ireturn => true
  | .return_ => true
  | _ => false
def ri_ret (r : Option FieldType) (i : Instr) (st : List Value) : Option (List Value) := match i with
  | .ireturn => match st with
    | [v] => bif ri_rok r v then some [v] else none
    | _ => none
  | .return_ => match r, st with
    | none, [] => some []
    | _, _ => none
  | _ => none
/-- one step of a method's frame; at 70000 it has returned -/
def ri_st (dc : ri_O) (cal : Nat → List Value → ri_H → Option (Option Value × ri_H)) (bud : Nat → Option (Nat × Nat)) (q : ri_M × ri_T) (f : ri_F) : Option ri_F :=
  bif Nat.beq f.1 70000 then some f else match ri_look2 q.2 f.1 with
    | some e => bif ri_isR e.1 then (match ri_ret q.1.2.2.2.1 e.1 f.2.2.1 with
        | some r => some (70000, [], r, f.2.2.2.1, f.2.2.2.2.1, f.2.2.2.2.2)
        | none => none) else (match ri_step dc cal bud q.1 e f.1 f.2.1 f.2.2.1 f.2.2.2.1 f.2.2.2.2.1 f.2.2.2.2.2 with
        | some f' => bif Nat.beq f'.1 70000 then none else some f'
        | none => none)
    | none => none
/-- 2 ^ n steps, or as many as there are -/
noncomputable def ri_it (stp : ri_F → Option ri_F) (n : Nat) : ri_F → Option ri_F :=
  Nat.rec (motive := fun _ => ri_F → Option ri_F) stp (fun _ ih f => match ih f with
    | some f' => bif Nat.beq f'.1 70000 then some f' else ih f'
    | none => none) n
def ri_bud (md : List (ri_M × ri_T)) (j : Nat) : Option (Nat × Nat) := match md[j]? with
  | some q => some (q.1.2.2.2.2.2.1, q.1.2.2.2.2.2.2)
  | none => none
/-- a whole call, of depth d at most, of 2 ^ 14 steps a frame at most -/
noncomputable def ri_call (dc : ri_O) (md : List (ri_M × ri_T)) (d : Nat) : Nat → List Value → ri_H → Option (Option Value × ri_H) :=
  Nat.rec (motive := fun _ => Nat → List Value → ri_H → Option (Option Value × ri_H)) (fun _ _ _ => none) (fun _ ih j as h => match md[j]? with
    | some q => bif Nat.ble (ri_wt as) q.1.2.2.1 then (match ri_it (ri_st dc ih (ri_bud md) q) 14 (0, ri_as 0 as, [], h, 0, 0) with
      | some f => bif Nat.beq f.1 70000 && (Nat.ble f.2.2.2.2.1 q.1.2.2.2.2.2.1 && Nat.ble f.2.2.2.2.2 q.1.2.2.2.2.2.2) then some (f.2.2.1.head?, f.2.2.2.1) else none
      | none => none) else none
    | none => none) d
end
section
def md_0 : ri_M × ri_T := ((yX0_init, cX0_init, 1, none, RX0, 3, 120), [
  (30, [(0, (.aload_n 0, 1, [], .null)), (1, (.invokespecial 3, 3, [0, 509], .null)), (4, (.aload_n 0, 1, [], .null)), (5, (.bipush 40, 2, [], .null)), (7, (.newarray .int, 2, [321], .null)), (9, (.putfield 9, 3, [0, 0, 510, 3], .null)), (12, (.aload_n 0, 1, [], .null)), (13, (.bipush 40, 2, [], .null)), (15, (.newarray .int, 2, [321], .null)), (17, (.putfield 15, 3, [0, 1, 511, 3], .null)), (20, (.aload_n 0, 1, [], .null)), (21, (.bipush 40, 2, [], .null)), (23, (.newarray .int, 2, [321], .null)), (25, (.putfield 18, 3, [0, 2, 512, 3], .null)), (28, (.aload_n 0, 1, [], .null)), (29, (.iconst 0, 1, [], .null))]),
  (34, [(30, (.putfield 21, 3, [0, 3, 513, 0], .null)), (33, (.return_, 1, [], .null))])])
def md_1 : ri_M × ri_T := ((yX0_readLines, cX0_readLines, 4, (some .boolean), RX0, 0, 0), [
  (25, [(0, (.aload_n 0, 1, [], .null)), (1, (.iconst 0, 1, [], .null)), (2, (.putfield 21, 3, [0, 3, 513, 0], .null)), (5, (.iconst 0, 1, [], .null)), (6, (.istore_n 3, 1, [], .null)), (7, (.iload_n 3, 1, [], .null)), (8, (.bipush 40, 2, [], .null)), (10, (.if_icmp .gt 48, 3, [58], .null)), (13, (.aload_n 1, 1, [], .null)), (14, (.getfield 25, 3, [8, 5, 193], .null)), (17, (.ifCond .ne 5, 3, [22], .null)), (20, (.iconst 1, 1, [], .null)), (21, (.ireturn, 1, [], .null)), (22, (.aload_n 0, 1, [], .null)), (23, (.aload_n 1, 1, [], .null)), (24, (.aload_n 2, 1, [], .null))]),
  (56, [(25, (.invokevirtual 30, 3, [1, 2, 2, 0, 1070, 23, 1072], .null)), (28, (.ifCond .eq 12, 3, [40], .null)), (31, (.aload_n 1, 1, [], .null)), (32, (.bipush 59, 2, [], .null)), (34, (.invokevirtual 34, 3, [1, 82, 1, 8, 1091, 737, 736], .null)), (37, (.ifCond .ne 5, 3, [42], .null)), (40, (.iconst 0, 1, [], .null)), (41, (.ireturn, 1, [], .null)), (42, (.aload_n 0, 1, [], .null)), (43, (.dup, 1, [], .null)), (44, (.getfield 21, 3, [0, 3, 513], .null)), (47, (.iconst 1, 1, [], .null)), (48, (.iadd, 1, [], .null)), (49, (.putfield 21, 3, [0, 3, 513, 0], .null)), (52, (.iinc 3 1, 3, [], .null)), (55, (.goto (-48), 3, [7], .null))]),
  (60, [(58, (.iconst 0, 1, [], .null)), (59, (.ireturn, 1, [], .null))])])
def md_2 : ri_M × ri_T := ((yX0_readLine, cX0_readLine, 7, (some .boolean), RX0, 0, 0), [
  (30, [(0, (.aload_n 1, 1, [], .null)), (1, (.bipush 10, 2, [], .null)), (3, (.invokevirtual 38, 3, [1, 79, 1, 8, 1074, 1076, 1075], .null)), (6, (.ifCond .ne 12, 3, [18], .null)), (9, (.aload_n 1, 1, [], .null)), (10, (.bipush 12, 2, [], .null)), (12, (.invokevirtual 38, 3, [1, 79, 1, 8, 1074, 1076, 1075], .null)), (15, (.ifCond .eq 7, 3, [22], .null)), (18, (.iconst 1, 1, [], .null)), (19, (.goto 4, 3, [23], .null)), (22, (.iconst 0, 1, [], .null)), (23, (.istore_n 3, 1, [], .null)), (24, (.iload_n 3, 1, [], .null)), (25, (.ifCond .ne 17, 3, [42], .null)), (28, (.aload_n 1, 1, [], .null)), (29, (.getfield 25, 3, [8, 5, 193], .null))]),
  (61, [(32, (.iconst 3, 1, [], .null)), (33, (.if_icmp .eq 9, 3, [42], .null)), (36, (.aload_n 1, 1, [], .null)), (37, (.iconst 1, 1, [], .null)), (38, (.invokevirtual 41, 3, [1, 78, 1, 8, 1078, 678, 677], .null)), (41, (.ireturn, 1, [], .null)), (42, (.iload_n 3, 1, [], .null)), (43, (.ifCond .eq 7, 3, [50], .null)), (46, (.iconst (-1), 1, [], .null)), (47, (.goto 11, 3, [58], .null)), (50, (.aload_n 2, 1, [], .null)), (51, (.aload_n 1, 1, [], .null)), (52, (.getfield 44, 3, [8, 8, 202], .null)), (55, (.invokevirtual 48, 3, [1, 29, 1, 4, 1079, 685, 684], .null)), (58, (.istore 4, 2, [], .null)), (60, (.iload 4, 2, [], .null))]),
  (90, [(62, (.iconst (-1), 1, [], .null)), (63, (.if_icmp .eq 29, 3, [92], .null)), (66, (.aload_n 2, 1, [], .null)), (67, (.getfield 54, 3, [4, 10, 288], .null)), (70, (.iload 4, 2, [], .null)), (72, (.iaload, 1, [], .null)), (73, (.iconst 2, 1, [], .null)), (74, (.if_icmp .eq 14, 3, [88], .null)), (77, (.aload_n 2, 1, [], .null)), (78, (.getfield 54, 3, [4, 10, 288], .null)), (81, (.iload 4, 2, [], .null)), (83, (.iaload, 1, [], .null)), (84, (.iconst 3, 1, [], .null)), (85, (.if_icmp .ne 7, 3, [92], .null)), (88, (.iconst 1, 1, [], .null)), (89, (.goto 4, 3, [93], .null))]),
  (121, [(92, (.iconst 0, 1, [], .null)), (93, (.istore 5, 2, [], .null)), (95, (.iload_n 3, 1, [], .null)), (96, (.ifCond .ne 14, 3, [110], .null)), (99, (.iload 5, 2, [], .null)), (101, (.ifCond .ne 9, 3, [110], .null)), (104, (.aload_n 1, 1, [], .null)), (105, (.iconst 3, 1, [], .null)), (106, (.invokevirtual 41, 3, [1, 78, 1, 8, 1078, 678, 677], .null)), (109, (.ireturn, 1, [], .null)), (110, (.aload_n 0, 1, [], .null)), (111, (.getfield 21, 3, [0, 3, 513], .null)), (114, (.bipush 40, 2, [], .null)), (116, (.if_icmp .lt 9, 3, [125], .null)), (119, (.aload_n 1, 1, [], .null)), (120, (.iconst 4, 1, [], .null))]),
  (153, [(121, (.invokevirtual 41, 3, [1, 78, 1, 8, 1078, 678, 677], .null)), (124, (.ireturn, 1, [], .null)), (125, (.aload_n 1, 1, [], .null)), (126, (.getfield 57, 3, [8, 7, 199], .null)), (129, (.istore 6, 2, [], .null)), (131, (.aload_n 1, 1, [], .null)), (132, (.invokevirtual 60, 3, [1, 74, 0, 8, 1080, 648, 647], .null)), (135, (.iload 5, 2, [], .null)), (137, (.ifCond .eq 50, 3, [187], .null)), (140, (.aload_n 0, 1, [], .null)), (141, (.getfield 15, 3, [0, 1, 511], .null)), (144, (.aload_n 0, 1, [], .null)), (145, (.getfield 21, 3, [0, 3, 513], .null)), (148, (.aload_n 2, 1, [], .null)), (149, (.getfield 63, 3, [4, 11, 291], .null)), (152, (.iload 4, 2, [], .null))]),
  (183, [(154, (.iaload, 1, [], .null)), (155, (.iastore, 1, [], .null)), (156, (.aload_n 2, 1, [], .null)), (157, (.getfield 54, 3, [4, 10, 288], .null)), (160, (.iload 4, 2, [], .null)), (162, (.iaload, 1, [], .null)), (163, (.iconst 2, 1, [], .null)), (164, (.if_icmp .ne 8, 3, [172], .null)), (167, (.bipush 9, 2, [], .null)), (169, (.goto 5, 3, [174], .null)), (172, (.bipush 11, 2, [], .null)), (174, (.istore 6, 2, [], .null)), (176, (.aload_n 1, 1, [], .null)), (177, (.iload 6, 2, [], .null)), (179, (.invokevirtual 66, 3, [1, 81, 1, 8, 1081, 1083, 1082], .null)), (182, (.ifCond .ne 5, 3, [187], .null))]),
  (211, [(185, (.iconst 0, 1, [], .null)), (186, (.ireturn, 1, [], .null)), (187, (.aload_n 0, 1, [], .null)), (188, (.getfield 9, 3, [0, 0, 510], .null)), (191, (.aload_n 0, 1, [], .null)), (192, (.getfield 21, 3, [0, 3, 513], .null)), (195, (.iload 6, 2, [], .null)), (197, (.iastore, 1, [], .null)), (198, (.aload_n 0, 1, [], .null)), (199, (.getfield 18, 3, [0, 2, 512], .null)), (202, (.aload_n 0, 1, [], .null)), (203, (.getfield 21, 3, [0, 3, 513], .null)), (206, (.aload_n 1, 1, [], .null)), (207, (.aload_n 2, 1, [], .null)), (208, (.iload 6, 2, [], .null)), (210, (.invokestatic 69, 3, [3, 3, 3, 0, 1086, 1087], .null))]),
  (233, [(213, (.iastore, 1, [], .null)), (214, (.aload_n 0, 1, [], .null)), (215, (.getfield 18, 3, [0, 2, 512], .null)), (218, (.aload_n 0, 1, [], .null)), (219, (.getfield 21, 3, [0, 3, 513], .null)), (222, (.iaload, 1, [], .null)), (223, (.iconst (-1), 1, [], .null)), (224, (.if_icmp .eq 7, 3, [231], .null)), (227, (.iconst 1, 1, [], .null)), (228, (.goto 4, 3, [232], .null)), (231, (.iconst 0, 1, [], .null)), (232, (.ireturn, 1, [], .null))])])
def md_3 : ri_M × ri_T := ((yX0_readWhat, cX0_readWhat, 3, (some .int), RX0, 0, 0), [
  (47, [(0, (.iload_n 2, 1, [], .null)), (1, (.tableswitch 49 9 11 #[27, 34, 41], 27, [50, 28, 35, 42], .null)), (28, (.aload_n 0, 1, [], .null)), (29, (.aload_n 1, 1, [], .null)), (30, (.iconst 1, 1, [], .null)), (31, (.invokevirtual 73, 3, [1, 84, 2, 8, 1089, 698, 697], .null)), (34, (.ireturn, 1, [], .null)), (35, (.aload_n 0, 1, [], .null)), (36, (.aload_n 1, 1, [], .null)), (37, (.iconst 0, 1, [], .null)), (38, (.invokevirtual 73, 3, [1, 84, 2, 8, 1089, 698, 697], .null)), (41, (.ireturn, 1, [], .null)), (42, (.aload_n 0, 1, [], .null)), (43, (.iconst 0, 1, [], .null)), (44, (.bipush 7, 2, [], .null)), (46, (.invokevirtual 77, 3, [1, 83, 2, 8, 1090, 708, 707], .null))]),
  (58, [(49, (.ireturn, 1, [], .null)), (50, (.aload_n 0, 1, [], .null)), (51, (.iconst 1, 1, [], .null)), (52, (.bipush 60, 2, [], .null)), (54, (.invokevirtual 77, 3, [1, 83, 2, 8, 1090, 708, 707], .null)), (57, (.ireturn, 1, [], .null))])])
def md_4 : ri_M × ri_T := ((yX0_liveLines, cX0_liveLines, 6, (some .int), RX0, 0, 0), [
  (29, [(0, (.iconst 0, 1, [], .null)), (1, (.istore 4, 2, [], .null)), (3, (.iconst 0, 1, [], .null)), (4, (.istore 5, 2, [], .null)), (6, (.iload 5, 2, [], .null)), (8, (.aload_n 0, 1, [], .null)), (9, (.getfield 21, 3, [0, 3, 513], .null)), (12, (.if_icmp .ge 29, 3, [41], .null)), (15, (.iload 4, 2, [], .null)), (17, (.ifCond .ne 24, 3, [41], .null)), (20, (.aload_n 0, 1, [], .null)), (21, (.aload_n 1, 1, [], .null)), (22, (.aload_n 2, 1, [], .null)), (23, (.iload 5, 2, [], .null)), (25, (.invokevirtual 81, 3, [1, 5, 3, 0, 1096, 24, 1098], .null)), (28, (.istore 4, 2, [], .null))]),
  (55, [(30, (.iload 4, 2, [], .null)), (32, (.ifCond .ne (-26), 3, [6], .null)), (35, (.iinc 5 1, 3, [], .null)), (38, (.goto (-32), 3, [6], .null)), (41, (.aload_n 3, 1, [], .null)), (42, (.iconst 0, 1, [], .null)), (43, (.iload 4, 2, [], .null)), (45, (.iastore, 1, [], .null)), (46, (.aload_n 3, 1, [], .null)), (47, (.iconst 1, 1, [], .null)), (48, (.iload 5, 2, [], .null)), (50, (.iastore, 1, [], .null)), (51, (.aload_n 3, 1, [], .null)), (52, (.iconst 2, 1, [], .null)), (53, (.aload_n 2, 1, [], .null)), (54, (.getfield 85, 3, [6, 0, 383], .null))]),
  (77, [(57, (.iastore, 1, [], .null)), (58, (.aload_n 3, 1, [], .null)), (59, (.iconst 3, 1, [], .null)), (60, (.aload_n 2, 1, [], .null)), (61, (.getfield 90, 3, [6, 3, 390], .null)), (64, (.iastore, 1, [], .null)), (65, (.iload 4, 2, [], .null)), (67, (.ifCond .ne 7, 3, [74], .null)), (70, (.iconst (-1), 1, [], .null)), (71, (.goto 5, 3, [76], .null)), (74, (.iload 5, 2, [], .null)), (76, (.ireturn, 1, [], .null))])])
def md_5 : ri_M × ri_T := ((yX0_liveLine, cX0_liveLine, 4, (some .int), RX0, 0, 0), [
  (47, [(0, (.aload_n 0, 1, [], .null)), (1, (.getfield 9, 3, [0, 0, 510], .null)), (4, (.iload_n 3, 1, [], .null)), (5, (.iaload, 1, [], .null)), (6, (.tableswitch 74 9 11 #[26, 44, 56], 26, [80, 32, 50, 62], .null)), (32, (.aload_n 1, 1, [], .null)), (33, (.aload_n 2, 1, [], .null)), (34, (.aload_n 0, 1, [], .null)), (35, (.getfield 15, 3, [0, 1, 511], .null)), (38, (.iload_n 3, 1, [], .null)), (39, (.iaload, 1, [], .null)), (40, (.aload_n 0, 1, [], .null)), (41, (.getfield 18, 3, [0, 2, 512], .null)), (44, (.iload_n 3, 1, [], .null)), (45, (.iaload, 1, [], .null)), (46, (.invokestatic 93, 3, [3, 6, 4, 0, 1100, 1101], .null))]),
  (71, [(49, (.ireturn, 1, [], .null)), (50, (.aload_n 1, 1, [], .null)), (51, (.aload_n 2, 1, [], .null)), (52, (.aload_n 0, 1, [], .null)), (53, (.getfield 18, 3, [0, 2, 512], .null)), (56, (.iload_n 3, 1, [], .null)), (57, (.iaload, 1, [], .null)), (58, (.invokestatic 97, 3, [3, 7, 3, 0, 1105, 1106], .null)), (61, (.ireturn, 1, [], .null)), (62, (.aload_n 1, 1, [], .null)), (63, (.aload_n 2, 1, [], .null)), (64, (.aload_n 0, 1, [], .null)), (65, (.getfield 15, 3, [0, 1, 511], .null)), (68, (.iload_n 3, 1, [], .null)), (69, (.iaload, 1, [], .null)), (70, (.aload_n 0, 1, [], .null))]),
  (92, [(71, (.getfield 18, 3, [0, 2, 512], .null)), (74, (.iload_n 3, 1, [], .null)), (75, (.iaload, 1, [], .null)), (76, (.invokestatic 100, 3, [3, 8, 4, 0, 1110, 1111], .null)), (79, (.ireturn, 1, [], .null)), (80, (.aload_n 1, 1, [], .null)), (81, (.aload_n 2, 1, [], .null)), (82, (.aload_n 0, 1, [], .null)), (83, (.getfield 18, 3, [0, 2, 512], .null)), (86, (.iload_n 3, 1, [], .null)), (87, (.iaload, 1, [], .null)), (88, (.invokestatic 103, 3, [3, 9, 3, 0, 1116, 1117], .null)), (91, (.ireturn, 1, [], .null))])])
def md_6 : ri_M × ri_T := ((yX0_liveShow, cX0_liveShow, 5, (some .int), RX0, 0, 0), [
  (22, [(0, (.aload_n 1, 1, [], .null)), (1, (.aload_n 0, 1, [], .null)), (2, (.iload_n 3, 1, [], .null)), (3, (.invokevirtual 106, 3, [1, 57, 2, 6, 1103, 805, 804], .null)), (6, (.istore 4, 2, [], .null)), (8, (.iload 4, 2, [], .null)), (10, (.ifCond .ne 9, 3, [19], .null)), (13, (.aload_n 1, 1, [], .null)), (14, (.iload_n 2, 1, [], .null)), (15, (.iload_n 3, 1, [], .null)), (16, (.invokevirtual 109, 3, [1, 58, 2, 6, 1104, 820, 819], .null)), (19, (.iload 4, 2, [], .null)), (21, (.ireturn, 1, [], .null))])])
def md_7 : ri_M × ri_T := ((yX0_liveRing, cX0_liveRing, 4, (some .int), RX0, 0, 0), [
  (23, [(0, (.aload_n 1, 1, [], .null)), (1, (.aload_n 0, 1, [], .null)), (2, (.invokevirtual 113, 3, [1, 59, 1, 6, 1108, 828, 827], .null)), (5, (.istore_n 3, 1, [], .null)), (6, (.iload_n 3, 1, [], .null)), (7, (.ifCond .eq 8, 3, [15], .null)), (10, (.bipush 10, 2, [], .null)), (12, (.iload_n 3, 1, [], .null)), (13, (.iadd, 1, [], .null)), (14, (.ireturn, 1, [], .null)), (15, (.aload_n 1, 1, [], .null)), (16, (.aload_n 0, 1, [], .null)), (17, (.iload_n 2, 1, [], .null)), (18, (.invokevirtual 117, 3, [1, 60, 2, 6, 1109, 832, 831], .null)), (21, (.iconst 0, 1, [], .null)), (22, (.ireturn, 1, [], .null))])])
def md_8 : ri_M × ri_T := ((yX0_liveSail, cX0_liveSail, 5, (some .int), RX0, 0, 0), [
  (28, [(0, (.aload_n 0, 1, [], .null)), (1, (.iload_n 3, 1, [], .null)), (2, (.invokevirtual 121, 3, [1, 27, 1, 4, 1113, 781, 780], .null)), (5, (.ifCond .ne 6, 3, [11], .null)), (8, (.bipush 29, 2, [], .null)), (10, (.ireturn, 1, [], .null)), (11, (.aload_n 1, 1, [], .null)), (12, (.aload_n 0, 1, [], .null)), (13, (.iload_n 2, 1, [], .null)), (14, (.iload_n 3, 1, [], .null)), (15, (.invokevirtual 124, 3, [1, 61, 3, 6, 1114, 851, 850], .null)), (18, (.istore 4, 2, [], .null)), (20, (.iload 4, 2, [], .null)), (22, (.ifCond .eq 9, 3, [31], .null)), (25, (.bipush 20, 2, [], .null)), (27, (.iload 4, 2, [], .null))]),
  (39, [(29, (.iadd, 1, [], .null)), (30, (.ireturn, 1, [], .null)), (31, (.aload_n 1, 1, [], .null)), (32, (.iload_n 2, 1, [], .null)), (33, (.iload_n 3, 1, [], .null)), (34, (.invokevirtual 128, 3, [1, 62, 2, 6, 1115, 856, 855], .null)), (37, (.iconst 0, 1, [], .null)), (38, (.ireturn, 1, [], .null))])])
def md_9 : ri_M × ri_T := ((yX0_liveDays, cX0_liveDays, 3, (some .int), RX0, 0, 0), [
  (19, [(0, (.aload_n 1, 1, [], .null)), (1, (.invokevirtual 131, 3, [1, 54, 0, 6, 1119, 864, 863], .null)), (4, (.iload_n 2, 1, [], .null)), (5, (.if_icmp .ge 6, 3, [11], .null)), (8, (.bipush 31, 2, [], .null)), (10, (.ireturn, 1, [], .null)), (11, (.aload_n 1, 1, [], .null)), (12, (.aload_n 0, 1, [], .null)), (13, (.iload_n 2, 1, [], .null)), (14, (.invokevirtual 135, 3, [1, 63, 2, 6, 1120, 869, 868], .null)), (17, (.iconst 0, 1, [], .null)), (18, (.ireturn, 1, [], .null))])])
def md_10 : ri_M × ri_T := ((yX1_init, cX1_init, 1, none, RX1, 0, 0), [
  (10, [(0, (.aload_n 0, 1, [], .null)), (1, (.invokespecial 3, 3, [0, 562], .null)), (4, (.aload_n 0, 1, [], .null)), (5, (.iconst 0, 1, [], .null)), (6, (.putfield 9, 3, [1, 0, 563, 0], .null)), (9, (.return_, 1, [], .null))])])
def md_11 : ri_M × ri_T := ((yX1_of, cX1_of, 2, (some .int), RX1, 0, 0), [
  (28, [(0, (.aload_n 0, 1, [], .null)), (1, (.aload_n 0, 1, [], .null)), (2, (.getfield 9, 3, [1, 0, 563], .null)), (5, (.ldc 15, 2, [1051], .int 1103515245)), (7, (.imul, 1, [], .null)), (8, (.sipush 12345, 3, [], .null)), (11, (.iadd, 1, [], .null)), (12, (.putfield 9, 3, [1, 0, 563, 0], .null)), (15, (.iload_n 1, 1, [], .null)), (16, (.ifCond .le 15, 3, [31], .null)), (19, (.aload_n 0, 1, [], .null)), (20, (.getfield 9, 3, [1, 0, 563], .null)), (23, (.bipush 8, 2, [], .null)), (25, (.iushr, 1, [], .null)), (26, (.iload_n 1, 1, [], .null)), (27, (.irem, 1, [], .null))]),
  (33, [(28, (.goto 4, 3, [32], .null)), (31, (.iconst 0, 1, [], .null)), (32, (.ireturn, 1, [], .null))])])
def md_12 : ri_M × ri_T := ((yX1_liveDrawn, cX1_liveDrawn, 6, none, RX1, 0, 0), [
  (28, [(0, (.aload_n 0, 1, [], .null)), (1, (.iload 4, 2, [], .null)), (3, (.putfield 9, 3, [1, 0, 563, 0], .null)), (6, (.iconst 0, 1, [], .null)), (7, (.istore 5, 2, [], .null)), (9, (.iload 5, 2, [], .null)), (11, (.iload_n 3, 1, [], .null)), (12, (.if_icmp .ge 15, 3, [27], .null)), (15, (.aload_n 0, 1, [], .null)), (16, (.aload_n 1, 1, [], .null)), (17, (.aload_n 2, 1, [], .null)), (18, (.invokevirtual 16, 3, [1, 13, 2, 1, 1043, 21, 1045], .null)), (21, (.iinc 5 1, 3, [], .null)), (24, (.goto (-15), 3, [9], .null)), (27, (.return_, 1, [], .null))])])
def md_13 : ri_M × ri_T := ((yX1_drawDay, cX1_drawDay, 5, none, RX1, 0, 0), [
  (26, [(0, (.iconst 0, 1, [], .null)), (1, (.istore_n 3, 1, [], .null)), (2, (.iload_n 3, 1, [], .null)), (3, (.aload_n 1, 1, [], .null)), (4, (.getfield 20, 3, [4, 2, 264], .null)), (7, (.iconst 2, 1, [], .null)), (8, (.iaload, 1, [], .null)), (9, (.if_icmp .ge 46, 3, [55], .null)), (12, (.aload_n 0, 1, [], .null)), (13, (.iconst 2, 1, [], .null)), (14, (.invokevirtual 26, 3, [1, 11, 1, 1, 1047, 22, 1049], .null)), (17, (.ifCond .ne 32, 3, [49], .null)), (20, (.aload_n 0, 1, [], .null)), (21, (.aload_n 1, 1, [], .null)), (22, (.getfield 20, 3, [4, 2, 264], .null)), (25, (.iconst 1, 1, [], .null))]),
  (57, [(26, (.iaload, 1, [], .null)), (27, (.invokevirtual 26, 3, [1, 11, 1, 1, 1047, 22, 1049], .null)), (30, (.istore 4, 2, [], .null)), (32, (.aload_n 2, 1, [], .null)), (33, (.aload_n 1, 1, [], .null)), (34, (.iload 4, 2, [], .null)), (36, (.invokevirtual 30, 3, [1, 57, 2, 6, 1052, 805, 804], .null)), (39, (.ifCond .ne 10, 3, [49], .null)), (42, (.aload_n 2, 1, [], .null)), (43, (.iload_n 3, 1, [], .null)), (44, (.iload 4, 2, [], .null)), (46, (.invokevirtual 36, 3, [1, 58, 2, 6, 1053, 820, 819], .null)), (49, (.iinc 3 1, 3, [], .null)), (52, (.goto (-50), 3, [2], .null)), (55, (.aload_n 0, 1, [], .null)), (56, (.iconst 3, 1, [], .null))]),
  (85, [(57, (.invokevirtual 26, 3, [1, 11, 1, 1, 1047, 22, 1049], .null)), (60, (.ifCond .ne 28, 3, [88], .null)), (63, (.aload_n 0, 1, [], .null)), (64, (.aload_n 1, 1, [], .null)), (65, (.getfield 20, 3, [4, 2, 264], .null)), (68, (.iconst 0, 1, [], .null)), (69, (.iaload, 1, [], .null)), (70, (.invokevirtual 26, 3, [1, 11, 1, 1, 1047, 22, 1049], .null)), (73, (.istore_n 3, 1, [], .null)), (74, (.aload_n 2, 1, [], .null)), (75, (.aload_n 1, 1, [], .null)), (76, (.invokevirtual 40, 3, [1, 59, 1, 6, 1054, 828, 827], .null)), (79, (.ifCond .ne 9, 3, [88], .null)), (82, (.aload_n 2, 1, [], .null)), (83, (.aload_n 1, 1, [], .null)), (84, (.iload_n 3, 1, [], .null))]),
  (95, [(85, (.invokevirtual 44, 3, [1, 60, 2, 6, 1055, 832, 831], .null)), (88, (.aload_n 2, 1, [], .null)), (89, (.aload_n 1, 1, [], .null)), (90, (.iconst 1, 1, [], .null)), (91, (.invokevirtual 48, 3, [1, 63, 2, 6, 1056, 869, 868], .null)), (94, (.return_, 1, [], .null))])])
def md_14 : ri_M × ri_T := ((yX2_init, cX2_init, 1, none, RX2, 3, 518), [
  (28, [(0, (.aload_n 0, 1, [], .null)), (1, (.invokespecial 3, 3, [0, 528], .null)), (4, (.aload_n 0, 1, [], .null)), (5, (.iconst (-1), 1, [], .null)), (6, (.putfield 9, 3, [2, 0, 529, 0], .null)), (9, (.aload_n 0, 1, [], .null)), (10, (.iconst (-1), 1, [], .null)), (11, (.putfield 15, 3, [2, 1, 531, 0], .null)), (14, (.aload_n 0, 1, [], .null)), (15, (.iconst (-1), 1, [], .null)), (16, (.putfield 18, 3, [2, 2, 533, 0], .null)), (19, (.aload_n 0, 1, [], .null)), (20, (.bipush 6, 2, [], .null)), (22, (.newarray .int, 2, [321], .null)), (24, (.putfield 21, 3, [2, 3, 535, 3], .null)), (27, (.aload_n 0, 1, [], .null))]),
  (56, [(28, (.iconst 0, 1, [], .null)), (29, (.putfield 25, 3, [2, 4, 536, 1], .null)), (32, (.aload_n 0, 1, [], .null)), (33, (.sipush 256, 3, [], .null)), (36, (.newarray .int, 2, [321], .null)), (38, (.putfield 29, 3, [2, 5, 537, 3], .null)), (41, (.aload_n 0, 1, [], .null)), (42, (.iconst 0, 1, [], .null)), (43, (.putfield 32, 3, [2, 6, 538, 0], .null)), (46, (.aload_n 0, 1, [], .null)), (47, (.sipush 256, 3, [], .null)), (50, (.newarray .int, 2, [321], .null)), (52, (.putfield 35, 3, [2, 7, 539, 3], .null)), (55, (.return_, 1, [], .null))])])
def md_15 : ri_M × ri_T := ((yX2_judge, cX2_judge, 4, (some .int), RX2, 0, 0), [
  (26, [(0, (.aload_n 0, 1, [], .null)), (1, (.aload_n 1, 1, [], .null)), (2, (.aload_n 2, 1, [], .null)), (3, (.iload_n 3, 1, [], .null)), (4, (.invokevirtual 38, 3, [1, 16, 3, 2, 930, 13, 932], .null)), (7, (.ifCond .ne 5, 3, [12], .null)), (10, (.iconst (-1), 1, [], .null)), (11, (.ireturn, 1, [], .null)), (12, (.aload_n 0, 1, [], .null)), (13, (.aload_n 1, 1, [], .null)), (14, (.invokevirtual 42, 3, [1, 17, 1, 2, 943, 14, 945], .null)), (17, (.aload_n 0, 1, [], .null)), (18, (.getfield 32, 3, [2, 6, 538], .null)), (21, (.ifCond .le 13, 3, [34], .null)), (24, (.aload_n 0, 1, [], .null)), (25, (.aload_n 1, 1, [], .null))]),
  (39, [(26, (.invokevirtual 46, 3, [1, 19, 1, 2, 952, 16, 954], .null)), (29, (.aload_n 0, 1, [], .null)), (30, (.aload_n 1, 1, [], .null)), (31, (.invokevirtual 49, 3, [1, 20, 1, 2, 956, 17, 958], .null)), (34, (.aload_n 0, 1, [], .null)), (35, (.getfield 32, 3, [2, 6, 538], .null)), (38, (.ireturn, 1, [], .null))])])
def md_16 : ri_M × ri_T := ((yX2_listen, cX2_listen, 8, (some .boolean), RX2, 0, 0), [
  (26, [(0, (.iconst 1, 1, [], .null)), (1, (.aload_n 1, 1, [], .null)), (2, (.getfield 52, 3, [4, 0, 255], .null)), (5, (.iconst 0, 1, [], .null)), (6, (.iaload, 1, [], .null)), (7, (.iadd, 1, [], .null)), (8, (.istore 4, 2, [], .null)), (10, (.iload_n 3, 1, [], .null)), (11, (.ifCond .eq 21, 3, [32], .null)), (14, (.iload_n 3, 1, [], .null)), (15, (.aload_n 2, 1, [], .null)), (16, (.arraylength, 1, [], .null)), (17, (.if_icmp .gt 15, 3, [32], .null)), (20, (.iload 4, 2, [], .null)), (22, (.ifCond .le 10, 3, [32], .null)), (25, (.iload_n 3, 1, [], .null))]),
  (54, [(26, (.iload 4, 2, [], .null)), (28, (.irem, 1, [], .null)), (29, (.ifCond .eq 5, 3, [34], .null)), (32, (.iconst 0, 1, [], .null)), (33, (.ireturn, 1, [], .null)), (34, (.aload_n 0, 1, [], .null)), (35, (.iconst 0, 1, [], .null)), (36, (.putfield 25, 3, [2, 4, 536, 1], .null)), (39, (.iconst 0, 1, [], .null)), (40, (.istore 5, 2, [], .null)), (42, (.iload 5, 2, [], .null)), (44, (.bipush 6, 2, [], .null)), (46, (.if_icmp .ge 17, 3, [63], .null)), (49, (.aload_n 0, 1, [], .null)), (50, (.getfield 21, 3, [2, 3, 535], .null)), (53, (.iload 5, 2, [], .null))]),
  (81, [(55, (.iconst (-1), 1, [], .null)), (56, (.iastore, 1, [], .null)), (57, (.iinc 5 1, 3, [], .null)), (60, (.goto (-18), 3, [42], .null)), (63, (.iconst 0, 1, [], .null)), (64, (.istore 5, 2, [], .null)), (66, (.iload 5, 2, [], .null)), (68, (.iload_n 3, 1, [], .null)), (69, (.if_icmp .ge 100, 3, [169], .null)), (72, (.aload_n 2, 1, [], .null)), (73, (.iload 5, 2, [], .null)), (75, (.baload, 1, [], .null)), (76, (.istore 6, 2, [], .null)), (78, (.aload_n 1, 1, [], .null)), (79, (.iconst 0, 1, [], .null)), (80, (.iload 6, 2, [], .null))]),
  (108, [(82, (.invokevirtual 57, 3, [1, 26, 2, 4, 934, 769, 768], .null)), (85, (.ifCond .eq 15, 3, [100], .null)), (88, (.aload_n 1, 1, [], .null)), (89, (.aload_n 2, 1, [], .null)), (90, (.iload 5, 2, [], .null)), (92, (.iconst 1, 1, [], .null)), (93, (.iadd, 1, [], .null)), (94, (.invokevirtual 61, 3, [1, 36, 2, 4, 935, 937, 936], .null)), (97, (.ifCond .ne 5, 3, [102], .null)), (100, (.iconst 0, 1, [], .null)), (101, (.ireturn, 1, [], .null)), (102, (.aload_n 1, 1, [], .null)), (103, (.aload_n 2, 1, [], .null)), (104, (.iload 5, 2, [], .null)), (106, (.iconst 1, 1, [], .null)), (107, (.iadd, 1, [], .null))]),
  (137, [(108, (.invokevirtual 65, 3, [1, 37, 2, 4, 939, 941, 940], .null)), (111, (.istore 7, 2, [], .null)), (113, (.aload_n 0, 1, [], .null)), (114, (.dup, 1, [], .null)), (115, (.getfield 25, 3, [2, 4, 536], .null)), (118, (.aload_n 0, 1, [], .null)), (119, (.getfield 21, 3, [2, 3, 535], .null)), (122, (.iload 6, 2, [], .null)), (124, (.iaload, 1, [], .null)), (125, (.iconst (-1), 1, [], .null)), (126, (.if_icmp .eq 19, 3, [145], .null)), (129, (.aload_n 0, 1, [], .null)), (130, (.getfield 21, 3, [2, 3, 535], .null)), (133, (.iload 6, 2, [], .null)), (135, (.iaload, 1, [], .null)), (136, (.iload 7, 2, [], .null))]),
  (167, [(138, (.if_icmp .eq 7, 3, [145], .null)), (141, (.iconst 1, 1, [], .null)), (142, (.goto 4, 3, [146], .null)), (145, (.iconst 0, 1, [], .null)), (146, (.ior, 1, [], .null)), (147, (.putfield 25, 3, [2, 4, 536, 1], .null)), (150, (.aload_n 0, 1, [], .null)), (151, (.getfield 21, 3, [2, 3, 535], .null)), (154, (.iload 6, 2, [], .null)), (156, (.iload 7, 2, [], .null)), (158, (.iastore, 1, [], .null)), (159, (.iload 5, 2, [], .null)), (161, (.iload 4, 2, [], .null)), (163, (.iadd, 1, [], .null)), (164, (.istore 5, 2, [], .null)), (166, (.goto (-100), 3, [66], .null))]),
  (171, [(169, (.iconst 1, 1, [], .null)), (170, (.ireturn, 1, [], .null))])])
def md_17 : ri_M × ri_T := ((yX2_findSets, cX2_findSets, 3, none, RX2, 0, 0), [
  (24, [(0, (.aload_n 0, 1, [], .null)), (1, (.iconst 0, 1, [], .null)), (2, (.putfield 32, 3, [2, 6, 538, 0], .null)), (5, (.iconst 0, 1, [], .null)), (6, (.istore_n 2, 1, [], .null)), (7, (.iload_n 2, 1, [], .null)), (8, (.iconst 1, 1, [], .null)), (9, (.aload_n 1, 1, [], .null)), (10, (.getfield 69, 3, [4, 2, 265], .null)), (13, (.iconst 1, 1, [], .null)), (14, (.iaload, 1, [], .null)), (15, (.ishl, 1, [], .null)), (16, (.if_icmp .ge 55, 3, [71], .null)), (19, (.aload_n 0, 1, [], .null)), (20, (.getfield 25, 3, [2, 4, 536], .null)), (23, (.ifCond .ne 48, 3, [71], .null))]),
  (56, [(26, (.aload_n 0, 1, [], .null)), (27, (.aload_n 1, 1, [], .null)), (28, (.iload_n 2, 1, [], .null)), (29, (.invokevirtual 72, 3, [1, 18, 2, 2, 947, 15, 949], .null)), (32, (.ifCond .eq 33, 3, [65], .null)), (35, (.aload_n 0, 1, [], .null)), (36, (.getfield 32, 3, [2, 6, 538], .null)), (39, (.sipush 256, 3, [], .null)), (42, (.if_icmp .ge 23, 3, [65], .null)), (45, (.aload_n 0, 1, [], .null)), (46, (.getfield 29, 3, [2, 5, 537], .null)), (49, (.aload_n 0, 1, [], .null)), (50, (.getfield 32, 3, [2, 6, 538], .null)), (53, (.iload_n 2, 1, [], .null)), (54, (.iastore, 1, [], .null)), (55, (.aload_n 0, 1, [], .null))]),
  (72, [(56, (.dup, 1, [], .null)), (57, (.getfield 32, 3, [2, 6, 538], .null)), (60, (.iconst 1, 1, [], .null)), (61, (.iadd, 1, [], .null)), (62, (.putfield 32, 3, [2, 6, 538, 0], .null)), (65, (.iinc 2 1, 3, [], .null)), (68, (.goto (-61), 3, [7], .null)), (71, (.return_, 1, [], .null))])])
def md_18 : ri_M × ri_T := ((yX2_explains, cX2_explains, 4, (some .boolean), RX2, 0, 0), [
  (24, [(0, (.iconst 0, 1, [], .null)), (1, (.istore_n 3, 1, [], .null)), (2, (.iload_n 3, 1, [], .null)), (3, (.aload_n 1, 1, [], .null)), (4, (.getfield 69, 3, [4, 2, 265], .null)), (7, (.iconst 0, 1, [], .null)), (8, (.iaload, 1, [], .null)), (9, (.if_icmp .ge 36, 3, [45], .null)), (12, (.aload_n 0, 1, [], .null)), (13, (.getfield 21, 3, [2, 3, 535], .null)), (16, (.iload_n 3, 1, [], .null)), (17, (.iaload, 1, [], .null)), (18, (.iconst (-1), 1, [], .null)), (19, (.if_icmp .eq 20, 3, [39], .null)), (22, (.aload_n 1, 1, [], .null)), (23, (.iload_n 3, 1, [], .null))]),
  (47, [(24, (.iload_n 2, 1, [], .null)), (25, (.invokevirtual 76, 3, [1, 33, 2, 4, 951, 836, 835], .null)), (28, (.aload_n 0, 1, [], .null)), (29, (.getfield 21, 3, [2, 3, 535], .null)), (32, (.iload_n 3, 1, [], .null)), (33, (.iaload, 1, [], .null)), (34, (.if_icmp .eq 5, 3, [39], .null)), (37, (.iconst 0, 1, [], .null)), (38, (.ireturn, 1, [], .null)), (39, (.iinc 3 1, 3, [], .null)), (42, (.goto (-40), 3, [2], .null)), (45, (.iconst 1, 1, [], .null)), (46, (.ireturn, 1, [], .null))])])
def md_19 : ri_M × ri_T := ((yX2_judgeLessons, cX2_judgeLessons, 4, none, RX2, 0, 0), [
  (22, [(0, (.iconst 1, 1, [], .null)), (1, (.aload_n 1, 1, [], .null)), (2, (.getfield 69, 3, [4, 2, 265], .null)), (5, (.iconst 1, 1, [], .null)), (6, (.iaload, 1, [], .null)), (7, (.ishl, 1, [], .null)), (8, (.iconst 1, 1, [], .null)), (9, (.isub, 1, [], .null)), (10, (.istore_n 2, 1, [], .null)), (11, (.aload_n 0, 1, [], .null)), (12, (.iload_n 2, 1, [], .null)), (13, (.putfield 9, 3, [2, 0, 529, 0], .null)), (16, (.aload_n 0, 1, [], .null)), (17, (.iload_n 2, 1, [], .null)), (18, (.putfield 15, 3, [2, 1, 531, 0], .null)), (21, (.iconst 0, 1, [], .null))]),
  (48, [(22, (.istore_n 3, 1, [], .null)), (23, (.iload_n 3, 1, [], .null)), (24, (.aload_n 0, 1, [], .null)), (25, (.getfield 32, 3, [2, 6, 538], .null)), (28, (.if_icmp .ge 41, 3, [69], .null)), (31, (.aload_n 0, 1, [], .null)), (32, (.dup, 1, [], .null)), (33, (.getfield 9, 3, [2, 0, 529], .null)), (36, (.aload_n 0, 1, [], .null)), (37, (.getfield 29, 3, [2, 5, 537], .null)), (40, (.iload_n 3, 1, [], .null)), (41, (.iaload, 1, [], .null)), (42, (.iand, 1, [], .null)), (43, (.putfield 9, 3, [2, 0, 529, 0], .null)), (46, (.aload_n 0, 1, [], .null)), (47, (.dup, 1, [], .null))]),
  (70, [(48, (.getfield 15, 3, [2, 1, 531], .null)), (51, (.aload_n 0, 1, [], .null)), (52, (.getfield 29, 3, [2, 5, 537], .null)), (55, (.iload_n 3, 1, [], .null)), (56, (.iaload, 1, [], .null)), (57, (.iconst (-1), 1, [], .null)), (58, (.ixor, 1, [], .null)), (59, (.iand, 1, [], .null)), (60, (.putfield 15, 3, [2, 1, 531, 0], .null)), (63, (.iinc 3 1, 3, [], .null)), (66, (.goto (-43), 3, [23], .null)), (69, (.return_, 1, [], .null))])])
def md_20 : ri_M × ri_T := ((yX2_judgeCues, cX2_judgeCues, 5, none, RX2, 0, 0), [
  (23, [(0, (.iconst 0, 1, [], .null)), (1, (.istore_n 2, 1, [], .null)), (2, (.iconst 0, 1, [], .null)), (3, (.istore_n 3, 1, [], .null)), (4, (.iload_n 3, 1, [], .null)), (5, (.aload_n 1, 1, [], .null)), (6, (.getfield 69, 3, [4, 2, 265], .null)), (9, (.iconst 0, 1, [], .null)), (10, (.iaload, 1, [], .null)), (11, (.if_icmp .ge 31, 3, [42], .null)), (14, (.aload_n 0, 1, [], .null)), (15, (.aload_n 1, 1, [], .null)), (16, (.iload_n 3, 1, [], .null)), (17, (.invokevirtual 80, 3, [1, 21, 2, 2, 960, 18, 962], .null)), (20, (.istore 4, 2, [], .null)), (22, (.iload 4, 2, [], .null))]),
  (43, [(24, (.iload_n 2, 1, [], .null)), (25, (.if_icmp .le 11, 3, [36], .null)), (28, (.iload 4, 2, [], .null)), (30, (.istore_n 2, 1, [], .null)), (31, (.aload_n 0, 1, [], .null)), (32, (.iload_n 3, 1, [], .null)), (33, (.putfield 18, 3, [2, 2, 533, 0], .null)), (36, (.iinc 3 1, 3, [], .null)), (39, (.goto (-35), 3, [4], .null)), (42, (.return_, 1, [], .null))])])
def md_21 : ri_M × ri_T := ((yX2_countUnlike, cX2_countUnlike, 7, (some .int), RX2, 0, 0), [
  (27, [(0, (.iconst 0, 1, [], .null)), (1, (.istore_n 3, 1, [], .null)), (2, (.iconst 0, 1, [], .null)), (3, (.istore 4, 2, [], .null)), (5, (.iload 4, 2, [], .null)), (7, (.aload_n 0, 1, [], .null)), (8, (.getfield 32, 3, [2, 6, 538], .null)), (11, (.if_icmp .ge 67, 3, [78], .null)), (14, (.aload_n 1, 1, [], .null)), (15, (.iload_n 2, 1, [], .null)), (16, (.aload_n 0, 1, [], .null)), (17, (.getfield 29, 3, [2, 5, 537], .null)), (20, (.iload 4, 2, [], .null)), (22, (.iaload, 1, [], .null)), (23, (.invokevirtual 76, 3, [1, 33, 2, 4, 951, 836, 835], .null)), (26, (.istore 5, 2, [], .null))]),
  (59, [(28, (.iconst 0, 1, [], .null)), (29, (.istore 6, 2, [], .null)), (31, (.iload 6, 2, [], .null)), (33, (.iload_n 3, 1, [], .null)), (34, (.if_icmp .ge 21, 3, [55], .null)), (37, (.aload_n 0, 1, [], .null)), (38, (.getfield 35, 3, [2, 7, 539], .null)), (41, (.iload 6, 2, [], .null)), (43, (.iaload, 1, [], .null)), (44, (.iload 5, 2, [], .null)), (46, (.if_icmp .eq 9, 3, [55], .null)), (49, (.iinc 6 1, 3, [], .null)), (52, (.goto (-21), 3, [31], .null)), (55, (.iload 6, 2, [], .null)), (57, (.iload_n 3, 1, [], .null)), (58, (.if_icmp .ne 14, 3, [72], .null))]),
  (80, [(61, (.aload_n 0, 1, [], .null)), (62, (.getfield 35, 3, [2, 7, 539], .null)), (65, (.iload_n 3, 1, [], .null)), (66, (.iload 5, 2, [], .null)), (68, (.iastore, 1, [], .null)), (69, (.iinc 3 1, 3, [], .null)), (72, (.iinc 4 1, 3, [], .null)), (75, (.goto (-70), 3, [5], .null)), (78, (.iload_n 3, 1, [], .null)), (79, (.ireturn, 1, [], .null))])])
def md_22 : ri_M × ri_T := ((yX3_init, cX3_init, 1, none, RX3, 27, 442), [
  (32, [(0, (.aload_n 0, 1, [], .null)), (1, (.invokespecial 1, 3, [0, 480], .null)), (4, (.aload_n 0, 1, [], .null)), (5, (.new 7, 3, [4, 481, 240, 106], .null)), (8, (.dup, 1, [], .null)), (9, (.invokespecial 9, 3, [7, 23, 0, 4, 482, 242], .null)), (12, (.putfield 10, 3, [3, 0, 487, 3], .null)), (15, (.aload_n 0, 1, [], .null)), (16, (.new 16, 3, [6, 483, 377, 109], .null)), (19, (.dup, 1, [], .null)), (20, (.invokespecial 18, 3, [7, 50, 0, 6, 484, 379], .null)), (23, (.putfield 19, 3, [3, 1, 489, 3], .null)), (26, (.aload_n 0, 1, [], .null)), (27, (.new 23, 3, [9, 485, 340, 108], .null)), (30, (.dup, 1, [], .null)), (31, (.invokespecial 25, 3, [7, 85, 0, 9, 486, 342], .null))]),
  (43, [(34, (.putfield 26, 3, [3, 2, 491, 3], .null)), (37, (.aload_n 0, 1, [], .null)), (38, (.iconst 0, 1, [], .null)), (39, (.putfield 30, 3, [3, 3, 493, 1], .null)), (42, (.return_, 1, [], .null))])])
def md_23 : ri_M × ri_T := ((yX4_init, cX4_init, 1, none, RX4, 11, 181), [
  (31, [(0, (.aload_n 0, 1, [], .null)), (1, (.invokespecial 3, 3, [0, 244], .null)), (4, (.aload_n 0, 1, [], .null)), (5, (.getstatic 9, 3, [1, 245], .null)), (8, (.invokevirtual 13, 3, [5, 247], .null)), (11, (.checkcast 14, 3, [253], .null)), (14, (.putfield 18, 3, [4, 0, 254, 3], .null)), (17, (.aload_n 0, 1, [], .null)), (18, (.iconst 0, 1, [], .null)), (19, (.putfield 23, 3, [4, 1, 259, 0], .null)), (22, (.aload_n 0, 1, [], .null)), (23, (.iconst 4, 1, [], .null)), (24, (.newarray .int, 2, [321], .null)), (26, (.putfield 27, 3, [4, 2, 262, 3], .null)), (29, (.aload_n 0, 1, [], .null)), (30, (.bipush 8, 2, [], .null))]),
  (63, [(32, (.newarray .int, 2, [321], .null)), (34, (.putfield 30, 3, [4, 3, 269, 3], .null)), (37, (.aload_n 0, 1, [], .null)), (38, (.bipush 6, 2, [], .null)), (40, (.newarray .int, 2, [321], .null)), (42, (.putfield 33, 3, [4, 4, 272, 3], .null)), (45, (.aload_n 0, 1, [], .null)), (46, (.bipush 8, 2, [], .null)), (48, (.newarray .int, 2, [321], .null)), (50, (.putfield 36, 3, [4, 5, 277, 3], .null)), (53, (.aload_n 0, 1, [], .null)), (54, (.bipush 64, 2, [], .null)), (56, (.newarray .int, 2, [321], .null)), (58, (.putfield 39, 3, [4, 6, 280, 3], .null)), (61, (.aload_n 0, 1, [], .null)), (62, (.bipush 8, 2, [], .null))]),
  (95, [(64, (.newarray .int, 2, [321], .null)), (66, (.putfield 42, 3, [4, 7, 282, 3], .null)), (69, (.aload_n 0, 1, [], .null)), (70, (.bipush 6, 2, [], .null)), (72, (.newarray .int, 2, [321], .null)), (74, (.putfield 45, 3, [4, 8, 283, 3], .null)), (77, (.aload_n 0, 1, [], .null)), (78, (.bipush 24, 2, [], .null)), (80, (.newarray .long, 2, [232], .null)), (82, (.putfield 48, 3, [4, 9, 286, 3], .null)), (85, (.aload_n 0, 1, [], .null)), (86, (.bipush 24, 2, [], .null)), (88, (.newarray .int, 2, [321], .null)), (90, (.putfield 52, 3, [4, 10, 287, 3], .null)), (93, (.aload_n 0, 1, [], .null)), (94, (.bipush 24, 2, [], .null))]),
  (107, [(96, (.newarray .int, 2, [321], .null)), (98, (.putfield 55, 3, [4, 11, 290, 3], .null)), (101, (.aload_n 0, 1, [], .null)), (102, (.iconst 0, 1, [], .null)), (103, (.putfield 58, 3, [4, 12, 293, 0], .null)), (106, (.return_, 1, [], .null))])])
def md_24 : ri_M × ri_T := ((yX4_clear, cX4_clear, 2, none, RX4, 0, 0), [
  (28, [(0, (.getstatic 9, 3, [1, 245], .null)), (3, (.iconst 0, 1, [], .null)), (4, (.aload_n 0, 1, [], .null)), (5, (.getfield 18, 3, [4, 0, 254], .null)), (8, (.iconst 0, 1, [], .null)), (9, (.aload_n 0, 1, [], .null)), (10, (.getfield 18, 3, [4, 0, 254], .null)), (13, (.arraylength, 1, [], .null)), (14, (.invokestatic 61, 3, [4, 669], .null)), (17, (.aload_n 0, 1, [], .null)), (18, (.iconst 0, 1, [], .null)), (19, (.putfield 23, 3, [4, 1, 259, 0], .null)), (22, (.aload_n 0, 1, [], .null)), (23, (.iconst 0, 1, [], .null)), (24, (.putfield 58, 3, [4, 12, 293, 0], .null)), (27, (.iconst 0, 1, [], .null))]),
  (54, [(28, (.istore_n 1, 1, [], .null)), (29, (.iload_n 1, 1, [], .null)), (30, (.aload_n 0, 1, [], .null)), (31, (.getfield 27, 3, [4, 2, 262], .null)), (34, (.arraylength, 1, [], .null)), (35, (.if_icmp .ge 16, 3, [51], .null)), (38, (.aload_n 0, 1, [], .null)), (39, (.getfield 27, 3, [4, 2, 262], .null)), (42, (.iload_n 1, 1, [], .null)), (43, (.iconst 0, 1, [], .null)), (44, (.iastore, 1, [], .null)), (45, (.iinc 1 1, 3, [], .null)), (48, (.goto (-19), 3, [29], .null)), (51, (.iconst 0, 1, [], .null)), (52, (.istore_n 1, 1, [], .null)), (53, (.iload_n 1, 1, [], .null))]),
  (82, [(54, (.bipush 6, 2, [], .null)), (56, (.if_icmp .ge 16, 3, [72], .null)), (59, (.aload_n 0, 1, [], .null)), (60, (.getfield 33, 3, [4, 4, 272], .null)), (63, (.iload_n 1, 1, [], .null)), (64, (.iconst 0, 1, [], .null)), (65, (.iastore, 1, [], .null)), (66, (.iinc 1 1, 3, [], .null)), (69, (.goto (-16), 3, [53], .null)), (72, (.iconst 0, 1, [], .null)), (73, (.istore_n 1, 1, [], .null)), (74, (.iload_n 1, 1, [], .null)), (75, (.bipush 8, 2, [], .null)), (77, (.if_icmp .ge 23, 3, [100], .null)), (80, (.aload_n 0, 1, [], .null)), (81, (.getfield 36, 3, [4, 5, 277], .null))]),
  (101, [(84, (.iload_n 1, 1, [], .null)), (85, (.iconst 0, 1, [], .null)), (86, (.iastore, 1, [], .null)), (87, (.aload_n 0, 1, [], .null)), (88, (.getfield 42, 3, [4, 7, 282], .null)), (91, (.iload_n 1, 1, [], .null)), (92, (.iconst 0, 1, [], .null)), (93, (.iastore, 1, [], .null)), (94, (.iinc 1 1, 3, [], .null)), (97, (.goto (-23), 3, [74], .null)), (100, (.return_, 1, [], .null))])])
def md_25 : ri_M × ri_T := ((yX4_copyFrom, cX4_copyFrom, 2, none, RX4, 0, 0), [
  (28, [(0, (.aload_n 1, 1, [], .null)), (1, (.getfield 18, 3, [4, 0, 254], .null)), (4, (.iconst 0, 1, [], .null)), (5, (.aload_n 0, 1, [], .null)), (6, (.getfield 18, 3, [4, 0, 254], .null)), (9, (.iconst 0, 1, [], .null)), (10, (.aload_n 0, 1, [], .null)), (11, (.getfield 18, 3, [4, 0, 254], .null)), (14, (.arraylength, 1, [], .null)), (15, (.invokestatic 61, 3, [4, 669], .null)), (18, (.aload_n 0, 1, [], .null)), (19, (.aload_n 1, 1, [], .null)), (20, (.getfield 23, 3, [4, 1, 259], .null)), (23, (.putfield 23, 3, [4, 1, 259, 0], .null)), (26, (.aload_n 1, 1, [], .null)), (27, (.getfield 27, 3, [4, 2, 262], .null))]),
  (57, [(30, (.iconst 0, 1, [], .null)), (31, (.aload_n 0, 1, [], .null)), (32, (.getfield 27, 3, [4, 2, 262], .null)), (35, (.iconst 0, 1, [], .null)), (36, (.aload_n 0, 1, [], .null)), (37, (.getfield 27, 3, [4, 2, 262], .null)), (40, (.arraylength, 1, [], .null)), (41, (.invokestatic 61, 3, [4, 669], .null)), (44, (.aload_n 1, 1, [], .null)), (45, (.getfield 30, 3, [4, 3, 269], .null)), (48, (.iconst 0, 1, [], .null)), (49, (.aload_n 0, 1, [], .null)), (50, (.getfield 30, 3, [4, 3, 269], .null)), (53, (.iconst 0, 1, [], .null)), (54, (.bipush 8, 2, [], .null)), (56, (.invokestatic 61, 3, [4, 669], .null))]),
  (87, [(59, (.aload_n 1, 1, [], .null)), (60, (.getfield 33, 3, [4, 4, 272], .null)), (63, (.iconst 0, 1, [], .null)), (64, (.aload_n 0, 1, [], .null)), (65, (.getfield 33, 3, [4, 4, 272], .null)), (68, (.iconst 0, 1, [], .null)), (69, (.bipush 6, 2, [], .null)), (71, (.invokestatic 61, 3, [4, 669], .null)), (74, (.aload_n 1, 1, [], .null)), (75, (.getfield 36, 3, [4, 5, 277], .null)), (78, (.iconst 0, 1, [], .null)), (79, (.aload_n 0, 1, [], .null)), (80, (.getfield 36, 3, [4, 5, 277], .null)), (83, (.iconst 0, 1, [], .null)), (84, (.bipush 8, 2, [], .null)), (86, (.invokestatic 61, 3, [4, 669], .null))]),
  (117, [(89, (.aload_n 1, 1, [], .null)), (90, (.getfield 39, 3, [4, 6, 280], .null)), (93, (.iconst 0, 1, [], .null)), (94, (.aload_n 0, 1, [], .null)), (95, (.getfield 39, 3, [4, 6, 280], .null)), (98, (.iconst 0, 1, [], .null)), (99, (.aload_n 0, 1, [], .null)), (100, (.getfield 39, 3, [4, 6, 280], .null)), (103, (.arraylength, 1, [], .null)), (104, (.invokestatic 61, 3, [4, 669], .null)), (107, (.aload_n 1, 1, [], .null)), (108, (.getfield 42, 3, [4, 7, 282], .null)), (111, (.iconst 0, 1, [], .null)), (112, (.aload_n 0, 1, [], .null)), (113, (.getfield 42, 3, [4, 7, 282], .null)), (116, (.iconst 0, 1, [], .null))]),
  (147, [(117, (.bipush 8, 2, [], .null)), (119, (.invokestatic 61, 3, [4, 669], .null)), (122, (.aload_n 1, 1, [], .null)), (123, (.getfield 45, 3, [4, 8, 283], .null)), (126, (.iconst 0, 1, [], .null)), (127, (.aload_n 0, 1, [], .null)), (128, (.getfield 45, 3, [4, 8, 283], .null)), (131, (.iconst 0, 1, [], .null)), (132, (.bipush 6, 2, [], .null)), (134, (.invokestatic 61, 3, [4, 669], .null)), (137, (.aload_n 1, 1, [], .null)), (138, (.getfield 48, 3, [4, 9, 286], .null)), (141, (.iconst 0, 1, [], .null)), (142, (.aload_n 0, 1, [], .null)), (143, (.getfield 48, 3, [4, 9, 286], .null)), (146, (.iconst 0, 1, [], .null))]),
  (177, [(147, (.bipush 24, 2, [], .null)), (149, (.invokestatic 61, 3, [4, 669], .null)), (152, (.aload_n 1, 1, [], .null)), (153, (.getfield 52, 3, [4, 10, 287], .null)), (156, (.iconst 0, 1, [], .null)), (157, (.aload_n 0, 1, [], .null)), (158, (.getfield 52, 3, [4, 10, 287], .null)), (161, (.iconst 0, 1, [], .null)), (162, (.bipush 24, 2, [], .null)), (164, (.invokestatic 61, 3, [4, 669], .null)), (167, (.aload_n 1, 1, [], .null)), (168, (.getfield 55, 3, [4, 11, 290], .null)), (171, (.iconst 0, 1, [], .null)), (172, (.aload_n 0, 1, [], .null)), (173, (.getfield 55, 3, [4, 11, 290], .null)), (176, (.iconst 0, 1, [], .null))]),
  (191, [(177, (.bipush 24, 2, [], .null)), (179, (.invokestatic 61, 3, [4, 669], .null)), (182, (.aload_n 0, 1, [], .null)), (183, (.aload_n 1, 1, [], .null)), (184, (.getfield 58, 3, [4, 12, 293], .null)), (187, (.putfield 58, 3, [4, 12, 293, 0], .null)), (190, (.return_, 1, [], .null))])])
def md_26 : ri_M × ri_T := ((yX4_has, cX4_has, 3, (some .boolean), RX4, 0, 0), [
  (20, [(0, (.iload_n 2, 1, [], .null)), (1, (.ifCond .lt 17, 3, [18], .null)), (4, (.iload_n 2, 1, [], .null)), (5, (.aload_n 0, 1, [], .null)), (6, (.getfield 27, 3, [4, 2, 262], .null)), (9, (.iload_n 1, 1, [], .null)), (10, (.iaload, 1, [], .null)), (11, (.if_icmp .ge 7, 3, [18], .null)), (14, (.iconst 1, 1, [], .null)), (15, (.goto 4, 3, [19], .null)), (18, (.iconst 0, 1, [], .null)), (19, (.ireturn, 1, [], .null))])])
def md_27 : ri_M × ri_T := ((yX4_hasCell, cX4_hasCell, 2, (some .boolean), RX4, 0, 0), [
  (20, [(0, (.iload_n 1, 1, [], .null)), (1, (.ifCond .lt 17, 3, [18], .null)), (4, (.iload_n 1, 1, [], .null)), (5, (.aload_n 0, 1, [], .null)), (6, (.getfield 18, 3, [4, 0, 254], .null)), (9, (.iconst 0, 1, [], .null)), (10, (.iaload, 1, [], .null)), (11, (.if_icmp .ge 7, 3, [18], .null)), (14, (.iconst 1, 1, [], .null)), (15, (.goto 4, 3, [19], .null)), (18, (.iconst 0, 1, [], .null)), (19, (.ireturn, 1, [], .null))])])
def md_28 : ri_M × ri_T := ((yX4_hasLessons, cX4_hasLessons, 2, (some .boolean), RX4, 0, 0), [
  (22, [(0, (.iload_n 1, 1, [], .null)), (1, (.ifCond .lt 19, 3, [20], .null)), (4, (.iload_n 1, 1, [], .null)), (5, (.iconst 1, 1, [], .null)), (6, (.aload_n 0, 1, [], .null)), (7, (.getfield 27, 3, [4, 2, 262], .null)), (10, (.iconst 1, 1, [], .null)), (11, (.iaload, 1, [], .null)), (12, (.ishl, 1, [], .null)), (13, (.if_icmp .ge 7, 3, [20], .null)), (16, (.iconst 1, 1, [], .null)), (17, (.goto 4, 3, [21], .null)), (20, (.iconst 0, 1, [], .null)), (21, (.ireturn, 1, [], .null))])])
def md_29 : ri_M × ri_T := ((yX4_find, cX4_find, 4, (some .int), RX4, 0, 0), [
  (24, [(0, (.iconst 0, 1, [], .null)), (1, (.istore_n 3, 1, [], .null)), (2, (.iload_n 3, 1, [], .null)), (3, (.aload_n 0, 1, [], .null)), (4, (.getfield 58, 3, [4, 12, 293], .null)), (7, (.if_icmp .ge 22, 3, [29], .null)), (10, (.aload_n 0, 1, [], .null)), (11, (.getfield 48, 3, [4, 9, 286], .null)), (14, (.iload_n 3, 1, [], .null)), (15, (.laload, 1, [], .null)), (16, (.lload_n 1, 1, [], .null)), (17, (.lcmp, 1, [], .null)), (18, (.ifCond .ne 5, 3, [23], .null)), (21, (.iload_n 3, 1, [], .null)), (22, (.ireturn, 1, [], .null)), (23, (.iinc 3 1, 3, [], .null))]),
  (31, [(26, (.goto (-24), 3, [2], .null)), (29, (.iconst (-1), 1, [], .null)), (30, (.ireturn, 1, [], .null))])])
def md_30 : ri_M × ri_T := ((yX4_addName, cX4_addName, 4, (some .int), RX4, 0, 0), [
  (27, [(0, (.aload_n 0, 1, [], .null)), (1, (.getfield 58, 3, [4, 12, 293], .null)), (4, (.bipush 24, 2, [], .null)), (6, (.if_icmp .ge 17, 3, [23], .null)), (9, (.aload_n 0, 1, [], .null)), (10, (.getfield 27, 3, [4, 2, 262], .null)), (13, (.iload_n 1, 1, [], .null)), (14, (.iaload, 1, [], .null)), (15, (.getstatic 67, 3, [2, 691], .null)), (18, (.iload_n 1, 1, [], .null)), (19, (.iaload, 1, [], .null)), (20, (.if_icmp .lt 5, 3, [25], .null)), (23, (.iconst (-1), 1, [], .null)), (24, (.ireturn, 1, [], .null)), (25, (.aload_n 0, 1, [], .null)), (26, (.getfield 48, 3, [4, 9, 286], .null))]),
  (55, [(29, (.aload_n 0, 1, [], .null)), (30, (.getfield 58, 3, [4, 12, 293], .null)), (33, (.lload_n 2, 1, [], .null)), (34, (.lastore, 1, [], .null)), (35, (.aload_n 0, 1, [], .null)), (36, (.getfield 52, 3, [4, 10, 287], .null)), (39, (.aload_n 0, 1, [], .null)), (40, (.getfield 58, 3, [4, 12, 293], .null)), (43, (.iload_n 1, 1, [], .null)), (44, (.iastore, 1, [], .null)), (45, (.aload_n 0, 1, [], .null)), (46, (.getfield 55, 3, [4, 11, 290], .null)), (49, (.aload_n 0, 1, [], .null)), (50, (.getfield 58, 3, [4, 12, 293], .null)), (53, (.aload_n 0, 1, [], .null)), (54, (.getfield 27, 3, [4, 2, 262], .null))]),
  (79, [(57, (.iload_n 1, 1, [], .null)), (58, (.iaload, 1, [], .null)), (59, (.iastore, 1, [], .null)), (60, (.aload_n 0, 1, [], .null)), (61, (.dup, 1, [], .null)), (62, (.getfield 58, 3, [4, 12, 293], .null)), (65, (.iconst 1, 1, [], .null)), (66, (.iadd, 1, [], .null)), (67, (.putfield 58, 3, [4, 12, 293, 0], .null)), (70, (.aload_n 0, 1, [], .null)), (71, (.getfield 27, 3, [4, 2, 262], .null)), (74, (.iload_n 1, 1, [], .null)), (75, (.dup2, 1, [], .null)), (76, (.iaload, 1, [], .null)), (77, (.iconst 1, 1, [], .null)), (78, (.iadd, 1, [], .null))]),
  (89, [(79, (.iastore, 1, [], .null)), (80, (.aload_n 0, 1, [], .null)), (81, (.getfield 27, 3, [4, 2, 262], .null)), (84, (.iload_n 1, 1, [], .null)), (85, (.iaload, 1, [], .null)), (86, (.iconst 1, 1, [], .null)), (87, (.isub, 1, [], .null)), (88, (.ireturn, 1, [], .null))])])
def md_31 : ri_M × ri_T := ((yX4_addStep, cX4_addStep, 4, none, RX4, 0, 0), [
  (26, [(0, (.aload_n 0, 1, [], .null)), (1, (.getfield 36, 3, [4, 5, 277], .null)), (4, (.iload_n 1, 1, [], .null)), (5, (.iaload, 1, [], .null)), (6, (.bipush 8, 2, [], .null)), (8, (.if_icmp .ge 55, 3, [63], .null)), (11, (.aload_n 0, 1, [], .null)), (12, (.getfield 39, 3, [4, 6, 280], .null)), (15, (.iload_n 1, 1, [], .null)), (16, (.bipush 8, 2, [], .null)), (18, (.imul, 1, [], .null)), (19, (.aload_n 0, 1, [], .null)), (20, (.getfield 36, 3, [4, 5, 277], .null)), (23, (.iload_n 1, 1, [], .null)), (24, (.iaload, 1, [], .null)), (25, (.iadd, 1, [], .null))]),
  (45, [(26, (.bipush 10, 2, [], .null)), (28, (.iload_n 2, 1, [], .null)), (29, (.imul, 1, [], .null)), (30, (.iload_n 3, 1, [], .null)), (31, (.iadd, 1, [], .null)), (32, (.iastore, 1, [], .null)), (33, (.aload_n 0, 1, [], .null)), (34, (.getfield 36, 3, [4, 5, 277], .null)), (37, (.iload_n 1, 1, [], .null)), (38, (.dup2, 1, [], .null)), (39, (.iaload, 1, [], .null)), (40, (.iconst 1, 1, [], .null)), (41, (.iadd, 1, [], .null)), (42, (.iastore, 1, [], .null)), (43, (.aload_n 0, 1, [], .null)), (44, (.getfield 42, 3, [4, 7, 282], .null))]),
  (64, [(47, (.iload_n 1, 1, [], .null)), (48, (.aload_n 0, 1, [], .null)), (49, (.getfield 42, 3, [4, 7, 282], .null)), (52, (.iload_n 1, 1, [], .null)), (53, (.iaload, 1, [], .null)), (54, (.iload_n 3, 1, [], .null)), (55, (.iconst 2, 1, [], .null)), (56, (.iload_n 2, 1, [], .null)), (57, (.imul, 1, [], .null)), (58, (.ishl, 1, [], .null)), (59, (.invokestatic 70, 3, [3, 32, 2, 0, 714, 715], .null)), (62, (.iastore, 1, [], .null)), (63, (.return_, 1, [], .null))])])
def md_32 : ri_M × ri_T := ((yX4_added, cX4_added, 2, (some .int), RX4, 0, 0), [
  (19, [(0, (.iload_n 0, 1, [], .null)), (1, (.sipush 21845, 3, [], .null)), (4, (.iand, 1, [], .null)), (5, (.iload_n 1, 1, [], .null)), (6, (.sipush 21845, 3, [], .null)), (9, (.iand, 1, [], .null)), (10, (.iadd, 1, [], .null)), (11, (.iload_n 0, 1, [], .null)), (12, (.iload_n 1, 1, [], .null)), (13, (.ixor, 1, [], .null)), (14, (.ldc 74, 2, [717], .int 43690)), (16, (.iand, 1, [], .null)), (17, (.ixor, 1, [], .null)), (18, (.ireturn, 1, [], .null))])])
def md_33 : ri_M × ri_T := ((yX4_heightsBehind, cX4_heightsBehind, 5, (some .int), RX4, 0, 0), [
  (24, [(0, (.iconst 0, 1, [], .null)), (1, (.istore_n 3, 1, [], .null)), (2, (.iconst 0, 1, [], .null)), (3, (.istore 4, 2, [], .null)), (5, (.iload 4, 2, [], .null)), (7, (.aload_n 0, 1, [], .null)), (8, (.getfield 27, 3, [4, 2, 262], .null)), (11, (.iconst 1, 1, [], .null)), (12, (.iaload, 1, [], .null)), (13, (.if_icmp .ge 55, 3, [68], .null)), (16, (.iload_n 2, 1, [], .null)), (17, (.aload_n 0, 1, [], .null)), (18, (.getfield 33, 3, [4, 4, 272], .null)), (21, (.iload_n 1, 1, [], .null)), (22, (.iaload, 1, [], .null)), (23, (.iand, 1, [], .null))]),
  (48, [(24, (.iload 4, 2, [], .null)), (26, (.ishr, 1, [], .null)), (27, (.ifCond .ne 6, 3, [33], .null)), (30, (.goto 38, 3, [68], .null)), (33, (.iload_n 2, 1, [], .null)), (34, (.aload_n 0, 1, [], .null)), (35, (.getfield 33, 3, [4, 4, 272], .null)), (38, (.iload_n 1, 1, [], .null)), (39, (.iaload, 1, [], .null)), (40, (.iand, 1, [], .null)), (41, (.iload 4, 2, [], .null)), (43, (.ishr, 1, [], .null)), (44, (.iconst 1, 1, [], .null)), (45, (.iand, 1, [], .null)), (46, (.iconst 1, 1, [], .null)), (47, (.if_icmp .ne 15, 3, [62], .null))]),
  (70, [(50, (.iload_n 3, 1, [], .null)), (51, (.aload_n 0, 1, [], .null)), (52, (.getfield 42, 3, [4, 7, 282], .null)), (55, (.iload 4, 2, [], .null)), (57, (.iaload, 1, [], .null)), (58, (.invokestatic 70, 3, [3, 32, 2, 0, 714, 715], .null)), (61, (.istore_n 3, 1, [], .null)), (62, (.iinc 4 1, 3, [], .null)), (65, (.goto (-60), 3, [5], .null)), (68, (.iload_n 3, 1, [], .null)), (69, (.ireturn, 1, [], .null))])])
def md_34 : ri_M × ri_T := ((yX4_wavesAt, cX4_wavesAt, 9, (some .int), RX4, 0, 0), [
  (23, [(0, (.iconst 0, 1, [], .null)), (1, (.istore_n 3, 1, [], .null)), (2, (.iconst 0, 1, [], .null)), (3, (.istore 4, 2, [], .null)), (5, (.iload_n 2, 1, [], .null)), (6, (.aload_n 0, 1, [], .null)), (7, (.getfield 33, 3, [4, 4, 272], .null)), (10, (.iload_n 1, 1, [], .null)), (11, (.iaload, 1, [], .null)), (12, (.iand, 1, [], .null)), (13, (.istore 5, 2, [], .null)), (15, (.iconst 0, 1, [], .null)), (16, (.istore 6, 2, [], .null)), (18, (.iload 6, 2, [], .null)), (20, (.bipush 8, 2, [], .null)), (22, (.if_icmp .ge 115, 3, [137], .null))]),
  (52, [(25, (.iload 5, 2, [], .null)), (27, (.ifCond .eq 110, 3, [137], .null)), (30, (.iconst 0, 1, [], .null)), (31, (.istore 7, 2, [], .null)), (33, (.iload 7, 2, [], .null)), (35, (.aload_n 0, 1, [], .null)), (36, (.getfield 27, 3, [4, 2, 262], .null)), (39, (.iconst 1, 1, [], .null)), (40, (.iaload, 1, [], .null)), (41, (.if_icmp .ge 81, 3, [122], .null)), (44, (.iload 5, 2, [], .null)), (46, (.iload 7, 2, [], .null)), (48, (.ishr, 1, [], .null)), (49, (.iconst 1, 1, [], .null)), (50, (.iand, 1, [], .null)), (51, (.ifCond .ne 6, 3, [57], .null))]),
  (83, [(54, (.goto 62, 3, [116], .null)), (57, (.iload 6, 2, [], .null)), (59, (.aload_n 0, 1, [], .null)), (60, (.getfield 36, 3, [4, 5, 277], .null)), (63, (.iload 7, 2, [], .null)), (65, (.iaload, 1, [], .null)), (66, (.if_icmp .ge 39, 3, [105], .null)), (69, (.aload_n 0, 1, [], .null)), (70, (.getfield 39, 3, [4, 6, 280], .null)), (73, (.iload 7, 2, [], .null)), (75, (.bipush 8, 2, [], .null)), (77, (.imul, 1, [], .null)), (78, (.iload 6, 2, [], .null)), (80, (.iadd, 1, [], .null)), (81, (.iaload, 1, [], .null)), (82, (.istore 8, 2, [], .null))]),
  (109, [(84, (.iload_n 3, 1, [], .null)), (85, (.iload 8, 2, [], .null)), (87, (.bipush 10, 2, [], .null)), (89, (.irem, 1, [], .null)), (90, (.iconst 2, 1, [], .null)), (91, (.iload 8, 2, [], .null)), (93, (.bipush 10, 2, [], .null)), (95, (.idiv, 1, [], .null)), (96, (.imul, 1, [], .null)), (97, (.ishl, 1, [], .null)), (98, (.invokestatic 70, 3, [3, 32, 2, 0, 714, 715], .null)), (101, (.istore_n 3, 1, [], .null)), (102, (.goto 14, 3, [116], .null)), (105, (.iload 5, 2, [], .null)), (107, (.iconst 1, 1, [], .null)), (108, (.iload 7, 2, [], .null))]),
  (138, [(110, (.ishl, 1, [], .null)), (111, (.iconst (-1), 1, [], .null)), (112, (.ixor, 1, [], .null)), (113, (.iand, 1, [], .null)), (114, (.istore 5, 2, [], .null)), (116, (.iinc 7 1, 3, [], .null)), (119, (.goto (-86), 3, [33], .null)), (122, (.iload 4, 2, [], .null)), (124, (.iload_n 3, 1, [], .null)), (125, (.ldc 74, 2, [717], .int 43690)), (127, (.iand, 1, [], .null)), (128, (.ior, 1, [], .null)), (129, (.istore 4, 2, [], .null)), (131, (.iinc 6 1, 3, [], .null)), (134, (.goto (-116), 3, [18], .null)), (137, (.iload 4, 2, [], .null))]),
  (143, [(139, (.invokestatic 75, 3, [3, 35, 1, 0, 842, 843], .null)), (142, (.ireturn, 1, [], .null))])])
def md_35 : ri_M × ri_T := ((yX4_cellsOf, cX4_cellsOf, 3, (some .int), RX4, 0, 0), [
  (19, [(0, (.iconst 0, 1, [], .null)), (1, (.istore_n 1, 1, [], .null)), (2, (.iconst 0, 1, [], .null)), (3, (.istore_n 2, 1, [], .null)), (4, (.iload_n 2, 1, [], .null)), (5, (.bipush 8, 2, [], .null)), (7, (.if_icmp .ge 23, 3, [30], .null)), (10, (.iload_n 1, 1, [], .null)), (11, (.iload_n 0, 1, [], .null)), (12, (.iconst 2, 1, [], .null)), (13, (.iload_n 2, 1, [], .null)), (14, (.imul, 1, [], .null)), (15, (.iconst 1, 1, [], .null)), (16, (.iadd, 1, [], .null)), (17, (.ishr, 1, [], .null)), (18, (.iconst 1, 1, [], .null))]),
  (32, [(19, (.iand, 1, [], .null)), (20, (.iload_n 2, 1, [], .null)), (21, (.ishl, 1, [], .null)), (22, (.ior, 1, [], .null)), (23, (.istore_n 1, 1, [], .null)), (24, (.iinc 2 1, 3, [], .null)), (27, (.goto (-23), 3, [4], .null)), (30, (.iload_n 1, 1, [], .null)), (31, (.ireturn, 1, [], .null))])])
def md_36 : ri_M × ri_T := ((yX4_areHeights, cX4_areHeights, 4, (some .boolean), RX4, 0, 0), [
  (22, [(0, (.iload_n 2, 1, [], .null)), (1, (.istore_n 3, 1, [], .null)), (2, (.iload_n 3, 1, [], .null)), (3, (.iload_n 2, 1, [], .null)), (4, (.aload_n 0, 1, [], .null)), (5, (.getfield 18, 3, [4, 0, 254], .null)), (8, (.iconst 0, 1, [], .null)), (9, (.iaload, 1, [], .null)), (10, (.iadd, 1, [], .null)), (11, (.if_icmp .ge 30, 3, [41], .null)), (14, (.iload_n 3, 1, [], .null)), (15, (.aload_n 1, 1, [], .null)), (16, (.arraylength, 1, [], .null)), (17, (.if_icmp .ge 24, 3, [41], .null)), (20, (.aload_n 1, 1, [], .null)), (21, (.iload_n 3, 1, [], .null))]),
  (43, [(22, (.baload, 1, [], .null)), (23, (.ifCond .lt 10, 3, [33], .null)), (26, (.aload_n 1, 1, [], .null)), (27, (.iload_n 3, 1, [], .null)), (28, (.baload, 1, [], .null)), (29, (.iconst 3, 1, [], .null)), (30, (.if_icmp .le 5, 3, [35], .null)), (33, (.iconst 0, 1, [], .null)), (34, (.ireturn, 1, [], .null)), (35, (.iinc 3 1, 3, [], .null)), (38, (.goto (-36), 3, [2], .null)), (41, (.iconst 1, 1, [], .null)), (42, (.ireturn, 1, [], .null))])])
def md_37 : ri_M × ri_T := ((yX4_packHeights, cX4_packHeights, 5, (some .int), RX4, 0, 0), [
  (23, [(0, (.iconst 0, 1, [], .null)), (1, (.istore_n 3, 1, [], .null)), (2, (.iconst 0, 1, [], .null)), (3, (.istore 4, 2, [], .null)), (5, (.iload 4, 2, [], .null)), (7, (.aload_n 0, 1, [], .null)), (8, (.getfield 18, 3, [4, 0, 254], .null)), (11, (.iconst 0, 1, [], .null)), (12, (.iaload, 1, [], .null)), (13, (.if_icmp .ge 34, 3, [47], .null)), (16, (.iload_n 2, 1, [], .null)), (17, (.iload 4, 2, [], .null)), (19, (.iadd, 1, [], .null)), (20, (.aload_n 1, 1, [], .null)), (21, (.arraylength, 1, [], .null)), (22, (.if_icmp .ge 25, 3, [47], .null))]),
  (45, [(25, (.iload_n 3, 1, [], .null)), (26, (.aload_n 1, 1, [], .null)), (27, (.iload_n 2, 1, [], .null)), (28, (.iload 4, 2, [], .null)), (30, (.iadd, 1, [], .null)), (31, (.baload, 1, [], .null)), (32, (.iconst 3, 1, [], .null)), (33, (.iand, 1, [], .null)), (34, (.iconst 2, 1, [], .null)), (35, (.iload 4, 2, [], .null)), (37, (.imul, 1, [], .null)), (38, (.ishl, 1, [], .null)), (39, (.ior, 1, [], .null)), (40, (.istore_n 3, 1, [], .null)), (41, (.iinc 4 1, 3, [], .null)), (44, (.goto (-39), 3, [5], .null))]),
  (49, [(47, (.iload_n 3, 1, [], .null)), (48, (.ireturn, 1, [], .null))])])
def md_38 : ri_M × ri_T := ((yX4_areStill, cX4_areStill, 3, (some .boolean), RX4, 0, 0), [
  (26, [(0, (.aload_n 0, 1, [], .null)), (1, (.getfield 42, 3, [4, 7, 282], .null)), (4, (.iload_n 1, 1, [], .null)), (5, (.iaload, 1, [], .null)), (6, (.ifCond .eq 34, 3, [40], .null)), (9, (.aload_n 0, 1, [], .null)), (10, (.getfield 42, 3, [4, 7, 282], .null)), (13, (.iload_n 2, 1, [], .null)), (14, (.iaload, 1, [], .null)), (15, (.ifCond .eq 25, 3, [40], .null)), (18, (.aload_n 0, 1, [], .null)), (19, (.getfield 42, 3, [4, 7, 282], .null)), (22, (.iload_n 1, 1, [], .null)), (23, (.iaload, 1, [], .null)), (24, (.aload_n 0, 1, [], .null)), (25, (.getfield 42, 3, [4, 7, 282], .null))]),
  (42, [(28, (.iload_n 2, 1, [], .null)), (29, (.iaload, 1, [], .null)), (30, (.invokestatic 70, 3, [3, 32, 2, 0, 714, 715], .null)), (33, (.ifCond .ne 7, 3, [40], .null)), (36, (.iconst 1, 1, [], .null)), (37, (.goto 4, 3, [41], .null)), (40, (.iconst 0, 1, [], .null)), (41, (.ireturn, 1, [], .null))])])
def md_39 : ri_M × ri_T := ((yX4_isIce, cX4_isIce, 3, (some .boolean), RX4, 0, 0), [
  (23, [(0, (.iload_n 1, 1, [], .null)), (1, (.bipush 100, 2, [], .null)), (3, (.irem, 1, [], .null)), (4, (.istore_n 2, 1, [], .null)), (5, (.iload_n 2, 1, [], .null)), (6, (.aload_n 0, 1, [], .null)), (7, (.getfield 18, 3, [4, 0, 254], .null)), (10, (.iconst 4, 1, [], .null)), (11, (.iaload, 1, [], .null)), (12, (.if_icmp .lt 22, 3, [34], .null)), (15, (.iload_n 2, 1, [], .null)), (16, (.aload_n 0, 1, [], .null)), (17, (.getfield 18, 3, [4, 0, 254], .null)), (20, (.iconst 4, 1, [], .null)), (21, (.iaload, 1, [], .null)), (22, (.aload_n 0, 1, [], .null))]),
  (36, [(23, (.getfield 23, 3, [4, 1, 259], .null)), (26, (.iadd, 1, [], .null)), (27, (.if_icmp .ge 7, 3, [34], .null)), (30, (.iconst 1, 1, [], .null)), (31, (.goto 4, 3, [35], .null)), (34, (.iconst 0, 1, [], .null)), (35, (.ireturn, 1, [], .null))])])
def md_40 : ri_M × ri_T := ((yX4_daysTillIce, cX4_daysTillIce, 3, (some .int), RX4, 0, 0), [
  (23, [(0, (.aload_n 0, 1, [], .null)), (1, (.iload_n 1, 1, [], .null)), (2, (.invokevirtual 79, 3, [1, 39, 1, 4, 1034, 793, 792], .null)), (5, (.ifCond .eq 5, 3, [10], .null)), (8, (.iconst 0, 1, [], .null)), (9, (.ireturn, 1, [], .null)), (10, (.aload_n 0, 1, [], .null)), (11, (.getfield 18, 3, [4, 0, 254], .null)), (14, (.iconst 4, 1, [], .null)), (15, (.iaload, 1, [], .null)), (16, (.iload_n 1, 1, [], .null)), (17, (.bipush 100, 2, [], .null)), (19, (.irem, 1, [], .null)), (20, (.isub, 1, [], .null)), (21, (.istore_n 2, 1, [], .null)), (22, (.iload_n 2, 1, [], .null))]),
  (35, [(23, (.ifCond .le 7, 3, [30], .null)), (26, (.iload_n 2, 1, [], .null)), (27, (.goto 7, 3, [34], .null)), (30, (.iload_n 2, 1, [], .null)), (31, (.bipush 100, 2, [], .null)), (33, (.iadd, 1, [], .null)), (34, (.ireturn, 1, [], .null))])])
def md_41 : ri_M × ri_T := ((yX4_practisesOn, cX4_practisesOn, 2, (some .boolean), RX4, 0, 0), [
  (26, [(0, (.aload_n 0, 1, [], .null)), (1, (.getfield 18, 3, [4, 0, 254], .null)), (4, (.iconst 3, 1, [], .null)), (5, (.iaload, 1, [], .null)), (6, (.ifCond .le 18, 3, [24], .null)), (9, (.iload_n 1, 1, [], .null)), (10, (.aload_n 0, 1, [], .null)), (11, (.getfield 18, 3, [4, 0, 254], .null)), (14, (.iconst 3, 1, [], .null)), (15, (.iaload, 1, [], .null)), (16, (.irem, 1, [], .null)), (17, (.ifCond .ne 7, 3, [24], .null)), (20, (.iconst 1, 1, [], .null)), (21, (.goto 4, 3, [25], .null)), (24, (.iconst 0, 1, [], .null)), (25, (.ireturn, 1, [], .null))])])
def md_42 : ri_M × ri_T := ((yX5_init, cX5_init, 2, none, RX5, 12, 194), [
  (26, [(0, (.aload_n 0, 1, [], .null)), (1, (.invokespecial 3, 3, [0, 238], .null)), (4, (.aload_n 0, 1, [], .null)), (5, (.new 9, 3, [4, 239, 240, 106], .null)), (8, (.dup, 1, [], .null)), (9, (.invokespecial 11, 3, [7, 23, 0, 4, 241, 242], .null)), (12, (.putfield 12, 3, [5, 1, 323, 3], .null)), (15, (.aload_n 0, 1, [], .null)), (16, (.iconst 0, 1, [], .null)), (17, (.putfield 18, 3, [5, 2, 325, 0], .null)), (20, (.aload_n 0, 1, [], .null)), (21, (.aload_n 1, 1, [], .null)), (22, (.putfield 22, 3, [5, 0, 322, 3], .null)), (25, (.return_, 1, [], .null))])])
def md_43 : ri_M × ri_T := ((yX5_readLines, cX5_readLines, 4, (some .int), RX5, 0, 0), [
  (32, [(0, (.aload_n 0, 1, [], .null)), (1, (.getfield 12, 3, [5, 1, 323], .null)), (4, (.invokevirtual 26, 3, [1, 24, 0, 4, 665, 667, 666], .null)), (7, (.aload_n 0, 1, [], .null)), (8, (.iconst 0, 1, [], .null)), (9, (.putfield 18, 3, [5, 2, 325, 0], .null)), (12, (.iconst 0, 1, [], .null)), (13, (.istore_n 1, 1, [], .null)), (14, (.iload_n 1, 1, [], .null)), (15, (.sipush 900, 3, [], .null)), (18, (.if_icmp .gt 83, 3, [101], .null)), (21, (.aload_n 0, 1, [], .null)), (22, (.getfield 22, 3, [5, 0, 322], .null)), (25, (.getfield 29, 3, [8, 5, 195], .null)), (28, (.ifCond .ne 5, 3, [33], .null)), (31, (.iload_n 1, 1, [], .null))]),
  (62, [(32, (.ireturn, 1, [], .null)), (33, (.aload_n 0, 1, [], .null)), (34, (.getfield 22, 3, [5, 0, 322], .null)), (37, (.getfield 29, 3, [8, 5, 195], .null)), (40, (.iconst 2, 1, [], .null)), (41, (.if_icmp .ne 13, 3, [54], .null)), (44, (.aload_n 0, 1, [], .null)), (45, (.getfield 22, 3, [5, 0, 322], .null)), (48, (.getfield 34, 3, [8, 7, 198], .null)), (51, (.goto 4, 3, [55], .null)), (54, (.iconst (-1), 1, [], .null)), (55, (.istore_n 2, 1, [], .null)), (56, (.iload_n 2, 1, [], .null)), (57, (.iconst 5, 1, [], .null)), (58, (.if_icmp .lt 13, 3, [71], .null)), (61, (.aload_n 0, 1, [], .null))]),
  (91, [(62, (.iload_n 2, 1, [], .null)), (63, (.iconst 5, 1, [], .null)), (64, (.isub, 1, [], .null)), (65, (.invokevirtual 37, 3, [1, 46, 1, 5, 672, 4, 674], .null)), (68, (.goto 8, 3, [76], .null)), (71, (.aload_n 0, 1, [], .null)), (72, (.iload_n 2, 1, [], .null)), (73, (.invokevirtual 41, 3, [1, 44, 1, 5, 722, 8, 724], .null)), (76, (.istore_n 3, 1, [], .null)), (77, (.iload_n 3, 1, [], .null)), (78, (.ifCond .eq 15, 3, [93], .null)), (81, (.aload_n 0, 1, [], .null)), (82, (.getfield 22, 3, [5, 0, 322], .null)), (85, (.bipush 59, 2, [], .null)), (87, (.invokevirtual 44, 3, [1, 82, 1, 8, 735, 737, 736], .null)), (90, (.ifCond .ne 5, 3, [95], .null))]),
  (103, [(93, (.iconst (-1), 1, [], .null)), (94, (.ireturn, 1, [], .null)), (95, (.iinc 1 1, 3, [], .null)), (98, (.goto (-84), 3, [14], .null)), (101, (.iconst (-1), 1, [], .null)), (102, (.ireturn, 1, [], .null))])])
def md_44 : ri_M × ri_T := ((yX5_readSetting, cX5_readSetting, 4, (some .boolean), RX5, 0, 0), [
  (30, [(0, (.iload_n 1, 1, [], .null)), (1, (.ifCond .lt 8, 3, [9], .null)), (4, (.iload_n 1, 1, [], .null)), (5, (.iconst 4, 1, [], .null)), (6, (.if_icmp .le 12, 3, [18], .null)), (9, (.aload_n 0, 1, [], .null)), (10, (.getfield 22, 3, [5, 0, 322], .null)), (13, (.iconst 1, 1, [], .null)), (14, (.invokevirtual 47, 3, [1, 78, 1, 8, 676, 678, 677], .null)), (17, (.ireturn, 1, [], .null)), (18, (.iload_n 1, 1, [], .null)), (19, (.ifCond .ne 29, 3, [48], .null)), (22, (.aload_n 0, 1, [], .null)), (23, (.getfield 12, 3, [5, 1, 323], .null)), (26, (.getfield 50, 3, [4, 2, 263], .null)), (29, (.iconst 1, 1, [], .null))]),
  (56, [(30, (.iaload, 1, [], .null)), (31, (.aload_n 0, 1, [], .null)), (32, (.getfield 12, 3, [5, 1, 323], .null)), (35, (.getfield 50, 3, [4, 2, 263], .null)), (38, (.iconst 3, 1, [], .null)), (39, (.iaload, 1, [], .null)), (40, (.iadd, 1, [], .null)), (41, (.ifCond .le 7, 3, [48], .null)), (44, (.iconst 1, 1, [], .null)), (45, (.goto 4, 3, [49], .null)), (48, (.iconst 0, 1, [], .null)), (49, (.istore_n 2, 1, [], .null)), (50, (.iload_n 2, 1, [], .null)), (51, (.ifCond .ne 15, 3, [66], .null)), (54, (.aload_n 0, 1, [], .null)), (55, (.getfield 18, 3, [5, 2, 325], .null))]),
  (82, [(58, (.iload_n 1, 1, [], .null)), (59, (.ishr, 1, [], .null)), (60, (.iconst 1, 1, [], .null)), (61, (.iand, 1, [], .null)), (62, (.iconst 1, 1, [], .null)), (63, (.if_icmp .ne 12, 3, [75], .null)), (66, (.aload_n 0, 1, [], .null)), (67, (.getfield 22, 3, [5, 0, 322], .null)), (70, (.iconst 3, 1, [], .null)), (71, (.invokevirtual 47, 3, [1, 78, 1, 8, 676, 678, 677], .null)), (74, (.ireturn, 1, [], .null)), (75, (.aload_n 0, 1, [], .null)), (76, (.dup, 1, [], .null)), (77, (.getfield 18, 3, [5, 2, 325], .null)), (80, (.iconst 1, 1, [], .null)), (81, (.iload_n 1, 1, [], .null))]),
  (112, [(82, (.ishl, 1, [], .null)), (83, (.ior, 1, [], .null)), (84, (.putfield 18, 3, [5, 2, 325, 0], .null)), (87, (.aload_n 0, 1, [], .null)), (88, (.getfield 22, 3, [5, 0, 322], .null)), (91, (.invokevirtual 54, 3, [1, 74, 0, 8, 682, 648, 647], .null)), (94, (.aload_n 0, 1, [], .null)), (95, (.getfield 22, 3, [5, 0, 322], .null)), (98, (.getstatic 57, 3, [3, 726], .null)), (101, (.iload_n 1, 1, [], .null)), (102, (.iaload, 1, [], .null)), (103, (.getstatic 60, 3, [4, 728], .null)), (106, (.iload_n 1, 1, [], .null)), (107, (.iaload, 1, [], .null)), (108, (.invokevirtual 63, 3, [1, 83, 2, 8, 706, 708, 707], .null)), (111, (.istore_n 3, 1, [], .null))]),
  (136, [(112, (.iload_n 3, 1, [], .null)), (113, (.iconst (-1), 1, [], .null)), (114, (.if_icmp .ne 5, 3, [119], .null)), (117, (.iconst 0, 1, [], .null)), (118, (.ireturn, 1, [], .null)), (119, (.aload_n 0, 1, [], .null)), (120, (.getfield 12, 3, [5, 1, 323], .null)), (123, (.getfield 67, 3, [4, 0, 256], .null)), (126, (.iload_n 1, 1, [], .null)), (127, (.iload_n 3, 1, [], .null)), (128, (.iastore, 1, [], .null)), (129, (.iload_n 1, 1, [], .null)), (130, (.iconst 4, 1, [], .null)), (131, (.if_icmp .ne 11, 3, [142], .null)), (134, (.aload_n 0, 1, [], .null)), (135, (.iload_n 3, 1, [], .null))]),
  (148, [(136, (.invokevirtual 70, 3, [1, 45, 1, 5, 730, 9, 732], .null)), (139, (.ifCond .eq 7, 3, [146], .null)), (142, (.iconst 1, 1, [], .null)), (143, (.goto 4, 3, [147], .null)), (146, (.iconst 0, 1, [], .null)), (147, (.ireturn, 1, [], .null))])])
def md_45 : ri_M × ri_T := ((yX5_readIceLong, cX5_readIceLong, 3, (some .boolean), RX5, 0, 0), [
  (26, [(0, (.aload_n 0, 1, [], .null)), (1, (.getfield 22, 3, [5, 0, 322], .null)), (4, (.iconst 1, 1, [], .null)), (5, (.bipush 50, 2, [], .null)), (7, (.bipush 100, 2, [], .null)), (9, (.iload_n 1, 1, [], .null)), (10, (.isub, 1, [], .null)), (11, (.invokestatic 73, 3, [8, 734], .null)), (14, (.invokevirtual 63, 3, [1, 83, 2, 8, 706, 708, 707], .null)), (17, (.istore_n 2, 1, [], .null)), (18, (.iload_n 2, 1, [], .null)), (19, (.iconst (-1), 1, [], .null)), (20, (.if_icmp .ne 5, 3, [25], .null)), (23, (.iconst 0, 1, [], .null)), (24, (.ireturn, 1, [], .null)), (25, (.aload_n 0, 1, [], .null))]),
  (35, [(26, (.getfield 12, 3, [5, 1, 323], .null)), (29, (.iload_n 2, 1, [], .null)), (30, (.putfield 78, 3, [4, 1, 260, 0], .null)), (33, (.iconst 1, 1, [], .null)), (34, (.ireturn, 1, [], .null))])])
def md_46 : ri_M × ri_T := ((yX5_readNamed, cX5_readNamed, 3, (some .boolean), RX5, 0, 0), [
  (28, [(0, (.iload_n 1, 1, [], .null)), (1, (.ifCond .lt 8, 3, [9], .null)), (4, (.iload_n 1, 1, [], .null)), (5, (.iconst 3, 1, [], .null)), (6, (.if_icmp .le 12, 3, [18], .null)), (9, (.aload_n 0, 1, [], .null)), (10, (.getfield 22, 3, [5, 0, 322], .null)), (13, (.iconst 1, 1, [], .null)), (14, (.invokevirtual 47, 3, [1, 78, 1, 8, 676, 678, 677], .null)), (17, (.ireturn, 1, [], .null)), (18, (.aload_n 0, 1, [], .null)), (19, (.getfield 12, 3, [5, 1, 323], .null)), (22, (.getfield 50, 3, [4, 2, 263], .null)), (25, (.iload_n 1, 1, [], .null)), (26, (.iaload, 1, [], .null)), (27, (.getstatic 81, 3, [2, 680], .null))]),
  (60, [(30, (.iload_n 1, 1, [], .null)), (31, (.iaload, 1, [], .null)), (32, (.if_icmp .lt 12, 3, [44], .null)), (35, (.aload_n 0, 1, [], .null)), (36, (.getfield 22, 3, [5, 0, 322], .null)), (39, (.iconst 4, 1, [], .null)), (40, (.invokevirtual 47, 3, [1, 78, 1, 8, 676, 678, 677], .null)), (43, (.ireturn, 1, [], .null)), (44, (.aload_n 0, 1, [], .null)), (45, (.getfield 22, 3, [5, 0, 322], .null)), (48, (.invokevirtual 54, 3, [1, 74, 0, 8, 682, 648, 647], .null)), (51, (.aload_n 0, 1, [], .null)), (52, (.getfield 22, 3, [5, 0, 322], .null)), (55, (.getfield 29, 3, [8, 5, 195], .null)), (58, (.iconst 3, 1, [], .null)), (59, (.if_icmp .eq 12, 3, [71], .null))]),
  (94, [(62, (.aload_n 0, 1, [], .null)), (63, (.getfield 22, 3, [5, 0, 322], .null)), (66, (.iconst 1, 1, [], .null)), (67, (.invokevirtual 47, 3, [1, 78, 1, 8, 676, 678, 677], .null)), (70, (.ireturn, 1, [], .null)), (71, (.aload_n 0, 1, [], .null)), (72, (.getfield 12, 3, [5, 1, 323], .null)), (75, (.aload_n 0, 1, [], .null)), (76, (.getfield 22, 3, [5, 0, 322], .null)), (79, (.getfield 84, 3, [8, 8, 203], .null)), (82, (.invokevirtual 88, 3, [1, 29, 1, 4, 683, 685, 684], .null)), (85, (.iconst (-1), 1, [], .null)), (86, (.if_icmp .eq 12, 3, [98], .null)), (89, (.aload_n 0, 1, [], .null)), (90, (.getfield 22, 3, [5, 0, 322], .null)), (93, (.iconst 3, 1, [], .null))]),
  (124, [(94, (.invokevirtual 47, 3, [1, 78, 1, 8, 676, 678, 677], .null)), (97, (.ireturn, 1, [], .null)), (98, (.aload_n 0, 1, [], .null)), (99, (.getfield 12, 3, [5, 1, 323], .null)), (102, (.iload_n 1, 1, [], .null)), (103, (.aload_n 0, 1, [], .null)), (104, (.getfield 22, 3, [5, 0, 322], .null)), (107, (.getfield 84, 3, [8, 8, 203], .null)), (110, (.invokevirtual 92, 3, [1, 30, 2, 4, 687, 689, 688], .null)), (113, (.istore_n 2, 1, [], .null)), (114, (.iload_n 2, 1, [], .null)), (115, (.iconst (-1), 1, [], .null)), (116, (.if_icmp .ne 12, 3, [128], .null)), (119, (.aload_n 0, 1, [], .null)), (120, (.getfield 22, 3, [5, 0, 322], .null)), (123, (.iconst 4, 1, [], .null))]),
  (152, [(124, (.invokevirtual 47, 3, [1, 78, 1, 8, 676, 678, 677], .null)), (127, (.ireturn, 1, [], .null)), (128, (.aload_n 0, 1, [], .null)), (129, (.getfield 22, 3, [5, 0, 322], .null)), (132, (.invokevirtual 54, 3, [1, 74, 0, 8, 682, 648, 647], .null)), (135, (.iload_n 1, 1, [], .null)), (136, (.iconst 1, 1, [], .null)), (137, (.if_icmp .ne 9, 3, [146], .null)), (140, (.aload_n 0, 1, [], .null)), (141, (.iload_n 2, 1, [], .null)), (142, (.invokevirtual 96, 3, [1, 47, 1, 5, 692, 5, 694], .null)), (145, (.ireturn, 1, [], .null)), (146, (.iload_n 1, 1, [], .null)), (147, (.iconst 3, 1, [], .null)), (148, (.if_icmp .ne 11, 3, [159], .null)), (151, (.aload_n 0, 1, [], .null))]),
  (165, [(152, (.iload_n 2, 1, [], .null)), (153, (.invokevirtual 99, 3, [1, 49, 1, 5, 718, 7, 720], .null)), (156, (.ifCond .eq 7, 3, [163], .null)), (159, (.iconst 1, 1, [], .null)), (160, (.goto 4, 3, [164], .null)), (163, (.iconst 0, 1, [], .null)), (164, (.ireturn, 1, [], .null))])])
def md_47 : ri_M × ri_T := ((yX5_readLesson, cX5_readLesson, 4, (some .boolean), RX5, 0, 0), [
  (28, [(0, (.aload_n 0, 1, [], .null)), (1, (.getfield 22, 3, [5, 0, 322], .null)), (4, (.aload_n 0, 1, [], .null)), (5, (.getfield 12, 3, [5, 1, 323], .null)), (8, (.iconst 0, 1, [], .null)), (9, (.invokevirtual 102, 3, [1, 84, 2, 8, 696, 698, 697], .null)), (12, (.istore_n 2, 1, [], .null)), (13, (.iload_n 2, 1, [], .null)), (14, (.iconst (-1), 1, [], .null)), (15, (.if_icmp .ne 5, 3, [20], .null)), (18, (.iconst 0, 1, [], .null)), (19, (.ireturn, 1, [], .null)), (20, (.aload_n 0, 1, [], .null)), (21, (.getfield 12, 3, [5, 1, 323], .null)), (24, (.getfield 106, 3, [4, 3, 270], .null)), (27, (.iload_n 1, 1, [], .null))]),
  (48, [(28, (.iload_n 2, 1, [], .null)), (29, (.iastore, 1, [], .null)), (30, (.aload_n 0, 1, [], .null)), (31, (.getfield 12, 3, [5, 1, 323], .null)), (34, (.getfield 109, 3, [4, 4, 274], .null)), (37, (.iload_n 2, 1, [], .null)), (38, (.dup2, 1, [], .null)), (39, (.iaload, 1, [], .null)), (40, (.iconst 1, 1, [], .null)), (41, (.iload_n 1, 1, [], .null)), (42, (.ishl, 1, [], .null)), (43, (.ior, 1, [], .null)), (44, (.iastore, 1, [], .null)), (45, (.iconst 0, 1, [], .null)), (46, (.istore_n 3, 1, [], .null)), (47, (.iload_n 3, 1, [], .null))]),
  (81, [(48, (.bipush 8, 2, [], .null)), (50, (.if_icmp .ge 30, 3, [80], .null)), (53, (.aload_n 0, 1, [], .null)), (54, (.getfield 22, 3, [5, 0, 322], .null)), (57, (.getfield 29, 3, [8, 5, 195], .null)), (60, (.iconst 4, 1, [], .null)), (61, (.if_icmp .ne 19, 3, [80], .null)), (64, (.aload_n 0, 1, [], .null)), (65, (.iload_n 1, 1, [], .null)), (66, (.invokevirtual 112, 3, [1, 48, 1, 5, 702, 6, 704], .null)), (69, (.ifCond .ne 5, 3, [74], .null)), (72, (.iconst 0, 1, [], .null)), (73, (.ireturn, 1, [], .null)), (74, (.iinc 3 1, 3, [], .null)), (77, (.goto (-30), 3, [47], .null)), (80, (.aload_n 0, 1, [], .null))]),
  (108, [(81, (.getfield 22, 3, [5, 0, 322], .null)), (84, (.getfield 29, 3, [8, 5, 195], .null)), (87, (.iconst 4, 1, [], .null)), (88, (.if_icmp .ne 14, 3, [102], .null)), (91, (.aload_n 0, 1, [], .null)), (92, (.getfield 22, 3, [5, 0, 322], .null)), (95, (.iconst 4, 1, [], .null)), (96, (.invokevirtual 47, 3, [1, 78, 1, 8, 676, 678, 677], .null)), (99, (.ifCond .eq 7, 3, [106], .null)), (102, (.iconst 1, 1, [], .null)), (103, (.goto 4, 3, [107], .null)), (106, (.iconst 0, 1, [], .null)), (107, (.ireturn, 1, [], .null))])])
end
section
def md_48 : ri_M × ri_T := ((yX5_readStep, cX5_readStep, 4, (some .boolean), RX5, 0, 0), [
  (26, [(0, (.aload_n 0, 1, [], .null)), (1, (.getfield 22, 3, [5, 0, 322], .null)), (4, (.iconst 0, 1, [], .null)), (5, (.aload_n 0, 1, [], .null)), (6, (.getfield 12, 3, [5, 1, 323], .null)), (9, (.getfield 67, 3, [4, 0, 256], .null)), (12, (.iconst 0, 1, [], .null)), (13, (.iaload, 1, [], .null)), (14, (.iconst 1, 1, [], .null)), (15, (.isub, 1, [], .null)), (16, (.invokevirtual 63, 3, [1, 83, 2, 8, 706, 708, 707], .null)), (19, (.istore_n 2, 1, [], .null)), (20, (.iload_n 2, 1, [], .null)), (21, (.iconst (-1), 1, [], .null)), (22, (.if_icmp .ne 5, 3, [27], .null)), (25, (.iconst 0, 1, [], .null))]),
  (50, [(26, (.ireturn, 1, [], .null)), (27, (.aload_n 0, 1, [], .null)), (28, (.getfield 22, 3, [5, 0, 322], .null)), (31, (.iconst 1, 1, [], .null)), (32, (.iconst 3, 1, [], .null)), (33, (.invokevirtual 63, 3, [1, 83, 2, 8, 706, 708, 707], .null)), (36, (.istore_n 3, 1, [], .null)), (37, (.iload_n 3, 1, [], .null)), (38, (.iconst (-1), 1, [], .null)), (39, (.if_icmp .ne 5, 3, [44], .null)), (42, (.iconst 0, 1, [], .null)), (43, (.ireturn, 1, [], .null)), (44, (.aload_n 0, 1, [], .null)), (45, (.getfield 12, 3, [5, 1, 323], .null)), (48, (.iload_n 1, 1, [], .null)), (49, (.iload_n 2, 1, [], .null))]),
  (56, [(50, (.iload_n 3, 1, [], .null)), (51, (.invokevirtual 115, 3, [1, 31, 3, 4, 710, 712, 711], .null)), (54, (.iconst 1, 1, [], .null)), (55, (.ireturn, 1, [], .null))])])
def md_49 : ri_M × ri_T := ((yX5_readPier, cX5_readPier, 3, (some .boolean), RX5, 0, 0), [
  (26, [(0, (.aload_n 0, 1, [], .null)), (1, (.getfield 22, 3, [5, 0, 322], .null)), (4, (.iconst 0, 1, [], .null)), (5, (.aload_n 0, 1, [], .null)), (6, (.getfield 12, 3, [5, 1, 323], .null)), (9, (.getfield 67, 3, [4, 0, 256], .null)), (12, (.iconst 0, 1, [], .null)), (13, (.iaload, 1, [], .null)), (14, (.iconst 1, 1, [], .null)), (15, (.isub, 1, [], .null)), (16, (.invokevirtual 63, 3, [1, 83, 2, 8, 706, 708, 707], .null)), (19, (.istore_n 2, 1, [], .null)), (20, (.iload_n 2, 1, [], .null)), (21, (.iconst (-1), 1, [], .null)), (22, (.if_icmp .ne 5, 3, [27], .null)), (25, (.iconst 0, 1, [], .null))]),
  (39, [(26, (.ireturn, 1, [], .null)), (27, (.aload_n 0, 1, [], .null)), (28, (.getfield 12, 3, [5, 1, 323], .null)), (31, (.getfield 119, 3, [4, 8, 285], .null)), (34, (.iload_n 1, 1, [], .null)), (35, (.iload_n 2, 1, [], .null)), (36, (.iastore, 1, [], .null)), (37, (.iconst 1, 1, [], .null)), (38, (.ireturn, 1, [], .null))])])
def md_50 : ri_M × ri_T := ((yX6_init, cX6_init, 1, none, RX6, 9, 66), [
  (26, [(0, (.aload_n 0, 1, [], .null)), (1, (.invokespecial 3, 3, [0, 381], .null)), (4, (.aload_n 0, 1, [], .null)), (5, (.iconst 0, 1, [], .null)), (6, (.putfield 9, 3, [6, 0, 382, 0], .null)), (9, (.aload_n 0, 1, [], .null)), (10, (.iconst 0, 1, [], .null)), (11, (.putfield 15, 3, [6, 1, 385, 0], .null)), (14, (.aload_n 0, 1, [], .null)), (15, (.iconst 0, 1, [], .null)), (16, (.putfield 18, 3, [6, 2, 387, 0], .null)), (19, (.aload_n 0, 1, [], .null)), (20, (.iconst 0, 1, [], .null)), (21, (.putfield 21, 3, [6, 3, 389, 0], .null)), (24, (.aload_n 0, 1, [], .null)), (25, (.iconst 0, 1, [], .null))]),
  (50, [(26, (.putfield 24, 3, [6, 4, 393, 0], .null)), (29, (.aload_n 0, 1, [], .null)), (30, (.iconst 0, 1, [], .null)), (31, (.putfield 27, 3, [6, 5, 396, 0], .null)), (34, (.aload_n 0, 1, [], .null)), (35, (.iconst 0, 1, [], .null)), (36, (.putfield 30, 3, [6, 6, 398, 0], .null)), (39, (.aload_n 0, 1, [], .null)), (40, (.bipush 8, 2, [], .null)), (42, (.newarray .int, 2, [321], .null)), (44, (.dup, 1, [], .null)), (45, (.iconst 0, 1, [], .null)), (46, (.iconst (-1), 1, [], .null)), (47, (.iastore, 1, [], .null)), (48, (.dup, 1, [], .null)), (49, (.iconst 1, 1, [], .null))]),
  (66, [(50, (.iconst (-1), 1, [], .null)), (51, (.iastore, 1, [], .null)), (52, (.dup, 1, [], .null)), (53, (.iconst 2, 1, [], .null)), (54, (.iconst (-1), 1, [], .null)), (55, (.iastore, 1, [], .null)), (56, (.dup, 1, [], .null)), (57, (.iconst 3, 1, [], .null)), (58, (.iconst (-1), 1, [], .null)), (59, (.iastore, 1, [], .null)), (60, (.dup, 1, [], .null)), (61, (.iconst 4, 1, [], .null)), (62, (.iconst (-1), 1, [], .null)), (63, (.iastore, 1, [], .null)), (64, (.dup, 1, [], .null)), (65, (.iconst 5, 1, [], .null))]),
  (90, [(66, (.iconst (-1), 1, [], .null)), (67, (.iastore, 1, [], .null)), (68, (.dup, 1, [], .null)), (69, (.bipush 6, 2, [], .null)), (71, (.iconst (-1), 1, [], .null)), (72, (.iastore, 1, [], .null)), (73, (.dup, 1, [], .null)), (74, (.bipush 7, 2, [], .null)), (76, (.iconst (-1), 1, [], .null)), (77, (.iastore, 1, [], .null)), (78, (.putfield 33, 3, [6, 7, 399, 3], .null)), (81, (.aload_n 0, 1, [], .null)), (82, (.bipush 8, 2, [], .null)), (84, (.newarray .int, 2, [321], .null)), (86, (.putfield 37, 3, [6, 8, 401, 3], .null)), (89, (.aload_n 0, 1, [], .null))]),
  (122, [(90, (.bipush 8, 2, [], .null)), (92, (.newarray .int, 2, [321], .null)), (94, (.putfield 40, 3, [6, 9, 404, 3], .null)), (97, (.aload_n 0, 1, [], .null)), (98, (.bipush 8, 2, [], .null)), (100, (.newarray .int, 2, [321], .null)), (102, (.putfield 43, 3, [6, 10, 407, 3], .null)), (105, (.aload_n 0, 1, [], .null)), (106, (.bipush 8, 2, [], .null)), (108, (.newarray .int, 2, [321], .null)), (110, (.putfield 46, 3, [6, 11, 409, 3], .null)), (113, (.aload_n 0, 1, [], .null)), (114, (.bipush 8, 2, [], .null)), (116, (.newarray .int, 2, [321], .null)), (118, (.putfield 49, 3, [6, 12, 412, 3], .null)), (121, (.aload_n 0, 1, [], .null))]),
  (146, [(122, (.bipush 6, 2, [], .null)), (124, (.newarray .int, 2, [321], .null)), (126, (.putfield 52, 3, [6, 13, 414, 3], .null)), (129, (.aload_n 0, 1, [], .null)), (130, (.bipush 6, 2, [], .null)), (132, (.newarray .int, 2, [321], .null)), (134, (.putfield 55, 3, [6, 14, 416, 3], .null)), (137, (.aload_n 0, 1, [], .null)), (138, (.bipush 6, 2, [], .null)), (140, (.newarray .int, 2, [321], .null)), (142, (.putfield 58, 3, [6, 15, 418, 3], .null)), (145, (.return_, 1, [], .null))])])
def md_51 : ri_M × ri_T := ((yX6_begin, cX6_begin, 3, none, RX6, 0, 0), [
  (26, [(0, (.aload_n 0, 1, [], .null)), (1, (.iconst 0, 1, [], .null)), (2, (.putfield 9, 3, [6, 0, 382, 0], .null)), (5, (.aload_n 0, 1, [], .null)), (6, (.iconst 0, 1, [], .null)), (7, (.putfield 15, 3, [6, 1, 385, 0], .null)), (10, (.aload_n 0, 1, [], .null)), (11, (.iconst 0, 1, [], .null)), (12, (.putfield 18, 3, [6, 2, 387, 0], .null)), (15, (.aload_n 0, 1, [], .null)), (16, (.iconst 0, 1, [], .null)), (17, (.putfield 21, 3, [6, 3, 389, 0], .null)), (20, (.aload_n 0, 1, [], .null)), (21, (.iconst 0, 1, [], .null)), (22, (.putfield 24, 3, [6, 4, 393, 0], .null)), (25, (.aload_n 0, 1, [], .null))]),
  (51, [(26, (.iconst 0, 1, [], .null)), (27, (.putfield 27, 3, [6, 5, 396, 0], .null)), (30, (.aload_n 0, 1, [], .null)), (31, (.iconst 0, 1, [], .null)), (32, (.putfield 30, 3, [6, 6, 398, 0], .null)), (35, (.iconst 0, 1, [], .null)), (36, (.istore_n 2, 1, [], .null)), (37, (.iload_n 2, 1, [], .null)), (38, (.bipush 8, 2, [], .null)), (40, (.if_icmp .ge 51, 3, [91], .null)), (43, (.aload_n 0, 1, [], .null)), (44, (.getfield 33, 3, [6, 7, 399], .null)), (47, (.iload_n 2, 1, [], .null)), (48, (.iconst (-1), 1, [], .null)), (49, (.iastore, 1, [], .null)), (50, (.aload_n 0, 1, [], .null))]),
  (73, [(51, (.getfield 37, 3, [6, 8, 401], .null)), (54, (.iload_n 2, 1, [], .null)), (55, (.iconst 0, 1, [], .null)), (56, (.iastore, 1, [], .null)), (57, (.aload_n 0, 1, [], .null)), (58, (.getfield 40, 3, [6, 9, 404], .null)), (61, (.iload_n 2, 1, [], .null)), (62, (.iconst 0, 1, [], .null)), (63, (.iastore, 1, [], .null)), (64, (.aload_n 0, 1, [], .null)), (65, (.getfield 43, 3, [6, 10, 407], .null)), (68, (.iload_n 2, 1, [], .null)), (69, (.iconst 0, 1, [], .null)), (70, (.iastore, 1, [], .null)), (71, (.aload_n 0, 1, [], .null)), (72, (.getfield 46, 3, [6, 11, 409], .null))]),
  (100, [(75, (.iload_n 2, 1, [], .null)), (76, (.iconst 0, 1, [], .null)), (77, (.iastore, 1, [], .null)), (78, (.aload_n 0, 1, [], .null)), (79, (.getfield 49, 3, [6, 12, 412], .null)), (82, (.iload_n 2, 1, [], .null)), (83, (.iconst 0, 1, [], .null)), (84, (.iastore, 1, [], .null)), (85, (.iinc 2 1, 3, [], .null)), (88, (.goto (-51), 3, [37], .null)), (91, (.iconst 0, 1, [], .null)), (92, (.istore_n 2, 1, [], .null)), (93, (.iload_n 2, 1, [], .null)), (94, (.bipush 6, 2, [], .null)), (96, (.if_icmp .ge 35, 3, [131], .null)), (99, (.aload_n 0, 1, [], .null))]),
  (124, [(100, (.getfield 52, 3, [6, 13, 414], .null)), (103, (.iload_n 2, 1, [], .null)), (104, (.aload_n 1, 1, [], .null)), (105, (.getfield 61, 3, [4, 8, 284], .null)), (108, (.iload_n 2, 1, [], .null)), (109, (.iaload, 1, [], .null)), (110, (.iastore, 1, [], .null)), (111, (.aload_n 0, 1, [], .null)), (112, (.getfield 55, 3, [6, 14, 416], .null)), (115, (.iload_n 2, 1, [], .null)), (116, (.iconst 0, 1, [], .null)), (117, (.iastore, 1, [], .null)), (118, (.aload_n 0, 1, [], .null)), (119, (.getfield 58, 3, [6, 15, 418], .null)), (122, (.iload_n 2, 1, [], .null)), (123, (.iconst 0, 1, [], .null))]),
  (132, [(124, (.iastore, 1, [], .null)), (125, (.iinc 2 1, 3, [], .null)), (128, (.goto (-35), 3, [93], .null)), (131, (.return_, 1, [], .null))])])
def md_52 : ri_M × ri_T := ((yX6_copyFrom, cX6_copyFrom, 2, none, RX6, 0, 0), [
  (30, [(0, (.aload_n 0, 1, [], .null)), (1, (.aload_n 1, 1, [], .null)), (2, (.getfield 9, 3, [6, 0, 382], .null)), (5, (.putfield 9, 3, [6, 0, 382, 0], .null)), (8, (.aload_n 0, 1, [], .null)), (9, (.aload_n 1, 1, [], .null)), (10, (.getfield 15, 3, [6, 1, 385], .null)), (13, (.putfield 15, 3, [6, 1, 385, 0], .null)), (16, (.aload_n 0, 1, [], .null)), (17, (.aload_n 1, 1, [], .null)), (18, (.getfield 18, 3, [6, 2, 387], .null)), (21, (.putfield 18, 3, [6, 2, 387, 0], .null)), (24, (.aload_n 0, 1, [], .null)), (25, (.aload_n 1, 1, [], .null)), (26, (.getfield 21, 3, [6, 3, 389], .null)), (29, (.putfield 21, 3, [6, 3, 389, 0], .null))]),
  (62, [(32, (.aload_n 0, 1, [], .null)), (33, (.aload_n 1, 1, [], .null)), (34, (.getfield 24, 3, [6, 4, 393], .null)), (37, (.putfield 24, 3, [6, 4, 393, 0], .null)), (40, (.aload_n 0, 1, [], .null)), (41, (.aload_n 1, 1, [], .null)), (42, (.getfield 27, 3, [6, 5, 396], .null)), (45, (.putfield 27, 3, [6, 5, 396, 0], .null)), (48, (.aload_n 0, 1, [], .null)), (49, (.aload_n 1, 1, [], .null)), (50, (.getfield 30, 3, [6, 6, 398], .null)), (53, (.putfield 30, 3, [6, 6, 398, 0], .null)), (56, (.aload_n 1, 1, [], .null)), (57, (.getfield 33, 3, [6, 7, 399], .null)), (60, (.iconst 0, 1, [], .null)), (61, (.aload_n 0, 1, [], .null))]),
  (92, [(62, (.getfield 33, 3, [6, 7, 399], .null)), (65, (.iconst 0, 1, [], .null)), (66, (.bipush 8, 2, [], .null)), (68, (.invokestatic 66, 3, [4, 816], .null)), (71, (.aload_n 1, 1, [], .null)), (72, (.getfield 37, 3, [6, 8, 401], .null)), (75, (.iconst 0, 1, [], .null)), (76, (.aload_n 0, 1, [], .null)), (77, (.getfield 37, 3, [6, 8, 401], .null)), (80, (.iconst 0, 1, [], .null)), (81, (.bipush 8, 2, [], .null)), (83, (.invokestatic 66, 3, [4, 816], .null)), (86, (.aload_n 1, 1, [], .null)), (87, (.getfield 40, 3, [6, 9, 404], .null)), (90, (.iconst 0, 1, [], .null)), (91, (.aload_n 0, 1, [], .null))]),
  (122, [(92, (.getfield 40, 3, [6, 9, 404], .null)), (95, (.iconst 0, 1, [], .null)), (96, (.bipush 8, 2, [], .null)), (98, (.invokestatic 66, 3, [4, 816], .null)), (101, (.aload_n 1, 1, [], .null)), (102, (.getfield 43, 3, [6, 10, 407], .null)), (105, (.iconst 0, 1, [], .null)), (106, (.aload_n 0, 1, [], .null)), (107, (.getfield 43, 3, [6, 10, 407], .null)), (110, (.iconst 0, 1, [], .null)), (111, (.bipush 8, 2, [], .null)), (113, (.invokestatic 66, 3, [4, 816], .null)), (116, (.aload_n 1, 1, [], .null)), (117, (.getfield 46, 3, [6, 11, 409], .null)), (120, (.iconst 0, 1, [], .null)), (121, (.aload_n 0, 1, [], .null))]),
  (152, [(122, (.getfield 46, 3, [6, 11, 409], .null)), (125, (.iconst 0, 1, [], .null)), (126, (.bipush 8, 2, [], .null)), (128, (.invokestatic 66, 3, [4, 816], .null)), (131, (.aload_n 1, 1, [], .null)), (132, (.getfield 49, 3, [6, 12, 412], .null)), (135, (.iconst 0, 1, [], .null)), (136, (.aload_n 0, 1, [], .null)), (137, (.getfield 49, 3, [6, 12, 412], .null)), (140, (.iconst 0, 1, [], .null)), (141, (.bipush 8, 2, [], .null)), (143, (.invokestatic 66, 3, [4, 816], .null)), (146, (.aload_n 1, 1, [], .null)), (147, (.getfield 52, 3, [6, 13, 414], .null)), (150, (.iconst 0, 1, [], .null)), (151, (.aload_n 0, 1, [], .null))]),
  (182, [(152, (.getfield 52, 3, [6, 13, 414], .null)), (155, (.iconst 0, 1, [], .null)), (156, (.bipush 6, 2, [], .null)), (158, (.invokestatic 66, 3, [4, 816], .null)), (161, (.aload_n 1, 1, [], .null)), (162, (.getfield 55, 3, [6, 14, 416], .null)), (165, (.iconst 0, 1, [], .null)), (166, (.aload_n 0, 1, [], .null)), (167, (.getfield 55, 3, [6, 14, 416], .null)), (170, (.iconst 0, 1, [], .null)), (171, (.bipush 6, 2, [], .null)), (173, (.invokestatic 66, 3, [4, 816], .null)), (176, (.aload_n 1, 1, [], .null)), (177, (.getfield 58, 3, [6, 15, 418], .null)), (180, (.iconst 0, 1, [], .null)), (181, (.aload_n 0, 1, [], .null))]),
  (192, [(182, (.getfield 58, 3, [6, 15, 418], .null)), (185, (.iconst 0, 1, [], .null)), (186, (.bipush 6, 2, [], .null)), (188, (.invokestatic 66, 3, [4, 816], .null)), (191, (.return_, 1, [], .null))])])
def md_53 : ri_M × ri_T := ((yX6_heightAt, cX6_heightAt, 2, (some .int), RX6, 0, 0), [
  (11, [(0, (.aload_n 0, 1, [], .null)), (1, (.getfield 30, 3, [6, 6, 398], .null)), (4, (.iconst 2, 1, [], .null)), (5, (.iload_n 1, 1, [], .null)), (6, (.imul, 1, [], .null)), (7, (.ishr, 1, [], .null)), (8, (.iconst 3, 1, [], .null)), (9, (.iand, 1, [], .null)), (10, (.ireturn, 1, [], .null))])])
def md_54 : ri_M × ri_T := ((yX6_daysLeft, cX6_daysLeft, 1, (some .int), RX6, 0, 0), [
  (9, [(0, (.sipush 600, 3, [], .null)), (3, (.aload_n 0, 1, [], .null)), (4, (.getfield 9, 3, [6, 0, 382], .null)), (7, (.isub, 1, [], .null)), (8, (.ireturn, 1, [], .null))])])
def md_55 : ri_M × ri_T := ((yX6_confused, cX6_confused, 5, (some .int), RX6, 0, 0), [
  (24, [(0, (.iconst 0, 1, [], .null)), (1, (.istore_n 2, 1, [], .null)), (2, (.iconst 0, 1, [], .null)), (3, (.istore_n 3, 1, [], .null)), (4, (.iload_n 3, 1, [], .null)), (5, (.aload_n 1, 1, [], .null)), (6, (.getfield 72, 3, [4, 2, 267], .null)), (9, (.iconst 0, 1, [], .null)), (10, (.iaload, 1, [], .null)), (11, (.if_icmp .ge 37, 3, [48], .null)), (14, (.aload_n 0, 1, [], .null)), (15, (.getfield 24, 3, [6, 4, 393], .null)), (18, (.aload_n 1, 1, [], .null)), (19, (.getfield 75, 3, [4, 4, 273], .null)), (22, (.iload_n 3, 1, [], .null)), (23, (.iaload, 1, [], .null))]),
  (50, [(24, (.iand, 1, [], .null)), (25, (.istore 4, 2, [], .null)), (27, (.iload 4, 2, [], .null)), (29, (.iload 4, 2, [], .null)), (31, (.iconst 1, 1, [], .null)), (32, (.isub, 1, [], .null)), (33, (.iand, 1, [], .null)), (34, (.ifCond .eq 8, 3, [42], .null)), (37, (.iload_n 2, 1, [], .null)), (38, (.iload 4, 2, [], .null)), (40, (.ior, 1, [], .null)), (41, (.istore_n 2, 1, [], .null)), (42, (.iinc 3 1, 3, [], .null)), (45, (.goto (-41), 3, [4], .null)), (48, (.iload_n 2, 1, [], .null)), (49, (.ireturn, 1, [], .null))])])
def md_56 : ri_M × ri_T := ((yX6_needed, cX6_needed, 5, (some .int), RX6, 0, 0), [
  (24, [(0, (.iconst 0, 1, [], .null)), (1, (.istore_n 3, 1, [], .null)), (2, (.iconst 0, 1, [], .null)), (3, (.istore 4, 2, [], .null)), (5, (.iload 4, 2, [], .null)), (7, (.aload_n 1, 1, [], .null)), (8, (.getfield 72, 3, [4, 2, 267], .null)), (11, (.iconst 1, 1, [], .null)), (12, (.iaload, 1, [], .null)), (13, (.if_icmp .ge 60, 3, [73], .null)), (16, (.iload_n 2, 1, [], .null)), (17, (.aload_n 0, 1, [], .null)), (18, (.getfield 21, 3, [6, 3, 389], .null)), (21, (.iconst (-1), 1, [], .null)), (22, (.ixor, 1, [], .null)), (23, (.iand, 1, [], .null))]),
  (48, [(24, (.iload 4, 2, [], .null)), (26, (.ishr, 1, [], .null)), (27, (.ifCond .ne 6, 3, [33], .null)), (30, (.goto 43, 3, [73], .null)), (33, (.iload_n 2, 1, [], .null)), (34, (.aload_n 0, 1, [], .null)), (35, (.getfield 21, 3, [6, 3, 389], .null)), (38, (.iconst (-1), 1, [], .null)), (39, (.ixor, 1, [], .null)), (40, (.iand, 1, [], .null)), (41, (.iload 4, 2, [], .null)), (43, (.ishr, 1, [], .null)), (44, (.iconst 1, 1, [], .null)), (45, (.iand, 1, [], .null)), (46, (.iconst 1, 1, [], .null)), (47, (.if_icmp .ne 20, 3, [67], .null))]),
  (75, [(50, (.iload_n 3, 1, [], .null)), (51, (.aload_n 1, 1, [], .null)), (52, (.getfield 78, 3, [4, 0, 257], .null)), (55, (.iconst 1, 1, [], .null)), (56, (.iaload, 1, [], .null)), (57, (.aload_n 0, 1, [], .null)), (58, (.getfield 37, 3, [6, 8, 401], .null)), (61, (.iload 4, 2, [], .null)), (63, (.iaload, 1, [], .null)), (64, (.isub, 1, [], .null)), (65, (.iadd, 1, [], .null)), (66, (.istore_n 3, 1, [], .null)), (67, (.iinc 4 1, 3, [], .null)), (70, (.goto (-65), 3, [5], .null)), (73, (.iload_n 3, 1, [], .null)), (74, (.ireturn, 1, [], .null))])])
def md_57 : ri_M × ri_T := ((yX6_whyNotShown, cX6_whyNotShown, 3, (some .int), RX6, 0, 0), [
  (26, [(0, (.aload_n 1, 1, [], .null)), (1, (.aload_n 0, 1, [], .null)), (2, (.getfield 9, 3, [6, 0, 382], .null)), (5, (.invokevirtual 81, 3, [1, 39, 1, 4, 807, 793, 792], .null)), (8, (.ifCond .eq 5, 3, [13], .null)), (11, (.iconst 1, 1, [], .null)), (12, (.ireturn, 1, [], .null)), (13, (.aload_n 0, 1, [], .null)), (14, (.getfield 24, 3, [6, 4, 393], .null)), (17, (.iload_n 2, 1, [], .null)), (18, (.ishr, 1, [], .null)), (19, (.iconst 1, 1, [], .null)), (20, (.iand, 1, [], .null)), (21, (.iconst 1, 1, [], .null)), (22, (.if_icmp .ne 5, 3, [27], .null)), (25, (.iconst 2, 1, [], .null))]),
  (45, [(26, (.ireturn, 1, [], .null)), (27, (.aload_n 0, 1, [], .null)), (28, (.getfield 21, 3, [6, 3, 389], .null)), (31, (.iload_n 2, 1, [], .null)), (32, (.ishr, 1, [], .null)), (33, (.iconst 1, 1, [], .null)), (34, (.iand, 1, [], .null)), (35, (.iconst 1, 1, [], .null)), (36, (.if_icmp .ne 7, 3, [43], .null)), (39, (.iconst 3, 1, [], .null)), (40, (.goto 4, 3, [44], .null)), (43, (.iconst 0, 1, [], .null)), (44, (.ireturn, 1, [], .null))])])
def md_58 : ri_M × ri_T := ((yX6_beShown, cX6_beShown, 3, none, RX6, 0, 0), [
  (22, [(0, (.aload_n 0, 1, [], .null)), (1, (.dup, 1, [], .null)), (2, (.getfield 24, 3, [6, 4, 393], .null)), (5, (.iconst 1, 1, [], .null)), (6, (.iload_n 2, 1, [], .null)), (7, (.ishl, 1, [], .null)), (8, (.ior, 1, [], .null)), (9, (.putfield 24, 3, [6, 4, 393, 0], .null)), (12, (.aload_n 0, 1, [], .null)), (13, (.getfield 33, 3, [6, 7, 399], .null)), (16, (.iload_n 2, 1, [], .null)), (17, (.iload_n 1, 1, [], .null)), (18, (.iastore, 1, [], .null)), (19, (.aload_n 0, 1, [], .null)), (20, (.dup, 1, [], .null)), (21, (.getfield 18, 3, [6, 2, 387], .null))]),
  (30, [(24, (.iconst 1, 1, [], .null)), (25, (.iadd, 1, [], .null)), (26, (.putfield 18, 3, [6, 2, 387, 0], .null)), (29, (.return_, 1, [], .null))])])
def md_59 : ri_M × ri_T := ((yX6_whyNotRung, cX6_whyNotRung, 2, (some .int), RX6, 0, 0), [
  (17, [(0, (.aload_n 1, 1, [], .null)), (1, (.aload_n 0, 1, [], .null)), (2, (.getfield 9, 3, [6, 0, 382], .null)), (5, (.invokevirtual 81, 3, [1, 39, 1, 4, 807, 793, 792], .null)), (8, (.ifCond .eq 7, 3, [15], .null)), (11, (.iconst 1, 1, [], .null)), (12, (.goto 4, 3, [16], .null)), (15, (.iconst 0, 1, [], .null)), (16, (.ireturn, 1, [], .null))])])
def md_60 : ri_M × ri_T := ((yX6_hear, cX6_hear, 6, none, RX6, 0, 0), [
  (28, [(0, (.aload_n 0, 1, [], .null)), (1, (.dup, 1, [], .null)), (2, (.getfield 15, 3, [6, 1, 385], .null)), (5, (.iconst 1, 1, [], .null)), (6, (.iadd, 1, [], .null)), (7, (.putfield 15, 3, [6, 1, 385, 0], .null)), (10, (.aload_n 0, 1, [], .null)), (11, (.aload_n 1, 1, [], .null)), (12, (.iload_n 2, 1, [], .null)), (13, (.aload_n 0, 1, [], .null)), (14, (.getfield 21, 3, [6, 3, 389], .null)), (17, (.invokevirtual 85, 3, [1, 33, 2, 4, 834, 836, 835], .null)), (20, (.putfield 30, 3, [6, 6, 398, 0], .null)), (23, (.aload_n 0, 1, [], .null)), (24, (.getfield 21, 3, [6, 3, 389], .null)), (27, (.aload_n 1, 1, [], .null))]),
  (53, [(28, (.getfield 75, 3, [4, 4, 273], .null)), (31, (.iload_n 2, 1, [], .null)), (32, (.iaload, 1, [], .null)), (33, (.iand, 1, [], .null)), (34, (.istore_n 3, 1, [], .null)), (35, (.iconst 0, 1, [], .null)), (36, (.istore 4, 2, [], .null)), (38, (.iload 4, 2, [], .null)), (40, (.aload_n 1, 1, [], .null)), (41, (.getfield 72, 3, [4, 2, 267], .null)), (44, (.iconst 1, 1, [], .null)), (45, (.iaload, 1, [], .null)), (46, (.if_icmp .ge 41, 3, [87], .null)), (49, (.iload_n 3, 1, [], .null)), (50, (.iload 4, 2, [], .null)), (52, (.ishr, 1, [], .null))]),
  (77, [(53, (.iconst 1, 1, [], .null)), (54, (.iand, 1, [], .null)), (55, (.iconst 1, 1, [], .null)), (56, (.if_icmp .ne 25, 3, [81], .null)), (59, (.aload_n 0, 1, [], .null)), (60, (.getfield 46, 3, [6, 11, 409], .null)), (63, (.iload 4, 2, [], .null)), (65, (.dup2, 1, [], .null)), (66, (.iaload, 1, [], .null)), (67, (.iconst 1, 1, [], .null)), (68, (.iadd, 1, [], .null)), (69, (.iastore, 1, [], .null)), (70, (.aload_n 0, 1, [], .null)), (71, (.getfield 43, 3, [6, 10, 407], .null)), (74, (.iload 4, 2, [], .null)), (76, (.aload_n 0, 1, [], .null))]),
  (108, [(77, (.getfield 9, 3, [6, 0, 382], .null)), (80, (.iastore, 1, [], .null)), (81, (.iinc 4 1, 3, [], .null)), (84, (.goto (-46), 3, [38], .null)), (87, (.aload_n 1, 1, [], .null)), (88, (.iload_n 2, 1, [], .null)), (89, (.aload_n 0, 1, [], .null)), (90, (.getfield 21, 3, [6, 3, 389], .null)), (93, (.invokevirtual 89, 3, [1, 34, 2, 4, 838, 840, 839], .null)), (96, (.istore 4, 2, [], .null)), (98, (.iconst 0, 1, [], .null)), (99, (.istore 5, 2, [], .null)), (101, (.iload 5, 2, [], .null)), (103, (.aload_n 1, 1, [], .null)), (104, (.getfield 72, 3, [4, 2, 267], .null)), (107, (.iconst 3, 1, [], .null))]),
  (134, [(108, (.iaload, 1, [], .null)), (109, (.if_icmp .ge 49, 3, [158], .null)), (112, (.iload 4, 2, [], .null)), (114, (.aload_n 0, 1, [], .null)), (115, (.getfield 52, 3, [6, 13, 414], .null)), (118, (.iload 5, 2, [], .null)), (120, (.iaload, 1, [], .null)), (121, (.ishr, 1, [], .null)), (122, (.iconst 1, 1, [], .null)), (123, (.iand, 1, [], .null)), (124, (.iconst 1, 1, [], .null)), (125, (.if_icmp .ne 27, 3, [152], .null)), (128, (.aload_n 0, 1, [], .null)), (129, (.dup, 1, [], .null)), (130, (.getfield 27, 3, [6, 5, 396], .null)), (133, (.iconst 1, 1, [], .null))]),
  (159, [(134, (.iload 5, 2, [], .null)), (136, (.ishl, 1, [], .null)), (137, (.ior, 1, [], .null)), (138, (.putfield 27, 3, [6, 5, 396, 0], .null)), (141, (.aload_n 0, 1, [], .null)), (142, (.getfield 55, 3, [6, 14, 416], .null)), (145, (.iload 5, 2, [], .null)), (147, (.dup2, 1, [], .null)), (148, (.iaload, 1, [], .null)), (149, (.iconst 1, 1, [], .null)), (150, (.iadd, 1, [], .null)), (151, (.iastore, 1, [], .null)), (152, (.iinc 5 1, 3, [], .null)), (155, (.goto (-54), 3, [101], .null)), (158, (.return_, 1, [], .null))])])
def md_61 : ri_M × ri_T := ((yX6_whyNotSailed, cX6_whyNotSailed, 4, (some .int), RX6, 0, 0), [
  (26, [(0, (.aload_n 0, 1, [], .null)), (1, (.getfield 52, 3, [6, 13, 414], .null)), (4, (.iload_n 2, 1, [], .null)), (5, (.iaload, 1, [], .null)), (6, (.iload_n 3, 1, [], .null)), (7, (.if_icmp .ne 5, 3, [12], .null)), (10, (.iconst 1, 1, [], .null)), (11, (.ireturn, 1, [], .null)), (12, (.aload_n 1, 1, [], .null)), (13, (.aload_n 0, 1, [], .null)), (14, (.getfield 9, 3, [6, 0, 382], .null)), (17, (.invokevirtual 81, 3, [1, 39, 1, 4, 807, 793, 792], .null)), (20, (.ifCond .eq 5, 3, [25], .null)), (23, (.iconst 2, 1, [], .null)), (24, (.ireturn, 1, [], .null)), (25, (.aload_n 0, 1, [], .null))]),
  (40, [(26, (.iload_n 3, 1, [], .null)), (27, (.invokevirtual 92, 3, [1, 53, 1, 6, 853, 785, 784], .null)), (30, (.iconst 3, 1, [], .null)), (31, (.if_icmp .ne 7, 3, [38], .null)), (34, (.iconst 3, 1, [], .null)), (35, (.goto 4, 3, [39], .null)), (38, (.iconst 0, 1, [], .null)), (39, (.ireturn, 1, [], .null))])])
def md_62 : ri_M × ri_T := ((yX6_moveBoat, cX6_moveBoat, 3, none, RX6, 0, 0), [
  (18, [(0, (.aload_n 0, 1, [], .null)), (1, (.getfield 52, 3, [6, 13, 414], .null)), (4, (.iload_n 1, 1, [], .null)), (5, (.iload_n 2, 1, [], .null)), (6, (.iastore, 1, [], .null)), (7, (.aload_n 0, 1, [], .null)), (8, (.getfield 58, 3, [6, 15, 418], .null)), (11, (.iload_n 1, 1, [], .null)), (12, (.dup2, 1, [], .null)), (13, (.iaload, 1, [], .null)), (14, (.iconst 1, 1, [], .null)), (15, (.iadd, 1, [], .null)), (16, (.iastore, 1, [], .null)), (17, (.return_, 1, [], .null))])])
def md_63 : ri_M × ri_T := ((yX6_passDays, cX6_passDays, 4, none, RX6, 0, 0), [
  (29, [(0, (.iconst 0, 1, [], .null)), (1, (.istore_n 3, 1, [], .null)), (2, (.iload_n 3, 1, [], .null)), (3, (.iload_n 2, 1, [], .null)), (4, (.if_icmp .ge 24, 3, [28], .null)), (7, (.aload_n 0, 1, [], .null)), (8, (.getfield 9, 3, [6, 0, 382], .null)), (11, (.sipush 600, 3, [], .null)), (14, (.if_icmp .ge 14, 3, [28], .null)), (17, (.aload_n 0, 1, [], .null)), (18, (.aload_n 1, 1, [], .null)), (19, (.invokevirtual 96, 3, [1, 64, 1, 6, 871, 873, 872], .null)), (22, (.iinc 3 1, 3, [], .null)), (25, (.goto (-23), 3, [2], .null)), (28, (.return_, 1, [], .null))])])
def md_64 : ri_M × ri_T := ((yX6_finishDay, cX6_finishDay, 4, none, RX6, 0, 0), [
  (30, [(0, (.aload_n 1, 1, [], .null)), (1, (.aload_n 0, 1, [], .null)), (2, (.getfield 9, 3, [6, 0, 382], .null)), (5, (.iconst 1, 1, [], .null)), (6, (.iadd, 1, [], .null)), (7, (.invokevirtual 81, 3, [1, 39, 1, 4, 807, 793, 792], .null)), (10, (.ifCond .eq 18, 3, [28], .null)), (13, (.aload_n 1, 1, [], .null)), (14, (.aload_n 0, 1, [], .null)), (15, (.getfield 9, 3, [6, 0, 382], .null)), (18, (.invokevirtual 81, 3, [1, 39, 1, 4, 807, 793, 792], .null)), (21, (.ifCond .ne 7, 3, [28], .null)), (24, (.iconst 1, 1, [], .null)), (25, (.goto 4, 3, [29], .null)), (28, (.iconst 0, 1, [], .null)), (29, (.istore_n 2, 1, [], .null))]),
  (54, [(30, (.aload_n 0, 1, [], .null)), (31, (.aload_n 1, 1, [], .null)), (32, (.invokevirtual 100, 3, [1, 65, 1, 6, 875, 10, 877], .null)), (35, (.iconst 0, 1, [], .null)), (36, (.istore_n 3, 1, [], .null)), (37, (.iload_n 3, 1, [], .null)), (38, (.aload_n 1, 1, [], .null)), (39, (.getfield 72, 3, [4, 2, 267], .null)), (42, (.iconst 1, 1, [], .null)), (43, (.iaload, 1, [], .null)), (44, (.if_icmp .ge 47, 3, [91], .null)), (47, (.aload_n 0, 1, [], .null)), (48, (.getfield 21, 3, [6, 3, 389], .null)), (51, (.iload_n 3, 1, [], .null)), (52, (.ishr, 1, [], .null)), (53, (.iconst 1, 1, [], .null))]),
  (78, [(54, (.iand, 1, [], .null)), (55, (.iconst 1, 1, [], .null)), (56, (.if_icmp .ne 9, 3, [65], .null)), (59, (.aload_n 0, 1, [], .null)), (60, (.aload_n 1, 1, [], .null)), (61, (.iload_n 3, 1, [], .null)), (62, (.invokevirtual 103, 3, [1, 66, 2, 6, 880, 11, 882], .null)), (65, (.iload_n 2, 1, [], .null)), (66, (.ifCond .eq 19, 3, [85], .null)), (69, (.aload_n 0, 1, [], .null)), (70, (.getfield 21, 3, [6, 3, 389], .null)), (73, (.iload_n 3, 1, [], .null)), (74, (.ishr, 1, [], .null)), (75, (.iconst 1, 1, [], .null)), (76, (.iand, 1, [], .null)), (77, (.ifCond .ne 8, 3, [85], .null))]),
  (107, [(80, (.aload_n 0, 1, [], .null)), (81, (.iload_n 3, 1, [], .null)), (82, (.invokevirtual 107, 3, [1, 67, 1, 6, 888, 12, 890], .null)), (85, (.iinc 3 1, 3, [], .null)), (88, (.goto (-51), 3, [37], .null)), (91, (.aload_n 0, 1, [], .null)), (92, (.iconst 0, 1, [], .null)), (93, (.putfield 30, 3, [6, 6, 398, 0], .null)), (96, (.aload_n 0, 1, [], .null)), (97, (.dup, 1, [], .null)), (98, (.getfield 9, 3, [6, 0, 382], .null)), (101, (.iconst 1, 1, [], .null)), (102, (.iadd, 1, [], .null)), (103, (.putfield 9, 3, [6, 0, 382, 0], .null)), (106, (.return_, 1, [], .null))])])
def md_65 : ri_M × ri_T := ((yX6_countShowings, cX6_countShowings, 4, none, RX6, 0, 0), [
  (24, [(0, (.aload_n 0, 1, [], .null)), (1, (.getfield 24, 3, [6, 4, 393], .null)), (4, (.ifCond .ne 4, 3, [8], .null)), (7, (.return_, 1, [], .null)), (8, (.aload_n 0, 1, [], .null)), (9, (.getfield 24, 3, [6, 4, 393], .null)), (12, (.aload_n 0, 1, [], .null)), (13, (.aload_n 1, 1, [], .null)), (14, (.invokevirtual 111, 3, [1, 55, 1, 6, 879, 797, 796], .null)), (17, (.iconst (-1), 1, [], .null)), (18, (.ixor, 1, [], .null)), (19, (.iand, 1, [], .null)), (20, (.istore_n 2, 1, [], .null)), (21, (.iconst 0, 1, [], .null)), (22, (.istore_n 3, 1, [], .null)), (23, (.iload_n 3, 1, [], .null))]),
  (48, [(24, (.aload_n 1, 1, [], .null)), (25, (.getfield 72, 3, [4, 2, 267], .null)), (28, (.iconst 1, 1, [], .null)), (29, (.iaload, 1, [], .null)), (30, (.if_icmp .ge 89, 3, [119], .null)), (33, (.iload_n 2, 1, [], .null)), (34, (.iload_n 3, 1, [], .null)), (35, (.ishr, 1, [], .null)), (36, (.iconst 1, 1, [], .null)), (37, (.iand, 1, [], .null)), (38, (.iconst 1, 1, [], .null)), (39, (.if_icmp .ne 67, 3, [106], .null)), (42, (.aload_n 0, 1, [], .null)), (43, (.getfield 37, 3, [6, 8, 401], .null)), (46, (.iload_n 3, 1, [], .null)), (47, (.dup2, 1, [], .null))]),
  (68, [(48, (.iaload, 1, [], .null)), (49, (.iconst 1, 1, [], .null)), (50, (.iadd, 1, [], .null)), (51, (.iastore, 1, [], .null)), (52, (.aload_n 0, 1, [], .null)), (53, (.getfield 40, 3, [6, 9, 404], .null)), (56, (.iload_n 3, 1, [], .null)), (57, (.dup2, 1, [], .null)), (58, (.iaload, 1, [], .null)), (59, (.iconst 1, 1, [], .null)), (60, (.aload_n 0, 1, [], .null)), (61, (.getfield 33, 3, [6, 7, 399], .null)), (64, (.iload_n 3, 1, [], .null)), (65, (.iaload, 1, [], .null)), (66, (.ishl, 1, [], .null)), (67, (.ior, 1, [], .null))]),
  (92, [(68, (.iastore, 1, [], .null)), (69, (.aload_n 0, 1, [], .null)), (70, (.getfield 37, 3, [6, 8, 401], .null)), (73, (.iload_n 3, 1, [], .null)), (74, (.iaload, 1, [], .null)), (75, (.aload_n 1, 1, [], .null)), (76, (.getfield 78, 3, [4, 0, 257], .null)), (79, (.iconst 1, 1, [], .null)), (80, (.iaload, 1, [], .null)), (81, (.if_icmp .lt 25, 3, [106], .null)), (84, (.aload_n 0, 1, [], .null)), (85, (.dup, 1, [], .null)), (86, (.getfield 21, 3, [6, 3, 389], .null)), (89, (.iconst 1, 1, [], .null)), (90, (.iload_n 3, 1, [], .null)), (91, (.ishl, 1, [], .null))]),
  (120, [(92, (.ior, 1, [], .null)), (93, (.putfield 21, 3, [6, 3, 389, 0], .null)), (96, (.aload_n 0, 1, [], .null)), (97, (.getfield 43, 3, [6, 10, 407], .null)), (100, (.iload_n 3, 1, [], .null)), (101, (.aload_n 0, 1, [], .null)), (102, (.getfield 9, 3, [6, 0, 382], .null)), (105, (.iastore, 1, [], .null)), (106, (.aload_n 0, 1, [], .null)), (107, (.getfield 33, 3, [6, 7, 399], .null)), (110, (.iload_n 3, 1, [], .null)), (111, (.iconst (-1), 1, [], .null)), (112, (.iastore, 1, [], .null)), (113, (.iinc 3 1, 3, [], .null)), (116, (.goto (-93), 3, [23], .null)), (119, (.aload_n 0, 1, [], .null))]),
  (125, [(120, (.iconst 0, 1, [], .null)), (121, (.putfield 24, 3, [6, 4, 393, 0], .null)), (124, (.return_, 1, [], .null))])])
def md_66 : ri_M × ri_T := ((yX6_keepOrForget, cX6_keepOrForget, 3, none, RX6, 0, 0), [
  (30, [(0, (.aload_n 1, 1, [], .null)), (1, (.aload_n 0, 1, [], .null)), (2, (.getfield 9, 3, [6, 0, 382], .null)), (5, (.invokevirtual 115, 3, [1, 41, 1, 4, 884, 886, 885], .null)), (8, (.ifCond .eq 13, 3, [21], .null)), (11, (.aload_n 0, 1, [], .null)), (12, (.getfield 43, 3, [6, 10, 407], .null)), (15, (.iload_n 2, 1, [], .null)), (16, (.aload_n 0, 1, [], .null)), (17, (.getfield 9, 3, [6, 0, 382], .null)), (20, (.iastore, 1, [], .null)), (21, (.aload_n 0, 1, [], .null)), (22, (.getfield 9, 3, [6, 0, 382], .null)), (25, (.aload_n 0, 1, [], .null)), (26, (.getfield 43, 3, [6, 10, 407], .null)), (29, (.iload_n 2, 1, [], .null))]),
  (52, [(30, (.iaload, 1, [], .null)), (31, (.isub, 1, [], .null)), (32, (.aload_n 1, 1, [], .null)), (33, (.getfield 78, 3, [4, 0, 257], .null)), (36, (.iconst 2, 1, [], .null)), (37, (.iaload, 1, [], .null)), (38, (.if_icmp .lt 32, 3, [70], .null)), (41, (.aload_n 0, 1, [], .null)), (42, (.getfield 49, 3, [6, 12, 412], .null)), (45, (.iload_n 2, 1, [], .null)), (46, (.dup2, 1, [], .null)), (47, (.iaload, 1, [], .null)), (48, (.iconst 1, 1, [], .null)), (49, (.iadd, 1, [], .null)), (50, (.iastore, 1, [], .null)), (51, (.aload_n 0, 1, [], .null))]),
  (71, [(52, (.dup, 1, [], .null)), (53, (.getfield 21, 3, [6, 3, 389], .null)), (56, (.iconst 1, 1, [], .null)), (57, (.iload_n 2, 1, [], .null)), (58, (.ishl, 1, [], .null)), (59, (.iconst (-1), 1, [], .null)), (60, (.ixor, 1, [], .null)), (61, (.iand, 1, [], .null)), (62, (.putfield 21, 3, [6, 3, 389, 0], .null)), (65, (.aload_n 0, 1, [], .null)), (66, (.iload_n 2, 1, [], .null)), (67, (.invokevirtual 107, 3, [1, 67, 1, 6, 888, 12, 890], .null)), (70, (.return_, 1, [], .null))])])
def md_67 : ri_M × ri_T := ((yX6_unlearn, cX6_unlearn, 2, none, RX6, 0, 0), [
  (15, [(0, (.aload_n 0, 1, [], .null)), (1, (.getfield 37, 3, [6, 8, 401], .null)), (4, (.iload_n 1, 1, [], .null)), (5, (.iconst 0, 1, [], .null)), (6, (.iastore, 1, [], .null)), (7, (.aload_n 0, 1, [], .null)), (8, (.getfield 40, 3, [6, 9, 404], .null)), (11, (.iload_n 1, 1, [], .null)), (12, (.iconst 0, 1, [], .null)), (13, (.iastore, 1, [], .null)), (14, (.return_, 1, [], .null))])])
def md_68 : ri_M × ri_T := ((yX7_init, cX7_init, 2, none, RX7, 81, 664), [
  (27, [(0, (.aload_n 0, 1, [], .null)), (1, (.invokespecial 3, 3, [0, 458], .null)), (4, (.aload_n 0, 1, [], .null)), (5, (.bipush 8, 2, [], .null)), (7, (.anewarray 11, 3, [17, 459, 460], .null)), (10, (.putfield 13, 3, [7, 0, 462, 3], .null)), (13, (.aload_n 0, 1, [], .null)), (14, (.iconst 0, 1, [], .null)), (15, (.putfield 17, 3, [7, 1, 463, 0], .null)), (18, (.aload_n 0, 1, [], .null)), (19, (.iconst 0, 1, [], .null)), (20, (.putfield 21, 3, [7, 2, 464, 0], .null)), (23, (.iconst 0, 1, [], .null)), (24, (.istore_n 1, 1, [], .null)), (25, (.iload_n 1, 1, [], .null)), (26, (.bipush 8, 2, [], .null))]),
  (51, [(28, (.if_icmp .ge 22, 3, [50], .null)), (31, (.aload_n 0, 1, [], .null)), (32, (.getfield 13, 3, [7, 0, 462], .null)), (35, (.iload_n 1, 1, [], .null)), (36, (.new 11, 3, [6, 459, 377, 109], .null)), (39, (.dup, 1, [], .null)), (40, (.invokespecial 24, 3, [7, 50, 0, 6, 461, 379], .null)), (43, (.aastore, 1, [], .null)), (44, (.iinc 1 1, 3, [], .null)), (47, (.goto (-22), 3, [25], .null)), (50, (.return_, 1, [], .null))])])
def md_69 : ri_M × ri_T := ((yX7_forget, cX7_forget, 1, none, RX7, 0, 0), [
  (6, [(0, (.aload_n 0, 1, [], .null)), (1, (.iconst 0, 1, [], .null)), (2, (.putfield 21, 3, [7, 2, 464, 0], .null)), (5, (.return_, 1, [], .null))])])
def md_70 : ri_M × ri_T := ((yX7_keep, cX7_keep, 2, none, RX7, 0, 0), [
  (27, [(0, (.aload_n 0, 1, [], .null)), (1, (.getfield 13, 3, [7, 0, 462], .null)), (4, (.aload_n 0, 1, [], .null)), (5, (.getfield 17, 3, [7, 1, 463], .null)), (8, (.aaload, 1, [], .null)), (9, (.aload_n 1, 1, [], .null)), (10, (.invokevirtual 25, 3, [1, 52, 1, 6, 812, 814, 813], .null)), (13, (.aload_n 0, 1, [], .null)), (14, (.aload_n 0, 1, [], .null)), (15, (.getfield 17, 3, [7, 1, 463], .null)), (18, (.iconst 1, 1, [], .null)), (19, (.iadd, 1, [], .null)), (20, (.bipush 8, 2, [], .null)), (22, (.irem, 1, [], .null)), (23, (.putfield 17, 3, [7, 1, 463, 0], .null)), (26, (.aload_n 0, 1, [], .null))]),
  (42, [(27, (.aload_n 0, 1, [], .null)), (28, (.getfield 21, 3, [7, 2, 464], .null)), (31, (.iconst 1, 1, [], .null)), (32, (.iadd, 1, [], .null)), (33, (.bipush 8, 2, [], .null)), (35, (.invokestatic 29, 3, [8, 817], .null)), (38, (.putfield 21, 3, [7, 2, 464, 0], .null)), (41, (.return_, 1, [], .null))])])
def md_71 : ri_M × ri_T := ((yX7_takeBack, cX7_takeBack, 2, (some .int), RX7, 0, 0), [
  (26, [(0, (.aload_n 0, 1, [], .null)), (1, (.getfield 21, 3, [7, 2, 464], .null)), (4, (.ifCond .ne 5, 3, [9], .null)), (7, (.iconst (-1), 1, [], .null)), (8, (.ireturn, 1, [], .null)), (9, (.aload_n 0, 1, [], .null)), (10, (.aload_n 0, 1, [], .null)), (11, (.getfield 17, 3, [7, 1, 463], .null)), (14, (.bipush 8, 2, [], .null)), (16, (.iadd, 1, [], .null)), (17, (.iconst 1, 1, [], .null)), (18, (.isub, 1, [], .null)), (19, (.bipush 8, 2, [], .null)), (21, (.irem, 1, [], .null)), (22, (.putfield 17, 3, [7, 1, 463, 0], .null)), (25, (.aload_n 0, 1, [], .null))]),
  (53, [(26, (.dup, 1, [], .null)), (27, (.getfield 21, 3, [7, 2, 464], .null)), (30, (.iconst 1, 1, [], .null)), (31, (.isub, 1, [], .null)), (32, (.putfield 21, 3, [7, 2, 464, 0], .null)), (35, (.aload_n 1, 1, [], .null)), (36, (.aload_n 0, 1, [], .null)), (37, (.getfield 13, 3, [7, 0, 462], .null)), (40, (.aload_n 0, 1, [], .null)), (41, (.getfield 17, 3, [7, 1, 463], .null)), (44, (.aaload, 1, [], .null)), (45, (.invokevirtual 25, 3, [1, 52, 1, 6, 812, 814, 813], .null)), (48, (.aload_n 0, 1, [], .null)), (49, (.getfield 21, 3, [7, 2, 464], .null)), (52, (.ireturn, 1, [], .null))])])
def md_72 : ri_M × ri_T := ((yX8_init, cX8_init, 4, none, RX8, 1, 24), [
  (28, [(0, (.aload_n 0, 1, [], .null)), (1, (.invokespecial 3, 3, [0, 136], .null)), (4, (.aload_n 0, 1, [], .null)), (5, (.bipush 24, 2, [], .null)), (7, (.newarray .long, 2, [232], .null)), (9, (.putfield 9, 3, [8, 1, 188, 3], .null)), (12, (.aload_n 0, 1, [], .null)), (13, (.iconst 0, 1, [], .null)), (14, (.putfield 15, 3, [8, 2, 189, 0], .null)), (17, (.aload_n 0, 1, [], .null)), (18, (.iconst 0, 1, [], .null)), (19, (.putfield 19, 3, [8, 3, 190, 0], .null)), (22, (.aload_n 0, 1, [], .null)), (23, (.iconst 0, 1, [], .null)), (24, (.putfield 22, 3, [8, 4, 191, 0], .null)), (27, (.aload_n 0, 1, [], .null))]),
  (54, [(28, (.iconst 0, 1, [], .null)), (29, (.putfield 25, 3, [8, 5, 192, 0], .null)), (32, (.aload_n 0, 1, [], .null)), (33, (.iconst 0, 1, [], .null)), (34, (.putfield 28, 3, [8, 6, 196, 0], .null)), (37, (.aload_n 0, 1, [], .null)), (38, (.iconst (-1), 1, [], .null)), (39, (.putfield 31, 3, [8, 7, 197, 0], .null)), (42, (.aload_n 0, 1, [], .null)), (43, (.lconst 0, 1, [], .null)), (44, (.putfield 34, 3, [8, 8, 201, 2], .null)), (47, (.aload_n 0, 1, [], .null)), (48, (.iconst 0, 1, [], .null)), (49, (.putfield 38, 3, [8, 9, 204, 0], .null)), (52, (.aload_n 0, 1, [], .null)), (53, (.iconst 0, 1, [], .null))]),
  (82, [(54, (.putfield 41, 3, [8, 10, 206, 0], .null)), (57, (.aload_n 0, 1, [], .null)), (58, (.aload_n 1, 1, [], .null)), (59, (.putfield 44, 3, [8, 0, 187, 3], .null)), (62, (.iconst 0, 1, [], .null)), (63, (.istore_n 2, 1, [], .null)), (64, (.iconst 0, 1, [], .null)), (65, (.istore_n 3, 1, [], .null)), (66, (.iload_n 3, 1, [], .null)), (67, (.ldc 48, 2, [137], .retAddr 5)), (69, (.invokevirtual 50, 3, [6, 256, 0, 0, 138, 140, 139], .null)), (72, (.if_icmp .ge 61, 3, [133], .null)), (75, (.iload_n 2, 1, [], .null)), (76, (.bipush 24, 2, [], .null)), (78, (.if_icmp .ge 55, 3, [133], .null)), (81, (.ldc 48, 2, [137], .retAddr 5))]),
  (114, [(83, (.iload_n 3, 1, [], .null)), (84, (.invokevirtual 55, 3, [6, 257, 1, 0, 148, 150, 149], .null)), (87, (.bipush 32, 2, [], .null)), (89, (.if_icmp .ne 9, 3, [98], .null)), (92, (.iinc 2 1, 3, [], .null)), (95, (.goto 32, 3, [127], .null)), (98, (.aload_n 0, 1, [], .null)), (99, (.getfield 9, 3, [8, 1, 188], .null)), (102, (.iload_n 2, 1, [], .null)), (103, (.aload_n 0, 1, [], .null)), (104, (.getfield 9, 3, [8, 1, 188], .null)), (107, (.iload_n 2, 1, [], .null)), (108, (.laload, 1, [], .null)), (109, (.ldc2_w 59, 3, [186], .long 32)), (112, (.lmul, 1, [], .null)), (113, (.ldc 48, 2, [137], .retAddr 5))]),
  (134, [(115, (.iload_n 3, 1, [], .null)), (116, (.invokevirtual 55, 3, [6, 257, 1, 0, 148, 150, 149], .null)), (119, (.bipush 97, 2, [], .null)), (121, (.isub, 1, [], .null)), (122, (.iconst 1, 1, [], .null)), (123, (.iadd, 1, [], .null)), (124, (.i2l, 1, [], .null)), (125, (.ladd, 1, [], .null)), (126, (.lastore, 1, [], .null)), (127, (.iinc 3 1, 3, [], .null)), (130, (.goto (-64), 3, [66], .null)), (133, (.return_, 1, [], .null))])])
def md_73 : ri_M × ri_T := ((yX8_open, cX8_open, 3, none, RX8, 0, 0), [
  (26, [(0, (.aload_n 0, 1, [], .null)), (1, (.iload_n 1, 1, [], .null)), (2, (.aload_n 0, 1, [], .null)), (3, (.getfield 44, 3, [8, 0, 187], .null)), (6, (.arraylength, 1, [], .null)), (7, (.invokestatic 61, 3, [8, 643], .null)), (10, (.putfield 15, 3, [8, 2, 189, 0], .null)), (13, (.aload_n 0, 1, [], .null)), (14, (.iload_n 2, 1, [], .null)), (15, (.putfield 19, 3, [8, 3, 190, 0], .null)), (18, (.aload_n 0, 1, [], .null)), (19, (.iconst 0, 1, [], .null)), (20, (.putfield 22, 3, [8, 4, 191, 0], .null)), (23, (.aload_n 0, 1, [], .null)), (24, (.iconst 0, 1, [], .null)), (25, (.putfield 38, 3, [8, 9, 204, 0], .null))]),
  (38, [(28, (.aload_n 0, 1, [], .null)), (29, (.iconst 0, 1, [], .null)), (30, (.putfield 41, 3, [8, 10, 206, 0], .null)), (33, (.aload_n 0, 1, [], .null)), (34, (.invokevirtual 67, 3, [1, 74, 0, 8, 646, 648, 647], .null)), (37, (.return_, 1, [], .null))])])
def md_74 : ri_M × ri_T := ((yX8_advance, cX8_advance, 2, none, RX8, 0, 0), [
  (30, [(0, (.aload_n 0, 1, [], .null)), (1, (.getfield 15, 3, [8, 2, 189], .null)), (4, (.aload_n 0, 1, [], .null)), (5, (.getfield 19, 3, [8, 3, 190], .null)), (8, (.invokestatic 61, 3, [8, 643], .null)), (11, (.istore_n 1, 1, [], .null)), (12, (.aload_n 0, 1, [], .null)), (13, (.getfield 22, 3, [8, 4, 191], .null)), (16, (.iload_n 1, 1, [], .null)), (17, (.if_icmp .ge 44, 3, [61], .null)), (20, (.aload_n 0, 1, [], .null)), (21, (.getfield 44, 3, [8, 0, 187], .null)), (24, (.aload_n 0, 1, [], .null)), (25, (.getfield 22, 3, [8, 4, 191], .null)), (28, (.baload, 1, [], .null)), (29, (.bipush 32, 2, [], .null))]),
  (62, [(31, (.if_icmp .eq 17, 3, [48], .null)), (34, (.aload_n 0, 1, [], .null)), (35, (.getfield 44, 3, [8, 0, 187], .null)), (38, (.aload_n 0, 1, [], .null)), (39, (.getfield 22, 3, [8, 4, 191], .null)), (42, (.baload, 1, [], .null)), (43, (.bipush 10, 2, [], .null)), (45, (.if_icmp .ne 16, 3, [61], .null)), (48, (.aload_n 0, 1, [], .null)), (49, (.dup, 1, [], .null)), (50, (.getfield 22, 3, [8, 4, 191], .null)), (53, (.iconst 1, 1, [], .null)), (54, (.iadd, 1, [], .null)), (55, (.putfield 22, 3, [8, 4, 191, 0], .null)), (58, (.goto (-46), 3, [12], .null)), (61, (.aload_n 0, 1, [], .null))]),
  (92, [(62, (.aload_n 0, 1, [], .null)), (63, (.getfield 22, 3, [8, 4, 191], .null)), (66, (.iload_n 1, 1, [], .null)), (67, (.invokestatic 61, 3, [8, 643], .null)), (70, (.putfield 28, 3, [8, 6, 196, 0], .null)), (73, (.aload_n 0, 1, [], .null)), (74, (.iconst (-1), 1, [], .null)), (75, (.putfield 31, 3, [8, 7, 197, 0], .null)), (78, (.aload_n 0, 1, [], .null)), (79, (.getfield 22, 3, [8, 4, 191], .null)), (82, (.iload_n 1, 1, [], .null)), (83, (.if_icmp .lt 24, 3, [107], .null)), (86, (.aload_n 0, 1, [], .null)), (87, (.aload_n 0, 1, [], .null)), (88, (.getfield 15, 3, [8, 2, 189], .null)), (91, (.aload_n 0, 1, [], .null))]),
  (124, [(92, (.getfield 19, 3, [8, 3, 190], .null)), (95, (.if_icmp .le 7, 3, [102], .null)), (98, (.iconst 1, 1, [], .null)), (99, (.goto 4, 3, [103], .null)), (102, (.iconst 0, 1, [], .null)), (103, (.putfield 25, 3, [8, 5, 192, 0], .null)), (106, (.return_, 1, [], .null)), (107, (.aload_n 0, 1, [], .null)), (108, (.invokevirtual 70, 3, [1, 75, 0, 8, 650, 2, 652], .null)), (111, (.aload_n 0, 1, [], .null)), (112, (.getfield 22, 3, [8, 4, 191], .null)), (115, (.aload_n 0, 1, [], .null)), (116, (.getfield 28, 3, [8, 6, 196], .null)), (119, (.if_icmp .ne 48, 3, [167], .null)), (122, (.aload_n 0, 1, [], .null)), (123, (.aload_n 0, 1, [], .null))]),
  (156, [(124, (.getfield 44, 3, [8, 0, 187], .null)), (127, (.aload_n 0, 1, [], .null)), (128, (.getfield 22, 3, [8, 4, 191], .null)), (131, (.baload, 1, [], .null)), (132, (.putfield 31, 3, [8, 7, 197, 0], .null)), (135, (.aload_n 0, 1, [], .null)), (136, (.aload_n 0, 1, [], .null)), (137, (.getfield 31, 3, [8, 7, 197], .null)), (140, (.invokestatic 73, 3, [3, 77, 1, 0, 654, 655], .null)), (143, (.ifCond .eq 7, 3, [150], .null)), (146, (.iconst 5, 1, [], .null)), (147, (.goto 4, 3, [151], .null)), (150, (.iconst 1, 1, [], .null)), (151, (.putfield 25, 3, [8, 5, 192, 0], .null)), (154, (.aload_n 0, 1, [], .null)), (155, (.dup, 1, [], .null))]),
  (188, [(156, (.getfield 22, 3, [8, 4, 191], .null)), (159, (.iconst 1, 1, [], .null)), (160, (.iadd, 1, [], .null)), (161, (.putfield 22, 3, [8, 4, 191, 0], .null)), (164, (.goto 40, 3, [204], .null)), (167, (.aload_n 0, 1, [], .null)), (168, (.getfield 25, 3, [8, 5, 192], .null)), (171, (.iconst 3, 1, [], .null)), (172, (.if_icmp .ne 32, 3, [204], .null)), (175, (.aload_n 0, 1, [], .null)), (176, (.aload_n 0, 1, [], .null)), (177, (.aload_n 0, 1, [], .null)), (178, (.getfield 34, 3, [8, 8, 201], .null)), (181, (.invokevirtual 77, 3, [1, 76, 1, 8, 657, 3, 659], .null)), (184, (.putfield 31, 3, [8, 7, 197, 0], .null)), (187, (.aload_n 0, 1, [], .null))]),
  (205, [(188, (.aload_n 0, 1, [], .null)), (189, (.getfield 31, 3, [8, 7, 197], .null)), (192, (.iconst (-1), 1, [], .null)), (193, (.if_icmp .ne 7, 3, [200], .null)), (196, (.iconst 3, 1, [], .null)), (197, (.goto 4, 3, [201], .null)), (200, (.iconst 2, 1, [], .null)), (201, (.putfield 25, 3, [8, 5, 192, 0], .null)), (204, (.return_, 1, [], .null))])])
def md_75 : ri_M × ri_T := ((yX8_readRun, cX8_readRun, 4, none, RX8, 0, 0), [
  (26, [(0, (.iconst 0, 1, [], .null)), (1, (.istore_n 1, 1, [], .null)), (2, (.iconst 0, 1, [], .null)), (3, (.istore_n 2, 1, [], .null)), (4, (.aload_n 0, 1, [], .null)), (5, (.lconst 0, 1, [], .null)), (6, (.putfield 34, 3, [8, 8, 201, 2], .null)), (9, (.aload_n 0, 1, [], .null)), (10, (.getfield 22, 3, [8, 4, 191], .null)), (13, (.aload_n 0, 1, [], .null)), (14, (.getfield 15, 3, [8, 2, 189], .null)), (17, (.if_icmp .ge 86, 3, [103], .null)), (20, (.aload_n 0, 1, [], .null)), (21, (.getfield 44, 3, [8, 0, 187], .null)), (24, (.aload_n 0, 1, [], .null)), (25, (.getfield 22, 3, [8, 4, 191], .null))]),
  (54, [(28, (.baload, 1, [], .null)), (29, (.istore_n 3, 1, [], .null)), (30, (.iload_n 3, 1, [], .null)), (31, (.bipush 48, 2, [], .null)), (33, (.if_icmp .lt 25, 3, [58], .null)), (36, (.iload_n 3, 1, [], .null)), (37, (.bipush 57, 2, [], .null)), (39, (.if_icmp .gt 19, 3, [58], .null)), (42, (.iinc 1 1, 3, [], .null)), (45, (.iload_n 2, 1, [], .null)), (46, (.bipush 10, 2, [], .null)), (48, (.imul, 1, [], .null)), (49, (.iload_n 3, 1, [], .null)), (50, (.bipush 48, 2, [], .null)), (52, (.isub, 1, [], .null)), (53, (.iadd, 1, [], .null))]),
  (83, [(54, (.istore_n 2, 1, [], .null)), (55, (.goto 35, 3, [90], .null)), (58, (.iload_n 3, 1, [], .null)), (59, (.bipush 97, 2, [], .null)), (61, (.if_icmp .lt 42, 3, [103], .null)), (64, (.iload_n 3, 1, [], .null)), (65, (.bipush 122, 2, [], .null)), (67, (.if_icmp .gt 36, 3, [103], .null)), (70, (.aload_n 0, 1, [], .null)), (71, (.aload_n 0, 1, [], .null)), (72, (.getfield 34, 3, [8, 8, 201], .null)), (75, (.ldc2_w 59, 3, [186], .long 32)), (78, (.lmul, 1, [], .null)), (79, (.iload_n 3, 1, [], .null)), (80, (.bipush 97, 2, [], .null)), (82, (.isub, 1, [], .null))]),
  (109, [(83, (.iconst 1, 1, [], .null)), (84, (.iadd, 1, [], .null)), (85, (.i2l, 1, [], .null)), (86, (.ladd, 1, [], .null)), (87, (.putfield 34, 3, [8, 8, 201, 2], .null)), (90, (.aload_n 0, 1, [], .null)), (91, (.dup, 1, [], .null)), (92, (.getfield 22, 3, [8, 4, 191], .null)), (95, (.iconst 1, 1, [], .null)), (96, (.iadd, 1, [], .null)), (97, (.putfield 22, 3, [8, 4, 191, 0], .null)), (100, (.goto (-91), 3, [9], .null)), (103, (.aload_n 0, 1, [], .null)), (104, (.getfield 22, 3, [8, 4, 191], .null)), (107, (.aload_n 0, 1, [], .null)), (108, (.getfield 28, 3, [8, 6, 196], .null))]),
  (138, [(111, (.isub, 1, [], .null)), (112, (.istore_n 3, 1, [], .null)), (113, (.aload_n 0, 1, [], .null)), (114, (.iconst 1, 1, [], .null)), (115, (.putfield 25, 3, [8, 5, 192, 0], .null)), (118, (.iload_n 1, 1, [], .null)), (119, (.ifCond .ne 17, 3, [136], .null)), (122, (.iload_n 3, 1, [], .null)), (123, (.bipush 7, 2, [], .null)), (125, (.if_icmp .gt 11, 3, [136], .null)), (128, (.aload_n 0, 1, [], .null)), (129, (.iconst 3, 1, [], .null)), (130, (.putfield 25, 3, [8, 5, 192, 0], .null)), (133, (.goto 23, 3, [156], .null)), (136, (.iload_n 1, 1, [], .null)), (137, (.iload_n 3, 1, [], .null))]),
  (157, [(138, (.if_icmp .ne 18, 3, [156], .null)), (141, (.iload_n 1, 1, [], .null)), (142, (.iconst 3, 1, [], .null)), (143, (.if_icmp .gt 13, 3, [156], .null)), (146, (.aload_n 0, 1, [], .null)), (147, (.iconst 4, 1, [], .null)), (148, (.putfield 25, 3, [8, 5, 192, 0], .null)), (151, (.aload_n 0, 1, [], .null)), (152, (.iload_n 2, 1, [], .null)), (153, (.putfield 31, 3, [8, 7, 197, 0], .null)), (156, (.return_, 1, [], .null))])])
def md_76 : ri_M × ri_T := ((yX8_keyOf, cX8_keyOf, 4, (some .int), RX8, 0, 0), [
  (25, [(0, (.iconst 0, 1, [], .null)), (1, (.istore_n 3, 1, [], .null)), (2, (.iload_n 3, 1, [], .null)), (3, (.bipush 24, 2, [], .null)), (5, (.if_icmp .ge 22, 3, [27], .null)), (8, (.aload_n 0, 1, [], .null)), (9, (.getfield 9, 3, [8, 1, 188], .null)), (12, (.iload_n 3, 1, [], .null)), (13, (.laload, 1, [], .null)), (14, (.lload_n 1, 1, [], .null)), (15, (.lcmp, 1, [], .null)), (16, (.ifCond .ne 5, 3, [21], .null)), (19, (.iload_n 3, 1, [], .null)), (20, (.ireturn, 1, [], .null)), (21, (.iinc 3 1, 3, [], .null)), (24, (.goto (-22), 3, [2], .null))]),
  (29, [(27, (.iconst (-1), 1, [], .null)), (28, (.ireturn, 1, [], .null))])])
def md_77 : ri_M × ri_T := ((yX8_isSign, cX8_isSign, 1, (some .boolean), RX8, 0, 0), [
  (31, [(0, (.iload_n 0, 1, [], .null)), (1, (.bipush 59, 2, [], .null)), (3, (.if_icmp .eq 33, 3, [36], .null)), (6, (.iload_n 0, 1, [], .null)), (7, (.bipush 60, 2, [], .null)), (9, (.if_icmp .eq 27, 3, [36], .null)), (12, (.iload_n 0, 1, [], .null)), (13, (.bipush 61, 2, [], .null)), (15, (.if_icmp .eq 21, 3, [36], .null)), (18, (.iload_n 0, 1, [], .null)), (19, (.bipush 62, 2, [], .null)), (21, (.if_icmp .eq 15, 3, [36], .null)), (24, (.iload_n 0, 1, [], .null)), (25, (.bipush 40, 2, [], .null)), (27, (.if_icmp .eq 9, 3, [36], .null)), (30, (.iload_n 0, 1, [], .null))]),
  (42, [(31, (.bipush 41, 2, [], .null)), (33, (.if_icmp .ne 7, 3, [40], .null)), (36, (.iconst 1, 1, [], .null)), (37, (.goto 4, 3, [41], .null)), (40, (.iconst 0, 1, [], .null)), (41, (.ireturn, 1, [], .null))])])
def md_78 : ri_M × ri_T := ((yX8_fail, cX8_fail, 2, (some .boolean), RX8, 0, 0), [
  (15, [(0, (.aload_n 0, 1, [], .null)), (1, (.iload_n 1, 1, [], .null)), (2, (.putfield 38, 3, [8, 9, 204, 0], .null)), (5, (.aload_n 0, 1, [], .null)), (6, (.aload_n 0, 1, [], .null)), (7, (.getfield 28, 3, [8, 6, 196], .null)), (10, (.putfield 41, 3, [8, 10, 206, 0], .null)), (13, (.iconst 0, 1, [], .null)), (14, (.ireturn, 1, [], .null))])])
def md_79 : ri_M × ri_T := ((yX8_isKey, cX8_isKey, 2, (some .boolean), RX8, 0, 0), [
  (22, [(0, (.aload_n 0, 1, [], .null)), (1, (.getfield 25, 3, [8, 5, 192], .null)), (4, (.iconst 2, 1, [], .null)), (5, (.if_icmp .ne 15, 3, [20], .null)), (8, (.aload_n 0, 1, [], .null)), (9, (.getfield 31, 3, [8, 7, 197], .null)), (12, (.iload_n 1, 1, [], .null)), (13, (.if_icmp .ne 7, 3, [20], .null)), (16, (.iconst 1, 1, [], .null)), (17, (.goto 4, 3, [21], .null)), (20, (.iconst 0, 1, [], .null)), (21, (.ireturn, 1, [], .null))])])
def md_80 : ri_M × ri_T := ((yX8_isSignNow, cX8_isSignNow, 2, (some .boolean), RX8, 0, 0), [
  (22, [(0, (.aload_n 0, 1, [], .null)), (1, (.getfield 25, 3, [8, 5, 192], .null)), (4, (.iconst 5, 1, [], .null)), (5, (.if_icmp .ne 15, 3, [20], .null)), (8, (.aload_n 0, 1, [], .null)), (9, (.getfield 31, 3, [8, 7, 197], .null)), (12, (.iload_n 1, 1, [], .null)), (13, (.if_icmp .ne 7, 3, [20], .null)), (16, (.iconst 1, 1, [], .null)), (17, (.goto 4, 3, [21], .null)), (20, (.iconst 0, 1, [], .null)), (21, (.ireturn, 1, [], .null))])])
def md_81 : ri_M × ri_T := ((yX8_passKey, cX8_passKey, 2, (some .boolean), RX8, 0, 0), [
  (20, [(0, (.aload_n 0, 1, [], .null)), (1, (.iload_n 1, 1, [], .null)), (2, (.invokevirtual 81, 3, [1, 79, 1, 8, 1085, 1076, 1075], .null)), (5, (.ifCond .ne 9, 3, [14], .null)), (8, (.aload_n 0, 1, [], .null)), (9, (.iconst 1, 1, [], .null)), (10, (.invokevirtual 84, 3, [1, 78, 1, 8, 700, 678, 677], .null)), (13, (.ireturn, 1, [], .null)), (14, (.aload_n 0, 1, [], .null)), (15, (.invokevirtual 67, 3, [1, 74, 0, 8, 646, 648, 647], .null)), (18, (.iconst 1, 1, [], .null)), (19, (.ireturn, 1, [], .null))])])
def md_82 : ri_M × ri_T := ((yX8_passSign, cX8_passSign, 2, (some .boolean), RX8, 0, 0), [
  (20, [(0, (.aload_n 0, 1, [], .null)), (1, (.iload_n 1, 1, [], .null)), (2, (.invokevirtual 87, 3, [1, 80, 1, 8, 739, 741, 740], .null)), (5, (.ifCond .ne 9, 3, [14], .null)), (8, (.aload_n 0, 1, [], .null)), (9, (.iconst 1, 1, [], .null)), (10, (.invokevirtual 84, 3, [1, 78, 1, 8, 700, 678, 677], .null)), (13, (.ireturn, 1, [], .null)), (14, (.aload_n 0, 1, [], .null)), (15, (.invokevirtual 67, 3, [1, 74, 0, 8, 646, 648, 647], .null)), (18, (.iconst 1, 1, [], .null)), (19, (.ireturn, 1, [], .null))])])
def md_83 : ri_M × ri_T := ((yX8_passNumber, cX8_passNumber, 4, (some .int), RX8, 0, 0), [
  (26, [(0, (.aload_n 0, 1, [], .null)), (1, (.getfield 25, 3, [8, 5, 192], .null)), (4, (.iconst 4, 1, [], .null)), (5, (.if_icmp .eq 11, 3, [16], .null)), (8, (.aload_n 0, 1, [], .null)), (9, (.iconst 1, 1, [], .null)), (10, (.invokevirtual 84, 3, [1, 78, 1, 8, 700, 678, 677], .null)), (13, (.pop, 1, [], .null)), (14, (.iconst (-1), 1, [], .null)), (15, (.ireturn, 1, [], .null)), (16, (.aload_n 0, 1, [], .null)), (17, (.getfield 31, 3, [8, 7, 197], .null)), (20, (.iload_n 1, 1, [], .null)), (21, (.if_icmp .lt 11, 3, [32], .null)), (24, (.aload_n 0, 1, [], .null)), (25, (.getfield 31, 3, [8, 7, 197], .null))]),
  (51, [(28, (.iload_n 2, 1, [], .null)), (29, (.if_icmp .le 11, 3, [40], .null)), (32, (.aload_n 0, 1, [], .null)), (33, (.iconst 2, 1, [], .null)), (34, (.invokevirtual 84, 3, [1, 78, 1, 8, 700, 678, 677], .null)), (37, (.pop, 1, [], .null)), (38, (.iconst (-1), 1, [], .null)), (39, (.ireturn, 1, [], .null)), (40, (.aload_n 0, 1, [], .null)), (41, (.getfield 31, 3, [8, 7, 197], .null)), (44, (.istore_n 3, 1, [], .null)), (45, (.aload_n 0, 1, [], .null)), (46, (.invokevirtual 67, 3, [1, 74, 0, 8, 646, 648, 647], .null)), (49, (.iload_n 3, 1, [], .null)), (50, (.ireturn, 1, [], .null))])])
def md_84 : ri_M × ri_T := ((yX8_passName, cX8_passName, 4, (some .int), RX8, 0, 0), [
  (26, [(0, (.aload_n 0, 1, [], .null)), (1, (.getfield 25, 3, [8, 5, 192], .null)), (4, (.iconst 3, 1, [], .null)), (5, (.if_icmp .eq 11, 3, [16], .null)), (8, (.aload_n 0, 1, [], .null)), (9, (.iconst 1, 1, [], .null)), (10, (.invokevirtual 84, 3, [1, 78, 1, 8, 700, 678, 677], .null)), (13, (.pop, 1, [], .null)), (14, (.iconst (-1), 1, [], .null)), (15, (.ireturn, 1, [], .null)), (16, (.aload_n 1, 1, [], .null)), (17, (.aload_n 0, 1, [], .null)), (18, (.getfield 34, 3, [8, 8, 201], .null)), (21, (.invokevirtual 90, 3, [1, 29, 1, 4, 701, 685, 684], .null)), (24, (.istore_n 3, 1, [], .null)), (25, (.iload_n 3, 1, [], .null))]),
  (50, [(26, (.iconst (-1), 1, [], .null)), (27, (.if_icmp .eq 13, 3, [40], .null)), (30, (.aload_n 1, 1, [], .null)), (31, (.getfield 95, 3, [4, 10, 289], .null)), (34, (.iload_n 3, 1, [], .null)), (35, (.iaload, 1, [], .null)), (36, (.iload_n 2, 1, [], .null)), (37, (.if_icmp .eq 11, 3, [48], .null)), (40, (.aload_n 0, 1, [], .null)), (41, (.iconst 3, 1, [], .null)), (42, (.invokevirtual 84, 3, [1, 78, 1, 8, 700, 678, 677], .null)), (45, (.pop, 1, [], .null)), (46, (.iconst (-1), 1, [], .null)), (47, (.ireturn, 1, [], .null)), (48, (.aload_n 0, 1, [], .null)), (49, (.invokevirtual 67, 3, [1, 74, 0, 8, 646, 648, 647], .null))]),
  (59, [(52, (.aload_n 1, 1, [], .null)), (53, (.getfield 99, 3, [4, 11, 292], .null)), (56, (.iload_n 3, 1, [], .null)), (57, (.iaload, 1, [], .null)), (58, (.ireturn, 1, [], .null))])])
def md_85 : ri_M × ri_T := ((yX9_init, cX9_init, 1, none, RX9, 4, 160), [
  (28, [(0, (.aload_n 0, 1, [], .null)), (1, (.invokespecial 3, 3, [0, 344], .null)), (4, (.aload_n 0, 1, [], .null)), (5, (.iconst 0, 1, [], .null)), (6, (.putfield 9, 3, [9, 0, 345, 0], .null)), (9, (.aload_n 0, 1, [], .null)), (10, (.iconst 0, 1, [], .null)), (11, (.putfield 15, 3, [9, 1, 348, 0], .null)), (14, (.aload_n 0, 1, [], .null)), (15, (.bipush 40, 2, [], .null)), (17, (.newarray .int, 2, [321], .null)), (19, (.putfield 18, 3, [9, 2, 349, 3], .null)), (22, (.aload_n 0, 1, [], .null)), (23, (.bipush 40, 2, [], .null)), (25, (.newarray .int, 2, [321], .null)), (27, (.putfield 22, 3, [9, 3, 350, 3], .null))]),
  (47, [(30, (.aload_n 0, 1, [], .null)), (31, (.bipush 40, 2, [], .null)), (33, (.newarray .int, 2, [321], .null)), (35, (.putfield 25, 3, [9, 4, 351, 3], .null)), (38, (.aload_n 0, 1, [], .null)), (39, (.bipush 40, 2, [], .null)), (41, (.newarray .int, 2, [321], .null)), (43, (.putfield 28, 3, [9, 5, 352, 3], .null)), (46, (.return_, 1, [], .null))])])
def md_86 : ri_M × ri_T := ((yX9_forget, cX9_forget, 1, none, RX9, 0, 0), [
  (11, [(0, (.aload_n 0, 1, [], .null)), (1, (.iconst 0, 1, [], .null)), (2, (.putfield 9, 3, [9, 0, 345, 0], .null)), (5, (.aload_n 0, 1, [], .null)), (6, (.iconst 0, 1, [], .null)), (7, (.putfield 15, 3, [9, 1, 348, 0], .null)), (10, (.return_, 1, [], .null))])])
def md_87 : ri_M × ri_T := ((yX9_copyFrom, cX9_copyFrom, 2, none, RX9, 0, 0), [
  (29, [(0, (.aload_n 0, 1, [], .null)), (1, (.aload_n 1, 1, [], .null)), (2, (.getfield 9, 3, [9, 0, 345], .null)), (5, (.putfield 9, 3, [9, 0, 345, 0], .null)), (8, (.aload_n 0, 1, [], .null)), (9, (.aload_n 1, 1, [], .null)), (10, (.getfield 15, 3, [9, 1, 348], .null)), (13, (.putfield 15, 3, [9, 1, 348, 0], .null)), (16, (.aload_n 1, 1, [], .null)), (17, (.getfield 18, 3, [9, 2, 349], .null)), (20, (.iconst 0, 1, [], .null)), (21, (.aload_n 0, 1, [], .null)), (22, (.getfield 18, 3, [9, 2, 349], .null)), (25, (.iconst 0, 1, [], .null)), (26, (.bipush 40, 2, [], .null)), (28, (.invokestatic 31, 3, [4, 1165], .null))]),
  (59, [(31, (.aload_n 1, 1, [], .null)), (32, (.getfield 22, 3, [9, 3, 350], .null)), (35, (.iconst 0, 1, [], .null)), (36, (.aload_n 0, 1, [], .null)), (37, (.getfield 22, 3, [9, 3, 350], .null)), (40, (.iconst 0, 1, [], .null)), (41, (.bipush 40, 2, [], .null)), (43, (.invokestatic 31, 3, [4, 1165], .null)), (46, (.aload_n 1, 1, [], .null)), (47, (.getfield 25, 3, [9, 4, 351], .null)), (50, (.iconst 0, 1, [], .null)), (51, (.aload_n 0, 1, [], .null)), (52, (.getfield 25, 3, [9, 4, 351], .null)), (55, (.iconst 0, 1, [], .null)), (56, (.bipush 40, 2, [], .null)), (58, (.invokestatic 31, 3, [4, 1165], .null))]),
  (62, [(61, (.return_, 1, [], .null))])])
def md_88 : ri_M × ri_T := ((yX9_add, cX9_add, 4, none, RX9, 0, 0), [
  (29, [(0, (.aload_n 0, 1, [], .null)), (1, (.getfield 15, 3, [9, 1, 348], .null)), (4, (.bipush 40, 2, [], .null)), (6, (.if_icmp .ge 43, 3, [49], .null)), (9, (.aload_n 0, 1, [], .null)), (10, (.getfield 18, 3, [9, 2, 349], .null)), (13, (.aload_n 0, 1, [], .null)), (14, (.getfield 15, 3, [9, 1, 348], .null)), (17, (.iload_n 1, 1, [], .null)), (18, (.iastore, 1, [], .null)), (19, (.aload_n 0, 1, [], .null)), (20, (.getfield 22, 3, [9, 3, 350], .null)), (23, (.aload_n 0, 1, [], .null)), (24, (.getfield 15, 3, [9, 1, 348], .null)), (27, (.iload_n 2, 1, [], .null)), (28, (.iastore, 1, [], .null))]),
  (50, [(29, (.aload_n 0, 1, [], .null)), (30, (.getfield 25, 3, [9, 4, 351], .null)), (33, (.aload_n 0, 1, [], .null)), (34, (.getfield 15, 3, [9, 1, 348], .null)), (37, (.iload_n 3, 1, [], .null)), (38, (.iastore, 1, [], .null)), (39, (.aload_n 0, 1, [], .null)), (40, (.dup, 1, [], .null)), (41, (.getfield 15, 3, [9, 1, 348], .null)), (44, (.iconst 1, 1, [], .null)), (45, (.iadd, 1, [], .null)), (46, (.putfield 15, 3, [9, 1, 348, 0], .null)), (49, (.return_, 1, [], .null))])])
def md_89 : ri_M × ri_T := ((yX9_saidOf, cX9_saidOf, 6, (some .int), RX9, 0, 0), [
  (21, [(0, (.iconst 1, 1, [], .null)), (1, (.aload_n 1, 1, [], .null)), (2, (.getfield 37, 3, [4, 2, 266], .null)), (5, (.iconst 1, 1, [], .null)), (6, (.iaload, 1, [], .null)), (7, (.ishl, 1, [], .null)), (8, (.iconst 1, 1, [], .null)), (9, (.isub, 1, [], .null)), (10, (.istore_n 3, 1, [], .null)), (11, (.iconst 0, 1, [], .null)), (12, (.istore 4, 2, [], .null)), (14, (.iconst 0, 1, [], .null)), (15, (.istore 5, 2, [], .null)), (17, (.iload 5, 2, [], .null)), (19, (.aload_n 0, 1, [], .null)), (20, (.getfield 15, 3, [9, 1, 348], .null))]),
  (53, [(23, (.if_icmp .ge 165, 3, [188], .null)), (26, (.aload_n 0, 1, [], .null)), (27, (.getfield 18, 3, [9, 2, 349], .null)), (30, (.iload 5, 2, [], .null)), (32, (.iaload, 1, [], .null)), (33, (.bipush 15, 2, [], .null)), (35, (.if_icmp .ne 34, 3, [69], .null)), (38, (.iload 4, 2, [], .null)), (40, (.iconst 1, 1, [], .null)), (41, (.if_icmp .lt 28, 3, [69], .null)), (44, (.aload_n 0, 1, [], .null)), (45, (.getfield 28, 3, [9, 5, 352], .null)), (48, (.iload 4, 2, [], .null)), (50, (.iconst 1, 1, [], .null)), (51, (.isub, 1, [], .null)), (52, (.iload_n 3, 1, [], .null))]),
  (77, [(53, (.aload_n 0, 1, [], .null)), (54, (.getfield 28, 3, [9, 5, 352], .null)), (57, (.iload 4, 2, [], .null)), (59, (.iconst 1, 1, [], .null)), (60, (.isub, 1, [], .null)), (61, (.iaload, 1, [], .null)), (62, (.iconst (-1), 1, [], .null)), (63, (.ixor, 1, [], .null)), (64, (.iand, 1, [], .null)), (65, (.iastore, 1, [], .null)), (66, (.goto 116, 3, [182], .null)), (69, (.aload_n 0, 1, [], .null)), (70, (.getfield 18, 3, [9, 2, 349], .null)), (73, (.iload 5, 2, [], .null)), (75, (.iaload, 1, [], .null)), (76, (.bipush 14, 2, [], .null))]),
  (107, [(78, (.if_icmp .ne 34, 3, [112], .null)), (81, (.iload 4, 2, [], .null)), (83, (.iconst 2, 1, [], .null)), (84, (.if_icmp .lt 28, 3, [112], .null)), (87, (.iinc 4 (-1), 3, [], .null)), (90, (.aload_n 0, 1, [], .null)), (91, (.getfield 28, 3, [9, 5, 352], .null)), (94, (.iload 4, 2, [], .null)), (96, (.iconst 1, 1, [], .null)), (97, (.isub, 1, [], .null)), (98, (.dup2, 1, [], .null)), (99, (.iaload, 1, [], .null)), (100, (.aload_n 0, 1, [], .null)), (101, (.getfield 28, 3, [9, 5, 352], .null)), (104, (.iload 4, 2, [], .null)), (106, (.iaload, 1, [], .null))]),
  (138, [(107, (.iand, 1, [], .null)), (108, (.iastore, 1, [], .null)), (109, (.goto 73, 3, [182], .null)), (112, (.aload_n 0, 1, [], .null)), (113, (.getfield 18, 3, [9, 2, 349], .null)), (116, (.iload 5, 2, [], .null)), (118, (.iaload, 1, [], .null)), (119, (.bipush 13, 2, [], .null)), (121, (.if_icmp .ne 34, 3, [155], .null)), (124, (.iload 4, 2, [], .null)), (126, (.iconst 2, 1, [], .null)), (127, (.if_icmp .lt 28, 3, [155], .null)), (130, (.iinc 4 (-1), 3, [], .null)), (133, (.aload_n 0, 1, [], .null)), (134, (.getfield 28, 3, [9, 5, 352], .null)), (137, (.iload 4, 2, [], .null))]),
  (164, [(139, (.iconst 1, 1, [], .null)), (140, (.isub, 1, [], .null)), (141, (.dup2, 1, [], .null)), (142, (.iaload, 1, [], .null)), (143, (.aload_n 0, 1, [], .null)), (144, (.getfield 28, 3, [9, 5, 352], .null)), (147, (.iload 4, 2, [], .null)), (149, (.iaload, 1, [], .null)), (150, (.ior, 1, [], .null)), (151, (.iastore, 1, [], .null)), (152, (.goto 30, 3, [182], .null)), (155, (.iload 4, 2, [], .null)), (157, (.bipush 40, 2, [], .null)), (159, (.if_icmp .ge 23, 3, [182], .null)), (162, (.aload_n 0, 1, [], .null)), (163, (.getfield 28, 3, [9, 5, 352], .null))]),
  (195, [(166, (.iload 4, 2, [], .null)), (168, (.iload_n 3, 1, [], .null)), (169, (.aload_n 0, 1, [], .null)), (170, (.aload_n 1, 1, [], .null)), (171, (.aload_n 2, 1, [], .null)), (172, (.iload 5, 2, [], .null)), (174, (.invokevirtual 42, 3, [1, 90, 3, 9, 1174, 29, 1176], .null)), (177, (.iand, 1, [], .null)), (178, (.iastore, 1, [], .null)), (179, (.iinc 4 1, 3, [], .null)), (182, (.iinc 5 1, 3, [], .null)), (185, (.goto (-168), 3, [17], .null)), (188, (.iload 4, 2, [], .null)), (190, (.iconst 1, 1, [], .null)), (191, (.if_icmp .ne 12, 3, [203], .null)), (194, (.aload_n 0, 1, [], .null))]),
  (205, [(195, (.getfield 28, 3, [9, 5, 352], .null)), (198, (.iconst 0, 1, [], .null)), (199, (.iaload, 1, [], .null)), (200, (.goto 4, 3, [204], .null)), (203, (.iconst 0, 1, [], .null)), (204, (.ireturn, 1, [], .null))])])
def md_90 : ri_M × ri_T := ((yX9_saidByPart, cX9_saidByPart, 4, (some .int), RX9, 0, 0), [
  (53, [(0, (.aload_n 0, 1, [], .null)), (1, (.getfield 18, 3, [9, 2, 349], .null)), (4, (.iload_n 3, 1, [], .null)), (5, (.iaload, 1, [], .null)), (6, (.tableswitch 90 16 19 #[30, 35, 48, 78], 30, [96, 36, 41, 54, 84], .null)), (36, (.aload_n 2, 1, [], .null)), (37, (.getfield 46, 3, [6, 3, 391], .null)), (40, (.ireturn, 1, [], .null)), (41, (.aload_n 2, 1, [], .null)), (42, (.getfield 51, 3, [6, 4, 394], .null)), (45, (.aload_n 2, 1, [], .null)), (46, (.aload_n 1, 1, [], .null)), (47, (.invokevirtual 54, 3, [1, 55, 1, 6, 1178, 797, 796], .null)), (50, (.iconst (-1), 1, [], .null)), (51, (.ixor, 1, [], .null)), (52, (.iand, 1, [], .null))]),
  (79, [(53, (.ireturn, 1, [], .null)), (54, (.aload_n 1, 1, [], .null)), (55, (.iconst 0, 1, [], .null)), (56, (.aload_n 0, 1, [], .null)), (57, (.getfield 25, 3, [9, 4, 351], .null)), (60, (.iload_n 3, 1, [], .null)), (61, (.iaload, 1, [], .null)), (62, (.invokevirtual 58, 3, [1, 26, 2, 4, 1179, 769, 768], .null)), (65, (.ifCond .eq 17, 3, [82], .null)), (68, (.aload_n 1, 1, [], .null)), (69, (.getfield 62, 3, [4, 4, 275], .null)), (72, (.aload_n 0, 1, [], .null)), (73, (.getfield 25, 3, [9, 4, 351], .null)), (76, (.iload_n 3, 1, [], .null)), (77, (.iaload, 1, [], .null)), (78, (.iaload, 1, [], .null))]),
  (101, [(79, (.goto 4, 3, [83], .null)), (82, (.iconst 0, 1, [], .null)), (83, (.ireturn, 1, [], .null)), (84, (.aload_n 1, 1, [], .null)), (85, (.aload_n 2, 1, [], .null)), (86, (.aload_n 0, 1, [], .null)), (87, (.getfield 25, 3, [9, 4, 351], .null)), (90, (.iload_n 3, 1, [], .null)), (91, (.iaload, 1, [], .null)), (92, (.invokestatic 65, 3, [3, 91, 3, 0, 1180, 1181], .null)), (95, (.ireturn, 1, [], .null)), (96, (.aload_n 0, 1, [], .null)), (97, (.aload_n 1, 1, [], .null)), (98, (.aload_n 2, 1, [], .null)), (99, (.iload_n 3, 1, [], .null)), (100, (.invokevirtual 68, 3, [1, 92, 3, 9, 1183, 30, 1185], .null))]),
  (104, [(103, (.ireturn, 1, [], .null))])])
def md_91 : ri_M × ri_T := ((yX9_saidByTeacher, cX9_saidByTeacher, 5, (some .int), RX9, 0, 0), [
  (25, [(0, (.iconst 0, 1, [], .null)), (1, (.istore_n 3, 1, [], .null)), (2, (.iconst 0, 1, [], .null)), (3, (.istore 4, 2, [], .null)), (5, (.iload 4, 2, [], .null)), (7, (.aload_n 0, 1, [], .null)), (8, (.getfield 37, 3, [4, 2, 266], .null)), (11, (.iconst 1, 1, [], .null)), (12, (.iaload, 1, [], .null)), (13, (.if_icmp .ge 26, 3, [39], .null)), (16, (.iload_n 3, 1, [], .null)), (17, (.aload_n 1, 1, [], .null)), (18, (.getfield 71, 3, [6, 9, 405], .null)), (21, (.iload 4, 2, [], .null)), (23, (.iaload, 1, [], .null)), (24, (.iload_n 2, 1, [], .null))]),
  (41, [(25, (.ishr, 1, [], .null)), (26, (.iconst 1, 1, [], .null)), (27, (.iand, 1, [], .null)), (28, (.iload 4, 2, [], .null)), (30, (.ishl, 1, [], .null)), (31, (.ior, 1, [], .null)), (32, (.istore_n 3, 1, [], .null)), (33, (.iinc 4 1, 3, [], .null)), (36, (.goto (-31), 3, [5], .null)), (39, (.iload_n 3, 1, [], .null)), (40, (.ireturn, 1, [], .null))])])
def md_92 : ri_M × ri_T := ((yX9_saidByNumber, cX9_saidByNumber, 8, (some .int), RX9, 0, 0), [
  (25, [(0, (.iconst 0, 1, [], .null)), (1, (.istore 4, 2, [], .null)), (3, (.iconst 0, 1, [], .null)), (4, (.istore 5, 2, [], .null)), (6, (.iload 5, 2, [], .null)), (8, (.aload_n 1, 1, [], .null)), (9, (.getfield 37, 3, [4, 2, 266], .null)), (12, (.iconst 1, 1, [], .null)), (13, (.iaload, 1, [], .null)), (14, (.if_icmp .ge 107, 3, [121], .null)), (17, (.aload_n 1, 1, [], .null)), (18, (.aload_n 2, 1, [], .null)), (19, (.aload_n 0, 1, [], .null)), (20, (.getfield 18, 3, [9, 2, 349], .null)), (23, (.iload_n 3, 1, [], .null)), (24, (.iaload, 1, [], .null))]),
  (55, [(25, (.iload 5, 2, [], .null)), (27, (.invokestatic 74, 3, [3, 93, 4, 0, 1187, 1188], .null)), (30, (.aload_n 0, 1, [], .null)), (31, (.getfield 25, 3, [9, 4, 351], .null)), (34, (.iload_n 3, 1, [], .null)), (35, (.iaload, 1, [], .null)), (36, (.invokestatic 78, 3, [3, 255, 2, 0, 1190, 1191], .null)), (39, (.istore 6, 2, [], .null)), (41, (.aload_n 0, 1, [], .null)), (42, (.getfield 22, 3, [9, 3, 350], .null)), (45, (.iload_n 3, 1, [], .null)), (46, (.iaload, 1, [], .null)), (47, (.bipush 60, 2, [], .null)), (49, (.if_icmp .ne 16, 3, [65], .null)), (52, (.iload 6, 2, [], .null)), (54, (.ifCond .ge 7, 3, [61], .null))]),
  (87, [(57, (.iconst 1, 1, [], .null)), (58, (.goto 41, 3, [99], .null)), (61, (.iconst 0, 1, [], .null)), (62, (.goto 37, 3, [99], .null)), (65, (.aload_n 0, 1, [], .null)), (66, (.getfield 22, 3, [9, 3, 350], .null)), (69, (.iload_n 3, 1, [], .null)), (70, (.iaload, 1, [], .null)), (71, (.bipush 61, 2, [], .null)), (73, (.if_icmp .ne 16, 3, [89], .null)), (76, (.iload 6, 2, [], .null)), (78, (.ifCond .ne 7, 3, [85], .null)), (81, (.iconst 1, 1, [], .null)), (82, (.goto 17, 3, [99], .null)), (85, (.iconst 0, 1, [], .null)), (86, (.goto 13, 3, [99], .null))]),
  (119, [(89, (.iload 6, 2, [], .null)), (91, (.ifCond .le 7, 3, [98], .null)), (94, (.iconst 1, 1, [], .null)), (95, (.goto 4, 3, [99], .null)), (98, (.iconst 0, 1, [], .null)), (99, (.istore 7, 2, [], .null)), (101, (.iload 7, 2, [], .null)), (103, (.ifCond .eq 12, 3, [115], .null)), (106, (.iload 4, 2, [], .null)), (108, (.iconst 1, 1, [], .null)), (109, (.iload 5, 2, [], .null)), (111, (.ishl, 1, [], .null)), (112, (.ior, 1, [], .null)), (113, (.istore 4, 2, [], .null)), (115, (.iinc 5 1, 3, [], .null)), (118, (.goto (-112), 3, [6], .null))]),
  (124, [(121, (.iload 4, 2, [], .null)), (123, (.ireturn, 1, [], .null))])])
def md_93 : ri_M × ri_T := ((yX9_measure, cX9_measure, 4, (some .int), RX9, 0, 0), [
  (48, [(0, (.iload_n 2, 1, [], .null)), (1, (.tableswitch 48 20 22 #[27, 34, 41], 27, [49, 28, 35, 42], .null)), (28, (.aload_n 1, 1, [], .null)), (29, (.getfield 84, 3, [6, 8, 403], .null)), (32, (.iload_n 3, 1, [], .null)), (33, (.iaload, 1, [], .null)), (34, (.ireturn, 1, [], .null)), (35, (.aload_n 0, 1, [], .null)), (36, (.getfield 87, 3, [4, 5, 279], .null)), (39, (.iload_n 3, 1, [], .null)), (40, (.iaload, 1, [], .null)), (41, (.ireturn, 1, [], .null)), (42, (.aload_n 1, 1, [], .null)), (43, (.getfield 90, 3, [6, 11, 411], .null)), (46, (.iload_n 3, 1, [], .null)), (47, (.iaload, 1, [], .null))]),
  (51, [(48, (.ireturn, 1, [], .null)), (49, (.iload_n 3, 1, [], .null)), (50, (.ireturn, 1, [], .null))])])
def md_94 : ri_M × ri_T := ((yX10_init, cX10_init, 2, none, RX10, 5, 166), [
  (21, [(0, (.aload_n 0, 1, [], .null)), (1, (.invokespecial 3, 3, [0, 338], .null)), (4, (.aload_n 0, 1, [], .null)), (5, (.new 9, 3, [9, 339, 340, 108], .null)), (8, (.dup, 1, [], .null)), (9, (.invokespecial 11, 3, [7, 85, 0, 9, 341, 342], .null)), (12, (.putfield 12, 3, [10, 1, 367, 3], .null)), (15, (.aload_n 0, 1, [], .null)), (16, (.aload_n 1, 1, [], .null)), (17, (.putfield 18, 3, [10, 0, 366, 3], .null)), (20, (.return_, 1, [], .null))])])
def md_95 : ri_M × ri_T := ((yX10_readWhole, cX10_readWhole, 2, (some .boolean), RX10, 0, 0), [
  (32, [(0, (.aload_n 0, 1, [], .null)), (1, (.getfield 12, 3, [10, 1, 367], .null)), (4, (.invokevirtual 22, 3, [1, 86, 0, 9, 1133, 753, 752], .null)), (7, (.aload_n 0, 1, [], .null)), (8, (.aload_n 1, 1, [], .null)), (9, (.iconst 1, 1, [], .null)), (10, (.invokevirtual 25, 3, [1, 96, 2, 10, 1134, 25, 1136], .null)), (13, (.ifCond .eq 28, 3, [41], .null)), (16, (.aload_n 0, 1, [], .null)), (17, (.getfield 18, 3, [10, 0, 366], .null)), (20, (.getfield 29, 3, [8, 5, 194], .null)), (23, (.ifCond .eq 14, 3, [37], .null)), (26, (.aload_n 0, 1, [], .null)), (27, (.getfield 18, 3, [10, 0, 366], .null)), (30, (.iconst 1, 1, [], .null)), (31, (.invokevirtual 35, 3, [1, 78, 1, 8, 1143, 678, 677], .null))]),
  (43, [(34, (.ifCond .eq 7, 3, [41], .null)), (37, (.iconst 1, 1, [], .null)), (38, (.goto 4, 3, [42], .null)), (41, (.iconst 0, 1, [], .null)), (42, (.ireturn, 1, [], .null))])])
def md_96 : ri_M × ri_T := ((yX10_readCond, cX10_readCond, 7, (some .boolean), RX10, 0, 0), [
  (26, [(0, (.aload_n 0, 1, [], .null)), (1, (.aload_n 1, 1, [], .null)), (2, (.iload_n 2, 1, [], .null)), (3, (.invokevirtual 39, 3, [1, 97, 2, 10, 1138, 26, 1140], .null)), (6, (.istore_n 3, 1, [], .null)), (7, (.iconst 0, 1, [], .null)), (8, (.istore 4, 2, [], .null)), (10, (.iconst 0, 1, [], .null)), (11, (.istore 5, 2, [], .null)), (13, (.iload 5, 2, [], .null)), (15, (.bipush 20, 2, [], .null)), (17, (.if_icmp .gt 106, 3, [123], .null)), (20, (.iload_n 3, 1, [], .null)), (21, (.ifCond .eq 102, 3, [123], .null)), (24, (.aload_n 0, 1, [], .null)), (25, (.getfield 18, 3, [10, 0, 366], .null))]),
  (65, [(28, (.bipush 13, 2, [], .null)), (30, (.invokevirtual 42, 3, [1, 79, 1, 8, 1160, 1076, 1075], .null)), (33, (.ifCond .ne 15, 3, [48], .null)), (36, (.aload_n 0, 1, [], .null)), (37, (.getfield 18, 3, [10, 0, 366], .null)), (40, (.bipush 14, 2, [], .null)), (42, (.invokevirtual 42, 3, [1, 79, 1, 8, 1160, 1076, 1075], .null)), (45, (.ifCond .eq 78, 3, [123], .null)), (48, (.aload_n 0, 1, [], .null)), (49, (.getfield 18, 3, [10, 0, 366], .null)), (52, (.bipush 13, 2, [], .null)), (54, (.invokevirtual 42, 3, [1, 79, 1, 8, 1160, 1076, 1075], .null)), (57, (.istore 6, 2, [], .null)), (59, (.iload 6, 2, [], .null)), (61, (.ifCond .eq 19, 3, [80], .null)), (64, (.iload 4, 2, [], .null))]),
  (96, [(66, (.ifCond .eq 14, 3, [80], .null)), (69, (.aload_n 0, 1, [], .null)), (70, (.getfield 12, 3, [10, 1, 367], .null)), (73, (.bipush 13, 2, [], .null)), (75, (.iconst (-1), 1, [], .null)), (76, (.iconst (-1), 1, [], .null)), (77, (.invokevirtual 45, 3, [1, 88, 3, 9, 1146, 1148, 1147], .null)), (80, (.iload 4, 2, [], .null)), (82, (.iload 6, 2, [], .null)), (84, (.ior, 1, [], .null)), (85, (.istore 4, 2, [], .null)), (87, (.aload_n 0, 1, [], .null)), (88, (.getfield 18, 3, [10, 0, 366], .null)), (91, (.invokevirtual 49, 3, [1, 74, 0, 8, 1144, 648, 647], .null)), (94, (.aload_n 0, 1, [], .null)), (95, (.aload_n 1, 1, [], .null))]),
  (129, [(96, (.iload_n 2, 1, [], .null)), (97, (.invokevirtual 39, 3, [1, 97, 2, 10, 1138, 26, 1140], .null)), (100, (.istore_n 3, 1, [], .null)), (101, (.iload 6, 2, [], .null)), (103, (.ifCond .ne 14, 3, [117], .null)), (106, (.aload_n 0, 1, [], .null)), (107, (.getfield 12, 3, [10, 1, 367], .null)), (110, (.bipush 14, 2, [], .null)), (112, (.iconst (-1), 1, [], .null)), (113, (.iconst (-1), 1, [], .null)), (114, (.invokevirtual 45, 3, [1, 88, 3, 9, 1146, 1148, 1147], .null)), (117, (.iinc 5 1, 3, [], .null)), (120, (.goto (-107), 3, [13], .null)), (123, (.iload 4, 2, [], .null)), (125, (.ifCond .eq 14, 3, [139], .null)), (128, (.aload_n 0, 1, [], .null))]),
  (141, [(129, (.getfield 12, 3, [10, 1, 367], .null)), (132, (.bipush 13, 2, [], .null)), (134, (.iconst (-1), 1, [], .null)), (135, (.iconst (-1), 1, [], .null)), (136, (.invokevirtual 45, 3, [1, 88, 3, 9, 1146, 1148, 1147], .null)), (139, (.iload_n 3, 1, [], .null)), (140, (.ireturn, 1, [], .null))])])
end
section
def md_97 : ri_M × ri_T := ((yX10_readOne, cX10_readOne, 7, (some .boolean), RX10, 0, 0), [
  (34, [(0, (.aload_n 0, 1, [], .null)), (1, (.getfield 18, 3, [10, 0, 366], .null)), (4, (.bipush 40, 2, [], .null)), (6, (.invokevirtual 52, 3, [1, 80, 1, 8, 1142, 741, 740], .null)), (9, (.istore_n 3, 1, [], .null)), (10, (.aload_n 0, 1, [], .null)), (11, (.getfield 18, 3, [10, 0, 366], .null)), (14, (.getfield 29, 3, [8, 5, 194], .null)), (17, (.iconst 2, 1, [], .null)), (18, (.if_icmp .ne 31, 3, [49], .null)), (21, (.aload_n 0, 1, [], .null)), (22, (.getfield 18, 3, [10, 0, 366], .null)), (25, (.getfield 55, 3, [8, 7, 200], .null)), (28, (.bipush 15, 2, [], .null)), (30, (.if_icmp .lt 19, 3, [49], .null)), (33, (.aload_n 0, 1, [], .null))]),
  (67, [(34, (.getfield 18, 3, [10, 0, 366], .null)), (37, (.getfield 55, 3, [8, 7, 200], .null)), (40, (.bipush 23, 2, [], .null)), (42, (.if_icmp .gt 7, 3, [49], .null)), (45, (.iconst 1, 1, [], .null)), (46, (.goto 4, 3, [50], .null)), (49, (.iconst 0, 1, [], .null)), (50, (.istore 4, 2, [], .null)), (52, (.iload_n 3, 1, [], .null)), (53, (.ifCond .ne 17, 3, [70], .null)), (56, (.iload 4, 2, [], .null)), (58, (.ifCond .ne 12, 3, [70], .null)), (61, (.aload_n 0, 1, [], .null)), (62, (.getfield 18, 3, [10, 0, 366], .null)), (65, (.iconst 1, 1, [], .null)), (66, (.invokevirtual 35, 3, [1, 78, 1, 8, 1143, 678, 677], .null))]),
  (99, [(69, (.ireturn, 1, [], .null)), (70, (.aload_n 0, 1, [], .null)), (71, (.getfield 12, 3, [10, 1, 367], .null)), (74, (.getfield 58, 3, [9, 0, 346], .null)), (77, (.bipush 20, 2, [], .null)), (79, (.if_icmp .ge 9, 3, [88], .null)), (82, (.iload_n 2, 1, [], .null)), (83, (.bipush 8, 2, [], .null)), (85, (.if_icmp .le 12, 3, [97], .null)), (88, (.aload_n 0, 1, [], .null)), (89, (.getfield 18, 3, [10, 0, 366], .null)), (92, (.iconst 4, 1, [], .null)), (93, (.invokevirtual 35, 3, [1, 78, 1, 8, 1143, 678, 677], .null)), (96, (.ireturn, 1, [], .null)), (97, (.aload_n 0, 1, [], .null)), (98, (.getfield 12, 3, [10, 1, 367], .null))]),
  (132, [(101, (.dup, 1, [], .null)), (102, (.getfield 58, 3, [9, 0, 346], .null)), (105, (.iconst 1, 1, [], .null)), (106, (.iadd, 1, [], .null)), (107, (.putfield 58, 3, [9, 0, 346, 0], .null)), (110, (.aload_n 0, 1, [], .null)), (111, (.getfield 18, 3, [10, 0, 366], .null)), (114, (.getfield 55, 3, [8, 7, 200], .null)), (117, (.istore 5, 2, [], .null)), (119, (.aload_n 0, 1, [], .null)), (120, (.getfield 18, 3, [10, 0, 366], .null)), (123, (.invokevirtual 49, 3, [1, 74, 0, 8, 1144, 648, 647], .null)), (126, (.iload_n 3, 1, [], .null)), (127, (.ifCond .eq 32, 3, [159], .null)), (130, (.aload_n 0, 1, [], .null)), (131, (.aload_n 1, 1, [], .null))]),
  (162, [(132, (.iload_n 2, 1, [], .null)), (133, (.iconst 1, 1, [], .null)), (134, (.iadd, 1, [], .null)), (135, (.invokevirtual 25, 3, [1, 96, 2, 10, 1134, 25, 1136], .null)), (138, (.ifCond .eq 19, 3, [157], .null)), (141, (.aload_n 0, 1, [], .null)), (142, (.getfield 18, 3, [10, 0, 366], .null)), (145, (.bipush 41, 2, [], .null)), (147, (.invokevirtual 61, 3, [1, 82, 1, 8, 1145, 737, 736], .null)), (150, (.ifCond .eq 7, 3, [157], .null)), (153, (.iconst 1, 1, [], .null)), (154, (.goto 4, 3, [158], .null)), (157, (.iconst 0, 1, [], .null)), (158, (.ireturn, 1, [], .null)), (159, (.iload 5, 2, [], .null)), (161, (.bipush 15, 2, [], .null))]),
  (190, [(163, (.if_icmp .ne 27, 3, [190], .null)), (166, (.aload_n 0, 1, [], .null)), (167, (.aload_n 1, 1, [], .null)), (168, (.iload_n 2, 1, [], .null)), (169, (.iconst 1, 1, [], .null)), (170, (.iadd, 1, [], .null)), (171, (.invokevirtual 39, 3, [1, 97, 2, 10, 1138, 26, 1140], .null)), (174, (.istore 6, 2, [], .null)), (176, (.aload_n 0, 1, [], .null)), (177, (.getfield 12, 3, [10, 1, 367], .null)), (180, (.bipush 15, 2, [], .null)), (182, (.iconst (-1), 1, [], .null)), (183, (.iconst (-1), 1, [], .null)), (184, (.invokevirtual 45, 3, [1, 88, 3, 9, 1146, 1148, 1147], .null)), (187, (.iload 6, 2, [], .null)), (189, (.ireturn, 1, [], .null))]),
  (214, [(190, (.iload 5, 2, [], .null)), (192, (.bipush 20, 2, [], .null)), (194, (.if_icmp .lt 12, 3, [206], .null)), (197, (.aload_n 0, 1, [], .null)), (198, (.iload 5, 2, [], .null)), (200, (.invokevirtual 64, 3, [1, 99, 1, 10, 1150, 27, 1152], .null)), (203, (.goto 10, 3, [213], .null)), (206, (.aload_n 0, 1, [], .null)), (207, (.aload_n 1, 1, [], .null)), (208, (.iload 5, 2, [], .null)), (210, (.invokevirtual 67, 3, [1, 98, 2, 10, 1155, 28, 1157], .null)), (213, (.ireturn, 1, [], .null))])])
def md_98 : ri_M × ri_T := ((yX10_readPlain, cX10_readPlain, 4, (some .boolean), RX10, 0, 0), [
  (27, [(0, (.iconst (-1), 1, [], .null)), (1, (.istore_n 3, 1, [], .null)), (2, (.iload_n 2, 1, [], .null)), (3, (.bipush 18, 2, [], .null)), (5, (.if_icmp .eq 9, 3, [14], .null)), (8, (.iload_n 2, 1, [], .null)), (9, (.bipush 19, 2, [], .null)), (11, (.if_icmp .ne 30, 3, [41], .null)), (14, (.aload_n 0, 1, [], .null)), (15, (.getfield 18, 3, [10, 0, 366], .null)), (18, (.aload_n 1, 1, [], .null)), (19, (.iload_n 2, 1, [], .null)), (20, (.bipush 18, 2, [], .null)), (22, (.if_icmp .ne 7, 3, [29], .null)), (25, (.iconst 0, 1, [], .null)), (26, (.goto 4, 3, [30], .null))]),
  (53, [(29, (.iconst 2, 1, [], .null)), (30, (.invokevirtual 70, 3, [1, 84, 2, 8, 1159, 698, 697], .null)), (33, (.istore_n 3, 1, [], .null)), (34, (.iload_n 3, 1, [], .null)), (35, (.iconst (-1), 1, [], .null)), (36, (.if_icmp .ne 5, 3, [41], .null)), (39, (.iconst 0, 1, [], .null)), (40, (.ireturn, 1, [], .null)), (41, (.aload_n 0, 1, [], .null)), (42, (.getfield 12, 3, [10, 1, 367], .null)), (45, (.iload_n 2, 1, [], .null)), (46, (.iconst (-1), 1, [], .null)), (47, (.iload_n 3, 1, [], .null)), (48, (.invokevirtual 45, 3, [1, 88, 3, 9, 1146, 1148, 1147], .null)), (51, (.iconst 1, 1, [], .null)), (52, (.ireturn, 1, [], .null))])])
def md_99 : ri_M × ri_T := ((yX10_readMeasure, cX10_readMeasure, 4, (some .boolean), RX10, 0, 0), [
  (32, [(0, (.aload_n 0, 1, [], .null)), (1, (.getfield 18, 3, [10, 0, 366], .null)), (4, (.getfield 55, 3, [8, 7, 200], .null)), (7, (.istore_n 2, 1, [], .null)), (8, (.aload_n 0, 1, [], .null)), (9, (.getfield 18, 3, [10, 0, 366], .null)), (12, (.getfield 29, 3, [8, 5, 194], .null)), (15, (.iconst 5, 1, [], .null)), (16, (.if_icmp .ne 15, 3, [31], .null)), (19, (.iload_n 2, 1, [], .null)), (20, (.bipush 60, 2, [], .null)), (22, (.if_icmp .lt 9, 3, [31], .null)), (25, (.iload_n 2, 1, [], .null)), (26, (.bipush 62, 2, [], .null)), (28, (.if_icmp .le 12, 3, [40], .null)), (31, (.aload_n 0, 1, [], .null))]),
  (62, [(32, (.getfield 18, 3, [10, 0, 366], .null)), (35, (.iconst 1, 1, [], .null)), (36, (.invokevirtual 35, 3, [1, 78, 1, 8, 1143, 678, 677], .null)), (39, (.ireturn, 1, [], .null)), (40, (.aload_n 0, 1, [], .null)), (41, (.getfield 18, 3, [10, 0, 366], .null)), (44, (.invokevirtual 49, 3, [1, 74, 0, 8, 1144, 648, 647], .null)), (47, (.aload_n 0, 1, [], .null)), (48, (.getfield 18, 3, [10, 0, 366], .null)), (51, (.iconst 0, 1, [], .null)), (52, (.sipush 999, 3, [], .null)), (55, (.invokevirtual 74, 3, [1, 83, 2, 8, 1154, 708, 707], .null)), (58, (.istore_n 3, 1, [], .null)), (59, (.iload_n 3, 1, [], .null)), (60, (.iconst (-1), 1, [], .null)), (61, (.if_icmp .ne 5, 3, [66], .null))]),
  (78, [(64, (.iconst 0, 1, [], .null)), (65, (.ireturn, 1, [], .null)), (66, (.aload_n 0, 1, [], .null)), (67, (.getfield 12, 3, [10, 1, 367], .null)), (70, (.iload_n 1, 1, [], .null)), (71, (.iload_n 2, 1, [], .null)), (72, (.iload_n 3, 1, [], .null)), (73, (.invokevirtual 45, 3, [1, 88, 3, 9, 1146, 1148, 1147], .null)), (76, (.iconst 1, 1, [], .null)), (77, (.ireturn, 1, [], .null))])])
def md_100 : ri_M × ri_T := ((yX11_init, cX11_init, 1, none, RX11, 208, 4080), [
  (31, [(0, (.aload_n 0, 1, [], .null)), (1, (.invokespecial 1, 3, [0, 128], .null)), (4, (.aload_n 0, 1, [], .null)), (5, (.sipush 940, 3, [], .null)), (8, (.newarray .byte, 2, [231], .null)), (10, (.putfield 9, 3, [11, 0, 567, 3], .null)), (13, (.aload_n 0, 1, [], .null)), (14, (.iconst 0, 1, [], .null)), (15, (.putfield 13, 3, [11, 1, 568, 0], .null)), (18, (.aload_n 0, 1, [], .null)), (19, (.new 17, 3, [8, 131, 132, 100], .null)), (22, (.dup, 1, [], .null)), (23, (.aload_n 0, 1, [], .null)), (24, (.getfield 9, 3, [11, 0, 567], .null)), (27, (.invokespecial 19, 3, [2, 72, 1, 8, 133, 134], .null)), (30, (.putfield 22, 3, [11, 2, 569, 3], .null))]),
  (65, [(33, (.aload_n 0, 1, [], .null)), (34, (.new 26, 3, [5, 233, 234, 105], .null)), (37, (.dup, 1, [], .null)), (38, (.aload_n 0, 1, [], .null)), (39, (.getfield 22, 3, [11, 2, 569], .null)), (42, (.invokespecial 28, 3, [2, 42, 1, 5, 235, 236], .null)), (45, (.putfield 31, 3, [11, 3, 570, 3], .null)), (48, (.aload_n 0, 1, [], .null)), (49, (.new 35, 3, [10, 333, 334, 107], .null)), (52, (.dup, 1, [], .null)), (53, (.aload_n 0, 1, [], .null)), (54, (.getfield 22, 3, [11, 2, 569], .null)), (57, (.invokespecial 37, 3, [2, 94, 1, 10, 335, 336], .null)), (60, (.putfield 38, 3, [11, 4, 571, 3], .null)), (63, (.aload_n 0, 1, [], .null)), (64, (.new 42, 3, [4, 374, 240, 106], .null))]),
  (101, [(67, (.dup, 1, [], .null)), (68, (.invokespecial 44, 3, [7, 23, 0, 4, 375, 242], .null)), (71, (.putfield 45, 3, [11, 5, 572, 3], .null)), (74, (.aload_n 0, 1, [], .null)), (75, (.new 49, 3, [6, 376, 377, 109], .null)), (78, (.dup, 1, [], .null)), (79, (.invokespecial 51, 3, [7, 50, 0, 6, 378, 379], .null)), (82, (.putfield 52, 3, [11, 6, 573, 3], .null)), (85, (.aload_n 0, 1, [], .null)), (86, (.new 49, 3, [6, 376, 377, 109], .null)), (89, (.dup, 1, [], .null)), (90, (.invokespecial 51, 3, [7, 50, 0, 6, 378, 379], .null)), (93, (.putfield 56, 3, [11, 7, 574, 3], .null)), (96, (.aload_n 0, 1, [], .null)), (97, (.new 59, 3, [7, 453, 454, 110], .null)), (100, (.dup, 1, [], .null))]),
  (133, [(101, (.invokespecial 61, 3, [2, 68, 0, 7, 455, 456], .null)), (104, (.putfield 62, 3, [11, 8, 575, 3], .null)), (107, (.aload_n 0, 1, [], .null)), (108, (.new 66, 3, [9, 472, 340, 108], .null)), (111, (.dup, 1, [], .null)), (112, (.invokespecial 68, 3, [7, 85, 0, 9, 473, 342], .null)), (115, (.putfield 69, 3, [11, 9, 576, 3], .null)), (118, (.aload_n 0, 1, [], .null)), (119, (.iconst 2, 1, [], .null)), (120, (.anewarray 73, 3, [18, 474, 475], .null)), (123, (.dup, 1, [], .null)), (124, (.iconst 0, 1, [], .null)), (125, (.new 73, 3, [3, 474, 476, 111], .null)), (128, (.dup, 1, [], .null)), (129, (.invokespecial 75, 3, [7, 22, 0, 3, 477, 478], .null)), (132, (.aastore, 1, [], .null))]),
  (163, [(133, (.dup, 1, [], .null)), (134, (.iconst 1, 1, [], .null)), (135, (.new 73, 3, [3, 474, 476, 111], .null)), (138, (.dup, 1, [], .null)), (139, (.invokespecial 75, 3, [7, 22, 0, 3, 477, 478], .null)), (142, (.aastore, 1, [], .null)), (143, (.putfield 76, 3, [11, 10, 577, 3], .null)), (146, (.aload_n 0, 1, [], .null)), (147, (.new 80, 3, [0, 504, 505, 112], .null)), (150, (.dup, 1, [], .null)), (151, (.invokespecial 82, 3, [7, 0, 0, 0, 506, 507], .null)), (154, (.putfield 83, 3, [11, 11, 578, 3], .null)), (157, (.aload_n 0, 1, [], .null)), (158, (.new 87, 3, [2, 523, 524, 113], .null)), (161, (.dup, 1, [], .null)), (162, (.invokespecial 89, 3, [7, 14, 0, 2, 525, 526], .null))]),
  (190, [(165, (.putfield 90, 3, [11, 12, 579, 3], .null)), (168, (.aload_n 0, 1, [], .null)), (169, (.new 94, 3, [1, 557, 558, 114], .null)), (172, (.dup, 1, [], .null)), (173, (.invokespecial 96, 3, [7, 10, 0, 1, 559, 560], .null)), (176, (.putfield 97, 3, [11, 13, 580, 3], .null)), (179, (.aload_n 0, 1, [], .null)), (180, (.iconst 4, 1, [], .null)), (181, (.newarray .int, 2, [321], .null)), (183, (.dup, 1, [], .null)), (184, (.iconst 0, 1, [], .null)), (185, (.iconst (-1), 1, [], .null)), (186, (.iastore, 1, [], .null)), (187, (.dup, 1, [], .null)), (188, (.iconst 1, 1, [], .null)), (189, (.iconst (-1), 1, [], .null))]),
  (210, [(190, (.iastore, 1, [], .null)), (191, (.dup, 1, [], .null)), (192, (.iconst 2, 1, [], .null)), (193, (.iconst (-1), 1, [], .null)), (194, (.iastore, 1, [], .null)), (195, (.dup, 1, [], .null)), (196, (.iconst 3, 1, [], .null)), (197, (.iconst (-1), 1, [], .null)), (198, (.iastore, 1, [], .null)), (199, (.putfield 101, 3, [11, 14, 581, 3], .null)), (202, (.aload_n 0, 1, [], .null)), (203, (.iconst 0, 1, [], .null)), (204, (.putfield 105, 3, [11, 15, 582, 0], .null)), (207, (.aload_n 0, 1, [], .null)), (208, (.iconst (-1), 1, [], .null)), (209, (.putfield 108, 3, [11, 16, 583, 0], .null))]),
  (213, [(212, (.return_, 1, [], .null))])])
def md_101 : ri_M × ri_T := ((yX11_feed, cX11_feed, 6, (some .int), RX11, 0, 0), [
  (27, [(0, (.aload_n 0, 1, [], .null)), (1, (.getfield 13, 3, [11, 1, 568], .null)), (4, (.bipush 20, 2, [], .null)), (6, (.iadd, 1, [], .null)), (7, (.sipush 940, 3, [], .null)), (10, (.if_icmp .le 5, 3, [15], .null)), (13, (.iconst (-1), 1, [], .null)), (14, (.ireturn, 1, [], .null)), (15, (.aload_n 0, 1, [], .null)), (16, (.iload_n 1, 1, [], .null)), (17, (.invokevirtual 111, 3, [1, 102, 1, 11, 623, 0, 625], .null)), (20, (.aload_n 0, 1, [], .null)), (21, (.iload_n 2, 1, [], .null)), (22, (.invokevirtual 111, 3, [1, 102, 1, 11, 623, 0, 625], .null)), (25, (.aload_n 0, 1, [], .null)), (26, (.iload_n 3, 1, [], .null))]),
  (47, [(27, (.invokevirtual 111, 3, [1, 102, 1, 11, 623, 0, 625], .null)), (30, (.aload_n 0, 1, [], .null)), (31, (.iload 4, 2, [], .null)), (33, (.invokevirtual 111, 3, [1, 102, 1, 11, 623, 0, 625], .null)), (36, (.aload_n 0, 1, [], .null)), (37, (.iload 5, 2, [], .null)), (39, (.invokevirtual 111, 3, [1, 102, 1, 11, 623, 0, 625], .null)), (42, (.aload_n 0, 1, [], .null)), (43, (.getfield 13, 3, [11, 1, 568], .null)), (46, (.ireturn, 1, [], .null))])])
def md_102 : ri_M × ri_T := ((yX11_append, cX11_append, 3, none, RX11, 0, 0), [
  (29, [(0, (.bipush 24, 2, [], .null)), (2, (.istore_n 2, 1, [], .null)), (3, (.iload_n 2, 1, [], .null)), (4, (.ifCond .lt 42, 3, [46], .null)), (7, (.aload_n 0, 1, [], .null)), (8, (.getfield 13, 3, [11, 1, 568], .null)), (11, (.sipush 940, 3, [], .null)), (14, (.if_icmp .ge 32, 3, [46], .null)), (17, (.aload_n 0, 1, [], .null)), (18, (.getfield 9, 3, [11, 0, 567], .null)), (21, (.aload_n 0, 1, [], .null)), (22, (.getfield 13, 3, [11, 1, 568], .null)), (25, (.iload_n 1, 1, [], .null)), (26, (.iload_n 2, 1, [], .null)), (27, (.iushr, 1, [], .null)), (28, (.i2b, 1, [], .null))]),
  (47, [(29, (.bastore, 1, [], .null)), (30, (.aload_n 0, 1, [], .null)), (31, (.dup, 1, [], .null)), (32, (.getfield 13, 3, [11, 1, 568], .null)), (35, (.iconst 1, 1, [], .null)), (36, (.iadd, 1, [], .null)), (37, (.putfield 13, 3, [11, 1, 568, 0], .null)), (40, (.iinc 2 (-8), 3, [], .null)), (43, (.goto (-40), 3, [3], .null)), (46, (.return_, 1, [], .null))])])
def md_103 : ri_M × ri_T := ((yX11_end, cX11_end, 2, (some .boolean), RX11, 0, 0), [
  (21, [(0, (.iload_n 1, 1, [], .null)), (1, (.ifCond .lt 11, 3, [12], .null)), (4, (.iload_n 1, 1, [], .null)), (5, (.aload_n 0, 1, [], .null)), (6, (.getfield 13, 3, [11, 1, 568], .null)), (9, (.if_icmp .le 5, 3, [14], .null)), (12, (.iconst 0, 1, [], .null)), (13, (.ireturn, 1, [], .null)), (14, (.aload_n 0, 1, [], .null)), (15, (.iload_n 1, 1, [], .null)), (16, (.putfield 13, 3, [11, 1, 568, 0], .null)), (19, (.iconst 1, 1, [], .null)), (20, (.ireturn, 1, [], .null))])])
def md_104 : ri_M × ri_T := ((yX11_lake, cX11_lake, 2, (some .int), RX11, 0, 0), [
  (32, [(0, (.aload_n 0, 1, [], .null)), (1, (.sipush 900, 3, [], .null)), (4, (.invokevirtual 115, 3, [1, 105, 1, 11, 635, 1, 637], .null)), (7, (.aload_n 0, 1, [], .null)), (8, (.getfield 31, 3, [11, 3, 570], .null)), (11, (.invokevirtual 118, 3, [1, 43, 0, 5, 661, 663, 662], .null)), (14, (.istore_n 1, 1, [], .null)), (15, (.aload_n 0, 1, [], .null)), (16, (.aload_n 0, 1, [], .null)), (17, (.getfield 22, 3, [11, 2, 569], .null)), (20, (.getfield 122, 3, [8, 9, 205], .null)), (23, (.putfield 105, 3, [11, 15, 582, 0], .null)), (26, (.iload_n 1, 1, [], .null)), (27, (.iconst (-1), 1, [], .null)), (28, (.if_icmp .ne 13, 3, [41], .null)), (31, (.iconst (-1), 1, [], .null))]),
  (64, [(32, (.aload_n 0, 1, [], .null)), (33, (.getfield 22, 3, [11, 2, 569], .null)), (36, (.getfield 125, 3, [8, 10, 207], .null)), (39, (.isub, 1, [], .null)), (40, (.ireturn, 1, [], .null)), (41, (.aload_n 0, 1, [], .null)), (42, (.getfield 45, 3, [11, 5, 572], .null)), (45, (.aload_n 0, 1, [], .null)), (46, (.getfield 31, 3, [11, 3, 570], .null)), (49, (.getfield 128, 3, [5, 1, 324], .null)), (52, (.invokevirtual 131, 3, [1, 25, 1, 4, 743, 745, 744], .null)), (55, (.aload_n 0, 1, [], .null)), (56, (.getfield 52, 3, [11, 6, 573], .null)), (59, (.aload_n 0, 1, [], .null)), (60, (.getfield 45, 3, [11, 5, 572], .null)), (63, (.invokevirtual 135, 3, [1, 51, 1, 6, 747, 749, 748], .null))]),
  (82, [(66, (.aload_n 0, 1, [], .null)), (67, (.getfield 69, 3, [11, 9, 576], .null)), (70, (.invokevirtual 138, 3, [1, 86, 0, 9, 751, 753, 752], .null)), (73, (.aload_n 0, 1, [], .null)), (74, (.getfield 62, 3, [11, 8, 575], .null)), (77, (.invokevirtual 141, 3, [1, 69, 0, 7, 755, 757, 756], .null)), (80, (.iload_n 1, 1, [], .null)), (81, (.ireturn, 1, [], .null))])])
def md_105 : ri_M × ri_T := ((yX11_openTape, cX11_openTape, 2, none, RX11, 0, 0), [
  (18, [(0, (.aload_n 0, 1, [], .null)), (1, (.getfield 22, 3, [11, 2, 569], .null)), (4, (.aload_n 0, 1, [], .null)), (5, (.getfield 13, 3, [11, 1, 568], .null)), (8, (.iload_n 1, 1, [], .null)), (9, (.invokevirtual 142, 3, [1, 73, 2, 8, 639, 641, 640], .null)), (12, (.aload_n 0, 1, [], .null)), (13, (.iconst 0, 1, [], .null)), (14, (.putfield 13, 3, [11, 1, 568, 0], .null)), (17, (.return_, 1, [], .null))])])
def md_106 : ri_M × ri_T := ((yX11_fault, cX11_fault, 1, (some .int), RX11, 0, 0), [
  (5, [(0, (.aload_n 0, 1, [], .null)), (1, (.getfield 105, 3, [11, 15, 582], .null)), (4, (.ireturn, 1, [], .null))])])
def md_107 : ri_M × ri_T := ((yX11_lesson, cX11_lesson, 3, (some .int), RX11, 0, 0), [
  (78, [(0, (.aload_n 0, 1, [], .null)), (1, (.getfield 45, 3, [11, 5, 572], .null)), (4, (.iconst 1, 1, [], .null)), (5, (.iload_n 1, 1, [], .null)), (6, (.invokevirtual 146, 3, [1, 26, 2, 4, 767, 769, 768], .null)), (9, (.ifCond .eq 13, 3, [22], .null)), (12, (.iload_n 2, 1, [], .null)), (13, (.ifCond .lt 9, 3, [22], .null)), (16, (.iload_n 2, 1, [], .null)), (17, (.bipush 7, 2, [], .null)), (19, (.if_icmp .le 13, 3, [32], .null)), (25, (.dup, 1, [], .null)), (32, (.iload_n 2, 1, [], .null)), (33, (.tableswitch 115 0 6 #[43, 53, 63, 73, 85, 95, 105], 43, [148, 76, 86, 96, 106, 118, 128, 138], .null)), (76, (.aload_n 0, 1, [], .null)), (77, (.getfield 45, 3, [11, 5, 572], .null))]),
  (106, [(80, (.getfield 157, 3, [4, 3, 271], .null)), (83, (.iload_n 1, 1, [], .null)), (84, (.iaload, 1, [], .null)), (85, (.ireturn, 1, [], .null)), (86, (.aload_n 0, 1, [], .null)), (87, (.getfield 45, 3, [11, 5, 572], .null)), (90, (.getfield 160, 3, [4, 5, 278], .null)), (93, (.iload_n 1, 1, [], .null)), (94, (.iaload, 1, [], .null)), (95, (.ireturn, 1, [], .null)), (96, (.aload_n 0, 1, [], .null)), (97, (.getfield 52, 3, [11, 6, 573], .null)), (100, (.getfield 163, 3, [6, 8, 402], .null)), (103, (.iload_n 1, 1, [], .null)), (104, (.iaload, 1, [], .null)), (105, (.ireturn, 1, [], .null))]),
  (130, [(106, (.aload_n 0, 1, [], .null)), (107, (.getfield 52, 3, [11, 6, 573], .null)), (110, (.getfield 166, 3, [6, 3, 392], .null)), (113, (.iload_n 1, 1, [], .null)), (114, (.ishr, 1, [], .null)), (115, (.iconst 1, 1, [], .null)), (116, (.iand, 1, [], .null)), (117, (.ireturn, 1, [], .null)), (118, (.aload_n 0, 1, [], .null)), (119, (.getfield 52, 3, [11, 6, 573], .null)), (122, (.getfield 169, 3, [6, 9, 406], .null)), (125, (.iload_n 1, 1, [], .null)), (126, (.iaload, 1, [], .null)), (127, (.ireturn, 1, [], .null)), (128, (.aload_n 0, 1, [], .null)), (129, (.getfield 52, 3, [11, 6, 573], .null))]),
  (158, [(132, (.getfield 172, 3, [6, 11, 410], .null)), (135, (.iload_n 1, 1, [], .null)), (136, (.iaload, 1, [], .null)), (137, (.ireturn, 1, [], .null)), (138, (.aload_n 0, 1, [], .null)), (139, (.getfield 52, 3, [11, 6, 573], .null)), (142, (.getfield 175, 3, [6, 7, 400], .null)), (145, (.iload_n 1, 1, [], .null)), (146, (.iaload, 1, [], .null)), (147, (.ireturn, 1, [], .null)), (148, (.aload_n 0, 1, [], .null)), (149, (.getfield 52, 3, [11, 6, 573], .null)), (152, (.getfield 178, 3, [6, 12, 413], .null)), (155, (.iload_n 1, 1, [], .null)), (156, (.iaload, 1, [], .null)), (157, (.ireturn, 1, [], .null))])])
def md_108 : ri_M × ri_T := ((yX11_step, cX11_step, 3, (some .int), RX11, 0, 0), [
  (30, [(0, (.aload_n 0, 1, [], .null)), (1, (.getfield 45, 3, [11, 5, 572], .null)), (4, (.iconst 1, 1, [], .null)), (5, (.iload_n 1, 1, [], .null)), (6, (.invokevirtual 146, 3, [1, 26, 2, 4, 767, 769, 768], .null)), (9, (.ifCond .eq 20, 3, [29], .null)), (12, (.iload_n 2, 1, [], .null)), (13, (.ifCond .lt 16, 3, [29], .null)), (16, (.iload_n 2, 1, [], .null)), (17, (.aload_n 0, 1, [], .null)), (18, (.getfield 45, 3, [11, 5, 572], .null)), (21, (.getfield 160, 3, [4, 5, 278], .null)), (24, (.iload_n 1, 1, [], .null)), (25, (.iaload, 1, [], .null)), (26, (.if_icmp .lt 5, 3, [31], .null)), (29, (.iconst (-1), 1, [], .null))]),
  (46, [(30, (.ireturn, 1, [], .null)), (31, (.aload_n 0, 1, [], .null)), (32, (.getfield 45, 3, [11, 5, 572], .null)), (35, (.getfield 181, 3, [4, 6, 281], .null)), (38, (.iload_n 1, 1, [], .null)), (39, (.bipush 8, 2, [], .null)), (41, (.imul, 1, [], .null)), (42, (.iload_n 2, 1, [], .null)), (43, (.iadd, 1, [], .null)), (44, (.iaload, 1, [], .null)), (45, (.ireturn, 1, [], .null))])])
def md_109 : ri_M × ri_T := ((yX11_boat, cX11_boat, 3, (some .int), RX11, 0, 0), [
  (54, [(0, (.aload_n 0, 1, [], .null)), (1, (.getfield 45, 3, [11, 5, 572], .null)), (4, (.iconst 3, 1, [], .null)), (5, (.iload_n 1, 1, [], .null)), (6, (.invokevirtual 146, 3, [1, 26, 2, 4, 767, 769, 768], .null)), (9, (.ifCond .ne 5, 3, [14], .null)), (12, (.iconst (-1), 1, [], .null)), (13, (.ireturn, 1, [], .null)), (14, (.iload_n 2, 1, [], .null)), (15, (.tableswitch 71 0 3 #[29, 39, 51, 61], 29, [86, 44, 54, 66, 76], .null)), (44, (.aload_n 0, 1, [], .null)), (45, (.getfield 52, 3, [11, 6, 573], .null)), (48, (.getfield 184, 3, [6, 13, 415], .null)), (51, (.iload_n 1, 1, [], .null)), (52, (.iaload, 1, [], .null)), (53, (.ireturn, 1, [], .null))]),
  (78, [(54, (.aload_n 0, 1, [], .null)), (55, (.getfield 52, 3, [11, 6, 573], .null)), (58, (.getfield 187, 3, [6, 5, 397], .null)), (61, (.iload_n 1, 1, [], .null)), (62, (.ishr, 1, [], .null)), (63, (.iconst 1, 1, [], .null)), (64, (.iand, 1, [], .null)), (65, (.ireturn, 1, [], .null)), (66, (.aload_n 0, 1, [], .null)), (67, (.getfield 52, 3, [11, 6, 573], .null)), (70, (.getfield 190, 3, [6, 14, 417], .null)), (73, (.iload_n 1, 1, [], .null)), (74, (.iaload, 1, [], .null)), (75, (.ireturn, 1, [], .null)), (76, (.aload_n 0, 1, [], .null)), (77, (.getfield 52, 3, [11, 6, 573], .null))]),
  (88, [(80, (.getfield 193, 3, [6, 15, 419], .null)), (83, (.iload_n 1, 1, [], .null)), (84, (.iaload, 1, [], .null)), (85, (.ireturn, 1, [], .null)), (86, (.iconst (-1), 1, [], .null)), (87, (.ireturn, 1, [], .null))])])
def md_110 : ri_M × ri_T := ((yX11_height, cX11_height, 2, (some .int), RX11, 0, 0), [
  (24, [(0, (.aload_n 0, 1, [], .null)), (1, (.getfield 45, 3, [11, 5, 572], .null)), (4, (.iload_n 1, 1, [], .null)), (5, (.invokevirtual 196, 3, [1, 27, 1, 4, 779, 781, 780], .null)), (8, (.ifCond .eq 14, 3, [22], .null)), (11, (.aload_n 0, 1, [], .null)), (12, (.getfield 52, 3, [11, 6, 573], .null)), (15, (.iload_n 1, 1, [], .null)), (16, (.invokevirtual 200, 3, [1, 53, 1, 6, 783, 785, 784], .null)), (19, (.goto 4, 3, [23], .null)), (22, (.iconst (-1), 1, [], .null)), (23, (.ireturn, 1, [], .null))])])
def md_111 : ri_M × ri_T := ((yX11_now, cX11_now, 2, (some .int), RX11, 0, 0), [
  (78, [(0, (.iload_n 1, 1, [], .null)), (1, (.tableswitch 130 0 7 #[47, 55, 78, 86, 94, 106, 114, 122], 47, [131, 48, 56, 79, 87, 95, 107, 115, 123], .null)), (48, (.aload_n 0, 1, [], .null)), (49, (.getfield 52, 3, [11, 6, 573], .null)), (52, (.getfield 204, 3, [6, 0, 384], .null)), (55, (.ireturn, 1, [], .null)), (56, (.aload_n 0, 1, [], .null)), (57, (.getfield 45, 3, [11, 5, 572], .null)), (60, (.aload_n 0, 1, [], .null)), (61, (.getfield 52, 3, [11, 6, 573], .null)), (64, (.getfield 204, 3, [6, 0, 384], .null)), (67, (.invokevirtual 207, 3, [1, 39, 1, 4, 791, 793, 792], .null)), (70, (.ifCond .eq 7, 3, [77], .null)), (73, (.iconst 1, 1, [], .null)), (74, (.goto 4, 3, [78], .null)), (77, (.iconst 0, 1, [], .null))]),
  (108, [(78, (.ireturn, 1, [], .null)), (79, (.aload_n 0, 1, [], .null)), (80, (.getfield 52, 3, [11, 6, 573], .null)), (83, (.getfield 166, 3, [6, 3, 392], .null)), (86, (.ireturn, 1, [], .null)), (87, (.aload_n 0, 1, [], .null)), (88, (.getfield 52, 3, [11, 6, 573], .null)), (91, (.getfield 210, 3, [6, 4, 395], .null)), (94, (.ireturn, 1, [], .null)), (95, (.aload_n 0, 1, [], .null)), (96, (.getfield 52, 3, [11, 6, 573], .null)), (99, (.aload_n 0, 1, [], .null)), (100, (.getfield 45, 3, [11, 5, 572], .null)), (103, (.invokevirtual 213, 3, [1, 55, 1, 6, 795, 797, 796], .null)), (106, (.ireturn, 1, [], .null)), (107, (.aload_n 0, 1, [], .null))]),
  (133, [(108, (.getfield 52, 3, [11, 6, 573], .null)), (111, (.getfield 217, 3, [6, 1, 386], .null)), (114, (.ireturn, 1, [], .null)), (115, (.aload_n 0, 1, [], .null)), (116, (.getfield 52, 3, [11, 6, 573], .null)), (119, (.getfield 187, 3, [6, 5, 397], .null)), (122, (.ireturn, 1, [], .null)), (123, (.aload_n 0, 1, [], .null)), (124, (.getfield 52, 3, [11, 6, 573], .null)), (127, (.getfield 220, 3, [6, 2, 388], .null)), (130, (.ireturn, 1, [], .null)), (131, (.iconst (-1), 1, [], .null)), (132, (.ireturn, 1, [], .null))])])
def md_112 : ri_M × ri_T := ((yX11_show, cX11_show, 4, (some .int), RX11, 0, 0), [
  (28, [(0, (.aload_n 0, 1, [], .null)), (1, (.getfield 45, 3, [11, 5, 572], .null)), (4, (.iconst 2, 1, [], .null)), (5, (.iload_n 1, 1, [], .null)), (6, (.invokevirtual 146, 3, [1, 26, 2, 4, 767, 769, 768], .null)), (9, (.ifCond .eq 15, 3, [24], .null)), (12, (.aload_n 0, 1, [], .null)), (13, (.getfield 45, 3, [11, 5, 572], .null)), (16, (.iconst 1, 1, [], .null)), (17, (.iload_n 2, 1, [], .null)), (18, (.invokevirtual 146, 3, [1, 26, 2, 4, 767, 769, 768], .null)), (21, (.ifCond .ne 5, 3, [26], .null)), (24, (.iconst (-1), 1, [], .null)), (25, (.ireturn, 1, [], .null)), (26, (.aload_n 0, 1, [], .null)), (27, (.getfield 52, 3, [11, 6, 573], .null))]),
  (60, [(30, (.aload_n 0, 1, [], .null)), (31, (.getfield 45, 3, [11, 5, 572], .null)), (34, (.iload_n 2, 1, [], .null)), (35, (.invokevirtual 223, 3, [1, 57, 2, 6, 803, 805, 804], .null)), (38, (.istore_n 3, 1, [], .null)), (39, (.iload_n 3, 1, [], .null)), (40, (.ifCond .ne 23, 3, [63], .null)), (43, (.aload_n 0, 1, [], .null)), (44, (.getfield 62, 3, [11, 8, 575], .null)), (47, (.aload_n 0, 1, [], .null)), (48, (.getfield 52, 3, [11, 6, 573], .null)), (51, (.invokevirtual 227, 3, [1, 70, 1, 7, 808, 810, 809], .null)), (54, (.aload_n 0, 1, [], .null)), (55, (.getfield 52, 3, [11, 6, 573], .null)), (58, (.iload_n 1, 1, [], .null)), (59, (.iload_n 2, 1, [], .null))]),
  (65, [(60, (.invokevirtual 231, 3, [1, 58, 2, 6, 818, 820, 819], .null)), (63, (.iload_n 3, 1, [], .null)), (64, (.ireturn, 1, [], .null))])])
def md_113 : ri_M × ri_T := ((yX11_ring, cX11_ring, 3, (some .int), RX11, 0, 0), [
  (28, [(0, (.aload_n 0, 1, [], .null)), (1, (.getfield 45, 3, [11, 5, 572], .null)), (4, (.iconst 0, 1, [], .null)), (5, (.iload_n 1, 1, [], .null)), (6, (.invokevirtual 146, 3, [1, 26, 2, 4, 767, 769, 768], .null)), (9, (.ifCond .ne 5, 3, [14], .null)), (12, (.iconst (-1), 1, [], .null)), (13, (.ireturn, 1, [], .null)), (14, (.aload_n 0, 1, [], .null)), (15, (.getfield 52, 3, [11, 6, 573], .null)), (18, (.aload_n 0, 1, [], .null)), (19, (.getfield 45, 3, [11, 5, 572], .null)), (22, (.invokevirtual 234, 3, [1, 59, 1, 6, 826, 828, 827], .null)), (25, (.istore_n 2, 1, [], .null)), (26, (.iload_n 2, 1, [], .null)), (27, (.ifCond .ne 26, 3, [53], .null))]),
  (55, [(30, (.aload_n 0, 1, [], .null)), (31, (.getfield 62, 3, [11, 8, 575], .null)), (34, (.aload_n 0, 1, [], .null)), (35, (.getfield 52, 3, [11, 6, 573], .null)), (38, (.invokevirtual 227, 3, [1, 70, 1, 7, 808, 810, 809], .null)), (41, (.aload_n 0, 1, [], .null)), (42, (.getfield 52, 3, [11, 6, 573], .null)), (45, (.aload_n 0, 1, [], .null)), (46, (.getfield 45, 3, [11, 5, 572], .null)), (49, (.iload_n 1, 1, [], .null)), (50, (.invokevirtual 237, 3, [1, 60, 2, 6, 830, 832, 831], .null)), (53, (.iload_n 2, 1, [], .null)), (54, (.ireturn, 1, [], .null))])])
def md_114 : ri_M × ri_T := ((yX11_sail, cX11_sail, 4, (some .int), RX11, 0, 0), [
  (30, [(0, (.aload_n 0, 1, [], .null)), (1, (.getfield 45, 3, [11, 5, 572], .null)), (4, (.iconst 3, 1, [], .null)), (5, (.iload_n 1, 1, [], .null)), (6, (.invokevirtual 146, 3, [1, 26, 2, 4, 767, 769, 768], .null)), (9, (.ifCond .eq 14, 3, [23], .null)), (12, (.aload_n 0, 1, [], .null)), (13, (.getfield 45, 3, [11, 5, 572], .null)), (16, (.iload_n 2, 1, [], .null)), (17, (.invokevirtual 196, 3, [1, 27, 1, 4, 779, 781, 780], .null)), (20, (.ifCond .ne 5, 3, [25], .null)), (23, (.iconst (-1), 1, [], .null)), (24, (.ireturn, 1, [], .null)), (25, (.aload_n 0, 1, [], .null)), (26, (.getfield 52, 3, [11, 6, 573], .null)), (29, (.aload_n 0, 1, [], .null))]),
  (60, [(30, (.getfield 45, 3, [11, 5, 572], .null)), (33, (.iload_n 1, 1, [], .null)), (34, (.iload_n 2, 1, [], .null)), (35, (.invokevirtual 241, 3, [1, 61, 3, 6, 849, 851, 850], .null)), (38, (.istore_n 3, 1, [], .null)), (39, (.iload_n 3, 1, [], .null)), (40, (.ifCond .ne 23, 3, [63], .null)), (43, (.aload_n 0, 1, [], .null)), (44, (.getfield 62, 3, [11, 8, 575], .null)), (47, (.aload_n 0, 1, [], .null)), (48, (.getfield 52, 3, [11, 6, 573], .null)), (51, (.invokevirtual 227, 3, [1, 70, 1, 7, 808, 810, 809], .null)), (54, (.aload_n 0, 1, [], .null)), (55, (.getfield 52, 3, [11, 6, 573], .null)), (58, (.iload_n 1, 1, [], .null)), (59, (.iload_n 2, 1, [], .null))]),
  (65, [(60, (.invokevirtual 245, 3, [1, 62, 2, 6, 854, 856, 855], .null)), (63, (.iload_n 3, 1, [], .null)), (64, (.ireturn, 1, [], .null))])])
def md_115 : ri_M × ri_T := ((yX11_days, cX11_days, 3, (some .int), RX11, 0, 0), [
  (27, [(0, (.iload_n 1, 1, [], .null)), (1, (.iconst 1, 1, [], .null)), (2, (.if_icmp .lt 9, 3, [11], .null)), (5, (.iload_n 1, 1, [], .null)), (6, (.bipush 60, 2, [], .null)), (8, (.if_icmp .le 5, 3, [13], .null)), (11, (.iconst (-1), 1, [], .null)), (12, (.ireturn, 1, [], .null)), (13, (.iload_n 1, 1, [], .null)), (14, (.aload_n 0, 1, [], .null)), (15, (.getfield 52, 3, [11, 6, 573], .null)), (18, (.invokevirtual 248, 3, [1, 54, 0, 6, 862, 864, 863], .null)), (21, (.invokestatic 251, 3, [8, 866], .null)), (24, (.istore_n 2, 1, [], .null)), (25, (.iload_n 2, 1, [], .null)), (26, (.ifCond .le 26, 3, [52], .null))]),
  (54, [(29, (.aload_n 0, 1, [], .null)), (30, (.getfield 62, 3, [11, 8, 575], .null)), (33, (.aload_n 0, 1, [], .null)), (34, (.getfield 52, 3, [11, 6, 573], .null)), (37, (.invokevirtual 227, 3, [1, 70, 1, 7, 808, 810, 809], .null)), (40, (.aload_n 0, 1, [], .null)), (41, (.getfield 52, 3, [11, 6, 573], .null)), (44, (.aload_n 0, 1, [], .null)), (45, (.getfield 45, 3, [11, 5, 572], .null)), (48, (.iload_n 2, 1, [], .null)), (49, (.invokevirtual 257, 3, [1, 63, 2, 6, 867, 869, 868], .null)), (52, (.iload_n 2, 1, [], .null)), (53, (.ireturn, 1, [], .null))])])
def md_116 : ri_M × ri_T := ((yX11_undo, cX11_undo, 1, (some .int), RX11, 0, 0), [
  (12, [(0, (.aload_n 0, 1, [], .null)), (1, (.getfield 62, 3, [11, 8, 575], .null)), (4, (.aload_n 0, 1, [], .null)), (5, (.getfield 52, 3, [11, 6, 573], .null)), (8, (.invokevirtual 260, 3, [1, 71, 1, 7, 896, 898, 897], .null)), (11, (.ireturn, 1, [], .null))])])
def md_117 : ri_M × ri_T := ((yX11_does, cX11_does, 3, (some .int), RX11, 0, 0), [
  (30, [(0, (.aload_n 0, 1, [], .null)), (1, (.getfield 45, 3, [11, 5, 572], .null)), (4, (.iconst 0, 1, [], .null)), (5, (.iload_n 1, 1, [], .null)), (6, (.invokevirtual 146, 3, [1, 26, 2, 4, 767, 769, 768], .null)), (9, (.ifCond .eq 14, 3, [23], .null)), (12, (.aload_n 0, 1, [], .null)), (13, (.getfield 45, 3, [11, 5, 572], .null)), (16, (.iload_n 2, 1, [], .null)), (17, (.invokevirtual 264, 3, [1, 28, 1, 4, 904, 906, 905], .null)), (20, (.ifCond .ne 5, 3, [25], .null)), (23, (.iconst (-1), 1, [], .null)), (24, (.ireturn, 1, [], .null)), (25, (.aload_n 0, 1, [], .null)), (26, (.getfield 45, 3, [11, 5, 572], .null)), (29, (.iload_n 1, 1, [], .null))]),
  (35, [(30, (.iload_n 2, 1, [], .null)), (31, (.invokevirtual 267, 3, [1, 33, 2, 4, 908, 836, 835], .null)), (34, (.ireturn, 1, [], .null))])])
def md_118 : ri_M × ri_T := ((yX11_waves, cX11_waves, 3, (some .int), RX11, 0, 0), [
  (30, [(0, (.aload_n 0, 1, [], .null)), (1, (.getfield 45, 3, [11, 5, 572], .null)), (4, (.iconst 0, 1, [], .null)), (5, (.iload_n 1, 1, [], .null)), (6, (.invokevirtual 146, 3, [1, 26, 2, 4, 767, 769, 768], .null)), (9, (.ifCond .eq 14, 3, [23], .null)), (12, (.aload_n 0, 1, [], .null)), (13, (.getfield 45, 3, [11, 5, 572], .null)), (16, (.iload_n 2, 1, [], .null)), (17, (.invokevirtual 264, 3, [1, 28, 1, 4, 904, 906, 905], .null)), (20, (.ifCond .ne 5, 3, [25], .null)), (23, (.iconst (-1), 1, [], .null)), (24, (.ireturn, 1, [], .null)), (25, (.aload_n 0, 1, [], .null)), (26, (.getfield 45, 3, [11, 5, 572], .null)), (29, (.iload_n 1, 1, [], .null))]),
  (35, [(30, (.iload_n 2, 1, [], .null)), (31, (.invokevirtual 270, 3, [1, 34, 2, 4, 913, 840, 839], .null)), (34, (.ireturn, 1, [], .null))])])
def md_119 : ri_M × ri_T := ((yX11_dry, cX11_dry, 4, (some .int), RX11, 0, 0), [
  (26, [(0, (.aload_n 0, 1, [], .null)), (1, (.getfield 45, 3, [11, 5, 572], .null)), (4, (.iload_n 1, 1, [], .null)), (5, (.invokevirtual 196, 3, [1, 27, 1, 4, 779, 781, 780], .null)), (8, (.ifCond .ne 5, 3, [13], .null)), (11, (.iconst (-1), 1, [], .null)), (12, (.ireturn, 1, [], .null)), (13, (.iconst 0, 1, [], .null)), (14, (.istore_n 2, 1, [], .null)), (15, (.iconst 0, 1, [], .null)), (16, (.istore_n 3, 1, [], .null)), (17, (.iload_n 3, 1, [], .null)), (18, (.aload_n 0, 1, [], .null)), (19, (.getfield 45, 3, [11, 5, 572], .null)), (22, (.getfield 273, 3, [4, 2, 268], .null)), (25, (.iconst 0, 1, [], .null))]),
  (54, [(26, (.iaload, 1, [], .null)), (27, (.if_icmp .ge 37, 3, [64], .null)), (30, (.aload_n 0, 1, [], .null)), (31, (.getfield 45, 3, [11, 5, 572], .null)), (34, (.iload_n 3, 1, [], .null)), (35, (.aload_n 0, 1, [], .null)), (36, (.getfield 52, 3, [11, 6, 573], .null)), (39, (.getfield 166, 3, [6, 3, 392], .null)), (42, (.invokevirtual 270, 3, [1, 34, 2, 4, 913, 840, 839], .null)), (45, (.iload_n 1, 1, [], .null)), (46, (.ishr, 1, [], .null)), (47, (.iconst 1, 1, [], .null)), (48, (.iand, 1, [], .null)), (49, (.ifCond .ne 9, 3, [58], .null)), (52, (.iload_n 2, 1, [], .null)), (53, (.iconst 1, 1, [], .null))]),
  (66, [(54, (.iload_n 3, 1, [], .null)), (55, (.ishl, 1, [], .null)), (56, (.ior, 1, [], .null)), (57, (.istore_n 2, 1, [], .null)), (58, (.iinc 3 1, 3, [], .null)), (61, (.goto (-44), 3, [17], .null)), (64, (.iload_n 2, 1, [], .null)), (65, (.ireturn, 1, [], .null))])])
def md_120 : ri_M × ri_T := ((yX11_havens, cX11_havens, 4, (some .int), RX11, 0, 0), [
  (24, [(0, (.iload_n 1, 1, [], .null)), (1, (.ifCond .lt 18, 3, [19], .null)), (4, (.iload_n 1, 1, [], .null)), (5, (.iconst 1, 1, [], .null)), (6, (.aload_n 0, 1, [], .null)), (7, (.getfield 45, 3, [11, 5, 572], .null)), (10, (.getfield 273, 3, [4, 2, 268], .null)), (13, (.iconst 0, 1, [], .null)), (14, (.iaload, 1, [], .null)), (15, (.ishl, 1, [], .null)), (16, (.if_icmp .lt 5, 3, [21], .null)), (19, (.iconst (-1), 1, [], .null)), (20, (.ireturn, 1, [], .null)), (21, (.iconst 1, 1, [], .null)), (22, (.aload_n 0, 1, [], .null)), (23, (.getfield 45, 3, [11, 5, 572], .null))]),
  (48, [(26, (.getfield 276, 3, [4, 0, 258], .null)), (29, (.iconst 0, 1, [], .null)), (30, (.iaload, 1, [], .null)), (31, (.ishl, 1, [], .null)), (32, (.iconst 1, 1, [], .null)), (33, (.isub, 1, [], .null)), (34, (.istore_n 2, 1, [], .null)), (35, (.iconst 0, 1, [], .null)), (36, (.istore_n 3, 1, [], .null)), (37, (.iload_n 3, 1, [], .null)), (38, (.aload_n 0, 1, [], .null)), (39, (.getfield 45, 3, [11, 5, 572], .null)), (42, (.getfield 273, 3, [4, 2, 268], .null)), (45, (.iconst 0, 1, [], .null)), (46, (.iaload, 1, [], .null)), (47, (.if_icmp .ge 38, 3, [85], .null))]),
  (76, [(50, (.iload_n 1, 1, [], .null)), (51, (.iload_n 3, 1, [], .null)), (52, (.ishr, 1, [], .null)), (53, (.iconst 1, 1, [], .null)), (54, (.iand, 1, [], .null)), (55, (.iconst 1, 1, [], .null)), (56, (.if_icmp .ne 23, 3, [79], .null)), (59, (.iload_n 2, 1, [], .null)), (60, (.aload_n 0, 1, [], .null)), (61, (.getfield 45, 3, [11, 5, 572], .null)), (64, (.iload_n 3, 1, [], .null)), (65, (.aload_n 0, 1, [], .null)), (66, (.getfield 52, 3, [11, 6, 573], .null)), (69, (.getfield 166, 3, [6, 3, 392], .null)), (72, (.invokevirtual 270, 3, [1, 34, 2, 4, 913, 840, 839], .null)), (75, (.iconst (-1), 1, [], .null))]),
  (87, [(76, (.ixor, 1, [], .null)), (77, (.iand, 1, [], .null)), (78, (.istore_n 2, 1, [], .null)), (79, (.iinc 3 1, 3, [], .null)), (82, (.goto (-45), 3, [37], .null)), (85, (.iload_n 2, 1, [], .null)), (86, (.ireturn, 1, [], .null))])])
def md_121 : ri_M × ri_T := ((yX11_learnt, cX11_learnt, 2, (some .int), RX11, 0, 0), [
  (27, [(0, (.aload_n 0, 1, [], .null)), (1, (.getfield 13, 3, [11, 1, 568], .null)), (4, (.istore_n 1, 1, [], .null)), (5, (.aload_n 0, 1, [], .null)), (6, (.iconst 0, 1, [], .null)), (7, (.putfield 13, 3, [11, 1, 568, 0], .null)), (10, (.aload_n 0, 1, [], .null)), (11, (.getfield 90, 3, [11, 12, 579], .null)), (14, (.aload_n 0, 1, [], .null)), (15, (.getfield 45, 3, [11, 5, 572], .null)), (18, (.aload_n 0, 1, [], .null)), (19, (.getfield 9, 3, [11, 0, 567], .null)), (22, (.iload_n 1, 1, [], .null)), (23, (.invokevirtual 279, 3, [1, 15, 3, 2, 926, 928, 927], .null)), (26, (.ireturn, 1, [], .null))])])
def md_122 : ri_M × ri_T := ((yX11_surely, cX11_surely, 1, (some .int), RX11, 0, 0), [
  (8, [(0, (.aload_n 0, 1, [], .null)), (1, (.getfield 90, 3, [11, 12, 579], .null)), (4, (.getfield 283, 3, [2, 0, 530], .null)), (7, (.ireturn, 1, [], .null))])])
def md_123 : ri_M × ri_T := ((yX11_never, cX11_never, 1, (some .int), RX11, 0, 0), [
  (8, [(0, (.aload_n 0, 1, [], .null)), (1, (.getfield 90, 3, [11, 12, 579], .null)), (4, (.getfield 286, 3, [2, 1, 532], .null)), (7, (.ireturn, 1, [], .null))])])
def md_124 : ri_M × ri_T := ((yX11_ask, cX11_ask, 1, (some .int), RX11, 0, 0), [
  (8, [(0, (.aload_n 0, 1, [], .null)), (1, (.getfield 90, 3, [11, 12, 579], .null)), (4, (.getfield 289, 3, [2, 2, 534], .null)), (7, (.ireturn, 1, [], .null))])])
def md_125 : ri_M × ri_T := ((yX11_teach, cX11_teach, 4, (some .int), RX11, 0, 0), [
  (28, [(0, (.aload_n 0, 1, [], .null)), (1, (.getfield 13, 3, [11, 1, 568], .null)), (4, (.istore_n 2, 1, [], .null)), (5, (.aload_n 0, 1, [], .null)), (6, (.iconst 0, 1, [], .null)), (7, (.putfield 13, 3, [11, 1, 568, 0], .null)), (10, (.aload_n 0, 1, [], .null)), (11, (.getfield 45, 3, [11, 5, 572], .null)), (14, (.iconst 0, 1, [], .null)), (15, (.iload_n 1, 1, [], .null)), (16, (.invokevirtual 146, 3, [1, 26, 2, 4, 767, 769, 768], .null)), (19, (.ifCond .eq 31, 3, [50], .null)), (22, (.iload_n 2, 1, [], .null)), (23, (.aload_n 0, 1, [], .null)), (24, (.getfield 45, 3, [11, 5, 572], .null)), (27, (.getfield 276, 3, [4, 0, 258], .null))]),
  (56, [(30, (.iconst 0, 1, [], .null)), (31, (.iaload, 1, [], .null)), (32, (.if_icmp .ne 18, 3, [50], .null)), (35, (.aload_n 0, 1, [], .null)), (36, (.getfield 45, 3, [11, 5, 572], .null)), (39, (.aload_n 0, 1, [], .null)), (40, (.getfield 9, 3, [11, 0, 567], .null)), (43, (.iconst 0, 1, [], .null)), (44, (.invokevirtual 292, 3, [1, 36, 2, 4, 980, 937, 936], .null)), (47, (.ifCond .ne 5, 3, [52], .null)), (50, (.iconst (-1), 1, [], .null)), (51, (.ireturn, 1, [], .null)), (52, (.aload_n 0, 1, [], .null)), (53, (.iload_n 1, 1, [], .null)), (54, (.aload_n 0, 1, [], .null)), (55, (.getfield 45, 3, [11, 5, 572], .null))]),
  (84, [(58, (.aload_n 0, 1, [], .null)), (59, (.getfield 9, 3, [11, 0, 567], .null)), (62, (.iconst 0, 1, [], .null)), (63, (.invokevirtual 296, 3, [1, 37, 2, 4, 981, 941, 940], .null)), (66, (.invokevirtual 300, 3, [1, 126, 2, 11, 982, 19, 984], .null)), (69, (.istore_n 3, 1, [], .null)), (70, (.iload_n 3, 1, [], .null)), (71, (.iconst (-1), 1, [], .null)), (72, (.if_icmp .ne 5, 3, [77], .null)), (75, (.iconst (-1), 1, [], .null)), (76, (.ireturn, 1, [], .null)), (77, (.aload_n 0, 1, [], .null)), (78, (.iload_n 3, 1, [], .null)), (79, (.putfield 108, 3, [11, 16, 583, 0], .null)), (82, (.aload_n 0, 1, [], .null)), (83, (.getfield 52, 3, [11, 6, 573], .null))]),
  (95, [(86, (.aload_n 0, 1, [], .null)), (87, (.getfield 45, 3, [11, 5, 572], .null)), (90, (.iload_n 3, 1, [], .null)), (91, (.invokevirtual 303, 3, [1, 56, 2, 6, 986, 988, 987], .null)), (94, (.ireturn, 1, [], .null))])])
def md_126 : ri_M × ri_T := ((yX11_cheapest, cX11_cheapest, 7, (some .int), RX11, 0, 0), [
  (25, [(0, (.aload_n 0, 1, [], .null)), (1, (.getfield 45, 3, [11, 5, 572], .null)), (4, (.getfield 306, 3, [4, 4, 276], .null)), (7, (.iload_n 1, 1, [], .null)), (8, (.iaload, 1, [], .null)), (9, (.aload_n 0, 1, [], .null)), (10, (.getfield 52, 3, [11, 6, 573], .null)), (13, (.getfield 166, 3, [6, 3, 392], .null)), (16, (.iconst (-1), 1, [], .null)), (17, (.ixor, 1, [], .null)), (18, (.iand, 1, [], .null)), (19, (.istore_n 3, 1, [], .null)), (20, (.iconst (-1), 1, [], .null)), (21, (.istore 4, 2, [], .null)), (23, (.iconst 0, 1, [], .null)), (24, (.istore 5, 2, [], .null))]),
  (54, [(26, (.iload 5, 2, [], .null)), (28, (.iload_n 3, 1, [], .null)), (29, (.if_icmp .gt 91, 3, [120], .null)), (32, (.iload 5, 2, [], .null)), (34, (.iload_n 3, 1, [], .null)), (35, (.iconst (-1), 1, [], .null)), (36, (.ixor, 1, [], .null)), (37, (.iand, 1, [], .null)), (38, (.ifCond .ne 29, 3, [67], .null)), (41, (.aload_n 0, 1, [], .null)), (42, (.getfield 45, 3, [11, 5, 572], .null)), (45, (.iload_n 1, 1, [], .null)), (46, (.aload_n 0, 1, [], .null)), (47, (.getfield 52, 3, [11, 6, 573], .null)), (50, (.getfield 166, 3, [6, 3, 392], .null)), (53, (.iload 5, 2, [], .null))]),
  (86, [(55, (.ior, 1, [], .null)), (56, (.invokevirtual 267, 3, [1, 33, 2, 4, 908, 836, 835], .null)), (59, (.iload_n 2, 1, [], .null)), (60, (.if_icmp .ne 7, 3, [67], .null)), (63, (.iconst 1, 1, [], .null)), (64, (.goto 4, 3, [68], .null)), (67, (.iconst 0, 1, [], .null)), (68, (.istore 6, 2, [], .null)), (70, (.iload 6, 2, [], .null)), (72, (.ifCond .eq 42, 3, [114], .null)), (75, (.iload 4, 2, [], .null)), (77, (.iconst (-1), 1, [], .null)), (78, (.if_icmp .eq 32, 3, [110], .null)), (81, (.aload_n 0, 1, [], .null)), (82, (.getfield 52, 3, [11, 6, 573], .null)), (85, (.aload_n 0, 1, [], .null))]),
  (123, [(86, (.getfield 45, 3, [11, 5, 572], .null)), (89, (.iload 5, 2, [], .null)), (91, (.invokevirtual 303, 3, [1, 56, 2, 6, 986, 988, 987], .null)), (94, (.aload_n 0, 1, [], .null)), (95, (.getfield 52, 3, [11, 6, 573], .null)), (98, (.aload_n 0, 1, [], .null)), (99, (.getfield 45, 3, [11, 5, 572], .null)), (102, (.iload 4, 2, [], .null)), (104, (.invokevirtual 303, 3, [1, 56, 2, 6, 986, 988, 987], .null)), (107, (.if_icmp .ge 7, 3, [114], .null)), (110, (.iload 5, 2, [], .null)), (112, (.istore 4, 2, [], .null)), (114, (.iinc 5 1, 3, [], .null)), (117, (.goto (-91), 3, [26], .null)), (120, (.iload 4, 2, [], .null)), (122, (.ireturn, 1, [], .null))])])
def md_127 : ri_M × ri_T := ((yX11_taught, cX11_taught, 1, (some .int), RX11, 0, 0), [
  (5, [(0, (.aload_n 0, 1, [], .null)), (1, (.getfield 108, 3, [11, 16, 583], .null)), (4, (.ireturn, 1, [], .null))])])
def md_128 : ri_M × ri_T := ((yX11_apart, cX11_apart, 2, (some .int), RX11, 0, 0), [
  (7, [(0, (.aload_n 0, 1, [], .null)), (1, (.iload_n 1, 1, [], .null)), (2, (.iconst 0, 1, [], .null)), (3, (.invokevirtual 309, 3, [1, 130, 2, 11, 998, 20, 1000], .null)), (6, (.ireturn, 1, [], .null))])])
def md_129 : ri_M × ri_T := ((yX11_still, cX11_still, 2, (some .int), RX11, 0, 0), [
  (7, [(0, (.aload_n 0, 1, [], .null)), (1, (.iload_n 1, 1, [], .null)), (2, (.iconst 1, 1, [], .null)), (3, (.invokevirtual 309, 3, [1, 130, 2, 11, 998, 20, 1000], .null)), (6, (.ireturn, 1, [], .null))])])
def md_130 : ri_M × ri_T := ((yX11_pairs, cX11_pairs, 7, (some .int), RX11, 0, 0), [
  (27, [(0, (.iconst 0, 1, [], .null)), (1, (.istore_n 3, 1, [], .null)), (2, (.aload_n 0, 1, [], .null)), (3, (.getfield 45, 3, [11, 5, 572], .null)), (6, (.getfield 273, 3, [4, 2, 268], .null)), (9, (.iconst 1, 1, [], .null)), (10, (.iaload, 1, [], .null)), (11, (.istore 4, 2, [], .null)), (13, (.iconst 0, 1, [], .null)), (14, (.istore 5, 2, [], .null)), (16, (.iload 5, 2, [], .null)), (18, (.iload 4, 2, [], .null)), (20, (.if_icmp .ge 86, 3, [106], .null)), (23, (.iload 5, 2, [], .null)), (25, (.iconst 1, 1, [], .null)), (26, (.iadd, 1, [], .null))]),
  (60, [(27, (.istore 6, 2, [], .null)), (29, (.iload 6, 2, [], .null)), (31, (.iload 4, 2, [], .null)), (33, (.if_icmp .ge 67, 3, [100], .null)), (36, (.aload_n 0, 1, [], .null)), (37, (.getfield 45, 3, [11, 5, 572], .null)), (40, (.getfield 157, 3, [4, 3, 271], .null)), (43, (.iload 5, 2, [], .null)), (45, (.iaload, 1, [], .null)), (46, (.aload_n 0, 1, [], .null)), (47, (.getfield 45, 3, [11, 5, 572], .null)), (50, (.getfield 157, 3, [4, 3, 271], .null)), (53, (.iload 6, 2, [], .null)), (55, (.iaload, 1, [], .null)), (56, (.if_icmp .ne 38, 3, [94], .null)), (59, (.iload_n 2, 1, [], .null))]),
  (91, [(60, (.ifCond .eq 17, 3, [77], .null)), (63, (.aload_n 0, 1, [], .null)), (64, (.getfield 45, 3, [11, 5, 572], .null)), (67, (.iload 5, 2, [], .null)), (69, (.iload 6, 2, [], .null)), (71, (.invokevirtual 313, 3, [1, 38, 2, 4, 1002, 1004, 1003], .null)), (74, (.ifCond .eq 20, 3, [94], .null)), (77, (.iload_n 3, 1, [], .null)), (78, (.iload_n 1, 1, [], .null)), (79, (.if_icmp .ne 12, 3, [91], .null)), (82, (.bipush 10, 2, [], .null)), (84, (.iload 5, 2, [], .null)), (86, (.imul, 1, [], .null)), (87, (.iload 6, 2, [], .null)), (89, (.iadd, 1, [], .null)), (90, (.ireturn, 1, [], .null))]),
  (117, [(91, (.iinc 3 1, 3, [], .null)), (94, (.iinc 6 1, 3, [], .null)), (97, (.goto (-68), 3, [29], .null)), (100, (.iinc 5 1, 3, [], .null)), (103, (.goto (-87), 3, [16], .null)), (106, (.iload_n 1, 1, [], .null)), (107, (.iconst (-1), 1, [], .null)), (108, (.if_icmp .ne 7, 3, [115], .null)), (111, (.iload_n 3, 1, [], .null)), (112, (.goto 4, 3, [116], .null)), (115, (.iconst (-1), 1, [], .null)), (116, (.ireturn, 1, [], .null))])])
def md_131 : ri_M × ri_T := ((yX11_lasts, cX11_lasts, 4, (some .int), RX11, 0, 0), [
  (26, [(0, (.aload_n 0, 1, [], .null)), (1, (.getfield 45, 3, [11, 5, 572], .null)), (4, (.iload_n 1, 1, [], .null)), (5, (.invokevirtual 264, 3, [1, 28, 1, 4, 904, 906, 905], .null)), (8, (.ifCond .ne 5, 3, [13], .null)), (11, (.iconst (-1), 1, [], .null)), (12, (.ireturn, 1, [], .null)), (13, (.iconst 0, 1, [], .null)), (14, (.istore_n 2, 1, [], .null)), (15, (.iconst 0, 1, [], .null)), (16, (.istore_n 3, 1, [], .null)), (17, (.iload_n 3, 1, [], .null)), (18, (.aload_n 0, 1, [], .null)), (19, (.getfield 45, 3, [11, 5, 572], .null)), (22, (.getfield 273, 3, [4, 2, 268], .null)), (25, (.iconst 0, 1, [], .null))]),
  (54, [(26, (.iaload, 1, [], .null)), (27, (.if_icmp .ge 36, 3, [63], .null)), (30, (.iload_n 2, 1, [], .null)), (31, (.aload_n 0, 1, [], .null)), (32, (.getfield 52, 3, [11, 6, 573], .null)), (35, (.aload_n 0, 1, [], .null)), (36, (.getfield 45, 3, [11, 5, 572], .null)), (39, (.iload_n 1, 1, [], .null)), (40, (.aload_n 0, 1, [], .null)), (41, (.getfield 45, 3, [11, 5, 572], .null)), (44, (.getfield 306, 3, [4, 4, 276], .null)), (47, (.iload_n 3, 1, [], .null)), (48, (.iaload, 1, [], .null)), (49, (.iand, 1, [], .null)), (50, (.invokevirtual 303, 3, [1, 56, 2, 6, 986, 988, 987], .null)), (53, (.invokestatic 316, 3, [9, 1014], .null))]),
  (65, [(56, (.istore_n 2, 1, [], .null)), (57, (.iinc 3 1, 3, [], .null)), (60, (.goto (-43), 3, [17], .null)), (63, (.iload_n 2, 1, [], .null)), (64, (.ireturn, 1, [], .null))])])
def md_132 : ri_M × ri_T := ((yX11_forgets, cX11_forgets, 4, (some .int), RX11, 0, 0), [
  (28, [(0, (.aload_n 0, 1, [], .null)), (1, (.getfield 45, 3, [11, 5, 572], .null)), (4, (.iconst 1, 1, [], .null)), (5, (.iload_n 1, 1, [], .null)), (6, (.invokevirtual 146, 3, [1, 26, 2, 4, 767, 769, 768], .null)), (9, (.ifCond .eq 17, 3, [26], .null)), (12, (.aload_n 0, 1, [], .null)), (13, (.getfield 52, 3, [11, 6, 573], .null)), (16, (.getfield 166, 3, [6, 3, 392], .null)), (19, (.iload_n 1, 1, [], .null)), (20, (.ishr, 1, [], .null)), (21, (.iconst 1, 1, [], .null)), (22, (.iand, 1, [], .null)), (23, (.ifCond .ne 5, 3, [28], .null)), (26, (.iconst (-1), 1, [], .null)), (27, (.ireturn, 1, [], .null))]),
  (58, [(28, (.aload_n 0, 1, [], .null)), (29, (.getfield 52, 3, [11, 6, 573], .null)), (32, (.getfield 319, 3, [6, 10, 408], .null)), (35, (.iload_n 1, 1, [], .null)), (36, (.iaload, 1, [], .null)), (37, (.istore_n 2, 1, [], .null)), (38, (.aload_n 0, 1, [], .null)), (39, (.getfield 52, 3, [11, 6, 573], .null)), (42, (.getfield 204, 3, [6, 0, 384], .null)), (45, (.istore_n 3, 1, [], .null)), (46, (.iload_n 3, 1, [], .null)), (47, (.aload_n 0, 1, [], .null)), (48, (.getfield 52, 3, [11, 6, 573], .null)), (51, (.getfield 204, 3, [6, 0, 384], .null)), (54, (.sipush 200, 3, [], .null)), (57, (.iadd, 1, [], .null))]),
  (86, [(58, (.if_icmp .ge 49, 3, [107], .null)), (61, (.aload_n 0, 1, [], .null)), (62, (.getfield 45, 3, [11, 5, 572], .null)), (65, (.iload_n 3, 1, [], .null)), (66, (.invokevirtual 322, 3, [1, 41, 1, 4, 1021, 886, 885], .null)), (69, (.ifCond .eq 5, 3, [74], .null)), (72, (.iload_n 3, 1, [], .null)), (73, (.istore_n 2, 1, [], .null)), (74, (.iload_n 3, 1, [], .null)), (75, (.iload_n 2, 1, [], .null)), (76, (.isub, 1, [], .null)), (77, (.aload_n 0, 1, [], .null)), (78, (.getfield 45, 3, [11, 5, 572], .null)), (81, (.getfield 276, 3, [4, 0, 258], .null)), (84, (.iconst 2, 1, [], .null)), (85, (.iaload, 1, [], .null))]),
  (109, [(86, (.if_icmp .lt 15, 3, [101], .null)), (89, (.iload_n 3, 1, [], .null)), (90, (.aload_n 0, 1, [], .null)), (91, (.getfield 52, 3, [11, 6, 573], .null)), (94, (.getfield 204, 3, [6, 0, 384], .null)), (97, (.isub, 1, [], .null)), (98, (.iconst 1, 1, [], .null)), (99, (.iadd, 1, [], .null)), (100, (.ireturn, 1, [], .null)), (101, (.iinc 3 1, 3, [], .null)), (104, (.goto (-58), 3, [46], .null)), (107, (.iconst (-1), 1, [], .null)), (108, (.ireturn, 1, [], .null))])])
def md_133 : ri_M × ri_T := ((yX11_pupils, cX11_pupils, 4, (some .int), RX11, 0, 0), [
  (24, [(0, (.aload_n 0, 1, [], .null)), (1, (.getfield 45, 3, [11, 5, 572], .null)), (4, (.iconst 2, 1, [], .null)), (5, (.iload_n 1, 1, [], .null)), (6, (.invokevirtual 146, 3, [1, 26, 2, 4, 767, 769, 768], .null)), (9, (.ifCond .ne 5, 3, [14], .null)), (12, (.iconst (-1), 1, [], .null)), (13, (.ireturn, 1, [], .null)), (14, (.iconst 0, 1, [], .null)), (15, (.istore_n 2, 1, [], .null)), (16, (.iconst 0, 1, [], .null)), (17, (.istore_n 3, 1, [], .null)), (18, (.iload_n 3, 1, [], .null)), (19, (.aload_n 0, 1, [], .null)), (20, (.getfield 45, 3, [11, 5, 572], .null)), (23, (.getfield 273, 3, [4, 2, 268], .null))]),
  (50, [(26, (.iconst 1, 1, [], .null)), (27, (.iaload, 1, [], .null)), (28, (.if_icmp .ge 30, 3, [58], .null)), (31, (.aload_n 0, 1, [], .null)), (32, (.getfield 52, 3, [11, 6, 573], .null)), (35, (.getfield 169, 3, [6, 9, 406], .null)), (38, (.iload_n 3, 1, [], .null)), (39, (.iaload, 1, [], .null)), (40, (.iconst 1, 1, [], .null)), (41, (.iload_n 1, 1, [], .null)), (42, (.ishl, 1, [], .null)), (43, (.if_icmp .ne 9, 3, [52], .null)), (46, (.iload_n 2, 1, [], .null)), (47, (.iconst 1, 1, [], .null)), (48, (.iload_n 3, 1, [], .null)), (49, (.ishl, 1, [], .null))]),
  (60, [(50, (.ior, 1, [], .null)), (51, (.istore_n 2, 1, [], .null)), (52, (.iinc 3 1, 3, [], .null)), (55, (.goto (-37), 3, [18], .null)), (58, (.iload_n 2, 1, [], .null)), (59, (.ireturn, 1, [], .null))])])
def md_134 : ri_M × ri_T := ((yX11_ice, cX11_ice, 1, (some .int), RX11, 0, 0), [
  (29, [(0, (.aload_n 0, 1, [], .null)), (1, (.getfield 45, 3, [11, 5, 572], .null)), (4, (.getfield 325, 3, [4, 1, 261], .null)), (7, (.ifCond .ne 7, 3, [14], .null)), (10, (.iconst (-1), 1, [], .null)), (11, (.goto 17, 3, [28], .null)), (14, (.aload_n 0, 1, [], .null)), (15, (.getfield 45, 3, [11, 5, 572], .null)), (18, (.aload_n 0, 1, [], .null)), (19, (.getfield 52, 3, [11, 6, 573], .null)), (22, (.getfield 204, 3, [6, 0, 384], .null)), (25, (.invokevirtual 328, 3, [1, 40, 1, 4, 1030, 1032, 1031], .null)), (28, (.ireturn, 1, [], .null))])])
def md_135 : ri_M × ri_T := ((yX11_drawn, cX11_drawn, 4, (some .int), RX11, 0, 0), [
  (27, [(0, (.iload_n 1, 1, [], .null)), (1, (.iconst 1, 1, [], .null)), (2, (.if_icmp .lt 21, 3, [23], .null)), (5, (.iload_n 1, 1, [], .null)), (6, (.bipush 60, 2, [], .null)), (8, (.if_icmp .gt 15, 3, [23], .null)), (11, (.aload_n 0, 1, [], .null)), (12, (.getfield 45, 3, [11, 5, 572], .null)), (15, (.getfield 273, 3, [4, 2, 268], .null)), (18, (.iconst 1, 1, [], .null)), (19, (.iaload, 1, [], .null)), (20, (.ifCond .ne 5, 3, [25], .null)), (23, (.iconst (-1), 1, [], .null)), (24, (.ireturn, 1, [], .null)), (25, (.iload_n 1, 1, [], .null)), (26, (.aload_n 0, 1, [], .null))]),
  (61, [(27, (.getfield 52, 3, [11, 6, 573], .null)), (30, (.invokevirtual 248, 3, [1, 54, 0, 6, 862, 864, 863], .null)), (33, (.invokestatic 251, 3, [8, 866], .null)), (36, (.istore_n 3, 1, [], .null)), (37, (.iload_n 3, 1, [], .null)), (38, (.ifCond .le 31, 3, [69], .null)), (41, (.aload_n 0, 1, [], .null)), (42, (.getfield 62, 3, [11, 8, 575], .null)), (45, (.aload_n 0, 1, [], .null)), (46, (.getfield 52, 3, [11, 6, 573], .null)), (49, (.invokevirtual 227, 3, [1, 70, 1, 7, 808, 810, 809], .null)), (52, (.aload_n 0, 1, [], .null)), (53, (.getfield 97, 3, [11, 13, 580], .null)), (56, (.aload_n 0, 1, [], .null)), (57, (.getfield 45, 3, [11, 5, 572], .null)), (60, (.aload_n 0, 1, [], .null))]),
  (71, [(61, (.getfield 52, 3, [11, 6, 573], .null)), (64, (.iload_n 3, 1, [], .null)), (65, (.iload_n 2, 1, [], .null)), (66, (.invokevirtual 331, 3, [1, 12, 4, 1, 1039, 1041, 1040], .null)), (69, (.iload_n 3, 1, [], .null)), (70, (.ireturn, 1, [], .null))])])
def md_136 : ri_M × ri_T := ((yX11_odds, cX11_odds, 7, (some .int), RX11, 0, 0), [
  (28, [(0, (.aload_n 0, 1, [], .null)), (1, (.getfield 45, 3, [11, 5, 572], .null)), (4, (.iconst 1, 1, [], .null)), (5, (.iload_n 1, 1, [], .null)), (6, (.invokevirtual 146, 3, [1, 26, 2, 4, 767, 769, 768], .null)), (9, (.ifCond .eq 14, 3, [23], .null)), (12, (.iload_n 2, 1, [], .null)), (13, (.iconst 1, 1, [], .null)), (14, (.if_icmp .lt 9, 3, [23], .null)), (17, (.iload_n 2, 1, [], .null)), (18, (.bipush 30, 2, [], .null)), (20, (.if_icmp .le 5, 3, [25], .null)), (23, (.iconst (-1), 1, [], .null)), (24, (.ireturn, 1, [], .null)), (25, (.bipush 30, 2, [], .null)), (27, (.aload_n 0, 1, [], .null))]),
  (60, [(28, (.getfield 52, 3, [11, 6, 573], .null)), (31, (.invokevirtual 248, 3, [1, 54, 0, 6, 862, 864, 863], .null)), (34, (.invokestatic 251, 3, [8, 866], .null)), (37, (.istore 4, 2, [], .null)), (39, (.iconst 0, 1, [], .null)), (40, (.istore 5, 2, [], .null)), (42, (.iconst 0, 1, [], .null)), (43, (.istore 6, 2, [], .null)), (45, (.iload 6, 2, [], .null)), (47, (.iload_n 2, 1, [], .null)), (48, (.if_icmp .ge 57, 3, [105], .null)), (51, (.aload_n 0, 1, [], .null)), (52, (.getfield 56, 3, [11, 7, 574], .null)), (55, (.aload_n 0, 1, [], .null)), (56, (.getfield 52, 3, [11, 6, 573], .null)), (59, (.invokevirtual 335, 3, [1, 52, 1, 6, 1061, 814, 813], .null))]),
  (93, [(62, (.aload_n 0, 1, [], .null)), (63, (.getfield 97, 3, [11, 13, 580], .null)), (66, (.aload_n 0, 1, [], .null)), (67, (.getfield 45, 3, [11, 5, 572], .null)), (70, (.aload_n 0, 1, [], .null)), (71, (.getfield 56, 3, [11, 7, 574], .null)), (74, (.iload 4, 2, [], .null)), (76, (.iload_n 3, 1, [], .null)), (77, (.iload 6, 2, [], .null)), (79, (.iadd, 1, [], .null)), (80, (.invokevirtual 331, 3, [1, 12, 4, 1, 1039, 1041, 1040], .null)), (83, (.iload 5, 2, [], .null)), (85, (.aload_n 0, 1, [], .null)), (86, (.getfield 56, 3, [11, 7, 574], .null)), (89, (.getfield 166, 3, [6, 3, 392], .null)), (92, (.iload_n 1, 1, [], .null))]),
  (108, [(93, (.ishr, 1, [], .null)), (94, (.iconst 1, 1, [], .null)), (95, (.iand, 1, [], .null)), (96, (.iadd, 1, [], .null)), (97, (.istore 5, 2, [], .null)), (99, (.iinc 6 1, 3, [], .null)), (102, (.goto (-57), 3, [45], .null)), (105, (.iload 5, 2, [], .null)), (107, (.ireturn, 1, [], .null))])])
def md_137 : ri_M × ri_T := ((yX11_diary, cX11_diary, 3, (some .int), RX11, 0, 0), [
  (30, [(0, (.iload_n 1, 1, [], .null)), (1, (.ifCond .eq 12, 3, [13], .null)), (4, (.iload_n 1, 1, [], .null)), (5, (.iconst 1, 1, [], .null)), (6, (.if_icmp .eq 7, 3, [13], .null)), (9, (.sipush (-1000), 3, [], .null)), (12, (.ireturn, 1, [], .null)), (13, (.aload_n 0, 1, [], .null)), (14, (.sipush 400, 3, [], .null)), (17, (.invokevirtual 115, 3, [1, 105, 1, 11, 635, 1, 637], .null)), (20, (.aload_n 0, 1, [], .null)), (21, (.getfield 83, 3, [11, 11, 578], .null)), (24, (.aload_n 0, 1, [], .null)), (25, (.getfield 22, 3, [11, 2, 569], .null)), (28, (.aload_n 0, 1, [], .null)), (29, (.getfield 45, 3, [11, 5, 572], .null))]),
  (63, [(32, (.invokevirtual 337, 3, [1, 1, 2, 0, 1066, 1068, 1067], .null)), (35, (.istore_n 2, 1, [], .null)), (36, (.aload_n 0, 1, [], .null)), (37, (.aload_n 0, 1, [], .null)), (38, (.getfield 22, 3, [11, 2, 569], .null)), (41, (.getfield 122, 3, [8, 9, 205], .null)), (44, (.putfield 105, 3, [11, 15, 582, 0], .null)), (47, (.iload_n 2, 1, [], .null)), (48, (.ifCond .ne 14, 3, [62], .null)), (51, (.bipush (-2), 2, [], .null)), (53, (.aload_n 0, 1, [], .null)), (54, (.getfield 22, 3, [11, 2, 569], .null)), (57, (.getfield 125, 3, [8, 10, 207], .null)), (60, (.isub, 1, [], .null)), (61, (.ireturn, 1, [], .null)), (62, (.iload_n 1, 1, [], .null))]),
  (95, [(63, (.iconst 1, 1, [], .null)), (64, (.if_icmp .ne 34, 3, [98], .null)), (67, (.aload_n 0, 1, [], .null)), (68, (.getfield 62, 3, [11, 8, 575], .null)), (71, (.aload_n 0, 1, [], .null)), (72, (.getfield 52, 3, [11, 6, 573], .null)), (75, (.invokevirtual 227, 3, [1, 70, 1, 7, 808, 810, 809], .null)), (78, (.aload_n 0, 1, [], .null)), (79, (.getfield 83, 3, [11, 11, 578], .null)), (82, (.aload_n 0, 1, [], .null)), (83, (.getfield 45, 3, [11, 5, 572], .null)), (86, (.aload_n 0, 1, [], .null)), (87, (.getfield 52, 3, [11, 6, 573], .null)), (90, (.aload_n 0, 1, [], .null)), (91, (.getfield 101, 3, [11, 14, 581], .null)), (94, (.invokevirtual 340, 3, [1, 4, 3, 0, 1092, 1094, 1093], .null))]),
  (129, [(97, (.ireturn, 1, [], .null)), (98, (.aload_n 0, 1, [], .null)), (99, (.getfield 56, 3, [11, 7, 574], .null)), (102, (.aload_n 0, 1, [], .null)), (103, (.getfield 52, 3, [11, 6, 573], .null)), (106, (.invokevirtual 335, 3, [1, 52, 1, 6, 1061, 814, 813], .null)), (109, (.aload_n 0, 1, [], .null)), (110, (.getfield 83, 3, [11, 11, 578], .null)), (113, (.aload_n 0, 1, [], .null)), (114, (.getfield 45, 3, [11, 5, 572], .null)), (117, (.aload_n 0, 1, [], .null)), (118, (.getfield 56, 3, [11, 7, 574], .null)), (121, (.aload_n 0, 1, [], .null)), (122, (.getfield 101, 3, [11, 14, 581], .null)), (125, (.invokevirtual 340, 3, [1, 4, 3, 0, 1092, 1094, 1093], .null)), (128, (.ireturn, 1, [], .null))])])
def md_138 : ri_M × ri_T := ((yX11_told, cX11_told, 2, (some .int), RX11, 0, 0), [
  (24, [(0, (.iload_n 1, 1, [], .null)), (1, (.ifCond .lt 12, 3, [13], .null)), (4, (.iload_n 1, 1, [], .null)), (5, (.aload_n 0, 1, [], .null)), (6, (.getfield 101, 3, [11, 14, 581], .null)), (9, (.arraylength, 1, [], .null)), (10, (.if_icmp .lt 7, 3, [17], .null)), (13, (.iconst (-1), 1, [], .null)), (14, (.goto 9, 3, [23], .null)), (17, (.aload_n 0, 1, [], .null)), (18, (.getfield 101, 3, [11, 14, 581], .null)), (21, (.iload_n 1, 1, [], .null)), (22, (.iaload, 1, [], .null)), (23, (.ireturn, 1, [], .null))])])
def md_139 : ri_M × ri_T := ((yX11_sentence, cX11_sentence, 2, (some .int), RX11, 0, 0), [
  (32, [(0, (.aload_n 0, 1, [], .null)), (1, (.sipush 200, 3, [], .null)), (4, (.invokevirtual 115, 3, [1, 105, 1, 11, 635, 1, 637], .null)), (7, (.aload_n 0, 1, [], .null)), (8, (.getfield 38, 3, [11, 4, 571], .null)), (11, (.aload_n 0, 1, [], .null)), (12, (.getfield 45, 3, [11, 5, 572], .null)), (15, (.invokevirtual 344, 3, [1, 95, 1, 10, 1129, 1131, 1130], .null)), (18, (.istore_n 1, 1, [], .null)), (19, (.aload_n 0, 1, [], .null)), (20, (.aload_n 0, 1, [], .null)), (21, (.getfield 22, 3, [11, 2, 569], .null)), (24, (.getfield 122, 3, [8, 9, 205], .null)), (27, (.putfield 105, 3, [11, 15, 582, 0], .null)), (30, (.iload_n 1, 1, [], .null)), (31, (.ifCond .ne 13, 3, [44], .null))]),
  (66, [(34, (.iconst (-1), 1, [], .null)), (35, (.aload_n 0, 1, [], .null)), (36, (.getfield 22, 3, [11, 2, 569], .null)), (39, (.getfield 125, 3, [8, 10, 207], .null)), (42, (.isub, 1, [], .null)), (43, (.ireturn, 1, [], .null)), (44, (.aload_n 0, 1, [], .null)), (45, (.getfield 69, 3, [11, 9, 576], .null)), (48, (.aload_n 0, 1, [], .null)), (49, (.getfield 38, 3, [11, 4, 571], .null)), (52, (.getfield 348, 3, [10, 1, 368], .null)), (55, (.invokevirtual 350, 3, [1, 87, 1, 9, 1161, 1163, 1162], .null)), (58, (.aload_n 0, 1, [], .null)), (59, (.getfield 69, 3, [11, 9, 576], .null)), (62, (.getfield 353, 3, [9, 0, 347], .null)), (65, (.ireturn, 1, [], .null))])])
def md_140 : ri_M × ri_T := ((yX11_said, cX11_said, 5, (some .int), RX11, 0, 0), [
  (30, [(0, (.aload_n 0, 1, [], .null)), (1, (.getfield 69, 3, [11, 9, 576], .null)), (4, (.getfield 353, 3, [9, 0, 347], .null)), (7, (.ifCond .ne 5, 3, [12], .null)), (10, (.iconst (-1), 1, [], .null)), (11, (.ireturn, 1, [], .null)), (12, (.aload_n 0, 1, [], .null)), (13, (.getfield 69, 3, [11, 9, 576], .null)), (16, (.aload_n 0, 1, [], .null)), (17, (.getfield 45, 3, [11, 5, 572], .null)), (20, (.aload_n 0, 1, [], .null)), (21, (.getfield 52, 3, [11, 6, 573], .null)), (24, (.invokevirtual 356, 3, [1, 89, 2, 9, 1170, 1172, 1171], .null)), (27, (.istore_n 2, 1, [], .null)), (28, (.iconst 0, 1, [], .null)), (29, (.istore_n 3, 1, [], .null))]),
  (55, [(30, (.iconst 0, 1, [], .null)), (31, (.istore 4, 2, [], .null)), (33, (.iload 4, 2, [], .null)), (35, (.aload_n 0, 1, [], .null)), (36, (.getfield 45, 3, [11, 5, 572], .null)), (39, (.getfield 273, 3, [4, 2, 268], .null)), (42, (.iconst 1, 1, [], .null)), (43, (.iaload, 1, [], .null)), (44, (.if_icmp .ge 30, 3, [74], .null)), (47, (.iload_n 2, 1, [], .null)), (48, (.iload 4, 2, [], .null)), (50, (.ishr, 1, [], .null)), (51, (.iconst 1, 1, [], .null)), (52, (.iand, 1, [], .null)), (53, (.iconst 1, 1, [], .null)), (54, (.if_icmp .ne 14, 3, [68], .null))]),
  (85, [(57, (.iload_n 3, 1, [], .null)), (58, (.iload_n 1, 1, [], .null)), (59, (.if_icmp .ne 6, 3, [65], .null)), (62, (.iload 4, 2, [], .null)), (64, (.ireturn, 1, [], .null)), (65, (.iinc 3 1, 3, [], .null)), (68, (.iinc 4 1, 3, [], .null)), (71, (.goto (-38), 3, [33], .null)), (74, (.iload_n 1, 1, [], .null)), (75, (.iconst (-1), 1, [], .null)), (76, (.if_icmp .ne 7, 3, [83], .null)), (79, (.iload_n 3, 1, [], .null)), (80, (.goto 4, 3, [84], .null)), (83, (.iconst (-1), 1, [], .null)), (84, (.ireturn, 1, [], .null))])])
def md_141 : ri_M × ri_T := ((yX11_image, cX11_image, 3, (some .boolean), RX11, 0, 0), [
  (24, [(0, (.iload_n 1, 1, [], .null)), (1, (.ifCond .lt 12, 3, [13], .null)), (4, (.iload_n 1, 1, [], .null)), (5, (.aload_n 0, 1, [], .null)), (6, (.getfield 76, 3, [11, 10, 577], .null)), (9, (.arraylength, 1, [], .null)), (10, (.if_icmp .lt 5, 3, [15], .null)), (13, (.iconst 0, 1, [], .null)), (14, (.ireturn, 1, [], .null)), (15, (.aload_n 0, 1, [], .null)), (16, (.getfield 76, 3, [11, 10, 577], .null)), (19, (.iload_n 1, 1, [], .null)), (20, (.aaload, 1, [], .null)), (21, (.astore_n 2, 1, [], .null)), (22, (.aload_n 2, 1, [], .null)), (23, (.getfield 360, 3, [3, 0, 488], .null))]),
  (58, [(26, (.aload_n 0, 1, [], .null)), (27, (.getfield 45, 3, [11, 5, 572], .null)), (30, (.invokevirtual 131, 3, [1, 25, 1, 4, 743, 745, 744], .null)), (33, (.aload_n 2, 1, [], .null)), (34, (.getfield 361, 3, [3, 1, 490], .null)), (37, (.aload_n 0, 1, [], .null)), (38, (.getfield 52, 3, [11, 6, 573], .null)), (41, (.invokevirtual 335, 3, [1, 52, 1, 6, 1061, 814, 813], .null)), (44, (.aload_n 2, 1, [], .null)), (45, (.getfield 362, 3, [3, 2, 492], .null)), (48, (.aload_n 0, 1, [], .null)), (49, (.getfield 69, 3, [11, 9, 576], .null)), (52, (.invokevirtual 350, 3, [1, 87, 1, 9, 1161, 1163, 1162], .null)), (55, (.aload_n 2, 1, [], .null)), (56, (.iconst 1, 1, [], .null)), (57, (.putfield 363, 3, [3, 3, 494, 1], .null))]),
  (62, [(60, (.iconst 1, 1, [], .null)), (61, (.ireturn, 1, [], .null))])])
def md_142 : ri_M × ri_T := ((yX11_restore, cX11_restore, 3, (some .boolean), RX11, 0, 0), [
  (28, [(0, (.iload_n 1, 1, [], .null)), (1, (.ifCond .lt 24, 3, [25], .null)), (4, (.iload_n 1, 1, [], .null)), (5, (.aload_n 0, 1, [], .null)), (6, (.getfield 76, 3, [11, 10, 577], .null)), (9, (.arraylength, 1, [], .null)), (10, (.if_icmp .ge 15, 3, [25], .null)), (13, (.aload_n 0, 1, [], .null)), (14, (.getfield 76, 3, [11, 10, 577], .null)), (17, (.iload_n 1, 1, [], .null)), (18, (.aaload, 1, [], .null)), (19, (.getfield 363, 3, [3, 3, 494], .null)), (22, (.ifCond .ne 5, 3, [27], .null)), (25, (.iconst 0, 1, [], .null)), (26, (.ireturn, 1, [], .null)), (27, (.aload_n 0, 1, [], .null))]),
  (58, [(28, (.getfield 76, 3, [11, 10, 577], .null)), (31, (.iload_n 1, 1, [], .null)), (32, (.aaload, 1, [], .null)), (33, (.astore_n 2, 1, [], .null)), (34, (.aload_n 0, 1, [], .null)), (35, (.getfield 45, 3, [11, 5, 572], .null)), (38, (.aload_n 2, 1, [], .null)), (39, (.getfield 360, 3, [3, 0, 488], .null)), (42, (.invokevirtual 131, 3, [1, 25, 1, 4, 743, 745, 744], .null)), (45, (.aload_n 0, 1, [], .null)), (46, (.getfield 52, 3, [11, 6, 573], .null)), (49, (.aload_n 2, 1, [], .null)), (50, (.getfield 361, 3, [3, 1, 490], .null)), (53, (.invokevirtual 335, 3, [1, 52, 1, 6, 1061, 814, 813], .null)), (56, (.aload_n 0, 1, [], .null)), (57, (.getfield 69, 3, [11, 9, 576], .null))]),
  (76, [(60, (.aload_n 2, 1, [], .null)), (61, (.getfield 362, 3, [3, 2, 492], .null)), (64, (.invokevirtual 350, 3, [1, 87, 1, 9, 1161, 1163, 1162], .null)), (67, (.aload_n 0, 1, [], .null)), (68, (.getfield 62, 3, [11, 8, 575], .null)), (71, (.invokevirtual 141, 3, [1, 69, 0, 7, 755, 757, 756], .null)), (74, (.iconst 1, 1, [], .null)), (75, (.ireturn, 1, [], .null))])])
def md_143 : ri_M × ri_T := ((yX11_count, cX11_count, 2, (some .int), RX11, 0, 0), [
  (70, [(0, (.iload_n 1, 1, [], .null)), (1, (.tableswitch 122 0 7 #[47, 57, 67, 77, 87, 97, 107, 117], 47, [123, 48, 58, 68, 78, 88, 98, 108, 118], .null)), (48, (.aload_n 0, 1, [], .null)), (49, (.getfield 45, 3, [11, 5, 572], .null)), (52, (.getfield 276, 3, [4, 0, 258], .null)), (55, (.iconst 0, 1, [], .null)), (56, (.iaload, 1, [], .null)), (57, (.ireturn, 1, [], .null)), (58, (.aload_n 0, 1, [], .null)), (59, (.getfield 45, 3, [11, 5, 572], .null)), (62, (.getfield 276, 3, [4, 0, 258], .null)), (65, (.iconst 1, 1, [], .null)), (66, (.iaload, 1, [], .null)), (67, (.ireturn, 1, [], .null)), (68, (.aload_n 0, 1, [], .null)), (69, (.getfield 45, 3, [11, 5, 572], .null))]),
  (98, [(72, (.getfield 276, 3, [4, 0, 258], .null)), (75, (.iconst 2, 1, [], .null)), (76, (.iaload, 1, [], .null)), (77, (.ireturn, 1, [], .null)), (78, (.aload_n 0, 1, [], .null)), (79, (.getfield 45, 3, [11, 5, 572], .null)), (82, (.getfield 273, 3, [4, 2, 268], .null)), (85, (.iconst 0, 1, [], .null)), (86, (.iaload, 1, [], .null)), (87, (.ireturn, 1, [], .null)), (88, (.aload_n 0, 1, [], .null)), (89, (.getfield 45, 3, [11, 5, 572], .null)), (92, (.getfield 273, 3, [4, 2, 268], .null)), (95, (.iconst 1, 1, [], .null)), (96, (.iaload, 1, [], .null)), (97, (.ireturn, 1, [], .null))]),
  (124, [(98, (.aload_n 0, 1, [], .null)), (99, (.getfield 45, 3, [11, 5, 572], .null)), (102, (.getfield 273, 3, [4, 2, 268], .null)), (105, (.iconst 2, 1, [], .null)), (106, (.iaload, 1, [], .null)), (107, (.ireturn, 1, [], .null)), (108, (.aload_n 0, 1, [], .null)), (109, (.getfield 45, 3, [11, 5, 572], .null)), (112, (.getfield 273, 3, [4, 2, 268], .null)), (115, (.iconst 3, 1, [], .null)), (116, (.iaload, 1, [], .null)), (117, (.ireturn, 1, [], .null)), (118, (.aload_n 0, 1, [], .null)), (119, (.getfield 13, 3, [11, 1, 568], .null)), (122, (.ireturn, 1, [], .null)), (123, (.iconst (-1), 1, [], .null))]),
  (125, [(124, (.ireturn, 1, [], .null))])])
def md_144 : ri_M × ri_T := ((yX12_throwsIf, cX12_throwsIf, 2, (some .boolean), RX12, 0, 0), [
  (15, [(0, (.aload_n 0, 1, [], .null)), (1, (.iload_n 1, 1, [], .null)), (2, (.ifCond .eq 7, 3, [9], .null)), (5, (.iconst 1, 1, [], .null)), (6, (.goto 4, 3, [10], .null)), (9, (.iconst 0, 1, [], .null)), (10, (.putfield 1, 3, [12, 0, 1324, 0], .null)), (13, (.iload_n 1, 1, [], .null)), (14, (.ireturn, 1, [], .null))])])
def md_145 : ri_M × ri_T := ((yX12_feed, cX12_feed, 6, (some .int), RX12, 0, 0), [
  (27, [(0, (.aload_n 0, 1, [], .null)), (1, (.iconst 0, 1, [], .null)), (2, (.putfield 1, 3, [12, 0, 1324, 0], .null)), (5, (.aload_n 0, 1, [], .null)), (6, (.getfield 7, 3, [12, 2, 1326], .null)), (9, (.bipush 20, 2, [], .null)), (11, (.iadd, 1, [], .null)), (12, (.sipush 940, 3, [], .null)), (15, (.if_icmp .le 5, 3, [20], .null)), (18, (.iconst (-1), 1, [], .null)), (19, (.ireturn, 1, [], .null)), (20, (.aload_n 0, 1, [], .null)), (21, (.iload_n 1, 1, [], .null)), (22, (.invokevirtual 10, 3, [1, 146, 1, 12, 1282, 32, 1284], .null)), (25, (.aload_n 0, 1, [], .null)), (26, (.iload_n 2, 1, [], .null))]),
  (52, [(27, (.invokevirtual 10, 3, [1, 146, 1, 12, 1282, 32, 1284], .null)), (30, (.aload_n 0, 1, [], .null)), (31, (.iload_n 3, 1, [], .null)), (32, (.invokevirtual 10, 3, [1, 146, 1, 12, 1282, 32, 1284], .null)), (35, (.aload_n 0, 1, [], .null)), (36, (.iload 4, 2, [], .null)), (38, (.invokevirtual 10, 3, [1, 146, 1, 12, 1282, 32, 1284], .null)), (41, (.aload_n 0, 1, [], .null)), (42, (.iload 5, 2, [], .null)), (44, (.invokevirtual 10, 3, [1, 146, 1, 12, 1282, 32, 1284], .null)), (47, (.aload_n 0, 1, [], .null)), (48, (.getfield 7, 3, [12, 2, 1326], .null)), (51, (.ireturn, 1, [], .null))])])
def md_146 : ri_M × ri_T := ((yX12_four, cX12_four, 3, none, RX12, 0, 0), [
  (23, [(0, (.bipush 24, 2, [], .null)), (2, (.istore_n 2, 1, [], .null)), (3, (.iload_n 2, 1, [], .null)), (4, (.ifCond .lt 32, 3, [36], .null)), (7, (.aload_n 0, 1, [], .null)), (8, (.getfield 14, 3, [12, 1, 1325], .null)), (11, (.aload_n 0, 1, [], .null)), (12, (.getfield 7, 3, [12, 2, 1326], .null)), (15, (.iload_n 1, 1, [], .null)), (16, (.iload_n 2, 1, [], .null)), (17, (.ishr, 1, [], .null)), (18, (.i2b, 1, [], .null)), (19, (.bastore, 1, [], .null)), (20, (.aload_n 0, 1, [], .null)), (21, (.dup, 1, [], .null)), (22, (.getfield 7, 3, [12, 2, 1326], .null))]),
  (37, [(25, (.iconst 1, 1, [], .null)), (26, (.iadd, 1, [], .null)), (27, (.putfield 7, 3, [12, 2, 1326, 0], .null)), (30, (.iinc 2 (-8), 3, [], .null)), (33, (.goto (-30), 3, [3], .null)), (36, (.return_, 1, [], .null))])])
def md_147 : ri_M × ri_T := ((yX12_end, cX12_end, 2, (some .boolean), RX12, 0, 0), [
  (26, [(0, (.aload_n 0, 1, [], .null)), (1, (.iconst 0, 1, [], .null)), (2, (.putfield 1, 3, [12, 0, 1324, 0], .null)), (5, (.iload_n 1, 1, [], .null)), (6, (.ifCond .lt 11, 3, [17], .null)), (9, (.iload_n 1, 1, [], .null)), (10, (.aload_n 0, 1, [], .null)), (11, (.getfield 7, 3, [12, 2, 1326], .null)), (14, (.if_icmp .le 5, 3, [19], .null)), (17, (.iconst 0, 1, [], .null)), (18, (.ireturn, 1, [], .null)), (19, (.aload_n 0, 1, [], .null)), (20, (.iload_n 1, 1, [], .null)), (21, (.putfield 7, 3, [12, 2, 1326, 0], .null)), (24, (.iconst 1, 1, [], .null)), (25, (.ireturn, 1, [], .null))])])
def md_148 : ri_M × ri_T := ((yX12_taken, cX12_taken, 2, none, RX12, 0, 0), [
  (24, [(0, (.aload_n 0, 1, [], .null)), (1, (.aload_n 0, 1, [], .null)), (2, (.getfield 7, 3, [12, 2, 1326], .null)), (5, (.putfield 18, 3, [12, 3, 1327, 0], .null)), (8, (.aload_n 0, 1, [], .null)), (9, (.iconst 0, 1, [], .null)), (10, (.putfield 7, 3, [12, 2, 1326, 0], .null)), (13, (.aload_n 0, 1, [], .null)), (14, (.iconst 0, 1, [], .null)), (15, (.putfield 21, 3, [12, 4, 1328, 0], .null)), (18, (.aload_n 0, 1, [], .null)), (19, (.iload_n 1, 1, [], .null)), (20, (.putfield 24, 3, [12, 5, 1329, 0], .null)), (23, (.return_, 1, [], .null))])])
def md_149 : ri_M × ri_T := ((yX12_isIn, cX12_isIn, 3, (some .boolean), RX12, 0, 0), [
  (16, [(0, (.iload_n 0, 1, [], .null)), (1, (.iload_n 1, 1, [], .null)), (2, (.if_icmp .lt 12, 3, [14], .null)), (5, (.iload_n 0, 1, [], .null)), (6, (.iload_n 2, 1, [], .null)), (7, (.if_icmp .gt 7, 3, [14], .null)), (10, (.iconst 1, 1, [], .null)), (11, (.goto 4, 3, [15], .null)), (14, (.iconst 0, 1, [], .null)), (15, (.ireturn, 1, [], .null))])])
def md_150 : ri_M × ri_T := ((yX12_bitOf, cX12_bitOf, 2, (some .boolean), RX12, 0, 0), [
  (15, [(0, (.iload_n 0, 1, [], .null)), (1, (.iload_n 1, 1, [], .null)), (2, (.ishr, 1, [], .null)), (3, (.iconst 1, 1, [], .null)), (4, (.iand, 1, [], .null)), (5, (.iconst 1, 1, [], .null)), (6, (.if_icmp .ne 7, 3, [13], .null)), (9, (.iconst 1, 1, [], .null)), (10, (.goto 4, 3, [14], .null)), (13, (.iconst 0, 1, [], .null)), (14, (.ireturn, 1, [], .null))])])
def md_151 : ri_M × ri_T := ((yX12_greater, cX12_greater, 2, (some .int), RX12, 0, 0), [
  (11, [(0, (.iload_n 0, 1, [], .null)), (1, (.iload_n 1, 1, [], .null)), (2, (.if_icmp .le 7, 3, [9], .null)), (5, (.iload_n 0, 1, [], .null)), (6, (.goto 4, 3, [10], .null)), (9, (.iload_n 1, 1, [], .null)), (10, (.ireturn, 1, [], .null))])])
def md_152 : ri_M × ri_T := ((yX12_octet, cX12_octet, 2, (some .int), RX12, 0, 0), [
  (11, [(0, (.aload_n 0, 1, [], .null)), (1, (.getfield 14, 3, [12, 1, 1325], .null)), (4, (.iload_n 1, 1, [], .null)), (5, (.baload, 1, [], .null)), (6, (.sipush 255, 3, [], .null)), (9, (.iand, 1, [], .null)), (10, (.ireturn, 1, [], .null))])])
def md_153 : ri_M × ri_T := ((yX12_init, cX12_init, 2, none, RX12, 17, 3674), [
  (32, [(0, (.aload_n 0, 1, [], .null)), (1, (.invokespecial 27, 3, [0, 1295], .null)), (4, (.aload_n 0, 1, [], .null)), (5, (.sipush 940, 3, [], .null)), (8, (.newarray .byte, 2, [231], .null)), (10, (.putfield 14, 3, [12, 1, 1325, 3], .null)), (13, (.aload_n 0, 1, [], .null)), (14, (.sipush 355, 3, [], .null)), (17, (.newarray .int, 2, [321], .null)), (19, (.putfield 33, 3, [12, 6, 1330, 3], .null)), (22, (.aload_n 0, 1, [], .null)), (23, (.bipush 96, 2, [], .null)), (25, (.newarray .int, 2, [321], .null)), (27, (.putfield 37, 3, [12, 7, 1331, 3], .null)), (30, (.aload_n 0, 1, [], .null)), (31, (.sipush 135, 3, [], .null))]),
  (65, [(34, (.newarray .int, 2, [321], .null)), (36, (.putfield 40, 3, [12, 8, 1332, 3], .null)), (39, (.aload_n 0, 1, [], .null)), (40, (.bipush 48, 2, [], .null)), (42, (.newarray .long, 2, [232], .null)), (44, (.putfield 43, 3, [12, 9, 1333, 3], .null)), (47, (.aload_n 0, 1, [], .null)), (48, (.bipush 24, 2, [], .null)), (50, (.newarray .long, 2, [232], .null)), (52, (.putfield 47, 3, [12, 10, 1334, 3], .null)), (55, (.aload_n 0, 1, [], .null)), (56, (.bipush 8, 2, [], .null)), (58, (.newarray .int, 2, [321], .null)), (60, (.putfield 50, 3, [12, 21, 1345, 3], .null)), (63, (.aload_n 0, 1, [], .null)), (64, (.sipush 624, 3, [], .null))]),
  (100, [(67, (.newarray .int, 2, [321], .null)), (69, (.putfield 53, 3, [12, 23, 1347, 3], .null)), (72, (.aload_n 0, 1, [], .null)), (73, (.bipush 78, 2, [], .null)), (75, (.newarray .int, 2, [321], .null)), (77, (.putfield 56, 3, [12, 24, 1348, 3], .null)), (80, (.aload_n 0, 1, [], .null)), (81, (.sipush 256, 3, [], .null)), (84, (.newarray .boolean, 2, [1469], .null)), (86, (.putfield 59, 3, [12, 26, 1350, 3], .null)), (89, (.aload_n 0, 1, [], .null)), (90, (.sipush 256, 3, [], .null)), (93, (.newarray .int, 2, [321], .null)), (95, (.putfield 63, 3, [12, 27, 1351, 3], .null)), (98, (.aload_n 0, 1, [], .null)), (99, (.iconst 4, 1, [], .null))]),
  (132, [(100, (.newarray .int, 2, [321], .null)), (102, (.putfield 66, 3, [12, 36, 1360, 3], .null)), (105, (.aload_n 0, 1, [], .null)), (106, (.bipush 45, 2, [], .null)), (108, (.newarray .int, 2, [321], .null)), (110, (.putfield 69, 3, [12, 38, 1362, 3], .null)), (113, (.aload_n 0, 1, [], .null)), (114, (.bipush 45, 2, [], .null)), (116, (.newarray .boolean, 2, [1469], .null)), (118, (.putfield 72, 3, [12, 44, 1368, 3], .null)), (121, (.aload_n 0, 1, [], .null)), (122, (.sipush 710, 3, [], .null)), (125, (.newarray .int, 2, [321], .null)), (127, (.putfield 75, 3, [12, 45, 1369, 3], .null)), (130, (.aload_n 0, 1, [], .null)), (131, (.bipush 48, 2, [], .null))]),
  (163, [(133, (.newarray .long, 2, [232], .null)), (135, (.putfield 78, 3, [12, 46, 1370, 3], .null)), (138, (.aload_n 0, 1, [], .null)), (139, (.iconst 2, 1, [], .null)), (140, (.newarray .boolean, 2, [1469], .null)), (142, (.putfield 81, 3, [12, 47, 1371, 3], .null)), (145, (.aload_n 0, 1, [], .null)), (146, (.getfield 47, 3, [12, 10, 1334], .null)), (149, (.iconst 0, 1, [], .null)), (150, (.ldc2_w 84, 3, [1296], .long 426903366771)), (153, (.lastore, 1, [], .null)), (154, (.aload_n 0, 1, [], .null)), (155, (.getfield 47, 3, [12, 10, 1334], .null)), (158, (.iconst 1, 1, [], .null)), (159, (.ldc2_w 86, 3, [1297], .long 495673374574)), (162, (.lastore, 1, [], .null))]),
  (191, [(163, (.aload_n 0, 1, [], .null)), (164, (.getfield 47, 3, [12, 10, 1334], .null)), (167, (.iconst 2, 1, [], .null)), (168, (.ldc2_w 88, 3, [1298], .long 461262647411)), (171, (.lastore, 1, [], .null)), (172, (.aload_n 0, 1, [], .null)), (173, (.getfield 47, 3, [12, 10, 1334], .null)), (176, (.iconst 3, 1, [], .null)), (177, (.ldc2_w 90, 3, [1299], .long 121398985520243)), (180, (.lastore, 1, [], .null)), (181, (.aload_n 0, 1, [], .null)), (182, (.getfield 47, 3, [12, 10, 1334], .null)), (185, (.iconst 4, 1, [], .null)), (186, (.ldc2_w 92, 3, [1300], .long 6906725)), (189, (.lastore, 1, [], .null)), (190, (.aload_n 0, 1, [], .null))]),
  (221, [(191, (.getfield 47, 3, [12, 10, 1334], .null)), (194, (.iconst 5, 1, [], .null)), (195, (.ldc2_w 94, 3, [1301], .long 6518117)), (198, (.lastore, 1, [], .null)), (199, (.aload_n 0, 1, [], .null)), (200, (.getfield 47, 3, [12, 10, 1334], .null)), (203, (.bipush 6, 2, [], .null)), (205, (.ldc2_w 96, 3, [1302], .long 119182984441710)), (208, (.lastore, 1, [], .null)), (209, (.aload_n 0, 1, [], .null)), (210, (.getfield 47, 3, [12, 10, 1334], .null)), (213, (.bipush 7, 2, [], .null)), (215, (.ldc2_w 98, 3, [1303], .long 32762566252455282)), (218, (.lastore, 1, [], .null)), (219, (.aload_n 0, 1, [], .null)), (220, (.getfield 47, 3, [12, 10, 1334], .null))]),
  (254, [(223, (.bipush 8, 2, [], .null)), (225, (.ldc2_w 100, 3, [1304], .long 1651466612)), (228, (.lastore, 1, [], .null)), (229, (.aload_n 0, 1, [], .null)), (230, (.getfield 47, 3, [12, 10, 1334], .null)), (233, (.bipush 9, 2, [], .null)), (235, (.ldc2_w 102, 3, [1305], .long 495673374579)), (238, (.lastore, 1, [], .null)), (239, (.aload_n 0, 1, [], .null)), (240, (.getfield 47, 3, [12, 10, 1334], .null)), (243, (.bipush 10, 2, [], .null)), (245, (.ldc2_w 104, 3, [1306], .long 491395114867)), (248, (.lastore, 1, [], .null)), (249, (.aload_n 0, 1, [], .null)), (250, (.getfield 47, 3, [12, 10, 1334], .null)), (253, (.bipush 11, 2, [], .null))]),
  (286, [(255, (.ldc2_w 106, 3, [1307], .long 495555538035)), (258, (.lastore, 1, [], .null)), (259, (.aload_n 0, 1, [], .null)), (260, (.getfield 47, 3, [12, 10, 1334], .null)), (263, (.bipush 12, 2, [], .null)), (265, (.ldc2_w 108, 3, [1308], .long 6578553)), (268, (.lastore, 1, [], .null)), (269, (.aload_n 0, 1, [], .null)), (270, (.getfield 47, 3, [12, 10, 1334], .null)), (273, (.bipush 13, 2, [], .null)), (275, (.ldc2_w 110, 3, [1309], .long 28530)), (278, (.lastore, 1, [], .null)), (279, (.aload_n 0, 1, [], .null)), (280, (.getfield 47, 3, [12, 10, 1334], .null)), (283, (.bipush 14, 2, [], .null)), (285, (.ldc2_w 112, 3, [1310], .long 6385252))]),
  (319, [(288, (.lastore, 1, [], .null)), (289, (.aload_n 0, 1, [], .null)), (290, (.getfield 47, 3, [12, 10, 1334], .null)), (293, (.bipush 15, 2, [], .null)), (295, (.ldc2_w 114, 3, [1311], .long 7237492)), (298, (.lastore, 1, [], .null)), (299, (.aload_n 0, 1, [], .null)), (300, (.getfield 47, 3, [12, 10, 1334], .null)), (303, (.bipush 16, 2, [], .null)), (305, (.ldc2_w 116, 3, [1312], .long 461414299502)), (308, (.lastore, 1, [], .null)), (309, (.aload_n 0, 1, [], .null)), (310, (.getfield 47, 3, [12, 10, 1334], .null)), (313, (.bipush 17, 2, [], .null)), (315, (.ldc2_w 118, 3, [1313], .long 500085055865)), (318, (.lastore, 1, [], .null))]),
  (350, [(319, (.aload_n 0, 1, [], .null)), (320, (.getfield 47, 3, [12, 10, 1334], .null)), (323, (.bipush 18, 2, [], .null)), (325, (.ldc2_w 120, 3, [1314], .long 24948)), (328, (.lastore, 1, [], .null)), (329, (.aload_n 0, 1, [], .null)), (330, (.getfield 47, 3, [12, 10, 1334], .null)), (333, (.bipush 19, 2, [], .null)), (335, (.ldc2_w 122, 3, [1315], .long 25209)), (338, (.lastore, 1, [], .null)), (339, (.aload_n 0, 1, [], .null)), (340, (.getfield 47, 3, [12, 10, 1334], .null)), (343, (.bipush 20, 2, [], .null)), (345, (.ldc2_w 124, 3, [1316], .long 499984983411)), (348, (.lastore, 1, [], .null)), (349, (.aload_n 0, 1, [], .null))]),
  (381, [(350, (.getfield 47, 3, [12, 10, 1334], .null)), (353, (.bipush 21, 2, [], .null)), (355, (.ldc2_w 126, 3, [1317], .long 495874044019)), (358, (.lastore, 1, [], .null)), (359, (.aload_n 0, 1, [], .null)), (360, (.getfield 47, 3, [12, 10, 1334], .null)), (363, (.bipush 22, 2, [], .null)), (365, (.ldc2_w 128, 3, [1318], .long 1685024357)), (368, (.lastore, 1, [], .null)), (369, (.aload_n 0, 1, [], .null)), (370, (.getfield 47, 3, [12, 10, 1334], .null)), (373, (.bipush 23, 2, [], .null)), (375, (.ldc2_w 130, 3, [1319], .long 121450625394034)), (378, (.lastore, 1, [], .null)), (379, (.aload_n 0, 1, [], .null)), (380, (.invokevirtual 132, 3, [1, 154, 0, 12, 1320, 33, 1322], .null))]),
  (410, [(383, (.iconst 0, 1, [], .null)), (384, (.istore_n 1, 1, [], .null)), (385, (.iload_n 1, 1, [], .null)), (386, (.bipush 96, 2, [], .null)), (388, (.if_icmp .ge 21, 3, [409], .null)), (391, (.aload_n 0, 1, [], .null)), (392, (.getfield 33, 3, [12, 6, 1330], .null)), (395, (.iload_n 1, 1, [], .null)), (396, (.aload_n 0, 1, [], .null)), (397, (.getfield 37, 3, [12, 7, 1331], .null)), (400, (.iload_n 1, 1, [], .null)), (401, (.iaload, 1, [], .null)), (402, (.iastore, 1, [], .null)), (403, (.iinc 1 1, 3, [], .null)), (406, (.goto (-21), 3, [385], .null)), (409, (.return_, 1, [], .null))])])
end
section
def md_154 : ri_M × ri_T := ((yX12_clears, cX12_clears, 2, none, RX12, 0, 0), [
  (27, [(0, (.iconst 0, 1, [], .null)), (1, (.istore_n 1, 1, [], .null)), (2, (.iload_n 1, 1, [], .null)), (3, (.bipush 96, 2, [], .null)), (5, (.if_icmp .ge 16, 3, [21], .null)), (8, (.aload_n 0, 1, [], .null)), (9, (.getfield 37, 3, [12, 7, 1331], .null)), (12, (.iload_n 1, 1, [], .null)), (13, (.iconst 0, 1, [], .null)), (14, (.iastore, 1, [], .null)), (15, (.iinc 1 1, 3, [], .null)), (18, (.goto (-16), 3, [2], .null)), (21, (.aload_n 0, 1, [], .null)), (22, (.getfield 37, 3, [12, 7, 1331], .null)), (25, (.iconst 0, 1, [], .null)), (26, (.iconst 4, 1, [], .null))]),
  (51, [(27, (.iastore, 1, [], .null)), (28, (.aload_n 0, 1, [], .null)), (29, (.getfield 37, 3, [12, 7, 1331], .null)), (32, (.iconst 1, 1, [], .null)), (33, (.iconst 3, 1, [], .null)), (34, (.iastore, 1, [], .null)), (35, (.aload_n 0, 1, [], .null)), (36, (.getfield 37, 3, [12, 7, 1331], .null)), (39, (.iconst 2, 1, [], .null)), (40, (.bipush 20, 2, [], .null)), (42, (.iastore, 1, [], .null)), (43, (.aload_n 0, 1, [], .null)), (44, (.getfield 37, 3, [12, 7, 1331], .null)), (47, (.bipush 8, 2, [], .null)), (49, (.iconst (-1), 1, [], .null)), (50, (.iastore, 1, [], .null))]),
  (52, [(51, (.return_, 1, [], .null))])])
def md_155 : ri_M × ri_T := ((yX12_peek, cX12_peek, 1, (some .int), RX12, 0, 0), [
  (29, [(0, (.aload_n 0, 1, [], .null)), (1, (.getfield 21, 3, [12, 4, 1328], .null)), (4, (.aload_n 0, 1, [], .null)), (5, (.getfield 18, 3, [12, 3, 1327], .null)), (8, (.if_icmp .ge 19, 3, [27], .null)), (11, (.aload_n 0, 1, [], .null)), (12, (.getfield 14, 3, [12, 1, 1325], .null)), (15, (.aload_n 0, 1, [], .null)), (16, (.getfield 21, 3, [12, 4, 1328], .null)), (19, (.baload, 1, [], .null)), (20, (.sipush 255, 3, [], .null)), (23, (.iand, 1, [], .null)), (24, (.goto 4, 3, [28], .null)), (27, (.iconst (-1), 1, [], .null)), (28, (.ireturn, 1, [], .null))])])
def md_156 : ri_M × ri_T := ((yX12_isSmall, cX12_isSmall, 1, (some .boolean), RX12, 0, 0), [
  (18, [(0, (.iload_n 0, 1, [], .null)), (1, (.bipush 97, 2, [], .null)), (3, (.if_icmp .lt 13, 3, [16], .null)), (6, (.iload_n 0, 1, [], .null)), (7, (.bipush 122, 2, [], .null)), (9, (.if_icmp .gt 7, 3, [16], .null)), (12, (.iconst 1, 1, [], .null)), (13, (.goto 4, 3, [17], .null)), (16, (.iconst 0, 1, [], .null)), (17, (.ireturn, 1, [], .null))])])
def md_157 : ri_M × ri_T := ((yX12_isDigit, cX12_isDigit, 1, (some .boolean), RX12, 0, 0), [
  (18, [(0, (.iload_n 0, 1, [], .null)), (1, (.bipush 48, 2, [], .null)), (3, (.if_icmp .lt 13, 3, [16], .null)), (6, (.iload_n 0, 1, [], .null)), (7, (.bipush 57, 2, [], .null)), (9, (.if_icmp .gt 7, 3, [16], .null)), (12, (.iconst 1, 1, [], .null)), (13, (.goto 4, 3, [17], .null)), (16, (.iconst 0, 1, [], .null)), (17, (.ireturn, 1, [], .null))])])
def md_158 : ri_M × ri_T := ((yX12_next, cX12_next, 4, none, RX12, 0, 0), [
  (32, [(0, (.aload_n 0, 1, [], .null)), (1, (.invokevirtual 135, 3, [1, 155, 0, 12, 1482, 36, 1484], .null)), (4, (.bipush 32, 2, [], .null)), (6, (.if_icmp .eq 12, 3, [18], .null)), (9, (.aload_n 0, 1, [], .null)), (10, (.invokevirtual 135, 3, [1, 155, 0, 12, 1482, 36, 1484], .null)), (13, (.bipush 10, 2, [], .null)), (15, (.if_icmp .ne 16, 3, [31], .null)), (18, (.aload_n 0, 1, [], .null)), (19, (.dup, 1, [], .null)), (20, (.getfield 21, 3, [12, 4, 1328], .null)), (23, (.iconst 1, 1, [], .null)), (24, (.iadd, 1, [], .null)), (25, (.putfield 21, 3, [12, 4, 1328, 0], .null)), (28, (.goto (-28), 3, [0], .null)), (31, (.aload_n 0, 1, [], .null))]),
  (64, [(32, (.aload_n 0, 1, [], .null)), (33, (.getfield 21, 3, [12, 4, 1328], .null)), (36, (.putfield 139, 3, [12, 12, 1336, 0], .null)), (39, (.aload_n 0, 1, [], .null)), (40, (.iconst 0, 1, [], .null)), (41, (.putfield 142, 3, [12, 13, 1337, 0], .null)), (44, (.aload_n 0, 1, [], .null)), (45, (.getfield 18, 3, [12, 3, 1327], .null)), (48, (.aload_n 0, 1, [], .null)), (49, (.getfield 24, 3, [12, 5, 1329], .null)), (52, (.if_icmp .le 28, 3, [80], .null)), (55, (.aload_n 0, 1, [], .null)), (56, (.getfield 21, 3, [12, 4, 1328], .null)), (59, (.aload_n 0, 1, [], .null)), (60, (.getfield 24, 3, [12, 5, 1329], .null)), (63, (.if_icmp .lt 17, 3, [80], .null))]),
  (92, [(66, (.aload_n 0, 1, [], .null)), (67, (.aload_n 0, 1, [], .null)), (68, (.getfield 24, 3, [12, 5, 1329], .null)), (71, (.putfield 139, 3, [12, 12, 1336, 0], .null)), (74, (.aload_n 0, 1, [], .null)), (75, (.iconst 4, 1, [], .null)), (76, (.putfield 145, 3, [12, 11, 1335, 0], .null)), (79, (.return_, 1, [], .null)), (80, (.aload_n 0, 1, [], .null)), (81, (.invokevirtual 135, 3, [1, 155, 0, 12, 1482, 36, 1484], .null)), (84, (.istore_n 1, 1, [], .null)), (85, (.iload_n 1, 1, [], .null)), (86, (.ifCond .ge 9, 3, [95], .null)), (89, (.aload_n 0, 1, [], .null)), (90, (.iconst 0, 1, [], .null)), (91, (.putfield 145, 3, [12, 11, 1335, 0], .null))]),
  (124, [(94, (.return_, 1, [], .null)), (95, (.iload_n 1, 1, [], .null)), (96, (.invokestatic 148, 3, [3, 156, 1, 0, 1486, 1487], .null)), (99, (.ifCond .ne 65, 3, [164], .null)), (102, (.iload_n 1, 1, [], .null)), (103, (.invokestatic 152, 3, [3, 157, 1, 0, 1489, 1490], .null)), (106, (.ifCond .ne 58, 3, [164], .null)), (109, (.aload_n 0, 1, [], .null)), (110, (.iload_n 1, 1, [], .null)), (111, (.bipush 59, 2, [], .null)), (113, (.if_icmp .eq 27, 3, [140], .null)), (116, (.iload_n 1, 1, [], .null)), (117, (.bipush 40, 2, [], .null)), (119, (.if_icmp .eq 21, 3, [140], .null)), (122, (.iload_n 1, 1, [], .null)), (123, (.bipush 41, 2, [], .null))]),
  (155, [(125, (.if_icmp .eq 15, 3, [140], .null)), (128, (.iload_n 1, 1, [], .null)), (129, (.bipush 60, 2, [], .null)), (131, (.if_icmp .lt 13, 3, [144], .null)), (134, (.iload_n 1, 1, [], .null)), (135, (.bipush 62, 2, [], .null)), (137, (.if_icmp .gt 7, 3, [144], .null)), (140, (.iconst 3, 1, [], .null)), (141, (.goto 4, 3, [145], .null)), (144, (.iconst 4, 1, [], .null)), (145, (.putfield 145, 3, [12, 11, 1335, 0], .null)), (148, (.aload_n 0, 1, [], .null)), (149, (.iload_n 1, 1, [], .null)), (150, (.putfield 155, 3, [12, 14, 1338, 0], .null)), (153, (.aload_n 0, 1, [], .null)), (154, (.dup, 1, [], .null))]),
  (179, [(155, (.getfield 21, 3, [12, 4, 1328], .null)), (158, (.iconst 1, 1, [], .null)), (159, (.iadd, 1, [], .null)), (160, (.putfield 21, 3, [12, 4, 1328, 0], .null)), (163, (.return_, 1, [], .null)), (164, (.iload_n 1, 1, [], .null)), (165, (.invokestatic 148, 3, [3, 156, 1, 0, 1486, 1487], .null)), (168, (.istore_n 2, 1, [], .null)), (169, (.iconst 1, 1, [], .null)), (170, (.istore_n 3, 1, [], .null)), (171, (.aload_n 0, 1, [], .null)), (172, (.lconst 0, 1, [], .null)), (173, (.putfield 158, 3, [12, 17, 1341, 2], .null)), (176, (.aload_n 0, 1, [], .null)), (177, (.iconst 0, 1, [], .null)), (178, (.putfield 155, 3, [12, 14, 1338, 0], .null))]),
  (217, [(181, (.aload_n 0, 1, [], .null)), (182, (.invokevirtual 135, 3, [1, 155, 0, 12, 1482, 36, 1484], .null)), (185, (.invokestatic 148, 3, [3, 156, 1, 0, 1486, 1487], .null)), (188, (.ifCond .ne 13, 3, [201], .null)), (191, (.aload_n 0, 1, [], .null)), (192, (.invokevirtual 135, 3, [1, 155, 0, 12, 1482, 36, 1484], .null)), (195, (.invokestatic 152, 3, [3, 157, 1, 0, 1489, 1490], .null)), (198, (.ifCond .eq 100, 3, [298], .null)), (201, (.iload_n 3, 1, [], .null)), (202, (.ifCond .eq 18, 3, [220], .null)), (205, (.aload_n 0, 1, [], .null)), (206, (.invokevirtual 135, 3, [1, 155, 0, 12, 1482, 36, 1484], .null)), (209, (.invokestatic 148, 3, [3, 156, 1, 0, 1486, 1487], .null)), (212, (.iload_n 2, 1, [], .null)), (213, (.if_icmp .ne 7, 3, [220], .null)), (216, (.iconst 1, 1, [], .null))]),
  (245, [(217, (.goto 4, 3, [221], .null)), (220, (.iconst 0, 1, [], .null)), (221, (.istore_n 3, 1, [], .null)), (222, (.aload_n 0, 1, [], .null)), (223, (.getfield 142, 3, [12, 13, 1337], .null)), (226, (.bipush 7, 2, [], .null)), (228, (.if_icmp .ge 20, 3, [248], .null)), (231, (.aload_n 0, 1, [], .null)), (232, (.aload_n 0, 1, [], .null)), (233, (.getfield 158, 3, [12, 17, 1341], .null)), (236, (.bipush 8, 2, [], .null)), (238, (.lshl, 1, [], .null)), (239, (.aload_n 0, 1, [], .null)), (240, (.invokevirtual 135, 3, [1, 155, 0, 12, 1482, 36, 1484], .null)), (243, (.i2l, 1, [], .null)), (244, (.lor, 1, [], .null))]),
  (273, [(245, (.putfield 158, 3, [12, 17, 1341, 2], .null)), (248, (.aload_n 0, 1, [], .null)), (249, (.getfield 142, 3, [12, 13, 1337], .null)), (252, (.iconst 3, 1, [], .null)), (253, (.if_icmp .ge 22, 3, [275], .null)), (256, (.aload_n 0, 1, [], .null)), (257, (.bipush 10, 2, [], .null)), (259, (.aload_n 0, 1, [], .null)), (260, (.getfield 155, 3, [12, 14, 1338], .null)), (263, (.imul, 1, [], .null)), (264, (.aload_n 0, 1, [], .null)), (265, (.invokevirtual 135, 3, [1, 155, 0, 12, 1482, 36, 1484], .null)), (268, (.iadd, 1, [], .null)), (269, (.bipush 48, 2, [], .null)), (271, (.isub, 1, [], .null)), (272, (.putfield 155, 3, [12, 14, 1338, 0], .null))]),
  (301, [(275, (.aload_n 0, 1, [], .null)), (276, (.dup, 1, [], .null)), (277, (.getfield 142, 3, [12, 13, 1337], .null)), (280, (.iconst 1, 1, [], .null)), (281, (.iadd, 1, [], .null)), (282, (.putfield 142, 3, [12, 13, 1337, 0], .null)), (285, (.aload_n 0, 1, [], .null)), (286, (.dup, 1, [], .null)), (287, (.getfield 21, 3, [12, 4, 1328], .null)), (290, (.iconst 1, 1, [], .null)), (291, (.iadd, 1, [], .null)), (292, (.putfield 21, 3, [12, 4, 1328, 0], .null)), (295, (.goto (-114), 3, [181], .null)), (298, (.aload_n 0, 1, [], .null)), (299, (.iload_n 3, 1, [], .null)), (300, (.ifCond .eq 20, 3, [320], .null))]),
  (334, [(303, (.aload_n 0, 1, [], .null)), (304, (.getfield 142, 3, [12, 13, 1337], .null)), (307, (.iload_n 2, 1, [], .null)), (308, (.ifCond .eq 8, 3, [316], .null)), (311, (.bipush 7, 2, [], .null)), (313, (.goto 4, 3, [317], .null)), (316, (.iconst 3, 1, [], .null)), (317, (.if_icmp .le 7, 3, [324], .null)), (320, (.iconst 4, 1, [], .null)), (321, (.goto 12, 3, [333], .null)), (324, (.iload_n 2, 1, [], .null)), (325, (.ifCond .eq 7, 3, [332], .null)), (328, (.iconst 1, 1, [], .null)), (329, (.goto 4, 3, [333], .null)), (332, (.iconst 2, 1, [], .null)), (333, (.putfield 145, 3, [12, 11, 1335, 0], .null))]),
  (337, [(336, (.return_, 1, [], .null))])])
def md_159 : ri_M × ri_T := ((yX12_bad, cX12_bad, 2, (some .boolean), RX12, 0, 0), [
  (15, [(0, (.aload_n 0, 1, [], .null)), (1, (.iload_n 1, 1, [], .null)), (2, (.putfield 162, 3, [12, 15, 1339, 0], .null)), (5, (.aload_n 0, 1, [], .null)), (6, (.aload_n 0, 1, [], .null)), (7, (.getfield 139, 3, [12, 12, 1336], .null)), (10, (.putfield 165, 3, [12, 16, 1340, 0], .null)), (13, (.iconst 0, 1, [], .null)), (14, (.ireturn, 1, [], .null))])])
def md_160 : ri_M × ri_T := ((yX12_isWord, cX12_isWord, 3, (some .boolean), RX12, 0, 0), [
  (23, [(0, (.aload_n 0, 1, [], .null)), (1, (.getfield 145, 3, [12, 11, 1335], .null)), (4, (.iconst 1, 1, [], .null)), (5, (.if_icmp .ne 16, 3, [21], .null)), (8, (.aload_n 0, 1, [], .null)), (9, (.getfield 158, 3, [12, 17, 1341], .null)), (12, (.lload_n 1, 1, [], .null)), (13, (.lcmp, 1, [], .null)), (14, (.ifCond .ne 7, 3, [21], .null)), (17, (.iconst 1, 1, [], .null)), (18, (.goto 4, 3, [22], .null)), (21, (.iconst 0, 1, [], .null)), (22, (.ireturn, 1, [], .null))])])
def md_161 : ri_M × ri_T := ((yX12_isSign, cX12_isSign, 2, (some .boolean), RX12, 0, 0), [
  (22, [(0, (.aload_n 0, 1, [], .null)), (1, (.getfield 145, 3, [12, 11, 1335], .null)), (4, (.iconst 3, 1, [], .null)), (5, (.if_icmp .ne 15, 3, [20], .null)), (8, (.aload_n 0, 1, [], .null)), (9, (.getfield 155, 3, [12, 14, 1338], .null)), (12, (.iload_n 1, 1, [], .null)), (13, (.if_icmp .ne 7, 3, [20], .null)), (16, (.iconst 1, 1, [], .null)), (17, (.goto 4, 3, [21], .null)), (20, (.iconst 0, 1, [], .null)), (21, (.ireturn, 1, [], .null))])])
def md_162 : ri_M × ri_T := ((yX12_sign, cX12_sign, 2, (some .boolean), RX12, 0, 0), [
  (20, [(0, (.aload_n 0, 1, [], .null)), (1, (.iload_n 1, 1, [], .null)), (2, (.invokevirtual 168, 3, [1, 161, 1, 12, 1542, 48, 1544], .null)), (5, (.ifCond .ne 9, 3, [14], .null)), (8, (.aload_n 0, 1, [], .null)), (9, (.iconst 1, 1, [], .null)), (10, (.invokevirtual 171, 3, [1, 159, 1, 12, 1507, 40, 1509], .null)), (13, (.ireturn, 1, [], .null)), (14, (.aload_n 0, 1, [], .null)), (15, (.invokevirtual 174, 3, [1, 158, 0, 12, 1478, 35, 1480], .null)), (18, (.iconst 1, 1, [], .null)), (19, (.ireturn, 1, [], .null))])])
def md_163 : ri_M × ri_T := ((yX12_isName, cX12_isName, 3, (some .boolean), RX12, 0, 0), [
  (27, [(0, (.aload_n 0, 1, [], .null)), (1, (.getfield 145, 3, [12, 11, 1335], .null)), (4, (.iconst 1, 1, [], .null)), (5, (.if_icmp .ne 7, 3, [12], .null)), (8, (.iconst 1, 1, [], .null)), (9, (.goto 4, 3, [13], .null)), (12, (.iconst 0, 1, [], .null)), (13, (.istore_n 1, 1, [], .null)), (14, (.iconst 0, 1, [], .null)), (15, (.istore_n 2, 1, [], .null)), (16, (.iload_n 2, 1, [], .null)), (17, (.bipush 24, 2, [], .null)), (19, (.if_icmp .ge 33, 3, [52], .null)), (22, (.iload_n 1, 1, [], .null)), (23, (.ifCond .eq 21, 3, [44], .null)), (26, (.aload_n 0, 1, [], .null))]),
  (54, [(27, (.getfield 158, 3, [12, 17, 1341], .null)), (30, (.aload_n 0, 1, [], .null)), (31, (.getfield 47, 3, [12, 10, 1334], .null)), (34, (.iload_n 2, 1, [], .null)), (35, (.laload, 1, [], .null)), (36, (.lcmp, 1, [], .null)), (37, (.ifCond .eq 7, 3, [44], .null)), (40, (.iconst 1, 1, [], .null)), (41, (.goto 4, 3, [45], .null)), (44, (.iconst 0, 1, [], .null)), (45, (.istore_n 1, 1, [], .null)), (46, (.iinc 2 1, 3, [], .null)), (49, (.goto (-33), 3, [16], .null)), (52, (.iload_n 1, 1, [], .null)), (53, (.ireturn, 1, [], .null))])])
def md_164 : ri_M × ri_T := ((yX12_takes, cX12_takes, 3, (some .boolean), RX12, 0, 0), [
  (28, [(0, (.aload_n 0, 1, [], .null)), (1, (.getfield 145, 3, [12, 11, 1335], .null)), (4, (.iconst 2, 1, [], .null)), (5, (.if_icmp .eq 9, 3, [14], .null)), (8, (.aload_n 0, 1, [], .null)), (9, (.iconst 1, 1, [], .null)), (10, (.invokevirtual 171, 3, [1, 159, 1, 12, 1507, 40, 1509], .null)), (13, (.ireturn, 1, [], .null)), (14, (.aload_n 0, 1, [], .null)), (15, (.getfield 155, 3, [12, 14, 1338], .null)), (18, (.iload_n 1, 1, [], .null)), (19, (.iload_n 2, 1, [], .null)), (20, (.invokestatic 177, 3, [3, 149, 3, 0, 1519, 1520], .null)), (23, (.ifCond .ne 9, 3, [32], .null)), (26, (.aload_n 0, 1, [], .null)), (27, (.iconst 2, 1, [], .null))]),
  (46, [(28, (.invokevirtual 171, 3, [1, 159, 1, 12, 1507, 40, 1509], .null)), (31, (.ireturn, 1, [], .null)), (32, (.aload_n 0, 1, [], .null)), (33, (.aload_n 0, 1, [], .null)), (34, (.getfield 155, 3, [12, 14, 1338], .null)), (37, (.putfield 181, 3, [12, 18, 1342, 0], .null)), (40, (.aload_n 0, 1, [], .null)), (41, (.invokevirtual 174, 3, [1, 158, 0, 12, 1478, 35, 1480], .null)), (44, (.iconst 1, 1, [], .null)), (45, (.ireturn, 1, [], .null))])])
def md_165 : ri_M × ri_T := ((yX12_puts, cX12_puts, 4, (some .boolean), RX12, 0, 0), [
  (23, [(0, (.aload_n 0, 1, [], .null)), (1, (.iload_n 2, 1, [], .null)), (2, (.iload_n 3, 1, [], .null)), (3, (.invokevirtual 184, 3, [1, 164, 2, 12, 1515, 42, 1517], .null)), (6, (.ifCond .ne 5, 3, [11], .null)), (9, (.iconst 0, 1, [], .null)), (10, (.ireturn, 1, [], .null)), (11, (.aload_n 0, 1, [], .null)), (12, (.getfield 37, 3, [12, 7, 1331], .null)), (15, (.iload_n 1, 1, [], .null)), (16, (.aload_n 0, 1, [], .null)), (17, (.getfield 181, 3, [12, 18, 1342], .null)), (20, (.iastore, 1, [], .null)), (21, (.iconst 1, 1, [], .null)), (22, (.ireturn, 1, [], .null))])])
def md_166 : ri_M × ri_T := ((yX12_find, cX12_find, 4, (some .int), RX12, 0, 0), [
  (24, [(0, (.iconst 0, 1, [], .null)), (1, (.istore_n 3, 1, [], .null)), (2, (.iload_n 3, 1, [], .null)), (3, (.iload_n 2, 1, [], .null)), (4, (.if_icmp .ge 27, 3, [31], .null)), (7, (.aload_n 0, 1, [], .null)), (8, (.getfield 43, 3, [12, 9, 1333], .null)), (11, (.iload_n 1, 1, [], .null)), (12, (.iload_n 3, 1, [], .null)), (13, (.iadd, 1, [], .null)), (14, (.laload, 1, [], .null)), (15, (.aload_n 0, 1, [], .null)), (16, (.getfield 158, 3, [12, 17, 1341], .null)), (19, (.lcmp, 1, [], .null)), (20, (.ifCond .ne 5, 3, [25], .null)), (23, (.iload_n 3, 1, [], .null))]),
  (33, [(24, (.ireturn, 1, [], .null)), (25, (.iinc 3 1, 3, [], .null)), (28, (.goto (-26), 3, [2], .null)), (31, (.iconst (-1), 1, [], .null)), (32, (.ireturn, 1, [], .null))])])
def md_167 : ri_M × ri_T := ((yX12_fresh, cX12_fresh, 2, (some .boolean), RX12, 0, 0), [
  (29, [(0, (.aload_n 0, 1, [], .null)), (1, (.invokevirtual 188, 3, [1, 163, 0, 12, 1526, 44, 1528], .null)), (4, (.ifCond .ne 9, 3, [13], .null)), (7, (.aload_n 0, 1, [], .null)), (8, (.iconst 1, 1, [], .null)), (9, (.invokevirtual 171, 3, [1, 159, 1, 12, 1507, 40, 1509], .null)), (12, (.ireturn, 1, [], .null)), (13, (.aload_n 0, 1, [], .null)), (14, (.bipush 24, 2, [], .null)), (16, (.aload_n 0, 1, [], .null)), (17, (.getfield 37, 3, [12, 7, 1331], .null)), (20, (.iconst 3, 1, [], .null)), (21, (.iaload, 1, [], .null)), (22, (.invokevirtual 192, 3, [1, 166, 2, 12, 1530, 45, 1532], .null)), (25, (.ifCond .ge 49, 3, [74], .null)), (28, (.aload_n 0, 1, [], .null))]),
  (59, [(29, (.bipush 30, 2, [], .null)), (31, (.aload_n 0, 1, [], .null)), (32, (.getfield 37, 3, [12, 7, 1331], .null)), (35, (.iconst 4, 1, [], .null)), (36, (.iaload, 1, [], .null)), (37, (.invokevirtual 192, 3, [1, 166, 2, 12, 1530, 45, 1532], .null)), (40, (.ifCond .ge 34, 3, [74], .null)), (43, (.aload_n 0, 1, [], .null)), (44, (.bipush 38, 2, [], .null)), (46, (.aload_n 0, 1, [], .null)), (47, (.getfield 37, 3, [12, 7, 1331], .null)), (50, (.iconst 5, 1, [], .null)), (51, (.iaload, 1, [], .null)), (52, (.invokevirtual 192, 3, [1, 166, 2, 12, 1530, 45, 1532], .null)), (55, (.ifCond .ge 19, 3, [74], .null)), (58, (.aload_n 0, 1, [], .null))]),
  (87, [(59, (.bipush 42, 2, [], .null)), (61, (.aload_n 0, 1, [], .null)), (62, (.getfield 37, 3, [12, 7, 1331], .null)), (65, (.bipush 6, 2, [], .null)), (67, (.iaload, 1, [], .null)), (68, (.invokevirtual 192, 3, [1, 166, 2, 12, 1530, 45, 1532], .null)), (71, (.ifCond .lt 9, 3, [80], .null)), (74, (.aload_n 0, 1, [], .null)), (75, (.iconst 3, 1, [], .null)), (76, (.invokevirtual 171, 3, [1, 159, 1, 12, 1507, 40, 1509], .null)), (79, (.ireturn, 1, [], .null)), (80, (.aload_n 0, 1, [], .null)), (81, (.getfield 43, 3, [12, 9, 1333], .null)), (84, (.iload_n 1, 1, [], .null)), (85, (.aload_n 0, 1, [], .null)), (86, (.getfield 158, 3, [12, 17, 1341], .null))]),
  (96, [(89, (.lastore, 1, [], .null)), (90, (.aload_n 0, 1, [], .null)), (91, (.invokevirtual 174, 3, [1, 158, 0, 12, 1478, 35, 1480], .null)), (94, (.iconst 1, 1, [], .null)), (95, (.ireturn, 1, [], .null))])])
def md_168 : ri_M × ri_T := ((yX12_looksAt, cX12_looksAt, 3, (some .boolean), RX12, 0, 0), [
  (28, [(0, (.aload_n 0, 1, [], .null)), (1, (.invokevirtual 188, 3, [1, 163, 0, 12, 1526, 44, 1528], .null)), (4, (.ifCond .ne 9, 3, [13], .null)), (7, (.aload_n 0, 1, [], .null)), (8, (.iconst 1, 1, [], .null)), (9, (.invokevirtual 171, 3, [1, 159, 1, 12, 1507, 40, 1509], .null)), (12, (.ireturn, 1, [], .null)), (13, (.aload_n 0, 1, [], .null)), (14, (.aload_n 0, 1, [], .null)), (15, (.iload_n 1, 1, [], .null)), (16, (.iload_n 2, 1, [], .null)), (17, (.invokevirtual 192, 3, [1, 166, 2, 12, 1530, 45, 1532], .null)), (20, (.putfield 181, 3, [12, 18, 1342, 0], .null)), (23, (.aload_n 0, 1, [], .null)), (24, (.getfield 181, 3, [12, 18, 1342], .null)), (27, (.ifCond .ge 11, 3, [38], .null))]),
  (44, [(30, (.aload_n 0, 1, [], .null)), (31, (.iconst 3, 1, [], .null)), (32, (.invokevirtual 171, 3, [1, 159, 1, 12, 1507, 40, 1509], .null)), (35, (.ifCond .eq 7, 3, [42], .null)), (38, (.iconst 1, 1, [], .null)), (39, (.goto 4, 3, [43], .null)), (42, (.iconst 0, 1, [], .null)), (43, (.ireturn, 1, [], .null))])])
def md_169 : ri_M × ri_T := ((yX12_isOnce, cX12_isOnce, 2, (some .boolean), RX12, 0, 0), [
  (26, [(0, (.aload_n 0, 1, [], .null)), (1, (.getfield 196, 3, [12, 20, 1344], .null)), (4, (.iload_n 1, 1, [], .null)), (5, (.invokestatic 199, 3, [3, 150, 2, 0, 1504, 1505], .null)), (8, (.ifCond .eq 9, 3, [17], .null)), (11, (.aload_n 0, 1, [], .null)), (12, (.iconst 3, 1, [], .null)), (13, (.invokevirtual 171, 3, [1, 159, 1, 12, 1507, 40, 1509], .null)), (16, (.ireturn, 1, [], .null)), (17, (.aload_n 0, 1, [], .null)), (18, (.dup, 1, [], .null)), (19, (.getfield 196, 3, [12, 20, 1344], .null)), (22, (.iconst 1, 1, [], .null)), (23, (.iload_n 1, 1, [], .null)), (24, (.ishl, 1, [], .null)), (25, (.ior, 1, [], .null))]),
  (35, [(26, (.putfield 196, 3, [12, 20, 1344, 0], .null)), (29, (.aload_n 0, 1, [], .null)), (30, (.invokevirtual 174, 3, [1, 158, 0, 12, 1478, 35, 1480], .null)), (33, (.iconst 1, 1, [], .null)), (34, (.ireturn, 1, [], .null))])])
def md_170 : ri_M × ri_T := ((yX12_line, cX12_line, 2, (some .boolean), RX12, 0, 0), [
  (31, [(0, (.aload_n 0, 1, [], .null)), (1, (.ldc2_w 84, 3, [1296], .long 426903366771)), (4, (.invokevirtual 202, 3, [1, 160, 1, 12, 1496, 38, 1498], .null)), (7, (.ifCond .eq 28, 3, [35], .null)), (10, (.aload_n 0, 1, [], .null)), (11, (.iconst 0, 1, [], .null)), (12, (.invokevirtual 206, 3, [1, 169, 1, 12, 1500, 39, 1502], .null)), (15, (.ifCond .eq 18, 3, [33], .null)), (18, (.aload_n 0, 1, [], .null)), (19, (.iconst 0, 1, [], .null)), (20, (.iconst 1, 1, [], .null)), (21, (.bipush 8, 2, [], .null)), (23, (.invokevirtual 209, 3, [1, 165, 3, 12, 1511, 41, 1513], .null)), (26, (.ifCond .eq 7, 3, [33], .null)), (29, (.iconst 1, 1, [], .null)), (30, (.goto 4, 3, [34], .null))]),
  (62, [(33, (.iconst 0, 1, [], .null)), (34, (.ireturn, 1, [], .null)), (35, (.aload_n 0, 1, [], .null)), (36, (.ldc2_w 86, 3, [1297], .long 495673374574)), (39, (.invokevirtual 202, 3, [1, 160, 1, 12, 1496, 38, 1498], .null)), (42, (.ifCond .eq 28, 3, [70], .null)), (45, (.aload_n 0, 1, [], .null)), (46, (.iconst 1, 1, [], .null)), (47, (.invokevirtual 206, 3, [1, 169, 1, 12, 1500, 39, 1502], .null)), (50, (.ifCond .eq 18, 3, [68], .null)), (53, (.aload_n 0, 1, [], .null)), (54, (.iconst 1, 1, [], .null)), (55, (.iconst 1, 1, [], .null)), (56, (.bipush 9, 2, [], .null)), (58, (.invokevirtual 209, 3, [1, 165, 3, 12, 1511, 41, 1513], .null)), (61, (.ifCond .eq 7, 3, [68], .null))]),
  (92, [(64, (.iconst 1, 1, [], .null)), (65, (.goto 4, 3, [69], .null)), (68, (.iconst 0, 1, [], .null)), (69, (.ireturn, 1, [], .null)), (70, (.aload_n 0, 1, [], .null)), (71, (.ldc2_w 88, 3, [1298], .long 461262647411)), (74, (.invokevirtual 202, 3, [1, 160, 1, 12, 1496, 38, 1498], .null)), (77, (.ifCond .eq 28, 3, [105], .null)), (80, (.aload_n 0, 1, [], .null)), (81, (.iconst 2, 1, [], .null)), (82, (.invokevirtual 206, 3, [1, 169, 1, 12, 1500, 39, 1502], .null)), (85, (.ifCond .eq 18, 3, [103], .null)), (88, (.aload_n 0, 1, [], .null)), (89, (.iconst 2, 1, [], .null)), (90, (.iconst 1, 1, [], .null)), (91, (.bipush 99, 2, [], .null))]),
  (125, [(93, (.invokevirtual 209, 3, [1, 165, 3, 12, 1511, 41, 1513], .null)), (96, (.ifCond .eq 7, 3, [103], .null)), (99, (.iconst 1, 1, [], .null)), (100, (.goto 4, 3, [104], .null)), (103, (.iconst 0, 1, [], .null)), (104, (.ireturn, 1, [], .null)), (105, (.aload_n 0, 1, [], .null)), (106, (.ldc2_w 90, 3, [1299], .long 121398985520243)), (109, (.invokevirtual 202, 3, [1, 160, 1, 12, 1496, 38, 1498], .null)), (112, (.ifCond .eq 29, 3, [141], .null)), (115, (.aload_n 0, 1, [], .null)), (116, (.iconst 3, 1, [], .null)), (117, (.invokevirtual 206, 3, [1, 169, 1, 12, 1500, 39, 1502], .null)), (120, (.ifCond .eq 19, 3, [139], .null)), (123, (.aload_n 0, 1, [], .null)), (124, (.bipush 7, 2, [], .null))]),
  (157, [(126, (.iconst 1, 1, [], .null)), (127, (.bipush 30, 2, [], .null)), (129, (.invokevirtual 209, 3, [1, 165, 3, 12, 1511, 41, 1513], .null)), (132, (.ifCond .eq 7, 3, [139], .null)), (135, (.iconst 1, 1, [], .null)), (136, (.goto 4, 3, [140], .null)), (139, (.iconst 0, 1, [], .null)), (140, (.ireturn, 1, [], .null)), (141, (.aload_n 0, 1, [], .null)), (142, (.ldc2_w 92, 3, [1300], .long 6906725)), (145, (.invokevirtual 202, 3, [1, 160, 1, 12, 1496, 38, 1498], .null)), (148, (.ifCond .eq 66, 3, [214], .null)), (151, (.aload_n 0, 1, [], .null)), (152, (.iconst 4, 1, [], .null)), (153, (.invokevirtual 206, 3, [1, 169, 1, 12, 1500, 39, 1502], .null)), (156, (.ifCond .eq 56, 3, [212], .null))]),
  (188, [(159, (.aload_n 0, 1, [], .null)), (160, (.bipush 8, 2, [], .null)), (162, (.iconst 0, 1, [], .null)), (163, (.bipush 99, 2, [], .null)), (165, (.invokevirtual 209, 3, [1, 165, 3, 12, 1511, 41, 1513], .null)), (168, (.ifCond .eq 44, 3, [212], .null)), (171, (.aload_n 0, 1, [], .null)), (172, (.bipush 9, 2, [], .null)), (174, (.iconst 1, 1, [], .null)), (175, (.aload_n 0, 1, [], .null)), (176, (.getfield 37, 3, [12, 7, 1331], .null)), (179, (.bipush 8, 2, [], .null)), (181, (.iaload, 1, [], .null)), (182, (.bipush 50, 2, [], .null)), (184, (.if_icmp .le 16, 3, [200], .null)), (187, (.bipush 100, 2, [], .null))]),
  (219, [(189, (.aload_n 0, 1, [], .null)), (190, (.getfield 37, 3, [12, 7, 1331], .null)), (193, (.bipush 8, 2, [], .null)), (195, (.iaload, 1, [], .null)), (196, (.isub, 1, [], .null)), (197, (.goto 5, 3, [202], .null)), (200, (.bipush 50, 2, [], .null)), (202, (.invokevirtual 209, 3, [1, 165, 3, 12, 1511, 41, 1513], .null)), (205, (.ifCond .eq 7, 3, [212], .null)), (208, (.iconst 1, 1, [], .null)), (209, (.goto 4, 3, [213], .null)), (212, (.iconst 0, 1, [], .null)), (213, (.ireturn, 1, [], .null)), (214, (.aload_n 0, 1, [], .null)), (215, (.ldc2_w 94, 3, [1301], .long 6518117)), (218, (.invokevirtual 202, 3, [1, 160, 1, 12, 1496, 38, 1498], .null))]),
  (249, [(221, (.ifCond .eq 54, 3, [275], .null)), (224, (.aload_n 0, 1, [], .null)), (225, (.getfield 37, 3, [12, 7, 1331], .null)), (228, (.iconst 3, 1, [], .null)), (229, (.iaload, 1, [], .null)), (230, (.bipush 6, 2, [], .null)), (232, (.if_icmp .ne 9, 3, [241], .null)), (235, (.aload_n 0, 1, [], .null)), (236, (.iconst 4, 1, [], .null)), (237, (.invokevirtual 171, 3, [1, 159, 1, 12, 1507, 40, 1509], .null)), (240, (.ireturn, 1, [], .null)), (241, (.aload_n 0, 1, [], .null)), (242, (.invokevirtual 174, 3, [1, 158, 0, 12, 1478, 35, 1480], .null)), (245, (.aload_n 0, 1, [], .null)), (246, (.bipush 24, 2, [], .null)), (248, (.aload_n 0, 1, [], .null))]),
  (273, [(249, (.getfield 37, 3, [12, 7, 1331], .null)), (252, (.iconst 3, 1, [], .null)), (253, (.iaload, 1, [], .null)), (254, (.iadd, 1, [], .null)), (255, (.invokevirtual 212, 3, [1, 167, 1, 12, 1522, 43, 1524], .null)), (258, (.ifCond .ne 5, 3, [263], .null)), (261, (.iconst 0, 1, [], .null)), (262, (.ireturn, 1, [], .null)), (263, (.aload_n 0, 1, [], .null)), (264, (.getfield 37, 3, [12, 7, 1331], .null)), (267, (.iconst 3, 1, [], .null)), (268, (.dup2, 1, [], .null)), (269, (.iaload, 1, [], .null)), (270, (.iconst 1, 1, [], .null)), (271, (.iadd, 1, [], .null)), (272, (.iastore, 1, [], .null))]),
  (305, [(273, (.iconst 1, 1, [], .null)), (274, (.ireturn, 1, [], .null)), (275, (.aload_n 0, 1, [], .null)), (276, (.ldc2_w 96, 3, [1302], .long 119182984441710)), (279, (.invokevirtual 202, 3, [1, 160, 1, 12, 1496, 38, 1498], .null)), (282, (.ifCond .eq 8, 3, [290], .null)), (285, (.aload_n 0, 1, [], .null)), (286, (.invokevirtual 215, 3, [1, 171, 0, 12, 1534, 46, 1536], .null)), (289, (.ireturn, 1, [], .null)), (290, (.aload_n 0, 1, [], .null)), (291, (.ldc2_w 98, 3, [1303], .long 32762566252455282)), (294, (.invokevirtual 202, 3, [1, 160, 1, 12, 1496, 38, 1498], .null)), (297, (.ifCond .eq 53, 3, [350], .null)), (300, (.aload_n 0, 1, [], .null)), (301, (.getfield 37, 3, [12, 7, 1331], .null)), (304, (.iconst 5, 1, [], .null))]),
  (330, [(305, (.iaload, 1, [], .null)), (306, (.iconst 4, 1, [], .null)), (307, (.if_icmp .ne 9, 3, [316], .null)), (310, (.aload_n 0, 1, [], .null)), (311, (.iconst 4, 1, [], .null)), (312, (.invokevirtual 171, 3, [1, 159, 1, 12, 1507, 40, 1509], .null)), (315, (.ireturn, 1, [], .null)), (316, (.aload_n 0, 1, [], .null)), (317, (.invokevirtual 174, 3, [1, 158, 0, 12, 1478, 35, 1480], .null)), (320, (.aload_n 0, 1, [], .null)), (321, (.bipush 38, 2, [], .null)), (323, (.aload_n 0, 1, [], .null)), (324, (.getfield 37, 3, [12, 7, 1331], .null)), (327, (.iconst 5, 1, [], .null)), (328, (.iaload, 1, [], .null)), (329, (.iadd, 1, [], .null))]),
  (352, [(330, (.invokevirtual 212, 3, [1, 167, 1, 12, 1522, 43, 1524], .null)), (333, (.ifCond .ne 5, 3, [338], .null)), (336, (.iconst 0, 1, [], .null)), (337, (.ireturn, 1, [], .null)), (338, (.aload_n 0, 1, [], .null)), (339, (.getfield 37, 3, [12, 7, 1331], .null)), (342, (.iconst 5, 1, [], .null)), (343, (.dup2, 1, [], .null)), (344, (.iaload, 1, [], .null)), (345, (.iconst 1, 1, [], .null)), (346, (.iadd, 1, [], .null)), (347, (.iastore, 1, [], .null)), (348, (.iconst 1, 1, [], .null)), (349, (.ireturn, 1, [], .null)), (350, (.aload_n 0, 1, [], .null)), (351, (.ldc2_w 100, 3, [1304], .long 1651466612))]),
  (382, [(354, (.invokevirtual 202, 3, [1, 160, 1, 12, 1496, 38, 1498], .null)), (357, (.ifCond .ne 9, 3, [366], .null)), (360, (.aload_n 0, 1, [], .null)), (361, (.iconst 1, 1, [], .null)), (362, (.invokevirtual 171, 3, [1, 159, 1, 12, 1507, 40, 1509], .null)), (365, (.ireturn, 1, [], .null)), (366, (.aload_n 0, 1, [], .null)), (367, (.getfield 37, 3, [12, 7, 1331], .null)), (370, (.bipush 6, 2, [], .null)), (372, (.iaload, 1, [], .null)), (373, (.istore_n 1, 1, [], .null)), (374, (.iload_n 1, 1, [], .null)), (375, (.bipush 6, 2, [], .null)), (377, (.if_icmp .ne 9, 3, [386], .null)), (380, (.aload_n 0, 1, [], .null)), (381, (.iconst 4, 1, [], .null))]),
  (409, [(382, (.invokevirtual 171, 3, [1, 159, 1, 12, 1507, 40, 1509], .null)), (385, (.ireturn, 1, [], .null)), (386, (.aload_n 0, 1, [], .null)), (387, (.dup, 1, [], .null)), (388, (.getfield 196, 3, [12, 20, 1344], .null)), (391, (.iconst 1, 1, [], .null)), (392, (.ior, 1, [], .null)), (393, (.putfield 196, 3, [12, 20, 1344, 0], .null)), (396, (.aload_n 0, 1, [], .null)), (397, (.invokevirtual 174, 3, [1, 158, 0, 12, 1478, 35, 1480], .null)), (400, (.aload_n 0, 1, [], .null)), (401, (.bipush 42, 2, [], .null)), (403, (.iload_n 1, 1, [], .null)), (404, (.iadd, 1, [], .null)), (405, (.invokevirtual 212, 3, [1, 167, 1, 12, 1522, 43, 1524], .null)), (408, (.ifCond .eq 23, 3, [431], .null))]),
  (434, [(411, (.aload_n 0, 1, [], .null)), (412, (.bipush 90, 2, [], .null)), (414, (.iload_n 1, 1, [], .null)), (415, (.iadd, 1, [], .null)), (416, (.iconst 0, 1, [], .null)), (417, (.aload_n 0, 1, [], .null)), (418, (.getfield 37, 3, [12, 7, 1331], .null)), (421, (.iconst 0, 1, [], .null)), (422, (.iaload, 1, [], .null)), (423, (.iconst 1, 1, [], .null)), (424, (.isub, 1, [], .null)), (425, (.invokevirtual 209, 3, [1, 165, 3, 12, 1511, 41, 1513], .null)), (428, (.ifCond .ne 5, 3, [433], .null)), (431, (.iconst 0, 1, [], .null)), (432, (.ireturn, 1, [], .null)), (433, (.aload_n 0, 1, [], .null))]),
  (446, [(434, (.getfield 37, 3, [12, 7, 1331], .null)), (437, (.bipush 6, 2, [], .null)), (439, (.dup2, 1, [], .null)), (440, (.iaload, 1, [], .null)), (441, (.iconst 1, 1, [], .null)), (442, (.iadd, 1, [], .null)), (443, (.iastore, 1, [], .null)), (444, (.iconst 1, 1, [], .null)), (445, (.ireturn, 1, [], .null))])])
def md_171 : ri_M × ri_T := ((yX12_readLesson, cX12_readLesson, 4, (some .boolean), RX12, 0, 0), [
  (25, [(0, (.aload_n 0, 1, [], .null)), (1, (.getfield 37, 3, [12, 7, 1331], .null)), (4, (.iconst 4, 1, [], .null)), (5, (.iaload, 1, [], .null)), (6, (.istore_n 1, 1, [], .null)), (7, (.iload_n 1, 1, [], .null)), (8, (.bipush 8, 2, [], .null)), (10, (.if_icmp .ne 9, 3, [19], .null)), (13, (.aload_n 0, 1, [], .null)), (14, (.iconst 4, 1, [], .null)), (15, (.invokevirtual 171, 3, [1, 159, 1, 12, 1507, 40, 1509], .null)), (18, (.ireturn, 1, [], .null)), (19, (.aload_n 0, 1, [], .null)), (20, (.dup, 1, [], .null)), (21, (.getfield 196, 3, [12, 20, 1344], .null)), (24, (.iconst 1, 1, [], .null))]),
  (53, [(25, (.ior, 1, [], .null)), (26, (.putfield 196, 3, [12, 20, 1344, 0], .null)), (29, (.aload_n 0, 1, [], .null)), (30, (.invokevirtual 174, 3, [1, 158, 0, 12, 1478, 35, 1480], .null)), (33, (.aload_n 0, 1, [], .null)), (34, (.bipush 30, 2, [], .null)), (36, (.iload_n 1, 1, [], .null)), (37, (.iadd, 1, [], .null)), (38, (.invokevirtual 212, 3, [1, 167, 1, 12, 1522, 43, 1524], .null)), (41, (.ifCond .eq 18, 3, [59], .null)), (44, (.aload_n 0, 1, [], .null)), (45, (.bipush 24, 2, [], .null)), (47, (.aload_n 0, 1, [], .null)), (48, (.getfield 37, 3, [12, 7, 1331], .null)), (51, (.iconst 3, 1, [], .null)), (52, (.iaload, 1, [], .null))]),
  (80, [(53, (.invokevirtual 218, 3, [1, 168, 2, 12, 1538, 47, 1540], .null)), (56, (.ifCond .ne 5, 3, [61], .null)), (59, (.iconst 0, 1, [], .null)), (60, (.ireturn, 1, [], .null)), (61, (.aload_n 0, 1, [], .null)), (62, (.getfield 37, 3, [12, 7, 1331], .null)), (65, (.bipush 10, 2, [], .null)), (67, (.iload_n 1, 1, [], .null)), (68, (.iadd, 1, [], .null)), (69, (.aload_n 0, 1, [], .null)), (70, (.getfield 181, 3, [12, 18, 1342], .null)), (73, (.iastore, 1, [], .null)), (74, (.aload_n 0, 1, [], .null)), (75, (.invokevirtual 174, 3, [1, 158, 0, 12, 1478, 35, 1480], .null)), (78, (.iconst 0, 1, [], .null)), (79, (.istore_n 2, 1, [], .null))]),
  (110, [(80, (.aload_n 0, 1, [], .null)), (81, (.bipush 59, 2, [], .null)), (83, (.invokevirtual 168, 3, [1, 161, 1, 12, 1542, 48, 1544], .null)), (86, (.ifCond .ne 92, 3, [178], .null)), (89, (.aload_n 0, 1, [], .null)), (90, (.getfield 145, 3, [12, 11, 1335], .null)), (93, (.iconst 2, 1, [], .null)), (94, (.if_icmp .eq 9, 3, [103], .null)), (97, (.aload_n 0, 1, [], .null)), (98, (.iconst 1, 1, [], .null)), (99, (.invokevirtual 171, 3, [1, 159, 1, 12, 1507, 40, 1509], .null)), (102, (.ireturn, 1, [], .null)), (103, (.iload_n 2, 1, [], .null)), (104, (.bipush 8, 2, [], .null)), (106, (.if_icmp .ne 9, 3, [115], .null)), (109, (.aload_n 0, 1, [], .null))]),
  (134, [(110, (.iconst 4, 1, [], .null)), (111, (.invokevirtual 171, 3, [1, 159, 1, 12, 1507, 40, 1509], .null)), (114, (.ireturn, 1, [], .null)), (115, (.aload_n 0, 1, [], .null)), (116, (.iconst 0, 1, [], .null)), (117, (.aload_n 0, 1, [], .null)), (118, (.getfield 37, 3, [12, 7, 1331], .null)), (121, (.iconst 0, 1, [], .null)), (122, (.iaload, 1, [], .null)), (123, (.iconst 1, 1, [], .null)), (124, (.isub, 1, [], .null)), (125, (.invokevirtual 184, 3, [1, 164, 2, 12, 1515, 42, 1517], .null)), (128, (.ifCond .ne 5, 3, [133], .null)), (131, (.iconst 0, 1, [], .null)), (132, (.ireturn, 1, [], .null)), (133, (.aload_n 0, 1, [], .null))]),
  (160, [(134, (.getfield 181, 3, [12, 18, 1342], .null)), (137, (.istore_n 3, 1, [], .null)), (138, (.aload_n 0, 1, [], .null)), (139, (.iconst 1, 1, [], .null)), (140, (.iconst 3, 1, [], .null)), (141, (.invokevirtual 184, 3, [1, 164, 2, 12, 1515, 42, 1517], .null)), (144, (.ifCond .ne 5, 3, [149], .null)), (147, (.iconst 0, 1, [], .null)), (148, (.ireturn, 1, [], .null)), (149, (.aload_n 0, 1, [], .null)), (150, (.getfield 37, 3, [12, 7, 1331], .null)), (153, (.bipush 26, 2, [], .null)), (155, (.bipush 8, 2, [], .null)), (157, (.iload_n 1, 1, [], .null)), (158, (.imul, 1, [], .null)), (159, (.iadd, 1, [], .null))]),
  (186, [(160, (.iload_n 2, 1, [], .null)), (161, (.iadd, 1, [], .null)), (162, (.bipush 10, 2, [], .null)), (164, (.iload_n 3, 1, [], .null)), (165, (.imul, 1, [], .null)), (166, (.aload_n 0, 1, [], .null)), (167, (.getfield 181, 3, [12, 18, 1342], .null)), (170, (.iadd, 1, [], .null)), (171, (.iastore, 1, [], .null)), (172, (.iinc 2 1, 3, [], .null)), (175, (.goto (-95), 3, [80], .null)), (178, (.aload_n 0, 1, [], .null)), (179, (.getfield 37, 3, [12, 7, 1331], .null)), (182, (.bipush 18, 2, [], .null)), (184, (.iload_n 1, 1, [], .null)), (185, (.iadd, 1, [], .null))]),
  (200, [(186, (.iload_n 2, 1, [], .null)), (187, (.iastore, 1, [], .null)), (188, (.aload_n 0, 1, [], .null)), (189, (.getfield 37, 3, [12, 7, 1331], .null)), (192, (.iconst 4, 1, [], .null)), (193, (.dup2, 1, [], .null)), (194, (.iaload, 1, [], .null)), (195, (.iconst 1, 1, [], .null)), (196, (.iadd, 1, [], .null)), (197, (.iastore, 1, [], .null)), (198, (.iconst 1, 1, [], .null)), (199, (.ireturn, 1, [], .null))])])
def md_172 : ri_M × ri_T := ((yX12_lake, cX12_lake, 2, (some .int), RX12, 0, 0), [
  (28, [(0, (.aload_n 0, 1, [], .null)), (1, (.iconst 0, 1, [], .null)), (2, (.putfield 1, 3, [12, 0, 1324, 0], .null)), (5, (.aload_n 0, 1, [], .null)), (6, (.sipush 900, 3, [], .null)), (9, (.invokevirtual 221, 3, [1, 148, 1, 12, 1474, 34, 1476], .null)), (12, (.aload_n 0, 1, [], .null)), (13, (.iconst 0, 1, [], .null)), (14, (.putfield 162, 3, [12, 15, 1339, 0], .null)), (17, (.aload_n 0, 1, [], .null)), (18, (.iconst 0, 1, [], .null)), (19, (.putfield 224, 3, [12, 19, 1343, 0], .null)), (22, (.aload_n 0, 1, [], .null)), (23, (.iconst 0, 1, [], .null)), (24, (.putfield 196, 3, [12, 20, 1344, 0], .null)), (27, (.aload_n 0, 1, [], .null))]),
  (61, [(28, (.invokevirtual 132, 3, [1, 154, 0, 12, 1320, 33, 1322], .null)), (31, (.aload_n 0, 1, [], .null)), (32, (.invokevirtual 174, 3, [1, 158, 0, 12, 1478, 35, 1480], .null)), (35, (.aload_n 0, 1, [], .null)), (36, (.getfield 145, 3, [12, 11, 1335], .null)), (39, (.ifCond .eq 39, 3, [78], .null)), (42, (.aload_n 0, 1, [], .null)), (43, (.invokevirtual 227, 3, [1, 170, 0, 12, 1492, 37, 1494], .null)), (46, (.ifCond .eq 12, 3, [58], .null)), (49, (.aload_n 0, 1, [], .null)), (50, (.bipush 59, 2, [], .null)), (52, (.invokevirtual 230, 3, [1, 162, 1, 12, 1546, 49, 1548], .null)), (55, (.ifCond .ne 10, 3, [65], .null)), (58, (.iconst (-1), 1, [], .null)), (59, (.aload_n 0, 1, [], .null)), (60, (.getfield 165, 3, [12, 16, 1340], .null))]),
  (89, [(63, (.isub, 1, [], .null)), (64, (.ireturn, 1, [], .null)), (65, (.aload_n 0, 1, [], .null)), (66, (.dup, 1, [], .null)), (67, (.getfield 224, 3, [12, 19, 1343], .null)), (70, (.iconst 1, 1, [], .null)), (71, (.iadd, 1, [], .null)), (72, (.putfield 224, 3, [12, 19, 1343, 0], .null)), (75, (.goto (-40), 3, [35], .null)), (78, (.iconst 0, 1, [], .null)), (79, (.istore_n 1, 1, [], .null)), (80, (.iload_n 1, 1, [], .null)), (81, (.sipush 355, 3, [], .null)), (84, (.if_icmp .ge 31, 3, [115], .null)), (87, (.aload_n 0, 1, [], .null)), (88, (.getfield 33, 3, [12, 6, 1330], .null))]),
  (118, [(91, (.iload_n 1, 1, [], .null)), (92, (.iload_n 1, 1, [], .null)), (93, (.bipush 96, 2, [], .null)), (95, (.if_icmp .ge 12, 3, [107], .null)), (98, (.aload_n 0, 1, [], .null)), (99, (.getfield 37, 3, [12, 7, 1331], .null)), (102, (.iload_n 1, 1, [], .null)), (103, (.iaload, 1, [], .null)), (104, (.goto 4, 3, [108], .null)), (107, (.iconst 0, 1, [], .null)), (108, (.iastore, 1, [], .null)), (109, (.iinc 1 1, 3, [], .null)), (112, (.goto (-32), 3, [80], .null)), (115, (.iconst 0, 1, [], .null)), (116, (.istore_n 1, 1, [], .null)), (117, (.iload_n 1, 1, [], .null))]),
  (146, [(118, (.bipush 24, 2, [], .null)), (120, (.if_icmp .ge 24, 3, [144], .null)), (123, (.aload_n 0, 1, [], .null)), (124, (.getfield 43, 3, [12, 9, 1333], .null)), (127, (.iload_n 1, 1, [], .null)), (128, (.aload_n 0, 1, [], .null)), (129, (.getfield 43, 3, [12, 9, 1333], .null)), (132, (.bipush 24, 2, [], .null)), (134, (.iload_n 1, 1, [], .null)), (135, (.iadd, 1, [], .null)), (136, (.laload, 1, [], .null)), (137, (.lastore, 1, [], .null)), (138, (.iinc 1 1, 3, [], .null)), (141, (.goto (-24), 3, [117], .null)), (144, (.iconst 0, 1, [], .null)), (145, (.istore_n 1, 1, [], .null))]),
  (172, [(146, (.iload_n 1, 1, [], .null)), (147, (.bipush 6, 2, [], .null)), (149, (.if_icmp .ge 28, 3, [177], .null)), (152, (.aload_n 0, 1, [], .null)), (153, (.getfield 33, 3, [12, 6, 1330], .null)), (156, (.sipush 156, 3, [], .null)), (159, (.iload_n 1, 1, [], .null)), (160, (.iadd, 1, [], .null)), (161, (.aload_n 0, 1, [], .null)), (162, (.getfield 33, 3, [12, 6, 1330], .null)), (165, (.bipush 90, 2, [], .null)), (167, (.iload_n 1, 1, [], .null)), (168, (.iadd, 1, [], .null)), (169, (.iaload, 1, [], .null)), (170, (.iastore, 1, [], .null)), (171, (.iinc 1 1, 3, [], .null))]),
  (187, [(174, (.goto (-28), 3, [146], .null)), (177, (.aload_n 0, 1, [], .null)), (178, (.iconst 0, 1, [], .null)), (179, (.putfield 233, 3, [12, 25, 1349, 0], .null)), (182, (.aload_n 0, 1, [], .null)), (183, (.getfield 224, 3, [12, 19, 1343], .null)), (186, (.ireturn, 1, [], .null))])])
def md_173 : ri_M × ri_T := ((yX12_fault, cX12_fault, 1, (some .int), RX12, 0, 0), [
  (10, [(0, (.aload_n 0, 1, [], .null)), (1, (.iconst 0, 1, [], .null)), (2, (.putfield 1, 3, [12, 0, 1324, 0], .null)), (5, (.aload_n 0, 1, [], .null)), (6, (.getfield 162, 3, [12, 15, 1339], .null)), (9, (.ireturn, 1, [], .null))])])
def md_174 : ri_M × ri_T := ((yX12_isCell, cX12_isCell, 2, (some .boolean), RX12, 0, 0), [
  (14, [(0, (.iload_n 1, 1, [], .null)), (1, (.iconst 0, 1, [], .null)), (2, (.aload_n 0, 1, [], .null)), (3, (.getfield 33, 3, [12, 6, 1330], .null)), (6, (.iconst 0, 1, [], .null)), (7, (.iaload, 1, [], .null)), (8, (.iconst 1, 1, [], .null)), (9, (.isub, 1, [], .null)), (10, (.invokestatic 177, 3, [3, 149, 3, 0, 1519, 1520], .null)), (13, (.ireturn, 1, [], .null))])])
def md_175 : ri_M × ri_T := ((yX12_isCue, cX12_isCue, 2, (some .boolean), RX12, 0, 0), [
  (14, [(0, (.iload_n 1, 1, [], .null)), (1, (.iconst 0, 1, [], .null)), (2, (.aload_n 0, 1, [], .null)), (3, (.getfield 33, 3, [12, 6, 1330], .null)), (6, (.iconst 3, 1, [], .null)), (7, (.iaload, 1, [], .null)), (8, (.iconst 1, 1, [], .null)), (9, (.isub, 1, [], .null)), (10, (.invokestatic 177, 3, [3, 149, 3, 0, 1519, 1520], .null)), (13, (.ireturn, 1, [], .null))])])
def md_176 : ri_M × ri_T := ((yX12_isLesson, cX12_isLesson, 2, (some .boolean), RX12, 0, 0), [
  (14, [(0, (.iload_n 1, 1, [], .null)), (1, (.iconst 0, 1, [], .null)), (2, (.aload_n 0, 1, [], .null)), (3, (.getfield 33, 3, [12, 6, 1330], .null)), (6, (.iconst 4, 1, [], .null)), (7, (.iaload, 1, [], .null)), (8, (.iconst 1, 1, [], .null)), (9, (.isub, 1, [], .null)), (10, (.invokestatic 177, 3, [3, 149, 3, 0, 1519, 1520], .null)), (13, (.ireturn, 1, [], .null))])])
def md_177 : ri_M × ri_T := ((yX12_isTeacher, cX12_isTeacher, 2, (some .boolean), RX12, 0, 0), [
  (14, [(0, (.iload_n 1, 1, [], .null)), (1, (.iconst 0, 1, [], .null)), (2, (.aload_n 0, 1, [], .null)), (3, (.getfield 33, 3, [12, 6, 1330], .null)), (6, (.iconst 5, 1, [], .null)), (7, (.iaload, 1, [], .null)), (8, (.iconst 1, 1, [], .null)), (9, (.isub, 1, [], .null)), (10, (.invokestatic 177, 3, [3, 149, 3, 0, 1519, 1520], .null)), (13, (.ireturn, 1, [], .null))])])
def md_178 : ri_M × ri_T := ((yX12_isBoat, cX12_isBoat, 2, (some .boolean), RX12, 0, 0), [
  (15, [(0, (.iload_n 1, 1, [], .null)), (1, (.iconst 0, 1, [], .null)), (2, (.aload_n 0, 1, [], .null)), (3, (.getfield 33, 3, [12, 6, 1330], .null)), (6, (.bipush 6, 2, [], .null)), (8, (.iaload, 1, [], .null)), (9, (.iconst 1, 1, [], .null)), (10, (.isub, 1, [], .null)), (11, (.invokestatic 177, 3, [3, 149, 3, 0, 1519, 1520], .null)), (14, (.ireturn, 1, [], .null))])])
def md_179 : ri_M × ri_T := ((yX12_isSet, cX12_isSet, 2, (some .boolean), RX12, 0, 0), [
  (22, [(0, (.iload_n 1, 1, [], .null)), (1, (.ifCond .lt 19, 3, [20], .null)), (4, (.iload_n 1, 1, [], .null)), (5, (.iconst 1, 1, [], .null)), (6, (.aload_n 0, 1, [], .null)), (7, (.getfield 33, 3, [12, 6, 1330], .null)), (10, (.iconst 4, 1, [], .null)), (11, (.iaload, 1, [], .null)), (12, (.ishl, 1, [], .null)), (13, (.if_icmp .ge 7, 3, [20], .null)), (16, (.iconst 1, 1, [], .null)), (17, (.goto 4, 3, [21], .null)), (20, (.iconst 0, 1, [], .null)), (21, (.ireturn, 1, [], .null))])])
def md_180 : ri_M × ri_T := ((yX12_isKnown, cX12_isKnown, 2, (some .boolean), RX12, 0, 0), [
  (24, [(0, (.aload_n 0, 1, [], .null)), (1, (.getfield 33, 3, [12, 6, 1330], .null)), (4, (.bipush 100, 2, [], .null)), (6, (.iload_n 1, 1, [], .null)), (7, (.iadd, 1, [], .null)), (8, (.iaload, 1, [], .null)), (9, (.aload_n 0, 1, [], .null)), (10, (.getfield 33, 3, [12, 6, 1330], .null)), (13, (.iconst 1, 1, [], .null)), (14, (.iaload, 1, [], .null)), (15, (.if_icmp .ne 7, 3, [22], .null)), (18, (.iconst 1, 1, [], .null)), (19, (.goto 4, 3, [23], .null)), (22, (.iconst 0, 1, [], .null)), (23, (.ireturn, 1, [], .null))])])
def md_181 : ri_M × ri_T := ((yX12_knownSet, cX12_knownSet, 3, (some .int), RX12, 0, 0), [
  (24, [(0, (.iconst 0, 1, [], .null)), (1, (.istore_n 1, 1, [], .null)), (2, (.iconst 0, 1, [], .null)), (3, (.istore_n 2, 1, [], .null)), (4, (.iload_n 2, 1, [], .null)), (5, (.aload_n 0, 1, [], .null)), (6, (.getfield 33, 3, [12, 6, 1330], .null)), (9, (.iconst 4, 1, [], .null)), (10, (.iaload, 1, [], .null)), (11, (.if_icmp .ge 27, 3, [38], .null)), (14, (.iload_n 1, 1, [], .null)), (15, (.aload_n 0, 1, [], .null)), (16, (.iload_n 2, 1, [], .null)), (17, (.invokevirtual 236, 3, [1, 180, 1, 12, 1566, 52, 1568], .null)), (20, (.ifCond .eq 9, 3, [29], .null)), (23, (.iconst 1, 1, [], .null))]),
  (40, [(24, (.iload_n 2, 1, [], .null)), (25, (.ishl, 1, [], .null)), (26, (.goto 4, 3, [30], .null)), (29, (.iconst 0, 1, [], .null)), (30, (.ior, 1, [], .null)), (31, (.istore_n 1, 1, [], .null)), (32, (.iinc 2 1, 3, [], .null)), (35, (.goto (-31), 3, [4], .null)), (38, (.iload_n 1, 1, [], .null)), (39, (.ireturn, 1, [], .null))])])
def md_182 : ri_M × ri_T := ((yX12_todaySet, cX12_todaySet, 3, (some .int), RX12, 0, 0), [
  (24, [(0, (.iconst 0, 1, [], .null)), (1, (.istore_n 1, 1, [], .null)), (2, (.iconst 0, 1, [], .null)), (3, (.istore_n 2, 1, [], .null)), (4, (.iload_n 2, 1, [], .null)), (5, (.aload_n 0, 1, [], .null)), (6, (.getfield 33, 3, [12, 6, 1330], .null)), (9, (.iconst 4, 1, [], .null)), (10, (.iaload, 1, [], .null)), (11, (.if_icmp .ge 32, 3, [43], .null)), (14, (.iload_n 1, 1, [], .null)), (15, (.aload_n 0, 1, [], .null)), (16, (.getfield 33, 3, [12, 6, 1330], .null)), (19, (.sipush 132, 3, [], .null)), (22, (.iload_n 2, 1, [], .null)), (23, (.iadd, 1, [], .null))]),
  (45, [(24, (.iaload, 1, [], .null)), (25, (.ifCond .le 9, 3, [34], .null)), (28, (.iconst 1, 1, [], .null)), (29, (.iload_n 2, 1, [], .null)), (30, (.ishl, 1, [], .null)), (31, (.goto 4, 3, [35], .null)), (34, (.iconst 0, 1, [], .null)), (35, (.ior, 1, [], .null)), (36, (.istore_n 1, 1, [], .null)), (37, (.iinc 2 1, 3, [], .null)), (40, (.goto (-36), 3, [4], .null)), (43, (.iload_n 1, 1, [], .null)), (44, (.ireturn, 1, [], .null))])])
def md_183 : ri_M × ri_T := ((yX12_isConfused, cX12_isConfused, 4, (some .boolean), RX12, 0, 0), [
  (24, [(0, (.iconst 0, 1, [], .null)), (1, (.istore_n 2, 1, [], .null)), (2, (.iconst 0, 1, [], .null)), (3, (.istore_n 3, 1, [], .null)), (4, (.iload_n 3, 1, [], .null)), (5, (.aload_n 0, 1, [], .null)), (6, (.getfield 33, 3, [12, 6, 1330], .null)), (9, (.iconst 4, 1, [], .null)), (10, (.iaload, 1, [], .null)), (11, (.if_icmp .ge 58, 3, [69], .null)), (14, (.iload_n 2, 1, [], .null)), (15, (.ifCond .ne 42, 3, [57], .null)), (18, (.iload_n 3, 1, [], .null)), (19, (.iload_n 1, 1, [], .null)), (20, (.if_icmp .eq 41, 3, [61], .null)), (23, (.aload_n 0, 1, [], .null))]),
  (52, [(24, (.getfield 33, 3, [12, 6, 1330], .null)), (27, (.sipush 132, 3, [], .null)), (30, (.iload_n 3, 1, [], .null)), (31, (.iadd, 1, [], .null)), (32, (.iaload, 1, [], .null)), (33, (.ifCond .le 28, 3, [61], .null)), (36, (.aload_n 0, 1, [], .null)), (37, (.getfield 33, 3, [12, 6, 1330], .null)), (40, (.bipush 10, 2, [], .null)), (42, (.iload_n 3, 1, [], .null)), (43, (.iadd, 1, [], .null)), (44, (.iaload, 1, [], .null)), (45, (.aload_n 0, 1, [], .null)), (46, (.getfield 33, 3, [12, 6, 1330], .null)), (49, (.bipush 10, 2, [], .null)), (51, (.iload_n 1, 1, [], .null))]),
  (82, [(52, (.iadd, 1, [], .null)), (53, (.iaload, 1, [], .null)), (54, (.if_icmp .ne 7, 3, [61], .null)), (57, (.iconst 1, 1, [], .null)), (58, (.goto 4, 3, [62], .null)), (61, (.iconst 0, 1, [], .null)), (62, (.istore_n 2, 1, [], .null)), (63, (.iinc 3 1, 3, [], .null)), (66, (.goto (-62), 3, [4], .null)), (69, (.iload_n 2, 1, [], .null)), (70, (.ifCond .eq 20, 3, [90], .null)), (73, (.aload_n 0, 1, [], .null)), (74, (.getfield 33, 3, [12, 6, 1330], .null)), (77, (.sipush 132, 3, [], .null)), (80, (.iload_n 1, 1, [], .null)), (81, (.iadd, 1, [], .null))]),
  (92, [(82, (.iaload, 1, [], .null)), (83, (.ifCond .le 7, 3, [90], .null)), (86, (.iconst 1, 1, [], .null)), (87, (.goto 4, 3, [91], .null)), (90, (.iconst 0, 1, [], .null)), (91, (.ireturn, 1, [], .null))])])
def md_184 : ri_M × ri_T := ((yX12_isIce, cX12_isIce, 2, (some .boolean), RX12, 0, 0), [
  (28, [(0, (.aload_n 0, 1, [], .null)), (1, (.getfield 33, 3, [12, 6, 1330], .null)), (4, (.bipush 8, 2, [], .null)), (6, (.iaload, 1, [], .null)), (7, (.ifCond .lt 41, 3, [48], .null)), (10, (.iload_n 1, 1, [], .null)), (11, (.bipush 100, 2, [], .null)), (13, (.irem, 1, [], .null)), (14, (.aload_n 0, 1, [], .null)), (15, (.getfield 33, 3, [12, 6, 1330], .null)), (18, (.bipush 8, 2, [], .null)), (20, (.iaload, 1, [], .null)), (21, (.aload_n 0, 1, [], .null)), (22, (.getfield 33, 3, [12, 6, 1330], .null)), (25, (.bipush 8, 2, [], .null)), (27, (.iaload, 1, [], .null))]),
  (50, [(28, (.aload_n 0, 1, [], .null)), (29, (.getfield 33, 3, [12, 6, 1330], .null)), (32, (.bipush 9, 2, [], .null)), (34, (.iaload, 1, [], .null)), (35, (.iadd, 1, [], .null)), (36, (.iconst 1, 1, [], .null)), (37, (.isub, 1, [], .null)), (38, (.invokestatic 177, 3, [3, 149, 3, 0, 1519, 1520], .null)), (41, (.ifCond .eq 7, 3, [48], .null)), (44, (.iconst 1, 1, [], .null)), (45, (.goto 4, 3, [49], .null)), (48, (.iconst 0, 1, [], .null)), (49, (.ireturn, 1, [], .null))])])
def md_185 : ri_M × ri_T := ((yX12_lesson, cX12_lesson, 3, (some .int), RX12, 0, 0), [
  (31, [(0, (.aload_n 0, 1, [], .null)), (1, (.aload_n 0, 1, [], .null)), (2, (.iload_n 1, 1, [], .null)), (3, (.invokevirtual 239, 3, [1, 176, 1, 12, 1558, 50, 1560], .null)), (6, (.ifCond .eq 13, 3, [19], .null)), (9, (.iload_n 2, 1, [], .null)), (10, (.iconst 0, 1, [], .null)), (11, (.bipush 7, 2, [], .null)), (13, (.invokestatic 177, 3, [3, 149, 3, 0, 1519, 1520], .null)), (16, (.ifCond .ne 7, 3, [23], .null)), (19, (.iconst 1, 1, [], .null)), (20, (.goto 4, 3, [24], .null)), (23, (.iconst 0, 1, [], .null)), (24, (.invokevirtual 242, 3, [1, 144, 1, 12, 1562, 51, 1564], .null)), (27, (.ifCond .eq 5, 3, [32], .null)), (30, (.iconst 0, 1, [], .null))]),
  (95, [(31, (.ireturn, 1, [], .null)), (32, (.iload_n 2, 1, [], .null)), (33, (.tableswitch 120 0 6 #[43, 53, 63, 73, 87, 97, 107], 43, [153, 76, 86, 96, 106, 120, 130, 140], .null)), (76, (.aload_n 0, 1, [], .null)), (77, (.getfield 33, 3, [12, 6, 1330], .null)), (80, (.bipush 10, 2, [], .null)), (82, (.iload_n 1, 1, [], .null)), (83, (.iadd, 1, [], .null)), (84, (.iaload, 1, [], .null)), (85, (.ireturn, 1, [], .null)), (86, (.aload_n 0, 1, [], .null)), (87, (.getfield 33, 3, [12, 6, 1330], .null)), (90, (.bipush 18, 2, [], .null)), (92, (.iload_n 1, 1, [], .null)), (93, (.iadd, 1, [], .null)), (94, (.iaload, 1, [], .null))]),
  (120, [(95, (.ireturn, 1, [], .null)), (96, (.aload_n 0, 1, [], .null)), (97, (.getfield 33, 3, [12, 6, 1330], .null)), (100, (.bipush 100, 2, [], .null)), (102, (.iload_n 1, 1, [], .null)), (103, (.iadd, 1, [], .null)), (104, (.iaload, 1, [], .null)), (105, (.ireturn, 1, [], .null)), (106, (.aload_n 0, 1, [], .null)), (107, (.iload_n 1, 1, [], .null)), (108, (.invokevirtual 236, 3, [1, 180, 1, 12, 1566, 52, 1568], .null)), (111, (.ifCond .eq 7, 3, [118], .null)), (114, (.iconst 1, 1, [], .null)), (115, (.goto 4, 3, [119], .null)), (118, (.iconst 0, 1, [], .null)), (119, (.ireturn, 1, [], .null))]),
  (142, [(120, (.aload_n 0, 1, [], .null)), (121, (.getfield 33, 3, [12, 6, 1330], .null)), (124, (.bipush 108, 2, [], .null)), (126, (.iload_n 1, 1, [], .null)), (127, (.iadd, 1, [], .null)), (128, (.iaload, 1, [], .null)), (129, (.ireturn, 1, [], .null)), (130, (.aload_n 0, 1, [], .null)), (131, (.getfield 33, 3, [12, 6, 1330], .null)), (134, (.bipush 124, 2, [], .null)), (136, (.iload_n 1, 1, [], .null)), (137, (.iadd, 1, [], .null)), (138, (.iaload, 1, [], .null)), (139, (.ireturn, 1, [], .null)), (140, (.aload_n 0, 1, [], .null)), (141, (.getfield 33, 3, [12, 6, 1330], .null))]),
  (164, [(144, (.sipush 132, 3, [], .null)), (147, (.iload_n 1, 1, [], .null)), (148, (.iadd, 1, [], .null)), (149, (.iaload, 1, [], .null)), (150, (.iconst 1, 1, [], .null)), (151, (.isub, 1, [], .null)), (152, (.ireturn, 1, [], .null)), (153, (.aload_n 0, 1, [], .null)), (154, (.getfield 33, 3, [12, 6, 1330], .null)), (157, (.sipush 140, 3, [], .null)), (160, (.iload_n 1, 1, [], .null)), (161, (.iadd, 1, [], .null)), (162, (.iaload, 1, [], .null)), (163, (.ireturn, 1, [], .null))])])
def md_186 : ri_M × ri_T := ((yX12_step, cX12_step, 3, (some .int), RX12, 0, 0), [
  (25, [(0, (.aload_n 0, 1, [], .null)), (1, (.iconst 0, 1, [], .null)), (2, (.putfield 1, 3, [12, 0, 1324, 0], .null)), (5, (.aload_n 0, 1, [], .null)), (6, (.iload_n 1, 1, [], .null)), (7, (.invokevirtual 239, 3, [1, 176, 1, 12, 1558, 50, 1560], .null)), (10, (.ifCond .eq 39, 3, [49], .null)), (13, (.iload_n 2, 1, [], .null)), (14, (.iconst 0, 1, [], .null)), (15, (.aload_n 0, 1, [], .null)), (16, (.getfield 33, 3, [12, 6, 1330], .null)), (19, (.bipush 18, 2, [], .null)), (21, (.iload_n 1, 1, [], .null)), (22, (.iadd, 1, [], .null)), (23, (.iaload, 1, [], .null)), (24, (.iconst 1, 1, [], .null))]),
  (51, [(25, (.isub, 1, [], .null)), (26, (.invokestatic 177, 3, [3, 149, 3, 0, 1519, 1520], .null)), (29, (.ifCond .eq 20, 3, [49], .null)), (32, (.aload_n 0, 1, [], .null)), (33, (.getfield 33, 3, [12, 6, 1330], .null)), (36, (.bipush 26, 2, [], .null)), (38, (.bipush 8, 2, [], .null)), (40, (.iload_n 1, 1, [], .null)), (41, (.imul, 1, [], .null)), (42, (.iadd, 1, [], .null)), (43, (.iload_n 2, 1, [], .null)), (44, (.iadd, 1, [], .null)), (45, (.iaload, 1, [], .null)), (46, (.goto 4, 3, [50], .null)), (49, (.iconst (-1), 1, [], .null)), (50, (.ireturn, 1, [], .null))])])
def md_187 : ri_M × ri_T := ((yX12_boat, cX12_boat, 3, (some .int), RX12, 0, 0), [
  (57, [(0, (.aload_n 0, 1, [], .null)), (1, (.iconst 0, 1, [], .null)), (2, (.putfield 1, 3, [12, 0, 1324, 0], .null)), (5, (.aload_n 0, 1, [], .null)), (6, (.iload_n 1, 1, [], .null)), (7, (.invokevirtual 246, 3, [1, 178, 1, 12, 1578, 53, 1580], .null)), (10, (.ifCond .ne 5, 3, [15], .null)), (13, (.iconst (-1), 1, [], .null)), (14, (.ireturn, 1, [], .null)), (15, (.iload_n 2, 1, [], .null)), (16, (.tableswitch 77 0 3 #[32, 43, 55, 66], 32, [93, 48, 59, 71, 82], .null)), (48, (.aload_n 0, 1, [], .null)), (49, (.getfield 33, 3, [12, 6, 1330], .null)), (52, (.sipush 156, 3, [], .null)), (55, (.iload_n 1, 1, [], .null)), (56, (.iadd, 1, [], .null))]),
  (80, [(57, (.iaload, 1, [], .null)), (58, (.ireturn, 1, [], .null)), (59, (.aload_n 0, 1, [], .null)), (60, (.getfield 33, 3, [12, 6, 1330], .null)), (63, (.bipush 99, 2, [], .null)), (65, (.iaload, 1, [], .null)), (66, (.iload_n 1, 1, [], .null)), (67, (.ishr, 1, [], .null)), (68, (.iconst 1, 1, [], .null)), (69, (.iand, 1, [], .null)), (70, (.ireturn, 1, [], .null)), (71, (.aload_n 0, 1, [], .null)), (72, (.getfield 33, 3, [12, 6, 1330], .null)), (75, (.sipush 162, 3, [], .null)), (78, (.iload_n 1, 1, [], .null)), (79, (.iadd, 1, [], .null))]),
  (95, [(80, (.iaload, 1, [], .null)), (81, (.ireturn, 1, [], .null)), (82, (.aload_n 0, 1, [], .null)), (83, (.getfield 33, 3, [12, 6, 1330], .null)), (86, (.sipush 168, 3, [], .null)), (89, (.iload_n 1, 1, [], .null)), (90, (.iadd, 1, [], .null)), (91, (.iaload, 1, [], .null)), (92, (.ireturn, 1, [], .null)), (93, (.iconst (-1), 1, [], .null)), (94, (.ireturn, 1, [], .null))])])
def md_188 : ri_M × ri_T := ((yX12_height, cX12_height, 2, (some .int), RX12, 0, 0), [
  (28, [(0, (.aload_n 0, 1, [], .null)), (1, (.iconst 0, 1, [], .null)), (2, (.putfield 1, 3, [12, 0, 1324, 0], .null)), (5, (.aload_n 0, 1, [], .null)), (6, (.iload_n 1, 1, [], .null)), (7, (.invokevirtual 249, 3, [1, 174, 1, 12, 1586, 54, 1588], .null)), (10, (.ifCond .eq 16, 3, [26], .null)), (13, (.aload_n 0, 1, [], .null)), (14, (.getfield 33, 3, [12, 6, 1330], .null)), (17, (.sipush 148, 3, [], .null)), (20, (.iload_n 1, 1, [], .null)), (21, (.iadd, 1, [], .null)), (22, (.iaload, 1, [], .null)), (23, (.goto 4, 3, [27], .null)), (26, (.iconst (-1), 1, [], .null)), (27, (.ireturn, 1, [], .null))])])
def md_189 : ri_M × ri_T := ((yX12_now, cX12_now, 4, (some .int), RX12, 0, 0), [
  (22, [(0, (.aload_n 0, 1, [], .null)), (1, (.iconst 0, 1, [], .null)), (2, (.putfield 1, 3, [12, 0, 1324, 0], .null)), (5, (.iconst 0, 1, [], .null)), (6, (.istore_n 2, 1, [], .null)), (7, (.iconst 0, 1, [], .null)), (8, (.istore_n 3, 1, [], .null)), (9, (.iload_n 3, 1, [], .null)), (10, (.aload_n 0, 1, [], .null)), (11, (.getfield 33, 3, [12, 6, 1330], .null)), (14, (.iconst 4, 1, [], .null)), (15, (.iaload, 1, [], .null)), (16, (.if_icmp .ge 27, 3, [43], .null)), (19, (.iload_n 2, 1, [], .null)), (20, (.aload_n 0, 1, [], .null)), (21, (.iload_n 3, 1, [], .null))]),
  (97, [(22, (.invokevirtual 252, 3, [1, 183, 1, 12, 1594, 55, 1596], .null)), (25, (.ifCond .eq 9, 3, [34], .null)), (28, (.iconst 1, 1, [], .null)), (29, (.iload_n 3, 1, [], .null)), (30, (.ishl, 1, [], .null)), (31, (.goto 4, 3, [35], .null)), (34, (.iconst 0, 1, [], .null)), (35, (.ior, 1, [], .null)), (36, (.istore_n 2, 1, [], .null)), (37, (.iinc 3 1, 3, [], .null)), (40, (.goto (-31), 3, [9], .null)), (43, (.iload_n 1, 1, [], .null)), (44, (.tableswitch 112 0 7 #[48, 56, 76, 81, 86, 88, 96, 104], 48, [156, 92, 100, 120, 125, 130, 132, 140, 148], .null)), (92, (.aload_n 0, 1, [], .null)), (93, (.getfield 33, 3, [12, 6, 1330], .null)), (96, (.bipush 96, 2, [], .null))]),
  (125, [(98, (.iaload, 1, [], .null)), (99, (.ireturn, 1, [], .null)), (100, (.aload_n 0, 1, [], .null)), (101, (.aload_n 0, 1, [], .null)), (102, (.getfield 33, 3, [12, 6, 1330], .null)), (105, (.bipush 96, 2, [], .null)), (107, (.iaload, 1, [], .null)), (108, (.invokevirtual 255, 3, [1, 184, 1, 12, 1598, 56, 1600], .null)), (111, (.ifCond .eq 7, 3, [118], .null)), (114, (.iconst 1, 1, [], .null)), (115, (.goto 4, 3, [119], .null)), (118, (.iconst 0, 1, [], .null)), (119, (.ireturn, 1, [], .null)), (120, (.aload_n 0, 1, [], .null)), (121, (.invokevirtual 258, 3, [1, 181, 0, 12, 1602, 57, 1604], .null)), (124, (.ireturn, 1, [], .null))]),
  (149, [(125, (.aload_n 0, 1, [], .null)), (126, (.invokevirtual 261, 3, [1, 182, 0, 12, 1606, 58, 1608], .null)), (129, (.ireturn, 1, [], .null)), (130, (.iload_n 2, 1, [], .null)), (131, (.ireturn, 1, [], .null)), (132, (.aload_n 0, 1, [], .null)), (133, (.getfield 33, 3, [12, 6, 1330], .null)), (136, (.bipush 97, 2, [], .null)), (138, (.iaload, 1, [], .null)), (139, (.ireturn, 1, [], .null)), (140, (.aload_n 0, 1, [], .null)), (141, (.getfield 33, 3, [12, 6, 1330], .null)), (144, (.bipush 99, 2, [], .null)), (146, (.iaload, 1, [], .null)), (147, (.ireturn, 1, [], .null)), (148, (.aload_n 0, 1, [], .null))]),
  (158, [(149, (.getfield 33, 3, [12, 6, 1330], .null)), (152, (.bipush 98, 2, [], .null)), (154, (.iaload, 1, [], .null)), (155, (.ireturn, 1, [], .null)), (156, (.iconst (-1), 1, [], .null)), (157, (.ireturn, 1, [], .null))])])
def md_190 : ri_M × ri_T := ((yX12_moves, cX12_moves, 6, none, RX12, 0, 0), [
  (27, [(0, (.aload_n 0, 1, [], .null)), (1, (.iconst 0, 1, [], .null)), (2, (.putfield 264, 3, [12, 22, 1346, 0], .null)), (5, (.iconst 0, 1, [], .null)), (6, (.istore_n 3, 1, [], .null)), (7, (.iload_n 3, 1, [], .null)), (8, (.bipush 8, 2, [], .null)), (10, (.if_icmp .ge 16, 3, [26], .null)), (13, (.aload_n 0, 1, [], .null)), (14, (.getfield 50, 3, [12, 21, 1345], .null)), (17, (.iload_n 3, 1, [], .null)), (18, (.iconst 0, 1, [], .null)), (19, (.iastore, 1, [], .null)), (20, (.iinc 3 1, 3, [], .null)), (23, (.goto (-16), 3, [7], .null)), (26, (.iconst 0, 1, [], .null))]),
  (55, [(27, (.istore_n 3, 1, [], .null)), (28, (.iload_n 3, 1, [], .null)), (29, (.bipush 8, 2, [], .null)), (31, (.if_icmp .ge 168, 3, [199], .null)), (34, (.iconst 0, 1, [], .null)), (35, (.istore 4, 2, [], .null)), (37, (.iload 4, 2, [], .null)), (39, (.aload_n 0, 1, [], .null)), (40, (.getfield 33, 3, [12, 6, 1330], .null)), (43, (.iconst 4, 1, [], .null)), (44, (.iaload, 1, [], .null)), (45, (.if_icmp .ge 94, 3, [139], .null)), (48, (.iload_n 2, 1, [], .null)), (49, (.iload 4, 2, [], .null)), (51, (.invokestatic 199, 3, [3, 150, 2, 0, 1504, 1505], .null)), (54, (.ifCond .eq 79, 3, [133], .null))]),
  (83, [(57, (.aload_n 0, 1, [], .null)), (58, (.getfield 33, 3, [12, 6, 1330], .null)), (61, (.bipush 10, 2, [], .null)), (63, (.iload 4, 2, [], .null)), (65, (.iadd, 1, [], .null)), (66, (.iaload, 1, [], .null)), (67, (.iload_n 1, 1, [], .null)), (68, (.if_icmp .ne 65, 3, [133], .null)), (71, (.iload_n 3, 1, [], .null)), (72, (.aload_n 0, 1, [], .null)), (73, (.getfield 33, 3, [12, 6, 1330], .null)), (76, (.bipush 18, 2, [], .null)), (78, (.iload 4, 2, [], .null)), (80, (.iadd, 1, [], .null)), (81, (.iaload, 1, [], .null)), (82, (.if_icmp .lt 6, 3, [88], .null))]),
  (112, [(85, (.goto 48, 3, [133], .null)), (88, (.aload_n 0, 1, [], .null)), (89, (.getfield 33, 3, [12, 6, 1330], .null)), (92, (.bipush 26, 2, [], .null)), (94, (.bipush 8, 2, [], .null)), (96, (.iload 4, 2, [], .null)), (98, (.imul, 1, [], .null)), (99, (.iadd, 1, [], .null)), (100, (.iload_n 3, 1, [], .null)), (101, (.iadd, 1, [], .null)), (102, (.iaload, 1, [], .null)), (103, (.istore 5, 2, [], .null)), (105, (.aload_n 0, 1, [], .null)), (106, (.getfield 50, 3, [12, 21, 1345], .null)), (109, (.iload 5, 2, [], .null)), (111, (.bipush 10, 2, [], .null))]),
  (137, [(113, (.idiv, 1, [], .null)), (114, (.aload_n 0, 1, [], .null)), (115, (.getfield 50, 3, [12, 21, 1345], .null)), (118, (.iload 5, 2, [], .null)), (120, (.bipush 10, 2, [], .null)), (122, (.idiv, 1, [], .null)), (123, (.iaload, 1, [], .null)), (124, (.iload 5, 2, [], .null)), (126, (.bipush 10, 2, [], .null)), (128, (.irem, 1, [], .null)), (129, (.iadd, 1, [], .null)), (130, (.iconst 4, 1, [], .null)), (131, (.irem, 1, [], .null)), (132, (.iastore, 1, [], .null)), (133, (.iinc 4 1, 3, [], .null)), (136, (.goto (-99), 3, [37], .null))]),
  (166, [(139, (.iload_n 3, 1, [], .null)), (140, (.aload_n 0, 1, [], .null)), (141, (.iload_n 1, 1, [], .null)), (142, (.iload_n 2, 1, [], .null)), (143, (.invokevirtual 267, 3, [1, 191, 2, 12, 1650, 67, 1652], .null)), (146, (.if_icmp .ge 47, 3, [193], .null)), (149, (.iconst 0, 1, [], .null)), (150, (.istore 4, 2, [], .null)), (152, (.iload 4, 2, [], .null)), (154, (.bipush 8, 2, [], .null)), (156, (.if_icmp .ge 37, 3, [193], .null)), (159, (.aload_n 0, 1, [], .null)), (160, (.dup, 1, [], .null)), (161, (.getfield 264, 3, [12, 22, 1346], .null)), (164, (.aload_n 0, 1, [], .null)), (165, (.getfield 50, 3, [12, 21, 1345], .null))]),
  (200, [(168, (.iload 4, 2, [], .null)), (170, (.iaload, 1, [], .null)), (171, (.iconst 2, 1, [], .null)), (172, (.if_icmp .lt 10, 3, [182], .null)), (175, (.iconst 1, 1, [], .null)), (176, (.iload 4, 2, [], .null)), (178, (.ishl, 1, [], .null)), (179, (.goto 4, 3, [183], .null)), (182, (.iconst 0, 1, [], .null)), (183, (.ior, 1, [], .null)), (184, (.putfield 264, 3, [12, 22, 1346, 0], .null)), (187, (.iinc 4 1, 3, [], .null)), (190, (.goto (-38), 3, [152], .null)), (193, (.iinc 3 1, 3, [], .null)), (196, (.goto (-168), 3, [28], .null)), (199, (.return_, 1, [], .null))])])
def md_191 : ri_M × ri_T := ((yX12_longest, cX12_longest, 5, (some .int), RX12, 0, 0), [
  (27, [(0, (.iconst 0, 1, [], .null)), (1, (.istore_n 3, 1, [], .null)), (2, (.iconst 0, 1, [], .null)), (3, (.istore 4, 2, [], .null)), (5, (.iload 4, 2, [], .null)), (7, (.aload_n 0, 1, [], .null)), (8, (.getfield 33, 3, [12, 6, 1330], .null)), (11, (.iconst 4, 1, [], .null)), (12, (.iaload, 1, [], .null)), (13, (.if_icmp .ge 47, 3, [60], .null)), (16, (.iload_n 2, 1, [], .null)), (17, (.iload 4, 2, [], .null)), (19, (.invokestatic 199, 3, [3, 150, 2, 0, 1504, 1505], .null)), (22, (.ifCond .eq 32, 3, [54], .null)), (25, (.aload_n 0, 1, [], .null)), (26, (.getfield 33, 3, [12, 6, 1330], .null))]),
  (55, [(29, (.bipush 10, 2, [], .null)), (31, (.iload 4, 2, [], .null)), (33, (.iadd, 1, [], .null)), (34, (.iaload, 1, [], .null)), (35, (.iload_n 1, 1, [], .null)), (36, (.if_icmp .ne 18, 3, [54], .null)), (39, (.iload_n 3, 1, [], .null)), (40, (.aload_n 0, 1, [], .null)), (41, (.getfield 33, 3, [12, 6, 1330], .null)), (44, (.bipush 18, 2, [], .null)), (46, (.iload 4, 2, [], .null)), (48, (.iadd, 1, [], .null)), (49, (.iaload, 1, [], .null)), (50, (.invokestatic 270, 3, [3, 151, 2, 0, 1654, 1655], .null)), (53, (.istore_n 3, 1, [], .null)), (54, (.iinc 4 1, 3, [], .null))]),
  (62, [(57, (.goto (-52), 3, [5], .null)), (60, (.iload_n 3, 1, [], .null)), (61, (.ireturn, 1, [], .null))])])
def md_192 : ri_M × ri_T := ((yX12_heightsOf, cX12_heightsOf, 5, (some .int), RX12, 0, 0), [
  (24, [(0, (.aload_n 0, 1, [], .null)), (1, (.iload_n 1, 1, [], .null)), (2, (.iload_n 2, 1, [], .null)), (3, (.invokevirtual 273, 3, [1, 190, 2, 12, 1646, 66, 1648], .null)), (6, (.iconst 0, 1, [], .null)), (7, (.istore_n 3, 1, [], .null)), (8, (.aload_n 0, 1, [], .null)), (9, (.getfield 33, 3, [12, 6, 1330], .null)), (12, (.iconst 0, 1, [], .null)), (13, (.iaload, 1, [], .null)), (14, (.iconst 1, 1, [], .null)), (15, (.isub, 1, [], .null)), (16, (.istore 4, 2, [], .null)), (18, (.iload 4, 2, [], .null)), (20, (.ifCond .lt 21, 3, [41], .null)), (23, (.iconst 4, 1, [], .null))]),
  (43, [(24, (.iload_n 3, 1, [], .null)), (25, (.imul, 1, [], .null)), (26, (.aload_n 0, 1, [], .null)), (27, (.getfield 50, 3, [12, 21, 1345], .null)), (30, (.iload 4, 2, [], .null)), (32, (.iaload, 1, [], .null)), (33, (.iadd, 1, [], .null)), (34, (.istore_n 3, 1, [], .null)), (35, (.iinc 4 (-1), 3, [], .null)), (38, (.goto (-20), 3, [18], .null)), (41, (.iload_n 3, 1, [], .null)), (42, (.ireturn, 1, [], .null))])])
def md_193 : ri_M × ri_T := ((yX12_wavesOf, cX12_wavesOf, 3, (some .int), RX12, 0, 0), [
  (11, [(0, (.aload_n 0, 1, [], .null)), (1, (.iload_n 1, 1, [], .null)), (2, (.iload_n 2, 1, [], .null)), (3, (.invokevirtual 273, 3, [1, 190, 2, 12, 1646, 66, 1648], .null)), (6, (.aload_n 0, 1, [], .null)), (7, (.getfield 264, 3, [12, 22, 1346], .null)), (10, (.ireturn, 1, [], .null))])])
def md_194 : ri_M × ri_T := ((yX12_whyShow, cX12_whyShow, 2, (some .int), RX12, 0, 0), [
  (29, [(0, (.aload_n 0, 1, [], .null)), (1, (.aload_n 0, 1, [], .null)), (2, (.getfield 33, 3, [12, 6, 1330], .null)), (5, (.bipush 96, 2, [], .null)), (7, (.iaload, 1, [], .null)), (8, (.invokevirtual 255, 3, [1, 184, 1, 12, 1598, 56, 1600], .null)), (11, (.ifCond .eq 7, 3, [18], .null)), (14, (.iconst 1, 1, [], .null)), (15, (.goto 33, 3, [48], .null)), (18, (.aload_n 0, 1, [], .null)), (19, (.getfield 33, 3, [12, 6, 1330], .null)), (22, (.sipush 132, 3, [], .null)), (25, (.iload_n 1, 1, [], .null)), (26, (.iadd, 1, [], .null)), (27, (.iaload, 1, [], .null)), (28, (.ifCond .le 7, 3, [35], .null))]),
  (49, [(31, (.iconst 2, 1, [], .null)), (32, (.goto 16, 3, [48], .null)), (35, (.aload_n 0, 1, [], .null)), (36, (.iload_n 1, 1, [], .null)), (37, (.invokevirtual 236, 3, [1, 180, 1, 12, 1566, 52, 1568], .null)), (40, (.ifCond .eq 7, 3, [47], .null)), (43, (.iconst 3, 1, [], .null)), (44, (.goto 4, 3, [48], .null)), (47, (.iconst 0, 1, [], .null)), (48, (.ireturn, 1, [], .null))])])
def md_195 : ri_M × ri_T := ((yX12_shows, cX12_shows, 3, none, RX12, 0, 0), [
  (23, [(0, (.aload_n 0, 1, [], .null)), (1, (.getfield 33, 3, [12, 6, 1330], .null)), (4, (.sipush 132, 3, [], .null)), (7, (.iload_n 2, 1, [], .null)), (8, (.iadd, 1, [], .null)), (9, (.iload_n 1, 1, [], .null)), (10, (.iconst 1, 1, [], .null)), (11, (.iadd, 1, [], .null)), (12, (.iastore, 1, [], .null)), (13, (.aload_n 0, 1, [], .null)), (14, (.getfield 33, 3, [12, 6, 1330], .null)), (17, (.bipush 98, 2, [], .null)), (19, (.dup2, 1, [], .null)), (20, (.iaload, 1, [], .null)), (21, (.iconst 1, 1, [], .null)), (22, (.iadd, 1, [], .null))]),
  (25, [(23, (.iastore, 1, [], .null)), (24, (.return_, 1, [], .null))])])
def md_196 : ri_M × ri_T := ((yX12_whyRing, cX12_whyRing, 1, (some .int), RX12, 0, 0), [
  (20, [(0, (.aload_n 0, 1, [], .null)), (1, (.aload_n 0, 1, [], .null)), (2, (.getfield 33, 3, [12, 6, 1330], .null)), (5, (.bipush 96, 2, [], .null)), (7, (.iaload, 1, [], .null)), (8, (.invokevirtual 255, 3, [1, 184, 1, 12, 1598, 56, 1600], .null)), (11, (.ifCond .eq 7, 3, [18], .null)), (14, (.iconst 1, 1, [], .null)), (15, (.goto 4, 3, [19], .null)), (18, (.iconst 0, 1, [], .null)), (19, (.ireturn, 1, [], .null))])])
def md_197 : ri_M × ri_T := ((yX12_rings, cX12_rings, 4, none, RX12, 0, 0), [
  (27, [(0, (.aload_n 0, 1, [], .null)), (1, (.invokevirtual 258, 3, [1, 181, 0, 12, 1602, 57, 1604], .null)), (4, (.istore_n 2, 1, [], .null)), (5, (.aload_n 0, 1, [], .null)), (6, (.iload_n 1, 1, [], .null)), (7, (.iload_n 2, 1, [], .null)), (8, (.invokevirtual 273, 3, [1, 190, 2, 12, 1646, 66, 1648], .null)), (11, (.iconst 0, 1, [], .null)), (12, (.istore_n 3, 1, [], .null)), (13, (.iload_n 3, 1, [], .null)), (14, (.bipush 8, 2, [], .null)), (16, (.if_icmp .ge 25, 3, [41], .null)), (19, (.aload_n 0, 1, [], .null)), (20, (.getfield 33, 3, [12, 6, 1330], .null)), (23, (.sipush 148, 3, [], .null)), (26, (.iload_n 3, 1, [], .null))]),
  (52, [(27, (.iadd, 1, [], .null)), (28, (.aload_n 0, 1, [], .null)), (29, (.getfield 50, 3, [12, 21, 1345], .null)), (32, (.iload_n 3, 1, [], .null)), (33, (.iaload, 1, [], .null)), (34, (.iastore, 1, [], .null)), (35, (.iinc 3 1, 3, [], .null)), (38, (.goto (-25), 3, [13], .null)), (41, (.iconst 0, 1, [], .null)), (42, (.istore_n 3, 1, [], .null)), (43, (.iload_n 3, 1, [], .null)), (44, (.aload_n 0, 1, [], .null)), (45, (.getfield 33, 3, [12, 6, 1330], .null)), (48, (.bipush 6, 2, [], .null)), (50, (.iaload, 1, [], .null)), (51, (.if_icmp .ge 59, 3, [110], .null))]),
  (85, [(54, (.aload_n 0, 1, [], .null)), (55, (.getfield 264, 3, [12, 22, 1346], .null)), (58, (.aload_n 0, 1, [], .null)), (59, (.getfield 33, 3, [12, 6, 1330], .null)), (62, (.sipush 156, 3, [], .null)), (65, (.iload_n 3, 1, [], .null)), (66, (.iadd, 1, [], .null)), (67, (.iaload, 1, [], .null)), (68, (.invokestatic 199, 3, [3, 150, 2, 0, 1504, 1505], .null)), (71, (.ifCond .ne 6, 3, [77], .null)), (74, (.goto 30, 3, [104], .null)), (77, (.aload_n 0, 1, [], .null)), (78, (.getfield 33, 3, [12, 6, 1330], .null)), (81, (.bipush 99, 2, [], .null)), (83, (.dup2, 1, [], .null)), (84, (.iaload, 1, [], .null))]),
  (105, [(85, (.iconst 1, 1, [], .null)), (86, (.iload_n 3, 1, [], .null)), (87, (.ishl, 1, [], .null)), (88, (.ior, 1, [], .null)), (89, (.iastore, 1, [], .null)), (90, (.aload_n 0, 1, [], .null)), (91, (.getfield 33, 3, [12, 6, 1330], .null)), (94, (.sipush 162, 3, [], .null)), (97, (.iload_n 3, 1, [], .null)), (98, (.iadd, 1, [], .null)), (99, (.dup2, 1, [], .null)), (100, (.iaload, 1, [], .null)), (101, (.iconst 1, 1, [], .null)), (102, (.iadd, 1, [], .null)), (103, (.iastore, 1, [], .null)), (104, (.iinc 3 1, 3, [], .null))]),
  (135, [(107, (.goto (-64), 3, [43], .null)), (110, (.iconst 0, 1, [], .null)), (111, (.istore_n 3, 1, [], .null)), (112, (.iload_n 3, 1, [], .null)), (113, (.aload_n 0, 1, [], .null)), (114, (.getfield 33, 3, [12, 6, 1330], .null)), (117, (.iconst 4, 1, [], .null)), (118, (.iaload, 1, [], .null)), (119, (.if_icmp .ge 62, 3, [181], .null)), (122, (.iload_n 2, 1, [], .null)), (123, (.iload_n 3, 1, [], .null)), (124, (.invokestatic 199, 3, [3, 150, 2, 0, 1504, 1505], .null)), (127, (.ifCond .eq 48, 3, [175], .null)), (130, (.aload_n 0, 1, [], .null)), (131, (.getfield 33, 3, [12, 6, 1330], .null)), (134, (.bipush 10, 2, [], .null))]),
  (159, [(136, (.iload_n 3, 1, [], .null)), (137, (.iadd, 1, [], .null)), (138, (.iaload, 1, [], .null)), (139, (.iload_n 1, 1, [], .null)), (140, (.if_icmp .eq 6, 3, [146], .null)), (143, (.goto 32, 3, [175], .null)), (146, (.aload_n 0, 1, [], .null)), (147, (.getfield 33, 3, [12, 6, 1330], .null)), (150, (.bipush 124, 2, [], .null)), (152, (.iload_n 3, 1, [], .null)), (153, (.iadd, 1, [], .null)), (154, (.dup2, 1, [], .null)), (155, (.iaload, 1, [], .null)), (156, (.iconst 1, 1, [], .null)), (157, (.iadd, 1, [], .null)), (158, (.iastore, 1, [], .null))]),
  (188, [(159, (.aload_n 0, 1, [], .null)), (160, (.getfield 33, 3, [12, 6, 1330], .null)), (163, (.bipush 116, 2, [], .null)), (165, (.iload_n 3, 1, [], .null)), (166, (.iadd, 1, [], .null)), (167, (.aload_n 0, 1, [], .null)), (168, (.getfield 33, 3, [12, 6, 1330], .null)), (171, (.bipush 96, 2, [], .null)), (173, (.iaload, 1, [], .null)), (174, (.iastore, 1, [], .null)), (175, (.iinc 3 1, 3, [], .null)), (178, (.goto (-66), 3, [112], .null)), (181, (.aload_n 0, 1, [], .null)), (182, (.getfield 33, 3, [12, 6, 1330], .null)), (185, (.bipush 97, 2, [], .null)), (187, (.dup2, 1, [], .null))]),
  (193, [(188, (.iaload, 1, [], .null)), (189, (.iconst 1, 1, [], .null)), (190, (.iadd, 1, [], .null)), (191, (.iastore, 1, [], .null)), (192, (.return_, 1, [], .null))])])
def md_198 : ri_M × ri_T := ((yX12_whySail, cX12_whySail, 3, (some .int), RX12, 0, 0), [
  (27, [(0, (.aload_n 0, 1, [], .null)), (1, (.getfield 33, 3, [12, 6, 1330], .null)), (4, (.sipush 156, 3, [], .null)), (7, (.iload_n 1, 1, [], .null)), (8, (.iadd, 1, [], .null)), (9, (.iaload, 1, [], .null)), (10, (.iload_n 2, 1, [], .null)), (11, (.if_icmp .ne 7, 3, [18], .null)), (14, (.iconst 1, 1, [], .null)), (15, (.goto 40, 3, [55], .null)), (18, (.aload_n 0, 1, [], .null)), (19, (.aload_n 0, 1, [], .null)), (20, (.getfield 33, 3, [12, 6, 1330], .null)), (23, (.bipush 96, 2, [], .null)), (25, (.iaload, 1, [], .null)), (26, (.invokevirtual 255, 3, [1, 184, 1, 12, 1598, 56, 1600], .null))]),
  (56, [(29, (.ifCond .eq 7, 3, [36], .null)), (32, (.iconst 2, 1, [], .null)), (33, (.goto 22, 3, [55], .null)), (36, (.aload_n 0, 1, [], .null)), (37, (.getfield 33, 3, [12, 6, 1330], .null)), (40, (.sipush 148, 3, [], .null)), (43, (.iload_n 2, 1, [], .null)), (44, (.iadd, 1, [], .null)), (45, (.iaload, 1, [], .null)), (46, (.iconst 3, 1, [], .null)), (47, (.if_icmp .ne 7, 3, [54], .null)), (50, (.iconst 3, 1, [], .null)), (51, (.goto 4, 3, [55], .null)), (54, (.iconst 0, 1, [], .null)), (55, (.ireturn, 1, [], .null))])])
end
section
def md_199 : ri_M × ri_T := ((yX12_sails, cX12_sails, 3, none, RX12, 0, 0), [
  (24, [(0, (.aload_n 0, 1, [], .null)), (1, (.getfield 33, 3, [12, 6, 1330], .null)), (4, (.sipush 156, 3, [], .null)), (7, (.iload_n 1, 1, [], .null)), (8, (.iadd, 1, [], .null)), (9, (.iload_n 2, 1, [], .null)), (10, (.iastore, 1, [], .null)), (11, (.aload_n 0, 1, [], .null)), (12, (.getfield 33, 3, [12, 6, 1330], .null)), (15, (.sipush 168, 3, [], .null)), (18, (.iload_n 1, 1, [], .null)), (19, (.iadd, 1, [], .null)), (20, (.dup2, 1, [], .null)), (21, (.iaload, 1, [], .null)), (22, (.iconst 1, 1, [], .null)), (23, (.iadd, 1, [], .null))]),
  (26, [(24, (.iastore, 1, [], .null)), (25, (.return_, 1, [], .null))])])
def md_200 : ri_M × ri_T := ((yX12_unlearns, cX12_unlearns, 2, none, RX12, 0, 0), [
  (21, [(0, (.aload_n 0, 1, [], .null)), (1, (.getfield 33, 3, [12, 6, 1330], .null)), (4, (.bipush 100, 2, [], .null)), (6, (.iload_n 1, 1, [], .null)), (7, (.iadd, 1, [], .null)), (8, (.iconst 0, 1, [], .null)), (9, (.iastore, 1, [], .null)), (10, (.aload_n 0, 1, [], .null)), (11, (.getfield 33, 3, [12, 6, 1330], .null)), (14, (.bipush 108, 2, [], .null)), (16, (.iload_n 1, 1, [], .null)), (17, (.iadd, 1, [], .null)), (18, (.iconst 0, 1, [], .null)), (19, (.iastore, 1, [], .null)), (20, (.return_, 1, [], .null))])])
def md_201 : ri_M × ri_T := ((yX12_isPractised, cX12_isPractised, 2, (some .boolean), RX12, 0, 0), [
  (28, [(0, (.aload_n 0, 1, [], .null)), (1, (.getfield 33, 3, [12, 6, 1330], .null)), (4, (.bipush 7, 2, [], .null)), (6, (.iaload, 1, [], .null)), (7, (.ifCond .le 19, 3, [26], .null)), (10, (.iload_n 1, 1, [], .null)), (11, (.aload_n 0, 1, [], .null)), (12, (.getfield 33, 3, [12, 6, 1330], .null)), (15, (.bipush 7, 2, [], .null)), (17, (.iaload, 1, [], .null)), (18, (.irem, 1, [], .null)), (19, (.ifCond .ne 7, 3, [26], .null)), (22, (.iconst 1, 1, [], .null)), (23, (.goto 4, 3, [27], .null)), (26, (.iconst 0, 1, [], .null)), (27, (.ireturn, 1, [], .null))])])
def md_202 : ri_M × ri_T := ((yX12_counts, cX12_counts, 2, none, RX12, 0, 0), [
  (29, [(0, (.aload_n 0, 1, [], .null)), (1, (.getfield 33, 3, [12, 6, 1330], .null)), (4, (.sipush 132, 3, [], .null)), (7, (.iload_n 1, 1, [], .null)), (8, (.iadd, 1, [], .null)), (9, (.iaload, 1, [], .null)), (10, (.ifCond .eq 11, 3, [21], .null)), (13, (.aload_n 0, 1, [], .null)), (14, (.iload_n 1, 1, [], .null)), (15, (.invokevirtual 252, 3, [1, 183, 1, 12, 1594, 55, 1596], .null)), (18, (.ifCond .eq 4, 3, [22], .null)), (21, (.return_, 1, [], .null)), (22, (.aload_n 0, 1, [], .null)), (23, (.getfield 33, 3, [12, 6, 1330], .null)), (26, (.bipush 100, 2, [], .null)), (28, (.iload_n 1, 1, [], .null))]),
  (48, [(29, (.iadd, 1, [], .null)), (30, (.dup2, 1, [], .null)), (31, (.iaload, 1, [], .null)), (32, (.iconst 1, 1, [], .null)), (33, (.iadd, 1, [], .null)), (34, (.iastore, 1, [], .null)), (35, (.aload_n 0, 1, [], .null)), (36, (.getfield 33, 3, [12, 6, 1330], .null)), (39, (.bipush 108, 2, [], .null)), (41, (.iload_n 1, 1, [], .null)), (42, (.iadd, 1, [], .null)), (43, (.dup2, 1, [], .null)), (44, (.iaload, 1, [], .null)), (45, (.iconst 1, 1, [], .null)), (46, (.aload_n 0, 1, [], .null)), (47, (.getfield 33, 3, [12, 6, 1330], .null))]),
  (74, [(50, (.sipush 132, 3, [], .null)), (53, (.iload_n 1, 1, [], .null)), (54, (.iadd, 1, [], .null)), (55, (.iaload, 1, [], .null)), (56, (.iconst 1, 1, [], .null)), (57, (.isub, 1, [], .null)), (58, (.ishl, 1, [], .null)), (59, (.ior, 1, [], .null)), (60, (.iastore, 1, [], .null)), (61, (.aload_n 0, 1, [], .null)), (62, (.iload_n 1, 1, [], .null)), (63, (.invokevirtual 236, 3, [1, 180, 1, 12, 1566, 52, 1568], .null)), (66, (.ifCond .eq 19, 3, [85], .null)), (69, (.aload_n 0, 1, [], .null)), (70, (.getfield 33, 3, [12, 6, 1330], .null)), (73, (.bipush 116, 2, [], .null))]),
  (86, [(75, (.iload_n 1, 1, [], .null)), (76, (.iadd, 1, [], .null)), (77, (.aload_n 0, 1, [], .null)), (78, (.getfield 33, 3, [12, 6, 1330], .null)), (81, (.bipush 96, 2, [], .null)), (83, (.iaload, 1, [], .null)), (84, (.iastore, 1, [], .null)), (85, (.return_, 1, [], .null))])])
def md_203 : ri_M × ri_T := ((yX12_day, cX12_day, 3, none, RX12, 0, 0), [
  (26, [(0, (.iconst 0, 1, [], .null)), (1, (.istore_n 1, 1, [], .null)), (2, (.iload_n 1, 1, [], .null)), (3, (.aload_n 0, 1, [], .null)), (4, (.getfield 33, 3, [12, 6, 1330], .null)), (7, (.iconst 4, 1, [], .null)), (8, (.iaload, 1, [], .null)), (9, (.if_icmp .ge 14, 3, [23], .null)), (12, (.aload_n 0, 1, [], .null)), (13, (.iload_n 1, 1, [], .null)), (14, (.invokevirtual 277, 3, [1, 202, 1, 12, 1681, 72, 1683], .null)), (17, (.iinc 1 1, 3, [], .null)), (20, (.goto (-18), 3, [2], .null)), (23, (.aload_n 0, 1, [], .null)), (24, (.aload_n 0, 1, [], .null)), (25, (.getfield 33, 3, [12, 6, 1330], .null))]),
  (58, [(28, (.bipush 96, 2, [], .null)), (30, (.iaload, 1, [], .null)), (31, (.iconst 1, 1, [], .null)), (32, (.iadd, 1, [], .null)), (33, (.invokevirtual 255, 3, [1, 184, 1, 12, 1598, 56, 1600], .null)), (36, (.ifCond .eq 21, 3, [57], .null)), (39, (.aload_n 0, 1, [], .null)), (40, (.aload_n 0, 1, [], .null)), (41, (.getfield 33, 3, [12, 6, 1330], .null)), (44, (.bipush 96, 2, [], .null)), (46, (.iaload, 1, [], .null)), (47, (.invokevirtual 255, 3, [1, 184, 1, 12, 1598, 56, 1600], .null)), (50, (.ifCond .ne 7, 3, [57], .null)), (53, (.iconst 1, 1, [], .null)), (54, (.goto 4, 3, [58], .null)), (57, (.iconst 0, 1, [], .null))]),
  (82, [(58, (.istore_n 1, 1, [], .null)), (59, (.iconst 0, 1, [], .null)), (60, (.istore_n 2, 1, [], .null)), (61, (.iload_n 2, 1, [], .null)), (62, (.aload_n 0, 1, [], .null)), (63, (.getfield 33, 3, [12, 6, 1330], .null)), (66, (.iconst 4, 1, [], .null)), (67, (.iaload, 1, [], .null)), (68, (.if_icmp .ge 118, 3, [186], .null)), (71, (.aload_n 0, 1, [], .null)), (72, (.getfield 33, 3, [12, 6, 1330], .null)), (75, (.sipush 132, 3, [], .null)), (78, (.iload_n 2, 1, [], .null)), (79, (.iadd, 1, [], .null)), (80, (.iconst 0, 1, [], .null)), (81, (.iastore, 1, [], .null))]),
  (111, [(82, (.aload_n 0, 1, [], .null)), (83, (.iload_n 2, 1, [], .null)), (84, (.invokevirtual 236, 3, [1, 180, 1, 12, 1566, 52, 1568], .null)), (87, (.ifCond .ne 15, 3, [102], .null)), (90, (.iload_n 1, 1, [], .null)), (91, (.ifCond .eq 89, 3, [180], .null)), (94, (.aload_n 0, 1, [], .null)), (95, (.iload_n 2, 1, [], .null)), (96, (.invokevirtual 280, 3, [1, 200, 1, 12, 1685, 73, 1687], .null)), (99, (.goto 81, 3, [180], .null)), (102, (.aload_n 0, 1, [], .null)), (103, (.aload_n 0, 1, [], .null)), (104, (.getfield 33, 3, [12, 6, 1330], .null)), (107, (.bipush 96, 2, [], .null)), (109, (.iaload, 1, [], .null)), (110, (.invokevirtual 283, 3, [1, 201, 1, 12, 1689, 74, 1691], .null))]),
  (140, [(113, (.ifCond .eq 19, 3, [132], .null)), (116, (.aload_n 0, 1, [], .null)), (117, (.getfield 33, 3, [12, 6, 1330], .null)), (120, (.bipush 116, 2, [], .null)), (122, (.iload_n 2, 1, [], .null)), (123, (.iadd, 1, [], .null)), (124, (.aload_n 0, 1, [], .null)), (125, (.getfield 33, 3, [12, 6, 1330], .null)), (128, (.bipush 96, 2, [], .null)), (130, (.iaload, 1, [], .null)), (131, (.iastore, 1, [], .null)), (132, (.aload_n 0, 1, [], .null)), (133, (.getfield 33, 3, [12, 6, 1330], .null)), (136, (.bipush 96, 2, [], .null)), (138, (.iaload, 1, [], .null)), (139, (.aload_n 0, 1, [], .null))]),
  (167, [(140, (.getfield 33, 3, [12, 6, 1330], .null)), (143, (.bipush 116, 2, [], .null)), (145, (.iload_n 2, 1, [], .null)), (146, (.iadd, 1, [], .null)), (147, (.iaload, 1, [], .null)), (148, (.isub, 1, [], .null)), (149, (.aload_n 0, 1, [], .null)), (150, (.getfield 33, 3, [12, 6, 1330], .null)), (153, (.iconst 2, 1, [], .null)), (154, (.iaload, 1, [], .null)), (155, (.if_icmp .ge 6, 3, [161], .null)), (158, (.goto 22, 3, [180], .null)), (161, (.aload_n 0, 1, [], .null)), (162, (.iload_n 2, 1, [], .null)), (163, (.invokevirtual 280, 3, [1, 200, 1, 12, 1685, 73, 1687], .null)), (166, (.aload_n 0, 1, [], .null))]),
  (192, [(167, (.getfield 33, 3, [12, 6, 1330], .null)), (170, (.sipush 140, 3, [], .null)), (173, (.iload_n 2, 1, [], .null)), (174, (.iadd, 1, [], .null)), (175, (.dup2, 1, [], .null)), (176, (.iaload, 1, [], .null)), (177, (.iconst 1, 1, [], .null)), (178, (.iadd, 1, [], .null)), (179, (.iastore, 1, [], .null)), (180, (.iinc 2 1, 3, [], .null)), (183, (.goto (-122), 3, [61], .null)), (186, (.iconst 0, 1, [], .null)), (187, (.istore_n 2, 1, [], .null)), (188, (.iload_n 2, 1, [], .null)), (189, (.bipush 8, 2, [], .null)), (191, (.if_icmp .ge 20, 3, [211], .null))]),
  (221, [(194, (.aload_n 0, 1, [], .null)), (195, (.getfield 33, 3, [12, 6, 1330], .null)), (198, (.sipush 148, 3, [], .null)), (201, (.iload_n 2, 1, [], .null)), (202, (.iadd, 1, [], .null)), (203, (.iconst 0, 1, [], .null)), (204, (.iastore, 1, [], .null)), (205, (.iinc 2 1, 3, [], .null)), (208, (.goto (-20), 3, [188], .null)), (211, (.aload_n 0, 1, [], .null)), (212, (.getfield 33, 3, [12, 6, 1330], .null)), (215, (.bipush 96, 2, [], .null)), (217, (.dup2, 1, [], .null)), (218, (.iaload, 1, [], .null)), (219, (.iconst 1, 1, [], .null)), (220, (.iadd, 1, [], .null))]),
  (223, [(221, (.iastore, 1, [], .null)), (222, (.return_, 1, [], .null))])])
def md_204 : ri_M × ri_T := ((yX12_goesOn, cX12_goesOn, 3, (some .int), RX12, 0, 0), [
  (31, [(0, (.iconst 0, 1, [], .null)), (1, (.istore_n 2, 1, [], .null)), (2, (.iload_n 2, 1, [], .null)), (3, (.iload_n 1, 1, [], .null)), (4, (.if_icmp .ge 26, 3, [30], .null)), (7, (.aload_n 0, 1, [], .null)), (8, (.getfield 33, 3, [12, 6, 1330], .null)), (11, (.bipush 96, 2, [], .null)), (13, (.iaload, 1, [], .null)), (14, (.sipush 600, 3, [], .null)), (17, (.if_icmp .ge 13, 3, [30], .null)), (20, (.aload_n 0, 1, [], .null)), (21, (.invokevirtual 286, 3, [1, 203, 0, 12, 1677, 71, 1679], .null)), (24, (.iinc 2 1, 3, [], .null)), (27, (.goto (-25), 3, [2], .null)), (30, (.iload_n 2, 1, [], .null))]),
  (32, [(31, (.ireturn, 1, [], .null))])])
def md_205 : ri_M × ri_T := ((yX12_show, cX12_show, 4, (some .int), RX12, 0, 0), [
  (26, [(0, (.aload_n 0, 1, [], .null)), (1, (.iconst 0, 1, [], .null)), (2, (.putfield 1, 3, [12, 0, 1324, 0], .null)), (5, (.aload_n 0, 1, [], .null)), (6, (.iload_n 1, 1, [], .null)), (7, (.invokevirtual 289, 3, [1, 177, 1, 12, 1614, 59, 1616], .null)), (10, (.ifCond .eq 11, 3, [21], .null)), (13, (.aload_n 0, 1, [], .null)), (14, (.iload_n 2, 1, [], .null)), (15, (.invokevirtual 239, 3, [1, 176, 1, 12, 1558, 50, 1560], .null)), (18, (.ifCond .ne 5, 3, [23], .null)), (21, (.iconst (-1), 1, [], .null)), (22, (.ireturn, 1, [], .null)), (23, (.aload_n 0, 1, [], .null)), (24, (.iload_n 2, 1, [], .null)), (25, (.invokevirtual 292, 3, [1, 194, 1, 12, 1618, 60, 1620], .null))]),
  (47, [(28, (.istore_n 3, 1, [], .null)), (29, (.iload_n 3, 1, [], .null)), (30, (.ifCond .le 5, 3, [35], .null)), (33, (.iload_n 3, 1, [], .null)), (34, (.ireturn, 1, [], .null)), (35, (.aload_n 0, 1, [], .null)), (36, (.invokevirtual 296, 3, [1, 209, 0, 12, 1622, 61, 1624], .null)), (39, (.aload_n 0, 1, [], .null)), (40, (.iload_n 1, 1, [], .null)), (41, (.iload_n 2, 1, [], .null)), (42, (.invokevirtual 299, 3, [1, 195, 2, 12, 1626, 62, 1628], .null)), (45, (.iconst 0, 1, [], .null)), (46, (.ireturn, 1, [], .null))])])
def md_206 : ri_M × ri_T := ((yX12_ring, cX12_ring, 2, (some .int), RX12, 0, 0), [
  (26, [(0, (.aload_n 0, 1, [], .null)), (1, (.iconst 0, 1, [], .null)), (2, (.putfield 1, 3, [12, 0, 1324, 0], .null)), (5, (.aload_n 0, 1, [], .null)), (6, (.iload_n 1, 1, [], .null)), (7, (.invokevirtual 302, 3, [1, 175, 1, 12, 1634, 63, 1636], .null)), (10, (.ifCond .ne 5, 3, [15], .null)), (13, (.iconst (-1), 1, [], .null)), (14, (.ireturn, 1, [], .null)), (15, (.aload_n 0, 1, [], .null)), (16, (.invokevirtual 305, 3, [1, 196, 0, 12, 1638, 64, 1640], .null)), (19, (.ifCond .le 5, 3, [24], .null)), (22, (.iconst 1, 1, [], .null)), (23, (.ireturn, 1, [], .null)), (24, (.aload_n 0, 1, [], .null)), (25, (.invokevirtual 296, 3, [1, 209, 0, 12, 1622, 61, 1624], .null))]),
  (35, [(28, (.aload_n 0, 1, [], .null)), (29, (.iload_n 1, 1, [], .null)), (30, (.invokevirtual 308, 3, [1, 197, 1, 12, 1642, 65, 1644], .null)), (33, (.iconst 0, 1, [], .null)), (34, (.ireturn, 1, [], .null))])])
def md_207 : ri_M × ri_T := ((yX12_sail, cX12_sail, 4, (some .int), RX12, 0, 0), [
  (26, [(0, (.aload_n 0, 1, [], .null)), (1, (.iconst 0, 1, [], .null)), (2, (.putfield 1, 3, [12, 0, 1324, 0], .null)), (5, (.aload_n 0, 1, [], .null)), (6, (.iload_n 1, 1, [], .null)), (7, (.invokevirtual 246, 3, [1, 178, 1, 12, 1578, 53, 1580], .null)), (10, (.ifCond .eq 11, 3, [21], .null)), (13, (.aload_n 0, 1, [], .null)), (14, (.iload_n 2, 1, [], .null)), (15, (.invokevirtual 249, 3, [1, 174, 1, 12, 1586, 54, 1588], .null)), (18, (.ifCond .ne 5, 3, [23], .null)), (21, (.iconst (-1), 1, [], .null)), (22, (.ireturn, 1, [], .null)), (23, (.aload_n 0, 1, [], .null)), (24, (.iload_n 1, 1, [], .null)), (25, (.iload_n 2, 1, [], .null))]),
  (48, [(26, (.invokevirtual 311, 3, [1, 198, 2, 12, 1661, 68, 1663], .null)), (29, (.istore_n 3, 1, [], .null)), (30, (.iload_n 3, 1, [], .null)), (31, (.ifCond .le 5, 3, [36], .null)), (34, (.iload_n 3, 1, [], .null)), (35, (.ireturn, 1, [], .null)), (36, (.aload_n 0, 1, [], .null)), (37, (.invokevirtual 296, 3, [1, 209, 0, 12, 1622, 61, 1624], .null)), (40, (.aload_n 0, 1, [], .null)), (41, (.iload_n 1, 1, [], .null)), (42, (.iload_n 2, 1, [], .null)), (43, (.invokevirtual 314, 3, [1, 199, 2, 12, 1665, 69, 1667], .null)), (46, (.iconst 0, 1, [], .null)), (47, (.ireturn, 1, [], .null))])])
def md_208 : ri_M × ri_T := ((yX12_days, cX12_days, 2, (some .int), RX12, 0, 0), [
  (28, [(0, (.aload_n 0, 1, [], .null)), (1, (.iconst 0, 1, [], .null)), (2, (.putfield 1, 3, [12, 0, 1324, 0], .null)), (5, (.iload_n 1, 1, [], .null)), (6, (.iconst 1, 1, [], .null)), (7, (.bipush 60, 2, [], .null)), (9, (.invokestatic 177, 3, [3, 149, 3, 0, 1519, 1520], .null)), (12, (.ifCond .ne 5, 3, [17], .null)), (15, (.iconst (-1), 1, [], .null)), (16, (.ireturn, 1, [], .null)), (17, (.aload_n 0, 1, [], .null)), (18, (.getfield 33, 3, [12, 6, 1330], .null)), (21, (.bipush 96, 2, [], .null)), (23, (.iaload, 1, [], .null)), (24, (.sipush 600, 3, [], .null)), (27, (.if_icmp .ne 5, 3, [32], .null))]),
  (42, [(30, (.iconst 0, 1, [], .null)), (31, (.ireturn, 1, [], .null)), (32, (.aload_n 0, 1, [], .null)), (33, (.invokevirtual 296, 3, [1, 209, 0, 12, 1622, 61, 1624], .null)), (36, (.aload_n 0, 1, [], .null)), (37, (.iload_n 1, 1, [], .null)), (38, (.invokevirtual 317, 3, [1, 204, 1, 12, 1673, 70, 1675], .null)), (41, (.ireturn, 1, [], .null))])])
def md_209 : ri_M × ri_T := ((yX12_keep, cX12_keep, 2, none, RX12, 0, 0), [
  (29, [(0, (.aload_n 0, 1, [], .null)), (1, (.getfield 233, 3, [12, 25, 1349], .null)), (4, (.bipush 8, 2, [], .null)), (6, (.if_icmp .ne 39, 3, [45], .null)), (9, (.iconst 0, 1, [], .null)), (10, (.istore_n 1, 1, [], .null)), (11, (.iload_n 1, 1, [], .null)), (12, (.sipush 546, 3, [], .null)), (15, (.if_icmp .ge 24, 3, [39], .null)), (18, (.aload_n 0, 1, [], .null)), (19, (.getfield 53, 3, [12, 23, 1347], .null)), (22, (.iload_n 1, 1, [], .null)), (23, (.aload_n 0, 1, [], .null)), (24, (.getfield 53, 3, [12, 23, 1347], .null)), (27, (.iload_n 1, 1, [], .null)), (28, (.bipush 78, 2, [], .null))]),
  (58, [(30, (.iadd, 1, [], .null)), (31, (.iaload, 1, [], .null)), (32, (.iastore, 1, [], .null)), (33, (.iinc 1 1, 3, [], .null)), (36, (.goto (-25), 3, [11], .null)), (39, (.aload_n 0, 1, [], .null)), (40, (.bipush 7, 2, [], .null)), (42, (.putfield 233, 3, [12, 25, 1349, 0], .null)), (45, (.iconst 0, 1, [], .null)), (46, (.istore_n 1, 1, [], .null)), (47, (.iload_n 1, 1, [], .null)), (48, (.bipush 78, 2, [], .null)), (50, (.if_icmp .ge 32, 3, [82], .null)), (53, (.aload_n 0, 1, [], .null)), (54, (.getfield 53, 3, [12, 23, 1347], .null)), (57, (.bipush 78, 2, [], .null))]),
  (84, [(59, (.aload_n 0, 1, [], .null)), (60, (.getfield 233, 3, [12, 25, 1349], .null)), (63, (.imul, 1, [], .null)), (64, (.iload_n 1, 1, [], .null)), (65, (.iadd, 1, [], .null)), (66, (.aload_n 0, 1, [], .null)), (67, (.getfield 33, 3, [12, 6, 1330], .null)), (70, (.bipush 96, 2, [], .null)), (72, (.iload_n 1, 1, [], .null)), (73, (.iadd, 1, [], .null)), (74, (.iaload, 1, [], .null)), (75, (.iastore, 1, [], .null)), (76, (.iinc 1 1, 3, [], .null)), (79, (.goto (-32), 3, [47], .null)), (82, (.aload_n 0, 1, [], .null)), (83, (.dup, 1, [], .null))]),
  (93, [(84, (.getfield 233, 3, [12, 25, 1349], .null)), (87, (.iconst 1, 1, [], .null)), (88, (.iadd, 1, [], .null)), (89, (.putfield 233, 3, [12, 25, 1349, 0], .null)), (92, (.return_, 1, [], .null))])])
def md_210 : ri_M × ri_T := ((yX12_undo, cX12_undo, 2, (some .int), RX12, 0, 0), [
  (26, [(0, (.aload_n 0, 1, [], .null)), (1, (.iconst 0, 1, [], .null)), (2, (.putfield 1, 3, [12, 0, 1324, 0], .null)), (5, (.aload_n 0, 1, [], .null)), (6, (.getfield 233, 3, [12, 25, 1349], .null)), (9, (.ifCond .ne 5, 3, [14], .null)), (12, (.iconst (-1), 1, [], .null)), (13, (.ireturn, 1, [], .null)), (14, (.aload_n 0, 1, [], .null)), (15, (.dup, 1, [], .null)), (16, (.getfield 233, 3, [12, 25, 1349], .null)), (19, (.iconst 1, 1, [], .null)), (20, (.isub, 1, [], .null)), (21, (.putfield 233, 3, [12, 25, 1349, 0], .null)), (24, (.iconst 0, 1, [], .null)), (25, (.istore_n 1, 1, [], .null))]),
  (53, [(26, (.iload_n 1, 1, [], .null)), (27, (.bipush 78, 2, [], .null)), (29, (.if_icmp .ge 32, 3, [61], .null)), (32, (.aload_n 0, 1, [], .null)), (33, (.getfield 33, 3, [12, 6, 1330], .null)), (36, (.bipush 96, 2, [], .null)), (38, (.iload_n 1, 1, [], .null)), (39, (.iadd, 1, [], .null)), (40, (.aload_n 0, 1, [], .null)), (41, (.getfield 53, 3, [12, 23, 1347], .null)), (44, (.bipush 78, 2, [], .null)), (46, (.aload_n 0, 1, [], .null)), (47, (.getfield 233, 3, [12, 25, 1349], .null)), (50, (.imul, 1, [], .null)), (51, (.iload_n 1, 1, [], .null)), (52, (.iadd, 1, [], .null))]),
  (66, [(53, (.iaload, 1, [], .null)), (54, (.iastore, 1, [], .null)), (55, (.iinc 1 1, 3, [], .null)), (58, (.goto (-32), 3, [26], .null)), (61, (.aload_n 0, 1, [], .null)), (62, (.getfield 233, 3, [12, 25, 1349], .null)), (65, (.ireturn, 1, [], .null))])])
def md_211 : ri_M × ri_T := ((yX12_tries, cX12_tries, 2, none, RX12, 0, 0), [
  (24, [(0, (.iconst 0, 1, [], .null)), (1, (.istore_n 1, 1, [], .null)), (2, (.iload_n 1, 1, [], .null)), (3, (.bipush 78, 2, [], .null)), (5, (.if_icmp .ge 24, 3, [29], .null)), (8, (.aload_n 0, 1, [], .null)), (9, (.getfield 56, 3, [12, 24, 1348], .null)), (12, (.iload_n 1, 1, [], .null)), (13, (.aload_n 0, 1, [], .null)), (14, (.getfield 33, 3, [12, 6, 1330], .null)), (17, (.bipush 96, 2, [], .null)), (19, (.iload_n 1, 1, [], .null)), (20, (.iadd, 1, [], .null)), (21, (.iaload, 1, [], .null)), (22, (.iastore, 1, [], .null)), (23, (.iinc 1 1, 3, [], .null))]),
  (30, [(26, (.goto (-24), 3, [2], .null)), (29, (.return_, 1, [], .null))])])
def md_212 : ri_M × ri_T := ((yX12_back, cX12_back, 2, none, RX12, 0, 0), [
  (24, [(0, (.iconst 0, 1, [], .null)), (1, (.istore_n 1, 1, [], .null)), (2, (.iload_n 1, 1, [], .null)), (3, (.bipush 78, 2, [], .null)), (5, (.if_icmp .ge 24, 3, [29], .null)), (8, (.aload_n 0, 1, [], .null)), (9, (.getfield 33, 3, [12, 6, 1330], .null)), (12, (.bipush 96, 2, [], .null)), (14, (.iload_n 1, 1, [], .null)), (15, (.iadd, 1, [], .null)), (16, (.aload_n 0, 1, [], .null)), (17, (.getfield 56, 3, [12, 24, 1348], .null)), (20, (.iload_n 1, 1, [], .null)), (21, (.iaload, 1, [], .null)), (22, (.iastore, 1, [], .null)), (23, (.iinc 1 1, 3, [], .null))]),
  (30, [(26, (.goto (-24), 3, [2], .null)), (29, (.return_, 1, [], .null))])])
def md_213 : ri_M × ri_T := ((yX12_does, cX12_does, 3, (some .int), RX12, 0, 0), [
  (28, [(0, (.aload_n 0, 1, [], .null)), (1, (.iconst 0, 1, [], .null)), (2, (.putfield 1, 3, [12, 0, 1324, 0], .null)), (5, (.aload_n 0, 1, [], .null)), (6, (.iload_n 1, 1, [], .null)), (7, (.invokevirtual 302, 3, [1, 175, 1, 12, 1634, 63, 1636], .null)), (10, (.ifCond .eq 20, 3, [30], .null)), (13, (.aload_n 0, 1, [], .null)), (14, (.iload_n 2, 1, [], .null)), (15, (.invokevirtual 320, 3, [1, 179, 1, 12, 1701, 75, 1703], .null)), (18, (.ifCond .eq 12, 3, [30], .null)), (21, (.aload_n 0, 1, [], .null)), (22, (.iload_n 1, 1, [], .null)), (23, (.iload_n 2, 1, [], .null)), (24, (.invokevirtual 323, 3, [1, 192, 2, 12, 1705, 76, 1707], .null)), (27, (.goto 4, 3, [31], .null))]),
  (32, [(30, (.iconst (-1), 1, [], .null)), (31, (.ireturn, 1, [], .null))])])
def md_214 : ri_M × ri_T := ((yX12_waves, cX12_waves, 3, (some .int), RX12, 0, 0), [
  (28, [(0, (.aload_n 0, 1, [], .null)), (1, (.iconst 0, 1, [], .null)), (2, (.putfield 1, 3, [12, 0, 1324, 0], .null)), (5, (.aload_n 0, 1, [], .null)), (6, (.iload_n 1, 1, [], .null)), (7, (.invokevirtual 302, 3, [1, 175, 1, 12, 1634, 63, 1636], .null)), (10, (.ifCond .eq 20, 3, [30], .null)), (13, (.aload_n 0, 1, [], .null)), (14, (.iload_n 2, 1, [], .null)), (15, (.invokevirtual 320, 3, [1, 179, 1, 12, 1701, 75, 1703], .null)), (18, (.ifCond .eq 12, 3, [30], .null)), (21, (.aload_n 0, 1, [], .null)), (22, (.iload_n 1, 1, [], .null)), (23, (.iload_n 2, 1, [], .null)), (24, (.invokevirtual 326, 3, [1, 193, 2, 12, 1713, 77, 1715], .null)), (27, (.goto 4, 3, [31], .null))]),
  (32, [(30, (.iconst (-1), 1, [], .null)), (31, (.ireturn, 1, [], .null))])])
def md_215 : ri_M × ri_T := ((yX12_dry, cX12_dry, 4, (some .int), RX12, 0, 0), [
  (22, [(0, (.aload_n 0, 1, [], .null)), (1, (.iconst 0, 1, [], .null)), (2, (.putfield 1, 3, [12, 0, 1324, 0], .null)), (5, (.aload_n 0, 1, [], .null)), (6, (.iload_n 1, 1, [], .null)), (7, (.invokevirtual 249, 3, [1, 174, 1, 12, 1586, 54, 1588], .null)), (10, (.ifCond .ne 5, 3, [15], .null)), (13, (.iconst (-1), 1, [], .null)), (14, (.ireturn, 1, [], .null)), (15, (.iconst 0, 1, [], .null)), (16, (.istore_n 2, 1, [], .null)), (17, (.iconst 0, 1, [], .null)), (18, (.istore_n 3, 1, [], .null)), (19, (.iload_n 3, 1, [], .null)), (20, (.aload_n 0, 1, [], .null)), (21, (.getfield 33, 3, [12, 6, 1330], .null))]),
  (52, [(24, (.iconst 3, 1, [], .null)), (25, (.iaload, 1, [], .null)), (26, (.if_icmp .ge 35, 3, [61], .null)), (29, (.iload_n 2, 1, [], .null)), (30, (.aload_n 0, 1, [], .null)), (31, (.iload_n 3, 1, [], .null)), (32, (.aload_n 0, 1, [], .null)), (33, (.invokevirtual 258, 3, [1, 181, 0, 12, 1602, 57, 1604], .null)), (36, (.invokevirtual 326, 3, [1, 193, 2, 12, 1713, 77, 1715], .null)), (39, (.iload_n 1, 1, [], .null)), (40, (.invokestatic 199, 3, [3, 150, 2, 0, 1504, 1505], .null)), (43, (.ifCond .eq 7, 3, [50], .null)), (46, (.iconst 0, 1, [], .null)), (47, (.goto 6, 3, [53], .null)), (50, (.iconst 1, 1, [], .null)), (51, (.iload_n 3, 1, [], .null))]),
  (63, [(52, (.ishl, 1, [], .null)), (53, (.ior, 1, [], .null)), (54, (.istore_n 2, 1, [], .null)), (55, (.iinc 3 1, 3, [], .null)), (58, (.goto (-39), 3, [19], .null)), (61, (.iload_n 2, 1, [], .null)), (62, (.ireturn, 1, [], .null))])])
def md_216 : ri_M × ri_T := ((yX12_havens, cX12_havens, 4, (some .int), RX12, 0, 0), [
  (24, [(0, (.aload_n 0, 1, [], .null)), (1, (.iconst 0, 1, [], .null)), (2, (.putfield 1, 3, [12, 0, 1324, 0], .null)), (5, (.iload_n 1, 1, [], .null)), (6, (.ifCond .lt 15, 3, [21], .null)), (9, (.iload_n 1, 1, [], .null)), (10, (.iconst 1, 1, [], .null)), (11, (.aload_n 0, 1, [], .null)), (12, (.getfield 33, 3, [12, 6, 1330], .null)), (15, (.iconst 3, 1, [], .null)), (16, (.iaload, 1, [], .null)), (17, (.ishl, 1, [], .null)), (18, (.if_icmp .lt 5, 3, [23], .null)), (21, (.iconst (-1), 1, [], .null)), (22, (.ireturn, 1, [], .null)), (23, (.iconst 1, 1, [], .null))]),
  (44, [(24, (.aload_n 0, 1, [], .null)), (25, (.getfield 33, 3, [12, 6, 1330], .null)), (28, (.iconst 0, 1, [], .null)), (29, (.iaload, 1, [], .null)), (30, (.ishl, 1, [], .null)), (31, (.iconst 1, 1, [], .null)), (32, (.isub, 1, [], .null)), (33, (.istore_n 2, 1, [], .null)), (34, (.iconst 0, 1, [], .null)), (35, (.istore_n 3, 1, [], .null)), (36, (.iload_n 3, 1, [], .null)), (37, (.aload_n 0, 1, [], .null)), (38, (.getfield 33, 3, [12, 6, 1330], .null)), (41, (.iconst 3, 1, [], .null)), (42, (.iaload, 1, [], .null)), (43, (.if_icmp .ge 31, 3, [74], .null))]),
  (72, [(46, (.iload_n 1, 1, [], .null)), (47, (.iload_n 3, 1, [], .null)), (48, (.invokestatic 199, 3, [3, 150, 2, 0, 1504, 1505], .null)), (51, (.ifCond .eq 17, 3, [68], .null)), (54, (.iload_n 2, 1, [], .null)), (55, (.aload_n 0, 1, [], .null)), (56, (.iload_n 3, 1, [], .null)), (57, (.aload_n 0, 1, [], .null)), (58, (.invokevirtual 258, 3, [1, 181, 0, 12, 1602, 57, 1604], .null)), (61, (.invokevirtual 326, 3, [1, 193, 2, 12, 1713, 77, 1715], .null)), (64, (.iconst (-1), 1, [], .null)), (65, (.ixor, 1, [], .null)), (66, (.iand, 1, [], .null)), (67, (.istore_n 2, 1, [], .null)), (68, (.iinc 3 1, 3, [], .null)), (71, (.goto (-35), 3, [36], .null))]),
  (76, [(74, (.iload_n 2, 1, [], .null)), (75, (.ireturn, 1, [], .null))])])
def md_217 : ri_M × ri_T := ((yX12_heightsAt, cX12_heightsAt, 4, (some .int), RX12, 0, 0), [
  (20, [(0, (.iconst 0, 1, [], .null)), (1, (.istore_n 2, 1, [], .null)), (2, (.aload_n 0, 1, [], .null)), (3, (.getfield 33, 3, [12, 6, 1330], .null)), (6, (.iconst 0, 1, [], .null)), (7, (.iaload, 1, [], .null)), (8, (.iconst 1, 1, [], .null)), (9, (.isub, 1, [], .null)), (10, (.istore_n 3, 1, [], .null)), (11, (.iload_n 3, 1, [], .null)), (12, (.ifCond .lt 34, 3, [46], .null)), (15, (.aload_n 0, 1, [], .null)), (16, (.iload_n 1, 1, [], .null)), (17, (.iload_n 3, 1, [], .null)), (18, (.iadd, 1, [], .null)), (19, (.invokevirtual 329, 3, [1, 152, 1, 12, 1729, 78, 1731], .null))]),
  (44, [(22, (.iconst 3, 1, [], .null)), (23, (.if_icmp .le 5, 3, [28], .null)), (26, (.iconst (-1), 1, [], .null)), (27, (.ireturn, 1, [], .null)), (28, (.iconst 4, 1, [], .null)), (29, (.iload_n 2, 1, [], .null)), (30, (.imul, 1, [], .null)), (31, (.aload_n 0, 1, [], .null)), (32, (.iload_n 1, 1, [], .null)), (33, (.iload_n 3, 1, [], .null)), (34, (.iadd, 1, [], .null)), (35, (.invokevirtual 329, 3, [1, 152, 1, 12, 1729, 78, 1731], .null)), (38, (.iadd, 1, [], .null)), (39, (.istore_n 2, 1, [], .null)), (40, (.iinc 3 (-1), 3, [], .null)), (43, (.goto (-32), 3, [11], .null))]),
  (48, [(46, (.iload_n 2, 1, [], .null)), (47, (.ireturn, 1, [], .null))])])
def md_218 : ri_M × ri_T := ((yX12_answersAt, cX12_answersAt, 6, (some .int), RX12, 0, 0), [
  (22, [(0, (.iconst 0, 1, [], .null)), (1, (.istore_n 2, 1, [], .null)), (2, (.iconst 0, 1, [], .null)), (3, (.istore_n 3, 1, [], .null)), (4, (.iload_n 3, 1, [], .null)), (5, (.iconst 1, 1, [], .null)), (6, (.aload_n 0, 1, [], .null)), (7, (.getfield 33, 3, [12, 6, 1330], .null)), (10, (.iconst 4, 1, [], .null)), (11, (.iaload, 1, [], .null)), (12, (.ishl, 1, [], .null)), (13, (.if_icmp .ge 102, 3, [115], .null)), (16, (.aload_n 0, 1, [], .null)), (17, (.getfield 59, 3, [12, 26, 1350], .null)), (20, (.iload_n 3, 1, [], .null)), (21, (.baload, 1, [], .null))]),
  (49, [(22, (.ifCond .ne 6, 3, [28], .null)), (25, (.goto 84, 3, [109], .null)), (28, (.aload_n 0, 1, [], .null)), (29, (.getfield 63, 3, [12, 27, 1351], .null)), (32, (.iload_n 3, 1, [], .null)), (33, (.aload_n 0, 1, [], .null)), (34, (.iload_n 1, 1, [], .null)), (35, (.iload_n 3, 1, [], .null)), (36, (.invokevirtual 323, 3, [1, 192, 2, 12, 1705, 76, 1707], .null)), (39, (.iastore, 1, [], .null)), (40, (.iconst 1, 1, [], .null)), (41, (.istore 4, 2, [], .null)), (43, (.iconst 0, 1, [], .null)), (44, (.istore 5, 2, [], .null)), (46, (.iload 5, 2, [], .null)), (48, (.iload_n 3, 1, [], .null))]),
  (80, [(49, (.if_icmp .ge 47, 3, [96], .null)), (52, (.iload 4, 2, [], .null)), (54, (.ifCond .eq 42, 3, [96], .null)), (57, (.aload_n 0, 1, [], .null)), (58, (.getfield 59, 3, [12, 26, 1350], .null)), (61, (.iload 5, 2, [], .null)), (63, (.baload, 1, [], .null)), (64, (.ifCond .eq 19, 3, [83], .null)), (67, (.aload_n 0, 1, [], .null)), (68, (.getfield 63, 3, [12, 27, 1351], .null)), (71, (.iload 5, 2, [], .null)), (73, (.iaload, 1, [], .null)), (74, (.aload_n 0, 1, [], .null)), (75, (.getfield 63, 3, [12, 27, 1351], .null)), (78, (.iload_n 3, 1, [], .null)), (79, (.iaload, 1, [], .null))]),
  (110, [(80, (.if_icmp .eq 7, 3, [87], .null)), (83, (.iconst 1, 1, [], .null)), (84, (.goto 4, 3, [88], .null)), (87, (.iconst 0, 1, [], .null)), (88, (.istore 4, 2, [], .null)), (90, (.iinc 5 1, 3, [], .null)), (93, (.goto (-47), 3, [46], .null)), (96, (.iload_n 2, 1, [], .null)), (97, (.iload 4, 2, [], .null)), (99, (.ifCond .eq 7, 3, [106], .null)), (102, (.iconst 1, 1, [], .null)), (103, (.goto 4, 3, [107], .null)), (106, (.iconst 0, 1, [], .null)), (107, (.iadd, 1, [], .null)), (108, (.istore_n 2, 1, [], .null)), (109, (.iinc 3 1, 3, [], .null))]),
  (117, [(112, (.goto (-108), 3, [4], .null)), (115, (.iload_n 2, 1, [], .null)), (116, (.ireturn, 1, [], .null))])])
def md_219 : ri_M × ri_T := ((yX12_learnt, cX12_learnt, 9, (some .int), RX12, 0, 0), [
  (26, [(0, (.aload_n 0, 1, [], .null)), (1, (.iconst 0, 1, [], .null)), (2, (.putfield 1, 3, [12, 0, 1324, 0], .null)), (5, (.aload_n 0, 1, [], .null)), (6, (.sipush 940, 3, [], .null)), (9, (.invokevirtual 221, 3, [1, 148, 1, 12, 1474, 34, 1476], .null)), (12, (.iconst 1, 1, [], .null)), (13, (.aload_n 0, 1, [], .null)), (14, (.getfield 33, 3, [12, 6, 1330], .null)), (17, (.iconst 0, 1, [], .null)), (18, (.iaload, 1, [], .null)), (19, (.iadd, 1, [], .null)), (20, (.istore_n 1, 1, [], .null)), (21, (.aload_n 0, 1, [], .null)), (22, (.getfield 18, 3, [12, 3, 1327], .null)), (25, (.ifCond .eq 12, 3, [37], .null))]),
  (52, [(28, (.aload_n 0, 1, [], .null)), (29, (.getfield 18, 3, [12, 3, 1327], .null)), (32, (.iload_n 1, 1, [], .null)), (33, (.irem, 1, [], .null)), (34, (.ifCond .eq 5, 3, [39], .null)), (37, (.iconst (-1), 1, [], .null)), (38, (.ireturn, 1, [], .null)), (39, (.iconst 0, 1, [], .null)), (40, (.istore_n 2, 1, [], .null)), (41, (.iload_n 2, 1, [], .null)), (42, (.aload_n 0, 1, [], .null)), (43, (.getfield 18, 3, [12, 3, 1327], .null)), (46, (.if_icmp .ge 34, 3, [80], .null)), (49, (.aload_n 0, 1, [], .null)), (50, (.aload_n 0, 1, [], .null)), (51, (.iload_n 2, 1, [], .null))]),
  (78, [(52, (.invokevirtual 329, 3, [1, 152, 1, 12, 1729, 78, 1731], .null)), (55, (.invokevirtual 302, 3, [1, 175, 1, 12, 1634, 63, 1636], .null)), (58, (.ifCond .eq 13, 3, [71], .null)), (61, (.aload_n 0, 1, [], .null)), (62, (.iload_n 2, 1, [], .null)), (63, (.iconst 1, 1, [], .null)), (64, (.iadd, 1, [], .null)), (65, (.invokevirtual 332, 3, [1, 217, 1, 12, 1733, 79, 1735], .null)), (68, (.ifCond .ge 5, 3, [73], .null)), (71, (.iconst (-1), 1, [], .null)), (72, (.ireturn, 1, [], .null)), (73, (.iload_n 2, 1, [], .null)), (74, (.iload_n 1, 1, [], .null)), (75, (.iadd, 1, [], .null)), (76, (.istore_n 2, 1, [], .null)), (77, (.goto (-36), 3, [41], .null))]),
  (100, [(80, (.iconst 0, 1, [], .null)), (81, (.istore_n 2, 1, [], .null)), (82, (.iconst 1, 1, [], .null)), (83, (.aload_n 0, 1, [], .null)), (84, (.getfield 33, 3, [12, 6, 1330], .null)), (87, (.iconst 4, 1, [], .null)), (88, (.iaload, 1, [], .null)), (89, (.ishl, 1, [], .null)), (90, (.iconst 1, 1, [], .null)), (91, (.isub, 1, [], .null)), (92, (.istore_n 3, 1, [], .null)), (93, (.iload_n 3, 1, [], .null)), (94, (.istore 4, 2, [], .null)), (96, (.iconst 0, 1, [], .null)), (97, (.istore 5, 2, [], .null)), (99, (.iconst 0, 1, [], .null))]),
  (130, [(100, (.istore 6, 2, [], .null)), (102, (.iload 6, 2, [], .null)), (104, (.iload_n 3, 1, [], .null)), (105, (.if_icmp .gt 102, 3, [207], .null)), (108, (.iconst 1, 1, [], .null)), (109, (.istore 7, 2, [], .null)), (111, (.iconst 0, 1, [], .null)), (112, (.istore 8, 2, [], .null)), (114, (.iload 8, 2, [], .null)), (116, (.aload_n 0, 1, [], .null)), (117, (.getfield 18, 3, [12, 3, 1327], .null)), (120, (.if_icmp .ge 47, 3, [167], .null)), (123, (.iload 7, 2, [], .null)), (125, (.ifCond .eq 42, 3, [167], .null)), (128, (.aload_n 0, 1, [], .null)), (129, (.aload_n 0, 1, [], .null))]),
  (161, [(130, (.iload 8, 2, [], .null)), (132, (.invokevirtual 329, 3, [1, 152, 1, 12, 1729, 78, 1731], .null)), (135, (.iload 6, 2, [], .null)), (137, (.invokevirtual 323, 3, [1, 192, 2, 12, 1705, 76, 1707], .null)), (140, (.aload_n 0, 1, [], .null)), (141, (.iload 8, 2, [], .null)), (143, (.iconst 1, 1, [], .null)), (144, (.iadd, 1, [], .null)), (145, (.invokevirtual 332, 3, [1, 217, 1, 12, 1733, 79, 1735], .null)), (148, (.if_icmp .ne 7, 3, [155], .null)), (151, (.iconst 1, 1, [], .null)), (152, (.goto 4, 3, [156], .null)), (155, (.iconst 0, 1, [], .null)), (156, (.istore 7, 2, [], .null)), (158, (.iload 8, 2, [], .null)), (160, (.iload_n 1, 1, [], .null))]),
  (193, [(161, (.iadd, 1, [], .null)), (162, (.istore 8, 2, [], .null)), (164, (.goto (-50), 3, [114], .null)), (167, (.aload_n 0, 1, [], .null)), (168, (.getfield 59, 3, [12, 26, 1350], .null)), (171, (.iload 6, 2, [], .null)), (173, (.iload 7, 2, [], .null)), (175, (.bastore, 1, [], .null)), (176, (.iload 7, 2, [], .null)), (178, (.ifCond .ne 6, 3, [184], .null)), (181, (.goto 20, 3, [201], .null)), (184, (.iinc 2 1, 3, [], .null)), (187, (.iload 4, 2, [], .null)), (189, (.iload 6, 2, [], .null)), (191, (.iand, 1, [], .null)), (192, (.istore 4, 2, [], .null))]),
  (222, [(194, (.iload 5, 2, [], .null)), (196, (.iload 6, 2, [], .null)), (198, (.ior, 1, [], .null)), (199, (.istore 5, 2, [], .null)), (201, (.iinc 6 1, 3, [], .null)), (204, (.goto (-102), 3, [102], .null)), (207, (.iload_n 2, 1, [], .null)), (208, (.ifCond .ne 5, 3, [213], .null)), (211, (.iconst 0, 1, [], .null)), (212, (.ireturn, 1, [], .null)), (213, (.aload_n 0, 1, [], .null)), (214, (.iconst 1, 1, [], .null)), (215, (.putfield 335, 3, [12, 31, 1355, 1], .null)), (218, (.aload_n 0, 1, [], .null)), (219, (.iload 4, 2, [], .null)), (221, (.putfield 339, 3, [12, 28, 1352, 0], .null))]),
  (248, [(224, (.aload_n 0, 1, [], .null)), (225, (.iload_n 3, 1, [], .null)), (226, (.iload 5, 2, [], .null)), (228, (.iconst (-1), 1, [], .null)), (229, (.ixor, 1, [], .null)), (230, (.iand, 1, [], .null)), (231, (.putfield 342, 3, [12, 29, 1353, 0], .null)), (234, (.aload_n 0, 1, [], .null)), (235, (.iconst (-1), 1, [], .null)), (236, (.putfield 345, 3, [12, 30, 1354, 0], .null)), (239, (.iconst 0, 1, [], .null)), (240, (.istore 6, 2, [], .null)), (242, (.iconst 0, 1, [], .null)), (243, (.istore 7, 2, [], .null)), (245, (.iload 7, 2, [], .null)), (247, (.aload_n 0, 1, [], .null))]),
  (280, [(248, (.getfield 33, 3, [12, 6, 1330], .null)), (251, (.iconst 3, 1, [], .null)), (252, (.iaload, 1, [], .null)), (253, (.if_icmp .ge 37, 3, [290], .null)), (256, (.aload_n 0, 1, [], .null)), (257, (.iload 7, 2, [], .null)), (259, (.invokevirtual 348, 3, [1, 218, 1, 12, 1737, 80, 1739], .null)), (262, (.istore 8, 2, [], .null)), (264, (.iload 8, 2, [], .null)), (266, (.iload 6, 2, [], .null)), (268, (.if_icmp .gt 6, 3, [274], .null)), (271, (.goto 13, 3, [284], .null)), (274, (.iload 8, 2, [], .null)), (276, (.istore 6, 2, [], .null)), (278, (.aload_n 0, 1, [], .null)), (279, (.iload 7, 2, [], .null))]),
  (292, [(281, (.putfield 345, 3, [12, 30, 1354, 0], .null)), (284, (.iinc 7 1, 3, [], .null)), (287, (.goto (-42), 3, [245], .null)), (290, (.iload_n 2, 1, [], .null)), (291, (.ireturn, 1, [], .null))])])
def md_220 : ri_M × ri_T := ((yX12_surely, cX12_surely, 1, (some .int), RX12, 0, 0), [
  (21, [(0, (.aload_n 0, 1, [], .null)), (1, (.iconst 0, 1, [], .null)), (2, (.putfield 1, 3, [12, 0, 1324, 0], .null)), (5, (.aload_n 0, 1, [], .null)), (6, (.getfield 335, 3, [12, 31, 1355], .null)), (9, (.ifCond .eq 10, 3, [19], .null)), (12, (.aload_n 0, 1, [], .null)), (13, (.getfield 339, 3, [12, 28, 1352], .null)), (16, (.goto 4, 3, [20], .null)), (19, (.iconst (-1), 1, [], .null)), (20, (.ireturn, 1, [], .null))])])
def md_221 : ri_M × ri_T := ((yX12_never, cX12_never, 1, (some .int), RX12, 0, 0), [
  (21, [(0, (.aload_n 0, 1, [], .null)), (1, (.iconst 0, 1, [], .null)), (2, (.putfield 1, 3, [12, 0, 1324, 0], .null)), (5, (.aload_n 0, 1, [], .null)), (6, (.getfield 335, 3, [12, 31, 1355], .null)), (9, (.ifCond .eq 10, 3, [19], .null)), (12, (.aload_n 0, 1, [], .null)), (13, (.getfield 342, 3, [12, 29, 1353], .null)), (16, (.goto 4, 3, [20], .null)), (19, (.iconst (-1), 1, [], .null)), (20, (.ireturn, 1, [], .null))])])
def md_222 : ri_M × ri_T := ((yX12_ask, cX12_ask, 1, (some .int), RX12, 0, 0), [
  (21, [(0, (.aload_n 0, 1, [], .null)), (1, (.iconst 0, 1, [], .null)), (2, (.putfield 1, 3, [12, 0, 1324, 0], .null)), (5, (.aload_n 0, 1, [], .null)), (6, (.getfield 335, 3, [12, 31, 1355], .null)), (9, (.ifCond .eq 10, 3, [19], .null)), (12, (.aload_n 0, 1, [], .null)), (13, (.getfield 345, 3, [12, 30, 1354], .null)), (16, (.goto 4, 3, [20], .null)), (19, (.iconst (-1), 1, [], .null)), (20, (.ireturn, 1, [], .null))])])
def md_223 : ri_M × ri_T := ((yX12_needsOf, cX12_needsOf, 4, (some .int), RX12, 0, 0), [
  (24, [(0, (.iconst 0, 1, [], .null)), (1, (.istore_n 2, 1, [], .null)), (2, (.iconst 0, 1, [], .null)), (3, (.istore_n 3, 1, [], .null)), (4, (.iload_n 3, 1, [], .null)), (5, (.aload_n 0, 1, [], .null)), (6, (.getfield 33, 3, [12, 6, 1330], .null)), (9, (.iconst 4, 1, [], .null)), (10, (.iaload, 1, [], .null)), (11, (.if_icmp .ge 40, 3, [51], .null)), (14, (.iload_n 2, 1, [], .null)), (15, (.iload_n 1, 1, [], .null)), (16, (.iload_n 3, 1, [], .null)), (17, (.invokestatic 199, 3, [3, 150, 2, 0, 1504, 1505], .null)), (20, (.ifCond .eq 22, 3, [42], .null)), (23, (.aload_n 0, 1, [], .null))]),
  (49, [(24, (.getfield 33, 3, [12, 6, 1330], .null)), (27, (.iconst 1, 1, [], .null)), (28, (.iaload, 1, [], .null)), (29, (.aload_n 0, 1, [], .null)), (30, (.getfield 33, 3, [12, 6, 1330], .null)), (33, (.bipush 100, 2, [], .null)), (35, (.iload_n 3, 1, [], .null)), (36, (.iadd, 1, [], .null)), (37, (.iaload, 1, [], .null)), (38, (.isub, 1, [], .null)), (39, (.goto 4, 3, [43], .null)), (42, (.iconst 0, 1, [], .null)), (43, (.iadd, 1, [], .null)), (44, (.istore_n 2, 1, [], .null)), (45, (.iinc 3 1, 3, [], .null)), (48, (.goto (-44), 3, [4], .null))]),
  (53, [(51, (.iload_n 2, 1, [], .null)), (52, (.ireturn, 1, [], .null))])])
def md_224 : ri_M × ri_T := ((yX12_teach, cX12_teach, 8, (some .int), RX12, 0, 0), [
  (30, [(0, (.aload_n 0, 1, [], .null)), (1, (.iconst 0, 1, [], .null)), (2, (.putfield 1, 3, [12, 0, 1324, 0], .null)), (5, (.aload_n 0, 1, [], .null)), (6, (.sipush 940, 3, [], .null)), (9, (.invokevirtual 221, 3, [1, 148, 1, 12, 1474, 34, 1476], .null)), (12, (.aload_n 0, 1, [], .null)), (13, (.iload_n 1, 1, [], .null)), (14, (.invokevirtual 302, 3, [1, 175, 1, 12, 1634, 63, 1636], .null)), (17, (.ifCond .eq 24, 3, [41], .null)), (20, (.aload_n 0, 1, [], .null)), (21, (.getfield 18, 3, [12, 3, 1327], .null)), (24, (.aload_n 0, 1, [], .null)), (25, (.getfield 33, 3, [12, 6, 1330], .null)), (28, (.iconst 0, 1, [], .null)), (29, (.iaload, 1, [], .null))]),
  (56, [(30, (.if_icmp .ne 11, 3, [41], .null)), (33, (.aload_n 0, 1, [], .null)), (34, (.iconst 0, 1, [], .null)), (35, (.invokevirtual 332, 3, [1, 217, 1, 12, 1733, 79, 1735], .null)), (38, (.ifCond .ge 5, 3, [43], .null)), (41, (.iconst (-1), 1, [], .null)), (42, (.ireturn, 1, [], .null)), (43, (.aload_n 0, 1, [], .null)), (44, (.iconst 0, 1, [], .null)), (45, (.invokevirtual 332, 3, [1, 217, 1, 12, 1733, 79, 1735], .null)), (48, (.istore_n 2, 1, [], .null)), (49, (.aload_n 0, 1, [], .null)), (50, (.invokevirtual 258, 3, [1, 181, 0, 12, 1602, 57, 1604], .null)), (53, (.istore_n 3, 1, [], .null)), (54, (.iconst (-1), 1, [], .null)), (55, (.istore 4, 2, [], .null))]),
  (83, [(57, (.iconst 0, 1, [], .null)), (58, (.istore 5, 2, [], .null)), (60, (.iload 5, 2, [], .null)), (62, (.iconst 1, 1, [], .null)), (63, (.aload_n 0, 1, [], .null)), (64, (.getfield 33, 3, [12, 6, 1330], .null)), (67, (.iconst 4, 1, [], .null)), (68, (.iaload, 1, [], .null)), (69, (.ishl, 1, [], .null)), (70, (.if_icmp .ge 121, 3, [191], .null)), (73, (.iload 5, 2, [], .null)), (75, (.iload_n 3, 1, [], .null)), (76, (.iand, 1, [], .null)), (77, (.ifCond .ne 27, 3, [104], .null)), (80, (.iload 4, 2, [], .null)), (82, (.ifCond .lt 18, 3, [100], .null))]),
  (114, [(85, (.aload_n 0, 1, [], .null)), (86, (.iload 5, 2, [], .null)), (88, (.invokevirtual 351, 3, [1, 223, 1, 12, 1757, 81, 1759], .null)), (91, (.aload_n 0, 1, [], .null)), (92, (.iload 4, 2, [], .null)), (94, (.invokevirtual 351, 3, [1, 223, 1, 12, 1757, 81, 1759], .null)), (97, (.if_icmp .ge 7, 3, [104], .null)), (100, (.iconst 1, 1, [], .null)), (101, (.goto 4, 3, [105], .null)), (104, (.iconst 0, 1, [], .null)), (105, (.istore 6, 2, [], .null)), (107, (.iconst 0, 1, [], .null)), (108, (.istore 7, 2, [], .null)), (110, (.iload 7, 2, [], .null)), (112, (.aload_n 0, 1, [], .null)), (113, (.getfield 33, 3, [12, 6, 1330], .null))]),
  (147, [(116, (.iconst 4, 1, [], .null)), (117, (.iaload, 1, [], .null)), (118, (.if_icmp .ge 45, 3, [163], .null)), (121, (.iload 6, 2, [], .null)), (123, (.ifCond .eq 40, 3, [163], .null)), (126, (.iload 5, 2, [], .null)), (128, (.iload 7, 2, [], .null)), (130, (.invokestatic 199, 3, [3, 150, 2, 0, 1504, 1505], .null)), (133, (.ifCond .eq 17, 3, [150], .null)), (136, (.aload_n 0, 1, [], .null)), (137, (.getfield 33, 3, [12, 6, 1330], .null)), (140, (.bipush 10, 2, [], .null)), (142, (.iload 7, 2, [], .null)), (144, (.iadd, 1, [], .null)), (145, (.iaload, 1, [], .null)), (146, (.iload_n 1, 1, [], .null))]),
  (178, [(147, (.if_icmp .ne 7, 3, [154], .null)), (150, (.iconst 1, 1, [], .null)), (151, (.goto 4, 3, [155], .null)), (154, (.iconst 0, 1, [], .null)), (155, (.istore 6, 2, [], .null)), (157, (.iinc 7 1, 3, [], .null)), (160, (.goto (-50), 3, [110], .null)), (163, (.iload 6, 2, [], .null)), (165, (.ifCond .eq 20, 3, [185], .null)), (168, (.aload_n 0, 1, [], .null)), (169, (.iload_n 1, 1, [], .null)), (170, (.iload_n 3, 1, [], .null)), (171, (.iload 5, 2, [], .null)), (173, (.ior, 1, [], .null)), (174, (.invokevirtual 323, 3, [1, 192, 2, 12, 1705, 76, 1707], .null)), (177, (.iload_n 2, 1, [], .null))]),
  (210, [(178, (.if_icmp .ne 7, 3, [185], .null)), (181, (.iload 5, 2, [], .null)), (183, (.istore 4, 2, [], .null)), (185, (.iinc 5 1, 3, [], .null)), (188, (.goto (-128), 3, [60], .null)), (191, (.iload 4, 2, [], .null)), (193, (.ifCond .ge 5, 3, [198], .null)), (196, (.iconst (-1), 1, [], .null)), (197, (.ireturn, 1, [], .null)), (198, (.aload_n 0, 1, [], .null)), (199, (.iconst 1, 1, [], .null)), (200, (.putfield 354, 3, [12, 33, 1357, 1], .null)), (203, (.aload_n 0, 1, [], .null)), (204, (.iload 4, 2, [], .null)), (206, (.putfield 357, 3, [12, 32, 1356, 0], .null)), (209, (.aload_n 0, 1, [], .null))]),
  (216, [(210, (.iload 4, 2, [], .null)), (212, (.invokevirtual 351, 3, [1, 223, 1, 12, 1757, 81, 1759], .null)), (215, (.ireturn, 1, [], .null))])])
def md_225 : ri_M × ri_T := ((yX12_taught, cX12_taught, 1, (some .int), RX12, 0, 0), [
  (21, [(0, (.aload_n 0, 1, [], .null)), (1, (.iconst 0, 1, [], .null)), (2, (.putfield 1, 3, [12, 0, 1324, 0], .null)), (5, (.aload_n 0, 1, [], .null)), (6, (.getfield 354, 3, [12, 33, 1357], .null)), (9, (.ifCond .eq 10, 3, [19], .null)), (12, (.aload_n 0, 1, [], .null)), (13, (.getfield 357, 3, [12, 32, 1356], .null)), (16, (.goto 4, 3, [20], .null)), (19, (.iconst (-1), 1, [], .null)), (20, (.ireturn, 1, [], .null))])])
def md_226 : ri_M × ri_T := ((yX12_isPair, cX12_isPair, 5, (some .boolean), RX12, 0, 0), [
  (26, [(0, (.aload_n 0, 1, [], .null)), (1, (.getfield 33, 3, [12, 6, 1330], .null)), (4, (.bipush 10, 2, [], .null)), (6, (.iload_n 1, 1, [], .null)), (7, (.iadd, 1, [], .null)), (8, (.iaload, 1, [], .null)), (9, (.istore 4, 2, [], .null)), (11, (.aload_n 0, 1, [], .null)), (12, (.getfield 33, 3, [12, 6, 1330], .null)), (15, (.bipush 10, 2, [], .null)), (17, (.iload_n 2, 1, [], .null)), (18, (.iadd, 1, [], .null)), (19, (.iaload, 1, [], .null)), (20, (.iload 4, 2, [], .null)), (22, (.if_icmp .eq 5, 3, [27], .null)), (25, (.iconst 0, 1, [], .null))]),
  (50, [(26, (.ireturn, 1, [], .null)), (27, (.iload_n 3, 1, [], .null)), (28, (.ifCond .eq 43, 3, [71], .null)), (31, (.aload_n 0, 1, [], .null)), (32, (.iload 4, 2, [], .null)), (34, (.iconst 1, 1, [], .null)), (35, (.iload_n 1, 1, [], .null)), (36, (.ishl, 1, [], .null)), (37, (.invokevirtual 323, 3, [1, 192, 2, 12, 1705, 76, 1707], .null)), (40, (.ifCond .eq 35, 3, [75], .null)), (43, (.aload_n 0, 1, [], .null)), (44, (.iload 4, 2, [], .null)), (46, (.iconst 1, 1, [], .null)), (47, (.iload_n 2, 1, [], .null)), (48, (.ishl, 1, [], .null)), (49, (.invokevirtual 323, 3, [1, 192, 2, 12, 1705, 76, 1707], .null))]),
  (77, [(52, (.ifCond .eq 23, 3, [75], .null)), (55, (.aload_n 0, 1, [], .null)), (56, (.iload 4, 2, [], .null)), (58, (.iconst 1, 1, [], .null)), (59, (.iload_n 1, 1, [], .null)), (60, (.ishl, 1, [], .null)), (61, (.iconst 1, 1, [], .null)), (62, (.iload_n 2, 1, [], .null)), (63, (.ishl, 1, [], .null)), (64, (.ior, 1, [], .null)), (65, (.invokevirtual 323, 3, [1, 192, 2, 12, 1705, 76, 1707], .null)), (68, (.ifCond .ne 7, 3, [75], .null)), (71, (.iconst 1, 1, [], .null)), (72, (.goto 4, 3, [76], .null)), (75, (.iconst 0, 1, [], .null)), (76, (.ireturn, 1, [], .null))])])
def md_227 : ri_M × ri_T := ((yX12_pairAt, cX12_pairAt, 6, (some .int), RX12, 0, 0), [
  (24, [(0, (.iload_n 1, 1, [], .null)), (1, (.iconst (-1), 1, [], .null)), (2, (.if_icmp .ge 5, 3, [7], .null)), (5, (.iconst (-1), 1, [], .null)), (6, (.ireturn, 1, [], .null)), (7, (.iconst 0, 1, [], .null)), (8, (.istore_n 3, 1, [], .null)), (9, (.iconst 0, 1, [], .null)), (10, (.istore 4, 2, [], .null)), (12, (.iload 4, 2, [], .null)), (14, (.aload_n 0, 1, [], .null)), (15, (.getfield 33, 3, [12, 6, 1330], .null)), (18, (.iconst 4, 1, [], .null)), (19, (.iaload, 1, [], .null)), (20, (.if_icmp .ge 64, 3, [84], .null)), (23, (.iload 4, 2, [], .null))]),
  (53, [(25, (.iconst 1, 1, [], .null)), (26, (.iadd, 1, [], .null)), (27, (.istore 5, 2, [], .null)), (29, (.iload 5, 2, [], .null)), (31, (.aload_n 0, 1, [], .null)), (32, (.getfield 33, 3, [12, 6, 1330], .null)), (35, (.iconst 4, 1, [], .null)), (36, (.iaload, 1, [], .null)), (37, (.if_icmp .ge 41, 3, [78], .null)), (40, (.aload_n 0, 1, [], .null)), (41, (.iload 4, 2, [], .null)), (43, (.iload 5, 2, [], .null)), (45, (.iload_n 2, 1, [], .null)), (46, (.invokevirtual 360, 3, [1, 226, 3, 12, 1773, 83, 1775], .null)), (49, (.ifCond .ne 6, 3, [55], .null)), (52, (.goto 20, 3, [72], .null))]),
  (86, [(55, (.iload_n 3, 1, [], .null)), (56, (.iload_n 1, 1, [], .null)), (57, (.if_icmp .ne 12, 3, [69], .null)), (60, (.bipush 10, 2, [], .null)), (62, (.iload 4, 2, [], .null)), (64, (.imul, 1, [], .null)), (65, (.iload 5, 2, [], .null)), (67, (.iadd, 1, [], .null)), (68, (.ireturn, 1, [], .null)), (69, (.iinc 3 1, 3, [], .null)), (72, (.iinc 5 1, 3, [], .null)), (75, (.goto (-46), 3, [29], .null)), (78, (.iinc 4 1, 3, [], .null)), (81, (.goto (-69), 3, [12], .null)), (84, (.iload_n 1, 1, [], .null)), (85, (.iconst (-1), 1, [], .null))]),
  (95, [(86, (.if_icmp .ne 7, 3, [93], .null)), (89, (.iload_n 3, 1, [], .null)), (90, (.goto 4, 3, [94], .null)), (93, (.iconst (-1), 1, [], .null)), (94, (.ireturn, 1, [], .null))])])
def md_228 : ri_M × ri_T := ((yX12_apart, cX12_apart, 2, (some .int), RX12, 0, 0), [
  (12, [(0, (.aload_n 0, 1, [], .null)), (1, (.iconst 0, 1, [], .null)), (2, (.putfield 1, 3, [12, 0, 1324, 0], .null)), (5, (.aload_n 0, 1, [], .null)), (6, (.iload_n 1, 1, [], .null)), (7, (.iconst 0, 1, [], .null)), (8, (.invokevirtual 364, 3, [1, 227, 2, 12, 1769, 82, 1771], .null)), (11, (.ireturn, 1, [], .null))])])
def md_229 : ri_M × ri_T := ((yX12_still, cX12_still, 2, (some .int), RX12, 0, 0), [
  (12, [(0, (.aload_n 0, 1, [], .null)), (1, (.iconst 0, 1, [], .null)), (2, (.putfield 1, 3, [12, 0, 1324, 0], .null)), (5, (.aload_n 0, 1, [], .null)), (6, (.iload_n 1, 1, [], .null)), (7, (.iconst 1, 1, [], .null)), (8, (.invokevirtual 364, 3, [1, 227, 2, 12, 1769, 82, 1771], .null)), (11, (.ireturn, 1, [], .null))])])
def md_230 : ri_M × ri_T := ((yX12_lasts, cX12_lasts, 6, (some .int), RX12, 0, 0), [
  (22, [(0, (.aload_n 0, 1, [], .null)), (1, (.iconst 0, 1, [], .null)), (2, (.putfield 1, 3, [12, 0, 1324, 0], .null)), (5, (.aload_n 0, 1, [], .null)), (6, (.iload_n 1, 1, [], .null)), (7, (.invokevirtual 320, 3, [1, 179, 1, 12, 1701, 75, 1703], .null)), (10, (.ifCond .ne 5, 3, [15], .null)), (13, (.iconst (-1), 1, [], .null)), (14, (.ireturn, 1, [], .null)), (15, (.iconst 0, 1, [], .null)), (16, (.istore_n 2, 1, [], .null)), (17, (.iconst 0, 1, [], .null)), (18, (.istore_n 3, 1, [], .null)), (19, (.iload_n 3, 1, [], .null)), (20, (.aload_n 0, 1, [], .null)), (21, (.getfield 33, 3, [12, 6, 1330], .null))]),
  (50, [(24, (.iconst 3, 1, [], .null)), (25, (.iaload, 1, [], .null)), (26, (.if_icmp .ge 79, 3, [105], .null)), (29, (.iconst 0, 1, [], .null)), (30, (.istore 4, 2, [], .null)), (32, (.iconst 0, 1, [], .null)), (33, (.istore 5, 2, [], .null)), (35, (.iload 5, 2, [], .null)), (37, (.aload_n 0, 1, [], .null)), (38, (.getfield 33, 3, [12, 6, 1330], .null)), (41, (.iconst 4, 1, [], .null)), (42, (.iaload, 1, [], .null)), (43, (.if_icmp .ge 45, 3, [88], .null)), (46, (.iload 4, 2, [], .null)), (48, (.iload_n 1, 1, [], .null)), (49, (.iload 5, 2, [], .null))]),
  (80, [(51, (.invokestatic 199, 3, [3, 150, 2, 0, 1504, 1505], .null)), (54, (.ifCond .eq 24, 3, [78], .null)), (57, (.aload_n 0, 1, [], .null)), (58, (.getfield 33, 3, [12, 6, 1330], .null)), (61, (.bipush 10, 2, [], .null)), (63, (.iload 5, 2, [], .null)), (65, (.iadd, 1, [], .null)), (66, (.iaload, 1, [], .null)), (67, (.iload_n 3, 1, [], .null)), (68, (.if_icmp .ne 10, 3, [78], .null)), (71, (.iconst 1, 1, [], .null)), (72, (.iload 5, 2, [], .null)), (74, (.ishl, 1, [], .null)), (75, (.goto 4, 3, [79], .null)), (78, (.iconst 0, 1, [], .null)), (79, (.ior, 1, [], .null))]),
  (107, [(80, (.istore 4, 2, [], .null)), (82, (.iinc 5 1, 3, [], .null)), (85, (.goto (-50), 3, [35], .null)), (88, (.iload_n 2, 1, [], .null)), (89, (.aload_n 0, 1, [], .null)), (90, (.iload 4, 2, [], .null)), (92, (.invokevirtual 351, 3, [1, 223, 1, 12, 1757, 81, 1759], .null)), (95, (.invokestatic 270, 3, [3, 151, 2, 0, 1654, 1655], .null)), (98, (.istore_n 2, 1, [], .null)), (99, (.iinc 3 1, 3, [], .null)), (102, (.goto (-83), 3, [19], .null)), (105, (.iload_n 2, 1, [], .null)), (106, (.ireturn, 1, [], .null))])])
def md_231 : ri_M × ri_T := ((yX12_forgets, cX12_forgets, 5, (some .int), RX12, 0, 0), [
  (28, [(0, (.aload_n 0, 1, [], .null)), (1, (.iconst 0, 1, [], .null)), (2, (.putfield 1, 3, [12, 0, 1324, 0], .null)), (5, (.aload_n 0, 1, [], .null)), (6, (.iload_n 1, 1, [], .null)), (7, (.invokevirtual 239, 3, [1, 176, 1, 12, 1558, 50, 1560], .null)), (10, (.ifCond .eq 11, 3, [21], .null)), (13, (.aload_n 0, 1, [], .null)), (14, (.iload_n 1, 1, [], .null)), (15, (.invokevirtual 236, 3, [1, 180, 1, 12, 1566, 52, 1568], .null)), (18, (.ifCond .ne 5, 3, [23], .null)), (21, (.iconst (-1), 1, [], .null)), (22, (.ireturn, 1, [], .null)), (23, (.aload_n 0, 1, [], .null)), (24, (.getfield 33, 3, [12, 6, 1330], .null)), (27, (.bipush 116, 2, [], .null))]),
  (52, [(29, (.iload_n 1, 1, [], .null)), (30, (.iadd, 1, [], .null)), (31, (.iaload, 1, [], .null)), (32, (.istore_n 2, 1, [], .null)), (33, (.iconst 1, 1, [], .null)), (34, (.istore_n 3, 1, [], .null)), (35, (.iload_n 3, 1, [], .null)), (36, (.sipush 200, 3, [], .null)), (39, (.if_icmp .gt 64, 3, [103], .null)), (42, (.aload_n 0, 1, [], .null)), (43, (.getfield 33, 3, [12, 6, 1330], .null)), (46, (.bipush 96, 2, [], .null)), (48, (.iaload, 1, [], .null)), (49, (.iload_n 3, 1, [], .null)), (50, (.iadd, 1, [], .null)), (51, (.sipush 600, 3, [], .null))]),
  (82, [(54, (.if_icmp .gt 49, 3, [103], .null)), (57, (.aload_n 0, 1, [], .null)), (58, (.getfield 33, 3, [12, 6, 1330], .null)), (61, (.bipush 96, 2, [], .null)), (63, (.iaload, 1, [], .null)), (64, (.iload_n 3, 1, [], .null)), (65, (.iadd, 1, [], .null)), (66, (.iconst 1, 1, [], .null)), (67, (.isub, 1, [], .null)), (68, (.istore 4, 2, [], .null)), (70, (.aload_n 0, 1, [], .null)), (71, (.iload 4, 2, [], .null)), (73, (.invokevirtual 283, 3, [1, 201, 1, 12, 1689, 74, 1691], .null)), (76, (.ifCond .eq 6, 3, [82], .null)), (79, (.iload 4, 2, [], .null)), (81, (.istore_n 2, 1, [], .null))]),
  (105, [(82, (.iload 4, 2, [], .null)), (84, (.iload_n 2, 1, [], .null)), (85, (.isub, 1, [], .null)), (86, (.aload_n 0, 1, [], .null)), (87, (.getfield 33, 3, [12, 6, 1330], .null)), (90, (.iconst 2, 1, [], .null)), (91, (.iaload, 1, [], .null)), (92, (.if_icmp .lt 5, 3, [97], .null)), (95, (.iload_n 3, 1, [], .null)), (96, (.ireturn, 1, [], .null)), (97, (.iinc 3 1, 3, [], .null)), (100, (.goto (-65), 3, [35], .null)), (103, (.iconst (-1), 1, [], .null)), (104, (.ireturn, 1, [], .null))])])
def md_232 : ri_M × ri_T := ((yX12_pupils, cX12_pupils, 4, (some .int), RX12, 0, 0), [
  (22, [(0, (.aload_n 0, 1, [], .null)), (1, (.iconst 0, 1, [], .null)), (2, (.putfield 1, 3, [12, 0, 1324, 0], .null)), (5, (.aload_n 0, 1, [], .null)), (6, (.iload_n 1, 1, [], .null)), (7, (.invokevirtual 289, 3, [1, 177, 1, 12, 1614, 59, 1616], .null)), (10, (.ifCond .ne 5, 3, [15], .null)), (13, (.iconst (-1), 1, [], .null)), (14, (.ireturn, 1, [], .null)), (15, (.iconst 0, 1, [], .null)), (16, (.istore_n 2, 1, [], .null)), (17, (.iconst 0, 1, [], .null)), (18, (.istore_n 3, 1, [], .null)), (19, (.iload_n 3, 1, [], .null)), (20, (.aload_n 0, 1, [], .null)), (21, (.getfield 33, 3, [12, 6, 1330], .null))]),
  (47, [(24, (.iconst 4, 1, [], .null)), (25, (.iaload, 1, [], .null)), (26, (.if_icmp .ge 34, 3, [60], .null)), (29, (.iload_n 2, 1, [], .null)), (30, (.aload_n 0, 1, [], .null)), (31, (.getfield 33, 3, [12, 6, 1330], .null)), (34, (.bipush 108, 2, [], .null)), (36, (.iload_n 3, 1, [], .null)), (37, (.iadd, 1, [], .null)), (38, (.iaload, 1, [], .null)), (39, (.iconst 1, 1, [], .null)), (40, (.iload_n 1, 1, [], .null)), (41, (.ishl, 1, [], .null)), (42, (.if_icmp .ne 9, 3, [51], .null)), (45, (.iconst 1, 1, [], .null)), (46, (.iload_n 3, 1, [], .null))]),
  (62, [(47, (.ishl, 1, [], .null)), (48, (.goto 4, 3, [52], .null)), (51, (.iconst 0, 1, [], .null)), (52, (.ior, 1, [], .null)), (53, (.istore_n 2, 1, [], .null)), (54, (.iinc 3 1, 3, [], .null)), (57, (.goto (-38), 3, [19], .null)), (60, (.iload_n 2, 1, [], .null)), (61, (.ireturn, 1, [], .null))])])
def md_233 : ri_M × ri_T := ((yX12_ice, cX12_ice, 2, (some .int), RX12, 0, 0), [
  (25, [(0, (.aload_n 0, 1, [], .null)), (1, (.iconst 0, 1, [], .null)), (2, (.putfield 1, 3, [12, 0, 1324, 0], .null)), (5, (.aload_n 0, 1, [], .null)), (6, (.getfield 33, 3, [12, 6, 1330], .null)), (9, (.bipush 8, 2, [], .null)), (11, (.iaload, 1, [], .null)), (12, (.ifCond .ge 5, 3, [17], .null)), (15, (.iconst (-1), 1, [], .null)), (16, (.ireturn, 1, [], .null)), (17, (.iconst 0, 1, [], .null)), (18, (.istore_n 1, 1, [], .null)), (19, (.aload_n 0, 1, [], .null)), (20, (.aload_n 0, 1, [], .null)), (21, (.getfield 33, 3, [12, 6, 1330], .null)), (24, (.bipush 96, 2, [], .null))]),
  (43, [(26, (.iaload, 1, [], .null)), (27, (.iload_n 1, 1, [], .null)), (28, (.iadd, 1, [], .null)), (29, (.invokevirtual 255, 3, [1, 184, 1, 12, 1598, 56, 1600], .null)), (32, (.ifCond .ne 9, 3, [41], .null)), (35, (.iinc 1 1, 3, [], .null)), (38, (.goto (-19), 3, [19], .null)), (41, (.iload_n 1, 1, [], .null)), (42, (.ireturn, 1, [], .null))])])
def md_234 : ri_M × ri_T := ((yX12_draw, cX12_draw, 2, (some .int), RX12, 0, 0), [
  (26, [(0, (.aload_n 0, 1, [], .null)), (1, (.aload_n 0, 1, [], .null)), (2, (.getfield 368, 3, [12, 34, 1358], .null)), (5, (.ldc_w 371, 3, [1809], .int 1103515245)), (8, (.imul, 1, [], .null)), (9, (.sipush 12345, 3, [], .null)), (12, (.iadd, 1, [], .null)), (13, (.putfield 368, 3, [12, 34, 1358, 0], .null)), (16, (.aload_n 0, 1, [], .null)), (17, (.getfield 368, 3, [12, 34, 1358], .null)), (20, (.bipush 8, 2, [], .null)), (22, (.iushr, 1, [], .null)), (23, (.iload_n 1, 1, [], .null)), (24, (.irem, 1, [], .null)), (25, (.ireturn, 1, [], .null))])])
def md_235 : ri_M × ri_T := ((yX12_draws, cX12_draws, 6, (some .int), RX12, 0, 0), [
  (27, [(0, (.aload_n 0, 1, [], .null)), (1, (.iload_n 2, 1, [], .null)), (2, (.putfield 368, 3, [12, 34, 1358, 0], .null)), (5, (.iconst 0, 1, [], .null)), (6, (.istore_n 3, 1, [], .null)), (7, (.iload_n 3, 1, [], .null)), (8, (.iload_n 1, 1, [], .null)), (9, (.if_icmp .ge 119, 3, [128], .null)), (12, (.aload_n 0, 1, [], .null)), (13, (.getfield 33, 3, [12, 6, 1330], .null)), (16, (.bipush 96, 2, [], .null)), (18, (.iaload, 1, [], .null)), (19, (.sipush 600, 3, [], .null)), (22, (.if_icmp .ge 106, 3, [128], .null)), (25, (.iconst 0, 1, [], .null)), (26, (.istore 4, 2, [], .null))]),
  (57, [(28, (.iload 4, 2, [], .null)), (30, (.aload_n 0, 1, [], .null)), (31, (.getfield 33, 3, [12, 6, 1330], .null)), (34, (.iconst 5, 1, [], .null)), (35, (.iaload, 1, [], .null)), (36, (.if_icmp .ge 49, 3, [85], .null)), (39, (.aload_n 0, 1, [], .null)), (40, (.iconst 2, 1, [], .null)), (41, (.invokevirtual 372, 3, [1, 234, 1, 12, 1805, 85, 1807], .null)), (44, (.ifCond .le 6, 3, [50], .null)), (47, (.goto 32, 3, [79], .null)), (50, (.aload_n 0, 1, [], .null)), (51, (.aload_n 0, 1, [], .null)), (52, (.getfield 33, 3, [12, 6, 1330], .null)), (55, (.iconst 4, 1, [], .null)), (56, (.iaload, 1, [], .null))]),
  (91, [(57, (.invokevirtual 372, 3, [1, 234, 1, 12, 1805, 85, 1807], .null)), (60, (.istore 5, 2, [], .null)), (62, (.aload_n 0, 1, [], .null)), (63, (.iload 5, 2, [], .null)), (65, (.invokevirtual 292, 3, [1, 194, 1, 12, 1618, 60, 1620], .null)), (68, (.ifCond .ne 11, 3, [79], .null)), (71, (.aload_n 0, 1, [], .null)), (72, (.iload 4, 2, [], .null)), (74, (.iload 5, 2, [], .null)), (76, (.invokevirtual 299, 3, [1, 195, 2, 12, 1626, 62, 1628], .null)), (79, (.iinc 4 1, 3, [], .null)), (82, (.goto (-54), 3, [28], .null)), (85, (.aload_n 0, 1, [], .null)), (86, (.iconst 3, 1, [], .null)), (87, (.invokevirtual 372, 3, [1, 234, 1, 12, 1805, 85, 1807], .null)), (90, (.ifCond .ne 28, 3, [118], .null))]),
  (123, [(93, (.aload_n 0, 1, [], .null)), (94, (.aload_n 0, 1, [], .null)), (95, (.getfield 33, 3, [12, 6, 1330], .null)), (98, (.iconst 3, 1, [], .null)), (99, (.iaload, 1, [], .null)), (100, (.invokevirtual 372, 3, [1, 234, 1, 12, 1805, 85, 1807], .null)), (103, (.istore 4, 2, [], .null)), (105, (.aload_n 0, 1, [], .null)), (106, (.invokevirtual 305, 3, [1, 196, 0, 12, 1638, 64, 1640], .null)), (109, (.ifCond .ne 9, 3, [118], .null)), (112, (.aload_n 0, 1, [], .null)), (113, (.iload 4, 2, [], .null)), (115, (.invokevirtual 308, 3, [1, 197, 1, 12, 1642, 65, 1644], .null)), (118, (.aload_n 0, 1, [], .null)), (119, (.invokevirtual 286, 3, [1, 203, 0, 12, 1677, 71, 1679], .null)), (122, (.iinc 3 1, 3, [], .null))]),
  (130, [(125, (.goto (-118), 3, [7], .null)), (128, (.iload_n 3, 1, [], .null)), (129, (.ireturn, 1, [], .null))])])
def md_236 : ri_M × ri_T := ((yX12_drawn, cX12_drawn, 3, (some .int), RX12, 0, 0), [
  (27, [(0, (.aload_n 0, 1, [], .null)), (1, (.iconst 0, 1, [], .null)), (2, (.putfield 1, 3, [12, 0, 1324, 0], .null)), (5, (.iload_n 1, 1, [], .null)), (6, (.iconst 1, 1, [], .null)), (7, (.bipush 60, 2, [], .null)), (9, (.invokestatic 177, 3, [3, 149, 3, 0, 1519, 1520], .null)), (12, (.ifCond .eq 12, 3, [24], .null)), (15, (.aload_n 0, 1, [], .null)), (16, (.getfield 33, 3, [12, 6, 1330], .null)), (19, (.iconst 4, 1, [], .null)), (20, (.iaload, 1, [], .null)), (21, (.ifCond .ne 5, 3, [26], .null)), (24, (.iconst (-1), 1, [], .null)), (25, (.ireturn, 1, [], .null)), (26, (.aload_n 0, 1, [], .null))]),
  (50, [(27, (.getfield 33, 3, [12, 6, 1330], .null)), (30, (.bipush 96, 2, [], .null)), (32, (.iaload, 1, [], .null)), (33, (.sipush 600, 3, [], .null)), (36, (.if_icmp .ge 7, 3, [43], .null)), (39, (.aload_n 0, 1, [], .null)), (40, (.invokevirtual 296, 3, [1, 209, 0, 12, 1622, 61, 1624], .null)), (43, (.aload_n 0, 1, [], .null)), (44, (.iload_n 1, 1, [], .null)), (45, (.iload_n 2, 1, [], .null)), (46, (.invokevirtual 375, 3, [1, 235, 2, 12, 1801, 84, 1803], .null)), (49, (.ireturn, 1, [], .null))])])
def md_237 : ri_M × ri_T := ((yX12_odds, cX12_odds, 6, (some .int), RX12, 0, 0), [
  (27, [(0, (.aload_n 0, 1, [], .null)), (1, (.iconst 0, 1, [], .null)), (2, (.putfield 1, 3, [12, 0, 1324, 0], .null)), (5, (.aload_n 0, 1, [], .null)), (6, (.iload_n 1, 1, [], .null)), (7, (.invokevirtual 239, 3, [1, 176, 1, 12, 1558, 50, 1560], .null)), (10, (.ifCond .eq 13, 3, [23], .null)), (13, (.iload_n 2, 1, [], .null)), (14, (.iconst 1, 1, [], .null)), (15, (.bipush 30, 2, [], .null)), (17, (.invokestatic 177, 3, [3, 149, 3, 0, 1519, 1520], .null)), (20, (.ifCond .ne 5, 3, [25], .null)), (23, (.iconst (-1), 1, [], .null)), (24, (.ireturn, 1, [], .null)), (25, (.aload_n 0, 1, [], .null)), (26, (.invokevirtual 378, 3, [1, 211, 0, 12, 1814, 86, 1816], .null))]),
  (55, [(29, (.iconst 0, 1, [], .null)), (30, (.istore 4, 2, [], .null)), (32, (.iconst 0, 1, [], .null)), (33, (.istore 5, 2, [], .null)), (35, (.iload 5, 2, [], .null)), (37, (.iload_n 2, 1, [], .null)), (38, (.if_icmp .ge 42, 3, [80], .null)), (41, (.aload_n 0, 1, [], .null)), (42, (.bipush 30, 2, [], .null)), (44, (.iload_n 3, 1, [], .null)), (45, (.iload 5, 2, [], .null)), (47, (.iadd, 1, [], .null)), (48, (.invokevirtual 375, 3, [1, 235, 2, 12, 1801, 84, 1803], .null)), (51, (.pop, 1, [], .null)), (52, (.iload 4, 2, [], .null)), (54, (.aload_n 0, 1, [], .null))]),
  (83, [(55, (.iload_n 1, 1, [], .null)), (56, (.invokevirtual 236, 3, [1, 180, 1, 12, 1566, 52, 1568], .null)), (59, (.ifCond .eq 7, 3, [66], .null)), (62, (.iconst 1, 1, [], .null)), (63, (.goto 4, 3, [67], .null)), (66, (.iconst 0, 1, [], .null)), (67, (.iadd, 1, [], .null)), (68, (.istore 4, 2, [], .null)), (70, (.aload_n 0, 1, [], .null)), (71, (.invokevirtual 381, 3, [1, 212, 0, 12, 1818, 87, 1820], .null)), (74, (.iinc 5 1, 3, [], .null)), (77, (.goto (-42), 3, [35], .null)), (80, (.iload 4, 2, [], .null)), (82, (.ireturn, 1, [], .null))])])
def md_238 : ri_M × ri_T := ((yX12_diaryLine, cX12_diaryLine, 5, (some .boolean), RX12, 0, 0), [
  (30, [(0, (.iconst 3, 1, [], .null)), (1, (.aload_n 0, 1, [], .null)), (2, (.getfield 384, 3, [12, 35, 1359], .null)), (5, (.imul, 1, [], .null)), (6, (.istore_n 1, 1, [], .null)), (7, (.aload_n 0, 1, [], .null)), (8, (.ldc2_w 104, 3, [1306], .long 491395114867)), (11, (.invokevirtual 202, 3, [1, 160, 1, 12, 1496, 38, 1498], .null)), (14, (.istore_n 2, 1, [], .null)), (15, (.iload_n 2, 1, [], .null)), (16, (.ifCond .ne 13, 3, [29], .null)), (19, (.aload_n 0, 1, [], .null)), (20, (.ldc2_w 108, 3, [1308], .long 6578553)), (23, (.invokevirtual 202, 3, [1, 160, 1, 12, 1496, 38, 1498], .null)), (26, (.ifCond .eq 90, 3, [116], .null)), (29, (.aload_n 0, 1, [], .null))]),
  (59, [(30, (.getfield 384, 3, [12, 35, 1359], .null)), (33, (.bipush 40, 2, [], .null)), (35, (.if_icmp .ne 9, 3, [44], .null)), (38, (.aload_n 0, 1, [], .null)), (39, (.iconst 4, 1, [], .null)), (40, (.invokevirtual 171, 3, [1, 159, 1, 12, 1507, 40, 1509], .null)), (43, (.ireturn, 1, [], .null)), (44, (.aload_n 0, 1, [], .null)), (45, (.getfield 40, 3, [12, 8, 1332], .null)), (48, (.iload_n 1, 1, [], .null)), (49, (.iload_n 2, 1, [], .null)), (50, (.ifCond .eq 7, 3, [57], .null)), (53, (.iconst 1, 1, [], .null)), (54, (.goto 4, 3, [58], .null)), (57, (.iconst 3, 1, [], .null)), (58, (.iastore, 1, [], .null))]),
  (85, [(59, (.aload_n 0, 1, [], .null)), (60, (.invokevirtual 174, 3, [1, 158, 0, 12, 1478, 35, 1480], .null)), (63, (.iload_n 2, 1, [], .null)), (64, (.ifCond .eq 26, 3, [90], .null)), (67, (.aload_n 0, 1, [], .null)), (68, (.iconst 0, 1, [], .null)), (69, (.aload_n 0, 1, [], .null)), (70, (.getfield 33, 3, [12, 6, 1330], .null)), (73, (.iconst 3, 1, [], .null)), (74, (.iaload, 1, [], .null)), (75, (.invokevirtual 218, 3, [1, 168, 2, 12, 1538, 47, 1540], .null)), (78, (.ifCond .ne 5, 3, [83], .null)), (81, (.iconst 0, 1, [], .null)), (82, (.ireturn, 1, [], .null)), (83, (.aload_n 0, 1, [], .null)), (84, (.invokevirtual 174, 3, [1, 158, 0, 12, 1478, 35, 1480], .null))]),
  (114, [(87, (.goto 15, 3, [102], .null)), (90, (.aload_n 0, 1, [], .null)), (91, (.iconst 1, 1, [], .null)), (92, (.bipush 60, 2, [], .null)), (94, (.invokevirtual 184, 3, [1, 164, 2, 12, 1515, 42, 1517], .null)), (97, (.ifCond .ne 5, 3, [102], .null)), (100, (.iconst 0, 1, [], .null)), (101, (.ireturn, 1, [], .null)), (102, (.aload_n 0, 1, [], .null)), (103, (.getfield 40, 3, [12, 8, 1332], .null)), (106, (.iload_n 1, 1, [], .null)), (107, (.iconst 1, 1, [], .null)), (108, (.iadd, 1, [], .null)), (109, (.aload_n 0, 1, [], .null)), (110, (.getfield 181, 3, [12, 18, 1342], .null)), (113, (.iastore, 1, [], .null))]),
  (139, [(114, (.iconst 1, 1, [], .null)), (115, (.ireturn, 1, [], .null)), (116, (.aload_n 0, 1, [], .null)), (117, (.invokevirtual 188, 3, [1, 163, 0, 12, 1526, 44, 1528], .null)), (120, (.ifCond .ne 9, 3, [129], .null)), (123, (.aload_n 0, 1, [], .null)), (124, (.iconst 1, 1, [], .null)), (125, (.invokevirtual 171, 3, [1, 159, 1, 12, 1507, 40, 1509], .null)), (128, (.ireturn, 1, [], .null)), (129, (.aload_n 0, 1, [], .null)), (130, (.bipush 14, 2, [], .null)), (132, (.aload_n 0, 1, [], .null)), (133, (.getfield 33, 3, [12, 6, 1330], .null)), (136, (.iconst 5, 1, [], .null)), (137, (.iaload, 1, [], .null)), (138, (.invokevirtual 192, 3, [1, 166, 2, 12, 1530, 45, 1532], .null))]),
  (169, [(141, (.istore_n 3, 1, [], .null)), (142, (.aload_n 0, 1, [], .null)), (143, (.bipush 18, 2, [], .null)), (145, (.aload_n 0, 1, [], .null)), (146, (.getfield 33, 3, [12, 6, 1330], .null)), (149, (.bipush 6, 2, [], .null)), (151, (.iaload, 1, [], .null)), (152, (.invokevirtual 192, 3, [1, 166, 2, 12, 1530, 45, 1532], .null)), (155, (.istore 4, 2, [], .null)), (157, (.iload_n 3, 1, [], .null)), (158, (.ifCond .ge 14, 3, [172], .null)), (161, (.iload 4, 2, [], .null)), (163, (.ifCond .ge 9, 3, [172], .null)), (166, (.aload_n 0, 1, [], .null)), (167, (.iconst 3, 1, [], .null)), (168, (.invokevirtual 171, 3, [1, 159, 1, 12, 1507, 40, 1509], .null))]),
  (198, [(171, (.ireturn, 1, [], .null)), (172, (.aload_n 0, 1, [], .null)), (173, (.getfield 384, 3, [12, 35, 1359], .null)), (176, (.bipush 40, 2, [], .null)), (178, (.if_icmp .ne 9, 3, [187], .null)), (181, (.aload_n 0, 1, [], .null)), (182, (.iconst 4, 1, [], .null)), (183, (.invokevirtual 171, 3, [1, 159, 1, 12, 1507, 40, 1509], .null)), (186, (.ireturn, 1, [], .null)), (187, (.aload_n 0, 1, [], .null)), (188, (.getfield 40, 3, [12, 8, 1332], .null)), (191, (.iload_n 1, 1, [], .null)), (192, (.iload_n 3, 1, [], .null)), (193, (.ifCond .ge 7, 3, [200], .null)), (196, (.iconst 2, 1, [], .null)), (197, (.goto 4, 3, [201], .null))]),
  (225, [(200, (.iconst 0, 1, [], .null)), (201, (.iastore, 1, [], .null)), (202, (.aload_n 0, 1, [], .null)), (203, (.getfield 40, 3, [12, 8, 1332], .null)), (206, (.iload_n 1, 1, [], .null)), (207, (.iconst 1, 1, [], .null)), (208, (.iadd, 1, [], .null)), (209, (.iload_n 3, 1, [], .null)), (210, (.ifCond .ge 8, 3, [218], .null)), (213, (.iload 4, 2, [], .null)), (215, (.goto 4, 3, [219], .null)), (218, (.iload_n 3, 1, [], .null)), (219, (.iastore, 1, [], .null)), (220, (.aload_n 0, 1, [], .null)), (221, (.invokevirtual 174, 3, [1, 158, 0, 12, 1478, 35, 1480], .null)), (224, (.aload_n 0, 1, [], .null))]),
  (259, [(225, (.iload_n 3, 1, [], .null)), (226, (.ifCond .ge 9, 3, [235], .null)), (229, (.ldc2_w 106, 3, [1307], .long 495555538035)), (232, (.goto 6, 3, [238], .null)), (235, (.ldc2_w 102, 3, [1305], .long 495673374579)), (238, (.invokevirtual 202, 3, [1, 160, 1, 12, 1496, 38, 1498], .null)), (241, (.ifCond .ne 9, 3, [250], .null)), (244, (.aload_n 0, 1, [], .null)), (245, (.iconst 1, 1, [], .null)), (246, (.invokevirtual 171, 3, [1, 159, 1, 12, 1507, 40, 1509], .null)), (249, (.ireturn, 1, [], .null)), (250, (.aload_n 0, 1, [], .null)), (251, (.invokevirtual 174, 3, [1, 158, 0, 12, 1478, 35, 1480], .null)), (254, (.iload_n 3, 1, [], .null)), (255, (.ifCond .ge 15, 3, [270], .null)), (258, (.aload_n 0, 1, [], .null))]),
  (287, [(259, (.iconst 0, 1, [], .null)), (260, (.bipush 7, 2, [], .null)), (262, (.invokevirtual 184, 3, [1, 164, 2, 12, 1515, 42, 1517], .null)), (265, (.ifCond .ne 26, 3, [291], .null)), (268, (.iconst 0, 1, [], .null)), (269, (.ireturn, 1, [], .null)), (270, (.aload_n 0, 1, [], .null)), (271, (.bipush 6, 2, [], .null)), (273, (.aload_n 0, 1, [], .null)), (274, (.getfield 33, 3, [12, 6, 1330], .null)), (277, (.iconst 4, 1, [], .null)), (278, (.iaload, 1, [], .null)), (279, (.invokevirtual 218, 3, [1, 168, 2, 12, 1538, 47, 1540], .null)), (282, (.ifCond .ne 5, 3, [287], .null)), (285, (.iconst 0, 1, [], .null)), (286, (.ireturn, 1, [], .null))]),
  (305, [(287, (.aload_n 0, 1, [], .null)), (288, (.invokevirtual 174, 3, [1, 158, 0, 12, 1478, 35, 1480], .null)), (291, (.aload_n 0, 1, [], .null)), (292, (.getfield 40, 3, [12, 8, 1332], .null)), (295, (.iload_n 1, 1, [], .null)), (296, (.iconst 2, 1, [], .null)), (297, (.iadd, 1, [], .null)), (298, (.aload_n 0, 1, [], .null)), (299, (.getfield 181, 3, [12, 18, 1342], .null)), (302, (.iastore, 1, [], .null)), (303, (.iconst 1, 1, [], .null)), (304, (.ireturn, 1, [], .null))])])
def md_239 : ri_M × ri_T := ((yX12_lives, cX12_lives, 5, (some .int), RX12, 0, 0), [
  (30, [(0, (.iload_n 1, 1, [], .null)), (1, (.ifCond .ne 11, 3, [12], .null)), (4, (.aload_n 0, 1, [], .null)), (5, (.iload_n 3, 1, [], .null)), (6, (.invokevirtual 292, 3, [1, 194, 1, 12, 1618, 60, 1620], .null)), (9, (.goto 62, 3, [71], .null)), (12, (.iload_n 1, 1, [], .null)), (13, (.iconst 1, 1, [], .null)), (14, (.if_icmp .ne 10, 3, [24], .null)), (17, (.aload_n 0, 1, [], .null)), (18, (.invokevirtual 305, 3, [1, 196, 0, 12, 1638, 64, 1640], .null)), (21, (.goto 50, 3, [71], .null)), (24, (.iload_n 1, 1, [], .null)), (25, (.iconst 2, 1, [], .null)), (26, (.if_icmp .ne 25, 3, [51], .null)), (29, (.aload_n 0, 1, [], .null))]),
  (60, [(30, (.iload_n 3, 1, [], .null)), (31, (.invokevirtual 249, 3, [1, 174, 1, 12, 1586, 54, 1588], .null)), (34, (.ifCond .eq 12, 3, [46], .null)), (37, (.aload_n 0, 1, [], .null)), (38, (.iload_n 2, 1, [], .null)), (39, (.iload_n 3, 1, [], .null)), (40, (.invokevirtual 311, 3, [1, 198, 2, 12, 1661, 68, 1663], .null)), (43, (.goto 28, 3, [71], .null)), (46, (.bipush 9, 2, [], .null)), (48, (.goto 23, 3, [71], .null)), (51, (.aload_n 0, 1, [], .null)), (52, (.getfield 33, 3, [12, 6, 1330], .null)), (55, (.bipush 96, 2, [], .null)), (57, (.iaload, 1, [], .null)), (58, (.iload_n 2, 1, [], .null)), (59, (.iadd, 1, [], .null))]),
  (88, [(60, (.sipush 600, 3, [], .null)), (63, (.if_icmp .le 7, 3, [70], .null)), (66, (.iconst 1, 1, [], .null)), (67, (.goto 4, 3, [71], .null)), (70, (.iconst 0, 1, [], .null)), (71, (.istore 4, 2, [], .null)), (73, (.iload 4, 2, [], .null)), (75, (.ifCond .le 11, 3, [86], .null)), (78, (.bipush 10, 2, [], .null)), (80, (.iload_n 1, 1, [], .null)), (81, (.imul, 1, [], .null)), (82, (.iload 4, 2, [], .null)), (84, (.iadd, 1, [], .null)), (85, (.ireturn, 1, [], .null)), (86, (.iload_n 1, 1, [], .null)), (87, (.ifCond .ne 12, 3, [99], .null))]),
  (118, [(90, (.aload_n 0, 1, [], .null)), (91, (.iload_n 2, 1, [], .null)), (92, (.iload_n 3, 1, [], .null)), (93, (.invokevirtual 299, 3, [1, 195, 2, 12, 1626, 62, 1628], .null)), (96, (.goto 36, 3, [132], .null)), (99, (.iload_n 1, 1, [], .null)), (100, (.iconst 1, 1, [], .null)), (101, (.if_icmp .ne 11, 3, [112], .null)), (104, (.aload_n 0, 1, [], .null)), (105, (.iload_n 2, 1, [], .null)), (106, (.invokevirtual 308, 3, [1, 197, 1, 12, 1642, 65, 1644], .null)), (109, (.goto 23, 3, [132], .null)), (112, (.iload_n 1, 1, [], .null)), (113, (.iconst 2, 1, [], .null)), (114, (.if_icmp .ne 12, 3, [126], .null)), (117, (.aload_n 0, 1, [], .null))]),
  (134, [(118, (.iload_n 2, 1, [], .null)), (119, (.iload_n 3, 1, [], .null)), (120, (.invokevirtual 314, 3, [1, 199, 2, 12, 1665, 69, 1667], .null)), (123, (.goto 9, 3, [132], .null)), (126, (.aload_n 0, 1, [], .null)), (127, (.iload_n 2, 1, [], .null)), (128, (.invokevirtual 317, 3, [1, 204, 1, 12, 1673, 70, 1675], .null)), (131, (.pop, 1, [], .null)), (132, (.iconst 0, 1, [], .null)), (133, (.ireturn, 1, [], .null))])])
def md_240 : ri_M × ri_T := ((yX12_diary, cX12_diary, 4, (some .int), RX12, 0, 0), [
  (28, [(0, (.aload_n 0, 1, [], .null)), (1, (.iconst 0, 1, [], .null)), (2, (.putfield 1, 3, [12, 0, 1324, 0], .null)), (5, (.iload_n 1, 1, [], .null)), (6, (.iconst 0, 1, [], .null)), (7, (.iconst 1, 1, [], .null)), (8, (.invokestatic 177, 3, [3, 149, 3, 0, 1519, 1520], .null)), (11, (.ifCond .ne 7, 3, [18], .null)), (14, (.sipush (-1000), 3, [], .null)), (17, (.ireturn, 1, [], .null)), (18, (.aload_n 0, 1, [], .null)), (19, (.sipush 400, 3, [], .null)), (22, (.invokevirtual 221, 3, [1, 148, 1, 12, 1474, 34, 1476], .null)), (25, (.aload_n 0, 1, [], .null)), (26, (.iconst 0, 1, [], .null)), (27, (.putfield 162, 3, [12, 15, 1339, 0], .null))]),
  (63, [(30, (.aload_n 0, 1, [], .null)), (31, (.iconst 0, 1, [], .null)), (32, (.putfield 384, 3, [12, 35, 1359, 0], .null)), (35, (.aload_n 0, 1, [], .null)), (36, (.invokevirtual 174, 3, [1, 158, 0, 12, 1478, 35, 1480], .null)), (39, (.aload_n 0, 1, [], .null)), (40, (.getfield 145, 3, [12, 11, 1335], .null)), (43, (.ifCond .eq 40, 3, [83], .null)), (46, (.aload_n 0, 1, [], .null)), (47, (.invokevirtual 387, 3, [1, 238, 0, 12, 1826, 88, 1828], .null)), (50, (.ifCond .eq 12, 3, [62], .null)), (53, (.aload_n 0, 1, [], .null)), (54, (.bipush 59, 2, [], .null)), (56, (.invokevirtual 230, 3, [1, 162, 1, 12, 1546, 49, 1548], .null)), (59, (.ifCond .ne 11, 3, [70], .null)), (62, (.bipush (-2), 2, [], .null))]),
  (90, [(64, (.aload_n 0, 1, [], .null)), (65, (.getfield 165, 3, [12, 16, 1340], .null)), (68, (.isub, 1, [], .null)), (69, (.ireturn, 1, [], .null)), (70, (.aload_n 0, 1, [], .null)), (71, (.dup, 1, [], .null)), (72, (.getfield 384, 3, [12, 35, 1359], .null)), (75, (.iconst 1, 1, [], .null)), (76, (.iadd, 1, [], .null)), (77, (.putfield 384, 3, [12, 35, 1359, 0], .null)), (80, (.goto (-41), 3, [39], .null)), (83, (.aload_n 0, 1, [], .null)), (84, (.invokevirtual 378, 3, [1, 211, 0, 12, 1814, 86, 1816], .null)), (87, (.iconst 0, 1, [], .null)), (88, (.istore_n 2, 1, [], .null)), (89, (.iload_n 2, 1, [], .null))]),
  (114, [(90, (.iconst 4, 1, [], .null)), (91, (.if_icmp .ge 16, 3, [107], .null)), (94, (.aload_n 0, 1, [], .null)), (95, (.getfield 66, 3, [12, 36, 1360], .null)), (98, (.iload_n 2, 1, [], .null)), (99, (.iconst 0, 1, [], .null)), (100, (.iastore, 1, [], .null)), (101, (.iinc 2 1, 3, [], .null)), (104, (.goto (-15), 3, [89], .null)), (107, (.iconst (-1), 1, [], .null)), (108, (.istore_n 2, 1, [], .null)), (109, (.iconst 0, 1, [], .null)), (110, (.istore_n 3, 1, [], .null)), (111, (.iload_n 3, 1, [], .null)), (112, (.aload_n 0, 1, [], .null)), (113, (.getfield 384, 3, [12, 35, 1359], .null))]),
  (142, [(116, (.if_icmp .ge 75, 3, [191], .null)), (119, (.iload_n 2, 1, [], .null)), (120, (.ifCond .ge 71, 3, [191], .null)), (123, (.aload_n 0, 1, [], .null)), (124, (.getfield 66, 3, [12, 36, 1360], .null)), (127, (.iconst 0, 1, [], .null)), (128, (.aload_n 0, 1, [], .null)), (129, (.aload_n 0, 1, [], .null)), (130, (.getfield 40, 3, [12, 8, 1332], .null)), (133, (.iconst 3, 1, [], .null)), (134, (.iload_n 3, 1, [], .null)), (135, (.imul, 1, [], .null)), (136, (.iaload, 1, [], .null)), (137, (.aload_n 0, 1, [], .null)), (138, (.getfield 40, 3, [12, 8, 1332], .null)), (141, (.iconst 3, 1, [], .null))]),
  (162, [(142, (.iload_n 3, 1, [], .null)), (143, (.imul, 1, [], .null)), (144, (.iconst 1, 1, [], .null)), (145, (.iadd, 1, [], .null)), (146, (.iaload, 1, [], .null)), (147, (.aload_n 0, 1, [], .null)), (148, (.getfield 40, 3, [12, 8, 1332], .null)), (151, (.iconst 3, 1, [], .null)), (152, (.iload_n 3, 1, [], .null)), (153, (.imul, 1, [], .null)), (154, (.iconst 2, 1, [], .null)), (155, (.iadd, 1, [], .null)), (156, (.iaload, 1, [], .null)), (157, (.invokevirtual 390, 3, [1, 239, 3, 12, 1830, 89, 1832], .null)), (160, (.iastore, 1, [], .null)), (161, (.aload_n 0, 1, [], .null))]),
  (186, [(162, (.getfield 66, 3, [12, 36, 1360], .null)), (165, (.iconst 0, 1, [], .null)), (166, (.iaload, 1, [], .null)), (167, (.ifCond .le 8, 3, [175], .null)), (170, (.iload_n 3, 1, [], .null)), (171, (.istore_n 2, 1, [], .null)), (172, (.goto 13, 3, [185], .null)), (175, (.aload_n 0, 1, [], .null)), (176, (.getfield 66, 3, [12, 36, 1360], .null)), (179, (.iconst 1, 1, [], .null)), (180, (.dup2, 1, [], .null)), (181, (.iaload, 1, [], .null)), (182, (.iconst 1, 1, [], .null)), (183, (.iadd, 1, [], .null)), (184, (.iastore, 1, [], .null)), (185, (.iinc 3 1, 3, [], .null))]),
  (215, [(188, (.goto (-77), 3, [111], .null)), (191, (.aload_n 0, 1, [], .null)), (192, (.getfield 66, 3, [12, 36, 1360], .null)), (195, (.iconst 2, 1, [], .null)), (196, (.aload_n 0, 1, [], .null)), (197, (.getfield 33, 3, [12, 6, 1330], .null)), (200, (.bipush 96, 2, [], .null)), (202, (.iaload, 1, [], .null)), (203, (.iastore, 1, [], .null)), (204, (.aload_n 0, 1, [], .null)), (205, (.getfield 66, 3, [12, 36, 1360], .null)), (208, (.iconst 3, 1, [], .null)), (209, (.aload_n 0, 1, [], .null)), (210, (.invokevirtual 258, 3, [1, 181, 0, 12, 1602, 57, 1604], .null)), (213, (.iastore, 1, [], .null)), (214, (.aload_n 0, 1, [], .null))]),
  (241, [(215, (.iconst 1, 1, [], .null)), (216, (.putfield 394, 3, [12, 37, 1361, 1], .null)), (219, (.iload_n 1, 1, [], .null)), (220, (.iconst 1, 1, [], .null)), (221, (.if_icmp .ne 52, 3, [273], .null)), (224, (.aload_n 0, 1, [], .null)), (225, (.getfield 66, 3, [12, 36, 1360], .null)), (228, (.iconst 1, 1, [], .null)), (229, (.iaload, 1, [], .null)), (230, (.ifCond .le 43, 3, [273], .null)), (233, (.aload_n 0, 1, [], .null)), (234, (.invokevirtual 296, 3, [1, 209, 0, 12, 1622, 61, 1624], .null)), (237, (.iconst 0, 1, [], .null)), (238, (.istore_n 3, 1, [], .null)), (239, (.iload_n 3, 1, [], .null)), (240, (.bipush 78, 2, [], .null))]),
  (267, [(242, (.if_icmp .ge 31, 3, [273], .null)), (245, (.aload_n 0, 1, [], .null)), (246, (.getfield 53, 3, [12, 23, 1347], .null)), (249, (.bipush 78, 2, [], .null)), (251, (.aload_n 0, 1, [], .null)), (252, (.getfield 233, 3, [12, 25, 1349], .null)), (255, (.iconst 1, 1, [], .null)), (256, (.isub, 1, [], .null)), (257, (.imul, 1, [], .null)), (258, (.iload_n 3, 1, [], .null)), (259, (.iadd, 1, [], .null)), (260, (.aload_n 0, 1, [], .null)), (261, (.getfield 56, 3, [12, 24, 1348], .null)), (264, (.iload_n 3, 1, [], .null)), (265, (.iaload, 1, [], .null)), (266, (.iastore, 1, [], .null))]),
  (283, [(267, (.iinc 3 1, 3, [], .null)), (270, (.goto (-31), 3, [239], .null)), (273, (.iload_n 1, 1, [], .null)), (274, (.ifCond .ne 7, 3, [281], .null)), (277, (.aload_n 0, 1, [], .null)), (278, (.invokevirtual 381, 3, [1, 212, 0, 12, 1818, 87, 1820], .null)), (281, (.iload_n 2, 1, [], .null)), (282, (.ireturn, 1, [], .null))])])
end
section
def md_241 : ri_M × ri_T := ((yX12_told, cX12_told, 2, (some .int), RX12, 0, 0), [
  (28, [(0, (.aload_n 0, 1, [], .null)), (1, (.iconst 0, 1, [], .null)), (2, (.putfield 1, 3, [12, 0, 1324, 0], .null)), (5, (.aload_n 0, 1, [], .null)), (6, (.getfield 394, 3, [12, 37, 1361], .null)), (9, (.ifCond .eq 21, 3, [30], .null)), (12, (.iload_n 1, 1, [], .null)), (13, (.iconst 0, 1, [], .null)), (14, (.iconst 3, 1, [], .null)), (15, (.invokestatic 177, 3, [3, 149, 3, 0, 1519, 1520], .null)), (18, (.ifCond .eq 12, 3, [30], .null)), (21, (.aload_n 0, 1, [], .null)), (22, (.getfield 66, 3, [12, 36, 1360], .null)), (25, (.iload_n 1, 1, [], .null)), (26, (.iaload, 1, [], .null)), (27, (.goto 4, 3, [31], .null))]),
  (32, [(30, (.iconst (-1), 1, [], .null)), (31, (.ireturn, 1, [], .null))])])
def md_242 : ri_M × ri_T := ((yX12_code, cX12_code, 4, none, RX12, 0, 0), [
  (24, [(0, (.aload_n 0, 1, [], .null)), (1, (.getfield 40, 3, [12, 8, 1332], .null)), (4, (.iconst 3, 1, [], .null)), (5, (.aload_n 0, 1, [], .null)), (6, (.getfield 397, 3, [12, 39, 1363], .null)), (9, (.imul, 1, [], .null)), (10, (.iload_n 1, 1, [], .null)), (11, (.iastore, 1, [], .null)), (12, (.aload_n 0, 1, [], .null)), (13, (.getfield 40, 3, [12, 8, 1332], .null)), (16, (.iconst 3, 1, [], .null)), (17, (.aload_n 0, 1, [], .null)), (18, (.getfield 397, 3, [12, 39, 1363], .null)), (21, (.imul, 1, [], .null)), (22, (.iconst 1, 1, [], .null)), (23, (.iadd, 1, [], .null))]),
  (46, [(24, (.iload_n 2, 1, [], .null)), (25, (.iastore, 1, [], .null)), (26, (.aload_n 0, 1, [], .null)), (27, (.getfield 40, 3, [12, 8, 1332], .null)), (30, (.iconst 3, 1, [], .null)), (31, (.aload_n 0, 1, [], .null)), (32, (.getfield 397, 3, [12, 39, 1363], .null)), (35, (.imul, 1, [], .null)), (36, (.iconst 2, 1, [], .null)), (37, (.iadd, 1, [], .null)), (38, (.iload_n 3, 1, [], .null)), (39, (.iastore, 1, [], .null)), (40, (.aload_n 0, 1, [], .null)), (41, (.dup, 1, [], .null)), (42, (.getfield 397, 3, [12, 39, 1363], .null)), (45, (.iconst 1, 1, [], .null))]),
  (51, [(46, (.iadd, 1, [], .null)), (47, (.putfield 397, 3, [12, 39, 1363, 0], .null)), (50, (.return_, 1, [], .null))])])
def md_243 : ri_M × ri_T := ((yX12_joins, cX12_joins, 2, none, RX12, 0, 0), [
  (29, [(0, (.aload_n 0, 1, [], .null)), (1, (.getfield 400, 3, [12, 41, 1365], .null)), (4, (.ifCond .le 69, 3, [73], .null)), (7, (.aload_n 0, 1, [], .null)), (8, (.getfield 69, 3, [12, 38, 1362], .null)), (11, (.aload_n 0, 1, [], .null)), (12, (.getfield 400, 3, [12, 41, 1365], .null)), (15, (.iconst 1, 1, [], .null)), (16, (.isub, 1, [], .null)), (17, (.iaload, 1, [], .null)), (18, (.bipush 21, 2, [], .null)), (20, (.if_icmp .eq 25, 3, [45], .null)), (23, (.aload_n 0, 1, [], .null)), (24, (.getfield 69, 3, [12, 38, 1362], .null)), (27, (.aload_n 0, 1, [], .null)), (28, (.getfield 400, 3, [12, 41, 1365], .null))]),
  (57, [(31, (.iconst 1, 1, [], .null)), (32, (.isub, 1, [], .null)), (33, (.iaload, 1, [], .null)), (34, (.bipush 22, 2, [], .null)), (36, (.if_icmp .ne 37, 3, [73], .null)), (39, (.iload_n 1, 1, [], .null)), (40, (.bipush 22, 2, [], .null)), (42, (.if_icmp .ne 31, 3, [73], .null)), (45, (.aload_n 0, 1, [], .null)), (46, (.dup, 1, [], .null)), (47, (.getfield 400, 3, [12, 41, 1365], .null)), (50, (.iconst 1, 1, [], .null)), (51, (.isub, 1, [], .null)), (52, (.putfield 400, 3, [12, 41, 1365, 0], .null)), (55, (.aload_n 0, 1, [], .null)), (56, (.aload_n 0, 1, [], .null))]),
  (74, [(57, (.getfield 69, 3, [12, 38, 1362], .null)), (60, (.aload_n 0, 1, [], .null)), (61, (.getfield 400, 3, [12, 41, 1365], .null)), (64, (.iaload, 1, [], .null)), (65, (.iconst 0, 1, [], .null)), (66, (.iconst 0, 1, [], .null)), (67, (.invokevirtual 403, 3, [1, 242, 3, 12, 1846, 91, 1848], .null)), (70, (.goto (-70), 3, [0], .null)), (73, (.return_, 1, [], .null))])])
def md_244 : ri_M × ri_T := ((yX12_nots, cX12_nots, 1, none, RX12, 0, 0), [
  (29, [(0, (.aload_n 0, 1, [], .null)), (1, (.getfield 400, 3, [12, 41, 1365], .null)), (4, (.ifCond .le 50, 3, [54], .null)), (7, (.aload_n 0, 1, [], .null)), (8, (.getfield 69, 3, [12, 38, 1362], .null)), (11, (.aload_n 0, 1, [], .null)), (12, (.getfield 400, 3, [12, 41, 1365], .null)), (15, (.iconst 1, 1, [], .null)), (16, (.isub, 1, [], .null)), (17, (.iaload, 1, [], .null)), (18, (.bipush 20, 2, [], .null)), (20, (.if_icmp .ne 34, 3, [54], .null)), (23, (.aload_n 0, 1, [], .null)), (24, (.dup, 1, [], .null)), (25, (.getfield 400, 3, [12, 41, 1365], .null)), (28, (.iconst 1, 1, [], .null))]),
  (55, [(29, (.isub, 1, [], .null)), (30, (.putfield 400, 3, [12, 41, 1365, 0], .null)), (33, (.aload_n 0, 1, [], .null)), (34, (.dup, 1, [], .null)), (35, (.getfield 407, 3, [12, 42, 1366], .null)), (38, (.iconst 1, 1, [], .null)), (39, (.isub, 1, [], .null)), (40, (.putfield 407, 3, [12, 42, 1366, 0], .null)), (43, (.aload_n 0, 1, [], .null)), (44, (.bipush 20, 2, [], .null)), (46, (.iconst 0, 1, [], .null)), (47, (.iconst 0, 1, [], .null)), (48, (.invokevirtual 403, 3, [1, 242, 3, 12, 1846, 91, 1848], .null)), (51, (.goto (-51), 3, [0], .null)), (54, (.return_, 1, [], .null))])])
def md_245 : ri_M × ri_T := ((yX12_leafOf, cX12_leafOf, 1, (some .int), RX12, 0, 0), [
  (36, [(0, (.aload_n 0, 1, [], .null)), (1, (.ldc2_w 116, 3, [1312], .long 461414299502)), (4, (.invokevirtual 202, 3, [1, 160, 1, 12, 1496, 38, 1498], .null)), (7, (.ifCond .eq 7, 3, [14], .null)), (10, (.iconst 0, 1, [], .null)), (11, (.goto 104, 3, [115], .null)), (14, (.aload_n 0, 1, [], .null)), (15, (.ldc2_w 118, 3, [1313], .long 500085055865)), (18, (.invokevirtual 202, 3, [1, 160, 1, 12, 1496, 38, 1498], .null)), (21, (.ifCond .eq 7, 3, [28], .null)), (24, (.iconst 1, 1, [], .null)), (25, (.goto 90, 3, [115], .null)), (28, (.aload_n 0, 1, [], .null)), (29, (.ldc2_w 120, 3, [1314], .long 24948)), (32, (.invokevirtual 202, 3, [1, 160, 1, 12, 1496, 38, 1498], .null)), (35, (.ifCond .eq 7, 3, [42], .null))]),
  (72, [(38, (.iconst 2, 1, [], .null)), (39, (.goto 76, 3, [115], .null)), (42, (.aload_n 0, 1, [], .null)), (43, (.ldc2_w 122, 3, [1315], .long 25209)), (46, (.invokevirtual 202, 3, [1, 160, 1, 12, 1496, 38, 1498], .null)), (49, (.ifCond .eq 7, 3, [56], .null)), (52, (.iconst 3, 1, [], .null)), (53, (.goto 62, 3, [115], .null)), (56, (.aload_n 0, 1, [], .null)), (57, (.ldc2_w 124, 3, [1316], .long 499984983411)), (60, (.invokevirtual 202, 3, [1, 160, 1, 12, 1496, 38, 1498], .null)), (63, (.ifCond .eq 7, 3, [70], .null)), (66, (.iconst 4, 1, [], .null)), (67, (.goto 48, 3, [115], .null)), (70, (.aload_n 0, 1, [], .null)), (71, (.ldc2_w 126, 3, [1317], .long 495874044019))]),
  (112, [(74, (.invokevirtual 202, 3, [1, 160, 1, 12, 1496, 38, 1498], .null)), (77, (.ifCond .eq 7, 3, [84], .null)), (80, (.iconst 5, 1, [], .null)), (81, (.goto 34, 3, [115], .null)), (84, (.aload_n 0, 1, [], .null)), (85, (.ldc2_w 128, 3, [1318], .long 1685024357)), (88, (.invokevirtual 202, 3, [1, 160, 1, 12, 1496, 38, 1498], .null)), (91, (.ifCond .eq 8, 3, [99], .null)), (94, (.bipush 6, 2, [], .null)), (96, (.goto 19, 3, [115], .null)), (99, (.aload_n 0, 1, [], .null)), (100, (.ldc2_w 130, 3, [1319], .long 121450625394034)), (103, (.invokevirtual 202, 3, [1, 160, 1, 12, 1496, 38, 1498], .null)), (106, (.ifCond .eq 8, 3, [114], .null)), (109, (.bipush 7, 2, [], .null)), (111, (.goto 4, 3, [115], .null))]),
  (116, [(114, (.iconst (-1), 1, [], .null)), (115, (.ireturn, 1, [], .null))])])
def md_246 : ri_M × ri_T := ((yX12_operand, cX12_operand, 5, (some .boolean), RX12, 0, 0), [
  (29, [(0, (.aload_n 0, 1, [], .null)), (1, (.ldc2_w 114, 3, [1311], .long 7237492)), (4, (.invokevirtual 202, 3, [1, 160, 1, 12, 1496, 38, 1498], .null)), (7, (.istore_n 1, 1, [], .null)), (8, (.aload_n 0, 1, [], .null)), (9, (.bipush 40, 2, [], .null)), (11, (.invokevirtual 168, 3, [1, 161, 1, 12, 1542, 48, 1544], .null)), (14, (.istore_n 2, 1, [], .null)), (15, (.aload_n 0, 1, [], .null)), (16, (.invokevirtual 410, 3, [1, 245, 0, 12, 1862, 95, 1864], .null)), (19, (.istore_n 3, 1, [], .null)), (20, (.iload_n 1, 1, [], .null)), (21, (.ifCond .ne 17, 3, [38], .null)), (24, (.iload_n 2, 1, [], .null)), (25, (.ifCond .ne 13, 3, [38], .null)), (28, (.iload_n 3, 1, [], .null))]),
  (59, [(29, (.ifCond .ge 9, 3, [38], .null)), (32, (.aload_n 0, 1, [], .null)), (33, (.iconst 1, 1, [], .null)), (34, (.invokevirtual 171, 3, [1, 159, 1, 12, 1507, 40, 1509], .null)), (37, (.ireturn, 1, [], .null)), (38, (.aload_n 0, 1, [], .null)), (39, (.getfield 413, 3, [12, 40, 1364], .null)), (42, (.bipush 20, 2, [], .null)), (44, (.if_icmp .eq 12, 3, [56], .null)), (47, (.aload_n 0, 1, [], .null)), (48, (.getfield 407, 3, [12, 42, 1366], .null)), (51, (.bipush 8, 2, [], .null)), (53, (.if_icmp .le 9, 3, [62], .null)), (56, (.aload_n 0, 1, [], .null)), (57, (.iconst 4, 1, [], .null)), (58, (.invokevirtual 171, 3, [1, 159, 1, 12, 1507, 40, 1509], .null))]),
  (89, [(61, (.ireturn, 1, [], .null)), (62, (.aload_n 0, 1, [], .null)), (63, (.dup, 1, [], .null)), (64, (.getfield 413, 3, [12, 40, 1364], .null)), (67, (.iconst 1, 1, [], .null)), (68, (.iadd, 1, [], .null)), (69, (.putfield 413, 3, [12, 40, 1364, 0], .null)), (72, (.aload_n 0, 1, [], .null)), (73, (.invokevirtual 174, 3, [1, 158, 0, 12, 1478, 35, 1480], .null)), (76, (.iload_n 1, 1, [], .null)), (77, (.ifCond .ne 7, 3, [84], .null)), (80, (.iload_n 2, 1, [], .null)), (81, (.ifCond .eq 45, 3, [126], .null)), (84, (.aload_n 0, 1, [], .null)), (85, (.getfield 69, 3, [12, 38, 1362], .null)), (88, (.aload_n 0, 1, [], .null))]),
  (117, [(89, (.getfield 400, 3, [12, 41, 1365], .null)), (92, (.iload_n 1, 1, [], .null)), (93, (.ifCond .eq 8, 3, [101], .null)), (96, (.bipush 20, 2, [], .null)), (98, (.goto 5, 3, [103], .null)), (101, (.bipush 23, 2, [], .null)), (103, (.iastore, 1, [], .null)), (104, (.aload_n 0, 1, [], .null)), (105, (.dup, 1, [], .null)), (106, (.getfield 400, 3, [12, 41, 1365], .null)), (109, (.iconst 1, 1, [], .null)), (110, (.iadd, 1, [], .null)), (111, (.putfield 400, 3, [12, 41, 1365, 0], .null)), (114, (.aload_n 0, 1, [], .null)), (115, (.dup, 1, [], .null)), (116, (.getfield 407, 3, [12, 42, 1366], .null))]),
  (141, [(119, (.iconst 1, 1, [], .null)), (120, (.iadd, 1, [], .null)), (121, (.putfield 407, 3, [12, 42, 1366, 0], .null)), (124, (.iconst 1, 1, [], .null)), (125, (.ireturn, 1, [], .null)), (126, (.aload_n 0, 1, [], .null)), (127, (.iconst 1, 1, [], .null)), (128, (.putfield 416, 3, [12, 43, 1367, 1], .null)), (131, (.iload_n 3, 1, [], .null)), (132, (.iconst 2, 1, [], .null)), (133, (.if_icmp .ge 12, 3, [145], .null)), (136, (.aload_n 0, 1, [], .null)), (137, (.iload_n 3, 1, [], .null)), (138, (.iconst 0, 1, [], .null)), (139, (.iconst 0, 1, [], .null)), (140, (.invokevirtual 403, 3, [1, 242, 3, 12, 1846, 91, 1848], .null))]),
  (168, [(143, (.iconst 1, 1, [], .null)), (144, (.ireturn, 1, [], .null)), (145, (.iload_n 3, 1, [], .null)), (146, (.iconst 4, 1, [], .null)), (147, (.if_icmp .ge 54, 3, [201], .null)), (150, (.aload_n 0, 1, [], .null)), (151, (.iload_n 3, 1, [], .null)), (152, (.iconst 2, 1, [], .null)), (153, (.if_icmp .ne 7, 3, [160], .null)), (156, (.iconst 0, 1, [], .null)), (157, (.goto 5, 3, [162], .null)), (160, (.bipush 14, 2, [], .null)), (162, (.aload_n 0, 1, [], .null)), (163, (.getfield 33, 3, [12, 6, 1330], .null)), (166, (.iload_n 3, 1, [], .null)), (167, (.iconst 2, 1, [], .null))]),
  (196, [(168, (.if_icmp .ne 7, 3, [175], .null)), (171, (.iconst 3, 1, [], .null)), (172, (.goto 4, 3, [176], .null)), (175, (.iconst 5, 1, [], .null)), (176, (.iaload, 1, [], .null)), (177, (.invokevirtual 218, 3, [1, 168, 2, 12, 1538, 47, 1540], .null)), (180, (.ifCond .ne 5, 3, [185], .null)), (183, (.iconst 0, 1, [], .null)), (184, (.ireturn, 1, [], .null)), (185, (.aload_n 0, 1, [], .null)), (186, (.iload_n 3, 1, [], .null)), (187, (.iconst 0, 1, [], .null)), (188, (.aload_n 0, 1, [], .null)), (189, (.getfield 181, 3, [12, 18, 1342], .null)), (192, (.invokevirtual 403, 3, [1, 242, 3, 12, 1846, 91, 1848], .null)), (195, (.aload_n 0, 1, [], .null))]),
  (228, [(196, (.invokevirtual 174, 3, [1, 158, 0, 12, 1478, 35, 1480], .null)), (199, (.iconst 1, 1, [], .null)), (200, (.ireturn, 1, [], .null)), (201, (.aload_n 0, 1, [], .null)), (202, (.getfield 145, 3, [12, 11, 1335], .null)), (205, (.iconst 3, 1, [], .null)), (206, (.if_icmp .ne 21, 3, [227], .null)), (209, (.aload_n 0, 1, [], .null)), (210, (.getfield 155, 3, [12, 14, 1338], .null)), (213, (.bipush 60, 2, [], .null)), (215, (.if_icmp .lt 12, 3, [227], .null)), (218, (.aload_n 0, 1, [], .null)), (219, (.getfield 155, 3, [12, 14, 1338], .null)), (222, (.bipush 62, 2, [], .null)), (224, (.if_icmp .le 9, 3, [233], .null)), (227, (.aload_n 0, 1, [], .null))]),
  (257, [(228, (.iconst 1, 1, [], .null)), (229, (.invokevirtual 171, 3, [1, 159, 1, 12, 1507, 40, 1509], .null)), (232, (.ireturn, 1, [], .null)), (233, (.aload_n 0, 1, [], .null)), (234, (.getfield 155, 3, [12, 14, 1338], .null)), (237, (.istore 4, 2, [], .null)), (239, (.aload_n 0, 1, [], .null)), (240, (.invokevirtual 174, 3, [1, 158, 0, 12, 1478, 35, 1480], .null)), (243, (.aload_n 0, 1, [], .null)), (244, (.getfield 145, 3, [12, 11, 1335], .null)), (247, (.iconst 2, 1, [], .null)), (248, (.if_icmp .eq 9, 3, [257], .null)), (251, (.aload_n 0, 1, [], .null)), (252, (.iconst 1, 1, [], .null)), (253, (.invokevirtual 171, 3, [1, 159, 1, 12, 1507, 40, 1509], .null)), (256, (.ireturn, 1, [], .null))]),
  (274, [(257, (.aload_n 0, 1, [], .null)), (258, (.iload_n 3, 1, [], .null)), (259, (.iload 4, 2, [], .null)), (261, (.aload_n 0, 1, [], .null)), (262, (.getfield 155, 3, [12, 14, 1338], .null)), (265, (.invokevirtual 403, 3, [1, 242, 3, 12, 1846, 91, 1848], .null)), (268, (.aload_n 0, 1, [], .null)), (269, (.invokevirtual 174, 3, [1, 158, 0, 12, 1478, 35, 1480], .null)), (272, (.iconst 1, 1, [], .null)), (273, (.ireturn, 1, [], .null))])])
def md_247 : ri_M × ri_T := ((yX12_behind, cX12_behind, 1, (some .boolean), RX12, 0, 0), [
  (36, [(0, (.aload_n 0, 1, [], .null)), (1, (.invokevirtual 419, 3, [1, 244, 0, 12, 1842, 90, 1844], .null)), (4, (.aload_n 0, 1, [], .null)), (5, (.ldc2_w 112, 3, [1310], .long 6385252)), (8, (.invokevirtual 202, 3, [1, 160, 1, 12, 1496, 38, 1498], .null)), (11, (.ifCond .ne 13, 3, [24], .null)), (14, (.aload_n 0, 1, [], .null)), (15, (.ldc2_w 110, 3, [1309], .long 28530)), (18, (.invokevirtual 202, 3, [1, 160, 1, 12, 1496, 38, 1498], .null)), (21, (.ifCond .eq 71, 3, [92], .null)), (24, (.aload_n 0, 1, [], .null)), (25, (.aload_n 0, 1, [], .null)), (26, (.ldc2_w 112, 3, [1310], .long 6385252)), (29, (.invokevirtual 202, 3, [1, 160, 1, 12, 1496, 38, 1498], .null)), (32, (.ifCond .eq 8, 3, [40], .null)), (35, (.bipush 21, 2, [], .null))]),
  (72, [(37, (.goto 5, 3, [42], .null)), (40, (.bipush 22, 2, [], .null)), (42, (.invokevirtual 422, 3, [1, 243, 1, 12, 1850, 92, 1852], .null)), (45, (.aload_n 0, 1, [], .null)), (46, (.getfield 69, 3, [12, 38, 1362], .null)), (49, (.aload_n 0, 1, [], .null)), (50, (.getfield 400, 3, [12, 41, 1365], .null)), (53, (.aload_n 0, 1, [], .null)), (54, (.ldc2_w 112, 3, [1310], .long 6385252)), (57, (.invokevirtual 202, 3, [1, 160, 1, 12, 1496, 38, 1498], .null)), (60, (.ifCond .eq 8, 3, [68], .null)), (63, (.bipush 21, 2, [], .null)), (65, (.goto 5, 3, [70], .null)), (68, (.bipush 22, 2, [], .null)), (70, (.iastore, 1, [], .null)), (71, (.aload_n 0, 1, [], .null))]),
  (99, [(72, (.dup, 1, [], .null)), (73, (.getfield 400, 3, [12, 41, 1365], .null)), (76, (.iconst 1, 1, [], .null)), (77, (.iadd, 1, [], .null)), (78, (.putfield 400, 3, [12, 41, 1365, 0], .null)), (81, (.aload_n 0, 1, [], .null)), (82, (.iconst 0, 1, [], .null)), (83, (.putfield 416, 3, [12, 43, 1367, 1], .null)), (86, (.aload_n 0, 1, [], .null)), (87, (.invokevirtual 174, 3, [1, 158, 0, 12, 1478, 35, 1480], .null)), (90, (.iconst 1, 1, [], .null)), (91, (.ireturn, 1, [], .null)), (92, (.aload_n 0, 1, [], .null)), (93, (.bipush 22, 2, [], .null)), (95, (.invokevirtual 422, 3, [1, 243, 1, 12, 1850, 92, 1852], .null)), (98, (.aload_n 0, 1, [], .null))]),
  (128, [(99, (.bipush 41, 2, [], .null)), (101, (.invokevirtual 168, 3, [1, 161, 1, 12, 1542, 48, 1544], .null)), (104, (.ifCond .eq 10, 3, [114], .null)), (107, (.aload_n 0, 1, [], .null)), (108, (.getfield 400, 3, [12, 41, 1365], .null)), (111, (.ifCond .ne 9, 3, [120], .null)), (114, (.aload_n 0, 1, [], .null)), (115, (.iconst 1, 1, [], .null)), (116, (.invokevirtual 171, 3, [1, 159, 1, 12, 1507, 40, 1509], .null)), (119, (.ireturn, 1, [], .null)), (120, (.aload_n 0, 1, [], .null)), (121, (.dup, 1, [], .null)), (122, (.getfield 400, 3, [12, 41, 1365], .null)), (125, (.iconst 1, 1, [], .null)), (126, (.isub, 1, [], .null)), (127, (.putfield 400, 3, [12, 41, 1365, 0], .null))]),
  (146, [(130, (.aload_n 0, 1, [], .null)), (131, (.dup, 1, [], .null)), (132, (.getfield 407, 3, [12, 42, 1366], .null)), (135, (.iconst 1, 1, [], .null)), (136, (.isub, 1, [], .null)), (137, (.putfield 407, 3, [12, 42, 1366, 0], .null)), (140, (.aload_n 0, 1, [], .null)), (141, (.invokevirtual 174, 3, [1, 158, 0, 12, 1478, 35, 1480], .null)), (144, (.iconst 1, 1, [], .null)), (145, (.ireturn, 1, [], .null))])])
def md_248 : ri_M × ri_T := ((yX12_sentence, cX12_sentence, 3, (some .int), RX12, 0, 0), [
  (28, [(0, (.aload_n 0, 1, [], .null)), (1, (.iconst 0, 1, [], .null)), (2, (.putfield 1, 3, [12, 0, 1324, 0], .null)), (5, (.aload_n 0, 1, [], .null)), (6, (.sipush 200, 3, [], .null)), (9, (.invokevirtual 221, 3, [1, 148, 1, 12, 1474, 34, 1476], .null)), (12, (.aload_n 0, 1, [], .null)), (13, (.iconst 0, 1, [], .null)), (14, (.putfield 162, 3, [12, 15, 1339, 0], .null)), (17, (.aload_n 0, 1, [], .null)), (18, (.iconst 0, 1, [], .null)), (19, (.putfield 397, 3, [12, 39, 1363, 0], .null)), (22, (.aload_n 0, 1, [], .null)), (23, (.iconst 0, 1, [], .null)), (24, (.putfield 413, 3, [12, 40, 1364, 0], .null)), (27, (.aload_n 0, 1, [], .null))]),
  (54, [(28, (.iconst 0, 1, [], .null)), (29, (.putfield 400, 3, [12, 41, 1365, 0], .null)), (32, (.aload_n 0, 1, [], .null)), (33, (.iconst 1, 1, [], .null)), (34, (.putfield 407, 3, [12, 42, 1366, 0], .null)), (37, (.aload_n 0, 1, [], .null)), (38, (.iconst 0, 1, [], .null)), (39, (.putfield 416, 3, [12, 43, 1367, 1], .null)), (42, (.aload_n 0, 1, [], .null)), (43, (.invokevirtual 174, 3, [1, 158, 0, 12, 1478, 35, 1480], .null)), (46, (.iconst 1, 1, [], .null)), (47, (.istore_n 1, 1, [], .null)), (48, (.iload_n 1, 1, [], .null)), (49, (.ifCond .eq 83, 3, [132], .null)), (52, (.aload_n 0, 1, [], .null)), (53, (.getfield 416, 3, [12, 43, 1367], .null))]),
  (89, [(56, (.ifCond .eq 45, 3, [101], .null)), (59, (.aload_n 0, 1, [], .null)), (60, (.getfield 145, 3, [12, 11, 1335], .null)), (63, (.ifCond .ne 38, 3, [101], .null)), (66, (.aload_n 0, 1, [], .null)), (67, (.invokevirtual 419, 3, [1, 244, 0, 12, 1842, 90, 1844], .null)), (70, (.aload_n 0, 1, [], .null)), (71, (.bipush 22, 2, [], .null)), (73, (.invokevirtual 422, 3, [1, 243, 1, 12, 1850, 92, 1852], .null)), (76, (.aload_n 0, 1, [], .null)), (77, (.getfield 400, 3, [12, 41, 1365], .null)), (80, (.ifCond .le 16, 3, [96], .null)), (83, (.aload_n 0, 1, [], .null)), (84, (.iconst 1, 1, [], .null)), (85, (.invokevirtual 171, 3, [1, 159, 1, 12, 1507, 40, 1509], .null)), (88, (.pop, 1, [], .null))]),
  (119, [(89, (.iconst (-1), 1, [], .null)), (90, (.aload_n 0, 1, [], .null)), (91, (.getfield 165, 3, [12, 16, 1340], .null)), (94, (.isub, 1, [], .null)), (95, (.ireturn, 1, [], .null)), (96, (.iconst 0, 1, [], .null)), (97, (.istore_n 1, 1, [], .null)), (98, (.goto (-50), 3, [48], .null)), (101, (.aload_n 0, 1, [], .null)), (102, (.getfield 416, 3, [12, 43, 1367], .null)), (105, (.ifCond .eq 13, 3, [118], .null)), (108, (.aload_n 0, 1, [], .null)), (109, (.invokevirtual 425, 3, [1, 247, 0, 12, 1854, 93, 1856], .null)), (112, (.ifCond .ne (-64), 3, [48], .null)), (115, (.goto 10, 3, [125], .null)), (118, (.aload_n 0, 1, [], .null))]),
  (147, [(119, (.invokevirtual 428, 3, [1, 246, 0, 12, 1858, 94, 1860], .null)), (122, (.ifCond .ne (-74), 3, [48], .null)), (125, (.iconst (-1), 1, [], .null)), (126, (.aload_n 0, 1, [], .null)), (127, (.getfield 165, 3, [12, 16, 1340], .null)), (130, (.isub, 1, [], .null)), (131, (.ireturn, 1, [], .null)), (132, (.aload_n 0, 1, [], .null)), (133, (.getfield 33, 3, [12, 6, 1330], .null)), (136, (.sipush 174, 3, [], .null)), (139, (.aload_n 0, 1, [], .null)), (140, (.getfield 397, 3, [12, 39, 1363], .null)), (143, (.iastore, 1, [], .null)), (144, (.iconst 0, 1, [], .null)), (145, (.istore_n 2, 1, [], .null)), (146, (.iload_n 2, 1, [], .null))]),
  (173, [(147, (.iconst 3, 1, [], .null)), (148, (.aload_n 0, 1, [], .null)), (149, (.getfield 397, 3, [12, 39, 1363], .null)), (152, (.imul, 1, [], .null)), (153, (.if_icmp .ge 25, 3, [178], .null)), (156, (.aload_n 0, 1, [], .null)), (157, (.getfield 33, 3, [12, 6, 1330], .null)), (160, (.sipush 175, 3, [], .null)), (163, (.iload_n 2, 1, [], .null)), (164, (.iadd, 1, [], .null)), (165, (.aload_n 0, 1, [], .null)), (166, (.getfield 40, 3, [12, 8, 1332], .null)), (169, (.iload_n 2, 1, [], .null)), (170, (.iaload, 1, [], .null)), (171, (.iastore, 1, [], .null)), (172, (.iinc 2 1, 3, [], .null))]),
  (183, [(175, (.goto (-29), 3, [146], .null)), (178, (.aload_n 0, 1, [], .null)), (179, (.getfield 413, 3, [12, 40, 1364], .null)), (182, (.ireturn, 1, [], .null))])])
def md_249 : ri_M × ri_T := ((yX12_isLeaf, cX12_isLeaf, 6, (some .boolean), RX12, 0, 0), [
  (54, [(0, (.iload_n 2, 1, [], .null)), (1, (.tableswitch 99 0 3 #[31, 37, 64, 84], 31, [100, 32, 38, 65, 85], .null)), (32, (.aload_n 0, 1, [], .null)), (33, (.iload_n 1, 1, [], .null)), (34, (.invokevirtual 236, 3, [1, 180, 1, 12, 1566, 52, 1568], .null)), (37, (.ireturn, 1, [], .null)), (38, (.aload_n 0, 1, [], .null)), (39, (.getfield 33, 3, [12, 6, 1330], .null)), (42, (.sipush 132, 3, [], .null)), (45, (.iload_n 1, 1, [], .null)), (46, (.iadd, 1, [], .null)), (47, (.iaload, 1, [], .null)), (48, (.ifCond .le 15, 3, [63], .null)), (51, (.aload_n 0, 1, [], .null)), (52, (.iload_n 1, 1, [], .null)), (53, (.invokevirtual 252, 3, [1, 183, 1, 12, 1594, 55, 1596], .null))]),
  (84, [(56, (.ifCond .ne 7, 3, [63], .null)), (59, (.iconst 1, 1, [], .null)), (60, (.goto 4, 3, [64], .null)), (63, (.iconst 0, 1, [], .null)), (64, (.ireturn, 1, [], .null)), (65, (.aload_n 0, 1, [], .null)), (66, (.getfield 33, 3, [12, 6, 1330], .null)), (69, (.bipush 10, 2, [], .null)), (71, (.iload_n 1, 1, [], .null)), (72, (.iadd, 1, [], .null)), (73, (.iaload, 1, [], .null)), (74, (.iload 4, 2, [], .null)), (76, (.if_icmp .ne 7, 3, [83], .null)), (79, (.iconst 1, 1, [], .null)), (80, (.goto 4, 3, [84], .null)), (83, (.iconst 0, 1, [], .null))]),
  (110, [(84, (.ireturn, 1, [], .null)), (85, (.aload_n 0, 1, [], .null)), (86, (.getfield 33, 3, [12, 6, 1330], .null)), (89, (.bipush 108, 2, [], .null)), (91, (.iload_n 1, 1, [], .null)), (92, (.iadd, 1, [], .null)), (93, (.iaload, 1, [], .null)), (94, (.iload 4, 2, [], .null)), (96, (.invokestatic 199, 3, [3, 150, 2, 0, 1504, 1505], .null)), (99, (.ireturn, 1, [], .null)), (100, (.iload_n 2, 1, [], .null)), (101, (.iconst 4, 1, [], .null)), (102, (.if_icmp .ne 15, 3, [117], .null)), (105, (.aload_n 0, 1, [], .null)), (106, (.getfield 33, 3, [12, 6, 1330], .null)), (109, (.bipush 100, 2, [], .null))]),
  (136, [(111, (.iload_n 1, 1, [], .null)), (112, (.iadd, 1, [], .null)), (113, (.iaload, 1, [], .null)), (114, (.goto 39, 3, [153], .null)), (117, (.iload_n 2, 1, [], .null)), (118, (.iconst 5, 1, [], .null)), (119, (.if_icmp .ne 15, 3, [134], .null)), (122, (.aload_n 0, 1, [], .null)), (123, (.getfield 33, 3, [12, 6, 1330], .null)), (126, (.bipush 18, 2, [], .null)), (128, (.iload_n 1, 1, [], .null)), (129, (.iadd, 1, [], .null)), (130, (.iaload, 1, [], .null)), (131, (.goto 22, 3, [153], .null)), (134, (.iload_n 2, 1, [], .null)), (135, (.bipush 6, 2, [], .null))]),
  (166, [(137, (.if_icmp .ne 15, 3, [152], .null)), (140, (.aload_n 0, 1, [], .null)), (141, (.getfield 33, 3, [12, 6, 1330], .null)), (144, (.bipush 124, 2, [], .null)), (146, (.iload_n 1, 1, [], .null)), (147, (.iadd, 1, [], .null)), (148, (.iaload, 1, [], .null)), (149, (.goto 4, 3, [153], .null)), (152, (.iload_n 1, 1, [], .null)), (153, (.istore 5, 2, [], .null)), (155, (.iload_n 3, 1, [], .null)), (156, (.bipush 60, 2, [], .null)), (158, (.if_icmp .ne 18, 3, [176], .null)), (161, (.iload 5, 2, [], .null)), (163, (.iload 4, 2, [], .null)), (165, (.if_icmp .ge 7, 3, [172], .null))]),
  (200, [(168, (.iconst 1, 1, [], .null)), (169, (.goto 40, 3, [209], .null)), (172, (.iconst 0, 1, [], .null)), (173, (.goto 36, 3, [209], .null)), (176, (.iload_n 3, 1, [], .null)), (177, (.bipush 61, 2, [], .null)), (179, (.if_icmp .ne 18, 3, [197], .null)), (182, (.iload 5, 2, [], .null)), (184, (.iload 4, 2, [], .null)), (186, (.if_icmp .ne 7, 3, [193], .null)), (189, (.iconst 1, 1, [], .null)), (190, (.goto 19, 3, [209], .null)), (193, (.iconst 0, 1, [], .null)), (194, (.goto 15, 3, [209], .null)), (197, (.iload 5, 2, [], .null)), (199, (.iload 4, 2, [], .null))]),
  (210, [(201, (.if_icmp .le 7, 3, [208], .null)), (204, (.iconst 1, 1, [], .null)), (205, (.goto 4, 3, [209], .null)), (208, (.iconst 0, 1, [], .null)), (209, (.ireturn, 1, [], .null))])])
def md_250 : ri_M × ri_T := ((yX12_isSaid, cX12_isSaid, 5, (some .boolean), RX12, 0, 0), [
  (24, [(0, (.iconst 0, 1, [], .null)), (1, (.istore_n 2, 1, [], .null)), (2, (.iconst 0, 1, [], .null)), (3, (.istore_n 3, 1, [], .null)), (4, (.iload_n 3, 1, [], .null)), (5, (.aload_n 0, 1, [], .null)), (6, (.getfield 33, 3, [12, 6, 1330], .null)), (9, (.sipush 174, 3, [], .null)), (12, (.iaload, 1, [], .null)), (13, (.if_icmp .ge 199, 3, [212], .null)), (16, (.sipush 175, 3, [], .null)), (19, (.iconst 3, 1, [], .null)), (20, (.iload_n 3, 1, [], .null)), (21, (.imul, 1, [], .null)), (22, (.iadd, 1, [], .null)), (23, (.istore 4, 2, [], .null))]),
  (51, [(25, (.aload_n 0, 1, [], .null)), (26, (.getfield 33, 3, [12, 6, 1330], .null)), (29, (.iload 4, 2, [], .null)), (31, (.iaload, 1, [], .null)), (32, (.bipush 20, 2, [], .null)), (34, (.if_icmp .ne 30, 3, [64], .null)), (37, (.aload_n 0, 1, [], .null)), (38, (.getfield 72, 3, [12, 44, 1368], .null)), (41, (.iload_n 2, 1, [], .null)), (42, (.iconst 1, 1, [], .null)), (43, (.isub, 1, [], .null)), (44, (.aload_n 0, 1, [], .null)), (45, (.getfield 72, 3, [12, 44, 1368], .null)), (48, (.iload_n 2, 1, [], .null)), (49, (.iconst 1, 1, [], .null)), (50, (.isub, 1, [], .null))]),
  (81, [(51, (.baload, 1, [], .null)), (52, (.ifCond .ne 7, 3, [59], .null)), (55, (.iconst 1, 1, [], .null)), (56, (.goto 4, 3, [60], .null)), (59, (.iconst 0, 1, [], .null)), (60, (.bastore, 1, [], .null)), (61, (.goto 145, 3, [206], .null)), (64, (.aload_n 0, 1, [], .null)), (65, (.getfield 33, 3, [12, 6, 1330], .null)), (68, (.iload 4, 2, [], .null)), (70, (.iaload, 1, [], .null)), (71, (.bipush 21, 2, [], .null)), (73, (.if_icmp .eq 15, 3, [88], .null)), (76, (.aload_n 0, 1, [], .null)), (77, (.getfield 33, 3, [12, 6, 1330], .null)), (80, (.iload 4, 2, [], .null))]),
  (111, [(82, (.iaload, 1, [], .null)), (83, (.bipush 22, 2, [], .null)), (85, (.if_icmp .ne 82, 3, [167], .null)), (88, (.iinc 2 (-1), 3, [], .null)), (91, (.aload_n 0, 1, [], .null)), (92, (.getfield 72, 3, [12, 44, 1368], .null)), (95, (.iload_n 2, 1, [], .null)), (96, (.iconst 1, 1, [], .null)), (97, (.isub, 1, [], .null)), (98, (.aload_n 0, 1, [], .null)), (99, (.getfield 33, 3, [12, 6, 1330], .null)), (102, (.iload 4, 2, [], .null)), (104, (.iaload, 1, [], .null)), (105, (.bipush 21, 2, [], .null)), (107, (.if_icmp .ne 31, 3, [138], .null)), (110, (.aload_n 0, 1, [], .null))]),
  (139, [(111, (.getfield 72, 3, [12, 44, 1368], .null)), (114, (.iload_n 2, 1, [], .null)), (115, (.iconst 1, 1, [], .null)), (116, (.isub, 1, [], .null)), (117, (.baload, 1, [], .null)), (118, (.ifCond .eq 16, 3, [134], .null)), (121, (.aload_n 0, 1, [], .null)), (122, (.getfield 72, 3, [12, 44, 1368], .null)), (125, (.iload_n 2, 1, [], .null)), (126, (.baload, 1, [], .null)), (127, (.ifCond .eq 7, 3, [134], .null)), (130, (.iconst 1, 1, [], .null)), (131, (.goto 32, 3, [163], .null)), (134, (.iconst 0, 1, [], .null)), (135, (.goto 28, 3, [163], .null)), (138, (.aload_n 0, 1, [], .null))]),
  (165, [(139, (.getfield 72, 3, [12, 44, 1368], .null)), (142, (.iload_n 2, 1, [], .null)), (143, (.iconst 1, 1, [], .null)), (144, (.isub, 1, [], .null)), (145, (.baload, 1, [], .null)), (146, (.ifCond .ne 12, 3, [158], .null)), (149, (.aload_n 0, 1, [], .null)), (150, (.getfield 72, 3, [12, 44, 1368], .null)), (153, (.iload_n 2, 1, [], .null)), (154, (.baload, 1, [], .null)), (155, (.ifCond .eq 7, 3, [162], .null)), (158, (.iconst 1, 1, [], .null)), (159, (.goto 4, 3, [163], .null)), (162, (.iconst 0, 1, [], .null)), (163, (.bastore, 1, [], .null)), (164, (.goto 42, 3, [206], .null))]),
  (191, [(167, (.aload_n 0, 1, [], .null)), (168, (.getfield 72, 3, [12, 44, 1368], .null)), (171, (.iload_n 2, 1, [], .null)), (172, (.aload_n 0, 1, [], .null)), (173, (.iload_n 1, 1, [], .null)), (174, (.aload_n 0, 1, [], .null)), (175, (.getfield 33, 3, [12, 6, 1330], .null)), (178, (.iload 4, 2, [], .null)), (180, (.iaload, 1, [], .null)), (181, (.aload_n 0, 1, [], .null)), (182, (.getfield 33, 3, [12, 6, 1330], .null)), (185, (.iload 4, 2, [], .null)), (187, (.iconst 1, 1, [], .null)), (188, (.iadd, 1, [], .null)), (189, (.iaload, 1, [], .null)), (190, (.aload_n 0, 1, [], .null))]),
  (219, [(191, (.getfield 33, 3, [12, 6, 1330], .null)), (194, (.iload 4, 2, [], .null)), (196, (.iconst 2, 1, [], .null)), (197, (.iadd, 1, [], .null)), (198, (.iaload, 1, [], .null)), (199, (.invokevirtual 431, 3, [1, 249, 4, 12, 1874, 97, 1876], .null)), (202, (.bastore, 1, [], .null)), (203, (.iinc 2 1, 3, [], .null)), (206, (.iinc 3 1, 3, [], .null)), (209, (.goto (-205), 3, [4], .null)), (212, (.aload_n 0, 1, [], .null)), (213, (.getfield 72, 3, [12, 44, 1368], .null)), (216, (.iconst 0, 1, [], .null)), (217, (.baload, 1, [], .null)), (218, (.ireturn, 1, [], .null))])])
def md_251 : ri_M × ri_T := ((yX12_said, cX12_said, 4, (some .int), RX12, 0, 0), [
  (26, [(0, (.aload_n 0, 1, [], .null)), (1, (.iconst 0, 1, [], .null)), (2, (.putfield 1, 3, [12, 0, 1324, 0], .null)), (5, (.aload_n 0, 1, [], .null)), (6, (.getfield 33, 3, [12, 6, 1330], .null)), (9, (.sipush 174, 3, [], .null)), (12, (.iaload, 1, [], .null)), (13, (.ifCond .eq 8, 3, [21], .null)), (16, (.iload_n 1, 1, [], .null)), (17, (.iconst (-1), 1, [], .null)), (18, (.if_icmp .ge 5, 3, [23], .null)), (21, (.iconst (-1), 1, [], .null)), (22, (.ireturn, 1, [], .null)), (23, (.iconst 0, 1, [], .null)), (24, (.istore_n 2, 1, [], .null)), (25, (.iconst 0, 1, [], .null))]),
  (54, [(26, (.istore_n 3, 1, [], .null)), (27, (.iload_n 3, 1, [], .null)), (28, (.aload_n 0, 1, [], .null)), (29, (.getfield 33, 3, [12, 6, 1330], .null)), (32, (.iconst 4, 1, [], .null)), (33, (.iaload, 1, [], .null)), (34, (.if_icmp .ge 30, 3, [64], .null)), (37, (.aload_n 0, 1, [], .null)), (38, (.iload_n 3, 1, [], .null)), (39, (.invokevirtual 435, 3, [1, 250, 1, 12, 1870, 96, 1872], .null)), (42, (.ifCond .ne 6, 3, [48], .null)), (45, (.goto 13, 3, [58], .null)), (48, (.iload_n 2, 1, [], .null)), (49, (.iload_n 1, 1, [], .null)), (50, (.if_icmp .ne 5, 3, [55], .null)), (53, (.iload_n 3, 1, [], .null))]),
  (75, [(54, (.ireturn, 1, [], .null)), (55, (.iinc 2 1, 3, [], .null)), (58, (.iinc 3 1, 3, [], .null)), (61, (.goto (-34), 3, [27], .null)), (64, (.iload_n 1, 1, [], .null)), (65, (.iconst (-1), 1, [], .null)), (66, (.if_icmp .ne 7, 3, [73], .null)), (69, (.iload_n 2, 1, [], .null)), (70, (.goto 4, 3, [74], .null)), (73, (.iconst (-1), 1, [], .null)), (74, (.ireturn, 1, [], .null))])])
def md_252 : ri_M × ri_T := ((yX12_image, cX12_image, 3, (some .boolean), RX12, 0, 0), [
  (26, [(0, (.aload_n 0, 1, [], .null)), (1, (.iconst 0, 1, [], .null)), (2, (.putfield 1, 3, [12, 0, 1324, 0], .null)), (5, (.iload_n 1, 1, [], .null)), (6, (.iconst 0, 1, [], .null)), (7, (.iconst 1, 1, [], .null)), (8, (.invokestatic 177, 3, [3, 149, 3, 0, 1519, 1520], .null)), (11, (.ifCond .ne 5, 3, [16], .null)), (14, (.iconst 0, 1, [], .null)), (15, (.ireturn, 1, [], .null)), (16, (.iconst 0, 1, [], .null)), (17, (.istore_n 2, 1, [], .null)), (18, (.iload_n 2, 1, [], .null)), (19, (.sipush 355, 3, [], .null)), (22, (.if_icmp .ge 27, 3, [49], .null)), (25, (.aload_n 0, 1, [], .null))]),
  (52, [(26, (.getfield 75, 3, [12, 45, 1369], .null)), (29, (.sipush 355, 3, [], .null)), (32, (.iload_n 1, 1, [], .null)), (33, (.imul, 1, [], .null)), (34, (.iload_n 2, 1, [], .null)), (35, (.iadd, 1, [], .null)), (36, (.aload_n 0, 1, [], .null)), (37, (.getfield 33, 3, [12, 6, 1330], .null)), (40, (.iload_n 2, 1, [], .null)), (41, (.iaload, 1, [], .null)), (42, (.iastore, 1, [], .null)), (43, (.iinc 2 1, 3, [], .null)), (46, (.goto (-28), 3, [18], .null)), (49, (.iconst 0, 1, [], .null)), (50, (.istore_n 2, 1, [], .null)), (51, (.iload_n 2, 1, [], .null))]),
  (78, [(52, (.bipush 24, 2, [], .null)), (54, (.if_icmp .ge 26, 3, [80], .null)), (57, (.aload_n 0, 1, [], .null)), (58, (.getfield 78, 3, [12, 46, 1370], .null)), (61, (.bipush 24, 2, [], .null)), (63, (.iload_n 1, 1, [], .null)), (64, (.imul, 1, [], .null)), (65, (.iload_n 2, 1, [], .null)), (66, (.iadd, 1, [], .null)), (67, (.aload_n 0, 1, [], .null)), (68, (.getfield 43, 3, [12, 9, 1333], .null)), (71, (.iload_n 2, 1, [], .null)), (72, (.laload, 1, [], .null)), (73, (.lastore, 1, [], .null)), (74, (.iinc 2 1, 3, [], .null)), (77, (.goto (-26), 3, [51], .null))]),
  (89, [(80, (.aload_n 0, 1, [], .null)), (81, (.getfield 81, 3, [12, 47, 1371], .null)), (84, (.iload_n 1, 1, [], .null)), (85, (.iconst 1, 1, [], .null)), (86, (.bastore, 1, [], .null)), (87, (.iconst 1, 1, [], .null)), (88, (.ireturn, 1, [], .null))])])
def md_253 : ri_M × ri_T := ((yX12_restore, cX12_restore, 3, (some .boolean), RX12, 0, 0), [
  (26, [(0, (.aload_n 0, 1, [], .null)), (1, (.iconst 0, 1, [], .null)), (2, (.putfield 1, 3, [12, 0, 1324, 0], .null)), (5, (.iload_n 1, 1, [], .null)), (6, (.iconst 0, 1, [], .null)), (7, (.iconst 1, 1, [], .null)), (8, (.invokestatic 177, 3, [3, 149, 3, 0, 1519, 1520], .null)), (11, (.ifCond .eq 12, 3, [23], .null)), (14, (.aload_n 0, 1, [], .null)), (15, (.getfield 81, 3, [12, 47, 1371], .null)), (18, (.iload_n 1, 1, [], .null)), (19, (.baload, 1, [], .null)), (20, (.ifCond .ne 5, 3, [25], .null)), (23, (.iconst 0, 1, [], .null)), (24, (.ireturn, 1, [], .null)), (25, (.iconst 0, 1, [], .null))]),
  (52, [(26, (.istore_n 2, 1, [], .null)), (27, (.iload_n 2, 1, [], .null)), (28, (.sipush 355, 3, [], .null)), (31, (.if_icmp .ge 27, 3, [58], .null)), (34, (.aload_n 0, 1, [], .null)), (35, (.getfield 33, 3, [12, 6, 1330], .null)), (38, (.iload_n 2, 1, [], .null)), (39, (.aload_n 0, 1, [], .null)), (40, (.getfield 75, 3, [12, 45, 1369], .null)), (43, (.sipush 355, 3, [], .null)), (46, (.iload_n 1, 1, [], .null)), (47, (.imul, 1, [], .null)), (48, (.iload_n 2, 1, [], .null)), (49, (.iadd, 1, [], .null)), (50, (.iaload, 1, [], .null)), (51, (.iastore, 1, [], .null))]),
  (80, [(52, (.iinc 2 1, 3, [], .null)), (55, (.goto (-28), 3, [27], .null)), (58, (.iconst 0, 1, [], .null)), (59, (.istore_n 2, 1, [], .null)), (60, (.iload_n 2, 1, [], .null)), (61, (.bipush 24, 2, [], .null)), (63, (.if_icmp .ge 26, 3, [89], .null)), (66, (.aload_n 0, 1, [], .null)), (67, (.getfield 43, 3, [12, 9, 1333], .null)), (70, (.iload_n 2, 1, [], .null)), (71, (.aload_n 0, 1, [], .null)), (72, (.getfield 78, 3, [12, 46, 1370], .null)), (75, (.bipush 24, 2, [], .null)), (77, (.iload_n 1, 1, [], .null)), (78, (.imul, 1, [], .null)), (79, (.iload_n 2, 1, [], .null))]),
  (96, [(80, (.iadd, 1, [], .null)), (81, (.laload, 1, [], .null)), (82, (.lastore, 1, [], .null)), (83, (.iinc 2 1, 3, [], .null)), (86, (.goto (-26), 3, [60], .null)), (89, (.aload_n 0, 1, [], .null)), (90, (.iconst 0, 1, [], .null)), (91, (.putfield 233, 3, [12, 25, 1349, 0], .null)), (94, (.iconst 1, 1, [], .null)), (95, (.ireturn, 1, [], .null))])])
def md_254 : ri_M × ri_T := ((yX12_count, cX12_count, 2, (some .int), RX12, 0, 0), [
  (30, [(0, (.aload_n 0, 1, [], .null)), (1, (.iconst 0, 1, [], .null)), (2, (.putfield 1, 3, [12, 0, 1324, 0], .null)), (5, (.iload_n 1, 1, [], .null)), (6, (.bipush 7, 2, [], .null)), (8, (.if_icmp .ne 10, 3, [18], .null)), (11, (.aload_n 0, 1, [], .null)), (12, (.getfield 7, 3, [12, 2, 1326], .null)), (15, (.goto 23, 3, [38], .null)), (18, (.iload_n 1, 1, [], .null)), (19, (.iconst 0, 1, [], .null)), (20, (.bipush 6, 2, [], .null)), (22, (.invokestatic 177, 3, [3, 149, 3, 0, 1519, 1520], .null)), (25, (.ifCond .eq 12, 3, [37], .null)), (28, (.aload_n 0, 1, [], .null)), (29, (.getfield 33, 3, [12, 6, 1330], .null))]),
  (39, [(32, (.iload_n 1, 1, [], .null)), (33, (.iaload, 1, [], .null)), (34, (.goto 4, 3, [38], .null)), (37, (.iconst (-1), 1, [], .null)), (38, (.ireturn, 1, [], .null))])])
def md_255 : ri_M × ri_T := ((yJ6_compare_7cf53, cJ6_compare_7cf53, 2, (some .int), RJ6, 0, 0), [
  (20, [(0, (.iload_n 0, 1, [], .null)), (1, (.iload_n 1, 1, [], .null)), (2, (.if_icmp .ge 7, 3, [9], .null)), (5, (.iconst (-1), 1, [], .null)), (6, (.goto 13, 3, [19], .null)), (9, (.iload_n 0, 1, [], .null)), (10, (.iload_n 1, 1, [], .null)), (11, (.if_icmp .ne 7, 3, [18], .null)), (14, (.iconst 0, 1, [], .null)), (15, (.goto 4, 3, [19], .null)), (18, (.iconst 1, 1, [], .null)), (19, (.ireturn, 1, [], .null))])])
def md_256 : ri_M × ri_T := ((yJ0_length_8abf5, cJ0_length_8abf5, 1, (some .int), RJ0, 0, 0), [
  (11, [(0, (.aload_n 0, 1, [], .null)), (1, (.getfield 9, 3, [50, 1, 1907], .null)), (4, (.arraylength, 1, [], .null)), (5, (.aload_n 0, 1, [], .null)), (6, (.invokevirtual 335, 3, [6, 258, 0, 0, 142, 144, 143], .null)), (9, (.ishr, 1, [], .null)), (10, (.ireturn, 1, [], .null))])])
def md_257 : ri_M × ri_T := ((yJ0_charAt_5068e, cJ0_charAt_5068e, 2, (some .char), RJ0, 0, 0), [
  (25, [(0, (.aload_n 0, 1, [], .null)), (1, (.invokevirtual 492, 3, [6, 259, 0, 0, 152, 154, 153], .null)), (4, (.ifCond .eq 12, 3, [16], .null)), (7, (.aload_n 0, 1, [], .null)), (8, (.getfield 9, 3, [50, 1, 1907], .null)), (11, (.iload_n 1, 1, [], .null)), (12, (.invokestatic 495, 3, [3, 261, 2, 0, 156, 157], .null)), (15, (.ireturn, 1, [], .null)), (16, (.aload_n 0, 1, [], .null)), (17, (.getfield 9, 3, [50, 1, 1907], .null)), (20, (.iload_n 1, 1, [], .null)), (21, (.invokestatic 498, 3, [3, 264, 2, 0, 167, 168], .null)), (24, (.ireturn, 1, [], .null))])])
def md_258 : ri_M × ri_T := ((yJ0_coder_7d493, cJ0_coder_7d493, 1, (some .byte), RJ0, 0, 0), [
  (15, [(0, (.getstatic 38, 3, [5, 146], .null)), (3, (.ifCond .eq 10, 3, [13], .null)), (6, (.aload_n 0, 1, [], .null)), (7, (.getfield 15, 3, [50, 0, 1908], .null)), (10, (.goto 4, 3, [14], .null)), (13, (.iconst 1, 1, [], .null)), (14, (.ireturn, 1, [], .null))])])
def md_259 : ri_M × ri_T := ((yJ0_isLatin1_aae02, cJ0_isLatin1_aae02, 1, (some .boolean), RJ0, 0, 0), [
  (19, [(0, (.getstatic 38, 3, [5, 146], .null)), (3, (.ifCond .eq 14, 3, [17], .null)), (6, (.aload_n 0, 1, [], .null)), (7, (.getfield 15, 3, [50, 0, 1908], .null)), (10, (.ifCond .ne 7, 3, [17], .null)), (13, (.iconst 1, 1, [], .null)), (14, (.goto 4, 3, [18], .null)), (17, (.iconst 0, 1, [], .null)), (18, (.ireturn, 1, [], .null))])])
def md_260 : ri_M × ri_T := ((yJ0_checkIndex_df160, cJ0_checkIndex_df160, 2, none, RJ0, 0, 0), [
  (10, [(0, (.iload_n 0, 1, [], .null)), (1, (.iload_n 1, 1, [], .null)), (2, (.getstatic 1053, 3, [7, 162], .null)), (5, (.invokestatic 1059, 3, [3, 266, 3, 0, 164, 165], .null)), (8, (.pop, 1, [], .null)), (9, (.return_, 1, [], .null))])])
def md_261 : ri_M × ri_T := ((yJ1_charAt_3b067, cJ1_charAt_3b067, 2, (some .char), RJ1, 0, 0), [
  (15, [(0, (.iload_n 1, 1, [], .null)), (1, (.aload_n 0, 1, [], .null)), (2, (.arraylength, 1, [], .null)), (3, (.invokestatic 9, 3, [3, 260, 2, 0, 159, 160], .null)), (6, (.aload_n 0, 1, [], .null)), (7, (.iload_n 1, 1, [], .null)), (8, (.baload, 1, [], .null)), (9, (.sipush 255, 3, [], .null)), (12, (.iand, 1, [], .null)), (13, (.i2c, 1, [], .null)), (14, (.ireturn, 1, [], .null))])])
def md_262 : ri_M × ri_T := ((yJ2_getChar_3b067, cJ2_getChar_3b067, 2, (some .char), RJ2, 0, 0), [
  (38, [(3, (.ifCond .ne 25, 3, [28], .null)), (6, (.iload_n 1, 1, [], .null)), (7, (.ifCond .lt 11, 3, [18], .null)), (10, (.iload_n 1, 1, [], .null)), (11, (.aload_n 0, 1, [], .null)), (12, (.invokestatic 48, 3, [3, 263, 1, 0, 173, 174], .null)), (15, (.if_icmp .lt 13, 3, [28], .null)), (21, (.dup, 1, [], .null)), (28, (.iload_n 1, 1, [], .null)), (29, (.iconst 1, 1, [], .null)), (30, (.ishl, 1, [], .null)), (31, (.istore_n 1, 1, [], .null)), (32, (.aload_n 0, 1, [], .null)), (33, (.iload_n 1, 1, [], .null)), (34, (.iinc 1 1, 3, [], .null)), (37, (.baload, 1, [], .null))]),
  (60, [(38, (.sipush 255, 3, [], .null)), (41, (.iand, 1, [], .null)), (45, (.ishl, 1, [], .null)), (46, (.aload_n 0, 1, [], .null)), (47, (.iload_n 1, 1, [], .null)), (48, (.baload, 1, [], .null)), (49, (.sipush 255, 3, [], .null)), (52, (.iand, 1, [], .null)), (56, (.ishl, 1, [], .null)), (57, (.ior, 1, [], .null)), (58, (.i2c, 1, [], .null)), (59, (.ireturn, 1, [], .null))])])
def md_263 : ri_M × ri_T := ((yJ2_length_9d52b, cJ2_length_9d52b, 1, (some .int), RJ2, 0, 0), [
  (5, [(0, (.aload_n 0, 1, [], .null)), (1, (.arraylength, 1, [], .null)), (2, (.iconst 1, 1, [], .null)), (3, (.ishr, 1, [], .null)), (4, (.ireturn, 1, [], .null))])])
def md_264 : ri_M × ri_T := ((yJ2_charAt_3b067, cJ2_charAt_3b067, 2, (some .char), RJ2, 0, 0), [
  (11, [(0, (.iload_n 1, 1, [], .null)), (1, (.aload_n 0, 1, [], .null)), (2, (.invokestatic 67, 3, [3, 265, 2, 0, 170, 171], .null)), (5, (.aload_n 0, 1, [], .null)), (6, (.iload_n 1, 1, [], .null)), (7, (.invokestatic 71, 3, [3, 262, 2, 0, 177, 178], .null)), (10, (.ireturn, 1, [], .null))])])
def md_265 : ri_M × ri_T := ((yJ2_checkIndex_2214a, cJ2_checkIndex_2214a, 2, none, RJ2, 0, 0), [
  (9, [(0, (.iload_n 0, 1, [], .null)), (1, (.aload_n 1, 1, [], .null)), (2, (.invokestatic 48, 3, [3, 263, 1, 0, 173, 174], .null)), (5, (.invokestatic 414, 3, [3, 260, 2, 0, 176, 160], .null)), (8, (.return_, 1, [], .null))])])
def md_266 : ri_M × ri_T := ((yJ3_checkIndex_8e157, cJ3_checkIndex_8e157, 3, (some .int), RJ3, 0, 0), [
  (18, [(0, (.iload_n 0, 1, [], .null)), (1, (.ifCond .lt 8, 3, [9], .null)), (4, (.iload_n 0, 1, [], .null)), (5, (.iload_n 1, 1, [], .null)), (6, (.if_icmp .lt 10, 3, [16], .null)), (9, (.aload_n 2, 1, [], .null)), (10, (.iload_n 0, 1, [], .null)), (11, (.iload_n 1, 1, [], .null)), (16, (.iload_n 0, 1, [], .null)), (17, (.ireturn, 1, [], .null))])])
end
section
def ri_md : List (ri_M × ri_T) := [md_0, md_1, md_2, md_3, md_4, md_5, md_6, md_7, md_8, md_9, md_10, md_11, md_12, md_13, md_14, md_15, md_16, md_17, md_18, md_19, md_20, md_21, md_22, md_23, md_24, md_25, md_26, md_27, md_28, md_29, md_30, md_31, md_32, md_33, md_34, md_35, md_36, md_37, md_38, md_39, md_40, md_41, md_42, md_43, md_44, md_45, md_46, md_47, md_48, md_49, md_50, md_51, md_52, md_53, md_54, md_55, md_56, md_57, md_58, md_59, md_60, md_61, md_62, md_63, md_64, md_65, md_66, md_67, md_68, md_69, md_70, md_71, md_72, md_73, md_74, md_75, md_76, md_77, md_78, md_79, md_80, md_81, md_82, md_83, md_84, md_85, md_86, md_87, md_88, md_89, md_90, md_91, md_92, md_93, md_94, md_95, md_96, md_97, md_98, md_99, md_100, md_101, md_102, md_103, md_104, md_105, md_106, md_107, md_108, md_109, md_110, md_111, md_112, md_113, md_114, md_115, md_116, md_117, md_118, md_119, md_120, md_121, md_122, md_123, md_124, md_125, md_126, md_127, md_128, md_129, md_130, md_131, md_132, md_133, md_134, md_135, md_136, md_137, md_138, md_139, md_140, md_141, md_142, md_143, md_144, md_145, md_146, md_147, md_148, md_149, md_150, md_151, md_152, md_153, md_154, md_155, md_156, md_157, md_158, md_159, md_160, md_161, md_162, md_163, md_164, md_165, md_166, md_167, md_168, md_169, md_170, md_171, md_172, md_173, md_174, md_175, md_176, md_177, md_178, md_179, md_180, md_181, md_182, md_183, md_184, md_185, md_186, md_187, md_188, md_189, md_190, md_191, md_192, md_193, md_194, md_195, md_196, md_197, md_198, md_199, md_200, md_201, md_202, md_203, md_204, md_205, md_206, md_207, md_208, md_209, md_210, md_211, md_212, md_213, md_214, md_215, md_216, md_217, md_218, md_219, md_220, md_221, md_222, md_223, md_224, md_225, md_226, md_227, md_228, md_229, md_230, md_231, md_232, md_233, md_234, md_235, md_236, md_237, md_238, md_239, md_240, md_241, md_242, md_243, md_244, md_245, md_246, md_247, md_248, md_249, md_250, md_251, md_252, md_253, md_254, md_255, md_256, md_257, md_258, md_259, md_260, md_261, md_262, md_263, md_264, md_265, md_266]
end
section
/-! The abstract machine's steps hold of the machine -/
def ri_stb (w : Cond) : Bool := goodWord w || (match w with
  | .fieldLinkNest .. => true
  | .methodLinkNest .. => true
  | .arrayOver (.object _) => true
  | .castable .. => true
  | _ => false)
theorem ri_stb_at {w : Cond} (h : ri_stb w = true) {args a' : Array Value} {s U : State} (hW : s.WarmedH U.vm) (hb : w.before args s = true) : w.before a' U = true := by
  unfold ri_stb at h
  rcases (Bool.or_eq_true _ _).mp h with h | h
  · exact word_at hW (good_of_word h) hb
  · cases w with
    | fieldLinkNest a i b n d h' => exact va_Nw.use rfl (va_Nw.warmF hW (va_Nw.of rfl hb))
    | methodLinkNest a i x h' => exact va_Nw.use rfl (va_Nw.warmM hW (va_Nw.of rfl hb))
    | arrayOver ty => cases ty with
      | object C => exact va_AO.use (va_AO.moved hW.alike (va_AO.of hb))
      | _ => simp at h
    | castable a b => exact va_Nw.use rfl (va_Nw.warmC hW (va_Nw.of rfl hb))
    | _ => simp at h
theorem ri_cat (E : ri_V) (v : Value) : (ri_cv E v).category = v.category := by
  cases v with
  | retAddr n => show (va_rf (E.2.1 n)).category = 1; cases E.2.1 n <;> rfl
  | _ => rfl
theorem ri_isI_cv {E : ri_V} {v : Value} (h : ri_isI v = true) : ri_cv E v = .int (ri_ic E v) := by
  cases v <;> first | rfl | (simp [ri_isI] at h)
theorem ri_isL_cv {E : ri_V} {v : Value} (h : ri_isL v = true) : ∃ x, v = .long x ∧ ri_cv E v = .long x := by
  cases v <;> first | exact ⟨_, rfl, rfl⟩ | (simp [ri_isL] at h)
theorem ri_isA_cv {E : ri_V} {v : Value} (h : ri_isA v = true) : ri_cv E v = .null ∨ ∃ a, ri_cv E v = .ref a := by
  cases v with
  | ref a => exact Or.inr ⟨_, rfl⟩
  | null => exact Or.inl rfl
  | retAddr n =>
    show va_rf (E.2.1 n) = .null ∨ ∃ a, va_rf (E.2.1 n) = .ref a
    cases E.2.1 n with
    | none => exact Or.inl rfl
    | some a => exact Or.inr ⟨a, rfl⟩
  | _ => simp [ri_isA] at h
theorem ri_lk_mem {lo : List (Nat × Value)} {i : Nat} {v : Value} (h : ri_lk lo i = some v) : (i, v) ∈ lo := by
  induction lo with
  | nil => simp [ri_lk] at h
  | cons q t ih =>
    unfold ri_lk at h
    cases hb : Nat.beq q.1 i with
    | true =>
      rw [hb] at h
      have h1 : q.1 = i := Nat.eq_of_beq_eq_true hb
      have h2 : q.2 = v := by simpa using h
      rw [← h1, ← h2]
      exact List.mem_cons_self
    | false =>
      rw [hb] at h
      exact List.mem_cons_of_mem _ (ih (by simpa using h))
def ri_mp (E : ri_V) (lo : List (Nat × Value)) : List (Nat × Value) := lo.map fun q => (q.1, ri_cv E q.2)
theorem ri_lk_at {E : ri_V} {lo : List (Nat × Value)} {i nL : Nat} {v : Value} {ls : Array Slot} (hl : lv_has ls nL (ri_mp E lo)) (h : ri_lk lo i = some v) : ls[i]? = some (.val (ri_cv E v)) :=
  hl.2.2 (i, ri_cv E v) (List.mem_map.mpr ⟨(i, v), ri_lk_mem h, rfl⟩)
theorem ri_lk_pl {E : ri_V} {lo : List (Nat × Value)} {i : Nat} {v : Value} (h : ri_lk lo i = some v) : ∃ k : Nat, (ri_mp E lo)[k]? = some (i, ri_cv E v) := by
  have hm : (i, ri_cv E v) ∈ ri_mp E lo := List.mem_map.mpr ⟨(i, v), ri_lk_mem h, rfl⟩
  exact List.getElem?_of_mem hm
theorem ri_mp_st1 (E : ri_V) (lo : List (Nat × Value)) (i : Nat) (v : Value) : (i, ri_cv E v) :: (ri_mp E lo).filter (fun q => !(q.1 == i) && !(q.1 + 1 == i && q.2.category == 2)) = ri_mp E (ri_st1 lo i v) := by
  unfold ri_mp ri_st1
  rw [List.map_cons, List.filter_map]
  congr 2
  apply List.filter_congr
  intro q _
  simp only [Function.comp_apply, ri_cat]
theorem ri_mp_as (E : ri_V) : ∀ (vs : List Value) (i : Nat), lv_args i (vs.map (ri_cv E)) = ri_mp E (ri_as i vs)
  | [], _ => rfl
  | v :: vs, i => by
    show (i, ri_cv E v) :: lv_args (if (ri_cv E v).category = 2 then i + 2 else i + 1) (vs.map (ri_cv E)) = (i, ri_cv E v) :: ri_mp E (ri_as (if v.category = 2 then i + 2 else i + 1) vs)
    rw [ri_cat, ri_mp_as E vs]
theorem ri_wt_cv (E : ri_V) (st : List Value) : ((st.map (ri_cv E)).map fun v => v.category).sum = ri_wt st := by
  unfold ri_wt
  rw [List.map_map]
  congr 1
  apply List.map_congr_left
  intro v _
  exact ri_cat E v
/-- what a cell is -/
def ri_cell (E : ri_V) (D : va_G) (cA : Nat → ClassId) (k : Nat) (c : ri_C) (H : Heap) : Prop :=
  (c.1 < 13 → ∃ r : vw_C, vwCl[c.1]? = some r ∧ t_OB (E.1 + k) (D.1 c.1) r.2.2 (D.2 c.1) H (fun j => ri_cv E (c.2.getD j .null))) ∧
  (13 ≤ c.1 → c.1 ≤ 18 → H[E.1 + k]? = some (arrV (cA c.1) c.2.length (fun j => ri_cv E (c.2.getD j .null))))
def ri_R (E : ri_V) (D : va_G) (cA : Nat → ClassId) (h : ri_H) (H : Heap) : Prop := H.size = E.1 + h.length ∧ ∀ (k : Nat) (c : ri_C), h[k]? = some c → ri_cell E D cA k c H
theorem ri_cell.kept {E : ri_V} {D : va_G} {cA : Nat → ClassId} {k : Nat} {c : ri_C} {H H1 : Heap} (h : ri_cell E D cA k c H) (hq : H1[E.1 + k]? = H[E.1 + k]?) : ri_cell E D cA k c H1 :=
  ⟨fun h13 => by obtain ⟨r, h1, h2⟩ := h.1 h13; exact ⟨r, h1, h2.kept hq⟩, fun h13 h18 => by rw [hq]; exact h.2 h13 h18⟩
theorem ri_R.set {E : ri_V} {D : va_G} {cA : Nat → ClassId} {h : ri_H} {H H1 : Heap} {k : Nat} {c : ri_C} (hR : ri_R E D cA h H) (hz : H1.size = H.size) (oq : ∀ q : Nat, q ≠ E.1 + k → H1[q]? = H[q]?) (hc : ri_cell E D cA k c H1) : ri_R E D cA (h.set k c) H1 := by
  refine ⟨by rw [hz, hR.1, List.length_set], fun j d hj => ?_⟩
  by_cases hjk : k = j
  · subst hjk
    by_cases hl : k < h.length
    · rw [List.getElem?_set_self hl] at hj
      cases hj
      exact hc
    · rw [List.getElem?_eq_none (by rw [List.length_set]; omega)] at hj
      cases hj
  · rw [List.getElem?_set_ne hjk] at hj
    exact (hR.2 j d hj).kept (oq _ (by omega))
theorem ri_R.push {E : ri_V} {D : va_G} {cA : Nat → ClassId} {h : ri_H} {H H1 : Heap} {c : ri_C} (hR : ri_R E D cA h H) (hz : H1.size = H.size + 1) (oq : ∀ q : Nat, q < H.size → H1[q]? = H[q]?) (hc : ri_cell E D cA h.length c H1) : ri_R E D cA (h ++ [c]) H1 := by
  refine ⟨by rw [hz, hR.1, List.length_append]; rfl, fun j d hj => ?_⟩
  by_cases hl : j < h.length
  · rw [List.getElem?_append_left hl] at hj
    exact (hR.2 j d hj).kept (oq _ (by rw [hR.1]; omega))
  · rw [List.getElem?_append_right (by omega)] at hj
    have hz1 : j - h.length < 1 := (List.getElem?_eq_some_iff.mp hj).1
    have e : j = h.length := by omega
    subst e
    rw [Nat.sub_self] at hj
    cases hj
    exact hc
theorem ri_S.push {E : ri_V} {H0 H H1 : Heap} {locs : List Loc} (hS : va_S (ri_A E) H0 H locs) (hz : H1.size = H.size + 1) (oq : ∀ q : Nat, q < H.size → H1[q]? = H[q]?) : va_S (ri_A E) H0 H1 locs :=
  ⟨by rw [hz]; exact Nat.le_succ_of_le hS.1, fun q h1 h2 => by rw [oq q (Nat.lt_of_lt_of_le h1 hS.1)]; exact hS.2.1 q h1 h2, hS.2.2⟩
end
section
def ri_xn (n : Nat) : String := match n with
  | 1 => "SETTING_WITHOUT"
  | 2 => "MOST_OF_SORT"
  | 3 => "SETTING_LEAST"
  | _ => "SETTING_MOST"
def ri_key : String := "cells shown keeps nights ice cue lesson teacher boat shows rings sails day or and not known today at by times steps done number "
/-- a table of the class's -/
def ri_xt (E : ri_V) (t : Nat) (xs : List Int32) (U : State) (H : Heap) : Prop := ∃ cell : Cell, H[t]? = some cell ∧ U.isArrayOf cell .int ∧ cell.vm ≠ .unknown ∧ cell.slots.size = xs.length ∧ (∀ j : Nat, j < xs.length → cell.slots[j]? = some (.int (xs.getD j 0))) ∧ U.vm.findClass "[I" = some cell.cls ∧ ¬ ri_A E t
theorem ri_xt.moved {E : ri_V} {t : Nat} {xs : List Int32} {u U : State} {H : Heap} (hvm : u.vm.Alike U.vm) (h : ri_xt E t xs u H) : ri_xt E t xs U H := by
  obtain ⟨cell, h1, h2, h3, h4, h5, h6, h7⟩ := h
  exact ⟨cell, h1, State.isArrayOf_alike hvm h2, h3, h4, h5, by rw [hvm.findClass]; exact h6, h7⟩
theorem ri_xt.kept {E : ri_V} {t : Nat} {xs : List Int32} {U : State} {H H1 : Heap} (h : ri_xt E t xs U H) (hq : ∀ a : Nat, a < H.size → ¬ ri_A E a → H1[a]? = H[a]?) : ri_xt E t xs U H1 := by
  obtain ⟨cell, h1, h2, h3, h4, h5, h6, h7⟩ := h
  exact ⟨cell, by rw [hq t (Array.getElem?_eq_some_iff.mp h1).1 h7]; exact h1, h2, h3, h4, h5, h6, h7⟩
/-- what was there before the law -/
def ri_X (E : ri_V) (U : State) (H : Heap) : Prop :=
  (∀ n : Nat, 1 ≤ n → n ≤ 4 → ∃ t : Nat, E.2.1 n = some t ∧ va_Z "LakeLearns" (ri_xn n) "[I" (.ref t) (ri_A E) U H ∧ ri_xt E t (ri_xl n) U H) ∧
  va_Z "java/lang/String" "COMPACT_STRINGS" "Z" (.int 1) (ri_A E) U H ∧
  (∃ t5 t6 : Nat, E.2.1 5 = some t5 ∧ E.2.1 6 = some t6 ∧ vk_R "LakeLearns$Reader" 48 ri_key t5 U ∧ va_O "java/lang/String" t5 (ri_A E) U H ∧ va_OF "java/lang/String" "coder" "B" (.int 0) t5 (ri_A E) U H ∧ va_OF "java/lang/String" "value" "[B" (.ref t6) t5 (ri_A E) U H ∧ va_T .byte t6 128 (fun j => .int ((ri_xl 6).getD j 0)) (ri_A E) U H) ∧
  va_Z "jdk/internal/util/Preconditions" "SIOOBE_FORMATTER" "Ljava/util/function/BiFunction;" (va_rf (E.2.1 7)) (ri_A E) U H
theorem ri_X.to {E : ri_V} {u U : State} {H H1 : Heap} (hvm : u.vm.Alike U.vm) (hk : ∀ a : Nat, vk_R "LakeLearns$Reader" 48 ri_key a u → vk_R "LakeLearns$Reader" 48 ri_key a U) (hq : ∀ a : Nat, a < H.size → ¬ ri_A E a → H1[a]? = H[a]?) (h : ri_X E u H) : ri_X E U H1 := by
  obtain ⟨h1, h2, ⟨t5, t6, g1, g2, g3, g4, g5, g6, g7⟩, h4⟩ := h
  refine ⟨fun n a b => ?_, (va_Z.moved hvm h2).kept hq, ⟨t5, t6, g1, g2, hk _ g3, (va_O.moved hvm g4).kept hq, (va_OF.moved hvm g5).kept hq, (va_OF.moved hvm g6).kept hq, (va_T.moved hvm g7).kept hq⟩, (va_Z.moved hvm h4).kept hq⟩
  obtain ⟨t, e1, e2, e3⟩ := h1 n a b
  exact ⟨t, e1, (va_Z.moved hvm e2).kept hq, (e3.moved hvm).kept hq⟩
/-- the arrays' classes -/
def ri_tys (cA : Nat → ClassId) : List (ClassId × FieldType) := [(cA 13, .int), (cA 14, .byte), (cA 15, .long), (cA 16, .boolean), (cA 17, .object RX6), (cA 18, .object RX3)]
/-- a body's surroundings -/
def ri_Cx (p : Program) (s : State) (m : MethodId) (args : Array Value) (meth : Method) (c : Code) (E : ri_V) (D : va_G) (cA : Nat → ClassId) (M : ri_M) : Prop :=
  p.tables.exec = Jvm.exec ∧ c.code = M.2.1 ∧ c.maxLocals = M.2.2.1 ∧ s.vm.findClass M.2.2.2.2.1 = some m.cls ∧ (∀ w ∈ lw_tbl, ri_stb w = true → w.before args s = true) ∧ va_K D vwCl (ri_tys cA) s ∧ ri_X E s s.heap ∧ meth.name = M.1.name ∧ E.1 ≤ s.heap.size
def ri_Ab (p : Program) (l : Launch) (e : Env) (R : Room) (s : State) (m : MethodId) (args : Array Value) (below : List Frame) (meth : Method) (c : Code) (Q : State → Prop) (E : ri_V) (D : va_G) (cA : Nat → ClassId) (nL : Nat) (f : ri_F) : Prop :=
  ∀ (H : Heap) (ls : Array Slot) (locs : List Loc), lv_has ls nL (ri_mp E f.2.1) → ri_R E D cA f.2.2.2.1 H → va_S (ri_A E) s.heap H locs → W p l e R s m args below meth c H locs f.2.2.2.2.1 f.2.2.2.2.2 Q (F0 m f.1 ls (f.2.2.1.map (ri_cv E)))
theorem ri_wd {args : Array Value} {s : State} (hts : ∀ w ∈ lw_tbl, ri_stb w = true → w.before args s = true) {i : Nat} {w : Cond} (h : lw_tbl[i]? = some w) (hs : ri_stb w = true) : w.before args s = true := hts w (List.mem_of_getElem? h) hs
/-- a class's words, types, names -/
def ri_clok (r : vw_C) (ty0 : Nat → FieldType) (fs : List Value) : Bool :=
  (u_ws r.1 r.2.1 r.2.2).all (fun w => decide (w ∈ lw_tbl) && ri_stb w) && ((List.range r.2.2).all (fun k => decide (parseFieldDescriptor (r.2.1 k).2.2.1 = some (ty0 k)) && decide (defaultValue (ty0 k) = fs.getD k .null)) &&
  (List.range r.2.2).all (fun a => (List.range r.2.2).all (fun b => decide (a = b) || decide ((r.2.1 a).2.1 ≠ (r.2.1 b).2.1))))
def ri_Cl (r : vw_C) (ty0 : Nat → FieldType) (fs : List Value) : Prop :=
  (∀ w ∈ u_ws r.1 r.2.1 r.2.2, w ∈ lw_tbl.filter ri_stb) ∧ (∀ k, k < r.2.2 → parseFieldDescriptor (r.2.1 k).2.2.1 = some (ty0 k)) ∧ (∀ k, k < r.2.2 → defaultValue (ty0 k) = fs.getD k .null) ∧ ∀ a, a < r.2.2 → ∀ b, b < r.2.2 → a ≠ b → (r.2.1 a).2.1 ≠ (r.2.1 b).2.1
theorem ri_clok_ok {r : vw_C} {ty0 : Nat → FieldType} {fs : List Value} (h : ri_clok r ty0 fs = true) : ri_Cl r ty0 fs := by
  unfold ri_clok at h
  simp only [Bool.and_eq_true, List.all_eq_true, decide_eq_true_eq, List.mem_range, Bool.or_eq_true] at h
  obtain ⟨h1, h2, h3⟩ := h
  refine ⟨fun w hw => List.mem_filter.mpr (h1 w hw), fun k hk => (h2 k hk).1, fun k hk => (h2 k hk).2, fun a ha b hb hne => ?_⟩
  rcases h3 a ha b hb with h | h
  · exact absurd h hne
  · exact h
set_option maxRecDepth 100000 in
theorem ri_cl0 : ri_clok (RX0, TX0, 4) tyX0 ((ri_df 0).getD []) = true := by decide +kernel
set_option maxRecDepth 100000 in
theorem ri_cl1 : ri_clok (RX1, TX1, 1) tyX1 ((ri_df 1).getD []) = true := by decide +kernel
set_option maxRecDepth 100000 in
theorem ri_cl2 : ri_clok (RX2, TX2, 8) tyX2 ((ri_df 2).getD []) = true := by decide +kernel
set_option maxRecDepth 100000 in
theorem ri_cl3 : ri_clok (RX3, TX3, 4) tyX3 ((ri_df 3).getD []) = true := by decide +kernel
set_option maxRecDepth 100000 in
theorem ri_cl4 : ri_clok (RX4, TX4, 13) tyX4 ((ri_df 4).getD []) = true := by decide +kernel
set_option maxRecDepth 100000 in
theorem ri_cl5 : ri_clok (RX5, TX5, 3) tyX5 ((ri_df 5).getD []) = true := by decide +kernel
set_option maxRecDepth 100000 in
theorem ri_cl6 : ri_clok (RX6, TX6, 16) tyX6 ((ri_df 6).getD []) = true := by decide +kernel
set_option maxRecDepth 100000 in
theorem ri_cl7 : ri_clok (RX7, TX7, 3) tyX7 ((ri_df 7).getD []) = true := by decide +kernel
set_option maxRecDepth 100000 in
theorem ri_cl8 : ri_clok (RX8, TX8, 11) tyX8 ((ri_df 8).getD []) = true := by decide +kernel
set_option maxRecDepth 100000 in
theorem ri_cl9 : ri_clok (RX9, TX9, 6) tyX9 ((ri_df 9).getD []) = true := by decide +kernel
set_option maxRecDepth 100000 in
theorem ri_cl10 : ri_clok (RX10, TX10, 2) tyX10 ((ri_df 10).getD []) = true := by decide +kernel
set_option maxRecDepth 100000 in
theorem ri_cl11 : ri_clok (RX11, TX11, 17) tyX11 ((ri_df 11).getD []) = true := by decide +kernel
set_option maxRecDepth 100000 in
theorem ri_cl12 : ri_clok (RX12, TX12, 48) tyX12 ((ri_df 12).getD []) = true := by decide +kernel
theorem ri_cls {t : Nat} {r : vw_C} (h : vwCl[t]? = some r) : ∃ (ty0 : Nat → FieldType) (fs : List Value), ri_df t = some fs ∧ fs.length = r.2.2 ∧ ri_Cl r ty0 fs := by
  match t, h with
  | 0, h => cases h; exact ⟨_, _, rfl, rfl, ri_clok_ok ri_cl0⟩
  | 1, h => cases h; exact ⟨_, _, rfl, rfl, ri_clok_ok ri_cl1⟩
  | 2, h => cases h; exact ⟨_, _, rfl, rfl, ri_clok_ok ri_cl2⟩
  | 3, h => cases h; exact ⟨_, _, rfl, rfl, ri_clok_ok ri_cl3⟩
  | 4, h => cases h; exact ⟨_, _, rfl, rfl, ri_clok_ok ri_cl4⟩
  | 5, h => cases h; exact ⟨_, _, rfl, rfl, ri_clok_ok ri_cl5⟩
  | 6, h => cases h; exact ⟨_, _, rfl, rfl, ri_clok_ok ri_cl6⟩
  | 7, h => cases h; exact ⟨_, _, rfl, rfl, ri_clok_ok ri_cl7⟩
  | 8, h => cases h; exact ⟨_, _, rfl, rfl, ri_clok_ok ri_cl8⟩
  | 9, h => cases h; exact ⟨_, _, rfl, rfl, ri_clok_ok ri_cl9⟩
  | 10, h => cases h; exact ⟨_, _, rfl, rfl, ri_clok_ok ri_cl10⟩
  | 11, h => cases h; exact ⟨_, _, rfl, rfl, ri_clok_ok ri_cl11⟩
  | 12, h => cases h; exact ⟨_, _, rfl, rfl, ri_clok_ok ri_cl12⟩
  | t + 13, h => simp [vwCl] at h
end
section
section RIA
variable {p : Program} {l : Launch} {e : Env} {R : Room} {s : State} {m : MethodId} {args : Array Value} {below : List Frame} {meth : Method} {c : Code} {Q : State → Prop} {E : ri_V} {D : va_G} {cA : Nat → ClassId} {M : ri_M} {pc k z nL : Nat} {lo : List (Nat × Value)} {st r : List Value} {h : ri_H} {f' : ri_F}
theorem ri_i2_inv {op : Int32 → Int32 → Int32} (hs : ri_i2 op pc lo st h k z = some f') : ∃ x y r, st = .int y :: .int x :: r ∧ f' = (pc + 1, lo, .int (op x y) :: r, h, k, z) := by
  unfold ri_i2 at hs
  split at hs
  · exact ⟨_, _, _, rfl, (Option.some.inj hs).symm⟩
  · cases hs
theorem ri_d2_inv {op : Int32 → Int32 → Int32} (hs : ri_d2 op pc lo st h k z = some f') : ∃ x y r, st = .int y :: .int x :: r ∧ ¬ y = 0 ∧ f' = (pc + 1, lo, .int (op x y) :: r, h, k, z) := by
  unfold ri_d2 at hs
  split at hs
  · next y x r =>
    cases hd : decide (y = 0) with
    | true => rw [hd] at hs; cases hs
    | false => rw [hd] at hs; exact ⟨_, _, _, rfl, of_decide_eq_false hd, (Option.some.inj hs).symm⟩
  · cases hs
theorem ri_l2_inv {op : Int64 → Int64 → Int64} (hs : ri_l2 op pc lo st h k z = some f') : ∃ x y r, st = .long y :: .long x :: r ∧ f' = (pc + 1, lo, .long (op x y) :: r, h, k, z) := by
  unfold ri_l2 at hs
  split at hs
  · exact ⟨_, _, _, rfl, (Option.some.inj hs).symm⟩
  · cases hs
theorem ri_ld_inv {t : Value → Bool} {i n : Nat} (hs : ri_ld t i n pc lo st h k z = some f') : ∃ v, ri_lk lo i = some v ∧ t v = true ∧ f' = (pc + n, lo, v :: st, h, k, z) := by
  unfold ri_ld at hs
  split at hs
  · next v hv =>
    cases ht : t v with
    | true => rw [ht] at hs; exact ⟨v, hv, ht, (Option.some.inj hs).symm⟩
    | false => rw [ht] at hs; cases hs
  · cases hs
theorem ri_sto_inv {t : Value → Bool} {i n : Nat} (hs : ri_sto t M i n pc lo st h k z = some f') : ∃ v r, st = v :: r ∧ t v = true ∧ i < M.2.2.1 ∧ f' = (pc + n, ri_st1 lo i v, r, h, k, z) := by
  unfold ri_sto at hs
  split at hs
  · next v r =>
    cases ht : (t v && Nat.blt i M.2.2.1) with
    | true =>
      rw [ht] at hs
      obtain ⟨h1, h2⟩ := (Bool.and_eq_true _ _).mp ht
      exact ⟨v, r, rfl, h1, by simpa [Nat.blt_eq] using h2, (Option.some.inj hs).symm⟩
    | false => rw [ht] at hs; cases hs
  · cases hs
theorem ri_r_ild (X : ri_Cx p s m args meth c E D cA M) {i : Nat} {v : Value} (hv : ri_lk lo i = some v) (hi : ri_isI v = true) {n : Nat} (hd : (∃ q : Fin 4, (q : Nat) = i ∧ n = 1 ∧ decode M.2.1 pc = .ok (.iload_n q, 1)) ∨ (n = 2 ∧ decode M.2.1 pc = .ok (.iload i, 2)))
    (kk : ri_Ab p l e R s m args below meth c Q E D cA M.2.2.1 (pc + n, lo, v :: st, h, k, z)) : ri_Ab p l e R s m args below meth c Q E D cA M.2.2.1 (pc, lo, st, h, k, z) := by
  obtain ⟨hx, hb, -⟩ := X
  intro H ls locs hl hR hS
  have ha := ri_lk_at hl hv
  have kk : W p l e R s m args below meth c H locs k z Q (F0 m (pc + n) ls (ri_cv E v :: st.map (ri_cv E))) := kk H ls locs hl hR hS
  rw [ri_isI_cv hi] at ha kk
  rcases hd with ⟨q, h1, rfl, h2⟩ | ⟨rfl, h2⟩
  · exact lv_iload_n hx hb h2 h1 ha kk
  · exact lv_iload hx hb h2 ha kk
theorem ri_r_lld (X : ri_Cx p s m args meth c E D cA M) {i : Nat} {v : Value} (hv : ri_lk lo i = some v) (hi : ri_isL v = true) {q : Fin 4} (hq : (q : Nat) = i) (hd : decode M.2.1 pc = .ok (.lload_n q, 1))
    (kk : ri_Ab p l e R s m args below meth c Q E D cA M.2.2.1 (pc + 1, lo, v :: st, h, k, z)) : ri_Ab p l e R s m args below meth c Q E D cA M.2.2.1 (pc, lo, st, h, k, z) := by
  obtain ⟨hx, hb, -⟩ := X
  intro H ls locs hl hR hS
  have ha := ri_lk_at hl hv
  have kk : W p l e R s m args below meth c H locs k z Q (F0 m (pc + 1) ls (ri_cv E v :: st.map (ri_cv E))) := kk H ls locs hl hR hS
  obtain ⟨x, -, hx2⟩ := ri_isL_cv (E := E) hi
  rw [hx2] at ha kk
  exact lv_lload_n hx hb hd hq ha kk
theorem ri_r_ald (X : ri_Cx p s m args meth c E D cA M) {i : Nat} {v : Value} (hv : ri_lk lo i = some v) (hi : ri_isA v = true) {n : Nat} (hd : (∃ q : Fin 4, (q : Nat) = i ∧ n = 1 ∧ decode M.2.1 pc = .ok (.aload_n q, 1)) ∨ (n = 2 ∧ decode M.2.1 pc = .ok (.aload i, 2)))
    (kk : ri_Ab p l e R s m args below meth c Q E D cA M.2.2.1 (pc + n, lo, v :: st, h, k, z)) : ri_Ab p l e R s m args below meth c Q E D cA M.2.2.1 (pc, lo, st, h, k, z) := by
  obtain ⟨hx, hb, -⟩ := X
  intro H ls locs hl hR hS
  have ha := ri_lk_at hl hv
  have kk : W p l e R s m args below meth c H locs k z Q (F0 m (pc + n) ls (ri_cv E v :: st.map (ri_cv E))) := kk H ls locs hl hR hS
  rcases ri_isA_cv (E := E) hi with e0 | ⟨a, e0⟩
  · rw [e0] at ha kk
    rcases hd with ⟨q, h1, rfl, h2⟩ | ⟨rfl, h2⟩
    · exact lv_aload_nN hx hb h2 h1 ha kk
    · exact lv_aloadN hx hb h2 ha kk
  · rw [e0] at ha kk
    rcases hd with ⟨q, h1, rfl, h2⟩ | ⟨rfl, h2⟩
    · exact lv_aload_n hx hb h2 h1 ha kk
    · exact lv_aload hx hb h2 ha kk
theorem ri_r_ist (X : ri_Cx p s m args meth c E D cA M) {i : Nat} {v : Value} (hi : ri_isI v = true) (hn : i < M.2.2.1) {n : Nat} (hd : (∃ q : Fin 4, (q : Nat) = i ∧ n = 1 ∧ decode M.2.1 pc = .ok (.istore_n q, 1)) ∨ (n = 2 ∧ decode M.2.1 pc = .ok (.istore i, 2)))
    (kk : ri_Ab p l e R s m args below meth c Q E D cA M.2.2.1 (pc + n, ri_st1 lo i v, r, h, k, z)) : ri_Ab p l e R s m args below meth c Q E D cA M.2.2.1 (pc, lo, v :: r, h, k, z) := by
  obtain ⟨hx, hb, -⟩ := X
  intro H ls locs hl hR hS
  have e1 := ri_mp_st1 E lo i v
  show W p l e R s m args below meth c H locs k z Q (F0 m pc ls (ri_cv E v :: r.map (ri_cv E)))
  rw [ri_isI_cv hi] at e1 ⊢
  rcases hd with ⟨q, h1, rfl, h2⟩ | ⟨rfl, h2⟩
  · exact lv_istore_n hx hb h2 h1 hl hn e1 (fun ls' hl' => kk H ls' locs hl' hR hS)
  · exact lv_istore hx hb h2 hl hn e1 (fun ls' hl' => kk H ls' locs hl' hR hS)
theorem ri_r_ast (X : ri_Cx p s m args meth c E D cA M) {i : Nat} {v : Value} (hi : ri_isA v = true) (hn : i < M.2.2.1) {n : Nat} (hd : (∃ q : Fin 4, (q : Nat) = i ∧ n = 1 ∧ decode M.2.1 pc = .ok (.astore_n q, 1)) ∨ (n = 2 ∧ decode M.2.1 pc = .ok (.astore i, 2)))
    (kk : ri_Ab p l e R s m args below meth c Q E D cA M.2.2.1 (pc + n, ri_st1 lo i v, r, h, k, z)) : ri_Ab p l e R s m args below meth c Q E D cA M.2.2.1 (pc, lo, v :: r, h, k, z) := by
  obtain ⟨hx, hb, -⟩ := X
  intro H ls locs hl hR hS
  have e1 := ri_mp_st1 E lo i v
  show W p l e R s m args below meth c H locs k z Q (F0 m pc ls (ri_cv E v :: r.map (ri_cv E)))
  rcases ri_isA_cv (E := E) hi with e0 | ⟨a, e0⟩
  · rw [e0] at e1 ⊢
    rcases hd with ⟨q, h1, rfl, h2⟩ | ⟨rfl, h2⟩
    · exact lv_astore_nN hx hb h2 h1 hl hn e1 (fun ls' hl' => kk H ls' locs hl' hR hS)
    · exact lv_astoreN hx hb h2 hl hn e1 (fun ls' hl' => kk H ls' locs hl' hR hS)
  · rw [e0] at e1 ⊢
    rcases hd with ⟨q, h1, rfl, h2⟩ | ⟨rfl, h2⟩
    · exact lv_astore_n hx hb h2 h1 hl hn e1 (fun ls' hl' => kk H ls' locs hl' hR hS)
    · exact lv_astore hx hb h2 hl hn e1 (fun ls' hl' => kk H ls' locs hl' hR hS)
theorem ri_r_iinc (X : ri_Cx p s m args meth c E D cA M) {i : Nat} {n : Int} {x : Int32} (hv : ri_lk lo i = some (.int x)) (hn : i < M.2.2.1) (hd : decode M.2.1 pc = .ok (.iinc i n, 3))
    (kk : ri_Ab p l e R s m args below meth c Q E D cA M.2.2.1 (pc + 3, ri_st1 lo i (.int (x + Int32.ofInt n)), st, h, k, z)) : ri_Ab p l e R s m args below meth c Q E D cA M.2.2.1 (pc, lo, st, h, k, z) := by
  obtain ⟨hx, hb, -⟩ := X
  intro H ls locs hl hR hS
  obtain ⟨j, hj⟩ := ri_lk_pl (E := E) hv
  exact lv_iinc hx hb hd hl hj rfl hn (ri_mp_st1 E lo i (.int (x + Int32.ofInt n))) (fun ls' hl' => kk H ls' locs hl' hR hS)
/-- rows that push a constant -/
theorem ri_r_push (X : ri_Cx p s m args meth c E D cA M) {v : Value} {n : Nat} (hrow : ∀ (H : Heap) (ls : Array Slot) (locs : List Loc) (rest : List Value), W p l e R s m args below meth c H locs k z Q (F0 m (pc + n) ls (v :: rest)) → W p l e R s m args below meth c H locs k z Q (F0 m pc ls rest)) (hv : ri_cv E v = v)
    (kk : ri_Ab p l e R s m args below meth c Q E D cA M.2.2.1 (pc + n, lo, v :: st, h, k, z)) : ri_Ab p l e R s m args below meth c Q E D cA M.2.2.1 (pc, lo, st, h, k, z) := by
  intro H ls locs hl hR hS
  have kk : W p l e R s m args below meth c H locs k z Q (F0 m (pc + n) ls (ri_cv E v :: st.map (ri_cv E))) := kk H ls locs hl hR hS
  rw [hv] at kk
  exact hrow H ls locs _ kk
end RIA
end
section
section RIB
variable {p : Program} {l : Launch} {e : Env} {R : Room} {s : State} {m : MethodId} {args : Array Value} {below : List Frame} {meth : Method} {c : Code} {Q : State → Prop} {E : ri_V} {D : va_G} {cA : Nat → ClassId} {M : ri_M} {pc k z nL : Nat} {lo : List (Nat × Value)} {st r : List Value} {h : ri_H} {f' : ri_F}
theorem ri_r_stk {pc' : Nat} {st' : List Value} (hrow : ∀ (H : Heap) (ls : Array Slot) (locs : List Loc), W p l e R s m args below meth c H locs k z Q (F0 m pc' ls (st'.map (ri_cv E))) → W p l e R s m args below meth c H locs k z Q (F0 m pc ls (st.map (ri_cv E))))
    (kk : ri_Ab p l e R s m args below meth c Q E D cA nL (pc', lo, st', h, k, z)) : ri_Ab p l e R s m args below meth c Q E D cA nL (pc, lo, st, h, k, z) := fun H ls locs hl hR hS => hrow H ls locs (kk H ls locs hl hR hS)
theorem ri_fl (hts : ∀ w ∈ lw_tbl, ri_stb w = true → w.before args s = true) : ∀ w ∈ lw_tbl.filter ri_stb, w.before args s = true := fun w hw => hts w (List.mem_filter.mp hw).1 (List.mem_filter.mp hw).2
theorem ri_gD (E : ri_V) (l : List Value) (j : Nat) : ri_cv E (l.getD j .null) = (l.map (ri_cv E)).getD j .null := by
  rw [List.getD_eq_getElem?_getD, List.getD_eq_getElem?_getD, List.getElem?_map]
  cases l[j]? <;> rfl
theorem ri_P1 {H : Heap} {j : Nat} {q : ri_C} (hc : ri_cell E D cA j q H) (h13 : q.1 < 13) : va_P D vwCl [(E.1 + j, .inr (q.1, q.2.map (ri_cv E)))] H := by
  intro i x hx
  have hz : i < 1 := (List.getElem?_eq_some_iff.mp hx).1
  rw [show i = 0 by omega] at hx
  cases hx
  obtain ⟨r0, h1, h2⟩ := hc.1 h13
  exact ⟨r0, h1, h2.to (fun n _ => ri_gD E q.2 n)⟩
theorem ri_r_getf (X : ri_Cx p s m args meth c E D cA M) {i r0 idx j : Nat} {q : ri_C} {v : Value} {rr : vw_C} (hq : h[r0]? = some q) (h13 : q.1 < 13) (hv : q.2[i]? = some v) (hr : vwCl[q.1]? = some rr) (hi : i < rr.2.2) (hlink : lw_tbl[j]? = some (.fieldLink M.2.2.2.2.1 idx (rr.2.1 i).1 (rr.2.1 i).2.1 (rr.2.1 i).2.2.1)) (hd : decode M.2.1 pc = .ok (.getfield idx, 3))
    (kk : ri_Ab p l e R s m args below meth c Q E D cA M.2.2.1 (pc + 3, lo, v :: st, h, k, z)) : ri_Ab p l e R s m args below meth c Q E D cA M.2.2.1 (pc, lo, .ref r0 :: st, h, k, z) := by
  obtain ⟨hx, hb, -, hown, hts, hK, -⟩ := X
  intro H ls locs hl hR hS
  obtain ⟨ty0, fs, -, -, hin, -⟩ := ri_cls hr
  exact va_get (C := rr.1) (T := rr.2.1) (N := rr.2.2) (ci := q.1) hx hb (ri_fl hts) hin hown hK (ri_P1 (hR.2 r0 q hq) h13) 0 rfl hr i hi (ri_wd hts hlink rfl) (fun _ h => h) (v := ri_cv E v) (by rw [List.getElem?_map, hv]; rfl) hd (kk H ls locs hl hR hS)
theorem ri_r_getS (X : ri_Cx p s m args meth c E D cA M) {idx j w : Nat} {v : Value} (hw : (w = 0 ∧ v = .int 0 ∧ lw_tbl[j]? = some (.fieldLink M.2.2.2.2.1 idx "java/lang/String" "coder" "B")) ∨ (w = 1 ∧ v = .retAddr 6 ∧ lw_tbl[j]? = some (.fieldLink M.2.2.2.2.1 idx "java/lang/String" "value" "[B"))) (hd : decode M.2.1 pc = .ok (.getfield idx, 3))
    (kk : ri_Ab p l e R s m args below meth c Q E D cA M.2.2.1 (pc + 3, lo, v :: st, h, k, z)) : ri_Ab p l e R s m args below meth c Q E D cA M.2.2.1 (pc, lo, .retAddr 5 :: st, h, k, z) := by
  obtain ⟨hx, hb, -, hown, hts, hK, ⟨-, -, ⟨t5, t6, g1, g2, g3, g4, g5, g6, g7⟩, -⟩, -⟩ := X
  intro H ls locs hl hR hS
  have kk : W p l e R s m args below meth c H locs k z Q (F0 m (pc + 3) ls (ri_cv E v :: st.map (ri_cv E))) := kk H ls locs hl hR hS
  have e5 : ri_cv E (.retAddr 5) = .ref t5 := by show va_rf (E.2.1 5) = _; rw [g1]; rfl
  show W p l e R s m args below meth c H locs k z Q (F0 m pc ls (ri_cv E (.retAddr 5) :: st.map (ri_cv E)))
  rw [e5]
  rcases hw with ⟨-, rfl, hj⟩ | ⟨-, rfl, hj⟩
  · exact vk_getf hx hb g5 hS hown (ri_wd hts hj rfl) (fun _ h => h) hd kk
  · have e6 : ri_cv E (.retAddr 6) = .ref t6 := by show va_rf (E.2.1 6) = _; rw [g2]; rfl
    rw [e6] at kk
    exact vk_getf hx hb g6 hS hown (ri_wd hts hj rfl) (fun _ h => h) hd kk
theorem ri_fit_ok {q : Nat} {v : Value} {ty : FieldType} (hf : ri_fit q v = true) (ht : (q = 0 ∧ ty = .int) ∨ (q = 1 ∧ ty = .boolean) ∨ (q = 2 ∧ ty = .long) ∨ (q = 3 ∧ ((∃ n, ty = .object n) ∨ ∃ t, ty = .array t))) : narrow ty (ri_cv E v) = ri_cv E v ∧ fits ty (ri_cv E v) = true := by
  rcases ht with ⟨rfl, rfl⟩ | ⟨rfl, rfl⟩ | ⟨rfl, rfl⟩ | ⟨rfl, ⟨n, rfl⟩ | ⟨t, rfl⟩⟩
  · cases v <;> first | (simp [ri_fit] at hf; done) | exact ⟨rfl, rfl⟩
  · cases v with
    | int x =>
      simp only [ri_fit, Bool.or_eq_true, decide_eq_true_eq] at hf
      rcases hf with rfl | rfl
      · exact ⟨rfl, rfl⟩
      · exact ⟨rfl, rfl⟩
    | _ => simp [ri_fit] at hf
  · cases v <;> first | (simp [ri_fit] at hf; done) | exact ⟨rfl, rfl⟩
  · cases v <;> first | (simp [ri_fit] at hf; done) | exact ⟨rfl, rfl⟩
  · cases v <;> first | (simp [ri_fit] at hf; done) | exact ⟨rfl, rfl⟩
theorem ri_updV {fs : List Value} {i : Nat} (hi : i < fs.length) (v : Value) (n : Nat) : updV (fun j => ri_cv E (fs.getD j .null)) i (ri_cv E v) n = ri_cv E ((fs.set i v).getD n .null) := by
  unfold updV
  by_cases hn : n = i
  · subst hn
    simp [hi]
  · rw [if_neg hn]
    show ri_cv E (fs.getD n .null) = _
    rw [List.getD_eq_getElem?_getD, List.getD_eq_getElem?_getD, List.getElem?_set_ne (Ne.symm hn)]
theorem ri_r_putf (X : ri_Cx p s m args meth c E D cA M) {i r0 idx j qt : Nat} {q : ri_C} {v : Value} {rr : vw_C} {ty : FieldType} (hq : h[r0]? = some q) (h13 : q.1 < 13) (hil : i < q.2.length) (hr : vwCl[q.1]? = some rr) (hi : i < rr.2.2) (hlink : lw_tbl[j]? = some (.fieldLink M.2.2.2.2.1 idx (rr.2.1 i).1 (rr.2.1 i).2.1 (rr.2.1 i).2.2.1))
    (hpd : parseFieldDescriptor (rr.2.1 i).2.2.1 = some ty) (hqt : (qt = 0 ∧ ty = .int) ∨ (qt = 1 ∧ ty = .boolean) ∨ (qt = 2 ∧ ty = .long) ∨ (qt = 3 ∧ ((∃ n, ty = .object n) ∨ ∃ t, ty = .array t))) (hfit : ri_fit qt v = true) (hfin : (rr.2.1 i).2.2.2 = false ∨ ((rr.2.1 i).2.2.2 = true ∧ M.1.name = "<init>" ∧ (rr.2.1 i).1 = M.2.2.2.2.1)) (hd : decode M.2.1 pc = .ok (.putfield idx, 3))
    (kk : ri_Ab p l e R s m args below meth c Q E D cA M.2.2.1 (pc + 3, lo, st, h.set r0 (q.1, q.2.set i v), k, z)) : ri_Ab p l e R s m args below meth c Q E D cA M.2.2.1 (pc, lo, v :: .ref r0 :: st, h, k, z) := by
  obtain ⟨hx, hb, -, hown, hts, hK, -, hnm, hE⟩ := X
  intro H ls locs hl hR hS0
  obtain ⟨ty0, fs, -, -, hin, hty, -, hna⟩ := ri_cls hr
  have hts := ri_fl hts
  have hlink : (Cond.fieldLink M.2.2.2.2.1 idx (rr.2.1 i).1 (rr.2.1 i).2.1 (rr.2.1 i).2.2.1).before args s = true := hts _ (List.mem_filter.mpr ⟨List.mem_of_getElem? hlink, rfl⟩)
  have hap := va_apart (own := M.2.2.2.2.1) hts hin ty0 hty hna hK hr
  obtain ⟨r1, h1, cell, q1, q2, q3, q4⟩ := (hR.2 r0 q hq).1 h13
  cases h1.symm.trans hr
  obtain ⟨hS, hfc, kC, hkC, hkind⟩ := hK.1 q.1 _ hr
  obtain ⟨cf, kf, fi, f, hfi, hsl⟩ := hS i hi
  have hlay := hts _ (hin _ (u_in_lay hi))
  unfold u_lay at hlay
  have hst := (u_facts hfc hkC (u_lays hts hin hi) hfi).1
  obtain ⟨hn, hf⟩ := ri_fit_ok (E := E) hfit hqt
  have fin : ∀ H' : Heap, H'[E.1 + r0]? = some (cell.setSlot f.slot (ri_cv E v)) → H'.size = H.size → (∀ a, a ≠ E.1 + r0 → H'[a]? = H[a]?) → W p l e R s m args below meth c H' (locs ++ [⟨E.1 + r0, f.slot⟩]) k z Q (F0 m (pc + 3) ls (st.map (ri_cv E))) := by
    intro H' e1 e2 e3
    rw [hsl] at e1
    refine kk H' ls _ hl (hR.set e2 e3 ⟨fun _ => ⟨rr, hr, ?_⟩, fun h _ => absurd h13 (Nat.not_lt.mpr h)⟩) (hS0.put e2 e3 (by show E.1 ≤ E.1 + r0; omega))
    exact t_OB.to (V := updV (fun j => ri_cv E (q.2.getD j .null)) i (ri_cv E v)) ⟨_, e1, q2, q3, t_set q4 hap hi (ri_cv E v)⟩ (fun n _ => ri_updV hil v n)
  rcases hfin with hfin | ⟨hfin, hin2, hdecl⟩
  · rw [if_neg (by rw [hfin]; decide)] at hlay
    have h6 := u_store hfc hkC hkind hlay hfi hpd hn hf
    exact W.putK hx hb (f := f) ⟨hown, hlink, ⟨_, _, _, hfi⟩, hst⟩ (by rw [q2]; exact h6) q1 q3 (by rw [hsl]; exact k2_hasslot (q4 i hi)) rfl rfl hd fin
  · rw [if_pos hfin] at hlay
    have hcf : m.cls = cf := by
      obtain ⟨_, _, c', _, _, _, -, -, hf', -, -, -, hown2, -⟩ := Cond.laysFinal_spec hlay
      have e1 : c' = cf := by have := hfi.symm.trans hf'; simp at this; exact this.1.symm
      rw [hdecl] at hown2
      rw [← e1]; exact Option.some.inj (hown.symm.trans hown2)
    have h6 := u_fits hfc hkC hkind (Or.inr hlay) hfi hpd hn hf
    exact W.putFinK hx hb hown hlink hfi hst hcf (hnm.trans hin2) (by rw [q2]; exact h6) q1 q3 (by rw [hsl]; exact k2_hasslot (q4 i hi)) rfl rfl hd fin
end RIB
end
section
section RIC
variable {p : Program} {l : Launch} {e : Env} {R : Room} {s : State} {m : MethodId} {args : Array Value} {below : List Frame} {meth : Method} {c : Code} {Q : State → Prop} {E : ri_V} {D : va_G} {cA : Nat → ClassId} {M : ri_M} {pc k z nL : Nat} {lo : List (Nat × Value)} {st r : List Value} {h : ri_H} {f' : ri_F}
/-- the element types of the kinds of arrays -/
def ri_ty (t : Nat) : FieldType := match t with
  | 13 => .int
  | 14 => .byte
  | 15 => .long
  | 16 => .boolean
  | 17 => .object RX6
  | _ => .object RX3
theorem ri_arr (hK : va_K D vwCl (ri_tys cA) s) {t : Nat} (h1 : 13 ≤ t) (h2 : t ≤ 18) : ArrOfT s (cA t) (ri_ty t) ∧ va_RA s (cA t) (ri_ty t) := by
  rcases (show t = 13 ∨ t = 14 ∨ t = 15 ∨ t = 16 ∨ t = 17 ∨ t = 18 by omega) with rfl | rfl | rfl | rfl | rfl | rfl
  · exact hK.2 0 _ rfl
  · exact hK.2 1 _ rfl
  · exact hK.2 2 _ rfl
  · exact hK.2 3 _ rfl
  · exact hK.2 4 _ rfl
  · exact hK.2 5 _ rfl
theorem ri_nn {i : Int32} {n : Nat} (h0 : ¬ i < 0) (h1 : i.toNatClampNeg < n) (cI : ClassId) (f : Nat → Value) : ¬ (i < 0 ∨ (arrV cI n f).slots.size ≤ i.toNatClampNeg) := by
  rw [arrV_size]
  rintro (q | q)
  · exact h0 q
  · omega
theorem ri_elt {q : List Value} {n : Nat} {v : Value} (hv : q[n]? = some v) : ri_cv E v = ri_cv E (q.getD n .null) := by
  rw [List.getD_eq_getElem?_getD, hv]; rfl
theorem ri_ald_inv {g : Nat → Bool} {x : Nat} {a : Value} {i : Int32} {v : Value} (hs : ri_ald g x a i h = some v) :
    (∃ r0 q, a = .ref r0 ∧ h[r0]? = some q ∧ g q.1 = true ∧ ¬ i < 0 ∧ q.2[i.toNatClampNeg]? = some v) ∨ (∃ n y, a = .retAddr n ∧ ((x = 1 ∧ 1 ≤ n ∧ n ≤ 4) ∨ (x = 2 ∧ n = 6)) ∧ ¬ i < 0 ∧ (ri_xl n)[i.toNatClampNeg]? = some y ∧ v = .int y) := by
  unfold ri_ald at hs
  split at hs
  · next r0 =>
    split at hs
    · next q hq =>
      cases hg : (g q.1 && !decide (i < 0)) with
      | false => rw [hg] at hs; cases hs
      | true =>
        rw [hg] at hs
        simp only [Bool.and_eq_true, Bool.not_eq_true', decide_eq_false_iff_not] at hg
        exact Or.inl ⟨r0, q, rfl, hq, hg.1, hg.2, hs⟩
    · cases hs
  · next n =>
    cases hg : (Nat.beq x 1 && (Nat.ble 1 n && Nat.ble n 4) || (Nat.beq x 2 && Nat.beq n 6)) with
    | false => rw [hg] at hs; cases hs
    | true =>
      rw [hg] at hs
      cases hd : (!decide (i < 0)) with
      | false => rw [hd] at hs; cases hs
      | true =>
        rw [hd] at hs
        simp only [Bool.or_eq_true, Bool.and_eq_true, Nat.beq_eq, Nat.ble_eq] at hg
        simp only [Bool.not_eq_true', decide_eq_false_iff_not] at hd
        obtain ⟨y, hy, rfl⟩ := Option.map_eq_some_iff.mp (show ((ri_xl n)[i.toNatClampNeg]?).map Value.int = some v from hs)
        exact Or.inr ⟨n, y, rfl, by simpa using hg, hd, hy, rfl⟩
  · cases hs
theorem ri_ast_inv {g : Nat → Bool} {a : Value} {i : Int32} {v : Value} {h' : ri_H} (hs : ri_ast g a i v h = some h') :
    ∃ r0 q, a = .ref r0 ∧ h[r0]? = some q ∧ g q.1 = true ∧ ¬ i < 0 ∧ i.toNatClampNeg < q.2.length ∧ h' = h.set r0 (q.1, q.2.set i.toNatClampNeg v) := by
  unfold ri_ast at hs
  split at hs
  · next r0 =>
    split at hs
    · next q hq =>
      cases hg : (g q.1 && (!decide (i < 0) && Nat.blt i.toNatClampNeg q.2.length)) with
      | false => rw [hg] at hs; cases hs
      | true =>
        rw [hg] at hs
        simp only [Bool.and_eq_true, Bool.not_eq_true', decide_eq_false_iff_not, Nat.blt_eq] at hg
        exact ⟨r0, q, rfl, hq, hg.1, hg.2.1, hg.2.2, (Option.some.inj hs).symm⟩
    · cases hs
  · cases hs
/-- a read of an array of one's own -/
theorem ri_r_ald1 (X : ri_Cx p s m args meth c E D cA M) {r0 : Nat} {q : ri_C} {i : Int32} {v : Value} (hq : h[r0]? = some q) (hi : ¬ i < 0) (hv : q.2[i.toNatClampNeg]? = some v)
    (hd : (q.1 = 13 ∧ decode M.2.1 pc = .ok (.iaload, 1)) ∨ (q.1 = 14 ∧ decode M.2.1 pc = .ok (.baload, 1)) ∨ (q.1 = 16 ∧ decode M.2.1 pc = .ok (.baload, 1)) ∨ (q.1 = 15 ∧ decode M.2.1 pc = .ok (.laload, 1)) ∨ ((q.1 = 17 ∨ q.1 = 18) ∧ decode M.2.1 pc = .ok (.aaload, 1)))
    (kk : ri_Ab p l e R s m args below meth c Q E D cA M.2.2.1 (pc + 1, lo, v :: st, h, k, z)) : ri_Ab p l e R s m args below meth c Q E D cA M.2.2.1 (pc, lo, .int i :: .ref r0 :: st, h, k, z) := by
  obtain ⟨hx, hb, -, hown, hts, hK, -⟩ := X
  intro H ls locs hl hR hS
  have kk : W p l e R s m args below meth c H locs k z Q (F0 m (pc + 1) ls (ri_cv E v :: st.map (ri_cv E))) := kk H ls locs hl hR hS
  rw [ri_elt hv] at kk
  have hlt : i.toNatClampNeg < q.2.length := (List.getElem?_eq_some_iff.mp hv).1
  have hc : 13 ≤ q.1 → q.1 ≤ 18 → H[E.1 + r0]? = some (arrV (cA q.1) q.2.length (fun j => ri_cv E (q.2.getD j .null))) := (hR.2 r0 q hq).2
  obtain ⟨t, xs⟩ := q
  dsimp only at hc hd hlt kk
  rcases hd with ⟨rfl, hd⟩ | ⟨rfl, hd⟩ | ⟨rfl, hd⟩ | ⟨rfl, hd⟩ | ⟨rfl | rfl, hd⟩
  · exact W.iald hx hb (hc (by omega) (by omega)) ((ri_arr hK (t := 13) (by omega) (by omega)).1 _ _) (fun h => by cases h) (ri_nn hi hlt _ _) (arrV_read _ _ hlt) rfl rfl hd kk
  · exact W.bald hx hb (hc (by omega) (by omega)) ((ri_arr hK (t := 14) (by omega) (by omega)).1 _ _) (fun h => by cases h) (ri_nn hi hlt _ _) (arrV_read _ _ hlt) rfl rfl hd kk
  · exact W.zald hx hb (hc (by omega) (by omega)) ((ri_arr hK (t := 16) (by omega) (by omega)).1 _ _) (fun h => by cases h) (ri_nn hi hlt _ _) (arrV_read _ _ hlt) rfl rfl hd kk
  · exact W.lald hx hb (hc (by omega) (by omega)) ((ri_arr hK (t := 15) (by omega) (by omega)).1 _ _) (fun h => by cases h) (ri_nn hi hlt _ _) (arrV_read _ _ hlt) rfl rfl hd kk
  · exact W.aald (ty := .object RX6) hx hb (hc (by omega) (by omega)) ((ri_arr hK (t := 17) (by omega) (by omega)).1 _ _) rfl (fun h => by cases h) (ri_nn hi hlt _ _) (arrV_read _ _ hlt) rfl rfl hd kk
  · exact W.aald (ty := .object RX3) hx hb (hc (by omega) (by omega)) ((ri_arr hK (t := 18) (by omega) (by omega)).1 _ _) rfl (fun h => by cases h) (ri_nn hi hlt _ _) (arrV_read _ _ hlt) rfl rfl hd kk
/-- a read of a table -/
theorem ri_r_ald2 (X : ri_Cx p s m args meth c E D cA M) {n : Nat} {i : Int32} {y : Int32} (hi : ¬ i < 0) (hv : (ri_xl n)[i.toNatClampNeg]? = some y)
    (hd : (1 ≤ n ∧ n ≤ 4 ∧ decode M.2.1 pc = .ok (.iaload, 1)) ∨ (n = 6 ∧ decode M.2.1 pc = .ok (.baload, 1)))
    (kk : ri_Ab p l e R s m args below meth c Q E D cA M.2.2.1 (pc + 1, lo, .int y :: st, h, k, z)) : ri_Ab p l e R s m args below meth c Q E D cA M.2.2.1 (pc, lo, .int i :: .retAddr n :: st, h, k, z) := by
  obtain ⟨hx, hb, -, hown, hts, hK, ⟨x1, -, ⟨t5, t6, g1, g2, g3, g4, g5, g6, g7⟩, -⟩, -⟩ := X
  intro H ls locs hl hR hS
  have kk : W p l e R s m args below meth c H locs k z Q (F0 m (pc + 1) ls (.int y :: st.map (ri_cv E))) := kk H ls locs hl hR hS
  have hlt : i.toNatClampNeg < (ri_xl n).length := (List.getElem?_eq_some_iff.mp hv).1
  have ey : (ri_xl n).getD i.toNatClampNeg 0 = y := by rw [List.getD_eq_getElem?_getD, hv]; rfl
  show W p l e R s m args below meth c H locs k z Q (F0 m pc ls (.int i :: va_rf (E.2.1 n) :: st.map (ri_cv E)))
  rcases hd with ⟨h1, h4, hd⟩ | ⟨rfl, hd⟩
  · obtain ⟨t, e1, -, cell, c1, c2, c3, c4, c5, c6, c7⟩ := x1 n h1 h4
    rw [e1]
    refine W.iald hx hb (cell := cell) (by rw [hS.2.1 t (Array.getElem?_eq_some_iff.mp c1).1 c7]; exact c1) c2 c3 ?_ (c5 _ hlt) rfl rfl hd (by rw [ey]; exact kk)
    rintro (q | q)
    · exact hi q
    · omega
  · rw [g2]
    exact va_tb hx hb g7 hS (i := i) (by rintro (q | q); exact hi q; exact absurd hlt (Nat.not_lt.mpr q)) (v := .int y) (by rw [ey]) hd kk
theorem ri_r_alen (X : ri_Cx p s m args meth c E D cA M) {a : Value} {n : Int32} (ha : ri_alen a h = some n) (hd : decode M.2.1 pc = .ok (.arraylength, 1))
    (kk : ri_Ab p l e R s m args below meth c Q E D cA M.2.2.1 (pc + 1, lo, .int n :: st, h, k, z)) : ri_Ab p l e R s m args below meth c Q E D cA M.2.2.1 (pc, lo, a :: st, h, k, z) := by
  obtain ⟨hx, hb, -, hown, hts, hK, ⟨x1, -, ⟨t5, t6, g1, g2, g3, g4, g5, g6, g7⟩, -⟩, -⟩ := X
  intro H ls locs hl hR hS
  have kk : W p l e R s m args below meth c H locs k z Q (F0 m (pc + 1) ls (.int n :: st.map (ri_cv E))) := kk H ls locs hl hR hS
  unfold ri_alen at ha
  split at ha
  · next r0 =>
    split at ha
    · next q hq =>
      cases hg : (Nat.ble 13 q.1 && Nat.ble q.1 18) with
      | false => rw [hg] at ha; cases ha
      | true =>
        rw [hg] at ha
        have ha := Option.some.inj ha
        simp only [Bool.and_eq_true, Nat.ble_eq] at hg
        exact W.alen hx hb ((hR.2 r0 q hq).2 hg.1 hg.2) ((ri_arr hK hg.1 hg.2).1 _ _) (by rw [arrV_size]; exact ha) rfl rfl hd kk
    · cases ha
  · next n0 =>
    cases hg : (Nat.ble 1 n0 && Nat.ble n0 4 || Nat.beq n0 6) with
    | false => rw [hg] at ha; cases ha
    | true =>
      rw [hg] at ha
      have ha := Option.some.inj ha
      simp only [Bool.or_eq_true, Bool.and_eq_true, Nat.ble_eq, Nat.beq_eq] at hg
      show W p l e R s m args below meth c H locs k z Q (F0 m pc ls (va_rf (E.2.1 n0) :: st.map (ri_cv E)))
      rcases hg with ⟨h1, h4⟩ | rfl
      · obtain ⟨t, e1, -, cell, c1, c2, c3, c4, c5, c6, c7⟩ := x1 n0 h1 h4
        rw [e1]
        exact W.alen hx hb (cell := cell) (by rw [hS.2.1 t (Array.getElem?_eq_some_iff.mp c1).1 c7]; exact c1) c2 (by rw [c4]; exact ha) rfl rfl hd kk
      · rw [g2]
        exact va_tlen hx hb g7 hS (v := n) ha hd kk
  · cases ha
/-- stores -/
theorem ri_st_cell {r0 t : Nat} {xs : List Value} {H1 : Heap} {n : Nat} {v : Value} (ht : 13 ≤ t) (hn : n < xs.length) (e1 : H1[E.1 + r0]? = some ((arrV (cA t) xs.length (fun j => ri_cv E (xs.getD j .null))).setSlot n (ri_cv E v))) : ri_cell E D cA r0 (t, xs.set n v) H1 := by
  refine ⟨fun h => absurd h (Nat.not_lt.mpr ht), fun _ _ => ?_⟩
  show H1[E.1 + r0]? = some (arrV (cA t) (xs.set n v).length (fun j => ri_cv E ((xs.set n v).getD j .null)))
  rw [e1, arrV_store, List.length_set]
  congr 2
  funext j
  exact ri_updV hn v j
theorem ri_r_ast1 (X : ri_Cx p s m args meth c E D cA M) {r0 : Nat} {q : ri_C} {i : Int32} {v w : Value} (hq : h[r0]? = some q) (hi : ¬ i < 0) (hlt : i.toNatClampNeg < q.2.length)
    (hd : (q.1 = 13 ∧ w = v ∧ ri_isI v = true ∧ decode M.2.1 pc = .ok (.iastore, 1)) ∨ (q.1 = 14 ∧ ri_isI v = true ∧ ri_cv E w = narrow .byte (ri_cv E v) ∧ decode M.2.1 pc = .ok (.bastore, 1)) ∨ (q.1 = 16 ∧ ri_isI v = true ∧ ri_cv E w = narrow .boolean (ri_cv E v) ∧ decode M.2.1 pc = .ok (.bastore, 1)) ∨ (q.1 = 15 ∧ w = v ∧ ri_isL v = true ∧ decode M.2.1 pc = .ok (.lastore, 1)))
    (kk : ri_Ab p l e R s m args below meth c Q E D cA M.2.2.1 (pc + 1, lo, st, h.set r0 (q.1, q.2.set i.toNatClampNeg w), k, z)) : ri_Ab p l e R s m args below meth c Q E D cA M.2.2.1 (pc, lo, v :: .int i :: .ref r0 :: st, h, k, z) := by
  obtain ⟨hx, hb, -, hown, hts, hK, -⟩ := X
  intro H ls locs hl hR hS
  have hc : 13 ≤ q.1 → q.1 ≤ 18 → H[E.1 + r0]? = some (arrV (cA q.1) q.2.length (fun j => ri_cv E (q.2.getD j .null))) := (hR.2 r0 q hq).2
  have fin : 13 ≤ q.1 → ∀ H' : Heap, H'[E.1 + r0]? = some ((arrV (cA q.1) q.2.length (fun j => ri_cv E (q.2.getD j .null))).setSlot i.toNatClampNeg (ri_cv E w)) → H'.size = H.size → (∀ a, a ≠ E.1 + r0 → H'[a]? = H[a]?) → W p l e R s m args below meth c H' (locs ++ [⟨E.1 + r0, i.toNatClampNeg⟩]) k z Q (F0 m (pc + 1) ls (st.map (ri_cv E))) :=
    fun ht H' e1 e2 e3 => kk H' ls _ hl (hR.set e2 e3 (ri_st_cell ht hlt e1)) (hS.put e2 e3 (by show E.1 ≤ E.1 + r0; omega))
  obtain ⟨t, xs⟩ := q
  dsimp only at hc hd hlt fin
  show W p l e R s m args below meth c H locs k z Q (F0 m pc ls (ri_cv E v :: .int i :: .ref (E.1 + r0) :: st.map (ri_cv E)))
  rcases hd with ⟨rfl, rfl, hv, hd⟩ | ⟨rfl, hv, hw, hd⟩ | ⟨rfl, hv, hw, hd⟩ | ⟨rfl, rfl, hv, hd⟩
  · rw [ri_isI_cv hv] at fin ⊢
    exact W.iast hx hb (hc (by omega) (by omega)) ((ri_arr hK (t := 13) (by omega) (by omega)).1 _ _) (fun h => by cases h) (ri_nn hi hlt _ _) rfl rfl hd (fin (by omega))
  · rw [hw, ri_isI_cv hv] at fin
    rw [ri_isI_cv hv]
    exact W.bast hx hb (hc (by omega) (by omega)) ((ri_arr hK (t := 14) (by omega) (by omega)).1 _ _) (fun h => by cases h) (ri_nn hi hlt _ _) rfl rfl hd (fin (by omega))
  · rw [hw, ri_isI_cv hv] at fin
    rw [ri_isI_cv hv]
    exact W.zast hx hb (hc (by omega) (by omega)) ((ri_arr hK (t := 16) (by omega) (by omega)).1 _ _) (fun h => by cases h) (ri_nn hi hlt _ _) rfl rfl hd (fin (by omega))
  · obtain ⟨x, -, hx2⟩ := ri_isL_cv (E := E) hv
    rw [hx2] at fin ⊢
    exact W.last hx hb (hc (by omega) (by omega)) ((ri_arr hK (t := 15) (by omega) (by omega)).1 _ _) (fun h => by cases h) (ri_nn hi hlt _ _) rfl rfl hd (fin (by omega))
theorem ri_r_aast (X : ri_Cx p s m args meth c E D cA M) {r0 w : Nat} {q qw : ri_C} {i : Int32} (hq : h[r0]? = some q) (hw : h[w]? = some qw) (hi : ¬ i < 0) (hlt : i.toNatClampNeg < q.2.length) (hk : (qw.1 = 6 ∧ q.1 = 17) ∨ (qw.1 = 3 ∧ q.1 = 18)) (hd : decode M.2.1 pc = .ok (.aastore, 1))
    (kk : ri_Ab p l e R s m args below meth c Q E D cA M.2.2.1 (pc + 1, lo, st, h.set r0 (q.1, q.2.set i.toNatClampNeg (.ref w)), k, z)) : ri_Ab p l e R s m args below meth c Q E D cA M.2.2.1 (pc, lo, .ref w :: .int i :: .ref r0 :: st, h, k, z) := by
  obtain ⟨hx, hb, -, hown, hts, hK, -⟩ := X
  intro H ls locs hl hR hS
  have ht : 13 ≤ q.1 := by omega
  have hc := (hR.2 r0 q hq).2 ht (by omega)
  obtain ⟨r', hr', cellV, g1, g2, g3, -⟩ := (hR.2 w qw hw).1 (by omega)
  have hcls := (hK.1 qw.1 r' hr').2
  have hRA : va_RA s (cA q.1) (.object r'.1) := by
    rcases hk with ⟨e1, e2⟩ | ⟨e1, e2⟩
    · rw [e1] at hr'; cases hr'
      rw [e2]; exact (ri_arr hK (t := 17) (by omega) (by omega)).2
    · rw [e1] at hr'; cases hr'
      rw [e2]; exact (ri_arr hK (t := 18) (by omega) (by omega)).2
  obtain ⟨kA, comp, k1, k2, k3, -⟩ := hRA
  have hcomp : comp = D.1 qw.1 := Option.some.inj (k3.symm.trans hcls.1)
  subst hcomp
  obtain ⟨kC, hkC, -⟩ := hcls.2
  exact W.aast hx hb hc (fun q h => by cases h) (fun h => by cases h) k1 k2 rfl hkC ⟨hi, by rw [arrV_size]; exact hlt⟩ g1 (fun q h => by rw [g3] at h; cases h) (by rw [g2]; exact hkC) (by rw [g2]; exact va_assign hcls) rfl rfl hd
    (fun H' e1 e2 e3 => kk H' ls _ hl (hR.set e2 e3 (ri_st_cell (v := .ref w) ht hlt e1)) (hS.put e2 e3 (by show E.1 ≤ E.1 + r0; omega)))
end RIC
end
section
section RID
variable {p : Program} {l : Launch} {e : Env} {R : Room} {s : State} {m : MethodId} {args : Array Value} {below : List Frame} {meth : Method} {c : Code} {Q : State → Prop} {E : ri_V} {D : va_G} {cA : Nat → ClassId} {M : ri_M} {pc k z nL : Nat} {lo : List (Nat × Value)} {st r : List Value} {h : ri_H} {f' : ri_F}
theorem ri_arrV (cI : ClassId) {N : Nat} {f g : Nat → Value} (hfg : ∀ j, j < N → f j = g j) : arrV cI N f = arrV cI N g := by
  unfold arrV
  congr 2
  funext j
  exact hfg j.val j.isLt
theorem ri_dv_cs (d : String) : ri_dv d = .null ∨ ri_dv d = .int 0 ∨ ri_dv d = .long 0 := by
  unfold ri_dv
  split
  · exact Or.inr (Or.inl rfl)
  · exact Or.inr (Or.inl rfl)
  · exact Or.inr (Or.inr rfl)
  · exact Or.inl rfl
theorem ri_new_inv {t nx : Nat} {fs : List Value} (hs : ri_new M t nx fs lo st h k z = some f') : k + 1 ≤ M.2.2.2.2.2.1 ∧ z + fs.length ≤ M.2.2.2.2.2.2 ∧ f' = (nx, lo, .ref h.length :: st, h ++ [(t, fs)], k + 1, z + fs.length) := by
  unfold ri_new at hs
  cases hg : (Nat.ble (k + 1) M.2.2.2.2.2.1 && Nat.ble (z + fs.length) M.2.2.2.2.2.2) with
  | false => rw [hg] at hs; cases hs
  | true =>
    rw [hg] at hs
    simp only [Bool.and_eq_true, Nat.ble_eq] at hg
    exact ⟨hg.1, hg.2, (Option.some.inj hs).symm⟩
theorem ri_r_new (X : ri_Cx p s m args meth c E D cA M) {t idx i1 i2 i3 : Nat} {rr : vw_C} {fs : List Value} (h13 : t < 13) (hr : vwCl[t]? = some rr) (hf : ri_df t = some fs) (w1 : lw_tbl[i1]? = some (.classLink M.2.2.2.2.1 idx rr.1)) (w2 : lw_tbl[i2]? = some (.instantiable rr.1 rr.2.2)) (w3 : lw_tbl[i3]? = some (.initialized rr.1)) (hk : k + 1 ≤ R.cells) (hz : z + fs.length ≤ R.slots) (hd : decode M.2.1 pc = .ok (.new idx, 3))
    (kk : ri_Ab p l e R s m args below meth c Q E D cA M.2.2.1 (pc + 3, lo, .ref h.length :: st, h ++ [(t, fs)], k + 1, z + fs.length)) : ri_Ab p l e R s m args below meth c Q E D cA M.2.2.1 (pc, lo, st, h, k, z) := by
  obtain ⟨hx, hb, -, hown, hts, hK, -⟩ := X
  intro H ls locs hl hR hS
  obtain ⟨ty0, fs', hf', hlen, hin, hty, hdv, -⟩ := ri_cls hr
  cases hf.symm.trans hf'
  have hKn := hK.1 t rr hr
  rw [hlen] at hz kk
  refine W.newcK hx hb hown (ri_wd hts w1 rfl) (ri_wd hts w2 rfl) (ri_wd hts w3 rfl) rfl hd hk hz hKn.2.1 hR.1 (fun H1 kC hkC e1 z1 o1 => ?_)
  have o1' : ∀ q : Nat, q < H.size → H1[q]? = H[q]? := fun q hq => o1 q (by rw [← hR.1]; exact hq)
  have z1' : H1.size = H.size + 1 := by rw [z1, hR.1]
  refine kk H1 ls locs hl (hR.push z1' o1' ⟨fun _ => ⟨rr, hr, ?_⟩, fun hh _ => absurd h13 (Nat.not_lt.mpr hh)⟩) (ri_S.push hS z1' o1')
  refine (u_born ty0 (ri_fl hts) hin hKn hkC e1 hty).to (fun j hj => ?_)
  rw [hdv j hj]
  have hcl : ∀ d : Value, d = .null ∨ d = .int 0 ∨ d = .long 0 → ri_cv E d = d := by rintro d (rfl | rfl | rfl) <;> rfl
  refine (hcl _ ?_).symm
  have hfs : fs = (List.range rr.2.2).map (fun k => ri_dv (rr.2.1 k).2.2.1) := by
    unfold ri_df at hf
    rw [hr] at hf
    exact (Option.some.inj hf).symm
  rw [hfs, List.getD_eq_getElem?_getD, List.getElem?_map, List.getElem?_range hj]
  exact ri_dv_cs _
theorem ri_r_newa (X : ri_Cx p s m args meth c E D cA M) {t i1 : Nat} {n : Int32} {a : ArrayType} {v : Value} (ha : (a = .int ∧ t = 13 ∧ v = .int 0) ∨ (a = .byte ∧ t = 14 ∧ v = .int 0) ∨ (a = .long ∧ t = 15 ∧ v = .long 0) ∨ (a = .boolean ∧ t = 16 ∧ v = .int 0)) (hn : ¬ n < 0) (hN : n.toNatClampNeg ≤ 100000) (w1 : lw_tbl[i1]? = some (.arrayClass (newarray.typeOf a))) (hk : k + 1 ≤ R.cells) (hz : z + n.toNatClampNeg ≤ R.slots) (hd : decode M.2.1 pc = .ok (.newarray a, 2))
    (kk : ri_Ab p l e R s m args below meth c Q E D cA M.2.2.1 (pc + 2, lo, .ref h.length :: st, h ++ [(t, List.replicate n.toNatClampNeg v)], k + 1, z + n.toNatClampNeg)) : ri_Ab p l e R s m args below meth c Q E D cA M.2.2.1 (pc, lo, .int n :: st, h, k, z) := by
  obtain ⟨hx, hb, -, hown, hts, hK, -⟩ := X
  intro H ls locs hl hR hS
  have hcb : n.toNatClampNeg * componentBytes (newarray.typeOf a) ≤ 536870912 := by
    have : componentBytes (newarray.typeOf a) ≤ 8 := by rcases ha with ⟨rfl, -⟩ | ⟨rfl, -⟩ | ⟨rfl, -⟩ | ⟨rfl, -⟩ <;> decide
    calc n.toNatClampNeg * componentBytes (newarray.typeOf a) ≤ 100000 * 8 := Nat.mul_le_mul hN this
      _ ≤ 536870912 := by decide
  have ht : 13 ≤ t ∧ t ≤ 18 := by omega
  refine va_newaK hx hb (ri_wd hts w1 rfl) (N := n.toNatClampNeg) rfl hd rfl hn rfl hcb hk hz hR.1 (fun H1 cA' e1 z1 o1 hAr hNm => ?_)
  have o1' : ∀ q : Nat, q < H.size → H1[q]? = H[q]? := fun q hq => o1 q (by rw [← hR.1]; exact hq)
  have z1' : H1.size = H.size + 1 := by rw [z1, hR.1]
  have hcA : cA' = cA t := by
    have h2 := (ri_arr hK ht.1 ht.2).2
    rcases ha with ⟨rfl, rfl, -⟩ | ⟨rfl, rfl, -⟩ | ⟨rfl, rfl, -⟩ | ⟨rfl, rfl, -⟩ <;> exact Option.some.inj (hNm.symm.trans h2)
  subst hcA
  refine kk H1 ls locs hl (hR.push z1' o1' ⟨fun hh => absurd ht.1 (Nat.not_le.mpr hh), fun _ _ => ?_⟩) (ri_S.push hS z1' o1')
  rw [e1]
  dsimp only
  rw [List.length_replicate]
  congr 1
  refine ri_arrV _ (fun j hj => ?_)
  rw [List.getD_eq_getElem?_getD, List.getElem?_replicate, if_pos hj]
  rcases ha with ⟨rfl, rfl, rfl⟩ | ⟨rfl, rfl, rfl⟩ | ⟨rfl, rfl, rfl⟩ | ⟨rfl, rfl, rfl⟩ <;> rfl
theorem ri_r_anew (X : ri_Cx p s m args meth c E D cA M) {t idx i1 i2 : Nat} {n : Int32} {C : String} (ha : (t = 17 ∧ C = RX6) ∨ (t = 18 ∧ C = RX3)) (hn : ¬ n < 0) (hN : n.toNatClampNeg ≤ 100000) (w1 : lw_tbl[i1]? = some (.classLink M.2.2.2.2.1 idx C)) (w2 : lw_tbl[i2]? = some (.arrayOver (.object C))) (hk : k + 1 ≤ R.cells) (hz : z + n.toNatClampNeg ≤ R.slots) (hd : decode M.2.1 pc = .ok (.anewarray idx, 3))
    (kk : ri_Ab p l e R s m args below meth c Q E D cA M.2.2.1 (pc + 3, lo, .ref h.length :: st, h ++ [(t, List.replicate n.toNatClampNeg .null)], k + 1, z + n.toNatClampNeg)) : ri_Ab p l e R s m args below meth c Q E D cA M.2.2.1 (pc, lo, .int n :: st, h, k, z) := by
  obtain ⟨hx, hb, -, hown, hts, hK, -⟩ := X
  intro H ls locs hl hR hS
  have ht : 13 ≤ t ∧ t ≤ 18 := by omega
  refine W.anew hx hb hown (ri_wd hts w1 rfl) (ri_wd hts w2 rfl) rfl hd rfl hn (by omega) hk hz (fun cA' kA comp f1 f2 f3 f4 => ?_)
  generalize hH1 : H.push ({ cls := cA', slots := Array.replicate n.toNatClampNeg .null, vm := .none } : Cell) = H1
  have z1 : H1.size = H.size + 1 := by rw [← hH1, Array.size_push]
  have e1 : H1[H.size]? = some (arrV cA' n.toNatClampNeg (fun _ => .null)) := by rw [← hH1, Array.getElem?_push_size, ← arrV_new]
  have o1 : ∀ q : Nat, q < H.size → H1[q]? = H[q]? := fun q hq => by rw [← hH1, Array.getElem?_push, if_neg (Nat.ne_of_lt hq)]
  have hcA : cA' = cA t := by
    have h2 := (ri_arr hK ht.1 ht.2).2
    rcases ha with ⟨rfl, rfl⟩ | ⟨rfl, rfl⟩
    · obtain ⟨_, _, _, _, _, h5⟩ := h2
      exact Option.some.inj (f1.symm.trans h5)
    · obtain ⟨_, _, _, _, _, h5⟩ := h2
      exact Option.some.inj (f1.symm.trans h5)
  subst hcA
  rw [hR.1] at e1
  have kk : W p l e R s m args below meth c H1 locs (k + 1) (z + n.toNatClampNeg) Q (F0 m (pc + 3) ls (.ref (E.1 + h.length) :: st.map (ri_cv E))) := kk H1 ls locs hl (hR.push z1 o1 ⟨fun hh => absurd ht.1 (Nat.not_le.mpr hh), fun _ _ => by
      rw [e1]
      dsimp only
      rw [List.length_replicate]
      congr 1
      refine ri_arrV _ (fun j hj => ?_)
      rw [List.getD_eq_getElem?_getD, List.getElem?_replicate, if_pos hj]
      rfl⟩) (ri_S.push hS z1 o1)
  rw [← hR.1] at kk
  exact kk
theorem ri_r_gets (X : ri_Cx p s m args meth c E D cA M) {w idx j : Nat} {v : Value} (hw : (1 ≤ w ∧ w ≤ 4 ∧ v = .retAddr w ∧ lw_tbl[j]? = some (.fieldLinkNest M.2.2.2.2.1 idx "LakeLearns" (ri_xn w) "[I" "LakeLearns")) ∨ (v = .int 1 ∧ lw_tbl[j]? = some (.fieldLink M.2.2.2.2.1 idx "java/lang/String" "COMPACT_STRINGS" "Z")) ∨ (v = .retAddr 7 ∧ lw_tbl[j]? = some (.fieldLink M.2.2.2.2.1 idx "jdk/internal/util/Preconditions" "SIOOBE_FORMATTER" "Ljava/util/function/BiFunction;")))
    (hd : decode M.2.1 pc = .ok (.getstatic idx, 3))
    (kk : ri_Ab p l e R s m args below meth c Q E D cA M.2.2.1 (pc + 3, lo, v :: st, h, k, z)) : ri_Ab p l e R s m args below meth c Q E D cA M.2.2.1 (pc, lo, st, h, k, z) := by
  obtain ⟨hx, hb, -, hown, hts, hK, ⟨x1, x2, -, x4⟩, -⟩ := X
  intro H ls locs hl hR hS
  have kk : W p l e R s m args below meth c H locs k z Q (F0 m (pc + 3) ls (ri_cv E v :: st.map (ri_cv E))) := kk H ls locs hl hR hS
  rcases hw with ⟨h1, h4, rfl, hj⟩ | ⟨rfl, hj⟩ | ⟨rfl, hj⟩
  · obtain ⟨t, e1, hZ, -⟩ := x1 w h1 h4
    have e2 : ri_cv E (.retAddr w) = .ref t := by show va_rf (E.2.1 w) = _; rw [e1]; rfl
    rw [e2] at kk
    exact va_getsN hx hb hZ hS hown (ri_wd hts hj rfl) (fun _ h => h) hd kk
  · exact va_gets hx hb x2 hS hown (ri_wd hts hj rfl) (fun _ h => h) hd kk
  · exact va_gets hx hb x4 hS hown (ri_wd hts hj rfl) (fun _ h => h) hd kk
theorem ri_r_ldcS (X : ri_Cx p s m args meth c E D cA M) (ho : M.2.2.2.2.1 = "LakeLearns$Reader") (hd : decode M.2.1 pc = .ok (.ldc 48, 2))
    (kk : ri_Ab p l e R s m args below meth c Q E D cA M.2.2.1 (pc + 2, lo, .retAddr 5 :: st, h, k, z)) : ri_Ab p l e R s m args below meth c Q E D cA M.2.2.1 (pc, lo, st, h, k, z) := by
  obtain ⟨hx, hb, -, hown, hts, hK, ⟨-, -, ⟨t5, t6, g1, g2, g3, -⟩, -⟩, -⟩ := X
  intro H ls locs hl hR hS
  have kk : W p l e R s m args below meth c H locs k z Q (F0 m (pc + 2) ls (ri_cv E (.retAddr 5) :: st.map (ri_cv E))) := kk H ls locs hl hR hS
  have e5 : ri_cv E (.retAddr 5) = .ref t5 := by show va_rf (E.2.1 5) = _; rw [g1]; rfl
  rw [e5] at kk
  rw [ho] at hown
  exact va_ldcS hx hb hown g3 hd kk
theorem ri_r_cast (X : ri_Cx p s m args meth c E D cA M) {r0 idx j : Nat} {q : ri_C} (hq : h[r0]? = some q) (h13 : q.1 = 13) (hj : lw_tbl[j]? = some (.classLink M.2.2.2.2.1 idx "[I")) (hd : decode M.2.1 pc = .ok (.checkcast idx, 3))
    (kk : ri_Ab p l e R s m args below meth c Q E D cA M.2.2.1 (pc + 3, lo, .ref r0 :: st, h, k, z)) : ri_Ab p l e R s m args below meth c Q E D cA M.2.2.1 (pc, lo, .ref r0 :: st, h, k, z) := by
  obtain ⟨hx, hb, -, hown, hts, hK, -⟩ := X
  intro H ls locs hl hR hS
  have hc := (hR.2 r0 q hq).2 (by omega) (by omega)
  have hnm : s.vm.findClass "[I" = some (cA q.1) := by rw [h13]; exact va_nm_int (ri_arr hK (t := 13) (by omega) (by omega)).2
  intro T hT X'
  obtain ⟨vm', X2, st2⟩ := X'.checkcastYes hx hown (ri_wd hts hj rfl) (by rw [hT]; exact hc) rfl hnm (va_asg _ _) (g := F0 m pc ls (.ref (E.1 + r0) :: st.map (ri_cv E))) rfl rfl (by rw [hb]; exact hd)
  obtain ⟨t, a1, b1⟩ := kk H ls locs hl hR hS (T.setVm vm') hT X2
  exact ⟨t, st2 t a1, b1⟩
end RID
end
section
theorem ri_w_mns : lw_tbl[644]? = some (.static Lib.Math.min.name) := by decide +kernel
theorem ri_w_mxs : lw_tbl[1015]? = some (.static Lib.Math.max.name) := by decide +kernel
theorem ri_w_mi : lw_tbl[116]? = some (.initialized "java/lang/Math") := by decide +kernel
theorem ri_w_mnc : lw_tbl[645]? = some (.code Lib.Math.min.name Lib.Math.min.code 2 (some .int)) := by decide +kernel
theorem ri_w_mxc : lw_tbl[1016]? = some (.code Lib.Math.max.name Lib.Math.max.code 2 (some .int)) := by decide +kernel
theorem ri_w_same : lw_tbl[248]? = some (.sameMethod "[I" "java/lang/Object" "clone" "()Ljava/lang/Object;") := by decide +kernel
theorem ri_w_nat : lw_tbl[249]? = some (.native ⟨"java/lang/Object", "clone", "()Ljava/lang/Object;"⟩) := by decide +kernel
theorem ri_w_ins : lw_tbl[250]? = some (.instanceMethod ⟨"java/lang/Object", "clone", "()Ljava/lang/Object;"⟩) := by decide +kernel
theorem ri_w_sel : lw_tbl[251]? = some (.selects "[I" ⟨"[I", "clone", "()Ljava/lang/Object;"⟩ ⟨"java/lang/Object", "clone", "()Ljava/lang/Object;"⟩) := by decide +kernel
theorem ri_w_cas : lw_tbl[252]? = some (.castable "[I" "java/lang/Cloneable") := by decide +kernel
theorem ri_w_acn : lw_tbl[671]? = some (.native arraycopyName) := by decide +kernel
theorem ri_w_acs : lw_tbl[670]? = some (.static arraycopyName) := by decide +kernel
theorem ri_w_aci : lw_tbl[117]? = some (.initialized "java/lang/System") := by decide +kernel
theorem ri_w_oin : lw_tbl[129]? = some (.instanceMethod objectInit) := by decide +kernel
theorem ri_w_oco : lw_tbl[130]? = some (.code objectInit ⟨#[0xb1]⟩ 1 none) := by decide +kernel
section RIE
variable {p : Program} {l : Launch} {e : Env} {R : Room} {s : State} {m : MethodId} {args : Array Value} {below : List Frame} {meth : Method} {c : Code} {Q : State → Prop} {E : ri_V} {D : va_G} {cA : Nat → ClassId} {M : ri_M} {pc k z nL : Nat} {lo : List (Nat × Value)} {st r : List Value} {h : ri_H} {f' : ri_F}
theorem ri_r_clone (X : ri_Cx p s m args meth c E D cA M) {n idx j : Nat} (h1 : 1 ≤ n) (h4 : n ≤ 4) (hw : ri_wt st ≤ 8) (hj : lw_tbl[j]? = some (.methodLink M.2.2.2.2.1 idx ⟨"[I", "clone", "()Ljava/lang/Object;"⟩)) (hfr : 1 ≤ R.frames) (hlo : 60 ≤ R.locals) (hk : k + 1 ≤ R.cells) (hz : z + (ri_xl n).length ≤ R.slots) (hd : decode M.2.1 pc = .ok (.invokevirtual idx, 3))
    (kk : ri_Ab p l e R s m args below meth c Q E D cA M.2.2.1 (pc + 3, lo, .ref h.length :: st, h ++ [(13, (ri_xl n).map Value.int)], k + 1, z + (ri_xl n).length)) : ri_Ab p l e R s m args below meth c Q E D cA M.2.2.1 (pc, lo, .retAddr n :: st, h, k, z) := by
  obtain ⟨hx, hb, hml, hown, hts, hK, ⟨x1, -⟩, -⟩ := X
  intro H ls locs hl hR hS
  obtain ⟨t, e1, -, cell, c1, c2, c3, c4, c5, c6, c7⟩ := x1 n h1 h4
  show W p l e R s m args below meth c H locs k z Q (F0 m pc ls (va_rf (E.2.1 n) :: st.map (ri_cv E)))
  rw [e1]
  show W p l e R s m args below meth c H locs k z Q (F0 m pc ls (.ref t :: st.map (ri_cv E)))
  have hcA : cell.cls = cA 13 := Option.some.inj (c6.symm.trans (va_nm_int (ri_arr hK (t := 13) (by omega) (by omega)).2))
  obtain ⟨c0, t0', f1, f2, f3⟩ := Cond.castable_spec (va_Nw.use (A := args) rfl (va_Nw.of rfl (ri_wd hts ri_w_cas rfl)))
  cases c6.symm.trans f1
  intro T hT X
  have hcellT : T.heap[t]? = some cell := by rw [hT, hS.2.1 t (Array.getElem?_eq_some_iff.mp c1).1 c7]; exact c1
  obtain ⟨-, kA, hkA, comp, hkind⟩ := State.isArrayOf_alike X.warmed.alike c2
  obtain ⟨hst, kS, hkS, compS, hkindS⟩ := c2
  have hwt : ((st.map (ri_cv E)).map fun v => v.category).sum ≤ 8 := by rw [ri_wt_cv]; exact hw
  obtain ⟨vm', X', st2⟩ := X.cloneArray hx hown (ri_wd hts hj rfl) (ri_wd hts ri_w_same rfl) (ri_wd hts ri_w_nat rfl) (ri_wd hts ri_w_ins rfl) (ri_wd hts ri_w_sel rfl) (a := t) (cell := cell) hcellT hst c3 c6 f2 f3
    (fun i v hv => by
      have hk' : T.vm.classes[cell.cls]? = some kA := hkA
      have hv' : fits .int v = true := by
        have hi : i < (ri_xl n).length := by rw [← c4]; exact (Array.getElem?_eq_some_iff.mp hv).1
        rw [c5 i hi] at hv
        cases hv
        rfl
      simpa [State.fitsSlot, State.slotType?, hk', hkind] using hv')
    (g := F0 m pc ls (.ref t :: st.map (ri_cv E))) rfl (by rw [hml]; exact hl.1) rfl (by rw [hb]; exact hd) hfr (by show 2 * 0 + _ + 14 ≤ _; omega) hk (by rw [c4]; exact hz) (hloader := Vm.clonesLoader_of_array hkS hkindS)
  have hcellE : ({ cls := cell.cls, slots := cell.slots } : Cell) = arrV (cA 13) ((ri_xl n).map Value.int).length (fun j => ri_cv E (((ri_xl n).map Value.int).getD j .null)) := by
    unfold arrV
    rw [hcA]
    congr 1
    apply Array.ext
    · rw [c4]; simp
    · intro i hi1 hi2
      have hi : i < (ri_xl n).length := by rw [← c4]; exact hi1
      have e0 := c5 i hi
      rw [Array.getElem?_eq_getElem hi1] at e0
      have e0 := Option.some.inj e0
      rw [e0, Array.getElem_ofFn]
      show Value.int ((ri_xl n).getD i 0) = ri_cv E (((ri_xl n).map Value.int).getD i .null)
      rw [List.getD_eq_getElem?_getD, List.getD_eq_getElem?_getD, List.getElem?_map, List.getElem?_eq_getElem hi]
      rfl
  rw [hcellE, c4] at X'
  generalize hH1 : H.push (arrV (cA 13) ((ri_xl n).map Value.int).length (fun j => ri_cv E (((ri_xl n).map Value.int).getD j .null))) = H1
  have z1 : H1.size = H.size + 1 := by rw [← hH1, Array.size_push]
  have e1 : H1[H.size]? = some (arrV (cA 13) ((ri_xl n).map Value.int).length (fun j => ri_cv E (((ri_xl n).map Value.int).getD j .null))) := by rw [← hH1, Array.getElem?_push_size]
  have o1 : ∀ q : Nat, q < H.size → H1[q]? = H[q]? := fun q hq => by rw [← hH1, Array.getElem?_push, if_neg (Nat.ne_of_lt hq)]
  rw [hR.1] at e1
  obtain ⟨t2, b1, b2⟩ := kk H1 ls locs hl (hR.push z1 o1 ⟨fun hh => absurd hh (by show ¬ 13 < 13; omega), fun _ _ => e1⟩) (ri_S.push hS z1 o1) ((T.setVm vm').pushCell (arrV (cA 13) ((ri_xl n).map Value.int).length (fun j => ri_cv E (((ri_xl n).map Value.int).getD j .null)))) (by rw [← hH1, ← hT]; rfl) X'
  refine ⟨t2, st2 t2 ?_, b2⟩
  rw [hcellE, hT, hR.1]
  exact b1
theorem ri_cpy_len {f g : List Value} {sp dp n : Nat} (h1 : sp + n ≤ f.length) (h2 : dp + n ≤ g.length) : (ri_cpy f g sp dp n).length = g.length := by
  unfold ri_cpy
  simp only [List.length_append, List.length_take, List.length_drop]
  omega
theorem ri_cpy_at {f g : List Value} {sp dp n : Nat} (h1 : sp + n ≤ f.length) (h2 : dp + n ≤ g.length) (j : Nat) : (ri_cpy f g sp dp n).getD j .null = va_cpy (fun i => f.getD i .null) (fun i => g.getD i .null) sp dp n j := by
  unfold ri_cpy va_cpy
  simp only [List.getD_eq_getElem?_getD]
  by_cases ha : j < dp
  · rw [if_neg (by omega), List.append_assoc, List.getElem?_append_left (by rw [List.length_take]; omega), List.getElem?_take_of_lt ha]
  · by_cases hb : j < dp + n
    · rw [if_pos (by omega), List.append_assoc, List.getElem?_append_right (by rw [List.length_take]; omega), List.getElem?_append_left (by simp only [List.length_take, List.length_drop]; omega)]
      rw [List.length_take, List.getElem?_take_of_lt (by omega), List.getElem?_drop]
      congr 2
      omega
    · rw [if_neg (by omega), List.getElem?_append_right (by simp only [List.length_append, List.length_take, List.length_drop]; omega), List.getElem?_drop]
      congr 2
      simp only [List.length_append, List.length_take, List.length_drop]
      omega
theorem ri_pos {z : Int32} (hz : ¬ z < 0) : z.toInt = (z.toNatClampNeg : Int) := by
  have hz0 : (0 : Int) ≤ z.toInt := by
    have := Int32.not_lt.mp hz
    simpa using Int32.le_iff_toInt_le.mp this
  show z.toInt = ((z.toInt.toNat : Nat) : Int)
  omega
/-- System.arraycopy between arrays of ints or of longs -/
theorem ri_r_copy (X : ri_Cx p s m args meth c E D cA M) {ra rb idx j t : Nat} {a : Value} {xs ys : List Value} {sp dp n : Int32} (ha : ri_cv E a = .ref ra)
    (hsrc : ∀ H locs, ri_R E D cA h H → va_S (ri_A E) s.heap H locs → ∃ cell : Cell, H[ra]? = some cell ∧ s.isArrayOf cell (ri_ty t) ∧ cell.vm ≠ .unknown ∧ cell.slots.size = xs.length ∧ ∀ j : Nat, j < xs.length → cell.slots[j]? = some (ri_cv E (xs.getD j .null)))
    (hq : h[rb]? = some (t, ys)) (ht : t = 13 ∨ t = 15) (h1 : ¬ sp < 0) (h2 : ¬ dp < 0) (h3 : ¬ n < 0) (h4 : sp.toNatClampNeg + n.toNatClampNeg ≤ xs.length) (h5 : dp.toNatClampNeg + n.toNatClampNeg ≤ ys.length) (hfit : ∀ i, i < n.toNatClampNeg → fits (ri_ty t) (ri_cv E (xs.getD (sp.toNatClampNeg + i) .null)) = true)
    (hj : lw_tbl[j]? = some (.methodLink M.2.2.2.2.1 idx arraycopyName)) (hw : ri_wt st ≤ 8) (hfr : 1 ≤ R.frames) (hlo : 60 ≤ R.locals) (hd : decode M.2.1 pc = .ok (.invokestatic idx, 3))
    (kk : ri_Ab p l e R s m args below meth c Q E D cA M.2.2.1 (pc + 3, lo, st, h.set rb (t, ri_cpy xs ys sp.toNatClampNeg dp.toNatClampNeg n.toNatClampNeg), k, z)) : ri_Ab p l e R s m args below meth c Q E D cA M.2.2.1 (pc, lo, .int n :: .int dp :: .ref rb :: .int sp :: a :: st, h, k, z) := by
  obtain ⟨hx, hb, hml, hown, hts, hK, -⟩ := X
  intro H ls locs hl hR hS
  obtain ⟨cell, s1, s2, s3, s4, s5⟩ := hsrc H locs hR hS
  have ht' : 13 ≤ t ∧ t ≤ 18 := by omega
  have hc1 : H[E.1 + rb]? = some (arrV (cA t) ys.length (fun j => ri_cv E (ys.getD j .null))) := (hR.2 rb _ hq).2 ht'.1 ht'.2
  show W p l e R s m args below meth c H locs k z Q (F0 m pc ls (.int n :: .int dp :: .ref (E.1 + rb) :: .int sp :: ri_cv E a :: st.map (ri_cv E)))
  rw [ha]
  intro T hT X
  have hwt : ((st.map (ri_cv E)).map fun v => v.category).sum ≤ 8 := by rw [ri_wt_cv]; exact hw
  obtain ⟨d1, k0, hk0, cm0, hkk0⟩ := s2
  obtain ⟨-, k1, hk1, cm1, hkk1⟩ := (ri_arr hK ht'.1 ht'.2).1 ys.length (fun j => ri_cv E (ys.getD j .null))
  have hty : ((refKind (ri_ty t) != refKind (ri_ty t)) || (!refKind (ri_ty t) && ri_ty t != ri_ty t)) = false := by rcases ht with rfl | rfl <;> rfl
  have hread : ∀ i, i < n.toNatClampNeg → cell.slots.getD (sp.toNatClampNeg + i) .null = ri_cv E (xs.getD (sp.toNatClampNeg + i) .null) := fun i hi => by
    rw [Array.getD_eq_getD_getElem?, s5 _ (by omega)]; rfl
  obtain ⟨vm', X', step⟩ := X.arraycopy hx hown (ri_wd hts hj rfl) (ri_wd hts ri_w_acn rfl) (ri_wd hts ri_w_acs rfl) (ri_wd hts ri_w_aci rfl) (src := ra) (dst := E.1 + rb) (cs := cell) (cd := arrV (cA t) ys.length (fun j => ri_cv E (ys.getD j .null))) (srcPos := sp) (destPos := dp) (n := n) (by rw [hT]; exact s1) (by rw [hT]; exact hc1)
    d1 (fun _ h => by cases h) s3 (fun h => by cases h) hk0 hk1 hkk0 hkk1 hty h1 h2 h3
    (by rw [ri_pos h1, ri_pos h3, s4]; omega) (by rw [ri_pos h2, ri_pos h3, arrV_size]; omega)
    (fun vm₁ _ i hi => by
      rw [hread i hi]
      refine ⟨hfit i hi, ?_⟩
      have hf := hfit i hi
      cases hv : ri_cv E (xs.getD (sp.toNatClampNeg + i) .null) with
      | ref a =>
        rw [hv] at hf
        rcases ht with rfl | rfl <;> cases hf
      | _ => exact trivial)
    (g := F0 m pc ls (.int n :: .int dp :: .ref (E.1 + rb) :: .int sp :: .ref ra :: st.map (ri_cv E))) rfl (by rw [hml]; exact hl.1) (rest := st.map (ri_cv E)) rfl (by rw [hb]; exact hd) hfr (by
      have : nativeFrameWords "java/lang/System" "arraycopy" 5 ≤ 20 := by decide
      show 2 * 0 + _ + _ ≤ _; omega)
  have e1 : copied cell (arrV (cA t) ys.length (fun j => ri_cv E (ys.getD j .null))) sp dp n = arrV (cA t) (ri_cpy xs ys sp.toNatClampNeg dp.toNatClampNeg n.toNatClampNeg).length (fun j => ri_cv E ((ri_cpy xs ys sp.toNatClampNeg dp.toNatClampNeg n.toNatClampNeg).getD j .null)) := by
    have e2 : cell.stretch sp.toNatClampNeg n.toNatClampNeg = (arrV (cA t) xs.length (fun j => ri_cv E (xs.getD j .null))).stretch sp.toNatClampNeg n.toNatClampNeg := by
      unfold Cell.stretch
      apply List.map_congr_left
      intro i hi
      have hi' := List.mem_range.mp hi
      rw [hread i hi', Array.getD_eq_getD_getElem?, arrV_read _ _ (by omega)]
      rfl
    show (arrV (cA t) ys.length (fun j => ri_cv E (ys.getD j .null))).storeRun dp.toNatClampNeg (cell.stretch sp.toNatClampNeg n.toNatClampNeg) = _
    rw [e2]
    refine (va_copied (fun v : Value => v) (cA t) (cA t) (fun j => ri_cv E (xs.getD j .null)) (fun j => ri_cv E (ys.getD j .null)) h4).trans ?_
    rw [ri_cpy_len h4 h5]
    congr 1
    funext j
    rw [ri_cpy_at h4 h5]
    unfold va_cpy
    split <;> rfl
  rw [e1] at X' step
  have hl1 : E.1 + rb < H.size := (Array.getElem?_eq_some_iff.mp hc1).1
  generalize hH1 : H.setIfInBounds (E.1 + rb) (arrV (cA t) (ri_cpy xs ys sp.toNatClampNeg dp.toNatClampNeg n.toNatClampNeg).length (fun j => ri_cv E ((ri_cpy xs ys sp.toNatClampNeg dp.toNatClampNeg n.toNatClampNeg).getD j .null))) = H1
  have z1 : H1.size = H.size := by rw [← hH1]; simp
  have g1 : H1[E.1 + rb]? = some (arrV (cA t) (ri_cpy xs ys sp.toNatClampNeg dp.toNatClampNeg n.toNatClampNeg).length (fun j => ri_cv E ((ri_cpy xs ys sp.toNatClampNeg dp.toNatClampNeg n.toNatClampNeg).getD j .null))) := by rw [← hH1]; simp [Array.getElem?_setIfInBounds, hl1]
  have oq : ∀ q : Nat, q ≠ E.1 + rb → H1[q]? = H[q]? := fun q hq => by rw [← hH1]; simp [Array.getElem?_setIfInBounds, Ne.symm hq]
  obtain ⟨t2, a1, b1⟩ := kk H1 ls _ hl (hR.set z1 oq ⟨fun hh => absurd ht'.1 (Nat.not_le.mpr hh), fun _ _ => g1⟩) ⟨by rw [z1]; exact hS.1, fun q y1 y2 => by
      rw [oq q (fun e => y2 (by rw [e]; show E.1 ≤ E.1 + rb; omega))]
      exact hS.2.1 q y1 y2, fun q hq => by
      rcases List.mem_append.mp hq with hh | hh
      · exact hS.2.2 q hh
      · obtain ⟨w, -, hw⟩ := List.mem_map.mp hh
        rw [← hw]
        show E.1 ≤ E.1 + rb; omega⟩ _ (by rw [← hH1, ← hT]; rfl) X'
  exact ⟨t2, step t2 a1, b1⟩
end RIE
end
section
def ri_ws (M : ri_M) : List Cond := .code M.1 M.2.1 M.2.2.1 M.2.2.2.1 :: lw_tbl.filter ri_stb
def ri_rm (d : Nat) (M : ri_M) : Room := { frames := d, cells := M.2.2.2.2.2.1, slots := M.2.2.2.2.2.2, locals := 64 * d }
def ri_I (E : ri_V) (D : va_G) (cA : Nat → ClassId) (U : State) (h : ri_H) : Prop := va_K D vwCl (ri_tys cA) U ∧ ri_X E U U.heap ∧ ri_R E D cA h U.heap
def ri_Pc (E : ri_V) (D : va_G) (cA : Nat → ClassId) (as : List Value) (h : ri_H) : Array Value → State → Prop := fun v U => v = (as.map (ri_cv E)).toArray ∧ ri_I E D cA U h
def ri_Qc (E : ri_V) (D : va_G) (cA : Nat → ClassId) (P : Option Value → ri_H → Prop) : Array Value → State → Outcome → State → Prop := fun _ st o t => ∃ (v : Option Value) (h' : ri_H), P v h' ∧ o = .returned (v.map (ri_cv E)) ∧ ri_R E D cA h' t.heap ∧ va_F (ri_A E) st t
/-- a method's contract, by the abstract machine -/
def ri_Met (l : Launch) (E : ri_V) (D : va_G) (cA : Nat → ClassId) (d : Nat) (M : ri_M) (as : List Value) (h : ri_H) (P : Option Value → ri_H → Prop) : Prop :=
  Met l M.1 (ri_ws M) (ri_rm d M) (ri_Pc E D cA as h) (ri_Qc E D cA P) M.2.2.2.2.2.1 M.2.2.2.2.2.2 (ri_A E)
def ri_Mk (M : ri_M) (n : Nat) : Prop := (Cond.code M.1 M.2.1 M.2.2.1 M.2.2.2.1) ∈ lw_tbl ∧ (Cond.initialized M.1.cls) ∈ lw_tbl ∧ M.1.cls ≠ "java/lang/invoke/MethodHandle" ∧ M.1.cls ≠ "java/lang/invoke/VarHandle" ∧ (parseMethodDescriptor M.1.desc).map (fun d => d.parameters.length) = some n ∧ M.2.2.1 ≤ 45 ∧ plainName M.1.cls = true ∧ M.2.2.2.2.1 = M.1.cls
theorem ri_blind (E : ri_V) (D : va_G) (cA : Nat → ClassId) (as : List Value) (h : ri_H) : FrameBlind (ri_Pc E D cA as h) := by
  intro a U g mk q
  obtain ⟨q1, q2, q3, q4⟩ := q
  exact ⟨q1, va_K.moved (u := U) (U := U.calling g mk a) (Vm.Alike.refl U.vm) q2, ri_X.to (u := U) (U := U.calling g mk a) (Vm.Alike.refl U.vm) (fun _ h => vk_R.same rfl h) (fun _ _ _ => rfl) q3, q4⟩
section RIF
variable {p : Program} {l : Launch} {e : Env} {R : Room} {s : State} {m : MethodId} {args : Array Value} {below : List Frame} {meth : Method} {c : Code} {Q : State → Prop} {E : ri_V} {D : va_G} {cA : Nat → ClassId} {M : ri_M} {pc k z nL : Nat} {lo : List (Nat × Value)} {st r : List Value} {h : ri_H} {f' : ri_F} {H : Heap} {locs : List Loc}
theorem ri_goon {ls : Array Slot} {st0 rest : List Value} {a : Array Value} {mc ms : Nat} {P : Option Value → ri_H → Prop} (hr : va_Run p l e R s m args below meth c H locs k z mc ms (F0 m pc ls st0) rest (ri_Qc E D cA P a) (ri_A E)) (hS : va_S (ri_A E) s.heap H locs)
    (kk : ∀ (v : Option Value) (h' : ri_H) (H1 : Heap) (locs1 : List Loc), P v h' → ri_R E D cA h' H1 → va_S (ri_A E) s.heap H1 locs1 → W p l e R s m args below meth c H1 locs1 (k + mc) (z + ms) Q (F0 m (pc + 3) ls ((v.map (ri_cv E)).toList ++ rest))) : W p l e R s m args below meth c H locs k z Q (F0 m pc ls st0) := by
  intro T hT X
  obtain ⟨v, st₀, t, T', L, h0, X', hL, e1, e2, ⟨w, h', hP, hv, hR, hz, hk⟩, st⟩ := hr T hT X
  cases hv
  rw [h0] at hz hk
  obtain ⟨t2, a1, b1⟩ := kk w h' T'.heap (locs ++ L) hP (by rw [e1]; exact hR)
    ⟨Nat.le_trans hS.1 (by rw [e1]; exact hz), fun q h1 h2 => by rw [e1, hk q (Nat.lt_of_lt_of_le h1 hS.1) h2]; exact hS.2.1 q h1 h2, fun q hq => by
      rcases List.mem_append.mp hq with hh | hh
      · exact hS.2.2 q hh
      · exact hL q hh⟩ T' rfl X'
  exact ⟨t2, st t2 a1, b1⟩
theorem ri_take_inv : ∀ (n : Nat) (acc st as r0 : List Value), ri_take n acc st = some (as, r0) → ∃ ys : List Value, ys.length = n ∧ as = ys.reverse ++ acc ∧ st = ys ++ r0
  | 0, acc, st, as, r0, hs => by
    have h1 : (acc, st) = (as, r0) := Option.some.inj hs
    cases h1
    exact ⟨[], rfl, rfl, rfl⟩
  | n + 1, acc, v :: st, as, r0, hs => by
    obtain ⟨ys, h1, h2, h3⟩ := ri_take_inv n (v :: acc) st as r0 hs
    exact ⟨v :: ys, by rw [List.length_cons, h1], by rw [h2]; simp, by rw [h3]; rfl⟩
  | n + 1, acc, [], as, r0, hs => by cases hs
theorem ri_pre (hK : va_K D vwCl (ri_tys cA) s) (hX : ri_X E s s.heap) (hS : va_S (ri_A E) s.heap H locs) (hR : ri_R E D cA h H) {U : State} (hU : U.heap = H) (hW : s.WarmedH U.vm) : ri_I E D cA U h :=
  ⟨va_K.moved hW.alike hK, ri_X.to hW.alike (fun _ h => vk_R.warm hW h) (fun q h1 h2 => by rw [hU]; exact hS.2.1 q h1 h2) hX, by rw [hU]; exact hR⟩
theorem ri_hws (hts : ∀ w ∈ lw_tbl, ri_stb w = true → w.before args s = true) {N : ri_M} {n : Nat} (hMk : ri_Mk N n) : ∀ w ∈ ri_ws N, ∀ (a' : Array Value) (U : State), s.WarmedH U.vm → w.before a' U = true := by
  intro w hw a' U hW
  rcases List.mem_cons.mp hw with rfl | hw
  · exact ri_stb_at (w := .code N.1 N.2.1 N.2.2.1 N.2.2.2.1) rfl hW (hts _ hMk.1 rfl)
  · exact ri_stb_at (List.mem_filter.mp hw).2 hW (hts w (List.mem_filter.mp hw).1 (List.mem_filter.mp hw).2)
theorem ri_cb (hts : ∀ w ∈ lw_tbl, ri_stb w = true → w.before args s = true) {N : ri_M} {n d idx : Nat} {own : String} (hMk : ri_Mk N n) (hfr : d + 1 ≤ R.frames) (hlo : 64 * d + 64 ≤ R.locals) (hl : (Cond.methodLink own idx N.1).before args s = true) : CallB R s args own idx N.1 N.2.1 N.2.2.1 N.2.2.2.1 (ri_ws N) (ri_rm d N) N.2.2.2.2.2.1 N.2.2.2.2.2.2 n := by
  refine ⟨rfl, rfl, hfr, ?_, ri_hws hts hMk, List.mem_cons_self, hts _ hMk.1 rfl, hts _ hMk.2.1 rfl, ⟨hMk.2.2.1, hMk.2.2.2.1⟩, fun sig h => ?_, hl⟩
  · have := hMk.2.2.2.2.2.1
    show 8 + (N.2.2.1 + 11) + 64 * d ≤ _
    omega
  · have h2 := hMk.2.2.2.2.1
    rw [h] at h2
    exact (Option.some.inj h2).symm
theorem ri_cN (hts : ∀ w ∈ lw_tbl, ri_stb w = true → w.before args s = true) {N : ri_M} {n d idx : Nat} {own host : String} (hMk : ri_Mk N n) (hfr : d + 1 ≤ R.frames) (hlo : 64 * d + 64 ≤ R.locals) (hl : (Cond.methodLinkNest own idx N.1 host).before args s = true) : va_CN R s args own idx N.1 host N.2.1 N.2.2.1 N.2.2.2.1 (ri_ws N) (ri_rm d N) N.2.2.2.2.2.1 N.2.2.2.2.2.2 n := by
  refine ⟨⟨rfl, rfl, hfr, ?_, ri_hws hts hMk, List.mem_cons_self⟩, hts _ hMk.1 rfl, hts _ hMk.2.1 rfl, ⟨hMk.2.2.1, hMk.2.2.2.1⟩, fun sig h => ?_, hl⟩
  · have := hMk.2.2.2.2.2.1
    show 8 + (N.2.2.1 + 11) + 64 * d ≤ _
    omega
  · have h2 := hMk.2.2.2.2.1
    rw [h] at h2
    exact (Option.some.inj h2).symm
theorem ri_stk (ys : List Value) (b : Value) (r : List Value) : (ys ++ b :: r).map (ri_cv E) = ((ys.reverse).map (ri_cv E)).reverse ++ ri_cv E b :: r.map (ri_cv E) := by
  rw [List.map_append, List.map_cons, List.map_reverse, List.reverse_reverse]
theorem ri_stk0 (ys r : List Value) : (ys ++ r).map (ri_cv E) = ((ys.reverse).map (ri_cv E)).reverse ++ r.map (ri_cv E) := by
  rw [List.map_append, List.map_reverse, List.reverse_reverse]
theorem ri_vt (v : Option Value) (r : List Value) : (v.map (ri_cv E)).toList ++ r.map (ri_cv E) = (v.toList ++ r).map (ri_cv E) := by
  cases v <;> simp
/-- virtual, on an object of one's own -/
theorem ri_r_virt (X : ri_Cx p s m args meth c E D cA M) {N : ri_M} {n d idx b i1 i2 i3 : Nat} {q : ri_C} {rr : vw_C} {ys : List Value} {P : Option Value → ri_H → Prop} (hM : ri_Met l E D cA d N (.ref b :: ys.reverse) h P) (hMk : ri_Mk N n) (hn : ys.length = n) (hfr : d + 1 ≤ R.frames) (hlo : 64 * d + 64 ≤ R.locals) (hw : ri_wt r ≤ 8)
    (hq : h[b]? = some q) (h13 : q.1 < 13) (hr : vwCl[q.1]? = some rr) (w1 : lw_tbl[i1]? = some (.methodLink M.2.2.2.2.1 idx N.1)) (w2 : lw_tbl[i2]? = some (.instanceMethod N.1)) (w3 : lw_tbl[i3]? = some (.selects rr.1 N.1 N.1)) (hk : k + N.2.2.2.2.2.1 ≤ R.cells) (hz : z + N.2.2.2.2.2.2 ≤ R.slots) (hd : decode M.2.1 pc = .ok (.invokevirtual idx, 3))
    (kk : ∀ v h', P v h' → ri_Ab p l e R s m args below meth c Q E D cA M.2.2.1 (pc + 3, lo, v.toList ++ r, h', k + N.2.2.2.2.2.1, z + N.2.2.2.2.2.2)) : ri_Ab p l e R s m args below meth c Q E D cA M.2.2.1 (pc, lo, ys ++ .ref b :: r, h, k, z) := by
  obtain ⟨hx, hb, hml, hown, hts, hK, hX, -⟩ := X
  intro H ls locs hl hR hS
  obtain ⟨r', hr', cellV, g1, g2, g3, -⟩ := (hR.2 b q hq).1 h13
  cases hr'.symm.trans hr
  have hcls := (hK.1 q.1 rr hr).2
  show W p l e R s m args below meth c H locs k z Q (F0 m pc ls ((ys ++ .ref b :: r).map (ri_cv E)))
  refine ri_goon (rest := r.map (ri_cv E)) (va_runV (nL := M.2.2.1) (Ts := []) (As := (ys.reverse).map (ri_cv E)) (b := E.1 + b) (C := rr.1) ⟨hx, hb, hml, hown, fun w h => absurd h List.not_mem_nil⟩ hM ⟨ri_cb hts hMk hfr hlo (ri_wd hts w1 rfl), ri_wd hts w2 rfl, ri_wd hts w3 rfl⟩
    ⟨ri_blind E D cA _ h, ⟨cellV, g1, by rw [g3]; rfl, by rw [g2]; exact hcls.1⟩, fun U hU hW => ⟨rfl, ri_pre hK hX hS hR hU hW⟩⟩ rfl (by rw [List.length_map, List.length_reverse]; exact hn) hl.1 (ri_stk ys (.ref b) r) (lv_room (by rw [ri_wt_cv]; exact hw)) hd ⟨hk, hz⟩) hS (fun v h' H1 locs1 hP hR1 hS1 => ?_)
  rw [ri_vt]
  exact kk v h' hP H1 ls locs1 hl hR1 hS1
/-- virtual, on the key words -/
theorem ri_r_virS (X : ri_Cx p s m args meth c E D cA M) {N : ri_M} {n d idx i1 i2 i3 : Nat} {ys : List Value} {P : Option Value → ri_H → Prop} (hM : ri_Met l E D cA d N (.retAddr 5 :: ys.reverse) h P) (hMk : ri_Mk N n) (hn : ys.length = n) (hfr : d + 1 ≤ R.frames) (hlo : 64 * d + 64 ≤ R.locals) (hw : ri_wt r ≤ 8)
    (w1 : lw_tbl[i1]? = some (.methodLink M.2.2.2.2.1 idx N.1)) (w2 : lw_tbl[i2]? = some (.instanceMethod N.1)) (w3 : lw_tbl[i3]? = some (.selects "java/lang/String" N.1 N.1)) (hk : k + N.2.2.2.2.2.1 ≤ R.cells) (hz : z + N.2.2.2.2.2.2 ≤ R.slots) (hd : decode M.2.1 pc = .ok (.invokevirtual idx, 3))
    (kk : ∀ v h', P v h' → ri_Ab p l e R s m args below meth c Q E D cA M.2.2.1 (pc + 3, lo, v.toList ++ r, h', k + N.2.2.2.2.2.1, z + N.2.2.2.2.2.2)) : ri_Ab p l e R s m args below meth c Q E D cA M.2.2.1 (pc, lo, ys ++ .retAddr 5 :: r, h, k, z) := by
  obtain ⟨hx, hb, hml, hown, hts, hK, hX, -⟩ := X
  have ⟨_, _, ⟨t5, t6, g1, g2, g3, g4, g5, g6, g7⟩, _⟩ := hX
  intro H ls locs hl hR hS
  obtain ⟨cellV, f1, f2, f3, -⟩ := g4.kept hS.2.1
  have e5 : ri_cv E (.retAddr 5) = .ref t5 := by show va_rf (E.2.1 5) = _; rw [g1]; rfl
  show W p l e R s m args below meth c H locs k z Q (F0 m pc ls ((ys ++ .retAddr 5 :: r).map (ri_cv E)))
  refine ri_goon (rest := r.map (ri_cv E)) (va_runV (nL := M.2.2.1) (Ts := []) (As := (ys.reverse).map (ri_cv E)) (b := t5) (C := "java/lang/String") ⟨hx, hb, hml, hown, fun w h => absurd h List.not_mem_nil⟩ hM ⟨ri_cb hts hMk hfr hlo (ri_wd hts w1 rfl), ri_wd hts w2 rfl, ri_wd hts w3 rfl⟩
    ⟨ri_blind E D cA _ h, ⟨cellV, f1, f2, f3⟩, fun U hU hW => ⟨by rw [List.map_cons, e5], ri_pre hK hX hS hR hU hW⟩⟩ rfl (by rw [List.length_map, List.length_reverse]; exact hn) hl.1 (by rw [← e5]; exact ri_stk ys (.retAddr 5) r) (lv_room (by rw [ri_wt_cv]; exact hw)) hd ⟨hk, hz⟩) hS (fun v h' H1 locs1 hP hR1 hS1 => ?_)
  rw [ri_vt]
  exact kk v h' hP H1 ls locs1 hl hR1 hS1
/-- a constructor -/
theorem ri_r_ctor (X : ri_Cx p s m args meth c E D cA M) {N : ri_M} {n d idx b i1 i2 : Nat} {ys : List Value} {P : Option Value → ri_H → Prop} (hM : ri_Met l E D cA d N (.ref b :: ys.reverse) h P) (hMk : ri_Mk N n) (hn : ys.length = n) (hfr : d + 1 ≤ R.frames) (hlo : 64 * d + 64 ≤ R.locals) (hw : ri_wt r ≤ 8) (hinit : N.1.name = "<init>") (hret : N.2.2.2.1 = none)
    (w1 : lw_tbl[i1]? = some (.methodLink M.2.2.2.2.1 idx N.1) ∨ lw_tbl[i1]? = some (.methodLinkNest M.2.2.2.2.1 idx N.1 "LakeLearns")) (w2 : lw_tbl[i2]? = some (.instanceMethod N.1)) (hk : k + N.2.2.2.2.2.1 ≤ R.cells) (hz : z + N.2.2.2.2.2.2 ≤ R.slots) (hd : decode M.2.1 pc = .ok (.invokespecial idx, 3))
    (kk : ∀ v h', P v h' → ri_Ab p l e R s m args below meth c Q E D cA M.2.2.1 (pc + 3, lo, v.toList ++ r, h', k + N.2.2.2.2.2.1, z + N.2.2.2.2.2.2)) : ri_Ab p l e R s m args below meth c Q E D cA M.2.2.1 (pc, lo, ys ++ .ref b :: r, h, k, z) := by
  obtain ⟨hx, hb, hml, hown, hts, hK, hX, -⟩ := X
  intro H ls locs hl hR hS
  show W p l e R s m args below meth c H locs k z Q (F0 m pc ls ((ys ++ .ref b :: r).map (ri_cv E)))
  rcases w1 with w1 | w1
  · have hcb := ri_cb (R := R) hts hMk hfr hlo (ri_wd hts w1 rfl)
    rw [hret] at hcb
    refine ri_goon (rest := r.map (ri_cv E)) (va_runI (nL := M.2.2.1) (Ts := []) (As := (ys.reverse).map (ri_cv E)) (b := E.1 + b) ⟨hx, hb, hml, hown, fun w h => absurd h List.not_mem_nil⟩ hM ⟨hcb, hinit, ri_wd hts w2 rfl⟩
      ⟨ri_blind E D cA _ h, fun U hU hW => ⟨rfl, ri_pre hK hX hS hR hU hW⟩⟩ rfl (by rw [List.length_map, List.length_reverse]; exact hn) hl.1 (ri_stk ys (.ref b) r) (lv_room (by rw [ri_wt_cv]; exact hw)) hd ⟨hk, hz⟩) hS (fun v h' H1 locs1 hP hR1 hS1 => ?_)
    rw [ri_vt]
    exact kk v h' hP H1 ls locs1 hl hR1 hS1
  · have hcb := ri_cN (R := R) hts hMk hfr hlo (ri_wd hts w1 rfl)
    rw [hret] at hcb
    refine ri_goon (rest := r.map (ri_cv E)) (va_runIN (nL := M.2.2.1) (Ts := []) (As := (ys.reverse).map (ri_cv E)) (b := E.1 + b) ⟨hx, hb, hml, hown, fun w h => absurd h List.not_mem_nil⟩ hM ⟨hcb, hinit, ri_wd hts w2 rfl⟩
      ⟨ri_blind E D cA _ h, fun U hU hW => ⟨rfl, ri_pre hK hX hS hR hU hW⟩⟩ rfl (by rw [List.length_map, List.length_reverse]; exact hn) hl.1 (ri_stk ys (.ref b) r) (lv_room (by rw [ri_wt_cv]; exact hw)) hd ⟨hk, hz⟩) hS (fun v h' H1 locs1 hP hR1 hS1 => ?_)
    rw [ri_vt]
    exact kk v h' hP H1 ls locs1 hl hR1 hS1
/-- static -/
theorem ri_r_stat (X : ri_Cx p s m args meth c E D cA M) {N : ri_M} {n d idx i1 i2 : Nat} {ys : List Value} {P : Option Value → ri_H → Prop} (hM : ri_Met l E D cA d N ys.reverse h P) (hMk : ri_Mk N n) (hn : ys.length = n) (hfr : d + 1 ≤ R.frames) (hlo : 64 * d + 64 ≤ R.locals) (hw : ri_wt r ≤ 8)
    (w1 : lw_tbl[i1]? = some (.methodLink M.2.2.2.2.1 idx N.1)) (w2 : lw_tbl[i2]? = some (.static N.1)) (hk : k + N.2.2.2.2.2.1 ≤ R.cells) (hz : z + N.2.2.2.2.2.2 ≤ R.slots) (hd : decode M.2.1 pc = .ok (.invokestatic idx, 3))
    (kk : ∀ v h', P v h' → ri_Ab p l e R s m args below meth c Q E D cA M.2.2.1 (pc + 3, lo, v.toList ++ r, h', k + N.2.2.2.2.2.1, z + N.2.2.2.2.2.2)) : ri_Ab p l e R s m args below meth c Q E D cA M.2.2.1 (pc, lo, ys ++ r, h, k, z) := by
  obtain ⟨hx, hb, hml, hown, hts, hK, hX, -⟩ := X
  intro H ls locs hl hR hS
  show W p l e R s m args below meth c H locs k z Q (F0 m pc ls ((ys ++ r).map (ri_cv E)))
  refine ri_goon (rest := r.map (ri_cv E)) (va_runS (nL := M.2.2.1) (Ts := []) (As := (ys.reverse).map (ri_cv E)) ⟨hx, hb, hml, hown, fun w h => absurd h List.not_mem_nil⟩ hM ⟨ri_cb hts hMk hfr hlo (ri_wd hts w1 rfl), ri_wd hts w2 rfl⟩
    ⟨ri_blind E D cA _ h, fun U hU hW => ⟨rfl, ri_pre hK hX hS hR hU hW⟩⟩ rfl (by rw [List.length_map, List.length_reverse]; exact hn) hl.1 (ri_stk0 ys r) (lv_room (by rw [ri_wt_cv]; exact hw)) hd ⟨hk, hz⟩) hS (fun v h' H1 locs1 hP hR1 hS1 => ?_)
  rw [ri_vt]
  exact kk v h' hP H1 ls locs1 hl hR1 hS1
/-- Object() -/
theorem ri_r_obj (X : ri_Cx p s m args meth c E D cA M) {idx b i1 : Nat} (hw : ri_wt r ≤ 8) (hfr : 1 ≤ R.frames) (hlo : 60 ≤ R.locals) (w1 : lw_tbl[i1]? = some (.methodLink M.2.2.2.2.1 idx objectInit)) (hd : decode M.2.1 pc = .ok (.invokespecial idx, 3))
    (kk : ri_Ab p l e R s m args below meth c Q E D cA M.2.2.1 (pc + 3, lo, r, h, k, z)) : ri_Ab p l e R s m args below meth c Q E D cA M.2.2.1 (pc, lo, .ref b :: r, h, k, z) := by
  obtain ⟨hx, hb, hml, hown, hts, hK, hX, -⟩ := X
  intro H ls locs hl hR hS
  have hwt : ((r.map (ri_cv E)).map fun v => v.category).sum ≤ 8 := by rw [ri_wt_cv]; exact hw
  exact W.objInit hx hb hown (ri_wd hts w1 rfl) (ri_wd hts ri_w_oin rfl) (ri_wd hts ri_w_oco rfl) rfl (by rw [hml]; exact hl.1) rfl hd hfr (by show 2 * 0 + _ + 12 ≤ _; omega) (kk H ls locs hl hR hS)
end RIF
end
section
section RIG
variable {p : Program} {l : Launch} {e : Env} {R : Room} {s : State} {m : MethodId} {args : Array Value} {below : List Frame} {meth : Method} {c : Code} {Q : State → Prop} {E : ri_V} {D : va_G} {cA : Nat → ClassId} {M : ri_M} {pc k z nL : Nat} {lo : List (Nat × Value)} {st r : List Value} {h : ri_H} {f' : ri_F} {dc : ri_O}
theorem ri_fd_inv {cn : Nat} {x y : Value} {b : Bool} (hdc : ∀ q ∈ dc, ri_hd q.1 (ri_ic E q.2.1) (ri_ic E q.2.2.1) = q.2.2.2) (hs : ri_fd dc cn x y = some b) : ri_hd cn (ri_ic E x) (ri_ic E y) = b := by
  induction dc with
  | nil => cases hs
  | cons q t ih =>
    unfold ri_fd at hs
    cases hg : (Nat.beq q.1 cn && (decide (q.2.1 = x) && decide (q.2.2.1 = y))) with
    | true =>
      rw [hg] at hs
      simp only [Bool.and_eq_true, Nat.beq_eq, decide_eq_true_eq] at hg
      have h1 := hdc q List.mem_cons_self
      rw [hg.1, hg.2.1, hg.2.2] at h1
      rw [h1]
      exact Option.some.inj hs
    | false =>
      rw [hg] at hs
      exact ih (fun q hq => hdc q (List.mem_cons_of_mem _ hq)) hs
theorem ri_cmp_inv {cn : Nat} {x y : Value} {b : Bool} (hdc : ∀ q ∈ dc, ri_hd q.1 (ri_ic E q.2.1) (ri_ic E q.2.2.1) = q.2.2.2) (hs : ri_cmp dc cn x y = some b) : ri_isI x = true ∧ ri_isI y = true ∧ ri_hd cn (ri_ic E x) (ri_ic E y) = b := by
  cases x <;> cases y <;> first | exact ⟨rfl, rfl, Option.some.inj hs⟩ | (simp [ri_cmp, ri_isI] at hs; done) | exact ⟨rfl, rfl, ri_fd_inv hdc hs⟩
theorem ri_br_inv {cn tgt nx : Nat} {x y : Value} (hdc : ∀ q ∈ dc, ri_hd q.1 (ri_ic E q.2.1) (ri_ic E q.2.2.1) = q.2.2.2) (hs : ri_br dc cn x y tgt nx lo st h k z = some f') : ∃ b, ri_isI x = true ∧ ri_isI y = true ∧ ri_hd cn (ri_ic E x) (ri_ic E y) = b ∧ f' = (bif b then tgt else nx, lo, st, h, k, z) := by
  unfold ri_br at hs
  split at hs
  · next hc => exact ⟨true, (ri_cmp_inv hdc hc).1, (ri_cmp_inv hdc hc).2.1, (ri_cmp_inv hdc hc).2.2, (Option.some.inj hs).symm⟩
  · next hc => exact ⟨false, (ri_cmp_inv hdc hc).1, (ri_cmp_inv hdc hc).2.1, (ri_cmp_inv hdc hc).2.2, (Option.some.inj hs).symm⟩
  · cases hs
theorem ri_r_if (X : ri_Cx p s m args meth c E D cA M) {cnd : ClassFile.Cond} {off : Int} {tgt : Nat} {x : Value} {b : Bool} (hI : ri_isI x = true) (hbb : ri_hd (ri_cn cnd) (ri_ic E x) 0 = b) (hd : decode M.2.1 pc = .ok (.ifCond cnd off, 3)) (ht : (pc : Int) + off = (tgt : Int))
    (kk : ri_Ab p l e R s m args below meth c Q E D cA M.2.2.1 (bif b then tgt else pc + 3, lo, r, h, k, z)) : ri_Ab p l e R s m args below meth c Q E D cA M.2.2.1 (pc, lo, x :: r, h, k, z) := by
  obtain ⟨hx, hb, -⟩ := X
  intro H ls locs hl hR hS
  have kk : W p l e R s m args below meth c H locs k z Q (F0 m (bif b then tgt else pc + 3) ls (r.map (ri_cv E))) := kk H ls locs hl hR hS
  show W p l e R s m args below meth c H locs k z Q (F0 m pc ls (ri_cv E x :: r.map (ri_cv E)))
  rw [ri_isI_cv hI]
  cases cnd with
  | eq =>
    refine lv_if_eq hx hb hd ht (fun h0 => ?_) (fun h0 => ?_)
    · rw [show b = true by rw [← hbb]; simp [ri_hd, ri_cn, h0]] at kk; exact kk
    · rw [show b = false by rw [← hbb]; simp [ri_hd, ri_cn, h0]] at kk; exact kk
  | ne =>
    refine lv_if_ne hx hb hd ht (fun h0 => ?_) (fun h0 => ?_)
    · rw [show b = true by rw [← hbb]; simp [ri_hd, ri_cn, h0]] at kk; exact kk
    · rw [show b = false by rw [← hbb]; simp [ri_hd, ri_cn, h0]] at kk; exact kk
  | lt =>
    refine lv_if_lt hx hb hd ht (fun h0 => ?_) (fun h0 => ?_)
    · rw [show b = true by rw [← hbb]; exact decide_eq_true h0] at kk; exact kk
    · rw [show b = false by rw [← hbb]; exact decide_eq_false h0] at kk; exact kk
  | ge =>
    refine lv_if_ge hx hb hd ht (fun h0 => ?_) (fun h0 => ?_)
    · rw [show b = true by rw [← hbb]; exact decide_eq_true h0] at kk; exact kk
    · rw [show b = false by rw [← hbb]; exact decide_eq_false h0] at kk; exact kk
  | gt =>
    refine lv_if_gt hx hb hd ht (fun h0 => ?_) (fun h0 => ?_)
    · rw [show b = true by rw [← hbb]; exact decide_eq_true h0] at kk; exact kk
    · rw [show b = false by rw [← hbb]; exact decide_eq_false h0] at kk; exact kk
  | le =>
    refine lv_if_le hx hb hd ht (fun h0 => ?_) (fun h0 => ?_)
    · rw [show b = true by rw [← hbb]; exact decide_eq_true h0] at kk; exact kk
    · rw [show b = false by rw [← hbb]; exact decide_eq_false h0] at kk; exact kk
theorem ri_r_icmp (X : ri_Cx p s m args meth c E D cA M) {cnd : ClassFile.Cond} {off : Int} {tgt : Nat} {x y : Value} {b : Bool} (hI : ri_isI x = true) (hJ : ri_isI y = true) (hbb : ri_hd (ri_cn cnd) (ri_ic E x) (ri_ic E y) = b) (hd : decode M.2.1 pc = .ok (.if_icmp cnd off, 3)) (ht : (pc : Int) + off = (tgt : Int))
    (kk : ri_Ab p l e R s m args below meth c Q E D cA M.2.2.1 (bif b then tgt else pc + 3, lo, r, h, k, z)) : ri_Ab p l e R s m args below meth c Q E D cA M.2.2.1 (pc, lo, y :: x :: r, h, k, z) := by
  obtain ⟨hx, hb, -⟩ := X
  intro H ls locs hl hR hS
  have kk : W p l e R s m args below meth c H locs k z Q (F0 m (bif b then tgt else pc + 3) ls (r.map (ri_cv E))) := kk H ls locs hl hR hS
  show W p l e R s m args below meth c H locs k z Q (F0 m pc ls (ri_cv E y :: ri_cv E x :: r.map (ri_cv E)))
  rw [ri_isI_cv hI, ri_isI_cv hJ]
  cases cnd with
  | eq =>
    refine lv_icmp_eq hx hb hd ht (fun h0 => ?_) (fun h0 => ?_)
    · rw [show b = true by rw [← hbb]; exact decide_eq_true h0] at kk; exact kk
    · rw [show b = false by rw [← hbb]; exact decide_eq_false h0] at kk; exact kk
  | ne =>
    refine lv_icmp_ne hx hb hd ht (fun h0 => ?_) (fun h0 => ?_)
    · rw [show b = true by rw [← hbb]; simp [ri_hd, ri_cn, h0]] at kk; exact kk
    · rw [show b = false by rw [← hbb]; simp [ri_hd, ri_cn, h0]] at kk; exact kk
  | lt =>
    refine lv_icmp_lt hx hb hd ht (fun h0 => ?_) (fun h0 => ?_)
    · rw [show b = true by rw [← hbb]; exact decide_eq_true h0] at kk; exact kk
    · rw [show b = false by rw [← hbb]; exact decide_eq_false h0] at kk; exact kk
  | ge =>
    refine lv_icmp_ge hx hb hd ht (fun h0 => ?_) (fun h0 => ?_)
    · rw [show b = true by rw [← hbb]; exact decide_eq_true h0] at kk; exact kk
    · rw [show b = false by rw [← hbb]; exact decide_eq_false h0] at kk; exact kk
  | gt =>
    refine lv_icmp_gt hx hb hd ht (fun h0 => ?_) (fun h0 => ?_)
    · rw [show b = true by rw [← hbb]; exact decide_eq_true h0] at kk; exact kk
    · rw [show b = false by rw [← hbb]; exact decide_eq_false h0] at kk; exact kk
  | le =>
    refine lv_icmp_le hx hb hd ht (fun h0 => ?_) (fun h0 => ?_)
    · rw [show b = true by rw [← hbb]; exact decide_eq_true h0] at kk; exact kk
    · rw [show b = false by rw [← hbb]; exact decide_eq_false h0] at kk; exact kk
/-- named ints and shifts -/
theorem ri_u32 {n : Nat} (hn : n < 4294967296) : (UInt32.ofNat n).toNat = n := UInt32.toNat_ofNat_of_lt' hn
theorem ri_sem_s {sg : Nat → Int32} {q t j : Nat} (hq : q = 1 ∨ q = 2) (ht : t < 16) (hj : j < 32) : ri_sem sg (512 * q + 16 * j + t) = (if q = 1 then ri_ush (sg t) j else ri_shr (sg t) j) := by
  have e1 : (512 * q + 16 * j + t) / 512 = q := by omega
  have e2 : (512 * q + 16 * j + t) % 16 = t := by omega
  have e3 : (512 * q + 16 * j + t) / 16 % 32 = j := by omega
  unfold ri_sem
  rw [e1, e2, e3]
  rcases hq with rfl | rfl <;> rfl
theorem ri_sem_0 {sg : Nat → Int32} {t : Nat} (ht : t < 16) : ri_sem sg t = sg t := by
  have e1 : t / 512 = 0 := by omega
  have e2 : t % 16 = t := by omega
  unfold ri_sem
  rw [e1, e2]
  rfl
theorem ri_sem_b {sg : Nat → Int32} {t : Nat} (h1 : 512 ≤ t) (h2 : t < 1536) : ri_sem sg (t + 1024) = (ri_sem sg t).toInt8.toInt32 := by
  have e2 : (t + 1024) % 16 = t % 16 := by omega
  have e3 : (t + 1024) / 16 % 32 = t / 16 % 32 := by omega
  unfold ri_sem
  rw [e2, e3]
  rcases (show t / 512 = 1 ∨ t / 512 = 2 by omega) with h | h
  · rw [show (t + 1024) / 512 = 3 by omega, h]
    rfl
  · rw [show (t + 1024) / 512 = 4 by omega, h]
    rfl
theorem ri_sem_n {sg : Nat → Int32} {t : Nat} (h1 : 1536 ≤ t) : ∃ x : Int32, ri_sem sg t = x.toInt8.toInt32 := by
  unfold ri_sem
  split
  · next h => exact absurd h (by omega)
  · next h => exact absurd h (by omega)
  · next h => exact absurd h (by omega)
  · exact ⟨_, rfl⟩
  · exact ⟨_, rfl⟩
theorem ri_nb_ok {v w : Value} (hn : ri_nb v = some w) : ri_isI v = true ∧ ri_cv E w = narrow .byte (ri_cv E v) := by
  unfold ri_nb at hn
  split at hn
  · cases hn; exact ⟨rfl, rfl⟩
  · next t =>
    cases hg : Nat.ble 1536 t.toNat with
    | false => rw [hg] at hn; cases hn
    | true =>
      rw [hg] at hn
      have hn := Option.some.inj hn
      subst hn
      refine ⟨rfl, ?_⟩
      obtain ⟨x, hx⟩ := ri_sem_n (sg := E.2.2) (Nat.ble_eq.mp hg)
      show Value.int (ri_sem E.2.2 t.toNat) = narrow .byte (.int (ri_sem E.2.2 t.toNat))
      rw [hx]
      exact (pk_nb x).symm
  · cases hn
end RIG
end
section
def ri_wi (i : Nat) (w : Cond) : Bool := decide (lw_tbl[i]? = some w)
/-- what must hold of an entry's links -/
def ri_fk (M : ri_M) (idx t i j : Nat) : Bool := match vwCl[t]? with
  | some r => Nat.blt t 13 && (Nat.blt i r.2.2 && ri_wi j (.fieldLink M.2.2.2.2.1 idx (r.2.1 i).1 (r.2.1 i).2.1 (r.2.1 i).2.2.1))
  | none => false
def ri_tk (q : Nat) (d : String) : Bool := match parseFieldDescriptor d with
  | some .int => Nat.beq q 0
  | some .boolean => Nat.beq q 1
  | some .long => Nat.beq q 2
  | some (.object _) => Nat.beq q 3
  | some (.array _) => Nat.beq q 3
  | _ => false
def ri_pk (M : ri_M) (idx t i j q : Nat) : Bool := match vwCl[t]? with
  | some r => ri_fk M idx t i j && (ri_tk q (r.2.1 i).2.2.1 && (!(r.2.1 i).2.2.2 || (decide (M.1.name = "<init>") && decide ((r.2.1 i).1 = M.2.2.2.2.1))))
  | none => false
def ri_ivV (md : List (ri_M × ri_T)) (M : ri_M) (idx : Nat) (aux : List Nat) : Bool := match aux with
  | [5, i] => ri_wi i (.methodLink M.2.2.2.2.1 idx ⟨"[I", "clone", "()Ljava/lang/Object;"⟩)
  | [1, j, n, t, i, i3, i2] => match md[j]?, vwCl[t]? with
    | some q, some r => Nat.blt t 13 && (ri_wi i (.methodLink M.2.2.2.2.1 idx q.1.1) && (ri_wi i3 (.selects r.1 q.1.1 q.1.1) && (ri_wi i2 (.instanceMethod q.1.1) && decide ((parseMethodDescriptor q.1.1.desc).map (fun d => d.parameters.length) = some n))))
    | _, _ => false
  | [6, j, n, _, i, i3, i2] => match md[j]? with
    | some q => ri_wi i (.methodLink M.2.2.2.2.1 idx q.1.1) && (ri_wi i3 (.selects "java/lang/String" q.1.1 q.1.1) && (ri_wi i2 (.instanceMethod q.1.1) && decide ((parseMethodDescriptor q.1.1.desc).map (fun d => d.parameters.length) = some n)))
    | none => false
  | _ => false
def ri_ivI (md : List (ri_M × ri_T)) (M : ri_M) (idx : Nat) (aux : List Nat) : Bool := match aux with
  | [0, i] => ri_wi i (.methodLink M.2.2.2.2.1 idx objectInit)
  | [kd, j, n, _, i, i2] => match md[j]? with
    | some q => (Nat.beq kd 2 || Nat.beq kd 7) && ((ri_wi i (.methodLink M.2.2.2.2.1 idx q.1.1) || ri_wi i (.methodLinkNest M.2.2.2.2.1 idx q.1.1 "LakeLearns")) && (ri_wi i2 (.instanceMethod q.1.1) && (decide (q.1.1.name = "<init>") && (decide (q.1.2.2.2.1 = none) && decide ((parseMethodDescriptor q.1.1.desc).map (fun d => d.parameters.length) = some n)))))
    | none => false
  | _ => false
def ri_ivS (md : List (ri_M × ri_T)) (M : ri_M) (idx : Nat) (aux : List Nat) : Bool := match aux with
  | [4, i] => ri_wi i (.methodLink M.2.2.2.2.1 idx arraycopyName)
  | [8, i] => ri_wi i (.methodLink M.2.2.2.2.1 idx Lib.Math.min.name)
  | [9, i] => ri_wi i (.methodLink M.2.2.2.2.1 idx Lib.Math.max.name)
  | [3, j, n, _, i, i2] => match md[j]? with
    | some q => ri_wi i (.methodLink M.2.2.2.2.1 idx q.1.1) && (ri_wi i2 (.static q.1.1) && decide ((parseMethodDescriptor q.1.1.desc).map (fun d => d.parameters.length) = some n))
    | none => false
  | _ => false
def ri_pok (md : List (ri_M × ri_T)) (M : ri_M) (pc : Nat) (e : ri_En) : Bool := match e.1 with
  | .aload_n _ => Nat.beq e.2.1 1
  | .iload_n _ => Nat.beq e.2.1 1
  | .lload_n _ => Nat.beq e.2.1 1
  | .istore_n _ => Nat.beq e.2.1 1
  | .astore_n _ => Nat.beq e.2.1 1
  | .aload _ => Nat.beq e.2.1 2
  | .iload _ => Nat.beq e.2.1 2
  | .istore _ => Nat.beq e.2.1 2
  | .astore _ => Nat.beq e.2.1 2
  | .iinc _ _ => Nat.beq e.2.1 3
  | .iconst _ => Nat.beq e.2.1 1
  | .bipush _ => Nat.beq e.2.1 2
  | .sipush _ => Nat.beq e.2.1 3
  | .lconst _ => Nat.beq e.2.1 1
  | .ldc idx => Nat.beq e.2.1 2 && (match e.2.2.2 with
    | .int x => (match e.2.2.1 with
      | [i] => ri_wi i (.constant M.2.2.2.2.1 idx x)
      | _ => false)
    | .retAddr 5 => decide (M.2.2.2.2.1 = "LakeLearns$Reader") && Nat.beq idx 48
    | _ => false)
  | .ldc_w idx => Nat.beq e.2.1 3 && (match e.2.2.2 with
    | .int x => (match e.2.2.1 with
      | [i] => ri_wi i (.constant M.2.2.2.2.1 idx x)
      | _ => false)
    | _ => false)
  | .ldc2_w idx => Nat.beq e.2.1 3 && (match e.2.2.2 with
    | .long x => (match e.2.2.1 with
      | [i] => ri_wi i (.constantLong M.2.2.2.2.1 idx x)
      | _ => false)
    | _ => false)
  | .iadd => Nat.beq e.2.1 1
  | .isub => Nat.beq e.2.1 1
  | .imul => Nat.beq e.2.1 1
  | .iand => Nat.beq e.2.1 1
  | .ior => Nat.beq e.2.1 1
  | .ixor => Nat.beq e.2.1 1
  | .ishl => Nat.beq e.2.1 1
  | .idiv => Nat.beq e.2.1 1
  | .irem => Nat.beq e.2.1 1
  | .iushr => Nat.beq e.2.1 1
  | .ishr => Nat.beq e.2.1 1
  | .i2b => Nat.beq e.2.1 1
  | .i2c => Nat.beq e.2.1 1
  | .i2l => Nat.beq e.2.1 1
  | .ladd => Nat.beq e.2.1 1
  | .lmul => Nat.beq e.2.1 1
  | .lor => Nat.beq e.2.1 1
  | .lshl => Nat.beq e.2.1 1
  | .lcmp => Nat.beq e.2.1 1
  | .dup => Nat.beq e.2.1 1
  | .dup2 => Nat.beq e.2.1 1
  | .pop => Nat.beq e.2.1 1
  | .goto off => Nat.beq e.2.1 3 && (match e.2.2.1 with
    | [t] => decide ((pc : Int) + off = (t : Int))
    | _ => false)
  | .ifCond _ off => Nat.beq e.2.1 3 && (match e.2.2.1 with
    | [t] => decide ((pc : Int) + off = (t : Int))
    | _ => false)
  | .if_icmp _ off => Nat.beq e.2.1 3 && (match e.2.2.1 with
    | [t] => decide ((pc : Int) + off = (t : Int))
    | _ => false)
  | .tableswitch d _ _ offs => match e.2.2.1 with
    | dt :: ts => decide ((pc : Int) + d = (dt : Int)) && decide (offs.toList.map (fun o => (pc : Int) + o) = ts.map Int.ofNat)
    | _ => false
  | .getfield idx => Nat.beq e.2.1 3 && (match e.2.2.1 with
    | [t, i, j] => bif Nat.blt t 13 then ri_fk M idx t i j else (bif Nat.beq i 0 then ri_wi j (.fieldLink M.2.2.2.2.1 idx "java/lang/String" "coder" "B") else ri_wi j (.fieldLink M.2.2.2.2.1 idx "java/lang/String" "value" "[B"))
    | _ => false)
  | .putfield idx => Nat.beq e.2.1 3 && (match e.2.2.1 with
    | [t, i, j, q] => ri_pk M idx t i j q
    | _ => false)
  | .getstatic idx => Nat.beq e.2.1 3 && (match e.2.2.1 with
    | [w, j] => bif Nat.ble 1 w && Nat.ble w 4 then ri_wi j (.fieldLinkNest M.2.2.2.2.1 idx "LakeLearns" (ri_xn w) "[I" "LakeLearns") else (bif Nat.beq w 5 then ri_wi j (.fieldLink M.2.2.2.2.1 idx "java/lang/String" "COMPACT_STRINGS" "Z") else ri_wi j (.fieldLink M.2.2.2.2.1 idx "jdk/internal/util/Preconditions" "SIOOBE_FORMATTER" "Ljava/util/function/BiFunction;"))
    | _ => false)
  | .new idx => Nat.beq e.2.1 3 && (match e.2.2.1 with
    | [t, i1, i2, i3] => (match vwCl[t]? with
      | some r => Nat.blt t 13 && (ri_wi i1 (.classLink M.2.2.2.2.1 idx r.1) && (ri_wi i2 (.instantiable r.1 r.2.2) && ri_wi i3 (.initialized r.1)))
      | none => false)
    | _ => false)
  | .newarray a => Nat.beq e.2.1 2 && (match e.2.2.1 with
    | [i] => ri_wi i (.arrayClass (newarray.typeOf a))
    | _ => false)
  | .anewarray idx => Nat.beq e.2.1 3 && (match e.2.2.1 with
    | [t, i1, i2] => bif Nat.beq t 17 then ri_wi i1 (.classLink M.2.2.2.2.1 idx RX6) && ri_wi i2 (.arrayOver (.object RX6)) else (ri_wi i1 (.classLink M.2.2.2.2.1 idx RX3) && ri_wi i2 (.arrayOver (.object RX3)))
    | _ => false)
  | .arraylength => Nat.beq e.2.1 1
  | .iaload => Nat.beq e.2.1 1
  | .baload => Nat.beq e.2.1 1
  | .laload => Nat.beq e.2.1 1
  | .aaload => Nat.beq e.2.1 1
  | .iastore => Nat.beq e.2.1 1
  | .bastore => Nat.beq e.2.1 1
  | .lastore => Nat.beq e.2.1 1
  | .aastore => Nat.beq e.2.1 1
  | .invokevirtual idx => Nat.beq e.2.1 3 && ri_ivV md M idx e.2.2.1
  | .invokespecial idx => Nat.beq e.2.1 3 && ri_ivI md M idx e.2.2.1
  | .invokestatic idx => Nat.beq e.2.1 3 && ri_ivS md M idx e.2.2.1
  | .checkcast idx => Nat.beq e.2.1 3 && (match e.2.2.1 with
    | [i] => ri_wi i (.classLink M.2.2.2.2.1 idx "[I")
    | _ => false)
  | .ireturn => Nat.beq e.2.1 1
  | .return_ => Nat.beq e.2.1 1
  | _ => false
def ri_ok (md : List (ri_M × ri_T)) (M : ri_M) (pc : Nat) (e : ri_En) : Bool := decide (decode M.2.1 pc = .ok (e.1, e.2.1)) && ri_pok md M pc e
theorem ri_wi_ok {i : Nat} {w : Cond} (h : ri_wi i w = true) : lw_tbl[i]? = some w := of_decide_eq_true h
end
section
section RIH
variable {p : Program} {l : Launch} {e : Env} {R : Room} {s : State} {m : MethodId} {args : Array Value} {below : List Frame} {meth : Method} {c : Code} {Q : State → Prop} {E : ri_V} {D : va_G} {cA : Nat → ClassId} {M : ri_M} {pc k z nL d : Nat} {lo : List (Nat × Value)} {st r : List Value} {h : ri_H} {f' : ri_F} {dc : ri_O} {md : List (ri_M × ri_T)} {cal : Nat → List Value → ri_H → Option (Option Value × ri_H)}
/-- what the step of a call rests on -/
def ri_Ca (l : Launch) (E : ri_V) (D : va_G) (cA : Nat → ClassId) (md : List (ri_M × ri_T)) (cal : Nat → List Value → ri_H → Option (Option Value × ri_H)) (d : Nat) (M : ri_M) (R : Room) : Prop :=
  (∀ (j : Nat) (q : ri_M × ri_T), md[j]? = some q → ∃ n, ri_Mk q.1 n) ∧ (∀ (j : Nat) (q : ri_M × ri_T) (as : List Value) (h : ri_H) (v : Option Value) (h' : ri_H), md[j]? = some q → cal j as h = some (v, h') → ri_Met l E D cA d q.1 as h (fun a b => a = v ∧ b = h')) ∧ M.2.2.2.2.2.1 ≤ R.cells ∧ M.2.2.2.2.2.2 ≤ R.slots ∧ d + 1 ≤ R.frames ∧ 64 * d + 64 ≤ R.locals
theorem ri_mkn {N : ri_M} {n n' : Nat} (h : ri_Mk N n') (hn : (parseMethodDescriptor N.1.desc).map (fun d => d.parameters.length) = some n) : ri_Mk N n := by
  have := h.2.2.2.2.1
  rw [hn] at this
  cases this
  exact h
/-- the common part of a call: the callee, its arguments, what comes back -/
theorem ri_inv_c {kd j n t : Nat} {rest : List Nat} (h0 : kd = 1 ∨ kd = 2 ∨ kd = 3 ∨ kd = 6 ∨ kd = 7) (hs : ri_inv dc cal (ri_bud md) M pc (kd :: j :: n :: t :: rest) lo st h k z = some f') :
    ∃ (ys as' r : List Value) (q : ri_M × ri_T) (v : Option Value) (h' : ri_H), ys.length = n ∧ md[j]? = some q ∧ cal j as' h = some (v, h') ∧ ri_wt r ≤ 8 ∧ k + q.1.2.2.2.2.2.1 ≤ M.2.2.2.2.2.1 ∧ z + q.1.2.2.2.2.2.2 ≤ M.2.2.2.2.2.2 ∧ f' = (pc + 3, lo, v.toList ++ r, h', k + q.1.2.2.2.2.2.1, z + q.1.2.2.2.2.2.2) ∧
      ((kd = 3 ∧ st = ys ++ r ∧ as' = ys.reverse) ∨ (kd ≠ 3 ∧ kd ≠ 6 ∧ ∃ b q0, st = ys ++ .ref b :: r ∧ as' = .ref b :: ys.reverse ∧ h[b]? = some q0 ∧ q0.1 = t) ∨ (kd = 6 ∧ st = ys ++ .retAddr 5 :: r ∧ as' = .retAddr 5 :: ys.reverse)) := by
  have hs : (match ri_take n [] st with
    | some (as, r0) => match (bif Nat.beq kd 3 then some (as, r0) else match r0 with
        | .ref b :: r => bif Nat.beq kd 1 || (Nat.beq kd 2 || Nat.beq kd 7) then (match h[b]? with
          | some q => bif Nat.beq q.1 t then some (.ref b :: as, r) else none
          | none => none) else none
        | .retAddr 5 :: r => bif Nat.beq kd 6 then some (.retAddr 5 :: as, r) else none
        | _ => none) with
      | some (as', r) => bif Nat.ble (ri_wt r) 8 then (match ri_bud md j, cal j as' h with
        | some (mc, ms), some (v, h') => bif Nat.ble (k + mc) M.2.2.2.2.2.1 && Nat.ble (z + ms) M.2.2.2.2.2.2 then some (pc + 3, lo, v.toList ++ r, h', k + mc, z + ms) else none
        | _, _ => none) else none
      | none => none
    | none => none) = some f' := by
    rcases h0 with rfl | rfl | rfl | rfl | rfl <;> exact hs
  split at hs
  · next as r0 ht =>
    obtain ⟨ys, y1, y2, y3⟩ := ri_take_inv _ _ _ _ _ ht
    rw [List.append_nil] at y2
    subst y2
    split at hs
    · next as' r hr =>
      cases hw : Nat.ble (ri_wt r) 8 with
      | false => rw [hw] at hs; cases hs
      | true =>
        rw [hw] at hs
        dsimp only [cond_true] at hs
        split at hs
        · next mc ms v h' hb hc =>
          unfold ri_bud at hb
          split at hb
          · next q hq =>
            cases hb
            cases hg : (Nat.ble (k + q.1.2.2.2.2.2.1) M.2.2.2.2.2.1 && Nat.ble (z + q.1.2.2.2.2.2.2) M.2.2.2.2.2.2) with
            | false => rw [hg] at hs; cases hs
            | true =>
              rw [hg] at hs
              simp only [Bool.and_eq_true, Nat.ble_eq] at hg
              refine ⟨ys, as', r, q, v, h', y1, hq, hc, Nat.ble_eq.mp hw, hg.1, hg.2, (Option.some.inj hs).symm, ?_⟩
              cases h3 : Nat.beq kd 3 with
              | true =>
                rw [h3] at hr
                cases hr
                exact Or.inl ⟨Nat.eq_of_beq_eq_true h3, y3, rfl⟩
              | false =>
                rw [h3] at hr
                have n3 : kd ≠ 3 := fun e => by rw [e] at h3; cases h3
                dsimp only [cond_false] at hr
                split at hr
                · next b r1 =>
                  cases h1 : (Nat.beq kd 1 || (Nat.beq kd 2 || Nat.beq kd 7)) with
                  | false => rw [h1] at hr; cases hr
                  | true =>
                    rw [h1] at hr
                    dsimp only [cond_true] at hr
                    split at hr
                    · next q0 hq0 =>
                      cases h2 : Nat.beq q0.1 t with
                      | false => rw [h2] at hr; cases hr
                      | true =>
                        rw [h2] at hr
                        cases hr
                        simp only [Bool.or_eq_true, Nat.beq_eq] at h1
                        exact Or.inr (Or.inl ⟨n3, by omega, b, q0, y3, rfl, hq0, Nat.eq_of_beq_eq_true h2⟩)
                    · cases hr
                · next r1 =>
                  cases h1 : Nat.beq kd 6 with
                  | false => rw [h1] at hr; cases hr
                  | true =>
                    rw [h1] at hr
                    cases hr
                    exact Or.inr (Or.inr ⟨Nat.eq_of_beq_eq_true h1, y3, rfl⟩)
                · cases hr
          · cases hb
        · cases hs
    · cases hs
  · cases hs
end RIH
end
section
section RII
variable {p : Program} {l : Launch} {e : Env} {R : Room} {s : State} {m : MethodId} {args : Array Value} {below : List Frame} {meth : Method} {c : Code} {Q : State → Prop} {E : ri_V} {D : va_G} {cA : Nat → ClassId} {M : ri_M} {pc k z nL d : Nat} {lo : List (Nat × Value)} {st r : List Value} {h : ri_H} {f' : ri_F} {dc : ri_O} {md : List (ri_M × ri_T)} {cal : Nat → List Value → ri_H → Option (Option Value × ri_H)}
theorem ri_fk_ok {idx t i j : Nat} (hf : ri_fk M idx t i j = true) : ∃ rr : vw_C, vwCl[t]? = some rr ∧ t < 13 ∧ i < rr.2.2 ∧ lw_tbl[j]? = some (.fieldLink M.2.2.2.2.1 idx (rr.2.1 i).1 (rr.2.1 i).2.1 (rr.2.1 i).2.2.1) := by
  unfold ri_fk at hf
  split at hf
  · next rr hr =>
    simp only [Bool.and_eq_true, Nat.blt_eq] at hf
    exact ⟨rr, hr, hf.1, hf.2.1, ri_wi_ok hf.2.2⟩
  · cases hf
theorem ri_tk_ok {q : Nat} {d : String} (hf : ri_tk q d = true) : ∃ ty, parseFieldDescriptor d = some ty ∧ ((q = 0 ∧ ty = .int) ∨ (q = 1 ∧ ty = .boolean) ∨ (q = 2 ∧ ty = .long) ∨ (q = 3 ∧ ((∃ n, ty = .object n) ∨ ∃ t, ty = .array t))) := by
  unfold ri_tk at hf
  split at hf
  · next hp => exact ⟨_, hp, Or.inl ⟨Nat.eq_of_beq_eq_true hf, rfl⟩⟩
  · next hp => exact ⟨_, hp, Or.inr (Or.inl ⟨Nat.eq_of_beq_eq_true hf, rfl⟩)⟩
  · next hp => exact ⟨_, hp, Or.inr (Or.inr (Or.inl ⟨Nat.eq_of_beq_eq_true hf, rfl⟩))⟩
  · next n hp => exact ⟨_, hp, Or.inr (Or.inr (Or.inr ⟨Nat.eq_of_beq_eq_true hf, Or.inl ⟨n, rfl⟩⟩))⟩
  · next t hp => exact ⟨_, hp, Or.inr (Or.inr (Or.inr ⟨Nat.eq_of_beq_eq_true hf, Or.inr ⟨t, rfl⟩⟩))⟩
  · cases hf
theorem ri_s2_inv {op : Int32 → Int32 → Int32} {q : Nat} (hs : ri_s2 op q pc lo st h k z = some f') : (∃ x y r, st = .int y :: .int x :: r ∧ f' = (pc + 1, lo, .int (op x y) :: r, h, k, z)) ∨ (∃ t y r, st = .int y :: .float t :: r ∧ t.toNat < 16 ∧ y.toNatClampNeg < 32 ∧ nI y.toNatClampNeg = y ∧ f' = (pc + 1, lo, .float (UInt32.ofNat (512 * q + 16 * y.toNatClampNeg + t.toNat)) :: r, h, k, z)) := by
  unfold ri_s2 at hs
  split at hs
  · exact Or.inl ⟨_, _, _, rfl, (Option.some.inj hs).symm⟩
  · next y t r =>
    cases hg : (Nat.blt t.toNat 16 && (Nat.blt y.toNatClampNeg 32 && decide (nI y.toNatClampNeg = y))) with
    | false => rw [hg] at hs; cases hs
    | true =>
      rw [hg] at hs
      simp only [Bool.and_eq_true, Nat.blt_eq, decide_eq_true_eq] at hg
      exact Or.inr ⟨t, y, r, rfl, hg.1, hg.2.1, hg.2.2, (Option.some.inj hs).symm⟩
  · cases hs
theorem ri_cv_s {q j : Nat} {t : UInt32} (hq : q = 1 ∨ q = 2) (ht : t.toNat < 16) (hj : j < 32) : ri_cv E (.float (UInt32.ofNat (512 * q + 16 * j + t.toNat))) = .int (if q = 1 then ri_ush (ri_sem E.2.2 t.toNat) j else ri_shr (ri_sem E.2.2 t.toNat) j) := by
  show Value.int (ri_sem E.2.2 (UInt32.ofNat (512 * q + 16 * j + t.toNat)).toNat) = _
  rw [ri_u32 (by omega), ri_sem_s hq ht hj, ri_sem_0 ht]
theorem ri_r_min (X : ri_Cx p s m args meth c E D cA M) {x y : Value} {b : Bool} {idx i : Nat} (hI : ri_isI x = true) (hJ : ri_isI y = true) (hbb : ri_hd 2 (ri_ic E y) (ri_ic E x) = b) (hw : ri_wt r ≤ 8) (hfr : 1 ≤ R.frames) (hlo : 60 ≤ R.locals) (hk : k ≤ R.cells) (hz : z ≤ R.slots) (w1 : lw_tbl[i]? = some (.methodLink M.2.2.2.2.1 idx Lib.Math.min.name)) (hd : decode M.2.1 pc = .ok (.invokestatic idx, 3))
    (kk : ri_Ab p l e R s m args below meth c Q E D cA M.2.2.1 (pc + 3, lo, (bif b then y else x) :: r, h, k, z)) : ri_Ab p l e R s m args below meth c Q E D cA M.2.2.1 (pc, lo, y :: x :: r, h, k, z) := by
  obtain ⟨hx, hb, hml, hown, hts, -⟩ := X
  intro H ls locs hl hR hS
  have kk : W p l e R s m args below meth c H locs k z Q (F0 m (pc + 3) ls (ri_cv E (bif b then y else x) :: r.map (ri_cv E))) := kk H ls locs hl hR hS
  have hwt : ((r.map (ri_cv E)).map fun v => v.category).sum ≤ 8 := by rw [ri_wt_cv]; exact hw
  show W p l e R s m args below meth c H locs k z Q (F0 m pc ls (ri_cv E y :: ri_cv E x :: r.map (ri_cv E)))
  rw [ri_isI_cv hI, ri_isI_cv hJ]
  refine va_mmin hx hb (by rw [hml]; exact hl.1.symm) hown (ri_wd hts w1 rfl) (ri_wd hts ri_w_mns rfl) (ri_wd hts ri_w_mi rfl) (ri_wd hts ri_w_mnc rfl) hfr (by omega) hk hz hd ?_
  have hbb : decide (ri_ic E y < ri_ic E x) = b := hbb
  cases b with
  | true => rw [if_pos (of_decide_eq_true hbb), ← ri_isI_cv hJ]; exact kk
  | false => rw [if_neg (of_decide_eq_false hbb), ← ri_isI_cv hI]; exact kk
theorem ri_r_max (X : ri_Cx p s m args meth c E D cA M) {x y : Value} {b : Bool} {idx i : Nat} (hI : ri_isI x = true) (hJ : ri_isI y = true) (hbb : ri_hd 2 (ri_ic E x) (ri_ic E y) = b) (hw : ri_wt r ≤ 8) (hfr : 1 ≤ R.frames) (hlo : 60 ≤ R.locals) (hk : k ≤ R.cells) (hz : z ≤ R.slots) (w1 : lw_tbl[i]? = some (.methodLink M.2.2.2.2.1 idx Lib.Math.max.name)) (hd : decode M.2.1 pc = .ok (.invokestatic idx, 3))
    (kk : ri_Ab p l e R s m args below meth c Q E D cA M.2.2.1 (pc + 3, lo, (bif b then y else x) :: r, h, k, z)) : ri_Ab p l e R s m args below meth c Q E D cA M.2.2.1 (pc, lo, y :: x :: r, h, k, z) := by
  obtain ⟨hx, hb, hml, hown, hts, -⟩ := X
  intro H ls locs hl hR hS
  have kk : W p l e R s m args below meth c H locs k z Q (F0 m (pc + 3) ls (ri_cv E (bif b then y else x) :: r.map (ri_cv E))) := kk H ls locs hl hR hS
  have hwt : ((r.map (ri_cv E)).map fun v => v.category).sum ≤ 8 := by rw [ri_wt_cv]; exact hw
  show W p l e R s m args below meth c H locs k z Q (F0 m pc ls (ri_cv E y :: ri_cv E x :: r.map (ri_cv E)))
  rw [ri_isI_cv hI, ri_isI_cv hJ]
  refine va_mmax hx hb (by rw [hml]; exact hl.1.symm) hown (ri_wd hts w1 rfl) (ri_wd hts ri_w_mxs rfl) (ri_wd hts ri_w_mi rfl) (ri_wd hts ri_w_mxc rfl) hfr (by omega) hk hz hd ?_
  have hbb : decide (ri_ic E x < ri_ic E y) = b := hbb
  cases b with
  | true => rw [if_pos (of_decide_eq_true hbb), ← ri_isI_cv hJ]; exact kk
  | false => rw [if_neg (of_decide_eq_false hbb), ← ri_isI_cv hI]; exact kk
/-- a call that the abstract machine makes holds of the machine -/
theorem ri_snd_inv (X : ri_Cx p s m args meth c E D cA M) (C : ri_Ca l E D cA md cal d M R) {ins : Instr} {idx : Nat} {aux : List Nat} (hd : decode M.2.1 pc = .ok (ins, 3)) (hi : (ins = .invokevirtual idx ∧ ri_ivV md M idx aux = true) ∨ (ins = .invokespecial idx ∧ ri_ivI md M idx aux = true) ∨ (ins = .invokestatic idx ∧ ri_ivS md M idx aux = true))
    (hdc : ∀ q ∈ dc, ri_hd q.1 (ri_ic E q.2.1) (ri_ic E q.2.2.1) = q.2.2.2) (hs : ri_inv dc cal (ri_bud md) M pc aux lo st h k z = some f') (kk : ri_Ab p l e R s m args below meth c Q E D cA M.2.2.1 f') : ri_Ab p l e R s m args below meth c Q E D cA M.2.2.1 (pc, lo, st, h, k, z) := by
  obtain ⟨hmk, hcal, hc1, hc2, hfr, hlo⟩ := C
  rcases hi with ⟨rfl, hi⟩ | ⟨rfl, hi⟩ | ⟨rfl, hi⟩
  · unfold ri_ivV at hi
    split at hi
    · next i =>
      unfold ri_inv at hs
      split at hs
      · next he => cases he
      · next he => cases he
      · split at hs
        · next n r =>
          cases hg : (Nat.ble 1 n && (Nat.ble n 4 && Nat.ble (ri_wt r) 8)) with
          | false => rw [hg] at hs; cases hs
          | true =>
            rw [hg] at hs
            simp only [Bool.and_eq_true, Nat.ble_eq] at hg
            obtain ⟨n1, n2, rfl⟩ := ri_new_inv hs
            rw [List.length_map] at n2 kk
            exact ri_r_clone X hg.1 hg.2.1 hg.2.2 (ri_wi_ok hi) (by omega) (by omega) (by omega) (by omega) hd kk
        · cases hs
      · next he => cases he
      · next he => cases he
      · next he => cases he
      · cases hs
    · next j n t i i3 i2 =>
      split at hi
      · next q rr hq hr =>
        simp only [Bool.and_eq_true, Nat.blt_eq, decide_eq_true_eq] at hi
        obtain ⟨ys, as', r, q', v, h', y1, y2, y3, y4, y5, y6, rfl, y7⟩ := ri_inv_c (Or.inl rfl) hs
        cases hq.symm.trans y2
        rcases y7 with ⟨y8, -⟩ | ⟨-, -, b, q0, rfl, rfl, g1, g2⟩ | ⟨y8, -⟩
        · cases y8
        · obtain ⟨n', hn'⟩ := hmk j q hq
          refine ri_r_virt X (hcal j q _ h v h' hq y3) (ri_mkn hn' hi.2.2.2.2) y1 hfr hlo y4 g1 (by rw [g2]; exact hi.1) (by rw [g2]; exact hr) (ri_wi_ok hi.2.1) (ri_wi_ok hi.2.2.2.1) (ri_wi_ok hi.2.2.1) (by omega) (by omega) hd ?_
          rintro w hw ⟨rfl, rfl⟩
          exact kk
        · cases y8
      · cases hi
    · next j n t i i3 i2 =>
      split at hi
      · next q hq =>
        simp only [Bool.and_eq_true, decide_eq_true_eq] at hi
        obtain ⟨ys, as', r, q', v, h', y1, y2, y3, y4, y5, y6, rfl, y7⟩ := ri_inv_c (Or.inr (Or.inr (Or.inr (Or.inl rfl)))) hs
        cases hq.symm.trans y2
        rcases y7 with ⟨y8, -⟩ | ⟨-, y8, -⟩ | ⟨-, rfl, rfl⟩
        · cases y8
        · exact absurd rfl y8
        · obtain ⟨n', hn'⟩ := hmk j q hq
          refine ri_r_virS X (hcal j q _ h v h' hq y3) (ri_mkn hn' hi.2.2.2) y1 hfr hlo y4 (ri_wi_ok hi.1) (ri_wi_ok hi.2.2.1) (ri_wi_ok hi.2.1) (by omega) (by omega) hd ?_
          rintro w hw ⟨rfl, rfl⟩
          exact kk
      · cases hi
    · cases hi
  · unfold ri_ivI at hi
    split at hi
    · next i =>
      unfold ri_inv at hs
      split at hs
      · split at hs
        · next b r =>
          cases hg : Nat.ble (ri_wt r) 8 with
          | false => rw [hg] at hs; cases hs
          | true =>
            rw [hg] at hs
            have hs := Option.some.inj hs
            subst hs
            exact ri_r_obj X (Nat.ble_eq.mp hg) (by omega) (by omega) (ri_wi_ok hi) hd kk
        · cases hs
      · next he => cases he
      · next he => cases he
      · next he => cases he
      · next he => cases he
      · next he => cases he
      · cases hs
    · next kd j n t i i2 =>
      split at hi
      · next q hq =>
        simp only [Bool.and_eq_true, Bool.or_eq_true, Nat.beq_eq, decide_eq_true_eq] at hi
        obtain ⟨hkd, hl, hi2, hnm, hrt, hpn⟩ := hi
        obtain ⟨ys, as', r, q', v, h', y1, y2, y3, y4, y5, y6, rfl, y7⟩ := ri_inv_c (by omega) hs
        cases hq.symm.trans y2
        rcases y7 with ⟨y8, -⟩ | ⟨-, -, b, q0, rfl, rfl, g1, g2⟩ | ⟨y8, -⟩
        · omega
        · obtain ⟨n', hn'⟩ := hmk j q hq
          refine ri_r_ctor X (hcal j q _ h v h' hq y3) (ri_mkn hn' hpn) y1 hfr hlo y4 hnm hrt (hl.imp ri_wi_ok ri_wi_ok) (ri_wi_ok hi2) (by omega) (by omega) hd ?_
          rintro w hw ⟨rfl, rfl⟩
          exact kk
        · omega
      · cases hi
    · cases hi
  · unfold ri_ivS at hi
    split at hi
    · next i =>
      unfold ri_inv at hs
      split at hs
      · next he => cases he
      · split at hs
        · next n dp b sp a r =>
          cases hg : Nat.ble (ri_wt r) 8 with
          | false => rw [hg] at hs; cases hs
          | true =>
            rw [hg] at hs
            dsimp only [cond_true] at hs
            split at hs
            · next h' hcp =>
              have hs := Option.some.inj hs
              subst hs
              unfold ri_copy at hcp
              split at hcp
              · next rb =>
                split at hcp
                · next qb hqb =>
                  obtain ⟨tb, ysb⟩ := qb
                  dsimp only at hcp
                  cases hg2 : ((Nat.beq tb 13 || Nat.beq tb 15) && (!decide (sp < 0) && (!decide (dp < 0) && (!decide (n < 0) && Nat.ble (dp.toNatClampNeg + n.toNatClampNeg) ysb.length)))) with
                  | false => rw [hg2] at hcp; cases hcp
                  | true =>
                    rw [hg2] at hcp
                    simp only [Bool.and_eq_true, Bool.or_eq_true, Nat.beq_eq, Bool.not_eq_true', decide_eq_false_iff_not, Nat.ble_eq] at hg2
                    obtain ⟨htb, h1, h2, h3, h5⟩ := hg2
                    dsimp only [cond_true] at hcp
                    split at hcp
                    · next ra =>
                      split at hcp
                      · next qa hqa =>
                        obtain ⟨ta, xsa⟩ := qa
                        dsimp only at hcp
                        cases hg3 : (Nat.beq ta tb && (Nat.ble (sp.toNatClampNeg + n.toNatClampNeg) xsa.length && ((xsa.drop sp.toNatClampNeg).take n.toNatClampNeg).all (fun v => bif Nat.beq tb 13 then ri_isI v else ri_isL v))) with
                        | false => rw [hg3] at hcp; cases hcp
                        | true =>
                          rw [hg3] at hcp
                          have hcp := Option.some.inj hcp
                          subst hcp
                          simp only [Bool.and_eq_true, Nat.beq_eq, Nat.ble_eq, List.all_eq_true] at hg3
                          obtain ⟨rfl, h4, hall⟩ := hg3
                          refine ri_r_copy X (ra := E.1 + ra) (xs := xsa) rfl (fun H locs hR hS => ⟨_, (hR.2 ra _ hqa).2 (by show 13 ≤ ta; omega) (by show ta ≤ 18; omega), (ri_arr X.2.2.2.2.2.1 (t := ta) (by omega) (by omega)).1 _ _, (fun h => by cases h), arrV_size _ _ _, fun j hj => arrV_read _ _ hj⟩) hqb htb h1 h2 h3 h4 h5 (fun i hi => ?_) (ri_wi_ok hi) (Nat.ble_eq.mp hg) (by omega) (by omega) hd kk
                          have hlt : sp.toNatClampNeg + i < xsa.length := by omega
                          have hm : xsa.getD (sp.toNatClampNeg + i) .null ∈ (xsa.drop sp.toNatClampNeg).take n.toNatClampNeg := by
                            rw [List.getD_eq_getElem?_getD, List.getElem?_eq_getElem hlt]
                            refine List.mem_of_getElem? (i := i) ?_
                            rw [List.getElem?_take_of_lt hi, List.getElem?_drop, List.getElem?_eq_getElem hlt]
                            rfl
                          have hv := hall _ hm
                          rcases htb with rfl | rfl
                          · rw [ri_isI_cv hv]; rfl
                          · obtain ⟨x, -, hx2⟩ := ri_isL_cv (E := E) hv
                            rw [hx2]; rfl
                      · cases hcp
                    · next x =>
                      cases hg3 : (Nat.beq tb 13 && (Nat.ble 1 x && Nat.ble x 4 && Nat.ble (sp.toNatClampNeg + n.toNatClampNeg) (ri_xl x).length)) with
                      | false => rw [hg3] at hcp; cases hcp
                      | true =>
                        rw [hg3] at hcp
                        have hcp := Option.some.inj hcp
                        subst hcp
                        simp only [Bool.and_eq_true, Nat.beq_eq, Nat.ble_eq] at hg3
                        obtain ⟨rfl, ⟨hx1, hx4⟩, h4⟩ := hg3
                        obtain ⟨t, e1, -, cell, c1, c2, c3, c4, c5, c6, c7⟩ := X.2.2.2.2.2.2.1.1 x hx1 hx4
                        refine ri_r_copy X (ra := t) (t := 13) (xs := (ri_xl x).map Value.int) (by show va_rf (E.2.1 x) = _; rw [e1]; rfl) (fun H locs hR hS => ⟨cell, by rw [hS.2.1 t (Array.getElem?_eq_some_iff.mp c1).1 c7]; exact c1, c2, c3, by rw [List.length_map]; exact c4, fun j hj => ?_⟩) hqb htb h1 h2 h3 (by rw [List.length_map]; exact h4) h5 (fun i hi => ?_) (ri_wi_ok hi) (Nat.ble_eq.mp hg) (by omega) (by omega) hd kk
                        · rw [List.length_map] at hj
                          rw [c5 j hj, List.getD_eq_getElem?_getD, List.getD_eq_getElem?_getD, List.getElem?_map, List.getElem?_eq_getElem hj]
                          rfl
                        · have hlt : sp.toNatClampNeg + i < (ri_xl x).length := by omega
                          rw [List.getD_eq_getElem?_getD, List.getElem?_map, List.getElem?_eq_getElem hlt]
                          rfl
                    · cases hcp
                · cases hcp
              · cases hcp
            · cases hs
        · cases hs
      · next he => cases he
      · next he => cases he
      · next he => cases he
      · next he => cases he
      · cases hs
    · next i =>
      unfold ri_inv at hs
      split at hs
      · next he => cases he
      · next he => cases he
      · next he => cases he
      · split at hs
        · next y x r =>
          cases hg : (Nat.ble (ri_wt r) 8 && (Nat.ble k M.2.2.2.2.2.1 && Nat.ble z M.2.2.2.2.2.2)) with
          | false => rw [hg] at hs; cases hs
          | true =>
            rw [hg] at hs
            simp only [Bool.and_eq_true, Nat.ble_eq] at hg
            dsimp only [cond_true] at hs
            split at hs
            · next b hb =>
              have hs := Option.some.inj hs
              subst hs
              obtain ⟨b1, b2, b3⟩ := ri_cmp_inv hdc hb
              exact ri_r_min X b2 b1 b3 hg.1 (by omega) (by omega) (by omega) (by omega) (ri_wi_ok hi) hd kk
            · cases hs
        · cases hs
      · next he => cases he
      · next he => cases he
      · cases hs
    · next i =>
      unfold ri_inv at hs
      split at hs
      · next he => cases he
      · next he => cases he
      · next he => cases he
      · next he => cases he
      · split at hs
        · next y x r =>
          cases hg : (Nat.ble (ri_wt r) 8 && (Nat.ble k M.2.2.2.2.2.1 && Nat.ble z M.2.2.2.2.2.2)) with
          | false => rw [hg] at hs; cases hs
          | true =>
            rw [hg] at hs
            simp only [Bool.and_eq_true, Nat.ble_eq] at hg
            dsimp only [cond_true] at hs
            split at hs
            · next b hb =>
              have hs := Option.some.inj hs
              subst hs
              obtain ⟨b1, b2, b3⟩ := ri_cmp_inv hdc hb
              exact ri_r_max X b1 b2 b3 hg.1 (by omega) (by omega) (by omega) (by omega) (ri_wi_ok hi) hd kk
            · cases hs
        · cases hs
      · next he => cases he
      · cases hs
    · next j n t i i2 =>
      split at hi
      · next q hq =>
        simp only [Bool.and_eq_true, decide_eq_true_eq] at hi
        obtain ⟨ys, as', r, q', v, h', y1, y2, y3, y4, y5, y6, rfl, y7⟩ := ri_inv_c (Or.inr (Or.inr (Or.inl rfl))) hs
        cases hq.symm.trans y2
        rcases y7 with ⟨-, rfl, rfl⟩ | ⟨y8, -⟩ | ⟨y8, -⟩
        · obtain ⟨n', hn'⟩ := hmk j q hq
          refine ri_r_stat X (hcal j q _ h v h' hq y3) (ri_mkn hn' hi.2.2) y1 hfr hlo y4 (ri_wi_ok hi.1) (ri_wi_ok hi.2.1) (by omega) (by omega) hd ?_
          rintro w hw ⟨rfl, rfl⟩
          exact kk
        · exact absurd rfl y8
        · cases y8
      · cases hi
    · cases hi
end RII
end
section
section RIJ
variable {p : Program} {l : Launch} {e : Env} {R : Room} {s : State} {m : MethodId} {args : Array Value} {below : List Frame} {meth : Method} {c : Code} {Q : State → Prop} {E : ri_V} {D : va_G} {cA : Nat → ClassId} {M : ri_M} {pc k z nL d : Nat} {lo : List (Nat × Value)} {st r : List Value} {h : ri_H} {f' : ri_F} {dc : ri_O} {md : List (ri_M × ri_T)} {cal : Nat → List Value → ri_H → Option (Option Value × ri_H)}
set_option maxHeartbeats 4000000 in
/-- A STEP of the abstract machine holds of the machine -/
theorem ri_snd (X : ri_Cx p s m args meth c E D cA M) (C : ri_Ca l E D cA md cal d M R) (hdc : ∀ q ∈ dc, ri_hd q.1 (ri_ic E q.2.1) (ri_ic E q.2.2.1) = q.2.2.2) {en : ri_En} (hok : ri_ok md M pc en = true) (hs : ri_step dc cal (ri_bud md) M en pc lo st h k z = some f')
    (kk : ri_Ab p l e R s m args below meth c Q E D cA M.2.2.1 f') : ri_Ab p l e R s m args below meth c Q E D cA M.2.2.1 (pc, lo, st, h, k, z) := by
  obtain ⟨hd0, hp⟩ := (Bool.and_eq_true _ _).mp hok
  have hd := of_decide_eq_true hd0
  clear hd0 hok
  obtain ⟨i, ln, aux, cv⟩ := en
  dsimp only at hd
  have ⟨hx, hb, hml, hown, hts, hK, hX, hnm, hE⟩ := X
  have hc1 := C.2.2.1
  have hc2 := C.2.2.2.1
  cases i with
  | aload_n n =>
    have e1 : ln = 1 := Nat.eq_of_beq_eq_true hp
    subst e1
    obtain ⟨v, hv, ht, rfl⟩ := ri_ld_inv (t := ri_isA) (i := n.val) (n := 1) hs
    exact ri_r_ald X hv ht (Or.inl ⟨n, rfl, rfl, hd⟩) kk
  | iload_n n =>
    have e1 : ln = 1 := Nat.eq_of_beq_eq_true hp
    subst e1
    obtain ⟨v, hv, ht, rfl⟩ := ri_ld_inv (t := ri_isI) (i := n.val) (n := 1) hs
    exact ri_r_ild X hv ht (Or.inl ⟨n, rfl, rfl, hd⟩) kk
  | aload n =>
    have e1 : ln = 2 := Nat.eq_of_beq_eq_true hp
    subst e1
    obtain ⟨v, hv, ht, rfl⟩ := ri_ld_inv (t := ri_isA) (i := n) (n := 2) hs
    exact ri_r_ald X hv ht (Or.inr ⟨rfl, hd⟩) kk
  | iload n =>
    have e1 : ln = 2 := Nat.eq_of_beq_eq_true hp
    subst e1
    obtain ⟨v, hv, ht, rfl⟩ := ri_ld_inv (t := ri_isI) (i := n) (n := 2) hs
    exact ri_r_ild X hv ht (Or.inr ⟨rfl, hd⟩) kk
  | lload_n n =>
    have e1 : ln = 1 := Nat.eq_of_beq_eq_true hp
    subst e1
    obtain ⟨v, hv, ht, rfl⟩ := ri_ld_inv (t := ri_isL) (i := n.val) (n := 1) hs
    exact ri_r_lld X hv ht rfl hd kk
  | astore_n n =>
    have e1 : ln = 1 := Nat.eq_of_beq_eq_true hp
    subst e1
    obtain ⟨v, r, rfl, ht, hn, rfl⟩ := ri_sto_inv (t := ri_isA) (i := n.val) (n := 1) hs
    exact ri_r_ast X ht hn (Or.inl ⟨n, rfl, rfl, hd⟩) kk
  | istore_n n =>
    have e1 : ln = 1 := Nat.eq_of_beq_eq_true hp
    subst e1
    obtain ⟨v, r, rfl, ht, hn, rfl⟩ := ri_sto_inv (t := ri_isI) (i := n.val) (n := 1) hs
    exact ri_r_ist X ht hn (Or.inl ⟨n, rfl, rfl, hd⟩) kk
  | astore n =>
    have e1 : ln = 2 := Nat.eq_of_beq_eq_true hp
    subst e1
    obtain ⟨v, r, rfl, ht, hn, rfl⟩ := ri_sto_inv (t := ri_isA) (i := n) (n := 2) hs
    exact ri_r_ast X ht hn (Or.inr ⟨rfl, hd⟩) kk
  | istore n =>
    have e1 : ln = 2 := Nat.eq_of_beq_eq_true hp
    subst e1
    obtain ⟨v, r, rfl, ht, hn, rfl⟩ := ri_sto_inv (t := ri_isI) (i := n) (n := 2) hs
    exact ri_r_ist X ht hn (Or.inr ⟨rfl, hd⟩) kk
  | iinc i n =>
    have e1 : ln = 3 := Nat.eq_of_beq_eq_true hp
    subst e1
    simp only [ri_step] at hs
    split at hs
    · next x hv =>
      cases hg : Nat.blt i M.2.2.1 with
      | false => rw [hg] at hs; cases hs
      | true =>
        rw [hg] at hs
        have hs := Option.some.inj hs
        subst hs
        exact ri_r_iinc X hv (by simpa [Nat.blt_eq] using hg) hd kk
    · cases hs
  | iconst n =>
    have e1 : ln = 1 := Nat.eq_of_beq_eq_true hp
    subst e1
    have hs := Option.some.inj hs
    subst hs
    exact ri_r_push X (fun H ls locs rest w => lv_iconst hx hb hd rfl w) rfl kk
  | bipush n =>
    have e1 : ln = 2 := Nat.eq_of_beq_eq_true hp
    subst e1
    have hs := Option.some.inj hs
    subst hs
    exact ri_r_push X (fun H ls locs rest w => lv_bipush hx hb hd rfl w) rfl kk
  | sipush n =>
    have e1 : ln = 3 := Nat.eq_of_beq_eq_true hp
    subst e1
    have hs := Option.some.inj hs
    subst hs
    exact ri_r_push X (fun H ls locs rest w => lv_sipush hx hb hd rfl w) rfl kk
  | lconst n =>
    have e1 : ln = 1 := Nat.eq_of_beq_eq_true hp
    subst e1
    have hs := Option.some.inj hs
    subst hs
    exact ri_r_push X (fun H ls locs rest w => lv_lconst hx hb hd rfl w) rfl kk
  | ldc idx =>
    obtain ⟨hp1, hq0⟩ := (Bool.and_eq_true _ _).mp hp
    clear hp
    have hp := hq0
    clear hq0
    have e1 : ln = 2 := Nat.eq_of_beq_eq_true hp1
    subst e1
    simp only [ri_step] at hs
    split at hs
    · next x =>
      have hs := Option.some.inj hs
      subst hs
      dsimp only at hp
      split at hp
      · next i =>
        exact ri_r_push X (fun H ls locs rest w => lv_ldc hx hb hown (ri_wd hts (ri_wi_ok hp) rfl) hd w) rfl kk
      · cases hp
    · have hs := Option.some.inj hs
      subst hs
      simp only [Bool.and_eq_true, decide_eq_true_eq, Nat.beq_eq] at hp
      obtain ⟨hp2, rfl⟩ := hp
      exact ri_r_ldcS X hp2 hd kk
    · cases hs
  | ldc_w idx =>
    obtain ⟨hp1, hq0⟩ := (Bool.and_eq_true _ _).mp hp
    clear hp
    have hp := hq0
    clear hq0
    have e1 : ln = 3 := Nat.eq_of_beq_eq_true hp1
    subst e1
    simp only [ri_step] at hs
    split at hs
    · next x =>
      have hs := Option.some.inj hs
      subst hs
      dsimp only at hp
      split at hp
      · next i =>
        exact ri_r_push X (fun H ls locs rest w => lv_ldcw hx hb hown (ri_wd hts (ri_wi_ok hp) rfl) hd w) rfl kk
      · cases hp
    · cases hs
  | ldc2_w idx =>
    obtain ⟨hp1, hq0⟩ := (Bool.and_eq_true _ _).mp hp
    clear hp
    have hp := hq0
    clear hq0
    have e1 : ln = 3 := Nat.eq_of_beq_eq_true hp1
    subst e1
    simp only [ri_step] at hs
    split at hs
    · next x =>
      have hs := Option.some.inj hs
      subst hs
      dsimp only at hp
      split at hp
      · next i =>
        exact ri_r_push X (fun H ls locs rest w => lv_ldc2 hx hb hown (ri_wd hts (ri_wi_ok hp) rfl) hd w) rfl kk
      · cases hp
    · cases hs
  | iadd =>
    have e1 : ln = 1 := Nat.eq_of_beq_eq_true hp
    subst e1
    obtain ⟨x, y, r, rfl, rfl⟩ := ri_i2_inv hs
    exact ri_r_stk (fun H ls locs w => lv_iadd hx hb hd w) kk
  | isub =>
    have e1 : ln = 1 := Nat.eq_of_beq_eq_true hp
    subst e1
    obtain ⟨x, y, r, rfl, rfl⟩ := ri_i2_inv hs
    exact ri_r_stk (fun H ls locs w => lv_isub hx hb hd w) kk
  | imul =>
    have e1 : ln = 1 := Nat.eq_of_beq_eq_true hp
    subst e1
    obtain ⟨x, y, r, rfl, rfl⟩ := ri_i2_inv hs
    exact ri_r_stk (fun H ls locs w => lv_imul hx hb hd w) kk
  | iand =>
    have e1 : ln = 1 := Nat.eq_of_beq_eq_true hp
    subst e1
    obtain ⟨x, y, r, rfl, rfl⟩ := ri_i2_inv hs
    exact ri_r_stk (fun H ls locs w => lv_iand hx hb hd w) kk
  | ior =>
    have e1 : ln = 1 := Nat.eq_of_beq_eq_true hp
    subst e1
    obtain ⟨x, y, r, rfl, rfl⟩ := ri_i2_inv hs
    exact ri_r_stk (fun H ls locs w => lv_ior hx hb hd w) kk
  | ixor =>
    have e1 : ln = 1 := Nat.eq_of_beq_eq_true hp
    subst e1
    obtain ⟨x, y, r, rfl, rfl⟩ := ri_i2_inv hs
    exact ri_r_stk (fun H ls locs w => lv_ixor hx hb hd w) kk
  | ishl =>
    have e1 : ln = 1 := Nat.eq_of_beq_eq_true hp
    subst e1
    obtain ⟨x, y, r, rfl, rfl⟩ := ri_i2_inv hs
    exact ri_r_stk (fun H ls locs w => lv_ishl hx hb hd w) kk
  | idiv =>
    have e1 : ln = 1 := Nat.eq_of_beq_eq_true hp
    subst e1
    obtain ⟨x, y, r, rfl, hy, rfl⟩ := ri_d2_inv hs
    exact ri_r_stk (fun H ls locs w => lv_idiv hx hb hd hy w) kk
  | irem =>
    have e1 : ln = 1 := Nat.eq_of_beq_eq_true hp
    subst e1
    obtain ⟨x, y, r, rfl, hy, rfl⟩ := ri_d2_inv hs
    exact ri_r_stk (fun H ls locs w => lv_irem hx hb hd hy w) kk
  | ladd =>
    have e1 : ln = 1 := Nat.eq_of_beq_eq_true hp
    subst e1
    obtain ⟨x, y, r, rfl, rfl⟩ := ri_l2_inv hs
    exact ri_r_stk (fun H ls locs w => lv_ladd hx hb hd w) kk
  | lmul =>
    have e1 : ln = 1 := Nat.eq_of_beq_eq_true hp
    subst e1
    obtain ⟨x, y, r, rfl, rfl⟩ := ri_l2_inv hs
    exact ri_r_stk (fun H ls locs w => lv_lmul hx hb hd w) kk
  | lor =>
    have e1 : ln = 1 := Nat.eq_of_beq_eq_true hp
    subst e1
    obtain ⟨x, y, r, rfl, rfl⟩ := ri_l2_inv hs
    exact ri_r_stk (fun H ls locs w => lv_lor hx hb hd w) kk
  | iushr =>
    have e1 : ln = 1 := Nat.eq_of_beq_eq_true hp
    subst e1
    rcases ri_s2_inv hs with ⟨x, y, r, rfl, rfl⟩ | ⟨t, y, r, rfl, h1, h2, h3, rfl⟩
    · exact ri_r_stk (fun H ls locs w => lv_iushr hx hb hd rfl w) kk
    · refine ri_r_stk (fun H ls locs w => ?_) kk
      rw [List.map_cons, ri_cv_s (Or.inl rfl) h1 h2, if_pos rfl] at w
      exact lv_iushr hx hb hd (by unfold ri_ush; rw [h3]) w
  | ishr =>
    have e1 : ln = 1 := Nat.eq_of_beq_eq_true hp
    subst e1
    rcases ri_s2_inv hs with ⟨x, y, r, rfl, rfl⟩ | ⟨t, y, r, rfl, h1, h2, h3, rfl⟩
    · exact ri_r_stk (fun H ls locs w => lv_ishr hx hb hd w) kk
    · refine ri_r_stk (fun H ls locs w => ?_) kk
      rw [List.map_cons, ri_cv_s (Or.inr rfl) h1 h2, if_neg (by decide)] at w
      unfold ri_shr at w
      rw [h3] at w
      exact lv_ishr hx hb hd w
  | i2b =>
    have e1 : ln = 1 := Nat.eq_of_beq_eq_true hp
    subst e1
    simp only [ri_step] at hs
    split at hs
    · have hs := Option.some.inj hs
      subst hs
      exact ri_r_stk (fun H ls locs w => lv_i2b hx hb hd rfl w) kk
    · next t r =>
      cases hg : (Nat.ble 512 t.toNat && Nat.blt t.toNat 1536) with
      | false => rw [hg] at hs; cases hs
      | true =>
        rw [hg] at hs
        have hs := Option.some.inj hs
        subst hs
        simp only [Bool.and_eq_true, Nat.ble_eq, Nat.blt_eq] at hg
        refine ri_r_stk (fun H ls locs w => lv_i2b hx hb hd (v := ri_sem E.2.2 (t.toNat + 1024)) ?_ ?_) kk
        · exact (ri_sem_b hg.1 hg.2).symm
        · have e2 : ri_cv E (.float (UInt32.ofNat (t.toNat + 1024))) = .int (ri_sem E.2.2 (t.toNat + 1024)) := by
            show Value.int (ri_sem E.2.2 (UInt32.ofNat (t.toNat + 1024)).toNat) = _
            rw [ri_u32 (by omega)]
          rw [List.map_cons, e2] at w
          exact w
    · cases hs
  | i2c =>
    have e1 : ln = 1 := Nat.eq_of_beq_eq_true hp
    subst e1
    simp only [ri_step] at hs
    split at hs
    · have hs := Option.some.inj hs
      subst hs
      exact ri_r_stk (fun H ls locs w => lv_i2c hx hb hd rfl w) kk
    · cases hs
  | i2l =>
    have e1 : ln = 1 := Nat.eq_of_beq_eq_true hp
    subst e1
    simp only [ri_step] at hs
    split at hs
    · have hs := Option.some.inj hs
      subst hs
      exact ri_r_stk (fun H ls locs w => lv_i2l hx hb hd rfl w) kk
    · cases hs
  | lshl =>
    have e1 : ln = 1 := Nat.eq_of_beq_eq_true hp
    subst e1
    simp only [ri_step] at hs
    split at hs
    · have hs := Option.some.inj hs
      subst hs
      exact ri_r_stk (fun H ls locs w => lv_lshl hx hb hd rfl w) kk
    · cases hs
  | lcmp =>
    have e1 : ln = 1 := Nat.eq_of_beq_eq_true hp
    subst e1
    simp only [ri_step] at hs
    split at hs
    · have hs := Option.some.inj hs
      subst hs
      exact ri_r_stk (fun H ls locs w => W.lcmp hx hb hd w) kk
    · cases hs
  | dup =>
    have e1 : ln = 1 := Nat.eq_of_beq_eq_true hp
    subst e1
    simp only [ri_step] at hs
    split at hs
    · next v r =>
      cases hg : Nat.beq v.category 1 with
      | false => rw [hg] at hs; cases hs
      | true =>
        rw [hg] at hs
        have hs := Option.some.inj hs
        subst hs
        exact ri_r_stk (fun H ls locs w => lv_dup hx hb hd (by rw [ri_cat]; exact Nat.eq_of_beq_eq_true hg) w) kk
    · cases hs
  | pop =>
    have e1 : ln = 1 := Nat.eq_of_beq_eq_true hp
    subst e1
    simp only [ri_step] at hs
    split at hs
    · next v r =>
      cases hg : Nat.beq v.category 1 with
      | false => rw [hg] at hs; cases hs
      | true =>
        rw [hg] at hs
        have hs := Option.some.inj hs
        subst hs
        exact ri_r_stk (fun H ls locs w => lv_pop hx hb hd (by rw [ri_cat]; exact Nat.eq_of_beq_eq_true hg) w) kk
    · cases hs
  | dup2 =>
    have e1 : ln = 1 := Nat.eq_of_beq_eq_true hp
    subst e1
    simp only [ri_step] at hs
    split at hs
    · next v w r =>
      cases hg : (Nat.beq v.category 1 && Nat.beq w.category 1) with
      | false => rw [hg] at hs; cases hs
      | true =>
        rw [hg] at hs
        have hs := Option.some.inj hs
        subst hs
        simp only [Bool.and_eq_true, Nat.beq_eq] at hg
        exact ri_r_stk (fun H ls locs w => lv_dup2_11 hx hb hd (by rw [ri_cat]; exact hg.1) (by rw [ri_cat]; exact hg.2) w) kk
    · cases hs
  | goto off =>
    obtain ⟨hp1, hq0⟩ := (Bool.and_eq_true _ _).mp hp
    clear hp
    have hp := hq0
    clear hq0
    have e1 : ln = 3 := Nat.eq_of_beq_eq_true hp1
    subst e1
    simp only [ri_step] at hs
    split at hs
    · next tgt =>
      have hs := Option.some.inj hs
      subst hs
      exact ri_r_stk (fun H ls locs w => lv_goto hx hb hd (of_decide_eq_true hp) w) kk
    · cases hs
  | ifCond cnd off =>
    obtain ⟨hp1, hq0⟩ := (Bool.and_eq_true _ _).mp hp
    clear hp
    have hp := hq0
    clear hq0
    have e1 : ln = 3 := Nat.eq_of_beq_eq_true hp1
    subst e1
    simp only [ri_step] at hs
    split at hs
    · next tgt x r =>
      obtain ⟨b, b1, b2, b3, rfl⟩ := ri_br_inv hdc hs
      exact ri_r_if X b1 b3 hd (of_decide_eq_true hp) kk
    · cases hs
  | if_icmp cnd off =>
    obtain ⟨hp1, hq0⟩ := (Bool.and_eq_true _ _).mp hp
    clear hp
    have hp := hq0
    clear hq0
    have e1 : ln = 3 := Nat.eq_of_beq_eq_true hp1
    subst e1
    simp only [ri_step] at hs
    split at hs
    · next tgt y x r =>
      obtain ⟨b, b1, b2, b3, rfl⟩ := ri_br_inv hdc hs
      exact ri_r_icmp X b1 b2 b3 hd (of_decide_eq_true hp) kk
    · cases hs
  | tableswitch df lw hw offs =>
    simp only [ri_step] at hs
    split at hs
    · next dt ts x r =>
      obtain ⟨hp1, hp2⟩ := (Bool.and_eq_true _ _).mp hp
      have hp1 := of_decide_eq_true hp1
      have hp2 := of_decide_eq_true hp2
      cases hg : (decide (x.toInt < lw) || decide (hw < x.toInt)) with
      | true =>
        rw [hg] at hs
        have hs := Option.some.inj hs
        subst hs
        simp only [Bool.or_eq_true, decide_eq_true_eq] at hg
        exact ri_r_stk (fun H ls locs w => lv_tableOut hx hb hd hg hp1 w) kk
      | false =>
        rw [hg] at hs
        simp only [Bool.or_eq_false_iff, decide_eq_false_iff_not] at hg
        dsimp only [cond_false] at hs
        split at hs
        · next tgt ht =>
          have hs := Option.some.inj hs
          subst hs
          have h2 : (offs.toList.map (fun o => (pc : Int) + o))[(x.toInt - lw).toNat]? = some (tgt : Int) := by
            rw [hp2, List.getElem?_map, ht]; rfl
          rw [List.getElem?_map] at h2
          obtain ⟨off, ho, hof⟩ := Option.map_eq_some_iff.mp h2
          exact ri_r_stk (fun H ls locs w => lv_tableIn hx hb hd hg.1 hg.2 (by rw [← Array.getElem?_toList]; exact ho) hof w) kk
        · cases hs
    · next dt ts t r =>
      obtain ⟨hp1, hp2⟩ := (Bool.and_eq_true _ _).mp hp
      have hp1 := of_decide_eq_true hp1
      cases hg : decide (0 ≤ lw) with
      | false => rw [hg] at hs; cases hs
      | true =>
        rw [hg] at hs
        dsimp only [cond_true] at hs
        split at hs
        · next hf =>
          cases hg2 : decide ((Int32.ofInt hw).toInt = hw) with
          | false => rw [hg2] at hs; cases hs
          | true =>
            rw [hg2] at hs
            have hs := Option.some.inj hs
            subst hs
            have hf := ri_fd_inv hdc hf
            have h1 : (ri_sem E.2.2 t.toNat).toInt < 0 ∨ (Int32.ofInt hw).toInt < (ri_sem E.2.2 t.toNat).toInt := ((Bool.or_eq_true _ _).mp (show (decide ((ri_sem E.2.2 t.toNat).toInt < 0) || decide ((Int32.ofInt hw).toInt < (ri_sem E.2.2 t.toNat).toInt)) = true from hf)).imp of_decide_eq_true of_decide_eq_true
            have h0 := of_decide_eq_true hg
            have hw' := of_decide_eq_true hg2
            exact ri_r_stk (fun H ls locs w => lv_tableOut hx hb hd (h1.imp (fun q => by omega) (fun q => by omega)) hp1 w) kk
        · cases hs
    · cases hs
  | getfield idx =>
    obtain ⟨hp1, hq0⟩ := (Bool.and_eq_true _ _).mp hp
    clear hp
    have hp := hq0
    clear hq0
    have e1 : ln = 3 := Nat.eq_of_beq_eq_true hp1
    subst e1
    simp only [ri_step] at hs
    split at hs
    · next t i j r0 s0 =>
      split at hs
      · next q hq =>
        cases hg : (Nat.beq q.1 t && Nat.blt t 13) with
        | false => rw [hg] at hs; cases hs
        | true =>
          rw [hg] at hs
          simp only [Bool.and_eq_true, Nat.beq_eq, Nat.blt_eq] at hg
          obtain ⟨rfl, h13⟩ := hg
          dsimp only [cond_true] at hs
          split at hs
          · next v hv =>
            have hs := Option.some.inj hs
            subst hs
            have hp : (bif Nat.blt q.1 13 then ri_fk M idx q.1 i j else _) = true := hp
            rw [show Nat.blt q.1 13 = true by simpa [Nat.blt_eq] using h13] at hp
            obtain ⟨rr, hr, -, hi, hl⟩ := ri_fk_ok hp
            exact ri_r_getf X hq h13 hv hr hi hl hd kk
          · cases hs
      · cases hs
    · next j s0 =>
      have hs := Option.some.inj hs
      subst hs
      exact ri_r_getS X (w := 0) (Or.inl ⟨rfl, rfl, ri_wi_ok hp⟩) hd kk
    · next j s0 =>
      have hs := Option.some.inj hs
      subst hs
      exact ri_r_getS X (w := 1) (Or.inr ⟨rfl, rfl, ri_wi_ok hp⟩) hd kk
    · cases hs
  | putfield idx =>
    obtain ⟨hp1, hq0⟩ := (Bool.and_eq_true _ _).mp hp
    clear hp
    have hp := hq0
    clear hq0
    have e1 : ln = 3 := Nat.eq_of_beq_eq_true hp1
    subst e1
    simp only [ri_step] at hs
    split at hs
    · next t i j q v r0 s0 =>
      split at hs
      · next cc hq =>
        cases hg : ((Nat.beq cc.1 t && Nat.blt t 13) && (Nat.blt i cc.2.length && ri_fit q v)) with
        | false => rw [hg] at hs; cases hs
        | true =>
          rw [hg] at hs
          have hs := Option.some.inj hs
          subst hs
          simp only [Bool.and_eq_true, Nat.beq_eq, Nat.blt_eq] at hg
          obtain ⟨⟨rfl, h13⟩, hil, hfit⟩ := hg
          have hp : ri_pk M idx cc.1 i j q = true := hp
          unfold ri_pk at hp
          split at hp
          · next rr hr =>
            simp only [Bool.and_eq_true, Bool.or_eq_true, Bool.not_eq_true', decide_eq_true_eq] at hp
            obtain ⟨hfk, htk, hfin⟩ := hp
            obtain ⟨rr', hr', -, hi, hl⟩ := ri_fk_ok hfk
            cases hr.symm.trans hr'
            obtain ⟨ty, hpd, hqt⟩ := ri_tk_ok htk
            refine ri_r_putf X hq h13 hil hr hi hl hpd hqt hfit ?_ hd kk
            cases hfb : (rr.2.1 i).2.2.2 with
            | false => exact Or.inl rfl
            | true =>
              rw [hfb] at hfin
              rcases hfin with hh | hh
              · cases hh
              · exact Or.inr ⟨rfl, hh⟩
          · cases hp
      · cases hs
    · cases hs
  | getstatic idx =>
    obtain ⟨hp1, hq0⟩ := (Bool.and_eq_true _ _).mp hp
    clear hp
    have hp := hq0
    clear hq0
    have e1 : ln = 3 := Nat.eq_of_beq_eq_true hp1
    subst e1
    simp only [ri_step] at hs
    split at hs
    · have hs := Option.some.inj hs
      subst hs
      exact ri_r_gets X (w := 1) (Or.inl ⟨by omega, by omega, rfl, ri_wi_ok hp⟩) hd kk
    · have hs := Option.some.inj hs
      subst hs
      exact ri_r_gets X (w := 2) (Or.inl ⟨by omega, by omega, rfl, ri_wi_ok hp⟩) hd kk
    · have hs := Option.some.inj hs
      subst hs
      exact ri_r_gets X (w := 3) (Or.inl ⟨by omega, by omega, rfl, ri_wi_ok hp⟩) hd kk
    · have hs := Option.some.inj hs
      subst hs
      exact ri_r_gets X (w := 4) (Or.inl ⟨by omega, by omega, rfl, ri_wi_ok hp⟩) hd kk
    · have hs := Option.some.inj hs
      subst hs
      exact ri_r_gets X (w := 0) (Or.inr (Or.inl ⟨rfl, ri_wi_ok hp⟩)) hd kk
    · have hs := Option.some.inj hs
      subst hs
      exact ri_r_gets X (w := 0) (Or.inr (Or.inr ⟨rfl, ri_wi_ok hp⟩)) hd kk
    · cases hs
  | new idx =>
    obtain ⟨hp1, hq0⟩ := (Bool.and_eq_true _ _).mp hp
    clear hp
    have hp := hq0
    clear hq0
    have e1 : ln = 3 := Nat.eq_of_beq_eq_true hp1
    subst e1
    dsimp only at hp
    split at hp
    · next t i1 i2 i3 =>
      split at hp
      · next rr hr =>
        simp only [Bool.and_eq_true, Nat.blt_eq] at hp
        simp only [ri_step] at hs
        split at hs
        · next fs hf =>
          obtain ⟨n1, n2, rfl⟩ := ri_new_inv hs
          exact ri_r_new X hp.1 hr hf (ri_wi_ok hp.2.1) (ri_wi_ok hp.2.2.1) (ri_wi_ok hp.2.2.2) (by omega) (by omega) hd kk
        · cases hs
      · cases hp
    · cases hp
  | newarray a =>
    obtain ⟨hp1, hq0⟩ := (Bool.and_eq_true _ _).mp hp
    clear hp
    have hp := hq0
    clear hq0
    have e1 : ln = 2 := Nat.eq_of_beq_eq_true hp1
    subst e1
    dsimp only at hp
    split at hp
    · next i1 =>
      simp only [ri_step] at hs
      split at hs
      · next n r =>
        cases hg : (!decide (n < 0) && Nat.ble n.toNatClampNeg 100000) with
        | false => rw [hg] at hs; cases hs
        | true =>
          rw [hg] at hs
          simp only [Bool.and_eq_true, Bool.not_eq_true', decide_eq_false_iff_not, Nat.ble_eq] at hg
          dsimp only [cond_true] at hs
          split at hs
          · obtain ⟨n1, n2, rfl⟩ := ri_new_inv hs
            rw [List.length_replicate] at n2 kk
            exact ri_r_newa X (Or.inl ⟨rfl, rfl, rfl⟩) hg.1 hg.2 (ri_wi_ok hp) (by omega) (by omega) hd kk
          · obtain ⟨n1, n2, rfl⟩ := ri_new_inv hs
            rw [List.length_replicate] at n2 kk
            exact ri_r_newa X (Or.inr (Or.inl ⟨rfl, rfl, rfl⟩)) hg.1 hg.2 (ri_wi_ok hp) (by omega) (by omega) hd kk
          · obtain ⟨n1, n2, rfl⟩ := ri_new_inv hs
            rw [List.length_replicate] at n2 kk
            exact ri_r_newa X (Or.inr (Or.inr (Or.inl ⟨rfl, rfl, rfl⟩))) hg.1 hg.2 (ri_wi_ok hp) (by omega) (by omega) hd kk
          · obtain ⟨n1, n2, rfl⟩ := ri_new_inv hs
            rw [List.length_replicate] at n2 kk
            exact ri_r_newa X (Or.inr (Or.inr (Or.inr ⟨rfl, rfl, rfl⟩))) hg.1 hg.2 (ri_wi_ok hp) (by omega) (by omega) hd kk
          · cases hs
      · cases hs
    · cases hp
  | anewarray idx =>
    obtain ⟨hp1, hq0⟩ := (Bool.and_eq_true _ _).mp hp
    clear hp
    have hp := hq0
    clear hq0
    have e1 : ln = 3 := Nat.eq_of_beq_eq_true hp1
    subst e1
    dsimp only at hp
    split at hp
    · next t i1 i2 =>
      simp only [ri_step] at hs
      split at hs
      · next t' tl n r he =>
        cases he
        cases hg : ((Nat.beq t 17 || Nat.beq t 18) && (!decide (n < 0) && Nat.ble n.toNatClampNeg 100000)) with
        | false => rw [hg] at hs; cases hs
        | true =>
          rw [hg] at hs
          simp only [Bool.and_eq_true, Bool.or_eq_true, Nat.beq_eq, Bool.not_eq_true', decide_eq_false_iff_not, Nat.ble_eq] at hg
          obtain ⟨ht, h1, h2⟩ := hg
          obtain ⟨n1, n2, rfl⟩ := ri_new_inv hs
          rw [List.length_replicate] at n2 kk
          rcases ht with rfl | rfl
          · obtain ⟨hp2, hp3⟩ := (Bool.and_eq_true _ _).mp hp
            exact ri_r_anew X (Or.inl ⟨rfl, rfl⟩) h1 h2 (ri_wi_ok hp2) (ri_wi_ok hp3) (by omega) (by omega) hd kk
          · obtain ⟨hp2, hp3⟩ := (Bool.and_eq_true _ _).mp hp
            exact ri_r_anew X (Or.inr ⟨rfl, rfl⟩) h1 h2 (ri_wi_ok hp2) (ri_wi_ok hp3) (by omega) (by omega) hd kk
      · cases hs
    · cases hp
  | arraylength =>
    have e1 : ln = 1 := Nat.eq_of_beq_eq_true hp
    subst e1
    simp only [ri_step] at hs
    split at hs
    · split at hs
      · next n ha =>
        have hs := Option.some.inj hs
        subst hs
        exact ri_r_alen X ha hd kk
      · cases hs
    · cases hs
  | iaload =>
    have e1 : ln = 1 := Nat.eq_of_beq_eq_true hp
    subst e1
    simp only [ri_step] at hs
    split at hs
    · split at hs
      · next v ha =>
        have hs := Option.some.inj hs
        subst hs
        rcases ri_ald_inv ha with ⟨r0, q, rfl, hq, hg, hi, hv⟩ | ⟨n, y, rfl, hn, hi, hv, rfl⟩
        · exact ri_r_ald1 X hq hi hv (Or.inl ⟨Nat.eq_of_beq_eq_true hg, hd⟩) kk
        · exact ri_r_ald2 X hi hv (Or.inl ⟨by omega, by omega, hd⟩) kk
      · cases hs
    · cases hs
  | baload =>
    have e1 : ln = 1 := Nat.eq_of_beq_eq_true hp
    subst e1
    simp only [ri_step] at hs
    split at hs
    · split at hs
      · next v ha =>
        have hs := Option.some.inj hs
        subst hs
        rcases ri_ald_inv ha with ⟨r0, q, rfl, hq, hg, hi, hv⟩ | ⟨n, y, rfl, hn, hi, hv, rfl⟩
        · simp only [ri_g24, Bool.or_eq_true, Nat.beq_eq] at hg
          rcases hg with hg | hg
          · exact ri_r_ald1 X hq hi hv (Or.inr (Or.inl ⟨hg, hd⟩)) kk
          · exact ri_r_ald1 X hq hi hv (Or.inr (Or.inr (Or.inl ⟨hg, hd⟩))) kk
        · exact ri_r_ald2 X hi hv (Or.inr ⟨by omega, hd⟩) kk
      · cases hs
    · cases hs
  | laload =>
    have e1 : ln = 1 := Nat.eq_of_beq_eq_true hp
    subst e1
    simp only [ri_step] at hs
    split at hs
    · split at hs
      · next v ha =>
        have hs := Option.some.inj hs
        subst hs
        rcases ri_ald_inv ha with ⟨r0, q, rfl, hq, hg, hi, hv⟩ | ⟨n, y, rfl, hn, hi, hv, rfl⟩
        · exact ri_r_ald1 X hq hi hv (Or.inr (Or.inr (Or.inr (Or.inl ⟨Nat.eq_of_beq_eq_true hg, hd⟩)))) kk
        · omega
      · cases hs
    · cases hs
  | aaload =>
    have e1 : ln = 1 := Nat.eq_of_beq_eq_true hp
    subst e1
    simp only [ri_step] at hs
    split at hs
    · split at hs
      · next v ha =>
        have hs := Option.some.inj hs
        subst hs
        rcases ri_ald_inv ha with ⟨r0, q, rfl, hq, hg, hi, hv⟩ | ⟨n, y, rfl, hn, hi, hv, rfl⟩
        · simp only [ri_g5, Bool.or_eq_true, Nat.beq_eq] at hg
          exact ri_r_ald1 X hq hi hv (Or.inr (Or.inr (Or.inr (Or.inr ⟨hg, hd⟩)))) kk
        · omega
      · cases hs
    · cases hs
  | iastore =>
    have e1 : ln = 1 := Nat.eq_of_beq_eq_true hp
    subst e1
    simp only [ri_step] at hs
    split at hs
    · next v i a r =>
      cases hv : ri_isI v with
      | false => rw [hv] at hs; cases hs
      | true =>
        rw [hv] at hs
        dsimp only [cond_true] at hs
        split at hs
        · next h' ha =>
          have hs := Option.some.inj hs
          subst hs
          obtain ⟨r0, q, rfl, hq, hg, hi, hlt, rfl⟩ := ri_ast_inv ha
          exact ri_r_ast1 X hq hi hlt (Or.inl ⟨Nat.eq_of_beq_eq_true hg, rfl, hv, hd⟩) kk
        · cases hs
    · cases hs
  | lastore =>
    have e1 : ln = 1 := Nat.eq_of_beq_eq_true hp
    subst e1
    simp only [ri_step] at hs
    split at hs
    · next v i a r =>
      cases hv : ri_isL v with
      | false => rw [hv] at hs; cases hs
      | true =>
        rw [hv] at hs
        dsimp only [cond_true] at hs
        split at hs
        · next h' ha =>
          have hs := Option.some.inj hs
          subst hs
          obtain ⟨r0, q, rfl, hq, hg, hi, hlt, rfl⟩ := ri_ast_inv ha
          exact ri_r_ast1 X hq hi hlt (Or.inr (Or.inr (Or.inr ⟨Nat.eq_of_beq_eq_true hg, rfl, hv, hd⟩))) kk
        · cases hs
    · cases hs
  | bastore =>
    have e1 : ln = 1 := Nat.eq_of_beq_eq_true hp
    subst e1
    simp only [ri_step] at hs
    split at hs
    · next v i a r =>
      split at hs
      · next w hw =>
        obtain ⟨hv, hn⟩ := ri_nb_ok (E := E) hw
        split at hs
        · next h' ha =>
          have hs := Option.some.inj hs
          subst hs
          obtain ⟨r0, q, rfl, hq, hg, hi, hlt, rfl⟩ := ri_ast_inv ha
          exact ri_r_ast1 X hq hi hlt (Or.inr (Or.inl ⟨Nat.eq_of_beq_eq_true hg, hv, hn, hd⟩)) kk
        · split at hs
          · next x =>
            cases hg0 : (decide (x = 0) || decide (x = 1)) with
            | false => rw [hg0] at hs; cases hs
            | true =>
              rw [hg0] at hs
              simp only [Bool.or_eq_true, decide_eq_true_eq] at hg0
              dsimp only [cond_true] at hs
              split at hs
              · next h' ha =>
                have hs := Option.some.inj hs
                subst hs
                obtain ⟨r0, q, rfl, hq, hg, hi, hlt, rfl⟩ := ri_ast_inv ha
                refine ri_r_ast1 X hq hi hlt (Or.inr (Or.inr (Or.inl ⟨Nat.eq_of_beq_eq_true hg, hv, ?_, hd⟩))) kk
                rcases hg0 with rfl | rfl <;> rfl
              · cases hs
          · cases hs
      · cases hs
    · cases hs
  | aastore =>
    have e1 : ln = 1 := Nat.eq_of_beq_eq_true hp
    subst e1
    simp only [ri_step] at hs
    split at hs
    · next w i a r =>
      split at hs
      · next qw qa hw ha0 =>
        cases hg : (Nat.beq qw.1 6 && Nat.beq qa.1 17 || (Nat.beq qw.1 3 && Nat.beq qa.1 18)) with
        | false => rw [hg] at hs; cases hs
        | true =>
          rw [hg] at hs
          simp only [Bool.or_eq_true, Bool.and_eq_true, Nat.beq_eq] at hg
          dsimp only [cond_true] at hs
          split at hs
          · next h' ha =>
            have hs := Option.some.inj hs
            subst hs
            obtain ⟨r0, q, e0, hq, hg2, hi, hlt, rfl⟩ := ri_ast_inv ha
            cases e0
            cases hq.symm.trans ha0
            exact ri_r_aast X hq hw hi hlt hg hd kk
          · cases hs
      · cases hs
    · cases hs
  | invokevirtual idx =>
    obtain ⟨hp1, hq0⟩ := (Bool.and_eq_true _ _).mp hp
    clear hp
    have hp := hq0
    clear hq0
    have e1 : ln = 3 := Nat.eq_of_beq_eq_true hp1
    subst e1
    exact ri_snd_inv X C hd (Or.inl ⟨rfl, hp⟩) hdc hs kk
  | invokespecial idx =>
    obtain ⟨hp1, hq0⟩ := (Bool.and_eq_true _ _).mp hp
    clear hp
    have hp := hq0
    clear hq0
    have e1 : ln = 3 := Nat.eq_of_beq_eq_true hp1
    subst e1
    exact ri_snd_inv X C hd (Or.inr (Or.inl ⟨rfl, hp⟩)) hdc hs kk
  | invokestatic idx =>
    obtain ⟨hp1, hq0⟩ := (Bool.and_eq_true _ _).mp hp
    clear hp
    have hp := hq0
    clear hq0
    have e1 : ln = 3 := Nat.eq_of_beq_eq_true hp1
    subst e1
    exact ri_snd_inv X C hd (Or.inr (Or.inr ⟨rfl, hp⟩)) hdc hs kk
  | checkcast idx =>
    obtain ⟨hp1, hq0⟩ := (Bool.and_eq_true _ _).mp hp
    clear hp
    have hp := hq0
    clear hq0
    have e1 : ln = 3 := Nat.eq_of_beq_eq_true hp1
    subst e1
    dsimp only at hp
    split at hp
    · next i1 =>
      simp only [ri_step] at hs
      split at hs
      · next a r =>
        split at hs
        · next q hq =>
          cases hg : Nat.beq q.1 13 with
          | false => rw [hg] at hs; cases hs
          | true =>
            rw [hg] at hs
            have hs := Option.some.inj hs
            subst hs
            exact ri_r_cast X hq (Nat.eq_of_beq_eq_true hg) (ri_wi_ok hp) hd kk
        · cases hs
      · cases hs
    · cases hp
  | _ => cases hs
end RIJ
end
section
section RIK
variable {p : Program} {l : Launch} {e : Env} {R : Room} {s : State} {m : MethodId} {args : Array Value} {below : List Frame} {meth : Method} {c : Code} {Q : State → Prop} {E : ri_V} {D : va_G} {cA : Nat → ClassId} {M : ri_M} {pc k z nL d : Nat} {lo : List (Nat × Value)} {st r : List Value} {h : ri_H} {f' : ri_F} {dc : ri_O} {md : List (ri_M × ri_T)} {cal : Nat → List Value → ri_H → Option (Option Value × ri_H)}
theorem ri_snd_ret (X : ri_Cx p s m args meth c E D cA M) (hrt : meth.sig.returnType = M.2.2.2.1) (hlocks : meth.locks = false) {P : Option Value → ri_H → Prop} {mc ms : Nat} {ins : Instr} {rs : List Value} (hd : decode M.2.1 pc = .ok (ins, 1)) (hr : ri_ret M.2.2.2.1 ins st = some rs) (hP : P rs.head? h) (hk : k ≤ mc) (hz : z ≤ ms) :
    ri_Ab p l e R s m args below meth c (MQ below (ri_Qc E D cA P) args s mc ms (ri_A E)) E D cA M.2.2.1 (pc, lo, st, h, k, z) := by
  obtain ⟨hx, hb, -⟩ := X
  intro H ls locs hl hR hS
  refine W.widen (k := mc) (n := ms) hk hz ?_
  have fin : ∀ (o : Option Value), rs.head? = o → ∀ t : State, t.heap = H → s.WarmedH t.vm → ri_Qc E D cA P args s (.returned (o.map (ri_cv E))) t := by
    rintro o rfl t ht -
    exact ⟨_, h, hP, rfl, by rw [ht]; exact hR, hS.F ht⟩
  unfold ri_ret at hr
  split at hr
  · split at hr
    · next v =>
      cases hg : ri_rok M.2.2.2.1 v with
      | false => rw [hg] at hr; cases hr
      | true =>
        rw [hg] at hr
        cases hr
        unfold ri_rok at hg
        split at hg
        · next e1 => exact W.iret hx hb (hrt.trans e1) (fin _ rfl) hS.2.2 hd
        · next t e1 => exact W.iret hx hb (hrt.trans e1) (fin (some (.float t)) rfl) hS.2.2 hd
        · next x e1 =>
          simp only [Bool.or_eq_true, decide_eq_true_eq] at hg
          exact W.zret hx hb (hrt.trans e1) (by rcases hg with rfl | rfl <;> rfl) (fin _ rfl) hS.2.2 hd
        · next x e1 =>
          simp only [Bool.or_eq_true, decide_eq_true_eq] at hg
          exact W.zret hx hb (hrt.trans e1) (by rcases hg with rfl | rfl <;> rfl) (fin _ rfl) hS.2.2 hd
        · next x e1 =>
          have hg := of_decide_eq_true hg
          exact W.zret hx hb (hrt.trans e1) (by have := pk_nc x; rw [hg] at this; exact this) (fin _ rfl) hS.2.2 hd
        · cases hg
    · cases hr
  · split at hr
    · next e1 =>
      cases hr
      exact W.vret hx hb (hrt.trans e1) (fin none rfl) hS.2.2 hd
    · cases hr
  · cases hr
theorem ri_look_ok : ∀ (t : List (Nat × ri_En)) (pc : Nat) (en : ri_En), ri_look t pc = some en → (pc, en) ∈ t
  | [], _, _, hs => by cases hs
  | q :: t, pc, en, hs => by
    unfold ri_look at hs
    cases hb : Nat.beq q.1 pc with
    | true =>
      rw [hb] at hs
      have h1 : q.1 = pc := Nat.eq_of_beq_eq_true hb
      have h2 : q.2 = en := Option.some.inj hs
      rw [← h1, ← h2]
      exact List.mem_cons_self
    | false =>
      rw [hb] at hs
      exact List.mem_cons_of_mem _ (ri_look_ok t pc en hs)
theorem ri_look2_ok : ∀ (t : ri_T) (pc : Nat) (en : ri_En), ri_look2 t pc = some en → ∃ b ∈ t, (pc, en) ∈ b.2
  | [], _, _, hs => by cases hs
  | q :: t, pc, en, hs => by
    unfold ri_look2 at hs
    cases hb : Nat.blt pc q.1 with
    | true =>
      rw [hb] at hs
      exact ⟨q, List.mem_cons_self, ri_look_ok _ _ _ hs⟩
    | false =>
      rw [hb] at hs
      obtain ⟨b, h1, h2⟩ := ri_look2_ok t pc en hs
      exact ⟨b, List.mem_cons_of_mem _ h1, h2⟩
def ri_okT (md : List (ri_M × ri_T)) (q : ri_M × ri_T) : Bool := q.2.all (fun b => b.2.all (fun x => ri_ok md q.1 x.1 x.2))
theorem ri_okT_at {q : ri_M × ri_T} (hq : ri_okT md q = true) {pc : Nat} {en : ri_En} (hl : ri_look2 q.2 pc = some en) : ri_ok md q.1 pc en = true := by
  obtain ⟨b, h1, h2⟩ := ri_look2_ok _ _ _ hl
  exact List.all_eq_true.mp (List.all_eq_true.mp hq b h1) (pc, en) h2
/-- where a frame is done its result stands, else the machine goes on from it -/
def ri_Gd (p : Program) (l : Launch) (e : Env) (R : Room) (s : State) (m : MethodId) (args : Array Value) (below : List Frame) (meth : Method) (c : Code) (Q : State → Prop) (E : ri_V) (D : va_G) (cA : Nat → ClassId) (nL : Nat) (P : Option Value → ri_H → Prop) (mc ms : Nat) (f : ri_F) : Prop :=
  (f.1 = 70000 ∧ P f.2.2.1.head? f.2.2.2.1 ∧ f.2.2.2.2.1 ≤ mc ∧ f.2.2.2.2.2 ≤ ms) ∨ (f.1 ≠ 70000 ∧ ri_Ab p l e R s m args below meth c Q E D cA nL f)
theorem ri_st_snd {q : ri_M × ri_T} (X : ri_Cx p s m args meth c E D cA q.1) (C : ri_Ca l E D cA md cal d q.1 R) (hdc : ∀ q ∈ dc, ri_hd q.1 (ri_ic E q.2.1) (ri_ic E q.2.2.1) = q.2.2.2) (hT : ri_okT md q = true) (hrt : meth.sig.returnType = q.1.2.2.2.1) (hlocks : meth.locks = false) {P : Option Value → ri_H → Prop} {mc ms : Nat} {f : ri_F} (hf : f.1 ≠ 70000)
    (hs : ri_st dc cal (ri_bud md) q f = some f') (kk : ri_Gd p l e R s m args below meth c (MQ below (ri_Qc E D cA P) args s mc ms (ri_A E)) E D cA q.1.2.2.1 P mc ms f') : ri_Ab p l e R s m args below meth c (MQ below (ri_Qc E D cA P) args s mc ms (ri_A E)) E D cA q.1.2.2.1 f := by
  unfold ri_st at hs
  rw [show Nat.beq f.1 70000 = false by
    cases hh : Nat.beq f.1 70000 with
    | false => rfl
    | true => exact absurd (Nat.eq_of_beq_eq_true hh) hf] at hs
  dsimp only [cond_false] at hs
  split at hs
  · next en hl =>
    have hok := ri_okT_at hT hl
    cases hi : ri_isR en.1 with
    | true =>
      rw [hi] at hs
      dsimp only [cond_true] at hs
      split at hs
      · next rs hr =>
        have hs := Option.some.inj hs
        subst hs
        rcases kk with ⟨-, kP, k1, k2⟩ | ⟨k0, -⟩
        · obtain ⟨hd0, hp0⟩ := (Bool.and_eq_true _ _).mp hok
          have hd := of_decide_eq_true hd0
          obtain ⟨i, ln, aux, cv⟩ := en
          dsimp only at hd hr hi
          have e1 : ln = 1 := by
            cases i with
            | ireturn => exact Nat.eq_of_beq_eq_true hp0
            | return_ => exact Nat.eq_of_beq_eq_true hp0
            | _ => cases hi
          subst e1
          exact ri_snd_ret X hrt hlocks hd hr kP k1 k2
        · exact absurd rfl k0
      · cases hs
    | false =>
      rw [hi] at hs
      dsimp only [cond_false] at hs
      split at hs
      · next f1 hst =>
        cases h7 : Nat.beq f1.1 70000 with
        | true => rw [h7] at hs; cases hs
        | false =>
          rw [h7] at hs
          have hs := Option.some.inj hs
          subst hs
          rcases kk with ⟨k0, -⟩ | ⟨-, kk⟩
          · rw [k0] at h7; cases h7
          · exact ri_snd X C hdc hok hst kk
      · cases hs
  · cases hs
theorem ri_it_snd {stp : ri_F → Option ri_F} {A B : ri_F → Prop} (hstep : ∀ f f', f.1 ≠ 70000 → stp f = some f' → ((f'.1 = 70000 ∧ B f') ∨ (f'.1 ≠ 70000 ∧ A f')) → A f) :
    ∀ (n : Nat) (f f' : ri_F), f.1 ≠ 70000 → ri_it stp n f = some f' → ((f'.1 = 70000 ∧ B f') ∨ (f'.1 ≠ 70000 ∧ A f')) → A f
  | 0, f, f', hf, hs, kk => hstep f f' hf hs kk
  | n + 1, f, f', hf, hs, kk => by
    have hs : (match ri_it stp n f with
      | some f1 => bif Nat.beq f1.1 70000 then some f1 else ri_it stp n f1
      | none => none) = some f' := hs
    split at hs
    · next f1 h1 =>
      cases h7 : Nat.beq f1.1 70000 with
      | true =>
        rw [h7] at hs
        have hs := Option.some.inj hs
        subst hs
        exact ri_it_snd hstep n f _ hf h1 kk
      | false =>
        rw [h7] at hs
        have n7 : f1.1 ≠ 70000 := fun e => by rw [e] at h7; cases h7
        exact ri_it_snd hstep n f f1 hf h1 (Or.inr ⟨n7, ri_it_snd hstep n f1 f' n7 hs kk⟩)
    · cases hs
theorem ri_lgsl (vs : List Value) : (lg_sl (vs.map (ri_cv E))).length = ri_wt vs := by
  induction vs with
  | nil => rfl
  | cons v vs ih =>
    have e1 : lg_sl ((v :: vs).map (ri_cv E)) = lg_sl [ri_cv E v] ++ lg_sl (vs.map (ri_cv E)) := by simp [lg_sl]
    rw [e1, List.length_append, ih]
    show _ = v.category + ri_wt vs
    congr 1
    rw [← ri_cat E v]
    cases ri_cv E v <;> rfl
/-- A METHOD: if its body, from its entry, goes well for every surroundings, its contract holds -/
theorem ri_met_of {q : ri_M × ri_T} {n : Nat} (hMk : ri_Mk q.1 n) {as : List Value} {P : Option Value → ri_H → Prop} (hw : ri_wt as ≤ q.1.2.2.1)
    (body : ∀ (p : Program) (e : Env) (s : State) (m : MethodId) (args : Array Value) (below : List Frame) (meth : Method) (c : Code), ri_Cx p s m args meth c E D cA q.1 → meth.sig.returnType = q.1.2.2.2.1 → meth.locks = false →
      ri_Ab p l e (ri_rm d q.1) s m args below meth c (MQ below (ri_Qc E D cA P) args s q.1.2.2.2.2.2.1 q.1.2.2.2.2.2.2 (ri_A E)) E D cA q.1.2.2.1 (0, ri_as 0 as, [], h, 0, 0)) : ri_Met l E D cA d q.1 as h P := by
  refine Met.ofW (cc := q.1.2.1) (maxL := q.1.2.2.1) (ret := q.1.2.2.2.1) hMk.2.2.2.2.2.2.1 rfl ?_
  intro p e s m args below meth c s₁ B hml hv
  obtain ⟨rfl, hK, hX, hR⟩ := hv
  have hts := atoms_spec (ws := ri_ws q.1) B.pre
  have hown : s.vm.findClass q.1.1.cls = some m.cls := findClass_of_methodNamed B.named
  have Cx : ri_Cx p s m (as.map (ri_cv E)).toArray meth c E D cA q.1 := ⟨B.exec, B.bytes, hml, by rw [hMk.2.2.2.2.2.2.2]; exact hown, fun w h1 h2 => hts w (List.mem_cons_of_mem _ (List.mem_filter.mpr ⟨h1, h2⟩)), hK, hX, (name_of_methodNamed B.named B.method).1, by rw [hR.1]; omega⟩
  have hl := lv_entry (as.map (ri_cv E)) (n := q.1.2.2.1) (by rw [ri_lgsl]; exact hw)
  rw [lg_entry_eq]
  rw [ri_mp_as] at hl
  exact body p e s m _ below meth c Cx B.returns B.notSynchronized s.heap _ [] hl hR va_S.rf
/-- A CALL of the abstract machine is a contract -/
theorem ri_met (l : Launch) (E : ri_V) (D : va_G) (cA : Nat → ClassId) (hmk : ∀ (j : Nat) (q : ri_M × ri_T), md[j]? = some q → ∃ n, ri_Mk q.1 n) (hT : ∀ (j : Nat) (q : ri_M × ri_T), md[j]? = some q → ri_okT md q = true) (hdc : ∀ q ∈ dc, ri_hd q.1 (ri_ic E q.2.1) (ri_ic E q.2.2.1) = q.2.2.2) :
    ∀ (d j : Nat) (q : ri_M × ri_T) (as : List Value) (h : ri_H) (v : Option Value) (h' : ri_H), md[j]? = some q → ri_call dc md d j as h = some (v, h') → ri_Met l E D cA d q.1 as h (fun a b => a = v ∧ b = h')
  | 0, j, q, as, h, v, h', hq, hs => by cases hs
  | d + 1, j, q, as, h, v, h', hq, hs => by
    have hs : (match md[j]? with
      | some q => bif Nat.ble (ri_wt as) q.1.2.2.1 then (match ri_it (ri_st dc (ri_call dc md d) (ri_bud md) q) 14 (0, ri_as 0 as, [], h, 0, 0) with
        | some f => bif Nat.beq f.1 70000 && (Nat.ble f.2.2.2.2.1 q.1.2.2.2.2.2.1 && Nat.ble f.2.2.2.2.2 q.1.2.2.2.2.2.2) then some (f.2.2.1.head?, f.2.2.2.1) else none
        | none => none) else none
      | none => none) = some (v, h') := hs
    rw [hq] at hs
    dsimp only at hs
    cases hw : Nat.ble (ri_wt as) q.1.2.2.1 with
    | false => rw [hw] at hs; cases hs
    | true =>
      rw [hw] at hs
      dsimp only [cond_true] at hs
      split at hs
      · next f hf =>
        cases h7 : (Nat.beq f.1 70000 && (Nat.ble f.2.2.2.2.1 q.1.2.2.2.2.2.1 && Nat.ble f.2.2.2.2.2 q.1.2.2.2.2.2.2)) with
        | false => rw [h7] at hs; cases hs
        | true =>
          rw [h7] at hs
          have hs := Option.some.inj hs
          have hs1 : f.2.2.1.head? = v := congrArg Prod.fst hs
          have hs2 : f.2.2.2.1 = h' := congrArg Prod.snd hs
          simp only [Bool.and_eq_true, Nat.beq_eq, Nat.ble_eq] at h7
          obtain ⟨n, hMk⟩ := hmk j q hq
          refine ri_met_of hMk (Nat.ble_eq.mp hw) (fun p e s m args below meth c X hrt hlk => ?_)
          have C : ri_Ca l E D cA md (ri_call dc md d) d q.1 (ri_rm (d + 1) q.1) := ⟨hmk, fun j' q' as' h1 v' h2 => ri_met l E D cA hmk hT hdc d j' q' as' h1 v' h2, Nat.le_refl _, Nat.le_refl _, Nat.le_refl _, by show 64 * d + 64 ≤ 64 * (d + 1); omega⟩
          exact ri_it_snd (A := ri_Ab p l e (ri_rm (d + 1) q.1) s m args below meth c (MQ below (ri_Qc E D cA (fun a b => a = v ∧ b = h')) args s q.1.2.2.2.2.2.1 q.1.2.2.2.2.2.2 (ri_A E)) E D cA q.1.2.2.1) (B := fun f => (f.2.2.1.head? = v ∧ f.2.2.2.1 = h') ∧ f.2.2.2.2.1 ≤ q.1.2.2.2.2.2.1 ∧ f.2.2.2.2.2 ≤ q.1.2.2.2.2.2.2)
            (fun f1 f2 hf1 hst kk => ri_st_snd X C hdc (hT j q hq) hrt hlk hf1 hst kk) 14 _ f (show (0 : Nat) ≠ 70000 by decide) hf (Or.inl ⟨h7.1, ⟨hs1, hs2⟩, h7.2⟩)
      · cases hs
end RIK
end
section
def ri_mkb (M : ri_M) (n ic ii : Nat) : Bool := ri_wi ic (.code M.1 M.2.1 M.2.2.1 M.2.2.2.1) && (ri_wi ii (.initialized M.1.cls) && (decide (M.1.cls ≠ "java/lang/invoke/MethodHandle") && (decide (M.1.cls ≠ "java/lang/invoke/VarHandle") && (decide ((parseMethodDescriptor M.1.desc).map (fun d => d.parameters.length) = some n) && (Nat.ble M.2.2.1 45 && (plainName M.1.cls && decide (M.2.2.2.2.1 = M.1.cls)))))))
theorem ri_mkb_ok {M : ri_M} {n ic ii : Nat} (h : ri_mkb M n ic ii = true) : ∃ n, ri_Mk M n := by
  unfold ri_mkb at h
  simp only [Bool.and_eq_true, decide_eq_true_eq, Nat.ble_eq] at h
  exact ⟨n, List.mem_of_getElem? (ri_wi_ok h.1), List.mem_of_getElem? (ri_wi_ok h.2.1), h.2.2.1, h.2.2.2.1, h.2.2.2.2.1, h.2.2.2.2.2.1, h.2.2.2.2.2.2.1, h.2.2.2.2.2.2.2⟩
set_option maxRecDepth 100000 in
theorem mk_0 : ∃ n, ri_Mk md_0.1 n := ri_mkb_ok (n := 0) (ic := 508) (ii := 112) (by decide +kernel)
set_option maxRecDepth 100000 in
theorem ot_0 : ri_okT ri_md md_0 = true := by decide +kernel
set_option maxRecDepth 100000 in
theorem mk_1 : ∃ n, ri_Mk md_1.1 n := ri_mkb_ok (n := 2) (ic := 1069) (ii := 112) (by decide +kernel)
set_option maxRecDepth 100000 in
theorem ot_1 : ri_okT ri_md md_1 = true := by decide +kernel
set_option maxRecDepth 100000 in
theorem mk_2 : ∃ n, ri_Mk md_2.1 n := ri_mkb_ok (n := 2) (ic := 1073) (ii := 112) (by decide +kernel)
set_option maxRecDepth 100000 in
theorem ot_2 : ri_okT ri_md md_2 = true := by decide +kernel
set_option maxRecDepth 100000 in
theorem mk_3 : ∃ n, ri_Mk md_3.1 n := ri_mkb_ok (n := 3) (ic := 1088) (ii := 112) (by decide +kernel)
set_option maxRecDepth 100000 in
theorem ot_3 : ri_okT ri_md md_3 = true := by decide +kernel
set_option maxRecDepth 100000 in
theorem mk_4 : ∃ n, ri_Mk md_4.1 n := ri_mkb_ok (n := 3) (ic := 1095) (ii := 112) (by decide +kernel)
set_option maxRecDepth 100000 in
theorem ot_4 : ri_okT ri_md md_4 = true := by decide +kernel
set_option maxRecDepth 100000 in
theorem mk_5 : ∃ n, ri_Mk md_5.1 n := ri_mkb_ok (n := 3) (ic := 1099) (ii := 112) (by decide +kernel)
set_option maxRecDepth 100000 in
theorem ot_5 : ri_okT ri_md md_5 = true := by decide +kernel
set_option maxRecDepth 100000 in
theorem mk_6 : ∃ n, ri_Mk md_6.1 n := ri_mkb_ok (n := 4) (ic := 1102) (ii := 112) (by decide +kernel)
set_option maxRecDepth 100000 in
theorem ot_6 : ri_okT ri_md md_6 = true := by decide +kernel
set_option maxRecDepth 100000 in
theorem mk_7 : ∃ n, ri_Mk md_7.1 n := ri_mkb_ok (n := 3) (ic := 1107) (ii := 112) (by decide +kernel)
set_option maxRecDepth 100000 in
theorem ot_7 : ri_okT ri_md md_7 = true := by decide +kernel
set_option maxRecDepth 100000 in
theorem mk_8 : ∃ n, ri_Mk md_8.1 n := ri_mkb_ok (n := 4) (ic := 1112) (ii := 112) (by decide +kernel)
set_option maxRecDepth 100000 in
theorem ot_8 : ri_okT ri_md md_8 = true := by decide +kernel
set_option maxRecDepth 100000 in
theorem mk_9 : ∃ n, ri_Mk md_9.1 n := ri_mkb_ok (n := 3) (ic := 1118) (ii := 112) (by decide +kernel)
set_option maxRecDepth 100000 in
theorem ot_9 : ri_okT ri_md md_9 = true := by decide +kernel
set_option maxRecDepth 100000 in
theorem mk_10 : ∃ n, ri_Mk md_10.1 n := ri_mkb_ok (n := 0) (ic := 561) (ii := 114) (by decide +kernel)
set_option maxRecDepth 100000 in
theorem ot_10 : ri_okT ri_md md_10 = true := by decide +kernel
set_option maxRecDepth 100000 in
theorem mk_11 : ∃ n, ri_Mk md_11.1 n := ri_mkb_ok (n := 1) (ic := 1050) (ii := 114) (by decide +kernel)
set_option maxRecDepth 100000 in
theorem ot_11 : ri_okT ri_md md_11 = true := by decide +kernel
set_option maxRecDepth 100000 in
theorem mk_12 : ∃ n, ri_Mk md_12.1 n := ri_mkb_ok (n := 4) (ic := 1042) (ii := 114) (by decide +kernel)
set_option maxRecDepth 100000 in
theorem ot_12 : ri_okT ri_md md_12 = true := by decide +kernel
set_option maxRecDepth 100000 in
theorem mk_13 : ∃ n, ri_Mk md_13.1 n := ri_mkb_ok (n := 2) (ic := 1046) (ii := 114) (by decide +kernel)
set_option maxRecDepth 100000 in
theorem ot_13 : ri_okT ri_md md_13 = true := by decide +kernel
set_option maxRecDepth 100000 in
theorem mk_14 : ∃ n, ri_Mk md_14.1 n := ri_mkb_ok (n := 0) (ic := 527) (ii := 113) (by decide +kernel)
set_option maxRecDepth 100000 in
theorem ot_14 : ri_okT ri_md md_14 = true := by decide +kernel
set_option maxRecDepth 100000 in
theorem mk_15 : ∃ n, ri_Mk md_15.1 n := ri_mkb_ok (n := 3) (ic := 929) (ii := 113) (by decide +kernel)
set_option maxRecDepth 100000 in
theorem ot_15 : ri_okT ri_md md_15 = true := by decide +kernel
set_option maxRecDepth 100000 in
theorem mk_16 : ∃ n, ri_Mk md_16.1 n := ri_mkb_ok (n := 3) (ic := 933) (ii := 113) (by decide +kernel)
set_option maxRecDepth 100000 in
theorem ot_16 : ri_okT ri_md md_16 = true := by decide +kernel
set_option maxRecDepth 100000 in
theorem mk_17 : ∃ n, ri_Mk md_17.1 n := ri_mkb_ok (n := 1) (ic := 946) (ii := 113) (by decide +kernel)
set_option maxRecDepth 100000 in
theorem ot_17 : ri_okT ri_md md_17 = true := by decide +kernel
set_option maxRecDepth 100000 in
theorem mk_18 : ∃ n, ri_Mk md_18.1 n := ri_mkb_ok (n := 2) (ic := 950) (ii := 113) (by decide +kernel)
set_option maxRecDepth 100000 in
theorem ot_18 : ri_okT ri_md md_18 = true := by decide +kernel
set_option maxRecDepth 100000 in
theorem mk_19 : ∃ n, ri_Mk md_19.1 n := ri_mkb_ok (n := 1) (ic := 955) (ii := 113) (by decide +kernel)
set_option maxRecDepth 100000 in
theorem ot_19 : ri_okT ri_md md_19 = true := by decide +kernel
set_option maxRecDepth 100000 in
theorem mk_20 : ∃ n, ri_Mk md_20.1 n := ri_mkb_ok (n := 1) (ic := 959) (ii := 113) (by decide +kernel)
set_option maxRecDepth 100000 in
theorem ot_20 : ri_okT ri_md md_20 = true := by decide +kernel
set_option maxRecDepth 100000 in
theorem mk_21 : ∃ n, ri_Mk md_21.1 n := ri_mkb_ok (n := 2) (ic := 963) (ii := 113) (by decide +kernel)
set_option maxRecDepth 100000 in
theorem ot_21 : ri_okT ri_md md_21 = true := by decide +kernel
set_option maxRecDepth 100000 in
theorem mk_22 : ∃ n, ri_Mk md_22.1 n := ri_mkb_ok (n := 0) (ic := 479) (ii := 111) (by decide +kernel)
set_option maxRecDepth 100000 in
theorem ot_22 : ri_okT ri_md md_22 = true := by decide +kernel
set_option maxRecDepth 100000 in
theorem mk_23 : ∃ n, ri_Mk md_23.1 n := ri_mkb_ok (n := 0) (ic := 243) (ii := 106) (by decide +kernel)
set_option maxRecDepth 100000 in
theorem ot_23 : ri_okT ri_md md_23 = true := by decide +kernel
set_option maxRecDepth 100000 in
theorem mk_24 : ∃ n, ri_Mk md_24.1 n := ri_mkb_ok (n := 0) (ic := 668) (ii := 106) (by decide +kernel)
set_option maxRecDepth 100000 in
theorem ot_24 : ri_okT ri_md md_24 = true := by decide +kernel
set_option maxRecDepth 100000 in
theorem mk_25 : ∃ n, ri_Mk md_25.1 n := ri_mkb_ok (n := 1) (ic := 746) (ii := 106) (by decide +kernel)
set_option maxRecDepth 100000 in
theorem ot_25 : ri_okT ri_md md_25 = true := by decide +kernel
set_option maxRecDepth 100000 in
theorem mk_26 : ∃ n, ri_Mk md_26.1 n := ri_mkb_ok (n := 2) (ic := 770) (ii := 106) (by decide +kernel)
set_option maxRecDepth 100000 in
theorem ot_26 : ri_okT ri_md md_26 = true := by decide +kernel
set_option maxRecDepth 100000 in
theorem mk_27 : ∃ n, ri_Mk md_27.1 n := ri_mkb_ok (n := 1) (ic := 782) (ii := 106) (by decide +kernel)
set_option maxRecDepth 100000 in
theorem ot_27 : ri_okT ri_md md_27 = true := by decide +kernel
set_option maxRecDepth 100000 in
theorem mk_28 : ∃ n, ri_Mk md_28.1 n := ri_mkb_ok (n := 1) (ic := 907) (ii := 106) (by decide +kernel)
set_option maxRecDepth 100000 in
theorem ot_28 : ri_okT ri_md md_28 = true := by decide +kernel
set_option maxRecDepth 100000 in
theorem mk_29 : ∃ n, ri_Mk md_29.1 n := ri_mkb_ok (n := 1) (ic := 686) (ii := 106) (by decide +kernel)
set_option maxRecDepth 100000 in
theorem ot_29 : ri_okT ri_md md_29 = true := by decide +kernel
set_option maxRecDepth 100000 in
theorem mk_30 : ∃ n, ri_Mk md_30.1 n := ri_mkb_ok (n := 2) (ic := 690) (ii := 106) (by decide +kernel)
set_option maxRecDepth 100000 in
theorem ot_30 : ri_okT ri_md md_30 = true := by decide +kernel
set_option maxRecDepth 100000 in
theorem mk_31 : ∃ n, ri_Mk md_31.1 n := ri_mkb_ok (n := 3) (ic := 713) (ii := 106) (by decide +kernel)
set_option maxRecDepth 100000 in
theorem ot_31 : ri_okT ri_md md_31 = true := by decide +kernel
set_option maxRecDepth 100000 in
theorem mk_32 : ∃ n, ri_Mk md_32.1 n := ri_mkb_ok (n := 2) (ic := 716) (ii := 106) (by decide +kernel)
set_option maxRecDepth 100000 in
theorem ot_32 : ri_okT ri_md md_32 = true := by decide +kernel
set_option maxRecDepth 100000 in
theorem mk_33 : ∃ n, ri_Mk md_33.1 n := ri_mkb_ok (n := 2) (ic := 837) (ii := 106) (by decide +kernel)
set_option maxRecDepth 100000 in
theorem ot_33 : ri_okT ri_md md_33 = true := by decide +kernel
set_option maxRecDepth 100000 in
theorem mk_34 : ∃ n, ri_Mk md_34.1 n := ri_mkb_ok (n := 2) (ic := 841) (ii := 106) (by decide +kernel)
set_option maxRecDepth 100000 in
theorem ot_34 : ri_okT ri_md md_34 = true := by decide +kernel
set_option maxRecDepth 100000 in
theorem mk_35 : ∃ n, ri_Mk md_35.1 n := ri_mkb_ok (n := 1) (ic := 844) (ii := 106) (by decide +kernel)
set_option maxRecDepth 100000 in
theorem ot_35 : ri_okT ri_md md_35 = true := by decide +kernel
set_option maxRecDepth 100000 in
theorem mk_36 : ∃ n, ri_Mk md_36.1 n := ri_mkb_ok (n := 2) (ic := 938) (ii := 106) (by decide +kernel)
set_option maxRecDepth 100000 in
theorem ot_36 : ri_okT ri_md md_36 = true := by decide +kernel
set_option maxRecDepth 100000 in
theorem mk_37 : ∃ n, ri_Mk md_37.1 n := ri_mkb_ok (n := 2) (ic := 942) (ii := 106) (by decide +kernel)
set_option maxRecDepth 100000 in
theorem ot_37 : ri_okT ri_md md_37 = true := by decide +kernel
set_option maxRecDepth 100000 in
theorem mk_38 : ∃ n, ri_Mk md_38.1 n := ri_mkb_ok (n := 2) (ic := 1005) (ii := 106) (by decide +kernel)
set_option maxRecDepth 100000 in
theorem ot_38 : ri_okT ri_md md_38 = true := by decide +kernel
set_option maxRecDepth 100000 in
theorem mk_39 : ∃ n, ri_Mk md_39.1 n := ri_mkb_ok (n := 1) (ic := 794) (ii := 106) (by decide +kernel)
set_option maxRecDepth 100000 in
theorem ot_39 : ri_okT ri_md md_39 = true := by decide +kernel
set_option maxRecDepth 100000 in
theorem mk_40 : ∃ n, ri_Mk md_40.1 n := ri_mkb_ok (n := 1) (ic := 1033) (ii := 106) (by decide +kernel)
set_option maxRecDepth 100000 in
theorem ot_40 : ri_okT ri_md md_40 = true := by decide +kernel
set_option maxRecDepth 100000 in
theorem mk_41 : ∃ n, ri_Mk md_41.1 n := ri_mkb_ok (n := 1) (ic := 887) (ii := 106) (by decide +kernel)
set_option maxRecDepth 100000 in
theorem ot_41 : ri_okT ri_md md_41 = true := by decide +kernel
set_option maxRecDepth 100000 in
theorem mk_42 : ∃ n, ri_Mk md_42.1 n := ri_mkb_ok (n := 1) (ic := 237) (ii := 105) (by decide +kernel)
set_option maxRecDepth 100000 in
theorem ot_42 : ri_okT ri_md md_42 = true := by decide +kernel
set_option maxRecDepth 100000 in
theorem mk_43 : ∃ n, ri_Mk md_43.1 n := ri_mkb_ok (n := 0) (ic := 664) (ii := 105) (by decide +kernel)
set_option maxRecDepth 100000 in
theorem ot_43 : ri_okT ri_md md_43 = true := by decide +kernel
end
section
set_option maxRecDepth 100000 in
theorem mk_44 : ∃ n, ri_Mk md_44.1 n := ri_mkb_ok (n := 1) (ic := 725) (ii := 105) (by decide +kernel)
set_option maxRecDepth 100000 in
theorem ot_44 : ri_okT ri_md md_44 = true := by decide +kernel
set_option maxRecDepth 100000 in
theorem mk_45 : ∃ n, ri_Mk md_45.1 n := ri_mkb_ok (n := 1) (ic := 733) (ii := 105) (by decide +kernel)
set_option maxRecDepth 100000 in
theorem ot_45 : ri_okT ri_md md_45 = true := by decide +kernel
set_option maxRecDepth 100000 in
theorem mk_46 : ∃ n, ri_Mk md_46.1 n := ri_mkb_ok (n := 1) (ic := 675) (ii := 105) (by decide +kernel)
set_option maxRecDepth 100000 in
theorem ot_46 : ri_okT ri_md md_46 = true := by decide +kernel
set_option maxRecDepth 100000 in
theorem mk_47 : ∃ n, ri_Mk md_47.1 n := ri_mkb_ok (n := 1) (ic := 695) (ii := 105) (by decide +kernel)
set_option maxRecDepth 100000 in
theorem ot_47 : ri_okT ri_md md_47 = true := by decide +kernel
set_option maxRecDepth 100000 in
theorem mk_48 : ∃ n, ri_Mk md_48.1 n := ri_mkb_ok (n := 1) (ic := 705) (ii := 105) (by decide +kernel)
set_option maxRecDepth 100000 in
theorem ot_48 : ri_okT ri_md md_48 = true := by decide +kernel
set_option maxRecDepth 100000 in
theorem mk_49 : ∃ n, ri_Mk md_49.1 n := ri_mkb_ok (n := 1) (ic := 721) (ii := 105) (by decide +kernel)
set_option maxRecDepth 100000 in
theorem ot_49 : ri_okT ri_md md_49 = true := by decide +kernel
set_option maxRecDepth 100000 in
theorem mk_50 : ∃ n, ri_Mk md_50.1 n := ri_mkb_ok (n := 0) (ic := 380) (ii := 109) (by decide +kernel)
set_option maxRecDepth 100000 in
theorem ot_50 : ri_okT ri_md md_50 = true := by decide +kernel
set_option maxRecDepth 100000 in
theorem mk_51 : ∃ n, ri_Mk md_51.1 n := ri_mkb_ok (n := 1) (ic := 750) (ii := 109) (by decide +kernel)
set_option maxRecDepth 100000 in
theorem ot_51 : ri_okT ri_md md_51 = true := by decide +kernel
set_option maxRecDepth 100000 in
theorem mk_52 : ∃ n, ri_Mk md_52.1 n := ri_mkb_ok (n := 1) (ic := 815) (ii := 109) (by decide +kernel)
set_option maxRecDepth 100000 in
theorem ot_52 : ri_okT ri_md md_52 = true := by decide +kernel
set_option maxRecDepth 100000 in
theorem mk_53 : ∃ n, ri_Mk md_53.1 n := ri_mkb_ok (n := 1) (ic := 786) (ii := 109) (by decide +kernel)
set_option maxRecDepth 100000 in
theorem ot_53 : ri_okT ri_md md_53 = true := by decide +kernel
set_option maxRecDepth 100000 in
theorem mk_54 : ∃ n, ri_Mk md_54.1 n := ri_mkb_ok (n := 0) (ic := 865) (ii := 109) (by decide +kernel)
set_option maxRecDepth 100000 in
theorem ot_54 : ri_okT ri_md md_54 = true := by decide +kernel
set_option maxRecDepth 100000 in
theorem mk_55 : ∃ n, ri_Mk md_55.1 n := ri_mkb_ok (n := 1) (ic := 798) (ii := 109) (by decide +kernel)
set_option maxRecDepth 100000 in
theorem ot_55 : ri_okT ri_md md_55 = true := by decide +kernel
set_option maxRecDepth 100000 in
theorem mk_56 : ∃ n, ri_Mk md_56.1 n := ri_mkb_ok (n := 2) (ic := 989) (ii := 109) (by decide +kernel)
set_option maxRecDepth 100000 in
theorem ot_56 : ri_okT ri_md md_56 = true := by decide +kernel
set_option maxRecDepth 100000 in
theorem mk_57 : ∃ n, ri_Mk md_57.1 n := ri_mkb_ok (n := 2) (ic := 806) (ii := 109) (by decide +kernel)
set_option maxRecDepth 100000 in
theorem ot_57 : ri_okT ri_md md_57 = true := by decide +kernel
set_option maxRecDepth 100000 in
theorem mk_58 : ∃ n, ri_Mk md_58.1 n := ri_mkb_ok (n := 2) (ic := 821) (ii := 109) (by decide +kernel)
set_option maxRecDepth 100000 in
theorem ot_58 : ri_okT ri_md md_58 = true := by decide +kernel
set_option maxRecDepth 100000 in
theorem mk_59 : ∃ n, ri_Mk md_59.1 n := ri_mkb_ok (n := 1) (ic := 829) (ii := 109) (by decide +kernel)
set_option maxRecDepth 100000 in
theorem ot_59 : ri_okT ri_md md_59 = true := by decide +kernel
set_option maxRecDepth 100000 in
theorem mk_60 : ∃ n, ri_Mk md_60.1 n := ri_mkb_ok (n := 2) (ic := 833) (ii := 109) (by decide +kernel)
set_option maxRecDepth 100000 in
theorem ot_60 : ri_okT ri_md md_60 = true := by decide +kernel
set_option maxRecDepth 100000 in
theorem mk_61 : ∃ n, ri_Mk md_61.1 n := ri_mkb_ok (n := 3) (ic := 852) (ii := 109) (by decide +kernel)
set_option maxRecDepth 100000 in
theorem ot_61 : ri_okT ri_md md_61 = true := by decide +kernel
set_option maxRecDepth 100000 in
theorem mk_62 : ∃ n, ri_Mk md_62.1 n := ri_mkb_ok (n := 2) (ic := 857) (ii := 109) (by decide +kernel)
set_option maxRecDepth 100000 in
theorem ot_62 : ri_okT ri_md md_62 = true := by decide +kernel
set_option maxRecDepth 100000 in
theorem mk_63 : ∃ n, ri_Mk md_63.1 n := ri_mkb_ok (n := 2) (ic := 870) (ii := 109) (by decide +kernel)
set_option maxRecDepth 100000 in
theorem ot_63 : ri_okT ri_md md_63 = true := by decide +kernel
set_option maxRecDepth 100000 in
theorem mk_64 : ∃ n, ri_Mk md_64.1 n := ri_mkb_ok (n := 1) (ic := 874) (ii := 109) (by decide +kernel)
set_option maxRecDepth 100000 in
theorem ot_64 : ri_okT ri_md md_64 = true := by decide +kernel
set_option maxRecDepth 100000 in
theorem mk_65 : ∃ n, ri_Mk md_65.1 n := ri_mkb_ok (n := 1) (ic := 878) (ii := 109) (by decide +kernel)
set_option maxRecDepth 100000 in
theorem ot_65 : ri_okT ri_md md_65 = true := by decide +kernel
set_option maxRecDepth 100000 in
theorem mk_66 : ∃ n, ri_Mk md_66.1 n := ri_mkb_ok (n := 2) (ic := 883) (ii := 109) (by decide +kernel)
set_option maxRecDepth 100000 in
theorem ot_66 : ri_okT ri_md md_66 = true := by decide +kernel
set_option maxRecDepth 100000 in
theorem mk_67 : ∃ n, ri_Mk md_67.1 n := ri_mkb_ok (n := 1) (ic := 891) (ii := 109) (by decide +kernel)
set_option maxRecDepth 100000 in
theorem ot_67 : ri_okT ri_md md_67 = true := by decide +kernel
set_option maxRecDepth 100000 in
theorem mk_68 : ∃ n, ri_Mk md_68.1 n := ri_mkb_ok (n := 0) (ic := 457) (ii := 110) (by decide +kernel)
set_option maxRecDepth 100000 in
theorem ot_68 : ri_okT ri_md md_68 = true := by decide +kernel
set_option maxRecDepth 100000 in
theorem mk_69 : ∃ n, ri_Mk md_69.1 n := ri_mkb_ok (n := 0) (ic := 758) (ii := 110) (by decide +kernel)
set_option maxRecDepth 100000 in
theorem ot_69 : ri_okT ri_md md_69 = true := by decide +kernel
set_option maxRecDepth 100000 in
theorem mk_70 : ∃ n, ri_Mk md_70.1 n := ri_mkb_ok (n := 1) (ic := 811) (ii := 110) (by decide +kernel)
set_option maxRecDepth 100000 in
theorem ot_70 : ri_okT ri_md md_70 = true := by decide +kernel
set_option maxRecDepth 100000 in
theorem mk_71 : ∃ n, ri_Mk md_71.1 n := ri_mkb_ok (n := 1) (ic := 899) (ii := 110) (by decide +kernel)
set_option maxRecDepth 100000 in
theorem ot_71 : ri_okT ri_md md_71 = true := by decide +kernel
set_option maxRecDepth 100000 in
theorem mk_72 : ∃ n, ri_Mk md_72.1 n := ri_mkb_ok (n := 1) (ic := 135) (ii := 100) (by decide +kernel)
set_option maxRecDepth 100000 in
theorem ot_72 : ri_okT ri_md md_72 = true := by decide +kernel
set_option maxRecDepth 100000 in
theorem mk_73 : ∃ n, ri_Mk md_73.1 n := ri_mkb_ok (n := 2) (ic := 642) (ii := 100) (by decide +kernel)
set_option maxRecDepth 100000 in
theorem ot_73 : ri_okT ri_md md_73 = true := by decide +kernel
set_option maxRecDepth 100000 in
theorem mk_74 : ∃ n, ri_Mk md_74.1 n := ri_mkb_ok (n := 0) (ic := 649) (ii := 100) (by decide +kernel)
set_option maxRecDepth 100000 in
theorem ot_74 : ri_okT ri_md md_74 = true := by decide +kernel
set_option maxRecDepth 100000 in
theorem mk_75 : ∃ n, ri_Mk md_75.1 n := ri_mkb_ok (n := 0) (ic := 653) (ii := 100) (by decide +kernel)
set_option maxRecDepth 100000 in
theorem ot_75 : ri_okT ri_md md_75 = true := by decide +kernel
set_option maxRecDepth 100000 in
theorem mk_76 : ∃ n, ri_Mk md_76.1 n := ri_mkb_ok (n := 1) (ic := 660) (ii := 100) (by decide +kernel)
set_option maxRecDepth 100000 in
theorem ot_76 : ri_okT ri_md md_76 = true := by decide +kernel
set_option maxRecDepth 100000 in
theorem mk_77 : ∃ n, ri_Mk md_77.1 n := ri_mkb_ok (n := 1) (ic := 656) (ii := 100) (by decide +kernel)
set_option maxRecDepth 100000 in
theorem ot_77 : ri_okT ri_md md_77 = true := by decide +kernel
end
section
set_option maxRecDepth 100000 in
theorem mk_78 : ∃ n, ri_Mk md_78.1 n := ri_mkb_ok (n := 1) (ic := 679) (ii := 100) (by decide +kernel)
set_option maxRecDepth 100000 in
theorem ot_78 : ri_okT ri_md md_78 = true := by decide +kernel
set_option maxRecDepth 100000 in
theorem mk_79 : ∃ n, ri_Mk md_79.1 n := ri_mkb_ok (n := 1) (ic := 1077) (ii := 100) (by decide +kernel)
set_option maxRecDepth 100000 in
theorem ot_79 : ri_okT ri_md md_79 = true := by decide +kernel
set_option maxRecDepth 100000 in
theorem mk_80 : ∃ n, ri_Mk md_80.1 n := ri_mkb_ok (n := 1) (ic := 742) (ii := 100) (by decide +kernel)
set_option maxRecDepth 100000 in
theorem ot_80 : ri_okT ri_md md_80 = true := by decide +kernel
set_option maxRecDepth 100000 in
theorem mk_81 : ∃ n, ri_Mk md_81.1 n := ri_mkb_ok (n := 1) (ic := 1084) (ii := 100) (by decide +kernel)
set_option maxRecDepth 100000 in
theorem ot_81 : ri_okT ri_md md_81 = true := by decide +kernel
set_option maxRecDepth 100000 in
theorem mk_82 : ∃ n, ri_Mk md_82.1 n := ri_mkb_ok (n := 1) (ic := 738) (ii := 100) (by decide +kernel)
set_option maxRecDepth 100000 in
theorem ot_82 : ri_okT ri_md md_82 = true := by decide +kernel
set_option maxRecDepth 100000 in
theorem mk_83 : ∃ n, ri_Mk md_83.1 n := ri_mkb_ok (n := 2) (ic := 709) (ii := 100) (by decide +kernel)
set_option maxRecDepth 100000 in
theorem ot_83 : ri_okT ri_md md_83 = true := by decide +kernel
set_option maxRecDepth 100000 in
theorem mk_84 : ∃ n, ri_Mk md_84.1 n := ri_mkb_ok (n := 2) (ic := 699) (ii := 100) (by decide +kernel)
set_option maxRecDepth 100000 in
theorem ot_84 : ri_okT ri_md md_84 = true := by decide +kernel
set_option maxRecDepth 100000 in
theorem mk_85 : ∃ n, ri_Mk md_85.1 n := ri_mkb_ok (n := 0) (ic := 343) (ii := 108) (by decide +kernel)
set_option maxRecDepth 100000 in
theorem ot_85 : ri_okT ri_md md_85 = true := by decide +kernel
set_option maxRecDepth 100000 in
theorem mk_86 : ∃ n, ri_Mk md_86.1 n := ri_mkb_ok (n := 0) (ic := 754) (ii := 108) (by decide +kernel)
set_option maxRecDepth 100000 in
theorem ot_86 : ri_okT ri_md md_86 = true := by decide +kernel
set_option maxRecDepth 100000 in
theorem mk_87 : ∃ n, ri_Mk md_87.1 n := ri_mkb_ok (n := 1) (ic := 1164) (ii := 108) (by decide +kernel)
set_option maxRecDepth 100000 in
theorem ot_87 : ri_okT ri_md md_87 = true := by decide +kernel
set_option maxRecDepth 100000 in
theorem mk_88 : ∃ n, ri_Mk md_88.1 n := ri_mkb_ok (n := 3) (ic := 1149) (ii := 108) (by decide +kernel)
set_option maxRecDepth 100000 in
theorem ot_88 : ri_okT ri_md md_88 = true := by decide +kernel
set_option maxRecDepth 100000 in
theorem mk_89 : ∃ n, ri_Mk md_89.1 n := ri_mkb_ok (n := 2) (ic := 1173) (ii := 108) (by decide +kernel)
set_option maxRecDepth 100000 in
theorem ot_89 : ri_okT ri_md md_89 = true := by decide +kernel
set_option maxRecDepth 100000 in
theorem mk_90 : ∃ n, ri_Mk md_90.1 n := ri_mkb_ok (n := 3) (ic := 1177) (ii := 108) (by decide +kernel)
set_option maxRecDepth 100000 in
theorem ot_90 : ri_okT ri_md md_90 = true := by decide +kernel
set_option maxRecDepth 100000 in
theorem mk_91 : ∃ n, ri_Mk md_91.1 n := ri_mkb_ok (n := 3) (ic := 1182) (ii := 108) (by decide +kernel)
set_option maxRecDepth 100000 in
theorem ot_91 : ri_okT ri_md md_91 = true := by decide +kernel
set_option maxRecDepth 100000 in
theorem mk_92 : ∃ n, ri_Mk md_92.1 n := ri_mkb_ok (n := 3) (ic := 1186) (ii := 108) (by decide +kernel)
set_option maxRecDepth 100000 in
theorem ot_92 : ri_okT ri_md md_92 = true := by decide +kernel
set_option maxRecDepth 100000 in
theorem mk_93 : ∃ n, ri_Mk md_93.1 n := ri_mkb_ok (n := 4) (ic := 1189) (ii := 108) (by decide +kernel)
set_option maxRecDepth 100000 in
theorem ot_93 : ri_okT ri_md md_93 = true := by decide +kernel
set_option maxRecDepth 100000 in
theorem mk_94 : ∃ n, ri_Mk md_94.1 n := ri_mkb_ok (n := 1) (ic := 337) (ii := 107) (by decide +kernel)
set_option maxRecDepth 100000 in
theorem ot_94 : ri_okT ri_md md_94 = true := by decide +kernel
set_option maxRecDepth 100000 in
theorem mk_95 : ∃ n, ri_Mk md_95.1 n := ri_mkb_ok (n := 1) (ic := 1132) (ii := 107) (by decide +kernel)
set_option maxRecDepth 100000 in
theorem ot_95 : ri_okT ri_md md_95 = true := by decide +kernel
set_option maxRecDepth 100000 in
theorem mk_96 : ∃ n, ri_Mk md_96.1 n := ri_mkb_ok (n := 2) (ic := 1137) (ii := 107) (by decide +kernel)
set_option maxRecDepth 100000 in
theorem ot_96 : ri_okT ri_md md_96 = true := by decide +kernel
set_option maxRecDepth 100000 in
theorem mk_97 : ∃ n, ri_Mk md_97.1 n := ri_mkb_ok (n := 2) (ic := 1141) (ii := 107) (by decide +kernel)
set_option maxRecDepth 100000 in
theorem ot_97 : ri_okT ri_md md_97 = true := by decide +kernel
set_option maxRecDepth 100000 in
theorem mk_98 : ∃ n, ri_Mk md_98.1 n := ri_mkb_ok (n := 2) (ic := 1158) (ii := 107) (by decide +kernel)
set_option maxRecDepth 100000 in
theorem ot_98 : ri_okT ri_md md_98 = true := by decide +kernel
set_option maxRecDepth 100000 in
theorem mk_99 : ∃ n, ri_Mk md_99.1 n := ri_mkb_ok (n := 1) (ic := 1153) (ii := 107) (by decide +kernel)
set_option maxRecDepth 100000 in
theorem ot_99 : ri_okT ri_md md_99 = true := by decide +kernel
set_option maxRecDepth 100000 in
theorem mk_100 : ∃ n, ri_Mk md_100.1 n := ri_mkb_ok (n := 0) (ic := 127) (ii := 99) (by decide +kernel)
set_option maxRecDepth 100000 in
theorem ot_100 : ri_okT ri_md md_100 = true := by decide +kernel
set_option maxRecDepth 100000 in
theorem mk_101 : ∃ n, ri_Mk md_101.1 n := ri_mkb_ok (n := 5) (ic := 622) (ii := 99) (by decide +kernel)
set_option maxRecDepth 100000 in
theorem ot_101 : ri_okT ri_md md_101 = true := by decide +kernel
set_option maxRecDepth 100000 in
theorem mk_102 : ∃ n, ri_Mk md_102.1 n := ri_mkb_ok (n := 1) (ic := 626) (ii := 99) (by decide +kernel)
set_option maxRecDepth 100000 in
theorem ot_102 : ri_okT ri_md md_102 = true := by decide +kernel
set_option maxRecDepth 100000 in
theorem mk_103 : ∃ n, ri_Mk md_103.1 n := ri_mkb_ok (n := 1) (ic := 630) (ii := 99) (by decide +kernel)
set_option maxRecDepth 100000 in
theorem ot_103 : ri_okT ri_md md_103 = true := by decide +kernel
set_option maxRecDepth 100000 in
theorem mk_104 : ∃ n, ri_Mk md_104.1 n := ri_mkb_ok (n := 0) (ic := 634) (ii := 99) (by decide +kernel)
set_option maxRecDepth 100000 in
theorem ot_104 : ri_okT ri_md md_104 = true := by decide +kernel
set_option maxRecDepth 100000 in
theorem mk_105 : ∃ n, ri_Mk md_105.1 n := ri_mkb_ok (n := 1) (ic := 638) (ii := 99) (by decide +kernel)
set_option maxRecDepth 100000 in
theorem ot_105 : ri_okT ri_md md_105 = true := by decide +kernel
set_option maxRecDepth 100000 in
theorem mk_106 : ∃ n, ri_Mk md_106.1 n := ri_mkb_ok (n := 0) (ic := 762) (ii := 99) (by decide +kernel)
set_option maxRecDepth 100000 in
theorem ot_106 : ri_okT ri_md md_106 = true := by decide +kernel
set_option maxRecDepth 100000 in
theorem mk_107 : ∃ n, ri_Mk md_107.1 n := ri_mkb_ok (n := 2) (ic := 1212) (ii := 99) (by decide +kernel)
set_option maxRecDepth 100000 in
theorem ot_107 : ri_okT ri_md md_107 = true := by decide +kernel
set_option maxRecDepth 100000 in
theorem mk_108 : ∃ n, ri_Mk md_108.1 n := ri_mkb_ok (n := 2) (ic := 766) (ii := 99) (by decide +kernel)
set_option maxRecDepth 100000 in
theorem ot_108 : ri_okT ri_md md_108 = true := by decide +kernel
set_option maxRecDepth 100000 in
theorem mk_109 : ∃ n, ri_Mk md_109.1 n := ri_mkb_ok (n := 2) (ic := 774) (ii := 99) (by decide +kernel)
set_option maxRecDepth 100000 in
theorem ot_109 : ri_okT ri_md md_109 = true := by decide +kernel
set_option maxRecDepth 100000 in
theorem mk_110 : ∃ n, ri_Mk md_110.1 n := ri_mkb_ok (n := 1) (ic := 778) (ii := 99) (by decide +kernel)
set_option maxRecDepth 100000 in
theorem ot_110 : ri_okT ri_md md_110 = true := by decide +kernel
set_option maxRecDepth 100000 in
theorem mk_111 : ∃ n, ri_Mk md_111.1 n := ri_mkb_ok (n := 1) (ic := 790) (ii := 99) (by decide +kernel)
set_option maxRecDepth 100000 in
theorem ot_111 : ri_okT ri_md md_111 = true := by decide +kernel
set_option maxRecDepth 100000 in
theorem mk_112 : ∃ n, ri_Mk md_112.1 n := ri_mkb_ok (n := 2) (ic := 802) (ii := 99) (by decide +kernel)
set_option maxRecDepth 100000 in
theorem ot_112 : ri_okT ri_md md_112 = true := by decide +kernel
set_option maxRecDepth 100000 in
theorem mk_113 : ∃ n, ri_Mk md_113.1 n := ri_mkb_ok (n := 1) (ic := 825) (ii := 99) (by decide +kernel)
set_option maxRecDepth 100000 in
theorem ot_113 : ri_okT ri_md md_113 = true := by decide +kernel
set_option maxRecDepth 100000 in
theorem mk_114 : ∃ n, ri_Mk md_114.1 n := ri_mkb_ok (n := 2) (ic := 848) (ii := 99) (by decide +kernel)
set_option maxRecDepth 100000 in
theorem ot_114 : ri_okT ri_md md_114 = true := by decide +kernel
set_option maxRecDepth 100000 in
theorem mk_115 : ∃ n, ri_Mk md_115.1 n := ri_mkb_ok (n := 1) (ic := 861) (ii := 99) (by decide +kernel)
set_option maxRecDepth 100000 in
theorem ot_115 : ri_okT ri_md md_115 = true := by decide +kernel
set_option maxRecDepth 100000 in
theorem mk_116 : ∃ n, ri_Mk md_116.1 n := ri_mkb_ok (n := 0) (ic := 895) (ii := 99) (by decide +kernel)
set_option maxRecDepth 100000 in
theorem ot_116 : ri_okT ri_md md_116 = true := by decide +kernel
set_option maxRecDepth 100000 in
theorem mk_117 : ∃ n, ri_Mk md_117.1 n := ri_mkb_ok (n := 2) (ic := 903) (ii := 99) (by decide +kernel)
set_option maxRecDepth 100000 in
theorem ot_117 : ri_okT ri_md md_117 = true := by decide +kernel
set_option maxRecDepth 100000 in
theorem mk_118 : ∃ n, ri_Mk md_118.1 n := ri_mkb_ok (n := 2) (ic := 912) (ii := 99) (by decide +kernel)
set_option maxRecDepth 100000 in
theorem ot_118 : ri_okT ri_md md_118 = true := by decide +kernel
set_option maxRecDepth 100000 in
theorem mk_119 : ∃ n, ri_Mk md_119.1 n := ri_mkb_ok (n := 1) (ic := 917) (ii := 99) (by decide +kernel)
set_option maxRecDepth 100000 in
theorem ot_119 : ri_okT ri_md md_119 = true := by decide +kernel
set_option maxRecDepth 100000 in
theorem mk_120 : ∃ n, ri_Mk md_120.1 n := ri_mkb_ok (n := 1) (ic := 921) (ii := 99) (by decide +kernel)
set_option maxRecDepth 100000 in
theorem ot_120 : ri_okT ri_md md_120 = true := by decide +kernel
set_option maxRecDepth 100000 in
theorem mk_121 : ∃ n, ri_Mk md_121.1 n := ri_mkb_ok (n := 0) (ic := 925) (ii := 99) (by decide +kernel)
set_option maxRecDepth 100000 in
theorem ot_121 : ri_okT ri_md md_121 = true := by decide +kernel
set_option maxRecDepth 100000 in
theorem mk_122 : ∃ n, ri_Mk md_122.1 n := ri_mkb_ok (n := 0) (ic := 967) (ii := 99) (by decide +kernel)
set_option maxRecDepth 100000 in
theorem ot_122 : ri_okT ri_md md_122 = true := by decide +kernel
set_option maxRecDepth 100000 in
theorem mk_123 : ∃ n, ri_Mk md_123.1 n := ri_mkb_ok (n := 0) (ic := 971) (ii := 99) (by decide +kernel)
set_option maxRecDepth 100000 in
theorem ot_123 : ri_okT ri_md md_123 = true := by decide +kernel
set_option maxRecDepth 100000 in
theorem mk_124 : ∃ n, ri_Mk md_124.1 n := ri_mkb_ok (n := 0) (ic := 975) (ii := 99) (by decide +kernel)
set_option maxRecDepth 100000 in
theorem ot_124 : ri_okT ri_md md_124 = true := by decide +kernel
set_option maxRecDepth 100000 in
theorem mk_125 : ∃ n, ri_Mk md_125.1 n := ri_mkb_ok (n := 1) (ic := 979) (ii := 99) (by decide +kernel)
set_option maxRecDepth 100000 in
theorem ot_125 : ri_okT ri_md md_125 = true := by decide +kernel
end
section
set_option maxRecDepth 100000 in
theorem mk_126 : ∃ n, ri_Mk md_126.1 n := ri_mkb_ok (n := 2) (ic := 985) (ii := 99) (by decide +kernel)
set_option maxRecDepth 100000 in
theorem ot_126 : ri_okT ri_md md_126 = true := by decide +kernel
set_option maxRecDepth 100000 in
theorem mk_127 : ∃ n, ri_Mk md_127.1 n := ri_mkb_ok (n := 0) (ic := 993) (ii := 99) (by decide +kernel)
set_option maxRecDepth 100000 in
theorem ot_127 : ri_okT ri_md md_127 = true := by decide +kernel
set_option maxRecDepth 100000 in
theorem mk_128 : ∃ n, ri_Mk md_128.1 n := ri_mkb_ok (n := 1) (ic := 997) (ii := 99) (by decide +kernel)
set_option maxRecDepth 100000 in
theorem ot_128 : ri_okT ri_md md_128 = true := by decide +kernel
set_option maxRecDepth 100000 in
theorem mk_129 : ∃ n, ri_Mk md_129.1 n := ri_mkb_ok (n := 1) (ic := 1009) (ii := 99) (by decide +kernel)
set_option maxRecDepth 100000 in
theorem ot_129 : ri_okT ri_md md_129 = true := by decide +kernel
set_option maxRecDepth 100000 in
theorem mk_130 : ∃ n, ri_Mk md_130.1 n := ri_mkb_ok (n := 2) (ic := 1001) (ii := 99) (by decide +kernel)
set_option maxRecDepth 100000 in
theorem ot_130 : ri_okT ri_md md_130 = true := by decide +kernel
set_option maxRecDepth 100000 in
theorem mk_131 : ∃ n, ri_Mk md_131.1 n := ri_mkb_ok (n := 1) (ic := 1013) (ii := 99) (by decide +kernel)
set_option maxRecDepth 100000 in
theorem ot_131 : ri_okT ri_md md_131 = true := by decide +kernel
set_option maxRecDepth 100000 in
theorem mk_132 : ∃ n, ri_Mk md_132.1 n := ri_mkb_ok (n := 1) (ic := 1020) (ii := 99) (by decide +kernel)
set_option maxRecDepth 100000 in
theorem ot_132 : ri_okT ri_md md_132 = true := by decide +kernel
set_option maxRecDepth 100000 in
theorem mk_133 : ∃ n, ri_Mk md_133.1 n := ri_mkb_ok (n := 1) (ic := 1025) (ii := 99) (by decide +kernel)
set_option maxRecDepth 100000 in
theorem ot_133 : ri_okT ri_md md_133 = true := by decide +kernel
set_option maxRecDepth 100000 in
theorem mk_134 : ∃ n, ri_Mk md_134.1 n := ri_mkb_ok (n := 0) (ic := 1029) (ii := 99) (by decide +kernel)
set_option maxRecDepth 100000 in
theorem ot_134 : ri_okT ri_md md_134 = true := by decide +kernel
set_option maxRecDepth 100000 in
theorem mk_135 : ∃ n, ri_Mk md_135.1 n := ri_mkb_ok (n := 2) (ic := 1038) (ii := 99) (by decide +kernel)
set_option maxRecDepth 100000 in
theorem ot_135 : ri_okT ri_md md_135 = true := by decide +kernel
set_option maxRecDepth 100000 in
theorem mk_136 : ∃ n, ri_Mk md_136.1 n := ri_mkb_ok (n := 3) (ic := 1060) (ii := 99) (by decide +kernel)
set_option maxRecDepth 100000 in
theorem ot_136 : ri_okT ri_md md_136 = true := by decide +kernel
set_option maxRecDepth 100000 in
theorem mk_137 : ∃ n, ri_Mk md_137.1 n := ri_mkb_ok (n := 1) (ic := 1065) (ii := 99) (by decide +kernel)
set_option maxRecDepth 100000 in
theorem ot_137 : ri_okT ri_md md_137 = true := by decide +kernel
set_option maxRecDepth 100000 in
theorem mk_138 : ∃ n, ri_Mk md_138.1 n := ri_mkb_ok (n := 1) (ic := 1124) (ii := 99) (by decide +kernel)
set_option maxRecDepth 100000 in
theorem ot_138 : ri_okT ri_md md_138 = true := by decide +kernel
set_option maxRecDepth 100000 in
theorem mk_139 : ∃ n, ri_Mk md_139.1 n := ri_mkb_ok (n := 0) (ic := 1128) (ii := 99) (by decide +kernel)
set_option maxRecDepth 100000 in
theorem ot_139 : ri_okT ri_md md_139 = true := by decide +kernel
set_option maxRecDepth 100000 in
theorem mk_140 : ∃ n, ri_Mk md_140.1 n := ri_mkb_ok (n := 1) (ic := 1169) (ii := 99) (by decide +kernel)
set_option maxRecDepth 100000 in
theorem ot_140 : ri_okT ri_md md_140 = true := by decide +kernel
set_option maxRecDepth 100000 in
theorem mk_141 : ∃ n, ri_Mk md_141.1 n := ri_mkb_ok (n := 1) (ic := 1196) (ii := 99) (by decide +kernel)
set_option maxRecDepth 100000 in
theorem ot_141 : ri_okT ri_md md_141 = true := by decide +kernel
set_option maxRecDepth 100000 in
theorem mk_142 : ∃ n, ri_Mk md_142.1 n := ri_mkb_ok (n := 1) (ic := 1200) (ii := 99) (by decide +kernel)
set_option maxRecDepth 100000 in
theorem ot_142 : ri_okT ri_md md_142 = true := by decide +kernel
set_option maxRecDepth 100000 in
theorem mk_143 : ∃ n, ri_Mk md_143.1 n := ri_mkb_ok (n := 1) (ic := 1204) (ii := 99) (by decide +kernel)
set_option maxRecDepth 100000 in
theorem ot_143 : ri_okT ri_md md_143 = true := by decide +kernel
set_option maxRecDepth 100000 in
theorem mk_144 : ∃ n, ri_Mk md_144.1 n := ri_mkb_ok (n := 1) (ic := 1565) (ii := 115) (by decide +kernel)
set_option maxRecDepth 100000 in
theorem ot_144 : ri_okT ri_md md_144 = true := by decide +kernel
set_option maxRecDepth 100000 in
theorem mk_145 : ∃ n, ri_Mk md_145.1 n := ri_mkb_ok (n := 5) (ic := 1281) (ii := 115) (by decide +kernel)
set_option maxRecDepth 100000 in
theorem ot_145 : ri_okT ri_md md_145 = true := by decide +kernel
set_option maxRecDepth 100000 in
theorem mk_146 : ∃ n, ri_Mk md_146.1 n := ri_mkb_ok (n := 1) (ic := 1286) (ii := 115) (by decide +kernel)
set_option maxRecDepth 100000 in
theorem ot_146 : ri_okT ri_md md_146 = true := by decide +kernel
set_option maxRecDepth 100000 in
theorem mk_147 : ∃ n, ri_Mk md_147.1 n := ri_mkb_ok (n := 1) (ic := 1290) (ii := 115) (by decide +kernel)
set_option maxRecDepth 100000 in
theorem ot_147 : ri_okT ri_md md_147 = true := by decide +kernel
set_option maxRecDepth 100000 in
theorem mk_148 : ∃ n, ri_Mk md_148.1 n := ri_mkb_ok (n := 1) (ic := 1477) (ii := 115) (by decide +kernel)
set_option maxRecDepth 100000 in
theorem ot_148 : ri_okT ri_md md_148 = true := by decide +kernel
set_option maxRecDepth 100000 in
theorem mk_149 : ∃ n, ri_Mk md_149.1 n := ri_mkb_ok (n := 3) (ic := 1521) (ii := 115) (by decide +kernel)
set_option maxRecDepth 100000 in
theorem ot_149 : ri_okT ri_md md_149 = true := by decide +kernel
set_option maxRecDepth 100000 in
theorem mk_150 : ∃ n, ri_Mk md_150.1 n := ri_mkb_ok (n := 2) (ic := 1506) (ii := 115) (by decide +kernel)
set_option maxRecDepth 100000 in
theorem ot_150 : ri_okT ri_md md_150 = true := by decide +kernel
set_option maxRecDepth 100000 in
theorem mk_151 : ∃ n, ri_Mk md_151.1 n := ri_mkb_ok (n := 2) (ic := 1656) (ii := 115) (by decide +kernel)
set_option maxRecDepth 100000 in
theorem ot_151 : ri_okT ri_md md_151 = true := by decide +kernel
set_option maxRecDepth 100000 in
theorem mk_152 : ∃ n, ri_Mk md_152.1 n := ri_mkb_ok (n := 1) (ic := 1732) (ii := 115) (by decide +kernel)
set_option maxRecDepth 100000 in
theorem ot_152 : ri_okT ri_md md_152 = true := by decide +kernel
set_option maxRecDepth 100000 in
theorem mk_153 : ∃ n, ri_Mk md_153.1 n := ri_mkb_ok (n := 0) (ic := 1294) (ii := 115) (by decide +kernel)
set_option maxRecDepth 100000 in
theorem ot_153 : ri_okT ri_md md_153 = true := by decide +kernel
set_option maxRecDepth 100000 in
theorem mk_154 : ∃ n, ri_Mk md_154.1 n := ri_mkb_ok (n := 0) (ic := 1323) (ii := 115) (by decide +kernel)
set_option maxRecDepth 100000 in
theorem ot_154 : ri_okT ri_md md_154 = true := by decide +kernel
set_option maxRecDepth 100000 in
theorem mk_155 : ∃ n, ri_Mk md_155.1 n := ri_mkb_ok (n := 0) (ic := 1485) (ii := 115) (by decide +kernel)
set_option maxRecDepth 100000 in
theorem ot_155 : ri_okT ri_md md_155 = true := by decide +kernel
set_option maxRecDepth 100000 in
theorem mk_156 : ∃ n, ri_Mk md_156.1 n := ri_mkb_ok (n := 1) (ic := 1488) (ii := 115) (by decide +kernel)
set_option maxRecDepth 100000 in
theorem ot_156 : ri_okT ri_md md_156 = true := by decide +kernel
set_option maxRecDepth 100000 in
theorem mk_157 : ∃ n, ri_Mk md_157.1 n := ri_mkb_ok (n := 1) (ic := 1491) (ii := 115) (by decide +kernel)
set_option maxRecDepth 100000 in
theorem ot_157 : ri_okT ri_md md_157 = true := by decide +kernel
set_option maxRecDepth 100000 in
theorem mk_158 : ∃ n, ri_Mk md_158.1 n := ri_mkb_ok (n := 0) (ic := 1481) (ii := 115) (by decide +kernel)
set_option maxRecDepth 100000 in
theorem ot_158 : ri_okT ri_md md_158 = true := by decide +kernel
set_option maxRecDepth 100000 in
theorem mk_159 : ∃ n, ri_Mk md_159.1 n := ri_mkb_ok (n := 1) (ic := 1510) (ii := 115) (by decide +kernel)
set_option maxRecDepth 100000 in
theorem ot_159 : ri_okT ri_md md_159 = true := by decide +kernel
set_option maxRecDepth 100000 in
theorem mk_160 : ∃ n, ri_Mk md_160.1 n := ri_mkb_ok (n := 1) (ic := 1499) (ii := 115) (by decide +kernel)
set_option maxRecDepth 100000 in
theorem ot_160 : ri_okT ri_md md_160 = true := by decide +kernel
set_option maxRecDepth 100000 in
theorem mk_161 : ∃ n, ri_Mk md_161.1 n := ri_mkb_ok (n := 1) (ic := 1545) (ii := 115) (by decide +kernel)
set_option maxRecDepth 100000 in
theorem ot_161 : ri_okT ri_md md_161 = true := by decide +kernel
set_option maxRecDepth 100000 in
theorem mk_162 : ∃ n, ri_Mk md_162.1 n := ri_mkb_ok (n := 1) (ic := 1549) (ii := 115) (by decide +kernel)
set_option maxRecDepth 100000 in
theorem ot_162 : ri_okT ri_md md_162 = true := by decide +kernel
set_option maxRecDepth 100000 in
theorem mk_163 : ∃ n, ri_Mk md_163.1 n := ri_mkb_ok (n := 0) (ic := 1529) (ii := 115) (by decide +kernel)
set_option maxRecDepth 100000 in
theorem ot_163 : ri_okT ri_md md_163 = true := by decide +kernel
set_option maxRecDepth 100000 in
theorem mk_164 : ∃ n, ri_Mk md_164.1 n := ri_mkb_ok (n := 2) (ic := 1518) (ii := 115) (by decide +kernel)
set_option maxRecDepth 100000 in
theorem ot_164 : ri_okT ri_md md_164 = true := by decide +kernel
set_option maxRecDepth 100000 in
theorem mk_165 : ∃ n, ri_Mk md_165.1 n := ri_mkb_ok (n := 3) (ic := 1514) (ii := 115) (by decide +kernel)
set_option maxRecDepth 100000 in
theorem ot_165 : ri_okT ri_md md_165 = true := by decide +kernel
set_option maxRecDepth 100000 in
theorem mk_166 : ∃ n, ri_Mk md_166.1 n := ri_mkb_ok (n := 2) (ic := 1533) (ii := 115) (by decide +kernel)
set_option maxRecDepth 100000 in
theorem ot_166 : ri_okT ri_md md_166 = true := by decide +kernel
set_option maxRecDepth 100000 in
theorem mk_167 : ∃ n, ri_Mk md_167.1 n := ri_mkb_ok (n := 1) (ic := 1525) (ii := 115) (by decide +kernel)
set_option maxRecDepth 100000 in
theorem ot_167 : ri_okT ri_md md_167 = true := by decide +kernel
set_option maxRecDepth 100000 in
theorem mk_168 : ∃ n, ri_Mk md_168.1 n := ri_mkb_ok (n := 2) (ic := 1541) (ii := 115) (by decide +kernel)
set_option maxRecDepth 100000 in
theorem ot_168 : ri_okT ri_md md_168 = true := by decide +kernel
set_option maxRecDepth 100000 in
theorem mk_169 : ∃ n, ri_Mk md_169.1 n := ri_mkb_ok (n := 1) (ic := 1503) (ii := 115) (by decide +kernel)
set_option maxRecDepth 100000 in
theorem ot_169 : ri_okT ri_md md_169 = true := by decide +kernel
set_option maxRecDepth 100000 in
theorem mk_170 : ∃ n, ri_Mk md_170.1 n := ri_mkb_ok (n := 0) (ic := 1495) (ii := 115) (by decide +kernel)
set_option maxRecDepth 100000 in
theorem ot_170 : ri_okT ri_md md_170 = true := by decide +kernel
end
section
set_option maxRecDepth 100000 in
theorem mk_171 : ∃ n, ri_Mk md_171.1 n := ri_mkb_ok (n := 0) (ic := 1537) (ii := 115) (by decide +kernel)
set_option maxRecDepth 100000 in
theorem ot_171 : ri_okT ri_md md_171 = true := by decide +kernel
set_option maxRecDepth 100000 in
theorem mk_172 : ∃ n, ri_Mk md_172.1 n := ri_mkb_ok (n := 0) (ic := 1473) (ii := 115) (by decide +kernel)
set_option maxRecDepth 100000 in
theorem ot_172 : ri_okT ri_md md_172 = true := by decide +kernel
set_option maxRecDepth 100000 in
theorem mk_173 : ∃ n, ri_Mk md_173.1 n := ri_mkb_ok (n := 0) (ic := 1553) (ii := 115) (by decide +kernel)
set_option maxRecDepth 100000 in
theorem ot_173 : ri_okT ri_md md_173 = true := by decide +kernel
set_option maxRecDepth 100000 in
theorem mk_174 : ∃ n, ri_Mk md_174.1 n := ri_mkb_ok (n := 1) (ic := 1589) (ii := 115) (by decide +kernel)
set_option maxRecDepth 100000 in
theorem ot_174 : ri_okT ri_md md_174 = true := by decide +kernel
set_option maxRecDepth 100000 in
theorem mk_175 : ∃ n, ri_Mk md_175.1 n := ri_mkb_ok (n := 1) (ic := 1637) (ii := 115) (by decide +kernel)
set_option maxRecDepth 100000 in
theorem ot_175 : ri_okT ri_md md_175 = true := by decide +kernel
set_option maxRecDepth 100000 in
theorem mk_176 : ∃ n, ri_Mk md_176.1 n := ri_mkb_ok (n := 1) (ic := 1561) (ii := 115) (by decide +kernel)
set_option maxRecDepth 100000 in
theorem ot_176 : ri_okT ri_md md_176 = true := by decide +kernel
set_option maxRecDepth 100000 in
theorem mk_177 : ∃ n, ri_Mk md_177.1 n := ri_mkb_ok (n := 1) (ic := 1617) (ii := 115) (by decide +kernel)
set_option maxRecDepth 100000 in
theorem ot_177 : ri_okT ri_md md_177 = true := by decide +kernel
set_option maxRecDepth 100000 in
theorem mk_178 : ∃ n, ri_Mk md_178.1 n := ri_mkb_ok (n := 1) (ic := 1581) (ii := 115) (by decide +kernel)
set_option maxRecDepth 100000 in
theorem ot_178 : ri_okT ri_md md_178 = true := by decide +kernel
set_option maxRecDepth 100000 in
theorem mk_179 : ∃ n, ri_Mk md_179.1 n := ri_mkb_ok (n := 1) (ic := 1704) (ii := 115) (by decide +kernel)
set_option maxRecDepth 100000 in
theorem ot_179 : ri_okT ri_md md_179 = true := by decide +kernel
set_option maxRecDepth 100000 in
theorem mk_180 : ∃ n, ri_Mk md_180.1 n := ri_mkb_ok (n := 1) (ic := 1569) (ii := 115) (by decide +kernel)
set_option maxRecDepth 100000 in
theorem ot_180 : ri_okT ri_md md_180 = true := by decide +kernel
set_option maxRecDepth 100000 in
theorem mk_181 : ∃ n, ri_Mk md_181.1 n := ri_mkb_ok (n := 0) (ic := 1605) (ii := 115) (by decide +kernel)
set_option maxRecDepth 100000 in
theorem ot_181 : ri_okT ri_md md_181 = true := by decide +kernel
set_option maxRecDepth 100000 in
theorem mk_182 : ∃ n, ri_Mk md_182.1 n := ri_mkb_ok (n := 0) (ic := 1609) (ii := 115) (by decide +kernel)
set_option maxRecDepth 100000 in
theorem ot_182 : ri_okT ri_md md_182 = true := by decide +kernel
set_option maxRecDepth 100000 in
theorem mk_183 : ∃ n, ri_Mk md_183.1 n := ri_mkb_ok (n := 1) (ic := 1597) (ii := 115) (by decide +kernel)
set_option maxRecDepth 100000 in
theorem ot_183 : ri_okT ri_md md_183 = true := by decide +kernel
set_option maxRecDepth 100000 in
theorem mk_184 : ∃ n, ri_Mk md_184.1 n := ri_mkb_ok (n := 1) (ic := 1601) (ii := 115) (by decide +kernel)
set_option maxRecDepth 100000 in
theorem ot_184 : ri_okT ri_md md_184 = true := by decide +kernel
set_option maxRecDepth 100000 in
theorem mk_185 : ∃ n, ri_Mk md_185.1 n := ri_mkb_ok (n := 2) (ic := 1557) (ii := 115) (by decide +kernel)
set_option maxRecDepth 100000 in
theorem ot_185 : ri_okT ri_md md_185 = true := by decide +kernel
set_option maxRecDepth 100000 in
theorem mk_186 : ∃ n, ri_Mk md_186.1 n := ri_mkb_ok (n := 2) (ic := 1573) (ii := 115) (by decide +kernel)
set_option maxRecDepth 100000 in
theorem ot_186 : ri_okT ri_md md_186 = true := by decide +kernel
set_option maxRecDepth 100000 in
theorem mk_187 : ∃ n, ri_Mk md_187.1 n := ri_mkb_ok (n := 2) (ic := 1577) (ii := 115) (by decide +kernel)
set_option maxRecDepth 100000 in
theorem ot_187 : ri_okT ri_md md_187 = true := by decide +kernel
set_option maxRecDepth 100000 in
theorem mk_188 : ∃ n, ri_Mk md_188.1 n := ri_mkb_ok (n := 1) (ic := 1585) (ii := 115) (by decide +kernel)
set_option maxRecDepth 100000 in
theorem ot_188 : ri_okT ri_md md_188 = true := by decide +kernel
set_option maxRecDepth 100000 in
theorem mk_189 : ∃ n, ri_Mk md_189.1 n := ri_mkb_ok (n := 1) (ic := 1593) (ii := 115) (by decide +kernel)
set_option maxRecDepth 100000 in
theorem ot_189 : ri_okT ri_md md_189 = true := by decide +kernel
set_option maxRecDepth 100000 in
theorem mk_190 : ∃ n, ri_Mk md_190.1 n := ri_mkb_ok (n := 2) (ic := 1649) (ii := 115) (by decide +kernel)
set_option maxRecDepth 100000 in
theorem ot_190 : ri_okT ri_md md_190 = true := by decide +kernel
set_option maxRecDepth 100000 in
theorem mk_191 : ∃ n, ri_Mk md_191.1 n := ri_mkb_ok (n := 2) (ic := 1653) (ii := 115) (by decide +kernel)
set_option maxRecDepth 100000 in
theorem ot_191 : ri_okT ri_md md_191 = true := by decide +kernel
set_option maxRecDepth 100000 in
theorem mk_192 : ∃ n, ri_Mk md_192.1 n := ri_mkb_ok (n := 2) (ic := 1708) (ii := 115) (by decide +kernel)
set_option maxRecDepth 100000 in
theorem ot_192 : ri_okT ri_md md_192 = true := by decide +kernel
set_option maxRecDepth 100000 in
theorem mk_193 : ∃ n, ri_Mk md_193.1 n := ri_mkb_ok (n := 2) (ic := 1716) (ii := 115) (by decide +kernel)
set_option maxRecDepth 100000 in
theorem ot_193 : ri_okT ri_md md_193 = true := by decide +kernel
set_option maxRecDepth 100000 in
theorem mk_194 : ∃ n, ri_Mk md_194.1 n := ri_mkb_ok (n := 1) (ic := 1621) (ii := 115) (by decide +kernel)
set_option maxRecDepth 100000 in
theorem ot_194 : ri_okT ri_md md_194 = true := by decide +kernel
set_option maxRecDepth 100000 in
theorem mk_195 : ∃ n, ri_Mk md_195.1 n := ri_mkb_ok (n := 2) (ic := 1629) (ii := 115) (by decide +kernel)
set_option maxRecDepth 100000 in
theorem ot_195 : ri_okT ri_md md_195 = true := by decide +kernel
set_option maxRecDepth 100000 in
theorem mk_196 : ∃ n, ri_Mk md_196.1 n := ri_mkb_ok (n := 0) (ic := 1641) (ii := 115) (by decide +kernel)
set_option maxRecDepth 100000 in
theorem ot_196 : ri_okT ri_md md_196 = true := by decide +kernel
set_option maxRecDepth 100000 in
theorem mk_197 : ∃ n, ri_Mk md_197.1 n := ri_mkb_ok (n := 1) (ic := 1645) (ii := 115) (by decide +kernel)
set_option maxRecDepth 100000 in
theorem ot_197 : ri_okT ri_md md_197 = true := by decide +kernel
set_option maxRecDepth 100000 in
theorem mk_198 : ∃ n, ri_Mk md_198.1 n := ri_mkb_ok (n := 2) (ic := 1664) (ii := 115) (by decide +kernel)
set_option maxRecDepth 100000 in
theorem ot_198 : ri_okT ri_md md_198 = true := by decide +kernel
set_option maxRecDepth 100000 in
theorem mk_199 : ∃ n, ri_Mk md_199.1 n := ri_mkb_ok (n := 2) (ic := 1668) (ii := 115) (by decide +kernel)
set_option maxRecDepth 100000 in
theorem ot_199 : ri_okT ri_md md_199 = true := by decide +kernel
set_option maxRecDepth 100000 in
theorem mk_200 : ∃ n, ri_Mk md_200.1 n := ri_mkb_ok (n := 1) (ic := 1688) (ii := 115) (by decide +kernel)
set_option maxRecDepth 100000 in
theorem ot_200 : ri_okT ri_md md_200 = true := by decide +kernel
set_option maxRecDepth 100000 in
theorem mk_201 : ∃ n, ri_Mk md_201.1 n := ri_mkb_ok (n := 1) (ic := 1692) (ii := 115) (by decide +kernel)
set_option maxRecDepth 100000 in
theorem ot_201 : ri_okT ri_md md_201 = true := by decide +kernel
set_option maxRecDepth 100000 in
theorem mk_202 : ∃ n, ri_Mk md_202.1 n := ri_mkb_ok (n := 1) (ic := 1684) (ii := 115) (by decide +kernel)
set_option maxRecDepth 100000 in
theorem ot_202 : ri_okT ri_md md_202 = true := by decide +kernel
set_option maxRecDepth 100000 in
theorem mk_203 : ∃ n, ri_Mk md_203.1 n := ri_mkb_ok (n := 0) (ic := 1680) (ii := 115) (by decide +kernel)
set_option maxRecDepth 100000 in
theorem ot_203 : ri_okT ri_md md_203 = true := by decide +kernel
set_option maxRecDepth 100000 in
theorem mk_204 : ∃ n, ri_Mk md_204.1 n := ri_mkb_ok (n := 1) (ic := 1676) (ii := 115) (by decide +kernel)
set_option maxRecDepth 100000 in
theorem ot_204 : ri_okT ri_md md_204 = true := by decide +kernel
set_option maxRecDepth 100000 in
theorem mk_205 : ∃ n, ri_Mk md_205.1 n := ri_mkb_ok (n := 2) (ic := 1613) (ii := 115) (by decide +kernel)
set_option maxRecDepth 100000 in
theorem ot_205 : ri_okT ri_md md_205 = true := by decide +kernel
set_option maxRecDepth 100000 in
theorem mk_206 : ∃ n, ri_Mk md_206.1 n := ri_mkb_ok (n := 1) (ic := 1633) (ii := 115) (by decide +kernel)
set_option maxRecDepth 100000 in
theorem ot_206 : ri_okT ri_md md_206 = true := by decide +kernel
set_option maxRecDepth 100000 in
theorem mk_207 : ∃ n, ri_Mk md_207.1 n := ri_mkb_ok (n := 2) (ic := 1660) (ii := 115) (by decide +kernel)
set_option maxRecDepth 100000 in
theorem ot_207 : ri_okT ri_md md_207 = true := by decide +kernel
set_option maxRecDepth 100000 in
theorem mk_208 : ∃ n, ri_Mk md_208.1 n := ri_mkb_ok (n := 1) (ic := 1672) (ii := 115) (by decide +kernel)
set_option maxRecDepth 100000 in
theorem ot_208 : ri_okT ri_md md_208 = true := by decide +kernel
set_option maxRecDepth 100000 in
theorem mk_209 : ∃ n, ri_Mk md_209.1 n := ri_mkb_ok (n := 0) (ic := 1625) (ii := 115) (by decide +kernel)
set_option maxRecDepth 100000 in
theorem ot_209 : ri_okT ri_md md_209 = true := by decide +kernel
set_option maxRecDepth 100000 in
theorem mk_210 : ∃ n, ri_Mk md_210.1 n := ri_mkb_ok (n := 0) (ic := 1696) (ii := 115) (by decide +kernel)
set_option maxRecDepth 100000 in
theorem ot_210 : ri_okT ri_md md_210 = true := by decide +kernel
end
section
set_option maxRecDepth 100000 in
theorem mk_211 : ∃ n, ri_Mk md_211.1 n := ri_mkb_ok (n := 0) (ic := 1817) (ii := 115) (by decide +kernel)
set_option maxRecDepth 100000 in
theorem ot_211 : ri_okT ri_md md_211 = true := by decide +kernel
set_option maxRecDepth 100000 in
theorem mk_212 : ∃ n, ri_Mk md_212.1 n := ri_mkb_ok (n := 0) (ic := 1821) (ii := 115) (by decide +kernel)
set_option maxRecDepth 100000 in
theorem ot_212 : ri_okT ri_md md_212 = true := by decide +kernel
set_option maxRecDepth 100000 in
theorem mk_213 : ∃ n, ri_Mk md_213.1 n := ri_mkb_ok (n := 2) (ic := 1700) (ii := 115) (by decide +kernel)
set_option maxRecDepth 100000 in
theorem ot_213 : ri_okT ri_md md_213 = true := by decide +kernel
set_option maxRecDepth 100000 in
theorem mk_214 : ∃ n, ri_Mk md_214.1 n := ri_mkb_ok (n := 2) (ic := 1712) (ii := 115) (by decide +kernel)
set_option maxRecDepth 100000 in
theorem ot_214 : ri_okT ri_md md_214 = true := by decide +kernel
set_option maxRecDepth 100000 in
theorem mk_215 : ∃ n, ri_Mk md_215.1 n := ri_mkb_ok (n := 1) (ic := 1720) (ii := 115) (by decide +kernel)
set_option maxRecDepth 100000 in
theorem ot_215 : ri_okT ri_md md_215 = true := by decide +kernel
set_option maxRecDepth 100000 in
theorem mk_216 : ∃ n, ri_Mk md_216.1 n := ri_mkb_ok (n := 1) (ic := 1724) (ii := 115) (by decide +kernel)
set_option maxRecDepth 100000 in
theorem ot_216 : ri_okT ri_md md_216 = true := by decide +kernel
set_option maxRecDepth 100000 in
theorem mk_217 : ∃ n, ri_Mk md_217.1 n := ri_mkb_ok (n := 1) (ic := 1736) (ii := 115) (by decide +kernel)
set_option maxRecDepth 100000 in
theorem ot_217 : ri_okT ri_md md_217 = true := by decide +kernel
set_option maxRecDepth 100000 in
theorem mk_218 : ∃ n, ri_Mk md_218.1 n := ri_mkb_ok (n := 1) (ic := 1740) (ii := 115) (by decide +kernel)
set_option maxRecDepth 100000 in
theorem ot_218 : ri_okT ri_md md_218 = true := by decide +kernel
set_option maxRecDepth 100000 in
theorem mk_219 : ∃ n, ri_Mk md_219.1 n := ri_mkb_ok (n := 0) (ic := 1728) (ii := 115) (by decide +kernel)
set_option maxRecDepth 100000 in
theorem ot_219 : ri_okT ri_md md_219 = true := by decide +kernel
set_option maxRecDepth 100000 in
theorem mk_220 : ∃ n, ri_Mk md_220.1 n := ri_mkb_ok (n := 0) (ic := 1744) (ii := 115) (by decide +kernel)
set_option maxRecDepth 100000 in
theorem ot_220 : ri_okT ri_md md_220 = true := by decide +kernel
set_option maxRecDepth 100000 in
theorem mk_221 : ∃ n, ri_Mk md_221.1 n := ri_mkb_ok (n := 0) (ic := 1748) (ii := 115) (by decide +kernel)
set_option maxRecDepth 100000 in
theorem ot_221 : ri_okT ri_md md_221 = true := by decide +kernel
set_option maxRecDepth 100000 in
theorem mk_222 : ∃ n, ri_Mk md_222.1 n := ri_mkb_ok (n := 0) (ic := 1752) (ii := 115) (by decide +kernel)
set_option maxRecDepth 100000 in
theorem ot_222 : ri_okT ri_md md_222 = true := by decide +kernel
set_option maxRecDepth 100000 in
theorem mk_223 : ∃ n, ri_Mk md_223.1 n := ri_mkb_ok (n := 1) (ic := 1760) (ii := 115) (by decide +kernel)
set_option maxRecDepth 100000 in
theorem ot_223 : ri_okT ri_md md_223 = true := by decide +kernel
set_option maxRecDepth 100000 in
theorem mk_224 : ∃ n, ri_Mk md_224.1 n := ri_mkb_ok (n := 1) (ic := 1756) (ii := 115) (by decide +kernel)
set_option maxRecDepth 100000 in
theorem ot_224 : ri_okT ri_md md_224 = true := by decide +kernel
set_option maxRecDepth 100000 in
theorem mk_225 : ∃ n, ri_Mk md_225.1 n := ri_mkb_ok (n := 0) (ic := 1764) (ii := 115) (by decide +kernel)
set_option maxRecDepth 100000 in
theorem ot_225 : ri_okT ri_md md_225 = true := by decide +kernel
set_option maxRecDepth 100000 in
theorem mk_226 : ∃ n, ri_Mk md_226.1 n := ri_mkb_ok (n := 3) (ic := 1776) (ii := 115) (by decide +kernel)
set_option maxRecDepth 100000 in
theorem ot_226 : ri_okT ri_md md_226 = true := by decide +kernel
set_option maxRecDepth 100000 in
theorem mk_227 : ∃ n, ri_Mk md_227.1 n := ri_mkb_ok (n := 2) (ic := 1772) (ii := 115) (by decide +kernel)
set_option maxRecDepth 100000 in
theorem ot_227 : ri_okT ri_md md_227 = true := by decide +kernel
set_option maxRecDepth 100000 in
theorem mk_228 : ∃ n, ri_Mk md_228.1 n := ri_mkb_ok (n := 1) (ic := 1768) (ii := 115) (by decide +kernel)
set_option maxRecDepth 100000 in
theorem ot_228 : ri_okT ri_md md_228 = true := by decide +kernel
set_option maxRecDepth 100000 in
theorem mk_229 : ∃ n, ri_Mk md_229.1 n := ri_mkb_ok (n := 1) (ic := 1780) (ii := 115) (by decide +kernel)
set_option maxRecDepth 100000 in
theorem ot_229 : ri_okT ri_md md_229 = true := by decide +kernel
set_option maxRecDepth 100000 in
theorem mk_230 : ∃ n, ri_Mk md_230.1 n := ri_mkb_ok (n := 1) (ic := 1784) (ii := 115) (by decide +kernel)
set_option maxRecDepth 100000 in
theorem ot_230 : ri_okT ri_md md_230 = true := by decide +kernel
set_option maxRecDepth 100000 in
theorem mk_231 : ∃ n, ri_Mk md_231.1 n := ri_mkb_ok (n := 1) (ic := 1788) (ii := 115) (by decide +kernel)
set_option maxRecDepth 100000 in
theorem ot_231 : ri_okT ri_md md_231 = true := by decide +kernel
set_option maxRecDepth 100000 in
theorem mk_232 : ∃ n, ri_Mk md_232.1 n := ri_mkb_ok (n := 1) (ic := 1792) (ii := 115) (by decide +kernel)
set_option maxRecDepth 100000 in
theorem ot_232 : ri_okT ri_md md_232 = true := by decide +kernel
set_option maxRecDepth 100000 in
theorem mk_233 : ∃ n, ri_Mk md_233.1 n := ri_mkb_ok (n := 0) (ic := 1796) (ii := 115) (by decide +kernel)
set_option maxRecDepth 100000 in
theorem ot_233 : ri_okT ri_md md_233 = true := by decide +kernel
set_option maxRecDepth 100000 in
theorem mk_234 : ∃ n, ri_Mk md_234.1 n := ri_mkb_ok (n := 1) (ic := 1808) (ii := 115) (by decide +kernel)
set_option maxRecDepth 100000 in
theorem ot_234 : ri_okT ri_md md_234 = true := by decide +kernel
set_option maxRecDepth 100000 in
theorem mk_235 : ∃ n, ri_Mk md_235.1 n := ri_mkb_ok (n := 2) (ic := 1804) (ii := 115) (by decide +kernel)
set_option maxRecDepth 100000 in
theorem ot_235 : ri_okT ri_md md_235 = true := by decide +kernel
set_option maxRecDepth 100000 in
theorem mk_236 : ∃ n, ri_Mk md_236.1 n := ri_mkb_ok (n := 2) (ic := 1800) (ii := 115) (by decide +kernel)
set_option maxRecDepth 100000 in
theorem ot_236 : ri_okT ri_md md_236 = true := by decide +kernel
set_option maxRecDepth 100000 in
theorem mk_237 : ∃ n, ri_Mk md_237.1 n := ri_mkb_ok (n := 3) (ic := 1813) (ii := 115) (by decide +kernel)
set_option maxRecDepth 100000 in
theorem ot_237 : ri_okT ri_md md_237 = true := by decide +kernel
set_option maxRecDepth 100000 in
theorem mk_238 : ∃ n, ri_Mk md_238.1 n := ri_mkb_ok (n := 0) (ic := 1829) (ii := 115) (by decide +kernel)
set_option maxRecDepth 100000 in
theorem ot_238 : ri_okT ri_md md_238 = true := by decide +kernel
set_option maxRecDepth 100000 in
theorem mk_239 : ∃ n, ri_Mk md_239.1 n := ri_mkb_ok (n := 3) (ic := 1833) (ii := 115) (by decide +kernel)
set_option maxRecDepth 100000 in
theorem ot_239 : ri_okT ri_md md_239 = true := by decide +kernel
set_option maxRecDepth 100000 in
theorem mk_240 : ∃ n, ri_Mk md_240.1 n := ri_mkb_ok (n := 1) (ic := 1825) (ii := 115) (by decide +kernel)
set_option maxRecDepth 100000 in
theorem ot_240 : ri_okT ri_md md_240 = true := by decide +kernel
set_option maxRecDepth 100000 in
theorem mk_241 : ∃ n, ri_Mk md_241.1 n := ri_mkb_ok (n := 1) (ic := 1837) (ii := 115) (by decide +kernel)
set_option maxRecDepth 100000 in
theorem ot_241 : ri_okT ri_md md_241 = true := by decide +kernel
end
section
set_option maxRecDepth 100000 in
theorem mk_242 : ∃ n, ri_Mk md_242.1 n := ri_mkb_ok (n := 3) (ic := 1849) (ii := 115) (by decide +kernel)
set_option maxRecDepth 100000 in
theorem ot_242 : ri_okT ri_md md_242 = true := by decide +kernel
set_option maxRecDepth 100000 in
theorem mk_243 : ∃ n, ri_Mk md_243.1 n := ri_mkb_ok (n := 1) (ic := 1853) (ii := 115) (by decide +kernel)
set_option maxRecDepth 100000 in
theorem ot_243 : ri_okT ri_md md_243 = true := by decide +kernel
set_option maxRecDepth 100000 in
theorem mk_244 : ∃ n, ri_Mk md_244.1 n := ri_mkb_ok (n := 0) (ic := 1845) (ii := 115) (by decide +kernel)
set_option maxRecDepth 100000 in
theorem ot_244 : ri_okT ri_md md_244 = true := by decide +kernel
set_option maxRecDepth 100000 in
theorem mk_245 : ∃ n, ri_Mk md_245.1 n := ri_mkb_ok (n := 0) (ic := 1865) (ii := 115) (by decide +kernel)
set_option maxRecDepth 100000 in
theorem ot_245 : ri_okT ri_md md_245 = true := by decide +kernel
set_option maxRecDepth 100000 in
theorem mk_246 : ∃ n, ri_Mk md_246.1 n := ri_mkb_ok (n := 0) (ic := 1861) (ii := 115) (by decide +kernel)
set_option maxRecDepth 100000 in
theorem ot_246 : ri_okT ri_md md_246 = true := by decide +kernel
set_option maxRecDepth 100000 in
theorem mk_247 : ∃ n, ri_Mk md_247.1 n := ri_mkb_ok (n := 0) (ic := 1857) (ii := 115) (by decide +kernel)
set_option maxRecDepth 100000 in
theorem ot_247 : ri_okT ri_md md_247 = true := by decide +kernel
set_option maxRecDepth 100000 in
theorem mk_248 : ∃ n, ri_Mk md_248.1 n := ri_mkb_ok (n := 0) (ic := 1841) (ii := 115) (by decide +kernel)
set_option maxRecDepth 100000 in
theorem ot_248 : ri_okT ri_md md_248 = true := by decide +kernel
set_option maxRecDepth 100000 in
theorem mk_249 : ∃ n, ri_Mk md_249.1 n := ri_mkb_ok (n := 4) (ic := 1877) (ii := 115) (by decide +kernel)
set_option maxRecDepth 100000 in
theorem ot_249 : ri_okT ri_md md_249 = true := by decide +kernel
set_option maxRecDepth 100000 in
theorem mk_250 : ∃ n, ri_Mk md_250.1 n := ri_mkb_ok (n := 1) (ic := 1873) (ii := 115) (by decide +kernel)
set_option maxRecDepth 100000 in
theorem ot_250 : ri_okT ri_md md_250 = true := by decide +kernel
set_option maxRecDepth 100000 in
theorem mk_251 : ∃ n, ri_Mk md_251.1 n := ri_mkb_ok (n := 1) (ic := 1869) (ii := 115) (by decide +kernel)
set_option maxRecDepth 100000 in
theorem ot_251 : ri_okT ri_md md_251 = true := by decide +kernel
set_option maxRecDepth 100000 in
theorem mk_252 : ∃ n, ri_Mk md_252.1 n := ri_mkb_ok (n := 1) (ic := 1881) (ii := 115) (by decide +kernel)
set_option maxRecDepth 100000 in
theorem ot_252 : ri_okT ri_md md_252 = true := by decide +kernel
set_option maxRecDepth 100000 in
theorem mk_253 : ∃ n, ri_Mk md_253.1 n := ri_mkb_ok (n := 1) (ic := 1885) (ii := 115) (by decide +kernel)
set_option maxRecDepth 100000 in
theorem ot_253 : ri_okT ri_md md_253 = true := by decide +kernel
set_option maxRecDepth 100000 in
theorem mk_254 : ∃ n, ri_Mk md_254.1 n := ri_mkb_ok (n := 1) (ic := 1889) (ii := 115) (by decide +kernel)
set_option maxRecDepth 100000 in
theorem ot_254 : ri_okT ri_md md_254 = true := by decide +kernel
set_option maxRecDepth 100000 in
theorem mk_255 : ∃ n, ri_Mk md_255.1 n := ri_mkb_ok (n := 2) (ic := 1192) (ii := 122) (by decide +kernel)
set_option maxRecDepth 100000 in
theorem ot_255 : ri_okT ri_md md_255 = true := by decide +kernel
set_option maxRecDepth 100000 in
theorem mk_256 : ∃ n, ri_Mk md_256.1 n := ri_mkb_ok (n := 0) (ic := 141) (ii := 101) (by decide +kernel)
set_option maxRecDepth 100000 in
theorem ot_256 : ri_okT ri_md md_256 = true := by decide +kernel
set_option maxRecDepth 100000 in
theorem mk_257 : ∃ n, ri_Mk md_257.1 n := ri_mkb_ok (n := 1) (ic := 151) (ii := 101) (by decide +kernel)
set_option maxRecDepth 100000 in
theorem ot_257 : ri_okT ri_md md_257 = true := by decide +kernel
set_option maxRecDepth 100000 in
theorem mk_258 : ∃ n, ri_Mk md_258.1 n := ri_mkb_ok (n := 0) (ic := 145) (ii := 101) (by decide +kernel)
set_option maxRecDepth 100000 in
theorem ot_258 : ri_okT ri_md md_258 = true := by decide +kernel
set_option maxRecDepth 100000 in
theorem mk_259 : ∃ n, ri_Mk md_259.1 n := ri_mkb_ok (n := 0) (ic := 155) (ii := 101) (by decide +kernel)
set_option maxRecDepth 100000 in
theorem ot_259 : ri_okT ri_md md_259 = true := by decide +kernel
set_option maxRecDepth 100000 in
theorem mk_260 : ∃ n, ri_Mk md_260.1 n := ri_mkb_ok (n := 2) (ic := 161) (ii := 101) (by decide +kernel)
set_option maxRecDepth 100000 in
theorem ot_260 : ri_okT ri_md md_260 = true := by decide +kernel
set_option maxRecDepth 100000 in
theorem mk_261 : ∃ n, ri_Mk md_261.1 n := ri_mkb_ok (n := 2) (ic := 158) (ii := 102) (by decide +kernel)
set_option maxRecDepth 100000 in
theorem ot_261 : ri_okT ri_md md_261 = true := by decide +kernel
set_option maxRecDepth 100000 in
theorem mk_262 : ∃ n, ri_Mk md_262.1 n := ri_mkb_ok (n := 2) (ic := 179) (ii := 104) (by decide +kernel)
set_option maxRecDepth 100000 in
theorem ot_262 : ri_okT ri_md md_262 = true := by decide +kernel
set_option maxRecDepth 100000 in
theorem mk_263 : ∃ n, ri_Mk md_263.1 n := ri_mkb_ok (n := 1) (ic := 175) (ii := 104) (by decide +kernel)
set_option maxRecDepth 100000 in
theorem ot_263 : ri_okT ri_md md_263 = true := by decide +kernel
set_option maxRecDepth 100000 in
theorem mk_264 : ∃ n, ri_Mk md_264.1 n := ri_mkb_ok (n := 2) (ic := 169) (ii := 104) (by decide +kernel)
set_option maxRecDepth 100000 in
theorem ot_264 : ri_okT ri_md md_264 = true := by decide +kernel
set_option maxRecDepth 100000 in
theorem mk_265 : ∃ n, ri_Mk md_265.1 n := ri_mkb_ok (n := 2) (ic := 172) (ii := 104) (by decide +kernel)
set_option maxRecDepth 100000 in
theorem ot_265 : ri_okT ri_md md_265 = true := by decide +kernel
set_option maxRecDepth 100000 in
theorem mk_266 : ∃ n, ri_Mk md_266.1 n := ri_mkb_ok (n := 3) (ic := 166) (ii := 103) (by decide +kernel)
set_option maxRecDepth 100000 in
theorem ot_266 : ri_okT ri_md md_266 = true := by decide +kernel
end
section
def mg_0 : List (ri_M × ri_T) := [md_0, md_1, md_2, md_3, md_4, md_5, md_6, md_7, md_8, md_9, md_10, md_11, md_12, md_13, md_14, md_15, md_16, md_17, md_18, md_19, md_20, md_21, md_22, md_23, md_24, md_25, md_26, md_27, md_28, md_29]
set_option maxRecDepth 100000 in
theorem mkg_0 : ∀ q ∈ mg_0, ∃ n, ri_Mk q.1 n := List.forall_mem_cons.mpr ⟨mk_0, List.forall_mem_cons.mpr ⟨mk_1, List.forall_mem_cons.mpr ⟨mk_2, List.forall_mem_cons.mpr ⟨mk_3, List.forall_mem_cons.mpr ⟨mk_4, List.forall_mem_cons.mpr ⟨mk_5, List.forall_mem_cons.mpr ⟨mk_6, List.forall_mem_cons.mpr ⟨mk_7, List.forall_mem_cons.mpr ⟨mk_8, List.forall_mem_cons.mpr ⟨mk_9, List.forall_mem_cons.mpr ⟨mk_10, List.forall_mem_cons.mpr ⟨mk_11, List.forall_mem_cons.mpr ⟨mk_12, List.forall_mem_cons.mpr ⟨mk_13, List.forall_mem_cons.mpr ⟨mk_14, List.forall_mem_cons.mpr ⟨mk_15, List.forall_mem_cons.mpr ⟨mk_16, List.forall_mem_cons.mpr ⟨mk_17, List.forall_mem_cons.mpr ⟨mk_18, List.forall_mem_cons.mpr ⟨mk_19, List.forall_mem_cons.mpr ⟨mk_20, List.forall_mem_cons.mpr ⟨mk_21, List.forall_mem_cons.mpr ⟨mk_22, List.forall_mem_cons.mpr ⟨mk_23, List.forall_mem_cons.mpr ⟨mk_24, List.forall_mem_cons.mpr ⟨mk_25, List.forall_mem_cons.mpr ⟨mk_26, List.forall_mem_cons.mpr ⟨mk_27, List.forall_mem_cons.mpr ⟨mk_28, List.forall_mem_cons.mpr ⟨mk_29, fun _ h => absurd h List.not_mem_nil⟩⟩⟩⟩⟩⟩⟩⟩⟩⟩⟩⟩⟩⟩⟩⟩⟩⟩⟩⟩⟩⟩⟩⟩⟩⟩⟩⟩⟩⟩
set_option maxRecDepth 100000 in
theorem otg_0 : ∀ q ∈ mg_0, ri_okT ri_md q = true := List.forall_mem_cons.mpr ⟨ot_0, List.forall_mem_cons.mpr ⟨ot_1, List.forall_mem_cons.mpr ⟨ot_2, List.forall_mem_cons.mpr ⟨ot_3, List.forall_mem_cons.mpr ⟨ot_4, List.forall_mem_cons.mpr ⟨ot_5, List.forall_mem_cons.mpr ⟨ot_6, List.forall_mem_cons.mpr ⟨ot_7, List.forall_mem_cons.mpr ⟨ot_8, List.forall_mem_cons.mpr ⟨ot_9, List.forall_mem_cons.mpr ⟨ot_10, List.forall_mem_cons.mpr ⟨ot_11, List.forall_mem_cons.mpr ⟨ot_12, List.forall_mem_cons.mpr ⟨ot_13, List.forall_mem_cons.mpr ⟨ot_14, List.forall_mem_cons.mpr ⟨ot_15, List.forall_mem_cons.mpr ⟨ot_16, List.forall_mem_cons.mpr ⟨ot_17, List.forall_mem_cons.mpr ⟨ot_18, List.forall_mem_cons.mpr ⟨ot_19, List.forall_mem_cons.mpr ⟨ot_20, List.forall_mem_cons.mpr ⟨ot_21, List.forall_mem_cons.mpr ⟨ot_22, List.forall_mem_cons.mpr ⟨ot_23, List.forall_mem_cons.mpr ⟨ot_24, List.forall_mem_cons.mpr ⟨ot_25, List.forall_mem_cons.mpr ⟨ot_26, List.forall_mem_cons.mpr ⟨ot_27, List.forall_mem_cons.mpr ⟨ot_28, List.forall_mem_cons.mpr ⟨ot_29, fun _ h => absurd h List.not_mem_nil⟩⟩⟩⟩⟩⟩⟩⟩⟩⟩⟩⟩⟩⟩⟩⟩⟩⟩⟩⟩⟩⟩⟩⟩⟩⟩⟩⟩⟩⟩
def mg_1 : List (ri_M × ri_T) := [md_30, md_31, md_32, md_33, md_34, md_35, md_36, md_37, md_38, md_39, md_40, md_41, md_42, md_43, md_44, md_45, md_46, md_47, md_48, md_49, md_50, md_51, md_52, md_53, md_54, md_55, md_56, md_57, md_58, md_59]
set_option maxRecDepth 100000 in
theorem mkg_1 : ∀ q ∈ mg_1, ∃ n, ri_Mk q.1 n := List.forall_mem_cons.mpr ⟨mk_30, List.forall_mem_cons.mpr ⟨mk_31, List.forall_mem_cons.mpr ⟨mk_32, List.forall_mem_cons.mpr ⟨mk_33, List.forall_mem_cons.mpr ⟨mk_34, List.forall_mem_cons.mpr ⟨mk_35, List.forall_mem_cons.mpr ⟨mk_36, List.forall_mem_cons.mpr ⟨mk_37, List.forall_mem_cons.mpr ⟨mk_38, List.forall_mem_cons.mpr ⟨mk_39, List.forall_mem_cons.mpr ⟨mk_40, List.forall_mem_cons.mpr ⟨mk_41, List.forall_mem_cons.mpr ⟨mk_42, List.forall_mem_cons.mpr ⟨mk_43, List.forall_mem_cons.mpr ⟨mk_44, List.forall_mem_cons.mpr ⟨mk_45, List.forall_mem_cons.mpr ⟨mk_46, List.forall_mem_cons.mpr ⟨mk_47, List.forall_mem_cons.mpr ⟨mk_48, List.forall_mem_cons.mpr ⟨mk_49, List.forall_mem_cons.mpr ⟨mk_50, List.forall_mem_cons.mpr ⟨mk_51, List.forall_mem_cons.mpr ⟨mk_52, List.forall_mem_cons.mpr ⟨mk_53, List.forall_mem_cons.mpr ⟨mk_54, List.forall_mem_cons.mpr ⟨mk_55, List.forall_mem_cons.mpr ⟨mk_56, List.forall_mem_cons.mpr ⟨mk_57, List.forall_mem_cons.mpr ⟨mk_58, List.forall_mem_cons.mpr ⟨mk_59, fun _ h => absurd h List.not_mem_nil⟩⟩⟩⟩⟩⟩⟩⟩⟩⟩⟩⟩⟩⟩⟩⟩⟩⟩⟩⟩⟩⟩⟩⟩⟩⟩⟩⟩⟩⟩
set_option maxRecDepth 100000 in
theorem otg_1 : ∀ q ∈ mg_1, ri_okT ri_md q = true := List.forall_mem_cons.mpr ⟨ot_30, List.forall_mem_cons.mpr ⟨ot_31, List.forall_mem_cons.mpr ⟨ot_32, List.forall_mem_cons.mpr ⟨ot_33, List.forall_mem_cons.mpr ⟨ot_34, List.forall_mem_cons.mpr ⟨ot_35, List.forall_mem_cons.mpr ⟨ot_36, List.forall_mem_cons.mpr ⟨ot_37, List.forall_mem_cons.mpr ⟨ot_38, List.forall_mem_cons.mpr ⟨ot_39, List.forall_mem_cons.mpr ⟨ot_40, List.forall_mem_cons.mpr ⟨ot_41, List.forall_mem_cons.mpr ⟨ot_42, List.forall_mem_cons.mpr ⟨ot_43, List.forall_mem_cons.mpr ⟨ot_44, List.forall_mem_cons.mpr ⟨ot_45, List.forall_mem_cons.mpr ⟨ot_46, List.forall_mem_cons.mpr ⟨ot_47, List.forall_mem_cons.mpr ⟨ot_48, List.forall_mem_cons.mpr ⟨ot_49, List.forall_mem_cons.mpr ⟨ot_50, List.forall_mem_cons.mpr ⟨ot_51, List.forall_mem_cons.mpr ⟨ot_52, List.forall_mem_cons.mpr ⟨ot_53, List.forall_mem_cons.mpr ⟨ot_54, List.forall_mem_cons.mpr ⟨ot_55, List.forall_mem_cons.mpr ⟨ot_56, List.forall_mem_cons.mpr ⟨ot_57, List.forall_mem_cons.mpr ⟨ot_58, List.forall_mem_cons.mpr ⟨ot_59, fun _ h => absurd h List.not_mem_nil⟩⟩⟩⟩⟩⟩⟩⟩⟩⟩⟩⟩⟩⟩⟩⟩⟩⟩⟩⟩⟩⟩⟩⟩⟩⟩⟩⟩⟩⟩
def mg_2 : List (ri_M × ri_T) := [md_60, md_61, md_62, md_63, md_64, md_65, md_66, md_67, md_68, md_69, md_70, md_71, md_72, md_73, md_74, md_75, md_76, md_77, md_78, md_79, md_80, md_81, md_82, md_83, md_84, md_85, md_86, md_87, md_88, md_89]
set_option maxRecDepth 100000 in
theorem mkg_2 : ∀ q ∈ mg_2, ∃ n, ri_Mk q.1 n := List.forall_mem_cons.mpr ⟨mk_60, List.forall_mem_cons.mpr ⟨mk_61, List.forall_mem_cons.mpr ⟨mk_62, List.forall_mem_cons.mpr ⟨mk_63, List.forall_mem_cons.mpr ⟨mk_64, List.forall_mem_cons.mpr ⟨mk_65, List.forall_mem_cons.mpr ⟨mk_66, List.forall_mem_cons.mpr ⟨mk_67, List.forall_mem_cons.mpr ⟨mk_68, List.forall_mem_cons.mpr ⟨mk_69, List.forall_mem_cons.mpr ⟨mk_70, List.forall_mem_cons.mpr ⟨mk_71, List.forall_mem_cons.mpr ⟨mk_72, List.forall_mem_cons.mpr ⟨mk_73, List.forall_mem_cons.mpr ⟨mk_74, List.forall_mem_cons.mpr ⟨mk_75, List.forall_mem_cons.mpr ⟨mk_76, List.forall_mem_cons.mpr ⟨mk_77, List.forall_mem_cons.mpr ⟨mk_78, List.forall_mem_cons.mpr ⟨mk_79, List.forall_mem_cons.mpr ⟨mk_80, List.forall_mem_cons.mpr ⟨mk_81, List.forall_mem_cons.mpr ⟨mk_82, List.forall_mem_cons.mpr ⟨mk_83, List.forall_mem_cons.mpr ⟨mk_84, List.forall_mem_cons.mpr ⟨mk_85, List.forall_mem_cons.mpr ⟨mk_86, List.forall_mem_cons.mpr ⟨mk_87, List.forall_mem_cons.mpr ⟨mk_88, List.forall_mem_cons.mpr ⟨mk_89, fun _ h => absurd h List.not_mem_nil⟩⟩⟩⟩⟩⟩⟩⟩⟩⟩⟩⟩⟩⟩⟩⟩⟩⟩⟩⟩⟩⟩⟩⟩⟩⟩⟩⟩⟩⟩
set_option maxRecDepth 100000 in
theorem otg_2 : ∀ q ∈ mg_2, ri_okT ri_md q = true := List.forall_mem_cons.mpr ⟨ot_60, List.forall_mem_cons.mpr ⟨ot_61, List.forall_mem_cons.mpr ⟨ot_62, List.forall_mem_cons.mpr ⟨ot_63, List.forall_mem_cons.mpr ⟨ot_64, List.forall_mem_cons.mpr ⟨ot_65, List.forall_mem_cons.mpr ⟨ot_66, List.forall_mem_cons.mpr ⟨ot_67, List.forall_mem_cons.mpr ⟨ot_68, List.forall_mem_cons.mpr ⟨ot_69, List.forall_mem_cons.mpr ⟨ot_70, List.forall_mem_cons.mpr ⟨ot_71, List.forall_mem_cons.mpr ⟨ot_72, List.forall_mem_cons.mpr ⟨ot_73, List.forall_mem_cons.mpr ⟨ot_74, List.forall_mem_cons.mpr ⟨ot_75, List.forall_mem_cons.mpr ⟨ot_76, List.forall_mem_cons.mpr ⟨ot_77, List.forall_mem_cons.mpr ⟨ot_78, List.forall_mem_cons.mpr ⟨ot_79, List.forall_mem_cons.mpr ⟨ot_80, List.forall_mem_cons.mpr ⟨ot_81, List.forall_mem_cons.mpr ⟨ot_82, List.forall_mem_cons.mpr ⟨ot_83, List.forall_mem_cons.mpr ⟨ot_84, List.forall_mem_cons.mpr ⟨ot_85, List.forall_mem_cons.mpr ⟨ot_86, List.forall_mem_cons.mpr ⟨ot_87, List.forall_mem_cons.mpr ⟨ot_88, List.forall_mem_cons.mpr ⟨ot_89, fun _ h => absurd h List.not_mem_nil⟩⟩⟩⟩⟩⟩⟩⟩⟩⟩⟩⟩⟩⟩⟩⟩⟩⟩⟩⟩⟩⟩⟩⟩⟩⟩⟩⟩⟩⟩
def mg_3 : List (ri_M × ri_T) := [md_90, md_91, md_92, md_93, md_94, md_95, md_96, md_97, md_98, md_99, md_100, md_101, md_102, md_103, md_104, md_105, md_106, md_107, md_108, md_109, md_110, md_111, md_112, md_113, md_114, md_115, md_116, md_117, md_118, md_119]
set_option maxRecDepth 100000 in
theorem mkg_3 : ∀ q ∈ mg_3, ∃ n, ri_Mk q.1 n := List.forall_mem_cons.mpr ⟨mk_90, List.forall_mem_cons.mpr ⟨mk_91, List.forall_mem_cons.mpr ⟨mk_92, List.forall_mem_cons.mpr ⟨mk_93, List.forall_mem_cons.mpr ⟨mk_94, List.forall_mem_cons.mpr ⟨mk_95, List.forall_mem_cons.mpr ⟨mk_96, List.forall_mem_cons.mpr ⟨mk_97, List.forall_mem_cons.mpr ⟨mk_98, List.forall_mem_cons.mpr ⟨mk_99, List.forall_mem_cons.mpr ⟨mk_100, List.forall_mem_cons.mpr ⟨mk_101, List.forall_mem_cons.mpr ⟨mk_102, List.forall_mem_cons.mpr ⟨mk_103, List.forall_mem_cons.mpr ⟨mk_104, List.forall_mem_cons.mpr ⟨mk_105, List.forall_mem_cons.mpr ⟨mk_106, List.forall_mem_cons.mpr ⟨mk_107, List.forall_mem_cons.mpr ⟨mk_108, List.forall_mem_cons.mpr ⟨mk_109, List.forall_mem_cons.mpr ⟨mk_110, List.forall_mem_cons.mpr ⟨mk_111, List.forall_mem_cons.mpr ⟨mk_112, List.forall_mem_cons.mpr ⟨mk_113, List.forall_mem_cons.mpr ⟨mk_114, List.forall_mem_cons.mpr ⟨mk_115, List.forall_mem_cons.mpr ⟨mk_116, List.forall_mem_cons.mpr ⟨mk_117, List.forall_mem_cons.mpr ⟨mk_118, List.forall_mem_cons.mpr ⟨mk_119, fun _ h => absurd h List.not_mem_nil⟩⟩⟩⟩⟩⟩⟩⟩⟩⟩⟩⟩⟩⟩⟩⟩⟩⟩⟩⟩⟩⟩⟩⟩⟩⟩⟩⟩⟩⟩
set_option maxRecDepth 100000 in
theorem otg_3 : ∀ q ∈ mg_3, ri_okT ri_md q = true := List.forall_mem_cons.mpr ⟨ot_90, List.forall_mem_cons.mpr ⟨ot_91, List.forall_mem_cons.mpr ⟨ot_92, List.forall_mem_cons.mpr ⟨ot_93, List.forall_mem_cons.mpr ⟨ot_94, List.forall_mem_cons.mpr ⟨ot_95, List.forall_mem_cons.mpr ⟨ot_96, List.forall_mem_cons.mpr ⟨ot_97, List.forall_mem_cons.mpr ⟨ot_98, List.forall_mem_cons.mpr ⟨ot_99, List.forall_mem_cons.mpr ⟨ot_100, List.forall_mem_cons.mpr ⟨ot_101, List.forall_mem_cons.mpr ⟨ot_102, List.forall_mem_cons.mpr ⟨ot_103, List.forall_mem_cons.mpr ⟨ot_104, List.forall_mem_cons.mpr ⟨ot_105, List.forall_mem_cons.mpr ⟨ot_106, List.forall_mem_cons.mpr ⟨ot_107, List.forall_mem_cons.mpr ⟨ot_108, List.forall_mem_cons.mpr ⟨ot_109, List.forall_mem_cons.mpr ⟨ot_110, List.forall_mem_cons.mpr ⟨ot_111, List.forall_mem_cons.mpr ⟨ot_112, List.forall_mem_cons.mpr ⟨ot_113, List.forall_mem_cons.mpr ⟨ot_114, List.forall_mem_cons.mpr ⟨ot_115, List.forall_mem_cons.mpr ⟨ot_116, List.forall_mem_cons.mpr ⟨ot_117, List.forall_mem_cons.mpr ⟨ot_118, List.forall_mem_cons.mpr ⟨ot_119, fun _ h => absurd h List.not_mem_nil⟩⟩⟩⟩⟩⟩⟩⟩⟩⟩⟩⟩⟩⟩⟩⟩⟩⟩⟩⟩⟩⟩⟩⟩⟩⟩⟩⟩⟩⟩
def mg_4 : List (ri_M × ri_T) := [md_120, md_121, md_122, md_123, md_124, md_125, md_126, md_127, md_128, md_129, md_130, md_131, md_132, md_133, md_134, md_135, md_136, md_137, md_138, md_139, md_140, md_141, md_142, md_143, md_144, md_145, md_146, md_147, md_148, md_149]
set_option maxRecDepth 100000 in
theorem mkg_4 : ∀ q ∈ mg_4, ∃ n, ri_Mk q.1 n := List.forall_mem_cons.mpr ⟨mk_120, List.forall_mem_cons.mpr ⟨mk_121, List.forall_mem_cons.mpr ⟨mk_122, List.forall_mem_cons.mpr ⟨mk_123, List.forall_mem_cons.mpr ⟨mk_124, List.forall_mem_cons.mpr ⟨mk_125, List.forall_mem_cons.mpr ⟨mk_126, List.forall_mem_cons.mpr ⟨mk_127, List.forall_mem_cons.mpr ⟨mk_128, List.forall_mem_cons.mpr ⟨mk_129, List.forall_mem_cons.mpr ⟨mk_130, List.forall_mem_cons.mpr ⟨mk_131, List.forall_mem_cons.mpr ⟨mk_132, List.forall_mem_cons.mpr ⟨mk_133, List.forall_mem_cons.mpr ⟨mk_134, List.forall_mem_cons.mpr ⟨mk_135, List.forall_mem_cons.mpr ⟨mk_136, List.forall_mem_cons.mpr ⟨mk_137, List.forall_mem_cons.mpr ⟨mk_138, List.forall_mem_cons.mpr ⟨mk_139, List.forall_mem_cons.mpr ⟨mk_140, List.forall_mem_cons.mpr ⟨mk_141, List.forall_mem_cons.mpr ⟨mk_142, List.forall_mem_cons.mpr ⟨mk_143, List.forall_mem_cons.mpr ⟨mk_144, List.forall_mem_cons.mpr ⟨mk_145, List.forall_mem_cons.mpr ⟨mk_146, List.forall_mem_cons.mpr ⟨mk_147, List.forall_mem_cons.mpr ⟨mk_148, List.forall_mem_cons.mpr ⟨mk_149, fun _ h => absurd h List.not_mem_nil⟩⟩⟩⟩⟩⟩⟩⟩⟩⟩⟩⟩⟩⟩⟩⟩⟩⟩⟩⟩⟩⟩⟩⟩⟩⟩⟩⟩⟩⟩
set_option maxRecDepth 100000 in
theorem otg_4 : ∀ q ∈ mg_4, ri_okT ri_md q = true := List.forall_mem_cons.mpr ⟨ot_120, List.forall_mem_cons.mpr ⟨ot_121, List.forall_mem_cons.mpr ⟨ot_122, List.forall_mem_cons.mpr ⟨ot_123, List.forall_mem_cons.mpr ⟨ot_124, List.forall_mem_cons.mpr ⟨ot_125, List.forall_mem_cons.mpr ⟨ot_126, List.forall_mem_cons.mpr ⟨ot_127, List.forall_mem_cons.mpr ⟨ot_128, List.forall_mem_cons.mpr ⟨ot_129, List.forall_mem_cons.mpr ⟨ot_130, List.forall_mem_cons.mpr ⟨ot_131, List.forall_mem_cons.mpr ⟨ot_132, List.forall_mem_cons.mpr ⟨ot_133, List.forall_mem_cons.mpr ⟨ot_134, List.forall_mem_cons.mpr ⟨ot_135, List.forall_mem_cons.mpr ⟨ot_136, List.forall_mem_cons.mpr ⟨ot_137, List.forall_mem_cons.mpr ⟨ot_138, List.forall_mem_cons.mpr ⟨ot_139, List.forall_mem_cons.mpr ⟨ot_140, List.forall_mem_cons.mpr ⟨ot_141, List.forall_mem_cons.mpr ⟨ot_142, List.forall_mem_cons.mpr ⟨ot_143, List.forall_mem_cons.mpr ⟨ot_144, List.forall_mem_cons.mpr ⟨ot_145, List.forall_mem_cons.mpr ⟨ot_146, List.forall_mem_cons.mpr ⟨ot_147, List.forall_mem_cons.mpr ⟨ot_148, List.forall_mem_cons.mpr ⟨ot_149, fun _ h => absurd h List.not_mem_nil⟩⟩⟩⟩⟩⟩⟩⟩⟩⟩⟩⟩⟩⟩⟩⟩⟩⟩⟩⟩⟩⟩⟩⟩⟩⟩⟩⟩⟩⟩
def mg_5 : List (ri_M × ri_T) := [md_150, md_151, md_152, md_153, md_154, md_155, md_156, md_157, md_158, md_159, md_160, md_161, md_162, md_163, md_164, md_165, md_166, md_167, md_168, md_169, md_170, md_171, md_172, md_173, md_174, md_175, md_176, md_177, md_178, md_179]
set_option maxRecDepth 100000 in
theorem mkg_5 : ∀ q ∈ mg_5, ∃ n, ri_Mk q.1 n := List.forall_mem_cons.mpr ⟨mk_150, List.forall_mem_cons.mpr ⟨mk_151, List.forall_mem_cons.mpr ⟨mk_152, List.forall_mem_cons.mpr ⟨mk_153, List.forall_mem_cons.mpr ⟨mk_154, List.forall_mem_cons.mpr ⟨mk_155, List.forall_mem_cons.mpr ⟨mk_156, List.forall_mem_cons.mpr ⟨mk_157, List.forall_mem_cons.mpr ⟨mk_158, List.forall_mem_cons.mpr ⟨mk_159, List.forall_mem_cons.mpr ⟨mk_160, List.forall_mem_cons.mpr ⟨mk_161, List.forall_mem_cons.mpr ⟨mk_162, List.forall_mem_cons.mpr ⟨mk_163, List.forall_mem_cons.mpr ⟨mk_164, List.forall_mem_cons.mpr ⟨mk_165, List.forall_mem_cons.mpr ⟨mk_166, List.forall_mem_cons.mpr ⟨mk_167, List.forall_mem_cons.mpr ⟨mk_168, List.forall_mem_cons.mpr ⟨mk_169, List.forall_mem_cons.mpr ⟨mk_170, List.forall_mem_cons.mpr ⟨mk_171, List.forall_mem_cons.mpr ⟨mk_172, List.forall_mem_cons.mpr ⟨mk_173, List.forall_mem_cons.mpr ⟨mk_174, List.forall_mem_cons.mpr ⟨mk_175, List.forall_mem_cons.mpr ⟨mk_176, List.forall_mem_cons.mpr ⟨mk_177, List.forall_mem_cons.mpr ⟨mk_178, List.forall_mem_cons.mpr ⟨mk_179, fun _ h => absurd h List.not_mem_nil⟩⟩⟩⟩⟩⟩⟩⟩⟩⟩⟩⟩⟩⟩⟩⟩⟩⟩⟩⟩⟩⟩⟩⟩⟩⟩⟩⟩⟩⟩
set_option maxRecDepth 100000 in
theorem otg_5 : ∀ q ∈ mg_5, ri_okT ri_md q = true := List.forall_mem_cons.mpr ⟨ot_150, List.forall_mem_cons.mpr ⟨ot_151, List.forall_mem_cons.mpr ⟨ot_152, List.forall_mem_cons.mpr ⟨ot_153, List.forall_mem_cons.mpr ⟨ot_154, List.forall_mem_cons.mpr ⟨ot_155, List.forall_mem_cons.mpr ⟨ot_156, List.forall_mem_cons.mpr ⟨ot_157, List.forall_mem_cons.mpr ⟨ot_158, List.forall_mem_cons.mpr ⟨ot_159, List.forall_mem_cons.mpr ⟨ot_160, List.forall_mem_cons.mpr ⟨ot_161, List.forall_mem_cons.mpr ⟨ot_162, List.forall_mem_cons.mpr ⟨ot_163, List.forall_mem_cons.mpr ⟨ot_164, List.forall_mem_cons.mpr ⟨ot_165, List.forall_mem_cons.mpr ⟨ot_166, List.forall_mem_cons.mpr ⟨ot_167, List.forall_mem_cons.mpr ⟨ot_168, List.forall_mem_cons.mpr ⟨ot_169, List.forall_mem_cons.mpr ⟨ot_170, List.forall_mem_cons.mpr ⟨ot_171, List.forall_mem_cons.mpr ⟨ot_172, List.forall_mem_cons.mpr ⟨ot_173, List.forall_mem_cons.mpr ⟨ot_174, List.forall_mem_cons.mpr ⟨ot_175, List.forall_mem_cons.mpr ⟨ot_176, List.forall_mem_cons.mpr ⟨ot_177, List.forall_mem_cons.mpr ⟨ot_178, List.forall_mem_cons.mpr ⟨ot_179, fun _ h => absurd h List.not_mem_nil⟩⟩⟩⟩⟩⟩⟩⟩⟩⟩⟩⟩⟩⟩⟩⟩⟩⟩⟩⟩⟩⟩⟩⟩⟩⟩⟩⟩⟩⟩
def mg_6 : List (ri_M × ri_T) := [md_180, md_181, md_182, md_183, md_184, md_185, md_186, md_187, md_188, md_189, md_190, md_191, md_192, md_193, md_194, md_195, md_196, md_197, md_198, md_199, md_200, md_201, md_202, md_203, md_204, md_205, md_206, md_207, md_208, md_209]
set_option maxRecDepth 100000 in
theorem mkg_6 : ∀ q ∈ mg_6, ∃ n, ri_Mk q.1 n := List.forall_mem_cons.mpr ⟨mk_180, List.forall_mem_cons.mpr ⟨mk_181, List.forall_mem_cons.mpr ⟨mk_182, List.forall_mem_cons.mpr ⟨mk_183, List.forall_mem_cons.mpr ⟨mk_184, List.forall_mem_cons.mpr ⟨mk_185, List.forall_mem_cons.mpr ⟨mk_186, List.forall_mem_cons.mpr ⟨mk_187, List.forall_mem_cons.mpr ⟨mk_188, List.forall_mem_cons.mpr ⟨mk_189, List.forall_mem_cons.mpr ⟨mk_190, List.forall_mem_cons.mpr ⟨mk_191, List.forall_mem_cons.mpr ⟨mk_192, List.forall_mem_cons.mpr ⟨mk_193, List.forall_mem_cons.mpr ⟨mk_194, List.forall_mem_cons.mpr ⟨mk_195, List.forall_mem_cons.mpr ⟨mk_196, List.forall_mem_cons.mpr ⟨mk_197, List.forall_mem_cons.mpr ⟨mk_198, List.forall_mem_cons.mpr ⟨mk_199, List.forall_mem_cons.mpr ⟨mk_200, List.forall_mem_cons.mpr ⟨mk_201, List.forall_mem_cons.mpr ⟨mk_202, List.forall_mem_cons.mpr ⟨mk_203, List.forall_mem_cons.mpr ⟨mk_204, List.forall_mem_cons.mpr ⟨mk_205, List.forall_mem_cons.mpr ⟨mk_206, List.forall_mem_cons.mpr ⟨mk_207, List.forall_mem_cons.mpr ⟨mk_208, List.forall_mem_cons.mpr ⟨mk_209, fun _ h => absurd h List.not_mem_nil⟩⟩⟩⟩⟩⟩⟩⟩⟩⟩⟩⟩⟩⟩⟩⟩⟩⟩⟩⟩⟩⟩⟩⟩⟩⟩⟩⟩⟩⟩
set_option maxRecDepth 100000 in
theorem otg_6 : ∀ q ∈ mg_6, ri_okT ri_md q = true := List.forall_mem_cons.mpr ⟨ot_180, List.forall_mem_cons.mpr ⟨ot_181, List.forall_mem_cons.mpr ⟨ot_182, List.forall_mem_cons.mpr ⟨ot_183, List.forall_mem_cons.mpr ⟨ot_184, List.forall_mem_cons.mpr ⟨ot_185, List.forall_mem_cons.mpr ⟨ot_186, List.forall_mem_cons.mpr ⟨ot_187, List.forall_mem_cons.mpr ⟨ot_188, List.forall_mem_cons.mpr ⟨ot_189, List.forall_mem_cons.mpr ⟨ot_190, List.forall_mem_cons.mpr ⟨ot_191, List.forall_mem_cons.mpr ⟨ot_192, List.forall_mem_cons.mpr ⟨ot_193, List.forall_mem_cons.mpr ⟨ot_194, List.forall_mem_cons.mpr ⟨ot_195, List.forall_mem_cons.mpr ⟨ot_196, List.forall_mem_cons.mpr ⟨ot_197, List.forall_mem_cons.mpr ⟨ot_198, List.forall_mem_cons.mpr ⟨ot_199, List.forall_mem_cons.mpr ⟨ot_200, List.forall_mem_cons.mpr ⟨ot_201, List.forall_mem_cons.mpr ⟨ot_202, List.forall_mem_cons.mpr ⟨ot_203, List.forall_mem_cons.mpr ⟨ot_204, List.forall_mem_cons.mpr ⟨ot_205, List.forall_mem_cons.mpr ⟨ot_206, List.forall_mem_cons.mpr ⟨ot_207, List.forall_mem_cons.mpr ⟨ot_208, List.forall_mem_cons.mpr ⟨ot_209, fun _ h => absurd h List.not_mem_nil⟩⟩⟩⟩⟩⟩⟩⟩⟩⟩⟩⟩⟩⟩⟩⟩⟩⟩⟩⟩⟩⟩⟩⟩⟩⟩⟩⟩⟩⟩
def mg_7 : List (ri_M × ri_T) := [md_210, md_211, md_212, md_213, md_214, md_215, md_216, md_217, md_218, md_219, md_220, md_221, md_222, md_223, md_224, md_225, md_226, md_227, md_228, md_229, md_230, md_231, md_232, md_233, md_234, md_235, md_236, md_237, md_238, md_239]
set_option maxRecDepth 100000 in
theorem mkg_7 : ∀ q ∈ mg_7, ∃ n, ri_Mk q.1 n := List.forall_mem_cons.mpr ⟨mk_210, List.forall_mem_cons.mpr ⟨mk_211, List.forall_mem_cons.mpr ⟨mk_212, List.forall_mem_cons.mpr ⟨mk_213, List.forall_mem_cons.mpr ⟨mk_214, List.forall_mem_cons.mpr ⟨mk_215, List.forall_mem_cons.mpr ⟨mk_216, List.forall_mem_cons.mpr ⟨mk_217, List.forall_mem_cons.mpr ⟨mk_218, List.forall_mem_cons.mpr ⟨mk_219, List.forall_mem_cons.mpr ⟨mk_220, List.forall_mem_cons.mpr ⟨mk_221, List.forall_mem_cons.mpr ⟨mk_222, List.forall_mem_cons.mpr ⟨mk_223, List.forall_mem_cons.mpr ⟨mk_224, List.forall_mem_cons.mpr ⟨mk_225, List.forall_mem_cons.mpr ⟨mk_226, List.forall_mem_cons.mpr ⟨mk_227, List.forall_mem_cons.mpr ⟨mk_228, List.forall_mem_cons.mpr ⟨mk_229, List.forall_mem_cons.mpr ⟨mk_230, List.forall_mem_cons.mpr ⟨mk_231, List.forall_mem_cons.mpr ⟨mk_232, List.forall_mem_cons.mpr ⟨mk_233, List.forall_mem_cons.mpr ⟨mk_234, List.forall_mem_cons.mpr ⟨mk_235, List.forall_mem_cons.mpr ⟨mk_236, List.forall_mem_cons.mpr ⟨mk_237, List.forall_mem_cons.mpr ⟨mk_238, List.forall_mem_cons.mpr ⟨mk_239, fun _ h => absurd h List.not_mem_nil⟩⟩⟩⟩⟩⟩⟩⟩⟩⟩⟩⟩⟩⟩⟩⟩⟩⟩⟩⟩⟩⟩⟩⟩⟩⟩⟩⟩⟩⟩
set_option maxRecDepth 100000 in
theorem otg_7 : ∀ q ∈ mg_7, ri_okT ri_md q = true := List.forall_mem_cons.mpr ⟨ot_210, List.forall_mem_cons.mpr ⟨ot_211, List.forall_mem_cons.mpr ⟨ot_212, List.forall_mem_cons.mpr ⟨ot_213, List.forall_mem_cons.mpr ⟨ot_214, List.forall_mem_cons.mpr ⟨ot_215, List.forall_mem_cons.mpr ⟨ot_216, List.forall_mem_cons.mpr ⟨ot_217, List.forall_mem_cons.mpr ⟨ot_218, List.forall_mem_cons.mpr ⟨ot_219, List.forall_mem_cons.mpr ⟨ot_220, List.forall_mem_cons.mpr ⟨ot_221, List.forall_mem_cons.mpr ⟨ot_222, List.forall_mem_cons.mpr ⟨ot_223, List.forall_mem_cons.mpr ⟨ot_224, List.forall_mem_cons.mpr ⟨ot_225, List.forall_mem_cons.mpr ⟨ot_226, List.forall_mem_cons.mpr ⟨ot_227, List.forall_mem_cons.mpr ⟨ot_228, List.forall_mem_cons.mpr ⟨ot_229, List.forall_mem_cons.mpr ⟨ot_230, List.forall_mem_cons.mpr ⟨ot_231, List.forall_mem_cons.mpr ⟨ot_232, List.forall_mem_cons.mpr ⟨ot_233, List.forall_mem_cons.mpr ⟨ot_234, List.forall_mem_cons.mpr ⟨ot_235, List.forall_mem_cons.mpr ⟨ot_236, List.forall_mem_cons.mpr ⟨ot_237, List.forall_mem_cons.mpr ⟨ot_238, List.forall_mem_cons.mpr ⟨ot_239, fun _ h => absurd h List.not_mem_nil⟩⟩⟩⟩⟩⟩⟩⟩⟩⟩⟩⟩⟩⟩⟩⟩⟩⟩⟩⟩⟩⟩⟩⟩⟩⟩⟩⟩⟩⟩
def mg_8 : List (ri_M × ri_T) := [md_240, md_241, md_242, md_243, md_244, md_245, md_246, md_247, md_248, md_249, md_250, md_251, md_252, md_253, md_254, md_255, md_256, md_257, md_258, md_259, md_260, md_261, md_262, md_263, md_264, md_265, md_266]
set_option maxRecDepth 100000 in
theorem mkg_8 : ∀ q ∈ mg_8, ∃ n, ri_Mk q.1 n := List.forall_mem_cons.mpr ⟨mk_240, List.forall_mem_cons.mpr ⟨mk_241, List.forall_mem_cons.mpr ⟨mk_242, List.forall_mem_cons.mpr ⟨mk_243, List.forall_mem_cons.mpr ⟨mk_244, List.forall_mem_cons.mpr ⟨mk_245, List.forall_mem_cons.mpr ⟨mk_246, List.forall_mem_cons.mpr ⟨mk_247, List.forall_mem_cons.mpr ⟨mk_248, List.forall_mem_cons.mpr ⟨mk_249, List.forall_mem_cons.mpr ⟨mk_250, List.forall_mem_cons.mpr ⟨mk_251, List.forall_mem_cons.mpr ⟨mk_252, List.forall_mem_cons.mpr ⟨mk_253, List.forall_mem_cons.mpr ⟨mk_254, List.forall_mem_cons.mpr ⟨mk_255, List.forall_mem_cons.mpr ⟨mk_256, List.forall_mem_cons.mpr ⟨mk_257, List.forall_mem_cons.mpr ⟨mk_258, List.forall_mem_cons.mpr ⟨mk_259, List.forall_mem_cons.mpr ⟨mk_260, List.forall_mem_cons.mpr ⟨mk_261, List.forall_mem_cons.mpr ⟨mk_262, List.forall_mem_cons.mpr ⟨mk_263, List.forall_mem_cons.mpr ⟨mk_264, List.forall_mem_cons.mpr ⟨mk_265, List.forall_mem_cons.mpr ⟨mk_266, fun _ h => absurd h List.not_mem_nil⟩⟩⟩⟩⟩⟩⟩⟩⟩⟩⟩⟩⟩⟩⟩⟩⟩⟩⟩⟩⟩⟩⟩⟩⟩⟩⟩
set_option maxRecDepth 100000 in
theorem otg_8 : ∀ q ∈ mg_8, ri_okT ri_md q = true := List.forall_mem_cons.mpr ⟨ot_240, List.forall_mem_cons.mpr ⟨ot_241, List.forall_mem_cons.mpr ⟨ot_242, List.forall_mem_cons.mpr ⟨ot_243, List.forall_mem_cons.mpr ⟨ot_244, List.forall_mem_cons.mpr ⟨ot_245, List.forall_mem_cons.mpr ⟨ot_246, List.forall_mem_cons.mpr ⟨ot_247, List.forall_mem_cons.mpr ⟨ot_248, List.forall_mem_cons.mpr ⟨ot_249, List.forall_mem_cons.mpr ⟨ot_250, List.forall_mem_cons.mpr ⟨ot_251, List.forall_mem_cons.mpr ⟨ot_252, List.forall_mem_cons.mpr ⟨ot_253, List.forall_mem_cons.mpr ⟨ot_254, List.forall_mem_cons.mpr ⟨ot_255, List.forall_mem_cons.mpr ⟨ot_256, List.forall_mem_cons.mpr ⟨ot_257, List.forall_mem_cons.mpr ⟨ot_258, List.forall_mem_cons.mpr ⟨ot_259, List.forall_mem_cons.mpr ⟨ot_260, List.forall_mem_cons.mpr ⟨ot_261, List.forall_mem_cons.mpr ⟨ot_262, List.forall_mem_cons.mpr ⟨ot_263, List.forall_mem_cons.mpr ⟨ot_264, List.forall_mem_cons.mpr ⟨ot_265, List.forall_mem_cons.mpr ⟨ot_266, fun _ h => absurd h List.not_mem_nil⟩⟩⟩⟩⟩⟩⟩⟩⟩⟩⟩⟩⟩⟩⟩⟩⟩⟩⟩⟩⟩⟩⟩⟩⟩⟩⟩
set_option maxRecDepth 100000 in
theorem ri_md_eq : ri_md = mg_0 ++ (mg_1 ++ (mg_2 ++ (mg_3 ++ (mg_4 ++ (mg_5 ++ (mg_6 ++ (mg_7 ++ (mg_8)))))))) := rfl
set_option maxRecDepth 100000 in
theorem ri_mk_all : ∀ (j : Nat) (q : ri_M × ri_T), ri_md[j]? = some q → ∃ n, ri_Mk q.1 n := by
  intro j q h
  have hm := List.mem_of_getElem? h
  rw [ri_md_eq] at hm
  exact (show ∀ q ∈ mg_0 ++ (mg_1 ++ (mg_2 ++ (mg_3 ++ (mg_4 ++ (mg_5 ++ (mg_6 ++ (mg_7 ++ (mg_8)))))))), ∃ n, ri_Mk q.1 n from List.forall_mem_append.mpr ⟨mkg_0, List.forall_mem_append.mpr ⟨mkg_1, List.forall_mem_append.mpr ⟨mkg_2, List.forall_mem_append.mpr ⟨mkg_3, List.forall_mem_append.mpr ⟨mkg_4, List.forall_mem_append.mpr ⟨mkg_5, List.forall_mem_append.mpr ⟨mkg_6, List.forall_mem_append.mpr ⟨mkg_7, mkg_8⟩⟩⟩⟩⟩⟩⟩⟩) q hm
set_option maxRecDepth 100000 in
theorem ri_ot_all : ∀ (j : Nat) (q : ri_M × ri_T), ri_md[j]? = some q → ri_okT ri_md q = true := by
  intro j q h
  have hm := List.mem_of_getElem? h
  rw [ri_md_eq] at hm
  exact (show ∀ q ∈ mg_0 ++ (mg_1 ++ (mg_2 ++ (mg_3 ++ (mg_4 ++ (mg_5 ++ (mg_6 ++ (mg_7 ++ (mg_8)))))))), ri_okT ri_md q = true from List.forall_mem_append.mpr ⟨otg_0, List.forall_mem_append.mpr ⟨otg_1, List.forall_mem_append.mpr ⟨otg_2, List.forall_mem_append.mpr ⟨otg_3, List.forall_mem_append.mpr ⟨otg_4, List.forall_mem_append.mpr ⟨otg_5, List.forall_mem_append.mpr ⟨otg_6, List.forall_mem_append.mpr ⟨otg_7, otg_8⟩⟩⟩⟩⟩⟩⟩⟩) q hm
/-- A CALL of the abstract machine, over this program, is a contract -/
theorem ri_run (l : Launch) (E : ri_V) (D : va_G) (cA : Nat → ClassId) {dc : ri_O} (hdc : ∀ q ∈ dc, ri_hd q.1 (ri_ic E q.2.1) (ri_ic E q.2.2.1) = q.2.2.2) {d j : Nat} {q : ri_M × ri_T} {as : List Value} {h : ri_H} {v : Option Value} {h' : ri_H} (hq : ri_md[j]? = some q) (hs : ri_call dc ri_md d j as h = some (v, h')) : ri_Met l E D cA d q.1 as h (fun a b => a = v ∧ b = h') := ri_met l E D cA ri_mk_all ri_ot_all hdc d j q as h v h' hq hs
end
section
/-- the heap behind the two constructors: the class at 0, the reference at 209, the law's long[1] at 227 -/
def h_fr : ri_H := [
  (11, [.ref 1, .int 0, .ref 2, .ref 4, .ref 17, .ref 23, .ref 35, .ref 45, .ref 55, .ref 137, .ref 142, .ref 199, .ref 203, .ref 207, .ref 208, .int 0, .int (-1)]),
  (14, List.replicate 940 (.int 0)),
  (8, [.ref 1, .ref 3, .int 0, .int 0, .int 0, .int 0, .int 0, .int (-1), .long 0, .int 0, .int 0]),
  (15, [.long 3322259, .long 20201198, .long 11703827, .long 479437459, .long 9317, .long 3749, .long 408538606, .long 21643763890, .long 80948, .long 20201203, .long 19183859, .long 19965331, .long 4153, .long 498, .long 1476, .long 14836, .long 12009198, .long 21467193, .long 52, .long 89, .long 21279923, .long 20583955, .long 146885, .long 492210354]),
  (5, [.ref 2, .ref 5, .int 0]),
  (4, [.ref 6, .int 0, .ref 7, .ref 8, .ref 9, .ref 10, .ref 11, .ref 12, .ref 13, .ref 14, .ref 15, .ref 16, .int 0]),
  (13, [.int 4, .int 3, .int 20, .int 0, .int 0]),
  (13, [.int 0, .int 0, .int 0, .int 0]),
  (13, List.replicate 8 (.int 0)),
  (13, List.replicate 6 (.int 0)),
  (13, List.replicate 8 (.int 0)),
  (13, List.replicate 64 (.int 0)),
  (13, List.replicate 8 (.int 0)),
  (13, List.replicate 6 (.int 0)),
  (15, List.replicate 24 (.long 0)),
  (13, List.replicate 24 (.int 0)),
  (13, List.replicate 24 (.int 0)),
  (10, [.ref 2, .ref 18]),
  (9, [.int 0, .int 0, .ref 19, .ref 20, .ref 21, .ref 22]),
  (13, List.replicate 40 (.int 0)),
  (13, List.replicate 40 (.int 0)),
  (13, List.replicate 40 (.int 0)),
  (13, List.replicate 40 (.int 0)),
  (4, [.ref 24, .int 0, .ref 25, .ref 26, .ref 27, .ref 28, .ref 29, .ref 30, .ref 31, .ref 32, .ref 33, .ref 34, .int 0]),
  (13, [.int 4, .int 3, .int 20, .int 0, .int 0]),
  (13, [.int 0, .int 0, .int 0, .int 0]),
  (13, List.replicate 8 (.int 0)),
  (13, List.replicate 6 (.int 0)),
  (13, List.replicate 8 (.int 0)),
  (13, List.replicate 64 (.int 0)),
  (13, List.replicate 8 (.int 0)),
  (13, List.replicate 6 (.int 0)),
  (15, List.replicate 24 (.long 0)),
  (13, List.replicate 24 (.int 0)),
  (13, List.replicate 24 (.int 0)),
  (6, List.replicate 7 (.int 0) ++ [.ref 36, .ref 37, .ref 38, .ref 39, .ref 40, .ref 41, .ref 42, .ref 43, .ref 44]),
  (13, List.replicate 8 (.int (-1))),
  (13, List.replicate 8 (.int 0)),
  (13, List.replicate 8 (.int 0)),
  (13, List.replicate 8 (.int 0)),
  (13, List.replicate 8 (.int 0)),
  (13, List.replicate 8 (.int 0)),
  (13, List.replicate 6 (.int 0)),
  (13, List.replicate 6 (.int 0)),
  (13, List.replicate 6 (.int 0)),
  (6, List.replicate 7 (.int 0) ++ [.ref 46, .ref 47, .ref 48, .ref 49, .ref 50, .ref 51, .ref 52, .ref 53, .ref 54]),
  (13, List.replicate 8 (.int (-1))),
  (13, List.replicate 8 (.int 0)),
  (13, List.replicate 8 (.int 0)),
  (13, List.replicate 8 (.int 0)),
  (13, List.replicate 8 (.int 0)),
  (13, List.replicate 8 (.int 0)),
  (13, List.replicate 6 (.int 0)),
  (13, List.replicate 6 (.int 0)),
  (13, List.replicate 6 (.int 0)),
  (7, [.ref 56, .int 0, .int 0]),
  (17, [.ref 57, .ref 67, .ref 77, .ref 87, .ref 97, .ref 107, .ref 117, .ref 127]),
  (6, List.replicate 7 (.int 0) ++ [.ref 58, .ref 59, .ref 60, .ref 61, .ref 62, .ref 63, .ref 64, .ref 65, .ref 66]),
  (13, List.replicate 8 (.int (-1))),
  (13, List.replicate 8 (.int 0)),
  (13, List.replicate 8 (.int 0)),
  (13, List.replicate 8 (.int 0)),
  (13, List.replicate 8 (.int 0)),
  (13, List.replicate 8 (.int 0)),
  (13, List.replicate 6 (.int 0)),
  (13, List.replicate 6 (.int 0)),
  (13, List.replicate 6 (.int 0)),
  (6, List.replicate 7 (.int 0) ++ [.ref 68, .ref 69, .ref 70, .ref 71, .ref 72, .ref 73, .ref 74, .ref 75, .ref 76]),
  (13, List.replicate 8 (.int (-1))),
  (13, List.replicate 8 (.int 0)),
  (13, List.replicate 8 (.int 0)),
  (13, List.replicate 8 (.int 0)),
  (13, List.replicate 8 (.int 0)),
  (13, List.replicate 8 (.int 0)),
  (13, List.replicate 6 (.int 0)),
  (13, List.replicate 6 (.int 0)),
  (13, List.replicate 6 (.int 0)),
  (6, List.replicate 7 (.int 0) ++ [.ref 78, .ref 79, .ref 80, .ref 81, .ref 82, .ref 83, .ref 84, .ref 85, .ref 86]),
  (13, List.replicate 8 (.int (-1))),
  (13, List.replicate 8 (.int 0)),
  (13, List.replicate 8 (.int 0)),
  (13, List.replicate 8 (.int 0)),
  (13, List.replicate 8 (.int 0)),
  (13, List.replicate 8 (.int 0)),
  (13, List.replicate 6 (.int 0)),
  (13, List.replicate 6 (.int 0)),
  (13, List.replicate 6 (.int 0)),
  (6, List.replicate 7 (.int 0) ++ [.ref 88, .ref 89, .ref 90, .ref 91, .ref 92, .ref 93, .ref 94, .ref 95, .ref 96]),
  (13, List.replicate 8 (.int (-1))),
  (13, List.replicate 8 (.int 0)),
  (13, List.replicate 8 (.int 0)),
  (13, List.replicate 8 (.int 0)),
  (13, List.replicate 8 (.int 0)),
  (13, List.replicate 8 (.int 0)),
  (13, List.replicate 6 (.int 0)),
  (13, List.replicate 6 (.int 0)),
  (13, List.replicate 6 (.int 0)),
  (6, List.replicate 7 (.int 0) ++ [.ref 98, .ref 99, .ref 100, .ref 101, .ref 102, .ref 103, .ref 104, .ref 105, .ref 106]),
  (13, List.replicate 8 (.int (-1))),
  (13, List.replicate 8 (.int 0)),
  (13, List.replicate 8 (.int 0)),
  (13, List.replicate 8 (.int 0)),
  (13, List.replicate 8 (.int 0)),
  (13, List.replicate 8 (.int 0)),
  (13, List.replicate 6 (.int 0)),
  (13, List.replicate 6 (.int 0)),
  (13, List.replicate 6 (.int 0)),
  (6, List.replicate 7 (.int 0) ++ [.ref 108, .ref 109, .ref 110, .ref 111, .ref 112, .ref 113, .ref 114, .ref 115, .ref 116]),
  (13, List.replicate 8 (.int (-1))),
  (13, List.replicate 8 (.int 0)),
  (13, List.replicate 8 (.int 0)),
  (13, List.replicate 8 (.int 0)),
  (13, List.replicate 8 (.int 0)),
  (13, List.replicate 8 (.int 0)),
  (13, List.replicate 6 (.int 0)),
  (13, List.replicate 6 (.int 0)),
  (13, List.replicate 6 (.int 0)),
  (6, List.replicate 7 (.int 0) ++ [.ref 118, .ref 119, .ref 120, .ref 121, .ref 122, .ref 123, .ref 124, .ref 125, .ref 126]),
  (13, List.replicate 8 (.int (-1))),
  (13, List.replicate 8 (.int 0)),
  (13, List.replicate 8 (.int 0)),
  (13, List.replicate 8 (.int 0)),
  (13, List.replicate 8 (.int 0)),
  (13, List.replicate 8 (.int 0)),
  (13, List.replicate 6 (.int 0)),
  (13, List.replicate 6 (.int 0)),
  (13, List.replicate 6 (.int 0)),
  (6, List.replicate 7 (.int 0) ++ [.ref 128, .ref 129, .ref 130, .ref 131, .ref 132, .ref 133, .ref 134, .ref 135, .ref 136]),
  (13, List.replicate 8 (.int (-1))),
  (13, List.replicate 8 (.int 0)),
  (13, List.replicate 8 (.int 0)),
  (13, List.replicate 8 (.int 0)),
  (13, List.replicate 8 (.int 0)),
  (13, List.replicate 8 (.int 0)),
  (13, List.replicate 6 (.int 0)),
  (13, List.replicate 6 (.int 0)),
  (13, List.replicate 6 (.int 0)),
  (9, [.int 0, .int 0, .ref 138, .ref 139, .ref 140, .ref 141]),
  (13, List.replicate 40 (.int 0)),
  (13, List.replicate 40 (.int 0)),
  (13, List.replicate 40 (.int 0)),
  (13, List.replicate 40 (.int 0)),
  (18, [.ref 143, .ref 171]),
  (3, [.ref 144, .ref 156, .ref 166, .int 0]),
  (4, [.ref 145, .int 0, .ref 146, .ref 147, .ref 148, .ref 149, .ref 150, .ref 151, .ref 152, .ref 153, .ref 154, .ref 155, .int 0]),
  (13, [.int 4, .int 3, .int 20, .int 0, .int 0]),
  (13, [.int 0, .int 0, .int 0, .int 0]),
  (13, List.replicate 8 (.int 0)),
  (13, List.replicate 6 (.int 0)),
  (13, List.replicate 8 (.int 0)),
  (13, List.replicate 64 (.int 0)),
  (13, List.replicate 8 (.int 0)),
  (13, List.replicate 6 (.int 0)),
  (15, List.replicate 24 (.long 0)),
  (13, List.replicate 24 (.int 0)),
  (13, List.replicate 24 (.int 0)),
  (6, List.replicate 7 (.int 0) ++ [.ref 157, .ref 158, .ref 159, .ref 160, .ref 161, .ref 162, .ref 163, .ref 164, .ref 165]),
  (13, List.replicate 8 (.int (-1))),
  (13, List.replicate 8 (.int 0)),
  (13, List.replicate 8 (.int 0)),
  (13, List.replicate 8 (.int 0)),
  (13, List.replicate 8 (.int 0)),
  (13, List.replicate 8 (.int 0)),
  (13, List.replicate 6 (.int 0)),
  (13, List.replicate 6 (.int 0)),
  (13, List.replicate 6 (.int 0)),
  (9, [.int 0, .int 0, .ref 167, .ref 168, .ref 169, .ref 170]),
  (13, List.replicate 40 (.int 0)),
  (13, List.replicate 40 (.int 0)),
  (13, List.replicate 40 (.int 0)),
  (13, List.replicate 40 (.int 0)),
  (3, [.ref 172, .ref 184, .ref 194, .int 0]),
  (4, [.ref 173, .int 0, .ref 174, .ref 175, .ref 176, .ref 177, .ref 178, .ref 179, .ref 180, .ref 181, .ref 182, .ref 183, .int 0]),
  (13, [.int 4, .int 3, .int 20, .int 0, .int 0]),
  (13, [.int 0, .int 0, .int 0, .int 0]),
  (13, List.replicate 8 (.int 0)),
  (13, List.replicate 6 (.int 0)),
  (13, List.replicate 8 (.int 0)),
  (13, List.replicate 64 (.int 0)),
  (13, List.replicate 8 (.int 0)),
  (13, List.replicate 6 (.int 0)),
  (15, List.replicate 24 (.long 0)),
  (13, List.replicate 24 (.int 0)),
  (13, List.replicate 24 (.int 0)),
  (6, List.replicate 7 (.int 0) ++ [.ref 185, .ref 186, .ref 187, .ref 188, .ref 189, .ref 190, .ref 191, .ref 192, .ref 193]),
  (13, List.replicate 8 (.int (-1))),
  (13, List.replicate 8 (.int 0)),
  (13, List.replicate 8 (.int 0)),
  (13, List.replicate 8 (.int 0)),
  (13, List.replicate 8 (.int 0)),
  (13, List.replicate 8 (.int 0)),
  (13, List.replicate 6 (.int 0)),
  (13, List.replicate 6 (.int 0)),
  (13, List.replicate 6 (.int 0)),
  (9, [.int 0, .int 0, .ref 195, .ref 196, .ref 197, .ref 198]),
  (13, List.replicate 40 (.int 0)),
  (13, List.replicate 40 (.int 0)),
  (13, List.replicate 40 (.int 0)),
  (13, List.replicate 40 (.int 0)),
  (0, [.ref 200, .ref 201, .ref 202, .int 0]),
  (13, List.replicate 40 (.int 0)),
  (13, List.replicate 40 (.int 0)),
  (13, List.replicate 40 (.int 0)),
  (2, [.int (-1), .int (-1), .int (-1), .ref 204, .int 0, .ref 205, .int 0, .ref 206]),
  (13, List.replicate 6 (.int 0)),
  (13, List.replicate 256 (.int 0)),
  (13, List.replicate 256 (.int 0)),
  (1, [.int 0]),
  (13, [.int (-1), .int (-1), .int (-1), .int (-1)]),
  (12, [.int 0, .ref 210, .int 0, .int 0, .int 0, .int 0, .ref 211, .ref 212, .ref 213, .ref 214, .ref 215] ++ List.replicate 6 (.int 0) ++ [.long 0, .int 0, .int 0, .int 0, .ref 216, .int 0, .ref 217, .ref 218, .int 0, .ref 219, .ref 220] ++ List.replicate 8 (.int 0) ++ [.ref 221, .int 0, .ref 222, .int 0, .int 0, .int 0, .int 0, .int 0, .ref 223, .ref 224, .ref 225, .ref 226]),
  (14, List.replicate 940 (.int 0)),
  (13, [.int 4, .int 3, .int 20, .int 0, .int 0, .int 0, .int 0, .int 0, .int (-1)] ++ List.replicate 346 (.int 0)),
  (13, [.int 4, .int 3, .int 20, .int 0, .int 0, .int 0, .int 0, .int 0, .int (-1)] ++ List.replicate 87 (.int 0)),
  (13, List.replicate 135 (.int 0)),
  (15, List.replicate 48 (.long 0)),
  (15, [.long 426903366771, .long 495673374574, .long 461262647411, .long 121398985520243, .long 6906725, .long 6518117, .long 119182984441710, .long 32762566252455282, .long 1651466612, .long 495673374579, .long 491395114867, .long 495555538035, .long 6578553, .long 28530, .long 6385252, .long 7237492, .long 461414299502, .long 500085055865, .long 24948, .long 25209, .long 499984983411, .long 495874044019, .long 1685024357, .long 121450625394034]),
  (13, List.replicate 8 (.int 0)),
  (13, List.replicate 624 (.int 0)),
  (13, List.replicate 78 (.int 0)),
  (16, List.replicate 256 (.int 0)),
  (13, List.replicate 256 (.int 0)),
  (13, [.int 0, .int 0, .int 0, .int 0]),
  (13, List.replicate 45 (.int 0)),
  (16, List.replicate 45 (.int 0)),
  (13, List.replicate 710 (.int 0)),
  (15, List.replicate 48 (.long 0)),
  (16, [.int 0, .int 0]),
  (15, [.long 0])]
def ri_law : ri_M × ri_T := ((x, code, 7, some .boolean, "LakeLearnsLaw", 600002, 7302232), [
  (41, [(0, (.new 8, 3, [11, 123, 124, 99], .null)), (3, (.dup, 1, [], .null)), (4, (.invokespecial 15, 3, [2, 100, 0, 11, 125, 126], .null)), (7, (.astore_n 1, 1, [], .null)), (8, (.new 16, 3, [12, 1291, 1285, 115], .null)), (11, (.dup, 1, [], .null)), (12, (.invokespecial 18, 3, [2, 153, 0, 12, 1292, 1293], .null)), (15, (.astore_n 2, 1, [], .null)), (16, (.iconst 1, 1, [], .null)), (17, (.newarray .long, 2, [232], .null)), (19, (.astore_n 3, 1, [], .null)), (20, (.iconst 0, 1, [], .null)), (21, (.istore 4, 2, [], .null)), (40, (.tableswitch 1198 0 38 #[172, 245, 270, 283, 296, 336, 373, 410, 435, 460, 497, 522, 559, 584, 597, 634, 671, 696, 721, 734, 747, 760, 773, 798, 811, 836, 861, 886, 911, 924, 949, 986, 1035, 1060, 1085, 1098, 1123, 1148, 1173], 172, [1238, 212, 285, 310, 323, 336, 376, 413, 450, 475, 500, 537, 562, 599, 624, 637, 674, 711, 736, 761, 774, 787, 800, 813, 838, 851, 876, 901, 926, 951, 964, 989, 1026, 1075, 1100, 1125, 1138, 1163, 1188, 1213], .null))])])
/-- n steps -/
noncomputable def ri_sn (stp : ri_F → Option ri_F) (n : Nat) : ri_F → Option ri_F :=
  Nat.rec (motive := fun _ => ri_F → Option ri_F) (fun f => some f) (fun _ ih f => match stp f with
    | some f' => ih f'
    | none => none) n
def lo_law : List (Nat × Value) := [(4, .int 0), (3, .ref 227), (2, .ref 209), (1, .ref 0), (0, .retAddr 8)]
end
section
def ri_eqC (a b : ri_C) : Bool := Nat.beq a.1 b.1 && decide (a.2 = b.2)
def ri_eqH : ri_H → ri_H → Bool
  | [], [] => true
  | a :: s, b :: t => ri_eqC a b && ri_eqH s t
  | _, _ => false
theorem ri_eqH_ok : ∀ (s t : ri_H), ri_eqH s t = true → s = t
  | [], [], _ => rfl
  | a :: s, b :: t, h => by
    have h : (ri_eqC a b && ri_eqH s t) = true := h
    obtain ⟨h1, h2⟩ := (Bool.and_eq_true _ _).mp h
    obtain ⟨h3, h4⟩ := (Bool.and_eq_true _ _).mp h1
    rw [ri_eqH_ok s t h2, show a = b from Prod.ext (Nat.eq_of_beq_eq_true h3) (of_decide_eq_true h4)]
  | [], _ :: _, h => by cases h
  | _ :: _, [], h => by cases h
def ri_eqF (f g : ri_F) : Bool := Nat.beq f.1 g.1 && (decide (f.2.1 = g.2.1) && (decide (f.2.2.1 = g.2.2.1) && (ri_eqH f.2.2.2.1 g.2.2.2.1 && (Nat.beq f.2.2.2.2.1 g.2.2.2.2.1 && Nat.beq f.2.2.2.2.2 g.2.2.2.2.2))))
theorem ri_eqF_ok {f g : ri_F} (h : ri_eqF f g = true) : f = g := by
  unfold ri_eqF at h
  simp only [Bool.and_eq_true, decide_eq_true_eq, Nat.beq_eq] at h
  obtain ⟨h1, h2, h3, h4, h5, h6⟩ := h
  have h4 := ri_eqH_ok _ _ h4
  obtain ⟨a1, a2, a3, a4, a5, a6⟩ := f
  obtain ⟨b1, b2, b3, b4, b5, b6⟩ := g
  dsimp only at h1 h2 h3 h4 h5 h6
  rw [h1, h2, h3, h4, h5, h6]
def ri_is (o : Option ri_F) (g : ri_F) : Bool := match o with
  | some f => ri_eqF f g
  | none => false
theorem ri_is_ok {o : Option ri_F} {g : ri_F} (h : ri_is o g = true) : o = some g := by
  cases o with
  | none => cases h
  | some f => rw [ri_eqF_ok (show ri_eqF f g = true from h)]
/-- a call that is known by a contract of its own, beside the others -/
noncomputable def ri_kn1 (cal : Nat → List Value → ri_H → Option (Option Value × ri_H)) (j0 : Nat) (as0 : List Value) (h0 h1 : ri_H) : Nat → List Value → ri_H → Option (Option Value × ri_H) := fun j as h => bif Nat.beq j j0 && (decide (as = as0) && ri_eqH h h0) then some (none, h1) else cal j as h
theorem ri_kn1_ok {l : Launch} {E : ri_V} {D : va_G} {cA : Nat → ClassId} {md : List (ri_M × ri_T)} {d : Nat} {cal : Nat → List Value → ri_H → Option (Option Value × ri_H)} {j0 : Nat} {as0 : List Value} {h0 h1 : ri_H} {q0 : ri_M × ri_T} (hc : ∀ (j : Nat) (q : ri_M × ri_T) (as : List Value) (h : ri_H) (v : Option Value) (h' : ri_H), md[j]? = some q → cal j as h = some (v, h') → ri_Met l E D cA d q.1 as h (fun a b => a = v ∧ b = h')) (hq0 : md[j0]? = some q0) (hM : ri_Met l E D cA d q0.1 as0 h0 (fun a b => a = none ∧ b = h1)) :
    ∀ (j : Nat) (q : ri_M × ri_T) (as : List Value) (h : ri_H) (v : Option Value) (h' : ri_H), md[j]? = some q → ri_kn1 cal j0 as0 h0 h1 j as h = some (v, h') → ri_Met l E D cA d q.1 as h (fun a b => a = v ∧ b = h') := by
  intro j q as h v h' hq hs
  unfold ri_kn1 at hs
  cases hg : (Nat.beq j j0 && (decide (as = as0) && ri_eqH h h0)) with
  | true =>
    rw [hg] at hs
    simp only [Bool.and_eq_true, Nat.beq_eq, decide_eq_true_eq] at hg
    obtain ⟨rfl, rfl, hh⟩ := hg
    have hh := ri_eqH_ok _ _ hh
    subst hh
    cases hq0.symm.trans hq
    have hs := Option.some.inj (show some (none, h1) = some (v, h') from hs)
    cases hs
    exact hM
  | false =>
    rw [hg] at hs
    exact hc j q as h v h' hq hs
theorem ri_sn_done {stp : ri_F → Option ri_F} (hst : ∀ f : ri_F, f.1 = 70000 → stp f = some f) : ∀ (n : Nat) (f : ri_F), f.1 = 70000 → ri_sn stp n f = some f
  | 0, _, _ => rfl
  | n + 1, f, hf => by
    show (match stp f with
      | some f' => ri_sn stp n f'
      | none => none) = some f
    rw [hst f hf]
    exact ri_sn_done hst n f hf
theorem ri_st_done {dc : ri_O} {cal : Nat → List Value → ri_H → Option (Option Value × ri_H)} {bud : Nat → Option (Nat × Nat)} {q : ri_M × ri_T} (f : ri_F) (hf : f.1 = 70000) : ri_st dc cal bud q f = some f := by
  unfold ri_st
  rw [hf]
  rfl
section RIL
variable {p : Program} {l : Launch} {e : Env} {R : Room} {s : State} {m : MethodId} {args : Array Value} {below : List Frame} {meth : Method} {c : Code} {Q : State → Prop} {E : ri_V} {D : va_G} {cA : Nat → ClassId} {d : Nat} {dc : ri_O} {md : List (ri_M × ri_T)} {cal : Nat → List Value → ri_H → Option (Option Value × ri_H)}
theorem ri_sn_snd {q : ri_M × ri_T} (X : ri_Cx p s m args meth c E D cA q.1) (C : ri_Ca l E D cA md cal d q.1 R) (hdc : ∀ q ∈ dc, ri_hd q.1 (ri_ic E q.2.1) (ri_ic E q.2.2.1) = q.2.2.2) (hT : ri_okT md q = true) (hrt : meth.sig.returnType = q.1.2.2.2.1) (hlocks : meth.locks = false) {P : Option Value → ri_H → Prop} {mc ms : Nat} :
    ∀ (n : Nat) (f f' : ri_F), ri_sn (ri_st dc cal (ri_bud md) q) n f = some f' → f.1 ≠ 70000 → ri_Gd p l e R s m args below meth c (MQ below (ri_Qc E D cA P) args s mc ms (ri_A E)) E D cA q.1.2.2.1 P mc ms f' → ri_Ab p l e R s m args below meth c (MQ below (ri_Qc E D cA P) args s mc ms (ri_A E)) E D cA q.1.2.2.1 f
  | 0, f, f', hs, hf, kk => by
    have hs := Option.some.inj (show some f = some f' from hs)
    subst hs
    rcases kk with ⟨k0, -⟩ | ⟨-, kk⟩
    · exact absurd k0 hf
    · exact kk
  | n + 1, f, f', hs, hf, kk => by
    have hs : (match ri_st dc cal (ri_bud md) q f with
      | some f' => ri_sn (ri_st dc cal (ri_bud md) q) n f'
      | none => none) = some f' := hs
    split at hs
    · next f1 h1 =>
      by_cases hf1 : f1.1 = 70000
      · rw [ri_sn_done (fun f hf => ri_st_done f hf) n f1 hf1] at hs
        have hs := Option.some.inj hs
        subst hs
        exact ri_st_snd X C hdc hT hrt hlocks hf h1 kk
      · exact ri_st_snd X C hdc hT hrt hlocks hf h1 (Or.inr ⟨hf1, ri_sn_snd X C hdc hT hrt hlocks n f1 f' hs hf1 kk⟩)
    · cases hs
theorem ri_gd_sn {q : ri_M × ri_T} (X : ri_Cx p s m args meth c E D cA q.1) (C : ri_Ca l E D cA md cal d q.1 R) (hdc : ∀ q ∈ dc, ri_hd q.1 (ri_ic E q.2.1) (ri_ic E q.2.2.1) = q.2.2.2) (hT : ri_okT md q = true) (hrt : meth.sig.returnType = q.1.2.2.2.1) (hlocks : meth.locks = false) {P : Option Value → ri_H → Prop} {mc ms n : Nat} {f f' : ri_F} (hs : ri_sn (ri_st dc cal (ri_bud md) q) n f = some f') (hf : f.1 ≠ 70000)
    (kk : ri_Gd p l e R s m args below meth c (MQ below (ri_Qc E D cA P) args s mc ms (ri_A E)) E D cA q.1.2.2.1 P mc ms f') : ri_Gd p l e R s m args below meth c (MQ below (ri_Qc E D cA P) args s mc ms (ri_A E)) E D cA q.1.2.2.1 P mc ms f :=
  Or.inr ⟨hf, ri_sn_snd X C hdc hT hrt hlocks n f f' hs hf kk⟩
end RIL
/-! The cells behind the first n: a world of their own -/
def ri_sh (n : Nat) (v : Value) : Value := match v with
  | .ref k => .ref (n + k)
  | v => v
def ri_shC (n : Nat) (c : ri_C) : ri_C := (c.1, c.2.map (ri_sh n))
theorem ri_sh_cv (E : ri_V) (n : Nat) (v : Value) : ri_cv E (ri_sh n v) = ri_cv (E.1 + n, E.2) v := by
  cases v with
  | ref k => show Value.ref (E.1 + (n + k)) = Value.ref (E.1 + n + k); rw [Nat.add_assoc]
  | _ => rfl
theorem ri_sh_map (E : ri_V) (n : Nat) (vs : List Value) : (vs.map (ri_sh n)).map (ri_cv E) = vs.map (ri_cv (E.1 + n, E.2)) := by
  rw [List.map_map]
  apply List.map_congr_left
  intro v _
  exact ri_sh_cv E n v
theorem ri_sh_getD (E : ri_V) (n : Nat) (vs : List Value) (j : Nat) : ri_cv E ((vs.map (ri_sh n)).getD j .null) = ri_cv (E.1 + n, E.2) (vs.getD j .null) := by
  rw [ri_gD, ri_gD, ri_sh_map]
theorem ri_X.narrow {E : ri_V} {n : Nat} {U : State} {H : Heap} (h : ri_X E U H) : ri_X (E.1 + n, E.2) U H := by
  have hAB : ∀ q, ri_A (E.1 + n, E.2) q → ri_A E q := fun q hq => Nat.le_trans (Nat.le_add_right _ _) hq
  obtain ⟨h1, h2, ⟨t5, t6, g1, g2, g3, g4, g5, g6, g7⟩, h4⟩ := h
  refine ⟨fun k a b => ?_, h2.narrow hAB, ⟨t5, t6, g1, g2, g3, g4.narrow hAB, g5.narrow hAB, g6.narrow hAB, g7.narrow hAB⟩, h4.narrow hAB⟩
  obtain ⟨t, e1, e2, cell, c1, c2, c3, c4, c5, c6, c7⟩ := h1 k a b
  exact ⟨t, e1, e2.narrow hAB, cell, c1, c2, c3, c4, c5, c6, fun hh => c7 (hAB _ hh)⟩
theorem ri_cell_sh {E : ri_V} {D : va_G} {cA : Nat → ClassId} {n k : Nat} {c : ri_C} {H : Heap} : ri_cell E D cA (n + k) (ri_shC n c) H ↔ ri_cell (E.1 + n, E.2) D cA k c H := by
  have e1 : E.1 + (n + k) = E.1 + n + k := by omega
  have e2 : (fun j => ri_cv E ((c.2.map (ri_sh n)).getD j .null)) = (fun j => ri_cv (E.1 + n, E.2) (c.2.getD j .null)) := by
    funext j
    exact ri_sh_getD E n c.2 j
  unfold ri_cell ri_shC
  dsimp only
  rw [e1, e2, List.length_map]
theorem ri_Met.mono {l : Launch} {E : ri_V} {D : va_G} {cA : Nat → ClassId} {d : Nat} {M : ri_M} {as : List Value} {h : ri_H} {P P' : Option Value → ri_H → Prop} (hM : ri_Met l E D cA d M as h P) (hP : ∀ v h', P v h' → P' v h') : ri_Met l E D cA d M as h P' := by
  intro p e ha hc hk s m args below hf happ hp hK
  obtain ⟨k, o, h1, h2, h3, ⟨v, h', hv, ho, hR, hF⟩, hL⟩ := hM p e ha hc hk s m args below hf happ hp hK
  exact ⟨k, o, h1, h2, h3, ⟨v, h', hP v h' hv, ho, hR, hF⟩, hL⟩
/-- a contract of the cells behind the first n holds where those stand ahead -/
theorem ri_shift {l : Launch} {E : ri_V} {D : va_G} {cA : Nat → ClassId} {d n : Nat} {M : ri_M} {as : List Value} {hc hm : ri_H} {P : Option Value → ri_H → Prop} (hn : hc.length = n) (hM : ri_Met l (E.1 + n, E.2) D cA d M as hm P) :
    ri_Met l E D cA d M (as.map (ri_sh n)) (hc ++ hm.map (ri_shC n)) (fun v h' => ∃ v' hm', P v' hm' ∧ v = v'.map (ri_sh n) ∧ h' = hc ++ hm'.map (ri_shC n)) := by
  have hAB : ∀ q, ri_A (E.1 + n, E.2) q → ri_A E q := fun q hq => Nat.le_trans (Nat.le_add_right _ _) hq
  intro p e ha hcc hk s m args below hf happ hp hK
  obtain ⟨p1, p2, p3, p4⟩ := hp
  have hpre : ri_Pc (E.1 + n, E.2) D cA as hm args s := by
    refine ⟨by rw [p1, ri_sh_map], p2, p3.narrow, ?_, fun k c hk => ?_⟩
    · rw [p4.1, List.length_append, List.length_map, hn]
      show _ = E.1 + n + hm.length
      omega
    · refine ri_cell_sh.mp (p4.2 (n + k) (ri_shC n c) ?_)
      rw [List.getElem?_append_right (by omega), hn, Nat.add_sub_cancel_left, List.getElem?_map, hk]
      rfl
  obtain ⟨k, o, h1, h2, h3, ⟨v, h', hv, ho, hR, hF⟩, L, hL1, hL2⟩ := hM p e ha hcc hk s m args below hf happ hpre hK
  refine ⟨k, o, h1, h2, h3, ⟨v.map (ri_sh n), hc ++ h'.map (ri_shC n), ⟨v, h', hv, rfl, rfl⟩, ?_, ⟨?_, fun j c hj => ?_⟩, hF.1, fun q q1 q2 => hF.2 q q1 (fun hh => q2 (hAB q hh))⟩, L, hL1, fun q hq => hAB _ (hL2 q hq)⟩
  · rw [ho]
    cases v with
    | none => rfl
    | some w => exact congrArg (fun z => Outcome.returned (some z)) (ri_sh_cv E n w).symm
  · rw [hR.1, List.length_append, List.length_map, hn]
    show E.1 + n + h'.length = _
    omega
  · by_cases hj2 : j < n
    · have hold : (hc ++ hm.map (ri_shC n))[j]? = some c := by
        rw [List.getElem?_append_left (by omega)] at hj ⊢
        exact hj
      refine (p4.2 j c hold).kept (hF.2 _ ?_ ?_)
      · rw [p4.1, List.length_append, hn]
        omega
      · show ¬ E.1 + n ≤ E.1 + j
        omega
    · rw [List.getElem?_append_right (by omega), hn, List.getElem?_map] at hj
      obtain ⟨c0, hc0, rfl⟩ := Option.map_eq_some_iff.mp hj
      have e1 : j = n + (j - n) := by omega
      rw [e1]
      exact ri_cell_sh.mpr (hR.2 (j - n) c0 hc0)
end
section
def rc_0 : ri_F := (0, [(0, .ref 2), (1, .ref 1)], [], [
  (11, [.ref 1, .int 0] ++ List.replicate 13 .null ++ [.int 0, .int 0]),
  (14, List.replicate 940 (.int 0)),
  (8, [.null, .null] ++ List.replicate 6 (.int 0) ++ [.long 0, .int 0, .int 0])], 0, 0)
def rc_1 : ri_F := (124, [(3, .int 12), (2, .int 2), (0, .ref 2), (1, .ref 1)], [.int 11, .long 0, .int 2, .ref 3], [
  (11, [.ref 1, .int 0] ++ List.replicate 13 .null ++ [.int 0, .int 0]),
  (14, List.replicate 940 (.int 0)),
  (8, [.ref 1, .ref 3, .int 0, .int 0, .int 0, .int 0, .int 0, .int (-1), .long 0, .int 0, .int 0]),
  (15, [.long 3322259, .long 20201198] ++ List.replicate 22 (.long 0))], 1, 24)
set_option maxRecDepth 100000 in
theorem rc_c0 : ri_is (ri_sn (ri_st [] (ri_call [] ri_md 6) (ri_bud ri_md) md_72) 430 rc_0) rc_1 = true := by decide +kernel
def rc_2 : ri_F := (126, [(3, .int 26), (2, .int 4), (0, .ref 2), (1, .ref 1)], [.long 291, .int 4, .ref 3], [
  (11, [.ref 1, .int 0] ++ List.replicate 13 .null ++ [.int 0, .int 0]),
  (14, List.replicate 940 (.int 0)),
  (8, [.ref 1, .ref 3, .int 0, .int 0, .int 0, .int 0, .int 0, .int (-1), .long 0, .int 0, .int 0]),
  (15, [.long 3322259, .long 20201198, .long 11703827, .long 479437459, .long 9] ++ List.replicate 19 (.long 0))], 1, 24)
set_option maxRecDepth 100000 in
theorem rc_c1 : ri_is (ri_sn (ri_st [] (ri_call [] ri_md 6) (ri_bud ri_md) md_72) 430 rc_1) rc_2 = true := by decide +kernel
def rc_3 : ri_F := (104, [(3, .int 41), (2, .int 7), (0, .ref 2), (1, .ref 1)], [.ref 2, .int 7, .ref 3], [
  (11, [.ref 1, .int 0] ++ List.replicate 13 .null ++ [.int 0, .int 0]),
  (14, List.replicate 940 (.int 0)),
  (8, [.ref 1, .ref 3, .int 0, .int 0, .int 0, .int 0, .int 0, .int (-1), .long 0, .int 0, .int 0]),
  (15, [.long 3322259, .long 20201198, .long 11703827, .long 479437459, .long 9317, .long 3749, .long 408538606, .long 20] ++ List.replicate 16 (.long 0))], 1, 24)
set_option maxRecDepth 100000 in
theorem rc_c2 : ri_is (ri_sn (ri_st [] (ri_call [] ri_md 6) (ri_bud ri_md) md_72) 430 rc_2) rc_3 = true := by decide +kernel
def rc_4 : ri_F := (108, [(3, .int 55), (2, .int 9), (0, .ref 2), (1, .ref 1)], [.int 9, .ref 3, .int 9, .ref 3], [
  (11, [.ref 1, .int 0] ++ List.replicate 13 .null ++ [.int 0, .int 0]),
  (14, List.replicate 940 (.int 0)),
  (8, [.ref 1, .ref 3, .int 0, .int 0, .int 0, .int 0, .int 0, .int (-1), .long 0, .int 0, .int 0]),
  (15, [.long 3322259, .long 20201198, .long 11703827, .long 479437459, .long 9317, .long 3749, .long 408538606, .long 21643763890, .long 80948, .long 616] ++ List.replicate 14 (.long 0))], 1, 24)
set_option maxRecDepth 100000 in
theorem rc_c3 : ri_is (ri_sn (ri_st [] (ri_call [] ri_md 6) (ri_bud ri_md) md_72) 430 rc_3) rc_4 = true := by decide +kernel
def rc_5 : ri_F := (112, [(3, .int 69), (2, .int 11), (0, .ref 2), (1, .ref 1)], [.long 32, .long 623916, .int 11, .ref 3], [
  (11, [.ref 1, .int 0] ++ List.replicate 13 .null ++ [.int 0, .int 0]),
  (14, List.replicate 940 (.int 0)),
  (8, [.ref 1, .ref 3, .int 0, .int 0, .int 0, .int 0, .int 0, .int (-1), .long 0, .int 0, .int 0]),
  (15, [.long 3322259, .long 20201198, .long 11703827, .long 479437459, .long 9317, .long 3749, .long 408538606, .long 21643763890, .long 80948, .long 20201203, .long 19183859, .long 623916] ++ List.replicate 12 (.long 0))], 1, 24)
set_option maxRecDepth 100000 in
theorem rc_c4 : ri_is (ri_sn (ri_st [] (ri_call [] ri_md 6) (ri_bud ri_md) md_72) 430 rc_4) rc_5 = true := by decide +kernel
def rc_6 : ri_F := (116, [(3, .int 84), (2, .int 15), (0, .ref 2), (1, .ref 1)], [.int 84, .retAddr 5, .long 14816, .int 15, .ref 3], [
  (11, [.ref 1, .int 0] ++ List.replicate 13 .null ++ [.int 0, .int 0]),
  (14, List.replicate 940 (.int 0)),
  (8, [.ref 1, .ref 3, .int 0, .int 0, .int 0, .int 0, .int 0, .int (-1), .long 0, .int 0, .int 0]),
  (15, [.long 3322259, .long 20201198, .long 11703827, .long 479437459, .long 9317, .long 3749, .long 408538606, .long 21643763890, .long 80948, .long 20201203, .long 19183859, .long 19965331, .long 4153, .long 498, .long 1476, .long 463] ++ List.replicate 8 (.long 0))], 1, 24)
set_option maxRecDepth 100000 in
theorem rc_c5 : ri_is (ri_sn (ri_st [] (ri_call [] ri_md 6) (ri_bud ri_md) md_72) 430 rc_5) rc_6 = true := by decide +kernel
def rc_7 : ri_F := (84, [(3, .int 99), (2, .int 18), (0, .ref 2), (1, .ref 1)], [.int 99, .retAddr 5], [
  (11, [.ref 1, .int 0] ++ List.replicate 13 .null ++ [.int 0, .int 0]),
  (14, List.replicate 940 (.int 0)),
  (8, [.ref 1, .ref 3, .int 0, .int 0, .int 0, .int 0, .int 0, .int (-1), .long 0, .int 0, .int 0]),
  (15, [.long 3322259, .long 20201198, .long 11703827, .long 479437459, .long 9317, .long 3749, .long 408538606, .long 21643763890, .long 80948, .long 20201203, .long 19183859, .long 19965331, .long 4153, .long 498, .long 1476, .long 14836, .long 12009198, .long 21467193, .long 1, .long 0, .long 0, .long 0, .long 0, .long 0])], 1, 24)
set_option maxRecDepth 100000 in
theorem rc_c6 : ri_is (ri_sn (ri_st [] (ri_call [] ri_md 6) (ri_bud ri_md) md_72) 430 rc_6) rc_7 = true := by decide +kernel
def rc_8 : ri_F := (124, [(3, .int 113), (2, .int 21), (0, .ref 2), (1, .ref 1)], [.int 16, .long 643232, .int 21, .ref 3], [
  (11, [.ref 1, .int 0] ++ List.replicate 13 .null ++ [.int 0, .int 0]),
  (14, List.replicate 940 (.int 0)),
  (8, [.ref 1, .ref 3, .int 0, .int 0, .int 0, .int 0, .int 0, .int (-1), .long 0, .int 0, .int 0]),
  (15, [.long 3322259, .long 20201198, .long 11703827, .long 479437459, .long 9317, .long 3749, .long 408538606, .long 21643763890, .long 80948, .long 20201203, .long 19183859, .long 19965331, .long 4153, .long 498, .long 1476, .long 14836, .long 12009198, .long 21467193, .long 52, .long 89, .long 21279923, .long 20101, .long 0, .long 0])], 1, 24)
set_option maxRecDepth 100000 in
theorem rc_c7 : ri_is (ri_sn (ri_st [] (ri_call [] ri_md 6) (ri_bud ri_md) md_72) 430 rc_7) rc_8 = true := by decide +kernel
def rc_9 : ri_F := (70000, [], [], [
  (11, [.ref 1, .int 0] ++ List.replicate 13 .null ++ [.int 0, .int 0]),
  (14, List.replicate 940 (.int 0)),
  (8, [.ref 1, .ref 3, .int 0, .int 0, .int 0, .int 0, .int 0, .int (-1), .long 0, .int 0, .int 0]),
  (15, [.long 3322259, .long 20201198, .long 11703827, .long 479437459, .long 9317, .long 3749, .long 408538606, .long 21643763890, .long 80948, .long 20201203, .long 19183859, .long 19965331, .long 4153, .long 498, .long 1476, .long 14836, .long 12009198, .long 21467193, .long 52, .long 89, .long 21279923, .long 20583955, .long 146885, .long 492210354])], 1, 24)
set_option maxRecDepth 100000 in
theorem rc_c8 : ri_is (ri_sn (ri_st [] (ri_call [] ri_md 6) (ri_bud ri_md) md_72) 421 rc_8) rc_9 = true := by decide +kernel
def h_r0 : ri_H := [
  (11, [.ref 1, .int 0] ++ List.replicate 13 .null ++ [.int 0, .int 0]),
  (14, List.replicate 940 (.int 0)),
  (8, [.null, .null] ++ List.replicate 6 (.int 0) ++ [.long 0, .int 0, .int 0])]
def h_r1 : ri_H := [
  (11, [.ref 1, .int 0] ++ List.replicate 13 .null ++ [.int 0, .int 0]),
  (14, List.replicate 940 (.int 0)),
  (8, [.ref 1, .ref 3, .int 0, .int 0, .int 0, .int 0, .int 0, .int (-1), .long 0, .int 0, .int 0]),
  (15, [.long 3322259, .long 20201198, .long 11703827, .long 479437459, .long 9317, .long 3749, .long 408538606, .long 21643763890, .long 80948, .long 20201203, .long 19183859, .long 19965331, .long 4153, .long 498, .long 1476, .long 14836, .long 12009198, .long 21467193, .long 52, .long 89, .long 21279923, .long 20583955, .long 146885, .long 492210354])]
end
section
set_option maxRecDepth 100000 in
theorem rd_met (l : Launch) (E : ri_V) (D : va_G) (cA : Nat → ClassId) : ri_Met l E D cA 7 md_72.1 [.ref 2, .ref 1] h_r0 (fun a b => a = none ∧ b = h_r1) := by
  have hdc : ∀ q ∈ ([] : ri_O), ri_hd q.1 (ri_ic E q.2.1) (ri_ic E q.2.2.1) = q.2.2.2 := fun _ h => absurd h List.not_mem_nil
  obtain ⟨n, hMk⟩ := mk_72
  refine ri_met_of hMk (by decide) (fun p e s m args below meth c X hrt hlk => ?_)
  have C : ri_Ca l E D cA ri_md (ri_call [] ri_md 6) 6 md_72.1 (ri_rm 7 md_72.1) := ⟨ri_mk_all, fun j q as h v h' hq hs => ri_run l E D cA hdc hq hs, Nat.le_refl _, Nat.le_refl _, by decide, by decide⟩
  have hf : ∀ k : ri_F, k = rc_9 → ri_Gd p l e (ri_rm 7 md_72.1) s m args below meth c (MQ below (ri_Qc E D cA (fun a b => a = none ∧ b = h_r1)) args s md_72.1.2.2.2.2.2.1 md_72.1.2.2.2.2.2.2 (ri_A E)) E D cA md_72.1.2.2.1 (fun a b => a = none ∧ b = h_r1) md_72.1.2.2.2.2.2.1 md_72.1.2.2.2.2.2.2 k := by
    rintro _ rfl
    exact Or.inl ⟨rfl, ⟨rfl, rfl⟩, by decide, by decide⟩
  have g9 := hf _ rfl
  have g8 := ri_gd_sn X C hdc ot_72 hrt hlk (ri_is_ok rc_c8) (by decide : rc_8.1 ≠ 70000) g9
  have g7 := ri_gd_sn X C hdc ot_72 hrt hlk (ri_is_ok rc_c7) (by decide : rc_7.1 ≠ 70000) g8
  have g6 := ri_gd_sn X C hdc ot_72 hrt hlk (ri_is_ok rc_c6) (by decide : rc_6.1 ≠ 70000) g7
  have g5 := ri_gd_sn X C hdc ot_72 hrt hlk (ri_is_ok rc_c5) (by decide : rc_5.1 ≠ 70000) g6
  have g4 := ri_gd_sn X C hdc ot_72 hrt hlk (ri_is_ok rc_c4) (by decide : rc_4.1 ≠ 70000) g5
  have g3 := ri_gd_sn X C hdc ot_72 hrt hlk (ri_is_ok rc_c3) (by decide : rc_3.1 ≠ 70000) g4
  have g2 := ri_gd_sn X C hdc ot_72 hrt hlk (ri_is_ok rc_c2) (by decide : rc_2.1 ≠ 70000) g3
  have g1 := ri_gd_sn X C hdc ot_72 hrt hlk (ri_is_ok rc_c1) (by decide : rc_1.1 ≠ 70000) g2
  have g0 := ri_gd_sn X C hdc ot_72 hrt hlk (ri_is_ok rc_c0) (by decide : rc_0.1 ≠ 70000) g1
  rcases g0 with ⟨h0, -⟩ | ⟨-, h0⟩
  · exact absurd h0 (by decide)
  · exact h0
end
section
def lk_0 : ri_F := (0, [(0, .ref 0)], [], [
  (11, [.null, .int 0] ++ List.replicate 13 .null ++ [.int 0, .int 0])], 0, 0)
def lk_1 : ri_F := (60, [(0, .ref 0)], [.ref 17, .ref 0], [
  (11, [.ref 1, .int 0, .ref 2, .ref 4] ++ List.replicate 11 .null ++ [.int 0, .int 0]),
  (14, List.replicate 940 (.int 0)),
  (8, [.ref 1, .ref 3, .int 0, .int 0, .int 0, .int 0, .int 0, .int (-1), .long 0, .int 0, .int 0]),
  (15, [.long 3322259, .long 20201198, .long 11703827, .long 479437459, .long 9317, .long 3749, .long 408538606, .long 21643763890, .long 80948, .long 20201203, .long 19183859, .long 19965331, .long 4153, .long 498, .long 1476, .long 14836, .long 12009198, .long 21467193, .long 52, .long 89, .long 21279923, .long 20583955, .long 146885, .long 492210354]),
  (5, [.ref 2, .ref 5, .int 0]),
  (4, [.ref 6, .int 0, .ref 7, .ref 8, .ref 9, .ref 10, .ref 11, .ref 12, .ref 13, .ref 14, .ref 15, .ref 16, .int 0]),
  (13, [.int 4, .int 3, .int 20, .int 0, .int 0]),
  (13, [.int 0, .int 0, .int 0, .int 0]),
  (13, List.replicate 8 (.int 0)),
  (13, List.replicate 6 (.int 0)),
  (13, List.replicate 8 (.int 0)),
  (13, List.replicate 64 (.int 0)),
  (13, List.replicate 8 (.int 0)),
  (13, List.replicate 6 (.int 0)),
  (15, List.replicate 24 (.long 0)),
  (13, List.replicate 24 (.int 0)),
  (13, List.replicate 24 (.int 0)),
  (10, [.ref 2, .ref 18]),
  (9, [.int 0, .int 0, .ref 19, .ref 20, .ref 21, .ref 22]),
  (13, List.replicate 40 (.int 0)),
  (13, List.replicate 40 (.int 0)),
  (13, List.replicate 40 (.int 0)),
  (13, List.replicate 40 (.int 0))], 22, 1340)
set_option maxRecDepth 100000 in
theorem lk_c0 : ri_is (ri_sn (ri_st [] (ri_kn1 (ri_call [] ri_md 7) 72 [.ref 2, .ref 1] h_r0 h_r1) (ri_bud ri_md) md_100) 29 lk_0) lk_1 = true := by decide +kernel
def lk_2 : ri_F := (123, [(0, .ref 0)], [.ref 142, .ref 0], [
  (11, [.ref 1, .int 0, .ref 2, .ref 4, .ref 17, .ref 23, .ref 35, .ref 45, .ref 55, .ref 137, .null, .null, .null, .null, .null, .int 0, .int 0]),
  (14, List.replicate 940 (.int 0)),
  (8, [.ref 1, .ref 3, .int 0, .int 0, .int 0, .int 0, .int 0, .int (-1), .long 0, .int 0, .int 0]),
  (15, [.long 3322259, .long 20201198, .long 11703827, .long 479437459, .long 9317, .long 3749, .long 408538606, .long 21643763890, .long 80948, .long 20201203, .long 19183859, .long 19965331, .long 4153, .long 498, .long 1476, .long 14836, .long 12009198, .long 21467193, .long 52, .long 89, .long 21279923, .long 20583955, .long 146885, .long 492210354]),
  (5, [.ref 2, .ref 5, .int 0]),
  (4, [.ref 6, .int 0, .ref 7, .ref 8, .ref 9, .ref 10, .ref 11, .ref 12, .ref 13, .ref 14, .ref 15, .ref 16, .int 0]),
  (13, [.int 4, .int 3, .int 20, .int 0, .int 0]),
  (13, [.int 0, .int 0, .int 0, .int 0]),
  (13, List.replicate 8 (.int 0)),
  (13, List.replicate 6 (.int 0)),
  (13, List.replicate 8 (.int 0)),
  (13, List.replicate 64 (.int 0)),
  (13, List.replicate 8 (.int 0)),
  (13, List.replicate 6 (.int 0)),
  (15, List.replicate 24 (.long 0)),
  (13, List.replicate 24 (.int 0)),
  (13, List.replicate 24 (.int 0)),
  (10, [.ref 2, .ref 18]),
  (9, [.int 0, .int 0, .ref 19, .ref 20, .ref 21, .ref 22]),
  (13, List.replicate 40 (.int 0)),
  (13, List.replicate 40 (.int 0)),
  (13, List.replicate 40 (.int 0)),
  (13, List.replicate 40 (.int 0)),
  (4, [.ref 24, .int 0, .ref 25, .ref 26, .ref 27, .ref 28, .ref 29, .ref 30, .ref 31, .ref 32, .ref 33, .ref 34, .int 0]),
  (13, [.int 4, .int 3, .int 20, .int 0, .int 0]),
  (13, [.int 0, .int 0, .int 0, .int 0]),
  (13, List.replicate 8 (.int 0)),
  (13, List.replicate 6 (.int 0)),
  (13, List.replicate 8 (.int 0)),
  (13, List.replicate 64 (.int 0)),
  (13, List.replicate 8 (.int 0)),
  (13, List.replicate 6 (.int 0)),
  (15, List.replicate 24 (.long 0)),
  (13, List.replicate 24 (.int 0)),
  (13, List.replicate 24 (.int 0)),
  (6, List.replicate 7 (.int 0) ++ [.ref 36, .ref 37, .ref 38, .ref 39, .ref 40, .ref 41, .ref 42, .ref 43, .ref 44]),
  (13, List.replicate 8 (.int (-1))),
  (13, List.replicate 8 (.int 0)),
  (13, List.replicate 8 (.int 0)),
  (13, List.replicate 8 (.int 0)),
  (13, List.replicate 8 (.int 0)),
  (13, List.replicate 8 (.int 0)),
  (13, List.replicate 6 (.int 0)),
  (13, List.replicate 6 (.int 0)),
  (13, List.replicate 6 (.int 0)),
  (6, List.replicate 7 (.int 0) ++ [.ref 46, .ref 47, .ref 48, .ref 49, .ref 50, .ref 51, .ref 52, .ref 53, .ref 54]),
  (13, List.replicate 8 (.int (-1))),
  (13, List.replicate 8 (.int 0)),
  (13, List.replicate 8 (.int 0)),
  (13, List.replicate 8 (.int 0)),
  (13, List.replicate 8 (.int 0)),
  (13, List.replicate 8 (.int 0)),
  (13, List.replicate 6 (.int 0)),
  (13, List.replicate 6 (.int 0)),
  (13, List.replicate 6 (.int 0)),
  (7, [.ref 56, .int 0, .int 0]),
  (17, [.ref 57, .ref 67, .ref 77, .ref 87, .ref 97, .ref 107, .ref 117, .ref 127]),
  (6, List.replicate 7 (.int 0) ++ [.ref 58, .ref 59, .ref 60, .ref 61, .ref 62, .ref 63, .ref 64, .ref 65, .ref 66]),
  (13, List.replicate 8 (.int (-1))),
  (13, List.replicate 8 (.int 0)),
  (13, List.replicate 8 (.int 0)),
  (13, List.replicate 8 (.int 0)),
  (13, List.replicate 8 (.int 0)),
  (13, List.replicate 8 (.int 0)),
  (13, List.replicate 6 (.int 0)),
  (13, List.replicate 6 (.int 0)),
  (13, List.replicate 6 (.int 0)),
  (6, List.replicate 7 (.int 0) ++ [.ref 68, .ref 69, .ref 70, .ref 71, .ref 72, .ref 73, .ref 74, .ref 75, .ref 76]),
  (13, List.replicate 8 (.int (-1))),
  (13, List.replicate 8 (.int 0)),
  (13, List.replicate 8 (.int 0)),
  (13, List.replicate 8 (.int 0)),
  (13, List.replicate 8 (.int 0)),
  (13, List.replicate 8 (.int 0)),
  (13, List.replicate 6 (.int 0)),
  (13, List.replicate 6 (.int 0)),
  (13, List.replicate 6 (.int 0)),
  (6, List.replicate 7 (.int 0) ++ [.ref 78, .ref 79, .ref 80, .ref 81, .ref 82, .ref 83, .ref 84, .ref 85, .ref 86]),
  (13, List.replicate 8 (.int (-1))),
  (13, List.replicate 8 (.int 0)),
  (13, List.replicate 8 (.int 0)),
  (13, List.replicate 8 (.int 0)),
  (13, List.replicate 8 (.int 0)),
  (13, List.replicate 8 (.int 0)),
  (13, List.replicate 6 (.int 0)),
  (13, List.replicate 6 (.int 0)),
  (13, List.replicate 6 (.int 0)),
  (6, List.replicate 7 (.int 0) ++ [.ref 88, .ref 89, .ref 90, .ref 91, .ref 92, .ref 93, .ref 94, .ref 95, .ref 96]),
  (13, List.replicate 8 (.int (-1))),
  (13, List.replicate 8 (.int 0)),
  (13, List.replicate 8 (.int 0)),
  (13, List.replicate 8 (.int 0)),
  (13, List.replicate 8 (.int 0)),
  (13, List.replicate 8 (.int 0)),
  (13, List.replicate 6 (.int 0)),
  (13, List.replicate 6 (.int 0)),
  (13, List.replicate 6 (.int 0)),
  (6, List.replicate 7 (.int 0) ++ [.ref 98, .ref 99, .ref 100, .ref 101, .ref 102, .ref 103, .ref 104, .ref 105, .ref 106]),
  (13, List.replicate 8 (.int (-1))),
  (13, List.replicate 8 (.int 0)),
  (13, List.replicate 8 (.int 0)),
  (13, List.replicate 8 (.int 0)),
  (13, List.replicate 8 (.int 0)),
  (13, List.replicate 8 (.int 0)),
  (13, List.replicate 6 (.int 0)),
  (13, List.replicate 6 (.int 0)),
  (13, List.replicate 6 (.int 0)),
  (6, List.replicate 7 (.int 0) ++ [.ref 108, .ref 109, .ref 110, .ref 111, .ref 112, .ref 113, .ref 114, .ref 115, .ref 116]),
  (13, List.replicate 8 (.int (-1))),
  (13, List.replicate 8 (.int 0)),
  (13, List.replicate 8 (.int 0)),
  (13, List.replicate 8 (.int 0)),
  (13, List.replicate 8 (.int 0)),
  (13, List.replicate 8 (.int 0)),
  (13, List.replicate 6 (.int 0)),
  (13, List.replicate 6 (.int 0)),
  (13, List.replicate 6 (.int 0)),
  (6, List.replicate 7 (.int 0) ++ [.ref 118, .ref 119, .ref 120, .ref 121, .ref 122, .ref 123, .ref 124, .ref 125, .ref 126]),
  (13, List.replicate 8 (.int (-1))),
  (13, List.replicate 8 (.int 0)),
  (13, List.replicate 8 (.int 0)),
  (13, List.replicate 8 (.int 0)),
  (13, List.replicate 8 (.int 0)),
  (13, List.replicate 8 (.int 0)),
  (13, List.replicate 6 (.int 0)),
  (13, List.replicate 6 (.int 0)),
  (13, List.replicate 6 (.int 0)),
  (6, List.replicate 7 (.int 0) ++ [.ref 128, .ref 129, .ref 130, .ref 131, .ref 132, .ref 133, .ref 134, .ref 135, .ref 136]),
  (13, List.replicate 8 (.int (-1))),
  (13, List.replicate 8 (.int 0)),
  (13, List.replicate 8 (.int 0)),
  (13, List.replicate 8 (.int 0)),
  (13, List.replicate 8 (.int 0)),
  (13, List.replicate 8 (.int 0)),
  (13, List.replicate 6 (.int 0)),
  (13, List.replicate 6 (.int 0)),
  (13, List.replicate 6 (.int 0)),
  (9, [.int 0, .int 0, .ref 138, .ref 139, .ref 140, .ref 141]),
  (13, List.replicate 40 (.int 0)),
  (13, List.replicate 40 (.int 0)),
  (13, List.replicate 40 (.int 0)),
  (13, List.replicate 40 (.int 0)),
  (18, [.null, .null])], 142, 2533)
set_option maxRecDepth 100000 in
theorem lk_c1 : ri_is (ri_sn (ri_st [] (ri_kn1 (ri_call [] ri_md 7) 72 [.ref 2, .ref 1] h_r0 h_r1) (ri_bud ri_md) md_100) 29 lk_1) lk_2 = true := by decide +kernel
def lk_3 : ri_F := (180, [(0, .ref 0)], [.ref 0], [
  (11, [.ref 1, .int 0, .ref 2, .ref 4, .ref 17, .ref 23, .ref 35, .ref 45, .ref 55, .ref 137, .ref 142, .ref 199, .ref 203, .ref 207, .null, .int 0, .int 0]),
  (14, List.replicate 940 (.int 0)),
  (8, [.ref 1, .ref 3, .int 0, .int 0, .int 0, .int 0, .int 0, .int (-1), .long 0, .int 0, .int 0]),
  (15, [.long 3322259, .long 20201198, .long 11703827, .long 479437459, .long 9317, .long 3749, .long 408538606, .long 21643763890, .long 80948, .long 20201203, .long 19183859, .long 19965331, .long 4153, .long 498, .long 1476, .long 14836, .long 12009198, .long 21467193, .long 52, .long 89, .long 21279923, .long 20583955, .long 146885, .long 492210354]),
  (5, [.ref 2, .ref 5, .int 0]),
  (4, [.ref 6, .int 0, .ref 7, .ref 8, .ref 9, .ref 10, .ref 11, .ref 12, .ref 13, .ref 14, .ref 15, .ref 16, .int 0]),
  (13, [.int 4, .int 3, .int 20, .int 0, .int 0]),
  (13, [.int 0, .int 0, .int 0, .int 0]),
  (13, List.replicate 8 (.int 0)),
  (13, List.replicate 6 (.int 0)),
  (13, List.replicate 8 (.int 0)),
  (13, List.replicate 64 (.int 0)),
  (13, List.replicate 8 (.int 0)),
  (13, List.replicate 6 (.int 0)),
  (15, List.replicate 24 (.long 0)),
  (13, List.replicate 24 (.int 0)),
  (13, List.replicate 24 (.int 0)),
  (10, [.ref 2, .ref 18]),
  (9, [.int 0, .int 0, .ref 19, .ref 20, .ref 21, .ref 22]),
  (13, List.replicate 40 (.int 0)),
  (13, List.replicate 40 (.int 0)),
  (13, List.replicate 40 (.int 0)),
  (13, List.replicate 40 (.int 0)),
  (4, [.ref 24, .int 0, .ref 25, .ref 26, .ref 27, .ref 28, .ref 29, .ref 30, .ref 31, .ref 32, .ref 33, .ref 34, .int 0]),
  (13, [.int 4, .int 3, .int 20, .int 0, .int 0]),
  (13, [.int 0, .int 0, .int 0, .int 0]),
  (13, List.replicate 8 (.int 0)),
  (13, List.replicate 6 (.int 0)),
  (13, List.replicate 8 (.int 0)),
  (13, List.replicate 64 (.int 0)),
  (13, List.replicate 8 (.int 0)),
  (13, List.replicate 6 (.int 0)),
  (15, List.replicate 24 (.long 0)),
  (13, List.replicate 24 (.int 0)),
  (13, List.replicate 24 (.int 0)),
  (6, List.replicate 7 (.int 0) ++ [.ref 36, .ref 37, .ref 38, .ref 39, .ref 40, .ref 41, .ref 42, .ref 43, .ref 44]),
  (13, List.replicate 8 (.int (-1))),
  (13, List.replicate 8 (.int 0)),
  (13, List.replicate 8 (.int 0)),
  (13, List.replicate 8 (.int 0)),
  (13, List.replicate 8 (.int 0)),
  (13, List.replicate 8 (.int 0)),
  (13, List.replicate 6 (.int 0)),
  (13, List.replicate 6 (.int 0)),
  (13, List.replicate 6 (.int 0)),
  (6, List.replicate 7 (.int 0) ++ [.ref 46, .ref 47, .ref 48, .ref 49, .ref 50, .ref 51, .ref 52, .ref 53, .ref 54]),
  (13, List.replicate 8 (.int (-1))),
  (13, List.replicate 8 (.int 0)),
  (13, List.replicate 8 (.int 0)),
  (13, List.replicate 8 (.int 0)),
  (13, List.replicate 8 (.int 0)),
  (13, List.replicate 8 (.int 0)),
  (13, List.replicate 6 (.int 0)),
  (13, List.replicate 6 (.int 0)),
  (13, List.replicate 6 (.int 0)),
  (7, [.ref 56, .int 0, .int 0]),
  (17, [.ref 57, .ref 67, .ref 77, .ref 87, .ref 97, .ref 107, .ref 117, .ref 127]),
  (6, List.replicate 7 (.int 0) ++ [.ref 58, .ref 59, .ref 60, .ref 61, .ref 62, .ref 63, .ref 64, .ref 65, .ref 66]),
  (13, List.replicate 8 (.int (-1))),
  (13, List.replicate 8 (.int 0)),
  (13, List.replicate 8 (.int 0)),
  (13, List.replicate 8 (.int 0)),
  (13, List.replicate 8 (.int 0)),
  (13, List.replicate 8 (.int 0)),
  (13, List.replicate 6 (.int 0)),
  (13, List.replicate 6 (.int 0)),
  (13, List.replicate 6 (.int 0)),
  (6, List.replicate 7 (.int 0) ++ [.ref 68, .ref 69, .ref 70, .ref 71, .ref 72, .ref 73, .ref 74, .ref 75, .ref 76]),
  (13, List.replicate 8 (.int (-1))),
  (13, List.replicate 8 (.int 0)),
  (13, List.replicate 8 (.int 0)),
  (13, List.replicate 8 (.int 0)),
  (13, List.replicate 8 (.int 0)),
  (13, List.replicate 8 (.int 0)),
  (13, List.replicate 6 (.int 0)),
  (13, List.replicate 6 (.int 0)),
  (13, List.replicate 6 (.int 0)),
  (6, List.replicate 7 (.int 0) ++ [.ref 78, .ref 79, .ref 80, .ref 81, .ref 82, .ref 83, .ref 84, .ref 85, .ref 86]),
  (13, List.replicate 8 (.int (-1))),
  (13, List.replicate 8 (.int 0)),
  (13, List.replicate 8 (.int 0)),
  (13, List.replicate 8 (.int 0)),
  (13, List.replicate 8 (.int 0)),
  (13, List.replicate 8 (.int 0)),
  (13, List.replicate 6 (.int 0)),
  (13, List.replicate 6 (.int 0)),
  (13, List.replicate 6 (.int 0)),
  (6, List.replicate 7 (.int 0) ++ [.ref 88, .ref 89, .ref 90, .ref 91, .ref 92, .ref 93, .ref 94, .ref 95, .ref 96]),
  (13, List.replicate 8 (.int (-1))),
  (13, List.replicate 8 (.int 0)),
  (13, List.replicate 8 (.int 0)),
  (13, List.replicate 8 (.int 0)),
  (13, List.replicate 8 (.int 0)),
  (13, List.replicate 8 (.int 0)),
  (13, List.replicate 6 (.int 0)),
  (13, List.replicate 6 (.int 0)),
  (13, List.replicate 6 (.int 0)),
  (6, List.replicate 7 (.int 0) ++ [.ref 98, .ref 99, .ref 100, .ref 101, .ref 102, .ref 103, .ref 104, .ref 105, .ref 106]),
  (13, List.replicate 8 (.int (-1))),
  (13, List.replicate 8 (.int 0)),
  (13, List.replicate 8 (.int 0)),
  (13, List.replicate 8 (.int 0)),
  (13, List.replicate 8 (.int 0)),
  (13, List.replicate 8 (.int 0)),
  (13, List.replicate 6 (.int 0)),
  (13, List.replicate 6 (.int 0)),
  (13, List.replicate 6 (.int 0)),
  (6, List.replicate 7 (.int 0) ++ [.ref 108, .ref 109, .ref 110, .ref 111, .ref 112, .ref 113, .ref 114, .ref 115, .ref 116]),
  (13, List.replicate 8 (.int (-1))),
  (13, List.replicate 8 (.int 0)),
  (13, List.replicate 8 (.int 0)),
  (13, List.replicate 8 (.int 0)),
  (13, List.replicate 8 (.int 0)),
  (13, List.replicate 8 (.int 0)),
  (13, List.replicate 6 (.int 0)),
  (13, List.replicate 6 (.int 0)),
  (13, List.replicate 6 (.int 0)),
  (6, List.replicate 7 (.int 0) ++ [.ref 118, .ref 119, .ref 120, .ref 121, .ref 122, .ref 123, .ref 124, .ref 125, .ref 126]),
  (13, List.replicate 8 (.int (-1))),
  (13, List.replicate 8 (.int 0)),
  (13, List.replicate 8 (.int 0)),
  (13, List.replicate 8 (.int 0)),
  (13, List.replicate 8 (.int 0)),
  (13, List.replicate 8 (.int 0)),
  (13, List.replicate 6 (.int 0)),
  (13, List.replicate 6 (.int 0)),
  (13, List.replicate 6 (.int 0)),
  (6, List.replicate 7 (.int 0) ++ [.ref 128, .ref 129, .ref 130, .ref 131, .ref 132, .ref 133, .ref 134, .ref 135, .ref 136]),
  (13, List.replicate 8 (.int (-1))),
  (13, List.replicate 8 (.int 0)),
  (13, List.replicate 8 (.int 0)),
  (13, List.replicate 8 (.int 0)),
  (13, List.replicate 8 (.int 0)),
  (13, List.replicate 8 (.int 0)),
  (13, List.replicate 6 (.int 0)),
  (13, List.replicate 6 (.int 0)),
  (13, List.replicate 6 (.int 0)),
  (9, [.int 0, .int 0, .ref 138, .ref 139, .ref 140, .ref 141]),
  (13, List.replicate 40 (.int 0)),
  (13, List.replicate 40 (.int 0)),
  (13, List.replicate 40 (.int 0)),
  (13, List.replicate 40 (.int 0)),
  (18, [.ref 143, .ref 171]),
  (3, [.ref 144, .ref 156, .ref 166, .int 0]),
  (4, [.ref 145, .int 0, .ref 146, .ref 147, .ref 148, .ref 149, .ref 150, .ref 151, .ref 152, .ref 153, .ref 154, .ref 155, .int 0]),
  (13, [.int 4, .int 3, .int 20, .int 0, .int 0]),
  (13, [.int 0, .int 0, .int 0, .int 0]),
  (13, List.replicate 8 (.int 0)),
  (13, List.replicate 6 (.int 0)),
  (13, List.replicate 8 (.int 0)),
  (13, List.replicate 64 (.int 0)),
  (13, List.replicate 8 (.int 0)),
  (13, List.replicate 6 (.int 0)),
  (15, List.replicate 24 (.long 0)),
  (13, List.replicate 24 (.int 0)),
  (13, List.replicate 24 (.int 0)),
  (6, List.replicate 7 (.int 0) ++ [.ref 157, .ref 158, .ref 159, .ref 160, .ref 161, .ref 162, .ref 163, .ref 164, .ref 165]),
  (13, List.replicate 8 (.int (-1))),
  (13, List.replicate 8 (.int 0)),
  (13, List.replicate 8 (.int 0)),
  (13, List.replicate 8 (.int 0)),
  (13, List.replicate 8 (.int 0)),
  (13, List.replicate 8 (.int 0)),
  (13, List.replicate 6 (.int 0)),
  (13, List.replicate 6 (.int 0)),
  (13, List.replicate 6 (.int 0)),
  (9, [.int 0, .int 0, .ref 167, .ref 168, .ref 169, .ref 170]),
  (13, List.replicate 40 (.int 0)),
  (13, List.replicate 40 (.int 0)),
  (13, List.replicate 40 (.int 0)),
  (13, List.replicate 40 (.int 0)),
  (3, [.ref 172, .ref 184, .ref 194, .int 0]),
  (4, [.ref 173, .int 0, .ref 174, .ref 175, .ref 176, .ref 177, .ref 178, .ref 179, .ref 180, .ref 181, .ref 182, .ref 183, .int 0]),
  (13, [.int 4, .int 3, .int 20, .int 0, .int 0]),
  (13, [.int 0, .int 0, .int 0, .int 0]),
  (13, List.replicate 8 (.int 0)),
  (13, List.replicate 6 (.int 0)),
  (13, List.replicate 8 (.int 0)),
  (13, List.replicate 64 (.int 0)),
  (13, List.replicate 8 (.int 0)),
  (13, List.replicate 6 (.int 0)),
  (15, List.replicate 24 (.long 0)),
  (13, List.replicate 24 (.int 0)),
  (13, List.replicate 24 (.int 0)),
  (6, List.replicate 7 (.int 0) ++ [.ref 185, .ref 186, .ref 187, .ref 188, .ref 189, .ref 190, .ref 191, .ref 192, .ref 193]),
  (13, List.replicate 8 (.int (-1))),
  (13, List.replicate 8 (.int 0)),
  (13, List.replicate 8 (.int 0)),
  (13, List.replicate 8 (.int 0)),
  (13, List.replicate 8 (.int 0)),
  (13, List.replicate 8 (.int 0)),
  (13, List.replicate 6 (.int 0)),
  (13, List.replicate 6 (.int 0)),
  (13, List.replicate 6 (.int 0)),
  (9, [.int 0, .int 0, .ref 195, .ref 196, .ref 197, .ref 198]),
  (13, List.replicate 40 (.int 0)),
  (13, List.replicate 40 (.int 0)),
  (13, List.replicate 40 (.int 0)),
  (13, List.replicate 40 (.int 0)),
  (0, [.ref 200, .ref 201, .ref 202, .int 0]),
  (13, List.replicate 40 (.int 0)),
  (13, List.replicate 40 (.int 0)),
  (13, List.replicate 40 (.int 0)),
  (2, [.int (-1), .int (-1), .int (-1), .ref 204, .int 0, .ref 205, .int 0, .ref 206]),
  (13, List.replicate 6 (.int 0)),
  (13, List.replicate 256 (.int 0)),
  (13, List.replicate 256 (.int 0)),
  (1, [.int 0])], 207, 4076)
set_option maxRecDepth 100000 in
theorem lk_c2 : ri_is (ri_sn (ri_st [] (ri_kn1 (ri_call [] ri_md 7) 72 [.ref 2, .ref 1] h_r0 h_r1) (ri_bud ri_md) md_100) 29 lk_2) lk_3 = true := by decide +kernel
def lk_4 : ri_F := (70000, [], [], [
  (11, [.ref 1, .int 0, .ref 2, .ref 4, .ref 17, .ref 23, .ref 35, .ref 45, .ref 55, .ref 137, .ref 142, .ref 199, .ref 203, .ref 207, .ref 208, .int 0, .int (-1)]),
  (14, List.replicate 940 (.int 0)),
  (8, [.ref 1, .ref 3, .int 0, .int 0, .int 0, .int 0, .int 0, .int (-1), .long 0, .int 0, .int 0]),
  (15, [.long 3322259, .long 20201198, .long 11703827, .long 479437459, .long 9317, .long 3749, .long 408538606, .long 21643763890, .long 80948, .long 20201203, .long 19183859, .long 19965331, .long 4153, .long 498, .long 1476, .long 14836, .long 12009198, .long 21467193, .long 52, .long 89, .long 21279923, .long 20583955, .long 146885, .long 492210354]),
  (5, [.ref 2, .ref 5, .int 0]),
  (4, [.ref 6, .int 0, .ref 7, .ref 8, .ref 9, .ref 10, .ref 11, .ref 12, .ref 13, .ref 14, .ref 15, .ref 16, .int 0]),
  (13, [.int 4, .int 3, .int 20, .int 0, .int 0]),
  (13, [.int 0, .int 0, .int 0, .int 0]),
  (13, List.replicate 8 (.int 0)),
  (13, List.replicate 6 (.int 0)),
  (13, List.replicate 8 (.int 0)),
  (13, List.replicate 64 (.int 0)),
  (13, List.replicate 8 (.int 0)),
  (13, List.replicate 6 (.int 0)),
  (15, List.replicate 24 (.long 0)),
  (13, List.replicate 24 (.int 0)),
  (13, List.replicate 24 (.int 0)),
  (10, [.ref 2, .ref 18]),
  (9, [.int 0, .int 0, .ref 19, .ref 20, .ref 21, .ref 22]),
  (13, List.replicate 40 (.int 0)),
  (13, List.replicate 40 (.int 0)),
  (13, List.replicate 40 (.int 0)),
  (13, List.replicate 40 (.int 0)),
  (4, [.ref 24, .int 0, .ref 25, .ref 26, .ref 27, .ref 28, .ref 29, .ref 30, .ref 31, .ref 32, .ref 33, .ref 34, .int 0]),
  (13, [.int 4, .int 3, .int 20, .int 0, .int 0]),
  (13, [.int 0, .int 0, .int 0, .int 0]),
  (13, List.replicate 8 (.int 0)),
  (13, List.replicate 6 (.int 0)),
  (13, List.replicate 8 (.int 0)),
  (13, List.replicate 64 (.int 0)),
  (13, List.replicate 8 (.int 0)),
  (13, List.replicate 6 (.int 0)),
  (15, List.replicate 24 (.long 0)),
  (13, List.replicate 24 (.int 0)),
  (13, List.replicate 24 (.int 0)),
  (6, List.replicate 7 (.int 0) ++ [.ref 36, .ref 37, .ref 38, .ref 39, .ref 40, .ref 41, .ref 42, .ref 43, .ref 44]),
  (13, List.replicate 8 (.int (-1))),
  (13, List.replicate 8 (.int 0)),
  (13, List.replicate 8 (.int 0)),
  (13, List.replicate 8 (.int 0)),
  (13, List.replicate 8 (.int 0)),
  (13, List.replicate 8 (.int 0)),
  (13, List.replicate 6 (.int 0)),
  (13, List.replicate 6 (.int 0)),
  (13, List.replicate 6 (.int 0)),
  (6, List.replicate 7 (.int 0) ++ [.ref 46, .ref 47, .ref 48, .ref 49, .ref 50, .ref 51, .ref 52, .ref 53, .ref 54]),
  (13, List.replicate 8 (.int (-1))),
  (13, List.replicate 8 (.int 0)),
  (13, List.replicate 8 (.int 0)),
  (13, List.replicate 8 (.int 0)),
  (13, List.replicate 8 (.int 0)),
  (13, List.replicate 8 (.int 0)),
  (13, List.replicate 6 (.int 0)),
  (13, List.replicate 6 (.int 0)),
  (13, List.replicate 6 (.int 0)),
  (7, [.ref 56, .int 0, .int 0]),
  (17, [.ref 57, .ref 67, .ref 77, .ref 87, .ref 97, .ref 107, .ref 117, .ref 127]),
  (6, List.replicate 7 (.int 0) ++ [.ref 58, .ref 59, .ref 60, .ref 61, .ref 62, .ref 63, .ref 64, .ref 65, .ref 66]),
  (13, List.replicate 8 (.int (-1))),
  (13, List.replicate 8 (.int 0)),
  (13, List.replicate 8 (.int 0)),
  (13, List.replicate 8 (.int 0)),
  (13, List.replicate 8 (.int 0)),
  (13, List.replicate 8 (.int 0)),
  (13, List.replicate 6 (.int 0)),
  (13, List.replicate 6 (.int 0)),
  (13, List.replicate 6 (.int 0)),
  (6, List.replicate 7 (.int 0) ++ [.ref 68, .ref 69, .ref 70, .ref 71, .ref 72, .ref 73, .ref 74, .ref 75, .ref 76]),
  (13, List.replicate 8 (.int (-1))),
  (13, List.replicate 8 (.int 0)),
  (13, List.replicate 8 (.int 0)),
  (13, List.replicate 8 (.int 0)),
  (13, List.replicate 8 (.int 0)),
  (13, List.replicate 8 (.int 0)),
  (13, List.replicate 6 (.int 0)),
  (13, List.replicate 6 (.int 0)),
  (13, List.replicate 6 (.int 0)),
  (6, List.replicate 7 (.int 0) ++ [.ref 78, .ref 79, .ref 80, .ref 81, .ref 82, .ref 83, .ref 84, .ref 85, .ref 86]),
  (13, List.replicate 8 (.int (-1))),
  (13, List.replicate 8 (.int 0)),
  (13, List.replicate 8 (.int 0)),
  (13, List.replicate 8 (.int 0)),
  (13, List.replicate 8 (.int 0)),
  (13, List.replicate 8 (.int 0)),
  (13, List.replicate 6 (.int 0)),
  (13, List.replicate 6 (.int 0)),
  (13, List.replicate 6 (.int 0)),
  (6, List.replicate 7 (.int 0) ++ [.ref 88, .ref 89, .ref 90, .ref 91, .ref 92, .ref 93, .ref 94, .ref 95, .ref 96]),
  (13, List.replicate 8 (.int (-1))),
  (13, List.replicate 8 (.int 0)),
  (13, List.replicate 8 (.int 0)),
  (13, List.replicate 8 (.int 0)),
  (13, List.replicate 8 (.int 0)),
  (13, List.replicate 8 (.int 0)),
  (13, List.replicate 6 (.int 0)),
  (13, List.replicate 6 (.int 0)),
  (13, List.replicate 6 (.int 0)),
  (6, List.replicate 7 (.int 0) ++ [.ref 98, .ref 99, .ref 100, .ref 101, .ref 102, .ref 103, .ref 104, .ref 105, .ref 106]),
  (13, List.replicate 8 (.int (-1))),
  (13, List.replicate 8 (.int 0)),
  (13, List.replicate 8 (.int 0)),
  (13, List.replicate 8 (.int 0)),
  (13, List.replicate 8 (.int 0)),
  (13, List.replicate 8 (.int 0)),
  (13, List.replicate 6 (.int 0)),
  (13, List.replicate 6 (.int 0)),
  (13, List.replicate 6 (.int 0)),
  (6, List.replicate 7 (.int 0) ++ [.ref 108, .ref 109, .ref 110, .ref 111, .ref 112, .ref 113, .ref 114, .ref 115, .ref 116]),
  (13, List.replicate 8 (.int (-1))),
  (13, List.replicate 8 (.int 0)),
  (13, List.replicate 8 (.int 0)),
  (13, List.replicate 8 (.int 0)),
  (13, List.replicate 8 (.int 0)),
  (13, List.replicate 8 (.int 0)),
  (13, List.replicate 6 (.int 0)),
  (13, List.replicate 6 (.int 0)),
  (13, List.replicate 6 (.int 0)),
  (6, List.replicate 7 (.int 0) ++ [.ref 118, .ref 119, .ref 120, .ref 121, .ref 122, .ref 123, .ref 124, .ref 125, .ref 126]),
  (13, List.replicate 8 (.int (-1))),
  (13, List.replicate 8 (.int 0)),
  (13, List.replicate 8 (.int 0)),
  (13, List.replicate 8 (.int 0)),
  (13, List.replicate 8 (.int 0)),
  (13, List.replicate 8 (.int 0)),
  (13, List.replicate 6 (.int 0)),
  (13, List.replicate 6 (.int 0)),
  (13, List.replicate 6 (.int 0)),
  (6, List.replicate 7 (.int 0) ++ [.ref 128, .ref 129, .ref 130, .ref 131, .ref 132, .ref 133, .ref 134, .ref 135, .ref 136]),
  (13, List.replicate 8 (.int (-1))),
  (13, List.replicate 8 (.int 0)),
  (13, List.replicate 8 (.int 0)),
  (13, List.replicate 8 (.int 0)),
  (13, List.replicate 8 (.int 0)),
  (13, List.replicate 8 (.int 0)),
  (13, List.replicate 6 (.int 0)),
  (13, List.replicate 6 (.int 0)),
  (13, List.replicate 6 (.int 0)),
  (9, [.int 0, .int 0, .ref 138, .ref 139, .ref 140, .ref 141]),
  (13, List.replicate 40 (.int 0)),
  (13, List.replicate 40 (.int 0)),
  (13, List.replicate 40 (.int 0)),
  (13, List.replicate 40 (.int 0)),
  (18, [.ref 143, .ref 171]),
  (3, [.ref 144, .ref 156, .ref 166, .int 0]),
  (4, [.ref 145, .int 0, .ref 146, .ref 147, .ref 148, .ref 149, .ref 150, .ref 151, .ref 152, .ref 153, .ref 154, .ref 155, .int 0]),
  (13, [.int 4, .int 3, .int 20, .int 0, .int 0]),
  (13, [.int 0, .int 0, .int 0, .int 0]),
  (13, List.replicate 8 (.int 0)),
  (13, List.replicate 6 (.int 0)),
  (13, List.replicate 8 (.int 0)),
  (13, List.replicate 64 (.int 0)),
  (13, List.replicate 8 (.int 0)),
  (13, List.replicate 6 (.int 0)),
  (15, List.replicate 24 (.long 0)),
  (13, List.replicate 24 (.int 0)),
  (13, List.replicate 24 (.int 0)),
  (6, List.replicate 7 (.int 0) ++ [.ref 157, .ref 158, .ref 159, .ref 160, .ref 161, .ref 162, .ref 163, .ref 164, .ref 165]),
  (13, List.replicate 8 (.int (-1))),
  (13, List.replicate 8 (.int 0)),
  (13, List.replicate 8 (.int 0)),
  (13, List.replicate 8 (.int 0)),
  (13, List.replicate 8 (.int 0)),
  (13, List.replicate 8 (.int 0)),
  (13, List.replicate 6 (.int 0)),
  (13, List.replicate 6 (.int 0)),
  (13, List.replicate 6 (.int 0)),
  (9, [.int 0, .int 0, .ref 167, .ref 168, .ref 169, .ref 170]),
  (13, List.replicate 40 (.int 0)),
  (13, List.replicate 40 (.int 0)),
  (13, List.replicate 40 (.int 0)),
  (13, List.replicate 40 (.int 0)),
  (3, [.ref 172, .ref 184, .ref 194, .int 0]),
  (4, [.ref 173, .int 0, .ref 174, .ref 175, .ref 176, .ref 177, .ref 178, .ref 179, .ref 180, .ref 181, .ref 182, .ref 183, .int 0]),
  (13, [.int 4, .int 3, .int 20, .int 0, .int 0]),
  (13, [.int 0, .int 0, .int 0, .int 0]),
  (13, List.replicate 8 (.int 0)),
  (13, List.replicate 6 (.int 0)),
  (13, List.replicate 8 (.int 0)),
  (13, List.replicate 64 (.int 0)),
  (13, List.replicate 8 (.int 0)),
  (13, List.replicate 6 (.int 0)),
  (15, List.replicate 24 (.long 0)),
  (13, List.replicate 24 (.int 0)),
  (13, List.replicate 24 (.int 0)),
  (6, List.replicate 7 (.int 0) ++ [.ref 185, .ref 186, .ref 187, .ref 188, .ref 189, .ref 190, .ref 191, .ref 192, .ref 193]),
  (13, List.replicate 8 (.int (-1))),
  (13, List.replicate 8 (.int 0)),
  (13, List.replicate 8 (.int 0)),
  (13, List.replicate 8 (.int 0)),
  (13, List.replicate 8 (.int 0)),
  (13, List.replicate 8 (.int 0)),
  (13, List.replicate 6 (.int 0)),
  (13, List.replicate 6 (.int 0)),
  (13, List.replicate 6 (.int 0)),
  (9, [.int 0, .int 0, .ref 195, .ref 196, .ref 197, .ref 198]),
  (13, List.replicate 40 (.int 0)),
  (13, List.replicate 40 (.int 0)),
  (13, List.replicate 40 (.int 0)),
  (13, List.replicate 40 (.int 0)),
  (0, [.ref 200, .ref 201, .ref 202, .int 0]),
  (13, List.replicate 40 (.int 0)),
  (13, List.replicate 40 (.int 0)),
  (13, List.replicate 40 (.int 0)),
  (2, [.int (-1), .int (-1), .int (-1), .ref 204, .int 0, .ref 205, .int 0, .ref 206]),
  (13, List.replicate 6 (.int 0)),
  (13, List.replicate 256 (.int 0)),
  (13, List.replicate 256 (.int 0)),
  (1, [.int 0]),
  (13, [.int (-1), .int (-1), .int (-1), .int (-1)])], 208, 4080)
set_option maxRecDepth 100000 in
theorem lk_c3 : ri_is (ri_sn (ri_st [] (ri_kn1 (ri_call [] ri_md 7) 72 [.ref 2, .ref 1] h_r0 h_r1) (ri_bud ri_md) md_100) 26 lk_3) lk_4 = true := by decide +kernel
def h_l0 : ri_H := [
  (11, [.null, .int 0] ++ List.replicate 13 .null ++ [.int 0, .int 0])]
def h_l1 : ri_H := [
  (11, [.ref 1, .int 0, .ref 2, .ref 4, .ref 17, .ref 23, .ref 35, .ref 45, .ref 55, .ref 137, .ref 142, .ref 199, .ref 203, .ref 207, .ref 208, .int 0, .int (-1)]),
  (14, List.replicate 940 (.int 0)),
  (8, [.ref 1, .ref 3, .int 0, .int 0, .int 0, .int 0, .int 0, .int (-1), .long 0, .int 0, .int 0]),
  (15, [.long 3322259, .long 20201198, .long 11703827, .long 479437459, .long 9317, .long 3749, .long 408538606, .long 21643763890, .long 80948, .long 20201203, .long 19183859, .long 19965331, .long 4153, .long 498, .long 1476, .long 14836, .long 12009198, .long 21467193, .long 52, .long 89, .long 21279923, .long 20583955, .long 146885, .long 492210354]),
  (5, [.ref 2, .ref 5, .int 0]),
  (4, [.ref 6, .int 0, .ref 7, .ref 8, .ref 9, .ref 10, .ref 11, .ref 12, .ref 13, .ref 14, .ref 15, .ref 16, .int 0]),
  (13, [.int 4, .int 3, .int 20, .int 0, .int 0]),
  (13, [.int 0, .int 0, .int 0, .int 0]),
  (13, List.replicate 8 (.int 0)),
  (13, List.replicate 6 (.int 0)),
  (13, List.replicate 8 (.int 0)),
  (13, List.replicate 64 (.int 0)),
  (13, List.replicate 8 (.int 0)),
  (13, List.replicate 6 (.int 0)),
  (15, List.replicate 24 (.long 0)),
  (13, List.replicate 24 (.int 0)),
  (13, List.replicate 24 (.int 0)),
  (10, [.ref 2, .ref 18]),
  (9, [.int 0, .int 0, .ref 19, .ref 20, .ref 21, .ref 22]),
  (13, List.replicate 40 (.int 0)),
  (13, List.replicate 40 (.int 0)),
  (13, List.replicate 40 (.int 0)),
  (13, List.replicate 40 (.int 0)),
  (4, [.ref 24, .int 0, .ref 25, .ref 26, .ref 27, .ref 28, .ref 29, .ref 30, .ref 31, .ref 32, .ref 33, .ref 34, .int 0]),
  (13, [.int 4, .int 3, .int 20, .int 0, .int 0]),
  (13, [.int 0, .int 0, .int 0, .int 0]),
  (13, List.replicate 8 (.int 0)),
  (13, List.replicate 6 (.int 0)),
  (13, List.replicate 8 (.int 0)),
  (13, List.replicate 64 (.int 0)),
  (13, List.replicate 8 (.int 0)),
  (13, List.replicate 6 (.int 0)),
  (15, List.replicate 24 (.long 0)),
  (13, List.replicate 24 (.int 0)),
  (13, List.replicate 24 (.int 0)),
  (6, List.replicate 7 (.int 0) ++ [.ref 36, .ref 37, .ref 38, .ref 39, .ref 40, .ref 41, .ref 42, .ref 43, .ref 44]),
  (13, List.replicate 8 (.int (-1))),
  (13, List.replicate 8 (.int 0)),
  (13, List.replicate 8 (.int 0)),
  (13, List.replicate 8 (.int 0)),
  (13, List.replicate 8 (.int 0)),
  (13, List.replicate 8 (.int 0)),
  (13, List.replicate 6 (.int 0)),
  (13, List.replicate 6 (.int 0)),
  (13, List.replicate 6 (.int 0)),
  (6, List.replicate 7 (.int 0) ++ [.ref 46, .ref 47, .ref 48, .ref 49, .ref 50, .ref 51, .ref 52, .ref 53, .ref 54]),
  (13, List.replicate 8 (.int (-1))),
  (13, List.replicate 8 (.int 0)),
  (13, List.replicate 8 (.int 0)),
  (13, List.replicate 8 (.int 0)),
  (13, List.replicate 8 (.int 0)),
  (13, List.replicate 8 (.int 0)),
  (13, List.replicate 6 (.int 0)),
  (13, List.replicate 6 (.int 0)),
  (13, List.replicate 6 (.int 0)),
  (7, [.ref 56, .int 0, .int 0]),
  (17, [.ref 57, .ref 67, .ref 77, .ref 87, .ref 97, .ref 107, .ref 117, .ref 127]),
  (6, List.replicate 7 (.int 0) ++ [.ref 58, .ref 59, .ref 60, .ref 61, .ref 62, .ref 63, .ref 64, .ref 65, .ref 66]),
  (13, List.replicate 8 (.int (-1))),
  (13, List.replicate 8 (.int 0)),
  (13, List.replicate 8 (.int 0)),
  (13, List.replicate 8 (.int 0)),
  (13, List.replicate 8 (.int 0)),
  (13, List.replicate 8 (.int 0)),
  (13, List.replicate 6 (.int 0)),
  (13, List.replicate 6 (.int 0)),
  (13, List.replicate 6 (.int 0)),
  (6, List.replicate 7 (.int 0) ++ [.ref 68, .ref 69, .ref 70, .ref 71, .ref 72, .ref 73, .ref 74, .ref 75, .ref 76]),
  (13, List.replicate 8 (.int (-1))),
  (13, List.replicate 8 (.int 0)),
  (13, List.replicate 8 (.int 0)),
  (13, List.replicate 8 (.int 0)),
  (13, List.replicate 8 (.int 0)),
  (13, List.replicate 8 (.int 0)),
  (13, List.replicate 6 (.int 0)),
  (13, List.replicate 6 (.int 0)),
  (13, List.replicate 6 (.int 0)),
  (6, List.replicate 7 (.int 0) ++ [.ref 78, .ref 79, .ref 80, .ref 81, .ref 82, .ref 83, .ref 84, .ref 85, .ref 86]),
  (13, List.replicate 8 (.int (-1))),
  (13, List.replicate 8 (.int 0)),
  (13, List.replicate 8 (.int 0)),
  (13, List.replicate 8 (.int 0)),
  (13, List.replicate 8 (.int 0)),
  (13, List.replicate 8 (.int 0)),
  (13, List.replicate 6 (.int 0)),
  (13, List.replicate 6 (.int 0)),
  (13, List.replicate 6 (.int 0)),
  (6, List.replicate 7 (.int 0) ++ [.ref 88, .ref 89, .ref 90, .ref 91, .ref 92, .ref 93, .ref 94, .ref 95, .ref 96]),
  (13, List.replicate 8 (.int (-1))),
  (13, List.replicate 8 (.int 0)),
  (13, List.replicate 8 (.int 0)),
  (13, List.replicate 8 (.int 0)),
  (13, List.replicate 8 (.int 0)),
  (13, List.replicate 8 (.int 0)),
  (13, List.replicate 6 (.int 0)),
  (13, List.replicate 6 (.int 0)),
  (13, List.replicate 6 (.int 0)),
  (6, List.replicate 7 (.int 0) ++ [.ref 98, .ref 99, .ref 100, .ref 101, .ref 102, .ref 103, .ref 104, .ref 105, .ref 106]),
  (13, List.replicate 8 (.int (-1))),
  (13, List.replicate 8 (.int 0)),
  (13, List.replicate 8 (.int 0)),
  (13, List.replicate 8 (.int 0)),
  (13, List.replicate 8 (.int 0)),
  (13, List.replicate 8 (.int 0)),
  (13, List.replicate 6 (.int 0)),
  (13, List.replicate 6 (.int 0)),
  (13, List.replicate 6 (.int 0)),
  (6, List.replicate 7 (.int 0) ++ [.ref 108, .ref 109, .ref 110, .ref 111, .ref 112, .ref 113, .ref 114, .ref 115, .ref 116]),
  (13, List.replicate 8 (.int (-1))),
  (13, List.replicate 8 (.int 0)),
  (13, List.replicate 8 (.int 0)),
  (13, List.replicate 8 (.int 0)),
  (13, List.replicate 8 (.int 0)),
  (13, List.replicate 8 (.int 0)),
  (13, List.replicate 6 (.int 0)),
  (13, List.replicate 6 (.int 0)),
  (13, List.replicate 6 (.int 0)),
  (6, List.replicate 7 (.int 0) ++ [.ref 118, .ref 119, .ref 120, .ref 121, .ref 122, .ref 123, .ref 124, .ref 125, .ref 126]),
  (13, List.replicate 8 (.int (-1))),
  (13, List.replicate 8 (.int 0)),
  (13, List.replicate 8 (.int 0)),
  (13, List.replicate 8 (.int 0)),
  (13, List.replicate 8 (.int 0)),
  (13, List.replicate 8 (.int 0)),
  (13, List.replicate 6 (.int 0)),
  (13, List.replicate 6 (.int 0)),
  (13, List.replicate 6 (.int 0)),
  (6, List.replicate 7 (.int 0) ++ [.ref 128, .ref 129, .ref 130, .ref 131, .ref 132, .ref 133, .ref 134, .ref 135, .ref 136]),
  (13, List.replicate 8 (.int (-1))),
  (13, List.replicate 8 (.int 0)),
  (13, List.replicate 8 (.int 0)),
  (13, List.replicate 8 (.int 0)),
  (13, List.replicate 8 (.int 0)),
  (13, List.replicate 8 (.int 0)),
  (13, List.replicate 6 (.int 0)),
  (13, List.replicate 6 (.int 0)),
  (13, List.replicate 6 (.int 0)),
  (9, [.int 0, .int 0, .ref 138, .ref 139, .ref 140, .ref 141]),
  (13, List.replicate 40 (.int 0)),
  (13, List.replicate 40 (.int 0)),
  (13, List.replicate 40 (.int 0)),
  (13, List.replicate 40 (.int 0)),
  (18, [.ref 143, .ref 171]),
  (3, [.ref 144, .ref 156, .ref 166, .int 0]),
  (4, [.ref 145, .int 0, .ref 146, .ref 147, .ref 148, .ref 149, .ref 150, .ref 151, .ref 152, .ref 153, .ref 154, .ref 155, .int 0]),
  (13, [.int 4, .int 3, .int 20, .int 0, .int 0]),
  (13, [.int 0, .int 0, .int 0, .int 0]),
  (13, List.replicate 8 (.int 0)),
  (13, List.replicate 6 (.int 0)),
  (13, List.replicate 8 (.int 0)),
  (13, List.replicate 64 (.int 0)),
  (13, List.replicate 8 (.int 0)),
  (13, List.replicate 6 (.int 0)),
  (15, List.replicate 24 (.long 0)),
  (13, List.replicate 24 (.int 0)),
  (13, List.replicate 24 (.int 0)),
  (6, List.replicate 7 (.int 0) ++ [.ref 157, .ref 158, .ref 159, .ref 160, .ref 161, .ref 162, .ref 163, .ref 164, .ref 165]),
  (13, List.replicate 8 (.int (-1))),
  (13, List.replicate 8 (.int 0)),
  (13, List.replicate 8 (.int 0)),
  (13, List.replicate 8 (.int 0)),
  (13, List.replicate 8 (.int 0)),
  (13, List.replicate 8 (.int 0)),
  (13, List.replicate 6 (.int 0)),
  (13, List.replicate 6 (.int 0)),
  (13, List.replicate 6 (.int 0)),
  (9, [.int 0, .int 0, .ref 167, .ref 168, .ref 169, .ref 170]),
  (13, List.replicate 40 (.int 0)),
  (13, List.replicate 40 (.int 0)),
  (13, List.replicate 40 (.int 0)),
  (13, List.replicate 40 (.int 0)),
  (3, [.ref 172, .ref 184, .ref 194, .int 0]),
  (4, [.ref 173, .int 0, .ref 174, .ref 175, .ref 176, .ref 177, .ref 178, .ref 179, .ref 180, .ref 181, .ref 182, .ref 183, .int 0]),
  (13, [.int 4, .int 3, .int 20, .int 0, .int 0]),
  (13, [.int 0, .int 0, .int 0, .int 0]),
  (13, List.replicate 8 (.int 0)),
  (13, List.replicate 6 (.int 0)),
  (13, List.replicate 8 (.int 0)),
  (13, List.replicate 64 (.int 0)),
  (13, List.replicate 8 (.int 0)),
  (13, List.replicate 6 (.int 0)),
  (15, List.replicate 24 (.long 0)),
  (13, List.replicate 24 (.int 0)),
  (13, List.replicate 24 (.int 0)),
  (6, List.replicate 7 (.int 0) ++ [.ref 185, .ref 186, .ref 187, .ref 188, .ref 189, .ref 190, .ref 191, .ref 192, .ref 193]),
  (13, List.replicate 8 (.int (-1))),
  (13, List.replicate 8 (.int 0)),
  (13, List.replicate 8 (.int 0)),
  (13, List.replicate 8 (.int 0)),
  (13, List.replicate 8 (.int 0)),
  (13, List.replicate 8 (.int 0)),
  (13, List.replicate 6 (.int 0)),
  (13, List.replicate 6 (.int 0)),
  (13, List.replicate 6 (.int 0)),
  (9, [.int 0, .int 0, .ref 195, .ref 196, .ref 197, .ref 198]),
  (13, List.replicate 40 (.int 0)),
  (13, List.replicate 40 (.int 0)),
  (13, List.replicate 40 (.int 0)),
  (13, List.replicate 40 (.int 0)),
  (0, [.ref 200, .ref 201, .ref 202, .int 0]),
  (13, List.replicate 40 (.int 0)),
  (13, List.replicate 40 (.int 0)),
  (13, List.replicate 40 (.int 0)),
  (2, [.int (-1), .int (-1), .int (-1), .ref 204, .int 0, .ref 205, .int 0, .ref 206]),
  (13, List.replicate 6 (.int 0)),
  (13, List.replicate 256 (.int 0)),
  (13, List.replicate 256 (.int 0)),
  (1, [.int 0]),
  (13, [.int (-1), .int (-1), .int (-1), .int (-1)])]
set_option maxRecDepth 100000 in
theorem ll_met (l : Launch) (E : ri_V) (D : va_G) (cA : Nat → ClassId) : ri_Met l E D cA 8 md_100.1 [.ref 0] h_l0 (fun a b => a = none ∧ b = h_l1) := by
  have hdc : ∀ q ∈ ([] : ri_O), ri_hd q.1 (ri_ic E q.2.1) (ri_ic E q.2.2.1) = q.2.2.2 := fun _ h => absurd h List.not_mem_nil
  obtain ⟨n, hMk⟩ := mk_100
  refine ri_met_of hMk (by decide) (fun p e s m args below meth c X hrt hlk => ?_)
  have C : ri_Ca l E D cA ri_md (ri_kn1 (ri_call [] ri_md 7) 72 [.ref 2, .ref 1] h_r0 h_r1) 7 md_100.1 (ri_rm 8 md_100.1) := ⟨ri_mk_all, ri_kn1_ok (fun j q as h v h' hq hs => ri_run l E D cA hdc hq hs) (q0 := md_72) rfl (rd_met l E D cA), Nat.le_refl _, Nat.le_refl _, by decide, by decide⟩
  have hf : ∀ k : ri_F, k = lk_4 → ri_Gd p l e (ri_rm 8 md_100.1) s m args below meth c (MQ below (ri_Qc E D cA (fun a b => a = none ∧ b = h_l1)) args s md_100.1.2.2.2.2.2.1 md_100.1.2.2.2.2.2.2 (ri_A E)) E D cA md_100.1.2.2.1 (fun a b => a = none ∧ b = h_l1) md_100.1.2.2.2.2.2.1 md_100.1.2.2.2.2.2.2 k := by
    rintro _ rfl
    exact Or.inl ⟨rfl, ⟨rfl, rfl⟩, by decide, by decide⟩
  have g4 := hf _ rfl
  have g3 := ri_gd_sn X C hdc ot_100 hrt hlk (ri_is_ok lk_c3) (by decide : lk_3.1 ≠ 70000) g4
  have g2 := ri_gd_sn X C hdc ot_100 hrt hlk (ri_is_ok lk_c2) (by decide : lk_2.1 ≠ 70000) g3
  have g1 := ri_gd_sn X C hdc ot_100 hrt hlk (ri_is_ok lk_c1) (by decide : lk_1.1 ≠ 70000) g2
  have g0 := ri_gd_sn X C hdc ot_100 hrt hlk (ri_is_ok lk_c0) (by decide : lk_0.1 ≠ 70000) g1
  rcases g0 with ⟨h0, -⟩ | ⟨-, h0⟩
  · exact absurd h0 (by decide)
  · exact h0
end
section
def mc_0 : ri_F := (0, [(0, .ref 0)], [], [
  (12, [.int 0, .null, .int 0, .int 0, .int 0, .int 0, .null, .null, .null, .null, .null] ++ List.replicate 6 (.int 0) ++ [.long 0, .int 0, .int 0, .int 0, .null, .int 0, .null, .null, .int 0, .null, .null] ++ List.replicate 8 (.int 0) ++ [.null, .int 0, .null, .int 0, .int 0, .int 0, .int 0, .int 0, .null, .null, .null, .null])], 0, 0)
def mc_1 : ri_F := (397, [(1, .int 23), (0, .ref 0)], [.ref 0, .int 23, .ref 2], [
  (12, [.int 0, .ref 1, .int 0, .int 0, .int 0, .int 0, .ref 2, .ref 3, .ref 4, .ref 5, .ref 6] ++ List.replicate 6 (.int 0) ++ [.long 0, .int 0, .int 0, .int 0, .ref 7, .int 0, .ref 8, .ref 9, .int 0, .ref 10, .ref 11] ++ List.replicate 8 (.int 0) ++ [.ref 12, .int 0, .ref 13, .int 0, .int 0, .int 0, .int 0, .int 0, .ref 14, .ref 15, .ref 16, .ref 17]),
  (14, List.replicate 940 (.int 0)),
  (13, [.int 4, .int 3, .int 20, .int 0, .int 0, .int 0, .int 0, .int 0, .int (-1)] ++ List.replicate 346 (.int 0)),
  (13, [.int 4, .int 3, .int 20, .int 0, .int 0, .int 0, .int 0, .int 0, .int (-1)] ++ List.replicate 87 (.int 0)),
  (13, List.replicate 135 (.int 0)),
  (15, List.replicate 48 (.long 0)),
  (15, [.long 426903366771, .long 495673374574, .long 461262647411, .long 121398985520243, .long 6906725, .long 6518117, .long 119182984441710, .long 32762566252455282, .long 1651466612, .long 495673374579, .long 491395114867, .long 495555538035, .long 6578553, .long 28530, .long 6385252, .long 7237492, .long 461414299502, .long 500085055865, .long 24948, .long 25209, .long 499984983411, .long 495874044019, .long 1685024357, .long 121450625394034]),
  (13, List.replicate 8 (.int 0)),
  (13, List.replicate 624 (.int 0)),
  (13, List.replicate 78 (.int 0)),
  (16, List.replicate 256 (.int 0)),
  (13, List.replicate 256 (.int 0)),
  (13, [.int 0, .int 0, .int 0, .int 0]),
  (13, List.replicate 45 (.int 0)),
  (16, List.replicate 45 (.int 0)),
  (13, List.replicate 710 (.int 0)),
  (15, List.replicate 48 (.long 0)),
  (16, [.int 0, .int 0])], 17, 3674)
set_option maxRecDepth 100000 in
theorem mc_c0 : ri_is (ri_sn (ri_st [] (ri_call [] ri_md 7) (ri_bud ri_md) md_153) 500 mc_0) mc_1 = true := by decide +kernel
def mc_2 : ri_F := (385, [(1, .int 62), (0, .ref 0)], [], [
  (12, [.int 0, .ref 1, .int 0, .int 0, .int 0, .int 0, .ref 2, .ref 3, .ref 4, .ref 5, .ref 6] ++ List.replicate 6 (.int 0) ++ [.long 0, .int 0, .int 0, .int 0, .ref 7, .int 0, .ref 8, .ref 9, .int 0, .ref 10, .ref 11] ++ List.replicate 8 (.int 0) ++ [.ref 12, .int 0, .ref 13, .int 0, .int 0, .int 0, .int 0, .int 0, .ref 14, .ref 15, .ref 16, .ref 17]),
  (14, List.replicate 940 (.int 0)),
  (13, [.int 4, .int 3, .int 20, .int 0, .int 0, .int 0, .int 0, .int 0, .int (-1)] ++ List.replicate 346 (.int 0)),
  (13, [.int 4, .int 3, .int 20, .int 0, .int 0, .int 0, .int 0, .int 0, .int (-1)] ++ List.replicate 87 (.int 0)),
  (13, List.replicate 135 (.int 0)),
  (15, List.replicate 48 (.long 0)),
  (15, [.long 426903366771, .long 495673374574, .long 461262647411, .long 121398985520243, .long 6906725, .long 6518117, .long 119182984441710, .long 32762566252455282, .long 1651466612, .long 495673374579, .long 491395114867, .long 495555538035, .long 6578553, .long 28530, .long 6385252, .long 7237492, .long 461414299502, .long 500085055865, .long 24948, .long 25209, .long 499984983411, .long 495874044019, .long 1685024357, .long 121450625394034]),
  (13, List.replicate 8 (.int 0)),
  (13, List.replicate 624 (.int 0)),
  (13, List.replicate 78 (.int 0)),
  (16, List.replicate 256 (.int 0)),
  (13, List.replicate 256 (.int 0)),
  (13, [.int 0, .int 0, .int 0, .int 0]),
  (13, List.replicate 45 (.int 0)),
  (16, List.replicate 45 (.int 0)),
  (13, List.replicate 710 (.int 0)),
  (15, List.replicate 48 (.long 0)),
  (16, [.int 0, .int 0])], 17, 3674)
set_option maxRecDepth 100000 in
theorem mc_c1 : ri_is (ri_sn (ri_st [] (ri_call [] ri_md 7) (ri_bud ri_md) md_153) 500 mc_1) mc_2 = true := by decide +kernel
def mc_3 : ri_F := (70000, [], [], [
  (12, [.int 0, .ref 1, .int 0, .int 0, .int 0, .int 0, .ref 2, .ref 3, .ref 4, .ref 5, .ref 6] ++ List.replicate 6 (.int 0) ++ [.long 0, .int 0, .int 0, .int 0, .ref 7, .int 0, .ref 8, .ref 9, .int 0, .ref 10, .ref 11] ++ List.replicate 8 (.int 0) ++ [.ref 12, .int 0, .ref 13, .int 0, .int 0, .int 0, .int 0, .int 0, .ref 14, .ref 15, .ref 16, .ref 17]),
  (14, List.replicate 940 (.int 0)),
  (13, [.int 4, .int 3, .int 20, .int 0, .int 0, .int 0, .int 0, .int 0, .int (-1)] ++ List.replicate 346 (.int 0)),
  (13, [.int 4, .int 3, .int 20, .int 0, .int 0, .int 0, .int 0, .int 0, .int (-1)] ++ List.replicate 87 (.int 0)),
  (13, List.replicate 135 (.int 0)),
  (15, List.replicate 48 (.long 0)),
  (15, [.long 426903366771, .long 495673374574, .long 461262647411, .long 121398985520243, .long 6906725, .long 6518117, .long 119182984441710, .long 32762566252455282, .long 1651466612, .long 495673374579, .long 491395114867, .long 495555538035, .long 6578553, .long 28530, .long 6385252, .long 7237492, .long 461414299502, .long 500085055865, .long 24948, .long 25209, .long 499984983411, .long 495874044019, .long 1685024357, .long 121450625394034]),
  (13, List.replicate 8 (.int 0)),
  (13, List.replicate 624 (.int 0)),
  (13, List.replicate 78 (.int 0)),
  (16, List.replicate 256 (.int 0)),
  (13, List.replicate 256 (.int 0)),
  (13, [.int 0, .int 0, .int 0, .int 0]),
  (13, List.replicate 45 (.int 0)),
  (16, List.replicate 45 (.int 0)),
  (13, List.replicate 710 (.int 0)),
  (15, List.replicate 48 (.long 0)),
  (16, [.int 0, .int 0])], 17, 3674)
set_option maxRecDepth 100000 in
theorem mc_c2 : ri_is (ri_sn (ri_st [] (ri_call [] ri_md 7) (ri_bud ri_md) md_153) 446 mc_2) mc_3 = true := by decide +kernel
def h_n0 : ri_H := [
  (12, [.int 0, .null, .int 0, .int 0, .int 0, .int 0, .null, .null, .null, .null, .null] ++ List.replicate 6 (.int 0) ++ [.long 0, .int 0, .int 0, .int 0, .null, .int 0, .null, .null, .int 0, .null, .null] ++ List.replicate 8 (.int 0) ++ [.null, .int 0, .null, .int 0, .int 0, .int 0, .int 0, .int 0, .null, .null, .null, .null])]
def h_n1 : ri_H := [
  (12, [.int 0, .ref 1, .int 0, .int 0, .int 0, .int 0, .ref 2, .ref 3, .ref 4, .ref 5, .ref 6] ++ List.replicate 6 (.int 0) ++ [.long 0, .int 0, .int 0, .int 0, .ref 7, .int 0, .ref 8, .ref 9, .int 0, .ref 10, .ref 11] ++ List.replicate 8 (.int 0) ++ [.ref 12, .int 0, .ref 13, .int 0, .int 0, .int 0, .int 0, .int 0, .ref 14, .ref 15, .ref 16, .ref 17]),
  (14, List.replicate 940 (.int 0)),
  (13, [.int 4, .int 3, .int 20, .int 0, .int 0, .int 0, .int 0, .int 0, .int (-1)] ++ List.replicate 346 (.int 0)),
  (13, [.int 4, .int 3, .int 20, .int 0, .int 0, .int 0, .int 0, .int 0, .int (-1)] ++ List.replicate 87 (.int 0)),
  (13, List.replicate 135 (.int 0)),
  (15, List.replicate 48 (.long 0)),
  (15, [.long 426903366771, .long 495673374574, .long 461262647411, .long 121398985520243, .long 6906725, .long 6518117, .long 119182984441710, .long 32762566252455282, .long 1651466612, .long 495673374579, .long 491395114867, .long 495555538035, .long 6578553, .long 28530, .long 6385252, .long 7237492, .long 461414299502, .long 500085055865, .long 24948, .long 25209, .long 499984983411, .long 495874044019, .long 1685024357, .long 121450625394034]),
  (13, List.replicate 8 (.int 0)),
  (13, List.replicate 624 (.int 0)),
  (13, List.replicate 78 (.int 0)),
  (16, List.replicate 256 (.int 0)),
  (13, List.replicate 256 (.int 0)),
  (13, [.int 0, .int 0, .int 0, .int 0]),
  (13, List.replicate 45 (.int 0)),
  (16, List.replicate 45 (.int 0)),
  (13, List.replicate 710 (.int 0)),
  (15, List.replicate 48 (.long 0)),
  (16, [.int 0, .int 0])]
set_option maxRecDepth 100000 in
theorem mn_met (l : Launch) (E : ri_V) (D : va_G) (cA : Nat → ClassId) : ri_Met l E D cA 8 md_153.1 [.ref 0] h_n0 (fun a b => a = none ∧ b = h_n1) := by
  have hdc : ∀ q ∈ ([] : ri_O), ri_hd q.1 (ri_ic E q.2.1) (ri_ic E q.2.2.1) = q.2.2.2 := fun _ h => absurd h List.not_mem_nil
  obtain ⟨n, hMk⟩ := mk_153
  refine ri_met_of hMk (by decide) (fun p e s m args below meth c X hrt hlk => ?_)
  have C : ri_Ca l E D cA ri_md (ri_call [] ri_md 7) 7 md_153.1 (ri_rm 8 md_153.1) := ⟨ri_mk_all, fun j q as h v h' hq hs => ri_run l E D cA hdc hq hs, Nat.le_refl _, Nat.le_refl _, by decide, by decide⟩
  have hf : ∀ k : ri_F, k = mc_3 → ri_Gd p l e (ri_rm 8 md_153.1) s m args below meth c (MQ below (ri_Qc E D cA (fun a b => a = none ∧ b = h_n1)) args s md_153.1.2.2.2.2.2.1 md_153.1.2.2.2.2.2.2 (ri_A E)) E D cA md_153.1.2.2.1 (fun a b => a = none ∧ b = h_n1) md_153.1.2.2.2.2.2.1 md_153.1.2.2.2.2.2.2 k := by
    rintro _ rfl
    exact Or.inl ⟨rfl, ⟨rfl, rfl⟩, by decide, by decide⟩
  have g3 := hf _ rfl
  have g2 := ri_gd_sn X C hdc ot_153 hrt hlk (ri_is_ok mc_c2) (by decide : mc_2.1 ≠ 70000) g3
  have g1 := ri_gd_sn X C hdc ot_153 hrt hlk (ri_is_ok mc_c1) (by decide : mc_1.1 ≠ 70000) g2
  have g0 := ri_gd_sn X C hdc ot_153 hrt hlk (ri_is_ok mc_c0) (by decide : mc_0.1 ≠ 70000) g1
  rcases g0 with ⟨h0, -⟩ | ⟨-, h0⟩
  · exact absurd h0 (by decide)
  · exact h0
def h_m0 : ri_H := h_l1 ++ h_n0.map (ri_shC 209)
def h_m1 : ri_H := h_l1 ++ h_n1.map (ri_shC 209)
theorem ml_met (l : Launch) (E : ri_V) (D : va_G) (cA : Nat → ClassId) : ri_Met l E D cA 8 md_153.1 [.ref 209] h_m0 (fun a b => a = none ∧ b = h_m1) := by
  refine (ri_shift (hc := h_l1) (n := 209) (by decide +kernel) (mn_met l (E.1 + 209, E.2) D cA)).mono ?_
  rintro v h' ⟨v', hm', ⟨rfl, rfl⟩, rfl, rfl⟩
  exact ⟨rfl, rfl⟩
end
section
set_option maxRecDepth 100000 in
theorem ot_law : ri_okT ri_md ri_law = true := by decide +kernel
set_option maxRecDepth 100000 in
theorem lw_pre0 : ri_is (ri_sn (ri_st [] (ri_kn1 (ri_kn1 (ri_call [] ri_md 8) 100 [.ref 0] h_l0 h_l1) 153 [.ref 209] h_m0 h_m1) (ri_bud ri_md) ri_law) 13 (0, [(0, .retAddr 8)], [], [], 0, 0)) (23, lo_law, [], h_fr, 228, 7820) = true := by decide +kernel
theorem lw_Cp (l : Launch) (E : ri_V) (D : va_G) (cA : Nat → ClassId) : ri_Ca l E D cA ri_md (ri_kn1 (ri_kn1 (ri_call [] ri_md 8) 100 [.ref 0] h_l0 h_l1) 153 [.ref 209] h_m0 h_m1) 8 ri_law.1 room_1 := by
  have hdc : ∀ q ∈ ([] : ri_O), ri_hd q.1 (ri_ic E q.2.1) (ri_ic E q.2.2.1) = q.2.2.2 := fun _ h => absurd h List.not_mem_nil
  exact ⟨ri_mk_all, ri_kn1_ok (ri_kn1_ok (fun j q as h v h' hq hs => ri_run l E D cA hdc hq hs) (q0 := md_100) rfl (ll_met l E D cA)) (q0 := md_153) rfl (ml_met l E D cA), Nat.le_refl _, Nat.le_refl _, by decide, by decide⟩
end
section
theorem ri_xt_len {args : Array Value} {s : State} {t : Term} {a : Nat} {cA : Cell} {v : Value} (ht : t.eval args s none [] s = some (.ref a)) (hat : s.arrayAt? a = some cA) (hv : (Term.length t).eval args s none [] s = some v) : cA.slots.size < 2 ^ 31 := by
  simp only [Term.eval, ht, hat, Option.bind_eq_bind, Option.bind_some] at hv
  by_cases hlt : cA.slots.size < 2147483648
  · exact hlt
  · simp [hlt] at hv
/-- a static int table, exactly -/
theorem ri_xt_of {args : Array Value} {s : State} {E : ri_V} {n : String} {xs : List Int32} (hE : E.1 = s.heap.size) (hN : xs.length < 2 ^ 31) (hex : (Cond.exactly (.static "LakeLearns" n "[I") "[I").before args s = true) (har : (Cond.arrayOf (.static "LakeLearns" n "[I") .int).before args s = true) (hle : (Cond.eq (.length (.static "LakeLearns" n "[I")) (.int (Int32.ofNat xs.length))).before args s = true)
    (hel : ∀ j : Nat, j < xs.length → (Cond.eq (.elem (.static "LakeLearns" n "[I") (.int (Int32.ofNat j))) (.int (xs.getD j 0))).before args s = true) : ∃ t : Nat, (Term.static "LakeLearns" n "[I").eval args s none [] s = some (.ref t) ∧ ri_xt E t xs s s.heap := by
  obtain ⟨a, c, cA, kA, q1, q2, q3, q4, q5, q6, -⟩ := Cond.exactly_spec (args := args) (first := s) (o := none) (s := s) (idx := []) (t := .static "LakeLearns" n "[I") (cls := "[I") hex
  have hv := va_eqt hle
  obtain ⟨a', cell, ht, hat, hv2⟩ := Term.length_spec hv
  cases q1.symm.trans ht
  obtain ⟨hcell, hkn, -, -⟩ := State.arrayAt?_spec hat
  cases q3.symm.trans hcell
  have hsz : cA.slots.size < 2 ^ 31 := ri_xt_len ht hat hv
  have hof := (Cond.arrayOf_spec har ht hcell).1
  have hsl : cA.slots.size = xs.length := by
    have e1 : Int32.ofNat xs.length = cA.slots.size.toInt32 := Value.int.inj hv2
    have e2 : (Int32.ofNat xs.length).toInt = (Int32.ofNat cA.slots.size).toInt := congrArg Int32.toInt e1
    rw [Int32.toInt_ofNat_small hN, Int32.toInt_ofNat_small hsz] at e2
    omega
  refine ⟨a, q1, cA, q3, hof, hkn, hsl, fun j hj => ?_, by rw [q6]; exact q2, ?_⟩
  · obtain ⟨a2, i, cell2, g1, g2, g3, g4, g5⟩ := Term.elem_spec (va_eqt (hel j hj))
    cases q1.symm.trans g1
    cases hat.symm.trans g3
    have hi : i = Int32.ofNat j := by
      have e : (Term.int (Int32.ofNat j)).eval args s none [] s = some (.int (Int32.ofNat j)) := rfl
      cases g2.symm.trans e
      rfl
    subst hi
    have hj31 : j < 2 ^ 31 := Nat.lt_trans hj hN
    rw [show (Int32.ofNat j).toNatClampNeg = j from nI_clamp hj31] at g5
    exact g5
  · show ¬ E.1 ≤ a
    rw [hE]
    exact Nat.not_le.mpr (Array.getElem?_eq_some_iff.mp q3).1
def lw_nw : List Cond := flatC (Jvm.Cond.and given_1 narrow_1)
set_option maxRecDepth 100000 in
theorem lw_nx (n : Nat) (h1 : 1 ≤ n) (h4 : n ≤ 4) : (Cond.exactly (.static "LakeLearns" (ri_xn n) "[I") "[I") ∈ lw_nw ∧ (Cond.arrayOf (.static "LakeLearns" (ri_xn n) "[I") .int) ∈ lw_nw ∧ (Cond.eq (.length (.static "LakeLearns" (ri_xn n) "[I")) (.int (Int32.ofNat (ri_xl n).length))) ∈ lw_nw ∧ (∀ j : Nat, j < (ri_xl n).length → (Cond.eq (.elem (.static "LakeLearns" (ri_xn n) "[I") (.int (Int32.ofNat j))) (.int ((ri_xl n).getD j 0))) ∈ lw_nw) ∧ (Cond.laysStatic "LakeLearns" (ri_xn n) "[I") ∈ lw_tbl := by
  rcases (show n = 1 ∨ n = 2 ∨ n = 3 ∨ n = 4 by omega) with rfl | rfl | rfl | rfl
  · exact ⟨by decide +kernel, by decide +kernel, by decide +kernel, by decide +kernel, by decide +kernel⟩
  · exact ⟨by decide +kernel, by decide +kernel, by decide +kernel, by decide +kernel, by decide +kernel⟩
  · exact ⟨by decide +kernel, by decide +kernel, by decide +kernel, by decide +kernel, by decide +kernel⟩
  · exact ⟨by decide +kernel, by decide +kernel, by decide +kernel, by decide +kernel, by decide +kernel⟩
set_option maxRecDepth 100000 in
theorem lw_ny : (Cond.exactly (.string "LakeLearns$Reader" 48) "java/lang/String") ∈ lw_nw ∧ (Cond.eq (.field (.string "LakeLearns$Reader" 48) "java/lang/String" "coder" "B") (.int 0)) ∈ lw_nw ∧ (Cond.arrayOf (.field (.string "LakeLearns$Reader" 48) "java/lang/String" "value" "[B") .byte) ∈ lw_nw ∧ (Cond.eq (.length (.field (.string "LakeLearns$Reader" 48) "java/lang/String" "value" "[B")) (.int (Int32.ofNat 128))) ∈ lw_nw ∧ (∀ j : Nat, j < 128 → (Cond.eq (.elem (.field (.string "LakeLearns$Reader" 48) "java/lang/String" "value" "[B") (.int (Int32.ofNat j))) (.int ((ri_xl 6).getD j 0))) ∈ lw_nw) ∧ (Cond.stringRef "LakeLearns$Reader" 48 ri_key) ∈ lw_tbl :=
  ⟨by decide +kernel, by decide +kernel, by decide +kernel, by decide +kernel, by decide +kernel, by decide +kernel⟩
set_option maxRecDepth 100000 in
theorem lw_nz : (Cond.eq (.static "java/lang/String" "COMPACT_STRINGS" "Z") (.int 1)) ∈ lw_nw ∧ (Cond.laysStatic "java/lang/String" "COMPACT_STRINGS" "Z") ∈ lw_tbl ∧ (Cond.initialized "java/lang/String") ∈ lw_tbl ∧ (Cond.isRef (.static "jdk/internal/util/Preconditions" "SIOOBE_FORMATTER" "Ljava/util/function/BiFunction;")) ∈ lw_nw ∧ (Cond.laysStatic "jdk/internal/util/Preconditions" "SIOOBE_FORMATTER" "Ljava/util/function/BiFunction;") ∈ lw_tbl ∧ (Cond.initialized "jdk/internal/util/Preconditions") ∈ lw_tbl ∧ (Cond.initialized "LakeLearns") ∈ lw_tbl :=
  ⟨by decide +kernel, by decide +kernel, by decide +kernel, by decide +kernel, by decide +kernel, by decide +kernel, by decide +kernel⟩
/-- WHAT IS THERE at the law's start -/
theorem lw_X {args : Array Value} {s : State} {b : Nat} (hts : ∀ w ∈ lw_tbl, w.before args s = true) (hgv : (Jvm.Cond.and given_1 narrow_1).before args s = true) : ∃ xo : Nat → Option Nat, xo 8 = some b ∧ ∀ sg : Nat → Int32, ri_X (s.heap.size, xo, sg) s s.heap := by
  have hs : ∀ w ∈ lw_nw, w.before args s = true := flat_of_before _ hgv
  have hA : ∀ a : Nat, a < s.heap.size → ¬ (fun q : Nat => s.heap.size ≤ q) a := fun a h => Nat.not_le.mpr h
  have tab : ∀ n : Nat, 1 ≤ n → n ≤ 4 → ∃ t : Nat, (Term.static "LakeLearns" (ri_xn n) "[I").eval args s none [] s = some (.ref t) ∧ ∀ E : ri_V, E.1 = s.heap.size → ri_xt E t (ri_xl n) s s.heap := by
    intro n h1 h4
    obtain ⟨w1, w2, w3, w4, -⟩ := lw_nx n h1 h4
    have hN : (ri_xl n).length < 2 ^ 31 := by
      rcases (show n = 1 ∨ n = 2 ∨ n = 3 ∨ n = 4 by omega) with rfl | rfl | rfl | rfl <;> decide
    obtain ⟨t, ht, -⟩ := ri_xt_of (E := (s.heap.size, fun _ => none, fun _ => 0)) rfl hN (hs _ w1) (hs _ w2) (hs _ w3) (fun j hj => hs _ (w4 j hj))
    refine ⟨t, ht, fun E hE => ?_⟩
    obtain ⟨t', ht', hx⟩ := ri_xt_of hE hN (hs _ w1) (hs _ w2) (hs _ w3) (fun j hj => hs _ (w4 j hj))
    cases ht.symm.trans ht'
    exact hx
  obtain ⟨t1, e1, x1⟩ := tab 1 (by omega) (by omega)
  obtain ⟨t2, e2, x2⟩ := tab 2 (by omega) (by omega)
  obtain ⟨t3, e3, x3⟩ := tab 3 (by omega) (by omega)
  obtain ⟨t4, e4, x4⟩ := tab 4 (by omega) (by omega)
  obtain ⟨y1, y2, y3, y4, y5, y6⟩ := lw_ny
  obtain ⟨z1, z2, z3, z4, z5, z6, z7⟩ := lw_nz
  obtain ⟨adK, adV, hVS, hev⟩ := vk_Sof (args := args) (s := s) (N := 1) (tm := fun _ => .string "LakeLearns$Reader" 48) (len := [128]) (byt := [ri_xl 6]) (A := fun q : Nat => s.heap.size ≤ q) (fun i hi => by rw [show i = 0 by omega]; decide) (fun _ _ => hs _ y1) (fun _ _ => hs _ y2) (fun _ _ => hs _ y3) (fun i hi => by rw [show i = 0 by omega]; exact hs _ y4) (fun i hi j hj => by rw [show i = 0 by omega] at hj ⊢; exact hs _ (y5 j hj)) (fun i j hi hj hne => absurd (by omega) hne) hA
  obtain ⟨g4, g5, g6, g7⟩ := hVS.1 0 (by omega)
  have hq7 := va_Zqof (A := fun q : Nat => s.heap.size ≤ q) (hts _ z5) (hts _ z6) (hs _ z4) hA
  obtain ⟨o7, h7⟩ : ∃ o7 : Option Nat, va_Z "jdk/internal/util/Preconditions" "SIOOBE_FORMATTER" "Ljava/util/function/BiFunction;" (va_rf o7) (fun q : Nat => s.heap.size ≤ q) s s.heap := by
    rcases hq7 with h | ⟨t, h⟩
    · exact ⟨none, h⟩
    · exact ⟨some t, h⟩
  refine ⟨fun n => if n = 1 then some t1 else if n = 2 then some t2 else if n = 3 then some t3 else if n = 4 then some t4 else if n = 5 then some (adK 0) else if n = 6 then some (adV 0) else if n = 7 then o7 else some b, rfl, fun sg => ⟨fun n h1 h4 => ?_, va_Zof (hts _ z2) (hts _ z3) (va_eqi (hs _ z1)) hA, ⟨adK 0, adV 0, rfl, rfl, vk_R.of (hts _ y6) (hev 0 (by omega)), g4, g5, g6, g7⟩, h7⟩⟩
  have hl := (lw_nx n h1 h4).2.2.2.2
  rcases (show n = 1 ∨ n = 2 ∨ n = 3 ∨ n = 4 by omega) with rfl | rfl | rfl | rfl
  · exact ⟨t1, rfl, va_Zof (hts _ hl) (hts _ z7) e1 hA, x1 _ rfl⟩
  · exact ⟨t2, rfl, va_Zof (hts _ hl) (hts _ z7) e2 hA, x2 _ rfl⟩
  · exact ⟨t3, rfl, va_Zof (hts _ hl) (hts _ z7) e3 hA, x3 _ rfl⟩
  · exact ⟨t4, rfl, va_Zof (hts _ hl) (hts _ z7) e4 hA, x4 _ rfl⟩
set_option maxRecDepth 100000 in
theorem lw_kw : (Cond.arrayClass .int ∈ lw_tbl ∧ Cond.arrayClass .byte ∈ lw_tbl ∧ Cond.arrayClass .long ∈ lw_tbl ∧ Cond.arrayClass .boolean ∈ lw_tbl) ∧ Cond.arrayOver (.object RX6) ∈ lw_tbl ∧ Cond.arrayOver (.object RX3) ∈ lw_tbl :=
  ⟨⟨by decide +kernel, by decide +kernel, by decide +kernel, by decide +kernel⟩, by decide +kernel, by decide +kernel⟩
theorem lw_inst : ∀ r ∈ vwCl, Cond.instantiable r.1 r.2.2 ∈ lw_tbl := by
  intro r hr
  simp only [vwCl, List.mem_cons, List.not_mem_nil, or_false] at hr
  rcases hr with rfl | rfl | rfl | rfl | rfl | rfl | rfl | rfl | rfl | rfl | rfl | rfl | rfl <;> (dsimp only; decide +kernel)
/-- the classes as the tables have them -/
theorem lw_K {args : Array Value} {s : State} (hts : ∀ w ∈ lw_tbl, w.before args s = true) : ∃ (D : va_G) (cA : Nat → ClassId), va_K D vwCl (ri_tys cA) s := by
  have hk : ∀ k : Nat, ∃ q : ClassId × (Nat → Nat), ∀ r : vw_C, vwCl[k]? = some r → u_Kn s r.1 r.2.1 r.2.2 q.1 q.2 := by
    intro k
    cases hr : vwCl[k]? with
    | none => exact ⟨(0, fun _ => 0), fun r h => by cases h⟩
    | some r =>
      obtain ⟨ty0, fs, -, -, hin, -⟩ := ri_cls hr
      obtain ⟨cC, iS, h⟩ := u_known (ws := lw_tbl) hts (fun w hw => (List.mem_filter.mp (hin w hw)).1) (hts _ (lw_inst r (List.mem_of_getElem? hr)))
      exact ⟨(cC, iS), fun r' h' => by cases h'; exact h⟩
  obtain ⟨f, hf⟩ := Classical.axiomOfChoice hk
  obtain ⟨⟨a1, a2, a3, a4⟩, a5, a6⟩ := lw_kw
  have prim : ∀ ty : FieldType, Cond.arrayClass ty ∈ lw_tbl → (∀ C, ty ≠ .object C) → ∃ c : ClassId, ArrOfT s c ty ∧ va_RA s c ty := by
    intro ty hm hne
    obtain ⟨c, k, comp, h1, h2, h3⟩ := Cond.arrayClass_spec (hts _ hm)
    refine ⟨c, fun n z => ⟨(fun k h => by cases h), k, h2, comp, h3⟩, ?_⟩
    cases ty with
    | object C => exact absurd rfl (hne C)
    | _ => exact h1
  have refs : ∀ C : String, Cond.arrayOver (.object C) ∈ lw_tbl → ∃ c : ClassId, ArrOfT s c (.object C) ∧ va_RA s c (.object C) := by
    intro C hm
    obtain ⟨comp, c, k, h1, h2, h3, h4, h5⟩ := Cond.arrayOver_spec (hts _ hm)
    exact ⟨c, fun n z => ⟨(fun k h => by cases h), k, h3, comp, h4⟩, k, comp, h3, h4, h1, h5⟩
  obtain ⟨c13, k13⟩ := prim .int a1 (fun C h => by cases h)
  obtain ⟨c14, k14⟩ := prim .byte a2 (fun C h => by cases h)
  obtain ⟨c15, k15⟩ := prim .long a3 (fun C h => by cases h)
  obtain ⟨c16, k16⟩ := prim .boolean a4 (fun C h => by cases h)
  obtain ⟨c17, k17⟩ := refs RX6 a5
  obtain ⟨c18, k18⟩ := refs RX3 a6
  refine ⟨(fun k => (f k).1, fun k => (f k).2), fun t => if t = 13 then c13 else if t = 14 then c14 else if t = 15 then c15 else if t = 16 then c16 else if t = 17 then c17 else c18, fun k r hr => hf k r hr, fun k q hq => ?_⟩
  match k, hq with
  | 0, hq => cases hq; exact k13
  | 1, hq => cases hq; exact k14
  | 2, hq => cases hq; exact k15
  | 3, hq => cases hq; exact k16
  | 4, hq => cases hq; exact k17
  | 5, hq => cases hq; exact k18
  | k + 6, hq => simp [ri_tys] at hq
end
