section
-- ===== PART A: goes FIRST, ahead of the names: the tables' words, and 'selects' of the private methods out of them =====
/-- a private method of a class that the tables say can be made, by its rows of tables_1 -/
def lw_okq (q : MethodName × Nat) : Prop := (q.1.cls ≠ "java/lang/invoke/MethodHandle" ∧ q.1.cls ≠ "java/lang/invoke/VarHandle") ∧ Cond.instantiable q.1.cls q.2 ∈ tables_1 ∧ Cond.privateMethod q.1 ∈ tables_1 ∧ Cond.instanceMethod q.1 ∈ tables_1
theorem lw_p0 : lw_okq (⟨"SevenUnsaid", "tell", "(III)Z"⟩, 9) := ⟨⟨by decide +kernel, by decide +kernel⟩, List.mem_of_getElem? (i := 24) (by decide +kernel), List.mem_of_getElem? (i := 454) (by decide +kernel), List.mem_of_getElem? (i := 455) (by decide +kernel)⟩
theorem lw_p1 : lw_okq (⟨"SevenUnsaid", "tellPace", "(I)Z"⟩, 9) := ⟨⟨by decide +kernel, by decide +kernel⟩, List.mem_of_getElem? (i := 24) (by decide +kernel), List.mem_of_getElem? (i := 458) (by decide +kernel), List.mem_of_getElem? (i := 459) (by decide +kernel)⟩
theorem lw_p2 : lw_okq (⟨"SevenUnsaid", "tellNext", "(I)Z"⟩, 9) := ⟨⟨by decide +kernel, by decide +kernel⟩, List.mem_of_getElem? (i := 24) (by decide +kernel), List.mem_of_getElem? (i := 482) (by decide +kernel), List.mem_of_getElem? (i := 483) (by decide +kernel)⟩
theorem lw_p3 : lw_okq (⟨"SevenUnsaid", "tellAt", "(I)Z"⟩, 9) := ⟨⟨by decide +kernel, by decide +kernel⟩, List.mem_of_getElem? (i := 24) (by decide +kernel), List.mem_of_getElem? (i := 489) (by decide +kernel), List.mem_of_getElem? (i := 490) (by decide +kernel)⟩
theorem lw_p4 : lw_okq (⟨"SevenUnsaid$LawMaker", "begin", "()V"⟩, 9) := ⟨⟨by decide +kernel, by decide +kernel⟩, List.mem_of_getElem? (i := 327) (by decide +kernel), List.mem_of_getElem? (i := 530) (by decide +kernel), List.mem_of_getElem? (i := 531) (by decide +kernel)⟩
theorem lw_p5 : lw_okq (⟨"SevenUnsaid$Tape", "sign", "(I)I"⟩, 6) := ⟨⟨by decide +kernel, by decide +kernel⟩, List.mem_of_getElem? (i := 333) (by decide +kernel), List.mem_of_getElem? (i := 546) (by decide +kernel), List.mem_of_getElem? (i := 547) (by decide +kernel)⟩
theorem lw_p6 : lw_okq (⟨"SevenUnsaid$Tape", "readWord", "()V"⟩, 6) := ⟨⟨by decide +kernel, by decide +kernel⟩, List.mem_of_getElem? (i := 333) (by decide +kernel), List.mem_of_getElem? (i := 556) (by decide +kernel), List.mem_of_getElem? (i := 557) (by decide +kernel)⟩
theorem lw_p7 : lw_okq (⟨"SevenUnsaid$Tape", "keyword", "()I"⟩, 6) := ⟨⟨by decide +kernel, by decide +kernel⟩, List.mem_of_getElem? (i := 333) (by decide +kernel), List.mem_of_getElem? (i := 560) (by decide +kernel), List.mem_of_getElem? (i := 561) (by decide +kernel)⟩
theorem lw_p8 : lw_okq (⟨"SevenUnsaid$Tape", "spells", "(Ljava/lang/String;)Z"⟩, 6) := ⟨⟨by decide +kernel, by decide +kernel⟩, List.mem_of_getElem? (i := 333) (by decide +kernel), List.mem_of_getElem? (i := 565) (by decide +kernel), List.mem_of_getElem? (i := 566) (by decide +kernel)⟩
theorem lw_p9 : lw_okq (⟨"SevenUnsaid$Tape", "readNumber", "()V"⟩, 6) := ⟨⟨by decide +kernel, by decide +kernel⟩, List.mem_of_getElem? (i := 333) (by decide +kernel), List.mem_of_getElem? (i := 631) (by decide +kernel), List.mem_of_getElem? (i := 632) (by decide +kernel)⟩
theorem lw_p10 : lw_okq (⟨"SevenUnsaid$LawMaker", "take", "(I)I"⟩, 9) := ⟨⟨by decide +kernel, by decide +kernel⟩, List.mem_of_getElem? (i := 327) (by decide +kernel), List.mem_of_getElem? (i := 695) (by decide +kernel), List.mem_of_getElem? (i := 696) (by decide +kernel)⟩
theorem lw_p11 : lw_okq (⟨"SevenUnsaid$LawMaker", "takeLine", "(I)I"⟩, 9) := ⟨⟨by decide +kernel, by decide +kernel⟩, List.mem_of_getElem? (i := 327) (by decide +kernel), List.mem_of_getElem? (i := 699) (by decide +kernel), List.mem_of_getElem? (i := 700) (by decide +kernel)⟩
theorem lw_p12 : lw_okq (⟨"SevenUnsaid$LawMaker", "takeOpening", "(I)I"⟩, 9) := ⟨⟨by decide +kernel, by decide +kernel⟩, List.mem_of_getElem? (i := 327) (by decide +kernel), List.mem_of_getElem? (i := 703) (by decide +kernel), List.mem_of_getElem? (i := 704) (by decide +kernel)⟩
theorem lw_p13 : lw_okq (⟨"SevenUnsaid$LawMaker", "await", "(I)V"⟩, 9) := ⟨⟨by decide +kernel, by decide +kernel⟩, List.mem_of_getElem? (i := 327) (by decide +kernel), List.mem_of_getElem? (i := 707) (by decide +kernel), List.mem_of_getElem? (i := 708) (by decide +kernel)⟩
theorem lw_p14 : lw_okq (⟨"SevenUnsaid$LawMaker", "takeUnit", "(I)I"⟩, 9) := ⟨⟨by decide +kernel, by decide +kernel⟩, List.mem_of_getElem? (i := 327) (by decide +kernel), List.mem_of_getElem? (i := 711) (by decide +kernel), List.mem_of_getElem? (i := 712) (by decide +kernel)⟩
theorem lw_p15 : lw_okq (⟨"SevenUnsaid$LawMaker", "takePart", "(I)I"⟩, 9) := ⟨⟨by decide +kernel, by decide +kernel⟩, List.mem_of_getElem? (i := 327) (by decide +kernel), List.mem_of_getElem? (i := 719) (by decide +kernel), List.mem_of_getElem? (i := 720) (by decide +kernel)⟩
def lw_privs_1 : List (MethodName × Nat) := [(⟨"SevenUnsaid", "tell", "(III)Z"⟩, 9), (⟨"SevenUnsaid", "tellPace", "(I)Z"⟩, 9), (⟨"SevenUnsaid", "tellNext", "(I)Z"⟩, 9), (⟨"SevenUnsaid", "tellAt", "(I)Z"⟩, 9), (⟨"SevenUnsaid$LawMaker", "begin", "()V"⟩, 9), (⟨"SevenUnsaid$Tape", "sign", "(I)I"⟩, 6), (⟨"SevenUnsaid$Tape", "readWord", "()V"⟩, 6), (⟨"SevenUnsaid$Tape", "keyword", "()I"⟩, 6), (⟨"SevenUnsaid$Tape", "spells", "(Ljava/lang/String;)Z"⟩, 6), (⟨"SevenUnsaid$Tape", "readNumber", "()V"⟩, 6), (⟨"SevenUnsaid$LawMaker", "take", "(I)I"⟩, 9), (⟨"SevenUnsaid$LawMaker", "takeLine", "(I)I"⟩, 9), (⟨"SevenUnsaid$LawMaker", "takeOpening", "(I)I"⟩, 9), (⟨"SevenUnsaid$LawMaker", "await", "(I)V"⟩, 9), (⟨"SevenUnsaid$LawMaker", "takeUnit", "(I)I"⟩, 9), (⟨"SevenUnsaid$LawMaker", "takePart", "(I)I"⟩, 9)]
theorem lw_r1 : ∀ q ∈ lw_privs_1, lw_okq q := List.forall_mem_cons.mpr ⟨lw_p0, List.forall_mem_cons.mpr ⟨lw_p1, List.forall_mem_cons.mpr ⟨lw_p2, List.forall_mem_cons.mpr ⟨lw_p3, List.forall_mem_cons.mpr ⟨lw_p4, List.forall_mem_cons.mpr ⟨lw_p5, List.forall_mem_cons.mpr ⟨lw_p6, List.forall_mem_cons.mpr ⟨lw_p7, List.forall_mem_cons.mpr ⟨lw_p8, List.forall_mem_cons.mpr ⟨lw_p9, List.forall_mem_cons.mpr ⟨lw_p10, List.forall_mem_cons.mpr ⟨lw_p11, List.forall_mem_cons.mpr ⟨lw_p12, List.forall_mem_cons.mpr ⟨lw_p13, List.forall_mem_cons.mpr ⟨lw_p14, List.forall_mem_cons.mpr ⟨lw_p15, fun _ h => absurd h List.not_mem_nil⟩⟩⟩⟩⟩⟩⟩⟩⟩⟩⟩⟩⟩⟩⟩⟩
theorem lw_p16 : lw_okq (⟨"SevenUnsaid$LawMaker", "takeReckoning", "(I)I"⟩, 9) := ⟨⟨by decide +kernel, by decide +kernel⟩, List.mem_of_getElem? (i := 327) (by decide +kernel), List.mem_of_getElem? (i := 726) (by decide +kernel), List.mem_of_getElem? (i := 727) (by decide +kernel)⟩
theorem lw_p17 : lw_okq (⟨"SevenUnsaid$LawMaker", "joinBy", "(II)I"⟩, 9) := ⟨⟨by decide +kernel, by decide +kernel⟩, List.mem_of_getElem? (i := 327) (by decide +kernel), List.mem_of_getElem? (i := 730) (by decide +kernel), List.mem_of_getElem? (i := 731) (by decide +kernel)⟩
theorem lw_p18 : lw_okq (⟨"SevenUnsaid$LawMaker", "joinWaiting", "(I)V"⟩, 9) := ⟨⟨by decide +kernel, by decide +kernel⟩, List.mem_of_getElem? (i := 327) (by decide +kernel), List.mem_of_getElem? (i := 734) (by decide +kernel), List.mem_of_getElem? (i := 735) (by decide +kernel)⟩
theorem lw_p19 : lw_okq (⟨"SevenUnsaid$LawMaker", "takeComparison", "(I)I"⟩, 9) := ⟨⟨by decide +kernel, by decide +kernel⟩, List.mem_of_getElem? (i := 327) (by decide +kernel), List.mem_of_getElem? (i := 738) (by decide +kernel), List.mem_of_getElem? (i := 739) (by decide +kernel)⟩
theorem lw_p20 : lw_okq (⟨"SevenUnsaid$LawMaker", "takeJoin", "(I)I"⟩, 9) := ⟨⟨by decide +kernel, by decide +kernel⟩, List.mem_of_getElem? (i := 327) (by decide +kernel), List.mem_of_getElem? (i := 742) (by decide +kernel), List.mem_of_getElem? (i := 743) (by decide +kernel)⟩
theorem lw_p21 : lw_okq (⟨"SevenUnsaid$LawMaker", "endLine", "()I"⟩, 9) := ⟨⟨by decide +kernel, by decide +kernel⟩, List.mem_of_getElem? (i := 327) (by decide +kernel), List.mem_of_getElem? (i := 746) (by decide +kernel), List.mem_of_getElem? (i := 747) (by decide +kernel)⟩
theorem lw_p22 : lw_okq (⟨"SevenUnsaid$LawMaker", "takeWhen", "()I"⟩, 9) := ⟨⟨by decide +kernel, by decide +kernel⟩, List.mem_of_getElem? (i := 327) (by decide +kernel), List.mem_of_getElem? (i := 750) (by decide +kernel), List.mem_of_getElem? (i := 751) (by decide +kernel)⟩
theorem lw_p23 : lw_okq (⟨"SevenUnsaid$LawMaker", "closeBracket", "()I"⟩, 9) := ⟨⟨by decide +kernel, by decide +kernel⟩, List.mem_of_getElem? (i := 327) (by decide +kernel), List.mem_of_getElem? (i := 754) (by decide +kernel), List.mem_of_getElem? (i := 755) (by decide +kernel)⟩
theorem lw_p24 : lw_okq (⟨"SevenUnsaid", "playNumber", "(II)Z"⟩, 9) := ⟨⟨by decide +kernel, by decide +kernel⟩, List.mem_of_getElem? (i := 24) (by decide +kernel), List.mem_of_getElem? (i := 792) (by decide +kernel), List.mem_of_getElem? (i := 793) (by decide +kernel)⟩
theorem lw_p25 : lw_okq (⟨"SevenUnsaid$Law", "firstLine", "()I"⟩, 7) := ⟨⟨by decide +kernel, by decide +kernel⟩, List.mem_of_getElem? (i := 162) (by decide +kernel), List.mem_of_getElem? (i := 822) (by decide +kernel), List.mem_of_getElem? (i := 823) (by decide +kernel)⟩
theorem lw_p26 : lw_okq (⟨"SevenUnsaid$Law", "pop", "()I"⟩, 7) := ⟨⟨by decide +kernel, by decide +kernel⟩, List.mem_of_getElem? (i := 162) (by decide +kernel), List.mem_of_getElem? (i := 826) (by decide +kernel), List.mem_of_getElem? (i := 827) (by decide +kernel)⟩
theorem lw_p27 : lw_okq (⟨"SevenUnsaid$Law", "work", "(I)V"⟩, 7) := ⟨⟨by decide +kernel, by decide +kernel⟩, List.mem_of_getElem? (i := 162) (by decide +kernel), List.mem_of_getElem? (i := 830) (by decide +kernel), List.mem_of_getElem? (i := 831) (by decide +kernel)⟩
theorem lw_p28 : lw_okq (⟨"SevenUnsaid$Law", "push", "(I)V"⟩, 7) := ⟨⟨by decide +kernel, by decide +kernel⟩, List.mem_of_getElem? (i := 162) (by decide +kernel), List.mem_of_getElem? (i := 834) (by decide +kernel), List.mem_of_getElem? (i := 835) (by decide +kernel)⟩
theorem lw_p29 : lw_okq (⟨"SevenUnsaid", "oddsOfNext", "(I)I"⟩, 9) := ⟨⟨by decide +kernel, by decide +kernel⟩, List.mem_of_getElem? (i := 24) (by decide +kernel), List.mem_of_getElem? (i := 906) (by decide +kernel), List.mem_of_getElem? (i := 907) (by decide +kernel)⟩
theorem lw_p30 : lw_okq (⟨"SevenUnsaid", "canComeTo", "(I)Z"⟩, 9) := ⟨⟨by decide +kernel, by decide +kernel⟩, List.mem_of_getElem? (i := 24) (by decide +kernel), List.mem_of_getElem? (i := 947) (by decide +kernel), List.mem_of_getElem? (i := 948) (by decide +kernel)⟩
theorem lw_p31 : lw_okq (⟨"SevenUnsaid$Thought", "takeBy", "(I)V"⟩, 11) := ⟨⟨by decide +kernel, by decide +kernel⟩, List.mem_of_getElem? (i := 253) (by decide +kernel), List.mem_of_getElem? (i := 1035) (by decide +kernel), List.mem_of_getElem? (i := 1036) (by decide +kernel)⟩
def lw_privs_2 : List (MethodName × Nat) := [(⟨"SevenUnsaid$LawMaker", "takeReckoning", "(I)I"⟩, 9), (⟨"SevenUnsaid$LawMaker", "joinBy", "(II)I"⟩, 9), (⟨"SevenUnsaid$LawMaker", "joinWaiting", "(I)V"⟩, 9), (⟨"SevenUnsaid$LawMaker", "takeComparison", "(I)I"⟩, 9), (⟨"SevenUnsaid$LawMaker", "takeJoin", "(I)I"⟩, 9), (⟨"SevenUnsaid$LawMaker", "endLine", "()I"⟩, 9), (⟨"SevenUnsaid$LawMaker", "takeWhen", "()I"⟩, 9), (⟨"SevenUnsaid$LawMaker", "closeBracket", "()I"⟩, 9), (⟨"SevenUnsaid", "playNumber", "(II)Z"⟩, 9), (⟨"SevenUnsaid$Law", "firstLine", "()I"⟩, 7), (⟨"SevenUnsaid$Law", "pop", "()I"⟩, 7), (⟨"SevenUnsaid$Law", "work", "(I)V"⟩, 7), (⟨"SevenUnsaid$Law", "push", "(I)V"⟩, 7), (⟨"SevenUnsaid", "oddsOfNext", "(I)I"⟩, 9), (⟨"SevenUnsaid", "canComeTo", "(I)Z"⟩, 9), (⟨"SevenUnsaid$Thought", "takeBy", "(I)V"⟩, 11)]
theorem lw_r2 : ∀ q ∈ lw_privs_2, lw_okq q := List.forall_mem_cons.mpr ⟨lw_p16, List.forall_mem_cons.mpr ⟨lw_p17, List.forall_mem_cons.mpr ⟨lw_p18, List.forall_mem_cons.mpr ⟨lw_p19, List.forall_mem_cons.mpr ⟨lw_p20, List.forall_mem_cons.mpr ⟨lw_p21, List.forall_mem_cons.mpr ⟨lw_p22, List.forall_mem_cons.mpr ⟨lw_p23, List.forall_mem_cons.mpr ⟨lw_p24, List.forall_mem_cons.mpr ⟨lw_p25, List.forall_mem_cons.mpr ⟨lw_p26, List.forall_mem_cons.mpr ⟨lw_p27, List.forall_mem_cons.mpr ⟨lw_p28, List.forall_mem_cons.mpr ⟨lw_p29, List.forall_mem_cons.mpr ⟨lw_p30, List.forall_mem_cons.mpr ⟨lw_p31, fun _ h => absurd h List.not_mem_nil⟩⟩⟩⟩⟩⟩⟩⟩⟩⟩⟩⟩⟩⟩⟩⟩
theorem lw_p32 : lw_okq (⟨"SevenUnsaid$Seating", "chanceInOrder", "(I)I"⟩, 5) := ⟨⟨by decide +kernel, by decide +kernel⟩, List.mem_of_getElem? (i := 304) (by decide +kernel), List.mem_of_getElem? (i := 1060) (by decide +kernel), List.mem_of_getElem? (i := 1061) (by decide +kernel)⟩
theorem lw_p33 : lw_okq (⟨"SevenUnsaid$Seating", "nextOrder", "(I)Z"⟩, 5) := ⟨⟨by decide +kernel, by decide +kernel⟩, List.mem_of_getElem? (i := 304) (by decide +kernel), List.mem_of_getElem? (i := 1066) (by decide +kernel), List.mem_of_getElem? (i := 1067) (by decide +kernel)⟩
theorem lw_p34 : lw_okq (⟨"SevenUnsaid$Seating", "exchange", "(II)V"⟩, 5) := ⟨⟨by decide +kernel, by decide +kernel⟩, List.mem_of_getElem? (i := 304) (by decide +kernel), List.mem_of_getElem? (i := 1070) (by decide +kernel), List.mem_of_getElem? (i := 1071) (by decide +kernel)⟩
theorem lw_p35 : lw_okq (⟨"SevenUnsaidModel", "forgets", "()V"⟩, 31) := ⟨⟨by decide +kernel, by decide +kernel⟩, List.mem_of_getElem? (i := 1120) (by decide +kernel), List.mem_of_getElem? (i := 1224) (by decide +kernel), List.mem_of_getElem? (i := 1225) (by decide +kernel)⟩
theorem lw_p36 : lw_okq (⟨"SevenUnsaidModel", "rules", "(IIII)V"⟩, 31) := ⟨⟨by decide +kernel, by decide +kernel⟩, List.mem_of_getElem? (i := 1120) (by decide +kernel), List.mem_of_getElem? (i := 1242) (by decide +kernel), List.mem_of_getElem? (i := 1243) (by decide +kernel)⟩
theorem lw_p37 : lw_okq (⟨"SevenUnsaidModel", "gives", "(III)V"⟩, 31) := ⟨⟨by decide +kernel, by decide +kernel⟩, List.mem_of_getElem? (i := 1120) (by decide +kernel), List.mem_of_getElem? (i := 1246) (by decide +kernel), List.mem_of_getElem? (i := 1247) (by decide +kernel)⟩
theorem lw_p38 : lw_okq (⟨"SevenUnsaidModel", "isRule", "(I)Z"⟩, 31) := ⟨⟨by decide +kernel, by decide +kernel⟩, List.mem_of_getElem? (i := 1120) (by decide +kernel), List.mem_of_getElem? (i := 1254) (by decide +kernel), List.mem_of_getElem? (i := 1255) (by decide +kernel)⟩
theorem lw_p39 : lw_okq (⟨"SevenUnsaidModel", "isPerson", "(I)Z"⟩, 31) := ⟨⟨by decide +kernel, by decide +kernel⟩, List.mem_of_getElem? (i := 1120) (by decide +kernel), List.mem_of_getElem? (i := 1258) (by decide +kernel), List.mem_of_getElem? (i := 1259) (by decide +kernel)⟩
theorem lw_p40 : lw_okq (⟨"SevenUnsaidModel", "next0", "()V"⟩, 31) := ⟨⟨by decide +kernel, by decide +kernel⟩, List.mem_of_getElem? (i := 1120) (by decide +kernel), List.mem_of_getElem? (i := 1278) (by decide +kernel), List.mem_of_getElem? (i := 1279) (by decide +kernel)⟩
theorem lw_p41 : lw_okq (⟨"SevenUnsaidModel", "see", "(I)I"⟩, 31) := ⟨⟨by decide +kernel, by decide +kernel⟩, List.mem_of_getElem? (i := 1120) (by decide +kernel), List.mem_of_getElem? (i := 1282) (by decide +kernel), List.mem_of_getElem? (i := 1283) (by decide +kernel)⟩
theorem lw_p42 : lw_okq (⟨"SevenUnsaidModel", "word", "()I"⟩, 31) := ⟨⟨by decide +kernel, by decide +kernel⟩, List.mem_of_getElem? (i := 1120) (by decide +kernel), List.mem_of_getElem? (i := 1289) (by decide +kernel), List.mem_of_getElem? (i := 1290) (by decide +kernel)⟩
theorem lw_p43 : lw_okq (⟨"SevenUnsaidModel", "is", "(Ljava/lang/String;)Z"⟩, 31) := ⟨⟨by decide +kernel, by decide +kernel⟩, List.mem_of_getElem? (i := 1120) (by decide +kernel), List.mem_of_getElem? (i := 1294) (by decide +kernel), List.mem_of_getElem? (i := 1295) (by decide +kernel)⟩
theorem lw_p44 : lw_okq (⟨"SevenUnsaidModel", "nameWord", "()I"⟩, 31) := ⟨⟨by decide +kernel, by decide +kernel⟩, List.mem_of_getElem? (i := 1120) (by decide +kernel), List.mem_of_getElem? (i := 1304) (by decide +kernel), List.mem_of_getElem? (i := 1305) (by decide +kernel)⟩
theorem lw_p45 : lw_okq (⟨"SevenUnsaidModel", "aLine", "()Z"⟩, 31) := ⟨⟨by decide +kernel, by decide +kernel⟩, List.mem_of_getElem? (i := 1120) (by decide +kernel), List.mem_of_getElem? (i := 1318) (by decide +kernel), List.mem_of_getElem? (i := 1319) (by decide +kernel)⟩
theorem lw_p46 : lw_okq (⟨"SevenUnsaidModel", "bad", "(I)Z"⟩, 31) := ⟨⟨by decide +kernel, by decide +kernel⟩, List.mem_of_getElem? (i := 1120) (by decide +kernel), List.mem_of_getElem? (i := 1322) (by decide +kernel), List.mem_of_getElem? (i := 1323) (by decide +kernel)⟩
theorem lw_p47 : lw_okq (⟨"SevenUnsaidModel", "sumUp", "()Z"⟩, 31) := ⟨⟨by decide +kernel, by decide +kernel⟩, List.mem_of_getElem? (i := 1120) (by decide +kernel), List.mem_of_getElem? (i := 1326) (by decide +kernel), List.mem_of_getElem? (i := 1327) (by decide +kernel)⟩
def lw_privs_3 : List (MethodName × Nat) := [(⟨"SevenUnsaid$Seating", "chanceInOrder", "(I)I"⟩, 5), (⟨"SevenUnsaid$Seating", "nextOrder", "(I)Z"⟩, 5), (⟨"SevenUnsaid$Seating", "exchange", "(II)V"⟩, 5), (⟨"SevenUnsaidModel", "forgets", "()V"⟩, 31), (⟨"SevenUnsaidModel", "rules", "(IIII)V"⟩, 31), (⟨"SevenUnsaidModel", "gives", "(III)V"⟩, 31), (⟨"SevenUnsaidModel", "isRule", "(I)Z"⟩, 31), (⟨"SevenUnsaidModel", "isPerson", "(I)Z"⟩, 31), (⟨"SevenUnsaidModel", "next0", "()V"⟩, 31), (⟨"SevenUnsaidModel", "see", "(I)I"⟩, 31), (⟨"SevenUnsaidModel", "word", "()I"⟩, 31), (⟨"SevenUnsaidModel", "is", "(Ljava/lang/String;)Z"⟩, 31), (⟨"SevenUnsaidModel", "nameWord", "()I"⟩, 31), (⟨"SevenUnsaidModel", "aLine", "()Z"⟩, 31), (⟨"SevenUnsaidModel", "bad", "(I)Z"⟩, 31), (⟨"SevenUnsaidModel", "sumUp", "()Z"⟩, 31)]
theorem lw_r3 : ∀ q ∈ lw_privs_3, lw_okq q := List.forall_mem_cons.mpr ⟨lw_p32, List.forall_mem_cons.mpr ⟨lw_p33, List.forall_mem_cons.mpr ⟨lw_p34, List.forall_mem_cons.mpr ⟨lw_p35, List.forall_mem_cons.mpr ⟨lw_p36, List.forall_mem_cons.mpr ⟨lw_p37, List.forall_mem_cons.mpr ⟨lw_p38, List.forall_mem_cons.mpr ⟨lw_p39, List.forall_mem_cons.mpr ⟨lw_p40, List.forall_mem_cons.mpr ⟨lw_p41, List.forall_mem_cons.mpr ⟨lw_p42, List.forall_mem_cons.mpr ⟨lw_p43, List.forall_mem_cons.mpr ⟨lw_p44, List.forall_mem_cons.mpr ⟨lw_p45, List.forall_mem_cons.mpr ⟨lw_p46, List.forall_mem_cons.mpr ⟨lw_p47, fun _ h => absurd h List.not_mem_nil⟩⟩⟩⟩⟩⟩⟩⟩⟩⟩⟩⟩⟩⟩⟩⟩
theorem lw_p48 : lw_okq (⟨"SevenUnsaidModel", "product", "()Z"⟩, 31) := ⟨⟨by decide +kernel, by decide +kernel⟩, List.mem_of_getElem? (i := 1120) (by decide +kernel), List.mem_of_getElem? (i := 1330) (by decide +kernel), List.mem_of_getElem? (i := 1331) (by decide +kernel)⟩
theorem lw_p49 : lw_okq (⟨"SevenUnsaidModel", "unit", "()Z"⟩, 31) := ⟨⟨by decide +kernel, by decide +kernel⟩, List.mem_of_getElem? (i := 1120) (by decide +kernel), List.mem_of_getElem? (i := 1334) (by decide +kernel), List.mem_of_getElem? (i := 1335) (by decide +kernel)⟩
theorem lw_p50 : lw_okq (⟨"SevenUnsaidModel", "lay", "(II)V"⟩, 31) := ⟨⟨by decide +kernel, by decide +kernel⟩, List.mem_of_getElem? (i := 1120) (by decide +kernel), List.mem_of_getElem? (i := 1338) (by decide +kernel), List.mem_of_getElem? (i := 1339) (by decide +kernel)⟩
theorem lw_p51 : lw_okq (⟨"SevenUnsaidModel", "any", "()Z"⟩, 31) := ⟨⟨by decide +kernel, by decide +kernel⟩, List.mem_of_getElem? (i := 1120) (by decide +kernel), List.mem_of_getElem? (i := 1342) (by decide +kernel), List.mem_of_getElem? (i := 1343) (by decide +kernel)⟩
theorem lw_p52 : lw_okq (⟨"SevenUnsaidModel", "every", "()Z"⟩, 31) := ⟨⟨by decide +kernel, by decide +kernel⟩, List.mem_of_getElem? (i := 1120) (by decide +kernel), List.mem_of_getElem? (i := 1346) (by decide +kernel), List.mem_of_getElem? (i := 1347) (by decide +kernel)⟩
theorem lw_p53 : lw_okq (⟨"SevenUnsaidModel", "oneTest", "()Z"⟩, 31) := ⟨⟨by decide +kernel, by decide +kernel⟩, List.mem_of_getElem? (i := 1120) (by decide +kernel), List.mem_of_getElem? (i := 1350) (by decide +kernel), List.mem_of_getElem? (i := 1351) (by decide +kernel)⟩
theorem lw_p54 : lw_okq (⟨"SevenUnsaidModel", "opens", "()Z"⟩, 31) := ⟨⟨by decide +kernel, by decide +kernel⟩, List.mem_of_getElem? (i := 1120) (by decide +kernel), List.mem_of_getElem? (i := 1354) (by decide +kernel), List.mem_of_getElem? (i := 1355) (by decide +kernel)⟩
theorem lw_p55 : lw_okq (⟨"SevenUnsaidModel", "need", "(I)Z"⟩, 31) := ⟨⟨by decide +kernel, by decide +kernel⟩, List.mem_of_getElem? (i := 1120) (by decide +kernel), List.mem_of_getElem? (i := 1358) (by decide +kernel), List.mem_of_getElem? (i := 1359) (by decide +kernel)⟩
theorem lw_p56 : lw_okq (⟨"SevenUnsaidModel", "rulesOf", "(I)I"⟩, 31) := ⟨⟨by decide +kernel, by decide +kernel⟩, List.mem_of_getElem? (i := 1120) (by decide +kernel), List.mem_of_getElem? (i := 1370) (by decide +kernel), List.mem_of_getElem? (i := 1371) (by decide +kernel)⟩
theorem lw_p57 : lw_okq (⟨"SevenUnsaidModel", "own", "(II)I"⟩, 31) := ⟨⟨by decide +kernel, by decide +kernel⟩, List.mem_of_getElem? (i := 1120) (by decide +kernel), List.mem_of_getElem? (i := 1374) (by decide +kernel), List.mem_of_getElem? (i := 1375) (by decide +kernel)⟩
theorem lw_p58 : lw_okq (⟨"SevenUnsaidModel", "keeps", "()V"⟩, 31) := ⟨⟨by decide +kernel, by decide +kernel⟩, List.mem_of_getElem? (i := 1120) (by decide +kernel), List.mem_of_getElem? (i := 1389) (by decide +kernel), List.mem_of_getElem? (i := 1390) (by decide +kernel)⟩
theorem lw_p59 : lw_okq (⟨"SevenUnsaidModel", "plays", "()Z"⟩, 31) := ⟨⟨by decide +kernel, by decide +kernel⟩, List.mem_of_getElem? (i := 1120) (by decide +kernel), List.mem_of_getElem? (i := 1393) (by decide +kernel), List.mem_of_getElem? (i := 1394) (by decide +kernel)⟩
theorem lw_p60 : lw_okq (⟨"SevenUnsaidModel", "beginsNow", "()V"⟩, 31) := ⟨⟨by decide +kernel, by decide +kernel⟩, List.mem_of_getElem? (i := 1120) (by decide +kernel), List.mem_of_getElem? (i := 1397) (by decide +kernel), List.mem_of_getElem? (i := 1398) (by decide +kernel)⟩
theorem lw_p61 : lw_okq (⟨"SevenUnsaidModel", "runTo", "(I)I"⟩, 31) := ⟨⟨by decide +kernel, by decide +kernel⟩, List.mem_of_getElem? (i := 1120) (by decide +kernel), List.mem_of_getElem? (i := 1401) (by decide +kernel), List.mem_of_getElem? (i := 1402) (by decide +kernel)⟩
theorem lw_p62 : lw_okq (⟨"SevenUnsaidModel", "whoOn", "(I)I"⟩, 31) := ⟨⟨by decide +kernel, by decide +kernel⟩, List.mem_of_getElem? (i := 1120) (by decide +kernel), List.mem_of_getElem? (i := 1405) (by decide +kernel), List.mem_of_getElem? (i := 1406) (by decide +kernel)⟩
theorem lw_p63 : lw_okq (⟨"SevenUnsaidModel", "oddsFor", "(I)I"⟩, 31) := ⟨⟨by decide +kernel, by decide +kernel⟩, List.mem_of_getElem? (i := 1120) (by decide +kernel), List.mem_of_getElem? (i := 1409) (by decide +kernel), List.mem_of_getElem? (i := 1410) (by decide +kernel)⟩
def lw_privs_4 : List (MethodName × Nat) := [(⟨"SevenUnsaidModel", "product", "()Z"⟩, 31), (⟨"SevenUnsaidModel", "unit", "()Z"⟩, 31), (⟨"SevenUnsaidModel", "lay", "(II)V"⟩, 31), (⟨"SevenUnsaidModel", "any", "()Z"⟩, 31), (⟨"SevenUnsaidModel", "every", "()Z"⟩, 31), (⟨"SevenUnsaidModel", "oneTest", "()Z"⟩, 31), (⟨"SevenUnsaidModel", "opens", "()Z"⟩, 31), (⟨"SevenUnsaidModel", "need", "(I)Z"⟩, 31), (⟨"SevenUnsaidModel", "rulesOf", "(I)I"⟩, 31), (⟨"SevenUnsaidModel", "own", "(II)I"⟩, 31), (⟨"SevenUnsaidModel", "keeps", "()V"⟩, 31), (⟨"SevenUnsaidModel", "plays", "()Z"⟩, 31), (⟨"SevenUnsaidModel", "beginsNow", "()V"⟩, 31), (⟨"SevenUnsaidModel", "runTo", "(I)I"⟩, 31), (⟨"SevenUnsaidModel", "whoOn", "(I)I"⟩, 31), (⟨"SevenUnsaidModel", "oddsFor", "(I)I"⟩, 31)]
theorem lw_r4 : ∀ q ∈ lw_privs_4, lw_okq q := List.forall_mem_cons.mpr ⟨lw_p48, List.forall_mem_cons.mpr ⟨lw_p49, List.forall_mem_cons.mpr ⟨lw_p50, List.forall_mem_cons.mpr ⟨lw_p51, List.forall_mem_cons.mpr ⟨lw_p52, List.forall_mem_cons.mpr ⟨lw_p53, List.forall_mem_cons.mpr ⟨lw_p54, List.forall_mem_cons.mpr ⟨lw_p55, List.forall_mem_cons.mpr ⟨lw_p56, List.forall_mem_cons.mpr ⟨lw_p57, List.forall_mem_cons.mpr ⟨lw_p58, List.forall_mem_cons.mpr ⟨lw_p59, List.forall_mem_cons.mpr ⟨lw_p60, List.forall_mem_cons.mpr ⟨lw_p61, List.forall_mem_cons.mpr ⟨lw_p62, List.forall_mem_cons.mpr ⟨lw_p63, fun _ h => absurd h List.not_mem_nil⟩⟩⟩⟩⟩⟩⟩⟩⟩⟩⟩⟩⟩⟩⟩⟩
theorem lw_p64 : lw_okq (⟨"SevenUnsaidModel", "count", "(II)I"⟩, 31) := ⟨⟨by decide +kernel, by decide +kernel⟩, List.mem_of_getElem? (i := 1120) (by decide +kernel), List.mem_of_getElem? (i := 1413) (by decide +kernel), List.mem_of_getElem? (i := 1414) (by decide +kernel)⟩
theorem lw_p65 : lw_okq (⟨"SevenUnsaidModel", "comesTo", "(II)I"⟩, 31) := ⟨⟨by decide +kernel, by decide +kernel⟩, List.mem_of_getElem? (i := 1120) (by decide +kernel), List.mem_of_getElem? (i := 1417) (by decide +kernel), List.mem_of_getElem? (i := 1418) (by decide +kernel)⟩
theorem lw_p66 : lw_okq (⟨"SevenUnsaidModel", "draw", "(I)I"⟩, 31) := ⟨⟨by decide +kernel, by decide +kernel⟩, List.mem_of_getElem? (i := 1120) (by decide +kernel), List.mem_of_getElem? (i := 1430) (by decide +kernel), List.mem_of_getElem? (i := 1431) (by decide +kernel)⟩
theorem lw_p67 : lw_okq (⟨"SevenUnsaidModel", "errs", "(I)V"⟩, 31) := ⟨⟨by decide +kernel, by decide +kernel⟩, List.mem_of_getElem? (i := 1120) (by decide +kernel), List.mem_of_getElem? (i := 1436) (by decide +kernel), List.mem_of_getElem? (i := 1437) (by decide +kernel)⟩
theorem lw_p68 : lw_okq (⟨"SevenUnsaidModel", "glassesOfAll", "()I"⟩, 31) := ⟨⟨by decide +kernel, by decide +kernel⟩, List.mem_of_getElem? (i := 1120) (by decide +kernel), List.mem_of_getElem? (i := 1440) (by decide +kernel), List.mem_of_getElem? (i := 1441) (by decide +kernel)⟩
theorem lw_p69 : lw_okq (⟨"SevenUnsaidModel", "goesOn", "()V"⟩, 31) := ⟨⟨by decide +kernel, by decide +kernel⟩, List.mem_of_getElem? (i := 1120) (by decide +kernel), List.mem_of_getElem? (i := 1444) (by decide +kernel), List.mem_of_getElem? (i := 1445) (by decide +kernel)⟩
theorem lw_p70 : lw_okq (⟨"SevenUnsaidModel", "canCome", "(I)Z"⟩, 31) := ⟨⟨by decide +kernel, by decide +kernel⟩, List.mem_of_getElem? (i := 1120) (by decide +kernel), List.mem_of_getElem? (i := 1464) (by decide +kernel), List.mem_of_getElem? (i := 1465) (by decide +kernel)⟩
theorem lw_p71 : lw_okq (⟨"SevenUnsaidModel", "getsTo", "(I)I"⟩, 31) := ⟨⟨by decide +kernel, by decide +kernel⟩, List.mem_of_getElem? (i := 1120) (by decide +kernel), List.mem_of_getElem? (i := 1472) (by decide +kernel), List.mem_of_getElem? (i := 1473) (by decide +kernel)⟩
theorem lw_p72 : lw_okq (⟨"SevenUnsaidModel", "laysWords", "(I)V"⟩, 31) := ⟨⟨by decide +kernel, by decide +kernel⟩, List.mem_of_getElem? (i := 1120) (by decide +kernel), List.mem_of_getElem? (i := 1485) (by decide +kernel), List.mem_of_getElem? (i := 1486) (by decide +kernel)⟩
theorem lw_p73 : lw_okq (⟨"SevenUnsaidModel", "beginsAnew", "()V"⟩, 31) := ⟨⟨by decide +kernel, by decide +kernel⟩, List.mem_of_getElem? (i := 1120) (by decide +kernel), List.mem_of_getElem? (i := 1489) (by decide +kernel), List.mem_of_getElem? (i := 1490) (by decide +kernel)⟩
theorem lw_p74 : lw_okq (⟨"SevenUnsaidModel", "plainWith", "(IIII)I"⟩, 31) := ⟨⟨by decide +kernel, by decide +kernel⟩, List.mem_of_getElem? (i := 1120) (by decide +kernel), List.mem_of_getElem? (i := 1512) (by decide +kernel), List.mem_of_getElem? (i := 1513) (by decide +kernel)⟩
theorem lw_p75 : lw_okq (⟨"SevenUnsaidModel", "sits", "(III)V"⟩, 31) := ⟨⟨by decide +kernel, by decide +kernel⟩, List.mem_of_getElem? (i := 1120) (by decide +kernel), List.mem_of_getElem? (i := 1520) (by decide +kernel), List.mem_of_getElem? (i := 1521) (by decide +kernel)⟩
def lw_privs_5 : List (MethodName × Nat) := [(⟨"SevenUnsaidModel", "count", "(II)I"⟩, 31), (⟨"SevenUnsaidModel", "comesTo", "(II)I"⟩, 31), (⟨"SevenUnsaidModel", "draw", "(I)I"⟩, 31), (⟨"SevenUnsaidModel", "errs", "(I)V"⟩, 31), (⟨"SevenUnsaidModel", "glassesOfAll", "()I"⟩, 31), (⟨"SevenUnsaidModel", "goesOn", "()V"⟩, 31), (⟨"SevenUnsaidModel", "canCome", "(I)Z"⟩, 31), (⟨"SevenUnsaidModel", "getsTo", "(I)I"⟩, 31), (⟨"SevenUnsaidModel", "laysWords", "(I)V"⟩, 31), (⟨"SevenUnsaidModel", "beginsAnew", "()V"⟩, 31), (⟨"SevenUnsaidModel", "plainWith", "(IIII)I"⟩, 31), (⟨"SevenUnsaidModel", "sits", "(III)V"⟩, 31)]
theorem lw_r5 : ∀ q ∈ lw_privs_5, lw_okq q := List.forall_mem_cons.mpr ⟨lw_p64, List.forall_mem_cons.mpr ⟨lw_p65, List.forall_mem_cons.mpr ⟨lw_p66, List.forall_mem_cons.mpr ⟨lw_p67, List.forall_mem_cons.mpr ⟨lw_p68, List.forall_mem_cons.mpr ⟨lw_p69, List.forall_mem_cons.mpr ⟨lw_p70, List.forall_mem_cons.mpr ⟨lw_p71, List.forall_mem_cons.mpr ⟨lw_p72, List.forall_mem_cons.mpr ⟨lw_p73, List.forall_mem_cons.mpr ⟨lw_p74, List.forall_mem_cons.mpr ⟨lw_p75, fun _ h => absurd h List.not_mem_nil⟩⟩⟩⟩⟩⟩⟩⟩⟩⟩⟩⟩
def lw_privs : List (MethodName × Nat) := lw_privs_1 ++ (lw_privs_2 ++ (lw_privs_3 ++ (lw_privs_4 ++ (lw_privs_5))))
def lw_tbl : List Cond := k2_sels lw_privs ++ tables_1
theorem lw_privs_ok : ∀ q ∈ lw_privs, lw_okq q := by
  show ∀ q ∈ lw_privs_1 ++ (lw_privs_2 ++ (lw_privs_3 ++ (lw_privs_4 ++ (lw_privs_5)))), lw_okq q
  exact List.forall_mem_append.mpr ⟨lw_r1, List.forall_mem_append.mpr ⟨lw_r2, List.forall_mem_append.mpr ⟨lw_r3, List.forall_mem_append.mpr ⟨lw_r4, lw_r5⟩⟩⟩⟩
end
section
/-! ===== BEGIN words of one list among another's, by their places ===== -/
theorem goodIn_r {big : List Cond} (ws : List Cond) (ps : List Nat) (hp : ws = ps.filterMap (fun i => big[i]?)) (h : ws.all goodWord = true) : GoodIn big ws := by
  intro w hw
  have h1 := List.all_eq_true.mp h w hw
  rw [hp] at hw
  obtain ⟨i, -, hi⟩ := List.mem_filterMap.mp hw
  have hm : w ∈ big := by first | exact List.mem_of_getElem? hi | exact List.getElem?_mem hi
  exact ⟨hm, good_of_word h1⟩
theorem goodIn_app {big a b : List Cond} (ha : GoodIn big a) (hb : GoodIn big b) : GoodIn big (a ++ b) := fun w h => (List.mem_append.mp h).elim (ha w) (hb w)
theorem goodIn_ca {big a b : List Cond} {c : Cond} (ha : GoodIn big (c :: a)) (hb : GoodIn big b) : GoodIn big (c :: (a ++ b)) := fun w h => (List.mem_cons.mp h).elim (fun e => ha w (List.mem_cons.mpr (Or.inl e))) (fun h => (List.mem_append.mp h).elim (fun h => ha w (List.mem_cons.mpr (Or.inr h))) (hb w))
theorem goodIn_sub {big ws : List Cond} (hm : ∀ w ∈ ws, w ∈ big) (h : ws.all goodWord = true) : GoodIn big ws := fun w hw => ⟨hm w hw, good_of_word (List.all_eq_true.mp h w hw)⟩
/-! ===== END ===== -/

/-! ===== BEGIN printed: names, fields, word lists, decode rows ===== -/
def RX0 : String := "SevenUnsaid$Book"
def TX0 : u_T := fun k => match k with
  | 0 => ("SevenUnsaid$Book", "size", "I", false)
  | 1 => ("SevenUnsaid$Book", "number", "[I", true)
  | 2 => ("SevenUnsaid$Book", "erred", "[I", true)
  | 3 => ("SevenUnsaid$Book", "ahead", "[I", true)
  | _ => ("SevenUnsaid$Book", "glasses", "[I", true)
def tyX0 : Nat → FieldType := fun k => match k with
  | 0 => .int
  | 1 => .array .int
  | 2 => .array .int
  | 3 => .array .int
  | _ => .array .int
abbrev wsX00 : List Cond := u_ws RX0 TX0 5
theorem nmX0 : ∀ a, a < 5 → ∀ b, b < 5 → a ≠ b → (TX0 a).2.1 ≠ (TX0 b).2.1 := by decide +kernel
theorem tyX0_ok : ∀ k, k < 5 → parseFieldDescriptor (TX0 k).2.2.1 = some (tyX0 k) := by decide +kernel
abbrev cX0_init : ByteArray := prog_2_method_1_code
def yX0_init : MethodName := ⟨RX0, "<init>", "()V"⟩
abbrev cX0_copy : ByteArray := prog_2_method_2_code
def yX0_copy : MethodName := ⟨RX0, "copy", "(LSevenUnsaid$Book;)V"⟩
abbrev cX0_write : ByteArray := prog_2_method_3_code
def yX0_write : MethodName := ⟨RX0, "write", "(IIII)V"⟩
abbrev cX0_entry : ByteArray := prog_2_method_4_code
def yX0_entry : MethodName := ⟨RX0, "entry", "(II)I"⟩
abbrev cX0_pairs : ByteArray := prog_2_method_5_code
def yX0_pairs : MethodName := ⟨RX0, "pairs", "(II)I"⟩
def RX1 : String := "SevenUnsaid$Count"
def TX1 : u_T := fun k => match k with
  | 0 => ("SevenUnsaid$Count", "next", "I", false)
  | 1 => ("SevenUnsaid$Count", "at", "I", false)
  | 2 => ("SevenUnsaid$Count", "way", "I", false)
  | 3 => ("SevenUnsaid$Count", "turned", "I", false)
  | 4 => ("SevenUnsaid$Count", "record", "I", false)
  | 5 => ("SevenUnsaid$Count", "said", "I", false)
  | 6 => ("SevenUnsaid$Count", "state", "I", false)
  | _ => ("SevenUnsaid$Count", "last", "I", false)
def tyX1 : Nat → FieldType := fun k => match k with
  | 0 => .int
  | 1 => .int
  | 2 => .int
  | 3 => .int
  | 4 => .int
  | 5 => .int
  | 6 => .int
  | _ => .int
abbrev wsX10 : List Cond := u_ws RX1 TX1 8
theorem nmX1 : ∀ a, a < 8 → ∀ b, b < 8 → a ≠ b → (TX1 a).2.1 ≠ (TX1 b).2.1 := by decide +kernel
theorem tyX1_ok : ∀ k, k < 8 → parseFieldDescriptor (TX1 k).2.2.1 = some (tyX1 k) := by decide +kernel
abbrev cX1_init : ByteArray := prog_3_method_1_code
def yX1_init : MethodName := ⟨RX1, "<init>", "()V"⟩
abbrev cX1_copy : ByteArray := prog_3_method_2_code
def yX1_copy : MethodName := ⟨RX1, "copy", "(LSevenUnsaid$Count;)V"⟩
abbrev cX1_restart : ByteArray := prog_3_method_3_code
def yX1_restart : MethodName := ⟨RX1, "restart", "()V"⟩
abbrev cX1_goToStart : ByteArray := prog_3_method_4_code
def yX1_goToStart : MethodName := ⟨RX1, "goToStart", "()V"⟩
abbrev cX1_goOn : ByteArray := prog_3_method_5_code
def yX1_goOn : MethodName := ⟨RX1, "goOn", "(LSevenUnsaid$Rules;II)V"⟩
abbrev cX1_draw : ByteArray := prog_3_method_6_code
def yX1_draw : MethodName := ⟨RX1, "draw", "(I)I"⟩
def RX2 : String := "SevenUnsaid$History"
def TX2 : u_T := fun k => match k with
  | 0 => ("SevenUnsaid$History", "size", "I", false)
  | 1 => ("SevenUnsaid$History", "top", "I", false)
  | 2 => ("SevenUnsaid$History", "counts", "[LSevenUnsaid$Count;", true)
  | 3 => ("SevenUnsaid$History", "persons", "[I", true)
  | 4 => ("SevenUnsaid$History", "glasses", "[I", true)
  | _ => ("SevenUnsaid$History", "lines", "[I", true)
def tyX2 : Nat → FieldType := fun k => match k with
  | 0 => .int
  | 1 => .int
  | 2 => .array (.object "SevenUnsaid$Count")
  | 3 => .array .int
  | 4 => .array .int
  | _ => .array .int
abbrev wsX20 : List Cond := u_ws RX2 TX2 6
theorem nmX2 : ∀ a, a < 6 → ∀ b, b < 6 → a ≠ b → (TX2 a).2.1 ≠ (TX2 b).2.1 := by decide +kernel
theorem tyX2_ok : ∀ k, k < 6 → parseFieldDescriptor (TX2 k).2.2.1 = some (tyX2 k) := by decide +kernel
abbrev cX2_init : ByteArray := prog_4_method_1_code
def yX2_init : MethodName := ⟨RX2, "<init>", "()V"⟩
abbrev cX2_forget : ByteArray := prog_4_method_2_code
def yX2_forget : MethodName := ⟨RX2, "forget", "()V"⟩
abbrev cX2_keep : ByteArray := prog_4_method_3_code
def yX2_keep : MethodName := ⟨RX2, "keep", "(LSevenUnsaid$Round;I)V"⟩
abbrev cX2_goBack : ByteArray := prog_4_method_4_code
def yX2_goBack : MethodName := ⟨RX2, "goBack", "(LSevenUnsaid$Round;)Z"⟩
def RX3 : String := "SevenUnsaid$Law"
def TX3 : u_T := fun k => match k with
  | 0 => ("SevenUnsaid$Law", "lines", "I", false)
  | 1 => ("SevenUnsaid$Law", "asksRun", "Z", false)
  | 2 => ("SevenUnsaid$Law", "size", "I", false)
  | 3 => ("SevenUnsaid$Law", "code", "[I", true)
  | 4 => ("SevenUnsaid$Law", "facts", "[I", true)
  | 5 => ("SevenUnsaid$Law", "stack", "[I", true)
  | _ => ("SevenUnsaid$Law", "height", "I", false)
def tyX3 : Nat → FieldType := fun k => match k with
  | 0 => .int
  | 1 => .boolean
  | 2 => .int
  | 3 => .array .int
  | 4 => .array .int
  | 5 => .array .int
  | _ => .int
abbrev wsX30 : List Cond := u_ws RX3 TX3 7
theorem nmX3 : ∀ a, a < 7 → ∀ b, b < 7 → a ≠ b → (TX3 a).2.1 ≠ (TX3 b).2.1 := by decide +kernel
theorem tyX3_ok : ∀ k, k < 7 → parseFieldDescriptor (TX3 k).2.2.1 = some (tyX3 k) := by decide +kernel
abbrev cX3_init : ByteArray := prog_5_method_1_code
def yX3_init : MethodName := ⟨RX3, "<init>", "()V"⟩
abbrev cX3_copy : ByteArray := prog_5_method_2_code
def yX3_copy : MethodName := ⟨RX3, "copy", "(LSevenUnsaid$Law;)V"⟩
abbrev cX3_clear : ByteArray := prog_5_method_3_code
def yX3_clear : MethodName := ⟨RX3, "clear", "()V"⟩
abbrev cX3_emit : ByteArray := prog_5_method_4_code
def yX3_emit : MethodName := ⟨RX3, "emit", "(I)V"⟩
abbrev cX3_odds : ByteArray := prog_5_method_5_code
def yX3_odds : MethodName := ⟨RX3, "odds", "(IIIIIII)I"⟩
abbrev cX3_firstLine : ByteArray := prog_5_method_6_code
def yX3_firstLine : MethodName := ⟨RX3, "firstLine", "()I"⟩
abbrev cX3_work : ByteArray := prog_5_method_7_code
def yX3_work : MethodName := ⟨RX3, "work", "(I)V"⟩
abbrev cX3_joined : ByteArray := prog_5_method_8_code
def yX3_joined : MethodName := ⟨RX3, "joined", "(III)I"⟩
abbrev cX3_push : ByteArray := prog_5_method_9_code
def yX3_push : MethodName := ⟨RX3, "push", "(I)V"⟩
abbrev cX3_pop : ByteArray := prog_5_method_10_code
def yX3_pop : MethodName := ⟨RX3, "pop", "()I"⟩
def RX4 : String := "SevenUnsaid$LawMaker"
def TX4 : u_T := fun k => match k with
  | 0 => ("SevenUnsaid$LawMaker", "tape", "LSevenUnsaid$Tape;", true)
  | 1 => ("SevenUnsaid$LawMaker", "law", "LSevenUnsaid$Law;", true)
  | 2 => ("SevenUnsaid$LawMaker", "want", "I", false)
  | 3 => ("SevenUnsaid$LawMaker", "side", "I", false)
  | 4 => ("SevenUnsaid$LawMaker", "conditional", "Z", false)
  | 5 => ("SevenUnsaid$LawMaker", "brackets", "I", false)
  | 6 => ("SevenUnsaid$LawMaker", "open", "I", false)
  | 7 => ("SevenUnsaid$LawMaker", "waiting", "[I", true)
  | _ => ("SevenUnsaid$LawMaker", "waits", "I", false)
def tyX4 : Nat → FieldType := fun k => match k with
  | 0 => .object "SevenUnsaid$Tape"
  | 1 => .object "SevenUnsaid$Law"
  | 2 => .int
  | 3 => .int
  | 4 => .boolean
  | 5 => .int
  | 6 => .int
  | 7 => .array .int
  | _ => .int
abbrev wsX40 : List Cond := u_ws RX4 TX4 9
theorem nmX4 : ∀ a, a < 9 → ∀ b, b < 9 → a ≠ b → (TX4 a).2.1 ≠ (TX4 b).2.1 := by decide +kernel
theorem tyX4_ok : ∀ k, k < 9 → parseFieldDescriptor (TX4 k).2.2.1 = some (tyX4 k) := by decide +kernel
abbrev cX4_init : ByteArray := prog_6_method_1_code
def yX4_init : MethodName := ⟨RX4, "<init>", "()V"⟩
abbrev cX4_compile : ByteArray := prog_6_method_2_code
def yX4_compile : MethodName := ⟨RX4, "compile", "()I"⟩
abbrev cX4_begin : ByteArray := prog_6_method_3_code
def yX4_begin : MethodName := ⟨RX4, "begin", "()V"⟩
abbrev cX4_take : ByteArray := prog_6_method_4_code
def yX4_take : MethodName := ⟨RX4, "take", "(I)I"⟩
abbrev cX4_takeLine : ByteArray := prog_6_method_5_code
def yX4_takeLine : MethodName := ⟨RX4, "takeLine", "(I)I"⟩
abbrev cX4_takeOpening : ByteArray := prog_6_method_6_code
def yX4_takeOpening : MethodName := ⟨RX4, "takeOpening", "(I)I"⟩
abbrev cX4_takeUnit : ByteArray := prog_6_method_7_code
def yX4_takeUnit : MethodName := ⟨RX4, "takeUnit", "(I)I"⟩
abbrev cX4_takePart : ByteArray := prog_6_method_8_code
def yX4_takePart : MethodName := ⟨RX4, "takePart", "(I)I"⟩
abbrev cX4_takeReckoning : ByteArray := prog_6_method_9_code
def yX4_takeReckoning : MethodName := ⟨RX4, "takeReckoning", "(I)I"⟩
abbrev cX4_takeComparison : ByteArray := prog_6_method_10_code
def yX4_takeComparison : MethodName := ⟨RX4, "takeComparison", "(I)I"⟩
abbrev cX4_takeJoin : ByteArray := prog_6_method_11_code
def yX4_takeJoin : MethodName := ⟨RX4, "takeJoin", "(I)I"⟩
abbrev cX4_takeWhen : ByteArray := prog_6_method_12_code
def yX4_takeWhen : MethodName := ⟨RX4, "takeWhen", "()I"⟩
abbrev cX4_closeBracket : ByteArray := prog_6_method_13_code
def yX4_closeBracket : MethodName := ⟨RX4, "closeBracket", "()I"⟩
abbrev cX4_endLine : ByteArray := prog_6_method_14_code
def yX4_endLine : MethodName := ⟨RX4, "endLine", "()I"⟩
abbrev cX4_joinBy : ByteArray := prog_6_method_15_code
def yX4_joinBy : MethodName := ⟨RX4, "joinBy", "(II)I"⟩
abbrev cX4_await : ByteArray := prog_6_method_16_code
def yX4_await : MethodName := ⟨RX4, "await", "(I)V"⟩
abbrev cX4_joinWaiting : ByteArray := prog_6_method_17_code
def yX4_joinWaiting : MethodName := ⟨RX4, "joinWaiting", "(I)V"⟩
abbrev cX4_levelOf : ByteArray := prog_6_method_18_code
def yX4_levelOf : MethodName := ⟨RX4, "levelOf", "(I)I"⟩
def RX5 : String := "SevenUnsaid$Round"
def TX5 : u_T := fun k => match k with
  | 0 => ("SevenUnsaid$Round", "table", "LSevenUnsaid$Table;", true)
  | 1 => ("SevenUnsaid$Round", "rules", "LSevenUnsaid$Rules;", true)
  | 2 => ("SevenUnsaid$Round", "count", "LSevenUnsaid$Count;", true)
  | 3 => ("SevenUnsaid$Round", "book", "LSevenUnsaid$Book;", true)
  | 4 => ("SevenUnsaid$Round", "law", "LSevenUnsaid$Law;", true)
  | _ => ("SevenUnsaid$Round", "pace", "I", false)
def tyX5 : Nat → FieldType := fun k => match k with
  | 0 => .object "SevenUnsaid$Table"
  | 1 => .object "SevenUnsaid$Rules"
  | 2 => .object "SevenUnsaid$Count"
  | 3 => .object "SevenUnsaid$Book"
  | 4 => .object "SevenUnsaid$Law"
  | _ => .int
abbrev wsX50 : List Cond := u_ws RX5 TX5 6
theorem nmX5 : ∀ a, a < 6 → ∀ b, b < 6 → a ≠ b → (TX5 a).2.1 ≠ (TX5 b).2.1 := by decide +kernel
theorem tyX5_ok : ∀ k, k < 6 → parseFieldDescriptor (TX5 k).2.2.1 = some (tyX5 k) := by decide +kernel
abbrev cX5_init : ByteArray := prog_7_method_1_code
def yX5_init : MethodName := ⟨RX5, "<init>", "()V"⟩
abbrev cX5_copy : ByteArray := prog_7_method_2_code
def yX5_copy : MethodName := ⟨RX5, "copy", "(LSevenUnsaid$Round;)V"⟩
abbrev cX5_runAhead : ByteArray := prog_7_method_3_code
def yX5_runAhead : MethodName := ⟨RX5, "runAhead", "(LSevenUnsaid$Rules;)I"⟩
abbrev cX5_odds : ByteArray := prog_7_method_4_code
def yX5_odds : MethodName := ⟨RX5, "odds", "(ILSevenUnsaid$Count;II)I"⟩
abbrev cX5_err : ByteArray := prog_7_method_5_code
def yX5_err : MethodName := ⟨RX5, "err", "(I)V"⟩
abbrev cX5_say : ByteArray := prog_7_method_6_code
def yX5_say : MethodName := ⟨RX5, "say", "(II)V"⟩
def RX6 : String := "SevenUnsaid$Rules"
def TX6 : u_T := fun k => match k with
  | 0 => ("SevenUnsaid$Rules", "size", "I", false)
  | 1 => ("SevenUnsaid$Rules", "sort", "[I", true)
  | 2 => ("SevenUnsaid$Rules", "number", "[I", true)
  | 3 => ("SevenUnsaid$Rules", "turn", "[I", true)
  | 4 => ("SevenUnsaid$Rules", "on", "I", false)
  | 5 => ("SevenUnsaid$Rules", "turning", "I", false)
  | _ => ("SevenUnsaid$Rules", "skipping", "I", false)
def tyX6 : Nat → FieldType := fun k => match k with
  | 0 => .int
  | 1 => .array .int
  | 2 => .array .int
  | 3 => .array .int
  | 4 => .int
  | 5 => .int
  | _ => .int
abbrev wsX60 : List Cond := u_ws RX6 TX6 7
theorem nmX6 : ∀ a, a < 7 → ∀ b, b < 7 → a ≠ b → (TX6 a).2.1 ≠ (TX6 b).2.1 := by decide +kernel
theorem tyX6_ok : ∀ k, k < 7 → parseFieldDescriptor (TX6 k).2.2.1 = some (tyX6 k) := by decide +kernel
abbrev cX6_init : ByteArray := prog_8_method_1_code
def yX6_init : MethodName := ⟨RX6, "<init>", "()V"⟩
abbrev cX6_copy : ByteArray := prog_8_method_2_code
def yX6_copy : MethodName := ⟨RX6, "copy", "(LSevenUnsaid$Rules;)V"⟩
abbrev cX6_append : ByteArray := prog_8_method_3_code
def yX6_append : MethodName := ⟨RX6, "append", "(III)I"⟩
abbrev cX6_isThere : ByteArray := prog_8_method_4_code
def yX6_isThere : MethodName := ⟨RX6, "isThere", "(I)Z"⟩
abbrev cX6_sortOf : ByteArray := prog_8_method_5_code
def yX6_sortOf : MethodName := ⟨RX6, "sortOf", "(I)I"⟩
abbrev cX6_numberOf : ByteArray := prog_8_method_6_code
def yX6_numberOf : MethodName := ⟨RX6, "numberOf", "(I)I"⟩
abbrev cX6_turnOf : ByteArray := prog_8_method_7_code
def yX6_turnOf : MethodName := ⟨RX6, "turnOf", "(I)I"⟩
abbrev cX6_isOn : ByteArray := prog_8_method_8_code
def yX6_isOn : MethodName := ⟨RX6, "isOn", "(I)Z"⟩
abbrev cX6_switchTo : ByteArray := prog_8_method_9_code
def yX6_switchTo : MethodName := ⟨RX6, "switchTo", "(II)Z"⟩
abbrev cX6_mask : ByteArray := prog_8_method_10_code
def yX6_mask : MethodName := ⟨RX6, "mask", "(I)I"⟩
abbrev cX6_turnsIn : ByteArray := prog_8_method_11_code
def yX6_turnsIn : MethodName := ⟨RX6, "turnsIn", "(I)I"⟩
abbrev cX6_skipsIn : ByteArray := prog_8_method_12_code
def yX6_skipsIn : MethodName := ⟨RX6, "skipsIn", "(I)I"⟩
abbrev cX6_runUpTo : ByteArray := prog_8_method_13_code
def yX6_runUpTo : MethodName := ⟨RX6, "runUpTo", "(I)I"⟩
abbrev cX6_holds : ByteArray := prog_8_method_14_code
def yX6_holds : MethodName := ⟨RX6, "holds", "(IIII)Z"⟩
abbrev cX6_figuresOf : ByteArray := prog_8_method_15_code
def yX6_figuresOf : MethodName := ⟨RX6, "figuresOf", "(I)I"⟩
def RX7 : String := "SevenUnsaid$Seating"
def TX7 : u_T := fun k => match k with
  | 0 => ("SevenUnsaid$Seating", "bestChance", "I", false)
  | 1 => ("SevenUnsaid$Seating", "seatAt", "[I", true)
  | 2 => ("SevenUnsaid$Seating", "odds", "[I", true)
  | 3 => ("SevenUnsaid$Seating", "order", "[I", true)
  | _ => ("SevenUnsaid$Seating", "best", "[I", true)
def tyX7 : Nat → FieldType := fun k => match k with
  | 0 => .int
  | 1 => .array .int
  | 2 => .array .int
  | 3 => .array .int
  | _ => .array .int
abbrev wsX70 : List Cond := u_ws RX7 TX7 5
theorem nmX7 : ∀ a, a < 5 → ∀ b, b < 5 → a ≠ b → (TX7 a).2.1 ≠ (TX7 b).2.1 := by decide +kernel
theorem tyX7_ok : ∀ k, k < 5 → parseFieldDescriptor (TX7 k).2.2.1 = some (tyX7 k) := by decide +kernel
abbrev cX7_init : ByteArray := prog_9_method_1_code
def yX7_init : MethodName := ⟨RX7, "<init>", "()V"⟩
abbrev cX7_putSeat : ByteArray := prog_9_method_2_code
def yX7_putSeat : MethodName := ⟨RX7, "putSeat", "(II)V"⟩
abbrev cX7_putOdds : ByteArray := prog_9_method_3_code
def yX7_putOdds : MethodName := ⟨RX7, "putOdds", "(III)V"⟩
abbrev cX7_bestOn : ByteArray := prog_9_method_4_code
def yX7_bestOn : MethodName := ⟨RX7, "bestOn", "(I)I"⟩
abbrev cX7_search : ByteArray := prog_9_method_5_code
def yX7_search : MethodName := ⟨RX7, "search", "(II)V"⟩
abbrev cX7_chanceInOrder : ByteArray := prog_9_method_6_code
def yX7_chanceInOrder : MethodName := ⟨RX7, "chanceInOrder", "(I)I"⟩
abbrev cX7_nextOrder : ByteArray := prog_9_method_7_code
def yX7_nextOrder : MethodName := ⟨RX7, "nextOrder", "(I)Z"⟩
abbrev cX7_exchange : ByteArray := prog_9_method_8_code
def yX7_exchange : MethodName := ⟨RX7, "exchange", "(II)V"⟩
def RX8 : String := "SevenUnsaid$Table"
def TX8 : u_T := fun k => match k with
  | 0 => ("SevenUnsaid$Table", "people", "I", false)
  | 1 => ("SevenUnsaid$Table", "weak", "[I", true)
  | 2 => ("SevenUnsaid$Table", "glasses", "[I", true)
  | 3 => ("SevenUnsaid$Table", "seat", "[I", true)
  | _ => ("SevenUnsaid$Table", "onSeat", "[I", true)
def tyX8 : Nat → FieldType := fun k => match k with
  | 0 => .int
  | 1 => .array .int
  | 2 => .array .int
  | 3 => .array .int
  | _ => .array .int
abbrev wsX80 : List Cond := u_ws RX8 TX8 5
theorem nmX8 : ∀ a, a < 5 → ∀ b, b < 5 → a ≠ b → (TX8 a).2.1 ≠ (TX8 b).2.1 := by decide +kernel
theorem tyX8_ok : ∀ k, k < 5 → parseFieldDescriptor (TX8 k).2.2.1 = some (tyX8 k) := by decide +kernel
abbrev cX8_init : ByteArray := prog_10_method_1_code
def yX8_init : MethodName := ⟨RX8, "<init>", "()V"⟩
abbrev cX8_copy : ByteArray := prog_10_method_2_code
def yX8_copy : MethodName := ⟨RX8, "copy", "(LSevenUnsaid$Table;)V"⟩
abbrev cX8_join : ByteArray := prog_10_method_3_code
def yX8_join : MethodName := ⟨RX8, "join", "(I)I"⟩
abbrev cX8_isThere : ByteArray := prog_10_method_4_code
def yX8_isThere : MethodName := ⟨RX8, "isThere", "(I)Z"⟩
abbrev cX8_weakOf : ByteArray := prog_10_method_5_code
def yX8_weakOf : MethodName := ⟨RX8, "weakOf", "(I)I"⟩
abbrev cX8_glassesOf : ByteArray := prog_10_method_6_code
def yX8_glassesOf : MethodName := ⟨RX8, "glassesOf", "(I)I"⟩
abbrev cX8_seatOf : ByteArray := prog_10_method_7_code
def yX8_seatOf : MethodName := ⟨RX8, "seatOf", "(I)I"⟩
abbrev cX8_sitter : ByteArray := prog_10_method_8_code
def yX8_sitter : MethodName := ⟨RX8, "sitter", "(I)I"⟩
abbrev cX8_weaken : ByteArray := prog_10_method_9_code
def yX8_weaken : MethodName := ⟨RX8, "weaken", "(II)Z"⟩
abbrev cX8_fill : ByteArray := prog_10_method_10_code
def yX8_fill : MethodName := ⟨RX8, "fill", "(II)Z"⟩
abbrev cX8_swap : ByteArray := prog_10_method_11_code
def yX8_swap : MethodName := ⟨RX8, "swap", "(II)V"⟩
abbrev cX8_allGlasses : ByteArray := prog_10_method_12_code
def yX8_allGlasses : MethodName := ⟨RX8, "allGlasses", "()I"⟩
def RX9 : String := "SevenUnsaid$Tape"
def TX9 : u_T := fun k => match k with
  | 0 => ("SevenUnsaid$Tape", "size", "I", false)
  | 1 => ("SevenUnsaid$Tape", "kind", "I", false)
  | 2 => ("SevenUnsaid$Tape", "value", "I", false)
  | 3 => ("SevenUnsaid$Tape", "start", "I", false)
  | 4 => ("SevenUnsaid$Tape", "at", "I", false)
  | _ => ("SevenUnsaid$Tape", "bytes", "[B", true)
def tyX9 : Nat → FieldType := fun k => match k with
  | 0 => .int
  | 1 => .int
  | 2 => .int
  | 3 => .int
  | 4 => .int
  | _ => .array .byte
abbrev wsX90 : List Cond := u_ws RX9 TX9 6
theorem nmX9 : ∀ a, a < 6 → ∀ b, b < 6 → a ≠ b → (TX9 a).2.1 ≠ (TX9 b).2.1 := by decide +kernel
theorem tyX9_ok : ∀ k, k < 6 → parseFieldDescriptor (TX9 k).2.2.1 = some (tyX9 k) := by decide +kernel
abbrev cX9_init : ByteArray := prog_11_method_1_code
def yX9_init : MethodName := ⟨RX9, "<init>", "()V"⟩
abbrev cX9_put : ByteArray := prog_11_method_2_code
def yX9_put : MethodName := ⟨RX9, "put", "(I)V"⟩
abbrev cX9_cut : ByteArray := prog_11_method_3_code
def yX9_cut : MethodName := ⟨RX9, "cut", "(I)Z"⟩
abbrev cX9_rewind : ByteArray := prog_11_method_4_code
def yX9_rewind : MethodName := ⟨RX9, "rewind", "()V"⟩
abbrev cX9_advance : ByteArray := prog_11_method_5_code
def yX9_advance : MethodName := ⟨RX9, "advance", "()V"⟩
abbrev cX9_sign : ByteArray := prog_11_method_6_code
def yX9_sign : MethodName := ⟨RX9, "sign", "(I)I"⟩
abbrev cX9_readWord : ByteArray := prog_11_method_7_code
def yX9_readWord : MethodName := ⟨RX9, "readWord", "()V"⟩
abbrev cX9_readNumber : ByteArray := prog_11_method_8_code
def yX9_readNumber : MethodName := ⟨RX9, "readNumber", "()V"⟩
abbrev cX9_keyword : ByteArray := prog_11_method_9_code
def yX9_keyword : MethodName := ⟨RX9, "keyword", "()I"⟩
abbrev cX9_spells : ByteArray := prog_11_method_10_code
def yX9_spells : MethodName := ⟨RX9, "spells", "(Ljava/lang/String;)Z"⟩
abbrev cX9_isBlank : ByteArray := prog_11_method_11_code
def yX9_isBlank : MethodName := ⟨RX9, "isBlank", "(I)Z"⟩
abbrev cX9_isLetter : ByteArray := prog_11_method_12_code
def yX9_isLetter : MethodName := ⟨RX9, "isLetter", "(I)Z"⟩
abbrev cX9_isDigit : ByteArray := prog_11_method_13_code
def yX9_isDigit : MethodName := ⟨RX9, "isDigit", "(I)Z"⟩
def RX10 : String := "SevenUnsaid$Thought"
def TX10 : u_T := fun k => match k with
  | 0 => ("SevenUnsaid$Thought", "hard", "I", false)
  | 1 => ("SevenUnsaid$Thought", "plain", "I", false)
  | 2 => ("SevenUnsaid$Thought", "longest", "I", false)
  | 3 => ("SevenUnsaid$Thought", "begins", "I", false)
  | 4 => ("SevenUnsaid$Thought", "left", "I", false)
  | 5 => ("SevenUnsaid$Thought", "bestSort", "I", false)
  | 6 => ("SevenUnsaid$Thought", "bestNumber", "I", false)
  | 7 => ("SevenUnsaid$Thought", "here", "LSevenUnsaid$Count;", true)
  | 8 => ("SevenUnsaid$Thought", "more", "LSevenUnsaid$Rules;", true)
  | 9 => ("SevenUnsaid$Thought", "wordsOn", "[I", true)
  | _ => ("SevenUnsaid$Thought", "taken", "[I", true)
def tyX10 : Nat → FieldType := fun k => match k with
  | 0 => .int
  | 1 => .int
  | 2 => .int
  | 3 => .int
  | 4 => .int
  | 5 => .int
  | 6 => .int
  | 7 => .object "SevenUnsaid$Count"
  | 8 => .object "SevenUnsaid$Rules"
  | 9 => .array .int
  | _ => .array .int
abbrev wsX100 : List Cond := u_ws RX10 TX10 11
theorem nmX10 : ∀ a, a < 11 → ∀ b, b < 11 → a ≠ b → (TX10 a).2.1 ≠ (TX10 b).2.1 := by decide +kernel
theorem tyX10_ok : ∀ k, k < 11 → parseFieldDescriptor (TX10 k).2.2.1 = some (tyX10 k) := by decide +kernel
abbrev cX10_init : ByteArray := prog_12_method_1_code
def yX10_init : MethodName := ⟨RX10, "<init>", "()V"⟩
abbrev cX10_sayerOf : ByteArray := prog_12_method_2_code
def yX10_sayerOf : MethodName := ⟨RX10, "sayerOf", "(LSevenUnsaid$Round;I)I"⟩
abbrev cX10_chance : ByteArray := prog_12_method_3_code
def yX10_chance : MethodName := ⟨RX10, "chance", "(LSevenUnsaid$Round;LSevenUnsaid$Rules;I)I"⟩
abbrev cX10_oneMore : ByteArray := prog_12_method_4_code
def yX10_oneMore : MethodName := ⟨RX10, "oneMore", "(LSevenUnsaid$Rules;III)LSevenUnsaid$Rules;"⟩
abbrev cX10_countWords : ByteArray := prog_12_method_5_code
def yX10_countWords : MethodName := ⟨RX10, "countWords", "(LSevenUnsaid$Round;I)V"⟩
abbrev cX10_wordsOf : ByteArray := prog_12_method_6_code
def yX10_wordsOf : MethodName := ⟨RX10, "wordsOf", "(I)I"⟩
abbrev cX10_bestSeat : ByteArray := prog_12_method_7_code
def yX10_bestSeat : MethodName := ⟨RX10, "bestSeat", "(I)I"⟩
abbrev cX10_layOut : ByteArray := prog_12_method_8_code
def yX10_layOut : MethodName := ⟨RX10, "layOut", "(LSevenUnsaid$Round;LSevenUnsaid$Seating;I)V"⟩
abbrev cX10_countRuns : ByteArray := prog_12_method_9_code
def yX10_countRuns : MethodName := ⟨RX10, "countRuns", "(LSevenUnsaid$Rules;II)V"⟩
abbrev cX10_tryRules : ByteArray := prog_12_method_10_code
def yX10_tryRules : MethodName := ⟨RX10, "tryRules", "(LSevenUnsaid$Rules;II)V"⟩
abbrev cX10_takeBy : ByteArray := prog_12_method_11_code
def yX10_takeBy : MethodName := ⟨RX10, "takeBy", "(I)V"⟩
def RX11 : String := "SevenUnsaid"
def TX11 : u_T := fun k => match k with
  | 0 => ("SevenUnsaid", "now", "LSevenUnsaid$Round;", true)
  | 1 => ("SevenUnsaid", "kept", "LSevenUnsaid$Round;", true)
  | 2 => ("SevenUnsaid", "isKept", "Z", false)
  | 3 => ("SevenUnsaid", "history", "LSevenUnsaid$History;", true)
  | 4 => ("SevenUnsaid", "thought", "LSevenUnsaid$Thought;", true)
  | 5 => ("SevenUnsaid", "seats", "LSevenUnsaid$Seating;", true)
  | 6 => ("SevenUnsaid", "lawMaker", "LSevenUnsaid$LawMaker;", true)
  | 7 => ("SevenUnsaid", "faultKind", "I", false)
  | _ => ("SevenUnsaid", "faultPlace", "I", false)
def tyX11 : Nat → FieldType := fun k => match k with
  | 0 => .object "SevenUnsaid$Round"
  | 1 => .object "SevenUnsaid$Round"
  | 2 => .boolean
  | 3 => .object "SevenUnsaid$History"
  | 4 => .object "SevenUnsaid$Thought"
  | 5 => .object "SevenUnsaid$Seating"
  | 6 => .object "SevenUnsaid$LawMaker"
  | 7 => .int
  | _ => .int
abbrev wsX110 : List Cond := u_ws RX11 TX11 9
theorem nmX11 : ∀ a, a < 9 → ∀ b, b < 9 → a ≠ b → (TX11 a).2.1 ≠ (TX11 b).2.1 := by decide +kernel
theorem tyX11_ok : ∀ k, k < 9 → parseFieldDescriptor (TX11 k).2.2.1 = some (tyX11 k) := by decide +kernel
abbrev cX11_init : ByteArray := prog_1_method_1_code
def yX11_init : MethodName := ⟨RX11, "<init>", "()V"⟩
abbrev cX11_state : ByteArray := prog_1_method_2_code
def yX11_state : MethodName := ⟨RX11, "state", "(I)I"⟩
abbrev cX11_person : ByteArray := prog_1_method_3_code
def yX11_person : MethodName := ⟨RX11, "person", "(I)I"⟩
abbrev cX11_rule : ByteArray := prog_1_method_4_code
def yX11_rule : MethodName := ⟨RX11, "rule", "(III)I"⟩
abbrev cX11_set : ByteArray := prog_1_method_5_code
def yX11_set : MethodName := ⟨RX11, "set", "(III)Z"⟩
abbrev cX11_change : ByteArray := prog_1_method_6_code
def yX11_change : MethodName := ⟨RX11, "change", "(II)Z"⟩
abbrev cX11_feed : ByteArray := prog_1_method_7_code
def yX11_feed : MethodName := ⟨RX11, "feed", "(IIIII)I"⟩
abbrev cX11_end : ByteArray := prog_1_method_8_code
def yX11_end : MethodName := ⟨RX11, "end", "(I)Z"⟩
abbrev cX11_text : ByteArray := prog_1_method_9_code
def yX11_text : MethodName := ⟨RX11, "text", "()I"⟩
abbrev cX11_fault : ByteArray := prog_1_method_10_code
def yX11_fault : MethodName := ⟨RX11, "fault", "(I)I"⟩
abbrev cX11_play : ByteArray := prog_1_method_11_code
def yX11_play : MethodName := ⟨RX11, "play", "(I)I"⟩
abbrev cX11_of : ByteArray := prog_1_method_12_code
def yX11_of : MethodName := ⟨RX11, "of", "(II)I"⟩
abbrev cX11_told : ByteArray := prog_1_method_13_code
def yX11_told : MethodName := ⟨RX11, "told", "(II)I"⟩
abbrev cX11_has : ByteArray := prog_1_method_14_code
def yX11_has : MethodName := ⟨RX11, "has", "(I)I"⟩
abbrev cX11_book : ByteArray := prog_1_method_15_code
def yX11_book : MethodName := ⟨RX11, "book", "(II)I"⟩
abbrev cX11_whose : ByteArray := prog_1_method_16_code
def yX11_whose : MethodName := ⟨RX11, "whose", "(I)I"⟩
abbrev cX11_get : ByteArray := prog_1_method_17_code
def yX11_get : MethodName := ⟨RX11, "get", "(I)I"⟩
abbrev cX11_hardest : ByteArray := prog_1_method_18_code
def yX11_hardest : MethodName := ⟨RX11, "hardest", "(I)I"⟩
abbrev cX11_words : ByteArray := prog_1_method_19_code
def yX11_words : MethodName := ⟨RX11, "words", "(II)I"⟩
abbrev cX11_sit : ByteArray := prog_1_method_20_code
def yX11_sit : MethodName := ⟨RX11, "sit", "(I)I"⟩
abbrev cX11_plain : ByteArray := prog_1_method_21_code
def yX11_plain : MethodName := ⟨RX11, "plain", "(III)I"⟩
abbrev cX11_third : ByteArray := prog_1_method_22_code
def yX11_third : MethodName := ⟨RX11, "third", "(IIII)I"⟩
abbrev cX11_fewest : ByteArray := prog_1_method_23_code
def yX11_fewest : MethodName := ⟨RX11, "fewest", "(III)I"⟩
abbrev cX11_seating : ByteArray := prog_1_method_24_code
def yX11_seating : MethodName := ⟨RX11, "seating", "(II)I"⟩
abbrev cX11_behind : ByteArray := prog_1_method_25_code
def yX11_behind : MethodName := ⟨RX11, "behind", "(II)I"⟩
abbrev cX11_undo : ByteArray := prog_1_method_26_code
def yX11_undo : MethodName := ⟨RX11, "undo", "()Z"⟩
abbrev cX11_image : ByteArray := prog_1_method_27_code
def yX11_image : MethodName := ⟨RX11, "image", "(Z)Z"⟩
abbrev cX11_look : ByteArray := prog_1_method_28_code
def yX11_look : MethodName := ⟨RX11, "look", "(I)I"⟩
abbrev cX11_tell : ByteArray := prog_1_method_29_code
def yX11_tell : MethodName := ⟨RX11, "tell", "(III)Z"⟩
abbrev cX11_tellPace : ByteArray := prog_1_method_30_code
def yX11_tellPace : MethodName := ⟨RX11, "tellPace", "(I)Z"⟩
abbrev cX11_tellNext : ByteArray := prog_1_method_31_code
def yX11_tellNext : MethodName := ⟨RX11, "tellNext", "(I)Z"⟩
abbrev cX11_tellAt : ByteArray := prog_1_method_32_code
def yX11_tellAt : MethodName := ⟨RX11, "tellAt", "(I)Z"⟩
abbrev cX11_playNumber : ByteArray := prog_1_method_33_code
def yX11_playNumber : MethodName := ⟨RX11, "playNumber", "(II)Z"⟩
abbrev cX11_oddsOfNext : ByteArray := prog_1_method_34_code
def yX11_oddsOfNext : MethodName := ⟨RX11, "oddsOfNext", "(I)I"⟩
abbrev cX11_canComeTo : ByteArray := prog_1_method_35_code
def yX11_canComeTo : MethodName := ⟨RX11, "canComeTo", "(I)Z"⟩
abbrev cX11_isNumber : ByteArray := prog_1_method_36_code
def yX11_isNumber : MethodName := ⟨RX11, "isNumber", "(I)Z"⟩
abbrev cX11_isSpan : ByteArray := prog_1_method_37_code
def yX11_isSpan : MethodName := ⟨RX11, "isSpan", "(II)Z"⟩
abbrev cX11_canBeRule : ByteArray := prog_1_method_38_code
def yX11_canBeRule : MethodName := ⟨RX11, "canBeRule", "(III)Z"⟩
def RX12 : String := "SevenUnsaidModel"
def TX12 : u_T := fun k => match k with
  | 0 => ("SevenUnsaidModel", "w", "[I", true)
  | 1 => ("SevenUnsaidModel", "kept", "[I", true)
  | 2 => ("SevenUnsaidModel", "back", "[I", true)
  | 3 => ("SevenUnsaidModel", "backMany", "I", false)
  | 4 => ("SevenUnsaidModel", "hasImage", "Z", false)
  | 5 => ("SevenUnsaidModel", "freshLine", "[I", true)
  | 6 => ("SevenUnsaidModel", "freshStep", "[I", true)
  | 7 => ("SevenUnsaidModel", "tape", "[I", true)
  | 8 => ("SevenUnsaidModel", "pile", "[I", true)
  | 9 => ("SevenUnsaidModel", "facts", "[I", true)
  | 10 => ("SevenUnsaidModel", "lines", "I", false)
  | 11 => ("SevenUnsaidModel", "steps", "I", false)
  | 12 => ("SevenUnsaidModel", "taped", "I", false)
  | 13 => ("SevenUnsaidModel", "at", "I", false)
  | 14 => ("SevenUnsaidModel", "token", "I", false)
  | 15 => ("SevenUnsaidModel", "tokenAt", "I", false)
  | 16 => ("SevenUnsaidModel", "value", "I", false)
  | 17 => ("SevenUnsaidModel", "wrong", "I", false)
  | 18 => ("SevenUnsaidModel", "wrongAt", "I", false)
  | 19 => ("SevenUnsaidModel", "faultKind", "I", false)
  | 20 => ("SevenUnsaidModel", "depth", "I", false)
  | 21 => ("SevenUnsaidModel", "faultPlace", "I", false)
  | 22 => ("SevenUnsaidModel", "number", "I", false)
  | 23 => ("SevenUnsaidModel", "seat", "I", false)
  | 24 => ("SevenUnsaidModel", "way", "I", false)
  | 25 => ("SevenUnsaidModel", "turned", "I", false)
  | 26 => ("SevenUnsaidModel", "running", "I", false)
  | 27 => ("SevenUnsaidModel", "wordsTo", "[I", true)
  | 28 => ("SevenUnsaidModel", "seats", "[I", true)
  | 29 => ("SevenUnsaidModel", "bestSeats", "[I", true)
  | _ => ("SevenUnsaidModel", "bestGet", "I", false)
def tyX12 : Nat → FieldType := fun k => match k with
  | 0 => .array .int
  | 1 => .array .int
  | 2 => .array .int
  | 3 => .int
  | 4 => .boolean
  | 5 => .array .int
  | 6 => .array .int
  | 7 => .array .int
  | 8 => .array .int
  | 9 => .array .int
  | 10 => .int
  | 11 => .int
  | 12 => .int
  | 13 => .int
  | 14 => .int
  | 15 => .int
  | 16 => .int
  | 17 => .int
  | 18 => .int
  | 19 => .int
  | 20 => .int
  | 21 => .int
  | 22 => .int
  | 23 => .int
  | 24 => .int
  | 25 => .int
  | 26 => .int
  | 27 => .array .int
  | 28 => .array .int
  | 29 => .array .int
  | _ => .int
abbrev wsX120 : List Cond := u_ws RX12 TX12 31
theorem nmX12 : ∀ a, a < 31 → ∀ b, b < 31 → a ≠ b → (TX12 a).2.1 ≠ (TX12 b).2.1 := by decide +kernel
theorem tyX12_ok : ∀ k, k < 31 → parseFieldDescriptor (TX12 k).2.2.1 = some (tyX12 k) := by decide +kernel
abbrev cX12_init : ByteArray := prog_14_method_1_code
def yX12_init : MethodName := ⟨RX12, "<init>", "()V"⟩
abbrev cX12_isIn : ByteArray := prog_14_method_2_code
def yX12_isIn : MethodName := ⟨RX12, "isIn", "(III)Z"⟩
abbrev cX12_least : ByteArray := prog_14_method_3_code
def yX12_least : MethodName := ⟨RX12, "least", "(II)I"⟩
abbrev cX12_most : ByteArray := prog_14_method_4_code
def yX12_most : MethodName := ⟨RX12, "most", "(II)I"⟩
abbrev cX12_isPerson : ByteArray := prog_14_method_5_code
def yX12_isPerson : MethodName := ⟨RX12, "isPerson", "(I)Z"⟩
abbrev cX12_isRule : ByteArray := prog_14_method_6_code
def yX12_isRule : MethodName := ⟨RX12, "isRule", "(I)Z"⟩
abbrev cX12_own : ByteArray := prog_14_method_7_code
def yX12_own : MethodName := ⟨RX12, "own", "(II)I"⟩
abbrev cX12_gives : ByteArray := prog_14_method_8_code
def yX12_gives : MethodName := ⟨RX12, "gives", "(III)V"⟩
abbrev cX12_forgets : ByteArray := prog_14_method_9_code
def yX12_forgets : MethodName := ⟨RX12, "forgets", "()V"⟩
abbrev cX12_state : ByteArray := prog_14_method_10_code
def yX12_state : MethodName := ⟨RX12, "state", "(I)I"⟩
abbrev cX12_draw : ByteArray := prog_14_method_11_code
def yX12_draw : MethodName := ⟨RX12, "draw", "(I)I"⟩
abbrev cX12_person : ByteArray := prog_14_method_12_code
def yX12_person : MethodName := ⟨RX12, "person", "(I)I"⟩
abbrev cX12_canRule : ByteArray := prog_14_method_13_code
def yX12_canRule : MethodName := ⟨RX12, "canRule", "(III)Z"⟩
abbrev cX12_rules : ByteArray := prog_14_method_14_code
def yX12_rules : MethodName := ⟨RX12, "rules", "(IIII)V"⟩
abbrev cX12_rule : ByteArray := prog_14_method_15_code
def yX12_rule : MethodName := ⟨RX12, "rule", "(III)I"⟩
abbrev cX12_set : ByteArray := prog_14_method_16_code
def yX12_set : MethodName := ⟨RX12, "set", "(III)Z"⟩
abbrev cX12_change : ByteArray := prog_14_method_17_code
def yX12_change : MethodName := ⟨RX12, "change", "(II)Z"⟩
abbrev cX12_feed : ByteArray := prog_14_method_18_code
def yX12_feed : MethodName := ⟨RX12, "feed", "(IIIII)I"⟩
abbrev cX12_end : ByteArray := prog_14_method_19_code
def yX12_end : MethodName := ⟨RX12, "end", "(I)Z"⟩
abbrev cX12_see : ByteArray := prog_14_method_20_code
def yX12_see : MethodName := ⟨RX12, "see", "(I)I"⟩
abbrev cX12_isLetter : ByteArray := prog_14_method_21_code
def yX12_isLetter : MethodName := ⟨RX12, "isLetter", "(I)Z"⟩
abbrev cX12_isDigit : ByteArray := prog_14_method_22_code
def yX12_isDigit : MethodName := ⟨RX12, "isDigit", "(I)Z"⟩
abbrev cX12_is : ByteArray := prog_14_method_23_code
def yX12_is : MethodName := ⟨RX12, "is", "(Ljava/lang/String;)Z"⟩
abbrev cX12_nameWord : ByteArray := prog_14_method_24_code
def yX12_nameWord : MethodName := ⟨RX12, "nameWord", "()I"⟩
abbrev cX12_word : ByteArray := prog_14_method_25_code
def yX12_word : MethodName := ⟨RX12, "word", "()I"⟩
abbrev cX12_next0 : ByteArray := prog_14_method_26_code
def yX12_next0 : MethodName := ⟨RX12, "next0", "()V"⟩
abbrev cX12_bad : ByteArray := prog_14_method_27_code
def yX12_bad : MethodName := ⟨RX12, "bad", "(I)Z"⟩
abbrev cX12_need : ByteArray := prog_14_method_28_code
def yX12_need : MethodName := ⟨RX12, "need", "(I)Z"⟩
abbrev cX12_lay : ByteArray := prog_14_method_29_code
def yX12_lay : MethodName := ⟨RX12, "lay", "(II)V"⟩
abbrev cX12_opens : ByteArray := prog_14_method_30_code
def yX12_opens : MethodName := ⟨RX12, "opens", "()Z"⟩
abbrev cX12_sumUp : ByteArray := prog_14_method_31_code
def yX12_sumUp : MethodName := ⟨RX12, "sumUp", "()Z"⟩
abbrev cX12_product : ByteArray := prog_14_method_32_code
def yX12_product : MethodName := ⟨RX12, "product", "()Z"⟩
abbrev cX12_unit : ByteArray := prog_14_method_33_code
def yX12_unit : MethodName := ⟨RX12, "unit", "()Z"⟩
abbrev cX12_any : ByteArray := prog_14_method_34_code
def yX12_any : MethodName := ⟨RX12, "any", "()Z"⟩
abbrev cX12_every : ByteArray := prog_14_method_35_code
def yX12_every : MethodName := ⟨RX12, "every", "()Z"⟩
abbrev cX12_oneTest : ByteArray := prog_14_method_36_code
def yX12_oneTest : MethodName := ⟨RX12, "oneTest", "()Z"⟩
abbrev cX12_aLine : ByteArray := prog_14_method_37_code
def yX12_aLine : MethodName := ⟨RX12, "aLine", "()Z"⟩
abbrev cX12_text : ByteArray := prog_14_method_38_code
def yX12_text : MethodName := ⟨RX12, "text", "()I"⟩
abbrev cX12_fault : ByteArray := prog_14_method_39_code
def yX12_fault : MethodName := ⟨RX12, "fault", "(I)I"⟩
abbrev cX12_both : ByteArray := prog_14_method_40_code
def yX12_both : MethodName := ⟨RX12, "both", "(III)I"⟩
abbrev cX12_comesTo : ByteArray := prog_14_method_41_code
def yX12_comesTo : MethodName := ⟨RX12, "comesTo", "(II)I"⟩
abbrev cX12_hasFigure : ByteArray := prog_14_method_42_code
def yX12_hasFigure : MethodName := ⟨RX12, "hasFigure", "(II)Z"⟩
abbrev cX12_rulesOf : ByteArray := prog_14_method_43_code
def yX12_rulesOf : MethodName := ⟨RX12, "rulesOf", "(I)I"⟩
abbrev cX12_count : ByteArray := prog_14_method_44_code
def yX12_count : MethodName := ⟨RX12, "count", "(II)I"⟩
abbrev cX12_has : ByteArray := prog_14_method_45_code
def yX12_has : MethodName := ⟨RX12, "has", "(I)I"⟩
abbrev cX12_runTo : ByteArray := prog_14_method_46_code
def yX12_runTo : MethodName := ⟨RX12, "runTo", "(I)I"⟩
abbrev cX12_beginsNow : ByteArray := prog_14_method_47_code
def yX12_beginsNow : MethodName := ⟨RX12, "beginsNow", "()V"⟩
abbrev cX12_beginsAnew : ByteArray := prog_14_method_48_code
def yX12_beginsAnew : MethodName := ⟨RX12, "beginsAnew", "()V"⟩
abbrev cX12_goesOn : ByteArray := prog_14_method_49_code
def yX12_goesOn : MethodName := ⟨RX12, "goesOn", "()V"⟩
abbrev cX12_whoOn : ByteArray := prog_14_method_50_code
def yX12_whoOn : MethodName := ⟨RX12, "whoOn", "(I)I"⟩
abbrev cX12_oddsFor : ByteArray := prog_14_method_51_code
def yX12_oddsFor : MethodName := ⟨RX12, "oddsFor", "(I)I"⟩
abbrev cX12_keeps : ByteArray := prog_14_method_52_code
def yX12_keeps : MethodName := ⟨RX12, "keeps", "()V"⟩
abbrev cX12_undo : ByteArray := prog_14_method_53_code
def yX12_undo : MethodName := ⟨RX12, "undo", "()Z"⟩
abbrev cX12_glassesOfAll : ByteArray := prog_14_method_54_code
def yX12_glassesOfAll : MethodName := ⟨RX12, "glassesOfAll", "()I"⟩
abbrev cX12_errs : ByteArray := prog_14_method_55_code
def yX12_errs : MethodName := ⟨RX12, "errs", "(I)V"⟩
abbrev cX12_plays : ByteArray := prog_14_method_56_code
def yX12_plays : MethodName := ⟨RX12, "plays", "()Z"⟩
abbrev cX12_play : ByteArray := prog_14_method_57_code
def yX12_play : MethodName := ⟨RX12, "play", "(I)I"⟩
abbrev cX12_of : ByteArray := prog_14_method_58_code
def yX12_of : MethodName := ⟨RX12, "of", "(II)I"⟩
abbrev cX12_told : ByteArray := prog_14_method_59_code
def yX12_told : MethodName := ⟨RX12, "told", "(II)I"⟩
abbrev cX12_book : ByteArray := prog_14_method_60_code
def yX12_book : MethodName := ⟨RX12, "book", "(II)I"⟩
abbrev cX12_canCome : ByteArray := prog_14_method_61_code
def yX12_canCome : MethodName := ⟨RX12, "canCome", "(I)Z"⟩
abbrev cX12_whose : ByteArray := prog_14_method_62_code
def yX12_whose : MethodName := ⟨RX12, "whose", "(I)I"⟩
abbrev cX12_getsTo : ByteArray := prog_14_method_63_code
def yX12_getsTo : MethodName := ⟨RX12, "getsTo", "(I)I"⟩
abbrev cX12_get : ByteArray := prog_14_method_64_code
def yX12_get : MethodName := ⟨RX12, "get", "(I)I"⟩
abbrev cX12_hardest : ByteArray := prog_14_method_65_code
def yX12_hardest : MethodName := ⟨RX12, "hardest", "(I)I"⟩
abbrev cX12_laysWords : ByteArray := prog_14_method_66_code
def yX12_laysWords : MethodName := ⟨RX12, "laysWords", "(I)V"⟩
abbrev cX12_words : ByteArray := prog_14_method_67_code
def yX12_words : MethodName := ⟨RX12, "words", "(II)I"⟩
abbrev cX12_sit : ByteArray := prog_14_method_68_code
def yX12_sit : MethodName := ⟨RX12, "sit", "(I)I"⟩
abbrev cX12_isSpan : ByteArray := prog_14_method_69_code
def yX12_isSpan : MethodName := ⟨RX12, "isSpan", "(II)Z"⟩
abbrev cX12_plain : ByteArray := prog_14_method_70_code
def yX12_plain : MethodName := ⟨RX12, "plain", "(III)I"⟩
abbrev cX12_third : ByteArray := prog_14_method_71_code
def yX12_third : MethodName := ⟨RX12, "third", "(IIII)I"⟩
abbrev cX12_plainWith : ByteArray := prog_14_method_72_code
def yX12_plainWith : MethodName := ⟨RX12, "plainWith", "(IIII)I"⟩
abbrev cX12_fewest : ByteArray := prog_14_method_73_code
def yX12_fewest : MethodName := ⟨RX12, "fewest", "(III)I"⟩
abbrev cX12_sits : ByteArray := prog_14_method_74_code
def yX12_sits : MethodName := ⟨RX12, "sits", "(III)V"⟩
abbrev cX12_seating : ByteArray := prog_14_method_75_code
def yX12_seating : MethodName := ⟨RX12, "seating", "(II)I"⟩
abbrev cX12_behind : ByteArray := prog_14_method_76_code
def yX12_behind : MethodName := ⟨RX12, "behind", "(II)I"⟩
abbrev cX12_image : ByteArray := prog_14_method_77_code
def yX12_image : MethodName := ⟨RX12, "image", "(Z)Z"⟩
abbrev cX12_look : ByteArray := prog_14_method_78_code
def yX12_look : MethodName := ⟨RX12, "look", "(I)I"⟩
def RJx145de : String := "java/io/Serializable"
def TJx145de : u_T := fun k => match k with
  | _ => ("", "", "", false)
def tyJx145de : Nat → FieldType := fun k => match k with
  | _ => .int
abbrev wsJx145de0 : List Cond := u_ws RJx145de TJx145de 0
theorem nmJx145de : ∀ a, a < 0 → ∀ b, b < 0 → a ≠ b → (TJx145de a).2.1 ≠ (TJx145de b).2.1 := by decide +kernel
theorem tyJx145de_ok : ∀ k, k < 0 → parseFieldDescriptor (TJx145de k).2.2.1 = some (tyJx145de k) := by decide +kernel
def RJx9f9b0 : String := "java/lang/CharSequence"
def TJx9f9b0 : u_T := fun k => match k with
  | _ => ("", "", "", false)
def tyJx9f9b0 : Nat → FieldType := fun k => match k with
  | _ => .int
abbrev wsJx9f9b00 : List Cond := u_ws RJx9f9b0 TJx9f9b0 0
theorem nmJx9f9b0 : ∀ a, a < 0 → ∀ b, b < 0 → a ≠ b → (TJx9f9b0 a).2.1 ≠ (TJx9f9b0 b).2.1 := by decide +kernel
theorem tyJx9f9b0_ok : ∀ k, k < 0 → parseFieldDescriptor (TJx9f9b0 k).2.2.1 = some (tyJx9f9b0 k) := by decide +kernel
def RJ11 : String := "java/lang/Character"
def TJ11 : u_T := fun k => match k with
  | _ => ("", "", "", false)
def tyJ11 : Nat → FieldType := fun k => match k with
  | _ => .int
abbrev wsJ110 : List Cond := u_ws RJ11 TJ11 0
theorem nmJ11 : ∀ a, a < 0 → ∀ b, b < 0 → a ≠ b → (TJ11 a).2.1 ≠ (TJ11 b).2.1 := by decide +kernel
theorem tyJ11_ok : ∀ k, k < 0 → parseFieldDescriptor (TJ11 k).2.2.1 = some (tyJ11 k) := by decide +kernel
abbrev cJ11_isValidCodePoint_9a6ad : ByteArray := prog_15_method_11_code
def yJ11_isValidCodePoint_9a6ad : MethodName := ⟨RJ11, "isValidCodePoint", "(I)Z"⟩
abbrev cJ11_highSurrogate_5068e : ByteArray := prog_15_method_28_code
def yJ11_highSurrogate_5068e : MethodName := ⟨RJ11, "highSurrogate", "(I)C"⟩
abbrev cJ11_lowSurrogate_5068e : ByteArray := prog_15_method_29_code
def yJ11_lowSurrogate_5068e : MethodName := ⟨RJ11, "lowSurrogate", "(I)C"⟩
def RJxb160c : String := "java/lang/Comparable"
def TJxb160c : u_T := fun k => match k with
  | _ => ("", "", "", false)
def tyJxb160c : Nat → FieldType := fun k => match k with
  | _ => .int
abbrev wsJxb160c0 : List Cond := u_ws RJxb160c TJxb160c 0
theorem nmJxb160c : ∀ a, a < 0 → ∀ b, b < 0 → a ≠ b → (TJxb160c a).2.1 ≠ (TJxb160c b).2.1 := by decide +kernel
theorem tyJxb160c_ok : ∀ k, k < 0 → parseFieldDescriptor (TJxb160c k).2.2.1 = some (tyJxb160c k) := by decide +kernel
def RJ6 : String := "java/lang/Integer"
def TJ6 : u_T := fun k => match k with
  | _ => ("", "", "", false)
def tyJ6 : Nat → FieldType := fun k => match k with
  | _ => .int
abbrev wsJ60 : List Cond := u_ws RJ6 TJ6 0
theorem nmJ6 : ∀ a, a < 0 → ∀ b, b < 0 → a ≠ b → (TJ6 a).2.1 ≠ (TJ6 b).2.1 := by decide +kernel
theorem tyJ6_ok : ∀ k, k < 0 → parseFieldDescriptor (TJ6 k).2.2.1 = some (tyJ6 k) := by decide +kernel
abbrev cJ6_bitCount_0f7a4 : ByteArray := prog_16_method_49_code
def yJ6_bitCount_0f7a4 : MethodName := ⟨RJ6, "bitCount", "(I)I"⟩
def RJ9 : String := "java/lang/Math"
def TJ9 : u_T := fun k => match k with
  | _ => ("", "", "", false)
def tyJ9 : Nat → FieldType := fun k => match k with
  | _ => .int
abbrev wsJ90 : List Cond := u_ws RJ9 TJ9 0
theorem nmJ9 : ∀ a, a < 0 → ∀ b, b < 0 → a ≠ b → (TJ9 a).2.1 ≠ (TJ9 b).2.1 := by decide +kernel
theorem tyJ9_ok : ∀ k, k < 0 → parseFieldDescriptor (TJ9 k).2.2.1 = some (tyJ9 k) := by decide +kernel
abbrev cJ9_floorMod_7cf53 : ByteArray := prog_17_method_50_code
def yJ9_floorMod_7cf53 : MethodName := ⟨RJ9, "floorMod", "(II)I"⟩
abbrev cJ9_max_7cf53 : ByteArray := prog_17_method_65_code
def yJ9_max_7cf53 : MethodName := ⟨RJ9, "max", "(II)I"⟩
abbrev cJ9_min_7cf53 : ByteArray := prog_17_method_69_code
def yJ9_min_7cf53 : MethodName := ⟨RJ9, "min", "(II)I"⟩
def RJ0 : String := "java/lang/String"
def TJ0 : u_T := fun k => match k with
  | _ => ("", "", "", false)
def tyJ0 : Nat → FieldType := fun k => match k with
  | _ => .int
abbrev wsJ00 : List Cond := u_ws RJ0 TJ0 0
theorem nmJ0 : ∀ a, a < 0 → ∀ b, b < 0 → a ≠ b → (TJ0 a).2.1 ≠ (TJ0 b).2.1 := by decide +kernel
theorem tyJ0_ok : ∀ k, k < 0 → parseFieldDescriptor (TJ0 k).2.2.1 = some (tyJ0 k) := by decide +kernel
abbrev cJ0_length_8abf5 : ByteArray := prog_18_method_54_code
def yJ0_length_8abf5 : MethodName := ⟨RJ0, "length", "()I"⟩
abbrev cJ0_charAt_5068e : ByteArray := prog_18_method_56_code
def yJ0_charAt_5068e : MethodName := ⟨RJ0, "charAt", "(I)C"⟩
abbrev cJ0_indexOf_0f7a4 : ByteArray := prog_18_method_79_code
def yJ0_indexOf_0f7a4 : MethodName := ⟨RJ0, "indexOf", "(I)I"⟩
abbrev cJ0_indexOf_7cf53 : ByteArray := prog_18_method_80_code
def yJ0_indexOf_7cf53 : MethodName := ⟨RJ0, "indexOf", "(II)I"⟩
abbrev cJ0_coder_7d493 : ByteArray := prog_18_method_152_code
def yJ0_coder_7d493 : MethodName := ⟨RJ0, "coder", "()B"⟩
abbrev cJ0_isLatin1_aae02 : ByteArray := prog_18_method_154_code
def yJ0_isLatin1_aae02 : MethodName := ⟨RJ0, "isLatin1", "()Z"⟩
abbrev cJ0_checkIndex_df160 : ByteArray := prog_18_method_155_code
def yJ0_checkIndex_df160 : MethodName := ⟨RJ0, "checkIndex", "(II)V"⟩
abbrev cJ0_checkBoundsBeginEnd_23922 : ByteArray := prog_18_method_158_code
def yJ0_checkBoundsBeginEnd_23922 : MethodName := ⟨RJ0, "checkBoundsBeginEnd", "(III)V"⟩
def RJ1 : String := "java/lang/StringLatin1"
def TJ1 : u_T := fun k => match k with
  | _ => ("", "", "", false)
def tyJ1 : Nat → FieldType := fun k => match k with
  | _ => .int
abbrev wsJ10 : List Cond := u_ws RJ1 TJ1 0
theorem nmJ1 : ∀ a, a < 0 → ∀ b, b < 0 → a ≠ b → (TJ1 a).2.1 ≠ (TJ1 b).2.1 := by decide +kernel
theorem tyJ1_ok : ∀ k, k < 0 → parseFieldDescriptor (TJ1 k).2.2.1 = some (tyJ1 k) := by decide +kernel
abbrev cJ1_charAt_3b067 : ByteArray := prog_19_method_2_code
def yJ1_charAt_3b067 : MethodName := ⟨RJ1, "charAt", "([BI)C"⟩
abbrev cJ1_canEncode_9a6ad : ByteArray := prog_19_method_4_code
def yJ1_canEncode_9a6ad : MethodName := ⟨RJ1, "canEncode", "(I)Z"⟩
abbrev cJ1_indexOf_4cfef : ByteArray := prog_19_method_22_code
def yJ1_indexOf_4cfef : MethodName := ⟨RJ1, "indexOf", "([BIII)I"⟩
abbrev cJ1_indexOfChar_4cfef : ByteArray := prog_19_method_23_code
def yJ1_indexOfChar_4cfef : MethodName := ⟨RJ1, "indexOfChar", "([BIII)I"⟩
def RJ2 : String := "java/lang/StringUTF16"
def TJ2 : u_T := fun k => match k with
  | _ => ("", "", "", false)
def tyJ2 : Nat → FieldType := fun k => match k with
  | _ => .int
abbrev wsJ20 : List Cond := u_ws RJ2 TJ2 0
theorem nmJ2 : ∀ a, a < 0 → ∀ b, b < 0 → a ≠ b → (TJ2 a).2.1 ≠ (TJ2 b).2.1 := by decide +kernel
theorem tyJ2_ok : ∀ k, k < 0 → parseFieldDescriptor (TJ2 k).2.2.1 = some (tyJ2 k) := by decide +kernel
abbrev cJ2_getChar_3b067 : ByteArray := prog_20_method_5_code
def yJ2_getChar_3b067 : MethodName := ⟨RJ2, "getChar", "([BI)C"⟩
abbrev cJ2_length_9d52b : ByteArray := prog_20_method_6_code
def yJ2_length_9d52b : MethodName := ⟨RJ2, "length", "([B)I"⟩
abbrev cJ2_indexOf_4cfef : ByteArray := prog_20_method_40_code
def yJ2_indexOf_4cfef : MethodName := ⟨RJ2, "indexOf", "([BIII)I"⟩
abbrev cJ2_indexOfChar_4cfef : ByteArray := prog_20_method_47_code
def yJ2_indexOfChar_4cfef : MethodName := ⟨RJ2, "indexOfChar", "([BIII)I"⟩
abbrev cJ2_indexOfCharUnsafe_4cfef : ByteArray := prog_20_method_48_code
def yJ2_indexOfCharUnsafe_4cfef : MethodName := ⟨RJ2, "indexOfCharUnsafe", "([BIII)I"⟩
abbrev cJ2_indexOfSupplementary_4cfef : ByteArray := prog_20_method_49_code
def yJ2_indexOfSupplementary_4cfef : MethodName := ⟨RJ2, "indexOfSupplementary", "([BIII)I"⟩
abbrev cJ2_charAt_3b067 : ByteArray := prog_20_method_83_code
def yJ2_charAt_3b067 : MethodName := ⟨RJ2, "charAt", "([BI)C"⟩
abbrev cJ2_checkIndex_2214a : ByteArray := prog_20_method_91_code
def yJ2_checkIndex_2214a : MethodName := ⟨RJ2, "checkIndex", "(I[B)V"⟩
abbrev cJ2_checkBoundsBeginEnd_d044e : ByteArray := prog_20_method_93_code
def yJ2_checkBoundsBeginEnd_d044e : MethodName := ⟨RJ2, "checkBoundsBeginEnd", "(II[B)V"⟩
def RJ10 : String := "java/lang/System"
def TJ10 : u_T := fun k => match k with
  | _ => ("", "", "", false)
def tyJ10 : Nat → FieldType := fun k => match k with
  | _ => .int
abbrev wsJ100 : List Cond := u_ws RJ10 TJ10 0
theorem nmJ10 : ∀ a, a < 0 → ∀ b, b < 0 → a ≠ b → (TJ10 a).2.1 ≠ (TJ10 b).2.1 := by decide +kernel
theorem tyJ10_ok : ∀ k, k < 0 → parseFieldDescriptor (TJ10 k).2.2.1 = some (tyJ10 k) := by decide +kernel
def RJxfd54e : String := "java/lang/constant/Constable"
def TJxfd54e : u_T := fun k => match k with
  | _ => ("", "", "", false)
def tyJxfd54e : Nat → FieldType := fun k => match k with
  | _ => .int
abbrev wsJxfd54e0 : List Cond := u_ws RJxfd54e TJxfd54e 0
theorem nmJxfd54e : ∀ a, a < 0 → ∀ b, b < 0 → a ≠ b → (TJxfd54e a).2.1 ≠ (TJxfd54e b).2.1 := by decide +kernel
theorem tyJxfd54e_ok : ∀ k, k < 0 → parseFieldDescriptor (TJxfd54e k).2.2.1 = some (tyJxfd54e k) := by decide +kernel
def RJx3cf43 : String := "java/lang/constant/ConstantDesc"
def TJx3cf43 : u_T := fun k => match k with
  | _ => ("", "", "", false)
def tyJx3cf43 : Nat → FieldType := fun k => match k with
  | _ => .int
abbrev wsJx3cf430 : List Cond := u_ws RJx3cf43 TJx3cf43 0
theorem nmJx3cf43 : ∀ a, a < 0 → ∀ b, b < 0 → a ≠ b → (TJx3cf43 a).2.1 ≠ (TJx3cf43 b).2.1 := by decide +kernel
theorem tyJx3cf43_ok : ∀ k, k < 0 → parseFieldDescriptor (TJx3cf43 k).2.2.1 = some (tyJx3cf43 k) := by decide +kernel
def RJ7 : String := "java/util/Arrays"
def TJ7 : u_T := fun k => match k with
  | _ => ("", "", "", false)
def tyJ7 : Nat → FieldType := fun k => match k with
  | _ => .int
abbrev wsJ70 : List Cond := u_ws RJ7 TJ7 0
theorem nmJ7 : ∀ a, a < 0 → ∀ b, b < 0 → a ≠ b → (TJ7 a).2.1 ≠ (TJ7 b).2.1 := by decide +kernel
theorem tyJ7_ok : ∀ k, k < 0 → parseFieldDescriptor (TJ7 k).2.2.1 = some (tyJ7 k) := by decide +kernel
abbrev cJ7_fill_53178 : ByteArray := prog_22_method_103_code
def yJ7_fill_53178 : MethodName := ⟨RJ7, "fill", "([II)V"⟩
def RJ3 : String := "jdk/internal/util/Preconditions"
def TJ3 : u_T := fun k => match k with
  | _ => ("", "", "", false)
def tyJ3 : Nat → FieldType := fun k => match k with
  | _ => .int
abbrev wsJ30 : List Cond := u_ws RJ3 TJ3 0
theorem nmJ3 : ∀ a, a < 0 → ∀ b, b < 0 → a ≠ b → (TJ3 a).2.1 ≠ (TJ3 b).2.1 := by decide +kernel
theorem tyJ3_ok : ∀ k, k < 0 → parseFieldDescriptor (TJ3 k).2.2.1 = some (tyJ3 k) := by decide +kernel
abbrev cJ3_checkIndex_8e157 : ByteArray := prog_23_method_11_code
def yJ3_checkIndex_8e157 : MethodName := ⟨RJ3, "checkIndex", "(IILjava/util/function/BiFunction;)I"⟩
abbrev cJ3_checkFromToIndex_8c36e : ByteArray := prog_23_method_12_code
def yJ3_checkFromToIndex_8c36e : MethodName := ⟨RJ3, "checkFromToIndex", "(IIILjava/util/function/BiFunction;)I"⟩
def RL : String := "SevenUnsaidLaw"
abbrev cL_law : ByteArray := code
def yL_law : MethodName := ⟨RL, "law", "([I)Z"⟩
def wsL_law_r1 : List Cond := [Cond.classLink RL 7 RX11, Cond.instantiable RX11 9, Cond.initialized RX11, Cond.classLink RL 10 RX12, Cond.instantiable RX12 31, Cond.initialized RX12, Cond.methodLink RL 9 yX11_init, Cond.instanceMethod yX11_init, Cond.code yX11_init cX11_init 1 none, Cond.methodLink RX11 1 objectInit, Cond.instanceMethod objectInit, Cond.code objectInit ⟨#[0xb1]⟩ 1 none, Cond.classLink RX11 7 RX5, Cond.instantiable RX5 6, Cond.initialized RX5, Cond.fieldLink RX11 10 "SevenUnsaid" "now" "LSevenUnsaid$Round;", Cond.fieldLink RX11 16 "SevenUnsaid" "kept" "LSevenUnsaid$Round;", Cond.classLink RX11 19 RX2, Cond.instantiable RX2 6, Cond.initialized RX2, Cond.fieldLink RX11 22 "SevenUnsaid" "history" "LSevenUnsaid$History;", Cond.classLink RX11 26 RX10, Cond.instantiable RX10 11, Cond.initialized RX10]
def wsL_law_r2 : List Cond := [Cond.fieldLink RX11 29 "SevenUnsaid" "thought" "LSevenUnsaid$Thought;", Cond.classLink RX11 33 RX7, Cond.instantiable RX7 5, Cond.initialized RX7, Cond.fieldLink RX11 36 "SevenUnsaid" "seats" "LSevenUnsaid$Seating;", Cond.classLink RX11 40 RX4, Cond.instantiable RX4 9, Cond.initialized RX4, Cond.fieldLink RX11 43 "SevenUnsaid" "lawMaker" "LSevenUnsaid$LawMaker;", Cond.fieldLink RX11 47 "SevenUnsaid" "faultPlace" "I", Cond.instanceMethod yX5_init, Cond.code yX5_init cX5_init 1 none, Cond.methodLink RX5 3 objectInit, Cond.classLink RX5 9 RX8, Cond.instantiable RX8 5, Cond.initialized RX8, Cond.fieldLink RX5 12 "SevenUnsaid$Round" "table" "LSevenUnsaid$Table;", Cond.classLink RX5 18 RX6, Cond.instantiable RX6 7, Cond.initialized RX6, Cond.fieldLink RX5 21 "SevenUnsaid$Round" "rules" "LSevenUnsaid$Rules;", Cond.classLink RX5 25 RX1, Cond.instantiable RX1 8, Cond.initialized RX1]
def wsL_law_r3 : List Cond := [Cond.fieldLink RX5 28 "SevenUnsaid$Round" "count" "LSevenUnsaid$Count;", Cond.classLink RX5 32 RX0, Cond.instantiable RX0 5, Cond.initialized RX0, Cond.fieldLink RX5 35 "SevenUnsaid$Round" "book" "LSevenUnsaid$Book;", Cond.classLink RX5 39 RX3, Cond.instantiable RX3 7, Cond.initialized RX3, Cond.fieldLink RX5 42 "SevenUnsaid$Round" "law" "LSevenUnsaid$Law;", Cond.instanceMethod yX8_init, Cond.code yX8_init cX8_init 1 none, Cond.methodLink RX8 3 objectInit, Cond.arrayClass .int, Cond.fieldLink RX8 9 "SevenUnsaid$Table" "weak" "[I", Cond.fieldLink RX8 15 "SevenUnsaid$Table" "glasses" "[I", Cond.fieldLink RX8 18 "SevenUnsaid$Table" "seat" "[I", Cond.fieldLink RX8 21 "SevenUnsaid$Table" "onSeat" "[I", Cond.instanceMethod yX6_init, Cond.code yX6_init cX6_init 1 none, Cond.methodLink RX6 3 objectInit, Cond.fieldLink RX6 9 "SevenUnsaid$Rules" "sort" "[I", Cond.fieldLink RX6 15 "SevenUnsaid$Rules" "number" "[I", Cond.fieldLink RX6 18 "SevenUnsaid$Rules" "turn" "[I", Cond.instanceMethod yX1_init]
def wsL_law_r4 : List Cond := [Cond.code yX1_init cX1_init 1 none, Cond.methodLink RX1 3 objectInit, Cond.fieldLink RX1 9 "SevenUnsaid$Count" "next" "I", Cond.fieldLink RX1 15 "SevenUnsaid$Count" "way" "I", Cond.fieldLink RX1 18 "SevenUnsaid$Count" "last" "I", Cond.instanceMethod yX0_init, Cond.code yX0_init cX0_init 1 none, Cond.methodLink RX0 3 objectInit, Cond.fieldLink RX0 9 "SevenUnsaid$Book" "number" "[I", Cond.fieldLink RX0 15 "SevenUnsaid$Book" "erred" "[I", Cond.fieldLink RX0 18 "SevenUnsaid$Book" "ahead" "[I", Cond.fieldLink RX0 21 "SevenUnsaid$Book" "glasses" "[I", Cond.instanceMethod yX3_init, Cond.code yX3_init cX3_init 1 none, Cond.methodLink RX3 3 objectInit, Cond.fieldLink RX3 9 "SevenUnsaid$Law" "code" "[I", Cond.fieldLink RX3 15 "SevenUnsaid$Law" "facts" "[I", Cond.fieldLink RX3 18 "SevenUnsaid$Law" "stack" "[I", Cond.methodLink RX11 21 yX2_init, Cond.instanceMethod yX2_init, Cond.code yX2_init cX2_init 2 none, Cond.methodLink RX2 3 objectInit, Cond.classLink RX2 9 RX1, Cond.fieldLink RX2 11 "SevenUnsaid$History" "counts" "[LSevenUnsaid$Count;"]
def wsL_law_r5 : List Cond := [Cond.fieldLink RX2 17 "SevenUnsaid$History" "persons" "[I", Cond.fieldLink RX2 21 "SevenUnsaid$History" "glasses" "[I", Cond.fieldLink RX2 24 "SevenUnsaid$History" "lines" "[I", Cond.instanceMethod yX10_init, Cond.code yX10_init cX10_init 1 none, Cond.methodLink RX10 5 objectInit, Cond.fieldLink RX10 11 "SevenUnsaid$Thought" "hard" "I", Cond.fieldLink RX10 15 "SevenUnsaid$Thought" "begins" "I", Cond.classLink RX10 18 RX1, Cond.fieldLink RX10 21 "SevenUnsaid$Thought" "here" "LSevenUnsaid$Count;", Cond.classLink RX10 25 RX6, Cond.fieldLink RX10 28 "SevenUnsaid$Thought" "more" "LSevenUnsaid$Rules;", Cond.fieldLink RX10 32 "SevenUnsaid$Thought" "wordsOn" "[I", Cond.fieldLink RX10 36 "SevenUnsaid$Thought" "taken" "[I", Cond.instanceMethod yX7_init, Cond.code yX7_init cX7_init 1 none, Cond.methodLink RX7 3 objectInit, Cond.fieldLink RX7 9 "SevenUnsaid$Seating" "seatAt" "[I", Cond.fieldLink RX7 15 "SevenUnsaid$Seating" "odds" "[I", Cond.fieldLink RX7 18 "SevenUnsaid$Seating" "order" "[I", Cond.fieldLink RX7 21 "SevenUnsaid$Seating" "best" "[I", Cond.instanceMethod yX4_init, Cond.code yX4_init cX4_init 1 none, Cond.methodLink RX4 3 objectInit]
def wsL_law_r6 : List Cond := [Cond.classLink RX4 9 RX9, Cond.instantiable RX9 6, Cond.initialized RX9, Cond.fieldLink RX4 12 "SevenUnsaid$LawMaker" "tape" "LSevenUnsaid$Tape;", Cond.classLink RX4 18 RX3, Cond.fieldLink RX4 21 "SevenUnsaid$LawMaker" "law" "LSevenUnsaid$Law;", Cond.fieldLink RX4 25 "SevenUnsaid$LawMaker" "waiting" "[I", Cond.instanceMethod yX9_init, Cond.code yX9_init cX9_init 1 none, Cond.methodLink RX9 3 objectInit, Cond.fieldLink RX9 9 "SevenUnsaid$Tape" "kind" "I", Cond.arrayClass .byte, Cond.fieldLink RX9 15 "SevenUnsaid$Tape" "bytes" "[B", Cond.methodLink RL 12 yX12_init, Cond.instanceMethod yX12_init, Cond.code yX12_init cX12_init 1 none, Cond.methodLink RX12 1 objectInit, Cond.fieldLink RX12 7 "SevenUnsaidModel" "w" "[I", Cond.fieldLink RX12 13 "SevenUnsaidModel" "kept" "[I", Cond.fieldLink RX12 16 "SevenUnsaidModel" "back" "[I", Cond.fieldLink RX12 19 "SevenUnsaidModel" "freshLine" "[I", Cond.fieldLink RX12 22 "SevenUnsaidModel" "freshStep" "[I", Cond.fieldLink RX12 25 "SevenUnsaidModel" "tape" "[I", Cond.fieldLink RX12 28 "SevenUnsaidModel" "pile" "[I"]
def wsL_law_r7 : List Cond := [Cond.fieldLink RX12 31 "SevenUnsaidModel" "facts" "[I", Cond.fieldLink RX12 34 "SevenUnsaidModel" "faultPlace" "I", Cond.fieldLink RX12 38 "SevenUnsaidModel" "wordsTo" "[I", Cond.fieldLink RX12 41 "SevenUnsaidModel" "seats" "[I", Cond.fieldLink RX12 44 "SevenUnsaidModel" "bestSeats" "[I", Cond.methodLink RL 13 yX11_state, Cond.instanceMethod yX11_state, Cond.selects RX11 yX11_state yX11_state, Cond.code yX11_state cX11_state 3 (some .int), Cond.fieldLink RX11 51 "SevenUnsaid$Round" "count" "LSevenUnsaid$Count;", Cond.fieldLink RX11 55 "SevenUnsaid$Count" "state" "I", Cond.methodLink RX11 60 yX2_forget, Cond.instanceMethod yX2_forget, Cond.selects RX2 yX2_forget yX2_forget, Cond.code yX2_forget cX2_forget 1 none, Cond.fieldLink RX2 28 "SevenUnsaid$History" "size" "I", Cond.methodLink RL 17 yX12_state, Cond.instanceMethod yX12_state, Cond.selects RX12 yX12_state yX12_state, Cond.code yX12_state cX12_state 3 (some .int), Cond.methodLink RX12 54 yX12_forgets, Cond.instanceMethod yX12_forgets, Cond.selects RX12 yX12_forgets yX12_forgets, Cond.code yX12_forgets cX12_forgets 1 none]
def wsL_law_r8 : List Cond := [Cond.fieldLink RX12 51 "SevenUnsaidModel" "backMany" "I", Cond.methodLink RL 18 yX11_person, Cond.instanceMethod yX11_person, Cond.selects RX11 yX11_person yX11_person, Cond.code yX11_person cX11_person 2 (some .int), Cond.fieldLink RX11 63 "SevenUnsaid$Round" "table" "LSevenUnsaid$Table;", Cond.fieldLink RX11 67 "SevenUnsaid$Table" "people" "I", Cond.methodLink RX11 72 yX8_join, Cond.instanceMethod yX8_join, Cond.selects RX8 yX8_join yX8_join, Cond.code yX8_join cX8_join 3 (some .int), Cond.fieldLink RX8 24 "SevenUnsaid$Table" "people" "I", Cond.methodLink RL 21 yX12_person, Cond.instanceMethod yX12_person, Cond.selects RX12 yX12_person yX12_person, Cond.code yX12_person cX12_person 3 (some .int), Cond.methodLink RX12 47 yX12_isIn, Cond.static yX12_isIn, Cond.code yX12_isIn cX12_isIn 3 (some .boolean), Cond.methodLink RL 22 yX11_rule, Cond.instanceMethod yX11_rule, Cond.selects RX11 yX11_rule yX11_rule, Cond.code yX11_rule cX11_rule 4 (some .int), Cond.fieldLink RX11 80 "SevenUnsaid$Round" "rules" "LSevenUnsaid$Rules;"]
def wsL_law_r9 : List Cond := [Cond.fieldLink RX11 84 "SevenUnsaid$Rules" "size" "I", Cond.methodLink RX11 76 yX11_canBeRule, Cond.static yX11_canBeRule, Cond.code yX11_canBeRule cX11_canBeRule 3 (some .boolean), Cond.methodLink RX11 89 yX6_append, Cond.instanceMethod yX6_append, Cond.selects RX6 yX6_append yX6_append, Cond.code yX6_append cX6_append 6 (some .int), Cond.fieldLink RX6 21 "SevenUnsaid$Rules" "size" "I", Cond.fieldLink RX6 31 "SevenUnsaid$Rules" "on" "I", Cond.fieldLink RX6 34 "SevenUnsaid$Rules" "turning" "I", Cond.fieldLink RX6 37 "SevenUnsaid$Rules" "skipping" "I", Cond.methodLink RL 26 yX12_rule, Cond.instanceMethod yX12_rule, Cond.selects RX12 yX12_rule yX12_rule, Cond.code yX12_rule cX12_rule 4 (some .int), Cond.methodLink RX12 63 yX12_canRule, Cond.static yX12_canRule, Cond.code yX12_canRule cX12_canRule 3 (some .boolean), Cond.methodLink RX12 66 yX12_rules, Cond.instanceMethod yX12_rules, Cond.selects RX12 yX12_rules yX12_rules, Cond.code yX12_rules cX12_rules 5 none, Cond.methodLink RX12 59 yX12_gives]
def wsL_law_r10 : List Cond := [Cond.instanceMethod yX12_gives, Cond.selects RX12 yX12_gives yX12_gives, Cond.code yX12_gives cX12_gives 4 none, Cond.methodLink RL 27 yX11_set, Cond.instanceMethod yX11_set, Cond.selects RX11 yX11_set yX11_set, Cond.code yX11_set cX11_set 5 (some .boolean), Cond.methodLink RX11 93 yX11_tell, Cond.instanceMethod yX11_tell, Cond.selects RX11 yX11_tell yX11_tell, Cond.code yX11_tell cX11_tell 4 (some .boolean), Cond.methodLink RX11 297 yX11_tellPace, Cond.instanceMethod yX11_tellPace, Cond.selects RX11 yX11_tellPace yX11_tellPace, Cond.code yX11_tellPace cX11_tellPace 2 (some .boolean), Cond.fieldLink RX11 286 "SevenUnsaid$Round" "pace" "I", Cond.methodLink RX11 300 yX6_switchTo, Cond.instanceMethod yX6_switchTo, Cond.selects RX6 yX6_switchTo yX6_switchTo, Cond.code yX6_switchTo cX6_switchTo 3 (some .boolean), Cond.methodLink RX6 40 yX6_isThere, Cond.instanceMethod yX6_isThere, Cond.selects RX6 yX6_isThere yX6_isThere, Cond.code yX6_isThere cX6_isThere 2 (some .boolean)]
def wsL_law_r11 : List Cond := [Cond.methodLink RX11 303 yX8_weaken, Cond.instanceMethod yX8_weaken, Cond.selects RX8 yX8_weaken yX8_weaken, Cond.code yX8_weaken cX8_weaken 3 (some .boolean), Cond.methodLink RX8 34 yX8_isThere, Cond.instanceMethod yX8_isThere, Cond.selects RX8 yX8_isThere yX8_isThere, Cond.code yX8_isThere cX8_isThere 2 (some .boolean), Cond.methodLink RX11 306 yX8_fill, Cond.instanceMethod yX8_fill, Cond.selects RX8 yX8_fill yX8_fill, Cond.code yX8_fill cX8_fill 3 (some .boolean), Cond.methodLink RX11 309 yX11_tellNext, Cond.instanceMethod yX11_tellNext, Cond.selects RX11 yX11_tellNext yX11_tellNext, Cond.code yX11_tellNext cX11_tellNext 2 (some .boolean), Cond.fieldLink RX11 146 "SevenUnsaid$Count" "next" "I", Cond.methodLink RX11 181 yX11_isNumber, Cond.static yX11_isNumber, Cond.code yX11_isNumber cX11_isNumber 1 (some .boolean), Cond.methodLink RX11 312 yX11_tellAt, Cond.instanceMethod yX11_tellAt, Cond.selects RX11 yX11_tellAt yX11_tellAt, Cond.code yX11_tellAt cX11_tellAt 2 (some .boolean)]
def wsL_law_r12 : List Cond := [Cond.fieldLink RX11 277 "SevenUnsaid$Count" "at" "I", Cond.methodLink RL 31 yX12_set, Cond.instanceMethod yX12_set, Cond.selects RX12 yX12_set yX12_set, Cond.code yX12_set cX12_set 4 (some .boolean), Cond.methodLink RX12 70 yX12_isRule, Cond.instanceMethod yX12_isRule, Cond.selects RX12 yX12_isRule yX12_isRule, Cond.code yX12_isRule cX12_isRule 2 (some .boolean), Cond.methodLink RX12 74 yX12_isPerson, Cond.instanceMethod yX12_isPerson, Cond.selects RX12 yX12_isPerson yX12_isPerson, Cond.code yX12_isPerson cX12_isPerson 2 (some .boolean), Cond.methodLink RL 32 yX11_change, Cond.instanceMethod yX11_change, Cond.selects RX11 yX11_change yX11_change, Cond.code yX11_change cX11_change 3 (some .boolean), Cond.methodLink RX11 96 yX8_isThere, Cond.methodLink RX11 100 yX8_swap, Cond.instanceMethod yX8_swap, Cond.selects RX8 yX8_swap yX8_swap, Cond.code yX8_swap cX8_swap 5 none, Cond.methodLink RX8 38 yX8_seatOf, Cond.instanceMethod yX8_seatOf]
def wsL_law_r13 : List Cond := [Cond.selects RX8 yX8_seatOf yX8_seatOf, Cond.code yX8_seatOf cX8_seatOf 2 (some .int), Cond.methodLink RL 36 yX12_change, Cond.instanceMethod yX12_change, Cond.selects RX12 yX12_change yX12_change, Cond.code yX12_change cX12_change 4 (some .boolean), Cond.methodLink RL 37 yX11_feed, Cond.instanceMethod yX11_feed, Cond.selects RX11 yX11_feed yX11_feed, Cond.code yX11_feed cX11_feed 7 (some .int), Cond.fieldLink RX11 104 "SevenUnsaid$LawMaker" "tape" "LSevenUnsaid$Tape;", Cond.fieldLink RX11 108 "SevenUnsaid$Tape" "size" "I", Cond.methodLink RX11 111 yX9_put, Cond.instanceMethod yX9_put, Cond.selects RX9 yX9_put yX9_put, Cond.code yX9_put cX9_put 3 none, Cond.fieldLink RX9 19 "SevenUnsaid$Tape" "size" "I", Cond.methodLink RL 41 yX12_feed, Cond.instanceMethod yX12_feed, Cond.selects RX12 yX12_feed yX12_feed, Cond.code yX12_feed cX12_feed 8 (some .int), Cond.fieldLink RX12 77 "SevenUnsaidModel" "taped" "I", Cond.methodLink RL 42 yX11_end, Cond.instanceMethod yX11_end]
def wsL_law_r14 : List Cond := [Cond.selects RX11 yX11_end yX11_end, Cond.code yX11_end cX11_end 2 (some .boolean), Cond.methodLink RX11 115 yX9_cut, Cond.instanceMethod yX9_cut, Cond.selects RX9 yX9_cut yX9_cut, Cond.code yX9_cut cX9_cut 2 (some .boolean), Cond.methodLink RL 46 yX12_end, Cond.instanceMethod yX12_end, Cond.selects RX12 yX12_end yX12_end, Cond.code yX12_end cX12_end 2 (some .boolean), Cond.methodLink RL 47 yX11_text, Cond.instanceMethod yX11_text, Cond.selects RX11 yX11_text yX11_text, Cond.code yX11_text cX11_text 1 (some .int), Cond.fieldLink RX11 122 "SevenUnsaid" "faultKind" "I", Cond.fieldLink RX11 125 "SevenUnsaid$Tape" "start" "I", Cond.fieldLink RX11 128 "SevenUnsaid$Round" "law" "LSevenUnsaid$Law;", Cond.fieldLink RX11 132 "SevenUnsaid$LawMaker" "law" "LSevenUnsaid$Law;", Cond.fieldLink RX11 139 "SevenUnsaid$Law" "lines" "I", Cond.methodLink RX11 118 yX4_compile, Cond.instanceMethod yX4_compile, Cond.selects RX4 yX4_compile yX4_compile, Cond.code yX4_compile cX4_compile 3 (some .int), Cond.fieldLink RX4 35 "SevenUnsaid$Tape" "kind" "I"]
def wsL_law_r15 : List Cond := [Cond.fieldLink RX4 39 "SevenUnsaid$LawMaker" "want" "I", Cond.methodLink RX4 29 yX4_begin, Cond.instanceMethod yX4_begin, Cond.selects RX4 yX4_begin yX4_begin, Cond.code yX4_begin cX4_begin 1 none, Cond.fieldLink RX4 52 "SevenUnsaid$LawMaker" "side" "I", Cond.fieldLink RX4 55 "SevenUnsaid$LawMaker" "conditional" "Z", Cond.fieldLink RX4 59 "SevenUnsaid$LawMaker" "brackets" "I", Cond.fieldLink RX4 62 "SevenUnsaid$LawMaker" "open" "I", Cond.fieldLink RX4 65 "SevenUnsaid$LawMaker" "waits" "I", Cond.methodLink RX4 46 yX9_rewind, Cond.instanceMethod yX9_rewind, Cond.selects RX9 yX9_rewind yX9_rewind, Cond.code yX9_rewind cX9_rewind 1 none, Cond.fieldLink RX9 22 "SevenUnsaid$Tape" "at" "I", Cond.methodLink RX4 49 yX3_clear, Cond.instanceMethod yX3_clear, Cond.selects RX3 yX3_clear yX3_clear, Cond.code yX3_clear cX3_clear 1 none, Cond.fieldLink RX3 21 "SevenUnsaid$Law" "lines" "I", Cond.fieldLink RX3 25 "SevenUnsaid$Law" "asksRun" "Z", Cond.fieldLink RX3 29 "SevenUnsaid$Law" "size" "I", Cond.methodLink RX4 32 yX9_advance, Cond.instanceMethod yX9_advance]
def wsL_law_r16 : List Cond := [Cond.selects RX9 yX9_advance yX9_advance, Cond.code yX9_advance cX9_advance 2 none, Cond.fieldLink RX9 33 "SevenUnsaid$Tape" "start" "I", Cond.methodLink RX9 25 yX9_sign, Cond.instanceMethod yX9_sign, Cond.selects RX9 yX9_sign yX9_sign, Cond.code yX9_sign cX9_sign 2 (some .int), Cond.methodLink RX9 29 yX9_isBlank, Cond.static yX9_isBlank, Cond.code yX9_isBlank cX9_isBlank 1 (some .boolean), Cond.methodLink RX9 36 yX9_isLetter, Cond.static yX9_isLetter, Cond.code yX9_isLetter cX9_isLetter 1 (some .boolean), Cond.methodLink RX9 39 yX9_readWord, Cond.instanceMethod yX9_readWord, Cond.selects RX9 yX9_readWord yX9_readWord, Cond.code yX9_readWord cX9_readWord 1 none, Cond.methodLink RX9 55 yX9_keyword, Cond.instanceMethod yX9_keyword, Cond.selects RX9 yX9_keyword yX9_keyword, Cond.code yX9_keyword cX9_keyword 1 (some .int), Cond.methodLink RX9 64 yX9_spells, Cond.instanceMethod yX9_spells, Cond.selects RX9 yX9_spells yX9_spells]
def wsL_law_r17 : List Cond := [Cond.code yX9_spells cX9_spells 3 (some .boolean), Cond.methodLink RX9 90 yJ0_length_8abf5, Cond.instanceMethod yJ0_length_8abf5, Cond.selects RJ0 yJ0_length_8abf5 yJ0_length_8abf5, Cond.initialized RJ0, Cond.code yJ0_length_8abf5 cJ0_length_8abf5 1 (some .int), Cond.fieldLink RJ0 9 "java/lang/String" "value" "[B", Cond.methodLink RJ0 335 yJ0_coder_7d493, Cond.instanceMethod yJ0_coder_7d493, Cond.selects RJ0 yJ0_coder_7d493 yJ0_coder_7d493, Cond.code yJ0_coder_7d493 cJ0_coder_7d493 1 (some .byte), Cond.fieldLink RJ0 38 "java/lang/String" "COMPACT_STRINGS" "Z", Cond.fieldLink RJ0 15 "java/lang/String" "coder" "B", Cond.methodLink RX9 93 yJ0_charAt_5068e, Cond.instanceMethod yJ0_charAt_5068e, Cond.selects RJ0 yJ0_charAt_5068e yJ0_charAt_5068e, Cond.code yJ0_charAt_5068e cJ0_charAt_5068e 2 (some .char), Cond.methodLink RJ0 492 yJ0_isLatin1_aae02, Cond.instanceMethod yJ0_isLatin1_aae02, Cond.selects RJ0 yJ0_isLatin1_aae02 yJ0_isLatin1_aae02, Cond.code yJ0_isLatin1_aae02 cJ0_isLatin1_aae02 1 (some .boolean), Cond.methodLink RJ0 495 yJ1_charAt_3b067, Cond.static yJ1_charAt_3b067, Cond.initialized RJ1]
def wsL_law_r18 : List Cond := [Cond.code yJ1_charAt_3b067 cJ1_charAt_3b067 2 (some .char), Cond.methodLink RJ1 9 yJ0_checkIndex_df160, Cond.static yJ0_checkIndex_df160, Cond.code yJ0_checkIndex_df160 cJ0_checkIndex_df160 2 none, Cond.fieldLink RJ0 1053 "jdk/internal/util/Preconditions" "SIOOBE_FORMATTER" "Ljava/util/function/BiFunction;", Cond.methodLink RJ0 1059 yJ3_checkIndex_8e157, Cond.static yJ3_checkIndex_8e157, Cond.initialized RJ3, Cond.code yJ3_checkIndex_8e157 cJ3_checkIndex_8e157 3 (some .int), Cond.methodLink RJ0 498 yJ2_charAt_3b067, Cond.static yJ2_charAt_3b067, Cond.initialized RJ2, Cond.code yJ2_charAt_3b067 cJ2_charAt_3b067 2 (some .char), Cond.methodLink RJ2 67 yJ2_checkIndex_2214a, Cond.static yJ2_checkIndex_2214a, Cond.code yJ2_checkIndex_2214a cJ2_checkIndex_2214a 2 none, Cond.methodLink RJ2 48 yJ2_length_9d52b, Cond.static yJ2_length_9d52b, Cond.code yJ2_length_9d52b cJ2_length_9d52b 1 (some .int), Cond.methodLink RJ2 414 yJ0_checkIndex_df160, Cond.methodLink RJ2 71 yJ2_getChar_3b067, Cond.static yJ2_getChar_3b067, Cond.code yJ2_getChar_3b067 cJ2_getChar_3b067 2 (some .char), Cond.fieldLink RJ2 44 "java/lang/StringUTF16" "$assertionsDisabled" "Z"]
def wsL_law_r19 : List Cond := [Cond.fieldLink RJ2 59 "java/lang/StringUTF16" "HI_BYTE_SHIFT" "I", Cond.fieldLink RJ2 63 "java/lang/StringUTF16" "LO_BYTE_SHIFT" "I", Cond.methodLink RX9 42 yX9_isDigit, Cond.static yX9_isDigit, Cond.code yX9_isDigit cX9_isDigit 1 (some .boolean), Cond.methodLink RX9 45 yX9_readNumber, Cond.instanceMethod yX9_readNumber, Cond.selects RX9 yX9_readNumber yX9_readNumber, Cond.code yX9_readNumber cX9_readNumber 1 none, Cond.fieldLink RX9 59 "SevenUnsaid$Tape" "value" "I", Cond.methodLink RX9 50 yJ0_indexOf_0f7a4, Cond.instanceMethod yJ0_indexOf_0f7a4, Cond.selects RJ0 yJ0_indexOf_0f7a4 yJ0_indexOf_0f7a4, Cond.code yJ0_indexOf_0f7a4 cJ0_indexOf_0f7a4 2 (some .int), Cond.methodLink RJ0 633 yJ0_indexOf_7cf53, Cond.instanceMethod yJ0_indexOf_7cf53, Cond.selects RJ0 yJ0_indexOf_7cf53 yJ0_indexOf_7cf53, Cond.code yJ0_indexOf_7cf53 cJ0_indexOf_7cf53 3 (some .int), Cond.methodLink RJ0 505 yJ0_length_8abf5, Cond.methodLink RJ0 637 yJ1_indexOf_4cfef, Cond.static yJ1_indexOf_4cfef, Cond.code yJ1_indexOf_4cfef cJ1_indexOf_4cfef 4 (some .int), Cond.methodLink RJ1 92 Lib.Math.max.name, Cond.static Lib.Math.max.name]
def wsL_law_r20 : List Cond := [Cond.initialized "java/lang/Math", Cond.code Lib.Math.max.name Lib.Math.max.code 2 (some .int), Cond.methodLink RJ1 38 Lib.Math.min.name, Cond.static Lib.Math.min.name, Cond.code Lib.Math.min.name Lib.Math.min.code 2 (some .int), Cond.methodLink RJ1 88 yJ1_canEncode_9a6ad, Cond.static yJ1_canEncode_9a6ad, Cond.code yJ1_canEncode_9a6ad cJ1_canEncode_9a6ad 1 (some .boolean), Cond.methodLink RJ1 95 yJ1_indexOfChar_4cfef, Cond.static yJ1_indexOfChar_4cfef, Cond.code yJ1_indexOfChar_4cfef cJ1_indexOfChar_4cfef 6 (some .int), Cond.methodLink RJ0 640 yJ2_indexOf_4cfef, Cond.static yJ2_indexOf_4cfef, Cond.code yJ2_indexOf_4cfef cJ2_indexOf_4cfef 4 (some .int), Cond.methodLink RJ2 224 Lib.Math.max.name, Cond.methodLink RJ2 183 Lib.Math.min.name, Cond.constant RJ2 227 (65536), Cond.methodLink RJ2 228 yJ2_indexOfChar_4cfef, Cond.static yJ2_indexOfChar_4cfef, Cond.code yJ2_indexOfChar_4cfef cJ2_indexOfChar_4cfef 4 (some .int), Cond.methodLink RJ2 96 yJ2_checkBoundsBeginEnd_d044e, Cond.static yJ2_checkBoundsBeginEnd_d044e, Cond.code yJ2_checkBoundsBeginEnd_d044e cJ2_checkBoundsBeginEnd_d044e 3 none, Cond.methodLink RJ2 241 yJ0_checkBoundsBeginEnd_23922]
def wsL_law_r21 : List Cond := [Cond.static yJ0_checkBoundsBeginEnd_23922, Cond.code yJ0_checkBoundsBeginEnd_23922 cJ0_checkBoundsBeginEnd_23922 3 none, Cond.methodLink RJ0 1062 yJ3_checkFromToIndex_8c36e, Cond.static yJ3_checkFromToIndex_8c36e, Cond.code yJ3_checkFromToIndex_8c36e cJ3_checkFromToIndex_8c36e 4 (some .int), Cond.methodLink RJ2 244 yJ2_indexOfCharUnsafe_4cfef, Cond.static yJ2_indexOfCharUnsafe_4cfef, Cond.code yJ2_indexOfCharUnsafe_4cfef cJ2_indexOfCharUnsafe_4cfef 5 (some .int), Cond.methodLink RJ2 232 yJ2_indexOfSupplementary_4cfef, Cond.static yJ2_indexOfSupplementary_4cfef, Cond.code yJ2_indexOfSupplementary_4cfef cJ2_indexOfSupplementary_4cfef 7 (some .int), Cond.methodLink RJ2 164 yJ11_isValidCodePoint_9a6ad, Cond.static yJ11_isValidCodePoint_9a6ad, Cond.initialized RJ11, Cond.code yJ11_isValidCodePoint_9a6ad cJ11_isValidCodePoint_9a6ad 2 (some .boolean), Cond.methodLink RJ2 157 yJ11_highSurrogate_5068e, Cond.static yJ11_highSurrogate_5068e, Cond.code yJ11_highSurrogate_5068e cJ11_highSurrogate_5068e 1 (some .char), Cond.constant RJ11 110 (55232), Cond.methodLink RJ2 161 yJ11_lowSurrogate_5068e, Cond.static yJ11_lowSurrogate_5068e, Cond.code yJ11_lowSurrogate_5068e cJ11_lowSurrogate_5068e 1 (some .char), Cond.constant RJ11 76 (56320), Cond.methodLink RX4 42 yX4_take]
def wsL_law_r22 : List Cond := [Cond.instanceMethod yX4_take, Cond.selects RX4 yX4_take yX4_take, Cond.code yX4_take cX4_take 2 (some .int), Cond.methodLink RX4 68 yX4_takeLine, Cond.instanceMethod yX4_takeLine, Cond.selects RX4 yX4_takeLine yX4_takeLine, Cond.code yX4_takeLine cX4_takeLine 2 (some .int), Cond.fieldLink RX4 92 "SevenUnsaid$Law" "lines" "I", Cond.methodLink RX4 71 yX4_takeOpening, Cond.instanceMethod yX4_takeOpening, Cond.selects RX4 yX4_takeOpening yX4_takeOpening, Cond.code yX4_takeOpening cX4_takeOpening 2 (some .int), Cond.methodLink RX4 95 yX4_await, Cond.instanceMethod yX4_await, Cond.selects RX4 yX4_await yX4_await, Cond.code yX4_await cX4_await 2 none, Cond.methodLink RX4 74 yX4_takeUnit, Cond.instanceMethod yX4_takeUnit, Cond.selects RX4 yX4_takeUnit yX4_takeUnit, Cond.code yX4_takeUnit cX4_takeUnit 2 (some .int), Cond.fieldLink RX4 99 "SevenUnsaid$Tape" "value" "I", Cond.methodLink RX4 102 yX3_emit, Cond.instanceMethod yX3_emit, Cond.selects RX3 yX3_emit yX3_emit]
def wsL_law_r23 : List Cond := [Cond.code yX3_emit cX3_emit 2 none, Cond.methodLink RX4 77 yX4_takePart, Cond.instanceMethod yX4_takePart, Cond.selects RX4 yX4_takePart yX4_takePart, Cond.code yX4_takePart cX4_takePart 2 (some .int), Cond.methodLink RX4 80 yX4_levelOf, Cond.static yX4_levelOf, Cond.code yX4_levelOf cX4_levelOf 1 (some .int), Cond.methodLink RX4 83 yX4_takeReckoning, Cond.instanceMethod yX4_takeReckoning, Cond.selects RX4 yX4_takeReckoning yX4_takeReckoning, Cond.code yX4_takeReckoning cX4_takeReckoning 2 (some .int), Cond.methodLink RX4 105 yX4_joinBy, Cond.instanceMethod yX4_joinBy, Cond.selects RX4 yX4_joinBy yX4_joinBy, Cond.code yX4_joinBy cX4_joinBy 3 (some .int), Cond.methodLink RX4 119 yX4_joinWaiting, Cond.instanceMethod yX4_joinWaiting, Cond.selects RX4 yX4_joinWaiting yX4_joinWaiting, Cond.code yX4_joinWaiting cX4_joinWaiting 3 none, Cond.methodLink RX4 86 yX4_takeComparison, Cond.instanceMethod yX4_takeComparison, Cond.selects RX4 yX4_takeComparison yX4_takeComparison, Cond.code yX4_takeComparison cX4_takeComparison 2 (some .int)]
def wsL_law_r24 : List Cond := [Cond.methodLink RX4 89 yX4_takeJoin, Cond.instanceMethod yX4_takeJoin, Cond.selects RX4 yX4_takeJoin yX4_takeJoin, Cond.code yX4_takeJoin cX4_takeJoin 2 (some .int), Cond.methodLink RX4 109 yX4_endLine, Cond.instanceMethod yX4_endLine, Cond.selects RX4 yX4_endLine yX4_endLine, Cond.code yX4_endLine cX4_endLine 1 (some .int), Cond.methodLink RX4 113 yX4_takeWhen, Cond.instanceMethod yX4_takeWhen, Cond.selects RX4 yX4_takeWhen yX4_takeWhen, Cond.code yX4_takeWhen cX4_takeWhen 1 (some .int), Cond.methodLink RX4 116 yX4_closeBracket, Cond.instanceMethod yX4_closeBracket, Cond.selects RX4 yX4_closeBracket yX4_closeBracket, Cond.code yX4_closeBracket cX4_closeBracket 1 (some .int), Cond.methodLink RX11 133 yX3_copy, Cond.instanceMethod yX3_copy, Cond.selects RX3 yX3_copy yX3_copy, Cond.code yX3_copy cX3_copy 2 none, Cond.methodLink RX3 32 arraycopyName, Cond.native arraycopyName, Cond.static arraycopyName, Cond.initialized "java/lang/System"]
def wsL_law_r25 : List Cond := [Cond.methodLink RL 51 yX12_text, Cond.instanceMethod yX12_text, Cond.selects RX12 yX12_text yX12_text, Cond.code yX12_text cX12_text 3 (some .int), Cond.fieldLink RX12 146 "SevenUnsaidModel" "wrong" "I", Cond.fieldLink RX12 80 "SevenUnsaidModel" "at" "I", Cond.fieldLink RX12 193 "SevenUnsaidModel" "lines" "I", Cond.fieldLink RX12 158 "SevenUnsaidModel" "steps" "I", Cond.fieldLink RX12 131 "SevenUnsaidModel" "token" "I", Cond.fieldLink RX12 199 "SevenUnsaidModel" "faultKind" "I", Cond.fieldLink RX12 149 "SevenUnsaidModel" "wrongAt" "I", Cond.methodLink RX12 155 yX12_next0, Cond.instanceMethod yX12_next0, Cond.selects RX12 yX12_next0 yX12_next0, Cond.code yX12_next0 cX12_next0 3 none, Cond.fieldLink RX12 83 "SevenUnsaidModel" "tokenAt" "I", Cond.fieldLink RX12 143 "SevenUnsaidModel" "value" "I", Cond.methodLink RX12 127 yX12_see, Cond.instanceMethod yX12_see, Cond.selects RX12 yX12_see yX12_see, Cond.code yX12_see cX12_see 2 (some .int), Cond.methodLink RX12 134 yX12_isLetter, Cond.static yX12_isLetter, Cond.code yX12_isLetter cX12_isLetter 1 (some .boolean)]
def wsL_law_r26 : List Cond := [Cond.methodLink RX12 137 yX12_word, Cond.instanceMethod yX12_word, Cond.selects RX12 yX12_word yX12_word, Cond.code yX12_word cX12_word 1 (some .int), Cond.methodLink RX12 98 yX12_is, Cond.instanceMethod yX12_is, Cond.selects RX12 yX12_is yX12_is, Cond.code yX12_is cX12_is 4 (some .boolean), Cond.methodLink RX12 86 yJ0_length_8abf5, Cond.methodLink RX12 92 yJ0_charAt_5068e, Cond.methodLink RX12 124 yX12_nameWord, Cond.instanceMethod yX12_nameWord, Cond.selects RX12 yX12_nameWord yX12_nameWord, Cond.code yX12_nameWord cX12_nameWord 1 (some .int), Cond.methodLink RX12 140 yX12_isDigit, Cond.static yX12_isDigit, Cond.code yX12_isDigit cX12_isDigit 1 (some .boolean), Cond.methodLink RX12 196 yX12_aLine, Cond.instanceMethod yX12_aLine, Cond.selects RX12 yX12_aLine yX12_aLine, Cond.code yX12_aLine cX12_aLine 1 (some .boolean), Cond.fieldLink RX12 161 "SevenUnsaidModel" "depth" "I", Cond.methodLink RX12 152 yX12_bad, Cond.instanceMethod yX12_bad]
def wsL_law_r27 : List Cond := [Cond.selects RX12 yX12_bad yX12_bad, Cond.code yX12_bad cX12_bad 2 (some .boolean), Cond.methodLink RX12 190 yX12_sumUp, Cond.instanceMethod yX12_sumUp, Cond.selects RX12 yX12_sumUp yX12_sumUp, Cond.code yX12_sumUp cX12_sumUp 2 (some .boolean), Cond.methodLink RX12 164 yX12_product, Cond.instanceMethod yX12_product, Cond.selects RX12 yX12_product yX12_product, Cond.code yX12_product cX12_product 3 (some .boolean), Cond.methodLink RX12 172 yX12_unit, Cond.instanceMethod yX12_unit, Cond.selects RX12 yX12_unit yX12_unit, Cond.code yX12_unit cX12_unit 2 (some .boolean), Cond.methodLink RX12 168 yX12_lay, Cond.instanceMethod yX12_lay, Cond.selects RX12 yX12_lay yX12_lay, Cond.code yX12_lay cX12_lay 3 none, Cond.methodLink RX12 184 yX12_any, Cond.instanceMethod yX12_any, Cond.selects RX12 yX12_any yX12_any, Cond.code yX12_any cX12_any 1 (some .boolean), Cond.methodLink RX12 175 yX12_every, Cond.instanceMethod yX12_every]
def wsL_law_r28 : List Cond := [Cond.selects RX12 yX12_every yX12_every, Cond.code yX12_every cX12_every 1 (some .boolean), Cond.methodLink RX12 178 yX12_oneTest, Cond.instanceMethod yX12_oneTest, Cond.selects RX12 yX12_oneTest yX12_oneTest, Cond.code yX12_oneTest cX12_oneTest 2 (some .boolean), Cond.methodLink RX12 181 yX12_opens, Cond.instanceMethod yX12_opens, Cond.selects RX12 yX12_opens yX12_opens, Cond.code yX12_opens cX12_opens 1 (some .boolean), Cond.methodLink RX12 187 yX12_need, Cond.instanceMethod yX12_need, Cond.selects RX12 yX12_need yX12_need, Cond.code yX12_need cX12_need 2 (some .boolean), Cond.methodLink RL 52 yX11_fault, Cond.instanceMethod yX11_fault, Cond.selects RX11 yX11_fault yX11_fault, Cond.code yX11_fault cX11_fault 2 (some .int), Cond.methodLink RL 55 yX12_fault, Cond.instanceMethod yX12_fault, Cond.selects RX12 yX12_fault yX12_fault, Cond.code yX12_fault cX12_fault 2 (some .int), Cond.methodLink RL 56 yX11_play, Cond.instanceMethod yX11_play]
def wsL_law_r29 : List Cond := [Cond.selects RX11 yX11_play yX11_play, Cond.code yX11_play cX11_play 6 (some .int), Cond.methodLink RX11 142 yX5_runAhead, Cond.instanceMethod yX5_runAhead, Cond.selects RX5 yX5_runAhead yX5_runAhead, Cond.code yX5_runAhead cX5_runAhead 2 (some .int), Cond.fieldLink RX5 66 "SevenUnsaid$Law" "asksRun" "Z", Cond.fieldLink RX5 70 "SevenUnsaid$Count" "next" "I", Cond.methodLink RX5 73 yX6_runUpTo, Cond.instanceMethod yX6_runUpTo, Cond.selects RX6 yX6_runUpTo yX6_runUpTo, Cond.code yX6_runUpTo cX6_runUpTo 4 (some .int), Cond.methodLink RX6 57 yX6_mask, Cond.instanceMethod yX6_mask, Cond.selects RX6 yX6_mask yX6_mask, Cond.code yX6_mask cX6_mask 5 (some .int), Cond.methodLink RX6 44 yX6_figuresOf, Cond.static yX6_figuresOf, Cond.code yX6_figuresOf cX6_figuresOf 4 (some .int), Cond.methodLink RX6 48 yX6_holds, Cond.static yX6_holds, Cond.code yX6_holds cX6_holds 4 (some .boolean), Cond.methodLink RX11 149 yX6_mask, Cond.methodLink RX11 152 yX11_playNumber]
def wsL_law_r30 : List Cond := [Cond.instanceMethod yX11_playNumber, Cond.selects RX11 yX11_playNumber yX11_playNumber, Cond.code yX11_playNumber cX11_playNumber 6 (some .boolean), Cond.methodLink RX11 315 yX8_sitter, Cond.instanceMethod yX8_sitter, Cond.selects RX8 yX8_sitter yX8_sitter, Cond.code yX8_sitter cX8_sitter 2 (some .int), Cond.methodLink RX11 318 yX5_odds, Cond.instanceMethod yX5_odds, Cond.selects RX5 yX5_odds yX5_odds, Cond.code yX5_odds cX5_odds 5 (some .int), Cond.fieldLink RX5 82 "SevenUnsaid$Count" "turned" "I", Cond.fieldLink RX5 62 "SevenUnsaid$Round" "pace" "I", Cond.methodLink RX5 77 yJ6_bitCount_0f7a4, Cond.static yJ6_bitCount_0f7a4, Cond.initialized RJ6, Cond.code yJ6_bitCount_0f7a4 cJ6_bitCount_0f7a4 1 (some .int), Cond.constant RJ6 265 (1431655765), Cond.constant RJ6 266 (858993459), Cond.constant RJ6 267 (252645135), Cond.methodLink RX5 85 yX8_weakOf, Cond.instanceMethod yX8_weakOf, Cond.selects RX8 yX8_weakOf yX8_weakOf, Cond.code yX8_weakOf cX8_weakOf 2 (some .int)]
def wsL_law_r31 : List Cond := [Cond.methodLink RX5 88 yX8_glassesOf, Cond.instanceMethod yX8_glassesOf, Cond.selects RX8 yX8_glassesOf yX8_glassesOf, Cond.code yX8_glassesOf cX8_glassesOf 2 (some .int), Cond.methodLink RX5 91 yX3_odds, Cond.instanceMethod yX3_odds, Cond.selects RX3 yX3_odds yX3_odds, Cond.code yX3_odds cX3_odds 8 (some .int), Cond.fieldLink RX3 38 "SevenUnsaid$Law" "height" "I", Cond.methodLink RX3 45 Lib.Math.min.name, Cond.methodLink RX3 51 Lib.Math.max.name, Cond.methodLink RX3 41 yX3_firstLine, Cond.instanceMethod yX3_firstLine, Cond.selects RX3 yX3_firstLine yX3_firstLine, Cond.code yX3_firstLine cX3_firstLine 5 (some .int), Cond.methodLink RX3 54 yX3_pop, Cond.instanceMethod yX3_pop, Cond.selects RX3 yX3_pop yX3_pop, Cond.code yX3_pop cX3_pop 1 (some .int), Cond.methodLink RX3 57 yX3_work, Cond.instanceMethod yX3_work, Cond.selects RX3 yX3_work yX3_work, Cond.code yX3_work cX3_work 4 none, Cond.methodLink RX3 61 yX3_push]
def wsL_law_r32 : List Cond := [Cond.instanceMethod yX3_push, Cond.selects RX3 yX3_push yX3_push, Cond.code yX3_push cX3_push 2 none, Cond.methodLink RX3 64 yX3_joined, Cond.static yX3_joined, Cond.code yX3_joined cX3_joined 3 (some .int), Cond.methodLink RX11 322 yX2_keep, Cond.instanceMethod yX2_keep, Cond.selects RX2 yX2_keep yX2_keep, Cond.code yX2_keep cX2_keep 3 none, Cond.fieldLink RX2 32 "SevenUnsaid$History" "top" "I", Cond.fieldLink RX2 41 "SevenUnsaid$Round" "count" "LSevenUnsaid$Count;", Cond.fieldLink RX2 51 "SevenUnsaid$Round" "table" "LSevenUnsaid$Table;", Cond.fieldLink RX2 61 "SevenUnsaid$Round" "book" "LSevenUnsaid$Book;", Cond.fieldLink RX2 65 "SevenUnsaid$Book" "size" "I", Cond.methodLink RX2 68 Lib.Math.min.name, Cond.methodLink RX2 35 yJ9_floorMod_7cf53, Cond.static yJ9_floorMod_7cf53, Cond.initialized RJ9, Cond.code yJ9_floorMod_7cf53 cJ9_floorMod_7cf53 3 (some .int), Cond.methodLink RX2 47 yX1_copy, Cond.instanceMethod yX1_copy, Cond.selects RX1 yX1_copy yX1_copy, Cond.code yX1_copy cX1_copy 2 none]
def wsL_law_r33 : List Cond := [Cond.fieldLink RX1 21 "SevenUnsaid$Count" "at" "I", Cond.fieldLink RX1 24 "SevenUnsaid$Count" "turned" "I", Cond.fieldLink RX1 27 "SevenUnsaid$Count" "record" "I", Cond.fieldLink RX1 30 "SevenUnsaid$Count" "said" "I", Cond.fieldLink RX1 33 "SevenUnsaid$Count" "state" "I", Cond.methodLink RX2 55 yX8_glassesOf, Cond.methodLink RX11 325 yX1_draw, Cond.instanceMethod yX1_draw, Cond.selects RX1 yX1_draw yX1_draw, Cond.code yX1_draw cX1_draw 2 (some .int), Cond.constant RX1 54 (1664525), Cond.constant RX1 55 (1013904223), Cond.methodLink RX11 328 yX5_err, Cond.instanceMethod yX5_err, Cond.selects RX5 yX5_err yX5_err, Cond.code yX5_err cX5_err 2 none, Cond.methodLink RX5 95 Lib.Math.min.name, Cond.fieldLink RX5 105 "SevenUnsaid$Count" "last" "I", Cond.methodLink RX5 101 yX8_fill, Cond.methodLink RX5 108 yX8_allGlasses, Cond.instanceMethod yX8_allGlasses, Cond.selects RX8 yX8_allGlasses yX8_allGlasses, Cond.code yX8_allGlasses cX8_allGlasses 3 (some .int), Cond.methodLink RX5 112 yX0_write]
def wsL_law_r34 : List Cond := [Cond.instanceMethod yX0_write, Cond.selects RX0 yX0_write yX0_write, Cond.code yX0_write cX0_write 5 none, Cond.fieldLink RX0 24 "SevenUnsaid$Book" "size" "I", Cond.methodLink RX5 116 yX1_restart, Cond.instanceMethod yX1_restart, Cond.selects RX1 yX1_restart yX1_restart, Cond.code yX1_restart cX1_restart 1 none, Cond.methodLink RX11 331 yX5_say, Cond.instanceMethod yX5_say, Cond.selects RX5 yX5_say yX5_say, Cond.code yX5_say cX5_say 3 none, Cond.fieldLink RX5 119 "SevenUnsaid$Count" "record" "I", Cond.methodLink RX5 122 Lib.Math.max.name, Cond.fieldLink RX5 125 "SevenUnsaid$Count" "said" "I", Cond.fieldLink RX5 128 "SevenUnsaid$Table" "people" "I", Cond.methodLink RX5 131 yX1_goOn, Cond.instanceMethod yX1_goOn, Cond.selects RX1 yX1_goOn yX1_goOn, Cond.code yX1_goOn cX1_goOn 4 none, Cond.methodLink RX1 39 yX6_turnsIn, Cond.instanceMethod yX6_turnsIn, Cond.selects RX6 yX6_turnsIn yX6_turnsIn, Cond.code yX6_turnsIn cX6_turnsIn 2 (some .int)]
def wsL_law_r35 : List Cond := [Cond.methodLink RX6 52 yJ6_bitCount_0f7a4, Cond.methodLink RX1 45 yX6_skipsIn, Cond.instanceMethod yX6_skipsIn, Cond.selects RX6 yX6_skipsIn yX6_skipsIn, Cond.code yX6_skipsIn cX6_skipsIn 2 (some .int), Cond.methodLink RX1 48 yJ9_floorMod_7cf53, Cond.methodLink RL 59 yX12_play, Cond.instanceMethod yX12_play, Cond.selects RX12 yX12_play yX12_play, Cond.code yX12_play cX12_play 4 (some .int), Cond.methodLink RX12 267 yX12_keeps, Cond.instanceMethod yX12_keeps, Cond.selects RX12 yX12_keeps yX12_keeps, Cond.code yX12_keeps cX12_keeps 2 none, Cond.methodLink RX12 270 yX12_plays, Cond.instanceMethod yX12_plays, Cond.selects RX12 yX12_plays yX12_plays, Cond.code yX12_plays cX12_plays 4 (some .boolean), Cond.fieldLink RX12 219 "SevenUnsaidModel" "seat" "I", Cond.fieldLink RX12 217 "SevenUnsaidModel" "number" "I", Cond.fieldLink RX12 222 "SevenUnsaidModel" "way" "I", Cond.fieldLink RX12 225 "SevenUnsaidModel" "turned" "I", Cond.methodLink RX12 248 yX12_beginsNow, Cond.instanceMethod yX12_beginsNow]
def wsL_law_r36 : List Cond := [Cond.selects RX12 yX12_beginsNow yX12_beginsNow, Cond.code yX12_beginsNow cX12_beginsNow 1 none, Cond.fieldLink RX12 230 "SevenUnsaidModel" "running" "I", Cond.methodLink RX12 227 yX12_runTo, Cond.instanceMethod yX12_runTo, Cond.selects RX12 yX12_runTo yX12_runTo, Cond.code yX12_runTo cX12_runTo 4 (some .int), Cond.methodLink RX12 214 yX12_rulesOf, Cond.instanceMethod yX12_rulesOf, Cond.selects RX12 yX12_rulesOf yX12_rulesOf, Cond.code yX12_rulesOf cX12_rulesOf 4 (some .int), Cond.methodLink RX12 206 yX12_own, Cond.instanceMethod yX12_own, Cond.selects RX12 yX12_own yX12_own, Cond.code yX12_own cX12_own 3 (some .int), Cond.methodLink RX12 210 yX12_hasFigure, Cond.static yX12_hasFigure, Cond.code yX12_hasFigure cX12_hasFigure 3 (some .boolean), Cond.methodLink RX12 251 yX12_whoOn, Cond.instanceMethod yX12_whoOn, Cond.selects RX12 yX12_whoOn yX12_whoOn, Cond.code yX12_whoOn cX12_whoOn 3 (some .int), Cond.methodLink RX12 254 yX12_oddsFor, Cond.instanceMethod yX12_oddsFor]
def wsL_law_r37 : List Cond := [Cond.selects RX12 yX12_oddsFor yX12_oddsFor, Cond.code yX12_oddsFor cX12_oddsFor 3 (some .int), Cond.methodLink RX12 233 yX12_count, Cond.instanceMethod yX12_count, Cond.selects RX12 yX12_count yX12_count, Cond.code yX12_count cX12_count 5 (some .int), Cond.methodLink RX12 236 yX12_comesTo, Cond.instanceMethod yX12_comesTo, Cond.selects RX12 yX12_comesTo yX12_comesTo, Cond.code yX12_comesTo cX12_comesTo 7 (some .int), Cond.methodLink RX12 202 yX12_both, Cond.static yX12_both, Cond.code yX12_both cX12_both 3 (some .int), Cond.methodLink RX12 239 yX12_least, Cond.static yX12_least, Cond.code yX12_least cX12_least 2 (some .int), Cond.methodLink RX12 242 yX12_most, Cond.static yX12_most, Cond.code yX12_most cX12_most 2 (some .int), Cond.methodLink RX12 257 yX12_draw, Cond.instanceMethod yX12_draw, Cond.selects RX12 yX12_draw yX12_draw, Cond.code yX12_draw cX12_draw 2 (some .int), Cond.constant RX12 57 (1664525)]
def wsL_law_r38 : List Cond := [Cond.constant RX12 58 (1013904223), Cond.methodLink RX12 260 yX12_errs, Cond.instanceMethod yX12_errs, Cond.selects RX12 yX12_errs yX12_errs, Cond.code yX12_errs cX12_errs 3 none, Cond.methodLink RX12 245 yX12_glassesOfAll, Cond.instanceMethod yX12_glassesOfAll, Cond.selects RX12 yX12_glassesOfAll yX12_glassesOfAll, Cond.code yX12_glassesOfAll cX12_glassesOfAll 3 (some .int), Cond.methodLink RX12 264 yX12_goesOn, Cond.instanceMethod yX12_goesOn, Cond.selects RX12 yX12_goesOn yX12_goesOn, Cond.code yX12_goesOn cX12_goesOn 3 none, Cond.methodLink RL 60 yX11_of, Cond.instanceMethod yX11_of, Cond.selects RX11 yX11_of yX11_of, Cond.code yX11_of cX11_of 3 (some .int), Cond.methodLink RX11 156 yX8_weakOf, Cond.methodLink RX11 159 yX8_glassesOf, Cond.methodLink RX11 162 yX8_seatOf, Cond.methodLink RX11 165 yX11_oddsOfNext, Cond.instanceMethod yX11_oddsOfNext, Cond.selects RX11 yX11_oddsOfNext yX11_oddsOfNext, Cond.code yX11_oddsOfNext cX11_oddsOfNext 4 (some .int)]
def wsL_law_r39 : List Cond := [Cond.methodLink RL 64 yX12_of, Cond.instanceMethod yX12_of, Cond.selects RX12 yX12_of yX12_of, Cond.code yX12_of cX12_of 3 (some .int), Cond.methodLink RL 65 yX11_told, Cond.instanceMethod yX11_told, Cond.selects RX11 yX11_told yX11_told, Cond.code yX11_told cX11_told 3 (some .int), Cond.methodLink RX11 168 yX6_isThere, Cond.methodLink RX11 169 yX6_sortOf, Cond.instanceMethod yX6_sortOf, Cond.selects RX6 yX6_sortOf yX6_sortOf, Cond.code yX6_sortOf cX6_sortOf 2 (some .int), Cond.methodLink RX11 172 yX6_numberOf, Cond.instanceMethod yX6_numberOf, Cond.selects RX6 yX6_numberOf yX6_numberOf, Cond.code yX6_numberOf cX6_numberOf 2 (some .int), Cond.methodLink RX11 175 yX6_turnOf, Cond.instanceMethod yX6_turnOf, Cond.selects RX6 yX6_turnOf yX6_turnOf, Cond.code yX6_turnOf cX6_turnOf 2 (some .int), Cond.methodLink RX11 178 yX6_isOn, Cond.instanceMethod yX6_isOn, Cond.selects RX6 yX6_isOn yX6_isOn]
def wsL_law_r40 : List Cond := [Cond.code yX6_isOn cX6_isOn 2 (some .boolean), Cond.methodLink RL 68 yX12_told, Cond.instanceMethod yX12_told, Cond.selects RX12 yX12_told yX12_told, Cond.code yX12_told cX12_told 3 (some .int), Cond.methodLink RL 69 yX11_has, Cond.instanceMethod yX11_has, Cond.selects RX11 yX11_has yX11_has, Cond.code yX11_has cX11_has 2 (some .int), Cond.methodLink RL 72 yX12_has, Cond.instanceMethod yX12_has, Cond.selects RX12 yX12_has yX12_has, Cond.code yX12_has cX12_has 2 (some .int), Cond.methodLink RL 73 yX11_book, Cond.instanceMethod yX11_book, Cond.selects RX11 yX11_book yX11_book, Cond.code yX11_book cX11_book 3 (some .int), Cond.fieldLink RX11 184 "SevenUnsaid$Round" "book" "LSevenUnsaid$Book;", Cond.methodLink RX11 188 yX0_entry, Cond.instanceMethod yX0_entry, Cond.selects RX0 yX0_entry yX0_entry, Cond.code yX0_entry cX0_entry 3 (some .int), Cond.methodLink RL 76 yX12_book, Cond.instanceMethod yX12_book]
def wsL_law_r41 : List Cond := [Cond.selects RX12 yX12_book yX12_book, Cond.code yX12_book cX12_book 3 (some .int), Cond.methodLink RL 77 yX11_whose, Cond.instanceMethod yX11_whose, Cond.selects RX11 yX11_whose yX11_whose, Cond.code yX11_whose cX11_whose 2 (some .int), Cond.methodLink RX11 194 yX11_canComeTo, Cond.instanceMethod yX11_canComeTo, Cond.selects RX11 yX11_canComeTo yX11_canComeTo, Cond.code yX11_canComeTo cX11_canComeTo 2 (some .boolean), Cond.methodLink RX11 197 yX10_sayerOf, Cond.instanceMethod yX10_sayerOf, Cond.selects RX10 yX10_sayerOf yX10_sayerOf, Cond.code yX10_sayerOf cX10_sayerOf 4 (some .int), Cond.fieldLink RX10 39 "SevenUnsaid$Round" "count" "LSevenUnsaid$Count;", Cond.fieldLink RX10 48 "SevenUnsaid$Count" "next" "I", Cond.fieldLink RX10 51 "SevenUnsaid$Round" "rules" "LSevenUnsaid$Rules;", Cond.fieldLink RX10 58 "SevenUnsaid$Round" "table" "LSevenUnsaid$Table;", Cond.fieldLink RX10 62 "SevenUnsaid$Table" "people" "I", Cond.fieldLink RX10 71 "SevenUnsaid$Count" "at" "I", Cond.methodLink RX10 44 yX1_copy, Cond.methodLink RX10 54 yX6_mask, Cond.methodLink RX10 67 yX1_goOn, Cond.methodLink RX10 74 yX8_sitter]
def wsL_law_r42 : List Cond := [Cond.methodLink RL 80 yX12_whose, Cond.instanceMethod yX12_whose, Cond.selects RX12 yX12_whose yX12_whose, Cond.code yX12_whose cX12_whose 2 (some .int), Cond.methodLink RX12 273 yX12_canCome, Cond.instanceMethod yX12_canCome, Cond.selects RX12 yX12_canCome yX12_canCome, Cond.code yX12_canCome cX12_canCome 2 (some .boolean), Cond.methodLink RL 81 yX11_get, Cond.instanceMethod yX11_get, Cond.selects RX11 yX11_get yX11_get, Cond.code yX11_get cX11_get 2 (some .int), Cond.methodLink RX11 201 yX10_chance, Cond.instanceMethod yX10_chance, Cond.selects RX10 yX10_chance yX10_chance, Cond.code yX10_chance cX10_chance 10 (some .int), Cond.constant RX10 77 (1000000), Cond.methodLink RX10 78 yX5_runAhead, Cond.methodLink RX10 82 yX5_odds, Cond.methodLink RL 84 yX12_get, Cond.instanceMethod yX12_get, Cond.selects RX12 yX12_get yX12_get, Cond.code yX12_get cX12_get 2 (some .int), Cond.methodLink RX12 277 yX12_getsTo]
def wsL_law_r43 : List Cond := [Cond.instanceMethod yX12_getsTo, Cond.selects RX12 yX12_getsTo yX12_getsTo, Cond.code yX12_getsTo cX12_getsTo 3 (some .int), Cond.constant RX12 276 (1000000), Cond.methodLink RL 85 yX11_hardest, Cond.instanceMethod yX11_hardest, Cond.selects RX11 yX11_hardest yX11_hardest, Cond.code yX11_hardest cX11_hardest 2 (some .int), Cond.fieldLink RX11 205 "SevenUnsaid$Thought" "hard" "I", Cond.methodLink RL 88 yX12_hardest, Cond.instanceMethod yX12_hardest, Cond.selects RX12 yX12_hardest yX12_hardest, Cond.code yX12_hardest cX12_hardest 5 (some .int), Cond.methodLink RL 89 yX11_words, Cond.instanceMethod yX11_words, Cond.selects RX11 yX11_words yX11_words, Cond.code yX11_words cX11_words 3 (some .int), Cond.methodLink RX11 208 yX10_countWords, Cond.instanceMethod yX10_countWords, Cond.selects RX10 yX10_countWords yX10_countWords, Cond.code yX10_countWords cX10_countWords 5 none, Cond.methodLink RX10 93 yJ7_fill_53178, Cond.static yJ7_fill_53178, Cond.initialized RJ7]
def wsL_law_r44 : List Cond := [Cond.code yJ7_fill_53178 cJ7_fill_53178 4 none, Cond.methodLink RX10 99 yX1_goToStart, Cond.instanceMethod yX1_goToStart, Cond.selects RX1 yX1_goToStart yX1_goToStart, Cond.code yX1_goToStart cX1_goToStart 1 none, Cond.methodLink RX1 36 yX1_restart, Cond.methodLink RX11 212 yX10_wordsOf, Cond.instanceMethod yX10_wordsOf, Cond.selects RX10 yX10_wordsOf yX10_wordsOf, Cond.code yX10_wordsOf cX10_wordsOf 2 (some .int), Cond.methodLink RL 92 yX12_words, Cond.instanceMethod yX12_words, Cond.selects RX12 yX12_words yX12_words, Cond.code yX12_words cX12_words 3 (some .int), Cond.methodLink RX12 283 yX12_laysWords, Cond.instanceMethod yX12_laysWords, Cond.selects RX12 yX12_laysWords yX12_laysWords, Cond.code yX12_laysWords cX12_laysWords 3 none, Cond.methodLink RX12 280 yX12_beginsAnew, Cond.instanceMethod yX12_beginsAnew, Cond.selects RX12 yX12_beginsAnew yX12_beginsAnew, Cond.code yX12_beginsAnew cX12_beginsAnew 1 none, Cond.methodLink RL 93 yX11_sit, Cond.instanceMethod yX11_sit]
def wsL_law_r45 : List Cond := [Cond.selects RX11 yX11_sit yX11_sit, Cond.code yX11_sit cX11_sit 2 (some .int), Cond.methodLink RX11 215 yX10_bestSeat, Cond.instanceMethod yX10_bestSeat, Cond.selects RX10 yX10_bestSeat yX10_bestSeat, Cond.code yX10_bestSeat cX10_bestSeat 4 (some .int), Cond.methodLink RL 96 yX12_sit, Cond.instanceMethod yX12_sit, Cond.selects RX12 yX12_sit yX12_sit, Cond.code yX12_sit cX12_sit 4 (some .int), Cond.methodLink RL 97 yX11_plain, Cond.instanceMethod yX11_plain, Cond.selects RX11 yX11_plain yX11_plain, Cond.code yX11_plain cX11_plain 4 (some .int), Cond.fieldLink RX11 225 "SevenUnsaid$Thought" "plain" "I", Cond.fieldLink RX11 228 "SevenUnsaid$Thought" "longest" "I", Cond.fieldLink RX11 231 "SevenUnsaid$Thought" "begins" "I", Cond.methodLink RX11 218 yX11_isSpan, Cond.static yX11_isSpan, Cond.code yX11_isSpan cX11_isSpan 2 (some .boolean), Cond.methodLink RX11 221 yX10_countRuns, Cond.instanceMethod yX10_countRuns, Cond.selects RX10 yX10_countRuns yX10_countRuns, Cond.code yX10_countRuns cX10_countRuns 6 none]
def wsL_law_r46 : List Cond := [Cond.fieldLink RX10 112 "SevenUnsaid$Thought" "plain" "I", Cond.fieldLink RX10 115 "SevenUnsaid$Thought" "longest" "I", Cond.methodLink RL 100 yX12_plain, Cond.instanceMethod yX12_plain, Cond.selects RX12 yX12_plain yX12_plain, Cond.code yX12_plain cX12_plain 10 (some .int), Cond.methodLink RX12 286 yX12_isSpan, Cond.static yX12_isSpan, Cond.code yX12_isSpan cX12_isSpan 2 (some .boolean), Cond.methodLink RL 101 yX11_third, Cond.instanceMethod yX11_third, Cond.selects RX11 yX11_third yX11_third, Cond.code yX11_third cX11_third 5 (some .int), Cond.methodLink RX11 234 yX10_oneMore, Cond.instanceMethod yX10_oneMore, Cond.selects RX10 yX10_oneMore yX10_oneMore, Cond.code yX10_oneMore cX10_oneMore 5 (some (.object "SevenUnsaid$Rules")), Cond.methodLink RX10 86 yX6_copy, Cond.instanceMethod yX6_copy, Cond.selects RX6 yX6_copy yX6_copy, Cond.code yX6_copy cX6_copy 2 none, Cond.methodLink RX6 25 arraycopyName, Cond.methodLink RX10 89 yX6_append, Cond.methodLink RL 105 yX12_third]
def wsL_law_r47 : List Cond := [Cond.instanceMethod yX12_third, Cond.selects RX12 yX12_third yX12_third, Cond.code yX12_third cX12_third 6 (some .int), Cond.methodLink RL 106 yX11_fewest, Cond.instanceMethod yX11_fewest, Cond.selects RX11 yX11_fewest yX11_fewest, Cond.code yX11_fewest cX11_fewest 4 (some .int), Cond.fieldLink RX11 241 "SevenUnsaid$Thought" "left" "I", Cond.fieldLink RX11 244 "SevenUnsaid$Thought" "bestSort" "I", Cond.fieldLink RX11 247 "SevenUnsaid$Thought" "bestNumber" "I", Cond.methodLink RX11 238 yX10_tryRules, Cond.instanceMethod yX10_tryRules, Cond.selects RX10 yX10_tryRules yX10_tryRules, Cond.code yX10_tryRules cX10_tryRules 6 none, Cond.fieldLink RX10 122 "SevenUnsaid$Thought" "left" "I", Cond.fieldLink RX10 125 "SevenUnsaid$Thought" "bestSort" "I", Cond.fieldLink RX10 128 "SevenUnsaid$Thought" "bestNumber" "I", Cond.methodLink RX10 118 yX10_takeBy, Cond.instanceMethod yX10_takeBy, Cond.selects RX10 yX10_takeBy yX10_takeBy, Cond.code yX10_takeBy cX10_takeBy 4 none, Cond.methodLink RX10 131 yX6_figuresOf, Cond.methodLink RL 109 yX12_fewest, Cond.instanceMethod yX12_fewest]
def wsL_law_r48 : List Cond := [Cond.selects RX12 yX12_fewest yX12_fewest, Cond.code yX12_fewest cX12_fewest 11 (some .int), Cond.methodLink RX12 289 yX12_plainWith, Cond.instanceMethod yX12_plainWith, Cond.selects RX12 yX12_plainWith yX12_plainWith, Cond.code yX12_plainWith cX12_plainWith 7 (some .int), Cond.methodLink RL 110 yX11_seating, Cond.instanceMethod yX11_seating, Cond.selects RX11 yX11_seating yX11_seating, Cond.code yX11_seating cX11_seating 4 (some .int), Cond.fieldLink RX11 257 "SevenUnsaid$Seating" "bestChance" "I", Cond.methodLink RX11 250 yX10_layOut, Cond.instanceMethod yX10_layOut, Cond.selects RX10 yX10_layOut yX10_layOut, Cond.code yX10_layOut cX10_layOut 8 none, Cond.methodLink RX10 102 yX7_putSeat, Cond.instanceMethod yX7_putSeat, Cond.selects RX7 yX7_putSeat yX7_putSeat, Cond.code yX7_putSeat cX7_putSeat 3 none, Cond.methodLink RX10 108 yX7_putOdds, Cond.instanceMethod yX7_putOdds, Cond.selects RX7 yX7_putOdds yX7_putOdds, Cond.code yX7_putOdds cX7_putOdds 4 none, Cond.methodLink RX11 254 yX7_search]
def wsL_law_r49 : List Cond := [Cond.instanceMethod yX7_search, Cond.selects RX7 yX7_search yX7_search, Cond.code yX7_search cX7_search 6 none, Cond.fieldLink RX7 24 "SevenUnsaid$Seating" "bestChance" "I", Cond.methodLink RX7 32 arraycopyName, Cond.methodLink RX7 28 yX7_chanceInOrder, Cond.instanceMethod yX7_chanceInOrder, Cond.selects RX7 yX7_chanceInOrder yX7_chanceInOrder, Cond.code yX7_chanceInOrder cX7_chanceInOrder 6 (some .int), Cond.constant RX7 42 (1000000), Cond.methodLink RX7 38 yX7_nextOrder, Cond.instanceMethod yX7_nextOrder, Cond.selects RX7 yX7_nextOrder yX7_nextOrder, Cond.code yX7_nextOrder cX7_nextOrder 6 (some .boolean), Cond.methodLink RX7 43 yX7_exchange, Cond.instanceMethod yX7_exchange, Cond.selects RX7 yX7_exchange yX7_exchange, Cond.code yX7_exchange cX7_exchange 4 none, Cond.methodLink RX11 260 yX7_bestOn, Cond.instanceMethod yX7_bestOn, Cond.selects RX7 yX7_bestOn yX7_bestOn, Cond.code yX7_bestOn cX7_bestOn 2 (some .int), Cond.methodLink RL 113 yX12_seating, Cond.instanceMethod yX12_seating]
def wsL_law_r50 : List Cond := [Cond.selects RX12 yX12_seating yX12_seating, Cond.code yX12_seating cX12_seating 5 (some .int), Cond.fieldLink RX12 293 "SevenUnsaidModel" "bestGet" "I", Cond.methodLink RX12 296 yX12_sits, Cond.instanceMethod yX12_sits, Cond.selects RX12 yX12_sits yX12_sits, Cond.code yX12_sits cX12_sits 7 none, Cond.methodLink RL 114 yX11_behind, Cond.instanceMethod yX11_behind, Cond.selects RX11 yX11_behind yX11_behind, Cond.code yX11_behind cX11_behind 3 (some .int), Cond.methodLink RX11 263 yX0_pairs, Cond.instanceMethod yX0_pairs, Cond.selects RX0 yX0_pairs yX0_pairs, Cond.code yX0_pairs cX0_pairs 5 (some .int), Cond.methodLink RL 117 yX12_behind, Cond.instanceMethod yX12_behind, Cond.selects RX12 yX12_behind yX12_behind, Cond.code yX12_behind cX12_behind 5 (some .int), Cond.methodLink RL 118 yX11_undo, Cond.instanceMethod yX11_undo, Cond.selects RX11 yX11_undo yX11_undo, Cond.code yX11_undo cX11_undo 1 (some .boolean), Cond.methodLink RX11 266 yX2_goBack]
def wsL_law_r51 : List Cond := [Cond.instanceMethod yX2_goBack, Cond.selects RX2 yX2_goBack yX2_goBack, Cond.code yX2_goBack cX2_goBack 2 (some .boolean), Cond.methodLink RX2 71 yX8_fill, Cond.methodLink RL 122 yX12_undo, Cond.instanceMethod yX12_undo, Cond.selects RX12 yX12_undo yX12_undo, Cond.code yX12_undo cX12_undo 2 (some .boolean), Cond.methodLink RL 123 yX11_image, Cond.instanceMethod yX11_image, Cond.selects RX11 yX11_image yX11_image, Cond.code yX11_image cX11_image 2 (some .boolean), Cond.fieldLink RX11 273 "SevenUnsaid" "isKept" "Z", Cond.methodLink RX11 270 yX5_copy, Cond.instanceMethod yX5_copy, Cond.selects RX5 yX5_copy yX5_copy, Cond.code yX5_copy cX5_copy 2 none, Cond.methodLink RX5 46 yX8_copy, Cond.instanceMethod yX8_copy, Cond.selects RX8 yX8_copy yX8_copy, Cond.code yX8_copy cX8_copy 2 none, Cond.methodLink RX8 28 arraycopyName, Cond.methodLink RX5 50 yX6_copy, Cond.methodLink RX5 53 yX1_copy]
def wsL_law_r52 : List Cond := [Cond.methodLink RX5 56 yX0_copy, Cond.instanceMethod yX0_copy, Cond.selects RX0 yX0_copy yX0_copy, Cond.code yX0_copy cX0_copy 2 none, Cond.methodLink RX0 28 arraycopyName, Cond.methodLink RX5 59 yX3_copy, Cond.methodLink RL 127 yX12_image, Cond.instanceMethod yX12_image, Cond.selects RX12 yX12_image yX12_image, Cond.code yX12_image cX12_image 3 (some .boolean), Cond.fieldLink RX12 299 "SevenUnsaidModel" "hasImage" "Z", Cond.methodLink RL 128 yX11_look, Cond.instanceMethod yX11_look, Cond.selects RX11 yX11_look yX11_look, Cond.code yX11_look cX11_look 2 (some .int), Cond.fieldLink RX11 280 "SevenUnsaid$Count" "way" "I", Cond.fieldLink RX11 283 "SevenUnsaid$Count" "turned" "I", Cond.fieldLink RX11 289 "SevenUnsaid$Count" "record" "I", Cond.fieldLink RX11 292 "SevenUnsaid$Count" "said" "I", Cond.fieldLink RX11 295 "SevenUnsaid$Book" "size" "I", Cond.fieldLink RX11 296 "SevenUnsaid$History" "size" "I", Cond.methodLink RL 131 yX12_look, Cond.instanceMethod yX12_look, Cond.selects RX12 yX12_look yX12_look]
def wsL_law_r53 : List Cond := [Cond.code yX12_look cX12_look 2 (some .int)]
def wsL_law : List Cond := (wsL_law_r1 ++ (wsL_law_r2 ++ (wsL_law_r3 ++ (wsL_law_r4 ++ (wsL_law_r5 ++ (wsL_law_r6 ++ (wsL_law_r7 ++ (wsL_law_r8 ++ (wsL_law_r9 ++ (wsL_law_r10 ++ (wsL_law_r11 ++ (wsL_law_r12 ++ (wsL_law_r13 ++ (wsL_law_r14 ++ (wsL_law_r15 ++ (wsL_law_r16 ++ (wsL_law_r17 ++ (wsL_law_r18 ++ (wsL_law_r19 ++ (wsL_law_r20 ++ (wsL_law_r21 ++ (wsL_law_r22 ++ (wsL_law_r23 ++ (wsL_law_r24 ++ (wsL_law_r25 ++ (wsL_law_r26 ++ (wsL_law_r27 ++ (wsL_law_r28 ++ (wsL_law_r29 ++ (wsL_law_r30 ++ (wsL_law_r31 ++ (wsL_law_r32 ++ (wsL_law_r33 ++ (wsL_law_r34 ++ (wsL_law_r35 ++ (wsL_law_r36 ++ (wsL_law_r37 ++ (wsL_law_r38 ++ (wsL_law_r39 ++ (wsL_law_r40 ++ (wsL_law_r41 ++ (wsL_law_r42 ++ (wsL_law_r43 ++ (wsL_law_r44 ++ (wsL_law_r45 ++ (wsL_law_r46 ++ (wsL_law_r47 ++ (wsL_law_r48 ++ (wsL_law_r49 ++ (wsL_law_r50 ++ (wsL_law_r51 ++ (wsL_law_r52 ++ wsL_law_r53)))))))))))))))))))))))))))))))))))))))))))))))))))) ++ wsX110 ++ wsX120 ++ wsX50 ++ wsX20 ++ wsX100 ++ wsX70 ++ wsX40 ++ wsX80 ++ wsX60 ++ wsX10 ++ wsX00 ++ wsX30 ++ wsX90 ++ ([] : List Cond)
theorem zin_of {ws : List Cond} (ps : List Nat) (h : ws = ps.filterMap (fun i => lw_tbl[i]?)) : ∀ w ∈ ws, w ∈ lw_tbl := by
  intro w hw
  rw [h] at hw
  obtain ⟨i, -, hi⟩ := List.mem_filterMap.mp hw
  exact List.mem_of_getElem? hi
set_option maxRecDepth 20000 in
theorem zin_wsL_law_r1 : ∀ w ∈ wsL_law_r1, w ∈ lw_tbl := zin_of [99, 100, 77, 1195, 1196, 89, 101, 102, 103, 104, 105, 106, 107, 108, 78, 470, 471, 299, 300, 84, 473, 328, 329, 85] (by decide +kernel)
set_option maxRecDepth 20000 in
theorem zgd_wsL_law_r1 : wsL_law_r1.all goodWord = true := by decide +kernel
set_option maxRecDepth 20000 in
theorem zin_wsL_law_r2 : ∀ w ∈ wsL_law_r2, w ∈ lw_tbl := zin_of [474, 379, 380, 86, 475, 402, 403, 87, 476, 478, 110, 111, 112, 113, 114, 79, 268, 139, 140, 80, 272, 168, 169, 81] (by decide +kernel)
set_option maxRecDepth 20000 in
theorem zgd_wsL_law_r2 : wsL_law_r2.all goodWord = true := by decide +kernel
set_option maxRecDepth 20000 in
theorem zin_wsL_law_r3 : ∀ w ∈ wsL_law_r3, w ∈ lw_tbl := zin_of [275, 213, 214, 82, 279, 237, 238, 83, 282, 116, 117, 118, 138, 123, 124, 125, 126, 142, 143, 144, 147, 148, 149, 171] (by decide +kernel)
set_option maxRecDepth 20000 in
theorem zgd_wsL_law_r3 : wsL_law_r3.all goodWord = true := by decide +kernel
set_option maxRecDepth 20000 in
theorem zin_wsL_law_r4 : ∀ w ∈ wsL_law_r4, w ∈ lw_tbl := zin_of [172, 173, 174, 181, 194, 216, 217, 218, 222, 223, 224, 225, 240, 241, 242, 249, 250, 251, 301, 302, 303, 304, 305, 311] (by decide +kernel)
set_option maxRecDepth 20000 in
theorem zgd_wsL_law_r4 : wsL_law_r4.all goodWord = true := by decide +kernel
set_option maxRecDepth 20000 in
theorem zin_wsL_law_r5 : ∀ w ∈ wsL_law_r5, w ∈ lw_tbl := zin_of [312, 313, 314, 331, 332, 333, 338, 344, 334, 352, 336, 353, 354, 355, 382, 383, 384, 387, 388, 389, 390, 405, 406, 407] (by decide +kernel)
set_option maxRecDepth 20000 in
theorem zgd_wsL_law_r5 : wsL_law_r5.all goodWord = true := by decide +kernel
set_option maxRecDepth 20000 in
theorem zin_wsL_law_r6 : ∀ w ∈ wsL_law_r6, w ∈ lw_tbl := zin_of [408, 409, 88, 440, 438, 442, 449, 411, 412, 413, 416, 437, 423, 1197, 1198, 1199, 1200, 1201, 1202, 1203, 1206, 1207, 1208, 1209] (by decide +kernel)
set_option maxRecDepth 20000 in
theorem zgd_wsL_law_r6 : wsL_law_r6.all goodWord = true := by decide +kernel
set_option maxRecDepth 20000 in
theorem zin_wsL_law_r7 : ∀ w ∈ wsL_law_r7, w ∈ lw_tbl := zin_of [1210, 1222, 1228, 1229, 1230, 498, 499, 500, 501, 276, 192, 502, 503, 504, 505, 308, 1295, 1296, 1297, 1298, 1299, 1301, 35, 1302] (by decide +kernel)
set_option maxRecDepth 20000 in
theorem zgd_wsL_law_r7 : wsL_law_r7.all goodWord = true := by decide +kernel
set_option maxRecDepth 20000 in
theorem zin_wsL_law_r8 : ∀ w ∈ wsL_law_r8, w ∈ lw_tbl := zin_of [1204, 506, 507, 508, 509, 270, 121, 510, 511, 512, 513, 119, 1303, 1304, 1305, 1306, 1307, 1308, 1309, 514, 515, 516, 517, 274] (by decide +kernel)
set_option maxRecDepth 20000 in
theorem zgd_wsL_law_r8 : wsL_law_r8.all goodWord = true := by decide +kernel
set_option maxRecDepth 20000 in
theorem zin_wsL_law_r9 : ∀ w ∈ wsL_law_r9, w ∈ lw_tbl := zin_of [146, 518, 519, 520, 521, 522, 523, 524, 145, 150, 151, 152, 1310, 1311, 1312, 1313, 1314, 1315, 1316, 1317, 1319, 36, 1320, 1321] (by decide +kernel)
set_option maxRecDepth 20000 in
theorem zgd_wsL_law_r9 : wsL_law_r9.all goodWord = true := by decide +kernel
set_option maxRecDepth 20000 in
theorem zin_wsL_law_r10 : ∀ w ∈ wsL_law_r10, w ∈ lw_tbl := zin_of [1323, 37, 1324, 525, 526, 527, 528, 529, 531, 0, 532, 533, 535, 1, 536, 285, 537, 538, 539, 540, 541, 542, 543, 544] (by decide +kernel)
set_option maxRecDepth 20000 in
theorem zgd_wsL_law_r10 : wsL_law_r10.all goodWord = true := by decide +kernel
set_option maxRecDepth 20000 in
theorem zin_wsL_law_r11 : ∀ w ∈ wsL_law_r11, w ∈ lw_tbl := zin_of [545, 546, 547, 548, 549, 550, 551, 552, 553, 554, 555, 556, 557, 559, 2, 560, 177, 561, 562, 563, 564, 566, 3, 567] (by decide +kernel)
set_option maxRecDepth 20000 in
theorem zgd_wsL_law_r11 : wsL_law_r11.all goodWord = true := by decide +kernel
set_option maxRecDepth 20000 in
theorem zin_wsL_law_r12 : ∀ w ∈ wsL_law_r12, w ∈ lw_tbl := zin_of [180, 1325, 1326, 1327, 1328, 1329, 1331, 38, 1332, 1333, 1335, 39, 1336, 568, 569, 570, 571, 572, 573, 574, 575, 576, 577, 578] (by decide +kernel)
set_option maxRecDepth 20000 in
theorem zgd_wsL_law_r12 : wsL_law_r12.all goodWord = true := by decide +kernel
set_option maxRecDepth 20000 in
theorem zin_wsL_law_r13 : ∀ w ∈ wsL_law_r13, w ∈ lw_tbl := zin_of [579, 580, 1337, 1338, 1339, 1340, 581, 582, 583, 584, 441, 415, 585, 586, 587, 588, 414, 1341, 1342, 1343, 1344, 1213, 589, 590] (by decide +kernel)
set_option maxRecDepth 20000 in
theorem zgd_wsL_law_r13 : wsL_law_r13.all goodWord = true := by decide +kernel
set_option maxRecDepth 20000 in
theorem zin_wsL_law_r14 : ∀ w ∈ wsL_law_r14, w ∈ lw_tbl := zin_of [591, 592, 593, 594, 595, 596, 1345, 1346, 1347, 1348, 597, 598, 599, 600, 477, 421, 283, 443, 245, 601, 602, 603, 604, 417] (by decide +kernel)
set_option maxRecDepth 20000 in
theorem zgd_wsL_law_r14 : wsL_law_r14.all goodWord = true := by decide +kernel
set_option maxRecDepth 20000 in
theorem zin_wsL_law_r15 : ∀ w ∈ wsL_law_r15, w ∈ lw_tbl := zin_of [444, 605, 607, 4, 608, 445, 446, 447, 448, 450, 609, 610, 611, 612, 422, 613, 614, 615, 616, 243, 246, 248, 617, 618] (by decide +kernel)
set_option maxRecDepth 20000 in
theorem zgd_wsL_law_r15 : wsL_law_r15.all goodWord = true := by decide +kernel
set_option maxRecDepth 20000 in
theorem zin_wsL_law_r16 : ∀ w ∈ wsL_law_r16, w ∈ lw_tbl := zin_of [619, 620, 420, 621, 623, 5, 624, 625, 626, 627, 628, 629, 630, 631, 633, 6, 634, 635, 637, 7, 638, 640, 642, 8] (by decide +kernel)
set_option maxRecDepth 20000 in
theorem zgd_wsL_law_r16 : wsL_law_r16.all goodWord = true := by decide +kernel
set_option maxRecDepth 20000 in
theorem zin_wsL_law_r17 : ∀ w ∈ wsL_law_r17, w ∈ lw_tbl := zin_of [643, 644, 645, 646, 90, 647, 1611, 648, 649, 650, 651, 652, 1612, 654, 655, 656, 657, 658, 659, 660, 661, 662, 663, 91] (by decide +kernel)
set_option maxRecDepth 20000 in
theorem zgd_wsL_law_r17 : wsL_law_r17.all goodWord = true := by decide +kernel
set_option maxRecDepth 20000 in
theorem zin_wsL_law_r18 : ∀ w ∈ wsL_law_r18, w ∈ lw_tbl := zin_of [664, 665, 666, 667, 668, 670, 671, 92, 672, 673, 674, 93, 675, 676, 677, 678, 679, 680, 681, 682, 683, 684, 685, 686] (by decide +kernel)
set_option maxRecDepth 20000 in
theorem zgd_wsL_law_r18 : wsL_law_r18.all goodWord = true := by decide +kernel
set_option maxRecDepth 20000 in
theorem zin_wsL_law_r19 : ∀ w ∈ wsL_law_r19, w ∈ lw_tbl := zin_of [688, 690, 703, 704, 705, 706, 708, 9, 709, 419, 711, 712, 713, 714, 715, 716, 717, 718, 719, 720, 721, 722, 726, 727] (by decide +kernel)
set_option maxRecDepth 20000 in
theorem zgd_wsL_law_r19 : wsL_law_r19.all goodWord = true := by decide +kernel
set_option maxRecDepth 20000 in
theorem zin_wsL_law_r20 : ∀ w ∈ wsL_law_r20, w ∈ lw_tbl := zin_of [94, 728, 729, 730, 731, 723, 724, 725, 732, 733, 734, 735, 736, 737, 738, 739, 740, 741, 742, 743, 744, 745, 746, 747] (by decide +kernel)
set_option maxRecDepth 20000 in
theorem zgd_wsL_law_r20 : wsL_law_r20.all goodWord = true := by decide +kernel
set_option maxRecDepth 20000 in
theorem zin_wsL_law_r21 : ∀ w ∈ wsL_law_r21, w ∈ lw_tbl := zin_of [748, 749, 750, 751, 752, 753, 754, 755, 756, 757, 758, 759, 760, 95, 761, 762, 763, 764, 765, 766, 767, 768, 769, 770] (by decide +kernel)
set_option maxRecDepth 20000 in
theorem zgd_wsL_law_r21 : wsL_law_r21.all goodWord = true := by decide +kernel
set_option maxRecDepth 20000 in
theorem zin_wsL_law_r22 : ∀ w ∈ wsL_law_r22, w ∈ lw_tbl := zin_of [772, 10, 773, 774, 776, 11, 777, 244, 778, 780, 12, 781, 782, 784, 13, 785, 786, 788, 14, 789, 418, 790, 791, 792] (by decide +kernel)
set_option maxRecDepth 20000 in
theorem zgd_wsL_law_r22 : wsL_law_r22.all goodWord = true := by decide +kernel
set_option maxRecDepth 20000 in
theorem zin_wsL_law_r23 : ∀ w ∈ wsL_law_r23, w ∈ lw_tbl := zin_of [793, 794, 796, 15, 797, 798, 799, 800, 801, 803, 16, 804, 805, 807, 17, 808, 809, 811, 18, 812, 813, 815, 19, 816] (by decide +kernel)
set_option maxRecDepth 20000 in
theorem zgd_wsL_law_r23 : wsL_law_r23.all goodWord = true := by decide +kernel
set_option maxRecDepth 20000 in
theorem zin_wsL_law_r24 : ∀ w ∈ wsL_law_r24, w ∈ lw_tbl := zin_of [817, 819, 20, 820, 821, 823, 21, 824, 825, 827, 22, 828, 829, 831, 23, 832, 833, 834, 835, 836, 837, 839, 838, 96] (by decide +kernel)
set_option maxRecDepth 20000 in
theorem zgd_wsL_law_r24 : wsL_law_r24.all goodWord = true := by decide +kernel
set_option maxRecDepth 20000 in
theorem zin_wsL_law_r25 : ∀ w ∈ wsL_law_r25, w ∈ lw_tbl := zin_of [1349, 1350, 1351, 1352, 1218, 1214, 1211, 1212, 1215, 1220, 1219, 1353, 1355, 40, 1356, 1216, 1217, 1357, 1359, 41, 1360, 1361, 1362, 1363] (by decide +kernel)
set_option maxRecDepth 20000 in
theorem zgd_wsL_law_r25 : wsL_law_r25.all goodWord = true := by decide +kernel
set_option maxRecDepth 20000 in
theorem zin_wsL_law_r26 : ∀ w ∈ wsL_law_r26, w ∈ lw_tbl := zin_of [1364, 1366, 42, 1367, 1369, 1371, 43, 1372, 1373, 1374, 1379, 1381, 44, 1382, 1390, 1391, 1392, 1393, 1395, 45, 1396, 1221, 1397, 1399] (by decide +kernel)
set_option maxRecDepth 20000 in
theorem zgd_wsL_law_r26 : wsL_law_r26.all goodWord = true := by decide +kernel
set_option maxRecDepth 20000 in
theorem zin_wsL_law_r27 : ∀ w ∈ wsL_law_r27, w ∈ lw_tbl := zin_of [46, 1400, 1401, 1403, 47, 1404, 1405, 1407, 48, 1408, 1409, 1411, 49, 1412, 1413, 1415, 50, 1416, 1417, 1419, 51, 1420, 1421, 1423] (by decide +kernel)
set_option maxRecDepth 20000 in
theorem zgd_wsL_law_r27 : wsL_law_r27.all goodWord = true := by decide +kernel
set_option maxRecDepth 20000 in
theorem zin_wsL_law_r28 : ∀ w ∈ wsL_law_r28, w ∈ lw_tbl := zin_of [52, 1424, 1425, 1427, 53, 1428, 1429, 1431, 54, 1432, 1433, 1435, 55, 1436, 840, 841, 842, 843, 1437, 1438, 1439, 1440, 844, 845] (by decide +kernel)
set_option maxRecDepth 20000 in
theorem zgd_wsL_law_r28 : wsL_law_r28.all goodWord = true := by decide +kernel
set_option maxRecDepth 20000 in
theorem zin_wsL_law_r29 : ∀ w ∈ wsL_law_r29, w ∈ lw_tbl := zin_of [846, 847, 848, 849, 850, 851, 247, 176, 852, 853, 854, 855, 856, 857, 858, 859, 860, 861, 862, 863, 864, 865, 866, 867] (by decide +kernel)
set_option maxRecDepth 20000 in
theorem zgd_wsL_law_r29 : wsL_law_r29.all goodWord = true := by decide +kernel
set_option maxRecDepth 20000 in
theorem zin_wsL_law_r30 : ∀ w ∈ wsL_law_r30, w ∈ lw_tbl := zin_of [869, 24, 870, 871, 872, 873, 874, 875, 876, 877, 878, 184, 284, 879, 880, 97, 881, 882, 883, 884, 885, 886, 887, 888] (by decide +kernel)
set_option maxRecDepth 20000 in
theorem zgd_wsL_law_r30 : wsL_law_r30.all goodWord = true := by decide +kernel
set_option maxRecDepth 20000 in
theorem zin_wsL_law_r31 : ∀ w ∈ wsL_law_r31, w ∈ lw_tbl := zin_of [889, 890, 891, 892, 893, 894, 895, 896, 252, 916, 917, 897, 899, 25, 900, 901, 903, 26, 904, 905, 907, 27, 908, 909] (by decide +kernel)
set_option maxRecDepth 20000 in
theorem zgd_wsL_law_r31 : wsL_law_r31.all goodWord = true := by decide +kernel
set_option maxRecDepth 20000 in
theorem zin_wsL_law_r32 : ∀ w ∈ wsL_law_r32, w ∈ lw_tbl := zin_of [911, 28, 912, 913, 914, 915, 918, 919, 920, 921, 310, 278, 271, 280, 220, 930, 922, 923, 94, 924, 925, 926, 927, 928] (by decide +kernel)
set_option maxRecDepth 20000 in
theorem zgd_wsL_law_r32 : wsL_law_r32.all goodWord = true := by decide +kernel
set_option maxRecDepth 20000 in
theorem zin_wsL_law_r33 : ∀ w ∈ wsL_law_r33, w ∈ lw_tbl := zin_of [178, 183, 186, 189, 193, 929, 931, 932, 933, 934, 935, 936, 937, 938, 939, 940, 941, 195, 942, 943, 944, 945, 946, 947] (by decide +kernel)
set_option maxRecDepth 20000 in
theorem zgd_wsL_law_r33 : wsL_law_r33.all goodWord = true := by decide +kernel
set_option maxRecDepth 20000 in
theorem zin_wsL_law_r34 : ∀ w ∈ wsL_law_r34, w ∈ lw_tbl := zin_of [948, 949, 950, 219, 951, 952, 953, 954, 955, 956, 957, 958, 187, 959, 190, 122, 960, 961, 962, 963, 964, 965, 966, 967] (by decide +kernel)
set_option maxRecDepth 20000 in
theorem zgd_wsL_law_r34 : wsL_law_r34.all goodWord = true := by decide +kernel
set_option maxRecDepth 20000 in
theorem zin_wsL_law_r35 : ∀ w ∈ wsL_law_r35, w ∈ lw_tbl := zin_of [968, 969, 970, 971, 972, 973, 1460, 1461, 1462, 1463, 1464, 1466, 58, 1467, 1468, 1470, 59, 1471, 1224, 1223, 1225, 1226, 1472, 1474] (by decide +kernel)
set_option maxRecDepth 20000 in
theorem zgd_wsL_law_r35 : wsL_law_r35.all goodWord = true := by decide +kernel
set_option maxRecDepth 20000 in
theorem zin_wsL_law_r36 : ∀ w ∈ wsL_law_r36, w ∈ lw_tbl := zin_of [60, 1475, 1227, 1476, 1478, 61, 1479, 1445, 1447, 56, 1448, 1449, 1451, 57, 1452, 1453, 1454, 1455, 1480, 1482, 62, 1483, 1484, 1486] (by decide +kernel)
set_option maxRecDepth 20000 in
theorem zgd_wsL_law_r36 : wsL_law_r36.all goodWord = true := by decide +kernel
set_option maxRecDepth 20000 in
theorem zin_wsL_law_r37 : ∀ w ∈ wsL_law_r37, w ∈ lw_tbl := zin_of [63, 1487, 1488, 1490, 64, 1491, 1492, 1494, 65, 1495, 1496, 1497, 1498, 1499, 1500, 1501, 1502, 1503, 1504, 1505, 1507, 66, 1508, 1509] (by decide +kernel)
set_option maxRecDepth 20000 in
theorem zgd_wsL_law_r37 : wsL_law_r37.all goodWord = true := by decide +kernel
set_option maxRecDepth 20000 in
theorem zin_wsL_law_r38 : ∀ w ∈ wsL_law_r38, w ∈ lw_tbl := zin_of [1510, 1511, 1513, 67, 1514, 1515, 1517, 68, 1518, 1519, 1521, 69, 1522, 974, 975, 976, 977, 978, 979, 980, 981, 983, 29, 984] (by decide +kernel)
set_option maxRecDepth 20000 in
theorem zgd_wsL_law_r38 : wsL_law_r38.all goodWord = true := by decide +kernel
set_option maxRecDepth 20000 in
theorem zin_wsL_law_r39 : ∀ w ∈ wsL_law_r39, w ∈ lw_tbl := zin_of [1523, 1524, 1525, 1526, 985, 986, 987, 988, 989, 990, 991, 992, 993, 994, 995, 996, 997, 998, 999, 1000, 1001, 1002, 1003, 1004] (by decide +kernel)
set_option maxRecDepth 20000 in
theorem zgd_wsL_law_r39 : wsL_law_r39.all goodWord = true := by decide +kernel
set_option maxRecDepth 20000 in
theorem zin_wsL_law_r40 : ∀ w ∈ wsL_law_r40, w ∈ lw_tbl := zin_of [1005, 1527, 1528, 1529, 1530, 1006, 1007, 1008, 1009, 1441, 1442, 1443, 1444, 1010, 1011, 1012, 1013, 281, 1014, 1015, 1016, 1017, 1531, 1532] (by decide +kernel)
set_option maxRecDepth 20000 in
theorem zgd_wsL_law_r40 : wsL_law_r40.all goodWord = true := by decide +kernel
set_option maxRecDepth 20000 in
theorem zin_wsL_law_r41 : ∀ w ∈ wsL_law_r41, w ∈ lw_tbl := zin_of [1533, 1534, 1018, 1019, 1020, 1021, 1022, 1024, 30, 1025, 1026, 1027, 1028, 1029, 277, 175, 273, 269, 120, 179, 1030, 1031, 1032, 1033] (by decide +kernel)
set_option maxRecDepth 20000 in
theorem zgd_wsL_law_r41 : wsL_law_r41.all goodWord = true := by decide +kernel
set_option maxRecDepth 20000 in
theorem zin_wsL_law_r42 : ∀ w ∈ wsL_law_r42, w ∈ lw_tbl := zin_of [1535, 1536, 1537, 1538, 1539, 1541, 70, 1542, 1034, 1035, 1036, 1037, 1038, 1039, 1040, 1041, 1042, 1043, 1044, 1543, 1544, 1545, 1546, 1547] (by decide +kernel)
set_option maxRecDepth 20000 in
theorem zgd_wsL_law_r42 : wsL_law_r42.all goodWord = true := by decide +kernel
set_option maxRecDepth 20000 in
theorem zin_wsL_law_r43 : ∀ w ∈ wsL_law_r43, w ∈ lw_tbl := zin_of [1549, 71, 1550, 1551, 1045, 1046, 1047, 1048, 339, 1552, 1553, 1554, 1555, 1049, 1050, 1051, 1052, 1053, 1054, 1055, 1056, 1057, 1058, 98] (by decide +kernel)
set_option maxRecDepth 20000 in
theorem zgd_wsL_law_r43 : wsL_law_r43.all goodWord = true := by decide +kernel
set_option maxRecDepth 20000 in
theorem zin_wsL_law_r44 : ∀ w ∈ wsL_law_r44, w ∈ lw_tbl := zin_of [1059, 1060, 1061, 1062, 1063, 1064, 1065, 1066, 1067, 1068, 1556, 1557, 1558, 1559, 1560, 1562, 72, 1563, 1564, 1566, 73, 1567, 1069, 1070] (by decide +kernel)
set_option maxRecDepth 20000 in
theorem zgd_wsL_law_r44 : wsL_law_r44.all goodWord = true := by decide +kernel
set_option maxRecDepth 20000 in
theorem zin_wsL_law_r45 : ∀ w ∈ wsL_law_r45, w ∈ lw_tbl := zin_of [1071, 1072, 1073, 1074, 1075, 1076, 1568, 1569, 1570, 1571, 1077, 1078, 1079, 1080, 341, 343, 345, 1081, 1082, 1083, 1084, 1085, 1086, 1087] (by decide +kernel)
set_option maxRecDepth 20000 in
theorem zgd_wsL_law_r45 : wsL_law_r45.all goodWord = true := by decide +kernel
set_option maxRecDepth 20000 in
theorem zin_wsL_law_r46 : ∀ w ∈ wsL_law_r46, w ∈ lw_tbl := zin_of [340, 342, 1572, 1573, 1574, 1575, 1576, 1577, 1578, 1088, 1089, 1090, 1091, 1092, 1093, 1094, 1095, 1096, 1097, 1098, 1099, 1100, 1101, 1579] (by decide +kernel)
set_option maxRecDepth 20000 in
theorem zgd_wsL_law_r46 : wsL_law_r46.all goodWord = true := by decide +kernel
set_option maxRecDepth 20000 in
theorem zin_wsL_law_r47 : ∀ w ∈ wsL_law_r47, w ∈ lw_tbl := zin_of [1580, 1581, 1582, 1102, 1103, 1104, 1105, 347, 349, 351, 1106, 1107, 1108, 1109, 346, 348, 350, 1110, 1112, 31, 1113, 1114, 1583, 1584] (by decide +kernel)
set_option maxRecDepth 20000 in
theorem zgd_wsL_law_r47 : wsL_law_r47.all goodWord = true := by decide +kernel
set_option maxRecDepth 20000 in
theorem zin_wsL_law_r48 : ∀ w ∈ wsL_law_r48, w ∈ lw_tbl := zin_of [1585, 1586, 1587, 1589, 74, 1590, 1115, 1116, 1117, 1118, 386, 1119, 1120, 1121, 1122, 1123, 1124, 1125, 1126, 1127, 1128, 1129, 1130, 1131] (by decide +kernel)
set_option maxRecDepth 20000 in
theorem zgd_wsL_law_r48 : wsL_law_r48.all goodWord = true := by decide +kernel
set_option maxRecDepth 20000 in
theorem zin_wsL_law_r49 : ∀ w ∈ wsL_law_r49, w ∈ lw_tbl := zin_of [1132, 1133, 1134, 385, 1140, 1135, 1137, 32, 1138, 1139, 1141, 1143, 33, 1144, 1145, 1147, 34, 1148, 1149, 1150, 1151, 1152, 1591, 1592] (by decide +kernel)
set_option maxRecDepth 20000 in
theorem zgd_wsL_law_r49 : wsL_law_r49.all goodWord = true := by decide +kernel
set_option maxRecDepth 20000 in
theorem zin_wsL_law_r50 : ∀ w ∈ wsL_law_r50, w ∈ lw_tbl := zin_of [1593, 1594, 1231, 1595, 1597, 75, 1598, 1153, 1154, 1155, 1156, 1157, 1158, 1159, 1160, 1599, 1600, 1601, 1602, 1161, 1162, 1163, 1164, 1165] (by decide +kernel)
set_option maxRecDepth 20000 in
theorem zgd_wsL_law_r50 : wsL_law_r50.all goodWord = true := by decide +kernel
set_option maxRecDepth 20000 in
theorem zin_wsL_law_r51 : ∀ w ∈ wsL_law_r51, w ∈ lw_tbl := zin_of [1166, 1167, 1168, 1169, 1456, 1457, 1458, 1459, 1170, 1171, 1172, 1173, 472, 1174, 1175, 1176, 1177, 1178, 1179, 1180, 1181, 1182, 1183, 1184] (by decide +kernel)
set_option maxRecDepth 20000 in
theorem zgd_wsL_law_r51 : wsL_law_r51.all goodWord = true := by decide +kernel
set_option maxRecDepth 20000 in
theorem zin_wsL_law_r52 : ∀ w ∈ wsL_law_r52, w ∈ lw_tbl := zin_of [1185, 1186, 1187, 1188, 1189, 1190, 1603, 1604, 1605, 1606, 1205, 1191, 1192, 1193, 1194, 182, 185, 188, 191, 221, 309, 1607, 1608, 1609] (by decide +kernel)
set_option maxRecDepth 20000 in
theorem zgd_wsL_law_r52 : wsL_law_r52.all goodWord = true := by decide +kernel
set_option maxRecDepth 20000 in
theorem zin_wsL_law_r53 : ∀ w ∈ wsL_law_r53, w ∈ lw_tbl := zin_of [1610] (by decide +kernel)
set_option maxRecDepth 20000 in
theorem zgd_wsL_law_r53 : wsL_law_r53.all goodWord = true := by decide +kernel
set_option maxRecDepth 20000 in
theorem zin_wsX00 : ∀ w ∈ wsX00, w ∈ lw_tbl := zin_of [226, 228, 230, 232, 234] (by decide +kernel)
set_option maxRecDepth 20000 in
theorem zgd_wsX00 : wsX00.all goodWord = true := by decide +kernel
set_option maxRecDepth 20000 in
theorem zin_wsX10 : ∀ w ∈ wsX10, w ∈ lw_tbl := zin_of [196, 198, 200, 202, 204, 206, 208, 210] (by decide +kernel)
set_option maxRecDepth 20000 in
theorem zgd_wsX10 : wsX10.all goodWord = true := by decide +kernel
set_option maxRecDepth 20000 in
theorem zin_wsX20 : ∀ w ∈ wsX20, w ∈ lw_tbl := zin_of [315, 317, 319, 321, 323, 325] (by decide +kernel)
set_option maxRecDepth 20000 in
theorem zgd_wsX20 : wsX20.all goodWord = true := by decide +kernel
set_option maxRecDepth 20000 in
theorem zin_wsX30 : ∀ w ∈ wsX30, w ∈ lw_tbl := zin_of [253, 255, 257, 259, 261, 263, 265] (by decide +kernel)
set_option maxRecDepth 20000 in
theorem zgd_wsX30 : wsX30.all goodWord = true := by decide +kernel
set_option maxRecDepth 20000 in
theorem zin_wsX40 : ∀ w ∈ wsX40, w ∈ lw_tbl := zin_of [451, 453, 455, 457, 459, 461, 463, 465, 467] (by decide +kernel)
set_option maxRecDepth 20000 in
theorem zgd_wsX40 : wsX40.all goodWord = true := by decide +kernel
set_option maxRecDepth 20000 in
theorem zin_wsX50 : ∀ w ∈ wsX50, w ∈ lw_tbl := zin_of [286, 288, 290, 292, 294, 296] (by decide +kernel)
set_option maxRecDepth 20000 in
theorem zgd_wsX50 : wsX50.all goodWord = true := by decide +kernel
set_option maxRecDepth 20000 in
theorem zin_wsX60 : ∀ w ∈ wsX60, w ∈ lw_tbl := zin_of [153, 155, 157, 159, 161, 163, 165] (by decide +kernel)
set_option maxRecDepth 20000 in
theorem zgd_wsX60 : wsX60.all goodWord = true := by decide +kernel
set_option maxRecDepth 20000 in
theorem zin_wsX70 : ∀ w ∈ wsX70, w ∈ lw_tbl := zin_of [391, 393, 395, 397, 399] (by decide +kernel)
set_option maxRecDepth 20000 in
theorem zgd_wsX70 : wsX70.all goodWord = true := by decide +kernel
set_option maxRecDepth 20000 in
theorem zin_wsX80 : ∀ w ∈ wsX80, w ∈ lw_tbl := zin_of [127, 129, 131, 133, 135] (by decide +kernel)
set_option maxRecDepth 20000 in
theorem zgd_wsX80 : wsX80.all goodWord = true := by decide +kernel
set_option maxRecDepth 20000 in
theorem zin_wsX90 : ∀ w ∈ wsX90, w ∈ lw_tbl := zin_of [424, 426, 428, 430, 432, 434] (by decide +kernel)
set_option maxRecDepth 20000 in
theorem zgd_wsX90 : wsX90.all goodWord = true := by decide +kernel
set_option maxRecDepth 20000 in
theorem zin_wsX100 : ∀ w ∈ wsX100, w ∈ lw_tbl := zin_of [356, 358, 360, 362, 364, 366, 368, 370, 372, 374, 376] (by decide +kernel)
set_option maxRecDepth 20000 in
theorem zgd_wsX100 : wsX100.all goodWord = true := by decide +kernel
set_option maxRecDepth 20000 in
theorem zin_wsX110 : ∀ w ∈ wsX110, w ∈ lw_tbl := zin_of [479, 481, 483, 485, 487, 489, 491, 493, 495] (by decide +kernel)
set_option maxRecDepth 20000 in
theorem zgd_wsX110 : wsX110.all goodWord = true := by decide +kernel
set_option maxRecDepth 20000 in
theorem zin_wsX120 : ∀ w ∈ wsX120, w ∈ lw_tbl := zin_of [1232, 1234, 1236, 1238, 1240, 1242, 1244, 1246, 1248, 1250, 1252, 1254, 1256, 1258, 1260, 1262, 1264, 1266, 1268, 1270, 1272, 1274, 1276, 1278, 1280, 1282, 1284, 1286, 1288, 1290, 1292] (by decide +kernel)
set_option maxRecDepth 20000 in
theorem zgd_wsX120 : wsX120.all goodWord = true := by decide +kernel
theorem wsL_law_in : ∀ w ∈ wsL_law, w ∈ lw_tbl := List.forall_mem_append.mpr ⟨List.forall_mem_append.mpr ⟨List.forall_mem_append.mpr ⟨List.forall_mem_append.mpr ⟨List.forall_mem_append.mpr ⟨List.forall_mem_append.mpr ⟨List.forall_mem_append.mpr ⟨List.forall_mem_append.mpr ⟨List.forall_mem_append.mpr ⟨List.forall_mem_append.mpr ⟨List.forall_mem_append.mpr ⟨List.forall_mem_append.mpr ⟨List.forall_mem_append.mpr ⟨List.forall_mem_append.mpr ⟨List.forall_mem_append.mpr ⟨zin_wsL_law_r1, List.forall_mem_append.mpr ⟨zin_wsL_law_r2, List.forall_mem_append.mpr ⟨zin_wsL_law_r3, List.forall_mem_append.mpr ⟨zin_wsL_law_r4, List.forall_mem_append.mpr ⟨zin_wsL_law_r5, List.forall_mem_append.mpr ⟨zin_wsL_law_r6, List.forall_mem_append.mpr ⟨zin_wsL_law_r7, List.forall_mem_append.mpr ⟨zin_wsL_law_r8, List.forall_mem_append.mpr ⟨zin_wsL_law_r9, List.forall_mem_append.mpr ⟨zin_wsL_law_r10, List.forall_mem_append.mpr ⟨zin_wsL_law_r11, List.forall_mem_append.mpr ⟨zin_wsL_law_r12, List.forall_mem_append.mpr ⟨zin_wsL_law_r13, List.forall_mem_append.mpr ⟨zin_wsL_law_r14, List.forall_mem_append.mpr ⟨zin_wsL_law_r15, List.forall_mem_append.mpr ⟨zin_wsL_law_r16, List.forall_mem_append.mpr ⟨zin_wsL_law_r17, List.forall_mem_append.mpr ⟨zin_wsL_law_r18, List.forall_mem_append.mpr ⟨zin_wsL_law_r19, List.forall_mem_append.mpr ⟨zin_wsL_law_r20, List.forall_mem_append.mpr ⟨zin_wsL_law_r21, List.forall_mem_append.mpr ⟨zin_wsL_law_r22, List.forall_mem_append.mpr ⟨zin_wsL_law_r23, List.forall_mem_append.mpr ⟨zin_wsL_law_r24, List.forall_mem_append.mpr ⟨zin_wsL_law_r25, List.forall_mem_append.mpr ⟨zin_wsL_law_r26, List.forall_mem_append.mpr ⟨zin_wsL_law_r27, List.forall_mem_append.mpr ⟨zin_wsL_law_r28, List.forall_mem_append.mpr ⟨zin_wsL_law_r29, List.forall_mem_append.mpr ⟨zin_wsL_law_r30, List.forall_mem_append.mpr ⟨zin_wsL_law_r31, List.forall_mem_append.mpr ⟨zin_wsL_law_r32, List.forall_mem_append.mpr ⟨zin_wsL_law_r33, List.forall_mem_append.mpr ⟨zin_wsL_law_r34, List.forall_mem_append.mpr ⟨zin_wsL_law_r35, List.forall_mem_append.mpr ⟨zin_wsL_law_r36, List.forall_mem_append.mpr ⟨zin_wsL_law_r37, List.forall_mem_append.mpr ⟨zin_wsL_law_r38, List.forall_mem_append.mpr ⟨zin_wsL_law_r39, List.forall_mem_append.mpr ⟨zin_wsL_law_r40, List.forall_mem_append.mpr ⟨zin_wsL_law_r41, List.forall_mem_append.mpr ⟨zin_wsL_law_r42, List.forall_mem_append.mpr ⟨zin_wsL_law_r43, List.forall_mem_append.mpr ⟨zin_wsL_law_r44, List.forall_mem_append.mpr ⟨zin_wsL_law_r45, List.forall_mem_append.mpr ⟨zin_wsL_law_r46, List.forall_mem_append.mpr ⟨zin_wsL_law_r47, List.forall_mem_append.mpr ⟨zin_wsL_law_r48, List.forall_mem_append.mpr ⟨zin_wsL_law_r49, List.forall_mem_append.mpr ⟨zin_wsL_law_r50, List.forall_mem_append.mpr ⟨zin_wsL_law_r51, List.forall_mem_append.mpr ⟨zin_wsL_law_r52, zin_wsL_law_r53⟩⟩⟩⟩⟩⟩⟩⟩⟩⟩⟩⟩⟩⟩⟩⟩⟩⟩⟩⟩⟩⟩⟩⟩⟩⟩⟩⟩⟩⟩⟩⟩⟩⟩⟩⟩⟩⟩⟩⟩⟩⟩⟩⟩⟩⟩⟩⟩⟩⟩⟩⟩, zin_wsX110⟩, zin_wsX120⟩, zin_wsX50⟩, zin_wsX20⟩, zin_wsX100⟩, zin_wsX70⟩, zin_wsX40⟩, zin_wsX80⟩, zin_wsX60⟩, zin_wsX10⟩, zin_wsX00⟩, zin_wsX30⟩, zin_wsX90⟩, fun _ h => absurd h List.not_mem_nil⟩
theorem wsL_law_gd : ∀ w ∈ wsL_law, goodWord w = true := List.forall_mem_append.mpr ⟨List.forall_mem_append.mpr ⟨List.forall_mem_append.mpr ⟨List.forall_mem_append.mpr ⟨List.forall_mem_append.mpr ⟨List.forall_mem_append.mpr ⟨List.forall_mem_append.mpr ⟨List.forall_mem_append.mpr ⟨List.forall_mem_append.mpr ⟨List.forall_mem_append.mpr ⟨List.forall_mem_append.mpr ⟨List.forall_mem_append.mpr ⟨List.forall_mem_append.mpr ⟨List.forall_mem_append.mpr ⟨List.forall_mem_append.mpr ⟨(List.all_eq_true.mp zgd_wsL_law_r1), List.forall_mem_append.mpr ⟨(List.all_eq_true.mp zgd_wsL_law_r2), List.forall_mem_append.mpr ⟨(List.all_eq_true.mp zgd_wsL_law_r3), List.forall_mem_append.mpr ⟨(List.all_eq_true.mp zgd_wsL_law_r4), List.forall_mem_append.mpr ⟨(List.all_eq_true.mp zgd_wsL_law_r5), List.forall_mem_append.mpr ⟨(List.all_eq_true.mp zgd_wsL_law_r6), List.forall_mem_append.mpr ⟨(List.all_eq_true.mp zgd_wsL_law_r7), List.forall_mem_append.mpr ⟨(List.all_eq_true.mp zgd_wsL_law_r8), List.forall_mem_append.mpr ⟨(List.all_eq_true.mp zgd_wsL_law_r9), List.forall_mem_append.mpr ⟨(List.all_eq_true.mp zgd_wsL_law_r10), List.forall_mem_append.mpr ⟨(List.all_eq_true.mp zgd_wsL_law_r11), List.forall_mem_append.mpr ⟨(List.all_eq_true.mp zgd_wsL_law_r12), List.forall_mem_append.mpr ⟨(List.all_eq_true.mp zgd_wsL_law_r13), List.forall_mem_append.mpr ⟨(List.all_eq_true.mp zgd_wsL_law_r14), List.forall_mem_append.mpr ⟨(List.all_eq_true.mp zgd_wsL_law_r15), List.forall_mem_append.mpr ⟨(List.all_eq_true.mp zgd_wsL_law_r16), List.forall_mem_append.mpr ⟨(List.all_eq_true.mp zgd_wsL_law_r17), List.forall_mem_append.mpr ⟨(List.all_eq_true.mp zgd_wsL_law_r18), List.forall_mem_append.mpr ⟨(List.all_eq_true.mp zgd_wsL_law_r19), List.forall_mem_append.mpr ⟨(List.all_eq_true.mp zgd_wsL_law_r20), List.forall_mem_append.mpr ⟨(List.all_eq_true.mp zgd_wsL_law_r21), List.forall_mem_append.mpr ⟨(List.all_eq_true.mp zgd_wsL_law_r22), List.forall_mem_append.mpr ⟨(List.all_eq_true.mp zgd_wsL_law_r23), List.forall_mem_append.mpr ⟨(List.all_eq_true.mp zgd_wsL_law_r24), List.forall_mem_append.mpr ⟨(List.all_eq_true.mp zgd_wsL_law_r25), List.forall_mem_append.mpr ⟨(List.all_eq_true.mp zgd_wsL_law_r26), List.forall_mem_append.mpr ⟨(List.all_eq_true.mp zgd_wsL_law_r27), List.forall_mem_append.mpr ⟨(List.all_eq_true.mp zgd_wsL_law_r28), List.forall_mem_append.mpr ⟨(List.all_eq_true.mp zgd_wsL_law_r29), List.forall_mem_append.mpr ⟨(List.all_eq_true.mp zgd_wsL_law_r30), List.forall_mem_append.mpr ⟨(List.all_eq_true.mp zgd_wsL_law_r31), List.forall_mem_append.mpr ⟨(List.all_eq_true.mp zgd_wsL_law_r32), List.forall_mem_append.mpr ⟨(List.all_eq_true.mp zgd_wsL_law_r33), List.forall_mem_append.mpr ⟨(List.all_eq_true.mp zgd_wsL_law_r34), List.forall_mem_append.mpr ⟨(List.all_eq_true.mp zgd_wsL_law_r35), List.forall_mem_append.mpr ⟨(List.all_eq_true.mp zgd_wsL_law_r36), List.forall_mem_append.mpr ⟨(List.all_eq_true.mp zgd_wsL_law_r37), List.forall_mem_append.mpr ⟨(List.all_eq_true.mp zgd_wsL_law_r38), List.forall_mem_append.mpr ⟨(List.all_eq_true.mp zgd_wsL_law_r39), List.forall_mem_append.mpr ⟨(List.all_eq_true.mp zgd_wsL_law_r40), List.forall_mem_append.mpr ⟨(List.all_eq_true.mp zgd_wsL_law_r41), List.forall_mem_append.mpr ⟨(List.all_eq_true.mp zgd_wsL_law_r42), List.forall_mem_append.mpr ⟨(List.all_eq_true.mp zgd_wsL_law_r43), List.forall_mem_append.mpr ⟨(List.all_eq_true.mp zgd_wsL_law_r44), List.forall_mem_append.mpr ⟨(List.all_eq_true.mp zgd_wsL_law_r45), List.forall_mem_append.mpr ⟨(List.all_eq_true.mp zgd_wsL_law_r46), List.forall_mem_append.mpr ⟨(List.all_eq_true.mp zgd_wsL_law_r47), List.forall_mem_append.mpr ⟨(List.all_eq_true.mp zgd_wsL_law_r48), List.forall_mem_append.mpr ⟨(List.all_eq_true.mp zgd_wsL_law_r49), List.forall_mem_append.mpr ⟨(List.all_eq_true.mp zgd_wsL_law_r50), List.forall_mem_append.mpr ⟨(List.all_eq_true.mp zgd_wsL_law_r51), List.forall_mem_append.mpr ⟨(List.all_eq_true.mp zgd_wsL_law_r52), (List.all_eq_true.mp zgd_wsL_law_r53)⟩⟩⟩⟩⟩⟩⟩⟩⟩⟩⟩⟩⟩⟩⟩⟩⟩⟩⟩⟩⟩⟩⟩⟩⟩⟩⟩⟩⟩⟩⟩⟩⟩⟩⟩⟩⟩⟩⟩⟩⟩⟩⟩⟩⟩⟩⟩⟩⟩⟩⟩⟩, (List.all_eq_true.mp zgd_wsX110)⟩, (List.all_eq_true.mp zgd_wsX120)⟩, (List.all_eq_true.mp zgd_wsX50)⟩, (List.all_eq_true.mp zgd_wsX20)⟩, (List.all_eq_true.mp zgd_wsX100)⟩, (List.all_eq_true.mp zgd_wsX70)⟩, (List.all_eq_true.mp zgd_wsX40)⟩, (List.all_eq_true.mp zgd_wsX80)⟩, (List.all_eq_true.mp zgd_wsX60)⟩, (List.all_eq_true.mp zgd_wsX10)⟩, (List.all_eq_true.mp zgd_wsX00)⟩, (List.all_eq_true.mp zgd_wsX30)⟩, (List.all_eq_true.mp zgd_wsX90)⟩, fun _ h => absurd h List.not_mem_nil⟩
theorem inlX0 : ∀ w ∈ wsX00, w ∈ wsL_law := fun _ h => List.mem_append_left _ (List.mem_append_left _ (List.mem_append_left _ (List.mem_append_right _ h)))
theorem inlX1 : ∀ w ∈ wsX10, w ∈ wsL_law := fun _ h => List.mem_append_left _ (List.mem_append_left _ (List.mem_append_left _ (List.mem_append_left _ (List.mem_append_right _ h))))
theorem inlX2 : ∀ w ∈ wsX20, w ∈ wsL_law := fun _ h => List.mem_append_left _ (List.mem_append_left _ (List.mem_append_left _ (List.mem_append_left _ (List.mem_append_left _ (List.mem_append_left _ (List.mem_append_left _ (List.mem_append_left _ (List.mem_append_left _ (List.mem_append_left _ (List.mem_append_right _ h))))))))))
theorem inlX3 : ∀ w ∈ wsX30, w ∈ wsL_law := fun _ h => List.mem_append_left _ (List.mem_append_left _ (List.mem_append_right _ h))
theorem inlX4 : ∀ w ∈ wsX40, w ∈ wsL_law := fun _ h => List.mem_append_left _ (List.mem_append_left _ (List.mem_append_left _ (List.mem_append_left _ (List.mem_append_left _ (List.mem_append_left _ (List.mem_append_left _ (List.mem_append_right _ h)))))))
theorem inlX5 : ∀ w ∈ wsX50, w ∈ wsL_law := fun _ h => List.mem_append_left _ (List.mem_append_left _ (List.mem_append_left _ (List.mem_append_left _ (List.mem_append_left _ (List.mem_append_left _ (List.mem_append_left _ (List.mem_append_left _ (List.mem_append_left _ (List.mem_append_left _ (List.mem_append_left _ (List.mem_append_right _ h)))))))))))
theorem inlX6 : ∀ w ∈ wsX60, w ∈ wsL_law := fun _ h => List.mem_append_left _ (List.mem_append_left _ (List.mem_append_left _ (List.mem_append_left _ (List.mem_append_left _ (List.mem_append_right _ h)))))
theorem inlX7 : ∀ w ∈ wsX70, w ∈ wsL_law := fun _ h => List.mem_append_left _ (List.mem_append_left _ (List.mem_append_left _ (List.mem_append_left _ (List.mem_append_left _ (List.mem_append_left _ (List.mem_append_left _ (List.mem_append_left _ (List.mem_append_right _ h))))))))
theorem inlX8 : ∀ w ∈ wsX80, w ∈ wsL_law := fun _ h => List.mem_append_left _ (List.mem_append_left _ (List.mem_append_left _ (List.mem_append_left _ (List.mem_append_left _ (List.mem_append_left _ (List.mem_append_right _ h))))))
theorem inlX9 : ∀ w ∈ wsX90, w ∈ wsL_law := fun _ h => List.mem_append_left _ (List.mem_append_right _ h)
theorem inlX10 : ∀ w ∈ wsX100, w ∈ wsL_law := fun _ h => List.mem_append_left _ (List.mem_append_left _ (List.mem_append_left _ (List.mem_append_left _ (List.mem_append_left _ (List.mem_append_left _ (List.mem_append_left _ (List.mem_append_left _ (List.mem_append_left _ (List.mem_append_right _ h)))))))))
theorem inlX11 : ∀ w ∈ wsX110, w ∈ wsL_law := fun _ h => List.mem_append_left _ (List.mem_append_left _ (List.mem_append_left _ (List.mem_append_left _ (List.mem_append_left _ (List.mem_append_left _ (List.mem_append_left _ (List.mem_append_left _ (List.mem_append_left _ (List.mem_append_left _ (List.mem_append_left _ (List.mem_append_left _ (List.mem_append_left _ (List.mem_append_right _ h)))))))))))))
theorem inlX12 : ∀ w ∈ wsX120, w ∈ wsL_law := fun _ h => List.mem_append_left _ (List.mem_append_left _ (List.mem_append_left _ (List.mem_append_left _ (List.mem_append_left _ (List.mem_append_left _ (List.mem_append_left _ (List.mem_append_left _ (List.mem_append_left _ (List.mem_append_left _ (List.mem_append_left _ (List.mem_append_left _ (List.mem_append_right _ h))))))))))))
abbrev vwCl : List vw_C := [(RX0, TX0, 5), (RX1, TX1, 8), (RX2, TX2, 6), (RX3, TX3, 7), (RX4, TX4, 9), (RX5, TX5, 6), (RX6, TX6, 7), (RX7, TX7, 5), (RX8, TX8, 5), (RX9, TX9, 6), (RX10, TX10, 11), (RX11, TX11, 9), (RX12, TX12, 31)]
end
section
/-! THE SMALL MACHINE: values, contents, tables (printed by wip/whole/gen/gen_tab.py) -/
abbrev zV : Type := Int ⊕ (Nat × Nat)
abbrev zG : Type := Nat → Nat → Nat → Int
/-- how many cells of each kind: 0 .. 12 objects by class, 20 .. arrays by field, 60 the script, 61 a text, 62 its bytes, 63 the formatter -/
def zCn : List Nat := [2, 13, 1, 3, 1, 2, 3, 1, 2, 1, 1, 1, 1, 0, 0, 0, 0, 0, 0, 0, 2, 2, 2, 2, 1, 1, 1, 1, 3, 3, 3, 1, 3, 3, 3, 1, 1, 1, 1, 2, 2, 2, 2, 1, 1, 1, 1, 1, 1, 1, 1, 1, 1, 1, 1, 1, 1, 0, 0, 0, 1, 25, 25, 1]
/-- the fields of each class: (0 int, 1 boolean, 2 a reference; the kind that it points to; by how much further) -/
def zFd : List (List (Nat × Nat × Nat)) := [[(0, 0, 0), (2, 20, 0), (2, 21, 0), (2, 22, 0), (2, 23, 0)], [(0, 0, 0), (0, 0, 0), (0, 0, 0), (0, 0, 0), (0, 0, 0), (0, 0, 0), (0, 0, 0), (0, 0, 0)], [(0, 0, 0), (0, 0, 0), (2, 24, 0), (2, 25, 0), (2, 26, 0), (2, 27, 0)], [(0, 0, 0), (1, 0, 0), (0, 0, 0), (2, 28, 0), (2, 29, 0), (2, 30, 0), (0, 0, 0)], [(2, 9, 0), (2, 3, 2), (0, 0, 0), (0, 0, 0), (1, 0, 0), (0, 0, 0), (0, 0, 0), (2, 31, 0), (0, 0, 0)], [(2, 8, 0), (2, 6, 0), (2, 1, 0), (2, 0, 0), (2, 3, 0), (0, 0, 0)], [(0, 0, 0), (2, 32, 0), (2, 33, 0), (2, 34, 0), (0, 0, 0), (0, 0, 0), (0, 0, 0)], [(0, 0, 0), (2, 35, 0), (2, 36, 0), (2, 37, 0), (2, 38, 0)], [(0, 0, 0), (2, 39, 0), (2, 40, 0), (2, 41, 0), (2, 42, 0)], [(0, 0, 0), (0, 0, 0), (0, 0, 0), (0, 0, 0), (0, 0, 0), (2, 43, 0)], [(0, 0, 0), (0, 0, 0), (0, 0, 0), (0, 0, 0), (0, 0, 0), (0, 0, 0), (0, 0, 0), (2, 1, 12), (2, 6, 2), (2, 44, 0), (2, 45, 0)], [(2, 5, 0), (2, 5, 1), (1, 0, 0), (2, 2, 0), (2, 10, 0), (2, 7, 0), (2, 4, 0), (0, 0, 0), (0, 0, 0)], [(2, 46, 0), (2, 47, 0), (2, 48, 0), (0, 0, 0), (1, 0, 0), (2, 49, 0), (2, 50, 0), (2, 51, 0), (2, 52, 0), (2, 53, 0), (0, 0, 0), (0, 0, 0), (0, 0, 0), (0, 0, 0), (0, 0, 0), (0, 0, 0), (0, 0, 0), (0, 0, 0), (0, 0, 0), (0, 0, 0), (0, 0, 0), (0, 0, 0), (0, 0, 0), (0, 0, 0), (0, 0, 0), (0, 0, 0), (0, 0, 0), (2, 54, 0), (2, 55, 0), (2, 56, 0), (0, 0, 0)]]
/-- the arrays, kind 20 on: (0 int, 1 byte, 2 references; length) -/
def zAr : List (Nat × Nat) := [(0, 100), (0, 100), (0, 100), (0, 100), (2, 10), (0, 10), (0, 10), (0, 10), (0, 400), (0, 8), (0, 40), (0, 40), (0, 7), (0, 7), (0, 7), (0, 60), (0, 360), (0, 6), (0, 6), (0, 8), (0, 8), (0, 8), (0, 8), (1, 400), (0, 8), (0, 29), (0, 1370), (0, 1370), (0, 170), (0, 48), (0, 820), (0, 400), (0, 420), (0, 8), (0, 8), (0, 8), (0, 8)]
/-- the texts -/
def zTx : List (List Int) := [[101, 114, 114], [119, 104, 101, 110], [111, 114], [97, 110, 100], [110, 111, 116], [110, 117, 109, 98, 101, 114], [119, 111, 114, 100, 115], [116, 117, 114, 110, 101, 100], [119, 101, 97, 107], [103, 108, 97, 115, 115, 101, 115], [114, 117, 110], [112, 97, 99, 101], [59, 43, 45, 42, 47, 40, 41, 60, 61, 62], [119, 104, 101, 110], [111, 114], [97, 110, 100], [110, 111, 116], [101, 114, 114], [110, 117, 109, 98, 101, 114], [119, 111, 114, 100, 115], [116, 117, 114, 110, 101, 100], [119, 101, 97, 107], [103, 108, 97, 115, 115, 101, 115], [114, 117, 110], [112, 97, 99, 101]]
abbrev zMt : Type := Nat × MethodName × ByteArray × Nat × Option FieldType × Nat × Bool
def zM0 : List zMt := [(11, yX11_init, cX11_init, 1, none, 1, false), (5, yX5_init, cX5_init, 1, none, 1, false), (8, yX8_init, cX8_init, 1, none, 1, false), (6, yX6_init, cX6_init, 1, none, 1, false), (1, yX1_init, cX1_init, 1, none, 1, false), (0, yX0_init, cX0_init, 1, none, 1, false), (3, yX3_init, cX3_init, 1, none, 1, false), (2, yX2_init, cX2_init, 2, none, 1, false), (10, yX10_init, cX10_init, 1, none, 1, false), (7, yX7_init, cX7_init, 1, none, 1, false), (4, yX4_init, cX4_init, 1, none, 1, false), (9, yX9_init, cX9_init, 1, none, 1, false), (12, yX12_init, cX12_init, 1, none, 1, false), (11, yX11_state, cX11_state, 3, (some .int), 2, false), (2, yX2_forget, cX2_forget, 1, none, 1, false), (12, yX12_state, cX12_state, 3, (some .int), 2, false)]
def zM1 : List zMt := [(12, yX12_forgets, cX12_forgets, 1, none, 1, false), (11, yX11_person, cX11_person, 2, (some .int), 2, false), (8, yX8_join, cX8_join, 3, (some .int), 2, false), (12, yX12_person, cX12_person, 3, (some .int), 2, false), (12, yX12_isIn, cX12_isIn, 3, (some .boolean), 3, true), (11, yX11_rule, cX11_rule, 4, (some .int), 4, false), (11, yX11_canBeRule, cX11_canBeRule, 3, (some .boolean), 3, true), (6, yX6_append, cX6_append, 6, (some .int), 4, false), (12, yX12_rule, cX12_rule, 4, (some .int), 4, false), (12, yX12_canRule, cX12_canRule, 3, (some .boolean), 3, true), (12, yX12_rules, cX12_rules, 5, none, 5, false), (12, yX12_gives, cX12_gives, 4, none, 4, false), (11, yX11_set, cX11_set, 5, (some .boolean), 4, false), (11, yX11_tell, cX11_tell, 4, (some .boolean), 4, false), (11, yX11_tellPace, cX11_tellPace, 2, (some .boolean), 2, false), (6, yX6_switchTo, cX6_switchTo, 3, (some .boolean), 3, false)]
def zM2 : List zMt := [(6, yX6_isThere, cX6_isThere, 2, (some .boolean), 2, false), (8, yX8_weaken, cX8_weaken, 3, (some .boolean), 3, false), (8, yX8_isThere, cX8_isThere, 2, (some .boolean), 2, false), (8, yX8_fill, cX8_fill, 3, (some .boolean), 3, false), (11, yX11_tellNext, cX11_tellNext, 2, (some .boolean), 2, false), (11, yX11_isNumber, cX11_isNumber, 1, (some .boolean), 1, true), (11, yX11_tellAt, cX11_tellAt, 2, (some .boolean), 2, false), (12, yX12_set, cX12_set, 4, (some .boolean), 4, false), (12, yX12_isRule, cX12_isRule, 2, (some .boolean), 2, false), (12, yX12_isPerson, cX12_isPerson, 2, (some .boolean), 2, false), (11, yX11_change, cX11_change, 3, (some .boolean), 3, false), (8, yX8_swap, cX8_swap, 5, none, 3, false), (8, yX8_seatOf, cX8_seatOf, 2, (some .int), 2, false), (12, yX12_change, cX12_change, 4, (some .boolean), 3, false), (11, yX11_feed, cX11_feed, 7, (some .int), 6, false), (9, yX9_put, cX9_put, 3, none, 2, false)]
def zM3 : List zMt := [(12, yX12_feed, cX12_feed, 8, (some .int), 6, false), (11, yX11_end, cX11_end, 2, (some .boolean), 2, false), (9, yX9_cut, cX9_cut, 2, (some .boolean), 2, false), (12, yX12_end, cX12_end, 2, (some .boolean), 2, false), (11, yX11_text, cX11_text, 1, (some .int), 1, false), (4, yX4_compile, cX4_compile, 3, (some .int), 1, false), (4, yX4_begin, cX4_begin, 1, none, 1, false), (9, yX9_rewind, cX9_rewind, 1, none, 1, false), (3, yX3_clear, cX3_clear, 1, none, 1, false), (9, yX9_advance, cX9_advance, 2, none, 1, false), (9, yX9_sign, cX9_sign, 2, (some .int), 2, false), (9, yX9_isBlank, cX9_isBlank, 1, (some .boolean), 1, true), (9, yX9_isLetter, cX9_isLetter, 1, (some .boolean), 1, true), (9, yX9_readWord, cX9_readWord, 1, none, 1, false), (9, yX9_keyword, cX9_keyword, 1, (some .int), 1, false), (9, yX9_spells, cX9_spells, 3, (some .boolean), 2, false)]
def zM4 : List zMt := [(17, yJ0_length_8abf5, cJ0_length_8abf5, 1, (some .int), 1, false), (17, yJ0_coder_7d493, cJ0_coder_7d493, 1, (some .byte), 1, false), (17, yJ0_charAt_5068e, cJ0_charAt_5068e, 2, (some .char), 2, false), (17, yJ0_isLatin1_aae02, cJ0_isLatin1_aae02, 1, (some .boolean), 1, false), (18, yJ1_charAt_3b067, cJ1_charAt_3b067, 2, (some .char), 2, true), (17, yJ0_checkIndex_df160, cJ0_checkIndex_df160, 2, none, 2, true), (22, yJ3_checkIndex_8e157, cJ3_checkIndex_8e157, 3, (some .int), 3, true), (19, yJ2_charAt_3b067, cJ2_charAt_3b067, 2, (some .char), 2, true), (19, yJ2_checkIndex_2214a, cJ2_checkIndex_2214a, 2, none, 2, true), (19, yJ2_length_9d52b, cJ2_length_9d52b, 1, (some .int), 1, true), (19, yJ2_getChar_3b067, cJ2_getChar_3b067, 2, (some .char), 2, true), (9, yX9_isDigit, cX9_isDigit, 1, (some .boolean), 1, true), (9, yX9_readNumber, cX9_readNumber, 1, none, 1, false), (17, yJ0_indexOf_0f7a4, cJ0_indexOf_0f7a4, 2, (some .int), 2, false), (17, yJ0_indexOf_7cf53, cJ0_indexOf_7cf53, 3, (some .int), 3, false), (18, yJ1_indexOf_4cfef, cJ1_indexOf_4cfef, 4, (some .int), 4, true)]
def zM5 : List zMt := [(16, Lib.Math.max.name, Lib.Math.max.code, 2, (some .int), 2, true), (16, Lib.Math.min.name, Lib.Math.min.code, 2, (some .int), 2, true), (18, yJ1_canEncode_9a6ad, cJ1_canEncode_9a6ad, 1, (some .boolean), 1, true), (18, yJ1_indexOfChar_4cfef, cJ1_indexOfChar_4cfef, 6, (some .int), 4, true), (19, yJ2_indexOf_4cfef, cJ2_indexOf_4cfef, 4, (some .int), 4, true), (19, yJ2_indexOfChar_4cfef, cJ2_indexOfChar_4cfef, 4, (some .int), 4, true), (19, yJ2_checkBoundsBeginEnd_d044e, cJ2_checkBoundsBeginEnd_d044e, 3, none, 3, true), (17, yJ0_checkBoundsBeginEnd_23922, cJ0_checkBoundsBeginEnd_23922, 3, none, 3, true), (22, yJ3_checkFromToIndex_8c36e, cJ3_checkFromToIndex_8c36e, 4, (some .int), 4, true), (19, yJ2_indexOfCharUnsafe_4cfef, cJ2_indexOfCharUnsafe_4cfef, 5, (some .int), 4, true), (19, yJ2_indexOfSupplementary_4cfef, cJ2_indexOfSupplementary_4cfef, 7, (some .int), 4, true), (14, yJ11_isValidCodePoint_9a6ad, cJ11_isValidCodePoint_9a6ad, 2, (some .boolean), 1, true), (14, yJ11_highSurrogate_5068e, cJ11_highSurrogate_5068e, 1, (some .char), 1, true), (14, yJ11_lowSurrogate_5068e, cJ11_lowSurrogate_5068e, 1, (some .char), 1, true), (4, yX4_take, cX4_take, 2, (some .int), 2, false), (4, yX4_takeLine, cX4_takeLine, 2, (some .int), 2, false)]
def zM6 : List zMt := [(4, yX4_takeOpening, cX4_takeOpening, 2, (some .int), 2, false), (4, yX4_await, cX4_await, 2, none, 2, false), (4, yX4_takeUnit, cX4_takeUnit, 2, (some .int), 2, false), (3, yX3_emit, cX3_emit, 2, none, 2, false), (4, yX4_takePart, cX4_takePart, 2, (some .int), 2, false), (4, yX4_levelOf, cX4_levelOf, 1, (some .int), 1, true), (4, yX4_takeReckoning, cX4_takeReckoning, 2, (some .int), 2, false), (4, yX4_joinBy, cX4_joinBy, 3, (some .int), 3, false), (4, yX4_joinWaiting, cX4_joinWaiting, 3, none, 2, false), (4, yX4_takeComparison, cX4_takeComparison, 2, (some .int), 2, false), (4, yX4_takeJoin, cX4_takeJoin, 2, (some .int), 2, false), (4, yX4_endLine, cX4_endLine, 1, (some .int), 1, false), (4, yX4_takeWhen, cX4_takeWhen, 1, (some .int), 1, false), (4, yX4_closeBracket, cX4_closeBracket, 1, (some .int), 1, false), (3, yX3_copy, cX3_copy, 2, none, 2, false), (12, yX12_text, cX12_text, 3, (some .int), 1, false)]
def zM7 : List zMt := [(12, yX12_next0, cX12_next0, 3, none, 1, false), (12, yX12_see, cX12_see, 2, (some .int), 2, false), (12, yX12_isLetter, cX12_isLetter, 1, (some .boolean), 1, true), (12, yX12_word, cX12_word, 1, (some .int), 1, false), (12, yX12_is, cX12_is, 4, (some .boolean), 2, false), (12, yX12_nameWord, cX12_nameWord, 1, (some .int), 1, false), (12, yX12_isDigit, cX12_isDigit, 1, (some .boolean), 1, true), (12, yX12_aLine, cX12_aLine, 1, (some .boolean), 1, false), (12, yX12_bad, cX12_bad, 2, (some .boolean), 2, false), (12, yX12_sumUp, cX12_sumUp, 2, (some .boolean), 1, false), (12, yX12_product, cX12_product, 3, (some .boolean), 1, false), (12, yX12_unit, cX12_unit, 2, (some .boolean), 1, false), (12, yX12_lay, cX12_lay, 3, none, 3, false), (12, yX12_any, cX12_any, 1, (some .boolean), 1, false), (12, yX12_every, cX12_every, 1, (some .boolean), 1, false), (12, yX12_oneTest, cX12_oneTest, 2, (some .boolean), 1, false)]
def zM8 : List zMt := [(12, yX12_opens, cX12_opens, 1, (some .boolean), 1, false), (12, yX12_need, cX12_need, 2, (some .boolean), 2, false), (11, yX11_fault, cX11_fault, 2, (some .int), 2, false), (12, yX12_fault, cX12_fault, 2, (some .int), 2, false), (11, yX11_play, cX11_play, 6, (some .int), 2, false), (5, yX5_runAhead, cX5_runAhead, 2, (some .int), 2, false), (6, yX6_runUpTo, cX6_runUpTo, 4, (some .int), 2, false), (6, yX6_mask, cX6_mask, 5, (some .int), 2, false), (6, yX6_figuresOf, cX6_figuresOf, 4, (some .int), 1, true), (6, yX6_holds, cX6_holds, 4, (some .boolean), 4, true), (11, yX11_playNumber, cX11_playNumber, 6, (some .boolean), 3, false), (8, yX8_sitter, cX8_sitter, 2, (some .int), 2, false), (5, yX5_odds, cX5_odds, 5, (some .int), 5, false), (15, yJ6_bitCount_0f7a4, cJ6_bitCount_0f7a4, 1, (some .int), 1, true), (8, yX8_weakOf, cX8_weakOf, 2, (some .int), 2, false), (8, yX8_glassesOf, cX8_glassesOf, 2, (some .int), 2, false)]
def zM9 : List zMt := [(3, yX3_odds, cX3_odds, 8, (some .int), 8, false), (3, yX3_firstLine, cX3_firstLine, 5, (some .int), 1, false), (3, yX3_pop, cX3_pop, 1, (some .int), 1, false), (3, yX3_work, cX3_work, 4, none, 2, false), (3, yX3_push, cX3_push, 2, none, 2, false), (3, yX3_joined, cX3_joined, 3, (some .int), 3, true), (2, yX2_keep, cX2_keep, 3, none, 3, false), (16, yJ9_floorMod_7cf53, cJ9_floorMod_7cf53, 3, (some .int), 2, true), (1, yX1_copy, cX1_copy, 2, none, 2, false), (1, yX1_draw, cX1_draw, 2, (some .int), 2, false), (5, yX5_err, cX5_err, 2, none, 2, false), (8, yX8_allGlasses, cX8_allGlasses, 3, (some .int), 1, false), (0, yX0_write, cX0_write, 5, none, 5, false), (1, yX1_restart, cX1_restart, 1, none, 1, false), (5, yX5_say, cX5_say, 3, none, 3, false), (1, yX1_goOn, cX1_goOn, 4, none, 4, false)]
def zM10 : List zMt := [(6, yX6_turnsIn, cX6_turnsIn, 2, (some .int), 2, false), (6, yX6_skipsIn, cX6_skipsIn, 2, (some .int), 2, false), (12, yX12_play, cX12_play, 4, (some .int), 2, false), (12, yX12_keeps, cX12_keeps, 2, none, 1, false), (12, yX12_plays, cX12_plays, 4, (some .boolean), 1, false), (12, yX12_beginsNow, cX12_beginsNow, 1, none, 1, false), (12, yX12_runTo, cX12_runTo, 4, (some .int), 2, false), (12, yX12_rulesOf, cX12_rulesOf, 4, (some .int), 2, false), (12, yX12_own, cX12_own, 3, (some .int), 3, false), (12, yX12_hasFigure, cX12_hasFigure, 3, (some .boolean), 2, true), (12, yX12_whoOn, cX12_whoOn, 3, (some .int), 2, false), (12, yX12_oddsFor, cX12_oddsFor, 3, (some .int), 2, false), (12, yX12_count, cX12_count, 5, (some .int), 3, false), (12, yX12_comesTo, cX12_comesTo, 7, (some .int), 3, false), (12, yX12_both, cX12_both, 3, (some .int), 3, true), (12, yX12_least, cX12_least, 2, (some .int), 2, true)]
def zM11 : List zMt := [(12, yX12_most, cX12_most, 2, (some .int), 2, true), (12, yX12_draw, cX12_draw, 2, (some .int), 2, false), (12, yX12_errs, cX12_errs, 3, none, 2, false), (12, yX12_glassesOfAll, cX12_glassesOfAll, 3, (some .int), 1, false), (12, yX12_goesOn, cX12_goesOn, 3, none, 1, false), (11, yX11_of, cX11_of, 3, (some .int), 3, false), (11, yX11_oddsOfNext, cX11_oddsOfNext, 4, (some .int), 2, false), (12, yX12_of, cX12_of, 3, (some .int), 3, false), (11, yX11_told, cX11_told, 3, (some .int), 3, false), (6, yX6_sortOf, cX6_sortOf, 2, (some .int), 2, false), (6, yX6_numberOf, cX6_numberOf, 2, (some .int), 2, false), (6, yX6_turnOf, cX6_turnOf, 2, (some .int), 2, false), (6, yX6_isOn, cX6_isOn, 2, (some .boolean), 2, false), (12, yX12_told, cX12_told, 3, (some .int), 3, false), (11, yX11_has, cX11_has, 2, (some .int), 2, false), (12, yX12_has, cX12_has, 2, (some .int), 2, false)]
def zM12 : List zMt := [(11, yX11_book, cX11_book, 3, (some .int), 3, false), (0, yX0_entry, cX0_entry, 3, (some .int), 3, false), (12, yX12_book, cX12_book, 3, (some .int), 3, false), (11, yX11_whose, cX11_whose, 2, (some .int), 2, false), (11, yX11_canComeTo, cX11_canComeTo, 2, (some .boolean), 2, false), (10, yX10_sayerOf, cX10_sayerOf, 4, (some .int), 3, false), (12, yX12_whose, cX12_whose, 2, (some .int), 2, false), (12, yX12_canCome, cX12_canCome, 2, (some .boolean), 2, false), (11, yX11_get, cX11_get, 2, (some .int), 2, false), (10, yX10_chance, cX10_chance, 10, (some .int), 4, false), (12, yX12_get, cX12_get, 2, (some .int), 2, false), (12, yX12_getsTo, cX12_getsTo, 3, (some .int), 2, false), (11, yX11_hardest, cX11_hardest, 2, (some .int), 2, false), (12, yX12_hardest, cX12_hardest, 5, (some .int), 2, false), (11, yX11_words, cX11_words, 3, (some .int), 3, false), (10, yX10_countWords, cX10_countWords, 5, none, 3, false)]
def zM13 : List zMt := [(21, yJ7_fill_53178, cJ7_fill_53178, 4, none, 2, true), (1, yX1_goToStart, cX1_goToStart, 1, none, 1, false), (10, yX10_wordsOf, cX10_wordsOf, 2, (some .int), 2, false), (12, yX12_words, cX12_words, 3, (some .int), 3, false), (12, yX12_laysWords, cX12_laysWords, 3, none, 2, false), (12, yX12_beginsAnew, cX12_beginsAnew, 1, none, 1, false), (11, yX11_sit, cX11_sit, 2, (some .int), 2, false), (10, yX10_bestSeat, cX10_bestSeat, 4, (some .int), 2, false), (12, yX12_sit, cX12_sit, 4, (some .int), 2, false), (11, yX11_plain, cX11_plain, 4, (some .int), 4, false), (11, yX11_isSpan, cX11_isSpan, 2, (some .boolean), 2, true), (10, yX10_countRuns, cX10_countRuns, 6, none, 4, false), (12, yX12_plain, cX12_plain, 10, (some .int), 4, false), (12, yX12_isSpan, cX12_isSpan, 2, (some .boolean), 2, true), (11, yX11_third, cX11_third, 5, (some .int), 5, false), (10, yX10_oneMore, cX10_oneMore, 5, (some (.object "SevenUnsaid$Rules")), 5, false)]
def zM14 : List zMt := [(6, yX6_copy, cX6_copy, 2, none, 2, false), (12, yX12_third, cX12_third, 6, (some .int), 5, false), (11, yX11_fewest, cX11_fewest, 4, (some .int), 4, false), (10, yX10_tryRules, cX10_tryRules, 6, none, 4, false), (10, yX10_takeBy, cX10_takeBy, 4, none, 2, false), (12, yX12_fewest, cX12_fewest, 11, (some .int), 4, false), (12, yX12_plainWith, cX12_plainWith, 7, (some .int), 5, false), (11, yX11_seating, cX11_seating, 4, (some .int), 3, false), (10, yX10_layOut, cX10_layOut, 8, none, 4, false), (7, yX7_putSeat, cX7_putSeat, 3, none, 3, false), (7, yX7_putOdds, cX7_putOdds, 4, none, 4, false), (7, yX7_search, cX7_search, 6, none, 3, false), (7, yX7_chanceInOrder, cX7_chanceInOrder, 6, (some .int), 2, false), (7, yX7_nextOrder, cX7_nextOrder, 6, (some .boolean), 2, false), (7, yX7_exchange, cX7_exchange, 4, none, 3, false), (7, yX7_bestOn, cX7_bestOn, 2, (some .int), 2, false)]
def zM15 : List zMt := [(12, yX12_seating, cX12_seating, 5, (some .int), 3, false), (12, yX12_sits, cX12_sits, 7, none, 4, false), (11, yX11_behind, cX11_behind, 3, (some .int), 3, false), (0, yX0_pairs, cX0_pairs, 5, (some .int), 3, false), (12, yX12_behind, cX12_behind, 5, (some .int), 3, false), (11, yX11_undo, cX11_undo, 1, (some .boolean), 1, false), (2, yX2_goBack, cX2_goBack, 2, (some .boolean), 2, false), (12, yX12_undo, cX12_undo, 2, (some .boolean), 1, false), (11, yX11_image, cX11_image, 2, (some .boolean), 2, false), (5, yX5_copy, cX5_copy, 2, none, 2, false), (8, yX8_copy, cX8_copy, 2, none, 2, false), (0, yX0_copy, cX0_copy, 2, none, 2, false), (12, yX12_image, cX12_image, 3, (some .boolean), 2, false), (11, yX11_look, cX11_look, 2, (some .int), 2, false), (12, yX12_look, cX12_look, 2, (some .int), 2, false), (13, yL_law, cL_law, 4, (some .boolean), 1, true)]
def zM : List zMt := zM0 ++ (zM1 ++ (zM2 ++ (zM3 ++ (zM4 ++ (zM5 ++ (zM6 ++ (zM7 ++ (zM8 ++ (zM9 ++ (zM10 ++ (zM11 ++ (zM12 ++ (zM13 ++ (zM14 ++ (zM15)))))))))))))))
def zR : List String := [RX0, RX1, RX2, RX3, RX4, RX5, RX6, RX7, RX8, RX9, RX10, RX11, RX12, RL, RJ11, RJ6, RJ9, RJ0, RJ1, RJ2, RJ10, RJ7, RJ3]
def zLf : List (List (Nat × Nat × Nat)) := [[(9, 0, 1), (15, 0, 2), (18, 0, 3), (21, 0, 4), (24, 0, 0)], [(9, 1, 0), (15, 1, 2), (18, 1, 7), (21, 1, 1), (24, 1, 3), (27, 1, 4), (30, 1, 5), (33, 1, 6)], [(11, 2, 2), (17, 2, 3), (21, 2, 4), (24, 2, 5), (28, 2, 0), (32, 2, 1), (41, 5, 2), (51, 5, 0), (61, 5, 3), (65, 0, 0)], [(9, 3, 3), (15, 3, 4), (18, 3, 5), (21, 3, 0), (25, 3, 1), (29, 3, 2), (38, 3, 6)], [(12, 4, 0), (21, 4, 1), (25, 4, 7), (35, 9, 1), (39, 4, 2), (52, 4, 3), (55, 4, 4), (59, 4, 5), (62, 4, 6), (65, 4, 8), (92, 3, 0), (99, 9, 2)], [(12, 5, 0), (21, 5, 1), (28, 5, 2), (35, 5, 3), (42, 5, 4), (66, 3, 1), (70, 1, 0), (82, 1, 3), (62, 5, 5), (105, 1, 7), (119, 1, 4), (125, 1, 5), (128, 8, 0)], [(9, 6, 1), (15, 6, 2), (18, 6, 3), (21, 6, 0), (31, 6, 4), (34, 6, 5), (37, 6, 6)], [(9, 7, 1), (15, 7, 2), (18, 7, 3), (21, 7, 4), (24, 7, 0)], [(9, 8, 1), (15, 8, 2), (18, 8, 3), (21, 8, 4), (24, 8, 0)], [(9, 9, 1), (15, 9, 5), (19, 9, 0), (22, 9, 4), (33, 9, 3), (59, 9, 2)], [(11, 10, 0), (15, 10, 3), (21, 10, 7), (28, 10, 8), (32, 10, 9), (36, 10, 10), (39, 5, 2), (48, 1, 0), (51, 5, 1), (58, 5, 0), (62, 8, 0), (71, 1, 1), (112, 10, 1), (115, 10, 2), (122, 10, 4), (125, 10, 5), (128, 10, 6)], [(10, 11, 0), (16, 11, 1), (22, 11, 3), (29, 11, 4), (36, 11, 5), (43, 11, 6), (47, 11, 8), (51, 5, 2), (55, 1, 6), (63, 5, 0), (67, 8, 0), (80, 5, 1), (84, 6, 0), (286, 5, 5), (146, 1, 0), (277, 1, 1), (104, 4, 0), (108, 9, 0), (122, 11, 7), (125, 9, 3), (128, 5, 4), (132, 4, 1), (139, 3, 0), (184, 5, 3), (205, 10, 0), (225, 10, 1), (228, 10, 2), (231, 10, 3), (241, 10, 4), (244, 10, 5), (247, 10, 6), (257, 7, 0), (273, 11, 2), (280, 1, 2), (283, 1, 3), (289, 1, 4), (292, 1, 5), (295, 0, 0), (296, 2, 0)], [(7, 12, 0), (13, 12, 1), (16, 12, 2), (19, 12, 5), (22, 12, 6), (25, 12, 7), (28, 12, 8), (31, 12, 9), (34, 12, 21), (38, 12, 27), (41, 12, 28), (44, 12, 29), (51, 12, 3), (77, 12, 12), (146, 12, 17), (80, 12, 13), (193, 12, 10), (158, 12, 11), (131, 12, 14), (199, 12, 19), (149, 12, 18), (83, 12, 15), (143, 12, 16), (161, 12, 20), (219, 12, 23), (217, 12, 22), (222, 12, 24), (225, 12, 25), (230, 12, 26), (293, 12, 30), (299, 12, 4)], [], [], [], [], [(9, 61, 0), (15, 61, 1)], [], [], [], [], []]
def zLm : List (List (Nat × Nat)) := [[(28, 999)], [(39, 160), (45, 161), (48, 151), (36, 157)], [(68, 81), (35, 151), (47, 152), (55, 143), (71, 35)], [(32, 999), (45, 81), (51, 80), (41, 145), (54, 146), (57, 147), (61, 148), (64, 149)], [(29, 54), (46, 55), (49, 56), (32, 57), (42, 94), (68, 95), (71, 96), (95, 97), (74, 98), (102, 99), (77, 100), (80, 101), (83, 102), (105, 103), (119, 104), (86, 105), (89, 106), (109, 107), (113, 108), (116, 109)], [(73, 134), (77, 141), (85, 142), (88, 143), (91, 144), (95, 81), (101, 35), (108, 155), (112, 156), (116, 157), (122, 80), (131, 159), (46, 250), (50, 224), (53, 152), (56, 251), (59, 110)], [(40, 32), (57, 135), (44, 136), (48, 137), (52, 141), (25, 999)], [(32, 999), (28, 236), (38, 237), (43, 238)], [(34, 34), (38, 44), (28, 999)], [(25, 58), (29, 59), (36, 60), (39, 61), (55, 62), (64, 63), (90, 64), (93, 66), (42, 75), (45, 76), (50, 77)], [(44, 152), (54, 135), (67, 159), (74, 139), (78, 133), (82, 140), (93, 208), (99, 209), (86, 224), (89, 23), (118, 228), (131, 136), (102, 233), (108, 234)], [(21, 7), (60, 14), (72, 18), (76, 22), (89, 23), (93, 29), (297, 30), (300, 31), (303, 33), (306, 35), (309, 36), (181, 37), (312, 38), (96, 34), (100, 43), (111, 47), (115, 50), (118, 53), (133, 110), (142, 133), (149, 135), (152, 138), (315, 139), (318, 140), (322, 150), (325, 153), (328, 154), (331, 158), (156, 142), (159, 143), (162, 44), (165, 182), (168, 32), (169, 185), (172, 186), (175, 187), (178, 188), (188, 193), (194, 196), (197, 197), (201, 201), (208, 207), (212, 210), (215, 215), (218, 218), (221, 219), (234, 223), (238, 227), (250, 232), (254, 235), (260, 239), (263, 243), (266, 246), (270, 249)], [(54, 16), (47, 20), (63, 25), (66, 26), (59, 27), (70, 40), (74, 41), (155, 112), (127, 113), (134, 114), (137, 115), (98, 116), (86, 64), (92, 66), (124, 117), (140, 118), (196, 119), (152, 120), (190, 121), (164, 122), (172, 123), (168, 124), (184, 125), (175, 126), (178, 127), (181, 128), (187, 129), (267, 163), (270, 164), (248, 165), (227, 166), (214, 167), (206, 168), (210, 169), (251, 170), (254, 171), (233, 172), (236, 173), (202, 174), (239, 175), (242, 176), (257, 177), (260, 178), (245, 179), (264, 180), (273, 199), (277, 203), (283, 212), (280, 213), (286, 221), (289, 230), (296, 241)], [(9, 0), (12, 12), (13, 13), (17, 15), (18, 17), (21, 19), (22, 21), (26, 24), (27, 28), (31, 39), (32, 42), (36, 45), (37, 46), (41, 48), (42, 49), (46, 51), (47, 52), (51, 111), (52, 130), (55, 131), (56, 132), (59, 162), (60, 181), (64, 183), (65, 184), (68, 189), (69, 190), (72, 191), (73, 192), (76, 194), (77, 195), (80, 198), (81, 200), (84, 202), (85, 204), (88, 205), (89, 206), (92, 211), (93, 214), (96, 216), (97, 217), (100, 220), (101, 222), (105, 225), (106, 226), (109, 229), (110, 231), (113, 240), (114, 242), (117, 244), (118, 245), (122, 247), (123, 248), (127, 252), (128, 253), (131, 254)], [], [], [], [(335, 65), (492, 67), (495, 68), (1059, 70), (498, 71), (633, 78), (505, 64), (637, 79), (640, 84), (1062, 88)], [(9, 69), (92, 80), (38, 81), (88, 82), (95, 83)], [(67, 72), (48, 73), (414, 69), (71, 74), (224, 80), (183, 81), (228, 85), (96, 86), (241, 87), (244, 89), (232, 90), (164, 91), (157, 92), (161, 93)], [], [], []]
def zLc : List (List (Nat × Int)) := [[], [(54, 1664525), (55, 1013904223)], [], [], [], [], [], [(42, 1000000)], [], [], [(77, 1000000)], [], [(57, 1664525), (58, 1013904223), (276, 1000000)], [], [(110, 55232), (76, 56320)], [(265, 1431655765), (266, 858993459), (267, 252645135)], [], [], [], [(227, 65536)], [], [], []]
def zLs : List (List (Nat × Nat)) := [[], [], [], [], [], [], [], [], [], [(62, 0), (68, 1), (70, 2), (72, 3), (74, 4), (76, 5), (78, 6), (80, 7), (82, 8), (84, 9), (86, 10), (88, 11), (48, 12)], [], [], [(114, 13), (116, 14), (118, 15), (120, 16), (122, 17), (96, 18), (102, 19), (104, 20), (106, 21), (108, 22), (110, 23), (112, 24)], [], [], [], [], [], [], [], [], [], []]
def zLg : List (List (Nat × Nat)) := [[], [], [], [], [], [], [], [], [], [], [], [], [], [], [], [], [], [(38, 0), (1053, 1)], [], [], [], [], []]
end
section
/-! THE SMALL MACHINE: one step, a run, its value -/
abbrev zRt : Type := (Option zV) ⊕ ((Nat × List (Option zV) × List zV × zG) ⊕ (Nat × List zV × Nat × List zV))
def zLk {α : Type} (t : List (List (Nat × α))) (o i : Nat) : Option α := (t.getD o []).lookup i
def zwr (x : Int) : Int := (Int32.ofInt x).toInt
def zand (a b : Int) : Int := (Int32.ofInt a &&& Int32.ofInt b).toInt
def zor (a b : Int) : Int := (Int32.ofInt a ||| Int32.ofInt b).toInt
def zxor (a b : Int) : Int := (Int32.ofInt a ^^^ Int32.ofInt b).toInt
def zshl (a b : Int) : Int := (Int32.ofInt a <<< (Int32.ofInt b &&& 31)).toInt
def zshr (a b : Int) : Int := (Int32.ofInt a >>> (Int32.ofInt b &&& 31)).toInt
def zushr (a b : Int) : Int := ((Int32.ofInt a).toUInt32 >>> ((Int32.ofInt b).toUInt32 &&& Int32.toUInt32 31)).toInt32.toInt
def zi2b (a : Int) : Int := (Int32.ofInt a).toInt8.toInt32.toInt
def zi2c (a : Int) : Int := ((Int32.ofInt a).toUInt32 % 65536).toInt32.toInt
/-- one place of the contents is written -/
def zU (g : zG) (k j i : Nat) (x : Int) : zG := fun k' j' i' => if k' = k ∧ j' = j ∧ i' = i then x else g k' j' i'
def zF (c s : Nat) : Option (Nat × Nat × Nat) := if c = 61 then (if s = 0 then some (2, 62, 0) else some (3, 0, 0)) else (zFd.getD c [])[s]?
def zA (k : Nat) : Option (Nat × Nat) := if 20 ≤ k then zAr[k - 20]? else none
def zMt0 : zMt := (0, objectInit, ⟨#[]⟩, 0, none, 0, false)
def zMe (y : Nat) : zMt := zM.getD y zMt0
def zOw (y : Nat) : Nat := (zMe y).1
def zNm (y : Nat) : MethodName := (zMe y).2.1
def zBy (y : Nat) : ByteArray := (zMe y).2.2.1
def zMl (y : Nat) : Nat := (zMe y).2.2.2.1
def zRy (y : Nat) : Option FieldType := (zMe y).2.2.2.2.1
def zNa (y : Nat) : Nat := if y = 999 then 5 else (zMe y).2.2.2.2.2.1
def zSt (y : Nat) : Bool := if y = 999 then true else (zMe y).2.2.2.2.2.2
/-- the kind of a method's receiver -/
def zKd (y : Nat) : Nat := if zOw y < 13 then zOw y else 61
/-- what a method gives back: 0 nothing, 1 a number, 2 a reference -/
def zRk (y : Nat) : Nat := if y = 999 then 0 else match zRy y with
  | none => 0
  | some (.object _) => 2
  | some (.array _) => 2
  | some _ => 1
def zjp (pc : Nat) (off : Int) : Option Nat := if 0 ≤ (pc : Int) + off then some ((pc : Int) + off).toNat else none
def znx (pc : Nat) (ls : List (Option zV)) (st : List zV) (g : zG) : Option zRt := some (.inr (.inl (pc, ls, st, g)))
def zgo (pc : Nat) (off : Int) (ls : List (Option zV)) (st : List zV) (g : zG) : Option zRt := match zjp pc off with
  | none => none
  | some t => znx t ls st g
def zbr (b : Bool) (pc : Nat) (off : Int) (ls : List (Option zV)) (st : List zV) (g : zG) : Option zRt := match b with
  | true => zgo pc off ls st g
  | false => znx (pc + 3) ls st g
def zcm (c : ClassFile.Cond) (a b : Int) : Bool := match c with
  | .eq => decide (a = b)
  | .ne => decide (a ≠ b)
  | .lt => decide (a < b)
  | .ge => decide (b ≤ a)
  | .gt => decide (b < a)
  | .le => decide (a ≤ b)
def zld (p2 : Nat) (k : Nat) (ls : List (Option zV)) (st : List zV) (g : zG) (isI : Bool) : Option zRt := match ls[k]? with
  | some (some (.inl x)) => if isI = true then znx p2 ls (.inl x :: st) g else none
  | some (some (.inr r)) => if isI = false ∧ r.1 ≠ 63 then znx p2 ls (.inr r :: st) g else none
  | _ => none
def zsto (p2 : Nat) (k : Nat) (ls : List (Option zV)) (st : List zV) (g : zG) (isI : Bool) : Option zRt := match st with
  | .inl x :: r => if isI = true ∧ k < ls.length then znx p2 (ls.set k (some (.inl x))) r g else none
  | .inr x :: r => if isI = false ∧ k < ls.length ∧ x.1 ≠ 63 then znx p2 (ls.set k (some (.inr x))) r g else none
  | _ => none
def zbin (f : Int → Int → Int) (pc : Nat) (ls : List (Option zV)) (st : List zV) (g : zG) : Option zRt := match st with
  | .inl b :: .inl a :: r => znx (pc + 1) ls (.inl (f a b) :: r) g
  | _ => none
def zdivs (f : Int → Int → Int) (pc : Nat) (ls : List (Option zV)) (st : List zV) (g : zG) : Option zRt := match st with
  | .inl b :: .inl a :: r => if b = 0 then none else znx (pc + 1) ls (.inl (f a b) :: r) g
  | _ => none
def zpush (p2 : Nat) (x : Int) (ls : List (Option zV)) (st : List zV) (g : zG) : Option zRt := if zwr x = x then znx p2 ls (.inl x :: st) g else none
def zldc (y p2 i : Nat) (ls : List (Option zV)) (st : List zV) (g : zG) (strs : Bool) : Option zRt := match zLk zLc (zOw y) i with
  | some v => zpush p2 v ls st g
  | none => match zLk zLs (zOw y) i with
    | some j => if j < 25 ∧ strs = true then znx p2 ls (.inr (61, j) :: st) g else none
    | none => none
def zgetf (y pc i : Nat) (ls : List (Option zV)) (st : List zV) (g : zG) : Option zRt := match st with
  | .inr (k, j) :: r => match zLk zLf (zOw y) i with
    | some (c, s) => if k = c then (match zF c s with
      | some (2, tk, off) => znx (pc + 3) ls (.inr (tk, if off = 0 then j else off + j) :: r) g
      | some (3, _, _) => znx (pc + 3) ls (.inl 0 :: r) g
      | some _ => znx (pc + 3) ls (.inl (g c j s) :: r) g
      | none => none) else none
    | none => none
  | _ => none
def zputf (y pc i : Nat) (ls : List (Option zV)) (st : List zV) (g : zG) : Option zRt := match st with
  | .inl x :: .inr (k, j) :: r => match zLk zLf (zOw y) i with
    | some (c, s) => if k = c then (match zF c s with
      | some (0, _, _) => znx (pc + 3) ls r (zU g c j s x)
      | some (1, _, _) => if x = 0 ∨ x = 1 then znx (pc + 3) ls r (zU g c j s x) else none
      | _ => none) else none
    | none => none
  | _ => none
def zal (k j : Nat) (g : zG) : Option Int := match zA k with
  | some (_, n) => some n
  | none => if k = 60 then some (g 60 1 0) else if k = 62 then some (zTx.getD j []).length else none
def zaload (e : Nat) (pc : Nat) (ls : List (Option zV)) (st : List zV) (g : zG) : Option zRt := match st with
  | .inl i :: .inr (k, j) :: r => match zA k with
    | some (e', n) => if e' = e ∧ 0 ≤ i ∧ i < n then (if e = 2 then znx (pc + 1) ls (.inr (1, 2 + i.toNat) :: r) g else znx (pc + 1) ls (.inl (g k j i.toNat) :: r) g) else none
    | none => if k = 60 ∧ e = 0 then (if 0 ≤ i ∧ i < g 60 1 0 then znx (pc + 1) ls (.inl (g 60 0 i.toNat) :: r) g else none)
      else if k = 62 ∧ e = 1 then (if 0 ≤ i ∧ i < (zTx.getD j []).length then znx (pc + 1) ls (.inl ((zTx.getD j []).getD i.toNat 0) :: r) g else none) else none
  | _ => none
def zastore (e : Nat) (f : Int → Int) (pc : Nat) (ls : List (Option zV)) (st : List zV) (g : zG) : Option zRt := match st with
  | .inl x :: .inl i :: .inr (k, j) :: r => match zA k with
    | some (e', n) => if e' = e ∧ 0 ≤ i ∧ i < n then znx (pc + 1) ls r (zU g k j i.toNat (f x)) else none
    | none => none
  | _ => none
def zrtok (t : Option FieldType) (x : Int) : Bool := match t with
  | some .int => true
  | some .boolean => decide (x = 0 ∨ x = 1)
  | some .char => decide (0 ≤ x ∧ x < 65536)
  | some .byte => decide (-128 ≤ x ∧ x < 128)
  | _ => false
def zcall (y pc i : Nat) (st : List zV) (virt : Bool) : Option zRt := match zLk zLm (zOw y) i with
  | some y' => if zNa y' ≤ st.length ∧ (st.drop (zNa y')).length ≤ 8 ∧ zSt y' = !virt then
      (match virt, (st.take (zNa y')).reverse with
      | false, as => some (.inr (.inr (y', as, pc + 3, st.drop (zNa y'))))
      | true, .inr (k, j) :: as => if k = zKd y' then some (.inr (.inr (y', .inr (k, j) :: as, pc + 3, st.drop (zNa y')))) else none
      | true, _ => none) else none
  | none => none
def zswT (pc : Nat) (d lo hi : Int) (os : Array Int) (ls : List (Option zV)) (st : List zV) (g : zG) : Option zRt := match st with
  | .inl x :: r => if x < lo ∨ hi < x then zgo pc d ls r g else match os[(x - lo).toNat]? with
    | some o => zgo pc o ls r g
    | none => none
  | _ => none
def zswL (pc : Nat) (d : Int) (ps : Array (Int × Int)) (ls : List (Option zV)) (st : List zV) (g : zG) : Option zRt := match st with
  | .inl x :: r => if (ps.toList.zip (ps.toList.drop 1)).all (fun (a, next) => decide (a.1 < next.1)) = true then zgo pc (Op.lookupswitch.offset ps.toList d x) ls r g else none
  | _ => none
/-- one instruction -/
def zex (y pc : Nat) (I : Instr) (n : Nat) (ls : List (Option zV)) (st : List zV) (g : zG) : Option zRt := match I with
  | .iconst k => if n = 1 then zpush (pc + 1) k ls st g else none
  | .bipush k => if n = 2 ∧ (Int8.ofInt k).toInt32 = Int32.ofInt k then zpush (pc + 2) k ls st g else none
  | .sipush k => if n = 3 ∧ (Int16.ofInt k).toInt32 = Int32.ofInt k then zpush (pc + 3) k ls st g else none
  | .ldc i => if n = 2 then zldc y (pc + 2) i ls st g true else none
  | .ldc_w i => if n = 3 then zldc y (pc + 3) i ls st g false else none
  | .iload k => if n = 2 then zld (pc + 2) k ls st g true else none
  | .iload_n k => if n = 1 then zld (pc + 1) k ls st g true else none
  | .aload k => if n = 2 then zld (pc + 2) k ls st g false else none
  | .aload_n k => if n = 1 then zld (pc + 1) k ls st g false else none
  | .istore k => if n = 2 then zsto (pc + 2) k ls st g true else none
  | .istore_n k => if n = 1 then zsto (pc + 1) k ls st g true else none
  | .astore k => if n = 2 then zsto (pc + 2) k ls st g false else none
  | .astore_n k => if n = 1 then zsto (pc + 1) k ls st g false else none
  | .iinc k c => if n = 3 then (match ls[k]? with
    | some (some (.inl x)) => znx (pc + 3) (ls.set k (some (.inl (zwr (x + c))))) st g
    | _ => none) else none
  | .iadd => if n = 1 then zbin (fun a b => zwr (a + b)) pc ls st g else none
  | .isub => if n = 1 then zbin (fun a b => zwr (a - b)) pc ls st g else none
  | .imul => if n = 1 then zbin (fun a b => zwr (a * b)) pc ls st g else none
  | .iand => if n = 1 then zbin zand pc ls st g else none
  | .ior => if n = 1 then zbin zor pc ls st g else none
  | .ixor => if n = 1 then zbin zxor pc ls st g else none
  | .ishl => if n = 1 then zbin zshl pc ls st g else none
  | .ishr => if n = 1 then zbin zshr pc ls st g else none
  | .iushr => if n = 1 then zbin zushr pc ls st g else none
  | .idiv => if n = 1 then zdivs (fun a b => zwr (Int.tdiv a b)) pc ls st g else none
  | .irem => if n = 1 then zdivs (fun a b => Int.tmod a b) pc ls st g else none
  | .ineg => if n = 1 then (match st with
    | .inl a :: r => znx (pc + 1) ls (.inl (zwr (-a)) :: r) g
    | _ => none) else none
  | .i2b => if n = 1 then (match st with
    | .inl a :: r => znx (pc + 1) ls (.inl (zi2b a) :: r) g
    | _ => none) else none
  | .i2c => if n = 1 then (match st with
    | .inl a :: r => znx (pc + 1) ls (.inl (zi2c a) :: r) g
    | _ => none) else none
  | .dup => if n = 1 then (match st with
    | a :: r => znx (pc + 1) ls (a :: a :: r) g
    | _ => none) else none
  | .dup2 => if n = 1 then (match st with
    | a :: b :: r => znx (pc + 1) ls (a :: b :: a :: b :: r) g
    | _ => none) else none
  | .pop => if n = 1 then (match st with
    | _ :: r => znx (pc + 1) ls r g
    | _ => none) else none
  | .goto o => if n = 3 then zgo pc o ls st g else none
  | .ifCond c o => if n = 3 then (match st with
    | .inl a :: r => zbr (zcm c a 0) pc o ls r g
    | _ => none) else none
  | .if_icmp c o => if n = 3 then (match st with
    | .inl b :: .inl a :: r => zbr (zcm c a b) pc o ls r g
    | _ => none) else none
  | .getfield i => if n = 3 then zgetf y pc i ls st g else none
  | .putfield i => if n = 3 then zputf y pc i ls st g else none
  | .getstatic i => if n = 3 then (match zLk zLg (zOw y) i with
    | some 0 => znx (pc + 3) ls (.inl 1 :: st) g
    | some 1 => znx (pc + 3) ls (.inr (63, 0) :: st) g
    | _ => none) else none
  | .iaload => if n = 1 then zaload 0 pc ls st g else none
  | .baload => if n = 1 then zaload 1 pc ls st g else none
  | .aaload => if n = 1 then zaload 2 pc ls st g else none
  | .iastore => if n = 1 then zastore 0 id pc ls st g else none
  | .bastore => if n = 1 then zastore 1 zi2b pc ls st g else none
  | .arraylength => if n = 1 then (match st with
    | .inr (k, j) :: r => (match zal k j g with
      | some v => znx (pc + 1) ls (.inl v :: r) g
      | none => none)
    | _ => none) else none
  | .ireturn => if n = 1 then (match st with
    | [.inl x] => if zrtok (zRy y) x = true then some (.inl (some (.inl x))) else none
    | _ => none) else none
  | .areturn => if n = 1 then (match st with
    | [.inr (k, j)] => if zRk y = 2 ∧ k ≠ 63 then some (.inl (some (.inr (k, j)))) else none
    | _ => none) else none
  | .return_ => if n = 1 then (match st with
    | [] => if zRk y = 0 then some (.inl none) else none
    | _ => none) else none
  | .invokevirtual i => if n = 3 then zcall y pc i st true else none
  | .invokestatic i => if n = 3 then zcall y pc i st false else none
  | .tableswitch d lo hi os => zswT pc d lo hi os ls st g
  | .lookupswitch d ps => zswL pc d ps ls st g
  | _ => none
def zstep (y pc : Nat) (ls : List (Option zV)) (st : List zV) (g : zG) : Option zRt := match decode (zBy y) pc with
  | .ok (I, n) => zex y pc I n ls st g
  | .error _ => none
/-- System.arraycopy between two arrays of numbers -/
def zcp (as : List zV) (g : zG) : Option (Option zV × zG) := match as with
  | [.inr (k, j), .inl sp, .inr (k2, j2), .inl dp, .inl n] => match zA k, zA k2 with
    | some (0, m), some (0, m2) => if 0 ≤ sp ∧ 0 ≤ dp ∧ 0 ≤ n ∧ sp + n ≤ m ∧ dp + n ≤ m2 then
        some (none, fun a b i => if a = k2 ∧ b = j2 then (if dp.toNat ≤ i ∧ i < dp.toNat + n.toNat then g k j (sp.toNat + (i - dp.toNat)) else g a b i) else g a b i) else none
    | _, _ => none
  | _ => none
/-- what comes back from a call, laid on the stack -/
def zrt (y : Nat) (rv : Option zV) (st : List zV) : Option (List zV) := match rv with
  | none => if zRk y = 0 then some st else none
  | some (.inl x) => if zRk y = 1 then some (.inl x :: st) else none
  | some (.inr r) => if zRk y = 2 then some (.inr r :: st) else none
def zini (y : Nat) (as : List zV) : List (Option zV) := as.map some ++ List.replicate (zMl y - as.length) none
def zrun : Nat → Nat → Nat → Nat → List (Option zV) → List zV → zG → Option (Option zV × zG)
  | 0, _, _, _, _, _, _ => none
  | n + 1, d, y, pc, ls, st, g => match zstep y pc ls st g with
    | none => none
    | some (.inl rv) => some (rv, g)
    | some (.inr (.inl (pc', ls', st', g'))) => zrun n d y pc' ls' st' g'
    | some (.inr (.inr (y', as, pc', st'))) => match d with
      | 0 => none
      | d' + 1 => match (if y' = 999 then zcp as g else if as.length ≤ zMl y' then zrun n d' y' 0 (zini y' as) [] g else none) with
        | none => none
        | some (rv, g') => match zrt y' rv st' with
          | none => none
          | some st'' => zrun n (d' + 1) y pc' ls st'' g'
theorem zrun_mono : ∀ (n d y pc : Nat) (ls : List (Option zV)) (st : List zV) (g : zG) (r : Option zV × zG), zrun n d y pc ls st g = some r → ∀ k, zrun (n + k) d y pc ls st g = some r := by
  intro n
  induction n with
  | zero => intro d y pc ls st g r h; simp [zrun] at h
  | succ n ih =>
    intro d y pc ls st g r h k
    rw [show n + 1 + k = (n + k) + 1 by omega]
    simp only [zrun] at h ⊢
    cases hs : zstep y pc ls st g with
    | none => rw [hs] at h; simp at h
    | some x =>
      rw [hs] at h
      rcases x with rv | ⟨pc', ls', st', g'⟩ | ⟨y', as, pc', st'⟩
      · exact h
      · exact ih _ _ _ _ _ _ _ h k
      · cases d with
        | zero => simp at h
        | succ d' =>
          simp only at h ⊢
          cases hc : (if y' = 999 then zcp as g else if as.length ≤ zMl y' then zrun n d' y' 0 (zini y' as) [] g else none) with
          | none => rw [hc] at h; simp at h
          | some q =>
            have hc' : (if y' = 999 then zcp as g else if as.length ≤ zMl y' then zrun (n + k) d' y' 0 (zini y' as) [] g else none) = some q := by
              by_cases e : y' = 999
              · rw [if_pos e] at hc ⊢; exact hc
              · rw [if_neg e] at hc ⊢
                by_cases e2 : as.length ≤ zMl y'
                · rw [if_pos e2] at hc ⊢; exact ih _ _ _ _ _ _ _ hc k
                · rw [if_neg e2] at hc; cases hc
            rw [hc] at h
            rw [hc']
            obtain ⟨rv, g'⟩ := q
            simp only at h ⊢
            cases hr : zrt y' rv st' with
            | none => rw [hr] at h; simp at h
            | some st'' =>
              rw [hr] at h
              exact ih _ _ _ _ _ _ _ h k
theorem zrun_one {n m d y pc : Nat} {ls : List (Option zV)} {st : List zV} {g : zG} {r q : Option zV × zG} (h : zrun n d y pc ls st g = some r) (h2 : zrun m d y pc ls st g = some q) : r = q := by
  have a := zrun_mono _ _ _ _ _ _ _ _ h m
  have b := zrun_mono _ _ _ _ _ _ _ _ h2 n
  rw [Nat.add_comm] at b
  rw [a] at b
  exact Option.some.inj b
/-- the value of a run from a place of a method on -/
noncomputable def Ev (d y pc : Nat) (ls : List (Option zV)) (st : List zV) (g : zG) : Option (Option zV × zG) :=
  @dite _ (∃ r n, zrun n d y pc ls st g = some r) (Classical.propDecidable _) (fun h => some h.choose) (fun _ => none)
theorem Ev_some {d y pc : Nat} {ls : List (Option zV)} {st : List zV} {g : zG} {r : Option zV × zG} : Ev d y pc ls st g = some r ↔ ∃ n, zrun n d y pc ls st g = some r := by
  unfold Ev
  by_cases h : ∃ r n, zrun n d y pc ls st g = some r
  · rw [dif_pos h]
    obtain ⟨m, hm⟩ := h.choose_spec
    constructor
    · intro e
      have e := Option.some.inj e
      exact ⟨m, by rw [hm, e]⟩
    · rintro ⟨n, hn⟩
      rw [zrun_one hn hm]
  · rw [dif_neg h]
    constructor
    · intro e; cases e
    · rintro ⟨n, hn⟩; exact absurd ⟨r, n, hn⟩ h
/-- a whole method -/
noncomputable def EvM (d y : Nat) (as : List zV) (g : zG) : Option (Option zV × zG) := if y = 999 then zcp as g else if as.length ≤ zMl y then Ev d y 0 (zini y as) [] g else none
/-- behind a call -/
noncomputable def zct (d y p2 : Nat) (ls : List (Option zV)) (y' : Nat) (X : Option (Option zV × zG)) (rest : List zV) : Option (Option zV × zG) := match X with
  | none => none
  | some (rv, g') => match zrt y' rv rest with
    | none => none
    | some st'' => Ev d y p2 ls st'' g'
noncomputable def zfin (d y : Nat) (x : Option zRt) (ls : List (Option zV)) (g : zG) : Option (Option zV × zG) := match x with
  | none => none
  | some (.inl rv) => some (rv, g)
  | some (.inr (.inl (pc', ls', st', g'))) => Ev d y pc' ls' st' g'
  | some (.inr (.inr (y', as, pc', st'))) => match d with
    | 0 => none
    | d' + 1 => zct (d' + 1) y pc' ls y' (EvM d' y' as g) st'
theorem EvM_some {d y : Nat} {as : List zV} {g : zG} {r : Option zV × zG} : EvM d y as g = some r ↔ ∃ n, (if y = 999 then zcp as g else if as.length ≤ zMl y then zrun n d y 0 (zini y as) [] g else none) = some r := by
  unfold EvM
  by_cases e : y = 999
  · simp only [if_pos e]
    exact ⟨fun h => ⟨0, h⟩, fun ⟨_, h⟩ => h⟩
  · simp only [if_neg e]
    by_cases e2 : as.length ≤ zMl y
    · simp only [if_pos e2]
      exact Ev_some
    · simp only [if_neg e2]
      exact ⟨fun h => ⟨0, h⟩, fun ⟨_, h⟩ => h⟩
theorem Ev_step (d y pc : Nat) (ls : List (Option zV)) (st : List zV) (g : zG) : Ev d y pc ls st g = zfin d y (zstep y pc ls st g) ls g := by
  apply Option.ext
  intro r
  rw [Ev_some]
  constructor
  · rintro ⟨n, h⟩
    cases n with
    | zero => simp [zrun] at h
    | succ n =>
      simp only [zrun] at h
      cases hs : zstep y pc ls st g with
      | none => rw [hs] at h; simp at h
      | some x =>
        rw [hs] at h
        rcases x with rv | ⟨pc', ls', st', g'⟩ | ⟨y', as, pc', st'⟩
        · exact h
        · exact Ev_some.mpr ⟨n, h⟩
        · cases d with
          | zero => simp at h
          | succ d' =>
            simp only at h
            simp only [zfin, zct]
            cases hc : (if y' = 999 then zcp as g else if as.length ≤ zMl y' then zrun n d' y' 0 (zini y' as) [] g else none) with
            | none => rw [hc] at h; simp at h
            | some q =>
              rw [hc] at h
              rw [EvM_some.mpr ⟨n, hc⟩]
              obtain ⟨rv, g'⟩ := q
              simp only at h ⊢
              cases hr : zrt y' rv st' with
              | none => rw [hr] at h; simp at h
              | some st'' =>
                rw [hr] at h
                exact Ev_some.mpr ⟨n, h⟩
  · intro h
    cases hs : zstep y pc ls st g with
    | none => rw [hs] at h; simp [zfin] at h
    | some x =>
      rw [hs] at h
      rcases x with rv | ⟨pc', ls', st', g'⟩ | ⟨y', as, pc', st'⟩
      · exact ⟨1, by simp only [zrun, hs]; exact h⟩
      · obtain ⟨n, hn⟩ := Ev_some.mp h
        exact ⟨n + 1, by simp only [zrun, hs]; exact hn⟩
      · cases d with
        | zero => simp [zfin] at h
        | succ d' =>
          simp only [zfin, zct] at h
          cases hc : EvM d' y' as g with
          | none => rw [hc] at h; simp at h
          | some q =>
            rw [hc] at h
            obtain ⟨rv, g'⟩ := q
            simp only at h
            cases hr : zrt y' rv st' with
            | none => rw [hr] at h; simp at h
            | some st'' =>
              rw [hr] at h
              obtain ⟨n, hn⟩ := Ev_some.mp h
              obtain ⟨m, hm⟩ := EvM_some.mp hc
              refine ⟨n + m + 1, ?_⟩
              have hm' : (if y' = 999 then zcp as g else if as.length ≤ zMl y' then zrun (n + m) d' y' 0 (zini y' as) [] g else none) = some (rv, g') := by
                by_cases e : y' = 999
                · rw [if_pos e] at hm ⊢; exact hm
                · rw [if_neg e] at hm ⊢
                  by_cases e2 : as.length ≤ zMl y'
                  · rw [if_pos e2] at hm ⊢
                    rw [Nat.add_comm]; exact zrun_mono _ _ _ _ _ _ _ _ hm n
                  · rw [if_neg e2] at hm; cases hm
              simp only [zrun, hs, hm', hr]
              exact zrun_mono _ _ _ _ _ _ _ _ hn m
end
section
/-! THE SMALL MACHINE: an equation an instruction -/
def zbI (o : Option (Option zV × zG)) (k : Int → zG → Option (Option zV × zG)) : Option (Option zV × zG) := match o with
  | some (some (.inl r), g') => k r g'
  | _ => none
def zbV (o : Option (Option zV × zG)) (k : zG → Option (Option zV × zG)) : Option (Option zV × zG) := match o with
  | some (none, g') => k g'
  | _ => none
def zbR (o : Option (Option zV × zG)) (k : Nat × Nat → zG → Option (Option zV × zG)) : Option (Option zV × zG) := match o with
  | some (some (.inr r), g') => k r g'
  | _ => none
theorem zbI_some (r : Int) (g : zG) (k : Int → zG → Option (Option zV × zG)) : zbI (some (some (.inl r), g)) k = k r g := rfl
theorem zbV_some (g : zG) (k : zG → Option (Option zV × zG)) : zbV (some (none, g)) k = k g := rfl
theorem zbR_some (r : Nat × Nat) (g : zG) (k : Nat × Nat → zG → Option (Option zV × zG)) : zbR (some (some (.inr r), g)) k = k r g := rfl
section ST
variable {d y pc k n c s tk off j i t kd : Nat} {ls : List (Option zV)} {st r : List zV} {g : zG} {x a b v o : Int} {I : Instr} {q : Nat × Nat}
theorem st_of (h : decode (zBy y) pc = .ok (I, n)) : Ev d y pc ls st g = zfin d y (zex y pc I n ls st g) ls g := by rw [Ev_step, zstep, h]
theorem st_nx {p2 : Nat} {ls2 : List (Option zV)} {st2 : List zV} {g2 : zG} (h : decode (zBy y) pc = .ok (I, n)) (e : zex y pc I n ls st g = znx p2 ls2 st2 g2) : Ev d y pc ls st g = Ev d y p2 ls2 st2 g2 := by rw [st_of h, e]; rfl
theorem st_iconst (h : decode (zBy y) pc = .ok (.iconst x, 1)) (e : zwr x = x) : Ev d y pc ls st g = Ev d y (pc + 1) ls (.inl x :: st) g := st_nx h (by simp [zex, zpush, e])
theorem st_bipush (h : decode (zBy y) pc = .ok (.bipush x, 2)) (e : (Int8.ofInt x).toInt32 = Int32.ofInt x ∧ zwr x = x) : Ev d y pc ls st g = Ev d y (pc + 2) ls (.inl x :: st) g := st_nx h (by simp [zex, zpush, e.1, e.2])
theorem st_sipush (h : decode (zBy y) pc = .ok (.sipush x, 3)) (e : (Int16.ofInt x).toInt32 = Int32.ofInt x ∧ zwr x = x) : Ev d y pc ls st g = Ev d y (pc + 3) ls (.inl x :: st) g := st_nx h (by simp [zex, zpush, e.1, e.2])
theorem st_ldc (h : decode (zBy y) pc = .ok (.ldc i, 2)) (e : zLk zLc (zOw y) i = some x ∧ zwr x = x) : Ev d y pc ls st g = Ev d y (pc + 2) ls (.inl x :: st) g := st_nx h (by simp [zex, zldc, zpush, e.1, e.2])
theorem st_ldc_w (h : decode (zBy y) pc = .ok (.ldc_w i, 3)) (e : zLk zLc (zOw y) i = some x ∧ zwr x = x) : Ev d y pc ls st g = Ev d y (pc + 3) ls (.inl x :: st) g := st_nx h (by simp [zex, zldc, zpush, e.1, e.2])
theorem st_ldcS (h : decode (zBy y) pc = .ok (.ldc i, 2)) (e : zLk zLc (zOw y) i = none ∧ zLk zLs (zOw y) i = some j ∧ j < 25) : Ev d y pc ls st g = Ev d y (pc + 2) ls (.inr (61, j) :: st) g := st_nx h (by simp [zex, zldc, e.1, e.2.1, e.2.2])
theorem st_iload (h : decode (zBy y) pc = .ok (.iload k, 2)) (e : ls[k]? = some (some (.inl x))) : Ev d y pc ls st g = Ev d y (pc + 2) ls (.inl x :: st) g := st_nx h (by simp [zex, zld, e])
theorem st_iload_n {k : Fin 4} (h : decode (zBy y) pc = .ok (.iload_n k, 1)) (e : ls[k.val]? = some (some (.inl x))) : Ev d y pc ls st g = Ev d y (pc + 1) ls (.inl x :: st) g := st_nx h (by simp only [zex, zld, e]; simp)
theorem st_aload (h : decode (zBy y) pc = .ok (.aload k, 2)) (e : ls[k]? = some (some (.inr q))) (e2 : q.1 ≠ 63) : Ev d y pc ls st g = Ev d y (pc + 2) ls (.inr q :: st) g := st_nx h (by simp [zex, zld, e, e2])
theorem st_aload_n {k : Fin 4} (h : decode (zBy y) pc = .ok (.aload_n k, 1)) (e : ls[k.val]? = some (some (.inr q))) (e2 : q.1 ≠ 63) : Ev d y pc ls st g = Ev d y (pc + 1) ls (.inr q :: st) g := st_nx h (by simp only [zex, zld, e]; simp [e2])
theorem st_istore (h : decode (zBy y) pc = .ok (.istore k, 2)) (e : k < ls.length) : Ev d y pc ls (.inl x :: r) g = Ev d y (pc + 2) (ls.set k (some (.inl x))) r g := st_nx h (by simp [zex, zsto, e])
theorem st_istore_n {k : Fin 4} (h : decode (zBy y) pc = .ok (.istore_n k, 1)) (e : k.val < ls.length) : Ev d y pc ls (.inl x :: r) g = Ev d y (pc + 1) (ls.set k (some (.inl x))) r g := st_nx h (by simp [zex, zsto, e])
theorem st_astore (h : decode (zBy y) pc = .ok (.astore k, 2)) (e : k < ls.length) (e2 : q.1 ≠ 63) : Ev d y pc ls (.inr q :: r) g = Ev d y (pc + 2) (ls.set k (some (.inr q))) r g := st_nx h (by simp [zex, zsto, e, e2])
theorem st_astore_n {k : Fin 4} (h : decode (zBy y) pc = .ok (.astore_n k, 1)) (e : k.val < ls.length) (e2 : q.1 ≠ 63) : Ev d y pc ls (.inr q :: r) g = Ev d y (pc + 1) (ls.set k (some (.inr q))) r g := st_nx h (by simp [zex, zsto, e, e2])
theorem st_iinc (h : decode (zBy y) pc = .ok (.iinc k o, 3)) (e : ls[k]? = some (some (.inl x))) : Ev d y pc ls st g = Ev d y (pc + 3) (ls.set k (some (.inl (zwr (x + o))))) st g := st_nx h (by simp [zex, e])
theorem st_iadd (h : decode (zBy y) pc = .ok (.iadd, 1)) : Ev d y pc ls (.inl b :: .inl a :: r) g = Ev d y (pc + 1) ls (.inl (zwr (a + b)) :: r) g := st_nx h (by simp [zex, zbin])
theorem st_isub (h : decode (zBy y) pc = .ok (.isub, 1)) : Ev d y pc ls (.inl b :: .inl a :: r) g = Ev d y (pc + 1) ls (.inl (zwr (a - b)) :: r) g := st_nx h (by simp [zex, zbin])
theorem st_imul (h : decode (zBy y) pc = .ok (.imul, 1)) : Ev d y pc ls (.inl b :: .inl a :: r) g = Ev d y (pc + 1) ls (.inl (zwr (a * b)) :: r) g := st_nx h (by simp [zex, zbin])
theorem st_iand (h : decode (zBy y) pc = .ok (.iand, 1)) : Ev d y pc ls (.inl b :: .inl a :: r) g = Ev d y (pc + 1) ls (.inl (zand a b) :: r) g := st_nx h (by simp [zex, zbin])
theorem st_ior (h : decode (zBy y) pc = .ok (.ior, 1)) : Ev d y pc ls (.inl b :: .inl a :: r) g = Ev d y (pc + 1) ls (.inl (zor a b) :: r) g := st_nx h (by simp [zex, zbin])
theorem st_ixor (h : decode (zBy y) pc = .ok (.ixor, 1)) : Ev d y pc ls (.inl b :: .inl a :: r) g = Ev d y (pc + 1) ls (.inl (zxor a b) :: r) g := st_nx h (by simp [zex, zbin])
theorem st_ishl (h : decode (zBy y) pc = .ok (.ishl, 1)) : Ev d y pc ls (.inl b :: .inl a :: r) g = Ev d y (pc + 1) ls (.inl (zshl a b) :: r) g := st_nx h (by simp [zex, zbin])
theorem st_ishr (h : decode (zBy y) pc = .ok (.ishr, 1)) : Ev d y pc ls (.inl b :: .inl a :: r) g = Ev d y (pc + 1) ls (.inl (zshr a b) :: r) g := st_nx h (by simp [zex, zbin])
theorem st_iushr (h : decode (zBy y) pc = .ok (.iushr, 1)) : Ev d y pc ls (.inl b :: .inl a :: r) g = Ev d y (pc + 1) ls (.inl (zushr a b) :: r) g := st_nx h (by simp [zex, zbin])
theorem st_fail (h : decode (zBy y) pc = .ok (I, n)) (e : zex y pc I n ls st g = none) : Ev d y pc ls st g = none := by rw [st_of h, e]; rfl
theorem st_idiv (h : decode (zBy y) pc = .ok (.idiv, 1)) : Ev d y pc ls (.inl b :: .inl a :: r) g = if b = 0 then none else Ev d y (pc + 1) ls (.inl (zwr (Int.tdiv a b)) :: r) g := by
  by_cases e : b = 0
  · rw [if_pos e]; exact st_fail h (by simp [zex, zdivs, e])
  · rw [if_neg e]; exact st_nx h (by simp [zex, zdivs, e])
theorem st_irem (h : decode (zBy y) pc = .ok (.irem, 1)) : Ev d y pc ls (.inl b :: .inl a :: r) g = if b = 0 then none else Ev d y (pc + 1) ls (.inl (Int.tmod a b) :: r) g := by
  by_cases e : b = 0
  · rw [if_pos e]; exact st_fail h (by simp [zex, zdivs, e])
  · rw [if_neg e]; exact st_nx h (by simp [zex, zdivs, e])
theorem st_ineg (h : decode (zBy y) pc = .ok (.ineg, 1)) : Ev d y pc ls (.inl a :: r) g = Ev d y (pc + 1) ls (.inl (zwr (-a)) :: r) g := st_nx h (by simp [zex])
theorem st_i2b (h : decode (zBy y) pc = .ok (.i2b, 1)) : Ev d y pc ls (.inl a :: r) g = Ev d y (pc + 1) ls (.inl (zi2b a) :: r) g := st_nx h (by simp [zex])
theorem st_i2c (h : decode (zBy y) pc = .ok (.i2c, 1)) : Ev d y pc ls (.inl a :: r) g = Ev d y (pc + 1) ls (.inl (zi2c a) :: r) g := st_nx h (by simp [zex])
theorem st_dup {a : zV} (h : decode (zBy y) pc = .ok (.dup, 1)) : Ev d y pc ls (a :: r) g = Ev d y (pc + 1) ls (a :: a :: r) g := st_nx h (by simp [zex])
theorem st_dup2 {a b : zV} (h : decode (zBy y) pc = .ok (.dup2, 1)) : Ev d y pc ls (a :: b :: r) g = Ev d y (pc + 1) ls (a :: b :: a :: b :: r) g := st_nx h (by simp [zex])
theorem st_pop {a : zV} (h : decode (zBy y) pc = .ok (.pop, 1)) : Ev d y pc ls (a :: r) g = Ev d y (pc + 1) ls r g := st_nx h (by simp [zex])
theorem st_goto (h : decode (zBy y) pc = .ok (.goto o, 3)) (e : zjp pc o = some t) : Ev d y pc ls st g = Ev d y t ls st g := st_nx h (by simp [zex, zgo, e])
theorem st_br {bb : Bool} {p : Prop} [Decidable p] (h : decode (zBy y) pc = .ok (I, 3)) (hx : zex y pc I 3 ls st g = zbr bb pc o ls r g) (hb : bb = decide p) (e : zjp pc o = some t) : Ev d y pc ls st g = if p then Ev d y t ls r g else Ev d y (pc + 3) ls r g := by
  by_cases hp : p
  · rw [if_pos hp]; exact st_nx h (by rw [hx, hb]; simp [zbr, zgo, e, hp])
  · rw [if_neg hp]; exact st_nx h (by rw [hx, hb]; simp [zbr, hp])
theorem st_if_eq (h : decode (zBy y) pc = .ok (.ifCond .eq o, 3)) (e : zjp pc o = some t) : Ev d y pc ls (.inl a :: r) g = if a = 0 then Ev d y t ls r g else Ev d y (pc + 3) ls r g := st_br h rfl rfl e
theorem st_if_ne (h : decode (zBy y) pc = .ok (.ifCond .ne o, 3)) (e : zjp pc o = some t) : Ev d y pc ls (.inl a :: r) g = if a ≠ 0 then Ev d y t ls r g else Ev d y (pc + 3) ls r g := st_br h rfl rfl e
theorem st_if_lt (h : decode (zBy y) pc = .ok (.ifCond .lt o, 3)) (e : zjp pc o = some t) : Ev d y pc ls (.inl a :: r) g = if a < 0 then Ev d y t ls r g else Ev d y (pc + 3) ls r g := st_br h rfl rfl e
theorem st_if_ge (h : decode (zBy y) pc = .ok (.ifCond .ge o, 3)) (e : zjp pc o = some t) : Ev d y pc ls (.inl a :: r) g = if 0 ≤ a then Ev d y t ls r g else Ev d y (pc + 3) ls r g := st_br h rfl rfl e
theorem st_if_gt (h : decode (zBy y) pc = .ok (.ifCond .gt o, 3)) (e : zjp pc o = some t) : Ev d y pc ls (.inl a :: r) g = if 0 < a then Ev d y t ls r g else Ev d y (pc + 3) ls r g := st_br h rfl rfl e
theorem st_if_le (h : decode (zBy y) pc = .ok (.ifCond .le o, 3)) (e : zjp pc o = some t) : Ev d y pc ls (.inl a :: r) g = if a ≤ 0 then Ev d y t ls r g else Ev d y (pc + 3) ls r g := st_br h rfl rfl e
theorem st_ic_eq (h : decode (zBy y) pc = .ok (.if_icmp .eq o, 3)) (e : zjp pc o = some t) : Ev d y pc ls (.inl b :: .inl a :: r) g = if a = b then Ev d y t ls r g else Ev d y (pc + 3) ls r g := st_br h rfl rfl e
theorem st_ic_ne (h : decode (zBy y) pc = .ok (.if_icmp .ne o, 3)) (e : zjp pc o = some t) : Ev d y pc ls (.inl b :: .inl a :: r) g = if a ≠ b then Ev d y t ls r g else Ev d y (pc + 3) ls r g := st_br h rfl rfl e
theorem st_ic_lt (h : decode (zBy y) pc = .ok (.if_icmp .lt o, 3)) (e : zjp pc o = some t) : Ev d y pc ls (.inl b :: .inl a :: r) g = if a < b then Ev d y t ls r g else Ev d y (pc + 3) ls r g := st_br h rfl rfl e
theorem st_ic_ge (h : decode (zBy y) pc = .ok (.if_icmp .ge o, 3)) (e : zjp pc o = some t) : Ev d y pc ls (.inl b :: .inl a :: r) g = if b ≤ a then Ev d y t ls r g else Ev d y (pc + 3) ls r g := st_br h rfl rfl e
theorem st_ic_gt (h : decode (zBy y) pc = .ok (.if_icmp .gt o, 3)) (e : zjp pc o = some t) : Ev d y pc ls (.inl b :: .inl a :: r) g = if b < a then Ev d y t ls r g else Ev d y (pc + 3) ls r g := st_br h rfl rfl e
theorem st_ic_le (h : decode (zBy y) pc = .ok (.if_icmp .le o, 3)) (e : zjp pc o = some t) : Ev d y pc ls (.inl b :: .inl a :: r) g = if a ≤ b then Ev d y t ls r g else Ev d y (pc + 3) ls r g := st_br h rfl rfl e
theorem st_getI (h : decode (zBy y) pc = .ok (.getfield i, 3)) (e : zLk zLf (zOw y) i = some (c, s) ∧ (zF c s).map Prod.fst = some t ∧ t < 2) : Ev d y pc ls (.inr (c, j) :: r) g = Ev d y (pc + 3) ls (.inl (g c j s) :: r) g := by
  obtain ⟨e1, e2, e3⟩ := e
  refine st_nx h ?_
  cases hf : zF c s with
  | none => rw [hf] at e2; simp at e2
  | some f =>
    obtain ⟨f1, f2, f3⟩ := f
    rw [hf] at e2
    simp at e2
    subst e2
    rcases (show f1 = 0 ∨ f1 = 1 by omega) with q | q <;> subst q <;> simp [zex, zgetf, e1, hf]
theorem st_getR (h : decode (zBy y) pc = .ok (.getfield i, 3)) (e : zLk zLf (zOw y) i = some (c, s) ∧ zF c s = some (2, tk, off)) : Ev d y pc ls (.inr (c, j) :: r) g = Ev d y (pc + 3) ls (.inr (tk, if off = 0 then j else off + j) :: r) g := st_nx h (by simp [zex, zgetf, e.1, e.2])
theorem st_get0 (h : decode (zBy y) pc = .ok (.getfield i, 3)) (e : zLk zLf (zOw y) i = some (c, s) ∧ zF c s = some (3, 0, 0)) : Ev d y pc ls (.inr (c, j) :: r) g = Ev d y (pc + 3) ls (.inl 0 :: r) g := st_nx h (by simp [zex, zgetf, e.1, e.2])
theorem st_putI (h : decode (zBy y) pc = .ok (.putfield i, 3)) (e : zLk zLf (zOw y) i = some (c, s) ∧ zF c s = some (0, 0, 0)) : Ev d y pc ls (.inl x :: .inr (c, j) :: r) g = Ev d y (pc + 3) ls r (zU g c j s x) := st_nx h (by simp [zex, zputf, e.1, e.2])
theorem st_putZ (h : decode (zBy y) pc = .ok (.putfield i, 3)) (e : zLk zLf (zOw y) i = some (c, s) ∧ zF c s = some (1, 0, 0)) : Ev d y pc ls (.inl x :: .inr (c, j) :: r) g = if x = 0 ∨ x = 1 then Ev d y (pc + 3) ls r (zU g c j s x) else none := by
  by_cases hx : x = 0 ∨ x = 1
  · rw [if_pos hx]; exact st_nx h (by simp [zex, zputf, e.1, e.2, hx])
  · rw [if_neg hx]; exact st_fail h (by simp [zex, zputf, e.1, e.2, hx])
theorem st_gs0 (h : decode (zBy y) pc = .ok (.getstatic i, 3)) (e : zLk zLg (zOw y) i = some 0) : Ev d y pc ls st g = Ev d y (pc + 3) ls (.inl 1 :: st) g := st_nx h (by simp [zex, e])
theorem st_gs1 (h : decode (zBy y) pc = .ok (.getstatic i, 3)) (e : zLk zLg (zOw y) i = some 1) : Ev d y pc ls st g = Ev d y (pc + 3) ls (.inr (63, 0) :: st) g := st_nx h (by simp [zex, e])
theorem st_iald (h : decode (zBy y) pc = .ok (.iaload, 1)) (e : zA k = some (0, n)) : Ev d y pc ls (.inl x :: .inr (k, j) :: r) g = if 0 ≤ x ∧ x < n then Ev d y (pc + 1) ls (.inl (g k j x.toNat) :: r) g else none := by
  by_cases hx : 0 ≤ x ∧ x < n
  · rw [if_pos hx]; exact st_nx h (by simp [zex, zaload, e, hx])
  · rw [if_neg hx]; exact st_fail h (by simp only [zex, zaload, e]; simp; intro a b; exact absurd ⟨a, b⟩ hx)
theorem st_ialdS (h : decode (zBy y) pc = .ok (.iaload, 1)) : Ev d y pc ls (.inl x :: .inr (60, j) :: r) g = if 0 ≤ x ∧ x < g 60 1 0 then Ev d y (pc + 1) ls (.inl (g 60 0 x.toNat) :: r) g else none := by
  have e : zA 60 = none := by decide +kernel
  by_cases hx : 0 ≤ x ∧ x < g 60 1 0
  · rw [if_pos hx]; exact st_nx h (by simp [zex, zaload, e, hx])
  · rw [if_neg hx]; exact st_fail h (by simp only [zex, zaload, e]; simp; intro a b; exact absurd ⟨a, b⟩ hx)
theorem st_bald (h : decode (zBy y) pc = .ok (.baload, 1)) (e : zA k = some (1, n)) : Ev d y pc ls (.inl x :: .inr (k, j) :: r) g = if 0 ≤ x ∧ x < n then Ev d y (pc + 1) ls (.inl (g k j x.toNat) :: r) g else none := by
  by_cases hx : 0 ≤ x ∧ x < n
  · rw [if_pos hx]; exact st_nx h (by simp [zex, zaload, e, hx])
  · rw [if_neg hx]; exact st_fail h (by simp only [zex, zaload, e]; simp; intro a b; exact absurd ⟨a, b⟩ hx)
theorem st_baldT (h : decode (zBy y) pc = .ok (.baload, 1)) : Ev d y pc ls (.inl x :: .inr (62, j) :: r) g = if 0 ≤ x ∧ x < (zTx.getD j []).length then Ev d y (pc + 1) ls (.inl ((zTx.getD j []).getD x.toNat 0) :: r) g else none := by
  have e : zA 62 = none := by decide +kernel
  by_cases hx : 0 ≤ x ∧ x < (zTx.getD j []).length
  · rw [if_pos hx]; exact st_nx h (by simp only [zex, zaload, e]; rw [if_pos trivial, if_neg (by simp), if_pos ⟨trivial, trivial⟩, if_pos hx])
  · rw [if_neg hx]; exact st_fail h (by simp only [zex, zaload, e]; rw [if_pos trivial, if_neg (by simp), if_pos ⟨trivial, trivial⟩, if_neg hx])
theorem st_aald (h : decode (zBy y) pc = .ok (.aaload, 1)) (e : zA k = some (2, n)) : Ev d y pc ls (.inl x :: .inr (k, j) :: r) g = if 0 ≤ x ∧ x < n then Ev d y (pc + 1) ls (.inr (1, 2 + x.toNat) :: r) g else none := by
  by_cases hx : 0 ≤ x ∧ x < n
  · rw [if_pos hx]; exact st_nx h (by simp [zex, zaload, e, hx])
  · rw [if_neg hx]; exact st_fail h (by simp only [zex, zaload, e]; simp; intro a b; exact absurd ⟨a, b⟩ hx)
theorem st_iast (h : decode (zBy y) pc = .ok (.iastore, 1)) (e : zA k = some (0, n)) : Ev d y pc ls (.inl x :: .inl a :: .inr (k, j) :: r) g = if 0 ≤ a ∧ a < n then Ev d y (pc + 1) ls r (zU g k j a.toNat x) else none := by
  by_cases hx : 0 ≤ a ∧ a < n
  · rw [if_pos hx]; exact st_nx h (by simp [zex, zastore, e, hx])
  · rw [if_neg hx]; exact st_fail h (by simp only [zex, zastore, e]; simp; intro a b; exact absurd ⟨a, b⟩ hx)
theorem st_bast (h : decode (zBy y) pc = .ok (.bastore, 1)) (e : zA k = some (1, n)) : Ev d y pc ls (.inl x :: .inl a :: .inr (k, j) :: r) g = if 0 ≤ a ∧ a < n then Ev d y (pc + 1) ls r (zU g k j a.toNat (zi2b x)) else none := by
  by_cases hx : 0 ≤ a ∧ a < n
  · rw [if_pos hx]; exact st_nx h (by simp [zex, zastore, e, hx])
  · rw [if_neg hx]; exact st_fail h (by simp only [zex, zastore, e]; simp; intro a b; exact absurd ⟨a, b⟩ hx)
theorem st_alen {e0 : Nat} (h : decode (zBy y) pc = .ok (.arraylength, 1)) (e : zA k = some (e0, n)) : Ev d y pc ls (.inr (k, j) :: r) g = Ev d y (pc + 1) ls (.inl (n : Int) :: r) g := st_nx h (by simp [zex, zal, e])
theorem st_alenS (h : decode (zBy y) pc = .ok (.arraylength, 1)) : Ev d y pc ls (.inr (60, j) :: r) g = Ev d y (pc + 1) ls (.inl (g 60 1 0) :: r) g := st_nx h (by simp [zex, zal, show zA 60 = none by decide +kernel])
theorem st_alenT (h : decode (zBy y) pc = .ok (.arraylength, 1)) : Ev d y pc ls (.inr (62, j) :: r) g = Ev d y (pc + 1) ls (.inl ((zTx.getD j []).length : Int) :: r) g := st_nx h (by simp only [zex, zal, show zA 62 = none by decide +kernel]; rfl)
theorem st_iret (h : decode (zBy y) pc = .ok (.ireturn, 1)) (e : zRy y = some .int) : Ev d y pc ls [.inl x] g = some (some (.inl x), g) := by rw [st_of h]; simp [zex, e, zrtok, zfin]
theorem st_zret (h : decode (zBy y) pc = .ok (.ireturn, 1)) (e : zRy y = some .boolean) : Ev d y pc ls [.inl x] g = if x = 0 ∨ x = 1 then some (some (.inl x), g) else none := by
  rw [st_of h]
  by_cases hx : x = 0 ∨ x = 1
  · rw [if_pos hx]; simp [zex, e, zrtok, zfin, hx]
  · rw [if_neg hx]; simp [zex, e, zrtok, zfin, hx]
theorem st_cret (h : decode (zBy y) pc = .ok (.ireturn, 1)) (e : zRy y = some .char) : Ev d y pc ls [.inl x] g = if 0 ≤ x ∧ x < 65536 then some (some (.inl x), g) else none := by
  rw [st_of h]
  by_cases hx : 0 ≤ x ∧ x < 65536
  · rw [if_pos hx]; simp [zex, e, zrtok, zfin, hx]
  · rw [if_neg hx]; simp only [zex, e, zrtok, zfin, decide_eq_true_eq, if_neg hx]; rfl
theorem st_bret (h : decode (zBy y) pc = .ok (.ireturn, 1)) (e : zRy y = some .byte) : Ev d y pc ls [.inl x] g = if -128 ≤ x ∧ x < 128 then some (some (.inl x), g) else none := by
  rw [st_of h]
  by_cases hx : -128 ≤ x ∧ x < 128
  · rw [if_pos hx]; simp [zex, e, zrtok, zfin, hx]
  · rw [if_neg hx]; simp only [zex, e, zrtok, zfin, decide_eq_true_eq, if_neg hx]; rfl
theorem st_aret (h : decode (zBy y) pc = .ok (.areturn, 1)) (e : zRk y = 2) (e2 : k ≠ 63) : Ev d y pc ls [.inr (k, j)] g = some (some (.inr (k, j)), g) := by rw [st_of h]; simp [zex, e, zfin, e2]
theorem st_vret (h : decode (zBy y) pc = .ok (.return_, 1)) (e : zRk y = 0) : Ev d y pc ls [] g = some (none, g) := by rw [st_of h]; simp [zex, e, zfin]
theorem st_call {y' : Nat} {as rest : List zV} {v : Bool} (h : decode (zBy y) pc = .ok (if v then .invokevirtual i else .invokestatic i, 3)) (hc : zcall y pc i st v = some (.inr (.inr (y', as, pc + 3, rest)))) : Ev (d + 1) y pc ls st g = zct (d + 1) y (pc + 3) ls y' (EvM d y' as g) rest := by
  rw [st_of h]
  cases v <;> simp [zex, hc, zfin]
theorem zcall_v {y' : Nat} {as rest : List zV} (e : (zLk zLm (zOw y) i, zNa y', zSt y', zKd y') = (some y', n, false, kd)) (h1 : (st.take n).reverse = .inr (kd, j) :: as) (h2 : st.drop n = rest) (h3 : n ≤ st.length) (h4 : rest.length ≤ 8) : zcall y pc i st true = some (.inr (.inr (y', .inr (kd, j) :: as, pc + 3, rest))) := by
  simp only [Prod.mk.injEq] at e
  obtain ⟨e1, e2, e3, e4⟩ := e
  subst h2
  simp only [zcall, e1, e2, e3, h1, e4]
  rw [if_pos ⟨h3, h4, rfl⟩, if_pos trivial]
theorem zcall_s {y' : Nat} {as rest : List zV} (e : (zLk zLm (zOw y) i, zNa y', zSt y') = (some y', n, true)) (h1 : (st.take n).reverse = as) (h2 : st.drop n = rest) (h3 : n ≤ st.length) (h4 : rest.length ≤ 8) : zcall y pc i st false = some (.inr (.inr (y', as, pc + 3, rest))) := by
  simp only [Prod.mk.injEq] at e
  obtain ⟨e1, e2, e3⟩ := e
  subst h2; subst h1
  simp only [zcall, e1, e2, e3]
  rw [if_pos ⟨h3, h4, rfl⟩]
theorem zb_I {y' : Nat} {X : Option (Option zV × zG)} {rest : List zV} (hk : zRk y' = 1) {p2 : Nat} : zct (d + 1) y p2 ls y' X rest = zbI X (fun r g' => Ev (d + 1) y p2 ls (.inl r :: rest) g') := by
  rcases X with _ | ⟨_ | _ | _, g'⟩ <;> simp [zct, zbI, zrt, hk]
theorem zb_V {y' : Nat} {X : Option (Option zV × zG)} {rest : List zV} (hk : zRk y' = 0) {p2 : Nat} : zct (d + 1) y p2 ls y' X rest = zbV X (fun g' => Ev (d + 1) y p2 ls rest g') := by
  rcases X with _ | ⟨_ | _ | _, g'⟩ <;> simp [zct, zbV, zrt, hk]
theorem zb_R {y' : Nat} {X : Option (Option zV × zG)} {rest : List zV} (hk : zRk y' = 2) {p2 : Nat} : zct (d + 1) y p2 ls y' X rest = zbR X (fun r g' => Ev (d + 1) y p2 ls (.inr r :: rest) g') := by
  rcases X with _ | ⟨_ | _ | _, g'⟩ <;> simp [zct, zbR, zrt, hk]
theorem st_cvI {y' : Nat} {as rest : List zV} (h : decode (zBy y) pc = .ok (.invokevirtual i, 3)) (e : (zLk zLm (zOw y) i, zNa y', zSt y', zKd y') = (some y', n, false, kd)) (hk : zRk y' = 1) (h1 : (st.take n).reverse = .inr (kd, j) :: as) (h2 : st.drop n = rest) (h3 : n ≤ st.length) (h4 : rest.length ≤ 8) : Ev (d + 1) y pc ls st g = zbI (EvM d y' (.inr (kd, j) :: as) g) (fun r g' => Ev (d + 1) y (pc + 3) ls (.inl r :: rest) g') := (st_call (v := true) h (zcall_v e h1 h2 h3 h4)).trans (zb_I hk)
theorem st_cvV {y' : Nat} {as rest : List zV} (h : decode (zBy y) pc = .ok (.invokevirtual i, 3)) (e : (zLk zLm (zOw y) i, zNa y', zSt y', zKd y') = (some y', n, false, kd)) (hk : zRk y' = 0) (h1 : (st.take n).reverse = .inr (kd, j) :: as) (h2 : st.drop n = rest) (h3 : n ≤ st.length) (h4 : rest.length ≤ 8) : Ev (d + 1) y pc ls st g = zbV (EvM d y' (.inr (kd, j) :: as) g) (fun g' => Ev (d + 1) y (pc + 3) ls rest g') := (st_call (v := true) h (zcall_v e h1 h2 h3 h4)).trans (zb_V hk)
theorem st_cvR {y' : Nat} {as rest : List zV} (h : decode (zBy y) pc = .ok (.invokevirtual i, 3)) (e : (zLk zLm (zOw y) i, zNa y', zSt y', zKd y') = (some y', n, false, kd)) (hk : zRk y' = 2) (h1 : (st.take n).reverse = .inr (kd, j) :: as) (h2 : st.drop n = rest) (h3 : n ≤ st.length) (h4 : rest.length ≤ 8) : Ev (d + 1) y pc ls st g = zbR (EvM d y' (.inr (kd, j) :: as) g) (fun r g' => Ev (d + 1) y (pc + 3) ls (.inr r :: rest) g') := (st_call (v := true) h (zcall_v e h1 h2 h3 h4)).trans (zb_R hk)
theorem st_csI {y' : Nat} {as rest : List zV} (h : decode (zBy y) pc = .ok (.invokestatic i, 3)) (e : (zLk zLm (zOw y) i, zNa y', zSt y') = (some y', n, true)) (hk : zRk y' = 1) (h1 : (st.take n).reverse = as) (h2 : st.drop n = rest) (h3 : n ≤ st.length) (h4 : rest.length ≤ 8) : Ev (d + 1) y pc ls st g = zbI (EvM d y' as g) (fun r g' => Ev (d + 1) y (pc + 3) ls (.inl r :: rest) g') := (st_call (v := false) h (zcall_s e h1 h2 h3 h4)).trans (zb_I hk)
theorem st_csV {y' : Nat} {as rest : List zV} (h : decode (zBy y) pc = .ok (.invokestatic i, 3)) (e : (zLk zLm (zOw y) i, zNa y', zSt y') = (some y', n, true)) (hk : zRk y' = 0) (h1 : (st.take n).reverse = as) (h2 : st.drop n = rest) (h3 : n ≤ st.length) (h4 : rest.length ≤ 8) : Ev (d + 1) y pc ls st g = zbV (EvM d y' as g) (fun g' => Ev (d + 1) y (pc + 3) ls rest g') := (st_call (v := false) h (zcall_s e h1 h2 h3 h4)).trans (zb_V hk)
theorem st_swIn {dd lo hi : Int} {os : Array Int} (h : decode (zBy y) pc = .ok (.tableswitch dd lo hi os, n)) (e : ¬ (x < lo ∨ hi < x) ∧ (os[(x - lo).toNat]?.bind (zjp pc)) = some t) : Ev d y pc ls (.inl x :: r) g = Ev d y t ls r g := st_nx h (by
  obtain ⟨e1, e2⟩ := e
  cases ho : os[(x - lo).toNat]? with
  | none => rw [ho] at e2; simp at e2
  | some o =>
    rw [ho] at e2
    simp at e2
    simp only [zex, zswT, if_neg e1, ho, zgo, e2])
theorem st_swOut {dd lo hi : Int} {os : Array Int} (h : decode (zBy y) pc = .ok (.tableswitch dd lo hi os, n)) (e : zjp pc dd = some t) (hx : x < lo ∨ hi < x) : Ev d y pc ls (.inl x :: r) g = Ev d y t ls r g := st_nx h (by simp only [zex, zswT, if_pos hx, zgo, e])
theorem st_swL {dd : Int} {ps : Array (Int × Int)} (h : decode (zBy y) pc = .ok (.lookupswitch dd ps, n)) (e : (ps.toList.zip (ps.toList.drop 1)).all (fun (a, next) => decide (a.1 < next.1)) = true) (e2 : zjp pc (Op.lookupswitch.offset ps.toList dd x) = some t) : Ev d y pc ls (.inl x :: r) g = Ev d y t ls r g := st_nx h (by simp only [zex, zswL]; rw [if_pos e]; simp only [zgo, e2])
end ST
theorem EvM_eq {d y n : Nat} {as : List zV} {g : zG} {ls : List (Option zV)} (h : (decide (y = 999), zMl y) = (false, n)) (h2 : as.length ≤ n) (h3 : as.map some ++ List.replicate (n - as.length) none = ls) : EvM d y as g = Ev d y 0 ls [] g := by
  simp only [Prod.mk.injEq, decide_eq_false_iff_not] at h
  obtain ⟨e1, e2⟩ := h
  subst h3
  subst e2
  rw [EvM, if_neg e1, if_pos h2, zini]
end
