section
-- ===== PART A: goes FIRST, ahead of the names: the tables' words, and 'selects' of the private methods out of them =====
/-- a private method of a class that the tables say can be made, by its rows of tables_1 -/
def lw_okq (q : MethodName × Nat) : Prop := (q.1.cls ≠ "java/lang/invoke/MethodHandle" ∧ q.1.cls ≠ "java/lang/invoke/VarHandle") ∧ Cond.instantiable q.1.cls q.2 ∈ tables_1 ∧ Cond.privateMethod q.1 ∈ tables_1 ∧ Cond.instanceMethod q.1 ∈ tables_1
theorem lw_p0 : lw_okq (⟨"RecordReconciler", "change", "(ICII)I"⟩, 11) := ⟨⟨by decide +kernel, by decide +kernel⟩, List.mem_of_getElem? (i := 33) (by decide +kernel), List.mem_of_getElem? (i := 311) (by decide +kernel), List.mem_of_getElem? (i := 312) (by decide +kernel)⟩
theorem lw_p1 : lw_okq (⟨"RecordReconciler$Book", "settleFault", "(II)I"⟩, 5) := ⟨⟨by decide +kernel, by decide +kernel⟩, List.mem_of_getElem? (i := 41) (by decide +kernel), List.mem_of_getElem? (i := 352) (by decide +kernel), List.mem_of_getElem? (i := 353) (by decide +kernel)⟩
theorem lw_p2 : lw_okq (⟨"java/lang/Throwable", "fillInStackTrace", "(I)Ljava/lang/Throwable;"⟩, 6) := ⟨⟨by decide +kernel, by decide +kernel⟩, List.mem_of_getElem? (i := 413) (by decide +kernel), List.mem_of_getElem? (i := 411) (by decide +kernel), List.mem_of_getElem? (i := 412) (by decide +kernel)⟩
theorem lw_p3 : lw_okq (⟨"RecordReconciler$Book", "countBatch", "()I"⟩, 5) := ⟨⟨by decide +kernel, by decide +kernel⟩, List.mem_of_getElem? (i := 41) (by decide +kernel), List.mem_of_getElem? (i := 510) (by decide +kernel), List.mem_of_getElem? (i := 511) (by decide +kernel)⟩
theorem lw_p4 : lw_okq (⟨"RecordReconciler$KeyTable", "openRow", "(I)I"⟩, 5) := ⟨⟨by decide +kernel, by decide +kernel⟩, List.mem_of_getElem? (i := 47) (by decide +kernel), List.mem_of_getElem? (i := 518) (by decide +kernel), List.mem_of_getElem? (i := 519) (by decide +kernel)⟩
theorem lw_p5 : lw_okq (⟨"RecordReconciler$KeyTable", "copyRow", "(II)V"⟩, 5) := ⟨⟨by decide +kernel, by decide +kernel⟩, List.mem_of_getElem? (i := 47) (by decide +kernel), List.mem_of_getElem? (i := 522) (by decide +kernel), List.mem_of_getElem? (i := 523) (by decide +kernel)⟩
theorem lw_p6 : lw_okq (⟨"RecordReconciler$Book", "openNextBatch", "()V"⟩, 5) := ⟨⟨by decide +kernel, by decide +kernel⟩, List.mem_of_getElem? (i := 41) (by decide +kernel), List.mem_of_getElem? (i := 526) (by decide +kernel), List.mem_of_getElem? (i := 527) (by decide +kernel)⟩
theorem lw_p7 : lw_okq (⟨"RecordReconciler$Book", "forgetBatch", "()I"⟩, 5) := ⟨⟨by decide +kernel, by decide +kernel⟩, List.mem_of_getElem? (i := 41) (by decide +kernel), List.mem_of_getElem? (i := 530) (by decide +kernel), List.mem_of_getElem? (i := 531) (by decide +kernel)⟩
theorem lw_p8 : lw_okq (⟨"RecordReconciler$Book", "settleFor", "(II)I"⟩, 5) := ⟨⟨by decide +kernel, by decide +kernel⟩, List.mem_of_getElem? (i := 41) (by decide +kernel), List.mem_of_getElem? (i := 534) (by decide +kernel), List.mem_of_getElem? (i := 535) (by decide +kernel)⟩
theorem lw_p9 : lw_okq (⟨"RecordReconciler$Book", "dropRecord", "(II)I"⟩, 5) := ⟨⟨by decide +kernel, by decide +kernel⟩, List.mem_of_getElem? (i := 41) (by decide +kernel), List.mem_of_getElem? (i := 546) (by decide +kernel), List.mem_of_getElem? (i := 547) (by decide +kernel)⟩
theorem lw_p10 : lw_okq (⟨"RecordReconciler$KeyTable", "votesFor", "(II)I"⟩, 5) := ⟨⟨by decide +kernel, by decide +kernel⟩, List.mem_of_getElem? (i := 47) (by decide +kernel), List.mem_of_getElem? (i := 596) (by decide +kernel), List.mem_of_getElem? (i := 597) (by decide +kernel)⟩
theorem lw_p11 : lw_okq (⟨"RecordReconciler$Groups", "unite", "(II)Z"⟩, 4) := ⟨⟨by decide +kernel, by decide +kernel⟩, List.mem_of_getElem? (i := 221) (by decide +kernel), List.mem_of_getElem? (i := 623) (by decide +kernel), List.mem_of_getElem? (i := 624) (by decide +kernel)⟩
theorem lw_p12 : lw_okq (⟨"RecordReconciler$Groups", "rootOf", "(I)I"⟩, 4) := ⟨⟨by decide +kernel, by decide +kernel⟩, List.mem_of_getElem? (i := 221) (by decide +kernel), List.mem_of_getElem? (i := 627) (by decide +kernel), List.mem_of_getElem? (i := 628) (by decide +kernel)⟩
theorem lw_p13 : lw_okq (⟨"RecordReconciler", "sizeOneByOne", "(II)I"⟩, 11) := ⟨⟨by decide +kernel, by decide +kernel⟩, List.mem_of_getElem? (i := 33) (by decide +kernel), List.mem_of_getElem? (i := 682) (by decide +kernel), List.mem_of_getElem? (i := 683) (by decide +kernel)⟩
theorem lw_p14 : lw_okq (⟨"RecordReconciler$Matching", "findMateFor", "(I)Z"⟩, 9) := ⟨⟨by decide +kernel, by decide +kernel⟩, List.mem_of_getElem? (i := 187) (by decide +kernel), List.mem_of_getElem? (i := 695) (by decide +kernel), List.mem_of_getElem? (i := 696) (by decide +kernel)⟩
theorem lw_p15 : lw_okq (⟨"RecordReconciler$Matching", "matchBackFrom", "(I)V"⟩, 9) := ⟨⟨by decide +kernel, by decide +kernel⟩, List.mem_of_getElem? (i := 187) (by decide +kernel), List.mem_of_getElem? (i := 699) (by decide +kernel), List.mem_of_getElem? (i := 700) (by decide +kernel)⟩
def lw_privs_1 : List (MethodName × Nat) := [(⟨"RecordReconciler", "change", "(ICII)I"⟩, 11), (⟨"RecordReconciler$Book", "settleFault", "(II)I"⟩, 5), (⟨"java/lang/Throwable", "fillInStackTrace", "(I)Ljava/lang/Throwable;"⟩, 6), (⟨"RecordReconciler$Book", "countBatch", "()I"⟩, 5), (⟨"RecordReconciler$KeyTable", "openRow", "(I)I"⟩, 5), (⟨"RecordReconciler$KeyTable", "copyRow", "(II)V"⟩, 5), (⟨"RecordReconciler$Book", "openNextBatch", "()V"⟩, 5), (⟨"RecordReconciler$Book", "forgetBatch", "()I"⟩, 5), (⟨"RecordReconciler$Book", "settleFor", "(II)I"⟩, 5), (⟨"RecordReconciler$Book", "dropRecord", "(II)I"⟩, 5), (⟨"RecordReconciler$KeyTable", "votesFor", "(II)I"⟩, 5), (⟨"RecordReconciler$Groups", "unite", "(II)Z"⟩, 4), (⟨"RecordReconciler$Groups", "rootOf", "(I)I"⟩, 4), (⟨"RecordReconciler", "sizeOneByOne", "(II)I"⟩, 11), (⟨"RecordReconciler$Matching", "findMateFor", "(I)Z"⟩, 9), (⟨"RecordReconciler$Matching", "matchBackFrom", "(I)V"⟩, 9)]
theorem lw_r1 : ∀ q ∈ lw_privs_1, lw_okq q := List.forall_mem_cons.mpr ⟨lw_p0, List.forall_mem_cons.mpr ⟨lw_p1, List.forall_mem_cons.mpr ⟨lw_p2, List.forall_mem_cons.mpr ⟨lw_p3, List.forall_mem_cons.mpr ⟨lw_p4, List.forall_mem_cons.mpr ⟨lw_p5, List.forall_mem_cons.mpr ⟨lw_p6, List.forall_mem_cons.mpr ⟨lw_p7, List.forall_mem_cons.mpr ⟨lw_p8, List.forall_mem_cons.mpr ⟨lw_p9, List.forall_mem_cons.mpr ⟨lw_p10, List.forall_mem_cons.mpr ⟨lw_p11, List.forall_mem_cons.mpr ⟨lw_p12, List.forall_mem_cons.mpr ⟨lw_p13, List.forall_mem_cons.mpr ⟨lw_p14, List.forall_mem_cons.mpr ⟨lw_p15, fun _ h => absurd h List.not_mem_nil⟩⟩⟩⟩⟩⟩⟩⟩⟩⟩⟩⟩⟩⟩⟩⟩
theorem lw_p16 : lw_okq (⟨"RecordReconciler", "sizeInRounds", "(II)I"⟩, 11) := ⟨⟨by decide +kernel, by decide +kernel⟩, List.mem_of_getElem? (i := 33) (by decide +kernel), List.mem_of_getElem? (i := 703) (by decide +kernel), List.mem_of_getElem? (i := 704) (by decide +kernel)⟩
theorem lw_p17 : lw_okq (⟨"RecordReconciler$Matching", "layOut", "()Z"⟩, 9) := ⟨⟨by decide +kernel, by decide +kernel⟩, List.mem_of_getElem? (i := 187) (by decide +kernel), List.mem_of_getElem? (i := 711) (by decide +kernel), List.mem_of_getElem? (i := 712) (by decide +kernel)⟩
theorem lw_p18 : lw_okq (⟨"RecordReconciler$Matching", "layOutNext", "(II)I"⟩, 9) := ⟨⟨by decide +kernel, by decide +kernel⟩, List.mem_of_getElem? (i := 187) (by decide +kernel), List.mem_of_getElem? (i := 715) (by decide +kernel), List.mem_of_getElem? (i := 716) (by decide +kernel)⟩
theorem lw_p19 : lw_okq (⟨"RecordReconciler$Matching", "descendFrom", "(I)Z"⟩, 9) := ⟨⟨by decide +kernel, by decide +kernel⟩, List.mem_of_getElem? (i := 187) (by decide +kernel), List.mem_of_getElem? (i := 719) (by decide +kernel), List.mem_of_getElem? (i := 720) (by decide +kernel)⟩
theorem lw_p20 : lw_okq (⟨"RecordReconciler$Matching", "nextTry", "(I)I"⟩, 9) := ⟨⟨by decide +kernel, by decide +kernel⟩, List.mem_of_getElem? (i := 187) (by decide +kernel), List.mem_of_getElem? (i := 723) (by decide +kernel), List.mem_of_getElem? (i := 724) (by decide +kernel)⟩
theorem lw_p21 : lw_okq (⟨"RecordReconciler", "requireReport", "(I)V"⟩, 11) := ⟨⟨by decide +kernel, by decide +kernel⟩, List.mem_of_getElem? (i := 33) (by decide +kernel), List.mem_of_getElem? (i := 1092) (by decide +kernel), List.mem_of_getElem? (i := 1093) (by decide +kernel)⟩
theorem lw_p22 : lw_okq (⟨"RecordReconciler", "requireRecord", "(CI)I"⟩, 11) := ⟨⟨by decide +kernel, by decide +kernel⟩, List.mem_of_getElem? (i := 33) (by decide +kernel), List.mem_of_getElem? (i := 1166) (by decide +kernel), List.mem_of_getElem? (i := 1167) (by decide +kernel)⟩
theorem lw_p23 : lw_okq (⟨"RecordReconciler", "requireRow", "(I)I"⟩, 11) := ⟨⟨by decide +kernel, by decide +kernel⟩, List.mem_of_getElem? (i := 33) (by decide +kernel), List.mem_of_getElem? (i := 1209) (by decide +kernel), List.mem_of_getElem? (i := 1210) (by decide +kernel)⟩
theorem lw_p24 : lw_okq (⟨"RecordReconciler$Program", "readCommand", "(I)Z"⟩, 8) := ⟨⟨by decide +kernel, by decide +kernel⟩, List.mem_of_getElem? (i := 149) (by decide +kernel), List.mem_of_getElem? (i := 1410) (by decide +kernel), List.mem_of_getElem? (i := 1411) (by decide +kernel)⟩
theorem lw_p25 : lw_okq (⟨"RecordReconciler$Program", "readKeyword", "()I"⟩, 8) := ⟨⟨by decide +kernel, by decide +kernel⟩, List.mem_of_getElem? (i := 149) (by decide +kernel), List.mem_of_getElem? (i := 1414) (by decide +kernel), List.mem_of_getElem? (i := 1415) (by decide +kernel)⟩
theorem lw_p26 : lw_okq (⟨"RecordReconciler$Program", "commonLength", "(Ljava/lang/String;)I"⟩, 8) := ⟨⟨by decide +kernel, by decide +kernel⟩, List.mem_of_getElem? (i := 149) (by decide +kernel), List.mem_of_getElem? (i := 1428) (by decide +kernel), List.mem_of_getElem? (i := 1429) (by decide +kernel)⟩
theorem lw_p27 : lw_okq (⟨"RecordReconciler$Program", "readSource", "(I)Z"⟩, 8) := ⟨⟨by decide +kernel, by decide +kernel⟩, List.mem_of_getElem? (i := 149) (by decide +kernel), List.mem_of_getElem? (i := 1449) (by decide +kernel), List.mem_of_getElem? (i := 1450) (by decide +kernel)⟩
theorem lw_p28 : lw_okq (⟨"RecordReconciler$Program", "readKey", "(I)Z"⟩, 8) := ⟨⟨by decide +kernel, by decide +kernel⟩, List.mem_of_getElem? (i := 149) (by decide +kernel), List.mem_of_getElem? (i := 1454) (by decide +kernel), List.mem_of_getElem? (i := 1455) (by decide +kernel)⟩
theorem lw_p29 : lw_okq (⟨"RecordReconciler$Program", "readNumber", "(I)I"⟩, 8) := ⟨⟨by decide +kernel, by decide +kernel⟩, List.mem_of_getElem? (i := 149) (by decide +kernel), List.mem_of_getElem? (i := 1458) (by decide +kernel), List.mem_of_getElem? (i := 1459) (by decide +kernel)⟩
theorem lw_p30 : lw_okq (⟨"RecordReconciler$Program", "skip", "(C)Z"⟩, 8) := ⟨⟨by decide +kernel, by decide +kernel⟩, List.mem_of_getElem? (i := 149) (by decide +kernel), List.mem_of_getElem? (i := 1462) (by decide +kernel), List.mem_of_getElem? (i := 1463) (by decide +kernel)⟩
theorem lw_p31 : lw_okq (⟨"RecordReconciler$Program", "readAmount", "(I)Z"⟩, 8) := ⟨⟨by decide +kernel, by decide +kernel⟩, List.mem_of_getElem? (i := 149) (by decide +kernel), List.mem_of_getElem? (i := 1466) (by decide +kernel), List.mem_of_getElem? (i := 1467) (by decide +kernel)⟩
def lw_privs_2 : List (MethodName × Nat) := [(⟨"RecordReconciler", "sizeInRounds", "(II)I"⟩, 11), (⟨"RecordReconciler$Matching", "layOut", "()Z"⟩, 9), (⟨"RecordReconciler$Matching", "layOutNext", "(II)I"⟩, 9), (⟨"RecordReconciler$Matching", "descendFrom", "(I)Z"⟩, 9), (⟨"RecordReconciler$Matching", "nextTry", "(I)I"⟩, 9), (⟨"RecordReconciler", "requireReport", "(I)V"⟩, 11), (⟨"RecordReconciler", "requireRecord", "(CI)I"⟩, 11), (⟨"RecordReconciler", "requireRow", "(I)I"⟩, 11), (⟨"RecordReconciler$Program", "readCommand", "(I)Z"⟩, 8), (⟨"RecordReconciler$Program", "readKeyword", "()I"⟩, 8), (⟨"RecordReconciler$Program", "commonLength", "(Ljava/lang/String;)I"⟩, 8), (⟨"RecordReconciler$Program", "readSource", "(I)Z"⟩, 8), (⟨"RecordReconciler$Program", "readKey", "(I)Z"⟩, 8), (⟨"RecordReconciler$Program", "readNumber", "(I)I"⟩, 8), (⟨"RecordReconciler$Program", "skip", "(C)Z"⟩, 8), (⟨"RecordReconciler$Program", "readAmount", "(I)Z"⟩, 8)]
theorem lw_r2 : ∀ q ∈ lw_privs_2, lw_okq q := List.forall_mem_cons.mpr ⟨lw_p16, List.forall_mem_cons.mpr ⟨lw_p17, List.forall_mem_cons.mpr ⟨lw_p18, List.forall_mem_cons.mpr ⟨lw_p19, List.forall_mem_cons.mpr ⟨lw_p20, List.forall_mem_cons.mpr ⟨lw_p21, List.forall_mem_cons.mpr ⟨lw_p22, List.forall_mem_cons.mpr ⟨lw_p23, List.forall_mem_cons.mpr ⟨lw_p24, List.forall_mem_cons.mpr ⟨lw_p25, List.forall_mem_cons.mpr ⟨lw_p26, List.forall_mem_cons.mpr ⟨lw_p27, List.forall_mem_cons.mpr ⟨lw_p28, List.forall_mem_cons.mpr ⟨lw_p29, List.forall_mem_cons.mpr ⟨lw_p30, List.forall_mem_cons.mpr ⟨lw_p31, fun _ h => absurd h List.not_mem_nil⟩⟩⟩⟩⟩⟩⟩⟩⟩⟩⟩⟩⟩⟩⟩⟩
theorem lw_p32 : lw_okq (⟨"RecordReconciler", "executeProgram", "()I"⟩, 11) := ⟨⟨by decide +kernel, by decide +kernel⟩, List.mem_of_getElem? (i := 33) (by decide +kernel), List.mem_of_getElem? (i := 1471) (by decide +kernel), List.mem_of_getElem? (i := 1472) (by decide +kernel)⟩
theorem lw_p33 : lw_okq (⟨"RecordReconcilerModel", "goes", "(Z)Z"⟩, 22) := ⟨⟨by decide +kernel, by decide +kernel⟩, List.mem_of_getElem? (i := 1512) (by decide +kernel), List.mem_of_getElem? (i := 1597) (by decide +kernel), List.mem_of_getElem? (i := 1598) (by decide +kernel)⟩
theorem lw_p34 : lw_okq (⟨"RecordReconcilerModel", "holds", "(ZZZ)Z"⟩, 22) := ⟨⟨by decide +kernel, by decide +kernel⟩, List.mem_of_getElem? (i := 1512) (by decide +kernel), List.mem_of_getElem? (i := 1601) (by decide +kernel), List.mem_of_getElem? (i := 1602) (by decide +kernel)⟩
theorem lw_p35 : lw_okq (⟨"RecordReconcilerModel", "begins", "()V"⟩, 22) := ⟨⟨by decide +kernel, by decide +kernel⟩, List.mem_of_getElem? (i := 1512) (by decide +kernel), List.mem_of_getElem? (i := 1620) (by decide +kernel), List.mem_of_getElem? (i := 1621) (by decide +kernel)⟩
theorem lw_p36 : lw_okq (⟨"RecordReconcilerModel", "reports", "(III)I"⟩, 22) := ⟨⟨by decide +kernel, by decide +kernel⟩, List.mem_of_getElem? (i := 1512) (by decide +kernel), List.mem_of_getElem? (i := 1624) (by decide +kernel), List.mem_of_getElem? (i := 1625) (by decide +kernel)⟩
theorem lw_p37 : lw_okq (⟨"RecordReconcilerModel", "ends", "(I)I"⟩, 22) := ⟨⟨by decide +kernel, by decide +kernel⟩, List.mem_of_getElem? (i := 1512) (by decide +kernel), List.mem_of_getElem? (i := 1640) (by decide +kernel), List.mem_of_getElem? (i := 1641) (by decide +kernel)⟩
theorem lw_p38 : lw_okq (⟨"RecordReconcilerModel", "remembers", "()V"⟩, 22) := ⟨⟨by decide +kernel, by decide +kernel⟩, List.mem_of_getElem? (i := 1512) (by decide +kernel), List.mem_of_getElem? (i := 1644) (by decide +kernel), List.mem_of_getElem? (i := 1645) (by decide +kernel)⟩
theorem lw_p39 : lw_okq (⟨"RecordReconcilerModel", "takes", "(III)I"⟩, 22) := ⟨⟨by decide +kernel, by decide +kernel⟩, List.mem_of_getElem? (i := 1512) (by decide +kernel), List.mem_of_getElem? (i := 1652) (by decide +kernel), List.mem_of_getElem? (i := 1653) (by decide +kernel)⟩
theorem lw_p40 : lw_okq (⟨"RecordReconcilerModel", "ofReport", "(II)I"⟩, 22) := ⟨⟨by decide +kernel, by decide +kernel⟩, List.mem_of_getElem? (i := 1512) (by decide +kernel), List.mem_of_getElem? (i := 1656) (by decide +kernel), List.mem_of_getElem? (i := 1657) (by decide +kernel)⟩
theorem lw_p41 : lw_okq (⟨"RecordReconcilerModel", "closesAll", "()I"⟩, 22) := ⟨⟨by decide +kernel, by decide +kernel⟩, List.mem_of_getElem? (i := 1512) (by decide +kernel), List.mem_of_getElem? (i := 1664) (by decide +kernel), List.mem_of_getElem? (i := 1665) (by decide +kernel)⟩
theorem lw_p42 : lw_okq (⟨"RecordReconcilerModel", "closes", "()Z"⟩, 22) := ⟨⟨by decide +kernel, by decide +kernel⟩, List.mem_of_getElem? (i := 1512) (by decide +kernel), List.mem_of_getElem? (i := 1668) (by decide +kernel), List.mem_of_getElem? (i := 1669) (by decide +kernel)⟩
theorem lw_p43 : lw_okq (⟨"RecordReconcilerModel", "outcomes", "(I)I"⟩, 22) := ⟨⟨by decide +kernel, by decide +kernel⟩, List.mem_of_getElem? (i := 1512) (by decide +kernel), List.mem_of_getElem? (i := 1672) (by decide +kernel), List.mem_of_getElem? (i := 1673) (by decide +kernel)⟩
theorem lw_p44 : lw_okq (⟨"RecordReconcilerModel", "outcome", "(I)I"⟩, 22) := ⟨⟨by decide +kernel, by decide +kernel⟩, List.mem_of_getElem? (i := 1512) (by decide +kernel), List.mem_of_getElem? (i := 1676) (by decide +kernel), List.mem_of_getElem? (i := 1677) (by decide +kernel)⟩
theorem lw_p45 : lw_okq (⟨"RecordReconcilerModel", "find", "(II)I"⟩, 22) := ⟨⟨by decide +kernel, by decide +kernel⟩, List.mem_of_getElem? (i := 1512) (by decide +kernel), List.mem_of_getElem? (i := 1680) (by decide +kernel), List.mem_of_getElem? (i := 1681) (by decide +kernel)⟩
theorem lw_p46 : lw_okq (⟨"RecordReconcilerModel", "of", "(II)I"⟩, 22) := ⟨⟨by decide +kernel, by decide +kernel⟩, List.mem_of_getElem? (i := 1512) (by decide +kernel), List.mem_of_getElem? (i := 1684) (by decide +kernel), List.mem_of_getElem? (i := 1685) (by decide +kernel)⟩
theorem lw_p47 : lw_okq (⟨"RecordReconcilerModel", "carries", "(III)V"⟩, 22) := ⟨⟨by decide +kernel, by decide +kernel⟩, List.mem_of_getElem? (i := 1512) (by decide +kernel), List.mem_of_getElem? (i := 1688) (by decide +kernel), List.mem_of_getElem? (i := 1689) (by decide +kernel)⟩
def lw_privs_3 : List (MethodName × Nat) := [(⟨"RecordReconciler", "executeProgram", "()I"⟩, 11), (⟨"RecordReconcilerModel", "goes", "(Z)Z"⟩, 22), (⟨"RecordReconcilerModel", "holds", "(ZZZ)Z"⟩, 22), (⟨"RecordReconcilerModel", "begins", "()V"⟩, 22), (⟨"RecordReconcilerModel", "reports", "(III)I"⟩, 22), (⟨"RecordReconcilerModel", "ends", "(I)I"⟩, 22), (⟨"RecordReconcilerModel", "remembers", "()V"⟩, 22), (⟨"RecordReconcilerModel", "takes", "(III)I"⟩, 22), (⟨"RecordReconcilerModel", "ofReport", "(II)I"⟩, 22), (⟨"RecordReconcilerModel", "closesAll", "()I"⟩, 22), (⟨"RecordReconcilerModel", "closes", "()Z"⟩, 22), (⟨"RecordReconcilerModel", "outcomes", "(I)I"⟩, 22), (⟨"RecordReconcilerModel", "outcome", "(I)I"⟩, 22), (⟨"RecordReconcilerModel", "find", "(II)I"⟩, 22), (⟨"RecordReconcilerModel", "of", "(II)I"⟩, 22), (⟨"RecordReconcilerModel", "carries", "(III)V"⟩, 22)]
theorem lw_r3 : ∀ q ∈ lw_privs_3, lw_okq q := List.forall_mem_cons.mpr ⟨lw_p32, List.forall_mem_cons.mpr ⟨lw_p33, List.forall_mem_cons.mpr ⟨lw_p34, List.forall_mem_cons.mpr ⟨lw_p35, List.forall_mem_cons.mpr ⟨lw_p36, List.forall_mem_cons.mpr ⟨lw_p37, List.forall_mem_cons.mpr ⟨lw_p38, List.forall_mem_cons.mpr ⟨lw_p39, List.forall_mem_cons.mpr ⟨lw_p40, List.forall_mem_cons.mpr ⟨lw_p41, List.forall_mem_cons.mpr ⟨lw_p42, List.forall_mem_cons.mpr ⟨lw_p43, List.forall_mem_cons.mpr ⟨lw_p44, List.forall_mem_cons.mpr ⟨lw_p45, List.forall_mem_cons.mpr ⟨lw_p46, List.forall_mem_cons.mpr ⟨lw_p47, fun _ h => absurd h List.not_mem_nil⟩⟩⟩⟩⟩⟩⟩⟩⟩⟩⟩⟩⟩⟩⟩⟩
theorem lw_p48 : lw_okq (⟨"RecordReconcilerModel", "inserts", "(II)V"⟩, 22) := ⟨⟨by decide +kernel, by decide +kernel⟩, List.mem_of_getElem? (i := 1512) (by decide +kernel), List.mem_of_getElem? (i := 1692) (by decide +kernel), List.mem_of_getElem? (i := 1693) (by decide +kernel)⟩
theorem lw_p49 : lw_okq (⟨"RecordReconcilerModel", "rejects", "()I"⟩, 22) := ⟨⟨by decide +kernel, by decide +kernel⟩, List.mem_of_getElem? (i := 1512) (by decide +kernel), List.mem_of_getElem? (i := 1700) (by decide +kernel), List.mem_of_getElem? (i := 1701) (by decide +kernel)⟩
theorem lw_p50 : lw_okq (⟨"RecordReconcilerModel", "settles", "(II)I"⟩, 22) := ⟨⟨by decide +kernel, by decide +kernel⟩, List.mem_of_getElem? (i := 1512) (by decide +kernel), List.mem_of_getElem? (i := 1708) (by decide +kernel), List.mem_of_getElem? (i := 1709) (by decide +kernel)⟩
theorem lw_p51 : lw_okq (⟨"RecordReconcilerModel", "status", "(I)I"⟩, 22) := ⟨⟨by decide +kernel, by decide +kernel⟩, List.mem_of_getElem? (i := 1512) (by decide +kernel), List.mem_of_getElem? (i := 1712) (by decide +kernel), List.mem_of_getElem? (i := 1713) (by decide +kernel)⟩
theorem lw_p52 : lw_okq (⟨"RecordReconcilerModel", "withKey", "(I)I"⟩, 22) := ⟨⟨by decide +kernel, by decide +kernel⟩, List.mem_of_getElem? (i := 1512) (by decide +kernel), List.mem_of_getElem? (i := 1716) (by decide +kernel), List.mem_of_getElem? (i := 1717) (by decide +kernel)⟩
theorem lw_p53 : lw_okq (⟨"RecordReconcilerModel", "accepted", "(I)I"⟩, 22) := ⟨⟨by decide +kernel, by decide +kernel⟩, List.mem_of_getElem? (i := 1512) (by decide +kernel), List.mem_of_getElem? (i := 1720) (by decide +kernel), List.mem_of_getElem? (i := 1721) (by decide +kernel)⟩
theorem lw_p54 : lw_okq (⟨"RecordReconcilerModel", "withAmount", "(II)I"⟩, 22) := ⟨⟨by decide +kernel, by decide +kernel⟩, List.mem_of_getElem? (i := 1512) (by decide +kernel), List.mem_of_getElem? (i := 1724) (by decide +kernel), List.mem_of_getElem? (i := 1725) (by decide +kernel)⟩
theorem lw_p55 : lw_okq (⟨"RecordReconcilerModel", "drops", "(II)I"⟩, 22) := ⟨⟨by decide +kernel, by decide +kernel⟩, List.mem_of_getElem? (i := 1512) (by decide +kernel), List.mem_of_getElem? (i := 1734) (by decide +kernel), List.mem_of_getElem? (i := 1735) (by decide +kernel)⟩
theorem lw_p56 : lw_okq (⟨"RecordReconcilerModel", "waits", "(I)I"⟩, 22) := ⟨⟨by decide +kernel, by decide +kernel⟩, List.mem_of_getElem? (i := 1512) (by decide +kernel), List.mem_of_getElem? (i := 1742) (by decide +kernel), List.mem_of_getElem? (i := 1743) (by decide +kernel)⟩
theorem lw_p57 : lw_okq (⟨"RecordReconcilerModel", "total", "(I)I"⟩, 22) := ⟨⟨by decide +kernel, by decide +kernel⟩, List.mem_of_getElem? (i := 1512) (by decide +kernel), List.mem_of_getElem? (i := 1750) (by decide +kernel), List.mem_of_getElem? (i := 1751) (by decide +kernel)⟩
theorem lw_p58 : lw_okq (⟨"RecordReconcilerModel", "asksReport", "(II)I"⟩, 22) := ⟨⟨by decide +kernel, by decide +kernel⟩, List.mem_of_getElem? (i := 1512) (by decide +kernel), List.mem_of_getElem? (i := 1762) (by decide +kernel), List.mem_of_getElem? (i := 1763) (by decide +kernel)⟩
theorem lw_p59 : lw_okq (⟨"RecordReconcilerModel", "ofSource", "(I)I"⟩, 22) := ⟨⟨by decide +kernel, by decide +kernel⟩, List.mem_of_getElem? (i := 1512) (by decide +kernel), List.mem_of_getElem? (i := 1790) (by decide +kernel), List.mem_of_getElem? (i := 1791) (by decide +kernel)⟩
theorem lw_p60 : lw_okq (⟨"RecordReconcilerModel", "asks", "(III)I"⟩, 22) := ⟨⟨by decide +kernel, by decide +kernel⟩, List.mem_of_getElem? (i := 1512) (by decide +kernel), List.mem_of_getElem? (i := 1802) (by decide +kernel), List.mem_of_getElem? (i := 1803) (by decide +kernel)⟩
theorem lw_p61 : lw_okq (⟨"RecordReconcilerModel", "countOf", "(I)I"⟩, 22) := ⟨⟨by decide +kernel, by decide +kernel⟩, List.mem_of_getElem? (i := 1512) (by decide +kernel), List.mem_of_getElem? (i := 1826) (by decide +kernel), List.mem_of_getElem? (i := 1827) (by decide +kernel)⟩
theorem lw_p62 : lw_okq (⟨"RecordReconcilerModel", "keysOf", "(I)I"⟩, 22) := ⟨⟨by decide +kernel, by decide +kernel⟩, List.mem_of_getElem? (i := 1512) (by decide +kernel), List.mem_of_getElem? (i := 1830) (by decide +kernel), List.mem_of_getElem? (i := 1831) (by decide +kernel)⟩
theorem lw_p63 : lw_okq (⟨"RecordReconcilerModel", "isFirst", "(I)Z"⟩, 22) := ⟨⟨by decide +kernel, by decide +kernel⟩, List.mem_of_getElem? (i := 1512) (by decide +kernel), List.mem_of_getElem? (i := 1834) (by decide +kernel), List.mem_of_getElem? (i := 1835) (by decide +kernel)⟩
def lw_privs_4 : List (MethodName × Nat) := [(⟨"RecordReconcilerModel", "inserts", "(II)V"⟩, 22), (⟨"RecordReconcilerModel", "rejects", "()I"⟩, 22), (⟨"RecordReconcilerModel", "settles", "(II)I"⟩, 22), (⟨"RecordReconcilerModel", "status", "(I)I"⟩, 22), (⟨"RecordReconcilerModel", "withKey", "(I)I"⟩, 22), (⟨"RecordReconcilerModel", "accepted", "(I)I"⟩, 22), (⟨"RecordReconcilerModel", "withAmount", "(II)I"⟩, 22), (⟨"RecordReconcilerModel", "drops", "(II)I"⟩, 22), (⟨"RecordReconcilerModel", "waits", "(I)I"⟩, 22), (⟨"RecordReconcilerModel", "total", "(I)I"⟩, 22), (⟨"RecordReconcilerModel", "asksReport", "(II)I"⟩, 22), (⟨"RecordReconcilerModel", "ofSource", "(I)I"⟩, 22), (⟨"RecordReconcilerModel", "asks", "(III)I"⟩, 22), (⟨"RecordReconcilerModel", "countOf", "(I)I"⟩, 22), (⟨"RecordReconcilerModel", "keysOf", "(I)I"⟩, 22), (⟨"RecordReconcilerModel", "isFirst", "(I)Z"⟩, 22)]
theorem lw_r4 : ∀ q ∈ lw_privs_4, lw_okq q := List.forall_mem_cons.mpr ⟨lw_p48, List.forall_mem_cons.mpr ⟨lw_p49, List.forall_mem_cons.mpr ⟨lw_p50, List.forall_mem_cons.mpr ⟨lw_p51, List.forall_mem_cons.mpr ⟨lw_p52, List.forall_mem_cons.mpr ⟨lw_p53, List.forall_mem_cons.mpr ⟨lw_p54, List.forall_mem_cons.mpr ⟨lw_p55, List.forall_mem_cons.mpr ⟨lw_p56, List.forall_mem_cons.mpr ⟨lw_p57, List.forall_mem_cons.mpr ⟨lw_p58, List.forall_mem_cons.mpr ⟨lw_p59, List.forall_mem_cons.mpr ⟨lw_p60, List.forall_mem_cons.mpr ⟨lw_p61, List.forall_mem_cons.mpr ⟨lw_p62, List.forall_mem_cons.mpr ⟨lw_p63, fun _ h => absurd h List.not_mem_nil⟩⟩⟩⟩⟩⟩⟩⟩⟩⟩⟩⟩⟩⟩⟩⟩
theorem lw_p64 : lw_okq (⟨"RecordReconcilerModel", "sumOf", "(I)I"⟩, 22) := ⟨⟨by decide +kernel, by decide +kernel⟩, List.mem_of_getElem? (i := 1512) (by decide +kernel), List.mem_of_getElem? (i := 1862) (by decide +kernel), List.mem_of_getElem? (i := 1863) (by decide +kernel)⟩
theorem lw_p65 : lw_okq (⟨"RecordReconcilerModel", "isPair", "(II)Z"⟩, 22) := ⟨⟨by decide +kernel, by decide +kernel⟩, List.mem_of_getElem? (i := 1512) (by decide +kernel), List.mem_of_getElem? (i := 1873) (by decide +kernel), List.mem_of_getElem? (i := 1874) (by decide +kernel)⟩
theorem lw_p66 : lw_okq (⟨"RecordReconcilerModel", "matching", "(II)I"⟩, 22) := ⟨⟨by decide +kernel, by decide +kernel⟩, List.mem_of_getElem? (i := 1512) (by decide +kernel), List.mem_of_getElem? (i := 1886) (by decide +kernel), List.mem_of_getElem? (i := 1887) (by decide +kernel)⟩
theorem lw_p67 : lw_okq (⟨"RecordReconcilerModel", "matches", "(III)I"⟩, 22) := ⟨⟨by decide +kernel, by decide +kernel⟩, List.mem_of_getElem? (i := 1512) (by decide +kernel), List.mem_of_getElem? (i := 1890) (by decide +kernel), List.mem_of_getElem? (i := 1891) (by decide +kernel)⟩
theorem lw_p68 : lw_okq (⟨"RecordReconcilerModel", "augments", "(II)Z"⟩, 22) := ⟨⟨by decide +kernel, by decide +kernel⟩, List.mem_of_getElem? (i := 1512) (by decide +kernel), List.mem_of_getElem? (i := 1894) (by decide +kernel), List.mem_of_getElem? (i := 1895) (by decide +kernel)⟩
theorem lw_p69 : lw_okq (⟨"RecordReconcilerModel", "turns", "(II)V"⟩, 22) := ⟨⟨by decide +kernel, by decide +kernel⟩, List.mem_of_getElem? (i := 1512) (by decide +kernel), List.mem_of_getElem? (i := 1898) (by decide +kernel), List.mem_of_getElem? (i := 1899) (by decide +kernel)⟩
theorem lw_p70 : lw_okq (⟨"RecordReconcilerModel", "groupsAll", "()I"⟩, 22) := ⟨⟨by decide +kernel, by decide +kernel⟩, List.mem_of_getElem? (i := 1512) (by decide +kernel), List.mem_of_getElem? (i := 1914) (by decide +kernel), List.mem_of_getElem? (i := 1915) (by decide +kernel)⟩
theorem lw_p71 : lw_okq (⟨"RecordReconcilerModel", "finds", "()V"⟩, 22) := ⟨⟨by decide +kernel, by decide +kernel⟩, List.mem_of_getElem? (i := 1512) (by decide +kernel), List.mem_of_getElem? (i := 1918) (by decide +kernel), List.mem_of_getElem? (i := 1919) (by decide +kernel)⟩
theorem lw_p72 : lw_okq (⟨"RecordReconcilerModel", "isLinked", "(II)Z"⟩, 22) := ⟨⟨by decide +kernel, by decide +kernel⟩, List.mem_of_getElem? (i := 1512) (by decide +kernel), List.mem_of_getElem? (i := 1922) (by decide +kernel), List.mem_of_getElem? (i := 1923) (by decide +kernel)⟩
theorem lw_p73 : lw_okq (⟨"RecordReconcilerModel", "put", "(II)I"⟩, 22) := ⟨⟨by decide +kernel, by decide +kernel⟩, List.mem_of_getElem? (i := 1512) (by decide +kernel), List.mem_of_getElem? (i := 1986) (by decide +kernel), List.mem_of_getElem? (i := 1987) (by decide +kernel)⟩
theorem lw_p74 : lw_okq (⟨"RecordReconcilerModel", "writesNumber", "(II)I"⟩, 22) := ⟨⟨by decide +kernel, by decide +kernel⟩, List.mem_of_getElem? (i := 1512) (by decide +kernel), List.mem_of_getElem? (i := 1990) (by decide +kernel), List.mem_of_getElem? (i := 1991) (by decide +kernel)⟩
theorem lw_p75 : lw_okq (⟨"RecordReconcilerModel", "writes", "(III)I"⟩, 22) := ⟨⟨by decide +kernel, by decide +kernel⟩, List.mem_of_getElem? (i := 1512) (by decide +kernel), List.mem_of_getElem? (i := 1998) (by decide +kernel), List.mem_of_getElem? (i := 1999) (by decide +kernel)⟩
theorem lw_p76 : lw_okq (⟨"RecordReconcilerModel", "readsAll", "()V"⟩, 22) := ⟨⟨by decide +kernel, by decide +kernel⟩, List.mem_of_getElem? (i := 1512) (by decide +kernel), List.mem_of_getElem? (i := 2020) (by decide +kernel), List.mem_of_getElem? (i := 2021) (by decide +kernel)⟩
theorem lw_p77 : lw_okq (⟨"RecordReconcilerModel", "readsCommand", "()V"⟩, 22) := ⟨⟨by decide +kernel, by decide +kernel⟩, List.mem_of_getElem? (i := 1512) (by decide +kernel), List.mem_of_getElem? (i := 2024) (by decide +kernel), List.mem_of_getElem? (i := 2025) (by decide +kernel)⟩
theorem lw_p78 : lw_okq (⟨"RecordReconcilerModel", "kindHere", "()I"⟩, 22) := ⟨⟨by decide +kernel, by decide +kernel⟩, List.mem_of_getElem? (i := 1512) (by decide +kernel), List.mem_of_getElem? (i := 2028) (by decide +kernel), List.mem_of_getElem? (i := 2029) (by decide +kernel)⟩
theorem lw_p79 : lw_okq (⟨"RecordReconcilerModel", "number", "(I)I"⟩, 22) := ⟨⟨by decide +kernel, by decide +kernel⟩, List.mem_of_getElem? (i := 1512) (by decide +kernel), List.mem_of_getElem? (i := 2036) (by decide +kernel), List.mem_of_getElem? (i := 2037) (by decide +kernel)⟩
def lw_privs_5 : List (MethodName × Nat) := [(⟨"RecordReconcilerModel", "sumOf", "(I)I"⟩, 22), (⟨"RecordReconcilerModel", "isPair", "(II)Z"⟩, 22), (⟨"RecordReconcilerModel", "matching", "(II)I"⟩, 22), (⟨"RecordReconcilerModel", "matches", "(III)I"⟩, 22), (⟨"RecordReconcilerModel", "augments", "(II)Z"⟩, 22), (⟨"RecordReconcilerModel", "turns", "(II)V"⟩, 22), (⟨"RecordReconcilerModel", "groupsAll", "()I"⟩, 22), (⟨"RecordReconcilerModel", "finds", "()V"⟩, 22), (⟨"RecordReconcilerModel", "isLinked", "(II)Z"⟩, 22), (⟨"RecordReconcilerModel", "put", "(II)I"⟩, 22), (⟨"RecordReconcilerModel", "writesNumber", "(II)I"⟩, 22), (⟨"RecordReconcilerModel", "writes", "(III)I"⟩, 22), (⟨"RecordReconcilerModel", "readsAll", "()V"⟩, 22), (⟨"RecordReconcilerModel", "readsCommand", "()V"⟩, 22), (⟨"RecordReconcilerModel", "kindHere", "()I"⟩, 22), (⟨"RecordReconcilerModel", "number", "(I)I"⟩, 22)]
theorem lw_r5 : ∀ q ∈ lw_privs_5, lw_okq q := List.forall_mem_cons.mpr ⟨lw_p64, List.forall_mem_cons.mpr ⟨lw_p65, List.forall_mem_cons.mpr ⟨lw_p66, List.forall_mem_cons.mpr ⟨lw_p67, List.forall_mem_cons.mpr ⟨lw_p68, List.forall_mem_cons.mpr ⟨lw_p69, List.forall_mem_cons.mpr ⟨lw_p70, List.forall_mem_cons.mpr ⟨lw_p71, List.forall_mem_cons.mpr ⟨lw_p72, List.forall_mem_cons.mpr ⟨lw_p73, List.forall_mem_cons.mpr ⟨lw_p74, List.forall_mem_cons.mpr ⟨lw_p75, List.forall_mem_cons.mpr ⟨lw_p76, List.forall_mem_cons.mpr ⟨lw_p77, List.forall_mem_cons.mpr ⟨lw_p78, List.forall_mem_cons.mpr ⟨lw_p79, fun _ h => absurd h List.not_mem_nil⟩⟩⟩⟩⟩⟩⟩⟩⟩⟩⟩⟩⟩⟩⟩⟩
theorem lw_p80 : lw_okq (⟨"RecordReconcilerModel", "reads", "(II)I"⟩, 22) := ⟨⟨by decide +kernel, by decide +kernel⟩, List.mem_of_getElem? (i := 1512) (by decide +kernel), List.mem_of_getElem? (i := 2040) (by decide +kernel), List.mem_of_getElem? (i := 2041) (by decide +kernel)⟩
theorem lw_p81 : lw_okq (⟨"RecordReconcilerModel", "letterHere", "()I"⟩, 22) := ⟨⟨by decide +kernel, by decide +kernel⟩, List.mem_of_getElem? (i := 1512) (by decide +kernel), List.mem_of_getElem? (i := 2044) (by decide +kernel), List.mem_of_getElem? (i := 2045) (by decide +kernel)⟩
theorem lw_p82 : lw_okq (⟨"RecordReconcilerModel", "does", "(I)I"⟩, 22) := ⟨⟨by decide +kernel, by decide +kernel⟩, List.mem_of_getElem? (i := 1512) (by decide +kernel), List.mem_of_getElem? (i := 2048) (by decide +kernel), List.mem_of_getElem? (i := 2049) (by decide +kernel)⟩
def lw_privs_6 : List (MethodName × Nat) := [(⟨"RecordReconcilerModel", "reads", "(II)I"⟩, 22), (⟨"RecordReconcilerModel", "letterHere", "()I"⟩, 22), (⟨"RecordReconcilerModel", "does", "(I)I"⟩, 22)]
theorem lw_r6 : ∀ q ∈ lw_privs_6, lw_okq q := List.forall_mem_cons.mpr ⟨lw_p80, List.forall_mem_cons.mpr ⟨lw_p81, List.forall_mem_cons.mpr ⟨lw_p82, fun _ h => absurd h List.not_mem_nil⟩⟩⟩
def lw_privs : List (MethodName × Nat) := lw_privs_1 ++ (lw_privs_2 ++ (lw_privs_3 ++ (lw_privs_4 ++ (lw_privs_5 ++ (lw_privs_6)))))
def lw_tbl : List Cond := k2_sels lw_privs ++ tables_1
theorem lw_privs_ok : ∀ q ∈ lw_privs, lw_okq q := by
  show ∀ q ∈ lw_privs_1 ++ (lw_privs_2 ++ (lw_privs_3 ++ (lw_privs_4 ++ (lw_privs_5 ++ (lw_privs_6))))), lw_okq q
  exact List.forall_mem_append.mpr ⟨lw_r1, List.forall_mem_append.mpr ⟨lw_r2, List.forall_mem_append.mpr ⟨lw_r3, List.forall_mem_append.mpr ⟨lw_r4, List.forall_mem_append.mpr ⟨lw_r5, lw_r6⟩⟩⟩⟩⟩
/-- the streams that the claim lets the run draw from -/
abbrev lw_cs : List Choice := [Jvm.Choice.named "NaN.bits"]
theorem lw_bits : nanBits ∈ lw_cs := by first | decide | exact List.mem_cons_self | simp [lw_cs, nanBits]
end
section
def va_AOA (ty : FieldType) (U : State) : Prop := (Cond.arrayOver (.array ty)).before #[] U = true
theorem va_AOA.of {ty : FieldType} {A : Array Value} {U : State} (h : (Cond.arrayOver (.array ty)).before A U = true) : va_AOA ty U := h
theorem va_AOA.use {ty : FieldType} {A : Array Value} {U : State} (h : va_AOA ty U) : (Cond.arrayOver (.array ty)).before A U = true := h
theorem va_AOA.moved {ty : FieldType} {u U : State} (hvm : u.vm.Alike U.vm) (h : va_AOA ty u) : va_AOA ty U := arrayOver_alikeB hvm h

/-! ===== BEGIN words of one list among another's, by their places ===== -/
theorem goodIn_r {big : List Cond} (ws : List Cond) (ps : List Nat) (hp : ws = ps.filterMap (fun i => big[i]?)) (h : ws.all goodWord = true) : GoodIn big ws := by
  intro w hw
  have h1 := List.all_eq_true.mp h w hw
  rw [hp] at hw
  obtain ⟨i, -, hi⟩ := List.mem_filterMap.mp hw
  have hm : w ∈ big := by first | exact List.mem_of_getElem? hi | exact List.getElem?_mem hi
  exact ⟨hm, good_of_word h1⟩
theorem goodIn_app {big a b : List Cond} (ha : GoodIn big a) (hb : GoodIn big b) : GoodIn big (a ++ b) := fun w h => (List.mem_append.mp h).elim (ha w) (hb w)
theorem goodIn_ca {big a b : List Cond} {c : Cond} (ha : GoodIn big (c :: a)) (hb : GoodIn big b) : GoodIn big (c :: (a ++ b)) := fun w h => (List.mem_cons.mp h).elim (fun e => ha w (List.mem_cons.mpr (Or.inl e))) (fun h => (List.mem_append.mp h).elim (fun h => ha w (List.mem_cons.mpr (Or.inr h))) (hb w))
theorem goodIn_sub {big ws : List Cond} (hm : ∀ w ∈ ws, w ∈ big) (h : ws.all goodWord = true) : GoodIn big ws := fun w hw => ⟨hm w hw, good_of_word (List.all_eq_true.mp h w hw)⟩
/-! ===== END ===== -/

/-! ===== BEGIN new T[n][m]: the outer array a place, the inner ones among the pooled ===== -/
/-- f, but v at every address of l -/
def vr_up {α : Type} (f : Nat → α) (l : List Nat) (v : α) : Nat → α := fun a => if a ∈ l then v else f a
theorem vr_up_in {α : Type} {f : Nat → α} {l : List Nat} {v : α} {a : Nat} (h : a ∈ l) : vr_up f l v a = v := if_pos h
theorem vr_up_ne {α : Type} {f : Nat → α} {l : List Nat} {v : α} {a : Nat} (h : a ∉ l) : vr_up f l v a = f a := if_neg h
theorem vr_rows {L l : List Nat} {f : Nat → va_E} {e : va_E} (h : ∀ a, a ∈ l → a ∉ L) : va_pl L f ++ l.map (fun a => (a, e)) = va_pl (L ++ l) (vr_up f l e) := by
  unfold va_pl
  rw [List.map_append]
  congr 1
  · apply List.map_congr_left
    intro a ha
    rw [vr_up_ne (fun q => h a q ha)]
  · apply List.map_congr_left
    intro a ha
    rw [vr_up_in ha]
theorem vr_lay {X rows : va_W} {x : Nat × va_E} {pl : va_W} {D : va_G} {cl : List vw_C} {H : Heap} (hP : va_P D cl (((X ++ pl) ++ [x]) ++ rows) H) : va_P D cl ((X ++ [x]) ++ (pl ++ rows)) H := by
  rw [List.append_assoc (X ++ pl)] at hP
  have h := va_P.swap hP
  rw [← List.append_assoc X] at h
  have h2 := va_P.swap h
  rw [List.append_assoc (X ++ [x])] at h2
  exact h2
theorem vr_layD {X rows : va_W} {x : Nat × va_E} {pl : va_W} {A : Nat → Prop} (hD : va_D A (((X ++ pl) ++ [x]) ++ rows)) : va_D A ((X ++ [x]) ++ (pl ++ rows)) := by
  rw [List.append_assoc (X ++ pl)] at hD
  have h := va_D.swap hD
  rw [← List.append_assoc X] at h
  have h2 := va_D.swap h
  rw [List.append_assoc (X ++ [x])] at h2
  exact h2
theorem vr_outer (c : ClassId) (N h0 : Nat) : ∀ i : Nat, Jvm.Free.Multi.outerC c N h0 i = arrV c N (fun j => va_rf (if j < i then some (h0 + 1 + j) else none))
  | 0 => by
    show ({ cls := c, slots := Array.replicate N .null, vm := .none } : Cell) = _
    rw [arrV_new]
    refine congrArg (arrV c N) (funext fun j => ?_)
    simp [va_rf]
  | i + 1 => by
    show (Jvm.Free.Multi.outerC c N h0 i).setSlot i (.ref (h0 + 1 + i)) = _
    rw [vr_outer c N h0 i, arrV_store]
    refine congrArg (arrV c N) (funext fun j => ?_)
    by_cases e : j = i
    · subst e
      simp [updV, va_rf]
    · by_cases h : j < i
      · simp [updV, e, h, Nat.lt_succ_of_lt h]
      · simp [updV, e, h, show ¬ j < i + 1 by omega]
section VGM
variable {p : Program} {l : Launch} {e : Env} {R : Room} {s : State} {m : MethodId} {args : Array Value} {below : List Frame} {meth : Method} {c : Code} {H : Heap} {locs : List Loc} {cells slots : Nat} {Q : State → Prop}
variable {cc : ByteArray} {pc : Nat} {ls : Array Slot} {rest : List Value} {D : va_G} {cl : List vw_C} {A : Nat → Prop} {a : Nat} {tys : List (ClassId × FieldType)} {ws : va_W} {H0 : Heap}
theorem va_mna {X : va_W} {L : List Nat} {f : Nat → va_E} {cc : ByteArray} (hexec : p.tables.exec = Jvm.exec) (hb : c.code = cc) {own : String} {index : Nat} {ty : FieldType} {cy : ClassId} (hown : s.vm.findClass own = some m.cls) (hclink : (Cond.classLink own index ("[" ++ (FieldType.array ty).toString)).before args s = true) (hover : va_AOA ty s) (harr : (Cond.arrayClass ty).before args s = true) (hcy : s.vm.findClass (FieldType.array ty).toString = some cy)
    (hK : va_K D cl tys s) (hP : va_P D cl (X ++ va_pl L f) H) (hD : va_D A (X ++ va_pl L f)) (hS : va_S A H0 H locs) (hA : ∀ q, H0.size ≤ q → A q) {n k : Int32} {N' K' : Nat} {z : vp_A} (hn : ¬ n < 0) (hk : ¬ k < 0) (hN : n.toNatClampNeg = N') (hM : k.toNatClampNeg = K')
    (hb1 : N' * 4 ≤ 536870912) (hb2 : K' * componentBytes ty ≤ 536870912) (hb3 : K' ≤ 536870912) (hdf : fits ty (defaultValue ty) = true) (hdd : (defaultValue ty).isDefault = true) (hcells : cells + (1 + N') ≤ R.cells) (hslots : slots + (N' + N' * K') ≤ R.slots) (hz : ∀ c : ClassId, Jvm.Free.Multi.innerC c K' (defaultValue ty) = vp_cell c z) (hdg : decode cc pc = .ok (.multianewarray index 2, 4))
    (kk : ∀ (q : Nat) (r : Nat → Nat) (cA : ClassId) (H1 : Heap), (∀ i j : Nat, i < N' → j < N' → r i = r j → i = j) → (∀ i : Nat, i < N' → r i ∉ L) → va_K D cl (tys ++ [(cA, .array ty)]) s →
      va_P D cl ((X ++ [(q, .inl (cA, N', .inr (.inr (.inr (.inr (fun i => if i < N' then some (r i) else none))))))]) ++ va_pl (L ++ (List.range N').map r) (vr_up f ((List.range N').map r) (.inl (cy, z)))) H1 → va_D A ((X ++ [(q, .inl (cA, N', .inr (.inr (.inr (.inr (fun i => if i < N' then some (r i) else none))))))]) ++ va_pl (L ++ (List.range N').map r) (vr_up f ((List.range N').map r) (.inl (cy, z)))) → va_S A H0 H1 locs →
      W p l e R s m args below meth c H1 locs (cells + 1 + N') (slots + N' + N' * K') Q (F0 m (pc + 4) ls (.ref q :: rest))) : W p l e R s m args below meth c H locs cells slots Q (F0 m pc ls (.int k :: .int n :: rest)) := by
  subst hN
  subst hM
  intro T hT Xs
  obtain ⟨vm₁, cA, comp, -, fA, fC, hO, -, X', step⟩ := Xs.multianewarray2F hexec hown hclink (va_AOA.use hover) harr (g := F0 m pc ls (.int k :: .int n :: rest)) rfl (by rw [hb]; exact hdg) rfl hn hk hb1 hb2 hb3 hdf hdd hcells hslots
  have ec : some cy = some comp := hcy.symm.trans fC
  cases ec
  generalize hF : Jvm.Free.Multi.fill (T.setVm vm₁) cA cy n.toNatClampNeg k.toNatClampNeg (defaultValue ty) n.toNatClampNeg = F at X' step
  have hTh : (T.setVm vm₁).heap = H := hT
  obtain ⟨f1, f2, -, -⟩ := Jvm.Free.Multi.fill_facts (T.setVm vm₁) cA cy n.toNatClampNeg k.toNatClampNeg (defaultValue ty) n.toNatClampNeg
  rw [hF, hTh] at f1 f2
  have hold : ∀ x : Nat, x < H.size → F.heap[x]? = H[x]? := fun x hx => by
    have := Jvm.Free.Multi.fill_old (T.setVm vm₁) cA cy n.toNatClampNeg k.toNatClampNeg (defaultValue ty) (a := x) (by rw [hTh]; exact hx) n.toNatClampNeg
    rw [hF, hTh] at this
    exact this
  have hrow : ∀ j : Nat, j < n.toNatClampNeg → F.heap[H.size + 1 + j]? = some (vp_cell cy z) := fun j hj => by
    have := Jvm.Free.Multi.fill_inner (T.setVm vm₁) cA cy n.toNatClampNeg k.toNatClampNeg (defaultValue ty) n.toNatClampNeg j hj
    rw [hF, hTh, hz] at this
    exact this
  have hout : Jvm.Free.Multi.outerC cA n.toNatClampNeg H.size n.toNatClampNeg = vp_cell cA (n.toNatClampNeg, .inr (.inr (.inr (.inr (fun i => if i < n.toNatClampNeg then some (H.size + 1 + i) else none))))) := by
    rw [vp_cell_q]
    exact vr_outer cA n.toNatClampNeg H.size n.toNatClampNeg
  rw [hout] at f2
  have hlt : ∀ a, a ∈ L → a < H.size := fun a ha => by
    obtain ⟨k9, hk9⟩ := va_pl_get (X := X) (f := f) ha
    exact (hP k9 _ hk9).lt
  have hnl : ∀ i : Nat, i < n.toNatClampNeg → H.size + 1 + i ∉ L := fun i _ h => by
    have := hlt _ h
    omega
  have hnm : ∀ a, a ∈ (List.range n.toNatClampNeg).map (fun i => H.size + 1 + i) → a ∉ L := fun a ha h => by
    obtain ⟨i, -, rfl⟩ := List.mem_map.mp ha
    have := hlt _ h
    omega
  have hP0 : va_P D cl (X ++ va_pl L f) F.heap := hP.kept (fun k9 x hx => hold x.1 ((hP k9 x hx).lt))
  have hP1 : va_P D cl ((X ++ va_pl L f) ++ [(H.size, .inl (cA, n.toNatClampNeg, .inr (.inr (.inr (.inr (fun i => if i < n.toNatClampNeg then some (H.size + 1 + i) else none))))))]) F.heap := hP0.app (fun k9 x hx => by
    have h0 : k9 < 1 := (List.getElem?_eq_some_iff.mp hx).1
    rw [show k9 = 0 by omega] at hx
    cases hx
    exact f2)
  have hP2 : va_P D cl (((X ++ va_pl L f) ++ [(H.size, .inl (cA, n.toNatClampNeg, .inr (.inr (.inr (.inr (fun i => if i < n.toNatClampNeg then some (H.size + 1 + i) else none))))))]) ++ ((List.range n.toNatClampNeg).map (fun i => H.size + 1 + i)).map (fun a => (a, .inl (cy, z)))) F.heap := hP1.app (fun k9 x hx => by
    obtain ⟨a, ha, rfl⟩ := List.mem_map.mp (List.mem_of_getElem? hx)
    obtain ⟨i, hi, rfl⟩ := List.mem_map.mp ha
    exact hrow i (List.mem_range.mp hi))
  have hD2 : va_D A (((X ++ va_pl L f) ++ [(H.size, .inl (cA, n.toNatClampNeg, .inr (.inr (.inr (.inr (fun i => if i < n.toNatClampNeg then some (H.size + 1 + i) else none))))))]) ++ ((List.range n.toNatClampNeg).map (fun i => H.size + 1 + i)).map (fun a => (a, .inl (cy, z)))) := by
    have hD1 := hD.push (e := .inl (cA, n.toNatClampNeg, .inr (.inr (.inr (.inr (fun i => if i < n.toNatClampNeg then some (H.size + 1 + i) else none)))))) hP rfl (hA _ hS.1)
    generalize hW1 : (X ++ va_pl L f) ++ [(H.size, .inl (cA, n.toNatClampNeg, .inr (.inr (.inr (.inr (fun i => if i < n.toNatClampNeg then some (H.size + 1 + i) else none))))))] = W1 at hD1 hP1 ⊢
    have hle : ∀ (k9 : Nat) (x : Nat × va_E), W1[k9]? = some x → x.1 ≤ H.size := fun k9 x hx => by
      rw [← hW1] at hx
      by_cases hl : k9 < (X ++ va_pl L f).length
      · rw [List.getElem?_append_left hl] at hx
        exact Nat.le_of_lt ((hP k9 x hx).lt)
      · rw [List.getElem?_append_right (by omega)] at hx
        have h0 : k9 - (X ++ va_pl L f).length < 1 := (List.getElem?_eq_some_iff.mp hx).1
        rw [show k9 - (X ++ va_pl L f).length = 0 by omega] at hx
        cases hx
        exact Nat.le_refl _
    have hr : ∀ (k9 : Nat) (x : Nat × va_E), (((List.range n.toNatClampNeg).map (fun i => H.size + 1 + i)).map (fun a => ((a, .inl (cy, z)) : Nat × va_E)))[k9]? = some x → x.1 = H.size + 1 + k9 := fun k9 x hx => by
      rw [List.getElem?_map, List.getElem?_map] at hx
      by_cases h9 : k9 < n.toNatClampNeg
      · rw [List.getElem?_range h9] at hx
        cases hx
        rfl
      · have hn0 : (List.range n.toNatClampNeg)[k9]? = none := List.getElem?_eq_none (by rw [List.length_range]; omega)
        rw [hn0] at hx
        cases hx
    refine ⟨fun i j x y hi hj hxy => ?_, fun k9 x hx => ?_⟩
    · by_cases h1 : i < W1.length <;> by_cases h2 : j < W1.length
      · rw [List.getElem?_append_left h1] at hi
        rw [List.getElem?_append_left h2] at hj
        exact hD1.1 i j x y hi hj hxy
      · rw [List.getElem?_append_left h1] at hi
        rw [List.getElem?_append_right (by omega)] at hj
        have := hle _ _ hi
        have := hr _ _ hj
        omega
      · rw [List.getElem?_append_right (by omega)] at hi
        rw [List.getElem?_append_left h2] at hj
        have := hle _ _ hj
        have := hr _ _ hi
        omega
      · rw [List.getElem?_append_right (by omega)] at hi hj
        have := hr _ _ hi
        have := hr _ _ hj
        omega
    · by_cases h1 : k9 < W1.length
      · rw [List.getElem?_append_left h1] at hx
        exact hD1.2 k9 x hx
      · rw [List.getElem?_append_right (by omega)] at hx
        have := hr _ _ hx
        exact hA _ (by have := hS.1; omega)
  have hAr : ArrOfT s cA (.array ty) := fun N9 z9 => by
    obtain ⟨-, k9, hk9, cm9, hkk9⟩ := (hO 0 0 0).1
    exact ⟨(fun q hq => by cases hq), k9, hk9, cm9, hkk9⟩
  have hK2 : va_K D cl (tys ++ [(cA, .array ty)]) s := ⟨hK.1, fun k9 x hx => by
    by_cases hl : k9 < tys.length
    · rw [List.getElem?_append_left hl] at hx
      exact hK.2 k9 x hx
    · rw [List.getElem?_append_right (by omega)] at hx
      have h0 : k9 - tys.length < 1 := (List.getElem?_eq_some_iff.mp hx).1
      rw [show k9 - tys.length = 0 by omega] at hx
      cases hx
      exact ⟨hAr, fA⟩⟩
  obtain ⟨t, a1, b1⟩ := kk H.size (fun i => H.size + 1 + i) cA F.heap (fun i j _ _ h => by have h9 : H.size + 1 + i = H.size + 1 + j := h; omega) hnl hK2 (by rw [← vr_rows hnm]; exact vr_lay hP2) (by rw [← vr_rows hnm]; exact vr_layD hD2) ⟨by rw [f1]; have := hS.1; omega, fun x h1 h2 => (hold x (Nat.lt_of_lt_of_le h1 hS.1)).trans (hS.2.1 x h1 h2), hS.2.2⟩ F rfl X'
  refine ⟨t, step t ?_, b1⟩
  have e : T.heap.size = H.size := by rw [hT]
  rw [e]
  exact a1
end VGM
/-! ===== END ===== -/

/-! ===== BEGIN exceptions that leave a method, and their catching by the caller (launches without stack traces) ===== -/
section VXA
/-! The laws vx_back, vx_callV, vx_callS, vx_callSW, vx_throw0, vx_throwS follow proofs of the library, with one case more: JvmDerived/Free/Laws.lean (Back.of_free), Shelf42/LK1.lean (callV, callS), Shelf/KitTraced.lean (throwNew0V, throwNewS). -/
/-- where a method has thrown q: the class by its name, the cell, what was written, the world -/
def vx_T (XC : String → State → State → Prop) (st : State) (q : Addr) (t : State) (mc ms : Nat) (free : Addr → Prop) : Prop :=
  ∃ (E : String) (ce : Cell) (L : List Loc), XC E st t ∧ t.heap[q]? = some ce ∧ ce.vm = .none ∧ st.vm.findClass E = some ce.cls ∧ st.WarmedH t.vm ∧ st.sameButNew ({ t with vm := st.vm } : State) L mc ms ∧ ∀ z ∈ L, free z.base
def vx_Q (Qc : Array Value → State → Outcome → State → Prop) (XC : String → State → State → Prop) (mc ms : Nat) (free : Addr → Prop) : Array Value → State → Outcome → State → Prop := fun a st o t =>
  (Qc a st o t ∧ ∃ L, FrameEnd st o t L mc ms ∧ ∀ q ∈ L, free q.base) ∨ ∃ q, o = .threw q ∧ vx_T XC st q t mc ms free
/-- a callee that returns or throws -/
def vx_Met (l : Launch) (y : MethodName) (ws : List Cond) (rm : Room) (Pc : Array Value → State → Prop) (Qc : Array Value → State → Outcome → State → Prop) (XC : String → State → State → Prop) (mc ms : Nat) (free : Addr → Prop) : Prop :=
  MetFree l y (headSpec ws rm) Pc (fun _ _ _ _ _ => True) (vx_Q Qc XC mc ms free)
def vx_Post (XC : String → State → State → Prop) (mc ms : Nat) (free : Addr → Prop) : Pt → Array Value → Addr → Pt → Prop := fun A a q B =>
  ∃ (g : JFrame) (mk : MethodId) (t : State) (L : List Loc) (E : String) (ce : Cell), B.U.heap = t.heap ∧ B.U.vm = t.vm ∧ XC E (A.U.calling g mk a) t ∧ t.heap[q]? = some ce ∧ ce.vm = .none ∧ A.U.vm.findClass E = some ce.cls ∧ B.locs = A.locs ++ L ∧ (∀ z ∈ L, free z.base) ∧ B.cells = A.cells + mc ∧ B.slots = A.slots + ms
def vx_Back (l : Launch) (R : Room) (p : Program) (e : Env) (below : List Frame) (s : State) (sargs : Array Value) (y : MethodName) (len W9 : Nat)
    (Pre : Pt → Array Value → Prop) (Post : Pt → Array Value → Option Value → Pt → Prop) (PostX : Pt → Array Value → Addr → Pt → Prop) : Prop :=
  ∀ (m : MethodId) (meth : Method) (c : Code) (A : Pt) (g : JFrame) (ig : Instr) (mk : MethodId) (a : Array Value),
    Stand p l e R s m sargs below meth c A.U A.locs A.cells A.slots → g.method = m → g.locals.size = c.maxLocals → decode c.code g.pc = .ok (ig, len) →
    2 * g.monitorRoom + (g.stack.map fun v => v.category).sum ≤ W9 → A.U.methodNamed? y = some mk → Pre A a →
    (∃ (v : Option Value) (B : Pt), Stand p l e R s m sargs below meth c B.U B.locs B.cells B.slots ∧ Post A a v B ∧
      Steps p.tables e below (doInvoke e (A.U.setTop g) [] mk a).1 (B.U.setTop { g with pc := g.pc + len, stack := v.toList ++ g.stack })) ∨
    (∃ (q : Addr) (B : Pt), Stand p l e R s m sargs below meth c B.U B.locs B.cells B.slots ∧ PostX A a q B ∧
      Steps p.tables e below (doInvoke e (A.U.setTop g) [] mk a).1 ((B.U.setTop g).pushFrame (.throwing q)))
section Payer
variable {l : Launch} {R : Room} {p : Program} {e : Env} {below : List Frame} {s : State} {sargs : Array Value} {y : MethodName} {len W9 : Nat}
theorem vx_back {ws : List Cond} {rm : Room} {Pc : Array Value → State → Prop} {Qc : Array Value → State → Outcome → State → Prop} {XC : String → State → State → Prop} {mc ms : Nat} {free : Addr → Prop} {bytes : ByteArray} {maxL : Nat} {ret : Option FieldType}
    (hM : vx_Met l y ws rm Pc Qc XC mc ms free) (hblind : FrameBlind Pc) (hrc : rm.cells = mc) (hrs : rm.slots = ms)
    (hframes : rm.frames + 1 ≤ R.frames) (hlocals : W9 + (maxL + 11) + rm.locals ≤ R.locals)
    (hws : ∀ w ∈ ws, ∀ a' U, s.WarmedH U.vm → w.before a' U = true) (hcode : Cond.code y bytes maxL ret ∈ ws) (hinit : ∀ a' U, s.WarmedH U.vm → (Cond.initialized y.cls).before a' U = true) :
    vx_Back l R p e below s sargs y len W9 (PreOf R mc ms Pc) (PostOf Qc mc ms free) (vx_Post XC mc ms free) := by
  intro m meth c A g ig mk a X hg hsize hdg hW hn hp
  have h1 : (headSpec ws rm).pre.before a A.U = true := atoms_intro fun w hw => hws w hw _ _ X.warmed
  have h2 : (Cond.code y bytes maxL ret).before a A.U = true := hws _ hcode _ _ X.warmed
  have h3 : (Cond.initialized y.cls).before a A.U = true := hinit _ _ X.warmed
  have h4 : A.cells + (headSpec ws rm).room.cells ≤ R.cells := by rw [show (headSpec ws rm).room.cells = mc from hrc]; exact hp.1
  have h5 : A.slots + (headSpec ws rm).room.slots ≤ R.slots := by rw [show (headSpec ws rm).room.slots = ms from hrs]; exact hp.2.1
  have hPc : Pc a (A.U.calling g mk a) := hblind _ _ _ _ hp.2.2
  obtain ⟨U, Ls, c0, s0⟩ := A
  dsimp only [Pt.U, Pt.locs, Pt.cells, Pt.slots] at h1 h2 h3 h4 h5 X hn hPc ⊢
  obtain ⟨methY, cY, hmY, hcY, -, hlY, -, -, -, -⟩ := Cond.code_spec hn h2
  obtain ⟨kY, hkY, -⟩ := className_of_methodNamed hn
  have hinitY : kY.init = .initialized := Cond.initialized_spec (findClass_of_methodNamed hn) hkY h3
  have h : At U g.method c below := by rw [hg]; exact X.here
  have hlocals9 : W9 + (maxL + 11) + (headSpec ws rm).room.locals ≤ R.locals := hlocals
  have happ : (headSpec ws rm).appliesLoose y e.platform (U.calling g mk a) = true :=
    Spec.appliesLoose_calling (g := g) h hdg hn hkY hinitY
      (X.room_calling (g := g) (R' := (headSpec ws rm).room) hsize hmY hcY hframes (by rw [hlY]; omega) h4 h5) h1
  obtain ⟨mid, hmid⟩ := h.above
  have hfr : (U.setTop g).frames = (.java g :: mid) ++ below := by rw [State.frames_setTop' g h.top, hmid]; rfl
  obtain ⟨o, s₂, hsteps, -, hend, hq⟩ := Steps.callFree hM p X.admits X.cas X.clock (acts := []) hfr happ hPc trivial
  have hq' : vx_Q Qc XC mc ms free a (U.calling g mk a) o s₂ := hq
  rw [State.frames_setTop' g h.top] at hend
  obtain ⟨g₀, hg0⟩ := Option.isSome_iff_exists.mp h.top
  obtain ⟨r, hr⟩ := State.topJava?_eq_some.mp hg0
  have hr' : (({ U with heap := s₂.heap, slotsUsed := s₂.slotsUsed } : State).setVm s₂.vm).frames = .java g₀ :: r := hr
  rcases hq' with ⟨hqc, L, hfe, hL⟩ | ⟨q, rfl, E, ce, L, hx, hce, hcv, hcl, hW₂, hsm, hL⟩
  · obtain ⟨⟨v, rfl⟩, hW₂, e2, q2, q3, q4, q5, q6⟩ := id hfe
    have e3 : s₂ = ({ (U.calling g mk a).setFrames s₂.frames with heap := s₂.heap, slotsUsed := s₂.slotsUsed } : State).setVm s₂.vm := by
      have : s₂ = ({ s₂ with vm := (U.calling g mk a).vm } : State).setVm s₂.vm := rfl
      rw [e2] at this
      exact this
    obtain ⟨c₂, i₂, len₂, hc₂, hd₂, hf₂⟩ := hend
    have hW' : U.WarmedH s₂.vm := hW₂
    have hcc : c₂ = c := by
      have h1 : s₂.code? g.method = U.code? g.method := by
        rw [State.code?_eq, State.code?_eq, hW'.alike.method?]
      exact Option.some.inj (hc₂.symm.trans (h1.trans h.code))
    subst hcc
    have hlen : len₂ = len := by rw [hdg] at hd₂; cases hd₂; rfl
    subst hlen
    have hs₂ : s₂ = (({ U with heap := s₂.heap, slotsUsed := s₂.slotsUsed } : State).setVm s₂.vm).setTop { g with pc := g.pc + len₂, stack := v.toList ++ g.stack } := by
      refine e3.trans ?_
      rw [hf₂, State.calling_eq h.top, State.setFrames_setFrames, State.setTop_of_frames _ hr', hr]
      rfl
    have hsame : U.sameButNew ({ U with heap := s₂.heap, slotsUsed := s₂.slotsUsed } : State) L mc ms := by
      refine ⟨?_, q2, q3, q4, q5, q6⟩
      obtain ⟨t, ht, -⟩ := State.frames_cons hr
      show ({ U with heap := s₂.heap, slotsUsed := s₂.slotsUsed } : State) = { U.setFrames U.frames with heap := s₂.heap, slotsUsed := s₂.slotsUsed }
      rw [State.setFrames_self ht]
    subst hg
    refine Or.inl ⟨v, ⟨(({ U with heap := s₂.heap, slotsUsed := s₂.slotsUsed } : State).setVm s₂.vm), Ls ++ L, c0 + mc, s0 + ms⟩,
      ⟨X.admits, X.cas, X.clock, X.frames, X.room, X.hears, X.method, X.code, (X.here.setHeapUsed s₂.heap s₂.slotsUsed).setVm hW'.alike, X.tail, State.WarmedH.trans X.warmed hW', X.limits, X.bytes, X.same.trans (hsame.setVm s.vm)⟩,
      ⟨g, mk, s₂, L, rfl, rfl, hqc, rfl, hL, rfl, rfl⟩, ?_⟩
    show Steps p.tables e below _ ((({ U with heap := s₂.heap, slotsUsed := s₂.slotsUsed } : State).setVm s₂.vm).setTop { g with pc := g.pc + len₂, stack := v.toList ++ g.stack })
    rw [← hs₂]
    exact hsteps
  · obtain ⟨e2, q2, q3, q4, q5, q6⟩ := id hsm
    have e3 : s₂ = ({ (U.calling g mk a).setFrames s₂.frames with heap := s₂.heap, slotsUsed := s₂.slotsUsed } : State).setVm s₂.vm := by
      have : s₂ = ({ s₂ with vm := (U.calling g mk a).vm } : State).setVm s₂.vm := rfl
      rw [e2] at this
      exact this
    have hf₂ : s₂.frames = .throwing q :: .java g :: U.frames.tail := hend
    have hW' : U.WarmedH s₂.vm := hW₂
    have hs₂ : s₂ = ((({ U with heap := s₂.heap, slotsUsed := s₂.slotsUsed } : State).setVm s₂.vm).setTop g).pushFrame (.throwing q) := by
      refine e3.trans ?_
      rw [hf₂, State.calling_eq h.top, State.setFrames_setFrames, State.pushFrame, State.frames_setTop _ hr', State.setTop_of_frames _ hr', State.setFrames_setFrames, hr]
      rfl
    have hsame : U.sameButNew ({ U with heap := s₂.heap, slotsUsed := s₂.slotsUsed } : State) L mc ms := by
      refine ⟨?_, q2, q3, q4, q5, q6⟩
      obtain ⟨t, ht, -⟩ := State.frames_cons hr
      show ({ U with heap := s₂.heap, slotsUsed := s₂.slotsUsed } : State) = { U.setFrames U.frames with heap := s₂.heap, slotsUsed := s₂.slotsUsed }
      rw [State.setFrames_self ht]
    subst hg
    refine Or.inr ⟨q, ⟨(({ U with heap := s₂.heap, slotsUsed := s₂.slotsUsed } : State).setVm s₂.vm), Ls ++ L, c0 + mc, s0 + ms⟩,
      ⟨X.admits, X.cas, X.clock, X.frames, X.room, X.hears, X.method, X.code, (X.here.setHeapUsed s₂.heap s₂.slotsUsed).setVm hW'.alike, X.tail, State.WarmedH.trans X.warmed hW', X.limits, X.bytes, X.same.trans (hsame.setVm s.vm)⟩,
      ⟨g, mk, s₂, L, E, ce, rfl, rfl, hx, hce, hcv, hcl, rfl, hL, rfl, rfl⟩, ?_⟩
    show Steps p.tables e below _ (((({ U with heap := s₂.heap, slotsUsed := s₂.slotsUsed } : State).setVm s₂.vm).setTop g).pushFrame (.throwing q))
    rw [← hs₂]
    exact hsteps
end Payer
section Calls
variable {p : Program} {l : Launch} {e : Env} {R : Room} {s : State} {m : MethodId} {args : Array Value} {below : List Frame} {meth : Method} {c : Code} {T : State} {locs : List Loc} {cells slots : Nat}
theorem vx_callV (X : Stand p l e R s m args below meth c T locs cells slots) (hexec : p.tables.exec = Jvm.exec) {own C : String} {index : Nat} {y : MethodName} {bytes : ByteArray} {maxL : Nat} {ret : Option FieldType}
    (hown : s.vm.findClass own = some m.cls) (hlink : (Cond.methodLink own index y).before args s = true) (hinst : (Cond.instanceMethod y).before args s = true) (hsel : (Cond.selects C y y).before args s = true)
    (hcode : (Cond.code y bytes maxL ret).before args s = true) (hy : y.cls ≠ "java/lang/invoke/MethodHandle" ∧ y.cls ≠ "java/lang/invoke/VarHandle")
    {W9 : Nat} {Pre : Pt → Array Value → Prop} {Post : Pt → Array Value → Option Value → Pt → Prop} {PostX : Pt → Array Value → Addr → Pt → Prop} (hK : vx_Back l R p e below s args y 3 W9 Pre Post PostX)
    {b : Addr} {cellB : Cell} (hcell : T.heap[b]? = some cellB) (hobj : cellB.vm.isStatics = false) (hcls : s.vm.findClass C = some cellB.cls)
    {g : JFrame} (hg : g.method = m) (hsize : g.locals.size = c.maxLocals) {argsL rest : List Value} (hlen : ∀ sig, parseMethodDescriptor y.desc = some sig → argsL.length = sig.parameters.length)
    (hstack : g.stack = argsL.reverse ++ .ref b :: rest) (hW : 2 * g.monitorRoom + (rest.map fun v => v.category).sum ≤ W9) (hdg : decode c.code g.pc = .ok (.invokevirtual index, 3))
    (hpre : ∀ vm₁, s.WarmedH vm₁ → Pre ⟨T.setVm vm₁, locs, cells, slots⟩ (Value.ref b :: argsL).toArray) :
    (∃ (v : Option Value) (vm₁ : Vm) (B : Pt), s.WarmedH vm₁ ∧ Stand p l e R s m args below meth c B.U B.locs B.cells B.slots ∧ Post ⟨T.setVm vm₁, locs, cells, slots⟩ (Value.ref b :: argsL).toArray v B ∧
      ∀ target, Steps p.tables e below (B.U.setTop { g with pc := g.pc + 3, stack := v.toList ++ rest }) target → Steps p.tables e below (T.setTop g) target) ∨
    (∃ (q : Addr) (vm₁ : Vm) (B : Pt), s.WarmedH vm₁ ∧ Stand p l e R s m args below meth c B.U B.locs B.cells B.slots ∧ PostX ⟨T.setVm vm₁, locs, cells, slots⟩ (Value.ref b :: argsL).toArray q B ∧
      Steps p.tables e below (T.setTop g) ((B.U.setTop { g with stack := rest }).pushFrame (.throwing q))) := by
  obtain ⟨mk, methM, hnamed, hmethM, hstM, habM⟩ := Cond.instanceMethod_spec hinst
  obtain ⟨methM', cM, hmethM', -, -, -, -, -, -, hsigM⟩ := Cond.code_spec hnamed hcode
  cases hmethM.symm.trans hmethM'
  obtain ⟨c2, r2, m2, q1, q2, q3, q4, kP, hkP, hkPi⟩ := Cond.selects_spec hsel
  cases hcls.symm.trans q1
  cases (State.methodFound?_of_named hnamed hy).symm.trans q2
  cases hnamed.symm.trans q3
  have hselP : selectMethod e.platform s.vm cellB.cls mk = .method mk := by rw [Launch.admits_selectMethod X.admits]; exact q4
  obtain ⟨vm₁, X₁, hstep₁⟩ := X.invokevirtual hexec hown hlink hnamed hmethM hstM hkP hkPi hy (a := b) (cell := cellB) hcell
    (fun z h => by rw [h] at hobj; cases hobj) hselP hmethM habM hkP hkPi (g := g) hg (argsL := argsL) (rest := rest) (hlen _ hsigM) hstack hdg
  rcases hK m meth c ⟨T.setVm vm₁, locs, cells, slots⟩ { g with stack := rest } (.invokevirtual index) mk (Value.ref b :: argsL).toArray X₁ hg hsize hdg hW (X₁.named hnamed) (hpre vm₁ X₁.warmed) with ⟨v, B, X', hpost, hsteps⟩ | ⟨q, B, X', hpost, hsteps⟩
  · exact Or.inl ⟨v, vm₁, B, X₁.warmed, X', hpost, fun target h => hstep₁ _ fun acts => by rw [doInvoke_state]; exact hsteps.trans h⟩
  · exact Or.inr ⟨q, vm₁, B, X₁.warmed, X', hpost, hstep₁ _ fun acts => by rw [doInvoke_state]; exact hsteps⟩
theorem vx_callS (X : Stand p l e R s m args below meth c T locs cells slots) (hexec : p.tables.exec = Jvm.exec) {own : String} {index : Nat} {y : MethodName} {bytes : ByteArray} {maxL : Nat} {ret : Option FieldType}
    (hown : s.vm.findClass own = some m.cls) (hlink : (Cond.methodLink own index y).before args s = true) (hstat : (Cond.static y).before args s = true) (hinit : (Cond.initialized y.cls).before args s = true)
    (hcode : (Cond.code y bytes maxL ret).before args s = true) (hy : y.cls ≠ "java/lang/invoke/MethodHandle" ∧ y.cls ≠ "java/lang/invoke/VarHandle")
    {W9 : Nat} {Pre : Pt → Array Value → Prop} {Post : Pt → Array Value → Option Value → Pt → Prop} {PostX : Pt → Array Value → Addr → Pt → Prop} (hK : vx_Back l R p e below s args y 3 W9 Pre Post PostX)
    {g : JFrame} (hg : g.method = m) (hsize : g.locals.size = c.maxLocals) {argsL rest : List Value} (hlen : ∀ sig, parseMethodDescriptor y.desc = some sig → argsL.length = sig.parameters.length)
    (hstack : g.stack = argsL.reverse ++ rest) (hW : 2 * g.monitorRoom + (rest.map fun v => v.category).sum ≤ W9) (hdg : decode c.code g.pc = .ok (.invokestatic index, 3))
    (hpre : ∀ vm₁, s.WarmedH vm₁ → Pre ⟨T.setVm vm₁, locs, cells, slots⟩ argsL.toArray) :
    (∃ (v : Option Value) (vm₁ : Vm) (B : Pt), s.WarmedH vm₁ ∧ Stand p l e R s m args below meth c B.U B.locs B.cells B.slots ∧ Post ⟨T.setVm vm₁, locs, cells, slots⟩ argsL.toArray v B ∧
      ∀ target, Steps p.tables e below (B.U.setTop { g with pc := g.pc + 3, stack := v.toList ++ rest }) target → Steps p.tables e below (T.setTop g) target) ∨
    (∃ (q : Addr) (vm₁ : Vm) (B : Pt), s.WarmedH vm₁ ∧ Stand p l e R s m args below meth c B.U B.locs B.cells B.slots ∧ PostX ⟨T.setVm vm₁, locs, cells, slots⟩ argsL.toArray q B ∧
      Steps p.tables e below (T.setTop g) ((B.U.setTop { g with stack := rest }).pushFrame (.throwing q))) := by
  obtain ⟨mk, hnamed⟩ := Cond.code_named hcode
  obtain ⟨methM, cM, hmethM, -, -, -, -, -, -, hsigM⟩ := Cond.code_spec hnamed hcode
  have hstatic : methM.isStatic = true := Cond.static_spec hnamed hmethM hstat
  obtain ⟨kP, hkP, -⟩ := className_of_methodNamed hnamed
  have hinitP : kP.init = .initialized := Cond.initialized_spec (findClass_of_methodNamed hnamed) hkP hinit
  obtain ⟨vm₁, X₁, hstep₁⟩ := X.invokestatic hexec hown hlink hnamed hmethM hstatic hkP hinitP hy (g := g) hg (argsL := argsL) (rest := rest) (hlen _ hsigM) hstack hdg
  rcases hK m meth c ⟨T.setVm vm₁, locs, cells, slots⟩ { g with stack := rest } (.invokestatic index) mk argsL.toArray X₁ hg hsize hdg hW (X₁.named hnamed) (hpre vm₁ X₁.warmed) with ⟨v, B, X', hpost, hsteps⟩ | ⟨q, B, X', hpost, hsteps⟩
  · exact Or.inl ⟨v, vm₁, B, X₁.warmed, X', hpost, fun target h => hstep₁ _ fun acts => by rw [doInvoke_state]; exact hsteps.trans h⟩
  · exact Or.inr ⟨q, vm₁, B, X₁.warmed, X', hpost, hstep₁ _ fun acts => by rw [doInvoke_state]; exact hsteps⟩
end Calls
theorem vx_cls {s : State} {T : State} {vm₁ : Vm} {E : String} {k : ClassId} (hW : s.WarmedH vm₁) (h : (T.setVm vm₁).vm.findClass E = some k) : s.vm.findClass E = some k := by
  have h1 : vm₁.findClass E = some k := h
  rw [hW.alike.findClass] at h1
  exact h1
/-- the method's frame g, with q thrown over it -/
def vx_W (p : Program) (l : Launch) (e : Env) (R : Room) (s : State) (m : MethodId) (args : Array Value) (below : List Frame) (meth : Method) (c : Code) (H : Heap) (locs : List Loc) (cells slots : Nat) (Q : State → Prop) (g : JFrame) (q : Addr) : Prop :=
  ∀ T : State, T.heap = H → Stand p l e R s m args below meth c T locs cells slots → ∃ t, Steps p.tables e below ((T.setTop g).pushFrame (.throwing q)) t ∧ Q t
def vx_Run (p : Program) (l : Launch) (e : Env) (R : Room) (s : State) (m : MethodId) (args : Array Value) (below : List Frame) (meth : Method) (c : Code) (H : Heap) (locs : List Loc) (cells slots mc ms : Nat) (g : JFrame) (rest : List Value) (Qa : State → Outcome → State → Prop) (XC : String → State → State → Prop) (free : Addr → Prop) : Prop :=
  ∀ T : State, T.heap = H → Stand p l e R s m args below meth c T locs cells slots →
    (∃ (v : Option Value) (st₀ t T' : State) (L : List Loc), st₀.heap = H ∧ Stand p l e R s m args below meth c T' (locs ++ L) (cells + mc) (slots + ms) ∧ (∀ q ∈ L, free q.base) ∧ T'.heap = t.heap ∧ T'.vm = t.vm ∧ Qa st₀ (.returned v) t ∧
      Goes p e below T g T' { g with pc := g.pc + 3, stack := v.toList ++ rest }) ∨
    (∃ (q : Addr) (st₀ t T' : State) (L : List Loc) (E : String) (ce : Cell), st₀.heap = H ∧ Stand p l e R s m args below meth c T' (locs ++ L) (cells + mc) (slots + ms) ∧ (∀ z ∈ L, free z.base) ∧ T'.heap = t.heap ∧ T'.vm = t.vm ∧ XC E st₀ t ∧ t.heap[q]? = some ce ∧ ce.vm = .none ∧ s.vm.findClass E = some ce.cls ∧
      Steps p.tables e below (T.setTop g) ((T'.setTop { g with stack := rest }).pushFrame (.throwing q)))
def vx_X {S : Type} (px : S → Prop) (B : String → S → State → Prop) (A : Nat → Prop) : String → State → State → Prop := fun E st t => ∃ u : S, px u ∧ B E u t ∧ va_F A st t
section Runs
variable {p : Program} {l : Launch} {e : Env} {R : Room} {s : State} {m : MethodId} {args : Array Value} {below : List Frame} {meth : Method} {c : Code} {H : Heap} {locs : List Loc} {cells slots : Nat}
variable {y : MethodName} {bytes cc : ByteArray} {maxL nL mc ms n index : Nat} {ret : Option FieldType} {ws : List Cond} {rm : Room} {Pc : Array Value → State → Prop} {Qc : Array Value → State → Outcome → State → Prop} {XC : String → State → State → Prop} {free : Addr → Prop} {Ts : List Cond} {own C : String} {b : Addr} {As rest : List Value} {g : JFrame}
theorem vx_callBack (cb : CallB R s args own index y bytes maxL ret ws rm mc ms n) (hM : vx_Met l y ws rm Pc Qc XC mc ms free) (hbl : FrameBlind Pc) : vx_Back l R p e below s args y 3 8 (PreOf R mc ms Pc) (PostOf Qc mc ms free) (vx_Post XC mc ms free) := by
  obtain ⟨hrc, hrs, hfr, hlo, hws, hcw, -, hini, -⟩ := cb
  exact vx_back (bytes := bytes) (maxL := maxL) (ret := ret) hM hbl hrc hrs hfr hlo hws hcw (fun a' U hW => word_at hW (Or.inl (by first | rfl | simp [Cond.onTables, Cond.keeps, Cond.steady])) hini)
theorem vx_runV (S : CallFix p m c cc nL s args Ts own) (hM : vx_Met l y ws rm Pc Qc XC mc ms free) (cw : CallW R s args own C index y bytes maxL ret ws rm mc ms n) (hp : PreV s H C b Pc As)
    (hg : g.method = m) (hn : As.length = n) (hsize : g.locals.size = nL) (hstack : g.stack = As.reverse ++ .ref b :: rest) (hW : 2 * g.monitorRoom + (rest.map fun v => v.category).sum ≤ 8) (hdg : decode cc g.pc = .ok (.invokevirtual index, 3)) (hf : cells + mc ≤ R.cells ∧ slots + ms ≤ R.slots) :
    vx_Run p l e R s m args below meth c H locs cells slots mc ms g rest (Qc (Value.ref b :: As).toArray) XC free := by
  have hK : vx_Back l R p e below s args y 3 8 (PreOf R mc ms Pc) (PostOf Qc mc ms free) (vx_Post XC mc ms free) := vx_callBack cw.1 hM hp.1
  obtain ⟨⟨-, -, -, -, -, -, hcode, -, hy, hlen, hl⟩, hin, hse⟩ := cw
  obtain ⟨hx, hb, hml, ho, -⟩ := S
  obtain ⟨-, ⟨cellB, hcB, hoB, hclB⟩, hPc⟩ := hp
  intro T hT X
  rcases vx_callV X hx (C := C) (bytes := bytes) (maxL := maxL) (ret := ret) ho hl hin hse hcode hy hK (by rw [hT]; exact hcB) hoB hclB hg (hsize.trans hml.symm) (argsL := As) (rest := rest) (fun sig h => hn.trans (hlen sig h)) hstack hW (by rw [hb]; exact hdg)
    (fun vm₁ hW₁ => ⟨hf.1, hf.2, hPc (T.setVm vm₁) hT hW₁⟩) with ⟨v, vm₁, ⟨U', l2, c2, s2⟩, hW₁, X', ⟨g', mk, t, L, e1, e2, hq, h1, hL, h2, h3⟩, st⟩ | ⟨q, vm₁, ⟨U', l2, c2, s2⟩, hW₁, X', ⟨g', mk, t, L, E, ce, e1, e2, hq, hce, hcv, hcl, h1, hL, h2, h3⟩, st⟩
  · dsimp only [Pt.U, Pt.locs, Pt.cells, Pt.slots] at X' e1 e2 h1 h2 h3 st
    subst h1; subst h2; subst h3
    exact Or.inl ⟨v, (T.setVm vm₁).calling g' mk (Value.ref b :: As).toArray, t, U', L, hT, X', hL, e1, e2, hq, st⟩
  · dsimp only [Pt.U, Pt.locs, Pt.cells, Pt.slots] at X' e1 e2 h1 h2 h3 st hcl
    subst h1; subst h2; subst h3
    exact Or.inr ⟨q, (T.setVm vm₁).calling g' mk (Value.ref b :: As).toArray, t, U', L, E, ce, hT, X', hL, e1, e2, hq, hce, hcv, vx_cls hW₁ hcl, st⟩
theorem vx_runS (S : CallFix p m c cc nL s args Ts own) (hM : vx_Met l y ws rm Pc Qc XC mc ms free) (cw : CallB R s args own index y bytes maxL ret ws rm mc ms n ∧ (Cond.static y).before args s = true) (hp : PreS s H Pc As)
    (hg : g.method = m) (hn : As.length = n) (hsize : g.locals.size = nL) (hstack : g.stack = As.reverse ++ rest) (hW : 2 * g.monitorRoom + (rest.map fun v => v.category).sum ≤ 8) (hdg : decode cc g.pc = .ok (.invokestatic index, 3)) (hf : cells + mc ≤ R.cells ∧ slots + ms ≤ R.slots) :
    vx_Run p l e R s m args below meth c H locs cells slots mc ms g rest (Qc As.toArray) XC free := by
  have hK : vx_Back l R p e below s args y 3 8 (PreOf R mc ms Pc) (PostOf Qc mc ms free) (vx_Post XC mc ms free) := vx_callBack cw.1 hM hp.1
  obtain ⟨⟨-, -, -, -, -, -, hcode, hini, hy, hlen, hl⟩, hstt⟩ := cw
  obtain ⟨hx, hb, hml, ho, -⟩ := S
  intro T hT X
  rcases vx_callS X hx (bytes := bytes) (maxL := maxL) (ret := ret) ho hl hstt hini hcode hy hK hg (hsize.trans hml.symm) (argsL := As) (rest := rest) (fun sig h => hn.trans (hlen sig h)) hstack hW (by rw [hb]; exact hdg)
    (fun vm₁ hW₁ => ⟨hf.1, hf.2, hp.2 (T.setVm vm₁) hT hW₁⟩) with ⟨v, vm₁, ⟨U', l2, c2, s2⟩, hW₁, X', ⟨g', mk, t, L, e1, e2, hq, h1, hL, h2, h3⟩, st⟩ | ⟨q, vm₁, ⟨U', l2, c2, s2⟩, hW₁, X', ⟨g', mk, t, L, E, ce, e1, e2, hq, hce, hcv, hcl, h1, hL, h2, h3⟩, st⟩
  · dsimp only [Pt.U, Pt.locs, Pt.cells, Pt.slots] at X' e1 e2 h1 h2 h3 st
    subst h1; subst h2; subst h3
    exact Or.inl ⟨v, (T.setVm vm₁).calling g' mk As.toArray, t, U', L, hT, X', hL, e1, e2, hq, st⟩
  · dsimp only [Pt.U, Pt.locs, Pt.cells, Pt.slots] at X' e1 e2 h1 h2 h3 st hcl
    subst h1; subst h2; subst h3
    exact Or.inr ⟨q, (T.setVm vm₁).calling g' mk As.toArray, t, U', L, E, ce, hT, X', hL, e1, e2, hq, hce, hcv, vx_cls hW₁ hcl, st⟩
end Runs
section Rows
variable {p : Program} {l : Launch} {e : Env} {R : Room} {s : State} {m : MethodId} {args : Array Value} {below : List Frame} {meth : Method} {c : Code} {H : Heap} {locs : List Loc} {cells slots : Nat} {Q : State → Prop}
variable {mc ms : Nat} {free : Addr → Prop} {A0 A1 : Nat → Prop} {H0 : Heap} {a : Array Value} {pc : Nat} {ls : Array Slot} {st0 rest : List Value}
theorem vx_keep {st₀ t T' : State} {L : List Loc} (h0 : st₀.heap = H) (e1 : T'.heap = t.heap) (hS : va_S A0 H0 H locs) (hA : ∀ q, q < H.size → A1 q → A0 q) (hf : ∀ q, free q → A0 q) (hL : ∀ q ∈ L, free q.base) (hF : va_F A1 st₀ t) :
    H.size ≤ T'.heap.size ∧ (∀ q : Nat, q < H.size → ¬ A1 q → T'.heap[q]? = H[q]?) ∧ va_S A0 H0 T'.heap (locs ++ L) := by
  obtain ⟨hz, hk⟩ := hF
  rw [h0] at hz hk
  exact ⟨by rw [e1]; exact hz, fun q h1 h2 => by rw [e1]; exact hk q h1 h2,
    ⟨Nat.le_trans hS.1 (by rw [e1]; exact hz), fun q h1 h2 => by rw [e1, hk q (Nat.lt_of_lt_of_le h1 hS.1) (fun z => h2 (hA q (Nat.lt_of_lt_of_le h1 hS.1) z))]; exact hS.2.1 q h1 h2, fun q hq => by
      rcases List.mem_append.mp hq with h | h
      · exact hS.2.2 q h
      · exact hf _ (hL q h)⟩⟩
theorem vx_calli {S SX : Type} {post : Int32 → S → Prop} {px : SX → Prop} {B : S → State → Prop} {BX : String → SX → State → Prop} {AX : Nat → Prop} (hr : vx_Run p l e R s m args below meth c H locs cells slots mc ms (F0 m pc ls st0) rest (va_Qi post B A1 a) (vx_X px BX AX) free) (hS : va_S A0 H0 H locs) (hA : ∀ q, q < H.size → A1 q → A0 q) (hf : ∀ q, free q → A0 q) (hAX : ∀ q, q < H.size → AX q → A0 q)
    (kx : ∀ (E : String) (ce : Cell) (q9 : Addr) (u : SX) (t : State) (H1 : Heap) (locs1 : List Loc), t.heap = H1 → s.vm.Alike t.vm → px u → BX E u t → H.size ≤ H1.size → (∀ q : Nat, q < H.size → ¬ AX q → H1[q]? = H[q]?) → va_S A0 H0 H1 locs1 → H1[q9]? = some ce → ce.vm = .none → s.vm.findClass E = some ce.cls → vx_W p l e R s m args below meth c H1 locs1 (cells + mc) (slots + ms) Q (F0 m pc ls rest) q9)
    (kk : ∀ (r : Int32) (u : S) (t : State) (H1 : Heap) (locs1 : List Loc), t.heap = H1 → s.vm.Alike t.vm → post r u → B u t → H.size ≤ H1.size → (∀ q : Nat, q < H.size → ¬ A1 q → H1[q]? = H[q]?) → va_S A0 H0 H1 locs1 → W p l e R s m args below meth c H1 locs1 (cells + mc) (slots + ms) Q (F0 m (pc + 3) ls (.int r :: rest))) : W p l e R s m args below meth c H locs cells slots Q (F0 m pc ls st0) := by
  intro T hT X
  rcases hr T hT X with ⟨v, st₀, t, T', L, h0, X', hL, e1, e2, ⟨⟨r, u, hv, hp, hb⟩, hF⟩, st⟩ | ⟨q, st₀, t, T', L, E, ce, h0, X', hL, e1, e2, ⟨u, hp, hb, hF⟩, hce, hcv, hcl, st⟩
  · cases hv
    obtain ⟨k1, k2, k3⟩ := vx_keep h0 e1 hS hA hf hL hF
    obtain ⟨t2, a1, b1⟩ := kk r u t T'.heap (locs ++ L) e1.symm (by rw [← e2]; exact X'.warmed.alike) hp hb k1 k2 k3 T' rfl X'
    exact ⟨t2, st t2 a1, b1⟩
  · obtain ⟨k1, k2, k3⟩ := vx_keep h0 e1 hS hAX hf hL hF
    obtain ⟨t2, a1, b1⟩ := kx E ce q u t T'.heap (locs ++ L) e1.symm (by rw [← e2]; exact X'.warmed.alike) hp hb k1 k2 k3 (by rw [e1]; exact hce) hcv hcl T' rfl X'
    exact ⟨t2, st.trans a1, b1⟩
theorem vx_calll {S SX : Type} {post : Int64 → S → Prop} {px : SX → Prop} {B : S → State → Prop} {BX : String → SX → State → Prop} {AX : Nat → Prop} (hr : vx_Run p l e R s m args below meth c H locs cells slots mc ms (F0 m pc ls st0) rest (va_Ql post B A1 a) (vx_X px BX AX) free) (hS : va_S A0 H0 H locs) (hA : ∀ q, q < H.size → A1 q → A0 q) (hf : ∀ q, free q → A0 q) (hAX : ∀ q, q < H.size → AX q → A0 q)
    (kx : ∀ (E : String) (ce : Cell) (q9 : Addr) (u : SX) (t : State) (H1 : Heap) (locs1 : List Loc), t.heap = H1 → s.vm.Alike t.vm → px u → BX E u t → H.size ≤ H1.size → (∀ q : Nat, q < H.size → ¬ AX q → H1[q]? = H[q]?) → va_S A0 H0 H1 locs1 → H1[q9]? = some ce → ce.vm = .none → s.vm.findClass E = some ce.cls → vx_W p l e R s m args below meth c H1 locs1 (cells + mc) (slots + ms) Q (F0 m pc ls rest) q9)
    (kk : ∀ (r : Int64) (u : S) (t : State) (H1 : Heap) (locs1 : List Loc), t.heap = H1 → s.vm.Alike t.vm → post r u → B u t → H.size ≤ H1.size → (∀ q : Nat, q < H.size → ¬ A1 q → H1[q]? = H[q]?) → va_S A0 H0 H1 locs1 → W p l e R s m args below meth c H1 locs1 (cells + mc) (slots + ms) Q (F0 m (pc + 3) ls (.long r :: rest))) : W p l e R s m args below meth c H locs cells slots Q (F0 m pc ls st0) := by
  intro T hT X
  rcases hr T hT X with ⟨v, st₀, t, T', L, h0, X', hL, e1, e2, ⟨⟨r, u, hv, hp, hb⟩, hF⟩, st⟩ | ⟨q, st₀, t, T', L, E, ce, h0, X', hL, e1, e2, ⟨u, hp, hb, hF⟩, hce, hcv, hcl, st⟩
  · cases hv
    obtain ⟨k1, k2, k3⟩ := vx_keep h0 e1 hS hA hf hL hF
    obtain ⟨t2, a1, b1⟩ := kk r u t T'.heap (locs ++ L) e1.symm (by rw [← e2]; exact X'.warmed.alike) hp hb k1 k2 k3 T' rfl X'
    exact ⟨t2, st t2 a1, b1⟩
  · obtain ⟨k1, k2, k3⟩ := vx_keep h0 e1 hS hAX hf hL hF
    obtain ⟨t2, a1, b1⟩ := kx E ce q u t T'.heap (locs ++ L) e1.symm (by rw [← e2]; exact X'.warmed.alike) hp hb k1 k2 k3 (by rw [e1]; exact hce) hcv hcl T' rfl X'
    exact ⟨t2, st.trans a1, b1⟩
theorem vx_callf {S SX : Type} {post : UInt32 → S → Prop} {px : SX → Prop} {B : S → State → Prop} {BX : String → SX → State → Prop} {AX : Nat → Prop} (hr : vx_Run p l e R s m args below meth c H locs cells slots mc ms (F0 m pc ls st0) rest (va_Qf post B A1 a) (vx_X px BX AX) free) (hS : va_S A0 H0 H locs) (hA : ∀ q, q < H.size → A1 q → A0 q) (hf : ∀ q, free q → A0 q) (hAX : ∀ q, q < H.size → AX q → A0 q)
    (kx : ∀ (E : String) (ce : Cell) (q9 : Addr) (u : SX) (t : State) (H1 : Heap) (locs1 : List Loc), t.heap = H1 → s.vm.Alike t.vm → px u → BX E u t → H.size ≤ H1.size → (∀ q : Nat, q < H.size → ¬ AX q → H1[q]? = H[q]?) → va_S A0 H0 H1 locs1 → H1[q9]? = some ce → ce.vm = .none → s.vm.findClass E = some ce.cls → vx_W p l e R s m args below meth c H1 locs1 (cells + mc) (slots + ms) Q (F0 m pc ls rest) q9)
    (kk : ∀ (r : UInt32) (u : S) (t : State) (H1 : Heap) (locs1 : List Loc), t.heap = H1 → s.vm.Alike t.vm → post r u → B u t → H.size ≤ H1.size → (∀ q : Nat, q < H.size → ¬ A1 q → H1[q]? = H[q]?) → va_S A0 H0 H1 locs1 → W p l e R s m args below meth c H1 locs1 (cells + mc) (slots + ms) Q (F0 m (pc + 3) ls (.float r :: rest))) : W p l e R s m args below meth c H locs cells slots Q (F0 m pc ls st0) := by
  intro T hT X
  rcases hr T hT X with ⟨v, st₀, t, T', L, h0, X', hL, e1, e2, ⟨⟨r, u, hv, hp, hb⟩, hF⟩, st⟩ | ⟨q, st₀, t, T', L, E, ce, h0, X', hL, e1, e2, ⟨u, hp, hb, hF⟩, hce, hcv, hcl, st⟩
  · cases hv
    obtain ⟨k1, k2, k3⟩ := vx_keep h0 e1 hS hA hf hL hF
    obtain ⟨t2, a1, b1⟩ := kk r u t T'.heap (locs ++ L) e1.symm (by rw [← e2]; exact X'.warmed.alike) hp hb k1 k2 k3 T' rfl X'
    exact ⟨t2, st t2 a1, b1⟩
  · obtain ⟨k1, k2, k3⟩ := vx_keep h0 e1 hS hAX hf hL hF
    obtain ⟨t2, a1, b1⟩ := kx E ce q u t T'.heap (locs ++ L) e1.symm (by rw [← e2]; exact X'.warmed.alike) hp hb k1 k2 k3 (by rw [e1]; exact hce) hcv hcl T' rfl X'
    exact ⟨t2, st.trans a1, b1⟩
theorem vx_calld {S SX : Type} {post : UInt64 → S → Prop} {px : SX → Prop} {B : S → State → Prop} {BX : String → SX → State → Prop} {AX : Nat → Prop} (hr : vx_Run p l e R s m args below meth c H locs cells slots mc ms (F0 m pc ls st0) rest (va_Qd post B A1 a) (vx_X px BX AX) free) (hS : va_S A0 H0 H locs) (hA : ∀ q, q < H.size → A1 q → A0 q) (hf : ∀ q, free q → A0 q) (hAX : ∀ q, q < H.size → AX q → A0 q)
    (kx : ∀ (E : String) (ce : Cell) (q9 : Addr) (u : SX) (t : State) (H1 : Heap) (locs1 : List Loc), t.heap = H1 → s.vm.Alike t.vm → px u → BX E u t → H.size ≤ H1.size → (∀ q : Nat, q < H.size → ¬ AX q → H1[q]? = H[q]?) → va_S A0 H0 H1 locs1 → H1[q9]? = some ce → ce.vm = .none → s.vm.findClass E = some ce.cls → vx_W p l e R s m args below meth c H1 locs1 (cells + mc) (slots + ms) Q (F0 m pc ls rest) q9)
    (kk : ∀ (r : UInt64) (u : S) (t : State) (H1 : Heap) (locs1 : List Loc), t.heap = H1 → s.vm.Alike t.vm → post r u → B u t → H.size ≤ H1.size → (∀ q : Nat, q < H.size → ¬ A1 q → H1[q]? = H[q]?) → va_S A0 H0 H1 locs1 → W p l e R s m args below meth c H1 locs1 (cells + mc) (slots + ms) Q (F0 m (pc + 3) ls (.double r :: rest))) : W p l e R s m args below meth c H locs cells slots Q (F0 m pc ls st0) := by
  intro T hT X
  rcases hr T hT X with ⟨v, st₀, t, T', L, h0, X', hL, e1, e2, ⟨⟨r, u, hv, hp, hb⟩, hF⟩, st⟩ | ⟨q, st₀, t, T', L, E, ce, h0, X', hL, e1, e2, ⟨u, hp, hb, hF⟩, hce, hcv, hcl, st⟩
  · cases hv
    obtain ⟨k1, k2, k3⟩ := vx_keep h0 e1 hS hA hf hL hF
    obtain ⟨t2, a1, b1⟩ := kk r u t T'.heap (locs ++ L) e1.symm (by rw [← e2]; exact X'.warmed.alike) hp hb k1 k2 k3 T' rfl X'
    exact ⟨t2, st t2 a1, b1⟩
  · obtain ⟨k1, k2, k3⟩ := vx_keep h0 e1 hS hAX hf hL hF
    obtain ⟨t2, a1, b1⟩ := kx E ce q u t T'.heap (locs ++ L) e1.symm (by rw [← e2]; exact X'.warmed.alike) hp hb k1 k2 k3 (by rw [e1]; exact hce) hcv hcl T' rfl X'
    exact ⟨t2, st.trans a1, b1⟩
theorem vx_callv {S SX : Type} {post : S → Prop} {px : SX → Prop} {B : S → State → Prop} {BX : String → SX → State → Prop} {AX : Nat → Prop} (hr : vx_Run p l e R s m args below meth c H locs cells slots mc ms (F0 m pc ls st0) rest (va_Qv post B A1 a) (vx_X px BX AX) free) (hS : va_S A0 H0 H locs) (hA : ∀ q, q < H.size → A1 q → A0 q) (hf : ∀ q, free q → A0 q) (hAX : ∀ q, q < H.size → AX q → A0 q)
    (kx : ∀ (E : String) (ce : Cell) (q9 : Addr) (u : SX) (t : State) (H1 : Heap) (locs1 : List Loc), t.heap = H1 → s.vm.Alike t.vm → px u → BX E u t → H.size ≤ H1.size → (∀ q : Nat, q < H.size → ¬ AX q → H1[q]? = H[q]?) → va_S A0 H0 H1 locs1 → H1[q9]? = some ce → ce.vm = .none → s.vm.findClass E = some ce.cls → vx_W p l e R s m args below meth c H1 locs1 (cells + mc) (slots + ms) Q (F0 m pc ls rest) q9)
    (kk : ∀ (u : S) (t : State) (H1 : Heap) (locs1 : List Loc), t.heap = H1 → s.vm.Alike t.vm → post u → B u t → H.size ≤ H1.size → (∀ q : Nat, q < H.size → ¬ A1 q → H1[q]? = H[q]?) → va_S A0 H0 H1 locs1 → W p l e R s m args below meth c H1 locs1 (cells + mc) (slots + ms) Q (F0 m (pc + 3) ls (rest))) : W p l e R s m args below meth c H locs cells slots Q (F0 m pc ls st0) := by
  intro T hT X
  rcases hr T hT X with ⟨v, st₀, t, T', L, h0, X', hL, e1, e2, ⟨⟨u, hv, hp, hb⟩, hF⟩, st⟩ | ⟨q, st₀, t, T', L, E, ce, h0, X', hL, e1, e2, ⟨u, hp, hb, hF⟩, hce, hcv, hcl, st⟩
  · cases hv
    obtain ⟨k1, k2, k3⟩ := vx_keep h0 e1 hS hA hf hL hF
    obtain ⟨t2, a1, b1⟩ := kk u t T'.heap (locs ++ L) e1.symm (by rw [← e2]; exact X'.warmed.alike) hp hb k1 k2 k3 T' rfl X'
    exact ⟨t2, st t2 a1, b1⟩
  · obtain ⟨k1, k2, k3⟩ := vx_keep h0 e1 hS hAX hf hL hF
    obtain ⟨t2, a1, b1⟩ := kx E ce q u t T'.heap (locs ++ L) e1.symm (by rw [← e2]; exact X'.warmed.alike) hp hb k1 k2 k3 (by rw [e1]; exact hce) hcv hcl T' rfl X'
    exact ⟨t2, st.trans a1, b1⟩
/-- caught by the row x of this method's table; the rows ahead don't take it -/
theorem vx_catch {own name : String} {E : String} {ce : Cell} {q : Addr} (hown : s.vm.findClass own = some m.cls) (pre : List ExceptionTableEntry) (x : ExceptionTableEntry) (suf : List ExceptionTableEntry) (hsplit : c.exceptionTable.toList = pre ++ x :: suf)
    (hpass : ∀ z ∈ pre, covers z pc = false ∨ (z.catchType ≠ 0 ∧ ∃ nm : String, (Cond.classLink own z.catchType nm).before args s = true ∧ va_Nc E nm s)) (hx : covers x pc = true) (h0 : x.catchType ≠ 0)
    (hlink : (Cond.classLink own x.catchType name).before args s = true) (hcast : (Cond.castable E name).before args s = true) (hcell : H[q]? = some ce) (hv : ce.vm = .none) (hcl : s.vm.findClass E = some ce.cls)
    (kk : W p l e R s m args below meth c H locs cells slots Q (F0 m x.handlerPc ls [.ref q])) : vx_W p l e R s m args below meth c H locs cells slots Q (F0 m pc ls rest) q := by
  intro T hT X
  have hpl : e.platform.magicAccessors = ({} : Platform).magicAccessors := by rw [X.admits.platform]
  obtain ⟨c3, c4, hc3, hc4, hasg⟩ := Cond.castable_spec hcast
  cases Option.some.inj (hc3.symm.trans hcl)
  obtain ⟨c5, hc5, hcl5⟩ := Cond.classLink_spec hown hlink e.platform hpl
  cases Option.some.inj (hc4.symm.trans hc5)
  obtain ⟨vm', X', st⟩ := X.thenCaughtThrough q (g := F0 m pc ls rest) rfl (Steps.refl _) (by rw [hT]; exact hcell) (by rw [hv]; rfl) (by obtain ⟨k9, h9, -⟩ := Vm.findClass_spec hcl; exact ⟨k9, h9⟩) pre x suf hsplit
    (fun z hz => by
      rcases hpass z hz with h | ⟨hz0, nm, hl1, hn1⟩
      · exact Or.inl h
      · obtain ⟨c6, hc6, hcl6⟩ := Cond.classLink_spec hown hl1 e.platform hpl
        obtain ⟨a8, b8, h1, h2, h3⟩ := hn1
        cases Option.some.inj (h1.symm.trans hcl)
        cases Option.some.inj (h2.symm.trans hc6)
        exact Or.inr ⟨hz0, _, hcl6, h3⟩) hx (Or.inr ⟨h0, c4, hcl5, hasg⟩)
  obtain ⟨t, a1, b1⟩ := kk (T.setVm vm') hT X'
  exact ⟨t, st.trans a1, b1⟩
end Rows
section Ends
variable {p : Program} {l : Launch} {e : Env} {R : Room} {s : State} {m : MethodId} {args : Array Value} {below : List Frame} {meth : Method} {c : Code} {H : Heap} {locs : List Loc} {cells slots : Nat} {Q : State → Prop}
variable {mc ms : Nat} {free : Addr → Prop} {A0 A1 : Nat → Prop} {H0 : Heap} {a : Array Value} {ls : Array Slot} {st0 rest : List Value}
variable {Qc : Array Value → State → Outcome → State → Prop} {XC : String → State → State → Prop}
/-- what a body that may throw owes at its end -/
def vx_MQ (below : List Frame) (Qc : Array Value → State → Outcome → State → Prop) (XC : String → State → State → Prop) (a : Array Value) (s : State) (mc ms : Nat) (free : Addr → Prop) : State → Prop := fun t =>
  ∃ o, t.status = .running ∧ Ended t below o ∧ vx_Q Qc XC mc ms free a s o t
theorem vx_ret {g : JFrame} {mc ms : Nat} (k : W p l e R s m args below meth c H locs cells slots (MQ below Qc args s mc ms free) g) : W p l e R s m args below meth c H locs cells slots (vx_MQ below Qc XC args s mc ms free) g := by
  intro T hT X
  obtain ⟨t, a1, o, b1, b2, b3, b4⟩ := k T hT X
  exact ⟨t, a1, o, b1, b2, Or.inl ⟨b3, b4⟩⟩
/-- not caught here: it goes on to the caller -/
theorem vx_widen {g : JFrame} {q : Addr} {k n : Nat} (h1 : cells ≤ k) (h2 : slots ≤ n) (kk : vx_W p l e R s m args below meth c H locs k n Q g q) : vx_W p l e R s m args below meth c H locs cells slots Q g q := fun T hT X => kk T hT (stand_widen X h1 h2)
theorem vx_out {pc : Nat} {E : String} {ce : Cell} {q : Addr} {mc ms : Nat} (hout : ∀ x ∈ c.exceptionTable.toList, covers x pc = false) (hlocks : meth.locks = false) (hcell : H[q]? = some ce) (hv : ce.vm = .none) (hcl : s.vm.findClass E = some ce.cls)
    (hx : ∀ t : State, t.heap = H → s.vm.Alike t.vm → XC E s t) (hf : ∀ z ∈ locs, free z.base) (hc : cells ≤ mc) (hs : slots ≤ ms) :
    vx_W p l e R s m args below meth c H locs cells slots (vx_MQ below Qc XC args s mc ms free) (F0 m pc ls rest) q := by
  intro T hT X
  obtain ⟨st1, hrun, hend, hW, hsm⟩ := X.leaveThrown q (g := F0 m pc ls rest) rfl rfl rfl hout hlocks
  have hcell9 : (T.setFrames (.throwing q :: below)).heap[q]? = some ce := by
    show T.heap[q]? = some ce
    rw [hT]; exact hcell
  exact ⟨_, st1, .threw q, hrun, hend, Or.inr ⟨q, rfl, E, ce, locs, hx _ hT hW.alike, hcell9, hv, hcl, hW, hsm.mono hc hs, hf⟩⟩
theorem vx_frame {U : State} {k n : Nat} (h : s.sameButNew ({ U with vm := s.vm } : State) locs k n) : s.heap.size ≤ U.heap.size ∧ ∀ q : Nat, q < s.heap.size → (∀ z ∈ locs, z.base ≠ q) → U.heap[q]? = s.heap[q]? := by
  obtain ⟨-, h2, -, -, -, h6⟩ := h
  refine ⟨h2, fun q hq hz => ?_⟩
  obtain ⟨c9, e1, e2, e3, e4⟩ := h6 q _ (Array.getElem?_eq_getElem hq)
  have hs : c9.slots = (s.heap[q]).slots := Array.ext_getElem? fun i => e4 i fun hm => hz _ hm rfl
  have h9 : c9 = s.heap[q] := by
    rw [hs] at e2
    exact e2
  have e5 : U.heap[q]? = some c9 := e1
  rw [e5, h9, Array.getElem?_eq_getElem hq]
/-- the words of a throw but the four that speak of the heap -/
def vx_no (w : Cond) : Bool := decide (w ≠ .isRef (.static Bundle.tN "UNASSIGNED_STACK" Bundle.steD)) && decide (w ≠ .isRef (.static Bundle.tN "SUPPRESSED_SENTINEL" Bundle.listD)) && decide (w ≠ .laysStatic Bundle.tN "UNASSIGNED_STACK" Bundle.steD) && decide (w ≠ .laysStatic Bundle.tN "SUPPRESSED_SENTINEL" Bundle.listD)
def vx_at0 (own : String) (ic : Nat) (X : String) (names : List String) : List Cond := (Bundle.ownAtoms0 own ic X names).filter vx_no
def vx_atS (own : String) (ic : Nat) (X : String) (names : List String) : List Cond := (Bundle.ownAtoms own ic X names).filter vx_no
/-- a word that the tables alone decide, or a good one -/
def vx_ot (w : Cond) : Bool := w.onTables || goodWord w
theorem vx_ot_at {args a' : Array Value} {s U : State} {w : Cond} (hW : s.WarmedH U.vm) (hvm : s.vm = U.vm) (hg : vx_ot w = true) (h : w.before args s = true) : w.before a' U = true := by
  simp only [vx_ot, Bool.or_eq_true] at hg
  rcases hg with hg | hg
  · exact va_tabs hg hvm h
  · exact word_at hW (good_of_word hg) h
/-- a list's words: the good ones out of the method's own list, the others by premises of their own -/
theorem vx_hat {args : Array Value} {s : State} {L B : List Cond} (h1 : ∀ w ∈ L.filter goodWord, w.before args s = true) (h2 : ∀ w ∈ L.filter (fun w => !goodWord w), w ∈ B) (h3 : ∀ w ∈ B, w.before args s = true) : ∀ w ∈ L, w.before args s = true := by
  intro w hw
  by_cases g : goodWord w = true
  · exact h1 w (List.mem_filter.mpr ⟨hw, g⟩)
  · refine h3 w (h2 w (List.mem_filter.mpr ⟨hw, ?_⟩))
    show (!goodWord w) = true
    cases hgw : goodWord w
    · rfl
    · exact absurd hgw g
theorem vx_c {args : Array Value} {s : State} {w : Cond} {B : List Cond} (h : w.before args s = true) (t : ∀ w ∈ B, w.before args s = true) : ∀ w' ∈ w :: B, w'.before args s = true := fun w' h' => (List.mem_cons.mp h').elim (fun e => by rw [e]; exact h) (t w')
theorem vx_n {args : Array Value} {s : State} : ∀ w ∈ ([] : List Cond), w.before args s = true := fun _ h => nomatch h
theorem vx_own {args : Array Value} {s : State} {L : List Cond} (h1 : ∀ w ∈ L.filter vx_no, w.before args s = true)
    (hU : (Cond.isRef (.static Bundle.tN "UNASSIGNED_STACK" Bundle.steD)).before args s = true) (hN : (Cond.isRef (.static Bundle.tN "SUPPRESSED_SENTINEL" Bundle.listD)).before args s = true)
    (lU : (Cond.laysStatic Bundle.tN "UNASSIGNED_STACK" Bundle.steD).before args s = true) (lN : (Cond.laysStatic Bundle.tN "SUPPRESSED_SENTINEL" Bundle.listD).before args s = true) : ∀ w ∈ L, w.before args s = true := by
  intro w hw
  by_cases e1 : w = .isRef (.static Bundle.tN "UNASSIGNED_STACK" Bundle.steD)
  · rw [e1]; exact hU
  · by_cases e2 : w = .isRef (.static Bundle.tN "SUPPRESSED_SENTINEL" Bundle.listD)
    · rw [e2]; exact hN
    · by_cases e3 : w = .laysStatic Bundle.tN "UNASSIGNED_STACK" Bundle.steD
      · rw [e3]; exact lU
      · by_cases e4 : w = .laysStatic Bundle.tN "SUPPRESSED_SENTINEL" Bundle.listD
        · rw [e4]; exact lN
        · exact h1 w (List.mem_filter.mpr ⟨hw, by unfold vx_no; rw [decide_eq_true e1, decide_eq_true e2, decide_eq_true e3, decide_eq_true e4]; rfl⟩)
/-- where a static field lies, its class's statics cell in H -/
def vx_L (C n d : String) (A : Nat → Prop) (U : State) (H : Heap) : Prop := ∃ (c : ClassId) (k : Class) (i : Nat) (f : Field) (a : Nat) (cell : Cell), U.vm.findClass C = some c ∧ U.fieldFound? C n d = some (c, k, i, f) ∧ f.isStatic = true ∧ k.statics = some a ∧ H[a]? = some cell ∧ cell.vm.isStatics = true ∧ cell.cls = c ∧ f.slot < cell.slots.size ∧ k.staticTypes[f.slot]? = some f.type ∧ ¬ A a
theorem vx_L.moved {C n d : String} {A : Nat → Prop} {u U : State} {H : Heap} (hvm : u.vm.Alike U.vm) (h : vx_L C n d A u H) : vx_L C n d A U H := by
  obtain ⟨c, k, i, f, a, cell, h1, h2, h3, h4, h5, h6, h7, h8, h9, h10⟩ := h
  obtain ⟨k', hi', he⟩ := State.fieldFound?_setVm hvm h2
  exact ⟨c, k', i, f, a, cell, by rw [hvm.findClass]; exact h1, hi', h3, by rw [he]; exact h4, h5, h6, h7, h8, by rw [he]; exact h9, h10⟩
theorem vx_L.kept {C n d : String} {A : Nat → Prop} {U : State} {H H1 : Heap} (h : vx_L C n d A U H) (hq : ∀ a : Nat, a < H.size → ¬ A a → H1[a]? = H[a]?) : vx_L C n d A U H1 := by
  obtain ⟨c, k, i, f, a, cell, h1, h2, h3, h4, h5, h6, h7, h8, h9, h10⟩ := h
  exact ⟨c, k, i, f, a, cell, h1, h2, h3, h4, by rw [hq a (Array.getElem?_eq_some_iff.mp h5).1 h10]; exact h5, h6, h7, h8, h9, h10⟩
theorem vx_L.narrow {C n d : String} {A B : Nat → Prop} {U : State} {H : Heap} (h : vx_L C n d A U H) (hAB : ∀ q, B q → A q) : vx_L C n d B U H := by
  obtain ⟨c, k, i, f, a, cell, h1, h2, h3, h4, h5, h6, h7, h8, h9, h10⟩ := h
  exact ⟨c, k, i, f, a, cell, h1, h2, h3, h4, h5, h6, h7, h8, h9, fun z => h10 (hAB _ z)⟩
theorem vx_L.word {C n d : String} {A : Nat → Prop} {s : State} {args : Array Value} (h : vx_L C n d A s s.heap) : (Cond.laysStatic C n d).before args s = true := by
  obtain ⟨c, k, i, f, a, cell, h1, h2, h3, h4, h5, h6, h7, h8, h9, -⟩ := h
  show (Cond.laysStatic C n d).holds args s none s [] = true
  exact Cond.laysStatic_of h1 h2 h3 h4 h5 h6 h7 h8 h9
/-- .. and what it holds: null or some reference -/
def vx_Zq (C n d : String) (A : Nat → Prop) (U : State) (H : Heap) : Prop := va_Zq C n d A U H ∧ vx_L C n d A U H
theorem vx_Zq.moved {C n d : String} {A : Nat → Prop} {u U : State} {H : Heap} (hvm : u.vm.Alike U.vm) (h : vx_Zq C n d A u H) : vx_Zq C n d A U H := ⟨va_Zq.moved hvm h.1, vx_L.moved hvm h.2⟩
theorem vx_Zq.kept {C n d : String} {A : Nat → Prop} {U : State} {H H1 : Heap} (h : vx_Zq C n d A U H) (hq : ∀ a : Nat, a < H.size → ¬ A a → H1[a]? = H[a]?) : vx_Zq C n d A U H1 := ⟨va_Zq.kept h.1 hq, vx_L.kept h.2 hq⟩
theorem vx_Zq.narrow {C n d : String} {A B : Nat → Prop} {U : State} {H : Heap} (h : vx_Zq C n d A U H) (hAB : ∀ q, B q → A q) : vx_Zq C n d B U H := ⟨va_Zq.narrow h.1 hAB, vx_L.narrow h.2 hAB⟩
theorem vx_Zqof {args : Array Value} {s : State} {C n d : String} {A : Nat → Prop} (hl : (Cond.laysStatic C n d).before args s = true) (hini : (Cond.initialized C).before args s = true) (h : (Cond.isRef (.static C n d)).before args s = true) (hA : ∀ a : Nat, a < s.heap.size → ¬ A a) : vx_Zq C n d A s s.heap := by
  refine ⟨va_Zqof hl hini h hA, ?_⟩
  obtain ⟨c, k, i, f, a, cell, h1, h2, h3, h4, h5, h6, h7, h8, h9⟩ := Cond.laysStatic_spec hl
  exact ⟨c, k, i, f, a, cell, h1, h2, h3, h4, h5, h6, h7, h8, h9, hA a (Array.getElem?_eq_some_iff.mp h5).1⟩
theorem vx_isRef {C n d : String} {v : Value} {A : Nat → Prop} {s : State} {args : Array Value} (h : va_Z C n d v A s s.heap) (hv : v.isRef = true) : (Cond.isRef (.static C n d)).before args s = true := by
  obtain ⟨cf, kf, fi, f, a, cell, h1, h2, h3, h4, h5, h6, h7, -⟩ := h
  have he : (Term.static C n d).eval args s none [] s = some v := by
    simp [Term.eval, State.fieldNamed?, h1, h2, h4, h5, h6, h7]
  simp only [Cond.before, Cond.holds, Cond.value, he]
  cases v <;> simp_all [Value.isRef]
theorem vx_isRefq {C n d : String} {A : Nat → Prop} {s : State} {args : Array Value} (h : va_Zq C n d A s s.heap) : (Cond.isRef (.static C n d)).before args s = true := by
  rcases h with h | ⟨t, h⟩
  · exact vx_isRef h rfl
  · exact vx_isRef h rfl
/-- the same frame, seen from here: as if the method were called anew in this heap -/
theorem vx_rebase {T : State} (X : Stand p l e R s m args below meth c T locs cells slots) {R' : Room} (hf : R'.frames ≤ R.frames) (hl : R'.locals ≤ R.locals) (hc : cells + R'.cells ≤ R.cells) (hs : slots + R'.slots ≤ R.slots) :
    Stand p l e R' ((T.setVm s.vm).setFrames (.invoking m args :: below)) m args below meth c T [] 0 0 := by
  have htop : (T.setVm s.vm).topJava?.isSome := X.here.top
  have hF : ((T.setVm s.vm).setFrames (.invoking m args :: below)).frames = .invoking m args :: below := State.frames_setFrames _ (State.cur_lt_of_top htop)
  obtain ⟨g₀, hg0⟩ := Option.isSome_iff_exists.mp htop
  obtain ⟨r, hr⟩ := State.topJava?_eq_some.mp hg0
  have hl9 : e.platform.stackLimits (T.setVm s.vm).me = e.platform.stackLimits s.me := X.limits
  have hb9 : (T.setVm s.vm).me.stackBytes = s.me.stackBytes := X.bytes
  refine ⟨X.admits, X.cas, X.clock, hF, ?_, X.hears, X.method, X.code, X.here, X.tail, X.warmed, ?_, ?_, ?_⟩
  · have h := X.room
    have hU : ((T.setVm s.vm).setFrames (.invoking m args :: below)).localsInUse = s.localsInUse := by
      rw [State.localsInUse_invoking hF (meth := meth) (c := c) X.method X.code, State.localsInUse_invoking X.frames X.method X.code]
    simp only [State.hasRoom, Bool.and_eq_true, decide_eq_true_eq] at h ⊢
    obtain ⟨⟨⟨⟨h1, h2, h3, h4, h5, h6⟩, h7⟩, h8⟩, h9⟩ := h
    rw [X.frames, List.length_cons] at h2 h3
    have q1 := X.heapSize
    have q2 := X.used
    simp only [hF, hU, List.length_cons, State.stackLimits_setFrames, State.stackBytes_setFrames, hl9, hb9]
    refine ⟨⟨⟨⟨by omega, by omega, by omega, by omega, by omega, h6⟩, ?_⟩, ?_⟩, X.book⟩
    · show T.heap.size + R'.cells ≤ e.platform.maxCells
      omega
    · show T.slotsUsed + R'.slots ≤ e.platform.maxSlots
      omega
  · rw [State.stackLimits_setFrames]; rfl
  · rw [State.stackBytes_setFrames]; rfl
  · refine ⟨?_, Nat.le_refl _, Nat.le_refl _, ?_, ?_, fun a c9 h9 => ⟨c9, h9, rfl, rfl, fun _ _ => rfl⟩⟩
    · obtain ⟨t, ht, -⟩ := State.frames_cons hr
      show T.setVm s.vm = { ((T.setVm s.vm).setFrames (.invoking m args :: below)).setFrames (T.setVm s.vm).frames with heap := T.heap, slotsUsed := T.slotsUsed }
      rw [State.setFrames_setFrames, State.setFrames_self ht]
      rfl
    · show T.slotsUsed = T.slotsUsed + ((T.heap.toList.drop T.heap.size).map (·.slots.size)).sum
      rw [List.drop_eq_nil_of_le (Nat.le_of_eq Array.length_toList)]
      rfl
    · show ((T.heap.toList.drop T.heap.size).map (·.slots.size)).sum ≤ 0
      rw [List.drop_eq_nil_of_le (Nat.le_of_eq Array.length_toList)]
      exact Nat.le_refl _
/-- 'throw new E()': new; dup; invokespecial; athrow -/
theorem vx_throw0 {cc : ByteArray} {pc : Nat} (hexec : p.tables.exec = Jvm.exec) (hb : c.code = cc) (hl : l.stackTraces = false) {own cls : String} {names : List String} {ik ic mc ms : Nat} {A : Nat → Prop}
    (hown : s.vm.findClass own = some m.cls) (hcls : Bundle.fit cls = true) (hnames : ∀ n ∈ names, Bundle.fit n = true)
    (hk : (Cond.classLink own ik cls).before args s = true) (hini : (Cond.initialized cls).before args s = true) (hat : ∀ w ∈ vx_at0 own ic cls names, w.before args s = true)
    (hgood : ∀ w ∈ Cond.classLink own ik cls :: Cond.initialized cls :: vx_at0 own ic cls names, vx_ot w = true)
    (hU : vx_Zq Bundle.tN "UNASSIGNED_STACK" Bundle.steD A s s.heap) (hN : vx_Zq Bundle.tN "SUPPRESSED_SENTINEL" Bundle.listD A s s.heap) (hS : va_S A s.heap H locs) (hsize : ls.size = c.maxLocals)
    (d0 : decode cc pc = .ok (.new ik, 3)) (d3 : decode cc (pc + 3) = .ok (.dup, 1)) (d4 : decode cc (pc + 4) = .ok (.invokespecial ic, 3)) (d7 : decode cc (pc + 7) = .ok (.athrow, 1))
    (hout : ∀ x ∈ c.exceptionTable.toList, covers x (pc + 7) = false)
    (hRframes : names.length + 3 < R.frames) (hRlocals : (rest.map fun v => v.category).sum + (13 * (names.length + 1) + 42) ≤ R.locals) (hRcells : cells + 1 ≤ R.cells) (hRslots : slots + 6 ≤ R.slots) (hlocks : meth.locks = false)
    (hx : ∀ t : State, s.vm.Alike t.vm → H.size ≤ t.heap.size → (∀ q : Nat, q < H.size → t.heap[q]? = H[q]?) → XC cls s t)
    (hf : ∀ z ∈ locs, free z.base) (hc : cells + 1 ≤ mc) (hs : slots + 6 ≤ ms) :
    W p l e R s m args below meth c H locs cells slots (vx_MQ below Qc XC args s mc ms free) (F0 m pc ls rest) := by
  intro T hT X
  have htr : e.platform.stackTraces = false := (show e.platform.stackTraces = l.stackTraces by rw [X.admits.platform]).trans hl
  have Y := vx_rebase X (R' := { frames := R.frames, locals := R.locals, cells := 1, slots := 6 }) (Nat.le_refl _) (Nat.le_refl _) hRcells hRslots
  obtain ⟨s', hA⟩ : ∃ z, z = (T.setVm s.vm).setFrames (.invoking m args :: below) := ⟨_, rfl⟩
  rw [← hA] at Y
  have hvm : s'.vm = s.vm := by rw [hA]; rfl
  have hhp : s'.heap = H := by rw [hA]; exact hT
  have hW0 : s.WarmedH s'.vm := by rw [hvm]; exact State.WarmedH.refl s
  have hat' : ∀ w ∈ vx_at0 own ic cls names, w.before args s' = true := fun w hw => vx_ot_at hW0 hvm.symm (hgood w (List.mem_cons_of_mem _ (List.mem_cons_of_mem _ hw))) (hat w hw)
  have hk' : (Cond.classLink own ik cls).before args s' = true := vx_ot_at hW0 hvm.symm (hgood _ List.mem_cons_self) hk
  have hini' : (Cond.initialized cls).before args s' = true := vx_ot_at hW0 hvm.symm (hgood _ (List.mem_cons_of_mem _ List.mem_cons_self)) hini
  have hU' : vx_Zq Bundle.tN "UNASSIGNED_STACK" Bundle.steD A s' s'.heap := by rw [hhp]; exact vx_Zq.moved hW0.alike (hU.kept hS.2.1)
  have hN' : vx_Zq Bundle.tN "SUPPRESSED_SENTINEL" Bundle.listD A s' s'.heap := by rw [hhp]; exact vx_Zq.moved hW0.alike (hN.kept hS.2.1)
  have h : ∀ w ∈ Bundle.ownAtoms0 own ic cls names, w.before args s' = true := vx_own hat' (vx_isRefq hU'.1) (vx_isRefq hN'.1) hU'.2.word hN'.2.word
  have hown' : s'.vm.findClass own = some m.cls := by rw [hvm]; exact hown
  have hins : (Cond.instantiable cls 6).before args s' = true := h _ (by simp [Bundle.ownAtoms0])
  obtain ⟨vm₁, cX, kX, hfX, hkX, -, -, X₁, st1⟩ := Y.newCold hexec (own := own) (C := cls) (index := ik) (n := 6) hown' hk' hins hini'
    (g := F0 m pc ls rest) rfl (by rw [hb]; exact d0) (Nat.le_refl _) (Nat.le_refl _)
  generalize hT1 : (T.setVm vm₁).pushCell { cls := cX, slots := kX.instanceTypes.map defaultValue, vm := .none } = T1 at X₁ st1
  have hcat : (Value.ref T.heap.size).category = 1 := rfl
  have hcellA : T1.heap[T.heap.size]? = some (freshCell cX kX) := by rw [← hT1]; exact State.heap_pushCell_size _ _
  have d3' : decode c.code (pc + 3) = .ok (.dup, 1) := by rw [hb]; exact d3
  obtain ⟨U, hsteps, hrun, hend, hW, hsame, ce, hce, hO⟩ := X₁.ctorThrow0 hexec htr (own := own) (cls := cls) (names := names) (ic := ic) hown' hcls hnames h (fun x hx => nomatch hx) hfX hkX hcellA (by rw [hhp, hT]; exact Nat.le_refl _)
    (g := { method := m, pc := pc + 4, locals := ls, stack := .ref T.heap.size :: .ref T.heap.size :: rest, locked := none }) rfl hsize rfl rfl (rest := rest) rfl
    (by rw [hb]; exact d4) (by rw [hb]; exact d7) hout hRframes (by simp only [List.map_cons, List.sum_cons, hcat]; omega) hlocks
  obtain ⟨f1, f2⟩ := vx_frame hsame
  rw [hhp] at f1 f2
  have hWs : s.WarmedH U.vm := State.WarmedH.trans hW0 hW
  have hcl : s.vm.findClass cls = some ce.cls := by
    have h9 := hO.cls
    rw [hvm] at h9
    exact h9
  have hall : s.sameButNew ({ U with vm := s.vm } : State) locs mc ms := by
    subst hA
    obtain ⟨e1, e2⟩ := hsame
    rw [State.setFrames_setFrames] at e1
    have h2 : (T.setVm s.vm).sameButNew ({ U with vm := s.vm } : State) [] (0 + 1) (0 + 6) := ⟨e1, e2⟩
    have h3 := X.same.trans h2
    rw [List.append_nil] at h3
    exact h3.mono hc hs
  refine ⟨U, ?_, .threw T.heap.size, hrun, hend, Or.inr ⟨T.heap.size, rfl, cls, ce, locs, hx U hWs.alike f1 (fun q hq => f2 q hq (fun z hz => nomatch hz)), hce, hO.vm, hcl, hWs, hall, hf⟩⟩
  refine st1 _ ?_
  show Steps p.tables e below (T1.setTop { method := m, pc := pc + 3, locals := ls, stack := .ref T.heap.size :: rest, locked := none }) _
  jvm_step X₁.here [X₁.here.top, hexec, d3', Value.category]
  exact hsteps
/-- 'throw new E("text")': new; dup; ldc; invokespecial; athrow -/
theorem vx_throwS {cc : ByteArray} {pc : Nat} (hexec : p.tables.exec = Jvm.exec) (hb : c.code = cc) (hl : l.stackTraces = false) {own cls text : String} {names : List String} {ik is ic mc ms sa : Nat} {A : Nat → Prop}
    (hown : s.vm.findClass own = some m.cls) (hcls : Bundle.fit cls = true) (hnames : ∀ n ∈ names, Bundle.fit n = true)
    (hk : (Cond.classLink own ik cls).before args s = true) (hini : (Cond.initialized cls).before args s = true) (hstr : vk_R own is text sa s) (hat : ∀ w ∈ vx_atS own ic cls names, w.before args s = true)
    (hgood : ∀ w ∈ Cond.classLink own ik cls :: Cond.initialized cls :: vx_atS own ic cls names, vx_ot w = true)
    (hU : vx_Zq Bundle.tN "UNASSIGNED_STACK" Bundle.steD A s s.heap) (hN : vx_Zq Bundle.tN "SUPPRESSED_SENTINEL" Bundle.listD A s s.heap) (hS : va_S A s.heap H locs) (hsize : ls.size = c.maxLocals)
    (d0 : decode cc pc = .ok (.new ik, 3)) (d3 : decode cc (pc + 3) = .ok (.dup, 1)) (d4 : decode cc (pc + 4) = .ok (.ldc is, 2)) (d6 : decode cc (pc + 6) = .ok (.invokespecial ic, 3)) (d9 : decode cc (pc + 9) = .ok (.athrow, 1))
    (hout : ∀ x ∈ c.exceptionTable.toList, covers x (pc + 9) = false)
    (hRframes : names.length + 3 < R.frames) (hRlocals : (rest.map fun v => v.category).sum + (13 * (names.length + 1) + 43) ≤ R.locals) (hRcells : cells + 1 ≤ R.cells) (hRslots : slots + 6 ≤ R.slots) (hlocks : meth.locks = false)
    (hx : ∀ t : State, s.vm.Alike t.vm → H.size ≤ t.heap.size → (∀ q : Nat, q < H.size → t.heap[q]? = H[q]?) → XC cls s t)
    (hf : ∀ z ∈ locs, free z.base) (hc : cells + 1 ≤ mc) (hs : slots + 6 ≤ ms) :
    W p l e R s m args below meth c H locs cells slots (vx_MQ below Qc XC args s mc ms free) (F0 m pc ls rest) := by
  intro T hT X
  have htr : e.platform.stackTraces = false := (show e.platform.stackTraces = l.stackTraces by rw [X.admits.platform]).trans hl
  have Y := vx_rebase X (R' := { frames := R.frames, locals := R.locals, cells := 1, slots := 6 }) (Nat.le_refl _) (Nat.le_refl _) hRcells hRslots
  obtain ⟨s', hA⟩ : ∃ z, z = (T.setVm s.vm).setFrames (.invoking m args :: below) := ⟨_, rfl⟩
  rw [← hA] at Y
  have hvm : s'.vm = s.vm := by rw [hA]; rfl
  have hhp : s'.heap = H := by rw [hA]; exact hT
  have hW0 : s.WarmedH s'.vm := by rw [hvm]; exact State.WarmedH.refl s
  have hat' : ∀ w ∈ vx_atS own ic cls names, w.before args s' = true := fun w hw => vx_ot_at hW0 hvm.symm (hgood w (List.mem_cons_of_mem _ (List.mem_cons_of_mem _ hw))) (hat w hw)
  have hk' : (Cond.classLink own ik cls).before args s' = true := vx_ot_at hW0 hvm.symm (hgood _ List.mem_cons_self) hk
  have hini' : (Cond.initialized cls).before args s' = true := vx_ot_at hW0 hvm.symm (hgood _ (List.mem_cons_of_mem _ List.mem_cons_self)) hini
  have hU' : vx_Zq Bundle.tN "UNASSIGNED_STACK" Bundle.steD A s' s'.heap := by rw [hhp]; exact vx_Zq.moved hW0.alike (hU.kept hS.2.1)
  have hN' : vx_Zq Bundle.tN "SUPPRESSED_SENTINEL" Bundle.listD A s' s'.heap := by rw [hhp]; exact vx_Zq.moved hW0.alike (hN.kept hS.2.1)
  have h : ∀ w ∈ Bundle.ownAtoms own ic cls names, w.before args s' = true := vx_own hat' (vx_isRefq hU'.1) (vx_isRefq hN'.1) hU'.2.word hN'.2.word
  have hown' : s'.vm.findClass own = some m.cls := by rw [hvm]; exact hown
  have hins : (Cond.instantiable cls 6).before args s' = true := h _ (by simp [Bundle.ownAtoms])
  obtain ⟨vm₁, cX, kX, hfX, hkX, -, -, X₁, st1⟩ := Y.newCold hexec (own := own) (C := cls) (index := ik) (n := 6) hown' hk' hins hini'
    (g := F0 m pc ls rest) rfl (by rw [hb]; exact d0) (Nat.le_refl _) (Nat.le_refl _)
  generalize hT1 : (T.setVm vm₁).pushCell { cls := cX, slots := kX.instanceTypes.map defaultValue, vm := .none } = T1 at X₁ st1
  have hcat : (Value.ref T.heap.size).category = 1 := rfl
  have hcellA : T1.heap[T.heap.size]? = some (freshCell cX kX) := by rw [← hT1]; exact State.heap_pushCell_size _ _
  have d3' : decode c.code (pc + 3) = .ok (.dup, 1) := by rw [hb]; exact d3
  have d4' : decode c.code (pc + 4) = .ok (.ldc is, 2) := by rw [hb]; exact d4
  have hstr' : vk_R own is text sa s' := vk_R.warm hW0 hstr
  obtain ⟨U, hsteps, hrun, hend, hW, hsame, ce, hce, hO⟩ := X₁.ctorThrowS hexec htr (own := own) (cls := cls) (names := names) (ic := ic) hown' hcls hnames h (fun x hx => nomatch hx) hfX hkX hcellA (by rw [hhp, hT]; exact Nat.le_refl _) (msg := .ref sa) rfl
    (g := { method := m, pc := pc + 6, locals := ls, stack := .ref sa :: .ref T.heap.size :: .ref T.heap.size :: rest, locked := none }) rfl hsize rfl rfl (rest := rest) rfl
    (by rw [hb]; exact d6) (by rw [hb]; exact d9) hout hRframes (by simp only [List.map_cons, List.sum_cons, hcat]; omega) hlocks
  obtain ⟨f1, f2⟩ := vx_frame hsame
  rw [hhp] at f1 f2
  have hWs : s.WarmedH U.vm := State.WarmedH.trans hW0 hW
  have hcl : s.vm.findClass cls = some ce.cls := by
    have h9 := hO.cls
    rw [hvm] at h9
    exact h9
  have hall : s.sameButNew ({ U with vm := s.vm } : State) locs mc ms := by
    subst hA
    obtain ⟨e1, e2⟩ := hsame
    rw [State.setFrames_setFrames] at e1
    have h2 : (T.setVm s.vm).sameButNew ({ U with vm := s.vm } : State) [] (0 + 1) (0 + 6) := ⟨e1, e2⟩
    have h3 := X.same.trans h2
    rw [List.append_nil] at h3
    exact h3.mono hc hs
  refine ⟨U, ?_, .threw T.heap.size, hrun, hend, Or.inr ⟨T.heap.size, rfl, cls, ce, locs, hx U hWs.alike f1 (fun q hq => f2 q hq (fun z hz => nomatch hz)), hce, hO.vm, hcl, hWs, hall, hf⟩⟩
  refine st1 _ ?_
  show Steps p.tables e below (T1.setTop { method := m, pc := pc + 3, locals := ls, stack := .ref T.heap.size :: rest, locked := none }) _
  jvm_step X₁.here [X₁.here.top, hexec, d3', Value.category]
  exact X₁.ldcString hexec (own := own) (text := text) (index := is) (a := sa) hown' hstr'.1 hstr'.2
    (g := { method := m, pc := pc + 4, locals := ls, stack := .ref T.heap.size :: .ref T.heap.size :: rest, locked := none }) rfl d4' _ hsteps
/-- 'throw new E("text")', the text by a wide index -/
theorem vx_throwSW {cc : ByteArray} {pc : Nat} (hexec : p.tables.exec = Jvm.exec) (hb : c.code = cc) (hl : l.stackTraces = false) {own cls text : String} {names : List String} {ik is ic mc ms sa : Nat} {A : Nat → Prop}
    (hown : s.vm.findClass own = some m.cls) (hcls : Bundle.fit cls = true) (hnames : ∀ n ∈ names, Bundle.fit n = true)
    (hk : (Cond.classLink own ik cls).before args s = true) (hini : (Cond.initialized cls).before args s = true) (hstr : vk_R own is text sa s) (hat : ∀ w ∈ vx_atS own ic cls names, w.before args s = true)
    (hgood : ∀ w ∈ Cond.classLink own ik cls :: Cond.initialized cls :: vx_atS own ic cls names, vx_ot w = true)
    (hU : vx_Zq Bundle.tN "UNASSIGNED_STACK" Bundle.steD A s s.heap) (hN : vx_Zq Bundle.tN "SUPPRESSED_SENTINEL" Bundle.listD A s s.heap) (hS : va_S A s.heap H locs) (hsize : ls.size = c.maxLocals)
    (d0 : decode cc pc = .ok (.new ik, 3)) (d3 : decode cc (pc + 3) = .ok (.dup, 1)) (d4 : decode cc (pc + 4) = .ok (.ldc_w is, 3)) (d7 : decode cc (pc + 7) = .ok (.invokespecial ic, 3)) (d10 : decode cc (pc + 10) = .ok (.athrow, 1))
    (hout : ∀ x ∈ c.exceptionTable.toList, covers x (pc + 10) = false)
    (hRframes : names.length + 3 < R.frames) (hRlocals : (rest.map fun v => v.category).sum + (13 * (names.length + 1) + 43) ≤ R.locals) (hRcells : cells + 1 ≤ R.cells) (hRslots : slots + 6 ≤ R.slots) (hlocks : meth.locks = false)
    (hx : ∀ t : State, s.vm.Alike t.vm → H.size ≤ t.heap.size → (∀ q : Nat, q < H.size → t.heap[q]? = H[q]?) → XC cls s t)
    (hf : ∀ z ∈ locs, free z.base) (hc : cells + 1 ≤ mc) (hs : slots + 6 ≤ ms) :
    W p l e R s m args below meth c H locs cells slots (vx_MQ below Qc XC args s mc ms free) (F0 m pc ls rest) := by
  intro T hT X
  have htr : e.platform.stackTraces = false := (show e.platform.stackTraces = l.stackTraces by rw [X.admits.platform]).trans hl
  have Y := vx_rebase X (R' := { frames := R.frames, locals := R.locals, cells := 1, slots := 6 }) (Nat.le_refl _) (Nat.le_refl _) hRcells hRslots
  obtain ⟨s', hA⟩ : ∃ z, z = (T.setVm s.vm).setFrames (.invoking m args :: below) := ⟨_, rfl⟩
  rw [← hA] at Y
  have hvm : s'.vm = s.vm := by rw [hA]; rfl
  have hhp : s'.heap = H := by rw [hA]; exact hT
  have hW0 : s.WarmedH s'.vm := by rw [hvm]; exact State.WarmedH.refl s
  have hat' : ∀ w ∈ vx_atS own ic cls names, w.before args s' = true := fun w hw => vx_ot_at hW0 hvm.symm (hgood w (List.mem_cons_of_mem _ (List.mem_cons_of_mem _ hw))) (hat w hw)
  have hk' : (Cond.classLink own ik cls).before args s' = true := vx_ot_at hW0 hvm.symm (hgood _ List.mem_cons_self) hk
  have hini' : (Cond.initialized cls).before args s' = true := vx_ot_at hW0 hvm.symm (hgood _ (List.mem_cons_of_mem _ List.mem_cons_self)) hini
  have hU' : vx_Zq Bundle.tN "UNASSIGNED_STACK" Bundle.steD A s' s'.heap := by rw [hhp]; exact vx_Zq.moved hW0.alike (hU.kept hS.2.1)
  have hN' : vx_Zq Bundle.tN "SUPPRESSED_SENTINEL" Bundle.listD A s' s'.heap := by rw [hhp]; exact vx_Zq.moved hW0.alike (hN.kept hS.2.1)
  have h : ∀ w ∈ Bundle.ownAtoms own ic cls names, w.before args s' = true := vx_own hat' (vx_isRefq hU'.1) (vx_isRefq hN'.1) hU'.2.word hN'.2.word
  have hown' : s'.vm.findClass own = some m.cls := by rw [hvm]; exact hown
  have hins : (Cond.instantiable cls 6).before args s' = true := h _ (by simp [Bundle.ownAtoms])
  obtain ⟨vm₁, cX, kX, hfX, hkX, -, -, X₁, st1⟩ := Y.newCold hexec (own := own) (C := cls) (index := ik) (n := 6) hown' hk' hins hini'
    (g := F0 m pc ls rest) rfl (by rw [hb]; exact d0) (Nat.le_refl _) (Nat.le_refl _)
  generalize hT1 : (T.setVm vm₁).pushCell { cls := cX, slots := kX.instanceTypes.map defaultValue, vm := .none } = T1 at X₁ st1
  have hcat : (Value.ref T.heap.size).category = 1 := rfl
  have hcellA : T1.heap[T.heap.size]? = some (freshCell cX kX) := by rw [← hT1]; exact State.heap_pushCell_size _ _
  have d3' : decode c.code (pc + 3) = .ok (.dup, 1) := by rw [hb]; exact d3
  have d4' : decode c.code (pc + 4) = .ok (.ldc_w is, 3) := by rw [hb]; exact d4
  have hstr' : vk_R own is text sa s' := vk_R.warm hW0 hstr
  obtain ⟨U, hsteps, hrun, hend, hW, hsame, ce, hce, hO⟩ := X₁.ctorThrowS hexec htr (own := own) (cls := cls) (names := names) (ic := ic) hown' hcls hnames h (fun x hx => nomatch hx) hfX hkX hcellA (by rw [hhp, hT]; exact Nat.le_refl _) (msg := .ref sa) rfl
    (g := { method := m, pc := pc + 7, locals := ls, stack := .ref sa :: .ref T.heap.size :: .ref T.heap.size :: rest, locked := none }) rfl hsize rfl rfl (rest := rest) rfl
    (by rw [hb]; exact d7) (by rw [hb]; exact d10) hout hRframes (by simp only [List.map_cons, List.sum_cons, hcat]; omega) hlocks
  obtain ⟨f1, f2⟩ := vx_frame hsame
  rw [hhp] at f1 f2
  have hWs : s.WarmedH U.vm := State.WarmedH.trans hW0 hW
  have hcl : s.vm.findClass cls = some ce.cls := by
    have h9 := hO.cls
    rw [hvm] at h9
    exact h9
  have hall : s.sameButNew ({ U with vm := s.vm } : State) locs mc ms := by
    subst hA
    obtain ⟨e1, e2⟩ := hsame
    rw [State.setFrames_setFrames] at e1
    have h2 : (T.setVm s.vm).sameButNew ({ U with vm := s.vm } : State) [] (0 + 1) (0 + 6) := ⟨e1, e2⟩
    have h3 := X.same.trans h2
    rw [List.append_nil] at h3
    exact h3.mono hc hs
  refine ⟨U, ?_, .threw T.heap.size, hrun, hend, Or.inr ⟨T.heap.size, rfl, cls, ce, locs, hx U hWs.alike f1 (fun q hq => f2 q hq (fun z hz => nomatch hz)), hce, hO.vm, hcl, hWs, hall, hf⟩⟩
  refine st1 _ ?_
  show Steps p.tables e below (T1.setTop { method := m, pc := pc + 3, locals := ls, stack := .ref T.heap.size :: rest, locked := none }) _
  jvm_step X₁.here [X₁.here.top, hexec, d3', Value.category]
  exact X₁.ldcStringW hexec (own := own) (text := text) (index := is) (a := sa) hown' hstr'.1 hstr'.2
    (g := { method := m, pc := pc + 4, locals := ls, stack := .ref T.heap.size :: .ref T.heap.size :: rest, locked := none }) rfl d4' _ hsteps
end Ends
section Bodies
variable {l : Launch}
theorem vx_ofW {y : MethodName} {ws ws' : List Cond} {rm : Room} {Pc : Array Value → State → Prop} {Qc : Array Value → State → Outcome → State → Prop} {XC : String → State → State → Prop} {mc ms : Nat} {free : Addr → Prop} {cc : ByteArray} {maxL : Nat} {ret : Option FieldType}
    (hy : plainName y.cls = true) (hw : ws = Cond.code y cc maxL ret :: ws')
    (body : ∀ p e s m args below meth c s₁, BodyLoose p l y (headSpec ws rm) cc maxL ret e s m args below meth c s₁ → c.maxLocals = maxL → (∀ x ∈ c.exceptionTable.toList, False) → Pc args s →
      W p l e (headSpec ws rm).room s m args below meth c s.heap [] 0 0 (vx_MQ below Qc XC args s mc ms free) (entryFrame m args maxL)) : vx_Met l y ws rm Pc Qc XC mc ms free := by
  refine MetFree.of_bodyS (code := cc) (maxLocals := maxL) (ret := ret) hy ?_ ?_
  · intro args s m h hn
    obtain ⟨meth, c, h1, h2, h3, h4, h5, h6, -, -⟩ := Cond.code_spec hn (atoms_spec (ws := ws) h _ (by rw [hw]; exact List.mem_cons_self))
    exact ⟨meth, c, h1, h2, h3, h4, h5, h6⟩
  · intro p e s m args below meth c s₁ B hml hP _
    have hh0 : s₁.heap = s.heap := by rw [B.state]; rfl
    have ht : ∀ x ∈ c.exceptionTable.toList, False := by
      obtain ⟨meth9, c9, h1, h2, -, -, -, -, h7, -⟩ := Cond.code_spec B.named (atoms_spec (ws := ws) B.pre _ (by rw [hw]; exact List.mem_cons_self))
      cases Option.some.inj (h1.symm.trans B.method)
      cases Option.some.inj (h2.symm.trans (Stand.of_body B).code)
      intro x hx
      rw [Array.isEmpty_iff.mp h7] at hx
      cases hx
    obtain ⟨t, a1, o, b1, b2, b3⟩ := body p e s m args below meth c s₁ B hml ht hP s₁ hh0 (Stand.of_body B)
    exact ⟨t, o, a1, b1, b2, b3⟩
/-- the table of a body with handlers -/
theorem vx_table {p : Program} {x y : MethodName} {S : Spec} {cc bytes : ByteArray} {maxL maxL' : Nat} {ret ret' : Option FieldType} {e : Env} {s s₁ : State} {m : MethodId} {args : Array Value} {below : List Frame} {meth : Method} {c : Code} {hh : List (Nat × Nat × Nat × Nat)}
    (B : BodyLoose p l y S cc maxL ret e s m args below meth c s₁) (h : (Cond.codeWith y bytes maxL' ret' hh).before args s = true) : c.exceptionTable.toList = tableOf hh := by
  obtain ⟨m9, meth9, c9, hn9, h1, h2, -, -, h6, -⟩ := Cond.codeWith_spec h
  cases Option.some.inj (hn9.symm.trans B.named)
  cases Option.some.inj (h1.symm.trans B.method)
  cases Option.some.inj (h2.symm.trans (Stand.of_body B).code)
  rw [← h6, table_eq]
end Bodies
end VXA
/-! ===== END ===== -/
/-! ===== BEGIN a static call of a method with an exception table ===== -/
section VXS
variable {p : Program} {l : Launch} {e : Env} {R : Room} {s : State} {m : MethodId} {args : Array Value} {below : List Frame} {meth : Method} {c : Code} {T : State} {H : Heap} {locs : List Loc} {cells slots : Nat}
abbrev vx_CSW (R : Room) (s : State) (args : Array Value) (own : String) (index : Nat) (y : MethodName) (bytes : ByteArray) (maxL : Nat) (ret : Option FieldType) (hh : List (Nat × Nat × Nat × Nat)) (ws : List Cond) (rm : Room) (mc ms n : Nat) : Prop :=
  (rm.cells = mc ∧ rm.slots = ms ∧ rm.frames + 1 ≤ R.frames ∧ 8 + (maxL + 11) + rm.locals ≤ R.locals ∧ (∀ w ∈ ws, ∀ (a' : Array Value) (U : State), s.WarmedH U.vm → w.before a' U = true) ∧ Cond.codeWith y bytes maxL ret hh ∈ ws) ∧
  (Cond.codeWith y bytes maxL ret hh).before args s = true ∧ (Cond.initialized y.cls).before args s = true ∧ (y.cls ≠ "java/lang/invoke/MethodHandle" ∧ y.cls ≠ "java/lang/invoke/VarHandle") ∧
  (∀ sig, parseMethodDescriptor y.desc = some sig → n = sig.parameters.length) ∧ (Cond.methodLink own index y).before args s = true ∧ (Cond.static y).before args s = true
theorem vx_cwSW {own : String} {index maxL mc ms : Nat} {y : MethodName} {bytes : ByteArray} {ret : Option FieldType} {hh : List (Nat × Nat × Nat × Nat)} {Ts ws ws' : List Cond} {rm : Room} (n : Nat) (ht : ∀ w ∈ Ts, w.before args s = true) (hT : GoodIn Ts (va_wsS own index y ws)) (hw : ws = Cond.codeWith y bytes maxL ret hh :: ws') (hrc : rm.cells = mc) (hrs : rm.slots = ms)
    (hd : y.cls ≠ "java/lang/invoke/MethodHandle" ∧ y.cls ≠ "java/lang/invoke/VarHandle" ∧ (parseMethodDescriptor y.desc).map (fun d => d.parameters.length) = some n) (hR : rm.frames + 1 ≤ R.frames ∧ 8 + (maxL + 11) + rm.locals ≤ R.locals) :
    vx_CSW R s args own index y bytes maxL ret hh ws rm mc ms n := by
  have ok : ∀ w ∈ va_wsS own index y ws, w.before args s = true := fun w h => ht w (hT w h).1
  have hG : GoodIn Ts ws := fun w h => hT w (by unfold va_wsS; exact List.mem_append_right _ h)
  have hc : Cond.codeWith y bytes maxL ret hh ∈ ws := by rw [hw]; exact List.mem_cons_self
  refine ⟨⟨hrc, hrs, hR.1, hR.2, pay_in ht hG, hc⟩, ht _ (hG _ hc).1, ok _ (by simp [va_wsS]), ⟨hd.1, hd.2.1⟩, fun sig h => ?_, ok _ (by simp [va_wsS]), ok _ (by simp [va_wsS])⟩
  have h2 := hd.2.2
  rw [h] at h2
  exact (Option.some.inj h2).symm
theorem vx_callSW (X : Stand p l e R s m args below meth c T locs cells slots) (hexec : p.tables.exec = Jvm.exec) {own : String} {index : Nat} {y : MethodName} {bytes : ByteArray} {maxL : Nat} {ret : Option FieldType} {hh : List (Nat × Nat × Nat × Nat)}
    (hown : s.vm.findClass own = some m.cls) (hlink : (Cond.methodLink own index y).before args s = true) (hstat : (Cond.static y).before args s = true) (hinit : (Cond.initialized y.cls).before args s = true)
    (hcode : (Cond.codeWith y bytes maxL ret hh).before args s = true) (hy : y.cls ≠ "java/lang/invoke/MethodHandle" ∧ y.cls ≠ "java/lang/invoke/VarHandle")
    {W9 : Nat} {Pre : Pt → Array Value → Prop} {Post : Pt → Array Value → Option Value → Pt → Prop} (hK : Back l R p e below s args y 3 W9 Pre Post)
    {g : JFrame} (hg : g.method = m) (hsize : g.locals.size = c.maxLocals) {argsL rest : List Value} (hlen : ∀ sig, parseMethodDescriptor y.desc = some sig → argsL.length = sig.parameters.length)
    (hstack : g.stack = argsL.reverse ++ rest) (hW : 2 * g.monitorRoom + (rest.map fun v => v.category).sum ≤ W9) (hdg : decode c.code g.pc = .ok (.invokestatic index, 3))
    (hpre : ∀ vm₁, s.WarmedH vm₁ → Pre ⟨T.setVm vm₁, locs, cells, slots⟩ argsL.toArray) :
    ∃ (v : Option Value) (vm₁ : Vm) (B : Pt), s.WarmedH vm₁ ∧ Stand p l e R s m args below meth c B.U B.locs B.cells B.slots ∧ Post ⟨T.setVm vm₁, locs, cells, slots⟩ argsL.toArray v B ∧
      ∀ target, Steps p.tables e below (B.U.setTop { g with pc := g.pc + 3, stack := v.toList ++ rest }) target → Steps p.tables e below (T.setTop g) target := by
  obtain ⟨mk, methM, cM, hnamed, hmethM, -, -, -, -, -, -, hsigM⟩ := Cond.codeWith_spec hcode
  have hstatic : methM.isStatic = true := Cond.static_spec hnamed hmethM hstat
  obtain ⟨kP, hkP, -⟩ := className_of_methodNamed hnamed
  have hinitP : kP.init = .initialized := Cond.initialized_spec (findClass_of_methodNamed hnamed) hkP hinit
  obtain ⟨vm₁, X₁, hstep₁⟩ := X.invokestatic hexec hown hlink hnamed hmethM hstatic hkP hinitP hy (g := g) hg (argsL := argsL) (rest := rest) (hlen _ hsigM) hstack hdg
  obtain ⟨v, B, X', hpost, hsteps⟩ := hK m meth c ⟨T.setVm vm₁, locs, cells, slots⟩ { g with stack := rest } (.invokestatic index) mk argsL.toArray X₁ hg hsize hdg hW (X₁.named hnamed) (hpre vm₁ X₁.warmed)
  exact ⟨v, vm₁, B, X₁.warmed, X', hpost, fun target h => hstep₁ _ fun acts => by rw [doInvoke_state]; exact hsteps.trans h⟩
theorem vx_runSW {y : MethodName} {bytes cc : ByteArray} {maxL nL mc ms n index : Nat} {ret : Option FieldType} {hh : List (Nat × Nat × Nat × Nat)} {ws : List Cond} {rm : Room} {Pc : Array Value → State → Prop} {Qc : Array Value → State → Outcome → State → Prop} {free : Addr → Prop} {Ts : List Cond} {own : String} {As rest : List Value} {g : JFrame}
    (S : CallFix p m c cc nL s args Ts own) (hM : Met l y ws rm Pc Qc mc ms free) (cw : vx_CSW R s args own index y bytes maxL ret hh ws rm mc ms n) (hp : PreS s H Pc As)
    (hg : g.method = m) (hn : As.length = n) (hsize : g.locals.size = nL) (hstack : g.stack = As.reverse ++ rest) (hW : 2 * g.monitorRoom + (rest.map fun v => v.category).sum ≤ 8) (hdg : decode cc g.pc = .ok (.invokestatic index, 3)) (hf : cells + mc ≤ R.cells ∧ slots + ms ≤ R.slots) :
    va_Run p l e R s m args below meth c H locs cells slots mc ms g rest (Qc As.toArray) (free) := by
  obtain ⟨⟨hrc, hrs, hfr, hlo, hws, hcw⟩, hcode, hini, hy, hlen, hl, hstt⟩ := cw
  have hK : Back l R p e below s args y 3 8 (PreOf R mc ms Pc) (PostOf Qc mc ms free) := va_backW (hh := hh) (bytes := bytes) (maxL := maxL) (ret := ret) hM hp.1 hrc hrs hfr hlo hws hcw (fun a' U hW => word_at hW (Or.inl (by first | rfl | simp [Cond.onTables, Cond.keeps, Cond.steady])) hini)
  obtain ⟨hx, hb, hml, ho, -⟩ := S
  intro T hT X
  obtain ⟨v, vm₁, ⟨U', l2, c2, s2⟩, hW₁, X', ⟨g', mk, t, L, e1, e2, hq, h1, hL, h2, h3⟩, st⟩ := vx_callSW X hx (hh := hh) (bytes := bytes) (maxL := maxL) (ret := ret) ho hl hstt hini hcode hy hK hg (hsize.trans hml.symm) (argsL := As) (rest := rest) (fun sig h => hn.trans (hlen sig h)) hstack hW (by rw [hb]; exact hdg)
    (fun vm₁ hW₁ => ⟨hf.1, hf.2, hp.2 (T.setVm vm₁) hT hW₁⟩)
  dsimp only [Pt.U, Pt.locs, Pt.cells, Pt.slots] at X' e1 e2 h1 h2 h3 st
  subst h1; subst h2; subst h3
  exact ⟨v, (T.setVm vm₁).calling g' mk As.toArray, t, U', L, hT, X', hL, e1, e2, hq, st⟩
/-- not caught here, past rows that name other classes: it goes on to the caller -/
theorem vx_outP {p : Program} {l : Launch} {e : Env} {R : Room} {s : State} {m : MethodId} {args : Array Value} {below : List Frame} {meth : Method} {c : Code} {H : Heap} {locs : List Loc} {cells slots : Nat} {free : Addr → Prop} {ls : Array Slot} {rest : List Value} {Qc : Array Value → State → Outcome → State → Prop} {XC : String → State → State → Prop}
    {pc : Nat} {own E : String} {ce : Cell} {q : Addr} {mc ms : Nat} (hown : s.vm.findClass own = some m.cls) (hlocks : meth.locks = false)
    (hpass : ∀ z ∈ c.exceptionTable.toList, covers z pc = false ∨ (z.catchType ≠ 0 ∧ ∃ nm : String, (Cond.classLink own z.catchType nm).before args s = true ∧ va_Nc E nm s)) (hcell : H[q]? = some ce) (hv : ce.vm = .none) (hcl : s.vm.findClass E = some ce.cls)
    (hx : ∀ t : State, t.heap = H → s.vm.Alike t.vm → XC E s t) (hf : ∀ z ∈ locs, free z.base) (hc : cells ≤ mc) (hs : slots ≤ ms) :
    vx_W p l e R s m args below meth c H locs cells slots (vx_MQ below Qc XC args s mc ms free) (F0 m pc ls rest) q := by
  intro T hT X
  have hpl : e.platform.magicAccessors = ({} : Platform).magicAccessors := by rw [X.admits.platform]
  obtain ⟨vm', hW', X', st⟩ := X.outThrough hlocks q (g := F0 m pc ls rest) rfl rfl rfl (cell := ce) (by rw [hT]; exact hcell) (by rw [hv]; rfl)
    (by obtain ⟨k9, h9, -⟩ := Vm.findClass_spec hcl; exact ⟨k9, h9⟩) (fun z hz => by
      rcases hpass z hz with h | ⟨hz0, nm, hl1, hn1⟩
      · exact Or.inl h
      · obtain ⟨c6, hc6, hcl6⟩ := Cond.classLink_spec hown hl1 e.platform hpl
        obtain ⟨a8, b8, h1, h2, h3⟩ := hn1
        cases Option.some.inj (h1.symm.trans hcl)
        cases Option.some.inj (h2.symm.trans hc6)
        exact Or.inr ⟨hz0, _, hcl6, h3⟩)
  obtain ⟨g₀, hfr⟩ := X'.frames_eq
  have hcell9 : ((T.setVm vm').setFrames (.throwing q :: below)).heap[q]? = some ce := by
    show T.heap[q]? = some ce
    rw [hT]; exact hcell
  have hend : Ended ((T.setVm vm').setFrames (.throwing q :: below)) below (.threw q) := State.frames_setFrames _ (State.cur_lt_of_frames hfr)
  refine ⟨(T.setVm vm').setFrames (.throwing q :: below), ?_, .threw q, X'.here.running, hend, Or.inr ⟨q, rfl, E, ce, locs, hx _ hT (X'.ends _).1.alike, hcell9, hv, hcl, (X'.ends _).1, (X'.ends _).2.mono hc hs, hf⟩⟩
  rw [X.pushThrowing_eq]
  exact st
/-- a thing of a world lies in the heap -/
theorem vx_lt {D : va_G} {cl : List vw_C} {ws : va_W} {H1 : Heap} (h : va_P D cl ws H1) {k : Nat} {q : Nat × va_E} (hk : ws[k]? = some q) : q.1 < H1.size := (h k q hk).lt
end VXS
/-! ===== END ===== -/
/-! ===== BEGIN methods with a table of their own: called by a name, returning or throwing ===== -/
section VXH
/-! vx_backW, vx_callVX, vx_callSX, vx_callVW, vx_runVW, vx_runVX, vx_runSX, vx_ofWH follow the same proofs as their sisters above (Free/Laws.lean, Shelf42/LK1.lean); vx_outP calls Shelf42/NT130.lean (outThrough). -/
section
variable {l : Launch} {R : Room} {p : Program} {e : Env} {below : List Frame} {s : State} {sargs : Array Value} {y : MethodName} {len W9 : Nat}
theorem vx_backW {ws : List Cond} {rm : Room} {Pc : Array Value → State → Prop} {Qc : Array Value → State → Outcome → State → Prop} {XC : String → State → State → Prop} {mc ms : Nat} {free : Addr → Prop} {bytes : ByteArray} {maxL : Nat} {ret : Option FieldType} {hh : List (Nat × Nat × Nat × Nat)}
    (hM : vx_Met l y ws rm Pc Qc XC mc ms free) (hblind : FrameBlind Pc) (hrc : rm.cells = mc) (hrs : rm.slots = ms)
    (hframes : rm.frames + 1 ≤ R.frames) (hlocals : W9 + (maxL + 11) + rm.locals ≤ R.locals)
    (hws : ∀ w ∈ ws, ∀ a' U, s.WarmedH U.vm → w.before a' U = true) (hcode : Cond.codeWith y bytes maxL ret hh ∈ ws) (hinit : ∀ a' U, s.WarmedH U.vm → (Cond.initialized y.cls).before a' U = true) :
    vx_Back l R p e below s sargs y len W9 (PreOf R mc ms Pc) (PostOf Qc mc ms free) (vx_Post XC mc ms free) := by
  intro m meth c A g ig mk a X hg hsize hdg hW hn hp
  have h1 : (headSpec ws rm).pre.before a A.U = true := atoms_intro fun w hw => hws w hw _ _ X.warmed
  have h2 : (Cond.codeWith y bytes maxL ret hh).before a A.U = true := hws _ hcode _ _ X.warmed
  have h3 : (Cond.initialized y.cls).before a A.U = true := hinit _ _ X.warmed
  have h4 : A.cells + (headSpec ws rm).room.cells ≤ R.cells := by rw [show (headSpec ws rm).room.cells = mc from hrc]; exact hp.1
  have h5 : A.slots + (headSpec ws rm).room.slots ≤ R.slots := by rw [show (headSpec ws rm).room.slots = ms from hrs]; exact hp.2.1
  have hPc : Pc a (A.U.calling g mk a) := hblind _ _ _ _ hp.2.2
  obtain ⟨U, Ls, c0, s0⟩ := A
  dsimp only [Pt.U, Pt.locs, Pt.cells, Pt.slots] at h1 h2 h3 h4 h5 X hn hPc ⊢
  obtain ⟨m9, methY, cY, hn9, hmY, hcY, -, hlY, -⟩ := Cond.codeWith_spec h2
  cases Option.some.inj (hn9.symm.trans hn)
  obtain ⟨kY, hkY, -⟩ := className_of_methodNamed hn
  have hinitY : kY.init = .initialized := Cond.initialized_spec (findClass_of_methodNamed hn) hkY h3
  have h : At U g.method c below := by rw [hg]; exact X.here
  have hlocals9 : W9 + (maxL + 11) + (headSpec ws rm).room.locals ≤ R.locals := hlocals
  have happ : (headSpec ws rm).appliesLoose y e.platform (U.calling g mk a) = true :=
    Spec.appliesLoose_calling (g := g) h hdg hn hkY hinitY
      (X.room_calling (g := g) (R' := (headSpec ws rm).room) hsize hmY hcY hframes (by rw [hlY]; omega) h4 h5) h1
  obtain ⟨mid, hmid⟩ := h.above
  have hfr : (U.setTop g).frames = (.java g :: mid) ++ below := by rw [State.frames_setTop' g h.top, hmid]; rfl
  obtain ⟨o, s₂, hsteps, -, hend, hq⟩ := Steps.callFree hM p X.admits X.cas X.clock (acts := []) hfr happ hPc trivial
  have hq' : vx_Q Qc XC mc ms free a (U.calling g mk a) o s₂ := hq
  rw [State.frames_setTop' g h.top] at hend
  obtain ⟨g₀, hg0⟩ := Option.isSome_iff_exists.mp h.top
  obtain ⟨r, hr⟩ := State.topJava?_eq_some.mp hg0
  have hr' : (({ U with heap := s₂.heap, slotsUsed := s₂.slotsUsed } : State).setVm s₂.vm).frames = .java g₀ :: r := hr
  rcases hq' with ⟨hqc, L, hfe, hL⟩ | ⟨q, rfl, E, ce, L, hx, hce, hcv, hcl, hW₂, hsm, hL⟩
  · obtain ⟨⟨v, rfl⟩, hW₂, e2, q2, q3, q4, q5, q6⟩ := id hfe
    have e3 : s₂ = ({ (U.calling g mk a).setFrames s₂.frames with heap := s₂.heap, slotsUsed := s₂.slotsUsed } : State).setVm s₂.vm := by
      have : s₂ = ({ s₂ with vm := (U.calling g mk a).vm } : State).setVm s₂.vm := rfl
      rw [e2] at this
      exact this
    obtain ⟨c₂, i₂, len₂, hc₂, hd₂, hf₂⟩ := hend
    have hW' : U.WarmedH s₂.vm := hW₂
    have hcc : c₂ = c := by
      have h1 : s₂.code? g.method = U.code? g.method := by
        rw [State.code?_eq, State.code?_eq, hW'.alike.method?]
      exact Option.some.inj (hc₂.symm.trans (h1.trans h.code))
    subst hcc
    have hlen : len₂ = len := by rw [hdg] at hd₂; cases hd₂; rfl
    subst hlen
    have hs₂ : s₂ = (({ U with heap := s₂.heap, slotsUsed := s₂.slotsUsed } : State).setVm s₂.vm).setTop { g with pc := g.pc + len₂, stack := v.toList ++ g.stack } := by
      refine e3.trans ?_
      rw [hf₂, State.calling_eq h.top, State.setFrames_setFrames, State.setTop_of_frames _ hr', hr]
      rfl
    have hsame : U.sameButNew ({ U with heap := s₂.heap, slotsUsed := s₂.slotsUsed } : State) L mc ms := by
      refine ⟨?_, q2, q3, q4, q5, q6⟩
      obtain ⟨t, ht, -⟩ := State.frames_cons hr
      show ({ U with heap := s₂.heap, slotsUsed := s₂.slotsUsed } : State) = { U.setFrames U.frames with heap := s₂.heap, slotsUsed := s₂.slotsUsed }
      rw [State.setFrames_self ht]
    subst hg
    refine Or.inl ⟨v, ⟨(({ U with heap := s₂.heap, slotsUsed := s₂.slotsUsed } : State).setVm s₂.vm), Ls ++ L, c0 + mc, s0 + ms⟩,
      ⟨X.admits, X.cas, X.clock, X.frames, X.room, X.hears, X.method, X.code, (X.here.setHeapUsed s₂.heap s₂.slotsUsed).setVm hW'.alike, X.tail, State.WarmedH.trans X.warmed hW', X.limits, X.bytes, X.same.trans (hsame.setVm s.vm)⟩,
      ⟨g, mk, s₂, L, rfl, rfl, hqc, rfl, hL, rfl, rfl⟩, ?_⟩
    show Steps p.tables e below _ ((({ U with heap := s₂.heap, slotsUsed := s₂.slotsUsed } : State).setVm s₂.vm).setTop { g with pc := g.pc + len₂, stack := v.toList ++ g.stack })
    rw [← hs₂]
    exact hsteps
  · obtain ⟨e2, q2, q3, q4, q5, q6⟩ := id hsm
    have e3 : s₂ = ({ (U.calling g mk a).setFrames s₂.frames with heap := s₂.heap, slotsUsed := s₂.slotsUsed } : State).setVm s₂.vm := by
      have : s₂ = ({ s₂ with vm := (U.calling g mk a).vm } : State).setVm s₂.vm := rfl
      rw [e2] at this
      exact this
    have hf₂ : s₂.frames = .throwing q :: .java g :: U.frames.tail := hend
    have hW' : U.WarmedH s₂.vm := hW₂
    have hs₂ : s₂ = ((({ U with heap := s₂.heap, slotsUsed := s₂.slotsUsed } : State).setVm s₂.vm).setTop g).pushFrame (.throwing q) := by
      refine e3.trans ?_
      rw [hf₂, State.calling_eq h.top, State.setFrames_setFrames, State.pushFrame, State.frames_setTop _ hr', State.setTop_of_frames _ hr', State.setFrames_setFrames, hr]
      rfl
    have hsame : U.sameButNew ({ U with heap := s₂.heap, slotsUsed := s₂.slotsUsed } : State) L mc ms := by
      refine ⟨?_, q2, q3, q4, q5, q6⟩
      obtain ⟨t, ht, -⟩ := State.frames_cons hr
      show ({ U with heap := s₂.heap, slotsUsed := s₂.slotsUsed } : State) = { U.setFrames U.frames with heap := s₂.heap, slotsUsed := s₂.slotsUsed }
      rw [State.setFrames_self ht]
    subst hg
    refine Or.inr ⟨q, ⟨(({ U with heap := s₂.heap, slotsUsed := s₂.slotsUsed } : State).setVm s₂.vm), Ls ++ L, c0 + mc, s0 + ms⟩,
      ⟨X.admits, X.cas, X.clock, X.frames, X.room, X.hears, X.method, X.code, (X.here.setHeapUsed s₂.heap s₂.slotsUsed).setVm hW'.alike, X.tail, State.WarmedH.trans X.warmed hW', X.limits, X.bytes, X.same.trans (hsame.setVm s.vm)⟩,
      ⟨g, mk, s₂, L, E, ce, rfl, rfl, hx, hce, hcv, hcl, rfl, hL, rfl, rfl⟩, ?_⟩
    show Steps p.tables e below _ (((({ U with heap := s₂.heap, slotsUsed := s₂.slotsUsed } : State).setVm s₂.vm).setTop g).pushFrame (.throwing q))
    rw [← hs₂]
    exact hsteps
end
variable {p : Program} {l : Launch} {e : Env} {R : Room} {s : State} {m : MethodId} {args : Array Value} {below : List Frame} {meth : Method} {c : Code} {T : State} {H : Heap} {locs : List Loc} {cells slots : Nat}
theorem vx_callVX (X : Stand p l e R s m args below meth c T locs cells slots) (hexec : p.tables.exec = Jvm.exec) {own C : String} {index : Nat} {y : MethodName} {bytes : ByteArray} {maxL : Nat} {ret : Option FieldType} {hh : List (Nat × Nat × Nat × Nat)}
    (hown : s.vm.findClass own = some m.cls) (hlink : (Cond.methodLink own index y).before args s = true) (hinst : (Cond.instanceMethod y).before args s = true) (hsel : (Cond.selects C y y).before args s = true)
    (hcode : (Cond.codeWith y bytes maxL ret hh).before args s = true) (hy : y.cls ≠ "java/lang/invoke/MethodHandle" ∧ y.cls ≠ "java/lang/invoke/VarHandle")
    {W9 : Nat} {Pre : Pt → Array Value → Prop} {Post : Pt → Array Value → Option Value → Pt → Prop} {PostX : Pt → Array Value → Addr → Pt → Prop} (hK : vx_Back l R p e below s args y 3 W9 Pre Post PostX)
    {b : Addr} {cellB : Cell} (hcell : T.heap[b]? = some cellB) (hobj : cellB.vm.isStatics = false) (hcls : s.vm.findClass C = some cellB.cls)
    {g : JFrame} (hg : g.method = m) (hsize : g.locals.size = c.maxLocals) {argsL rest : List Value} (hlen : ∀ sig, parseMethodDescriptor y.desc = some sig → argsL.length = sig.parameters.length)
    (hstack : g.stack = argsL.reverse ++ .ref b :: rest) (hW : 2 * g.monitorRoom + (rest.map fun v => v.category).sum ≤ W9) (hdg : decode c.code g.pc = .ok (.invokevirtual index, 3))
    (hpre : ∀ vm₁, s.WarmedH vm₁ → Pre ⟨T.setVm vm₁, locs, cells, slots⟩ (Value.ref b :: argsL).toArray) :
    (∃ (v : Option Value) (vm₁ : Vm) (B : Pt), s.WarmedH vm₁ ∧ Stand p l e R s m args below meth c B.U B.locs B.cells B.slots ∧ Post ⟨T.setVm vm₁, locs, cells, slots⟩ (Value.ref b :: argsL).toArray v B ∧
      ∀ target, Steps p.tables e below (B.U.setTop { g with pc := g.pc + 3, stack := v.toList ++ rest }) target → Steps p.tables e below (T.setTop g) target) ∨
    (∃ (q : Addr) (vm₁ : Vm) (B : Pt), s.WarmedH vm₁ ∧ Stand p l e R s m args below meth c B.U B.locs B.cells B.slots ∧ PostX ⟨T.setVm vm₁, locs, cells, slots⟩ (Value.ref b :: argsL).toArray q B ∧
      Steps p.tables e below (T.setTop g) ((B.U.setTop { g with stack := rest }).pushFrame (.throwing q))) := by
  obtain ⟨mk, methM, hnamed, hmethM, hstM, habM⟩ := Cond.instanceMethod_spec hinst
  obtain ⟨m8, methM', cM, hn8, hmethM', -, -, -, -, -, -, hsigM⟩ := Cond.codeWith_spec hcode
  cases Option.some.inj (hn8.symm.trans hnamed)
  cases hmethM.symm.trans hmethM'
  obtain ⟨c2, r2, m2, q1, q2, q3, q4, kP, hkP, hkPi⟩ := Cond.selects_spec hsel
  cases hcls.symm.trans q1
  cases (State.methodFound?_of_named hnamed hy).symm.trans q2
  cases hnamed.symm.trans q3
  have hselP : selectMethod e.platform s.vm cellB.cls mk = .method mk := by rw [Launch.admits_selectMethod X.admits]; exact q4
  obtain ⟨vm₁, X₁, hstep₁⟩ := X.invokevirtual hexec hown hlink hnamed hmethM hstM hkP hkPi hy (a := b) (cell := cellB) hcell
    (fun z h => by rw [h] at hobj; cases hobj) hselP hmethM habM hkP hkPi (g := g) hg (argsL := argsL) (rest := rest) (hlen _ hsigM) hstack hdg
  rcases hK m meth c ⟨T.setVm vm₁, locs, cells, slots⟩ { g with stack := rest } (.invokevirtual index) mk (Value.ref b :: argsL).toArray X₁ hg hsize hdg hW (X₁.named hnamed) (hpre vm₁ X₁.warmed) with ⟨v, B, X', hpost, hsteps⟩ | ⟨q, B, X', hpost, hsteps⟩
  · exact Or.inl ⟨v, vm₁, B, X₁.warmed, X', hpost, fun target h => hstep₁ _ fun acts => by rw [doInvoke_state]; exact hsteps.trans h⟩
  · exact Or.inr ⟨q, vm₁, B, X₁.warmed, X', hpost, hstep₁ _ fun acts => by rw [doInvoke_state]; exact hsteps⟩
theorem vx_callSX (X : Stand p l e R s m args below meth c T locs cells slots) (hexec : p.tables.exec = Jvm.exec) {own : String} {index : Nat} {y : MethodName} {bytes : ByteArray} {maxL : Nat} {ret : Option FieldType} {hh : List (Nat × Nat × Nat × Nat)}
    (hown : s.vm.findClass own = some m.cls) (hlink : (Cond.methodLink own index y).before args s = true) (hstat : (Cond.static y).before args s = true) (hinit : (Cond.initialized y.cls).before args s = true)
    (hcode : (Cond.codeWith y bytes maxL ret hh).before args s = true) (hy : y.cls ≠ "java/lang/invoke/MethodHandle" ∧ y.cls ≠ "java/lang/invoke/VarHandle")
    {W9 : Nat} {Pre : Pt → Array Value → Prop} {Post : Pt → Array Value → Option Value → Pt → Prop} {PostX : Pt → Array Value → Addr → Pt → Prop} (hK : vx_Back l R p e below s args y 3 W9 Pre Post PostX)
    {g : JFrame} (hg : g.method = m) (hsize : g.locals.size = c.maxLocals) {argsL rest : List Value} (hlen : ∀ sig, parseMethodDescriptor y.desc = some sig → argsL.length = sig.parameters.length)
    (hstack : g.stack = argsL.reverse ++ rest) (hW : 2 * g.monitorRoom + (rest.map fun v => v.category).sum ≤ W9) (hdg : decode c.code g.pc = .ok (.invokestatic index, 3))
    (hpre : ∀ vm₁, s.WarmedH vm₁ → Pre ⟨T.setVm vm₁, locs, cells, slots⟩ argsL.toArray) :
    (∃ (v : Option Value) (vm₁ : Vm) (B : Pt), s.WarmedH vm₁ ∧ Stand p l e R s m args below meth c B.U B.locs B.cells B.slots ∧ Post ⟨T.setVm vm₁, locs, cells, slots⟩ argsL.toArray v B ∧
      ∀ target, Steps p.tables e below (B.U.setTop { g with pc := g.pc + 3, stack := v.toList ++ rest }) target → Steps p.tables e below (T.setTop g) target) ∨
    (∃ (q : Addr) (vm₁ : Vm) (B : Pt), s.WarmedH vm₁ ∧ Stand p l e R s m args below meth c B.U B.locs B.cells B.slots ∧ PostX ⟨T.setVm vm₁, locs, cells, slots⟩ argsL.toArray q B ∧
      Steps p.tables e below (T.setTop g) ((B.U.setTop { g with stack := rest }).pushFrame (.throwing q))) := by
  obtain ⟨mk, methM, cM, hnamed, hmethM, -, -, -, -, -, -, hsigM⟩ := Cond.codeWith_spec hcode
  have hstatic : methM.isStatic = true := Cond.static_spec hnamed hmethM hstat
  obtain ⟨kP, hkP, -⟩ := className_of_methodNamed hnamed
  have hinitP : kP.init = .initialized := Cond.initialized_spec (findClass_of_methodNamed hnamed) hkP hinit
  obtain ⟨vm₁, X₁, hstep₁⟩ := X.invokestatic hexec hown hlink hnamed hmethM hstatic hkP hinitP hy (g := g) hg (argsL := argsL) (rest := rest) (hlen _ hsigM) hstack hdg
  rcases hK m meth c ⟨T.setVm vm₁, locs, cells, slots⟩ { g with stack := rest } (.invokestatic index) mk argsL.toArray X₁ hg hsize hdg hW (X₁.named hnamed) (hpre vm₁ X₁.warmed) with ⟨v, B, X', hpost, hsteps⟩ | ⟨q, B, X', hpost, hsteps⟩
  · exact Or.inl ⟨v, vm₁, B, X₁.warmed, X', hpost, fun target h => hstep₁ _ fun acts => by rw [doInvoke_state]; exact hsteps.trans h⟩
  · exact Or.inr ⟨q, vm₁, B, X₁.warmed, X', hpost, hstep₁ _ fun acts => by rw [doInvoke_state]; exact hsteps⟩
theorem vx_callVW (X : Stand p l e R s m args below meth c T locs cells slots) (hexec : p.tables.exec = Jvm.exec) {own C : String} {index : Nat} {y : MethodName} {bytes : ByteArray} {maxL : Nat} {ret : Option FieldType} {hh : List (Nat × Nat × Nat × Nat)}
    (hown : s.vm.findClass own = some m.cls) (hlink : (Cond.methodLink own index y).before args s = true) (hinst : (Cond.instanceMethod y).before args s = true) (hsel : (Cond.selects C y y).before args s = true)
    (hcode : (Cond.codeWith y bytes maxL ret hh).before args s = true) (hy : y.cls ≠ "java/lang/invoke/MethodHandle" ∧ y.cls ≠ "java/lang/invoke/VarHandle")
    {W9 : Nat} {Pre : Pt → Array Value → Prop} {Post : Pt → Array Value → Option Value → Pt → Prop} (hK : Back l R p e below s args y 3 W9 Pre Post)
    {b : Addr} {cellB : Cell} (hcell : T.heap[b]? = some cellB) (hobj : cellB.vm.isStatics = false) (hcls : s.vm.findClass C = some cellB.cls)
    {g : JFrame} (hg : g.method = m) (hsize : g.locals.size = c.maxLocals) {argsL rest : List Value} (hlen : ∀ sig, parseMethodDescriptor y.desc = some sig → argsL.length = sig.parameters.length)
    (hstack : g.stack = argsL.reverse ++ .ref b :: rest) (hW : 2 * g.monitorRoom + (rest.map fun v => v.category).sum ≤ W9) (hdg : decode c.code g.pc = .ok (.invokevirtual index, 3))
    (hpre : ∀ vm₁, s.WarmedH vm₁ → Pre ⟨T.setVm vm₁, locs, cells, slots⟩ (Value.ref b :: argsL).toArray) :
    ∃ (v : Option Value) (vm₁ : Vm) (B : Pt), s.WarmedH vm₁ ∧ Stand p l e R s m args below meth c B.U B.locs B.cells B.slots ∧ Post ⟨T.setVm vm₁, locs, cells, slots⟩ (Value.ref b :: argsL).toArray v B ∧
      ∀ target, Steps p.tables e below (B.U.setTop { g with pc := g.pc + 3, stack := v.toList ++ rest }) target → Steps p.tables e below (T.setTop g) target := by
  obtain ⟨mk, methM, hnamed, hmethM, hstM, habM⟩ := Cond.instanceMethod_spec hinst
  obtain ⟨m8, methM', cM, hn8, hmethM', -, -, -, -, -, -, hsigM⟩ := Cond.codeWith_spec hcode
  cases Option.some.inj (hn8.symm.trans hnamed)
  cases hmethM.symm.trans hmethM'
  obtain ⟨c2, r2, m2, q1, q2, q3, q4, kP, hkP, hkPi⟩ := Cond.selects_spec hsel
  cases hcls.symm.trans q1
  cases (State.methodFound?_of_named hnamed hy).symm.trans q2
  cases hnamed.symm.trans q3
  have hselP : selectMethod e.platform s.vm cellB.cls mk = .method mk := by rw [Launch.admits_selectMethod X.admits]; exact q4
  obtain ⟨vm₁, X₁, hstep₁⟩ := X.invokevirtual hexec hown hlink hnamed hmethM hstM hkP hkPi hy (a := b) (cell := cellB) hcell
    (fun z h => by rw [h] at hobj; cases hobj) hselP hmethM habM hkP hkPi (g := g) hg (argsL := argsL) (rest := rest) (hlen _ hsigM) hstack hdg
  obtain ⟨v, B, X', hpost, hsteps⟩ := hK m meth c ⟨T.setVm vm₁, locs, cells, slots⟩ { g with stack := rest } (.invokevirtual index) mk (Value.ref b :: argsL).toArray X₁ hg hsize hdg hW (X₁.named hnamed) (hpre vm₁ X₁.warmed)
  exact ⟨v, vm₁, B, X₁.warmed, X', hpost, fun target h => hstep₁ _ fun acts => by rw [doInvoke_state]; exact hsteps.trans h⟩
abbrev vx_CVW (R : Room) (s : State) (args : Array Value) (own C : String) (index : Nat) (y : MethodName) (bytes : ByteArray) (maxL : Nat) (ret : Option FieldType) (hh : List (Nat × Nat × Nat × Nat)) (ws : List Cond) (rm : Room) (mc ms n : Nat) : Prop :=
  (rm.cells = mc ∧ rm.slots = ms ∧ rm.frames + 1 ≤ R.frames ∧ 8 + (maxL + 11) + rm.locals ≤ R.locals ∧ (∀ w ∈ ws, ∀ (a' : Array Value) (U : State), s.WarmedH U.vm → w.before a' U = true) ∧ Cond.codeWith y bytes maxL ret hh ∈ ws) ∧
  (Cond.codeWith y bytes maxL ret hh).before args s = true ∧ (Cond.initialized y.cls).before args s = true ∧ (y.cls ≠ "java/lang/invoke/MethodHandle" ∧ y.cls ≠ "java/lang/invoke/VarHandle") ∧
  (∀ sig, parseMethodDescriptor y.desc = some sig → n = sig.parameters.length) ∧ (Cond.methodLink own index y).before args s = true ∧ (Cond.instanceMethod y).before args s = true ∧ (Cond.selects C y y).before args s = true
theorem vx_cwVW {own C : String} {index maxL mc ms : Nat} {y : MethodName} {bytes : ByteArray} {ret : Option FieldType} {hh : List (Nat × Nat × Nat × Nat)} {Ts ws ws' : List Cond} {rm : Room} (n : Nat) (ht : ∀ w ∈ Ts, w.before args s = true) (hT : GoodIn Ts (wsV own index C y ws)) (hw : ws = Cond.codeWith y bytes maxL ret hh :: ws') (hrc : rm.cells = mc) (hrs : rm.slots = ms)
    (hd : y.cls = C ∧ y.cls ≠ "java/lang/invoke/MethodHandle" ∧ y.cls ≠ "java/lang/invoke/VarHandle" ∧ (parseMethodDescriptor y.desc).map (fun d => d.parameters.length) = some n) (hR : rm.frames + 1 ≤ R.frames ∧ 8 + (maxL + 11) + rm.locals ≤ R.locals) :
    vx_CVW R s args own C index y bytes maxL ret hh ws rm mc ms n := by
  obtain ⟨hC, hd⟩ := hd
  subst hC
  have ok : ∀ w ∈ wsV own index y.cls y ws, w.before args s = true := fun w h => ht w (hT w h).1
  have hG : GoodIn Ts ws := fun w h => hT w (by unfold wsV; exact List.mem_append_right _ h)
  have hc : Cond.codeWith y bytes maxL ret hh ∈ ws := by rw [hw]; exact List.mem_cons_self
  refine ⟨⟨hrc, hrs, hR.1, hR.2, pay_in ht hG, hc⟩, ht _ (hG _ hc).1, ok _ (by simp [wsV]), ⟨hd.1, hd.2.1⟩, fun sig h => ?_, ok _ (by simp [wsV]), ok _ (by simp [wsV]), ok _ (by simp [wsV])⟩
  have h2 := hd.2.2
  rw [h] at h2
  exact (Option.some.inj h2).symm
theorem vx_runVW {y : MethodName} {bytes cc : ByteArray} {maxL nL mc ms n index : Nat} {ret : Option FieldType} {hh : List (Nat × Nat × Nat × Nat)} {ws : List Cond} {rm : Room} {Pc : Array Value → State → Prop} {Qc : Array Value → State → Outcome → State → Prop} {free : Addr → Prop} {Ts : List Cond} {own C : String} {b : Addr} {As rest : List Value} {g : JFrame}
    (S : CallFix p m c cc nL s args Ts own) (hM : Met l y ws rm Pc Qc mc ms free) (cw : vx_CVW R s args own C index y bytes maxL ret hh ws rm mc ms n) (hp : PreV s H C b Pc As)
    (hg : g.method = m) (hn : As.length = n) (hsize : g.locals.size = nL) (hstack : g.stack = As.reverse ++ .ref b :: rest) (hW : 2 * g.monitorRoom + (rest.map fun v => v.category).sum ≤ 8) (hdg : decode cc g.pc = .ok (.invokevirtual index, 3)) (hf : cells + mc ≤ R.cells ∧ slots + ms ≤ R.slots) :
    va_Run p l e R s m args below meth c H locs cells slots mc ms g rest (Qc (Value.ref b :: As).toArray) free := by
  obtain ⟨⟨hrc, hrs, hfr, hlo, hws, hcw⟩, hcode, hini, hy, hlen, hl, hin, hse⟩ := cw
  have hK : Back l R p e below s args y 3 8 (PreOf R mc ms Pc) (PostOf Qc mc ms free) := va_backW (hh := hh) (bytes := bytes) (maxL := maxL) (ret := ret) hM hp.1 hrc hrs hfr hlo hws hcw (fun a' U hW => word_at hW (Or.inl (by first | rfl | simp [Cond.onTables, Cond.keeps, Cond.steady])) hini)
  obtain ⟨hx, hb, hml, ho, -⟩ := S
  obtain ⟨-, ⟨cellB, hcB, hoB, hclB⟩, hPc⟩ := hp
  intro T hT X
  obtain ⟨v, vm₁, ⟨U', l2, c2, s2⟩, hW₁, X', ⟨g', mk, t, L, e1, e2, hq, h1, hL, h2, h3⟩, st⟩ := vx_callVW X hx (C := C) (hh := hh) (bytes := bytes) (maxL := maxL) (ret := ret) ho hl hin hse hcode hy hK (by rw [hT]; exact hcB) hoB hclB hg (hsize.trans hml.symm) (argsL := As) (rest := rest) (fun sig h => hn.trans (hlen sig h)) hstack hW (by rw [hb]; exact hdg)
    (fun vm₁ hW₁ => ⟨hf.1, hf.2, hPc (T.setVm vm₁) hT hW₁⟩)
  dsimp only [Pt.U, Pt.locs, Pt.cells, Pt.slots] at X' e1 e2 h1 h2 h3 st
  subst h1; subst h2; subst h3
  exact ⟨v, (T.setVm vm₁).calling g' mk (Value.ref b :: As).toArray, t, U', L, hT, X', hL, e1, e2, hq, st⟩
section
variable {y : MethodName} {bytes cc : ByteArray} {maxL nL mc ms n index : Nat} {ret : Option FieldType} {ws : List Cond} {rm : Room} {Pc : Array Value → State → Prop} {Qc : Array Value → State → Outcome → State → Prop} {XC : String → State → State → Prop} {free : Addr → Prop} {Ts : List Cond} {own C : String} {b : Addr} {As rest : List Value} {g : JFrame}
theorem vx_runVX {hh : List (Nat × Nat × Nat × Nat)} (S : CallFix p m c cc nL s args Ts own) (hM : vx_Met l y ws rm Pc Qc XC mc ms free) (cw : vx_CVW R s args own C index y bytes maxL ret hh ws rm mc ms n) (hp : PreV s H C b Pc As)
    (hg : g.method = m) (hn : As.length = n) (hsize : g.locals.size = nL) (hstack : g.stack = As.reverse ++ .ref b :: rest) (hW : 2 * g.monitorRoom + (rest.map fun v => v.category).sum ≤ 8) (hdg : decode cc g.pc = .ok (.invokevirtual index, 3)) (hf : cells + mc ≤ R.cells ∧ slots + ms ≤ R.slots) :
    vx_Run p l e R s m args below meth c H locs cells slots mc ms g rest (Qc (Value.ref b :: As).toArray) XC free := by
  obtain ⟨⟨hrc, hrs, hfr, hlo, hws, hcw⟩, hcode, hini, hy, hlen, hl, hin, hse⟩ := cw
  have hK : vx_Back l R p e below s args y 3 8 (PreOf R mc ms Pc) (PostOf Qc mc ms free) (vx_Post XC mc ms free) := vx_backW (hh := hh) (bytes := bytes) (maxL := maxL) (ret := ret) hM hp.1 hrc hrs hfr hlo hws hcw (fun a' U hW => word_at hW (Or.inl (by first | rfl | simp [Cond.onTables, Cond.keeps, Cond.steady])) hini)
  obtain ⟨hx, hb, hml, ho, -⟩ := S
  obtain ⟨-, ⟨cellB, hcB, hoB, hclB⟩, hPc⟩ := hp
  intro T hT X
  rcases vx_callVX X hx (C := C) (hh := hh) (bytes := bytes) (maxL := maxL) (ret := ret) ho hl hin hse hcode hy hK (by rw [hT]; exact hcB) hoB hclB hg (hsize.trans hml.symm) (argsL := As) (rest := rest) (fun sig h => hn.trans (hlen sig h)) hstack hW (by rw [hb]; exact hdg)
    (fun vm₁ hW₁ => ⟨hf.1, hf.2, hPc (T.setVm vm₁) hT hW₁⟩) with ⟨v, vm₁, ⟨U', l2, c2, s2⟩, hW₁, X', ⟨g', mk, t, L, e1, e2, hq, h1, hL, h2, h3⟩, st⟩ | ⟨q, vm₁, ⟨U', l2, c2, s2⟩, hW₁, X', ⟨g', mk, t, L, E, ce, e1, e2, hq, hce, hcv, hcl, h1, hL, h2, h3⟩, st⟩
  · dsimp only [Pt.U, Pt.locs, Pt.cells, Pt.slots] at X' e1 e2 h1 h2 h3 st
    subst h1; subst h2; subst h3
    exact Or.inl ⟨v, (T.setVm vm₁).calling g' mk (Value.ref b :: As).toArray, t, U', L, hT, X', hL, e1, e2, hq, st⟩
  · dsimp only [Pt.U, Pt.locs, Pt.cells, Pt.slots] at X' e1 e2 h1 h2 h3 st hcl
    subst h1; subst h2; subst h3
    exact Or.inr ⟨q, (T.setVm vm₁).calling g' mk (Value.ref b :: As).toArray, t, U', L, E, ce, hT, X', hL, e1, e2, hq, hce, hcv, vx_cls hW₁ hcl, st⟩
theorem vx_runSX {hh : List (Nat × Nat × Nat × Nat)} (S : CallFix p m c cc nL s args Ts own) (hM : vx_Met l y ws rm Pc Qc XC mc ms free) (cw : vx_CSW R s args own index y bytes maxL ret hh ws rm mc ms n) (hp : PreS s H Pc As)
    (hg : g.method = m) (hn : As.length = n) (hsize : g.locals.size = nL) (hstack : g.stack = As.reverse ++ rest) (hW : 2 * g.monitorRoom + (rest.map fun v => v.category).sum ≤ 8) (hdg : decode cc g.pc = .ok (.invokestatic index, 3)) (hf : cells + mc ≤ R.cells ∧ slots + ms ≤ R.slots) :
    vx_Run p l e R s m args below meth c H locs cells slots mc ms g rest (Qc As.toArray) XC free := by
  obtain ⟨⟨hrc, hrs, hfr, hlo, hws, hcw⟩, hcode, hini, hy, hlen, hl, hstt⟩ := cw
  have hK : vx_Back l R p e below s args y 3 8 (PreOf R mc ms Pc) (PostOf Qc mc ms free) (vx_Post XC mc ms free) := vx_backW (hh := hh) (bytes := bytes) (maxL := maxL) (ret := ret) hM hp.1 hrc hrs hfr hlo hws hcw (fun a' U hW => word_at hW (Or.inl (by first | rfl | simp [Cond.onTables, Cond.keeps, Cond.steady])) hini)
  obtain ⟨hx, hb, hml, ho, -⟩ := S
  intro T hT X
  rcases vx_callSX X hx (hh := hh) (bytes := bytes) (maxL := maxL) (ret := ret) ho hl hstt hini hcode hy hK hg (hsize.trans hml.symm) (argsL := As) (rest := rest) (fun sig h => hn.trans (hlen sig h)) hstack hW (by rw [hb]; exact hdg)
    (fun vm₁ hW₁ => ⟨hf.1, hf.2, hp.2 (T.setVm vm₁) hT hW₁⟩) with ⟨v, vm₁, ⟨U', l2, c2, s2⟩, hW₁, X', ⟨g', mk, t, L, e1, e2, hq, h1, hL, h2, h3⟩, st⟩ | ⟨q, vm₁, ⟨U', l2, c2, s2⟩, hW₁, X', ⟨g', mk, t, L, E, ce, e1, e2, hq, hce, hcv, hcl, h1, hL, h2, h3⟩, st⟩
  · dsimp only [Pt.U, Pt.locs, Pt.cells, Pt.slots] at X' e1 e2 h1 h2 h3 st
    subst h1; subst h2; subst h3
    exact Or.inl ⟨v, (T.setVm vm₁).calling g' mk As.toArray, t, U', L, hT, X', hL, e1, e2, hq, st⟩
  · dsimp only [Pt.U, Pt.locs, Pt.cells, Pt.slots] at X' e1 e2 h1 h2 h3 st hcl
    subst h1; subst h2; subst h3
    exact Or.inr ⟨q, (T.setVm vm₁).calling g' mk As.toArray, t, U', L, E, ce, hT, X', hL, e1, e2, hq, hce, hcv, vx_cls hW₁ hcl, st⟩
end
end VXH
theorem vx_ofWH {l : Launch} {y : MethodName} {ws ws' : List Cond} {rm : Room} {Pc : Array Value → State → Prop} {Qc : Array Value → State → Outcome → State → Prop} {XC : String → State → State → Prop} {mc ms : Nat} {free : Addr → Prop} {cc : ByteArray} {maxL : Nat} {ret : Option FieldType} {hh : List (Nat × Nat × Nat × Nat)}
    (hy : plainName y.cls = true) (hw : ws = Cond.codeWith y cc maxL ret hh :: ws')
    (body : ∀ p e s m args below meth c s₁, BodyLoose p l y (headSpec ws rm) cc maxL ret e s m args below meth c s₁ → c.maxLocals = maxL → Pc args s →
      W p l e (headSpec ws rm).room s m args below meth c s.heap [] 0 0 (vx_MQ below Qc XC args s mc ms free) (entryFrame m args maxL)) : vx_Met l y ws rm Pc Qc XC mc ms free := by
  refine MetFree.of_bodyS (code := cc) (maxLocals := maxL) (ret := ret) hy ?_ ?_
  · intro args s m h hn
    obtain ⟨m9, meth, c, hn9, h1, h2, h3, h4, -, h5, h6, -⟩ := Cond.codeWith_spec (atoms_spec (ws := ws) h _ (by rw [hw]; exact List.mem_cons_self))
    cases hn.symm.trans hn9
    exact ⟨meth, c, h1, h2, h3, h4, h5, h6⟩
  · intro p e s m args below meth c s₁ B hml hP _
    have hh0 : s₁.heap = s.heap := by rw [B.state]; rfl
    obtain ⟨t, a1, o, b1, b2, b3⟩ := body p e s m args below meth c s₁ B hml hP s₁ hh0 (Stand.of_body B)
    exact ⟨t, o, a1, b1, b2, b3⟩
/-! ===== END ===== -/

/-! ===== BEGIN what the machine throws by itself, no traces kept ===== -/
section VXM
set_option maxHeartbeats 1000000 in
/-- the machine throws cls with the message text, no traces kept: from its note over the frame g to 'throwing' over the same frame (follows the proofs of Stand.vmThrowsMessage, Shelf/KitTracedVmS.lean, and Stand.throwsMessageColdBareV, StandMessageColdV.lean, without the step out of the frame) -/
theorem vx_vmAt {p : Program} {l : Launch} {e : Env} {R : Room} {s : State} {m₀ : MethodId} {args : Array Value} {below : List Frame} {meth : Method} {c : Code} {W : State} {locs : List Loc} {cells slots : Nat}
    (X : Stand p l e R s m₀ args below meth c W locs cells slots) (hexec : p.tables.exec = Jvm.exec) (htr : e.platform.stackTraces = false) {cls : String} {names : List String} {text : String}
    (hcls : Bundle.fit cls = true) (hnames : ∀ n ∈ names, Bundle.fit n = true) (hsoe : (cls == "java/lang/StackOverflowError") = false) (hoom : (cls == "java/lang/OutOfMemoryError") = false)
    (h : ∀ a ∈ Bundle.messageArmAtoms cls names, a.before args s = true)
    (hlocs : ∀ x ∈ locs, ∀ cell, s.heap[x.base]? = some cell → cell.vm.isStatics = false)
    (htext : (text == notModelled) = false) (hlimit : ¬ (stringBytes (stringToUtf16 text)).size > e.platform.arrayLengthLimit) (hheap : ¬ (stringBytes (stringToUtf16 text)).size * componentBytes .byte > e.platform.maxHeapBytes)
    {g : JFrame} (hg : g.method = m₀) (hsize : g.locals.size = c.maxLocals)
    (hRframes : names.length + 4 < R.frames) (hRlocals : 2 * g.monitorRoom + (g.stack.map fun v => v.category).sum + 10240 ≤ R.locals) (hshort : 13 * names.length + 55 ≤ 10240)
    (hRcells : cells + 3 ≤ R.cells) (hRslots : slots + ((stringBytes (stringToUtf16 text)).size + 4 + 6) ≤ R.slots) (hlocks : meth.locks = false) :
    ∃ (S : State) (q : Addr) (ce : Cell), (∀ target, Steps p.tables e below ((S.setTop g).pushFrame (.throwing q)) target → Steps p.tables e below ((W.setTop g).pushFrame (.throwNew cls (some text) none)) target) ∧
      Stand p l e R s m₀ args below meth c S locs (cells + 3) (slots + ((stringBytes (stringToUtf16 text)).size + 4 + 6)) ∧ S.heap[q]? = some ce ∧ s.vm.findClass cls = some ce.cls ∧ ce.vm = .none := by
  have howns : e.platform.frameOwnsMonitors = true := by rw [X.admits.platform]
  have hfin : e.platform.finalization = false := by rw [X.admits.platform]
  have hpl : e.platform.magicAccessors = ({} : Platform).magicAccessors := by rw [X.admits.platform]
  have a : ∀ x, x ∈ Bundle.messageArmAtoms cls names → x.holds args s none s [] = true := fun x hx => h x hx
  obtain ⟨T, Z0, L, -, Y⟩ := ThrowableC.of_atoms (args := args) howns hfin hpl (fun x hx => h x (by simp [Bundle.messageArmAtoms, hx]))
  obtain ⟨Z, M, LZ, LM, hnZ⟩ := Init0T.ofS_atoms (args := args) hpl L Y (fun x hx => h x (by simp [Bundle.messageArmAtoms, hx]))
  obtain ⟨P1, Ps, hlen, L1, hL, hP1m, hlink1, hlink⟩ := Bundle.chainS (args := args) hpl hnZ names cls hcls hnames (fun x hx => h x (by simp [Bundle.messageArmAtoms, hx]))
  obtain ⟨Zs, LZs, hn4, hfitv, hfitc⟩ := StringT.of_atoms (args := args) (fun x hx => h x (by simp [Bundle.messageArmAtoms, hx]))
  have hfound : s.vm.findClass cls = some P1.m.cls := findClass_of_methodNamed hP1m
  obtain ⟨c1, kX, hc1, hk, hord, -, -, hn6⟩ := Cond.instantiable_spec (a (.instantiable cls 6) (by simp [Bundle.messageArmAtoms]))
  cases Option.some.inj (hc1.symm.trans hfound)
  have hinit := Cond.initialized_spec hfound hk (a (.initialized cls) (by simp [Bundle.messageArmAtoms]))
  have hctor : kX.findMethod "<init>" "(Ljava/lang/String;)V" = some P1.m.idx := findMethod_of_methodNamed hP1m hk
  have hsel0 : selectMethod e.platform s.vm P1.m.cls T.fill0 = .method T.fill0 := by
    obtain ⟨c2, r2, m2, q1, q2, q3, q4, -⟩ := Cond.selects_spec (a (.selects cls Bundle.tFill0 Bundle.tFill0) (by simp [Bundle.messageArmAtoms]))
    cases Option.some.inj (q1.symm.trans hfound)
    cases Option.some.inj (q2.symm.trans (State.methodFound?_of_named Y.fill0 (by decide)))
    cases Option.some.inj (q3.symm.trans Y.fill0)
    rw [Launch.admits_selectMethod X.admits]; exact q4
  have hselF : selectMethod e.platform s.vm P1.m.cls T.fill = .method T.fill := by
    obtain ⟨c2, r2, m2, q1, q2, q3, q4, -⟩ := Cond.selects_spec (a (.selects cls Bundle.tFill Bundle.tFill) (by simp [Bundle.messageArmAtoms]))
    cases Option.some.inj (q1.symm.trans hfound)
    cases Option.some.inj (q2.symm.trans (State.methodFound?_of_named Y.fill (by decide)))
    cases Option.some.inj (q3.symm.trans Y.fill)
    rw [Launch.admits_selectMethod X.admits]; exact q4
  obtain ⟨cellS0, hcS0, hiss⟩ := Y.statics
  obtain ⟨u0, hu0⟩ := Cond.staticRefV Y.unassigned L.unassignedStatic L.statics hcS0 hiss (a (.isRef (.static Bundle.tN "UNASSIGNED_STACK" Bundle.steD)) (by simp [Bundle.messageArmAtoms]))
  obtain ⟨sen, hsen⟩ := Cond.staticRefV Y.sentinel L.sentinelStatic L.statics hcS0 hiss (a (.isRef (.static Bundle.tN "SUPPRESSED_SENTINEL" Bundle.listD)) (by simp [Bundle.messageArmAtoms]))
  obtain ⟨ci198, i198, fB, hk198, hg198, ha198, hsB, -, hnB, htB, hffB⟩ := Cond.ownField (t := .object "java/lang/Object") Y.found L.cls (by decide +kernel) (a (.fieldLink Bundle.tN 198 Bundle.tN "backtrace" "Ljava/lang/Object;") (by simp [Bundle.messageArmAtoms])) (a (.lays Bundle.tN Bundle.tN "backtrace" "Ljava/lang/Object;") (by simp [Bundle.messageArmAtoms])) e.platform hpl
  obtain ⟨cellS, hcS', heS, -, hkeep⟩ := X.same.2.2.2.2.2 T.aS cellS0 hcS0
  have hcellS : W.heap[T.aS]? = some cellS := hcS'
  have hout' : ∀ i, (⟨T.aS, i⟩ : Loc) ∉ locs := fun i hmem => by
    have := hlocs _ hmem cellS0 hcS0
    rw [hiss] at this; cases this
  have hknownS : cellS.vm ≠ .unknown := by
    rw [heS]; intro hu
    rw [show cellS0.vm = .unknown from hu] at hiss
    cases hiss
  have hvU : cellS.slots[T.fUnassigned.slot]? = some u0.v := by rw [hkeep _ (hout' _)]; exact hu0
  have hvSen : cellS.slots[T.fSentinel.slot]? = some sen.v := by rw [hkeep _ (hout' _)]; exact hsen
  obtain ⟨iM, hffM⟩ := Y.msg
  obtain ⟨tyC, dC, hdC, hdnC⟩ := Cond.laysAt hfound hk Y.cause (a (.lays cls Bundle.tN "cause" "Ljava/lang/Throwable;") (by simp [Bundle.messageArmAtoms]))
  obtain ⟨tyS, dS, hdS, hdnS⟩ := Cond.laysAt hfound hk Y.stack (a (.lays cls Bundle.tN "stackTrace" Bundle.steD) (by simp [Bundle.messageArmAtoms]))
  obtain ⟨tyP, dP, hdP, hdnP⟩ := Cond.laysAt hfound hk Y.supp (a (.lays cls Bundle.tN "suppressedExceptions" Bundle.listD) (by simp [Bundle.messageArmAtoms]))
  obtain ⟨tyM, dM, hdM, hdnM⟩ := Cond.laysAt hfound hk hffM (a (.lays cls Bundle.tN "detailMessage" "Ljava/lang/String;") (by simp [Bundle.messageArmAtoms]))
  obtain ⟨tyB, dB, hdB, hdnB⟩ := Cond.laysAt hfound hk hffB (a (.lays cls Bundle.tN "backtrace" "Ljava/lang/Object;") (by simp [Bundle.messageArmAtoms]))
  have bC := Cond.laysApart hdB hdC hdnB hdnC (by rw [hnB, Y.causeName]; decide)
  have bS := Cond.laysApart hdB hdS hdnB hdnS (by rw [hnB, Y.stackName]; decide)
  have bP := Cond.laysApart hdB hdP hdnB hdnP (by rw [hnB, Y.suppName]; decide)
  have hbk : ((preparedCellV T.toThrowableT (freshCell P1.m.cls kX) (W.heap.size + 2) u0 sen).withEntry W.cur).slots[fB.slot]? = some .null := by
    have := fresh_default (c := P1.m.cls) tyB
    rw [htB] at this
    simpa [preparedCellV, Cell.setSlot, Cell.withEntry, Array.getElem?_setIfInBounds, bC, bS, bP, bC.symm, bS.symm, bP.symm, defaultValue] using this
  have tkC := Takes.of_laid (v := .ref (W.heap.size + 2)) hk hord tyC (by rw [Y.causeType]; rfl)
  have tkS := Takes.of_laid (v := u0.v) hk hord tyS (by rw [Y.stackType]; exact fits_refV_array _ u0)
  have tkP := Takes.of_laid (v := sen.v) hk hord tyP (by rw [Y.suppType]; exact fits_refV_object _ sen)
  have tkM := Takes.of_laid (v := .ref (W.heap.size + 1)) hk hord tyM (by rw [Y.msgType]; rfl)
  have hskip : SkipFacts T e.platform s (fun u => u) u0 ((preparedCellV T.toThrowableT (freshCell P1.m.cls kX) (W.heap.size + 2) u0 sen).withEntry W.cur) := ⟨{ ci198 := ci198, i198 := i198, fBack := fB }, ⟨hk198, hg198, ha198, hsB⟩, hbk, fun _ _ => rfl⟩
  have h0 : At W g.method c below := by rw [hg]; exact X.here
  obtain ⟨hbeyond, hfreeW⟩ := X.vmMayThrow hsize (.throwNew cls (some text) none) (fun f hf => by cases hf) rfl hRlocals
  have hfr' : W.frames.length + Ps.length + 4 < (e.platform.stackLimits W.me).1 := by have := X.framesAbove hRframes; omega
  have hwd' : (stackUse (.java g :: W.frames.tail)).2 + 13 * Ps.length + 55 ≤ (e.platform.stackLimits W.me).2 := by have := X.stackAbove hsize (K := 13 * Ps.length + 55) (by omega); omega
  have hslots : W.slotsUsed + (stringBytes (stringToUtf16 text)).size + Zs.kS.instanceTypes.size + kX.instanceTypes.size ≤ e.platform.maxSlots := by
    have := X.slotsAbove hRslots
    rw [hn4, hn6]
    omega
  obtain ⟨vm', hW', st⟩ := Steps.vmThrowsMessageColdByV p (s₀ := s) (S := W) (g := g) h0 hexec T L Z LZ M LM X.warmed (t := W.cur) rfl Zs LZs P1 L1 Ps hL hlink1 hlink hsoe hoom hfound hk hinit hord hctor
    (Launch.admits_hotImplicitExceptions X.admits) hbeyond hfreeW htext hlimit hheap (X.cellsAbove hRcells) hslots (hfitv _) (hfitc _)
    (Nn := fun u => u) heapOnly_id (fun _ _ => rfl) (fun _ => rfl) (fun u x y => setCell_twice _ _ _ _) (fun _ => Nat.le_refl _) (cN := ((preparedCellV T.toThrowableT (freshCell P1.m.cls kX) (W.heap.size + 2) u0 sen).withEntry W.cur))
    hsel0 hcellS hknownS hvU tkS (fun _ hu => hu) (fun _ hu => hu) rfl rfl rfl (by simp [preparedCellV, Cell.setSlot, Cell.withEntry]) hskip (fun _ _ hA hW _ hroom _ hrest => L.nativeOff p htr hA hW hroom hrest) hselF hvSen tkC tkP tkM Y.objLocals rfl hfr' hwd'
  rw [plainBareV_eq T.toThrowableT (W.heap.size + 2) u0 sen (.ref (W.heap.size + 1)) W.cur rfl rfl] at st
  obtain ⟨-, -, w3, w4, -, -, -⟩ := withThrown_facts e.platform W Zs text P1.m.cls kX
  have X3 := ((X.pushed (bytesOf Zs.cB (stringToUtf16 text))).pushed (stringAt Zs.cS Zs.kS Zs.fv Zs.fc (stringToUtf16 text) W.heap.size)).pushed (freshCell P1.m.cls kX)
  rw [← withString_eq] at X3
  have X4 := X3.noted hW'
  have ha : (W.heap.size + 2) < ((withThrown W Zs text P1.m.cls kX).setVm vm').heap.size := by show _ < (withThrown W Zs text P1.m.cls kX).heap.size; rw [w3]; omega
  have hcell : ((withThrown W Zs text P1.m.cls kX).setVm vm').heap[(W.heap.size + 2)]? = some (freshCell P1.m.cls kX) := w4
  have X5 := ((((X4.stored hcell T.fCause.slot (.ref (W.heap.size + 2))).storedAgain ha T.fStack.slot u0.v).storedAgain ha T.fSupp.slot sen.v).storedAgain ha T.fStack.slot u0.v).storedAgain ha T.fMsg.slot (.ref (W.heap.size + 1))
  obtain ⟨g₁, hfrM⟩ := X5.frames_eq
  have hU : ((((withThrown W Zs text P1.m.cls kX).setVm vm').setCell (W.heap.size + 2) (plainBareV T.toThrowableT (freshCell P1.m.cls kX) (W.heap.size + 2) u0 sen (.ref (W.heap.size + 1)))).setTop g).pushFrame (.throwing (W.heap.size + 2)) = (((withThrown W Zs text P1.m.cls kX).setVm vm').setCell (W.heap.size + 2) (plainBareV T.toThrowableT (freshCell P1.m.cls kX) (W.heap.size + 2) u0 sen (.ref (W.heap.size + 1)))).setFrames (.throwing (W.heap.size + 2) :: .java g :: below) := by
    rw [State.pushFrame, State.frames_setTop _ hfrM, State.setTop_of_frames _ hfrM, State.setFrames_setFrames]
  have b1 : (bytesOf Zs.cB (stringToUtf16 text)).slots.size = (stringBytes (stringToUtf16 text)).size := by
    rw [(Cell.writeAll_facts _ _).2.2]; simp [bytes0]
  have b2 : (stringAt Zs.cS Zs.kS Zs.fv Zs.fc (stringToUtf16 text) W.heap.size).slots.size = 4 := by simp [string0, Cell.setSlot, hn4]
  have b3 : (freshCell P1.m.cls kX).slots.size = 6 := by simp [hn6]
  rw [b1, b2, b3] at X5
  have e9 : slots + (stringBytes (stringToUtf16 text)).size + 4 + 6 = slots + ((stringBytes (stringToUtf16 text)).size + 4 + 6) := by omega
  rw [e9] at X5
  simp only [List.append_assoc, List.cons_append, List.nil_append] at X5
  refine ⟨((withThrown W Zs text P1.m.cls kX).setVm vm').setCell (W.heap.size + 2) (plainBareV T.toThrowableT (freshCell P1.m.cls kX) (W.heap.size + 2) u0 sen (.ref (W.heap.size + 1))), W.heap.size + 2, _, fun target ht => st _ (by rw [X.tail, ← hU]; exact ht),
    X5.forget (fun y hy => ?_), heapAt_setCell_self _ ha, hfound, rfl⟩
  simp only [List.mem_cons, List.not_mem_nil, or_false] at hy
  have hge : s.heap.size ≤ W.heap.size := X.same.2.1
  rcases hy with rfl | rfl | rfl | rfl | rfl <;> exact Nat.le_trans hge (Nat.le_add_right _ 2)
set_option maxHeartbeats 1000000 in
/-- the machine throws NullPointerException, no traces kept: from its note over the frame g to 'throwing' over the same frame (follows the proof of Stand.vmThrowsNpe, Shelf42/KT2.lean; throwsNpeColdBareVAt, Shelf42/NT91.lean, called) -/
theorem vx_npeAt {p : Program} {l : Launch} {e : Env} {R : Room} {s : State} {m₀ : MethodId} {args : Array Value} {below : List Frame} {meth : Method} {c : Code} {W : State} {locs : List Loc} {cells slots : Nat}
    (X : Stand p l e R s m₀ args below meth c W locs cells slots) (hexec : p.tables.exec = Jvm.exec) (htr : e.platform.stackTraces = false) {n : Nat}
    (h : ∀ a ∈ Bundle.npeArmAtoms n, a.before args s = true)
    (hlocs : ∀ x ∈ locs, ∀ cell, s.heap[x.base]? = some cell → cell.vm.isStatics = false)
    {g : JFrame} (hg : g.method = m₀) (hsize : g.locals.size = c.maxLocals)
    (hRframes : 7 < R.frames) (hRlocals : 2 * g.monitorRoom + (g.stack.map fun v => v.category).sum + 10240 ≤ R.locals)
    (hRcells : cells + 1 ≤ R.cells) (hRslots : slots + n ≤ R.slots) (hlocks : meth.locks = false) :
    ∃ (S : State) (q : Addr) (ce : Cell), (∀ target, Steps p.tables e below ((S.setTop g).pushFrame (.throwing q)) target → Steps p.tables e below ((W.setTop g).pushFrame (.throwNew "java/lang/NullPointerException" none none)) target) ∧
      Stand p l e R s m₀ args below meth c S locs (cells + 1) (slots + n) ∧ S.heap[q]? = some ce ∧ s.vm.findClass "java/lang/NullPointerException" = some ce.cls ∧ ce.vm = .none := by
  have howns : e.platform.frameOwnsMonitors = true := by rw [X.admits.platform]
  have hfin : e.platform.finalization = false := by rw [X.admits.platform]
  have hpl : e.platform.magicAccessors = ({} : Platform).magicAccessors := by rw [X.admits.platform]
  have hpl2 : e.platform.arrayCloneIsPublic = true := by rw [X.admits.platform]
  have a' : ∀ x, x ∈ Bundle.npeArmAtoms n → x.holds args s none s [] = true := fun x hx => h x hx
  obtain ⟨T, Z, L, LZ, Y⟩ := ThrowableC.of_atoms (args := args) howns hfin hpl (fun x hx => h x (by simp [Bundle.npeArmAtoms, hx]))
  obtain ⟨N, LN, hcN, hnNF, hordN, hffS⟩ := NpeC.of_atoms (args := args) hpl hpl2 L Y (fun x hx => h x (by simp [Bundle.npeArmAtoms, hx]))
  obtain ⟨P1, L1, hP1m, hP1s⟩ := PassC.of_atoms (args := args) (s := s) hpl (X := Bundle.nN) (Y := Bundle.rN) (by decide) (by decide) LibCode.NullPointerException.Init0.at_0 LibCode.NullPointerException.Init0.at_1 LibCode.NullPointerException.Init0.at_4 (fun x hx => h x (by simp [Bundle.npeArmAtoms, hx]))
  obtain ⟨PR, LR, hPRm, hPRs⟩ := PassC.of_atoms (args := args) (s := s) hpl (X := Bundle.rN) (Y := Bundle.eN) (by decide) (by decide) LibCode.RuntimeException.Init0.at_0 LibCode.RuntimeException.Init0.at_1 LibCode.RuntimeException.Init0.at_4 (fun x hx => h x (by simp [Bundle.npeArmAtoms, hx]))
  obtain ⟨PE, LEx, hPEm, hPEs⟩ := PassC.of_atoms (args := args) (s := s) hpl (X := Bundle.eN) (Y := Bundle.tN) (by decide) (by decide) LibCode.Exception.Init0.at_0 LibCode.Exception.Init0.at_1 LibCode.Exception.Init0.at_4 (fun x hx => h x (by simp [Bundle.npeArmAtoms, hx]))
  have hfound : s.vm.findClass Bundle.nN = some P1.m.cls := findClass_of_methodNamed hP1m
  have ecls : N.cN = P1.m.cls := Option.some.inj (hcN.symm.trans hfound)
  have hk : s.vm.classes[P1.m.cls]? = some N.kN := by rw [← ecls]; exact LN.cls
  have hinit := Cond.initialized_spec hfound hk (a' (.initialized Bundle.nN) (by simp [Bundle.npeArmAtoms]))
  have hctor : N.kN.findMethod "<init>" "()V" = some P1.m.idx := findMethod_of_methodNamed hP1m hk
  obtain ⟨c1, k1, hc1, hk1, -, -, -, hn⟩ := Cond.instantiable_spec (a' (.instantiable Bundle.nN n) (by simp [Bundle.npeArmAtoms]))
  cases Option.some.inj (hc1.symm.trans hfound)
  cases Option.some.inj (hk1.symm.trans hk)
  have hfsz : (freshCell P1.m.cls N.kN).slots.size = n := by simp [hn]
  have hlink1 : P1.sup = PR.m := Option.some.inj (hP1s.symm.trans hPRm)
  have hlinkR : PR.sup = PE.m := Option.some.inj (hPRs.symm.trans hPEm)
  have hlinkE : PE.sup = Z.m T.toThrowableT := Option.some.inj (hPEs.symm.trans Y.init0)
  have hLs : ∀ P, P ∈ [PR, PE] → P.Links0 e.platform s := fun P hP => by
    simp only [List.mem_cons, List.not_mem_nil, or_false] at hP
    rcases hP with rfl | rfl
    · exact LR
    · exact LEx
  have hsel0 : selectMethod e.platform s.vm P1.m.cls T.fill0 = .method T.fill0 := by
    obtain ⟨c2, r2, m2, q1, q2, q3, q4, -⟩ := Cond.selects_spec (a' (.selects Bundle.nN Bundle.tFill0 Bundle.tFill0) (by simp [Bundle.npeArmAtoms]))
    cases Option.some.inj (q1.symm.trans hfound)
    cases Option.some.inj (q2.symm.trans (State.methodFound?_of_named Y.fill0 (by decide)))
    cases Option.some.inj (q3.symm.trans Y.fill0)
    rw [Launch.admits_selectMethod X.admits]; exact q4
  have hselF : selectMethod e.platform s.vm P1.m.cls T.fill = .method N.fill := by
    obtain ⟨c2, r2, m2, q1, q2, q3, q4, -⟩ := Cond.selects_spec (a' (.selects Bundle.nN Bundle.tFill Bundle.nFill) (by simp [Bundle.npeArmAtoms]))
    cases Option.some.inj (q1.symm.trans hfound)
    cases Option.some.inj (q2.symm.trans (State.methodFound?_of_named Y.fill (by decide)))
    cases Option.some.inj (q3.symm.trans hnNF)
    rw [Launch.admits_selectMethod X.admits]; exact q4
  obtain ⟨cellS0, hcS0, hiss⟩ := Y.statics
  obtain ⟨u0, hu0⟩ := Cond.staticRefV Y.unassigned L.unassignedStatic L.statics hcS0 hiss (a' (.isRef (.static Bundle.tN "UNASSIGNED_STACK" Bundle.steD)) (by simp [Bundle.npeArmAtoms]))
  obtain ⟨sen, hsen⟩ := Cond.staticRefV Y.sentinel L.sentinelStatic L.statics hcS0 hiss (a' (.isRef (.static Bundle.tN "SUPPRESSED_SENTINEL" Bundle.listD)) (by simp [Bundle.npeArmAtoms]))
  obtain ⟨ci198, i198, fB, hk198, hg198, ha198, hsB, -, hnB, htB, hffB⟩ := Cond.ownField (t := .object "java/lang/Object") Y.found L.cls (by decide +kernel) (a' (.fieldLink Bundle.tN 198 Bundle.tN "backtrace" Bundle.objD) (by simp [Bundle.npeArmAtoms])) (a' (.lays Bundle.tN Bundle.tN "backtrace" Bundle.objD) (by simp [Bundle.npeArmAtoms])) e.platform hpl
  obtain ⟨cellS, hcS', heS, -, hkeep⟩ := X.same.2.2.2.2.2 T.aS cellS0 hcS0
  have hcellS : W.heap[T.aS]? = some cellS := hcS'
  have hout' : ∀ i, (⟨T.aS, i⟩ : Loc) ∉ locs := fun i hmem => by
    have := hlocs _ hmem cellS0 hcS0
    rw [hiss] at this; cases this
  have hknownS : cellS.vm ≠ .unknown := by
    rw [heS]; intro hu
    rw [show cellS0.vm = .unknown from hu] at hiss
    cases hiss
  have hvU : cellS.slots[T.fUnassigned.slot]? = some u0.v := by rw [hkeep _ (hout' _)]; exact hu0
  have hvSen : cellS.slots[T.fSentinel.slot]? = some sen.v := by rw [hkeep _ (hout' _)]; exact hsen
  obtain ⟨tyC, dC, hdC, hdnC⟩ := Cond.laysAt hfound hk Y.cause (a' (.lays Bundle.nN Bundle.tN "cause" "Ljava/lang/Throwable;") (by simp [Bundle.npeArmAtoms]))
  obtain ⟨tyS, dS, hdS, hdnS⟩ := Cond.laysAt hfound hk Y.stack (a' (.lays Bundle.nN Bundle.tN "stackTrace" Bundle.steD) (by simp [Bundle.npeArmAtoms]))
  obtain ⟨tyP, dP, hdP, hdnP⟩ := Cond.laysAt hfound hk Y.supp (a' (.lays Bundle.nN Bundle.tN "suppressedExceptions" Bundle.listD) (by simp [Bundle.npeArmAtoms]))
  obtain ⟨tyX, dX, hdX, hdnX⟩ := Cond.laysAt hfound hk hffS (a' (.lays Bundle.nN Bundle.nN "extendedMessageState" "I") (by simp [Bundle.npeArmAtoms, Bundle.npeAtoms]))
  obtain ⟨hnX, htX⟩ := State.fieldFound?_type hffS (t := .int) (by decide +kernel)
  have xC := Cond.laysApart hdC hdX hdnC hdnX (by rw [hnX, Y.causeName]; decide)
  have xS := Cond.laysApart hdS hdX hdnS hdnX (by rw [hnX, Y.stackName]; decide)
  have xP := Cond.laysApart hdP hdX hdnP hdnX (by rw [hnX, Y.suppName]; decide)
  have hv0 : (freshCell P1.m.cls N.kN).slots[N.fState.slot]? = some (.int 0) := by
    have := fresh_default (c := P1.m.cls) tyX
    rw [htX] at this; exact this
  obtain ⟨tyB, dB, hdB, hdnB⟩ := Cond.laysAt hfound hk hffB (a' (.lays Bundle.nN Bundle.tN "backtrace" Bundle.objD) (by simp [Bundle.npeArmAtoms]))
  have bC := Cond.laysApart hdB hdC hdnB hdnC (by rw [hnB, Y.causeName]; decide)
  have bS := Cond.laysApart hdB hdS hdnB hdnS (by rw [hnB, Y.stackName]; decide)
  have bP := Cond.laysApart hdB hdP hdnB hdnP (by rw [hnB, Y.suppName]; decide)
  have bX := Cond.laysApart hdB hdX hdnB hdnX (by rw [hnB, hnX]; decide)
  have hbk : ((npeCell N.toNpeT (preparedCellV T.toThrowableT (freshCell P1.m.cls N.kN) W.heap.size u0 sen) W.cur).withEntry W.cur).slots[fB.slot]? = some .null := by
    have := fresh_default (c := P1.m.cls) tyB
    rw [htB] at this
    simpa [npeCell, preparedCellV, Cell.setSlot, Cell.withEntry, Array.getElem?_setIfInBounds, bC, bS, bP, bX, bC.symm, bS.symm, bP.symm, bX.symm, defaultValue] using this
  have tkC := Takes.of_laid (v := .ref W.heap.size) hk hordN tyC (by rw [Y.causeType]; rfl)
  have tkS := Takes.of_laid (v := u0.v) hk hordN tyS (by rw [Y.stackType]; exact fits_refV_array _ u0)
  have tkP := Takes.of_laid (v := sen.v) hk hordN tyP (by rw [Y.suppType]; exact fits_refV_object _ sen)
  have tkX := Takes.of_laid (v := .int 1) hk hordN tyX (by rw [htX]; rfl)
  have hskip : SkipFacts T e.platform s (fun u => u) u0 ((npeCell N.toNpeT (preparedCellV T.toThrowableT (freshCell P1.m.cls N.kN) W.heap.size u0 sen) W.cur).withEntry W.cur) := ⟨{ ci198 := ci198, i198 := i198, fBack := fB }, ⟨hk198, hg198, ha198, hsB⟩, hbk, fun _ _ => rfl⟩
  obtain ⟨vm', X3, st, -⟩ := X.throwsNpeColdBareVAt hexec hg hsize T L Z LZ N LN P1 L1 [PR, PE] hLs hlink1 ⟨hlinkR, hlinkE, trivial⟩ hfound hk hinit hordN hctor hsel0 hselF hcellS hknownS hvU hvSen
    hv0 xC xS xP tkC tkS tkP tkX Y.objLocals hskip (fun _ _ hA hW _ hroom _ hrest => L.nativeOff p htr hA hW hroom hrest) (by simpa using hRframes) hRlocals (by simp) hRcells (by rw [hn]; exact hRslots)
  have hlt : W.heap.size < ((W.pushCell (freshCell P1.m.cls N.kN)).setVm vm').heap.size := by
    show W.heap.size < (W.pushCell (freshCell P1.m.cls N.kN)).heap.size
    rw [State.heap_size_pushCell]; omega
  rw [hfsz] at X3
  obtain ⟨g₁, hfrM⟩ := X3.frames_eq
  have hU : ((((W.pushCell (freshCell P1.m.cls N.kN)).setVm vm').setCell W.heap.size (npeBareV T.toThrowableT N.toNpeT (freshCell P1.m.cls N.kN) W.heap.size u0 sen)).setTop g).pushFrame (.throwing W.heap.size) = (((W.pushCell (freshCell P1.m.cls N.kN)).setVm vm').setCell W.heap.size (npeBareV T.toThrowableT N.toNpeT (freshCell P1.m.cls N.kN) W.heap.size u0 sen)).setFrames (.throwing W.heap.size :: .java g :: below) := by
    rw [State.pushFrame, State.frames_setTop _ hfrM, State.setTop_of_frames _ hfrM, State.setFrames_setFrames]
  refine ⟨_, W.heap.size, _, fun target ht => st.trans (by rw [← hU]; exact ht), X3.forget (fun y hy => ?_), heapAt_setCell_self _ hlt, hfound, rfl⟩
  simp only [List.mem_cons, List.not_mem_nil, or_false] at hy
  have hge : s.heap.size ≤ W.heap.size := X.same.2.1
  rcases hy with rfl | rfl | rfl | rfl | rfl <;> exact hge
/-- the words of a machine's NullPointerException, but the four that speak of the heap -/
def vx_atN (n : Nat) : List Cond := (Bundle.npeArmAtoms n).filter vx_no
/-- the words of a machine's throw with a message, but the four that speak of the heap -/
def vx_atM (X : String) (names : List String) : List Cond := (Bundle.messageArmAtoms X names).filter vx_no
section
variable {p : Program} {l : Launch} {e : Env} {R : Room} {s : State} {m : MethodId} {args : Array Value} {below : List Frame} {meth : Method} {c : Code} {H : Heap} {locs : List Loc} {cells slots : Nat}
/-- a frame seen from a rebased start, seen from the first start again -/
theorem vx_back9 {T S : State} {R' : Room} {k n : Nat} (X : Stand p l e R s m args below meth c T locs cells slots) (Y : Stand p l e R' ((T.setVm s.vm).setFrames (.invoking m args :: below)) m args below meth c T [] 0 0) (Z : Stand p l e R' ((T.setVm s.vm).setFrames (.invoking m args :: below)) m args below meth c S [] k n) :
    Stand p l e R s m args below meth c S locs (cells + k) (slots + n) := by
  have hW0 : s.WarmedH ((T.setVm s.vm).setFrames (.invoking m args :: below)).vm := State.WarmedH.refl s
  refine { admits := X.admits, cas := X.cas, clock := X.clock, frames := X.frames, room := X.room, hears := X.hears, method := X.method, code := X.code, here := Z.here, tail := Z.tail, warmed := State.WarmedH.trans hW0 Z.warmed, limits := Z.limits.trans (Y.limits.symm.trans X.limits), bytes := Z.bytes.trans (Y.bytes.symm.trans X.bytes), same := ?_ }
  obtain ⟨e1, e2⟩ := Z.same
  rw [State.setFrames_setFrames] at e1
  have h2 : (T.setVm s.vm).sameButNew (S.setVm s.vm) [] k n := ⟨e1, e2⟩
  have h3 := X.same.trans h2
  rw [List.append_nil] at h3
  exact h3
/-- from the machine's note that E is thrown here with this text -/
def vx_Note (p : Program) (l : Launch) (e : Env) (R : Room) (s : State) (m : MethodId) (args : Array Value) (below : List Frame) (meth : Method) (c : Code) (H : Heap) (locs : List Loc) (cells slots : Nat) (Q : State → Prop) (g : JFrame) (E text : String) : Prop :=
  ∀ T : State, T.heap = H → Stand p l e R s m args below meth c T locs cells slots → ∃ t, Steps p.tables e below ((T.setTop g).pushFrame (.throwNew E (some text) none)) t ∧ Q t
theorem vx_vm {pc : Nat} {ls : Array Slot} {rest : List Value} {Q : State → Prop} (hexec : p.tables.exec = Jvm.exec) (hl : l.stackTraces = false) {cls text : String} {names : List String} {nb : Nat} {A : Nat → Prop}
    (hcls : Bundle.fit cls = true) (hnames : ∀ n ∈ names, Bundle.fit n = true) (hsoe : (cls == "java/lang/StackOverflowError") = false) (hoom : (cls == "java/lang/OutOfMemoryError") = false)
    (hat : ∀ w ∈ vx_atM cls names, w.before args s = true) (hgood : ∀ w ∈ vx_atM cls names, vx_ot w = true)
    (hU : vx_Zq Bundle.tN "UNASSIGNED_STACK" Bundle.steD A s s.heap) (hN : vx_Zq Bundle.tN "SUPPRESSED_SENTINEL" Bundle.listD A s s.heap) (hS : va_S A s.heap H locs) (hsize : ls.size = c.maxLocals)
    (htext : (text == notModelled) = false) (hnb : (stringBytes (stringToUtf16 text)).size ≤ nb) (hnb1 : nb ≤ 1000)
    (hRframes : names.length + 4 < R.frames) (hRlocals : (rest.map fun v => v.category).sum + 10240 ≤ R.locals) (hshort : 13 * names.length + 55 ≤ 10240) (hRcells : cells + 3 ≤ R.cells) (hRslots : slots + (nb + 10) ≤ R.slots) (hlocks : meth.locks = false)
    (k : ∀ (H1 : Heap) (q9 : Addr) (ce : Cell), H.size ≤ H1.size → (∀ q : Nat, q < H.size → H1[q]? = H[q]?) → va_S A s.heap H1 locs → H1[q9]? = some ce → ce.vm = .none → s.vm.findClass cls = some ce.cls → vx_W p l e R s m args below meth c H1 locs (cells + 3) (slots + (nb + 10)) Q (F0 m pc ls rest) q9) :
    vx_Note p l e R s m args below meth c H locs cells slots Q (F0 m pc ls rest) cls text := by
  intro T hT X
  have htr : e.platform.stackTraces = false := (show e.platform.stackTraces = l.stackTraces by rw [X.admits.platform]).trans hl
  have Y := vx_rebase X (R' := { frames := R.frames, locals := R.locals, cells := 3, slots := nb + 10 }) (Nat.le_refl _) (Nat.le_refl _) hRcells hRslots
  have hhp : ((T.setVm s.vm).setFrames (.invoking m args :: below)).heap = H := hT
  have hW0 : s.WarmedH ((T.setVm s.vm).setFrames (.invoking m args :: below)).vm := State.WarmedH.refl s
  have hat' : ∀ w ∈ vx_atM cls names, w.before args ((T.setVm s.vm).setFrames (.invoking m args :: below)) = true := fun w hw => vx_ot_at hW0 rfl (hgood w hw) (hat w hw)
  have hU' : vx_Zq Bundle.tN "UNASSIGNED_STACK" Bundle.steD A ((T.setVm s.vm).setFrames (.invoking m args :: below)) ((T.setVm s.vm).setFrames (.invoking m args :: below)).heap := by rw [hhp]; exact vx_Zq.moved hW0.alike (hU.kept hS.2.1)
  have hN' : vx_Zq Bundle.tN "SUPPRESSED_SENTINEL" Bundle.listD A ((T.setVm s.vm).setFrames (.invoking m args :: below)) ((T.setVm s.vm).setFrames (.invoking m args :: below)).heap := by rw [hhp]; exact vx_Zq.moved hW0.alike (hN.kept hS.2.1)
  obtain ⟨S, q, ce, st, Z, hce, hcl', hv⟩ := vx_vmAt Y hexec htr (cls := cls) (names := names) (text := text) hcls hnames hsoe hoom (vx_own hat' (vx_isRefq hU'.1) (vx_isRefq hN'.1) hU'.2.word hN'.2.word) (fun x hx => nomatch hx) htext
    (by rw [Launch.admits_arrayLengthLimit X.admits]; omega) (by rw [Launch.admits_maxHeapBytes X.admits]; simp only [componentBytes]; omega)
    (g := F0 m pc ls rest) rfl hsize hRframes (by show 2 * 0 + (rest.map fun v => v.category).sum + 10240 ≤ R.locals; omega) hshort (by show 0 + 3 ≤ 3; omega) (by show 0 + (_ + 4 + 6) ≤ nb + 10; omega) hlocks
  obtain ⟨f1, f2⟩ := vx_frame Z.same
  have f1' : H.size ≤ S.heap.size := by rw [← hT]; exact f1
  have f2' : ∀ q : Nat, q < H.size → S.heap[q]? = H[q]? := fun q hq => by
    rw [← hT]
    exact f2 q (by rw [← hT] at hq; exact hq) (fun z hz => nomatch hz)
  have X5 := vx_back9 X Y Z
  have X6 : Stand p l e R s m args below meth c S locs (cells + 3) (slots + (nb + 10)) := { X5 with same := X5.same.mono (by omega) (by omega) }
  obtain ⟨t, a1, b1⟩ := k S.heap q ce f1' f2' ⟨Nat.le_trans hS.1 f1', fun q h1 h2 => (f2' q (Nat.lt_of_lt_of_le h1 hS.1)).trans (hS.2.1 q h1 h2), hS.2.2⟩ hce hv hcl' S rfl X6
  exact ⟨t, st t a1, b1⟩
/-- from the machine's note that NullPointerException is thrown here -/
def vx_NoteN (p : Program) (l : Launch) (e : Env) (R : Room) (s : State) (m : MethodId) (args : Array Value) (below : List Frame) (meth : Method) (c : Code) (H : Heap) (locs : List Loc) (cells slots : Nat) (Q : State → Prop) (g : JFrame) : Prop :=
  ∀ T : State, T.heap = H → Stand p l e R s m args below meth c T locs cells slots → ∃ t, Steps p.tables e below ((T.setTop g).pushFrame (.throwNew "java/lang/NullPointerException" none none)) t ∧ Q t
theorem vx_npe {pc : Nat} {ls : Array Slot} {rest : List Value} {Q : State → Prop} (hexec : p.tables.exec = Jvm.exec) (hl : l.stackTraces = false) {nb : Nat} {A : Nat → Prop}
    (hat : ∀ w ∈ vx_atN nb, w.before args s = true) (hgood : ∀ w ∈ vx_atN nb, vx_ot w = true)
    (hU : vx_Zq Bundle.tN "UNASSIGNED_STACK" Bundle.steD A s s.heap) (hN : vx_Zq Bundle.tN "SUPPRESSED_SENTINEL" Bundle.listD A s s.heap) (hS : va_S A s.heap H locs) (hsize : ls.size = c.maxLocals)
    (hRframes : 7 < R.frames) (hRlocals : (rest.map fun v => v.category).sum + 10240 ≤ R.locals) (hRcells : cells + 1 ≤ R.cells) (hRslots : slots + nb ≤ R.slots) (hlocks : meth.locks = false)
    (k : ∀ (H1 : Heap) (q9 : Addr) (ce : Cell), H.size ≤ H1.size → (∀ q : Nat, q < H.size → H1[q]? = H[q]?) → va_S A s.heap H1 locs → H1[q9]? = some ce → ce.vm = .none → s.vm.findClass "java/lang/NullPointerException" = some ce.cls → vx_W p l e R s m args below meth c H1 locs (cells + 1) (slots + nb) Q (F0 m pc ls rest) q9) :
    vx_NoteN p l e R s m args below meth c H locs cells slots Q (F0 m pc ls rest) := by
  intro T hT X
  have htr : e.platform.stackTraces = false := (show e.platform.stackTraces = l.stackTraces by rw [X.admits.platform]).trans hl
  have Y := vx_rebase X (R' := { frames := R.frames, locals := R.locals, cells := 1, slots := nb }) (Nat.le_refl _) (Nat.le_refl _) hRcells hRslots
  have hhp : ((T.setVm s.vm).setFrames (.invoking m args :: below)).heap = H := hT
  have hW0 : s.WarmedH ((T.setVm s.vm).setFrames (.invoking m args :: below)).vm := State.WarmedH.refl s
  have hat' : ∀ w ∈ vx_atN nb, w.before args ((T.setVm s.vm).setFrames (.invoking m args :: below)) = true := fun w hw => vx_ot_at hW0 rfl (hgood w hw) (hat w hw)
  have hU' : vx_Zq Bundle.tN "UNASSIGNED_STACK" Bundle.steD A ((T.setVm s.vm).setFrames (.invoking m args :: below)) ((T.setVm s.vm).setFrames (.invoking m args :: below)).heap := by rw [hhp]; exact vx_Zq.moved hW0.alike (hU.kept hS.2.1)
  have hN' : vx_Zq Bundle.tN "SUPPRESSED_SENTINEL" Bundle.listD A ((T.setVm s.vm).setFrames (.invoking m args :: below)) ((T.setVm s.vm).setFrames (.invoking m args :: below)).heap := by rw [hhp]; exact vx_Zq.moved hW0.alike (hN.kept hS.2.1)
  obtain ⟨S, q, ce, st, Z, hce, hcl', hv⟩ := vx_npeAt Y hexec htr (n := nb) (vx_own hat' (vx_isRefq hU'.1) (vx_isRefq hN'.1) hU'.2.word hN'.2.word) (fun x hx => nomatch hx)
    (g := F0 m pc ls rest) rfl hsize hRframes (by show 2 * 0 + (rest.map fun v => v.category).sum + 10240 ≤ R.locals; omega) (by show 0 + 1 ≤ 1; omega) (by show 0 + nb ≤ nb; omega) hlocks
  obtain ⟨f1, f2⟩ := vx_frame Z.same
  have f1' : H.size ≤ S.heap.size := by rw [← hT]; exact f1
  have f2' : ∀ q : Nat, q < H.size → S.heap[q]? = H[q]? := fun q hq => by
    rw [← hT]
    exact f2 q (by rw [← hT] at hq; exact hq) (fun z hz => nomatch hz)
  have X5 := vx_back9 X Y Z
  have X6 : Stand p l e R s m args below meth c S locs (cells + 1) (slots + nb) := { X5 with same := X5.same.mono (by omega) (by omega) }
  obtain ⟨t, a1, b1⟩ := k S.heap q ce f1' f2' ⟨Nat.le_trans hS.1 f1', fun q h1 h2 => (f2' q (Nat.lt_of_lt_of_le h1 hS.1)).trans (hS.2.1 q h1 h2), hS.2.2⟩ hce hv hcl' S rfl X6
  exact ⟨t, st t a1, b1⟩
variable {Q : State → Prop} {cc : ByteArray} {pc : Nat} {ls : Array Slot} {rest : List Value}
theorem vx_idivZ (hexec : p.tables.exec = Jvm.exec) (hb : c.code = cc) {a b : Int32} (h0 : b = 0) (d : decode cc pc = .ok (.idiv, 1)) (k : vx_Note p l e R s m args below meth c H locs cells slots Q (F0 m pc ls rest) "java/lang/ArithmeticException" "/ by zero") :
    W p l e R s m args below meth c H locs cells slots Q (F0 m pc ls (.int b :: .int a :: rest)) := by
  intro T hT X
  obtain ⟨t, st, q⟩ := k T hT X
  exact ⟨t, X.idivZero hexec (g := F0 m pc ls (.int b :: .int a :: rest)) rfl (a := a) (rest := rest) (by rw [h0]) (by rw [hb]; exact d) t st, q⟩
theorem vx_iremZ (hexec : p.tables.exec = Jvm.exec) (hb : c.code = cc) {a b : Int32} (h0 : b = 0) (d : decode cc pc = .ok (.irem, 1)) (k : vx_Note p l e R s m args below meth c H locs cells slots Q (F0 m pc ls rest) "java/lang/ArithmeticException" "/ by zero") :
    W p l e R s m args below meth c H locs cells slots Q (F0 m pc ls (.int b :: .int a :: rest)) := by
  intro T hT X
  obtain ⟨t, st, q⟩ := k T hT X
  exact ⟨t, X.iremZero hexec (g := F0 m pc ls (.int b :: .int a :: rest)) rfl (a := a) (rest := rest) (by rw [h0]) (by rw [hb]; exact d) t st, q⟩
theorem vx_ldivZ (hexec : p.tables.exec = Jvm.exec) (hb : c.code = cc) {a b : Int64} (h0 : b = 0) (d : decode cc pc = .ok (.ldiv, 1)) (k : vx_Note p l e R s m args below meth c H locs cells slots Q (F0 m pc ls rest) "java/lang/ArithmeticException" "/ by zero") :
    W p l e R s m args below meth c H locs cells slots Q (F0 m pc ls (.long b :: .long a :: rest)) := by
  intro T hT X
  obtain ⟨t, st, q⟩ := k T hT X
  exact ⟨t, X.ldivZero hexec (g := F0 m pc ls (.long b :: .long a :: rest)) rfl (a := a) (rest := rest) (by rw [h0]) (by rw [hb]; exact d) t st, q⟩
theorem vx_lremZ (hexec : p.tables.exec = Jvm.exec) (hb : c.code = cc) {a b : Int64} (h0 : b = 0) (d : decode cc pc = .ok (.lrem, 1)) (k : vx_Note p l e R s m args below meth c H locs cells slots Q (F0 m pc ls rest) "java/lang/ArithmeticException" "/ by zero") :
    W p l e R s m args below meth c H locs cells slots Q (F0 m pc ls (.long b :: .long a :: rest)) := by
  intro T hT X
  obtain ⟨t, st, q⟩ := k T hT X
  exact ⟨t, X.lremZero hexec (g := F0 m pc ls (.long b :: .long a :: rest)) rfl (a := a) (rest := rest) (by rw [h0]) (by rw [hb]; exact d) t st, q⟩
theorem vx_ialdZ {D : va_G} {cl : List vw_C} {ws : va_W} {tys : List (ClassId × FieldType)} {a : Nat} (hexec : p.tables.exec = Jvm.exec) (hb : c.code = cc) (hK : va_K D cl tys s) (hP : va_P D cl ws H) (q0 t0 : Nat) {cA : ClassId} {n : Nat} {f : Nat → Int32} (ha : ws[q0]? = some (a, .inl (cA, n, .inl f))) (ht : tys[t0]? = some (cA, .int)) {i : Int32} (hout : ¬ vp_in i n) (hdg : decode cc pc = .ok (.iaload, 1))
    (k : ∀ tx : String, tx = (toString "Index " ++ toString i ++ toString " out of bounds for length " ++ toString n : String) → vx_Note p l e R s m args below meth c H locs cells slots Q (F0 m pc ls rest) "java/lang/ArrayIndexOutOfBoundsException" tx) : W p l e R s m args below meth c H locs cells slots Q (F0 m pc ls (.int i :: .ref a :: rest)) := by
  intro T hT X
  obtain ⟨t, st, q⟩ := k _ rfl T hT X
  refine ⟨t, ?_, q⟩
  have h1 := X.ialoadOut hexec (by rw [hT]; exact hP q0 _ ha) ((hK.2 t0 _ ht).1 n (fun j => .int (f j))) (j := i) (by show (i < 0 ∨ (arrV _ _ _).slots.size ≤ _); rw [arrV_size]; exact Classical.byContradiction hout) (g := F0 m pc ls (.int i :: .ref a :: rest)) rfl (rest := rest) rfl (by rw [hb]; exact hdg) t
  simp only [arrV_size] at h1
  exact h1 st
theorem vx_iastZ {D : va_G} {cl : List vw_C} {ws : va_W} {tys : List (ClassId × FieldType)} {a : Nat} (hexec : p.tables.exec = Jvm.exec) (hb : c.code = cc) (hK : va_K D cl tys s) (hP : va_P D cl ws H) (q0 t0 : Nat) {cA : ClassId} {n : Nat} {f : Nat → Int32} (ha : ws[q0]? = some (a, .inl (cA, n, .inl f))) (ht : tys[t0]? = some (cA, .int)) {i : Int32} {x : Int32} (hout : ¬ vp_in i n) (hdg : decode cc pc = .ok (.iastore, 1))
    (k : ∀ tx : String, tx = (toString "Index " ++ toString i ++ toString " out of bounds for length " ++ toString n : String) → vx_Note p l e R s m args below meth c H locs cells slots Q (F0 m pc ls rest) "java/lang/ArrayIndexOutOfBoundsException" tx) : W p l e R s m args below meth c H locs cells slots Q (F0 m pc ls (.int x :: .int i :: .ref a :: rest)) := by
  intro T hT X
  obtain ⟨t, st, q⟩ := k _ rfl T hT X
  refine ⟨t, ?_, q⟩
  have h1 := X.iastoreOut hexec (by rw [hT]; exact hP q0 _ ha) ((hK.2 t0 _ ht).1 n (fun j => .int (f j))) (j := i) (by show (i < 0 ∨ (arrV _ _ _).slots.size ≤ _); rw [arrV_size]; exact Classical.byContradiction hout) (g := F0 m pc ls (.int x :: .int i :: .ref a :: rest)) rfl (rest := rest) rfl (by rw [hb]; exact hdg) t
  simp only [arrV_size] at h1
  exact h1 st
theorem vx_baldZ {D : va_G} {cl : List vw_C} {ws : va_W} {tys : List (ClassId × FieldType)} {a : Nat} (hexec : p.tables.exec = Jvm.exec) (hb : c.code = cc) (hK : va_K D cl tys s) (hP : va_P D cl ws H) (q0 t0 : Nat) {cA : ClassId} {n : Nat} {f : Nat → Int32} (ha : ws[q0]? = some (a, .inl (cA, n, .inl f))) (ht : tys[t0]? = some (cA, .byte)) {i : Int32} (hout : ¬ vp_in i n) (hdg : decode cc pc = .ok (.baload, 1))
    (k : ∀ tx : String, tx = (toString "Index " ++ toString i ++ toString " out of bounds for length " ++ toString n : String) → vx_Note p l e R s m args below meth c H locs cells slots Q (F0 m pc ls rest) "java/lang/ArrayIndexOutOfBoundsException" tx) : W p l e R s m args below meth c H locs cells slots Q (F0 m pc ls (.int i :: .ref a :: rest)) := by
  intro T hT X
  obtain ⟨t, st, q⟩ := k _ rfl T hT X
  refine ⟨t, ?_, q⟩
  have h1 := X.baloadOut hexec (by rw [hT]; exact hP q0 _ ha) ((hK.2 t0 _ ht).1 n (fun j => .int (f j))) (j := i) (by show (i < 0 ∨ (arrV _ _ _).slots.size ≤ _); rw [arrV_size]; exact Classical.byContradiction hout) (g := F0 m pc ls (.int i :: .ref a :: rest)) rfl (rest := rest) rfl (by rw [hb]; exact hdg) t
  simp only [arrV_size] at h1
  exact h1 st
theorem vx_bastZ {D : va_G} {cl : List vw_C} {ws : va_W} {tys : List (ClassId × FieldType)} {a : Nat} (hexec : p.tables.exec = Jvm.exec) (hb : c.code = cc) (hK : va_K D cl tys s) (hP : va_P D cl ws H) (q0 t0 : Nat) {cA : ClassId} {n : Nat} {f : Nat → Int32} (ha : ws[q0]? = some (a, .inl (cA, n, .inl f))) (ht : tys[t0]? = some (cA, .byte)) {i : Int32} {x : Int32} (hout : ¬ vp_in i n) (hdg : decode cc pc = .ok (.bastore, 1))
    (k : ∀ tx : String, tx = (toString "Index " ++ toString i ++ toString " out of bounds for length " ++ toString n : String) → vx_Note p l e R s m args below meth c H locs cells slots Q (F0 m pc ls rest) "java/lang/ArrayIndexOutOfBoundsException" tx) : W p l e R s m args below meth c H locs cells slots Q (F0 m pc ls (.int x :: .int i :: .ref a :: rest)) := by
  intro T hT X
  obtain ⟨t, st, q⟩ := k _ rfl T hT X
  refine ⟨t, ?_, q⟩
  have h1 := X.bastoreOut hexec (by rw [hT]; exact hP q0 _ ha) ((hK.2 t0 _ ht).1 n (fun j => .int (f j))) (j := i) (by show (i < 0 ∨ (arrV _ _ _).slots.size ≤ _); rw [arrV_size]; exact Classical.byContradiction hout) (g := F0 m pc ls (.int x :: .int i :: .ref a :: rest)) rfl (rest := rest) rfl (by rw [hb]; exact hdg) t
  simp only [arrV_size] at h1
  exact h1 st
theorem vx_zaldZ {D : va_G} {cl : List vw_C} {ws : va_W} {tys : List (ClassId × FieldType)} {a : Nat} (hexec : p.tables.exec = Jvm.exec) (hb : c.code = cc) (hK : va_K D cl tys s) (hP : va_P D cl ws H) (q0 t0 : Nat) {cA : ClassId} {n : Nat} {f : Nat → Int32} (ha : ws[q0]? = some (a, .inl (cA, n, .inl f))) (ht : tys[t0]? = some (cA, .boolean)) {i : Int32} (hout : ¬ vp_in i n) (hdg : decode cc pc = .ok (.baload, 1))
    (k : ∀ tx : String, tx = (toString "Index " ++ toString i ++ toString " out of bounds for length " ++ toString n : String) → vx_Note p l e R s m args below meth c H locs cells slots Q (F0 m pc ls rest) "java/lang/ArrayIndexOutOfBoundsException" tx) : W p l e R s m args below meth c H locs cells slots Q (F0 m pc ls (.int i :: .ref a :: rest)) := by
  intro T hT X
  obtain ⟨t, st, q⟩ := k _ rfl T hT X
  refine ⟨t, ?_, q⟩
  have h1 := X.baloadOut hexec (by rw [hT]; exact hP q0 _ ha) ((hK.2 t0 _ ht).1 n (fun j => .int (f j))) (j := i) (by show (i < 0 ∨ (arrV _ _ _).slots.size ≤ _); rw [arrV_size]; exact Classical.byContradiction hout) (g := F0 m pc ls (.int i :: .ref a :: rest)) rfl (rest := rest) rfl (by rw [hb]; exact hdg) t
  simp only [arrV_size] at h1
  exact h1 st
theorem vx_zastZ {D : va_G} {cl : List vw_C} {ws : va_W} {tys : List (ClassId × FieldType)} {a : Nat} (hexec : p.tables.exec = Jvm.exec) (hb : c.code = cc) (hK : va_K D cl tys s) (hP : va_P D cl ws H) (q0 t0 : Nat) {cA : ClassId} {n : Nat} {f : Nat → Int32} (ha : ws[q0]? = some (a, .inl (cA, n, .inl f))) (ht : tys[t0]? = some (cA, .boolean)) {i : Int32} {x : Int32} (hout : ¬ vp_in i n) (hdg : decode cc pc = .ok (.bastore, 1))
    (k : ∀ tx : String, tx = (toString "Index " ++ toString i ++ toString " out of bounds for length " ++ toString n : String) → vx_Note p l e R s m args below meth c H locs cells slots Q (F0 m pc ls rest) "java/lang/ArrayIndexOutOfBoundsException" tx) : W p l e R s m args below meth c H locs cells slots Q (F0 m pc ls (.int x :: .int i :: .ref a :: rest)) := by
  intro T hT X
  obtain ⟨t, st, q⟩ := k _ rfl T hT X
  refine ⟨t, ?_, q⟩
  have h1 := X.bastoreOut hexec (by rw [hT]; exact hP q0 _ ha) ((hK.2 t0 _ ht).1 n (fun j => .int (f j))) (j := i) (by show (i < 0 ∨ (arrV _ _ _).slots.size ≤ _); rw [arrV_size]; exact Classical.byContradiction hout) (g := F0 m pc ls (.int x :: .int i :: .ref a :: rest)) rfl (rest := rest) rfl (by rw [hb]; exact hdg) t
  simp only [arrV_size] at h1
  exact h1 st
theorem vx_caldZ {D : va_G} {cl : List vw_C} {ws : va_W} {tys : List (ClassId × FieldType)} {a : Nat} (hexec : p.tables.exec = Jvm.exec) (hb : c.code = cc) (hK : va_K D cl tys s) (hP : va_P D cl ws H) (q0 t0 : Nat) {cA : ClassId} {n : Nat} {f : Nat → Int32} (ha : ws[q0]? = some (a, .inl (cA, n, .inl f))) (ht : tys[t0]? = some (cA, .char)) {i : Int32} (hout : ¬ vp_in i n) (hdg : decode cc pc = .ok (.caload, 1))
    (k : ∀ tx : String, tx = (toString "Index " ++ toString i ++ toString " out of bounds for length " ++ toString n : String) → vx_Note p l e R s m args below meth c H locs cells slots Q (F0 m pc ls rest) "java/lang/ArrayIndexOutOfBoundsException" tx) : W p l e R s m args below meth c H locs cells slots Q (F0 m pc ls (.int i :: .ref a :: rest)) := by
  intro T hT X
  obtain ⟨t, st, q⟩ := k _ rfl T hT X
  refine ⟨t, ?_, q⟩
  have h1 := X.caloadOut hexec (by rw [hT]; exact hP q0 _ ha) ((hK.2 t0 _ ht).1 n (fun j => .int (f j))) (j := i) (by show (i < 0 ∨ (arrV _ _ _).slots.size ≤ _); rw [arrV_size]; exact Classical.byContradiction hout) (g := F0 m pc ls (.int i :: .ref a :: rest)) rfl (rest := rest) rfl (by rw [hb]; exact hdg) t
  simp only [arrV_size] at h1
  exact h1 st
theorem vx_castZ {D : va_G} {cl : List vw_C} {ws : va_W} {tys : List (ClassId × FieldType)} {a : Nat} (hexec : p.tables.exec = Jvm.exec) (hb : c.code = cc) (hK : va_K D cl tys s) (hP : va_P D cl ws H) (q0 t0 : Nat) {cA : ClassId} {n : Nat} {f : Nat → Int32} (ha : ws[q0]? = some (a, .inl (cA, n, .inl f))) (ht : tys[t0]? = some (cA, .char)) {i : Int32} {x : Int32} (hout : ¬ vp_in i n) (hdg : decode cc pc = .ok (.castore, 1))
    (k : ∀ tx : String, tx = (toString "Index " ++ toString i ++ toString " out of bounds for length " ++ toString n : String) → vx_Note p l e R s m args below meth c H locs cells slots Q (F0 m pc ls rest) "java/lang/ArrayIndexOutOfBoundsException" tx) : W p l e R s m args below meth c H locs cells slots Q (F0 m pc ls (.int x :: .int i :: .ref a :: rest)) := by
  intro T hT X
  obtain ⟨t, st, q⟩ := k _ rfl T hT X
  refine ⟨t, ?_, q⟩
  have h1 := X.castoreOut hexec (by rw [hT]; exact hP q0 _ ha) ((hK.2 t0 _ ht).1 n (fun j => .int (f j))) (j := i) (by show (i < 0 ∨ (arrV _ _ _).slots.size ≤ _); rw [arrV_size]; exact Classical.byContradiction hout) (g := F0 m pc ls (.int x :: .int i :: .ref a :: rest)) rfl (rest := rest) rfl (by rw [hb]; exact hdg) t
  simp only [arrV_size] at h1
  exact h1 st
theorem vx_saldZ {D : va_G} {cl : List vw_C} {ws : va_W} {tys : List (ClassId × FieldType)} {a : Nat} (hexec : p.tables.exec = Jvm.exec) (hb : c.code = cc) (hK : va_K D cl tys s) (hP : va_P D cl ws H) (q0 t0 : Nat) {cA : ClassId} {n : Nat} {f : Nat → Int32} (ha : ws[q0]? = some (a, .inl (cA, n, .inl f))) (ht : tys[t0]? = some (cA, .short)) {i : Int32} (hout : ¬ vp_in i n) (hdg : decode cc pc = .ok (.saload, 1))
    (k : ∀ tx : String, tx = (toString "Index " ++ toString i ++ toString " out of bounds for length " ++ toString n : String) → vx_Note p l e R s m args below meth c H locs cells slots Q (F0 m pc ls rest) "java/lang/ArrayIndexOutOfBoundsException" tx) : W p l e R s m args below meth c H locs cells slots Q (F0 m pc ls (.int i :: .ref a :: rest)) := by
  intro T hT X
  obtain ⟨t, st, q⟩ := k _ rfl T hT X
  refine ⟨t, ?_, q⟩
  have h1 := X.saloadOut hexec (by rw [hT]; exact hP q0 _ ha) ((hK.2 t0 _ ht).1 n (fun j => .int (f j))) (j := i) (by show (i < 0 ∨ (arrV _ _ _).slots.size ≤ _); rw [arrV_size]; exact Classical.byContradiction hout) (g := F0 m pc ls (.int i :: .ref a :: rest)) rfl (rest := rest) rfl (by rw [hb]; exact hdg) t
  simp only [arrV_size] at h1
  exact h1 st
theorem vx_sastZ {D : va_G} {cl : List vw_C} {ws : va_W} {tys : List (ClassId × FieldType)} {a : Nat} (hexec : p.tables.exec = Jvm.exec) (hb : c.code = cc) (hK : va_K D cl tys s) (hP : va_P D cl ws H) (q0 t0 : Nat) {cA : ClassId} {n : Nat} {f : Nat → Int32} (ha : ws[q0]? = some (a, .inl (cA, n, .inl f))) (ht : tys[t0]? = some (cA, .short)) {i : Int32} {x : Int32} (hout : ¬ vp_in i n) (hdg : decode cc pc = .ok (.sastore, 1))
    (k : ∀ tx : String, tx = (toString "Index " ++ toString i ++ toString " out of bounds for length " ++ toString n : String) → vx_Note p l e R s m args below meth c H locs cells slots Q (F0 m pc ls rest) "java/lang/ArrayIndexOutOfBoundsException" tx) : W p l e R s m args below meth c H locs cells slots Q (F0 m pc ls (.int x :: .int i :: .ref a :: rest)) := by
  intro T hT X
  obtain ⟨t, st, q⟩ := k _ rfl T hT X
  refine ⟨t, ?_, q⟩
  have h1 := X.sastoreOut hexec (by rw [hT]; exact hP q0 _ ha) ((hK.2 t0 _ ht).1 n (fun j => .int (f j))) (j := i) (by show (i < 0 ∨ (arrV _ _ _).slots.size ≤ _); rw [arrV_size]; exact Classical.byContradiction hout) (g := F0 m pc ls (.int x :: .int i :: .ref a :: rest)) rfl (rest := rest) rfl (by rw [hb]; exact hdg) t
  simp only [arrV_size] at h1
  exact h1 st
theorem vx_laldZ {D : va_G} {cl : List vw_C} {ws : va_W} {tys : List (ClassId × FieldType)} {a : Nat} (hexec : p.tables.exec = Jvm.exec) (hb : c.code = cc) (hK : va_K D cl tys s) (hP : va_P D cl ws H) (q0 t0 : Nat) {cA : ClassId} {n : Nat} {f : Nat → Int64} (ha : ws[q0]? = some (a, .inl (cA, n, .inr (.inl f)))) (ht : tys[t0]? = some (cA, .long)) {i : Int32} (hout : ¬ vp_in i n) (hdg : decode cc pc = .ok (.laload, 1))
    (k : ∀ tx : String, tx = (toString "Index " ++ toString i ++ toString " out of bounds for length " ++ toString n : String) → vx_Note p l e R s m args below meth c H locs cells slots Q (F0 m pc ls rest) "java/lang/ArrayIndexOutOfBoundsException" tx) : W p l e R s m args below meth c H locs cells slots Q (F0 m pc ls (.int i :: .ref a :: rest)) := by
  intro T hT X
  obtain ⟨t, st, q⟩ := k _ rfl T hT X
  refine ⟨t, ?_, q⟩
  have h1 := X.laloadOut hexec (by rw [hT]; exact hP q0 _ ha) ((hK.2 t0 _ ht).1 n (fun j => .long (f j))) (j := i) (by show (i < 0 ∨ (arrV _ _ _).slots.size ≤ _); rw [arrV_size]; exact Classical.byContradiction hout) (g := F0 m pc ls (.int i :: .ref a :: rest)) rfl (rest := rest) rfl (by rw [hb]; exact hdg) t
  simp only [arrV_size] at h1
  exact h1 st
theorem vx_lastZ {D : va_G} {cl : List vw_C} {ws : va_W} {tys : List (ClassId × FieldType)} {a : Nat} (hexec : p.tables.exec = Jvm.exec) (hb : c.code = cc) (hK : va_K D cl tys s) (hP : va_P D cl ws H) (q0 t0 : Nat) {cA : ClassId} {n : Nat} {f : Nat → Int64} (ha : ws[q0]? = some (a, .inl (cA, n, .inr (.inl f)))) (ht : tys[t0]? = some (cA, .long)) {i : Int32} {x : Int64} (hout : ¬ vp_in i n) (hdg : decode cc pc = .ok (.lastore, 1))
    (k : ∀ tx : String, tx = (toString "Index " ++ toString i ++ toString " out of bounds for length " ++ toString n : String) → vx_Note p l e R s m args below meth c H locs cells slots Q (F0 m pc ls rest) "java/lang/ArrayIndexOutOfBoundsException" tx) : W p l e R s m args below meth c H locs cells slots Q (F0 m pc ls (.long x :: .int i :: .ref a :: rest)) := by
  intro T hT X
  obtain ⟨t, st, q⟩ := k _ rfl T hT X
  refine ⟨t, ?_, q⟩
  have h1 := X.lastoreOut hexec (by rw [hT]; exact hP q0 _ ha) ((hK.2 t0 _ ht).1 n (fun j => .long (f j))) (j := i) (by show (i < 0 ∨ (arrV _ _ _).slots.size ≤ _); rw [arrV_size]; exact Classical.byContradiction hout) (g := F0 m pc ls (.long x :: .int i :: .ref a :: rest)) rfl (rest := rest) rfl (by rw [hb]; exact hdg) t
  simp only [arrV_size] at h1
  exact h1 st
theorem vx_faldZ {D : va_G} {cl : List vw_C} {ws : va_W} {tys : List (ClassId × FieldType)} {a : Nat} (hexec : p.tables.exec = Jvm.exec) (hb : c.code = cc) (hK : va_K D cl tys s) (hP : va_P D cl ws H) (q0 t0 : Nat) {cA : ClassId} {n : Nat} {f : Nat → UInt32} (ha : ws[q0]? = some (a, .inl (cA, n, .inr (.inr (.inl f))))) (ht : tys[t0]? = some (cA, .float)) {i : Int32} (hout : ¬ vp_in i n) (hdg : decode cc pc = .ok (.faload, 1))
    (k : ∀ tx : String, tx = (toString "Index " ++ toString i ++ toString " out of bounds for length " ++ toString n : String) → vx_Note p l e R s m args below meth c H locs cells slots Q (F0 m pc ls rest) "java/lang/ArrayIndexOutOfBoundsException" tx) : W p l e R s m args below meth c H locs cells slots Q (F0 m pc ls (.int i :: .ref a :: rest)) := by
  intro T hT X
  obtain ⟨t, st, q⟩ := k _ rfl T hT X
  refine ⟨t, ?_, q⟩
  have h1 := X.faloadOut hexec (by rw [hT]; exact hP q0 _ ha) ((hK.2 t0 _ ht).1 n (fun j => .float (f j))) (j := i) (by show (i < 0 ∨ (arrV _ _ _).slots.size ≤ _); rw [arrV_size]; exact Classical.byContradiction hout) (g := F0 m pc ls (.int i :: .ref a :: rest)) rfl (rest := rest) rfl (by rw [hb]; exact hdg) t
  simp only [arrV_size] at h1
  exact h1 st
theorem vx_fastZ {D : va_G} {cl : List vw_C} {ws : va_W} {tys : List (ClassId × FieldType)} {a : Nat} (hexec : p.tables.exec = Jvm.exec) (hb : c.code = cc) (hK : va_K D cl tys s) (hP : va_P D cl ws H) (q0 t0 : Nat) {cA : ClassId} {n : Nat} {f : Nat → UInt32} (ha : ws[q0]? = some (a, .inl (cA, n, .inr (.inr (.inl f))))) (ht : tys[t0]? = some (cA, .float)) {i : Int32} {x : UInt32} (hout : ¬ vp_in i n) (hdg : decode cc pc = .ok (.fastore, 1))
    (k : ∀ tx : String, tx = (toString "Index " ++ toString i ++ toString " out of bounds for length " ++ toString n : String) → vx_Note p l e R s m args below meth c H locs cells slots Q (F0 m pc ls rest) "java/lang/ArrayIndexOutOfBoundsException" tx) : W p l e R s m args below meth c H locs cells slots Q (F0 m pc ls (.float x :: .int i :: .ref a :: rest)) := by
  intro T hT X
  obtain ⟨t, st, q⟩ := k _ rfl T hT X
  refine ⟨t, ?_, q⟩
  have h1 := X.fastoreOut hexec (by rw [hT]; exact hP q0 _ ha) ((hK.2 t0 _ ht).1 n (fun j => .float (f j))) (j := i) (by show (i < 0 ∨ (arrV _ _ _).slots.size ≤ _); rw [arrV_size]; exact Classical.byContradiction hout) (g := F0 m pc ls (.float x :: .int i :: .ref a :: rest)) rfl (rest := rest) rfl (by rw [hb]; exact hdg) t
  simp only [arrV_size] at h1
  exact h1 st
theorem vx_daldZ {D : va_G} {cl : List vw_C} {ws : va_W} {tys : List (ClassId × FieldType)} {a : Nat} (hexec : p.tables.exec = Jvm.exec) (hb : c.code = cc) (hK : va_K D cl tys s) (hP : va_P D cl ws H) (q0 t0 : Nat) {cA : ClassId} {n : Nat} {f : Nat → UInt64} (ha : ws[q0]? = some (a, .inl (cA, n, .inr (.inr (.inr (.inl f)))))) (ht : tys[t0]? = some (cA, .double)) {i : Int32} (hout : ¬ vp_in i n) (hdg : decode cc pc = .ok (.daload, 1))
    (k : ∀ tx : String, tx = (toString "Index " ++ toString i ++ toString " out of bounds for length " ++ toString n : String) → vx_Note p l e R s m args below meth c H locs cells slots Q (F0 m pc ls rest) "java/lang/ArrayIndexOutOfBoundsException" tx) : W p l e R s m args below meth c H locs cells slots Q (F0 m pc ls (.int i :: .ref a :: rest)) := by
  intro T hT X
  obtain ⟨t, st, q⟩ := k _ rfl T hT X
  refine ⟨t, ?_, q⟩
  have h1 := X.daloadOut hexec (by rw [hT]; exact hP q0 _ ha) ((hK.2 t0 _ ht).1 n (fun j => .double (f j))) (j := i) (by show (i < 0 ∨ (arrV _ _ _).slots.size ≤ _); rw [arrV_size]; exact Classical.byContradiction hout) (g := F0 m pc ls (.int i :: .ref a :: rest)) rfl (rest := rest) rfl (by rw [hb]; exact hdg) t
  simp only [arrV_size] at h1
  exact h1 st
theorem vx_dastZ {D : va_G} {cl : List vw_C} {ws : va_W} {tys : List (ClassId × FieldType)} {a : Nat} (hexec : p.tables.exec = Jvm.exec) (hb : c.code = cc) (hK : va_K D cl tys s) (hP : va_P D cl ws H) (q0 t0 : Nat) {cA : ClassId} {n : Nat} {f : Nat → UInt64} (ha : ws[q0]? = some (a, .inl (cA, n, .inr (.inr (.inr (.inl f)))))) (ht : tys[t0]? = some (cA, .double)) {i : Int32} {x : UInt64} (hout : ¬ vp_in i n) (hdg : decode cc pc = .ok (.dastore, 1))
    (k : ∀ tx : String, tx = (toString "Index " ++ toString i ++ toString " out of bounds for length " ++ toString n : String) → vx_Note p l e R s m args below meth c H locs cells slots Q (F0 m pc ls rest) "java/lang/ArrayIndexOutOfBoundsException" tx) : W p l e R s m args below meth c H locs cells slots Q (F0 m pc ls (.double x :: .int i :: .ref a :: rest)) := by
  intro T hT X
  obtain ⟨t, st, q⟩ := k _ rfl T hT X
  refine ⟨t, ?_, q⟩
  have h1 := X.dastoreOut hexec (by rw [hT]; exact hP q0 _ ha) ((hK.2 t0 _ ht).1 n (fun j => .double (f j))) (j := i) (by show (i < 0 ∨ (arrV _ _ _).slots.size ≤ _); rw [arrV_size]; exact Classical.byContradiction hout) (g := F0 m pc ls (.double x :: .int i :: .ref a :: rest)) rfl (rest := rest) rfl (by rw [hb]; exact hdg) t
  simp only [arrV_size] at h1
  exact h1 st
theorem vx_arraylengthN (hexec : p.tables.exec = Jvm.exec) (hb : c.code = cc) (hdg : decode cc pc = .ok (.arraylength, 1)) (k : vx_NoteN p l e R s m args below meth c H locs cells slots Q (F0 m pc ls rest)) : W p l e R s m args below meth c H locs cells slots Q (F0 m pc ls (.null :: rest)) := by
  intro T hT X
  obtain ⟨t, st, q⟩ := k T hT X
  exact ⟨t, X.arraylengthNull hexec (g := F0 m pc ls (.null :: rest)) rfl (rest := rest) rfl (by rw [hb]; exact hdg) t st, q⟩
theorem vx_ialoadN (hexec : p.tables.exec = Jvm.exec) (hb : c.code = cc) {i : Int32} (hdg : decode cc pc = .ok (.iaload, 1)) (k : vx_NoteN p l e R s m args below meth c H locs cells slots Q (F0 m pc ls rest)) : W p l e R s m args below meth c H locs cells slots Q (F0 m pc ls (.int i :: .null :: rest)) := by
  intro T hT X
  obtain ⟨t, st, q⟩ := k T hT X
  exact ⟨t, X.ialoadNull hexec (g := F0 m pc ls (.int i :: .null :: rest)) rfl (rest := rest) rfl (by rw [hb]; exact hdg) t st, q⟩
theorem vx_laloadN (hexec : p.tables.exec = Jvm.exec) (hb : c.code = cc) {i : Int32} (hdg : decode cc pc = .ok (.laload, 1)) (k : vx_NoteN p l e R s m args below meth c H locs cells slots Q (F0 m pc ls rest)) : W p l e R s m args below meth c H locs cells slots Q (F0 m pc ls (.int i :: .null :: rest)) := by
  intro T hT X
  obtain ⟨t, st, q⟩ := k T hT X
  exact ⟨t, X.laloadNull hexec (g := F0 m pc ls (.int i :: .null :: rest)) rfl (rest := rest) rfl (by rw [hb]; exact hdg) t st, q⟩
theorem vx_faloadN (hexec : p.tables.exec = Jvm.exec) (hb : c.code = cc) {i : Int32} (hdg : decode cc pc = .ok (.faload, 1)) (k : vx_NoteN p l e R s m args below meth c H locs cells slots Q (F0 m pc ls rest)) : W p l e R s m args below meth c H locs cells slots Q (F0 m pc ls (.int i :: .null :: rest)) := by
  intro T hT X
  obtain ⟨t, st, q⟩ := k T hT X
  exact ⟨t, X.faloadNull hexec (g := F0 m pc ls (.int i :: .null :: rest)) rfl (rest := rest) rfl (by rw [hb]; exact hdg) t st, q⟩
theorem vx_daloadN (hexec : p.tables.exec = Jvm.exec) (hb : c.code = cc) {i : Int32} (hdg : decode cc pc = .ok (.daload, 1)) (k : vx_NoteN p l e R s m args below meth c H locs cells slots Q (F0 m pc ls rest)) : W p l e R s m args below meth c H locs cells slots Q (F0 m pc ls (.int i :: .null :: rest)) := by
  intro T hT X
  obtain ⟨t, st, q⟩ := k T hT X
  exact ⟨t, X.daloadNull hexec (g := F0 m pc ls (.int i :: .null :: rest)) rfl (rest := rest) rfl (by rw [hb]; exact hdg) t st, q⟩
theorem vx_aaloadN (hexec : p.tables.exec = Jvm.exec) (hb : c.code = cc) {i : Int32} (hdg : decode cc pc = .ok (.aaload, 1)) (k : vx_NoteN p l e R s m args below meth c H locs cells slots Q (F0 m pc ls rest)) : W p l e R s m args below meth c H locs cells slots Q (F0 m pc ls (.int i :: .null :: rest)) := by
  intro T hT X
  obtain ⟨t, st, q⟩ := k T hT X
  exact ⟨t, X.aaloadNull hexec (g := F0 m pc ls (.int i :: .null :: rest)) rfl (rest := rest) rfl (by rw [hb]; exact hdg) t st, q⟩
theorem vx_baloadN (hexec : p.tables.exec = Jvm.exec) (hb : c.code = cc) {i : Int32} (hdg : decode cc pc = .ok (.baload, 1)) (k : vx_NoteN p l e R s m args below meth c H locs cells slots Q (F0 m pc ls rest)) : W p l e R s m args below meth c H locs cells slots Q (F0 m pc ls (.int i :: .null :: rest)) := by
  intro T hT X
  obtain ⟨t, st, q⟩ := k T hT X
  exact ⟨t, X.baloadNull hexec (g := F0 m pc ls (.int i :: .null :: rest)) rfl (rest := rest) rfl (by rw [hb]; exact hdg) t st, q⟩
theorem vx_caloadN (hexec : p.tables.exec = Jvm.exec) (hb : c.code = cc) {i : Int32} (hdg : decode cc pc = .ok (.caload, 1)) (k : vx_NoteN p l e R s m args below meth c H locs cells slots Q (F0 m pc ls rest)) : W p l e R s m args below meth c H locs cells slots Q (F0 m pc ls (.int i :: .null :: rest)) := by
  intro T hT X
  obtain ⟨t, st, q⟩ := k T hT X
  exact ⟨t, X.caloadNull hexec (g := F0 m pc ls (.int i :: .null :: rest)) rfl (rest := rest) rfl (by rw [hb]; exact hdg) t st, q⟩
theorem vx_saloadN (hexec : p.tables.exec = Jvm.exec) (hb : c.code = cc) {i : Int32} (hdg : decode cc pc = .ok (.saload, 1)) (k : vx_NoteN p l e R s m args below meth c H locs cells slots Q (F0 m pc ls rest)) : W p l e R s m args below meth c H locs cells slots Q (F0 m pc ls (.int i :: .null :: rest)) := by
  intro T hT X
  obtain ⟨t, st, q⟩ := k T hT X
  exact ⟨t, X.saloadNull hexec (g := F0 m pc ls (.int i :: .null :: rest)) rfl (rest := rest) rfl (by rw [hb]; exact hdg) t st, q⟩
theorem vx_iastoreN (hexec : p.tables.exec = Jvm.exec) (hb : c.code = cc) {x : Int32} {i : Int32} (hdg : decode cc pc = .ok (.iastore, 1)) (k : vx_NoteN p l e R s m args below meth c H locs cells slots Q (F0 m pc ls rest)) : W p l e R s m args below meth c H locs cells slots Q (F0 m pc ls (.int x :: .int i :: .null :: rest)) := by
  intro T hT X
  obtain ⟨t, st, q⟩ := k T hT X
  exact ⟨t, X.iastoreNull hexec (g := F0 m pc ls (.int x :: .int i :: .null :: rest)) rfl (rest := rest) rfl (by rw [hb]; exact hdg) t st, q⟩
theorem vx_lastoreN (hexec : p.tables.exec = Jvm.exec) (hb : c.code = cc) {x : Int64} {i : Int32} (hdg : decode cc pc = .ok (.lastore, 1)) (k : vx_NoteN p l e R s m args below meth c H locs cells slots Q (F0 m pc ls rest)) : W p l e R s m args below meth c H locs cells slots Q (F0 m pc ls (.long x :: .int i :: .null :: rest)) := by
  intro T hT X
  obtain ⟨t, st, q⟩ := k T hT X
  exact ⟨t, X.lastoreNull hexec (g := F0 m pc ls (.long x :: .int i :: .null :: rest)) rfl (rest := rest) rfl (by rw [hb]; exact hdg) t st, q⟩
theorem vx_fastoreN (hexec : p.tables.exec = Jvm.exec) (hb : c.code = cc) {x : UInt32} {i : Int32} (hdg : decode cc pc = .ok (.fastore, 1)) (k : vx_NoteN p l e R s m args below meth c H locs cells slots Q (F0 m pc ls rest)) : W p l e R s m args below meth c H locs cells slots Q (F0 m pc ls (.float x :: .int i :: .null :: rest)) := by
  intro T hT X
  obtain ⟨t, st, q⟩ := k T hT X
  exact ⟨t, X.fastoreNull hexec (g := F0 m pc ls (.float x :: .int i :: .null :: rest)) rfl (rest := rest) rfl (by rw [hb]; exact hdg) t st, q⟩
theorem vx_dastoreN (hexec : p.tables.exec = Jvm.exec) (hb : c.code = cc) {x : UInt64} {i : Int32} (hdg : decode cc pc = .ok (.dastore, 1)) (k : vx_NoteN p l e R s m args below meth c H locs cells slots Q (F0 m pc ls rest)) : W p l e R s m args below meth c H locs cells slots Q (F0 m pc ls (.double x :: .int i :: .null :: rest)) := by
  intro T hT X
  obtain ⟨t, st, q⟩ := k T hT X
  exact ⟨t, X.dastoreNull hexec (g := F0 m pc ls (.double x :: .int i :: .null :: rest)) rfl (rest := rest) rfl (by rw [hb]; exact hdg) t st, q⟩
theorem vx_bastoreN (hexec : p.tables.exec = Jvm.exec) (hb : c.code = cc) {x : Int32} {i : Int32} (hdg : decode cc pc = .ok (.bastore, 1)) (k : vx_NoteN p l e R s m args below meth c H locs cells slots Q (F0 m pc ls rest)) : W p l e R s m args below meth c H locs cells slots Q (F0 m pc ls (.int x :: .int i :: .null :: rest)) := by
  intro T hT X
  obtain ⟨t, st, q⟩ := k T hT X
  exact ⟨t, X.bastoreNull hexec (g := F0 m pc ls (.int x :: .int i :: .null :: rest)) rfl (rest := rest) rfl (by rw [hb]; exact hdg) t st, q⟩
theorem vx_castoreN (hexec : p.tables.exec = Jvm.exec) (hb : c.code = cc) {x : Int32} {i : Int32} (hdg : decode cc pc = .ok (.castore, 1)) (k : vx_NoteN p l e R s m args below meth c H locs cells slots Q (F0 m pc ls rest)) : W p l e R s m args below meth c H locs cells slots Q (F0 m pc ls (.int x :: .int i :: .null :: rest)) := by
  intro T hT X
  obtain ⟨t, st, q⟩ := k T hT X
  exact ⟨t, X.castoreNull hexec (g := F0 m pc ls (.int x :: .int i :: .null :: rest)) rfl (rest := rest) rfl (by rw [hb]; exact hdg) t st, q⟩
theorem vx_sastoreN (hexec : p.tables.exec = Jvm.exec) (hb : c.code = cc) {x : Int32} {i : Int32} (hdg : decode cc pc = .ok (.sastore, 1)) (k : vx_NoteN p l e R s m args below meth c H locs cells slots Q (F0 m pc ls rest)) : W p l e R s m args below meth c H locs cells slots Q (F0 m pc ls (.int x :: .int i :: .null :: rest)) := by
  intro T hT X
  obtain ⟨t, st, q⟩ := k T hT X
  exact ⟨t, X.sastoreNull hexec (g := F0 m pc ls (.int x :: .int i :: .null :: rest)) rfl (rest := rest) rfl (by rw [hb]; exact hdg) t st, q⟩
theorem vx_invokeN {own C : String} {index maxL : Nat} {y : MethodName} {bytes : ByteArray} {ret : Option FieldType} (hexec : p.tables.exec = Jvm.exec) (hb : c.code = cc) (hown : s.vm.findClass own = some m.cls) (hlink : (Cond.methodLink own index y).before args s = true) (hinst : (Cond.instanceMethod y).before args s = true) (hcode : (Cond.code y bytes maxL ret).before args s = true) (hsel : (Cond.selects C y y).before args s = true)
    (hx : y.cls ≠ "java/lang/invoke/MethodHandle" ∧ y.cls ≠ "java/lang/invoke/VarHandle") {As : List Value} (hlen : (parseMethodDescriptor y.desc).map (fun d => d.parameters.length) = some As.length) (hdg : decode cc pc = .ok (.invokevirtual index, 3))
    (k : vx_NoteN p l e R s m args below meth c H locs cells slots Q (F0 m pc ls rest)) {st0 : List Value} (hst : st0 = As.reverse ++ .null :: rest) : W p l e R s m args below meth c H locs cells slots Q (F0 m pc ls st0) := by
  intro T hT X
  obtain ⟨r0, r, hn, hrm, hstR, hsigR⟩ := va_Decl.of hinst hcode
  obtain ⟨c2, r2, m2, q1, q2, q3, q4, kP, hkP, hkPi⟩ := Cond.selects_spec hsel
  cases hn.symm.trans q3
  have hl9 : As.length = r.sig.parameters.length := by
    rw [hsigR] at hlen
    exact (Option.some.inj hlen).symm
  obtain ⟨vm', X1, st1⟩ := X.invokevirtualNull hexec hown hlink hn hrm hstR hkP hkPi hx (g := F0 m pc ls st0) rfl (argsL := As) (rest := rest) hl9 hst (by rw [hb]; exact hdg)
  obtain ⟨t, st, q⟩ := k (T.setVm vm') hT X1
  exact ⟨t, st1 t st, q⟩
theorem vx_newarrayZ {atype : ArrayType} (hexec : p.tables.exec = Jvm.exec) (hb : c.code = cc) {n : Int32} (h0 : n < 0) (hdg : decode cc pc = .ok (.newarray atype, 2)) (k : ∀ tx : String, tx = toString n → vx_Note p l e R s m args below meth c H locs cells slots Q (F0 m pc ls rest) "java/lang/NegativeArraySizeException" tx) : W p l e R s m args below meth c H locs cells slots Q (F0 m pc ls (.int n :: rest)) := by
  intro T hT X
  obtain ⟨t, st, q⟩ := k _ rfl T hT X
  exact ⟨t, X.newarrayNegative hexec (g := F0 m pc ls (.int n :: rest)) rfl h0 (rest := rest) rfl (by rw [hb]; exact hdg) t st, q⟩
end
end VXM
/-! ===== END ===== -/
end
section
/-! plain facts on numbers and arrays, to paste: each family by itself; over the kit's rows on nI and upd -/
/-! ===== order of ints, in all its forms, and through longs ===== -/
theorem fa_lt (a b : Int32) : a < b ↔ a.toInt < b.toInt := Int32.lt_iff_toInt_lt
theorem fa_le (a b : Int32) : a ≤ b ↔ a.toInt ≤ b.toInt := Int32.le_iff_toInt_le
theorem fa_eq (a b : Int32) : a = b ↔ a.toInt = b.toInt := Int32.toInt_inj.symm
theorem fa_lt64 (a b : Int64) : a < b ↔ a.toInt < b.toInt := Int64.lt_iff_toInt_lt
theorem fa_le64 (a b : Int64) : a ≤ b ↔ a.toInt ≤ b.toInt := Int64.le_iff_toInt_le
theorem fa_eq64 (a b : Int64) : a = b ↔ a.toInt = b.toInt := Int64.toInt_inj.symm
/-- a comparison of two ints taken as longs -/
theorem fa_wide_lt (a b : Int32) : a.toInt64 < b.toInt64 ↔ a < b := by rw [fa_lt64, fa_lt, Int32.toInt_toInt64, Int32.toInt_toInt64]
theorem fa_wide_le (a b : Int32) : a.toInt64 ≤ b.toInt64 ↔ a ≤ b := by rw [fa_le64, fa_le, Int32.toInt_toInt64, Int32.toInt_toInt64]
theorem fa_wide_eq (a b : Int32) : a.toInt64 = b.toInt64 ↔ a = b := by rw [fa_eq64, fa_eq, Int32.toInt_toInt64, Int32.toInt_toInt64]
/-- one strict comparison gives all the others -/
theorem fa_of_lt {a b : Int32} (h : a < b) : a ≤ b ∧ ¬ b ≤ a ∧ ¬ b < a ∧ a ≠ b ∧ b ≠ a := by
  rw [fa_lt] at h
  refine ⟨?_, ?_, ?_, ?_, ?_⟩
  · rw [fa_le]; omega
  · rw [fa_le]; omega
  · rw [fa_lt]; omega
  · intro e; rw [fa_eq] at e; omega
  · intro e; rw [fa_eq] at e; omega
theorem fa_of_nlt {a b : Int32} (h : ¬ a < b) : b ≤ a := by
  rw [fa_lt] at h
  rw [fa_le]
  omega
theorem fa_of_nle {a b : Int32} (h : ¬ a ≤ b) : b < a := by
  rw [fa_le] at h
  rw [fa_lt]
  omega
theorem fa_le_ne {a b : Int32} (h : a ≤ b) (h2 : a ≠ b) : a < b := by
  rw [fa_le] at h
  rw [fa_lt]
  have h3 : a.toInt ≠ b.toInt := fun e => h2 ((fa_eq a b).mpr e)
  omega
theorem fa_three (a b : Int32) : a < b ∨ a = b ∨ b < a := by
  rw [fa_lt, fa_lt, fa_eq]
  omega
theorem fa_trans {a b c : Int32} (h : a < b) (h2 : b ≤ c) : a < c := by
  rw [fa_lt] at *
  rw [fa_le] at h2
  omega
/-! ===== small literals as numbers ===== -/
theorem fa_lit (n : Nat) : (OfNat.ofNat n : Int32) = nI n := rfl
theorem fa_litL (n : Nat) : (OfNat.ofNat n : Int64) = lN n := rfl
/-! ===== bits of a number: 'or', masks, one bit ===== -/
theorem fa_and (a b : Nat) : nI a &&& nI b = nI (a &&& b) := by
  apply Int32.toBitVec_inj.1
  show BitVec.ofNat 32 a &&& BitVec.ofNat 32 b = BitVec.ofNat 32 (a &&& b)
  apply BitVec.eq_of_getLsbD_eq
  intro i hi
  simp [hi]
theorem fa_or (a b : Nat) : nI a ||| nI b = nI (a ||| b) := by
  apply Int32.toBitVec_inj.1
  show BitVec.ofNat 32 a ||| BitVec.ofNat 32 b = BitVec.ofNat 32 (a ||| b)
  apply BitVec.eq_of_getLsbD_eq
  intro i hi
  simp [hi]
/-- a remainder by a power of two, as a mask -/
theorem fa_mask (n k : Nat) : nI n &&& nI (2 ^ k - 1) = nI (n % 2 ^ k) := by rw [fa_and, Nat.and_two_pow_sub_one_eq_mod]
/-- 'or' of a high part and a low one that don't meet is their sum -/
theorem fa_or_sum {a k : Nat} (b : Nat) (h : a < 2 ^ k) : nI (2 ^ k * b) ||| nI a = nI (2 ^ k * b + a) := by rw [fa_or, Nat.two_pow_add_eq_or_of_lt h]
/-- one bit, by 'and' with a power of two -/
theorem fa_bit {n j : Nat} (hj : j < 31) : nI n &&& nI (2 ^ j) = 0 ↔ n.testBit j = false := by
  have h2 : (2 : Nat) ^ j < 2 ^ 31 := Nat.pow_lt_pow_right (by decide) hj
  have hle : n &&& 2 ^ j ≤ 2 ^ j := Nat.and_le_right
  have e : n &&& 2 ^ j = 0 ↔ n.testBit j = false := by
    constructor
    · intro h
      have h1 : (n &&& 2 ^ j).testBit j = false := by rw [h]; simp
      rw [Nat.testBit_and] at h1
      first | simpa using h1 | simpa [Nat.testBit_two_pow_self] using h1 | simpa [Nat.testBit_two_pow] using h1
    · intro h
      apply Nat.eq_of_testBit_eq
      intro i
      rw [Nat.testBit_and]
      by_cases hi : j = i
      · subst hi; simp [h]
      · first | (simp [Nat.testBit_two_pow, hi]; done) | (simp [Nat.testBit_two_pow_of_ne hi]; done)
  rw [fa_and]
  constructor
  · intro h
    apply e.mp
    rcases Nat.eq_zero_or_pos (n &&& 2 ^ j) with z | z
    · exact z
    · exact absurd h (nI_ne0 z (Nat.lt_of_le_of_lt hle h2))
  · intro h
    rw [e.mpr h]; exact nI_0
/-- a remainder by a power of two of a number that isn't negative, as Java divides -/
theorem fa_rem {a k : Nat} (ha : a < 2 ^ 31) (hk : k < 31) : nI a - nI a / nI (2 ^ k) * nI (2 ^ k) = nI (a % 2 ^ k) := pk_rem ha (Nat.two_pow_pos k) (Nat.pow_lt_pow_right (by decide) hk)
/-! ===== cuts to a byte, a short ===== -/
theorem fa_byte_xor (x y : Int32) : (x ^^^ y).toInt8 = x.toInt8 ^^^ y.toInt8 := by
  apply Int8.toBitVec_inj.1
  apply BitVec.eq_of_getLsbD_eq
  intro i hi
  first | (simp [hi]; done) | (simp [hi, BitVec.getLsbD_setWidth, BitVec.getLsbD_signExtend]; done)
theorem fa_short_xor (x y : Int32) : (x ^^^ y).toInt16 = x.toInt16 ^^^ y.toInt16 := by
  apply Int16.toBitVec_inj.1
  apply BitVec.eq_of_getLsbD_eq
  intro i hi
  first | (simp [hi]; done) | (simp [hi, BitVec.getLsbD_setWidth, BitVec.getLsbD_signExtend]; done)
/-- the cut to a byte sees the low byte alone -/
theorem fa_byte_low (x : Int32) : (x &&& 255).toInt8 = x.toInt8 := by
  apply Int8.toBitVec_inj.1
  apply BitVec.eq_of_getLsbD_eq
  intro i hi
  have h2 : (255 : Int32).toBitVec.getLsbD i = true := by
    have : ∀ j : Fin 8, (255 : Int32).toBitVec.getLsbD j.val = true := by decide +kernel
    exact this ⟨i, hi⟩
  have h4 : (x &&& 255).toBitVec.getLsbD i = x.toBitVec.getLsbD i := by
    show (x.toBitVec &&& (255 : Int32).toBitVec).getLsbD i = _
    rw [BitVec.getLsbD_and, h2, Bool.and_true]
  have h3 : i < 32 := by omega
  first
    | (show (((x &&& 255).toBitVec).signExtend 8).getLsbD i = (x.toBitVec.signExtend 8).getLsbD i; rw [BitVec.getLsbD_signExtend, BitVec.getLsbD_signExtend, if_pos h3, if_pos h3, h4])
    | (show (((x &&& 255).toBitVec).setWidth 8).getLsbD i = (x.toBitVec.setWidth 8).getLsbD i; rw [BitVec.getLsbD_setWidth, BitVec.getLsbD_setWidth, h4])
    | (simp [hi, h3, h4]; done)
theorem fa_short_low (x : Int32) : (x &&& 65535).toInt16 = x.toInt16 := by
  apply Int16.toBitVec_inj.1
  apply BitVec.eq_of_getLsbD_eq
  intro i hi
  have h2 : (65535 : Int32).toBitVec.getLsbD i = true := by
    have : ∀ j : Fin 16, (65535 : Int32).toBitVec.getLsbD j.val = true := by decide +kernel
    exact this ⟨i, hi⟩
  have h4 : (x &&& 65535).toBitVec.getLsbD i = x.toBitVec.getLsbD i := by
    show (x.toBitVec &&& (65535 : Int32).toBitVec).getLsbD i = _
    rw [BitVec.getLsbD_and, h2, Bool.and_true]
  have h3 : i < 32 := by omega
  first
    | (show (((x &&& 65535).toBitVec).signExtend 16).getLsbD i = (x.toBitVec.signExtend 16).getLsbD i; rw [BitVec.getLsbD_signExtend, BitVec.getLsbD_signExtend, if_pos h3, if_pos h3, h4])
    | (show (((x &&& 65535).toBitVec).setWidth 16).getLsbD i = (x.toBitVec.setWidth 16).getLsbD i; rw [BitVec.getLsbD_setWidth, BitVec.getLsbD_setWidth, h4])
    | (simp [hi, h3, h4]; done)
/-- a small number is its own byte, its own short -/
theorem fa_byte_small {n : Nat} (h : n < 128) : (nI n).toInt8.toInt32 = nI n := by
  have : ∀ j : Fin 128, (nI j.val).toInt8.toInt32 = nI j.val := by decide +kernel
  exact this ⟨n, h⟩
/-! ===== absolute difference ===== -/
theorem fa_absdiff {a b : Nat} (ha : a < 2 ^ 31) (hb : b < 2 ^ 31) : (if nI a < nI b then nI b - nI a else nI a - nI b) = nI (if a < b then b - a else a - b) := by
  by_cases h : a < b
  · rw [if_pos (nI_lt h hb), if_pos h]
    exact pk_sub (Nat.le_of_lt h)
  · rw [if_neg (nI_nlt (Nat.le_of_not_lt h) ha), if_neg h]
    exact pk_sub (Nat.le_of_not_lt h)
/-! ===== an array behind i stores, a conditional store, a row copied ===== -/
/-- f where k < i, what stood there else -/
def fa_fill {α : Type} (f g : Nat → α) (i : Nat) : Nat → α := fun k => if k < i then f k else g k
theorem fa_fill_0 {α : Type} (f g : Nat → α) : fa_fill f g 0 = g := funext fun k => if_neg (Nat.not_lt_zero k)
theorem fa_fill_in {α : Type} {f g : Nat → α} {i k : Nat} (h : k < i) : fa_fill f g i k = f k := if_pos h
theorem fa_fill_out {α : Type} {f g : Nat → α} {i k : Nat} (h : i ≤ k) : fa_fill f g i k = g k := if_neg (Nat.not_lt.mpr h)
theorem fa_fill_succ (f g : Nat → Int32) (i : Nat) : upd (fa_fill f g i) i (f i) = fa_fill f g (i + 1) := by
  funext k
  by_cases e : k = i
  · subst e
    rw [pk_us]
    exact (if_pos (Nat.lt_succ_self k)).symm
  · rw [pk_un e]
    by_cases h : k < i
    · rw [fa_fill_in h, fa_fill_in (Nat.lt_succ_of_lt h)]
    · rw [fa_fill_out (Nat.le_of_not_lt h), fa_fill_out (by omega)]
/-- a store that changes nothing -/
theorem fa_upd_same {f : Nat → Int32} {i : Nat} {x : Int32} (h : f i = x) : upd f i x = f := by
  funext k
  by_cases e : k = i
  · subst e
    rw [pk_us, h]
  · rw [pk_un e]
/-- a store under a condition, told as one -/
theorem fa_upd_if (c : Prop) [Decidable c] (f : Nat → Int32) (i : Nat) (x : Int32) : (if c then upd f i x else f) = upd f i (if c then x else f i) := by
  by_cases h : c
  · rw [if_pos h, if_pos h]
  · rw [if_neg h, if_neg h, fa_upd_same rfl]
/-- two stores at one place, at two -/
theorem fa_upd_twice (f : Nat → Int32) (i : Nat) (x y : Int32) : upd (upd f i x) i y = upd f i y := by
  funext k
  by_cases e : k = i
  · subst e
    rw [pk_us, pk_us]
  · rw [pk_un e, pk_un e, pk_un e]
theorem fa_upd_swap (f : Nat → Int32) {i j : Nat} (h : i ≠ j) (x y : Int32) : upd (upd f i x) j y = upd (upd f j y) i x := by
  funext k
  by_cases e : k = i
  · subst e
    rw [pk_un h, pk_us, pk_us]
  · by_cases e2 : k = j
    · subst e2
      rw [pk_us, pk_un e, pk_us]
    · rw [pk_un e2, pk_un e, pk_un e, pk_un e2]
/-! ===== the first index with a property; a count ===== -/
/-- the first k < n with p k, n if there is none -/
def fa_first (p : Nat → Bool) : Nat → Nat
  | 0 => 0
  | n + 1 => if fa_first p n < n then fa_first p n else if p n then n else n + 1
theorem fa_first_le (p : Nat → Bool) : ∀ n, fa_first p n ≤ n
  | 0 => Nat.le_refl 0
  | n + 1 => by
    have ih := fa_first_le p n
    unfold fa_first
    split
    · omega
    · split
      · omega
      · omega
theorem fa_first_no (p : Nat → Bool) : ∀ n k, k < fa_first p n → p k = false
  | 0, k, h => absurd h (Nat.not_lt_zero k)
  | n + 1, k, h => by
    have ih := fa_first_no p n
    have hl := fa_first_le p n
    unfold fa_first at h
    split at h
    · exact ih k h
    · rename_i h1
      split at h
      · exact ih k (by omega)
      · rename_i h2
        by_cases e : k = n
        · subst e
          exact Bool.eq_false_iff.mpr h2
        · exact ih k (by omega)
theorem fa_first_yes (p : Nat → Bool) : ∀ n, fa_first p n < n → p (fa_first p n) = true
  | 0, h => absurd h (Nat.not_lt_zero _)
  | n + 1, h => by
    have ih := fa_first_yes p n
    have hl := fa_first_le p n
    unfold fa_first at h ⊢
    split at h
    · rename_i h1
      rw [if_pos h1]
      exact ih h1
    · rename_i h1
      rw [if_neg h1]
      split at h
      · rename_i h2
        rw [if_pos h2]
        exact h2
      · omega
/-- how many k < n have p k -/
def fa_cnt (p : Nat → Bool) : Nat → Nat
  | 0 => 0
  | n + 1 => fa_cnt p n + if p n then 1 else 0
theorem fa_cnt_le (p : Nat → Bool) : ∀ n, fa_cnt p n ≤ n
  | 0 => Nat.le_refl 0
  | n + 1 => by
    have ih := fa_cnt_le p n
    unfold fa_cnt
    split
    · omega
    · omega
theorem fa_cnt_yes {p : Nat → Bool} {n : Nat} (h : p n = true) : fa_cnt p (n + 1) = fa_cnt p n + 1 := by rw [fa_cnt, if_pos h]
theorem fa_cnt_no {p : Nat → Bool} {n : Nat} (h : p n = false) : fa_cnt p (n + 1) = fa_cnt p n := by rw [fa_cnt, if_neg (by rw [h]; decide)]; rfl
theorem fa_cnt_cong {p q : Nat → Bool} : ∀ {n : Nat}, (∀ k, k < n → p k = q k) → fa_cnt p n = fa_cnt q n
  | 0, _ => rfl
  | n + 1, h => by rw [fa_cnt, fa_cnt, fa_cnt_cong (fun k hk => h k (Nat.lt_succ_of_lt hk)), h n (Nat.lt_succ_self n)]
/-! ===== an answer carried into a post; a branch on a boolean answer ===== -/
theorem fa_post {α : Type} {P : α → Prop} {x y : α} (h : x = y) (hp : P y) : P x := h ▸ hp
theorem fa_post2 {α β : Type} {P : α → β → Prop} {x y : α} {u v : β} (h : x = y) (h2 : u = v) (hp : P y v) : P x u := h ▸ h2 ▸ hp
theorem fa_bool {r : Int32} {b : Bool} (h : r = if b then 1 else 0) : (r = 0 ↔ b = false) ∧ (¬ r = 0 ↔ b = true) := by
  subst h
  cases b
  · exact ⟨⟨fun _ => rfl, fun _ => rfl⟩, ⟨fun h => absurd rfl h, fun h => absurd h (by decide)⟩⟩
  · exact ⟨⟨fun h => absurd h (by decide), fun h => absurd h (by decide)⟩, ⟨fun _ => rfl, fun _ => by decide⟩⟩
/-- a boolean's narrowing changes nothing -/
theorem fa_bool_and {r : Int32} (h : r = 0 ∨ r = 1) : r &&& 1 = r := by
  rcases h with rfl | rfl
  · decide
  · decide
theorem fa_bool_prop {c : Prop} [Decidable c] {r : Int32} (h : r = if c then 1 else 0) : (r = 0 ↔ ¬ c) ∧ (¬ r = 0 ↔ c) := by
  subst h
  by_cases hc : c
  · rw [if_pos hc]
    exact ⟨⟨fun h => absurd h (by decide), fun h => absurd hc h⟩, ⟨fun _ => hc, fun _ => by decide⟩⟩
  · rw [if_neg hc]
    exact ⟨⟨fun _ => hc, fun _ => rfl⟩, ⟨fun h => absurd rfl h, fun h => absurd h hc⟩⟩
/-! plain facts to paste, each family by itself; over the kit's nI, lN and upd -/
/-! ===== drawers: more things than places ===== -/
theorem fb_holes : ∀ (m n : Nat) (f : Nat → Nat), (∀ i, i < n → f i < m) → (∀ i j, i < j → j < n → f i ≠ f j) → n ≤ m := by
  intro m
  induction m with
  | zero =>
    intro n f h1 _
    rcases Nat.eq_zero_or_pos n with h | h
    · omega
    · exact absurd (h1 0 h) (Nat.not_lt_zero _)
  | succ m ih =>
    intro n f h1 h2
    by_cases hx : ∃ i, i < n ∧ f i = m
    · obtain ⟨a, ha, hfa⟩ := hx
      have hg := ih (n - 1) (fun i => if i < a then f i else f (i + 1)) (by
        intro i hi
        by_cases q : i < a
        · simp only [if_pos q]
          have b1 := h1 i (by omega)
          have b2 := h2 i a q ha
          omega
        · simp only [if_neg q]
          have b1 := h1 (i + 1) (by omega)
          have b2 := h2 a (i + 1) (by omega) (by omega)
          omega) (by
        intro i j hij hj
        by_cases q : i < a
        · by_cases r : j < a
          · simp only [if_pos q, if_pos r]
            exact h2 i j hij (by omega)
          · simp only [if_pos q, if_neg r]
            exact h2 i (j + 1) (by omega) (by omega)
        · have r : ¬ j < a := by omega
          simp only [if_neg q, if_neg r]
          exact h2 (i + 1) (j + 1) (by omega) (by omega))
      omega
    · have hg := ih n f (fun i hi => by
        have b1 := h1 i hi
        have b2 : f i ≠ m := fun e => hx ⟨i, hi, e⟩
        omega) h2
      omega
/-- two of them in one place -/
theorem fb_twice {m n : Nat} {f : Nat → Nat} (h : ∀ i, i < n → f i < m) (hm : m < n) : ∃ i j, i < j ∧ j < n ∧ f i = f j := by
  refine Classical.byContradiction fun hx => ?_
  have := fb_holes m n f h (fun i j hij hj e => hx ⟨i, j, hij, hj, e⟩)
  omega
/-- as many as places, none twice: each place is taken -/
theorem fb_onto {n : Nat} {f : Nat → Nat} (h : ∀ i, i < n → f i < n) (h2 : ∀ i j, i < j → j < n → f i ≠ f j) {y : Nat} (hy : y < n) : ∃ i, i < n ∧ f i = y := by
  refine Classical.byContradiction fun hx => ?_
  have hne : ∀ i, i < n → f i ≠ y := fun i hi e => hx ⟨i, hi, e⟩
  have := fb_holes (n - 1) n (fun i => if f i < y then f i else f i - 1) (by
    intro i hi
    have b1 := h i hi
    have b2 := hne i hi
    by_cases q : f i < y
    · simp only [if_pos q]; omega
    · simp only [if_neg q]; omega) (by
    intro i j hij hj
    have b1 := hne i (by omega)
    have b2 := hne j hj
    have b3 := h2 i j hij hj
    by_cases q : f i < y
    · by_cases r : f j < y
      · simp only [if_pos q, if_pos r]; exact b3
      · simp only [if_pos q, if_neg r]; omega
    · by_cases r : f j < y
      · simp only [if_neg q, if_pos r]; omega
      · simp only [if_neg q, if_neg r]; omega)
  omega
/-! ===== how many places have a property ===== -/
def fb_ct (p : Nat → Bool) : Nat → Nat
  | 0 => 0
  | n + 1 => fb_ct p n + (if p n then 1 else 0)
theorem fb_ct_succ (p : Nat → Bool) (n : Nat) : fb_ct p (n + 1) = fb_ct p n + (if p n then 1 else 0) := rfl
theorem fb_ct_le (p : Nat → Bool) : ∀ n, fb_ct p n ≤ n
  | 0 => Nat.le_refl _
  | n + 1 => by
    have h := fb_ct_le p n
    rw [fb_ct_succ]
    split <;> omega
theorem fb_ct_step (p : Nat → Bool) (m : Nat) : ∀ n, fb_ct p m ≤ fb_ct p (m + n)
  | 0 => Nat.le_refl _
  | n + 1 => by
    have h := fb_ct_step p m n
    show fb_ct p m ≤ fb_ct p (m + n + 1)
    rw [fb_ct_succ]
    omega
theorem fb_ct_mono (p : Nat → Bool) {m n : Nat} (h : m ≤ n) : fb_ct p m ≤ fb_ct p n := by
  have := fb_ct_step p m (n - m)
  rwa [Nat.add_sub_cancel' h] at this
theorem fb_ct_cong {p q : Nat → Bool} : ∀ {n : Nat}, (∀ k, k < n → p k = q k) → fb_ct p n = fb_ct q n
  | 0, _ => rfl
  | n + 1, h => by
    rw [fb_ct_succ, fb_ct_succ, fb_ct_cong (fun k hk => h k (by omega)), h n (by omega)]
/-- one place changed -/
theorem fb_ct_out (p : Nat → Bool) (b : Bool) {i n : Nat} (h : n ≤ i) : fb_ct (fun k => if k = i then b else p k) n = fb_ct p n :=
  fb_ct_cong fun k hk => if_neg (by omega)
theorem fb_ct_upd (p : Nat → Bool) (b : Bool) {i : Nat} : ∀ {n : Nat}, i < n → fb_ct (fun k => if k = i then b else p k) n + (if p i then 1 else 0) = fb_ct p n + (if b then 1 else 0)
  | 0, h => absurd h (Nat.not_lt_zero i)
  | n + 1, h => by
    rw [fb_ct_succ, fb_ct_succ]
    rcases Nat.lt_or_ge i n with q | q
    · have := fb_ct_upd p b q
      have e : (if n = i then b else p n) = p n := if_neg (by omega)
      rw [e]
      omega
    · have e : i = n := by omega
      subst e
      rw [fb_ct_out p b (Nat.le_refl _)]
      simp only [if_true]
      omega
theorem fb_ct_sub {p q : Nat → Bool} : ∀ {n : Nat}, (∀ k, k < n → p k = true → q k = true) → fb_ct p n ≤ fb_ct q n
  | 0, _ => Nat.le_refl _
  | n + 1, h => by
    have h1 := fb_ct_sub (n := n) (p := p) (q := q) (fun k hk => h k (by omega))
    have h2 := h n (by omega)
    rw [fb_ct_succ, fb_ct_succ]
    cases hp : p n <;> cases hq : q n <;> simp_all <;> omega
theorem fb_ct_or {p q : Nat → Bool} : ∀ {n : Nat}, (∀ k, k < n → ¬ (p k = true ∧ q k = true)) → fb_ct (fun k => p k || q k) n = fb_ct p n + fb_ct q n
  | 0, _ => rfl
  | n + 1, h => by
    have h1 := fb_ct_or (n := n) (p := p) (q := q) (fun k hk => h k (by omega))
    have h2 := h n (by omega)
    rw [fb_ct_succ, fb_ct_succ, fb_ct_succ, h1]
    cases hp : p n <;> cases hq : q n <;> simp_all <;> omega
theorem fb_ct_not (p : Nat → Bool) : ∀ n, fb_ct p n + fb_ct (fun k => !p k) n = n
  | 0 => rfl
  | n + 1 => by
    have h := fb_ct_not p n
    rw [fb_ct_succ, fb_ct_succ]
    cases p n <;> simp <;> omega
theorem fb_ct_split (p : Nat → Bool) (m : Nat) : ∀ n, fb_ct p (m + n) = fb_ct p m + fb_ct (fun k => p (m + k)) n
  | 0 => rfl
  | n + 1 => by
    have h := fb_ct_split p m n
    show fb_ct p (m + n + 1) = _
    rw [fb_ct_succ, fb_ct_succ, h, Nat.add_assoc]
theorem fb_ct_zero {p : Nat → Bool} : ∀ {n : Nat}, fb_ct p n = 0 ↔ ∀ k, k < n → p k = false
  | 0 => ⟨fun _ k hk => absurd hk (Nat.not_lt_zero k), fun _ => rfl⟩
  | n + 1 => by
    have h := fb_ct_zero (p := p) (n := n)
    rw [fb_ct_succ]
    constructor
    · intro e k hk
      have e1 : fb_ct p n = 0 := by omega
      rcases Nat.lt_or_ge k n with q | q
      · exact h.mp e1 k q
      · have ek : k = n := by omega
        subst ek
        cases hp : p k
        · rfl
        · simp [hp] at e
    · intro a
      rw [h.mpr (fun k hk => a k (by omega)), a n (by omega)]
      rfl
theorem fb_ct_pos {p : Nat → Bool} {n : Nat} : 0 < fb_ct p n ↔ ∃ k, k < n ∧ p k = true := by
  constructor
  · intro h
    refine Classical.byContradiction fun hx => ?_
    have := fb_ct_zero.mpr (fun k hk => by
      cases hp : p k
      · rfl
      · exact absurd ⟨k, hk, hp⟩ hx : ∀ k, k < n → p k = false)
    omega
  · rintro ⟨k, hk, hp⟩
    rcases Nat.eq_zero_or_pos (fb_ct p n) with e | e
    · have := fb_ct_zero.mp e k hk
      rw [this] at hp
      cases hp
    · exact e
theorem fb_ct_all {p : Nat → Bool} {n : Nat} : fb_ct p n = n ↔ ∀ k, k < n → p k = true := by
  have h := fb_ct_not p n
  constructor
  · intro e k hk
    have z : fb_ct (fun k => !p k) n = 0 := by omega
    have := fb_ct_zero.mp z k hk
    cases hp : p k
    · simp [hp] at this
    · rfl
  · intro a
    have z : fb_ct (fun k => !p k) n = 0 := fb_ct_zero.mpr (fun k hk => by simp [a k hk])
    omega
/-- the k-th place with the property -/
theorem fb_ct_kth {p : Nat → Bool} {k : Nat} : ∀ {n : Nat}, k < fb_ct p n → ∃ i, i < n ∧ p i = true ∧ fb_ct p i = k
  | 0, h => absurd h (Nat.not_lt_zero k)
  | n + 1, h => by
    rcases Nat.lt_or_ge k (fb_ct p n) with q | q
    · obtain ⟨i, h1, h2⟩ := fb_ct_kth q
      exact ⟨i, by omega, h2⟩
    · rw [fb_ct_succ] at h
      cases hp : p n
      · simp [hp] at h; omega
      · simp [hp] at h
        exact ⟨n, by omega, hp, by omega⟩
theorem fb_ct_kth_one {p : Nat → Bool} {i j : Nat} (hi : p i = true) (hj : p j = true) (e : fb_ct p i = fb_ct p j) : i = j := by
  have key : ∀ a b : Nat, a < b → p a = true → fb_ct p a < fb_ct p b := by
    intro a b hab ha
    have h := fb_ct_mono p (show a + 1 ≤ b from hab)
    rw [fb_ct_succ, ha] at h
    simp at h
    omega
  rcases Nat.lt_trichotomy i j with q | q | q
  · have := key i j q hi; omega
  · exact q
  · have := key j i q hj; omega
/-! ===== sums over a range: one place changed, parts, bounds ===== -/
def fb_sm (f : Nat → Nat) : Nat → Nat
  | 0 => 0
  | n + 1 => fb_sm f n + f n
theorem fb_sm_succ (f : Nat → Nat) (n : Nat) : fb_sm f (n + 1) = fb_sm f n + f n := rfl
theorem fb_sm_cong {f g : Nat → Nat} : ∀ {n : Nat}, (∀ k, k < n → f k = g k) → fb_sm f n = fb_sm g n
  | 0, _ => rfl
  | n + 1, h => by rw [fb_sm_succ, fb_sm_succ, fb_sm_cong (fun k hk => h k (by omega)), h n (by omega)]
theorem fb_sm_out (f : Nat → Nat) (v : Nat) {i n : Nat} (h : n ≤ i) : fb_sm (fun k => if k = i then v else f k) n = fb_sm f n :=
  fb_sm_cong fun k hk => if_neg (by omega)
theorem fb_sm_upd (f : Nat → Nat) (v : Nat) {i : Nat} : ∀ {n : Nat}, i < n → fb_sm (fun k => if k = i then v else f k) n + f i = fb_sm f n + v
  | 0, h => absurd h (Nat.not_lt_zero i)
  | n + 1, h => by
    rw [fb_sm_succ, fb_sm_succ]
    rcases Nat.lt_or_ge i n with q | q
    · have := fb_sm_upd f v q
      have e : (if n = i then v else f n) = f n := if_neg (by omega)
      rw [e]
      omega
    · have e : i = n := by omega
      subst e
      rw [fb_sm_out f v (Nat.le_refl _)]
      simp only [if_true]
      omega
theorem fb_sm_add (f g : Nat → Nat) : ∀ n, fb_sm (fun k => f k + g k) n = fb_sm f n + fb_sm g n
  | 0 => rfl
  | n + 1 => by
    have h := fb_sm_add f g n
    rw [fb_sm_succ, fb_sm_succ, fb_sm_succ, h]
    omega
theorem fb_sm_le {f g : Nat → Nat} : ∀ {n : Nat}, (∀ k, k < n → f k ≤ g k) → fb_sm f n ≤ fb_sm g n
  | 0, _ => Nat.le_refl _
  | n + 1, h => by
    have h1 := fb_sm_le (n := n) (f := f) (g := g) (fun k hk => h k (by omega))
    have h2 := h n (by omega)
    rw [fb_sm_succ, fb_sm_succ]
    omega
theorem fb_sm_const (c : Nat) : ∀ n, fb_sm (fun _ => c) n = n * c
  | 0 => by rw [Nat.zero_mul]; rfl
  | n + 1 => by rw [fb_sm_succ, fb_sm_const c n, Nat.succ_mul]
theorem fb_sm_bound {f : Nat → Nat} {c n : Nat} (h : ∀ k, k < n → f k ≤ c) : fb_sm f n ≤ n * c := by
  rw [← fb_sm_const c n]
  exact fb_sm_le h
theorem fb_sm_mono (f : Nat → Nat) (m : Nat) : ∀ n, fb_sm f m ≤ fb_sm f (m + n)
  | 0 => Nat.le_refl _
  | n + 1 => by
    have h := fb_sm_mono f m n
    show fb_sm f m ≤ fb_sm f (m + n + 1)
    rw [fb_sm_succ]
    omega
theorem fb_sm_part (f : Nat → Nat) {i n : Nat} (h : i < n) : fb_sm f i + f i ≤ fb_sm f n := by
  have := fb_sm_mono f (i + 1) (n - (i + 1))
  rw [fb_sm_succ, show i + 1 + (n - (i + 1)) = n by omega] at this
  exact this
theorem fb_sm_split (f : Nat → Nat) (m : Nat) : ∀ n, fb_sm f (m + n) = fb_sm f m + fb_sm (fun k => f (m + k)) n
  | 0 => rfl
  | n + 1 => by
    have h := fb_sm_split f m n
    show fb_sm f (m + n + 1) = _
    rw [fb_sm_succ, fb_sm_succ, h, Nat.add_assoc]
theorem fb_sm_zero {f : Nat → Nat} {n : Nat} (h : fb_sm f n = 0) : ∀ k, k < n → f k = 0 := fun k hk => by
  have := fb_sm_part f hk
  omega
/-- the same over whole numbers -/
def fb_si (f : Nat → Int) : Nat → Int
  | 0 => 0
  | n + 1 => fb_si f n + f n
theorem fb_si_succ (f : Nat → Int) (n : Nat) : fb_si f (n + 1) = fb_si f n + f n := rfl
theorem fb_si_cong {f g : Nat → Int} : ∀ {n : Nat}, (∀ k, k < n → f k = g k) → fb_si f n = fb_si g n
  | 0, _ => rfl
  | n + 1, h => by rw [fb_si_succ, fb_si_succ, fb_si_cong (fun k hk => h k (by omega)), h n (by omega)]
theorem fb_si_out (f : Nat → Int) (v : Int) {i n : Nat} (h : n ≤ i) : fb_si (fun k => if k = i then v else f k) n = fb_si f n :=
  fb_si_cong fun k hk => if_neg (by omega)
theorem fb_si_upd (f : Nat → Int) (v : Int) {i : Nat} : ∀ {n : Nat}, i < n → fb_si (fun k => if k = i then v else f k) n = fb_si f n - f i + v
  | 0, h => absurd h (Nat.not_lt_zero i)
  | n + 1, h => by
    rw [fb_si_succ, fb_si_succ]
    rcases Nat.lt_or_ge i n with q | q
    · have := fb_si_upd f v q
      have e : (if n = i then v else f n) = f n := if_neg (by omega)
      rw [e]
      omega
    · have e : i = n := by omega
      subst e
      rw [fb_si_out f v (Nat.le_refl _)]
      simp only [if_true]
      omega
theorem fb_si_add (f g : Nat → Int) : ∀ n, fb_si (fun k => f k + g k) n = fb_si f n + fb_si g n
  | 0 => rfl
  | n + 1 => by
    have h := fb_si_add f g n
    rw [fb_si_succ, fb_si_succ, fb_si_succ, h]
    omega
theorem fb_si_sub (f g : Nat → Int) : ∀ n, fb_si (fun k => f k - g k) n = fb_si f n - fb_si g n
  | 0 => rfl
  | n + 1 => by
    have h := fb_si_sub f g n
    rw [fb_si_succ, fb_si_succ, fb_si_succ, h]
    omega
theorem fb_si_mul (c : Int) (f : Nat → Int) : ∀ n, fb_si (fun k => c * f k) n = c * fb_si f n
  | 0 => (Int.mul_zero c).symm
  | n + 1 => by
    have h := fb_si_mul c f n
    rw [fb_si_succ, fb_si_succ, h, Int.mul_add]
theorem fb_si_split (f : Nat → Int) (m : Nat) : ∀ n, fb_si f (m + n) = fb_si f m + fb_si (fun k => f (m + k)) n
  | 0 => (Int.add_zero _).symm
  | n + 1 => by
    have h := fb_si_split f m n
    show fb_si f (m + n + 1) = _
    rw [fb_si_succ, fb_si_succ, h, Int.add_assoc]
theorem fb_si_nat (f : Nat → Nat) : ∀ n, fb_si (fun k => (f k : Int)) n = (fb_sm f n : Int)
  | 0 => rfl
  | n + 1 => by
    have h := fb_si_nat f n
    rw [fb_si_succ, fb_sm_succ, h]
    omega
theorem fb_si_bound {f : Nat → Int} {c : Int} (hc : 0 ≤ c) : ∀ {n : Nat}, (∀ k, k < n → -c ≤ f k ∧ f k ≤ c) → -(n * c) ≤ fb_si f n ∧ fb_si f n ≤ n * c
  | 0, _ => by simp [fb_si]
  | n + 1, h => by
    have h1 := fb_si_bound (n := n) (f := f) hc (fun k hk => h k (by omega))
    have h2 := h n (by omega)
    have e : ((n + 1 : Nat) : Int) * c = n * c + c := by rw [Int.natCast_add, Int.add_mul]; simp
    rw [fb_si_succ, e]
    omega
/-! ===== bits of a long that isn't negative ===== -/
theorem fb_andL (a b : Nat) : lN a &&& lN b = lN (a &&& b) := by
  apply Int64.toBitVec_inj.1
  show BitVec.ofNat 64 a &&& BitVec.ofNat 64 b = BitVec.ofNat 64 (a &&& b)
  apply BitVec.eq_of_getLsbD_eq
  intro i hi
  simp [hi]
theorem fb_orL (a b : Nat) : lN a ||| lN b = lN (a ||| b) := by
  apply Int64.toBitVec_inj.1
  show BitVec.ofNat 64 a ||| BitVec.ofNat 64 b = BitVec.ofNat 64 (a ||| b)
  apply BitVec.eq_of_getLsbD_eq
  intro i hi
  simp [hi]
theorem fb_xorL (a b : Nat) : lN a ^^^ lN b = lN (a ^^^ b) := by
  apply Int64.toBitVec_inj.1
  show BitVec.ofNat 64 a ^^^ BitVec.ofNat 64 b = BitVec.ofNat 64 (a ^^^ b)
  apply BitVec.eq_of_getLsbD_eq
  intro i hi
  simp [hi]
theorem fb_xorI (a b : Nat) : nI a ^^^ nI b = nI (a ^^^ b) := by
  apply Int32.toBitVec_inj.1
  show BitVec.ofNat 32 a ^^^ BitVec.ofNat 32 b = BitVec.ofNat 32 (a ^^^ b)
  apply BitVec.eq_of_getLsbD_eq
  intro i hi
  simp [hi]
theorem fb_maskL (n k : Nat) : lN n &&& lN (2 ^ k - 1) = lN (n % 2 ^ k) := by rw [fb_andL, Nat.and_two_pow_sub_one_eq_mod]
theorem fb_or_sumL {a k : Nat} (b : Nat) (h : a < 2 ^ k) : lN (2 ^ k * b) ||| lN a = lN (2 ^ k * b + a) := by rw [fb_orL, Nat.two_pow_add_eq_or_of_lt h]
theorem fb_lN_inj {a b : Nat} (ha : a < 2 ^ 63) (hb : b < 2 ^ 63) : lN a = lN b ↔ a = b := by
  constructor
  · intro h
    have h1 : (BitVec.ofNat 64 a).toNat = (BitVec.ofNat 64 b).toNat := congrArg (fun x : Int64 => x.toBitVec.toNat) h
    rw [BitVec.toNat_ofNat, BitVec.toNat_ofNat, Nat.mod_eq_of_lt (by omega), Nat.mod_eq_of_lt (by omega)] at h1
    exact h1
  · rintro rfl; rfl
theorem fb_bit_nat (n j : Nat) : n &&& 2 ^ j = 0 ↔ n.testBit j = false := by
  constructor
  · intro h
    have h1 : (n &&& 2 ^ j).testBit j = false := by rw [h]; simp
    rw [Nat.testBit_and] at h1
    simpa using h1
  · intro h
    apply Nat.eq_of_testBit_eq
    intro i
    rw [Nat.testBit_and]
    by_cases hi : j = i
    · subst hi; simp [h]
    · first | (simp [Nat.testBit_two_pow, hi]; done) | (simp [Nat.testBit_two_pow_of_ne hi]; done)
/-- one bit of a long -/
theorem fb_bitL {n j : Nat} (hj : j < 63) : lN n &&& lN (2 ^ j) = 0 ↔ n.testBit j = false := by
  have h2 : (2 : Nat) ^ j < 2 ^ 63 := Nat.pow_lt_pow_right (by decide) hj
  have hle : n &&& 2 ^ j ≤ 2 ^ j := Nat.and_le_right
  rw [fb_andL, ← fb_bit_nat, show (0 : Int64) = lN 0 from rfl]
  exact fb_lN_inj (by omega) (by decide)
/-- a bit set, a bit taken off -/
theorem fb_bit_set (n j i : Nat) : (n ||| 2 ^ j).testBit i = (n.testBit i || decide (i = j)) := by
  rw [Nat.testBit_or]
  by_cases h : j = i
  · subst h; simp
  · have h2 : ¬ i = j := fun e => h e.symm
    first | (simp [Nat.testBit_two_pow, h, h2]; done) | (simp [Nat.testBit_two_pow_of_ne h, h2]; done)
theorem fb_bit_flip (n j i : Nat) : (n ^^^ 2 ^ j).testBit i = (n.testBit i ^^ decide (i = j)) := by
  rw [Nat.testBit_xor]
  by_cases h : j = i
  · subst h; simp
  · have h2 : ¬ i = j := fun e => h e.symm
    first | (simp [Nat.testBit_two_pow, h, h2]; done) | (simp [Nat.testBit_two_pow_of_ne h, h2]; done)
/-! ===== a stretch of an array written over by a function ===== -/
def fb_put {α : Type} (f g : Nat → α) (a n : Nat) : Nat → α := fun k => if a ≤ k ∧ k < a + n then g (k - a) else f k
theorem fb_put_0 {α : Type} (f g : Nat → α) (a : Nat) : fb_put f g a 0 = f := funext fun k => if_neg (by omega)
theorem fb_put_in {α : Type} {f g : Nat → α} {a n k : Nat} (h1 : a ≤ k) (h2 : k < a + n) : fb_put f g a n k = g (k - a) := if_pos ⟨h1, h2⟩
theorem fb_put_out {α : Type} {f g : Nat → α} {a n k : Nat} (h : k < a ∨ a + n ≤ k) : fb_put f g a n k = f k := if_neg (by omega)
theorem fb_put_succ (f g : Nat → Int32) (a n : Nat) : upd (fb_put f g a n) (a + n) (g n) = fb_put f g a (n + 1) := by
  funext k
  by_cases h : k = a + n
  · subst h
    simp [upd, fb_put]
  · by_cases h1 : a ≤ k ∧ k < a + n
    · have h2 : a ≤ k ∧ k < a + (n + 1) := by omega
      simp only [upd, fb_put, if_neg h, if_pos h1, if_pos h2]
    · have h2 : ¬ (a ≤ k ∧ k < a + (n + 1)) := by omega
      simp only [upd, fb_put, if_neg h, if_neg h1, if_neg h2]
/-- .. from the far end down -/
theorem fb_put_down (f g : Nat → Int32) {a n m : Nat} (h : m < n) : upd (fb_put f (fun k => g (k + (m + 1))) (a + (m + 1)) (n - (m + 1))) (a + m) (g m) = fb_put f (fun k => g (k + m)) (a + m) (n - m) := by
  funext k
  by_cases h0 : k = a + m
  · subst h0
    simp only [upd, if_true]
    rw [fb_put_in (by omega) (by omega)]
    exact congrArg g (by omega)
  · simp only [upd, if_neg h0]
    by_cases h1 : a + (m + 1) ≤ k ∧ k < a + (m + 1) + (n - (m + 1))
    · rw [fb_put_in h1.1 h1.2, fb_put_in (by omega) (by omega)]
      exact congrArg g (by omega)
    · rw [fb_put_out (by omega), fb_put_out (by omega)]
theorem fb_put_cong {α : Type} {f f2 g g2 : Nat → α} {a n : Nat} (hf : ∀ k, (k < a ∨ a + n ≤ k) → f k = f2 k) (hg : ∀ k, k < n → g k = g2 k) : fb_put f g a n = fb_put f2 g2 a n := by
  funext k
  by_cases h : a ≤ k ∧ k < a + n
  · rw [fb_put_in h.1 h.2, fb_put_in h.1 h.2, hg _ (by omega)]
  · rw [fb_put_out (by omega), fb_put_out (by omega), hf _ (by omega)]
/-! ===== the least, the first, the best so far; that there is one alone ===== -/
theorem fb_first {p : Nat → Prop} [DecidablePred p] : ∀ {n : Nat}, (∃ i, i < n ∧ p i) → ∃ i, i < n ∧ p i ∧ ∀ j, j < i → ¬ p j
  | 0, h => by obtain ⟨i, hi, -⟩ := h; exact absurd hi (Nat.not_lt_zero i)
  | n + 1, h => by
    by_cases q : ∃ i, i < n ∧ p i
    · obtain ⟨i, h1, h2⟩ := fb_first q
      exact ⟨i, by omega, h2⟩
    · obtain ⟨i, h1, h2⟩ := h
      have e : i = n := by
        rcases Nat.lt_or_ge i n with r | r
        · exact absurd ⟨i, r, h2⟩ q
        · omega
      subst e
      exact ⟨i, by omega, h2, fun j hj hp => q ⟨j, hj, hp⟩⟩
theorem fb_first_one {p : Nat → Prop} {i j : Nat} (hi : p i) (hi2 : ∀ k, k < i → ¬ p k) (hj : p j) (hj2 : ∀ k, k < j → ¬ p k) : i = j := by
  rcases Nat.lt_trichotomy i j with q | q | q
  · exact absurd hi (hj2 i q)
  · exact q
  · exact absurd hj (hi2 j q)
theorem fb_last {p : Nat → Prop} [DecidablePred p] : ∀ {n : Nat}, (∃ i, i < n ∧ p i) → ∃ i, i < n ∧ p i ∧ ∀ j, i < j → j < n → ¬ p j
  | 0, h => by obtain ⟨i, hi, -⟩ := h; exact absurd hi (Nat.not_lt_zero i)
  | n + 1, h => by
    by_cases q : p n
    · exact ⟨n, by omega, q, fun j h1 h2 => by omega⟩
    · obtain ⟨i, h1, h2⟩ := h
      have hi : i < n := by
        rcases Nat.lt_or_ge i n with r | r
        · exact r
        · have e : i = n := by omega
          subst e
          exact absurd h2 q
      obtain ⟨i2, a1, a2, a3⟩ := fb_last (n := n) ⟨i, hi, h2⟩
      refine ⟨i2, by omega, a2, fun j b1 b2 => ?_⟩
      rcases Nat.lt_or_ge j n with r | r
      · exact a3 j b1 r
      · have e : j = n := by omega
        subst e
        exact q
/-- the first greatest -/
theorem fb_best (f : Nat → Int) : ∀ {n : Nat}, 0 < n → ∃ i, i < n ∧ (∀ j, j < n → f j ≤ f i) ∧ ∀ j, j < i → f j < f i
  | 0, h => absurd h (Nat.lt_irrefl 0)
  | 1, _ => ⟨0, by omega, fun j hj => by have e : j = 0 := by omega
                                         subst e; exact Int.le_refl _, fun j hj => absurd hj (Nat.not_lt_zero j)⟩
  | n + 2, _ => by
    obtain ⟨i, h1, h2, h3⟩ := fb_best f (n := n + 1) (by omega)
    by_cases q : f i < f (n + 1)
    · refine ⟨n + 1, by omega, fun j hj => ?_, fun j hj => ?_⟩
      · rcases Nat.lt_or_ge j (n + 1) with r | r
        · have := h2 j r; omega
        · have e : j = n + 1 := by omega
          subst e; exact Int.le_refl _
      · have := h2 j hj; omega
    · refine ⟨i, by omega, fun j hj => ?_, h3⟩
      rcases Nat.lt_or_ge j (n + 1) with r | r
      · exact h2 j r
      · have e : j = n + 1 := by omega
        subst e; omega
theorem fb_best_one {f : Nat → Int} {n i j : Nat} (hi : i < n) (hi2 : ∀ k, k < n → f k ≤ f i) (hi3 : ∀ k, k < i → f k < f i) (hj : j < n) (hj2 : ∀ k, k < n → f k ≤ f j) (hj3 : ∀ k, k < j → f k < f j) : i = j := by
  rcases Nat.lt_trichotomy i j with q | q | q
  · have a := hj3 i q
    have b := hi2 j hj
    omega
  · exact q
  · have a := hi3 j q
    have b := hj2 i hi
    omega
/-- the first least -/
theorem fb_low (f : Nat → Int) {n : Nat} (h : 0 < n) : ∃ i, i < n ∧ (∀ j, j < n → f i ≤ f j) ∧ ∀ j, j < i → f i < f j := by
  obtain ⟨i, h1, h2, h3⟩ := fb_best (fun k => -f k) h
  exact ⟨i, h1, fun j hj => by have := h2 j hj; omega, fun j hj => by have := h3 j hj; omega⟩
/-! ===== signed ints as whole numbers, within bounds ===== -/
theorem fb_rng (x : Int32) : -2147483648 ≤ x.toInt ∧ x.toInt < 2147483648 := by
  have h1 := Int32.le_toInt x
  have h2 := Int32.toInt_lt x
  omega
theorem fb_bmod {z : Int} (h1 : -2147483648 ≤ z) (h2 : z < 2147483648) : z.bmod (2 ^ 32) = z := by
  rw [Int.bmod_eq_of_le (by omega) (by omega)]
theorem fb_addI {x y : Int32} (h1 : -2147483648 ≤ x.toInt + y.toInt) (h2 : x.toInt + y.toInt < 2147483648) : (x + y).toInt = x.toInt + y.toInt := by
  rw [Int32.toInt_add, fb_bmod h1 h2]
theorem fb_subI {x y : Int32} (h1 : -2147483648 ≤ x.toInt - y.toInt) (h2 : x.toInt - y.toInt < 2147483648) : (x - y).toInt = x.toInt - y.toInt := by
  rw [Int32.toInt_sub, fb_bmod h1 h2]
theorem fb_mulI {x y : Int32} (h1 : -2147483648 ≤ x.toInt * y.toInt) (h2 : x.toInt * y.toInt < 2147483648) : (x * y).toInt = x.toInt * y.toInt := by
  rw [Int32.toInt_mul, fb_bmod h1 h2]
theorem fb_negI {x : Int32} (h : x.toInt ≠ -2147483648) : (-x).toInt = -x.toInt := by
  have := fb_rng x
  rw [Int32.toInt_neg, fb_bmod (by omega) (by omega)]
theorem fb_ofI {z : Int} (h1 : -2147483648 ≤ z) (h2 : z < 2147483648) : (Int32.ofInt z).toInt = z := by
  rw [Int32.toInt_ofInt, fb_bmod h1 h2]
theorem fb_asI (x : Int32) : Int32.ofInt x.toInt = x := Int32.ofInt_toInt x
theorem fb_rngL (x : Int64) : -9223372036854775808 ≤ x.toInt ∧ x.toInt < 9223372036854775808 := by
  have h1 := Int64.le_toInt x
  have h2 := Int64.toInt_lt x
  omega
theorem fb_bmodL {z : Int} (h1 : -9223372036854775808 ≤ z) (h2 : z < 9223372036854775808) : z.bmod (2 ^ 64) = z := by
  rw [Int.bmod_eq_of_le (by omega) (by omega)]
theorem fb_addL {x y : Int64} (h1 : -9223372036854775808 ≤ x.toInt + y.toInt) (h2 : x.toInt + y.toInt < 9223372036854775808) : (x + y).toInt = x.toInt + y.toInt := by
  rw [Int64.toInt_add, fb_bmodL h1 h2]
theorem fb_subL {x y : Int64} (h1 : -9223372036854775808 ≤ x.toInt - y.toInt) (h2 : x.toInt - y.toInt < 9223372036854775808) : (x - y).toInt = x.toInt - y.toInt := by
  rw [Int64.toInt_sub, fb_bmodL h1 h2]
theorem fb_mulL {x y : Int64} (h1 : -9223372036854775808 ≤ x.toInt * y.toInt) (h2 : x.toInt * y.toInt < 9223372036854775808) : (x * y).toInt = x.toInt * y.toInt := by
  rw [Int64.toInt_mul, fb_bmodL h1 h2]
/-! ===== cuts of what is narrow already ===== -/
theorem fb_byte {x : Int32} (h1 : -128 ≤ x.toInt) (h2 : x.toInt < 128) : x.toInt8.toInt32 = x := by
  apply Int32.toInt_inj.1
  rw [Int8.toInt_toInt32, Int32.toInt_toInt8, Int.bmod_eq_of_le (by omega) (by omega)]
theorem fb_short {x : Int32} (h1 : -32768 ≤ x.toInt) (h2 : x.toInt < 32768) : x.toInt16.toInt32 = x := by
  apply Int32.toInt_inj.1
  rw [Int16.toInt_toInt32, Int32.toInt_toInt16, Int.bmod_eq_of_le (by omega) (by omega)]
theorem fb_byte_rng (x : Int32) : -128 ≤ x.toInt8.toInt32.toInt ∧ x.toInt8.toInt32.toInt < 128 := by
  rw [Int8.toInt_toInt32]
  have h1 := Int8.le_toInt x.toInt8
  have h2 := Int8.toInt_lt x.toInt8
  omega
theorem fb_short_rng (x : Int32) : -32768 ≤ x.toInt16.toInt32.toInt ∧ x.toInt16.toInt32.toInt < 32768 := by
  rw [Int16.toInt_toInt32]
  have h1 := Int16.le_toInt x.toInt16
  have h2 := Int16.toInt_lt x.toInt16
  omega
theorem fb_byte_twice (x : Int32) : x.toInt8.toInt32.toInt8.toInt32 = x.toInt8.toInt32 := fb_byte (fb_byte_rng x).1 (fb_byte_rng x).2
theorem fb_short_twice (x : Int32) : x.toInt16.toInt32.toInt16.toInt32 = x.toInt16.toInt32 := fb_short (fb_short_rng x).1 (fb_short_rng x).2
theorem fb_char {n : Nat} (h : n < 65536) : (nI n).toUInt32.toUInt16.toUInt32.toInt32 = nI n := by
  apply Int32.toBitVec_inj.1
  apply BitVec.eq_of_toNat_eq
  have e1 : (nI n).toBitVec.toNat = n := by
    show (BitVec.ofNat 32 n).toNat = n
    rw [BitVec.toNat_ofNat, Nat.mod_eq_of_lt (by omega)]
  have e2 : ((nI n).toUInt32.toUInt16.toUInt32).toNat = n := by
    rw [UInt16.toNat_toUInt32, UInt32.toNat_toUInt16]
    show (nI n).toBitVec.toNat % 2 ^ 16 = n
    rw [e1, Nat.mod_eq_of_lt (by omega)]
  rw [e1]
  exact e2
end
section
/-! ===== END ===== -/
/-! ===== BEGIN a constructor that throws (launches without stack traces) ===== -/
section VXIA
variable {p : Program} {l : Launch} {e : Env} {R : Room} {s : State} {m : MethodId} {args : Array Value} {below : List Frame} {meth : Method} {c : Code} {T : State} {locs : List Loc} {cells slots : Nat}
theorem vx_callI (X : Stand p l e R s m args below meth c T locs cells slots) (hexec : p.tables.exec = Jvm.exec) {own : String} {index : Nat} {y : MethodName} {bytes : ByteArray} {maxL : Nat}
    (hown : s.vm.findClass own = some m.cls) (hy1 : y.name = "<init>") (hlink : (Cond.methodLink own index y).before args s = true) (hinst : (Cond.instanceMethod y).before args s = true)
    (hcode : (Cond.code y bytes maxL none).before args s = true) (hy : y.cls ≠ "java/lang/invoke/MethodHandle" ∧ y.cls ≠ "java/lang/invoke/VarHandle")
    {W9 : Nat} {Pre : Pt → Array Value → Prop} {Post : Pt → Array Value → Option Value → Pt → Prop} {PostX : Pt → Array Value → Addr → Pt → Prop} (hK : vx_Back l R p e below s args y 3 W9 Pre Post PostX)
    {g : JFrame} (hg : g.method = m) (hsize : g.locals.size = c.maxLocals) {a : Addr} {argsL rest : List Value} (hlen : ∀ sig, parseMethodDescriptor y.desc = some sig → argsL.length = sig.parameters.length)
    (hstack : g.stack = argsL.reverse ++ .ref a :: rest) (hW : 2 * g.monitorRoom + (rest.map fun v => v.category).sum ≤ W9) (hdg : decode c.code g.pc = .ok (.invokespecial index, 3))
    (hpre : ∀ vm₁, s.WarmedH vm₁ → Pre ⟨T.setVm vm₁, locs, cells, slots⟩ (Value.ref a :: argsL).toArray) :
    (∃ (v : Option Value) (vm₁ : Vm) (B : Pt), s.WarmedH vm₁ ∧ Stand p l e R s m args below meth c B.U B.locs B.cells B.slots ∧ Post ⟨T.setVm vm₁, locs, cells, slots⟩ (Value.ref a :: argsL).toArray v B ∧
      ∀ target, Steps p.tables e below (B.U.setTop { g with pc := g.pc + 3, stack := v.toList ++ rest }) target → Steps p.tables e below (T.setTop g) target) ∨
    (∃ (q : Addr) (vm₁ : Vm) (B : Pt), s.WarmedH vm₁ ∧ Stand p l e R s m args below meth c B.U B.locs B.cells B.slots ∧ PostX ⟨T.setVm vm₁, locs, cells, slots⟩ (Value.ref a :: argsL).toArray q B ∧
      Steps p.tables e below (T.setTop g) ((B.U.setTop { g with stack := rest }).pushFrame (.throwing q))) := by
  subst hg
  have hpl : e.platform.magicAccessors = ({} : Platform).magicAccessors := by rw [X.admits.platform]
  obtain ⟨mk, methM, cM, kP, vm₁, hnamed, hmethM, hcodeM, -, hlocalsM, -, hkP, -, hW₁, hstep₁⟩ := Steps.initColdArgs (e := e) X.here hexec X.warmed hpl hown hy1 hy hlink hinst hcode (f := g) rfl hlen hstack hdg
  have X₁ := X.noted hW₁
  rcases hK g.method meth c ⟨T.setVm vm₁, locs, cells, slots⟩ { g with stack := rest } (.invokespecial index) mk (Value.ref a :: argsL).toArray X₁ rfl hsize hdg hW (X₁.named hnamed) (hpre vm₁ X₁.warmed) with ⟨v, B, X', hpost, hsteps⟩ | ⟨q, B, X', hpost, hsteps⟩
  · exact Or.inl ⟨v, vm₁, B, X₁.warmed, X', hpost, fun target h => hstep₁ _ fun acts => by rw [doInvoke_state]; exact hsteps.trans h⟩
  · exact Or.inr ⟨q, vm₁, B, X₁.warmed, X', hpost, hstep₁ _ fun acts => by rw [doInvoke_state]; exact hsteps⟩
end VXIA
section VXIB
variable {p : Program} {l : Launch} {e : Env} {R : Room} {s : State} {m : MethodId} {args : Array Value} {below : List Frame} {meth : Method} {c : Code} {H : Heap} {locs : List Loc} {cells slots : Nat}
variable {y : MethodName} {bytes cc : ByteArray} {maxL nL mc ms n index : Nat} {ret : Option FieldType} {ws : List Cond} {rm : Room} {Pc : Array Value → State → Prop} {Qc : Array Value → State → Outcome → State → Prop} {XC : String → State → State → Prop} {free : Addr → Prop} {Ts : List Cond} {own C : String} {b : Addr} {As rest : List Value} {g : JFrame}
theorem vx_runI (S : CallFix p m c cc nL s args Ts own) (hM : vx_Met l y ws rm Pc Qc XC mc ms free) (cw : CallB R s args own index y bytes maxL none ws rm mc ms n ∧ y.name = "<init>" ∧ (Cond.instanceMethod y).before args s = true) (hp : PreS s H Pc (.ref b :: As))
    (hg : g.method = m) (hn : As.length = n) (hsize : g.locals.size = nL) (hstack : g.stack = As.reverse ++ .ref b :: rest) (hW : 2 * g.monitorRoom + (rest.map fun v => v.category).sum ≤ 8) (hdg : decode cc g.pc = .ok (.invokespecial index, 3)) (hf : cells + mc ≤ R.cells ∧ slots + ms ≤ R.slots) :
    vx_Run p l e R s m args below meth c H locs cells slots mc ms g rest (Qc (Value.ref b :: As).toArray) XC free := by
  have hK : vx_Back l R p e below s args y 3 8 (PreOf R mc ms Pc) (PostOf Qc mc ms free) (vx_Post XC mc ms free) := vx_callBack cw.1 hM hp.1
  obtain ⟨⟨-, -, -, -, -, -, hcode, -, hy, hlen, hl⟩, hy1, hin⟩ := cw
  obtain ⟨hx, hb, hml, ho, -⟩ := S
  have hPc := hp.2
  intro T hT X
  rcases vx_callI X hx (bytes := bytes) (maxL := maxL) ho hy1 hl hin hcode hy hK hg (hsize.trans hml.symm) (a := b) (argsL := As) (rest := rest) (fun sig h => hn.trans (hlen sig h)) hstack hW (by rw [hb]; exact hdg)
    (fun vm₁ hW₁ => ⟨hf.1, hf.2, hPc (T.setVm vm₁) hT hW₁⟩) with ⟨v, vm₁, ⟨U', l2, c2, s2⟩, hW₁, X', ⟨g', mk, t, L, e1, e2, hq, h1, hL, h2, h3⟩, st⟩ | ⟨q, vm₁, ⟨U', l2, c2, s2⟩, hW₁, X', ⟨g', mk, t, L, E, ce, e1, e2, hq, hce, hcv, hcl, h1, hL, h2, h3⟩, st⟩
  · dsimp only [Pt.U, Pt.locs, Pt.cells, Pt.slots] at X' e1 e2 h1 h2 h3 st
    subst h1; subst h2; subst h3
    exact Or.inl ⟨v, (T.setVm vm₁).calling g' mk (Value.ref b :: As).toArray, t, U', L, hT, X', hL, e1, e2, hq, st⟩
  · dsimp only [Pt.U, Pt.locs, Pt.cells, Pt.slots] at X' e1 e2 h1 h2 h3 st hcl
    subst h1; subst h2; subst h3
    exact Or.inr ⟨q, (T.setVm vm₁).calling g' mk (Value.ref b :: As).toArray, t, U', L, E, ce, hT, X', hL, e1, e2, hq, hce, hcv, vx_cls hW₁ hcl, st⟩
end VXIB
/-! ===== END ===== -/
/-! ===== BEGIN a private constructor of a nest mate that throws ===== -/
section VXIC
variable {p : Program} {l : Launch} {e : Env} {R : Room} {s : State} {m : MethodId} {args : Array Value} {below : List Frame} {meth : Method} {c : Code} {T : State} {locs : List Loc} {cells slots : Nat}
theorem vx_callIN (X : Stand p l e R s m args below meth c T locs cells slots) (hexec : p.tables.exec = Jvm.exec) {own : String} {index : Nat} {host : String} {y : MethodName} {bytes : ByteArray} {maxL : Nat}
    (hown : s.vm.findClass own = some m.cls) (hy1 : y.name = "<init>") (hlink : (Cond.methodLinkNest own index y host).before args s = true) (hinst : (Cond.instanceMethod y).before args s = true)
    (hcode : (Cond.code y bytes maxL none).before args s = true) (hy : y.cls ≠ "java/lang/invoke/MethodHandle" ∧ y.cls ≠ "java/lang/invoke/VarHandle")
    {W9 : Nat} {Pre : Pt → Array Value → Prop} {Post : Pt → Array Value → Option Value → Pt → Prop} {PostX : Pt → Array Value → Addr → Pt → Prop} (hK : vx_Back l R p e below s args y 3 W9 Pre Post PostX)
    {g : JFrame} (hg : g.method = m) (hsize : g.locals.size = c.maxLocals) {a : Addr} {argsL rest : List Value} (hlen : ∀ sig, parseMethodDescriptor y.desc = some sig → argsL.length = sig.parameters.length)
    (hstack : g.stack = argsL.reverse ++ .ref a :: rest) (hW : 2 * g.monitorRoom + (rest.map fun v => v.category).sum ≤ W9) (hdg : decode c.code g.pc = .ok (.invokespecial index, 3))
    (hpre : ∀ vm₁, s.WarmedH vm₁ → Pre ⟨T.setVm vm₁, locs, cells, slots⟩ (Value.ref a :: argsL).toArray) :
    (∃ (v : Option Value) (vm₁ : Vm) (B : Pt), s.WarmedH vm₁ ∧ Stand p l e R s m args below meth c B.U B.locs B.cells B.slots ∧ Post ⟨T.setVm vm₁, locs, cells, slots⟩ (Value.ref a :: argsL).toArray v B ∧
      ∀ target, Steps p.tables e below (B.U.setTop { g with pc := g.pc + 3, stack := v.toList ++ rest }) target → Steps p.tables e below (T.setTop g) target) ∨
    (∃ (q : Addr) (vm₁ : Vm) (B : Pt), s.WarmedH vm₁ ∧ Stand p l e R s m args below meth c B.U B.locs B.cells B.slots ∧ PostX ⟨T.setVm vm₁, locs, cells, slots⟩ (Value.ref a :: argsL).toArray q B ∧
      Steps p.tables e below (T.setTop g) ((B.U.setTop { g with stack := rest }).pushFrame (.throwing q))) := by
  subst hg
  have hpl : e.platform.magicAccessors = ({} : Platform).magicAccessors := by rw [X.admits.platform]
  obtain ⟨mk, methM, cM, kP, vm₁, hnamed, hmethM, hcodeM, -, hlocalsM, -, hkP, -, hW₁, hstep₁⟩ := Steps.initColdArgsNest (e := e) X.here hexec X.warmed hpl hown hy1 hy hlink hinst hcode (f := g) rfl hlen hstack hdg
  have X₁ := X.noted hW₁
  rcases hK g.method meth c ⟨T.setVm vm₁, locs, cells, slots⟩ { g with stack := rest } (.invokespecial index) mk (Value.ref a :: argsL).toArray X₁ rfl hsize hdg hW (X₁.named hnamed) (hpre vm₁ X₁.warmed) with ⟨v, B, X', hpost, hsteps⟩ | ⟨q, B, X', hpost, hsteps⟩
  · exact Or.inl ⟨v, vm₁, B, X₁.warmed, X', hpost, fun target h => hstep₁ _ fun acts => by rw [doInvoke_state]; exact hsteps.trans h⟩
  · exact Or.inr ⟨q, vm₁, B, X₁.warmed, X', hpost, hstep₁ _ fun acts => by rw [doInvoke_state]; exact hsteps⟩
end VXIC
section VXID
variable {p : Program} {l : Launch} {e : Env} {R : Room} {s : State} {m : MethodId} {args : Array Value} {below : List Frame} {meth : Method} {c : Code} {H : Heap} {locs : List Loc} {cells slots : Nat}
theorem vx_runIN {y : MethodName} {bytes cc : ByteArray} {maxL nL mc ms n index : Nat} {ws : List Cond} {rm : Room} {Pc : Array Value → State → Prop} {Qc : Array Value → State → Outcome → State → Prop} {XC : String → State → State → Prop} {free : Addr → Prop} {Ts : List Cond} {own host : String} {b : Addr} {As rest : List Value} {g : JFrame}
    (S : CallFix p m c cc nL s args Ts own) (hM : vx_Met l y ws rm Pc Qc XC mc ms free) (cw : va_CN R s args own index y host bytes maxL none ws rm mc ms n ∧ y.name = "<init>" ∧ (Cond.instanceMethod y).before args s = true) (hp : PreS s H Pc (.ref b :: As))
    (hg : g.method = m) (hn : As.length = n) (hsize : g.locals.size = nL) (hstack : g.stack = As.reverse ++ .ref b :: rest) (hW : 2 * g.monitorRoom + (rest.map fun v => v.category).sum ≤ 8) (hdg : decode cc g.pc = .ok (.invokespecial index, 3)) (hf : cells + mc ≤ R.cells ∧ slots + ms ≤ R.slots) :
    vx_Run p l e R s m args below meth c H locs cells slots mc ms g rest (Qc (Value.ref b :: As).toArray) XC free := by
  obtain ⟨⟨⟨hrc, hrs, hfr, hlo, hws, hcw⟩, hcode, hini, hy, hlen, hl⟩, hx1, hx2⟩ := cw
  have hK : vx_Back l R p e below s args y 3 8 (PreOf R mc ms Pc) (PostOf Qc mc ms free) (vx_Post XC mc ms free) := vx_back (bytes := bytes) (maxL := maxL) (ret := none) hM hp.1 hrc hrs hfr hlo hws hcw (fun a' U hW => word_at hW (Or.inl (by first | rfl | simp [Cond.onTables, Cond.keeps, Cond.steady])) hini)
  obtain ⟨hx, hb, hml, ho, -⟩ := S
  have hPc := hp.2
  intro T hT X
  rcases vx_callIN X hx (bytes := bytes) (maxL := maxL) ho hx1 hl hx2 hcode hy hK hg (hsize.trans hml.symm) (a := b) (argsL := As) (rest := rest) (fun sig h => hn.trans (hlen sig h)) hstack hW (by rw [hb]; exact hdg)
    (fun vm₁ hW₁ => ⟨hf.1, hf.2, hPc (T.setVm vm₁) hT hW₁⟩) with ⟨v, vm₁, ⟨U', l2, c2, s2⟩, hW₁, X', ⟨g', mk, t, L, e1, e2, hq, h1, hL, h2, h3⟩, st⟩ | ⟨q, vm₁, ⟨U', l2, c2, s2⟩, hW₁, X', ⟨g', mk, t, L, E, ce, e1, e2, hq, hce, hcv, hcl, h1, hL, h2, h3⟩, st⟩
  · dsimp only [Pt.U, Pt.locs, Pt.cells, Pt.slots] at X' e1 e2 h1 h2 h3 st
    subst h1; subst h2; subst h3
    exact Or.inl ⟨v, (T.setVm vm₁).calling g' mk (Value.ref b :: As).toArray, t, U', L, hT, X', hL, e1, e2, hq, st⟩
  · dsimp only [Pt.U, Pt.locs, Pt.cells, Pt.slots] at X' e1 e2 h1 h2 h3 st hcl
    subst h1; subst h2; subst h3
    exact Or.inr ⟨q, (T.setVm vm₁).calling g' mk (Value.ref b :: As).toArray, t, U', L, E, ce, hT, X', hL, e1, e2, hq, hce, hcv, vx_cls hW₁ hcl, st⟩
end VXID
/-! ===== END ===== -/
/-! ===== BEGIN a method of a class above, found by the receiver, that may throw (follows va_callVU, va_runU of this kit) ===== -/
section
variable {p : Program} {l : Launch} {e : Env} {R : Room} {s : State} {m : MethodId} {args : Array Value} {below : List Frame} {meth : Method} {c : Code} {H : Heap} {locs : List Loc} {cells slots : Nat}
theorem vx_callVU {T : State} {locs : List Loc} {cells slots : Nat} (X : Stand p l e R s m args below meth c T locs cells slots) (hexec : p.tables.exec = Jvm.exec) {own C owner : String} {index : Nat} {x y : MethodName} {bytes : ByteArray} {maxL : Nat} {ret : Option FieldType}
    (hown : s.vm.findClass own = some m.cls) (hlink : (Cond.methodLink own index x).before args s = true) (hsame : (Cond.sameMethod x.cls owner x.name x.desc).before args s = true)
    (hd0 : va_Decl s ⟨owner, x.name, x.desc⟩) (howner : owner ≠ "java/lang/invoke/MethodHandle" ∧ owner ≠ "java/lang/invoke/VarHandle")
    (hsel : (Cond.selects C x y).before args s = true) (hinst : (Cond.instanceMethod y).before args s = true) (hcode : (Cond.code y bytes maxL ret).before args s = true)
    {W : Nat} {Pre : Pt → Array Value → Prop} {Post : Pt → Array Value → Option Value → Pt → Prop} {PostX : Pt → Array Value → Addr → Pt → Prop} (hK : vx_Back l R p e below s args y 3 W Pre Post PostX)
    {b : Addr} {cellB : Cell} (hcell : T.heap[b]? = some cellB) (hobj : cellB.vm.isStatics = false) (hcls : s.vm.findClass C = some cellB.cls)
    {g : JFrame} (hg : g.method = m) (hsize : g.locals.size = c.maxLocals) {argsL rest : List Value} (hlen : ∀ sig, parseMethodDescriptor x.desc = some sig → argsL.length = sig.parameters.length)
    (hstack : g.stack = argsL.reverse ++ .ref b :: rest) (hW : 2 * g.monitorRoom + (rest.map fun v => v.category).sum ≤ W) (hdg : decode c.code g.pc = .ok (.invokevirtual index, 3))
    (hpre : ∀ vm₁, s.WarmedH vm₁ → Pre ⟨T.setVm vm₁, locs, cells, slots⟩ (Value.ref b :: argsL).toArray) :
    (∃ (v : Option Value) (vm₁ : Vm) (B : Pt), s.WarmedH vm₁ ∧ Stand p l e R s m args below meth c B.U B.locs B.cells B.slots ∧ Post ⟨T.setVm vm₁, locs, cells, slots⟩ (Value.ref b :: argsL).toArray v B ∧
      ∀ target, Steps p.tables e below (B.U.setTop { g with pc := g.pc + 3, stack := v.toList ++ rest }) target → Steps p.tables e below (T.setTop g) target) ∨
    (∃ (q : Addr) (vm₁ : Vm) (B : Pt), s.WarmedH vm₁ ∧ Stand p l e R s m args below meth c B.U B.locs B.cells B.slots ∧ PostX ⟨T.setVm vm₁, locs, cells, slots⟩ (Value.ref b :: argsL).toArray q B ∧
      Steps p.tables e below (T.setTop g) ((B.U.setTop { g with stack := rest }).pushFrame (.throwing q))) := by
  obtain ⟨r0, r, hn, hrm, hstR, hsigR⟩ := hd0
  obtain ⟨cn, ck, r1, hcn, hck, hni, hf, hn1⟩ := Cond.sameMethod_found hsame
  cases hn.symm.trans hn1
  obtain ⟨mk, methM, hnamed, hmethM, -, habM⟩ := Cond.instanceMethod_spec hinst
  obtain ⟨c2, r2, m2, q1, q2, q3, q4, kP, hkP, hkPi⟩ := Cond.selects_spec hsel
  cases hcls.symm.trans q1
  cases hf.symm.trans q2
  cases hnamed.symm.trans q3
  have hselP : selectMethod e.platform s.vm cellB.cls r0 = .method mk := by rw [Launch.admits_selectMethod X.admits]; exact q4
  obtain ⟨vm₁, X₁, hstep₁⟩ := X.invokevirtualUp hexec hown hlink hsame howner hn hrm hstR (a := b) (cell := cellB) hcell
    (fun z h => by rw [h] at hobj; cases hobj) hselP hmethM habM hkP hkPi (g := g) hg (argsL := argsL) (rest := rest) (hlen _ hsigR) hstack hdg
  rcases hK m meth c ⟨T.setVm vm₁, locs, cells, slots⟩ { g with stack := rest } (.invokevirtual index) mk (Value.ref b :: argsL).toArray X₁ hg hsize hdg hW (X₁.named hnamed) (hpre vm₁ X₁.warmed) with ⟨v, B, X', hpost, hsteps⟩ | ⟨q, B, X', hpost, hsteps⟩
  · exact Or.inl ⟨v, vm₁, B, X₁.warmed, X', hpost, fun target h => hstep₁ _ fun acts => by rw [doInvoke_state]; exact hsteps.trans h⟩
  · exact Or.inr ⟨q, vm₁, B, X₁.warmed, X', hpost, hstep₁ _ fun acts => by rw [doInvoke_state]; exact hsteps⟩
theorem vx_runU {x y : MethodName} {bytes cc : ByteArray} {maxL nL mc ms n index : Nat} {ret : Option FieldType} {ws : List Cond} {rm : Room} {Pc : Array Value → State → Prop} {Qc : Array Value → State → Outcome → State → Prop} {XC : String → State → State → Prop} {free : Addr → Prop} {Ts : List Cond} {own C owner : String} {b : Addr} {As rest : List Value} {g : JFrame}
    (S : CallFix p m c cc nL s args Ts own) (hM : vx_Met l y ws rm Pc Qc XC mc ms free) (cw : va_CU R s args own C owner index x y bytes maxL ret ws rm mc ms n) (hp : PreV s H C b Pc As)
    (hg : g.method = m) (hn : As.length = n) (hsize : g.locals.size = nL) (hstack : g.stack = As.reverse ++ .ref b :: rest) (hW : 2 * g.monitorRoom + (rest.map fun v => v.category).sum ≤ 8) (hdg : decode cc g.pc = .ok (.invokevirtual index, 3)) (hf : cells + mc ≤ R.cells ∧ slots + ms ≤ R.slots) :
    vx_Run p l e R s m args below meth c H locs cells slots mc ms g rest (Qc (Value.ref b :: As).toArray) XC free := by
  obtain ⟨hrc, hrs, hfr, hlo, hws, hcw⟩ := cw.back
  have hini := cw.init
  have hK : vx_Back l R p e below s args y 3 8 (PreOf R mc ms Pc) (PostOf Qc mc ms free) (vx_Post XC mc ms free) := vx_back (bytes := bytes) (maxL := maxL) (ret := ret) hM hp.1 hrc hrs hfr hlo hws hcw (fun a' U hW => word_at hW (Or.inl (by first | rfl | simp [Cond.onTables, Cond.keeps, Cond.steady])) hini)
  obtain ⟨hx, hb, hml, ho, -⟩ := S
  obtain ⟨-, ⟨cellB, hcB, hoB, hclB⟩, hPc⟩ := hp
  intro T hT X
  rcases vx_callVU X hx (C := C) (owner := owner) (bytes := bytes) (maxL := maxL) (ret := ret) ho cw.link cw.same cw.decl cw.notMH cw.sel cw.inst cw.code hK (by rw [hT]; exact hcB) hoB hclB hg (hsize.trans hml.symm) (argsL := As) (rest := rest) (fun sig h => hn.trans (cw.len sig h)) hstack hW (by rw [hb]; exact hdg)
    (fun vm₁ hW₁ => ⟨hf.1, hf.2, hPc (T.setVm vm₁) hT hW₁⟩) with ⟨v, vm₁, ⟨U', l2, c2, s2⟩, hW₁, X', ⟨g', mk, t, L, e1, e2, hq, h1, hL, h2, h3⟩, st⟩ | ⟨q, vm₁, ⟨U', l2, c2, s2⟩, hW₁, X', ⟨g', mk, t, L, E, ce, e1, e2, hq, hce, hcv, hcl, h1, hL, h2, h3⟩, st⟩
  · dsimp only [Pt.U, Pt.locs, Pt.cells, Pt.slots] at X' e1 e2 h1 h2 h3 st
    subst h1; subst h2; subst h3
    exact Or.inl ⟨v, (T.setVm vm₁).calling g' mk (Value.ref b :: As).toArray, t, U', L, hT, X', hL, e1, e2, hq, st⟩
  · dsimp only [Pt.U, Pt.locs, Pt.cells, Pt.slots] at X' e1 e2 h1 h2 h3 st hcl
    subst h1; subst h2; subst h3
    exact Or.inr ⟨q, (T.setVm vm₁).calling g' mk (Value.ref b :: As).toArray, t, U', L, E, ce, hT, X', hL, e1, e2, hq, hce, hcv, vx_cls hW₁ hcl, st⟩
end
/-! ===== END ===== -/
/-! ===== BEGIN super.m(..) that may throw (follows va_callSU, va_runSU) ===== -/
section
variable {p : Program} {l : Launch} {e : Env} {R : Room} {s : State} {m : MethodId} {args : Array Value} {below : List Frame} {meth : Method} {c : Code} {H : Heap} {locs : List Loc} {cells slots : Nat}
theorem vx_callSU {T : State} {locs : List Loc} {cells slots : Nat} (X : Stand p l e R s m args below meth c T locs cells slots) (hexec : p.tables.exec = Jvm.exec) {own : String} {index : Nat} {y : MethodName} {bytes : ByteArray} {maxL : Nat} {ret : Option FieldType}
    (hown : s.vm.findClass own = some m.cls) (hlink : (Cond.methodLink own index y).before args s = true) (hsame : (Cond.sameMethod y.cls y.cls y.name y.desc).before args s = true) (hsup : (Cond.superclass own y.cls).before args s = true)
    (hinst : (Cond.instanceMethod y).before args s = true) (hcode : (Cond.code y bytes maxL ret).before args s = true) (hno : y.name ≠ "<init>")
    {W : Nat} {Pre : Pt → Array Value → Prop} {Post : Pt → Array Value → Option Value → Pt → Prop} {PostX : Pt → Array Value → Addr → Pt → Prop} (hK : vx_Back l R p e below s args y 3 W Pre Post PostX)
    {b : Addr} {cellB : Cell} {kB : Class} (hcell : T.heap[b]? = some cellB) (hobj : cellB.vm.isStatics = false) (hkB : s.vm.classes[cellB.cls]? = some kB)
    {g : JFrame} (hg : g.method = m) (hsize : g.locals.size = c.maxLocals) {argsL rest : List Value} (hlen : ∀ sig, parseMethodDescriptor y.desc = some sig → argsL.length = sig.parameters.length)
    (hstack : g.stack = argsL.reverse ++ .ref b :: rest) (hW : 2 * g.monitorRoom + (rest.map fun v => v.category).sum ≤ W) (hdg : decode c.code g.pc = .ok (.invokespecial index, 3))
    (hpre : ∀ vm₁, s.WarmedH vm₁ → Pre ⟨T.setVm vm₁, locs, cells, slots⟩ (Value.ref b :: argsL).toArray) :
    (∃ (v : Option Value) (vm₁ : Vm) (B : Pt), s.WarmedH vm₁ ∧ Stand p l e R s m args below meth c B.U B.locs B.cells B.slots ∧ Post ⟨T.setVm vm₁, locs, cells, slots⟩ (Value.ref b :: argsL).toArray v B ∧
      ∀ target, Steps p.tables e below (B.U.setTop { g with pc := g.pc + 3, stack := v.toList ++ rest }) target → Steps p.tables e below (T.setTop g) target) ∨
    (∃ (q : Addr) (vm₁ : Vm) (B : Pt), s.WarmedH vm₁ ∧ Stand p l e R s m args below meth c B.U B.locs B.cells B.slots ∧ PostX ⟨T.setVm vm₁, locs, cells, slots⟩ (Value.ref b :: argsL).toArray q B ∧
      Steps p.tables e below (T.setTop g) ((B.U.setTop { g with stack := rest }).pushFrame (.throwing q))) := by
  obtain ⟨mk, methM, hnamed, hmethM, hstM, habM⟩ := Cond.instanceMethod_spec hinst
  obtain ⟨methM', cM, hmethM', -, -, -, -, -, -, hsigM⟩ := Cond.code_spec hnamed hcode
  cases hmethM.symm.trans hmethM'
  obtain ⟨ps, dk, kp, hps, hdk, hkp, hsuper, -, -, hnid⟩ := Cond.superclass_spec hown hsup
  have hn : s.methodNamed? ⟨y.cls, y.name, y.desc⟩ = some mk := hnamed
  have hpm : ps = mk.cls := Option.some.inj (hps.symm.trans (findClass_of_methodNamed hnamed))
  have hsub : s.vm.isSubclass ps mk.cls = true := by rw [hpm]; simp [Vm.isSubclass, Vm.isSubclassAux]
  obtain ⟨vm₁, X₁, hstep₁⟩ := X.invokespecialUp hexec hown hlink hsame hn hmethM hstM habM hno hdk hnid hps hsuper hsub (a := b) (cell := cellB) hcell
    (fun z h => by rw [h] at hobj; cases hobj) hkB (g := g) hg (argsL := argsL) (rest := rest) (hlen _ hsigM) hstack hdg
  rcases hK m meth c ⟨T.setVm vm₁, locs, cells, slots⟩ { g with stack := rest } (.invokespecial index) mk (Value.ref b :: argsL).toArray X₁ hg hsize hdg hW (X₁.named hnamed) (hpre vm₁ X₁.warmed) with ⟨v, B, X', hpost, hsteps⟩ | ⟨q, B, X', hpost, hsteps⟩
  · exact Or.inl ⟨v, vm₁, B, X₁.warmed, X', hpost, fun target h => hstep₁ _ (by rw [doInvoke_state]; exact hsteps.trans h)⟩
  · exact Or.inr ⟨q, vm₁, B, X₁.warmed, X', hpost, hstep₁ _ (by rw [doInvoke_state]; exact hsteps)⟩
theorem vx_runSU {y : MethodName} {bytes cc : ByteArray} {maxL nL mc ms n index : Nat} {ret : Option FieldType} {ws : List Cond} {rm : Room} {Pc : Array Value → State → Prop} {Qc : Array Value → State → Outcome → State → Prop} {XC : String → State → State → Prop} {free : Addr → Prop} {Ts : List Cond} {own C : String} {cC : ClassId} {b : Addr} {As rest : List Value} {g : JFrame}
    (hat : ClassAt s C cC) (S : CallFix p m c cc nL s args Ts own) (hM : vx_Met l y ws rm Pc Qc XC mc ms free) (cw : va_CS R s args own index y bytes maxL ret ws rm mc ms n) (hp : PreV s H C b Pc As)
    (hg : g.method = m) (hn : As.length = n) (hsize : g.locals.size = nL) (hstack : g.stack = As.reverse ++ .ref b :: rest) (hW : 2 * g.monitorRoom + (rest.map fun v => v.category).sum ≤ 8) (hdg : decode cc g.pc = .ok (.invokespecial index, 3)) (hf : cells + mc ≤ R.cells ∧ slots + ms ≤ R.slots) :
    vx_Run p l e R s m args below meth c H locs cells slots mc ms g rest (Qc (Value.ref b :: As).toArray) XC free := by
  obtain ⟨⟨hrc, hrs, hfr, hlo, hws, hcw⟩, hl1, hl2, hl3, hl4, hini, hcode, hno, hlen⟩ := cw
  have hK : vx_Back l R p e below s args y 3 8 (PreOf R mc ms Pc) (PostOf Qc mc ms free) (vx_Post XC mc ms free) := vx_back (bytes := bytes) (maxL := maxL) (ret := ret) hM hp.1 hrc hrs hfr hlo hws hcw (fun a' U hW => word_at hW (Or.inl (by first | rfl | simp [Cond.onTables, Cond.keeps, Cond.steady])) hini)
  obtain ⟨hx, hb, hml, ho, -⟩ := S
  obtain ⟨-, ⟨cellB, hcB, hoB, hclB⟩, hPc⟩ := hp
  obtain ⟨hfc, kB, hkB, -⟩ := hat
  cases hfc.symm.trans hclB
  intro T hT X
  rcases vx_callSU X hx (bytes := bytes) (maxL := maxL) (ret := ret) ho hl1 hl2 hl3 hl4 hcode hno hK (by rw [hT]; exact hcB) hoB hkB hg (hsize.trans hml.symm) (argsL := As) (rest := rest) (fun sig h => hn.trans (hlen sig h)) hstack hW (by rw [hb]; exact hdg)
    (fun vm₁ hW₁ => ⟨hf.1, hf.2, hPc (T.setVm vm₁) hT hW₁⟩) with ⟨v, vm₁, ⟨U', l2, c2, s2⟩, hW₁, X', ⟨g', mk, t, L, e1, e2, hq, h1, hL, h2, h3⟩, st⟩ | ⟨q, vm₁, ⟨U', l2, c2, s2⟩, hW₁, X', ⟨g', mk, t, L, E, ce, e1, e2, hq, hce, hcv, hcl, h1, hL, h2, h3⟩, st⟩
  · dsimp only [Pt.U, Pt.locs, Pt.cells, Pt.slots] at X' e1 e2 h1 h2 h3 st
    subst h1; subst h2; subst h3
    exact Or.inl ⟨v, (T.setVm vm₁).calling g' mk (Value.ref b :: As).toArray, t, U', L, hT, X', hL, e1, e2, hq, st⟩
  · dsimp only [Pt.U, Pt.locs, Pt.cells, Pt.slots] at X' e1 e2 h1 h2 h3 st hcl
    subst h1; subst h2; subst h3
    exact Or.inr ⟨q, (T.setVm vm₁).calling g' mk (Value.ref b :: As).toArray, t, U', L, E, ce, hT, X', hL, e1, e2, hq, hce, hcv, vx_cls hW₁ hcl, st⟩
end
/-! ===== END ===== -/
/-! ===== BEGIN a private method of a nest mate that may throw (follows va_callVN, va_callSN, va_runVN, va_runSN) ===== -/
section
variable {p : Program} {l : Launch} {e : Env} {R : Room} {s : State} {m : MethodId} {args : Array Value} {below : List Frame} {meth : Method} {c : Code} {H : Heap} {locs : List Loc} {cells slots : Nat}
variable {T : State}
theorem vx_callVN (X : Stand p l e R s m args below meth c T locs cells slots) (hexec : p.tables.exec = Jvm.exec) {own C : String} {index : Nat} {host : String} {y : MethodName} {bytes : ByteArray} {maxL : Nat} {ret : Option FieldType}
    (hown : s.vm.findClass own = some m.cls) (hlink : (Cond.methodLinkNest own index y host).before args s = true) (hinst : (Cond.instanceMethod y).before args s = true) (hsel : (Cond.selects C y y).before args s = true)
    (hcode : (Cond.code y bytes maxL ret).before args s = true) (hy : y.cls ≠ "java/lang/invoke/MethodHandle" ∧ y.cls ≠ "java/lang/invoke/VarHandle")
    {W : Nat} {Pre : Pt → Array Value → Prop} {Post : Pt → Array Value → Option Value → Pt → Prop} {PostX : Pt → Array Value → Addr → Pt → Prop} (hK : vx_Back l R p e below s args y 3 W Pre Post PostX)
    {b : Addr} {cellB : Cell} (hcell : T.heap[b]? = some cellB) (hobj : cellB.vm.isStatics = false) (hcls : s.vm.findClass C = some cellB.cls)
    {g : JFrame} (hg : g.method = m) (hsize : g.locals.size = c.maxLocals) {argsL rest : List Value} (hlen : ∀ sig, parseMethodDescriptor y.desc = some sig → argsL.length = sig.parameters.length)
    (hstack : g.stack = argsL.reverse ++ .ref b :: rest) (hW : 2 * g.monitorRoom + (rest.map fun v => v.category).sum ≤ W) (hdg : decode c.code g.pc = .ok (.invokevirtual index, 3))
    (hpre : ∀ vm₁, s.WarmedH vm₁ → Pre ⟨T.setVm vm₁, locs, cells, slots⟩ (Value.ref b :: argsL).toArray) :
    (∃ (v : Option Value) (vm₁ : Vm) (B : Pt), s.WarmedH vm₁ ∧ Stand p l e R s m args below meth c B.U B.locs B.cells B.slots ∧ Post ⟨T.setVm vm₁, locs, cells, slots⟩ (Value.ref b :: argsL).toArray v B ∧
      ∀ target, Steps p.tables e below (B.U.setTop { g with pc := g.pc + 3, stack := v.toList ++ rest }) target → Steps p.tables e below (T.setTop g) target) ∨
    (∃ (q : Addr) (vm₁ : Vm) (B : Pt), s.WarmedH vm₁ ∧ Stand p l e R s m args below meth c B.U B.locs B.cells B.slots ∧ PostX ⟨T.setVm vm₁, locs, cells, slots⟩ (Value.ref b :: argsL).toArray q B ∧
      Steps p.tables e below (T.setTop g) ((B.U.setTop { g with stack := rest }).pushFrame (.throwing q))) := by
  obtain ⟨mk, methM, hnamed, hmethM, hstM, habM⟩ := Cond.instanceMethod_spec hinst
  obtain ⟨methM', cM, hmethM', -, -, -, -, -, -, hsigM⟩ := Cond.code_spec hnamed hcode
  cases hmethM.symm.trans hmethM'
  obtain ⟨c2, r2, m2, q1, q2, q3, q4, kP, hkP, hkPi⟩ := Cond.selects_spec hsel
  cases hcls.symm.trans q1
  cases (State.methodFound?_of_named hnamed hy).symm.trans q2
  cases hnamed.symm.trans q3
  have hselP : selectMethod e.platform s.vm cellB.cls mk = .method mk := by rw [Launch.admits_selectMethod X.admits]; exact q4
  obtain ⟨vm₁, X₁, hstep₁⟩ := X.invokevirtualNest hexec hown hlink hnamed hmethM hstM hkP hkPi hy (a := b) (cell := cellB) hcell
    (fun z h => by rw [h] at hobj; cases hobj) hselP hmethM habM hkP hkPi (g := g) hg (argsL := argsL) (rest := rest) (hlen _ hsigM) hstack hdg
  rcases hK m meth c ⟨T.setVm vm₁, locs, cells, slots⟩ { g with stack := rest } (.invokevirtual index) mk (Value.ref b :: argsL).toArray X₁ hg hsize hdg hW (X₁.named hnamed) (hpre vm₁ X₁.warmed) with ⟨v, B, X', hpost, hsteps⟩ | ⟨q, B, X', hpost, hsteps⟩
  · exact Or.inl ⟨v, vm₁, B, X₁.warmed, X', hpost, fun target h => hstep₁ _ fun acts => by rw [doInvoke_state]; exact hsteps.trans h⟩
  · exact Or.inr ⟨q, vm₁, B, X₁.warmed, X', hpost, hstep₁ _ fun acts => by rw [doInvoke_state]; exact hsteps⟩
theorem vx_callSN (X : Stand p l e R s m args below meth c T locs cells slots) (hexec : p.tables.exec = Jvm.exec) {own : String} {index : Nat} {host : String} {y : MethodName} {bytes : ByteArray} {maxL : Nat} {ret : Option FieldType}
    (hown : s.vm.findClass own = some m.cls) (hlink : (Cond.methodLinkNest own index y host).before args s = true) (hstat : (Cond.static y).before args s = true) (hinit : (Cond.initialized y.cls).before args s = true)
    (hcode : (Cond.code y bytes maxL ret).before args s = true) (hy : y.cls ≠ "java/lang/invoke/MethodHandle" ∧ y.cls ≠ "java/lang/invoke/VarHandle")
    {W : Nat} {Pre : Pt → Array Value → Prop} {Post : Pt → Array Value → Option Value → Pt → Prop} {PostX : Pt → Array Value → Addr → Pt → Prop} (hK : vx_Back l R p e below s args y 3 W Pre Post PostX)
    {g : JFrame} (hg : g.method = m) (hsize : g.locals.size = c.maxLocals) {argsL rest : List Value} (hlen : ∀ sig, parseMethodDescriptor y.desc = some sig → argsL.length = sig.parameters.length)
    (hstack : g.stack = argsL.reverse ++ rest) (hW : 2 * g.monitorRoom + (rest.map fun v => v.category).sum ≤ W) (hdg : decode c.code g.pc = .ok (.invokestatic index, 3))
    (hpre : ∀ vm₁, s.WarmedH vm₁ → Pre ⟨T.setVm vm₁, locs, cells, slots⟩ argsL.toArray) :
    (∃ (v : Option Value) (vm₁ : Vm) (B : Pt), s.WarmedH vm₁ ∧ Stand p l e R s m args below meth c B.U B.locs B.cells B.slots ∧ Post ⟨T.setVm vm₁, locs, cells, slots⟩ argsL.toArray v B ∧
      ∀ target, Steps p.tables e below (B.U.setTop { g with pc := g.pc + 3, stack := v.toList ++ rest }) target → Steps p.tables e below (T.setTop g) target) ∨
    (∃ (q : Addr) (vm₁ : Vm) (B : Pt), s.WarmedH vm₁ ∧ Stand p l e R s m args below meth c B.U B.locs B.cells B.slots ∧ PostX ⟨T.setVm vm₁, locs, cells, slots⟩ argsL.toArray q B ∧
      Steps p.tables e below (T.setTop g) ((B.U.setTop { g with stack := rest }).pushFrame (.throwing q))) := by
  obtain ⟨mk, hnamed⟩ := Cond.code_named hcode
  obtain ⟨methM, cM, hmethM, -, -, -, -, -, -, hsigM⟩ := Cond.code_spec hnamed hcode
  have hstatic : methM.isStatic = true := Cond.static_spec hnamed hmethM hstat
  obtain ⟨kP, hkP, -⟩ := className_of_methodNamed hnamed
  have hinitP : kP.init = .initialized := Cond.initialized_spec (findClass_of_methodNamed hnamed) hkP hinit
  obtain ⟨vm₁, X₁, hstep₁⟩ := X.invokestaticNest hexec hown hlink hnamed hmethM hstatic hkP hinitP hy (g := g) hg (argsL := argsL) (rest := rest) (hlen _ hsigM) hstack hdg
  rcases hK m meth c ⟨T.setVm vm₁, locs, cells, slots⟩ { g with stack := rest } (.invokestatic index) mk argsL.toArray X₁ hg hsize hdg hW (X₁.named hnamed) (hpre vm₁ X₁.warmed) with ⟨v, B, X', hpost, hsteps⟩ | ⟨q, B, X', hpost, hsteps⟩
  · exact Or.inl ⟨v, vm₁, B, X₁.warmed, X', hpost, fun target h => hstep₁ _ fun acts => by rw [doInvoke_state]; exact hsteps.trans h⟩
  · exact Or.inr ⟨q, vm₁, B, X₁.warmed, X', hpost, hstep₁ _ fun acts => by rw [doInvoke_state]; exact hsteps⟩
theorem vx_runVN {y : MethodName} {bytes cc : ByteArray} {maxL nL mc ms n index : Nat} {ret : Option FieldType} {ws : List Cond} {rm : Room} {Pc : Array Value → State → Prop} {Qc : Array Value → State → Outcome → State → Prop} {XC : String → State → State → Prop} {free : Addr → Prop} {Ts : List Cond} {own C host : String} {b : Addr} {As rest : List Value} {g : JFrame}
    (S : CallFix p m c cc nL s args Ts own) (hM : vx_Met l y ws rm Pc Qc XC mc ms free) (cw : va_CN R s args own index y host bytes maxL ret ws rm mc ms n ∧ (Cond.instanceMethod y).before args s = true ∧ (Cond.selects C y y).before args s = true) (hp : PreV s H C b Pc As)
    (hg : g.method = m) (hn : As.length = n) (hsize : g.locals.size = nL) (hstack : g.stack = As.reverse ++ .ref b :: rest) (hW : 2 * g.monitorRoom + (rest.map fun v => v.category).sum ≤ 8) (hdg : decode cc g.pc = .ok (.invokevirtual index, 3)) (hf : cells + mc ≤ R.cells ∧ slots + ms ≤ R.slots) :
    vx_Run p l e R s m args below meth c H locs cells slots mc ms g rest (Qc (Value.ref b :: As).toArray) XC free := by
  obtain ⟨⟨⟨hrc, hrs, hfr, hlo, hws, hcw⟩, hcode, hini, hy, hlen, hl⟩, hx1, hx2⟩ := cw
  have hK : vx_Back l R p e below s args y 3 8 (PreOf R mc ms Pc) (PostOf Qc mc ms free) (vx_Post XC mc ms free) := vx_back (bytes := bytes) (maxL := maxL) (ret := ret) hM hp.1 hrc hrs hfr hlo hws hcw (fun a' U hW => word_at hW (Or.inl (by first | rfl | simp [Cond.onTables, Cond.keeps, Cond.steady])) hini)
  obtain ⟨hx, hb, hml, ho, -⟩ := S
  obtain ⟨-, ⟨cellB, hcB, hoB, hclB⟩, hPc⟩ := hp
  intro T hT X
  rcases vx_callVN X hx (C := C) (bytes := bytes) (maxL := maxL) (ret := ret) ho hl hx1 hx2 hcode hy hK (by rw [hT]; exact hcB) hoB hclB hg (hsize.trans hml.symm) (argsL := As) (rest := rest) (fun sig h => hn.trans (hlen sig h)) hstack hW (by rw [hb]; exact hdg)
    (fun vm₁ hW₁ => ⟨hf.1, hf.2, hPc (T.setVm vm₁) hT hW₁⟩) with ⟨v, vm₁, ⟨U', l2, c2, s2⟩, hW₁, X', ⟨g', mk, t, L, e1, e2, hq, h1, hL, h2, h3⟩, st⟩ | ⟨q, vm₁, ⟨U', l2, c2, s2⟩, hW₁, X', ⟨g', mk, t, L, E, ce, e1, e2, hq, hce, hcv, hcl, h1, hL, h2, h3⟩, st⟩
  · dsimp only [Pt.U, Pt.locs, Pt.cells, Pt.slots] at X' e1 e2 h1 h2 h3 st
    subst h1; subst h2; subst h3
    exact Or.inl ⟨v, (T.setVm vm₁).calling g' mk (Value.ref b :: As).toArray, t, U', L, hT, X', hL, e1, e2, hq, st⟩
  · dsimp only [Pt.U, Pt.locs, Pt.cells, Pt.slots] at X' e1 e2 h1 h2 h3 st hcl
    subst h1; subst h2; subst h3
    exact Or.inr ⟨q, (T.setVm vm₁).calling g' mk (Value.ref b :: As).toArray, t, U', L, E, ce, hT, X', hL, e1, e2, hq, hce, hcv, vx_cls hW₁ hcl, st⟩
theorem vx_runSN {y : MethodName} {bytes cc : ByteArray} {maxL nL mc ms n index : Nat} {ret : Option FieldType} {ws : List Cond} {rm : Room} {Pc : Array Value → State → Prop} {Qc : Array Value → State → Outcome → State → Prop} {XC : String → State → State → Prop} {free : Addr → Prop} {Ts : List Cond} {own host : String} {As rest : List Value} {g : JFrame}
    (S : CallFix p m c cc nL s args Ts own) (hM : vx_Met l y ws rm Pc Qc XC mc ms free) (cw : va_CN R s args own index y host bytes maxL ret ws rm mc ms n ∧ (Cond.static y).before args s = true ∧ True) (hp : PreS s H Pc As)
    (hg : g.method = m) (hn : As.length = n) (hsize : g.locals.size = nL) (hstack : g.stack = As.reverse ++ rest) (hW : 2 * g.monitorRoom + (rest.map fun v => v.category).sum ≤ 8) (hdg : decode cc g.pc = .ok (.invokestatic index, 3)) (hf : cells + mc ≤ R.cells ∧ slots + ms ≤ R.slots) :
    vx_Run p l e R s m args below meth c H locs cells slots mc ms g rest (Qc As.toArray) XC free := by
  obtain ⟨⟨⟨hrc, hrs, hfr, hlo, hws, hcw⟩, hcode, hini, hy, hlen, hl⟩, hx1, hx2⟩ := cw
  have hK : vx_Back l R p e below s args y 3 8 (PreOf R mc ms Pc) (PostOf Qc mc ms free) (vx_Post XC mc ms free) := vx_back (bytes := bytes) (maxL := maxL) (ret := ret) hM hp.1 hrc hrs hfr hlo hws hcw (fun a' U hW => word_at hW (Or.inl (by first | rfl | simp [Cond.onTables, Cond.keeps, Cond.steady])) hini)
  obtain ⟨hx, hb, hml, ho, -⟩ := S
  have hPc := hp.2
  intro T hT X
  rcases vx_callSN X hx (bytes := bytes) (maxL := maxL) (ret := ret) ho hl hx1 hini hcode hy hK hg (hsize.trans hml.symm) (argsL := As) (rest := rest) (fun sig h => hn.trans (hlen sig h)) hstack hW (by rw [hb]; exact hdg)
    (fun vm₁ hW₁ => ⟨hf.1, hf.2, hPc (T.setVm vm₁) hT hW₁⟩) with ⟨v, vm₁, ⟨U', l2, c2, s2⟩, hW₁, X', ⟨g', mk, t, L, e1, e2, hq, h1, hL, h2, h3⟩, st⟩ | ⟨q, vm₁, ⟨U', l2, c2, s2⟩, hW₁, X', ⟨g', mk, t, L, E, ce, e1, e2, hq, hce, hcv, hcl, h1, hL, h2, h3⟩, st⟩
  · dsimp only [Pt.U, Pt.locs, Pt.cells, Pt.slots] at X' e1 e2 h1 h2 h3 st
    subst h1; subst h2; subst h3
    exact Or.inl ⟨v, (T.setVm vm₁).calling g' mk As.toArray, t, U', L, hT, X', hL, e1, e2, hq, st⟩
  · dsimp only [Pt.U, Pt.locs, Pt.cells, Pt.slots] at X' e1 e2 h1 h2 h3 st hcl
    subst h1; subst h2; subst h3
    exact Or.inr ⟨q, (T.setVm vm₁).calling g' mk As.toArray, t, U', L, E, ce, hT, X', hL, e1, e2, hq, hce, hcv, vx_cls hW₁ hcl, st⟩
end
/-! ===== END ===== -/
/-! ===== BEGIN .. of methods that hand back an object of the pool ===== -/
section
variable {p : Program} {l : Launch} {e : Env} {R : Room} {s : State} {m : MethodId} {args : Array Value} {below : List Frame} {meth : Method} {c : Code} {H : Heap} {locs : List Loc} {cells slots : Nat} {Q : State → Prop}
variable {mc ms : Nat} {free : Addr → Prop} {A0 A1 : Nat → Prop} {H0 : Heap} {a : Array Value} {pc : Nat} {ls : Array Slot} {st0 rest : List Value}
theorem vx_callq {S SX : Type} {post : Option Nat → S → Prop} {px : SX → Prop} {B : S → State → Prop} {BX : String → SX → State → Prop} {AX : Nat → Prop} (hr : vx_Run p l e R s m args below meth c H locs cells slots mc ms (F0 m pc ls st0) rest (va_Qq post B A1 a) (vx_X px BX AX) free) (hS : va_S A0 H0 H locs) (hA : ∀ q, q < H.size → A1 q → A0 q) (hf : ∀ q, free q → A0 q) (hAX : ∀ q, q < H.size → AX q → A0 q)
    (kx : ∀ (E : String) (ce : Cell) (q9 : Addr) (u : SX) (t : State) (H1 : Heap) (locs1 : List Loc), t.heap = H1 → s.vm.Alike t.vm → px u → BX E u t → H.size ≤ H1.size → (∀ q : Nat, q < H.size → ¬ AX q → H1[q]? = H[q]?) → va_S A0 H0 H1 locs1 → H1[q9]? = some ce → ce.vm = .none → s.vm.findClass E = some ce.cls → vx_W p l e R s m args below meth c H1 locs1 (cells + mc) (slots + ms) Q (F0 m pc ls rest) q9)
    (kk : ∀ (r : Option Nat) (u : S) (t : State) (H1 : Heap) (locs1 : List Loc), t.heap = H1 → s.vm.Alike t.vm → post r u → B u t → H.size ≤ H1.size → (∀ q : Nat, q < H.size → ¬ A1 q → H1[q]? = H[q]?) → va_S A0 H0 H1 locs1 → W p l e R s m args below meth c H1 locs1 (cells + mc) (slots + ms) Q (F0 m (pc + 3) ls (va_rf r :: rest))) : W p l e R s m args below meth c H locs cells slots Q (F0 m pc ls st0) := by
  intro T hT X
  rcases hr T hT X with ⟨v, st₀, t, T', L, h0, X', hL, e1, e2, ⟨⟨r, u, hv, hp, hb⟩, hF⟩, st⟩ | ⟨q, st₀, t, T', L, E, ce, h0, X', hL, e1, e2, ⟨u, hp, hb, hF⟩, hce, hcv, hcl, st⟩
  · cases hv
    obtain ⟨k1, k2, k3⟩ := vx_keep h0 e1 hS hA hf hL hF
    obtain ⟨t2, a1, b1⟩ := kk r u t T'.heap (locs ++ L) e1.symm (by rw [← e2]; exact X'.warmed.alike) hp hb k1 k2 k3 T' rfl X'
    exact ⟨t2, st t2 a1, b1⟩
  · obtain ⟨k1, k2, k3⟩ := vx_keep h0 e1 hS hAX hf hL hF
    obtain ⟨t2, a1, b1⟩ := kx E ce q u t T'.heap (locs ++ L) e1.symm (by rw [← e2]; exact X'.warmed.alike) hp hb k1 k2 k3 (by rw [e1]; exact hce) hcv hcl T' rfl X'
    exact ⟨t2, st.trans a1, b1⟩
end
end
section
/-! THE ABSTRACT MACHINE: cells at positions (0: null), typed data, a partial function by fuel. -/
/-- counters (cells made so far as positions, cells, slots), kind and length, ints, references, longs, doubles -/
abbrev Hp : Type := (Nat × Nat × Nat) × (Nat → Nat × Nat) × (Nat → Nat → Int32) × (Nat → Nat → Nat) × (Nat → Nat → Int64) × (Nat → Nat → UInt64)
def HN (h : Hp) : Nat := h.1.1
def HC (h : Hp) : Nat := h.1.2.1
def HS (h : Hp) : Nat := h.1.2.2
def HK (h : Hp) (a : Nat) : Nat := (h.2.1 a).1
def HL (h : Hp) (a : Nat) : Nat := (h.2.1 a).2
def HI (h : Hp) : Nat → Nat → Int32 := h.2.2.1
def HR (h : Hp) : Nat → Nat → Nat := h.2.2.2.1
def HJ (h : Hp) : Nat → Nat → Int64 := h.2.2.2.2.1
def HD (h : Hp) : Nat → Nat → UInt64 := h.2.2.2.2.2
def u2 {α : Type} (f : Nat → Nat → α) (a k : Nat) (v : α) : Nat → Nat → α := fun a' k' => if a' = a ∧ k' = k then v else f a' k'
def u1 {α : Type} (f : Nat → Nat → α) (a : Nat) (v : α) : Nat → Nat → α := fun a' k' => if a' = a then v else f a' k'
def sI (h : Hp) (a k : Nat) (v : Int32) : Hp := (h.1, h.2.1, u2 (HI h) a k v, h.2.2.2)
def sR (h : Hp) (a k : Nat) (v : Nat) : Hp := (h.1, h.2.1, h.2.2.1, u2 (HR h) a k v, h.2.2.2.2)
def sJ (h : Hp) (a k : Nat) (v : Int64) : Hp := (h.1, h.2.1, h.2.2.1, h.2.2.2.1, u2 (HJ h) a k v, h.2.2.2.2.2)
def sD (h : Hp) (a k : Nat) (v : UInt64) : Hp := (h.1, h.2.1, h.2.2.1, h.2.2.2.1, h.2.2.2.2.1, u2 (HD h) a k v)
/-- a new cell of a kind, with a length, all 0 -/
def hnew (h : Hp) (kd len : Nat) : Hp := ((HN h + 1, HC h + 1, HS h + len), (fun a => if a = HN h then (kd, len) else h.2.1 a), u1 (HI h) (HN h) 0, u1 (HR h) (HN h) 0, u1 (HJ h) (HN h) 0, u1 (HD h) (HN h) 0)
/-- new int[n][m] -/
def hnew2 (h : Hp) (n m : Nat) : Hp := ((HN h + (1 + n), HC h + (1 + n), HS h + (n + n * m)), (fun a => if a = HN h then (106, n) else if HN h < a ∧ a ≤ HN h + n then (100, m) else h.2.1 a), (fun a k => if HN h ≤ a ∧ a ≤ HN h + n then 0 else HI h a k), (fun a k => if a = HN h then (if k < n then HN h + 1 + k else 0) else if HN h < a ∧ a ≤ HN h + n then 0 else HR h a k), (fun a k => if HN h ≤ a ∧ a ≤ HN h + n then 0 else HJ h a k), (fun a k => if HN h ≤ a ∧ a ≤ HN h + n then 0 else HD h a k))
/-- an exception is made and thrown: a cell of six slots that nobody sees -/
def hthr (h : Hp) : Hp := ((HN h, HC h + 1, HS h + 6), h.2)
def hcpy (h : Hp) (sa sp da dp n : Nat) : Hp := (h.1, h.2.1, (fun a k => if a = da ∧ dp ≤ k ∧ k < dp + n then HI h sa (sp + (k - dp)) else HI h a k), h.2.2.2)
abbrev Res : Type := Option (Except Nat Value × Hp)
/-- is j an index of n places -/
def inb (j : Int32) (n : Nat) : Bool := decide (0 ≤ j) && decide (j.toNatClampNeg < n)
def gl : List Value → Nat → Value
  | [], _ => .null
  | v :: _, 0 => v
  | _ :: l, k + 1 => gl l k
def sl : List Value → Nat → Value → List Value
  | [], _, _ => []
  | _ :: l, 0, w => w :: l
  | v :: l, k + 1, w => v :: sl l k w
def popn : Nat → List Value → List Value → Option (List Value × List Value)
  | 0, st, acc => some (acc, st)
  | _ + 1, [], _ => none
  | n + 1, v :: st, acc => popn n st (v :: acc)
def wgt : List Value → Nat
  | [] => 0
  | v :: l => v.category + wgt l
def padn : Nat → List Value → List Value
  | 0, _ => []
  | n + 1, [] => .null :: padn n []
  | n + 1, v :: l => v :: padn n l
/-- what a call hands back, by the type of its answer: 0 nothing, 1 int, 2 a reference, 3 double, 4 float -/
def bV (r : Res) (f : Hp → Res) (g : Nat → Hp → Res) : Res := match r with
  | some (.ok .null, h) => f h
  | some (.error e, h) => g e h
  | _ => none
def bI (r : Res) (f : Int32 → Hp → Res) (g : Nat → Hp → Res) : Res := match r with
  | some (.ok (.int x), h) => f x h
  | some (.error e, h) => g e h
  | _ => none
def bR (r : Res) (f : Nat → Hp → Res) (g : Nat → Hp → Res) : Res := match r with
  | some (.ok (.ref x), h) => f x h
  | some (.error e, h) => g e h
  | _ => none
def bD (r : Res) (f : UInt64 → Hp → Res) (g : Nat → Hp → Res) : Res := match r with
  | some (.ok (.double x), h) => f x h
  | some (.error e, h) => g e h
  | _ => none
def bF (r : Res) (f : UInt32 → Hp → Res) (g : Nat → Hp → Res) : Res := match r with
  | some (.ok (.float x), h) => f x h
  | some (.error e, h) => g e h
  | _ => none
/-- a thrown exception at pc, against a table of (from, to, the place behind the handler's store, which, the local it stores to): there, or the way out -/
def hsel : List (Nat × Nat × Nat × Nat × Nat) → Nat → Nat → (Nat → Nat → Res) → Res → Res
  | [], _, _, _, o => o
  | r :: l, pc, e, k, o => cond (Nat.ble r.1 pc && Nat.blt pc r.2.1) (if e = r.2.2.2.1 then k r.2.2.1 r.2.2.2.2 else hsel l pc e k o) (hsel l pc e k o)
def chI (h : Hp) (a kd : Nat) (j : Int32) : Bool := Nat.beq (HK h a) kd && inb j (HL h a)
def ckK (h : Hp) (a kd : Nat) : Bool := Nat.beq (HK h a) kd
/-- may n bytes or ints be copied so -/
def bfit (h : Hp) (a sp n : Nat) : Bool := (List.range n).all (fun i => decide (-128 ≤ HI h a (sp + i)) && decide (HI h a (sp + i) ≤ 127))
def cpOK (h : Hp) (sa da : Nat) (sp dp n : Int32) (w : Nat) : Bool := ((ckK h da 102 && (ckK h sa 102 || ckK h sa 203) && bfit h sa sp.toNatClampNeg n.toNatClampNeg) || (ckK h da 100 && ckK h sa 100)) && Nat.ble w 8 && decide (sa ≠ da) && decide (0 ≤ n) && decide (0 ≤ sp) && decide (0 ≤ dp) && Nat.ble (sp.toNatClampNeg + n.toNatClampNeg) (HL h sa) && Nat.ble (dp.toNatClampNeg + n.toNatClampNeg) (HL h da)
def rkOK (rk : Nat) (as : List Value) (h : Hp) : Bool := match rk with
  | 0 => true
  | rk + 1 => match as with
    | .ref a :: _ => ckK h a (rk + 1)
    | _ => false
/-- does an int fit a type: 0 int, 1 boolean, 2 char, 3 byte -/
def fitc (t : Nat) (x : Int32) : Bool := match t with
  | 0 => true
  | 1 => decide (x = 0) || decide (x = 1)
  | 2 => decide (0 ≤ x) && decide (x ≤ 65535)
  | _ => decide (-128 ≤ x) && decide (x ≤ 127)
def cint {β : Type} (c : ClassFile.Cond) (x y : Int32) (t f : β) : β := match c with
  | .eq => if x = y then t else f
  | .ne => if x = y then f else t
  | .lt => if x < y then t else f
  | .ge => if x < y then f else t
  | .gt => if y < x then t else f
  | .le => if y < x then f else t
def tsel : List Int → Nat → Int → Int
  | [], _, d => d
  | o :: _, 0, _ => o
  | _ :: l, k + 1, d => tsel l k d
section STP
variable (hs : List (Nat × Nat × Nat × Nat × Nat)) (ks : Nat → List Value → List Value → Hp → Res) (cl : Nat → List Value → Hp → Res)
/-- a call with the arguments as and the rest of the stack st: what comes back goes on at nx, what is thrown goes to a handler or out -/
def callp (pc nx y2 rt : Nat) (ls as st : List Value) (h : Hp) : Res := match rt with
  | 0 => bV (cl y2 as h) (fun h' => ks nx ls st h') (fun e h' => hsel hs pc e (fun q k => ks q (sl ls k .null) [] h') (some (.error e, h')))
  | 1 => bI (cl y2 as h) (fun x h' => ks nx ls (.int x :: st) h') (fun e h' => hsel hs pc e (fun q k => ks q (sl ls k .null) [] h') (some (.error e, h')))
  | 2 => bR (cl y2 as h) (fun x h' => ks nx ls (.ref x :: st) h') (fun e h' => hsel hs pc e (fun q k => ks q (sl ls k .null) [] h') (some (.error e, h')))
  | 3 => bD (cl y2 as h) (fun x h' => ks nx ls (.double x :: st) h') (fun e h' => hsel hs pc e (fun q k => ks q (sl ls k .null) [] h') (some (.error e, h')))
  | _ => bF (cl y2 as h) (fun x h' => ks nx ls (.float x :: st) h') (fun e h' => hsel hs pc e (fun q k => ks q (sl ls k .null) [] h') (some (.error e, h')))
end STP
section STQ
variable {β : Type} (nn : β) (fin : Except Nat Value × Hp → β) (ks : Nat → List Value → List Value → Hp → β) (call : Nat → Nat → List Value → List Value → List Value → Hp → β) (rk : Nat → Nat) (y : Nat)
/-- one instruction, resolved: what it does, and how it goes on -/
def stp (op : Instr) (nx : Nat) (ls st : List Value) (h : Hp) : β :=
  match op with
  | .iconst v => ks nx ls (.int (Int32.ofInt v) :: st) h
  | .lconst v => ks nx ls (.long (Int64.ofNat v.val) :: st) h
  | .fconst _ => ks nx ls (.float FP.fconst0 :: st) h
  | .dconst _ => ks nx ls (.double FP.dconst0 :: st) h
  | .iload k => match gl ls k with
    | .int x => ks nx ls (.int x :: st) h
    | _ => nn
  | .aload k => match gl ls k with
    | .ref x => ks nx ls (.ref x :: st) h
    | _ => nn
  | .dload k => match gl ls k with
    | .double x => ks nx ls (.double x :: st) h
    | _ => nn
  | .fload k => match gl ls k with
    | .float x => ks nx ls (.float x :: st) h
    | _ => nn
  | .istore k => match st with
    | .int x :: st => ks nx (sl ls k (.int x)) st h
    | _ => nn
  | .astore k => match st with
    | .ref x :: st => ks nx (sl ls k (.ref x)) st h
    | _ => nn
  | .fstore k => match st with
    | .float x :: st => ks nx (sl ls k (.float x)) st h
    | _ => nn
  | .dstore k => match st with
    | .double x :: st => ks nx (sl (sl ls k (.double x)) (k + 1) .null) st h
    | _ => nn
  | .iinc k v => match gl ls k with
    | .int x => ks nx (sl ls k (.int (x + Int32.ofInt v))) st h
    | _ => nn
  | .iadd => match st with
    | .int y :: .int x :: st => ks nx ls (.int (x + y) :: st) h
    | _ => nn
  | .isub => match st with
    | .int y :: .int x :: st => ks nx ls (.int (x - y) :: st) h
    | _ => nn
  | .imul => match st with
    | .int y :: .int x :: st => ks nx ls (.int (x * y) :: st) h
    | _ => nn
  | .iand => match st with
    | .int y :: .int x :: st => ks nx ls (.int (x &&& y) :: st) h
    | _ => nn
  | .ior => match st with
    | .int y :: .int x :: st => ks nx ls (.int (x ||| y) :: st) h
    | _ => nn
  | .ixor => match st with
    | .int y :: .int x :: st => ks nx ls (.int (x ^^^ y) :: st) h
    | _ => nn
  | .ishl => match st with
    | .int y :: .int x :: st => ks nx ls (.int (x <<< (y &&& 31)) :: st) h
    | _ => nn
  | .ishr => match st with
    | .int y :: .int x :: st => ks nx ls (.int (x >>> (y &&& 31)) :: st) h
    | _ => nn
  | .iushr => match st with
    | .int y :: .int x :: st => ks nx ls (.int (x.toUInt32 >>> (y.toUInt32 &&& Int32.toUInt32 31)).toInt32 :: st) h
    | _ => nn
  | .ineg => match st with
    | .int x :: st => ks nx ls (.int (-x) :: st) h
    | _ => nn
  | .idiv => match st with
    | .int y :: .int x :: st => if y = 0 then nn else ks nx ls (.int (x / y) :: st) h
    | _ => nn
  | .irem => match st with
    | .int y :: .int x :: st => if y = 0 then nn else ks nx ls (.int (x - x / y * y) :: st) h
    | _ => nn
  | .i2b => match st with
    | .int x :: st => ks nx ls (.int x.toInt8.toInt32 :: st) h
    | _ => nn
  | .i2c => match st with
    | .int x :: st => ks nx ls (.int (x.toUInt32 % 65536).toInt32 :: st) h
    | _ => nn
  | .i2l => match st with
    | .int x :: st => ks nx ls (.long x.toInt64 :: st) h
    | _ => nn
  | .i2d => match st with
    | .int x :: st => ks nx ls (.double (FP.i2d x) :: st) h
    | _ => nn
  | .i2f => match st with
    | .int x :: st => ks nx ls (.float (FP.i2f x) :: st) h
    | _ => nn
  | .f2d => match st with
    | .float x :: st => if FP.f2d x &&& 0x7fffffffffffffff ≤ 0x7ff0000000000000 then ks nx ls (.double (FP.f2d x) :: st) h else nn
    | _ => nn
  | .ddiv => match st with
    | .double y :: .double x :: st => if FP.ddiv x y &&& 0x7fffffffffffffff ≤ 0x7ff0000000000000 then ks nx ls (.double (FP.ddiv x y) :: st) h else nn
    | _ => nn
  | .fdiv => match st with
    | .float y :: .float x :: st => if FP.fdiv x y &&& 0x7fffffff ≤ 0x7f800000 then ks nx ls (.float (FP.fdiv x y) :: st) h else nn
    | _ => nn
  | .lcmp => match st with
    | .long y :: .long x :: st => ks nx ls (.int (lg_cmp x y) :: st) h
    | _ => nn
  | .dcmp o => match st with
    | .double y :: .double x :: st => ks nx ls (.int (Op.cmpValue (FP.dcmp x y) o) :: st) h
    | _ => nn
  | .fcmp o => match st with
    | .float y :: .float x :: st => ks nx ls (.int (Op.cmpValue (FP.fcmp x y) o) :: st) h
    | _ => nn
  | .dup => match st with
    | .int x :: st => ks nx ls (.int x :: .int x :: st) h
    | .ref x :: st => ks nx ls (.ref x :: .ref x :: st) h
    | _ => nn
  | .dup_x1 => match st with
    | .int x :: .ref a :: st => ks nx ls (.int x :: .ref a :: .int x :: st) h
    | .int x :: .int a :: st => ks nx ls (.int x :: .int a :: .int x :: st) h
    | _ => nn
  | .dup2 => match st with
    | .int x :: .ref a :: st => ks nx ls (.int x :: .ref a :: .int x :: .ref a :: st) h
    | _ => nn
  | .pop => match st with
    | .int _ :: st => ks nx ls st h
    | .ref _ :: st => ks nx ls st h
    | _ => nn
  | .goto t => ks t.toNat ls st h
  | .ifCond c t => match st with
    | .int x :: st => cint c x 0 (ks t.toNat ls st h) (ks nx ls st h)
    | _ => nn
  | .if_icmp c t => match st with
    | .int y :: .int x :: st => cint c x y (ks t.toNat ls st h) (ks nx ls st h)
    | _ => nn
  | .ifnonnull t => match st with
    | .ref a :: st => cond (Nat.blt 0 (HK h a)) (ks t.toNat ls st h) nn
    | _ => nn
  | .tableswitch d lo hi os => match st with
    | .int x :: st => if x.toInt < lo then ks d.toNat ls st h else if hi < x.toInt then ks d.toNat ls st h else ks (tsel os.toList (x.toInt - lo).toNat d).toNat ls st h
    | _ => nn
  | .getfield n => match st with
    | .ref a :: st => cond (ckK h a (n / 64)) (match n % 2 with
      | 0 => ks nx ls (.int (HI h a (n / 2 % 32)) :: st) h
      | _ => ks nx ls (.ref (HR h a (n / 2 % 32)) :: st) h) nn
    | _ => nn
  | .putfield n => match st with
    | .int x :: .ref a :: st => cond (Nat.beq (n % 2) 0) (cond (ckK h a (n / 64 % 16)) (match n / 1024 with
      | 0 => ks nx ls st (sI h a (n / 2 % 32) x)
      | t + 1 => cond (fitc (t + 1) x) (ks nx ls st (sI h a (n / 2 % 32) x)) nn) nn) nn
    | .ref x :: .ref a :: st => cond (Nat.beq (n % 2) 1) (cond (ckK h a (n / 64 % 16)) (ks nx ls st (sR h a (n / 2 % 32) x)) nn) nn
    | _ => nn
  | .getstatic a => ks nx ls (.ref a :: st) h
  | .new n => ks nx ls (.ref (HN h) :: st) (hnew h (n / 32) (n % 32))
  | .newarray t => match st with
    | .int n :: st => cond (decide (0 ≤ n) && decide (n ≤ 100000)) (ks nx ls (.ref (HN h) :: st) (hnew h (match t with | .int => 100 | .char => 101 | .byte => 102 | .long => 104 | .double => 105 | _ => 0) n.toNatClampNeg)) nn
    | _ => nn
  | .anewarray kd => match st with
    | .int n :: st => cond (decide (0 ≤ n) && decide (n ≤ 100)) (ks nx ls (.ref (HN h) :: st) (hnew h kd n.toNatClampNeg)) nn
    | _ => nn
  | .multianewarray _ _ => match st with
    | .int m :: .int n :: st => cond (decide (0 ≤ n) && decide (n ≤ 100) && decide (0 ≤ m) && decide (m ≤ 100)) (ks nx ls (.ref (HN h) :: st) (hnew2 h n.toNatClampNeg m.toNatClampNeg)) nn
    | _ => nn
  | .arraylength => match st with
    | .ref a :: st => cond (Nat.ble 100 (HK h a)) (ks nx ls (.int (Int32.ofNat (HL h a)) :: st) h) nn
    | _ => nn
  | .iaload => match st with
    | .int j :: .ref a :: st => cond (chI h a 100 j) (ks nx ls (.int (HI h a j.toNatClampNeg) :: st) h) nn
    | _ => nn
  | .saload => match st with
    | .int j :: .ref a :: st => cond (chI h a 200 j) (ks nx ls (.int (HI h a j.toNatClampNeg) :: st) h) nn
    | _ => nn
  | .caload => match st with
    | .int j :: .ref a :: st => cond (chI h a 101 j) (ks nx ls (.int (HI h a j.toNatClampNeg) :: st) h) nn
    | _ => nn
  | .baload => match st with
    | .int j :: .ref a :: st => cond (chI h a 102 j) (ks nx ls (.int (HI h a j.toNatClampNeg) :: st) h) nn
    | _ => nn
  | .faload => match st with
    | .int j :: .ref a :: st => cond (chI h a 203 j) (ks nx ls (.int (HI h a j.toNatClampNeg) :: st) h) nn
    | _ => nn
  | .laload => match st with
    | .int j :: .ref a :: st => cond (chI h a 104 j) (ks nx ls (.long (HJ h a j.toNatClampNeg) :: st) h) nn
    | _ => nn
  | .daload => match st with
    | .int j :: .ref a :: st => cond (chI h a 105 j) (ks nx ls (.double (HD h a j.toNatClampNeg) :: st) h) nn
    | _ => nn
  | .aaload => match st with
    | .int j :: .ref a :: st => cond ((Nat.beq (HK h a) 106 || Nat.beq (HK h a) 107) && inb j (HL h a)) (ks nx ls (.ref (HR h a j.toNatClampNeg) :: st) h) nn
    | _ => nn
  | .iastore => match st with
    | .int x :: .int j :: .ref a :: st => cond (chI h a 100 j) (ks nx ls st (sI h a j.toNatClampNeg x)) nn
    | _ => nn
  | .castore => match st with
    | .int x :: .int j :: .ref a :: st => cond (chI h a 101 j && fitc 2 x) (ks nx ls st (sI h a j.toNatClampNeg x)) nn
    | _ => nn
  | .bastore => match st with
    | .int x :: .int j :: .ref a :: st => cond (chI h a 102 j && fitc 3 x) (ks nx ls st (sI h a j.toNatClampNeg x)) nn
    | _ => nn
  | .lastore => match st with
    | .long x :: .int j :: .ref a :: st => cond (chI h a 104 j) (ks nx ls st (sJ h a j.toNatClampNeg x)) nn
    | _ => nn
  | .dastore => match st with
    | .double x :: .int j :: .ref a :: st => cond (chI h a 105 j) (ks nx ls st (sD h a j.toNatClampNeg x)) nn
    | _ => nn
  | .aastore => match st with
    | .ref x :: .int j :: .ref a :: st => cond (chI h a 107 j && ckK h x 2) (ks nx ls st (sR h a j.toNatClampNeg x)) nn
    | _ => nn
  | .invokeinterface y2 c => match popn (c / 8) st [] with
    | some (as, st) => cond (Nat.blt y2 y && Nat.ble (wgt st) 8 && Nat.beq (wgt as) as.length) (cond (rkOK (rk y2) as h) (call y2 (c % 8) ls as st h) nn) nn
    | none => nn
  | .invokespecial _ => match st with
    | .ref a :: st => cond (Nat.blt 0 (HK h a) && Nat.ble (wgt st) 8) (ks nx ls st h) nn
    | _ => nn
  | .invokedynamic e => cond (Nat.ble (wgt st) 8) (fin (.error e, hthr h)) nn
  | .invokestatic n => match n with
    | 0 => match st with
      | .int n :: .int dp :: .ref da :: .int sp :: .ref sa :: st => cond (cpOK h sa da sp dp n (wgt st)) (ks nx ls st (hcpy h sa sp.toNatClampNeg da dp.toNatClampNeg n.toNatClampNeg)) nn
      | _ => nn
    | 1 => match st with
      | .int y :: .int x :: st => cond (Nat.ble (wgt st) 8) (ks nx ls (.int (if y < x then y else x) :: st) h) nn
      | _ => nn
    | 2 => match st with
      | .int y :: .int x :: st => cond (Nat.ble (wgt st) 8) (ks nx ls (.int (if x < y then y else x) :: st) h) nn
      | _ => nn
    | _ => match st with
      | .int x :: st => cond (Nat.ble (wgt st) 8) (ks nx ls (.int (if 0 ≤ x then x else 0 - x) :: st) h) nn
      | _ => nn
  | .ireturn => match st with
    | [.int x] => fin (.ok (.int x), h)
    | _ => nn
  | .ret t => match st with
    | [.int x] => cond (fitc t x) (fin (.ok (.int x), h)) nn
    | _ => nn
  | .areturn => match st with
    | [.ref x] => fin (.ok (.ref x), h)
    | _ => nn
  | .dreturn => match st with
    | [.double x] => fin (.ok (.double x), h)
    | _ => nn
  | .freturn => match st with
    | [.float x] => fin (.ok (.float x), h)
    | _ => nn
  | .return_ => match st with
    | [] => fin (.ok .null, h)
    | _ => nn
  | _ => nn
end STQ
end
section
/-! THE CODE: of each method its rows (place, instruction, next place, what the abstract machine does), in buckets of 64 places; methods are numbered callees first. Printed by program out of the Statement. -/
/-- RecordReconciler$KeyTable.<init>()V -/
noncomputable def ct_0 : List (List (Nat × Instr × Nat × Instr)) := [[(0, .aload_n 0, 1, .aload 0), (1, .invokespecial 3, 4, .invokespecial 0), (4, .aload_n 0, 5, .aload 0), (5, .bipush 30, 7, .iconst 30), (7, .newarray .int, 9, .newarray .int), (9, .putfield 9, 12, .putfield 321), (12, .aload_n 0, 13, .aload 0), (13, .iconst 3, 14, .iconst 3), (14, .bipush 30, 16, .iconst 30), (16, .multianewarray 15 2, 20, .multianewarray 106 2), (20, .putfield 17, 23, .putfield 323), (23, .aload_n 0, 24, .aload 0), (24, .iconst 3, 25, .iconst 3), (25, .bipush 30, 27, .iconst 30), (27, .multianewarray 15 2, 31, .multianewarray 106 2), (31, .putfield 20, 34, .putfield 325), (34, .aload_n 0, 35, .aload 0), (35, .iconst 0, 36, .iconst 0), (36, .putfield 23, 39, .putfield 326), (39, .aload_n 0, 40, .aload 0), (40, .iconst 0, 41, .iconst 0), (41, .putfield 27, 44, .putfield 328), (44, .return_, 45, .return_)]]
/-- RecordReconciler$Batch.<init>()V -/
noncomputable def ct_1 : List (List (Nat × Instr × Nat × Instr)) := [[(0, .aload_n 0, 1, .aload 0), (1, .invokespecial 3, 4, .invokespecial 0), (4, .aload_n 0, 5, .aload 0), (5, .bipush 12, 7, .iconst 12), (7, .newarray .int, 9, .newarray .int), (9, .putfield 9, 12, .putfield 65), (12, .aload_n 0, 13, .aload 0), (13, .bipush 12, 15, .iconst 12), (15, .newarray .int, 17, .newarray .int), (17, .putfield 15, 20, .putfield 67), (20, .aload_n 0, 21, .aload 0), (21, .bipush 12, 23, .iconst 12), (23, .newarray .int, 25, .newarray .int), (25, .putfield 18, 28, .putfield 69), (28, .aload_n 0, 29, .aload 0), (29, .iconst 0, 30, .iconst 0), (30, .putfield 21, 33, .putfield 70), (33, .return_, 34, .return_)]]
/-- RecordReconciler$Book.<init>()V -/
noncomputable def ct_2 : List (List (Nat × Instr × Nat × Instr)) := [[(0, .aload_n 0, 1, .aload 0), (1, .invokespecial 3, 4, .invokespecial 0), (4, .aload_n 0, 5, .aload 0), (5, .new 9, 8, .new 165), (8, .dup, 9, .dup), (9, .invokespecial 11, 12, .invokeinterface 0 8), (12, .putfield 12, 15, .putfield 129), (15, .aload_n 0, 16, .aload 0), (16, .new 18, 19, .new 36), (19, .dup, 20, .dup), (20, .invokespecial 20, 23, .invokeinterface 1 8), (23, .putfield 21, 26, .putfield 131), (26, .aload_n 0, 27, .aload 0), (27, .iconst 3, 28, .iconst 3), (28, .newarray .int, 30, .newarray .int), (30, .putfield 25, 33, .putfield 133), (33, .aload_n 0, 34, .aload 0), (34, .bipush 7, 36, .iconst 7), (36, .newarray .int, 38, .newarray .int), (38, .putfield 29, 41, .putfield 135), (41, .aload_n 0, 42, .aload 0), (42, .iconst 0, 43, .iconst 0), (43, .putfield 32, 46, .putfield 136), (46, .iconst 0, 47, .iconst 0), (47, .istore_n 1, 48, .istore 1), (48, .iload_n 1, 49, .iload 1), (49, .iconst 3, 50, .iconst 3), (50, .if_icmp .ge 16, 53, .if_icmp .ge 66), (53, .aload_n 0, 54, .aload 0), (54, .getfield 25, 57, .getfield 133), (57, .iload_n 1, 58, .iload 1), (58, .iconst 5, 59, .iconst 5), (59, .iastore, 60, .iastore), (60, .iinc 1 1, 63, .iinc 1 1), (63, .goto (-15), 66, .goto 48)],
  [(66, .return_, 67, .return_)]]
/-- RecordReconciler$History.<init>()V -/
noncomputable def ct_3 : List (List (Nat × Instr × Nat × Instr)) := [[(0, .aload_n 0, 1, .aload 0), (1, .invokespecial 3, 4, .invokespecial 0), (4, .aload_n 0, 5, .aload 0), (5, .bipush 8, 7, .iconst 8), (7, .anewarray 9, 10, .anewarray 107), (10, .putfield 11, 13, .putfield 257), (13, .aload_n 0, 14, .aload 0), (14, .iconst 0, 15, .iconst 0), (15, .putfield 17, 18, .putfield 258), (18, .aload_n 0, 19, .aload 0), (19, .iconst 0, 20, .iconst 0), (20, .putfield 21, 23, .putfield 260), (23, .iconst 0, 24, .iconst 0), (24, .istore_n 1, 25, .istore 1), (25, .iload_n 1, 26, .iload 1), (26, .bipush 8, 28, .iconst 8), (28, .if_icmp .ge 22, 31, .if_icmp .ge 50), (31, .aload_n 0, 32, .aload 0), (32, .getfield 11, 35, .getfield 257), (35, .iload_n 1, 36, .iload 1), (36, .new 9, 39, .new 69), (39, .dup, 40, .dup), (40, .invokespecial 24, 43, .invokeinterface 2 8), (43, .aastore, 44, .aastore), (44, .iinc 1 1, 47, .iinc 1 1), (47, .goto (-22), 50, .goto 25), (50, .return_, 51, .return_)]]
/-- RecordReconciler$Program.<init>()V -/
noncomputable def ct_4 : List (List (Nat × Instr × Nat × Instr)) := [[(0, .aload_n 0, 1, .aload 0), (1, .invokespecial 3, 4, .invokespecial 0), (4, .aload_n 0, 5, .aload 0), (5, .bipush 60, 7, .iconst 60), (7, .newarray .char, 9, .newarray .char), (9, .putfield 9, 12, .putfield 449), (12, .aload_n 0, 13, .aload 0), (13, .iconst 0, 14, .iconst 0), (14, .putfield 15, 17, .putfield 450), (17, .aload_n 0, 18, .aload 0), (18, .bipush 60, 20, .iconst 60), (20, .newarray .int, 22, .newarray .int), (22, .putfield 19, 25, .putfield 453), (25, .aload_n 0, 26, .aload 0), (26, .bipush 60, 28, .iconst 60), (28, .newarray .char, 30, .newarray .char), (30, .putfield 23, 33, .putfield 455), (33, .aload_n 0, 34, .aload 0), (34, .bipush 60, 36, .iconst 60), (36, .newarray .int, 38, .newarray .int), (38, .putfield 26, 41, .putfield 457), (41, .aload_n 0, 42, .aload 0), (42, .bipush 60, 44, .iconst 60), (44, .newarray .int, 46, .newarray .int), (46, .putfield 29, 49, .putfield 459), (49, .aload_n 0, 50, .aload 0), (50, .iconst 0, 51, .iconst 0), (51, .putfield 32, 54, .putfield 460), (54, .aload_n 0, 55, .aload 0), (55, .iconst 0, 56, .iconst 0), (56, .putfield 35, 59, .putfield 462), (59, .return_, 60, .return_)]]
/-- RecordReconciler$Matching.<init>()V -/
noncomputable def ct_5 : List (List (Nat × Instr × Nat × Instr)) := [[(0, .aload_n 0, 1, .aload 0), (1, .invokespecial 3, 4, .invokespecial 0), (4, .aload_n 0, 5, .aload 0), (5, .bipush 30, 7, .iconst 30), (7, .newarray .int, 9, .newarray .int), (9, .putfield 9, 12, .putfield 385), (12, .aload_n 0, 13, .aload 0), (13, .bipush 30, 15, .iconst 30), (15, .newarray .int, 17, .newarray .int), (17, .putfield 15, 20, .putfield 387), (20, .aload_n 0, 21, .aload 0), (21, .bipush 30, 23, .iconst 30), (23, .newarray .int, 25, .newarray .int), (25, .putfield 18, 28, .putfield 389), (28, .aload_n 0, 29, .aload 0), (29, .bipush 30, 31, .iconst 30), (31, .newarray .int, 33, .newarray .int), (33, .putfield 21, 36, .putfield 391), (36, .aload_n 0, 37, .aload 0), (37, .bipush 30, 39, .iconst 30), (39, .newarray .int, 41, .newarray .int), (41, .putfield 24, 44, .putfield 393), (44, .aload_n 0, 45, .aload 0), (45, .bipush 30, 47, .iconst 30), (47, .newarray .int, 49, .newarray .int), (49, .putfield 27, 52, .putfield 395), (52, .aload_n 0, 53, .aload 0), (53, .bipush 30, 55, .iconst 30), (55, .newarray .int, 57, .newarray .int), (57, .putfield 30, 60, .putfield 397), (60, .aload_n 0, 61, .aload 0), (61, .iconst 0, 62, .iconst 0), (62, .putfield 33, 65, .putfield 398)],
  [(65, .aload_n 0, 66, .aload 0), (66, .iconst (-1), 67, .iconst (-1)), (67, .putfield 37, 70, .putfield 400), (70, .return_, 71, .return_)]]
/-- RecordReconciler$Groups.<init>()V -/
noncomputable def ct_6 : List (List (Nat × Instr × Nat × Instr)) := [[(0, .aload_n 0, 1, .aload 0), (1, .invokespecial 3, 4, .invokespecial 0), (4, .aload_n 0, 5, .aload 0), (5, .bipush 30, 7, .iconst 30), (7, .newarray .int, 9, .newarray .int), (9, .putfield 9, 12, .putfield 193), (12, .aload_n 0, 13, .aload 0), (13, .bipush 30, 15, .iconst 30), (15, .newarray .int, 17, .newarray .int), (17, .putfield 15, 20, .putfield 195), (20, .aload_n 0, 21, .aload 0), (21, .bipush 30, 23, .iconst 30), (23, .newarray .int, 25, .newarray .int), (25, .putfield 18, 28, .putfield 197), (28, .aload_n 0, 29, .aload 0), (29, .iconst 0, 30, .iconst 0), (30, .putfield 21, 33, .putfield 198), (33, .return_, 34, .return_)]]
/-- AbstractStringBuilder.<init>(I)V -/
noncomputable def ct_7 : List (List (Nat × Instr × Nat × Instr)) := [[(0, .aload_n 0, 1, .aload 0), (1, .invokespecial 3, 4, .invokespecial 0), (4, .getstatic 18, 7, .iconst 1), (7, .ifCond .eq 18, 10, .ifCond .eq 25), (10, .aload_n 0, 11, .aload 0), (11, .iload_n 1, 12, .iload 1), (12, .newarray .byte, 14, .newarray .byte), (14, .putfield 15, 17, .putfield 641), (17, .aload_n 0, 18, .aload 0), (18, .iconst 0, 19, .iconst 0), (19, .putfield 22, 22, .putfield 3714), (22, .goto 16, 25, .goto 38), (25, .aload_n 0, 26, .aload 0), (26, .iload_n 1, 27, .iload 1), (30, .putfield 15, 33, .putfield 641), (33, .aload_n 0, 34, .aload 0), (34, .iconst 1, 35, .iconst 1), (35, .putfield 22, 38, .putfield 3714), (38, .return_, 39, .return_)]]
/-- StringBuilder.<init>()V -/
noncomputable def ct_8 : List (List (Nat × Instr × Nat × Instr)) := [[(0, .aload_n 0, 1, .aload 0), (1, .bipush 16, 3, .iconst 16), (3, .invokespecial 1, 6, .invokeinterface 7 16), (6, .return_, 7, .return_)]]
/-- RecordReconciler.<init>()V -/
noncomputable def ct_9 : List (List (Nat × Instr × Nat × Instr)) := [[(0, .aload_n 0, 1, .aload 0), (1, .invokespecial 1, 4, .invokespecial 0), (4, .aload_n 0, 5, .aload 0), (5, .new 7, 8, .new 69), (8, .dup, 9, .dup), (9, .invokespecial 9, 12, .invokeinterface 2 8), (12, .putfield 10, 15, .putfield 513), (15, .aload_n 0, 16, .aload 0), (16, .new 7, 19, .new 69), (19, .dup, 20, .dup), (20, .invokespecial 9, 23, .invokeinterface 2 8), (23, .putfield 16, 26, .putfield 515), (26, .aload_n 0, 27, .aload 0), (27, .new 7, 30, .new 69), (30, .dup, 31, .dup), (31, .invokespecial 9, 34, .invokeinterface 2 8), (34, .putfield 19, 37, .putfield 517), (37, .aload_n 0, 38, .aload 0), (38, .new 22, 41, .new 131), (41, .dup, 42, .dup), (42, .invokespecial 24, 45, .invokeinterface 3 8), (45, .putfield 25, 48, .putfield 519), (48, .aload_n 0, 49, .aload 0), (49, .new 29, 52, .new 232), (52, .dup, 53, .dup), (53, .invokespecial 31, 56, .invokeinterface 4 8), (56, .putfield 32, 59, .putfield 521), (59, .aload_n 0, 60, .aload 0), (60, .new 36, 63, .new 201), (63, .dup, 64, .dup)],
  [(64, .invokespecial 38, 67, .invokeinterface 5 8), (67, .putfield 39, 70, .putfield 523), (70, .aload_n 0, 71, .aload 0), (71, .new 43, 74, .new 100), (74, .dup, 75, .dup), (75, .invokespecial 45, 78, .invokeinterface 6 8), (78, .putfield 46, 81, .putfield 525), (81, .aload_n 0, 82, .aload 0), (82, .new 50, 85, .new 324), (85, .dup, 86, .dup), (86, .invokespecial 52, 89, .invokeinterface 8 8), (89, .putfield 53, 92, .putfield 527), (92, .aload_n 0, 93, .aload 0), (93, .iconst 0, 94, .iconst 0), (94, .putfield 57, 97, .putfield 1552), (97, .aload_n 0, 98, .aload 0), (98, .iconst (-1), 99, .iconst (-1)), (99, .putfield 61, 102, .putfield 530), (102, .aload_n 0, 103, .aload 0), (103, .iconst (-1), 104, .iconst (-1)), (104, .putfield 65, 107, .putfield 532), (107, .return_, 108, .return_)]]
/-- RecordReconciler.isKey(I)Z -/
noncomputable def ct_10 : List (List (Nat × Instr × Nat × Instr)) := [[(0, .iload_n 0, 1, .iload 0), (1, .ifCond .lt 14, 4, .ifCond .lt 15), (4, .iload_n 0, 5, .iload 0), (5, .sipush 999, 8, .iconst 999), (8, .if_icmp .gt 7, 11, .if_icmp .gt 15), (11, .iconst 1, 12, .iconst 1), (12, .goto 4, 15, .goto 16), (15, .iconst 0, 16, .iconst 0), (16, .ireturn, 17, .ret 1)]]
/-- RecordReconciler.requireKey(I)V -/
noncomputable def ct_11 : List (List (Nat × Instr × Nat × Instr)) := [[(0, .iload_n 0, 1, .iload 0), (1, .invokestatic 347, 4, .invokeinterface 10 9), (4, .ifCond .ne 14, 7, .ifCond .ne 18), (7, .new 86, 10, .invokedynamic 1), (10, .dup, 11, .dup), (18, .return_, 19, .return_)]]
/-- RecordReconciler$KeyTable.rowOf(I)I -/
noncomputable def ct_12 : List (List (Nat × Instr × Nat × Instr)) := [[(0, .iconst 0, 1, .iconst 0), (1, .istore_n 2, 2, .istore 2), (2, .iload_n 2, 3, .iload 2), (3, .aload_n 0, 4, .aload 0), (4, .getfield 23, 7, .getfield 326), (7, .if_icmp .ge 21, 10, .if_icmp .ge 28), (10, .aload_n 0, 11, .aload 0), (11, .getfield 9, 14, .getfield 321), (14, .iload_n 2, 15, .iload 2), (15, .iaload, 16, .iaload), (16, .iload_n 1, 17, .iload 1), (17, .if_icmp .ne 5, 20, .if_icmp .ne 22), (20, .iload_n 2, 21, .iload 2), (21, .ireturn, 22, .ireturn), (22, .iinc 2 1, 25, .iinc 2 1), (25, .goto (-23), 28, .goto 2), (28, .iconst (-1), 29, .iconst (-1)), (29, .ireturn, 30, .ireturn)]]
/-- RecordReconciler.requireRow(I)I -/
noncomputable def ct_13 : List (List (Nat × Instr × Nat × Instr)) := [[(0, .iload_n 1, 1, .iload 1), (1, .invokestatic 156, 4, .invokeinterface 11 8), (4, .aload_n 0, 5, .aload 0), (5, .getfield 10, 8, .getfield 513), (8, .getfield 139, 11, .getfield 129), (11, .iload_n 1, 12, .iload 1), (12, .invokevirtual 355, 15, .invokeinterface 12 17), (15, .istore_n 2, 16, .istore 2), (16, .iload_n 2, 17, .iload 2), (17, .ifCond .ge 14, 20, .ifCond .ge 31), (20, .new 93, 23, .invokedynamic 4), (23, .dup, 24, .dup), (31, .iload_n 2, 32, .iload 2), (32, .ireturn, 33, .ireturn)]]
/-- RecordReconciler$KeyTable.votesFor(II)I -/
noncomputable def ct_14 : List (List (Nat × Instr × Nat × Instr)) := [[(0, .iconst 0, 1, .iconst 0), (1, .istore_n 3, 2, .istore 3), (2, .iconst 0, 3, .iconst 0), (3, .istore 4, 5, .istore 4), (5, .iload 4, 7, .iload 4), (7, .iconst 3, 8, .iconst 3), (8, .if_icmp .ge 25, 11, .if_icmp .ge 33), (11, .aload_n 0, 12, .aload 0), (12, .getfield 17, 15, .getfield 323), (15, .iload 4, 17, .iload 4), (17, .aaload, 18, .aaload), (18, .iload_n 2, 19, .iload 2), (19, .iaload, 20, .iaload), (20, .iload_n 1, 21, .iload 1), (21, .if_icmp .ne 6, 24, .if_icmp .ne 27), (24, .iinc 3 1, 27, .iinc 3 1), (27, .iinc 4 1, 30, .iinc 4 1), (30, .goto (-25), 33, .goto 5), (33, .iload_n 3, 34, .iload 3), (34, .ireturn, 35, .ireturn)]]
/-- RecordReconciler$KeyTable.acceptedAt(I)I -/
noncomputable def ct_15 : List (List (Nat × Instr × Nat × Instr)) := [[(0, .iconst 0, 1, .iconst 0), (1, .istore_n 2, 2, .istore 2), (2, .iconst 0, 3, .iconst 0), (3, .istore_n 3, 4, .istore 3), (4, .iconst 0, 5, .iconst 0), (5, .istore 4, 7, .istore 4), (7, .iload 4, 9, .iload 4), (9, .iconst 3, 10, .iconst 3), (10, .if_icmp .ge 61, 13, .if_icmp .ge 71), (13, .aload_n 0, 14, .aload 0), (14, .getfield 17, 17, .getfield 323), (17, .iload 4, 19, .iload 4), (19, .aaload, 20, .aaload), (20, .iload_n 1, 21, .iload 1), (21, .iaload, 22, .iaload), (22, .istore 5, 24, .istore 5), (24, .iload 5, 26, .iload 5), (26, .ifCond .ne 6, 29, .ifCond .ne 32), (29, .goto 36, 32, .goto 65), (32, .aload_n 0, 33, .aload 0), (33, .iload 5, 35, .iload 5), (35, .iload_n 1, 36, .iload 1), (36, .invokevirtual 54, 39, .invokeinterface 14 25), (39, .istore 6, 41, .istore 6), (41, .iload 6, 43, .iload 6), (43, .iload_n 3, 44, .iload 3), (44, .if_icmp .gt 15, 47, .if_icmp .gt 59), (47, .iload 6, 49, .iload 6), (49, .iload_n 3, 50, .iload 3), (50, .if_icmp .ne 15, 53, .if_icmp .ne 65), (53, .iload 5, 55, .iload 5), (55, .iload_n 2, 56, .iload 2), (56, .if_icmp .ge 9, 59, .if_icmp .ge 65), (59, .iload 5, 61, .iload 5), (61, .istore_n 2, 62, .istore 2), (62, .iload 6, 64, .iload 6)],
  [(64, .istore_n 3, 65, .istore 3), (65, .iinc 4 1, 68, .iinc 4 1), (68, .goto (-61), 71, .goto 7), (71, .iload_n 2, 72, .iload 2), (72, .ireturn, 73, .ireturn)]]
/-- RecordReconciler.acceptedAmount(I)I -/
noncomputable def ct_16 : List (List (Nat × Instr × Nat × Instr)) := [[(0, .aload_n 0, 1, .aload 0), (1, .getfield 10, 4, .getfield 513), (4, .getfield 139, 7, .getfield 129), (7, .aload_n 0, 8, .aload 0), (8, .iload_n 1, 9, .iload 1), (9, .invokevirtual 190, 12, .invokeinterface 13 17), (12, .invokevirtual 202, 15, .invokeinterface 15 17), (15, .ireturn, 16, .ireturn)]]
/-- RecordReconciler.acceptedTotal()I -/
noncomputable def ct_17 : List (List (Nat × Instr × Nat × Instr)) := [[(0, .iconst 0, 1, .iconst 0), (1, .istore_n 1, 2, .istore 1), (2, .iconst 0, 3, .iconst 0), (3, .istore_n 2, 4, .istore 2), (4, .iload_n 2, 5, .iload 2), (5, .aload_n 0, 6, .aload 0), (6, .getfield 10, 9, .getfield 513), (9, .getfield 139, 12, .getfield 129), (12, .getfield 205, 15, .getfield 326), (15, .if_icmp .ge 23, 18, .if_icmp .ge 38), (18, .iload_n 1, 19, .iload 1), (19, .aload_n 0, 20, .aload 0), (20, .getfield 10, 23, .getfield 513), (23, .getfield 139, 26, .getfield 129), (26, .iload_n 2, 27, .iload 2), (27, .invokevirtual 202, 30, .invokeinterface 15 17), (30, .iadd, 31, .iadd), (31, .istore_n 1, 32, .istore 1), (32, .iinc 2 1, 35, .iinc 2 1), (35, .goto (-31), 38, .goto 4), (38, .iload_n 1, 39, .iload 1), (39, .ireturn, 40, .ireturn)]]
/-- RecordReconciler.indexOf(C)I -/
noncomputable def ct_18 : List (List (Nat × Instr × Nat × Instr)) := [[(0, .iload_n 0, 1, .iload 0), (1, .bipush 97, 3, .iconst 97), (3, .if_icmp .lt 16, 6, .if_icmp .lt 19), (6, .iload_n 0, 7, .iload 0), (7, .bipush 99, 9, .iconst 99), (9, .if_icmp .gt 10, 12, .if_icmp .gt 19), (12, .iload_n 0, 13, .iload 0), (13, .bipush 97, 15, .iconst 97), (15, .isub, 16, .isub), (16, .goto 4, 19, .goto 20), (19, .iconst (-1), 20, .iconst (-1)), (20, .ireturn, 21, .ireturn)]]
/-- RecordReconciler.requireSource(C)I -/
noncomputable def ct_19 : List (List (Nat × Instr × Nat × Instr)) := [[(0, .iload_n 0, 1, .iload 0), (1, .invokestatic 170, 4, .invokeinterface 18 9), (4, .istore_n 1, 5, .istore 1), (5, .iload_n 1, 6, .iload 1), (6, .ifCond .ge 14, 9, .ifCond .ge 20), (9, .new 86, 12, .invokedynamic 1), (12, .dup, 13, .dup), (20, .iload_n 1, 21, .iload 1), (21, .ireturn, 22, .ireturn)]]
/-- RecordReconciler$KeyTable.rowOfRecord(II)I -/
noncomputable def ct_20 : List (List (Nat × Instr × Nat × Instr)) := [[(0, .aload_n 0, 1, .aload 0), (1, .iload_n 2, 2, .iload 2), (2, .invokevirtual 36, 5, .invokeinterface 12 17), (5, .istore_n 3, 6, .istore 3), (6, .iload_n 3, 7, .iload 3), (7, .ifCond .lt 18, 10, .ifCond .lt 25), (10, .aload_n 0, 11, .aload 0), (11, .getfield 17, 14, .getfield 323), (14, .iload_n 1, 15, .iload 1), (15, .aaload, 16, .aaload), (16, .iload_n 3, 17, .iload 3), (17, .iaload, 18, .iaload), (18, .ifCond .le 7, 21, .ifCond .le 25), (21, .iload_n 3, 22, .iload 3), (22, .goto 4, 25, .goto 26), (25, .iconst (-1), 26, .iconst (-1)), (26, .ireturn, 27, .ireturn)]]
/-- RecordReconciler.requireRecord(CI)I -/
noncomputable def ct_21 : List (List (Nat × Instr × Nat × Instr)) := [[(0, .iload_n 1, 1, .iload 1), (1, .invokestatic 148, 4, .invokeinterface 19 9), (4, .istore_n 3, 5, .istore 3), (5, .iload_n 2, 6, .iload 2), (6, .invokestatic 156, 9, .invokeinterface 11 8), (9, .aload_n 0, 10, .aload 0), (10, .getfield 10, 13, .getfield 513), (13, .getfield 139, 16, .getfield 129), (16, .iload_n 3, 17, .iload 3), (17, .iload_n 2, 18, .iload 2), (18, .invokevirtual 159, 21, .invokeinterface 20 25), (21, .istore 4, 23, .istore 4), (23, .iload 4, 25, .iload 4), (25, .ifCond .ge 14, 28, .ifCond .ge 39), (28, .new 93, 31, .invokedynamic 4), (31, .dup, 32, .dup), (39, .iload 4, 41, .iload 4), (41, .ireturn, 42, .ireturn)]]
/-- RecordReconciler.amountOf(CI)I -/
noncomputable def ct_22 : List (List (Nat × Instr × Nat × Instr)) := [[(0, .aload_n 0, 1, .aload 0), (1, .iload_n 1, 2, .iload 1), (2, .iload_n 2, 3, .iload 2), (3, .invokevirtual 163, 6, .invokeinterface 21 25), (6, .istore_n 3, 7, .istore 3), (7, .aload_n 0, 8, .aload 0), (8, .getfield 10, 11, .getfield 513), (11, .getfield 139, 14, .getfield 129), (14, .getfield 167, 17, .getfield 323), (17, .iload_n 1, 18, .iload 1), (18, .invokestatic 170, 21, .invokeinterface 18 9), (21, .aaload, 22, .aaload), (22, .iload_n 3, 23, .iload 3), (23, .iaload, 24, .iaload), (24, .ireturn, 25, .ireturn)]]
/-- RecordReconciler$Program.add(C)I -/
noncomputable def ct_23 : List (List (Nat × Instr × Nat × Instr)) := [[(0, .aload_n 0, 1, .aload 0), (1, .getfield 15, 4, .getfield 450), (4, .bipush 60, 6, .iconst 60), (6, .if_icmp .ge 23, 9, .if_icmp .ge 29), (9, .aload_n 0, 10, .aload 0), (10, .getfield 9, 13, .getfield 449), (13, .aload_n 0, 14, .aload 0), (14, .getfield 15, 17, .getfield 450), (17, .iload_n 1, 18, .iload 1), (18, .castore, 19, .castore), (19, .aload_n 0, 20, .aload 0), (20, .dup, 21, .dup), (21, .getfield 15, 24, .getfield 450), (24, .iconst 1, 25, .iconst 1), (25, .iadd, 26, .iadd), (26, .putfield 15, 29, .putfield 450), (29, .aload_n 0, 30, .aload 0), (30, .getfield 15, 33, .getfield 450), (33, .ireturn, 34, .ireturn)]]
/-- RecordReconciler.append(C)I -/
noncomputable def ct_24 : List (List (Nat × Instr × Nat × Instr)) := [[(0, .iload_n 1, 1, .iload 1), (1, .bipush 32, 3, .iconst 32), (3, .if_icmp .lt 9, 6, .if_icmp .lt 12), (6, .iload_n 1, 7, .iload 1), (7, .bipush 126, 9, .iconst 126), (9, .if_icmp .le 14, 12, .if_icmp .le 23), (12, .new 86, 15, .invokedynamic 1), (15, .dup, 16, .dup), (23, .aload_n 0, 24, .aload 0), (24, .getfield 32, 27, .getfield 521), (27, .getfield 299, 30, .getfield 450), (30, .bipush 60, 32, .iconst 60), (32, .if_icmp .lt 14, 35, .if_icmp .lt 46), (35, .new 98, 38, .invokedynamic 2), (38, .dup, 39, .dup), (46, .aload_n 0, 47, .aload 0), (47, .getfield 32, 50, .getfield 521), (50, .iload_n 1, 51, .iload 1), (51, .invokevirtual 303, 54, .invokeinterface 23 17), (54, .ireturn, 55, .ireturn)]]
/-- RecordReconciler$Batch.previousOf(I)I -/
noncomputable def ct_25 : List (List (Nat × Instr × Nat × Instr)) := [[(0, .iload_n 1, 1, .iload 1), (1, .iconst 1, 2, .iconst 1), (2, .isub, 3, .isub), (3, .istore_n 2, 4, .istore 2), (4, .iload_n 2, 5, .iload 2), (5, .ifCond .lt 41, 8, .ifCond .lt 46), (8, .aload_n 0, 9, .aload 0), (9, .getfield 9, 12, .getfield 65), (12, .iload_n 2, 13, .iload 2), (13, .iaload, 14, .iaload), (14, .aload_n 0, 15, .aload 0), (15, .getfield 9, 18, .getfield 65), (18, .iload_n 1, 19, .iload 1), (19, .iaload, 20, .iaload), (20, .if_icmp .ne 20, 23, .if_icmp .ne 40), (23, .aload_n 0, 24, .aload 0), (24, .getfield 15, 27, .getfield 67), (27, .iload_n 2, 28, .iload 2), (28, .iaload, 29, .iaload), (29, .aload_n 0, 30, .aload 0), (30, .getfield 15, 33, .getfield 67), (33, .iload_n 1, 34, .iload 1), (34, .iaload, 35, .iaload), (35, .if_icmp .ne 5, 38, .if_icmp .ne 40), (38, .iload_n 2, 39, .iload 2), (39, .ireturn, 40, .ireturn), (40, .iinc 2 (-1), 43, .iinc 2 (-1)), (43, .goto (-39), 46, .goto 4), (46, .iconst (-1), 47, .iconst (-1)), (47, .ireturn, 48, .ireturn)]]
/-- RecordReconciler$KeyTable.amountFor(II)I -/
noncomputable def ct_26 : List (List (Nat × Instr × Nat × Instr)) := [[(0, .aload_n 0, 1, .aload 0), (1, .iload_n 2, 2, .iload 2), (2, .invokevirtual 36, 5, .invokeinterface 12 17), (5, .istore_n 3, 6, .istore 3), (6, .iload_n 3, 7, .iload 3), (7, .ifCond .lt 14, 10, .ifCond .lt 21), (10, .aload_n 0, 11, .aload 0), (11, .getfield 17, 14, .getfield 323), (14, .iload_n 1, 15, .iload 1), (15, .aaload, 16, .aaload), (16, .iload_n 3, 17, .iload 3), (17, .iaload, 18, .iaload), (18, .goto 4, 21, .goto 22), (21, .iconst 0, 22, .iconst 0), (22, .ireturn, 23, .ireturn)]]
/-- RecordReconciler$Book.outcomeAt(I)C -/
noncomputable def ct_27 : List (List (Nat × Instr × Nat × Instr)) := [[(0, .aload_n 0, 1, .aload 0), (1, .getfield 21, 4, .getfield 131), (4, .iload_n 1, 5, .iload 1), (5, .invokevirtual 102, 8, .invokeinterface 25 17), (8, .istore_n 2, 9, .istore 2), (9, .iload_n 2, 10, .iload 2), (10, .ifCond .lt 15, 13, .ifCond .lt 25), (13, .aload_n 0, 14, .aload 0), (14, .getfield 21, 17, .getfield 131), (17, .getfield 105, 20, .getfield 69), (20, .iload_n 2, 21, .iload 2), (21, .iaload, 22, .iaload), (22, .goto 28, 25, .goto 50), (25, .aload_n 0, 26, .aload 0), (26, .getfield 12, 29, .getfield 129), (29, .aload_n 0, 30, .aload 0), (30, .getfield 21, 33, .getfield 131), (33, .getfield 108, 36, .getfield 65), (36, .iload_n 1, 37, .iload 1), (37, .iaload, 38, .iaload), (38, .aload_n 0, 39, .aload 0), (39, .getfield 21, 42, .getfield 131), (42, .getfield 111, 45, .getfield 67), (45, .iload_n 1, 46, .iload 1), (46, .iaload, 47, .iaload), (47, .invokevirtual 114, 50, .invokeinterface 26 25), (50, .istore_n 3, 51, .istore 3), (51, .iload_n 3, 52, .iload 3), (52, .ifCond .ne 6, 55, .ifCond .ne 58), (55, .bipush 110, 57, .iconst 110), (57, .ireturn, 58, .ret 2), (58, .iload_n 3, 59, .iload 3), (59, .aload_n 0, 60, .aload 0), (60, .getfield 21, 63, .getfield 131), (63, .getfield 105, 66, .getfield 69)],
  [(66, .iload_n 1, 67, .iload 1), (67, .iaload, 68, .iaload), (68, .if_icmp .ne 8, 71, .if_icmp .ne 76), (71, .bipush 100, 73, .iconst 100), (73, .goto 5, 76, .goto 78), (76, .bipush 99, 78, .iconst 99), (78, .ireturn, 79, .ret 2)]]
/-- RecordReconciler$Book.hasRoomForBatch()Z -/
noncomputable def ct_28 : List (List (Nat × Instr × Nat × Instr)) := [[(0, .aload_n 0, 1, .aload 0), (1, .getfield 12, 4, .getfield 129), (4, .getfield 117, 7, .getfield 328), (7, .istore_n 1, 8, .istore 1), (8, .iconst 0, 9, .iconst 0), (9, .istore_n 2, 10, .istore 2), (10, .iload_n 2, 11, .iload 2), (11, .aload_n 0, 12, .aload 0), (12, .getfield 21, 15, .getfield 131), (15, .getfield 60, 18, .getfield 70), (18, .if_icmp .ge 22, 21, .if_icmp .ge 40), (21, .aload_n 0, 22, .aload 0), (22, .iload_n 2, 23, .iload 2), (23, .invokevirtual 120, 26, .invokeinterface 27 17), (26, .bipush 110, 28, .iconst 110), (28, .if_icmp .ne 6, 31, .if_icmp .ne 34), (31, .iinc 1 1, 34, .iinc 1 1), (34, .iinc 2 1, 37, .iinc 2 1), (37, .goto (-27), 40, .goto 10), (40, .iload_n 1, 41, .iload 1), (41, .bipush 30, 43, .iconst 30), (43, .if_icmp .gt 7, 46, .if_icmp .gt 50), (46, .iconst 1, 47, .iconst 1), (47, .goto 4, 50, .goto 51), (50, .iconst 0, 51, .iconst 0), (51, .ireturn, 52, .ret 1)]]
/-- RecordReconciler.canClose()Z -/
noncomputable def ct_29 : List (List (Nat × Instr × Nat × Instr)) := [[(0, .aload_n 0, 1, .aload 0), (1, .getfield 10, 4, .getfield 513), (4, .invokevirtual 135, 7, .invokeinterface 28 9), (7, .ireturn, 8, .ret 1)]]
/-- RecordReconciler$Book.isAmount(I)Z -/
noncomputable def ct_30 : List (List (Nat × Instr × Nat × Instr)) := [[(0, .iload_n 0, 1, .iload 0), (1, .iconst 1, 2, .iconst 1), (2, .if_icmp .lt 13, 5, .if_icmp .lt 15), (5, .iload_n 0, 6, .iload 0), (6, .bipush 99, 8, .iconst 99), (8, .if_icmp .gt 7, 11, .if_icmp .gt 15), (11, .iconst 1, 12, .iconst 1), (12, .goto 4, 15, .goto 16), (15, .iconst 0, 16, .iconst 0), (16, .ireturn, 17, .ret 1)]]
/-- RecordReconciler$Batch.latest(III)I -/
noncomputable def ct_31 : List (List (Nat × Instr × Nat × Instr)) := [[(0, .aload_n 0, 1, .aload 0), (1, .getfield 21, 4, .getfield 70), (4, .iconst 1, 5, .iconst 1), (5, .isub, 6, .isub), (6, .istore 4, 8, .istore 4), (8, .iload 4, 10, .iload 4), (10, .ifCond .lt 45, 13, .ifCond .lt 55), (13, .aload_n 0, 14, .aload 0), (14, .getfield 9, 17, .getfield 65), (17, .iload 4, 19, .iload 4), (19, .iaload, 20, .iaload), (20, .iload_n 1, 21, .iload 1), (21, .if_icmp .ne 28, 24, .if_icmp .ne 49), (24, .aload_n 0, 25, .aload 0), (25, .getfield 15, 28, .getfield 67), (28, .iload 4, 30, .iload 4), (30, .iaload, 31, .iaload), (31, .iload_n 2, 32, .iload 2), (32, .if_icmp .ne 17, 35, .if_icmp .ne 49), (35, .aload_n 0, 36, .aload 0), (36, .getfield 18, 39, .getfield 69), (39, .iload 4, 41, .iload 4), (41, .iaload, 42, .iaload), (42, .iload_n 3, 43, .iload 3), (43, .if_icmp .ne 6, 46, .if_icmp .ne 49), (46, .iload 4, 48, .iload 4), (48, .ireturn, 49, .ireturn), (49, .iinc 4 (-1), 52, .iinc 4 (-1)), (52, .goto (-44), 55, .goto 8), (55, .iconst (-1), 56, .iconst (-1)), (56, .ireturn, 57, .ireturn)]]
/-- RecordReconciler$KeyTable.holdersAt(I)I -/
noncomputable def ct_32 : List (List (Nat × Instr × Nat × Instr)) := [[(0, .iconst 0, 1, .iconst 0), (1, .istore_n 2, 2, .istore 2), (2, .iconst 0, 3, .iconst 0), (3, .istore_n 3, 4, .istore 3), (4, .iload_n 3, 5, .iload 3), (5, .iconst 3, 6, .iconst 3), (6, .if_icmp .ge 23, 9, .if_icmp .ge 29), (9, .aload_n 0, 10, .aload 0), (10, .getfield 17, 13, .getfield 323), (13, .iload_n 3, 14, .iload 3), (14, .aaload, 15, .aaload), (15, .iload_n 1, 16, .iload 1), (16, .iaload, 17, .iaload), (17, .ifCond .le 6, 20, .ifCond .le 23), (20, .iinc 2 1, 23, .iinc 2 1), (23, .iinc 3 1, 26, .iinc 3 1), (26, .goto (-22), 29, .goto 4), (29, .iload_n 2, 30, .iload 2), (30, .ireturn, 31, .ireturn)]]
/-- RecordReconciler$KeyTable.statusAt(I)C -/
noncomputable def ct_33 : List (List (Nat × Instr × Nat × Instr)) := [[(0, .iconst 0, 1, .iconst 0), (1, .istore_n 2, 2, .istore 2), (2, .iconst 0, 3, .iconst 0), (3, .istore_n 3, 4, .istore 3), (4, .iload_n 3, 5, .iload 3), (5, .iconst 3, 6, .iconst 3), (6, .if_icmp .ge 43, 9, .if_icmp .ge 49), (9, .aload_n 0, 10, .aload 0), (10, .getfield 17, 13, .getfield 323), (13, .iload_n 3, 14, .iload 3), (14, .aaload, 15, .aaload), (15, .iload_n 1, 16, .iload 1), (16, .iaload, 17, .iaload), (17, .istore 4, 19, .istore 4), (19, .iload_n 2, 20, .iload 2), (20, .ifCond .ne 9, 23, .ifCond .ne 29), (23, .iload 4, 25, .iload 4), (25, .istore_n 2, 26, .istore 2), (26, .goto 17, 29, .goto 43), (29, .iload 4, 31, .iload 4), (31, .ifCond .le 12, 34, .ifCond .le 43), (34, .iload 4, 36, .iload 4), (36, .iload_n 2, 37, .iload 2), (37, .if_icmp .eq 6, 40, .if_icmp .eq 43), (40, .bipush 100, 42, .iconst 100), (42, .ireturn, 43, .ret 2), (43, .iinc 3 1, 46, .iinc 3 1), (46, .goto (-42), 49, .goto 4), (49, .aload_n 0, 50, .aload 0), (50, .iload_n 1, 51, .iload 1), (51, .invokevirtual 47, 54, .invokeinterface 32 17), (54, .iconst 1, 55, .iconst 1), (55, .if_icmp .le 8, 58, .if_icmp .le 63), (58, .bipush 99, 60, .iconst 99), (60, .goto 5, 63, .goto 65), (63, .bipush 111, 65, .iconst 111)],
  [(65, .ireturn, 66, .ret 2)]]
/-- RecordReconciler$Book.settleFault(II)I -/
noncomputable def ct_34 : List (List (Nat × Instr × Nat × Instr)) := [[(0, .aload_n 0, 1, .aload 0), (1, .getfield 12, 4, .getfield 129), (4, .iload_n 1, 5, .iload 1), (5, .iload_n 2, 6, .iload 2), (6, .invokevirtual 75, 9, .invokeinterface 20 25), (9, .istore_n 3, 10, .istore 3), (10, .iload_n 3, 11, .iload 3), (11, .ifCond .ge 5, 14, .ifCond .ge 16), (14, .iconst 2, 15, .iconst 2), (15, .ireturn, 16, .ireturn), (16, .aload_n 0, 17, .aload 0), (17, .getfield 12, 20, .getfield 129), (20, .iload_n 3, 21, .iload 3), (21, .invokevirtual 78, 24, .invokeinterface 33 17), (24, .bipush 100, 26, .iconst 100), (26, .if_icmp .ne 7, 29, .if_icmp .ne 33), (29, .iconst 0, 30, .iconst 0), (30, .goto 4, 33, .goto 34), (33, .iconst 3, 34, .iconst 3), (34, .ireturn, 35, .ireturn)]]
/-- RecordReconciler$Book.faultOf(ICII)I -/
noncomputable def ct_35 : List (List (Nat × Instr × Nat × Instr)) := [[(0, .iload_n 2, 1, .iload 2), (1, .invokestatic 49, 4, .invokeinterface 18 9), (4, .istore 5, 6, .istore 5), (6, .iload 5, 8, .iload 5), (8, .ifCond .lt 10, 11, .ifCond .lt 18), (11, .iload_n 3, 12, .iload 3), (12, .invokestatic 53, 15, .invokeinterface 10 9), (15, .ifCond .ne 5, 18, .ifCond .ne 20), (18, .iconst 1, 19, .iconst 1), (19, .ireturn, 20, .ireturn), (20, .iload_n 1, 21, .iload 1), (21, .tableswitch 165 0 6 #[43, 73, 106, 165, 119, 127, 146], 64, .tableswitch 186 0 6 #[64, 94, 127, 186, 140, 148, 167])],
  [(64, .iload 4, 66, .iload 4), (66, .invokestatic 57, 69, .invokeinterface 30 9), (69, .ifCond .ne 7, 72, .ifCond .ne 76), (72, .iconst 1, 73, .iconst 1), (73, .goto 20, 76, .goto 93), (76, .aload_n 0, 77, .aload 0), (77, .getfield 21, 80, .getfield 131), (80, .getfield 60, 83, .getfield 70), (83, .bipush 12, 85, .iconst 12), (85, .if_icmp .ge 7, 88, .if_icmp .ge 92), (88, .iconst 0, 89, .iconst 0), (89, .goto 4, 92, .goto 93), (92, .iconst 3, 93, .iconst 3), (93, .ireturn, 94, .ireturn), (94, .iload 4, 96, .iload 4), (96, .invokestatic 57, 99, .invokeinterface 30 9), (99, .ifCond .ne 7, 102, .ifCond .ne 106), (102, .iconst 1, 103, .iconst 1), (103, .goto 23, 106, .goto 126), (106, .aload_n 0, 107, .aload 0), (107, .getfield 21, 110, .getfield 131), (110, .iload 5, 112, .iload 5), (112, .iload_n 3, 113, .iload 3), (113, .iload 4, 115, .iload 4), (115, .invokevirtual 63, 118, .invokeinterface 31 33), (118, .ifCond .lt 7, 121, .ifCond .lt 125), (121, .iconst 0, 122, .iconst 0), (122, .goto 4, 125, .goto 126), (125, .iconst 2, 126, .iconst 2), (126, .ireturn, 127, .ireturn), (127, .aload_n 0, 128, .aload 0)],
  [(128, .invokevirtual 67, 131, .invokeinterface 28 9), (131, .ifCond .eq 7, 134, .ifCond .eq 138), (134, .iconst 0, 135, .iconst 0), (135, .goto 4, 138, .goto 139), (138, .iconst 3, 139, .iconst 3), (139, .ireturn, 140, .ireturn), (140, .aload_n 0, 141, .aload 0), (141, .iload 5, 143, .iload 5), (143, .iload_n 3, 144, .iload 3), (144, .invokevirtual 71, 147, .invokeinterface 34 25), (147, .ireturn, 148, .ireturn), (148, .aload_n 0, 149, .aload 0), (149, .getfield 12, 152, .getfield 129), (152, .iload 5, 154, .iload 5), (154, .iload_n 3, 155, .iload 3), (155, .invokevirtual 75, 158, .invokeinterface 20 25), (158, .ifCond .lt 7, 161, .ifCond .lt 165), (161, .iconst 0, 162, .iconst 0), (162, .goto 4, 165, .goto 166), (165, .iconst 2, 166, .iconst 2), (166, .ireturn, 167, .ireturn), (167, .iload 4, 169, .iload 4), (169, .iconst 1, 170, .iconst 1), (170, .if_icmp .lt 14, 173, .if_icmp .lt 184), (173, .iload 4, 175, .iload 4), (175, .bipush 99, 177, .iconst 99), (177, .if_icmp .gt 7, 180, .if_icmp .gt 184), (180, .iconst 0, 181, .iconst 0), (181, .goto 4, 184, .goto 185), (184, .iconst 1, 185, .iconst 1), (185, .ireturn, 186, .ireturn), (186, .iconst 0, 187, .iconst 0), (187, .ireturn, 188, .ireturn)]]
/-- RecordReconciler.refuse(I)V -/
noncomputable def ct_36 : List (List (Nat × Instr × Nat × Instr)) := [[(0, .iload_n 0, 1, .iload 0), (1, .iconst 1, 2, .iconst 1), (2, .if_icmp .ne 13, 5, .if_icmp .ne 15), (5, .new 86, 8, .invokedynamic 1), (8, .dup, 9, .dup), (15, .iload_n 0, 16, .iload 0), (16, .iconst 2, 17, .iconst 2), (17, .if_icmp .ne 13, 20, .if_icmp .ne 30), (20, .new 93, 23, .invokedynamic 4), (23, .dup, 24, .dup), (30, .iload_n 0, 31, .iload 0), (31, .iconst 3, 32, .iconst 3), (32, .if_icmp .ne 13, 35, .if_icmp .ne 45), (35, .new 98, 38, .invokedynamic 2), (38, .dup, 39, .dup), (45, .return_, 46, .return_)]]
/-- RecordReconciler$KeyTable.copyFrom(LRecordReconciler$KeyTable;)V -/
noncomputable def ct_37 : List (List (Nat × Instr × Nat × Instr)) := [[(0, .aload_n 0, 1, .aload 0), (1, .aload_n 1, 2, .aload 1), (2, .getfield 23, 5, .getfield 326), (5, .putfield 23, 8, .putfield 326), (8, .aload_n 0, 9, .aload 0), (9, .aload_n 1, 10, .aload 1), (10, .getfield 27, 13, .getfield 328), (13, .putfield 27, 16, .putfield 328), (16, .aload_n 1, 17, .aload 1), (17, .getfield 9, 20, .getfield 321), (20, .iconst 0, 21, .iconst 0), (21, .aload_n 0, 22, .aload 0), (22, .getfield 9, 25, .getfield 321), (25, .iconst 0, 26, .iconst 0), (26, .bipush 30, 28, .iconst 30), (28, .invokestatic 30, 31, .invokestatic 0), (31, .iconst 0, 32, .iconst 0), (32, .istore_n 2, 33, .istore 2), (33, .iload_n 2, 34, .iload 2), (34, .iconst 3, 35, .iconst 3), (35, .if_icmp .ge 47, 38, .if_icmp .ge 82), (38, .aload_n 1, 39, .aload 1), (39, .getfield 17, 42, .getfield 323), (42, .iload_n 2, 43, .iload 2), (43, .aaload, 44, .aaload), (44, .iconst 0, 45, .iconst 0), (45, .aload_n 0, 46, .aload 0), (46, .getfield 17, 49, .getfield 323), (49, .iload_n 2, 50, .iload 2), (50, .aaload, 51, .aaload), (51, .iconst 0, 52, .iconst 0), (52, .bipush 30, 54, .iconst 30), (54, .invokestatic 30, 57, .invokestatic 0), (57, .aload_n 1, 58, .aload 1), (58, .getfield 20, 61, .getfield 325), (61, .iload_n 2, 62, .iload 2), (62, .aaload, 63, .aaload), (63, .iconst 0, 64, .iconst 0)],
  [(64, .aload_n 0, 65, .aload 0), (65, .getfield 20, 68, .getfield 325), (68, .iload_n 2, 69, .iload 2), (69, .aaload, 70, .aaload), (70, .iconst 0, 71, .iconst 0), (71, .bipush 30, 73, .iconst 30), (73, .invokestatic 30, 76, .invokestatic 0), (76, .iinc 2 1, 79, .iinc 2 1), (79, .goto (-46), 82, .goto 33), (82, .return_, 83, .return_)]]
/-- RecordReconciler$Batch.copyFrom(LRecordReconciler$Batch;)V -/
noncomputable def ct_38 : List (List (Nat × Instr × Nat × Instr)) := [[(0, .aload_n 0, 1, .aload 0), (1, .aload_n 1, 2, .aload 1), (2, .getfield 21, 5, .getfield 70), (5, .putfield 21, 8, .putfield 70), (8, .aload_n 1, 9, .aload 1), (9, .getfield 9, 12, .getfield 65), (12, .iconst 0, 13, .iconst 0), (13, .aload_n 0, 14, .aload 0), (14, .getfield 9, 17, .getfield 65), (17, .iconst 0, 18, .iconst 0), (18, .bipush 12, 20, .iconst 12), (20, .invokestatic 25, 23, .invokestatic 0), (23, .aload_n 1, 24, .aload 1), (24, .getfield 15, 27, .getfield 67), (27, .iconst 0, 28, .iconst 0), (28, .aload_n 0, 29, .aload 0), (29, .getfield 15, 32, .getfield 67), (32, .iconst 0, 33, .iconst 0), (33, .bipush 12, 35, .iconst 12), (35, .invokestatic 25, 38, .invokestatic 0), (38, .aload_n 1, 39, .aload 1), (39, .getfield 18, 42, .getfield 69), (42, .iconst 0, 43, .iconst 0), (43, .aload_n 0, 44, .aload 0), (44, .getfield 18, 47, .getfield 69), (47, .iconst 0, 48, .iconst 0), (48, .bipush 12, 50, .iconst 12), (50, .invokestatic 25, 53, .invokestatic 0), (53, .return_, 54, .return_)]]
/-- RecordReconciler$Book.copyFrom(LRecordReconciler$Book;)V -/
noncomputable def ct_39 : List (List (Nat × Instr × Nat × Instr)) := [[(0, .aload_n 0, 1, .aload 0), (1, .getfield 12, 4, .getfield 129), (4, .aload_n 1, 5, .aload 1), (5, .getfield 12, 8, .getfield 129), (8, .invokevirtual 36, 11, .invokeinterface 37 16), (11, .aload_n 0, 12, .aload 0), (12, .getfield 21, 15, .getfield 131), (15, .aload_n 1, 16, .aload 1), (16, .getfield 21, 19, .getfield 131), (19, .invokevirtual 40, 22, .invokeinterface 38 16), (22, .aload_n 1, 23, .aload 1), (23, .getfield 25, 26, .getfield 133), (26, .iconst 0, 27, .iconst 0), (27, .aload_n 0, 28, .aload 0), (28, .getfield 25, 31, .getfield 133), (31, .iconst 0, 32, .iconst 0), (32, .iconst 3, 33, .iconst 3), (33, .invokestatic 43, 36, .invokestatic 0), (36, .aload_n 1, 37, .aload 1), (37, .getfield 29, 40, .getfield 135), (40, .iconst 0, 41, .iconst 0), (41, .aload_n 0, 42, .aload 0), (42, .getfield 29, 45, .getfield 135), (45, .iconst 0, 46, .iconst 0), (46, .bipush 7, 48, .iconst 7), (48, .invokestatic 43, 51, .invokestatic 0), (51, .aload_n 0, 52, .aload 0), (52, .aload_n 1, 53, .aload 1), (53, .getfield 32, 56, .getfield 136), (56, .putfield 32, 59, .putfield 136), (59, .return_, 60, .return_)]]
/-- RecordReconciler$History.keep(LRecordReconciler$Book;)V -/
noncomputable def ct_40 : List (List (Nat × Instr × Nat × Instr)) := [[(0, .aload_n 0, 1, .aload 0), (1, .aload_n 0, 2, .aload 0), (2, .getfield 17, 5, .getfield 258), (5, .iconst 1, 6, .iconst 1), (6, .iadd, 7, .iadd), (7, .bipush 8, 9, .iconst 8), (9, .irem, 10, .irem), (10, .putfield 17, 13, .putfield 258), (13, .aload_n 0, 14, .aload 0), (14, .getfield 11, 17, .getfield 257), (17, .aload_n 0, 18, .aload 0), (18, .getfield 17, 21, .getfield 258), (21, .aaload, 22, .aaload), (22, .aload_n 1, 23, .aload 1), (23, .invokevirtual 25, 26, .invokeinterface 39 16), (26, .aload_n 0, 27, .aload 0), (27, .aload_n 0, 28, .aload 0), (28, .getfield 21, 31, .getfield 260), (31, .iconst 1, 32, .iconst 1), (32, .iadd, 33, .iadd), (33, .bipush 8, 35, .iconst 8), (35, .invokestatic 29, 38, .invokestatic 1), (38, .putfield 21, 41, .putfield 260), (41, .return_, 42, .return_)]]
/-- RecordReconciler$Batch.add(III)I -/
noncomputable def ct_41 : List (List (Nat × Instr × Nat × Instr)) := [[(0, .aload_n 0, 1, .aload 0), (1, .getfield 21, 4, .getfield 70), (4, .bipush 12, 6, .iconst 12), (6, .if_icmp .ge 43, 9, .if_icmp .ge 49), (9, .aload_n 0, 10, .aload 0), (10, .getfield 9, 13, .getfield 65), (13, .aload_n 0, 14, .aload 0), (14, .getfield 21, 17, .getfield 70), (17, .iload_n 1, 18, .iload 1), (18, .iastore, 19, .iastore), (19, .aload_n 0, 20, .aload 0), (20, .getfield 15, 23, .getfield 67), (23, .aload_n 0, 24, .aload 0), (24, .getfield 21, 27, .getfield 70), (27, .iload_n 2, 28, .iload 2), (28, .iastore, 29, .iastore), (29, .aload_n 0, 30, .aload 0), (30, .getfield 18, 33, .getfield 69), (33, .aload_n 0, 34, .aload 0), (34, .getfield 21, 37, .getfield 70), (37, .iload_n 3, 38, .iload 3), (38, .iastore, 39, .iastore), (39, .aload_n 0, 40, .aload 0), (40, .dup, 41, .dup), (41, .getfield 21, 44, .getfield 70), (44, .iconst 1, 45, .iconst 1), (45, .iadd, 46, .iadd), (46, .putfield 21, 49, .putfield 70), (49, .aload_n 0, 50, .aload 0), (50, .getfield 21, 53, .getfield 70), (53, .ireturn, 54, .ireturn)]]
/-- RecordReconciler$Batch.removeAt(I)I -/
noncomputable def ct_42 : List (List (Nat × Instr × Nat × Instr)) := [[(0, .iload_n 1, 1, .iload 1), (1, .ifCond .lt 11, 4, .ifCond .lt 12), (4, .iload_n 1, 5, .iload 1), (5, .aload_n 0, 6, .aload 0), (6, .getfield 21, 9, .getfield 70), (9, .if_icmp .lt 8, 12, .if_icmp .lt 17), (12, .aload_n 0, 13, .aload 0), (13, .getfield 21, 16, .getfield 70), (16, .ireturn, 17, .ireturn), (17, .aload_n 0, 18, .aload 0), (18, .dup, 19, .dup), (19, .getfield 21, 22, .getfield 70), (22, .iconst 1, 23, .iconst 1), (23, .isub, 24, .isub), (24, .putfield 21, 27, .putfield 70), (27, .iload_n 1, 28, .iload 1), (28, .istore_n 2, 29, .istore 2), (29, .iload_n 2, 30, .iload 2), (30, .aload_n 0, 31, .aload 0), (31, .getfield 21, 34, .getfield 70), (34, .if_icmp .ge 51, 37, .if_icmp .ge 85), (37, .aload_n 0, 38, .aload 0), (38, .getfield 9, 41, .getfield 65), (41, .iload_n 2, 42, .iload 2), (42, .aload_n 0, 43, .aload 0), (43, .getfield 9, 46, .getfield 65), (46, .iload_n 2, 47, .iload 2), (47, .iconst 1, 48, .iconst 1), (48, .iadd, 49, .iadd), (49, .iaload, 50, .iaload), (50, .iastore, 51, .iastore), (51, .aload_n 0, 52, .aload 0), (52, .getfield 15, 55, .getfield 67), (55, .iload_n 2, 56, .iload 2), (56, .aload_n 0, 57, .aload 0), (57, .getfield 15, 60, .getfield 67), (60, .iload_n 2, 61, .iload 2), (61, .iconst 1, 62, .iconst 1), (62, .iadd, 63, .iadd), (63, .iaload, 64, .iaload)],
  [(64, .iastore, 65, .iastore), (65, .aload_n 0, 66, .aload 0), (66, .getfield 18, 69, .getfield 69), (69, .iload_n 2, 70, .iload 2), (70, .aload_n 0, 71, .aload 0), (71, .getfield 18, 74, .getfield 69), (74, .iload_n 2, 75, .iload 2), (75, .iconst 1, 76, .iconst 1), (76, .iadd, 77, .iadd), (77, .iaload, 78, .iaload), (78, .iastore, 79, .iastore), (79, .iinc 2 1, 82, .iinc 2 1), (82, .goto (-53), 85, .goto 29), (85, .aload_n 0, 86, .aload 0), (86, .getfield 21, 89, .getfield 70), (89, .ireturn, 90, .ireturn)]]
/-- RecordReconciler$KeyTable.copyRow(II)V -/
noncomputable def ct_43 : List (List (Nat × Instr × Nat × Instr)) := [[(0, .aload_n 0, 1, .aload 0), (1, .getfield 9, 4, .getfield 321), (4, .iload_n 2, 5, .iload 2), (5, .aload_n 0, 6, .aload 0), (6, .getfield 9, 9, .getfield 321), (9, .iload_n 1, 10, .iload 1), (10, .iaload, 11, .iaload), (11, .iastore, 12, .iastore), (12, .iconst 0, 13, .iconst 0), (13, .istore_n 3, 14, .istore 3), (14, .iload_n 3, 15, .iload 3), (15, .iconst 3, 16, .iconst 3), (16, .if_icmp .ge 41, 19, .if_icmp .ge 57), (19, .aload_n 0, 20, .aload 0), (20, .getfield 17, 23, .getfield 323), (23, .iload_n 3, 24, .iload 3), (24, .aaload, 25, .aaload), (25, .iload_n 2, 26, .iload 2), (26, .aload_n 0, 27, .aload 0), (27, .getfield 17, 30, .getfield 323), (30, .iload_n 3, 31, .iload 3), (31, .aaload, 32, .aaload), (32, .iload_n 1, 33, .iload 1), (33, .iaload, 34, .iaload), (34, .iastore, 35, .iastore), (35, .aload_n 0, 36, .aload 0), (36, .getfield 20, 39, .getfield 325), (39, .iload_n 3, 40, .iload 3), (40, .aaload, 41, .aaload), (41, .iload_n 2, 42, .iload 2), (42, .aload_n 0, 43, .aload 0), (43, .getfield 20, 46, .getfield 325), (46, .iload_n 3, 47, .iload 3), (47, .aaload, 48, .aaload), (48, .iload_n 1, 49, .iload 1), (49, .iaload, 50, .iaload), (50, .iastore, 51, .iastore), (51, .iinc 3 1, 54, .iinc 3 1), (54, .goto (-40), 57, .goto 14), (57, .return_, 58, .return_)]]
/-- RecordReconciler$KeyTable.openRow(I)I -/
noncomputable def ct_44 : List (List (Nat × Instr × Nat × Instr)) := [[(0, .aload_n 0, 1, .aload 0), (1, .getfield 23, 4, .getfield 326), (4, .bipush 30, 6, .iconst 30), (6, .if_icmp .lt 5, 9, .if_icmp .lt 11), (9, .iconst (-1), 10, .iconst (-1)), (10, .ireturn, 11, .ireturn), (11, .aload_n 0, 12, .aload 0), (12, .getfield 23, 15, .getfield 326), (15, .istore_n 2, 16, .istore 2), (16, .aload_n 0, 17, .aload 0), (17, .dup, 18, .dup), (18, .getfield 23, 21, .getfield 326), (21, .iconst 1, 22, .iconst 1), (22, .iadd, 23, .iadd), (23, .putfield 23, 26, .putfield 326), (26, .iload_n 2, 27, .iload 2), (27, .ifCond .le 29, 30, .ifCond .le 56), (30, .aload_n 0, 31, .aload 0), (31, .getfield 9, 34, .getfield 321), (34, .iload_n 2, 35, .iload 2), (35, .iconst 1, 36, .iconst 1), (36, .isub, 37, .isub), (37, .iaload, 38, .iaload), (38, .iload_n 1, 39, .iload 1), (39, .if_icmp .le 17, 42, .if_icmp .le 56), (42, .aload_n 0, 43, .aload 0), (43, .iload_n 2, 44, .iload 2), (44, .iconst 1, 45, .iconst 1), (45, .isub, 46, .isub), (46, .iload_n 2, 47, .iload 2), (47, .invokevirtual 43, 50, .invokeinterface 43 24), (50, .iinc 2 (-1), 53, .iinc 2 (-1)), (53, .goto (-27), 56, .goto 26), (56, .aload_n 0, 57, .aload 0), (57, .getfield 9, 60, .getfield 321), (60, .iload_n 2, 61, .iload 2), (61, .iload_n 1, 62, .iload 1), (62, .iastore, 63, .iastore), (63, .iconst 0, 64, .iconst 0)],
  [(64, .istore_n 3, 65, .istore 3), (65, .iload_n 3, 66, .iload 3), (66, .iconst 3, 67, .iconst 3), (67, .if_icmp .ge 27, 70, .if_icmp .ge 94), (70, .aload_n 0, 71, .aload 0), (71, .getfield 17, 74, .getfield 323), (74, .iload_n 3, 75, .iload 3), (75, .aaload, 76, .aaload), (76, .iload_n 2, 77, .iload 2), (77, .iconst 0, 78, .iconst 0), (78, .iastore, 79, .iastore), (79, .aload_n 0, 80, .aload 0), (80, .getfield 20, 83, .getfield 325), (83, .iload_n 3, 84, .iload 3), (84, .aaload, 85, .aaload), (85, .iload_n 2, 86, .iload 2), (86, .iconst 0, 87, .iconst 0), (87, .iastore, 88, .iastore), (88, .iinc 3 1, 91, .iinc 3 1), (91, .goto (-26), 94, .goto 65), (94, .iload_n 2, 95, .iload 2), (95, .ireturn, 96, .ireturn)]]
/-- RecordReconciler$KeyTable.put(IIII)V -/
noncomputable def ct_45 : List (List (Nat × Instr × Nat × Instr)) := [[(0, .aload_n 0, 1, .aload 0), (1, .iload_n 2, 2, .iload 2), (2, .invokevirtual 36, 5, .invokeinterface 12 17), (5, .istore 5, 7, .istore 5), (7, .iload 5, 9, .iload 5), (9, .ifCond .ge 10, 12, .ifCond .ge 19), (12, .aload_n 0, 13, .aload 0), (13, .iload_n 2, 14, .iload 2), (14, .invokevirtual 40, 17, .invokeinterface 44 17), (17, .istore 5, 19, .istore 5), (19, .iload 5, 21, .iload 5), (21, .ifCond .ge 4, 24, .ifCond .ge 25), (24, .return_, 25, .return_), (25, .aload_n 0, 26, .aload 0), (26, .getfield 17, 29, .getfield 323), (29, .iload_n 1, 30, .iload 1), (30, .aaload, 31, .aaload), (31, .iload 5, 33, .iload 5), (33, .iaload, 34, .iaload), (34, .ifCond .ne 13, 37, .ifCond .ne 47), (37, .aload_n 0, 38, .aload 0), (38, .dup, 39, .dup), (39, .getfield 27, 42, .getfield 328), (42, .iconst 1, 43, .iconst 1), (43, .iadd, 44, .iadd), (44, .putfield 27, 47, .putfield 328), (47, .aload_n 0, 48, .aload 0), (48, .getfield 17, 51, .getfield 323), (51, .iload_n 1, 52, .iload 1), (52, .aaload, 53, .aaload), (53, .iload 5, 55, .iload 5), (55, .iload_n 3, 56, .iload 3), (56, .iastore, 57, .iastore), (57, .aload_n 0, 58, .aload 0), (58, .getfield 20, 61, .getfield 325), (61, .iload_n 1, 62, .iload 1), (62, .aaload, 63, .aaload), (63, .iload 5, 65, .iload 5)],
  [(65, .iload 4, 67, .iload 4), (67, .iastore, 68, .iastore), (68, .return_, 69, .return_)]]
/-- RecordReconciler$Book.openNextBatch()V -/
noncomputable def ct_46 : List (List (Nat × Instr × Nat × Instr)) := [[(0, .aload_n 0, 1, .aload 0), (1, .getfield 21, 4, .getfield 131), (4, .iconst 0, 5, .iconst 0), (5, .putfield 60, 8, .putfield 70), (8, .aload_n 0, 9, .aload 0), (9, .dup, 10, .dup), (10, .getfield 32, 13, .getfield 136), (13, .iconst 1, 14, .iconst 1), (14, .iadd, 15, .iadd), (15, .putfield 32, 18, .putfield 136), (18, .return_, 19, .return_)]]
/-- RecordReconciler$Book.countBatch()I -/
noncomputable def ct_47 : List (List (Nat × Instr × Nat × Instr)) := [[(0, .iconst 0, 1, .iconst 0), (1, .istore_n 1, 2, .istore 1), (2, .iconst 0, 3, .iconst 0), (3, .istore_n 2, 4, .istore 2), (4, .iload_n 2, 5, .iload 2), (5, .aload_n 0, 6, .aload 0), (6, .getfield 21, 9, .getfield 131), (9, .getfield 60, 12, .getfield 70), (12, .if_icmp .ge 94, 15, .if_icmp .ge 106), (15, .aload_n 0, 16, .aload 0), (16, .iload_n 2, 17, .iload 2), (17, .invokevirtual 120, 20, .invokeinterface 27 17), (20, .istore_n 3, 21, .istore 3), (21, .iload_n 3, 22, .iload 3), (22, .bipush 100, 24, .iconst 100), (24, .if_icmp .ne 16, 27, .if_icmp .ne 40), (27, .aload_n 0, 28, .aload 0), (28, .getfield 29, 31, .getfield 135), (31, .iconst 0, 32, .iconst 0), (32, .dup2, 33, .dup2), (33, .iaload, 34, .iaload), (34, .iconst 1, 35, .iconst 1), (35, .iadd, 36, .iadd), (36, .iastore, 37, .iastore), (37, .goto 63, 40, .goto 100), (40, .iload_n 3, 41, .iload 3), (41, .bipush 110, 43, .iconst 110), (43, .if_icmp .ne 9, 46, .if_icmp .ne 52), (46, .iinc 1 1, 49, .iinc 1 1), (49, .goto 13, 52, .goto 62), (52, .aload_n 0, 53, .aload 0), (53, .getfield 29, 56, .getfield 135), (56, .iconst 1, 57, .iconst 1), (57, .dup2, 58, .dup2), (58, .iaload, 59, .iaload), (59, .iconst 1, 60, .iconst 1), (60, .iadd, 61, .iadd), (61, .iastore, 62, .iastore), (62, .aload_n 0, 63, .aload 0), (63, .getfield 12, 66, .getfield 129)],
  [(66, .aload_n 0, 67, .aload 0), (67, .getfield 21, 70, .getfield 131), (70, .getfield 108, 73, .getfield 65), (73, .iload_n 2, 74, .iload 2), (74, .iaload, 75, .iaload), (75, .aload_n 0, 76, .aload 0), (76, .getfield 21, 79, .getfield 131), (79, .getfield 111, 82, .getfield 67), (82, .iload_n 2, 83, .iload 2), (83, .iaload, 84, .iaload), (84, .aload_n 0, 85, .aload 0), (85, .getfield 21, 88, .getfield 131), (88, .getfield 105, 91, .getfield 69), (91, .iload_n 2, 92, .iload 2), (92, .iaload, 93, .iaload), (93, .aload_n 0, 94, .aload 0), (94, .getfield 32, 97, .getfield 136), (97, .invokevirtual 123, 100, .invokeinterface 45 40), (100, .iinc 2 1, 103, .iinc 2 1), (103, .goto (-99), 106, .goto 4), (106, .aload_n 0, 107, .aload 0), (107, .getfield 29, 110, .getfield 135), (110, .iconst 2, 111, .iconst 2), (111, .dup2, 112, .dup2), (112, .iaload, 113, .iaload), (113, .iload_n 1, 114, .iload 1), (114, .iadd, 115, .iadd), (115, .iastore, 116, .iastore), (116, .aload_n 0, 117, .aload 0), (117, .getfield 29, 120, .getfield 135), (120, .iconst 4, 121, .iconst 4), (121, .dup2, 122, .dup2), (122, .iaload, 123, .iaload), (123, .iconst 1, 124, .iconst 1), (124, .iadd, 125, .iadd), (125, .iastore, 126, .iastore), (126, .aload_n 0, 127, .aload 0), (127, .invokevirtual 127, 130, .invokeinterface 46 8)],
  [(130, .iload_n 1, 131, .iload 1), (131, .ireturn, 132, .ireturn)]]
/-- RecordReconciler$Book.forgetBatch()I -/
noncomputable def ct_48 : List (List (Nat × Instr × Nat × Instr)) := [[(0, .aload_n 0, 1, .aload 0), (1, .getfield 21, 4, .getfield 131), (4, .getfield 60, 7, .getfield 70), (7, .istore_n 1, 8, .istore 1), (8, .aload_n 0, 9, .aload 0), (9, .getfield 29, 12, .getfield 135), (12, .iconst 5, 13, .iconst 5), (13, .dup2, 14, .dup2), (14, .iaload, 15, .iaload), (15, .iconst 1, 16, .iconst 1), (16, .iadd, 17, .iadd), (17, .iastore, 18, .iastore), (18, .aload_n 0, 19, .aload 0), (19, .invokevirtual 127, 22, .invokeinterface 46 8), (22, .iload_n 1, 23, .iload 1), (23, .ireturn, 24, .ireturn)]]
/-- RecordReconciler$KeyTable.level(II)I -/
noncomputable def ct_49 : List (List (Nat × Instr × Nat × Instr)) := [[(0, .iconst 0, 1, .iconst 0), (1, .istore_n 3, 2, .istore 3), (2, .iconst 0, 3, .iconst 0), (3, .istore 4, 5, .istore 4), (5, .iload 4, 7, .iload 4), (7, .iconst 3, 8, .iconst 3), (8, .if_icmp .ge 47, 11, .if_icmp .ge 55), (11, .aload_n 0, 12, .aload 0), (12, .getfield 17, 15, .getfield 323), (15, .iload 4, 17, .iload 4), (17, .aaload, 18, .aaload), (18, .iload_n 1, 19, .iload 1), (19, .iaload, 20, .iaload), (20, .ifCond .le 29, 23, .ifCond .le 49), (23, .aload_n 0, 24, .aload 0), (24, .getfield 17, 27, .getfield 323), (27, .iload 4, 29, .iload 4), (29, .aaload, 30, .aaload), (30, .iload_n 1, 31, .iload 1), (31, .iaload, 32, .iaload), (32, .iload_n 2, 33, .iload 2), (33, .if_icmp .eq 16, 36, .if_icmp .eq 49), (36, .aload_n 0, 37, .aload 0), (37, .getfield 17, 40, .getfield 323), (40, .iload 4, 42, .iload 4), (42, .aaload, 43, .aaload), (43, .iload_n 1, 44, .iload 1), (44, .iload_n 2, 45, .iload 2), (45, .iastore, 46, .iastore), (46, .iinc 3 1, 49, .iinc 3 1), (49, .iinc 4 1, 52, .iinc 4 1), (52, .goto (-47), 55, .goto 5), (55, .iload_n 3, 56, .iload 3), (56, .ireturn, 57, .ireturn)]]
/-- RecordReconciler$Book.settleFor(II)I -/
noncomputable def ct_50 : List (List (Nat × Instr × Nat × Instr)) := [[(0, .aload_n 0, 1, .aload 0), (1, .getfield 12, 4, .getfield 129), (4, .iload_n 1, 5, .iload 1), (5, .iload_n 2, 6, .iload 2), (6, .invokevirtual 75, 9, .invokeinterface 20 25), (9, .istore_n 3, 10, .istore 3), (10, .iload_n 3, 11, .iload 3), (11, .ifCond .ge 5, 14, .ifCond .ge 16), (14, .iconst 0, 15, .iconst 0), (15, .ireturn, 16, .ireturn), (16, .aload_n 0, 17, .aload 0), (17, .getfield 12, 20, .getfield 129), (20, .getfield 130, 23, .getfield 323), (23, .iload_n 1, 24, .iload 1), (24, .aaload, 25, .aaload), (25, .iload_n 3, 26, .iload 3), (26, .iaload, 27, .iaload), (27, .istore 4, 29, .istore 4), (29, .aload_n 0, 30, .aload 0), (30, .getfield 25, 33, .getfield 133), (33, .iload_n 1, 34, .iload 1), (34, .aload_n 0, 35, .aload 0), (35, .getfield 25, 38, .getfield 133), (38, .iload_n 1, 39, .iload 1), (39, .iaload, 40, .iaload), (40, .iconst 1, 41, .iconst 1), (41, .iadd, 42, .iadd), (42, .bipush 9, 44, .iconst 9), (44, .invokestatic 133, 47, .invokestatic 1), (47, .iastore, 48, .iastore), (48, .iconst 0, 49, .iconst 0), (49, .istore 5, 51, .istore 5), (51, .iload 5, 53, .iload 5), (53, .iconst 3, 54, .iconst 3), (54, .if_icmp .ge 55, 57, .if_icmp .ge 109), (57, .aload_n 0, 58, .aload 0), (58, .getfield 12, 61, .getfield 129), (61, .getfield 130, 64, .getfield 323)],
  [(64, .iload 5, 66, .iload 5), (66, .aaload, 67, .aaload), (67, .iload_n 3, 68, .iload 3), (68, .iaload, 69, .iaload), (69, .istore 6, 71, .istore 6), (71, .iload 6, 73, .iload 6), (73, .ifCond .le 30, 76, .ifCond .le 103), (76, .iload 6, 78, .iload 6), (78, .iload 4, 80, .iload 4), (80, .if_icmp .eq 23, 83, .if_icmp .eq 103), (83, .aload_n 0, 84, .aload 0), (84, .getfield 25, 87, .getfield 133), (87, .iload 5, 89, .iload 5), (89, .aload_n 0, 90, .aload 0), (90, .getfield 25, 93, .getfield 133), (93, .iload 5, 95, .iload 5), (95, .iaload, 96, .iaload), (96, .iconst 1, 97, .iconst 1), (97, .isub, 98, .isub), (98, .iconst 0, 99, .iconst 0), (99, .invokestatic 138, 102, .invokestatic 2), (102, .iastore, 103, .iastore), (103, .iinc 5 1, 106, .iinc 5 1), (106, .goto (-55), 109, .goto 51), (109, .aload_n 0, 110, .aload 0), (110, .getfield 29, 113, .getfield 135), (113, .bipush 6, 115, .iconst 6), (115, .dup2, 116, .dup2), (116, .iaload, 117, .iaload), (117, .iconst 1, 118, .iconst 1), (118, .iadd, 119, .iadd), (119, .iastore, 120, .iastore), (120, .aload_n 0, 121, .aload 0), (121, .getfield 12, 124, .getfield 129), (124, .iload_n 3, 125, .iload 3), (125, .iload 4, 127, .iload 4), (127, .invokevirtual 141, 130, .invokeinterface 49 25)],
  [(130, .ireturn, 131, .ireturn)]]
/-- RecordReconciler$KeyTable.remove(II)V -/
noncomputable def ct_51 : List (List (Nat × Instr × Nat × Instr)) := [[(0, .aload_n 0, 1, .aload 0), (1, .getfield 17, 4, .getfield 323), (4, .iload_n 1, 5, .iload 1), (5, .aaload, 6, .aaload), (6, .iload_n 2, 7, .iload 2), (7, .iconst 0, 8, .iconst 0), (8, .iastore, 9, .iastore), (9, .aload_n 0, 10, .aload 0), (10, .getfield 20, 13, .getfield 325), (13, .iload_n 1, 14, .iload 1), (14, .aaload, 15, .aaload), (15, .iload_n 2, 16, .iload 2), (16, .iconst 0, 17, .iconst 0), (17, .iastore, 18, .iastore), (18, .aload_n 0, 19, .aload 0), (19, .dup, 20, .dup), (20, .getfield 27, 23, .getfield 328), (23, .iconst 1, 24, .iconst 1), (24, .isub, 25, .isub), (25, .putfield 27, 28, .putfield 328), (28, .aload_n 0, 29, .aload 0), (29, .iload_n 2, 30, .iload 2), (30, .invokevirtual 47, 33, .invokeinterface 32 17), (33, .ifCond .le 4, 36, .ifCond .le 37), (36, .return_, 37, .return_), (37, .aload_n 0, 38, .aload 0), (38, .dup, 39, .dup), (39, .getfield 23, 42, .getfield 326), (42, .iconst 1, 43, .iconst 1), (43, .isub, 44, .isub), (44, .putfield 23, 47, .putfield 326), (47, .iload_n 2, 48, .iload 2), (48, .istore_n 3, 49, .istore 3), (49, .iload_n 3, 50, .iload 3), (50, .aload_n 0, 51, .aload 0), (51, .getfield 23, 54, .getfield 326), (54, .if_icmp .ge 17, 57, .if_icmp .ge 71), (57, .aload_n 0, 58, .aload 0), (58, .iload_n 3, 59, .iload 3), (59, .iconst 1, 60, .iconst 1), (60, .iadd, 61, .iadd), (61, .iload_n 3, 62, .iload 3), (62, .invokevirtual 43, 65, .invokeinterface 43 24)],
  [(65, .iinc 3 1, 68, .iinc 3 1), (68, .goto (-19), 71, .goto 49), (71, .return_, 72, .return_)]]
/-- RecordReconciler$Book.dropRecord(II)I -/
noncomputable def ct_52 : List (List (Nat × Instr × Nat × Instr)) := [[(0, .aload_n 0, 1, .aload 0), (1, .getfield 12, 4, .getfield 129), (4, .iload_n 1, 5, .iload 1), (5, .iload_n 2, 6, .iload 2), (6, .invokevirtual 75, 9, .invokeinterface 20 25), (9, .istore_n 3, 10, .istore 3), (10, .iload_n 3, 11, .iload 3), (11, .ifCond .lt 22, 14, .ifCond .lt 33), (14, .aload_n 0, 15, .aload 0), (15, .getfield 12, 18, .getfield 129), (18, .iload_n 1, 19, .iload 1), (19, .iload_n 3, 20, .iload 3), (20, .invokevirtual 144, 23, .invokeinterface 51 24), (23, .aload_n 0, 24, .aload 0), (24, .getfield 29, 27, .getfield 135), (27, .iconst 3, 28, .iconst 3), (28, .dup2, 29, .dup2), (29, .iaload, 30, .iaload), (30, .iconst 1, 31, .iconst 1), (31, .iadd, 32, .iadd), (32, .iastore, 33, .iastore), (33, .aload_n 0, 34, .aload 0), (34, .getfield 12, 37, .getfield 129), (37, .getfield 117, 40, .getfield 328), (40, .ireturn, 41, .ireturn)]]
/-- RecordReconciler$Book.carryOut(ICII)I -/
noncomputable def ct_53 : List (List (Nat × Instr × Nat × Instr)) := [[(0, .iload_n 2, 1, .iload 2), (1, .invokestatic 49, 4, .invokeinterface 18 9), (4, .istore 5, 6, .istore 5), (6, .iload 5, 8, .iload 5), (8, .ifCond .ge 5, 11, .ifCond .ge 13), (11, .iconst (-1), 12, .iconst (-1)), (12, .ireturn, 13, .ireturn), (13, .iload_n 1, 14, .iload 1), (14, .tableswitch 97 0 5 #[38, 51, 71, 76, 81, 89], 52, .tableswitch 111 0 5 #[52, 65, 85, 90, 95, 103]), (52, .aload_n 0, 53, .aload 0), (53, .getfield 21, 56, .getfield 131), (56, .iload 5, 58, .iload 5), (58, .iload_n 3, 59, .iload 3), (59, .iload 4, 61, .iload 4), (61, .invokevirtual 82, 64, .invokeinterface 41 33)],
  [(64, .ireturn, 65, .ireturn), (65, .aload_n 0, 66, .aload 0), (66, .getfield 21, 69, .getfield 131), (69, .aload_n 0, 70, .aload 0), (70, .getfield 21, 73, .getfield 131), (73, .iload 5, 75, .iload 5), (75, .iload_n 3, 76, .iload 3), (76, .iload 4, 78, .iload 4), (78, .invokevirtual 63, 81, .invokeinterface 31 33), (81, .invokevirtual 85, 84, .invokeinterface 42 17), (84, .ireturn, 85, .ireturn), (85, .aload_n 0, 86, .aload 0), (86, .invokevirtual 89, 89, .invokeinterface 47 9), (89, .ireturn, 90, .ireturn), (90, .aload_n 0, 91, .aload 0), (91, .invokevirtual 93, 94, .invokeinterface 48 9), (94, .ireturn, 95, .ireturn), (95, .aload_n 0, 96, .aload 0), (96, .iload 5, 98, .iload 5), (98, .iload_n 3, 99, .iload 3), (99, .invokevirtual 96, 102, .invokeinterface 50 25), (102, .ireturn, 103, .ireturn), (103, .aload_n 0, 104, .aload 0), (104, .iload 5, 106, .iload 5), (106, .iload_n 3, 107, .iload 3), (107, .invokevirtual 99, 110, .invokeinterface 52 25), (110, .ireturn, 111, .ireturn), (111, .aload_n 0, 112, .aload 0), (112, .dup, 113, .dup), (113, .getfield 32, 116, .getfield 136), (116, .iload 4, 118, .iload 4), (118, .iadd, 119, .iadd), (119, .putfield 32, 122, .putfield 136), (122, .aload_n 0, 123, .aload 0), (123, .getfield 32, 126, .getfield 136), (126, .ireturn, 127, .ireturn)]]
/-- RecordReconciler.change(ICII)I -/
noncomputable def ct_54 : List (List (Nat × Instr × Nat × Instr)) := [[(0, .aload_n 0, 1, .aload 0), (1, .getfield 10, 4, .getfield 513), (4, .iload_n 1, 5, .iload 1), (5, .iload_n 2, 6, .iload 2), (6, .iload_n 3, 7, .iload 3), (7, .iload 4, 9, .iload 4), (9, .invokevirtual 72, 12, .invokeinterface 35 41), (12, .invokestatic 75, 15, .invokeinterface 36 8), (15, .aload_n 0, 16, .aload 0), (16, .getfield 25, 19, .getfield 519), (19, .aload_n 0, 20, .aload 0), (20, .getfield 10, 23, .getfield 513), (23, .invokevirtual 79, 26, .invokeinterface 40 16), (26, .aload_n 0, 27, .aload 0), (27, .getfield 10, 30, .getfield 513), (30, .iload_n 1, 31, .iload 1), (31, .iload_n 2, 32, .iload 2), (32, .iload_n 3, 33, .iload 3), (33, .iload 4, 35, .iload 4), (35, .invokevirtual 83, 38, .invokeinterface 53 41), (38, .ireturn, 39, .ireturn)]]
/-- RecordReconciler.closeBatch()I -/
noncomputable def ct_55 : List (List (Nat × Instr × Nat × Instr)) := [[(0, .aload_n 0, 1, .aload 0), (1, .iconst 2, 2, .iconst 2), (2, .bipush 97, 4, .iconst 97), (4, .iconst 0, 5, .iconst 0), (5, .iconst 0, 6, .iconst 0), (6, .invokevirtual 68, 9, .invokeinterface 54 41), (9, .ireturn, 10, .ireturn)]]
/-- RecordReconciler.closedTotal()I -/
noncomputable def ct_56 : List (List (Nat × Instr × Nat × Instr)) := [[(0, .aload_n 0, 1, .aload 0), (1, .getfield 10, 4, .getfield 513), (4, .getfield 260, 7, .getfield 135), (7, .iconst 4, 8, .iconst 4), (8, .iaload, 9, .iaload), (9, .ireturn, 10, .ireturn)]]
/-- RecordReconciler$KeyTable.countWithStatus(C)I -/
noncomputable def ct_57 : List (List (Nat × Instr × Nat × Instr)) := [[(0, .iconst 0, 1, .iconst 0), (1, .istore_n 2, 2, .istore 2), (2, .iconst 0, 3, .iconst 0), (3, .istore_n 3, 4, .istore 3), (4, .iload_n 3, 5, .iload 3), (5, .aload_n 0, 6, .aload 0), (6, .getfield 23, 9, .getfield 326), (9, .if_icmp .ge 21, 12, .if_icmp .ge 30), (12, .aload_n 0, 13, .aload 0), (13, .iload_n 3, 14, .iload 3), (14, .invokevirtual 50, 17, .invokeinterface 33 17), (17, .iload_n 1, 18, .iload 1), (18, .if_icmp .ne 6, 21, .if_icmp .ne 24), (21, .iinc 2 1, 24, .iinc 2 1), (24, .iinc 3 1, 27, .iinc 3 1), (27, .goto (-23), 30, .goto 4), (30, .iload_n 2, 31, .iload 2), (31, .ireturn, 32, .ireturn)]]
/-- RecordReconciler.confirmedCount()I -/
noncomputable def ct_58 : List (List (Nat × Instr × Nat × Instr)) := [[(0, .aload_n 0, 1, .aload 0), (1, .getfield 10, 4, .getfield 513), (4, .getfield 139, 7, .getfield 129), (7, .bipush 99, 9, .iconst 99), (9, .invokevirtual 196, 12, .invokeinterface 57 17), (12, .ireturn, 13, .ireturn)]]
/-- RecordReconciler.confirmedShare()F -/
noncomputable def ct_59 : List (List (Nat × Instr × Nat × Instr)) := [[(0, .aload_n 0, 1, .aload 0), (1, .getfield 10, 4, .getfield 513), (4, .getfield 139, 7, .getfield 129), (7, .getfield 205, 10, .getfield 326), (10, .istore_n 1, 11, .istore 1), (11, .iload_n 1, 12, .iload 1), (12, .ifCond .ne 14, 15, .ifCond .ne 26), (15, .new 263, 18, .invokedynamic 5), (18, .dup, 19, .dup), (26, .aload_n 0, 27, .aload 0), (27, .getfield 10, 30, .getfield 513), (30, .getfield 139, 33, .getfield 129), (33, .bipush 99, 35, .iconst 99), (35, .invokevirtual 196, 38, .invokeinterface 57 17), (38, .i2f, 39, .i2f), (39, .iload_n 1, 40, .iload 1), (40, .i2f, 41, .i2f), (41, .fdiv, 42, .fdiv), (42, .freturn, 43, .freturn)]]
/-- RecordReconciler.correctionTotal()I -/
noncomputable def ct_60 : List (List (Nat × Instr × Nat × Instr)) := [[(0, .aload_n 0, 1, .aload 0), (1, .getfield 10, 4, .getfield 513), (4, .getfield 260, 7, .getfield 135), (7, .iconst 1, 8, .iconst 1), (8, .iaload, 9, .iaload), (9, .ireturn, 10, .ireturn)]]
/-- RecordReconciler.day()I -/
noncomputable def ct_61 : List (List (Nat × Instr × Nat × Instr)) := [[(0, .aload_n 0, 1, .aload 0), (1, .getfield 10, 4, .getfield 513), (4, .getfield 103, 7, .getfield 136), (7, .ireturn, 8, .ireturn)]]
/-- RecordReconciler.dayOf(CI)I -/
noncomputable def ct_62 : List (List (Nat × Instr × Nat × Instr)) := [[(0, .aload_n 0, 1, .aload 0), (1, .iload_n 1, 2, .iload 1), (2, .iload_n 2, 3, .iload 2), (3, .invokevirtual 163, 6, .invokeinterface 21 25), (6, .istore_n 3, 7, .istore 3), (7, .aload_n 0, 8, .aload 0), (8, .getfield 10, 11, .getfield 513), (11, .getfield 139, 14, .getfield 129), (14, .getfield 173, 17, .getfield 325), (17, .iload_n 1, 18, .iload 1), (18, .invokestatic 170, 21, .invokeinterface 18 9), (21, .aaload, 22, .aaload), (22, .iload_n 3, 23, .iload 3), (23, .iaload, 24, .iaload), (24, .ireturn, 25, .ireturn)]]
/-- RecordReconciler$KeyTable.disputedRow(I)I -/
noncomputable def ct_63 : List (List (Nat × Instr × Nat × Instr)) := [[(0, .iconst 0, 1, .iconst 0), (1, .istore_n 2, 2, .istore 2), (2, .iconst 0, 3, .iconst 0), (3, .istore_n 3, 4, .istore 3), (4, .iload_n 3, 5, .iload 3), (5, .aload_n 0, 6, .aload 0), (6, .getfield 23, 9, .getfield 326), (9, .if_icmp .ge 29, 12, .if_icmp .ge 38), (12, .aload_n 0, 13, .aload 0), (13, .iload_n 3, 14, .iload 3), (14, .invokevirtual 50, 17, .invokeinterface 33 17), (17, .bipush 100, 19, .iconst 100), (19, .if_icmp .ne 13, 22, .if_icmp .ne 32), (22, .iload_n 2, 23, .iload 2), (23, .iload_n 1, 24, .iload 1), (24, .if_icmp .ne 5, 27, .if_icmp .ne 29), (27, .iload_n 3, 28, .iload 3), (28, .ireturn, 29, .ireturn), (29, .iinc 2 1, 32, .iinc 2 1), (32, .iinc 3 1, 35, .iinc 3 1), (35, .goto (-31), 38, .goto 4), (38, .iconst (-1), 39, .iconst (-1)), (39, .ireturn, 40, .ireturn)]]
/-- RecordReconciler.disputedAt(I)I -/
noncomputable def ct_64 : List (List (Nat × Instr × Nat × Instr)) := [[(0, .aload_n 0, 1, .aload 0), (1, .getfield 10, 4, .getfield 513), (4, .getfield 139, 7, .getfield 129), (7, .iload_n 1, 8, .iload 1), (8, .invokevirtual 199, 11, .invokeinterface 63 17), (11, .istore_n 2, 12, .istore 2), (12, .iload_n 2, 13, .iload 2), (13, .ifCond .ge 13, 16, .ifCond .ge 26), (16, .new 93, 19, .invokedynamic 4), (19, .dup, 20, .dup), (26, .aload_n 0, 27, .aload 0), (27, .getfield 10, 30, .getfield 513), (30, .getfield 139, 33, .getfield 129), (33, .getfield 184, 36, .getfield 321), (36, .iload_n 2, 37, .iload 2), (37, .iaload, 38, .iaload), (38, .ireturn, 39, .ireturn)]]
/-- RecordReconciler.disputedCount()I -/
noncomputable def ct_65 : List (List (Nat × Instr × Nat × Instr)) := [[(0, .aload_n 0, 1, .aload 0), (1, .getfield 10, 4, .getfield 513), (4, .getfield 139, 7, .getfield 129), (7, .bipush 100, 9, .iconst 100), (9, .invokevirtual 196, 12, .invokeinterface 57 17), (12, .ireturn, 13, .ireturn)]]
/-- RecordReconciler.drop(CI)I -/
noncomputable def ct_66 : List (List (Nat × Instr × Nat × Instr)) := [[(0, .aload_n 0, 1, .aload 0), (1, .iconst 5, 2, .iconst 5), (2, .iload_n 1, 3, .iload 1), (3, .iload_n 2, 4, .iload 2), (4, .iconst 0, 5, .iconst 0), (5, .invokevirtual 68, 8, .invokeinterface 54 41), (8, .ireturn, 9, .ireturn)]]
/-- RecordReconciler.droppedTotal()I -/
noncomputable def ct_67 : List (List (Nat × Instr × Nat × Instr)) := [[(0, .aload_n 0, 1, .aload 0), (1, .getfield 10, 4, .getfield 513), (4, .getfield 260, 7, .getfield 135), (7, .iconst 3, 8, .iconst 3), (8, .iaload, 9, .iaload), (9, .ireturn, 10, .ireturn)]]
/-- RecordReconciler.duplicateTotal()I -/
noncomputable def ct_68 : List (List (Nat × Instr × Nat × Instr)) := [[(0, .aload_n 0, 1, .aload 0), (1, .getfield 10, 4, .getfield 513), (4, .getfield 260, 7, .getfield 135), (7, .iconst 0, 8, .iconst 0), (8, .iaload, 9, .iaload), (9, .ireturn, 10, .ireturn)]]
/-- RecordReconciler.errorPosition()I -/
noncomputable def ct_69 : List (List (Nat × Instr × Nat × Instr)) := [[(0, .aload_n 0, 1, .aload 0), (1, .getfield 61, 4, .getfield 530), (4, .ifCond .ge 14, 7, .ifCond .ge 18), (7, .new 93, 10, .invokedynamic 4), (10, .dup, 11, .dup), (18, .aload_n 0, 19, .aload 0), (19, .getfield 61, 22, .getfield 530), (22, .ireturn, 23, .ireturn)]]
/-- RecordReconciler.executeProgram()I -/
noncomputable def ct_70 : List (List (Nat × Instr × Nat × Instr)) := [[(0, .aload_n 0, 1, .aload 0), (1, .getfield 16, 4, .getfield 515), (4, .aload_n 0, 5, .aload 0), (5, .getfield 10, 8, .getfield 513), (8, .invokevirtual 319, 11, .invokeinterface 39 16), (11, .iconst 0, 12, .iconst 0), (12, .istore_n 1, 13, .istore 1), (13, .iload_n 1, 14, .iload 1), (14, .aload_n 0, 15, .aload 0), (15, .getfield 32, 18, .getfield 521), (18, .getfield 316, 21, .getfield 460), (21, .if_icmp .ge 94, 24, .if_icmp .ge 115), (24, .aload_n 0, 25, .aload 0), (25, .getfield 32, 28, .getfield 521), (28, .getfield 322, 31, .getfield 453), (31, .iload_n 1, 32, .iload 1), (32, .iaload, 33, .iaload), (33, .istore_n 2, 34, .istore 2), (34, .aload_n 0, 35, .aload 0), (35, .getfield 32, 38, .getfield 521), (38, .getfield 325, 41, .getfield 455), (41, .iload_n 1, 42, .iload 1), (42, .caload, 43, .caload), (43, .istore_n 3, 44, .istore 3), (44, .aload_n 0, 45, .aload 0), (45, .getfield 32, 48, .getfield 521), (48, .getfield 328, 51, .getfield 457), (51, .iload_n 1, 52, .iload 1), (52, .iaload, 53, .iaload), (53, .istore 4, 55, .istore 4), (55, .aload_n 0, 56, .aload 0), (56, .getfield 32, 59, .getfield 521), (59, .getfield 329, 62, .getfield 459), (62, .iload_n 1, 63, .iload 1), (63, .iaload, 64, .iaload)],
  [(64, .istore 5, 66, .istore 5), (66, .aload_n 0, 67, .aload 0), (67, .getfield 10, 70, .getfield 513), (70, .iload_n 2, 71, .iload 2), (71, .iload_n 3, 72, .iload 3), (72, .iload 4, 74, .iload 4), (74, .iload 5, 76, .iload 5), (76, .invokevirtual 72, 79, .invokeinterface 35 41), (79, .ifCond .eq 16, 82, .ifCond .eq 95), (82, .aload_n 0, 83, .aload 0), (83, .getfield 10, 86, .getfield 513), (86, .aload_n 0, 87, .aload 0), (87, .getfield 16, 90, .getfield 515), (90, .invokevirtual 319, 93, .invokeinterface 39 16), (93, .iload_n 1, 94, .iload 1), (94, .ireturn, 95, .ireturn), (95, .aload_n 0, 96, .aload 0), (96, .getfield 10, 99, .getfield 513), (99, .iload_n 2, 100, .iload 2), (100, .iload_n 3, 101, .iload 3), (101, .iload 4, 103, .iload 4), (103, .iload 5, 105, .iload 5), (105, .invokevirtual 83, 108, .invokeinterface 53 41), (108, .pop, 109, .pop), (109, .iinc 1 1, 112, .iinc 1 1), (112, .goto (-99), 115, .goto 13), (115, .aload_n 0, 116, .aload 0), (116, .getfield 25, 119, .getfield 519), (119, .aload_n 0, 120, .aload 0), (120, .getfield 16, 123, .getfield 515), (123, .invokevirtual 79, 126, .invokeinterface 40 16), (126, .iconst (-1), 127, .iconst (-1)), (127, .ireturn, 128, .ireturn)]]
/-- RecordReconciler.failedCommand()I -/
noncomputable def ct_71 : List (List (Nat × Instr × Nat × Instr)) := [[(0, .aload_n 0, 1, .aload 0), (1, .getfield 65, 4, .getfield 532), (4, .ifCond .ge 14, 7, .ifCond .ge 18), (7, .new 93, 10, .invokedynamic 4), (10, .dup, 11, .dup), (18, .aload_n 0, 19, .aload 0), (19, .getfield 65, 22, .getfield 532), (22, .ireturn, 23, .ireturn)]]
/-- ArraysSupport.newLength(III)I -/
noncomputable def ct_72 : List (List (Nat × Instr × Nat × Instr)) := [[(0, .iload_n 0, 1, .iload 0), (1, .iload_n 1, 2, .iload 1), (2, .iload_n 2, 3, .iload 2), (3, .invokestatic 194, 6, .invokestatic 2), (6, .iadd, 7, .iadd), (7, .istore_n 3, 8, .istore 3), (8, .iconst 0, 9, .iconst 0), (9, .iload_n 3, 10, .iload 3), (10, .if_icmp .ge 11, 13, .if_icmp .ge 21), (13, .iload_n 3, 14, .iload 3), (14, .ldc 200, 16, .iconst 2147483639), (16, .if_icmp .gt 5, 19, .if_icmp .gt 21), (19, .iload_n 3, 20, .iload 3), (20, .ireturn, 21, .ireturn), (21, .iload_n 0, 22, .iload 0), (22, .iload_n 1, 23, .iload 1), (26, .ireturn, 27, .ireturn)]]
/-- AbstractStringBuilder.newCapacity(I)I -/
noncomputable def ct_73 : List (List (Nat × Instr × Nat × Instr)) := [[(0, .aload_n 0, 1, .aload 0), (1, .getfield 15, 4, .getfield 641), (4, .arraylength, 5, .arraylength), (5, .istore_n 2, 6, .istore 2), (6, .iload_n 1, 7, .iload 1), (7, .aload_n 0, 8, .aload 0), (8, .getfield 22, 11, .getfield 642), (11, .ishl, 12, .ishl), (12, .istore_n 3, 13, .istore 3), (13, .iload_n 3, 14, .iload 3), (14, .iload_n 2, 15, .iload 2), (15, .isub, 16, .isub), (16, .istore 4, 18, .istore 4), (18, .iload_n 2, 19, .iload 2), (19, .iload 4, 21, .iload 4), (21, .iload_n 2, 22, .iload 2), (22, .iconst 2, 23, .iconst 2), (23, .aload_n 0, 24, .aload 0), (24, .getfield 22, 27, .getfield 642), (27, .ishl, 28, .ishl), (28, .iadd, 29, .iadd), (29, .invokestatic 114, 32, .invokeinterface 72 25), (32, .istore 5, 34, .istore 5), (34, .iload 5, 36, .iload 5), (36, .ldc 39, 38, .iconst 2147483647), (38, .if_icmp .ne 13, 41, .if_icmp .ne 51), (44, .dup, 45, .dup), (51, .iload 5, 53, .iload 5), (53, .aload_n 0, 54, .aload 0), (54, .getfield 22, 57, .getfield 642), (57, .ishr, 58, .ishr), (58, .ireturn, 59, .ireturn)]]
/-- Arrays.copyOf([BI)[B -/
noncomputable def ct_74 : List (List (Nat × Instr × Nat × Instr)) := [[(0, .iload_n 1, 1, .iload 1), (1, .aload_n 0, 2, .aload 0), (2, .arraylength, 3, .arraylength), (3, .if_icmp .ne 11, 6, .if_icmp .ne 14), (6, .aload_n 0, 7, .aload 0), (13, .areturn, 14, .areturn), (14, .iload_n 1, 15, .iload 1), (15, .newarray .byte, 17, .newarray .byte), (17, .astore_n 2, 18, .astore 2), (18, .aload_n 0, 19, .aload 0), (19, .iconst 0, 20, .iconst 0), (20, .aload_n 2, 21, .aload 2), (21, .iconst 0, 22, .iconst 0), (22, .aload_n 0, 23, .aload 0), (23, .arraylength, 24, .arraylength), (24, .iload_n 1, 25, .iload 1), (25, .invokestatic 304, 28, .invokestatic 1), (28, .invokestatic 150, 31, .invokestatic 0), (31, .aload_n 2, 32, .aload 2), (32, .areturn, 33, .areturn)]]
/-- AbstractStringBuilder.ensureCapacityInternal(I)V -/
noncomputable def ct_75 : List (List (Nat × Instr × Nat × Instr)) := [[(0, .aload_n 0, 1, .aload 0), (1, .getfield 15, 4, .getfield 641), (4, .arraylength, 5, .arraylength), (5, .aload_n 0, 6, .aload 0), (6, .getfield 22, 9, .getfield 642), (9, .ishr, 10, .ishr), (10, .istore_n 2, 11, .istore 2), (11, .iload_n 1, 12, .iload 1), (12, .iload_n 2, 13, .iload 2), (13, .isub, 14, .isub), (14, .ifCond .le 24, 17, .ifCond .le 38), (17, .aload_n 0, 18, .aload 0), (18, .aload_n 0, 19, .aload 0), (19, .getfield 15, 22, .getfield 641), (22, .aload_n 0, 23, .aload 0), (23, .iload_n 1, 24, .iload 1), (24, .invokevirtual 104, 27, .invokeinterface 73 17), (27, .aload_n 0, 28, .aload 0), (28, .getfield 22, 31, .getfield 642), (31, .ishl, 32, .ishl), (32, .invokestatic 108, 35, .invokeinterface 74 18), (35, .putfield 15, 38, .putfield 641), (38, .return_, 39, .return_)]]
/-- AbstractStringBuilder.isLatin1()Z -/
noncomputable def ct_76 : List (List (Nat × Instr × Nat × Instr)) := [[(0, .getstatic 18, 3, .iconst 1), (3, .ifCond .eq 14, 6, .ifCond .eq 17), (6, .aload_n 0, 7, .aload 0), (7, .getfield 22, 10, .getfield 642), (10, .ifCond .ne 7, 13, .ifCond .ne 17), (13, .iconst 1, 14, .iconst 1), (14, .goto 4, 17, .goto 18), (17, .iconst 0, 18, .iconst 0), (18, .ireturn, 19, .ret 1)]]
/-- AbstractStringBuilder.setLength(I)V -/
noncomputable def ct_77 : List (List (Nat × Instr × Nat × Instr)) := [[(0, .iload_n 1, 1, .iload 1), (1, .ifCond .ge 12, 4, .ifCond .ge 13), (7, .dup, 8, .dup), (8, .iload_n 1, 9, .iload 1), (13, .aload_n 0, 14, .aload 0), (14, .iload_n 1, 15, .iload 1), (15, .invokevirtual 100, 18, .invokeinterface 75 16), (18, .aload_n 0, 19, .aload 0), (19, .getfield 79, 22, .getfield 646), (22, .iload_n 1, 23, .iload 1), (23, .if_icmp .ge 40, 26, .if_icmp .ge 63), (26, .aload_n 0, 27, .aload 0), (27, .invokevirtual 83, 30, .invokeinterface 76 9), (30, .ifCond .eq 18, 33, .ifCond .eq 48), (33, .aload_n 0, 34, .aload 0), (34, .getfield 15, 37, .getfield 641), (37, .aload_n 0, 38, .aload 0), (38, .getfield 79, 41, .getfield 646), (41, .iload_n 1, 42, .iload 1), (45, .goto 31, 48, .goto 76), (48, .aload_n 0, 49, .aload 0), (49, .getfield 15, 52, .getfield 641), (52, .aload_n 0, 53, .aload 0), (53, .getfield 79, 56, .getfield 646), (56, .iload_n 1, 57, .iload 1), (60, .goto 16, 63, .goto 76), (63, .aload_n 0, 64, .aload 0)],
  [(64, .getfield 79, 67, .getfield 646), (67, .iload_n 1, 68, .iload 1), (68, .if_icmp .le 8, 71, .if_icmp .le 76), (71, .aload_n 0, 72, .aload 0), (72, .iconst 1, 73, .iconst 1), (73, .putfield 73, 76, .putfield 1668), (76, .aload_n 0, 77, .aload 0), (77, .iload_n 1, 78, .iload 1), (78, .putfield 79, 81, .putfield 646), (81, .return_, 82, .return_)]]
/-- StringBuilder.setLength(I)V -/
noncomputable def ct_78 : List (List (Nat × Instr × Nat × Instr)) := [[(0, .aload_n 0, 1, .aload 0), (1, .iload_n 1, 2, .iload 1), (2, .invokespecial 333, 5, .invokeinterface 77 16), (5, .return_, 6, .return_)]]
/-- StringLatin1.canEncode(C)Z -/
noncomputable def ct_79 : List (List (Nat × Instr × Nat × Instr)) := [[(0, .iload_n 0, 1, .iload 0), (1, .sipush 255, 4, .iconst 255), (4, .if_icmp .gt 7, 7, .if_icmp .gt 11), (7, .iconst 1, 8, .iconst 1), (8, .goto 4, 11, .goto 12), (11, .iconst 0, 12, .iconst 0), (12, .ireturn, 13, .ret 1)]]
/-- AbstractStringBuilder.append(C)Ljava/lang/AbstractStringBuilder; -/
noncomputable def ct_80 : List (List (Nat × Instr × Nat × Instr)) := [[(0, .aload_n 0, 1, .aload 0), (1, .aload_n 0, 2, .aload 0), (2, .getfield 79, 5, .getfield 646), (5, .iconst 1, 6, .iconst 1), (6, .iadd, 7, .iadd), (7, .invokevirtual 100, 10, .invokeinterface 75 16), (10, .aload_n 0, 11, .aload 0), (11, .invokevirtual 83, 14, .invokeinterface 76 9), (14, .ifCond .eq 31, 17, .ifCond .eq 45), (17, .iload_n 1, 18, .iload 1), (18, .invokestatic 191, 21, .invokeinterface 79 9), (21, .ifCond .eq 24, 24, .ifCond .eq 45), (24, .aload_n 0, 25, .aload 0), (25, .getfield 15, 28, .getfield 641), (28, .aload_n 0, 29, .aload 0), (29, .dup, 30, .dup), (30, .getfield 79, 33, .getfield 646), (33, .dup_x1, 34, .dup_x1), (34, .iconst 1, 35, .iconst 1), (35, .iadd, 36, .iadd), (36, .putfield 79, 39, .putfield 646), (39, .iload_n 1, 40, .iload 1), (40, .i2b, 41, .i2b), (41, .bastore, 42, .bastore), (42, .goto 33, 45, .goto 75), (45, .aload_n 0, 46, .aload 0), (46, .invokevirtual 83, 49, .invokeinterface 76 9), (49, .ifCond .eq 7, 52, .ifCond .eq 56), (52, .aload_n 0, 53, .aload 0), (56, .aload_n 0, 57, .aload 0), (57, .getfield 15, 60, .getfield 641), (60, .aload_n 0, 61, .aload 0), (61, .dup, 62, .dup), (62, .getfield 79, 65, .getfield 646)],
  [(65, .dup_x1, 66, .dup_x1), (66, .iconst 1, 67, .iconst 1), (67, .iadd, 68, .iadd), (68, .putfield 79, 71, .putfield 646), (71, .iload_n 1, 72, .iload 1), (75, .aload_n 0, 76, .aload 0), (76, .areturn, 77, .areturn)]]
/-- StringBuilder.append(C)Ljava/lang/StringBuilder; -/
noncomputable def ct_81 : List (List (Nat × Instr × Nat × Instr)) := [[(0, .aload_n 0, 1, .aload 0), (1, .iload_n 1, 2, .iload 1), (2, .invokespecial 50, 5, .invokeinterface 80 18), (5, .pop, 6, .pop), (6, .aload_n 0, 7, .aload 0), (7, .areturn, 8, .areturn)]]
/-- RecordReconciler.letterOf(I)C -/
noncomputable def ct_82 : List (List (Nat × Instr × Nat × Instr)) := [[(0, .bipush 97, 2, .iconst 97), (2, .iload_n 0, 3, .iload 0), (3, .iadd, 4, .iadd), (4, .i2c, 5, .i2c), (5, .ireturn, 6, .ret 2)]]
/-- Integer.stringSize(I)I -/
noncomputable def ct_83 : List (List (Nat × Instr × Nat × Instr)) := [[(0, .iconst 1, 1, .iconst 1), (1, .istore_n 1, 2, .istore 1), (2, .iload_n 0, 3, .iload 0), (3, .ifCond .lt 8, 6, .ifCond .lt 11), (6, .iconst 0, 7, .iconst 0), (7, .istore_n 1, 8, .istore 1), (8, .iload_n 0, 9, .iload 0), (9, .ineg, 10, .ineg), (10, .istore_n 0, 11, .istore 0), (11, .bipush (-10), 13, .iconst (-10)), (13, .istore_n 2, 14, .istore 2), (14, .iconst 1, 15, .iconst 1), (15, .istore_n 3, 16, .istore 3), (16, .iload_n 3, 17, .iload 3), (17, .bipush 10, 19, .iconst 10), (19, .if_icmp .ge 23, 22, .if_icmp .ge 42), (22, .iload_n 0, 23, .iload 0), (23, .iload_n 2, 24, .iload 2), (24, .if_icmp .le 7, 27, .if_icmp .le 31), (27, .iload_n 3, 28, .iload 3), (28, .iload_n 1, 29, .iload 1), (29, .iadd, 30, .iadd), (30, .ireturn, 31, .ireturn), (31, .bipush 10, 33, .iconst 10), (33, .iload_n 2, 34, .iload 2), (34, .imul, 35, .imul), (35, .istore_n 2, 36, .istore 2), (36, .iinc 3 1, 39, .iinc 3 1), (39, .goto (-23), 42, .goto 16), (42, .bipush 10, 44, .iconst 10), (44, .iload_n 1, 45, .iload 1), (45, .iadd, 46, .iadd), (46, .ireturn, 47, .ireturn)]]
/-- Integer.getChars(II[B)I -/
noncomputable def ct_84 : List (List (Nat × Instr × Nat × Instr)) := [[(0, .iload_n 1, 1, .iload 1), (1, .istore 5, 3, .istore 5), (3, .iload_n 0, 4, .iload 0), (4, .ifCond .ge 7, 7, .ifCond .ge 11), (7, .iconst 1, 8, .iconst 1), (8, .goto 4, 11, .goto 12), (11, .iconst 0, 12, .iconst 0), (12, .istore 6, 14, .istore 6), (14, .iload 6, 16, .iload 6), (16, .ifCond .ne 6, 19, .ifCond .ne 22), (19, .iload_n 0, 20, .iload 0), (20, .ineg, 21, .ineg), (21, .istore_n 0, 22, .istore 0), (22, .iload_n 0, 23, .iload 0), (23, .bipush (-100), 25, .iconst (-100)), (25, .if_icmp .gt 47, 28, .if_icmp .gt 72), (28, .iload_n 0, 29, .iload 0), (29, .bipush 100, 31, .iconst 100), (31, .idiv, 32, .idiv), (32, .istore_n 3, 33, .istore 3), (33, .iload_n 3, 34, .iload 3), (34, .bipush 100, 36, .iconst 100), (36, .imul, 37, .imul), (37, .iload_n 0, 38, .iload 0), (38, .isub, 39, .isub), (39, .istore 4, 41, .istore 4), (41, .iload_n 3, 42, .iload 3), (42, .istore_n 0, 43, .istore 0), (43, .aload_n 2, 44, .aload 2), (44, .iinc 5 (-1), 47, .iinc 5 (-1)), (47, .iload 5, 49, .iload 5), (49, .getstatic 83, 52, .getstatic 2), (52, .iload 4, 54, .iload 4), (54, .baload, 55, .faload), (55, .bastore, 56, .bastore), (56, .aload_n 2, 57, .aload 2), (57, .iinc 5 (-1), 60, .iinc 5 (-1)), (60, .iload 5, 62, .iload 5), (62, .getstatic 87, 65, .getstatic 3)],
  [(65, .iload 4, 67, .iload 4), (67, .baload, 68, .faload), (68, .bastore, 69, .bastore), (69, .goto (-47), 72, .goto 22), (72, .aload_n 2, 73, .aload 2), (73, .iinc 5 (-1), 76, .iinc 5 (-1)), (76, .iload 5, 78, .iload 5), (78, .getstatic 83, 81, .getstatic 2), (81, .iload_n 0, 82, .iload 0), (82, .ineg, 83, .ineg), (83, .baload, 84, .faload), (84, .bastore, 85, .bastore), (85, .iload_n 0, 86, .iload 0), (86, .bipush (-9), 88, .iconst (-9)), (88, .if_icmp .ge 16, 91, .if_icmp .ge 104), (91, .aload_n 2, 92, .aload 2), (92, .iinc 5 (-1), 95, .iinc 5 (-1)), (95, .iload 5, 97, .iload 5), (97, .getstatic 87, 100, .getstatic 3), (100, .iload_n 0, 101, .iload 0), (101, .ineg, 102, .ineg), (102, .baload, 103, .faload), (103, .bastore, 104, .bastore), (104, .iload 6, 106, .iload 6), (106, .ifCond .eq 12, 109, .ifCond .eq 118), (109, .aload_n 2, 110, .aload 2), (110, .iinc 5 (-1), 113, .iinc 5 (-1)), (113, .iload 5, 115, .iload 5), (115, .bipush 45, 117, .iconst 45), (117, .bastore, 118, .bastore), (118, .iload 5, 120, .iload 5), (120, .ireturn, 121, .ireturn)]]
/-- AbstractStringBuilder.append(I)Ljava/lang/AbstractStringBuilder; -/
noncomputable def ct_85 : List (List (Nat × Instr × Nat × Instr)) := [[(0, .aload_n 0, 1, .aload 0), (1, .getfield 79, 4, .getfield 646), (4, .istore_n 2, 5, .istore 2), (5, .iload_n 2, 6, .iload 2), (6, .iload_n 1, 7, .iload 1), (7, .invokestatic 245, 10, .invokeinterface 83 9), (10, .iadd, 11, .iadd), (11, .istore_n 3, 12, .istore 3), (12, .aload_n 0, 13, .aload 0), (13, .iload_n 3, 14, .iload 3), (14, .invokevirtual 100, 17, .invokeinterface 75 16), (17, .aload_n 0, 18, .aload 0), (18, .invokevirtual 83, 21, .invokeinterface 76 9), (21, .ifCond .eq 16, 24, .ifCond .eq 37), (24, .iload_n 1, 25, .iload 1), (25, .iload_n 3, 26, .iload 3), (26, .aload_n 0, 27, .aload 0), (27, .getfield 15, 30, .getfield 641), (30, .invokestatic 248, 33, .invokeinterface 84 25), (33, .pop, 34, .pop), (34, .goto 14, 37, .goto 48), (37, .iload_n 1, 38, .iload 1), (38, .iload_n 2, 39, .iload 2), (39, .iload_n 3, 40, .iload 3), (40, .aload_n 0, 41, .aload 0), (41, .getfield 15, 44, .getfield 641), (47, .pop, 48, .pop), (48, .aload_n 0, 49, .aload 0), (49, .iload_n 3, 50, .iload 3), (50, .putfield 79, 53, .putfield 646), (53, .aload_n 0, 54, .aload 0), (54, .areturn, 55, .areturn)]]
/-- StringBuilder.append(I)Ljava/lang/StringBuilder; -/
noncomputable def ct_86 : List (List (Nat × Instr × Nat × Instr)) := [[(0, .aload_n 0, 1, .aload 0), (1, .iload_n 1, 2, .iload 1), (2, .invokespecial 53, 5, .invokeinterface 85 18), (5, .pop, 6, .pop), (6, .aload_n 0, 7, .aload 0), (7, .areturn, 8, .areturn)]]
/-- AbstractStringBuilder.length()I -/
noncomputable def ct_87 : List (List (Nat × Instr × Nat × Instr)) := [[(0, .aload_n 0, 1, .aload 0), (1, .getfield 79, 4, .getfield 646), (4, .ireturn, 5, .ireturn)]]
/-- StringBuilder.length()I -/
noncomputable def ct_88 : List (List (Nat × Instr × Nat × Instr)) := [[(0, .aload_n 0, 1, .aload 0), (1, .invokespecial 343, 4, .invokeinterface 87 9), (4, .ireturn, 5, .ireturn)]]
/-- RecordReconciler.formatBatch()I -/
noncomputable def ct_89 : List (List (Nat × Instr × Nat × Instr)) := [[(0, .aload_n 0, 1, .aload 0), (1, .getfield 10, 4, .getfield 513), (4, .getfield 106, 7, .getfield 131), (7, .astore_n 1, 8, .astore 1), (8, .aload_n 0, 9, .aload 0), (9, .getfield 53, 12, .getfield 527), (12, .iconst 0, 13, .iconst 0), (13, .invokevirtual 268, 16, .invokeinterface 78 16), (16, .iconst 0, 17, .iconst 0), (17, .istore_n 2, 18, .istore 2), (18, .iload_n 2, 19, .iload 2), (19, .aload_n 1, 20, .aload 1), (20, .getfield 110, 23, .getfield 70), (23, .if_icmp .ge 79, 26, .if_icmp .ge 102), (26, .iload_n 2, 27, .iload 2), (27, .ifCond .le 13, 30, .ifCond .le 40), (30, .aload_n 0, 31, .aload 0), (31, .getfield 53, 34, .getfield 527), (34, .bipush 32, 36, .iconst 32), (36, .invokevirtual 271, 39, .invokeinterface 81 18), (39, .pop, 40, .pop), (40, .aload_n 0, 41, .aload 0), (41, .getfield 53, 44, .getfield 527), (44, .aload_n 1, 45, .aload 1), (45, .getfield 118, 48, .getfield 65), (48, .iload_n 2, 49, .iload 2), (49, .iaload, 50, .iaload), (50, .invokestatic 122, 53, .invokeinterface 82 9), (53, .invokevirtual 271, 56, .invokeinterface 81 18), (56, .aload_n 1, 57, .aload 1), (57, .getfield 126, 60, .getfield 67), (60, .iload_n 2, 61, .iload 2), (61, .iaload, 62, .iaload), (62, .invokevirtual 275, 65, .invokeinterface 86 18)],
  [(65, .pop, 66, .pop), (66, .aload_n 0, 67, .aload 0), (67, .getfield 53, 70, .getfield 527), (70, .bipush 61, 72, .iconst 61), (72, .invokevirtual 271, 75, .invokeinterface 81 18), (75, .aload_n 1, 76, .aload 1), (76, .getfield 129, 79, .getfield 69), (79, .iload_n 2, 80, .iload 2), (80, .iaload, 81, .iaload), (81, .invokevirtual 275, 84, .invokeinterface 86 18), (84, .aload_n 0, 85, .aload 0), (85, .getfield 10, 88, .getfield 513), (88, .iload_n 2, 89, .iload 2), (89, .invokevirtual 132, 92, .invokeinterface 27 17), (92, .invokevirtual 271, 95, .invokeinterface 81 18), (95, .pop, 96, .pop), (96, .iinc 2 1, 99, .iinc 2 1), (99, .goto (-81), 102, .goto 18), (102, .aload_n 0, 103, .aload 0), (103, .getfield 53, 106, .getfield 527), (106, .invokevirtual 283, 109, .invokeinterface 88 9), (109, .ireturn, 110, .ireturn)]]
/-- String.coder()B -/
noncomputable def ct_90 : List (List (Nat × Instr × Nat × Instr)) := [[(0, .getstatic 38, 3, .iconst 1), (3, .ifCond .eq 10, 6, .ifCond .eq 13), (6, .aload_n 0, 7, .aload 0), (7, .getfield 15, 10, .getfield 706), (10, .goto 4, 13, .goto 14), (13, .iconst 1, 14, .iconst 1), (14, .ireturn, 15, .ret 3)]]
/-- String.length()I -/
noncomputable def ct_91 : List (List (Nat × Instr × Nat × Instr)) := [[(0, .aload_n 0, 1, .aload 0), (1, .getfield 9, 4, .getfield 705), (4, .arraylength, 5, .arraylength), (5, .aload_n 0, 6, .aload 0), (6, .invokevirtual 335, 9, .invokeinterface 90 9), (9, .ishr, 10, .ishr), (10, .ireturn, 11, .ireturn)]]
/-- AbstractStringBuilder.inflateIfNeededFor(Ljava/lang/String;)V -/
noncomputable def ct_92 : List (List (Nat × Instr × Nat × Instr)) := [[(0, .getstatic 18, 3, .iconst 1), (3, .ifCond .eq 18, 6, .ifCond .eq 21), (6, .aload_n 0, 7, .aload 0), (7, .getfield 22, 10, .getfield 642), (10, .aload_n 1, 11, .aload 1), (11, .invokevirtual 40, 14, .invokeinterface 90 9), (14, .if_icmp .eq 7, 17, .if_icmp .eq 21), (17, .aload_n 0, 18, .aload 0), (21, .return_, 22, .return_)]]
/-- String.getBytes([BIB)V -/
noncomputable def ct_93 : List (List (Nat × Instr × Nat × Instr)) := [[(0, .aload_n 0, 1, .aload 0), (1, .invokevirtual 335, 4, .invokeinterface 90 9), (4, .iload_n 3, 5, .iload 3), (5, .if_icmp .ne 23, 8, .if_icmp .ne 28), (8, .aload_n 0, 9, .aload 0), (9, .getfield 9, 12, .getfield 705), (12, .iconst 0, 13, .iconst 0), (13, .aload_n 1, 14, .aload 1), (14, .iload_n 2, 15, .iload 2), (15, .iload_n 3, 16, .iload 3), (16, .ishl, 17, .ishl), (17, .aload_n 0, 18, .aload 0), (18, .getfield 9, 21, .getfield 705), (21, .arraylength, 22, .arraylength), (22, .invokestatic 212, 25, .invokestatic 0), (25, .goto 18, 28, .goto 43), (28, .aload_n 0, 29, .aload 0), (29, .getfield 9, 32, .getfield 705), (32, .iconst 0, 33, .iconst 0), (33, .aload_n 1, 34, .aload 1), (34, .iload_n 2, 35, .iload 2), (35, .aload_n 0, 36, .aload 0), (36, .getfield 9, 39, .getfield 705), (39, .arraylength, 40, .arraylength), (43, .return_, 44, .return_)]]
/-- AbstractStringBuilder.putStringAt(ILjava/lang/String;)V -/
noncomputable def ct_94 : List (List (Nat × Instr × Nat × Instr)) := [[(0, .aload_n 0, 1, .aload 0), (1, .aload_n 2, 2, .aload 2), (2, .invokevirtual 397, 5, .invokeinterface 92 16), (5, .aload_n 2, 6, .aload 2), (6, .aload_n 0, 7, .aload 0), (7, .getfield 15, 10, .getfield 641), (10, .iload_n 1, 11, .iload 1), (11, .aload_n 0, 12, .aload 0), (12, .getfield 22, 15, .getfield 642), (15, .invokevirtual 399, 18, .invokeinterface 93 32), (18, .return_, 19, .return_)]]
/-- AbstractStringBuilder.append(Ljava/lang/String;)Ljava/lang/AbstractStringBuilder; -/
noncomputable def ct_95 : List (List (Nat × Instr × Nat × Instr)) := [[(0, .aload_n 1, 1, .aload 1), (1, .ifnonnull 8, 4, .ifnonnull 9), (4, .aload_n 0, 5, .aload 0), (8, .areturn, 9, .areturn), (9, .aload_n 1, 10, .aload 1), (10, .invokevirtual 32, 13, .invokeinterface 91 9), (13, .istore_n 2, 14, .istore 2), (14, .aload_n 0, 15, .aload 0), (15, .aload_n 0, 16, .aload 0), (16, .getfield 79, 19, .getfield 646), (19, .iload_n 2, 20, .iload 2), (20, .iadd, 21, .iadd), (21, .invokevirtual 100, 24, .invokeinterface 75 16), (24, .aload_n 0, 25, .aload 0), (25, .aload_n 0, 26, .aload 0), (26, .getfield 79, 29, .getfield 646), (29, .aload_n 1, 30, .aload 1), (30, .invokevirtual 208, 33, .invokeinterface 94 24), (33, .aload_n 0, 34, .aload 0), (34, .dup, 35, .dup), (35, .getfield 79, 38, .getfield 646), (38, .iload_n 2, 39, .iload 2), (39, .iadd, 40, .iadd), (40, .putfield 79, 43, .putfield 646), (43, .aload_n 0, 44, .aload 0), (44, .areturn, 45, .areturn)]]
/-- StringBuilder.append(Ljava/lang/String;)Ljava/lang/StringBuilder; -/
noncomputable def ct_96 : List (List (Nat × Instr × Nat × Instr)) := [[(0, .aload_n 0, 1, .aload 0), (1, .aload_n 1, 2, .aload 1), (2, .invokespecial 29, 5, .invokeinterface 95 18), (5, .pop, 6, .pop), (6, .aload_n 0, 7, .aload 0), (7, .areturn, 8, .areturn)]]
/-- RecordReconciler.formatKey(I)I -/
noncomputable def ct_97 : List (List (Nat × Instr × Nat × Instr)) := [[(0, .aload_n 0, 1, .aload 0), (1, .iload_n 1, 2, .iload 1), (2, .invokevirtual 190, 5, .invokeinterface 13 17), (5, .istore_n 2, 6, .istore 2), (6, .aload_n 0, 7, .aload 0), (7, .getfield 53, 10, .getfield 527), (10, .iconst 0, 11, .iconst 0), (11, .invokevirtual 268, 14, .invokeinterface 78 16), (14, .aload_n 0, 15, .aload 0), (15, .getfield 53, 18, .getfield 527), (18, .iload_n 1, 19, .iload 1), (19, .invokevirtual 275, 22, .invokeinterface 86 18), (22, .bipush 58, 24, .iconst 58), (24, .invokevirtual 271, 27, .invokeinterface 81 18), (27, .pop, 28, .pop), (28, .iconst 0, 29, .iconst 0), (29, .istore_n 3, 30, .istore 3), (30, .iload_n 3, 31, .iload 3), (31, .iconst 3, 32, .iconst 3), (32, .if_icmp .ge 52, 35, .if_icmp .ge 84), (35, .aload_n 0, 36, .aload 0), (36, .getfield 10, 39, .getfield 513), (39, .getfield 139, 42, .getfield 129), (42, .getfield 167, 45, .getfield 323), (45, .iload_n 3, 46, .iload 3), (46, .aaload, 47, .aaload), (47, .iload_n 2, 48, .iload 2), (48, .iaload, 49, .iaload), (49, .istore 4, 51, .istore 4), (51, .iload 4, 53, .iload 4), (53, .ifCond .le 25, 56, .ifCond .le 78), (56, .aload_n 0, 57, .aload 0), (57, .getfield 53, 60, .getfield 527), (60, .bipush 32, 62, .iconst 32), (62, .invokevirtual 271, 65, .invokeinterface 81 18)],
  [(65, .iload_n 3, 66, .iload 3), (66, .invokestatic 122, 69, .invokeinterface 82 9), (69, .invokevirtual 271, 72, .invokeinterface 81 18), (72, .iload 4, 74, .iload 4), (74, .invokevirtual 275, 77, .invokeinterface 86 18), (77, .pop, 78, .pop), (78, .iinc 3 1, 81, .iinc 3 1), (81, .goto (-51), 84, .goto 30), (84, .aload_n 0, 85, .aload 0), (85, .getfield 10, 88, .getfield 513), (88, .getfield 139, 91, .getfield 129), (91, .iload_n 2, 92, .iload 2), (92, .invokevirtual 193, 95, .invokeinterface 33 17), (95, .istore_n 3, 96, .istore 3), (96, .iload_n 3, 97, .iload 3), (97, .bipush 99, 99, .iconst 99), (99, .if_icmp .ne 17, 102, .if_icmp .ne 116), (102, .aload_n 0, 103, .aload 0), (103, .getfield 53, 106, .getfield 527), (106, .ldc_w 286, 109, .getstatic 4), (109, .invokevirtual 280, 112, .invokeinterface 96 18), (112, .pop, 113, .pop), (113, .goto 48, 116, .goto 161), (116, .iload_n 3, 117, .iload 3), (117, .bipush 100, 119, .iconst 100), (119, .if_icmp .ne 31, 122, .if_icmp .ne 150), (122, .aload_n 0, 123, .aload 0), (123, .getfield 53, 126, .getfield 527), (126, .ldc_w 288, 129, .getstatic 6)],
  [(129, .invokevirtual 280, 132, .invokeinterface 96 18), (132, .aload_n 0, 133, .aload 0), (133, .getfield 10, 136, .getfield 513), (136, .getfield 139, 139, .getfield 129), (139, .iload_n 2, 140, .iload 2), (140, .invokevirtual 202, 143, .invokeinterface 15 17), (143, .invokevirtual 275, 146, .invokeinterface 86 18), (146, .pop, 147, .pop), (147, .goto 14, 150, .goto 161), (150, .aload_n 0, 151, .aload 0), (151, .getfield 53, 154, .getfield 527), (154, .ldc_w 290, 157, .getstatic 8), (157, .invokevirtual 280, 160, .invokeinterface 96 18), (160, .pop, 161, .pop), (161, .aload_n 0, 162, .aload 0), (162, .getfield 53, 165, .getfield 527), (165, .invokevirtual 283, 168, .invokeinterface 88 9), (168, .ireturn, 169, .ireturn)]]
/-- RecordReconciler.formatRecord(CI)I -/
noncomputable def ct_98 : List (List (Nat × Instr × Nat × Instr)) := [[(0, .aload_n 0, 1, .aload 0), (1, .iload_n 1, 2, .iload 1), (2, .iload_n 2, 3, .iload 2), (3, .invokevirtual 163, 6, .invokeinterface 21 25), (6, .istore_n 3, 7, .istore 3), (7, .iload_n 1, 8, .iload 1), (8, .invokestatic 170, 11, .invokeinterface 18 9), (11, .istore 4, 13, .istore 4), (13, .aload_n 0, 14, .aload 0), (14, .getfield 53, 17, .getfield 527), (17, .iconst 0, 18, .iconst 0), (18, .invokevirtual 268, 21, .invokeinterface 78 16), (21, .aload_n 0, 22, .aload 0), (22, .getfield 53, 25, .getfield 527), (25, .iload_n 1, 26, .iload 1), (26, .invokevirtual 271, 29, .invokeinterface 81 18), (29, .iload_n 2, 30, .iload 2), (30, .invokevirtual 275, 33, .invokeinterface 86 18), (33, .bipush 61, 35, .iconst 61), (35, .invokevirtual 271, 38, .invokeinterface 81 18), (38, .aload_n 0, 39, .aload 0), (39, .getfield 10, 42, .getfield 513), (42, .getfield 139, 45, .getfield 129), (45, .getfield 167, 48, .getfield 323), (48, .iload 4, 50, .iload 4), (50, .aaload, 51, .aaload), (51, .iload_n 3, 52, .iload 3), (52, .iaload, 53, .iaload), (53, .invokevirtual 275, 56, .invokeinterface 86 18), (56, .pop, 57, .pop), (57, .aload_n 0, 58, .aload 0), (58, .getfield 53, 61, .getfield 527), (61, .ldc_w 278, 64, .getstatic 10)],
  [(64, .invokevirtual 280, 67, .invokeinterface 96 18), (67, .aload_n 0, 68, .aload 0), (68, .getfield 10, 71, .getfield 513), (71, .getfield 139, 74, .getfield 129), (74, .getfield 173, 77, .getfield 325), (77, .iload 4, 79, .iload 4), (79, .aaload, 80, .aaload), (80, .iload_n 3, 81, .iload 3), (81, .iaload, 82, .iaload), (82, .invokevirtual 275, 85, .invokeinterface 86 18), (85, .pop, 86, .pop), (86, .aload_n 0, 87, .aload 0), (87, .getfield 53, 90, .getfield 527), (90, .invokevirtual 283, 93, .invokeinterface 88 9), (93, .ireturn, 94, .ireturn)]]
/-- RecordReconciler$KeyTable.isPossible(IIII)Z -/
noncomputable def ct_99 : List (List (Nat × Instr × Nat × Instr)) := [[(0, .aload_n 0, 1, .aload 0), (1, .getfield 17, 4, .getfield 323), (4, .iload_n 1, 5, .iload 1), (5, .aaload, 6, .aaload), (6, .iload_n 2, 7, .iload 2), (7, .iaload, 8, .iaload), (8, .istore 5, 10, .istore 5), (10, .aload_n 0, 11, .aload 0), (11, .getfield 17, 14, .getfield 323), (14, .iload_n 3, 15, .iload 3), (15, .aaload, 16, .aaload), (16, .iload 4, 18, .iload 4), (18, .iaload, 19, .iaload), (19, .istore 6, 21, .istore 6), (21, .iload 5, 23, .iload 5), (23, .ifCond .le 69, 26, .ifCond .le 92), (26, .iload 6, 28, .iload 6), (28, .ifCond .le 64, 31, .ifCond .le 92), (31, .aload_n 0, 32, .aload 0), (32, .getfield 17, 35, .getfield 323), (35, .iload_n 1, 36, .iload 1), (36, .aaload, 37, .aaload), (37, .iload 4, 39, .iload 4), (39, .iaload, 40, .iaload), (40, .ifCond .ne 52, 43, .ifCond .ne 92), (43, .aload_n 0, 44, .aload 0), (44, .getfield 17, 47, .getfield 323), (47, .iload_n 3, 48, .iload 3), (48, .aaload, 49, .aaload), (49, .iload_n 2, 50, .iload 2), (50, .iaload, 51, .iaload), (51, .ifCond .ne 41, 54, .ifCond .ne 92), (54, .aload_n 0, 55, .aload 0), (55, .getfield 9, 58, .getfield 321), (58, .iload_n 2, 59, .iload 2), (59, .iaload, 60, .iaload), (60, .aload_n 0, 61, .aload 0), (61, .getfield 9, 64, .getfield 321)],
  [(64, .iload 4, 66, .iload 4), (66, .iaload, 67, .iaload), (67, .isub, 68, .isub), (68, .invokestatic 58, 71, .invokestatic 3), (71, .bipush 20, 73, .iconst 20), (73, .if_icmp .gt 19, 76, .if_icmp .gt 92), (76, .iload 5, 78, .iload 5), (78, .iload 6, 80, .iload 6), (80, .isub, 81, .isub), (81, .invokestatic 58, 84, .invokestatic 3), (84, .iconst 5, 85, .iconst 5), (85, .if_icmp .gt 7, 88, .if_icmp .gt 92), (88, .iconst 1, 89, .iconst 1), (89, .goto 4, 92, .goto 93), (92, .iconst 0, 93, .iconst 0), (93, .ireturn, 94, .ret 1)]]
/-- RecordReconciler$KeyTable.areLinked(II)Z -/
noncomputable def ct_100 : List (List (Nat × Instr × Nat × Instr)) := [[(0, .iconst 0, 1, .iconst 0), (1, .istore_n 3, 2, .istore 3), (2, .iload_n 3, 3, .iload 3), (3, .iconst 3, 4, .iconst 3), (4, .if_icmp .ge 44, 7, .if_icmp .ge 48), (7, .iconst 0, 8, .iconst 0), (8, .istore 4, 10, .istore 4), (10, .iload 4, 12, .iload 4), (12, .iconst 3, 13, .iconst 3), (13, .if_icmp .ge 29, 16, .if_icmp .ge 42), (16, .iload_n 3, 17, .iload 3), (17, .iload 4, 19, .iload 4), (19, .if_icmp .eq 17, 22, .if_icmp .eq 36), (22, .aload_n 0, 23, .aload 0), (23, .iload_n 3, 24, .iload 3), (24, .iload_n 1, 25, .iload 1), (25, .iload 4, 27, .iload 4), (27, .iload_n 2, 28, .iload 2), (28, .invokevirtual 63, 31, .invokeinterface 99 41), (31, .ifCond .eq 5, 34, .ifCond .eq 36), (34, .iconst 1, 35, .iconst 1), (35, .ireturn, 36, .ret 1), (36, .iinc 4 1, 39, .iinc 4 1), (39, .goto (-29), 42, .goto 10), (42, .iinc 3 1, 45, .iinc 3 1), (45, .goto (-43), 48, .goto 2), (48, .iconst 0, 49, .iconst 0), (49, .ireturn, 50, .ret 1)]]
/-- RecordReconciler$Groups.load(LRecordReconciler$KeyTable;)V -/
noncomputable def ct_101 : List (List (Nat × Instr × Nat × Instr)) := [[(0, .aload_n 0, 1, .aload 0), (1, .aload_n 1, 2, .aload 1), (2, .getfield 25, 5, .getfield 326), (5, .putfield 21, 8, .putfield 198), (8, .iconst 0, 9, .iconst 0), (9, .istore_n 2, 10, .istore 2), (10, .iload_n 2, 11, .iload 2), (11, .aload_n 0, 12, .aload 0), (12, .getfield 21, 15, .getfield 198), (15, .if_icmp .ge 62, 18, .if_icmp .ge 77), (18, .aload_n 0, 19, .aload 0), (19, .getfield 9, 22, .getfield 193), (22, .iload_n 2, 23, .iload 2), (23, .iconst 0, 24, .iconst 0), (24, .iastore, 25, .iastore), (25, .iconst 0, 26, .iconst 0), (26, .istore_n 3, 27, .istore 3), (27, .iload_n 3, 28, .iload 3), (28, .iload_n 2, 29, .iload 2), (29, .if_icmp .ge 42, 32, .if_icmp .ge 71), (32, .aload_n 1, 33, .aload 1), (33, .iload_n 2, 34, .iload 2), (34, .iload_n 3, 35, .iload 3), (35, .invokevirtual 28, 38, .invokeinterface 100 25), (38, .ifCond .eq 27, 41, .ifCond .eq 65), (41, .aload_n 0, 42, .aload 0), (42, .getfield 9, 45, .getfield 193), (45, .iload_n 2, 46, .iload 2), (46, .dup2, 47, .dup2), (47, .iaload, 48, .iaload), (48, .iconst 1, 49, .iconst 1), (49, .iload_n 3, 50, .iload 3), (50, .ishl, 51, .ishl), (51, .ior, 52, .ior), (52, .iastore, 53, .iastore), (53, .aload_n 0, 54, .aload 0), (54, .getfield 9, 57, .getfield 193), (57, .iload_n 3, 58, .iload 3), (58, .dup2, 59, .dup2), (59, .iaload, 60, .iaload), (60, .iconst 1, 61, .iconst 1), (61, .iload_n 2, 62, .iload 2), (62, .ishl, 63, .ishl), (63, .ior, 64, .ior)],
  [(64, .iastore, 65, .iastore), (65, .iinc 3 1, 68, .iinc 3 1), (68, .goto (-41), 71, .goto 27), (71, .iinc 2 1, 74, .iinc 2 1), (74, .goto (-64), 77, .goto 10), (77, .return_, 78, .return_)]]
/-- RecordReconciler$Groups.rootOf(I)I -/
noncomputable def ct_102 : List (List (Nat × Instr × Nat × Instr)) := [[(0, .iload_n 1, 1, .iload 1), (1, .istore_n 2, 2, .istore 2), (2, .iconst 0, 3, .iconst 0), (3, .istore_n 3, 4, .istore 3), (4, .iload_n 3, 5, .iload 3), (5, .aload_n 0, 6, .aload 0), (6, .getfield 21, 9, .getfield 198), (9, .if_icmp .ge 26, 12, .if_icmp .ge 35), (12, .aload_n 0, 13, .aload 0), (13, .getfield 15, 16, .getfield 195), (16, .iload_n 2, 17, .iload 2), (17, .iaload, 18, .iaload), (18, .iload_n 2, 19, .iload 2), (19, .if_icmp .eq 16, 22, .if_icmp .eq 35), (22, .aload_n 0, 23, .aload 0), (23, .getfield 15, 26, .getfield 195), (26, .iload_n 2, 27, .iload 2), (27, .iaload, 28, .iaload), (28, .istore_n 2, 29, .istore 2), (29, .iinc 3 1, 32, .iinc 3 1), (32, .goto (-28), 35, .goto 4), (35, .iload_n 2, 36, .iload 2), (36, .ireturn, 37, .ireturn)]]
/-- RecordReconciler$Groups.unite(II)Z -/
noncomputable def ct_103 : List (List (Nat × Instr × Nat × Instr)) := [[(0, .aload_n 0, 1, .aload 0), (1, .iload_n 1, 2, .iload 1), (2, .invokevirtual 35, 5, .invokeinterface 102 17), (5, .istore_n 3, 6, .istore 3), (6, .aload_n 0, 7, .aload 0), (7, .iload_n 2, 8, .iload 2), (8, .invokevirtual 35, 11, .invokeinterface 102 17), (11, .istore 4, 13, .istore 4), (13, .aload_n 0, 14, .aload 0), (14, .getfield 15, 17, .getfield 195), (17, .iload_n 3, 18, .iload 3), (18, .iload 4, 20, .iload 4), (20, .iastore, 21, .iastore), (21, .iload_n 3, 22, .iload 3), (22, .iload 4, 24, .iload 4), (24, .if_icmp .eq 7, 27, .if_icmp .eq 31), (27, .iconst 1, 28, .iconst 1), (28, .goto 4, 31, .goto 32), (31, .iconst 0, 32, .iconst 0), (32, .ireturn, 33, .ret 1)]]
/-- RecordReconciler$Groups.countByUniting()I -/
noncomputable def ct_104 : List (List (Nat × Instr × Nat × Instr)) := [[(0, .aload_n 0, 1, .aload 0), (1, .getfield 21, 4, .getfield 198), (4, .istore_n 1, 5, .istore 1), (5, .iconst 0, 6, .iconst 0), (6, .istore_n 2, 7, .istore 2), (7, .iload_n 2, 8, .iload 2), (8, .aload_n 0, 9, .aload 0), (9, .getfield 21, 12, .getfield 198), (12, .if_icmp .ge 16, 15, .if_icmp .ge 28), (15, .aload_n 0, 16, .aload 0), (16, .getfield 15, 19, .getfield 195), (19, .iload_n 2, 20, .iload 2), (20, .iload_n 2, 21, .iload 2), (21, .iastore, 22, .iastore), (22, .iinc 2 1, 25, .iinc 2 1), (25, .goto (-18), 28, .goto 7), (28, .iconst 0, 29, .iconst 0), (29, .istore_n 2, 30, .istore 2), (30, .iload_n 2, 31, .iload 2), (31, .aload_n 0, 32, .aload 0), (32, .getfield 21, 35, .getfield 198), (35, .if_icmp .ge 47, 38, .if_icmp .ge 82), (38, .iconst 0, 39, .iconst 0), (39, .istore_n 3, 40, .istore 3), (40, .iload_n 3, 41, .iload 3), (41, .iload_n 2, 42, .iload 2), (42, .if_icmp .ge 34, 45, .if_icmp .ge 76), (45, .aload_n 0, 46, .aload 0), (46, .getfield 9, 49, .getfield 193), (49, .iload_n 2, 50, .iload 2), (50, .iaload, 51, .iaload), (51, .iload_n 3, 52, .iload 3), (52, .iushr, 53, .iushr), (53, .iconst 1, 54, .iconst 1), (54, .iand, 55, .iand), (55, .ifCond .eq 15, 58, .ifCond .eq 70), (58, .aload_n 0, 59, .aload 0), (59, .iload_n 2, 60, .iload 2), (60, .iload_n 3, 61, .iload 3), (61, .invokevirtual 32, 64, .invokeinterface 103 25)],
  [(64, .ifCond .eq 6, 67, .ifCond .eq 70), (67, .iinc 1 (-1), 70, .iinc 1 (-1)), (70, .iinc 3 1, 73, .iinc 3 1), (73, .goto (-33), 76, .goto 40), (76, .iinc 2 1, 79, .iinc 2 1), (79, .goto (-49), 82, .goto 30), (82, .iload_n 1, 83, .iload 1), (83, .ireturn, 84, .ireturn)]]
/-- RecordReconciler.groupCount()I -/
noncomputable def ct_105 : List (List (Nat × Instr × Nat × Instr)) := [[(0, .aload_n 0, 1, .aload 0), (1, .getfield 46, 4, .getfield 525), (4, .aload_n 0, 5, .aload 0), (5, .getfield 10, 8, .getfield 513), (8, .getfield 139, 11, .getfield 129), (11, .invokevirtual 242, 14, .invokeinterface 101 16), (14, .aload_n 0, 15, .aload 0), (15, .getfield 46, 18, .getfield 525), (18, .invokevirtual 245, 21, .invokeinterface 104 9), (21, .ireturn, 22, .ireturn)]]
/-- RecordReconciler$Groups.reachedFrom(I)I -/
noncomputable def ct_106 : List (List (Nat × Instr × Nat × Instr)) := [[(0, .iconst 1, 1, .iconst 1), (1, .iload_n 1, 2, .iload 1), (2, .ishl, 3, .ishl), (3, .istore_n 2, 4, .istore 2), (4, .iconst 1, 5, .iconst 1), (5, .istore_n 3, 6, .istore 3), (6, .aload_n 0, 7, .aload 0), (7, .getfield 18, 10, .getfield 197), (10, .iconst 0, 11, .iconst 0), (11, .iload_n 1, 12, .iload 1), (12, .iastore, 13, .iastore), (13, .iconst 0, 14, .iconst 0), (14, .istore 4, 16, .istore 4), (16, .iload 4, 18, .iload 4), (18, .iload_n 3, 19, .iload 3), (19, .if_icmp .ge 82, 22, .if_icmp .ge 101), (22, .iload 4, 24, .iload 4), (24, .bipush 30, 26, .iconst 30), (26, .if_icmp .ge 75, 29, .if_icmp .ge 101), (29, .iconst 0, 30, .iconst 0), (30, .istore 5, 32, .istore 5), (32, .iload 5, 34, .iload 5), (34, .aload_n 0, 35, .aload 0), (35, .getfield 21, 38, .getfield 198), (38, .if_icmp .ge 57, 41, .if_icmp .ge 95), (41, .aload_n 0, 42, .aload 0), (42, .getfield 9, 45, .getfield 193), (45, .aload_n 0, 46, .aload 0), (46, .getfield 18, 49, .getfield 197), (49, .iload 4, 51, .iload 4), (51, .iaload, 52, .iaload), (52, .iaload, 53, .iaload), (53, .iload_n 2, 54, .iload 2), (54, .iconst (-1), 55, .iconst (-1)), (55, .ixor, 56, .ixor), (56, .iand, 57, .iand), (57, .iload 5, 59, .iload 5), (59, .iushr, 60, .iushr), (60, .iconst 1, 61, .iconst 1), (61, .iand, 62, .iand), (62, .ifCond .eq 27, 65, .ifCond .eq 89)],
  [(65, .iload_n 3, 66, .iload 3), (66, .bipush 30, 68, .iconst 30), (68, .if_icmp .ge 21, 71, .if_icmp .ge 89), (71, .iload_n 2, 72, .iload 2), (72, .iconst 1, 73, .iconst 1), (73, .iload 5, 75, .iload 5), (75, .ishl, 76, .ishl), (76, .ior, 77, .ior), (77, .istore_n 2, 78, .istore 2), (78, .aload_n 0, 79, .aload 0), (79, .getfield 18, 82, .getfield 197), (82, .iload_n 3, 83, .iload 3), (83, .iload 5, 85, .iload 5), (85, .iastore, 86, .iastore), (86, .iinc 3 1, 89, .iinc 3 1), (89, .iinc 5 1, 92, .iinc 5 1), (92, .goto (-60), 95, .goto 32), (95, .iinc 4 1, 98, .iinc 4 1), (98, .goto (-82), 101, .goto 16), (101, .iload_n 2, 102, .iload 2), (102, .ireturn, 103, .ireturn)]]
/-- RecordReconciler$Groups.countBySearching()I -/
noncomputable def ct_107 : List (List (Nat × Instr × Nat × Instr)) := [[(0, .iconst 0, 1, .iconst 0), (1, .istore_n 1, 2, .istore 1), (2, .iconst 0, 3, .iconst 0), (3, .istore_n 2, 4, .istore 2), (4, .iconst 0, 5, .iconst 0), (5, .istore_n 3, 6, .istore 3), (6, .iload_n 3, 7, .iload 3), (7, .aload_n 0, 8, .aload 0), (8, .getfield 21, 11, .getfield 198), (11, .if_icmp .ge 28, 14, .if_icmp .ge 39), (14, .iload_n 2, 15, .iload 2), (15, .iload_n 3, 16, .iload 3), (16, .iushr, 17, .iushr), (17, .iconst 1, 18, .iconst 1), (18, .iand, 19, .iand), (19, .ifCond .ne 14, 22, .ifCond .ne 33), (22, .iload_n 2, 23, .iload 2), (23, .aload_n 0, 24, .aload 0), (24, .iload_n 3, 25, .iload 3), (25, .invokevirtual 39, 28, .invokeinterface 106 17), (28, .ior, 29, .ior), (29, .istore_n 2, 30, .istore 2), (30, .iinc 1 1, 33, .iinc 1 1), (33, .iinc 3 1, 36, .iinc 3 1), (36, .goto (-30), 39, .goto 6), (39, .iload_n 1, 40, .iload 1), (40, .ireturn, 41, .ireturn)]]
/-- RecordReconciler.groupCountBySearch()I -/
noncomputable def ct_108 : List (List (Nat × Instr × Nat × Instr)) := [[(0, .aload_n 0, 1, .aload 0), (1, .getfield 46, 4, .getfield 525), (4, .aload_n 0, 5, .aload 0), (5, .getfield 10, 8, .getfield 513), (8, .getfield 139, 11, .getfield 129), (11, .invokevirtual 242, 14, .invokeinterface 101 16), (14, .aload_n 0, 15, .aload 0), (15, .getfield 46, 18, .getfield 525), (18, .invokevirtual 248, 21, .invokeinterface 107 9), (21, .ireturn, 22, .ireturn)]]
/-- RecordReconciler$KeyTable.recordsIn(I)I -/
noncomputable def ct_109 : List (List (Nat × Instr × Nat × Instr)) := [[(0, .iconst 0, 1, .iconst 0), (1, .istore_n 2, 2, .istore 2), (2, .iconst 0, 3, .iconst 0), (3, .istore_n 3, 4, .istore 3), (4, .iload_n 3, 5, .iload 3), (5, .aload_n 0, 6, .aload 0), (6, .getfield 23, 9, .getfield 326), (9, .if_icmp .ge 25, 12, .if_icmp .ge 34), (12, .iload_n 1, 13, .iload 1), (13, .iload_n 3, 14, .iload 3), (14, .iushr, 15, .iushr), (15, .iconst 1, 16, .iconst 1), (16, .iand, 17, .iand), (17, .ifCond .eq 11, 20, .ifCond .eq 28), (20, .iload_n 2, 21, .iload 2), (21, .aload_n 0, 22, .aload 0), (22, .iload_n 3, 23, .iload 3), (23, .invokevirtual 47, 26, .invokeinterface 32 17), (26, .iadd, 27, .iadd), (27, .istore_n 2, 28, .istore 2), (28, .iinc 3 1, 31, .iinc 3 1), (31, .goto (-27), 34, .goto 4), (34, .iload_n 2, 35, .iload 2), (35, .ireturn, 36, .ireturn)]]
/-- RecordReconciler.groupSize(CI)I -/
noncomputable def ct_110 : List (List (Nat × Instr × Nat × Instr)) := [[(0, .aload_n 0, 1, .aload 0), (1, .iload_n 1, 2, .iload 1), (2, .iload_n 2, 3, .iload 2), (3, .invokevirtual 163, 6, .invokeinterface 21 25), (6, .istore_n 3, 7, .istore 3), (7, .aload_n 0, 8, .aload 0), (8, .getfield 46, 11, .getfield 525), (11, .aload_n 0, 12, .aload 0), (12, .getfield 10, 15, .getfield 513), (15, .getfield 139, 18, .getfield 129), (18, .invokevirtual 242, 21, .invokeinterface 101 16), (21, .aload_n 0, 22, .aload 0), (22, .getfield 10, 25, .getfield 513), (25, .getfield 139, 28, .getfield 129), (28, .aload_n 0, 29, .aload 0), (29, .getfield 46, 32, .getfield 525), (32, .iload_n 3, 33, .iload 3), (33, .invokevirtual 251, 36, .invokeinterface 106 17), (36, .invokevirtual 254, 39, .invokeinterface 109 17), (39, .ireturn, 40, .ireturn)]]
/-- RecordReconciler.hasRecord(CI)Z -/
noncomputable def ct_111 : List (List (Nat × Instr × Nat × Instr)) := [[(0, .iload_n 1, 1, .iload 1), (1, .invokestatic 148, 4, .invokeinterface 19 9), (4, .istore_n 3, 5, .istore 3), (5, .iload_n 2, 6, .iload 2), (6, .invokestatic 156, 9, .invokeinterface 11 8), (9, .aload_n 0, 10, .aload 0), (10, .getfield 10, 13, .getfield 513), (13, .getfield 139, 16, .getfield 129), (16, .iload_n 3, 17, .iload 3), (17, .iload_n 2, 18, .iload 2), (18, .invokevirtual 159, 21, .invokeinterface 20 25), (21, .ifCond .lt 7, 24, .ifCond .lt 28), (24, .iconst 1, 25, .iconst 1), (25, .goto 4, 28, .goto 29), (28, .iconst 0, 29, .iconst 0), (29, .ireturn, 30, .ret 1)]]
/-- RecordReconciler$Matching.load(LRecordReconciler$KeyTable;II)V -/
noncomputable def ct_112 : List (List (Nat × Instr × Nat × Instr)) := [[(0, .aload_n 0, 1, .aload 0), (1, .aload_n 1, 2, .aload 1), (2, .getfield 40, 5, .getfield 326), (5, .putfield 33, 8, .putfield 398), (8, .iconst 0, 9, .iconst 0), (9, .istore 4, 11, .istore 4), (11, .iload 4, 13, .iload 4), (13, .aload_n 0, 14, .aload 0), (14, .getfield 33, 17, .getfield 398), (17, .if_icmp .ge 70, 20, .if_icmp .ge 87), (20, .aload_n 0, 21, .aload 0), (21, .getfield 15, 24, .getfield 387), (24, .iload 4, 26, .iload 4), (26, .iconst (-1), 27, .iconst (-1)), (27, .iastore, 28, .iastore), (28, .aload_n 0, 29, .aload 0), (29, .getfield 9, 32, .getfield 385), (32, .iload 4, 34, .iload 4), (34, .iconst 0, 35, .iconst 0), (35, .iastore, 36, .iastore), (36, .iconst 0, 37, .iconst 0), (37, .istore 5, 39, .istore 5), (39, .iload 5, 41, .iload 5), (41, .aload_n 0, 42, .aload 0), (42, .getfield 33, 45, .getfield 398), (45, .if_icmp .ge 36, 48, .if_icmp .ge 81), (48, .aload_n 1, 49, .aload 1), (49, .iload_n 2, 50, .iload 2), (50, .iload 4, 52, .iload 4), (52, .iload_n 3, 53, .iload 3), (53, .iload 5, 55, .iload 5), (55, .invokevirtual 43, 58, .invokeinterface 99 41), (58, .ifCond .eq 17, 61, .ifCond .eq 75), (61, .aload_n 0, 62, .aload 0), (62, .getfield 9, 65, .getfield 385)],
  [(65, .iload 4, 67, .iload 4), (67, .dup2, 68, .dup2), (68, .iaload, 69, .iaload), (69, .iconst 1, 70, .iconst 1), (70, .iload 5, 72, .iload 5), (72, .ishl, 73, .ishl), (73, .ior, 74, .ior), (74, .iastore, 75, .iastore), (75, .iinc 5 1, 78, .iinc 5 1), (78, .goto (-39), 81, .goto 39), (81, .iinc 4 1, 84, .iinc 4 1), (84, .goto (-73), 87, .goto 11), (87, .return_, 88, .return_)]]
/-- RecordReconciler$Matching.matchBackFrom(I)V -/
noncomputable def ct_113 : List (List (Nat × Instr × Nat × Instr)) := [[(0, .iload_n 1, 1, .iload 1), (1, .istore_n 2, 2, .istore 2), (2, .iconst 0, 3, .iconst 0), (3, .istore_n 3, 4, .istore 3), (4, .iload_n 3, 5, .iload 3), (5, .aload_n 0, 6, .aload 0), (6, .getfield 33, 9, .getfield 398), (9, .if_icmp .ge 49, 12, .if_icmp .ge 58), (12, .iload_n 2, 13, .iload 2), (13, .ifCond .lt 45, 16, .ifCond .lt 58), (16, .aload_n 0, 17, .aload 0), (17, .getfield 18, 20, .getfield 389), (20, .iload_n 2, 21, .iload 2), (21, .iaload, 22, .iaload), (22, .istore 4, 24, .istore 4), (24, .aload_n 0, 25, .aload 0), (25, .getfield 15, 28, .getfield 387), (28, .iload 4, 30, .iload 4), (30, .iaload, 31, .iaload), (31, .istore 5, 33, .istore 5), (33, .aload_n 0, 34, .aload 0), (34, .getfield 15, 37, .getfield 387), (37, .iload 4, 39, .iload 4), (39, .iload_n 2, 40, .iload 2), (40, .iastore, 41, .iastore), (41, .aload_n 0, 42, .aload 0), (42, .getfield 15, 45, .getfield 387), (45, .iload_n 2, 46, .iload 2), (46, .iload 4, 48, .iload 4), (48, .iastore, 49, .iastore), (49, .iload 5, 51, .iload 5), (51, .istore_n 2, 52, .istore 2), (52, .iinc 3 1, 55, .iinc 3 1), (55, .goto (-51), 58, .goto 4), (58, .return_, 59, .return_)]]
/-- RecordReconciler$Matching.findMateFor(I)Z -/
noncomputable def ct_114 : List (List (Nat × Instr × Nat × Instr)) := [[(0, .iconst 0, 1, .iconst 0), (1, .istore_n 2, 2, .istore 2), (2, .iconst 1, 3, .iconst 1), (3, .istore_n 3, 4, .istore 3), (4, .aload_n 0, 5, .aload 0), (5, .getfield 21, 8, .getfield 391), (8, .iconst 0, 9, .iconst 0), (9, .iload_n 1, 10, .iload 1), (10, .iastore, 11, .iastore), (11, .iconst 0, 12, .iconst 0), (12, .istore 4, 14, .istore 4), (14, .iload 4, 16, .iload 4), (16, .iload_n 3, 17, .iload 3), (17, .if_icmp .ge 121, 20, .if_icmp .ge 138), (20, .iload 4, 22, .iload 4), (22, .bipush 30, 24, .iconst 30), (24, .if_icmp .ge 114, 27, .if_icmp .ge 138), (27, .aload_n 0, 28, .aload 0), (28, .getfield 21, 31, .getfield 391), (31, .iload 4, 33, .iload 4), (33, .iaload, 34, .iaload), (34, .istore 5, 36, .istore 5), (36, .iconst 0, 37, .iconst 0), (37, .istore 6, 39, .istore 6), (39, .iload 6, 41, .iload 6), (41, .aload_n 0, 42, .aload 0), (42, .getfield 33, 45, .getfield 398), (45, .if_icmp .ge 87, 48, .if_icmp .ge 132), (48, .aload_n 0, 49, .aload 0), (49, .getfield 9, 52, .getfield 385), (52, .iload 5, 54, .iload 5), (54, .iaload, 55, .iaload), (55, .iload_n 2, 56, .iload 2), (56, .iconst (-1), 57, .iconst (-1)), (57, .ixor, 58, .ixor), (58, .iand, 59, .iand), (59, .iload 6, 61, .iload 6), (61, .iushr, 62, .iushr), (62, .iconst 1, 63, .iconst 1), (63, .iand, 64, .iand)],
  [(64, .ifCond .ne 6, 67, .ifCond .ne 70), (67, .goto 59, 70, .goto 126), (70, .iload_n 2, 71, .iload 2), (71, .iconst 1, 72, .iconst 1), (72, .iload 6, 74, .iload 6), (74, .ishl, 75, .ishl), (75, .ior, 76, .ior), (76, .istore_n 2, 77, .istore 2), (77, .aload_n 0, 78, .aload 0), (78, .getfield 18, 81, .getfield 389), (81, .iload 6, 83, .iload 6), (83, .iload 5, 85, .iload 5), (85, .iastore, 86, .iastore), (86, .aload_n 0, 87, .aload 0), (87, .getfield 15, 90, .getfield 387), (90, .iload 6, 92, .iload 6), (92, .iaload, 93, .iaload), (93, .ifCond .ge 11, 96, .ifCond .ge 104), (96, .aload_n 0, 97, .aload 0), (97, .iload 6, 99, .iload 6), (99, .invokevirtual 57, 102, .invokeinterface 113 16), (102, .iconst 1, 103, .iconst 1), (103, .ireturn, 104, .ret 1), (104, .iload_n 3, 105, .iload 3), (105, .bipush 30, 107, .iconst 30), (107, .if_icmp .ge 19, 110, .if_icmp .ge 126), (110, .aload_n 0, 111, .aload 0), (111, .getfield 21, 114, .getfield 391), (114, .iload_n 3, 115, .iload 3), (115, .aload_n 0, 116, .aload 0), (116, .getfield 15, 119, .getfield 387), (119, .iload 6, 121, .iload 6), (121, .iaload, 122, .iaload), (122, .iastore, 123, .iastore), (123, .iinc 3 1, 126, .iinc 3 1), (126, .iinc 6 1, 129, .iinc 6 1)],
  [(129, .goto (-90), 132, .goto 39), (132, .iinc 4 1, 135, .iinc 4 1), (135, .goto (-121), 138, .goto 14), (138, .iconst 0, 139, .iconst 0), (139, .ireturn, 140, .ret 1)]]
/-- RecordReconciler$Matching.growOneByOne()I -/
noncomputable def ct_115 : List (List (Nat × Instr × Nat × Instr)) := [[(0, .iconst 0, 1, .iconst 0), (1, .istore_n 1, 2, .istore 1), (2, .iconst 0, 3, .iconst 0), (3, .istore_n 2, 4, .istore 2), (4, .iload_n 2, 5, .iload 2), (5, .aload_n 0, 6, .aload 0), (6, .getfield 33, 9, .getfield 398), (9, .if_icmp .ge 20, 12, .if_icmp .ge 29), (12, .aload_n 0, 13, .aload 0), (13, .iload_n 2, 14, .iload 2), (14, .invokevirtual 53, 17, .invokeinterface 114 17), (17, .ifCond .eq 6, 20, .ifCond .eq 23), (20, .iinc 1 1, 23, .iinc 1 1), (23, .iinc 2 1, 26, .iinc 2 1), (26, .goto (-22), 29, .goto 4), (29, .iload_n 1, 30, .iload 1), (30, .ireturn, 31, .ireturn)]]
/-- RecordReconciler.sizeOneByOne(II)I -/
noncomputable def ct_116 : List (List (Nat × Instr × Nat × Instr)) := [[(0, .aload_n 0, 1, .aload 0), (1, .getfield 39, 4, .getfield 523), (4, .aload_n 0, 5, .aload 0), (5, .getfield 10, 8, .getfield 513), (8, .getfield 139, 11, .getfield 129), (11, .iload_n 1, 12, .iload 1), (12, .iload_n 2, 13, .iload 2), (13, .invokevirtual 219, 16, .invokeinterface 112 32), (16, .aload_n 0, 17, .aload 0), (17, .getfield 39, 20, .getfield 523), (20, .invokevirtual 236, 23, .invokeinterface 115 9), (23, .ireturn, 24, .ireturn)]]
/-- RecordReconciler$Matching.layOutNext(II)I -/
noncomputable def ct_117 : List (List (Nat × Instr × Nat × Instr)) := [[(0, .iload_n 2, 1, .iload 2), (1, .istore_n 3, 2, .istore 3), (2, .iconst 0, 3, .iconst 0), (3, .istore 4, 5, .istore 4), (5, .iload 4, 7, .iload 4), (7, .aload_n 0, 8, .aload 0), (8, .getfield 33, 11, .getfield 398), (11, .if_icmp .ge 95, 14, .if_icmp .ge 106), (14, .aload_n 0, 15, .aload 0), (15, .getfield 9, 18, .getfield 385), (18, .iload_n 1, 19, .iload 1), (19, .iaload, 20, .iaload), (20, .iload 4, 22, .iload 4), (22, .iushr, 23, .iushr), (23, .iconst 1, 24, .iconst 1), (24, .iand, 25, .iand), (25, .ifCond .ne 6, 28, .ifCond .ne 31), (28, .goto 72, 31, .goto 100), (31, .aload_n 0, 32, .aload 0), (32, .getfield 15, 35, .getfield 387), (35, .iload 4, 37, .iload 4), (37, .iaload, 38, .iaload), (38, .istore 5, 40, .istore 5), (40, .iload 5, 42, .iload 5), (42, .ifCond .ge 16, 45, .ifCond .ge 58), (45, .aload_n 0, 46, .aload 0), (46, .aload_n 0, 47, .aload 0), (47, .getfield 24, 50, .getfield 393), (50, .iload_n 1, 51, .iload 1), (51, .iaload, 52, .iaload), (52, .putfield 37, 55, .putfield 400), (55, .goto 45, 58, .goto 100), (58, .aload_n 0, 59, .aload 0), (59, .getfield 24, 62, .getfield 393), (62, .iload 5, 64, .iload 5)],
  [(64, .iaload, 65, .iaload), (65, .ifCond .ge 35, 68, .ifCond .ge 100), (68, .iload_n 3, 69, .iload 3), (69, .bipush 30, 71, .iconst 30), (71, .if_icmp .ge 29, 74, .if_icmp .ge 100), (74, .aload_n 0, 75, .aload 0), (75, .getfield 24, 78, .getfield 393), (78, .iload 5, 80, .iload 5), (80, .aload_n 0, 81, .aload 0), (81, .getfield 24, 84, .getfield 393), (84, .iload_n 1, 85, .iload 1), (85, .iaload, 86, .iaload), (86, .iconst 1, 87, .iconst 1), (87, .iadd, 88, .iadd), (88, .iastore, 89, .iastore), (89, .aload_n 0, 90, .aload 0), (90, .getfield 21, 93, .getfield 391), (93, .iload_n 3, 94, .iload 3), (94, .iload 5, 96, .iload 5), (96, .iastore, 97, .iastore), (97, .iinc 3 1, 100, .iinc 3 1), (100, .iinc 4 1, 103, .iinc 4 1), (103, .goto (-98), 106, .goto 5), (106, .iload_n 3, 107, .iload 3), (107, .ireturn, 108, .ireturn)]]
/-- RecordReconciler$Matching.layOut()Z -/
noncomputable def ct_118 : List (List (Nat × Instr × Nat × Instr)) := [[(0, .iconst 0, 1, .iconst 0), (1, .istore_n 1, 2, .istore 1), (2, .iconst 0, 3, .iconst 0), (3, .istore_n 2, 4, .istore 2), (4, .iload_n 2, 5, .iload 2), (5, .aload_n 0, 6, .aload 0), (6, .getfield 33, 9, .getfield 398), (9, .if_icmp .ge 51, 12, .if_icmp .ge 60), (12, .aload_n 0, 13, .aload 0), (13, .getfield 24, 16, .getfield 393), (16, .iload_n 2, 17, .iload 2), (17, .iconst (-1), 18, .iconst (-1)), (18, .iastore, 19, .iastore), (19, .aload_n 0, 20, .aload 0), (20, .getfield 9, 23, .getfield 385), (23, .iload_n 2, 24, .iload 2), (24, .iaload, 25, .iaload), (25, .ifCond .eq 29, 28, .ifCond .eq 54), (28, .aload_n 0, 29, .aload 0), (29, .getfield 15, 32, .getfield 387), (32, .iload_n 2, 33, .iload 2), (33, .iaload, 34, .iaload), (34, .ifCond .ge 20, 37, .ifCond .ge 54), (37, .aload_n 0, 38, .aload 0), (38, .getfield 24, 41, .getfield 393), (41, .iload_n 2, 42, .iload 2), (42, .iconst 0, 43, .iconst 0), (43, .iastore, 44, .iastore), (44, .aload_n 0, 45, .aload 0), (45, .getfield 21, 48, .getfield 391), (48, .iload_n 1, 49, .iload 1), (49, .iload_n 2, 50, .iload 2), (50, .iastore, 51, .iastore), (51, .iinc 1 1, 54, .iinc 1 1), (54, .iinc 2 1, 57, .iinc 2 1), (57, .goto (-53), 60, .goto 4), (60, .aload_n 0, 61, .aload 0), (61, .iconst (-1), 62, .iconst (-1)), (62, .putfield 37, 65, .putfield 400)],
  [(65, .iconst 0, 66, .iconst 0), (66, .istore_n 2, 67, .istore 2), (67, .iload_n 2, 68, .iload 2), (68, .iload_n 1, 69, .iload 1), (69, .if_icmp .ge 52, 72, .if_icmp .ge 121), (72, .iload_n 2, 73, .iload 2), (73, .bipush 30, 75, .iconst 30), (75, .if_icmp .ge 46, 78, .if_icmp .ge 121), (78, .aload_n 0, 79, .aload 0), (79, .getfield 21, 82, .getfield 391), (82, .iload_n 2, 83, .iload 2), (83, .iaload, 84, .iaload), (84, .istore_n 3, 85, .istore 3), (85, .aload_n 0, 86, .aload 0), (86, .getfield 37, 89, .getfield 400), (89, .ifCond .lt 19, 92, .ifCond .lt 108), (92, .aload_n 0, 93, .aload 0), (93, .getfield 24, 96, .getfield 393), (96, .iload_n 3, 97, .iload 3), (97, .iaload, 98, .iaload), (98, .aload_n 0, 99, .aload 0), (99, .getfield 37, 102, .getfield 400), (102, .if_icmp .le 6, 105, .if_icmp .le 108), (105, .goto 16, 108, .goto 121), (108, .aload_n 0, 109, .aload 0), (109, .iload_n 3, 110, .iload 3), (110, .iload_n 1, 111, .iload 1), (111, .invokevirtual 68, 114, .invokeinterface 117 25), (114, .istore_n 1, 115, .istore 1), (115, .iinc 2 1, 118, .iinc 2 1), (118, .goto (-51), 121, .goto 67), (121, .aload_n 0, 122, .aload 0), (122, .getfield 37, 125, .getfield 400), (125, .ifCond .lt 7, 128, .ifCond .lt 132)],
  [(128, .iconst 1, 129, .iconst 1), (129, .goto 4, 132, .goto 133), (132, .iconst 0, 133, .iconst 0), (133, .ireturn, 134, .ret 1)]]
/-- RecordReconciler$Matching.nextTry(I)I -/
noncomputable def ct_119 : List (List (Nat × Instr × Nat × Instr)) := [[(0, .aload_n 0, 1, .aload 0), (1, .getfield 27, 4, .getfield 395), (4, .iload_n 1, 5, .iload 1), (5, .iaload, 6, .iaload), (6, .istore_n 2, 7, .istore 2), (7, .iload_n 2, 8, .iload 2), (8, .aload_n 0, 9, .aload 0), (9, .getfield 33, 12, .getfield 398), (12, .if_icmp .ge 33, 15, .if_icmp .ge 45), (15, .aload_n 0, 16, .aload 0), (16, .getfield 9, 19, .getfield 385), (19, .iload_n 1, 20, .iload 1), (20, .iaload, 21, .iaload), (21, .iload_n 2, 22, .iload 2), (22, .iushr, 23, .iushr), (23, .iconst 1, 24, .iconst 1), (24, .iand, 25, .iand), (25, .ifCond .eq 14, 28, .ifCond .eq 39), (28, .aload_n 0, 29, .aload 0), (29, .getfield 27, 32, .getfield 395), (32, .iload_n 1, 33, .iload 1), (33, .iload_n 2, 34, .iload 2), (34, .iconst 1, 35, .iconst 1), (35, .iadd, 36, .iadd), (36, .iastore, 37, .iastore), (37, .iload_n 2, 38, .iload 2), (38, .ireturn, 39, .ireturn), (39, .iinc 2 1, 42, .iinc 2 1), (42, .goto (-35), 45, .goto 7), (45, .aload_n 0, 46, .aload 0), (46, .getfield 27, 49, .getfield 395), (49, .iload_n 1, 50, .iload 1), (50, .aload_n 0, 51, .aload 0), (51, .getfield 33, 54, .getfield 398), (54, .iastore, 55, .iastore), (55, .iconst (-1), 56, .iconst (-1)), (56, .ireturn, 57, .ireturn)]]
/-- RecordReconciler$Matching.descendFrom(I)Z -/
noncomputable def ct_120 : List (List (Nat × Instr × Nat × Instr)) := [[(0, .iconst 0, 1, .iconst 0), (1, .istore_n 2, 2, .istore 2), (2, .aload_n 0, 3, .aload 0), (3, .getfield 30, 6, .getfield 397), (6, .iconst 0, 7, .iconst 0), (7, .iload_n 1, 8, .iload 1), (8, .iastore, 9, .iastore), (9, .iconst 0, 10, .iconst 0), (10, .istore_n 3, 11, .istore 3), (11, .iload_n 3, 12, .iload 3), (12, .sipush 1800, 15, .iconst 1800), (15, .if_icmp .ge 132, 18, .if_icmp .ge 147), (18, .iload_n 2, 19, .iload 2), (19, .ifCond .lt 128, 22, .ifCond .lt 147), (22, .aload_n 0, 23, .aload 0), (23, .getfield 30, 26, .getfield 397), (26, .iload_n 2, 27, .iload 2), (27, .iaload, 28, .iaload), (28, .istore 4, 30, .istore 4), (30, .aload_n 0, 31, .aload 0), (31, .iload 4, 33, .iload 4), (33, .invokevirtual 72, 36, .invokeinterface 119 17), (36, .istore 5, 38, .istore 5), (38, .iload 5, 40, .iload 5), (40, .ifCond .ge 9, 43, .ifCond .ge 49), (43, .iinc 2 (-1), 46, .iinc 2 (-1)), (46, .goto 95, 49, .goto 141), (49, .aload_n 0, 50, .aload 0), (50, .getfield 15, 53, .getfield 387), (53, .iload 5, 55, .iload 5), (55, .iaload, 56, .iaload), (56, .istore 6, 58, .istore 6), (58, .iload 6, 60, .iload 6), (60, .ifCond .ge 20, 63, .ifCond .ge 80), (63, .aload_n 0, 64, .aload 0)],
  [(64, .getfield 18, 67, .getfield 389), (67, .iload 5, 69, .iload 5), (69, .iload 4, 71, .iload 4), (71, .iastore, 72, .iastore), (72, .aload_n 0, 73, .aload 0), (73, .iload 5, 75, .iload 5), (75, .invokevirtual 57, 78, .invokeinterface 113 16), (78, .iconst 1, 79, .iconst 1), (79, .ireturn, 80, .ret 1), (80, .aload_n 0, 81, .aload 0), (81, .getfield 24, 84, .getfield 393), (84, .iload 6, 86, .iload 6), (86, .iaload, 87, .iaload), (87, .aload_n 0, 88, .aload 0), (88, .getfield 24, 91, .getfield 393), (91, .iload 4, 93, .iload 4), (93, .iaload, 94, .iaload), (94, .iconst 1, 95, .iconst 1), (95, .iadd, 96, .iadd), (96, .if_icmp .ne 45, 99, .if_icmp .ne 141), (99, .aload_n 0, 100, .aload 0), (100, .getfield 24, 103, .getfield 393), (103, .iload 6, 105, .iload 6), (105, .iaload, 106, .iaload), (106, .aload_n 0, 107, .aload 0), (107, .getfield 37, 110, .getfield 400), (110, .if_icmp .gt 31, 113, .if_icmp .gt 141), (113, .iload_n 2, 114, .iload 2), (114, .iconst 1, 115, .iconst 1), (115, .iadd, 116, .iadd), (116, .bipush 30, 118, .iconst 30), (118, .if_icmp .ge 23, 121, .if_icmp .ge 141), (121, .aload_n 0, 122, .aload 0), (122, .getfield 18, 125, .getfield 389), (125, .iload 5, 127, .iload 5), (127, .iload 4, 129, .iload 4)],
  [(129, .iastore, 130, .iastore), (130, .iinc 2 1, 133, .iinc 2 1), (133, .aload_n 0, 134, .aload 0), (134, .getfield 30, 137, .getfield 397), (137, .iload_n 2, 138, .iload 2), (138, .iload 6, 140, .iload 6), (140, .iastore, 141, .iastore), (141, .iinc 3 1, 144, .iinc 3 1), (144, .goto (-133), 147, .goto 11), (147, .iconst 0, 148, .iconst 0), (148, .ireturn, 149, .ret 1)]]
/-- RecordReconciler$Matching.growInRounds()I -/
noncomputable def ct_121 : List (List (Nat × Instr × Nat × Instr)) := [[(0, .iconst 0, 1, .iconst 0), (1, .istore_n 1, 2, .istore 1), (2, .iconst 0, 3, .iconst 0), (3, .istore_n 2, 4, .istore 2), (4, .iload_n 2, 5, .iload 2), (5, .aload_n 0, 6, .aload 0), (6, .getfield 33, 9, .getfield 398), (9, .if_icmp .gt 75, 12, .if_icmp .gt 84), (12, .aload_n 0, 13, .aload 0), (13, .invokevirtual 61, 16, .invokeinterface 118 9), (16, .ifCond .eq 68, 19, .ifCond .eq 84), (19, .iconst 0, 20, .iconst 0), (20, .istore_n 3, 21, .istore 3), (21, .iload_n 3, 22, .iload 3), (22, .aload_n 0, 23, .aload 0), (23, .getfield 33, 26, .getfield 398), (26, .if_icmp .ge 16, 29, .if_icmp .ge 42), (29, .aload_n 0, 30, .aload 0), (30, .getfield 27, 33, .getfield 395), (33, .iload_n 3, 34, .iload 3), (34, .iconst 0, 35, .iconst 0), (35, .iastore, 36, .iastore), (36, .iinc 3 1, 39, .iinc 3 1), (39, .goto (-18), 42, .goto 21), (42, .iconst 0, 43, .iconst 0), (43, .istore_n 3, 44, .istore 3), (44, .iload_n 3, 45, .iload 3), (45, .aload_n 0, 46, .aload 0), (46, .getfield 33, 49, .getfield 398), (49, .if_icmp .ge 29, 52, .if_icmp .ge 78), (52, .aload_n 0, 53, .aload 0), (53, .getfield 24, 56, .getfield 393), (56, .iload_n 3, 57, .iload 3), (57, .iaload, 58, .iaload), (58, .ifCond .ne 14, 61, .ifCond .ne 72), (61, .aload_n 0, 62, .aload 0), (62, .iload_n 3, 63, .iload 3), (63, .invokevirtual 65, 66, .invokeinterface 120 17)],
  [(66, .ifCond .eq 6, 69, .ifCond .eq 72), (69, .iinc 1 1, 72, .iinc 1 1), (72, .iinc 3 1, 75, .iinc 3 1), (75, .goto (-31), 78, .goto 44), (78, .iinc 2 1, 81, .iinc 2 1), (81, .goto (-77), 84, .goto 4), (84, .iload_n 1, 85, .iload 1), (85, .ireturn, 86, .ireturn)]]
/-- RecordReconciler.sizeInRounds(II)I -/
noncomputable def ct_122 : List (List (Nat × Instr × Nat × Instr)) := [[(0, .aload_n 0, 1, .aload 0), (1, .getfield 39, 4, .getfield 523), (4, .aload_n 0, 5, .aload 0), (5, .getfield 10, 8, .getfield 513), (8, .getfield 139, 11, .getfield 129), (11, .iload_n 1, 12, .iload 1), (12, .iload_n 2, 13, .iload 2), (13, .invokevirtual 219, 16, .invokeinterface 112 32), (16, .aload_n 0, 17, .aload 0), (17, .getfield 39, 20, .getfield 523), (20, .invokevirtual 239, 23, .invokeinterface 121 9), (23, .ireturn, 24, .ireturn)]]
/-- RecordReconciler.isConsistent()Z -/
noncomputable def ct_123 : List (List (Nat × Instr × Nat × Instr)) := [[(0, .iconst 0, 1, .iconst 0), (1, .istore_n 1, 2, .istore 1), (2, .iload_n 1, 3, .iload 1), (3, .iconst 3, 4, .iconst 3), (4, .if_icmp .ge 41, 7, .if_icmp .ge 45), (7, .iload_n 1, 8, .iload 1), (8, .iconst 1, 9, .iconst 1), (9, .iadd, 10, .iadd), (10, .istore_n 2, 11, .istore 2), (11, .iload_n 2, 12, .iload 2), (12, .iconst 3, 13, .iconst 3), (13, .if_icmp .ge 26, 16, .if_icmp .ge 39), (16, .aload_n 0, 17, .aload 0), (17, .iload_n 1, 18, .iload 1), (18, .iload_n 2, 19, .iload 2), (19, .invokevirtual 227, 22, .invokeinterface 116 25), (22, .aload_n 0, 23, .aload 0), (23, .iload_n 1, 24, .iload 1), (24, .iload_n 2, 25, .iload 2), (25, .invokevirtual 230, 28, .invokeinterface 122 25), (28, .if_icmp .eq 5, 31, .if_icmp .eq 33), (31, .iconst 0, 32, .iconst 0), (32, .ireturn, 33, .ret 1), (33, .iinc 2 1, 36, .iinc 2 1), (36, .goto (-25), 39, .goto 11), (39, .iinc 1 1, 42, .iinc 1 1), (42, .goto (-40), 45, .goto 2), (45, .aload_n 0, 46, .aload 0), (46, .getfield 46, 49, .getfield 525), (49, .aload_n 0, 50, .aload 0), (50, .getfield 10, 53, .getfield 513), (53, .getfield 139, 56, .getfield 129), (56, .invokevirtual 242, 59, .invokeinterface 101 16), (59, .aload_n 0, 60, .aload 0), (60, .getfield 46, 63, .getfield 525), (63, .invokevirtual 245, 66, .invokeinterface 104 9)],
  [(66, .aload_n 0, 67, .aload 0), (67, .getfield 46, 70, .getfield 525), (70, .invokevirtual 248, 73, .invokeinterface 107 9), (73, .if_icmp .ne 39, 76, .if_icmp .ne 112), (76, .aload_n 0, 77, .aload 0), (77, .getfield 10, 80, .getfield 513), (80, .getfield 139, 83, .getfield 129), (83, .getfield 143, 86, .getfield 328), (86, .aload_n 0, 87, .aload 0), (87, .getfield 10, 90, .getfield 513), (90, .getfield 260, 93, .getfield 135), (93, .iconst 2, 94, .iconst 2), (94, .iaload, 95, .iaload), (95, .aload_n 0, 96, .aload 0), (96, .getfield 10, 99, .getfield 513), (99, .getfield 260, 102, .getfield 135), (102, .iconst 3, 103, .iconst 3), (103, .iaload, 104, .iaload), (104, .isub, 105, .isub), (105, .if_icmp .ne 7, 108, .if_icmp .ne 112), (108, .iconst 1, 109, .iconst 1), (109, .goto 4, 112, .goto 113), (112, .iconst 0, 113, .iconst 0), (113, .ireturn, 114, .ret 1)]]
/-- RecordReconciler.requireOther(CC)I -/
noncomputable def ct_124 : List (List (Nat × Instr × Nat × Instr)) := [[(0, .iload_n 1, 1, .iload 1), (1, .invokestatic 148, 4, .invokeinterface 19 9), (4, .istore_n 2, 5, .istore 2), (5, .iload_n 0, 6, .iload 0), (6, .iload_n 1, 7, .iload 1), (7, .if_icmp .ne 14, 10, .if_icmp .ne 21), (10, .new 86, 13, .invokedynamic 1), (13, .dup, 14, .dup), (21, .iload_n 2, 22, .iload 2), (22, .ireturn, 23, .ireturn)]]
/-- RecordReconciler$Matching.leaveOut(I)V -/
noncomputable def ct_125 : List (List (Nat × Instr × Nat × Instr)) := [[(0, .aload_n 0, 1, .aload 0), (1, .getfield 9, 4, .getfield 385), (4, .iload_n 1, 5, .iload 1), (5, .iconst 0, 6, .iconst 0), (6, .iastore, 7, .iastore), (7, .return_, 8, .return_)]]
/-- RecordReconciler.isNeeded(CIC)Z -/
noncomputable def ct_126 : List (List (Nat × Instr × Nat × Instr)) := [[(0, .iload_n 1, 1, .iload 1), (1, .invokestatic 148, 4, .invokeinterface 19 9), (4, .istore 4, 6, .istore 4), (6, .iload_n 1, 7, .iload 1), (7, .iload_n 3, 8, .iload 3), (8, .invokestatic 211, 11, .invokeinterface 124 17), (11, .istore 5, 13, .istore 5), (13, .aload_n 0, 14, .aload 0), (14, .iload_n 1, 15, .iload 1), (15, .iload_n 2, 16, .iload 2), (16, .invokevirtual 163, 19, .invokeinterface 21 25), (19, .istore 6, 21, .istore 6), (21, .aload_n 0, 22, .aload 0), (22, .iload 4, 24, .iload 4), (24, .iload 5, 26, .iload 5), (26, .invokevirtual 227, 29, .invokeinterface 116 25), (29, .istore 7, 31, .istore 7), (31, .aload_n 0, 32, .aload 0), (32, .getfield 39, 35, .getfield 523), (35, .aload_n 0, 36, .aload 0), (36, .getfield 10, 39, .getfield 513), (39, .getfield 139, 42, .getfield 129), (42, .iload 4, 44, .iload 4), (44, .iload 5, 46, .iload 5), (46, .invokevirtual 219, 49, .invokeinterface 112 32), (49, .aload_n 0, 50, .aload 0), (50, .getfield 39, 53, .getfield 523), (53, .iload 6, 55, .iload 6), (55, .invokevirtual 233, 58, .invokeinterface 125 16), (58, .aload_n 0, 59, .aload 0), (59, .getfield 39, 62, .getfield 523), (62, .invokevirtual 236, 65, .invokeinterface 115 9)],
  [(65, .iload 7, 67, .iload 7), (67, .if_icmp .ge 7, 70, .if_icmp .ge 74), (70, .iconst 1, 71, .iconst 1), (71, .goto 4, 74, .goto 75), (74, .iconst 0, 75, .iconst 0), (75, .ireturn, 76, .ret 1)]]
/-- RecordReconciler.isPossiblePair(CICI)Z -/
noncomputable def ct_127 : List (List (Nat × Instr × Nat × Instr)) := [[(0, .iload_n 1, 1, .iload 1), (1, .invokestatic 148, 4, .invokeinterface 19 9), (4, .istore 5, 6, .istore 5), (6, .iload_n 1, 7, .iload 1), (7, .iload_n 3, 8, .iload 3), (8, .invokestatic 211, 11, .invokeinterface 124 17), (11, .istore 6, 13, .istore 6), (13, .iload_n 2, 14, .iload 2), (14, .invokestatic 156, 17, .invokeinterface 11 8), (17, .iload 4, 19, .iload 4), (19, .invokestatic 156, 22, .invokeinterface 11 8), (22, .aload_n 0, 23, .aload 0), (23, .iload_n 1, 24, .iload 1), (24, .iload_n 2, 25, .iload 2), (25, .invokevirtual 163, 28, .invokeinterface 21 25), (28, .istore 7, 30, .istore 7), (30, .aload_n 0, 31, .aload 0), (31, .iload_n 3, 32, .iload 3), (32, .iload 4, 34, .iload 4), (34, .invokevirtual 163, 37, .invokeinterface 21 25), (37, .istore 8, 39, .istore 8), (39, .aload_n 0, 40, .aload 0), (40, .getfield 10, 43, .getfield 513), (43, .getfield 139, 46, .getfield 129), (46, .iload 5, 48, .iload 5), (48, .iload 7, 50, .iload 7), (50, .iload 6, 52, .iload 6), (52, .iload 8, 54, .iload 8), (54, .invokevirtual 215, 57, .invokeinterface 99 41), (57, .ireturn, 58, .ret 1)]]
/-- RecordReconciler$KeyTable.rowAt(II)I -/
noncomputable def ct_128 : List (List (Nat × Instr × Nat × Instr)) := [[(0, .iconst 0, 1, .iconst 0), (1, .istore_n 3, 2, .istore 3), (2, .iconst 0, 3, .iconst 0), (3, .istore 4, 5, .istore 4), (5, .iload 4, 7, .iload 4), (7, .aload_n 0, 8, .aload 0), (8, .getfield 23, 11, .getfield 326), (11, .if_icmp .ge 32, 14, .if_icmp .ge 43), (14, .aload_n 0, 15, .aload 0), (15, .getfield 17, 18, .getfield 323), (18, .iload_n 1, 19, .iload 1), (19, .aaload, 20, .aaload), (20, .iload 4, 22, .iload 4), (22, .iaload, 23, .iaload), (23, .ifCond .le 14, 26, .ifCond .le 37), (26, .iload_n 3, 27, .iload 3), (27, .iload_n 2, 28, .iload 2), (28, .if_icmp .ne 6, 31, .if_icmp .ne 34), (31, .iload 4, 33, .iload 4), (33, .ireturn, 34, .ireturn), (34, .iinc 3 1, 37, .iinc 3 1), (37, .iinc 4 1, 40, .iinc 4 1), (40, .goto (-35), 43, .goto 5), (43, .iconst (-1), 44, .iconst (-1)), (44, .ireturn, 45, .ireturn)]]
/-- RecordReconciler.keyAt(CI)I -/
noncomputable def ct_129 : List (List (Nat × Instr × Nat × Instr)) := [[(0, .aload_n 0, 1, .aload 0), (1, .getfield 10, 4, .getfield 513), (4, .getfield 139, 7, .getfield 129), (7, .iload_n 1, 8, .iload 1), (8, .invokestatic 148, 11, .invokeinterface 19 9), (11, .iload_n 2, 12, .iload 2), (12, .invokevirtual 176, 15, .invokeinterface 128 25), (15, .istore_n 3, 16, .istore 3), (16, .iload_n 3, 17, .iload 3), (17, .ifCond .ge 13, 20, .ifCond .ge 30), (20, .new 179, 23, .invokedynamic 3), (23, .dup, 24, .dup), (30, .aload_n 0, 31, .aload 0), (31, .getfield 10, 34, .getfield 513), (34, .getfield 139, 37, .getfield 129), (37, .getfield 184, 40, .getfield 321), (40, .iload_n 3, 41, .iload 3), (41, .iaload, 42, .iaload), (42, .ireturn, 43, .ireturn)]]
/-- Preconditions.checkIndex(IILjava/util/function/BiFunction;)I -/
noncomputable def ct_130 : List (List (Nat × Instr × Nat × Instr)) := [[(0, .iload_n 0, 1, .iload 0), (1, .ifCond .lt 8, 4, .ifCond .lt 9), (4, .iload_n 0, 5, .iload 0), (5, .iload_n 1, 6, .iload 1), (6, .if_icmp .lt 10, 9, .if_icmp .lt 16), (9, .aload_n 2, 10, .aload 2), (10, .iload_n 0, 11, .iload 0), (11, .iload_n 1, 12, .iload 1), (16, .iload_n 0, 17, .iload 0), (17, .ireturn, 18, .ireturn)]]
/-- String.checkIndex(II)V -/
noncomputable def ct_131 : List (List (Nat × Instr × Nat × Instr)) := [[(0, .iload_n 0, 1, .iload 0), (1, .iload_n 1, 2, .iload 1), (2, .getstatic 1053, 5, .getstatic 1), (5, .invokestatic 1059, 8, .invokeinterface 130 25), (8, .pop, 9, .pop), (9, .return_, 10, .return_)]]
/-- AbstractStringBuilder.charAt(I)C -/
noncomputable def ct_132 : List (List (Nat × Instr × Nat × Instr)) := [[(0, .aload_n 0, 1, .aload 0), (1, .getfield 22, 4, .getfield 642), (4, .istore_n 2, 5, .istore 2), (5, .aload_n 0, 6, .aload 0), (6, .getfield 15, 9, .getfield 641), (9, .astore_n 3, 10, .astore 3), (10, .aload_n 0, 11, .aload 0), (11, .getfield 79, 14, .getfield 646), (14, .aload_n 3, 15, .aload 3), (15, .arraylength, 16, .arraylength), (16, .iload_n 2, 17, .iload 2), (17, .ishr, 18, .ishr), (18, .invokestatic 138, 21, .invokestatic 1), (21, .istore 4, 23, .istore 4), (23, .iload_n 1, 24, .iload 1), (24, .iload 4, 26, .iload 4), (26, .invokestatic 144, 29, .invokeinterface 131 16), (29, .iload_n 2, 30, .iload 2), (30, .ifCond .ne 12, 33, .ifCond .ne 42), (33, .aload_n 3, 34, .aload 3), (34, .iload_n 1, 35, .iload 1), (35, .baload, 36, .baload), (36, .sipush 255, 39, .iconst 255), (39, .iand, 40, .iand), (40, .i2c, 41, .i2c), (41, .ireturn, 42, .ret 2), (42, .aload_n 3, 43, .aload 3), (43, .iload_n 1, 44, .iload 1), (47, .ireturn, 48, .ret 2)]]
/-- StringBuilder.charAt(I)C -/
noncomputable def ct_133 : List (List (Nat × Instr × Nat × Instr)) := [[(0, .aload_n 0, 1, .aload 0), (1, .iload_n 1, 2, .iload 1), (2, .invokespecial 329, 5, .invokeinterface 132 17), (5, .ireturn, 6, .ret 2)]]
/-- RecordReconciler.lineChar(I)C -/
noncomputable def ct_134 : List (List (Nat × Instr × Nat × Instr)) := [[(0, .iload_n 1, 1, .iload 1), (1, .ifCond .lt 14, 4, .ifCond .lt 15), (4, .iload_n 1, 5, .iload 1), (5, .aload_n 0, 6, .aload 0), (6, .getfield 53, 9, .getfield 527), (9, .invokevirtual 283, 12, .invokeinterface 88 9), (12, .if_icmp .lt 14, 15, .if_icmp .lt 26), (15, .new 179, 18, .invokedynamic 3), (18, .dup, 19, .dup), (26, .aload_n 0, 27, .aload 0), (27, .getfield 53, 30, .getfield 527), (30, .iload_n 1, 31, .iload 1), (31, .invokevirtual 294, 34, .invokeinterface 133 17), (34, .ireturn, 35, .ret 2)]]
/-- RecordReconciler.matchingSize(CC)I -/
noncomputable def ct_135 : List (List (Nat × Instr × Nat × Instr)) := [[(0, .iload_n 1, 1, .iload 1), (1, .invokestatic 148, 4, .invokeinterface 19 9), (4, .istore_n 3, 5, .istore 3), (5, .aload_n 0, 6, .aload 0), (6, .iload_n 3, 7, .iload 3), (7, .iload_n 1, 8, .iload 1), (8, .iload_n 2, 9, .iload 2), (9, .invokestatic 211, 12, .invokeinterface 124 17), (12, .invokevirtual 227, 15, .invokeinterface 116 25), (15, .ireturn, 16, .ireturn)]]
/-- RecordReconciler.matchingSizeByLayers(CC)I -/
noncomputable def ct_136 : List (List (Nat × Instr × Nat × Instr)) := [[(0, .iload_n 1, 1, .iload 1), (1, .invokestatic 148, 4, .invokeinterface 19 9), (4, .istore_n 3, 5, .istore 3), (5, .aload_n 0, 6, .aload 0), (6, .iload_n 3, 7, .iload 3), (7, .iload_n 1, 8, .iload 1), (8, .iload_n 2, 9, .iload 2), (9, .invokestatic 211, 12, .invokeinterface 124 17), (12, .invokevirtual 230, 15, .invokeinterface 122 25), (15, .ireturn, 16, .ireturn)]]
/-- RecordReconciler$KeyTable.sumOf(I)I -/
noncomputable def ct_137 : List (List (Nat × Instr × Nat × Instr)) := [[(0, .iconst 0, 1, .iconst 0), (1, .istore_n 2, 2, .istore 2), (2, .iconst 0, 3, .iconst 0), (3, .istore_n 3, 4, .istore 3), (4, .iload_n 3, 5, .iload 3), (5, .aload_n 0, 6, .aload 0), (6, .getfield 23, 9, .getfield 326), (9, .if_icmp .ge 20, 12, .if_icmp .ge 29), (12, .iload_n 2, 13, .iload 2), (13, .aload_n 0, 14, .aload 0), (14, .getfield 17, 17, .getfield 323), (17, .iload_n 1, 18, .iload 1), (18, .aaload, 19, .aaload), (19, .iload_n 3, 20, .iload 3), (20, .iaload, 21, .iaload), (21, .iadd, 22, .iadd), (22, .istore_n 2, 23, .istore 2), (23, .iinc 3 1, 26, .iinc 3 1), (26, .goto (-22), 29, .goto 4), (29, .iload_n 2, 30, .iload 2), (30, .ireturn, 31, .ireturn)]]
/-- RecordReconciler.meanAmount()D -/
noncomputable def ct_138 : List (List (Nat × Instr × Nat × Instr)) := [[(0, .aload_n 0, 1, .aload 0), (1, .getfield 10, 4, .getfield 513), (4, .getfield 139, 7, .getfield 129), (7, .getfield 143, 10, .getfield 328), (10, .istore_n 1, 11, .istore 1), (11, .iload_n 1, 12, .iload 1), (12, .ifCond .ne 14, 15, .ifCond .ne 26), (15, .new 263, 18, .invokedynamic 5), (18, .dup, 19, .dup), (26, .iconst 0, 27, .iconst 0), (27, .istore_n 2, 28, .istore 2), (28, .iconst 0, 29, .iconst 0), (29, .istore_n 3, 30, .istore 3), (30, .iload_n 3, 31, .iload 3), (31, .iconst 3, 32, .iconst 3), (32, .if_icmp .ge 23, 35, .if_icmp .ge 55), (35, .iload_n 2, 36, .iload 2), (36, .aload_n 0, 37, .aload 0), (37, .getfield 10, 40, .getfield 513), (40, .getfield 139, 43, .getfield 129), (43, .iload_n 3, 44, .iload 3), (44, .invokevirtual 208, 47, .invokeinterface 137 17), (47, .iadd, 48, .iadd), (48, .istore_n 2, 49, .istore 2), (49, .iinc 3 1, 52, .iinc 3 1), (52, .goto (-22), 55, .goto 30), (55, .iload_n 2, 56, .iload 2), (56, .i2d, 57, .i2d), (57, .iload_n 1, 58, .iload 1), (58, .i2d, 59, .i2d), (59, .ddiv, 60, .ddiv), (60, .dreturn, 61, .dreturn)]]
/-- RecordReconciler.mostTrusted()C -/
noncomputable def ct_139 : List (List (Nat × Instr × Nat × Instr)) := [[(0, .iconst 0, 1, .iconst 0), (1, .istore_n 1, 2, .istore 1), (2, .iconst 1, 3, .iconst 1), (3, .istore_n 2, 4, .istore 2), (4, .iload_n 2, 5, .iload 2), (5, .iconst 3, 6, .iconst 3), (6, .if_icmp .ge 32, 9, .if_icmp .ge 38), (9, .aload_n 0, 10, .aload 0), (10, .getfield 10, 13, .getfield 513), (13, .getfield 257, 16, .getfield 133), (16, .iload_n 2, 17, .iload 2), (17, .iaload, 18, .iaload), (18, .aload_n 0, 19, .aload 0), (19, .getfield 10, 22, .getfield 513), (22, .getfield 257, 25, .getfield 133), (25, .iload_n 1, 26, .iload 1), (26, .iaload, 27, .iaload), (27, .if_icmp .le 5, 30, .if_icmp .le 32), (30, .iload_n 2, 31, .iload 2), (31, .istore_n 1, 32, .istore 1), (32, .iinc 2 1, 35, .iinc 2 1), (35, .goto (-31), 38, .goto 4), (38, .iload_n 1, 39, .iload 1), (39, .invokestatic 122, 42, .invokeinterface 82 9), (42, .ireturn, 43, .ret 2)]]
/-- RecordReconciler.newTotal()I -/
noncomputable def ct_140 : List (List (Nat × Instr × Nat × Instr)) := [[(0, .aload_n 0, 1, .aload 0), (1, .getfield 10, 4, .getfield 513), (4, .getfield 260, 7, .getfield 135), (7, .iconst 2, 8, .iconst 2), (8, .iaload, 9, .iaload), (9, .ireturn, 10, .ireturn)]]
/-- RecordReconciler$KeyTable.oldestRow(I)I -/
noncomputable def ct_141 : List (List (Nat × Instr × Nat × Instr)) := [[(0, .iconst (-1), 1, .iconst (-1)), (1, .istore_n 2, 2, .istore 2), (2, .iconst 0, 3, .iconst 0), (3, .istore_n 3, 4, .istore 3), (4, .iload_n 3, 5, .iload 3), (5, .aload_n 0, 6, .aload 0), (6, .getfield 23, 9, .getfield 326), (9, .if_icmp .ge 45, 12, .if_icmp .ge 54), (12, .aload_n 0, 13, .aload 0), (13, .getfield 17, 16, .getfield 323), (16, .iload_n 1, 17, .iload 1), (17, .aaload, 18, .aaload), (18, .iload_n 3, 19, .iload 3), (19, .iaload, 20, .iaload), (20, .ifCond .le 28, 23, .ifCond .le 48), (23, .iload_n 2, 24, .iload 2), (24, .ifCond .lt 22, 27, .ifCond .lt 46), (27, .aload_n 0, 28, .aload 0), (28, .getfield 20, 31, .getfield 325), (31, .iload_n 1, 32, .iload 1), (32, .aaload, 33, .aaload), (33, .iload_n 3, 34, .iload 3), (34, .iaload, 35, .iaload), (35, .aload_n 0, 36, .aload 0), (36, .getfield 20, 39, .getfield 325), (39, .iload_n 1, 40, .iload 1), (40, .aaload, 41, .aaload), (41, .iload_n 2, 42, .iload 2), (42, .iaload, 43, .iaload), (43, .if_icmp .ge 5, 46, .if_icmp .ge 48), (46, .iload_n 3, 47, .iload 3), (47, .istore_n 2, 48, .istore 2), (48, .iinc 3 1, 51, .iinc 3 1), (51, .goto (-47), 54, .goto 4), (54, .iload_n 2, 55, .iload 2), (55, .ireturn, 56, .ireturn)]]
/-- RecordReconciler.oldestKey(C)I -/
noncomputable def ct_142 : List (List (Nat × Instr × Nat × Instr)) := [[(0, .aload_n 0, 1, .aload 0), (1, .getfield 10, 4, .getfield 513), (4, .getfield 139, 7, .getfield 129), (7, .iload_n 1, 8, .iload 1), (8, .invokestatic 148, 11, .invokeinterface 19 9), (11, .invokevirtual 185, 14, .invokeinterface 141 17), (14, .istore_n 2, 15, .istore 2), (15, .iload_n 2, 16, .iload 2), (16, .ifCond .ge 13, 19, .ifCond .ge 29), (19, .new 93, 22, .invokedynamic 4), (22, .dup, 23, .dup), (29, .aload_n 0, 30, .aload 0), (30, .getfield 10, 33, .getfield 513), (33, .getfield 139, 36, .getfield 129), (36, .getfield 184, 39, .getfield 321), (39, .iload_n 2, 40, .iload 2), (40, .iaload, 41, .iaload), (41, .ireturn, 42, .ireturn)]]
/-- RecordReconciler.openCount()I -/
noncomputable def ct_143 : List (List (Nat × Instr × Nat × Instr)) := [[(0, .aload_n 0, 1, .aload 0), (1, .getfield 10, 4, .getfield 513), (4, .getfield 139, 7, .getfield 129), (7, .bipush 111, 9, .iconst 111), (9, .invokevirtual 196, 12, .invokeinterface 57 17), (12, .ireturn, 13, .ireturn)]]
/-- RecordReconciler.requireReport(I)V -/
noncomputable def ct_144 : List (List (Nat × Instr × Nat × Instr)) := [[(0, .iload_n 1, 1, .iload 1), (1, .ifCond .lt 17, 4, .ifCond .lt 18), (4, .iload_n 1, 5, .iload 1), (5, .aload_n 0, 6, .aload 0), (6, .getfield 10, 9, .getfield 513), (9, .getfield 106, 12, .getfield 131), (12, .getfield 110, 15, .getfield 70), (15, .if_icmp .lt 14, 18, .if_icmp .lt 29), (18, .new 179, 21, .invokedynamic 3), (21, .dup, 22, .dup), (29, .return_, 30, .return_)]]
/-- RecordReconciler.outcomeOf(I)C -/
noncomputable def ct_145 : List (List (Nat × Instr × Nat × Instr)) := [[(0, .aload_n 0, 1, .aload 0), (1, .iload_n 1, 2, .iload 1), (2, .invokevirtual 115, 5, .invokeinterface 144 16), (5, .aload_n 0, 6, .aload 0), (6, .getfield 10, 9, .getfield 513), (9, .iload_n 1, 10, .iload 1), (10, .invokevirtual 132, 13, .invokeinterface 27 17), (13, .ireturn, 14, .ret 2)]]
/-- RecordReconciler.pass(I)I -/
noncomputable def ct_146 : List (List (Nat × Instr × Nat × Instr)) := [[(0, .aload_n 0, 1, .aload 0), (1, .bipush 6, 3, .iconst 6), (3, .bipush 97, 5, .iconst 97), (5, .iconst 0, 6, .iconst 0), (6, .iload_n 1, 7, .iload 1), (7, .invokevirtual 68, 10, .invokeinterface 54 41), (10, .ireturn, 11, .ireturn)]]
/-- Integer.bitCount(I)I -/
noncomputable def ct_147 : List (List (Nat × Instr × Nat × Instr)) := [[(0, .iload_n 0, 1, .iload 0), (1, .iload_n 0, 2, .iload 0), (2, .iconst 1, 3, .iconst 1), (3, .iushr, 4, .iushr), (4, .ldc_w 265, 7, .iconst 1431655765), (7, .iand, 8, .iand), (8, .isub, 9, .isub), (9, .istore_n 0, 10, .istore 0), (10, .iload_n 0, 11, .iload 0), (11, .ldc_w 266, 14, .iconst 858993459), (14, .iand, 15, .iand), (15, .iload_n 0, 16, .iload 0), (16, .iconst 2, 17, .iconst 2), (17, .iushr, 18, .iushr), (18, .ldc_w 266, 21, .iconst 858993459), (21, .iand, 22, .iand), (22, .iadd, 23, .iadd), (23, .istore_n 0, 24, .istore 0), (24, .iload_n 0, 25, .iload 0), (25, .iload_n 0, 26, .iload 0), (26, .iconst 4, 27, .iconst 4), (27, .iushr, 28, .iushr), (28, .iadd, 29, .iadd), (29, .ldc_w 267, 32, .iconst 252645135), (32, .iand, 33, .iand), (33, .istore_n 0, 34, .istore 0), (34, .iload_n 0, 35, .iload 0), (35, .iload_n 0, 36, .iload 0), (36, .bipush 8, 38, .iconst 8), (38, .iushr, 39, .iushr), (39, .iadd, 40, .iadd), (40, .istore_n 0, 41, .istore 0), (41, .iload_n 0, 42, .iload 0), (42, .iload_n 0, 43, .iload 0), (43, .bipush 16, 45, .iconst 16), (45, .iushr, 46, .iushr), (46, .iadd, 47, .iadd), (47, .istore_n 0, 48, .istore 0), (48, .iload_n 0, 49, .iload 0), (49, .bipush 63, 51, .iconst 63), (51, .iand, 52, .iand), (52, .ireturn, 53, .ireturn)]]
/-- RecordReconciler$Matching.pairCount()I -/
noncomputable def ct_148 : List (List (Nat × Instr × Nat × Instr)) := [[(0, .iconst 0, 1, .iconst 0), (1, .istore_n 1, 2, .istore 1), (2, .iconst 0, 3, .iconst 0), (3, .istore_n 2, 4, .istore 2), (4, .iload_n 2, 5, .iload 2), (5, .aload_n 0, 6, .aload 0), (6, .getfield 33, 9, .getfield 398), (9, .if_icmp .ge 21, 12, .if_icmp .ge 30), (12, .iload_n 1, 13, .iload 1), (13, .aload_n 0, 14, .aload 0), (14, .getfield 9, 17, .getfield 385), (17, .iload_n 2, 18, .iload 2), (18, .iaload, 19, .iaload), (19, .invokestatic 47, 22, .invokeinterface 147 9), (22, .iadd, 23, .iadd), (23, .istore_n 1, 24, .istore 1), (24, .iinc 2 1, 27, .iinc 2 1), (27, .goto (-23), 30, .goto 4), (30, .iload_n 1, 31, .iload 1), (31, .ireturn, 32, .ireturn)]]
/-- RecordReconciler.possiblePairs(CC)I -/
noncomputable def ct_149 : List (List (Nat × Instr × Nat × Instr)) := [[(0, .iload_n 1, 1, .iload 1), (1, .invokestatic 148, 4, .invokeinterface 19 9), (4, .istore_n 3, 5, .istore 3), (5, .aload_n 0, 6, .aload 0), (6, .getfield 39, 9, .getfield 523), (9, .aload_n 0, 10, .aload 0), (10, .getfield 10, 13, .getfield 513), (13, .getfield 139, 16, .getfield 129), (16, .iload_n 3, 17, .iload 3), (17, .iload_n 1, 18, .iload 1), (18, .iload_n 2, 19, .iload 2), (19, .invokestatic 211, 22, .invokeinterface 124 17), (22, .invokevirtual 219, 25, .invokeinterface 112 32), (25, .aload_n 0, 26, .aload 0), (26, .getfield 39, 29, .getfield 523), (29, .invokevirtual 223, 32, .invokeinterface 148 9), (32, .ireturn, 33, .ireturn)]]
/-- RecordReconciler.recordCount()I -/
noncomputable def ct_150 : List (List (Nat × Instr × Nat × Instr)) := [[(0, .aload_n 0, 1, .aload 0), (1, .getfield 10, 4, .getfield 513), (4, .getfield 139, 7, .getfield 129), (7, .getfield 143, 10, .getfield 328), (10, .ireturn, 11, .ireturn)]]
/-- RecordReconciler$KeyTable.countOf(I)I -/
noncomputable def ct_151 : List (List (Nat × Instr × Nat × Instr)) := [[(0, .iconst 0, 1, .iconst 0), (1, .istore_n 2, 2, .istore 2), (2, .iconst 0, 3, .iconst 0), (3, .istore_n 3, 4, .istore 3), (4, .iload_n 3, 5, .iload 3), (5, .aload_n 0, 6, .aload 0), (6, .getfield 23, 9, .getfield 326), (9, .if_icmp .ge 23, 12, .if_icmp .ge 32), (12, .aload_n 0, 13, .aload 0), (13, .getfield 17, 16, .getfield 323), (16, .iload_n 1, 17, .iload 1), (17, .aaload, 18, .aaload), (18, .iload_n 3, 19, .iload 3), (19, .iaload, 20, .iaload), (20, .ifCond .le 6, 23, .ifCond .le 26), (23, .iinc 2 1, 26, .iinc 2 1), (26, .iinc 3 1, 29, .iinc 3 1), (29, .goto (-25), 32, .goto 4), (32, .iload_n 2, 33, .iload 2), (33, .ireturn, 34, .ireturn)]]
/-- RecordReconciler.recordsOf(C)I -/
noncomputable def ct_152 : List (List (Nat × Instr × Nat × Instr)) := [[(0, .aload_n 0, 1, .aload 0), (1, .getfield 10, 4, .getfield 513), (4, .getfield 139, 7, .getfield 129), (7, .iload_n 1, 8, .iload 1), (8, .invokestatic 148, 11, .invokeinterface 19 9), (11, .invokevirtual 152, 14, .invokeinterface 151 17), (14, .ireturn, 15, .ireturn)]]
/-- RecordReconciler.rejectBatch()I -/
noncomputable def ct_153 : List (List (Nat × Instr × Nat × Instr)) := [[(0, .aload_n 0, 1, .aload 0), (1, .iconst 3, 2, .iconst 3), (2, .bipush 97, 4, .iconst 97), (4, .iconst 0, 5, .iconst 0), (5, .iconst 0, 6, .iconst 0), (6, .invokevirtual 68, 9, .invokeinterface 54 41), (9, .ireturn, 10, .ireturn)]]
/-- RecordReconciler.rejectedTotal()I -/
noncomputable def ct_154 : List (List (Nat × Instr × Nat × Instr)) := [[(0, .aload_n 0, 1, .aload 0), (1, .getfield 10, 4, .getfield 513), (4, .getfield 260, 7, .getfield 135), (7, .iconst 5, 8, .iconst 5), (8, .iaload, 9, .iaload), (9, .ireturn, 10, .ireturn)]]
/-- RecordReconciler.report(CII)I -/
noncomputable def ct_155 : List (List (Nat × Instr × Nat × Instr)) := [[(0, .aload_n 0, 1, .aload 0), (1, .iconst 0, 2, .iconst 0), (2, .iload_n 1, 3, .iload 1), (3, .iload_n 2, 4, .iload 2), (4, .iload_n 3, 5, .iload 3), (5, .invokevirtual 68, 8, .invokeinterface 54 41), (8, .ireturn, 9, .ireturn)]]
/-- RecordReconciler.reportAmount(I)I -/
noncomputable def ct_156 : List (List (Nat × Instr × Nat × Instr)) := [[(0, .aload_n 0, 1, .aload 0), (1, .iload_n 1, 2, .iload 1), (2, .invokevirtual 115, 5, .invokeinterface 144 16), (5, .aload_n 0, 6, .aload 0), (6, .getfield 10, 9, .getfield 513), (9, .getfield 106, 12, .getfield 131), (12, .getfield 129, 15, .getfield 69), (15, .iload_n 1, 16, .iload 1), (16, .iaload, 17, .iaload), (17, .ireturn, 18, .ireturn)]]
/-- RecordReconciler.reportCount()I -/
noncomputable def ct_157 : List (List (Nat × Instr × Nat × Instr)) := [[(0, .aload_n 0, 1, .aload 0), (1, .getfield 10, 4, .getfield 513), (4, .getfield 106, 7, .getfield 131), (7, .getfield 110, 10, .getfield 70), (10, .ireturn, 11, .ireturn)]]
/-- RecordReconciler.reportKey(I)I -/
noncomputable def ct_158 : List (List (Nat × Instr × Nat × Instr)) := [[(0, .aload_n 0, 1, .aload 0), (1, .iload_n 1, 2, .iload 1), (2, .invokevirtual 115, 5, .invokeinterface 144 16), (5, .aload_n 0, 6, .aload 0), (6, .getfield 10, 9, .getfield 513), (9, .getfield 106, 12, .getfield 131), (12, .getfield 126, 15, .getfield 67), (15, .iload_n 1, 16, .iload 1), (16, .iaload, 17, .iaload), (17, .ireturn, 18, .ireturn)]]
/-- RecordReconciler.reportSource(I)C -/
noncomputable def ct_159 : List (List (Nat × Instr × Nat × Instr)) := [[(0, .aload_n 0, 1, .aload 0), (1, .iload_n 1, 2, .iload 1), (2, .invokevirtual 115, 5, .invokeinterface 144 16), (5, .aload_n 0, 6, .aload 0), (6, .getfield 10, 9, .getfield 513), (9, .getfield 106, 12, .getfield 131), (12, .getfield 118, 15, .getfield 65), (15, .iload_n 1, 16, .iload 1), (16, .iaload, 17, .iaload), (17, .invokestatic 122, 20, .invokeinterface 82 9), (20, .ireturn, 21, .ret 2)]]
/-- RecordReconciler.restore()I -/
noncomputable def ct_160 : List (List (Nat × Instr × Nat × Instr)) := [[(0, .aload_n 0, 1, .aload 0), (1, .getfield 57, 4, .getfield 528), (4, .ifCond .ne 14, 7, .ifCond .ne 18), (7, .new 98, 10, .invokedynamic 2), (10, .dup, 11, .dup), (18, .aload_n 0, 19, .aload 0), (19, .getfield 10, 22, .getfield 513), (22, .aload_n 0, 23, .aload 0), (23, .getfield 19, 26, .getfield 517), (26, .invokevirtual 319, 29, .invokeinterface 39 16), (29, .aload_n 0, 30, .aload 0), (30, .getfield 25, 33, .getfield 519), (33, .iconst 0, 34, .iconst 0), (34, .putfield 334, 37, .putfield 260), (37, .aload_n 0, 38, .aload 0), (38, .getfield 10, 41, .getfield 513), (41, .getfield 139, 44, .getfield 129), (44, .getfield 143, 47, .getfield 328), (47, .ireturn, 48, .ireturn)]]
/-- RecordReconciler$Program.keywordOf(I)Ljava/lang/String; -/
noncomputable def ct_161 : List (List (Nat × Instr × Nat × Instr)) := [[(0, .iload_n 0, 1, .iload 0), (1, .tableswitch 57 0 5 #[39, 42, 45, 48, 51, 54], 40, .tableswitch 58 0 5 #[40, 43, 46, 49, 52, 55]), (40, .ldc 77, 42, .getstatic 12), (42, .areturn, 43, .areturn), (43, .ldc 79, 45, .getstatic 14), (45, .areturn, 46, .areturn), (46, .ldc 81, 48, .getstatic 16), (48, .areturn, 49, .areturn), (49, .ldc 83, 51, .getstatic 18), (51, .areturn, 52, .areturn), (52, .ldc 85, 54, .getstatic 20), (54, .areturn, 55, .areturn), (55, .ldc 87, 57, .getstatic 22), (57, .areturn, 58, .areturn), (58, .ldc 89, 60, .getstatic 24), (60, .areturn, 61, .areturn)]]
/-- String.isLatin1()Z -/
noncomputable def ct_162 : List (List (Nat × Instr × Nat × Instr)) := [[(0, .getstatic 38, 3, .iconst 1), (3, .ifCond .eq 14, 6, .ifCond .eq 17), (6, .aload_n 0, 7, .aload 0), (7, .getfield 15, 10, .getfield 706), (10, .ifCond .ne 7, 13, .ifCond .ne 17), (13, .iconst 1, 14, .iconst 1), (14, .goto 4, 17, .goto 18), (17, .iconst 0, 18, .iconst 0), (18, .ireturn, 19, .ret 1)]]
/-- StringLatin1.charAt([BI)C -/
noncomputable def ct_163 : List (List (Nat × Instr × Nat × Instr)) := [[(0, .iload_n 1, 1, .iload 1), (1, .aload_n 0, 2, .aload 0), (2, .arraylength, 3, .arraylength), (3, .invokestatic 9, 6, .invokeinterface 131 16), (6, .aload_n 0, 7, .aload 0), (7, .iload_n 1, 8, .iload 1), (8, .baload, 9, .faload), (9, .sipush 255, 12, .iconst 255), (12, .iand, 13, .iand), (13, .i2c, 14, .i2c), (14, .ireturn, 15, .ret 2)]]
/-- String.charAt(I)C -/
noncomputable def ct_164 : List (List (Nat × Instr × Nat × Instr)) := [[(0, .aload_n 0, 1, .aload 0), (1, .invokevirtual 492, 4, .invokeinterface 162 9), (4, .ifCond .eq 12, 7, .ifCond .eq 16), (7, .aload_n 0, 8, .aload 0), (8, .getfield 9, 11, .getfield 705), (11, .iload_n 1, 12, .iload 1), (12, .invokestatic 495, 15, .invokeinterface 163 17), (15, .ireturn, 16, .ret 2), (16, .aload_n 0, 17, .aload 0), (17, .getfield 9, 20, .getfield 705), (20, .iload_n 1, 21, .iload 1), (24, .ireturn, 25, .ret 2)]]
/-- RecordReconciler$Program.commonLength(Ljava/lang/String;)I -/
noncomputable def ct_165 : List (List (Nat × Instr × Nat × Instr)) := [[(0, .iconst 0, 1, .iconst 0), (1, .istore_n 2, 2, .istore 2), (2, .iconst 0, 3, .iconst 0), (3, .istore_n 3, 4, .istore 3), (4, .iload_n 3, 5, .iload 3), (5, .aload_n 1, 6, .aload 1), (6, .invokevirtual 67, 9, .invokeinterface 91 9), (9, .if_icmp .ge 47, 12, .if_icmp .ge 56), (12, .aload_n 0, 13, .aload 0), (13, .getfield 35, 16, .getfield 462), (16, .iload_n 3, 17, .iload 3), (17, .iadd, 18, .iadd), (18, .aload_n 0, 19, .aload 0), (19, .getfield 15, 22, .getfield 450), (22, .if_icmp .ge 34, 25, .if_icmp .ge 56), (25, .aload_n 0, 26, .aload 0), (26, .getfield 9, 29, .getfield 449), (29, .aload_n 0, 30, .aload 0), (30, .getfield 35, 33, .getfield 462), (33, .iload_n 3, 34, .iload 3), (34, .iadd, 35, .iadd), (35, .caload, 36, .caload), (36, .aload_n 1, 37, .aload 1), (37, .iload_n 3, 38, .iload 3), (38, .invokevirtual 91, 41, .invokeinterface 164 17), (41, .if_icmp .eq 6, 44, .if_icmp .eq 47), (44, .goto 12, 47, .goto 56), (47, .iinc 2 1, 50, .iinc 2 1), (50, .iinc 3 1, 53, .iinc 3 1), (53, .goto (-49), 56, .goto 4), (56, .iload_n 2, 57, .iload 2), (57, .ireturn, 58, .ireturn)]]
/-- RecordReconciler$Program.readKeyword()I -/
noncomputable def ct_166 : List (List (Nat × Instr × Nat × Instr)) := [[(0, .iconst 0, 1, .iconst 0), (1, .istore_n 1, 2, .istore 1), (2, .iconst 0, 3, .iconst 0), (3, .istore_n 2, 4, .istore 2), (4, .iload_n 2, 5, .iload 2), (5, .bipush 7, 7, .iconst 7), (7, .if_icmp .ge 50, 10, .if_icmp .ge 57), (10, .iload_n 2, 11, .iload 2), (11, .invokestatic 59, 14, .invokeinterface 161 10), (14, .astore_n 3, 15, .astore 3), (15, .aload_n 0, 16, .aload 0), (16, .aload_n 3, 17, .aload 3), (17, .invokevirtual 63, 20, .invokeinterface 165 17), (20, .istore 4, 22, .istore 4), (22, .iload 4, 24, .iload 4), (24, .aload_n 3, 25, .aload 3), (25, .invokevirtual 67, 28, .invokeinterface 91 9), (28, .if_icmp .ne 16, 31, .if_icmp .ne 44), (31, .aload_n 0, 32, .aload 0), (32, .dup, 33, .dup), (33, .getfield 35, 36, .getfield 462), (36, .iload 4, 38, .iload 4), (38, .iadd, 39, .iadd), (39, .putfield 35, 42, .putfield 462), (42, .iload_n 2, 43, .iload 2), (43, .ireturn, 44, .ireturn), (44, .iload_n 1, 45, .iload 1), (45, .iload 4, 47, .iload 4), (47, .invokestatic 71, 50, .invokestatic 2), (50, .istore_n 1, 51, .istore 1), (51, .iinc 2 1, 54, .iinc 2 1), (54, .goto (-50), 57, .goto 4), (57, .aload_n 0, 58, .aload 0), (58, .dup, 59, .dup), (59, .getfield 35, 62, .getfield 462), (62, .iload_n 1, 63, .iload 1), (63, .iadd, 64, .iadd)],
  [(64, .putfield 35, 67, .putfield 462), (67, .iconst (-1), 68, .iconst (-1)), (68, .ireturn, 69, .ireturn)]]
/-- RecordReconciler$Program.readSource(I)Z -/
noncomputable def ct_167 : List (List (Nat × Instr × Nat × Instr)) := [[(0, .aload_n 0, 1, .aload 0), (1, .getfield 35, 4, .getfield 462), (4, .aload_n 0, 5, .aload 0), (5, .getfield 15, 8, .getfield 450), (8, .if_icmp .ge 18, 11, .if_icmp .ge 26), (11, .aload_n 0, 12, .aload 0), (12, .getfield 9, 15, .getfield 449), (15, .aload_n 0, 16, .aload 0), (16, .getfield 35, 19, .getfield 462), (19, .caload, 20, .caload), (20, .invokestatic 95, 23, .invokeinterface 18 9), (23, .ifCond .ge 5, 26, .ifCond .ge 28), (26, .iconst 0, 27, .iconst 0), (27, .ireturn, 28, .ret 1), (28, .aload_n 0, 29, .aload 0), (29, .getfield 23, 32, .getfield 455), (32, .iload_n 1, 33, .iload 1), (33, .aload_n 0, 34, .aload 0), (34, .getfield 9, 37, .getfield 449), (37, .aload_n 0, 38, .aload 0), (38, .getfield 35, 41, .getfield 462), (41, .caload, 42, .caload), (42, .castore, 43, .castore), (43, .aload_n 0, 44, .aload 0), (44, .dup, 45, .dup), (45, .getfield 35, 48, .getfield 462), (48, .iconst 1, 49, .iconst 1), (49, .iadd, 50, .iadd), (50, .putfield 35, 53, .putfield 462), (53, .iconst 1, 54, .iconst 1), (54, .ireturn, 55, .ret 1)]]
/-- RecordReconciler$Program.readNumber(I)I -/
noncomputable def ct_168 : List (List (Nat × Instr × Nat × Instr)) := [[(0, .iconst (-1), 1, .iconst (-1)), (1, .istore_n 2, 2, .istore 2), (2, .iconst 0, 3, .iconst 0), (3, .istore_n 3, 4, .istore 3), (4, .iload_n 3, 5, .iload 3), (5, .iload_n 1, 6, .iload 1), (6, .if_icmp .ge 77, 9, .if_icmp .ge 83), (9, .aload_n 0, 10, .aload 0), (10, .getfield 35, 13, .getfield 462), (13, .aload_n 0, 14, .aload 0), (14, .getfield 15, 17, .getfield 450), (17, .if_icmp .ge 66, 20, .if_icmp .ge 83), (20, .aload_n 0, 21, .aload 0), (21, .getfield 9, 24, .getfield 449), (24, .aload_n 0, 25, .aload 0), (25, .getfield 35, 28, .getfield 462), (28, .caload, 29, .caload), (29, .istore 4, 31, .istore 4), (31, .iload 4, 33, .iload 4), (33, .bipush 48, 35, .iconst 48), (35, .if_icmp .lt 48, 38, .if_icmp .lt 83), (38, .iload 4, 40, .iload 4), (40, .bipush 57, 42, .iconst 57), (42, .if_icmp .le 6, 45, .if_icmp .le 48), (45, .goto 38, 48, .goto 83), (48, .iload_n 2, 49, .iload 2), (49, .ifCond .ge 7, 52, .ifCond .ge 56), (52, .iconst 0, 53, .iconst 0), (53, .goto 7, 56, .goto 60), (56, .iload_n 2, 57, .iload 2), (57, .bipush 10, 59, .iconst 10), (59, .imul, 60, .imul), (60, .iload 4, 62, .iload 4), (62, .bipush 48, 64, .iconst 48)],
  [(64, .isub, 65, .isub), (65, .iadd, 66, .iadd), (66, .istore_n 2, 67, .istore 2), (67, .aload_n 0, 68, .aload 0), (68, .dup, 69, .dup), (69, .getfield 35, 72, .getfield 462), (72, .iconst 1, 73, .iconst 1), (73, .iadd, 74, .iadd), (74, .putfield 35, 77, .putfield 462), (77, .iinc 3 1, 80, .iinc 3 1), (80, .goto (-76), 83, .goto 4), (83, .iload_n 2, 84, .iload 2), (84, .ireturn, 85, .ireturn)]]
/-- RecordReconciler$Program.readKey(I)Z -/
noncomputable def ct_169 : List (List (Nat × Instr × Nat × Instr)) := [[(0, .aload_n 0, 1, .aload 0), (1, .getfield 26, 4, .getfield 457), (4, .iload_n 1, 5, .iload 1), (5, .aload_n 0, 6, .aload 0), (6, .iconst 3, 7, .iconst 3), (7, .invokevirtual 99, 10, .invokeinterface 168 17), (10, .iastore, 11, .iastore), (11, .aload_n 0, 12, .aload 0), (12, .getfield 26, 15, .getfield 457), (15, .iload_n 1, 16, .iload 1), (16, .iaload, 17, .iaload), (17, .ifCond .lt 7, 20, .ifCond .lt 24), (20, .iconst 1, 21, .iconst 1), (21, .goto 4, 24, .goto 25), (24, .iconst 0, 25, .iconst 0), (25, .ireturn, 26, .ret 1)]]
/-- RecordReconciler$Program.skip(C)Z -/
noncomputable def ct_170 : List (List (Nat × Instr × Nat × Instr)) := [[(0, .aload_n 0, 1, .aload 0), (1, .getfield 35, 4, .getfield 462), (4, .aload_n 0, 5, .aload 0), (5, .getfield 15, 8, .getfield 450), (8, .if_icmp .ge 16, 11, .if_icmp .ge 24), (11, .aload_n 0, 12, .aload 0), (12, .getfield 9, 15, .getfield 449), (15, .aload_n 0, 16, .aload 0), (16, .getfield 35, 19, .getfield 462), (19, .caload, 20, .caload), (20, .iload_n 1, 21, .iload 1), (21, .if_icmp .eq 5, 24, .if_icmp .eq 26), (24, .iconst 0, 25, .iconst 0), (25, .ireturn, 26, .ret 1), (26, .aload_n 0, 27, .aload 0), (27, .dup, 28, .dup), (28, .getfield 35, 31, .getfield 462), (31, .iconst 1, 32, .iconst 1), (32, .iadd, 33, .iadd), (33, .putfield 35, 36, .putfield 462), (36, .iconst 1, 37, .iconst 1), (37, .ireturn, 38, .ret 1)]]
/-- RecordReconciler$Program.readAmount(I)Z -/
noncomputable def ct_171 : List (List (Nat × Instr × Nat × Instr)) := [[(0, .aload_n 0, 1, .aload 0), (1, .getfield 29, 4, .getfield 459), (4, .iload_n 1, 5, .iload 1), (5, .aload_n 0, 6, .aload 0), (6, .iconst 2, 7, .iconst 2), (7, .invokevirtual 99, 10, .invokeinterface 168 17), (10, .iastore, 11, .iastore), (11, .aload_n 0, 12, .aload 0), (12, .getfield 29, 15, .getfield 459), (15, .iload_n 1, 16, .iload 1), (16, .iaload, 17, .iaload), (17, .ifCond .lt 7, 20, .ifCond .lt 24), (20, .iconst 1, 21, .iconst 1), (21, .goto 4, 24, .goto 25), (24, .iconst 0, 25, .iconst 0), (25, .ireturn, 26, .ret 1)]]
/-- RecordReconciler$Program.readCommand(I)Z -/
noncomputable def ct_172 : List (List (Nat × Instr × Nat × Instr)) := [[(0, .aload_n 0, 1, .aload 0), (1, .invokevirtual 46, 4, .invokeinterface 166 9), (4, .istore_n 2, 5, .istore 2), (5, .iload_n 2, 6, .iload 2), (6, .ifCond .ge 5, 9, .ifCond .ge 11), (9, .iconst 0, 10, .iconst 0), (10, .ireturn, 11, .ret 1), (11, .aload_n 0, 12, .aload 0), (12, .getfield 19, 15, .getfield 453), (15, .iload_n 1, 16, .iload 1), (16, .iload_n 2, 17, .iload 2), (17, .iastore, 18, .iastore), (18, .aload_n 0, 19, .aload 0), (19, .getfield 23, 22, .getfield 455), (22, .iload_n 1, 23, .iload 1), (23, .bipush 97, 25, .iconst 97), (25, .castore, 26, .castore), (26, .aload_n 0, 27, .aload 0), (27, .getfield 26, 30, .getfield 457), (30, .iload_n 1, 31, .iload 1), (31, .iconst 0, 32, .iconst 0), (32, .iastore, 33, .iastore), (33, .aload_n 0, 34, .aload 0), (34, .getfield 29, 37, .getfield 459), (37, .iload_n 1, 38, .iload 1), (38, .iconst 0, 39, .iconst 0), (39, .iastore, 40, .iastore), (40, .iload_n 2, 41, .iload 2), (41, .tableswitch 110 0 6 #[43, 43, 110, 110, 82, 82, 104], 84, .tableswitch 151 0 6 #[84, 84, 151, 151, 123, 123, 145])],
  [(84, .aload_n 0, 85, .aload 0), (85, .iload_n 1, 86, .iload 1), (86, .invokevirtual 50, 89, .invokeinterface 167 17), (89, .ifCond .eq 32, 92, .ifCond .eq 121), (92, .aload_n 0, 93, .aload 0), (93, .iload_n 1, 94, .iload 1), (94, .invokevirtual 53, 97, .invokeinterface 169 17), (97, .ifCond .eq 24, 100, .ifCond .eq 121), (100, .aload_n 0, 101, .aload 0), (101, .bipush 61, 103, .iconst 61), (103, .invokevirtual 42, 106, .invokeinterface 170 17), (106, .ifCond .eq 15, 109, .ifCond .eq 121), (109, .aload_n 0, 110, .aload 0), (110, .iload_n 1, 111, .iload 1), (111, .invokevirtual 56, 114, .invokeinterface 171 17), (114, .ifCond .eq 7, 117, .ifCond .eq 121), (117, .iconst 1, 118, .iconst 1), (118, .goto 4, 121, .goto 122), (121, .iconst 0, 122, .iconst 0), (122, .ireturn, 123, .ret 1), (123, .aload_n 0, 124, .aload 0), (124, .iload_n 1, 125, .iload 1), (125, .invokevirtual 50, 128, .invokeinterface 167 17)],
  [(128, .ifCond .eq 15, 131, .ifCond .eq 143), (131, .aload_n 0, 132, .aload 0), (132, .iload_n 1, 133, .iload 1), (133, .invokevirtual 53, 136, .invokeinterface 169 17), (136, .ifCond .eq 7, 139, .ifCond .eq 143), (139, .iconst 1, 140, .iconst 1), (140, .goto 4, 143, .goto 144), (143, .iconst 0, 144, .iconst 0), (144, .ireturn, 145, .ret 1), (145, .aload_n 0, 146, .aload 0), (146, .iload_n 1, 147, .iload 1), (147, .invokevirtual 56, 150, .invokeinterface 171 17), (150, .ireturn, 151, .ret 1), (151, .iconst 1, 152, .iconst 1), (152, .ireturn, 153, .ret 1)]]
/-- RecordReconciler$Program.parse()I -/
noncomputable def ct_173 : List (List (Nat × Instr × Nat × Instr)) := [[(0, .aload_n 0, 1, .aload 0), (1, .iconst 0, 2, .iconst 0), (2, .putfield 35, 5, .putfield 462), (5, .aload_n 0, 6, .aload 0), (6, .iconst 0, 7, .iconst 0), (7, .putfield 32, 10, .putfield 460), (10, .iconst 0, 11, .iconst 0), (11, .istore_n 1, 12, .istore 1), (12, .iload_n 1, 13, .iload 1), (13, .bipush 60, 15, .iconst 60), (15, .if_icmp .ge 56, 18, .if_icmp .ge 71), (18, .aload_n 0, 19, .aload 0), (19, .iload_n 1, 20, .iload 1), (20, .invokevirtual 38, 23, .invokeinterface 172 17), (23, .ifCond .ne 8, 26, .ifCond .ne 31), (26, .aload_n 0, 27, .aload 0), (27, .getfield 35, 30, .getfield 462), (30, .ireturn, 31, .ireturn), (31, .aload_n 0, 32, .aload 0), (32, .iload_n 1, 33, .iload 1), (33, .iconst 1, 34, .iconst 1), (34, .iadd, 35, .iadd), (35, .putfield 32, 38, .putfield 460), (38, .aload_n 0, 39, .aload 0), (39, .getfield 35, 42, .getfield 462), (42, .aload_n 0, 43, .aload 0), (43, .getfield 15, 46, .getfield 450), (46, .if_icmp .lt 5, 49, .if_icmp .lt 51), (49, .iconst (-1), 50, .iconst (-1)), (50, .ireturn, 51, .ireturn), (51, .aload_n 0, 52, .aload 0), (52, .bipush 59, 54, .iconst 59), (54, .invokevirtual 42, 57, .invokeinterface 170 17), (57, .ifCond .ne 8, 60, .ifCond .ne 65), (60, .aload_n 0, 61, .aload 0), (61, .getfield 35, 64, .getfield 462)],
  [(64, .ireturn, 65, .ireturn), (65, .iinc 1 1, 68, .iinc 1 1), (68, .goto (-56), 71, .goto 12), (71, .aload_n 0, 72, .aload 0), (72, .getfield 35, 75, .getfield 462), (75, .ireturn, 76, .ireturn)]]
/-- RecordReconciler.run()I -/
noncomputable def ct_174 : List (List (Nat × Instr × Nat × Instr)) := [[(0, .aload_n 0, 1, .aload 0), (1, .getfield 32, 4, .getfield 521), (4, .invokevirtual 306, 7, .invokeinterface 173 9), (7, .istore_n 1, 8, .istore 1), (8, .aload_n 0, 9, .aload 0), (9, .getfield 32, 12, .getfield 521), (12, .iconst 0, 13, .iconst 0), (13, .putfield 299, 16, .putfield 450), (16, .iload_n 1, 17, .iload 1), (17, .ifCond .lt 19, 20, .ifCond .lt 36), (20, .aload_n 0, 21, .aload 0), (21, .iload_n 1, 22, .iload 1), (22, .putfield 61, 25, .putfield 530), (25, .new 86, 28, .invokedynamic 1), (28, .dup, 29, .dup), (36, .aload_n 0, 37, .aload 0), (37, .invokevirtual 311, 40, .invokeinterface 70 9), (40, .istore_n 2, 41, .istore 2), (41, .iload_n 2, 42, .iload 2), (42, .ifCond .lt 19, 45, .ifCond .lt 61), (45, .aload_n 0, 46, .aload 0), (46, .iload_n 2, 47, .iload 2), (47, .putfield 65, 50, .putfield 532), (50, .new 98, 53, .invokedynamic 2), (53, .dup, 54, .dup), (61, .aload_n 0, 62, .aload 0), (62, .getfield 32, 65, .getfield 521)],
  [(65, .getfield 316, 68, .getfield 460), (68, .ireturn, 69, .ireturn)]]
/-- RecordReconciler.save()I -/
noncomputable def ct_175 : List (List (Nat × Instr × Nat × Instr)) := [[(0, .aload_n 0, 1, .aload 0), (1, .getfield 19, 4, .getfield 517), (4, .aload_n 0, 5, .aload 0), (5, .getfield 10, 8, .getfield 513), (8, .invokevirtual 319, 11, .invokeinterface 39 16), (11, .aload_n 0, 12, .aload 0), (12, .iconst 1, 13, .iconst 1), (13, .putfield 57, 16, .putfield 1552), (16, .aload_n 0, 17, .aload 0), (17, .getfield 10, 20, .getfield 513), (20, .getfield 139, 23, .getfield 129), (23, .getfield 143, 26, .getfield 328), (26, .ireturn, 27, .ireturn)]]
/-- RecordReconciler.settle(CI)I -/
noncomputable def ct_176 : List (List (Nat × Instr × Nat × Instr)) := [[(0, .aload_n 0, 1, .aload 0), (1, .iconst 4, 2, .iconst 4), (2, .iload_n 1, 3, .iload 1), (3, .iload_n 2, 4, .iload 2), (4, .iconst 0, 5, .iconst 0), (5, .invokevirtual 68, 8, .invokeinterface 54 41), (8, .ireturn, 9, .ireturn)]]
/-- RecordReconciler.settledTotal()I -/
noncomputable def ct_177 : List (List (Nat × Instr × Nat × Instr)) := [[(0, .aload_n 0, 1, .aload 0), (1, .getfield 10, 4, .getfield 513), (4, .getfield 260, 7, .getfield 135), (7, .bipush 6, 9, .iconst 6), (9, .iaload, 10, .iaload), (10, .ireturn, 11, .ireturn)]]
/-- RecordReconciler.statusOf(I)C -/
noncomputable def ct_178 : List (List (Nat × Instr × Nat × Instr)) := [[(0, .aload_n 0, 1, .aload 0), (1, .getfield 10, 4, .getfield 513), (4, .getfield 139, 7, .getfield 129), (7, .aload_n 0, 8, .aload 0), (8, .iload_n 1, 9, .iload 1), (9, .invokevirtual 190, 12, .invokeinterface 13 17), (12, .invokevirtual 193, 15, .invokeinterface 33 17), (15, .ireturn, 16, .ret 2)]]
/-- RecordReconciler.totalOf(C)I -/
noncomputable def ct_179 : List (List (Nat × Instr × Nat × Instr)) := [[(0, .aload_n 0, 1, .aload 0), (1, .getfield 10, 4, .getfield 513), (4, .getfield 139, 7, .getfield 129), (7, .iload_n 1, 8, .iload 1), (8, .invokestatic 148, 11, .invokeinterface 19 9), (11, .invokevirtual 208, 14, .invokeinterface 137 17), (14, .ireturn, 15, .ireturn)]]
/-- RecordReconciler.trustOf(C)I -/
noncomputable def ct_180 : List (List (Nat × Instr × Nat × Instr)) := [[(0, .aload_n 0, 1, .aload 0), (1, .getfield 10, 4, .getfield 513), (4, .getfield 257, 7, .getfield 133), (7, .iload_n 1, 8, .iload 1), (8, .invokestatic 148, 11, .invokeinterface 19 9), (11, .iaload, 12, .iaload), (12, .ireturn, 13, .ireturn)]]
/-- RecordReconciler$History.takeBack(LRecordReconciler$Book;)I -/
noncomputable def ct_181 : List (List (Nat × Instr × Nat × Instr)) := [[(0, .aload_n 0, 1, .aload 0), (1, .getfield 21, 4, .getfield 260), (4, .ifCond .le 42, 7, .ifCond .le 46), (7, .aload_n 1, 8, .aload 1), (8, .aload_n 0, 9, .aload 0), (9, .getfield 11, 12, .getfield 257), (12, .aload_n 0, 13, .aload 0), (13, .getfield 17, 16, .getfield 258), (16, .aaload, 17, .aaload), (17, .invokevirtual 25, 20, .invokeinterface 39 16), (20, .aload_n 0, 21, .aload 0), (21, .aload_n 0, 22, .aload 0), (22, .getfield 17, 25, .getfield 258), (25, .bipush 8, 27, .iconst 8), (27, .iadd, 28, .iadd), (28, .iconst 1, 29, .iconst 1), (29, .isub, 30, .isub), (30, .bipush 8, 32, .iconst 8), (32, .irem, 33, .irem), (33, .putfield 17, 36, .putfield 258), (36, .aload_n 0, 37, .aload 0), (37, .dup, 38, .dup), (38, .getfield 21, 41, .getfield 260), (41, .iconst 1, 42, .iconst 1), (42, .isub, 43, .isub), (43, .putfield 21, 46, .putfield 260), (46, .aload_n 0, 47, .aload 0), (47, .getfield 21, 50, .getfield 260), (50, .ireturn, 51, .ireturn)]]
/-- RecordReconciler.undo()I -/
noncomputable def ct_182 : List (List (Nat × Instr × Nat × Instr)) := [[(0, .aload_n 0, 1, .aload 0), (1, .getfield 25, 4, .getfield 519), (4, .getfield 334, 7, .getfield 260), (7, .ifCond .ne 14, 10, .ifCond .ne 21), (10, .new 98, 13, .invokedynamic 2), (13, .dup, 14, .dup), (21, .aload_n 0, 22, .aload 0), (22, .getfield 25, 25, .getfield 519), (25, .aload_n 0, 26, .aload 0), (26, .getfield 10, 29, .getfield 513), (29, .invokevirtual 337, 32, .invokeinterface 181 17), (32, .ireturn, 33, .ireturn)]]
/-- RecordReconciler.undoableCount()I -/
noncomputable def ct_183 : List (List (Nat × Instr × Nat × Instr)) := [[(0, .aload_n 0, 1, .aload 0), (1, .getfield 25, 4, .getfield 519), (4, .getfield 334, 7, .getfield 260), (7, .ireturn, 8, .ireturn)]]
/-- RecordReconciler.withdraw(CII)I -/
noncomputable def ct_184 : List (List (Nat × Instr × Nat × Instr)) := [[(0, .aload_n 0, 1, .aload 0), (1, .iconst 1, 2, .iconst 1), (2, .iload_n 1, 3, .iload 1), (3, .iload_n 2, 4, .iload 2), (4, .iload_n 3, 5, .iload 3), (5, .invokevirtual 68, 8, .invokeinterface 54 41), (8, .ireturn, 9, .ireturn)]]
/-- RecordReconcilerLaw.acceptedAmount(LRecordReconciler;I[J)I -/
noncomputable def ct_185 : List (List (Nat × Instr × Nat × Instr)) := [[(0, .aload_n 2, 1, .aload 2), (1, .iconst 0, 2, .iconst 0), (2, .aload_n 0, 3, .aload 0), (3, .iload_n 1, 4, .iload 1), (4, .invokevirtual 78, 7, .invokeinterface 16 17), (7, .i2l, 8, .i2l), (8, .lastore, 9, .lastore), (9, .goto 9, 12, .goto 18), (12, .astore_n 3, 13, .astore 3), (13, .iconst 1, 14, .iconst 1), (14, .ireturn, 15, .ireturn), (15, .astore_n 3, 16, .astore 3), (16, .iconst 2, 17, .iconst 2), (17, .ireturn, 18, .ireturn), (18, .iconst 0, 19, .iconst 0), (19, .ireturn, 20, .ireturn)]]
/-- RecordReconcilerLaw.amountOf(LRecordReconciler;CI[J)I -/
noncomputable def ct_186 : List (List (Nat × Instr × Nat × Instr)) := [[(0, .aload_n 3, 1, .aload 3), (1, .iconst 0, 2, .iconst 0), (2, .aload_n 0, 3, .aload 0), (3, .iload_n 1, 4, .iload 1), (4, .iload_n 2, 5, .iload 2), (5, .invokevirtual 60, 8, .invokeinterface 22 25), (8, .i2l, 9, .i2l), (9, .lastore, 10, .lastore), (10, .goto 11, 13, .goto 21), (13, .astore 4, 15, .astore 4), (15, .iconst 1, 16, .iconst 1), (16, .ireturn, 17, .ireturn), (17, .astore 4, 19, .astore 4), (19, .iconst 2, 20, .iconst 2), (20, .ireturn, 21, .ireturn), (21, .iconst 0, 22, .iconst 0), (22, .ireturn, 23, .ireturn)]]
/-- RecordReconcilerLaw.append(LRecordReconciler;C[J)I -/
noncomputable def ct_187 : List (List (Nat × Instr × Nat × Instr)) := [[(0, .aload_n 2, 1, .aload 2), (1, .iconst 0, 2, .iconst 0), (2, .aload_n 0, 3, .aload 0), (3, .iload_n 1, 4, .iload 1), (4, .invokevirtual 127, 7, .invokeinterface 24 17), (7, .i2l, 8, .i2l), (8, .lastore, 9, .lastore), (9, .goto 9, 12, .goto 18), (12, .astore_n 3, 13, .astore 3), (13, .iconst 1, 14, .iconst 1), (14, .ireturn, 15, .ireturn), (15, .astore_n 3, 16, .astore 3), (16, .iconst 2, 17, .iconst 2), (17, .ireturn, 18, .ireturn), (18, .iconst 0, 19, .iconst 0), (19, .ireturn, 20, .ireturn)]]
/-- RecordReconcilerLaw.closeBatch(LRecordReconciler;[J)I -/
noncomputable def ct_188 : List (List (Nat × Instr × Nat × Instr)) := [[(0, .aload_n 1, 1, .aload 1), (1, .iconst 0, 2, .iconst 0), (2, .aload_n 0, 3, .aload 0), (3, .invokevirtual 22, 6, .invokeinterface 55 9), (6, .i2l, 7, .i2l), (7, .lastore, 8, .lastore), (8, .goto 6, 11, .goto 14), (11, .astore_n 2, 12, .astore 2), (12, .iconst 1, 13, .iconst 1), (13, .ireturn, 14, .ireturn), (14, .iconst 0, 15, .iconst 0), (15, .ireturn, 16, .ireturn)]]
/-- RecordReconcilerLaw.confirmedShare(LRecordReconciler;[D)I -/
noncomputable def ct_189 : List (List (Nat × Instr × Nat × Instr)) := [[(0, .aload_n 1, 1, .aload 1), (1, .iconst 0, 2, .iconst 0), (2, .aload_n 0, 3, .aload 0), (3, .invokevirtual 114, 6, .invokeinterface 59 12), (6, .f2d, 7, .f2d), (7, .dastore, 8, .dastore), (8, .goto 6, 11, .goto 14), (11, .astore_n 2, 12, .astore 2), (12, .iconst 1, 13, .iconst 1), (13, .ireturn, 14, .ireturn), (14, .iconst 0, 15, .iconst 0), (15, .ireturn, 16, .ireturn)]]
/-- RecordReconcilerLaw.dayOf(LRecordReconciler;CI[J)I -/
noncomputable def ct_190 : List (List (Nat × Instr × Nat × Instr)) := [[(0, .aload_n 3, 1, .aload 3), (1, .iconst 0, 2, .iconst 0), (2, .aload_n 0, 3, .aload 0), (3, .iload_n 1, 4, .iload 1), (4, .iload_n 2, 5, .iload 2), (5, .invokevirtual 63, 8, .invokeinterface 62 25), (8, .i2l, 9, .i2l), (9, .lastore, 10, .lastore), (10, .goto 11, 13, .goto 21), (13, .astore 4, 15, .astore 4), (15, .iconst 1, 16, .iconst 1), (16, .ireturn, 17, .ireturn), (17, .astore 4, 19, .astore 4), (19, .iconst 2, 20, .iconst 2), (20, .ireturn, 21, .ireturn), (21, .iconst 0, 22, .iconst 0), (22, .ireturn, 23, .ireturn)]]
/-- RecordReconcilerLaw.disputedAt(LRecordReconciler;I[J)I -/
noncomputable def ct_191 : List (List (Nat × Instr × Nat × Instr)) := [[(0, .aload_n 2, 1, .aload 2), (1, .iconst 0, 2, .iconst 0), (2, .aload_n 0, 3, .aload 0), (3, .iload_n 1, 4, .iload 1), (4, .invokevirtual 75, 7, .invokeinterface 64 17), (7, .i2l, 8, .i2l), (8, .lastore, 9, .lastore), (9, .goto 6, 12, .goto 15), (12, .astore_n 3, 13, .astore 3), (13, .iconst 1, 14, .iconst 1), (14, .ireturn, 15, .ireturn), (15, .iconst 0, 16, .iconst 0), (16, .ireturn, 17, .ireturn)]]
/-- RecordReconcilerLaw.drop(LRecordReconciler;CI[J)I -/
noncomputable def ct_192 : List (List (Nat × Instr × Nat × Instr)) := [[(0, .aload_n 3, 1, .aload 3), (1, .iconst 0, 2, .iconst 0), (2, .aload_n 0, 3, .aload 0), (3, .iload_n 1, 4, .iload 1), (4, .iload_n 2, 5, .iload 2), (5, .invokevirtual 30, 8, .invokeinterface 66 25), (8, .i2l, 9, .i2l), (9, .lastore, 10, .lastore), (10, .goto 11, 13, .goto 21), (13, .astore 4, 15, .astore 4), (15, .iconst 1, 16, .iconst 1), (16, .ireturn, 17, .ireturn), (17, .astore 4, 19, .astore 4), (19, .iconst 2, 20, .iconst 2), (20, .ireturn, 21, .ireturn), (21, .iconst 0, 22, .iconst 0), (22, .ireturn, 23, .ireturn)]]
/-- RecordReconcilerLaw.errorPosition(LRecordReconciler;[J)I -/
noncomputable def ct_193 : List (List (Nat × Instr × Nat × Instr)) := [[(0, .aload_n 1, 1, .aload 1), (1, .iconst 0, 2, .iconst 0), (2, .aload_n 0, 3, .aload 0), (3, .invokevirtual 133, 6, .invokeinterface 69 9), (6, .i2l, 7, .i2l), (7, .lastore, 8, .lastore), (8, .goto 6, 11, .goto 14), (11, .astore_n 2, 12, .astore 2), (12, .iconst 1, 13, .iconst 1), (13, .ireturn, 14, .ireturn), (14, .iconst 0, 15, .iconst 0), (15, .ireturn, 16, .ireturn)]]
/-- RecordReconcilerLaw.failedCommand(LRecordReconciler;[J)I -/
noncomputable def ct_194 : List (List (Nat × Instr × Nat × Instr)) := [[(0, .aload_n 1, 1, .aload 1), (1, .iconst 0, 2, .iconst 0), (2, .aload_n 0, 3, .aload 0), (3, .invokevirtual 136, 6, .invokeinterface 71 9), (6, .i2l, 7, .i2l), (7, .lastore, 8, .lastore), (8, .goto 6, 11, .goto 14), (11, .astore_n 2, 12, .astore 2), (12, .iconst 1, 13, .iconst 1), (13, .ireturn, 14, .ireturn), (14, .iconst 0, 15, .iconst 0), (15, .ireturn, 16, .ireturn)]]
/-- RecordReconcilerLaw.formatKey(LRecordReconciler;I[J)I -/
noncomputable def ct_195 : List (List (Nat × Instr × Nat × Instr)) := [[(0, .aload_n 2, 1, .aload 2), (1, .iconst 0, 2, .iconst 0), (2, .aload_n 0, 3, .aload 0), (3, .iload_n 1, 4, .iload 1), (4, .invokevirtual 121, 7, .invokeinterface 97 17), (7, .i2l, 8, .i2l), (8, .lastore, 9, .lastore), (9, .goto 9, 12, .goto 18), (12, .astore_n 3, 13, .astore 3), (13, .iconst 1, 14, .iconst 1), (14, .ireturn, 15, .ireturn), (15, .astore_n 3, 16, .astore 3), (16, .iconst 2, 17, .iconst 2), (17, .ireturn, 18, .ireturn), (18, .iconst 0, 19, .iconst 0), (19, .ireturn, 20, .ireturn)]]
/-- RecordReconcilerLaw.formatRecord(LRecordReconciler;CI[J)I -/
noncomputable def ct_196 : List (List (Nat × Instr × Nat × Instr)) := [[(0, .aload_n 3, 1, .aload 3), (1, .iconst 0, 2, .iconst 0), (2, .aload_n 0, 3, .aload 0), (3, .iload_n 1, 4, .iload 1), (4, .iload_n 2, 5, .iload 2), (5, .invokevirtual 118, 8, .invokeinterface 98 25), (8, .i2l, 9, .i2l), (9, .lastore, 10, .lastore), (10, .goto 11, 13, .goto 21), (13, .astore 4, 15, .astore 4), (15, .iconst 1, 16, .iconst 1), (16, .ireturn, 17, .ireturn), (17, .astore 4, 19, .astore 4), (19, .iconst 2, 20, .iconst 2), (20, .ireturn, 21, .ireturn), (21, .iconst 0, 22, .iconst 0), (22, .ireturn, 23, .ireturn)]]
/-- RecordReconcilerLaw.groupSize(LRecordReconciler;CI[J)I -/
noncomputable def ct_197 : List (List (Nat × Instr × Nat × Instr)) := [[(0, .aload_n 3, 1, .aload 3), (1, .iconst 0, 2, .iconst 0), (2, .aload_n 0, 3, .aload 0), (3, .iload_n 1, 4, .iload 1), (4, .iload_n 2, 5, .iload 2), (5, .invokevirtual 102, 8, .invokeinterface 110 25), (8, .i2l, 9, .i2l), (9, .lastore, 10, .lastore), (10, .goto 11, 13, .goto 21), (13, .astore 4, 15, .astore 4), (15, .iconst 1, 16, .iconst 1), (16, .ireturn, 17, .ireturn), (17, .astore 4, 19, .astore 4), (19, .iconst 2, 20, .iconst 2), (20, .ireturn, 21, .ireturn), (21, .iconst 0, 22, .iconst 0), (22, .ireturn, 23, .ireturn)]]
/-- RecordReconcilerLaw.hasRecord(LRecordReconciler;CI[J)I -/
noncomputable def ct_198 : List (List (Nat × Instr × Nat × Instr)) := [[(0, .aload_n 3, 1, .aload 3), (1, .iconst 0, 2, .iconst 0), (2, .aload_n 0, 3, .aload 0), (3, .iload_n 1, 4, .iload 1), (4, .iload_n 2, 5, .iload 2), (5, .invokevirtual 56, 8, .invokeinterface 111 25), (8, .ifCond .eq 7, 11, .ifCond .eq 15), (11, .lconst 1, 12, .lconst 1), (12, .goto 4, 15, .goto 16), (15, .lconst 0, 16, .lconst 0), (16, .lastore, 17, .lastore), (17, .goto 7, 20, .goto 24), (20, .astore 4, 22, .astore 4), (22, .iconst 1, 23, .iconst 1), (23, .ireturn, 24, .ireturn), (24, .iconst 0, 25, .iconst 0), (25, .ireturn, 26, .ireturn)]]
/-- RecordReconcilerLaw.isNeeded(LRecordReconciler;CIC[J)I -/
noncomputable def ct_199 : List (List (Nat × Instr × Nat × Instr)) := [[(0, .aload 4, 2, .aload 4), (2, .iconst 0, 3, .iconst 0), (3, .aload_n 0, 4, .aload 0), (4, .iload_n 1, 5, .iload 1), (5, .iload_n 2, 6, .iload 2), (6, .iload_n 3, 7, .iload 3), (7, .invokevirtual 98, 10, .invokeinterface 126 33), (10, .ifCond .eq 7, 13, .ifCond .eq 17), (13, .lconst 1, 14, .lconst 1), (14, .goto 4, 17, .goto 18), (17, .lconst 0, 18, .lconst 0), (18, .lastore, 19, .lastore), (19, .goto 11, 22, .goto 30), (22, .astore 5, 24, .astore 5), (24, .iconst 1, 25, .iconst 1), (25, .ireturn, 26, .ireturn), (26, .astore 5, 28, .astore 5), (28, .iconst 2, 29, .iconst 2), (29, .ireturn, 30, .ireturn), (30, .iconst 0, 31, .iconst 0), (31, .ireturn, 32, .ireturn)]]
/-- RecordReconcilerLaw.isPossiblePair(LRecordReconciler;CICI[J)I -/
noncomputable def ct_200 : List (List (Nat × Instr × Nat × Instr)) := [[(0, .aload 5, 2, .aload 5), (2, .iconst 0, 3, .iconst 0), (3, .aload_n 0, 4, .aload 0), (4, .iload_n 1, 5, .iload 1), (5, .iload_n 2, 6, .iload 2), (6, .iload_n 3, 7, .iload 3), (7, .iload 4, 9, .iload 4), (9, .invokevirtual 84, 12, .invokeinterface 127 41), (12, .ifCond .eq 7, 15, .ifCond .eq 19), (15, .lconst 1, 16, .lconst 1), (16, .goto 4, 19, .goto 20), (19, .lconst 0, 20, .lconst 0), (20, .lastore, 21, .lastore), (21, .goto 11, 24, .goto 32), (24, .astore 6, 26, .astore 6), (26, .iconst 1, 27, .iconst 1), (27, .ireturn, 28, .ireturn), (28, .astore 6, 30, .astore 6), (30, .iconst 2, 31, .iconst 2), (31, .ireturn, 32, .ireturn), (32, .iconst 0, 33, .iconst 0), (33, .ireturn, 34, .ireturn)]]
/-- RecordReconcilerLaw.keyAt(LRecordReconciler;CI[J)I -/
noncomputable def ct_201 : List (List (Nat × Instr × Nat × Instr)) := [[(0, .aload_n 3, 1, .aload 3), (1, .iconst 0, 2, .iconst 0), (2, .aload_n 0, 3, .aload 0), (3, .iload_n 1, 4, .iload 1), (4, .iload_n 2, 5, .iload 2), (5, .invokevirtual 66, 8, .invokeinterface 129 25), (8, .i2l, 9, .i2l), (9, .lastore, 10, .lastore), (10, .goto 11, 13, .goto 21), (13, .astore 4, 15, .astore 4), (15, .iconst 1, 16, .iconst 1), (16, .ireturn, 17, .ireturn), (17, .astore 4, 19, .astore 4), (19, .iconst 2, 20, .iconst 2), (20, .ireturn, 21, .ireturn), (21, .iconst 0, 22, .iconst 0), (22, .ireturn, 23, .ireturn)]]
/-- RecordReconcilerModel.<init>()V -/
noncomputable def ct_202 : List (List (Nat × Instr × Nat × Instr)) := [[(0, .aload_n 0, 1, .aload 0), (1, .invokespecial 3, 4, .invokespecial 0), (4, .aload_n 0, 5, .aload 0), (5, .sipush 169, 8, .iconst 169), (8, .newarray .int, 10, .newarray .int), (10, .putfield 9, 13, .putfield 577), (13, .aload_n 0, 14, .aload 0), (14, .sipush 169, 17, .iconst 169), (17, .newarray .int, 19, .newarray .int), (19, .putfield 13, 22, .putfield 579), (22, .aload_n 0, 23, .aload 0), (23, .sipush 169, 26, .iconst 169), (26, .newarray .int, 28, .newarray .int), (28, .putfield 16, 31, .putfield 581), (31, .aload_n 0, 32, .aload 0), (32, .sipush 1352, 35, .iconst 1352), (35, .newarray .int, 37, .newarray .int), (37, .putfield 19, 40, .putfield 583), (40, .aload_n 0, 41, .aload 0), (41, .iconst (-1), 42, .iconst (-1)), (42, .putfield 22, 45, .putfield 588), (45, .aload_n 0, 46, .aload 0), (46, .iconst (-1), 47, .iconst (-1)), (47, .putfield 26, 50, .putfield 590), (50, .aload_n 0, 51, .aload 0), (51, .bipush 30, 53, .iconst 30), (53, .newarray .int, 55, .newarray .int), (55, .putfield 29, 58, .putfield 593), (58, .aload_n 0, 59, .aload 0), (59, .bipush 30, 61, .iconst 30), (61, .newarray .int, 63, .newarray .int), (63, .putfield 32, 66, .putfield 595)],
  [(66, .aload_n 0, 67, .aload 0), (67, .bipush 30, 69, .iconst 30), (69, .newarray .int, 71, .newarray .int), (71, .putfield 35, 74, .putfield 597), (74, .aload_n 0, 75, .aload 0), (75, .bipush 30, 77, .iconst 30), (77, .newarray .int, 79, .newarray .int), (79, .putfield 38, 82, .putfield 599), (82, .aload_n 0, 83, .aload 0), (83, .bipush 60, 85, .iconst 60), (85, .newarray .int, 87, .newarray .int), (87, .putfield 41, 90, .putfield 601), (90, .aload_n 0, 91, .aload 0), (91, .sipush 160, 94, .iconst 160), (94, .newarray .int, 96, .newarray .int), (96, .putfield 44, 99, .putfield 605), (99, .aload_n 0, 100, .aload 0), (100, .bipush 120, 102, .iconst 120), (102, .newarray .int, 104, .newarray .int), (104, .putfield 47, 107, .putfield 619), (107, .iconst 0, 108, .iconst 0), (108, .istore_n 1, 109, .istore 1), (109, .iload_n 1, 110, .iload 1), (110, .iconst 3, 111, .iconst 3), (111, .if_icmp .ge 19, 114, .if_icmp .ge 130), (114, .aload_n 0, 115, .aload 0), (115, .getfield 9, 118, .getfield 577), (118, .bipush 10, 120, .iconst 10), (120, .iload_n 1, 121, .iload 1), (121, .iadd, 122, .iadd), (122, .iconst 5, 123, .iconst 5), (123, .iastore, 124, .iastore), (124, .iinc 1 1, 127, .iinc 1 1), (127, .goto (-18), 130, .goto 109)],
  [(130, .return_, 131, .return_)]]
/-- RecordReconcilerLaw.report(LRecordReconciler;CII[J)I -/
noncomputable def ct_203 : List (List (Nat × Instr × Nat × Instr)) := [[(0, .aload 4, 2, .aload 4), (2, .iconst 0, 3, .iconst 0), (3, .aload_n 0, 4, .aload 0), (4, .iload_n 1, 5, .iload 1), (5, .iload_n 2, 6, .iload 2), (6, .iload_n 3, 7, .iload 3), (7, .invokevirtual 7, 10, .invokeinterface 155 33), (10, .i2l, 11, .i2l), (11, .lastore, 12, .lastore), (12, .goto 11, 15, .goto 23), (15, .astore 5, 17, .astore 5), (17, .iconst 1, 18, .iconst 1), (18, .ireturn, 19, .ireturn), (19, .astore 5, 21, .astore 5), (21, .iconst 2, 22, .iconst 2), (22, .ireturn, 23, .ireturn), (23, .iconst 0, 24, .iconst 0), (24, .ireturn, 25, .ireturn)]]
/-- RecordReconcilerModel.copies([II[II)V -/
noncomputable def ct_204 : List (List (Nat × Instr × Nat × Instr)) := [[(0, .iconst 0, 1, .iconst 0), (1, .istore 4, 3, .istore 4), (3, .iload 4, 5, .iload 4), (5, .sipush 169, 8, .iconst 169), (8, .if_icmp .ge 21, 11, .if_icmp .ge 29), (11, .aload_n 2, 12, .aload 2), (12, .iload_n 3, 13, .iload 3), (13, .iload 4, 15, .iload 4), (15, .iadd, 16, .iadd), (16, .aload_n 0, 17, .aload 0), (17, .iload_n 1, 18, .iload 1), (18, .iload 4, 20, .iload 4), (20, .iadd, 21, .iadd), (21, .iaload, 22, .iaload), (22, .iastore, 23, .iastore), (23, .iinc 4 1, 26, .iinc 4 1), (26, .goto (-23), 29, .goto 3), (29, .return_, 30, .return_)]]
/-- RecordReconcilerModel.begins()V -/
noncomputable def ct_205 : List (List (Nat × Instr × Nat × Instr)) := [[(0, .aload_n 0, 1, .aload 0), (1, .getfield 9, 4, .getfield 577), (4, .iconst 0, 5, .iconst 0), (5, .aload_n 0, 6, .aload 0), (6, .getfield 13, 9, .getfield 579), (9, .iconst 0, 10, .iconst 0), (10, .invokestatic 57, 13, .invokeinterface 204 32), (13, .return_, 14, .return_)]]
/-- RecordReconcilerModel.isIn(III)Z -/
noncomputable def ct_206 : List (List (Nat × Instr × Nat × Instr)) := [[(0, .iload_n 0, 1, .iload 0), (1, .iload_n 1, 2, .iload 1), (2, .if_icmp .lt 12, 5, .if_icmp .lt 14), (5, .iload_n 0, 6, .iload 0), (6, .iload_n 2, 7, .iload 2), (7, .if_icmp .gt 7, 10, .if_icmp .gt 14), (10, .iconst 1, 11, .iconst 1), (11, .goto 4, 14, .goto 15), (14, .iconst 0, 15, .iconst 0), (15, .ireturn, 16, .ret 1)]]
/-- RecordReconcilerModel.isSource(I)Z -/
noncomputable def ct_207 : List (List (Nat × Instr × Nat × Instr)) := [[(0, .iload_n 0, 1, .iload 0), (1, .bipush 97, 3, .iconst 97), (3, .bipush 99, 5, .iconst 99), (5, .invokestatic 75, 8, .invokeinterface 206 25), (8, .ireturn, 9, .ret 1)]]
/-- RecordReconcilerModel.isKey(I)Z -/
noncomputable def ct_208 : List (List (Nat × Instr × Nat × Instr)) := [[(0, .iload_n 0, 1, .iload 0), (1, .iconst 0, 2, .iconst 0), (2, .sipush 999, 5, .iconst 999), (5, .invokestatic 75, 8, .invokeinterface 206 25), (8, .ireturn, 9, .ret 1)]]
/-- RecordReconcilerModel.isReport(III)Z -/
noncomputable def ct_209 : List (List (Nat × Instr × Nat × Instr)) := [[(0, .iload_n 0, 1, .iload 0), (1, .invokestatic 79, 4, .invokeinterface 207 9), (4, .ifCond .eq 24, 7, .ifCond .eq 28), (7, .iload_n 1, 8, .iload 1), (8, .invokestatic 83, 11, .invokeinterface 208 9), (11, .ifCond .eq 17, 14, .ifCond .eq 28), (14, .iload_n 2, 15, .iload 2), (15, .iconst 1, 16, .iconst 1), (16, .bipush 99, 18, .iconst 99), (18, .invokestatic 75, 21, .invokeinterface 206 25), (21, .ifCond .eq 7, 24, .ifCond .eq 28), (24, .iconst 1, 25, .iconst 1), (25, .goto 4, 28, .goto 29), (28, .iconst 0, 29, .iconst 0), (29, .ireturn, 30, .ret 1)]]
/-- RecordReconcilerModel.holds(ZZZ)Z -/
noncomputable def ct_210 : List (List (Nat × Instr × Nat × Instr)) := [[(0, .aload_n 0, 1, .aload 0), (1, .iload_n 1, 2, .iload 1), (2, .ifCond .ne 7, 5, .ifCond .ne 9), (5, .iconst 1, 6, .iconst 1), (6, .goto 20, 9, .goto 26), (9, .iload_n 2, 10, .iload 2), (10, .ifCond .ne 7, 13, .ifCond .ne 17), (13, .iconst 2, 14, .iconst 2), (14, .goto 12, 17, .goto 26), (17, .iload_n 3, 18, .iload 3), (18, .ifCond .ne 7, 21, .ifCond .ne 25), (21, .iconst 3, 22, .iconst 3), (22, .goto 4, 25, .goto 26), (25, .iconst 0, 26, .iconst 0), (26, .putfield 50, 29, .putfield 608), (29, .aload_n 0, 30, .aload 0), (30, .getfield 50, 33, .getfield 608), (33, .ifCond .ne 7, 36, .ifCond .ne 40), (36, .iconst 1, 37, .iconst 1), (37, .goto 4, 40, .goto 41), (40, .iconst 0, 41, .iconst 0), (41, .ireturn, 42, .ret 1)]]
/-- RecordReconcilerModel.reports(III)I -/
noncomputable def ct_211 : List (List (Nat × Instr × Nat × Instr)) := [[(0, .aload_n 0, 1, .aload 0), (1, .iload_n 1, 2, .iload 1), (2, .iload_n 2, 3, .iload 2), (3, .iload_n 3, 4, .iload 3), (4, .invokestatic 103, 7, .invokeinterface 209 25), (7, .aload_n 0, 8, .aload 0), (8, .getfield 9, 11, .getfield 577), (11, .iconst 2, 12, .iconst 2), (12, .iaload, 13, .iaload), (13, .bipush 12, 15, .iconst 12), (15, .if_icmp .ge 7, 18, .if_icmp .ge 22), (18, .iconst 1, 19, .iconst 1), (19, .goto 4, 22, .goto 23), (22, .iconst 0, 23, .iconst 0), (23, .iconst 1, 24, .iconst 1), (24, .invokevirtual 53, 27, .invokeinterface 210 33), (27, .ifCond .ne 5, 30, .ifCond .ne 32), (30, .iconst 0, 31, .iconst 0), (31, .ireturn, 32, .ireturn), (32, .sipush 133, 35, .iconst 133), (35, .iconst 3, 36, .iconst 3), (36, .aload_n 0, 37, .aload 0), (37, .getfield 9, 40, .getfield 577), (40, .iconst 2, 41, .iconst 2), (41, .iaload, 42, .iaload), (42, .imul, 43, .imul), (43, .iadd, 44, .iadd), (44, .istore 4, 46, .istore 4), (46, .aload_n 0, 47, .aload 0), (47, .getfield 9, 50, .getfield 577), (50, .iload 4, 52, .iload 4), (52, .iconst 0, 53, .iconst 0), (53, .iadd, 54, .iadd), (54, .iload_n 1, 55, .iload 1), (55, .iastore, 56, .iastore), (56, .aload_n 0, 57, .aload 0), (57, .getfield 9, 60, .getfield 577), (60, .iload 4, 62, .iload 4), (62, .iconst 1, 63, .iconst 1), (63, .iadd, 64, .iadd)],
  [(64, .iload_n 2, 65, .iload 2), (65, .iastore, 66, .iastore), (66, .aload_n 0, 67, .aload 0), (67, .getfield 9, 70, .getfield 577), (70, .iload 4, 72, .iload 4), (72, .iconst 2, 73, .iconst 2), (73, .iadd, 74, .iadd), (74, .iload_n 3, 75, .iload 3), (75, .iastore, 76, .iastore), (76, .aload_n 0, 77, .aload 0), (77, .getfield 9, 80, .getfield 577), (80, .iconst 2, 81, .iconst 2), (81, .dup2, 82, .dup2), (82, .iaload, 83, .iaload), (83, .iconst 1, 84, .iconst 1), (84, .iadd, 85, .iadd), (85, .iastore, 86, .iastore), (86, .aload_n 0, 87, .aload 0), (87, .getfield 9, 90, .getfield 577), (90, .iconst 2, 91, .iconst 2), (91, .iaload, 92, .iaload), (92, .ireturn, 93, .ireturn)]]
/-- RecordReconcilerModel.remembers()V -/
noncomputable def ct_212 : List (List (Nat × Instr × Nat × Instr)) := [[(0, .aload_n 0, 1, .aload 0), (1, .getfield 61, 4, .getfield 586), (4, .bipush 8, 6, .iconst 8), (6, .if_icmp .ne 44, 9, .if_icmp .ne 50), (9, .iconst 0, 10, .iconst 0), (10, .istore_n 1, 11, .istore 1), (11, .iload_n 1, 12, .iload 1), (12, .sipush 1183, 15, .iconst 1183), (15, .if_icmp .ge 25, 18, .if_icmp .ge 40), (18, .aload_n 0, 19, .aload 0), (19, .getfield 19, 22, .getfield 583), (22, .iload_n 1, 23, .iload 1), (23, .aload_n 0, 24, .aload 0), (24, .getfield 19, 27, .getfield 583), (27, .iload_n 1, 28, .iload 1), (28, .sipush 169, 31, .iconst 169), (31, .iadd, 32, .iadd), (32, .iaload, 33, .iaload), (33, .iastore, 34, .iastore), (34, .iinc 1 1, 37, .iinc 1 1), (37, .goto (-26), 40, .goto 11), (40, .aload_n 0, 41, .aload 0), (41, .dup, 42, .dup), (42, .getfield 61, 45, .getfield 586), (45, .iconst 1, 46, .iconst 1), (46, .isub, 47, .isub), (47, .putfield 61, 50, .putfield 586), (50, .aload_n 0, 51, .aload 0), (51, .getfield 13, 54, .getfield 579), (54, .iconst 0, 55, .iconst 0), (55, .aload_n 0, 56, .aload 0), (56, .getfield 19, 59, .getfield 583), (59, .aload_n 0, 60, .aload 0), (60, .getfield 61, 63, .getfield 586), (63, .sipush 169, 66, .iconst 169)],
  [(66, .imul, 67, .imul), (67, .invokestatic 57, 70, .invokeinterface 204 32), (70, .aload_n 0, 71, .aload 0), (71, .dup, 72, .dup), (72, .getfield 61, 75, .getfield 586), (75, .iconst 1, 76, .iconst 1), (76, .iadd, 77, .iadd), (77, .putfield 61, 80, .putfield 586), (80, .return_, 81, .return_)]]
/-- RecordReconcilerModel.ends(I)I -/
noncomputable def ct_213 : List (List (Nat × Instr × Nat × Instr)) := [[(0, .aload_n 0, 1, .aload 0), (1, .getfield 50, 4, .getfield 608), (4, .ifCond .eq 18, 7, .ifCond .eq 22), (7, .aload_n 0, 8, .aload 0), (8, .getfield 13, 11, .getfield 579), (11, .iconst 0, 12, .iconst 0), (12, .aload_n 0, 13, .aload 0), (13, .getfield 9, 16, .getfield 577), (16, .iconst 0, 17, .iconst 0), (17, .invokestatic 57, 20, .invokeinterface 204 32), (20, .iconst 0, 21, .iconst 0), (21, .ireturn, 22, .ireturn), (22, .aload_n 0, 23, .aload 0), (23, .invokevirtual 64, 26, .invokeinterface 212 8), (26, .iload_n 1, 27, .iload 1), (27, .ireturn, 28, .ireturn)]]
/-- RecordReconcilerModel.report(CII)I -/
noncomputable def ct_214 : List (List (Nat × Instr × Nat × Instr)) := [[(0, .aload_n 0, 1, .aload 0), (1, .invokevirtual 106, 4, .invokeinterface 205 8), (4, .aload_n 0, 5, .aload 0), (5, .aload_n 0, 6, .aload 0), (6, .iload_n 1, 7, .iload 1), (7, .iload_n 2, 8, .iload 2), (8, .iload_n 3, 9, .iload 3), (9, .invokevirtual 109, 12, .invokeinterface 211 33), (12, .invokevirtual 113, 15, .invokeinterface 213 17), (15, .ireturn, 16, .ireturn)]]
/-- RecordReconcilerModel.thrown()I -/
noncomputable def ct_215 : List (List (Nat × Instr × Nat × Instr)) := [[(0, .aload_n 0, 1, .aload 0), (1, .getfield 50, 4, .getfield 608), (4, .ireturn, 5, .ireturn)]]
/-- RecordReconcilerLaw.withdraw(LRecordReconciler;CII[J)I -/
noncomputable def ct_216 : List (List (Nat × Instr × Nat × Instr)) := [[(0, .aload 4, 2, .aload 4), (2, .iconst 0, 3, .iconst 0), (3, .aload_n 0, 4, .aload 0), (4, .iload_n 1, 5, .iload 1), (5, .iload_n 2, 6, .iload 2), (6, .iload_n 3, 7, .iload 3), (7, .invokevirtual 17, 10, .invokeinterface 184 33), (10, .i2l, 11, .i2l), (11, .lastore, 12, .lastore), (12, .goto 11, 15, .goto 23), (15, .astore 5, 17, .astore 5), (17, .iconst 1, 18, .iconst 1), (18, .ireturn, 19, .ireturn), (19, .astore 5, 21, .astore 5), (21, .iconst 2, 22, .iconst 2), (22, .ireturn, 23, .ireturn), (23, .iconst 0, 24, .iconst 0), (24, .ireturn, 25, .ireturn)]]
/-- RecordReconcilerModel.ofReport(II)I -/
noncomputable def ct_217 : List (List (Nat × Instr × Nat × Instr)) := [[(0, .aload_n 0, 1, .aload 0), (1, .getfield 9, 4, .getfield 577), (4, .sipush 133, 7, .iconst 133), (7, .iconst 3, 8, .iconst 3), (8, .iload_n 1, 9, .iload 1), (9, .imul, 10, .imul), (10, .iadd, 11, .iadd), (11, .iload_n 2, 12, .iload 2), (12, .iadd, 13, .iadd), (13, .iaload, 14, .iaload), (14, .ireturn, 15, .ireturn)]]
/-- RecordReconcilerModel.takes(III)I -/
noncomputable def ct_218 : List (List (Nat × Instr × Nat × Instr)) := [[(0, .iconst (-1), 1, .iconst (-1)), (1, .istore 4, 3, .istore 4), (3, .iconst 0, 4, .iconst 0), (4, .istore 5, 6, .istore 5), (6, .iload 5, 8, .iload 5), (8, .aload_n 0, 9, .aload 0), (9, .getfield 9, 12, .getfield 577), (12, .iconst 2, 13, .iconst 2), (13, .iaload, 14, .iaload), (14, .if_icmp .ge 63, 17, .if_icmp .ge 77), (17, .aload_n 0, 18, .aload 0), (18, .iload 5, 20, .iload 5), (20, .iconst 0, 21, .iconst 0), (21, .invokevirtual 90, 24, .invokeinterface 217 25), (24, .iload_n 1, 25, .iload 1), (25, .if_icmp .ne 29, 28, .if_icmp .ne 54), (28, .aload_n 0, 29, .aload 0), (29, .iload 5, 31, .iload 5), (31, .iconst 1, 32, .iconst 1), (32, .invokevirtual 90, 35, .invokeinterface 217 25), (35, .iload_n 2, 36, .iload 2), (36, .if_icmp .ne 18, 39, .if_icmp .ne 54), (39, .aload_n 0, 40, .aload 0), (40, .iload 5, 42, .iload 5), (42, .iconst 2, 43, .iconst 2), (43, .invokevirtual 90, 46, .invokeinterface 217 25), (46, .iload_n 3, 47, .iload 3), (47, .if_icmp .ne 7, 50, .if_icmp .ne 54), (50, .iconst 1, 51, .iconst 1), (51, .goto 4, 54, .goto 55), (54, .iconst 0, 55, .iconst 0), (55, .istore 6, 57, .istore 6), (57, .iload 6, 59, .iload 6), (59, .ifCond .eq 8, 62, .ifCond .eq 67), (62, .iload 5, 64, .iload 5)],
  [(64, .goto 5, 67, .goto 69), (67, .iload 4, 69, .iload 4), (69, .istore 4, 71, .istore 4), (71, .iinc 5 1, 74, .iinc 5 1), (74, .goto (-68), 77, .goto 6), (77, .aload_n 0, 78, .aload 0), (78, .iload_n 1, 79, .iload 1), (79, .iload_n 2, 80, .iload 2), (80, .iload_n 3, 81, .iload 3), (81, .invokestatic 103, 84, .invokeinterface 209 25), (84, .iload 4, 86, .iload 4), (86, .iconst (-1), 87, .iconst (-1)), (87, .if_icmp .eq 7, 90, .if_icmp .eq 94), (90, .iconst 1, 91, .iconst 1), (91, .goto 4, 94, .goto 95), (94, .iconst 0, 95, .iconst 0), (95, .iconst 1, 96, .iconst 1), (96, .invokevirtual 53, 99, .invokeinterface 210 33), (99, .ifCond .ne 5, 102, .ifCond .ne 104), (102, .iconst 0, 103, .iconst 0), (103, .ireturn, 104, .ireturn), (104, .sipush 133, 107, .iconst 133), (107, .iconst 3, 108, .iconst 3), (108, .iload 4, 110, .iload 4), (110, .imul, 111, .imul), (111, .iadd, 112, .iadd), (112, .istore 5, 114, .istore 5), (114, .iload 5, 116, .iload 5), (116, .sipush 166, 119, .iconst 166), (119, .if_icmp .ge 25, 122, .if_icmp .ge 144), (122, .aload_n 0, 123, .aload 0), (123, .getfield 9, 126, .getfield 577), (126, .iload 5, 128, .iload 5)],
  [(128, .aload_n 0, 129, .aload 0), (129, .getfield 9, 132, .getfield 577), (132, .iload 5, 134, .iload 5), (134, .iconst 3, 135, .iconst 3), (135, .iadd, 136, .iadd), (136, .iaload, 137, .iaload), (137, .iastore, 138, .iastore), (138, .iinc 5 1, 141, .iinc 5 1), (141, .goto (-27), 144, .goto 114), (144, .aload_n 0, 145, .aload 0), (145, .getfield 9, 148, .getfield 577), (148, .iconst 2, 149, .iconst 2), (149, .dup2, 150, .dup2), (150, .iaload, 151, .iaload), (151, .iconst 1, 152, .iconst 1), (152, .isub, 153, .isub), (153, .iastore, 154, .iastore), (154, .aload_n 0, 155, .aload 0), (155, .getfield 9, 158, .getfield 577), (158, .iconst 2, 159, .iconst 2), (159, .iaload, 160, .iaload), (160, .ireturn, 161, .ireturn)]]
/-- RecordReconcilerModel.withdraw(CII)I -/
noncomputable def ct_219 : List (List (Nat × Instr × Nat × Instr)) := [[(0, .aload_n 0, 1, .aload 0), (1, .invokevirtual 106, 4, .invokeinterface 205 8), (4, .aload_n 0, 5, .aload 0), (5, .aload_n 0, 6, .aload 0), (6, .iload_n 1, 7, .iload 1), (7, .iload_n 2, 8, .iload 2), (8, .iload_n 3, 9, .iload 3), (9, .invokevirtual 116, 12, .invokeinterface 218 33), (12, .invokevirtual 113, 15, .invokeinterface 213 17), (15, .ireturn, 16, .ireturn)]]
/-- RecordReconcilerModel.of(II)I -/
noncomputable def ct_220 : List (List (Nat × Instr × Nat × Instr)) := [[(0, .aload_n 0, 1, .aload 0), (1, .getfield 9, 4, .getfield 577), (4, .bipush 13, 6, .iconst 13), (6, .iconst 4, 7, .iconst 4), (7, .iload_n 1, 8, .iload 1), (8, .imul, 9, .imul), (9, .iadd, 10, .iadd), (10, .iload_n 2, 11, .iload 2), (11, .iadd, 12, .iadd), (12, .iaload, 13, .iaload), (13, .ireturn, 14, .ireturn)]]
/-- RecordReconcilerModel.find(II)I -/
noncomputable def ct_221 : List (List (Nat × Instr × Nat × Instr)) := [[(0, .iconst (-1), 1, .iconst (-1)), (1, .istore_n 3, 2, .istore 3), (2, .iconst 0, 3, .iconst 0), (3, .istore 4, 5, .istore 4), (5, .iload 4, 7, .iload 4), (7, .aload_n 0, 8, .aload 0), (8, .getfield 9, 11, .getfield 577), (11, .iconst 1, 12, .iconst 1), (12, .iaload, 13, .iaload), (13, .if_icmp .ge 38, 16, .if_icmp .ge 51), (16, .aload_n 0, 17, .aload 0), (17, .iload 4, 19, .iload 4), (19, .iconst 0, 20, .iconst 0), (20, .invokevirtual 86, 23, .invokeinterface 220 25), (23, .iload_n 1, 24, .iload 1), (24, .if_icmp .ne 19, 27, .if_icmp .ne 43), (27, .aload_n 0, 28, .aload 0), (28, .iload 4, 30, .iload 4), (30, .iconst 1, 31, .iconst 1), (31, .invokevirtual 86, 34, .invokeinterface 220 25), (34, .iload_n 2, 35, .iload 2), (35, .if_icmp .ne 8, 38, .if_icmp .ne 43), (38, .iload 4, 40, .iload 4), (40, .goto 4, 43, .goto 44), (43, .iload_n 3, 44, .iload 3), (44, .istore_n 3, 45, .istore 3), (45, .iinc 4 1, 48, .iinc 4 1), (48, .goto (-43), 51, .goto 5), (51, .iload_n 3, 52, .iload 3), (52, .ireturn, 53, .ireturn)]]
/-- RecordReconcilerModel.outcome(I)I -/
noncomputable def ct_222 : List (List (Nat × Instr × Nat × Instr)) := [[(0, .aload_n 0, 1, .aload 0), (1, .iload_n 1, 2, .iload 1), (2, .iconst 0, 3, .iconst 0), (3, .invokevirtual 90, 6, .invokeinterface 217 25), (6, .istore_n 2, 7, .istore 2), (7, .aload_n 0, 8, .aload 0), (8, .iload_n 1, 9, .iload 1), (9, .iconst 1, 10, .iconst 1), (10, .invokevirtual 90, 13, .invokeinterface 217 25), (13, .istore_n 3, 14, .istore 3), (14, .aload_n 0, 15, .aload 0), (15, .iload_n 2, 16, .iload 2), (16, .iload_n 3, 17, .iload 3), (17, .invokevirtual 93, 20, .invokeinterface 221 25), (20, .istore 4, 22, .istore 4), (22, .iload 4, 24, .iload 4), (24, .iconst (-1), 25, .iconst (-1)), (25, .if_icmp .ne 7, 28, .if_icmp .ne 32), (28, .iconst (-1), 29, .iconst (-1)), (29, .goto 10, 32, .goto 39), (32, .aload_n 0, 33, .aload 0), (33, .iload 4, 35, .iload 4), (35, .iconst 2, 36, .iconst 2), (36, .invokevirtual 86, 39, .invokeinterface 220 25), (39, .istore 5, 41, .istore 5), (41, .iconst 0, 42, .iconst 0), (42, .istore 6, 44, .istore 6), (44, .iload 6, 46, .iload 6), (46, .iload_n 1, 47, .iload 1), (47, .if_icmp .ge 57, 50, .if_icmp .ge 104), (50, .aload_n 0, 51, .aload 0), (51, .iload 6, 53, .iload 6), (53, .iconst 0, 54, .iconst 0), (54, .invokevirtual 90, 57, .invokeinterface 217 25), (57, .iload_n 2, 58, .iload 2), (58, .if_icmp .ne 18, 61, .if_icmp .ne 76), (61, .aload_n 0, 62, .aload 0), (62, .iload 6, 64, .iload 6)],
  [(64, .iconst 1, 65, .iconst 1), (65, .invokevirtual 90, 68, .invokeinterface 217 25), (68, .iload_n 3, 69, .iload 3), (69, .if_icmp .ne 7, 72, .if_icmp .ne 76), (72, .iconst 1, 73, .iconst 1), (73, .goto 4, 76, .goto 77), (76, .iconst 0, 77, .iconst 0), (77, .istore 7, 79, .istore 7), (79, .iload 7, 81, .iload 7), (81, .ifCond .eq 13, 84, .ifCond .eq 94), (84, .aload_n 0, 85, .aload 0), (85, .iload 6, 87, .iload 6), (87, .iconst 2, 88, .iconst 2), (88, .invokevirtual 90, 91, .invokeinterface 217 25), (91, .goto 5, 94, .goto 96), (94, .iload 5, 96, .iload 5), (96, .istore 5, 98, .istore 5), (98, .iinc 6 1, 101, .iinc 6 1), (101, .goto (-57), 104, .goto 44), (104, .iload 5, 106, .iload 5), (106, .iconst (-1), 107, .iconst (-1)), (107, .if_icmp .ne 8, 110, .if_icmp .ne 115), (110, .bipush 110, 112, .iconst 110), (112, .goto 21, 115, .goto 133), (115, .iload 5, 117, .iload 5), (117, .aload_n 0, 118, .aload 0), (118, .iload_n 1, 119, .iload 1), (119, .iconst 2, 120, .iconst 2), (120, .invokevirtual 90, 123, .invokeinterface 217 25), (123, .if_icmp .ne 8, 126, .if_icmp .ne 131), (126, .bipush 100, 128, .iconst 100)],
  [(128, .goto 5, 131, .goto 133), (131, .bipush 99, 133, .iconst 99), (133, .ireturn, 134, .ireturn)]]
/-- RecordReconcilerModel.outcomes(I)I -/
noncomputable def ct_223 : List (List (Nat × Instr × Nat × Instr)) := [[(0, .iconst 0, 1, .iconst 0), (1, .istore_n 2, 2, .istore 2), (2, .iconst 0, 3, .iconst 0), (3, .istore_n 3, 4, .istore 3), (4, .iload_n 3, 5, .iload 3), (5, .aload_n 0, 6, .aload 0), (6, .getfield 9, 9, .getfield 577), (9, .iconst 2, 10, .iconst 2), (10, .iaload, 11, .iaload), (11, .if_icmp .ge 26, 14, .if_icmp .ge 37), (14, .iload_n 2, 15, .iload 2), (15, .aload_n 0, 16, .aload 0), (16, .iload_n 3, 17, .iload 3), (17, .invokevirtual 96, 20, .invokeinterface 222 17), (20, .iload_n 1, 21, .iload 1), (21, .if_icmp .ne 7, 24, .if_icmp .ne 28), (24, .iconst 1, 25, .iconst 1), (25, .goto 4, 28, .goto 29), (28, .iconst 0, 29, .iconst 0), (29, .iadd, 30, .iadd), (30, .istore_n 2, 31, .istore 2), (31, .iinc 3 1, 34, .iinc 3 1), (34, .goto (-30), 37, .goto 4), (37, .iload_n 2, 38, .iload 2), (38, .ireturn, 39, .ireturn)]]
/-- RecordReconcilerModel.closes()Z -/
noncomputable def ct_224 : List (List (Nat × Instr × Nat × Instr)) := [[(0, .aload_n 0, 1, .aload 0), (1, .getfield 9, 4, .getfield 577), (4, .iconst 1, 5, .iconst 1), (5, .iaload, 6, .iaload), (6, .aload_n 0, 7, .aload 0), (7, .bipush 110, 9, .iconst 110), (9, .invokevirtual 100, 12, .invokeinterface 223 17), (12, .iadd, 13, .iadd), (13, .bipush 30, 15, .iconst 30), (15, .if_icmp .gt 7, 18, .if_icmp .gt 22), (18, .iconst 1, 19, .iconst 1), (19, .goto 4, 22, .goto 23), (22, .iconst 0, 23, .iconst 0), (23, .ireturn, 24, .ret 1)]]
/-- RecordReconcilerModel.goes(Z)Z -/
noncomputable def ct_225 : List (List (Nat × Instr × Nat × Instr)) := [[(0, .aload_n 0, 1, .aload 0), (1, .iload_n 1, 2, .iload 1), (2, .iconst 1, 3, .iconst 1), (3, .iconst 1, 4, .iconst 1), (4, .invokevirtual 53, 7, .invokeinterface 210 33), (7, .ireturn, 8, .ret 1)]]
/-- RecordReconcilerModel.inserts(II)V -/
noncomputable def ct_226 : List (List (Nat × Instr × Nat × Instr)) := [[(0, .iconst 0, 1, .iconst 0), (1, .istore_n 3, 2, .istore 3), (2, .iconst 0, 3, .iconst 0), (3, .istore 4, 5, .istore 4), (5, .iload 4, 7, .iload 4), (7, .aload_n 0, 8, .aload 0), (8, .getfield 9, 11, .getfield 577), (11, .iconst 1, 12, .iconst 1), (12, .iaload, 13, .iaload), (13, .if_icmp .ge 62, 16, .if_icmp .ge 75), (16, .aload_n 0, 17, .aload 0), (17, .iload 4, 19, .iload 4), (19, .iconst 0, 20, .iconst 0), (20, .invokevirtual 86, 23, .invokeinterface 220 25), (23, .iload_n 1, 24, .iload 1), (24, .if_icmp .lt 25, 27, .if_icmp .lt 49), (27, .aload_n 0, 28, .aload 0), (28, .iload 4, 30, .iload 4), (30, .iconst 0, 31, .iconst 0), (31, .invokevirtual 86, 34, .invokeinterface 220 25), (34, .iload_n 1, 35, .iload 1), (35, .if_icmp .ne 18, 38, .if_icmp .ne 53), (38, .aload_n 0, 39, .aload 0), (39, .iload 4, 41, .iload 4), (41, .iconst 1, 42, .iconst 1), (42, .invokevirtual 86, 45, .invokeinterface 220 25), (45, .iload_n 2, 46, .iload 2), (46, .if_icmp .ge 7, 49, .if_icmp .ge 53), (49, .iconst 1, 50, .iconst 1), (50, .goto 4, 53, .goto 54), (53, .iconst 0, 54, .iconst 0), (54, .istore 5, 56, .istore 5), (56, .iload_n 3, 57, .iload 3), (57, .iload 5, 59, .iload 5), (59, .ifCond .eq 7, 62, .ifCond .eq 66), (62, .iconst 1, 63, .iconst 1), (63, .goto 4, 66, .goto 67)],
  [(66, .iconst 0, 67, .iconst 0), (67, .iadd, 68, .iadd), (68, .istore_n 3, 69, .istore 3), (69, .iinc 4 1, 72, .iinc 4 1), (72, .goto (-67), 75, .goto 5), (75, .sipush 132, 78, .iconst 132), (78, .istore 4, 80, .istore 4), (80, .iload 4, 82, .iload 4), (82, .bipush 13, 84, .iconst 13), (84, .iconst 4, 85, .iconst 4), (85, .iload_n 3, 86, .iload 3), (86, .iconst 1, 87, .iconst 1), (87, .iadd, 88, .iadd), (88, .imul, 89, .imul), (89, .iadd, 90, .iadd), (90, .if_icmp .lt 25, 93, .if_icmp .lt 115), (93, .aload_n 0, 94, .aload 0), (94, .getfield 9, 97, .getfield 577), (97, .iload 4, 99, .iload 4), (99, .aload_n 0, 100, .aload 0), (100, .getfield 9, 103, .getfield 577), (103, .iload 4, 105, .iload 4), (105, .iconst 4, 106, .iconst 4), (106, .isub, 107, .isub), (107, .iaload, 108, .iaload), (108, .iastore, 109, .iastore), (109, .iinc 4 (-1), 112, .iinc 4 (-1)), (112, .goto (-32), 115, .goto 80), (115, .aload_n 0, 116, .aload 0), (116, .getfield 9, 119, .getfield 577), (119, .bipush 13, 121, .iconst 13), (121, .iconst 4, 122, .iconst 4), (122, .iload_n 3, 123, .iload 3), (123, .imul, 124, .imul), (124, .iadd, 125, .iadd), (125, .iconst 0, 126, .iconst 0), (126, .iadd, 127, .iadd), (127, .iload_n 1, 128, .iload 1)],
  [(128, .iastore, 129, .iastore), (129, .aload_n 0, 130, .aload 0), (130, .getfield 9, 133, .getfield 577), (133, .bipush 13, 135, .iconst 13), (135, .iconst 4, 136, .iconst 4), (136, .iload_n 3, 137, .iload 3), (137, .imul, 138, .imul), (138, .iadd, 139, .iadd), (139, .iconst 1, 140, .iconst 1), (140, .iadd, 141, .iadd), (141, .iload_n 2, 142, .iload 2), (142, .iastore, 143, .iastore), (143, .aload_n 0, 144, .aload 0), (144, .getfield 9, 147, .getfield 577), (147, .iconst 1, 148, .iconst 1), (148, .dup2, 149, .dup2), (149, .iaload, 150, .iaload), (150, .iconst 1, 151, .iconst 1), (151, .iadd, 152, .iadd), (152, .iastore, 153, .iastore), (153, .return_, 154, .return_)]]
/-- RecordReconcilerModel.carries(III)V -/
noncomputable def ct_227 : List (List (Nat × Instr × Nat × Instr)) := [[(0, .aload_n 0, 1, .aload 0), (1, .iload_n 1, 2, .iload 1), (2, .iload_n 2, 3, .iload 2), (3, .invokevirtual 93, 6, .invokeinterface 221 25), (6, .iconst (-1), 7, .iconst (-1)), (7, .if_icmp .ne 7, 10, .if_icmp .ne 14), (10, .iconst 1, 11, .iconst 1), (11, .goto 4, 14, .goto 15), (14, .iconst 0, 15, .iconst 0), (15, .istore 4, 17, .istore 4), (17, .iload 4, 19, .iload 4), (19, .ifCond .eq 9, 22, .ifCond .eq 28), (22, .aload_n 0, 23, .aload 0), (23, .iload_n 1, 24, .iload 1), (24, .iload_n 2, 25, .iload 2), (25, .invokevirtual 127, 28, .invokeinterface 226 24), (28, .bipush 13, 30, .iconst 13), (30, .iconst 4, 31, .iconst 4), (31, .aload_n 0, 32, .aload 0), (32, .iload_n 1, 33, .iload 1), (33, .iload_n 2, 34, .iload 2), (34, .invokevirtual 93, 37, .invokeinterface 221 25), (37, .imul, 38, .imul), (38, .iadd, 39, .iadd), (39, .istore 5, 41, .istore 5), (41, .iload 4, 43, .iload 4), (43, .ifCond .ne 16, 46, .ifCond .ne 59), (46, .aload_n 0, 47, .aload 0), (47, .getfield 9, 50, .getfield 577), (50, .iload 5, 52, .iload 5), (52, .iconst 2, 53, .iconst 2), (53, .iadd, 54, .iadd), (54, .iaload, 55, .iaload), (55, .iload_n 3, 56, .iload 3), (56, .if_icmp .eq 28, 59, .if_icmp .eq 84), (59, .aload_n 0, 60, .aload 0), (60, .getfield 9, 63, .getfield 577), (63, .iload 5, 65, .iload 5)],
  [(65, .iconst 2, 66, .iconst 2), (66, .iadd, 67, .iadd), (67, .iload_n 3, 68, .iload 3), (68, .iastore, 69, .iastore), (69, .aload_n 0, 70, .aload 0), (70, .getfield 9, 73, .getfield 577), (73, .iload 5, 75, .iload 5), (75, .iconst 3, 76, .iconst 3), (76, .iadd, 77, .iadd), (77, .aload_n 0, 78, .aload 0), (78, .getfield 9, 81, .getfield 577), (81, .iconst 0, 82, .iconst 0), (82, .iaload, 83, .iaload), (83, .iastore, 84, .iastore), (84, .return_, 85, .return_)]]
/-- RecordReconcilerModel.closesAll()I -/
noncomputable def ct_228 : List (List (Nat × Instr × Nat × Instr)) := [[(0, .aload_n 0, 1, .aload 0), (1, .aload_n 0, 2, .aload 0), (2, .invokevirtual 119, 5, .invokeinterface 224 9), (5, .invokevirtual 67, 8, .invokeinterface 225 17), (8, .ifCond .ne 5, 11, .ifCond .ne 13), (11, .iconst 0, 12, .iconst 0), (12, .ireturn, 13, .ireturn), (13, .aload_n 0, 14, .aload 0), (14, .bipush 110, 16, .iconst 110), (16, .invokevirtual 100, 19, .invokeinterface 223 17), (19, .istore_n 1, 20, .istore 1), (20, .aload_n 0, 21, .aload 0), (21, .getfield 9, 24, .getfield 577), (24, .iconst 3, 25, .iconst 3), (25, .dup2, 26, .dup2), (26, .iaload, 27, .iaload), (27, .aload_n 0, 28, .aload 0), (28, .bipush 100, 30, .iconst 100), (30, .invokevirtual 100, 33, .invokeinterface 223 17), (33, .iadd, 34, .iadd), (34, .iastore, 35, .iastore), (35, .aload_n 0, 36, .aload 0), (36, .getfield 9, 39, .getfield 577), (39, .iconst 4, 40, .iconst 4), (40, .dup2, 41, .dup2), (41, .iaload, 42, .iaload), (42, .aload_n 0, 43, .aload 0), (43, .bipush 99, 45, .iconst 99), (45, .invokevirtual 100, 48, .invokeinterface 223 17), (48, .iadd, 49, .iadd), (49, .iastore, 50, .iastore), (50, .aload_n 0, 51, .aload 0), (51, .getfield 9, 54, .getfield 577), (54, .iconst 5, 55, .iconst 5), (55, .dup2, 56, .dup2), (56, .iaload, 57, .iaload), (57, .iload_n 1, 58, .iload 1), (58, .iadd, 59, .iadd), (59, .iastore, 60, .iastore), (60, .iconst 0, 61, .iconst 0), (61, .istore_n 2, 62, .istore 2), (62, .iload_n 2, 63, .iload 2), (63, .aload_n 0, 64, .aload 0)],
  [(64, .getfield 9, 67, .getfield 577), (67, .iconst 2, 68, .iconst 2), (68, .iaload, 69, .iaload), (69, .if_icmp .ge 31, 72, .if_icmp .ge 100), (72, .aload_n 0, 73, .aload 0), (73, .aload_n 0, 74, .aload 0), (74, .iload_n 2, 75, .iload 2), (75, .iconst 0, 76, .iconst 0), (76, .invokevirtual 90, 79, .invokeinterface 217 25), (79, .aload_n 0, 80, .aload 0), (80, .iload_n 2, 81, .iload 2), (81, .iconst 1, 82, .iconst 1), (82, .invokevirtual 90, 85, .invokeinterface 217 25), (85, .aload_n 0, 86, .aload 0), (86, .iload_n 2, 87, .iload 2), (87, .iconst 2, 88, .iconst 2), (88, .invokevirtual 90, 91, .invokeinterface 217 25), (91, .invokevirtual 123, 94, .invokeinterface 227 32), (94, .iinc 2 1, 97, .iinc 2 1), (97, .goto (-35), 100, .goto 62), (100, .aload_n 0, 101, .aload 0), (101, .getfield 9, 104, .getfield 577), (104, .iconst 2, 105, .iconst 2), (105, .iconst 0, 106, .iconst 0), (106, .iastore, 107, .iastore), (107, .aload_n 0, 108, .aload 0), (108, .getfield 9, 111, .getfield 577), (111, .bipush 7, 113, .iconst 7), (113, .dup2, 114, .dup2), (114, .iaload, 115, .iaload), (115, .iconst 1, 116, .iconst 1), (116, .iadd, 117, .iadd), (117, .iastore, 118, .iastore), (118, .aload_n 0, 119, .aload 0), (119, .getfield 9, 122, .getfield 577), (122, .iconst 0, 123, .iconst 0), (123, .dup2, 124, .dup2), (124, .iaload, 125, .iaload), (125, .iconst 1, 126, .iconst 1), (126, .iadd, 127, .iadd), (127, .iastore, 128, .iastore)],
  [(128, .iload_n 1, 129, .iload 1), (129, .ireturn, 130, .ireturn)]]
/-- RecordReconcilerModel.closeBatch()I -/
noncomputable def ct_229 : List (List (Nat × Instr × Nat × Instr)) := [[(0, .aload_n 0, 1, .aload 0), (1, .invokevirtual 106, 4, .invokeinterface 205 8), (4, .aload_n 0, 5, .aload 0), (5, .aload_n 0, 6, .aload 0), (6, .invokevirtual 131, 9, .invokeinterface 228 9), (9, .invokevirtual 113, 12, .invokeinterface 213 17), (12, .ireturn, 13, .ireturn)]]
/-- RecordReconcilerModel.rejects()I -/
noncomputable def ct_230 : List (List (Nat × Instr × Nat × Instr)) := [[(0, .aload_n 0, 1, .aload 0), (1, .iconst 0, 2, .iconst 0), (2, .putfield 50, 5, .putfield 608), (5, .aload_n 0, 6, .aload 0), (6, .getfield 9, 9, .getfield 577), (9, .iconst 2, 10, .iconst 2), (10, .iaload, 11, .iaload), (11, .istore_n 1, 12, .istore 1), (12, .aload_n 0, 13, .aload 0), (13, .getfield 9, 16, .getfield 577), (16, .iconst 2, 17, .iconst 2), (17, .iconst 0, 18, .iconst 0), (18, .iastore, 19, .iastore), (19, .aload_n 0, 20, .aload 0), (20, .getfield 9, 23, .getfield 577), (23, .bipush 8, 25, .iconst 8), (25, .dup2, 26, .dup2), (26, .iaload, 27, .iaload), (27, .iconst 1, 28, .iconst 1), (28, .iadd, 29, .iadd), (29, .iastore, 30, .iastore), (30, .aload_n 0, 31, .aload 0), (31, .getfield 9, 34, .getfield 577), (34, .iconst 0, 35, .iconst 0), (35, .dup2, 36, .dup2), (36, .iaload, 37, .iaload), (37, .iconst 1, 38, .iconst 1), (38, .iadd, 39, .iadd), (39, .iastore, 40, .iastore), (40, .iload_n 1, 41, .iload 1), (41, .ireturn, 42, .ireturn)]]
/-- RecordReconcilerModel.rejectBatch()I -/
noncomputable def ct_231 : List (List (Nat × Instr × Nat × Instr)) := [[(0, .aload_n 0, 1, .aload 0), (1, .invokevirtual 106, 4, .invokeinterface 205 8), (4, .aload_n 0, 5, .aload 0), (5, .aload_n 0, 6, .aload 0), (6, .invokevirtual 135, 9, .invokeinterface 230 9), (9, .invokevirtual 113, 12, .invokeinterface 213 17), (12, .ireturn, 13, .ireturn)]]
/-- RecordReconcilerLaw.settle(LRecordReconciler;CI[J)I -/
noncomputable def ct_232 : List (List (Nat × Instr × Nat × Instr)) := [[(0, .aload_n 3, 1, .aload 3), (1, .iconst 0, 2, .iconst 0), (2, .aload_n 0, 3, .aload 0), (3, .iload_n 1, 4, .iload 1), (4, .iload_n 2, 5, .iload 2), (5, .invokevirtual 26, 8, .invokeinterface 176 25), (8, .i2l, 9, .i2l), (9, .lastore, 10, .lastore), (10, .goto 15, 13, .goto 25), (13, .astore 4, 15, .astore 4), (15, .iconst 1, 16, .iconst 1), (16, .ireturn, 17, .ireturn), (17, .astore 4, 19, .astore 4), (19, .iconst 2, 20, .iconst 2), (20, .ireturn, 21, .ireturn), (21, .astore 4, 23, .astore 4), (23, .iconst 3, 24, .iconst 3), (24, .ireturn, 25, .ireturn), (25, .iconst 0, 26, .iconst 0), (26, .ireturn, 27, .ireturn)]]
/-- RecordReconcilerModel.withKey(I)I -/
noncomputable def ct_233 : List (List (Nat × Instr × Nat × Instr)) := [[(0, .iconst 0, 1, .iconst 0), (1, .istore_n 2, 2, .istore 2), (2, .iconst 0, 3, .iconst 0), (3, .istore_n 3, 4, .istore 3), (4, .iload_n 3, 5, .iload 3), (5, .aload_n 0, 6, .aload 0), (6, .getfield 9, 9, .getfield 577), (9, .iconst 1, 10, .iconst 1), (10, .iaload, 11, .iaload), (11, .if_icmp .ge 27, 14, .if_icmp .ge 38), (14, .iload_n 2, 15, .iload 2), (15, .aload_n 0, 16, .aload 0), (16, .iload_n 3, 17, .iload 3), (17, .iconst 1, 18, .iconst 1), (18, .invokevirtual 86, 21, .invokeinterface 220 25), (21, .iload_n 1, 22, .iload 1), (22, .if_icmp .ne 7, 25, .if_icmp .ne 29), (25, .iconst 1, 26, .iconst 1), (26, .goto 4, 29, .goto 30), (29, .iconst 0, 30, .iconst 0), (30, .iadd, 31, .iadd), (31, .istore_n 2, 32, .istore 2), (32, .iinc 3 1, 35, .iinc 3 1), (35, .goto (-31), 38, .goto 4), (38, .iload_n 2, 39, .iload 2), (39, .ireturn, 40, .ireturn)]]
/-- RecordReconcilerModel.withAmount(II)I -/
noncomputable def ct_234 : List (List (Nat × Instr × Nat × Instr)) := [[(0, .iconst 0, 1, .iconst 0), (1, .istore_n 3, 2, .istore 3), (2, .iconst 0, 3, .iconst 0), (3, .istore 4, 5, .istore 4), (5, .iload 4, 7, .iload 4), (7, .aload_n 0, 8, .aload 0), (8, .getfield 9, 11, .getfield 577), (11, .iconst 1, 12, .iconst 1), (12, .iaload, 13, .iaload), (13, .if_icmp .ge 39, 16, .if_icmp .ge 52), (16, .iload_n 3, 17, .iload 3), (17, .aload_n 0, 18, .aload 0), (18, .iload 4, 20, .iload 4), (20, .iconst 1, 21, .iconst 1), (21, .invokevirtual 86, 24, .invokeinterface 220 25), (24, .iload_n 1, 25, .iload 1), (25, .if_icmp .ne 18, 28, .if_icmp .ne 43), (28, .aload_n 0, 29, .aload 0), (29, .iload 4, 31, .iload 4), (31, .iconst 2, 32, .iconst 2), (32, .invokevirtual 86, 35, .invokeinterface 220 25), (35, .iload_n 2, 36, .iload 2), (36, .if_icmp .ne 7, 39, .if_icmp .ne 43), (39, .iconst 1, 40, .iconst 1), (40, .goto 4, 43, .goto 44), (43, .iconst 0, 44, .iconst 0), (44, .iadd, 45, .iadd), (45, .istore_n 3, 46, .istore 3), (46, .iinc 4 1, 49, .iinc 4 1), (49, .goto (-44), 52, .goto 5), (52, .iload_n 3, 53, .iload 3), (53, .ireturn, 54, .ireturn)]]
/-- RecordReconcilerModel.accepted(I)I -/
noncomputable def ct_235 : List (List (Nat × Instr × Nat × Instr)) := [[(0, .iconst 1, 1, .iconst 1), (1, .istore_n 2, 2, .istore 2), (2, .iconst 2, 3, .iconst 2), (3, .istore_n 3, 4, .istore 3), (4, .iload_n 3, 5, .iload 3), (5, .bipush 100, 7, .iconst 100), (7, .if_icmp .ge 30, 10, .if_icmp .ge 37), (10, .aload_n 0, 11, .aload 0), (11, .iload_n 1, 12, .iload 1), (12, .iload_n 3, 13, .iload 3), (13, .invokevirtual 170, 16, .invokeinterface 234 25), (16, .aload_n 0, 17, .aload 0), (17, .iload_n 1, 18, .iload 1), (18, .iload_n 2, 19, .iload 2), (19, .invokevirtual 170, 22, .invokeinterface 234 25), (22, .if_icmp .le 7, 25, .if_icmp .le 29), (25, .iload_n 3, 26, .iload 3), (26, .goto 4, 29, .goto 30), (29, .iload_n 2, 30, .iload 2), (30, .istore_n 2, 31, .istore 2), (31, .iinc 3 1, 34, .iinc 3 1), (34, .goto (-30), 37, .goto 4), (37, .iload_n 2, 38, .iload 2), (38, .ireturn, 39, .ireturn)]]
/-- RecordReconcilerModel.status(I)I -/
noncomputable def ct_236 : List (List (Nat × Instr × Nat × Instr)) := [[(0, .aload_n 0, 1, .aload 0), (1, .iload_n 1, 2, .iload 1), (2, .invokevirtual 173, 5, .invokeinterface 233 17), (5, .istore_n 2, 6, .istore 2), (6, .aload_n 0, 7, .aload 0), (7, .iload_n 1, 8, .iload 1), (8, .aload_n 0, 9, .aload 0), (9, .iload_n 1, 10, .iload 1), (10, .invokevirtual 176, 13, .invokeinterface 235 17), (13, .invokevirtual 170, 16, .invokeinterface 234 25), (16, .iload_n 2, 17, .iload 2), (17, .if_icmp .ge 8, 20, .if_icmp .ge 25), (20, .bipush 100, 22, .iconst 100), (22, .goto 15, 25, .goto 37), (25, .iload_n 2, 26, .iload 2), (26, .iconst 1, 27, .iconst 1), (27, .if_icmp .le 8, 30, .if_icmp .le 35), (30, .bipush 99, 32, .iconst 99), (32, .goto 5, 35, .goto 37), (35, .bipush 111, 37, .iconst 111), (37, .ireturn, 38, .ireturn)]]
/-- RecordReconcilerModel.settles(II)I -/
noncomputable def ct_237 : List (List (Nat × Instr × Nat × Instr)) := [[(0, .aload_n 0, 1, .aload 0), (1, .iload_n 1, 2, .iload 1), (2, .iload_n 2, 3, .iload 2), (3, .invokevirtual 93, 6, .invokeinterface 221 25), (6, .istore_n 3, 7, .istore 3), (7, .aload_n 0, 8, .aload 0), (8, .iload_n 1, 9, .iload 1), (9, .invokestatic 79, 12, .invokeinterface 207 9), (12, .ifCond .eq 14, 15, .ifCond .eq 26), (15, .iload_n 2, 16, .iload 2), (16, .invokestatic 83, 19, .invokeinterface 208 9), (19, .ifCond .eq 7, 22, .ifCond .eq 26), (22, .iconst 1, 23, .iconst 1), (23, .goto 4, 26, .goto 27), (26, .iconst 0, 27, .iconst 0), (27, .iload_n 3, 28, .iload 3), (28, .iconst (-1), 29, .iconst (-1)), (29, .if_icmp .eq 7, 32, .if_icmp .eq 36), (32, .iconst 1, 33, .iconst 1), (33, .goto 4, 36, .goto 37), (36, .iconst 0, 37, .iconst 0), (37, .iload_n 3, 38, .iload 3), (38, .iconst (-1), 39, .iconst (-1)), (39, .if_icmp .eq 17, 42, .if_icmp .eq 56), (42, .aload_n 0, 43, .aload 0), (43, .iload_n 2, 44, .iload 2), (44, .invokevirtual 138, 47, .invokeinterface 236 17), (47, .bipush 100, 49, .iconst 100), (49, .if_icmp .ne 7, 52, .if_icmp .ne 56), (52, .iconst 1, 53, .iconst 1), (53, .goto 4, 56, .goto 57), (56, .iconst 0, 57, .iconst 0), (57, .invokevirtual 53, 60, .invokeinterface 210 33), (60, .ifCond .ne 5, 63, .ifCond .ne 65), (63, .iconst 0, 64, .iconst 0)],
  [(64, .ireturn, 65, .ireturn), (65, .aload_n 0, 66, .aload 0), (66, .iload_n 3, 67, .iload 3), (67, .iconst 2, 68, .iconst 2), (68, .invokevirtual 86, 71, .invokeinterface 220 25), (71, .istore 4, 73, .istore 4), (73, .iconst 0, 74, .iconst 0), (74, .istore 5, 76, .istore 5), (76, .iconst 0, 77, .iconst 0), (77, .istore 6, 79, .istore 6), (79, .iload 6, 81, .iload 6), (81, .aload_n 0, 82, .aload 0), (82, .getfield 9, 85, .getfield 577), (85, .iconst 1, 86, .iconst 1), (86, .iaload, 87, .iaload), (87, .if_icmp .ge 86, 90, .if_icmp .ge 173), (90, .aload_n 0, 91, .aload 0), (91, .iload 6, 93, .iload 6), (93, .iconst 1, 94, .iconst 1), (94, .invokevirtual 86, 97, .invokeinterface 220 25), (97, .iload_n 2, 98, .iload 2), (98, .if_icmp .ne 69, 101, .if_icmp .ne 167), (101, .aload_n 0, 102, .aload 0), (102, .iload 6, 104, .iload 6), (104, .iconst 2, 105, .iconst 2), (105, .invokevirtual 86, 108, .invokeinterface 220 25), (108, .iload 4, 110, .iload 4), (110, .if_icmp .eq 57, 113, .if_icmp .eq 167), (113, .aload_n 0, 114, .aload 0), (114, .getfield 9, 117, .getfield 577), (117, .bipush 13, 119, .iconst 13), (119, .iconst 4, 120, .iconst 4), (120, .iload 6, 122, .iload 6), (122, .imul, 123, .imul), (123, .iadd, 124, .iadd), (124, .iconst 2, 125, .iconst 2), (125, .iadd, 126, .iadd), (126, .iload 4, 128, .iload 4)],
  [(128, .iastore, 129, .iastore), (129, .bipush 10, 131, .iconst 10), (131, .aload_n 0, 132, .aload 0), (132, .iload 6, 134, .iload 6), (134, .iconst 0, 135, .iconst 0), (135, .invokevirtual 86, 138, .invokeinterface 220 25), (138, .iadd, 139, .iadd), (139, .bipush 97, 141, .iconst 97), (141, .isub, 142, .isub), (142, .istore 7, 144, .istore 7), (144, .aload_n 0, 145, .aload 0), (145, .getfield 9, 148, .getfield 577), (148, .iload 7, 150, .iload 7), (150, .iconst 0, 151, .iconst 0), (151, .aload_n 0, 152, .aload 0), (152, .getfield 9, 155, .getfield 577), (155, .iload 7, 157, .iload 7), (157, .iaload, 158, .iaload), (158, .iconst 1, 159, .iconst 1), (159, .isub, 160, .isub), (160, .invokestatic 141, 163, .invokestatic 2), (163, .iastore, 164, .iastore), (164, .iinc 5 1, 167, .iinc 5 1), (167, .iinc 6 1, 170, .iinc 6 1), (170, .goto (-91), 173, .goto 79), (173, .aload_n 0, 174, .aload 0), (174, .getfield 9, 177, .getfield 577), (177, .bipush 10, 179, .iconst 10), (179, .iload_n 1, 180, .iload 1), (180, .iadd, 181, .iadd), (181, .bipush 97, 183, .iconst 97), (183, .isub, 184, .isub), (184, .bipush 9, 186, .iconst 9), (186, .aload_n 0, 187, .aload 0), (187, .getfield 9, 190, .getfield 577), (190, .bipush 10, 192, .iconst 10)],
  [(192, .iload_n 1, 193, .iload 1), (193, .iadd, 194, .iadd), (194, .bipush 97, 196, .iconst 97), (196, .isub, 197, .isub), (197, .iaload, 198, .iaload), (198, .iconst 1, 199, .iconst 1), (199, .iadd, 200, .iadd), (200, .invokestatic 146, 203, .invokestatic 1), (203, .iastore, 204, .iastore), (204, .aload_n 0, 205, .aload 0), (205, .getfield 9, 208, .getfield 577), (208, .bipush 9, 210, .iconst 9), (210, .dup2, 211, .dup2), (211, .iaload, 212, .iaload), (212, .iconst 1, 213, .iconst 1), (213, .iadd, 214, .iadd), (214, .iastore, 215, .iastore), (215, .iload 5, 217, .iload 5), (217, .ireturn, 218, .ireturn)]]
/-- RecordReconcilerModel.settle(CI)I -/
noncomputable def ct_238 : List (List (Nat × Instr × Nat × Instr)) := [[(0, .aload_n 0, 1, .aload 0), (1, .invokevirtual 106, 4, .invokeinterface 205 8), (4, .aload_n 0, 5, .aload 0), (5, .aload_n 0, 6, .aload 0), (6, .iload_n 1, 7, .iload 1), (7, .iload_n 2, 8, .iload 2), (8, .invokevirtual 149, 11, .invokeinterface 237 25), (11, .invokevirtual 113, 14, .invokeinterface 213 17), (14, .ireturn, 15, .ireturn)]]
/-- RecordReconcilerModel.drops(II)I -/
noncomputable def ct_239 : List (List (Nat × Instr × Nat × Instr)) := [[(0, .aload_n 0, 1, .aload 0), (1, .iload_n 1, 2, .iload 1), (2, .iload_n 2, 3, .iload 2), (3, .invokevirtual 93, 6, .invokeinterface 221 25), (6, .istore_n 3, 7, .istore 3), (7, .aload_n 0, 8, .aload 0), (8, .iload_n 1, 9, .iload 1), (9, .invokestatic 79, 12, .invokeinterface 207 9), (12, .ifCond .eq 14, 15, .ifCond .eq 26), (15, .iload_n 2, 16, .iload 2), (16, .invokestatic 83, 19, .invokeinterface 208 9), (19, .ifCond .eq 7, 22, .ifCond .eq 26), (22, .iconst 1, 23, .iconst 1), (23, .goto 4, 26, .goto 27), (26, .iconst 0, 27, .iconst 0), (27, .iload_n 3, 28, .iload 3), (28, .iconst (-1), 29, .iconst (-1)), (29, .if_icmp .eq 7, 32, .if_icmp .eq 36), (32, .iconst 1, 33, .iconst 1), (33, .goto 4, 36, .goto 37), (36, .iconst 0, 37, .iconst 0), (37, .iconst 1, 38, .iconst 1), (38, .invokevirtual 53, 41, .invokeinterface 210 33), (41, .ifCond .ne 5, 44, .ifCond .ne 46), (44, .iconst 0, 45, .iconst 0), (45, .ireturn, 46, .ireturn), (46, .bipush 13, 48, .iconst 13), (48, .iconst 4, 49, .iconst 4), (49, .iload_n 3, 50, .iload 3), (50, .imul, 51, .imul), (51, .iadd, 52, .iadd), (52, .istore 4, 54, .istore 4), (54, .iload 4, 56, .iload 4), (56, .sipush 129, 59, .iconst 129), (59, .if_icmp .ge 25, 62, .if_icmp .ge 84), (62, .aload_n 0, 63, .aload 0), (63, .getfield 9, 66, .getfield 577)],
  [(66, .iload 4, 68, .iload 4), (68, .aload_n 0, 69, .aload 0), (69, .getfield 9, 72, .getfield 577), (72, .iload 4, 74, .iload 4), (74, .iconst 4, 75, .iconst 4), (75, .iadd, 76, .iadd), (76, .iaload, 77, .iaload), (77, .iastore, 78, .iastore), (78, .iinc 4 1, 81, .iinc 4 1), (81, .goto (-27), 84, .goto 54), (84, .aload_n 0, 85, .aload 0), (85, .getfield 9, 88, .getfield 577), (88, .iconst 1, 89, .iconst 1), (89, .dup2, 90, .dup2), (90, .iaload, 91, .iaload), (91, .iconst 1, 92, .iconst 1), (92, .isub, 93, .isub), (93, .iastore, 94, .iastore), (94, .aload_n 0, 95, .aload 0), (95, .getfield 9, 98, .getfield 577), (98, .bipush 6, 100, .iconst 6), (100, .dup2, 101, .dup2), (101, .iaload, 102, .iaload), (102, .iconst 1, 103, .iconst 1), (103, .iadd, 104, .iadd), (104, .iastore, 105, .iastore), (105, .aload_n 0, 106, .aload 0), (106, .getfield 9, 109, .getfield 577), (109, .iconst 1, 110, .iconst 1), (110, .iaload, 111, .iaload), (111, .ireturn, 112, .ireturn)]]
/-- RecordReconcilerModel.drop(CI)I -/
noncomputable def ct_240 : List (List (Nat × Instr × Nat × Instr)) := [[(0, .aload_n 0, 1, .aload 0), (1, .invokevirtual 106, 4, .invokeinterface 205 8), (4, .aload_n 0, 5, .aload 0), (5, .aload_n 0, 6, .aload 0), (6, .iload_n 1, 7, .iload 1), (7, .iload_n 2, 8, .iload 2), (8, .invokevirtual 152, 11, .invokeinterface 239 25), (11, .invokevirtual 113, 14, .invokeinterface 213 17), (14, .ireturn, 15, .ireturn)]]
/-- RecordReconcilerLaw.pass(LRecordReconciler;I[J)I -/
noncomputable def ct_241 : List (List (Nat × Instr × Nat × Instr)) := [[(0, .aload_n 2, 1, .aload 2), (1, .iconst 0, 2, .iconst 0), (2, .aload_n 0, 3, .aload 0), (3, .iload_n 1, 4, .iload 1), (4, .invokevirtual 33, 7, .invokeinterface 146 17), (7, .i2l, 8, .i2l), (8, .lastore, 9, .lastore), (9, .goto 6, 12, .goto 15), (12, .astore_n 3, 13, .astore 3), (13, .iconst 1, 14, .iconst 1), (14, .ireturn, 15, .ireturn), (15, .iconst 0, 16, .iconst 0), (16, .ireturn, 17, .ireturn)]]
/-- RecordReconcilerModel.waits(I)I -/
noncomputable def ct_242 : List (List (Nat × Instr × Nat × Instr)) := [[(0, .aload_n 0, 1, .aload 0), (1, .iload_n 1, 2, .iload 1), (2, .iconst 1, 3, .iconst 1), (3, .bipush 99, 5, .iconst 99), (5, .invokestatic 75, 8, .invokeinterface 206 25), (8, .invokevirtual 67, 11, .invokeinterface 225 17), (11, .ifCond .eq 13, 14, .ifCond .eq 24), (14, .aload_n 0, 15, .aload 0), (15, .getfield 9, 18, .getfield 577), (18, .iconst 0, 19, .iconst 0), (19, .dup2, 20, .dup2), (20, .iaload, 21, .iaload), (21, .iload_n 1, 22, .iload 1), (22, .iadd, 23, .iadd), (23, .iastore, 24, .iastore), (24, .aload_n 0, 25, .aload 0), (25, .getfield 9, 28, .getfield 577), (28, .iconst 0, 29, .iconst 0), (29, .iaload, 30, .iaload), (30, .ireturn, 31, .ireturn)]]
/-- RecordReconcilerModel.pass(I)I -/
noncomputable def ct_243 : List (List (Nat × Instr × Nat × Instr)) := [[(0, .aload_n 0, 1, .aload 0), (1, .invokevirtual 106, 4, .invokeinterface 205 8), (4, .aload_n 0, 5, .aload 0), (5, .aload_n 0, 6, .aload 0), (6, .iload_n 1, 7, .iload 1), (7, .invokevirtual 155, 10, .invokeinterface 242 17), (10, .invokevirtual 113, 13, .invokeinterface 213 17), (13, .ireturn, 14, .ireturn)]]
/-- RecordReconcilerModel.total(I)I -/
noncomputable def ct_244 : List (List (Nat × Instr × Nat × Instr)) := [[(0, .aload_n 0, 1, .aload 0), (1, .iconst 0, 2, .iconst 0), (2, .putfield 50, 5, .putfield 608), (5, .aload_n 0, 6, .aload 0), (6, .getfield 9, 9, .getfield 577), (9, .iload_n 1, 10, .iload 1), (10, .iaload, 11, .iaload), (11, .ireturn, 12, .ireturn)]]
/-- RecordReconcilerModel.day()I -/
noncomputable def ct_245 : List (List (Nat × Instr × Nat × Instr)) := [[(0, .aload_n 0, 1, .aload 0), (1, .iconst 0, 2, .iconst 0), (2, .invokevirtual 158, 5, .invokeinterface 244 17), (5, .ireturn, 6, .ireturn)]]
/-- RecordReconcilerModel.reportCount()I -/
noncomputable def ct_246 : List (List (Nat × Instr × Nat × Instr)) := [[(0, .aload_n 0, 1, .aload 0), (1, .iconst 2, 2, .iconst 2), (2, .invokevirtual 158, 5, .invokeinterface 244 17), (5, .ireturn, 6, .ireturn)]]
/-- RecordReconcilerLaw.reportSource(LRecordReconciler;I[J)I -/
noncomputable def ct_247 : List (List (Nat × Instr × Nat × Instr)) := [[(0, .aload_n 2, 1, .aload 2), (1, .iconst 0, 2, .iconst 0), (2, .aload_n 0, 3, .aload 0), (3, .iload_n 1, 4, .iload 1), (4, .invokevirtual 37, 7, .invokeinterface 159 17), (7, .i2l, 8, .i2l), (8, .lastore, 9, .lastore), (9, .goto 6, 12, .goto 15), (12, .astore_n 3, 13, .astore 3), (13, .iconst 1, 14, .iconst 1), (14, .ireturn, 15, .ireturn), (15, .iconst 0, 16, .iconst 0), (16, .ireturn, 17, .ireturn)]]
/-- RecordReconcilerModel.asksReport(II)I -/
noncomputable def ct_248 : List (List (Nat × Instr × Nat × Instr)) := [[(0, .aload_n 0, 1, .aload 0), (1, .iload_n 1, 2, .iload 1), (2, .iconst 0, 3, .iconst 0), (3, .aload_n 0, 4, .aload 0), (4, .getfield 9, 7, .getfield 577), (7, .iconst 2, 8, .iconst 2), (8, .iaload, 9, .iaload), (9, .iconst 1, 10, .iconst 1), (10, .isub, 11, .isub), (11, .invokestatic 75, 14, .invokeinterface 206 25), (14, .invokevirtual 67, 17, .invokeinterface 225 17), (17, .ifCond .eq 12, 20, .ifCond .eq 29), (20, .aload_n 0, 21, .aload 0), (21, .iload_n 1, 22, .iload 1), (22, .iload_n 2, 23, .iload 2), (23, .invokevirtual 90, 26, .invokeinterface 217 25), (26, .goto 4, 29, .goto 30), (29, .iconst 0, 30, .iconst 0), (30, .ireturn, 31, .ireturn)]]
/-- RecordReconcilerModel.reportSource(I)C -/
noncomputable def ct_249 : List (List (Nat × Instr × Nat × Instr)) := [[(0, .aload_n 0, 1, .aload 0), (1, .iload_n 1, 2, .iload 1), (2, .iconst 0, 3, .iconst 0), (3, .invokevirtual 161, 6, .invokeinterface 248 25), (6, .i2c, 7, .i2c), (7, .ireturn, 8, .ret 2)]]
/-- RecordReconcilerLaw.reportKey(LRecordReconciler;I[J)I -/
noncomputable def ct_250 : List (List (Nat × Instr × Nat × Instr)) := [[(0, .aload_n 2, 1, .aload 2), (1, .iconst 0, 2, .iconst 0), (2, .aload_n 0, 3, .aload 0), (3, .iload_n 1, 4, .iload 1), (4, .invokevirtual 43, 7, .invokeinterface 158 17), (7, .i2l, 8, .i2l), (8, .lastore, 9, .lastore), (9, .goto 6, 12, .goto 15), (12, .astore_n 3, 13, .astore 3), (13, .iconst 1, 14, .iconst 1), (14, .ireturn, 15, .ireturn), (15, .iconst 0, 16, .iconst 0), (16, .ireturn, 17, .ireturn)]]
/-- RecordReconcilerModel.reportKey(I)I -/
noncomputable def ct_251 : List (List (Nat × Instr × Nat × Instr)) := [[(0, .aload_n 0, 1, .aload 0), (1, .iload_n 1, 2, .iload 1), (2, .iconst 1, 3, .iconst 1), (3, .invokevirtual 161, 6, .invokeinterface 248 25), (6, .ireturn, 7, .ireturn)]]
/-- RecordReconcilerLaw.reportAmount(LRecordReconciler;I[J)I -/
noncomputable def ct_252 : List (List (Nat × Instr × Nat × Instr)) := [[(0, .aload_n 2, 1, .aload 2), (1, .iconst 0, 2, .iconst 0), (2, .aload_n 0, 3, .aload 0), (3, .iload_n 1, 4, .iload 1), (4, .invokevirtual 46, 7, .invokeinterface 156 17), (7, .i2l, 8, .i2l), (8, .lastore, 9, .lastore), (9, .goto 6, 12, .goto 15), (12, .astore_n 3, 13, .astore 3), (13, .iconst 1, 14, .iconst 1), (14, .ireturn, 15, .ireturn), (15, .iconst 0, 16, .iconst 0), (16, .ireturn, 17, .ireturn)]]
/-- RecordReconcilerModel.reportAmount(I)I -/
noncomputable def ct_253 : List (List (Nat × Instr × Nat × Instr)) := [[(0, .aload_n 0, 1, .aload 0), (1, .iload_n 1, 2, .iload 1), (2, .iconst 2, 3, .iconst 2), (3, .invokevirtual 161, 6, .invokeinterface 248 25), (6, .ireturn, 7, .ireturn)]]
/-- RecordReconcilerLaw.outcomeOf(LRecordReconciler;I[J)I -/
noncomputable def ct_254 : List (List (Nat × Instr × Nat × Instr)) := [[(0, .aload_n 2, 1, .aload 2), (1, .iconst 0, 2, .iconst 0), (2, .aload_n 0, 3, .aload 0), (3, .iload_n 1, 4, .iload 1), (4, .invokevirtual 49, 7, .invokeinterface 145 17), (7, .i2l, 8, .i2l), (8, .lastore, 9, .lastore), (9, .goto 6, 12, .goto 15), (12, .astore_n 3, 13, .astore 3), (13, .iconst 1, 14, .iconst 1), (14, .ireturn, 15, .ireturn), (15, .iconst 0, 16, .iconst 0), (16, .ireturn, 17, .ireturn)]]
/-- RecordReconcilerModel.outcomeOf(I)C -/
noncomputable def ct_255 : List (List (Nat × Instr × Nat × Instr)) := [[(0, .aload_n 0, 1, .aload 0), (1, .iload_n 1, 2, .iload 1), (2, .iconst 0, 3, .iconst 0), (3, .aload_n 0, 4, .aload 0), (4, .getfield 9, 7, .getfield 577), (7, .iconst 2, 8, .iconst 2), (8, .iaload, 9, .iaload), (9, .iconst 1, 10, .iconst 1), (10, .isub, 11, .isub), (11, .invokestatic 75, 14, .invokeinterface 206 25), (14, .invokevirtual 67, 17, .invokeinterface 225 17), (17, .ifCond .eq 12, 20, .ifCond .eq 29), (20, .aload_n 0, 21, .aload 0), (21, .iload_n 1, 22, .iload 1), (22, .invokevirtual 96, 25, .invokeinterface 222 17), (25, .i2c, 26, .i2c), (26, .goto 4, 29, .goto 30), (29, .iconst 0, 30, .iconst 0), (30, .ireturn, 31, .ret 2)]]
/-- RecordReconcilerModel.canClose()Z -/
noncomputable def ct_256 : List (List (Nat × Instr × Nat × Instr)) := [[(0, .aload_n 0, 1, .aload 0), (1, .iconst 0, 2, .iconst 0), (2, .putfield 50, 5, .putfield 608), (5, .aload_n 0, 6, .aload 0), (6, .invokevirtual 119, 9, .invokeinterface 224 9), (9, .ireturn, 10, .ret 1)]]
/-- RecordReconcilerModel.recordCount()I -/
noncomputable def ct_257 : List (List (Nat × Instr × Nat × Instr)) := [[(0, .aload_n 0, 1, .aload 0), (1, .iconst 1, 2, .iconst 1), (2, .invokevirtual 158, 5, .invokeinterface 244 17), (5, .ireturn, 6, .ireturn)]]
/-- RecordReconcilerLaw.recordsOf(LRecordReconciler;C[J)I -/
noncomputable def ct_258 : List (List (Nat × Instr × Nat × Instr)) := [[(0, .aload_n 2, 1, .aload 2), (1, .iconst 0, 2, .iconst 0), (2, .aload_n 0, 3, .aload 0), (3, .iload_n 1, 4, .iload 1), (4, .invokevirtual 52, 7, .invokeinterface 152 17), (7, .i2l, 8, .i2l), (8, .lastore, 9, .lastore), (9, .goto 6, 12, .goto 15), (12, .astore_n 3, 13, .astore 3), (13, .iconst 1, 14, .iconst 1), (14, .ireturn, 15, .ireturn), (15, .iconst 0, 16, .iconst 0), (16, .ireturn, 17, .ireturn)]]
/-- RecordReconcilerModel.ofSource(I)I -/
noncomputable def ct_259 : List (List (Nat × Instr × Nat × Instr)) := [[(0, .iconst 0, 1, .iconst 0), (1, .istore_n 2, 2, .istore 2), (2, .iconst 0, 3, .iconst 0), (3, .istore_n 3, 4, .istore 3), (4, .iload_n 3, 5, .iload 3), (5, .aload_n 0, 6, .aload 0), (6, .getfield 9, 9, .getfield 577), (9, .iconst 1, 10, .iconst 1), (10, .iaload, 11, .iaload), (11, .if_icmp .ge 27, 14, .if_icmp .ge 38), (14, .iload_n 2, 15, .iload 2), (15, .aload_n 0, 16, .aload 0), (16, .iload_n 3, 17, .iload 3), (17, .iconst 0, 18, .iconst 0), (18, .invokevirtual 86, 21, .invokeinterface 220 25), (21, .iload_n 1, 22, .iload 1), (22, .if_icmp .ne 7, 25, .if_icmp .ne 29), (25, .iconst 1, 26, .iconst 1), (26, .goto 4, 29, .goto 30), (29, .iconst 0, 30, .iconst 0), (30, .iadd, 31, .iadd), (31, .istore_n 2, 32, .istore 2), (32, .iinc 3 1, 35, .iinc 3 1), (35, .goto (-31), 38, .goto 4), (38, .iload_n 2, 39, .iload 2), (39, .ireturn, 40, .ireturn)]]
/-- RecordReconcilerModel.recordsOf(C)I -/
noncomputable def ct_260 : List (List (Nat × Instr × Nat × Instr)) := [[(0, .aload_n 0, 1, .aload 0), (1, .iload_n 1, 2, .iload 1), (2, .invokestatic 79, 5, .invokeinterface 207 9), (5, .invokevirtual 67, 8, .invokeinterface 225 17), (8, .ifCond .eq 11, 11, .ifCond .eq 19), (11, .aload_n 0, 12, .aload 0), (12, .iload_n 1, 13, .iload 1), (13, .invokevirtual 164, 16, .invokeinterface 259 17), (16, .goto 4, 19, .goto 20), (19, .iconst 0, 20, .iconst 0), (20, .ireturn, 21, .ireturn)]]
/-- RecordReconcilerModel.hasRecord(CI)Z -/
noncomputable def ct_261 : List (List (Nat × Instr × Nat × Instr)) := [[(0, .aload_n 0, 1, .aload 0), (1, .iload_n 1, 2, .iload 1), (2, .invokestatic 79, 5, .invokeinterface 207 9), (5, .ifCond .eq 14, 8, .ifCond .eq 19), (8, .iload_n 2, 9, .iload 2), (9, .invokestatic 83, 12, .invokeinterface 208 9), (12, .ifCond .eq 7, 15, .ifCond .eq 19), (15, .iconst 1, 16, .iconst 1), (16, .goto 4, 19, .goto 20), (19, .iconst 0, 20, .iconst 0), (20, .invokevirtual 67, 23, .invokeinterface 225 17), (23, .ifCond .eq 17, 26, .ifCond .eq 40), (26, .aload_n 0, 27, .aload 0), (27, .iload_n 1, 28, .iload 1), (28, .iload_n 2, 29, .iload 2), (29, .invokevirtual 93, 32, .invokeinterface 221 25), (32, .iconst (-1), 33, .iconst (-1)), (33, .if_icmp .eq 7, 36, .if_icmp .eq 40), (36, .iconst 1, 37, .iconst 1), (37, .goto 4, 40, .goto 41), (40, .iconst 0, 41, .iconst 0), (41, .ireturn, 42, .ret 1)]]
/-- RecordReconcilerModel.asks(III)I -/
noncomputable def ct_262 : List (List (Nat × Instr × Nat × Instr)) := [[(0, .aload_n 0, 1, .aload 0), (1, .iload_n 1, 2, .iload 1), (2, .iload_n 2, 3, .iload 2), (3, .invokevirtual 93, 6, .invokeinterface 221 25), (6, .istore 4, 8, .istore 4), (8, .aload_n 0, 9, .aload 0), (9, .iload_n 1, 10, .iload 1), (10, .invokestatic 79, 13, .invokeinterface 207 9), (13, .ifCond .eq 14, 16, .ifCond .eq 27), (16, .iload_n 2, 17, .iload 2), (17, .invokestatic 83, 20, .invokeinterface 208 9), (20, .ifCond .eq 7, 23, .ifCond .eq 27), (23, .iconst 1, 24, .iconst 1), (24, .goto 4, 27, .goto 28), (27, .iconst 0, 28, .iconst 0), (28, .iload 4, 30, .iload 4), (30, .iconst (-1), 31, .iconst (-1)), (31, .if_icmp .eq 7, 34, .if_icmp .eq 38), (34, .iconst 1, 35, .iconst 1), (35, .goto 4, 38, .goto 39), (38, .iconst 0, 39, .iconst 0), (39, .iconst 1, 40, .iconst 1), (40, .invokevirtual 53, 43, .invokeinterface 210 33), (43, .ifCond .eq 13, 46, .ifCond .eq 56), (46, .aload_n 0, 47, .aload 0), (47, .iload 4, 49, .iload 4), (49, .iload_n 3, 50, .iload 3), (50, .invokevirtual 86, 53, .invokeinterface 220 25), (53, .goto 4, 56, .goto 57), (56, .iconst 0, 57, .iconst 0), (57, .ireturn, 58, .ireturn)]]
/-- RecordReconcilerModel.amountOf(CI)I -/
noncomputable def ct_263 : List (List (Nat × Instr × Nat × Instr)) := [[(0, .aload_n 0, 1, .aload 0), (1, .iload_n 1, 2, .iload 1), (2, .iload_n 2, 3, .iload 2), (3, .iconst 2, 4, .iconst 2), (4, .invokevirtual 167, 7, .invokeinterface 262 33), (7, .ireturn, 8, .ireturn)]]
/-- RecordReconcilerModel.dayOf(CI)I -/
noncomputable def ct_264 : List (List (Nat × Instr × Nat × Instr)) := [[(0, .aload_n 0, 1, .aload 0), (1, .iload_n 1, 2, .iload 1), (2, .iload_n 2, 3, .iload 2), (3, .iconst 3, 4, .iconst 3), (4, .invokevirtual 167, 7, .invokeinterface 262 33), (7, .ireturn, 8, .ireturn)]]
/-- RecordReconcilerModel.keyAt(CI)I -/
noncomputable def ct_265 : List (List (Nat × Instr × Nat × Instr)) := [[(0, .iconst (-1), 1, .iconst (-1)), (1, .istore_n 3, 2, .istore 3), (2, .iconst 0, 3, .iconst 0), (3, .istore 4, 5, .istore 4), (5, .iconst 0, 6, .iconst 0), (6, .istore 5, 8, .istore 5), (8, .iload 5, 10, .iload 5), (10, .aload_n 0, 11, .aload 0), (11, .getfield 9, 14, .getfield 577), (14, .iconst 1, 15, .iconst 1), (15, .iaload, 16, .iaload), (16, .if_icmp .ge 65, 19, .if_icmp .ge 81), (19, .aload_n 0, 20, .aload 0), (20, .iload 5, 22, .iload 5), (22, .iconst 0, 23, .iconst 0), (23, .invokevirtual 86, 26, .invokeinterface 220 25), (26, .iload_n 1, 27, .iload 1), (27, .if_icmp .ne 7, 30, .if_icmp .ne 34), (30, .iconst 1, 31, .iconst 1), (31, .goto 4, 34, .goto 35), (34, .iconst 0, 35, .iconst 0), (35, .istore 6, 37, .istore 6), (37, .iload 6, 39, .iload 6), (39, .ifCond .eq 19, 42, .ifCond .eq 58), (42, .iload 4, 44, .iload 4), (44, .iload_n 2, 45, .iload 2), (45, .if_icmp .ne 13, 48, .if_icmp .ne 58), (48, .aload_n 0, 49, .aload 0), (49, .iload 5, 51, .iload 5), (51, .iconst 1, 52, .iconst 1), (52, .invokevirtual 86, 55, .invokeinterface 220 25), (55, .goto 4, 58, .goto 59), (58, .iload_n 3, 59, .iload 3), (59, .istore_n 3, 60, .istore 3), (60, .iload 4, 62, .iload 4), (62, .iload 6, 64, .iload 6)],
  [(64, .ifCond .eq 7, 67, .ifCond .eq 71), (67, .iconst 1, 68, .iconst 1), (68, .goto 4, 71, .goto 72), (71, .iconst 0, 72, .iconst 0), (72, .iadd, 73, .iadd), (73, .istore 4, 75, .istore 4), (75, .iinc 5 1, 78, .iinc 5 1), (78, .goto (-70), 81, .goto 8), (81, .aload_n 0, 82, .aload 0), (82, .iload_n 1, 83, .iload 1), (83, .invokestatic 79, 86, .invokeinterface 207 9), (86, .iload_n 3, 87, .iload 3), (87, .iconst (-1), 88, .iconst (-1)), (88, .if_icmp .eq 7, 91, .if_icmp .eq 95), (91, .iconst 1, 92, .iconst 1), (92, .goto 4, 95, .goto 96), (95, .iconst 0, 96, .iconst 0), (96, .iconst 1, 97, .iconst 1), (97, .invokevirtual 53, 100, .invokeinterface 210 33), (100, .ifCond .eq 7, 103, .ifCond .eq 107), (103, .iload_n 3, 104, .iload 3), (104, .goto 4, 107, .goto 108), (107, .iconst 0, 108, .iconst 0), (108, .ireturn, 109, .ireturn)]]
/-- RecordReconcilerLaw.oldestKey(LRecordReconciler;C[J)I -/
noncomputable def ct_266 : List (List (Nat × Instr × Nat × Instr)) := [[(0, .aload_n 2, 1, .aload 2), (1, .iconst 0, 2, .iconst 0), (2, .aload_n 0, 3, .aload 0), (3, .iload_n 1, 4, .iload 1), (4, .invokevirtual 69, 7, .invokeinterface 142 17), (7, .i2l, 8, .i2l), (8, .lastore, 9, .lastore), (9, .goto 9, 12, .goto 18), (12, .astore_n 3, 13, .astore 3), (13, .iconst 1, 14, .iconst 1), (14, .ireturn, 15, .ireturn), (15, .astore_n 3, 16, .astore 3), (16, .iconst 2, 17, .iconst 2), (17, .ireturn, 18, .ireturn), (18, .iconst 0, 19, .iconst 0), (19, .ireturn, 20, .ireturn)]]
/-- RecordReconcilerModel.oldestKey(C)I -/
noncomputable def ct_267 : List (List (Nat × Instr × Nat × Instr)) := [[(0, .iconst (-1), 1, .iconst (-1)), (1, .istore_n 2, 2, .istore 2), (2, .iconst 0, 3, .iconst 0), (3, .istore_n 3, 4, .istore 3), (4, .iload_n 3, 5, .iload 3), (5, .aload_n 0, 6, .aload 0), (6, .getfield 9, 9, .getfield 577), (9, .iconst 1, 10, .iconst 1), (10, .iaload, 11, .iaload), (11, .if_icmp .ge 57, 14, .if_icmp .ge 68), (14, .aload_n 0, 15, .aload 0), (15, .iload_n 3, 16, .iload 3), (16, .iconst 0, 17, .iconst 0), (17, .invokevirtual 86, 20, .invokeinterface 220 25), (20, .iload_n 1, 21, .iload 1), (21, .if_icmp .ne 27, 24, .if_icmp .ne 48), (24, .iload_n 2, 25, .iload 2), (25, .iconst (-1), 26, .iconst (-1)), (26, .if_icmp .eq 18, 29, .if_icmp .eq 44), (29, .aload_n 0, 30, .aload 0), (30, .iload_n 3, 31, .iload 3), (31, .iconst 3, 32, .iconst 3), (32, .invokevirtual 86, 35, .invokeinterface 220 25), (35, .aload_n 0, 36, .aload 0), (36, .iload_n 2, 37, .iload 2), (37, .iconst 3, 38, .iconst 3), (38, .invokevirtual 86, 41, .invokeinterface 220 25), (41, .if_icmp .ge 7, 44, .if_icmp .ge 48), (44, .iconst 1, 45, .iconst 1), (45, .goto 4, 48, .goto 49), (48, .iconst 0, 49, .iconst 0), (49, .istore 4, 51, .istore 4), (51, .iload 4, 53, .iload 4), (53, .ifCond .eq 7, 56, .ifCond .eq 60), (56, .iload_n 3, 57, .iload 3), (57, .goto 4, 60, .goto 61), (60, .iload_n 2, 61, .iload 2), (61, .istore_n 2, 62, .istore 2), (62, .iinc 3 1, 65, .iinc 3 1)],
  [(65, .goto (-61), 68, .goto 4), (68, .aload_n 0, 69, .aload 0), (69, .iload_n 1, 70, .iload 1), (70, .invokestatic 79, 73, .invokeinterface 207 9), (73, .iload_n 2, 74, .iload 2), (74, .iconst (-1), 75, .iconst (-1)), (75, .if_icmp .eq 7, 78, .if_icmp .eq 82), (78, .iconst 1, 79, .iconst 1), (79, .goto 4, 82, .goto 83), (82, .iconst 0, 83, .iconst 0), (83, .iconst 1, 84, .iconst 1), (84, .invokevirtual 53, 87, .invokeinterface 210 33), (87, .ifCond .eq 12, 90, .ifCond .eq 99), (90, .aload_n 0, 91, .aload 0), (91, .iload_n 2, 92, .iload 2), (92, .iconst 1, 93, .iconst 1), (93, .invokevirtual 86, 96, .invokeinterface 220 25), (96, .goto 4, 99, .goto 100), (99, .iconst 0, 100, .iconst 0), (100, .ireturn, 101, .ireturn)]]
/-- RecordReconcilerLaw.statusOf(LRecordReconciler;I[J)I -/
noncomputable def ct_268 : List (List (Nat × Instr × Nat × Instr)) := [[(0, .aload_n 2, 1, .aload 2), (1, .iconst 0, 2, .iconst 0), (2, .aload_n 0, 3, .aload 0), (3, .iload_n 1, 4, .iload 1), (4, .invokevirtual 72, 7, .invokeinterface 178 17), (7, .i2l, 8, .i2l), (8, .lastore, 9, .lastore), (9, .goto 9, 12, .goto 18), (12, .astore_n 3, 13, .astore 3), (13, .iconst 1, 14, .iconst 1), (14, .ireturn, 15, .ireturn), (15, .astore_n 3, 16, .astore 3), (16, .iconst 2, 17, .iconst 2), (17, .ireturn, 18, .ireturn), (18, .iconst 0, 19, .iconst 0), (19, .ireturn, 20, .ireturn)]]
/-- RecordReconcilerModel.statusOf(I)C -/
noncomputable def ct_269 : List (List (Nat × Instr × Nat × Instr)) := [[(0, .aload_n 0, 1, .aload 0), (1, .iload_n 1, 2, .iload 1), (2, .invokestatic 83, 5, .invokeinterface 208 9), (5, .aload_n 0, 6, .aload 0), (6, .iload_n 1, 7, .iload 1), (7, .invokevirtual 173, 10, .invokeinterface 233 17), (10, .ifCond .le 7, 13, .ifCond .le 17), (13, .iconst 1, 14, .iconst 1), (14, .goto 4, 17, .goto 18), (17, .iconst 0, 18, .iconst 0), (18, .iconst 1, 19, .iconst 1), (19, .invokevirtual 53, 22, .invokeinterface 210 33), (22, .ifCond .eq 12, 25, .ifCond .eq 34), (25, .aload_n 0, 26, .aload 0), (26, .iload_n 1, 27, .iload 1), (27, .invokevirtual 138, 30, .invokeinterface 236 17), (30, .i2c, 31, .i2c), (31, .goto 4, 34, .goto 35), (34, .iconst 0, 35, .iconst 0), (35, .ireturn, 36, .ret 2)]]
/-- RecordReconcilerModel.isFirst(I)Z -/
noncomputable def ct_270 : List (List (Nat × Instr × Nat × Instr)) := [[(0, .iconst 1, 1, .iconst 1), (1, .istore_n 2, 2, .istore 2), (2, .iconst 0, 3, .iconst 0), (3, .istore_n 3, 4, .istore 3), (4, .iload_n 3, 5, .iload 3), (5, .iload_n 1, 6, .iload 1), (6, .if_icmp .ge 34, 9, .if_icmp .ge 40), (9, .iload_n 2, 10, .iload 2), (10, .ifCond .eq 22, 13, .ifCond .eq 32), (13, .aload_n 0, 14, .aload 0), (14, .iload_n 3, 15, .iload 3), (15, .iconst 1, 16, .iconst 1), (16, .invokevirtual 86, 19, .invokeinterface 220 25), (19, .aload_n 0, 20, .aload 0), (20, .iload_n 1, 21, .iload 1), (21, .iconst 1, 22, .iconst 1), (22, .invokevirtual 86, 25, .invokeinterface 220 25), (25, .if_icmp .eq 7, 28, .if_icmp .eq 32), (28, .iconst 1, 29, .iconst 1), (29, .goto 4, 32, .goto 33), (32, .iconst 0, 33, .iconst 0), (33, .istore_n 2, 34, .istore 2), (34, .iinc 3 1, 37, .iinc 3 1), (37, .goto (-33), 40, .goto 4), (40, .iload_n 2, 41, .iload 2), (41, .ireturn, 42, .ret 1)]]
/-- RecordReconcilerModel.keysOf(I)I -/
noncomputable def ct_271 : List (List (Nat × Instr × Nat × Instr)) := [[(0, .iconst 0, 1, .iconst 0), (1, .istore_n 2, 2, .istore 2), (2, .iconst 0, 3, .iconst 0), (3, .istore_n 3, 4, .istore 3), (4, .iload_n 3, 5, .iload 3), (5, .aload_n 0, 6, .aload 0), (6, .getfield 9, 9, .getfield 577), (9, .iconst 1, 10, .iconst 1), (10, .iaload, 11, .iaload), (11, .if_icmp .ge 44, 14, .if_icmp .ge 55), (14, .iload_n 2, 15, .iload 2), (15, .aload_n 0, 16, .aload 0), (16, .iload_n 3, 17, .iload 3), (17, .invokevirtual 179, 20, .invokeinterface 270 17), (20, .ifCond .eq 26, 23, .ifCond .eq 46), (23, .iload_n 1, 24, .iload 1), (24, .iconst (-1), 25, .iconst (-1)), (25, .if_icmp .eq 17, 28, .if_icmp .eq 42), (28, .aload_n 0, 29, .aload 0), (29, .aload_n 0, 30, .aload 0), (30, .iload_n 3, 31, .iload 3), (31, .iconst 1, 32, .iconst 1), (32, .invokevirtual 86, 35, .invokeinterface 220 25), (35, .invokevirtual 138, 38, .invokeinterface 236 17), (38, .iload_n 1, 39, .iload 1), (39, .if_icmp .ne 7, 42, .if_icmp .ne 46), (42, .iconst 1, 43, .iconst 1), (43, .goto 4, 46, .goto 47), (46, .iconst 0, 47, .iconst 0), (47, .iadd, 48, .iadd), (48, .istore_n 2, 49, .istore 2), (49, .iinc 3 1, 52, .iinc 3 1), (52, .goto (-48), 55, .goto 4), (55, .iload_n 2, 56, .iload 2), (56, .ireturn, 57, .ireturn)]]
/-- RecordReconcilerModel.countOf(I)I -/
noncomputable def ct_272 : List (List (Nat × Instr × Nat × Instr)) := [[(0, .aload_n 0, 1, .aload 0), (1, .iconst 0, 2, .iconst 0), (2, .putfield 50, 5, .putfield 608), (5, .aload_n 0, 6, .aload 0), (6, .iload_n 1, 7, .iload 1), (7, .invokevirtual 182, 10, .invokeinterface 271 17), (10, .ireturn, 11, .ireturn)]]
/-- RecordReconcilerModel.confirmedCount()I -/
noncomputable def ct_273 : List (List (Nat × Instr × Nat × Instr)) := [[(0, .aload_n 0, 1, .aload 0), (1, .bipush 99, 3, .iconst 99), (3, .invokevirtual 185, 6, .invokeinterface 272 17), (6, .ireturn, 7, .ireturn)]]
/-- RecordReconcilerModel.disputedCount()I -/
noncomputable def ct_274 : List (List (Nat × Instr × Nat × Instr)) := [[(0, .aload_n 0, 1, .aload 0), (1, .bipush 100, 3, .iconst 100), (3, .invokevirtual 185, 6, .invokeinterface 272 17), (6, .ireturn, 7, .ireturn)]]
/-- RecordReconcilerModel.openCount()I -/
noncomputable def ct_275 : List (List (Nat × Instr × Nat × Instr)) := [[(0, .aload_n 0, 1, .aload 0), (1, .bipush 111, 3, .iconst 111), (3, .invokevirtual 185, 6, .invokeinterface 272 17), (6, .ireturn, 7, .ireturn)]]
/-- RecordReconcilerModel.disputedAt(I)I -/
noncomputable def ct_276 : List (List (Nat × Instr × Nat × Instr)) := [[(0, .iconst (-1), 1, .iconst (-1)), (1, .istore_n 2, 2, .istore 2), (2, .iconst 0, 3, .iconst 0), (3, .istore_n 3, 4, .istore 3), (4, .iload_n 3, 5, .iload 3), (5, .aload_n 0, 6, .aload 0), (6, .getfield 9, 9, .getfield 577), (9, .iconst 1, 10, .iconst 1), (10, .iaload, 11, .iaload), (11, .if_icmp .ge 115, 14, .if_icmp .ge 126), (14, .iconst 0, 15, .iconst 0), (15, .istore 4, 17, .istore 4), (17, .iconst 0, 18, .iconst 0), (18, .istore 5, 20, .istore 5), (20, .iload 5, 22, .iload 5), (22, .aload_n 0, 23, .aload 0), (23, .getfield 9, 26, .getfield 577), (26, .iconst 1, 27, .iconst 1), (27, .iaload, 28, .iaload), (28, .if_icmp .ge 60, 31, .if_icmp .ge 88), (31, .iload 4, 33, .iload 4), (33, .aload_n 0, 34, .aload 0), (34, .iload 5, 36, .iload 5), (36, .invokevirtual 179, 39, .invokeinterface 270 17), (39, .ifCond .eq 39, 42, .ifCond .eq 78), (42, .aload_n 0, 43, .aload 0), (43, .iload 5, 45, .iload 5), (45, .iconst 1, 46, .iconst 1), (46, .invokevirtual 86, 49, .invokeinterface 220 25), (49, .aload_n 0, 50, .aload 0), (50, .iload_n 3, 51, .iload 3), (51, .iconst 1, 52, .iconst 1), (52, .invokevirtual 86, 55, .invokeinterface 220 25), (55, .if_icmp .ge 23, 58, .if_icmp .ge 78), (58, .aload_n 0, 59, .aload 0), (59, .aload_n 0, 60, .aload 0), (60, .iload 5, 62, .iload 5), (62, .iconst 1, 63, .iconst 1), (63, .invokevirtual 86, 66, .invokeinterface 220 25)],
  [(66, .invokevirtual 138, 69, .invokeinterface 236 17), (69, .bipush 100, 71, .iconst 100), (71, .if_icmp .ne 7, 74, .if_icmp .ne 78), (74, .iconst 1, 75, .iconst 1), (75, .goto 4, 78, .goto 79), (78, .iconst 0, 79, .iconst 0), (79, .iadd, 80, .iadd), (80, .istore 4, 82, .istore 4), (82, .iinc 5 1, 85, .iinc 5 1), (85, .goto (-65), 88, .goto 20), (88, .iload 4, 90, .iload 4), (90, .iload_n 1, 91, .iload 1), (91, .if_icmp .ne 27, 94, .if_icmp .ne 118), (94, .aload_n 0, 95, .aload 0), (95, .aload_n 0, 96, .aload 0), (96, .iload_n 3, 97, .iload 3), (97, .iconst 1, 98, .iconst 1), (98, .invokevirtual 86, 101, .invokeinterface 220 25), (101, .invokevirtual 138, 104, .invokeinterface 236 17), (104, .bipush 100, 106, .iconst 100), (106, .if_icmp .ne 12, 109, .if_icmp .ne 118), (109, .aload_n 0, 110, .aload 0), (110, .iload_n 3, 111, .iload 3), (111, .iconst 1, 112, .iconst 1), (112, .invokevirtual 86, 115, .invokeinterface 220 25), (115, .goto 4, 118, .goto 119), (118, .iload_n 2, 119, .iload 2), (119, .istore_n 2, 120, .istore 2), (120, .iinc 3 1, 123, .iinc 3 1), (123, .goto (-119), 126, .goto 4), (126, .aload_n 0, 127, .aload 0), (127, .iload_n 2, 128, .iload 2)],
  [(128, .iconst (-1), 129, .iconst (-1)), (129, .if_icmp .eq 7, 132, .if_icmp .eq 136), (132, .iconst 1, 133, .iconst 1), (133, .goto 4, 136, .goto 137), (136, .iconst 0, 137, .iconst 0), (137, .invokevirtual 67, 140, .invokeinterface 225 17), (140, .ifCond .eq 7, 143, .ifCond .eq 147), (143, .iload_n 2, 144, .iload 2), (144, .goto 4, 147, .goto 148), (147, .iconst 0, 148, .iconst 0), (148, .ireturn, 149, .ireturn)]]
/-- RecordReconcilerModel.acceptedAmount(I)I -/
noncomputable def ct_277 : List (List (Nat × Instr × Nat × Instr)) := [[(0, .aload_n 0, 1, .aload 0), (1, .iload_n 1, 2, .iload 1), (2, .invokestatic 83, 5, .invokeinterface 208 9), (5, .aload_n 0, 6, .aload 0), (6, .iload_n 1, 7, .iload 1), (7, .invokevirtual 173, 10, .invokeinterface 233 17), (10, .ifCond .le 7, 13, .ifCond .le 17), (13, .iconst 1, 14, .iconst 1), (14, .goto 4, 17, .goto 18), (17, .iconst 0, 18, .iconst 0), (18, .iconst 1, 19, .iconst 1), (19, .invokevirtual 53, 22, .invokeinterface 210 33), (22, .ifCond .eq 11, 25, .ifCond .eq 33), (25, .aload_n 0, 26, .aload 0), (26, .iload_n 1, 27, .iload 1), (27, .invokevirtual 176, 30, .invokeinterface 235 17), (30, .goto 4, 33, .goto 34), (33, .iconst 0, 34, .iconst 0), (34, .ireturn, 35, .ireturn)]]
/-- RecordReconcilerModel.acceptedTotal()I -/
noncomputable def ct_278 : List (List (Nat × Instr × Nat × Instr)) := [[(0, .aload_n 0, 1, .aload 0), (1, .iconst 0, 2, .iconst 0), (2, .putfield 50, 5, .putfield 608), (5, .iconst 0, 6, .iconst 0), (6, .istore_n 1, 7, .istore 1), (7, .iconst 0, 8, .iconst 0), (8, .istore_n 2, 9, .istore 2), (9, .iload_n 2, 10, .iload 2), (10, .aload_n 0, 11, .aload 0), (11, .getfield 9, 14, .getfield 577), (14, .iconst 1, 15, .iconst 1), (15, .iaload, 16, .iaload), (16, .if_icmp .ge 34, 19, .if_icmp .ge 50), (19, .iload_n 1, 20, .iload 1), (20, .aload_n 0, 21, .aload 0), (21, .iload_n 2, 22, .iload 2), (22, .invokevirtual 179, 25, .invokeinterface 270 17), (25, .ifCond .eq 16, 28, .ifCond .eq 41), (28, .aload_n 0, 29, .aload 0), (29, .aload_n 0, 30, .aload 0), (30, .iload_n 2, 31, .iload 2), (31, .iconst 1, 32, .iconst 1), (32, .invokevirtual 86, 35, .invokeinterface 220 25), (35, .invokevirtual 176, 38, .invokeinterface 235 17), (38, .goto 4, 41, .goto 42), (41, .iconst 0, 42, .iconst 0), (42, .iadd, 43, .iadd), (43, .istore_n 1, 44, .istore 1), (44, .iinc 2 1, 47, .iinc 2 1), (47, .goto (-38), 50, .goto 9), (50, .iload_n 1, 51, .iload 1), (51, .ireturn, 52, .ireturn)]]
/-- RecordReconcilerLaw.totalOf(LRecordReconciler;C[J)I -/
noncomputable def ct_279 : List (List (Nat × Instr × Nat × Instr)) := [[(0, .aload_n 2, 1, .aload 2), (1, .iconst 0, 2, .iconst 0), (2, .aload_n 0, 3, .aload 0), (3, .iload_n 1, 4, .iload 1), (4, .invokevirtual 81, 7, .invokeinterface 179 17), (7, .i2l, 8, .i2l), (8, .lastore, 9, .lastore), (9, .goto 6, 12, .goto 15), (12, .astore_n 3, 13, .astore 3), (13, .iconst 1, 14, .iconst 1), (14, .ireturn, 15, .ireturn), (15, .iconst 0, 16, .iconst 0), (16, .ireturn, 17, .ireturn)]]
/-- RecordReconcilerModel.sumOf(I)I -/
noncomputable def ct_280 : List (List (Nat × Instr × Nat × Instr)) := [[(0, .iconst 0, 1, .iconst 0), (1, .istore_n 2, 2, .istore 2), (2, .iconst 0, 3, .iconst 0), (3, .istore_n 3, 4, .istore 3), (4, .iload_n 3, 5, .iload 3), (5, .aload_n 0, 6, .aload 0), (6, .getfield 9, 9, .getfield 577), (9, .iconst 1, 10, .iconst 1), (10, .iaload, 11, .iaload), (11, .if_icmp .ge 37, 14, .if_icmp .ge 48), (14, .iload_n 2, 15, .iload 2), (15, .iload_n 1, 16, .iload 1), (16, .iconst (-1), 17, .iconst (-1)), (17, .if_icmp .eq 13, 20, .if_icmp .eq 30), (20, .aload_n 0, 21, .aload 0), (21, .iload_n 3, 22, .iload 3), (22, .iconst 0, 23, .iconst 0), (23, .invokevirtual 86, 26, .invokeinterface 220 25), (26, .iload_n 1, 27, .iload 1), (27, .if_icmp .ne 12, 30, .if_icmp .ne 39), (30, .aload_n 0, 31, .aload 0), (31, .iload_n 3, 32, .iload 3), (32, .iconst 2, 33, .iconst 2), (33, .invokevirtual 86, 36, .invokeinterface 220 25), (36, .goto 4, 39, .goto 40), (39, .iconst 0, 40, .iconst 0), (40, .iadd, 41, .iadd), (41, .istore_n 2, 42, .istore 2), (42, .iinc 3 1, 45, .iinc 3 1), (45, .goto (-41), 48, .goto 4), (48, .iload_n 2, 49, .iload 2), (49, .ireturn, 50, .ireturn)]]
/-- RecordReconcilerModel.totalOf(C)I -/
noncomputable def ct_281 : List (List (Nat × Instr × Nat × Instr)) := [[(0, .aload_n 0, 1, .aload 0), (1, .iload_n 1, 2, .iload 1), (2, .invokestatic 79, 5, .invokeinterface 207 9), (5, .invokevirtual 67, 8, .invokeinterface 225 17), (8, .ifCond .eq 11, 11, .ifCond .eq 19), (11, .aload_n 0, 12, .aload 0), (12, .iload_n 1, 13, .iload 1), (13, .invokevirtual 188, 16, .invokeinterface 280 17), (16, .goto 4, 19, .goto 20), (19, .iconst 0, 20, .iconst 0), (20, .ireturn, 21, .ireturn)]]
/-- RecordReconcilerModel.areTwo(II)Z -/
noncomputable def ct_282 : List (List (Nat × Instr × Nat × Instr)) := [[(0, .iload_n 0, 1, .iload 0), (1, .invokestatic 79, 4, .invokeinterface 207 9), (4, .ifCond .eq 19, 7, .ifCond .eq 23), (7, .iload_n 1, 8, .iload 1), (8, .invokestatic 79, 11, .invokeinterface 207 9), (11, .ifCond .eq 12, 14, .ifCond .eq 23), (14, .iload_n 0, 15, .iload 0), (15, .iload_n 1, 16, .iload 1), (16, .if_icmp .eq 7, 19, .if_icmp .eq 23), (19, .iconst 1, 20, .iconst 1), (20, .goto 4, 23, .goto 24), (23, .iconst 0, 24, .iconst 0), (24, .ireturn, 25, .ret 1)]]
/-- RecordReconcilerModel.isPair(II)Z -/
noncomputable def ct_283 : List (List (Nat × Instr × Nat × Instr)) := [[(0, .aload_n 0, 1, .aload 0), (1, .iload_n 1, 2, .iload 1), (2, .iconst 1, 3, .iconst 1), (3, .invokevirtual 86, 6, .invokeinterface 220 25), (6, .aload_n 0, 7, .aload 0), (7, .iload_n 2, 8, .iload 2), (8, .iconst 1, 9, .iconst 1), (9, .invokevirtual 86, 12, .invokeinterface 220 25), (12, .isub, 13, .isub), (13, .invokestatic 191, 16, .invokestatic 3), (16, .bipush 20, 18, .iconst 20), (18, .if_icmp .gt 23, 21, .if_icmp .gt 41), (21, .aload_n 0, 22, .aload 0), (22, .iload_n 1, 23, .iload 1), (23, .iconst 2, 24, .iconst 2), (24, .invokevirtual 86, 27, .invokeinterface 220 25), (27, .aload_n 0, 28, .aload 0), (28, .iload_n 2, 29, .iload 2), (29, .iconst 2, 30, .iconst 2), (30, .invokevirtual 86, 33, .invokeinterface 220 25), (33, .isub, 34, .isub), (34, .invokestatic 191, 37, .invokestatic 3), (37, .iconst 5, 38, .iconst 5), (38, .if_icmp .le 7, 41, .if_icmp .le 45), (41, .iconst 1, 42, .iconst 1), (42, .goto 4, 45, .goto 46), (45, .iconst 0, 46, .iconst 0), (46, .istore_n 3, 47, .istore 3), (47, .aload_n 0, 48, .aload 0), (48, .aload_n 0, 49, .aload 0), (49, .iload_n 1, 50, .iload 1), (50, .iconst 0, 51, .iconst 0), (51, .invokevirtual 86, 54, .invokeinterface 220 25), (54, .aload_n 0, 55, .aload 0), (55, .iload_n 2, 56, .iload 2), (56, .iconst 1, 57, .iconst 1), (57, .invokevirtual 86, 60, .invokeinterface 220 25), (60, .invokevirtual 93, 63, .invokeinterface 221 25), (63, .iconst (-1), 64, .iconst (-1))],
  [(64, .if_icmp .ne 23, 67, .if_icmp .ne 87), (67, .aload_n 0, 68, .aload 0), (68, .aload_n 0, 69, .aload 0), (69, .iload_n 2, 70, .iload 2), (70, .iconst 0, 71, .iconst 0), (71, .invokevirtual 86, 74, .invokeinterface 220 25), (74, .aload_n 0, 75, .aload 0), (75, .iload_n 1, 76, .iload 1), (76, .iconst 1, 77, .iconst 1), (77, .invokevirtual 86, 80, .invokeinterface 220 25), (80, .invokevirtual 93, 83, .invokeinterface 221 25), (83, .iconst (-1), 84, .iconst (-1)), (84, .if_icmp .eq 7, 87, .if_icmp .eq 91), (87, .iconst 1, 88, .iconst 1), (88, .goto 4, 91, .goto 92), (91, .iconst 0, 92, .iconst 0), (92, .istore 4, 94, .istore 4), (94, .iload_n 3, 95, .iload 3), (95, .ifCond .ne 27, 98, .ifCond .ne 122), (98, .iload 4, 100, .iload 4), (100, .ifCond .ne 22, 103, .ifCond .ne 122), (103, .aload_n 0, 104, .aload 0), (104, .iload_n 1, 105, .iload 1), (105, .iconst 0, 106, .iconst 0), (106, .invokevirtual 86, 109, .invokeinterface 220 25), (109, .aload_n 0, 110, .aload 0), (110, .iload_n 2, 111, .iload 2), (111, .iconst 0, 112, .iconst 0), (112, .invokevirtual 86, 115, .invokeinterface 220 25), (115, .if_icmp .eq 7, 118, .if_icmp .eq 122), (118, .iconst 1, 119, .iconst 1), (119, .goto 4, 122, .goto 123), (122, .iconst 0, 123, .iconst 0), (123, .ireturn, 124, .ret 1)]]
/-- RecordReconcilerModel.isPossiblePair(CICI)Z -/
noncomputable def ct_284 : List (List (Nat × Instr × Nat × Instr)) := [[(0, .aload_n 0, 1, .aload 0), (1, .iload_n 1, 2, .iload 1), (2, .iload_n 2, 3, .iload 2), (3, .invokevirtual 93, 6, .invokeinterface 221 25), (6, .istore 5, 8, .istore 5), (8, .aload_n 0, 9, .aload 0), (9, .iload_n 3, 10, .iload 3), (10, .iload 4, 12, .iload 4), (12, .invokevirtual 93, 15, .invokeinterface 221 25), (15, .istore 6, 17, .istore 6), (17, .iload_n 1, 18, .iload 1), (18, .iload_n 3, 19, .iload 3), (19, .invokestatic 194, 22, .invokeinterface 282 17), (22, .ifCond .eq 22, 25, .ifCond .eq 44), (25, .iload_n 2, 26, .iload 2), (26, .invokestatic 83, 29, .invokeinterface 208 9), (29, .ifCond .eq 15, 32, .ifCond .eq 44), (32, .iload 4, 34, .iload 4), (34, .invokestatic 83, 37, .invokeinterface 208 9), (37, .ifCond .eq 7, 40, .ifCond .eq 44), (40, .iconst 1, 41, .iconst 1), (41, .goto 4, 44, .goto 45), (44, .iconst 0, 45, .iconst 0), (45, .istore 7, 47, .istore 7), (47, .aload_n 0, 48, .aload 0), (48, .iload 7, 50, .iload 7), (50, .iload 5, 52, .iload 5), (52, .iconst (-1), 53, .iconst (-1)), (53, .if_icmp .eq 13, 56, .if_icmp .eq 66), (56, .iload 6, 58, .iload 6), (58, .iconst (-1), 59, .iconst (-1)), (59, .if_icmp .eq 7, 62, .if_icmp .eq 66), (62, .iconst 1, 63, .iconst 1), (63, .goto 4, 66, .goto 67)],
  [(66, .iconst 0, 67, .iconst 0), (67, .iconst 1, 68, .iconst 1), (68, .invokevirtual 53, 71, .invokeinterface 210 33), (71, .ifCond .eq 18, 74, .ifCond .eq 89), (74, .aload_n 0, 75, .aload 0), (75, .iload 5, 77, .iload 5), (77, .iload 6, 79, .iload 6), (79, .invokevirtual 198, 82, .invokeinterface 283 25), (82, .ifCond .eq 7, 85, .ifCond .eq 89), (85, .iconst 1, 86, .iconst 1), (86, .goto 4, 89, .goto 90), (89, .iconst 0, 90, .iconst 0), (90, .ireturn, 91, .ret 1)]]
/-- RecordReconcilerLaw.possiblePairs(LRecordReconciler;CC[J)I -/
noncomputable def ct_285 : List (List (Nat × Instr × Nat × Instr)) := [[(0, .aload_n 3, 1, .aload 3), (1, .iconst 0, 2, .iconst 0), (2, .aload_n 0, 3, .aload 0), (3, .iload_n 1, 4, .iload 1), (4, .iload_n 2, 5, .iload 2), (5, .invokevirtual 88, 8, .invokeinterface 149 25), (8, .i2l, 9, .i2l), (9, .lastore, 10, .lastore), (10, .goto 7, 13, .goto 17), (13, .astore 4, 15, .astore 4), (15, .iconst 1, 16, .iconst 1), (16, .ireturn, 17, .ireturn), (17, .iconst 0, 18, .iconst 0), (18, .ireturn, 19, .ireturn)]]
/-- RecordReconcilerModel.possiblePairs(CC)I -/
noncomputable def ct_286 : List (List (Nat × Instr × Nat × Instr)) := [[(0, .iconst 0, 1, .iconst 0), (1, .istore_n 3, 2, .istore 3), (2, .iconst 0, 3, .iconst 0), (3, .istore 4, 5, .istore 4), (5, .iload 4, 7, .iload 4), (7, .aload_n 0, 8, .aload 0), (8, .getfield 9, 11, .getfield 577), (11, .iconst 1, 12, .iconst 1), (12, .iaload, 13, .iaload), (13, .if_icmp .ge 70, 16, .if_icmp .ge 83), (16, .iconst 0, 17, .iconst 0), (17, .istore 5, 19, .istore 5), (19, .iload 5, 21, .iload 5), (21, .aload_n 0, 22, .aload 0), (22, .getfield 9, 25, .getfield 577), (25, .iconst 1, 26, .iconst 1), (26, .iaload, 27, .iaload), (27, .if_icmp .ge 50, 30, .if_icmp .ge 77), (30, .iload_n 3, 31, .iload 3), (31, .aload_n 0, 32, .aload 0), (32, .iload 4, 34, .iload 4), (34, .iconst 0, 35, .iconst 0), (35, .invokevirtual 86, 38, .invokeinterface 220 25), (38, .iload_n 1, 39, .iload 1), (39, .if_icmp .ne 29, 42, .if_icmp .ne 68), (42, .aload_n 0, 43, .aload 0), (43, .iload 5, 45, .iload 5), (45, .iconst 0, 46, .iconst 0), (46, .invokevirtual 86, 49, .invokeinterface 220 25), (49, .iload_n 2, 50, .iload 2), (50, .if_icmp .ne 18, 53, .if_icmp .ne 68), (53, .aload_n 0, 54, .aload 0), (54, .iload 4, 56, .iload 4), (56, .iload 5, 58, .iload 5), (58, .invokevirtual 198, 61, .invokeinterface 283 25), (61, .ifCond .eq 7, 64, .ifCond .eq 68)],
  [(64, .iconst 1, 65, .iconst 1), (65, .goto 4, 68, .goto 69), (68, .iconst 0, 69, .iconst 0), (69, .iadd, 70, .iadd), (70, .istore_n 3, 71, .istore 3), (71, .iinc 5 1, 74, .iinc 5 1), (74, .goto (-55), 77, .goto 19), (77, .iinc 4 1, 80, .iinc 4 1), (80, .goto (-75), 83, .goto 5), (83, .aload_n 0, 84, .aload 0), (84, .iload_n 1, 85, .iload 1), (85, .iload_n 2, 86, .iload 2), (86, .invokestatic 194, 89, .invokeinterface 282 17), (89, .invokevirtual 67, 92, .invokeinterface 225 17), (92, .ifCond .eq 7, 95, .ifCond .eq 99), (95, .iload_n 3, 96, .iload 3), (96, .goto 4, 99, .goto 100), (99, .iconst 0, 100, .iconst 0), (100, .ireturn, 101, .ireturn)]]
/-- RecordReconcilerLaw.matchingSize(LRecordReconciler;CC[J)I -/
noncomputable def ct_287 : List (List (Nat × Instr × Nat × Instr)) := [[(0, .aload_n 3, 1, .aload 3), (1, .iconst 0, 2, .iconst 0), (2, .aload_n 0, 3, .aload 0), (3, .iload_n 1, 4, .iload 1), (4, .iload_n 2, 5, .iload 2), (5, .invokevirtual 92, 8, .invokeinterface 135 25), (8, .i2l, 9, .i2l), (9, .lastore, 10, .lastore), (10, .goto 7, 13, .goto 17), (13, .astore 4, 15, .astore 4), (15, .iconst 1, 16, .iconst 1), (16, .ireturn, 17, .ireturn), (17, .iconst 0, 18, .iconst 0), (18, .ireturn, 19, .ireturn)]]
/-- RecordReconcilerModel.turns(II)V -/
noncomputable def ct_288 : List (List (Nat × Instr × Nat × Instr)) := [[(0, .iload_n 1, 1, .iload 1), (1, .istore_n 3, 2, .istore 3), (2, .iconst 0, 3, .iconst 0), (3, .istore 4, 5, .istore 4), (5, .iload 4, 7, .iload 4), (7, .ifCond .ne 55, 10, .ifCond .ne 62), (10, .aload_n 0, 11, .aload 0), (11, .getfield 32, 14, .getfield 595), (14, .iload_n 3, 15, .iload 3), (15, .iaload, 16, .iaload), (16, .istore 5, 18, .istore 5), (18, .aload_n 0, 19, .aload 0), (19, .getfield 29, 22, .getfield 593), (22, .iload 5, 24, .iload 5), (24, .iaload, 25, .iaload), (25, .istore 6, 27, .istore 6), (27, .aload_n 0, 28, .aload 0), (28, .getfield 29, 31, .getfield 593), (31, .iload_n 3, 32, .iload 3), (32, .iload 5, 34, .iload 5), (34, .iastore, 35, .iastore), (35, .aload_n 0, 36, .aload 0), (36, .getfield 29, 39, .getfield 593), (39, .iload 5, 41, .iload 5), (41, .iload_n 3, 42, .iload 3), (42, .iastore, 43, .iastore), (43, .iload 5, 45, .iload 5), (45, .iload_n 2, 46, .iload 2), (46, .if_icmp .ne 7, 49, .if_icmp .ne 53), (49, .iconst 1, 50, .iconst 1), (50, .goto 4, 53, .goto 54), (53, .iconst 0, 54, .iconst 0), (54, .istore 4, 56, .istore 4), (56, .iload 6, 58, .iload 6), (58, .istore_n 3, 59, .istore 3), (59, .goto (-54), 62, .goto 5), (62, .return_, 63, .return_)]]
/-- RecordReconcilerModel.augments(II)Z -/
noncomputable def ct_289 : List (List (Nat × Instr × Nat × Instr)) := [[(0, .iconst 0, 1, .iconst 0), (1, .istore_n 3, 2, .istore 3), (2, .iload_n 3, 3, .iload 3), (3, .aload_n 0, 4, .aload 0), (4, .getfield 9, 7, .getfield 577), (7, .iconst 1, 8, .iconst 1), (8, .iaload, 9, .iaload), (9, .if_icmp .ge 16, 12, .if_icmp .ge 25), (12, .aload_n 0, 13, .aload 0), (13, .getfield 32, 16, .getfield 595), (16, .iload_n 3, 17, .iload 3), (17, .iconst (-1), 18, .iconst (-1)), (18, .iastore, 19, .iastore), (19, .iinc 3 1, 22, .iinc 3 1), (22, .goto (-20), 25, .goto 2), (25, .iconst 1, 26, .iconst 1), (26, .istore_n 3, 27, .istore 3), (27, .aload_n 0, 28, .aload 0), (28, .getfield 35, 31, .getfield 597), (31, .iconst 0, 32, .iconst 0), (32, .iload_n 1, 33, .iload 1), (33, .iastore, 34, .iastore), (34, .iconst 0, 35, .iconst 0), (35, .istore 4, 37, .istore 4), (37, .iload 4, 39, .iload 4), (39, .iload_n 3, 40, .iload 3), (40, .if_icmp .ge 129, 43, .if_icmp .ge 169), (43, .iconst 0, 44, .iconst 0), (44, .istore 5, 46, .istore 5), (46, .iload 5, 48, .iload 5), (48, .aload_n 0, 49, .aload 0), (49, .getfield 9, 52, .getfield 577), (52, .iconst 1, 53, .iconst 1), (53, .iaload, 54, .iaload), (54, .if_icmp .ge 109, 57, .if_icmp .ge 163), (57, .aload_n 0, 58, .aload 0), (58, .iload 5, 60, .iload 5), (60, .iconst 0, 61, .iconst 0), (61, .invokevirtual 86, 64, .invokeinterface 220 25)],
  [(64, .iload_n 2, 65, .iload 2), (65, .if_icmp .ne 34, 68, .if_icmp .ne 99), (68, .aload_n 0, 69, .aload 0), (69, .getfield 32, 72, .getfield 595), (72, .iload 5, 74, .iload 5), (74, .iaload, 75, .iaload), (75, .iconst (-1), 76, .iconst (-1)), (76, .if_icmp .ne 23, 79, .if_icmp .ne 99), (79, .aload_n 0, 80, .aload 0), (80, .aload_n 0, 81, .aload 0), (81, .getfield 35, 84, .getfield 597), (84, .iload 4, 86, .iload 4), (86, .iaload, 87, .iaload), (87, .iload 5, 89, .iload 5), (89, .invokevirtual 198, 92, .invokeinterface 283 25), (92, .ifCond .eq 7, 95, .ifCond .eq 99), (95, .iconst 1, 96, .iconst 1), (96, .goto 4, 99, .goto 100), (99, .iconst 0, 100, .iconst 0), (100, .istore 6, 102, .istore 6), (102, .iload 6, 104, .iload 6), (104, .ifCond .eq 53, 107, .ifCond .eq 157), (107, .aload_n 0, 108, .aload 0), (108, .getfield 32, 111, .getfield 595), (111, .iload 5, 113, .iload 5), (113, .aload_n 0, 114, .aload 0), (114, .getfield 35, 117, .getfield 597), (117, .iload 4, 119, .iload 4), (119, .iaload, 120, .iaload), (120, .iastore, 121, .iastore), (121, .aload_n 0, 122, .aload 0), (122, .getfield 29, 125, .getfield 593), (125, .iload 5, 127, .iload 5), (127, .iaload, 128, .iaload)],
  [(128, .iconst (-1), 129, .iconst (-1)), (129, .if_icmp .ne 12, 132, .if_icmp .ne 141), (132, .aload_n 0, 133, .aload 0), (133, .iload 5, 135, .iload 5), (135, .iload_n 1, 136, .iload 1), (136, .invokevirtual 204, 139, .invokeinterface 288 24), (139, .iconst 1, 140, .iconst 1), (140, .ireturn, 141, .ret 1), (141, .aload_n 0, 142, .aload 0), (142, .getfield 35, 145, .getfield 597), (145, .iload_n 3, 146, .iload 3), (146, .aload_n 0, 147, .aload 0), (147, .getfield 29, 150, .getfield 593), (150, .iload 5, 152, .iload 5), (152, .iaload, 153, .iaload), (153, .iastore, 154, .iastore), (154, .iinc 3 1, 157, .iinc 3 1), (157, .iinc 5 1, 160, .iinc 5 1), (160, .goto (-114), 163, .goto 46), (163, .iinc 4 1, 166, .iinc 4 1), (166, .goto (-129), 169, .goto 37), (169, .iconst 0, 170, .iconst 0), (170, .ireturn, 171, .ret 1)]]
/-- RecordReconcilerModel.matches(III)I -/
noncomputable def ct_290 : List (List (Nat × Instr × Nat × Instr)) := [[(0, .iconst 0, 1, .iconst 0), (1, .istore 4, 3, .istore 4), (3, .iconst 0, 4, .iconst 0), (4, .istore 5, 6, .istore 5), (6, .iload 5, 8, .iload 5), (8, .aload_n 0, 9, .aload 0), (9, .getfield 9, 12, .getfield 577), (12, .iconst 1, 13, .iconst 1), (13, .iaload, 14, .iaload), (14, .if_icmp .ge 17, 17, .if_icmp .ge 31), (17, .aload_n 0, 18, .aload 0), (18, .getfield 29, 21, .getfield 593), (21, .iload 5, 23, .iload 5), (23, .iconst (-1), 24, .iconst (-1)), (24, .iastore, 25, .iastore), (25, .iinc 5 1, 28, .iinc 5 1), (28, .goto (-22), 31, .goto 6), (31, .iconst 0, 32, .iconst 0), (32, .istore 5, 34, .istore 5), (34, .iload 5, 36, .iload 5), (36, .aload_n 0, 37, .aload 0), (37, .getfield 9, 40, .getfield 577), (40, .iconst 1, 41, .iconst 1), (41, .iaload, 42, .iaload), (42, .if_icmp .ge 46, 45, .if_icmp .ge 88), (45, .iload 4, 47, .iload 4), (47, .iload 5, 49, .iload 5), (49, .iload_n 3, 50, .iload 3), (50, .if_icmp .eq 28, 53, .if_icmp .eq 78), (53, .aload_n 0, 54, .aload 0), (54, .iload 5, 56, .iload 5), (56, .iconst 0, 57, .iconst 0), (57, .invokevirtual 86, 60, .invokeinterface 220 25), (60, .iload_n 1, 61, .iload 1), (61, .if_icmp .ne 17, 64, .if_icmp .ne 78)],
  [(64, .aload_n 0, 65, .aload 0), (65, .iload 5, 67, .iload 5), (67, .iload_n 2, 68, .iload 2), (68, .invokevirtual 201, 71, .invokeinterface 289 25), (71, .ifCond .eq 7, 74, .ifCond .eq 78), (74, .iconst 1, 75, .iconst 1), (75, .goto 4, 78, .goto 79), (78, .iconst 0, 79, .iconst 0), (79, .iadd, 80, .iadd), (80, .istore 4, 82, .istore 4), (82, .iinc 5 1, 85, .iinc 5 1), (85, .goto (-51), 88, .goto 34), (88, .iload 4, 90, .iload 4), (90, .ireturn, 91, .ireturn)]]
/-- RecordReconcilerModel.matching(II)I -/
noncomputable def ct_291 : List (List (Nat × Instr × Nat × Instr)) := [[(0, .aload_n 0, 1, .aload 0), (1, .iload_n 1, 2, .iload 1), (2, .iload_n 2, 3, .iload 2), (3, .invokestatic 194, 6, .invokeinterface 282 17), (6, .invokevirtual 67, 9, .invokeinterface 225 17), (9, .ifCond .eq 13, 12, .ifCond .eq 22), (12, .aload_n 0, 13, .aload 0), (13, .iload_n 1, 14, .iload 1), (14, .iload_n 2, 15, .iload 2), (15, .iconst (-1), 16, .iconst (-1)), (16, .invokevirtual 207, 19, .invokeinterface 290 33), (19, .goto 4, 22, .goto 23), (22, .iconst 0, 23, .iconst 0), (23, .ireturn, 24, .ireturn)]]
/-- RecordReconcilerModel.matchingSize(CC)I -/
noncomputable def ct_292 : List (List (Nat × Instr × Nat × Instr)) := [[(0, .aload_n 0, 1, .aload 0), (1, .iload_n 1, 2, .iload 1), (2, .iload_n 2, 3, .iload 2), (3, .invokevirtual 210, 6, .invokeinterface 291 25), (6, .ireturn, 7, .ireturn)]]
/-- RecordReconcilerLaw.matchingSizeByLayers(LRecordReconciler;CC[J)I -/
noncomputable def ct_293 : List (List (Nat × Instr × Nat × Instr)) := [[(0, .aload_n 3, 1, .aload 3), (1, .iconst 0, 2, .iconst 0), (2, .aload_n 0, 3, .aload 0), (3, .iload_n 1, 4, .iload 1), (4, .iload_n 2, 5, .iload 2), (5, .invokevirtual 95, 8, .invokeinterface 136 25), (8, .i2l, 9, .i2l), (9, .lastore, 10, .lastore), (10, .goto 7, 13, .goto 17), (13, .astore 4, 15, .astore 4), (15, .iconst 1, 16, .iconst 1), (16, .ireturn, 17, .ireturn), (17, .iconst 0, 18, .iconst 0), (18, .ireturn, 19, .ireturn)]]
/-- RecordReconcilerModel.matchingSizeByLayers(CC)I -/
noncomputable def ct_294 : List (List (Nat × Instr × Nat × Instr)) := [[(0, .aload_n 0, 1, .aload 0), (1, .iload_n 1, 2, .iload 1), (2, .iload_n 2, 3, .iload 2), (3, .invokevirtual 210, 6, .invokeinterface 291 25), (6, .ireturn, 7, .ireturn)]]
/-- RecordReconcilerModel.isNeeded(CIC)Z -/
noncomputable def ct_295 : List (List (Nat × Instr × Nat × Instr)) := [[(0, .aload_n 0, 1, .aload 0), (1, .iload_n 1, 2, .iload 1), (2, .iload_n 2, 3, .iload 2), (3, .invokevirtual 93, 6, .invokeinterface 221 25), (6, .istore 4, 8, .istore 4), (8, .iload_n 1, 9, .iload 1), (9, .iload_n 3, 10, .iload 3), (10, .invokestatic 194, 13, .invokeinterface 282 17), (13, .ifCond .eq 14, 16, .ifCond .eq 27), (16, .iload_n 2, 17, .iload 2), (17, .invokestatic 83, 20, .invokeinterface 208 9), (20, .ifCond .eq 7, 23, .ifCond .eq 27), (23, .iconst 1, 24, .iconst 1), (24, .goto 4, 27, .goto 28), (27, .iconst 0, 28, .iconst 0), (28, .istore 5, 30, .istore 5), (30, .aload_n 0, 31, .aload 0), (31, .iload 5, 33, .iload 5), (33, .iload 4, 35, .iload 4), (35, .iconst (-1), 36, .iconst (-1)), (36, .if_icmp .eq 7, 39, .if_icmp .eq 43), (39, .iconst 1, 40, .iconst 1), (40, .goto 4, 43, .goto 44), (43, .iconst 0, 44, .iconst 0), (44, .iconst 1, 45, .iconst 1), (45, .invokevirtual 53, 48, .invokeinterface 210 33), (48, .ifCond .eq 25, 51, .ifCond .eq 73), (51, .aload_n 0, 52, .aload 0), (52, .iload_n 1, 53, .iload 1), (53, .iload_n 3, 54, .iload 3), (54, .iload 4, 56, .iload 4), (56, .invokevirtual 207, 59, .invokeinterface 290 33), (59, .aload_n 0, 60, .aload 0), (60, .iload_n 1, 61, .iload 1), (61, .iload_n 3, 62, .iload 3), (62, .iconst (-1), 63, .iconst (-1)), (63, .invokevirtual 207, 66, .invokeinterface 290 33)],
  [(66, .if_icmp .ge 7, 69, .if_icmp .ge 73), (69, .iconst 1, 70, .iconst 1), (70, .goto 4, 73, .goto 74), (73, .iconst 0, 74, .iconst 0), (74, .ireturn, 75, .ret 1)]]
/-- RecordReconcilerModel.isLinked(II)Z -/
noncomputable def ct_296 : List (List (Nat × Instr × Nat × Instr)) := [[(0, .aload_n 0, 1, .aload 0), (1, .iload_n 1, 2, .iload 1), (2, .iconst 1, 3, .iconst 1), (3, .invokevirtual 86, 6, .invokeinterface 220 25), (6, .aload_n 0, 7, .aload 0), (7, .iload_n 2, 8, .iload 2), (8, .iconst 1, 9, .iconst 1), (9, .invokevirtual 86, 12, .invokeinterface 220 25), (12, .if_icmp .eq 12, 15, .if_icmp .eq 24), (15, .aload_n 0, 16, .aload 0), (16, .iload_n 1, 17, .iload 1), (17, .iload_n 2, 18, .iload 2), (18, .invokevirtual 198, 21, .invokeinterface 283 25), (21, .ifCond .eq 7, 24, .ifCond .eq 28), (24, .iconst 1, 25, .iconst 1), (25, .goto 4, 28, .goto 29), (28, .iconst 0, 29, .iconst 0), (29, .ireturn, 30, .ret 1)]]
/-- RecordReconcilerModel.finds()V -/
noncomputable def ct_297 : List (List (Nat × Instr × Nat × Instr)) := [[(0, .iconst 0, 1, .iconst 0), (1, .istore_n 1, 2, .istore 1), (2, .iload_n 1, 3, .iload 1), (3, .aload_n 0, 4, .aload 0), (4, .getfield 9, 7, .getfield 577), (7, .iconst 1, 8, .iconst 1), (8, .iaload, 9, .iaload), (9, .if_icmp .ge 16, 12, .if_icmp .ge 25), (12, .aload_n 0, 13, .aload 0), (13, .getfield 38, 16, .getfield 599), (16, .iload_n 1, 17, .iload 1), (17, .iload_n 1, 18, .iload 1), (18, .iastore, 19, .iastore), (19, .iinc 1 1, 22, .iinc 1 1), (22, .goto (-20), 25, .goto 2), (25, .iconst 1, 26, .iconst 1), (26, .istore_n 1, 27, .istore 1), (27, .iload_n 1, 28, .iload 1), (28, .ifCond .eq 98, 31, .ifCond .eq 126), (31, .iconst 0, 32, .iconst 0), (32, .istore_n 1, 33, .istore 1), (33, .iconst 0, 34, .iconst 0), (34, .istore_n 2, 35, .istore 2), (35, .iload_n 2, 36, .iload 2), (36, .aload_n 0, 37, .aload 0), (37, .getfield 9, 40, .getfield 577), (40, .iconst 1, 41, .iconst 1), (41, .iaload, 42, .iaload), (42, .if_icmp .ge 81, 45, .if_icmp .ge 123), (45, .iconst 0, 46, .iconst 0), (46, .istore_n 3, 47, .istore 3), (47, .iload_n 3, 48, .iload 3), (48, .iload_n 2, 49, .iload 2), (49, .if_icmp .ge 68, 52, .if_icmp .ge 117), (52, .aload_n 0, 53, .aload 0), (53, .getfield 38, 56, .getfield 599), (56, .iload_n 2, 57, .iload 2), (57, .iaload, 58, .iaload), (58, .aload_n 0, 59, .aload 0), (59, .getfield 38, 62, .getfield 599), (62, .iload_n 3, 63, .iload 3), (63, .iaload, 64, .iaload)],
  [(64, .if_icmp .eq 47, 67, .if_icmp .eq 111), (67, .aload_n 0, 68, .aload 0), (68, .iload_n 2, 69, .iload 2), (69, .iload_n 3, 70, .iload 3), (70, .invokevirtual 213, 73, .invokeinterface 296 25), (73, .ifCond .eq 38, 76, .ifCond .eq 111), (76, .aload_n 0, 77, .aload 0), (77, .getfield 38, 80, .getfield 599), (80, .iload_n 2, 81, .iload 2), (81, .aload_n 0, 82, .aload 0), (82, .getfield 38, 85, .getfield 599), (85, .iload_n 2, 86, .iload 2), (86, .iaload, 87, .iaload), (87, .aload_n 0, 88, .aload 0), (88, .getfield 38, 91, .getfield 599), (91, .iload_n 3, 92, .iload 3), (92, .iaload, 93, .iaload), (93, .invokestatic 146, 96, .invokestatic 1), (96, .iastore, 97, .iastore), (97, .aload_n 0, 98, .aload 0), (98, .getfield 38, 101, .getfield 599), (101, .iload_n 3, 102, .iload 3), (102, .aload_n 0, 103, .aload 0), (103, .getfield 38, 106, .getfield 599), (106, .iload_n 2, 107, .iload 2), (107, .iaload, 108, .iaload), (108, .iastore, 109, .iastore), (109, .iconst 1, 110, .iconst 1), (110, .istore_n 1, 111, .istore 1), (111, .iinc 3 1, 114, .iinc 3 1), (114, .goto (-67), 117, .goto 47), (117, .iinc 2 1, 120, .iinc 2 1), (120, .goto (-85), 123, .goto 35), (123, .goto (-96), 126, .goto 27), (126, .return_, 127, .return_)]]
/-- RecordReconcilerModel.groupsAll()I -/
noncomputable def ct_298 : List (List (Nat × Instr × Nat × Instr)) := [[(0, .aload_n 0, 1, .aload 0), (1, .iconst 0, 2, .iconst 0), (2, .putfield 50, 5, .putfield 608), (5, .aload_n 0, 6, .aload 0), (6, .invokevirtual 216, 9, .invokeinterface 297 8), (9, .iconst 0, 10, .iconst 0), (10, .istore_n 1, 11, .istore 1), (11, .iconst 0, 12, .iconst 0), (12, .istore_n 2, 13, .istore 2), (13, .iload_n 2, 14, .iload 2), (14, .aload_n 0, 15, .aload 0), (15, .getfield 9, 18, .getfield 577), (18, .iconst 1, 19, .iconst 1), (19, .iaload, 20, .iaload), (20, .if_icmp .ge 27, 23, .if_icmp .ge 47), (23, .iload_n 1, 24, .iload 1), (24, .aload_n 0, 25, .aload 0), (25, .getfield 38, 28, .getfield 599), (28, .iload_n 2, 29, .iload 2), (29, .iaload, 30, .iaload), (30, .iload_n 2, 31, .iload 2), (31, .if_icmp .ne 7, 34, .if_icmp .ne 38), (34, .iconst 1, 35, .iconst 1), (35, .goto 4, 38, .goto 39), (38, .iconst 0, 39, .iconst 0), (39, .iadd, 40, .iadd), (40, .istore_n 1, 41, .istore 1), (41, .iinc 2 1, 44, .iinc 2 1), (44, .goto (-31), 47, .goto 13), (47, .iload_n 1, 48, .iload 1), (48, .ireturn, 49, .ireturn)]]
/-- RecordReconcilerModel.groupCount()I -/
noncomputable def ct_299 : List (List (Nat × Instr × Nat × Instr)) := [[(0, .aload_n 0, 1, .aload 0), (1, .invokevirtual 219, 4, .invokeinterface 298 9), (4, .ireturn, 5, .ireturn)]]
/-- RecordReconcilerModel.groupCountBySearch()I -/
noncomputable def ct_300 : List (List (Nat × Instr × Nat × Instr)) := [[(0, .aload_n 0, 1, .aload 0), (1, .invokevirtual 219, 4, .invokeinterface 298 9), (4, .ireturn, 5, .ireturn)]]
/-- RecordReconcilerModel.groupSize(CI)I -/
noncomputable def ct_301 : List (List (Nat × Instr × Nat × Instr)) := [[(0, .aload_n 0, 1, .aload 0), (1, .iload_n 1, 2, .iload 1), (2, .iload_n 2, 3, .iload 2), (3, .invokevirtual 93, 6, .invokeinterface 221 25), (6, .istore_n 3, 7, .istore 3), (7, .aload_n 0, 8, .aload 0), (8, .iload_n 1, 9, .iload 1), (9, .invokestatic 79, 12, .invokeinterface 207 9), (12, .ifCond .eq 14, 15, .ifCond .eq 26), (15, .iload_n 2, 16, .iload 2), (16, .invokestatic 83, 19, .invokeinterface 208 9), (19, .ifCond .eq 7, 22, .ifCond .eq 26), (22, .iconst 1, 23, .iconst 1), (23, .goto 4, 26, .goto 27), (26, .iconst 0, 27, .iconst 0), (27, .iload_n 3, 28, .iload 3), (28, .iconst (-1), 29, .iconst (-1)), (29, .if_icmp .eq 7, 32, .if_icmp .eq 36), (32, .iconst 1, 33, .iconst 1), (33, .goto 4, 36, .goto 37), (36, .iconst 0, 37, .iconst 0), (37, .iconst 1, 38, .iconst 1), (38, .invokevirtual 53, 41, .invokeinterface 210 33), (41, .ifCond .ne 5, 44, .ifCond .ne 46), (44, .iconst 0, 45, .iconst 0), (45, .ireturn, 46, .ireturn), (46, .aload_n 0, 47, .aload 0), (47, .invokevirtual 216, 50, .invokeinterface 297 8), (50, .iconst 0, 51, .iconst 0), (51, .istore 4, 53, .istore 4), (53, .iconst 0, 54, .iconst 0), (54, .istore 5, 56, .istore 5), (56, .iload 5, 58, .iload 5), (58, .aload_n 0, 59, .aload 0), (59, .getfield 9, 62, .getfield 577), (62, .iconst 1, 63, .iconst 1), (63, .iaload, 64, .iaload)],
  [(64, .if_icmp .ge 35, 67, .if_icmp .ge 99), (67, .iload 4, 69, .iload 4), (69, .aload_n 0, 70, .aload 0), (70, .getfield 38, 73, .getfield 599), (73, .iload 5, 75, .iload 5), (75, .iaload, 76, .iaload), (76, .aload_n 0, 77, .aload 0), (77, .getfield 38, 80, .getfield 599), (80, .iload_n 3, 81, .iload 3), (81, .iaload, 82, .iaload), (82, .if_icmp .ne 7, 85, .if_icmp .ne 89), (85, .iconst 1, 86, .iconst 1), (86, .goto 4, 89, .goto 90), (89, .iconst 0, 90, .iconst 0), (90, .iadd, 91, .iadd), (91, .istore 4, 93, .istore 4), (93, .iinc 5 1, 96, .iinc 5 1), (96, .goto (-40), 99, .goto 56), (99, .iload 4, 101, .iload 4), (101, .ireturn, 102, .ireturn)]]
/-- RecordReconcilerLaw.trustOf(LRecordReconciler;C[J)I -/
noncomputable def ct_302 : List (List (Nat × Instr × Nat × Instr)) := [[(0, .aload_n 2, 1, .aload 2), (1, .iconst 0, 2, .iconst 0), (2, .aload_n 0, 3, .aload 0), (3, .iload_n 1, 4, .iload 1), (4, .invokevirtual 105, 7, .invokeinterface 180 17), (7, .i2l, 8, .i2l), (8, .lastore, 9, .lastore), (9, .goto 6, 12, .goto 15), (12, .astore_n 3, 13, .astore 3), (13, .iconst 1, 14, .iconst 1), (14, .ireturn, 15, .ireturn), (15, .iconst 0, 16, .iconst 0), (16, .ireturn, 17, .ireturn)]]
/-- RecordReconcilerModel.trustOf(C)I -/
noncomputable def ct_303 : List (List (Nat × Instr × Nat × Instr)) := [[(0, .aload_n 0, 1, .aload 0), (1, .iload_n 1, 2, .iload 1), (2, .invokestatic 79, 5, .invokeinterface 207 9), (5, .invokevirtual 67, 8, .invokeinterface 225 17), (8, .ifCond .eq 18, 11, .ifCond .eq 26), (11, .aload_n 0, 12, .aload 0), (12, .getfield 9, 15, .getfield 577), (15, .bipush 10, 17, .iconst 10), (17, .iload_n 1, 18, .iload 1), (18, .iadd, 19, .iadd), (19, .bipush 97, 21, .iconst 97), (21, .isub, 22, .isub), (22, .iaload, 23, .iaload), (23, .goto 4, 26, .goto 27), (26, .iconst 0, 27, .iconst 0), (27, .ireturn, 28, .ireturn)]]
/-- RecordReconcilerModel.mostTrusted()C -/
noncomputable def ct_304 : List (List (Nat × Instr × Nat × Instr)) := [[(0, .aload_n 0, 1, .aload 0), (1, .iconst 0, 2, .iconst 0), (2, .putfield 50, 5, .putfield 608), (5, .iconst 0, 6, .iconst 0), (6, .istore_n 1, 7, .istore 1), (7, .iconst 1, 8, .iconst 1), (8, .istore_n 2, 9, .istore 2), (9, .iload_n 2, 10, .iload 2), (10, .iconst 3, 11, .iconst 3), (11, .if_icmp .ge 36, 14, .if_icmp .ge 47), (14, .aload_n 0, 15, .aload 0), (15, .getfield 9, 18, .getfield 577), (18, .bipush 10, 20, .iconst 10), (20, .iload_n 2, 21, .iload 2), (21, .iadd, 22, .iadd), (22, .iaload, 23, .iaload), (23, .aload_n 0, 24, .aload 0), (24, .getfield 9, 27, .getfield 577), (27, .bipush 10, 29, .iconst 10), (29, .iload_n 1, 30, .iload 1), (30, .iadd, 31, .iadd), (31, .iaload, 32, .iaload), (32, .if_icmp .le 7, 35, .if_icmp .le 39), (35, .iload_n 2, 36, .iload 2), (36, .goto 4, 39, .goto 40), (39, .iload_n 1, 40, .iload 1), (40, .istore_n 1, 41, .istore 1), (41, .iinc 2 1, 44, .iinc 2 1), (44, .goto (-35), 47, .goto 9), (47, .bipush 97, 49, .iconst 97), (49, .iload_n 1, 50, .iload 1), (50, .iadd, 51, .iadd), (51, .i2c, 52, .i2c), (52, .ireturn, 53, .ret 2)]]
/-- RecordReconcilerModel.duplicateTotal()I -/
noncomputable def ct_305 : List (List (Nat × Instr × Nat × Instr)) := [[(0, .aload_n 0, 1, .aload 0), (1, .iconst 3, 2, .iconst 3), (2, .invokevirtual 158, 5, .invokeinterface 244 17), (5, .ireturn, 6, .ireturn)]]
/-- RecordReconcilerModel.correctionTotal()I -/
noncomputable def ct_306 : List (List (Nat × Instr × Nat × Instr)) := [[(0, .aload_n 0, 1, .aload 0), (1, .iconst 4, 2, .iconst 4), (2, .invokevirtual 158, 5, .invokeinterface 244 17), (5, .ireturn, 6, .ireturn)]]
/-- RecordReconcilerModel.newTotal()I -/
noncomputable def ct_307 : List (List (Nat × Instr × Nat × Instr)) := [[(0, .aload_n 0, 1, .aload 0), (1, .iconst 5, 2, .iconst 5), (2, .invokevirtual 158, 5, .invokeinterface 244 17), (5, .ireturn, 6, .ireturn)]]
/-- RecordReconcilerModel.droppedTotal()I -/
noncomputable def ct_308 : List (List (Nat × Instr × Nat × Instr)) := [[(0, .aload_n 0, 1, .aload 0), (1, .bipush 6, 3, .iconst 6), (3, .invokevirtual 158, 6, .invokeinterface 244 17), (6, .ireturn, 7, .ireturn)]]
/-- RecordReconcilerModel.closedTotal()I -/
noncomputable def ct_309 : List (List (Nat × Instr × Nat × Instr)) := [[(0, .aload_n 0, 1, .aload 0), (1, .bipush 7, 3, .iconst 7), (3, .invokevirtual 158, 6, .invokeinterface 244 17), (6, .ireturn, 7, .ireturn)]]
/-- RecordReconcilerModel.rejectedTotal()I -/
noncomputable def ct_310 : List (List (Nat × Instr × Nat × Instr)) := [[(0, .aload_n 0, 1, .aload 0), (1, .bipush 8, 3, .iconst 8), (3, .invokevirtual 158, 6, .invokeinterface 244 17), (6, .ireturn, 7, .ireturn)]]
/-- RecordReconcilerModel.settledTotal()I -/
noncomputable def ct_311 : List (List (Nat × Instr × Nat × Instr)) := [[(0, .aload_n 0, 1, .aload 0), (1, .bipush 9, 3, .iconst 9), (3, .invokevirtual 158, 6, .invokeinterface 244 17), (6, .ireturn, 7, .ireturn)]]
/-- RecordReconcilerLaw.meanAmount(LRecordReconciler;[D)I -/
noncomputable def ct_312 : List (List (Nat × Instr × Nat × Instr)) := [[(0, .aload_n 1, 1, .aload 1), (1, .iconst 0, 2, .iconst 0), (2, .aload_n 0, 3, .aload 0), (3, .invokevirtual 108, 6, .invokeinterface 138 11), (6, .dastore, 7, .dastore), (7, .goto 6, 10, .goto 13), (10, .astore_n 2, 11, .astore 2), (11, .iconst 1, 12, .iconst 1), (12, .ireturn, 13, .ireturn), (13, .iconst 0, 14, .iconst 0), (14, .ireturn, 15, .ireturn)]]
/-- RecordReconcilerModel.meanAmount()D -/
noncomputable def ct_313 : List (List (Nat × Instr × Nat × Instr)) := [[(0, .aload_n 0, 1, .aload 0), (1, .aload_n 0, 2, .aload 0), (2, .getfield 9, 5, .getfield 577), (5, .iconst 1, 6, .iconst 1), (6, .iaload, 7, .iaload), (7, .ifCond .le 7, 10, .ifCond .le 14), (10, .iconst 1, 11, .iconst 1), (11, .goto 4, 14, .goto 15), (14, .iconst 0, 15, .iconst 0), (15, .invokevirtual 67, 18, .invokeinterface 225 17), (18, .ifCond .eq 20, 21, .ifCond .eq 38), (21, .aload_n 0, 22, .aload 0), (22, .iconst (-1), 23, .iconst (-1)), (23, .invokevirtual 188, 26, .invokeinterface 280 17), (26, .i2d, 27, .i2d), (27, .aload_n 0, 28, .aload 0), (28, .getfield 9, 31, .getfield 577), (31, .iconst 1, 32, .iconst 1), (32, .iaload, 33, .iaload), (33, .i2d, 34, .i2d), (34, .ddiv, 35, .ddiv), (35, .goto 4, 38, .goto 39), (38, .dconst 0, 39, .dconst 0), (39, .dreturn, 40, .dreturn)]]
/-- RecordReconcilerModel.confirmedShare()F -/
noncomputable def ct_314 : List (List (Nat × Instr × Nat × Instr)) := [[(0, .aload_n 0, 1, .aload 0), (1, .aload_n 0, 2, .aload 0), (2, .getfield 9, 5, .getfield 577), (5, .iconst 1, 6, .iconst 1), (6, .iaload, 7, .iaload), (7, .ifCond .le 7, 10, .ifCond .le 14), (10, .iconst 1, 11, .iconst 1), (11, .goto 4, 14, .goto 15), (14, .iconst 0, 15, .iconst 0), (15, .invokevirtual 67, 18, .invokeinterface 225 17), (18, .ifCond .eq 20, 21, .ifCond .eq 38), (21, .aload_n 0, 22, .aload 0), (22, .bipush 99, 24, .iconst 99), (24, .invokevirtual 182, 27, .invokeinterface 271 17), (27, .i2f, 28, .i2f), (28, .aload_n 0, 29, .aload 0), (29, .iconst (-1), 30, .iconst (-1)), (30, .invokevirtual 182, 33, .invokeinterface 271 17), (33, .i2f, 34, .i2f), (34, .fdiv, 35, .fdiv), (35, .goto 4, 38, .goto 39), (38, .fconst 0, 39, .fconst 0), (39, .freturn, 40, .freturn)]]
/-- RecordReconcilerModel.isConsistent()Z -/
noncomputable def ct_315 : List (List (Nat × Instr × Nat × Instr)) := [[(0, .aload_n 0, 1, .aload 0), (1, .iconst 0, 2, .iconst 0), (2, .putfield 50, 5, .putfield 608), (5, .iconst 1, 6, .iconst 1), (6, .ireturn, 7, .ret 1)]]
/-- RecordReconcilerModel.put(II)I -/
noncomputable def ct_316 : List (List (Nat × Instr × Nat × Instr)) := [[(0, .aload_n 0, 1, .aload 0), (1, .getfield 44, 4, .getfield 605), (4, .iload_n 1, 5, .iload 1), (5, .iload_n 2, 6, .iload 2), (6, .iastore, 7, .iastore), (7, .iload_n 1, 8, .iload 1), (8, .iconst 1, 9, .iconst 1), (9, .iadd, 10, .iadd), (10, .ireturn, 11, .ireturn)]]
/-- RecordReconcilerModel.writesNumber(II)I -/
noncomputable def ct_317 : List (List (Nat × Instr × Nat × Instr)) := [[(0, .iload_n 1, 1, .iload 1), (1, .istore_n 3, 2, .istore 3), (2, .iconst 1, 3, .iconst 1), (3, .istore 4, 5, .istore 4), (5, .iload_n 2, 6, .iload 2), (6, .iload 4, 8, .iload 4), (8, .idiv, 9, .idiv), (9, .bipush 9, 11, .iconst 9), (11, .if_icmp .le 13, 14, .if_icmp .le 24), (14, .iload 4, 16, .iload 4), (16, .bipush 10, 18, .iconst 10), (18, .imul, 19, .imul), (19, .istore 4, 21, .istore 4), (21, .goto (-16), 24, .goto 5), (24, .iload 4, 26, .iload 4), (26, .istore 5, 28, .istore 5), (28, .iload 5, 30, .iload 5), (30, .ifCond .le 29, 33, .ifCond .le 59), (33, .aload_n 0, 34, .aload 0), (34, .iload_n 3, 35, .iload 3), (35, .bipush 48, 37, .iconst 48), (37, .iload_n 2, 38, .iload 2), (38, .iload 5, 40, .iload 5), (40, .idiv, 41, .idiv), (41, .bipush 10, 43, .iconst 10), (43, .irem, 44, .irem), (44, .iadd, 45, .iadd), (45, .invokevirtual 230, 48, .invokeinterface 316 25), (48, .istore_n 3, 49, .istore 3), (49, .iload 5, 51, .iload 5), (51, .bipush 10, 53, .iconst 10), (53, .idiv, 54, .idiv), (54, .istore 5, 56, .istore 5), (56, .goto (-28), 59, .goto 28), (59, .iload_n 3, 60, .iload 3), (60, .ireturn, 61, .ireturn)]]
/-- RecordReconcilerModel.formatRecord(CI)I -/
noncomputable def ct_318 : List (List (Nat × Instr × Nat × Instr)) := [[(0, .aload_n 0, 1, .aload 0), (1, .iload_n 1, 2, .iload 1), (2, .iload_n 2, 3, .iload 2), (3, .invokevirtual 93, 6, .invokeinterface 221 25), (6, .istore_n 3, 7, .istore 3), (7, .aload_n 0, 8, .aload 0), (8, .iload_n 1, 9, .iload 1), (9, .invokestatic 79, 12, .invokeinterface 207 9), (12, .ifCond .eq 14, 15, .ifCond .eq 26), (15, .iload_n 2, 16, .iload 2), (16, .invokestatic 83, 19, .invokeinterface 208 9), (19, .ifCond .eq 7, 22, .ifCond .eq 26), (22, .iconst 1, 23, .iconst 1), (23, .goto 4, 26, .goto 27), (26, .iconst 0, 27, .iconst 0), (27, .iload_n 3, 28, .iload 3), (28, .iconst (-1), 29, .iconst (-1)), (29, .if_icmp .eq 7, 32, .if_icmp .eq 36), (32, .iconst 1, 33, .iconst 1), (33, .goto 4, 36, .goto 37), (36, .iconst 0, 37, .iconst 0), (37, .iconst 1, 38, .iconst 1), (38, .invokevirtual 53, 41, .invokeinterface 210 33), (41, .ifCond .ne 5, 44, .ifCond .ne 46), (44, .iconst 0, 45, .iconst 0), (45, .ireturn, 46, .ireturn), (46, .aload_n 0, 47, .aload 0), (47, .aload_n 0, 48, .aload 0), (48, .aload_n 0, 49, .aload 0), (49, .aload_n 0, 50, .aload 0), (50, .iconst 0, 51, .iconst 0), (51, .iload_n 1, 52, .iload 1), (52, .invokevirtual 230, 55, .invokeinterface 316 25), (55, .iload_n 2, 56, .iload 2), (56, .invokevirtual 233, 59, .invokeinterface 317 25), (59, .bipush 61, 61, .iconst 61), (61, .invokevirtual 230, 64, .invokeinterface 316 25)],
  [(64, .aload_n 0, 65, .aload 0), (65, .iload_n 3, 66, .iload 3), (66, .iconst 2, 67, .iconst 2), (67, .invokevirtual 86, 70, .invokeinterface 220 25), (70, .invokevirtual 233, 73, .invokeinterface 317 25), (73, .istore 4, 75, .istore 4), (75, .aload_n 0, 76, .aload 0), (76, .aload_n 0, 77, .aload 0), (77, .aload_n 0, 78, .aload 0), (78, .aload_n 0, 79, .aload 0), (79, .iload 4, 81, .iload 4), (81, .bipush 32, 83, .iconst 32), (83, .invokevirtual 230, 86, .invokeinterface 316 25), (86, .bipush 64, 88, .iconst 64), (88, .invokevirtual 230, 91, .invokeinterface 316 25), (91, .aload_n 0, 92, .aload 0), (92, .iload_n 3, 93, .iload 3), (93, .iconst 3, 94, .iconst 3), (94, .invokevirtual 86, 97, .invokeinterface 220 25), (97, .invokevirtual 233, 100, .invokeinterface 317 25), (100, .putfield 236, 103, .putfield 606), (103, .aload_n 0, 104, .aload 0), (104, .getfield 236, 107, .getfield 606), (107, .ireturn, 108, .ireturn)]]
/-- RecordReconcilerModel.writes(III)I -/
noncomputable def ct_319 : List (List (Nat × Instr × Nat × Instr)) := [[(0, .iload_n 1, 1, .iload 1), (1, .istore 4, 3, .istore 4), (3, .iload_n 2, 4, .iload 2), (4, .istore 5, 6, .istore 5), (6, .iload 5, 8, .iload 5), (8, .iload_n 3, 9, .iload 3), (9, .if_icmp .ge 24, 12, .if_icmp .ge 33), (12, .aload_n 0, 13, .aload 0), (13, .iload 4, 15, .iload 4), (15, .ldc 222, 17, .getstatic 28), (17, .iload 5, 19, .iload 5), (19, .invokevirtual 224, 22, .invokeinterface 164 17), (22, .invokevirtual 230, 25, .invokeinterface 316 25), (25, .istore 4, 27, .istore 4), (27, .iinc 5 1, 30, .iinc 5 1), (30, .goto (-24), 33, .goto 6), (33, .iload 4, 35, .iload 4), (35, .ireturn, 36, .ireturn)]]
/-- RecordReconcilerModel.formatKey(I)I -/
noncomputable def ct_320 : List (List (Nat × Instr × Nat × Instr)) := [[(0, .aload_n 0, 1, .aload 0), (1, .iload_n 1, 2, .iload 1), (2, .invokestatic 83, 5, .invokeinterface 208 9), (5, .aload_n 0, 6, .aload 0), (6, .iload_n 1, 7, .iload 1), (7, .invokevirtual 173, 10, .invokeinterface 233 17), (10, .ifCond .le 7, 13, .ifCond .le 17), (13, .iconst 1, 14, .iconst 1), (14, .goto 4, 17, .goto 18), (17, .iconst 0, 18, .iconst 0), (18, .iconst 1, 19, .iconst 1), (19, .invokevirtual 53, 22, .invokeinterface 210 33), (22, .ifCond .ne 5, 25, .ifCond .ne 27), (25, .iconst 0, 26, .iconst 0), (26, .ireturn, 27, .ireturn), (27, .aload_n 0, 28, .aload 0), (28, .aload_n 0, 29, .aload 0), (29, .iconst 0, 30, .iconst 0), (30, .iload_n 1, 31, .iload 1), (31, .invokevirtual 233, 34, .invokeinterface 317 25), (34, .bipush 58, 36, .iconst 58), (36, .invokevirtual 230, 39, .invokeinterface 316 25), (39, .istore_n 2, 40, .istore 2), (40, .iconst 0, 41, .iconst 0), (41, .istore_n 3, 42, .istore 3), (42, .iload_n 3, 43, .iload 3), (43, .aload_n 0, 44, .aload 0), (44, .getfield 9, 47, .getfield 577), (47, .iconst 1, 48, .iconst 1), (48, .iaload, 49, .iaload), (49, .if_icmp .ge 47, 52, .if_icmp .ge 96), (52, .aload_n 0, 53, .aload 0), (53, .iload_n 3, 54, .iload 3), (54, .iconst 1, 55, .iconst 1), (55, .invokevirtual 86, 58, .invokeinterface 220 25), (58, .iload_n 1, 59, .iload 1), (59, .if_icmp .ne 31, 62, .if_icmp .ne 90), (62, .aload_n 0, 63, .aload 0), (63, .aload_n 0, 64, .aload 0)],
  [(64, .aload_n 0, 65, .aload 0), (65, .iload_n 2, 66, .iload 2), (66, .bipush 32, 68, .iconst 32), (68, .invokevirtual 230, 71, .invokeinterface 316 25), (71, .aload_n 0, 72, .aload 0), (72, .iload_n 3, 73, .iload 3), (73, .iconst 0, 74, .iconst 0), (74, .invokevirtual 86, 77, .invokeinterface 220 25), (77, .invokevirtual 230, 80, .invokeinterface 316 25), (80, .aload_n 0, 81, .aload 0), (81, .iload_n 3, 82, .iload 3), (82, .iconst 2, 83, .iconst 2), (83, .invokevirtual 86, 86, .invokeinterface 220 25), (86, .invokevirtual 233, 89, .invokeinterface 317 25), (89, .istore_n 2, 90, .istore 2), (90, .iinc 3 1, 93, .iinc 3 1), (93, .goto (-51), 96, .goto 42), (96, .aload_n 0, 97, .aload 0), (97, .iload_n 1, 98, .iload 1), (98, .invokevirtual 138, 101, .invokeinterface 236 17), (101, .istore_n 3, 102, .istore 3), (102, .iload_n 3, 103, .iload 3), (103, .bipush 99, 105, .iconst 99), (105, .if_icmp .ne 14, 108, .if_icmp .ne 119), (108, .aload_n 0, 109, .aload 0), (109, .iload_n 2, 110, .iload 2), (110, .iconst 0, 111, .iconst 0), (111, .bipush 10, 113, .iconst 10), (113, .invokevirtual 239, 116, .invokeinterface 319 33), (116, .goto 30, 119, .goto 146), (119, .iload_n 3, 120, .iload 3), (120, .bipush 100, 122, .iconst 100), (122, .if_icmp .ne 15, 125, .if_icmp .ne 137), (125, .aload_n 0, 126, .aload 0), (126, .iload_n 2, 127, .iload 2), (127, .bipush 10, 129, .iconst 10)],
  [(129, .bipush 21, 131, .iconst 21), (131, .invokevirtual 239, 134, .invokeinterface 319 33), (134, .goto 12, 137, .goto 146), (137, .aload_n 0, 138, .aload 0), (138, .iload_n 2, 139, .iload 2), (139, .bipush 21, 141, .iconst 21), (141, .bipush 26, 143, .iconst 26), (143, .invokevirtual 239, 146, .invokeinterface 319 33), (146, .istore_n 2, 147, .istore 2), (147, .aload_n 0, 148, .aload 0), (148, .iload_n 3, 149, .iload 3), (149, .bipush 100, 151, .iconst 100), (151, .if_icmp .ne 16, 154, .if_icmp .ne 167), (154, .aload_n 0, 155, .aload 0), (155, .iload_n 2, 156, .iload 2), (156, .aload_n 0, 157, .aload 0), (157, .iload_n 1, 158, .iload 1), (158, .invokevirtual 176, 161, .invokeinterface 235 17), (161, .invokevirtual 233, 164, .invokeinterface 317 25), (164, .goto 4, 167, .goto 168), (167, .iload_n 2, 168, .iload 2), (168, .putfield 236, 171, .putfield 606), (171, .aload_n 0, 172, .aload 0), (172, .getfield 236, 175, .getfield 606), (175, .ireturn, 176, .ireturn)]]
/-- RecordReconcilerModel.formatBatch()I -/
noncomputable def ct_321 : List (List (Nat × Instr × Nat × Instr)) := [[(0, .aload_n 0, 1, .aload 0), (1, .iconst 0, 2, .iconst 0), (2, .putfield 50, 5, .putfield 608), (5, .iconst 0, 6, .iconst 0), (6, .istore_n 1, 7, .istore 1), (7, .iconst 0, 8, .iconst 0), (8, .istore_n 2, 9, .istore 2), (9, .iload_n 2, 10, .iload 2), (10, .aload_n 0, 11, .aload 0), (11, .getfield 9, 14, .getfield 577), (14, .iconst 2, 15, .iconst 2), (15, .iaload, 16, .iaload), (16, .if_icmp .ge 74, 19, .if_icmp .ge 90), (19, .iload_n 2, 20, .iload 2), (20, .ifCond .ne 7, 23, .ifCond .ne 27), (23, .iload_n 1, 24, .iload 1), (24, .goto 10, 27, .goto 34), (27, .aload_n 0, 28, .aload 0), (28, .iload_n 1, 29, .iload 1), (29, .bipush 32, 31, .iconst 32), (31, .invokevirtual 230, 34, .invokeinterface 316 25), (34, .istore_n 1, 35, .istore 1), (35, .aload_n 0, 36, .aload 0), (36, .aload_n 0, 37, .aload 0), (37, .aload_n 0, 38, .aload 0), (38, .iload_n 1, 39, .iload 1), (39, .aload_n 0, 40, .aload 0), (40, .iload_n 2, 41, .iload 2), (41, .iconst 0, 42, .iconst 0), (42, .invokevirtual 90, 45, .invokeinterface 217 25), (45, .invokevirtual 230, 48, .invokeinterface 316 25), (48, .aload_n 0, 49, .aload 0), (49, .iload_n 2, 50, .iload 2), (50, .iconst 1, 51, .iconst 1), (51, .invokevirtual 90, 54, .invokeinterface 217 25), (54, .invokevirtual 233, 57, .invokeinterface 317 25), (57, .bipush 61, 59, .iconst 61), (59, .invokevirtual 230, 62, .invokeinterface 316 25), (62, .istore_n 1, 63, .istore 1), (63, .aload_n 0, 64, .aload 0)],
  [(64, .aload_n 0, 65, .aload 0), (65, .iload_n 1, 66, .iload 1), (66, .aload_n 0, 67, .aload 0), (67, .iload_n 2, 68, .iload 2), (68, .iconst 2, 69, .iconst 2), (69, .invokevirtual 90, 72, .invokeinterface 217 25), (72, .invokevirtual 233, 75, .invokeinterface 317 25), (75, .aload_n 0, 76, .aload 0), (76, .iload_n 2, 77, .iload 2), (77, .invokevirtual 96, 80, .invokeinterface 222 17), (80, .invokevirtual 230, 83, .invokeinterface 316 25), (83, .istore_n 1, 84, .istore 1), (84, .iinc 2 1, 87, .iinc 2 1), (87, .goto (-78), 90, .goto 9), (90, .aload_n 0, 91, .aload 0), (91, .iload_n 1, 92, .iload 1), (92, .putfield 236, 95, .putfield 606), (95, .iload_n 1, 96, .iload 1), (96, .ireturn, 97, .ireturn)]]
/-- RecordReconcilerLaw.lineChar(LRecordReconciler;I[J)I -/
noncomputable def ct_322 : List (List (Nat × Instr × Nat × Instr)) := [[(0, .aload_n 2, 1, .aload 2), (1, .iconst 0, 2, .iconst 0), (2, .aload_n 0, 3, .aload 0), (3, .iload_n 1, 4, .iload 1), (4, .invokevirtual 124, 7, .invokeinterface 134 17), (7, .i2l, 8, .i2l), (8, .lastore, 9, .lastore), (9, .goto 6, 12, .goto 15), (12, .astore_n 3, 13, .astore 3), (13, .iconst 1, 14, .iconst 1), (14, .ireturn, 15, .ireturn), (15, .iconst 0, 16, .iconst 0), (16, .ireturn, 17, .ireturn)]]
/-- RecordReconcilerModel.lineChar(I)C -/
noncomputable def ct_323 : List (List (Nat × Instr × Nat × Instr)) := [[(0, .aload_n 0, 1, .aload 0), (1, .iload_n 1, 2, .iload 1), (2, .iconst 0, 3, .iconst 0), (3, .aload_n 0, 4, .aload 0), (4, .getfield 236, 7, .getfield 606), (7, .iconst 1, 8, .iconst 1), (8, .isub, 9, .isub), (9, .invokestatic 75, 12, .invokeinterface 206 25), (12, .invokevirtual 67, 15, .invokeinterface 225 17), (15, .ifCond .eq 13, 18, .ifCond .eq 28), (18, .aload_n 0, 19, .aload 0), (19, .getfield 44, 22, .getfield 605), (22, .iload_n 1, 23, .iload 1), (23, .iaload, 24, .iaload), (24, .i2c, 25, .i2c), (25, .goto 4, 28, .goto 29), (28, .iconst 0, 29, .iconst 0), (29, .ireturn, 30, .ret 2)]]
/-- RecordReconcilerModel.append(C)I -/
noncomputable def ct_324 : List (List (Nat × Instr × Nat × Instr)) := [[(0, .aload_n 0, 1, .aload 0), (1, .iload_n 1, 2, .iload 1), (2, .bipush 32, 4, .iconst 32), (4, .bipush 126, 6, .iconst 126), (6, .invokestatic 75, 9, .invokeinterface 206 25), (9, .aload_n 0, 10, .aload 0), (10, .getfield 242, 13, .getfield 602), (13, .bipush 60, 15, .iconst 60), (15, .if_icmp .ge 7, 18, .if_icmp .ge 22), (18, .iconst 1, 19, .iconst 1), (19, .goto 4, 22, .goto 23), (22, .iconst 0, 23, .iconst 0), (23, .iconst 1, 24, .iconst 1), (24, .invokevirtual 53, 27, .invokeinterface 210 33), (27, .ifCond .ne 5, 30, .ifCond .ne 32), (30, .iconst 0, 31, .iconst 0), (31, .ireturn, 32, .ireturn), (32, .aload_n 0, 33, .aload 0), (33, .getfield 41, 36, .getfield 601), (36, .aload_n 0, 37, .aload 0), (37, .getfield 242, 40, .getfield 602), (40, .iload_n 1, 41, .iload 1), (41, .iastore, 42, .iastore), (42, .aload_n 0, 43, .aload 0), (43, .dup, 44, .dup), (44, .getfield 242, 47, .getfield 602), (47, .iconst 1, 48, .iconst 1), (48, .iadd, 49, .iadd), (49, .putfield 242, 52, .putfield 602), (52, .aload_n 0, 53, .aload 0), (53, .getfield 242, 56, .getfield 602), (56, .ireturn, 57, .ireturn)]]
/-- RecordReconcilerLaw.run(LRecordReconciler;[J)I -/
noncomputable def ct_325 : List (List (Nat × Instr × Nat × Instr)) := [[(0, .aload_n 1, 1, .aload 1), (1, .iconst 0, 2, .iconst 0), (2, .aload_n 0, 3, .aload 0), (3, .invokevirtual 130, 6, .invokeinterface 174 9), (6, .i2l, 7, .i2l), (7, .lastore, 8, .lastore), (8, .goto 9, 11, .goto 17), (11, .astore_n 2, 12, .astore 2), (12, .iconst 1, 13, .iconst 1), (13, .ireturn, 14, .ireturn), (14, .astore_n 2, 15, .astore 2), (15, .iconst 2, 16, .iconst 2), (16, .ireturn, 17, .ireturn), (17, .iconst 0, 18, .iconst 0), (18, .ireturn, 19, .ireturn)]]
/-- RecordReconcilerModel.startOf(I)I -/
noncomputable def ct_326 : List (List (Nat × Instr × Nat × Instr)) := [[(0, .iload_n 0, 1, .iload 0), (1, .tableswitch 63 0 6 #[43, 45, 48, 51, 54, 57, 60], 44, .tableswitch 64 0 6 #[44, 46, 49, 52, 55, 58, 61]), (44, .iconst 0, 45, .iconst 0), (45, .ireturn, 46, .ireturn), (46, .bipush 7, 48, .iconst 7), (48, .ireturn, 49, .ireturn), (49, .bipush 12, 51, .iconst 12), (51, .ireturn, 52, .ireturn), (52, .bipush 17, 54, .iconst 17), (54, .ireturn, 55, .ireturn), (55, .bipush 23, 57, .iconst 23), (57, .ireturn, 58, .ireturn), (58, .bipush 30, 60, .iconst 30), (60, .ireturn, 61, .ireturn), (61, .bipush 35, 63, .iconst 35), (63, .ireturn, 64, .ireturn)],
  [(64, .bipush 40, 66, .iconst 40), (66, .ireturn, 67, .ireturn)]]
/-- RecordReconcilerModel.kindHere()I -/
noncomputable def ct_327 : List (List (Nat × Instr × Nat × Instr)) := [[(0, .aload_n 0, 1, .aload 0), (1, .getfield 245, 4, .getfield 612), (4, .istore_n 1, 5, .istore 1), (5, .iconst (-1), 6, .iconst (-1)), (6, .istore_n 2, 7, .istore 2), (7, .iconst 0, 8, .iconst 0), (8, .istore_n 3, 9, .istore 3), (9, .iload_n 3, 10, .iload 3), (10, .bipush 7, 12, .iconst 7), (12, .if_icmp .ge 110, 15, .if_icmp .ge 122), (15, .iload_n 2, 16, .iload 2), (16, .iconst (-1), 17, .iconst (-1)), (17, .if_icmp .ne 105, 20, .if_icmp .ne 122), (20, .iload_n 3, 21, .iload 3), (21, .iconst 1, 22, .iconst 1), (22, .iadd, 23, .iadd), (23, .invokestatic 260, 26, .invokeinterface 326 9), (26, .iload_n 3, 27, .iload 3), (27, .invokestatic 260, 30, .invokeinterface 326 9), (30, .isub, 31, .isub), (31, .istore 4, 33, .istore 4), (33, .iconst 0, 34, .iconst 0), (34, .istore 5, 36, .istore 5), (36, .iload 5, 38, .iload 5), (38, .iload 4, 40, .iload 4), (40, .if_icmp .ge 51, 43, .if_icmp .ge 91), (43, .aload_n 0, 44, .aload 0), (44, .getfield 245, 47, .getfield 612), (47, .iload 5, 49, .iload 5), (49, .iadd, 50, .iadd), (50, .aload_n 0, 51, .aload 0), (51, .getfield 248, 54, .getfield 610), (54, .if_icmp .ge 37, 57, .if_icmp .ge 91), (57, .aload_n 0, 58, .aload 0), (58, .getfield 41, 61, .getfield 601), (61, .aload_n 0, 62, .aload 0), (62, .getfield 245, 65, .getfield 612)],
  [(65, .iload 5, 67, .iload 5), (67, .iadd, 68, .iadd), (68, .iaload, 69, .iaload), (69, .ldc_w 263, 72, .getstatic 26), (72, .iload_n 3, 73, .iload 3), (73, .invokestatic 260, 76, .invokeinterface 326 9), (76, .iload 5, 78, .iload 5), (78, .iadd, 79, .iadd), (79, .invokevirtual 224, 82, .invokeinterface 164 17), (82, .if_icmp .ne 9, 85, .if_icmp .ne 91), (85, .iinc 5 1, 88, .iinc 5 1), (88, .goto (-52), 91, .goto 36), (91, .iload_n 1, 92, .iload 1), (92, .aload_n 0, 93, .aload 0), (93, .getfield 245, 96, .getfield 612), (96, .iload 5, 98, .iload 5), (98, .iadd, 99, .iadd), (99, .invokestatic 141, 102, .invokestatic 2), (102, .istore_n 1, 103, .istore 1), (103, .iload 5, 105, .iload 5), (105, .iload 4, 107, .iload 4), (107, .if_icmp .ne 7, 110, .if_icmp .ne 114), (110, .iload_n 3, 111, .iload 3), (111, .goto 4, 114, .goto 115), (114, .iload_n 2, 115, .iload 2), (115, .istore_n 2, 116, .istore 2), (116, .iinc 3 1, 119, .iinc 3 1), (119, .goto (-110), 122, .goto 9), (122, .aload_n 0, 123, .aload 0), (123, .iload_n 2, 124, .iload 2), (124, .iconst (-1), 125, .iconst (-1)), (125, .if_icmp .ne 7, 128, .if_icmp .ne 132)],
  [(128, .iload_n 1, 129, .iload 1), (129, .goto 7, 132, .goto 136), (132, .aload_n 0, 133, .aload 0), (133, .getfield 251, 136, .getfield 614), (136, .putfield 251, 139, .putfield 614), (139, .aload_n 0, 140, .aload 0), (140, .dup, 141, .dup), (141, .getfield 245, 144, .getfield 612), (144, .iload_n 2, 145, .iload 2), (145, .iconst (-1), 146, .iconst (-1)), (146, .if_icmp .ne 7, 149, .if_icmp .ne 153), (149, .iconst 0, 150, .iconst 0), (150, .goto 14, 153, .goto 164), (153, .iload_n 2, 154, .iload 2), (154, .iconst 1, 155, .iconst 1), (155, .iadd, 156, .iadd), (156, .invokestatic 260, 159, .invokeinterface 326 9), (159, .iload_n 2, 160, .iload 2), (160, .invokestatic 260, 163, .invokeinterface 326 9), (163, .isub, 164, .isub), (164, .iadd, 165, .iadd), (165, .putfield 245, 168, .putfield 612), (168, .iload_n 2, 169, .iload 2), (169, .ireturn, 170, .ireturn)]]
/-- RecordReconcilerModel.letterHere()I -/
noncomputable def ct_328 : List (List (Nat × Instr × Nat × Instr)) := [[(0, .aload_n 0, 1, .aload 0), (1, .getfield 245, 4, .getfield 612), (4, .aload_n 0, 5, .aload 0), (5, .getfield 248, 8, .getfield 610), (8, .if_icmp .ge 15, 11, .if_icmp .ge 23), (11, .aload_n 0, 12, .aload 0), (12, .getfield 41, 15, .getfield 601), (15, .aload_n 0, 16, .aload 0), (16, .getfield 245, 19, .getfield 612), (19, .iaload, 20, .iaload), (20, .goto 4, 23, .goto 24), (23, .iconst (-1), 24, .iconst (-1)), (24, .ireturn, 25, .ireturn)]]
/-- RecordReconcilerModel.reads(II)I -/
noncomputable def ct_329 : List (List (Nat × Instr × Nat × Instr)) := [[(0, .aload_n 0, 1, .aload 0), (1, .getfield 251, 4, .getfield 614), (4, .iconst (-1), 5, .iconst (-1)), (5, .if_icmp .ne 37, 8, .if_icmp .ne 42), (8, .aload_n 0, 9, .aload 0), (9, .invokevirtual 254, 12, .invokeinterface 328 9), (12, .iload_n 1, 13, .iload 1), (13, .iload_n 2, 14, .iload 2), (14, .invokestatic 75, 17, .invokeinterface 206 25), (17, .ifCond .eq 25, 20, .ifCond .eq 42), (20, .aload_n 0, 21, .aload 0), (21, .dup, 22, .dup), (22, .getfield 245, 25, .getfield 612), (25, .iconst 1, 26, .iconst 1), (26, .iadd, 27, .iadd), (27, .putfield 245, 30, .putfield 612), (30, .aload_n 0, 31, .aload 0), (31, .getfield 41, 34, .getfield 601), (34, .aload_n 0, 35, .aload 0), (35, .getfield 245, 38, .getfield 612), (38, .iconst 1, 39, .iconst 1), (39, .isub, 40, .isub), (40, .iaload, 41, .iaload), (41, .ireturn, 42, .ireturn), (42, .aload_n 0, 43, .aload 0), (43, .aload_n 0, 44, .aload 0), (44, .getfield 251, 47, .getfield 614), (47, .iconst (-1), 48, .iconst (-1)), (48, .if_icmp .ne 10, 51, .if_icmp .ne 58), (51, .aload_n 0, 52, .aload 0), (52, .getfield 245, 55, .getfield 612), (55, .goto 7, 58, .goto 62), (58, .aload_n 0, 59, .aload 0), (59, .getfield 251, 62, .getfield 614), (62, .putfield 251, 65, .putfield 614)],
  [(65, .bipush 48, 67, .iconst 48), (67, .ireturn, 68, .ireturn)]]
/-- RecordReconcilerModel.number(I)I -/
noncomputable def ct_330 : List (List (Nat × Instr × Nat × Instr)) := [[(0, .aload_n 0, 1, .aload 0), (1, .bipush 48, 3, .iconst 48), (3, .bipush 57, 5, .iconst 57), (5, .invokevirtual 257, 8, .invokeinterface 329 25), (8, .bipush 48, 10, .iconst 48), (10, .isub, 11, .isub), (11, .istore_n 2, 12, .istore 2), (12, .iconst 1, 13, .iconst 1), (13, .istore_n 3, 14, .istore 3), (14, .iload_n 3, 15, .iload 3), (15, .iload_n 1, 16, .iload 1), (16, .if_icmp .ge 48, 19, .if_icmp .ge 64), (19, .aload_n 0, 20, .aload 0), (20, .getfield 251, 23, .getfield 614), (23, .iconst (-1), 24, .iconst (-1)), (24, .if_icmp .ne 40, 27, .if_icmp .ne 64), (27, .aload_n 0, 28, .aload 0), (28, .invokevirtual 254, 31, .invokeinterface 328 9), (31, .bipush 48, 33, .iconst 48), (33, .bipush 57, 35, .iconst 57), (35, .invokestatic 75, 38, .invokeinterface 206 25), (38, .ifCond .eq 26, 41, .ifCond .eq 64), (41, .bipush 10, 43, .iconst 10), (43, .iload_n 2, 44, .iload 2), (44, .imul, 45, .imul), (45, .aload_n 0, 46, .aload 0), (46, .bipush 48, 48, .iconst 48), (48, .bipush 57, 50, .iconst 57), (50, .invokevirtual 257, 53, .invokeinterface 329 25), (53, .iadd, 54, .iadd), (54, .bipush 48, 56, .iconst 48), (56, .isub, 57, .isub), (57, .istore_n 2, 58, .istore 2), (58, .iinc 3 1, 61, .iinc 3 1), (61, .goto (-47), 64, .goto 14)],
  [(64, .iload_n 2, 65, .iload 2), (65, .ireturn, 66, .ireturn)]]
/-- RecordReconcilerModel.readsCommand()V -/
noncomputable def ct_331 : List (List (Nat × Instr × Nat × Instr)) := [[(0, .iconst 4, 1, .iconst 4), (1, .aload_n 0, 2, .aload 0), (2, .getfield 265, 5, .getfield 616), (5, .imul, 6, .imul), (6, .istore_n 1, 7, .istore 1), (7, .aload_n 0, 8, .aload 0), (8, .invokevirtual 268, 11, .invokeinterface 327 9), (11, .istore_n 2, 12, .istore 2), (12, .aload_n 0, 13, .aload 0), (13, .getfield 47, 16, .getfield 619), (16, .iload_n 1, 17, .iload 1), (17, .iload_n 2, 18, .iload 2), (18, .iastore, 19, .iastore), (19, .aload_n 0, 20, .aload 0), (20, .dup, 21, .dup), (21, .getfield 265, 24, .getfield 616), (24, .iconst 1, 25, .iconst 1), (25, .iadd, 26, .iadd), (26, .putfield 265, 29, .putfield 616), (29, .aload_n 0, 30, .aload 0), (30, .getfield 251, 33, .getfield 614), (33, .iconst (-1), 34, .iconst (-1)), (34, .if_icmp .ne 13, 37, .if_icmp .ne 47), (37, .iload_n 2, 38, .iload 2), (38, .iconst 2, 39, .iconst 2), (39, .if_icmp .eq 8, 42, .if_icmp .eq 47), (42, .iload_n 2, 43, .iload 2), (43, .iconst 3, 44, .iconst 3), (44, .if_icmp .ne 4, 47, .if_icmp .ne 48), (47, .return_, 48, .return_), (48, .iload_n 2, 49, .iload 2), (49, .bipush 6, 51, .iconst 6), (51, .if_icmp .ne 17, 54, .if_icmp .ne 68), (54, .aload_n 0, 55, .aload 0), (55, .getfield 47, 58, .getfield 619), (58, .iload_n 1, 59, .iload 1), (59, .iconst 2, 60, .iconst 2), (60, .iadd, 61, .iadd), (61, .aload_n 0, 62, .aload 0), (62, .iconst 2, 63, .iconst 2), (63, .invokevirtual 271, 66, .invokeinterface 330 17)],
  [(66, .iastore, 67, .iastore), (67, .return_, 68, .return_), (68, .aload_n 0, 69, .aload 0), (69, .getfield 47, 72, .getfield 619), (72, .iload_n 1, 73, .iload 1), (73, .iconst 1, 74, .iconst 1), (74, .iadd, 75, .iadd), (75, .aload_n 0, 76, .aload 0), (76, .bipush 97, 78, .iconst 97), (78, .bipush 99, 80, .iconst 99), (80, .invokevirtual 257, 83, .invokeinterface 329 25), (83, .iastore, 84, .iastore), (84, .aload_n 0, 85, .aload 0), (85, .getfield 47, 88, .getfield 619), (88, .iload_n 1, 89, .iload 1), (89, .iconst 2, 90, .iconst 2), (90, .iadd, 91, .iadd), (91, .aload_n 0, 92, .aload 0), (92, .iconst 3, 93, .iconst 3), (93, .invokevirtual 271, 96, .invokeinterface 330 17), (96, .iastore, 97, .iastore), (97, .iload_n 2, 98, .iload 2), (98, .iconst 2, 99, .iconst 2), (99, .if_icmp .ge 25, 102, .if_icmp .ge 124), (102, .aload_n 0, 103, .aload 0), (103, .bipush 61, 105, .iconst 61), (105, .bipush 61, 107, .iconst 61), (107, .invokevirtual 257, 110, .invokeinterface 329 25), (110, .istore_n 3, 111, .istore 3), (111, .aload_n 0, 112, .aload 0), (112, .getfield 47, 115, .getfield 619), (115, .iload_n 1, 116, .iload 1), (116, .iconst 3, 117, .iconst 3), (117, .iadd, 118, .iadd), (118, .aload_n 0, 119, .aload 0), (119, .iconst 2, 120, .iconst 2), (120, .invokevirtual 271, 123, .invokeinterface 330 17), (123, .iastore, 124, .iastore), (124, .return_, 125, .return_)]]
/-- RecordReconcilerModel.readsAll()V -/
noncomputable def ct_332 : List (List (Nat × Instr × Nat × Instr)) := [[(0, .aload_n 0, 1, .aload 0), (1, .aload_n 0, 2, .aload 0), (2, .getfield 242, 5, .getfield 602), (5, .putfield 248, 8, .putfield 610), (8, .aload_n 0, 9, .aload 0), (9, .iconst 0, 10, .iconst 0), (10, .putfield 242, 13, .putfield 602), (13, .aload_n 0, 14, .aload 0), (14, .iconst 0, 15, .iconst 0), (15, .putfield 245, 18, .putfield 612), (18, .aload_n 0, 19, .aload 0), (19, .iconst (-1), 20, .iconst (-1)), (20, .putfield 251, 23, .putfield 614), (23, .aload_n 0, 24, .aload 0), (24, .iconst 0, 25, .iconst 0), (25, .putfield 265, 28, .putfield 616), (28, .aload_n 0, 29, .aload 0), (29, .invokevirtual 274, 32, .invokeinterface 331 8), (32, .aload_n 0, 33, .aload 0), (33, .getfield 251, 36, .getfield 614), (36, .iconst (-1), 37, .iconst (-1)), (37, .if_icmp .ne 38, 40, .if_icmp .ne 75), (40, .aload_n 0, 41, .aload 0), (41, .getfield 245, 44, .getfield 612), (44, .aload_n 0, 45, .aload 0), (45, .getfield 248, 48, .getfield 610), (48, .if_icmp .ge 27, 51, .if_icmp .ge 75), (51, .aload_n 0, 52, .aload 0), (52, .bipush 59, 54, .iconst 59), (54, .bipush 59, 56, .iconst 59), (56, .invokevirtual 257, 59, .invokeinterface 329 25), (59, .istore_n 1, 60, .istore 1), (60, .aload_n 0, 61, .aload 0), (61, .getfield 251, 64, .getfield 614)],
  [(64, .iconst (-1), 65, .iconst (-1)), (65, .if_icmp .ne 7, 68, .if_icmp .ne 72), (68, .aload_n 0, 69, .aload 0), (69, .invokevirtual 274, 72, .invokeinterface 331 8), (72, .goto (-40), 75, .goto 32), (75, .return_, 76, .return_)]]
/-- RecordReconcilerModel.does(I)I -/
noncomputable def ct_333 : List (List (Nat × Instr × Nat × Instr)) := [[(0, .aload_n 0, 1, .aload 0), (1, .getfield 47, 4, .getfield 619), (4, .iload_n 1, 5, .iload 1), (5, .iconst 1, 6, .iconst 1), (6, .iadd, 7, .iadd), (7, .iaload, 8, .iaload), (8, .istore_n 2, 9, .istore 2), (9, .aload_n 0, 10, .aload 0), (10, .getfield 47, 13, .getfield 619), (13, .iload_n 1, 14, .iload 1), (14, .iconst 2, 15, .iconst 2), (15, .iadd, 16, .iadd), (16, .iaload, 17, .iaload), (17, .istore_n 3, 18, .istore 3), (18, .aload_n 0, 19, .aload 0), (19, .getfield 47, 22, .getfield 619), (22, .iload_n 1, 23, .iload 1), (23, .iaload, 24, .iaload), (24, .tableswitch 94 0 5 #[40, 55, 70, 75, 80, 87], 64, .tableswitch 118 0 5 #[64, 79, 94, 99, 104, 111])],
  [(64, .aload_n 0, 65, .aload 0), (65, .iload_n 2, 66, .iload 2), (66, .iload_n 3, 67, .iload 3), (67, .aload_n 0, 68, .aload 0), (68, .getfield 47, 71, .getfield 619), (71, .iload_n 1, 72, .iload 1), (72, .iconst 3, 73, .iconst 3), (73, .iadd, 74, .iadd), (74, .iaload, 75, .iaload), (75, .invokevirtual 109, 78, .invokeinterface 211 33), (78, .ireturn, 79, .ireturn), (79, .aload_n 0, 80, .aload 0), (80, .iload_n 2, 81, .iload 2), (81, .iload_n 3, 82, .iload 3), (82, .aload_n 0, 83, .aload 0), (83, .getfield 47, 86, .getfield 619), (86, .iload_n 1, 87, .iload 1), (87, .iconst 3, 88, .iconst 3), (88, .iadd, 89, .iadd), (89, .iaload, 90, .iaload), (90, .invokevirtual 116, 93, .invokeinterface 218 33), (93, .ireturn, 94, .ireturn), (94, .aload_n 0, 95, .aload 0), (95, .invokevirtual 131, 98, .invokeinterface 228 9), (98, .ireturn, 99, .ireturn), (99, .aload_n 0, 100, .aload 0), (100, .invokevirtual 135, 103, .invokeinterface 230 9), (103, .ireturn, 104, .ireturn), (104, .aload_n 0, 105, .aload 0), (105, .iload_n 2, 106, .iload 2), (106, .iload_n 3, 107, .iload 3), (107, .invokevirtual 149, 110, .invokeinterface 237 25), (110, .ireturn, 111, .ireturn), (111, .aload_n 0, 112, .aload 0), (112, .iload_n 2, 113, .iload 2), (113, .iload_n 3, 114, .iload 3), (114, .invokevirtual 152, 117, .invokeinterface 239 25), (117, .ireturn, 118, .ireturn), (118, .aload_n 0, 119, .aload 0), (119, .iload_n 3, 120, .iload 3), (120, .invokevirtual 155, 123, .invokeinterface 242 17), (123, .ireturn, 124, .ireturn)]]
/-- RecordReconcilerModel.run()I -/
noncomputable def ct_334 : List (List (Nat × Instr × Nat × Instr)) := [[(0, .aload_n 0, 1, .aload 0), (1, .invokevirtual 277, 4, .invokeinterface 332 8), (4, .aload_n 0, 5, .aload 0), (5, .getfield 251, 8, .getfield 614), (8, .iconst (-1), 9, .iconst (-1)), (9, .if_icmp .eq 18, 12, .if_icmp .eq 27), (12, .aload_n 0, 13, .aload 0), (13, .aload_n 0, 14, .aload 0), (14, .getfield 251, 17, .getfield 614), (17, .putfield 22, 20, .putfield 588), (20, .aload_n 0, 21, .aload 0), (21, .iconst 1, 22, .iconst 1), (22, .putfield 50, 25, .putfield 608), (25, .iconst 0, 26, .iconst 0), (26, .ireturn, 27, .ireturn), (27, .aload_n 0, 28, .aload 0), (28, .invokevirtual 106, 31, .invokeinterface 205 8), (31, .aload_n 0, 32, .aload 0), (32, .iconst 0, 33, .iconst 0), (33, .putfield 50, 36, .putfield 608), (36, .iconst 0, 37, .iconst 0), (37, .istore_n 1, 38, .istore 1), (38, .iload_n 1, 39, .iload 1), (39, .aload_n 0, 40, .aload 0), (40, .getfield 265, 43, .getfield 616), (43, .if_icmp .ge 49, 46, .if_icmp .ge 92), (46, .aload_n 0, 47, .aload 0), (47, .iconst 4, 48, .iconst 4), (48, .iload_n 1, 49, .iload 1), (49, .imul, 50, .imul), (50, .invokevirtual 280, 53, .invokeinterface 333 17), (53, .istore_n 2, 54, .istore 2), (54, .aload_n 0, 55, .aload 0), (55, .getfield 50, 58, .getfield 608), (58, .ifCond .eq 28, 61, .ifCond .eq 86), (61, .aload_n 0, 62, .aload 0), (62, .iload_n 1, 63, .iload 1), (63, .putfield 26, 66, .putfield 590)],
  [(66, .aload_n 0, 67, .aload 0), (67, .iconst 2, 68, .iconst 2), (68, .putfield 50, 71, .putfield 608), (71, .aload_n 0, 72, .aload 0), (72, .getfield 13, 75, .getfield 579), (75, .iconst 0, 76, .iconst 0), (76, .aload_n 0, 77, .aload 0), (77, .getfield 9, 80, .getfield 577), (80, .iconst 0, 81, .iconst 0), (81, .invokestatic 57, 84, .invokeinterface 204 32), (84, .iconst 0, 85, .iconst 0), (85, .ireturn, 86, .ireturn), (86, .iinc 1 1, 89, .iinc 1 1), (89, .goto (-51), 92, .goto 38), (92, .aload_n 0, 93, .aload 0), (93, .aload_n 0, 94, .aload 0), (94, .getfield 265, 97, .getfield 616), (97, .invokevirtual 113, 100, .invokeinterface 213 17), (100, .ireturn, 101, .ireturn)]]
/-- RecordReconcilerModel.errorPosition()I -/
noncomputable def ct_335 : List (List (Nat × Instr × Nat × Instr)) := [[(0, .aload_n 0, 1, .aload 0), (1, .aload_n 0, 2, .aload 0), (2, .getfield 22, 5, .getfield 588), (5, .iconst (-1), 6, .iconst (-1)), (6, .if_icmp .eq 7, 9, .if_icmp .eq 13), (9, .iconst 1, 10, .iconst 1), (10, .goto 4, 13, .goto 14), (13, .iconst 0, 14, .iconst 0), (14, .invokevirtual 67, 17, .invokeinterface 225 17), (17, .ifCond .eq 10, 20, .ifCond .eq 27), (20, .aload_n 0, 21, .aload 0), (21, .getfield 22, 24, .getfield 588), (24, .goto 4, 27, .goto 28), (27, .iconst 0, 28, .iconst 0), (28, .ireturn, 29, .ireturn)]]
/-- RecordReconcilerModel.failedCommand()I -/
noncomputable def ct_336 : List (List (Nat × Instr × Nat × Instr)) := [[(0, .aload_n 0, 1, .aload 0), (1, .aload_n 0, 2, .aload 0), (2, .getfield 26, 5, .getfield 590), (5, .iconst (-1), 6, .iconst (-1)), (6, .if_icmp .eq 7, 9, .if_icmp .eq 13), (9, .iconst 1, 10, .iconst 1), (10, .goto 4, 13, .goto 14), (13, .iconst 0, 14, .iconst 0), (14, .invokevirtual 67, 17, .invokeinterface 225 17), (17, .ifCond .eq 10, 20, .ifCond .eq 27), (20, .aload_n 0, 21, .aload 0), (21, .getfield 26, 24, .getfield 590), (24, .goto 4, 27, .goto 28), (27, .iconst 0, 28, .iconst 0), (28, .ireturn, 29, .ireturn)]]
/-- RecordReconcilerModel.undoableCount()I -/
noncomputable def ct_337 : List (List (Nat × Instr × Nat × Instr)) := [[(0, .aload_n 0, 1, .aload 0), (1, .iconst 0, 2, .iconst 0), (2, .putfield 50, 5, .putfield 608), (5, .aload_n 0, 6, .aload 0), (6, .getfield 61, 9, .getfield 586), (9, .ireturn, 10, .ireturn)]]
/-- RecordReconcilerLaw.undo(LRecordReconciler;[J)I -/
noncomputable def ct_338 : List (List (Nat × Instr × Nat × Instr)) := [[(0, .aload_n 1, 1, .aload 1), (1, .iconst 0, 2, .iconst 0), (2, .aload_n 0, 3, .aload 0), (3, .invokevirtual 139, 6, .invokeinterface 182 9), (6, .i2l, 7, .i2l), (7, .lastore, 8, .lastore), (8, .goto 6, 11, .goto 14), (11, .astore_n 2, 12, .astore 2), (12, .iconst 1, 13, .iconst 1), (13, .ireturn, 14, .ireturn), (14, .iconst 0, 15, .iconst 0), (15, .ireturn, 16, .ireturn)]]
/-- RecordReconcilerModel.undo()I -/
noncomputable def ct_339 : List (List (Nat × Instr × Nat × Instr)) := [[(0, .aload_n 0, 1, .aload 0), (1, .aload_n 0, 2, .aload 0), (2, .getfield 61, 5, .getfield 586), (5, .ifCond .le 7, 8, .ifCond .le 12), (8, .iconst 1, 9, .iconst 1), (9, .goto 4, 12, .goto 13), (12, .iconst 0, 13, .iconst 0), (13, .invokevirtual 67, 16, .invokeinterface 225 17), (16, .ifCond .ne 5, 19, .ifCond .ne 21), (19, .iconst 0, 20, .iconst 0), (20, .ireturn, 21, .ireturn), (21, .aload_n 0, 22, .aload 0), (22, .dup, 23, .dup), (23, .getfield 61, 26, .getfield 586), (26, .iconst 1, 27, .iconst 1), (27, .isub, 28, .isub), (28, .putfield 61, 31, .putfield 586), (31, .aload_n 0, 32, .aload 0), (32, .getfield 19, 35, .getfield 583), (35, .aload_n 0, 36, .aload 0), (36, .getfield 61, 39, .getfield 586), (39, .sipush 169, 42, .iconst 169), (42, .imul, 43, .imul), (43, .aload_n 0, 44, .aload 0), (44, .getfield 9, 47, .getfield 577), (47, .iconst 0, 48, .iconst 0), (48, .invokestatic 57, 51, .invokeinterface 204 32), (51, .aload_n 0, 52, .aload 0), (52, .getfield 61, 55, .getfield 586), (55, .ireturn, 56, .ireturn)]]
/-- RecordReconcilerModel.save()I -/
noncomputable def ct_340 : List (List (Nat × Instr × Nat × Instr)) := [[(0, .aload_n 0, 1, .aload 0), (1, .iconst 0, 2, .iconst 0), (2, .putfield 50, 5, .putfield 608), (5, .aload_n 0, 6, .aload 0), (6, .getfield 9, 9, .getfield 577), (9, .iconst 0, 10, .iconst 0), (10, .aload_n 0, 11, .aload 0), (11, .getfield 16, 14, .getfield 581), (14, .iconst 0, 15, .iconst 0), (15, .invokestatic 57, 18, .invokeinterface 204 32), (18, .aload_n 0, 19, .aload 0), (19, .iconst 1, 20, .iconst 1), (20, .putfield 71, 23, .putfield 1608), (23, .aload_n 0, 24, .aload 0), (24, .getfield 9, 27, .getfield 577), (27, .iconst 1, 28, .iconst 1), (28, .iaload, 29, .iaload), (29, .ireturn, 30, .ireturn)]]
/-- RecordReconcilerLaw.restore(LRecordReconciler;[J)I -/
noncomputable def ct_341 : List (List (Nat × Instr × Nat × Instr)) := [[(0, .aload_n 1, 1, .aload 1), (1, .iconst 0, 2, .iconst 0), (2, .aload_n 0, 3, .aload 0), (3, .invokevirtual 142, 6, .invokeinterface 160 9), (6, .i2l, 7, .i2l), (7, .lastore, 8, .lastore), (8, .goto 6, 11, .goto 14), (11, .astore_n 2, 12, .astore 2), (12, .iconst 1, 13, .iconst 1), (13, .ireturn, 14, .ireturn), (14, .iconst 0, 15, .iconst 0), (15, .ireturn, 16, .ireturn)]]
/-- RecordReconcilerModel.restore()I -/
noncomputable def ct_342 : List (List (Nat × Instr × Nat × Instr)) := [[(0, .aload_n 0, 1, .aload 0), (1, .aload_n 0, 2, .aload 0), (2, .getfield 71, 5, .getfield 584), (5, .invokevirtual 67, 8, .invokeinterface 225 17), (8, .ifCond .ne 5, 11, .ifCond .ne 13), (11, .iconst 0, 12, .iconst 0), (12, .ireturn, 13, .ireturn), (13, .aload_n 0, 14, .aload 0), (14, .getfield 16, 17, .getfield 581), (17, .iconst 0, 18, .iconst 0), (18, .aload_n 0, 19, .aload 0), (19, .getfield 9, 22, .getfield 577), (22, .iconst 0, 23, .iconst 0), (23, .invokestatic 57, 26, .invokeinterface 204 32), (26, .aload_n 0, 27, .aload 0), (27, .iconst 0, 28, .iconst 0), (28, .putfield 61, 31, .putfield 586), (31, .aload_n 0, 32, .aload 0), (32, .getfield 9, 35, .getfield 577), (35, .iconst 1, 36, .iconst 1), (36, .iaload, 37, .iaload), (37, .ireturn, 38, .ireturn)]]
set_option maxRecDepth 100000 in
/-- RecordReconcilerLaw.law([I)Z -/
noncomputable def ct_343 : List (List (Nat × Instr × Nat × Instr)) := [[(0, .new 8, 3, .new 267), (3, .dup, 4, .dup), (4, .invokespecial 145, 7, .invokeinterface 9 8), (7, .astore_n 1, 8, .astore 1), (8, .new 146, 11, .new 310), (11, .dup, 12, .dup), (12, .invokespecial 148, 15, .invokeinterface 202 8), (15, .astore_n 2, 16, .astore 2), (16, .iconst 1, 17, .iconst 1), (17, .newarray .long, 19, .newarray .long), (19, .astore_n 3, 20, .astore 3), (20, .iconst 1, 21, .iconst 1), (21, .newarray .double, 23, .newarray .double), (23, .astore 4, 25, .astore 4), (25, .iconst 0, 26, .iconst 0), (26, .istore 5, 28, .istore 5), (28, .iload 5, 30, .iload 5), (30, .aload_n 0, 31, .aload 0), (31, .arraylength, 32, .arraylength), (32, .iconst 5, 33, .iconst 5), (33, .isub, 34, .isub), (34, .if_icmp .gt 2961, 37, .if_icmp .gt 2995), (37, .aload_n 0, 38, .aload 0), (38, .iload 5, 40, .iload 5), (40, .iaload, 41, .saload), (41, .bipush 63, 43, .iconst 63), (43, .iand, 44, .iand), (44, .tableswitch 2945 0 60 #[260, 342, 424, 468, 481, 551, 621, 677, 690, 703, 759, 815, 871, 927, 940, 953, 1011, 1088, 1158, 1228, 1298, 1356, 1412, 1425, 1438, 1451, 1507, 1563, 1576, 1634, 1737, 1809, 1881, 1953, 2044, 2057, 2070, 2140, 2198, 2211, 2224, 2237, 2250, 2263, 2276, 2289, 2302, 2367, 2433, 2446, 2516, 2572, 2585, 2641, 2699, 2743, 2787, 2831, 2844, 2888, 2901], 304, .tableswitch 2989 0 60 #[304, 386, 468, 512, 525, 595, 665, 721, 734, 747, 803, 859, 915, 971, 984, 997, 1055, 1132, 1202, 1272, 1342, 1400, 1456, 1469, 1482, 1495, 1551, 1607, 1620, 1678, 1781, 1853, 1925, 1997, 2088, 2101, 2114, 2184, 2242, 2255, 2268, 2281, 2294, 2307, 2320, 2333, 2346, 2411, 2477, 2490, 2560, 2616, 2629, 2685, 2743, 2787, 2831, 2875, 2888, 2932, 2945])],
  [],
  [],
  [],
  [(304, .aload_n 1, 305, .aload 1), (305, .aload_n 0, 306, .aload 0), (306, .iload 5, 308, .iload 5), (308, .iconst 1, 309, .iconst 1), (309, .iadd, 310, .iadd), (310, .iaload, 311, .saload), (311, .i2c, 312, .i2c), (312, .aload_n 0, 313, .aload 0), (313, .iload 5, 315, .iload 5), (315, .iconst 2, 316, .iconst 2), (316, .iadd, 317, .iadd), (317, .iaload, 318, .saload), (318, .aload_n 0, 319, .aload 0), (319, .iload 5, 321, .iload 5)],
  [(321, .iconst 3, 322, .iconst 3), (322, .iadd, 323, .iadd), (323, .iaload, 324, .saload), (324, .aload_n 3, 325, .aload 3), (325, .invokestatic 149, 328, .invokeinterface 203 41), (328, .istore 6, 330, .istore 6), (330, .aload_n 2, 331, .aload 2), (331, .aload_n 0, 332, .aload 0), (332, .iload 5, 334, .iload 5), (334, .iconst 1, 335, .iconst 1), (335, .iadd, 336, .iadd), (336, .iaload, 337, .saload), (337, .i2c, 338, .i2c), (338, .aload_n 0, 339, .aload 0), (339, .iload 5, 341, .iload 5), (341, .iconst 2, 342, .iconst 2), (342, .iadd, 343, .iadd), (343, .iaload, 344, .saload), (344, .aload_n 0, 345, .aload 0), (345, .iload 5, 347, .iload 5), (347, .iconst 3, 348, .iconst 3), (348, .iadd, 349, .iadd), (349, .iaload, 350, .saload), (350, .invokevirtual 154, 353, .invokeinterface 214 33), (353, .istore 7, 355, .istore 7), (355, .aload_n 2, 356, .aload 2), (356, .invokevirtual 155, 359, .invokeinterface 215 9), (359, .iload 6, 361, .iload 6), (361, .if_icmp .eq 5, 364, .if_icmp .eq 366), (364, .iconst 0, 365, .iconst 0), (365, .ireturn, 366, .ret 1), (366, .iload 6, 368, .iload 6), (368, .ifCond .ne 15, 371, .ifCond .ne 383), (371, .aload_n 3, 372, .aload 3), (372, .iconst 0, 373, .iconst 0), (373, .laload, 374, .laload), (374, .iload 7, 376, .iload 7), (376, .i2l, 377, .i2l), (377, .lcmp, 378, .lcmp), (378, .ifCond .eq 5, 381, .ifCond .eq 383), (381, .iconst 0, 382, .iconst 0), (382, .ireturn, 383, .ret 1), (383, .goto 2606, 386, .goto 2989)],
  [(386, .aload_n 1, 387, .aload 1), (387, .aload_n 0, 388, .aload 0), (388, .iload 5, 390, .iload 5), (390, .iconst 1, 391, .iconst 1), (391, .iadd, 392, .iadd), (392, .iaload, 393, .saload), (393, .i2c, 394, .i2c), (394, .aload_n 0, 395, .aload 0), (395, .iload 5, 397, .iload 5), (397, .iconst 2, 398, .iconst 2), (398, .iadd, 399, .iadd), (399, .iaload, 400, .saload), (400, .aload_n 0, 401, .aload 0), (401, .iload 5, 403, .iload 5), (403, .iconst 3, 404, .iconst 3), (404, .iadd, 405, .iadd), (405, .iaload, 406, .saload), (406, .aload_n 3, 407, .aload 3), (407, .invokestatic 158, 410, .invokeinterface 216 41), (410, .istore 6, 412, .istore 6), (412, .aload_n 2, 413, .aload 2), (413, .aload_n 0, 414, .aload 0), (414, .iload 5, 416, .iload 5), (416, .iconst 1, 417, .iconst 1), (417, .iadd, 418, .iadd), (418, .iaload, 419, .saload), (419, .i2c, 420, .i2c), (420, .aload_n 0, 421, .aload 0), (421, .iload 5, 423, .iload 5), (423, .iconst 2, 424, .iconst 2), (424, .iadd, 425, .iadd), (425, .iaload, 426, .saload), (426, .aload_n 0, 427, .aload 0), (427, .iload 5, 429, .iload 5), (429, .iconst 3, 430, .iconst 3), (430, .iadd, 431, .iadd), (431, .iaload, 432, .saload), (432, .invokevirtual 160, 435, .invokeinterface 219 33), (435, .istore 7, 437, .istore 7), (437, .aload_n 2, 438, .aload 2), (438, .invokevirtual 155, 441, .invokeinterface 215 9), (441, .iload 6, 443, .iload 6), (443, .if_icmp .eq 5, 446, .if_icmp .eq 448), (446, .iconst 0, 447, .iconst 0), (447, .ireturn, 448, .ret 1)],
  [(448, .iload 6, 450, .iload 6), (450, .ifCond .ne 15, 453, .ifCond .ne 465), (453, .aload_n 3, 454, .aload 3), (454, .iconst 0, 455, .iconst 0), (455, .laload, 456, .laload), (456, .iload 7, 458, .iload 7), (458, .i2l, 459, .i2l), (459, .lcmp, 460, .lcmp), (460, .ifCond .eq 5, 463, .ifCond .eq 465), (463, .iconst 0, 464, .iconst 0), (464, .ireturn, 465, .ret 1), (465, .goto 2524, 468, .goto 2989), (468, .aload_n 1, 469, .aload 1), (469, .aload_n 3, 470, .aload 3), (470, .invokestatic 161, 473, .invokeinterface 188 17), (473, .istore 6, 475, .istore 6), (475, .aload_n 2, 476, .aload 2), (476, .invokevirtual 164, 479, .invokeinterface 229 9), (479, .istore 7, 481, .istore 7), (481, .aload_n 2, 482, .aload 2), (482, .invokevirtual 155, 485, .invokeinterface 215 9), (485, .iload 6, 487, .iload 6), (487, .if_icmp .eq 5, 490, .if_icmp .eq 492), (490, .iconst 0, 491, .iconst 0), (491, .ireturn, 492, .ret 1), (492, .iload 6, 494, .iload 6), (494, .ifCond .ne 15, 497, .ifCond .ne 509), (497, .aload_n 3, 498, .aload 3), (498, .iconst 0, 499, .iconst 0), (499, .laload, 500, .laload), (500, .iload 7, 502, .iload 7), (502, .i2l, 503, .i2l), (503, .lcmp, 504, .lcmp), (504, .ifCond .eq 5, 507, .ifCond .eq 509), (507, .iconst 0, 508, .iconst 0), (508, .ireturn, 509, .ret 1), (509, .goto 2480, 512, .goto 2989)],
  [(512, .aload_n 1, 513, .aload 1), (513, .invokevirtual 165, 516, .invokeinterface 153 9), (516, .aload_n 2, 517, .aload 2), (517, .invokevirtual 168, 520, .invokeinterface 231 9), (520, .if_icmp .eq 2469, 523, .if_icmp .eq 2989), (523, .iconst 0, 524, .iconst 0), (524, .ireturn, 525, .ret 1), (525, .aload_n 1, 526, .aload 1), (526, .aload_n 0, 527, .aload 0), (527, .iload 5, 529, .iload 5), (529, .iconst 1, 530, .iconst 1), (530, .iadd, 531, .iadd), (531, .iaload, 532, .saload), (532, .i2c, 533, .i2c), (533, .aload_n 0, 534, .aload 0), (534, .iload 5, 536, .iload 5), (536, .iconst 2, 537, .iconst 2), (537, .iadd, 538, .iadd), (538, .iaload, 539, .saload), (539, .aload_n 3, 540, .aload 3), (540, .invokestatic 169, 543, .invokeinterface 232 33), (543, .istore 6, 545, .istore 6), (545, .aload_n 2, 546, .aload 2), (546, .aload_n 0, 547, .aload 0), (547, .iload 5, 549, .iload 5), (549, .iconst 1, 550, .iconst 1), (550, .iadd, 551, .iadd), (551, .iaload, 552, .saload), (552, .i2c, 553, .i2c), (553, .aload_n 0, 554, .aload 0), (554, .iload 5, 556, .iload 5), (556, .iconst 2, 557, .iconst 2), (557, .iadd, 558, .iadd), (558, .iaload, 559, .saload), (559, .invokevirtual 172, 562, .invokeinterface 238 25), (562, .istore 7, 564, .istore 7), (564, .aload_n 2, 565, .aload 2), (565, .invokevirtual 155, 568, .invokeinterface 215 9), (568, .iload 6, 570, .iload 6), (570, .if_icmp .eq 5, 573, .if_icmp .eq 575), (573, .iconst 0, 574, .iconst 0), (574, .ireturn, 575, .ret 1), (575, .iload 6, 577, .iload 6)],
  [(577, .ifCond .ne 15, 580, .ifCond .ne 592), (580, .aload_n 3, 581, .aload 3), (581, .iconst 0, 582, .iconst 0), (582, .laload, 583, .laload), (583, .iload 7, 585, .iload 7), (585, .i2l, 586, .i2l), (586, .lcmp, 587, .lcmp), (587, .ifCond .eq 5, 590, .ifCond .eq 592), (590, .iconst 0, 591, .iconst 0), (591, .ireturn, 592, .ret 1), (592, .goto 2397, 595, .goto 2989), (595, .aload_n 1, 596, .aload 1), (596, .aload_n 0, 597, .aload 0), (597, .iload 5, 599, .iload 5), (599, .iconst 1, 600, .iconst 1), (600, .iadd, 601, .iadd), (601, .iaload, 602, .saload), (602, .i2c, 603, .i2c), (603, .aload_n 0, 604, .aload 0), (604, .iload 5, 606, .iload 5), (606, .iconst 2, 607, .iconst 2), (607, .iadd, 608, .iadd), (608, .iaload, 609, .saload), (609, .aload_n 3, 610, .aload 3), (610, .invokestatic 173, 613, .invokeinterface 192 33), (613, .istore 6, 615, .istore 6), (615, .aload_n 2, 616, .aload 2), (616, .aload_n 0, 617, .aload 0), (617, .iload 5, 619, .iload 5), (619, .iconst 1, 620, .iconst 1), (620, .iadd, 621, .iadd), (621, .iaload, 622, .saload), (622, .i2c, 623, .i2c), (623, .aload_n 0, 624, .aload 0), (624, .iload 5, 626, .iload 5), (626, .iconst 2, 627, .iconst 2), (627, .iadd, 628, .iadd), (628, .iaload, 629, .saload), (629, .invokevirtual 175, 632, .invokeinterface 240 25), (632, .istore 7, 634, .istore 7), (634, .aload_n 2, 635, .aload 2), (635, .invokevirtual 155, 638, .invokeinterface 215 9), (638, .iload 6, 640, .iload 6)],
  [(640, .if_icmp .eq 5, 643, .if_icmp .eq 645), (643, .iconst 0, 644, .iconst 0), (644, .ireturn, 645, .ret 1), (645, .iload 6, 647, .iload 6), (647, .ifCond .ne 15, 650, .ifCond .ne 662), (650, .aload_n 3, 651, .aload 3), (651, .iconst 0, 652, .iconst 0), (652, .laload, 653, .laload), (653, .iload 7, 655, .iload 7), (655, .i2l, 656, .i2l), (656, .lcmp, 657, .lcmp), (657, .ifCond .eq 5, 660, .ifCond .eq 662), (660, .iconst 0, 661, .iconst 0), (661, .ireturn, 662, .ret 1), (662, .goto 2327, 665, .goto 2989), (665, .aload_n 1, 666, .aload 1), (666, .aload_n 0, 667, .aload 0), (667, .iload 5, 669, .iload 5), (669, .iconst 1, 670, .iconst 1), (670, .iadd, 671, .iadd), (671, .iaload, 672, .saload), (672, .aload_n 3, 673, .aload 3), (673, .invokestatic 176, 676, .invokeinterface 241 25), (676, .istore 6, 678, .istore 6), (678, .aload_n 2, 679, .aload 2), (679, .aload_n 0, 680, .aload 0), (680, .iload 5, 682, .iload 5), (682, .iconst 1, 683, .iconst 1), (683, .iadd, 684, .iadd), (684, .iaload, 685, .saload), (685, .invokevirtual 179, 688, .invokeinterface 243 17), (688, .istore 7, 690, .istore 7), (690, .aload_n 2, 691, .aload 2), (691, .invokevirtual 155, 694, .invokeinterface 215 9), (694, .iload 6, 696, .iload 6), (696, .if_icmp .eq 5, 699, .if_icmp .eq 701), (699, .iconst 0, 700, .iconst 0), (700, .ireturn, 701, .ret 1), (701, .iload 6, 703, .iload 6), (703, .ifCond .ne 15, 706, .ifCond .ne 718)],
  [(706, .aload_n 3, 707, .aload 3), (707, .iconst 0, 708, .iconst 0), (708, .laload, 709, .laload), (709, .iload 7, 711, .iload 7), (711, .i2l, 712, .i2l), (712, .lcmp, 713, .lcmp), (713, .ifCond .eq 5, 716, .ifCond .eq 718), (716, .iconst 0, 717, .iconst 0), (717, .ireturn, 718, .ret 1), (718, .goto 2271, 721, .goto 2989), (721, .aload_n 1, 722, .aload 1), (722, .invokevirtual 180, 725, .invokeinterface 61 9), (725, .aload_n 2, 726, .aload 2), (726, .invokevirtual 183, 729, .invokeinterface 245 9), (729, .if_icmp .eq 2260, 732, .if_icmp .eq 2989), (732, .iconst 0, 733, .iconst 0), (733, .ireturn, 734, .ret 1), (734, .aload_n 1, 735, .aload 1), (735, .invokevirtual 184, 738, .invokeinterface 157 9), (738, .aload_n 2, 739, .aload 2), (739, .invokevirtual 187, 742, .invokeinterface 246 9), (742, .if_icmp .eq 2247, 745, .if_icmp .eq 2989), (745, .iconst 0, 746, .iconst 0), (746, .ireturn, 747, .ret 1), (747, .aload_n 1, 748, .aload 1), (748, .aload_n 0, 749, .aload 0), (749, .iload 5, 751, .iload 5), (751, .iconst 1, 752, .iconst 1), (752, .iadd, 753, .iadd), (753, .iaload, 754, .saload), (754, .aload_n 3, 755, .aload 3), (755, .invokestatic 188, 758, .invokeinterface 247 25), (758, .istore 6, 760, .istore 6), (760, .aload_n 2, 761, .aload 2), (761, .aload_n 0, 762, .aload 0), (762, .iload 5, 764, .iload 5), (764, .iconst 1, 765, .iconst 1), (765, .iadd, 766, .iadd), (766, .iaload, 767, .saload), (767, .invokevirtual 190, 770, .invokeinterface 249 17)],
  [(770, .istore 7, 772, .istore 7), (772, .aload_n 2, 773, .aload 2), (773, .invokevirtual 155, 776, .invokeinterface 215 9), (776, .iload 6, 778, .iload 6), (778, .if_icmp .eq 5, 781, .if_icmp .eq 783), (781, .iconst 0, 782, .iconst 0), (782, .ireturn, 783, .ret 1), (783, .iload 6, 785, .iload 6), (785, .ifCond .ne 15, 788, .ifCond .ne 800), (788, .aload_n 3, 789, .aload 3), (789, .iconst 0, 790, .iconst 0), (790, .laload, 791, .laload), (791, .iload 7, 793, .iload 7), (793, .i2l, 794, .i2l), (794, .lcmp, 795, .lcmp), (795, .ifCond .eq 5, 798, .ifCond .eq 800), (798, .iconst 0, 799, .iconst 0), (799, .ireturn, 800, .ret 1), (800, .goto 2189, 803, .goto 2989), (803, .aload_n 1, 804, .aload 1), (804, .aload_n 0, 805, .aload 0), (805, .iload 5, 807, .iload 5), (807, .iconst 1, 808, .iconst 1), (808, .iadd, 809, .iadd), (809, .iaload, 810, .saload), (810, .aload_n 3, 811, .aload 3), (811, .invokestatic 191, 814, .invokeinterface 250 25), (814, .istore 6, 816, .istore 6), (816, .aload_n 2, 817, .aload 2), (817, .aload_n 0, 818, .aload 0), (818, .iload 5, 820, .iload 5), (820, .iconst 1, 821, .iconst 1), (821, .iadd, 822, .iadd), (822, .iaload, 823, .saload), (823, .invokevirtual 193, 826, .invokeinterface 251 17), (826, .istore 7, 828, .istore 7), (828, .aload_n 2, 829, .aload 2), (829, .invokevirtual 155, 832, .invokeinterface 215 9)],
  [(832, .iload 6, 834, .iload 6), (834, .if_icmp .eq 5, 837, .if_icmp .eq 839), (837, .iconst 0, 838, .iconst 0), (838, .ireturn, 839, .ret 1), (839, .iload 6, 841, .iload 6), (841, .ifCond .ne 15, 844, .ifCond .ne 856), (844, .aload_n 3, 845, .aload 3), (845, .iconst 0, 846, .iconst 0), (846, .laload, 847, .laload), (847, .iload 7, 849, .iload 7), (849, .i2l, 850, .i2l), (850, .lcmp, 851, .lcmp), (851, .ifCond .eq 5, 854, .ifCond .eq 856), (854, .iconst 0, 855, .iconst 0), (855, .ireturn, 856, .ret 1), (856, .goto 2133, 859, .goto 2989), (859, .aload_n 1, 860, .aload 1), (860, .aload_n 0, 861, .aload 0), (861, .iload 5, 863, .iload 5), (863, .iconst 1, 864, .iconst 1), (864, .iadd, 865, .iadd), (865, .iaload, 866, .saload), (866, .aload_n 3, 867, .aload 3), (867, .invokestatic 194, 870, .invokeinterface 252 25), (870, .istore 6, 872, .istore 6), (872, .aload_n 2, 873, .aload 2), (873, .aload_n 0, 874, .aload 0), (874, .iload 5, 876, .iload 5), (876, .iconst 1, 877, .iconst 1), (877, .iadd, 878, .iadd), (878, .iaload, 879, .saload), (879, .invokevirtual 196, 882, .invokeinterface 253 17), (882, .istore 7, 884, .istore 7), (884, .aload_n 2, 885, .aload 2), (885, .invokevirtual 155, 888, .invokeinterface 215 9), (888, .iload 6, 890, .iload 6), (890, .if_icmp .eq 5, 893, .if_icmp .eq 895), (893, .iconst 0, 894, .iconst 0), (894, .ireturn, 895, .ret 1), (895, .iload 6, 897, .iload 6)],
  [(897, .ifCond .ne 15, 900, .ifCond .ne 912), (900, .aload_n 3, 901, .aload 3), (901, .iconst 0, 902, .iconst 0), (902, .laload, 903, .laload), (903, .iload 7, 905, .iload 7), (905, .i2l, 906, .i2l), (906, .lcmp, 907, .lcmp), (907, .ifCond .eq 5, 910, .ifCond .eq 912), (910, .iconst 0, 911, .iconst 0), (911, .ireturn, 912, .ret 1), (912, .goto 2077, 915, .goto 2989), (915, .aload_n 1, 916, .aload 1), (916, .aload_n 0, 917, .aload 0), (917, .iload 5, 919, .iload 5), (919, .iconst 1, 920, .iconst 1), (920, .iadd, 921, .iadd), (921, .iaload, 922, .saload), (922, .aload_n 3, 923, .aload 3), (923, .invokestatic 197, 926, .invokeinterface 254 25), (926, .istore 6, 928, .istore 6), (928, .aload_n 2, 929, .aload 2), (929, .aload_n 0, 930, .aload 0), (930, .iload 5, 932, .iload 5), (932, .iconst 1, 933, .iconst 1), (933, .iadd, 934, .iadd), (934, .iaload, 935, .saload), (935, .invokevirtual 199, 938, .invokeinterface 255 17), (938, .istore 7, 940, .istore 7), (940, .aload_n 2, 941, .aload 2), (941, .invokevirtual 155, 944, .invokeinterface 215 9), (944, .iload 6, 946, .iload 6), (946, .if_icmp .eq 5, 949, .if_icmp .eq 951), (949, .iconst 0, 950, .iconst 0), (950, .ireturn, 951, .ret 1), (951, .iload 6, 953, .iload 6), (953, .ifCond .ne 15, 956, .ifCond .ne 968), (956, .aload_n 3, 957, .aload 3), (957, .iconst 0, 958, .iconst 0), (958, .laload, 959, .laload), (959, .iload 7, 961, .iload 7)],
  [(961, .i2l, 962, .i2l), (962, .lcmp, 963, .lcmp), (963, .ifCond .eq 5, 966, .ifCond .eq 968), (966, .iconst 0, 967, .iconst 0), (967, .ireturn, 968, .ret 1), (968, .goto 2021, 971, .goto 2989), (971, .aload_n 1, 972, .aload 1), (972, .invokevirtual 200, 975, .invokeinterface 29 9), (975, .aload_n 2, 976, .aload 2), (976, .invokevirtual 204, 979, .invokeinterface 256 9), (979, .if_icmp .eq 2010, 982, .if_icmp .eq 2989), (982, .iconst 0, 983, .iconst 0), (983, .ireturn, 984, .ret 1), (984, .aload_n 1, 985, .aload 1), (985, .invokevirtual 205, 988, .invokeinterface 150 9), (988, .aload_n 2, 989, .aload 2), (989, .invokevirtual 208, 992, .invokeinterface 257 9), (992, .if_icmp .eq 1997, 995, .if_icmp .eq 2989), (995, .iconst 0, 996, .iconst 0), (996, .ireturn, 997, .ret 1), (997, .aload_n 1, 998, .aload 1), (998, .aload_n 0, 999, .aload 0), (999, .iload 5, 1001, .iload 5), (1001, .iconst 1, 1002, .iconst 1), (1002, .iadd, 1003, .iadd), (1003, .iaload, 1004, .saload), (1004, .i2c, 1005, .i2c), (1005, .aload_n 3, 1006, .aload 3), (1006, .invokestatic 209, 1009, .invokeinterface 258 25), (1009, .istore 6, 1011, .istore 6), (1011, .aload_n 2, 1012, .aload 2), (1012, .aload_n 0, 1013, .aload 0), (1013, .iload 5, 1015, .iload 5), (1015, .iconst 1, 1016, .iconst 1), (1016, .iadd, 1017, .iadd), (1017, .iaload, 1018, .saload), (1018, .i2c, 1019, .i2c), (1019, .invokevirtual 212, 1022, .invokeinterface 260 17), (1022, .istore 7, 1024, .istore 7)],
  [(1024, .aload_n 2, 1025, .aload 2), (1025, .invokevirtual 155, 1028, .invokeinterface 215 9), (1028, .iload 6, 1030, .iload 6), (1030, .if_icmp .eq 5, 1033, .if_icmp .eq 1035), (1033, .iconst 0, 1034, .iconst 0), (1034, .ireturn, 1035, .ret 1), (1035, .iload 6, 1037, .iload 6), (1037, .ifCond .ne 15, 1040, .ifCond .ne 1052), (1040, .aload_n 3, 1041, .aload 3), (1041, .iconst 0, 1042, .iconst 0), (1042, .laload, 1043, .laload), (1043, .iload 7, 1045, .iload 7), (1045, .i2l, 1046, .i2l), (1046, .lcmp, 1047, .lcmp), (1047, .ifCond .eq 5, 1050, .ifCond .eq 1052), (1050, .iconst 0, 1051, .iconst 0), (1051, .ireturn, 1052, .ret 1), (1052, .goto 1937, 1055, .goto 2989), (1055, .aload_n 1, 1056, .aload 1), (1056, .aload_n 0, 1057, .aload 0), (1057, .iload 5, 1059, .iload 5), (1059, .iconst 1, 1060, .iconst 1), (1060, .iadd, 1061, .iadd), (1061, .iaload, 1062, .saload), (1062, .i2c, 1063, .i2c), (1063, .aload_n 0, 1064, .aload 0), (1064, .iload 5, 1066, .iload 5), (1066, .iconst 2, 1067, .iconst 2), (1067, .iadd, 1068, .iadd), (1068, .iaload, 1069, .saload), (1069, .aload_n 3, 1070, .aload 3), (1070, .invokestatic 213, 1073, .invokeinterface 198 33), (1073, .istore 6, 1075, .istore 6), (1075, .aload_n 2, 1076, .aload 2), (1076, .aload_n 0, 1077, .aload 0), (1077, .iload 5, 1079, .iload 5), (1079, .iconst 1, 1080, .iconst 1), (1080, .iadd, 1081, .iadd), (1081, .iaload, 1082, .saload), (1082, .i2c, 1083, .i2c), (1083, .aload_n 0, 1084, .aload 0), (1084, .iload 5, 1086, .iload 5), (1086, .iconst 2, 1087, .iconst 2), (1087, .iadd, 1088, .iadd)],
  [(1088, .iaload, 1089, .saload), (1089, .invokevirtual 215, 1092, .invokeinterface 261 25), (1092, .istore 7, 1094, .istore 7), (1094, .aload_n 2, 1095, .aload 2), (1095, .invokevirtual 155, 1098, .invokeinterface 215 9), (1098, .iload 6, 1100, .iload 6), (1100, .if_icmp .eq 5, 1103, .if_icmp .eq 1105), (1103, .iconst 0, 1104, .iconst 0), (1104, .ireturn, 1105, .ret 1), (1105, .iload 6, 1107, .iload 6), (1107, .ifCond .ne 22, 1110, .ifCond .ne 1129), (1110, .aload_n 3, 1111, .aload 3), (1111, .iconst 0, 1112, .iconst 0), (1112, .laload, 1113, .laload), (1113, .iload 7, 1115, .iload 7), (1115, .ifCond .eq 7, 1118, .ifCond .eq 1122), (1118, .lconst 1, 1119, .lconst 1), (1119, .goto 4, 1122, .goto 1123), (1122, .lconst 0, 1123, .lconst 0), (1123, .lcmp, 1124, .lcmp), (1124, .ifCond .eq 5, 1127, .ifCond .eq 1129), (1127, .iconst 0, 1128, .iconst 0), (1128, .ireturn, 1129, .ret 1), (1129, .goto 1860, 1132, .goto 2989), (1132, .aload_n 1, 1133, .aload 1), (1133, .aload_n 0, 1134, .aload 0), (1134, .iload 5, 1136, .iload 5), (1136, .iconst 1, 1137, .iconst 1), (1137, .iadd, 1138, .iadd), (1138, .iaload, 1139, .saload), (1139, .i2c, 1140, .i2c), (1140, .aload_n 0, 1141, .aload 0), (1141, .iload 5, 1143, .iload 5), (1143, .iconst 2, 1144, .iconst 2), (1144, .iadd, 1145, .iadd), (1145, .iaload, 1146, .saload), (1146, .aload_n 3, 1147, .aload 3), (1147, .invokestatic 216, 1150, .invokeinterface 186 33), (1150, .istore 6, 1152, .istore 6)],
  [(1152, .aload_n 2, 1153, .aload 2), (1153, .aload_n 0, 1154, .aload 0), (1154, .iload 5, 1156, .iload 5), (1156, .iconst 1, 1157, .iconst 1), (1157, .iadd, 1158, .iadd), (1158, .iaload, 1159, .saload), (1159, .i2c, 1160, .i2c), (1160, .aload_n 0, 1161, .aload 0), (1161, .iload 5, 1163, .iload 5), (1163, .iconst 2, 1164, .iconst 2), (1164, .iadd, 1165, .iadd), (1165, .iaload, 1166, .saload), (1166, .invokevirtual 218, 1169, .invokeinterface 263 25), (1169, .istore 7, 1171, .istore 7), (1171, .aload_n 2, 1172, .aload 2), (1172, .invokevirtual 155, 1175, .invokeinterface 215 9), (1175, .iload 6, 1177, .iload 6), (1177, .if_icmp .eq 5, 1180, .if_icmp .eq 1182), (1180, .iconst 0, 1181, .iconst 0), (1181, .ireturn, 1182, .ret 1), (1182, .iload 6, 1184, .iload 6), (1184, .ifCond .ne 15, 1187, .ifCond .ne 1199), (1187, .aload_n 3, 1188, .aload 3), (1188, .iconst 0, 1189, .iconst 0), (1189, .laload, 1190, .laload), (1190, .iload 7, 1192, .iload 7), (1192, .i2l, 1193, .i2l), (1193, .lcmp, 1194, .lcmp), (1194, .ifCond .eq 5, 1197, .ifCond .eq 1199), (1197, .iconst 0, 1198, .iconst 0), (1198, .ireturn, 1199, .ret 1), (1199, .goto 1790, 1202, .goto 2989), (1202, .aload_n 1, 1203, .aload 1), (1203, .aload_n 0, 1204, .aload 0), (1204, .iload 5, 1206, .iload 5), (1206, .iconst 1, 1207, .iconst 1), (1207, .iadd, 1208, .iadd), (1208, .iaload, 1209, .saload), (1209, .i2c, 1210, .i2c), (1210, .aload_n 0, 1211, .aload 0), (1211, .iload 5, 1213, .iload 5), (1213, .iconst 2, 1214, .iconst 2), (1214, .iadd, 1215, .iadd), (1215, .iaload, 1216, .saload)],
  [(1216, .aload_n 3, 1217, .aload 3), (1217, .invokestatic 219, 1220, .invokeinterface 190 33), (1220, .istore 6, 1222, .istore 6), (1222, .aload_n 2, 1223, .aload 2), (1223, .aload_n 0, 1224, .aload 0), (1224, .iload 5, 1226, .iload 5), (1226, .iconst 1, 1227, .iconst 1), (1227, .iadd, 1228, .iadd), (1228, .iaload, 1229, .saload), (1229, .i2c, 1230, .i2c), (1230, .aload_n 0, 1231, .aload 0), (1231, .iload 5, 1233, .iload 5), (1233, .iconst 2, 1234, .iconst 2), (1234, .iadd, 1235, .iadd), (1235, .iaload, 1236, .saload), (1236, .invokevirtual 221, 1239, .invokeinterface 264 25), (1239, .istore 7, 1241, .istore 7), (1241, .aload_n 2, 1242, .aload 2), (1242, .invokevirtual 155, 1245, .invokeinterface 215 9), (1245, .iload 6, 1247, .iload 6), (1247, .if_icmp .eq 5, 1250, .if_icmp .eq 1252), (1250, .iconst 0, 1251, .iconst 0), (1251, .ireturn, 1252, .ret 1), (1252, .iload 6, 1254, .iload 6), (1254, .ifCond .ne 15, 1257, .ifCond .ne 1269), (1257, .aload_n 3, 1258, .aload 3), (1258, .iconst 0, 1259, .iconst 0), (1259, .laload, 1260, .laload), (1260, .iload 7, 1262, .iload 7), (1262, .i2l, 1263, .i2l), (1263, .lcmp, 1264, .lcmp), (1264, .ifCond .eq 5, 1267, .ifCond .eq 1269), (1267, .iconst 0, 1268, .iconst 0), (1268, .ireturn, 1269, .ret 1), (1269, .goto 1720, 1272, .goto 2989), (1272, .aload_n 1, 1273, .aload 1), (1273, .aload_n 0, 1274, .aload 0), (1274, .iload 5, 1276, .iload 5), (1276, .iconst 1, 1277, .iconst 1), (1277, .iadd, 1278, .iadd), (1278, .iaload, 1279, .saload), (1279, .i2c, 1280, .i2c)],
  [(1280, .aload_n 0, 1281, .aload 0), (1281, .iload 5, 1283, .iload 5), (1283, .iconst 2, 1284, .iconst 2), (1284, .iadd, 1285, .iadd), (1285, .iaload, 1286, .saload), (1286, .aload_n 3, 1287, .aload 3), (1287, .invokestatic 222, 1290, .invokeinterface 201 33), (1290, .istore 6, 1292, .istore 6), (1292, .aload_n 2, 1293, .aload 2), (1293, .aload_n 0, 1294, .aload 0), (1294, .iload 5, 1296, .iload 5), (1296, .iconst 1, 1297, .iconst 1), (1297, .iadd, 1298, .iadd), (1298, .iaload, 1299, .saload), (1299, .i2c, 1300, .i2c), (1300, .aload_n 0, 1301, .aload 0), (1301, .iload 5, 1303, .iload 5), (1303, .iconst 2, 1304, .iconst 2), (1304, .iadd, 1305, .iadd), (1305, .iaload, 1306, .saload), (1306, .invokevirtual 224, 1309, .invokeinterface 265 25), (1309, .istore 7, 1311, .istore 7), (1311, .aload_n 2, 1312, .aload 2), (1312, .invokevirtual 155, 1315, .invokeinterface 215 9), (1315, .iload 6, 1317, .iload 6), (1317, .if_icmp .eq 5, 1320, .if_icmp .eq 1322), (1320, .iconst 0, 1321, .iconst 0), (1321, .ireturn, 1322, .ret 1), (1322, .iload 6, 1324, .iload 6), (1324, .ifCond .ne 15, 1327, .ifCond .ne 1339), (1327, .aload_n 3, 1328, .aload 3), (1328, .iconst 0, 1329, .iconst 0), (1329, .laload, 1330, .laload), (1330, .iload 7, 1332, .iload 7), (1332, .i2l, 1333, .i2l), (1333, .lcmp, 1334, .lcmp), (1334, .ifCond .eq 5, 1337, .ifCond .eq 1339), (1337, .iconst 0, 1338, .iconst 0), (1338, .ireturn, 1339, .ret 1), (1339, .goto 1650, 1342, .goto 2989), (1342, .aload_n 1, 1343, .aload 1), (1343, .aload_n 0, 1344, .aload 0)],
  [(1344, .iload 5, 1346, .iload 5), (1346, .iconst 1, 1347, .iconst 1), (1347, .iadd, 1348, .iadd), (1348, .iaload, 1349, .saload), (1349, .i2c, 1350, .i2c), (1350, .aload_n 3, 1351, .aload 3), (1351, .invokestatic 225, 1354, .invokeinterface 266 25), (1354, .istore 6, 1356, .istore 6), (1356, .aload_n 2, 1357, .aload 2), (1357, .aload_n 0, 1358, .aload 0), (1358, .iload 5, 1360, .iload 5), (1360, .iconst 1, 1361, .iconst 1), (1361, .iadd, 1362, .iadd), (1362, .iaload, 1363, .saload), (1363, .i2c, 1364, .i2c), (1364, .invokevirtual 227, 1367, .invokeinterface 267 17), (1367, .istore 7, 1369, .istore 7), (1369, .aload_n 2, 1370, .aload 2), (1370, .invokevirtual 155, 1373, .invokeinterface 215 9), (1373, .iload 6, 1375, .iload 6), (1375, .if_icmp .eq 5, 1378, .if_icmp .eq 1380), (1378, .iconst 0, 1379, .iconst 0), (1379, .ireturn, 1380, .ret 1), (1380, .iload 6, 1382, .iload 6), (1382, .ifCond .ne 15, 1385, .ifCond .ne 1397), (1385, .aload_n 3, 1386, .aload 3), (1386, .iconst 0, 1387, .iconst 0), (1387, .laload, 1388, .laload), (1388, .iload 7, 1390, .iload 7), (1390, .i2l, 1391, .i2l), (1391, .lcmp, 1392, .lcmp), (1392, .ifCond .eq 5, 1395, .ifCond .eq 1397), (1395, .iconst 0, 1396, .iconst 0), (1396, .ireturn, 1397, .ret 1), (1397, .goto 1592, 1400, .goto 2989), (1400, .aload_n 1, 1401, .aload 1), (1401, .aload_n 0, 1402, .aload 0), (1402, .iload 5, 1404, .iload 5), (1404, .iconst 1, 1405, .iconst 1), (1405, .iadd, 1406, .iadd), (1406, .iaload, 1407, .saload), (1407, .aload_n 3, 1408, .aload 3)],
  [(1408, .invokestatic 228, 1411, .invokeinterface 268 25), (1411, .istore 6, 1413, .istore 6), (1413, .aload_n 2, 1414, .aload 2), (1414, .aload_n 0, 1415, .aload 0), (1415, .iload 5, 1417, .iload 5), (1417, .iconst 1, 1418, .iconst 1), (1418, .iadd, 1419, .iadd), (1419, .iaload, 1420, .saload), (1420, .invokevirtual 230, 1423, .invokeinterface 269 17), (1423, .istore 7, 1425, .istore 7), (1425, .aload_n 2, 1426, .aload 2), (1426, .invokevirtual 155, 1429, .invokeinterface 215 9), (1429, .iload 6, 1431, .iload 6), (1431, .if_icmp .eq 5, 1434, .if_icmp .eq 1436), (1434, .iconst 0, 1435, .iconst 0), (1435, .ireturn, 1436, .ret 1), (1436, .iload 6, 1438, .iload 6), (1438, .ifCond .ne 15, 1441, .ifCond .ne 1453), (1441, .aload_n 3, 1442, .aload 3), (1442, .iconst 0, 1443, .iconst 0), (1443, .laload, 1444, .laload), (1444, .iload 7, 1446, .iload 7), (1446, .i2l, 1447, .i2l), (1447, .lcmp, 1448, .lcmp), (1448, .ifCond .eq 5, 1451, .ifCond .eq 1453), (1451, .iconst 0, 1452, .iconst 0), (1452, .ireturn, 1453, .ret 1), (1453, .goto 1536, 1456, .goto 2989), (1456, .aload_n 1, 1457, .aload 1), (1457, .invokevirtual 231, 1460, .invokeinterface 58 9), (1460, .aload_n 2, 1461, .aload 2), (1461, .invokevirtual 234, 1464, .invokeinterface 273 9), (1464, .if_icmp .eq 1525, 1467, .if_icmp .eq 2989), (1467, .iconst 0, 1468, .iconst 0), (1468, .ireturn, 1469, .ret 1), (1469, .aload_n 1, 1470, .aload 1), (1470, .invokevirtual 235, 1473, .invokeinterface 65 9)],
  [(1473, .aload_n 2, 1474, .aload 2), (1474, .invokevirtual 238, 1477, .invokeinterface 274 9), (1477, .if_icmp .eq 1512, 1480, .if_icmp .eq 2989), (1480, .iconst 0, 1481, .iconst 0), (1481, .ireturn, 1482, .ret 1), (1482, .aload_n 1, 1483, .aload 1), (1483, .invokevirtual 239, 1486, .invokeinterface 143 9), (1486, .aload_n 2, 1487, .aload 2), (1487, .invokevirtual 242, 1490, .invokeinterface 275 9), (1490, .if_icmp .eq 1499, 1493, .if_icmp .eq 2989), (1493, .iconst 0, 1494, .iconst 0), (1494, .ireturn, 1495, .ret 1), (1495, .aload_n 1, 1496, .aload 1), (1496, .aload_n 0, 1497, .aload 0), (1497, .iload 5, 1499, .iload 5), (1499, .iconst 1, 1500, .iconst 1), (1500, .iadd, 1501, .iadd), (1501, .iaload, 1502, .saload), (1502, .aload_n 3, 1503, .aload 3), (1503, .invokestatic 243, 1506, .invokeinterface 191 25), (1506, .istore 6, 1508, .istore 6), (1508, .aload_n 2, 1509, .aload 2), (1509, .aload_n 0, 1510, .aload 0), (1510, .iload 5, 1512, .iload 5), (1512, .iconst 1, 1513, .iconst 1), (1513, .iadd, 1514, .iadd), (1514, .iaload, 1515, .saload), (1515, .invokevirtual 245, 1518, .invokeinterface 276 17), (1518, .istore 7, 1520, .istore 7), (1520, .aload_n 2, 1521, .aload 2), (1521, .invokevirtual 155, 1524, .invokeinterface 215 9), (1524, .iload 6, 1526, .iload 6), (1526, .if_icmp .eq 5, 1529, .if_icmp .eq 1531), (1529, .iconst 0, 1530, .iconst 0), (1530, .ireturn, 1531, .ret 1), (1531, .iload 6, 1533, .iload 6), (1533, .ifCond .ne 15, 1536, .ifCond .ne 1548)],
  [(1536, .aload_n 3, 1537, .aload 3), (1537, .iconst 0, 1538, .iconst 0), (1538, .laload, 1539, .laload), (1539, .iload 7, 1541, .iload 7), (1541, .i2l, 1542, .i2l), (1542, .lcmp, 1543, .lcmp), (1543, .ifCond .eq 5, 1546, .ifCond .eq 1548), (1546, .iconst 0, 1547, .iconst 0), (1547, .ireturn, 1548, .ret 1), (1548, .goto 1441, 1551, .goto 2989), (1551, .aload_n 1, 1552, .aload 1), (1552, .aload_n 0, 1553, .aload 0), (1553, .iload 5, 1555, .iload 5), (1555, .iconst 1, 1556, .iconst 1), (1556, .iadd, 1557, .iadd), (1557, .iaload, 1558, .saload), (1558, .aload_n 3, 1559, .aload 3), (1559, .invokestatic 246, 1562, .invokeinterface 185 25), (1562, .istore 6, 1564, .istore 6), (1564, .aload_n 2, 1565, .aload 2), (1565, .aload_n 0, 1566, .aload 0), (1566, .iload 5, 1568, .iload 5), (1568, .iconst 1, 1569, .iconst 1), (1569, .iadd, 1570, .iadd), (1570, .iaload, 1571, .saload), (1571, .invokevirtual 248, 1574, .invokeinterface 277 17), (1574, .istore 7, 1576, .istore 7), (1576, .aload_n 2, 1577, .aload 2), (1577, .invokevirtual 155, 1580, .invokeinterface 215 9), (1580, .iload 6, 1582, .iload 6), (1582, .if_icmp .eq 5, 1585, .if_icmp .eq 1587), (1585, .iconst 0, 1586, .iconst 0), (1586, .ireturn, 1587, .ret 1), (1587, .iload 6, 1589, .iload 6), (1589, .ifCond .ne 15, 1592, .ifCond .ne 1604), (1592, .aload_n 3, 1593, .aload 3), (1593, .iconst 0, 1594, .iconst 0), (1594, .laload, 1595, .laload), (1595, .iload 7, 1597, .iload 7), (1597, .i2l, 1598, .i2l), (1598, .lcmp, 1599, .lcmp), (1599, .ifCond .eq 5, 1602, .ifCond .eq 1604)],
  [(1602, .iconst 0, 1603, .iconst 0), (1603, .ireturn, 1604, .ret 1), (1604, .goto 1385, 1607, .goto 2989), (1607, .aload_n 1, 1608, .aload 1), (1608, .invokevirtual 249, 1611, .invokeinterface 17 9), (1611, .aload_n 2, 1612, .aload 2), (1612, .invokevirtual 252, 1615, .invokeinterface 278 9), (1615, .if_icmp .eq 1374, 1618, .if_icmp .eq 2989), (1618, .iconst 0, 1619, .iconst 0), (1619, .ireturn, 1620, .ret 1), (1620, .aload_n 1, 1621, .aload 1), (1621, .aload_n 0, 1622, .aload 0), (1622, .iload 5, 1624, .iload 5), (1624, .iconst 1, 1625, .iconst 1), (1625, .iadd, 1626, .iadd), (1626, .iaload, 1627, .saload), (1627, .i2c, 1628, .i2c), (1628, .aload_n 3, 1629, .aload 3), (1629, .invokestatic 253, 1632, .invokeinterface 279 25), (1632, .istore 6, 1634, .istore 6), (1634, .aload_n 2, 1635, .aload 2), (1635, .aload_n 0, 1636, .aload 0), (1636, .iload 5, 1638, .iload 5), (1638, .iconst 1, 1639, .iconst 1), (1639, .iadd, 1640, .iadd), (1640, .iaload, 1641, .saload), (1641, .i2c, 1642, .i2c), (1642, .invokevirtual 255, 1645, .invokeinterface 281 17), (1645, .istore 7, 1647, .istore 7), (1647, .aload_n 2, 1648, .aload 2), (1648, .invokevirtual 155, 1651, .invokeinterface 215 9), (1651, .iload 6, 1653, .iload 6), (1653, .if_icmp .eq 5, 1656, .if_icmp .eq 1658), (1656, .iconst 0, 1657, .iconst 0), (1657, .ireturn, 1658, .ret 1), (1658, .iload 6, 1660, .iload 6), (1660, .ifCond .ne 15, 1663, .ifCond .ne 1675), (1663, .aload_n 3, 1664, .aload 3)],
  [(1664, .iconst 0, 1665, .iconst 0), (1665, .laload, 1666, .laload), (1666, .iload 7, 1668, .iload 7), (1668, .i2l, 1669, .i2l), (1669, .lcmp, 1670, .lcmp), (1670, .ifCond .eq 5, 1673, .ifCond .eq 1675), (1673, .iconst 0, 1674, .iconst 0), (1674, .ireturn, 1675, .ret 1), (1675, .goto 1314, 1678, .goto 2989), (1678, .aload_n 1, 1679, .aload 1), (1679, .aload_n 0, 1680, .aload 0), (1680, .iload 5, 1682, .iload 5), (1682, .iconst 1, 1683, .iconst 1), (1683, .iadd, 1684, .iadd), (1684, .iaload, 1685, .saload), (1685, .i2c, 1686, .i2c), (1686, .aload_n 0, 1687, .aload 0), (1687, .iload 5, 1689, .iload 5), (1689, .iconst 2, 1690, .iconst 2), (1690, .iadd, 1691, .iadd), (1691, .iaload, 1692, .saload), (1692, .aload_n 0, 1693, .aload 0), (1693, .iload 5, 1695, .iload 5), (1695, .iconst 3, 1696, .iconst 3), (1696, .iadd, 1697, .iadd), (1697, .iaload, 1698, .saload), (1698, .i2c, 1699, .i2c), (1699, .aload_n 0, 1700, .aload 0), (1700, .iload 5, 1702, .iload 5), (1702, .iconst 4, 1703, .iconst 4), (1703, .iadd, 1704, .iadd), (1704, .iaload, 1705, .saload), (1705, .aload_n 3, 1706, .aload 3), (1706, .invokestatic 256, 1709, .invokeinterface 200 49), (1709, .istore 6, 1711, .istore 6), (1711, .aload_n 2, 1712, .aload 2), (1712, .aload_n 0, 1713, .aload 0), (1713, .iload 5, 1715, .iload 5), (1715, .iconst 1, 1716, .iconst 1), (1716, .iadd, 1717, .iadd), (1717, .iaload, 1718, .saload), (1718, .i2c, 1719, .i2c), (1719, .aload_n 0, 1720, .aload 0), (1720, .iload 5, 1722, .iload 5), (1722, .iconst 2, 1723, .iconst 2), (1723, .iadd, 1724, .iadd), (1724, .iaload, 1725, .saload), (1725, .aload_n 0, 1726, .aload 0), (1726, .iload 5, 1728, .iload 5)],
  [(1728, .iconst 3, 1729, .iconst 3), (1729, .iadd, 1730, .iadd), (1730, .iaload, 1731, .saload), (1731, .i2c, 1732, .i2c), (1732, .aload_n 0, 1733, .aload 0), (1733, .iload 5, 1735, .iload 5), (1735, .iconst 4, 1736, .iconst 4), (1736, .iadd, 1737, .iadd), (1737, .iaload, 1738, .saload), (1738, .invokevirtual 259, 1741, .invokeinterface 284 41), (1741, .istore 7, 1743, .istore 7), (1743, .aload_n 2, 1744, .aload 2), (1744, .invokevirtual 155, 1747, .invokeinterface 215 9), (1747, .iload 6, 1749, .iload 6), (1749, .if_icmp .eq 5, 1752, .if_icmp .eq 1754), (1752, .iconst 0, 1753, .iconst 0), (1753, .ireturn, 1754, .ret 1), (1754, .iload 6, 1756, .iload 6), (1756, .ifCond .ne 22, 1759, .ifCond .ne 1778), (1759, .aload_n 3, 1760, .aload 3), (1760, .iconst 0, 1761, .iconst 0), (1761, .laload, 1762, .laload), (1762, .iload 7, 1764, .iload 7), (1764, .ifCond .eq 7, 1767, .ifCond .eq 1771), (1767, .lconst 1, 1768, .lconst 1), (1768, .goto 4, 1771, .goto 1772), (1771, .lconst 0, 1772, .lconst 0), (1772, .lcmp, 1773, .lcmp), (1773, .ifCond .eq 5, 1776, .ifCond .eq 1778), (1776, .iconst 0, 1777, .iconst 0), (1777, .ireturn, 1778, .ret 1), (1778, .goto 1211, 1781, .goto 2989), (1781, .aload_n 1, 1782, .aload 1), (1782, .aload_n 0, 1783, .aload 0), (1783, .iload 5, 1785, .iload 5), (1785, .iconst 1, 1786, .iconst 1), (1786, .iadd, 1787, .iadd), (1787, .iaload, 1788, .saload), (1788, .i2c, 1789, .i2c), (1789, .aload_n 0, 1790, .aload 0), (1790, .iload 5, 1792, .iload 5)],
  [(1792, .iconst 2, 1793, .iconst 2), (1793, .iadd, 1794, .iadd), (1794, .iaload, 1795, .saload), (1795, .i2c, 1796, .i2c), (1796, .aload_n 3, 1797, .aload 3), (1797, .invokestatic 260, 1800, .invokeinterface 285 33), (1800, .istore 6, 1802, .istore 6), (1802, .aload_n 2, 1803, .aload 2), (1803, .aload_n 0, 1804, .aload 0), (1804, .iload 5, 1806, .iload 5), (1806, .iconst 1, 1807, .iconst 1), (1807, .iadd, 1808, .iadd), (1808, .iaload, 1809, .saload), (1809, .i2c, 1810, .i2c), (1810, .aload_n 0, 1811, .aload 0), (1811, .iload 5, 1813, .iload 5), (1813, .iconst 2, 1814, .iconst 2), (1814, .iadd, 1815, .iadd), (1815, .iaload, 1816, .saload), (1816, .i2c, 1817, .i2c), (1817, .invokevirtual 263, 1820, .invokeinterface 286 25), (1820, .istore 7, 1822, .istore 7), (1822, .aload_n 2, 1823, .aload 2), (1823, .invokevirtual 155, 1826, .invokeinterface 215 9), (1826, .iload 6, 1828, .iload 6), (1828, .if_icmp .eq 5, 1831, .if_icmp .eq 1833), (1831, .iconst 0, 1832, .iconst 0), (1832, .ireturn, 1833, .ret 1), (1833, .iload 6, 1835, .iload 6), (1835, .ifCond .ne 15, 1838, .ifCond .ne 1850), (1838, .aload_n 3, 1839, .aload 3), (1839, .iconst 0, 1840, .iconst 0), (1840, .laload, 1841, .laload), (1841, .iload 7, 1843, .iload 7), (1843, .i2l, 1844, .i2l), (1844, .lcmp, 1845, .lcmp), (1845, .ifCond .eq 5, 1848, .ifCond .eq 1850), (1848, .iconst 0, 1849, .iconst 0), (1849, .ireturn, 1850, .ret 1), (1850, .goto 1139, 1853, .goto 2989), (1853, .aload_n 1, 1854, .aload 1), (1854, .aload_n 0, 1855, .aload 0), (1855, .iload 5, 1857, .iload 5)],
  [(1857, .iconst 1, 1858, .iconst 1), (1858, .iadd, 1859, .iadd), (1859, .iaload, 1860, .saload), (1860, .i2c, 1861, .i2c), (1861, .aload_n 0, 1862, .aload 0), (1862, .iload 5, 1864, .iload 5), (1864, .iconst 2, 1865, .iconst 2), (1865, .iadd, 1866, .iadd), (1866, .iaload, 1867, .saload), (1867, .i2c, 1868, .i2c), (1868, .aload_n 3, 1869, .aload 3), (1869, .invokestatic 264, 1872, .invokeinterface 287 33), (1872, .istore 6, 1874, .istore 6), (1874, .aload_n 2, 1875, .aload 2), (1875, .aload_n 0, 1876, .aload 0), (1876, .iload 5, 1878, .iload 5), (1878, .iconst 1, 1879, .iconst 1), (1879, .iadd, 1880, .iadd), (1880, .iaload, 1881, .saload), (1881, .i2c, 1882, .i2c), (1882, .aload_n 0, 1883, .aload 0), (1883, .iload 5, 1885, .iload 5), (1885, .iconst 2, 1886, .iconst 2), (1886, .iadd, 1887, .iadd), (1887, .iaload, 1888, .saload), (1888, .i2c, 1889, .i2c), (1889, .invokevirtual 266, 1892, .invokeinterface 292 25), (1892, .istore 7, 1894, .istore 7), (1894, .aload_n 2, 1895, .aload 2), (1895, .invokevirtual 155, 1898, .invokeinterface 215 9), (1898, .iload 6, 1900, .iload 6), (1900, .if_icmp .eq 5, 1903, .if_icmp .eq 1905), (1903, .iconst 0, 1904, .iconst 0), (1904, .ireturn, 1905, .ret 1), (1905, .iload 6, 1907, .iload 6), (1907, .ifCond .ne 15, 1910, .ifCond .ne 1922), (1910, .aload_n 3, 1911, .aload 3), (1911, .iconst 0, 1912, .iconst 0), (1912, .laload, 1913, .laload), (1913, .iload 7, 1915, .iload 7), (1915, .i2l, 1916, .i2l), (1916, .lcmp, 1917, .lcmp), (1917, .ifCond .eq 5, 1920, .ifCond .eq 1922)],
  [(1920, .iconst 0, 1921, .iconst 0), (1921, .ireturn, 1922, .ret 1), (1922, .goto 1067, 1925, .goto 2989), (1925, .aload_n 1, 1926, .aload 1), (1926, .aload_n 0, 1927, .aload 0), (1927, .iload 5, 1929, .iload 5), (1929, .iconst 1, 1930, .iconst 1), (1930, .iadd, 1931, .iadd), (1931, .iaload, 1932, .saload), (1932, .i2c, 1933, .i2c), (1933, .aload_n 0, 1934, .aload 0), (1934, .iload 5, 1936, .iload 5), (1936, .iconst 2, 1937, .iconst 2), (1937, .iadd, 1938, .iadd), (1938, .iaload, 1939, .saload), (1939, .i2c, 1940, .i2c), (1940, .aload_n 3, 1941, .aload 3), (1941, .invokestatic 267, 1944, .invokeinterface 293 33), (1944, .istore 6, 1946, .istore 6), (1946, .aload_n 2, 1947, .aload 2), (1947, .aload_n 0, 1948, .aload 0), (1948, .iload 5, 1950, .iload 5), (1950, .iconst 1, 1951, .iconst 1), (1951, .iadd, 1952, .iadd), (1952, .iaload, 1953, .saload), (1953, .i2c, 1954, .i2c), (1954, .aload_n 0, 1955, .aload 0), (1955, .iload 5, 1957, .iload 5), (1957, .iconst 2, 1958, .iconst 2), (1958, .iadd, 1959, .iadd), (1959, .iaload, 1960, .saload), (1960, .i2c, 1961, .i2c), (1961, .invokevirtual 269, 1964, .invokeinterface 294 25), (1964, .istore 7, 1966, .istore 7), (1966, .aload_n 2, 1967, .aload 2), (1967, .invokevirtual 155, 1970, .invokeinterface 215 9), (1970, .iload 6, 1972, .iload 6), (1972, .if_icmp .eq 5, 1975, .if_icmp .eq 1977), (1975, .iconst 0, 1976, .iconst 0), (1976, .ireturn, 1977, .ret 1), (1977, .iload 6, 1979, .iload 6), (1979, .ifCond .ne 15, 1982, .ifCond .ne 1994), (1982, .aload_n 3, 1983, .aload 3), (1983, .iconst 0, 1984, .iconst 0)],
  [(1984, .laload, 1985, .laload), (1985, .iload 7, 1987, .iload 7), (1987, .i2l, 1988, .i2l), (1988, .lcmp, 1989, .lcmp), (1989, .ifCond .eq 5, 1992, .ifCond .eq 1994), (1992, .iconst 0, 1993, .iconst 0), (1993, .ireturn, 1994, .ret 1), (1994, .goto 995, 1997, .goto 2989), (1997, .aload_n 1, 1998, .aload 1), (1998, .aload_n 0, 1999, .aload 0), (1999, .iload 5, 2001, .iload 5), (2001, .iconst 1, 2002, .iconst 1), (2002, .iadd, 2003, .iadd), (2003, .iaload, 2004, .saload), (2004, .i2c, 2005, .i2c), (2005, .aload_n 0, 2006, .aload 0), (2006, .iload 5, 2008, .iload 5), (2008, .iconst 2, 2009, .iconst 2), (2009, .iadd, 2010, .iadd), (2010, .iaload, 2011, .saload), (2011, .aload_n 0, 2012, .aload 0), (2012, .iload 5, 2014, .iload 5), (2014, .iconst 3, 2015, .iconst 3), (2015, .iadd, 2016, .iadd), (2016, .iaload, 2017, .saload), (2017, .i2c, 2018, .i2c), (2018, .aload_n 3, 2019, .aload 3), (2019, .invokestatic 270, 2022, .invokeinterface 199 41), (2022, .istore 6, 2024, .istore 6), (2024, .aload_n 2, 2025, .aload 2), (2025, .aload_n 0, 2026, .aload 0), (2026, .iload 5, 2028, .iload 5), (2028, .iconst 1, 2029, .iconst 1), (2029, .iadd, 2030, .iadd), (2030, .iaload, 2031, .saload), (2031, .i2c, 2032, .i2c), (2032, .aload_n 0, 2033, .aload 0), (2033, .iload 5, 2035, .iload 5), (2035, .iconst 2, 2036, .iconst 2), (2036, .iadd, 2037, .iadd), (2037, .iaload, 2038, .saload), (2038, .aload_n 0, 2039, .aload 0), (2039, .iload 5, 2041, .iload 5), (2041, .iconst 3, 2042, .iconst 3), (2042, .iadd, 2043, .iadd), (2043, .iaload, 2044, .saload), (2044, .i2c, 2045, .i2c), (2045, .invokevirtual 273, 2048, .invokeinterface 295 33)],
  [(2048, .istore 7, 2050, .istore 7), (2050, .aload_n 2, 2051, .aload 2), (2051, .invokevirtual 155, 2054, .invokeinterface 215 9), (2054, .iload 6, 2056, .iload 6), (2056, .if_icmp .eq 5, 2059, .if_icmp .eq 2061), (2059, .iconst 0, 2060, .iconst 0), (2060, .ireturn, 2061, .ret 1), (2061, .iload 6, 2063, .iload 6), (2063, .ifCond .ne 22, 2066, .ifCond .ne 2085), (2066, .aload_n 3, 2067, .aload 3), (2067, .iconst 0, 2068, .iconst 0), (2068, .laload, 2069, .laload), (2069, .iload 7, 2071, .iload 7), (2071, .ifCond .eq 7, 2074, .ifCond .eq 2078), (2074, .lconst 1, 2075, .lconst 1), (2075, .goto 4, 2078, .goto 2079), (2078, .lconst 0, 2079, .lconst 0), (2079, .lcmp, 2080, .lcmp), (2080, .ifCond .eq 5, 2083, .ifCond .eq 2085), (2083, .iconst 0, 2084, .iconst 0), (2084, .ireturn, 2085, .ret 1), (2085, .goto 904, 2088, .goto 2989), (2088, .aload_n 1, 2089, .aload 1), (2089, .invokevirtual 274, 2092, .invokeinterface 105 9), (2092, .aload_n 2, 2093, .aload 2), (2093, .invokevirtual 277, 2096, .invokeinterface 299 9), (2096, .if_icmp .eq 893, 2099, .if_icmp .eq 2989), (2099, .iconst 0, 2100, .iconst 0), (2100, .ireturn, 2101, .ret 1), (2101, .aload_n 1, 2102, .aload 1), (2102, .invokevirtual 278, 2105, .invokeinterface 108 9), (2105, .aload_n 2, 2106, .aload 2), (2106, .invokevirtual 281, 2109, .invokeinterface 300 9), (2109, .if_icmp .eq 880, 2112, .if_icmp .eq 2989)],
  [(2112, .iconst 0, 2113, .iconst 0), (2113, .ireturn, 2114, .ret 1), (2114, .aload_n 1, 2115, .aload 1), (2115, .aload_n 0, 2116, .aload 0), (2116, .iload 5, 2118, .iload 5), (2118, .iconst 1, 2119, .iconst 1), (2119, .iadd, 2120, .iadd), (2120, .iaload, 2121, .saload), (2121, .i2c, 2122, .i2c), (2122, .aload_n 0, 2123, .aload 0), (2123, .iload 5, 2125, .iload 5), (2125, .iconst 2, 2126, .iconst 2), (2126, .iadd, 2127, .iadd), (2127, .iaload, 2128, .saload), (2128, .aload_n 3, 2129, .aload 3), (2129, .invokestatic 282, 2132, .invokeinterface 197 33), (2132, .istore 6, 2134, .istore 6), (2134, .aload_n 2, 2135, .aload 2), (2135, .aload_n 0, 2136, .aload 0), (2136, .iload 5, 2138, .iload 5), (2138, .iconst 1, 2139, .iconst 1), (2139, .iadd, 2140, .iadd), (2140, .iaload, 2141, .saload), (2141, .i2c, 2142, .i2c), (2142, .aload_n 0, 2143, .aload 0), (2143, .iload 5, 2145, .iload 5), (2145, .iconst 2, 2146, .iconst 2), (2146, .iadd, 2147, .iadd), (2147, .iaload, 2148, .saload), (2148, .invokevirtual 284, 2151, .invokeinterface 301 25), (2151, .istore 7, 2153, .istore 7), (2153, .aload_n 2, 2154, .aload 2), (2154, .invokevirtual 155, 2157, .invokeinterface 215 9), (2157, .iload 6, 2159, .iload 6), (2159, .if_icmp .eq 5, 2162, .if_icmp .eq 2164), (2162, .iconst 0, 2163, .iconst 0), (2163, .ireturn, 2164, .ret 1), (2164, .iload 6, 2166, .iload 6), (2166, .ifCond .ne 15, 2169, .ifCond .ne 2181), (2169, .aload_n 3, 2170, .aload 3), (2170, .iconst 0, 2171, .iconst 0), (2171, .laload, 2172, .laload), (2172, .iload 7, 2174, .iload 7), (2174, .i2l, 2175, .i2l), (2175, .lcmp, 2176, .lcmp)],
  [(2176, .ifCond .eq 5, 2179, .ifCond .eq 2181), (2179, .iconst 0, 2180, .iconst 0), (2180, .ireturn, 2181, .ret 1), (2181, .goto 808, 2184, .goto 2989), (2184, .aload_n 1, 2185, .aload 1), (2185, .aload_n 0, 2186, .aload 0), (2186, .iload 5, 2188, .iload 5), (2188, .iconst 1, 2189, .iconst 1), (2189, .iadd, 2190, .iadd), (2190, .iaload, 2191, .saload), (2191, .i2c, 2192, .i2c), (2192, .aload_n 3, 2193, .aload 3), (2193, .invokestatic 285, 2196, .invokeinterface 302 25), (2196, .istore 6, 2198, .istore 6), (2198, .aload_n 2, 2199, .aload 2), (2199, .aload_n 0, 2200, .aload 0), (2200, .iload 5, 2202, .iload 5), (2202, .iconst 1, 2203, .iconst 1), (2203, .iadd, 2204, .iadd), (2204, .iaload, 2205, .saload), (2205, .i2c, 2206, .i2c), (2206, .invokevirtual 287, 2209, .invokeinterface 303 17), (2209, .istore 7, 2211, .istore 7), (2211, .aload_n 2, 2212, .aload 2), (2212, .invokevirtual 155, 2215, .invokeinterface 215 9), (2215, .iload 6, 2217, .iload 6), (2217, .if_icmp .eq 5, 2220, .if_icmp .eq 2222), (2220, .iconst 0, 2221, .iconst 0), (2221, .ireturn, 2222, .ret 1), (2222, .iload 6, 2224, .iload 6), (2224, .ifCond .ne 15, 2227, .ifCond .ne 2239), (2227, .aload_n 3, 2228, .aload 3), (2228, .iconst 0, 2229, .iconst 0), (2229, .laload, 2230, .laload), (2230, .iload 7, 2232, .iload 7), (2232, .i2l, 2233, .i2l), (2233, .lcmp, 2234, .lcmp), (2234, .ifCond .eq 5, 2237, .ifCond .eq 2239), (2237, .iconst 0, 2238, .iconst 0), (2238, .ireturn, 2239, .ret 1), (2239, .goto 750, 2242, .goto 2989)],
  [(2242, .aload_n 1, 2243, .aload 1), (2243, .invokevirtual 288, 2246, .invokeinterface 139 9), (2246, .aload_n 2, 2247, .aload 2), (2247, .invokevirtual 292, 2250, .invokeinterface 304 9), (2250, .if_icmp .eq 739, 2253, .if_icmp .eq 2989), (2253, .iconst 0, 2254, .iconst 0), (2254, .ireturn, 2255, .ret 1), (2255, .aload_n 1, 2256, .aload 1), (2256, .invokevirtual 293, 2259, .invokeinterface 68 9), (2259, .aload_n 2, 2260, .aload 2), (2260, .invokevirtual 296, 2263, .invokeinterface 305 9), (2263, .if_icmp .eq 726, 2266, .if_icmp .eq 2989), (2266, .iconst 0, 2267, .iconst 0), (2267, .ireturn, 2268, .ret 1), (2268, .aload_n 1, 2269, .aload 1), (2269, .invokevirtual 297, 2272, .invokeinterface 60 9), (2272, .aload_n 2, 2273, .aload 2), (2273, .invokevirtual 300, 2276, .invokeinterface 306 9), (2276, .if_icmp .eq 713, 2279, .if_icmp .eq 2989), (2279, .iconst 0, 2280, .iconst 0), (2280, .ireturn, 2281, .ret 1), (2281, .aload_n 1, 2282, .aload 1), (2282, .invokevirtual 301, 2285, .invokeinterface 140 9), (2285, .aload_n 2, 2286, .aload 2), (2286, .invokevirtual 304, 2289, .invokeinterface 307 9), (2289, .if_icmp .eq 700, 2292, .if_icmp .eq 2989), (2292, .iconst 0, 2293, .iconst 0), (2293, .ireturn, 2294, .ret 1), (2294, .aload_n 1, 2295, .aload 1), (2295, .invokevirtual 305, 2298, .invokeinterface 67 9), (2298, .aload_n 2, 2299, .aload 2), (2299, .invokevirtual 308, 2302, .invokeinterface 308 9), (2302, .if_icmp .eq 687, 2305, .if_icmp .eq 2989)],
  [(2305, .iconst 0, 2306, .iconst 0), (2306, .ireturn, 2307, .ret 1), (2307, .aload_n 1, 2308, .aload 1), (2308, .invokevirtual 309, 2311, .invokeinterface 56 9), (2311, .aload_n 2, 2312, .aload 2), (2312, .invokevirtual 312, 2315, .invokeinterface 309 9), (2315, .if_icmp .eq 674, 2318, .if_icmp .eq 2989), (2318, .iconst 0, 2319, .iconst 0), (2319, .ireturn, 2320, .ret 1), (2320, .aload_n 1, 2321, .aload 1), (2321, .invokevirtual 313, 2324, .invokeinterface 154 9), (2324, .aload_n 2, 2325, .aload 2), (2325, .invokevirtual 316, 2328, .invokeinterface 310 9), (2328, .if_icmp .eq 661, 2331, .if_icmp .eq 2989), (2331, .iconst 0, 2332, .iconst 0), (2332, .ireturn, 2333, .ret 1), (2333, .aload_n 1, 2334, .aload 1), (2334, .invokevirtual 317, 2337, .invokeinterface 177 9), (2337, .aload_n 2, 2338, .aload 2), (2338, .invokevirtual 320, 2341, .invokeinterface 311 9), (2341, .if_icmp .eq 648, 2344, .if_icmp .eq 2989), (2344, .iconst 0, 2345, .iconst 0), (2345, .ireturn, 2346, .ret 1), (2346, .aload_n 1, 2347, .aload 1), (2347, .aload 4, 2349, .aload 4), (2349, .invokestatic 321, 2352, .invokeinterface 312 17), (2352, .istore 6, 2354, .istore 6), (2354, .aload_n 2, 2355, .aload 2), (2355, .invokevirtual 324, 2358, .invokeinterface 313 11), (2358, .dstore 7, 2360, .dstore 7), (2360, .aload_n 2, 2361, .aload 2), (2361, .invokevirtual 155, 2364, .invokeinterface 215 9), (2364, .iload 6, 2366, .iload 6), (2366, .if_icmp .eq 5, 2369, .if_icmp .eq 2371)],
  [(2369, .iconst 0, 2370, .iconst 0), (2370, .ireturn, 2371, .ret 1), (2371, .iload 6, 2373, .iload 6), (2373, .ifCond .ne 35, 2376, .ifCond .ne 2408), (2376, .aload 4, 2378, .aload 4), (2378, .iconst 0, 2379, .iconst 0), (2379, .daload, 2380, .daload), (2380, .dload 7, 2382, .dload 7), (2382, .dcmp .l, 2383, .dcmp .l), (2383, .ifCond .eq 25, 2386, .ifCond .eq 2408), (2386, .aload 4, 2388, .aload 4), (2388, .iconst 0, 2389, .iconst 0), (2389, .daload, 2390, .daload), (2390, .aload 4, 2392, .aload 4), (2392, .iconst 0, 2393, .iconst 0), (2393, .daload, 2394, .daload), (2394, .dcmp .l, 2395, .dcmp .l), (2395, .ifCond .eq 11, 2398, .ifCond .eq 2406), (2398, .dload 7, 2400, .dload 7), (2400, .dload 7, 2402, .dload 7), (2402, .dcmp .l, 2403, .dcmp .l), (2403, .ifCond .ne 5, 2406, .ifCond .ne 2408), (2406, .iconst 0, 2407, .iconst 0), (2407, .ireturn, 2408, .ret 1), (2408, .goto 581, 2411, .goto 2989), (2411, .aload_n 1, 2412, .aload 1), (2412, .aload 4, 2414, .aload 4), (2414, .invokestatic 325, 2417, .invokeinterface 189 17), (2417, .istore 6, 2419, .istore 6), (2419, .aload_n 2, 2420, .aload 2), (2420, .invokevirtual 327, 2423, .invokeinterface 314 12), (2423, .fstore 7, 2425, .fstore 7), (2425, .aload_n 2, 2426, .aload 2), (2426, .invokevirtual 155, 2429, .invokeinterface 215 9), (2429, .iload 6, 2431, .iload 6), (2431, .if_icmp .eq 5, 2434, .if_icmp .eq 2436)],
  [(2434, .iconst 0, 2435, .iconst 0), (2435, .ireturn, 2436, .ret 1), (2436, .iload 6, 2438, .iload 6), (2438, .ifCond .ne 36, 2441, .ifCond .ne 2474), (2441, .aload 4, 2443, .aload 4), (2443, .iconst 0, 2444, .iconst 0), (2444, .daload, 2445, .daload), (2445, .fload 7, 2447, .fload 7), (2447, .f2d, 2448, .f2d), (2448, .dcmp .l, 2449, .dcmp .l), (2449, .ifCond .eq 25, 2452, .ifCond .eq 2474), (2452, .aload 4, 2454, .aload 4), (2454, .iconst 0, 2455, .iconst 0), (2455, .daload, 2456, .daload), (2456, .aload 4, 2458, .aload 4), (2458, .iconst 0, 2459, .iconst 0), (2459, .daload, 2460, .daload), (2460, .dcmp .l, 2461, .dcmp .l), (2461, .ifCond .eq 11, 2464, .ifCond .eq 2472), (2464, .fload 7, 2466, .fload 7), (2466, .fload 7, 2468, .fload 7), (2468, .fcmp .l, 2469, .fcmp .l), (2469, .ifCond .ne 5, 2472, .ifCond .ne 2474), (2472, .iconst 0, 2473, .iconst 0), (2473, .ireturn, 2474, .ret 1), (2474, .goto 515, 2477, .goto 2989), (2477, .aload_n 1, 2478, .aload 1), (2478, .invokevirtual 328, 2481, .invokeinterface 123 9), (2481, .aload_n 2, 2482, .aload 2), (2482, .invokevirtual 331, 2485, .invokeinterface 315 9), (2485, .if_icmp .eq 504, 2488, .if_icmp .eq 2989), (2488, .iconst 0, 2489, .iconst 0), (2489, .ireturn, 2490, .ret 1), (2490, .aload_n 1, 2491, .aload 1), (2491, .aload_n 0, 2492, .aload 0), (2492, .iload 5, 2494, .iload 5), (2494, .iconst 1, 2495, .iconst 1), (2495, .iadd, 2496, .iadd)],
  [(2496, .iaload, 2497, .saload), (2497, .i2c, 2498, .i2c), (2498, .aload_n 0, 2499, .aload 0), (2499, .iload 5, 2501, .iload 5), (2501, .iconst 2, 2502, .iconst 2), (2502, .iadd, 2503, .iadd), (2503, .iaload, 2504, .saload), (2504, .aload_n 3, 2505, .aload 3), (2505, .invokestatic 332, 2508, .invokeinterface 196 33), (2508, .istore 6, 2510, .istore 6), (2510, .aload_n 2, 2511, .aload 2), (2511, .aload_n 0, 2512, .aload 0), (2512, .iload 5, 2514, .iload 5), (2514, .iconst 1, 2515, .iconst 1), (2515, .iadd, 2516, .iadd), (2516, .iaload, 2517, .saload), (2517, .i2c, 2518, .i2c), (2518, .aload_n 0, 2519, .aload 0), (2519, .iload 5, 2521, .iload 5), (2521, .iconst 2, 2522, .iconst 2), (2522, .iadd, 2523, .iadd), (2523, .iaload, 2524, .saload), (2524, .invokevirtual 334, 2527, .invokeinterface 318 25), (2527, .istore 7, 2529, .istore 7), (2529, .aload_n 2, 2530, .aload 2), (2530, .invokevirtual 155, 2533, .invokeinterface 215 9), (2533, .iload 6, 2535, .iload 6), (2535, .if_icmp .eq 5, 2538, .if_icmp .eq 2540), (2538, .iconst 0, 2539, .iconst 0), (2539, .ireturn, 2540, .ret 1), (2540, .iload 6, 2542, .iload 6), (2542, .ifCond .ne 15, 2545, .ifCond .ne 2557), (2545, .aload_n 3, 2546, .aload 3), (2546, .iconst 0, 2547, .iconst 0), (2547, .laload, 2548, .laload), (2548, .iload 7, 2550, .iload 7), (2550, .i2l, 2551, .i2l), (2551, .lcmp, 2552, .lcmp), (2552, .ifCond .eq 5, 2555, .ifCond .eq 2557), (2555, .iconst 0, 2556, .iconst 0), (2556, .ireturn, 2557, .ret 1), (2557, .goto 432, 2560, .goto 2989)],
  [(2560, .aload_n 1, 2561, .aload 1), (2561, .aload_n 0, 2562, .aload 0), (2562, .iload 5, 2564, .iload 5), (2564, .iconst 1, 2565, .iconst 1), (2565, .iadd, 2566, .iadd), (2566, .iaload, 2567, .saload), (2567, .aload_n 3, 2568, .aload 3), (2568, .invokestatic 335, 2571, .invokeinterface 195 25), (2571, .istore 6, 2573, .istore 6), (2573, .aload_n 2, 2574, .aload 2), (2574, .aload_n 0, 2575, .aload 0), (2575, .iload 5, 2577, .iload 5), (2577, .iconst 1, 2578, .iconst 1), (2578, .iadd, 2579, .iadd), (2579, .iaload, 2580, .saload), (2580, .invokevirtual 337, 2583, .invokeinterface 320 17), (2583, .istore 7, 2585, .istore 7), (2585, .aload_n 2, 2586, .aload 2), (2586, .invokevirtual 155, 2589, .invokeinterface 215 9), (2589, .iload 6, 2591, .iload 6), (2591, .if_icmp .eq 5, 2594, .if_icmp .eq 2596), (2594, .iconst 0, 2595, .iconst 0), (2595, .ireturn, 2596, .ret 1), (2596, .iload 6, 2598, .iload 6), (2598, .ifCond .ne 15, 2601, .ifCond .ne 2613), (2601, .aload_n 3, 2602, .aload 3), (2602, .iconst 0, 2603, .iconst 0), (2603, .laload, 2604, .laload), (2604, .iload 7, 2606, .iload 7), (2606, .i2l, 2607, .i2l), (2607, .lcmp, 2608, .lcmp), (2608, .ifCond .eq 5, 2611, .ifCond .eq 2613), (2611, .iconst 0, 2612, .iconst 0), (2612, .ireturn, 2613, .ret 1), (2613, .goto 376, 2616, .goto 2989), (2616, .aload_n 1, 2617, .aload 1), (2617, .invokevirtual 338, 2620, .invokeinterface 89 9), (2620, .aload_n 2, 2621, .aload 2), (2621, .invokevirtual 341, 2624, .invokeinterface 321 9)],
  [(2624, .if_icmp .eq 365, 2627, .if_icmp .eq 2989), (2627, .iconst 0, 2628, .iconst 0), (2628, .ireturn, 2629, .ret 1), (2629, .aload_n 1, 2630, .aload 1), (2630, .aload_n 0, 2631, .aload 0), (2631, .iload 5, 2633, .iload 5), (2633, .iconst 1, 2634, .iconst 1), (2634, .iadd, 2635, .iadd), (2635, .iaload, 2636, .saload), (2636, .aload_n 3, 2637, .aload 3), (2637, .invokestatic 342, 2640, .invokeinterface 322 25), (2640, .istore 6, 2642, .istore 6), (2642, .aload_n 2, 2643, .aload 2), (2643, .aload_n 0, 2644, .aload 0), (2644, .iload 5, 2646, .iload 5), (2646, .iconst 1, 2647, .iconst 1), (2647, .iadd, 2648, .iadd), (2648, .iaload, 2649, .saload), (2649, .invokevirtual 344, 2652, .invokeinterface 323 17), (2652, .istore 7, 2654, .istore 7), (2654, .aload_n 2, 2655, .aload 2), (2655, .invokevirtual 155, 2658, .invokeinterface 215 9), (2658, .iload 6, 2660, .iload 6), (2660, .if_icmp .eq 5, 2663, .if_icmp .eq 2665), (2663, .iconst 0, 2664, .iconst 0), (2664, .ireturn, 2665, .ret 1), (2665, .iload 6, 2667, .iload 6), (2667, .ifCond .ne 15, 2670, .ifCond .ne 2682), (2670, .aload_n 3, 2671, .aload 3), (2671, .iconst 0, 2672, .iconst 0), (2672, .laload, 2673, .laload), (2673, .iload 7, 2675, .iload 7), (2675, .i2l, 2676, .i2l), (2676, .lcmp, 2677, .lcmp), (2677, .ifCond .eq 5, 2680, .ifCond .eq 2682), (2680, .iconst 0, 2681, .iconst 0), (2681, .ireturn, 2682, .ret 1), (2682, .goto 307, 2685, .goto 2989), (2685, .aload_n 1, 2686, .aload 1), (2686, .aload_n 0, 2687, .aload 0), (2687, .iload 5, 2689, .iload 5)],
  [(2689, .iconst 1, 2690, .iconst 1), (2690, .iadd, 2691, .iadd), (2691, .iaload, 2692, .saload), (2692, .i2c, 2693, .i2c), (2693, .aload_n 3, 2694, .aload 3), (2694, .invokestatic 345, 2697, .invokeinterface 187 25), (2697, .istore 6, 2699, .istore 6), (2699, .aload_n 2, 2700, .aload 2), (2700, .aload_n 0, 2701, .aload 0), (2701, .iload 5, 2703, .iload 5), (2703, .iconst 1, 2704, .iconst 1), (2704, .iadd, 2705, .iadd), (2705, .iaload, 2706, .saload), (2706, .i2c, 2707, .i2c), (2707, .invokevirtual 347, 2710, .invokeinterface 324 17), (2710, .istore 7, 2712, .istore 7), (2712, .aload_n 2, 2713, .aload 2), (2713, .invokevirtual 155, 2716, .invokeinterface 215 9), (2716, .iload 6, 2718, .iload 6), (2718, .if_icmp .eq 5, 2721, .if_icmp .eq 2723), (2721, .iconst 0, 2722, .iconst 0), (2722, .ireturn, 2723, .ret 1), (2723, .iload 6, 2725, .iload 6), (2725, .ifCond .ne 15, 2728, .ifCond .ne 2740), (2728, .aload_n 3, 2729, .aload 3), (2729, .iconst 0, 2730, .iconst 0), (2730, .laload, 2731, .laload), (2731, .iload 7, 2733, .iload 7), (2733, .i2l, 2734, .i2l), (2734, .lcmp, 2735, .lcmp), (2735, .ifCond .eq 5, 2738, .ifCond .eq 2740), (2738, .iconst 0, 2739, .iconst 0), (2739, .ireturn, 2740, .ret 1), (2740, .goto 249, 2743, .goto 2989), (2743, .aload_n 1, 2744, .aload 1), (2744, .aload_n 3, 2745, .aload 3), (2745, .invokestatic 348, 2748, .invokeinterface 325 17), (2748, .istore 6, 2750, .istore 6), (2750, .aload_n 2, 2751, .aload 2), (2751, .invokevirtual 350, 2754, .invokeinterface 334 9)],
  [(2754, .istore 7, 2756, .istore 7), (2756, .aload_n 2, 2757, .aload 2), (2757, .invokevirtual 155, 2760, .invokeinterface 215 9), (2760, .iload 6, 2762, .iload 6), (2762, .if_icmp .eq 5, 2765, .if_icmp .eq 2767), (2765, .iconst 0, 2766, .iconst 0), (2766, .ireturn, 2767, .ret 1), (2767, .iload 6, 2769, .iload 6), (2769, .ifCond .ne 15, 2772, .ifCond .ne 2784), (2772, .aload_n 3, 2773, .aload 3), (2773, .iconst 0, 2774, .iconst 0), (2774, .laload, 2775, .laload), (2775, .iload 7, 2777, .iload 7), (2777, .i2l, 2778, .i2l), (2778, .lcmp, 2779, .lcmp), (2779, .ifCond .eq 5, 2782, .ifCond .eq 2784), (2782, .iconst 0, 2783, .iconst 0), (2783, .ireturn, 2784, .ret 1), (2784, .goto 205, 2787, .goto 2989), (2787, .aload_n 1, 2788, .aload 1), (2788, .aload_n 3, 2789, .aload 3), (2789, .invokestatic 351, 2792, .invokeinterface 193 17), (2792, .istore 6, 2794, .istore 6), (2794, .aload_n 2, 2795, .aload 2), (2795, .invokevirtual 353, 2798, .invokeinterface 335 9), (2798, .istore 7, 2800, .istore 7), (2800, .aload_n 2, 2801, .aload 2), (2801, .invokevirtual 155, 2804, .invokeinterface 215 9), (2804, .iload 6, 2806, .iload 6), (2806, .if_icmp .eq 5, 2809, .if_icmp .eq 2811), (2809, .iconst 0, 2810, .iconst 0), (2810, .ireturn, 2811, .ret 1), (2811, .iload 6, 2813, .iload 6), (2813, .ifCond .ne 15, 2816, .ifCond .ne 2828)],
  [(2816, .aload_n 3, 2817, .aload 3), (2817, .iconst 0, 2818, .iconst 0), (2818, .laload, 2819, .laload), (2819, .iload 7, 2821, .iload 7), (2821, .i2l, 2822, .i2l), (2822, .lcmp, 2823, .lcmp), (2823, .ifCond .eq 5, 2826, .ifCond .eq 2828), (2826, .iconst 0, 2827, .iconst 0), (2827, .ireturn, 2828, .ret 1), (2828, .goto 161, 2831, .goto 2989), (2831, .aload_n 1, 2832, .aload 1), (2832, .aload_n 3, 2833, .aload 3), (2833, .invokestatic 354, 2836, .invokeinterface 194 17), (2836, .istore 6, 2838, .istore 6), (2838, .aload_n 2, 2839, .aload 2), (2839, .invokevirtual 356, 2842, .invokeinterface 336 9), (2842, .istore 7, 2844, .istore 7), (2844, .aload_n 2, 2845, .aload 2), (2845, .invokevirtual 155, 2848, .invokeinterface 215 9), (2848, .iload 6, 2850, .iload 6), (2850, .if_icmp .eq 5, 2853, .if_icmp .eq 2855), (2853, .iconst 0, 2854, .iconst 0), (2854, .ireturn, 2855, .ret 1), (2855, .iload 6, 2857, .iload 6), (2857, .ifCond .ne 15, 2860, .ifCond .ne 2872), (2860, .aload_n 3, 2861, .aload 3), (2861, .iconst 0, 2862, .iconst 0), (2862, .laload, 2863, .laload), (2863, .iload 7, 2865, .iload 7), (2865, .i2l, 2866, .i2l), (2866, .lcmp, 2867, .lcmp), (2867, .ifCond .eq 5, 2870, .ifCond .eq 2872), (2870, .iconst 0, 2871, .iconst 0), (2871, .ireturn, 2872, .ret 1), (2872, .goto 117, 2875, .goto 2989), (2875, .aload_n 1, 2876, .aload 1), (2876, .invokevirtual 357, 2879, .invokeinterface 183 9), (2879, .aload_n 2, 2880, .aload 2)],
  [(2880, .invokevirtual 360, 2883, .invokeinterface 337 9), (2883, .if_icmp .eq 106, 2886, .if_icmp .eq 2989), (2886, .iconst 0, 2887, .iconst 0), (2887, .ireturn, 2888, .ret 1), (2888, .aload_n 1, 2889, .aload 1), (2889, .aload_n 3, 2890, .aload 3), (2890, .invokestatic 361, 2893, .invokeinterface 338 17), (2893, .istore 6, 2895, .istore 6), (2895, .aload_n 2, 2896, .aload 2), (2896, .invokevirtual 363, 2899, .invokeinterface 339 9), (2899, .istore 7, 2901, .istore 7), (2901, .aload_n 2, 2902, .aload 2), (2902, .invokevirtual 155, 2905, .invokeinterface 215 9), (2905, .iload 6, 2907, .iload 6), (2907, .if_icmp .eq 5, 2910, .if_icmp .eq 2912), (2910, .iconst 0, 2911, .iconst 0), (2911, .ireturn, 2912, .ret 1), (2912, .iload 6, 2914, .iload 6), (2914, .ifCond .ne 15, 2917, .ifCond .ne 2929), (2917, .aload_n 3, 2918, .aload 3), (2918, .iconst 0, 2919, .iconst 0), (2919, .laload, 2920, .laload), (2920, .iload 7, 2922, .iload 7), (2922, .i2l, 2923, .i2l), (2923, .lcmp, 2924, .lcmp), (2924, .ifCond .eq 5, 2927, .ifCond .eq 2929), (2927, .iconst 0, 2928, .iconst 0), (2928, .ireturn, 2929, .ret 1), (2929, .goto 60, 2932, .goto 2989), (2932, .aload_n 1, 2933, .aload 1), (2933, .invokevirtual 364, 2936, .invokeinterface 175 9), (2936, .aload_n 2, 2937, .aload 2), (2937, .invokevirtual 367, 2940, .invokeinterface 340 9), (2940, .if_icmp .eq 49, 2943, .if_icmp .eq 2989), (2943, .iconst 0, 2944, .iconst 0)],
  [(2944, .ireturn, 2945, .ret 1), (2945, .aload_n 1, 2946, .aload 1), (2946, .aload_n 3, 2947, .aload 3), (2947, .invokestatic 368, 2950, .invokeinterface 341 17), (2950, .istore 6, 2952, .istore 6), (2952, .aload_n 2, 2953, .aload 2), (2953, .invokevirtual 370, 2956, .invokeinterface 342 9), (2956, .istore 7, 2958, .istore 7), (2958, .aload_n 2, 2959, .aload 2), (2959, .invokevirtual 155, 2962, .invokeinterface 215 9), (2962, .iload 6, 2964, .iload 6), (2964, .if_icmp .eq 5, 2967, .if_icmp .eq 2969), (2967, .iconst 0, 2968, .iconst 0), (2968, .ireturn, 2969, .ret 1), (2969, .iload 6, 2971, .iload 6), (2971, .ifCond .ne 15, 2974, .ifCond .ne 2986), (2974, .aload_n 3, 2975, .aload 3), (2975, .iconst 0, 2976, .iconst 0), (2976, .laload, 2977, .laload), (2977, .iload 7, 2979, .iload 7), (2979, .i2l, 2980, .i2l), (2980, .lcmp, 2981, .lcmp), (2981, .ifCond .eq 5, 2984, .ifCond .eq 2986), (2984, .iconst 0, 2985, .iconst 0), (2985, .ireturn, 2986, .ret 1), (2986, .goto 3, 2989, .goto 2989), (2989, .iinc 5 5, 2992, .iinc 5 5), (2992, .goto (-2964), 2995, .goto 28), (2995, .iconst 1, 2996, .iconst 1), (2996, .ireturn, 2997, .ret 1)]]
noncomputable def ctA : List (List (List (List (Nat × Instr × Nat × Instr)))) := [[ct_0, ct_1, ct_2, ct_3, ct_4, ct_5, ct_6, ct_7, ct_8, ct_9, ct_10, ct_11, ct_12, ct_13, ct_14, ct_15],
  [ct_16, ct_17, ct_18, ct_19, ct_20, ct_21, ct_22, ct_23, ct_24, ct_25, ct_26, ct_27, ct_28, ct_29, ct_30, ct_31],
  [ct_32, ct_33, ct_34, ct_35, ct_36, ct_37, ct_38, ct_39, ct_40, ct_41, ct_42, ct_43, ct_44, ct_45, ct_46, ct_47],
  [ct_48, ct_49, ct_50, ct_51, ct_52, ct_53, ct_54, ct_55, ct_56, ct_57, ct_58, ct_59, ct_60, ct_61, ct_62, ct_63],
  [ct_64, ct_65, ct_66, ct_67, ct_68, ct_69, ct_70, ct_71, ct_72, ct_73, ct_74, ct_75, ct_76, ct_77, ct_78, ct_79],
  [ct_80, ct_81, ct_82, ct_83, ct_84, ct_85, ct_86, ct_87, ct_88, ct_89, ct_90, ct_91, ct_92, ct_93, ct_94, ct_95],
  [ct_96, ct_97, ct_98, ct_99, ct_100, ct_101, ct_102, ct_103, ct_104, ct_105, ct_106, ct_107, ct_108, ct_109, ct_110, ct_111],
  [ct_112, ct_113, ct_114, ct_115, ct_116, ct_117, ct_118, ct_119, ct_120, ct_121, ct_122, ct_123, ct_124, ct_125, ct_126, ct_127],
  [ct_128, ct_129, ct_130, ct_131, ct_132, ct_133, ct_134, ct_135, ct_136, ct_137, ct_138, ct_139, ct_140, ct_141, ct_142, ct_143],
  [ct_144, ct_145, ct_146, ct_147, ct_148, ct_149, ct_150, ct_151, ct_152, ct_153, ct_154, ct_155, ct_156, ct_157, ct_158, ct_159],
  [ct_160, ct_161, ct_162, ct_163, ct_164, ct_165, ct_166, ct_167, ct_168, ct_169, ct_170, ct_171, ct_172, ct_173, ct_174, ct_175],
  [ct_176, ct_177, ct_178, ct_179, ct_180, ct_181, ct_182, ct_183, ct_184, ct_185, ct_186, ct_187, ct_188, ct_189, ct_190, ct_191],
  [ct_192, ct_193, ct_194, ct_195, ct_196, ct_197, ct_198, ct_199, ct_200, ct_201, ct_202, ct_203, ct_204, ct_205, ct_206, ct_207],
  [ct_208, ct_209, ct_210, ct_211, ct_212, ct_213, ct_214, ct_215, ct_216, ct_217, ct_218, ct_219, ct_220, ct_221, ct_222, ct_223],
  [ct_224, ct_225, ct_226, ct_227, ct_228, ct_229, ct_230, ct_231, ct_232, ct_233, ct_234, ct_235, ct_236, ct_237, ct_238, ct_239],
  [ct_240, ct_241, ct_242, ct_243, ct_244, ct_245, ct_246, ct_247, ct_248, ct_249, ct_250, ct_251, ct_252, ct_253, ct_254, ct_255],
  [ct_256, ct_257, ct_258, ct_259, ct_260, ct_261, ct_262, ct_263, ct_264, ct_265, ct_266, ct_267, ct_268, ct_269, ct_270, ct_271],
  [ct_272, ct_273, ct_274, ct_275, ct_276, ct_277, ct_278, ct_279, ct_280, ct_281, ct_282, ct_283, ct_284, ct_285, ct_286, ct_287],
  [ct_288, ct_289, ct_290, ct_291, ct_292, ct_293, ct_294, ct_295, ct_296, ct_297, ct_298, ct_299, ct_300, ct_301, ct_302, ct_303],
  [ct_304, ct_305, ct_306, ct_307, ct_308, ct_309, ct_310, ct_311, ct_312, ct_313, ct_314, ct_315, ct_316, ct_317, ct_318, ct_319],
  [ct_320, ct_321, ct_322, ct_323, ct_324, ct_325, ct_326, ct_327, ct_328, ct_329, ct_330, ct_331, ct_332, ct_333, ct_334, ct_335],
  [ct_336, ct_337, ct_338, ct_339, ct_340, ct_341, ct_342, ct_343]]

noncomputable def rkA : List (List (Nat)) := [[5, 1, 2, 4, 7, 6, 3, 10, 10, 8, 0, 0, 5, 8, 5, 5],
  [8, 8, 0, 0, 5, 8, 8, 7, 8, 1, 5, 2, 2, 8, 0, 1],
  [5, 5, 2, 2, 0, 5, 1, 2, 4, 1, 1, 5, 5, 5, 2, 2],
  [2, 5, 2, 5, 2, 2, 8, 8, 8, 5, 8, 8, 8, 8, 8, 5],
  [8, 8, 8, 8, 8, 8, 8, 8, 0, 10, 0, 10, 10, 10, 10, 0],
  [10, 10, 0, 0, 0, 10, 10, 10, 10, 8, 11, 11, 10, 11, 10, 10],
  [10, 8, 8, 5, 5, 3, 3, 3, 3, 8, 3, 3, 8, 5, 8, 8],
  [6, 6, 6, 6, 8, 6, 6, 6, 6, 6, 8, 8, 0, 6, 8, 8],
  [5, 8, 0, 0, 10, 10, 8, 8, 8, 5, 8, 8, 8, 5, 8, 8],
  [8, 8, 8, 0, 6, 8, 8, 5, 8, 8, 8, 8, 8, 8, 8, 8],
  [8, 0, 11, 0, 11, 7, 7, 7, 7, 7, 7, 7, 7, 7, 8, 8],
  [8, 8, 8, 8, 8, 4, 8, 8, 8, 0, 0, 0, 0, 0, 0, 0],
  [0, 0, 0, 0, 0, 0, 0, 0, 0, 0, 9, 0, 0, 9, 0, 0],
  [0, 0, 9, 9, 9, 9, 9, 9, 0, 9, 9, 9, 9, 9, 9, 9],
  [9, 9, 9, 9, 9, 9, 9, 9, 0, 9, 9, 9, 9, 9, 9, 9],
  [9, 0, 9, 9, 9, 9, 9, 0, 9, 9, 0, 9, 0, 9, 0, 9],
  [9, 9, 0, 9, 9, 9, 9, 9, 9, 9, 0, 9, 0, 9, 9, 9],
  [9, 9, 9, 9, 9, 9, 9, 0, 9, 9, 0, 9, 9, 0, 9, 0],
  [9, 9, 9, 9, 9, 0, 9, 9, 9, 9, 9, 9, 9, 9, 0, 9],
  [9, 9, 9, 9, 9, 9, 9, 9, 0, 9, 9, 9, 9, 9, 9, 9],
  [9, 9, 0, 9, 9, 0, 0, 9, 9, 9, 9, 9, 9, 9, 9, 9],
  [9, 9, 0, 9, 9, 0, 9, 0]]

noncomputable def nlA : List (List (Nat)) := [[1, 1, 2, 2, 1, 1, 1, 2, 1, 1, 1, 1, 3, 3, 5, 7],
  [2, 3, 1, 2, 4, 5, 4, 2, 2, 3, 4, 4, 3, 1, 1, 5],
  [4, 5, 4, 6, 1, 3, 2, 2, 2, 4, 3, 4, 4, 6, 1, 4],
  [2, 5, 7, 4, 4, 6, 5, 1, 1, 4, 1, 2, 1, 1, 4, 4],
  [3, 1, 3, 1, 1, 1, 6, 1, 4, 6, 3, 3, 1, 2, 2, 1],
  [2, 2, 1, 4, 7, 4, 2, 1, 1, 3, 1, 1, 2, 4, 3, 3],
  [2, 5, 5, 7, 5, 4, 4, 5, 4, 1, 6, 4, 1, 4, 4, 4],
  [6, 6, 7, 3, 3, 6, 4, 3, 7, 4, 3, 3, 3, 2, 8, 9],
  [5, 4, 3, 2, 5, 2, 2, 4, 4, 4, 4, 3, 1, 4, 3, 1],
  [2, 2, 2, 1, 3, 4, 1, 4, 2, 1, 1, 4, 2, 1, 2, 2],
  [1, 1, 1, 2, 2, 4, 5, 2, 5, 2, 2, 2, 3, 2, 3, 1],
  [3, 1, 2, 2, 2, 2, 1, 1, 4, 4, 5, 4, 3, 3, 5, 4],
  [5, 3, 3, 4, 5, 5, 5, 6, 7, 5, 2, 6, 5, 1, 3, 1],
  [1, 3, 4, 5, 2, 2, 4, 1, 6, 3, 7, 4, 3, 5, 8, 4],
  [1, 2, 6, 6, 3, 1, 2, 1, 5, 4, 5, 4, 3, 8, 3, 5],
  [3, 4, 2, 2, 2, 1, 1, 4, 3, 2, 4, 2, 4, 2, 4, 2],
  [1, 1, 4, 4, 2, 3, 5, 3, 3, 7, 4, 5, 4, 2, 4, 4],
  [2, 1, 1, 1, 6, 2, 3, 4, 4, 2, 2, 5, 8, 5, 6, 5],
  [7, 7, 6, 3, 3, 5, 3, 6, 3, 4, 3, 1, 1, 6, 4, 2],
  [3, 1, 1, 1, 1, 1, 1, 1, 3, 1, 1, 1, 3, 6, 5, 6],
  [4, 3, 4, 2, 2, 3, 1, 6, 1, 3, 4, 4, 2, 4, 3, 1],
  [1, 1, 3, 1, 1, 3, 1, 9]]

noncomputable def hdA : List (List (List (Nat × Nat × Nat × Nat × Nat))) := [[[], [], [], [], [], [], [], [], [], [], [], [], [], [], [], []],
  [[], [], [], [], [], [], [], [], [], [], [], [], [], [], [], []],
  [[], [], [], [], [], [], [], [], [], [], [], [], [], [], [], []],
  [[], [], [], [], [], [], [], [], [], [], [], [], [], [], [], []],
  [[], [], [], [], [], [], [], [], [], [], [], [], [], [], [], []],
  [[], [], [], [], [], [], [], [], [], [], [], [], [], [], [], []],
  [[], [], [], [], [], [], [], [], [], [], [], [], [], [], [], []],
  [[], [], [], [], [], [], [], [], [], [], [], [], [], [], [], []],
  [[], [], [], [], [], [], [], [], [], [], [], [], [], [], [], []],
  [[], [], [], [], [], [], [], [], [], [], [], [], [], [], [], []],
  [[], [], [], [], [], [], [], [], [], [], [], [], [], [], [], []],
  [[], [], [], [], [], [], [], [], [], [(0, 9, 13, 1, 3), (0, 9, 16, 4, 3)], [(0, 10, 15, 1, 4), (0, 10, 19, 4, 4)], [(0, 9, 13, 1, 3), (0, 9, 16, 2, 3)], [(0, 8, 12, 2, 2)], [(0, 8, 12, 5, 2)], [(0, 10, 15, 1, 4), (0, 10, 19, 4, 4)], [(0, 9, 13, 4, 3)]],
  [[(0, 10, 15, 1, 4), (0, 10, 19, 4, 4)], [(0, 8, 12, 4, 2)], [(0, 8, 12, 4, 2)], [(0, 9, 13, 1, 3), (0, 9, 16, 4, 3)], [(0, 10, 15, 1, 4), (0, 10, 19, 4, 4)], [(0, 10, 15, 1, 4), (0, 10, 19, 4, 4)], [(0, 17, 22, 1, 4)], [(0, 19, 24, 1, 5), (0, 19, 28, 4, 5)], [(0, 21, 26, 1, 6), (0, 21, 30, 4, 6)], [(0, 10, 15, 1, 4), (0, 10, 19, 3, 4)], [], [(0, 12, 17, 1, 5), (0, 12, 21, 2, 5)], [], [], [], []],
  [[], [], [], [], [], [], [], [], [(0, 12, 17, 1, 5), (0, 12, 21, 4, 5)], [], [], [], [], [], [], []],
  [[], [], [], [], [], [], [], [], [(0, 10, 15, 1, 4), (0, 10, 19, 4, 4), (0, 10, 23, 2, 4)], [], [], [], [], [], [], []],
  [[], [(0, 9, 13, 1, 3)], [], [], [], [], [], [(0, 9, 13, 3, 3)], [], [], [(0, 9, 13, 3, 3)], [], [(0, 9, 13, 3, 3)], [], [(0, 9, 13, 3, 3)], []],
  [[], [], [(0, 9, 13, 1, 3)], [], [], [], [], [], [], [], [(0, 9, 13, 1, 3), (0, 9, 16, 4, 3)], [], [(0, 9, 13, 1, 3), (0, 9, 16, 4, 3)], [], [], []],
  [[], [], [], [], [], [], [], [(0, 9, 13, 1, 3)], [], [], [], [], [], [(0, 10, 15, 1, 4)], [], [(0, 10, 15, 1, 4)]],
  [[], [], [], [], [], [(0, 10, 15, 1, 4)], [], [], [], [], [], [], [], [], [(0, 9, 13, 1, 3)], []],
  [[], [], [], [], [], [], [], [], [(0, 7, 11, 5, 2)], [], [], [], [], [], [], []],
  [[], [], [(0, 9, 13, 3, 3)], [], [], [(0, 8, 12, 1, 2), (0, 8, 15, 2, 2)], [], [], [], [], [], [], [], [], [], []],
  [[], [], [(0, 8, 12, 2, 2)], [], [], [(0, 8, 12, 2, 2)], [], []]]

def nth2 {α : Type} (d : α) : List α → Nat → α
  | [], _ => d
  | a :: _, 0 => a
  | _ :: l, k + 1 => nth2 d l k
def lkp : List (Nat × Instr × Nat × Instr) → Nat → Option (Instr × Nat)
  | [], _ => none
  | r :: l, pc => match Nat.beq r.1 pc with
    | true => some (r.2.2.2, r.2.2.1)
    | false => lkp l pc
noncomputable def ct (y : Nat) : List (List (Nat × Instr × Nat × Instr)) := nth2 [] (nth2 [] ctA (y / 16)) (y % 16)
noncomputable def cd (y pc : Nat) : Option (Instr × Nat) := lkp (nth2 [] (ct y) (pc / 64)) pc
noncomputable def rk (y : Nat) : Nat := nth2 0 (nth2 [] rkA (y / 16)) (y % 16)
noncomputable def nl (y : Nat) : Nat := nth2 0 (nth2 [] nlA (y / 16)) (y % 16)
noncomputable def hd (y : Nat) : List (Nat × Nat × Nat × Nat × Nat) := nth2 [] (nth2 [] hdA (y / 16)) (y % 16)
end
section
/-! THE RUN: by fuel; then the partial function itself, with its equation -/
abbrev TT : Type := Option ((Except Nat Value × Hp) ⊕ ((Nat × List Value × List Value × Hp) ⊕ (Nat × Nat × List Value × List Value × List Value × Hp)))
def elT {β : Type} (nn : β) (fin : Except Nat Value × Hp → β) (ks : Nat → List Value → List Value → Hp → β) (call : Nat → Nat → List Value → List Value → List Value → Hp → β) : TT → β
  | none => nn
  | some (.inl r) => fin r
  | some (.inr (.inl c)) => ks c.1 c.2.1 c.2.2.1 c.2.2.2
  | some (.inr (.inr c)) => call c.1 c.2.1 c.2.2.1 c.2.2.2.1 c.2.2.2.2.1 c.2.2.2.2.2
def tKs : Nat → List Value → List Value → Hp → TT := fun a b c d => some (.inr (.inl (a, b, c, d)))
def tCall : Nat → Nat → List Value → List Value → List Value → Hp → TT := fun a b c d e f => some (.inr (.inr (a, b, c, d, e, f)))
section EL
variable {β : Type} (nn : β) (fin : Except Nat Value × Hp → β) (ks : Nat → List Value → List Value → Hp → β) (call : Nat → Nat → List Value → List Value → List Value → Hp → β)
theorem elT_cond (b : Bool) (x y : TT) : elT nn fin ks call (cond b x y) = cond b (elT nn fin ks call x) (elT nn fin ks call y) := by cases b <;> rfl
theorem elT_ite (c : Prop) [Decidable c] (x y : TT) : elT nn fin ks call (if c then x else y) = if c then elT nn fin ks call x else elT nn fin ks call y := by split <;> rfl
theorem elT_cint (c : ClassFile.Cond) (a b : Int32) (x y : TT) : elT nn fin ks call (cint c a b x y) = cint c a b (elT nn fin ks call x) (elT nn fin ks call y) := by
  cases c <;> simp only [cint, elT_ite]
set_option maxHeartbeats 4000000 in
theorem stp_el (rk : Nat → Nat) (y : Nat) (op : Instr) (nx : Nat) (ls st : List Value) (h : Hp) : stp nn fin ks call rk y op nx ls st h = elT nn fin ks call (stp none (fun r => some (.inl r)) tKs tCall rk y op nx ls st h) := by
  cases op <;> simp only [stp] <;> (repeat' split) <;> first | rfl | (simp only [elT_cond, elT_ite, elT_cint]; done) | (simp only [elT_cond, elT_ite, elT_cint]; rfl)
end EL
noncomputable def ev : Nat → Nat → Nat → List Value → List Value → Hp → Res
  | 0, _, _, _, _, _ => none
  | n + 1, y, pc, ls, st, h => match cd y pc with
    | none => none
    | some q => stp none some (ev n y) (callp (hd y) (ev n y) (fun y2 as h => ev n y2 0 (padn (nl y2) as) [] h) pc q.2) rk y q.1 q.2 ls st h
/-- more is known -/
def rle (a b : Res) : Prop := ∀ r, a = some r → b = some r
theorem rle_rf (a : Res) : rle a a := fun _ h => h
theorem rle_none (b : Res) : rle none b := fun _ h => by cases h
theorem hsel_le {l : List (Nat × Nat × Nat × Nat × Nat)} {pc e : Nat} {k k' : Nat → Nat → Res} {o o' : Res} (hk : ∀ a b, rle (k a b) (k' a b)) (ho : rle o o') : rle (hsel l pc e k o) (hsel l pc e k' o') := by
  induction l with
  | nil => exact ho
  | cons r l ih =>
    simp only [hsel]
    cases (Nat.ble r.1 pc && Nat.blt pc r.2.1)
    · exact ih
    · simp only [cond_true]
      split
      · exact hk _ _
      · exact ih
theorem callp_le {hs : List (Nat × Nat × Nat × Nat × Nat)} {ks ks' : Nat → List Value → List Value → Hp → Res} {cl cl' : Nat → List Value → Hp → Res} (hk : ∀ a b c d, rle (ks a b c d) (ks' a b c d)) (hc : ∀ a b c, rle (cl a b c) (cl' a b c)) (pc nx y2 rt : Nat) (ls as st : List Value) (h : Hp) :
    rle (callp hs ks cl pc nx y2 rt ls as st h) (callp hs ks' cl' pc nx y2 rt ls as st h) := by
  have hE : ∀ e h', rle (hsel hs pc e (fun q k => ks q (sl ls k .null) [] h') (some (.error e, h'))) (hsel hs pc e (fun q k => ks' q (sl ls k .null) [] h') (some (.error e, h'))) := fun e h' => hsel_le (fun _ _ => hk _ _ _ _) (rle_rf _)
  have hq := hc y2 as h
  unfold callp
  cases hr : cl y2 as h with
  | none => split <;> exact rle_none _
  | some r =>
    rw [hq r hr]
    obtain ⟨o, h1⟩ := r
    split <;> (cases o with
      | error e => exact hE e h1
      | ok v => cases v <;> first | exact rle_none _ | exact hk _ _ _ _)
theorem ev_mono : ∀ (n : Nat) (y pc : Nat) (ls st : List Value) (h : Hp), rle (ev n y pc ls st h) (ev (n + 1) y pc ls st h) := by
  intro n
  induction n with
  | zero => intro y pc ls st h; exact rle_none _
  | succ n ih =>
    intro y pc ls st h
    rw [ev, ev]
    cases cd y pc with
    | none => exact rle_none _
    | some q =>
      show rle (stp none some (ev n y) _ rk y q.1 q.2 ls st h) (stp none some (ev (n + 1) y) _ rk y q.1 q.2 ls st h)
      rw [stp_el, stp_el (ks := ev (n + 1) y)]
      generalize stp none (fun r => some (.inl r)) tKs tCall rk y q.1 q.2 ls st h = t
      rcases t with _ | r | c | c
      · exact rle_none _
      · exact rle_rf _
      · exact ih _ _ _ _ _
      · exact callp_le (ks := ev n y) (ks' := ev (n + 1) y) (cl := fun y2 as h => ev n y2 0 (padn (nl y2) as) [] h) (cl' := fun y2 as h => ev (n + 1) y2 0 (padn (nl y2) as) [] h) (fun _ _ _ _ => ih _ _ _ _ _) (fun _ _ _ => ih _ _ _ _ _) _ _ _ _ _ _ _ _
theorem ev_le {n m : Nat} (h : n ≤ m) (y pc : Nat) (ls st : List Value) (hh : Hp) : rle (ev n y pc ls st hh) (ev m y pc ls st hh) := by
  induction h with
  | refl => exact rle_rf _
  | step _ ih => exact fun r hr => ev_mono _ _ _ _ _ _ r (ih r hr)
noncomputable def RF (y pc : Nat) (ls st : List Value) (h : Hp) : Res := @dite _ (∃ n, (ev n y pc ls st h).isSome = true) (Classical.propDecidable _) (fun hh => ev (Classical.choose hh) y pc ls st h) (fun _ => none)
theorem RF_iff {y pc : Nat} {ls st : List Value} {h : Hp} {r : Except Nat Value × Hp} : RF y pc ls st h = some r ↔ ∃ n, ev n y pc ls st h = some r := by
  unfold RF
  constructor
  · intro hr
    by_cases hh : ∃ n, (ev n y pc ls st h).isSome = true
    · rw [dif_pos hh] at hr
      exact ⟨_, hr⟩
    · rw [dif_neg hh] at hr
      cases hr
  · rintro ⟨n, hn⟩
    have hh : ∃ n, (ev n y pc ls st h).isSome = true := ⟨n, by rw [hn]; rfl⟩
    rw [dif_pos hh]
    have hs := Classical.choose_spec hh
    obtain ⟨r', hr'⟩ := Option.isSome_iff_exists.mp hs
    rw [hr']
    have h1 := ev_le (Nat.le_max_left (Classical.choose hh) n) y pc ls st h r' hr'
    have h2 := ev_le (Nat.le_max_right (Classical.choose hh) n) y pc ls st h r hn
    exact h1.symm.trans h2
/-- a method called with its arguments -/
noncomputable def CL (y : Nat) (as : List Value) (h : Hp) : Res := RF y 0 (padn (nl y) as) [] h
theorem res_ext {a b : Res} (h1 : rle a b) (h2 : rle b a) : a = b := by
  cases a with
  | some r => exact (h1 r rfl).symm
  | none =>
    cases b with
    | none => rfl
    | some r => exact h2 r rfl
/-- a call is settled by some fuel -/
theorem callp_cont {hs : List (Nat × Nat × Nat × Nat × Nat)} {y : Nat} {pc nx y2 rt : Nat} {ls as st : List Value} {h : Hp} {r : Except Nat Value × Hp} (hr : callp hs (RF y) CL pc nx y2 rt ls as st h = some r) :
    ∃ n, callp hs (ev n y) (fun y2 as h => ev n y2 0 (padn (nl y2) as) [] h) pc nx y2 rt ls as st h = some r := by
  have hks : ∀ (pc' : Nat) (ls' st' : List Value) (h' : Hp), RF y pc' ls' st' h' = some r → ∃ n, ev n y pc' ls' st' h' = some r := fun _ _ _ _ q => RF_iff.mp q
  have hsl : ∀ (l : List (Nat × Nat × Nat × Nat × Nat)) (e : Nat) (h' : Hp), hsel l pc e (fun q k => RF y q (sl ls k .null) [] h') (some (.error e, h')) = some r → ∃ n, hsel l pc e (fun q k => ev n y q (sl ls k .null) [] h') (some (.error e, h')) = some r := by
    intro l e h'
    induction l with
    | nil => exact fun q => ⟨0, q⟩
    | cons a l ih =>
      simp only [hsel]
      cases (Nat.ble a.1 pc && Nat.blt pc a.2.1)
      · exact ih
      · simp only [cond_true]
        split
        · exact hks _ _ _ _
        · exact ih
  unfold callp at hr ⊢
  cases hc : CL y2 as h with
  | none => rw [hc] at hr; split at hr <;> cases hr
  | some q =>
    rw [hc] at hr
    obtain ⟨n1, h1⟩ := RF_iff.mp hc
    obtain ⟨o, hq⟩ := q
    have fin : ∀ {n2 : Nat} {f : Nat → Res}, (∀ n m, n ≤ m → rle (f n) (f m)) → f n2 = some r → ∃ n, n1 ≤ n ∧ f n = some r := fun {n2} {f} hm h2 => ⟨max n1 n2, Nat.le_max_left _ _, hm _ _ (Nat.le_max_right _ _) r h2⟩
    have up : ∀ {n : Nat}, n1 ≤ n → ev n y2 0 (padn (nl y2) as) [] h = some (o, hq) := fun hn => ev_le hn _ _ _ _ _ _ h1
    cases o with
    | error e =>
      have h3 : hsel hs pc e (fun q k => RF y q (sl ls k .null) [] hq) (some (.error e, hq)) = some r := by split at hr <;> exact hr
      obtain ⟨n2, h2⟩ := hsl hs e hq h3
      obtain ⟨n, hn, h4⟩ := fin (f := fun n => hsel hs pc e (fun q k => ev n y q (sl ls k .null) [] hq) (some (.error e, hq))) (fun n m hnm => hsel_le (fun _ _ => ev_le hnm _ _ _ _ _) (rle_rf _)) h2
      refine ⟨n, ?_⟩
      simp only [up hn]
      split <;> exact h4
    | ok v =>
      split at hr <;> cases v <;> first | (exfalso; cases hr; done) | (obtain ⟨n2, h2⟩ := hks _ _ _ _ hr; obtain ⟨n, hn, h4⟩ := fin (f := fun n => ev n y _ _ _ _) (fun n m hnm => ev_le hnm _ _ _ _ _) h2; exact ⟨n, by simp only [up hn, bV, bI, bR, bD, bF]; exact h4⟩)
/-- THE EQUATION -/
theorem RF_eq (y pc : Nat) (ls st : List Value) (h : Hp) : RF y pc ls st h = (match cd y pc with
    | none => none
    | some q => stp none some (RF y) (callp (hd y) (RF y) CL pc q.2) rk y q.1 q.2 ls st h) := by
  refine res_ext (fun r hr => ?_) (fun r hr => ?_)
  · obtain ⟨n, hn⟩ := RF_iff.mp hr
    cases n with
    | zero => cases hn
    | succ n =>
      rw [ev] at hn
      cases hc : cd y pc with
      | none => rw [hc] at hn; cases hn
      | some q =>
        rw [hc] at hn
        dsimp only at hn ⊢
        rw [stp_el] at hn ⊢
        generalize stp none (fun r => some (.inl r)) tKs tCall rk y q.1 q.2 ls st h = t at hn ⊢
        have hE : ∀ (y pc : Nat) (ls st : List Value) (h : Hp), rle (ev n y pc ls st h) (RF y pc ls st h) := fun _ _ _ _ _ r hr => RF_iff.mpr ⟨n, hr⟩
        rcases t with _ | r2 | c | c
        · exact hn
        · exact hn
        · exact hE _ _ _ _ _ r hn
        · exact callp_le (ks := ev n y) (ks' := RF y) (cl := fun y2 as h => ev n y2 0 (padn (nl y2) as) [] h) (cl' := CL) (fun _ _ _ _ => hE _ _ _ _ _) (fun _ _ _ => hE _ _ _ _ _) _ _ _ _ _ _ _ _ r hn
  · cases hc : cd y pc with
    | none => rw [hc] at hr; cases hr
    | some q =>
      rw [hc] at hr
      dsimp only at hr
      rw [stp_el] at hr
      have key : ∃ n, stp none some (ev n y) (callp (hd y) (ev n y) (fun y2 as h => ev n y2 0 (padn (nl y2) as) [] h) pc q.2) rk y q.1 q.2 ls st h = some r := by
        simp only [stp_el (nn := (none : Res)) (fin := some)]
        generalize stp none (fun r => some (.inl r)) tKs tCall rk y q.1 q.2 ls st h = t at hr ⊢
        rcases t with _ | r2 | c | c
        · cases hr
        · exact ⟨0, hr⟩
        · exact RF_iff.mp hr
        · exact callp_cont hr
      obtain ⟨n, hn⟩ := key
      refine RF_iff.mpr ⟨n + 1, ?_⟩
      rw [ev, hc]
      exact hn
/-- some steps of it at once; at the places of a list (loop heads) it stops -/
def mem' : List Nat → Nat → Bool
  | [], _ => false
  | a :: l, k => match Nat.beq a k with
    | true => true
    | false => mem' l k
noncomputable def unr (cut : List Nat) : Nat → Nat → Nat → List Value → List Value → Hp → Res
  | 0, y, pc, ls, st, h => RF y pc ls st h
  | n + 1, y, pc, ls, st, h => match cd y pc with
    | none => none
    | some q => stp none some (fun pc' ls' st' h' => cond (mem' cut pc') (RF y pc' ls' st' h') (unr cut n y pc' ls' st' h')) (callp (hd y) (fun pc' ls' st' h' => cond (mem' cut pc') (RF y pc' ls' st' h') (unr cut n y pc' ls' st' h')) CL pc q.2) rk y q.1 q.2 ls st h
theorem RF_unr (cut : List Nat) : ∀ (n y pc : Nat) (ls st : List Value) (h : Hp), RF y pc ls st h = unr cut n y pc ls st h := by
  intro n
  induction n with
  | zero => intro y pc ls st h; rfl
  | succ n ih =>
    intro y pc ls st h
    have e : (fun (pc' : Nat) (ls' st' : List Value) (h' : Hp) => cond (mem' cut pc') (RF y pc' ls' st' h') (unr cut n y pc' ls' st' h')) = RF y := by
      funext pc' ls' st' h'
      rw [← ih]
      cases mem' cut pc' <;> rfl
    rw [unr, e, RF_eq]
end
section
/-! NAMES AND TABLES, by program: classes with their fields, methods with their words, what the constant pools link; every row is held against the tables below. -/
def RR1 : String := "RecordReconciler$Batch"
def TT1 : u_T := fun k => match k with
  | 0 => ("RecordReconciler$Batch", "sources", "[I", true)
  | 1 => ("RecordReconciler$Batch", "keys", "[I", true)
  | 2 => ("RecordReconciler$Batch", "amounts", "[I", true)
  | _ => ("RecordReconciler$Batch", "size", "I", false)
def tt1 : Nat → FieldType := fun k => match k with
  | 0 => .array .int
  | 1 => .array .int
  | 2 => .array .int
  | _ => .int
theorem nn1 : ∀ a, a < 4 → ∀ b, b < 4 → a ≠ b → (TT1 a).2.1 ≠ (TT1 b).2.1 := by decide +kernel
theorem tt1_ok : ∀ k, k < 4 → parseFieldDescriptor (TT1 k).2.2.1 = some (tt1 k) := by decide +kernel
def RR2 : String := "RecordReconciler$Book"
def TT2 : u_T := fun k => match k with
  | 0 => ("RecordReconciler$Book", "table", "LRecordReconciler$KeyTable;", true)
  | 1 => ("RecordReconciler$Book", "batch", "LRecordReconciler$Batch;", true)
  | 2 => ("RecordReconciler$Book", "trust", "[I", true)
  | 3 => ("RecordReconciler$Book", "totals", "[I", true)
  | _ => ("RecordReconciler$Book", "today", "I", false)
def tt2 : Nat → FieldType := fun k => match k with
  | 0 => .object "RecordReconciler$KeyTable"
  | 1 => .object "RecordReconciler$Batch"
  | 2 => .array .int
  | 3 => .array .int
  | _ => .int
theorem nn2 : ∀ a, a < 5 → ∀ b, b < 5 → a ≠ b → (TT2 a).2.1 ≠ (TT2 b).2.1 := by decide +kernel
theorem tt2_ok : ∀ k, k < 5 → parseFieldDescriptor (TT2 k).2.2.1 = some (tt2 k) := by decide +kernel
def RR3 : String := "RecordReconciler$Groups"
def TT3 : u_T := fun k => match k with
  | 0 => ("RecordReconciler$Groups", "links", "[I", true)
  | 1 => ("RecordReconciler$Groups", "parents", "[I", true)
  | 2 => ("RecordReconciler$Groups", "queue", "[I", true)
  | _ => ("RecordReconciler$Groups", "rows", "I", false)
def tt3 : Nat → FieldType := fun k => match k with
  | 0 => .array .int
  | 1 => .array .int
  | 2 => .array .int
  | _ => .int
theorem nn3 : ∀ a, a < 4 → ∀ b, b < 4 → a ≠ b → (TT3 a).2.1 ≠ (TT3 b).2.1 := by decide +kernel
theorem tt3_ok : ∀ k, k < 4 → parseFieldDescriptor (TT3 k).2.2.1 = some (tt3 k) := by decide +kernel
def RR4 : String := "RecordReconciler$History"
def TT4 : u_T := fun k => match k with
  | 0 => ("RecordReconciler$History", "kept", "[LRecordReconciler$Book;", true)
  | 1 => ("RecordReconciler$History", "newest", "I", false)
  | _ => ("RecordReconciler$History", "size", "I", false)
def tt4 : Nat → FieldType := fun k => match k with
  | 0 => .array (.object "RecordReconciler$Book")
  | 1 => .int
  | _ => .int
theorem nn4 : ∀ a, a < 3 → ∀ b, b < 3 → a ≠ b → (TT4 a).2.1 ≠ (TT4 b).2.1 := by decide +kernel
theorem tt4_ok : ∀ k, k < 3 → parseFieldDescriptor (TT4 k).2.2.1 = some (tt4 k) := by decide +kernel
def RR5 : String := "RecordReconciler$KeyTable"
def TT5 : u_T := fun k => match k with
  | 0 => ("RecordReconciler$KeyTable", "keys", "[I", true)
  | 1 => ("RecordReconciler$KeyTable", "amounts", "[[I", true)
  | 2 => ("RecordReconciler$KeyTable", "days", "[[I", true)
  | 3 => ("RecordReconciler$KeyTable", "rows", "I", false)
  | _ => ("RecordReconciler$KeyTable", "records", "I", false)
def tt5 : Nat → FieldType := fun k => match k with
  | 0 => .array .int
  | 1 => .array (.array .int)
  | 2 => .array (.array .int)
  | 3 => .int
  | _ => .int
theorem nn5 : ∀ a, a < 5 → ∀ b, b < 5 → a ≠ b → (TT5 a).2.1 ≠ (TT5 b).2.1 := by decide +kernel
theorem tt5_ok : ∀ k, k < 5 → parseFieldDescriptor (TT5 k).2.2.1 = some (tt5 k) := by decide +kernel
def RR6 : String := "RecordReconciler$Matching"
def TT6 : u_T := fun k => match k with
  | 0 => ("RecordReconciler$Matching", "reach", "[I", true)
  | 1 => ("RecordReconciler$Matching", "mates", "[I", true)
  | 2 => ("RecordReconciler$Matching", "reachedBy", "[I", true)
  | 3 => ("RecordReconciler$Matching", "queue", "[I", true)
  | 4 => ("RecordReconciler$Matching", "layers", "[I", true)
  | 5 => ("RecordReconciler$Matching", "nextTries", "[I", true)
  | 6 => ("RecordReconciler$Matching", "path", "[I", true)
  | 7 => ("RecordReconciler$Matching", "rows", "I", false)
  | _ => ("RecordReconciler$Matching", "lastLayer", "I", false)
def tt6 : Nat → FieldType := fun k => match k with
  | 0 => .array .int
  | 1 => .array .int
  | 2 => .array .int
  | 3 => .array .int
  | 4 => .array .int
  | 5 => .array .int
  | 6 => .array .int
  | 7 => .int
  | _ => .int
theorem nn6 : ∀ a, a < 9 → ∀ b, b < 9 → a ≠ b → (TT6 a).2.1 ≠ (TT6 b).2.1 := by decide +kernel
theorem tt6_ok : ∀ k, k < 9 → parseFieldDescriptor (TT6 k).2.2.1 = some (tt6 k) := by decide +kernel
def RR7 : String := "RecordReconciler$Program"
def TT7 : u_T := fun k => match k with
  | 0 => ("RecordReconciler$Program", "text", "[C", true)
  | 1 => ("RecordReconciler$Program", "length", "I", false)
  | 2 => ("RecordReconciler$Program", "kinds", "[I", true)
  | 3 => ("RecordReconciler$Program", "sources", "[C", true)
  | 4 => ("RecordReconciler$Program", "keys", "[I", true)
  | 5 => ("RecordReconciler$Program", "amounts", "[I", true)
  | 6 => ("RecordReconciler$Program", "commands", "I", false)
  | _ => ("RecordReconciler$Program", "position", "I", false)
def tt7 : Nat → FieldType := fun k => match k with
  | 0 => .array .char
  | 1 => .int
  | 2 => .array .int
  | 3 => .array .char
  | 4 => .array .int
  | 5 => .array .int
  | 6 => .int
  | _ => .int
theorem nn7 : ∀ a, a < 8 → ∀ b, b < 8 → a ≠ b → (TT7 a).2.1 ≠ (TT7 b).2.1 := by decide +kernel
theorem tt7_ok : ∀ k, k < 8 → parseFieldDescriptor (TT7 k).2.2.1 = some (tt7 k) := by decide +kernel
def RR8 : String := "RecordReconciler"
def TT8 : u_T := fun k => match k with
  | 0 => ("RecordReconciler", "book", "LRecordReconciler$Book;", true)
  | 1 => ("RecordReconciler", "beforeRun", "LRecordReconciler$Book;", true)
  | 2 => ("RecordReconciler", "saved", "LRecordReconciler$Book;", true)
  | 3 => ("RecordReconciler", "history", "LRecordReconciler$History;", true)
  | 4 => ("RecordReconciler", "program", "LRecordReconciler$Program;", true)
  | 5 => ("RecordReconciler", "matching", "LRecordReconciler$Matching;", true)
  | 6 => ("RecordReconciler", "groups", "LRecordReconciler$Groups;", true)
  | 7 => ("RecordReconciler", "line", "Ljava/lang/StringBuilder;", true)
  | 8 => ("RecordReconciler", "hasSaved", "Z", false)
  | 9 => ("RecordReconciler", "errorAt", "I", false)
  | _ => ("RecordReconciler", "failedAt", "I", false)
def tt8 : Nat → FieldType := fun k => match k with
  | 0 => .object "RecordReconciler$Book"
  | 1 => .object "RecordReconciler$Book"
  | 2 => .object "RecordReconciler$Book"
  | 3 => .object "RecordReconciler$History"
  | 4 => .object "RecordReconciler$Program"
  | 5 => .object "RecordReconciler$Matching"
  | 6 => .object "RecordReconciler$Groups"
  | 7 => .object "java/lang/StringBuilder"
  | 8 => .boolean
  | 9 => .int
  | _ => .int
theorem nn8 : ∀ a, a < 11 → ∀ b, b < 11 → a ≠ b → (TT8 a).2.1 ≠ (TT8 b).2.1 := by decide +kernel
theorem tt8_ok : ∀ k, k < 11 → parseFieldDescriptor (TT8 k).2.2.1 = some (tt8 k) := by decide +kernel
def RR9 : String := "RecordReconcilerModel"
def TT9 : u_T := fun k => match k with
  | 0 => ("RecordReconcilerModel", "now", "[I", true)
  | 1 => ("RecordReconcilerModel", "before", "[I", true)
  | 2 => ("RecordReconcilerModel", "saved", "[I", true)
  | 3 => ("RecordReconcilerModel", "history", "[I", true)
  | 4 => ("RecordReconcilerModel", "isSaved", "Z", false)
  | 5 => ("RecordReconcilerModel", "remembered", "I", false)
  | 6 => ("RecordReconcilerModel", "errorAt", "I", false)
  | 7 => ("RecordReconcilerModel", "failedAt", "I", false)
  | 8 => ("RecordReconcilerModel", "partners", "[I", true)
  | 9 => ("RecordReconcilerModel", "from", "[I", true)
  | 10 => ("RecordReconcilerModel", "queue", "[I", true)
  | 11 => ("RecordReconcilerModel", "groups", "[I", true)
  | 12 => ("RecordReconcilerModel", "text", "[I", true)
  | 13 => ("RecordReconcilerModel", "typed", "I", false)
  | 14 => ("RecordReconcilerModel", "line", "[I", true)
  | 15 => ("RecordReconcilerModel", "lined", "I", false)
  | 16 => ("RecordReconcilerModel", "thrown", "I", false)
  | 17 => ("RecordReconcilerModel", "size", "I", false)
  | 18 => ("RecordReconcilerModel", "spot", "I", false)
  | 19 => ("RecordReconcilerModel", "wrong", "I", false)
  | 20 => ("RecordReconcilerModel", "told", "I", false)
  | _ => ("RecordReconcilerModel", "numbers", "[I", true)
def tt9 : Nat → FieldType := fun k => match k with
  | 0 => .array .int
  | 1 => .array .int
  | 2 => .array .int
  | 3 => .array .int
  | 4 => .boolean
  | 5 => .int
  | 6 => .int
  | 7 => .int
  | 8 => .array .int
  | 9 => .array .int
  | 10 => .array .int
  | 11 => .array .int
  | 12 => .array .int
  | 13 => .int
  | 14 => .array .int
  | 15 => .int
  | 16 => .int
  | 17 => .int
  | 18 => .int
  | 19 => .int
  | 20 => .int
  | _ => .array .int
theorem nn9 : ∀ a, a < 22 → ∀ b, b < 22 → a ≠ b → (TT9 a).2.1 ≠ (TT9 b).2.1 := by decide +kernel
theorem tt9_ok : ∀ k, k < 22 → parseFieldDescriptor (TT9 k).2.2.1 = some (tt9 k) := by decide +kernel
def RR10 : String := "java/lang/StringBuilder"
def TT10 : u_T := fun k => match k with
  | 0 => ("java/lang/AbstractStringBuilder", "value", "[B", false)
  | 1 => ("java/lang/AbstractStringBuilder", "coder", "B", false)
  | 2 => ("java/lang/AbstractStringBuilder", "maybeLatin1", "Z", false)
  | _ => ("java/lang/AbstractStringBuilder", "count", "I", false)
def tt10 : Nat → FieldType := fun k => match k with
  | 0 => .array .byte
  | 1 => .byte
  | 2 => .boolean
  | _ => .int
theorem nn10 : ∀ a, a < 4 → ∀ b, b < 4 → a ≠ b → (TT10 a).2.1 ≠ (TT10 b).2.1 := by decide +kernel
theorem tt10_ok : ∀ k, k < 4 → parseFieldDescriptor (TT10 k).2.2.1 = some (tt10 k) := by decide +kernel
abbrev clL : List vw_C := [(RR1, TT1, 4), (RR2, TT2, 5), (RR3, TT3, 4), (RR4, TT4, 3), (RR5, TT5, 5), (RR6, TT6, 9), (RR7, TT7, 8), (RR8, TT8, 11), (RR9, TT9, 22), (RR10, TT10, 4)]
def lw_x : List MethodName := [⟨"java/lang/AbstractStringBuilder", "newCapacity", "(I)I"⟩, ⟨"java/lang/AbstractStringBuilder", "ensureCapacityInternal", "(I)V"⟩, ⟨"java/lang/AbstractStringBuilder", "inflateIfNeededFor", "(Ljava/lang/String;)V"⟩, ⟨"java/lang/AbstractStringBuilder", "putStringAt", "(ILjava/lang/String;)V"⟩]
def TBL : List Cond := lw_x.map (fun q => Cond.selects "java/lang/StringBuilder" q q) ++ lw_tbl
def TTT : List (Nat → FieldType) := [tt1, tt2, tt3, tt4, tt5, tt6, tt7, tt8, tt9, tt10]
def cnA : List String := ["RecordReconciler", "RecordReconciler$Batch", "RecordReconciler$Book", "RecordReconciler$Groups", "RecordReconciler$History", "RecordReconciler$KeyTable", "RecordReconciler$Matching", "RecordReconciler$Program", "RecordReconcilerLaw", "RecordReconcilerModel", "java/lang/AbstractStringBuilder", "java/lang/Integer", "java/lang/String", "java/lang/StringBuilder", "java/lang/StringLatin1", "java/util/Arrays", "jdk/internal/util/ArraysSupport", "jdk/internal/util/Preconditions"]
def cn (o : Nat) : String := nth2 "" cnA o
noncomputable def ynA : List (List (MethodName)) := [[⟨"RecordReconciler$KeyTable", "<init>", "()V"⟩, ⟨"RecordReconciler$Batch", "<init>", "()V"⟩, ⟨"RecordReconciler$Book", "<init>", "()V"⟩, ⟨"RecordReconciler$History", "<init>", "()V"⟩, ⟨"RecordReconciler$Program", "<init>", "()V"⟩, ⟨"RecordReconciler$Matching", "<init>", "()V"⟩, ⟨"RecordReconciler$Groups", "<init>", "()V"⟩, ⟨"java/lang/AbstractStringBuilder", "<init>", "(I)V"⟩, ⟨"java/lang/StringBuilder", "<init>", "()V"⟩, ⟨"RecordReconciler", "<init>", "()V"⟩, ⟨"RecordReconciler", "isKey", "(I)Z"⟩, ⟨"RecordReconciler", "requireKey", "(I)V"⟩, ⟨"RecordReconciler$KeyTable", "rowOf", "(I)I"⟩, ⟨"RecordReconciler", "requireRow", "(I)I"⟩, ⟨"RecordReconciler$KeyTable", "votesFor", "(II)I"⟩, ⟨"RecordReconciler$KeyTable", "acceptedAt", "(I)I"⟩],
  [⟨"RecordReconciler", "acceptedAmount", "(I)I"⟩, ⟨"RecordReconciler", "acceptedTotal", "()I"⟩, ⟨"RecordReconciler", "indexOf", "(C)I"⟩, ⟨"RecordReconciler", "requireSource", "(C)I"⟩, ⟨"RecordReconciler$KeyTable", "rowOfRecord", "(II)I"⟩, ⟨"RecordReconciler", "requireRecord", "(CI)I"⟩, ⟨"RecordReconciler", "amountOf", "(CI)I"⟩, ⟨"RecordReconciler$Program", "add", "(C)I"⟩, ⟨"RecordReconciler", "append", "(C)I"⟩, ⟨"RecordReconciler$Batch", "previousOf", "(I)I"⟩, ⟨"RecordReconciler$KeyTable", "amountFor", "(II)I"⟩, ⟨"RecordReconciler$Book", "outcomeAt", "(I)C"⟩, ⟨"RecordReconciler$Book", "hasRoomForBatch", "()Z"⟩, ⟨"RecordReconciler", "canClose", "()Z"⟩, ⟨"RecordReconciler$Book", "isAmount", "(I)Z"⟩, ⟨"RecordReconciler$Batch", "latest", "(III)I"⟩],
  [⟨"RecordReconciler$KeyTable", "holdersAt", "(I)I"⟩, ⟨"RecordReconciler$KeyTable", "statusAt", "(I)C"⟩, ⟨"RecordReconciler$Book", "settleFault", "(II)I"⟩, ⟨"RecordReconciler$Book", "faultOf", "(ICII)I"⟩, ⟨"RecordReconciler", "refuse", "(I)V"⟩, ⟨"RecordReconciler$KeyTable", "copyFrom", "(LRecordReconciler$KeyTable;)V"⟩, ⟨"RecordReconciler$Batch", "copyFrom", "(LRecordReconciler$Batch;)V"⟩, ⟨"RecordReconciler$Book", "copyFrom", "(LRecordReconciler$Book;)V"⟩, ⟨"RecordReconciler$History", "keep", "(LRecordReconciler$Book;)V"⟩, ⟨"RecordReconciler$Batch", "add", "(III)I"⟩, ⟨"RecordReconciler$Batch", "removeAt", "(I)I"⟩, ⟨"RecordReconciler$KeyTable", "copyRow", "(II)V"⟩, ⟨"RecordReconciler$KeyTable", "openRow", "(I)I"⟩, ⟨"RecordReconciler$KeyTable", "put", "(IIII)V"⟩, ⟨"RecordReconciler$Book", "openNextBatch", "()V"⟩, ⟨"RecordReconciler$Book", "countBatch", "()I"⟩],
  [⟨"RecordReconciler$Book", "forgetBatch", "()I"⟩, ⟨"RecordReconciler$KeyTable", "level", "(II)I"⟩, ⟨"RecordReconciler$Book", "settleFor", "(II)I"⟩, ⟨"RecordReconciler$KeyTable", "remove", "(II)V"⟩, ⟨"RecordReconciler$Book", "dropRecord", "(II)I"⟩, ⟨"RecordReconciler$Book", "carryOut", "(ICII)I"⟩, ⟨"RecordReconciler", "change", "(ICII)I"⟩, ⟨"RecordReconciler", "closeBatch", "()I"⟩, ⟨"RecordReconciler", "closedTotal", "()I"⟩, ⟨"RecordReconciler$KeyTable", "countWithStatus", "(C)I"⟩, ⟨"RecordReconciler", "confirmedCount", "()I"⟩, ⟨"RecordReconciler", "confirmedShare", "()F"⟩, ⟨"RecordReconciler", "correctionTotal", "()I"⟩, ⟨"RecordReconciler", "day", "()I"⟩, ⟨"RecordReconciler", "dayOf", "(CI)I"⟩, ⟨"RecordReconciler$KeyTable", "disputedRow", "(I)I"⟩],
  [⟨"RecordReconciler", "disputedAt", "(I)I"⟩, ⟨"RecordReconciler", "disputedCount", "()I"⟩, ⟨"RecordReconciler", "drop", "(CI)I"⟩, ⟨"RecordReconciler", "droppedTotal", "()I"⟩, ⟨"RecordReconciler", "duplicateTotal", "()I"⟩, ⟨"RecordReconciler", "errorPosition", "()I"⟩, ⟨"RecordReconciler", "executeProgram", "()I"⟩, ⟨"RecordReconciler", "failedCommand", "()I"⟩, ⟨"jdk/internal/util/ArraysSupport", "newLength", "(III)I"⟩, ⟨"java/lang/AbstractStringBuilder", "newCapacity", "(I)I"⟩, ⟨"java/util/Arrays", "copyOf", "([BI)[B"⟩, ⟨"java/lang/AbstractStringBuilder", "ensureCapacityInternal", "(I)V"⟩, ⟨"java/lang/AbstractStringBuilder", "isLatin1", "()Z"⟩, ⟨"java/lang/AbstractStringBuilder", "setLength", "(I)V"⟩, ⟨"java/lang/StringBuilder", "setLength", "(I)V"⟩, ⟨"java/lang/StringLatin1", "canEncode", "(C)Z"⟩],
  [⟨"java/lang/AbstractStringBuilder", "append", "(C)Ljava/lang/AbstractStringBuilder;"⟩, ⟨"java/lang/StringBuilder", "append", "(C)Ljava/lang/StringBuilder;"⟩, ⟨"RecordReconciler", "letterOf", "(I)C"⟩, ⟨"java/lang/Integer", "stringSize", "(I)I"⟩, ⟨"java/lang/Integer", "getChars", "(II[B)I"⟩, ⟨"java/lang/AbstractStringBuilder", "append", "(I)Ljava/lang/AbstractStringBuilder;"⟩, ⟨"java/lang/StringBuilder", "append", "(I)Ljava/lang/StringBuilder;"⟩, ⟨"java/lang/AbstractStringBuilder", "length", "()I"⟩, ⟨"java/lang/StringBuilder", "length", "()I"⟩, ⟨"RecordReconciler", "formatBatch", "()I"⟩, ⟨"java/lang/String", "coder", "()B"⟩, ⟨"java/lang/String", "length", "()I"⟩, ⟨"java/lang/AbstractStringBuilder", "inflateIfNeededFor", "(Ljava/lang/String;)V"⟩, ⟨"java/lang/String", "getBytes", "([BIB)V"⟩, ⟨"java/lang/AbstractStringBuilder", "putStringAt", "(ILjava/lang/String;)V"⟩, ⟨"java/lang/AbstractStringBuilder", "append", "(Ljava/lang/String;)Ljava/lang/AbstractStringBuilder;"⟩],
  [⟨"java/lang/StringBuilder", "append", "(Ljava/lang/String;)Ljava/lang/StringBuilder;"⟩, ⟨"RecordReconciler", "formatKey", "(I)I"⟩, ⟨"RecordReconciler", "formatRecord", "(CI)I"⟩, ⟨"RecordReconciler$KeyTable", "isPossible", "(IIII)Z"⟩, ⟨"RecordReconciler$KeyTable", "areLinked", "(II)Z"⟩, ⟨"RecordReconciler$Groups", "load", "(LRecordReconciler$KeyTable;)V"⟩, ⟨"RecordReconciler$Groups", "rootOf", "(I)I"⟩, ⟨"RecordReconciler$Groups", "unite", "(II)Z"⟩, ⟨"RecordReconciler$Groups", "countByUniting", "()I"⟩, ⟨"RecordReconciler", "groupCount", "()I"⟩, ⟨"RecordReconciler$Groups", "reachedFrom", "(I)I"⟩, ⟨"RecordReconciler$Groups", "countBySearching", "()I"⟩, ⟨"RecordReconciler", "groupCountBySearch", "()I"⟩, ⟨"RecordReconciler$KeyTable", "recordsIn", "(I)I"⟩, ⟨"RecordReconciler", "groupSize", "(CI)I"⟩, ⟨"RecordReconciler", "hasRecord", "(CI)Z"⟩],
  [⟨"RecordReconciler$Matching", "load", "(LRecordReconciler$KeyTable;II)V"⟩, ⟨"RecordReconciler$Matching", "matchBackFrom", "(I)V"⟩, ⟨"RecordReconciler$Matching", "findMateFor", "(I)Z"⟩, ⟨"RecordReconciler$Matching", "growOneByOne", "()I"⟩, ⟨"RecordReconciler", "sizeOneByOne", "(II)I"⟩, ⟨"RecordReconciler$Matching", "layOutNext", "(II)I"⟩, ⟨"RecordReconciler$Matching", "layOut", "()Z"⟩, ⟨"RecordReconciler$Matching", "nextTry", "(I)I"⟩, ⟨"RecordReconciler$Matching", "descendFrom", "(I)Z"⟩, ⟨"RecordReconciler$Matching", "growInRounds", "()I"⟩, ⟨"RecordReconciler", "sizeInRounds", "(II)I"⟩, ⟨"RecordReconciler", "isConsistent", "()Z"⟩, ⟨"RecordReconciler", "requireOther", "(CC)I"⟩, ⟨"RecordReconciler$Matching", "leaveOut", "(I)V"⟩, ⟨"RecordReconciler", "isNeeded", "(CIC)Z"⟩, ⟨"RecordReconciler", "isPossiblePair", "(CICI)Z"⟩],
  [⟨"RecordReconciler$KeyTable", "rowAt", "(II)I"⟩, ⟨"RecordReconciler", "keyAt", "(CI)I"⟩, ⟨"jdk/internal/util/Preconditions", "checkIndex", "(IILjava/util/function/BiFunction;)I"⟩, ⟨"java/lang/String", "checkIndex", "(II)V"⟩, ⟨"java/lang/AbstractStringBuilder", "charAt", "(I)C"⟩, ⟨"java/lang/StringBuilder", "charAt", "(I)C"⟩, ⟨"RecordReconciler", "lineChar", "(I)C"⟩, ⟨"RecordReconciler", "matchingSize", "(CC)I"⟩, ⟨"RecordReconciler", "matchingSizeByLayers", "(CC)I"⟩, ⟨"RecordReconciler$KeyTable", "sumOf", "(I)I"⟩, ⟨"RecordReconciler", "meanAmount", "()D"⟩, ⟨"RecordReconciler", "mostTrusted", "()C"⟩, ⟨"RecordReconciler", "newTotal", "()I"⟩, ⟨"RecordReconciler$KeyTable", "oldestRow", "(I)I"⟩, ⟨"RecordReconciler", "oldestKey", "(C)I"⟩, ⟨"RecordReconciler", "openCount", "()I"⟩],
  [⟨"RecordReconciler", "requireReport", "(I)V"⟩, ⟨"RecordReconciler", "outcomeOf", "(I)C"⟩, ⟨"RecordReconciler", "pass", "(I)I"⟩, ⟨"java/lang/Integer", "bitCount", "(I)I"⟩, ⟨"RecordReconciler$Matching", "pairCount", "()I"⟩, ⟨"RecordReconciler", "possiblePairs", "(CC)I"⟩, ⟨"RecordReconciler", "recordCount", "()I"⟩, ⟨"RecordReconciler$KeyTable", "countOf", "(I)I"⟩, ⟨"RecordReconciler", "recordsOf", "(C)I"⟩, ⟨"RecordReconciler", "rejectBatch", "()I"⟩, ⟨"RecordReconciler", "rejectedTotal", "()I"⟩, ⟨"RecordReconciler", "report", "(CII)I"⟩, ⟨"RecordReconciler", "reportAmount", "(I)I"⟩, ⟨"RecordReconciler", "reportCount", "()I"⟩, ⟨"RecordReconciler", "reportKey", "(I)I"⟩, ⟨"RecordReconciler", "reportSource", "(I)C"⟩],
  [⟨"RecordReconciler", "restore", "()I"⟩, ⟨"RecordReconciler$Program", "keywordOf", "(I)Ljava/lang/String;"⟩, ⟨"java/lang/String", "isLatin1", "()Z"⟩, ⟨"java/lang/StringLatin1", "charAt", "([BI)C"⟩, ⟨"java/lang/String", "charAt", "(I)C"⟩, ⟨"RecordReconciler$Program", "commonLength", "(Ljava/lang/String;)I"⟩, ⟨"RecordReconciler$Program", "readKeyword", "()I"⟩, ⟨"RecordReconciler$Program", "readSource", "(I)Z"⟩, ⟨"RecordReconciler$Program", "readNumber", "(I)I"⟩, ⟨"RecordReconciler$Program", "readKey", "(I)Z"⟩, ⟨"RecordReconciler$Program", "skip", "(C)Z"⟩, ⟨"RecordReconciler$Program", "readAmount", "(I)Z"⟩, ⟨"RecordReconciler$Program", "readCommand", "(I)Z"⟩, ⟨"RecordReconciler$Program", "parse", "()I"⟩, ⟨"RecordReconciler", "run", "()I"⟩, ⟨"RecordReconciler", "save", "()I"⟩],
  [⟨"RecordReconciler", "settle", "(CI)I"⟩, ⟨"RecordReconciler", "settledTotal", "()I"⟩, ⟨"RecordReconciler", "statusOf", "(I)C"⟩, ⟨"RecordReconciler", "totalOf", "(C)I"⟩, ⟨"RecordReconciler", "trustOf", "(C)I"⟩, ⟨"RecordReconciler$History", "takeBack", "(LRecordReconciler$Book;)I"⟩, ⟨"RecordReconciler", "undo", "()I"⟩, ⟨"RecordReconciler", "undoableCount", "()I"⟩, ⟨"RecordReconciler", "withdraw", "(CII)I"⟩, ⟨"RecordReconcilerLaw", "acceptedAmount", "(LRecordReconciler;I[J)I"⟩, ⟨"RecordReconcilerLaw", "amountOf", "(LRecordReconciler;CI[J)I"⟩, ⟨"RecordReconcilerLaw", "append", "(LRecordReconciler;C[J)I"⟩, ⟨"RecordReconcilerLaw", "closeBatch", "(LRecordReconciler;[J)I"⟩, ⟨"RecordReconcilerLaw", "confirmedShare", "(LRecordReconciler;[D)I"⟩, ⟨"RecordReconcilerLaw", "dayOf", "(LRecordReconciler;CI[J)I"⟩, ⟨"RecordReconcilerLaw", "disputedAt", "(LRecordReconciler;I[J)I"⟩],
  [⟨"RecordReconcilerLaw", "drop", "(LRecordReconciler;CI[J)I"⟩, ⟨"RecordReconcilerLaw", "errorPosition", "(LRecordReconciler;[J)I"⟩, ⟨"RecordReconcilerLaw", "failedCommand", "(LRecordReconciler;[J)I"⟩, ⟨"RecordReconcilerLaw", "formatKey", "(LRecordReconciler;I[J)I"⟩, ⟨"RecordReconcilerLaw", "formatRecord", "(LRecordReconciler;CI[J)I"⟩, ⟨"RecordReconcilerLaw", "groupSize", "(LRecordReconciler;CI[J)I"⟩, ⟨"RecordReconcilerLaw", "hasRecord", "(LRecordReconciler;CI[J)I"⟩, ⟨"RecordReconcilerLaw", "isNeeded", "(LRecordReconciler;CIC[J)I"⟩, ⟨"RecordReconcilerLaw", "isPossiblePair", "(LRecordReconciler;CICI[J)I"⟩, ⟨"RecordReconcilerLaw", "keyAt", "(LRecordReconciler;CI[J)I"⟩, ⟨"RecordReconcilerModel", "<init>", "()V"⟩, ⟨"RecordReconcilerLaw", "report", "(LRecordReconciler;CII[J)I"⟩, ⟨"RecordReconcilerModel", "copies", "([II[II)V"⟩, ⟨"RecordReconcilerModel", "begins", "()V"⟩, ⟨"RecordReconcilerModel", "isIn", "(III)Z"⟩, ⟨"RecordReconcilerModel", "isSource", "(I)Z"⟩],
  [⟨"RecordReconcilerModel", "isKey", "(I)Z"⟩, ⟨"RecordReconcilerModel", "isReport", "(III)Z"⟩, ⟨"RecordReconcilerModel", "holds", "(ZZZ)Z"⟩, ⟨"RecordReconcilerModel", "reports", "(III)I"⟩, ⟨"RecordReconcilerModel", "remembers", "()V"⟩, ⟨"RecordReconcilerModel", "ends", "(I)I"⟩, ⟨"RecordReconcilerModel", "report", "(CII)I"⟩, ⟨"RecordReconcilerModel", "thrown", "()I"⟩, ⟨"RecordReconcilerLaw", "withdraw", "(LRecordReconciler;CII[J)I"⟩, ⟨"RecordReconcilerModel", "ofReport", "(II)I"⟩, ⟨"RecordReconcilerModel", "takes", "(III)I"⟩, ⟨"RecordReconcilerModel", "withdraw", "(CII)I"⟩, ⟨"RecordReconcilerModel", "of", "(II)I"⟩, ⟨"RecordReconcilerModel", "find", "(II)I"⟩, ⟨"RecordReconcilerModel", "outcome", "(I)I"⟩, ⟨"RecordReconcilerModel", "outcomes", "(I)I"⟩],
  [⟨"RecordReconcilerModel", "closes", "()Z"⟩, ⟨"RecordReconcilerModel", "goes", "(Z)Z"⟩, ⟨"RecordReconcilerModel", "inserts", "(II)V"⟩, ⟨"RecordReconcilerModel", "carries", "(III)V"⟩, ⟨"RecordReconcilerModel", "closesAll", "()I"⟩, ⟨"RecordReconcilerModel", "closeBatch", "()I"⟩, ⟨"RecordReconcilerModel", "rejects", "()I"⟩, ⟨"RecordReconcilerModel", "rejectBatch", "()I"⟩, ⟨"RecordReconcilerLaw", "settle", "(LRecordReconciler;CI[J)I"⟩, ⟨"RecordReconcilerModel", "withKey", "(I)I"⟩, ⟨"RecordReconcilerModel", "withAmount", "(II)I"⟩, ⟨"RecordReconcilerModel", "accepted", "(I)I"⟩, ⟨"RecordReconcilerModel", "status", "(I)I"⟩, ⟨"RecordReconcilerModel", "settles", "(II)I"⟩, ⟨"RecordReconcilerModel", "settle", "(CI)I"⟩, ⟨"RecordReconcilerModel", "drops", "(II)I"⟩],
  [⟨"RecordReconcilerModel", "drop", "(CI)I"⟩, ⟨"RecordReconcilerLaw", "pass", "(LRecordReconciler;I[J)I"⟩, ⟨"RecordReconcilerModel", "waits", "(I)I"⟩, ⟨"RecordReconcilerModel", "pass", "(I)I"⟩, ⟨"RecordReconcilerModel", "total", "(I)I"⟩, ⟨"RecordReconcilerModel", "day", "()I"⟩, ⟨"RecordReconcilerModel", "reportCount", "()I"⟩, ⟨"RecordReconcilerLaw", "reportSource", "(LRecordReconciler;I[J)I"⟩, ⟨"RecordReconcilerModel", "asksReport", "(II)I"⟩, ⟨"RecordReconcilerModel", "reportSource", "(I)C"⟩, ⟨"RecordReconcilerLaw", "reportKey", "(LRecordReconciler;I[J)I"⟩, ⟨"RecordReconcilerModel", "reportKey", "(I)I"⟩, ⟨"RecordReconcilerLaw", "reportAmount", "(LRecordReconciler;I[J)I"⟩, ⟨"RecordReconcilerModel", "reportAmount", "(I)I"⟩, ⟨"RecordReconcilerLaw", "outcomeOf", "(LRecordReconciler;I[J)I"⟩, ⟨"RecordReconcilerModel", "outcomeOf", "(I)C"⟩],
  [⟨"RecordReconcilerModel", "canClose", "()Z"⟩, ⟨"RecordReconcilerModel", "recordCount", "()I"⟩, ⟨"RecordReconcilerLaw", "recordsOf", "(LRecordReconciler;C[J)I"⟩, ⟨"RecordReconcilerModel", "ofSource", "(I)I"⟩, ⟨"RecordReconcilerModel", "recordsOf", "(C)I"⟩, ⟨"RecordReconcilerModel", "hasRecord", "(CI)Z"⟩, ⟨"RecordReconcilerModel", "asks", "(III)I"⟩, ⟨"RecordReconcilerModel", "amountOf", "(CI)I"⟩, ⟨"RecordReconcilerModel", "dayOf", "(CI)I"⟩, ⟨"RecordReconcilerModel", "keyAt", "(CI)I"⟩, ⟨"RecordReconcilerLaw", "oldestKey", "(LRecordReconciler;C[J)I"⟩, ⟨"RecordReconcilerModel", "oldestKey", "(C)I"⟩, ⟨"RecordReconcilerLaw", "statusOf", "(LRecordReconciler;I[J)I"⟩, ⟨"RecordReconcilerModel", "statusOf", "(I)C"⟩, ⟨"RecordReconcilerModel", "isFirst", "(I)Z"⟩, ⟨"RecordReconcilerModel", "keysOf", "(I)I"⟩],
  [⟨"RecordReconcilerModel", "countOf", "(I)I"⟩, ⟨"RecordReconcilerModel", "confirmedCount", "()I"⟩, ⟨"RecordReconcilerModel", "disputedCount", "()I"⟩, ⟨"RecordReconcilerModel", "openCount", "()I"⟩, ⟨"RecordReconcilerModel", "disputedAt", "(I)I"⟩, ⟨"RecordReconcilerModel", "acceptedAmount", "(I)I"⟩, ⟨"RecordReconcilerModel", "acceptedTotal", "()I"⟩, ⟨"RecordReconcilerLaw", "totalOf", "(LRecordReconciler;C[J)I"⟩, ⟨"RecordReconcilerModel", "sumOf", "(I)I"⟩, ⟨"RecordReconcilerModel", "totalOf", "(C)I"⟩, ⟨"RecordReconcilerModel", "areTwo", "(II)Z"⟩, ⟨"RecordReconcilerModel", "isPair", "(II)Z"⟩, ⟨"RecordReconcilerModel", "isPossiblePair", "(CICI)Z"⟩, ⟨"RecordReconcilerLaw", "possiblePairs", "(LRecordReconciler;CC[J)I"⟩, ⟨"RecordReconcilerModel", "possiblePairs", "(CC)I"⟩, ⟨"RecordReconcilerLaw", "matchingSize", "(LRecordReconciler;CC[J)I"⟩],
  [⟨"RecordReconcilerModel", "turns", "(II)V"⟩, ⟨"RecordReconcilerModel", "augments", "(II)Z"⟩, ⟨"RecordReconcilerModel", "matches", "(III)I"⟩, ⟨"RecordReconcilerModel", "matching", "(II)I"⟩, ⟨"RecordReconcilerModel", "matchingSize", "(CC)I"⟩, ⟨"RecordReconcilerLaw", "matchingSizeByLayers", "(LRecordReconciler;CC[J)I"⟩, ⟨"RecordReconcilerModel", "matchingSizeByLayers", "(CC)I"⟩, ⟨"RecordReconcilerModel", "isNeeded", "(CIC)Z"⟩, ⟨"RecordReconcilerModel", "isLinked", "(II)Z"⟩, ⟨"RecordReconcilerModel", "finds", "()V"⟩, ⟨"RecordReconcilerModel", "groupsAll", "()I"⟩, ⟨"RecordReconcilerModel", "groupCount", "()I"⟩, ⟨"RecordReconcilerModel", "groupCountBySearch", "()I"⟩, ⟨"RecordReconcilerModel", "groupSize", "(CI)I"⟩, ⟨"RecordReconcilerLaw", "trustOf", "(LRecordReconciler;C[J)I"⟩, ⟨"RecordReconcilerModel", "trustOf", "(C)I"⟩],
  [⟨"RecordReconcilerModel", "mostTrusted", "()C"⟩, ⟨"RecordReconcilerModel", "duplicateTotal", "()I"⟩, ⟨"RecordReconcilerModel", "correctionTotal", "()I"⟩, ⟨"RecordReconcilerModel", "newTotal", "()I"⟩, ⟨"RecordReconcilerModel", "droppedTotal", "()I"⟩, ⟨"RecordReconcilerModel", "closedTotal", "()I"⟩, ⟨"RecordReconcilerModel", "rejectedTotal", "()I"⟩, ⟨"RecordReconcilerModel", "settledTotal", "()I"⟩, ⟨"RecordReconcilerLaw", "meanAmount", "(LRecordReconciler;[D)I"⟩, ⟨"RecordReconcilerModel", "meanAmount", "()D"⟩, ⟨"RecordReconcilerModel", "confirmedShare", "()F"⟩, ⟨"RecordReconcilerModel", "isConsistent", "()Z"⟩, ⟨"RecordReconcilerModel", "put", "(II)I"⟩, ⟨"RecordReconcilerModel", "writesNumber", "(II)I"⟩, ⟨"RecordReconcilerModel", "formatRecord", "(CI)I"⟩, ⟨"RecordReconcilerModel", "writes", "(III)I"⟩],
  [⟨"RecordReconcilerModel", "formatKey", "(I)I"⟩, ⟨"RecordReconcilerModel", "formatBatch", "()I"⟩, ⟨"RecordReconcilerLaw", "lineChar", "(LRecordReconciler;I[J)I"⟩, ⟨"RecordReconcilerModel", "lineChar", "(I)C"⟩, ⟨"RecordReconcilerModel", "append", "(C)I"⟩, ⟨"RecordReconcilerLaw", "run", "(LRecordReconciler;[J)I"⟩, ⟨"RecordReconcilerModel", "startOf", "(I)I"⟩, ⟨"RecordReconcilerModel", "kindHere", "()I"⟩, ⟨"RecordReconcilerModel", "letterHere", "()I"⟩, ⟨"RecordReconcilerModel", "reads", "(II)I"⟩, ⟨"RecordReconcilerModel", "number", "(I)I"⟩, ⟨"RecordReconcilerModel", "readsCommand", "()V"⟩, ⟨"RecordReconcilerModel", "readsAll", "()V"⟩, ⟨"RecordReconcilerModel", "does", "(I)I"⟩, ⟨"RecordReconcilerModel", "run", "()I"⟩, ⟨"RecordReconcilerModel", "errorPosition", "()I"⟩],
  [⟨"RecordReconcilerModel", "failedCommand", "()I"⟩, ⟨"RecordReconcilerModel", "undoableCount", "()I"⟩, ⟨"RecordReconcilerLaw", "undo", "(LRecordReconciler;[J)I"⟩, ⟨"RecordReconcilerModel", "undo", "()I"⟩, ⟨"RecordReconcilerModel", "save", "()I"⟩, ⟨"RecordReconcilerLaw", "restore", "(LRecordReconciler;[J)I"⟩, ⟨"RecordReconcilerModel", "restore", "()I"⟩, ⟨"RecordReconcilerLaw", "law", "([I)Z"⟩]]

noncomputable def ybA : List (List (ByteArray)) := [[prog_6_method_1_code, prog_2_method_1_code, prog_3_method_1_code, prog_5_method_1_code, prog_8_method_1_code, prog_7_method_1_code, prog_4_method_1_code, prog_12_method_2_code, prog_28_method_1_code, prog_1_method_1_code, prog_1_method_70_code, prog_1_method_73_code, prog_6_method_3_code, prog_1_method_75_code, prog_6_method_20_code, prog_6_method_19_code],
  [prog_1_method_30_code, prog_1_method_31_code, prog_1_method_68_code, prog_1_method_71_code, prog_6_method_4_code, prog_1_method_74_code, prog_1_method_21_code, prog_8_method_2_code, prog_1_method_59_code, prog_2_method_6_code, prog_6_method_5_code, prog_3_method_7_code, prog_3_method_8_code, prog_1_method_17_code, prog_3_method_4_code, prog_2_method_4_code],
  [prog_6_method_10_code, prog_6_method_16_code, prog_3_method_5_code, prog_3_method_3_code, prog_1_method_10_code, prog_6_method_2_code, prog_2_method_2_code, prog_3_method_2_code, prog_5_method_2_code, prog_2_method_3_code, prog_2_method_5_code, prog_6_method_8_code, prog_6_method_7_code, prog_6_method_6_code, prog_3_method_11_code, prog_3_method_9_code],
  [prog_3_method_10_code, prog_6_method_21_code, prog_3_method_12_code, prog_6_method_9_code, prog_3_method_13_code, prog_3_method_6_code, prog_1_method_9_code, prog_1_method_4_code, prog_1_method_49_code, prog_6_method_17_code, prog_1_method_26_code, prog_1_method_53_code, prog_1_method_46_code, prog_1_method_11_code, prog_1_method_22_code, prog_6_method_18_code],
  [prog_1_method_29_code, prog_1_method_27_code, prog_1_method_7_code, prog_1_method_48_code, prog_1_method_45_code, prog_1_method_62_code, prog_1_method_61_code, prog_1_method_63_code, prog_38_method_27_code, prog_12_method_10_code, prog_36_method_121_code, prog_12_method_9_code, prog_12_method_68_code, prog_12_method_13_code, prog_28_method_89_code, prog_30_method_3_code],
  [prog_12_method_31_code, prog_28_method_14_code, prog_1_method_69_code, prog_23_method_13_code, prog_23_method_12_code, prog_12_method_32_code, prog_28_method_15_code, prog_12_method_6_code, prog_28_method_93_code, prog_1_method_57_code, prog_27_method_152_code, prog_27_method_54_code, prog_12_method_71_code, prog_27_method_147_code, prog_12_method_73_code, prog_12_method_22_code],
  [prog_28_method_7_code, prog_1_method_56_code, prog_1_method_55_code, prog_6_method_22_code, prog_6_method_23_code, prog_4_method_2_code, prog_4_method_5_code, prog_4_method_4_code, prog_4_method_3_code, prog_1_method_40_code, prog_4_method_7_code, prog_4_method_6_code, prog_1_method_41_code, prog_6_method_13_code, prog_1_method_42_code, prog_1_method_20_code],
  [prog_7_method_2_code, prog_7_method_7_code, prog_7_method_6_code, prog_7_method_5_code, prog_1_method_38_code, prog_7_method_10_code, prog_7_method_9_code, prog_7_method_12_code, prog_7_method_11_code, prog_7_method_8_code, prog_1_method_39_code, prog_1_method_54_code, prog_1_method_72_code, prog_7_method_3_code, prog_1_method_37_code, prog_1_method_33_code],
  [prog_6_method_14_code, prog_1_method_23_code, prog_39_method_11_code, prog_27_method_155_code, prog_12_method_14_code, prog_28_method_88_code, prog_1_method_58_code, prog_1_method_35_code, prog_1_method_36_code, prog_6_method_12_code, prog_1_method_52_code, prog_1_method_44_code, prog_1_method_47_code, prog_6_method_15_code, prog_1_method_24_code, prog_1_method_28_code],
  [prog_1_method_76_code, prog_1_method_16_code, prog_1_method_8_code, prog_23_method_49_code, prog_7_method_4_code, prog_1_method_34_code, prog_1_method_18_code, prog_6_method_11_code, prog_1_method_19_code, prog_1_method_5_code, prog_1_method_50_code, prog_1_method_2_code, prog_1_method_15_code, prog_1_method_12_code, prog_1_method_14_code, prog_1_method_13_code],
  [prog_1_method_67_code, prog_8_method_6_code, prog_27_method_154_code, prog_30_method_2_code, prog_27_method_56_code, prog_8_method_7_code, prog_8_method_5_code, prog_8_method_9_code, prog_8_method_12_code, prog_8_method_10_code, prog_8_method_8_code, prog_8_method_11_code, prog_8_method_4_code, prog_8_method_3_code, prog_1_method_60_code, prog_1_method_66_code],
  [prog_1_method_6_code, prog_1_method_51_code, prog_1_method_25_code, prog_1_method_32_code, prog_1_method_43_code, prog_5_method_3_code, prog_1_method_65_code, prog_1_method_64_code, prog_1_method_3_code, method_21_code, method_15_code, method_35_code, method_5_code, method_31_code, method_16_code, method_20_code],
  [method_7_code, method_37_code, method_38_code, method_33_code, method_32_code, method_28_code, method_14_code, method_27_code, method_23_code, method_17_code, prog_10_method_1_code, method_3_code, prog_10_method_4_code, prog_10_method_7_code, prog_10_method_3_code, prog_10_method_14_code],
  [prog_10_method_15_code, prog_10_method_16_code, prog_10_method_5_code, prog_10_method_23_code, prog_10_method_8_code, prog_10_method_9_code, prog_10_method_24_code, prog_10_method_2_code, method_4_code, prog_10_method_18_code, prog_10_method_25_code, prog_10_method_26_code, prog_10_method_17_code, prog_10_method_19_code, prog_10_method_20_code, prog_10_method_21_code],
  [prog_10_method_22_code, prog_10_method_6_code, prog_10_method_27_code, prog_10_method_29_code, prog_10_method_28_code, prog_10_method_30_code, prog_10_method_31_code, prog_10_method_32_code, method_6_code, prog_10_method_57_code, prog_10_method_58_code, prog_10_method_59_code, prog_10_method_60_code, prog_10_method_33_code, prog_10_method_34_code, prog_10_method_35_code],
  [prog_10_method_36_code, method_8_code, prog_10_method_37_code, prog_10_method_38_code, prog_10_method_39_code, prog_10_method_40_code, prog_10_method_41_code, method_9_code, prog_10_method_42_code, prog_10_method_43_code, method_10_code, prog_10_method_44_code, method_11_code, prog_10_method_45_code, method_12_code, prog_10_method_46_code],
  [prog_10_method_47_code, prog_10_method_48_code, method_13_code, prog_10_method_49_code, prog_10_method_50_code, prog_10_method_51_code, prog_10_method_52_code, prog_10_method_53_code, prog_10_method_54_code, prog_10_method_55_code, method_18_code, prog_10_method_56_code, method_19_code, prog_10_method_62_code, prog_10_method_61_code, prog_10_method_63_code],
  [prog_10_method_64_code, prog_10_method_65_code, prog_10_method_66_code, prog_10_method_67_code, prog_10_method_68_code, prog_10_method_69_code, prog_10_method_70_code, method_22_code, prog_10_method_71_code, prog_10_method_72_code, prog_10_method_74_code, prog_10_method_73_code, prog_10_method_75_code, method_24_code, prog_10_method_76_code, method_25_code],
  [prog_10_method_79_code, prog_10_method_78_code, prog_10_method_77_code, prog_10_method_80_code, prog_10_method_81_code, method_26_code, prog_10_method_82_code, prog_10_method_83_code, prog_10_method_84_code, prog_10_method_85_code, prog_10_method_86_code, prog_10_method_87_code, prog_10_method_88_code, prog_10_method_89_code, method_29_code, prog_10_method_90_code],
  [prog_10_method_91_code, prog_10_method_92_code, prog_10_method_93_code, prog_10_method_94_code, prog_10_method_95_code, prog_10_method_96_code, prog_10_method_97_code, prog_10_method_98_code, method_30_code, prog_10_method_99_code, prog_10_method_100_code, prog_10_method_101_code, prog_10_method_102_code, prog_10_method_104_code, prog_10_method_105_code, prog_10_method_103_code],
  [prog_10_method_106_code, prog_10_method_107_code, method_34_code, prog_10_method_108_code, prog_10_method_109_code, method_36_code, prog_10_method_113_code, prog_10_method_114_code, prog_10_method_110_code, prog_10_method_111_code, prog_10_method_112_code, prog_10_method_115_code, prog_10_method_116_code, prog_10_method_117_code, prog_10_method_118_code, prog_10_method_119_code],
  [prog_10_method_120_code, prog_10_method_10_code, method_39_code, prog_10_method_11_code, prog_10_method_12_code, method_40_code, prog_10_method_13_code, code]]

noncomputable def yrA : List (List (Option FieldType)) := [[none, none, none, none, none, none, none, none, none, none, (some .boolean), none, (some .int), (some .int), (some .int), (some .int)],
  [(some .int), (some .int), (some .int), (some .int), (some .int), (some .int), (some .int), (some .int), (some .int), (some .int), (some .int), (some .char), (some .boolean), (some .boolean), (some .boolean), (some .int)],
  [(some .int), (some .char), (some .int), (some .int), none, none, none, none, none, (some .int), (some .int), none, (some .int), none, none, (some .int)],
  [(some .int), (some .int), (some .int), none, (some .int), (some .int), (some .int), (some .int), (some .int), (some .int), (some .int), (some .float), (some .int), (some .int), (some .int), (some .int)],
  [(some .int), (some .int), (some .int), (some .int), (some .int), (some .int), (some .int), (some .int), (some .int), (some .int), (some (.array .byte)), none, (some .boolean), none, none, (some .boolean)],
  [(some (.object "java/lang/AbstractStringBuilder")), (some (.object "java/lang/StringBuilder")), (some .char), (some .int), (some .int), (some (.object "java/lang/AbstractStringBuilder")), (some (.object "java/lang/StringBuilder")), (some .int), (some .int), (some .int), (some .byte), (some .int), none, none, none, (some (.object "java/lang/AbstractStringBuilder"))],
  [(some (.object "java/lang/StringBuilder")), (some .int), (some .int), (some .boolean), (some .boolean), none, (some .int), (some .boolean), (some .int), (some .int), (some .int), (some .int), (some .int), (some .int), (some .int), (some .boolean)],
  [none, none, (some .boolean), (some .int), (some .int), (some .int), (some .boolean), (some .int), (some .boolean), (some .int), (some .int), (some .boolean), (some .int), none, (some .boolean), (some .boolean)],
  [(some .int), (some .int), (some .int), none, (some .char), (some .char), (some .char), (some .int), (some .int), (some .int), (some .double), (some .char), (some .int), (some .int), (some .int), (some .int)],
  [none, (some .char), (some .int), (some .int), (some .int), (some .int), (some .int), (some .int), (some .int), (some .int), (some .int), (some .int), (some .int), (some .int), (some .int), (some .char)],
  [(some .int), (some (.object "java/lang/String")), (some .boolean), (some .char), (some .char), (some .int), (some .int), (some .boolean), (some .int), (some .boolean), (some .boolean), (some .boolean), (some .boolean), (some .int), (some .int), (some .int)],
  [(some .int), (some .int), (some .char), (some .int), (some .int), (some .int), (some .int), (some .int), (some .int), (some .int), (some .int), (some .int), (some .int), (some .int), (some .int), (some .int)],
  [(some .int), (some .int), (some .int), (some .int), (some .int), (some .int), (some .int), (some .int), (some .int), (some .int), none, (some .int), none, none, (some .boolean), (some .boolean)],
  [(some .boolean), (some .boolean), (some .boolean), (some .int), none, (some .int), (some .int), (some .int), (some .int), (some .int), (some .int), (some .int), (some .int), (some .int), (some .int), (some .int)],
  [(some .boolean), (some .boolean), none, none, (some .int), (some .int), (some .int), (some .int), (some .int), (some .int), (some .int), (some .int), (some .int), (some .int), (some .int), (some .int)],
  [(some .int), (some .int), (some .int), (some .int), (some .int), (some .int), (some .int), (some .int), (some .int), (some .char), (some .int), (some .int), (some .int), (some .int), (some .int), (some .char)],
  [(some .boolean), (some .int), (some .int), (some .int), (some .int), (some .boolean), (some .int), (some .int), (some .int), (some .int), (some .int), (some .int), (some .int), (some .char), (some .boolean), (some .int)],
  [(some .int), (some .int), (some .int), (some .int), (some .int), (some .int), (some .int), (some .int), (some .int), (some .int), (some .boolean), (some .boolean), (some .boolean), (some .int), (some .int), (some .int)],
  [none, (some .boolean), (some .int), (some .int), (some .int), (some .int), (some .int), (some .boolean), (some .boolean), none, (some .int), (some .int), (some .int), (some .int), (some .int), (some .int)],
  [(some .char), (some .int), (some .int), (some .int), (some .int), (some .int), (some .int), (some .int), (some .int), (some .double), (some .float), (some .boolean), (some .int), (some .int), (some .int), (some .int)],
  [(some .int), (some .int), (some .int), (some .char), (some .int), (some .int), (some .int), (some .int), (some .int), (some .int), (some .int), none, none, (some .int), (some .int), (some .int)],
  [(some .int), (some .int), (some .int), (some .int), (some .int), (some .int), (some .int), (some .boolean)]]

noncomputable def yoA : List (List (Nat)) := [[5, 1, 2, 4, 7, 6, 3, 10, 13, 0, 0, 0, 5, 0, 5, 5],
  [0, 0, 0, 0, 5, 0, 0, 7, 0, 1, 5, 2, 2, 0, 2, 1],
  [5, 5, 2, 2, 0, 5, 1, 2, 4, 1, 1, 5, 5, 5, 2, 2],
  [2, 5, 2, 5, 2, 2, 0, 0, 0, 5, 0, 0, 0, 0, 0, 5],
  [0, 0, 0, 0, 0, 0, 0, 0, 16, 10, 15, 10, 10, 10, 13, 14],
  [10, 13, 0, 11, 11, 10, 13, 10, 13, 0, 12, 12, 10, 12, 10, 10],
  [13, 0, 0, 5, 5, 3, 3, 3, 3, 0, 3, 3, 0, 5, 0, 0],
  [6, 6, 6, 6, 0, 6, 6, 6, 6, 6, 0, 0, 0, 6, 0, 0],
  [5, 0, 17, 12, 10, 13, 0, 0, 0, 5, 0, 0, 0, 5, 0, 0],
  [0, 0, 0, 11, 6, 0, 0, 5, 0, 0, 0, 0, 0, 0, 0, 0],
  [0, 7, 12, 14, 12, 7, 7, 7, 7, 7, 7, 7, 7, 7, 0, 0],
  [0, 0, 0, 0, 0, 4, 0, 0, 0, 8, 8, 8, 8, 8, 8, 8],
  [8, 8, 8, 8, 8, 8, 8, 8, 8, 8, 9, 8, 9, 9, 9, 9],
  [9, 9, 9, 9, 9, 9, 9, 9, 8, 9, 9, 9, 9, 9, 9, 9],
  [9, 9, 9, 9, 9, 9, 9, 9, 8, 9, 9, 9, 9, 9, 9, 9],
  [9, 8, 9, 9, 9, 9, 9, 8, 9, 9, 8, 9, 8, 9, 8, 9],
  [9, 9, 8, 9, 9, 9, 9, 9, 9, 9, 8, 9, 8, 9, 9, 9],
  [9, 9, 9, 9, 9, 9, 9, 8, 9, 9, 9, 9, 9, 8, 9, 8],
  [9, 9, 9, 9, 9, 8, 9, 9, 9, 9, 9, 9, 9, 9, 8, 9],
  [9, 9, 9, 9, 9, 9, 9, 9, 8, 9, 9, 9, 9, 9, 9, 9],
  [9, 9, 8, 9, 9, 8, 9, 9, 9, 9, 9, 9, 9, 9, 9, 9],
  [9, 9, 8, 9, 9, 8, 9, 8]]

noncomputable def npA : List (List (Nat)) := [[0, 0, 0, 0, 0, 0, 0, 1, 0, 0, 1, 1, 1, 1, 2, 1],
  [1, 0, 1, 1, 2, 2, 2, 1, 1, 1, 2, 1, 0, 0, 1, 3],
  [1, 1, 2, 4, 1, 1, 1, 1, 1, 3, 1, 2, 1, 4, 0, 0],
  [0, 2, 2, 2, 2, 4, 4, 0, 0, 1, 0, 0, 0, 0, 2, 1],
  [1, 0, 2, 0, 0, 0, 0, 0, 3, 1, 2, 1, 0, 1, 1, 1],
  [1, 1, 1, 1, 3, 1, 1, 0, 0, 0, 0, 0, 1, 3, 2, 1],
  [1, 1, 2, 4, 2, 1, 1, 2, 0, 0, 1, 0, 0, 1, 2, 2],
  [3, 1, 1, 0, 2, 2, 0, 1, 1, 0, 2, 0, 2, 1, 3, 4],
  [2, 2, 3, 2, 1, 1, 1, 2, 2, 1, 0, 0, 0, 1, 1, 0],
  [1, 1, 1, 1, 0, 2, 0, 1, 1, 0, 0, 3, 1, 0, 1, 1],
  [0, 1, 0, 2, 1, 1, 0, 1, 1, 1, 1, 1, 1, 0, 0, 0],
  [2, 0, 1, 1, 1, 1, 0, 0, 3, 3, 4, 3, 2, 2, 4, 3],
  [4, 2, 2, 3, 4, 4, 4, 5, 6, 4, 0, 5, 4, 0, 3, 1],
  [1, 3, 3, 3, 0, 1, 3, 0, 5, 2, 3, 3, 2, 2, 1, 1],
  [0, 1, 2, 3, 0, 0, 0, 0, 4, 1, 2, 1, 1, 2, 2, 2],
  [2, 3, 1, 1, 1, 0, 0, 3, 2, 1, 3, 1, 3, 1, 3, 1],
  [0, 0, 3, 1, 1, 2, 3, 2, 2, 2, 3, 1, 3, 1, 1, 1],
  [1, 0, 0, 0, 1, 1, 0, 3, 1, 1, 2, 2, 4, 4, 2, 4],
  [2, 2, 3, 2, 2, 4, 2, 3, 2, 0, 0, 0, 0, 2, 3, 1],
  [0, 0, 0, 0, 0, 0, 0, 0, 2, 0, 0, 0, 2, 2, 2, 3],
  [1, 0, 3, 1, 1, 2, 1, 0, 0, 2, 1, 0, 0, 1, 0, 0],
  [0, 0, 2, 0, 0, 2, 0, 1]]

noncomputable def hhA : List (List (List (Nat × Nat × Nat × Nat))) := [[[], [], [], [], [], [], [], [], [], [], [], [], [], [], [], []],
  [[], [], [], [], [], [], [], [], [], [], [], [], [], [], [], []],
  [[], [], [], [], [], [], [], [], [], [], [], [], [], [], [], []],
  [[], [], [], [], [], [], [], [], [], [], [], [], [], [], [], []],
  [[], [], [], [], [], [], [], [], [], [], [], [], [], [], [], []],
  [[], [], [], [], [], [], [], [], [], [], [], [], [], [], [], []],
  [[], [], [], [], [], [], [], [], [], [], [], [], [], [], [], []],
  [[], [], [], [], [], [], [], [], [], [], [], [], [], [], [], []],
  [[], [], [], [], [], [], [], [], [], [], [], [], [], [], [], []],
  [[], [], [], [], [], [], [], [], [], [], [], [], [], [], [], []],
  [[], [], [], [], [], [], [], [], [], [], [], [], [], [], [], []],
  [[], [], [], [], [], [], [], [], [], [(0, 9, 12, 13), (0, 9, 15, 20)], [(0, 10, 13, 13), (0, 10, 17, 20)], [(0, 9, 12, 13), (0, 9, 15, 15)], [(0, 8, 11, 15)], [(0, 8, 11, 112)], [(0, 10, 13, 13), (0, 10, 17, 20)], [(0, 9, 12, 20)]],
  [[(0, 10, 13, 13), (0, 10, 17, 20)], [(0, 8, 11, 20)], [(0, 8, 11, 20)], [(0, 9, 12, 13), (0, 9, 15, 20)], [(0, 10, 13, 13), (0, 10, 17, 20)], [(0, 10, 13, 13), (0, 10, 17, 20)], [(0, 17, 20, 13)], [(0, 19, 22, 13), (0, 19, 26, 20)], [(0, 21, 24, 13), (0, 21, 28, 20)], [(0, 10, 13, 13), (0, 10, 17, 41)], [], [(0, 12, 15, 13), (0, 12, 19, 15)], [], [], [], []],
  [[], [], [], [], [], [], [], [], [(0, 12, 15, 13), (0, 12, 19, 20)], [], [], [], [], [], [], []],
  [[], [], [], [], [], [], [], [], [(0, 10, 13, 13), (0, 10, 17, 20), (0, 10, 21, 15)], [], [], [], [], [], [], []],
  [[], [(0, 9, 12, 13)], [], [], [], [], [], [(0, 9, 12, 41)], [], [], [(0, 9, 12, 41)], [], [(0, 9, 12, 41)], [], [(0, 9, 12, 41)], []],
  [[], [], [(0, 9, 12, 13)], [], [], [], [], [], [], [], [(0, 9, 12, 13), (0, 9, 15, 20)], [], [(0, 9, 12, 13), (0, 9, 15, 20)], [], [], []],
  [[], [], [], [], [], [], [], [(0, 9, 12, 13)], [], [], [], [], [], [(0, 10, 13, 13)], [], [(0, 10, 13, 13)]],
  [[], [], [], [], [], [(0, 10, 13, 13)], [], [], [], [], [], [], [], [], [(0, 9, 12, 13)], []],
  [[], [], [], [], [], [], [], [], [(0, 7, 10, 112)], [], [], [], [], [], [], []],
  [[], [], [(0, 9, 12, 41)], [], [], [(0, 8, 11, 13), (0, 8, 14, 15)], [], [], [], [], [], [], [], [], [], []],
  [[], [], [(0, 8, 11, 15)], [], [], [(0, 8, 11, 15)], [], []]]

noncomputable def yn (y : Nat) : MethodName := nth2 ⟨"", "", ""⟩ (nth2 [] ynA (y / 16)) (y % 16)
noncomputable def yb (y : Nat) : ByteArray := nth2 ⟨#[]⟩ (nth2 [] ybA (y / 16)) (y % 16)
noncomputable def yr (y : Nat) : Option FieldType := nth2 none (nth2 [] yrA (y / 16)) (y % 16)
noncomputable def yo (y : Nat) : Nat := nth2 0 (nth2 [] yoA (y / 16)) (y % 16)
noncomputable def np (y : Nat) : Nat := nth2 0 (nth2 [] npA (y / 16)) (y % 16)
noncomputable def hh (y : Nat) : List (Nat × Nat × Nat × Nat) := nth2 [] (nth2 [] hhA (y / 16)) (y % 16)
def fldA : List (Nat × Nat × Nat × Nat × Nat) := [(5, 9, 5, 0, 141), (5, 17, 5, 1, 143), (5, 20, 5, 2, 146), (5, 23, 5, 3, 148), (5, 27, 5, 4, 152), (1, 9, 1, 0, 173), (1, 15, 1, 1, 176), (1, 18, 1, 2, 179), (1, 21, 1, 3, 182), (2, 12, 2, 0, 194), (2, 21, 2, 1, 196), (2, 25, 2, 2, 198), (2, 29, 2, 3, 200), (2, 32, 2, 4, 202), (4, 11, 4, 0, 224), (4, 17, 4, 1, 225), (4, 21, 4, 2, 226), (7, 9, 7, 0, 241), (7, 15, 7, 1, 242), (7, 19, 7, 2, 244), (7, 23, 7, 3, 246), (7, 26, 7, 4, 248), (7, 29, 7, 5, 250), (7, 32, 7, 6, 252), (7, 35, 7, 7, 254), (6, 9, 6, 0, 279), (6, 15, 6, 1, 280), (6, 18, 6, 2, 281), (6, 21, 6, 3, 282), (6, 24, 6, 4, 283), (6, 27, 6, 5, 284), (6, 30, 6, 6, 285), (6, 33, 6, 7, 286), (6, 37, 6, 8, 287), (3, 9, 3, 0, 313), (3, 15, 3, 1, 314), (3, 18, 3, 2, 315), (3, 21, 3, 3, 316), (10, 15, 10, 0, 344), (10, 22, 10, 1, 345), (0, 10, 8, 0, 359), (0, 16, 8, 1, 360), (0, 19, 8, 2, 361), (0, 25, 8, 3, 362), (0, 32, 8, 4, 363), (0, 39, 8, 5, 364), (0, 46, 8, 6, 365), (0, 53, 8, 7, 366), (0, 57, 8, 8, 367), (0, 61, 8, 9, 368), (0, 65, 8, 10, 369), (0, 139, 2, 0, 195), (0, 205, 5, 3, 151), (0, 167, 5, 1, 145), (0, 299, 7, 1, 243), (2, 105, 1, 2, 180), (2, 108, 1, 0, 174), (2, 111, 1, 1, 177), (2, 117, 5, 4, 153), (2, 60, 1, 3, 183), (2, 130, 5, 1, 144), (0, 260, 2, 3, 201), (0, 103, 2, 4, 203), (0, 173, 5, 2, 147), (0, 184, 5, 0, 142), (0, 316, 7, 6, 253), (0, 322, 7, 2, 245), (0, 325, 7, 3, 247), (0, 328, 7, 4, 249), (0, 329, 7, 5, 251), (10, 79, 10, 3, 348), (10, 73, 10, 2, 346), (0, 106, 2, 1, 197), (0, 110, 1, 3, 184), (0, 118, 1, 0, 175), (0, 126, 1, 1, 178), (0, 129, 1, 2, 181), (3, 25, 5, 3, 150), (6, 40, 5, 3, 149), (0, 143, 5, 4, 154), (0, 257, 2, 2, 199), (0, 334, 4, 2, 227), (9, 9, 9, 0, 1604), (9, 13, 9, 1, 1605), (9, 16, 9, 2, 1606), (9, 19, 9, 3, 1607), (9, 22, 9, 6, 1610), (9, 26, 9, 7, 1611), (9, 29, 9, 8, 1612), (9, 32, 9, 9, 1613), (9, 35, 9, 10, 1614), (9, 38, 9, 11, 1615), (9, 41, 9, 12, 1616), (9, 44, 9, 14, 1618), (9, 47, 9, 21, 1625), (9, 50, 9, 16, 1620), (9, 61, 9, 5, 1609), (9, 236, 9, 15, 1619), (9, 242, 9, 13, 1617), (9, 245, 9, 18, 1622), (9, 248, 9, 17, 1621), (9, 251, 9, 19, 1623), (9, 265, 9, 20, 1624), (9, 71, 9, 4, 1608)]
def lnkA_0 : List (Nat × Nat × Nat × Nat × List Nat) := [(2, 11, 3, 0, [136]),
  (2, 20, 3, 1, [170]),
  (4, 24, 2, 2, [223, 130]),
  (13, 1, 2, 7, [331, 332]),
  (0, 9, 2, 2, [129, 130]),
  (0, 24, 2, 3, [217, 218]),
  (0, 31, 3, 4, [238]),
  (0, 38, 3, 5, [276]),
  (0, 45, 3, 6, [310]),
  (0, 52, 2, 8, [328, 329]),
  (0, 347, 1, 10, [1242, 409]),
  (0, 156, 1, 11, [1239, 1240]),
  (0, 355, 0, 12, [1299, 435, 436]),
  (5, 54, 0, 14, [682, 684, 14]),
  (0, 190, 0, 13, [1295, 1297, 27]),
  (0, 202, 0, 15, [678, 679, 680]),
  (0, 170, 1, 18, [1226, 406]),
  (5, 36, 0, 12, [434, 435, 436]),
  (0, 148, 1, 19, [1223, 1224]),
  (0, 159, 0, 20, [1244, 443, 444]),
  (0, 163, 0, 21, [1252, 1254, 26]),
  (0, 303, 0, 23, [1481, 1482, 1483]),
  (2, 102, 0, 25, [426, 427, 428]),
  (2, 114, 0, 26, [430, 431, 432])]
def lnkA_1 : List (Nat × Nat × Nat × Nat × List Nat) := [(2, 120, 0, 27, [422, 423, 424]),
  (0, 135, 0, 28, [652, 419, 420]),
  (5, 47, 0, 32, [450, 451, 452]),
  (2, 75, 0, 20, [442, 443, 444]),
  (2, 78, 0, 33, [446, 447, 448]),
  (2, 49, 4, 18, [406]),
  (2, 53, 4, 10, [409]),
  (2, 57, 1, 30, [411, 412]),
  (2, 63, 0, 31, [414, 415, 416]),
  (2, 67, 0, 28, [418, 419, 420]),
  (2, 71, 0, 34, [438, 440, 5]),
  (2, 36, 0, 37, [568, 569, 570]),
  (2, 40, 0, 38, [575, 576, 577]),
  (4, 25, 0, 39, [564, 565, 566]),
  (5, 43, 0, 43, [608, 610, 9]),
  (5, 40, 0, 44, [604, 606, 8]),
  (2, 123, 0, 45, [600, 601, 602]),
  (2, 127, 0, 46, [612, 614, 10]),
  (2, 141, 0, 49, [628, 629, 630]),
  (2, 144, 0, 51, [636, 637, 638]),
  (2, 82, 0, 41, [588, 589, 590]),
  (2, 85, 0, 42, [592, 593, 594]),
  (2, 89, 0, 47, [596, 598, 7]),
  (2, 93, 0, 48, [616, 618, 11])]
def lnkA_2 : List (Nat × Nat × Nat × Nat × List Nat) := [(2, 96, 0, 50, [620, 622, 12]),
  (2, 99, 0, 52, [632, 634, 13]),
  (0, 72, 0, 35, [401, 402, 403]),
  (0, 75, 1, 36, [454, 455]),
  (0, 79, 0, 40, [560, 561, 562]),
  (0, 83, 0, 53, [584, 585, 586]),
  (0, 68, 0, 54, [397, 399, 4]),
  (5, 50, 0, 33, [665, 447, 448]),
  (0, 196, 0, 57, [661, 662, 663]),
  (0, 199, 0, 63, [1309, 1310, 1311]),
  (0, 319, 0, 39, [1122, 565, 566]),
  (10, 114, 1, 72, [851, 852]),
  (10, 104, 5, 73, [847, 2153, 0, 849]),
  (10, 108, 1, 74, [860, 861]),
  (10, 100, 5, 75, [843, 2152, 1, 845]),
  (10, 83, 5, 76, [872, 874, 875, 873]),
  (13, 333, 6, 77, [821, 2149, 357, 822]),
  (10, 191, 1, 79, [1096, 1097]),
  (13, 50, 6, 80, [1093, 2158, 357, 1094]),
  (10, 245, 1, 83, [953, 954]),
  (10, 248, 1, 84, [956, 957]),
  (13, 53, 6, 85, [950, 2157, 357, 951]),
  (13, 343, 6, 87, [995, 991, 357, 990]),
  (0, 268, 0, 78, [817, 818, 819])]
def lnkA_3 : List (Nat × Nat × Nat × Nat × List Nat) := [(0, 271, 0, 81, [1089, 1090, 1091]),
  (0, 122, 1, 82, [733, 734]),
  (0, 275, 0, 86, [1111, 947, 948]),
  (0, 132, 0, 27, [1112, 423, 424]),
  (0, 283, 0, 88, [1113, 993, 2159]),
  (12, 335, 0, 90, [907, 908, 909]),
  (10, 40, 0, 90, [920, 908, 909]),
  (10, 397, 5, 92, [916, 2155, 2, 918]),
  (10, 399, 0, 93, [940, 941, 942]),
  (10, 32, 0, 91, [903, 904, 905]),
  (10, 208, 5, 94, [912, 2154, 3, 914]),
  (13, 29, 6, 95, [836, 2150, 357, 837]),
  (0, 193, 0, 33, [1301, 447, 448]),
  (0, 280, 0, 96, [1443, 833, 834]),
  (5, 63, 0, 99, [698, 699, 700]),
  (3, 28, 0, 100, [694, 695, 696]),
  (3, 35, 0, 102, [713, 715, 16]),
  (3, 32, 0, 103, [709, 711, 15]),
  (0, 242, 0, 101, [690, 691, 692]),
  (0, 245, 0, 104, [705, 706, 707]),
  (3, 39, 0, 106, [725, 726, 727]),
  (0, 248, 0, 107, [721, 722, 723]),
  (0, 251, 0, 106, [1392, 726, 727]),
  (0, 254, 0, 109, [1393, 1394, 1395])]
def lnkA_4 : List (Nat × Nat × Nat × Nat × List Nat) := [(6, 43, 0, 99, [776, 699, 700]),
  (6, 57, 0, 113, [785, 787, 19]),
  (6, 53, 0, 114, [781, 783, 18]),
  (0, 219, 0, 112, [772, 773, 774]),
  (0, 236, 0, 115, [777, 778, 779]),
  (6, 68, 0, 117, [801, 803, 22]),
  (6, 72, 0, 119, [809, 811, 24]),
  (6, 61, 0, 118, [797, 799, 21]),
  (6, 65, 0, 120, [805, 807, 23]),
  (0, 239, 0, 121, [793, 794, 795]),
  (0, 227, 0, 116, [768, 770, 17]),
  (0, 230, 0, 122, [789, 791, 20]),
  (0, 211, 1, 124, [1338, 1339]),
  (0, 233, 0, 125, [1381, 1382, 1383]),
  (0, 215, 0, 99, [1342, 699, 700]),
  (0, 176, 0, 128, [1271, 1272, 1273]),
  (12, 1059, 1, 130, [1108, 1109]),
  (10, 144, 1, 131, [1470, 1106]),
  (13, 329, 6, 132, [1466, 2160, 357, 1467]),
  (0, 294, 0, 133, [1462, 1463, 1464]),
  (0, 208, 0, 137, [1327, 1328, 1329]),
  (0, 185, 0, 141, [1283, 1284, 1285]),
  (0, 115, 0, 144, [1178, 1180, 25]),
  (6, 47, 1, 147, [1354, 1355])]
def lnkA_5 : List (Nat × Nat × Nat × Nat × List Nat) := [(0, 223, 0, 148, [1350, 1351, 1352]),
  (0, 152, 0, 151, [1228, 1229, 1230]),
  (14, 9, 1, 131, [1530, 1106]),
  (12, 492, 0, 162, [1523, 1524, 1525]),
  (12, 495, 1, 163, [1527, 1528]),
  (7, 67, 0, 91, [1518, 904, 905]),
  (7, 91, 0, 164, [1519, 1520, 1521]),
  (7, 59, 1, 161, [1504, 1505]),
  (7, 63, 0, 165, [1514, 1516, 30]),
  (7, 95, 4, 18, [406]),
  (7, 99, 0, 168, [1544, 1546, 33]),
  (7, 46, 0, 166, [1500, 1502, 29]),
  (7, 50, 0, 167, [1535, 1537, 31]),
  (7, 53, 0, 169, [1540, 1542, 32]),
  (7, 42, 0, 170, [1548, 1550, 34]),
  (7, 56, 0, 171, [1552, 1554, 35]),
  (7, 38, 0, 172, [1496, 1498, 28]),
  (0, 306, 0, 173, [1492, 1493, 1494]),
  (0, 311, 0, 70, [1557, 1559, 36]),
  (0, 337, 0, 181, [1586, 1587, 1588]),
  (8, 78, 0, 16, [1316, 1317, 1318]),
  (8, 60, 0, 22, [1248, 1249, 1250]),
  (8, 127, 0, 24, [1475, 1476, 1477]),
  (8, 22, 0, 55, [1143, 1144, 1145])]
def lnkA_6 : List (Nat × Nat × Nat × Nat × List Nat) := [(8, 114, 0, 59, [1431, 1432, 1433]),
  (8, 63, 0, 62, [1260, 1261, 1262]),
  (8, 75, 0, 64, [1305, 1306, 1307]),
  (8, 30, 0, 66, [1157, 1158, 1159]),
  (8, 133, 0, 69, [1565, 1566, 1567]),
  (8, 136, 0, 71, [1573, 1574, 1575]),
  (8, 121, 0, 97, [1447, 1448, 1449]),
  (8, 118, 0, 98, [1438, 1439, 1440]),
  (8, 102, 0, 110, [1388, 1389, 1390]),
  (8, 56, 0, 111, [1235, 1236, 1237]),
  (8, 98, 0, 126, [1377, 1378, 1379]),
  (8, 84, 0, 127, [1334, 1335, 1336]),
  (8, 66, 0, 129, [1267, 1268, 1269]),
  (8, 7, 0, 155, [1128, 1129, 1130]),
  (9, 57, 1, 204, [1691, 1692]),
  (9, 75, 1, 206, [1720, 1721]),
  (9, 79, 1, 207, [1717, 1718]),
  (9, 83, 1, 208, [1723, 1724]),
  (9, 103, 1, 209, [1714, 1715]),
  (9, 53, 0, 210, [1687, 1689, 38]),
  (9, 64, 0, 212, [1730, 1732, 42]),
  (9, 106, 0, 205, [1706, 1708, 39]),
  (9, 109, 0, 211, [1710, 1712, 40]),
  (9, 113, 0, 213, [1726, 1728, 41])]
def lnkA_7 : List (Nat × Nat × Nat × Nat × List Nat) := [(8, 17, 0, 184, [1136, 1137, 1138]),
  (9, 90, 0, 217, [1742, 1744, 44]),
  (9, 116, 0, 218, [1738, 1740, 43]),
  (9, 86, 0, 220, [1770, 1772, 50]),
  (9, 93, 0, 221, [1766, 1768, 49]),
  (9, 96, 0, 222, [1762, 1764, 48]),
  (9, 100, 0, 223, [1758, 1760, 47]),
  (9, 127, 0, 226, [1778, 1780, 52]),
  (9, 119, 0, 224, [1754, 1756, 46]),
  (9, 67, 0, 225, [1683, 1685, 37]),
  (9, 123, 0, 227, [1774, 1776, 51]),
  (9, 131, 0, 228, [1750, 1752, 45]),
  (9, 135, 0, 230, [1786, 1788, 53]),
  (8, 26, 0, 176, [1150, 1151, 1152]),
  (9, 170, 0, 234, [1810, 1812, 58]),
  (9, 173, 0, 233, [1802, 1804, 56]),
  (9, 176, 0, 235, [1806, 1808, 57]),
  (9, 138, 0, 236, [1798, 1800, 55]),
  (9, 149, 0, 237, [1794, 1796, 54]),
  (9, 152, 0, 239, [1820, 1822, 59]),
  (8, 33, 0, 146, [1164, 1165, 1166]),
  (9, 155, 0, 242, [1828, 1830, 60]),
  (9, 158, 0, 244, [1836, 1838, 61]),
  (8, 37, 0, 159, [1174, 1175, 1176])]
def lnkA_8 : List (Nat × Nat × Nat × Nat × List Nat) := [(9, 161, 0, 248, [1848, 1850, 62]),
  (8, 43, 0, 158, [1198, 1199, 1200]),
  (8, 46, 0, 156, [1205, 1206, 1207]),
  (8, 49, 0, 145, [1212, 1213, 1214]),
  (8, 52, 0, 152, [1219, 1220, 1221]),
  (9, 164, 0, 259, [1876, 1878, 63]),
  (9, 167, 0, 262, [1888, 1890, 64]),
  (8, 69, 0, 142, [1279, 1280, 1281]),
  (8, 72, 0, 178, [1291, 1292, 1293]),
  (9, 179, 0, 270, [1920, 1922, 67]),
  (9, 182, 0, 271, [1916, 1918, 66]),
  (9, 185, 0, 272, [1912, 1914, 65]),
  (8, 81, 0, 179, [1323, 1324, 1325]),
  (9, 188, 0, 280, [1948, 1950, 68]),
  (9, 194, 1, 282, [1956, 1957]),
  (9, 198, 0, 283, [1959, 1961, 69]),
  (8, 88, 0, 149, [1346, 1347, 1348]),
  (8, 92, 0, 135, [1363, 1364, 1365]),
  (9, 204, 0, 288, [1984, 1986, 73]),
  (9, 201, 0, 289, [1980, 1982, 72]),
  (9, 207, 0, 290, [1976, 1978, 71]),
  (9, 210, 0, 291, [1972, 1974, 70]),
  (8, 95, 0, 136, [1370, 1371, 1372]),
  (9, 213, 0, 296, [2008, 2010, 76])]
def lnkA_9 : List (Nat × Nat × Nat × Nat × List Nat) := [(9, 216, 0, 297, [2004, 2006, 75]),
  (9, 219, 0, 298, [2000, 2002, 74]),
  (8, 105, 0, 180, [1400, 1401, 1402]),
  (8, 108, 0, 138, [1421, 1422, 1423]),
  (9, 230, 0, 316, [2072, 2074, 77]),
  (9, 233, 0, 317, [2076, 2078, 78]),
  (9, 224, 0, 164, [2089, 1520, 1521]),
  (9, 239, 0, 319, [2084, 2086, 79]),
  (8, 124, 0, 134, [1457, 1458, 1459]),
  (8, 130, 0, 174, [1488, 1489, 1490]),
  (9, 260, 1, 326, [2118, 2119]),
  (9, 254, 0, 328, [2130, 2132, 85]),
  (9, 257, 0, 329, [2126, 2128, 84]),
  (9, 268, 0, 327, [2114, 2116, 82]),
  (9, 271, 0, 330, [2122, 2124, 83]),
  (9, 274, 0, 331, [2110, 2112, 81]),
  (9, 277, 0, 332, [2106, 2108, 80]),
  (9, 280, 0, 333, [2134, 2136, 86]),
  (8, 139, 0, 182, [1581, 1582, 1583]),
  (8, 142, 0, 160, [1593, 1594, 1595]),
  (8, 145, 2, 9, [121, 122]),
  (8, 148, 2, 202, [1600, 1601]),
  (8, 149, 7, 203, [1123, 1124]),
  (8, 154, 0, 214, [1702, 1703, 1704])]
def lnkA_10 : List (Nat × Nat × Nat × Nat × List Nat) := [(8, 155, 0, 215, [1671, 1672, 1673]),
  (8, 158, 7, 216, [1132, 1133]),
  (8, 160, 0, 219, [1734, 1735, 1736]),
  (8, 161, 7, 188, [1140, 1141]),
  (8, 164, 0, 229, [1746, 1747, 1748]),
  (8, 165, 0, 153, [393, 394, 395]),
  (8, 168, 0, 231, [1782, 1783, 1784]),
  (8, 169, 7, 232, [1147, 1148]),
  (8, 172, 0, 238, [1790, 1791, 1792]),
  (8, 173, 7, 192, [1154, 1155]),
  (8, 175, 0, 240, [1816, 1817, 1818]),
  (8, 176, 7, 241, [1161, 1162]),
  (8, 179, 0, 243, [1824, 1825, 1826]),
  (8, 180, 0, 61, [640, 641, 642]),
  (8, 183, 0, 245, [1832, 1833, 1834]),
  (8, 184, 0, 157, [644, 645, 646]),
  (8, 187, 0, 246, [1840, 1841, 1842]),
  (8, 188, 7, 247, [1168, 1169]),
  (8, 190, 0, 249, [1844, 1845, 1846]),
  (8, 191, 7, 250, [1195, 1196]),
  (8, 193, 0, 251, [1852, 1853, 1854]),
  (8, 194, 7, 252, [1202, 1203]),
  (8, 196, 0, 253, [1856, 1857, 1858]),
  (8, 197, 7, 254, [1209, 1210])]
def lnkA_11 : List (Nat × Nat × Nat × Nat × List Nat) := [(8, 199, 0, 255, [1860, 1861, 1862]),
  (8, 200, 0, 29, [648, 649, 650]),
  (8, 204, 0, 256, [1864, 1865, 1866]),
  (8, 205, 0, 150, [653, 654, 655]),
  (8, 208, 0, 257, [1868, 1869, 1870]),
  (8, 209, 7, 258, [1216, 1217]),
  (8, 212, 0, 260, [1872, 1873, 1874]),
  (8, 213, 7, 198, [1232, 1233]),
  (8, 215, 0, 261, [1880, 1881, 1882]),
  (8, 216, 7, 186, [1245, 1246]),
  (8, 218, 0, 263, [1884, 1885, 1886]),
  (8, 219, 7, 190, [1257, 1258]),
  (8, 221, 0, 264, [1892, 1893, 1894]),
  (8, 222, 7, 201, [1264, 1265]),
  (8, 224, 0, 265, [1896, 1897, 1898]),
  (8, 225, 7, 266, [1276, 1277]),
  (8, 227, 0, 267, [1900, 1901, 1902]),
  (8, 228, 7, 268, [1288, 1289]),
  (8, 230, 0, 269, [1904, 1905, 1906]),
  (8, 231, 0, 58, [657, 658, 659]),
  (8, 234, 0, 273, [1908, 1909, 1910]),
  (8, 235, 0, 65, [666, 667, 668]),
  (8, 238, 0, 274, [1924, 1925, 1926]),
  (8, 239, 0, 143, [670, 671, 672])]
def lnkA_12 : List (Nat × Nat × Nat × Nat × List Nat) := [(8, 242, 0, 275, [1928, 1929, 1930]),
  (8, 243, 7, 191, [1302, 1303]),
  (8, 245, 0, 276, [1932, 1933, 1934]),
  (8, 246, 7, 185, [1313, 1314]),
  (8, 248, 0, 277, [1936, 1937, 1938]),
  (8, 249, 0, 17, [674, 675, 676]),
  (8, 252, 0, 278, [1940, 1941, 1942]),
  (8, 253, 7, 279, [1320, 1321]),
  (8, 255, 0, 281, [1944, 1945, 1946]),
  (8, 256, 7, 200, [1331, 1332]),
  (8, 259, 0, 284, [1952, 1953, 1954]),
  (8, 260, 7, 285, [1343, 1344]),
  (8, 263, 0, 286, [1964, 1965, 1966]),
  (8, 264, 7, 287, [1360, 1361]),
  (8, 266, 0, 292, [1968, 1969, 1970]),
  (8, 267, 7, 293, [1367, 1368]),
  (8, 269, 0, 294, [1988, 1989, 1990]),
  (8, 270, 7, 199, [1374, 1375]),
  (8, 273, 0, 295, [1992, 1993, 1994]),
  (8, 274, 0, 105, [686, 687, 688]),
  (8, 277, 0, 299, [1996, 1997, 1998]),
  (8, 278, 0, 108, [717, 718, 719]),
  (8, 281, 0, 300, [2012, 2013, 2014]),
  (8, 282, 7, 197, [1385, 1386])]
def lnkA_13 : List (Nat × Nat × Nat × Nat × List Nat) := [(8, 284, 0, 301, [2016, 2017, 2018]),
  (8, 285, 7, 302, [1397, 1398]),
  (8, 287, 0, 303, [2020, 2021, 2022]),
  (8, 288, 0, 139, [729, 730, 731]),
  (8, 292, 0, 304, [2024, 2025, 2026]),
  (8, 293, 0, 68, [736, 737, 738]),
  (8, 296, 0, 305, [2028, 2029, 2030]),
  (8, 297, 0, 60, [740, 741, 742]),
  (8, 300, 0, 306, [2032, 2033, 2034]),
  (8, 301, 0, 140, [744, 745, 746]),
  (8, 304, 0, 307, [2036, 2037, 2038]),
  (8, 305, 0, 67, [748, 749, 750]),
  (8, 308, 0, 308, [2040, 2041, 2042]),
  (8, 309, 0, 56, [752, 753, 754]),
  (8, 312, 0, 309, [2044, 2045, 2046]),
  (8, 313, 0, 154, [756, 757, 758]),
  (8, 316, 0, 310, [2048, 2049, 2050]),
  (8, 317, 0, 177, [760, 761, 762]),
  (8, 320, 0, 311, [2052, 2053, 2054]),
  (8, 321, 7, 312, [1404, 1405]),
  (8, 324, 0, 313, [2056, 2057, 2058]),
  (8, 325, 7, 189, [1428, 1429]),
  (8, 327, 0, 314, [2060, 2061, 2062]),
  (8, 328, 0, 123, [764, 765, 766])]
def lnkA_14 : List (Nat × Nat × Nat × Nat × List Nat) := [(8, 331, 0, 315, [2064, 2065, 2066]),
  (8, 332, 7, 196, [1435, 1436]),
  (8, 334, 0, 318, [2068, 2069, 2070]),
  (8, 335, 7, 195, [1444, 1445]),
  (8, 337, 0, 320, [2080, 2081, 2082]),
  (8, 338, 0, 89, [813, 814, 815]),
  (8, 341, 0, 321, [2090, 2091, 2092]),
  (8, 342, 7, 322, [1454, 1455]),
  (8, 344, 0, 323, [2094, 2095, 2096]),
  (8, 345, 7, 187, [1472, 1473]),
  (8, 347, 0, 324, [2098, 2099, 2100]),
  (8, 348, 7, 325, [1485, 1486]),
  (8, 350, 0, 334, [2102, 2103, 2104]),
  (8, 351, 7, 193, [1562, 1563]),
  (8, 353, 0, 335, [2138, 2139, 2140]),
  (8, 354, 7, 194, [1570, 1571]),
  (8, 356, 0, 336, [2142, 2143, 2144]),
  (8, 357, 0, 183, [1114, 1115, 1116]),
  (8, 360, 0, 337, [1675, 1676, 1677]),
  (8, 361, 7, 338, [1578, 1579]),
  (8, 363, 0, 339, [1679, 1680, 1681]),
  (8, 364, 0, 175, [1118, 1119, 1120]),
  (8, 367, 0, 340, [1694, 1695, 1696]),
  (8, 368, 7, 341, [1590, 1591])]
def lnkA_15 : List (Nat × Nat × Nat × Nat × List Nat) := [(8, 370, 0, 342, [1698, 1699, 1700])]
def lnkA : List (Nat × Nat × Nat × Nat × List Nat) := lnkA_0 ++ (lnkA_1 ++ (lnkA_2 ++ (lnkA_3 ++ (lnkA_4 ++ (lnkA_5 ++ (lnkA_6 ++ (lnkA_7 ++ (lnkA_8 ++ (lnkA_9 ++ (lnkA_10 ++ (lnkA_11 ++ (lnkA_12 ++ (lnkA_13 ++ (lnkA_14 ++ (lnkA_15)))))))))))))))
def metA_0 : List (Nat × Nat) := [(137, 90), (171, 91), (131, 89), (219, 92), (239, 93), (277, 94), (311, 95), (333, 96), (330, 97), (123, 88), (410, 88), (1241, 88), (437, 90), (1298, 88), (685, 90), (681, 90), (1319, 88), (677, 88), (407, 88), (1225, 88)]
def metA_1 : List (Nat × Nat) := [(445, 90), (1255, 88), (1251, 88), (1484, 93), (1478, 88), (429, 91), (433, 90), (425, 89), (421, 89), (651, 88), (413, 89), (417, 91), (453, 90), (449, 90), (441, 89), (404, 89), (456, 88), (571, 90), (578, 91), (567, 89)]
def metA_2 : List (Nat × Nat) := [(563, 92), (591, 91), (595, 91), (611, 90), (607, 90), (603, 90), (615, 89), (599, 89), (619, 89), (631, 90), (623, 89), (639, 90), (635, 89), (587, 89), (400, 88), (1146, 88), (755, 88), (664, 90), (660, 88), (1434, 88)]
def metA_3 : List (Nat × Nat) := [(743, 88), (643, 88), (1263, 88), (1312, 90), (1308, 88), (669, 88), (1160, 88), (751, 88), (739, 88), (1568, 88), (1560, 88), (1576, 88), (853, 115), (850, 96), (862, 116), (846, 96), (876, 96), (823, 96), (820, 97), (1098, 118)]
def metA_4 : List (Nat × Nat) := [(1095, 96), (1092, 97), (735, 88), (955, 112), (958, 112), (952, 96), (949, 97), (996, 96), (994, 97), (816, 88), (910, 98), (906, 98), (919, 96), (943, 98), (915, 96), (838, 96), (835, 97), (1450, 88), (1441, 88), (701, 90)]
def metA_5 : List (Nat × Nat) := [(697, 90), (693, 95), (716, 95), (712, 95), (708, 95), (689, 88), (728, 95), (724, 95), (720, 88), (1396, 90), (1391, 88), (1238, 88), (775, 94), (788, 94), (784, 94), (780, 94), (771, 88), (804, 94), (800, 94), (812, 94)]
def metA_6 : List (Nat × Nat) := [(808, 94), (796, 94), (792, 88), (767, 88), (1340, 88), (1384, 94), (1380, 88), (1337, 88), (1274, 90), (1270, 88), (1110, 117), (1107, 98), (1468, 96), (1465, 97), (1460, 88), (1366, 88), (1373, 88), (1330, 90), (1424, 88), (732, 88)]
def metA_7 : List (Nat × Nat) := [(747, 88), (1286, 90), (1282, 88), (673, 88), (1181, 88), (1215, 88), (1167, 88), (1356, 112), (1353, 94), (1349, 88), (656, 88), (1231, 90), (1222, 88), (396, 88), (759, 88), (1131, 88), (1208, 88), (647, 88), (1201, 88), (1177, 88)]
def metA_8 : List (Nat × Nat) := [(1596, 88), (1506, 93), (1526, 98), (1529, 118), (1522, 98), (1517, 93), (1503, 93), (1538, 93), (1547, 93), (1543, 93), (1551, 93), (1555, 93), (1499, 93), (1495, 93), (1491, 88), (1121, 88), (1153, 88), (763, 88), (1294, 88), (1326, 88)]
def metA_9 : List (Nat × Nat) := [(1403, 88), (1589, 92), (1584, 88), (1117, 88), (1139, 88), (1315, 87), (1247, 87), (1474, 87), (1142, 87), (1430, 87), (1259, 87), (1304, 87), (1156, 87), (1564, 87), (1572, 87), (1446, 87), (1437, 87), (1387, 87), (1234, 87), (1376, 87)]
def metA_10 : List (Nat × Nat) := [(1333, 87), (1266, 87), (1602, 100), (1125, 87), (1693, 100), (1709, 100), (1722, 100), (1719, 100), (1725, 100), (1716, 100), (1690, 100), (1713, 100), (1733, 100), (1729, 100), (1705, 100), (1674, 100), (1134, 87), (1745, 100), (1741, 100), (1737, 100)]
def metA_11 : List (Nat × Nat) := [(1773, 100), (1769, 100), (1765, 100), (1761, 100), (1757, 100), (1686, 100), (1781, 100), (1777, 100), (1753, 100), (1749, 100), (1789, 100), (1785, 100), (1149, 87), (1805, 100), (1813, 100), (1809, 100), (1801, 100), (1797, 100), (1793, 100), (1823, 100)]
def metA_12 : List (Nat × Nat) := [(1819, 100), (1163, 87), (1831, 100), (1827, 100), (1839, 100), (1835, 100), (1843, 100), (1170, 87), (1851, 100), (1847, 100), (1197, 87), (1855, 100), (1204, 87), (1859, 100), (1211, 87), (1863, 100), (1867, 100), (1871, 100), (1218, 87), (1879, 100)]
def metA_13 : List (Nat × Nat) := [(1875, 100), (1883, 100), (1891, 100), (1887, 100), (1895, 100), (1899, 100), (1278, 87), (1903, 100), (1290, 87), (1907, 100), (1923, 100), (1919, 100), (1915, 100), (1911, 100), (1927, 100), (1931, 100), (1935, 100), (1939, 100), (1943, 100), (1322, 87)]
def metA_14 : List (Nat × Nat) := [(1951, 100), (1947, 100), (1958, 100), (1962, 100), (1955, 100), (1345, 87), (1967, 100), (1362, 87), (1987, 100), (1983, 100), (1979, 100), (1975, 100), (1971, 100), (1369, 87), (1991, 100), (1995, 100), (2011, 100), (2007, 100), (2003, 100), (1999, 100)]
def metA_15 : List (Nat × Nat) := [(2015, 100), (2019, 100), (1399, 87), (2023, 100), (2027, 100), (2031, 100), (2035, 100), (2039, 100), (2043, 100), (2047, 100), (2051, 100), (2055, 100), (1406, 87), (2059, 100), (2063, 100), (2067, 100), (2075, 100), (2079, 100), (2071, 100), (2087, 100)]
def metA_16 : List (Nat × Nat) := [(2083, 100), (2093, 100), (1456, 87), (2097, 100), (2101, 100), (1487, 87), (2120, 100), (2117, 100), (2133, 100), (2129, 100), (2125, 100), (2113, 100), (2109, 100), (2137, 100), (2105, 100), (2141, 100), (2145, 100), (1678, 100), (1580, 87), (1682, 100)]
def metA_17 : List (Nat × Nat) := [(1697, 100), (1592, 87), (1701, 100)]
def newA : List (Nat × Nat × Nat × List Nat) := [(2, 9, 5, [133, 134, 90]), (2, 18, 1, [167, 168, 91]), (4, 9, 2, [221, 128, 89]), (0, 7, 2, [127, 128, 89]), (0, 22, 4, [215, 216, 92]), (0, 29, 7, [235, 236, 93]), (0, 36, 6, [273, 274, 94]), (0, 43, 3, [307, 308, 95]), (0, 50, 10, [326, 327, 97]), (8, 8, 8, [119, 120, 88]), (8, 146, 9, [1598, 1599, 100])]
def ldiA : List (Nat × Nat × Int × Nat) := [(16, 200, 2147483639, 855), (10, 39, 2147483647, 859), (11, 265, 1431655765, 1357), (11, 266, 858993459, 1358), (11, 267, 252645135, 1359)]
/-- the places of the words that tell how objects are laid -/
def layA : List (List Nat) := [[185, 187, 189, 191], [204, 206, 208, 210, 212], [317, 319, 321, 323], [228, 230, 232], [155, 157, 159, 161, 163], [288, 290, 292, 294, 296, 298, 300, 302, 304], [255, 257, 259, 261, 263, 265, 267, 269], [370, 372, 374, 376, 378, 380, 382, 384, 386, 388, 390], [1626, 1628, 1630, 1632, 1634, 1636, 1638, 1640, 1642, 1644, 1646, 1648, 1650, 1652, 1654, 1656, 1658, 1660, 1662, 1664, 1666, 1668], [349, 351, 353, 355]]
def stzA : List (Nat × Nat × Nat) := [(10, 18, 1), (11, 83, 102), (11, 87, 103), (12, 38, 1), (12, 1053, 101)]
def stfA : List (Nat × Nat × Nat) := [(12, 9, 705), (12, 15, 706)]
def stzH : List Nat := [335, 959, 961, 911, 889]
def stfH : List Nat := [1028, 1029]
def fixA : List Nat := [125, 126, 166, 272, 358, 2146, 2147, 574, 573, 107, 108, 582, 626, 703, 583, 627, 704]
def slsA : List (Nat × Nat × Nat) := [(0, 278, 10), (0, 286, 4), (0, 288, 6), (0, 290, 8), (7, 77, 12), (7, 79, 14), (7, 81, 16), (7, 83, 18), (7, 85, 20), (7, 87, 22), (7, 89, 24), (9, 222, 28), (9, 263, 26)]
def anwAH : List (Nat × Nat × Nat × Nat) := [(4, 9, 0, 221), (5, 15, 1, 139)]
def anwA : List (Nat × Nat × Nat) := [(4, 9, 0), (5, 15, 1)]
def oinAH : List (Nat × Nat × Nat × Nat) := [(0, 1, 0, 124), (1, 3, 0, 172), (2, 3, 0, 132), (3, 3, 0, 312), (4, 3, 0, 220), (5, 3, 0, 138), (6, 3, 0, 278), (7, 3, 0, 240), (9, 3, 0, 1603), (10, 3, 0, 334)]
def oinA : List (Nat × Nat × Nat) := [(0, 1, 0), (1, 3, 0), (2, 3, 0), (3, 3, 0), (4, 3, 0), (5, 3, 0), (6, 3, 0), (7, 3, 0), (9, 3, 0), (10, 3, 0)]
def mthAH : List (Nat × Nat × Nat × Nat) := [(1, 25, 0, 579), (2, 43, 0, 580), (2, 133, 1, 624), (2, 138, 2, 625), (4, 29, 1, 581), (5, 30, 0, 572), (5, 58, 3, 702), (7, 71, 2, 1534), (9, 141, 2, 1814), (9, 146, 1, 1815), (9, 191, 3, 1963), (10, 138, 1, 1469), (12, 212, 0, 944), (15, 150, 0, 871), (15, 304, 1, 870), (16, 194, 2, 854)]
def mthA : List (Nat × Nat × Nat) := [(1, 25, 0), (2, 43, 0), (2, 133, 1), (2, 138, 2), (4, 29, 1), (5, 30, 0), (5, 58, 3), (7, 71, 2), (9, 141, 2), (9, 146, 1), (9, 191, 3), (10, 138, 1), (12, 212, 0), (15, 150, 0), (15, 304, 1), (16, 194, 2)]
/-- throws: method, place, its class by number, the class entry, the text entry, is it wide, the constructor entry, which -/
def thrA : List (Nat × Nat × Nat × Nat × Nat × Nat × Nat × Nat) := [(11, 7, 0, 86, 351, 1, 90, 1), (13, 20, 0, 93, 358, 1, 97, 4), (19, 9, 0, 86, 343, 1, 90, 1), (21, 28, 0, 93, 353, 1, 97, 4), (24, 12, 0, 86, 297, 1, 90, 1), (24, 35, 0, 98, 301, 1, 102, 2), (36, 5, 0, 86, 88, 0, 90, 1), (36, 20, 0, 93, 95, 0, 97, 4), (36, 35, 0, 98, 100, 0, 102, 2), (59, 15, 0, 263, 265, 1, 267, 5), (64, 16, 0, 93, 181, 0, 97, 4), (69, 7, 0, 93, 330, 1, 97, 4), (71, 7, 0, 93, 332, 1, 97, 4), (124, 10, 0, 86, 345, 1, 90, 1), (129, 20, 0, 179, 181, 0, 183, 3), (134, 15, 0, 179, 292, 1, 183, 3), (138, 15, 0, 263, 265, 1, 267, 5), (142, 19, 0, 93, 188, 0, 97, 4), (144, 18, 0, 179, 360, 1, 183, 3), (160, 7, 0, 98, 341, 1, 102, 2), (174, 25, 0, 86, 309, 1, 90, 1), (174, 50, 0, 98, 314, 1, 102, 2), (182, 10, 0, 98, 335, 1, 102, 2)]
def fndThr : List (Nat × Nat × Nat × Nat × Nat × Nat × Nat × Nat) → Nat → Nat → Nat → Nat → Bool
  | [], _, _, _, _ => false
  | r :: l, y, pc, i, e => (Nat.beq r.1 y && Nat.beq r.2.1 pc && Nat.beq r.2.2.2.1 i && Nat.beq r.2.2.2.2.2.2.2 e) || fndThr l y pc i e
end
section
/-! CHECKS of the tables against the words, and of each method's rows against its bytes -/
def okAt (i : Nat) (w : Cond) : Bool := decide (TBL[i]? = some w) && goodWord w
def TTa (kd : Nat) : u_T := match kd with
  | 1 => TT1 | 2 => TT2 | 3 => TT3 | 4 => TT4 | 5 => TT5 | 6 => TT6 | 7 => TT7 | 8 => TT8 | 9 => TT9 | _ => TT10
def tta (kd : Nat) : Nat → FieldType := match kd with
  | 1 => tt1 | 2 => tt2 | 3 => tt3 | 4 => tt4 | 5 => tt5 | 6 => tt6 | 7 => tt7 | 8 => tt8 | 9 => tt9 | _ => tt10
def RRa (kd : Nat) : String := match kd with
  | 1 => RR1 | 2 => RR2 | 3 => RR3 | 4 => RR4 | 5 => RR5 | 6 => RR6 | 7 => RR7 | 8 => RR8 | 9 => RR9 | _ => RR10
def NNa (kd : Nat) : Nat := match kd with
  | 1 => 4 | 2 => 5 | 3 => 4 | 4 => 3 | 5 => 5 | 6 => 9 | 7 => 8 | 8 => 11 | 9 => 22 | _ => 4
def chkFld (r : Nat × Nat × Nat × Nat × Nat) : Bool := Nat.ble 1 r.2.2.1 && Nat.ble r.2.2.1 10 && Nat.blt r.2.2.2.1 (NNa r.2.2.1) && okAt r.2.2.2.2 (.fieldLink (cn r.1) r.2.1 (TTa r.2.2.1 r.2.2.2.1).1 (TTa r.2.2.1 r.2.2.2.1).2.1 (TTa r.2.2.1 r.2.2.2.1).2.2.1)
def chkNew (r : Nat × Nat × Nat × List Nat) : Bool := match r.2.2.2 with
  | [a, b, c] => Nat.ble 1 r.2.2.1 && Nat.ble r.2.2.1 10 && okAt a (.classLink (cn r.1) r.2.1 (RRa r.2.2.1)) && okAt b (.instantiable (RRa r.2.2.1) (NNa r.2.2.1)) && okAt c (.initialized (RRa r.2.2.1))
  | _ => false
def chkLdi (r : Nat × Nat × Int × Nat) : Bool := okAt r.2.2.2 (.constant (cn r.1) r.2.1 (Int32.ofInt r.2.2.1))
/-- a link: 0 virtual, 1 static, 2 a constructor, 3 and 4 a nest mate's constructor or static, 5 inherited, 6 by super, 7 a static with handlers -/
noncomputable def chkLnk (r : Nat × Nat × Nat × Nat × List Nat) : Bool := match r.2.2.1, r.2.2.2.2 with
  | 0, [a, b, c] => okAt a (.methodLink (cn r.1) r.2.1 (yn r.2.2.2.1)) && okAt b (.instanceMethod (yn r.2.2.2.1)) && okAt c (.selects (yn r.2.2.2.1).cls (yn r.2.2.2.1) (yn r.2.2.2.1)) && decide ((yn r.2.2.2.1).cls = (if rk r.2.2.2.1 = 11 then "java/lang/String" else RRa (rk r.2.2.2.1))) && Nat.ble 1 (rk r.2.2.2.1) && Nat.ble (rk r.2.2.2.1) 11 && List.isEmpty (hh r.2.2.2.1)
  | 1, [a, b] => okAt a (.methodLink (cn r.1) r.2.1 (yn r.2.2.2.1)) && okAt b (.static (yn r.2.2.2.1)) && Nat.beq (rk r.2.2.2.1) 0 && List.isEmpty (hh r.2.2.2.1)
  | 2, [a, b] => okAt a (.methodLink (cn r.1) r.2.1 (yn r.2.2.2.1)) && okAt b (.instanceMethod (yn r.2.2.2.1)) && decide ((yn r.2.2.2.1).name = "<init>") && Nat.ble 1 (rk r.2.2.2.1) && decide (yr r.2.2.2.1 = none) && List.isEmpty (hh r.2.2.2.1)
  | 3, [b] => okAt b (.instanceMethod (yn r.2.2.2.1)) && decide ((yn r.2.2.2.1).name = "<init>") && Nat.ble 1 (rk r.2.2.2.1) && decide (yr r.2.2.2.1 = none) && List.isEmpty (hh r.2.2.2.1)
  | 4, [b] => okAt b (.static (yn r.2.2.2.1)) && Nat.beq (rk r.2.2.2.1) 0 && List.isEmpty (hh r.2.2.2.1)
  | 5, [a, b, c, d] => okAt a (.methodLink (cn r.1) r.2.1 (yn r.2.2.2.1)) && okAt b (.sameMethod (yn r.2.2.2.1).cls (yn r.2.2.2.1).cls (yn r.2.2.2.1).name (yn r.2.2.2.1).desc) && okAt c (.selects RR10 (yn r.2.2.2.1) (yn r.2.2.2.1)) && okAt d (.instanceMethod (yn r.2.2.2.1)) && Nat.beq (rk r.2.2.2.1) 10 && List.isEmpty (hh r.2.2.2.1)
  | 6, [a, b, c, d] => okAt a (.methodLink (cn r.1) r.2.1 (yn r.2.2.2.1)) && okAt b (.sameMethod (yn r.2.2.2.1).cls (yn r.2.2.2.1).cls (yn r.2.2.2.1).name (yn r.2.2.2.1).desc) && okAt c (.superclass (cn r.1) (yn r.2.2.2.1).cls) && okAt d (.instanceMethod (yn r.2.2.2.1)) && Nat.beq (rk r.2.2.2.1) 10 && decide ((yn r.2.2.2.1).name ≠ "<init>") && List.isEmpty (hh r.2.2.2.1)
  | 7, [a, b] => okAt a (.methodLink (cn r.1) r.2.1 (yn r.2.2.2.1)) && okAt b (.static (yn r.2.2.2.1)) && Nat.beq (rk r.2.2.2.1) 0 && !(List.isEmpty (hh r.2.2.2.1))
  | _, _ => false
noncomputable def codeW (y : Nat) : Cond := if List.isEmpty (hh y) then .code (yn y) (yb y) (nl y) (yr y) else .codeWith (yn y) (yb y) (nl y) (yr y) (hh y)
/-- method y, by its row (places of its code word and of its class's 'initialized') -/
noncomputable def chkMet (y : Nat) (r : Nat × Nat) : Bool := okAt r.1 (codeW y) && okAt r.2 (.initialized (yn y).cls) && plainName (yn y).cls && decide ((yn y).cls ≠ "java/lang/invoke/MethodHandle") && decide ((yn y).cls ≠ "java/lang/invoke/VarHandle") && decide ((parseMethodDescriptor (yn y).desc).map (fun d => d.parameters.length) = some (np y)) && decide ((yn y).cls = cn (yo y)) && Nat.ble (nl y) 20
noncomputable def chkMets : Nat → List (Nat × Nat) → Bool
  | _, [] => true
  | y, r :: l => chkMet y r && chkMets (y + 1) l
end
section
/-! EACH ROW of the code against its bytes: the instruction decodes there, and the abstract one is its own -/
def fndFld : List (Nat × Nat × Nat × Nat × Nat) → Nat → Nat → Nat → Nat → Bool
  | [], _, _, _, _ => false
  | r :: l, o, i, kd, k => (Nat.beq r.1 o && Nat.beq r.2.1 i && Nat.beq r.2.2.1 kd && Nat.beq r.2.2.2.1 k) || fndFld l o i kd k
def fndLnk : List (Nat × Nat × Nat × Nat × List Nat) → Nat → Nat → Nat → Nat → Bool
  | [], _, _, _, _ => false
  | r :: l, o, i, kd, y => (Nat.beq r.1 o && Nat.beq r.2.1 i && Nat.beq r.2.2.1 kd && Nat.beq r.2.2.2.1 y) || fndLnk l o i kd y
def fndNew : List (Nat × Nat × Nat × List Nat) → Nat → Nat → Nat → Bool
  | [], _, _, _ => false
  | r :: l, o, i, kd => (Nat.beq r.1 o && Nat.beq r.2.1 i && Nat.beq r.2.2.1 kd) || fndNew l o i kd
def fndLdi : List (Nat × Nat × Int × Nat) → Nat → Nat → Int → Bool
  | [], _, _, _ => false
  | r :: l, o, i, v => (Nat.beq r.1 o && Nat.beq r.2.1 i && decide (r.2.2.1 = v)) || fndLdi l o i v
def fnd3 : List (Nat × Nat × Nat) → Nat → Nat → Nat → Bool
  | [], _, _, _ => false
  | r :: l, a, b, c => (Nat.beq r.1 a && Nat.beq r.2.1 b && Nat.beq r.2.2 c) || fnd3 l a b c
def rtc (t : Option FieldType) : Nat := match t with
  | none => 0
  | some .int => 1
  | some .boolean => 1
  | some .char => 1
  | some .byte => 1
  | some .double => 3
  | some .float => 4
  | some (.object _) => 2
  | some (.array _) => 2
  | _ => 9
/-- fields of String: 15 coder, 9 value; method ids of the law's class have number olaw -/
def jmp (pc : Nat) (off t : Int) : Bool := decide ((pc : Int) + off = t) && decide (0 ≤ t)
noncomputable def fty (kd k : Nat) : FieldType := tta kd k
def ftc (t : FieldType) : Nat := match t with
  | .int => 0
  | .boolean => 2
  | .byte => 6
  | .char => 4
  | .object _ => 1
  | .array _ => 1
  | _ => 99
def jmps : Nat → List Int → List Int → Bool
  | _, [], [] => true
  | pc, a :: l, b :: k => jmp pc a b && jmps pc l k
  | _, _, _ => false
/-- is op what orig does there: method y, place pc, next place nx -/
noncomputable def matchop (y pc nx : Nat) (orig op : Instr) : Bool := match op with
  | .iconst v => match orig with
    | .iconst w => decide (v = w) && Nat.beq nx (pc + 1)
    | .bipush w => decide (Int32.ofInt v = (Int8.ofInt w).toInt32) && Nat.beq nx (pc + 2)
    | .sipush w => decide (Int32.ofInt v = (Int16.ofInt w).toInt32) && Nat.beq nx (pc + 3)
    | .ldc i => fndLdi ldiA (yo y) i v && Nat.beq nx (pc + 2)
    | .ldc_w i => fndLdi ldiA (yo y) i v && Nat.beq nx (pc + 3)
    | .getstatic i => decide (v = 1) && fnd3 stzA (yo y) i 1 && Nat.beq nx (pc + 3)
    | _ => false
  | .lconst v => match orig with
    | .lconst w => decide (v = w) && Nat.beq nx (pc + 1)
    | _ => false
  | .fconst v => decide (orig = .fconst 0) && decide (v = 0) && Nat.beq nx (pc + 1)
  | .dconst v => decide (orig = .dconst 0) && decide (v = 0) && Nat.beq nx (pc + 1)
  | .iload k => match orig with
    | .iload_n n => Nat.beq n.val k && Nat.beq nx (pc + 1)
    | .iload n => Nat.beq n k && Nat.beq nx (pc + 2)
    | _ => false
  | .aload k => match orig with
    | .aload_n n => Nat.beq n.val k && Nat.beq nx (pc + 1)
    | .aload n => Nat.beq n k && Nat.beq nx (pc + 2)
    | _ => false
  | .fload k => match orig with
    | .fload_n n => Nat.beq n.val k && Nat.beq nx (pc + 1)
    | .fload n => Nat.beq n k && Nat.beq nx (pc + 2)
    | _ => false
  | .dload k => match orig with
    | .dload_n n => Nat.beq n.val k && Nat.beq nx (pc + 1)
    | .dload n => Nat.beq n k && Nat.beq nx (pc + 2)
    | _ => false
  | .istore k => Nat.blt k (nl y) && (match orig with
    | .istore_n n => Nat.beq n.val k && Nat.beq nx (pc + 1)
    | .istore n => Nat.beq n k && Nat.beq nx (pc + 2)
    | _ => false)
  | .astore k => Nat.blt k (nl y) && (match orig with
    | .astore_n n => Nat.beq n.val k && Nat.beq nx (pc + 1)
    | .astore n => Nat.beq n k && Nat.beq nx (pc + 2)
    | _ => false)
  | .fstore k => Nat.blt k (nl y) && (match orig with
    | .fstore_n n => Nat.beq n.val k && Nat.beq nx (pc + 1)
    | .fstore n => Nat.beq n k && Nat.beq nx (pc + 2)
    | _ => false)
  | .dstore k => Nat.blt (k + 1) (nl y) && (match orig with
    | .dstore_n n => Nat.beq n.val k && Nat.beq nx (pc + 1)
    | .dstore n => Nat.beq n k && Nat.beq nx (pc + 2)
    | _ => false)
  | .iinc k v => Nat.blt k (nl y) && decide (orig = .iinc k v) && Nat.beq nx (pc + 3)
  | .goto t => match orig with
    | .goto off => jmp pc off t && Nat.beq nx (pc + 3)
    | _ => false
  | .ifCond c t => Nat.beq nx (pc + 3) && (match orig with
    | .ifCond c' off => decide (c = c') && jmp pc off t
    | _ => false)
  | .if_icmp c t => Nat.beq nx (pc + 3) && (match orig with
    | .if_icmp c' off => decide (c = c') && jmp pc off t
    | _ => false)
  | .ifnonnull t => Nat.beq nx (pc + 3) && (match orig with
    | .ifnonnull off => jmp pc off t
    | _ => false)
  | .tableswitch d lo hi os => match orig with
    | .tableswitch d' lo' hi' os' => decide (lo = lo') && decide (hi = hi') && jmp pc d' d && jmps pc os'.toList os.toList && decide (hi - lo + 1 = os.toList.length) && decide (lo ≤ hi)
    | _ => false
  | .getfield n => Nat.beq nx (pc + 3) && (match orig with
    | .getfield i => (fndFld fldA (yo y) i (n / 64) (n / 2 % 32) && Nat.blt (n / 64) 11 && Nat.beq (ftc (fty (n / 64) (n / 2 % 32)) % 2) (n % 2)) || (fnd3 stfA (yo y) i n)
    | _ => false)
  | .putfield n => Nat.beq nx (pc + 3) && (match orig with
    | .putfield i => fndFld fldA (yo y) i (n / 64 % 16) (n / 2 % 32) && Nat.beq (ftc (fty (n / 64 % 16) (n / 2 % 32))) (n / 1024 * 2 + n % 2) && (!(TTa (n / 64 % 16) (n / 2 % 32)).2.2.2 || (decide ((yn y).name = "<init>") && decide ((TTa (n / 64 % 16) (n / 2 % 32)).1 = cn (yo y))))
    | _ => false)
  | .getstatic a => match orig with
    | .getstatic i => fnd3 stzA (yo y) i (a + 100) && Nat.beq nx (pc + 3)
    | .ldc i => fnd3 slsA (yo y) i a && Nat.beq nx (pc + 2)
    | .ldc_w i => fnd3 slsA (yo y) i a && Nat.beq nx (pc + 3)
    | _ => false
  | .new n => Nat.beq nx (pc + 3) && Nat.beq (n % 32) (NNa (n / 32)) && (match orig with
    | .new i => fndNew newA (yo y) i (n / 32)
    | _ => false)
  | .newarray t => decide (orig = .newarray t) && Nat.beq nx (pc + 2) && (match t with | .int => true | .char => true | .byte => true | .long => true | .double => true | _ => false)
  | .anewarray kd => Nat.beq kd 107 && Nat.beq nx (pc + 3) && (match orig with
    | .anewarray i => fnd3 anwA (yo y) i 0
    | _ => false)
  | .multianewarray _ _ => Nat.beq nx (pc + 4) && (match orig with
    | .multianewarray i d => Nat.beq d 2 && fnd3 anwA (yo y) i 1
    | _ => false)
  | .iaload => decide (orig = .iaload) && Nat.beq nx (pc + 1)
  | .saload => decide (orig = .iaload) && Nat.beq nx (pc + 1)
  | .baload => decide (orig = .baload) && Nat.beq nx (pc + 1)
  | .faload => decide (orig = .baload) && Nat.beq nx (pc + 1)
  | .invokeinterface y2 c => Nat.beq nx (pc + 3) && Nat.blt y2 343 && Nat.beq (c % 8) (rtc (yr y2)) && (match orig with
    | .invokevirtual i => (fndLnk lnkA (yo y) i 0 y2 || fndLnk lnkA (yo y) i 5 y2) && Nat.beq (c / 8) (np y2 + 1)
    | .invokestatic i => (fndLnk lnkA (yo y) i 1 y2 || fndLnk lnkA (yo y) i 4 y2 || fndLnk lnkA (yo y) i 7 y2) && Nat.beq (c / 8) (np y2)
    | .invokespecial i => (fndLnk lnkA (yo y) i 2 y2 || fndLnk lnkA (yo y) i 3 y2 || fndLnk lnkA (yo y) i 6 y2) && Nat.beq (c / 8) (np y2 + 1)
    | _ => false)
  | .invokespecial z => Nat.beq z 0 && Nat.beq nx (pc + 3) && (match orig with
    | .invokespecial i => fnd3 oinA (yo y) i 0
    | _ => false)
  | .invokestatic n => Nat.beq nx (pc + 3) && (match orig with
    | .invokestatic i => fnd3 mthA (yo y) i n
    | _ => false)
  | .invokedynamic e => List.isEmpty (hd y) && (match orig with
    | .new i => fndThr thrA y pc i e
    | _ => false)
  | .ireturn => decide (orig = .ireturn) && decide (yr y = some .int) && Nat.beq nx (pc + 1)
  | .ret t => decide (orig = .ireturn) && Nat.beq nx (pc + 1) && (match t with | 1 => decide (yr y = some .boolean) | 2 => decide (yr y = some .char) | 3 => decide (yr y = some .byte) | _ => false)
  | .areturn => decide (orig = .areturn) && Nat.beq (rtc (yr y)) 2 && Nat.beq nx (pc + 1)
  | .dreturn => decide (orig = .dreturn) && decide (yr y = some .double) && Nat.beq nx (pc + 1)
  | .freturn => decide (orig = .freturn) && decide (yr y = some .float) && Nat.beq nx (pc + 1)
  | .return_ => decide (orig = .return_) && decide (yr y = none) && Nat.beq nx (pc + 1)
  | .aload_n _ => false
  | .ldc _ => false
  | o => decide (orig = o) && Nat.beq nx (pc + 1)
noncomputable def chkRow (y : Nat) (r : Nat × Instr × Nat × Instr) : Bool := decide (decode (yb y) r.1 = .ok (r.2.1, r.2.2.1 - r.1)) && Nat.blt r.1 r.2.2.1 && matchop y r.1 r.2.2.1 r.2.1 r.2.2.2
end
section
/-! THE STATES: how a heap of the machine holds an abstract one -/
/-- the literals, as bytes -/
def litA : List (List Int32) := [[32, 99, 111, 110, 102, 105, 114, 109, 101, 100],
  [32, 100, 105, 115, 112, 117, 116, 101, 100, 32, 126],
  [32, 111, 112, 101, 110],
  [32, 64],
  [114, 101, 112, 111, 114, 116, 32],
  [116, 97, 107, 101, 32],
  [99, 108, 111, 115, 101],
  [114, 101, 106, 101, 99, 116],
  [115, 101, 116, 116, 108, 101, 32],
  [100, 114, 111, 112, 32],
  [100, 97, 121, 115, 32],
  [114, 101, 112, 111, 114, 116, 32, 116, 97, 107, 101, 32, 99, 108, 111, 115, 101, 114, 101, 106, 101, 99, 116, 115, 101, 116, 116, 108, 101, 32, 100, 114, 111, 112, 32, 100, 97, 121, 115, 32],
  [32, 99, 111, 110, 102, 105, 114, 109, 101, 100, 32, 100, 105, 115, 112, 117, 116, 101, 100, 32, 126, 32, 111, 112, 101, 110]]
/-- class numbers and slots, the array classes, the base, where the old cells lie, the script's length and ints -/
abbrev Ctx : Type := va_G × (Nat → ClassId) × Nat × (Nat → Option Nat) × Nat × (Nat → Int32)
def xD (x : Ctx) : va_G := x.1
def xA (x : Ctx) : Nat → ClassId := x.2.1
def xB (x : Ctx) : Nat := x.2.2.1
def xC (x : Ctx) : Nat → Option Nat := x.2.2.2.1
def xL (x : Ctx) : Nat := x.2.2.2.2.1
def xS (x : Ctx) : Nat → Int32 := x.2.2.2.2.2
abbrev fr (x : Ctx) : Nat → Prop := fun q => xB x ≤ q
def fv (ad : Nat → Option Nat) (h : Hp) (a kd k : Nat) : Value := if ftc (tta kd k) % 2 = 1 then va_rf (ad (HR h a k)) else .int (HI h a k)
def cE (x : Ctx) (ad : Nat → Option Nat) (h : Hp) (a : Nat) : va_E :=
  if HK h a < 50 then .inr (HK h a - 1, (List.range (NNa (HK h a))).map (fv ad h a (HK h a)))
  else if HK h a = 104 then .inl (xA x 104, HL h a, .inr (.inl (HJ h a)))
  else if HK h a = 105 then .inl (xA x 105, HL h a, .inr (.inr (.inr (.inl (HD h a)))))
  else if 106 ≤ HK h a then .inl (xA x (HK h a), HL h a, .inr (.inr (.inr (.inr (fun k => ad (HR h a k))))))
  else .inl (xA x (HK h a), HL h a, .inl (HI h a))
def wl (x : Ctx) (ad : Nat → Option Nat) (h : Hp) : va_W := (List.range (HN h - 31)).map (fun i => ((ad (31 + i)).getD 0, cE x ad h (31 + i)))
theorem wl_get {x : Ctx} {ad : Nat → Option Nat} {h : Hp} {i : Nat} : (wl x ad h)[i]? = if i < HN h - 31 then some ((ad (31 + i)).getD 0, cE x ad h (31 + i)) else none := by
  unfold wl
  rw [List.getElem?_map]
  by_cases hi : i < HN h - 31
  · rw [List.getElem?_range hi, if_pos hi]
    rfl
  · rw [if_neg hi, List.getElem?_eq_none (by simpa using hi)]
    rfl
theorem wl_at {x : Ctx} {ad : Nat → Option Nat} {h : Hp} {a q : Nat} (h1 : 31 ≤ a) (h2 : a < HN h) (hq : ad a = some q) : (wl x ad h)[a - 31]? = some (q, cE x ad h a) := by
  rw [wl_get, if_pos (by omega), show 31 + (a - 31) = a by omega, hq]
  rfl
theorem wl_set {x : Ctx} {ad : Nat → Option Nat} {h h' : Hp} {a q : Nat} {e : va_E} (h1 : 31 ≤ a) (h2 : a < HN h) (hq : ad a = some q) (hn : HN h' = HN h) (he : cE x ad h' a = e) (ho : ∀ b, b ≠ a → cE x ad h' b = cE x ad h b) : (wl x ad h).set (a - 31) (q, e) = wl x ad h' := by
  apply List.ext_getElem?
  intro i
  rw [List.getElem?_set, wl_get, wl_get, hn]
  by_cases hi : a - 31 = i
  · subst hi
    have hl : a - 31 < (wl x ad h).length := by unfold wl; simp; omega
    rw [if_pos rfl, if_pos hl, if_pos (by omega), show 31 + (a - 31) = a by omega, hq, he]
    rfl
  · rw [if_neg hi]
    by_cases h3 : i < HN h - 31
    · rw [if_pos h3, if_pos h3, ho (31 + i) (by omega)]
    · rw [if_neg h3, if_neg h3]
theorem wl_push {x : Ctx} {ad ad' : Nat → Option Nat} {h h' : Hp} {q : Nat} {e : va_E} (h31 : 31 ≤ HN h) (hn : HN h' = HN h + 1) (hq : ad' (HN h) = some q) (he : cE x ad' h' (HN h) = e) (ho : ∀ b, b < HN h → ad' b = ad b ∧ cE x ad' h' b = cE x ad h b) : wl x ad h ++ [(q, e)] = wl x ad' h' := by
  unfold wl
  rw [hn, show HN h + 1 - 31 = (HN h - 31) + 1 by omega, List.range_succ, List.map_append]
  congr 1
  · apply List.map_congr_left
    intro i hi
    have := List.mem_range.mp hi
    rw [(ho (31 + i) (by omega)).1, (ho (31 + i) (by omega)).2]
  · simp only [List.map_cons, List.map_nil]
    rw [show 31 + (HN h - 31) = HN h by omega, hq, he]
    rfl
/-- the old cells: 0 null, 1 nobody looks at, 2 and 3 the digits, literals with their bytes, the script -/
def kcT (L : Nat) (a : Nat) : Nat × Nat := if a < 2 then (0, 0) else if a < 4 then (203, 100) else if a < 30 then (if a % 2 = 0 then (11, 4) else (203, (litA.getD ((a - 5) / 2) []).length)) else (200, L)
def icT (xs : Nat → Int32) (a k : Nat) : Int32 := if a < 2 then 0 else if a = 2 then nI (48 + k % 10) else if a = 3 then nI (48 + k / 10) else if a < 30 then (if a % 2 = 0 then 0 else (litA.getD ((a - 5) / 2) []).getD k 0) else xs k
def rcT (a k : Nat) : Nat := if a < 4 then 0 else if a < 30 then (if a % 2 = 0 ∧ k = 0 then a + 1 else 0) else 0
def CN (x : Ctx) (h : Hp) : Prop := ∀ a, a < 31 → h.2.1 a = kcT (xL x) a ∧ (∀ k, HI h a k = icT (xS x) a k) ∧ ∀ k, HR h a k = rcT a k
def KOK (k : Nat) : Prop := (1 ≤ k ∧ k ≤ 10) ∨ k = 100 ∨ k = 101 ∨ k = 102 ∨ k = 104 ∨ k = 105 ∨ k = 106 ∨ k = 107
def St (x : Ctx) (ad : Nat → Option Nat) (h : Hp) (H : Heap) : Prop := va_P (xD x) clL (wl x ad h) H ∧ va_D (fr x) (wl x ad h) ∧ 31 ≤ HN h ∧ CN x h ∧ (∀ a, a < 31 → ad a = xC x a) ∧ (∀ a, HN h ≤ a → HK h a = 0) ∧ (∀ a k, HR h a k < HN h) ∧ ∀ a, 31 ≤ a → a < HN h → KOK (HK h a) ∧ ∃ q, ad a = some q
theorem kcT_no {L a : Nat} : ¬ KOK (kcT L a).1 := by
  unfold kcT KOK
  repeat' split
  all_goals (simp; try omega)
/-- a cell of a kind that can be made lies among the new ones -/
theorem St.new {x : Ctx} {ad : Nat → Option Nat} {h : Hp} {H : Heap} (S : St x ad h H) {a : Nat} (hk : KOK (HK h a)) : 31 ≤ a ∧ a < HN h ∧ ∃ q, ad a = some q ∧ (wl x ad h)[a - 31]? = some (q, cE x ad h a) := by
  obtain ⟨-, -, h31, hc, -, hz, -, hok⟩ := S
  have h1 : 31 ≤ a := by
    rcases Nat.lt_or_ge a 31 with q | q
    · exact absurd (by rw [← (hc a q).1]; exact hk) (kcT_no (L := xL x) (a := a))
    · exact q
  have h2 : a < HN h := by
    rcases Nat.lt_or_ge a (HN h) with q | q
    · exact q
    · rw [hz a q] at hk
      unfold KOK at hk
      omega
  obtain ⟨-, q, hq⟩ := hok a h1 h2
  exact ⟨h1, h2, q, hq, wl_at h1 h2 hq⟩
/-- values: a reference lies below the mark, and stands for its address -/
def VR (ad : Nat → Option Nat) (n : Nat) (v w : Value) : Prop := match v with
  | .ref a => a < n ∧ w = va_rf (ad a)
  | .null => False
  | v => w = v
/-- two maps agree on what was there -/
def Ext (ad ad' : Nat → Option Nat) (n : Nat) : Prop := ∀ a, a < n → ad' a = ad a
theorem VR.ext {ad ad' : Nat → Option Nat} {n n' : Nat} {v w : Value} (h : VR ad n v w) (hx : Ext ad ad' n) (hn : n ≤ n') : VR ad' n' v w := by
  cases v with
  | ref a => exact ⟨Nat.lt_of_lt_of_le h.1 hn, by rw [hx a h.1]; exact h.2⟩
  | _ => exact h
theorem VR.cat {ad : Nat → Option Nat} {n : Nat} {v w : Value} (h : VR ad n v w) : w.category = v.category := by
  cases v with
  | ref a =>
    obtain ⟨-, rfl⟩ := h
    cases ad a <;> rfl
  | null => exact h.elim
  | _ => cases h; rfl
def SK (ad : Nat → Option Nat) (n : Nat) : List Value → List Value → Prop
  | [], ws => ws = []
  | v :: l, ws => ∃ w ws', ws = w :: ws' ∧ VR ad n v w ∧ SK ad n l ws'
theorem SK.ext {ad ad' : Nat → Option Nat} {n n' : Nat} (hx : Ext ad ad' n) (hn : n ≤ n') : ∀ {st ws : List Value}, SK ad n st ws → SK ad' n' st ws
  | [], _, h => h
  | _ :: _, _, h => by
    obtain ⟨w, ws', e, h1, h2⟩ := h
    exact ⟨w, ws', e, h1.ext hx hn, SK.ext hx hn h2⟩
theorem SK.wgt {ad : Nat → Option Nat} {n : Nat} : ∀ {st ws : List Value}, SK ad n st ws → (ws.map fun v => v.category).sum = wgt st
  | [], _, h => by cases h; rfl
  | v :: l, _, h => by
    obtain ⟨w, ws', rfl, h1, h2⟩ := h
    simp only [List.map_cons, List.sum_cons, Jvm.Pilot.CRecordReconcilerLaw_law_r2438_fdb3ae.wgt, h1.cat, SK.wgt h2]
/-- the locals -/
def dsl (y : Nat) : List Nat := if y = 343 then [7] else []
def okl (y k : Nat) (v : Value) : Prop := match v with
  | .double _ => mem' (dsl y) k = true
  | .long _ => False
  | _ => True
def LH (ad : Nat → Option Nat) (n y nL : Nat) (ls : List Value) (rls : Array Slot) : Prop := rls.size = nL ∧ lv_wf rls ∧ ∀ k, okl y k (gl ls k) ∧ (gl ls k = .null ∨ ∃ w, VR ad n (gl ls k) w ∧ rls[k]? = some (.val w))
theorem LH.ext {ad ad' : Nat → Option Nat} {n n' y nL : Nat} {ls : List Value} {rls : Array Slot} (h : LH ad n y nL ls rls) (hx : Ext ad ad' n) (hn : n ≤ n') : LH ad' n' y nL ls rls := by
  refine ⟨h.1, h.2.1, fun k => ⟨(h.2.2 k).1, ?_⟩⟩
  rcases (h.2.2 k).2 with e | ⟨w, h1, h2⟩
  · exact Or.inl e
  · exact Or.inr ⟨w, h1.ext hx hn, h2⟩
theorem gl_sl : ∀ (l : List Value) (i k : Nat) (v : Value), gl (sl l i v) k = if k = i ∧ i < l.length then v else gl l k
  | [], i, k, v => by simp [sl, gl]
  | a :: l, 0, 0, v => by simp [sl, gl]
  | a :: l, 0, k + 1, v => by simp [sl, gl]
  | a :: l, i + 1, 0, v => by simp [sl, gl]
  | a :: l, i + 1, k + 1, v => by
    simp only [sl, gl, gl_sl l i k v, List.length_cons]
    by_cases h : k = i ∧ i < l.length
    · rw [if_pos h, if_pos ⟨by omega, by omega⟩]
    · rw [if_neg h, if_neg (by omega)]
def lvl (rls : Array Slot) : List (Nat × Value) := (List.range rls.size).filterMap (fun k => match (rls[k]? : Option Slot) with
  | some (Slot.val w) => some (k, w)
  | _ => none)
theorem lvl_mem {rls : Array Slot} {k : Nat} {w : Value} : (k, w) ∈ lvl rls ↔ rls[k]? = some (.val w) := by
  unfold lvl
  rw [List.mem_filterMap]
  constructor
  · rintro ⟨i, -, hi⟩
    split at hi
    · rename_i w' he
      cases hi
      exact he
    · cases hi
  · intro h
    refine ⟨k, List.mem_range.mpr (lv_lt h), ?_⟩
    rw [h]
theorem LH.has {ad : Nat → Option Nat} {n y nL : Nat} {ls : List Value} {rls : Array Slot} (h : LH ad n y nL ls rls) : lv_has rls nL (lvl rls) := ⟨h.1, h.2.1, fun q hq => lvl_mem.mp hq⟩
/-- a value of one slot is stored -/
theorem LH.put {ad : Nat → Option Nat} {n y nL i : Nat} {ls : List Value} {rls rls' : Array Slot} {v w : Value} (h : LH ad n y nL ls rls) (hv : VR ad n v w) (hc : v.category = 1) (hd : mem' ((dsl y).map (· + 1)) i = false)
    (h' : lv_has rls' nL ((i, w) :: (lvl rls).filter (fun q => !(q.1 == i) && !(q.1 + 1 == i && q.2.category == 2)))) : LH ad n y nL (sl ls i v) rls' := by
  refine ⟨h'.1, h'.2.1, fun k => ?_⟩
  rw [gl_sl]
  by_cases hk : k = i ∧ i < ls.length
  · rw [if_pos hk, hk.1]
    refine ⟨?_, Or.inr ⟨w, hv, h'.2.2 (i, w) List.mem_cons_self⟩⟩
    cases v <;> first | trivial | (simp [Value.category] at hc)
  · rw [if_neg hk]
    refine ⟨(h.2.2 k).1, ?_⟩
    rcases (h.2.2 k).2 with e | ⟨w1, h1, h2⟩
    · exact Or.inl e
    · by_cases hki : k = i
      · exact Or.inl (by
          have hl : ¬ i < ls.length := fun z => hk ⟨hki, z⟩
          have : ∀ (l : List Value) (j : Nat), ¬ j < l.length → gl l j = .null := by
            intro l
            induction l with
            | nil => intro j _; rfl
            | cons a l ih =>
              intro j hj
              cases j with
              | zero => simp at hj
              | succ j => exact ih j (by simpa using hj)
          rw [hki]
          exact this ls i hl)
      · refine Or.inr ⟨w1, h1, h'.2.2 (k, w1) (List.mem_cons_of_mem _ (List.mem_filter.mpr ⟨lvl_mem.mpr h2, ?_⟩))⟩
        have hcat := h1.cat
        have hok := (h.2.2 k).1
        have : ¬ (k + 1 = i ∧ w1.category = 2) := by
          rintro ⟨e1, e2⟩
          rw [hcat] at e2
          have hm : ∀ (l : List Nat), mem' l k = true → mem' (l.map (· + 1)) (k + 1) = true := by
            intro l
            induction l with
            | nil => intro z; cases z
            | cons a l ih =>
              intro z
              simp only [mem', List.map_cons] at z ⊢
              cases hb : Nat.beq a k with
              | true =>
                have : a = k := Nat.eq_of_beq_eq_true hb
                subst this
                simp
              | false =>
                rw [hb] at z
                have hb2 : Nat.beq (a + 1) (k + 1) = false := by
                  rw [← Bool.not_eq_true] at hb ⊢
                  intro z2
                  exact hb (by have := Nat.eq_of_beq_eq_true z2; have : a = k := by omega
                               subst this; simp)
                rw [hb2]
                exact ih z
          cases hg : gl ls k with
          | double d =>
            rw [hg] at hok
            have := hm _ hok
            rw [e1, hd] at this
            cases this
          | long d => rw [hg] at hok; exact hok
          | _ => rw [hg] at e2; simp [Value.category] at e2
        simp only [Bool.and_eq_true, Bool.not_eq_true', beq_eq_false_iff_ne, ne_eq, Bool.and_eq_false_iff]
        refine ⟨hki, ?_⟩
        by_cases e1 : k + 1 = i
        · exact Or.inr (fun z => this ⟨e1, z⟩)
        · exact Or.inl e1
end
section
/-! THE HEAP'S ROWS: an instruction on cells, over the states -/
def TW : List Cond := TBL.filter goodWord
theorem tw_of {i : Nat} {w : Cond} (h : okAt i w = true) : w ∈ TW := by
  simp only [okAt, Bool.and_eq_true, decide_eq_true_eq] at h
  exact List.mem_filter.mpr ⟨List.mem_of_getElem? h.1, h.2⟩
def chkLay : Nat → List (List Nat) → Bool
  | _, [] => true
  | kd, hs :: l => (List.range (NNa kd)).all (fun k => match hs[k]? with
    | some i => okAt i (u_lay (RRa kd) (TTa kd) k)
    | none => false) && chkLay (kd + 1) l
/-- the tables' checks, done in a later part -/
def TOK : Prop := fldA.all chkFld = true ∧ newA.all chkNew = true ∧ ldiA.all chkLdi = true ∧ (∀ r ∈ lnkA, chkLnk r = true) ∧ (∀ y : Nat, y < 343 → ∃ r, chkMet y r = true) ∧ chkLay 1 layA = true
theorem chkLay_at {kd : Nat} : ∀ {l : List (List Nat)} {k0 : Nat}, chkLay k0 l = true → k0 ≤ kd → kd < k0 + l.length → ∀ w ∈ u_ws (RRa kd) (TTa kd) (NNa kd), w ∈ TW
  | [], k0, _, h1, h2 => absurd h2 (by simp; omega)
  | hs :: l, k0, h, h1, h2 => by
    simp only [chkLay, Bool.and_eq_true] at h
    rcases Nat.eq_or_lt_of_le h1 with e | e
    · subst e
      intro w hw
      obtain ⟨k, hk, rfl⟩ := List.mem_map.mp hw
      have h3 := List.all_eq_true.mp h.1 k hk
      cases hi : hs[k]? with
      | none => rw [hi] at h3; cases h3
      | some i => rw [hi] at h3; exact tw_of h3
    · exact chkLay_at h.2 e (by simp only [List.length_cons] at h2; omega)
theorem lay_in (hT : TOK) {kd : Nat} (h1 : 1 ≤ kd) (h2 : kd ≤ 10) : ∀ w ∈ u_ws (RRa kd) (TTa kd) (NNa kd), w ∈ TW := chkLay_at hT.2.2.2.2.2 h1 (by show kd < 1 + 10; omega)
theorem kd_cases {P : Nat → Prop} (h1 : P 1) (h2 : P 2) (h3 : P 3) (h4 : P 4) (h5 : P 5) (h6 : P 6) (h7 : P 7) (h8 : P 8) (h9 : P 9) (h10 : P 10) {kd : Nat} (a : 1 ≤ kd) (b : kd ≤ 10) : P kd := by
  rcases (show kd = 1 ∨ kd = 2 ∨ kd = 3 ∨ kd = 4 ∨ kd = 5 ∨ kd = 6 ∨ kd = 7 ∨ kd = 8 ∨ kd = 9 ∨ kd = 10 by omega) with rfl | rfl | rfl | rfl | rfl | rfl | rfl | rfl | rfl | rfl <;> assumption
theorem clL_at {kd : Nat} (a : 1 ≤ kd) (b : kd ≤ 10) : clL[kd - 1]? = some (RRa kd, TTa kd, NNa kd) := kd_cases (P := fun kd => clL[kd - 1]? = some (RRa kd, TTa kd, NNa kd)) rfl rfl rfl rfl rfl rfl rfl rfl rfl rfl a b
theorem nn_at {kd : Nat} (a : 1 ≤ kd) (b : kd ≤ 10) : ∀ a, a < NNa kd → ∀ b, b < NNa kd → a ≠ b → (TTa kd a).2.1 ≠ (TTa kd b).2.1 := kd_cases (P := fun kd => ∀ a, a < NNa kd → ∀ b, b < NNa kd → a ≠ b → (TTa kd a).2.1 ≠ (TTa kd b).2.1) nn1 nn2 nn3 nn4 nn5 nn6 nn7 nn8 nn9 nn10 a b
theorem tt_at {kd : Nat} (a : 1 ≤ kd) (b : kd ≤ 10) : ∀ k, k < NNa kd → parseFieldDescriptor (TTa kd k).2.2.1 = some (tta kd k) := kd_cases (P := fun kd => ∀ k, k < NNa kd → parseFieldDescriptor (TTa kd k).2.2.1 = some (tta kd k)) tt1_ok tt2_ok tt3_ok tt4_ok tt5_ok tt6_ok tt7_ok tt8_ok tt9_ok tt10_ok a b
theorem ftc_at : ∀ kd, kd ≤ 10 → ∀ k, k < 23 → (ftc (tta kd k) = 0 ∨ ftc (tta kd k) = 1 ∨ ftc (tta kd k) = 2 ∨ ftc (tta kd k) = 6) := by decide +kernel
theorem nna_at : ∀ kd, kd ≤ 10 → NNa kd ≤ 22 := by decide +kernel
theorem fndFld_in {o i kd k : Nat} : ∀ {l : List (Nat × Nat × Nat × Nat × Nat)}, fndFld l o i kd k = true → ∃ r ∈ l, r.1 = o ∧ r.2.1 = i ∧ r.2.2.1 = kd ∧ r.2.2.2.1 = k
  | [], h => by cases h
  | r :: l, h => by
    simp only [fndFld, Bool.or_eq_true, Bool.and_eq_true] at h
    rcases h with h | h
    · exact ⟨r, List.mem_cons_self, Nat.eq_of_beq_eq_true h.1.1.1, Nat.eq_of_beq_eq_true h.1.1.2, Nat.eq_of_beq_eq_true h.1.2, Nat.eq_of_beq_eq_true h.2⟩
    · obtain ⟨r', h1, h2⟩ := fndFld_in h
      exact ⟨r', List.mem_cons_of_mem _ h1, h2⟩
theorem fld_at (hT : TOK) {o i kd k : Nat} (h : fndFld fldA o i kd k = true) : 1 ≤ kd ∧ kd ≤ 10 ∧ k < NNa kd ∧ Cond.fieldLink (cn o) i (TTa kd k).1 (TTa kd k).2.1 (TTa kd k).2.2.1 ∈ TW := by
  obtain ⟨r, hr, rfl, rfl, rfl, rfl⟩ := fndFld_in h
  have h1 := List.all_eq_true.mp hT.1 r hr
  simp only [chkFld, Bool.and_eq_true] at h1
  obtain ⟨⟨⟨a, b⟩, c⟩, d⟩ := h1
  exact ⟨Nat.le_of_ble_eq_true a, Nat.le_of_ble_eq_true b, (by have := Nat.le_of_ble_eq_true c; omega), tw_of d⟩
theorem va_rf_isR (r : Option Nat) (ty : FieldType) (h : ftc ty = 1) : narrow ty (va_rf r) = va_rf r ∧ fits ty (va_rf r) = true := by
  cases ty <;> simp [ftc] at h <;> cases r <;> exact ⟨rfl, rfl⟩
theorem fit3 {x : Int32} (h : fitc 3 x = true) : x.toInt8.toInt32 = x ∧ narrow .byte (.int x) = .int x ∧ fits .byte (.int x) = true := by
  simp only [fitc, Bool.and_eq_true, decide_eq_true_eq] at h
  have e1 := Int32.le_iff_toInt_le.mp h.1
  have e2 := Int32.le_iff_toInt_le.mp h.2
  have e3 : (127 : Int32).toInt = 127 := by decide
  have e4 : (-128 : Int32).toInt = -128 := by decide
  have e : x.toInt8.toInt32 = x := fb_byte (by omega) (by omega)
  refine ⟨e, ?_, ?_⟩
  · show Value.int x.toInt8.toInt32 = _
    rw [e]
  · simp [fits, h.1, h.2]
theorem fit2 {x : Int32} (h : fitc 2 x = true) : vp_nar .char x = x ∧ narrow .char (.int x) = .int x ∧ fits .char (.int x) = true := by
  simp only [fitc, Bool.and_eq_true, decide_eq_true_eq] at h
  obtain ⟨j, hj, rfl⟩ := nI_of2 (M := 65535) (n := 65535) (by decide) (Int32.not_lt.mpr h.1) h.2
  have h9 := pk_charN (q := j) (by omega)
  refine ⟨?_, h9⟩
  unfold vp_nar
  rw [h9.1]
theorem fit_int {t : Nat} {x : Int32} {ty : FieldType} (h : ftc ty = t * 2) (hf : fitc t x = true) : narrow ty (.int x) = .int x ∧ fits ty (.int x) = true := by
  have hb : ∀ x : Int32, (decide (x = 0) || decide (x = 1)) = true → narrow .boolean (.int x) = .int x ∧ fits .boolean (.int x) = true := by
    intro x hx
    simp only [Bool.or_eq_true, decide_eq_true_eq] at hx
    rcases hx with rfl | rfl <;> decide
  cases ty with
  | int => exact ⟨rfl, rfl⟩
  | boolean =>
    obtain rfl : t = 1 := by simp only [ftc] at h; omega
    exact hb x hf
  | byte =>
    obtain rfl : t = 3 := by simp only [ftc] at h; omega
    exact (fit3 hf).2
  | char =>
    obtain rfl : t = 2 := by simp only [ftc] at h; omega
    exact (fit2 hf).2
  | _ => simp only [ftc] at h; omega
section ROWS
variable {p : Program} {l : Launch} {e : Env} {R : Room} {s : State} {m : MethodId} {args : Array Value} {below : List Frame} {meth : Method} {c : Code} {H : Heap} {locs : List Loc} {cells slots : Nat} {Q : State → Prop}
variable {x : Ctx} {ad : Nat → Option Nat} {h : Hp} {y pc : Nat} {rls : Array Slot} {rest : List Value}
def tysL (x : Ctx) : List (ClassId × FieldType) := [(xA x 100, .int), (xA x 101, .char), (xA x 102, .byte), (xA x 104, .long), (xA x 105, .double), (xA x 106, .array .int), (xA x 107, .object "RecordReconciler$Book")]
/-- where a method's walk stands: the machine, its code, its class, the words -/
def FX (p : Program) (m : MethodId) (c : Code) (meth : Method) (s : State) (args : Array Value) (y : Nat) : Prop := p.tables.exec = Jvm.exec ∧ c.code = yb y ∧ c.maxLocals = nl y ∧ s.vm.findClass (cn (yo y)) = some m.cls ∧ (∀ w ∈ TW, w.before args s = true) ∧ meth.name = (yn y).name
theorem St.at (S : St x ad h H) {a : Nat} (hk : KOK (HK h a)) : ∃ q, ad a = some q ∧ 31 ≤ a ∧ a < HN h ∧ (wl x ad h)[a - 31]? = some (q, cE x ad h a) := by
  obtain ⟨h1, h2, q, h3, h4⟩ := S.new hk
  exact ⟨q, h3, h1, h2, h4⟩
theorem cE_obj {kd a : Nat} (h2 : kd ≤ 10) (hk : HK h a = kd) : cE x ad h a = .inr (kd - 1, (List.range (NNa kd)).map (fv ad h a kd)) := by
  unfold cE
  rw [hk, if_pos (by omega)]
theorem fs_at {kd a k : Nat} (hk : k < NNa kd) : ((List.range (NNa kd)).map (fv ad h a kd))[k]? = some (fv ad h a kd k) := by
  rw [List.getElem?_map, List.getElem?_range hk]
  rfl
theorem m_get (hT : TOK) (F : FX p m c meth s args y) (hK : va_K (xD x) clL (tysL x) s) (S : St x ad h H) {i kd k a : Nat} (hf : fndFld fldA (yo y) i kd k = true) (hk : HK h a = kd) (hd : decode (yb y) pc = .ok (.getfield i, 3))
    (kk : W p l e R s m args below meth c H locs cells slots Q (F0 m (pc + 3) rls (fv ad h a kd k :: rest))) : W p l e R s m args below meth c H locs cells slots Q (F0 m pc rls (va_rf (ad a) :: rest)) := by
  obtain ⟨h1, h2, h3, h4⟩ := fld_at hT hf
  obtain ⟨q, hq, g1, g2, g3⟩ := S.at (a := a) (by rw [hk]; exact Or.inl ⟨h1, h2⟩)
  rw [cE_obj h2 hk] at g3
  obtain ⟨fx, fb, -, fo, ft, -⟩ := F
  rw [hq]
  exact va_get (D := xD x) (ci := kd - 1) (C := RRa kd) (T := TTa kd) (N := NNa kd) fx fb ft (lay_in hT h1 h2) fo hK S.1 (a - 31) g3 (clL_at h1 h2) k h3 (ft _ h4) (fun _ h9 => h9) (fs_at h3) hd kk
/-- a write into a cell that leaves the world's other cells -/
theorem St.wr (S : St x ad h H) {H1 : Heap} {h' : Hp} {a q : Nat} {ee : va_E} (g1 : 31 ≤ a) (g2 : a < HN h) (hq : ad a = some q) (he : cE x ad h' a = ee) (ho : ∀ b, b ≠ a → cE x ad h' b = cE x ad h b) (hs : h'.1 = h.1) (hs2 : h'.2.1 = h.2.1)
    (hI : ∀ b, b ≠ a → ∀ k, HI h' b k = HI h b k) (hR : ∀ b k, HR h' b k = HR h b k ∨ HR h' b k < HN h) (hR2 : ∀ b, b ≠ a → ∀ k, HR h' b k = HR h b k)
    (P : va_P (xD x) clL ((wl x ad h).set (a - 31) (q, ee)) H1) (Dd : va_D (fr x) ((wl x ad h).set (a - 31) (q, ee))) : St x ad h' H1 := by
  obtain ⟨-, -, s3, s4, s5, s6, s7, s8⟩ := S
  have hn : HN h' = HN h := by unfold HN; rw [hs]
  have hk : ∀ b, HK h' b = HK h b := fun b => by unfold HK; rw [hs2]
  rw [wl_set g1 g2 hq hn he ho] at P Dd
  refine ⟨P, Dd, by omega, fun b hb => ?_, s5, fun b hb => by rw [hk]; exact s6 b (by omega), fun b k => ?_, fun b h1 h2 => ?_⟩
  · obtain ⟨c1, c2, c3⟩ := s4 b hb
    exact ⟨by rw [hs2]; exact c1, fun k => by rw [hI b (by omega) k]; exact c2 k, fun k => by rw [hR2 b (by omega) k]; exact c3 k⟩
  · rcases hR b k with z | z
    · rw [z, hn]; exact s7 b k
    · rw [hn]; exact z
  · rw [hk]
    exact s8 b h1 (by omega)
theorem HI_sI {a k : Nat} {v : Int32} {b j : Nat} : HI (sI h a k v) b j = if b = a ∧ j = k then v else HI h b j := rfl
theorem HR_sR {a k : Nat} {v : Nat} {b j : Nat} : HR (sR h a k v) b j = if b = a ∧ j = k then v else HR h b j := rfl
theorem cE_sI {a k b : Nat} {v : Int32} (hb : b ≠ a) : cE x ad (sI h a k v) b = cE x ad h b := by
  have e : ∀ j, HI (sI h a k v) b j = HI h b j := fun j => by rw [HI_sI, if_neg (fun z => hb z.1)]
  have e2 : HI (sI h a k v) b = HI h b := funext e
  have e3 : fv ad (sI h a k v) b = fv ad h b := by
    funext kd j
    unfold fv
    rw [e]
    rfl
  unfold cE
  rw [e2, e3]
  rfl
theorem cE_sR {a k b : Nat} {v : Nat} (hb : b ≠ a) : cE x ad (sR h a k v) b = cE x ad h b := by
  have e : ∀ j, HR (sR h a k v) b j = HR h b j := fun j => by rw [HR_sR, if_neg (fun z => hb z.1)]
  have e3 : fv ad (sR h a k v) b = fv ad h b := by
    funext kd j
    unfold fv
    rw [e]
    rfl
  unfold cE
  simp only [e, e3]
  rfl
theorem fs_set {h' : Hp} {a kd k : Nat} {v : Value} (hk : fv ad h' a kd k = v) (ho : ∀ j, j ≠ k → fv ad h' a kd j = fv ad h a kd j) : ((List.range (NNa kd)).map (fv ad h a kd)).set k v = (List.range (NNa kd)).map (fv ad h' a kd) := by
  apply List.ext_getElem?
  intro i
  rw [List.getElem?_set, List.getElem?_map, List.getElem?_map, List.length_map, List.length_range]
  by_cases hi : k = i
  · subst hi
    rw [if_pos rfl]
    by_cases hl : k < NNa kd
    · rw [if_pos hl, List.getElem?_range hl, Option.map_some, hk]
    · rw [if_neg hl, List.getElem?_eq_none (by simpa using hl)]
      rfl
  · rw [if_neg hi]
    cases hr : (List.range (NNa kd))[i]? with
    | none => rfl
    | some j =>
      have : j = i := by
        have := List.getElem?_eq_some_iff.mp hr
        obtain ⟨hl, e⟩ := this
        rw [List.getElem_range] at e
        omega
      subst this
      rw [Option.map_some, Option.map_some, ho j (by omega)]
/-- putfield, of an int or of a reference: v the value, h' the heap behind it -/
theorem m_put (hT : TOK) (F : FX p m c meth s args y) (hK : va_K (xD x) clL (tysL x) s) (S : St x ad h H) (hS : va_S (fr x) s.heap H locs) {i kd k a : Nat} {v : Value} {h' : Hp} (hf : fndFld fldA (yo y) i kd k = true) (hk : HK h a = kd) (hd : decode (yb y) pc = .ok (.putfield i, 3))
    (hfin : (!(TTa kd k).2.2.2 || (decide ((yn y).name = "<init>") && decide ((TTa kd k).1 = cn (yo y)))) = true) (hn : narrow (tta kd k) v = v) (hfit : fits (tta kd k) v = true) (hkv : fv ad h' a kd k = v) (ho : ∀ j, j ≠ k → fv ad h' a kd j = fv ad h a kd j)
    (hob : ∀ b, b ≠ a → cE x ad h' b = cE x ad h b) (hs : h'.1 = h.1) (hs2 : h'.2.1 = h.2.1) (hI : ∀ b, b ≠ a → ∀ k, HI h' b k = HI h b k) (hR : ∀ b k, HR h' b k = HR h b k ∨ HR h' b k < HN h) (hR2 : ∀ b, b ≠ a → ∀ k, HR h' b k = HR h b k)
    (kk : ∀ (H1 : Heap) (locs1 : List Loc), St x ad h' H1 → va_S (fr x) s.heap H1 locs1 → W p l e R s m args below meth c H1 locs1 cells slots Q (F0 m (pc + 3) rls rest)) : W p l e R s m args below meth c H locs cells slots Q (F0 m pc rls (v :: va_rf (ad a) :: rest)) := by
  obtain ⟨h1, h2, h3, h4⟩ := fld_at hT hf
  obtain ⟨q, hq, g1, g2, g3⟩ := S.at (a := a) (by rw [hk]; exact Or.inl ⟨h1, h2⟩)
  rw [cE_obj h2 hk] at g3
  obtain ⟨fx, fb, -, fo, ft, fn⟩ := F
  rw [hq]
  have hk' : HK h' a = kd := by unfold HK; rw [hs2]; exact hk
  have fin : ∀ (H1 : Heap) (locs1 : List Loc), va_P (xD x) clL ((wl x ad h).set (a - 31) (q, .inr (kd - 1, ((List.range (NNa kd)).map (fv ad h a kd)).set k v))) H1 → va_D (fr x) ((wl x ad h).set (a - 31) (q, .inr (kd - 1, ((List.range (NNa kd)).map (fv ad h a kd)).set k v))) → va_S (fr x) s.heap H1 locs1 → W p l e R s m args below meth c H1 locs1 cells slots Q (F0 m (pc + 3) rls rest) := by
    intro H1 locs1 P Dd S1
    exact kk H1 locs1 (S.wr g1 g2 hq (by rw [cE_obj h2 hk', ← fs_set hkv ho]) hob hs hs2 hI hR hR2 P Dd) S1
  have hll : k < ((List.range (NNa kd)).map (fv ad h a kd)).length := by simpa using h3
  cases hfl : (TTa kd k).2.2.2 with
  | false => exact va_put (D := xD x) (ci := kd - 1) (C := RRa kd) (T := TTa kd) (N := NNa kd) fx fb ft (lay_in hT h1 h2) (tta kd) (tt_at h1 h2) (nn_at h1 h2) fo hK S.1 S.2.1 hS (a - 31) g3 (clL_at h1 h2) k h3 (ft _ h4) (fun _ h9 => h9) hfl (tt_at h1 h2 k h3) hn hfit hll hd fin
  | true =>
    rw [hfl] at hfin
    simp only [Bool.not_true, Bool.false_or, Bool.and_eq_true, decide_eq_true_eq] at hfin
    exact va_putF (D := xD x) (ci := kd - 1) (C := RRa kd) (T := TTa kd) (N := NNa kd) fx fb ft (lay_in hT h1 h2) (tta kd) (tt_at h1 h2) (nn_at h1 h2) fo hK S.1 S.2.1 hS (a - 31) g3 (clL_at h1 h2) k h3 (ft _ h4) (fun _ h9 => h9) hfl (fn.trans hfin.1) hfin.2 (tt_at h1 h2 k h3) hn hfit hll hd fin
end ROWS
end
section
/-! ROWS of arrays, of new cells, of what was there before -/
def fixW : List Cond := [.instanceMethod Lib.objectInit, .code Lib.objectInit ⟨#[0xb1]⟩ 1 none, .arrayClass .int, .arrayClass .char, .arrayClass .byte, .arrayClass .long, .arrayClass .double, .native arraycopyName, .static arraycopyName, .initialized "java/lang/System", .initialized "java/lang/Math", .static Lib.Math.min.name, .static Lib.Math.max.name, .static Lib.Math.abs.name, .code Lib.Math.min.name Lib.Math.min.code 2 (some .int), .code Lib.Math.max.name Lib.Math.max.code 2 (some .int), .code Lib.Math.abs.name Lib.Math.abs.code 1 (some .int)]
def stN (c : Nat) : String × String × String := if c = 1 then ("java/lang/String", "COMPACT_STRINGS", "Z") else if c = 101 then ("jdk/internal/util/Preconditions", "SIOOBE_FORMATTER", "Ljava/util/function/BiFunction;") else if c = 102 then ("java/lang/Integer", "DigitOnes", "[B") else ("java/lang/Integer", "DigitTens", "[B")
def sfN (c : Nat) : String × String := if c = 705 then ("value", "[B") else ("coder", "B")
def mtN (c : Nat) : MethodName := if c = 0 then arraycopyName else if c = 1 then Lib.Math.min.name else if c = 2 then Lib.Math.max.name else Lib.Math.abs.name
def anN (c : Nat) : String := if c = 0 then "RecordReconciler$Book" else "[" ++ (FieldType.array FieldType.int).toString
def chkZip (g : Nat × Nat × Nat → Cond) : List (Nat × Nat × Nat) → List Nat → Bool
  | [], _ => true
  | _ :: _, [] => false
  | r :: l, i :: is => okAt i (g r) && chkZip g l is
def chkFix : List Nat → List Cond → Bool
  | _, [] => true
  | [], _ :: _ => false
  | i :: is, w :: ws => okAt i w && chkFix is ws
def chkQ (g : Nat × Nat × Nat → Cond) (l : List (Nat × Nat × Nat)) (H : List (Nat × Nat × Nat × Nat)) : Bool := chkZip g l (H.map (fun r => r.2.2.2))
def stW (r : Nat × Nat × Nat) : Cond := .fieldLink (cn r.1) r.2.1 (stN r.2.2).1 (stN r.2.2).2.1 (stN r.2.2).2.2
def sfW (r : Nat × Nat × Nat) : Cond := .fieldLink (cn r.1) r.2.1 "java/lang/String" (sfN r.2.2).1 (sfN r.2.2).2
def anW (r : Nat × Nat × Nat) : Cond := .classLink (cn r.1) r.2.1 (anN r.2.2)
def oiW (r : Nat × Nat × Nat) : Cond := .methodLink (cn r.1) r.2.1 Lib.objectInit
def mtW (r : Nat × Nat × Nat) : Cond := .methodLink (cn r.1) r.2.1 (mtN r.2.2)
def TOK2 : Prop := chkFix fixA fixW = true ∧ chkZip stW stzA stzH = true ∧ chkZip sfW stfA stfH = true ∧ chkQ anW anwA anwAH = true ∧ chkQ oiW oinA oinAH = true ∧ chkQ mtW mthA mthAH = true
theorem chkFix_in : ∀ {is : List Nat} {ws : List Cond}, chkFix is ws = true → ∀ w ∈ ws, w ∈ TW
  | _, [], _ => fun _ h => nomatch h
  | [], _ :: _, h => by cases h
  | i :: is, w :: ws, h => by
    simp only [chkFix, Bool.and_eq_true] at h
    intro w' hw
    rcases List.mem_cons.mp hw with rfl | hw
    · exact tw_of h.1
    · exact chkFix_in h.2 w' hw
theorem chkZip_in {g : Nat × Nat × Nat → Cond} : ∀ {l : List (Nat × Nat × Nat)} {is : List Nat}, chkZip g l is = true → ∀ r ∈ l, g r ∈ TW
  | [], _, _ => fun _ h => nomatch h
  | _ :: _, [], h => by cases h
  | r :: l, i :: is, h => by
    simp only [chkZip, Bool.and_eq_true] at h
    intro r' hr
    rcases List.mem_cons.mp hr with rfl | hr
    · exact tw_of h.1
    · exact chkZip_in h.2 r' hr
theorem fnd3_in {a b c : Nat} : ∀ {l : List (Nat × Nat × Nat)}, fnd3 l a b c = true → (a, b, c) ∈ l
  | [], h => by cases h
  | r :: l, h => by
    simp only [fnd3, Bool.or_eq_true, Bool.and_eq_true] at h
    rcases h with h | h
    · obtain ⟨⟨h1, h2⟩, h3⟩ := h
      have e : r = (a, b, c) := by
        obtain ⟨r1, r2, r3⟩ := r
        rw [show r1 = a from Nat.eq_of_beq_eq_true h1, show r2 = b from Nat.eq_of_beq_eq_true h2, show r3 = c from Nat.eq_of_beq_eq_true h3]
      rw [e]
      exact List.mem_cons_self
    · exact List.mem_cons_of_mem _ (fnd3_in h)
/-- what is known of the old cells -/
def OLD (x : Ctx) (U : State) (H : Heap) : Prop := ∀ a, a < 31 → ((kcT (xL x) a).1 = 203 → ∃ q, xC x a = some q ∧ va_T .byte q (kcT (xL x) a).2 (fun j => .int (icT (xS x) a j)) (fr x) U H) ∧ ((kcT (xL x) a).1 = 200 → ∃ q, xC x a = some q ∧ va_T .int q (xL x) (fun j => .int (icT (xS x) a j)) (fr x) U H) ∧
  ((kcT (xL x) a).1 = 11 → ∃ q, xC x a = some q ∧ va_O "java/lang/String" q (fr x) U H ∧ va_OF "java/lang/String" "value" "[B" (va_rf (xC x (a + 1))) q (fr x) U H ∧ va_OF "java/lang/String" "coder" "B" (.int 0) q (fr x) U H)
theorem inb_in {j : Int32} {n : Nat} (h : inb j n = true) : vp_in j n := by
  simp only [inb, Bool.and_eq_true, decide_eq_true_eq] at h
  rintro (z | z)
  · exact absurd h.1 (by rw [Int32.not_le]; exact z)
  · omega
section ROWS2
variable {p : Program} {l : Launch} {e : Env} {R : Room} {s : State} {m : MethodId} {args : Array Value} {below : List Frame} {meth : Method} {c : Code} {H : Heap} {locs : List Loc} {cells slots : Nat} {Q : State → Prop}
variable {x : Ctx} {ad : Nat → Option Nat} {h : Hp} {y pc : Nat} {rls : Array Slot} {rest : List Value}
theorem kc_cases {L a : Nat} : (kcT L a).1 = 0 ∨ (kcT L a).1 = 11 ∨ (kcT L a).1 = 203 ∨ (kcT L a).1 = 200 := by
  unfold kcT
  repeat' split
  all_goals simp
/-- a cell of a kind of the old ones is an old one -/
theorem St.old (S : St x ad h H) {a kd : Nat} (hk : HK h a = kd) (h1 : kd = 11 ∨ kd = 203 ∨ kd = 200) : a < 31 ∧ (kcT (xL x) a).1 = kd ∧ ad a = xC x a ∧ HL h a = (kcT (xL x) a).2 ∧ (∀ k, HI h a k = icT (xS x) a k) ∧ ∀ k, HR h a k = rcT a k := by
  obtain ⟨-, -, h31, hc, ha, hz, -, hok⟩ := S
  have hlt : a < 31 := by
    rcases Nat.lt_or_ge a 31 with q | q
    · exact q
    · rcases Nat.lt_or_ge a (HN h) with z | z
      · have := (hok a q z).1
        rw [hk] at this
        unfold KOK at this
        omega
      · rw [hz a z] at hk
        omega
  obtain ⟨c1, c2, c3⟩ := hc a hlt
  exact ⟨hlt, by rw [← c1]; exact hk, ha a hlt, by unfold HL; rw [c1], c2, c3⟩
theorem cE_arr {a kd : Nat} (hk : HK h a = kd) (h1 : kd = 100 ∨ kd = 101 ∨ kd = 102) : cE x ad h a = .inl (xA x kd, HL h a, .inl (HI h a)) := by
  unfold cE
  rw [hk, if_neg (by omega), if_neg (by omega), if_neg (by omega), if_neg (by omega)]
theorem cE_long {a : Nat} (hk : HK h a = 104) : cE x ad h a = .inl (xA x 104, HL h a, .inr (.inl (HJ h a))) := by
  unfold cE
  rw [hk, if_neg (by omega), if_pos rfl]
theorem cE_dbl {a : Nat} (hk : HK h a = 105) : cE x ad h a = .inl (xA x 105, HL h a, .inr (.inr (.inr (.inl (HD h a))))) := by
  unfold cE
  rw [hk, if_neg (by omega), if_neg (by omega), if_pos rfl]
theorem cE_ref {a kd : Nat} (hk : HK h a = kd) (h1 : kd = 106 ∨ kd = 107) : cE x ad h a = .inl (xA x kd, HL h a, .inr (.inr (.inr (.inr (fun k => ad (HR h a k)))))) := by
  unfold cE
  rw [hk, if_neg (by omega), if_neg (by omega), if_neg (by omega), if_pos (by omega)]
theorem m_iald (F : FX p m c meth s args y) (hK : va_K (xD x) clL (tysL x) s) (S : St x ad h H) {a : Nat} {j : Int32} (hk : HK h a = 100) (hj : inb j (HL h a) = true) (hd : decode (yb y) pc = .ok (.iaload, 1))
    (kk : W p l e R s m args below meth c H locs cells slots Q (F0 m (pc + 1) rls (.int (HI h a j.toNatClampNeg) :: rest))) : W p l e R s m args below meth c H locs cells slots Q (F0 m pc rls (.int j :: va_rf (ad a) :: rest)) := by
  obtain ⟨q, hq, g1, g2, g3⟩ := S.at (a := a) (by rw [hk]; unfold KOK; omega)
  rw [cE_arr hk (by omega)] at g3
  rw [hq]
  exact va_iald F.1 F.2.1 hK S.1 (a - 31) 0 g3 rfl (inb_in hj) hd kk
theorem m_cald (F : FX p m c meth s args y) (hK : va_K (xD x) clL (tysL x) s) (S : St x ad h H) {a : Nat} {j : Int32} (hk : HK h a = 101) (hj : inb j (HL h a) = true) (hd : decode (yb y) pc = .ok (.caload, 1))
    (kk : W p l e R s m args below meth c H locs cells slots Q (F0 m (pc + 1) rls (.int (HI h a j.toNatClampNeg) :: rest))) : W p l e R s m args below meth c H locs cells slots Q (F0 m pc rls (.int j :: va_rf (ad a) :: rest)) := by
  obtain ⟨q, hq, g1, g2, g3⟩ := S.at (a := a) (by rw [hk]; unfold KOK; omega)
  rw [cE_arr hk (by omega)] at g3
  rw [hq]
  exact va_cald F.1 F.2.1 hK S.1 (a - 31) 1 g3 rfl (inb_in hj) hd kk
theorem m_bald (F : FX p m c meth s args y) (hK : va_K (xD x) clL (tysL x) s) (S : St x ad h H) {a : Nat} {j : Int32} (hk : HK h a = 102) (hj : inb j (HL h a) = true) (hd : decode (yb y) pc = .ok (.baload, 1))
    (kk : W p l e R s m args below meth c H locs cells slots Q (F0 m (pc + 1) rls (.int (HI h a j.toNatClampNeg) :: rest))) : W p l e R s m args below meth c H locs cells slots Q (F0 m pc rls (.int j :: va_rf (ad a) :: rest)) := by
  obtain ⟨q, hq, g1, g2, g3⟩ := S.at (a := a) (by rw [hk]; unfold KOK; omega)
  rw [cE_arr hk (by omega)] at g3
  rw [hq]
  exact va_bald F.1 F.2.1 hK S.1 (a - 31) 2 g3 rfl (inb_in hj) hd kk
theorem m_lald (F : FX p m c meth s args y) (hK : va_K (xD x) clL (tysL x) s) (S : St x ad h H) {a : Nat} {j : Int32} (hk : HK h a = 104) (hj : inb j (HL h a) = true) (hd : decode (yb y) pc = .ok (.laload, 1))
    (kk : W p l e R s m args below meth c H locs cells slots Q (F0 m (pc + 1) rls (.long (HJ h a j.toNatClampNeg) :: rest))) : W p l e R s m args below meth c H locs cells slots Q (F0 m pc rls (.int j :: va_rf (ad a) :: rest)) := by
  obtain ⟨q, hq, g1, g2, g3⟩ := S.at (a := a) (by rw [hk]; unfold KOK; omega)
  rw [cE_long hk] at g3
  rw [hq]
  exact va_lald F.1 F.2.1 hK S.1 (a - 31) 3 g3 rfl (inb_in hj) hd kk
theorem m_dald (F : FX p m c meth s args y) (hK : va_K (xD x) clL (tysL x) s) (S : St x ad h H) {a : Nat} {j : Int32} (hk : HK h a = 105) (hj : inb j (HL h a) = true) (hd : decode (yb y) pc = .ok (.daload, 1))
    (kk : W p l e R s m args below meth c H locs cells slots Q (F0 m (pc + 1) rls (.double (HD h a j.toNatClampNeg) :: rest))) : W p l e R s m args below meth c H locs cells slots Q (F0 m pc rls (.int j :: va_rf (ad a) :: rest)) := by
  obtain ⟨q, hq, g1, g2, g3⟩ := S.at (a := a) (by rw [hk]; unfold KOK; omega)
  rw [cE_dbl hk] at g3
  rw [hq]
  exact va_dald F.1 F.2.1 hK S.1 (a - 31) 4 g3 rfl (inb_in hj) hd kk
theorem m_aald (F : FX p m c meth s args y) (hK : va_K (xD x) clL (tysL x) s) (S : St x ad h H) {a kd : Nat} {j : Int32} (hk : HK h a = kd) (hkd : kd = 106 ∨ kd = 107) (hj : inb j (HL h a) = true) (hd : decode (yb y) pc = .ok (.aaload, 1))
    (kk : W p l e R s m args below meth c H locs cells slots Q (F0 m (pc + 1) rls (va_rf (ad (HR h a j.toNatClampNeg)) :: rest))) : W p l e R s m args below meth c H locs cells slots Q (F0 m pc rls (.int j :: va_rf (ad a) :: rest)) := by
  obtain ⟨q, hq, g1, g2, g3⟩ := S.at (a := a) (by rw [hk]; unfold KOK; omega)
  rw [cE_ref hk hkd] at g3
  rw [hq]
  have hin := inb_in hj
  have hlt : j.toNatClampNeg < HL h a := Nat.not_le.mp fun q => hin (Or.inr q)
  have hc : H[q]? = some (arrV (xA x kd) (HL h a) (fun k => va_rf (ad (HR h a k)))) := S.1 _ _ g3
  have harr : ∃ ty : FieldType, ty.isReference = true ∧ s.isArrayOf (arrV (xA x kd) (HL h a) (fun k => va_rf (ad (HR h a k)))) ty := by
    rcases hkd with rfl | rfl
    · exact ⟨_, rfl, (hK.2 5 _ rfl).1 _ _⟩
    · exact ⟨_, rfl, (hK.2 6 _ rfl).1 _ _⟩
  obtain ⟨ty, hty, hof⟩ := harr
  exact W.aald (v := va_rf (ad (HR h a j.toNatClampNeg))) F.1 F.2.1 hc hof hty (fun q => by cases q) (by rw [arrV_size]; exact hin) (by rw [arrV_read _ _ hlt]) rfl rfl hd kk
theorem m_sald (F : FX p m c meth s args y) (hO : OLD x s s.heap) (S : St x ad h H) (hS : va_S (fr x) s.heap H locs) {a : Nat} {j : Int32} (hk : HK h a = 200) (hj : inb j (HL h a) = true) (hd : decode (yb y) pc = .ok (.iaload, 1))
    (kk : W p l e R s m args below meth c H locs cells slots Q (F0 m (pc + 1) rls (.int (HI h a j.toNatClampNeg) :: rest))) : W p l e R s m args below meth c H locs cells slots Q (F0 m pc rls (.int j :: va_rf (ad a) :: rest)) := by
  obtain ⟨o1, o2, o3, o4, o5, -⟩ := S.old hk (by omega)
  obtain ⟨q, hq, hT⟩ := (hO a o1).2.1 o2
  rw [o3, hq]
  have e4 : HL h a = xL x := by
    have h9 := o2
    rw [o4]
    unfold kcT at h9 ⊢
    repeat' split at h9
    all_goals first | (exfalso; simp at h9; done) | skip
    rw [if_neg (by omega), if_neg (by omega), if_neg (by omega)]
  rw [e4] at hj
  exact va_ti F.1 F.2.1 hT hS (inb_in hj) (by rw [o5]) hd kk
theorem m_fald (F : FX p m c meth s args y) (hO : OLD x s s.heap) (S : St x ad h H) (hS : va_S (fr x) s.heap H locs) {a : Nat} {j : Int32} (hk : HK h a = 203) (hj : inb j (HL h a) = true) (hd : decode (yb y) pc = .ok (.baload, 1))
    (kk : W p l e R s m args below meth c H locs cells slots Q (F0 m (pc + 1) rls (.int (HI h a j.toNatClampNeg) :: rest))) : W p l e R s m args below meth c H locs cells slots Q (F0 m pc rls (.int j :: va_rf (ad a) :: rest)) := by
  obtain ⟨o1, o2, o3, o4, o5, -⟩ := S.old hk (by omega)
  obtain ⟨q, hq, hT⟩ := (hO a o1).1 o2
  rw [o3, hq]
  rw [o4] at hj
  exact va_tb F.1 F.2.1 hT hS (inb_in hj) (by rw [o5]) hd kk
theorem m_alen (F : FX p m c meth s args y) (hK : va_K (xD x) clL (tysL x) s) (hO : OLD x s s.heap) (S : St x ad h H) (hS : va_S (fr x) s.heap H locs) {a : Nat} (hk : Nat.ble 100 (HK h a) = true) (hd : decode (yb y) pc = .ok (.arraylength, 1))
    (kk : W p l e R s m args below meth c H locs cells slots Q (F0 m (pc + 1) rls (.int (Int32.ofNat (HL h a)) :: rest))) : W p l e R s m args below meth c H locs cells slots Q (F0 m pc rls (va_rf (ad a) :: rest)) := by
  have hk1 := Nat.le_of_ble_eq_true hk
  rcases Nat.lt_or_ge a 31 with h31 | h31
  · have hkc : HK h a = (kcT (xL x) a).1 := by unfold HK; rw [(S.2.2.2.1 a h31).1]
    have h9 : HK h a = 203 ∨ HK h a = 200 := by
      rcases kc_cases (L := xL x) (a := a) with z | z | z | z <;> omega
    rcases h9 with h9 | h9
    · obtain ⟨o1, o2, o3, o4, o5, -⟩ := S.old h9 (by omega)
      obtain ⟨q, hq, hT⟩ := (hO a o1).1 o2
      rw [o3, hq]
      exact va_tlen F.1 F.2.1 hT hS (by rw [o4]) hd kk
    · obtain ⟨o1, o2, o3, o4, o5, -⟩ := S.old h9 (by omega)
      obtain ⟨q, hq, hT⟩ := (hO a o1).2.1 o2
      rw [o3, hq]
      have e4 : HL h a = xL x := by
        rw [o4]
        unfold kcT at o2 ⊢
        repeat' split at o2
        all_goals first | (exfalso; simp at o2; done) | skip
        rw [if_neg (by omega), if_neg (by omega), if_neg (by omega)]
      exact va_tlen F.1 F.2.1 hT hS (by rw [e4]) hd kk
  · have h2 : a < HN h := by
      rcases Nat.lt_or_ge a (HN h) with z | z
      · exact z
      · rw [S.2.2.2.2.2.1 a z] at hk1; omega
    have hok := (S.2.2.2.2.2.2.2 a h31 h2).1
    obtain ⟨q, hq, g1, g2, g3⟩ := S.at (a := a) hok
    rw [hq]
    have h9 : HK h a = 100 ∨ HK h a = 101 ∨ HK h a = 102 ∨ HK h a = 104 ∨ HK h a = 105 ∨ HK h a = 106 ∨ HK h a = 107 := by unfold KOK at hok; omega
    rcases h9 with h9 | h9 | h9 | h9 | h9 | h9 | h9
    · rw [cE_arr h9 (by omega)] at g3
      exact va_alen F.1 F.2.1 hK S.1 (a - 31) 0 g3 rfl rfl hd kk
    · rw [cE_arr h9 (by omega)] at g3
      exact va_alen F.1 F.2.1 hK S.1 (a - 31) 1 g3 rfl rfl hd kk
    · rw [cE_arr h9 (by omega)] at g3
      exact va_alen F.1 F.2.1 hK S.1 (a - 31) 2 g3 rfl rfl hd kk
    · rw [cE_long h9] at g3
      exact va_alen F.1 F.2.1 hK S.1 (a - 31) 3 g3 rfl rfl hd kk
    · rw [cE_dbl h9] at g3
      exact va_alen F.1 F.2.1 hK S.1 (a - 31) 4 g3 rfl rfl hd kk
    · rw [cE_ref h9 (by omega)] at g3
      exact va_alen F.1 F.2.1 hK S.1 (a - 31) 5 g3 rfl rfl hd kk
    · rw [cE_ref h9 (by omega)] at g3
      exact va_alen F.1 F.2.1 hK S.1 (a - 31) 6 g3 rfl rfl hd kk
theorem upd_HI {a k : Nat} {v : Int32} : upd (HI h a) k v = HI (sI h a k v) a := by
  funext j
  rw [HI_sI]
  unfold upd
  by_cases q : j = k
  · rw [if_pos q, if_pos ⟨rfl, q⟩]
  · rw [if_neg q, if_neg (fun z => q z.2)]
theorem St.wrI (S : St x ad h H) {H1 : Heap} {a k q kd : Nat} {v : Int32} (hk : HK h a = kd) (h1 : kd = 100 ∨ kd = 101 ∨ kd = 102) (hq : ad a = some q) (g1 : 31 ≤ a) (g2 : a < HN h)
    (P : va_P (xD x) clL ((wl x ad h).set (a - 31) (q, .inl (xA x kd, HL h a, .inl (upd (HI h a) k v)))) H1) (Dd : va_D (fr x) ((wl x ad h).set (a - 31) (q, .inl (xA x kd, HL h a, .inl (upd (HI h a) k v))))) : St x ad (sI h a k v) H1 := by
  refine S.wr (h' := sI h a k v) g1 g2 hq (by rw [cE_arr (h := sI h a k v) (kd := kd) hk h1]) (fun b hb => cE_sI hb) rfl rfl (fun b hb j => by rw [HI_sI, if_neg (fun z => hb z.1)]) (fun _ _ => Or.inl rfl) (fun _ _ _ => rfl) ?_ ?_
  · rw [← upd_HI]; exact P
  · rw [← upd_HI]; exact Dd
theorem m_iast (F : FX p m c meth s args y) (hK : va_K (xD x) clL (tysL x) s) (S : St x ad h H) (hS : va_S (fr x) s.heap H locs) {a : Nat} {j v : Int32} (hk : HK h a = 100) (hj : inb j (HL h a) = true) (hd : decode (yb y) pc = .ok (.iastore, 1))
    (kk : ∀ (H1 : Heap) (locs1 : List Loc), St x ad (sI h a j.toNatClampNeg v) H1 → va_S (fr x) s.heap H1 locs1 → W p l e R s m args below meth c H1 locs1 cells slots Q (F0 m (pc + 1) rls rest)) : W p l e R s m args below meth c H locs cells slots Q (F0 m pc rls (.int v :: .int j :: va_rf (ad a) :: rest)) := by
  obtain ⟨q, hq, g1, g2, g3⟩ := S.at (a := a) (by rw [hk]; unfold KOK; omega)
  rw [cE_arr hk (by omega)] at g3
  rw [hq]
  exact va_iast F.1 F.2.1 hK S.1 S.2.1 hS (a - 31) 0 g3 rfl (inb_in hj) hd (fun H1 locs1 P Dd S1 => kk H1 locs1 (S.wrI hk (by omega) hq g1 g2 P Dd) S1)
theorem m_cast (F : FX p m c meth s args y) (hK : va_K (xD x) clL (tysL x) s) (S : St x ad h H) (hS : va_S (fr x) s.heap H locs) {a : Nat} {j v : Int32} (hk : HK h a = 101) (hj : inb j (HL h a) = true) (hv : fitc 2 v = true) (hd : decode (yb y) pc = .ok (.castore, 1))
    (kk : ∀ (H1 : Heap) (locs1 : List Loc), St x ad (sI h a j.toNatClampNeg v) H1 → va_S (fr x) s.heap H1 locs1 → W p l e R s m args below meth c H1 locs1 cells slots Q (F0 m (pc + 1) rls rest)) : W p l e R s m args below meth c H locs cells slots Q (F0 m pc rls (.int v :: .int j :: va_rf (ad a) :: rest)) := by
  obtain ⟨q, hq, g1, g2, g3⟩ := S.at (a := a) (by rw [hk]; unfold KOK; omega)
  rw [cE_arr hk (by omega)] at g3
  rw [hq]
  have e := (fit2 hv).1
  exact va_cast F.1 F.2.1 hK S.1 S.2.1 hS (a - 31) 1 g3 rfl (inb_in hj) hd (fun H1 locs1 P Dd S1 => by rw [e] at P Dd; exact kk H1 locs1 (S.wrI hk (by omega) hq g1 g2 P Dd) S1)
theorem m_bast (F : FX p m c meth s args y) (hK : va_K (xD x) clL (tysL x) s) (S : St x ad h H) (hS : va_S (fr x) s.heap H locs) {a : Nat} {j v : Int32} (hk : HK h a = 102) (hj : inb j (HL h a) = true) (hv : fitc 3 v = true) (hd : decode (yb y) pc = .ok (.bastore, 1))
    (kk : ∀ (H1 : Heap) (locs1 : List Loc), St x ad (sI h a j.toNatClampNeg v) H1 → va_S (fr x) s.heap H1 locs1 → W p l e R s m args below meth c H1 locs1 cells slots Q (F0 m (pc + 1) rls rest)) : W p l e R s m args below meth c H locs cells slots Q (F0 m pc rls (.int v :: .int j :: va_rf (ad a) :: rest)) := by
  obtain ⟨q, hq, g1, g2, g3⟩ := S.at (a := a) (by rw [hk]; unfold KOK; omega)
  rw [cE_arr hk (by omega)] at g3
  rw [hq]
  have e : vp_nar .byte v = v := by
    rw [vp_nar_byte]
    exact (fit3 hv).1
  exact va_bast F.1 F.2.1 hK S.1 S.2.1 hS (a - 31) 2 g3 rfl (inb_in hj) hd (fun H1 locs1 P Dd S1 => by rw [e] at P Dd; exact kk H1 locs1 (S.wrI hk (by omega) hq g1 g2 P Dd) S1)
end ROWS2
end
section
/-! ROWS of new cells, copies, references into arrays, statics, literals -/
section ROWS3
variable {p : Program} {l : Launch} {e : Env} {R : Room} {s : State} {m : MethodId} {args : Array Value} {below : List Frame} {meth : Method} {c : Code} {H : Heap} {locs : List Loc} {cells slots : Nat} {Q : State → Prop}
variable {x : Ctx} {ad : Nat → Option Nat} {h : Hp} {y pc : Nat} {rls : Array Slot} {rest : List Value}
theorem cE_ext {ad' : Nat → Option Nat} {h' : Hp} {b : Nat} (hk : HK h' b = HK h b) (hl : HL h' b = HL h b) (hI : HI h' b = HI h b) (hR : HR h' b = HR h b) (hJ : HJ h' b = HJ h b) (hDd : HD h' b = HD h b) (ha : ∀ k, ad' (HR h b k) = ad (HR h b k)) : cE x ad' h' b = cE x ad h b := by
  have e3 : fv ad' h' b = fv ad h b := by
    funext kd j
    unfold fv
    rw [hI, hR, ha]
  unfold cE
  rw [hk, hl, hI, hJ, hDd, e3, hR]
  simp only [ha]
theorem St.wr2 (S : St x ad h H) {H1 : Heap} {h' : Hp} {a q : Nat} {ee : va_E} (g1 : 31 ≤ a) (g2 : a < HN h) (hq : ad a = some q) (he : cE x ad h' a = ee) (hs : h'.1 = h.1) (hs2 : h'.2.1 = h.2.1)
    (hI : ∀ b, b ≠ a → HI h' b = HI h b) (hR : ∀ b, b ≠ a → HR h' b = HR h b) (hJ : ∀ b, b ≠ a → HJ h' b = HJ h b) (hDd : ∀ b, b ≠ a → HD h' b = HD h b) (hRa : ∀ k, HR h' a k < HN h)
    (P : va_P (xD x) clL ((wl x ad h).set (a - 31) (q, ee)) H1) (Dd : va_D (fr x) ((wl x ad h).set (a - 31) (q, ee))) : St x ad h' H1 :=
  S.wr g1 g2 hq he (fun b hb => cE_ext (by unfold HK; rw [hs2]) (by unfold HL; rw [hs2]) (hI b hb) (hR b hb) (hJ b hb) (hDd b hb) (fun _ => rfl)) hs hs2 (fun b hb k => by rw [hI b hb]) (fun b k => by
    by_cases hb : b = a
    · exact Or.inr (by rw [hb]; exact hRa k)
    · exact Or.inl (by rw [hR b hb])) (fun b hb k => by rw [hR b hb]) P Dd
theorem u2_ne {α : Type} {f : Nat → Nat → α} {a k b : Nat} {v : α} (hb : b ≠ a) : u2 f a k v b = f b := by
  funext j
  unfold u2
  rw [if_neg (fun z => hb z.1)]
theorem u2_eq {α : Type} {f : Nat → Nat → α} {a k : Nat} {v : α} : u2 f a k v a = fun j => if j = k then v else f a j := by
  funext j
  unfold u2
  by_cases hj : j = k
  · rw [if_pos ⟨rfl, hj⟩, if_pos hj]
  · rw [if_neg (fun z => hj z.2), if_neg hj]
theorem m_last (F : FX p m c meth s args y) (hK : va_K (xD x) clL (tysL x) s) (S : St x ad h H) (hS : va_S (fr x) s.heap H locs) {a : Nat} {j : Int32} {v : Int64} (hk : HK h a = 104) (hj : inb j (HL h a) = true) (hd : decode (yb y) pc = .ok (.lastore, 1))
    (kk : ∀ (H1 : Heap) (locs1 : List Loc), St x ad (sJ h a j.toNatClampNeg v) H1 → va_S (fr x) s.heap H1 locs1 → W p l e R s m args below meth c H1 locs1 cells slots Q (F0 m (pc + 1) rls rest)) : W p l e R s m args below meth c H locs cells slots Q (F0 m pc rls (.long v :: .int j :: va_rf (ad a) :: rest)) := by
  obtain ⟨q, hq, g1, g2, g3⟩ := S.at (a := a) (by rw [hk]; unfold KOK; omega)
  rw [cE_long hk] at g3
  rw [hq]
  exact va_last F.1 F.2.1 hK S.1 S.2.1 hS (a - 31) 3 g3 rfl (inb_in hj) hd (fun H1 locs1 P Dd S1 => kk H1 locs1 (S.wr2 (h' := sJ h a j.toNatClampNeg v) g1 g2 hq (by
    rw [cE_long (h := sJ h a j.toNatClampNeg v) hk, show HJ (sJ h a j.toNatClampNeg v) a = vp_updL (HJ h a) j.toNatClampNeg v from u2_eq]
    rfl) rfl rfl (fun _ _ => rfl) (fun _ _ => rfl) (fun b hb => u2_ne hb) (fun _ _ => rfl) (S.2.2.2.2.2.2.1 a) P Dd) S1)
theorem m_dast (F : FX p m c meth s args y) (hK : va_K (xD x) clL (tysL x) s) (S : St x ad h H) (hS : va_S (fr x) s.heap H locs) {a : Nat} {j : Int32} {v : UInt64} (hk : HK h a = 105) (hj : inb j (HL h a) = true) (hd : decode (yb y) pc = .ok (.dastore, 1))
    (kk : ∀ (H1 : Heap) (locs1 : List Loc), St x ad (sD h a j.toNatClampNeg v) H1 → va_S (fr x) s.heap H1 locs1 → W p l e R s m args below meth c H1 locs1 cells slots Q (F0 m (pc + 1) rls rest)) : W p l e R s m args below meth c H locs cells slots Q (F0 m pc rls (.double v :: .int j :: va_rf (ad a) :: rest)) := by
  obtain ⟨q, hq, g1, g2, g3⟩ := S.at (a := a) (by rw [hk]; unfold KOK; omega)
  rw [cE_dbl hk] at g3
  rw [hq]
  exact va_dast F.1 F.2.1 hK S.1 S.2.1 hS (a - 31) 4 g3 rfl (inb_in hj) hd (fun H1 locs1 P Dd S1 => kk H1 locs1 (S.wr2 (h' := sD h a j.toNatClampNeg v) g1 g2 hq (by
    rw [cE_dbl (h := sD h a j.toNatClampNeg v) hk, show HD (sD h a j.toNatClampNeg v) a = vf_upd (HD h a) j.toNatClampNeg v from u2_eq]
    rfl) rfl rfl (fun _ _ => rfl) (fun _ _ => rfl) (fun _ _ => rfl) (fun b hb => u2_ne hb) (S.2.2.2.2.2.2.1 a) P Dd) S1)
theorem m_aast (F : FX p m c meth s args y) (hK : va_K (xD x) clL (tysL x) s) (S : St x ad h H) (hS : va_S (fr x) s.heap H locs) {a v : Nat} {j : Int32} (hk : HK h a = 107) (hv : HK h v = 2) (hj : inb j (HL h a) = true) (hd : decode (yb y) pc = .ok (.aastore, 1))
    (kk : ∀ (H1 : Heap) (locs1 : List Loc), St x ad (sR h a j.toNatClampNeg v) H1 → va_S (fr x) s.heap H1 locs1 → W p l e R s m args below meth c H1 locs1 cells slots Q (F0 m (pc + 1) rls rest)) : W p l e R s m args below meth c H locs cells slots Q (F0 m pc rls (va_rf (ad v) :: .int j :: va_rf (ad a) :: rest)) := by
  obtain ⟨q, hq, g1, g2, g3⟩ := S.at (a := a) (by rw [hk]; unfold KOK; omega)
  obtain ⟨w, hw, k1, k2, k3⟩ := S.at (a := v) (by rw [hv]; unfold KOK; omega)
  rw [cE_ref hk (by omega)] at g3
  rw [cE_obj (by omega) hv] at k3
  rw [hq, hw]
  exact va_astq F.1 F.2.1 hK S.1 S.2.1 hS (a - 31) 6 (v - 31) 1 g3 (r := (RR2, TT2, 5)) rfl k3 rfl (inb_in hj) hd (fun H1 locs1 P Dd S1 => kk H1 locs1 (S.wr2 (h' := sR h a j.toNatClampNeg v) g1 g2 hq (by
    rw [cE_ref (h := sR h a j.toNatClampNeg v) (kd := 107) hk (by omega)]
    have : (fun k => ad (HR (sR h a j.toNatClampNeg v) a k)) = va_up (fun k => ad (HR h a k)) j.toNatClampNeg (some w) := by
      funext k
      rw [HR_sR]
      unfold va_up
      by_cases hz : k = j.toNatClampNeg
      · rw [if_pos ⟨rfl, hz⟩, if_pos hz, hw]
      · rw [if_neg (fun z => hz z.2), if_neg hz]
    rw [this]
    rfl) rfl rfl (fun _ _ => rfl) (fun b hb => u2_ne hb) (fun _ _ => rfl) (fun _ _ => rfl) (fun k => by
      rw [HR_sR]
      split
      · exact k2
      · exact S.2.2.2.2.2.2.1 a k) P Dd) S1)
theorem HR_sI {a k : Nat} {v : Int32} : HR (sI h a k v) = HR h := rfl
/-- the map with one cell more -/
def adN (ad : Nat → Option Nat) (n q : Nat) : Nat → Option Nat := fun b => if b = n then some q else ad b
theorem adN_ext {n q : Nat} : Ext ad (adN ad n q) n := fun a ha => by unfold adN; rw [if_neg (by omega)]
theorem HN_new {kd len : Nat} : HN (hnew h kd len) = HN h + 1 := rfl
theorem HK_new {kd len b : Nat} : HK (hnew h kd len) b = if b = HN h then kd else HK h b := by
  unfold HK hnew
  simp only
  split <;> rfl
theorem HL_new {kd len b : Nat} : HL (hnew h kd len) b = if b = HN h then len else HL h b := by
  unfold HL hnew
  simp only
  split <;> rfl
theorem u1_ne {α : Type} {f : Nat → Nat → α} {a b : Nat} {v : α} (hb : b ≠ a) : u1 f a v b = f b := by
  funext j
  unfold u1
  rw [if_neg hb]
theorem u1_eq {α : Type} {f : Nat → Nat → α} {a : Nat} {v : α} : u1 f a v a = fun _ => v := by
  funext j
  unfold u1
  rw [if_pos rfl]
theorem St.mk1 (S : St x ad h H) {H1 : Heap} {kd len q : Nat} {ee : va_E} (hkd : KOK kd) (he : cE x (adN ad (HN h) q) (hnew h kd len) (HN h) = ee)
    (P : va_P (xD x) clL (wl x ad h ++ [(q, ee)]) H1) (Dd : va_D (fr x) (wl x ad h ++ [(q, ee)])) : St x (adN ad (HN h) q) (hnew h kd len) H1 := by
  obtain ⟨-, -, s3, s4, s5, s6, s7, s8⟩ := S
  have hne : ∀ b, b < HN h → b ≠ HN h := fun b hb => by omega
  have hc : ∀ b, b < HN h → cE x (adN ad (HN h) q) (hnew h kd len) b = cE x ad h b := fun b hb => cE_ext (by rw [HK_new, if_neg (hne b hb)]) (by rw [HL_new, if_neg (hne b hb)]) (u1_ne (hne b hb)) (u1_ne (hne b hb)) (u1_ne (hne b hb)) (u1_ne (hne b hb)) (fun k => adN_ext _ (s7 b k))
  rw [wl_push (ad' := adN ad (HN h) q) (h' := hnew h kd len) s3 HN_new (by unfold adN; rw [if_pos rfl]) he (fun b hb => ⟨adN_ext b hb, hc b hb⟩)] at P Dd
  refine ⟨P, Dd, by rw [HN_new]; omega, fun b hb => ?_, fun b hb => ?_, fun b hb => ?_, fun b k => ?_, fun b h1 h2 => ?_⟩
  · obtain ⟨c1, c2, c3⟩ := s4 b hb
    refine ⟨?_, fun k => ?_, fun k => ?_⟩
    · rw [← c1]
      show (if b = HN h then (kd, len) else h.2.1 b) = _
      rw [if_neg (by omega)]
    · rw [← c2 k]
      exact congrFun (u1_ne (f := HI h) (a := HN h) (v := 0) (by omega : b ≠ HN h)) k
    · rw [← c3 k]
      exact congrFun (u1_ne (f := HR h) (a := HN h) (v := 0) (by omega : b ≠ HN h)) k
  · rw [adN_ext b (by omega)]
    exact s5 b hb
  · rw [HN_new] at hb
    rw [HK_new, if_neg (by omega)]
    exact s6 b (by omega)
  · rw [HN_new]
    show u1 (HR h) (HN h) 0 b k < _
    unfold u1
    split
    · omega
    · have := s7 b k
      omega
  · rw [HN_new] at h2
    rw [HK_new]
    by_cases hb : b = HN h
    · rw [if_pos hb]
      exact ⟨hkd, q, by unfold adN; rw [if_pos hb]⟩
    · rw [if_neg hb]
      obtain ⟨k1, q', k2⟩ := s8 b h1 (by omega)
      exact ⟨k1, q', by rw [adN_ext b (by omega)]; exact k2⟩
theorem ty_uniq {cA : ClassId} {ty : FieldType} {k : Nat} {cB : ClassId} (hK1 : va_K (xD x) clL (tysL x ++ [(cA, ty)]) s) (hk : (tysL x)[k]? = some (cB, ty)) : cA = cB := by
  have h1 := (hK1.2 (tysL x).length (cA, ty) (by simp)).2
  have h2 := (hK1.2 k (cB, ty) (by rw [List.getElem?_append_left (by exact (List.getElem?_eq_some_iff.mp hk).1)]; exact hk)).2
  unfold va_RA at h1 h2
  cases ty with
  | object C =>
    obtain ⟨_, _, _, _, _, e1⟩ := h1
    obtain ⟨_, _, _, _, _, e2⟩ := h2
    exact Option.some.inj (e1.symm.trans e2)
  | _ => exact Option.some.inj (h1.symm.trans h2)
theorem va_K_sub0 {cA : ClassId} {ty : FieldType} (hK : va_K (xD x) clL (tysL x) s) (h9 : va_K (xD x) clL (tysL x ++ [(cA, ty)]) s) : va_K (xD x) clL (tysL x) s := hK
theorem fndNew_in {o i kd : Nat} : ∀ {l : List (Nat × Nat × Nat × List Nat)}, fndNew l o i kd = true → ∃ r ∈ l, r.1 = o ∧ r.2.1 = i ∧ r.2.2.1 = kd
  | [], h => by cases h
  | r :: l, h => by
    simp only [fndNew, Bool.or_eq_true, Bool.and_eq_true] at h
    rcases h with h | h
    · exact ⟨r, List.mem_cons_self, Nat.eq_of_beq_eq_true h.1.1, Nat.eq_of_beq_eq_true h.1.2, Nat.eq_of_beq_eq_true h.2⟩
    · obtain ⟨r', h1, h2⟩ := fndNew_in h
      exact ⟨r', List.mem_cons_of_mem _ h1, h2⟩
theorem new_at (hT : TOK) {o i kd : Nat} (h : fndNew newA o i kd = true) : 1 ≤ kd ∧ kd ≤ 10 ∧ Cond.classLink (cn o) i (RRa kd) ∈ TW ∧ Cond.instantiable (RRa kd) (NNa kd) ∈ TW ∧ Cond.initialized (RRa kd) ∈ TW := by
  obtain ⟨r, hr, rfl, rfl, rfl⟩ := fndNew_in h
  have h1 := List.all_eq_true.mp hT.2.1 r hr
  unfold chkNew at h1
  split at h1
  · simp only [Bool.and_eq_true] at h1
    obtain ⟨⟨⟨⟨a, b⟩, c⟩, d⟩, e⟩ := h1
    exact ⟨Nat.le_of_ble_eq_true a, Nat.le_of_ble_eq_true b, tw_of c, tw_of d, tw_of e⟩
  · cases h1
theorem fv_new {kd q j : Nat} (h1 : 1 ≤ kd) (h2 : kd ≤ 10) (hj : j < NNa kd) (h0 : xC x 0 = none) (ha : ad 0 = xC x 0) (hpos : 0 < HN h) : fv (adN ad (HN h) q) (hnew h kd (NNa kd)) (HN h) kd j = defaultValue (tta kd j) := by
  have hn := nna_at kd h2
  have hI : HI (hnew h kd (NNa kd)) (HN h) j = 0 := congrFun (u1_eq (f := HI h)) j
  have hR : HR (hnew h kd (NNa kd)) (HN h) j = 0 := congrFun (u1_eq (f := HR h)) j
  have hz : adN ad (HN h) q 0 = none := by rw [adN_ext 0 hpos, ha, h0]
  unfold fv
  rw [hI, hR, hz]
  have h9 := ftc_at kd h2 j (by omega)
  cases ht : tta kd j <;> rw [ht] at h9 <;> simp [ftc] at h9 <;> rfl
theorem m_new (hT : TOK) (F : FX p m c meth s args y) (hK : va_K (xD x) clL (tysL x) s) (h0 : xC x 0 = none) (S : St x ad h H) (hS : va_S (fr x) s.heap H locs) (hB : xB x ≤ s.heap.size) {i kd : Nat} (hf : fndNew newA (yo y) i kd = true) (hd : decode (yb y) pc = .ok (.new i, 3)) (hc : cells + 1 ≤ R.cells) (hs : slots + NNa kd ≤ R.slots)
    (kk : ∀ (q : Nat) (H1 : Heap), St x (adN ad (HN h) q) (hnew h kd (NNa kd)) H1 → va_S (fr x) s.heap H1 locs → W p l e R s m args below meth c H1 locs (cells + 1) (slots + NNa kd) Q (F0 m (pc + 3) rls (va_rf (adN ad (HN h) q (HN h)) :: rest))) : W p l e R s m args below meth c H locs cells slots Q (F0 m pc rls rest) := by
  obtain ⟨h1, h2, w1, w2, w3⟩ := new_at hT hf
  obtain ⟨fx, fb, -, fo, ft, -⟩ := F
  refine va_new (D := xD x) (ci := kd - 1) (C := RRa kd) (T := TTa kd) (N := NNa kd) fx fb ft (lay_in hT h1 h2) (tta kd) (tt_at h1 h2) fo (ft _ w1) (ft _ w2) (ft _ w3) hK S.1 S.2.1 hS (fun q hq => Nat.le_trans hB hq) (clL_at h1 h2) (fs := (List.range (NNa kd)).map (fun j => defaultValue (tta kd j))) (fun j hj => ?_) hc hs hd (fun q H1 P Dd S1 => ?_)
  · unfold vp_V
    rw [List.getD_eq_getElem?_getD, List.getElem?_map, List.getElem?_range hj]
    rfl
  · have he : cE x (adN ad (HN h) q) (hnew h kd (NNa kd)) (HN h) = .inr (kd - 1, (List.range (NNa kd)).map (fun j => defaultValue (tta kd j))) := by
      rw [cE_obj (kd := kd) h2 (by rw [HK_new, if_pos rfl])]
      congr 2
      apply List.map_congr_left
      intro j hj
      exact fv_new h1 h2 (List.mem_range.mp hj) h0 (S.2.2.2.2.1 0 (by omega)) (by have := S.2.2.1; omega)
    have h9 := kk q H1 (S.mk1 (Or.inl ⟨h1, h2⟩) he P Dd) S1
    rw [show adN ad (HN h) q (HN h) = some q by unfold adN; rw [if_pos rfl]] at h9
    exact h9
/-- new T[n], T a type of numbers -/
theorem m_newa (hT2 : TOK2) (F : FX p m c meth s args y) (hK : va_K (xD x) clL (tysL x) s) (S : St x ad h H) (hS : va_S (fr x) s.heap H locs) (hB : xB x ≤ s.heap.size) {at_ : ArrayType} {kd k : Nat} {n : Int32} {ty : FieldType} {a0 : vp_A} (ht : newarray.typeOf at_ = ty) (hty : Cond.arrayClass ty ∈ fixW) (hk : (tysL x)[k]? = some (xA x kd, ty)) (hkd : KOK kd)
    (ha : ∀ cA : ClassId, vp_cell cA a0 = arrV cA n.toNatClampNeg (fun _ => defaultValue ty)) (he : ∀ q, cE x (adN ad (HN h) q) (hnew h kd n.toNatClampNeg) (HN h) = .inl (xA x kd, a0)) (hd : decode (yb y) pc = .ok (.newarray at_, 2)) (hn : (decide (0 ≤ n) && decide (n ≤ 100000)) = true) (hby : componentBytes ty ≤ 8) (hc : cells + 1 ≤ R.cells) (hs : slots + n.toNatClampNeg ≤ R.slots)
    (kk : ∀ (q : Nat) (H1 : Heap), St x (adN ad (HN h) q) (hnew h kd n.toNatClampNeg) H1 → va_S (fr x) s.heap H1 locs → W p l e R s m args below meth c H1 locs (cells + 1) (slots + n.toNatClampNeg) Q (F0 m (pc + 2) rls (va_rf (adN ad (HN h) q (HN h)) :: rest))) : W p l e R s m args below meth c H locs cells slots Q (F0 m pc rls (.int n :: rest)) := by
  obtain ⟨fx, fb, -, fo, ft, -⟩ := F
  simp only [Bool.and_eq_true, decide_eq_true_eq] at hn
  have hn0 : ¬ n < 0 := Int32.not_lt.mpr hn.1
  obtain ⟨j, hj, ej⟩ := nI_of2 (M := 100000) (n := 100000) (by decide) hn0 hn.2
  have ec : n.toNatClampNeg = j := by rw [ej]; exact nI_clamp (by omega)
  have hw : (Cond.arrayClass (newarray.typeOf at_)).before args s = true := by rw [ht]; exact ft _ (chkFix_in hT2.1 _ hty)
  refine va_newa fx fb hw ht hK S.1 S.2.1 hS (fun q hq => Nat.le_trans hB hq) (a0 := a0) (N' := n.toNatClampNeg) ha hn0 rfl (by rw [ec]; exact Nat.le_trans (Nat.mul_le_mul hj hby) (by decide)) hc hs hd (fun q cA H1 hK1 P Dd S1 => ?_)
  have e1 := ty_uniq hK1 hk
  subst e1
  have h9 := kk q H1 (S.mk1 hkd (he q) P Dd) S1
  rw [show adN ad (HN h) q (HN h) = some q by unfold adN; rw [if_pos rfl]] at h9
  exact h9
end ROWS3
end
section
/-! A THROW of java.util.NoSuchElementException: its constructor's link has another number than the kit's rows take -/
def nseN : String := "java/util/NoSuchElementException"
abbrev rteN : String := "java/lang/RuntimeException"
def atN (own : String) (ic : Nat) : List Cond := Bundle.throwableAtoms ++ Bundle.throwableSAtoms ++ (Bundle.passSAtoms nseN rteN 13 prog_37_method_4_code ++ Bundle.chainSAtoms rteN ["java/lang/Exception"]) ++
  [.methodLink own ic (Bundle.initS nseN), .instantiable nseN 6, .castable nseN nseN, .selects nseN Bundle.tFill0 Bundle.tFill0, .selects nseN Bundle.tFill Bundle.tFill, .lays nseN Bundle.tN "cause" "Ljava/lang/Throwable;", .lays nseN Bundle.tN "stackTrace" Bundle.steD, .lays nseN Bundle.tN "suppressedExceptions" Bundle.listD, .lays nseN Bundle.tN "detailMessage" "Ljava/lang/String;",
   .isRef (.static Bundle.tN "UNASSIGNED_STACK" Bundle.steD), .isRef (.static Bundle.tN "SUPPRESSED_SENTINEL" Bundle.listD), .fieldLink Bundle.tN 198 Bundle.tN "backtrace" "Ljava/lang/Object;", .lays Bundle.tN Bundle.tN "backtrace" "Ljava/lang/Object;", .lays nseN Bundle.tN "backtrace" "Ljava/lang/Object;"]
theorem nse_fit : Bundle.fit nseN = true := by decide +kernel
theorem rte_fit : Bundle.fit rteN = true := by decide +kernel
theorem exc_fit : ∀ n ∈ ["java/lang/Exception"], Bundle.fit n = true := by
  intro n hn
  rw [List.mem_singleton.mp hn]
  decide +kernel
section NSE
variable {p : Program} {l : Launch} {e : Env} {R : Room} {s : State} {m₀ : MethodId} {args : Array Value} {below : List Frame} {meth : Method} {c : Code} {W₀ : State} {locs : List Loc} {cells slots : Nat}
set_option maxHeartbeats 4000000 in
theorem nse_ctor (X : Stand p l e R s m₀ args below meth c W₀ locs cells slots) (hexec : p.tables.exec = Jvm.exec) (htr : e.platform.stackTraces = false) {own : String} {ic : Nat}
    (hown : s.vm.findClass own = some m₀.cls) (h : ∀ a ∈ atN own ic, a.before args s = true) (hlocs : ∀ x ∈ locs, ∀ cell, s.heap[x.base]? = some cell → cell.vm.isStatics = false)
    {a : Addr} {cX : ClassId} {kX : Class} (hfoundX : s.vm.findClass nseN = some cX) (hkX : s.vm.classes[cX]? = some kX) (hcell : W₀.heap[a]? = some (freshCell cX kX)) (hnew : s.heap.size ≤ a)
    {msg : Value} (hmsg : msg.isRef = true) {g : JFrame} (hg : g.method = m₀) (hsize : g.locals.size = c.maxLocals) (hlocked : g.locked = none) (hentered : g.entered = []) {rest : List Value} (hstack : g.stack = msg :: .ref a :: .ref a :: rest)
    (hd6 : decode c.code g.pc = .ok (.invokespecial ic, 3)) (hd9 : decode c.code (g.pc + 3) = .ok (.athrow, 1)) (hout : ∀ x ∈ c.exceptionTable.toList, covers x (g.pc + 3) = false)
    (hRframes : 2 + 3 < R.frames) (hRlocals : 2 * g.monitorRoom + ((Value.ref a :: rest).map fun v => v.category).sum + (13 * (2 + 1) + 42) ≤ R.locals) (hlocks : meth.locks = false) :
    ∃ U : State, Steps p.tables e below (W₀.setTop g) U ∧ U.status = .running ∧ Ended U below (.threw a) ∧ s.WarmedH U.vm ∧ s.sameButNew ({ U with vm := s.vm } : State) locs cells slots ∧
      ∃ ce, U.heap[a]? = some ce ∧ ce.vm = .none ∧ s.vm.findClass nseN = some ce.cls := by
  have howns : e.platform.frameOwnsMonitors = true := by rw [X.admits.platform]
  have hfin : e.platform.finalization = false := by rw [X.admits.platform]
  have hpl : e.platform.magicAccessors = ({} : Platform).magicAccessors := by rw [X.admits.platform]
  have a' : ∀ x, x ∈ atN own ic → x.holds args s none s [] = true := fun x hx => h x hx
  obtain ⟨T, Z0, L, -, Y⟩ := ThrowableC.of_atoms (args := args) howns hfin hpl (fun x hx => h x (by simp [atN, hx]))
  obtain ⟨Z, M, LZ, LM, hnZ⟩ := Init0T.ofS_atoms (args := args) hpl L Y (fun x hx => h x (by simp [atN, hx]))
  obtain ⟨P1, L1, hP1m, hs1⟩ := PassC.ofS_atoms (args := args) (s := s) hpl (X := nseN) (Y := rteN) (index := 13) (bytes := prog_37_method_4_code) (Bundle.fit_spec nse_fit).1 (Bundle.fit_spec rte_fit).2 (by decide +kernel) (by decide +kernel) (by decide +kernel) (by decide +kernel) (fun x hx => h x (by simp [atN, hx]))
  obtain ⟨P2, Ps, hlen, L2, hL, hP2m, hlink2, hlinks⟩ := Bundle.chainS (args := args) hpl hnZ ["java/lang/Exception"] rteN rte_fit exc_fit (fun x hx => h x (by simp [atN, hx]))
  have hlink1 : P1.sup = P2.m := Option.some.inj (hs1.symm.trans hP2m)
  have hfound : s.vm.findClass nseN = some P1.m.cls := findClass_of_methodNamed hP1m
  cases Option.some.inj (hfoundX.symm.trans hfound)
  obtain ⟨c1, kX', hc1, hk, hord, -, -, hn6⟩ := Cond.instantiable_spec (a' (.instantiable nseN 6) (by simp [atN]))
  cases Option.some.inj (hc1.symm.trans hfound)
  cases Option.some.inj (hkX.symm.trans hk)
  have hsel0 : selectMethod e.platform s.vm P1.m.cls T.fill0 = .method T.fill0 := by
    obtain ⟨c2, r2, m2, q1, q2, q3, q4, -⟩ := Cond.selects_spec (a' (.selects nseN Bundle.tFill0 Bundle.tFill0) (by simp [atN]))
    cases Option.some.inj (q1.symm.trans hfound)
    cases Option.some.inj (q2.symm.trans (State.methodFound?_of_named Y.fill0 (by decide)))
    cases Option.some.inj (q3.symm.trans Y.fill0)
    rw [Launch.admits_selectMethod X.admits]; exact q4
  have hselF : selectMethod e.platform s.vm P1.m.cls T.fill = .method T.fill := by
    obtain ⟨c2, r2, m2, q1, q2, q3, q4, -⟩ := Cond.selects_spec (a' (.selects nseN Bundle.tFill Bundle.tFill) (by simp [atN]))
    cases Option.some.inj (q1.symm.trans hfound)
    cases Option.some.inj (q2.symm.trans (State.methodFound?_of_named Y.fill (by decide)))
    cases Option.some.inj (q3.symm.trans Y.fill)
    rw [Launch.admits_selectMethod X.admits]; exact q4
  obtain ⟨cellS0, hcS0, hiss⟩ := Y.statics
  obtain ⟨u0, hu0⟩ := Cond.staticRefV Y.unassigned L.unassignedStatic L.statics hcS0 hiss (a' (.isRef (.static Bundle.tN "UNASSIGNED_STACK" Bundle.steD)) (by simp [atN]))
  obtain ⟨sen, hsen⟩ := Cond.staticRefV Y.sentinel L.sentinelStatic L.statics hcS0 hiss (a' (.isRef (.static Bundle.tN "SUPPRESSED_SENTINEL" Bundle.listD)) (by simp [atN]))
  obtain ⟨ci198, i198, fB, hk198, hg198, ha198, hsB, -, hnB, htB, hffB⟩ := Cond.ownField (t := .object "java/lang/Object") Y.found L.cls (by decide +kernel) (a' (.fieldLink Bundle.tN 198 Bundle.tN "backtrace" "Ljava/lang/Object;") (by simp [atN])) (a' (.lays Bundle.tN Bundle.tN "backtrace" "Ljava/lang/Object;") (by simp [atN])) e.platform hpl
  obtain ⟨cellS, hcS', heS, -, hkeep⟩ := X.same.2.2.2.2.2 T.aS cellS0 hcS0
  have hcellS : W₀.heap[T.aS]? = some cellS := hcS'
  have hout' : ∀ i, (⟨T.aS, i⟩ : Loc) ∉ locs := fun i hmem => by
    have := hlocs _ hmem cellS0 hcS0
    rw [hiss] at this; cases this
  have hknownS : cellS.vm ≠ .unknown := by
    rw [heS]; intro hu
    rw [show cellS0.vm = .unknown from hu] at hiss
    cases hiss
  have hneS : T.aS ≠ a := Nat.ne_of_lt (Nat.lt_of_lt_of_le (Array.getElem?_eq_some_iff.mp hcS0).1 hnew)
  obtain ⟨iM, hffM⟩ := Y.msg
  obtain ⟨tyC, dC, hdC, hdnC⟩ := Cond.laysAt hfound hk Y.cause (a' (.lays nseN Bundle.tN "cause" "Ljava/lang/Throwable;") (by simp [atN]))
  obtain ⟨tyS, dS, hdS, hdnS⟩ := Cond.laysAt hfound hk Y.stack (a' (.lays nseN Bundle.tN "stackTrace" Bundle.steD) (by simp [atN]))
  obtain ⟨tyP, dP, hdP, hdnP⟩ := Cond.laysAt hfound hk Y.supp (a' (.lays nseN Bundle.tN "suppressedExceptions" Bundle.listD) (by simp [atN]))
  obtain ⟨tyM, dM, hdM, hdnM⟩ := Cond.laysAt hfound hk hffM (a' (.lays nseN Bundle.tN "detailMessage" "Ljava/lang/String;") (by simp [atN]))
  obtain ⟨tyB, dB, hdB, hdnB⟩ := Cond.laysAt hfound hk hffB (a' (.lays nseN Bundle.tN "backtrace" "Ljava/lang/Object;") (by simp [atN]))
  have bC := Cond.laysApart hdB hdC hdnB hdnC (by rw [hnB, Y.causeName]; decide)
  have bS := Cond.laysApart hdB hdS hdnB hdnS (by rw [hnB, Y.stackName]; decide)
  have bP := Cond.laysApart hdB hdP hdnB hdnP (by rw [hnB, Y.suppName]; decide)
  have hskip : SkipFacts T e.platform s (fun u => u) u0 ((preparedCellV T.toThrowableT (freshCell P1.m.cls kX) a u0 sen).withEntry W₀.cur) :=
    ⟨{ ci198 := ci198, i198 := i198, fBack := fB }, ⟨hk198, hg198, ha198, hsB⟩, by
      have := fresh_default (c := P1.m.cls) tyB
      rw [htB] at this
      simpa [preparedCellV, Cell.setSlot, Cell.withEntry, Array.getElem?_setIfInBounds, bC, bS, bP, bC.symm, bS.symm, bP.symm, defaultValue] using this, fun _ _ => rfl⟩
  obtain ⟨tm, methC, cdC, kC, vm₁, hnC, -, -, -, -, -, -, -, hW₁, st1⟩ := Steps.initColdS (tb := p.tables) (e := e) (below := below) (s := s) (U := W₀) X.here hexec X.warmed hpl hown (t := Bundle.initS nseN) rfl rfl (Bundle.fit_spec nse_fit).2
    (a' (.methodLink own ic (Bundle.initS nseN)) (by simp [atN])) (h (.instanceMethod (Bundle.initS nseN)) (by simp [atN, Bundle.passSAtoms])) (bytes := prog_37_method_4_code) (maxL := 2) (h (.code (Bundle.initS nseN) prog_37_method_4_code 2 none) (by simp [atN, Bundle.passSAtoms]))
    (f := g) hg (a := a) (msg := msg) (rest := .ref a :: rest) hstack hd6
  cases Option.some.inj (hnC.symm.trans hP1m)
  have X₁ := X.noted hW₁
  obtain ⟨vm₂, X₂, st2⟩ := X₁.ctorMessageOffV hexec (g := { g with stack := .ref a :: rest }) hg hsize T L Z LZ M LM (P1 :: P2 :: Ps)
    (fun P hP => by
      rcases List.mem_cons.mp hP with rfl | hP
      · exact L1
      · rcases List.mem_cons.mp hP with rfl | hP
        · exact L2
        · exact hL P hP) ⟨hlink1, hlink2, hlinks⟩ (u0 := u0) (sen := sen) (self := a) hmsg (cell := freshCell P1.m.cls kX) (cellS := cellS)
    hcell (fun _ => by simp) (by simp) rfl rfl hsel0 hselF hcellS hneS hknownS (by rw [hkeep _ (hout' _)]; exact hu0) (by rw [hkeep _ (hout' _)]; exact hsen)
    (Takes.of_laid hk hord tyC (by rw [Y.causeType]; rfl)) (Takes.of_laid hk hord tyS (by rw [Y.stackType]; exact fits_refV_array _ u0)) (Takes.of_laid hk hord tyP (by rw [Y.suppType]; exact fits_refV_object _ sen))
    (Takes.of_laid hk hord tyM (by rw [Y.msgType]; exact fits_refV_object _ ⟨msg, hmsg⟩)) Y.objLocals hskip htr [] hd6
    (by simp only [List.length_cons, hlen]; exact hRframes) (by simp only [List.length_cons, hlen]; exact hRlocals)
  obtain ⟨hwalk, hrun, hended, hWU, hsame⟩ := X₂.athrowLeaves hexec (g := { g with stack := .ref a :: rest, pc := g.pc + 3 }) hg hlocked hentered hout (a := a) (rest := rest) rfl hd9
  have hlt : a < ((W₀.setVm vm₁).setVm vm₂).heap.size := (Array.getElem?_eq_some_iff.mp hcell).1
  have hU := heapAt_setCell_self (s := (W₀.setVm vm₁).setVm vm₂) (plainBareV T.toThrowableT (freshCell P1.m.cls kX) a u0 sen msg) hlt
  refine ⟨_, st1 _ (fun acts => ?_), hrun, hended, hWU, hsame.weaken (fun y hy hlt' => ?_) (Nat.le_refl _) (Nat.le_refl _), _, hU, rfl, hfoundX⟩
  · rw [doInvoke_state]
    exact st2 _ hwalk
  · rcases List.mem_append.mp hy with h1 | h1
    · exact h1
    · exfalso
      have hb : y.base = a := by
        simp only [List.mem_cons, List.not_mem_nil, or_false] at h1
        rcases h1 with rfl | rfl | rfl | rfl | rfl <;> rfl
      rw [hb] at hlt'
      exact Nat.not_lt.mpr hnew hlt'
end NSE
section NSE2
variable {p : Program} {l : Launch} {e : Env} {R : Room} {s : State} {m : MethodId} {args : Array Value} {below : List Frame} {meth : Method} {c : Code} {H : Heap} {locs : List Loc} {cells slots : Nat}
variable {Qc : Array Value → State → Outcome → State → Prop} {XC : String → State → State → Prop} {free : Addr → Prop} {ls : Array Slot} {rest : List Value}
/-- 'throw new NoSuchElementException("text")', the text by ldc (wd: by ldc_w) -/
theorem nse_throw {cc : ByteArray} {pc : Nat} (hexec : p.tables.exec = Jvm.exec) (hb : c.code = cc) (hl : l.stackTraces = false) {own text : String} {ik is ic mc ms sa : Nat} {A : Nat → Prop}
    (hown : s.vm.findClass own = some m.cls) (hk : (Cond.classLink own ik nseN).before args s = true) (hini : (Cond.initialized nseN).before args s = true) (hstr : vk_R own is text sa s) (hat : ∀ w ∈ (atN own ic).filter vx_no, w.before args s = true)
    (hgood : ∀ w ∈ Cond.classLink own ik nseN :: Cond.initialized nseN :: (atN own ic).filter vx_no, vx_ot w = true)
    (hU : vx_Zq Bundle.tN "UNASSIGNED_STACK" Bundle.steD A s s.heap) (hN : vx_Zq Bundle.tN "SUPPRESSED_SENTINEL" Bundle.listD A s s.heap) (hS : va_S A s.heap H locs) (hsize : ls.size = c.maxLocals) (w : Nat)
    (d0 : decode cc pc = .ok (.new ik, 3)) (d3 : decode cc (pc + 3) = .ok (.dup, 1)) (d4 : (w = 6 ∧ decode cc (pc + 4) = .ok (.ldc is, 2)) ∨ (w = 7 ∧ decode cc (pc + 4) = .ok (.ldc_w is, 3))) (d7 : decode cc (pc + w) = .ok (.invokespecial ic, 3)) (d10 : decode cc (pc + w + 3) = .ok (.athrow, 1))
    (hout : ∀ n : Nat, ∀ x ∈ c.exceptionTable.toList, covers x n = false)
    (hRframes : 2 + 3 < R.frames) (hRlocals : (rest.map fun v => v.category).sum + (13 * (2 + 1) + 43) ≤ R.locals) (hRcells : cells + 1 ≤ R.cells) (hRslots : slots + 6 ≤ R.slots) (hlocks : meth.locks = false)
    (hx : ∀ t : State, s.vm.Alike t.vm → H.size ≤ t.heap.size → (∀ q : Nat, q < H.size → t.heap[q]? = H[q]?) → XC nseN s t)
    (hf : ∀ z ∈ locs, free z.base) (hc : cells + 1 ≤ mc) (hs : slots + 6 ≤ ms) :
    W p l e R s m args below meth c H locs cells slots (vx_MQ below Qc XC args s mc ms free) (F0 m pc ls rest) := by
  intro T hT X
  have htr : e.platform.stackTraces = false := (show e.platform.stackTraces = l.stackTraces by rw [X.admits.platform]).trans hl
  have Y := vx_rebase X (R' := { frames := R.frames, locals := R.locals, cells := 1, slots := 6 }) (Nat.le_refl _) (Nat.le_refl _) hRcells hRslots
  obtain ⟨s', hA⟩ : ∃ z, z = (T.setVm s.vm).setFrames (.invoking m args :: below) := ⟨_, rfl⟩
  rw [← hA] at Y
  have hvm : s'.vm = s.vm := by rw [hA]; rfl
  have hhp : s'.heap = H := by rw [hA]; exact hT
  have hW0 : s.WarmedH s'.vm := by rw [hvm]; exact State.WarmedH.refl s
  have hat' : ∀ w ∈ (atN own ic).filter vx_no, w.before args s' = true := fun w hw => vx_ot_at hW0 hvm.symm (hgood w (List.mem_cons_of_mem _ (List.mem_cons_of_mem _ hw))) (hat w hw)
  have hk' : (Cond.classLink own ik nseN).before args s' = true := vx_ot_at hW0 hvm.symm (hgood _ List.mem_cons_self) hk
  have hini' : (Cond.initialized nseN).before args s' = true := vx_ot_at hW0 hvm.symm (hgood _ (List.mem_cons_of_mem _ List.mem_cons_self)) hini
  have hU' : vx_Zq Bundle.tN "UNASSIGNED_STACK" Bundle.steD A s' s'.heap := by rw [hhp]; exact vx_Zq.moved hW0.alike (hU.kept hS.2.1)
  have hN' : vx_Zq Bundle.tN "SUPPRESSED_SENTINEL" Bundle.listD A s' s'.heap := by rw [hhp]; exact vx_Zq.moved hW0.alike (hN.kept hS.2.1)
  have h : ∀ w ∈ atN own ic, w.before args s' = true := vx_own hat' (vx_isRefq hU'.1) (vx_isRefq hN'.1) hU'.2.word hN'.2.word
  have hown' : s'.vm.findClass own = some m.cls := by rw [hvm]; exact hown
  have hins : (Cond.instantiable nseN 6).before args s' = true := h _ (by simp [atN])
  obtain ⟨vm₁, cX, kX, hfX, hkX, -, -, X₁, st1⟩ := Y.newCold hexec (own := own) (C := nseN) (index := ik) (n := 6) hown' hk' hins hini'
    (g := F0 m pc ls rest) rfl (by rw [hb]; exact d0) (Nat.le_refl _) (Nat.le_refl _)
  generalize hT1 : (T.setVm vm₁).pushCell { cls := cX, slots := kX.instanceTypes.map defaultValue, vm := .none } = T1 at X₁ st1
  have hcat : (Value.ref T.heap.size).category = 1 := rfl
  have hcellA : T1.heap[T.heap.size]? = some (freshCell cX kX) := by rw [← hT1]; exact State.heap_pushCell_size _ _
  have d3' : decode c.code (pc + 3) = .ok (.dup, 1) := by rw [hb]; exact d3
  have hstr' : vk_R own is text sa s' := vk_R.warm hW0 hstr
  obtain ⟨U, hsteps, hrun, hend, hW, hsame, ce, hce, hO1, hO2⟩ := nse_ctor X₁ hexec htr (own := own) (ic := ic) hown' h (fun x hx => nomatch hx) hfX hkX hcellA (by rw [hhp, hT]; exact Nat.le_refl _) (msg := .ref sa) rfl
    (g := { method := m, pc := pc + w, locals := ls, stack := .ref sa :: .ref T.heap.size :: .ref T.heap.size :: rest, locked := none }) rfl hsize rfl rfl (rest := rest) rfl
    (by rw [hb]; exact d7) (by rw [hb]; exact d10) (hout _) hRframes (by simp only [List.map_cons, List.sum_cons, hcat]; show 2 * 0 + _ + _ ≤ _; omega) hlocks
  obtain ⟨f1, f2⟩ := vx_frame hsame
  rw [hhp] at f1 f2
  have hWs : s.WarmedH U.vm := State.WarmedH.trans hW0 hW
  have hcl : s.vm.findClass nseN = some ce.cls := by
    rw [hvm] at hO2
    exact hO2
  have hall : s.sameButNew ({ U with vm := s.vm } : State) locs mc ms := by
    subst hA
    obtain ⟨e1, e2⟩ := hsame
    rw [State.setFrames_setFrames] at e1
    have h2 : (T.setVm s.vm).sameButNew ({ U with vm := s.vm } : State) [] (0 + 1) (0 + 6) := ⟨e1, e2⟩
    have h3 := X.same.trans h2
    rw [List.append_nil] at h3
    exact h3.mono hc hs
  refine ⟨U, ?_, .threw T.heap.size, hrun, hend, Or.inr ⟨T.heap.size, rfl, nseN, ce, locs, hx U hWs.alike f1 (fun q hq => f2 q hq (fun z hz => nomatch hz)), hce, hO1, hcl, hWs, hall, hf⟩⟩
  refine st1 _ ?_
  show Steps p.tables e below (T1.setTop { method := m, pc := pc + 3, locals := ls, stack := .ref T.heap.size :: rest, locked := none }) _
  jvm_step X₁.here [X₁.here.top, hexec, d3', Value.category]
  rcases d4 with ⟨rfl, d4⟩ | ⟨rfl, d4⟩
  · have d4' : decode c.code (pc + 4) = .ok (.ldc is, 2) := by rw [hb]; exact d4
    exact X₁.ldcString hexec (own := own) (text := text) (index := is) (a := sa) hown' hstr'.1 hstr'.2
      (g := { method := m, pc := pc + 4, locals := ls, stack := .ref T.heap.size :: .ref T.heap.size :: rest, locked := none }) rfl d4' _ hsteps
  · have d4' : decode c.code (pc + 4) = .ok (.ldc_w is, 3) := by rw [hb]; exact d4
    exact X₁.ldcStringW hexec (own := own) (text := text) (index := is) (a := sa) hown' hstr'.1 hstr'.2
      (g := { method := m, pc := pc + 4, locals := ls, stack := .ref T.heap.size :: .ref T.heap.size :: rest, locked := none }) rfl d4' _ hsteps
end NSE2
end
section
/-! ROWS of the old world: statics, literals, strings, Object's constructor, Math, copies -/
def nestA : List (Nat × Nat × Nat × String) := [(2, 11, 0, "RecordReconciler"), (2, 20, 1, "RecordReconciler"), (0, 31, 4, "RecordReconciler"), (0, 38, 5, "RecordReconciler"), (0, 45, 6, "RecordReconciler"), (2, 49, 18, "RecordReconciler"), (2, 53, 10, "RecordReconciler"), (7, 95, 18, "RecordReconciler")]
def exN (c : Nat) : String := match c with
  | 1 => "java/lang/IllegalArgumentException" | 2 => "java/lang/IllegalStateException" | 3 => "java/lang/IndexOutOfBoundsException" | 4 => "java/util/NoSuchElementException" | _ => "java/lang/ArithmeticException"
def exU : List String := ["java/lang/RuntimeException", "java/lang/Exception"]
def ikE (e : Nat) : Nat := match e with | 1 => 86 | 2 => 98 | 3 => 179 | 4 => 93 | _ => 263
def icE (e : Nat) : Nat := match e with | 1 => 90 | 2 => 102 | 3 => 183 | 4 => 97 | _ => 267
def exL (e : Nat) : List Cond := if e = 4 then (atN "RecordReconciler" (icE e)).filter vx_no else vx_atS "RecordReconciler" (icE e) (exN e) exU
def exW (e : Nat) : List Cond := Cond.classLink "RecordReconciler" (ikE e) (exN e) :: Cond.initialized (exN e) :: exL e
/-- words that are held beside the good ones -/
def isDC (w : Cond) : Bool := match w with
  | .declares _ => true
  | .castable _ _ => true
  | _ => false
theorem exW_dc : ∀ e, 1 ≤ e → e ≤ 5 → (exW e).all (fun w => goodWord w || isDC w) = true := by
  intro e h1 h2
  rcases (show e = 1 ∨ e = 2 ∨ e = 3 ∨ e = 4 ∨ e = 5 by omega) with rfl | rfl | rfl | rfl | rfl <;> decide +kernel
theorem exW_cast : ∀ e, 1 ≤ e → e ≤ 5 → Cond.castable (exN e) (exN e) ∈ exW e := by
  intro e h1 h2
  refine List.mem_cons_of_mem _ (List.mem_cons_of_mem _ ?_)
  unfold exL
  split
  · rename_i h4
    subst h4
    exact List.mem_filter.mpr ⟨by simp [atN, nseN, exN], rfl⟩
  · exact List.mem_filter.mpr ⟨by simp [Bundle.ownAtoms], rfl⟩
theorem dc_warm {w : Cond} (h : isDC w = true) {s U : State} (hW : s.WarmedH U.vm) (hZ : va_Nw w s) : va_Nw w U := by
  unfold isDC at h
  split at h
  · exact hZ.warmD hW
  · exact hZ.warmC hW
  · cases h
theorem dc_tab {w : Cond} (h : isDC w = true) : w.onTables = true := by
  unfold isDC at h
  split at h
  · rfl
  · rfl
  · cases h
def stV (x : Ctx) (c : Nat) : Value := if c = 1 then .int 1 else va_rf (xC x (c - 100))
/-- all that is known of what was there before, besides the classes -/
def OLDs (x : Ctx) (U : State) (H : Heap) : Prop := OLD x U H ∧ (∀ r ∈ stzA, va_Z (stN r.2.2).1 (stN r.2.2).2.1 (stN r.2.2).2.2 (stV x r.2.2) (fr x) U H) ∧ (∀ r ∈ slsA, ∃ tx q, vk_R (cn r.1) r.2.1 tx q U ∧ xC x r.2.2 = some q) ∧ (∀ r ∈ thrA, ∃ tx q, vk_R (cn r.2.2.1) r.2.2.2.2.1 tx q U) ∧
  vx_Zq Bundle.tN "UNASSIGNED_STACK" Bundle.steD (fr x) U H ∧ vx_Zq Bundle.tN "SUPPRESSED_SENTINEL" Bundle.listD (fr x) U H ∧ (∀ c d : Nat, 1 ≤ c → c ≤ 5 → 1 ≤ d → d ≤ 5 → c ≠ d → va_Nc (exN c) (exN d) U) ∧ (∀ r ∈ nestA, va_Nw (.methodLinkNest (cn r.1) r.2.1 (yn r.2.2.1) r.2.2.2) U) ∧ va_AO "RecordReconciler$Book" U ∧ va_AOA .int U ∧ ∀ e, 1 ≤ e → e ≤ 5 → ∀ w ∈ exW e, goodWord w = false → va_Nw w U
theorem OLDs.kept {x : Ctx} {U : State} {H H1 : Heap} (h : OLDs x U H) (hq : ∀ a : Nat, a < H.size → ¬ fr x a → H1[a]? = H[a]?) : OLDs x U H1 := by
  obtain ⟨h1, h2, h3, h4, h5, h6, h7, h8, h9, h10, h11⟩ := h
  refine ⟨fun a ha => ⟨fun hk => ?_, fun hk => ?_, fun hk => ?_⟩, fun r hr => (h2 r hr).kept hq, h3, h4, h5.kept hq, h6.kept hq, h7, h8, h9, h10, h11⟩
  · obtain ⟨q, e, t⟩ := (h1 a ha).1 hk
    exact ⟨q, e, t.kept hq⟩
  · obtain ⟨q, e, t⟩ := (h1 a ha).2.1 hk
    exact ⟨q, e, t.kept hq⟩
  · obtain ⟨q, e, t1, t2, t3⟩ := (h1 a ha).2.2 hk
    exact ⟨q, e, t1.kept hq, t2.kept hq, t3.kept hq⟩
theorem OLDs.warm {x : Ctx} {u U : State} {H : Heap} (hW : u.WarmedH U.vm) (h : OLDs x u H) : OLDs x U H := by
  have hvm := hW.alike
  obtain ⟨h1, h2, h3, h4, h5, h6, h7, h8, h9, h10, h11⟩ := h
  refine ⟨fun a ha => ⟨fun hk => ?_, fun hk => ?_, fun hk => ?_⟩, fun r hr => (h2 r hr).moved hvm, fun r hr => ?_, fun r hr => ?_, h5.moved hvm, h6.moved hvm, fun c d a1 a2 a3 a4 a5 => (h7 c d a1 a2 a3 a4 a5).moved hvm, fun r hr => (h8 r hr).warmM hW, h9.moved hvm, h10.moved hvm, fun e a1 a2 w hw hg => dc_warm (by
    have h := List.all_eq_true.mp (exW_dc e a1 a2) w hw
    rw [hg, Bool.false_or] at h
    exact h) hW (h11 e a1 a2 w hw hg)⟩
  · obtain ⟨q, e, t⟩ := (h1 a ha).1 hk
    exact ⟨q, e, t.moved hvm⟩
  · obtain ⟨q, e, t⟩ := (h1 a ha).2.1 hk
    exact ⟨q, e, t.moved hvm⟩
  · obtain ⟨q, e, t1, t2, t3⟩ := (h1 a ha).2.2 hk
    exact ⟨q, e, t1.moved hvm, t2.moved hvm, t3.moved hvm⟩
  · obtain ⟨tx, q, e1, e2⟩ := h3 r hr
    exact ⟨tx, q, e1.warm hW, e2⟩
  · obtain ⟨tx, q, e1⟩ := h4 r hr
    exact ⟨tx, q, e1.warm hW⟩
section ROWS4
variable {p : Program} {l : Launch} {e : Env} {R : Room} {s : State} {m : MethodId} {args : Array Value} {below : List Frame} {meth : Method} {c : Code} {H : Heap} {locs : List Loc} {cells slots : Nat} {Q : State → Prop}
variable {x : Ctx} {ad : Nat → Option Nat} {h : Hp} {y pc : Nat} {rls : Array Slot} {rest : List Value}
theorem OLDs.go {U : State} (h : OLDs x s s.heap) (hS : va_S (fr x) s.heap H locs) (hU : U.heap = H) (hW : s.WarmedH U.vm) : OLDs x U U.heap := by
  rw [hU]
  exact (h.kept hS.2.1).warm hW
theorem m_gets (hT2 : TOK2) (F : FX p m c meth s args y) (hO : OLDs x s s.heap) (hS : va_S (fr x) s.heap H locs) {i k : Nat} (hf : fnd3 stzA (yo y) i k = true) (hd : decode (yb y) pc = .ok (.getstatic i, 3))
    (kk : W p l e R s m args below meth c H locs cells slots Q (F0 m (pc + 3) rls (stV x k :: rest))) : W p l e R s m args below meth c H locs cells slots Q (F0 m pc rls rest) :=
  va_gets F.1 F.2.1 (hO.2.1 _ (fnd3_in hf)) hS F.2.2.2.1 (F.2.2.2.2.1 _ (chkZip_in hT2.2.1 _ (fnd3_in hf))) (fun _ h => h) hd kk
theorem m_lds (F : FX p m c meth s args y) (hO : OLDs x s s.heap) {i a : Nat} (hf : fnd3 slsA (yo y) i a = true) (hd : decode (yb y) pc = .ok (.ldc i, 2))
    (kk : W p l e R s m args below meth c H locs cells slots Q (F0 m (pc + 2) rls (va_rf (xC x a) :: rest))) : W p l e R s m args below meth c H locs cells slots Q (F0 m pc rls rest) := by
  obtain ⟨tx, q, e1, e2⟩ := hO.2.2.1 _ (fnd3_in hf)
  dsimp only at e1 e2
  rw [e2] at kk
  exact va_ldcS F.1 F.2.1 F.2.2.2.1 e1 hd kk
theorem m_ldsw (F : FX p m c meth s args y) (hO : OLDs x s s.heap) {i a : Nat} (hf : fnd3 slsA (yo y) i a = true) (hd : decode (yb y) pc = .ok (.ldc_w i, 3))
    (kk : W p l e R s m args below meth c H locs cells slots Q (F0 m (pc + 3) rls (va_rf (xC x a) :: rest))) : W p l e R s m args below meth c H locs cells slots Q (F0 m pc rls rest) := by
  obtain ⟨tx, q, e1, e2⟩ := hO.2.2.1 _ (fnd3_in hf)
  dsimp only at e1 e2
  rw [e2] at kk
  intro T hT X
  obtain ⟨t, a1, b1⟩ := kk T hT X
  exact ⟨t, X.ldcStringW F.1 F.2.2.2.1 (text := tx) (a := q) e1.1 e1.2 (g := F0 m pc rls rest) rfl (by rw [F.2.1]; exact hd) t a1, b1⟩
theorem kc_str {L a : Nat} (h : (kcT L a).1 = 11) : 4 ≤ a ∧ a < 30 ∧ a % 2 = 0 := by
  unfold kcT at h
  repeat' split at h
  all_goals first | (simp at h; done) | omega
theorem m_getS (hT2 : TOK2) (F : FX p m c meth s args y) (hO : OLDs x s s.heap) (S : St x ad h H) (hS : va_S (fr x) s.heap H locs) {i n a : Nat} (hn : n = 705 ∨ n = 706) (hf : fnd3 stfA (yo y) i n = true) (hk : HK h a = 11) (hd : decode (yb y) pc = .ok (.getfield i, 3))
    (kk : W p l e R s m args below meth c H locs cells slots Q (F0 m (pc + 3) rls ((if n % 2 = 1 then va_rf (ad (HR h a 0)) else .int (HI h a 1)) :: rest))) : W p l e R s m args below meth c H locs cells slots Q (F0 m pc rls (va_rf (ad a) :: rest)) := by
  obtain ⟨o1, o2, o3, -, o5, o6⟩ := S.old hk (by omega)
  obtain ⟨z1, z2, z3⟩ := kc_str o2
  obtain ⟨q, hq, g1, g2, g3⟩ := (hO.1 a o1).2.2 o2
  have hw := F.2.2.2.2.1 _ (chkZip_in hT2.2.2.1 _ (fnd3_in hf))
  rw [o3, hq]
  rcases hn with rfl | rfl
  · have e1 : HR h a 0 = a + 1 := by
      rw [o6]
      unfold rcT
      rw [if_neg (by omega), if_pos z2, if_pos ⟨z3, rfl⟩]
    rw [if_pos (by decide), e1, S.2.2.2.2.1 (a + 1) (by omega)] at kk
    exact vk_getf F.1 F.2.1 g2 hS F.2.2.2.1 hw (fun _ h => h) hd kk
  · have e1 : HI h a 1 = 0 := by
      rw [o5]
      unfold icT
      rw [if_neg (by omega), if_neg (by omega), if_neg (by omega), if_pos z2, if_pos z3]
    rw [if_neg (by decide), e1] at kk
    exact vk_getf F.1 F.2.1 g3 hS F.2.2.2.1 hw (fun _ h => h) hd kk
/-- a cell of a kind stands at an address -/
theorem St.adr (S : St x ad h H) (hO : OLDs x s s.heap) {a : Nat} (hk : 0 < HK h a) : ∃ q, ad a = some q := by
  by_cases h9 : KOK (HK h a)
  · obtain ⟨q, hq, -⟩ := S.at h9
    exact ⟨q, hq⟩
  · have hlt : a < 31 := by
      rcases Nat.lt_or_ge a 31 with z | z
      · exact z
      · rcases Nat.lt_or_ge a (HN h) with z2 | z2
        · exact absurd (S.2.2.2.2.2.2.2 a z z2).1 h9
        · rw [S.2.2.2.2.2.1 a z2] at hk; omega
    have hkc : HK h a = (kcT (xL x) a).1 := by unfold HK; rw [(S.2.2.2.1 a hlt).1]
    rw [hkc] at hk
    rw [S.2.2.2.2.1 a hlt]
    rcases kc_cases (L := xL x) (a := a) with z | z | z | z
    · omega
    · obtain ⟨q, hq, -⟩ := (hO.1 a hlt).2.2 z; exact ⟨q, hq⟩
    · obtain ⟨q, hq, -⟩ := (hO.1 a hlt).1 z; exact ⟨q, hq⟩
    · obtain ⟨q, hq, -⟩ := (hO.1 a hlt).2.1 z; exact ⟨q, hq⟩
theorem m_oinit (hT2 : TOK2) (F : FX p m c meth s args y) (hO : OLDs x s s.heap) (S : St x ad h H) (hsz : rls.size = nl y) {i a : Nat} (hf : fnd3 oinA (yo y) i 0 = true) (hk : 0 < HK h a) (hd : decode (yb y) pc = .ok (.invokespecial i, 3)) (hR : 1 ≤ R.frames) (hW : (rest.map fun v => v.category).sum + 12 ≤ R.locals)
    (kk : W p l e R s m args below meth c H locs cells slots Q (F0 m (pc + 3) rls rest)) : W p l e R s m args below meth c H locs cells slots Q (F0 m pc rls (va_rf (ad a) :: rest)) := by
  obtain ⟨q, hq⟩ := S.adr hO hk
  rw [hq]
  exact W.objInit F.1 F.2.1 F.2.2.2.1 (F.2.2.2.2.1 _ (chkZip_in hT2.2.2.2.2.1 _ (fnd3_in hf))) (F.2.2.2.2.1 _ (chkFix_in hT2.1 _ (by unfold fixW; simp))) (F.2.2.2.2.1 _ (chkFix_in hT2.1 _ (by unfold fixW; simp))) (g := F0 m pc rls (.ref q :: rest)) rfl (by show rls.size = _; rw [hsz, F.2.2.1]) rfl hd hR (by show 2 * 0 + _ + 12 ≤ _; omega) kk
theorem m_min (hT2 : TOK2) (F : FX p m c meth s args y) (hsz : rls.size = nl y) {i : Nat} {a b : Int32} (hf : fnd3 mthA (yo y) i 1 = true) (hd : decode (yb y) pc = .ok (.invokestatic i, 3)) (hR : 1 ≤ R.frames) (hW : (rest.map fun v => v.category).sum + 13 ≤ R.locals) (hc : cells ≤ R.cells) (hs : slots ≤ R.slots)
    (kk : W p l e R s m args below meth c H locs cells slots Q (F0 m (pc + 3) rls (.int (if b < a then b else a) :: rest))) : W p l e R s m args below meth c H locs cells slots Q (F0 m pc rls (.int b :: .int a :: rest)) :=
  va_mmin F.1 F.2.1 (by rw [hsz, F.2.2.1]) F.2.2.2.1 (F.2.2.2.2.1 _ (chkZip_in hT2.2.2.2.2.2 _ (fnd3_in hf))) (F.2.2.2.2.1 _ (chkFix_in hT2.1 _ (by unfold fixW; simp))) (F.2.2.2.2.1 _ (chkFix_in hT2.1 _ (by unfold fixW; simp))) (F.2.2.2.2.1 _ (chkFix_in hT2.1 _ (by unfold fixW; simp))) hR hW hc hs hd kk
theorem m_max (hT2 : TOK2) (F : FX p m c meth s args y) (hsz : rls.size = nl y) {i : Nat} {a b : Int32} (hf : fnd3 mthA (yo y) i 2 = true) (hd : decode (yb y) pc = .ok (.invokestatic i, 3)) (hR : 1 ≤ R.frames) (hW : (rest.map fun v => v.category).sum + 13 ≤ R.locals) (hc : cells ≤ R.cells) (hs : slots ≤ R.slots)
    (kk : W p l e R s m args below meth c H locs cells slots Q (F0 m (pc + 3) rls (.int (if a < b then b else a) :: rest))) : W p l e R s m args below meth c H locs cells slots Q (F0 m pc rls (.int b :: .int a :: rest)) :=
  va_mmax F.1 F.2.1 (by rw [hsz, F.2.2.1]) F.2.2.2.1 (F.2.2.2.2.1 _ (chkZip_in hT2.2.2.2.2.2 _ (fnd3_in hf))) (F.2.2.2.2.1 _ (chkFix_in hT2.1 _ (by unfold fixW; simp))) (F.2.2.2.2.1 _ (chkFix_in hT2.1 _ (by unfold fixW; simp))) (F.2.2.2.2.1 _ (chkFix_in hT2.1 _ (by unfold fixW; simp))) hR hW hc hs hd kk
theorem m_abs (hT2 : TOK2) (F : FX p m c meth s args y) (hsz : rls.size = nl y) {i : Nat} {a : Int32} (hf : fnd3 mthA (yo y) i 3 = true) (hd : decode (yb y) pc = .ok (.invokestatic i, 3)) (hR : 1 ≤ R.frames) (hW : (rest.map fun v => v.category).sum + 13 ≤ R.locals) (hc : cells ≤ R.cells) (hs : slots ≤ R.slots)
    (kk : W p l e R s m args below meth c H locs cells slots Q (F0 m (pc + 3) rls (.int (if 0 ≤ a then a else 0 - a) :: rest))) : W p l e R s m args below meth c H locs cells slots Q (F0 m pc rls (.int a :: rest)) :=
  va_mabs F.1 F.2.1 (by rw [hsz, F.2.2.1]) F.2.2.2.1 (F.2.2.2.2.1 _ (chkZip_in hT2.2.2.2.2.2 _ (fnd3_in hf))) (F.2.2.2.2.1 _ (chkFix_in hT2.1 _ (by unfold fixW; simp))) (F.2.2.2.2.1 _ (chkFix_in hT2.1 _ (by unfold fixW; simp))) (F.2.2.2.2.1 _ (chkFix_in hT2.1 _ (by unfold fixW; simp))) hR hW hc hs hd kk
end ROWS4
end
section
/-! ROWS of copies, ends, throws -/
section ROWS5
variable {p : Program} {l : Launch} {e : Env} {R : Room} {s : State} {m : MethodId} {args : Array Value} {below : List Frame} {meth : Method} {c : Code} {H : Heap} {locs : List Loc} {cells slots : Nat} {Q : State → Prop}
variable {x : Ctx} {ad : Nat → Option Nat} {h : Hp} {y pc : Nat} {rls : Array Slot} {rest : List Value}
theorem nn_toInt {z : Int32} (hz : ¬ z < 0) : z.toInt = (z.toNatClampNeg : Int) := by
  have hz0 : (0 : Int) ≤ z.toInt := by
    have := Int32.not_lt.mp hz
    simpa using Int32.le_iff_toInt_le.mp this
  show z.toInt = ((z.toInt.toNat : Nat) : Int)
  omega
/-- System.arraycopy out of a row of bytes that was there before -/
theorem va_copyT {D : va_G} {cl : List vw_C} {ws : va_W} {tys : List (ClassId × FieldType)} {A : Nat → Prop} {a : Nat} {ls : Array Slot} {cc : ByteArray} (hexec : p.tables.exec = Jvm.exec) (hb : c.code = cc) (hml : c.maxLocals = ls.size) {own : String} {index : Nat} (hown : s.vm.findClass own = some m.cls) (hlink : (Cond.methodLink own index arraycopyName).before args s = true) (hnat : (Cond.native arraycopyName).before args s = true) (hstat : (Cond.static arraycopyName).before args s = true) (hini : (Cond.initialized "java/lang/System").before args s = true)
    (hK : va_K D cl tys s) (hP : va_P D cl ws H) (hD : va_D A ws) (hS : va_S A s.heap H locs) {b0 n0 : Nat} {f : Nat → Int32} (hX : va_T .byte b0 n0 (fun j => .int (f j)) A s s.heap) (q1 t1 : Nat) {c1 : ClassId} {n1 : Nat} {g : Nat → Int32} (ha1 : ws[q1]? = some (a, .inl (c1, n1, .inl g))) (ht1 : tys[t1]? = some (c1, .byte))
    {sp dp n : Int32} (h1 : ¬ sp < 0) (h2 : ¬ dp < 0) (h3 : ¬ n < 0) (h4 : sp.toNatClampNeg + n.toNatClampNeg ≤ n0) (h5 : dp.toNatClampNeg + n.toNatClampNeg ≤ n1) (hfit : ∀ i, i < n.toNatClampNeg → fits .byte (.int (f (sp.toNatClampNeg + i))) = true)
    (hframes : 1 ≤ R.frames) (hlocals : (rest.map fun v => v.category).sum + (nativeFrameWords "java/lang/System" "arraycopy" 5 + 11) ≤ R.locals) (hdg : decode cc pc = .ok (.invokestatic index, 3))
    (kk : ∀ (H1 : Heap) (locs1 : List Loc), va_P D cl (ws.set q1 (a, .inl (c1, n1, .inl (va_cpy f g sp.toNatClampNeg dp.toNatClampNeg n.toNatClampNeg)))) H1 → va_D A (ws.set q1 (a, .inl (c1, n1, .inl (va_cpy f g sp.toNatClampNeg dp.toNatClampNeg n.toNatClampNeg)))) → va_S A s.heap H1 locs1 → W p l e R s m args below meth c H1 locs1 cells slots Q (F0 m (pc + 3) ls rest)) : W p l e R s m args below meth c H locs cells slots Q (F0 m pc ls (.int n :: .int dp :: .ref a :: .int sp :: .ref b0 :: rest)) := by
  intro T hT X
  obtain ⟨scr, hs1, hs2, hs3, hs4, -, hs5, hs7⟩ := hX
  have hbl : b0 < s.heap.size := (Array.getElem?_eq_some_iff.mp hs1).1
  have hc0 : H[b0]? = some scr := by rw [hS.2.1 b0 hbl hs7]; exact hs1
  have hc1 : H[a]? = some (vp_cell c1 (n1, .inl g)) := hP q1 _ ha1
  obtain ⟨hs6, k0, hk0, cm0, hkk0⟩ := hs2
  obtain ⟨-, k1, hk1, cm1, hkk1⟩ := (hK.2 t1 _ ht1).1 n1 (fun j => .int (g j))
  obtain ⟨vm', X', step⟩ := X.arraycopy hexec hown hlink hnat hstat hini (src := b0) (dst := a) (cs := scr) (cd := vp_cell c1 (n1, .inl g)) (srcPos := sp) (destPos := dp) (n := n) (by rw [hT]; exact hc0) (by rw [hT]; exact hc1)
    hs6 (fun _ h => by cases h) hs3 (fun h => by cases h) hk0 hk1 hkk0 hkk1 (by simp [refKind]) h1 h2 h3
    (by rw [nn_toInt h1, nn_toInt h3]; omega)
    (by rw [nn_toInt h2, nn_toInt h3]; show ¬ _ > ((arrV c1 n1 (fun j => .int (g j))).slots.size : Int); rw [arrV_size]; omega)
    (fun vm₁ _ i hi => by
      have e : scr.slots.getD (sp.toNatClampNeg + i) .null = .int (f (sp.toNatClampNeg + i)) := by
        rw [Array.getD_eq_getD_getElem?, hs5 _ (by omega)]
        rfl
      refine ⟨?_, ?_⟩
      · rw [e]
        exact hfit i hi
      · rw [e]
        exact trivial)
    (g := F0 m pc ls (.int n :: .int dp :: .ref a :: .int sp :: .ref b0 :: rest)) rfl (by rw [hml]) (rest := rest) rfl (by rw [hb]; exact hdg) hframes (by show 2 * 0 + _ + _ ≤ _; omega)
  have e1 : copied scr (vp_cell c1 (n1, .inl g)) sp dp n = vp_cell c1 (n1, .inl (va_cpy f g sp.toNatClampNeg dp.toNatClampNeg n.toNatClampNeg)) := va_copiedX (fun z => .int z) scr c1 f g hs5 h4
  rw [e1] at X' step
  have hl : a < H.size := (Array.getElem?_eq_some_iff.mp hc1).1
  have hheap : ((T.setVm vm').setCell a (vp_cell c1 (n1, .inl (va_cpy f g sp.toNatClampNeg dp.toNatClampNeg n.toNatClampNeg)))).heap = H.setIfInBounds a (vp_cell c1 (n1, .inl (va_cpy f g sp.toNatClampNeg dp.toNatClampNeg n.toNatClampNeg))) := by rw [← hT]; rfl
  have oq : ∀ q : Nat, q ≠ a → (H.setIfInBounds a (vp_cell c1 (n1, .inl (va_cpy f g sp.toNatClampNeg dp.toNatClampNeg n.toNatClampNeg))))[q]? = H[q]? := fun q hq => by simp [Array.getElem?_setIfInBounds, Ne.symm hq]
  obtain ⟨t, a1, b1⟩ := kk _ _ (hP.set hD ha1 (show (H.setIfInBounds a _)[a]? = some _ by simp [Array.getElem?_setIfInBounds, hl]) oq) (hD.set ha1) ⟨by simp; exact hS.1, fun q g1 g2 => by
      rw [oq q (fun e => g2 (by rw [e]; exact hD.2 q1 _ ha1))]
      exact hS.2.1 q g1 g2, fun q hq => by
      rcases List.mem_append.mp hq with h | h
      · exact hS.2.2 q h
      · obtain ⟨z, -, hz⟩ := List.mem_map.mp h
        rw [← hz]
        exact hD.2 q1 _ ha1⟩ _ hheap X'
  exact ⟨t, step t a1, b1⟩
theorem HI_hcpy {sa sp da dp n : Nat} : HI (hcpy h sa sp da dp n) da = va_cpy (HI h sa) (HI h da) sp dp n := by
  funext k
  show (if da = da ∧ dp ≤ k ∧ k < dp + n then _ else _) = _
  unfold va_cpy
  by_cases hk : dp ≤ k ∧ k < dp + n
  · rw [if_pos ⟨rfl, hk⟩, if_pos hk]
  · rw [if_neg (fun z => hk z.2), if_neg hk]
theorem HI_hcpy_ne {sa sp da dp n b : Nat} (hb : b ≠ da) : HI (hcpy h sa sp da dp n) b = HI h b := by
  funext k
  show (if b = da ∧ dp ≤ k ∧ k < dp + n then _ else _) = _
  rw [if_neg (fun z => hb z.1)]
theorem St.cpy (S : St x ad h H) {H1 : Heap} {sa sp da dp n q kd : Nat} (hk : HK h da = kd) (h1 : kd = 100 ∨ kd = 101 ∨ kd = 102) (hq : ad da = some q) (g1 : 31 ≤ da) (g2 : da < HN h)
    (P : va_P (xD x) clL ((wl x ad h).set (da - 31) (q, .inl (xA x kd, HL h da, .inl (va_cpy (HI h sa) (HI h da) sp dp n)))) H1) (Dd : va_D (fr x) ((wl x ad h).set (da - 31) (q, .inl (xA x kd, HL h da, .inl (va_cpy (HI h sa) (HI h da) sp dp n))))) : St x ad (hcpy h sa sp da dp n) H1 :=
  S.wr2 (h' := hcpy h sa sp da dp n) g1 g2 hq (by rw [cE_arr (h := hcpy h sa sp da dp n) (kd := kd) hk h1, HI_hcpy]; rfl) rfl rfl (fun b hb => HI_hcpy_ne hb) (fun _ _ => rfl) (fun _ _ => rfl) (fun _ _ => rfl) (S.2.2.2.2.2.2.1 da) P Dd
theorem bfit_in {a sp n : Nat} (hf : bfit h a sp n = true) : ∀ i, i < n → fits .byte (.int (HI h a (sp + i))) = true := by
  intro i hi
  have h1 := List.all_eq_true.mp hf i (List.mem_range.mpr hi)
  exact (fit3 (x := HI h a (sp + i)) h1).2.2
theorem m_copy (hT2 : TOK2) (F : FX p m c meth s args y) (hK : va_K (xD x) clL (tysL x) s) (hO : OLDs x s s.heap) (S : St x ad h H) (hS : va_S (fr x) s.heap H locs) (hsz : rls.size = nl y) {i sa da : Nat} {sp dp n : Int32} (hf : fnd3 mthA (yo y) i 0 = true) {w : Nat} (hc : cpOK h sa da sp dp n w = true) (hw : (rest.map fun v => v.category).sum = w) (hd : decode (yb y) pc = .ok (.invokestatic i, 3)) (hR : 1 ≤ R.frames) (hRl : 30 ≤ R.locals)
    (kk : ∀ (H1 : Heap) (locs1 : List Loc), St x ad (hcpy h sa sp.toNatClampNeg da dp.toNatClampNeg n.toNatClampNeg) H1 → va_S (fr x) s.heap H1 locs1 → W p l e R s m args below meth c H1 locs1 cells slots Q (F0 m (pc + 3) rls rest)) : W p l e R s m args below meth c H locs cells slots Q (F0 m pc rls (.int n :: .int dp :: va_rf (ad da) :: .int sp :: va_rf (ad sa) :: rest)) := by
  simp only [cpOK, Bool.and_eq_true, Bool.or_eq_true, decide_eq_true_eq] at hc
  obtain ⟨⟨⟨⟨⟨⟨⟨hc1, hc2⟩, hc3⟩, hc4⟩, hc5⟩, hc6⟩, hc7⟩, hc8⟩ := hc
  have hw8 := Nat.le_of_ble_eq_true hc2
  have k4 := Nat.le_of_ble_eq_true hc7
  have k5 := Nat.le_of_ble_eq_true hc8
  have n1 : ¬ sp < 0 := Int32.not_lt.mpr hc5
  have n2 : ¬ dp < 0 := Int32.not_lt.mpr hc6
  have n3 : ¬ n < 0 := Int32.not_lt.mpr hc4
  have hml : c.maxLocals = rls.size := by rw [hsz, F.2.2.1]
  have hl := F.2.2.2.2.1 _ (chkZip_in hT2.2.2.2.2.2 _ (fnd3_in hf))
  have w1 := F.2.2.2.2.1 (.native arraycopyName) (chkFix_in hT2.1 _ (by unfold fixW; simp))
  have w2 := F.2.2.2.2.1 (.static arraycopyName) (chkFix_in hT2.1 _ (by unfold fixW; simp))
  have w3 := F.2.2.2.2.1 (.initialized "java/lang/System") (chkFix_in hT2.1 _ (by unfold fixW; simp))
  have hloc : (rest.map fun v => v.category).sum + (nativeFrameWords "java/lang/System" "arraycopy" 5 + 11) ≤ R.locals := by
    have : nativeFrameWords "java/lang/System" "arraycopy" 5 = 7 := by decide +kernel
    omega
  rcases hc1 with ⟨⟨ka, kb⟩, kf⟩ | ⟨ka, kb⟩
  · have ka := Nat.eq_of_beq_eq_true ka
    obtain ⟨q, hq, g1, g2, g3⟩ := S.at (a := da) (by rw [ka]; unfold KOK; omega)
    rw [cE_arr ka (by omega)] at g3
    rw [hq]
    rcases kb with kb | kb
    · have kb := Nat.eq_of_beq_eq_true kb
      obtain ⟨q', hq', g1', g2', g3'⟩ := S.at (a := sa) (by rw [kb]; unfold KOK; omega)
      rw [cE_arr kb (by omega)] at g3'
      rw [hq']
      exact va_copyi F.1 F.2.1 hml F.2.2.2.1 hl w1 w2 w3 hK S.1 S.2.1 hS (sa - 31) (da - 31) 2 2 g3' g3 rfl rfl rfl n1 n2 n3 k4 k5 (bfit_in kf) hR hloc hd (fun H1 locs1 P Dd S1 => kk H1 locs1 (S.cpy ka (by omega) hq g1 g2 P Dd) S1)
    · have kb := Nat.eq_of_beq_eq_true kb
      obtain ⟨o1, o2, o3, o4, o5, -⟩ := S.old kb (by omega)
      obtain ⟨q', hq', hT⟩ := (hO.1 sa o1).1 o2
      rw [o3, hq']
      have e5 : icT (xS x) sa = HI h sa := by funext k; rw [o5]
      rw [show (fun j => Value.int (icT (xS x) sa j)) = fun j => Value.int (HI h sa j) by rw [e5]] at hT
      exact va_copyT F.1 F.2.1 hml F.2.2.2.1 hl w1 w2 w3 hK S.1 S.2.1 hS hT (da - 31) 2 g3 rfl n1 n2 n3 (by rw [← o4]; exact k4) k5 (bfit_in kf) hR hloc hd (fun H1 locs1 P Dd S1 => kk H1 locs1 (S.cpy ka (by omega) hq g1 g2 P Dd) S1)
  · have ka := Nat.eq_of_beq_eq_true ka
    have kb := Nat.eq_of_beq_eq_true kb
    obtain ⟨q, hq, g1, g2, g3⟩ := S.at (a := da) (by rw [ka]; unfold KOK; omega)
    obtain ⟨q', hq', g1', g2', g3'⟩ := S.at (a := sa) (by rw [kb]; unfold KOK; omega)
    rw [cE_arr ka (by omega)] at g3
    rw [cE_arr kb (by omega)] at g3'
    rw [hq, hq']
    exact va_copyi F.1 F.2.1 hml F.2.2.2.1 hl w1 w2 w3 hK S.1 S.2.1 hS (sa - 31) (da - 31) 0 0 g3' g3 rfl rfl rfl n1 n2 n3 k4 k5 (fun _ _ => rfl) hR hloc hd (fun H1 locs1 P Dd S1 => kk H1 locs1 (S.cpy ka (by omega) hq g1 g2 P Dd) S1)
end ROWS5
end
section
/-! CONTRACTS of the methods: what a call means, its end, its throws -/
noncomputable def wsY (y : Nat) : List Cond := codeW y :: TW
def rmY (y mc ms : Nat) : Room := { frames := 8 + y, cells := mc, slots := ms, locals := 200 + 40 * y }
def WB (x : Ctx) (ad : Nat → Option Nat) (h : Hp) (U : State) : Prop := St x ad h U.heap ∧ va_K (xD x) clL (tysL x) U ∧ OLDs x U U.heap ∧ xB x ≤ U.heap.size
def QB (x : Ctx) (ad0 : Nat → Option Nat) (n0 : Nat) (h' : Hp) (u : Nat → Option Nat) (t : State) : Prop := Ext ad0 u n0 ∧ St x u h' t.heap
def QCk (k : Nat) (x : Ctx) (ad0 : Nat → Option Nat) (n0 : Nat) (r : Except Nat Value) (h' : Hp) : Array Value → State → Outcome → State → Prop := match k with
  | 0 => va_Qv (S := Nat → Option Nat) (fun _ => r = .ok .null) (QB x ad0 n0 h') (fr x)
  | 1 => va_Qi (S := Nat → Option Nat) (fun i _ => r = .ok (.int i)) (QB x ad0 n0 h') (fr x)
  | 2 => va_Qq (S := Nat → Option Nat) (fun o u => ∃ b, r = .ok (.ref b) ∧ b < HN h' ∧ o = u b) (QB x ad0 n0 h') (fr x)
  | 3 => va_Qd (S := Nat → Option Nat) (fun i _ => r = .ok (.double i)) (QB x ad0 n0 h') (fr x)
  | _ => va_Qf (S := Nat → Option Nat) (fun i _ => r = .ok (.float i)) (QB x ad0 n0 h') (fr x)
noncomputable def QC (y : Nat) (x : Ctx) (ad0 : Nat → Option Nat) (n0 : Nat) (r : Except Nat Value) (h' : Hp) : Array Value → State → Outcome → State → Prop := QCk (rtc (yr y)) x ad0 n0 r h'
def XCC (x : Ctx) (ad0 : Nat → Option Nat) (n0 : Nat) (r : Except Nat Value) (h' : Hp) : String → State → State → Prop := vx_X (S := Nat → Option Nat) (fun _ => True) (fun E u t => (∃ k, r = .error k ∧ E = exN k ∧ 1 ≤ k ∧ k ≤ 5) ∧ QB x ad0 n0 h' u t) (fr x)
/-- the contract of method y's run from as and h to r and h' -/
noncomputable def MetY (l : Launch) (y : Nat) (x : Ctx) (ad : Nat → Option Nat) (h : Hp) (ws : List Value) (r : Except Nat Value) (h' : Hp) : Prop :=
  vx_Met l (yn y) (wsY y) (rmY y (HC h' - HC h) (HS h' - HS h)) (va_Pc ws (WB x ad h)) (QC y x ad (HN h) r h') (XCC x ad (HN h) r h') (HC h' - HC h) (HS h' - HS h) (fr x)
theorem tw_good {w : Cond} (hw : w ∈ TW) : (w.onTables && w.keeps) = true ∨ ∃ ty, w = .arrayClass ty := by
  have h := (List.mem_filter.mp hw).2
  unfold goodWord at h
  split at h
  · exact Or.inr ⟨_, rfl⟩
  · exact Or.inl h
theorem tw_goodIn {ws : List Cond} (h : ∀ w ∈ ws, w ∈ TW) : GoodIn TW ws := fun w hw => ⟨h w hw, tw_good (h w hw)⟩
theorem fndLnk_in {o i kd k : Nat} : ∀ {l : List (Nat × Nat × Nat × Nat × List Nat)}, fndLnk l o i kd k = true → ∃ r ∈ l, r.1 = o ∧ r.2.1 = i ∧ r.2.2.1 = kd ∧ r.2.2.2.1 = k
  | [], h => by cases h
  | r :: l, h => by
    simp only [fndLnk, Bool.or_eq_true, Bool.and_eq_true] at h
    rcases h with h | h
    · exact ⟨r, List.mem_cons_self, Nat.eq_of_beq_eq_true h.1.1.1, Nat.eq_of_beq_eq_true h.1.1.2, Nat.eq_of_beq_eq_true h.1.2, Nat.eq_of_beq_eq_true h.2⟩
    · obtain ⟨r', h1, h2⟩ := fndLnk_in h
      exact ⟨r', List.mem_cons_of_mem _ h1, h2⟩
/-- what is known of a method by its number -/
theorem met_at (hT : TOK) {y : Nat} (hy : y < 343) : codeW y ∈ TW ∧ Cond.initialized (yn y).cls ∈ TW ∧ plainName (yn y).cls = true ∧ (yn y).cls ≠ "java/lang/invoke/MethodHandle" ∧ (yn y).cls ≠ "java/lang/invoke/VarHandle" ∧ (parseMethodDescriptor (yn y).desc).map (fun d => d.parameters.length) = some (np y) ∧ (yn y).cls = cn (yo y) ∧ nl y ≤ 20 := by
  obtain ⟨r, hr⟩ := hT.2.2.2.2.1 y hy
  simp only [chkMet, Bool.and_eq_true, decide_eq_true_eq] at hr
  obtain ⟨⟨⟨⟨⟨⟨⟨a, b⟩, c⟩, d⟩, e⟩, f⟩, g⟩, i⟩ := hr
  exact ⟨tw_of a, tw_of b, c, d, e, f, g, Nat.le_of_ble_eq_true i⟩
theorem wsY_in (hT : TOK) {y : Nat} (hy : y < 343) : ∀ w ∈ wsY y, w ∈ TW := by
  intro w hw
  rcases List.mem_cons.mp hw with rfl | hw
  · exact (met_at hT hy).1
  · exact hw
theorem codeW0 {y : Nat} (h : List.isEmpty (hh y) = true) : codeW y = .code (yn y) (yb y) (nl y) (yr y) := by unfold codeW; rw [h]; rfl
theorem codeW1 {y : Nat} (h : List.isEmpty (hh y) = false) : codeW y = .codeWith (yn y) (yb y) (nl y) (yr y) (hh y) := by unfold codeW; rw [h]; rfl
theorem rk_le_ok : (List.range 343).all (fun y => Nat.ble (rk y) 11) = true := by decide +kernel
theorem rk_le (_ : TOK) {y : Nat} (h : y < 343) : rk y ≤ 11 := Nat.le_of_ble_eq_true (List.all_eq_true.mp rk_le_ok y (List.mem_range.mpr h))
theorem PcBlind {x : Ctx} {ad : Nat → Option Nat} {h : Hp} {ws : List Value} : FrameBlind (va_Pc ws (WB x ad h)) := by
  intro a U g mk q
  obtain ⟨q0, q1, q2, q3, q4⟩ := q
  exact ⟨q0, q1, va_K.moved (u := U) (U := U.calling g mk a) (Vm.Alike.refl U.vm) q2, OLDs.warm (u := U) (U := U.calling g mk a) (State.WarmedH.refl U) q3, q4⟩
theorem lnk0 {o i y2 : Nat} {hs : List Nat} (h : chkLnk (o, i, 0, y2, hs) = true) : Cond.methodLink (cn o) i (yn y2) ∈ TW ∧ Cond.instanceMethod (yn y2) ∈ TW ∧ Cond.selects (yn y2).cls (yn y2) (yn y2) ∈ TW ∧ (yn y2).cls = (if rk y2 = 11 then "java/lang/String" else RRa (rk y2)) ∧ 1 ≤ rk y2 ∧ rk y2 ≤ 11 ∧ List.isEmpty (hh y2) = true := by
  rcases hs with _ | ⟨a, _ | ⟨b, _ | ⟨d, _ | ⟨f, g⟩⟩⟩⟩ <;> first | (exact absurd h Bool.false_ne_true) | skip
  simp only [chkLnk, Bool.and_eq_true, decide_eq_true_eq] at h
  obtain ⟨⟨⟨⟨⟨⟨ka, kb⟩, kc⟩, kd⟩, ke⟩, kf⟩, kg⟩ := h
  exact ⟨tw_of ka, tw_of kb, tw_of kc, kd, Nat.le_of_ble_eq_true ke, Nat.le_of_ble_eq_true kf, kg⟩
theorem lnk5 {o i y2 : Nat} {hs : List Nat} (h : chkLnk (o, i, 5, y2, hs) = true) : Cond.methodLink (cn o) i (yn y2) ∈ TW ∧ Cond.sameMethod (yn y2).cls (yn y2).cls (yn y2).name (yn y2).desc ∈ TW ∧ Cond.selects RR10 (yn y2) (yn y2) ∈ TW ∧ Cond.instanceMethod (yn y2) ∈ TW ∧ rk y2 = 10 ∧ List.isEmpty (hh y2) = true := by
  rcases hs with _ | ⟨a, _ | ⟨b, _ | ⟨d, _ | ⟨f, _ | ⟨g, g'⟩⟩⟩⟩⟩ <;> first | (exact absurd h Bool.false_ne_true) | skip
  simp only [chkLnk, Bool.and_eq_true, decide_eq_true_eq] at h
  obtain ⟨⟨⟨⟨⟨ka, kb⟩, kc⟩, kd⟩, ke⟩, kg⟩ := h
  exact ⟨tw_of ka, tw_of kb, tw_of kc, tw_of kd, Nat.eq_of_beq_eq_true ke, kg⟩
theorem lnk6 {o i y2 : Nat} {hs : List Nat} (h : chkLnk (o, i, 6, y2, hs) = true) : Cond.methodLink (cn o) i (yn y2) ∈ TW ∧ Cond.sameMethod (yn y2).cls (yn y2).cls (yn y2).name (yn y2).desc ∈ TW ∧ Cond.superclass (cn o) (yn y2).cls ∈ TW ∧ Cond.instanceMethod (yn y2) ∈ TW ∧ rk y2 = 10 ∧ (yn y2).name ≠ "<init>" ∧ List.isEmpty (hh y2) = true := by
  rcases hs with _ | ⟨a, _ | ⟨b, _ | ⟨d, _ | ⟨f, _ | ⟨g, g'⟩⟩⟩⟩⟩ <;> first | (exact absurd h Bool.false_ne_true) | skip
  simp only [chkLnk, Bool.and_eq_true, decide_eq_true_eq] at h
  obtain ⟨⟨⟨⟨⟨⟨ka, kb⟩, kc⟩, kd⟩, ke⟩, kf⟩, kg⟩ := h
  exact ⟨tw_of ka, tw_of kb, tw_of kc, tw_of kd, Nat.eq_of_beq_eq_true ke, kf, kg⟩
theorem lnk1 {o i y2 : Nat} {hs : List Nat} (h : chkLnk (o, i, 1, y2, hs) = true) : Cond.methodLink (cn o) i (yn y2) ∈ TW ∧ Cond.static (yn y2) ∈ TW ∧ rk y2 = 0 ∧ List.isEmpty (hh y2) = true := by
  rcases hs with _ | ⟨a, _ | ⟨b, _ | ⟨d, g⟩⟩⟩ <;> first | (exact absurd h Bool.false_ne_true) | skip
  simp only [chkLnk, Bool.and_eq_true, decide_eq_true_eq] at h
  obtain ⟨⟨⟨ka, kb⟩, kc⟩, kd⟩ := h
  exact ⟨tw_of ka, tw_of kb, Nat.eq_of_beq_eq_true kc, kd⟩
theorem lnk7 {o i y2 : Nat} {hs : List Nat} (h : chkLnk (o, i, 7, y2, hs) = true) : Cond.methodLink (cn o) i (yn y2) ∈ TW ∧ Cond.static (yn y2) ∈ TW ∧ rk y2 = 0 ∧ List.isEmpty (hh y2) = false := by
  rcases hs with _ | ⟨a, _ | ⟨b, _ | ⟨d, g⟩⟩⟩ <;> first | (exact absurd h Bool.false_ne_true) | skip
  simp only [chkLnk, Bool.and_eq_true, decide_eq_true_eq, Bool.not_eq_true'] at h
  obtain ⟨⟨⟨ka, kb⟩, kc⟩, kd⟩ := h
  exact ⟨tw_of ka, tw_of kb, Nat.eq_of_beq_eq_true kc, kd⟩
theorem lnk4 {o i y2 : Nat} {hs : List Nat} (h : chkLnk (o, i, 4, y2, hs) = true) : Cond.static (yn y2) ∈ TW ∧ rk y2 = 0 ∧ List.isEmpty (hh y2) = true := by
  rcases hs with _ | ⟨a, _ | ⟨b, g⟩⟩ <;> first | (exact absurd h Bool.false_ne_true) | skip
  simp only [chkLnk, Bool.and_eq_true, decide_eq_true_eq] at h
  obtain ⟨⟨ka, kc⟩, kd⟩ := h
  exact ⟨tw_of ka, Nat.eq_of_beq_eq_true kc, kd⟩
theorem lnk2 {o i y2 : Nat} {hs : List Nat} (h : chkLnk (o, i, 2, y2, hs) = true) : Cond.methodLink (cn o) i (yn y2) ∈ TW ∧ Cond.instanceMethod (yn y2) ∈ TW ∧ (yn y2).name = "<init>" ∧ 1 ≤ rk y2 ∧ yr y2 = none ∧ List.isEmpty (hh y2) = true := by
  rcases hs with _ | ⟨a, _ | ⟨b, _ | ⟨d, g⟩⟩⟩ <;> first | (exact absurd h Bool.false_ne_true) | skip
  simp only [chkLnk, Bool.and_eq_true, decide_eq_true_eq] at h
  obtain ⟨⟨⟨⟨⟨ka, kb⟩, kc⟩, kd⟩, ke⟩, kf⟩ := h
  exact ⟨tw_of ka, tw_of kb, kc, Nat.le_of_ble_eq_true kd, ke, kf⟩
theorem lnk3 {o i y2 : Nat} {hs : List Nat} (h : chkLnk (o, i, 3, y2, hs) = true) : Cond.instanceMethod (yn y2) ∈ TW ∧ (yn y2).name = "<init>" ∧ 1 ≤ rk y2 ∧ yr y2 = none ∧ List.isEmpty (hh y2) = true := by
  rcases hs with _ | ⟨a, _ | ⟨b, g⟩⟩ <;> first | (exact absurd h Bool.false_ne_true) | skip
  simp only [chkLnk, Bool.and_eq_true, decide_eq_true_eq] at h
  obtain ⟨⟨⟨⟨kb, kc⟩, kd⟩, ke⟩, kf⟩ := h
  exact ⟨tw_of kb, kc, Nat.le_of_ble_eq_true kd, ke, kf⟩
/-- each link by a nest mate stands among the nest's words -/
def chkNest (r : Nat × Nat × Nat × Nat × List Nat) : Bool := !(Nat.beq r.2.2.1 3 || Nat.beq r.2.2.1 4) || nestA.any (fun q => Nat.beq q.1 r.1 && Nat.beq q.2.1 r.2.1 && Nat.beq q.2.2.1 r.2.2.2.1)
theorem nest_ok0 : lnkA.all chkNest = true := by decide +kernel
theorem nest_at {o i kd y2 : Nat} {hs : List Nat} (h : (o, i, kd, y2, hs) ∈ lnkA) (hk : kd = 3 ∨ kd = 4) : ∃ host, (o, i, y2, host) ∈ nestA := by
  have h1 := List.all_eq_true.mp nest_ok0 _ h
  have h2 : (Nat.beq kd 3 || Nat.beq kd 4) = true := by rcases hk with rfl | rfl <;> rfl
  simp only [chkNest, h2, Bool.not_true, Bool.false_or] at h1
  obtain ⟨q, hq, h3⟩ := List.any_eq_true.mp h1
  simp only [Bool.and_eq_true] at h3
  obtain ⟨q1, q2, q3, q4⟩ := q
  obtain ⟨⟨e1, e2⟩, e3⟩ := h3
  have e1 := Nat.eq_of_beq_eq_true e1
  have e2 := Nat.eq_of_beq_eq_true e2
  have e3 := Nat.eq_of_beq_eq_true e3
  dsimp only at e1 e2 e3
  subst e1 e2 e3
  exact ⟨q4, hq⟩
section ROWS6
variable {p : Program} {l : Launch} {e : Env} {R : Room} {s : State} {m : MethodId} {args : Array Value} {below : List Frame} {meth : Method} {c : Code} {H : Heap} {locs : List Loc} {cells slots : Nat} {Q : State → Prop}
variable {x : Ctx} {ad ad0 : Nat → Option Nat} {h : Hp} {y pc n0 mc ms : Nat} {rls : Array Slot} {rest : List Value}
theorem Pc_go (S : St x ad h H) (hK : va_K (xD x) clL (tysL x) s) (hO : OLDs x s s.heap) (hS : va_S (fr x) s.heap H locs) (hB : xB x ≤ s.heap.size) (ws : List Value) : ∀ U : State, U.heap = H → s.WarmedH U.vm → va_Pc ws (WB x ad h) ws.toArray U :=
  fun U hU hW => ⟨rfl, by rw [hU]; exact S, va_K.moved hW.alike hK, hO.go hS hU hW, by rw [hU]; exact Nat.le_trans hB hS.1⟩
/-- the receiver of a call -/
theorem m_recv (hK : va_K (xD x) clL (tysL x) s) (hO : OLDs x s s.heap) (hS : va_S (fr x) s.heap H locs) (S : St x ad h H) {a kd : Nat} (h1 : 1 ≤ kd) (h2 : kd ≤ 11) (hk : HK h a = kd) : ∃ q, ad a = some q ∧ ∃ cell : Cell, H[q]? = some cell ∧ cell.vm.isStatics = false ∧ s.vm.findClass (if kd = 11 then "java/lang/String" else RRa kd) = some cell.cls := by
  by_cases h9 : kd = 11
  · subst h9
    obtain ⟨o1, o2, o3, -, -, -⟩ := S.old hk (by omega)
    obtain ⟨q, hq, g1, -, -⟩ := (hO.1 a o1).2.2 o2
    obtain ⟨cell, c1, c2, c3, -⟩ := g1.kept hS.2.1
    exact ⟨q, by rw [o3, hq], cell, c1, c2, c3⟩
  · obtain ⟨q, hq, g1, g2, g3⟩ := S.at (a := a) (by rw [hk]; exact Or.inl ⟨h1, by omega⟩)
    rw [cE_obj (by omega) hk] at g3
    rw [if_neg h9]
    exact ⟨q, hq, va_recv hK S.1 (clL_at h1 (by omega)) g3⟩
abbrev CFix (p : Program) (m : MethodId) (c : Code) (meth : Method) (s : State) (args : Array Value) (y : Nat) : Prop := CallFix p m c (yb y) (nl y) s args TW (cn (yo y))
theorem FX.fix (F : FX p m c meth s args y) : CFix p m c meth s args y := ⟨F.1, F.2.1, F.2.2.1, F.2.2.2.1, F.2.2.2.2.1⟩
theorem rm_ok {y2 mc ms : Nat} (hT : TOK) (h2 : y2 < 343) (hlt : y2 < y) (h3 : 8 + y ≤ R.frames) (h4 : 200 + 40 * y ≤ R.locals) : (rmY y2 mc ms).frames + 1 ≤ R.frames ∧ 8 + (nl y2 + 11) + (rmY y2 mc ms).locals ≤ R.locals := by
  have := (met_at hT h2).2.2.2.2.2.2.2
  constructor
  · show 8 + y2 + 1 ≤ _
    omega
  · show 8 + (nl y2 + 11) + (200 + 40 * y2) ≤ _
    omega
/-- THE CALL: whatever the link, it runs by the contract -/
theorem m_run (hT : TOK) (F : FX p m c meth s args y) (hK : va_K (xD x) clL (tysL x) s) (hO : OLDs x s s.heap) (S : St x ad h H) (hS : va_S (fr x) s.heap H locs) (hB : xB x ≤ s.heap.size) (hsz : rls.size = nl y) (h3 : 8 + y ≤ R.frames) (h4 : 200 + 40 * y ≤ R.locals)
    {y2 i kd nA : Nat} {orig : Instr} {as ws : List Value} {r : Except Nat Value} {h1 : Hp} (hl : fndLnk lnkA (yo y) i kd y2 = true) (h2 : y2 < 343) (hlt : y2 < y) (has : SK ad (HN h) as ws) (hn : ws.length = nA)
    (hor : (orig = .invokevirtual i ∧ (kd = 0 ∨ kd = 5) ∧ nA = np y2 + 1) ∨ (orig = .invokestatic i ∧ (kd = 1 ∨ kd = 4 ∨ kd = 7) ∧ nA = np y2) ∨ (orig = .invokespecial i ∧ (kd = 2 ∨ kd = 3 ∨ kd = 6) ∧ nA = np y2 + 1))
    (hrk : rkOK (rk y2) as h = true) (hw : (rest.map fun v => v.category).sum ≤ 8) (hM : MetY l y2 x ad h ws r h1) (hd : decode (yb y) pc = .ok (orig, 3)) (hc : cells + (HC h1 - HC h) ≤ R.cells) (hs : slots + (HS h1 - HS h) ≤ R.slots) :
    vx_Run p l e R s m args below meth c H locs cells slots (HC h1 - HC h) (HS h1 - HS h) (F0 m pc rls (ws.reverse ++ rest)) rest (QC y2 x ad (HN h) r h1 ws.toArray) (XCC x ad (HN h) r h1) (fr x) := by
  obtain ⟨⟨o, i', kd', y', hs2⟩, hrr, e1, e2, e3, e4⟩ := fndLnk_in hl
  dsimp only at e1 e2 e3 e4
  subst e1 e2 e3 e4
  have hck := hT.2.2.2.1 _ hrr
  have hmt := met_at hT h2
  have hrm := rm_ok (R := R) (mc := HC h1 - HC h) (ms := HS h1 - HS h) hT h2 hlt h3 h4
  have hts := F.2.2.2.2.1
  have hPc := Pc_go (ws := ws) S hK hO hS hB
  have hcov : ∀ b : Nat, 2 * (F0 m pc rls (ws.reverse ++ rest)).monitorRoom + (rest.map fun v => v.category).sum ≤ 8 := fun _ => by show 2 * 0 + _ ≤ 8; omega
  have hinw := wsY_in hT h2
  -- the shape of the arguments where there is a receiver
  have hrec : 1 ≤ rk y' → rk y' ≤ 11 → ∃ (q : Nat) (As : List Value), ws = .ref q :: As ∧ ∃ cell : Cell, H[q]? = some cell ∧ cell.vm.isStatics = false ∧ s.vm.findClass (if rk y' = 11 then "java/lang/String" else RRa (rk y')) = some cell.cls := by
    intro k1 k2
    obtain ⟨kk, hkk⟩ : ∃ kk, rk y' = kk + 1 := ⟨rk y' - 1, by omega⟩
    rw [hkk] at hrk
    unfold rkOK at hrk
    cases as with
    | nil => cases hrk
    | cons v as' =>
      cases v with
      | ref a =>
        have ha := Nat.eq_of_beq_eq_true hrk
        rw [← hkk] at ha
        obtain ⟨q, hq, cell, c1⟩ := m_recv hK hO hS S k1 k2 ha
        obtain ⟨w, ws', e1, e2, e3⟩ := has
        obtain ⟨-, e4⟩ := e2
        rw [hq] at e4
        exact ⟨q, ws', by rw [e1, e4]; rfl, cell, c1⟩
      | _ => cases hrk
  have hgo : ∀ L : List Cond, (∀ w ∈ L, w ∈ TW) → GoodIn TW (L ++ wsY y') := fun L hL => tw_goodIn (fun w hw => by
    rcases List.mem_append.mp hw with hw | hw
    · exact hL w hw
    · exact hinw w hw)
  have hst : ∀ (q : Nat) (As : List Value), (F0 m pc rls ((Value.ref q :: As).reverse ++ rest)).stack = As.reverse ++ .ref q :: rest := fun q As => by show List.reverse (Value.ref q :: As) ++ rest = _; simp
  have hdd : (yn y').cls ≠ "java/lang/invoke/MethodHandle" ∧ (yn y').cls ≠ "java/lang/invoke/VarHandle" ∧ (parseMethodDescriptor (yn y').desc).map (fun d => d.parameters.length) = some (np y') := ⟨hmt.2.2.2.1, hmt.2.2.2.2.1, hmt.2.2.2.2.2.1⟩
  rcases hor with ⟨rfl, hkd, hnp⟩ | ⟨rfl, hkd, hnp⟩ | ⟨rfl, hkd, hnp⟩
  · rcases hkd with rfl | rfl
    · obtain ⟨ka, kb, kc, kd, ke, kf, kg⟩ := lnk0 hck
      obtain ⟨q, As, rfl, hcell⟩ := hrec ke kf
      rw [List.length_cons] at hn
      rw [← kd] at hcell
      exact vx_runV F.fix hM (cwV (C := (yn y').cls) (np y') hts (hgo [_, _, _, _] (fun w hw => by
          simp only [List.mem_cons, List.not_mem_nil, or_false] at hw
          rcases hw with rfl | rfl | rfl | rfl
          · exact ka
          · exact kb
          · exact kc
          · exact hmt.2.1)) (show wsY y' = _ by unfold wsY; rw [codeW0 kg]) rfl rfl ⟨rfl, hdd⟩ hrm) ⟨PcBlind, hcell, hPc⟩ rfl (by omega) hsz (hst q As) (hcov 0) hd ⟨hc, hs⟩
    · obtain ⟨ka, kb, kc, kd, ke, kg⟩ := lnk5 hck
      obtain ⟨q, As, rfl, hcell⟩ := hrec (by omega) (by omega)
      rw [List.length_cons] at hn
      rw [ke, if_neg (by decide)] at hcell
      exact vx_runU F.fix hM (va_cwU (C := RR10) (owner := (yn y').cls) (x := yn y') (y := yn y') (np y') hts (hgo [_, _, _, _, _] (fun w hw => by
          simp only [List.mem_cons, List.not_mem_nil, or_false] at hw
          rcases hw with rfl | rfl | rfl | rfl | rfl
          · exact ka
          · exact kb
          · exact kc
          · exact kd
          · exact hmt.2.1)) (show wsY y' = _ by unfold wsY; rw [codeW0 kg]) rfl rfl rfl hdd hrm) ⟨PcBlind, hcell, hPc⟩ rfl (by omega) hsz (hst q As) (hcov 0) hd ⟨hc, hs⟩
  · rcases hkd with rfl | rfl | rfl
    · obtain ⟨ka, kb, kc, kg⟩ := lnk1 hck
      exact vx_runS F.fix hM (va_cwS (np y') hts (hgo [_, _, _] (fun w hw => by
          simp only [List.mem_cons, List.not_mem_nil, or_false] at hw
          rcases hw with rfl | rfl | rfl
          · exact ka
          · exact kb
          · exact hmt.2.1)) (show wsY y' = _ by unfold wsY; rw [codeW0 kg]) rfl rfl hdd hrm) ⟨PcBlind, hPc⟩ rfl (by omega) hsz rfl (hcov 0) hd ⟨hc, hs⟩
    · obtain ⟨kb, kc, kg⟩ := lnk4 hck
      obtain ⟨host, hn9⟩ := nest_at hrr (Or.inr rfl)
      exact vx_runSN F.fix hM ⟨va_cnB (np y') hts (tw_goodIn hinw) (show wsY y' = _ by unfold wsY; rw [codeW0 kg]) rfl rfl (hO.2.2.2.2.2.2.2.1 (yo y, i', y', host) hn9) (hts _ hmt.2.1) hdd hrm, hts _ kb, trivial⟩ ⟨PcBlind, hPc⟩ rfl (by omega) hsz rfl (hcov 0) hd ⟨hc, hs⟩
    · obtain ⟨ka, kb, kc, kg⟩ := lnk7 hck
      exact vx_runSX F.fix hM (vx_cwSW (np y') hts (hgo [_, _, _] (fun w hw => by
          simp only [List.mem_cons, List.not_mem_nil, or_false] at hw
          rcases hw with rfl | rfl | rfl
          · exact ka
          · exact kb
          · exact hmt.2.1)) (show wsY y' = _ by unfold wsY; rw [codeW1 kg]) rfl rfl hdd hrm) ⟨PcBlind, hPc⟩ rfl (by omega) hsz rfl (hcov 0) hd ⟨hc, hs⟩
  · rcases hkd with rfl | rfl | rfl
    · obtain ⟨ka, kb, kc, ke, kf, kg⟩ := lnk2 hck
      obtain ⟨q, As, rfl, hcell⟩ := hrec ke (rk_le hT h2)
      rw [List.length_cons] at hn
      exact vx_runI F.fix hM (cwI (np y') hts (tw_goodIn hinw) (show wsY y' = _ by unfold wsY; rw [codeW0 kg, kf]) rfl rfl (hts _ hmt.2.1) (hts _ ka) (hts _ kb) kc hdd hrm) ⟨PcBlind, hPc⟩ rfl (by omega) hsz (hst q As) (hcov 0) hd ⟨hc, hs⟩
    · obtain ⟨kb, kc, ke, kf, kg⟩ := lnk3 hck
      obtain ⟨q, As, rfl, hcell⟩ := hrec ke (rk_le hT h2)
      obtain ⟨host, hn9⟩ := nest_at hrr (Or.inl rfl)
      rw [List.length_cons] at hn
      have hcw : wsY y' = Cond.code (yn y') (yb y') (nl y') none :: TW := by unfold wsY; rw [codeW0 kg, kf]
      have hl9 : va_Nw (.methodLinkNest (cn (yo y)) i' (yn y') host) s := hO.2.2.2.2.2.2.2.1 (yo y, i', y', host) hn9
      have hN : va_CN R s args (cn (yo y)) i' (yn y') host (yb y') (nl y') none (wsY y') (rmY y' (HC h1 - HC h) (HS h1 - HS h)) (HC h1 - HC h) (HS h1 - HS h) (np y') := va_cnB (Ts := TW) (ws' := TW) (np y') hts (tw_goodIn hinw) hcw rfl rfl hl9 (hts _ hmt.2.1) hdd hrm
      exact vx_runIN F.fix hM ⟨hN, kc, hts _ kb⟩ ⟨PcBlind, hPc⟩ rfl (by omega) hsz (hst q As) (hcov 0) hd ⟨hc, hs⟩
    · obtain ⟨ka, kb, kc, kd, ke, kf, kg⟩ := lnk6 hck
      obtain ⟨q, As, rfl, hcell⟩ := hrec (by omega) (by omega)
      rw [List.length_cons] at hn
      rw [ke, if_neg (by decide)] at hcell
      obtain ⟨cC, hat⟩ := classAt_of (hts _ (new_at hT (o := 0) (i := 50) (kd := 10) (by decide)).2.2.2.1)
      exact vx_runSU (C := RR10) hat F.fix hM (va_cwSU (np y') hts (hgo [_, _, _, _, _] (fun w hw => by
          simp only [List.mem_cons, List.not_mem_nil, or_false] at hw
          rcases hw with rfl | rfl | rfl | rfl | rfl
          · exact ka
          · exact kb
          · exact kc
          · exact kd
          · exact hmt.2.1)) (show wsY y' = _ by unfold wsY; rw [codeW0 kg]) rfl rfl ⟨kf, hdd.2.2⟩ hrm) ⟨PcBlind, hcell, hPc⟩ rfl (by omega) hsz (hst q As) (hcov 0) hd ⟨hc, hs⟩
end ROWS6
end
section
/-! ENDS of a method, handlers, throws -/
def hclA : List (Nat × Nat × Nat × Nat) := [(13, 1, 1126, 459), (15, 2, 1127, 546), (20, 4, 1135, 530), (41, 3, 1171, 1184), (112, 5, 1407, 1419)]
def chkEx (e : Nat) : Bool := (exW e).all (fun w => !goodWord w || decide (w ∈ TBL))
noncomputable def chkThr (r : Nat × Nat × Nat × Nat × Nat × Nat × Nat × Nat) : Bool :=
  Nat.beq (yo r.1) 0 && Nat.beq r.2.2.1 0 && Nat.ble 1 r.2.2.2.2.2.2.2 && Nat.ble r.2.2.2.2.2.2.2 5 && Nat.beq r.2.2.2.1 (ikE r.2.2.2.2.2.2.2) && Nat.beq r.2.2.2.2.2.2.1 (icE r.2.2.2.2.2.2.2) && List.isEmpty (hh r.1) && decide (decode (yb r.1) r.2.1 = .ok (.new r.2.2.2.1, 3)) && decide (decode (yb r.1) (r.2.1 + 3) = .ok (.dup, 1)) &&
  (if r.2.2.2.2.2.1 = 0 then decide (decode (yb r.1) (r.2.1 + 4) = .ok (.ldc r.2.2.2.2.1, 2)) && decide (decode (yb r.1) (r.2.1 + 6) = .ok (.invokespecial r.2.2.2.2.2.2.1, 3)) && decide (decode (yb r.1) (r.2.1 + 9) = .ok (.athrow, 1))
   else decide (decode (yb r.1) (r.2.1 + 4) = .ok (.ldc_w r.2.2.2.2.1, 3)) && decide (decode (yb r.1) (r.2.1 + 7) = .ok (.invokespecial r.2.2.2.2.2.2.1, 3)) && decide (decode (yb r.1) (r.2.1 + 10) = .ok (.athrow, 1)))
noncomputable def chkH1 (y : Nat) (r : Nat × Nat × Nat × Nat × Nat) (q : Nat × Nat × Nat × Nat) : Bool :=
  Nat.beq r.1 q.1 && Nat.beq r.2.1 q.2.1 && Nat.ble 1 r.2.2.2.1 && Nat.ble r.2.2.2.1 5 && Nat.blt r.2.2.2.2 (nl y) && Nat.blt y 343 && Nat.blt 0 q.2.2.2 &&
  hclA.any (fun z => Nat.beq z.1 q.2.2.2 && Nat.beq z.2.1 r.2.2.2.1 && okAt z.2.2.1 (.classLink (cn (yo y)) q.2.2.2 (exN r.2.2.2.1))) &&
  ((decide (decode (yb y) q.2.2.1 = .ok (.astore r.2.2.2.2, 2)) && Nat.beq r.2.2.1 (q.2.2.1 + 2)) || (List.finRange 4).any (fun n => decide (decode (yb y) q.2.2.1 = .ok (.astore_n n, 1)) && Nat.beq n.val r.2.2.2.2 && Nat.beq r.2.2.1 (q.2.2.1 + 1)))
noncomputable def chkHs (y : Nat) : List (Nat × Nat × Nat × Nat × Nat) → List (Nat × Nat × Nat × Nat) → Bool
  | [], [] => true
  | r :: l, q :: k => chkH1 y r q && chkHs y l k
  | _, _ => false
def TOK3 : Prop := (∀ e, 1 ≤ e → e ≤ 5 → chkEx e = true) ∧ thrA.all chkThr = true ∧ ∀ y, y < 344 → chkHs y (hd y) (hh y) = true
/-- a local of which nothing is known any more -/
theorem LH.putN {ad : Nat → Option Nat} {n y nL i : Nat} {ls : List Value} {rls rls' : Array Slot} {w : Value} (h : LH ad n y nL ls rls) (hd : mem' ((dsl y).map (· + 1)) i = false)
    (h' : lv_has rls' nL ((i, w) :: (lvl rls).filter (fun q => !(q.1 == i) && !(q.1 + 1 == i && q.2.category == 2)))) : LH ad n y nL (sl ls i .null) rls' := by
  refine ⟨h'.1, h'.2.1, fun k => ?_⟩
  rw [gl_sl]
  by_cases hk : k = i ∧ i < ls.length
  · rw [if_pos hk, hk.1]
    exact ⟨trivial, Or.inl rfl⟩
  · rw [if_neg hk]
    refine ⟨(h.2.2 k).1, ?_⟩
    rcases (h.2.2 k).2 with e | ⟨w1, h1, h2⟩
    · exact Or.inl e
    · by_cases hki : k = i
      · exact Or.inl (by
          have hl : ¬ i < ls.length := fun z => hk ⟨hki, z⟩
          have : ∀ (l : List Value) (j : Nat), ¬ j < l.length → gl l j = .null := by
            intro l
            induction l with
            | nil => intro j _; rfl
            | cons a l ih =>
              intro j hj
              cases j with
              | zero => simp at hj
              | succ j => exact ih j (by simpa using hj)
          rw [hki]
          exact this ls i hl)
      · refine Or.inr ⟨w1, h1, h'.2.2 (k, w1) (List.mem_cons_of_mem _ (List.mem_filter.mpr ⟨lvl_mem.mpr h2, ?_⟩))⟩
        have hcat := h1.cat
        have hok := (h.2.2 k).1
        have : ¬ (k + 1 = i ∧ w1.category = 2) := by
          rintro ⟨e1, e2⟩
          rw [hcat] at e2
          have hm : ∀ (l : List Nat), mem' l k = true → mem' (l.map (· + 1)) (k + 1) = true := by
            intro l
            induction l with
            | nil => intro z; cases z
            | cons a l ih =>
              intro z
              simp only [mem', List.map_cons] at z ⊢
              cases hb : Nat.beq a k with
              | true =>
                have : a = k := Nat.eq_of_beq_eq_true hb
                subst this
                simp
              | false =>
                rw [hb] at z
                have hb2 : Nat.beq (a + 1) (k + 1) = false := by
                  rw [← Bool.not_eq_true] at hb ⊢
                  intro z2
                  exact hb (by have := Nat.eq_of_beq_eq_true z2; have : a = k := by omega
                               subst this; simp)
                rw [hb2]
                exact ih z
          cases hg : gl ls k with
          | double d =>
            rw [hg] at hok
            have := hm _ hok
            rw [e1, hd] at this
            cases this
          | long d => rw [hg] at hok; exact hok
          | _ => rw [hg] at e2; simp [Value.category] at e2
        simp only [Bool.and_eq_true, Bool.not_eq_true', beq_eq_false_iff_ne, ne_eq, Bool.and_eq_false_iff]
        refine ⟨hki, ?_⟩
        by_cases e1 : k + 1 = i
        · exact Or.inr (fun z => this ⟨e1, z⟩)
        · exact Or.inl e1
theorem dsl_no {y : Nat} (h : y < 343) : dsl y = [] := by unfold dsl; rw [if_neg (by omega)]
section ROWS7
variable {p : Program} {l : Launch} {e : Env} {R : Room} {s : State} {m : MethodId} {args : Array Value} {below : List Frame} {meth : Method} {c : Code} {H : Heap} {locs : List Loc} {cells slots : Nat} {Q : State → Prop}
variable {x : Ctx} {ad ad0 : Nat → Option Nat} {h h' : Hp} {y pc n0 mc ms : Nat} {rls : Array Slot} {ls rest : List Value}
/-- every entry of the table passes the exception by -/
def passes (c : Code) (s : State) (args : Array Value) (own E : String) (pc : Nat) (z : ExceptionTableEntry) : Prop := covers z pc = false ∨ (z.catchType ≠ 0 ∧ ∃ nm : String, (Cond.classLink own z.catchType nm).before args s = true ∧ va_Nc E nm s)
theorem m_handle (F : FX p m c meth s args y) (hO : OLDs x s s.heap) (hL : LH ad (HN h) y (nl y) ls rls) {k q : Nat} {ce : Cell} (hcell : H[q]? = some ce) (hv : ce.vm = .none) (hcl : s.vm.findClass (exN k) = some ce.cls) (hk1 : 1 ≤ k) (hk5 : k ≤ 5)
    {kk : Nat → Nat → Res} {o : Res} {r : Except Nat Value × Hp} (hs : List (Nat × Nat × Nat × Nat × Nat)) : ∀ (tb : List (Nat × Nat × Nat × Nat)) (pre : List ExceptionTableEntry), chkHs y hs tb = true → c.exceptionTable.toList = pre ++ tableOf tb → (∀ z ∈ pre, passes c s args (cn (yo y)) (exN k) pc z) → hsel hs pc k kk o = some r →
    (∀ (nx k9 : Nat) (rls' : Array Slot), kk nx k9 = some r → LH ad (HN h) y (nl y) (sl ls k9 .null) rls' → W p l e R s m args below meth c H locs cells slots Q (F0 m nx rls' [])) →
    (o = some r → (∀ z ∈ c.exceptionTable.toList, passes c s args (cn (yo y)) (exN k) pc z) → vx_W p l e R s m args below meth c H locs cells slots Q (F0 m pc rls rest) q) →
    vx_W p l e R s m args below meth c H locs cells slots Q (F0 m pc rls rest) q := by
  induction hs with
  | nil =>
    intro tb pre hck htb hpre hsl _ kO
    cases tb with
    | nil =>
      refine kO hsl (fun z hz => ?_)
      rw [htb] at hz
      simp only [tableOf, List.map_nil, List.append_nil] at hz
      exact hpre z hz
    | cons a b => cases hck
  | cons r1 hs ih =>
    intro tb pre hck htb hpre hsl kH kO
    cases tb with
    | nil => cases hck
    | cons q1 tb =>
      simp only [chkHs, Bool.and_eq_true] at hck
      obtain ⟨hc1, hc2⟩ := hck
      simp only [chkH1, Bool.and_eq_true] at hc1
      obtain ⟨⟨⟨⟨⟨⟨⟨⟨a1, a2⟩, a3⟩, a4⟩, a5⟩, a6⟩, a7⟩, a8⟩, a9⟩ := hc1
      have a1 := Nat.eq_of_beq_eq_true a1
      have a2 := Nat.eq_of_beq_eq_true a2
      have a3 := Nat.le_of_ble_eq_true a3
      have a4 := Nat.le_of_ble_eq_true a4
      have a5 : r1.2.2.2.2 < nl y := Nat.le_of_ble_eq_true a5
      have a6 : y < 343 := Nat.le_of_ble_eq_true a6
      have a7 : 0 < q1.2.2.2 := Nat.le_of_ble_eq_true a7
      obtain ⟨z, -, hz⟩ := List.any_eq_true.mp a8
      simp only [Bool.and_eq_true] at hz
      have wl := F.2.2.2.2.1 _ (tw_of hz.2)
      have wc : (Cond.castable (exN r1.2.2.2.1) (exN r1.2.2.2.1)).before args s = true := va_Nw.use rfl (hO.2.2.2.2.2.2.2.2.2.2 _ a3 a4 _ (exW_cast _ a3 a4) rfl)
      have htb' : c.exceptionTable.toList = pre ++ (⟨q1.1, q1.2.1, q1.2.2.1, q1.2.2.2⟩ :: tableOf tb) := htb
      have hgo : passes c s args (cn (yo y)) (exN k) pc ⟨q1.1, q1.2.1, q1.2.2.1, q1.2.2.2⟩ → hsel hs pc k kk o = some r → vx_W p l e R s m args below meth c H locs cells slots Q (F0 m pc rls rest) q := by
        intro hp hs2
        refine ih tb (pre ++ [⟨q1.1, q1.2.1, q1.2.2.1, q1.2.2.2⟩]) hc2 (by rw [htb']; simp) (fun w hw => ?_) hs2 kH kO
        rcases List.mem_append.mp hw with hw | hw
        · exact hpre w hw
        · rw [List.mem_singleton.mp hw]
          exact hp
      simp only [hsel] at hsl
      cases hcov : (Nat.ble r1.1 pc && Nat.blt pc r1.2.1) with
      | false =>
        rw [hcov] at hsl
        refine hgo (Or.inl ?_) hsl
        rw [← Bool.not_eq_true] at hcov ⊢
        intro hz2
        apply hcov
        simp only [covers, Bool.and_eq_true, decide_eq_true_eq] at hz2 ⊢
        exact ⟨Nat.ble_eq_true_of_le (by omega), Nat.ble_eq_true_of_le (by show pc + 1 ≤ _; omega)⟩
      | true =>
        rw [hcov] at hsl
        simp only [cond_true] at hsl
        by_cases hke : k = r1.2.2.2.1
        · rw [if_pos hke] at hsl
          simp only [Bool.and_eq_true] at hcov
          have b1 := Nat.le_of_ble_eq_true hcov.1
          have b2 : pc < r1.2.1 := Nat.le_of_ble_eq_true hcov.2
          rw [← hke] at wl wc
          refine vx_catch (own := cn (yo y)) (name := exN k) F.2.2.2.1 pre ⟨q1.1, q1.2.1, q1.2.2.1, q1.2.2.2⟩ (tableOf tb) htb' hpre ?_ (by show q1.2.2.2 ≠ 0; omega) wl wc hcell hv hcl ?_
          · simp only [covers, Bool.and_eq_true, decide_eq_true_eq]
            omega
          · show W p l e R s m args below meth c H locs cells slots Q (F0 m q1.2.2.1 rls [.ref q])
            simp only [Bool.or_eq_true, Bool.and_eq_true, decide_eq_true_eq] at a9
            have hdn : mem' ((dsl y).map (· + 1)) r1.2.2.2.2 = false := by rw [dsl_no a6]; rfl
            rcases a9 with ⟨d1, d2⟩ | d1
            · have d2 := Nat.eq_of_beq_eq_true d2
              refine lv_astore F.1 F.2.1 d1 hL.has a5 rfl (fun rls' h9 => ?_)
              rw [← d2]
              exact kH _ _ rls' hsl (hL.putN hdn h9)
            · obtain ⟨n, -, hn⟩ := List.any_eq_true.mp d1
              simp only [Bool.and_eq_true, decide_eq_true_eq] at hn
              obtain ⟨⟨d1, d2⟩, d3⟩ := hn
              have d2 := Nat.eq_of_beq_eq_true d2
              have d3 := Nat.eq_of_beq_eq_true d3
              refine lv_astore_n F.1 F.2.1 d1 d2 hL.has a5 rfl (fun rls' h9 => ?_)
              rw [← d3]
              exact kH _ _ rls' hsl (hL.putN hdn h9)
        · rw [if_neg hke] at hsl
          exact hgo (Or.inr ⟨by show q1.2.2.2 ≠ 0; omega, _, wl, hO.2.2.2.2.2.2.1 k _ hk1 hk5 a3 a4 hke⟩) hsl
theorem fndThr_in {y pc i k : Nat} : ∀ {l : List (Nat × Nat × Nat × Nat × Nat × Nat × Nat × Nat)}, fndThr l y pc i k = true → ∃ r ∈ l, r.1 = y ∧ r.2.1 = pc ∧ r.2.2.2.1 = i ∧ r.2.2.2.2.2.2.2 = k
  | [], h => by cases h
  | r :: l, h => by
    simp only [fndThr, Bool.or_eq_true, Bool.and_eq_true] at h
    rcases h with h | h
    · exact ⟨r, List.mem_cons_self, Nat.eq_of_beq_eq_true h.1.1.1, Nat.eq_of_beq_eq_true h.1.1.2, Nat.eq_of_beq_eq_true h.1.2, Nat.eq_of_beq_eq_true h.2⟩
    · obtain ⟨r', h1, h2⟩ := fndThr_in h
      exact ⟨r', List.mem_cons_of_mem _ h1, h2⟩
theorem St.ext (S : St x ad h H) {H1 : Heap} (hq : ∀ q : Nat, q < H.size → H1[q]? = H[q]?) : St x ad h H1 := ⟨S.1.kept (fun k q hk => hq q.1 (S.1 k q hk).lt), S.2⟩
theorem St.thr (S : St x ad h H) : St x ad (hthr h) H := S
theorem va_S.ext {A : Nat → Prop} {H0 H1 : Heap} {t : State} (hS : va_S A s.heap H locs) (h1 : H.size ≤ t.heap.size) (h2 : ∀ q : Nat, q < H.size → t.heap[q]? = H[q]?) : va_F A s t := ⟨Nat.le_trans hS.1 h1, fun q a1 a2 => by rw [h2 q (Nat.lt_of_lt_of_le a1 hS.1)]; exact hS.2.1 q a1 a2⟩
theorem fit_ex : ∀ e, 1 ≤ e → e ≤ 5 → Bundle.fit (exN e) = true := by
  intro e h1 h2
  rcases (show e = 1 ∨ e = 2 ∨ e = 3 ∨ e = 4 ∨ e = 5 by omega) with rfl | rfl | rfl | rfl | rfl <;> decide +kernel
theorem fit_up : ∀ n ∈ exU, Bundle.fit n = true := by
  intro n hn
  simp only [exU, List.mem_cons, List.not_mem_nil, or_false] at hn
  rcases hn with rfl | rfl <;> decide +kernel
theorem m_throw (hT3 : TOK3) (F : FX p m c meth s args y) (hst : l.stackTraces = false) (hO : OLDs x s s.heap) (S : St x ad h H) (hS : va_S (fr x) s.heap H locs) (hE : Ext ad0 ad n0) (hsz : rls.size = nl y) (htb : c.exceptionTable.toList = tableOf (hh y)) (hlk : meth.locks = false) {i k : Nat} (hf : fndThr thrA y pc i k = true) (hw : (rest.map fun v => v.category).sum ≤ 8) (h3 : 8 ≤ R.frames) (h4 : 200 ≤ R.locals) (hc : cells + 1 ≤ mc) (hs : slots + 6 ≤ ms) (hc2 : mc ≤ R.cells) (hs2 : ms ≤ R.slots) {QQ : Array Value → State → Outcome → State → Prop} :
    W p l e R s m args below meth c H locs cells slots (vx_MQ below QQ (XCC x ad0 n0 (.error k) (hthr h)) args s mc ms (fr x)) (F0 m pc rls rest) := by
  obtain ⟨⟨y', pc', o, ik, is, wd, ic, k'⟩, hr, e1, e2, e3, e4⟩ := fndThr_in hf
  dsimp only at e1 e2 e3 e4
  subst e1 e2 e3 e4
  have hck := List.all_eq_true.mp hT3.2.1 _ hr
  simp only [chkThr, Bool.and_eq_true, decide_eq_true_eq] at hck
  obtain ⟨⟨⟨⟨⟨⟨⟨⟨⟨a1, a2⟩, a3⟩, a4⟩, a5⟩, a6⟩, a7⟩, a8⟩, a9⟩, a10⟩ := hck
  have a1 := Nat.eq_of_beq_eq_true a1
  have a2 := Nat.eq_of_beq_eq_true a2
  have a3 := Nat.le_of_ble_eq_true a3
  have a4 := Nat.le_of_ble_eq_true a4
  have a5 := Nat.eq_of_beq_eq_true a5
  have a6 := Nat.eq_of_beq_eq_true a6
  subst a2 a5 a6
  have hex := hT3.1 k' a3 a4
  have hwd : ∀ w ∈ exW k', goodWord w = true → w ∈ TW := fun w hw hg => by
    have h1 := List.all_eq_true.mp hex w hw
    rw [hg] at h1
    simp only [Bool.not_true, Bool.false_or, decide_eq_true_eq] at h1
    exact List.mem_filter.mpr ⟨h1, hg⟩
  have hown : s.vm.findClass "RecordReconciler" = some m.cls := by
    have := F.2.2.2.1
    rw [a1] at this
    exact this
  have hgood : ∀ w ∈ exW k', vx_ot w = true := fun w hw => by
    have h1 := List.all_eq_true.mp (exW_dc k' a3 a4) w hw
    unfold vx_ot
    cases hg : goodWord w with
    | true => rw [Bool.or_true]
    | false =>
      rw [hg, Bool.false_or] at h1
      rw [dc_tab h1]
      rfl
  have hb : ∀ w ∈ exW k', w.before args s = true := fun w hw => by
    have h1 := List.all_eq_true.mp (exW_dc k' a3 a4) w hw
    cases hg : goodWord w with
    | true => exact F.2.2.2.2.1 w (hwd w hw hg)
    | false =>
      rw [hg, Bool.false_or] at h1
      exact va_Nw.use (dc_tab h1) (hO.2.2.2.2.2.2.2.2.2.2 k' a3 a4 w hw hg)
  obtain ⟨tx, q, hstr⟩ := hO.2.2.2.1 _ hr
  have hout : ∀ n : Nat, ∀ z ∈ c.exceptionTable.toList, covers z n = false := by
    intro n z hz
    rw [htb] at hz
    have : hh y' = [] := List.isEmpty_iff.mp a7
    rw [this] at hz
    exact nomatch hz
  have hx : ∀ t : State, s.vm.Alike t.vm → H.size ≤ t.heap.size → (∀ q : Nat, q < H.size → t.heap[q]? = H[q]?) → XCC x ad0 n0 (.error k') (hthr h) (exN k') s t := fun t _ h1 h2 => ⟨ad, trivial, ⟨⟨k', rfl, rfl, a3, a4⟩, hE, St.ext (h := hthr h) S h2⟩, hS.ext (H0 := H) (H1 := H) h1 h2⟩
  by_cases h4k : k' = 4
  · subst h4k
    have hL4 : exL 4 = (atN "RecordReconciler" (icE 4)).filter vx_no := rfl
    have hw4 : ∀ w ∈ Cond.classLink "RecordReconciler" (ikE 4) nseN :: Cond.initialized nseN :: (atN "RecordReconciler" (icE 4)).filter vx_no, w ∈ exW 4 := fun w hw => hw
    split at a10
    · simp only [Bool.and_eq_true, decide_eq_true_eq] at a10
      exact nse_throw (own := "RecordReconciler") (ik := ikE 4) (ic := icE 4) F.1 F.2.1 hst hown (hb _ (hw4 _ List.mem_cons_self)) (hb _ (hw4 _ (List.mem_cons_of_mem _ List.mem_cons_self))) hstr (fun w hw => hb w (hw4 _ (List.mem_cons_of_mem _ (List.mem_cons_of_mem _ hw)))) (fun w hw => hgood w (hw4 w hw)) hO.2.2.2.2.1 hO.2.2.2.2.2.1 hS (by rw [hsz, F.2.2.1]) 6 a8 a9 (Or.inl ⟨rfl, a10.1.1⟩) a10.1.2 a10.2 hout (by omega) (by omega) (by omega) (by omega) hlk hx (fun z hz => hS.2.2 z hz) hc hs
    · simp only [Bool.and_eq_true, decide_eq_true_eq] at a10
      exact nse_throw (own := "RecordReconciler") (ik := ikE 4) (ic := icE 4) F.1 F.2.1 hst hown (hb _ (hw4 _ List.mem_cons_self)) (hb _ (hw4 _ (List.mem_cons_of_mem _ List.mem_cons_self))) hstr (fun w hw => hb w (hw4 _ (List.mem_cons_of_mem _ (List.mem_cons_of_mem _ hw)))) (fun w hw => hgood w (hw4 w hw)) hO.2.2.2.2.1 hO.2.2.2.2.2.1 hS (by rw [hsz, F.2.2.1]) 7 a8 a9 (Or.inr ⟨rfl, a10.1.1⟩) a10.1.2 a10.2 hout (by omega) (by omega) (by omega) (by omega) hlk hx (fun z hz => hS.2.2 z hz) hc hs
  have hLk : exL k' = vx_atS "RecordReconciler" (icE k') (exN k') exU := by unfold exL; rw [if_neg h4k]
  have hb2 : ∀ w ∈ Cond.classLink "RecordReconciler" (ikE k') (exN k') :: Cond.initialized (exN k') :: vx_atS "RecordReconciler" (icE k') (exN k') exU, w.before args s = true ∧ vx_ot w = true := fun w hw => by
    rw [← hLk] at hw
    exact ⟨hb w hw, hgood w hw⟩
  have hb := fun w hw => (hb2 w hw).1
  have hgood := fun w hw => (hb2 w hw).2
  split at a10
  · simp only [Bool.and_eq_true, decide_eq_true_eq] at a10
    exact vx_throwS F.1 F.2.1 hst (names := exU) hown (fit_ex k' a3 a4) fit_up (hb _ List.mem_cons_self) (hb _ (List.mem_cons_of_mem _ List.mem_cons_self)) hstr (fun w hw => hb w (List.mem_cons_of_mem _ (List.mem_cons_of_mem _ hw))) hgood hO.2.2.2.2.1 hO.2.2.2.2.2.1 hS (by rw [hsz, F.2.2.1]) a8 a9 a10.1.1 a10.1.2 a10.2 (hout _) (by show 2 + 3 < _; omega) (by show _ + (13 * (2 + 1) + 43) ≤ _; omega) (by omega) (by omega) hlk hx (fun z hz => hS.2.2 z hz) hc hs
  · simp only [Bool.and_eq_true, decide_eq_true_eq] at a10
    exact vx_throwSW F.1 F.2.1 hst (names := exU) hown (fit_ex k' a3 a4) fit_up (hb _ List.mem_cons_self) (hb _ (List.mem_cons_of_mem _ List.mem_cons_self)) hstr (fun w hw => hb w (List.mem_cons_of_mem _ (List.mem_cons_of_mem _ hw))) hgood hO.2.2.2.2.1 hO.2.2.2.2.2.1 hS (by rw [hsz, F.2.2.1]) a8 a9 a10.1.1 a10.1.2 a10.2 (hout _) (by show 2 + 3 < _; omega) (by show _ + (13 * (2 + 1) + 43) ≤ _; omega) (by omega) (by omega) hlk hx (fun z hz => hS.2.2 z hz) hc hs
/-- a return, by the value's kind -/
theorem m_retI (F : FX p m c meth s args y) (S : St x ad h H) (hS : va_S (fr x) s.heap H locs) (hE : Ext ad0 ad n0) (hlk : meth.locks = false) {ty : FieldType} (hyr : yr y = some ty) (hr : meth.sig.returnType = yr y) (hk : rtc (yr y) = 1) {v : Int32} (hn : narrow ty (.int v) = .int v) (hd : decode (yb y) pc = .ok (.ireturn, 1)) (hc : cells ≤ mc) (hs : slots ≤ ms) {XC : String → State → State → Prop} :
    W p l e R s m args below meth c H locs cells slots (vx_MQ below (QC y x ad0 n0 (.ok (.int v)) h) XC args s mc ms (fr x)) (F0 m pc rls [.int v]) := by
  refine W.widen hc hs (vx_ret (W.zret F.1 F.2.1 (by rw [hr, hyr]) hn (fun t ht _ => ?_) hS.2.2 hd hlk))
  unfold QC
  rw [hk]
  exact ⟨⟨v, ad, rfl, rfl, hE, by rw [ht]; exact S⟩, hS.F ht⟩
theorem m_retV (F : FX p m c meth s args y) (S : St x ad h H) (hS : va_S (fr x) s.heap H locs) (hE : Ext ad0 ad n0) (hlk : meth.locks = false) (hyr : yr y = none) (hr : meth.sig.returnType = yr y) (hd : decode (yb y) pc = .ok (.return_, 1)) (hc : cells ≤ mc) (hs : slots ≤ ms) {XC : String → State → State → Prop} :
    W p l e R s m args below meth c H locs cells slots (vx_MQ below (QC y x ad0 n0 (.ok .null) h) XC args s mc ms (fr x)) (F0 m pc rls []) := by
  refine W.widen hc hs (vx_ret (W.vret F.1 F.2.1 (by rw [hr, hyr]) (fun t ht _ => ?_) hS.2.2 hd hlk))
  unfold QC
  rw [hyr]
  exact ⟨⟨ad, rfl, rfl, hE, by rw [ht]; exact S⟩, hS.F ht⟩
theorem m_retD (F : FX p m c meth s args y) (S : St x ad h H) (hS : va_S (fr x) s.heap H locs) (hE : Ext ad0 ad n0) (hlk : meth.locks = false) (hyr : yr y = some .double) (hr : meth.sig.returnType = yr y) {v : UInt64} (hd : decode (yb y) pc = .ok (.dreturn, 1)) (hc : cells ≤ mc) (hs : slots ≤ ms) {XC : String → State → State → Prop} :
    W p l e R s m args below meth c H locs cells slots (vx_MQ below (QC y x ad0 n0 (.ok (.double v)) h) XC args s mc ms (fr x)) (F0 m pc rls [.double v]) := by
  refine W.widen hc hs (vx_ret (W.dret F.1 F.2.1 (by rw [hr, hyr]) (fun t ht _ => ?_) hS.2.2 hd hlk))
  unfold QC
  rw [hyr]
  exact ⟨⟨v, ad, rfl, rfl, hE, by rw [ht]; exact S⟩, hS.F ht⟩
theorem m_retF (F : FX p m c meth s args y) (S : St x ad h H) (hS : va_S (fr x) s.heap H locs) (hE : Ext ad0 ad n0) (hlk : meth.locks = false) (hyr : yr y = some .float) (hr : meth.sig.returnType = yr y) {v : UInt32} (hd : decode (yb y) pc = .ok (.freturn, 1)) (hc : cells ≤ mc) (hs : slots ≤ ms) {XC : String → State → State → Prop} :
    W p l e R s m args below meth c H locs cells slots (vx_MQ below (QC y x ad0 n0 (.ok (.float v)) h) XC args s mc ms (fr x)) (F0 m pc rls [.float v]) := by
  refine W.widen hc hs (vx_ret (W.fret F.1 F.2.1 (by rw [hr, hyr]) (fun t ht _ => ?_) hS.2.2 hd hlk))
  unfold QC
  rw [hyr]
  exact ⟨⟨v, ad, rfl, rfl, hE, by rw [ht]; exact S⟩, hS.F ht⟩
theorem rtc2 {t : Option FieldType} (h : rtc t = 2) : ∃ ft, t = some ft ∧ ((∃ n, ft = .object n) ∨ ∃ t, ft = .array t) := by
  cases t with
  | none => cases h
  | some ft => cases ft <;> first | (cases h; done) | exact ⟨_, rfl, Or.inl ⟨_, rfl⟩⟩ | exact ⟨_, rfl, Or.inr ⟨_, rfl⟩⟩
theorem m_retA (F : FX p m c meth s args y) (S : St x ad h H) (hS : va_S (fr x) s.heap H locs) (hE : Ext ad0 ad n0) (hlk : meth.locks = false) (hk : rtc (yr y) = 2) (hr : meth.sig.returnType = yr y) {b : Nat} (hb : b < HN h) (hd : decode (yb y) pc = .ok (.areturn, 1)) (hc : cells ≤ mc) (hs : slots ≤ ms) {XC : String → State → State → Prop} :
    W p l e R s m args below meth c H locs cells slots (vx_MQ below (QC y x ad0 n0 (.ok (.ref b)) h) XC args s mc ms (fr x)) (F0 m pc rls [va_rf (ad b)]) := by
  obtain ⟨ft, h1, h2⟩ := rtc2 hk
  refine W.widen hc hs (vx_ret (W.aret F.1 F.2.1 (by rw [hr, h1]) h2 (va_rf_or _) (fun t ht _ => ?_) hS.2.2 hd hlk))
  unfold QC
  rw [hk]
  exact ⟨⟨ad b, ad, rfl, ⟨b, rfl, hb, rfl⟩, hE, by rw [ht]; exact S⟩, hS.F ht⟩
end ROWS7
end
