section
-- ===== PART A: goes FIRST, ahead of the names: the tables' words, and 'selects' of the private methods out of them =====
/-- a private method of a class that the tables say can be made, by its rows of tables_1 -/
def lw_okq (q : MethodName × Nat) : Prop := (q.1.cls ≠ "java/lang/invoke/MethodHandle" ∧ q.1.cls ≠ "java/lang/invoke/VarHandle") ∧ Cond.instantiable q.1.cls q.2 ∈ tables_1 ∧ Cond.privateMethod q.1 ∈ tables_1 ∧ Cond.instanceMethod q.1 ∈ tables_1
theorem lw_p0 : lw_okq (⟨"JudgesLedger", "refusalOfEvent", "()I"⟩, 13) := ⟨⟨by decide +kernel, by decide +kernel⟩, List.mem_of_getElem? (i := 13) (by decide +kernel), List.mem_of_getElem? (i := 371) (by decide +kernel), List.mem_of_getElem? (i := 372) (by decide +kernel)⟩
theorem lw_p1 : lw_okq (⟨"JudgesLedger", "appendEvent", "(II)V"⟩, 13) := ⟨⟨by decide +kernel, by decide +kernel⟩, List.mem_of_getElem? (i := 13) (by decide +kernel), List.mem_of_getElem? (i := 375) (by decide +kernel), List.mem_of_getElem? (i := 376) (by decide +kernel)⟩
theorem lw_p2 : lw_okq (⟨"JudgesLedger", "innermost", "()LJudgesLedger$Scoring;"⟩, 13) := ⟨⟨by decide +kernel, by decide +kernel⟩, List.mem_of_getElem? (i := 13) (by decide +kernel), List.mem_of_getElem? (i := 379) (by decide +kernel), List.mem_of_getElem? (i := 380) (by decide +kernel)⟩
theorem lw_p3 : lw_okq (⟨"JudgesLedger$Sheet", "markIndex", "(II)I"⟩, 10) := ⟨⟨by decide +kernel, by decide +kernel⟩, List.mem_of_getElem? (i := 79) (by decide +kernel), List.mem_of_getElem? (i := 391) (by decide +kernel), List.mem_of_getElem? (i := 392) (by decide +kernel)⟩
theorem lw_p4 : lw_okq (⟨"JudgesLedger", "outcomeOf", "(I)I"⟩, 13) := ⟨⟨by decide +kernel, by decide +kernel⟩, List.mem_of_getElem? (i := 13) (by decide +kernel), List.mem_of_getElem? (i := 395) (by decide +kernel), List.mem_of_getElem? (i := 396) (by decide +kernel)⟩
theorem lw_p5 : lw_okq (⟨"JudgesLedger", "fail", "(II)I"⟩, 13) := ⟨⟨by decide +kernel, by decide +kernel⟩, List.mem_of_getElem? (i := 13) (by decide +kernel), List.mem_of_getElem? (i := 432) (by decide +kernel), List.mem_of_getElem? (i := 433) (by decide +kernel)⟩
theorem lw_p6 : lw_okq (⟨"JudgesLedger", "letGuardCatch", "(I)Z"⟩, 13) := ⟨⟨by decide +kernel, by decide +kernel⟩, List.mem_of_getElem? (i := 13) (by decide +kernel), List.mem_of_getElem? (i := 444) (by decide +kernel), List.mem_of_getElem? (i := 445) (by decide +kernel)⟩
theorem lw_p7 : lw_okq (⟨"JudgesLedger", "suppressUnder", "(I)V"⟩, 13) := ⟨⟨by decide +kernel, by decide +kernel⟩, List.mem_of_getElem? (i := 13) (by decide +kernel), List.mem_of_getElem? (i := 461) (by decide +kernel), List.mem_of_getElem? (i := 462) (by decide +kernel)⟩
theorem lw_p8 : lw_okq (⟨"JudgesLedger", "dropInnermost", "()V"⟩, 13) := ⟨⟨by decide +kernel, by decide +kernel⟩, List.mem_of_getElem? (i := 13) (by decide +kernel), List.mem_of_getElem? (i := 465) (by decide +kernel), List.mem_of_getElem? (i := 466) (by decide +kernel)⟩
theorem lw_p9 : lw_okq (⟨"JudgesLedger$Scoring", "removeSavepoint", "(I)V"⟩, 9) := ⟨⟨by decide +kernel, by decide +kernel⟩, List.mem_of_getElem? (i := 211) (by decide +kernel), List.mem_of_getElem? (i := 502) (by decide +kernel), List.mem_of_getElem? (i := 503) (by decide +kernel)⟩
theorem lw_p10 : lw_okq (⟨"JudgesLedger", "savepointNamed", "(I)I"⟩, 13) := ⟨⟨by decide +kernel, by decide +kernel⟩, List.mem_of_getElem? (i := 13) (by decide +kernel), List.mem_of_getElem? (i := 510) (by decide +kernel), List.mem_of_getElem? (i := 511) (by decide +kernel)⟩
theorem lw_p11 : lw_okq (⟨"JudgesLedger", "finishAct", "(I)I"⟩, 13) := ⟨⟨by decide +kernel, by decide +kernel⟩, List.mem_of_getElem? (i := 13) (by decide +kernel), List.mem_of_getElem? (i := 533) (by decide +kernel), List.mem_of_getElem? (i := 534) (by decide +kernel)⟩
theorem lw_p12 : lw_okq (⟨"JudgesLedger", "keepForUndo", "(IIZ)V"⟩, 13) := ⟨⟨by decide +kernel, by decide +kernel⟩, List.mem_of_getElem? (i := 13) (by decide +kernel), List.mem_of_getElem? (i := 537) (by decide +kernel), List.mem_of_getElem? (i := 538) (by decide +kernel)⟩
theorem lw_p13 : lw_okq (⟨"JudgesLedger$Placing", "middle", "(II)I"⟩, 6) := ⟨⟨by decide +kernel, by decide +kernel⟩, List.mem_of_getElem? (i := 127) (by decide +kernel), List.mem_of_getElem? (i := 578) (by decide +kernel), List.mem_of_getElem? (i := 579) (by decide +kernel)⟩
theorem lw_p14 : lw_okq (⟨"JudgesLedger$Placing", "sortMarks", "(II)V"⟩, 6) := ⟨⟨by decide +kernel, by decide +kernel⟩, List.mem_of_getElem? (i := 127) (by decide +kernel), List.mem_of_getElem? (i := 582) (by decide +kernel), List.mem_of_getElem? (i := 583) (by decide +kernel)⟩
theorem lw_p15 : lw_okq (⟨"JudgesLedger$Placing", "rankClass", "(I)V"⟩, 6) := ⟨⟨by decide +kernel, by decide +kernel⟩, List.mem_of_getElem? (i := 127) (by decide +kernel), List.mem_of_getElem? (i := 594) (by decide +kernel), List.mem_of_getElem? (i := 595) (by decide +kernel)⟩
def lw_privs_1 : List (MethodName × Nat) := [(⟨"JudgesLedger", "refusalOfEvent", "()I"⟩, 13), (⟨"JudgesLedger", "appendEvent", "(II)V"⟩, 13), (⟨"JudgesLedger", "innermost", "()LJudgesLedger$Scoring;"⟩, 13), (⟨"JudgesLedger$Sheet", "markIndex", "(II)I"⟩, 10), (⟨"JudgesLedger", "outcomeOf", "(I)I"⟩, 13), (⟨"JudgesLedger", "fail", "(II)I"⟩, 13), (⟨"JudgesLedger", "letGuardCatch", "(I)Z"⟩, 13), (⟨"JudgesLedger", "suppressUnder", "(I)V"⟩, 13), (⟨"JudgesLedger", "dropInnermost", "()V"⟩, 13), (⟨"JudgesLedger$Scoring", "removeSavepoint", "(I)V"⟩, 9), (⟨"JudgesLedger", "savepointNamed", "(I)I"⟩, 13), (⟨"JudgesLedger", "finishAct", "(I)I"⟩, 13), (⟨"JudgesLedger", "keepForUndo", "(IIZ)V"⟩, 13), (⟨"JudgesLedger$Placing", "middle", "(II)I"⟩, 6), (⟨"JudgesLedger$Placing", "sortMarks", "(II)V"⟩, 6), (⟨"JudgesLedger$Placing", "rankClass", "(I)V"⟩, 6)]
theorem lw_r1 : ∀ q ∈ lw_privs_1, lw_okq q := List.forall_mem_cons.mpr ⟨lw_p0, List.forall_mem_cons.mpr ⟨lw_p1, List.forall_mem_cons.mpr ⟨lw_p2, List.forall_mem_cons.mpr ⟨lw_p3, List.forall_mem_cons.mpr ⟨lw_p4, List.forall_mem_cons.mpr ⟨lw_p5, List.forall_mem_cons.mpr ⟨lw_p6, List.forall_mem_cons.mpr ⟨lw_p7, List.forall_mem_cons.mpr ⟨lw_p8, List.forall_mem_cons.mpr ⟨lw_p9, List.forall_mem_cons.mpr ⟨lw_p10, List.forall_mem_cons.mpr ⟨lw_p11, List.forall_mem_cons.mpr ⟨lw_p12, List.forall_mem_cons.mpr ⟨lw_p13, List.forall_mem_cons.mpr ⟨lw_p14, List.forall_mem_cons.mpr ⟨lw_p15, fun _ h => absurd h List.not_mem_nil⟩⟩⟩⟩⟩⟩⟩⟩⟩⟩⟩⟩⟩⟩⟩⟩
theorem lw_p16 : lw_okq (⟨"JudgesLedger$Placing", "betterThan", "(I)I"⟩, 6) := ⟨⟨by decide +kernel, by decide +kernel⟩, List.mem_of_getElem? (i := 127) (by decide +kernel), List.mem_of_getElem? (i := 603) (by decide +kernel), List.mem_of_getElem? (i := 604) (by decide +kernel)⟩
theorem lw_p17 : lw_okq (⟨"JudgesLedger$Placing", "isBetter", "(II)Z"⟩, 6) := ⟨⟨by decide +kernel, by decide +kernel⟩, List.mem_of_getElem? (i := 127) (by decide +kernel), List.mem_of_getElem? (i := 607) (by decide +kernel), List.mem_of_getElem? (i := 608) (by decide +kernel)⟩
theorem lw_p18 : lw_okq (⟨"JudgesLedger$Placing", "sharers", "(I)I"⟩, 6) := ⟨⟨by decide +kernel, by decide +kernel⟩, List.mem_of_getElem? (i := 127) (by decide +kernel), List.mem_of_getElem? (i := 615) (by decide +kernel), List.mem_of_getElem? (i := 616) (by decide +kernel)⟩
theorem lw_p19 : lw_okq (⟨"JudgesLedger$Placing", "sharersAheadOf", "(II)I"⟩, 6) := ⟨⟨by decide +kernel, by decide +kernel⟩, List.mem_of_getElem? (i := 127) (by decide +kernel), List.mem_of_getElem? (i := 619) (by decide +kernel), List.mem_of_getElem? (i := 620) (by decide +kernel)⟩
theorem lw_p20 : lw_okq (⟨"JudgesLedger$Placing", "share", "(I)I"⟩, 6) := ⟨⟨by decide +kernel, by decide +kernel⟩, List.mem_of_getElem? (i := 127) (by decide +kernel), List.mem_of_getElem? (i := 627) (by decide +kernel), List.mem_of_getElem? (i := 628) (by decide +kernel)⟩
theorem lw_p21 : lw_okq (⟨"JudgesLedger$Placing", "prizesFrom", "(III)I"⟩, 6) := ⟨⟨by decide +kernel, by decide +kernel⟩, List.mem_of_getElem? (i := 127) (by decide +kernel), List.mem_of_getElem? (i := 631) (by decide +kernel), List.mem_of_getElem? (i := 632) (by decide +kernel)⟩
theorem lw_p22 : lw_okq (⟨"JudgesLedger$Placing", "position", "(I)I"⟩, 6) := ⟨⟨by decide +kernel, by decide +kernel⟩, List.mem_of_getElem? (i := 127) (by decide +kernel), List.mem_of_getElem? (i := 648) (by decide +kernel), List.mem_of_getElem? (i := 649) (by decide +kernel)⟩
theorem lw_p23 : lw_okq (⟨"JudgesLedger", "digestOfEntries", "(J)J"⟩, 13) := ⟨⟨by decide +kernel, by decide +kernel⟩, List.mem_of_getElem? (i := 13) (by decide +kernel), List.mem_of_getElem? (i := 703) (by decide +kernel), List.mem_of_getElem? (i := 704) (by decide +kernel)⟩
theorem lw_p24 : lw_okq (⟨"JudgesLedger", "digestOfEvents", "(J)J"⟩, 13) := ⟨⟨by decide +kernel, by decide +kernel⟩, List.mem_of_getElem? (i := 13) (by decide +kernel), List.mem_of_getElem? (i := 709) (by decide +kernel), List.mem_of_getElem? (i := 710) (by decide +kernel)⟩
theorem lw_p25 : lw_okq (⟨"JudgesLedgerModel", "isClass", "(I)Z"⟩, 48) := ⟨⟨by decide +kernel, by decide +kernel⟩, List.mem_of_getElem? (i := 713) (by decide +kernel), List.mem_of_getElem? (i := 875) (by decide +kernel), List.mem_of_getElem? (i := 876) (by decide +kernel)⟩
theorem lw_p26 : lw_okq (⟨"JudgesLedgerModel", "isJudge", "(I)Z"⟩, 48) := ⟨⟨by decide +kernel, by decide +kernel⟩, List.mem_of_getElem? (i := 713) (by decide +kernel), List.mem_of_getElem? (i := 900) (by decide +kernel), List.mem_of_getElem? (i := 901) (by decide +kernel)⟩
theorem lw_p27 : lw_okq (⟨"JudgesLedgerModel", "isEntry", "(I)Z"⟩, 48) := ⟨⟨by decide +kernel, by decide +kernel⟩, List.mem_of_getElem? (i := 713) (by decide +kernel), List.mem_of_getElem? (i := 904) (by decide +kernel), List.mem_of_getElem? (i := 905) (by decide +kernel)⟩
theorem lw_p28 : lw_okq (⟨"JudgesLedgerModel", "comes", "(II)V"⟩, 48) := ⟨⟨by decide +kernel, by decide +kernel⟩, List.mem_of_getElem? (i := 713) (by decide +kernel), List.mem_of_getElem? (i := 912) (by decide +kernel), List.mem_of_getElem? (i := 913) (by decide +kernel)⟩
theorem lw_p29 : lw_okq (⟨"JudgesLedgerModel", "counted", "(I)V"⟩, 48) := ⟨⟨by decide +kernel, by decide +kernel⟩, List.mem_of_getElem? (i := 713) (by decide +kernel), List.mem_of_getElem? (i := 916) (by decide +kernel), List.mem_of_getElem? (i := 917) (by decide +kernel)⟩
theorem lw_p30 : lw_okq (⟨"JudgesLedgerModel", "judged", "(I)I"⟩, 48) := ⟨⟨by decide +kernel, by decide +kernel⟩, List.mem_of_getElem? (i := 713) (by decide +kernel), List.mem_of_getElem? (i := 920) (by decide +kernel), List.mem_of_getElem? (i := 921) (by decide +kernel)⟩
theorem lw_p31 : lw_okq (⟨"JudgesLedgerModel", "holds", "(I)Z"⟩, 48) := ⟨⟨by decide +kernel, by decide +kernel⟩, List.mem_of_getElem? (i := 713) (by decide +kernel), List.mem_of_getElem? (i := 924) (by decide +kernel), List.mem_of_getElem? (i := 925) (by decide +kernel)⟩
def lw_privs_2 : List (MethodName × Nat) := [(⟨"JudgesLedger$Placing", "betterThan", "(I)I"⟩, 6), (⟨"JudgesLedger$Placing", "isBetter", "(II)Z"⟩, 6), (⟨"JudgesLedger$Placing", "sharers", "(I)I"⟩, 6), (⟨"JudgesLedger$Placing", "sharersAheadOf", "(II)I"⟩, 6), (⟨"JudgesLedger$Placing", "share", "(I)I"⟩, 6), (⟨"JudgesLedger$Placing", "prizesFrom", "(III)I"⟩, 6), (⟨"JudgesLedger$Placing", "position", "(I)I"⟩, 6), (⟨"JudgesLedger", "digestOfEntries", "(J)J"⟩, 13), (⟨"JudgesLedger", "digestOfEvents", "(J)J"⟩, 13), (⟨"JudgesLedgerModel", "isClass", "(I)Z"⟩, 48), (⟨"JudgesLedgerModel", "isJudge", "(I)Z"⟩, 48), (⟨"JudgesLedgerModel", "isEntry", "(I)Z"⟩, 48), (⟨"JudgesLedgerModel", "comes", "(II)V"⟩, 48), (⟨"JudgesLedgerModel", "counted", "(I)V"⟩, 48), (⟨"JudgesLedgerModel", "judged", "(I)I"⟩, 48), (⟨"JudgesLedgerModel", "holds", "(I)Z"⟩, 48)]
theorem lw_r2 : ∀ q ∈ lw_privs_2, lw_okq q := List.forall_mem_cons.mpr ⟨lw_p16, List.forall_mem_cons.mpr ⟨lw_p17, List.forall_mem_cons.mpr ⟨lw_p18, List.forall_mem_cons.mpr ⟨lw_p19, List.forall_mem_cons.mpr ⟨lw_p20, List.forall_mem_cons.mpr ⟨lw_p21, List.forall_mem_cons.mpr ⟨lw_p22, List.forall_mem_cons.mpr ⟨lw_p23, List.forall_mem_cons.mpr ⟨lw_p24, List.forall_mem_cons.mpr ⟨lw_p25, List.forall_mem_cons.mpr ⟨lw_p26, List.forall_mem_cons.mpr ⟨lw_p27, List.forall_mem_cons.mpr ⟨lw_p28, List.forall_mem_cons.mpr ⟨lw_p29, List.forall_mem_cons.mpr ⟨lw_p30, List.forall_mem_cons.mpr ⟨lw_p31, fun _ h => absurd h List.not_mem_nil⟩⟩⟩⟩⟩⟩⟩⟩⟩⟩⟩⟩⟩⟩⟩⟩
theorem lw_p32 : lw_okq (⟨"JudgesLedgerModel", "markOf", "(II)I"⟩, 48) := ⟨⟨by decide +kernel, by decide +kernel⟩, List.mem_of_getElem? (i := 713) (by decide +kernel), List.mem_of_getElem? (i := 928) (by decide +kernel), List.mem_of_getElem? (i := 929) (by decide +kernel)⟩
theorem lw_p33 : lw_okq (⟨"JudgesLedgerModel", "failed", "(II)I"⟩, 48) := ⟨⟨by decide +kernel, by decide +kernel⟩, List.mem_of_getElem? (i := 713) (by decide +kernel), List.mem_of_getElem? (i := 932) (by decide +kernel), List.mem_of_getElem? (i := 933) (by decide +kernel)⟩
theorem lw_p34 : lw_okq (⟨"JudgesLedgerModel", "note", "(IIII)I"⟩, 48) := ⟨⟨by decide +kernel, by decide +kernel⟩, List.mem_of_getElem? (i := 713) (by decide +kernel), List.mem_of_getElem? (i := 936) (by decide +kernel), List.mem_of_getElem? (i := 937) (by decide +kernel)⟩
theorem lw_p35 : lw_okq (⟨"JudgesLedgerModel", "placeOf", "(I)I"⟩, 48) := ⟨⟨by decide +kernel, by decide +kernel⟩, List.mem_of_getElem? (i := 713) (by decide +kernel), List.mem_of_getElem? (i := 946) (by decide +kernel), List.mem_of_getElem? (i := 947) (by decide +kernel)⟩
theorem lw_p36 : lw_okq (⟨"JudgesLedgerModel", "goBack", "(I)V"⟩, 48) := ⟨⟨by decide +kernel, by decide +kernel⟩, List.mem_of_getElem? (i := 713) (by decide +kernel), List.mem_of_getElem? (i := 950) (by decide +kernel), List.mem_of_getElem? (i := 951) (by decide +kernel)⟩
theorem lw_p37 : lw_okq (⟨"JudgesLedgerModel", "keep", "(I)V"⟩, 48) := ⟨⟨by decide +kernel, by decide +kernel⟩, List.mem_of_getElem? (i := 713) (by decide +kernel), List.mem_of_getElem? (i := 982) (by decide +kernel), List.mem_of_getElem? (i := 983) (by decide +kernel)⟩
theorem lw_p38 : lw_okq (⟨"JudgesLedgerModel", "total", "()V"⟩, 48) := ⟨⟨by decide +kernel, by decide +kernel⟩, List.mem_of_getElem? (i := 713) (by decide +kernel), List.mem_of_getElem? (i := 1002) (by decide +kernel), List.mem_of_getElem? (i := 1003) (by decide +kernel)⟩
theorem lw_p39 : lw_okq (⟨"JudgesLedgerModel", "totalOf", "(I)I"⟩, 48) := ⟨⟨by decide +kernel, by decide +kernel⟩, List.mem_of_getElem? (i := 713) (by decide +kernel), List.mem_of_getElem? (i := 1006) (by decide +kernel), List.mem_of_getElem? (i := 1007) (by decide +kernel)⟩
theorem lw_p40 : lw_okq (⟨"JudgesLedgerModel", "rankOf", "(I)I"⟩, 48) := ⟨⟨by decide +kernel, by decide +kernel⟩, List.mem_of_getElem? (i := 713) (by decide +kernel), List.mem_of_getElem? (i := 1013) (by decide +kernel), List.mem_of_getElem? (i := 1014) (by decide +kernel)⟩
theorem lw_p41 : lw_okq (⟨"JudgesLedgerModel", "isBetter", "(II)Z"⟩, 48) := ⟨⟨by decide +kernel, by decide +kernel⟩, List.mem_of_getElem? (i := 713) (by decide +kernel), List.mem_of_getElem? (i := 1017) (by decide +kernel), List.mem_of_getElem? (i := 1018) (by decide +kernel)⟩
theorem lw_p42 : lw_okq (⟨"JudgesLedgerModel", "above", "(I)I"⟩, 48) := ⟨⟨by decide +kernel, by decide +kernel⟩, List.mem_of_getElem? (i := 713) (by decide +kernel), List.mem_of_getElem? (i := 1021) (by decide +kernel), List.mem_of_getElem? (i := 1022) (by decide +kernel)⟩
theorem lw_p43 : lw_okq (⟨"JudgesLedgerModel", "alike", "(I)I"⟩, 48) := ⟨⟨by decide +kernel, by decide +kernel⟩, List.mem_of_getElem? (i := 713) (by decide +kernel), List.mem_of_getElem? (i := 1025) (by decide +kernel), List.mem_of_getElem? (i := 1026) (by decide +kernel)⟩
theorem lw_p44 : lw_okq (⟨"JudgesLedgerModel", "prizeOf", "(I)I"⟩, 48) := ⟨⟨by decide +kernel, by decide +kernel⟩, List.mem_of_getElem? (i := 713) (by decide +kernel), List.mem_of_getElem? (i := 1029) (by decide +kernel), List.mem_of_getElem? (i := 1030) (by decide +kernel)⟩
def lw_privs_3 : List (MethodName × Nat) := [(⟨"JudgesLedgerModel", "markOf", "(II)I"⟩, 48), (⟨"JudgesLedgerModel", "failed", "(II)I"⟩, 48), (⟨"JudgesLedgerModel", "note", "(IIII)I"⟩, 48), (⟨"JudgesLedgerModel", "placeOf", "(I)I"⟩, 48), (⟨"JudgesLedgerModel", "goBack", "(I)V"⟩, 48), (⟨"JudgesLedgerModel", "keep", "(I)V"⟩, 48), (⟨"JudgesLedgerModel", "total", "()V"⟩, 48), (⟨"JudgesLedgerModel", "totalOf", "(I)I"⟩, 48), (⟨"JudgesLedgerModel", "rankOf", "(I)I"⟩, 48), (⟨"JudgesLedgerModel", "isBetter", "(II)Z"⟩, 48), (⟨"JudgesLedgerModel", "above", "(I)I"⟩, 48), (⟨"JudgesLedgerModel", "alike", "(I)I"⟩, 48), (⟨"JudgesLedgerModel", "prizeOf", "(I)I"⟩, 48)]
theorem lw_r3 : ∀ q ∈ lw_privs_3, lw_okq q := List.forall_mem_cons.mpr ⟨lw_p32, List.forall_mem_cons.mpr ⟨lw_p33, List.forall_mem_cons.mpr ⟨lw_p34, List.forall_mem_cons.mpr ⟨lw_p35, List.forall_mem_cons.mpr ⟨lw_p36, List.forall_mem_cons.mpr ⟨lw_p37, List.forall_mem_cons.mpr ⟨lw_p38, List.forall_mem_cons.mpr ⟨lw_p39, List.forall_mem_cons.mpr ⟨lw_p40, List.forall_mem_cons.mpr ⟨lw_p41, List.forall_mem_cons.mpr ⟨lw_p42, List.forall_mem_cons.mpr ⟨lw_p43, List.forall_mem_cons.mpr ⟨lw_p44, fun _ h => absurd h List.not_mem_nil⟩⟩⟩⟩⟩⟩⟩⟩⟩⟩⟩⟩⟩
def lw_privs : List (MethodName × Nat) := lw_privs_1 ++ (lw_privs_2 ++ (lw_privs_3))
def lw_tbl : List Cond := k2_sels lw_privs ++ tables_1
theorem lw_privs_ok : ∀ q ∈ lw_privs, lw_okq q := by
  show ∀ q ∈ lw_privs_1 ++ (lw_privs_2 ++ (lw_privs_3)), lw_okq q
  exact List.forall_mem_append.mpr ⟨lw_r1, List.forall_mem_append.mpr ⟨lw_r2, lw_r3⟩⟩
end
section
def RX0 : String := "JudgesLedger$FailureBook"
def TX0 : u_T := fun k => match k with
  | 0 => ("JudgesLedger$FailureBook", "cells", "[I", true)
  | _ => ("JudgesLedger$FailureBook", "ever", "I", false)
def tyX0 : Nat → FieldType := fun k => match k with
  | 0 => .array .int
  | _ => .int
theorem nmX0 : ∀ a, a < 2 → ∀ b, b < 2 → a ≠ b → (TX0 a).2.1 ≠ (TX0 b).2.1 := by decide +kernel
theorem tyX0_ok : ∀ k, k < 2 → parseFieldDescriptor (TX0 k).2.2.1 = some (tyX0 k) := by decide +kernel
abbrev cX0_init : ByteArray := prog_2_method_1_code
def yX0_init : MethodName := ⟨RX0, "<init>", "()V"⟩
abbrev cX0_isNoted : ByteArray := prog_2_method_2_code
def yX0_isNoted : MethodName := ⟨RX0, "isNoted", "(I)Z"⟩
abbrev cX0_add : ByteArray := prog_2_method_3_code
def yX0_add : MethodName := ⟨RX0, "add", "(IIIIII)I"⟩
def RX1 : String := "JudgesLedger$Gallery"
def TX1 : u_T := fun k => match k with
  | 0 => ("JudgesLedger$Gallery", "throwsAt", "[I", true)
  | 1 => ("JudgesLedger$Gallery", "timesTold", "[I", true)
  | 2 => ("JudgesLedger$Gallery", "size", "I", false)
  | _ => ("JudgesLedger$Gallery", "tellings", "I", false)
def tyX1 : Nat → FieldType := fun k => match k with
  | 0 => .array .int
  | 1 => .array .int
  | 2 => .int
  | _ => .int
theorem nmX1 : ∀ a, a < 4 → ∀ b, b < 4 → a ≠ b → (TX1 a).2.1 ≠ (TX1 b).2.1 := by decide +kernel
theorem tyX1_ok : ∀ k, k < 4 → parseFieldDescriptor (TX1 k).2.2.1 = some (tyX1 k) := by decide +kernel
abbrev cX1_init : ByteArray := prog_3_method_1_code
def yX1_init : MethodName := ⟨RX1, "<init>", "()V"⟩
abbrev cX1_add : ByteArray := prog_3_method_2_code
def yX1_add : MethodName := ⟨RX1, "add", "(I)I"⟩
abbrev cX1_tell : ByteArray := prog_3_method_3_code
def yX1_tell : MethodName := ⟨RX1, "tell", "(I)Z"⟩
def RX2 : String := "JudgesLedger$Placing"
def TX2 : u_T := fun k => match k with
  | 0 => ("JudgesLedger$Placing", "show", "LJudgesLedger$Show;", true)
  | 1 => ("JudgesLedger$Placing", "sheet", "LJudgesLedger$Sheet;", true)
  | 2 => ("JudgesLedger$Placing", "total", "[I", true)
  | 3 => ("JudgesLedger$Placing", "aboveZero", "[I", true)
  | 4 => ("JudgesLedger$Placing", "rank", "[I", true)
  | _ => ("JudgesLedger$Placing", "sorted", "[I", true)
def tyX2 : Nat → FieldType := fun k => match k with
  | 0 => .object "JudgesLedger$Show"
  | 1 => .object "JudgesLedger$Sheet"
  | 2 => .array .int
  | 3 => .array .int
  | 4 => .array .int
  | _ => .array .int
theorem nmX2 : ∀ a, a < 6 → ∀ b, b < 6 → a ≠ b → (TX2 a).2.1 ≠ (TX2 b).2.1 := by decide +kernel
theorem tyX2_ok : ∀ k, k < 6 → parseFieldDescriptor (TX2 k).2.2.1 = some (tyX2 k) := by decide +kernel
abbrev cX2_init : ByteArray := prog_4_method_1_code
def yX2_init : MethodName := ⟨RX2, "<init>", "(LJudgesLedger$Show;LJudgesLedger$Sheet;)V"⟩
abbrev cX2_totalOf : ByteArray := prog_4_method_2_code
def yX2_totalOf : MethodName := ⟨RX2, "totalOf", "(I)I"⟩
abbrev cX2_middle : ByteArray := prog_4_method_3_code
def yX2_middle : MethodName := ⟨RX2, "middle", "(II)I"⟩
abbrev cX2_sortMarks : ByteArray := prog_4_method_4_code
def yX2_sortMarks : MethodName := ⟨RX2, "sortMarks", "(II)V"⟩
abbrev cX2_nearest : ByteArray := prog_4_method_5_code
def yX2_nearest : MethodName := ⟨RX2, "nearest", "(II)I"⟩
abbrev cX2_rankOf : ByteArray := prog_4_method_6_code
def yX2_rankOf : MethodName := ⟨RX2, "rankOf", "(I)I"⟩
abbrev cX2_sharersOf : ByteArray := prog_4_method_7_code
def yX2_sharersOf : MethodName := ⟨RX2, "sharersOf", "(I)I"⟩
abbrev cX2_prizeOf : ByteArray := prog_4_method_8_code
def yX2_prizeOf : MethodName := ⟨RX2, "prizeOf", "(I)I"⟩
abbrev cX2_prizesLeft : ByteArray := prog_4_method_9_code
def yX2_prizesLeft : MethodName := ⟨RX2, "prizesLeft", "(I)I"⟩
abbrev cX2_entryAt : ByteArray := prog_4_method_10_code
def yX2_entryAt : MethodName := ⟨RX2, "entryAt", "(II)I"⟩
abbrev cX2_rankClass : ByteArray := prog_4_method_11_code
def yX2_rankClass : MethodName := ⟨RX2, "rankClass", "(I)V"⟩
abbrev cX2_betterThan : ByteArray := prog_4_method_12_code
def yX2_betterThan : MethodName := ⟨RX2, "betterThan", "(I)I"⟩
abbrev cX2_isBetter : ByteArray := prog_4_method_13_code
def yX2_isBetter : MethodName := ⟨RX2, "isBetter", "(II)Z"⟩
abbrev cX2_sharers : ByteArray := prog_4_method_14_code
def yX2_sharers : MethodName := ⟨RX2, "sharers", "(I)I"⟩
abbrev cX2_sharersAheadOf : ByteArray := prog_4_method_15_code
def yX2_sharersAheadOf : MethodName := ⟨RX2, "sharersAheadOf", "(II)I"⟩
abbrev cX2_position : ByteArray := prog_4_method_16_code
def yX2_position : MethodName := ⟨RX2, "position", "(I)I"⟩
abbrev cX2_share : ByteArray := prog_4_method_17_code
def yX2_share : MethodName := ⟨RX2, "share", "(I)I"⟩
abbrev cX2_prizesFrom : ByteArray := prog_4_method_18_code
def yX2_prizesFrom : MethodName := ⟨RX2, "prizesFrom", "(III)I"⟩
def RX3 : String := "JudgesLedger$RuleBook"
def TX3 : u_T := fun k => match k with
  | 0 => ("JudgesLedger$RuleBook", "moment", "[I", true)
  | 1 => ("JudgesLedger$RuleBook", "kind", "[I", true)
  | 2 => ("JudgesLedger$RuleBook", "limit", "[I", true)
  | _ => ("JudgesLedger$RuleBook", "size", "I", false)
def tyX3 : Nat → FieldType := fun k => match k with
  | 0 => .array .int
  | 1 => .array .int
  | 2 => .array .int
  | _ => .int
theorem nmX3 : ∀ a, a < 4 → ∀ b, b < 4 → a ≠ b → (TX3 a).2.1 ≠ (TX3 b).2.1 := by decide +kernel
theorem tyX3_ok : ∀ k, k < 4 → parseFieldDescriptor (TX3 k).2.2.1 = some (tyX3 k) := by decide +kernel
abbrev cX3_init : ByteArray := prog_5_method_1_code
def yX3_init : MethodName := ⟨RX3, "<init>", "()V"⟩
abbrev cX3_add : ByteArray := prog_5_method_2_code
def yX3_add : MethodName := ⟨RX3, "add", "(III)I"⟩
abbrev cX3_holds : ByteArray := prog_5_method_3_code
def yX3_holds : MethodName := ⟨RX3, "holds", "(ILJudgesLedger$Scoring;LJudgesLedger$Sheet;)Z"⟩
abbrev cX3_latestIsOutOfRange : ByteArray := prog_5_method_4_code
def yX3_latestIsOutOfRange : MethodName := ⟨RX3, "latestIsOutOfRange", "(ILJudgesLedger$Sheet;)Z"⟩
def RX4 : String := "JudgesLedger$Scoring"
def TX4 : u_T := fun k => match k with
  | 0 => ("JudgesLedger$Scoring", "judge", "I", false)
  | 1 => ("JudgesLedger$Scoring", "entry", "I", false)
  | 2 => ("JudgesLedger$Scoring", "begunAt", "I", false)
  | 3 => ("JudgesLedger$Scoring", "savepointName", "[I", true)
  | 4 => ("JudgesLedger$Scoring", "savepointAt", "[I", true)
  | 5 => ("JudgesLedger$Scoring", "savepoints", "I", false)
  | 6 => ("JudgesLedger$Scoring", "guardKind", "[I", true)
  | 7 => ("JudgesLedger$Scoring", "guardName", "[I", true)
  | _ => ("JudgesLedger$Scoring", "guards", "I", false)
def tyX4 : Nat → FieldType := fun k => match k with
  | 0 => .int
  | 1 => .int
  | 2 => .int
  | 3 => .array .int
  | 4 => .array .int
  | 5 => .int
  | 6 => .array .int
  | 7 => .array .int
  | _ => .int
theorem nmX4 : ∀ a, a < 9 → ∀ b, b < 9 → a ≠ b → (TX4 a).2.1 ≠ (TX4 b).2.1 := by decide +kernel
theorem tyX4_ok : ∀ k, k < 9 → parseFieldDescriptor (TX4 k).2.2.1 = some (tyX4 k) := by decide +kernel
abbrev cX4_init : ByteArray := prog_6_method_1_code
def yX4_init : MethodName := ⟨RX4, "<init>", "()V"⟩
abbrev cX4_start : ByteArray := prog_6_method_2_code
def yX4_start : MethodName := ⟨RX4, "start", "(III)V"⟩
abbrev cX4_indexOfSavepoint : ByteArray := prog_6_method_3_code
def yX4_indexOfSavepoint : MethodName := ⟨RX4, "indexOfSavepoint", "(I)I"⟩
abbrev cX4_addSavepoint : ByteArray := prog_6_method_4_code
def yX4_addSavepoint : MethodName := ⟨RX4, "addSavepoint", "(II)V"⟩
abbrev cX4_removeSavepoint : ByteArray := prog_6_method_5_code
def yX4_removeSavepoint : MethodName := ⟨RX4, "removeSavepoint", "(I)V"⟩
abbrev cX4_addGuard : ByteArray := prog_6_method_6_code
def yX4_addGuard : MethodName := ⟨RX4, "addGuard", "(II)V"⟩
def RX5 : String := "JudgesLedger$Sheet"
def TX5 : u_T := fun k => match k with
  | 0 => ("JudgesLedger$Sheet", "show", "LJudgesLedger$Show;", true)
  | 1 => ("JudgesLedger$Sheet", "sort", "[I", true)
  | 2 => ("JudgesLedger$Sheet", "judge", "[I", true)
  | 3 => ("JudgesLedger$Sheet", "entry", "[I", true)
  | 4 => ("JudgesLedger$Sheet", "number", "[I", true)
  | 5 => ("JudgesLedger$Sheet", "counting", "[Z", true)
  | 6 => ("JudgesLedger$Sheet", "events", "I", false)
  | 7 => ("JudgesLedger$Sheet", "offs", "[I", true)
  | 8 => ("JudgesLedger$Sheet", "marks", "[I", true)
  | _ => ("JudgesLedger$Sheet", "timesGiven", "[I", true)
def tyX5 : Nat → FieldType := fun k => match k with
  | 0 => .object "JudgesLedger$Show"
  | 1 => .array .int
  | 2 => .array .int
  | 3 => .array .int
  | 4 => .array .int
  | 5 => .array .boolean
  | 6 => .int
  | 7 => .array .int
  | 8 => .array .int
  | _ => .array .int
theorem nmX5 : ∀ a, a < 10 → ∀ b, b < 10 → a ≠ b → (TX5 a).2.1 ≠ (TX5 b).2.1 := by decide +kernel
theorem tyX5_ok : ∀ k, k < 10 → parseFieldDescriptor (TX5 k).2.2.1 = some (tyX5 k) := by decide +kernel
abbrev cX5_init : ByteArray := prog_7_method_1_code
def yX5_init : MethodName := ⟨RX5, "<init>", "(LJudgesLedger$Show;)V"⟩
abbrev cX5_hasEvent : ByteArray := prog_7_method_2_code
def yX5_hasEvent : MethodName := ⟨RX5, "hasEvent", "(I)Z"⟩
abbrev cX5_append : ByteArray := prog_7_method_3_code
def yX5_append : MethodName := ⟨RX5, "append", "(IIII)V"⟩
abbrev cX5_cutTo : ByteArray := prog_7_method_4_code
def yX5_cutTo : MethodName := ⟨RX5, "cutTo", "(I)V"⟩
abbrev cX5_setCounting : ByteArray := prog_7_method_5_code
def yX5_setCounting : MethodName := ⟨RX5, "setCounting", "(IZ)V"⟩
abbrev cX5_markIndex : ByteArray := prog_7_method_6_code
def yX5_markIndex : MethodName := ⟨RX5, "markIndex", "(II)I"⟩
abbrev cX5_markBy : ByteArray := prog_7_method_7_code
def yX5_markBy : MethodName := ⟨RX5, "markBy", "(II)I"⟩
abbrev cX5_markAt : ByteArray := prog_7_method_8_code
def yX5_markAt : MethodName := ⟨RX5, "markAt", "(II)I"⟩
abbrev cX5_remarkBits : ByteArray := prog_7_method_9_code
def yX5_remarkBits : MethodName := ⟨RX5, "remarkBits", "(I)I"⟩
abbrev cX5_greatestMark : ByteArray := prog_7_method_10_code
def yX5_greatestMark : MethodName := ⟨RX5, "greatestMark", "(I)I"⟩
abbrev cX5_leastMark : ByteArray := prog_7_method_11_code
def yX5_leastMark : MethodName := ⟨RX5, "leastMark", "(I)I"⟩
abbrev cX5_sumOfMarks : ByteArray := prog_7_method_12_code
def yX5_sumOfMarks : MethodName := ⟨RX5, "sumOfMarks", "(I)I"⟩
abbrev cX5_marksAboveZero : ByteArray := prog_7_method_13_code
def yX5_marksAboveZero : MethodName := ⟨RX5, "marksAboveZero", "(I)I"⟩
abbrev cX5_timesPointed : ByteArray := prog_7_method_14_code
def yX5_timesPointed : MethodName := ⟨RX5, "timesPointed", "(II)I"⟩
def RX6 : String := "JudgesLedger$Show"
def TX6 : u_T := fun k => match k with
  | 0 => ("JudgesLedger$Show", "schedule", "[I", true)
  | 1 => ("JudgesLedger$Show", "firstJudge", "[I", true)
  | 2 => ("JudgesLedger$Show", "seats", "[I", true)
  | 3 => ("JudgesLedger$Show", "closed", "[Z", true)
  | 4 => ("JudgesLedger$Show", "prize", "[I", true)
  | 5 => ("JudgesLedger$Show", "judgeClass", "[I", true)
  | 6 => ("JudgesLedger$Show", "entryClass", "[I", true)
  | 7 => ("JudgesLedger$Show", "classes", "I", false)
  | 8 => ("JudgesLedger$Show", "judges", "I", false)
  | _ => ("JudgesLedger$Show", "entries", "I", false)
def tyX6 : Nat → FieldType := fun k => match k with
  | 0 => .array .int
  | 1 => .array .int
  | 2 => .array .int
  | 3 => .array .boolean
  | 4 => .array .int
  | 5 => .array .int
  | 6 => .array .int
  | 7 => .int
  | 8 => .int
  | _ => .int
theorem nmX6 : ∀ a, a < 10 → ∀ b, b < 10 → a ≠ b → (TX6 a).2.1 ≠ (TX6 b).2.1 := by decide +kernel
theorem tyX6_ok : ∀ k, k < 10 → parseFieldDescriptor (TX6 k).2.2.1 = some (tyX6 k) := by decide +kernel
abbrev cX6_init : ByteArray := prog_8_method_1_code
def yX6_init : MethodName := ⟨RX6, "<init>", "()V"⟩
abbrev cX6_hasClass : ByteArray := prog_8_method_2_code
def yX6_hasClass : MethodName := ⟨RX6, "hasClass", "(I)Z"⟩
abbrev cX6_hasJudge : ByteArray := prog_8_method_3_code
def yX6_hasJudge : MethodName := ⟨RX6, "hasJudge", "(I)Z"⟩
abbrev cX6_hasEntry : ByteArray := prog_8_method_4_code
def yX6_hasEntry : MethodName := ⟨RX6, "hasEntry", "(I)Z"⟩
abbrev cX6_addClass : ByteArray := prog_8_method_5_code
def yX6_addClass : MethodName := ⟨RX6, "addClass", "(II)I"⟩
abbrev cX6_addEntry : ByteArray := prog_8_method_6_code
def yX6_addEntry : MethodName := ⟨RX6, "addEntry", "(I)I"⟩
abbrev cX6_setPrizes : ByteArray := prog_8_method_7_code
def yX6_setPrizes : MethodName := ⟨RX6, "setPrizes", "(IIII)V"⟩
abbrev cX6_entriesOf : ByteArray := prog_8_method_8_code
def yX6_entriesOf : MethodName := ⟨RX6, "entriesOf", "(I)I"⟩
def RX7 : String := "JudgesLedger"
def TX7 : u_T := fun k => match k with
  | 0 => ("JudgesLedger", "show", "LJudgesLedger$Show;", true)
  | 1 => ("JudgesLedger", "sheet", "LJudgesLedger$Sheet;", true)
  | 2 => ("JudgesLedger", "placing", "LJudgesLedger$Placing;", true)
  | 3 => ("JudgesLedger", "rules", "LJudgesLedger$RuleBook;", true)
  | 4 => ("JudgesLedger", "failures", "LJudgesLedger$FailureBook;", true)
  | 5 => ("JudgesLedger", "gallery", "LJudgesLedger$Gallery;", true)
  | 6 => ("JudgesLedger", "scorings", "[LJudgesLedger$Scoring;", true)
  | 7 => ("JudgesLedger", "standing", "I", false)
  | 8 => ("JudgesLedger", "acts", "I", false)
  | 9 => ("JudgesLedger", "caught", "I", false)
  | 10 => ("JudgesLedger", "undoSort", "I", false)
  | 11 => ("JudgesLedger", "undoNumber", "I", false)
  | _ => ("JudgesLedger", "undoClosed", "Z", false)
def tyX7 : Nat → FieldType := fun k => match k with
  | 0 => .object "JudgesLedger$Show"
  | 1 => .object "JudgesLedger$Sheet"
  | 2 => .object "JudgesLedger$Placing"
  | 3 => .object "JudgesLedger$RuleBook"
  | 4 => .object "JudgesLedger$FailureBook"
  | 5 => .object "JudgesLedger$Gallery"
  | 6 => .array (.object "JudgesLedger$Scoring")
  | 7 => .int
  | 8 => .int
  | 9 => .int
  | 10 => .int
  | 11 => .int
  | _ => .boolean
theorem nmX7 : ∀ a, a < 13 → ∀ b, b < 13 → a ≠ b → (TX7 a).2.1 ≠ (TX7 b).2.1 := by decide +kernel
theorem tyX7_ok : ∀ k, k < 13 → parseFieldDescriptor (TX7 k).2.2.1 = some (tyX7 k) := by decide +kernel
abbrev cX7_init : ByteArray := prog_1_method_1_code
def yX7_init : MethodName := ⟨RX7, "<init>", "()V"⟩
abbrev cX7_show : ByteArray := prog_1_method_2_code
def yX7_show : MethodName := ⟨RX7, "show", "(II)I"⟩
abbrev cX7_entry : ByteArray := prog_1_method_3_code
def yX7_entry : MethodName := ⟨RX7, "entry", "(I)I"⟩
abbrev cX7_prizes : ByteArray := prog_1_method_4_code
def yX7_prizes : MethodName := ⟨RX7, "prizes", "(IIII)I"⟩
abbrev cX7_rule : ByteArray := prog_1_method_5_code
def yX7_rule : MethodName := ⟨RX7, "rule", "(III)I"⟩
abbrev cX7_clearRules : ByteArray := prog_1_method_6_code
def yX7_clearRules : MethodName := ⟨RX7, "clearRules", "()I"⟩
abbrev cX7_observe : ByteArray := prog_1_method_7_code
def yX7_observe : MethodName := ⟨RX7, "observe", "(I)I"⟩
abbrev cX7_begin : ByteArray := prog_1_method_8_code
def yX7_begin : MethodName := ⟨RX7, "begin", "(II)I"⟩
abbrev cX7_points : ByteArray := prog_1_method_9_code
def yX7_points : MethodName := ⟨RX7, "points", "(I)I"⟩
abbrev cX7_deduct : ByteArray := prog_1_method_10_code
def yX7_deduct : MethodName := ⟨RX7, "deduct", "(I)I"⟩
abbrev cX7_remark : ByteArray := prog_1_method_11_code
def yX7_remark : MethodName := ⟨RX7, "remark", "(I)I"⟩
abbrev cX7_save : ByteArray := prog_1_method_12_code
def yX7_save : MethodName := ⟨RX7, "save", "(I)I"⟩
abbrev cX7_back : ByteArray := prog_1_method_13_code
def yX7_back : MethodName := ⟨RX7, "back", "(I)I"⟩
abbrev cX7_release : ByteArray := prog_1_method_14_code
def yX7_release : MethodName := ⟨RX7, "release", "(I)I"⟩
abbrev cX7_guard : ByteArray := prog_1_method_15_code
def yX7_guard : MethodName := ⟨RX7, "guard", "(II)I"⟩
abbrev cX7_end : ByteArray := prog_1_method_16_code
def yX7_end : MethodName := ⟨RX7, "end", "()I"⟩
abbrev cX7_drop : ByteArray := prog_1_method_17_code
def yX7_drop : MethodName := ⟨RX7, "drop", "()I"⟩
abbrev cX7_depth : ByteArray := prog_1_method_18_code
def yX7_depth : MethodName := ⟨RX7, "depth", "()I"⟩
abbrev cX7_scoring : ByteArray := prog_1_method_19_code
def yX7_scoring : MethodName := ⟨RX7, "scoring", "(II)I"⟩
abbrev cX7_told : ByteArray := prog_1_method_20_code
def yX7_told : MethodName := ⟨RX7, "told", "(II)I"⟩
abbrev cX7_mark : ByteArray := prog_1_method_21_code
def yX7_mark : MethodName := ⟨RX7, "mark", "(II)I"⟩
abbrev cX7_place : ByteArray := prog_1_method_22_code
def yX7_place : MethodName := ⟨RX7, "place", "(II)I"⟩
abbrev cX7_close : ByteArray := prog_1_method_23_code
def yX7_close : MethodName := ⟨RX7, "close", "(I)I"⟩
abbrev cX7_about : ByteArray := prog_1_method_24_code
def yX7_about : MethodName := ⟨RX7, "about", "(II)I"⟩
abbrev cX7_uphold : ByteArray := prog_1_method_25_code
def yX7_uphold : MethodName := ⟨RX7, "uphold", "(I)I"⟩
abbrev cX7_event : ByteArray := prog_1_method_26_code
def yX7_event : MethodName := ⟨RX7, "event", "(II)I"⟩
abbrev cX7_failure : ByteArray := prog_1_method_27_code
def yX7_failure : MethodName := ⟨RX7, "failure", "(II)I"⟩
abbrev cX7_is : ByteArray := prog_1_method_28_code
def yX7_is : MethodName := ⟨RX7, "is", "(II)I"⟩
abbrev cX7_undo : ByteArray := prog_1_method_29_code
def yX7_undo : MethodName := ⟨RX7, "undo", "()I"⟩
abbrev cX7_count : ByteArray := prog_1_method_30_code
def yX7_count : MethodName := ⟨RX7, "count", "(I)I"⟩
abbrev cX7_digest : ByteArray := prog_1_method_31_code
def yX7_digest : MethodName := ⟨RX7, "digest", "()J"⟩
abbrev cX7_digestOfEntries : ByteArray := prog_1_method_32_code
def yX7_digestOfEntries : MethodName := ⟨RX7, "digestOfEntries", "(J)J"⟩
abbrev cX7_digestOfEvents : ByteArray := prog_1_method_33_code
def yX7_digestOfEvents : MethodName := ⟨RX7, "digestOfEvents", "(J)J"⟩
abbrev cX7_isPrize : ByteArray := prog_1_method_34_code
def yX7_isPrize : MethodName := ⟨RX7, "isPrize", "(I)Z"⟩
abbrev cX7_isName : ByteArray := prog_1_method_35_code
def yX7_isName : MethodName := ⟨RX7, "isName", "(I)Z"⟩
abbrev cX7_isKind : ByteArray := prog_1_method_36_code
def yX7_isKind : MethodName := ⟨RX7, "isKind", "(I)Z"⟩
abbrev cX7_isRuleKind : ByteArray := prog_1_method_37_code
def yX7_isRuleKind : MethodName := ⟨RX7, "isRuleKind", "(I)Z"⟩
abbrev cX7_isOfKind : ByteArray := prog_1_method_38_code
def yX7_isOfKind : MethodName := ⟨RX7, "isOfKind", "(II)Z"⟩
abbrev cX7_innermost : ByteArray := prog_1_method_39_code
def yX7_innermost : MethodName := ⟨RX7, "innermost", "()LJudgesLedger$Scoring;"⟩
abbrev cX7_savepointNamed : ByteArray := prog_1_method_40_code
def yX7_savepointNamed : MethodName := ⟨RX7, "savepointNamed", "(I)I"⟩
abbrev cX7_refusalOfEvent : ByteArray := prog_1_method_41_code
def yX7_refusalOfEvent : MethodName := ⟨RX7, "refusalOfEvent", "()I"⟩
abbrev cX7_appendEvent : ByteArray := prog_1_method_42_code
def yX7_appendEvent : MethodName := ⟨RX7, "appendEvent", "(II)V"⟩
abbrev cX7_dropInnermost : ByteArray := prog_1_method_43_code
def yX7_dropInnermost : MethodName := ⟨RX7, "dropInnermost", "()V"⟩
abbrev cX7_outcomeOf : ByteArray := prog_1_method_44_code
def yX7_outcomeOf : MethodName := ⟨RX7, "outcomeOf", "(I)I"⟩
abbrev cX7_fail : ByteArray := prog_1_method_45_code
def yX7_fail : MethodName := ⟨RX7, "fail", "(II)I"⟩
abbrev cX7_letGuardCatch : ByteArray := prog_1_method_46_code
def yX7_letGuardCatch : MethodName := ⟨RX7, "letGuardCatch", "(I)Z"⟩
abbrev cX7_suppressUnder : ByteArray := prog_1_method_47_code
def yX7_suppressUnder : MethodName := ⟨RX7, "suppressUnder", "(I)V"⟩
abbrev cX7_kindFurtherOut : ByteArray := prog_1_method_48_code
def yX7_kindFurtherOut : MethodName := ⟨RX7, "kindFurtherOut", "(I)I"⟩
abbrev cX7_finishAct : ByteArray := prog_1_method_49_code
def yX7_finishAct : MethodName := ⟨RX7, "finishAct", "(I)I"⟩
abbrev cX7_keepForUndo : ByteArray := prog_1_method_50_code
def yX7_keepForUndo : MethodName := ⟨RX7, "keepForUndo", "(IIZ)V"⟩
def RX8 : String := "JudgesLedgerModel"
def TX8 : u_T := fun k => match k with
  | 0 => ("JudgesLedgerModel", "classes", "I", false)
  | 1 => ("JudgesLedgerModel", "schedule", "[I", true)
  | 2 => ("JudgesLedgerModel", "firstJudge", "[I", true)
  | 3 => ("JudgesLedgerModel", "judgesOf", "[I", true)
  | 4 => ("JudgesLedgerModel", "entriesOf", "[I", true)
  | 5 => ("JudgesLedgerModel", "isClosed", "[Z", true)
  | 6 => ("JudgesLedgerModel", "prize", "[I", true)
  | 7 => ("JudgesLedgerModel", "judges", "I", false)
  | 8 => ("JudgesLedgerModel", "classOfJudge", "[I", true)
  | 9 => ("JudgesLedgerModel", "entries", "I", false)
  | 10 => ("JudgesLedgerModel", "classOf", "[I", true)
  | 11 => ("JudgesLedgerModel", "rules", "I", false)
  | 12 => ("JudgesLedgerModel", "moment", "[I", true)
  | 13 => ("JudgesLedgerModel", "kindOf", "[I", true)
  | 14 => ("JudgesLedgerModel", "bound", "[I", true)
  | 15 => ("JudgesLedgerModel", "observers", "I", false)
  | 16 => ("JudgesLedgerModel", "throwsAt", "[I", true)
  | 17 => ("JudgesLedgerModel", "tellings", "[I", true)
  | 18 => ("JudgesLedgerModel", "allTellings", "I", false)
  | 19 => ("JudgesLedgerModel", "events", "I", false)
  | 20 => ("JudgesLedgerModel", "eSort", "[I", true)
  | 21 => ("JudgesLedgerModel", "eJudge", "[I", true)
  | 22 => ("JudgesLedgerModel", "eEntry", "[I", true)
  | 23 => ("JudgesLedgerModel", "eNumber", "[I", true)
  | 24 => ("JudgesLedgerModel", "counts", "[Z", true)
  | 25 => ("JudgesLedgerModel", "marks", "[I", true)
  | 26 => ("JudgesLedgerModel", "off", "[I", true)
  | 27 => ("JudgesLedgerModel", "remarks", "[I", true)
  | 28 => ("JudgesLedgerModel", "stand", "I", false)
  | 29 => ("JudgesLedgerModel", "sJudge", "[I", true)
  | 30 => ("JudgesLedgerModel", "sEntry", "[I", true)
  | 31 => ("JudgesLedgerModel", "sBegin", "[I", true)
  | 32 => ("JudgesLedgerModel", "saves", "[I", true)
  | 33 => ("JudgesLedgerModel", "saveName", "[I", true)
  | 34 => ("JudgesLedgerModel", "saveEvents", "[I", true)
  | 35 => ("JudgesLedgerModel", "guards", "[I", true)
  | 36 => ("JudgesLedgerModel", "guardKind", "[I", true)
  | 37 => ("JudgesLedgerModel", "guardName", "[I", true)
  | 38 => ("JudgesLedgerModel", "noted", "I", false)
  | 39 => ("JudgesLedgerModel", "caughtMany", "I", false)
  | 40 => ("JudgesLedgerModel", "failures", "[I", true)
  | 41 => ("JudgesLedgerModel", "canUndo", "Z", false)
  | 42 => ("JudgesLedgerModel", "acts", "I", false)
  | 43 => ("JudgesLedgerModel", "wereEvents", "I", false)
  | 44 => ("JudgesLedgerModel", "didCount", "[Z", true)
  | 45 => ("JudgesLedgerModel", "wereClosed", "[Z", true)
  | 46 => ("JudgesLedgerModel", "sorted", "[I", true)
  | _ => ("JudgesLedgerModel", "totals", "[I", true)
def tyX8 : Nat → FieldType := fun k => match k with
  | 0 => .int
  | 1 => .array .int
  | 2 => .array .int
  | 3 => .array .int
  | 4 => .array .int
  | 5 => .array .boolean
  | 6 => .array .int
  | 7 => .int
  | 8 => .array .int
  | 9 => .int
  | 10 => .array .int
  | 11 => .int
  | 12 => .array .int
  | 13 => .array .int
  | 14 => .array .int
  | 15 => .int
  | 16 => .array .int
  | 17 => .array .int
  | 18 => .int
  | 19 => .int
  | 20 => .array .int
  | 21 => .array .int
  | 22 => .array .int
  | 23 => .array .int
  | 24 => .array .boolean
  | 25 => .array .int
  | 26 => .array .int
  | 27 => .array .int
  | 28 => .int
  | 29 => .array .int
  | 30 => .array .int
  | 31 => .array .int
  | 32 => .array .int
  | 33 => .array .int
  | 34 => .array .int
  | 35 => .array .int
  | 36 => .array .int
  | 37 => .array .int
  | 38 => .int
  | 39 => .int
  | 40 => .array .int
  | 41 => .boolean
  | 42 => .int
  | 43 => .int
  | 44 => .array .boolean
  | 45 => .array .boolean
  | 46 => .array .int
  | _ => .array .int
theorem nmX8 : ∀ a, a < 48 → ∀ b, b < 48 → a ≠ b → (TX8 a).2.1 ≠ (TX8 b).2.1 := by decide +kernel
theorem tyX8_ok : ∀ k, k < 48 → parseFieldDescriptor (TX8 k).2.2.1 = some (tyX8 k) := by decide +kernel
abbrev cX8_init : ByteArray := prog_10_method_1_code
def yX8_init : MethodName := ⟨RX8, "<init>", "()V"⟩
abbrev cX8_in : ByteArray := prog_10_method_2_code
def yX8_in : MethodName := ⟨RX8, "in", "(III)Z"⟩
abbrev cX8_isClass : ByteArray := prog_10_method_3_code
def yX8_isClass : MethodName := ⟨RX8, "isClass", "(I)Z"⟩
abbrev cX8_isEntry : ByteArray := prog_10_method_4_code
def yX8_isEntry : MethodName := ⟨RX8, "isEntry", "(I)Z"⟩
abbrev cX8_isJudge : ByteArray := prog_10_method_5_code
def yX8_isJudge : MethodName := ⟨RX8, "isJudge", "(I)Z"⟩
abbrev cX8_show : ByteArray := prog_10_method_6_code
def yX8_show : MethodName := ⟨RX8, "show", "(II)I"⟩
abbrev cX8_entry : ByteArray := prog_10_method_7_code
def yX8_entry : MethodName := ⟨RX8, "entry", "(I)I"⟩
abbrev cX8_prizes : ByteArray := prog_10_method_8_code
def yX8_prizes : MethodName := ⟨RX8, "prizes", "(IIII)I"⟩
abbrev cX8_rule : ByteArray := prog_10_method_9_code
def yX8_rule : MethodName := ⟨RX8, "rule", "(III)I"⟩
abbrev cX8_clearRules : ByteArray := prog_10_method_10_code
def yX8_clearRules : MethodName := ⟨RX8, "clearRules", "()I"⟩
abbrev cX8_observe : ByteArray := prog_10_method_11_code
def yX8_observe : MethodName := ⟨RX8, "observe", "(I)I"⟩
abbrev cX8_counted : ByteArray := prog_10_method_12_code
def yX8_counted : MethodName := ⟨RX8, "counted", "(I)V"⟩
abbrev cX8_goBack : ByteArray := prog_10_method_13_code
def yX8_goBack : MethodName := ⟨RX8, "goBack", "(I)V"⟩
abbrev cX8_comes : ByteArray := prog_10_method_14_code
def yX8_comes : MethodName := ⟨RX8, "comes", "(II)V"⟩
abbrev cX8_markOf : ByteArray := prog_10_method_15_code
def yX8_markOf : MethodName := ⟨RX8, "markOf", "(II)I"⟩
abbrev cX8_begin : ByteArray := prog_10_method_16_code
def yX8_begin : MethodName := ⟨RX8, "begin", "(II)I"⟩
abbrev cX8_parent : ByteArray := prog_10_method_17_code
def yX8_parent : MethodName := ⟨RX8, "parent", "(I)I"⟩
abbrev cX8_isOf : ByteArray := prog_10_method_18_code
def yX8_isOf : MethodName := ⟨RX8, "isOf", "(II)Z"⟩
abbrev cX8_holds : ByteArray := prog_10_method_19_code
def yX8_holds : MethodName := ⟨RX8, "holds", "(I)Z"⟩
abbrev cX8_judged : ByteArray := prog_10_method_20_code
def yX8_judged : MethodName := ⟨RX8, "judged", "(I)I"⟩
abbrev cX8_note : ByteArray := prog_10_method_21_code
def yX8_note : MethodName := ⟨RX8, "note", "(IIII)I"⟩
abbrev cX8_failed : ByteArray := prog_10_method_22_code
def yX8_failed : MethodName := ⟨RX8, "failed", "(II)I"⟩
abbrev cX8_placeOf : ByteArray := prog_10_method_23_code
def yX8_placeOf : MethodName := ⟨RX8, "placeOf", "(I)I"⟩
abbrev cX8_points : ByteArray := prog_10_method_24_code
def yX8_points : MethodName := ⟨RX8, "points", "(I)I"⟩
abbrev cX8_deduct : ByteArray := prog_10_method_25_code
def yX8_deduct : MethodName := ⟨RX8, "deduct", "(I)I"⟩
abbrev cX8_remark : ByteArray := prog_10_method_26_code
def yX8_remark : MethodName := ⟨RX8, "remark", "(I)I"⟩
abbrev cX8_save : ByteArray := prog_10_method_27_code
def yX8_save : MethodName := ⟨RX8, "save", "(I)I"⟩
abbrev cX8_back : ByteArray := prog_10_method_28_code
def yX8_back : MethodName := ⟨RX8, "back", "(I)I"⟩
abbrev cX8_release : ByteArray := prog_10_method_29_code
def yX8_release : MethodName := ⟨RX8, "release", "(I)I"⟩
abbrev cX8_guard : ByteArray := prog_10_method_30_code
def yX8_guard : MethodName := ⟨RX8, "guard", "(II)I"⟩
abbrev cX8_keep : ByteArray := prog_10_method_31_code
def yX8_keep : MethodName := ⟨RX8, "keep", "(I)V"⟩
abbrev cX8_end : ByteArray := prog_10_method_32_code
def yX8_end : MethodName := ⟨RX8, "end", "()I"⟩
abbrev cX8_drop : ByteArray := prog_10_method_33_code
def yX8_drop : MethodName := ⟨RX8, "drop", "()I"⟩
abbrev cX8_depth : ByteArray := prog_10_method_34_code
def yX8_depth : MethodName := ⟨RX8, "depth", "()I"⟩
abbrev cX8_scoring : ByteArray := prog_10_method_35_code
def yX8_scoring : MethodName := ⟨RX8, "scoring", "(II)I"⟩
abbrev cX8_rounded : ByteArray := prog_10_method_36_code
def yX8_rounded : MethodName := ⟨RX8, "rounded", "(II)I"⟩
abbrev cX8_totalOf : ByteArray := prog_10_method_37_code
def yX8_totalOf : MethodName := ⟨RX8, "totalOf", "(I)I"⟩
abbrev cX8_above : ByteArray := prog_10_method_38_code
def yX8_above : MethodName := ⟨RX8, "above", "(I)I"⟩
abbrev cX8_total : ByteArray := prog_10_method_39_code
def yX8_total : MethodName := ⟨RX8, "total", "()V"⟩
abbrev cX8_isBetter : ByteArray := prog_10_method_40_code
def yX8_isBetter : MethodName := ⟨RX8, "isBetter", "(II)Z"⟩
abbrev cX8_rankOf : ByteArray := prog_10_method_41_code
def yX8_rankOf : MethodName := ⟨RX8, "rankOf", "(I)I"⟩
abbrev cX8_alike : ByteArray := prog_10_method_42_code
def yX8_alike : MethodName := ⟨RX8, "alike", "(I)I"⟩
abbrev cX8_prizeOf : ByteArray := prog_10_method_43_code
def yX8_prizeOf : MethodName := ⟨RX8, "prizeOf", "(I)I"⟩
abbrev cX8_told : ByteArray := prog_10_method_44_code
def yX8_told : MethodName := ⟨RX8, "told", "(II)I"⟩
abbrev cX8_mark : ByteArray := prog_10_method_45_code
def yX8_mark : MethodName := ⟨RX8, "mark", "(II)I"⟩
abbrev cX8_place : ByteArray := prog_10_method_46_code
def yX8_place : MethodName := ⟨RX8, "place", "(II)I"⟩
abbrev cX8_close : ByteArray := prog_10_method_47_code
def yX8_close : MethodName := ⟨RX8, "close", "(I)I"⟩
abbrev cX8_about : ByteArray := prog_10_method_48_code
def yX8_about : MethodName := ⟨RX8, "about", "(II)I"⟩
abbrev cX8_uphold : ByteArray := prog_10_method_49_code
def yX8_uphold : MethodName := ⟨RX8, "uphold", "(I)I"⟩
abbrev cX8_event : ByteArray := prog_10_method_50_code
def yX8_event : MethodName := ⟨RX8, "event", "(II)I"⟩
abbrev cX8_failure : ByteArray := prog_10_method_51_code
def yX8_failure : MethodName := ⟨RX8, "failure", "(II)I"⟩
abbrev cX8_is : ByteArray := prog_10_method_52_code
def yX8_is : MethodName := ⟨RX8, "is", "(II)I"⟩
abbrev cX8_undo : ByteArray := prog_10_method_53_code
def yX8_undo : MethodName := ⟨RX8, "undo", "()I"⟩
abbrev cX8_count : ByteArray := prog_10_method_54_code
def yX8_count : MethodName := ⟨RX8, "count", "(I)I"⟩
abbrev cX8_digest : ByteArray := prog_10_method_55_code
def yX8_digest : MethodName := ⟨RX8, "digest", "()J"⟩
def RJ6 : String := "java/lang/Integer"
def TJ6 : u_T := fun k => match k with
  | _ => ("", "", "", false)
def tyJ6 : Nat → FieldType := fun k => match k with
  | _ => .int
theorem nmJ6 : ∀ a, a < 0 → ∀ b, b < 0 → a ≠ b → (TJ6 a).2.1 ≠ (TJ6 b).2.1 := by decide +kernel
theorem tyJ6_ok : ∀ k, k < 0 → parseFieldDescriptor (TJ6 k).2.2.1 = some (tyJ6 k) := by decide +kernel
abbrev cJ6_bitCount_0f7a4 : ByteArray := prog_11_method_49_code
def yJ6_bitCount_0f7a4 : MethodName := ⟨RJ6, "bitCount", "(I)I"⟩
def RJ9 : String := "java/lang/Math"
def TJ9 : u_T := fun k => match k with
  | _ => ("", "", "", false)
def tyJ9 : Nat → FieldType := fun k => match k with
  | _ => .int
theorem nmJ9 : ∀ a, a < 0 → ∀ b, b < 0 → a ≠ b → (TJ9 a).2.1 ≠ (TJ9 b).2.1 := by decide +kernel
theorem tyJ9_ok : ∀ k, k < 0 → parseFieldDescriptor (TJ9 k).2.2.1 = some (tyJ9 k) := by decide +kernel
abbrev cJ9_floorDiv_7cf53 : ByteArray := prog_12_method_47_code
def yJ9_floorDiv_7cf53 : MethodName := ⟨RJ9, "floorDiv", "(II)I"⟩
abbrev cJ9_floorMod_7cf53 : ByteArray := prog_12_method_50_code
def yJ9_floorMod_7cf53 : MethodName := ⟨RJ9, "floorMod", "(II)I"⟩
abbrev cJ9_max_7cf53 : ByteArray := prog_12_method_65_code
def yJ9_max_7cf53 : MethodName := ⟨RJ9, "max", "(II)I"⟩
abbrev cJ9_min_7cf53 : ByteArray := prog_12_method_69_code
def yJ9_min_7cf53 : MethodName := ⟨RJ9, "min", "(II)I"⟩
def RL : String := "JudgesLedgerLaw"
abbrev cL_law : ByteArray := code
def yL_law : MethodName := ⟨RL, "law", "([I)Z"⟩
abbrev vwCl : List vw_C := [(RX0, TX0, 2), (RX1, TX1, 4), (RX2, TX2, 6), (RX3, TX3, 4), (RX4, TX4, 9), (RX5, TX5, 10), (RX6, TX6, 10), (RX7, TX7, 13), (RX8, TX8, 48)]
end
section
/-! A calculus over the machine: states of a method are (place, locals, operands, cells by number). A reference is the number of its cell; q gives its address. Cell 0 is the script, cell 1 the constant row of the ledger; both are only read. -/
abbrev zc : Type := Nat × Nat × (Nat → Value)
abbrev zH : Type := Nat → zc
/-- class numbers, their slots, array kinds, the script's length, the script -/
abbrev zG : Type := (Nat → ClassId) × (Nat → Nat → Nat) × (Nat → ClassId) × Nat × (Nat → Int32)
abbrev zM : Type := MethodName × ByteArray × Nat × Option FieldType
abbrev zQ : Type := Option Value → Nat → zH → Prop
def zv (q : Nat → Nat) (v : Value) : Value := match v with
  | .ref k => .ref (q k)
  | v => v
theorem zv_cat (q : Nat → Nat) (v : Value) : (zv q v).category = v.category := by cases v <;> rfl
def zT : List Cond := lw_tbl.filter goodWord
def zws (M : zM) : List Cond := Cond.code M.1 M.2.1 M.2.2.1 M.2.2.2 :: zT
def zty : List FieldType := [.int, .boolean, .object RX4]
def zka : Nat → Int32 := fun k => ([0, 0, 1, 1, 0, 4, 4, 0, 7, 0, 9, 0] : List Int32).getD k 0
def zqo (q : Nat → Nat) : Prop := q 0 < q 2 ∧ q 1 < q 2 ∧ ∀ k, q (2 + k) = q 2 + k
theorem zqo_ge {q : Nat → Nat} (h : zqo q) {k : Nat} (hk : 2 ≤ k) : q k = q 2 + (k - 2) := by
  have e := h.2.2 (k - 2)
  rw [show 2 + (k - 2) = k by omega] at e
  exact e
theorem zqo_ne {q : Nat → Nat} (h : zqo q) {j k : Nat} (hk : 2 ≤ k) (hj : j ≠ k) : q j ≠ q k := by
  have e := zqo_ge h hk
  rcases Nat.lt_or_ge j 2 with hl | hl
  · have h0 := h.1
    have h1 := h.2.1
    rcases (show j = 0 ∨ j = 1 by omega) with rfl | rfl <;> omega
  · have e2 := zqo_ge h hl
    omega
def zok (D : zG) (q : Nat → Nat) (a : Nat) (x : zc) (H : Heap) : Prop :=
  (x.1 < 1000 → ∃ r : vw_C, vwCl[x.1]? = some r ∧ t_OB a (D.1 x.1) r.2.2 (D.2.1 x.1) H (fun j => zv q (x.2.2 j))) ∧
  (1000 ≤ x.1 → H[a]? = some (arrV (D.2.2.1 (x.1 - 1000)) x.2.1 (fun j => zv q (x.2.2 j))))
theorem zok.kept {D : zG} {q : Nat → Nat} {a : Nat} {x : zc} {H H1 : Heap} (h : zok D q a x H) (hq : H1[a]? = H[a]?) : zok D q a x H1 := by
  refine ⟨fun h1 => ?_, fun h1 => ?_⟩
  · obtain ⟨r, e1, e2⟩ := h.1 h1
    exact ⟨r, e1, e2.kept hq⟩
  · exact hq.trans (h.2 h1)
def zW (D : zG) (q : Nat → Nat) (H0 : Heap) (N : Nat) (w : zH) (H : Heap) : Prop :=
  2 ≤ N ∧ H.size = q N ∧ (∀ k, 2 ≤ k → k < N → zok D q (q k) (w k) H) ∧ (∀ a, a < q 2 → H[a]? = H0[a]?) ∧ (w 0).2.1 = D.2.2.2.1 ∧ ∀ i, (w 0).2.2 i = .int (D.2.2.2.2 i)
def zLc (q : Nat → Nat) (locs : List Loc) : Prop := ∀ x ∈ locs, q 2 ≤ x.base
def zNest : List Cond := [.methodLinkNest RX7 11 yX6_init RX7, .methodLinkNest RX7 36 yX3_init RX7, .methodLinkNest RX7 43 yX0_init RX7, .methodLinkNest RX7 50 yX1_init RX7, .methodLinkNest RX7 81 yX4_init RX7]
/-- what the tables, and the heap at the law's start, say -/
def zK (D : zG) (q : Nat → Nat) (H0 : Heap) (U : State) : Prop :=
  (∀ (c : Nat) (r : vw_C), vwCl[c]? = some r → u_Kn U r.1 r.2.1 r.2.2 (D.1 c) (D.2.1 c)) ∧
  (∀ (t : Nat) (ty : FieldType), zty[t]? = some ty → ArrOfT U (D.2.2.1 t) ty ∧ va_RA U (D.2.2.1 t) ty) ∧
  zqo q ∧ q 2 = H0.size ∧ va_Z RX7 "KIND_ABOVE" "[I" (.ref (q 1)) (fun a => q 2 ≤ a) U H0 ∧
  va_X (q 0) D.2.2.2.1 D.2.2.2.2 U H0 ∧ va_X (q 1) 12 zka U H0 ∧
  (∀ wd ∈ zNest, va_Nw wd U) ∧ va_AO RX4 U
def zCx (M : zM) (p : Program) (s : State) (m : MethodId) (args : Array Value) (meth : Method) (c : Code) (D : zG) (q : Nat → Nat) (H0 : Heap) : Prop :=
  p.tables.exec = Jvm.exec ∧ c.code = M.2.1 ∧ meth.sig.returnType = M.2.2.2 ∧ c.maxLocals = M.2.2.1 ∧ s.vm.findClass M.1.cls = some m.cls ∧ (∀ wd ∈ zws M, wd.before args s = true) ∧ meth.locks = false ∧ meth.name = M.1.name ∧ zK D q H0 s
def zL (q : Nat → Nat) (nL : Nat) (lo : List (Option Value)) (ls : Array Slot) : Prop :=
  ls.size = nL ∧ lv_wf ls ∧ ∀ (i : Nat) (v : Value), lo[i]? = some (some v) → ls[i]? = some (.val (zv q v))
abbrev zZt : Type := List Frame → Array Value → State → zG → (Nat → Nat) → Heap → State → Prop
/-- from here the method comes to its end: Z -/
def zEV (M : zM) (R : Room) (Z : zZt) (pc : Nat) (lo : List (Option Value)) (st : List Value) (N : Nat) (w : zH) (k n : Nat) : Prop :=
  ∀ (p : Program) (l : Launch) (e : Env) (s : State) (m : MethodId) (args : Array Value) (below : List Frame) (meth : Method) (c : Code) (D : zG) (q : Nat → Nat) (H0 : Heap), zCx M p s m args meth c D q H0 →
    ∀ (H : Heap) (locs : List Loc) (ls : Array Slot), zW D q H0 N w H → zLc q locs → zL q M.2.2.1 lo ls →
      W p l e R s m args below meth c H locs k n (Z below args s D q H0) (F0 m pc ls (st.map (zv q)))
def zPo (D : zG) (q : Nat → Nat) (H0 : Heap) (Q : zQ) : Array Value → State → Outcome → State → Prop := fun _ _ oc t =>
  ∃ (r : Option Value) (N : Nat) (w : zH), Q r N w ∧ oc = .returned (r.map (zv q)) ∧ zW D q H0 N w t.heap
def zZ (mc ms : Nat) (Q : zQ) : zZt := fun below args s D q H0 => MQ below (zPo D q H0 Q) args s mc ms (fun a => q 2 ≤ a)
def zrm (d mc ms : Nat) : Room := { frames := d, cells := mc, slots := ms, locals := 36 * d }
/-- a contract: with these arguments, from these cells, the method returns and Q holds of its answer and of the cells then -/
def zMt (M : zM) (d mc ms : Nat) (As : List Value) (N : Nat) (w : zH) (Q : zQ) : Prop :=
  ∀ (l : Launch) (D : zG) (q : Nat → Nat) (H0 : Heap), Met l M.1 (zws M) (zrm d mc ms) (va_Pc (As.map (zv q)) (fun U => zW D q H0 N w U.heap ∧ zK D q H0 U)) (zPo D q H0 Q) mc ms (fun a => q 2 ≤ a)
def zIs (M : zM) (pc : Nat) (i : ClassFile.Instr) (len pc' : Nat) : Prop := decode M.2.1 pc = .ok (i, len) ∧ pc + len = pc'
def zBr (M : zM) (pc : Nat) (mk : Int → ClassFile.Instr) (tgt pc' : Nat) : Prop := ∃ off : Int, decode M.2.1 pc = .ok (mk off, 3) ∧ (pc : Int) + off = (tgt : Int) ∧ pc + 3 = pc'
/-! locals -/
def zkp (lo : List (Option Value)) (i : Nat) : Bool := match i with
  | 0 => true
  | j + 1 => match lo[j]? with
    | some (some (.long _)) => false
    | some (some (.double _)) => false
    | _ => true
theorem zkp_use {lo : List (Option Value)} {i j : Nat} {v : Value} (h : zkp lo i = true) (hj : j + 1 = i) (hv : lo[j]? = some (some v)) : v.category = 1 := by
  subst hj
  simp only [zkp, hv] at h
  cases v <;> first | rfl | simp at h
theorem zL_store1 {q : Nat → Nat} {nL : Nat} {lo : List (Option Value)} {ls : Array Slot} {i : Nat} {v : Value} (h : zL q nL lo ls) (hi : i < nL) (hc : v.category = 1) (hk : zkp lo i = true) :
    ∃ ls', storeLocals ls i (zv q v) = some ls' ∧ zL q nL (lo.set i (some v)) ls' := by
  obtain ⟨h1, h2, h3⟩ := h
  obtain ⟨ls', e', h'⟩ := lv_store1 (l := []) (v := zv q v) ⟨h1, h2, fun x hx => by cases hx⟩ hi (by rw [zv_cat]; exact hc)
  refine ⟨ls', e', h'.1, h'.2.1, fun j u hj => ?_⟩
  by_cases hji : i = j
  · subst hji
    have hu : u = v := by
      by_cases hl : i < lo.length
      · rw [List.getElem?_set_self hl] at hj
        simp at hj
        exact hj.symm
      · rw [List.getElem?_eq_none (by simpa using hl)] at hj
        cases hj
    subst hu
    exact h'.2.2 (i, zv q u) (by simp)
  · rw [List.getElem?_set_ne hji] at hj
    obtain ⟨l2, e2, g2⟩ := lv_store1 (l := [(j, zv q u)]) (v := zv q v) ⟨h1, h2, fun x hx => by simp at hx; subst hx; exact h3 j u hj⟩ hi (by rw [zv_cat]; exact hc)
    have e3 : l2 = ls' := Option.some.inj (e2.symm.trans e')
    subst e3
    refine g2.2.2 (j, zv q u) ?_
    refine List.mem_cons_of_mem _ (List.mem_filter.mpr ⟨by simp, ?_⟩)
    have n1 : ¬ j = i := fun x => hji x.symm
    by_cases hj1 : j + 1 = i
    · have hcu := zkp_use hk hj1 hj
      simp [n1, zv_cat, hcu]
    · simp [n1, hj1]
theorem zL_store2 {q : Nat → Nat} {nL : Nat} {lo : List (Option Value)} {ls : Array Slot} {i : Nat} {v : Value} (h : zL q nL lo ls) (hi : i + 1 < nL) (hc : v.category = 2) (hk : zkp lo i = true) :
    ∃ ls', storeLocals ls i (zv q v) = some ls' ∧ zL q nL ((lo.set i (some v)).set (i + 1) none) ls' := by
  obtain ⟨h1, h2, h3⟩ := h
  obtain ⟨ls', e', h'⟩ := lv_store2 (l := []) (v := zv q v) ⟨h1, h2, fun x hx => by cases hx⟩ hi (by rw [zv_cat]; exact hc)
  refine ⟨ls', e', h'.1, h'.2.1, fun j u hj => ?_⟩
  by_cases hj2 : i + 1 = j
  · subst hj2
    by_cases hl : i + 1 < (lo.set i (some v)).length
    · rw [List.getElem?_set_self hl] at hj
      simp at hj
    · rw [List.getElem?_eq_none (by simpa using hl)] at hj
      cases hj
  · rw [List.getElem?_set_ne hj2] at hj
    by_cases hji : i = j
    · subst hji
      have hu : u = v := by
        by_cases hl : i < lo.length
        · rw [List.getElem?_set_self hl] at hj
          simp at hj
          exact hj.symm
        · rw [List.getElem?_eq_none (by simpa using hl)] at hj
          cases hj
      subst hu
      exact h'.2.2 (i, zv q u) (by simp)
    · rw [List.getElem?_set_ne hji] at hj
      obtain ⟨l2, e2, g2⟩ := lv_store2 (l := [(j, zv q u)]) (v := zv q v) ⟨h1, h2, fun x hx => by simp at hx; subst hx; exact h3 j u hj⟩ hi (by rw [zv_cat]; exact hc)
      have e3 : l2 = ls' := Option.some.inj (e2.symm.trans e')
      subst e3
      refine g2.2.2 (j, zv q u) ?_
      refine List.mem_cons_of_mem _ (List.mem_filter.mpr ⟨by simp, ?_⟩)
      have n1 : ¬ j = i := fun x => hji x.symm
      have n2 : ¬ j = i + 1 := fun x => hj2 x.symm
      by_cases hj1 : j + 1 = i
      · have hcu := zkp_use hk hj1 hj
        simp [n1, n2, zv_cat, hcu]
      · simp [n1, n2, hj1]
def zlo : List Value → List (Option Value)
  | [] => []
  | v :: r => if v.category = 2 then some v :: none :: zlo r else some v :: zlo r
end
section
section ZR
variable {M : zM} {R : Room} {Z : zZt} {pc pc' tgt : Nat} {lo : List (Option Value)} {st : List Value} {N : Nat} {w : zH} {k n : Nat}
/-- a number is pushed -/
def zPi (M : zM) (pc : Nat) (v : Int32) (pc' : Nat) : Prop :=
  (∃ i : Int, decode M.2.1 pc = .ok (.iconst i, 1) ∧ Int32.ofInt i = v ∧ pc + 1 = pc') ∨ (∃ i : Int, decode M.2.1 pc = .ok (.bipush i, 2) ∧ (Int8.ofInt i).toInt32 = v ∧ pc + 2 = pc') ∨ (∃ i : Int, decode M.2.1 pc = .ok (.sipush i, 3) ∧ (Int16.ofInt i).toInt32 = v ∧ pc + 3 = pc') ∨
  (∃ i : Nat, decode M.2.1 pc = .ok (.ldc i, 2) ∧ Cond.constant M.1.cls i v ∈ zT ∧ pc + 2 = pc') ∨ (∃ i : Nat, decode M.2.1 pc = .ok (.ldc_w i, 3) ∧ Cond.constant M.1.cls i v ∈ zT ∧ pc + 3 = pc')
theorem zT_use {M : zM} {p : Program} {s : State} {m : MethodId} {args : Array Value} {meth : Method} {c : Code} {D : zG} {q : Nat → Nat} {H0 : Heap} (C : zCx M p s m args meth c D q H0) {wd : Cond} (h : wd ∈ zT) : wd.before args s = true := C.2.2.2.2.2.1 wd (List.mem_cons_of_mem _ h)
theorem z_push {v : Int32} (hi : zPi M pc v pc') (kk : zEV M R Z pc' lo (.int v :: st) N w k n) : zEV M R Z pc lo st N w k n := by
  intro p l e s m args below meth c D q H0 C H locs ls HW HC HL
  have K := kk p l e s m args below meth c D q H0 C H locs ls HW HC HL
  rcases hi with ⟨i, hd, hv, rfl⟩ | ⟨i, hd, hv, rfl⟩ | ⟨i, hd, hv, rfl⟩ | ⟨i, hd, hv, rfl⟩ | ⟨i, hd, hv, rfl⟩
  · exact lv_iconst C.1 C.2.1 hd hv K
  · exact lv_bipush C.1 C.2.1 hd hv K
  · exact lv_sipush C.1 C.2.1 hd hv K
  · exact lv_ldc C.1 C.2.1 C.2.2.2.2.1 (zT_use C hv) hd K
  · exact lv_ldcw C.1 C.2.1 C.2.2.2.2.1 (zT_use C hv) hd K
def zPl (M : zM) (pc : Nat) (v : Int64) (pc' : Nat) : Prop := ∃ i : Nat, decode M.2.1 pc = .ok (.ldc2_w i, 3) ∧ Cond.constantLong M.1.cls i v ∈ zT ∧ pc + 3 = pc'
theorem z_pushl {v : Int64} (hi : zPl M pc v pc') (kk : zEV M R Z pc' lo (.long v :: st) N w k n) : zEV M R Z pc lo st N w k n := by
  intro p l e s m args below meth c D q H0 C H locs ls HW HC HL
  have K := kk p l e s m args below meth c D q H0 C H locs ls HW HC HL
  obtain ⟨i, hd, hv, rfl⟩ := hi
  exact lv_ldc2 C.1 C.2.1 C.2.2.2.2.1 (zT_use C hv) hd K
/-- drop a stale local -/
theorem z_sub {lo' : List (Option Value)} (h : ∀ (i : Nat) (v : Value), lo'[i]? = some (some v) → lo[i]? = some (some v)) (kk : zEV M R Z pc lo' st N w k n) : zEV M R Z pc lo st N w k n := by
  intro p l e s m args below meth c D q H0 C H locs ls HW HC HL
  exact kk p l e s m args below meth c D q H0 C H locs ls HW HC ⟨HL.1, HL.2.1, fun i v hv => HL.2.2 i v (h i v hv)⟩

def zLi (M : zM) (pc i pc' : Nat) : Prop := (∃ j : Fin 4, decode M.2.1 pc = .ok (.iload_n j, 1) ∧ (j : Nat) = i ∧ pc + 1 = pc') ∨ (decode M.2.1 pc = .ok (.iload i, 2) ∧ pc + 2 = pc')
theorem z_iload {i : Nat} {x : Int32} (hi : zLi M pc i pc') (hl : lo[i]? = some (some (.int x))) (kk : zEV M R Z pc' lo (.int x :: st) N w k n) : zEV M R Z pc lo st N w k n := by
  intro p l e s m args below meth c D q H0 C H locs ls HW HC HL
  have K := kk p l e s m args below meth c D q H0 C H locs ls HW HC HL
  rcases hi with ⟨j, hd, hj, rfl⟩ | ⟨hd, rfl⟩
  · exact lv_iload_n C.1 C.2.1 hd hj (HL.2.2 i _ hl) K
  · exact lv_iload C.1 C.2.1 hd (HL.2.2 i _ hl) K

def zSi (M : zM) (pc i pc' : Nat) : Prop := ((∃ j : Fin 4, decode M.2.1 pc = .ok (.istore_n j, 1) ∧ (j : Nat) = i ∧ pc + 1 = pc') ∨ (decode M.2.1 pc = .ok (.istore i, 2) ∧ pc + 2 = pc')) ∧ i < M.2.2.1
theorem z_istore {i : Nat} {x : Int32} (hi : zSi M pc i pc') (hk : zkp lo i = true) (kk : zEV M R Z pc' (lo.set i (some (.int x))) st N w k n) : zEV M R Z pc lo (.int x :: st) N w k n := by
  intro p l e s m args below meth c D q H0 C H locs ls HW HC HL
  obtain ⟨hi, hb⟩ := hi
  obtain ⟨ls', e', h'⟩ := zL_store1 (v := .int x) HL hb rfl hk
  have K := kk p l e s m args below meth c D q H0 C H locs ls' HW HC h'
  intro T hT X
  obtain ⟨t, a, b⟩ := K T hT X
  have hexec := C.1
  have hbb := C.2.1
  refine ⟨t, ?_, b⟩
  have e2 : storeLocals ls i (zv q (.int x)) = some ls' := e'
  simp only [zv] at e2
  rcases hi with ⟨j, hdg, hj, rfl⟩ | ⟨hdg, rfl⟩
  · subst hj
    simp only [List.map_cons, zv]
    jvm_step X.here [X.here.top, ↓top_set X.here.top, hexec, hbb, hdg, e2]
    exact a
  · simp only [List.map_cons, zv]
    jvm_step X.here [X.here.top, ↓top_set X.here.top, hexec, hbb, hdg, e2]
    exact a

def zLa (M : zM) (pc i pc' : Nat) : Prop := (∃ j : Fin 4, decode M.2.1 pc = .ok (.aload_n j, 1) ∧ (j : Nat) = i ∧ pc + 1 = pc') ∨ (decode M.2.1 pc = .ok (.aload i, 2) ∧ pc + 2 = pc')
theorem z_aload {i : Nat} {x : Nat} (hi : zLa M pc i pc') (hl : lo[i]? = some (some (.ref x))) (kk : zEV M R Z pc' lo (.ref x :: st) N w k n) : zEV M R Z pc lo st N w k n := by
  intro p l e s m args below meth c D q H0 C H locs ls HW HC HL
  have K := kk p l e s m args below meth c D q H0 C H locs ls HW HC HL
  rcases hi with ⟨j, hd, hj, rfl⟩ | ⟨hd, rfl⟩
  · exact lv_aload_n C.1 C.2.1 hd hj (HL.2.2 i _ hl) K
  · exact lv_aload C.1 C.2.1 hd (HL.2.2 i _ hl) K

def zSa (M : zM) (pc i pc' : Nat) : Prop := ((∃ j : Fin 4, decode M.2.1 pc = .ok (.astore_n j, 1) ∧ (j : Nat) = i ∧ pc + 1 = pc') ∨ (decode M.2.1 pc = .ok (.astore i, 2) ∧ pc + 2 = pc')) ∧ i < M.2.2.1
theorem z_astore {i : Nat} {x : Nat} (hi : zSa M pc i pc') (hk : zkp lo i = true) (kk : zEV M R Z pc' (lo.set i (some (.ref x))) st N w k n) : zEV M R Z pc lo (.ref x :: st) N w k n := by
  intro p l e s m args below meth c D q H0 C H locs ls HW HC HL
  obtain ⟨hi, hb⟩ := hi
  obtain ⟨ls', e', h'⟩ := zL_store1 (v := .ref x) HL hb rfl hk
  have K := kk p l e s m args below meth c D q H0 C H locs ls' HW HC h'
  intro T hT X
  obtain ⟨t, a, b⟩ := K T hT X
  have hexec := C.1
  have hbb := C.2.1
  refine ⟨t, ?_, b⟩
  have e2 : storeLocals ls i (zv q (.ref x)) = some ls' := e'
  simp only [zv] at e2
  rcases hi with ⟨j, hdg, hj, rfl⟩ | ⟨hdg, rfl⟩
  · subst hj
    simp only [List.map_cons, zv]
    jvm_step X.here [X.here.top, ↓top_set X.here.top, hexec, hbb, hdg, e2, Value.isRef]
    exact a
  · simp only [List.map_cons, zv]
    jvm_step X.here [X.here.top, ↓top_set X.here.top, hexec, hbb, hdg, e2, Value.isRef]
    exact a

def zLl (M : zM) (pc i pc' : Nat) : Prop := (∃ j : Fin 4, decode M.2.1 pc = .ok (.lload_n j, 1) ∧ (j : Nat) = i ∧ pc + 1 = pc') ∨ (decode M.2.1 pc = .ok (.lload i, 2) ∧ pc + 2 = pc')
theorem z_lload {i : Nat} {x : Int64} (hi : zLl M pc i pc') (hl : lo[i]? = some (some (.long x))) (kk : zEV M R Z pc' lo (.long x :: st) N w k n) : zEV M R Z pc lo st N w k n := by
  intro p l e s m args below meth c D q H0 C H locs ls HW HC HL
  have K := kk p l e s m args below meth c D q H0 C H locs ls HW HC HL
  rcases hi with ⟨j, hd, hj, rfl⟩ | ⟨hd, rfl⟩
  · exact lv_lload_n C.1 C.2.1 hd hj (HL.2.2 i _ hl) K
  · exact lv_lload C.1 C.2.1 hd (HL.2.2 i _ hl) K

def zSl (M : zM) (pc i pc' : Nat) : Prop := ((∃ j : Fin 4, decode M.2.1 pc = .ok (.lstore_n j, 1) ∧ (j : Nat) = i ∧ pc + 1 = pc') ∨ (decode M.2.1 pc = .ok (.lstore i, 2) ∧ pc + 2 = pc')) ∧ i + 1 < M.2.2.1
theorem z_lstore {i : Nat} {x : Int64} (hi : zSl M pc i pc') (hk : zkp lo i = true) (kk : zEV M R Z pc' ((lo.set i (some (.long x))).set (i + 1) none) st N w k n) : zEV M R Z pc lo (.long x :: st) N w k n := by
  intro p l e s m args below meth c D q H0 C H locs ls HW HC HL
  obtain ⟨hi, hb⟩ := hi
  obtain ⟨ls', e', h'⟩ := zL_store2 (v := .long x) HL hb rfl hk
  have K := kk p l e s m args below meth c D q H0 C H locs ls' HW HC h'
  intro T hT X
  obtain ⟨t, a, b⟩ := K T hT X
  have hexec := C.1
  have hbb := C.2.1
  refine ⟨t, ?_, b⟩
  have e2 : storeLocals ls i (zv q (.long x)) = some ls' := e'
  simp only [zv] at e2
  rcases hi with ⟨j, hdg, hj, rfl⟩ | ⟨hdg, rfl⟩
  · subst hj
    simp only [List.map_cons, zv]
    jvm_step X.here [X.here.top, ↓top_set X.here.top, hexec, hbb, hdg, e2]
    exact a
  · simp only [List.map_cons, zv]
    jvm_step X.here [X.here.top, ↓top_set X.here.top, hexec, hbb, hdg, e2]
    exact a

theorem z_iinc {i : Nat} {d : Int} {v x : Int32} (hi : zIs M pc (.iinc i d) 3 pc') (hv : Int32.ofInt d = v) (hb : i < M.2.2.1) (hl : lo[i]? = some (some (.int x))) (hk : zkp lo i = true) (kk : zEV M R Z pc' (lo.set i (some (.int (x + v)))) st N w k n) : zEV M R Z pc lo st N w k n := by
  intro p l e s m args below meth c D q H0 C H locs ls HW HC HL
  obtain ⟨hdg, rfl⟩ := hi
  subst hv
  obtain ⟨ls', e', h'⟩ := zL_store1 (v := .int (x + Int32.ofInt d)) HL hb rfl hk
  have K := kk p l e s m args below meth c D q H0 C H locs ls' HW HC h'
  have hg : ls[i]? = some (.val (.int x)) := HL.2.2 i _ hl
  intro T hT X
  obtain ⟨t, a, b⟩ := K T hT X
  have hexec := C.1
  have hbb := C.2.1
  refine ⟨t, ?_, b⟩
  have e2 : storeLocals ls i (.int (x + Int32.ofInt d)) = some ls' := e'
  jvm_step X.here [X.here.top, ↓top_set X.here.top, hexec, hbb, hdg, hg, e2]
  exact a

theorem z_iadd {x y : Int32} (hi : zIs M pc .iadd 1 pc')  (kk : zEV M R Z pc' lo (.int (x + y) :: st) N w k n) : zEV M R Z pc lo (.int y :: .int x :: st) N w k n := by
  intro p l e s m args below meth c D q H0 C H locs ls HW HC HL
  obtain ⟨hd, rfl⟩ := hi
  exact lv_iadd C.1 C.2.1 hd  (kk p l e s m args below meth c D q H0 C H locs ls HW HC HL)

theorem z_isub {x y : Int32} (hi : zIs M pc .isub 1 pc')  (kk : zEV M R Z pc' lo (.int (x - y) :: st) N w k n) : zEV M R Z pc lo (.int y :: .int x :: st) N w k n := by
  intro p l e s m args below meth c D q H0 C H locs ls HW HC HL
  obtain ⟨hd, rfl⟩ := hi
  exact lv_isub C.1 C.2.1 hd  (kk p l e s m args below meth c D q H0 C H locs ls HW HC HL)

theorem z_imul {x y : Int32} (hi : zIs M pc .imul 1 pc')  (kk : zEV M R Z pc' lo (.int (x * y) :: st) N w k n) : zEV M R Z pc lo (.int y :: .int x :: st) N w k n := by
  intro p l e s m args below meth c D q H0 C H locs ls HW HC HL
  obtain ⟨hd, rfl⟩ := hi
  exact lv_imul C.1 C.2.1 hd  (kk p l e s m args below meth c D q H0 C H locs ls HW HC HL)

theorem z_iand {x y : Int32} (hi : zIs M pc .iand 1 pc')  (kk : zEV M R Z pc' lo (.int (x &&& y) :: st) N w k n) : zEV M R Z pc lo (.int y :: .int x :: st) N w k n := by
  intro p l e s m args below meth c D q H0 C H locs ls HW HC HL
  obtain ⟨hd, rfl⟩ := hi
  exact lv_iand C.1 C.2.1 hd  (kk p l e s m args below meth c D q H0 C H locs ls HW HC HL)

theorem z_ior {x y : Int32} (hi : zIs M pc .ior 1 pc')  (kk : zEV M R Z pc' lo (.int (x ||| y) :: st) N w k n) : zEV M R Z pc lo (.int y :: .int x :: st) N w k n := by
  intro p l e s m args below meth c D q H0 C H locs ls HW HC HL
  obtain ⟨hd, rfl⟩ := hi
  exact lv_ior C.1 C.2.1 hd  (kk p l e s m args below meth c D q H0 C H locs ls HW HC HL)

theorem z_ixor {x y : Int32} (hi : zIs M pc .ixor 1 pc')  (kk : zEV M R Z pc' lo (.int (x ^^^ y) :: st) N w k n) : zEV M R Z pc lo (.int y :: .int x :: st) N w k n := by
  intro p l e s m args below meth c D q H0 C H locs ls HW HC HL
  obtain ⟨hd, rfl⟩ := hi
  exact lv_ixor C.1 C.2.1 hd  (kk p l e s m args below meth c D q H0 C H locs ls HW HC HL)

theorem z_ishl {x y : Int32} (hi : zIs M pc .ishl 1 pc')  (kk : zEV M R Z pc' lo (.int (x <<< (y &&& 31)) :: st) N w k n) : zEV M R Z pc lo (.int y :: .int x :: st) N w k n := by
  intro p l e s m args below meth c D q H0 C H locs ls HW HC HL
  obtain ⟨hd, rfl⟩ := hi
  exact lv_ishl C.1 C.2.1 hd  (kk p l e s m args below meth c D q H0 C H locs ls HW HC HL)

theorem z_ishr {x y : Int32} (hi : zIs M pc .ishr 1 pc')  (kk : zEV M R Z pc' lo (.int (x >>> (y &&& 31)) :: st) N w k n) : zEV M R Z pc lo (.int y :: .int x :: st) N w k n := by
  intro p l e s m args below meth c D q H0 C H locs ls HW HC HL
  obtain ⟨hd, rfl⟩ := hi
  exact lv_ishr C.1 C.2.1 hd  (kk p l e s m args below meth c D q H0 C H locs ls HW HC HL)

theorem z_iushr {x y : Int32} (hi : zIs M pc .iushr 1 pc')  (kk : zEV M R Z pc' lo (.int ((x.toUInt32 >>> (y.toUInt32 &&& Int32.toUInt32 31)).toInt32) :: st) N w k n) : zEV M R Z pc lo (.int y :: .int x :: st) N w k n := by
  intro p l e s m args below meth c D q H0 C H locs ls HW HC HL
  obtain ⟨hd, rfl⟩ := hi
  exact lv_iushr C.1 C.2.1 hd rfl (kk p l e s m args below meth c D q H0 C H locs ls HW HC HL)

theorem z_idiv {x y : Int32} (hi : zIs M pc .idiv 1 pc') (h0 : ¬ y = 0) (kk : zEV M R Z pc' lo (.int (x / y) :: st) N w k n) : zEV M R Z pc lo (.int y :: .int x :: st) N w k n := by
  intro p l e s m args below meth c D q H0 C H locs ls HW HC HL
  obtain ⟨hd, rfl⟩ := hi
  exact lv_idiv C.1 C.2.1 hd h0 (kk p l e s m args below meth c D q H0 C H locs ls HW HC HL)

theorem z_irem {x y : Int32} (hi : zIs M pc .irem 1 pc') (h0 : ¬ y = 0) (kk : zEV M R Z pc' lo (.int (x - x / y * y) :: st) N w k n) : zEV M R Z pc lo (.int y :: .int x :: st) N w k n := by
  intro p l e s m args below meth c D q H0 C H locs ls HW HC HL
  obtain ⟨hd, rfl⟩ := hi
  exact lv_irem C.1 C.2.1 hd h0 (kk p l e s m args below meth c D q H0 C H locs ls HW HC HL)

theorem z_ineg {x : Int32} (hi : zIs M pc .ineg 1 pc')  (kk : zEV M R Z pc' lo (.int (-x) :: st) N w k n) : zEV M R Z pc lo (.int x :: st) N w k n := by
  intro p l e s m args below meth c D q H0 C H locs ls HW HC HL
  obtain ⟨hd, rfl⟩ := hi
  exact lv_ineg C.1 C.2.1 hd  (kk p l e s m args below meth c D q H0 C H locs ls HW HC HL)

theorem z_i2l {x : Int32} (hi : zIs M pc .i2l 1 pc')  (kk : zEV M R Z pc' lo (.long x.toInt64 :: st) N w k n) : zEV M R Z pc lo (.int x :: st) N w k n := by
  intro p l e s m args below meth c D q H0 C H locs ls HW HC HL
  obtain ⟨hd, rfl⟩ := hi
  exact lv_i2l C.1 C.2.1 hd rfl (kk p l e s m args below meth c D q H0 C H locs ls HW HC HL)

theorem z_ladd {x y : Int64} (hi : zIs M pc .ladd 1 pc')  (kk : zEV M R Z pc' lo (.long (x + y) :: st) N w k n) : zEV M R Z pc lo (.long y :: .long x :: st) N w k n := by
  intro p l e s m args below meth c D q H0 C H locs ls HW HC HL
  obtain ⟨hd, rfl⟩ := hi
  exact lv_ladd C.1 C.2.1 hd  (kk p l e s m args below meth c D q H0 C H locs ls HW HC HL)

theorem z_lsub {x y : Int64} (hi : zIs M pc .lsub 1 pc')  (kk : zEV M R Z pc' lo (.long (x - y) :: st) N w k n) : zEV M R Z pc lo (.long y :: .long x :: st) N w k n := by
  intro p l e s m args below meth c D q H0 C H locs ls HW HC HL
  obtain ⟨hd, rfl⟩ := hi
  exact lv_lsub C.1 C.2.1 hd  (kk p l e s m args below meth c D q H0 C H locs ls HW HC HL)

theorem z_lmul {x y : Int64} (hi : zIs M pc .lmul 1 pc')  (kk : zEV M R Z pc' lo (.long (x * y) :: st) N w k n) : zEV M R Z pc lo (.long y :: .long x :: st) N w k n := by
  intro p l e s m args below meth c D q H0 C H locs ls HW HC HL
  obtain ⟨hd, rfl⟩ := hi
  exact lv_lmul C.1 C.2.1 hd  (kk p l e s m args below meth c D q H0 C H locs ls HW HC HL)

theorem z_lneg {x : Int64} (hi : zIs M pc .lneg 1 pc')  (kk : zEV M R Z pc' lo (.long (-x) :: st) N w k n) : zEV M R Z pc lo (.long x :: st) N w k n := by
  intro p l e s m args below meth c D q H0 C H locs ls HW HC HL
  obtain ⟨hd, rfl⟩ := hi
  exact lv_lneg C.1 C.2.1 hd  (kk p l e s m args below meth c D q H0 C H locs ls HW HC HL)

theorem z_lcmp {x y : Int64} (hi : zIs M pc .lcmp 1 pc')  (kk : zEV M R Z pc' lo (.int (lg_cmp x y) :: st) N w k n) : zEV M R Z pc lo (.long y :: .long x :: st) N w k n := by
  intro p l e s m args below meth c D q H0 C H locs ls HW HC HL
  obtain ⟨hd, rfl⟩ := hi
  exact W.lcmp C.1 C.2.1 hd  (kk p l e s m args below meth c D q H0 C H locs ls HW HC HL)

theorem z_dup {v : Value} (hi : zIs M pc .dup 1 pc') (hc : v.category = 1) (kk : zEV M R Z pc' lo (v :: v :: st) N w k n) : zEV M R Z pc lo (v :: st) N w k n := by
  intro p l e s m args below meth c D q H0 C H locs ls HW HC HL
  obtain ⟨hd, rfl⟩ := hi
  exact lv_dup C.1 C.2.1 hd (by rw [zv_cat]; exact hc) (kk p l e s m args below meth c D q H0 C H locs ls HW HC HL)

theorem z_pop {v : Value} (hi : zIs M pc .pop 1 pc') (hc : v.category = 1) (kk : zEV M R Z pc' lo (st) N w k n) : zEV M R Z pc lo (v :: st) N w k n := by
  intro p l e s m args below meth c D q H0 C H locs ls HW HC HL
  obtain ⟨hd, rfl⟩ := hi
  exact lv_pop C.1 C.2.1 hd (by rw [zv_cat]; exact hc) (kk p l e s m args below meth c D q H0 C H locs ls HW HC HL)

theorem z_dup2 {v u : Value} (hi : zIs M pc .dup2 1 pc') (hc : v.category = 1) (hc2 : u.category = 1) (kk : zEV M R Z pc' lo (v :: u :: v :: u :: st) N w k n) : zEV M R Z pc lo (v :: u :: st) N w k n := by
  intro p l e s m args below meth c D q H0 C H locs ls HW HC HL
  obtain ⟨hd, rfl⟩ := hi
  exact lv_dup2_11 C.1 C.2.1 hd (by rw [zv_cat]; exact hc) (by rw [zv_cat]; exact hc2) (kk p l e s m args below meth c D q H0 C H locs ls HW HC HL)

theorem z_goto (hi : zBr M pc .goto tgt pc') (kk : zEV M R Z tgt lo st N w k n) : zEV M R Z pc lo st N w k n := by
  intro p l e s m args below meth c D q H0 C H locs ls HW HC HL
  obtain ⟨off, hd, ht, -⟩ := hi
  exact lv_goto C.1 C.2.1 hd ht (kk p l e s m args below meth c D q H0 C H locs ls HW HC HL)

theorem z_icmp_eq {x y : Int32} (hi : zBr M pc (.if_icmp .eq) tgt pc') (kt : x = y → zEV M R Z tgt lo st N w k n) (kf : ¬ x = y → zEV M R Z pc' lo st N w k n) : zEV M R Z pc lo (.int y :: .int x :: st) N w k n := by
  intro p l e s m args below meth c D q H0 C H locs ls HW HC HL
  obtain ⟨off, hd, ht, rfl⟩ := hi
  exact lv_icmp_eq C.1 C.2.1 hd ht (fun h => kt h p l e s m args below meth c D q H0 C H locs ls HW HC HL) (fun h => kf h p l e s m args below meth c D q H0 C H locs ls HW HC HL)

theorem z_if_eq {x : Int32} (hi : zBr M pc (.ifCond .eq) tgt pc') (kt : x = 0 → zEV M R Z tgt lo st N w k n) (kf : ¬ x = 0 → zEV M R Z pc' lo st N w k n) : zEV M R Z pc lo (.int x :: st) N w k n := by
  intro p l e s m args below meth c D q H0 C H locs ls HW HC HL
  obtain ⟨off, hd, ht, rfl⟩ := hi
  exact lv_if_eq C.1 C.2.1 hd ht (fun h => kt h p l e s m args below meth c D q H0 C H locs ls HW HC HL) (fun h => kf h p l e s m args below meth c D q H0 C H locs ls HW HC HL)

theorem z_icmp_ne {x y : Int32} (hi : zBr M pc (.if_icmp .ne) tgt pc') (kt : ¬ x = y → zEV M R Z tgt lo st N w k n) (kf : x = y → zEV M R Z pc' lo st N w k n) : zEV M R Z pc lo (.int y :: .int x :: st) N w k n := by
  intro p l e s m args below meth c D q H0 C H locs ls HW HC HL
  obtain ⟨off, hd, ht, rfl⟩ := hi
  exact lv_icmp_ne C.1 C.2.1 hd ht (fun h => kt h p l e s m args below meth c D q H0 C H locs ls HW HC HL) (fun h => kf h p l e s m args below meth c D q H0 C H locs ls HW HC HL)

theorem z_if_ne {x : Int32} (hi : zBr M pc (.ifCond .ne) tgt pc') (kt : ¬ x = 0 → zEV M R Z tgt lo st N w k n) (kf : x = 0 → zEV M R Z pc' lo st N w k n) : zEV M R Z pc lo (.int x :: st) N w k n := by
  intro p l e s m args below meth c D q H0 C H locs ls HW HC HL
  obtain ⟨off, hd, ht, rfl⟩ := hi
  exact lv_if_ne C.1 C.2.1 hd ht (fun h => kt h p l e s m args below meth c D q H0 C H locs ls HW HC HL) (fun h => kf h p l e s m args below meth c D q H0 C H locs ls HW HC HL)

theorem z_icmp_lt {x y : Int32} (hi : zBr M pc (.if_icmp .lt) tgt pc') (kt : x < y → zEV M R Z tgt lo st N w k n) (kf : ¬ x < y → zEV M R Z pc' lo st N w k n) : zEV M R Z pc lo (.int y :: .int x :: st) N w k n := by
  intro p l e s m args below meth c D q H0 C H locs ls HW HC HL
  obtain ⟨off, hd, ht, rfl⟩ := hi
  exact lv_icmp_lt C.1 C.2.1 hd ht (fun h => kt h p l e s m args below meth c D q H0 C H locs ls HW HC HL) (fun h => kf h p l e s m args below meth c D q H0 C H locs ls HW HC HL)

theorem z_if_lt {x : Int32} (hi : zBr M pc (.ifCond .lt) tgt pc') (kt : x < 0 → zEV M R Z tgt lo st N w k n) (kf : ¬ x < 0 → zEV M R Z pc' lo st N w k n) : zEV M R Z pc lo (.int x :: st) N w k n := by
  intro p l e s m args below meth c D q H0 C H locs ls HW HC HL
  obtain ⟨off, hd, ht, rfl⟩ := hi
  exact lv_if_lt C.1 C.2.1 hd ht (fun h => kt h p l e s m args below meth c D q H0 C H locs ls HW HC HL) (fun h => kf h p l e s m args below meth c D q H0 C H locs ls HW HC HL)

theorem z_icmp_ge {x y : Int32} (hi : zBr M pc (.if_icmp .ge) tgt pc') (kt : y ≤ x → zEV M R Z tgt lo st N w k n) (kf : ¬ y ≤ x → zEV M R Z pc' lo st N w k n) : zEV M R Z pc lo (.int y :: .int x :: st) N w k n := by
  intro p l e s m args below meth c D q H0 C H locs ls HW HC HL
  obtain ⟨off, hd, ht, rfl⟩ := hi
  exact lv_icmp_ge C.1 C.2.1 hd ht (fun h => kt h p l e s m args below meth c D q H0 C H locs ls HW HC HL) (fun h => kf h p l e s m args below meth c D q H0 C H locs ls HW HC HL)

theorem z_if_ge {x : Int32} (hi : zBr M pc (.ifCond .ge) tgt pc') (kt : 0 ≤ x → zEV M R Z tgt lo st N w k n) (kf : ¬ 0 ≤ x → zEV M R Z pc' lo st N w k n) : zEV M R Z pc lo (.int x :: st) N w k n := by
  intro p l e s m args below meth c D q H0 C H locs ls HW HC HL
  obtain ⟨off, hd, ht, rfl⟩ := hi
  exact lv_if_ge C.1 C.2.1 hd ht (fun h => kt h p l e s m args below meth c D q H0 C H locs ls HW HC HL) (fun h => kf h p l e s m args below meth c D q H0 C H locs ls HW HC HL)

theorem z_icmp_gt {x y : Int32} (hi : zBr M pc (.if_icmp .gt) tgt pc') (kt : y < x → zEV M R Z tgt lo st N w k n) (kf : ¬ y < x → zEV M R Z pc' lo st N w k n) : zEV M R Z pc lo (.int y :: .int x :: st) N w k n := by
  intro p l e s m args below meth c D q H0 C H locs ls HW HC HL
  obtain ⟨off, hd, ht, rfl⟩ := hi
  exact lv_icmp_gt C.1 C.2.1 hd ht (fun h => kt h p l e s m args below meth c D q H0 C H locs ls HW HC HL) (fun h => kf h p l e s m args below meth c D q H0 C H locs ls HW HC HL)

theorem z_if_gt {x : Int32} (hi : zBr M pc (.ifCond .gt) tgt pc') (kt : 0 < x → zEV M R Z tgt lo st N w k n) (kf : ¬ 0 < x → zEV M R Z pc' lo st N w k n) : zEV M R Z pc lo (.int x :: st) N w k n := by
  intro p l e s m args below meth c D q H0 C H locs ls HW HC HL
  obtain ⟨off, hd, ht, rfl⟩ := hi
  exact lv_if_gt C.1 C.2.1 hd ht (fun h => kt h p l e s m args below meth c D q H0 C H locs ls HW HC HL) (fun h => kf h p l e s m args below meth c D q H0 C H locs ls HW HC HL)

theorem z_icmp_le {x y : Int32} (hi : zBr M pc (.if_icmp .le) tgt pc') (kt : x ≤ y → zEV M R Z tgt lo st N w k n) (kf : ¬ x ≤ y → zEV M R Z pc' lo st N w k n) : zEV M R Z pc lo (.int y :: .int x :: st) N w k n := by
  intro p l e s m args below meth c D q H0 C H locs ls HW HC HL
  obtain ⟨off, hd, ht, rfl⟩ := hi
  exact lv_icmp_le C.1 C.2.1 hd ht (fun h => kt h p l e s m args below meth c D q H0 C H locs ls HW HC HL) (fun h => kf h p l e s m args below meth c D q H0 C H locs ls HW HC HL)

theorem z_if_le {x : Int32} (hi : zBr M pc (.ifCond .le) tgt pc') (kt : x ≤ 0 → zEV M R Z tgt lo st N w k n) (kf : ¬ x ≤ 0 → zEV M R Z pc' lo st N w k n) : zEV M R Z pc lo (.int x :: st) N w k n := by
  intro p l e s m args below meth c D q H0 C H locs ls HW HC HL
  obtain ⟨off, hd, ht, rfl⟩ := hi
  exact lv_if_le C.1 C.2.1 hd ht (fun h => kt h p l e s m args below meth c D q H0 C H locs ls HW HC HL) (fun h => kf h p l e s m args below meth c D q H0 C H locs ls HW HC HL)

end ZR
end
section
section ZHP
variable {M : zM} {R : Room} {Z : zZt} {pc pc' tgt : Nat} {lo : List (Option Value)} {st : List Value} {N : Nat} {w : zH} {k n : Nat}
theorem zK_moved {D : zG} {q : Nat → Nat} {H0 : Heap} {s U : State} (hW : s.WarmedH U.vm) (h : zK D q H0 s) : zK D q H0 U := by
  obtain ⟨h1, h2, h3, h4, h5, h6, h7, h8, h9⟩ := h
  refine ⟨fun c r hr => u_Kn_moved hW.alike (h1 c r hr), fun t ty ht => ⟨arrOfT_moved hW.alike (h2 t ty ht).1, (h2 t ty ht).2.moved hW.alike⟩, h3, h4, h5.moved hW.alike, h6.moved hW.alike, h7.moved hW.alike, fun wd hwd => ?_, h9.moved hW.alike⟩
  have hz := h8 wd hwd
  simp only [zNest, List.mem_cons, List.not_mem_nil, or_false] at hwd
  rcases hwd with rfl | rfl | rfl | rfl | rfl <;> exact va_Nw.warmM hW hz
theorem zK_same {D : zG} {q : Nat → Nat} {H0 : Heap} {s U : State} (hv : s.vm = U.vm) (h : zK D q H0 s) : zK D q H0 U := by
  obtain ⟨h1, h2, h3, h4, h5, h6, h7, h8, h9⟩ := h
  have ha : s.vm.Alike U.vm := by rw [hv]; exact Vm.Alike.refl U.vm
  refine ⟨fun c r hr => u_Kn_moved ha (h1 c r hr), fun t ty ht => ⟨arrOfT_moved ha (h2 t ty ht).1, (h2 t ty ht).2.moved ha⟩, h3, h4, h5.moved ha, h6.moved ha, h7.moved ha, fun wd hwd => ?_, h9.moved ha⟩
  have hz := h8 wd hwd
  simp only [zNest, List.mem_cons, List.not_mem_nil, or_false] at hwd
  rcases hwd with rfl | rfl | rfl | rfl | rfl <;> exact va_Nw.same rfl hv hz
/-- a write to a cell of the world -/
theorem zW_set {D : zG} {q : Nat → Nat} {H0 H H1 : Heap} {a : Nat} {x : zc} (hq : zqo q) (h : zW D q H0 N w H) (ha : 2 ≤ a) (hx : zok D q (q a) x H1) (hz : H1.size = H.size) (ho : ∀ b, b ≠ q a → H1[b]? = H[b]?) : zW D q H0 N (va_up w a x) H1 := by
  obtain ⟨h1, h2, h3, h4, h5⟩ := h
  have ha0 : ¬ 0 = a := by omega
  refine ⟨h1, hz.trans h2, fun j hj hjN => ?_, fun b hb => ?_, by simp only [va_up, ha0, if_false]; exact h5⟩
  · by_cases hja : j = a
    · subst hja
      simpa [va_up] using hx
    · simp only [va_up, hja, if_false]
      exact (h3 j hj hjN).kept (ho _ (zqo_ne hq ha hja))
  · have := zqo_ge hq ha
    rw [ho b (by omega)]
    exact h4 b hb
theorem zLc_put {q : Nat → Nat} {locs : List Loc} {a f : Nat} (hq : zqo q) (ha : 2 ≤ a) (h : zLc q locs) : zLc q (locs ++ [⟨q a, f⟩]) := by
  intro x hx
  rcases List.mem_append.mp hx with hx | hx
  · exact h x hx
  · simp at hx
    subst hx
    have := zqo_ge hq ha
    show q 2 ≤ q a
    omega
/-- the field f of the kind ci, as own's pool names it at idx -/
def zFl (own : String) (idx ci f : Nat) : Prop := ∃ r : vw_C, vwCl[ci]? = some r ∧ f < r.2.2 ∧ ci < 1000 ∧ Cond.fieldLink own idx (r.2.1 f).1 (r.2.1 f).2.1 (r.2.1 f).2.2.1 ∈ zT ∧ ∀ wd ∈ u_ws r.1 r.2.1 r.2.2, wd ∈ zT
theorem z_get {idx ci f a len : Nat} {g : Nat → Value} (hi : zIs M pc (.getfield idx) 3 pc') (hf : zFl M.1.cls idx ci f) (hw : w a = (ci, len, g)) (ha : 2 ≤ a) (haN : a < N) (kk : zEV M R Z pc' lo (g f :: st) N w k n) : zEV M R Z pc lo (.ref a :: st) N w k n := by
  intro p l e s m args below meth c D q H0 C H locs ls HW HC HL
  obtain ⟨hd, rfl⟩ := hi
  obtain ⟨r, hr, hfN, hc1, hlink, hin⟩ := hf
  have hc := (HW.2.2.1 a ha haN).1 (by rw [hw]; exact hc1)
  rw [hw] at hc
  obtain ⟨r', hr', cell, q1, q2, q3, q4⟩ := hc
  have er : r' = r := Option.some.inj (hr'.symm.trans hr)
  subst er
  have hK := C.2.2.2.2.2.2.2.2
  obtain ⟨hS, hfc, kC, hkC, hkind⟩ := hK.1 ci _ hr
  obtain ⟨cf, kf, fi, fd, hfi, hsl⟩ := hS f hfN
  have hts : ∀ wd ∈ zT, wd.before args s = true := fun wd h => zT_use C h
  refine W.getf (v := zv q (g f)) C.1 C.2.1 C.2.2.2.2.1 (zT_use C hlink) hfi (u_facts hfc hkC (u_lays hts hin hfN) hfi).1 q1 (by rw [q3]; exact fun h => by cases h) ?_ rfl rfl hd (kk p l e s m args below meth c D q H0 C H locs ls HW HC HL)
  rw [hsl]
  exact q4 f hfN
/-- what the names of fields and their kinds say -/
theorem z_names : ∀ (ci : Nat) (r : vw_C), vwCl[ci]? = some r → (∃ ty0 : Nat → FieldType, ∀ j, j < r.2.2 → parseFieldDescriptor (r.2.1 j).2.2.1 = some (ty0 j)) ∧ ∀ a, a < r.2.2 → ∀ b, b < r.2.2 → a ≠ b → (r.2.1 a).2.1 ≠ (r.2.1 b).2.1 := by
  intro ci r h
  match ci, h with
  | 0, h => cases h; exact ⟨⟨tyX0, tyX0_ok⟩, nmX0⟩
  | 1, h => cases h; exact ⟨⟨tyX1, tyX1_ok⟩, nmX1⟩
  | 2, h => cases h; exact ⟨⟨tyX2, tyX2_ok⟩, nmX2⟩
  | 3, h => cases h; exact ⟨⟨tyX3, tyX3_ok⟩, nmX3⟩
  | 4, h => cases h; exact ⟨⟨tyX4, tyX4_ok⟩, nmX4⟩
  | 5, h => cases h; exact ⟨⟨tyX5, tyX5_ok⟩, nmX5⟩
  | 6, h => cases h; exact ⟨⟨tyX6, tyX6_ok⟩, nmX6⟩
  | 7, h => cases h; exact ⟨⟨tyX7, tyX7_ok⟩, nmX7⟩
  | 8, h => cases h; exact ⟨⟨tyX8, tyX8_ok⟩, nmX8⟩
  | j + 9, h => simp [vwCl] at h
theorem z_apart {args : Array Value} {s : State} {D : zG} {q : Nat → Nat} {H0 : Heap} (hts : ∀ wd ∈ zT, wd.before args s = true) (hK : zK D q H0 s) {ci : Nat} {r : vw_C} (hr : vwCl[ci]? = some r) (hin : ∀ wd ∈ u_ws r.1 r.2.1 r.2.2, wd ∈ zT) : ∀ a b, a < r.2.2 → b < r.2.2 → a ≠ b → D.2.1 ci a ≠ D.2.1 ci b := by
  obtain ⟨⟨ty0, hty⟩, hnm⟩ := z_names ci r hr
  intro x y hx hy hne
  obtain ⟨hS, -⟩ := hK.1 ci _ hr
  obtain ⟨_, _, _, fa, hia, ea⟩ := hS x hx
  obtain ⟨_, _, _, fb, hib, eb⟩ := hS y hy
  rw [← ea, ← eb]
  refine u_apart (u_lays hts hin hx) (u_lays hts hin hy) hia hib ?_
  rw [(State.fieldFound?_type hia (hty x hx)).1, (State.fieldFound?_type hib (hty y hy)).1]
  exact hnm x hx y hy hne
/-- the field may be written: its type, and that it isn't final -/
def zFw (ci f : Nat) (ty : FieldType) : Prop := ∃ r : vw_C, vwCl[ci]? = some r ∧ (r.2.1 f).2.2.2 = false ∧ parseFieldDescriptor (r.2.1 f).2.2.1 = some ty
def zFf (own : String) (ci f : Nat) (ty : FieldType) : Prop := ∃ r : vw_C, vwCl[ci]? = some r ∧ (r.2.1 f).2.2.2 = true ∧ (r.2.1 f).1 = own ∧ parseFieldDescriptor (r.2.1 f).2.2.1 = some ty
theorem updV_zv (q : Nat → Nat) (g : Nat → Value) (f : Nat) (v : Value) : updV (fun j => zv q (g j)) f (zv q v) = fun j => zv q (updV g f v j) := by
  funext j
  simp only [updV]
  split <;> rfl
theorem z_put {idx ci f a len : Nat} {g : Nat → Value} {v : Value} {ty : FieldType} (hi : zIs M pc (.putfield idx) 3 pc') (hf : zFl M.1.cls idx ci f) (hfw : zFw ci f ty) (hn : ∀ q, narrow ty (zv q v) = zv q v) (hfit : ∀ q, fits ty (zv q v) = true) (hw : w a = (ci, len, g)) (ha : 2 ≤ a) (haN : a < N) (kk : zEV M R Z pc' lo st N (va_up w a (ci, len, updV g f v)) k n) : zEV M R Z pc lo (v :: .ref a :: st) N w k n := by
  intro p l e s m args below meth c D q H0 C H locs ls HW HC HL
  obtain ⟨hd, rfl⟩ := hi
  obtain ⟨r, hr, hfN, hc1, hlink, hin⟩ := hf
  obtain ⟨r2, hr2, hfin, hdesc⟩ := hfw
  have er2 : r2 = r := Option.some.inj (hr2.symm.trans hr)
  subst er2
  have hc := (HW.2.2.1 a ha haN).1 (by rw [hw]; exact hc1)
  rw [hw] at hc
  obtain ⟨r', hr', cell, q1, q2, q3, q4⟩ := hc
  have er : r' = r2 := Option.some.inj (hr'.symm.trans hr)
  subst er
  have hK := C.2.2.2.2.2.2.2.2
  have hts : ∀ wd ∈ zT, wd.before args s = true := fun wd h => zT_use C h
  have hap := z_apart hts hK hr hin
  obtain ⟨hS, hfc, kC, hkC, hkind⟩ := hK.1 ci _ hr
  obtain ⟨cf, kf, fi, fd, hfi, hsl⟩ := hS f hfN
  have hlay := hts _ (hin _ (u_in_lay hfN))
  unfold u_lay at hlay
  rw [if_neg (by rw [hfin]; decide)] at hlay
  have hst := (u_facts hfc hkC (u_lays hts hin hfN) hfi).1
  have h6 := u_store hfc hkC hkind hlay hfi hdesc (hn q) (hfit q)
  refine W.putK C.1 C.2.1 (f := fd) ⟨C.2.2.2.2.1, zT_use C hlink, ⟨_, _, _, hfi⟩, hst⟩ (by rw [q2]; exact h6) q1 q3 (by rw [hsl]; exact k2_hasslot (q4 f hfN)) rfl rfl hd fun H' e1 e2 e3 => ?_
  refine kk p l e s m args below meth c D q H0 C H' _ ls (zW_set hK.2.2.1 HW ha ⟨fun _ => ⟨_, hr, ?_⟩, fun h9 => absurd h9 (by show ¬ 1000 ≤ ci; omega)⟩ e2 e3) (zLc_put hK.2.2.1 ha HC) HL
  show t_OB (q a) (D.1 ci) r'.2.2 (D.2.1 ci) H' (fun j => zv q (updV g f v j))
  rw [← updV_zv]
  rw [hsl] at e1
  exact ⟨_, e1, q2, q3, t_set q4 hap hfN (zv q v)⟩
theorem z_putF {idx ci f a len : Nat} {g : Nat → Value} {v : Value} {ty : FieldType} (hi : zIs M pc (.putfield idx) 3 pc') (hf : zFl M.1.cls idx ci f) (hfw : zFf M.1.cls ci f ty) (hnm : M.1.name = "<init>") (hn : ∀ q, narrow ty (zv q v) = zv q v) (hfit : ∀ q, fits ty (zv q v) = true) (hw : w a = (ci, len, g)) (ha : 2 ≤ a) (haN : a < N) (kk : zEV M R Z pc' lo st N (va_up w a (ci, len, updV g f v)) k n) : zEV M R Z pc lo (v :: .ref a :: st) N w k n := by
  intro p l e s m args below meth c D q H0 C H locs ls HW HC HL
  obtain ⟨hd, rfl⟩ := hi
  obtain ⟨r, hr, hfN, hc1, hlink, hin⟩ := hf
  obtain ⟨r2, hr2, hfin, hdecl, hdesc⟩ := hfw
  have er2 : r2 = r := Option.some.inj (hr2.symm.trans hr)
  subst er2
  have hc := (HW.2.2.1 a ha haN).1 (by rw [hw]; exact hc1)
  rw [hw] at hc
  obtain ⟨r', hr', cell, q1, q2, q3, q4⟩ := hc
  have er : r' = r2 := Option.some.inj (hr'.symm.trans hr)
  subst er
  have hK := C.2.2.2.2.2.2.2.2
  have hts : ∀ wd ∈ zT, wd.before args s = true := fun wd h => zT_use C h
  have hap := z_apart hts hK hr hin
  obtain ⟨hS, hfc, kC, hkC, hkind⟩ := hK.1 ci _ hr
  obtain ⟨cf, kf, fi, fd, hfi, hsl⟩ := hS f hfN
  have hlay := hts _ (hin _ (u_in_lay hfN))
  unfold u_lay at hlay
  rw [if_pos hfin] at hlay
  have hst := (u_facts hfc hkC (u_lays hts hin hfN) hfi).1
  have hcf : m.cls = cf := by
    obtain ⟨_, _, c', _, _, _, -, -, hf', -, -, -, hown2, -⟩ := Cond.laysFinal_spec hlay
    have e1 : c' = cf := by have := hfi.symm.trans hf'; simp at this; exact this.1.symm
    rw [hdecl] at hown2
    rw [← e1]; exact Option.some.inj (C.2.2.2.2.1.symm.trans hown2)
  have h6 := u_fits hfc hkC hkind (Or.inr hlay) hfi hdesc (hn q) (hfit q)
  refine W.putFinK C.1 C.2.1 C.2.2.2.2.1 (zT_use C hlink) hfi hst hcf (C.2.2.2.2.2.2.2.1.trans hnm) (by rw [q2]; exact h6) q1 q3 (by rw [hsl]; exact k2_hasslot (q4 f hfN)) rfl rfl hd fun H' e1 e2 e3 => ?_
  refine kk p l e s m args below meth c D q H0 C H' _ ls (zW_set hK.2.2.1 HW ha ⟨fun _ => ⟨_, hr, ?_⟩, fun h9 => absurd h9 (by show ¬ 1000 ≤ ci; omega)⟩ e2 e3) (zLc_put hK.2.2.1 ha HC) HL
  show t_OB (q a) (D.1 ci) r'.2.2 (D.2.1 ci) H' (fun j => zv q (updV g f v j))
  rw [← updV_zv]
  rw [hsl] at e1
  exact ⟨_, e1, q2, q3, t_set q4 hap hfN (zv q v)⟩
theorem z_arr {D : zG} {q : Nat → Nat} {H0 H : Heap} {a t len : Nat} {g : Nat → Value} (HW : zW D q H0 N w H) (hw : w a = (1000 + t, len, g)) (ha : 2 ≤ a) (haN : a < N) : H[q a]? = some (arrV (D.2.2.1 t) len (fun j => zv q (g j))) := by
  have hc := (HW.2.2.1 a ha haN).2 (by rw [hw]; exact Nat.le_add_right _ _)
  rw [hw] at hc
  simpa [Nat.add_sub_cancel_left] using hc
theorem zok_arr {D : zG} {q : Nat → Nat} {H : Heap} {a t len : Nat} {g : Nat → Value} (h : H[a]? = some (arrV (D.2.2.1 t) len (fun j => zv q (g j)))) : zok D q a (1000 + t, len, g) H := by
  refine ⟨fun h9 => absurd h9 (Nat.not_lt.mpr (Nat.le_add_right _ _)), fun _ => ?_⟩
  simp only [Nat.add_sub_cancel_left]
  exact h
theorem z_iald {a len : Nat} {g : Nat → Value} {i : Int32} (hi : zIs M pc .iaload 1 pc') (hw : w a = (1000 + 0, len, g)) (ha : 2 ≤ a) (haN : a < N) (hin : vp_in i len) (kk : zEV M R Z pc' lo (g i.toNatClampNeg :: st) N w k n) : zEV M R Z pc lo (.int i :: .ref a :: st) N w k n := by
  intro p l e s m args below meth c D q H0 C H locs ls HW HC HL
  obtain ⟨hd, rfl⟩ := hi
  have hlt : i.toNatClampNeg < len := Nat.not_le.mp fun q => hin (Or.inr q)
  have hA := (C.2.2.2.2.2.2.2.2).2.1 0 .int rfl
  exact W.iald (v := zv q (g i.toNatClampNeg)) C.1 C.2.1 (z_arr HW hw ha haN) (hA.1 _ _) (fun q => by cases q) (by rw [arrV_size]; exact hin) (by rw [arrV_read _ _ hlt]) rfl rfl hd (kk p l e s m args below meth c D q H0 C H locs ls HW HC HL)
theorem z_bald {a len : Nat} {g : Nat → Value} {i : Int32} (hi : zIs M pc .baload 1 pc') (hw : w a = (1000 + 1, len, g)) (ha : 2 ≤ a) (haN : a < N) (hin : vp_in i len) (kk : zEV M R Z pc' lo (g i.toNatClampNeg :: st) N w k n) : zEV M R Z pc lo (.int i :: .ref a :: st) N w k n := by
  intro p l e s m args below meth c D q H0 C H locs ls HW HC HL
  obtain ⟨hd, rfl⟩ := hi
  have hlt : i.toNatClampNeg < len := Nat.not_le.mp fun q => hin (Or.inr q)
  have hA := (C.2.2.2.2.2.2.2.2).2.1 1 .boolean rfl
  exact W.zald (v := zv q (g i.toNatClampNeg)) C.1 C.2.1 (z_arr HW hw ha haN) (hA.1 _ _) (fun q => by cases q) (by rw [arrV_size]; exact hin) (by rw [arrV_read _ _ hlt]) rfl rfl hd (kk p l e s m args below meth c D q H0 C H locs ls HW HC HL)
theorem z_aald {a len : Nat} {g : Nat → Value} {i : Int32} (hi : zIs M pc .aaload 1 pc') (hw : w a = (1000 + 2, len, g)) (ha : 2 ≤ a) (haN : a < N) (hin : vp_in i len) (kk : zEV M R Z pc' lo (g i.toNatClampNeg :: st) N w k n) : zEV M R Z pc lo (.int i :: .ref a :: st) N w k n := by
  intro p l e s m args below meth c D q H0 C H locs ls HW HC HL
  obtain ⟨hd, rfl⟩ := hi
  have hlt : i.toNatClampNeg < len := Nat.not_le.mp fun q => hin (Or.inr q)
  have hA := (C.2.2.2.2.2.2.2.2).2.1 2 (.object RX4) rfl
  exact W.aald (v := zv q (g i.toNatClampNeg)) C.1 C.2.1 (z_arr HW hw ha haN) (hA.1 _ _) rfl (fun q => by cases q) (by rw [arrV_size]; exact hin) (by rw [arrV_read _ _ hlt]) rfl rfl hd (kk p l e s m args below meth c D q H0 C H locs ls HW HC HL)
theorem z_iast {a len : Nat} {g : Nat → Value} {i x : Int32} (hi : zIs M pc .iastore 1 pc') (hw : w a = (1000 + 0, len, g)) (ha : 2 ≤ a) (haN : a < N) (hin : vp_in i len) (kk : zEV M R Z pc' lo st N (va_up w a (1000 + 0, len, updV g i.toNatClampNeg (.int x))) k n) : zEV M R Z pc lo (.int x :: .int i :: .ref a :: st) N w k n := by
  intro p l e s m args below meth c D q H0 C H locs ls HW HC HL
  obtain ⟨hd, rfl⟩ := hi
  have hK := C.2.2.2.2.2.2.2.2
  have hA := hK.2.1 0 .int rfl
  refine W.iast (x := x) C.1 C.2.1 (z_arr HW hw ha haN) (hA.1 _ _) (fun q => by cases q) (by rw [arrV_size]; exact hin) rfl rfl hd fun H1 e1 z1 oq => ?_
  refine kk p l e s m args below meth c D q H0 C H1 _ ls (zW_set hK.2.2.1 HW ha (zok_arr ?_) z1 oq) (zLc_put hK.2.2.1 ha HC) HL
  rw [← updV_zv, e1, arrV_store]
  rfl
theorem z_bast {a len : Nat} {g : Nat → Value} {i x : Int32} (hi : zIs M pc .bastore 1 pc') (hw : w a = (1000 + 1, len, g)) (ha : 2 ≤ a) (haN : a < N) (hin : vp_in i len) (hx : x = 0 ∨ x = 1) (kk : zEV M R Z pc' lo st N (va_up w a (1000 + 1, len, updV g i.toNatClampNeg (.int x))) k n) : zEV M R Z pc lo (.int x :: .int i :: .ref a :: st) N w k n := by
  intro p l e s m args below meth c D q H0 C H locs ls HW HC HL
  obtain ⟨hd, rfl⟩ := hi
  have hK := C.2.2.2.2.2.2.2.2
  have hA := hK.2.1 1 .boolean rfl
  refine W.zast (x := x) C.1 C.2.1 (z_arr HW hw ha haN) (hA.1 _ _) (fun q => by cases q) (by rw [arrV_size]; exact hin) rfl rfl hd fun H1 e1 z1 oq => ?_
  refine kk p l e s m args below meth c D q H0 C H1 _ ls (zW_set hK.2.2.1 HW ha (zok_arr ?_) z1 oq) (zLc_put hK.2.2.1 ha HC) HL
  have hnx : narrow .boolean (.int x) = .int x := by rcases hx with rfl | rfl <;> rfl
  rw [hnx] at e1
  rw [← updV_zv, e1, arrV_store]
  rfl
theorem z_kald {i : Int32} (hi : zIs M pc .iaload 1 pc') (hin : vp_in i 12) (kk : zEV M R Z pc' lo (.int (zka i.toNatClampNeg) :: st) N w k n) : zEV M R Z pc lo (.int i :: .ref 1 :: st) N w k n := by
  intro p l e s m args below meth c D q H0 C H locs ls HW HC HL
  obtain ⟨hd, rfl⟩ := hi
  obtain ⟨-, -, hq, hq2, -, -, hX, -, -⟩ := C.2.2.2.2.2.2.2.2
  have hS : va_S (fun a => q 2 ≤ a) H0 H locs := ⟨by
    have h1 := HW.2.1
    have h2 := zqo_ge hq HW.1
    omega, fun b hb _ => HW.2.2.2.1 b (by omega), fun x hx => HC x hx⟩
  exact va_sld C.1 C.2.1 hX (by have := hq.2.1; omega) (Nat.not_le.mpr hq.2.1) hS hin hd (kk p l e s m args below meth c D q H0 C H locs ls HW HC HL)
theorem z_gets {idx : Nat} (hi : zIs M pc (.getstatic idx) 3 pc') (hl : Cond.fieldLink M.1.cls idx RX7 "KIND_ABOVE" "[I" ∈ zT) (kk : zEV M R Z pc' lo (.ref 1 :: st) N w k n) : zEV M R Z pc lo st N w k n := by
  intro p l e s m args below meth c D q H0 C H locs ls HW HC HL
  obtain ⟨hd, rfl⟩ := hi
  obtain ⟨-, -, hq, hq2, hZ, -, -, -, -⟩ := C.2.2.2.2.2.2.2.2
  obtain ⟨cf, kf, fi, f, a, cell, h1, h2, h3, h4, h5, h6, h7, h8⟩ := hZ
  exact W.gets (v := .ref (q 1)) C.1 C.2.1 C.2.2.2.2.1 (zT_use C hl) h1 h2 h3 h4 (by rw [HW.2.2.2.1 a (Nat.not_le.mp h8)]; exact h5) (fun e => by rw [e] at h6; cases h6) h7 rfl hd (kk p l e s m args below meth c D q H0 C H locs ls HW HC HL)
theorem zS_of {D : zG} {q : Nat → Nat} {H0 H : Heap} {locs : List Loc} (hq : zqo q) (hq2 : q 2 = H0.size) (HW : zW D q H0 N w H) (HC : zLc q locs) : va_S (fun a => q 2 ≤ a) H0 H locs := ⟨by
    have h1 := HW.2.1
    have h2 := zqo_ge hq HW.1
    omega, fun b hb _ => HW.2.2.2.1 b (by omega), fun x hx => HC x hx⟩
theorem z_sld {len t : Nat} {g : Nat → Value} {i : Int32} (hi : zIs M pc .iaload 1 pc') (hw : w 0 = (t, len, g)) (hin : vp_in i len) (kk : zEV M R Z pc' lo (g i.toNatClampNeg :: st) N w k n) : zEV M R Z pc lo (.int i :: .ref 0 :: st) N w k n := by
  intro p l e s m args below meth c D q H0 C H locs ls HW HC HL
  obtain ⟨hd, rfl⟩ := hi
  obtain ⟨-, -, hq, hq2, -, hX, -, -, -⟩ := C.2.2.2.2.2.2.2.2
  have e1 := HW.2.2.2.2.1
  have e2 := HW.2.2.2.2.2 i.toNatClampNeg
  rw [hw] at e1 e2
  refine va_sld C.1 C.2.1 hX (by have := hq.1; omega) (Nat.not_le.mpr hq.1) (zS_of hq hq2 HW HC) (by rw [← e1]; exact hin) hd ?_
  have K := kk p l e s m args below meth c D q H0 C H locs ls HW HC HL
  have e3 : g i.toNatClampNeg = .int (D.2.2.2.2 i.toNatClampNeg) := e2
  rw [e3] at K
  exact K
theorem z_slen {len t : Nat} {g : Nat → Value} (hi : zIs M pc .arraylength 1 pc') (hw : w 0 = (t, len, g)) (kk : zEV M R Z pc' lo (.int (Int32.ofNat len) :: st) N w k n) : zEV M R Z pc lo (.ref 0 :: st) N w k n := by
  intro p l e s m args below meth c D q H0 C H locs ls HW HC HL
  obtain ⟨hd, rfl⟩ := hi
  obtain ⟨-, -, hq, hq2, -, hX, -, -, -⟩ := C.2.2.2.2.2.2.2.2
  have e1 := HW.2.2.2.2.1
  rw [hw] at e1
  refine va_slen C.1 C.2.1 hX (by have := hq.1; omega) (Nat.not_le.mpr hq.1) (zS_of hq hq2 HW HC) hd ?_
  have K := kk p l e s m args below meth c D q H0 C H locs ls HW HC HL
  have e3 : len = D.2.2.2.1 := e1
  rw [e3] at K
  exact K
end ZHP
end
section
section ZCL
variable {M M' : zM} {R : Room} {Z : zZt} {pc pc' tgt : Nat} {lo : List (Option Value)} {st rest As : List Value} {N : Nat} {w : zH} {k n mc ms d : Nat} {Q' : zQ}
theorem zT_good : GoodIn (zws M) zT := fun wd h => ⟨List.mem_cons_of_mem _ h, good_of_word (List.mem_filter.mp h).2⟩
/-- what the tables say of a call of M' -/
def zCn (M' : zM) (ar : Nat) : Prop := Cond.code M'.1 M'.2.1 M'.2.2.1 M'.2.2.2 ∈ zT ∧ Cond.initialized M'.1.cls ∈ zT ∧ M'.1.cls ≠ "java/lang/invoke/MethodHandle" ∧ M'.1.cls ≠ "java/lang/invoke/VarHandle" ∧ (parseMethodDescriptor M'.1.desc).map (fun x => x.parameters.length) = some ar
theorem zws_good (h : Cond.code M'.1 M'.2.1 M'.2.2.1 M'.2.2.2 ∈ zT) : GoodIn (zws M) (zws M') := fun wd hw => (List.mem_cons.mp hw).elim (fun e => by subst e; exact zT_good _ h) (fun h2 => zT_good wd h2)
theorem zB_of {p : Program} {s : State} {m : MethodId} {args : Array Value} {meth : Method} {c : Code} {D : zG} {q : Nat → Nat} {H0 : Heap} {ar idx : Nat} (C : zCx M p s m args meth c D q H0) (hc : zCn M' ar) (hl : Cond.methodLink M.1.cls idx M'.1 ∈ zT) (hR : d + 1 ≤ R.frames ∧ 8 + (M'.2.2.1 + 11) + 36 * d ≤ R.locals) :
    CallB R s args M.1.cls idx M'.1 M'.2.1 M'.2.2.1 M'.2.2.2 (zws M') (zrm d mc ms) mc ms ar :=
  callB_of ar C.2.2.2.2.2.1 (zws_good hc.1) rfl rfl rfl (zT_use C hc.2.1) (zT_use C hl) hc.2.2 hR
theorem zPc_pre {s : State} {D : zG} {q : Nat → Nat} {H0 H : Heap} (hK : zK D q H0 s) (HW : zW D q H0 N w H) :
    FrameBlind (va_Pc (As.map (zv q)) (fun U => zW D q H0 N w U.heap ∧ zK D q H0 U)) ∧ ∀ U : State, U.heap = H → s.WarmedH U.vm → va_Pc (As.map (zv q)) (fun U => zW D q H0 N w U.heap ∧ zK D q H0 U) (As.map (zv q)).toArray U := by
  refine ⟨fun a U g mk h => ⟨h.1, h.2.1, ?_⟩, fun U hU hWm => ⟨rfl, by rw [hU]; exact HW, zK_moved hWm hK⟩⟩
  exact zK_same (s := U) (U := U.calling g mk a) rfl h.2.2
/-- behind a call -/
theorem z_after {p : Program} {l : Launch} {e : Env} {s : State} {m : MethodId} {args : Array Value} {below : List Frame} {meth : Method} {c : Code} {D : zG} {q : Nat → Nat} {H0 : Heap} {H : Heap} {locs : List Loc} {ls : Array Slot} {a : Array Value}
    (C : zCx M p s m args meth c D q H0) (HC : zLc q locs) (HL : zL q M.2.2.1 lo ls)
    (hr : va_Run p l e R s m args below meth c H locs k n mc ms (F0 m pc ls (st.map (zv q))) (rest.map (zv q)) (zPo D q H0 Q' a) (fun x => q 2 ≤ x))
    (kk : ∀ (r : Option Value) (N' : Nat) (w' : zH), Q' r N' w' → zEV M R Z (pc + 3) lo (r.toList ++ rest) N' w' (k + mc) (n + ms)) :
    W p l e R s m args below meth c H locs k n (Z below args s D q H0) (F0 m pc ls (st.map (zv q))) := by
  intro T hT X
  obtain ⟨v, st₀, t, T', L, h0, X', hL, e1, e2, ⟨r, N', w', hQ, hv, hW'⟩, hgo⟩ := hr T hT X
  have hv2 : v = r.map (zv q) := by
    have := Outcome.returned.inj hv
    exact this
  subst hv2
  have K := kk r N' w' hQ p l e s m args below meth c D q H0 C t.heap (locs ++ L) ls hW' (fun x hx => (List.mem_append.mp hx).elim (HC x) (hL x)) HL
  obtain ⟨t2, a1, b1⟩ := K T' e1 X'
  refine ⟨t2, hgo t2 ?_, b1⟩
  have es : (Option.map (zv q) r).toList ++ rest.map (zv q) = (r.toList ++ rest).map (zv q) := by cases r <;> simp
  show Steps p.tables e below (T'.setTop { F0 m pc ls (st.map (zv q)) with pc := pc + 3, stack := (Option.map (zv q) r).toList ++ rest.map (zv q) }) t2
  rw [es]
  exact a1
theorem z_catsum {q : Nat → Nat} (h : (rest.map fun v => v.category).sum ≤ 8) : ((rest.map (zv q)).map fun v => v.category).sum ≤ 8 := by
  rw [List.map_map]
  have e : (fun v => Value.category v) ∘ zv q = fun v => v.category := by funext v; exact zv_cat q v
  rw [e]
  exact h
theorem z_recv {s : State} {D : zG} {q : Nat → Nat} {H0 H : Heap} {b ci len : Nat} {g : Nat → Value} {C : String} (hK : zK D q H0 s) (HW : zW D q H0 N w H) (hw : w b = (ci, len, g)) (hb : 2 ≤ b) (hbN : b < N) (hci : ci < 1000) (hC : ∃ r : vw_C, vwCl[ci]? = some r ∧ r.1 = C) :
    ∃ cellB : Cell, H[q b]? = some cellB ∧ cellB.vm.isStatics = false ∧ s.vm.findClass C = some cellB.cls := by
  obtain ⟨r, hr, rfl⟩ := hC
  have hc := (HW.2.2.1 b hb hbN).1 (by rw [hw]; exact hci)
  rw [hw] at hc
  obtain ⟨r', hr', cell, q1, q2, q3, q4⟩ := hc
  exact ⟨cell, q1, by rw [q3]; rfl, by rw [q2]; exact (hK.1 ci r hr).2.1⟩
/-- invokevirtual of a method of the receiver's own kind -/
def zCv (own : String) (idx : Nat) (M' : zM) (ar ci : Nat) : Prop := zCn M' ar ∧ Cond.methodLink own idx M'.1 ∈ zT ∧ Cond.instanceMethod M'.1 ∈ zT ∧ Cond.selects M'.1.cls M'.1 M'.1 ∈ zT ∧ ci < 1000 ∧ ∃ r : vw_C, vwCl[ci]? = some r ∧ r.1 = M'.1.cls
theorem z_callV {idx ar ci b len : Nat} {g : Nat → Value} (hi : zIs M pc (.invokevirtual idx) 3 pc') (hc : zCv M.1.cls idx M' ar ci) (hM : zMt M' d mc ms (.ref b :: As) N w Q') (hn : As.length = ar) (hst : As.reverse ++ .ref b :: rest = st) (hw : w b = (ci, len, g)) (hb : 2 ≤ b) (hbN : b < N)
    (hR : d + 1 ≤ R.frames ∧ 8 + (M'.2.2.1 + 11) + 36 * d ≤ R.locals) (hf : k + mc ≤ R.cells ∧ n + ms ≤ R.slots) (hcat : (rest.map fun v => v.category).sum ≤ 8)
    (kk : ∀ (r : Option Value) (N' : Nat) (w' : zH), Q' r N' w' → zEV M R Z pc' lo (r.toList ++ rest) N' w' (k + mc) (n + ms)) : zEV M R Z pc lo st N w k n := by
  intro p l e s m args below meth c D q H0 C H locs ls HW HC HL
  obtain ⟨hd, rfl⟩ := hi
  obtain ⟨hc1, hl, hin, hsel, hci, hC⟩ := hc
  have hK := C.2.2.2.2.2.2.2.2
  have hp := zPc_pre (As := .ref b :: As) hK HW
  subst hst
  refine z_after (rest := rest) C HC HL (va_runV (As := As.map (zv q)) (b := q b) ⟨C.1, C.2.1, C.2.2.2.1, C.2.2.2.2.1, C.2.2.2.2.2.1⟩ (hM l D q H0) ⟨zB_of C hc1 hl hR, zT_use C hin, zT_use C hsel⟩ ⟨hp.1, z_recv hK HW hw hb hbN hci hC, hp.2⟩ rfl (by rw [List.length_map]; exact hn) HL.1 ?_ (lv_room (z_catsum hcat)) hd hf) kk
  show List.map (zv q) (As.reverse ++ .ref b :: rest) = _
  simp [zv]
def zCs (own : String) (idx : Nat) (M' : zM) (ar : Nat) : Prop := zCn M' ar ∧ Cond.methodLink own idx M'.1 ∈ zT ∧ Cond.static M'.1 ∈ zT
theorem z_callS {idx ar : Nat} (hi : zIs M pc (.invokestatic idx) 3 pc') (hc : zCs M.1.cls idx M' ar) (hM : zMt M' d mc ms As N w Q') (hn : As.length = ar) (hst : As.reverse ++ rest = st)
    (hR : d + 1 ≤ R.frames ∧ 8 + (M'.2.2.1 + 11) + 36 * d ≤ R.locals) (hf : k + mc ≤ R.cells ∧ n + ms ≤ R.slots) (hcat : (rest.map fun v => v.category).sum ≤ 8)
    (kk : ∀ (r : Option Value) (N' : Nat) (w' : zH), Q' r N' w' → zEV M R Z pc' lo (r.toList ++ rest) N' w' (k + mc) (n + ms)) : zEV M R Z pc lo st N w k n := by
  intro p l e s m args below meth c D q H0 C H locs ls HW HC HL
  obtain ⟨hd, rfl⟩ := hi
  obtain ⟨hc1, hl, hin⟩ := hc
  have hK := C.2.2.2.2.2.2.2.2
  have hp := zPc_pre (As := As) hK HW
  subst hst
  refine z_after (rest := rest) C HC HL (va_runS (As := As.map (zv q)) ⟨C.1, C.2.1, C.2.2.2.1, C.2.2.2.2.1, C.2.2.2.2.2.1⟩ (hM l D q H0) ⟨zB_of C hc1 hl hR, zT_use C hin⟩ hp rfl (by rw [List.length_map]; exact hn) HL.1 ?_ (lv_room (z_catsum hcat)) hd hf) kk
  show List.map (zv q) (As.reverse ++ rest) = _
  simp
/-- a constructor's call -/
def zCi (own : String) (idx : Nat) (M' : zM) (ar : Nat) : Prop := zCn M' ar ∧ Cond.methodLink own idx M'.1 ∈ zT ∧ Cond.instanceMethod M'.1 ∈ zT ∧ M'.1.name = "<init>" ∧ M'.2.2.2 = none
theorem z_callI {idx ar b : Nat} (hi : zIs M pc (.invokespecial idx) 3 pc') (hc : zCi M.1.cls idx M' ar) (hM : zMt M' d mc ms (.ref b :: As) N w Q') (hn : As.length = ar) (hst : As.reverse ++ .ref b :: rest = st)
    (hR : d + 1 ≤ R.frames ∧ 8 + (M'.2.2.1 + 11) + 36 * d ≤ R.locals) (hf : k + mc ≤ R.cells ∧ n + ms ≤ R.slots) (hcat : (rest.map fun v => v.category).sum ≤ 8)
    (kk : ∀ (r : Option Value) (N' : Nat) (w' : zH), Q' r N' w' → zEV M R Z pc' lo (r.toList ++ rest) N' w' (k + mc) (n + ms)) : zEV M R Z pc lo st N w k n := by
  intro p l e s m args below meth c D q H0 C H locs ls HW HC HL
  obtain ⟨hd, rfl⟩ := hi
  obtain ⟨hc1, hl, hin, hnm, hret⟩ := hc
  have hK := C.2.2.2.2.2.2.2.2
  have hp := zPc_pre (As := .ref b :: As) hK HW
  have hB := zB_of (mc := mc) (ms := ms) C hc1 hl hR
  rw [hret] at hB
  subst hst
  refine z_after (rest := rest) C HC HL (va_runI (As := As.map (zv q)) (b := q b) ⟨C.1, C.2.1, C.2.2.2.1, C.2.2.2.2.1, C.2.2.2.2.2.1⟩ (hM l D q H0) ⟨hB, hnm, zT_use C hin⟩ hp rfl (by rw [List.length_map]; exact hn) HL.1 ?_ (lv_room (z_catsum hcat)) hd hf) kk
  show List.map (zv q) (As.reverse ++ .ref b :: rest) = _
  simp [zv]
/-- a constructor's call among nest mates -/
def zCj (own : String) (idx : Nat) (M' : zM) (ar : Nat) (host : String) : Prop := zCn M' ar ∧ Cond.methodLinkNest own idx M'.1 host ∈ zNest ∧ Cond.instanceMethod M'.1 ∈ zT ∧ M'.1.name = "<init>" ∧ M'.2.2.2 = none
theorem z_callJ {idx ar b : Nat} {host : String} (hi : zIs M pc (.invokespecial idx) 3 pc') (hc : zCj M.1.cls idx M' ar host) (hM : zMt M' d mc ms (.ref b :: As) N w Q') (hn : As.length = ar) (hst : As.reverse ++ .ref b :: rest = st)
    (hR : d + 1 ≤ R.frames ∧ 8 + (M'.2.2.1 + 11) + 36 * d ≤ R.locals) (hf : k + mc ≤ R.cells ∧ n + ms ≤ R.slots) (hcat : (rest.map fun v => v.category).sum ≤ 8)
    (kk : ∀ (r : Option Value) (N' : Nat) (w' : zH), Q' r N' w' → zEV M R Z pc' lo (r.toList ++ rest) N' w' (k + mc) (n + ms)) : zEV M R Z pc lo st N w k n := by
  intro p l e s m args below meth c D q H0 C H locs ls HW HC HL
  obtain ⟨hd, rfl⟩ := hi
  obtain ⟨hc1, hl, hin, hnm, hret⟩ := hc
  have hK := C.2.2.2.2.2.2.2.2
  have hp := zPc_pre (As := .ref b :: As) hK HW
  have hB := va_cnB (rm := zrm d mc ms) (R := R) (bytes := M'.2.1) (maxL := M'.2.2.1) (ret := M'.2.2.2) ar C.2.2.2.2.2.1 (zws_good hc1.1) rfl rfl rfl (hK.2.2.2.2.2.2.2.1 _ hl) (zT_use C hc1.2.1) hc1.2.2 hR
  rw [hret] at hB
  subst hst
  refine z_after (rest := rest) C HC HL (va_runIN (As := As.map (zv q)) (b := q b) ⟨C.1, C.2.1, C.2.2.2.1, C.2.2.2.2.1, C.2.2.2.2.2.1⟩ (hM l D q H0) ⟨hB, hnm, zT_use C hin⟩ hp rfl (by rw [List.length_map]; exact hn) HL.1 ?_ (lv_room (z_catsum hcat)) hd hf) kk
  show List.map (zv q) (As.reverse ++ .ref b :: rest) = _
  simp [zv]
theorem z_objInit {idx a : Nat} (hi : zIs M pc (.invokespecial idx) 3 pc') (hl : Cond.methodLink M.1.cls idx objectInit ∈ zT) (h1 : Cond.instanceMethod objectInit ∈ zT) (h2 : Cond.code objectInit ⟨#[0xb1]⟩ 1 none ∈ zT) (hR : 1 ≤ R.frames ∧ (rest.map fun v => v.category).sum + 12 ≤ R.locals) (kk : zEV M R Z pc' lo rest N w k n) : zEV M R Z pc lo (.ref a :: rest) N w k n := by
  intro p l e s m args below meth c D q H0 C H locs ls HW HC HL
  obtain ⟨hd, rfl⟩ := hi
  refine W.objInit (a := q a) (rest := rest.map (zv q)) C.1 C.2.1 C.2.2.2.2.1 (zT_use C hl) (zT_use C h1) (zT_use C h2) rfl (HL.1.trans C.2.2.2.1.symm) rfl hd hR.1 ?_ (kk p l e s m args below meth c D q H0 C H locs ls HW HC HL)
  have e : ((rest.map (zv q)).map fun v => v.category).sum = (rest.map fun v => v.category).sum := by
    rw [List.map_map]
    have e : (fun v => Value.category v) ∘ zv q = fun v => v.category := by funext v; exact zv_cat q v
    rw [e]
  show 2 * 0 + ((rest.map (zv q)).map fun v => v.category).sum + 12 ≤ R.locals
  rw [e]
  omega
/-! ends -/
theorem z_iret {Q : zQ} {v : Int32} (hi : zIs M pc .ireturn 1 pc') (hr : M.2.2.2 = some .int) (hQ : Q (some (.int v)) N w) (hk : k ≤ mc) (hn : n ≤ ms) : zEV M R (zZ mc ms Q) pc lo [.int v] N w k n := by
  intro p l e s m args below meth c D q H0 C H locs ls HW HC HL
  obtain ⟨hd, -⟩ := hi
  refine W.widen hk hn ?_
  exact W.iret C.1 C.2.1 (C.2.2.1.trans hr) (fun t ht _ => ⟨_, _, _, hQ, rfl, by rw [ht]; exact HW⟩) HC hd C.2.2.2.2.2.2.1
theorem z_bret {Q : zQ} {v : Int32} (hi : zIs M pc .ireturn 1 pc') (hr : M.2.2.2 = some .boolean) (hv : v = 0 ∨ v = 1) (hQ : Q (some (.int v)) N w) (hk : k ≤ mc) (hn : n ≤ ms) : zEV M R (zZ mc ms Q) pc lo [.int v] N w k n := by
  intro p l e s m args below meth c D q H0 C H locs ls HW HC HL
  obtain ⟨hd, -⟩ := hi
  refine W.widen hk hn ?_
  exact W.zret C.1 C.2.1 (C.2.2.1.trans hr) (by rcases hv with rfl | rfl <;> rfl) (fun t ht _ => ⟨_, _, _, hQ, rfl, by rw [ht]; exact HW⟩) HC hd C.2.2.2.2.2.2.1
theorem z_lret {Q : zQ} {v : Int64} (hi : zIs M pc .lreturn 1 pc') (hr : M.2.2.2 = some .long) (hQ : Q (some (.long v)) N w) (hk : k ≤ mc) (hn : n ≤ ms) : zEV M R (zZ mc ms Q) pc lo [.long v] N w k n := by
  intro p l e s m args below meth c D q H0 C H locs ls HW HC HL
  obtain ⟨hd, -⟩ := hi
  refine W.widen hk hn ?_
  exact W.lret C.1 C.2.1 (C.2.2.1.trans hr) (fun t ht _ => ⟨_, _, _, hQ, rfl, by rw [ht]; exact HW⟩) HC hd C.2.2.2.2.2.2.1
theorem z_vret {Q : zQ} (hi : zIs M pc .return_ 1 pc') (hr : M.2.2.2 = none) (hQ : Q none N w) (hk : k ≤ mc) (hn : n ≤ ms) : zEV M R (zZ mc ms Q) pc lo [] N w k n := by
  intro p l e s m args below meth c D q H0 C H locs ls HW HC HL
  obtain ⟨hd, -⟩ := hi
  refine W.widen hk hn ?_
  exact W.vret C.1 C.2.1 (C.2.2.1.trans hr) (fun t ht _ => ⟨_, _, _, hQ, rfl, by rw [ht]; exact HW⟩) HC hd C.2.2.2.2.2.2.1
theorem z_aret {Q : zQ} {a : Nat} {nm : String} (hi : zIs M pc .areturn 1 pc') (hr : M.2.2.2 = some (.object nm)) (hQ : Q (some (.ref a)) N w) (hk : k ≤ mc) (hn : n ≤ ms) : zEV M R (zZ mc ms Q) pc lo [.ref a] N w k n := by
  intro p l e s m args below meth c D q H0 C H locs ls HW HC HL
  obtain ⟨hd, -⟩ := hi
  refine W.widen hk hn ?_
  exact W.aret C.1 C.2.1 (C.2.2.1.trans hr) (Or.inl ⟨_, rfl⟩) (Or.inr ⟨_, rfl⟩) (fun t ht _ => ⟨_, _, _, hQ, rfl, by rw [ht]; exact HW⟩) HC hd C.2.2.2.2.2.2.1
/-! the entry -/
theorem zlo_args : ∀ (As : List Value) (q : Nat → Nat) (i j : Nat) (v : Value), (zlo As)[j]? = some (some v) → (i + j, zv q v) ∈ lv_args i (As.map (zv q))
  | [], q, i, j, v, h => by simp [zlo] at h
  | a :: r, q, i, j, v, h => by
    simp only [List.map_cons, lv_args, zv_cat]
    by_cases hc : a.category = 2
    · simp only [zlo, hc, if_true] at h ⊢
      match j, h with
      | 0, h => simp at h; subst h; exact List.mem_cons_self
      | 1, h => simp at h
      | j + 2, h =>
        simp at h
        have := zlo_args r q (i + 2) j v h
        rw [show i + 2 + j = i + (j + 2) by omega] at this
        exact List.mem_cons_of_mem _ this
    · simp only [zlo, hc, if_false] at h ⊢
      match j, h with
      | 0, h => simp at h; subst h; exact List.mem_cons_self
      | j + 1, h =>
        simp at h
        have := zlo_args r q (i + 1) j v h
        rw [show i + 1 + j = i + (j + 1) by omega] at this
        exact List.mem_cons_of_mem _ this
theorem zlo_len : ∀ (As : List Value) (q : Nat → Nat), (lg_sl (As.map (zv q))).length = (zlo As).length
  | [], q => rfl
  | a :: r, q => by
    have ih := zlo_len r q
    simp only [lg_sl, List.map_cons, List.flatMap_cons, List.length_append, zv_cat] at ih ⊢
    by_cases hc : a.category = 2
    · simp [hc, zlo, ih]; omega
    · simp [hc, zlo, ih]; omega
theorem zMt_of {Q : zQ} (hy : plainName M.1.cls = true) (hl : (zlo As).length ≤ M.2.2.1) (hlo : ∀ (i : Nat) (v : Value), lo[i]? = some (some v) → (zlo As)[i]? = some (some v)) (h : zEV M (zrm d mc ms) (zZ mc ms Q) 0 lo [] N w 0 0) : zMt M d mc ms As N w Q := by
  intro l D q H0
  refine Met.ofW (cc := M.2.1) (maxL := M.2.2.1) (ret := M.2.2.2) hy rfl ?_
  intro p e s m args below meth c s₁ B hml hv
  obtain ⟨hargs, HW, hK⟩ := hv
  subst hargs
  have hts := atoms_spec (ws := zws M) B.pre
  have hnm : meth.name = M.1.name := (name_of_methodNamed B.named B.method).1
  have hle := lv_entry (As.map (zv q)) (n := M.2.2.1) (by rw [zlo_len]; exact hl)
  rw [lg_entry_eq]
  exact h p l e s m _ below meth c D q H0 ⟨B.exec, B.bytes, B.returns, hml, findClass_of_methodNamed B.named, hts, B.notSynchronized, hnm, hK⟩ s.heap [] _ HW (fun x hx => by cases hx) ⟨hle.1, hle.2.1, fun i v hv => hle.2.2 (i, zv q v) (by
    have := zlo_args As q 0 i v (hlo i v hv)
    simpa using this)⟩
/-- a weaker end -/
theorem zMt_mono {Q Q2 : zQ} (h : zMt M d mc ms As N w Q) (hQ : ∀ r N w, Q r N w → Q2 r N w) : zMt M d mc ms As N w Q2 := by
  intro l D q H0 p e ha hc hk s m args below hf happ hP hfit
  obtain ⟨k, o, h1, h2, h3, h4⟩ := h l D q H0 p e ha hc hk s m args below hf happ hP hfit
  obtain ⟨⟨r, N', w', hq, h5, h6⟩, h7⟩ := h4
  exact ⟨k, o, h1, h2, h3, ⟨r, N', w', hQ r N' w' hq, h5, h6⟩, h7⟩
end ZCL
end
