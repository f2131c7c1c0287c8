section
-- ===== PART A: goes FIRST, ahead of the names: the tables' words, and 'selects' of the private methods out of them =====
/-- a private method of a class that the tables say can be made, by its rows of tables_1 -/
def lw_okq (q : MethodName × Nat) : Prop := (q.1.cls ≠ "java/lang/invoke/MethodHandle" ∧ q.1.cls ≠ "java/lang/invoke/VarHandle") ∧ Cond.instantiable q.1.cls q.2 ∈ tables_1 ∧ Cond.privateMethod q.1 ∈ tables_1 ∧ Cond.instanceMethod q.1 ∈ tables_1
theorem lw_p0 : lw_okq (⟨"JudgesLedger", "refusalOfEvent", "()I"⟩, 13) := ⟨⟨by decide +kernel, by decide +kernel⟩, List.mem_of_getElem? (i := 13) (by decide +kernel), List.mem_of_getElem? (i := 371) (by decide +kernel), List.mem_of_getElem? (i := 372) (by decide +kernel)⟩
theorem lw_p1 : lw_okq (⟨"JudgesLedger", "appendEvent", "(II)V"⟩, 13) := ⟨⟨by decide +kernel, by decide +kernel⟩, List.mem_of_getElem? (i := 13) (by decide +kernel), List.mem_of_getElem? (i := 375) (by decide +kernel), List.mem_of_getElem? (i := 376) (by decide +kernel)⟩
theorem lw_p2 : lw_okq (⟨"JudgesLedger", "innermost", "()LJudgesLedger$Scoring;"⟩, 13) := ⟨⟨by decide +kernel, by decide +kernel⟩, List.mem_of_getElem? (i := 13) (by decide +kernel), List.mem_of_getElem? (i := 379) (by decide +kernel), List.mem_of_getElem? (i := 380) (by decide +kernel)⟩
theorem lw_p3 : lw_okq (⟨"JudgesLedger$Sheet", "markIndex", "(II)I"⟩, 10) := ⟨⟨by decide +kernel, by decide +kernel⟩, List.mem_of_getElem? (i := 79) (by decide +kernel), List.mem_of_getElem? (i := 391) (by decide +kernel), List.mem_of_getElem? (i := 392) (by decide +kernel)⟩
theorem lw_p4 : lw_okq (⟨"JudgesLedger", "outcomeOf", "(I)I"⟩, 13) := ⟨⟨by decide +kernel, by decide +kernel⟩, List.mem_of_getElem? (i := 13) (by decide +kernel), List.mem_of_getElem? (i := 395) (by decide +kernel), List.mem_of_getElem? (i := 396) (by decide +kernel)⟩
theorem lw_p5 : lw_okq (⟨"JudgesLedger", "fail", "(II)I"⟩, 13) := ⟨⟨by decide +kernel, by decide +kernel⟩, List.mem_of_getElem? (i := 13) (by decide +kernel), List.mem_of_getElem? (i := 432) (by decide +kernel), List.mem_of_getElem? (i := 433) (by decide +kernel)⟩
theorem lw_p6 : lw_okq (⟨"JudgesLedger", "letGuardCatch", "(I)Z"⟩, 13) := ⟨⟨by decide +kernel, by decide +kernel⟩, List.mem_of_getElem? (i := 13) (by decide +kernel), List.mem_of_getElem? (i := 444) (by decide +kernel), List.mem_of_getElem? (i := 445) (by decide +kernel)⟩
theorem lw_p7 : lw_okq (⟨"JudgesLedger", "suppressUnder", "(I)V"⟩, 13) := ⟨⟨by decide +kernel, by decide +kernel⟩, List.mem_of_getElem? (i := 13) (by decide +kernel), List.mem_of_getElem? (i := 461) (by decide +kernel), List.mem_of_getElem? (i := 462) (by decide +kernel)⟩
theorem lw_p8 : lw_okq (⟨"JudgesLedger", "dropInnermost", "()V"⟩, 13) := ⟨⟨by decide +kernel, by decide +kernel⟩, List.mem_of_getElem? (i := 13) (by decide +kernel), List.mem_of_getElem? (i := 465) (by decide +kernel), List.mem_of_getElem? (i := 466) (by decide +kernel)⟩
theorem lw_p9 : lw_okq (⟨"JudgesLedger$Scoring", "removeSavepoint", "(I)V"⟩, 9) := ⟨⟨by decide +kernel, by decide +kernel⟩, List.mem_of_getElem? (i := 211) (by decide +kernel), List.mem_of_getElem? (i := 502) (by decide +kernel), List.mem_of_getElem? (i := 503) (by decide +kernel)⟩
theorem lw_p10 : lw_okq (⟨"JudgesLedger", "savepointNamed", "(I)I"⟩, 13) := ⟨⟨by decide +kernel, by decide +kernel⟩, List.mem_of_getElem? (i := 13) (by decide +kernel), List.mem_of_getElem? (i := 510) (by decide +kernel), List.mem_of_getElem? (i := 511) (by decide +kernel)⟩
theorem lw_p11 : lw_okq (⟨"JudgesLedger", "finishAct", "(I)I"⟩, 13) := ⟨⟨by decide +kernel, by decide +kernel⟩, List.mem_of_getElem? (i := 13) (by decide +kernel), List.mem_of_getElem? (i := 533) (by decide +kernel), List.mem_of_getElem? (i := 534) (by decide +kernel)⟩
theorem lw_p12 : lw_okq (⟨"JudgesLedger", "keepForUndo", "(IIZ)V"⟩, 13) := ⟨⟨by decide +kernel, by decide +kernel⟩, List.mem_of_getElem? (i := 13) (by decide +kernel), List.mem_of_getElem? (i := 537) (by decide +kernel), List.mem_of_getElem? (i := 538) (by decide +kernel)⟩
theorem lw_p13 : lw_okq (⟨"JudgesLedger$Placing", "middle", "(II)I"⟩, 6) := ⟨⟨by decide +kernel, by decide +kernel⟩, List.mem_of_getElem? (i := 127) (by decide +kernel), List.mem_of_getElem? (i := 578) (by decide +kernel), List.mem_of_getElem? (i := 579) (by decide +kernel)⟩
theorem lw_p14 : lw_okq (⟨"JudgesLedger$Placing", "sortMarks", "(II)V"⟩, 6) := ⟨⟨by decide +kernel, by decide +kernel⟩, List.mem_of_getElem? (i := 127) (by decide +kernel), List.mem_of_getElem? (i := 582) (by decide +kernel), List.mem_of_getElem? (i := 583) (by decide +kernel)⟩
theorem lw_p15 : lw_okq (⟨"JudgesLedger$Placing", "rankClass", "(I)V"⟩, 6) := ⟨⟨by decide +kernel, by decide +kernel⟩, List.mem_of_getElem? (i := 127) (by decide +kernel), List.mem_of_getElem? (i := 594) (by decide +kernel), List.mem_of_getElem? (i := 595) (by decide +kernel)⟩
def lw_privs_1 : List (MethodName × Nat) := [(⟨"JudgesLedger", "refusalOfEvent", "()I"⟩, 13), (⟨"JudgesLedger", "appendEvent", "(II)V"⟩, 13), (⟨"JudgesLedger", "innermost", "()LJudgesLedger$Scoring;"⟩, 13), (⟨"JudgesLedger$Sheet", "markIndex", "(II)I"⟩, 10), (⟨"JudgesLedger", "outcomeOf", "(I)I"⟩, 13), (⟨"JudgesLedger", "fail", "(II)I"⟩, 13), (⟨"JudgesLedger", "letGuardCatch", "(I)Z"⟩, 13), (⟨"JudgesLedger", "suppressUnder", "(I)V"⟩, 13), (⟨"JudgesLedger", "dropInnermost", "()V"⟩, 13), (⟨"JudgesLedger$Scoring", "removeSavepoint", "(I)V"⟩, 9), (⟨"JudgesLedger", "savepointNamed", "(I)I"⟩, 13), (⟨"JudgesLedger", "finishAct", "(I)I"⟩, 13), (⟨"JudgesLedger", "keepForUndo", "(IIZ)V"⟩, 13), (⟨"JudgesLedger$Placing", "middle", "(II)I"⟩, 6), (⟨"JudgesLedger$Placing", "sortMarks", "(II)V"⟩, 6), (⟨"JudgesLedger$Placing", "rankClass", "(I)V"⟩, 6)]
theorem lw_r1 : ∀ q ∈ lw_privs_1, lw_okq q := List.forall_mem_cons.mpr ⟨lw_p0, List.forall_mem_cons.mpr ⟨lw_p1, List.forall_mem_cons.mpr ⟨lw_p2, List.forall_mem_cons.mpr ⟨lw_p3, List.forall_mem_cons.mpr ⟨lw_p4, List.forall_mem_cons.mpr ⟨lw_p5, List.forall_mem_cons.mpr ⟨lw_p6, List.forall_mem_cons.mpr ⟨lw_p7, List.forall_mem_cons.mpr ⟨lw_p8, List.forall_mem_cons.mpr ⟨lw_p9, List.forall_mem_cons.mpr ⟨lw_p10, List.forall_mem_cons.mpr ⟨lw_p11, List.forall_mem_cons.mpr ⟨lw_p12, List.forall_mem_cons.mpr ⟨lw_p13, List.forall_mem_cons.mpr ⟨lw_p14, List.forall_mem_cons.mpr ⟨lw_p15, fun _ h => absurd h List.not_mem_nil⟩⟩⟩⟩⟩⟩⟩⟩⟩⟩⟩⟩⟩⟩⟩⟩
theorem lw_p16 : lw_okq (⟨"JudgesLedger$Placing", "betterThan", "(I)I"⟩, 6) := ⟨⟨by decide +kernel, by decide +kernel⟩, List.mem_of_getElem? (i := 127) (by decide +kernel), List.mem_of_getElem? (i := 603) (by decide +kernel), List.mem_of_getElem? (i := 604) (by decide +kernel)⟩
theorem lw_p17 : lw_okq (⟨"JudgesLedger$Placing", "isBetter", "(II)Z"⟩, 6) := ⟨⟨by decide +kernel, by decide +kernel⟩, List.mem_of_getElem? (i := 127) (by decide +kernel), List.mem_of_getElem? (i := 607) (by decide +kernel), List.mem_of_getElem? (i := 608) (by decide +kernel)⟩
theorem lw_p18 : lw_okq (⟨"JudgesLedger$Placing", "sharers", "(I)I"⟩, 6) := ⟨⟨by decide +kernel, by decide +kernel⟩, List.mem_of_getElem? (i := 127) (by decide +kernel), List.mem_of_getElem? (i := 615) (by decide +kernel), List.mem_of_getElem? (i := 616) (by decide +kernel)⟩
theorem lw_p19 : lw_okq (⟨"JudgesLedger$Placing", "sharersAheadOf", "(II)I"⟩, 6) := ⟨⟨by decide +kernel, by decide +kernel⟩, List.mem_of_getElem? (i := 127) (by decide +kernel), List.mem_of_getElem? (i := 619) (by decide +kernel), List.mem_of_getElem? (i := 620) (by decide +kernel)⟩
theorem lw_p20 : lw_okq (⟨"JudgesLedger$Placing", "share", "(I)I"⟩, 6) := ⟨⟨by decide +kernel, by decide +kernel⟩, List.mem_of_getElem? (i := 127) (by decide +kernel), List.mem_of_getElem? (i := 627) (by decide +kernel), List.mem_of_getElem? (i := 628) (by decide +kernel)⟩
theorem lw_p21 : lw_okq (⟨"JudgesLedger$Placing", "prizesFrom", "(III)I"⟩, 6) := ⟨⟨by decide +kernel, by decide +kernel⟩, List.mem_of_getElem? (i := 127) (by decide +kernel), List.mem_of_getElem? (i := 631) (by decide +kernel), List.mem_of_getElem? (i := 632) (by decide +kernel)⟩
theorem lw_p22 : lw_okq (⟨"JudgesLedger$Placing", "position", "(I)I"⟩, 6) := ⟨⟨by decide +kernel, by decide +kernel⟩, List.mem_of_getElem? (i := 127) (by decide +kernel), List.mem_of_getElem? (i := 648) (by decide +kernel), List.mem_of_getElem? (i := 649) (by decide +kernel)⟩
theorem lw_p23 : lw_okq (⟨"JudgesLedger", "digestOfEntries", "(J)J"⟩, 13) := ⟨⟨by decide +kernel, by decide +kernel⟩, List.mem_of_getElem? (i := 13) (by decide +kernel), List.mem_of_getElem? (i := 703) (by decide +kernel), List.mem_of_getElem? (i := 704) (by decide +kernel)⟩
theorem lw_p24 : lw_okq (⟨"JudgesLedger", "digestOfEvents", "(J)J"⟩, 13) := ⟨⟨by decide +kernel, by decide +kernel⟩, List.mem_of_getElem? (i := 13) (by decide +kernel), List.mem_of_getElem? (i := 709) (by decide +kernel), List.mem_of_getElem? (i := 710) (by decide +kernel)⟩
theorem lw_p25 : lw_okq (⟨"JudgesLedgerModel", "isClass", "(I)Z"⟩, 48) := ⟨⟨by decide +kernel, by decide +kernel⟩, List.mem_of_getElem? (i := 713) (by decide +kernel), List.mem_of_getElem? (i := 875) (by decide +kernel), List.mem_of_getElem? (i := 876) (by decide +kernel)⟩
theorem lw_p26 : lw_okq (⟨"JudgesLedgerModel", "isJudge", "(I)Z"⟩, 48) := ⟨⟨by decide +kernel, by decide +kernel⟩, List.mem_of_getElem? (i := 713) (by decide +kernel), List.mem_of_getElem? (i := 900) (by decide +kernel), List.mem_of_getElem? (i := 901) (by decide +kernel)⟩
theorem lw_p27 : lw_okq (⟨"JudgesLedgerModel", "isEntry", "(I)Z"⟩, 48) := ⟨⟨by decide +kernel, by decide +kernel⟩, List.mem_of_getElem? (i := 713) (by decide +kernel), List.mem_of_getElem? (i := 904) (by decide +kernel), List.mem_of_getElem? (i := 905) (by decide +kernel)⟩
theorem lw_p28 : lw_okq (⟨"JudgesLedgerModel", "comes", "(II)V"⟩, 48) := ⟨⟨by decide +kernel, by decide +kernel⟩, List.mem_of_getElem? (i := 713) (by decide +kernel), List.mem_of_getElem? (i := 912) (by decide +kernel), List.mem_of_getElem? (i := 913) (by decide +kernel)⟩
theorem lw_p29 : lw_okq (⟨"JudgesLedgerModel", "counted", "(I)V"⟩, 48) := ⟨⟨by decide +kernel, by decide +kernel⟩, List.mem_of_getElem? (i := 713) (by decide +kernel), List.mem_of_getElem? (i := 916) (by decide +kernel), List.mem_of_getElem? (i := 917) (by decide +kernel)⟩
theorem lw_p30 : lw_okq (⟨"JudgesLedgerModel", "judged", "(I)I"⟩, 48) := ⟨⟨by decide +kernel, by decide +kernel⟩, List.mem_of_getElem? (i := 713) (by decide +kernel), List.mem_of_getElem? (i := 920) (by decide +kernel), List.mem_of_getElem? (i := 921) (by decide +kernel)⟩
theorem lw_p31 : lw_okq (⟨"JudgesLedgerModel", "holds", "(I)Z"⟩, 48) := ⟨⟨by decide +kernel, by decide +kernel⟩, List.mem_of_getElem? (i := 713) (by decide +kernel), List.mem_of_getElem? (i := 924) (by decide +kernel), List.mem_of_getElem? (i := 925) (by decide +kernel)⟩
def lw_privs_2 : List (MethodName × Nat) := [(⟨"JudgesLedger$Placing", "betterThan", "(I)I"⟩, 6), (⟨"JudgesLedger$Placing", "isBetter", "(II)Z"⟩, 6), (⟨"JudgesLedger$Placing", "sharers", "(I)I"⟩, 6), (⟨"JudgesLedger$Placing", "sharersAheadOf", "(II)I"⟩, 6), (⟨"JudgesLedger$Placing", "share", "(I)I"⟩, 6), (⟨"JudgesLedger$Placing", "prizesFrom", "(III)I"⟩, 6), (⟨"JudgesLedger$Placing", "position", "(I)I"⟩, 6), (⟨"JudgesLedger", "digestOfEntries", "(J)J"⟩, 13), (⟨"JudgesLedger", "digestOfEvents", "(J)J"⟩, 13), (⟨"JudgesLedgerModel", "isClass", "(I)Z"⟩, 48), (⟨"JudgesLedgerModel", "isJudge", "(I)Z"⟩, 48), (⟨"JudgesLedgerModel", "isEntry", "(I)Z"⟩, 48), (⟨"JudgesLedgerModel", "comes", "(II)V"⟩, 48), (⟨"JudgesLedgerModel", "counted", "(I)V"⟩, 48), (⟨"JudgesLedgerModel", "judged", "(I)I"⟩, 48), (⟨"JudgesLedgerModel", "holds", "(I)Z"⟩, 48)]
theorem lw_r2 : ∀ q ∈ lw_privs_2, lw_okq q := List.forall_mem_cons.mpr ⟨lw_p16, List.forall_mem_cons.mpr ⟨lw_p17, List.forall_mem_cons.mpr ⟨lw_p18, List.forall_mem_cons.mpr ⟨lw_p19, List.forall_mem_cons.mpr ⟨lw_p20, List.forall_mem_cons.mpr ⟨lw_p21, List.forall_mem_cons.mpr ⟨lw_p22, List.forall_mem_cons.mpr ⟨lw_p23, List.forall_mem_cons.mpr ⟨lw_p24, List.forall_mem_cons.mpr ⟨lw_p25, List.forall_mem_cons.mpr ⟨lw_p26, List.forall_mem_cons.mpr ⟨lw_p27, List.forall_mem_cons.mpr ⟨lw_p28, List.forall_mem_cons.mpr ⟨lw_p29, List.forall_mem_cons.mpr ⟨lw_p30, List.forall_mem_cons.mpr ⟨lw_p31, fun _ h => absurd h List.not_mem_nil⟩⟩⟩⟩⟩⟩⟩⟩⟩⟩⟩⟩⟩⟩⟩⟩
theorem lw_p32 : lw_okq (⟨"JudgesLedgerModel", "markOf", "(II)I"⟩, 48) := ⟨⟨by decide +kernel, by decide +kernel⟩, List.mem_of_getElem? (i := 713) (by decide +kernel), List.mem_of_getElem? (i := 928) (by decide +kernel), List.mem_of_getElem? (i := 929) (by decide +kernel)⟩
theorem lw_p33 : lw_okq (⟨"JudgesLedgerModel", "failed", "(II)I"⟩, 48) := ⟨⟨by decide +kernel, by decide +kernel⟩, List.mem_of_getElem? (i := 713) (by decide +kernel), List.mem_of_getElem? (i := 932) (by decide +kernel), List.mem_of_getElem? (i := 933) (by decide +kernel)⟩
theorem lw_p34 : lw_okq (⟨"JudgesLedgerModel", "note", "(IIII)I"⟩, 48) := ⟨⟨by decide +kernel, by decide +kernel⟩, List.mem_of_getElem? (i := 713) (by decide +kernel), List.mem_of_getElem? (i := 936) (by decide +kernel), List.mem_of_getElem? (i := 937) (by decide +kernel)⟩
theorem lw_p35 : lw_okq (⟨"JudgesLedgerModel", "placeOf", "(I)I"⟩, 48) := ⟨⟨by decide +kernel, by decide +kernel⟩, List.mem_of_getElem? (i := 713) (by decide +kernel), List.mem_of_getElem? (i := 946) (by decide +kernel), List.mem_of_getElem? (i := 947) (by decide +kernel)⟩
theorem lw_p36 : lw_okq (⟨"JudgesLedgerModel", "goBack", "(I)V"⟩, 48) := ⟨⟨by decide +kernel, by decide +kernel⟩, List.mem_of_getElem? (i := 713) (by decide +kernel), List.mem_of_getElem? (i := 950) (by decide +kernel), List.mem_of_getElem? (i := 951) (by decide +kernel)⟩
theorem lw_p37 : lw_okq (⟨"JudgesLedgerModel", "keep", "(I)V"⟩, 48) := ⟨⟨by decide +kernel, by decide +kernel⟩, List.mem_of_getElem? (i := 713) (by decide +kernel), List.mem_of_getElem? (i := 982) (by decide +kernel), List.mem_of_getElem? (i := 983) (by decide +kernel)⟩
theorem lw_p38 : lw_okq (⟨"JudgesLedgerModel", "total", "()V"⟩, 48) := ⟨⟨by decide +kernel, by decide +kernel⟩, List.mem_of_getElem? (i := 713) (by decide +kernel), List.mem_of_getElem? (i := 1002) (by decide +kernel), List.mem_of_getElem? (i := 1003) (by decide +kernel)⟩
theorem lw_p39 : lw_okq (⟨"JudgesLedgerModel", "totalOf", "(I)I"⟩, 48) := ⟨⟨by decide +kernel, by decide +kernel⟩, List.mem_of_getElem? (i := 713) (by decide +kernel), List.mem_of_getElem? (i := 1006) (by decide +kernel), List.mem_of_getElem? (i := 1007) (by decide +kernel)⟩
theorem lw_p40 : lw_okq (⟨"JudgesLedgerModel", "rankOf", "(I)I"⟩, 48) := ⟨⟨by decide +kernel, by decide +kernel⟩, List.mem_of_getElem? (i := 713) (by decide +kernel), List.mem_of_getElem? (i := 1013) (by decide +kernel), List.mem_of_getElem? (i := 1014) (by decide +kernel)⟩
theorem lw_p41 : lw_okq (⟨"JudgesLedgerModel", "isBetter", "(II)Z"⟩, 48) := ⟨⟨by decide +kernel, by decide +kernel⟩, List.mem_of_getElem? (i := 713) (by decide +kernel), List.mem_of_getElem? (i := 1017) (by decide +kernel), List.mem_of_getElem? (i := 1018) (by decide +kernel)⟩
theorem lw_p42 : lw_okq (⟨"JudgesLedgerModel", "above", "(I)I"⟩, 48) := ⟨⟨by decide +kernel, by decide +kernel⟩, List.mem_of_getElem? (i := 713) (by decide +kernel), List.mem_of_getElem? (i := 1021) (by decide +kernel), List.mem_of_getElem? (i := 1022) (by decide +kernel)⟩
theorem lw_p43 : lw_okq (⟨"JudgesLedgerModel", "alike", "(I)I"⟩, 48) := ⟨⟨by decide +kernel, by decide +kernel⟩, List.mem_of_getElem? (i := 713) (by decide +kernel), List.mem_of_getElem? (i := 1025) (by decide +kernel), List.mem_of_getElem? (i := 1026) (by decide +kernel)⟩
theorem lw_p44 : lw_okq (⟨"JudgesLedgerModel", "prizeOf", "(I)I"⟩, 48) := ⟨⟨by decide +kernel, by decide +kernel⟩, List.mem_of_getElem? (i := 713) (by decide +kernel), List.mem_of_getElem? (i := 1029) (by decide +kernel), List.mem_of_getElem? (i := 1030) (by decide +kernel)⟩
def lw_privs_3 : List (MethodName × Nat) := [(⟨"JudgesLedgerModel", "markOf", "(II)I"⟩, 48), (⟨"JudgesLedgerModel", "failed", "(II)I"⟩, 48), (⟨"JudgesLedgerModel", "note", "(IIII)I"⟩, 48), (⟨"JudgesLedgerModel", "placeOf", "(I)I"⟩, 48), (⟨"JudgesLedgerModel", "goBack", "(I)V"⟩, 48), (⟨"JudgesLedgerModel", "keep", "(I)V"⟩, 48), (⟨"JudgesLedgerModel", "total", "()V"⟩, 48), (⟨"JudgesLedgerModel", "totalOf", "(I)I"⟩, 48), (⟨"JudgesLedgerModel", "rankOf", "(I)I"⟩, 48), (⟨"JudgesLedgerModel", "isBetter", "(II)Z"⟩, 48), (⟨"JudgesLedgerModel", "above", "(I)I"⟩, 48), (⟨"JudgesLedgerModel", "alike", "(I)I"⟩, 48), (⟨"JudgesLedgerModel", "prizeOf", "(I)I"⟩, 48)]
theorem lw_r3 : ∀ q ∈ lw_privs_3, lw_okq q := List.forall_mem_cons.mpr ⟨lw_p32, List.forall_mem_cons.mpr ⟨lw_p33, List.forall_mem_cons.mpr ⟨lw_p34, List.forall_mem_cons.mpr ⟨lw_p35, List.forall_mem_cons.mpr ⟨lw_p36, List.forall_mem_cons.mpr ⟨lw_p37, List.forall_mem_cons.mpr ⟨lw_p38, List.forall_mem_cons.mpr ⟨lw_p39, List.forall_mem_cons.mpr ⟨lw_p40, List.forall_mem_cons.mpr ⟨lw_p41, List.forall_mem_cons.mpr ⟨lw_p42, List.forall_mem_cons.mpr ⟨lw_p43, List.forall_mem_cons.mpr ⟨lw_p44, fun _ h => absurd h List.not_mem_nil⟩⟩⟩⟩⟩⟩⟩⟩⟩⟩⟩⟩⟩
def lw_privs : List (MethodName × Nat) := lw_privs_1 ++ (lw_privs_2 ++ (lw_privs_3))
def lw_tbl : List Cond := k2_sels lw_privs ++ tables_1
theorem lw_privs_ok : ∀ q ∈ lw_privs, lw_okq q := by
  show ∀ q ∈ lw_privs_1 ++ (lw_privs_2 ++ (lw_privs_3)), lw_okq q
  exact List.forall_mem_append.mpr ⟨lw_r1, List.forall_mem_append.mpr ⟨lw_r2, lw_r3⟩⟩
end
section
def RX0 : String := "JudgesLedger$FailureBook"
def TX0 : u_T := fun k => match k with
  | 0 => ("JudgesLedger$FailureBook", "cells", "[I", true)
  | _ => ("JudgesLedger$FailureBook", "ever", "I", false)
def tyX0 : Nat → FieldType := fun k => match k with
  | 0 => .array .int
  | _ => .int
theorem nmX0 : ∀ a, a < 2 → ∀ b, b < 2 → a ≠ b → (TX0 a).2.1 ≠ (TX0 b).2.1 := by decide +kernel
theorem tyX0_ok : ∀ k, k < 2 → parseFieldDescriptor (TX0 k).2.2.1 = some (tyX0 k) := by decide +kernel
abbrev cX0_init : ByteArray := prog_2_method_1_code
def yX0_init : MethodName := ⟨RX0, "<init>", "()V"⟩
abbrev cX0_isNoted : ByteArray := prog_2_method_2_code
def yX0_isNoted : MethodName := ⟨RX0, "isNoted", "(I)Z"⟩
abbrev cX0_add : ByteArray := prog_2_method_3_code
def yX0_add : MethodName := ⟨RX0, "add", "(IIIIII)I"⟩
def RX1 : String := "JudgesLedger$Gallery"
def TX1 : u_T := fun k => match k with
  | 0 => ("JudgesLedger$Gallery", "throwsAt", "[I", true)
  | 1 => ("JudgesLedger$Gallery", "timesTold", "[I", true)
  | 2 => ("JudgesLedger$Gallery", "size", "I", false)
  | _ => ("JudgesLedger$Gallery", "tellings", "I", false)
def tyX1 : Nat → FieldType := fun k => match k with
  | 0 => .array .int
  | 1 => .array .int
  | 2 => .int
  | _ => .int
theorem nmX1 : ∀ a, a < 4 → ∀ b, b < 4 → a ≠ b → (TX1 a).2.1 ≠ (TX1 b).2.1 := by decide +kernel
theorem tyX1_ok : ∀ k, k < 4 → parseFieldDescriptor (TX1 k).2.2.1 = some (tyX1 k) := by decide +kernel
abbrev cX1_init : ByteArray := prog_3_method_1_code
def yX1_init : MethodName := ⟨RX1, "<init>", "()V"⟩
abbrev cX1_add : ByteArray := prog_3_method_2_code
def yX1_add : MethodName := ⟨RX1, "add", "(I)I"⟩
abbrev cX1_tell : ByteArray := prog_3_method_3_code
def yX1_tell : MethodName := ⟨RX1, "tell", "(I)Z"⟩
def RX2 : String := "JudgesLedger$Placing"
def TX2 : u_T := fun k => match k with
  | 0 => ("JudgesLedger$Placing", "show", "LJudgesLedger$Show;", true)
  | 1 => ("JudgesLedger$Placing", "sheet", "LJudgesLedger$Sheet;", true)
  | 2 => ("JudgesLedger$Placing", "total", "[I", true)
  | 3 => ("JudgesLedger$Placing", "aboveZero", "[I", true)
  | 4 => ("JudgesLedger$Placing", "rank", "[I", true)
  | _ => ("JudgesLedger$Placing", "sorted", "[I", true)
def tyX2 : Nat → FieldType := fun k => match k with
  | 0 => .object "JudgesLedger$Show"
  | 1 => .object "JudgesLedger$Sheet"
  | 2 => .array .int
  | 3 => .array .int
  | 4 => .array .int
  | _ => .array .int
theorem nmX2 : ∀ a, a < 6 → ∀ b, b < 6 → a ≠ b → (TX2 a).2.1 ≠ (TX2 b).2.1 := by decide +kernel
theorem tyX2_ok : ∀ k, k < 6 → parseFieldDescriptor (TX2 k).2.2.1 = some (tyX2 k) := by decide +kernel
abbrev cX2_init : ByteArray := prog_4_method_1_code
def yX2_init : MethodName := ⟨RX2, "<init>", "(LJudgesLedger$Show;LJudgesLedger$Sheet;)V"⟩
abbrev cX2_totalOf : ByteArray := prog_4_method_2_code
def yX2_totalOf : MethodName := ⟨RX2, "totalOf", "(I)I"⟩
abbrev cX2_middle : ByteArray := prog_4_method_3_code
def yX2_middle : MethodName := ⟨RX2, "middle", "(II)I"⟩
abbrev cX2_sortMarks : ByteArray := prog_4_method_4_code
def yX2_sortMarks : MethodName := ⟨RX2, "sortMarks", "(II)V"⟩
abbrev cX2_nearest : ByteArray := prog_4_method_5_code
def yX2_nearest : MethodName := ⟨RX2, "nearest", "(II)I"⟩
abbrev cX2_rankOf : ByteArray := prog_4_method_6_code
def yX2_rankOf : MethodName := ⟨RX2, "rankOf", "(I)I"⟩
abbrev cX2_sharersOf : ByteArray := prog_4_method_7_code
def yX2_sharersOf : MethodName := ⟨RX2, "sharersOf", "(I)I"⟩
abbrev cX2_prizeOf : ByteArray := prog_4_method_8_code
def yX2_prizeOf : MethodName := ⟨RX2, "prizeOf", "(I)I"⟩
abbrev cX2_prizesLeft : ByteArray := prog_4_method_9_code
def yX2_prizesLeft : MethodName := ⟨RX2, "prizesLeft", "(I)I"⟩
abbrev cX2_entryAt : ByteArray := prog_4_method_10_code
def yX2_entryAt : MethodName := ⟨RX2, "entryAt", "(II)I"⟩
abbrev cX2_rankClass : ByteArray := prog_4_method_11_code
def yX2_rankClass : MethodName := ⟨RX2, "rankClass", "(I)V"⟩
abbrev cX2_betterThan : ByteArray := prog_4_method_12_code
def yX2_betterThan : MethodName := ⟨RX2, "betterThan", "(I)I"⟩
abbrev cX2_isBetter : ByteArray := prog_4_method_13_code
def yX2_isBetter : MethodName := ⟨RX2, "isBetter", "(II)Z"⟩
abbrev cX2_sharers : ByteArray := prog_4_method_14_code
def yX2_sharers : MethodName := ⟨RX2, "sharers", "(I)I"⟩
abbrev cX2_sharersAheadOf : ByteArray := prog_4_method_15_code
def yX2_sharersAheadOf : MethodName := ⟨RX2, "sharersAheadOf", "(II)I"⟩
abbrev cX2_position : ByteArray := prog_4_method_16_code
def yX2_position : MethodName := ⟨RX2, "position", "(I)I"⟩
abbrev cX2_share : ByteArray := prog_4_method_17_code
def yX2_share : MethodName := ⟨RX2, "share", "(I)I"⟩
abbrev cX2_prizesFrom : ByteArray := prog_4_method_18_code
def yX2_prizesFrom : MethodName := ⟨RX2, "prizesFrom", "(III)I"⟩
def RX3 : String := "JudgesLedger$RuleBook"
def TX3 : u_T := fun k => match k with
  | 0 => ("JudgesLedger$RuleBook", "moment", "[I", true)
  | 1 => ("JudgesLedger$RuleBook", "kind", "[I", true)
  | 2 => ("JudgesLedger$RuleBook", "limit", "[I", true)
  | _ => ("JudgesLedger$RuleBook", "size", "I", false)
def tyX3 : Nat → FieldType := fun k => match k with
  | 0 => .array .int
  | 1 => .array .int
  | 2 => .array .int
  | _ => .int
theorem nmX3 : ∀ a, a < 4 → ∀ b, b < 4 → a ≠ b → (TX3 a).2.1 ≠ (TX3 b).2.1 := by decide +kernel
theorem tyX3_ok : ∀ k, k < 4 → parseFieldDescriptor (TX3 k).2.2.1 = some (tyX3 k) := by decide +kernel
abbrev cX3_init : ByteArray := prog_5_method_1_code
def yX3_init : MethodName := ⟨RX3, "<init>", "()V"⟩
abbrev cX3_add : ByteArray := prog_5_method_2_code
def yX3_add : MethodName := ⟨RX3, "add", "(III)I"⟩
abbrev cX3_holds : ByteArray := prog_5_method_3_code
def yX3_holds : MethodName := ⟨RX3, "holds", "(ILJudgesLedger$Scoring;LJudgesLedger$Sheet;)Z"⟩
abbrev cX3_latestIsOutOfRange : ByteArray := prog_5_method_4_code
def yX3_latestIsOutOfRange : MethodName := ⟨RX3, "latestIsOutOfRange", "(ILJudgesLedger$Sheet;)Z"⟩
def RX4 : String := "JudgesLedger$Scoring"
def TX4 : u_T := fun k => match k with
  | 0 => ("JudgesLedger$Scoring", "judge", "I", false)
  | 1 => ("JudgesLedger$Scoring", "entry", "I", false)
  | 2 => ("JudgesLedger$Scoring", "begunAt", "I", false)
  | 3 => ("JudgesLedger$Scoring", "savepointName", "[I", true)
  | 4 => ("JudgesLedger$Scoring", "savepointAt", "[I", true)
  | 5 => ("JudgesLedger$Scoring", "savepoints", "I", false)
  | 6 => ("JudgesLedger$Scoring", "guardKind", "[I", true)
  | 7 => ("JudgesLedger$Scoring", "guardName", "[I", true)
  | _ => ("JudgesLedger$Scoring", "guards", "I", false)
def tyX4 : Nat → FieldType := fun k => match k with
  | 0 => .int
  | 1 => .int
  | 2 => .int
  | 3 => .array .int
  | 4 => .array .int
  | 5 => .int
  | 6 => .array .int
  | 7 => .array .int
  | _ => .int
theorem nmX4 : ∀ a, a < 9 → ∀ b, b < 9 → a ≠ b → (TX4 a).2.1 ≠ (TX4 b).2.1 := by decide +kernel
theorem tyX4_ok : ∀ k, k < 9 → parseFieldDescriptor (TX4 k).2.2.1 = some (tyX4 k) := by decide +kernel
abbrev cX4_init : ByteArray := prog_6_method_1_code
def yX4_init : MethodName := ⟨RX4, "<init>", "()V"⟩
abbrev cX4_start : ByteArray := prog_6_method_2_code
def yX4_start : MethodName := ⟨RX4, "start", "(III)V"⟩
abbrev cX4_indexOfSavepoint : ByteArray := prog_6_method_3_code
def yX4_indexOfSavepoint : MethodName := ⟨RX4, "indexOfSavepoint", "(I)I"⟩
abbrev cX4_addSavepoint : ByteArray := prog_6_method_4_code
def yX4_addSavepoint : MethodName := ⟨RX4, "addSavepoint", "(II)V"⟩
abbrev cX4_removeSavepoint : ByteArray := prog_6_method_5_code
def yX4_removeSavepoint : MethodName := ⟨RX4, "removeSavepoint", "(I)V"⟩
abbrev cX4_addGuard : ByteArray := prog_6_method_6_code
def yX4_addGuard : MethodName := ⟨RX4, "addGuard", "(II)V"⟩
def RX5 : String := "JudgesLedger$Sheet"
def TX5 : u_T := fun k => match k with
  | 0 => ("JudgesLedger$Sheet", "show", "LJudgesLedger$Show;", true)
  | 1 => ("JudgesLedger$Sheet", "sort", "[I", true)
  | 2 => ("JudgesLedger$Sheet", "judge", "[I", true)
  | 3 => ("JudgesLedger$Sheet", "entry", "[I", true)
  | 4 => ("JudgesLedger$Sheet", "number", "[I", true)
  | 5 => ("JudgesLedger$Sheet", "counting", "[Z", true)
  | 6 => ("JudgesLedger$Sheet", "events", "I", false)
  | 7 => ("JudgesLedger$Sheet", "offs", "[I", true)
  | 8 => ("JudgesLedger$Sheet", "marks", "[I", true)
  | _ => ("JudgesLedger$Sheet", "timesGiven", "[I", true)
def tyX5 : Nat → FieldType := fun k => match k with
  | 0 => .object "JudgesLedger$Show"
  | 1 => .array .int
  | 2 => .array .int
  | 3 => .array .int
  | 4 => .array .int
  | 5 => .array .boolean
  | 6 => .int
  | 7 => .array .int
  | 8 => .array .int
  | _ => .array .int
theorem nmX5 : ∀ a, a < 10 → ∀ b, b < 10 → a ≠ b → (TX5 a).2.1 ≠ (TX5 b).2.1 := by decide +kernel
theorem tyX5_ok : ∀ k, k < 10 → parseFieldDescriptor (TX5 k).2.2.1 = some (tyX5 k) := by decide +kernel
abbrev cX5_init : ByteArray := prog_7_method_1_code
def yX5_init : MethodName := ⟨RX5, "<init>", "(LJudgesLedger$Show;)V"⟩
abbrev cX5_hasEvent : ByteArray := prog_7_method_2_code
def yX5_hasEvent : MethodName := ⟨RX5, "hasEvent", "(I)Z"⟩
abbrev cX5_append : ByteArray := prog_7_method_3_code
def yX5_append : MethodName := ⟨RX5, "append", "(IIII)V"⟩
abbrev cX5_cutTo : ByteArray := prog_7_method_4_code
def yX5_cutTo : MethodName := ⟨RX5, "cutTo", "(I)V"⟩
abbrev cX5_setCounting : ByteArray := prog_7_method_5_code
def yX5_setCounting : MethodName := ⟨RX5, "setCounting", "(IZ)V"⟩
abbrev cX5_markIndex : ByteArray := prog_7_method_6_code
def yX5_markIndex : MethodName := ⟨RX5, "markIndex", "(II)I"⟩
abbrev cX5_markBy : ByteArray := prog_7_method_7_code
def yX5_markBy : MethodName := ⟨RX5, "markBy", "(II)I"⟩
abbrev cX5_markAt : ByteArray := prog_7_method_8_code
def yX5_markAt : MethodName := ⟨RX5, "markAt", "(II)I"⟩
abbrev cX5_remarkBits : ByteArray := prog_7_method_9_code
def yX5_remarkBits : MethodName := ⟨RX5, "remarkBits", "(I)I"⟩
abbrev cX5_greatestMark : ByteArray := prog_7_method_10_code
def yX5_greatestMark : MethodName := ⟨RX5, "greatestMark", "(I)I"⟩
abbrev cX5_leastMark : ByteArray := prog_7_method_11_code
def yX5_leastMark : MethodName := ⟨RX5, "leastMark", "(I)I"⟩
abbrev cX5_sumOfMarks : ByteArray := prog_7_method_12_code
def yX5_sumOfMarks : MethodName := ⟨RX5, "sumOfMarks", "(I)I"⟩
abbrev cX5_marksAboveZero : ByteArray := prog_7_method_13_code
def yX5_marksAboveZero : MethodName := ⟨RX5, "marksAboveZero", "(I)I"⟩
abbrev cX5_timesPointed : ByteArray := prog_7_method_14_code
def yX5_timesPointed : MethodName := ⟨RX5, "timesPointed", "(II)I"⟩
def RX6 : String := "JudgesLedger$Show"
def TX6 : u_T := fun k => match k with
  | 0 => ("JudgesLedger$Show", "schedule", "[I", true)
  | 1 => ("JudgesLedger$Show", "firstJudge", "[I", true)
  | 2 => ("JudgesLedger$Show", "seats", "[I", true)
  | 3 => ("JudgesLedger$Show", "closed", "[Z", true)
  | 4 => ("JudgesLedger$Show", "prize", "[I", true)
  | 5 => ("JudgesLedger$Show", "judgeClass", "[I", true)
  | 6 => ("JudgesLedger$Show", "entryClass", "[I", true)
  | 7 => ("JudgesLedger$Show", "classes", "I", false)
  | 8 => ("JudgesLedger$Show", "judges", "I", false)
  | _ => ("JudgesLedger$Show", "entries", "I", false)
def tyX6 : Nat → FieldType := fun k => match k with
  | 0 => .array .int
  | 1 => .array .int
  | 2 => .array .int
  | 3 => .array .boolean
  | 4 => .array .int
  | 5 => .array .int
  | 6 => .array .int
  | 7 => .int
  | 8 => .int
  | _ => .int
theorem nmX6 : ∀ a, a < 10 → ∀ b, b < 10 → a ≠ b → (TX6 a).2.1 ≠ (TX6 b).2.1 := by decide +kernel
theorem tyX6_ok : ∀ k, k < 10 → parseFieldDescriptor (TX6 k).2.2.1 = some (tyX6 k) := by decide +kernel
abbrev cX6_init : ByteArray := prog_8_method_1_code
def yX6_init : MethodName := ⟨RX6, "<init>", "()V"⟩
abbrev cX6_hasClass : ByteArray := prog_8_method_2_code
def yX6_hasClass : MethodName := ⟨RX6, "hasClass", "(I)Z"⟩
abbrev cX6_hasJudge : ByteArray := prog_8_method_3_code
def yX6_hasJudge : MethodName := ⟨RX6, "hasJudge", "(I)Z"⟩
abbrev cX6_hasEntry : ByteArray := prog_8_method_4_code
def yX6_hasEntry : MethodName := ⟨RX6, "hasEntry", "(I)Z"⟩
abbrev cX6_addClass : ByteArray := prog_8_method_5_code
def yX6_addClass : MethodName := ⟨RX6, "addClass", "(II)I"⟩
abbrev cX6_addEntry : ByteArray := prog_8_method_6_code
def yX6_addEntry : MethodName := ⟨RX6, "addEntry", "(I)I"⟩
abbrev cX6_setPrizes : ByteArray := prog_8_method_7_code
def yX6_setPrizes : MethodName := ⟨RX6, "setPrizes", "(IIII)V"⟩
abbrev cX6_entriesOf : ByteArray := prog_8_method_8_code
def yX6_entriesOf : MethodName := ⟨RX6, "entriesOf", "(I)I"⟩
def RX7 : String := "JudgesLedger"
def TX7 : u_T := fun k => match k with
  | 0 => ("JudgesLedger", "show", "LJudgesLedger$Show;", true)
  | 1 => ("JudgesLedger", "sheet", "LJudgesLedger$Sheet;", true)
  | 2 => ("JudgesLedger", "placing", "LJudgesLedger$Placing;", true)
  | 3 => ("JudgesLedger", "rules", "LJudgesLedger$RuleBook;", true)
  | 4 => ("JudgesLedger", "failures", "LJudgesLedger$FailureBook;", true)
  | 5 => ("JudgesLedger", "gallery", "LJudgesLedger$Gallery;", true)
  | 6 => ("JudgesLedger", "scorings", "[LJudgesLedger$Scoring;", true)
  | 7 => ("JudgesLedger", "standing", "I", false)
  | 8 => ("JudgesLedger", "acts", "I", false)
  | 9 => ("JudgesLedger", "caught", "I", false)
  | 10 => ("JudgesLedger", "undoSort", "I", false)
  | 11 => ("JudgesLedger", "undoNumber", "I", false)
  | _ => ("JudgesLedger", "undoClosed", "Z", false)
def tyX7 : Nat → FieldType := fun k => match k with
  | 0 => .object "JudgesLedger$Show"
  | 1 => .object "JudgesLedger$Sheet"
  | 2 => .object "JudgesLedger$Placing"
  | 3 => .object "JudgesLedger$RuleBook"
  | 4 => .object "JudgesLedger$FailureBook"
  | 5 => .object "JudgesLedger$Gallery"
  | 6 => .array (.object "JudgesLedger$Scoring")
  | 7 => .int
  | 8 => .int
  | 9 => .int
  | 10 => .int
  | 11 => .int
  | _ => .boolean
theorem nmX7 : ∀ a, a < 13 → ∀ b, b < 13 → a ≠ b → (TX7 a).2.1 ≠ (TX7 b).2.1 := by decide +kernel
theorem tyX7_ok : ∀ k, k < 13 → parseFieldDescriptor (TX7 k).2.2.1 = some (tyX7 k) := by decide +kernel
abbrev cX7_init : ByteArray := prog_1_method_1_code
def yX7_init : MethodName := ⟨RX7, "<init>", "()V"⟩
abbrev cX7_show : ByteArray := prog_1_method_2_code
def yX7_show : MethodName := ⟨RX7, "show", "(II)I"⟩
abbrev cX7_entry : ByteArray := prog_1_method_3_code
def yX7_entry : MethodName := ⟨RX7, "entry", "(I)I"⟩
abbrev cX7_prizes : ByteArray := prog_1_method_4_code
def yX7_prizes : MethodName := ⟨RX7, "prizes", "(IIII)I"⟩
abbrev cX7_rule : ByteArray := prog_1_method_5_code
def yX7_rule : MethodName := ⟨RX7, "rule", "(III)I"⟩
abbrev cX7_clearRules : ByteArray := prog_1_method_6_code
def yX7_clearRules : MethodName := ⟨RX7, "clearRules", "()I"⟩
abbrev cX7_observe : ByteArray := prog_1_method_7_code
def yX7_observe : MethodName := ⟨RX7, "observe", "(I)I"⟩
abbrev cX7_begin : ByteArray := prog_1_method_8_code
def yX7_begin : MethodName := ⟨RX7, "begin", "(II)I"⟩
abbrev cX7_points : ByteArray := prog_1_method_9_code
def yX7_points : MethodName := ⟨RX7, "points", "(I)I"⟩
abbrev cX7_deduct : ByteArray := prog_1_method_10_code
def yX7_deduct : MethodName := ⟨RX7, "deduct", "(I)I"⟩
abbrev cX7_remark : ByteArray := prog_1_method_11_code
def yX7_remark : MethodName := ⟨RX7, "remark", "(I)I"⟩
abbrev cX7_save : ByteArray := prog_1_method_12_code
def yX7_save : MethodName := ⟨RX7, "save", "(I)I"⟩
abbrev cX7_back : ByteArray := prog_1_method_13_code
def yX7_back : MethodName := ⟨RX7, "back", "(I)I"⟩
abbrev cX7_release : ByteArray := prog_1_method_14_code
def yX7_release : MethodName := ⟨RX7, "release", "(I)I"⟩
abbrev cX7_guard : ByteArray := prog_1_method_15_code
def yX7_guard : MethodName := ⟨RX7, "guard", "(II)I"⟩
abbrev cX7_end : ByteArray := prog_1_method_16_code
def yX7_end : MethodName := ⟨RX7, "end", "()I"⟩
abbrev cX7_drop : ByteArray := prog_1_method_17_code
def yX7_drop : MethodName := ⟨RX7, "drop", "()I"⟩
abbrev cX7_depth : ByteArray := prog_1_method_18_code
def yX7_depth : MethodName := ⟨RX7, "depth", "()I"⟩
abbrev cX7_scoring : ByteArray := prog_1_method_19_code
def yX7_scoring : MethodName := ⟨RX7, "scoring", "(II)I"⟩
abbrev cX7_told : ByteArray := prog_1_method_20_code
def yX7_told : MethodName := ⟨RX7, "told", "(II)I"⟩
abbrev cX7_mark : ByteArray := prog_1_method_21_code
def yX7_mark : MethodName := ⟨RX7, "mark", "(II)I"⟩
abbrev cX7_place : ByteArray := prog_1_method_22_code
def yX7_place : MethodName := ⟨RX7, "place", "(II)I"⟩
abbrev cX7_close : ByteArray := prog_1_method_23_code
def yX7_close : MethodName := ⟨RX7, "close", "(I)I"⟩
abbrev cX7_about : ByteArray := prog_1_method_24_code
def yX7_about : MethodName := ⟨RX7, "about", "(II)I"⟩
abbrev cX7_uphold : ByteArray := prog_1_method_25_code
def yX7_uphold : MethodName := ⟨RX7, "uphold", "(I)I"⟩
abbrev cX7_event : ByteArray := prog_1_method_26_code
def yX7_event : MethodName := ⟨RX7, "event", "(II)I"⟩
abbrev cX7_failure : ByteArray := prog_1_method_27_code
def yX7_failure : MethodName := ⟨RX7, "failure", "(II)I"⟩
abbrev cX7_is : ByteArray := prog_1_method_28_code
def yX7_is : MethodName := ⟨RX7, "is", "(II)I"⟩
abbrev cX7_undo : ByteArray := prog_1_method_29_code
def yX7_undo : MethodName := ⟨RX7, "undo", "()I"⟩
abbrev cX7_count : ByteArray := prog_1_method_30_code
def yX7_count : MethodName := ⟨RX7, "count", "(I)I"⟩
abbrev cX7_digest : ByteArray := prog_1_method_31_code
def yX7_digest : MethodName := ⟨RX7, "digest", "()J"⟩
abbrev cX7_digestOfEntries : ByteArray := prog_1_method_32_code
def yX7_digestOfEntries : MethodName := ⟨RX7, "digestOfEntries", "(J)J"⟩
abbrev cX7_digestOfEvents : ByteArray := prog_1_method_33_code
def yX7_digestOfEvents : MethodName := ⟨RX7, "digestOfEvents", "(J)J"⟩
abbrev cX7_isPrize : ByteArray := prog_1_method_34_code
def yX7_isPrize : MethodName := ⟨RX7, "isPrize", "(I)Z"⟩
abbrev cX7_isName : ByteArray := prog_1_method_35_code
def yX7_isName : MethodName := ⟨RX7, "isName", "(I)Z"⟩
abbrev cX7_isKind : ByteArray := prog_1_method_36_code
def yX7_isKind : MethodName := ⟨RX7, "isKind", "(I)Z"⟩
abbrev cX7_isRuleKind : ByteArray := prog_1_method_37_code
def yX7_isRuleKind : MethodName := ⟨RX7, "isRuleKind", "(I)Z"⟩
abbrev cX7_isOfKind : ByteArray := prog_1_method_38_code
def yX7_isOfKind : MethodName := ⟨RX7, "isOfKind", "(II)Z"⟩
abbrev cX7_innermost : ByteArray := prog_1_method_39_code
def yX7_innermost : MethodName := ⟨RX7, "innermost", "()LJudgesLedger$Scoring;"⟩
abbrev cX7_savepointNamed : ByteArray := prog_1_method_40_code
def yX7_savepointNamed : MethodName := ⟨RX7, "savepointNamed", "(I)I"⟩
abbrev cX7_refusalOfEvent : ByteArray := prog_1_method_41_code
def yX7_refusalOfEvent : MethodName := ⟨RX7, "refusalOfEvent", "()I"⟩
abbrev cX7_appendEvent : ByteArray := prog_1_method_42_code
def yX7_appendEvent : MethodName := ⟨RX7, "appendEvent", "(II)V"⟩
abbrev cX7_dropInnermost : ByteArray := prog_1_method_43_code
def yX7_dropInnermost : MethodName := ⟨RX7, "dropInnermost", "()V"⟩
abbrev cX7_outcomeOf : ByteArray := prog_1_method_44_code
def yX7_outcomeOf : MethodName := ⟨RX7, "outcomeOf", "(I)I"⟩
abbrev cX7_fail : ByteArray := prog_1_method_45_code
def yX7_fail : MethodName := ⟨RX7, "fail", "(II)I"⟩
abbrev cX7_letGuardCatch : ByteArray := prog_1_method_46_code
def yX7_letGuardCatch : MethodName := ⟨RX7, "letGuardCatch", "(I)Z"⟩
abbrev cX7_suppressUnder : ByteArray := prog_1_method_47_code
def yX7_suppressUnder : MethodName := ⟨RX7, "suppressUnder", "(I)V"⟩
abbrev cX7_kindFurtherOut : ByteArray := prog_1_method_48_code
def yX7_kindFurtherOut : MethodName := ⟨RX7, "kindFurtherOut", "(I)I"⟩
abbrev cX7_finishAct : ByteArray := prog_1_method_49_code
def yX7_finishAct : MethodName := ⟨RX7, "finishAct", "(I)I"⟩
abbrev cX7_keepForUndo : ByteArray := prog_1_method_50_code
def yX7_keepForUndo : MethodName := ⟨RX7, "keepForUndo", "(IIZ)V"⟩
def RX8 : String := "JudgesLedgerModel"
def TX8 : u_T := fun k => match k with
  | 0 => ("JudgesLedgerModel", "classes", "I", false)
  | 1 => ("JudgesLedgerModel", "schedule", "[I", true)
  | 2 => ("JudgesLedgerModel", "firstJudge", "[I", true)
  | 3 => ("JudgesLedgerModel", "judgesOf", "[I", true)
  | 4 => ("JudgesLedgerModel", "entriesOf", "[I", true)
  | 5 => ("JudgesLedgerModel", "isClosed", "[Z", true)
  | 6 => ("JudgesLedgerModel", "prize", "[I", true)
  | 7 => ("JudgesLedgerModel", "judges", "I", false)
  | 8 => ("JudgesLedgerModel", "classOfJudge", "[I", true)
  | 9 => ("JudgesLedgerModel", "entries", "I", false)
  | 10 => ("JudgesLedgerModel", "classOf", "[I", true)
  | 11 => ("JudgesLedgerModel", "rules", "I", false)
  | 12 => ("JudgesLedgerModel", "moment", "[I", true)
  | 13 => ("JudgesLedgerModel", "kindOf", "[I", true)
  | 14 => ("JudgesLedgerModel", "bound", "[I", true)
  | 15 => ("JudgesLedgerModel", "observers", "I", false)
  | 16 => ("JudgesLedgerModel", "throwsAt", "[I", true)
  | 17 => ("JudgesLedgerModel", "tellings", "[I", true)
  | 18 => ("JudgesLedgerModel", "allTellings", "I", false)
  | 19 => ("JudgesLedgerModel", "events", "I", false)
  | 20 => ("JudgesLedgerModel", "eSort", "[I", true)
  | 21 => ("JudgesLedgerModel", "eJudge", "[I", true)
  | 22 => ("JudgesLedgerModel", "eEntry", "[I", true)
  | 23 => ("JudgesLedgerModel", "eNumber", "[I", true)
  | 24 => ("JudgesLedgerModel", "counts", "[Z", true)
  | 25 => ("JudgesLedgerModel", "marks", "[I", true)
  | 26 => ("JudgesLedgerModel", "off", "[I", true)
  | 27 => ("JudgesLedgerModel", "remarks", "[I", true)
  | 28 => ("JudgesLedgerModel", "stand", "I", false)
  | 29 => ("JudgesLedgerModel", "sJudge", "[I", true)
  | 30 => ("JudgesLedgerModel", "sEntry", "[I", true)
  | 31 => ("JudgesLedgerModel", "sBegin", "[I", true)
  | 32 => ("JudgesLedgerModel", "saves", "[I", true)
  | 33 => ("JudgesLedgerModel", "saveName", "[I", true)
  | 34 => ("JudgesLedgerModel", "saveEvents", "[I", true)
  | 35 => ("JudgesLedgerModel", "guards", "[I", true)
  | 36 => ("JudgesLedgerModel", "guardKind", "[I", true)
  | 37 => ("JudgesLedgerModel", "guardName", "[I", true)
  | 38 => ("JudgesLedgerModel", "noted", "I", false)
  | 39 => ("JudgesLedgerModel", "caughtMany", "I", false)
  | 40 => ("JudgesLedgerModel", "failures", "[I", true)
  | 41 => ("JudgesLedgerModel", "canUndo", "Z", false)
  | 42 => ("JudgesLedgerModel", "acts", "I", false)
  | 43 => ("JudgesLedgerModel", "wereEvents", "I", false)
  | 44 => ("JudgesLedgerModel", "didCount", "[Z", true)
  | 45 => ("JudgesLedgerModel", "wereClosed", "[Z", true)
  | 46 => ("JudgesLedgerModel", "sorted", "[I", true)
  | _ => ("JudgesLedgerModel", "totals", "[I", true)
def tyX8 : Nat → FieldType := fun k => match k with
  | 0 => .int
  | 1 => .array .int
  | 2 => .array .int
  | 3 => .array .int
  | 4 => .array .int
  | 5 => .array .boolean
  | 6 => .array .int
  | 7 => .int
  | 8 => .array .int
  | 9 => .int
  | 10 => .array .int
  | 11 => .int
  | 12 => .array .int
  | 13 => .array .int
  | 14 => .array .int
  | 15 => .int
  | 16 => .array .int
  | 17 => .array .int
  | 18 => .int
  | 19 => .int
  | 20 => .array .int
  | 21 => .array .int
  | 22 => .array .int
  | 23 => .array .int
  | 24 => .array .boolean
  | 25 => .array .int
  | 26 => .array .int
  | 27 => .array .int
  | 28 => .int
  | 29 => .array .int
  | 30 => .array .int
  | 31 => .array .int
  | 32 => .array .int
  | 33 => .array .int
  | 34 => .array .int
  | 35 => .array .int
  | 36 => .array .int
  | 37 => .array .int
  | 38 => .int
  | 39 => .int
  | 40 => .array .int
  | 41 => .boolean
  | 42 => .int
  | 43 => .int
  | 44 => .array .boolean
  | 45 => .array .boolean
  | 46 => .array .int
  | _ => .array .int
theorem nmX8 : ∀ a, a < 48 → ∀ b, b < 48 → a ≠ b → (TX8 a).2.1 ≠ (TX8 b).2.1 := by decide +kernel
theorem tyX8_ok : ∀ k, k < 48 → parseFieldDescriptor (TX8 k).2.2.1 = some (tyX8 k) := by decide +kernel
abbrev cX8_init : ByteArray := prog_10_method_1_code
def yX8_init : MethodName := ⟨RX8, "<init>", "()V"⟩
abbrev cX8_in : ByteArray := prog_10_method_2_code
def yX8_in : MethodName := ⟨RX8, "in", "(III)Z"⟩
abbrev cX8_isClass : ByteArray := prog_10_method_3_code
def yX8_isClass : MethodName := ⟨RX8, "isClass", "(I)Z"⟩
abbrev cX8_isEntry : ByteArray := prog_10_method_4_code
def yX8_isEntry : MethodName := ⟨RX8, "isEntry", "(I)Z"⟩
abbrev cX8_isJudge : ByteArray := prog_10_method_5_code
def yX8_isJudge : MethodName := ⟨RX8, "isJudge", "(I)Z"⟩
abbrev cX8_show : ByteArray := prog_10_method_6_code
def yX8_show : MethodName := ⟨RX8, "show", "(II)I"⟩
abbrev cX8_entry : ByteArray := prog_10_method_7_code
def yX8_entry : MethodName := ⟨RX8, "entry", "(I)I"⟩
abbrev cX8_prizes : ByteArray := prog_10_method_8_code
def yX8_prizes : MethodName := ⟨RX8, "prizes", "(IIII)I"⟩
abbrev cX8_rule : ByteArray := prog_10_method_9_code
def yX8_rule : MethodName := ⟨RX8, "rule", "(III)I"⟩
abbrev cX8_clearRules : ByteArray := prog_10_method_10_code
def yX8_clearRules : MethodName := ⟨RX8, "clearRules", "()I"⟩
abbrev cX8_observe : ByteArray := prog_10_method_11_code
def yX8_observe : MethodName := ⟨RX8, "observe", "(I)I"⟩
abbrev cX8_counted : ByteArray := prog_10_method_12_code
def yX8_counted : MethodName := ⟨RX8, "counted", "(I)V"⟩
abbrev cX8_goBack : ByteArray := prog_10_method_13_code
def yX8_goBack : MethodName := ⟨RX8, "goBack", "(I)V"⟩
abbrev cX8_comes : ByteArray := prog_10_method_14_code
def yX8_comes : MethodName := ⟨RX8, "comes", "(II)V"⟩
abbrev cX8_markOf : ByteArray := prog_10_method_15_code
def yX8_markOf : MethodName := ⟨RX8, "markOf", "(II)I"⟩
abbrev cX8_begin : ByteArray := prog_10_method_16_code
def yX8_begin : MethodName := ⟨RX8, "begin", "(II)I"⟩
abbrev cX8_parent : ByteArray := prog_10_method_17_code
def yX8_parent : MethodName := ⟨RX8, "parent", "(I)I"⟩
abbrev cX8_isOf : ByteArray := prog_10_method_18_code
def yX8_isOf : MethodName := ⟨RX8, "isOf", "(II)Z"⟩
abbrev cX8_holds : ByteArray := prog_10_method_19_code
def yX8_holds : MethodName := ⟨RX8, "holds", "(I)Z"⟩
abbrev cX8_judged : ByteArray := prog_10_method_20_code
def yX8_judged : MethodName := ⟨RX8, "judged", "(I)I"⟩
abbrev cX8_note : ByteArray := prog_10_method_21_code
def yX8_note : MethodName := ⟨RX8, "note", "(IIII)I"⟩
abbrev cX8_failed : ByteArray := prog_10_method_22_code
def yX8_failed : MethodName := ⟨RX8, "failed", "(II)I"⟩
abbrev cX8_placeOf : ByteArray := prog_10_method_23_code
def yX8_placeOf : MethodName := ⟨RX8, "placeOf", "(I)I"⟩
abbrev cX8_points : ByteArray := prog_10_method_24_code
def yX8_points : MethodName := ⟨RX8, "points", "(I)I"⟩
abbrev cX8_deduct : ByteArray := prog_10_method_25_code
def yX8_deduct : MethodName := ⟨RX8, "deduct", "(I)I"⟩
abbrev cX8_remark : ByteArray := prog_10_method_26_code
def yX8_remark : MethodName := ⟨RX8, "remark", "(I)I"⟩
abbrev cX8_save : ByteArray := prog_10_method_27_code
def yX8_save : MethodName := ⟨RX8, "save", "(I)I"⟩
abbrev cX8_back : ByteArray := prog_10_method_28_code
def yX8_back : MethodName := ⟨RX8, "back", "(I)I"⟩
abbrev cX8_release : ByteArray := prog_10_method_29_code
def yX8_release : MethodName := ⟨RX8, "release", "(I)I"⟩
abbrev cX8_guard : ByteArray := prog_10_method_30_code
def yX8_guard : MethodName := ⟨RX8, "guard", "(II)I"⟩
abbrev cX8_keep : ByteArray := prog_10_method_31_code
def yX8_keep : MethodName := ⟨RX8, "keep", "(I)V"⟩
abbrev cX8_end : ByteArray := prog_10_method_32_code
def yX8_end : MethodName := ⟨RX8, "end", "()I"⟩
abbrev cX8_drop : ByteArray := prog_10_method_33_code
def yX8_drop : MethodName := ⟨RX8, "drop", "()I"⟩
abbrev cX8_depth : ByteArray := prog_10_method_34_code
def yX8_depth : MethodName := ⟨RX8, "depth", "()I"⟩
abbrev cX8_scoring : ByteArray := prog_10_method_35_code
def yX8_scoring : MethodName := ⟨RX8, "scoring", "(II)I"⟩
abbrev cX8_rounded : ByteArray := prog_10_method_36_code
def yX8_rounded : MethodName := ⟨RX8, "rounded", "(II)I"⟩
abbrev cX8_totalOf : ByteArray := prog_10_method_37_code
def yX8_totalOf : MethodName := ⟨RX8, "totalOf", "(I)I"⟩
abbrev cX8_above : ByteArray := prog_10_method_38_code
def yX8_above : MethodName := ⟨RX8, "above", "(I)I"⟩
abbrev cX8_total : ByteArray := prog_10_method_39_code
def yX8_total : MethodName := ⟨RX8, "total", "()V"⟩
abbrev cX8_isBetter : ByteArray := prog_10_method_40_code
def yX8_isBetter : MethodName := ⟨RX8, "isBetter", "(II)Z"⟩
abbrev cX8_rankOf : ByteArray := prog_10_method_41_code
def yX8_rankOf : MethodName := ⟨RX8, "rankOf", "(I)I"⟩
abbrev cX8_alike : ByteArray := prog_10_method_42_code
def yX8_alike : MethodName := ⟨RX8, "alike", "(I)I"⟩
abbrev cX8_prizeOf : ByteArray := prog_10_method_43_code
def yX8_prizeOf : MethodName := ⟨RX8, "prizeOf", "(I)I"⟩
abbrev cX8_told : ByteArray := prog_10_method_44_code
def yX8_told : MethodName := ⟨RX8, "told", "(II)I"⟩
abbrev cX8_mark : ByteArray := prog_10_method_45_code
def yX8_mark : MethodName := ⟨RX8, "mark", "(II)I"⟩
abbrev cX8_place : ByteArray := prog_10_method_46_code
def yX8_place : MethodName := ⟨RX8, "place", "(II)I"⟩
abbrev cX8_close : ByteArray := prog_10_method_47_code
def yX8_close : MethodName := ⟨RX8, "close", "(I)I"⟩
abbrev cX8_about : ByteArray := prog_10_method_48_code
def yX8_about : MethodName := ⟨RX8, "about", "(II)I"⟩
abbrev cX8_uphold : ByteArray := prog_10_method_49_code
def yX8_uphold : MethodName := ⟨RX8, "uphold", "(I)I"⟩
abbrev cX8_event : ByteArray := prog_10_method_50_code
def yX8_event : MethodName := ⟨RX8, "event", "(II)I"⟩
abbrev cX8_failure : ByteArray := prog_10_method_51_code
def yX8_failure : MethodName := ⟨RX8, "failure", "(II)I"⟩
abbrev cX8_is : ByteArray := prog_10_method_52_code
def yX8_is : MethodName := ⟨RX8, "is", "(II)I"⟩
abbrev cX8_undo : ByteArray := prog_10_method_53_code
def yX8_undo : MethodName := ⟨RX8, "undo", "()I"⟩
abbrev cX8_count : ByteArray := prog_10_method_54_code
def yX8_count : MethodName := ⟨RX8, "count", "(I)I"⟩
abbrev cX8_digest : ByteArray := prog_10_method_55_code
def yX8_digest : MethodName := ⟨RX8, "digest", "()J"⟩
def RJ6 : String := "java/lang/Integer"
def TJ6 : u_T := fun k => match k with
  | _ => ("", "", "", false)
def tyJ6 : Nat → FieldType := fun k => match k with
  | _ => .int
theorem nmJ6 : ∀ a, a < 0 → ∀ b, b < 0 → a ≠ b → (TJ6 a).2.1 ≠ (TJ6 b).2.1 := by decide +kernel
theorem tyJ6_ok : ∀ k, k < 0 → parseFieldDescriptor (TJ6 k).2.2.1 = some (tyJ6 k) := by decide +kernel
abbrev cJ6_bitCount_0f7a4 : ByteArray := prog_11_method_49_code
def yJ6_bitCount_0f7a4 : MethodName := ⟨RJ6, "bitCount", "(I)I"⟩
def RJ9 : String := "java/lang/Math"
def TJ9 : u_T := fun k => match k with
  | _ => ("", "", "", false)
def tyJ9 : Nat → FieldType := fun k => match k with
  | _ => .int
theorem nmJ9 : ∀ a, a < 0 → ∀ b, b < 0 → a ≠ b → (TJ9 a).2.1 ≠ (TJ9 b).2.1 := by decide +kernel
theorem tyJ9_ok : ∀ k, k < 0 → parseFieldDescriptor (TJ9 k).2.2.1 = some (tyJ9 k) := by decide +kernel
abbrev cJ9_floorDiv_7cf53 : ByteArray := prog_12_method_47_code
def yJ9_floorDiv_7cf53 : MethodName := ⟨RJ9, "floorDiv", "(II)I"⟩
abbrev cJ9_floorMod_7cf53 : ByteArray := prog_12_method_50_code
def yJ9_floorMod_7cf53 : MethodName := ⟨RJ9, "floorMod", "(II)I"⟩
abbrev cJ9_max_7cf53 : ByteArray := prog_12_method_65_code
def yJ9_max_7cf53 : MethodName := ⟨RJ9, "max", "(II)I"⟩
abbrev cJ9_min_7cf53 : ByteArray := prog_12_method_69_code
def yJ9_min_7cf53 : MethodName := ⟨RJ9, "min", "(II)I"⟩
def RL : String := "JudgesLedgerLaw"
abbrev cL_law : ByteArray := code
def yL_law : MethodName := ⟨RL, "law", "([I)Z"⟩
abbrev vwCl : List vw_C := [(RX0, TX0, 2), (RX1, TX1, 4), (RX2, TX2, 6), (RX3, TX3, 4), (RX4, TX4, 9), (RX5, TX5, 10), (RX6, TX6, 10), (RX7, TX7, 13), (RX8, TX8, 48)]
end
section
/-! A calculus over the machine: states of a method are (place, locals, operands, cells by number). A reference is the number of its cell; q gives its address. Cell 0 is the script, cell 1 the constant row of the ledger; both are only read. -/
abbrev zc : Type := Nat × Nat × (Nat → Value)
abbrev zH : Type := Nat → zc
/-- class numbers, their slots, array kinds, the script's length, the script -/
abbrev zG : Type := (Nat → ClassId) × (Nat → Nat → Nat) × (Nat → ClassId) × Nat × (Nat → Int32)
abbrev zM : Type := MethodName × ByteArray × Nat × Option FieldType
abbrev zQ : Type := Option Value → Nat → zH → Prop
def zv (q : Nat → Nat) (v : Value) : Value := match v with
  | .ref k => .ref (q k)
  | v => v
theorem zv_cat (q : Nat → Nat) (v : Value) : (zv q v).category = v.category := by cases v <;> rfl
def zT : List Cond := lw_tbl.filter goodWord
def zws (M : zM) : List Cond := Cond.code M.1 M.2.1 M.2.2.1 M.2.2.2 :: zT
def zty : List FieldType := [.int, .boolean, .object RX4]
def zka : Nat → Int32 := fun k => ([0, 0, 1, 1, 0, 4, 4, 0, 7, 0, 9, 0] : List Int32).getD k 0
def zqo (q : Nat → Nat) : Prop := q 0 < q 2 ∧ q 1 < q 2 ∧ ∀ k, q (2 + k) = q 2 + k
theorem zqo_ge {q : Nat → Nat} (h : zqo q) {k : Nat} (hk : 2 ≤ k) : q k = q 2 + (k - 2) := by
  have e := h.2.2 (k - 2)
  rw [show 2 + (k - 2) = k by omega] at e
  exact e
theorem zqo_ne {q : Nat → Nat} (h : zqo q) {j k : Nat} (hk : 2 ≤ k) (hj : j ≠ k) : q j ≠ q k := by
  have e := zqo_ge h hk
  rcases Nat.lt_or_ge j 2 with hl | hl
  · have h0 := h.1
    have h1 := h.2.1
    rcases (show j = 0 ∨ j = 1 by omega) with rfl | rfl <;> omega
  · have e2 := zqo_ge h hl
    omega
def zok (D : zG) (q : Nat → Nat) (a : Nat) (x : zc) (H : Heap) : Prop :=
  (x.1 < 1000 → ∃ r : vw_C, vwCl[x.1]? = some r ∧ t_OB a (D.1 x.1) r.2.2 (D.2.1 x.1) H (fun j => zv q (x.2.2 j))) ∧
  (1000 ≤ x.1 → H[a]? = some (arrV (D.2.2.1 (x.1 - 1000)) x.2.1 (fun j => zv q (x.2.2 j))))
theorem zok.kept {D : zG} {q : Nat → Nat} {a : Nat} {x : zc} {H H1 : Heap} (h : zok D q a x H) (hq : H1[a]? = H[a]?) : zok D q a x H1 := by
  refine ⟨fun h1 => ?_, fun h1 => ?_⟩
  · obtain ⟨r, e1, e2⟩ := h.1 h1
    exact ⟨r, e1, e2.kept hq⟩
  · exact hq.trans (h.2 h1)
def zW (D : zG) (q : Nat → Nat) (H0 : Heap) (N : Nat) (w : zH) (H : Heap) : Prop :=
  2 ≤ N ∧ H.size = q N ∧ (∀ k, 2 ≤ k → k < N → zok D q (q k) (w k) H) ∧ (∀ a, a < q 2 → H[a]? = H0[a]?) ∧ (w 0).2.1 = D.2.2.2.1 ∧ ∀ i, (w 0).2.2 i = .int (D.2.2.2.2 i)
def zLc (q : Nat → Nat) (locs : List Loc) : Prop := ∀ x ∈ locs, q 2 ≤ x.base
def zNest : List Cond := [.methodLinkNest RX7 11 yX6_init RX7, .methodLinkNest RX7 36 yX3_init RX7, .methodLinkNest RX7 43 yX0_init RX7, .methodLinkNest RX7 50 yX1_init RX7, .methodLinkNest RX7 81 yX4_init RX7]
/-- what the tables, and the heap at the law's start, say -/
def zK (D : zG) (q : Nat → Nat) (H0 : Heap) (U : State) : Prop :=
  (∀ (c : Nat) (r : vw_C), vwCl[c]? = some r → u_Kn U r.1 r.2.1 r.2.2 (D.1 c) (D.2.1 c)) ∧
  (∀ (t : Nat) (ty : FieldType), zty[t]? = some ty → ArrOfT U (D.2.2.1 t) ty ∧ va_RA U (D.2.2.1 t) ty) ∧
  zqo q ∧ q 2 = H0.size ∧ va_Z RX7 "KIND_ABOVE" "[I" (.ref (q 1)) (fun a => q 2 ≤ a) U H0 ∧
  va_X (q 0) D.2.2.2.1 D.2.2.2.2 U H0 ∧ va_X (q 1) 12 zka U H0 ∧
  (∀ wd ∈ zNest, va_Nw wd U) ∧ va_AO RX4 U
def zCx (M : zM) (p : Program) (s : State) (m : MethodId) (args : Array Value) (meth : Method) (c : Code) (D : zG) (q : Nat → Nat) (H0 : Heap) : Prop :=
  p.tables.exec = Jvm.exec ∧ c.code = M.2.1 ∧ meth.sig.returnType = M.2.2.2 ∧ c.maxLocals = M.2.2.1 ∧ s.vm.findClass M.1.cls = some m.cls ∧ (∀ wd ∈ zws M, wd.before args s = true) ∧ meth.locks = false ∧ meth.name = M.1.name ∧ zK D q H0 s
def zL (q : Nat → Nat) (nL : Nat) (lo : List (Option Value)) (ls : Array Slot) : Prop :=
  ls.size = nL ∧ lv_wf ls ∧ ∀ (i : Nat) (v : Value), lo[i]? = some (some v) → ls[i]? = some (.val (zv q v))
abbrev zZt : Type := List Frame → Array Value → State → zG → (Nat → Nat) → Heap → State → Prop
/-- from here the method comes to its end: Z -/
def zEV (M : zM) (R : Room) (Z : zZt) (pc : Nat) (lo : List (Option Value)) (st : List Value) (N : Nat) (w : zH) (k n : Nat) : Prop :=
  ∀ (p : Program) (l : Launch) (e : Env) (s : State) (m : MethodId) (args : Array Value) (below : List Frame) (meth : Method) (c : Code) (D : zG) (q : Nat → Nat) (H0 : Heap), zCx M p s m args meth c D q H0 →
    ∀ (H : Heap) (locs : List Loc) (ls : Array Slot), zW D q H0 N w H → zLc q locs → zL q M.2.2.1 lo ls →
      W p l e R s m args below meth c H locs k n (Z below args s D q H0) (F0 m pc ls (st.map (zv q)))
def zPo (D : zG) (q : Nat → Nat) (H0 : Heap) (Q : zQ) : Array Value → State → Outcome → State → Prop := fun _ _ oc t =>
  ∃ (r : Option Value) (N : Nat) (w : zH), Q r N w ∧ oc = .returned (r.map (zv q)) ∧ zW D q H0 N w t.heap
def zZ (mc ms : Nat) (Q : zQ) : zZt := fun below args s D q H0 => MQ below (zPo D q H0 Q) args s mc ms (fun a => q 2 ≤ a)
def zrm (d mc ms : Nat) : Room := { frames := d, cells := mc, slots := ms, locals := 36 * d }
/-- a contract: with these arguments, from these cells, the method returns and Q holds of its answer and of the cells then -/
def zMt (M : zM) (d mc ms : Nat) (As : List Value) (N : Nat) (w : zH) (Q : zQ) : Prop :=
  ∀ (l : Launch) (D : zG) (q : Nat → Nat) (H0 : Heap), Met l M.1 (zws M) (zrm d mc ms) (va_Pc (As.map (zv q)) (fun U => zW D q H0 N w U.heap ∧ zK D q H0 U)) (zPo D q H0 Q) mc ms (fun a => q 2 ≤ a)
def zIs (M : zM) (pc : Nat) (i : ClassFile.Instr) (len pc' : Nat) : Prop := decode M.2.1 pc = .ok (i, len) ∧ pc + len = pc'
def zBr (M : zM) (pc : Nat) (mk : Int → ClassFile.Instr) (tgt pc' : Nat) : Prop := ∃ off : Int, decode M.2.1 pc = .ok (mk off, 3) ∧ (pc : Int) + off = (tgt : Int) ∧ pc + 3 = pc'
/-! locals -/
def zkp (lo : List (Option Value)) (i : Nat) : Bool := match i with
  | 0 => true
  | j + 1 => match lo[j]? with
    | some (some (.long _)) => false
    | some (some (.double _)) => false
    | _ => true
theorem zkp_use {lo : List (Option Value)} {i j : Nat} {v : Value} (h : zkp lo i = true) (hj : j + 1 = i) (hv : lo[j]? = some (some v)) : v.category = 1 := by
  subst hj
  simp only [zkp, hv] at h
  cases v <;> first | rfl | simp at h
theorem zL_store1 {q : Nat → Nat} {nL : Nat} {lo : List (Option Value)} {ls : Array Slot} {i : Nat} {v : Value} (h : zL q nL lo ls) (hi : i < nL) (hc : v.category = 1) (hk : zkp lo i = true) :
    ∃ ls', storeLocals ls i (zv q v) = some ls' ∧ zL q nL (lo.set i (some v)) ls' := by
  obtain ⟨h1, h2, h3⟩ := h
  obtain ⟨ls', e', h'⟩ := lv_store1 (l := []) (v := zv q v) ⟨h1, h2, fun x hx => by cases hx⟩ hi (by rw [zv_cat]; exact hc)
  refine ⟨ls', e', h'.1, h'.2.1, fun j u hj => ?_⟩
  by_cases hji : i = j
  · subst hji
    have hu : u = v := by
      by_cases hl : i < lo.length
      · rw [List.getElem?_set_self hl] at hj
        simp at hj
        exact hj.symm
      · rw [List.getElem?_eq_none (by simpa using hl)] at hj
        cases hj
    subst hu
    exact h'.2.2 (i, zv q u) (by simp)
  · rw [List.getElem?_set_ne hji] at hj
    obtain ⟨l2, e2, g2⟩ := lv_store1 (l := [(j, zv q u)]) (v := zv q v) ⟨h1, h2, fun x hx => by simp at hx; subst hx; exact h3 j u hj⟩ hi (by rw [zv_cat]; exact hc)
    have e3 : l2 = ls' := Option.some.inj (e2.symm.trans e')
    subst e3
    refine g2.2.2 (j, zv q u) ?_
    refine List.mem_cons_of_mem _ (List.mem_filter.mpr ⟨by simp, ?_⟩)
    have n1 : ¬ j = i := fun x => hji x.symm
    by_cases hj1 : j + 1 = i
    · have hcu := zkp_use hk hj1 hj
      simp [n1, zv_cat, hcu]
    · simp [n1, hj1]
theorem zL_store2 {q : Nat → Nat} {nL : Nat} {lo : List (Option Value)} {ls : Array Slot} {i : Nat} {v : Value} (h : zL q nL lo ls) (hi : i + 1 < nL) (hc : v.category = 2) (hk : zkp lo i = true) :
    ∃ ls', storeLocals ls i (zv q v) = some ls' ∧ zL q nL ((lo.set i (some v)).set (i + 1) none) ls' := by
  obtain ⟨h1, h2, h3⟩ := h
  obtain ⟨ls', e', h'⟩ := lv_store2 (l := []) (v := zv q v) ⟨h1, h2, fun x hx => by cases hx⟩ hi (by rw [zv_cat]; exact hc)
  refine ⟨ls', e', h'.1, h'.2.1, fun j u hj => ?_⟩
  by_cases hj2 : i + 1 = j
  · subst hj2
    by_cases hl : i + 1 < (lo.set i (some v)).length
    · rw [List.getElem?_set_self hl] at hj
      simp at hj
    · rw [List.getElem?_eq_none (by simpa using hl)] at hj
      cases hj
  · rw [List.getElem?_set_ne hj2] at hj
    by_cases hji : i = j
    · subst hji
      have hu : u = v := by
        by_cases hl : i < lo.length
        · rw [List.getElem?_set_self hl] at hj
          simp at hj
          exact hj.symm
        · rw [List.getElem?_eq_none (by simpa using hl)] at hj
          cases hj
      subst hu
      exact h'.2.2 (i, zv q u) (by simp)
    · rw [List.getElem?_set_ne hji] at hj
      obtain ⟨l2, e2, g2⟩ := lv_store2 (l := [(j, zv q u)]) (v := zv q v) ⟨h1, h2, fun x hx => by simp at hx; subst hx; exact h3 j u hj⟩ hi (by rw [zv_cat]; exact hc)
      have e3 : l2 = ls' := Option.some.inj (e2.symm.trans e')
      subst e3
      refine g2.2.2 (j, zv q u) ?_
      refine List.mem_cons_of_mem _ (List.mem_filter.mpr ⟨by simp, ?_⟩)
      have n1 : ¬ j = i := fun x => hji x.symm
      have n2 : ¬ j = i + 1 := fun x => hj2 x.symm
      by_cases hj1 : j + 1 = i
      · have hcu := zkp_use hk hj1 hj
        simp [n1, n2, zv_cat, hcu]
      · simp [n1, n2, hj1]
def zlo : List Value → List (Option Value)
  | [] => []
  | v :: r => if v.category = 2 then some v :: none :: zlo r else some v :: zlo r
end
section
section ZR
variable {M : zM} {R : Room} {Z : zZt} {pc pc' tgt : Nat} {lo : List (Option Value)} {st : List Value} {N : Nat} {w : zH} {k n : Nat}
/-- a number is pushed -/
def zPi (M : zM) (pc : Nat) (v : Int32) (pc' : Nat) : Prop :=
  (∃ i : Int, decode M.2.1 pc = .ok (.iconst i, 1) ∧ Int32.ofInt i = v ∧ pc + 1 = pc') ∨ (∃ i : Int, decode M.2.1 pc = .ok (.bipush i, 2) ∧ (Int8.ofInt i).toInt32 = v ∧ pc + 2 = pc') ∨ (∃ i : Int, decode M.2.1 pc = .ok (.sipush i, 3) ∧ (Int16.ofInt i).toInt32 = v ∧ pc + 3 = pc') ∨
  (∃ i : Nat, decode M.2.1 pc = .ok (.ldc i, 2) ∧ Cond.constant M.1.cls i v ∈ zT ∧ pc + 2 = pc') ∨ (∃ i : Nat, decode M.2.1 pc = .ok (.ldc_w i, 3) ∧ Cond.constant M.1.cls i v ∈ zT ∧ pc + 3 = pc')
theorem zT_use {M : zM} {p : Program} {s : State} {m : MethodId} {args : Array Value} {meth : Method} {c : Code} {D : zG} {q : Nat → Nat} {H0 : Heap} (C : zCx M p s m args meth c D q H0) {wd : Cond} (h : wd ∈ zT) : wd.before args s = true := C.2.2.2.2.2.1 wd (List.mem_cons_of_mem _ h)
theorem z_push {v : Int32} (hi : zPi M pc v pc') (kk : zEV M R Z pc' lo (.int v :: st) N w k n) : zEV M R Z pc lo st N w k n := by
  intro p l e s m args below meth c D q H0 C H locs ls HW HC HL
  have K := kk p l e s m args below meth c D q H0 C H locs ls HW HC HL
  rcases hi with ⟨i, hd, hv, rfl⟩ | ⟨i, hd, hv, rfl⟩ | ⟨i, hd, hv, rfl⟩ | ⟨i, hd, hv, rfl⟩ | ⟨i, hd, hv, rfl⟩
  · exact lv_iconst C.1 C.2.1 hd hv K
  · exact lv_bipush C.1 C.2.1 hd hv K
  · exact lv_sipush C.1 C.2.1 hd hv K
  · exact lv_ldc C.1 C.2.1 C.2.2.2.2.1 (zT_use C hv) hd K
  · exact lv_ldcw C.1 C.2.1 C.2.2.2.2.1 (zT_use C hv) hd K
def zPl (M : zM) (pc : Nat) (v : Int64) (pc' : Nat) : Prop := ∃ i : Nat, decode M.2.1 pc = .ok (.ldc2_w i, 3) ∧ Cond.constantLong M.1.cls i v ∈ zT ∧ pc + 3 = pc'
theorem z_pushl {v : Int64} (hi : zPl M pc v pc') (kk : zEV M R Z pc' lo (.long v :: st) N w k n) : zEV M R Z pc lo st N w k n := by
  intro p l e s m args below meth c D q H0 C H locs ls HW HC HL
  have K := kk p l e s m args below meth c D q H0 C H locs ls HW HC HL
  obtain ⟨i, hd, hv, rfl⟩ := hi
  exact lv_ldc2 C.1 C.2.1 C.2.2.2.2.1 (zT_use C hv) hd K
/-- drop a stale local -/
theorem z_sub {lo' : List (Option Value)} (h : ∀ (i : Nat) (v : Value), lo'[i]? = some (some v) → lo[i]? = some (some v)) (kk : zEV M R Z pc lo' st N w k n) : zEV M R Z pc lo st N w k n := by
  intro p l e s m args below meth c D q H0 C H locs ls HW HC HL
  exact kk p l e s m args below meth c D q H0 C H locs ls HW HC ⟨HL.1, HL.2.1, fun i v hv => HL.2.2 i v (h i v hv)⟩

def zLi (M : zM) (pc i pc' : Nat) : Prop := (∃ j : Fin 4, decode M.2.1 pc = .ok (.iload_n j, 1) ∧ (j : Nat) = i ∧ pc + 1 = pc') ∨ (decode M.2.1 pc = .ok (.iload i, 2) ∧ pc + 2 = pc')
theorem z_iload {i : Nat} {x : Int32} (hi : zLi M pc i pc') (hl : lo[i]? = some (some (.int x))) (kk : zEV M R Z pc' lo (.int x :: st) N w k n) : zEV M R Z pc lo st N w k n := by
  intro p l e s m args below meth c D q H0 C H locs ls HW HC HL
  have K := kk p l e s m args below meth c D q H0 C H locs ls HW HC HL
  rcases hi with ⟨j, hd, hj, rfl⟩ | ⟨hd, rfl⟩
  · exact lv_iload_n C.1 C.2.1 hd hj (HL.2.2 i _ hl) K
  · exact lv_iload C.1 C.2.1 hd (HL.2.2 i _ hl) K

def zSi (M : zM) (pc i pc' : Nat) : Prop := ((∃ j : Fin 4, decode M.2.1 pc = .ok (.istore_n j, 1) ∧ (j : Nat) = i ∧ pc + 1 = pc') ∨ (decode M.2.1 pc = .ok (.istore i, 2) ∧ pc + 2 = pc')) ∧ i < M.2.2.1
theorem z_istore {i : Nat} {x : Int32} (hi : zSi M pc i pc') (hk : zkp lo i = true) (kk : zEV M R Z pc' (lo.set i (some (.int x))) st N w k n) : zEV M R Z pc lo (.int x :: st) N w k n := by
  intro p l e s m args below meth c D q H0 C H locs ls HW HC HL
  obtain ⟨hi, hb⟩ := hi
  obtain ⟨ls', e', h'⟩ := zL_store1 (v := .int x) HL hb rfl hk
  have K := kk p l e s m args below meth c D q H0 C H locs ls' HW HC h'
  intro T hT X
  obtain ⟨t, a, b⟩ := K T hT X
  have hexec := C.1
  have hbb := C.2.1
  refine ⟨t, ?_, b⟩
  have e2 : storeLocals ls i (zv q (.int x)) = some ls' := e'
  simp only [zv] at e2
  rcases hi with ⟨j, hdg, hj, rfl⟩ | ⟨hdg, rfl⟩
  · subst hj
    simp only [List.map_cons, zv]
    jvm_step X.here [X.here.top, ↓top_set X.here.top, hexec, hbb, hdg, e2]
    exact a
  · simp only [List.map_cons, zv]
    jvm_step X.here [X.here.top, ↓top_set X.here.top, hexec, hbb, hdg, e2]
    exact a

def zLa (M : zM) (pc i pc' : Nat) : Prop := (∃ j : Fin 4, decode M.2.1 pc = .ok (.aload_n j, 1) ∧ (j : Nat) = i ∧ pc + 1 = pc') ∨ (decode M.2.1 pc = .ok (.aload i, 2) ∧ pc + 2 = pc')
theorem z_aload {i : Nat} {x : Nat} (hi : zLa M pc i pc') (hl : lo[i]? = some (some (.ref x))) (kk : zEV M R Z pc' lo (.ref x :: st) N w k n) : zEV M R Z pc lo st N w k n := by
  intro p l e s m args below meth c D q H0 C H locs ls HW HC HL
  have K := kk p l e s m args below meth c D q H0 C H locs ls HW HC HL
  rcases hi with ⟨j, hd, hj, rfl⟩ | ⟨hd, rfl⟩
  · exact lv_aload_n C.1 C.2.1 hd hj (HL.2.2 i _ hl) K
  · exact lv_aload C.1 C.2.1 hd (HL.2.2 i _ hl) K

def zSa (M : zM) (pc i pc' : Nat) : Prop := ((∃ j : Fin 4, decode M.2.1 pc = .ok (.astore_n j, 1) ∧ (j : Nat) = i ∧ pc + 1 = pc') ∨ (decode M.2.1 pc = .ok (.astore i, 2) ∧ pc + 2 = pc')) ∧ i < M.2.2.1
theorem z_astore {i : Nat} {x : Nat} (hi : zSa M pc i pc') (hk : zkp lo i = true) (kk : zEV M R Z pc' (lo.set i (some (.ref x))) st N w k n) : zEV M R Z pc lo (.ref x :: st) N w k n := by
  intro p l e s m args below meth c D q H0 C H locs ls HW HC HL
  obtain ⟨hi, hb⟩ := hi
  obtain ⟨ls', e', h'⟩ := zL_store1 (v := .ref x) HL hb rfl hk
  have K := kk p l e s m args below meth c D q H0 C H locs ls' HW HC h'
  intro T hT X
  obtain ⟨t, a, b⟩ := K T hT X
  have hexec := C.1
  have hbb := C.2.1
  refine ⟨t, ?_, b⟩
  have e2 : storeLocals ls i (zv q (.ref x)) = some ls' := e'
  simp only [zv] at e2
  rcases hi with ⟨j, hdg, hj, rfl⟩ | ⟨hdg, rfl⟩
  · subst hj
    simp only [List.map_cons, zv]
    jvm_step X.here [X.here.top, ↓top_set X.here.top, hexec, hbb, hdg, e2, Value.isRef]
    exact a
  · simp only [List.map_cons, zv]
    jvm_step X.here [X.here.top, ↓top_set X.here.top, hexec, hbb, hdg, e2, Value.isRef]
    exact a

def zLl (M : zM) (pc i pc' : Nat) : Prop := (∃ j : Fin 4, decode M.2.1 pc = .ok (.lload_n j, 1) ∧ (j : Nat) = i ∧ pc + 1 = pc') ∨ (decode M.2.1 pc = .ok (.lload i, 2) ∧ pc + 2 = pc')
theorem z_lload {i : Nat} {x : Int64} (hi : zLl M pc i pc') (hl : lo[i]? = some (some (.long x))) (kk : zEV M R Z pc' lo (.long x :: st) N w k n) : zEV M R Z pc lo st N w k n := by
  intro p l e s m args below meth c D q H0 C H locs ls HW HC HL
  have K := kk p l e s m args below meth c D q H0 C H locs ls HW HC HL
  rcases hi with ⟨j, hd, hj, rfl⟩ | ⟨hd, rfl⟩
  · exact lv_lload_n C.1 C.2.1 hd hj (HL.2.2 i _ hl) K
  · exact lv_lload C.1 C.2.1 hd (HL.2.2 i _ hl) K

def zSl (M : zM) (pc i pc' : Nat) : Prop := ((∃ j : Fin 4, decode M.2.1 pc = .ok (.lstore_n j, 1) ∧ (j : Nat) = i ∧ pc + 1 = pc') ∨ (decode M.2.1 pc = .ok (.lstore i, 2) ∧ pc + 2 = pc')) ∧ i + 1 < M.2.2.1
theorem z_lstore {i : Nat} {x : Int64} (hi : zSl M pc i pc') (hk : zkp lo i = true) (kk : zEV M R Z pc' ((lo.set i (some (.long x))).set (i + 1) none) st N w k n) : zEV M R Z pc lo (.long x :: st) N w k n := by
  intro p l e s m args below meth c D q H0 C H locs ls HW HC HL
  obtain ⟨hi, hb⟩ := hi
  obtain ⟨ls', e', h'⟩ := zL_store2 (v := .long x) HL hb rfl hk
  have K := kk p l e s m args below meth c D q H0 C H locs ls' HW HC h'
  intro T hT X
  obtain ⟨t, a, b⟩ := K T hT X
  have hexec := C.1
  have hbb := C.2.1
  refine ⟨t, ?_, b⟩
  have e2 : storeLocals ls i (zv q (.long x)) = some ls' := e'
  simp only [zv] at e2
  rcases hi with ⟨j, hdg, hj, rfl⟩ | ⟨hdg, rfl⟩
  · subst hj
    simp only [List.map_cons, zv]
    jvm_step X.here [X.here.top, ↓top_set X.here.top, hexec, hbb, hdg, e2]
    exact a
  · simp only [List.map_cons, zv]
    jvm_step X.here [X.here.top, ↓top_set X.here.top, hexec, hbb, hdg, e2]
    exact a

theorem z_iinc {i : Nat} {d : Int} {v x : Int32} (hi : zIs M pc (.iinc i d) 3 pc') (hv : Int32.ofInt d = v) (hb : i < M.2.2.1) (hl : lo[i]? = some (some (.int x))) (hk : zkp lo i = true) (kk : zEV M R Z pc' (lo.set i (some (.int (x + v)))) st N w k n) : zEV M R Z pc lo st N w k n := by
  intro p l e s m args below meth c D q H0 C H locs ls HW HC HL
  obtain ⟨hdg, rfl⟩ := hi
  subst hv
  obtain ⟨ls', e', h'⟩ := zL_store1 (v := .int (x + Int32.ofInt d)) HL hb rfl hk
  have K := kk p l e s m args below meth c D q H0 C H locs ls' HW HC h'
  have hg : ls[i]? = some (.val (.int x)) := HL.2.2 i _ hl
  intro T hT X
  obtain ⟨t, a, b⟩ := K T hT X
  have hexec := C.1
  have hbb := C.2.1
  refine ⟨t, ?_, b⟩
  have e2 : storeLocals ls i (.int (x + Int32.ofInt d)) = some ls' := e'
  jvm_step X.here [X.here.top, ↓top_set X.here.top, hexec, hbb, hdg, hg, e2]
  exact a

theorem z_iadd {x y : Int32} (hi : zIs M pc .iadd 1 pc')  (kk : zEV M R Z pc' lo (.int (x + y) :: st) N w k n) : zEV M R Z pc lo (.int y :: .int x :: st) N w k n := by
  intro p l e s m args below meth c D q H0 C H locs ls HW HC HL
  obtain ⟨hd, rfl⟩ := hi
  exact lv_iadd C.1 C.2.1 hd  (kk p l e s m args below meth c D q H0 C H locs ls HW HC HL)

theorem z_isub {x y : Int32} (hi : zIs M pc .isub 1 pc')  (kk : zEV M R Z pc' lo (.int (x - y) :: st) N w k n) : zEV M R Z pc lo (.int y :: .int x :: st) N w k n := by
  intro p l e s m args below meth c D q H0 C H locs ls HW HC HL
  obtain ⟨hd, rfl⟩ := hi
  exact lv_isub C.1 C.2.1 hd  (kk p l e s m args below meth c D q H0 C H locs ls HW HC HL)

theorem z_imul {x y : Int32} (hi : zIs M pc .imul 1 pc')  (kk : zEV M R Z pc' lo (.int (x * y) :: st) N w k n) : zEV M R Z pc lo (.int y :: .int x :: st) N w k n := by
  intro p l e s m args below meth c D q H0 C H locs ls HW HC HL
  obtain ⟨hd, rfl⟩ := hi
  exact lv_imul C.1 C.2.1 hd  (kk p l e s m args below meth c D q H0 C H locs ls HW HC HL)

theorem z_iand {x y : Int32} (hi : zIs M pc .iand 1 pc')  (kk : zEV M R Z pc' lo (.int (x &&& y) :: st) N w k n) : zEV M R Z pc lo (.int y :: .int x :: st) N w k n := by
  intro p l e s m args below meth c D q H0 C H locs ls HW HC HL
  obtain ⟨hd, rfl⟩ := hi
  exact lv_iand C.1 C.2.1 hd  (kk p l e s m args below meth c D q H0 C H locs ls HW HC HL)

theorem z_ior {x y : Int32} (hi : zIs M pc .ior 1 pc')  (kk : zEV M R Z pc' lo (.int (x ||| y) :: st) N w k n) : zEV M R Z pc lo (.int y :: .int x :: st) N w k n := by
  intro p l e s m args below meth c D q H0 C H locs ls HW HC HL
  obtain ⟨hd, rfl⟩ := hi
  exact lv_ior C.1 C.2.1 hd  (kk p l e s m args below meth c D q H0 C H locs ls HW HC HL)

theorem z_ixor {x y : Int32} (hi : zIs M pc .ixor 1 pc')  (kk : zEV M R Z pc' lo (.int (x ^^^ y) :: st) N w k n) : zEV M R Z pc lo (.int y :: .int x :: st) N w k n := by
  intro p l e s m args below meth c D q H0 C H locs ls HW HC HL
  obtain ⟨hd, rfl⟩ := hi
  exact lv_ixor C.1 C.2.1 hd  (kk p l e s m args below meth c D q H0 C H locs ls HW HC HL)

theorem z_ishl {x y : Int32} (hi : zIs M pc .ishl 1 pc')  (kk : zEV M R Z pc' lo (.int (x <<< (y &&& 31)) :: st) N w k n) : zEV M R Z pc lo (.int y :: .int x :: st) N w k n := by
  intro p l e s m args below meth c D q H0 C H locs ls HW HC HL
  obtain ⟨hd, rfl⟩ := hi
  exact lv_ishl C.1 C.2.1 hd  (kk p l e s m args below meth c D q H0 C H locs ls HW HC HL)

theorem z_ishr {x y : Int32} (hi : zIs M pc .ishr 1 pc')  (kk : zEV M R Z pc' lo (.int (x >>> (y &&& 31)) :: st) N w k n) : zEV M R Z pc lo (.int y :: .int x :: st) N w k n := by
  intro p l e s m args below meth c D q H0 C H locs ls HW HC HL
  obtain ⟨hd, rfl⟩ := hi
  exact lv_ishr C.1 C.2.1 hd  (kk p l e s m args below meth c D q H0 C H locs ls HW HC HL)

theorem z_iushr {x y : Int32} (hi : zIs M pc .iushr 1 pc')  (kk : zEV M R Z pc' lo (.int ((x.toUInt32 >>> (y.toUInt32 &&& Int32.toUInt32 31)).toInt32) :: st) N w k n) : zEV M R Z pc lo (.int y :: .int x :: st) N w k n := by
  intro p l e s m args below meth c D q H0 C H locs ls HW HC HL
  obtain ⟨hd, rfl⟩ := hi
  exact lv_iushr C.1 C.2.1 hd rfl (kk p l e s m args below meth c D q H0 C H locs ls HW HC HL)

theorem z_idiv {x y : Int32} (hi : zIs M pc .idiv 1 pc') (h0 : ¬ y = 0) (kk : zEV M R Z pc' lo (.int (x / y) :: st) N w k n) : zEV M R Z pc lo (.int y :: .int x :: st) N w k n := by
  intro p l e s m args below meth c D q H0 C H locs ls HW HC HL
  obtain ⟨hd, rfl⟩ := hi
  exact lv_idiv C.1 C.2.1 hd h0 (kk p l e s m args below meth c D q H0 C H locs ls HW HC HL)

theorem z_irem {x y : Int32} (hi : zIs M pc .irem 1 pc') (h0 : ¬ y = 0) (kk : zEV M R Z pc' lo (.int (x - x / y * y) :: st) N w k n) : zEV M R Z pc lo (.int y :: .int x :: st) N w k n := by
  intro p l e s m args below meth c D q H0 C H locs ls HW HC HL
  obtain ⟨hd, rfl⟩ := hi
  exact lv_irem C.1 C.2.1 hd h0 (kk p l e s m args below meth c D q H0 C H locs ls HW HC HL)

theorem z_ineg {x : Int32} (hi : zIs M pc .ineg 1 pc')  (kk : zEV M R Z pc' lo (.int (-x) :: st) N w k n) : zEV M R Z pc lo (.int x :: st) N w k n := by
  intro p l e s m args below meth c D q H0 C H locs ls HW HC HL
  obtain ⟨hd, rfl⟩ := hi
  exact lv_ineg C.1 C.2.1 hd  (kk p l e s m args below meth c D q H0 C H locs ls HW HC HL)

theorem z_i2l {x : Int32} (hi : zIs M pc .i2l 1 pc')  (kk : zEV M R Z pc' lo (.long x.toInt64 :: st) N w k n) : zEV M R Z pc lo (.int x :: st) N w k n := by
  intro p l e s m args below meth c D q H0 C H locs ls HW HC HL
  obtain ⟨hd, rfl⟩ := hi
  exact lv_i2l C.1 C.2.1 hd rfl (kk p l e s m args below meth c D q H0 C H locs ls HW HC HL)

theorem z_ladd {x y : Int64} (hi : zIs M pc .ladd 1 pc')  (kk : zEV M R Z pc' lo (.long (x + y) :: st) N w k n) : zEV M R Z pc lo (.long y :: .long x :: st) N w k n := by
  intro p l e s m args below meth c D q H0 C H locs ls HW HC HL
  obtain ⟨hd, rfl⟩ := hi
  exact lv_ladd C.1 C.2.1 hd  (kk p l e s m args below meth c D q H0 C H locs ls HW HC HL)

theorem z_lsub {x y : Int64} (hi : zIs M pc .lsub 1 pc')  (kk : zEV M R Z pc' lo (.long (x - y) :: st) N w k n) : zEV M R Z pc lo (.long y :: .long x :: st) N w k n := by
  intro p l e s m args below meth c D q H0 C H locs ls HW HC HL
  obtain ⟨hd, rfl⟩ := hi
  exact lv_lsub C.1 C.2.1 hd  (kk p l e s m args below meth c D q H0 C H locs ls HW HC HL)

theorem z_lmul {x y : Int64} (hi : zIs M pc .lmul 1 pc')  (kk : zEV M R Z pc' lo (.long (x * y) :: st) N w k n) : zEV M R Z pc lo (.long y :: .long x :: st) N w k n := by
  intro p l e s m args below meth c D q H0 C H locs ls HW HC HL
  obtain ⟨hd, rfl⟩ := hi
  exact lv_lmul C.1 C.2.1 hd  (kk p l e s m args below meth c D q H0 C H locs ls HW HC HL)

theorem z_lneg {x : Int64} (hi : zIs M pc .lneg 1 pc')  (kk : zEV M R Z pc' lo (.long (-x) :: st) N w k n) : zEV M R Z pc lo (.long x :: st) N w k n := by
  intro p l e s m args below meth c D q H0 C H locs ls HW HC HL
  obtain ⟨hd, rfl⟩ := hi
  exact lv_lneg C.1 C.2.1 hd  (kk p l e s m args below meth c D q H0 C H locs ls HW HC HL)

theorem z_lcmp {x y : Int64} (hi : zIs M pc .lcmp 1 pc')  (kk : zEV M R Z pc' lo (.int (lg_cmp x y) :: st) N w k n) : zEV M R Z pc lo (.long y :: .long x :: st) N w k n := by
  intro p l e s m args below meth c D q H0 C H locs ls HW HC HL
  obtain ⟨hd, rfl⟩ := hi
  exact W.lcmp C.1 C.2.1 hd  (kk p l e s m args below meth c D q H0 C H locs ls HW HC HL)

theorem z_dup {v : Value} (hi : zIs M pc .dup 1 pc') (hc : v.category = 1) (kk : zEV M R Z pc' lo (v :: v :: st) N w k n) : zEV M R Z pc lo (v :: st) N w k n := by
  intro p l e s m args below meth c D q H0 C H locs ls HW HC HL
  obtain ⟨hd, rfl⟩ := hi
  exact lv_dup C.1 C.2.1 hd (by rw [zv_cat]; exact hc) (kk p l e s m args below meth c D q H0 C H locs ls HW HC HL)

theorem z_pop {v : Value} (hi : zIs M pc .pop 1 pc') (hc : v.category = 1) (kk : zEV M R Z pc' lo (st) N w k n) : zEV M R Z pc lo (v :: st) N w k n := by
  intro p l e s m args below meth c D q H0 C H locs ls HW HC HL
  obtain ⟨hd, rfl⟩ := hi
  exact lv_pop C.1 C.2.1 hd (by rw [zv_cat]; exact hc) (kk p l e s m args below meth c D q H0 C H locs ls HW HC HL)

theorem z_dup2 {v u : Value} (hi : zIs M pc .dup2 1 pc') (hc : v.category = 1) (hc2 : u.category = 1) (kk : zEV M R Z pc' lo (v :: u :: v :: u :: st) N w k n) : zEV M R Z pc lo (v :: u :: st) N w k n := by
  intro p l e s m args below meth c D q H0 C H locs ls HW HC HL
  obtain ⟨hd, rfl⟩ := hi
  exact lv_dup2_11 C.1 C.2.1 hd (by rw [zv_cat]; exact hc) (by rw [zv_cat]; exact hc2) (kk p l e s m args below meth c D q H0 C H locs ls HW HC HL)

theorem z_goto (hi : zBr M pc .goto tgt pc') (kk : zEV M R Z tgt lo st N w k n) : zEV M R Z pc lo st N w k n := by
  intro p l e s m args below meth c D q H0 C H locs ls HW HC HL
  obtain ⟨off, hd, ht, -⟩ := hi
  exact lv_goto C.1 C.2.1 hd ht (kk p l e s m args below meth c D q H0 C H locs ls HW HC HL)

theorem z_icmp_eq {x y : Int32} (hi : zBr M pc (.if_icmp .eq) tgt pc') (kt : x = y → zEV M R Z tgt lo st N w k n) (kf : ¬ x = y → zEV M R Z pc' lo st N w k n) : zEV M R Z pc lo (.int y :: .int x :: st) N w k n := by
  intro p l e s m args below meth c D q H0 C H locs ls HW HC HL
  obtain ⟨off, hd, ht, rfl⟩ := hi
  exact lv_icmp_eq C.1 C.2.1 hd ht (fun h => kt h p l e s m args below meth c D q H0 C H locs ls HW HC HL) (fun h => kf h p l e s m args below meth c D q H0 C H locs ls HW HC HL)

theorem z_if_eq {x : Int32} (hi : zBr M pc (.ifCond .eq) tgt pc') (kt : x = 0 → zEV M R Z tgt lo st N w k n) (kf : ¬ x = 0 → zEV M R Z pc' lo st N w k n) : zEV M R Z pc lo (.int x :: st) N w k n := by
  intro p l e s m args below meth c D q H0 C H locs ls HW HC HL
  obtain ⟨off, hd, ht, rfl⟩ := hi
  exact lv_if_eq C.1 C.2.1 hd ht (fun h => kt h p l e s m args below meth c D q H0 C H locs ls HW HC HL) (fun h => kf h p l e s m args below meth c D q H0 C H locs ls HW HC HL)

theorem z_icmp_ne {x y : Int32} (hi : zBr M pc (.if_icmp .ne) tgt pc') (kt : ¬ x = y → zEV M R Z tgt lo st N w k n) (kf : x = y → zEV M R Z pc' lo st N w k n) : zEV M R Z pc lo (.int y :: .int x :: st) N w k n := by
  intro p l e s m args below meth c D q H0 C H locs ls HW HC HL
  obtain ⟨off, hd, ht, rfl⟩ := hi
  exact lv_icmp_ne C.1 C.2.1 hd ht (fun h => kt h p l e s m args below meth c D q H0 C H locs ls HW HC HL) (fun h => kf h p l e s m args below meth c D q H0 C H locs ls HW HC HL)

theorem z_if_ne {x : Int32} (hi : zBr M pc (.ifCond .ne) tgt pc') (kt : ¬ x = 0 → zEV M R Z tgt lo st N w k n) (kf : x = 0 → zEV M R Z pc' lo st N w k n) : zEV M R Z pc lo (.int x :: st) N w k n := by
  intro p l e s m args below meth c D q H0 C H locs ls HW HC HL
  obtain ⟨off, hd, ht, rfl⟩ := hi
  exact lv_if_ne C.1 C.2.1 hd ht (fun h => kt h p l e s m args below meth c D q H0 C H locs ls HW HC HL) (fun h => kf h p l e s m args below meth c D q H0 C H locs ls HW HC HL)

theorem z_icmp_lt {x y : Int32} (hi : zBr M pc (.if_icmp .lt) tgt pc') (kt : x < y → zEV M R Z tgt lo st N w k n) (kf : ¬ x < y → zEV M R Z pc' lo st N w k n) : zEV M R Z pc lo (.int y :: .int x :: st) N w k n := by
  intro p l e s m args below meth c D q H0 C H locs ls HW HC HL
  obtain ⟨off, hd, ht, rfl⟩ := hi
  exact lv_icmp_lt C.1 C.2.1 hd ht (fun h => kt h p l e s m args below meth c D q H0 C H locs ls HW HC HL) (fun h => kf h p l e s m args below meth c D q H0 C H locs ls HW HC HL)

theorem z_if_lt {x : Int32} (hi : zBr M pc (.ifCond .lt) tgt pc') (kt : x < 0 → zEV M R Z tgt lo st N w k n) (kf : ¬ x < 0 → zEV M R Z pc' lo st N w k n) : zEV M R Z pc lo (.int x :: st) N w k n := by
  intro p l e s m args below meth c D q H0 C H locs ls HW HC HL
  obtain ⟨off, hd, ht, rfl⟩ := hi
  exact lv_if_lt C.1 C.2.1 hd ht (fun h => kt h p l e s m args below meth c D q H0 C H locs ls HW HC HL) (fun h => kf h p l e s m args below meth c D q H0 C H locs ls HW HC HL)

theorem z_icmp_ge {x y : Int32} (hi : zBr M pc (.if_icmp .ge) tgt pc') (kt : y ≤ x → zEV M R Z tgt lo st N w k n) (kf : ¬ y ≤ x → zEV M R Z pc' lo st N w k n) : zEV M R Z pc lo (.int y :: .int x :: st) N w k n := by
  intro p l e s m args below meth c D q H0 C H locs ls HW HC HL
  obtain ⟨off, hd, ht, rfl⟩ := hi
  exact lv_icmp_ge C.1 C.2.1 hd ht (fun h => kt h p l e s m args below meth c D q H0 C H locs ls HW HC HL) (fun h => kf h p l e s m args below meth c D q H0 C H locs ls HW HC HL)

theorem z_if_ge {x : Int32} (hi : zBr M pc (.ifCond .ge) tgt pc') (kt : 0 ≤ x → zEV M R Z tgt lo st N w k n) (kf : ¬ 0 ≤ x → zEV M R Z pc' lo st N w k n) : zEV M R Z pc lo (.int x :: st) N w k n := by
  intro p l e s m args below meth c D q H0 C H locs ls HW HC HL
  obtain ⟨off, hd, ht, rfl⟩ := hi
  exact lv_if_ge C.1 C.2.1 hd ht (fun h => kt h p l e s m args below meth c D q H0 C H locs ls HW HC HL) (fun h => kf h p l e s m args below meth c D q H0 C H locs ls HW HC HL)

theorem z_icmp_gt {x y : Int32} (hi : zBr M pc (.if_icmp .gt) tgt pc') (kt : y < x → zEV M R Z tgt lo st N w k n) (kf : ¬ y < x → zEV M R Z pc' lo st N w k n) : zEV M R Z pc lo (.int y :: .int x :: st) N w k n := by
  intro p l e s m args below meth c D q H0 C H locs ls HW HC HL
  obtain ⟨off, hd, ht, rfl⟩ := hi
  exact lv_icmp_gt C.1 C.2.1 hd ht (fun h => kt h p l e s m args below meth c D q H0 C H locs ls HW HC HL) (fun h => kf h p l e s m args below meth c D q H0 C H locs ls HW HC HL)

theorem z_if_gt {x : Int32} (hi : zBr M pc (.ifCond .gt) tgt pc') (kt : 0 < x → zEV M R Z tgt lo st N w k n) (kf : ¬ 0 < x → zEV M R Z pc' lo st N w k n) : zEV M R Z pc lo (.int x :: st) N w k n := by
  intro p l e s m args below meth c D q H0 C H locs ls HW HC HL
  obtain ⟨off, hd, ht, rfl⟩ := hi
  exact lv_if_gt C.1 C.2.1 hd ht (fun h => kt h p l e s m args below meth c D q H0 C H locs ls HW HC HL) (fun h => kf h p l e s m args below meth c D q H0 C H locs ls HW HC HL)

theorem z_icmp_le {x y : Int32} (hi : zBr M pc (.if_icmp .le) tgt pc') (kt : x ≤ y → zEV M R Z tgt lo st N w k n) (kf : ¬ x ≤ y → zEV M R Z pc' lo st N w k n) : zEV M R Z pc lo (.int y :: .int x :: st) N w k n := by
  intro p l e s m args below meth c D q H0 C H locs ls HW HC HL
  obtain ⟨off, hd, ht, rfl⟩ := hi
  exact lv_icmp_le C.1 C.2.1 hd ht (fun h => kt h p l e s m args below meth c D q H0 C H locs ls HW HC HL) (fun h => kf h p l e s m args below meth c D q H0 C H locs ls HW HC HL)

theorem z_if_le {x : Int32} (hi : zBr M pc (.ifCond .le) tgt pc') (kt : x ≤ 0 → zEV M R Z tgt lo st N w k n) (kf : ¬ x ≤ 0 → zEV M R Z pc' lo st N w k n) : zEV M R Z pc lo (.int x :: st) N w k n := by
  intro p l e s m args below meth c D q H0 C H locs ls HW HC HL
  obtain ⟨off, hd, ht, rfl⟩ := hi
  exact lv_if_le C.1 C.2.1 hd ht (fun h => kt h p l e s m args below meth c D q H0 C H locs ls HW HC HL) (fun h => kf h p l e s m args below meth c D q H0 C H locs ls HW HC HL)

end ZR
end
section
section ZHP
variable {M : zM} {R : Room} {Z : zZt} {pc pc' tgt : Nat} {lo : List (Option Value)} {st : List Value} {N : Nat} {w : zH} {k n : Nat}
theorem zK_moved {D : zG} {q : Nat → Nat} {H0 : Heap} {s U : State} (hW : s.WarmedH U.vm) (h : zK D q H0 s) : zK D q H0 U := by
  obtain ⟨h1, h2, h3, h4, h5, h6, h7, h8, h9⟩ := h
  refine ⟨fun c r hr => u_Kn_moved hW.alike (h1 c r hr), fun t ty ht => ⟨arrOfT_moved hW.alike (h2 t ty ht).1, (h2 t ty ht).2.moved hW.alike⟩, h3, h4, h5.moved hW.alike, h6.moved hW.alike, h7.moved hW.alike, fun wd hwd => ?_, h9.moved hW.alike⟩
  have hz := h8 wd hwd
  simp only [zNest, List.mem_cons, List.not_mem_nil, or_false] at hwd
  rcases hwd with rfl | rfl | rfl | rfl | rfl <;> exact va_Nw.warmM hW hz
theorem zK_same {D : zG} {q : Nat → Nat} {H0 : Heap} {s U : State} (hv : s.vm = U.vm) (h : zK D q H0 s) : zK D q H0 U := by
  obtain ⟨h1, h2, h3, h4, h5, h6, h7, h8, h9⟩ := h
  have ha : s.vm.Alike U.vm := by rw [hv]; exact Vm.Alike.refl U.vm
  refine ⟨fun c r hr => u_Kn_moved ha (h1 c r hr), fun t ty ht => ⟨arrOfT_moved ha (h2 t ty ht).1, (h2 t ty ht).2.moved ha⟩, h3, h4, h5.moved ha, h6.moved ha, h7.moved ha, fun wd hwd => ?_, h9.moved ha⟩
  have hz := h8 wd hwd
  simp only [zNest, List.mem_cons, List.not_mem_nil, or_false] at hwd
  rcases hwd with rfl | rfl | rfl | rfl | rfl <;> exact va_Nw.same rfl hv hz
/-- a write to a cell of the world -/
theorem zW_set {D : zG} {q : Nat → Nat} {H0 H H1 : Heap} {a : Nat} {x : zc} (hq : zqo q) (h : zW D q H0 N w H) (ha : 2 ≤ a) (hx : zok D q (q a) x H1) (hz : H1.size = H.size) (ho : ∀ b, b ≠ q a → H1[b]? = H[b]?) : zW D q H0 N (va_up w a x) H1 := by
  obtain ⟨h1, h2, h3, h4, h5⟩ := h
  have ha0 : ¬ 0 = a := by omega
  refine ⟨h1, hz.trans h2, fun j hj hjN => ?_, fun b hb => ?_, by simp only [va_up, ha0, if_false]; exact h5⟩
  · by_cases hja : j = a
    · subst hja
      simpa [va_up] using hx
    · simp only [va_up, hja, if_false]
      exact (h3 j hj hjN).kept (ho _ (zqo_ne hq ha hja))
  · have := zqo_ge hq ha
    rw [ho b (by omega)]
    exact h4 b hb
theorem zLc_put {q : Nat → Nat} {locs : List Loc} {a f : Nat} (hq : zqo q) (ha : 2 ≤ a) (h : zLc q locs) : zLc q (locs ++ [⟨q a, f⟩]) := by
  intro x hx
  rcases List.mem_append.mp hx with hx | hx
  · exact h x hx
  · simp at hx
    subst hx
    have := zqo_ge hq ha
    show q 2 ≤ q a
    omega
/-- the field f of the kind ci, as own's pool names it at idx -/
def zFl (own : String) (idx ci f : Nat) : Prop := ∃ r : vw_C, vwCl[ci]? = some r ∧ f < r.2.2 ∧ ci < 1000 ∧ Cond.fieldLink own idx (r.2.1 f).1 (r.2.1 f).2.1 (r.2.1 f).2.2.1 ∈ zT ∧ ∀ wd ∈ u_ws r.1 r.2.1 r.2.2, wd ∈ zT
theorem z_get {idx ci f a len : Nat} {g : Nat → Value} (hi : zIs M pc (.getfield idx) 3 pc') (hf : zFl M.1.cls idx ci f) (hw : w a = (ci, len, g)) (ha : 2 ≤ a) (haN : a < N) (kk : zEV M R Z pc' lo (g f :: st) N w k n) : zEV M R Z pc lo (.ref a :: st) N w k n := by
  intro p l e s m args below meth c D q H0 C H locs ls HW HC HL
  obtain ⟨hd, rfl⟩ := hi
  obtain ⟨r, hr, hfN, hc1, hlink, hin⟩ := hf
  have hc := (HW.2.2.1 a ha haN).1 (by rw [hw]; exact hc1)
  rw [hw] at hc
  obtain ⟨r', hr', cell, q1, q2, q3, q4⟩ := hc
  have er : r' = r := Option.some.inj (hr'.symm.trans hr)
  subst er
  have hK := C.2.2.2.2.2.2.2.2
  obtain ⟨hS, hfc, kC, hkC, hkind⟩ := hK.1 ci _ hr
  obtain ⟨cf, kf, fi, fd, hfi, hsl⟩ := hS f hfN
  have hts : ∀ wd ∈ zT, wd.before args s = true := fun wd h => zT_use C h
  refine W.getf (v := zv q (g f)) C.1 C.2.1 C.2.2.2.2.1 (zT_use C hlink) hfi (u_facts hfc hkC (u_lays hts hin hfN) hfi).1 q1 (by rw [q3]; exact fun h => by cases h) ?_ rfl rfl hd (kk p l e s m args below meth c D q H0 C H locs ls HW HC HL)
  rw [hsl]
  exact q4 f hfN
/-- what the names of fields and their kinds say -/
theorem z_names : ∀ (ci : Nat) (r : vw_C), vwCl[ci]? = some r → (∃ ty0 : Nat → FieldType, ∀ j, j < r.2.2 → parseFieldDescriptor (r.2.1 j).2.2.1 = some (ty0 j)) ∧ ∀ a, a < r.2.2 → ∀ b, b < r.2.2 → a ≠ b → (r.2.1 a).2.1 ≠ (r.2.1 b).2.1 := by
  intro ci r h
  match ci, h with
  | 0, h => cases h; exact ⟨⟨tyX0, tyX0_ok⟩, nmX0⟩
  | 1, h => cases h; exact ⟨⟨tyX1, tyX1_ok⟩, nmX1⟩
  | 2, h => cases h; exact ⟨⟨tyX2, tyX2_ok⟩, nmX2⟩
  | 3, h => cases h; exact ⟨⟨tyX3, tyX3_ok⟩, nmX3⟩
  | 4, h => cases h; exact ⟨⟨tyX4, tyX4_ok⟩, nmX4⟩
  | 5, h => cases h; exact ⟨⟨tyX5, tyX5_ok⟩, nmX5⟩
  | 6, h => cases h; exact ⟨⟨tyX6, tyX6_ok⟩, nmX6⟩
  | 7, h => cases h; exact ⟨⟨tyX7, tyX7_ok⟩, nmX7⟩
  | 8, h => cases h; exact ⟨⟨tyX8, tyX8_ok⟩, nmX8⟩
  | j + 9, h => simp [vwCl] at h
theorem z_apart {args : Array Value} {s : State} {D : zG} {q : Nat → Nat} {H0 : Heap} (hts : ∀ wd ∈ zT, wd.before args s = true) (hK : zK D q H0 s) {ci : Nat} {r : vw_C} (hr : vwCl[ci]? = some r) (hin : ∀ wd ∈ u_ws r.1 r.2.1 r.2.2, wd ∈ zT) : ∀ a b, a < r.2.2 → b < r.2.2 → a ≠ b → D.2.1 ci a ≠ D.2.1 ci b := by
  obtain ⟨⟨ty0, hty⟩, hnm⟩ := z_names ci r hr
  intro x y hx hy hne
  obtain ⟨hS, -⟩ := hK.1 ci _ hr
  obtain ⟨_, _, _, fa, hia, ea⟩ := hS x hx
  obtain ⟨_, _, _, fb, hib, eb⟩ := hS y hy
  rw [← ea, ← eb]
  refine u_apart (u_lays hts hin hx) (u_lays hts hin hy) hia hib ?_
  rw [(State.fieldFound?_type hia (hty x hx)).1, (State.fieldFound?_type hib (hty y hy)).1]
  exact hnm x hx y hy hne
/-- the field may be written: its type, and that it isn't final -/
def zFw (ci f : Nat) (ty : FieldType) : Prop := ∃ r : vw_C, vwCl[ci]? = some r ∧ (r.2.1 f).2.2.2 = false ∧ parseFieldDescriptor (r.2.1 f).2.2.1 = some ty
def zFf (own : String) (ci f : Nat) (ty : FieldType) : Prop := ∃ r : vw_C, vwCl[ci]? = some r ∧ (r.2.1 f).2.2.2 = true ∧ (r.2.1 f).1 = own ∧ parseFieldDescriptor (r.2.1 f).2.2.1 = some ty
theorem updV_zv (q : Nat → Nat) (g : Nat → Value) (f : Nat) (v : Value) : updV (fun j => zv q (g j)) f (zv q v) = fun j => zv q (updV g f v j) := by
  funext j
  simp only [updV]
  split <;> rfl
theorem z_put {idx ci f a len : Nat} {g : Nat → Value} {v : Value} {ty : FieldType} (hi : zIs M pc (.putfield idx) 3 pc') (hf : zFl M.1.cls idx ci f) (hfw : zFw ci f ty) (hn : ∀ q, narrow ty (zv q v) = zv q v) (hfit : ∀ q, fits ty (zv q v) = true) (hw : w a = (ci, len, g)) (ha : 2 ≤ a) (haN : a < N) (kk : zEV M R Z pc' lo st N (va_up w a (ci, len, updV g f v)) k n) : zEV M R Z pc lo (v :: .ref a :: st) N w k n := by
  intro p l e s m args below meth c D q H0 C H locs ls HW HC HL
  obtain ⟨hd, rfl⟩ := hi
  obtain ⟨r, hr, hfN, hc1, hlink, hin⟩ := hf
  obtain ⟨r2, hr2, hfin, hdesc⟩ := hfw
  have er2 : r2 = r := Option.some.inj (hr2.symm.trans hr)
  subst er2
  have hc := (HW.2.2.1 a ha haN).1 (by rw [hw]; exact hc1)
  rw [hw] at hc
  obtain ⟨r', hr', cell, q1, q2, q3, q4⟩ := hc
  have er : r' = r2 := Option.some.inj (hr'.symm.trans hr)
  subst er
  have hK := C.2.2.2.2.2.2.2.2
  have hts : ∀ wd ∈ zT, wd.before args s = true := fun wd h => zT_use C h
  have hap := z_apart hts hK hr hin
  obtain ⟨hS, hfc, kC, hkC, hkind⟩ := hK.1 ci _ hr
  obtain ⟨cf, kf, fi, fd, hfi, hsl⟩ := hS f hfN
  have hlay := hts _ (hin _ (u_in_lay hfN))
  unfold u_lay at hlay
  rw [if_neg (by rw [hfin]; decide)] at hlay
  have hst := (u_facts hfc hkC (u_lays hts hin hfN) hfi).1
  have h6 := u_store hfc hkC hkind hlay hfi hdesc (hn q) (hfit q)
  refine W.putK C.1 C.2.1 (f := fd) ⟨C.2.2.2.2.1, zT_use C hlink, ⟨_, _, _, hfi⟩, hst⟩ (by rw [q2]; exact h6) q1 q3 (by rw [hsl]; exact k2_hasslot (q4 f hfN)) rfl rfl hd fun H' e1 e2 e3 => ?_
  refine kk p l e s m args below meth c D q H0 C H' _ ls (zW_set hK.2.2.1 HW ha ⟨fun _ => ⟨_, hr, ?_⟩, fun h9 => absurd h9 (by show ¬ 1000 ≤ ci; omega)⟩ e2 e3) (zLc_put hK.2.2.1 ha HC) HL
  show t_OB (q a) (D.1 ci) r'.2.2 (D.2.1 ci) H' (fun j => zv q (updV g f v j))
  rw [← updV_zv]
  rw [hsl] at e1
  exact ⟨_, e1, q2, q3, t_set q4 hap hfN (zv q v)⟩
theorem z_putF {idx ci f a len : Nat} {g : Nat → Value} {v : Value} {ty : FieldType} (hi : zIs M pc (.putfield idx) 3 pc') (hf : zFl M.1.cls idx ci f) (hfw : zFf M.1.cls ci f ty) (hnm : M.1.name = "<init>") (hn : ∀ q, narrow ty (zv q v) = zv q v) (hfit : ∀ q, fits ty (zv q v) = true) (hw : w a = (ci, len, g)) (ha : 2 ≤ a) (haN : a < N) (kk : zEV M R Z pc' lo st N (va_up w a (ci, len, updV g f v)) k n) : zEV M R Z pc lo (v :: .ref a :: st) N w k n := by
  intro p l e s m args below meth c D q H0 C H locs ls HW HC HL
  obtain ⟨hd, rfl⟩ := hi
  obtain ⟨r, hr, hfN, hc1, hlink, hin⟩ := hf
  obtain ⟨r2, hr2, hfin, hdecl, hdesc⟩ := hfw
  have er2 : r2 = r := Option.some.inj (hr2.symm.trans hr)
  subst er2
  have hc := (HW.2.2.1 a ha haN).1 (by rw [hw]; exact hc1)
  rw [hw] at hc
  obtain ⟨r', hr', cell, q1, q2, q3, q4⟩ := hc
  have er : r' = r2 := Option.some.inj (hr'.symm.trans hr)
  subst er
  have hK := C.2.2.2.2.2.2.2.2
  have hts : ∀ wd ∈ zT, wd.before args s = true := fun wd h => zT_use C h
  have hap := z_apart hts hK hr hin
  obtain ⟨hS, hfc, kC, hkC, hkind⟩ := hK.1 ci _ hr
  obtain ⟨cf, kf, fi, fd, hfi, hsl⟩ := hS f hfN
  have hlay := hts _ (hin _ (u_in_lay hfN))
  unfold u_lay at hlay
  rw [if_pos hfin] at hlay
  have hst := (u_facts hfc hkC (u_lays hts hin hfN) hfi).1
  have hcf : m.cls = cf := by
    obtain ⟨_, _, c', _, _, _, -, -, hf', -, -, -, hown2, -⟩ := Cond.laysFinal_spec hlay
    have e1 : c' = cf := by have := hfi.symm.trans hf'; simp at this; exact this.1.symm
    rw [hdecl] at hown2
    rw [← e1]; exact Option.some.inj (C.2.2.2.2.1.symm.trans hown2)
  have h6 := u_fits hfc hkC hkind (Or.inr hlay) hfi hdesc (hn q) (hfit q)
  refine W.putFinK C.1 C.2.1 C.2.2.2.2.1 (zT_use C hlink) hfi hst hcf (C.2.2.2.2.2.2.2.1.trans hnm) (by rw [q2]; exact h6) q1 q3 (by rw [hsl]; exact k2_hasslot (q4 f hfN)) rfl rfl hd fun H' e1 e2 e3 => ?_
  refine kk p l e s m args below meth c D q H0 C H' _ ls (zW_set hK.2.2.1 HW ha ⟨fun _ => ⟨_, hr, ?_⟩, fun h9 => absurd h9 (by show ¬ 1000 ≤ ci; omega)⟩ e2 e3) (zLc_put hK.2.2.1 ha HC) HL
  show t_OB (q a) (D.1 ci) r'.2.2 (D.2.1 ci) H' (fun j => zv q (updV g f v j))
  rw [← updV_zv]
  rw [hsl] at e1
  exact ⟨_, e1, q2, q3, t_set q4 hap hfN (zv q v)⟩
theorem z_arr {D : zG} {q : Nat → Nat} {H0 H : Heap} {a t len : Nat} {g : Nat → Value} (HW : zW D q H0 N w H) (hw : w a = (1000 + t, len, g)) (ha : 2 ≤ a) (haN : a < N) : H[q a]? = some (arrV (D.2.2.1 t) len (fun j => zv q (g j))) := by
  have hc := (HW.2.2.1 a ha haN).2 (by rw [hw]; exact Nat.le_add_right _ _)
  rw [hw] at hc
  simpa [Nat.add_sub_cancel_left] using hc
theorem zok_arr {D : zG} {q : Nat → Nat} {H : Heap} {a t len : Nat} {g : Nat → Value} (h : H[a]? = some (arrV (D.2.2.1 t) len (fun j => zv q (g j)))) : zok D q a (1000 + t, len, g) H := by
  refine ⟨fun h9 => absurd h9 (Nat.not_lt.mpr (Nat.le_add_right _ _)), fun _ => ?_⟩
  simp only [Nat.add_sub_cancel_left]
  exact h
theorem z_iald {a len : Nat} {g : Nat → Value} {i : Int32} (hi : zIs M pc .iaload 1 pc') (hw : w a = (1000 + 0, len, g)) (ha : 2 ≤ a) (haN : a < N) (hin : vp_in i len) (kk : zEV M R Z pc' lo (g i.toNatClampNeg :: st) N w k n) : zEV M R Z pc lo (.int i :: .ref a :: st) N w k n := by
  intro p l e s m args below meth c D q H0 C H locs ls HW HC HL
  obtain ⟨hd, rfl⟩ := hi
  have hlt : i.toNatClampNeg < len := Nat.not_le.mp fun q => hin (Or.inr q)
  have hA := (C.2.2.2.2.2.2.2.2).2.1 0 .int rfl
  exact W.iald (v := zv q (g i.toNatClampNeg)) C.1 C.2.1 (z_arr HW hw ha haN) (hA.1 _ _) (fun q => by cases q) (by rw [arrV_size]; exact hin) (by rw [arrV_read _ _ hlt]) rfl rfl hd (kk p l e s m args below meth c D q H0 C H locs ls HW HC HL)
theorem z_bald {a len : Nat} {g : Nat → Value} {i : Int32} (hi : zIs M pc .baload 1 pc') (hw : w a = (1000 + 1, len, g)) (ha : 2 ≤ a) (haN : a < N) (hin : vp_in i len) (kk : zEV M R Z pc' lo (g i.toNatClampNeg :: st) N w k n) : zEV M R Z pc lo (.int i :: .ref a :: st) N w k n := by
  intro p l e s m args below meth c D q H0 C H locs ls HW HC HL
  obtain ⟨hd, rfl⟩ := hi
  have hlt : i.toNatClampNeg < len := Nat.not_le.mp fun q => hin (Or.inr q)
  have hA := (C.2.2.2.2.2.2.2.2).2.1 1 .boolean rfl
  exact W.zald (v := zv q (g i.toNatClampNeg)) C.1 C.2.1 (z_arr HW hw ha haN) (hA.1 _ _) (fun q => by cases q) (by rw [arrV_size]; exact hin) (by rw [arrV_read _ _ hlt]) rfl rfl hd (kk p l e s m args below meth c D q H0 C H locs ls HW HC HL)
theorem z_aald {a len : Nat} {g : Nat → Value} {i : Int32} (hi : zIs M pc .aaload 1 pc') (hw : w a = (1000 + 2, len, g)) (ha : 2 ≤ a) (haN : a < N) (hin : vp_in i len) (kk : zEV M R Z pc' lo (g i.toNatClampNeg :: st) N w k n) : zEV M R Z pc lo (.int i :: .ref a :: st) N w k n := by
  intro p l e s m args below meth c D q H0 C H locs ls HW HC HL
  obtain ⟨hd, rfl⟩ := hi
  have hlt : i.toNatClampNeg < len := Nat.not_le.mp fun q => hin (Or.inr q)
  have hA := (C.2.2.2.2.2.2.2.2).2.1 2 (.object RX4) rfl
  exact W.aald (v := zv q (g i.toNatClampNeg)) C.1 C.2.1 (z_arr HW hw ha haN) (hA.1 _ _) rfl (fun q => by cases q) (by rw [arrV_size]; exact hin) (by rw [arrV_read _ _ hlt]) rfl rfl hd (kk p l e s m args below meth c D q H0 C H locs ls HW HC HL)
theorem z_iast {a len : Nat} {g : Nat → Value} {i x : Int32} (hi : zIs M pc .iastore 1 pc') (hw : w a = (1000 + 0, len, g)) (ha : 2 ≤ a) (haN : a < N) (hin : vp_in i len) (kk : zEV M R Z pc' lo st N (va_up w a (1000 + 0, len, updV g i.toNatClampNeg (.int x))) k n) : zEV M R Z pc lo (.int x :: .int i :: .ref a :: st) N w k n := by
  intro p l e s m args below meth c D q H0 C H locs ls HW HC HL
  obtain ⟨hd, rfl⟩ := hi
  have hK := C.2.2.2.2.2.2.2.2
  have hA := hK.2.1 0 .int rfl
  refine W.iast (x := x) C.1 C.2.1 (z_arr HW hw ha haN) (hA.1 _ _) (fun q => by cases q) (by rw [arrV_size]; exact hin) rfl rfl hd fun H1 e1 z1 oq => ?_
  refine kk p l e s m args below meth c D q H0 C H1 _ ls (zW_set hK.2.2.1 HW ha (zok_arr ?_) z1 oq) (zLc_put hK.2.2.1 ha HC) HL
  rw [← updV_zv, e1, arrV_store]
  rfl
theorem z_bast {a len : Nat} {g : Nat → Value} {i x : Int32} (hi : zIs M pc .bastore 1 pc') (hw : w a = (1000 + 1, len, g)) (ha : 2 ≤ a) (haN : a < N) (hin : vp_in i len) (hx : x = 0 ∨ x = 1) (kk : zEV M R Z pc' lo st N (va_up w a (1000 + 1, len, updV g i.toNatClampNeg (.int x))) k n) : zEV M R Z pc lo (.int x :: .int i :: .ref a :: st) N w k n := by
  intro p l e s m args below meth c D q H0 C H locs ls HW HC HL
  obtain ⟨hd, rfl⟩ := hi
  have hK := C.2.2.2.2.2.2.2.2
  have hA := hK.2.1 1 .boolean rfl
  refine W.zast (x := x) C.1 C.2.1 (z_arr HW hw ha haN) (hA.1 _ _) (fun q => by cases q) (by rw [arrV_size]; exact hin) rfl rfl hd fun H1 e1 z1 oq => ?_
  refine kk p l e s m args below meth c D q H0 C H1 _ ls (zW_set hK.2.2.1 HW ha (zok_arr ?_) z1 oq) (zLc_put hK.2.2.1 ha HC) HL
  have hnx : narrow .boolean (.int x) = .int x := by rcases hx with rfl | rfl <;> rfl
  rw [hnx] at e1
  rw [← updV_zv, e1, arrV_store]
  rfl
theorem z_kald {i : Int32} (hi : zIs M pc .iaload 1 pc') (hin : vp_in i 12) (kk : zEV M R Z pc' lo (.int (zka i.toNatClampNeg) :: st) N w k n) : zEV M R Z pc lo (.int i :: .ref 1 :: st) N w k n := by
  intro p l e s m args below meth c D q H0 C H locs ls HW HC HL
  obtain ⟨hd, rfl⟩ := hi
  obtain ⟨-, -, hq, hq2, -, -, hX, -, -⟩ := C.2.2.2.2.2.2.2.2
  have hS : va_S (fun a => q 2 ≤ a) H0 H locs := ⟨by
    have h1 := HW.2.1
    have h2 := zqo_ge hq HW.1
    omega, fun b hb _ => HW.2.2.2.1 b (by omega), fun x hx => HC x hx⟩
  exact va_sld C.1 C.2.1 hX (by have := hq.2.1; omega) (Nat.not_le.mpr hq.2.1) hS hin hd (kk p l e s m args below meth c D q H0 C H locs ls HW HC HL)
theorem z_gets {idx : Nat} (hi : zIs M pc (.getstatic idx) 3 pc') (hl : Cond.fieldLink M.1.cls idx RX7 "KIND_ABOVE" "[I" ∈ zT) (kk : zEV M R Z pc' lo (.ref 1 :: st) N w k n) : zEV M R Z pc lo st N w k n := by
  intro p l e s m args below meth c D q H0 C H locs ls HW HC HL
  obtain ⟨hd, rfl⟩ := hi
  obtain ⟨-, -, hq, hq2, hZ, -, -, -, -⟩ := C.2.2.2.2.2.2.2.2
  obtain ⟨cf, kf, fi, f, a, cell, h1, h2, h3, h4, h5, h6, h7, h8⟩ := hZ
  exact W.gets (v := .ref (q 1)) C.1 C.2.1 C.2.2.2.2.1 (zT_use C hl) h1 h2 h3 h4 (by rw [HW.2.2.2.1 a (Nat.not_le.mp h8)]; exact h5) (fun e => by rw [e] at h6; cases h6) h7 rfl hd (kk p l e s m args below meth c D q H0 C H locs ls HW HC HL)
theorem zS_of {D : zG} {q : Nat → Nat} {H0 H : Heap} {locs : List Loc} (hq : zqo q) (hq2 : q 2 = H0.size) (HW : zW D q H0 N w H) (HC : zLc q locs) : va_S (fun a => q 2 ≤ a) H0 H locs := ⟨by
    have h1 := HW.2.1
    have h2 := zqo_ge hq HW.1
    omega, fun b hb _ => HW.2.2.2.1 b (by omega), fun x hx => HC x hx⟩
theorem z_sld {len t : Nat} {g : Nat → Value} {i : Int32} (hi : zIs M pc .iaload 1 pc') (hw : w 0 = (t, len, g)) (hin : vp_in i len) (kk : zEV M R Z pc' lo (g i.toNatClampNeg :: st) N w k n) : zEV M R Z pc lo (.int i :: .ref 0 :: st) N w k n := by
  intro p l e s m args below meth c D q H0 C H locs ls HW HC HL
  obtain ⟨hd, rfl⟩ := hi
  obtain ⟨-, -, hq, hq2, -, hX, -, -, -⟩ := C.2.2.2.2.2.2.2.2
  have e1 := HW.2.2.2.2.1
  have e2 := HW.2.2.2.2.2 i.toNatClampNeg
  rw [hw] at e1 e2
  refine va_sld C.1 C.2.1 hX (by have := hq.1; omega) (Nat.not_le.mpr hq.1) (zS_of hq hq2 HW HC) (by rw [← e1]; exact hin) hd ?_
  have K := kk p l e s m args below meth c D q H0 C H locs ls HW HC HL
  have e3 : g i.toNatClampNeg = .int (D.2.2.2.2 i.toNatClampNeg) := e2
  rw [e3] at K
  exact K
theorem z_slen {len t : Nat} {g : Nat → Value} (hi : zIs M pc .arraylength 1 pc') (hw : w 0 = (t, len, g)) (kk : zEV M R Z pc' lo (.int (Int32.ofNat len) :: st) N w k n) : zEV M R Z pc lo (.ref 0 :: st) N w k n := by
  intro p l e s m args below meth c D q H0 C H locs ls HW HC HL
  obtain ⟨hd, rfl⟩ := hi
  obtain ⟨-, -, hq, hq2, -, hX, -, -, -⟩ := C.2.2.2.2.2.2.2.2
  have e1 := HW.2.2.2.2.1
  rw [hw] at e1
  refine va_slen C.1 C.2.1 hX (by have := hq.1; omega) (Nat.not_le.mpr hq.1) (zS_of hq hq2 HW HC) hd ?_
  have K := kk p l e s m args below meth c D q H0 C H locs ls HW HC HL
  have e3 : len = D.2.2.2.1 := e1
  rw [e3] at K
  exact K
end ZHP
end
section
section ZCL
variable {M M' : zM} {R : Room} {Z : zZt} {pc pc' tgt : Nat} {lo : List (Option Value)} {st rest As : List Value} {N : Nat} {w : zH} {k n mc ms d : Nat} {Q' : zQ}
theorem zT_good : GoodIn (zws M) zT := fun wd h => ⟨List.mem_cons_of_mem _ h, good_of_word (List.mem_filter.mp h).2⟩
/-- what the tables say of a call of M' -/
def zCn (M' : zM) (ar : Nat) : Prop := Cond.code M'.1 M'.2.1 M'.2.2.1 M'.2.2.2 ∈ zT ∧ Cond.initialized M'.1.cls ∈ zT ∧ M'.1.cls ≠ "java/lang/invoke/MethodHandle" ∧ M'.1.cls ≠ "java/lang/invoke/VarHandle" ∧ (parseMethodDescriptor M'.1.desc).map (fun x => x.parameters.length) = some ar
theorem zws_good (h : Cond.code M'.1 M'.2.1 M'.2.2.1 M'.2.2.2 ∈ zT) : GoodIn (zws M) (zws M') := fun wd hw => (List.mem_cons.mp hw).elim (fun e => by subst e; exact zT_good _ h) (fun h2 => zT_good wd h2)
theorem zB_of {p : Program} {s : State} {m : MethodId} {args : Array Value} {meth : Method} {c : Code} {D : zG} {q : Nat → Nat} {H0 : Heap} {ar idx : Nat} (C : zCx M p s m args meth c D q H0) (hc : zCn M' ar) (hl : Cond.methodLink M.1.cls idx M'.1 ∈ zT) (hR : d + 1 ≤ R.frames ∧ 8 + (M'.2.2.1 + 11) + 36 * d ≤ R.locals) :
    CallB R s args M.1.cls idx M'.1 M'.2.1 M'.2.2.1 M'.2.2.2 (zws M') (zrm d mc ms) mc ms ar :=
  callB_of ar C.2.2.2.2.2.1 (zws_good hc.1) rfl rfl rfl (zT_use C hc.2.1) (zT_use C hl) hc.2.2 hR
theorem zPc_pre {s : State} {D : zG} {q : Nat → Nat} {H0 H : Heap} (hK : zK D q H0 s) (HW : zW D q H0 N w H) :
    FrameBlind (va_Pc (As.map (zv q)) (fun U => zW D q H0 N w U.heap ∧ zK D q H0 U)) ∧ ∀ U : State, U.heap = H → s.WarmedH U.vm → va_Pc (As.map (zv q)) (fun U => zW D q H0 N w U.heap ∧ zK D q H0 U) (As.map (zv q)).toArray U := by
  refine ⟨fun a U g mk h => ⟨h.1, h.2.1, ?_⟩, fun U hU hWm => ⟨rfl, by rw [hU]; exact HW, zK_moved hWm hK⟩⟩
  exact zK_same (s := U) (U := U.calling g mk a) rfl h.2.2
/-- behind a call -/
theorem z_after {p : Program} {l : Launch} {e : Env} {s : State} {m : MethodId} {args : Array Value} {below : List Frame} {meth : Method} {c : Code} {D : zG} {q : Nat → Nat} {H0 : Heap} {H : Heap} {locs : List Loc} {ls : Array Slot} {a : Array Value}
    (C : zCx M p s m args meth c D q H0) (HC : zLc q locs) (HL : zL q M.2.2.1 lo ls)
    (hr : va_Run p l e R s m args below meth c H locs k n mc ms (F0 m pc ls (st.map (zv q))) (rest.map (zv q)) (zPo D q H0 Q' a) (fun x => q 2 ≤ x))
    (kk : ∀ (r : Option Value) (N' : Nat) (w' : zH), Q' r N' w' → zEV M R Z (pc + 3) lo (r.toList ++ rest) N' w' (k + mc) (n + ms)) :
    W p l e R s m args below meth c H locs k n (Z below args s D q H0) (F0 m pc ls (st.map (zv q))) := by
  intro T hT X
  obtain ⟨v, st₀, t, T', L, h0, X', hL, e1, e2, ⟨r, N', w', hQ, hv, hW'⟩, hgo⟩ := hr T hT X
  have hv2 : v = r.map (zv q) := by
    have := Outcome.returned.inj hv
    exact this
  subst hv2
  have K := kk r N' w' hQ p l e s m args below meth c D q H0 C t.heap (locs ++ L) ls hW' (fun x hx => (List.mem_append.mp hx).elim (HC x) (hL x)) HL
  obtain ⟨t2, a1, b1⟩ := K T' e1 X'
  refine ⟨t2, hgo t2 ?_, b1⟩
  have es : (Option.map (zv q) r).toList ++ rest.map (zv q) = (r.toList ++ rest).map (zv q) := by cases r <;> simp
  show Steps p.tables e below (T'.setTop { F0 m pc ls (st.map (zv q)) with pc := pc + 3, stack := (Option.map (zv q) r).toList ++ rest.map (zv q) }) t2
  rw [es]
  exact a1
theorem z_catsum {q : Nat → Nat} (h : (rest.map fun v => v.category).sum ≤ 8) : ((rest.map (zv q)).map fun v => v.category).sum ≤ 8 := by
  rw [List.map_map]
  have e : (fun v => Value.category v) ∘ zv q = fun v => v.category := by funext v; exact zv_cat q v
  rw [e]
  exact h
theorem z_recv {s : State} {D : zG} {q : Nat → Nat} {H0 H : Heap} {b ci len : Nat} {g : Nat → Value} {C : String} (hK : zK D q H0 s) (HW : zW D q H0 N w H) (hw : w b = (ci, len, g)) (hb : 2 ≤ b) (hbN : b < N) (hci : ci < 1000) (hC : ∃ r : vw_C, vwCl[ci]? = some r ∧ r.1 = C) :
    ∃ cellB : Cell, H[q b]? = some cellB ∧ cellB.vm.isStatics = false ∧ s.vm.findClass C = some cellB.cls := by
  obtain ⟨r, hr, rfl⟩ := hC
  have hc := (HW.2.2.1 b hb hbN).1 (by rw [hw]; exact hci)
  rw [hw] at hc
  obtain ⟨r', hr', cell, q1, q2, q3, q4⟩ := hc
  exact ⟨cell, q1, by rw [q3]; rfl, by rw [q2]; exact (hK.1 ci r hr).2.1⟩
/-- invokevirtual of a method of the receiver's own kind -/
def zCv (own : String) (idx : Nat) (M' : zM) (ar ci : Nat) : Prop := zCn M' ar ∧ Cond.methodLink own idx M'.1 ∈ zT ∧ Cond.instanceMethod M'.1 ∈ zT ∧ Cond.selects M'.1.cls M'.1 M'.1 ∈ zT ∧ ci < 1000 ∧ ∃ r : vw_C, vwCl[ci]? = some r ∧ r.1 = M'.1.cls
theorem z_callV {idx ar ci b len : Nat} {g : Nat → Value} (hi : zIs M pc (.invokevirtual idx) 3 pc') (hc : zCv M.1.cls idx M' ar ci) (hM : zMt M' d mc ms (.ref b :: As) N w Q') (hn : As.length = ar) (hst : As.reverse ++ .ref b :: rest = st) (hw : w b = (ci, len, g)) (hb : 2 ≤ b) (hbN : b < N)
    (hR : d + 1 ≤ R.frames ∧ 8 + (M'.2.2.1 + 11) + 36 * d ≤ R.locals) (hf : k + mc ≤ R.cells ∧ n + ms ≤ R.slots) (hcat : (rest.map fun v => v.category).sum ≤ 8)
    (kk : ∀ (r : Option Value) (N' : Nat) (w' : zH), Q' r N' w' → zEV M R Z pc' lo (r.toList ++ rest) N' w' (k + mc) (n + ms)) : zEV M R Z pc lo st N w k n := by
  intro p l e s m args below meth c D q H0 C H locs ls HW HC HL
  obtain ⟨hd, rfl⟩ := hi
  obtain ⟨hc1, hl, hin, hsel, hci, hC⟩ := hc
  have hK := C.2.2.2.2.2.2.2.2
  have hp := zPc_pre (As := .ref b :: As) hK HW
  subst hst
  refine z_after (rest := rest) C HC HL (va_runV (As := As.map (zv q)) (b := q b) ⟨C.1, C.2.1, C.2.2.2.1, C.2.2.2.2.1, C.2.2.2.2.2.1⟩ (hM l D q H0) ⟨zB_of C hc1 hl hR, zT_use C hin, zT_use C hsel⟩ ⟨hp.1, z_recv hK HW hw hb hbN hci hC, hp.2⟩ rfl (by rw [List.length_map]; exact hn) HL.1 ?_ (lv_room (z_catsum hcat)) hd hf) kk
  show List.map (zv q) (As.reverse ++ .ref b :: rest) = _
  simp [zv]
def zCs (own : String) (idx : Nat) (M' : zM) (ar : Nat) : Prop := zCn M' ar ∧ Cond.methodLink own idx M'.1 ∈ zT ∧ Cond.static M'.1 ∈ zT
theorem z_callS {idx ar : Nat} (hi : zIs M pc (.invokestatic idx) 3 pc') (hc : zCs M.1.cls idx M' ar) (hM : zMt M' d mc ms As N w Q') (hn : As.length = ar) (hst : As.reverse ++ rest = st)
    (hR : d + 1 ≤ R.frames ∧ 8 + (M'.2.2.1 + 11) + 36 * d ≤ R.locals) (hf : k + mc ≤ R.cells ∧ n + ms ≤ R.slots) (hcat : (rest.map fun v => v.category).sum ≤ 8)
    (kk : ∀ (r : Option Value) (N' : Nat) (w' : zH), Q' r N' w' → zEV M R Z pc' lo (r.toList ++ rest) N' w' (k + mc) (n + ms)) : zEV M R Z pc lo st N w k n := by
  intro p l e s m args below meth c D q H0 C H locs ls HW HC HL
  obtain ⟨hd, rfl⟩ := hi
  obtain ⟨hc1, hl, hin⟩ := hc
  have hK := C.2.2.2.2.2.2.2.2
  have hp := zPc_pre (As := As) hK HW
  subst hst
  refine z_after (rest := rest) C HC HL (va_runS (As := As.map (zv q)) ⟨C.1, C.2.1, C.2.2.2.1, C.2.2.2.2.1, C.2.2.2.2.2.1⟩ (hM l D q H0) ⟨zB_of C hc1 hl hR, zT_use C hin⟩ hp rfl (by rw [List.length_map]; exact hn) HL.1 ?_ (lv_room (z_catsum hcat)) hd hf) kk
  show List.map (zv q) (As.reverse ++ rest) = _
  simp
/-- a constructor's call -/
def zCi (own : String) (idx : Nat) (M' : zM) (ar : Nat) : Prop := zCn M' ar ∧ Cond.methodLink own idx M'.1 ∈ zT ∧ Cond.instanceMethod M'.1 ∈ zT ∧ M'.1.name = "<init>" ∧ M'.2.2.2 = none
theorem z_callI {idx ar b : Nat} (hi : zIs M pc (.invokespecial idx) 3 pc') (hc : zCi M.1.cls idx M' ar) (hM : zMt M' d mc ms (.ref b :: As) N w Q') (hn : As.length = ar) (hst : As.reverse ++ .ref b :: rest = st)
    (hR : d + 1 ≤ R.frames ∧ 8 + (M'.2.2.1 + 11) + 36 * d ≤ R.locals) (hf : k + mc ≤ R.cells ∧ n + ms ≤ R.slots) (hcat : (rest.map fun v => v.category).sum ≤ 8)
    (kk : ∀ (r : Option Value) (N' : Nat) (w' : zH), Q' r N' w' → zEV M R Z pc' lo (r.toList ++ rest) N' w' (k + mc) (n + ms)) : zEV M R Z pc lo st N w k n := by
  intro p l e s m args below meth c D q H0 C H locs ls HW HC HL
  obtain ⟨hd, rfl⟩ := hi
  obtain ⟨hc1, hl, hin, hnm, hret⟩ := hc
  have hK := C.2.2.2.2.2.2.2.2
  have hp := zPc_pre (As := .ref b :: As) hK HW
  have hB := zB_of (mc := mc) (ms := ms) C hc1 hl hR
  rw [hret] at hB
  subst hst
  refine z_after (rest := rest) C HC HL (va_runI (As := As.map (zv q)) (b := q b) ⟨C.1, C.2.1, C.2.2.2.1, C.2.2.2.2.1, C.2.2.2.2.2.1⟩ (hM l D q H0) ⟨hB, hnm, zT_use C hin⟩ hp rfl (by rw [List.length_map]; exact hn) HL.1 ?_ (lv_room (z_catsum hcat)) hd hf) kk
  show List.map (zv q) (As.reverse ++ .ref b :: rest) = _
  simp [zv]
/-- a constructor's call among nest mates -/
def zCj (own : String) (idx : Nat) (M' : zM) (ar : Nat) (host : String) : Prop := zCn M' ar ∧ Cond.methodLinkNest own idx M'.1 host ∈ zNest ∧ Cond.instanceMethod M'.1 ∈ zT ∧ M'.1.name = "<init>" ∧ M'.2.2.2 = none
theorem z_callJ {idx ar b : Nat} {host : String} (hi : zIs M pc (.invokespecial idx) 3 pc') (hc : zCj M.1.cls idx M' ar host) (hM : zMt M' d mc ms (.ref b :: As) N w Q') (hn : As.length = ar) (hst : As.reverse ++ .ref b :: rest = st)
    (hR : d + 1 ≤ R.frames ∧ 8 + (M'.2.2.1 + 11) + 36 * d ≤ R.locals) (hf : k + mc ≤ R.cells ∧ n + ms ≤ R.slots) (hcat : (rest.map fun v => v.category).sum ≤ 8)
    (kk : ∀ (r : Option Value) (N' : Nat) (w' : zH), Q' r N' w' → zEV M R Z pc' lo (r.toList ++ rest) N' w' (k + mc) (n + ms)) : zEV M R Z pc lo st N w k n := by
  intro p l e s m args below meth c D q H0 C H locs ls HW HC HL
  obtain ⟨hd, rfl⟩ := hi
  obtain ⟨hc1, hl, hin, hnm, hret⟩ := hc
  have hK := C.2.2.2.2.2.2.2.2
  have hp := zPc_pre (As := .ref b :: As) hK HW
  have hB := va_cnB (rm := zrm d mc ms) (R := R) (bytes := M'.2.1) (maxL := M'.2.2.1) (ret := M'.2.2.2) ar C.2.2.2.2.2.1 (zws_good hc1.1) rfl rfl rfl (hK.2.2.2.2.2.2.2.1 _ hl) (zT_use C hc1.2.1) hc1.2.2 hR
  rw [hret] at hB
  subst hst
  refine z_after (rest := rest) C HC HL (va_runIN (As := As.map (zv q)) (b := q b) ⟨C.1, C.2.1, C.2.2.2.1, C.2.2.2.2.1, C.2.2.2.2.2.1⟩ (hM l D q H0) ⟨hB, hnm, zT_use C hin⟩ hp rfl (by rw [List.length_map]; exact hn) HL.1 ?_ (lv_room (z_catsum hcat)) hd hf) kk
  show List.map (zv q) (As.reverse ++ .ref b :: rest) = _
  simp [zv]
theorem z_objInit {idx a : Nat} (hi : zIs M pc (.invokespecial idx) 3 pc') (hl : Cond.methodLink M.1.cls idx objectInit ∈ zT) (h1 : Cond.instanceMethod objectInit ∈ zT) (h2 : Cond.code objectInit ⟨#[0xb1]⟩ 1 none ∈ zT) (hR : 1 ≤ R.frames ∧ (rest.map fun v => v.category).sum + 12 ≤ R.locals) (kk : zEV M R Z pc' lo rest N w k n) : zEV M R Z pc lo (.ref a :: rest) N w k n := by
  intro p l e s m args below meth c D q H0 C H locs ls HW HC HL
  obtain ⟨hd, rfl⟩ := hi
  refine W.objInit (a := q a) (rest := rest.map (zv q)) C.1 C.2.1 C.2.2.2.2.1 (zT_use C hl) (zT_use C h1) (zT_use C h2) rfl (HL.1.trans C.2.2.2.1.symm) rfl hd hR.1 ?_ (kk p l e s m args below meth c D q H0 C H locs ls HW HC HL)
  have e : ((rest.map (zv q)).map fun v => v.category).sum = (rest.map fun v => v.category).sum := by
    rw [List.map_map]
    have e : (fun v => Value.category v) ∘ zv q = fun v => v.category := by funext v; exact zv_cat q v
    rw [e]
  show 2 * 0 + ((rest.map (zv q)).map fun v => v.category).sum + 12 ≤ R.locals
  rw [e]
  omega
/-! ends -/
theorem z_iret {Q : zQ} {v : Int32} (hi : zIs M pc .ireturn 1 pc') (hr : M.2.2.2 = some .int) (hQ : Q (some (.int v)) N w) (hk : k ≤ mc) (hn : n ≤ ms) : zEV M R (zZ mc ms Q) pc lo [.int v] N w k n := by
  intro p l e s m args below meth c D q H0 C H locs ls HW HC HL
  obtain ⟨hd, -⟩ := hi
  refine W.widen hk hn ?_
  exact W.iret C.1 C.2.1 (C.2.2.1.trans hr) (fun t ht _ => ⟨_, _, _, hQ, rfl, by rw [ht]; exact HW⟩) HC hd C.2.2.2.2.2.2.1
theorem z_bret {Q : zQ} {v : Int32} (hi : zIs M pc .ireturn 1 pc') (hr : M.2.2.2 = some .boolean) (hv : v = 0 ∨ v = 1) (hQ : Q (some (.int v)) N w) (hk : k ≤ mc) (hn : n ≤ ms) : zEV M R (zZ mc ms Q) pc lo [.int v] N w k n := by
  intro p l e s m args below meth c D q H0 C H locs ls HW HC HL
  obtain ⟨hd, -⟩ := hi
  refine W.widen hk hn ?_
  exact W.zret C.1 C.2.1 (C.2.2.1.trans hr) (by rcases hv with rfl | rfl <;> rfl) (fun t ht _ => ⟨_, _, _, hQ, rfl, by rw [ht]; exact HW⟩) HC hd C.2.2.2.2.2.2.1
theorem z_lret {Q : zQ} {v : Int64} (hi : zIs M pc .lreturn 1 pc') (hr : M.2.2.2 = some .long) (hQ : Q (some (.long v)) N w) (hk : k ≤ mc) (hn : n ≤ ms) : zEV M R (zZ mc ms Q) pc lo [.long v] N w k n := by
  intro p l e s m args below meth c D q H0 C H locs ls HW HC HL
  obtain ⟨hd, -⟩ := hi
  refine W.widen hk hn ?_
  exact W.lret C.1 C.2.1 (C.2.2.1.trans hr) (fun t ht _ => ⟨_, _, _, hQ, rfl, by rw [ht]; exact HW⟩) HC hd C.2.2.2.2.2.2.1
theorem z_vret {Q : zQ} (hi : zIs M pc .return_ 1 pc') (hr : M.2.2.2 = none) (hQ : Q none N w) (hk : k ≤ mc) (hn : n ≤ ms) : zEV M R (zZ mc ms Q) pc lo [] N w k n := by
  intro p l e s m args below meth c D q H0 C H locs ls HW HC HL
  obtain ⟨hd, -⟩ := hi
  refine W.widen hk hn ?_
  exact W.vret C.1 C.2.1 (C.2.2.1.trans hr) (fun t ht _ => ⟨_, _, _, hQ, rfl, by rw [ht]; exact HW⟩) HC hd C.2.2.2.2.2.2.1
theorem z_aret {Q : zQ} {a : Nat} {nm : String} (hi : zIs M pc .areturn 1 pc') (hr : M.2.2.2 = some (.object nm)) (hQ : Q (some (.ref a)) N w) (hk : k ≤ mc) (hn : n ≤ ms) : zEV M R (zZ mc ms Q) pc lo [.ref a] N w k n := by
  intro p l e s m args below meth c D q H0 C H locs ls HW HC HL
  obtain ⟨hd, -⟩ := hi
  refine W.widen hk hn ?_
  exact W.aret C.1 C.2.1 (C.2.2.1.trans hr) (Or.inl ⟨_, rfl⟩) (Or.inr ⟨_, rfl⟩) (fun t ht _ => ⟨_, _, _, hQ, rfl, by rw [ht]; exact HW⟩) HC hd C.2.2.2.2.2.2.1
/-! the entry -/
theorem zlo_args : ∀ (As : List Value) (q : Nat → Nat) (i j : Nat) (v : Value), (zlo As)[j]? = some (some v) → (i + j, zv q v) ∈ lv_args i (As.map (zv q))
  | [], q, i, j, v, h => by simp [zlo] at h
  | a :: r, q, i, j, v, h => by
    simp only [List.map_cons, lv_args, zv_cat]
    by_cases hc : a.category = 2
    · simp only [zlo, hc, if_true] at h ⊢
      match j, h with
      | 0, h => simp at h; subst h; exact List.mem_cons_self
      | 1, h => simp at h
      | j + 2, h =>
        simp at h
        have := zlo_args r q (i + 2) j v h
        rw [show i + 2 + j = i + (j + 2) by omega] at this
        exact List.mem_cons_of_mem _ this
    · simp only [zlo, hc, if_false] at h ⊢
      match j, h with
      | 0, h => simp at h; subst h; exact List.mem_cons_self
      | j + 1, h =>
        simp at h
        have := zlo_args r q (i + 1) j v h
        rw [show i + 1 + j = i + (j + 1) by omega] at this
        exact List.mem_cons_of_mem _ this
theorem zlo_len : ∀ (As : List Value) (q : Nat → Nat), (lg_sl (As.map (zv q))).length = (zlo As).length
  | [], q => rfl
  | a :: r, q => by
    have ih := zlo_len r q
    simp only [lg_sl, List.map_cons, List.flatMap_cons, List.length_append, zv_cat] at ih ⊢
    by_cases hc : a.category = 2
    · simp [hc, zlo, ih]; omega
    · simp [hc, zlo, ih]; omega
theorem zMt_of {Q : zQ} (hy : plainName M.1.cls = true) (hl : (zlo As).length ≤ M.2.2.1) (hlo : ∀ (i : Nat) (v : Value), lo[i]? = some (some v) → (zlo As)[i]? = some (some v)) (h : zEV M (zrm d mc ms) (zZ mc ms Q) 0 lo [] N w 0 0) : zMt M d mc ms As N w Q := by
  intro l D q H0
  refine Met.ofW (cc := M.2.1) (maxL := M.2.2.1) (ret := M.2.2.2) hy rfl ?_
  intro p e s m args below meth c s₁ B hml hv
  obtain ⟨hargs, HW, hK⟩ := hv
  subst hargs
  have hts := atoms_spec (ws := zws M) B.pre
  have hnm : meth.name = M.1.name := (name_of_methodNamed B.named B.method).1
  have hle := lv_entry (As.map (zv q)) (n := M.2.2.1) (by rw [zlo_len]; exact hl)
  rw [lg_entry_eq]
  exact h p l e s m _ below meth c D q H0 ⟨B.exec, B.bytes, B.returns, hml, findClass_of_methodNamed B.named, hts, B.notSynchronized, hnm, hK⟩ s.heap [] _ HW (fun x hx => by cases hx) ⟨hle.1, hle.2.1, fun i v hv => hle.2.2 (i, zv q v) (by
    have := zlo_args As q 0 i v (hlo i v hv)
    simpa using this)⟩
/-- a weaker end -/
theorem zMt_mono {Q Q2 : zQ} (h : zMt M d mc ms As N w Q) (hQ : ∀ r N w, Q r N w → Q2 r N w) : zMt M d mc ms As N w Q2 := by
  intro l D q H0 p e ha hc hk s m args below hf happ hP hfit
  obtain ⟨k, o, h1, h2, h3, h4⟩ := h l D q H0 p e ha hc hk s m args below hf happ hP hfit
  obtain ⟨⟨r, N', w', hq, h5, h6⟩, h7⟩ := h4
  exact ⟨k, o, h1, h2, h3, ⟨r, N', w', hQ r N' w' hq, h5, h6⟩, h7⟩
end ZCL
end
section
section ZSW
variable {M : zM} {R : Room} {Z : zZt} {pc : Nat} {lo : List (Option Value)} {st : List Value} {N : Nat} {w : zH} {k n : Nat}
/-- a table of targets from l on, and the other one -/
def zTs (M : zM) (pc : Nat) (l : Int) (tg : List Nat) (df : Nat) : Prop := ∃ (dflt h : Int) (offs : Array Int) (len : Nat), decode M.2.1 pc = .ok (.tableswitch dflt l h offs, len) ∧ (pc : Int) + dflt = (df : Int) ∧ h = l + tg.length - 1 ∧ offs.toList.map (fun o => (pc : Int) + o) = tg.map (fun (t : Nat) => (t : Int))
theorem z_tsw {x : Int32} {l : Int} {tg : List Nat} {df : Nat} (hi : zTs M pc l tg df) (kin : ∀ (j t : Nat), tg[j]? = some t → x.toInt = l + j → zEV M R Z t lo st N w k n) (kout : (x.toInt < l ∨ l + tg.length ≤ x.toInt) → zEV M R Z df lo st N w k n) : zEV M R Z pc lo (.int x :: st) N w k n := by
  intro p l' e s m args below meth c D q H0 C H locs ls HW HC HL
  obtain ⟨dflt, h, offs, len, hd, h1, h2, h3⟩ := hi
  by_cases hx : x.toInt < l ∨ h < x.toInt
  · exact lv_tableOut C.1 C.2.1 hd hx h1 (kout (hx.elim Or.inl (fun h9 => Or.inr (by omega))) p l' e s m args below meth c D q H0 C H locs ls HW HC HL)
  · have hx1 : ¬ x.toInt < l := fun h9 => hx (Or.inl h9)
    have hx2 : ¬ h < x.toInt := fun h9 => hx (Or.inr h9)
    have hj : (x.toInt - l).toNat < tg.length := by omega
    have hl : offs.toList.length = tg.length := by simpa using congrArg List.length h3
    have e1 : (offs.toList.map (fun o => (pc : Int) + o))[(x.toInt - l).toNat]? = (tg.map (fun (t : Nat) => (t : Int)))[(x.toInt - l).toNat]? := by rw [h3]
    simp only [List.getElem?_map, List.getElem?_eq_getElem hj, List.getElem?_eq_getElem (show (x.toInt - l).toNat < offs.toList.length by omega), Option.map_some] at e1
    have e2 := Option.some.inj e1
    refine lv_tableIn C.1 C.2.1 hd hx1 hx2 (off := offs.toList[(x.toInt - l).toNat]) (tgt := tg[(x.toInt - l).toNat]) ?_ e2 (kin _ _ (List.getElem?_eq_getElem hj) (by omega) p l' e s m args below meth c D q H0 C H locs ls HW HC HL)
    rw [← Array.getElem?_toList]
    exact List.getElem?_eq_getElem _
def zLs (M : zM) (pc : Nat) (a1 a2 : Int) (t1 t2 df : Nat) : Prop := ∃ (dflt o1 o2 : Int) (len : Nat), decode M.2.1 pc = .ok (.lookupswitch dflt #[(a1, o1), (a2, o2)], len) ∧ a1 < a2 ∧ (pc : Int) + dflt = (df : Int) ∧ (pc : Int) + o1 = (t1 : Int) ∧ (pc : Int) + o2 = (t2 : Int)
theorem z_lsw {x : Int32} {a1 a2 : Int} {t1 t2 df : Nat} (hi : zLs M pc a1 a2 t1 t2 df) (k1 : x.toInt = a1 → zEV M R Z t1 lo st N w k n) (k2 : x.toInt = a2 → zEV M R Z t2 lo st N w k n) (k3 : x.toInt ≠ a1 → x.toInt ≠ a2 → zEV M R Z df lo st N w k n) : zEV M R Z pc lo (.int x :: st) N w k n := by
  intro p l' e s m args below meth c D q H0 C H locs ls HW HC HL
  obtain ⟨dflt, o1, o2, len, hd, h0, h1, h2, h3⟩ := hi
  have hp : ((#[(a1, o1), (a2, o2)] : Array (Int × Int)).toList.zip ((#[(a1, o1), (a2, o2)] : Array (Int × Int)).toList.drop 1)).all (fun (a, next) => a.1 < next.1) = true := by simp [h0]
  by_cases e1 : x.toInt = a1
  · refine lv_lookup C.1 C.2.1 hd hp (off := o1) ?_ h2 (k1 e1 p l' e s m args below meth c D q H0 C H locs ls HW HC HL)
    simp [Op.lookupswitch.offset, e1]
  · by_cases e2 : x.toInt = a2
    · refine lv_lookup C.1 C.2.1 hd hp (off := o2) ?_ h3 (k2 e2 p l' e s m args below meth c D q H0 C H locs ls HW HC HL)
      simp [Op.lookupswitch.offset, e2, Int.ne_of_lt h0]
    · refine lv_lookup C.1 C.2.1 hd hp (off := dflt) ?_ h1 (k3 e1 e2 p l' e s m args below meth c D q H0 C H locs ls HW HC HL)
      have n1 : ¬ a1 = x.toInt := fun h => e1 h.symm
      have n2 : ¬ a2 = x.toInt := fun h => e2 h.symm
      simp [Op.lookupswitch.offset, n1, n2]
theorem zT_mem (i : Nat) {wd : Cond} (h : lw_tbl[i]? = some wd) (hg : goodWord wd = true) : wd ∈ zT := List.mem_filter.mpr ⟨List.mem_of_getElem? h, hg⟩
theorem zT_all (ps : List Nat) {ws : List Cond} (h : ws = ps.filterMap (fun i => lw_tbl[i]?)) (hg : ws.all goodWord = true) : ∀ wd ∈ ws, wd ∈ zT := by
  intro wd hw
  have h2 := List.all_eq_true.mp hg wd hw
  rw [h] at hw
  obtain ⟨i, -, hi⟩ := List.mem_filterMap.mp hw
  exact zT_mem i hi h2
end ZSW
end
section
theorem uX0 : ∀ wd ∈ u_ws RX0 TX0 2, wd ∈ zT := zT_all [228, 230] (by decide +kernel) (by decide +kernel)
theorem uX1 : ∀ wd ∈ u_ws RX1 TX1 4, wd ∈ zT := zT_all [245, 247, 249, 251] (by decide +kernel) (by decide +kernel)
theorem uX2 : ∀ wd ∈ u_ws RX2 TX2 6, wd ∈ zT := zT_all [183, 185, 187, 189, 191, 193] (by decide +kernel) (by decide +kernel)
theorem uX3 : ∀ wd ∈ u_ws RX3 TX3 4, wd ∈ zT := zT_all [209, 211, 213, 215] (by decide +kernel) (by decide +kernel)
theorem uX4 : ∀ wd ∈ u_ws RX4 TX4 9, wd ∈ zT := zT_all [281, 283, 285, 287, 289, 291, 293, 295, 297] (by decide +kernel) (by decide +kernel)
theorem uX5 : ∀ wd ∈ u_ws RX5 TX5 10, wd ∈ zT := zT_all [150, 152, 154, 156, 158, 160, 162, 164, 166, 168] (by decide +kernel) (by decide +kernel)
theorem uX6 : ∀ wd ∈ u_ws RX6 TX6 10, wd ∈ zT := zT_all [100, 102, 104, 106, 108, 110, 112, 114, 116, 118] (by decide +kernel) (by decide +kernel)
theorem uX7 : ∀ wd ∈ u_ws RX7 TX7 13, wd ∈ zT := zT_all [313, 315, 317, 319, 321, 323, 325, 327, 329, 331, 333, 335, 337] (by decide +kernel) (by decide +kernel)
theorem uX8 : ∀ wd ∈ u_ws RX8 TX8 48, wd ∈ zT := zT_all [811, 813, 815, 817, 819, 821, 823, 825, 827, 829, 831, 833, 835, 837, 839, 841, 843, 845, 847, 849, 851, 853, 855, 857, 859, 861, 863, 865, 867, 869, 871, 873, 875, 877, 879, 881, 883, 885, 887, 889, 891, 893, 895, 897, 899, 901, 903, 905] (by decide +kernel) (by decide +kernel)
theorem fX7_12 : zFl RX7 12 7 0 := ⟨(RX7, TX7, 13), rfl, by decide, by decide, zT_mem 300 (by decide +kernel) rfl, uX7⟩
theorem fX7_21 : zFl RX7 21 7 1 := ⟨(RX7, TX7, 13), rfl, by decide, by decide, zT_mem 301 (by decide +kernel) rfl, uX7⟩
theorem fX7_30 : zFl RX7 30 7 2 := ⟨(RX7, TX7, 13), rfl, by decide, by decide, zT_mem 302 (by decide +kernel) rfl, uX7⟩
theorem fX7_37 : zFl RX7 37 7 3 := ⟨(RX7, TX7, 13), rfl, by decide, by decide, zT_mem 303 (by decide +kernel) rfl, uX7⟩
theorem fX7_44 : zFl RX7 44 7 4 := ⟨(RX7, TX7, 13), rfl, by decide, by decide, zT_mem 304 (by decide +kernel) rfl, uX7⟩
theorem fX7_51 : zFl RX7 51 7 5 := ⟨(RX7, TX7, 13), rfl, by decide, by decide, zT_mem 305 (by decide +kernel) rfl, uX7⟩
theorem fX7_57 : zFl RX7 57 7 6 := ⟨(RX7, TX7, 13), rfl, by decide, by decide, zT_mem 306 (by decide +kernel) rfl, uX7⟩
theorem fX7_61 : zFl RX7 61 7 7 := ⟨(RX7, TX7, 13), rfl, by decide, by decide, zT_mem 307 (by decide +kernel) rfl, uX7⟩
theorem fX7_65 : zFl RX7 65 7 8 := ⟨(RX7, TX7, 13), rfl, by decide, by decide, zT_mem 308 (by decide +kernel) rfl, uX7⟩
theorem fX7_68 : zFl RX7 68 7 9 := ⟨(RX7, TX7, 13), rfl, by decide, by decide, zT_mem 309 (by decide +kernel) rfl, uX7⟩
theorem fX7_71 : zFl RX7 71 7 10 := ⟨(RX7, TX7, 13), rfl, by decide, by decide, zT_mem 310 (by decide +kernel) rfl, uX7⟩
theorem fX7_74 : zFl RX7 74 7 11 := ⟨(RX7, TX7, 13), rfl, by decide, by decide, zT_mem 311 (by decide +kernel) rfl, uX7⟩
theorem fX7_77 : zFl RX7 77 7 12 := ⟨(RX7, TX7, 13), rfl, by decide, by decide, zT_mem 312 (by decide +kernel) rfl, uX7⟩
theorem fX7_82 : zFl RX7 82 6 7 := ⟨(RX6, TX6, 10), rfl, by decide, by decide, zT_mem 94 (by decide +kernel) rfl, uX6⟩
theorem fX7_93 : zFl RX7 93 6 3 := ⟨(RX6, TX6, 10), rfl, by decide, by decide, zT_mem 82 (by decide +kernel) rfl, uX6⟩
theorem fX7_97 : zFl RX7 97 6 9 := ⟨(RX6, TX6, 10), rfl, by decide, by decide, zT_mem 98 (by decide +kernel) rfl, uX6⟩
theorem fX7_114 : zFl RX7 114 3 3 := ⟨(RX3, TX3, 4), rfl, by decide, by decide, zT_mem 208 (by decide +kernel) rfl, uX3⟩
theorem fX7_121 : zFl RX7 121 1 2 := ⟨(RX1, TX1, 4), rfl, by decide, by decide, zT_mem 242 (by decide +kernel) rfl, uX1⟩
theorem fX7_130 : zFl RX7 130 6 5 := ⟨(RX6, TX6, 10), rfl, by decide, by decide, zT_mem 88 (by decide +kernel) rfl, uX6⟩
theorem fX7_134 : zFl RX7 134 6 6 := ⟨(RX6, TX6, 10), rfl, by decide, by decide, zT_mem 91 (by decide +kernel) rfl, uX6⟩
theorem fX7_137 : zFl RX7 137 5 6 := ⟨(RX5, TX5, 10), rfl, by decide, by decide, zT_mem 144 (by decide +kernel) rfl, uX5⟩
theorem fX7_155 : zFl RX7 155 5 7 := ⟨(RX5, TX5, 10), rfl, by decide, by decide, zT_mem 147 (by decide +kernel) rfl, uX5⟩
theorem fX7_162 : zFl RX7 162 4 1 := ⟨(RX4, TX4, 9), rfl, by decide, by decide, zT_mem 266 (by decide +kernel) rfl, uX4⟩
theorem fX7_182 : zFl RX7 182 4 4 := ⟨(RX4, TX4, 9), rfl, by decide, by decide, zT_mem 272 (by decide +kernel) rfl, uX4⟩
theorem fX7_189 : zFl RX7 189 4 5 := ⟨(RX4, TX4, 9), rfl, by decide, by decide, zT_mem 274 (by decide +kernel) rfl, uX4⟩
theorem fX7_195 : zFl RX7 195 4 8 := ⟨(RX4, TX4, 9), rfl, by decide, by decide, zT_mem 280 (by decide +kernel) rfl, uX4⟩
theorem fX7_201 : zFl RX7 201 4 2 := ⟨(RX4, TX4, 9), rfl, by decide, by decide, zT_mem 268 (by decide +kernel) rfl, uX4⟩
theorem fX7_210 : zFl RX7 210 4 0 := ⟨(RX4, TX4, 9), rfl, by decide, by decide, zT_mem 263 (by decide +kernel) rfl, uX4⟩
theorem fX7_213 : zFl RX7 213 4 3 := ⟨(RX4, TX4, 9), rfl, by decide, by decide, zT_mem 270 (by decide +kernel) rfl, uX4⟩
theorem fX7_241 : zFl RX7 241 6 0 := ⟨(RX6, TX6, 10), rfl, by decide, by decide, zT_mem 73 (by decide +kernel) rfl, uX6⟩
theorem fX7_244 : zFl RX7 244 6 1 := ⟨(RX6, TX6, 10), rfl, by decide, by decide, zT_mem 76 (by decide +kernel) rfl, uX6⟩
theorem fX7_247 : zFl RX7 247 6 2 := ⟨(RX6, TX6, 10), rfl, by decide, by decide, zT_mem 80 (by decide +kernel) rfl, uX6⟩
theorem fX7_256 : zFl RX7 256 5 5 := ⟨(RX5, TX5, 10), rfl, by decide, by decide, zT_mem 141 (by decide +kernel) rfl, uX5⟩
theorem fX7_259 : zFl RX7 259 5 3 := ⟨(RX5, TX5, 10), rfl, by decide, by decide, zT_mem 136 (by decide +kernel) rfl, uX5⟩
theorem fX7_265 : zFl RX7 265 5 1 := ⟨(RX5, TX5, 10), rfl, by decide, by decide, zT_mem 132 (by decide +kernel) rfl, uX5⟩
theorem fX7_268 : zFl RX7 268 5 2 := ⟨(RX5, TX5, 10), rfl, by decide, by decide, zT_mem 134 (by decide +kernel) rfl, uX5⟩
theorem fX7_270 : zFl RX7 270 5 4 := ⟨(RX5, TX5, 10), rfl, by decide, by decide, zT_mem 139 (by decide +kernel) rfl, uX5⟩
theorem fX7_276 : zFl RX7 276 0 0 := ⟨(RX0, TX0, 2), rfl, by decide, by decide, zT_mem 225 (by decide +kernel) rfl, uX0⟩
theorem fX7_283 : zFl RX7 283 6 8 := ⟨(RX6, TX6, 10), rfl, by decide, by decide, zT_mem 96 (by decide +kernel) rfl, uX6⟩
theorem fX7_286 : zFl RX7 286 0 1 := ⟨(RX0, TX0, 2), rfl, by decide, by decide, zT_mem 227 (by decide +kernel) rfl, uX0⟩
theorem fX7_289 : zFl RX7 289 1 3 := ⟨(RX1, TX1, 4), rfl, by decide, by decide, zT_mem 244 (by decide +kernel) rfl, uX1⟩
theorem fX7_316 : zFl RX7 316 3 0 := ⟨(RX3, TX3, 4), rfl, by decide, by decide, zT_mem 203 (by decide +kernel) rfl, uX3⟩
theorem fX7_323 : zFl RX7 323 3 1 := ⟨(RX3, TX3, 4), rfl, by decide, by decide, zT_mem 205 (by decide +kernel) rfl, uX3⟩
theorem fX7_341 : zFl RX7 341 4 6 := ⟨(RX4, TX4, 9), rfl, by decide, by decide, zT_mem 276 (by decide +kernel) rfl, uX4⟩
theorem fX7_344 : zFl RX7 344 4 7 := ⟨(RX4, TX4, 9), rfl, by decide, by decide, zT_mem 278 (by decide +kernel) rfl, uX4⟩
theorem fX0_11 : zFl RX0 11 0 0 := ⟨(RX0, TX0, 2), rfl, by decide, by decide, zT_mem 224 (by decide +kernel) rfl, uX0⟩
theorem fX0_15 : zFl RX0 15 0 1 := ⟨(RX0, TX0, 2), rfl, by decide, by decide, zT_mem 226 (by decide +kernel) rfl, uX0⟩
theorem fX1_9 : zFl RX1 9 1 0 := ⟨(RX1, TX1, 4), rfl, by decide, by decide, zT_mem 239 (by decide +kernel) rfl, uX1⟩
theorem fX1_15 : zFl RX1 15 1 1 := ⟨(RX1, TX1, 4), rfl, by decide, by decide, zT_mem 240 (by decide +kernel) rfl, uX1⟩
theorem fX1_18 : zFl RX1 18 1 2 := ⟨(RX1, TX1, 4), rfl, by decide, by decide, zT_mem 241 (by decide +kernel) rfl, uX1⟩
theorem fX1_22 : zFl RX1 22 1 3 := ⟨(RX1, TX1, 4), rfl, by decide, by decide, zT_mem 243 (by decide +kernel) rfl, uX1⟩
theorem fX2_9 : zFl RX2 9 2 2 := ⟨(RX2, TX2, 6), rfl, by decide, by decide, zT_mem 179 (by decide +kernel) rfl, uX2⟩
theorem fX2_15 : zFl RX2 15 2 3 := ⟨(RX2, TX2, 6), rfl, by decide, by decide, zT_mem 180 (by decide +kernel) rfl, uX2⟩
theorem fX2_18 : zFl RX2 18 2 4 := ⟨(RX2, TX2, 6), rfl, by decide, by decide, zT_mem 181 (by decide +kernel) rfl, uX2⟩
theorem fX2_21 : zFl RX2 21 2 5 := ⟨(RX2, TX2, 6), rfl, by decide, by decide, zT_mem 182 (by decide +kernel) rfl, uX2⟩
theorem fX2_24 : zFl RX2 24 2 0 := ⟨(RX2, TX2, 6), rfl, by decide, by decide, zT_mem 177 (by decide +kernel) rfl, uX2⟩
theorem fX2_28 : zFl RX2 28 2 1 := ⟨(RX2, TX2, 6), rfl, by decide, by decide, zT_mem 178 (by decide +kernel) rfl, uX2⟩
theorem fX2_32 : zFl RX2 32 6 2 := ⟨(RX6, TX6, 10), rfl, by decide, by decide, zT_mem 78 (by decide +kernel) rfl, uX6⟩
theorem fX2_37 : zFl RX2 37 6 6 := ⟨(RX6, TX6, 10), rfl, by decide, by decide, zT_mem 90 (by decide +kernel) rfl, uX6⟩
theorem fX2_46 : zFl RX2 46 6 0 := ⟨(RX6, TX6, 10), rfl, by decide, by decide, zT_mem 72 (by decide +kernel) rfl, uX6⟩
theorem fX2_62 : zFl RX2 62 5 7 := ⟨(RX5, TX5, 10), rfl, by decide, by decide, zT_mem 146 (by decide +kernel) rfl, uX5⟩
theorem fX2_97 : zFl RX2 97 6 9 := ⟨(RX6, TX6, 10), rfl, by decide, by decide, zT_mem 99 (by decide +kernel) rfl, uX6⟩
theorem fX2_120 : zFl RX2 120 6 3 := ⟨(RX6, TX6, 10), rfl, by decide, by decide, zT_mem 83 (by decide +kernel) rfl, uX6⟩
theorem fX2_124 : zFl RX2 124 6 4 := ⟨(RX6, TX6, 10), rfl, by decide, by decide, zT_mem 85 (by decide +kernel) rfl, uX6⟩
theorem fX3_9 : zFl RX3 9 3 0 := ⟨(RX3, TX3, 4), rfl, by decide, by decide, zT_mem 202 (by decide +kernel) rfl, uX3⟩
theorem fX3_15 : zFl RX3 15 3 1 := ⟨(RX3, TX3, 4), rfl, by decide, by decide, zT_mem 204 (by decide +kernel) rfl, uX3⟩
theorem fX3_18 : zFl RX3 18 3 2 := ⟨(RX3, TX3, 4), rfl, by decide, by decide, zT_mem 206 (by decide +kernel) rfl, uX3⟩
theorem fX3_21 : zFl RX3 21 3 3 := ⟨(RX3, TX3, 4), rfl, by decide, by decide, zT_mem 207 (by decide +kernel) rfl, uX3⟩
theorem fX3_29 : zFl RX3 29 4 0 := ⟨(RX4, TX4, 9), rfl, by decide, by decide, zT_mem 262 (by decide +kernel) rfl, uX4⟩
theorem fX3_34 : zFl RX3 34 4 1 := ⟨(RX4, TX4, 9), rfl, by decide, by decide, zT_mem 265 (by decide +kernel) rfl, uX4⟩
theorem fX3_53 : zFl RX3 53 5 6 := ⟨(RX5, TX5, 10), rfl, by decide, by decide, zT_mem 143 (by decide +kernel) rfl, uX5⟩
theorem fX3_56 : zFl RX3 56 5 1 := ⟨(RX5, TX5, 10), rfl, by decide, by decide, zT_mem 131 (by decide +kernel) rfl, uX5⟩
theorem fX3_59 : zFl RX3 59 5 4 := ⟨(RX5, TX5, 10), rfl, by decide, by decide, zT_mem 138 (by decide +kernel) rfl, uX5⟩
theorem fX4_9 : zFl RX4 9 4 0 := ⟨(RX4, TX4, 9), rfl, by decide, by decide, zT_mem 261 (by decide +kernel) rfl, uX4⟩
theorem fX4_15 : zFl RX4 15 4 1 := ⟨(RX4, TX4, 9), rfl, by decide, by decide, zT_mem 264 (by decide +kernel) rfl, uX4⟩
theorem fX4_18 : zFl RX4 18 4 2 := ⟨(RX4, TX4, 9), rfl, by decide, by decide, zT_mem 267 (by decide +kernel) rfl, uX4⟩
theorem fX4_21 : zFl RX4 21 4 3 := ⟨(RX4, TX4, 9), rfl, by decide, by decide, zT_mem 269 (by decide +kernel) rfl, uX4⟩
theorem fX4_25 : zFl RX4 25 4 4 := ⟨(RX4, TX4, 9), rfl, by decide, by decide, zT_mem 271 (by decide +kernel) rfl, uX4⟩
theorem fX4_28 : zFl RX4 28 4 5 := ⟨(RX4, TX4, 9), rfl, by decide, by decide, zT_mem 273 (by decide +kernel) rfl, uX4⟩
theorem fX4_31 : zFl RX4 31 4 6 := ⟨(RX4, TX4, 9), rfl, by decide, by decide, zT_mem 275 (by decide +kernel) rfl, uX4⟩
theorem fX4_34 : zFl RX4 34 4 7 := ⟨(RX4, TX4, 9), rfl, by decide, by decide, zT_mem 277 (by decide +kernel) rfl, uX4⟩
theorem fX4_37 : zFl RX4 37 4 8 := ⟨(RX4, TX4, 9), rfl, by decide, by decide, zT_mem 279 (by decide +kernel) rfl, uX4⟩
theorem fX5_9 : zFl RX5 9 5 1 := ⟨(RX5, TX5, 10), rfl, by decide, by decide, zT_mem 130 (by decide +kernel) rfl, uX5⟩
theorem fX5_15 : zFl RX5 15 5 2 := ⟨(RX5, TX5, 10), rfl, by decide, by decide, zT_mem 133 (by decide +kernel) rfl, uX5⟩
theorem fX5_18 : zFl RX5 18 5 3 := ⟨(RX5, TX5, 10), rfl, by decide, by decide, zT_mem 135 (by decide +kernel) rfl, uX5⟩
theorem fX5_21 : zFl RX5 21 5 4 := ⟨(RX5, TX5, 10), rfl, by decide, by decide, zT_mem 137 (by decide +kernel) rfl, uX5⟩
theorem fX5_24 : zFl RX5 24 5 5 := ⟨(RX5, TX5, 10), rfl, by decide, by decide, zT_mem 140 (by decide +kernel) rfl, uX5⟩
theorem fX5_28 : zFl RX5 28 5 6 := ⟨(RX5, TX5, 10), rfl, by decide, by decide, zT_mem 142 (by decide +kernel) rfl, uX5⟩
theorem fX5_32 : zFl RX5 32 5 7 := ⟨(RX5, TX5, 10), rfl, by decide, by decide, zT_mem 145 (by decide +kernel) rfl, uX5⟩
theorem fX5_35 : zFl RX5 35 5 8 := ⟨(RX5, TX5, 10), rfl, by decide, by decide, zT_mem 148 (by decide +kernel) rfl, uX5⟩
theorem fX5_38 : zFl RX5 38 5 9 := ⟨(RX5, TX5, 10), rfl, by decide, by decide, zT_mem 149 (by decide +kernel) rfl, uX5⟩
theorem fX5_41 : zFl RX5 41 5 0 := ⟨(RX5, TX5, 10), rfl, by decide, by decide, zT_mem 129 (by decide +kernel) rfl, uX5⟩
theorem fX5_53 : zFl RX5 53 6 1 := ⟨(RX6, TX6, 10), rfl, by decide, by decide, zT_mem 75 (by decide +kernel) rfl, uX6⟩
theorem fX5_58 : zFl RX5 58 6 5 := ⟨(RX6, TX6, 10), rfl, by decide, by decide, zT_mem 87 (by decide +kernel) rfl, uX6⟩
theorem fX5_64 : zFl RX5 64 6 2 := ⟨(RX6, TX6, 10), rfl, by decide, by decide, zT_mem 79 (by decide +kernel) rfl, uX6⟩
theorem fX5_67 : zFl RX5 67 6 6 := ⟨(RX6, TX6, 10), rfl, by decide, by decide, zT_mem 92 (by decide +kernel) rfl, uX6⟩
theorem fX6_9 : zFl RX6 9 6 0 := ⟨(RX6, TX6, 10), rfl, by decide, by decide, zT_mem 71 (by decide +kernel) rfl, uX6⟩
theorem fX6_15 : zFl RX6 15 6 1 := ⟨(RX6, TX6, 10), rfl, by decide, by decide, zT_mem 74 (by decide +kernel) rfl, uX6⟩
theorem fX6_18 : zFl RX6 18 6 2 := ⟨(RX6, TX6, 10), rfl, by decide, by decide, zT_mem 77 (by decide +kernel) rfl, uX6⟩
theorem fX6_21 : zFl RX6 21 6 3 := ⟨(RX6, TX6, 10), rfl, by decide, by decide, zT_mem 81 (by decide +kernel) rfl, uX6⟩
theorem fX6_25 : zFl RX6 25 6 4 := ⟨(RX6, TX6, 10), rfl, by decide, by decide, zT_mem 84 (by decide +kernel) rfl, uX6⟩
theorem fX6_28 : zFl RX6 28 6 5 := ⟨(RX6, TX6, 10), rfl, by decide, by decide, zT_mem 86 (by decide +kernel) rfl, uX6⟩
theorem fX6_31 : zFl RX6 31 6 6 := ⟨(RX6, TX6, 10), rfl, by decide, by decide, zT_mem 89 (by decide +kernel) rfl, uX6⟩
theorem fX6_34 : zFl RX6 34 6 7 := ⟨(RX6, TX6, 10), rfl, by decide, by decide, zT_mem 93 (by decide +kernel) rfl, uX6⟩
theorem fX6_38 : zFl RX6 38 6 8 := ⟨(RX6, TX6, 10), rfl, by decide, by decide, zT_mem 95 (by decide +kernel) rfl, uX6⟩
theorem fX6_41 : zFl RX6 41 6 9 := ⟨(RX6, TX6, 10), rfl, by decide, by decide, zT_mem 97 (by decide +kernel) rfl, uX6⟩
theorem fX8_7 : zFl RX8 7 8 1 := ⟨(RX8, TX8, 48), rfl, by decide, by decide, zT_mem 764 (by decide +kernel) rfl, uX8⟩
theorem fX8_13 : zFl RX8 13 8 2 := ⟨(RX8, TX8, 48), rfl, by decide, by decide, zT_mem 765 (by decide +kernel) rfl, uX8⟩
theorem fX8_16 : zFl RX8 16 8 3 := ⟨(RX8, TX8, 48), rfl, by decide, by decide, zT_mem 766 (by decide +kernel) rfl, uX8⟩
theorem fX8_19 : zFl RX8 19 8 4 := ⟨(RX8, TX8, 48), rfl, by decide, by decide, zT_mem 767 (by decide +kernel) rfl, uX8⟩
theorem fX8_22 : zFl RX8 22 8 5 := ⟨(RX8, TX8, 48), rfl, by decide, by decide, zT_mem 768 (by decide +kernel) rfl, uX8⟩
theorem fX8_26 : zFl RX8 26 8 6 := ⟨(RX8, TX8, 48), rfl, by decide, by decide, zT_mem 769 (by decide +kernel) rfl, uX8⟩
theorem fX8_29 : zFl RX8 29 8 8 := ⟨(RX8, TX8, 48), rfl, by decide, by decide, zT_mem 771 (by decide +kernel) rfl, uX8⟩
theorem fX8_32 : zFl RX8 32 8 10 := ⟨(RX8, TX8, 48), rfl, by decide, by decide, zT_mem 773 (by decide +kernel) rfl, uX8⟩
theorem fX8_35 : zFl RX8 35 8 12 := ⟨(RX8, TX8, 48), rfl, by decide, by decide, zT_mem 775 (by decide +kernel) rfl, uX8⟩
theorem fX8_38 : zFl RX8 38 8 13 := ⟨(RX8, TX8, 48), rfl, by decide, by decide, zT_mem 776 (by decide +kernel) rfl, uX8⟩
theorem fX8_41 : zFl RX8 41 8 14 := ⟨(RX8, TX8, 48), rfl, by decide, by decide, zT_mem 777 (by decide +kernel) rfl, uX8⟩
theorem fX8_44 : zFl RX8 44 8 16 := ⟨(RX8, TX8, 48), rfl, by decide, by decide, zT_mem 779 (by decide +kernel) rfl, uX8⟩
theorem fX8_47 : zFl RX8 47 8 17 := ⟨(RX8, TX8, 48), rfl, by decide, by decide, zT_mem 780 (by decide +kernel) rfl, uX8⟩
theorem fX8_50 : zFl RX8 50 8 20 := ⟨(RX8, TX8, 48), rfl, by decide, by decide, zT_mem 783 (by decide +kernel) rfl, uX8⟩
theorem fX8_53 : zFl RX8 53 8 21 := ⟨(RX8, TX8, 48), rfl, by decide, by decide, zT_mem 784 (by decide +kernel) rfl, uX8⟩
theorem fX8_56 : zFl RX8 56 8 22 := ⟨(RX8, TX8, 48), rfl, by decide, by decide, zT_mem 785 (by decide +kernel) rfl, uX8⟩
theorem fX8_59 : zFl RX8 59 8 23 := ⟨(RX8, TX8, 48), rfl, by decide, by decide, zT_mem 786 (by decide +kernel) rfl, uX8⟩
theorem fX8_62 : zFl RX8 62 8 24 := ⟨(RX8, TX8, 48), rfl, by decide, by decide, zT_mem 787 (by decide +kernel) rfl, uX8⟩
theorem fX8_65 : zFl RX8 65 8 25 := ⟨(RX8, TX8, 48), rfl, by decide, by decide, zT_mem 788 (by decide +kernel) rfl, uX8⟩
theorem fX8_68 : zFl RX8 68 8 26 := ⟨(RX8, TX8, 48), rfl, by decide, by decide, zT_mem 789 (by decide +kernel) rfl, uX8⟩
theorem fX8_71 : zFl RX8 71 8 27 := ⟨(RX8, TX8, 48), rfl, by decide, by decide, zT_mem 790 (by decide +kernel) rfl, uX8⟩
theorem fX8_74 : zFl RX8 74 8 29 := ⟨(RX8, TX8, 48), rfl, by decide, by decide, zT_mem 792 (by decide +kernel) rfl, uX8⟩
theorem fX8_77 : zFl RX8 77 8 30 := ⟨(RX8, TX8, 48), rfl, by decide, by decide, zT_mem 793 (by decide +kernel) rfl, uX8⟩
theorem fX8_80 : zFl RX8 80 8 31 := ⟨(RX8, TX8, 48), rfl, by decide, by decide, zT_mem 794 (by decide +kernel) rfl, uX8⟩
theorem fX8_83 : zFl RX8 83 8 32 := ⟨(RX8, TX8, 48), rfl, by decide, by decide, zT_mem 795 (by decide +kernel) rfl, uX8⟩
theorem fX8_86 : zFl RX8 86 8 33 := ⟨(RX8, TX8, 48), rfl, by decide, by decide, zT_mem 796 (by decide +kernel) rfl, uX8⟩
theorem fX8_89 : zFl RX8 89 8 34 := ⟨(RX8, TX8, 48), rfl, by decide, by decide, zT_mem 797 (by decide +kernel) rfl, uX8⟩
theorem fX8_92 : zFl RX8 92 8 35 := ⟨(RX8, TX8, 48), rfl, by decide, by decide, zT_mem 798 (by decide +kernel) rfl, uX8⟩
theorem fX8_95 : zFl RX8 95 8 36 := ⟨(RX8, TX8, 48), rfl, by decide, by decide, zT_mem 799 (by decide +kernel) rfl, uX8⟩
theorem fX8_98 : zFl RX8 98 8 37 := ⟨(RX8, TX8, 48), rfl, by decide, by decide, zT_mem 800 (by decide +kernel) rfl, uX8⟩
theorem fX8_101 : zFl RX8 101 8 40 := ⟨(RX8, TX8, 48), rfl, by decide, by decide, zT_mem 803 (by decide +kernel) rfl, uX8⟩
theorem fX8_104 : zFl RX8 104 8 44 := ⟨(RX8, TX8, 48), rfl, by decide, by decide, zT_mem 807 (by decide +kernel) rfl, uX8⟩
theorem fX8_107 : zFl RX8 107 8 45 := ⟨(RX8, TX8, 48), rfl, by decide, by decide, zT_mem 808 (by decide +kernel) rfl, uX8⟩
theorem fX8_110 : zFl RX8 110 8 46 := ⟨(RX8, TX8, 48), rfl, by decide, by decide, zT_mem 809 (by decide +kernel) rfl, uX8⟩
theorem fX8_113 : zFl RX8 113 8 47 := ⟨(RX8, TX8, 48), rfl, by decide, by decide, zT_mem 810 (by decide +kernel) rfl, uX8⟩
theorem fX8_116 : zFl RX8 116 8 28 := ⟨(RX8, TX8, 48), rfl, by decide, by decide, zT_mem 791 (by decide +kernel) rfl, uX8⟩
theorem fX8_120 : zFl RX8 120 8 0 := ⟨(RX8, TX8, 48), rfl, by decide, by decide, zT_mem 763 (by decide +kernel) rfl, uX8⟩
theorem fX8_127 : zFl RX8 127 8 9 := ⟨(RX8, TX8, 48), rfl, by decide, by decide, zT_mem 772 (by decide +kernel) rfl, uX8⟩
theorem fX8_130 : zFl RX8 130 8 7 := ⟨(RX8, TX8, 48), rfl, by decide, by decide, zT_mem 770 (by decide +kernel) rfl, uX8⟩
theorem fX8_138 : zFl RX8 138 8 11 := ⟨(RX8, TX8, 48), rfl, by decide, by decide, zT_mem 774 (by decide +kernel) rfl, uX8⟩
theorem fX8_141 : zFl RX8 141 8 15 := ⟨(RX8, TX8, 48), rfl, by decide, by decide, zT_mem 778 (by decide +kernel) rfl, uX8⟩
theorem fX8_144 : zFl RX8 144 8 19 := ⟨(RX8, TX8, 48), rfl, by decide, by decide, zT_mem 782 (by decide +kernel) rfl, uX8⟩
theorem fX8_171 : zFl RX8 171 8 38 := ⟨(RX8, TX8, 48), rfl, by decide, by decide, zT_mem 801 (by decide +kernel) rfl, uX8⟩
theorem fX8_182 : zFl RX8 182 8 39 := ⟨(RX8, TX8, 48), rfl, by decide, by decide, zT_mem 802 (by decide +kernel) rfl, uX8⟩
theorem fX8_198 : zFl RX8 198 8 41 := ⟨(RX8, TX8, 48), rfl, by decide, by decide, zT_mem 804 (by decide +kernel) rfl, uX8⟩
theorem fX8_202 : zFl RX8 202 8 43 := ⟨(RX8, TX8, 48), rfl, by decide, by decide, zT_mem 806 (by decide +kernel) rfl, uX8⟩
theorem fX8_205 : zFl RX8 205 8 42 := ⟨(RX8, TX8, 48), rfl, by decide, by decide, zT_mem 805 (by decide +kernel) rfl, uX8⟩
theorem fX8_211 : zFl RX8 211 8 18 := ⟨(RX8, TX8, 48), rfl, by decide, by decide, zT_mem 781 (by decide +kernel) rfl, uX8⟩
theorem ff0_0 : zFf RX0 0 0 (.array .int) := ⟨(RX0, TX0, 2), rfl, rfl, rfl, by decide +kernel⟩
theorem fw0_1 : zFw 0 1 .int := ⟨(RX0, TX0, 2), rfl, rfl, by decide +kernel⟩
theorem ff1_0 : zFf RX1 1 0 (.array .int) := ⟨(RX1, TX1, 4), rfl, rfl, rfl, by decide +kernel⟩
theorem ff1_1 : zFf RX1 1 1 (.array .int) := ⟨(RX1, TX1, 4), rfl, rfl, rfl, by decide +kernel⟩
theorem fw1_2 : zFw 1 2 .int := ⟨(RX1, TX1, 4), rfl, rfl, by decide +kernel⟩
theorem fw1_3 : zFw 1 3 .int := ⟨(RX1, TX1, 4), rfl, rfl, by decide +kernel⟩
theorem ff2_0 : zFf RX2 2 0 (.object "JudgesLedger$Show") := ⟨(RX2, TX2, 6), rfl, rfl, rfl, by decide +kernel⟩
theorem ff2_1 : zFf RX2 2 1 (.object "JudgesLedger$Sheet") := ⟨(RX2, TX2, 6), rfl, rfl, rfl, by decide +kernel⟩
theorem ff2_2 : zFf RX2 2 2 (.array .int) := ⟨(RX2, TX2, 6), rfl, rfl, rfl, by decide +kernel⟩
theorem ff2_3 : zFf RX2 2 3 (.array .int) := ⟨(RX2, TX2, 6), rfl, rfl, rfl, by decide +kernel⟩
theorem ff2_4 : zFf RX2 2 4 (.array .int) := ⟨(RX2, TX2, 6), rfl, rfl, rfl, by decide +kernel⟩
theorem ff2_5 : zFf RX2 2 5 (.array .int) := ⟨(RX2, TX2, 6), rfl, rfl, rfl, by decide +kernel⟩
theorem ff3_0 : zFf RX3 3 0 (.array .int) := ⟨(RX3, TX3, 4), rfl, rfl, rfl, by decide +kernel⟩
theorem ff3_1 : zFf RX3 3 1 (.array .int) := ⟨(RX3, TX3, 4), rfl, rfl, rfl, by decide +kernel⟩
theorem ff3_2 : zFf RX3 3 2 (.array .int) := ⟨(RX3, TX3, 4), rfl, rfl, rfl, by decide +kernel⟩
theorem fw3_3 : zFw 3 3 .int := ⟨(RX3, TX3, 4), rfl, rfl, by decide +kernel⟩
theorem fw4_0 : zFw 4 0 .int := ⟨(RX4, TX4, 9), rfl, rfl, by decide +kernel⟩
theorem fw4_1 : zFw 4 1 .int := ⟨(RX4, TX4, 9), rfl, rfl, by decide +kernel⟩
theorem fw4_2 : zFw 4 2 .int := ⟨(RX4, TX4, 9), rfl, rfl, by decide +kernel⟩
theorem ff4_3 : zFf RX4 4 3 (.array .int) := ⟨(RX4, TX4, 9), rfl, rfl, rfl, by decide +kernel⟩
theorem ff4_4 : zFf RX4 4 4 (.array .int) := ⟨(RX4, TX4, 9), rfl, rfl, rfl, by decide +kernel⟩
theorem fw4_5 : zFw 4 5 .int := ⟨(RX4, TX4, 9), rfl, rfl, by decide +kernel⟩
theorem ff4_6 : zFf RX4 4 6 (.array .int) := ⟨(RX4, TX4, 9), rfl, rfl, rfl, by decide +kernel⟩
theorem ff4_7 : zFf RX4 4 7 (.array .int) := ⟨(RX4, TX4, 9), rfl, rfl, rfl, by decide +kernel⟩
theorem fw4_8 : zFw 4 8 .int := ⟨(RX4, TX4, 9), rfl, rfl, by decide +kernel⟩
theorem ff5_0 : zFf RX5 5 0 (.object "JudgesLedger$Show") := ⟨(RX5, TX5, 10), rfl, rfl, rfl, by decide +kernel⟩
theorem ff5_1 : zFf RX5 5 1 (.array .int) := ⟨(RX5, TX5, 10), rfl, rfl, rfl, by decide +kernel⟩
theorem ff5_2 : zFf RX5 5 2 (.array .int) := ⟨(RX5, TX5, 10), rfl, rfl, rfl, by decide +kernel⟩
theorem ff5_3 : zFf RX5 5 3 (.array .int) := ⟨(RX5, TX5, 10), rfl, rfl, rfl, by decide +kernel⟩
theorem ff5_4 : zFf RX5 5 4 (.array .int) := ⟨(RX5, TX5, 10), rfl, rfl, rfl, by decide +kernel⟩
theorem ff5_5 : zFf RX5 5 5 (.array .boolean) := ⟨(RX5, TX5, 10), rfl, rfl, rfl, by decide +kernel⟩
theorem fw5_6 : zFw 5 6 .int := ⟨(RX5, TX5, 10), rfl, rfl, by decide +kernel⟩
theorem ff5_7 : zFf RX5 5 7 (.array .int) := ⟨(RX5, TX5, 10), rfl, rfl, rfl, by decide +kernel⟩
theorem ff5_8 : zFf RX5 5 8 (.array .int) := ⟨(RX5, TX5, 10), rfl, rfl, rfl, by decide +kernel⟩
theorem ff5_9 : zFf RX5 5 9 (.array .int) := ⟨(RX5, TX5, 10), rfl, rfl, rfl, by decide +kernel⟩
theorem ff6_0 : zFf RX6 6 0 (.array .int) := ⟨(RX6, TX6, 10), rfl, rfl, rfl, by decide +kernel⟩
theorem ff6_1 : zFf RX6 6 1 (.array .int) := ⟨(RX6, TX6, 10), rfl, rfl, rfl, by decide +kernel⟩
theorem ff6_2 : zFf RX6 6 2 (.array .int) := ⟨(RX6, TX6, 10), rfl, rfl, rfl, by decide +kernel⟩
theorem ff6_3 : zFf RX6 6 3 (.array .boolean) := ⟨(RX6, TX6, 10), rfl, rfl, rfl, by decide +kernel⟩
theorem ff6_4 : zFf RX6 6 4 (.array .int) := ⟨(RX6, TX6, 10), rfl, rfl, rfl, by decide +kernel⟩
theorem ff6_5 : zFf RX6 6 5 (.array .int) := ⟨(RX6, TX6, 10), rfl, rfl, rfl, by decide +kernel⟩
theorem ff6_6 : zFf RX6 6 6 (.array .int) := ⟨(RX6, TX6, 10), rfl, rfl, rfl, by decide +kernel⟩
theorem fw6_7 : zFw 6 7 .int := ⟨(RX6, TX6, 10), rfl, rfl, by decide +kernel⟩
theorem fw6_8 : zFw 6 8 .int := ⟨(RX6, TX6, 10), rfl, rfl, by decide +kernel⟩
theorem fw6_9 : zFw 6 9 .int := ⟨(RX6, TX6, 10), rfl, rfl, by decide +kernel⟩
theorem ff7_0 : zFf RX7 7 0 (.object "JudgesLedger$Show") := ⟨(RX7, TX7, 13), rfl, rfl, rfl, by decide +kernel⟩
theorem ff7_1 : zFf RX7 7 1 (.object "JudgesLedger$Sheet") := ⟨(RX7, TX7, 13), rfl, rfl, rfl, by decide +kernel⟩
theorem ff7_2 : zFf RX7 7 2 (.object "JudgesLedger$Placing") := ⟨(RX7, TX7, 13), rfl, rfl, rfl, by decide +kernel⟩
theorem ff7_3 : zFf RX7 7 3 (.object "JudgesLedger$RuleBook") := ⟨(RX7, TX7, 13), rfl, rfl, rfl, by decide +kernel⟩
theorem ff7_4 : zFf RX7 7 4 (.object "JudgesLedger$FailureBook") := ⟨(RX7, TX7, 13), rfl, rfl, rfl, by decide +kernel⟩
theorem ff7_5 : zFf RX7 7 5 (.object "JudgesLedger$Gallery") := ⟨(RX7, TX7, 13), rfl, rfl, rfl, by decide +kernel⟩
theorem ff7_6 : zFf RX7 7 6 (.array (.object "JudgesLedger$Scoring")) := ⟨(RX7, TX7, 13), rfl, rfl, rfl, by decide +kernel⟩
theorem fw7_7 : zFw 7 7 .int := ⟨(RX7, TX7, 13), rfl, rfl, by decide +kernel⟩
theorem fw7_8 : zFw 7 8 .int := ⟨(RX7, TX7, 13), rfl, rfl, by decide +kernel⟩
theorem fw7_9 : zFw 7 9 .int := ⟨(RX7, TX7, 13), rfl, rfl, by decide +kernel⟩
theorem fw7_10 : zFw 7 10 .int := ⟨(RX7, TX7, 13), rfl, rfl, by decide +kernel⟩
theorem fw7_11 : zFw 7 11 .int := ⟨(RX7, TX7, 13), rfl, rfl, by decide +kernel⟩
theorem fw7_12 : zFw 7 12 .boolean := ⟨(RX7, TX7, 13), rfl, rfl, by decide +kernel⟩
theorem fw8_0 : zFw 8 0 .int := ⟨(RX8, TX8, 48), rfl, rfl, by decide +kernel⟩
theorem ff8_1 : zFf RX8 8 1 (.array .int) := ⟨(RX8, TX8, 48), rfl, rfl, rfl, by decide +kernel⟩
theorem ff8_2 : zFf RX8 8 2 (.array .int) := ⟨(RX8, TX8, 48), rfl, rfl, rfl, by decide +kernel⟩
theorem ff8_3 : zFf RX8 8 3 (.array .int) := ⟨(RX8, TX8, 48), rfl, rfl, rfl, by decide +kernel⟩
theorem ff8_4 : zFf RX8 8 4 (.array .int) := ⟨(RX8, TX8, 48), rfl, rfl, rfl, by decide +kernel⟩
theorem ff8_5 : zFf RX8 8 5 (.array .boolean) := ⟨(RX8, TX8, 48), rfl, rfl, rfl, by decide +kernel⟩
theorem ff8_6 : zFf RX8 8 6 (.array .int) := ⟨(RX8, TX8, 48), rfl, rfl, rfl, by decide +kernel⟩
theorem fw8_7 : zFw 8 7 .int := ⟨(RX8, TX8, 48), rfl, rfl, by decide +kernel⟩
theorem ff8_8 : zFf RX8 8 8 (.array .int) := ⟨(RX8, TX8, 48), rfl, rfl, rfl, by decide +kernel⟩
theorem fw8_9 : zFw 8 9 .int := ⟨(RX8, TX8, 48), rfl, rfl, by decide +kernel⟩
theorem ff8_10 : zFf RX8 8 10 (.array .int) := ⟨(RX8, TX8, 48), rfl, rfl, rfl, by decide +kernel⟩
theorem fw8_11 : zFw 8 11 .int := ⟨(RX8, TX8, 48), rfl, rfl, by decide +kernel⟩
theorem ff8_12 : zFf RX8 8 12 (.array .int) := ⟨(RX8, TX8, 48), rfl, rfl, rfl, by decide +kernel⟩
theorem ff8_13 : zFf RX8 8 13 (.array .int) := ⟨(RX8, TX8, 48), rfl, rfl, rfl, by decide +kernel⟩
theorem ff8_14 : zFf RX8 8 14 (.array .int) := ⟨(RX8, TX8, 48), rfl, rfl, rfl, by decide +kernel⟩
theorem fw8_15 : zFw 8 15 .int := ⟨(RX8, TX8, 48), rfl, rfl, by decide +kernel⟩
theorem ff8_16 : zFf RX8 8 16 (.array .int) := ⟨(RX8, TX8, 48), rfl, rfl, rfl, by decide +kernel⟩
theorem ff8_17 : zFf RX8 8 17 (.array .int) := ⟨(RX8, TX8, 48), rfl, rfl, rfl, by decide +kernel⟩
theorem fw8_18 : zFw 8 18 .int := ⟨(RX8, TX8, 48), rfl, rfl, by decide +kernel⟩
theorem fw8_19 : zFw 8 19 .int := ⟨(RX8, TX8, 48), rfl, rfl, by decide +kernel⟩
theorem ff8_20 : zFf RX8 8 20 (.array .int) := ⟨(RX8, TX8, 48), rfl, rfl, rfl, by decide +kernel⟩
theorem ff8_21 : zFf RX8 8 21 (.array .int) := ⟨(RX8, TX8, 48), rfl, rfl, rfl, by decide +kernel⟩
theorem ff8_22 : zFf RX8 8 22 (.array .int) := ⟨(RX8, TX8, 48), rfl, rfl, rfl, by decide +kernel⟩
theorem ff8_23 : zFf RX8 8 23 (.array .int) := ⟨(RX8, TX8, 48), rfl, rfl, rfl, by decide +kernel⟩
theorem ff8_24 : zFf RX8 8 24 (.array .boolean) := ⟨(RX8, TX8, 48), rfl, rfl, rfl, by decide +kernel⟩
theorem ff8_25 : zFf RX8 8 25 (.array .int) := ⟨(RX8, TX8, 48), rfl, rfl, rfl, by decide +kernel⟩
theorem ff8_26 : zFf RX8 8 26 (.array .int) := ⟨(RX8, TX8, 48), rfl, rfl, rfl, by decide +kernel⟩
theorem ff8_27 : zFf RX8 8 27 (.array .int) := ⟨(RX8, TX8, 48), rfl, rfl, rfl, by decide +kernel⟩
theorem fw8_28 : zFw 8 28 .int := ⟨(RX8, TX8, 48), rfl, rfl, by decide +kernel⟩
theorem ff8_29 : zFf RX8 8 29 (.array .int) := ⟨(RX8, TX8, 48), rfl, rfl, rfl, by decide +kernel⟩
theorem ff8_30 : zFf RX8 8 30 (.array .int) := ⟨(RX8, TX8, 48), rfl, rfl, rfl, by decide +kernel⟩
theorem ff8_31 : zFf RX8 8 31 (.array .int) := ⟨(RX8, TX8, 48), rfl, rfl, rfl, by decide +kernel⟩
theorem ff8_32 : zFf RX8 8 32 (.array .int) := ⟨(RX8, TX8, 48), rfl, rfl, rfl, by decide +kernel⟩
theorem ff8_33 : zFf RX8 8 33 (.array .int) := ⟨(RX8, TX8, 48), rfl, rfl, rfl, by decide +kernel⟩
theorem ff8_34 : zFf RX8 8 34 (.array .int) := ⟨(RX8, TX8, 48), rfl, rfl, rfl, by decide +kernel⟩
theorem ff8_35 : zFf RX8 8 35 (.array .int) := ⟨(RX8, TX8, 48), rfl, rfl, rfl, by decide +kernel⟩
theorem ff8_36 : zFf RX8 8 36 (.array .int) := ⟨(RX8, TX8, 48), rfl, rfl, rfl, by decide +kernel⟩
theorem ff8_37 : zFf RX8 8 37 (.array .int) := ⟨(RX8, TX8, 48), rfl, rfl, rfl, by decide +kernel⟩
theorem fw8_38 : zFw 8 38 .int := ⟨(RX8, TX8, 48), rfl, rfl, by decide +kernel⟩
theorem fw8_39 : zFw 8 39 .int := ⟨(RX8, TX8, 48), rfl, rfl, by decide +kernel⟩
theorem ff8_40 : zFf RX8 8 40 (.array .int) := ⟨(RX8, TX8, 48), rfl, rfl, rfl, by decide +kernel⟩
theorem fw8_41 : zFw 8 41 .boolean := ⟨(RX8, TX8, 48), rfl, rfl, by decide +kernel⟩
theorem fw8_42 : zFw 8 42 .int := ⟨(RX8, TX8, 48), rfl, rfl, by decide +kernel⟩
theorem fw8_43 : zFw 8 43 .int := ⟨(RX8, TX8, 48), rfl, rfl, by decide +kernel⟩
theorem ff8_44 : zFf RX8 8 44 (.array .boolean) := ⟨(RX8, TX8, 48), rfl, rfl, rfl, by decide +kernel⟩
theorem ff8_45 : zFf RX8 8 45 (.array .boolean) := ⟨(RX8, TX8, 48), rfl, rfl, rfl, by decide +kernel⟩
theorem ff8_46 : zFf RX8 8 46 (.array .int) := ⟨(RX8, TX8, 48), rfl, rfl, rfl, by decide +kernel⟩
theorem ff8_47 : zFf RX8 8 47 (.array .int) := ⟨(RX8, TX8, 48), rfl, rfl, rfl, by decide +kernel⟩
abbrev mX0_init : zM := (yX0_init, cX0_init, 1, none)
abbrev mX0_isNoted : zM := (yX0_isNoted, cX0_isNoted, 2, (some .boolean))
abbrev mX0_add : zM := (yX0_add, cX0_add, 9, (some .int))
abbrev mX1_init : zM := (yX1_init, cX1_init, 1, none)
abbrev mX1_add : zM := (yX1_add, cX1_add, 3, (some .int))
abbrev mX1_tell : zM := (yX1_tell, cX1_tell, 2, (some .boolean))
abbrev mX2_init : zM := (yX2_init, cX2_init, 3, none)
abbrev mX2_totalOf : zM := (yX2_totalOf, cX2_totalOf, 4, (some .int))
abbrev mX2_middle : zM := (yX2_middle, cX2_middle, 4, (some .int))
abbrev mX2_sortMarks : zM := (yX2_sortMarks, cX2_sortMarks, 6, none)
abbrev mX2_nearest : zM := (yX2_nearest, cX2_nearest, 5, (some .int))
abbrev mX2_rankOf : zM := (yX2_rankOf, cX2_rankOf, 2, (some .int))
abbrev mX2_sharersOf : zM := (yX2_sharersOf, cX2_sharersOf, 2, (some .int))
abbrev mX2_prizeOf : zM := (yX2_prizeOf, cX2_prizeOf, 2, (some .int))
abbrev mX2_prizesLeft : zM := (yX2_prizesLeft, cX2_prizesLeft, 4, (some .int))
abbrev mX2_entryAt : zM := (yX2_entryAt, cX2_entryAt, 4, (some .int))
abbrev mX2_rankClass : zM := (yX2_rankClass, cX2_rankClass, 3, none)
abbrev mX2_betterThan : zM := (yX2_betterThan, cX2_betterThan, 4, (some .int))
abbrev mX2_isBetter : zM := (yX2_isBetter, cX2_isBetter, 3, (some .boolean))
abbrev mX2_sharers : zM := (yX2_sharers, cX2_sharers, 2, (some .int))
abbrev mX2_sharersAheadOf : zM := (yX2_sharersAheadOf, cX2_sharersAheadOf, 5, (some .int))
abbrev mX2_position : zM := (yX2_position, cX2_position, 2, (some .int))
abbrev mX2_share : zM := (yX2_share, cX2_share, 4, (some .int))
abbrev mX2_prizesFrom : zM := (yX2_prizesFrom, cX2_prizesFrom, 6, (some .int))
abbrev mX3_init : zM := (yX3_init, cX3_init, 1, none)
abbrev mX3_add : zM := (yX3_add, cX3_add, 5, (some .int))
abbrev mX3_holds : zM := (yX3_holds, cX3_holds, 6, (some .boolean))
abbrev mX3_latestIsOutOfRange : zM := (yX3_latestIsOutOfRange, cX3_latestIsOutOfRange, 3, (some .boolean))
abbrev mX4_init : zM := (yX4_init, cX4_init, 1, none)
abbrev mX4_start : zM := (yX4_start, cX4_start, 4, none)
abbrev mX4_indexOfSavepoint : zM := (yX4_indexOfSavepoint, cX4_indexOfSavepoint, 3, (some .int))
abbrev mX4_addSavepoint : zM := (yX4_addSavepoint, cX4_addSavepoint, 4, none)
abbrev mX4_removeSavepoint : zM := (yX4_removeSavepoint, cX4_removeSavepoint, 3, none)
abbrev mX4_addGuard : zM := (yX4_addGuard, cX4_addGuard, 3, none)
abbrev mX5_init : zM := (yX5_init, cX5_init, 2, none)
abbrev mX5_hasEvent : zM := (yX5_hasEvent, cX5_hasEvent, 2, (some .boolean))
abbrev mX5_append : zM := (yX5_append, cX5_append, 6, none)
abbrev mX5_cutTo : zM := (yX5_cutTo, cX5_cutTo, 3, none)
abbrev mX5_setCounting : zM := (yX5_setCounting, cX5_setCounting, 4, none)
abbrev mX5_markIndex : zM := (yX5_markIndex, cX5_markIndex, 3, (some .int))
abbrev mX5_markBy : zM := (yX5_markBy, cX5_markBy, 3, (some .int))
abbrev mX5_markAt : zM := (yX5_markAt, cX5_markAt, 3, (some .int))
abbrev mX5_remarkBits : zM := (yX5_remarkBits, cX5_remarkBits, 4, (some .int))
abbrev mX5_greatestMark : zM := (yX5_greatestMark, cX5_greatestMark, 4, (some .int))
abbrev mX5_leastMark : zM := (yX5_leastMark, cX5_leastMark, 4, (some .int))
abbrev mX5_sumOfMarks : zM := (yX5_sumOfMarks, cX5_sumOfMarks, 4, (some .int))
abbrev mX5_marksAboveZero : zM := (yX5_marksAboveZero, cX5_marksAboveZero, 4, (some .int))
abbrev mX5_timesPointed : zM := (yX5_timesPointed, cX5_timesPointed, 5, (some .int))
abbrev mX6_init : zM := (yX6_init, cX6_init, 1, none)
abbrev mX6_hasClass : zM := (yX6_hasClass, cX6_hasClass, 2, (some .boolean))
abbrev mX6_hasJudge : zM := (yX6_hasJudge, cX6_hasJudge, 2, (some .boolean))
abbrev mX6_hasEntry : zM := (yX6_hasEntry, cX6_hasEntry, 2, (some .boolean))
abbrev mX6_addClass : zM := (yX6_addClass, cX6_addClass, 5, (some .int))
abbrev mX6_addEntry : zM := (yX6_addEntry, cX6_addEntry, 3, (some .int))
abbrev mX6_setPrizes : zM := (yX6_setPrizes, cX6_setPrizes, 5, none)
abbrev mX6_entriesOf : zM := (yX6_entriesOf, cX6_entriesOf, 4, (some .int))
abbrev mX7_init : zM := (yX7_init, cX7_init, 2, none)
abbrev mX7_show : zM := (yX7_show, cX7_show, 3, (some .int))
abbrev mX7_entry : zM := (yX7_entry, cX7_entry, 2, (some .int))
abbrev mX7_prizes : zM := (yX7_prizes, cX7_prizes, 5, (some .int))
abbrev mX7_rule : zM := (yX7_rule, cX7_rule, 4, (some .int))
abbrev mX7_clearRules : zM := (yX7_clearRules, cX7_clearRules, 2, (some .int))
abbrev mX7_observe : zM := (yX7_observe, cX7_observe, 2, (some .int))
abbrev mX7_begin : zM := (yX7_begin, cX7_begin, 3, (some .int))
abbrev mX7_points : zM := (yX7_points, cX7_points, 3, (some .int))
abbrev mX7_deduct : zM := (yX7_deduct, cX7_deduct, 3, (some .int))
abbrev mX7_remark : zM := (yX7_remark, cX7_remark, 3, (some .int))
abbrev mX7_save : zM := (yX7_save, cX7_save, 2, (some .int))
abbrev mX7_back : zM := (yX7_back, cX7_back, 4, (some .int))
abbrev mX7_release : zM := (yX7_release, cX7_release, 3, (some .int))
abbrev mX7_guard : zM := (yX7_guard, cX7_guard, 4, (some .int))
abbrev mX7_end : zM := (yX7_end, cX7_end, 2, (some .int))
abbrev mX7_drop : zM := (yX7_drop, cX7_drop, 1, (some .int))
abbrev mX7_depth : zM := (yX7_depth, cX7_depth, 1, (some .int))
abbrev mX7_scoring : zM := (yX7_scoring, cX7_scoring, 4, (some .int))
abbrev mX7_told : zM := (yX7_told, cX7_told, 3, (some .int))
abbrev mX7_mark : zM := (yX7_mark, cX7_mark, 3, (some .int))
abbrev mX7_place : zM := (yX7_place, cX7_place, 3, (some .int))
abbrev mX7_close : zM := (yX7_close, cX7_close, 2, (some .int))
abbrev mX7_about : zM := (yX7_about, cX7_about, 3, (some .int))
abbrev mX7_uphold : zM := (yX7_uphold, cX7_uphold, 3, (some .int))
abbrev mX7_event : zM := (yX7_event, cX7_event, 3, (some .int))
abbrev mX7_failure : zM := (yX7_failure, cX7_failure, 3, (some .int))
abbrev mX7_is : zM := (yX7_is, cX7_is, 3, (some .int))
abbrev mX7_undo : zM := (yX7_undo, cX7_undo, 1, (some .int))
abbrev mX7_count : zM := (yX7_count, cX7_count, 2, (some .int))
abbrev mX7_digest : zM := (yX7_digest, cX7_digest, 5, (some .long))
abbrev mX7_digestOfEntries : zM := (yX7_digestOfEntries, cX7_digestOfEntries, 8, (some .long))
abbrev mX7_digestOfEvents : zM := (yX7_digestOfEvents, cX7_digestOfEvents, 6, (some .long))
abbrev mX7_isPrize : zM := (yX7_isPrize, cX7_isPrize, 1, (some .boolean))
abbrev mX7_isName : zM := (yX7_isName, cX7_isName, 1, (some .boolean))
abbrev mX7_isKind : zM := (yX7_isKind, cX7_isKind, 1, (some .boolean))
abbrev mX7_isRuleKind : zM := (yX7_isRuleKind, cX7_isRuleKind, 1, (some .boolean))
abbrev mX7_isOfKind : zM := (yX7_isOfKind, cX7_isOfKind, 4, (some .boolean))
abbrev mX7_innermost : zM := (yX7_innermost, cX7_innermost, 1, (some (.object "JudgesLedger$Scoring")))
abbrev mX7_savepointNamed : zM := (yX7_savepointNamed, cX7_savepointNamed, 2, (some .int))
abbrev mX7_refusalOfEvent : zM := (yX7_refusalOfEvent, cX7_refusalOfEvent, 1, (some .int))
abbrev mX7_appendEvent : zM := (yX7_appendEvent, cX7_appendEvent, 4, none)
abbrev mX7_dropInnermost : zM := (yX7_dropInnermost, cX7_dropInnermost, 1, none)
abbrev mX7_outcomeOf : zM := (yX7_outcomeOf, cX7_outcomeOf, 4, (some .int))
abbrev mX7_fail : zM := (yX7_fail, cX7_fail, 8, (some .int))
abbrev mX7_letGuardCatch : zM := (yX7_letGuardCatch, cX7_letGuardCatch, 5, (some .boolean))
abbrev mX7_suppressUnder : zM := (yX7_suppressUnder, cX7_suppressUnder, 4, none)
abbrev mX7_kindFurtherOut : zM := (yX7_kindFurtherOut, cX7_kindFurtherOut, 1, (some .int))
abbrev mX7_finishAct : zM := (yX7_finishAct, cX7_finishAct, 4, (some .int))
abbrev mX7_keepForUndo : zM := (yX7_keepForUndo, cX7_keepForUndo, 4, none)
abbrev mX8_init : zM := (yX8_init, cX8_init, 1, none)
abbrev mX8_in : zM := (yX8_in, cX8_in, 3, (some .boolean))
abbrev mX8_isClass : zM := (yX8_isClass, cX8_isClass, 2, (some .boolean))
abbrev mX8_isEntry : zM := (yX8_isEntry, cX8_isEntry, 2, (some .boolean))
abbrev mX8_isJudge : zM := (yX8_isJudge, cX8_isJudge, 2, (some .boolean))
abbrev mX8_show : zM := (yX8_show, cX8_show, 4, (some .int))
abbrev mX8_entry : zM := (yX8_entry, cX8_entry, 2, (some .int))
abbrev mX8_prizes : zM := (yX8_prizes, cX8_prizes, 5, (some .int))
abbrev mX8_rule : zM := (yX8_rule, cX8_rule, 5, (some .int))
abbrev mX8_clearRules : zM := (yX8_clearRules, cX8_clearRules, 2, (some .int))
abbrev mX8_observe : zM := (yX8_observe, cX8_observe, 2, (some .int))
abbrev mX8_counted : zM := (yX8_counted, cX8_counted, 3, none)
abbrev mX8_goBack : zM := (yX8_goBack, cX8_goBack, 3, none)
abbrev mX8_comes : zM := (yX8_comes, cX8_comes, 3, none)
abbrev mX8_markOf : zM := (yX8_markOf, cX8_markOf, 3, (some .int))
abbrev mX8_begin : zM := (yX8_begin, cX8_begin, 3, (some .int))
abbrev mX8_parent : zM := (yX8_parent, cX8_parent, 1, (some .int))
abbrev mX8_isOf : zM := (yX8_isOf, cX8_isOf, 3, (some .boolean))
abbrev mX8_holds : zM := (yX8_holds, cX8_holds, 11, (some .boolean))
abbrev mX8_judged : zM := (yX8_judged, cX8_judged, 3, (some .int))
abbrev mX8_note : zM := (yX8_note, cX8_note, 6, (some .int))
abbrev mX8_failed : zM := (yX8_failed, cX8_failed, 9, (some .int))
abbrev mX8_placeOf : zM := (yX8_placeOf, cX8_placeOf, 4, (some .int))
abbrev mX8_points : zM := (yX8_points, cX8_points, 2, (some .int))
abbrev mX8_deduct : zM := (yX8_deduct, cX8_deduct, 2, (some .int))
abbrev mX8_remark : zM := (yX8_remark, cX8_remark, 4, (some .int))
abbrev mX8_save : zM := (yX8_save, cX8_save, 5, (some .int))
abbrev mX8_back : zM := (yX8_back, cX8_back, 4, (some .int))
abbrev mX8_release : zM := (yX8_release, cX8_release, 3, (some .int))
abbrev mX8_guard : zM := (yX8_guard, cX8_guard, 4, (some .int))
abbrev mX8_keep : zM := (yX8_keep, cX8_keep, 3, none)
abbrev mX8_end : zM := (yX8_end, cX8_end, 4, (some .int))
abbrev mX8_drop : zM := (yX8_drop, cX8_drop, 1, (some .int))
abbrev mX8_depth : zM := (yX8_depth, cX8_depth, 1, (some .int))
abbrev mX8_scoring : zM := (yX8_scoring, cX8_scoring, 4, (some .int))
abbrev mX8_rounded : zM := (yX8_rounded, cX8_rounded, 4, (some .int))
abbrev mX8_totalOf : zM := (yX8_totalOf, cX8_totalOf, 8, (some .int))
abbrev mX8_above : zM := (yX8_above, cX8_above, 4, (some .int))
abbrev mX8_total : zM := (yX8_total, cX8_total, 2, none)
abbrev mX8_isBetter : zM := (yX8_isBetter, cX8_isBetter, 3, (some .boolean))
abbrev mX8_rankOf : zM := (yX8_rankOf, cX8_rankOf, 4, (some .int))
abbrev mX8_alike : zM := (yX8_alike, cX8_alike, 4, (some .int))
abbrev mX8_prizeOf : zM := (yX8_prizeOf, cX8_prizeOf, 7, (some .int))
abbrev mX8_told : zM := (yX8_told, cX8_told, 3, (some .int))
abbrev mX8_mark : zM := (yX8_mark, cX8_mark, 3, (some .int))
abbrev mX8_place : zM := (yX8_place, cX8_place, 6, (some .int))
abbrev mX8_close : zM := (yX8_close, cX8_close, 2, (some .int))
abbrev mX8_about : zM := (yX8_about, cX8_about, 5, (some .int))
abbrev mX8_uphold : zM := (yX8_uphold, cX8_uphold, 2, (some .int))
abbrev mX8_event : zM := (yX8_event, cX8_event, 3, (some .int))
abbrev mX8_failure : zM := (yX8_failure, cX8_failure, 3, (some .int))
abbrev mX8_is : zM := (yX8_is, cX8_is, 3, (some .int))
abbrev mX8_undo : zM := (yX8_undo, cX8_undo, 2, (some .int))
abbrev mX8_count : zM := (yX8_count, cX8_count, 2, (some .int))
abbrev mX8_digest : zM := (yX8_digest, cX8_digest, 5, (some .long))
abbrev mJ6_bitCount_0f7a4 : zM := (yJ6_bitCount_0f7a4, cJ6_bitCount_0f7a4, 1, (some .int))
abbrev mJ9_floorDiv_7cf53 : zM := (yJ9_floorDiv_7cf53, cJ9_floorDiv_7cf53, 3, (some .int))
abbrev mJ9_floorMod_7cf53 : zM := (yJ9_floorMod_7cf53, cJ9_floorMod_7cf53, 3, (some .int))
abbrev mJ9_max_7cf53 : zM := (yJ9_max_7cf53, cJ9_max_7cf53, 2, (some .int))
abbrev mJ9_min_7cf53 : zM := (yJ9_min_7cf53, cJ9_min_7cf53, 2, (some .int))
abbrev mL_law : zM := (yL_law, cL_law, 4, some .boolean)
theorem iniJ6 : Cond.initialized RJ6 ∈ zT := zT_mem 56 (by decide +kernel) rfl
theorem nmaJ6 : RJ6 ≠ "java/lang/invoke/MethodHandle" := by decide +kernel
theorem nmbJ6 : RJ6 ≠ "java/lang/invoke/VarHandle" := by decide +kernel
theorem iniJ9 : Cond.initialized RJ9 ∈ zT := zT_mem 55 (by decide +kernel) rfl
theorem nmaJ9 : RJ9 ≠ "java/lang/invoke/MethodHandle" := by decide +kernel
theorem nmbJ9 : RJ9 ≠ "java/lang/invoke/VarHandle" := by decide +kernel
theorem iniX0 : Cond.initialized RX0 ∈ zT := zT_mem 51 (by decide +kernel) rfl
theorem nmaX0 : RX0 ≠ "java/lang/invoke/MethodHandle" := by decide +kernel
theorem nmbX0 : RX0 ≠ "java/lang/invoke/VarHandle" := by decide +kernel
theorem iniX1 : Cond.initialized RX1 ∈ zT := zT_mem 52 (by decide +kernel) rfl
theorem nmaX1 : RX1 ≠ "java/lang/invoke/MethodHandle" := by decide +kernel
theorem nmbX1 : RX1 ≠ "java/lang/invoke/VarHandle" := by decide +kernel
theorem iniX2 : Cond.initialized RX2 ∈ zT := zT_mem 49 (by decide +kernel) rfl
theorem nmaX2 : RX2 ≠ "java/lang/invoke/MethodHandle" := by decide +kernel
theorem nmbX2 : RX2 ≠ "java/lang/invoke/VarHandle" := by decide +kernel
theorem iniX3 : Cond.initialized RX3 ∈ zT := zT_mem 50 (by decide +kernel) rfl
theorem nmaX3 : RX3 ≠ "java/lang/invoke/MethodHandle" := by decide +kernel
theorem nmbX3 : RX3 ≠ "java/lang/invoke/VarHandle" := by decide +kernel
theorem iniX4 : Cond.initialized RX4 ∈ zT := zT_mem 53 (by decide +kernel) rfl
theorem nmaX4 : RX4 ≠ "java/lang/invoke/MethodHandle" := by decide +kernel
theorem nmbX4 : RX4 ≠ "java/lang/invoke/VarHandle" := by decide +kernel
theorem iniX5 : Cond.initialized RX5 ∈ zT := zT_mem 48 (by decide +kernel) rfl
theorem nmaX5 : RX5 ≠ "java/lang/invoke/MethodHandle" := by decide +kernel
theorem nmbX5 : RX5 ≠ "java/lang/invoke/VarHandle" := by decide +kernel
theorem iniX6 : Cond.initialized RX6 ∈ zT := zT_mem 47 (by decide +kernel) rfl
theorem nmaX6 : RX6 ≠ "java/lang/invoke/MethodHandle" := by decide +kernel
theorem nmbX6 : RX6 ≠ "java/lang/invoke/VarHandle" := by decide +kernel
theorem iniX7 : Cond.initialized RX7 ∈ zT := zT_mem 46 (by decide +kernel) rfl
theorem nmaX7 : RX7 ≠ "java/lang/invoke/MethodHandle" := by decide +kernel
theorem nmbX7 : RX7 ≠ "java/lang/invoke/VarHandle" := by decide +kernel
theorem iniX8 : Cond.initialized RX8 ∈ zT := zT_mem 54 (by decide +kernel) rfl
theorem nmaX8 : RX8 ≠ "java/lang/invoke/MethodHandle" := by decide +kernel
theorem nmbX8 : RX8 ≠ "java/lang/invoke/VarHandle" := by decide +kernel
theorem nX0_init : zCn mX0_init 0 := ⟨zT_mem 222 (by decide +kernel) rfl, iniX0, nmaX0, nmbX0, by decide +kernel⟩
theorem nX0_isNoted : zCn mX0_isNoted 1 := ⟨zT_mem 487 (by decide +kernel) rfl, iniX0, nmaX0, nmbX0, by decide +kernel⟩
theorem nX0_add : zCn mX0_add 6 := ⟨zT_mem 483 (by decide +kernel) rfl, iniX0, nmaX0, nmbX0, by decide +kernel⟩
theorem nX1_init : zCn mX1_init 0 := ⟨zT_mem 237 (by decide +kernel) rfl, iniX1, nmaX1, nmbX1, by decide +kernel⟩
theorem nX1_add : zCn mX1_add 1 := ⟨zT_mem 394 (by decide +kernel) rfl, iniX1, nmaX1, nmbX1, by decide +kernel⟩
theorem nX1_tell : zCn mX1_tell 1 := ⟨zT_mem 588 (by decide +kernel) rfl, iniX1, nmaX1, nmbX1, by decide +kernel⟩
theorem nX2_init : zCn mX2_init 2 := ⟨zT_mem 175 (by decide +kernel) rfl, iniX2, nmaX2, nmbX2, by decide +kernel⟩
theorem nX2_totalOf : zCn mX2_totalOf 1 := ⟨zT_mem 608 (by decide +kernel) rfl, iniX2, nmaX2, nmbX2, by decide +kernel⟩
theorem nX2_middle : zCn mX2_middle 2 := ⟨zT_mem 625 (by decide +kernel) rfl, iniX2, nmaX2, nmbX2, by decide +kernel⟩
theorem nX2_sortMarks : zCn mX2_sortMarks 2 := ⟨zT_mem 629 (by decide +kernel) rfl, iniX2, nmaX2, nmbX2, by decide +kernel⟩
theorem nX2_nearest : zCn mX2_nearest 2 := ⟨zT_mem 615 (by decide +kernel) rfl, iniX2, nmaX2, nmbX2, by decide +kernel⟩
theorem nX2_rankOf : zCn mX2_rankOf 1 := ⟨zT_mem 637 (by decide +kernel) rfl, iniX2, nmaX2, nmbX2, by decide +kernel⟩
theorem nX2_sharersOf : zCn mX2_sharersOf 1 := ⟨zT_mem 658 (by decide +kernel) rfl, iniX2, nmaX2, nmbX2, by decide +kernel⟩
theorem nX2_prizeOf : zCn mX2_prizeOf 1 := ⟨zT_mem 670 (by decide +kernel) rfl, iniX2, nmaX2, nmbX2, by decide +kernel⟩
theorem nX2_prizesLeft : zCn mX2_prizesLeft 1 := ⟨zT_mem 711 (by decide +kernel) rfl, iniX2, nmaX2, nmbX2, by decide +kernel⟩
theorem nX2_entryAt : zCn mX2_entryAt 2 := ⟨zT_mem 691 (by decide +kernel) rfl, iniX2, nmaX2, nmbX2, by decide +kernel⟩
theorem nX2_rankClass : zCn mX2_rankClass 1 := ⟨zT_mem 641 (by decide +kernel) rfl, iniX2, nmaX2, nmbX2, by decide +kernel⟩
theorem nX2_betterThan : zCn mX2_betterThan 1 := ⟨zT_mem 650 (by decide +kernel) rfl, iniX2, nmaX2, nmbX2, by decide +kernel⟩
theorem nX2_isBetter : zCn mX2_isBetter 2 := ⟨zT_mem 654 (by decide +kernel) rfl, iniX2, nmaX2, nmbX2, by decide +kernel⟩
theorem nX2_sharers : zCn mX2_sharers 1 := ⟨zT_mem 662 (by decide +kernel) rfl, iniX2, nmaX2, nmbX2, by decide +kernel⟩
theorem nX2_sharersAheadOf : zCn mX2_sharersAheadOf 2 := ⟨zT_mem 666 (by decide +kernel) rfl, iniX2, nmaX2, nmbX2, by decide +kernel⟩
theorem nX2_position : zCn mX2_position 1 := ⟨zT_mem 695 (by decide +kernel) rfl, iniX2, nmaX2, nmbX2, by decide +kernel⟩
theorem nX2_share : zCn mX2_share 1 := ⟨zT_mem 674 (by decide +kernel) rfl, iniX2, nmaX2, nmbX2, by decide +kernel⟩
theorem nX2_prizesFrom : zCn mX2_prizesFrom 3 := ⟨zT_mem 678 (by decide +kernel) rfl, iniX2, nmaX2, nmbX2, by decide +kernel⟩
theorem nX3_init : zCn mX3_init 0 := ⟨zT_mem 200 (by decide +kernel) rfl, iniX3, nmaX3, nmbX3, by decide +kernel⟩
theorem nX3_add : zCn mX3_add 3 := ⟨zT_mem 382 (by decide +kernel) rfl, iniX3, nmaX3, nmbX3, by decide +kernel⟩
theorem nX3_holds : zCn mX3_holds 3 := ⟨zT_mem 446 (by decide +kernel) rfl, iniX3, nmaX3, nmbX3, by decide +kernel⟩
theorem nX3_latestIsOutOfRange : zCn mX3_latestIsOutOfRange 2 := ⟨zT_mem 449 (by decide +kernel) rfl, iniX3, nmaX3, nmbX3, by decide +kernel⟩
theorem nX4_init : zCn mX4_init 0 := ⟨zT_mem 259 (by decide +kernel) rfl, iniX4, nmaX4, nmbX4, by decide +kernel⟩
theorem nX4_start : zCn mX4_start 3 := ⟨zT_mem 410 (by decide +kernel) rfl, iniX4, nmaX4, nmbX4, by decide +kernel⟩
theorem nX4_indexOfSavepoint : zCn mX4_indexOfSavepoint 1 := ⟨zT_mem 500 (by decide +kernel) rfl, iniX4, nmaX4, nmbX4, by decide +kernel⟩
theorem nX4_addSavepoint : zCn mX4_addSavepoint 2 := ⟨zT_mem 544 (by decide +kernel) rfl, iniX4, nmaX4, nmbX4, by decide +kernel⟩
theorem nX4_removeSavepoint : zCn mX4_removeSavepoint 1 := ⟨zT_mem 549 (by decide +kernel) rfl, iniX4, nmaX4, nmbX4, by decide +kernel⟩
theorem nX4_addGuard : zCn mX4_addGuard 2 := ⟨zT_mem 572 (by decide +kernel) rfl, iniX4, nmaX4, nmbX4, by decide +kernel⟩
theorem nX5_init : zCn mX5_init 1 := ⟨zT_mem 127 (by decide +kernel) rfl, iniX5, nmaX5, nmbX5, by decide +kernel⟩
theorem nX5_hasEvent : zCn mX5_hasEvent 1 := ⟨zT_mem 719 (by decide +kernel) rfl, iniX5, nmaX5, nmbX5, by decide +kernel⟩
theorem nX5_append : zCn mX5_append 4 := ⟨zT_mem 430 (by decide +kernel) rfl, iniX5, nmaX5, nmbX5, by decide +kernel⟩
theorem nX5_cutTo : zCn mX5_cutTo 1 := ⟨zT_mem 504 (by decide +kernel) rfl, iniX5, nmaX5, nmbX5, by decide +kernel⟩
theorem nX5_setCounting : zCn mX5_setCounting 2 := ⟨zT_mem 434 (by decide +kernel) rfl, iniX5, nmaX5, nmbX5, by decide +kernel⟩
theorem nX5_markIndex : zCn mX5_markIndex 2 := ⟨zT_mem 438 (by decide +kernel) rfl, iniX5, nmaX5, nmbX5, by decide +kernel⟩
theorem nX5_markBy : zCn mX5_markBy 2 := ⟨zT_mem 457 (by decide +kernel) rfl, iniX5, nmaX5, nmbX5, by decide +kernel⟩
theorem nX5_markAt : zCn mX5_markAt 2 := ⟨zT_mem 465 (by decide +kernel) rfl, iniX5, nmaX5, nmbX5, by decide +kernel⟩
theorem nX5_remarkBits : zCn mX5_remarkBits 1 := ⟨zT_mem 527 (by decide +kernel) rfl, iniX5, nmaX5, nmbX5, by decide +kernel⟩
theorem nX5_greatestMark : zCn mX5_greatestMark 1 := ⟨zT_mem 461 (by decide +kernel) rfl, iniX5, nmaX5, nmbX5, by decide +kernel⟩
theorem nX5_leastMark : zCn mX5_leastMark 1 := ⟨zT_mem 472 (by decide +kernel) rfl, iniX5, nmaX5, nmbX5, by decide +kernel⟩
theorem nX5_sumOfMarks : zCn mX5_sumOfMarks 1 := ⟨zT_mem 612 (by decide +kernel) rfl, iniX5, nmaX5, nmbX5, by decide +kernel⟩
theorem nX5_marksAboveZero : zCn mX5_marksAboveZero 1 := ⟨zT_mem 646 (by decide +kernel) rfl, iniX5, nmaX5, nmbX5, by decide +kernel⟩
theorem nX5_timesPointed : zCn mX5_timesPointed 2 := ⟨zT_mem 453 (by decide +kernel) rfl, iniX5, nmaX5, nmbX5, by decide +kernel⟩
theorem nX6_init : zCn mX6_init 0 := ⟨zT_mem 69 (by decide +kernel) rfl, iniX6, nmaX6, nmbX6, by decide +kernel⟩
theorem nX6_hasClass : zCn mX6_hasClass 1 := ⟨zT_mem 355 (by decide +kernel) rfl, iniX6, nmaX6, nmbX6, by decide +kernel⟩
theorem nX6_hasJudge : zCn mX6_hasJudge 1 := ⟨zT_mem 402 (by decide +kernel) rfl, iniX6, nmaX6, nmbX6, by decide +kernel⟩
theorem nX6_hasEntry : zCn mX6_hasEntry 1 := ⟨zT_mem 406 (by decide +kernel) rfl, iniX6, nmaX6, nmbX6, by decide +kernel⟩
theorem nX6_addClass : zCn mX6_addClass 2 := ⟨zT_mem 347 (by decide +kernel) rfl, iniX6, nmaX6, nmbX6, by decide +kernel⟩
theorem nX6_addEntry : zCn mX6_addEntry 1 := ⟨zT_mem 359 (by decide +kernel) rfl, iniX6, nmaX6, nmbX6, by decide +kernel⟩
theorem nX6_setPrizes : zCn mX6_setPrizes 4 := ⟨zT_mem 371 (by decide +kernel) rfl, iniX6, nmaX6, nmbX6, by decide +kernel⟩
theorem nX6_entriesOf : zCn mX6_entriesOf 1 := ⟨zT_mem 703 (by decide +kernel) rfl, iniX6, nmaX6, nmbX6, by decide +kernel⟩
theorem nX7_init : zCn mX7_init 0 := ⟨zT_mem 61 (by decide +kernel) rfl, iniX7, nmaX7, nmbX7, by decide +kernel⟩
theorem nX7_show : zCn mX7_show 2 := ⟨zT_mem 343 (by decide +kernel) rfl, iniX7, nmaX7, nmbX7, by decide +kernel⟩
theorem nX7_entry : zCn mX7_entry 1 := ⟨zT_mem 351 (by decide +kernel) rfl, iniX7, nmaX7, nmbX7, by decide +kernel⟩
theorem nX7_prizes : zCn mX7_prizes 4 := ⟨zT_mem 363 (by decide +kernel) rfl, iniX7, nmaX7, nmbX7, by decide +kernel⟩
theorem nX7_rule : zCn mX7_rule 3 := ⟨zT_mem 375 (by decide +kernel) rfl, iniX7, nmaX7, nmbX7, by decide +kernel⟩
theorem nX7_clearRules : zCn mX7_clearRules 0 := ⟨zT_mem 386 (by decide +kernel) rfl, iniX7, nmaX7, nmbX7, by decide +kernel⟩
theorem nX7_observe : zCn mX7_observe 1 := ⟨zT_mem 390 (by decide +kernel) rfl, iniX7, nmaX7, nmbX7, by decide +kernel⟩
theorem nX7_begin : zCn mX7_begin 2 := ⟨zT_mem 398 (by decide +kernel) rfl, iniX7, nmaX7, nmbX7, by decide +kernel⟩
theorem nX7_points : zCn mX7_points 1 := ⟨zT_mem 414 (by decide +kernel) rfl, iniX7, nmaX7, nmbX7, by decide +kernel⟩
theorem nX7_deduct : zCn mX7_deduct 1 := ⟨zT_mem 519 (by decide +kernel) rfl, iniX7, nmaX7, nmbX7, by decide +kernel⟩
theorem nX7_remark : zCn mX7_remark 1 := ⟨zT_mem 523 (by decide +kernel) rfl, iniX7, nmaX7, nmbX7, by decide +kernel⟩
theorem nX7_save : zCn mX7_save 1 := ⟨zT_mem 537 (by decide +kernel) rfl, iniX7, nmaX7, nmbX7, by decide +kernel⟩
theorem nX7_back : zCn mX7_back 1 := ⟨zT_mem 553 (by decide +kernel) rfl, iniX7, nmaX7, nmbX7, by decide +kernel⟩
theorem nX7_release : zCn mX7_release 1 := ⟨zT_mem 561 (by decide +kernel) rfl, iniX7, nmaX7, nmbX7, by decide +kernel⟩
theorem nX7_guard : zCn mX7_guard 2 := ⟨zT_mem 565 (by decide +kernel) rfl, iniX7, nmaX7, nmbX7, by decide +kernel⟩
theorem nX7_end : zCn mX7_end 0 := ⟨zT_mem 576 (by decide +kernel) rfl, iniX7, nmaX7, nmbX7, by decide +kernel⟩
theorem nX7_drop : zCn mX7_drop 0 := ⟨zT_mem 592 (by decide +kernel) rfl, iniX7, nmaX7, nmbX7, by decide +kernel⟩
theorem nX7_depth : zCn mX7_depth 0 := ⟨zT_mem 596 (by decide +kernel) rfl, iniX7, nmaX7, nmbX7, by decide +kernel⟩
theorem nX7_scoring : zCn mX7_scoring 2 := ⟨zT_mem 600 (by decide +kernel) rfl, iniX7, nmaX7, nmbX7, by decide +kernel⟩
theorem nX7_told : zCn mX7_told 2 := ⟨zT_mem 604 (by decide +kernel) rfl, iniX7, nmaX7, nmbX7, by decide +kernel⟩
theorem nX7_mark : zCn mX7_mark 2 := ⟨zT_mem 682 (by decide +kernel) rfl, iniX7, nmaX7, nmbX7, by decide +kernel⟩
theorem nX7_place : zCn mX7_place 2 := ⟨zT_mem 687 (by decide +kernel) rfl, iniX7, nmaX7, nmbX7, by decide +kernel⟩
theorem nX7_close : zCn mX7_close 1 := ⟨zT_mem 699 (by decide +kernel) rfl, iniX7, nmaX7, nmbX7, by decide +kernel⟩
theorem nX7_about : zCn mX7_about 2 := ⟨zT_mem 707 (by decide +kernel) rfl, iniX7, nmaX7, nmbX7, by decide +kernel⟩
theorem nX7_uphold : zCn mX7_uphold 1 := ⟨zT_mem 715 (by decide +kernel) rfl, iniX7, nmaX7, nmbX7, by decide +kernel⟩
theorem nX7_event : zCn mX7_event 2 := ⟨zT_mem 724 (by decide +kernel) rfl, iniX7, nmaX7, nmbX7, by decide +kernel⟩
theorem nX7_failure : zCn mX7_failure 2 := ⟨zT_mem 728 (by decide +kernel) rfl, iniX7, nmaX7, nmbX7, by decide +kernel⟩
theorem nX7_is : zCn mX7_is 2 := ⟨zT_mem 733 (by decide +kernel) rfl, iniX7, nmaX7, nmbX7, by decide +kernel⟩
theorem nX7_undo : zCn mX7_undo 0 := ⟨zT_mem 737 (by decide +kernel) rfl, iniX7, nmaX7, nmbX7, by decide +kernel⟩
theorem nX7_count : zCn mX7_count 1 := ⟨zT_mem 741 (by decide +kernel) rfl, iniX7, nmaX7, nmbX7, by decide +kernel⟩
theorem nX7_digest : zCn mX7_digest 0 := ⟨zT_mem 745 (by decide +kernel) rfl, iniX7, nmaX7, nmbX7, by decide +kernel⟩
theorem nX7_digestOfEntries : zCn mX7_digestOfEntries 1 := ⟨zT_mem 750 (by decide +kernel) rfl, iniX7, nmaX7, nmbX7, by decide +kernel⟩
theorem nX7_digestOfEvents : zCn mX7_digestOfEvents 1 := ⟨zT_mem 756 (by decide +kernel) rfl, iniX7, nmaX7, nmbX7, by decide +kernel⟩
theorem nX7_isPrize : zCn mX7_isPrize 1 := ⟨zT_mem 366 (by decide +kernel) rfl, iniX7, nmaX7, nmbX7, by decide +kernel⟩
theorem nX7_isName : zCn mX7_isName 1 := ⟨zT_mem 540 (by decide +kernel) rfl, iniX7, nmaX7, nmbX7, by decide +kernel⟩
theorem nX7_isKind : zCn mX7_isKind 1 := ⟨zT_mem 568 (by decide +kernel) rfl, iniX7, nmaX7, nmbX7, by decide +kernel⟩
theorem nX7_isRuleKind : zCn mX7_isRuleKind 1 := ⟨zT_mem 378 (by decide +kernel) rfl, iniX7, nmaX7, nmbX7, by decide +kernel⟩
theorem nX7_isOfKind : zCn mX7_isOfKind 2 := ⟨zT_mem 494 (by decide +kernel) rfl, iniX7, nmaX7, nmbX7, by decide +kernel⟩
theorem nX7_innermost : zCn mX7_innermost 0 := ⟨zT_mem 426 (by decide +kernel) rfl, iniX7, nmaX7, nmbX7, by decide +kernel⟩
theorem nX7_savepointNamed : zCn mX7_savepointNamed 1 := ⟨zT_mem 557 (by decide +kernel) rfl, iniX7, nmaX7, nmbX7, by decide +kernel⟩
theorem nX7_refusalOfEvent : zCn mX7_refusalOfEvent 0 := ⟨zT_mem 418 (by decide +kernel) rfl, iniX7, nmaX7, nmbX7, by decide +kernel⟩
theorem nX7_appendEvent : zCn mX7_appendEvent 2 := ⟨zT_mem 422 (by decide +kernel) rfl, iniX7, nmaX7, nmbX7, by decide +kernel⟩
theorem nX7_dropInnermost : zCn mX7_dropInnermost 0 := ⟨zT_mem 512 (by decide +kernel) rfl, iniX7, nmaX7, nmbX7, by decide +kernel⟩
theorem nX7_outcomeOf : zCn mX7_outcomeOf 1 := ⟨zT_mem 442 (by decide +kernel) rfl, iniX7, nmaX7, nmbX7, by decide +kernel⟩
theorem nX7_fail : zCn mX7_fail 2 := ⟨zT_mem 479 (by decide +kernel) rfl, iniX7, nmaX7, nmbX7, by decide +kernel⟩
theorem nX7_letGuardCatch : zCn mX7_letGuardCatch 1 := ⟨zT_mem 491 (by decide +kernel) rfl, iniX7, nmaX7, nmbX7, by decide +kernel⟩
theorem nX7_suppressUnder : zCn mX7_suppressUnder 1 := ⟨zT_mem 508 (by decide +kernel) rfl, iniX7, nmaX7, nmbX7, by decide +kernel⟩
theorem nX7_kindFurtherOut : zCn mX7_kindFurtherOut 1 := ⟨zT_mem 515 (by decide +kernel) rfl, iniX7, nmaX7, nmbX7, by decide +kernel⟩
theorem nX7_finishAct : zCn mX7_finishAct 1 := ⟨zT_mem 580 (by decide +kernel) rfl, iniX7, nmaX7, nmbX7, by decide +kernel⟩
theorem nX7_keepForUndo : zCn mX7_keepForUndo 3 := ⟨zT_mem 584 (by decide +kernel) rfl, iniX7, nmaX7, nmbX7, by decide +kernel⟩
theorem nX8_init : zCn mX8_init 0 := ⟨zT_mem 761 (by decide +kernel) rfl, iniX8, nmaX8, nmbX8, by decide +kernel⟩
theorem nX8_in : zCn mX8_in 3 := ⟨zT_mem 914 (by decide +kernel) rfl, iniX8, nmaX8, nmbX8, by decide +kernel⟩
theorem nX8_isClass : zCn mX8_isClass 1 := ⟨zT_mem 922 (by decide +kernel) rfl, iniX8, nmaX8, nmbX8, by decide +kernel⟩
theorem nX8_isEntry : zCn mX8_isEntry 1 := ⟨zT_mem 951 (by decide +kernel) rfl, iniX8, nmaX8, nmbX8, by decide +kernel⟩
theorem nX8_isJudge : zCn mX8_isJudge 1 := ⟨zT_mem 947 (by decide +kernel) rfl, iniX8, nmaX8, nmbX8, by decide +kernel⟩
theorem nX8_show : zCn mX8_show 2 := ⟨zT_mem 911 (by decide +kernel) rfl, iniX8, nmaX8, nmbX8, by decide +kernel⟩
theorem nX8_entry : zCn mX8_entry 1 := ⟨zT_mem 918 (by decide +kernel) rfl, iniX8, nmaX8, nmbX8, by decide +kernel⟩
theorem nX8_prizes : zCn mX8_prizes 4 := ⟨zT_mem 926 (by decide +kernel) rfl, iniX8, nmaX8, nmbX8, by decide +kernel⟩
theorem nX8_rule : zCn mX8_rule 3 := ⟨zT_mem 931 (by decide +kernel) rfl, iniX8, nmaX8, nmbX8, by decide +kernel⟩
theorem nX8_clearRules : zCn mX8_clearRules 0 := ⟨zT_mem 935 (by decide +kernel) rfl, iniX8, nmaX8, nmbX8, by decide +kernel⟩
theorem nX8_observe : zCn mX8_observe 1 := ⟨zT_mem 939 (by decide +kernel) rfl, iniX8, nmaX8, nmbX8, by decide +kernel⟩
theorem nX8_counted : zCn mX8_counted 1 := ⟨zT_mem 963 (by decide +kernel) rfl, iniX8, nmaX8, nmbX8, by decide +kernel⟩
theorem nX8_goBack : zCn mX8_goBack 1 := ⟨zT_mem 997 (by decide +kernel) rfl, iniX8, nmaX8, nmbX8, by decide +kernel⟩
theorem nX8_comes : zCn mX8_comes 2 := ⟨zT_mem 959 (by decide +kernel) rfl, iniX8, nmaX8, nmbX8, by decide +kernel⟩
theorem nX8_markOf : zCn mX8_markOf 2 := ⟨zT_mem 975 (by decide +kernel) rfl, iniX8, nmaX8, nmbX8, by decide +kernel⟩
theorem nX8_begin : zCn mX8_begin 2 := ⟨zT_mem 943 (by decide +kernel) rfl, iniX8, nmaX8, nmbX8, by decide +kernel⟩
theorem nX8_parent : zCn mX8_parent 1 := ⟨zT_mem 989 (by decide +kernel) rfl, iniX8, nmaX8, nmbX8, by decide +kernel⟩
theorem nX8_isOf : zCn mX8_isOf 2 := ⟨zT_mem 986 (by decide +kernel) rfl, iniX8, nmaX8, nmbX8, by decide +kernel⟩
theorem nX8_holds : zCn mX8_holds 1 := ⟨zT_mem 971 (by decide +kernel) rfl, iniX8, nmaX8, nmbX8, by decide +kernel⟩
theorem nX8_judged : zCn mX8_judged 1 := ⟨zT_mem 967 (by decide +kernel) rfl, iniX8, nmaX8, nmbX8, by decide +kernel⟩
theorem nX8_note : zCn mX8_note 4 := ⟨zT_mem 983 (by decide +kernel) rfl, iniX8, nmaX8, nmbX8, by decide +kernel⟩
theorem nX8_failed : zCn mX8_failed 2 := ⟨zT_mem 979 (by decide +kernel) rfl, iniX8, nmaX8, nmbX8, by decide +kernel⟩
theorem nX8_placeOf : zCn mX8_placeOf 1 := ⟨zT_mem 993 (by decide +kernel) rfl, iniX8, nmaX8, nmbX8, by decide +kernel⟩
theorem nX8_points : zCn mX8_points 1 := ⟨zT_mem 955 (by decide +kernel) rfl, iniX8, nmaX8, nmbX8, by decide +kernel⟩
theorem nX8_deduct : zCn mX8_deduct 1 := ⟨zT_mem 1001 (by decide +kernel) rfl, iniX8, nmaX8, nmbX8, by decide +kernel⟩
theorem nX8_remark : zCn mX8_remark 1 := ⟨zT_mem 1005 (by decide +kernel) rfl, iniX8, nmaX8, nmbX8, by decide +kernel⟩
theorem nX8_save : zCn mX8_save 1 := ⟨zT_mem 1009 (by decide +kernel) rfl, iniX8, nmaX8, nmbX8, by decide +kernel⟩
theorem nX8_back : zCn mX8_back 1 := ⟨zT_mem 1013 (by decide +kernel) rfl, iniX8, nmaX8, nmbX8, by decide +kernel⟩
theorem nX8_release : zCn mX8_release 1 := ⟨zT_mem 1017 (by decide +kernel) rfl, iniX8, nmaX8, nmbX8, by decide +kernel⟩
theorem nX8_guard : zCn mX8_guard 2 := ⟨zT_mem 1021 (by decide +kernel) rfl, iniX8, nmaX8, nmbX8, by decide +kernel⟩
theorem nX8_keep : zCn mX8_keep 1 := ⟨zT_mem 1029 (by decide +kernel) rfl, iniX8, nmaX8, nmbX8, by decide +kernel⟩
theorem nX8_end : zCn mX8_end 0 := ⟨zT_mem 1025 (by decide +kernel) rfl, iniX8, nmaX8, nmbX8, by decide +kernel⟩
theorem nX8_drop : zCn mX8_drop 0 := ⟨zT_mem 1033 (by decide +kernel) rfl, iniX8, nmaX8, nmbX8, by decide +kernel⟩
theorem nX8_depth : zCn mX8_depth 0 := ⟨zT_mem 1037 (by decide +kernel) rfl, iniX8, nmaX8, nmbX8, by decide +kernel⟩
theorem nX8_scoring : zCn mX8_scoring 2 := ⟨zT_mem 1041 (by decide +kernel) rfl, iniX8, nmaX8, nmbX8, by decide +kernel⟩
theorem nX8_rounded : zCn mX8_rounded 2 := ⟨zT_mem 1056 (by decide +kernel) rfl, iniX8, nmaX8, nmbX8, by decide +kernel⟩
theorem nX8_totalOf : zCn mX8_totalOf 1 := ⟨zT_mem 1053 (by decide +kernel) rfl, iniX8, nmaX8, nmbX8, by decide +kernel⟩
theorem nX8_above : zCn mX8_above 1 := ⟨zT_mem 1068 (by decide +kernel) rfl, iniX8, nmaX8, nmbX8, by decide +kernel⟩
theorem nX8_total : zCn mX8_total 0 := ⟨zT_mem 1049 (by decide +kernel) rfl, iniX8, nmaX8, nmbX8, by decide +kernel⟩
theorem nX8_isBetter : zCn mX8_isBetter 2 := ⟨zT_mem 1064 (by decide +kernel) rfl, iniX8, nmaX8, nmbX8, by decide +kernel⟩
theorem nX8_rankOf : zCn mX8_rankOf 1 := ⟨zT_mem 1060 (by decide +kernel) rfl, iniX8, nmaX8, nmbX8, by decide +kernel⟩
theorem nX8_alike : zCn mX8_alike 1 := ⟨zT_mem 1072 (by decide +kernel) rfl, iniX8, nmaX8, nmbX8, by decide +kernel⟩
theorem nX8_prizeOf : zCn mX8_prizeOf 1 := ⟨zT_mem 1076 (by decide +kernel) rfl, iniX8, nmaX8, nmbX8, by decide +kernel⟩
theorem nX8_told : zCn mX8_told 2 := ⟨zT_mem 1045 (by decide +kernel) rfl, iniX8, nmaX8, nmbX8, by decide +kernel⟩
theorem nX8_mark : zCn mX8_mark 2 := ⟨zT_mem 1080 (by decide +kernel) rfl, iniX8, nmaX8, nmbX8, by decide +kernel⟩
theorem nX8_place : zCn mX8_place 2 := ⟨zT_mem 1084 (by decide +kernel) rfl, iniX8, nmaX8, nmbX8, by decide +kernel⟩
theorem nX8_close : zCn mX8_close 1 := ⟨zT_mem 1088 (by decide +kernel) rfl, iniX8, nmaX8, nmbX8, by decide +kernel⟩
theorem nX8_about : zCn mX8_about 2 := ⟨zT_mem 1092 (by decide +kernel) rfl, iniX8, nmaX8, nmbX8, by decide +kernel⟩
theorem nX8_uphold : zCn mX8_uphold 1 := ⟨zT_mem 1096 (by decide +kernel) rfl, iniX8, nmaX8, nmbX8, by decide +kernel⟩
theorem nX8_event : zCn mX8_event 2 := ⟨zT_mem 1100 (by decide +kernel) rfl, iniX8, nmaX8, nmbX8, by decide +kernel⟩
theorem nX8_failure : zCn mX8_failure 2 := ⟨zT_mem 1104 (by decide +kernel) rfl, iniX8, nmaX8, nmbX8, by decide +kernel⟩
theorem nX8_is : zCn mX8_is 2 := ⟨zT_mem 1108 (by decide +kernel) rfl, iniX8, nmaX8, nmbX8, by decide +kernel⟩
theorem nX8_undo : zCn mX8_undo 0 := ⟨zT_mem 1112 (by decide +kernel) rfl, iniX8, nmaX8, nmbX8, by decide +kernel⟩
theorem nX8_count : zCn mX8_count 1 := ⟨zT_mem 1116 (by decide +kernel) rfl, iniX8, nmaX8, nmbX8, by decide +kernel⟩
theorem nX8_digest : zCn mX8_digest 0 := ⟨zT_mem 1120 (by decide +kernel) rfl, iniX8, nmaX8, nmbX8, by decide +kernel⟩
theorem nJ6_bitCount_0f7a4 : zCn mJ6_bitCount_0f7a4 1 := ⟨zT_mem 530 (by decide +kernel) rfl, iniJ6, nmaJ6, nmbJ6, by decide +kernel⟩
theorem nJ9_floorDiv_7cf53 : zCn mJ9_floorDiv_7cf53 2 := ⟨zT_mem 618 (by decide +kernel) rfl, iniJ9, nmaJ9, nmbJ9, by decide +kernel⟩
theorem nJ9_floorMod_7cf53 : zCn mJ9_floorMod_7cf53 2 := ⟨zT_mem 621 (by decide +kernel) rfl, iniJ9, nmaJ9, nmbJ9, by decide +kernel⟩
theorem nJ9_max_7cf53 : zCn mJ9_max_7cf53 2 := ⟨zT_mem 468 (by decide +kernel) rfl, iniJ9, nmaJ9, nmbJ9, by decide +kernel⟩
theorem nJ9_min_7cf53 : zCn mJ9_min_7cf53 2 := ⟨zT_mem 475 (by decide +kernel) rfl, iniJ9, nmaJ9, nmbJ9, by decide +kernel⟩
theorem kX7_11 : zCj RX7 11 mX6_init 0 RX7 := ⟨nX6_init, by decide +kernel, zT_mem 68 (by decide +kernel) rfl, rfl, rfl⟩
theorem kX7_18 : zCi RX7 18 mX5_init 1 := ⟨nX5_init, zT_mem 125 (by decide +kernel) rfl, zT_mem 126 (by decide +kernel) rfl, rfl, rfl⟩
theorem kX7_27 : zCi RX7 27 mX2_init 2 := ⟨nX2_init, zT_mem 173 (by decide +kernel) rfl, zT_mem 174 (by decide +kernel) rfl, rfl, rfl⟩
theorem kX7_36 : zCj RX7 36 mX3_init 0 RX7 := ⟨nX3_init, by decide +kernel, zT_mem 199 (by decide +kernel) rfl, rfl, rfl⟩
theorem kX7_43 : zCj RX7 43 mX0_init 0 RX7 := ⟨nX0_init, by decide +kernel, zT_mem 221 (by decide +kernel) rfl, rfl, rfl⟩
theorem kX7_50 : zCj RX7 50 mX1_init 0 RX7 := ⟨nX1_init, by decide +kernel, zT_mem 236 (by decide +kernel) rfl, rfl, rfl⟩
theorem kX7_81 : zCj RX7 81 mX4_init 0 RX7 := ⟨nX4_init, by decide +kernel, zT_mem 258 (by decide +kernel) rfl, rfl, rfl⟩
theorem kX7_85 : zCv RX7 85 mX6_addClass 2 6 := ⟨nX6_addClass, zT_mem 344 (by decide +kernel) rfl, zT_mem 345 (by decide +kernel) rfl, zT_mem 346 (by decide +kernel) rfl, by decide, (RX6, TX6, 10), rfl, rfl⟩
theorem kX7_89 : zCv RX7 89 mX6_hasClass 1 6 := ⟨nX6_hasClass, zT_mem 352 (by decide +kernel) rfl, zT_mem 353 (by decide +kernel) rfl, zT_mem 354 (by decide +kernel) rfl, by decide, (RX6, TX6, 10), rfl, rfl⟩
theorem kX7_100 : zCv RX7 100 mX6_addEntry 1 6 := ⟨nX6_addEntry, zT_mem 356 (by decide +kernel) rfl, zT_mem 357 (by decide +kernel) rfl, zT_mem 358 (by decide +kernel) rfl, by decide, (RX6, TX6, 10), rfl, rfl⟩
theorem kX7_104 : zCs RX7 104 mX7_isPrize 1 := ⟨nX7_isPrize, zT_mem 364 (by decide +kernel) rfl, zT_mem 365 (by decide +kernel) rfl⟩
theorem kX7_107 : zCv RX7 107 mX6_setPrizes 4 6 := ⟨nX6_setPrizes, zT_mem 368 (by decide +kernel) rfl, zT_mem 369 (by decide +kernel) rfl, zT_mem 370 (by decide +kernel) rfl, by decide, (RX6, TX6, 10), rfl, rfl⟩
theorem kX7_111 : zCs RX7 111 mX7_isRuleKind 1 := ⟨nX7_isRuleKind, zT_mem 376 (by decide +kernel) rfl, zT_mem 377 (by decide +kernel) rfl⟩
theorem kX7_117 : zCv RX7 117 mX3_add 3 3 := ⟨nX3_add, zT_mem 379 (by decide +kernel) rfl, zT_mem 380 (by decide +kernel) rfl, zT_mem 381 (by decide +kernel) rfl, by decide, (RX3, TX3, 4), rfl, rfl⟩
theorem kX7_122 : zCv RX7 122 mX1_add 1 1 := ⟨nX1_add, zT_mem 391 (by decide +kernel) rfl, zT_mem 392 (by decide +kernel) rfl, zT_mem 393 (by decide +kernel) rfl, by decide, (RX1, TX1, 4), rfl, rfl⟩
theorem kX7_124 : zCv RX7 124 mX6_hasJudge 1 6 := ⟨nX6_hasJudge, zT_mem 399 (by decide +kernel) rfl, zT_mem 400 (by decide +kernel) rfl, zT_mem 401 (by decide +kernel) rfl, by decide, (RX6, TX6, 10), rfl, rfl⟩
theorem kX7_127 : zCv RX7 127 mX6_hasEntry 1 6 := ⟨nX6_hasEntry, zT_mem 403 (by decide +kernel) rfl, zT_mem 404 (by decide +kernel) rfl, zT_mem 405 (by decide +kernel) rfl, by decide, (RX6, TX6, 10), rfl, rfl⟩
theorem kX7_140 : zCv RX7 140 mX4_start 3 4 := ⟨nX4_start, zT_mem 407 (by decide +kernel) rfl, zT_mem 408 (by decide +kernel) rfl, zT_mem 409 (by decide +kernel) rfl, by decide, (RX4, TX4, 9), rfl, rfl⟩
theorem kX7_144 : zCv RX7 144 mX7_refusalOfEvent 0 7 := ⟨nX7_refusalOfEvent, zT_mem 415 (by decide +kernel) rfl, zT_mem 417 (by decide +kernel) rfl, zT_mem 0 (by decide +kernel) rfl, by decide, (RX7, TX7, 13), rfl, rfl⟩
theorem kX7_148 : zCv RX7 148 mX7_appendEvent 2 7 := ⟨nX7_appendEvent, zT_mem 419 (by decide +kernel) rfl, zT_mem 421 (by decide +kernel) rfl, zT_mem 1 (by decide +kernel) rfl, by decide, (RX7, TX7, 13), rfl, rfl⟩
theorem kX7_152 : zCv RX7 152 mX7_outcomeOf 1 7 := ⟨nX7_outcomeOf, zT_mem 439 (by decide +kernel) rfl, zT_mem 441 (by decide +kernel) rfl, zT_mem 4 (by decide +kernel) rfl, by decide, (RX7, TX7, 13), rfl, rfl⟩
theorem kX7_158 : zCv RX7 158 mX7_innermost 0 7 := ⟨nX7_innermost, zT_mem 423 (by decide +kernel) rfl, zT_mem 425 (by decide +kernel) rfl, zT_mem 2 (by decide +kernel) rfl, by decide, (RX7, TX7, 13), rfl, rfl⟩
theorem kX7_165 : zCv RX7 165 mX5_remarkBits 1 5 := ⟨nX5_remarkBits, zT_mem 524 (by decide +kernel) rfl, zT_mem 525 (by decide +kernel) rfl, zT_mem 526 (by decide +kernel) rfl, by decide, (RX5, TX5, 10), rfl, rfl⟩
theorem kX7_168 : zCs RX7 168 mJ6_bitCount_0f7a4 1 := ⟨nJ6_bitCount_0f7a4, zT_mem 528 (by decide +kernel) rfl, zT_mem 529 (by decide +kernel) rfl⟩
theorem kX7_173 : zCs RX7 173 mX7_isName 1 := ⟨nX7_isName, zT_mem 538 (by decide +kernel) rfl, zT_mem 539 (by decide +kernel) rfl⟩
theorem kX7_176 : zCv RX7 176 mX4_addSavepoint 2 4 := ⟨nX4_addSavepoint, zT_mem 541 (by decide +kernel) rfl, zT_mem 542 (by decide +kernel) rfl, zT_mem 543 (by decide +kernel) rfl, by decide, (RX4, TX4, 9), rfl, rfl⟩
theorem kX7_179 : zCv RX7 179 mX7_savepointNamed 1 7 := ⟨nX7_savepointNamed, zT_mem 554 (by decide +kernel) rfl, zT_mem 556 (by decide +kernel) rfl, zT_mem 10 (by decide +kernel) rfl, by decide, (RX7, TX7, 13), rfl, rfl⟩
theorem kX7_185 : zCv RX7 185 mX5_cutTo 1 5 := ⟨nX5_cutTo, zT_mem 501 (by decide +kernel) rfl, zT_mem 502 (by decide +kernel) rfl, zT_mem 503 (by decide +kernel) rfl, by decide, (RX5, TX5, 10), rfl, rfl⟩
theorem kX7_192 : zCs RX7 192 mX7_isKind 1 := ⟨nX7_isKind, zT_mem 566 (by decide +kernel) rfl, zT_mem 567 (by decide +kernel) rfl⟩
theorem kX7_198 : zCv RX7 198 mX4_addGuard 2 4 := ⟨nX4_addGuard, zT_mem 569 (by decide +kernel) rfl, zT_mem 570 (by decide +kernel) rfl, zT_mem 571 (by decide +kernel) rfl, by decide, (RX4, TX4, 9), rfl, rfl⟩
theorem kX7_204 : zCv RX7 204 mX7_finishAct 1 7 := ⟨nX7_finishAct, zT_mem 577 (by decide +kernel) rfl, zT_mem 579 (by decide +kernel) rfl, zT_mem 11 (by decide +kernel) rfl, by decide, (RX7, TX7, 13), rfl, rfl⟩
theorem kX7_207 : zCv RX7 207 mX7_dropInnermost 0 7 := ⟨nX7_dropInnermost, zT_mem 509 (by decide +kernel) rfl, zT_mem 511 (by decide +kernel) rfl, zT_mem 8 (by decide +kernel) rfl, by decide, (RX7, TX7, 13), rfl, rfl⟩
theorem kX7_216 : zCv RX7 216 mX2_totalOf 1 2 := ⟨nX2_totalOf, zT_mem 605 (by decide +kernel) rfl, zT_mem 606 (by decide +kernel) rfl, zT_mem 607 (by decide +kernel) rfl, by decide, (RX2, TX2, 6), rfl, rfl⟩
theorem kX7_219 : zCv RX7 219 mX2_rankOf 1 2 := ⟨nX2_rankOf, zT_mem 634 (by decide +kernel) rfl, zT_mem 635 (by decide +kernel) rfl, zT_mem 636 (by decide +kernel) rfl, by decide, (RX2, TX2, 6), rfl, rfl⟩
theorem kX7_222 : zCv RX7 222 mX2_sharersOf 1 2 := ⟨nX2_sharersOf, zT_mem 655 (by decide +kernel) rfl, zT_mem 656 (by decide +kernel) rfl, zT_mem 657 (by decide +kernel) rfl, by decide, (RX2, TX2, 6), rfl, rfl⟩
theorem kX7_225 : zCv RX7 225 mX2_prizeOf 1 2 := ⟨nX2_prizeOf, zT_mem 667 (by decide +kernel) rfl, zT_mem 668 (by decide +kernel) rfl, zT_mem 669 (by decide +kernel) rfl, by decide, (RX2, TX2, 6), rfl, rfl⟩
theorem kX7_228 : zCv RX7 228 mX5_markBy 2 5 := ⟨nX5_markBy, zT_mem 683 (by decide +kernel) rfl, zT_mem 455 (by decide +kernel) rfl, zT_mem 456 (by decide +kernel) rfl, by decide, (RX5, TX5, 10), rfl, rfl⟩
theorem kX7_231 : zCv RX7 231 mX2_entryAt 2 2 := ⟨nX2_entryAt, zT_mem 688 (by decide +kernel) rfl, zT_mem 689 (by decide +kernel) rfl, zT_mem 690 (by decide +kernel) rfl, by decide, (RX2, TX2, 6), rfl, rfl⟩
theorem kX7_234 : zCv RX7 234 mX7_keepForUndo 3 7 := ⟨nX7_keepForUndo, zT_mem 581 (by decide +kernel) rfl, zT_mem 583 (by decide +kernel) rfl, zT_mem 12 (by decide +kernel) rfl, by decide, (RX7, TX7, 13), rfl, rfl⟩
theorem kX7_238 : zCv RX7 238 mX6_entriesOf 1 6 := ⟨nX6_entriesOf, zT_mem 700 (by decide +kernel) rfl, zT_mem 701 (by decide +kernel) rfl, zT_mem 702 (by decide +kernel) rfl, by decide, (RX6, TX6, 10), rfl, rfl⟩
theorem kX7_250 : zCv RX7 250 mX2_prizesLeft 1 2 := ⟨nX2_prizesLeft, zT_mem 708 (by decide +kernel) rfl, zT_mem 709 (by decide +kernel) rfl, zT_mem 710 (by decide +kernel) rfl, by decide, (RX2, TX2, 6), rfl, rfl⟩
theorem kX7_253 : zCv RX7 253 mX5_hasEvent 1 5 := ⟨nX5_hasEvent, zT_mem 716 (by decide +kernel) rfl, zT_mem 717 (by decide +kernel) rfl, zT_mem 718 (by decide +kernel) rfl, by decide, (RX5, TX5, 10), rfl, rfl⟩
theorem kX7_261 : zCv RX7 261 mX5_setCounting 2 5 := ⟨nX5_setCounting, zT_mem 720 (by decide +kernel) rfl, zT_mem 432 (by decide +kernel) rfl, zT_mem 433 (by decide +kernel) rfl, by decide, (RX5, TX5, 10), rfl, rfl⟩
theorem kX7_273 : zCv RX7 273 mX0_isNoted 1 0 := ⟨nX0_isNoted, zT_mem 729 (by decide +kernel) rfl, zT_mem 485 (by decide +kernel) rfl, zT_mem 486 (by decide +kernel) rfl, by decide, (RX0, TX0, 2), rfl, rfl⟩
theorem kX7_279 : zCs RX7 279 mX7_isOfKind 2 := ⟨nX7_isOfKind, zT_mem 492 (by decide +kernel) rfl, zT_mem 493 (by decide +kernel) rfl⟩
theorem kX7_294 : zCv RX7 294 mX7_digestOfEntries 1 7 := ⟨nX7_digestOfEntries, zT_mem 747 (by decide +kernel) rfl, zT_mem 749 (by decide +kernel) rfl, zT_mem 23 (by decide +kernel) rfl, by decide, (RX7, TX7, 13), rfl, rfl⟩
theorem kX7_298 : zCv RX7 298 mX7_digestOfEvents 1 7 := ⟨nX7_digestOfEvents, zT_mem 753 (by decide +kernel) rfl, zT_mem 755 (by decide +kernel) rfl, zT_mem 24 (by decide +kernel) rfl, by decide, (RX7, TX7, 13), rfl, rfl⟩
theorem kX7_303 : zCv RX7 303 mX5_markAt 2 5 := ⟨nX5_markAt, zT_mem 752 (by decide +kernel) rfl, zT_mem 463 (by decide +kernel) rfl, zT_mem 464 (by decide +kernel) rfl, by decide, (RX5, TX5, 10), rfl, rfl⟩
theorem kX7_310 : zCv RX7 310 mX4_indexOfSavepoint 1 4 := ⟨nX4_indexOfSavepoint, zT_mem 497 (by decide +kernel) rfl, zT_mem 498 (by decide +kernel) rfl, zT_mem 499 (by decide +kernel) rfl, by decide, (RX4, TX4, 9), rfl, rfl⟩
theorem kX7_313 : zCv RX7 313 mX5_append 4 5 := ⟨nX5_append, zT_mem 427 (by decide +kernel) rfl, zT_mem 428 (by decide +kernel) rfl, zT_mem 429 (by decide +kernel) rfl, by decide, (RX5, TX5, 10), rfl, rfl⟩
theorem kX7_319 : zCv RX7 319 mX3_holds 3 3 := ⟨nX3_holds, zT_mem 443 (by decide +kernel) rfl, zT_mem 444 (by decide +kernel) rfl, zT_mem 445 (by decide +kernel) rfl, by decide, (RX3, TX3, 4), rfl, rfl⟩
theorem kX7_326 : zCv RX7 326 mX7_fail 2 7 := ⟨nX7_fail, zT_mem 476 (by decide +kernel) rfl, zT_mem 478 (by decide +kernel) rfl, zT_mem 5 (by decide +kernel) rfl, by decide, (RX7, TX7, 13), rfl, rfl⟩
theorem kX7_329 : zCv RX7 329 mX0_add 6 0 := ⟨nX0_add, zT_mem 480 (by decide +kernel) rfl, zT_mem 481 (by decide +kernel) rfl, zT_mem 482 (by decide +kernel) rfl, by decide, (RX0, TX0, 2), rfl, rfl⟩
theorem kX7_332 : zCv RX7 332 mX7_letGuardCatch 1 7 := ⟨nX7_letGuardCatch, zT_mem 488 (by decide +kernel) rfl, zT_mem 490 (by decide +kernel) rfl, zT_mem 6 (by decide +kernel) rfl, by decide, (RX7, TX7, 13), rfl, rfl⟩
theorem kX7_335 : zCv RX7 335 mX7_suppressUnder 1 7 := ⟨nX7_suppressUnder, zT_mem 505 (by decide +kernel) rfl, zT_mem 507 (by decide +kernel) rfl, zT_mem 7 (by decide +kernel) rfl, by decide, (RX7, TX7, 13), rfl, rfl⟩
theorem kX7_338 : zCs RX7 338 mX7_kindFurtherOut 1 := ⟨nX7_kindFurtherOut, zT_mem 513 (by decide +kernel) rfl, zT_mem 514 (by decide +kernel) rfl⟩
theorem kX7_347 : zCv RX7 347 mX1_tell 1 1 := ⟨nX1_tell, zT_mem 585 (by decide +kernel) rfl, zT_mem 586 (by decide +kernel) rfl, zT_mem 587 (by decide +kernel) rfl, by decide, (RX1, TX1, 4), rfl, rfl⟩
theorem kX0_19 : zCv RX0 19 mX0_isNoted 1 0 := ⟨nX0_isNoted, zT_mem 484 (by decide +kernel) rfl, zT_mem 485 (by decide +kernel) rfl, zT_mem 486 (by decide +kernel) rfl, by decide, (RX0, TX0, 2), rfl, rfl⟩
theorem kX2_40 : zCv RX2 40 mX5_sumOfMarks 1 5 := ⟨nX5_sumOfMarks, zT_mem 609 (by decide +kernel) rfl, zT_mem 610 (by decide +kernel) rfl, zT_mem 611 (by decide +kernel) rfl, by decide, (RX5, TX5, 10), rfl, rfl⟩
theorem kX2_49 : zCs RX2 49 mX2_nearest 2 := ⟨nX2_nearest, zT_mem 613 (by decide +kernel) rfl, zT_mem 614 (by decide +kernel) rfl⟩
theorem kX2_53 : zCv RX2 53 mX2_middle 2 2 := ⟨nX2_middle, zT_mem 622 (by decide +kernel) rfl, zT_mem 624 (by decide +kernel) rfl, zT_mem 13 (by decide +kernel) rfl, by decide, (RX2, TX2, 6), rfl, rfl⟩
theorem kX2_56 : zCv RX2 56 mX5_greatestMark 1 5 := ⟨nX5_greatestMark, zT_mem 631 (by decide +kernel) rfl, zT_mem 459 (by decide +kernel) rfl, zT_mem 460 (by decide +kernel) rfl, by decide, (RX5, TX5, 10), rfl, rfl⟩
theorem kX2_59 : zCv RX2 59 mX5_leastMark 1 5 := ⟨nX5_leastMark, zT_mem 632 (by decide +kernel) rfl, zT_mem 470 (by decide +kernel) rfl, zT_mem 471 (by decide +kernel) rfl, by decide, (RX5, TX5, 10), rfl, rfl⟩
theorem kX2_65 : zCs RX2 65 mJ9_max_7cf53 2 := ⟨nJ9_max_7cf53, zT_mem 633 (by decide +kernel) rfl, zT_mem 467 (by decide +kernel) rfl⟩
theorem kX2_70 : zCv RX2 70 mX2_sortMarks 2 2 := ⟨nX2_sortMarks, zT_mem 626 (by decide +kernel) rfl, zT_mem 628 (by decide +kernel) rfl, zT_mem 14 (by decide +kernel) rfl, by decide, (RX2, TX2, 6), rfl, rfl⟩
theorem kX2_74 : zCv RX2 74 mX5_markAt 2 5 := ⟨nX5_markAt, zT_mem 630 (by decide +kernel) rfl, zT_mem 463 (by decide +kernel) rfl, zT_mem 464 (by decide +kernel) rfl, by decide, (RX5, TX5, 10), rfl, rfl⟩
theorem kX2_77 : zCs RX2 77 mJ9_floorDiv_7cf53 2 := ⟨nJ9_floorDiv_7cf53, zT_mem 616 (by decide +kernel) rfl, zT_mem 617 (by decide +kernel) rfl⟩
theorem kX2_80 : zCs RX2 80 mJ9_floorMod_7cf53 2 := ⟨nJ9_floorMod_7cf53, zT_mem 619 (by decide +kernel) rfl, zT_mem 620 (by decide +kernel) rfl⟩
theorem kX2_83 : zCv RX2 83 mX2_rankClass 1 2 := ⟨nX2_rankClass, zT_mem 638 (by decide +kernel) rfl, zT_mem 640 (by decide +kernel) rfl, zT_mem 15 (by decide +kernel) rfl, by decide, (RX2, TX2, 6), rfl, rfl⟩
theorem kX2_87 : zCv RX2 87 mX2_sharers 1 2 := ⟨nX2_sharers, zT_mem 659 (by decide +kernel) rfl, zT_mem 661 (by decide +kernel) rfl, zT_mem 18 (by decide +kernel) rfl, by decide, (RX2, TX2, 6), rfl, rfl⟩
theorem kX2_90 : zCv RX2 90 mX2_share 1 2 := ⟨nX2_share, zT_mem 671 (by decide +kernel) rfl, zT_mem 673 (by decide +kernel) rfl, zT_mem 20 (by decide +kernel) rfl, by decide, (RX2, TX2, 6), rfl, rfl⟩
theorem kX2_93 : zCv RX2 93 mX2_prizesFrom 3 2 := ⟨nX2_prizesFrom, zT_mem 675 (by decide +kernel) rfl, zT_mem 677 (by decide +kernel) rfl, zT_mem 21 (by decide +kernel) rfl, by decide, (RX2, TX2, 6), rfl, rfl⟩
theorem kX2_101 : zCv RX2 101 mX2_position 1 2 := ⟨nX2_position, zT_mem 692 (by decide +kernel) rfl, zT_mem 694 (by decide +kernel) rfl, zT_mem 22 (by decide +kernel) rfl, by decide, (RX2, TX2, 6), rfl, rfl⟩
theorem kX2_104 : zCv RX2 104 mX2_totalOf 1 2 := ⟨nX2_totalOf, zT_mem 642 (by decide +kernel) rfl, zT_mem 606 (by decide +kernel) rfl, zT_mem 607 (by decide +kernel) rfl, by decide, (RX2, TX2, 6), rfl, rfl⟩
theorem kX2_107 : zCv RX2 107 mX5_marksAboveZero 1 5 := ⟨nX5_marksAboveZero, zT_mem 643 (by decide +kernel) rfl, zT_mem 644 (by decide +kernel) rfl, zT_mem 645 (by decide +kernel) rfl, by decide, (RX5, TX5, 10), rfl, rfl⟩
theorem kX2_110 : zCv RX2 110 mX2_betterThan 1 2 := ⟨nX2_betterThan, zT_mem 647 (by decide +kernel) rfl, zT_mem 649 (by decide +kernel) rfl, zT_mem 16 (by decide +kernel) rfl, by decide, (RX2, TX2, 6), rfl, rfl⟩
theorem kX2_113 : zCv RX2 113 mX2_isBetter 2 2 := ⟨nX2_isBetter, zT_mem 651 (by decide +kernel) rfl, zT_mem 653 (by decide +kernel) rfl, zT_mem 17 (by decide +kernel) rfl, by decide, (RX2, TX2, 6), rfl, rfl⟩
theorem kX2_117 : zCv RX2 117 mX2_sharersAheadOf 2 2 := ⟨nX2_sharersAheadOf, zT_mem 663 (by decide +kernel) rfl, zT_mem 665 (by decide +kernel) rfl, zT_mem 19 (by decide +kernel) rfl, by decide, (RX2, TX2, 6), rfl, rfl⟩
theorem kX3_25 : zCs RX3 25 mX3_latestIsOutOfRange 2 := ⟨nX3_latestIsOutOfRange, zT_mem 447 (by decide +kernel) rfl, zT_mem 448 (by decide +kernel) rfl⟩
theorem kX3_37 : zCv RX3 37 mX5_timesPointed 2 5 := ⟨nX5_timesPointed, zT_mem 450 (by decide +kernel) rfl, zT_mem 451 (by decide +kernel) rfl, zT_mem 452 (by decide +kernel) rfl, by decide, (RX5, TX5, 10), rfl, rfl⟩
theorem kX3_43 : zCv RX3 43 mX5_markBy 2 5 := ⟨nX5_markBy, zT_mem 454 (by decide +kernel) rfl, zT_mem 455 (by decide +kernel) rfl, zT_mem 456 (by decide +kernel) rfl, by decide, (RX5, TX5, 10), rfl, rfl⟩
theorem kX3_46 : zCv RX3 46 mX5_greatestMark 1 5 := ⟨nX5_greatestMark, zT_mem 458 (by decide +kernel) rfl, zT_mem 459 (by decide +kernel) rfl, zT_mem 460 (by decide +kernel) rfl, by decide, (RX5, TX5, 10), rfl, rfl⟩
theorem kX3_50 : zCv RX3 50 mX5_leastMark 1 5 := ⟨nX5_leastMark, zT_mem 469 (by decide +kernel) rfl, zT_mem 470 (by decide +kernel) rfl, zT_mem 471 (by decide +kernel) rfl, by decide, (RX5, TX5, 10), rfl, rfl⟩
theorem kX4_40 : zCv RX4 40 mX4_indexOfSavepoint 1 4 := ⟨nX4_indexOfSavepoint, zT_mem 545 (by decide +kernel) rfl, zT_mem 498 (by decide +kernel) rfl, zT_mem 499 (by decide +kernel) rfl, by decide, (RX4, TX4, 9), rfl, rfl⟩
theorem kX4_44 : zCv RX4 44 mX4_removeSavepoint 1 4 := ⟨nX4_removeSavepoint, zT_mem 546 (by decide +kernel) rfl, zT_mem 548 (by decide +kernel) rfl, zT_mem 9 (by decide +kernel) rfl, by decide, (RX4, TX4, 9), rfl, rfl⟩
theorem kX5_45 : zCv RX5 45 mX5_setCounting 2 5 := ⟨nX5_setCounting, zT_mem 431 (by decide +kernel) rfl, zT_mem 432 (by decide +kernel) rfl, zT_mem 433 (by decide +kernel) rfl, by decide, (RX5, TX5, 10), rfl, rfl⟩
theorem kX5_49 : zCv RX5 49 mX5_markIndex 2 5 := ⟨nX5_markIndex, zT_mem 435 (by decide +kernel) rfl, zT_mem 437 (by decide +kernel) rfl, zT_mem 3 (by decide +kernel) rfl, by decide, (RX5, TX5, 10), rfl, rfl⟩
theorem kX5_61 : zCv RX5 61 mX5_markAt 2 5 := ⟨nX5_markAt, zT_mem 462 (by decide +kernel) rfl, zT_mem 463 (by decide +kernel) rfl, zT_mem 464 (by decide +kernel) rfl, by decide, (RX5, TX5, 10), rfl, rfl⟩
theorem kX5_70 : zCs RX5 70 mJ9_max_7cf53 2 := ⟨nJ9_max_7cf53, zT_mem 466 (by decide +kernel) rfl, zT_mem 467 (by decide +kernel) rfl⟩
theorem kX5_75 : zCs RX5 75 mJ9_min_7cf53 2 := ⟨nJ9_min_7cf53, zT_mem 473 (by decide +kernel) rfl, zT_mem 474 (by decide +kernel) rfl⟩
theorem kL_9 : zCi RL 9 mX7_init 0 := ⟨nX7_init, zT_mem 59 (by decide +kernel) rfl, zT_mem 60 (by decide +kernel) rfl, rfl, rfl⟩
theorem kL_12 : zCi RL 12 mX8_init 0 := ⟨nX8_init, zT_mem 759 (by decide +kernel) rfl, zT_mem 760 (by decide +kernel) rfl, rfl, rfl⟩
theorem kL_13 : zCv RL 13 mX7_show 2 7 := ⟨nX7_show, zT_mem 340 (by decide +kernel) rfl, zT_mem 341 (by decide +kernel) rfl, zT_mem 342 (by decide +kernel) rfl, by decide, (RX7, TX7, 13), rfl, rfl⟩
theorem kL_17 : zCv RL 17 mX8_show 2 8 := ⟨nX8_show, zT_mem 908 (by decide +kernel) rfl, zT_mem 909 (by decide +kernel) rfl, zT_mem 910 (by decide +kernel) rfl, by decide, (RX8, TX8, 48), rfl, rfl⟩
theorem kL_18 : zCv RL 18 mX7_entry 1 7 := ⟨nX7_entry, zT_mem 348 (by decide +kernel) rfl, zT_mem 349 (by decide +kernel) rfl, zT_mem 350 (by decide +kernel) rfl, by decide, (RX7, TX7, 13), rfl, rfl⟩
theorem kL_22 : zCv RL 22 mX8_entry 1 8 := ⟨nX8_entry, zT_mem 915 (by decide +kernel) rfl, zT_mem 916 (by decide +kernel) rfl, zT_mem 917 (by decide +kernel) rfl, by decide, (RX8, TX8, 48), rfl, rfl⟩
theorem kL_23 : zCv RL 23 mX7_prizes 4 7 := ⟨nX7_prizes, zT_mem 360 (by decide +kernel) rfl, zT_mem 361 (by decide +kernel) rfl, zT_mem 362 (by decide +kernel) rfl, by decide, (RX7, TX7, 13), rfl, rfl⟩
theorem kL_27 : zCv RL 27 mX8_prizes 4 8 := ⟨nX8_prizes, zT_mem 923 (by decide +kernel) rfl, zT_mem 924 (by decide +kernel) rfl, zT_mem 925 (by decide +kernel) rfl, by decide, (RX8, TX8, 48), rfl, rfl⟩
theorem kL_28 : zCv RL 28 mX7_rule 3 7 := ⟨nX7_rule, zT_mem 372 (by decide +kernel) rfl, zT_mem 373 (by decide +kernel) rfl, zT_mem 374 (by decide +kernel) rfl, by decide, (RX7, TX7, 13), rfl, rfl⟩
theorem kL_32 : zCv RL 32 mX8_rule 3 8 := ⟨nX8_rule, zT_mem 928 (by decide +kernel) rfl, zT_mem 929 (by decide +kernel) rfl, zT_mem 930 (by decide +kernel) rfl, by decide, (RX8, TX8, 48), rfl, rfl⟩
theorem kL_33 : zCv RL 33 mX7_clearRules 0 7 := ⟨nX7_clearRules, zT_mem 383 (by decide +kernel) rfl, zT_mem 384 (by decide +kernel) rfl, zT_mem 385 (by decide +kernel) rfl, by decide, (RX7, TX7, 13), rfl, rfl⟩
theorem kL_37 : zCv RL 37 mX8_clearRules 0 8 := ⟨nX8_clearRules, zT_mem 932 (by decide +kernel) rfl, zT_mem 933 (by decide +kernel) rfl, zT_mem 934 (by decide +kernel) rfl, by decide, (RX8, TX8, 48), rfl, rfl⟩
theorem kL_38 : zCv RL 38 mX7_observe 1 7 := ⟨nX7_observe, zT_mem 387 (by decide +kernel) rfl, zT_mem 388 (by decide +kernel) rfl, zT_mem 389 (by decide +kernel) rfl, by decide, (RX7, TX7, 13), rfl, rfl⟩
theorem kL_41 : zCv RL 41 mX8_observe 1 8 := ⟨nX8_observe, zT_mem 936 (by decide +kernel) rfl, zT_mem 937 (by decide +kernel) rfl, zT_mem 938 (by decide +kernel) rfl, by decide, (RX8, TX8, 48), rfl, rfl⟩
theorem kL_42 : zCv RL 42 mX7_begin 2 7 := ⟨nX7_begin, zT_mem 395 (by decide +kernel) rfl, zT_mem 396 (by decide +kernel) rfl, zT_mem 397 (by decide +kernel) rfl, by decide, (RX7, TX7, 13), rfl, rfl⟩
theorem kL_45 : zCv RL 45 mX8_begin 2 8 := ⟨nX8_begin, zT_mem 940 (by decide +kernel) rfl, zT_mem 941 (by decide +kernel) rfl, zT_mem 942 (by decide +kernel) rfl, by decide, (RX8, TX8, 48), rfl, rfl⟩
theorem kL_46 : zCv RL 46 mX7_points 1 7 := ⟨nX7_points, zT_mem 411 (by decide +kernel) rfl, zT_mem 412 (by decide +kernel) rfl, zT_mem 413 (by decide +kernel) rfl, by decide, (RX7, TX7, 13), rfl, rfl⟩
theorem kL_49 : zCv RL 49 mX8_points 1 8 := ⟨nX8_points, zT_mem 952 (by decide +kernel) rfl, zT_mem 953 (by decide +kernel) rfl, zT_mem 954 (by decide +kernel) rfl, by decide, (RX8, TX8, 48), rfl, rfl⟩
theorem kL_50 : zCv RL 50 mX7_deduct 1 7 := ⟨nX7_deduct, zT_mem 516 (by decide +kernel) rfl, zT_mem 517 (by decide +kernel) rfl, zT_mem 518 (by decide +kernel) rfl, by decide, (RX7, TX7, 13), rfl, rfl⟩
theorem kL_53 : zCv RL 53 mX8_deduct 1 8 := ⟨nX8_deduct, zT_mem 998 (by decide +kernel) rfl, zT_mem 999 (by decide +kernel) rfl, zT_mem 1000 (by decide +kernel) rfl, by decide, (RX8, TX8, 48), rfl, rfl⟩
theorem kL_54 : zCv RL 54 mX7_remark 1 7 := ⟨nX7_remark, zT_mem 520 (by decide +kernel) rfl, zT_mem 521 (by decide +kernel) rfl, zT_mem 522 (by decide +kernel) rfl, by decide, (RX7, TX7, 13), rfl, rfl⟩
theorem kL_57 : zCv RL 57 mX8_remark 1 8 := ⟨nX8_remark, zT_mem 1002 (by decide +kernel) rfl, zT_mem 1003 (by decide +kernel) rfl, zT_mem 1004 (by decide +kernel) rfl, by decide, (RX8, TX8, 48), rfl, rfl⟩
theorem kL_58 : zCv RL 58 mX7_save 1 7 := ⟨nX7_save, zT_mem 534 (by decide +kernel) rfl, zT_mem 535 (by decide +kernel) rfl, zT_mem 536 (by decide +kernel) rfl, by decide, (RX7, TX7, 13), rfl, rfl⟩
theorem kL_61 : zCv RL 61 mX8_save 1 8 := ⟨nX8_save, zT_mem 1006 (by decide +kernel) rfl, zT_mem 1007 (by decide +kernel) rfl, zT_mem 1008 (by decide +kernel) rfl, by decide, (RX8, TX8, 48), rfl, rfl⟩
theorem kL_62 : zCv RL 62 mX7_back 1 7 := ⟨nX7_back, zT_mem 550 (by decide +kernel) rfl, zT_mem 551 (by decide +kernel) rfl, zT_mem 552 (by decide +kernel) rfl, by decide, (RX7, TX7, 13), rfl, rfl⟩
theorem kL_65 : zCv RL 65 mX8_back 1 8 := ⟨nX8_back, zT_mem 1010 (by decide +kernel) rfl, zT_mem 1011 (by decide +kernel) rfl, zT_mem 1012 (by decide +kernel) rfl, by decide, (RX8, TX8, 48), rfl, rfl⟩
theorem kL_66 : zCv RL 66 mX7_release 1 7 := ⟨nX7_release, zT_mem 558 (by decide +kernel) rfl, zT_mem 559 (by decide +kernel) rfl, zT_mem 560 (by decide +kernel) rfl, by decide, (RX7, TX7, 13), rfl, rfl⟩
theorem kL_69 : zCv RL 69 mX8_release 1 8 := ⟨nX8_release, zT_mem 1014 (by decide +kernel) rfl, zT_mem 1015 (by decide +kernel) rfl, zT_mem 1016 (by decide +kernel) rfl, by decide, (RX8, TX8, 48), rfl, rfl⟩
theorem kL_70 : zCv RL 70 mX7_guard 2 7 := ⟨nX7_guard, zT_mem 562 (by decide +kernel) rfl, zT_mem 563 (by decide +kernel) rfl, zT_mem 564 (by decide +kernel) rfl, by decide, (RX7, TX7, 13), rfl, rfl⟩
theorem kL_73 : zCv RL 73 mX8_guard 2 8 := ⟨nX8_guard, zT_mem 1018 (by decide +kernel) rfl, zT_mem 1019 (by decide +kernel) rfl, zT_mem 1020 (by decide +kernel) rfl, by decide, (RX8, TX8, 48), rfl, rfl⟩
theorem kL_74 : zCv RL 74 mX7_end 0 7 := ⟨nX7_end, zT_mem 573 (by decide +kernel) rfl, zT_mem 574 (by decide +kernel) rfl, zT_mem 575 (by decide +kernel) rfl, by decide, (RX7, TX7, 13), rfl, rfl⟩
theorem kL_77 : zCv RL 77 mX8_end 0 8 := ⟨nX8_end, zT_mem 1022 (by decide +kernel) rfl, zT_mem 1023 (by decide +kernel) rfl, zT_mem 1024 (by decide +kernel) rfl, by decide, (RX8, TX8, 48), rfl, rfl⟩
theorem kL_78 : zCv RL 78 mX7_drop 0 7 := ⟨nX7_drop, zT_mem 589 (by decide +kernel) rfl, zT_mem 590 (by decide +kernel) rfl, zT_mem 591 (by decide +kernel) rfl, by decide, (RX7, TX7, 13), rfl, rfl⟩
theorem kL_81 : zCv RL 81 mX8_drop 0 8 := ⟨nX8_drop, zT_mem 1030 (by decide +kernel) rfl, zT_mem 1031 (by decide +kernel) rfl, zT_mem 1032 (by decide +kernel) rfl, by decide, (RX8, TX8, 48), rfl, rfl⟩
theorem kL_82 : zCv RL 82 mX7_depth 0 7 := ⟨nX7_depth, zT_mem 593 (by decide +kernel) rfl, zT_mem 594 (by decide +kernel) rfl, zT_mem 595 (by decide +kernel) rfl, by decide, (RX7, TX7, 13), rfl, rfl⟩
theorem kL_85 : zCv RL 85 mX8_depth 0 8 := ⟨nX8_depth, zT_mem 1034 (by decide +kernel) rfl, zT_mem 1035 (by decide +kernel) rfl, zT_mem 1036 (by decide +kernel) rfl, by decide, (RX8, TX8, 48), rfl, rfl⟩
theorem kL_86 : zCv RL 86 mX7_scoring 2 7 := ⟨nX7_scoring, zT_mem 597 (by decide +kernel) rfl, zT_mem 598 (by decide +kernel) rfl, zT_mem 599 (by decide +kernel) rfl, by decide, (RX7, TX7, 13), rfl, rfl⟩
theorem kL_89 : zCv RL 89 mX8_scoring 2 8 := ⟨nX8_scoring, zT_mem 1038 (by decide +kernel) rfl, zT_mem 1039 (by decide +kernel) rfl, zT_mem 1040 (by decide +kernel) rfl, by decide, (RX8, TX8, 48), rfl, rfl⟩
theorem kL_90 : zCv RL 90 mX7_told 2 7 := ⟨nX7_told, zT_mem 601 (by decide +kernel) rfl, zT_mem 602 (by decide +kernel) rfl, zT_mem 603 (by decide +kernel) rfl, by decide, (RX7, TX7, 13), rfl, rfl⟩
theorem kL_93 : zCv RL 93 mX8_told 2 8 := ⟨nX8_told, zT_mem 1042 (by decide +kernel) rfl, zT_mem 1043 (by decide +kernel) rfl, zT_mem 1044 (by decide +kernel) rfl, by decide, (RX8, TX8, 48), rfl, rfl⟩
theorem kL_94 : zCv RL 94 mX7_mark 2 7 := ⟨nX7_mark, zT_mem 679 (by decide +kernel) rfl, zT_mem 680 (by decide +kernel) rfl, zT_mem 681 (by decide +kernel) rfl, by decide, (RX7, TX7, 13), rfl, rfl⟩
theorem kL_97 : zCv RL 97 mX8_mark 2 8 := ⟨nX8_mark, zT_mem 1077 (by decide +kernel) rfl, zT_mem 1078 (by decide +kernel) rfl, zT_mem 1079 (by decide +kernel) rfl, by decide, (RX8, TX8, 48), rfl, rfl⟩
theorem kL_98 : zCv RL 98 mX7_place 2 7 := ⟨nX7_place, zT_mem 684 (by decide +kernel) rfl, zT_mem 685 (by decide +kernel) rfl, zT_mem 686 (by decide +kernel) rfl, by decide, (RX7, TX7, 13), rfl, rfl⟩
theorem kL_101 : zCv RL 101 mX8_place 2 8 := ⟨nX8_place, zT_mem 1081 (by decide +kernel) rfl, zT_mem 1082 (by decide +kernel) rfl, zT_mem 1083 (by decide +kernel) rfl, by decide, (RX8, TX8, 48), rfl, rfl⟩
theorem kL_102 : zCv RL 102 mX7_close 1 7 := ⟨nX7_close, zT_mem 696 (by decide +kernel) rfl, zT_mem 697 (by decide +kernel) rfl, zT_mem 698 (by decide +kernel) rfl, by decide, (RX7, TX7, 13), rfl, rfl⟩
theorem kL_105 : zCv RL 105 mX8_close 1 8 := ⟨nX8_close, zT_mem 1085 (by decide +kernel) rfl, zT_mem 1086 (by decide +kernel) rfl, zT_mem 1087 (by decide +kernel) rfl, by decide, (RX8, TX8, 48), rfl, rfl⟩
theorem kL_106 : zCv RL 106 mX7_about 2 7 := ⟨nX7_about, zT_mem 704 (by decide +kernel) rfl, zT_mem 705 (by decide +kernel) rfl, zT_mem 706 (by decide +kernel) rfl, by decide, (RX7, TX7, 13), rfl, rfl⟩
theorem kL_109 : zCv RL 109 mX8_about 2 8 := ⟨nX8_about, zT_mem 1089 (by decide +kernel) rfl, zT_mem 1090 (by decide +kernel) rfl, zT_mem 1091 (by decide +kernel) rfl, by decide, (RX8, TX8, 48), rfl, rfl⟩
theorem kL_110 : zCv RL 110 mX7_uphold 1 7 := ⟨nX7_uphold, zT_mem 712 (by decide +kernel) rfl, zT_mem 713 (by decide +kernel) rfl, zT_mem 714 (by decide +kernel) rfl, by decide, (RX7, TX7, 13), rfl, rfl⟩
theorem kL_113 : zCv RL 113 mX8_uphold 1 8 := ⟨nX8_uphold, zT_mem 1093 (by decide +kernel) rfl, zT_mem 1094 (by decide +kernel) rfl, zT_mem 1095 (by decide +kernel) rfl, by decide, (RX8, TX8, 48), rfl, rfl⟩
theorem kL_114 : zCv RL 114 mX7_event 2 7 := ⟨nX7_event, zT_mem 721 (by decide +kernel) rfl, zT_mem 722 (by decide +kernel) rfl, zT_mem 723 (by decide +kernel) rfl, by decide, (RX7, TX7, 13), rfl, rfl⟩
theorem kL_117 : zCv RL 117 mX8_event 2 8 := ⟨nX8_event, zT_mem 1097 (by decide +kernel) rfl, zT_mem 1098 (by decide +kernel) rfl, zT_mem 1099 (by decide +kernel) rfl, by decide, (RX8, TX8, 48), rfl, rfl⟩
theorem kL_118 : zCv RL 118 mX7_failure 2 7 := ⟨nX7_failure, zT_mem 725 (by decide +kernel) rfl, zT_mem 726 (by decide +kernel) rfl, zT_mem 727 (by decide +kernel) rfl, by decide, (RX7, TX7, 13), rfl, rfl⟩
theorem kL_121 : zCv RL 121 mX8_failure 2 8 := ⟨nX8_failure, zT_mem 1101 (by decide +kernel) rfl, zT_mem 1102 (by decide +kernel) rfl, zT_mem 1103 (by decide +kernel) rfl, by decide, (RX8, TX8, 48), rfl, rfl⟩
theorem kL_122 : zCv RL 122 mX7_is 2 7 := ⟨nX7_is, zT_mem 730 (by decide +kernel) rfl, zT_mem 731 (by decide +kernel) rfl, zT_mem 732 (by decide +kernel) rfl, by decide, (RX7, TX7, 13), rfl, rfl⟩
theorem kL_125 : zCv RL 125 mX8_is 2 8 := ⟨nX8_is, zT_mem 1105 (by decide +kernel) rfl, zT_mem 1106 (by decide +kernel) rfl, zT_mem 1107 (by decide +kernel) rfl, by decide, (RX8, TX8, 48), rfl, rfl⟩
theorem kL_126 : zCv RL 126 mX7_undo 0 7 := ⟨nX7_undo, zT_mem 734 (by decide +kernel) rfl, zT_mem 735 (by decide +kernel) rfl, zT_mem 736 (by decide +kernel) rfl, by decide, (RX7, TX7, 13), rfl, rfl⟩
theorem kL_129 : zCv RL 129 mX8_undo 0 8 := ⟨nX8_undo, zT_mem 1109 (by decide +kernel) rfl, zT_mem 1110 (by decide +kernel) rfl, zT_mem 1111 (by decide +kernel) rfl, by decide, (RX8, TX8, 48), rfl, rfl⟩
theorem kL_130 : zCv RL 130 mX7_count 1 7 := ⟨nX7_count, zT_mem 738 (by decide +kernel) rfl, zT_mem 739 (by decide +kernel) rfl, zT_mem 740 (by decide +kernel) rfl, by decide, (RX7, TX7, 13), rfl, rfl⟩
theorem kL_133 : zCv RL 133 mX8_count 1 8 := ⟨nX8_count, zT_mem 1113 (by decide +kernel) rfl, zT_mem 1114 (by decide +kernel) rfl, zT_mem 1115 (by decide +kernel) rfl, by decide, (RX8, TX8, 48), rfl, rfl⟩
theorem kL_134 : zCv RL 134 mX7_digest 0 7 := ⟨nX7_digest, zT_mem 742 (by decide +kernel) rfl, zT_mem 743 (by decide +kernel) rfl, zT_mem 744 (by decide +kernel) rfl, by decide, (RX7, TX7, 13), rfl, rfl⟩
theorem kL_138 : zCv RL 138 mX8_digest 0 8 := ⟨nX8_digest, zT_mem 1117 (by decide +kernel) rfl, zT_mem 1118 (by decide +kernel) rfl, zT_mem 1119 (by decide +kernel) rfl, by decide, (RX8, TX8, 48), rfl, rfl⟩
theorem kX8_123 : zCs RX8 123 mX8_in 3 := ⟨nX8_in, zT_mem 912 (by decide +kernel) rfl, zT_mem 913 (by decide +kernel) rfl⟩
theorem kX8_133 : zCv RX8 133 mX8_isClass 1 8 := ⟨nX8_isClass, zT_mem 919 (by decide +kernel) rfl, zT_mem 921 (by decide +kernel) rfl, zT_mem 25 (by decide +kernel) rfl, by decide, (RX8, TX8, 48), rfl, rfl⟩
theorem kX8_147 : zCv RX8 147 mX8_counted 1 8 := ⟨nX8_counted, zT_mem 960 (by decide +kernel) rfl, zT_mem 962 (by decide +kernel) rfl, zT_mem 29 (by decide +kernel) rfl, by decide, (RX8, TX8, 48), rfl, rfl⟩
theorem kX8_151 : zCv RX8 151 mX8_isJudge 1 8 := ⟨nX8_isJudge, zT_mem 944 (by decide +kernel) rfl, zT_mem 946 (by decide +kernel) rfl, zT_mem 26 (by decide +kernel) rfl, by decide, (RX8, TX8, 48), rfl, rfl⟩
theorem kX8_154 : zCv RX8 154 mX8_isEntry 1 8 := ⟨nX8_isEntry, zT_mem 948 (by decide +kernel) rfl, zT_mem 950 (by decide +kernel) rfl, zT_mem 27 (by decide +kernel) rfl, by decide, (RX8, TX8, 48), rfl, rfl⟩
theorem kX8_157 : zCs RX8 157 mX8_parent 1 := ⟨nX8_parent, zT_mem 987 (by decide +kernel) rfl, zT_mem 988 (by decide +kernel) rfl⟩
theorem kX8_161 : zCv RX8 161 mX8_markOf 2 8 := ⟨nX8_markOf, zT_mem 972 (by decide +kernel) rfl, zT_mem 974 (by decide +kernel) rfl, zT_mem 32 (by decide +kernel) rfl, by decide, (RX8, TX8, 48), rfl, rfl⟩
theorem kX8_165 : zCv RX8 165 mX8_holds 1 8 := ⟨nX8_holds, zT_mem 968 (by decide +kernel) rfl, zT_mem 970 (by decide +kernel) rfl, zT_mem 31 (by decide +kernel) rfl, by decide, (RX8, TX8, 48), rfl, rfl⟩
theorem kX8_168 : zCv RX8 168 mX8_failed 2 8 := ⟨nX8_failed, zT_mem 976 (by decide +kernel) rfl, zT_mem 978 (by decide +kernel) rfl, zT_mem 33 (by decide +kernel) rfl, by decide, (RX8, TX8, 48), rfl, rfl⟩
theorem kX8_174 : zCv RX8 174 mX8_note 4 8 := ⟨nX8_note, zT_mem 980 (by decide +kernel) rfl, zT_mem 982 (by decide +kernel) rfl, zT_mem 34 (by decide +kernel) rfl, by decide, (RX8, TX8, 48), rfl, rfl⟩
theorem kX8_178 : zCs RX8 178 mX8_isOf 2 := ⟨nX8_isOf, zT_mem 984 (by decide +kernel) rfl, zT_mem 985 (by decide +kernel) rfl⟩
theorem kX8_185 : zCv RX8 185 mX8_placeOf 1 8 := ⟨nX8_placeOf, zT_mem 990 (by decide +kernel) rfl, zT_mem 992 (by decide +kernel) rfl, zT_mem 35 (by decide +kernel) rfl, by decide, (RX8, TX8, 48), rfl, rfl⟩
theorem kX8_188 : zCv RX8 188 mX8_goBack 1 8 := ⟨nX8_goBack, zT_mem 994 (by decide +kernel) rfl, zT_mem 996 (by decide +kernel) rfl, zT_mem 36 (by decide +kernel) rfl, by decide, (RX8, TX8, 48), rfl, rfl⟩
theorem kX8_191 : zCv RX8 191 mX8_comes 2 8 := ⟨nX8_comes, zT_mem 956 (by decide +kernel) rfl, zT_mem 958 (by decide +kernel) rfl, zT_mem 28 (by decide +kernel) rfl, by decide, (RX8, TX8, 48), rfl, rfl⟩
theorem kX8_195 : zCv RX8 195 mX8_judged 1 8 := ⟨nX8_judged, zT_mem 964 (by decide +kernel) rfl, zT_mem 966 (by decide +kernel) rfl, zT_mem 30 (by decide +kernel) rfl, by decide, (RX8, TX8, 48), rfl, rfl⟩
theorem kX8_208 : zCv RX8 208 mX8_keep 1 8 := ⟨nX8_keep, zT_mem 1026 (by decide +kernel) rfl, zT_mem 1028 (by decide +kernel) rfl, zT_mem 37 (by decide +kernel) rfl, by decide, (RX8, TX8, 48), rfl, rfl⟩
theorem kX8_214 : zCs RX8 214 mX8_rounded 2 := ⟨nX8_rounded, zT_mem 1054 (by decide +kernel) rfl, zT_mem 1055 (by decide +kernel) rfl⟩
theorem kX8_217 : zCv RX8 217 mX8_totalOf 1 8 := ⟨nX8_totalOf, zT_mem 1050 (by decide +kernel) rfl, zT_mem 1052 (by decide +kernel) rfl, zT_mem 39 (by decide +kernel) rfl, by decide, (RX8, TX8, 48), rfl, rfl⟩
theorem kX8_220 : zCv RX8 220 mX8_above 1 8 := ⟨nX8_above, zT_mem 1065 (by decide +kernel) rfl, zT_mem 1067 (by decide +kernel) rfl, zT_mem 42 (by decide +kernel) rfl, by decide, (RX8, TX8, 48), rfl, rfl⟩
theorem kX8_223 : zCv RX8 223 mX8_isBetter 2 8 := ⟨nX8_isBetter, zT_mem 1061 (by decide +kernel) rfl, zT_mem 1063 (by decide +kernel) rfl, zT_mem 41 (by decide +kernel) rfl, by decide, (RX8, TX8, 48), rfl, rfl⟩
theorem kX8_226 : zCv RX8 226 mX8_rankOf 1 8 := ⟨nX8_rankOf, zT_mem 1057 (by decide +kernel) rfl, zT_mem 1059 (by decide +kernel) rfl, zT_mem 40 (by decide +kernel) rfl, by decide, (RX8, TX8, 48), rfl, rfl⟩
theorem kX8_229 : zCv RX8 229 mX8_alike 1 8 := ⟨nX8_alike, zT_mem 1069 (by decide +kernel) rfl, zT_mem 1071 (by decide +kernel) rfl, zT_mem 43 (by decide +kernel) rfl, by decide, (RX8, TX8, 48), rfl, rfl⟩
theorem kX8_232 : zCv RX8 232 mX8_total 0 8 := ⟨nX8_total, zT_mem 1046 (by decide +kernel) rfl, zT_mem 1048 (by decide +kernel) rfl, zT_mem 38 (by decide +kernel) rfl, by decide, (RX8, TX8, 48), rfl, rfl⟩
theorem kX8_235 : zCv RX8 235 mX8_prizeOf 1 8 := ⟨nX8_prizeOf, zT_mem 1073 (by decide +kernel) rfl, zT_mem 1075 (by decide +kernel) rfl, zT_mem 44 (by decide +kernel) rfl, by decide, (RX8, TX8, 48), rfl, rfl⟩
end
section
theorem iX0_init_0 : zLa mX0_init 0 0 1 := Or.inl ⟨0, by decide +kernel, rfl, rfl⟩
theorem iX0_init_1 : zIs mX0_init 1 (.invokespecial 3) 3 4 := ⟨by decide +kernel, rfl⟩
theorem iX0_init_4 : zLa mX0_init 4 0 5 := Or.inl ⟨0, by decide +kernel, rfl, rfl⟩
theorem iX0_init_5 : zPi mX0_init 5 1200 8 := Or.inr (Or.inr (Or.inl ⟨1200, by decide +kernel, by decide, rfl⟩))
theorem iX0_init_8 : zIs mX0_init 8 (.newarray .int) 2 10 := ⟨by decide +kernel, rfl⟩
theorem iX0_init_10 : zIs mX0_init 10 (.putfield 11) 3 13 := ⟨by decide +kernel, rfl⟩
theorem iX0_init_13 : zLa mX0_init 13 0 14 := Or.inl ⟨0, by decide +kernel, rfl, rfl⟩
theorem iX0_init_14 : zPi mX0_init 14 0 15 := Or.inl ⟨0, by decide +kernel, by decide, rfl⟩
theorem iX0_init_15 : zIs mX0_init 15 (.putfield 15) 3 18 := ⟨by decide +kernel, rfl⟩
theorem iX0_init_18 : zIs mX0_init 18 (.return_) 1 19 := ⟨by decide +kernel, rfl⟩
theorem iX0_isNoted_0 : zLi mX0_isNoted 0 1 1 := Or.inl ⟨1, by decide +kernel, rfl, rfl⟩
theorem iX0_isNoted_1 : zBr mX0_isNoted 1 (.ifCond .lt) 23 4 := ⟨22, by decide +kernel, by decide, rfl⟩
theorem iX0_isNoted_4 : zLi mX0_isNoted 4 1 5 := Or.inl ⟨1, by decide +kernel, rfl, rfl⟩
theorem iX0_isNoted_5 : zLa mX0_isNoted 5 0 6 := Or.inl ⟨0, by decide +kernel, rfl, rfl⟩
theorem iX0_isNoted_6 : zIs mX0_isNoted 6 (.getfield 15) 3 9 := ⟨by decide +kernel, rfl⟩
theorem iX0_isNoted_9 : zBr mX0_isNoted 9 (.if_icmp .ge) 23 12 := ⟨14, by decide +kernel, by decide, rfl⟩
theorem iX0_isNoted_12 : zLi mX0_isNoted 12 1 13 := Or.inl ⟨1, by decide +kernel, rfl, rfl⟩
theorem iX0_isNoted_13 : zPi mX0_isNoted 13 200 16 := Or.inr (Or.inr (Or.inl ⟨200, by decide +kernel, by decide, rfl⟩))
theorem iX0_isNoted_16 : zBr mX0_isNoted 16 (.if_icmp .ge) 23 19 := ⟨7, by decide +kernel, by decide, rfl⟩
theorem iX0_isNoted_19 : zPi mX0_isNoted 19 1 20 := Or.inl ⟨1, by decide +kernel, by decide, rfl⟩
theorem iX0_isNoted_20 : zBr mX0_isNoted 20 .goto 24 23 := ⟨4, by decide +kernel, by decide, rfl⟩
theorem iX0_isNoted_23 : zPi mX0_isNoted 23 0 24 := Or.inl ⟨0, by decide +kernel, by decide, rfl⟩
theorem iX0_isNoted_24 : zIs mX0_isNoted 24 (.ireturn) 1 25 := ⟨by decide +kernel, rfl⟩
theorem iX0_add_0 : zLa mX0_add 0 0 1 := Or.inl ⟨0, by decide +kernel, rfl, rfl⟩
theorem iX0_add_1 : zIs mX0_add 1 (.getfield 15) 3 4 := ⟨by decide +kernel, rfl⟩
theorem iX0_add_4 : zSi mX0_add 4 7 6 := ⟨Or.inr ⟨by decide +kernel, rfl⟩, by decide⟩
theorem iX0_add_6 : zLa mX0_add 6 0 7 := Or.inl ⟨0, by decide +kernel, rfl, rfl⟩
theorem iX0_add_7 : zIs mX0_add 7 (.dup) 1 8 := ⟨by decide +kernel, rfl⟩
theorem iX0_add_8 : zIs mX0_add 8 (.getfield 15) 3 11 := ⟨by decide +kernel, rfl⟩
theorem iX0_add_11 : zPi mX0_add 11 1 12 := Or.inl ⟨1, by decide +kernel, by decide, rfl⟩
theorem iX0_add_12 : zIs mX0_add 12 (.iadd) 1 13 := ⟨by decide +kernel, rfl⟩
theorem iX0_add_13 : zIs mX0_add 13 (.putfield 15) 3 16 := ⟨by decide +kernel, rfl⟩
theorem iX0_add_16 : zLa mX0_add 16 0 17 := Or.inl ⟨0, by decide +kernel, rfl, rfl⟩
theorem iX0_add_17 : zLi mX0_add 17 7 19 := Or.inr ⟨by decide +kernel, rfl⟩
theorem iX0_add_19 : zIs mX0_add 19 (.invokevirtual 19) 3 22 := ⟨by decide +kernel, rfl⟩
theorem iX0_add_22 : zBr mX0_add 22 (.ifCond .eq) 93 25 := ⟨71, by decide +kernel, by decide, rfl⟩
theorem iX0_add_25 : zLi mX0_add 25 7 27 := Or.inr ⟨by decide +kernel, rfl⟩
theorem iX0_add_27 : zPi mX0_add 27 6 29 := Or.inr (Or.inl ⟨6, by decide +kernel, by decide, rfl⟩)
theorem iX0_add_29 : zIs mX0_add 29 (.imul) 1 30 := ⟨by decide +kernel, rfl⟩
theorem iX0_add_30 : zSi mX0_add 30 8 32 := ⟨Or.inr ⟨by decide +kernel, rfl⟩, by decide⟩
theorem iX0_add_32 : zLa mX0_add 32 0 33 := Or.inl ⟨0, by decide +kernel, rfl, rfl⟩
theorem iX0_add_33 : zIs mX0_add 33 (.getfield 11) 3 36 := ⟨by decide +kernel, rfl⟩
theorem iX0_add_36 : zLi mX0_add 36 8 38 := Or.inr ⟨by decide +kernel, rfl⟩
theorem iX0_add_38 : zLi mX0_add 38 1 39 := Or.inl ⟨1, by decide +kernel, rfl, rfl⟩
theorem iX0_add_39 : zIs mX0_add 39 (.iastore) 1 40 := ⟨by decide +kernel, rfl⟩
theorem iX0_add_40 : zLa mX0_add 40 0 41 := Or.inl ⟨0, by decide +kernel, rfl, rfl⟩
theorem iX0_add_41 : zIs mX0_add 41 (.getfield 11) 3 44 := ⟨by decide +kernel, rfl⟩
theorem iX0_add_44 : zLi mX0_add 44 8 46 := Or.inr ⟨by decide +kernel, rfl⟩
theorem iX0_add_46 : zPi mX0_add 46 1 47 := Or.inl ⟨1, by decide +kernel, by decide, rfl⟩
theorem iX0_add_47 : zIs mX0_add 47 (.iadd) 1 48 := ⟨by decide +kernel, rfl⟩
theorem iX0_add_48 : zLi mX0_add 48 2 49 := Or.inl ⟨2, by decide +kernel, rfl, rfl⟩
theorem iX0_add_49 : zIs mX0_add 49 (.iastore) 1 50 := ⟨by decide +kernel, rfl⟩
theorem iX0_add_50 : zLa mX0_add 50 0 51 := Or.inl ⟨0, by decide +kernel, rfl, rfl⟩
theorem iX0_add_51 : zIs mX0_add 51 (.getfield 11) 3 54 := ⟨by decide +kernel, rfl⟩
theorem iX0_add_54 : zLi mX0_add 54 8 56 := Or.inr ⟨by decide +kernel, rfl⟩
theorem iX0_add_56 : zPi mX0_add 56 2 57 := Or.inl ⟨2, by decide +kernel, by decide, rfl⟩
theorem iX0_add_57 : zIs mX0_add 57 (.iadd) 1 58 := ⟨by decide +kernel, rfl⟩
theorem iX0_add_58 : zLi mX0_add 58 3 59 := Or.inl ⟨3, by decide +kernel, rfl, rfl⟩
theorem iX0_add_59 : zIs mX0_add 59 (.iastore) 1 60 := ⟨by decide +kernel, rfl⟩
theorem iX0_add_60 : zLa mX0_add 60 0 61 := Or.inl ⟨0, by decide +kernel, rfl, rfl⟩
theorem iX0_add_61 : zIs mX0_add 61 (.getfield 11) 3 64 := ⟨by decide +kernel, rfl⟩
theorem iX0_add_64 : zLi mX0_add 64 8 66 := Or.inr ⟨by decide +kernel, rfl⟩
theorem iX0_add_66 : zPi mX0_add 66 3 67 := Or.inl ⟨3, by decide +kernel, by decide, rfl⟩
theorem iX0_add_67 : zIs mX0_add 67 (.iadd) 1 68 := ⟨by decide +kernel, rfl⟩
theorem iX0_add_68 : zLi mX0_add 68 4 70 := Or.inr ⟨by decide +kernel, rfl⟩
theorem iX0_add_70 : zIs mX0_add 70 (.iastore) 1 71 := ⟨by decide +kernel, rfl⟩
theorem iX0_add_71 : zLa mX0_add 71 0 72 := Or.inl ⟨0, by decide +kernel, rfl, rfl⟩
theorem iX0_add_72 : zIs mX0_add 72 (.getfield 11) 3 75 := ⟨by decide +kernel, rfl⟩
theorem iX0_add_75 : zLi mX0_add 75 8 77 := Or.inr ⟨by decide +kernel, rfl⟩
theorem iX0_add_77 : zPi mX0_add 77 4 78 := Or.inl ⟨4, by decide +kernel, by decide, rfl⟩
theorem iX0_add_78 : zIs mX0_add 78 (.iadd) 1 79 := ⟨by decide +kernel, rfl⟩
theorem iX0_add_79 : zLi mX0_add 79 5 81 := Or.inr ⟨by decide +kernel, rfl⟩
theorem iX0_add_81 : zIs mX0_add 81 (.iastore) 1 82 := ⟨by decide +kernel, rfl⟩
theorem iX0_add_82 : zLa mX0_add 82 0 83 := Or.inl ⟨0, by decide +kernel, rfl, rfl⟩
theorem iX0_add_83 : zIs mX0_add 83 (.getfield 11) 3 86 := ⟨by decide +kernel, rfl⟩
theorem iX0_add_86 : zLi mX0_add 86 8 88 := Or.inr ⟨by decide +kernel, rfl⟩
theorem iX0_add_88 : zPi mX0_add 88 5 89 := Or.inl ⟨5, by decide +kernel, by decide, rfl⟩
theorem iX0_add_89 : zIs mX0_add 89 (.iadd) 1 90 := ⟨by decide +kernel, rfl⟩
theorem iX0_add_90 : zLi mX0_add 90 6 92 := Or.inr ⟨by decide +kernel, rfl⟩
theorem iX0_add_92 : zIs mX0_add 92 (.iastore) 1 93 := ⟨by decide +kernel, rfl⟩
theorem iX0_add_93 : zLi mX0_add 93 7 95 := Or.inr ⟨by decide +kernel, rfl⟩
theorem iX0_add_95 : zIs mX0_add 95 (.ireturn) 1 96 := ⟨by decide +kernel, rfl⟩
end
section
theorem iX1_init_0 : zLa mX1_init 0 0 1 := Or.inl ⟨0, by decide +kernel, rfl, rfl⟩
theorem iX1_init_1 : zIs mX1_init 1 (.invokespecial 3) 3 4 := ⟨by decide +kernel, rfl⟩
theorem iX1_init_4 : zLa mX1_init 4 0 5 := Or.inl ⟨0, by decide +kernel, rfl, rfl⟩
theorem iX1_init_5 : zPi mX1_init 5 6 7 := Or.inr (Or.inl ⟨6, by decide +kernel, by decide, rfl⟩)
theorem iX1_init_7 : zIs mX1_init 7 (.newarray .int) 2 9 := ⟨by decide +kernel, rfl⟩
theorem iX1_init_9 : zIs mX1_init 9 (.putfield 9) 3 12 := ⟨by decide +kernel, rfl⟩
theorem iX1_init_12 : zLa mX1_init 12 0 13 := Or.inl ⟨0, by decide +kernel, rfl, rfl⟩
theorem iX1_init_13 : zPi mX1_init 13 6 15 := Or.inr (Or.inl ⟨6, by decide +kernel, by decide, rfl⟩)
theorem iX1_init_15 : zIs mX1_init 15 (.newarray .int) 2 17 := ⟨by decide +kernel, rfl⟩
theorem iX1_init_17 : zIs mX1_init 17 (.putfield 15) 3 20 := ⟨by decide +kernel, rfl⟩
theorem iX1_init_20 : zLa mX1_init 20 0 21 := Or.inl ⟨0, by decide +kernel, rfl, rfl⟩
theorem iX1_init_21 : zPi mX1_init 21 0 22 := Or.inl ⟨0, by decide +kernel, by decide, rfl⟩
theorem iX1_init_22 : zIs mX1_init 22 (.putfield 18) 3 25 := ⟨by decide +kernel, rfl⟩
theorem iX1_init_25 : zLa mX1_init 25 0 26 := Or.inl ⟨0, by decide +kernel, rfl, rfl⟩
theorem iX1_init_26 : zPi mX1_init 26 0 27 := Or.inl ⟨0, by decide +kernel, by decide, rfl⟩
theorem iX1_init_27 : zIs mX1_init 27 (.putfield 22) 3 30 := ⟨by decide +kernel, rfl⟩
theorem iX1_init_30 : zIs mX1_init 30 (.return_) 1 31 := ⟨by decide +kernel, rfl⟩
theorem iX1_add_0 : zLa mX1_add 0 0 1 := Or.inl ⟨0, by decide +kernel, rfl, rfl⟩
theorem iX1_add_1 : zIs mX1_add 1 (.getfield 18) 3 4 := ⟨by decide +kernel, rfl⟩
theorem iX1_add_4 : zSi mX1_add 4 2 5 := ⟨Or.inl ⟨2, by decide +kernel, rfl, rfl⟩, by decide⟩
theorem iX1_add_5 : zLa mX1_add 5 0 6 := Or.inl ⟨0, by decide +kernel, rfl, rfl⟩
theorem iX1_add_6 : zIs mX1_add 6 (.getfield 9) 3 9 := ⟨by decide +kernel, rfl⟩
theorem iX1_add_9 : zLi mX1_add 9 2 10 := Or.inl ⟨2, by decide +kernel, rfl, rfl⟩
theorem iX1_add_10 : zLi mX1_add 10 1 11 := Or.inl ⟨1, by decide +kernel, rfl, rfl⟩
theorem iX1_add_11 : zIs mX1_add 11 (.iastore) 1 12 := ⟨by decide +kernel, rfl⟩
theorem iX1_add_12 : zLa mX1_add 12 0 13 := Or.inl ⟨0, by decide +kernel, rfl, rfl⟩
theorem iX1_add_13 : zIs mX1_add 13 (.dup) 1 14 := ⟨by decide +kernel, rfl⟩
theorem iX1_add_14 : zIs mX1_add 14 (.getfield 18) 3 17 := ⟨by decide +kernel, rfl⟩
theorem iX1_add_17 : zPi mX1_add 17 1 18 := Or.inl ⟨1, by decide +kernel, by decide, rfl⟩
theorem iX1_add_18 : zIs mX1_add 18 (.iadd) 1 19 := ⟨by decide +kernel, rfl⟩
theorem iX1_add_19 : zIs mX1_add 19 (.putfield 18) 3 22 := ⟨by decide +kernel, rfl⟩
theorem iX1_add_22 : zLi mX1_add 22 2 23 := Or.inl ⟨2, by decide +kernel, rfl, rfl⟩
theorem iX1_add_23 : zIs mX1_add 23 (.ireturn) 1 24 := ⟨by decide +kernel, rfl⟩
theorem iX1_tell_0 : zLa mX1_tell 0 0 1 := Or.inl ⟨0, by decide +kernel, rfl, rfl⟩
theorem iX1_tell_1 : zIs mX1_tell 1 (.dup) 1 2 := ⟨by decide +kernel, rfl⟩
theorem iX1_tell_2 : zIs mX1_tell 2 (.getfield 22) 3 5 := ⟨by decide +kernel, rfl⟩
theorem iX1_tell_5 : zPi mX1_tell 5 1 6 := Or.inl ⟨1, by decide +kernel, by decide, rfl⟩
theorem iX1_tell_6 : zIs mX1_tell 6 (.iadd) 1 7 := ⟨by decide +kernel, rfl⟩
theorem iX1_tell_7 : zIs mX1_tell 7 (.putfield 22) 3 10 := ⟨by decide +kernel, rfl⟩
theorem iX1_tell_10 : zLa mX1_tell 10 0 11 := Or.inl ⟨0, by decide +kernel, rfl, rfl⟩
theorem iX1_tell_11 : zIs mX1_tell 11 (.getfield 15) 3 14 := ⟨by decide +kernel, rfl⟩
theorem iX1_tell_14 : zLi mX1_tell 14 1 15 := Or.inl ⟨1, by decide +kernel, rfl, rfl⟩
theorem iX1_tell_15 : zIs mX1_tell 15 (.dup2) 1 16 := ⟨by decide +kernel, rfl⟩
theorem iX1_tell_16 : zIs mX1_tell 16 (.iaload) 1 17 := ⟨by decide +kernel, rfl⟩
theorem iX1_tell_17 : zPi mX1_tell 17 1 18 := Or.inl ⟨1, by decide +kernel, by decide, rfl⟩
theorem iX1_tell_18 : zIs mX1_tell 18 (.iadd) 1 19 := ⟨by decide +kernel, rfl⟩
theorem iX1_tell_19 : zIs mX1_tell 19 (.iastore) 1 20 := ⟨by decide +kernel, rfl⟩
theorem iX1_tell_20 : zLa mX1_tell 20 0 21 := Or.inl ⟨0, by decide +kernel, rfl, rfl⟩
theorem iX1_tell_21 : zIs mX1_tell 21 (.getfield 15) 3 24 := ⟨by decide +kernel, rfl⟩
theorem iX1_tell_24 : zLi mX1_tell 24 1 25 := Or.inl ⟨1, by decide +kernel, rfl, rfl⟩
theorem iX1_tell_25 : zIs mX1_tell 25 (.iaload) 1 26 := ⟨by decide +kernel, rfl⟩
theorem iX1_tell_26 : zLa mX1_tell 26 0 27 := Or.inl ⟨0, by decide +kernel, rfl, rfl⟩
theorem iX1_tell_27 : zIs mX1_tell 27 (.getfield 9) 3 30 := ⟨by decide +kernel, rfl⟩
theorem iX1_tell_30 : zLi mX1_tell 30 1 31 := Or.inl ⟨1, by decide +kernel, rfl, rfl⟩
theorem iX1_tell_31 : zIs mX1_tell 31 (.iaload) 1 32 := ⟨by decide +kernel, rfl⟩
theorem iX1_tell_32 : zBr mX1_tell 32 (.if_icmp .ne) 39 35 := ⟨7, by decide +kernel, by decide, rfl⟩
theorem iX1_tell_35 : zPi mX1_tell 35 1 36 := Or.inl ⟨1, by decide +kernel, by decide, rfl⟩
theorem iX1_tell_36 : zBr mX1_tell 36 .goto 40 39 := ⟨4, by decide +kernel, by decide, rfl⟩
theorem iX1_tell_39 : zPi mX1_tell 39 0 40 := Or.inl ⟨0, by decide +kernel, by decide, rfl⟩
theorem iX1_tell_40 : zIs mX1_tell 40 (.ireturn) 1 41 := ⟨by decide +kernel, rfl⟩
end
section
theorem iX2_init_0 : zLa mX2_init 0 0 1 := Or.inl ⟨0, by decide +kernel, rfl, rfl⟩
theorem iX2_init_1 : zIs mX2_init 1 (.invokespecial 3) 3 4 := ⟨by decide +kernel, rfl⟩
theorem iX2_init_4 : zLa mX2_init 4 0 5 := Or.inl ⟨0, by decide +kernel, rfl, rfl⟩
theorem iX2_init_5 : zPi mX2_init 5 60 7 := Or.inr (Or.inl ⟨60, by decide +kernel, by decide, rfl⟩)
theorem iX2_init_7 : zIs mX2_init 7 (.newarray .int) 2 9 := ⟨by decide +kernel, rfl⟩
theorem iX2_init_9 : zIs mX2_init 9 (.putfield 9) 3 12 := ⟨by decide +kernel, rfl⟩
theorem iX2_init_12 : zLa mX2_init 12 0 13 := Or.inl ⟨0, by decide +kernel, rfl, rfl⟩
theorem iX2_init_13 : zPi mX2_init 13 60 15 := Or.inr (Or.inl ⟨60, by decide +kernel, by decide, rfl⟩)
theorem iX2_init_15 : zIs mX2_init 15 (.newarray .int) 2 17 := ⟨by decide +kernel, rfl⟩
theorem iX2_init_17 : zIs mX2_init 17 (.putfield 15) 3 20 := ⟨by decide +kernel, rfl⟩
theorem iX2_init_20 : zLa mX2_init 20 0 21 := Or.inl ⟨0, by decide +kernel, rfl, rfl⟩
theorem iX2_init_21 : zPi mX2_init 21 60 23 := Or.inr (Or.inl ⟨60, by decide +kernel, by decide, rfl⟩)
theorem iX2_init_23 : zIs mX2_init 23 (.newarray .int) 2 25 := ⟨by decide +kernel, rfl⟩
theorem iX2_init_25 : zIs mX2_init 25 (.putfield 18) 3 28 := ⟨by decide +kernel, rfl⟩
theorem iX2_init_28 : zLa mX2_init 28 0 29 := Or.inl ⟨0, by decide +kernel, rfl, rfl⟩
theorem iX2_init_29 : zPi mX2_init 29 5 30 := Or.inl ⟨5, by decide +kernel, by decide, rfl⟩
theorem iX2_init_30 : zIs mX2_init 30 (.newarray .int) 2 32 := ⟨by decide +kernel, rfl⟩
theorem iX2_init_32 : zIs mX2_init 32 (.putfield 21) 3 35 := ⟨by decide +kernel, rfl⟩
theorem iX2_init_35 : zLa mX2_init 35 0 36 := Or.inl ⟨0, by decide +kernel, rfl, rfl⟩
theorem iX2_init_36 : zLa mX2_init 36 1 37 := Or.inl ⟨1, by decide +kernel, rfl, rfl⟩
theorem iX2_init_37 : zIs mX2_init 37 (.putfield 24) 3 40 := ⟨by decide +kernel, rfl⟩
theorem iX2_init_40 : zLa mX2_init 40 0 41 := Or.inl ⟨0, by decide +kernel, rfl, rfl⟩
theorem iX2_init_41 : zLa mX2_init 41 2 42 := Or.inl ⟨2, by decide +kernel, rfl, rfl⟩
theorem iX2_init_42 : zIs mX2_init 42 (.putfield 28) 3 45 := ⟨by decide +kernel, rfl⟩
theorem iX2_init_45 : zIs mX2_init 45 (.return_) 1 46 := ⟨by decide +kernel, rfl⟩
theorem iX2_totalOf_0 : zLa mX2_totalOf 0 0 1 := Or.inl ⟨0, by decide +kernel, rfl, rfl⟩
theorem iX2_totalOf_1 : zIs mX2_totalOf 1 (.getfield 24) 3 4 := ⟨by decide +kernel, rfl⟩
theorem iX2_totalOf_4 : zIs mX2_totalOf 4 (.getfield 32) 3 7 := ⟨by decide +kernel, rfl⟩
theorem iX2_totalOf_7 : zLa mX2_totalOf 7 0 8 := Or.inl ⟨0, by decide +kernel, rfl, rfl⟩
theorem iX2_totalOf_8 : zIs mX2_totalOf 8 (.getfield 24) 3 11 := ⟨by decide +kernel, rfl⟩
theorem iX2_totalOf_11 : zIs mX2_totalOf 11 (.getfield 37) 3 14 := ⟨by decide +kernel, rfl⟩
theorem iX2_totalOf_14 : zLi mX2_totalOf 14 1 15 := Or.inl ⟨1, by decide +kernel, rfl, rfl⟩
theorem iX2_totalOf_15 : zIs mX2_totalOf 15 (.iaload) 1 16 := ⟨by decide +kernel, rfl⟩
theorem iX2_totalOf_16 : zIs mX2_totalOf 16 (.iaload) 1 17 := ⟨by decide +kernel, rfl⟩
theorem iX2_totalOf_17 : zSi mX2_totalOf 17 2 18 := ⟨Or.inl ⟨2, by decide +kernel, rfl, rfl⟩, by decide⟩
theorem iX2_totalOf_18 : zLa mX2_totalOf 18 0 19 := Or.inl ⟨0, by decide +kernel, rfl, rfl⟩
theorem iX2_totalOf_19 : zIs mX2_totalOf 19 (.getfield 28) 3 22 := ⟨by decide +kernel, rfl⟩
theorem iX2_totalOf_22 : zLi mX2_totalOf 22 1 23 := Or.inl ⟨1, by decide +kernel, rfl, rfl⟩
theorem iX2_totalOf_23 : zIs mX2_totalOf 23 (.invokevirtual 40) 3 26 := ⟨by decide +kernel, rfl⟩
theorem iX2_totalOf_26 : zSi mX2_totalOf 26 3 27 := ⟨Or.inl ⟨3, by decide +kernel, rfl, rfl⟩, by decide⟩
theorem iX2_totalOf_27 : zLa mX2_totalOf 27 0 28 := Or.inl ⟨0, by decide +kernel, rfl, rfl⟩
theorem iX2_totalOf_28 : zIs mX2_totalOf 28 (.getfield 24) 3 31 := ⟨by decide +kernel, rfl⟩
theorem iX2_totalOf_31 : zIs mX2_totalOf 31 (.getfield 46) 3 34 := ⟨by decide +kernel, rfl⟩
theorem iX2_totalOf_34 : zLa mX2_totalOf 34 0 35 := Or.inl ⟨0, by decide +kernel, rfl, rfl⟩
theorem iX2_totalOf_35 : zIs mX2_totalOf 35 (.getfield 24) 3 38 := ⟨by decide +kernel, rfl⟩
theorem iX2_totalOf_38 : zIs mX2_totalOf 38 (.getfield 37) 3 41 := ⟨by decide +kernel, rfl⟩
theorem iX2_totalOf_41 : zLi mX2_totalOf 41 1 42 := Or.inl ⟨1, by decide +kernel, rfl, rfl⟩
theorem iX2_totalOf_42 : zIs mX2_totalOf 42 (.iaload) 1 43 := ⟨by decide +kernel, rfl⟩
theorem iX2_totalOf_43 : zIs mX2_totalOf 43 (.iaload) 1 44 := ⟨by decide +kernel, rfl⟩
theorem iX2_totalOf_44 : zTs mX2_totalOf 44 1 [72, 81, 91] 123 := ⟨79, 3, #[28, 37, 47], 28, by decide +kernel, by decide, by decide, by decide +kernel⟩
theorem iX2_totalOf_72 : zLi mX2_totalOf 72 3 73 := Or.inl ⟨3, by decide +kernel, rfl, rfl⟩
theorem iX2_totalOf_73 : zLi mX2_totalOf 73 2 74 := Or.inl ⟨2, by decide +kernel, rfl, rfl⟩
theorem iX2_totalOf_74 : zIs mX2_totalOf 74 (.invokestatic 49) 3 77 := ⟨by decide +kernel, rfl⟩
theorem iX2_totalOf_77 : zSi mX2_totalOf 77 3 78 := ⟨Or.inl ⟨3, by decide +kernel, rfl, rfl⟩, by decide⟩
theorem iX2_totalOf_78 : zBr mX2_totalOf 78 .goto 123 81 := ⟨45, by decide +kernel, by decide, rfl⟩
theorem iX2_totalOf_81 : zLa mX2_totalOf 81 0 82 := Or.inl ⟨0, by decide +kernel, rfl, rfl⟩
theorem iX2_totalOf_82 : zLi mX2_totalOf 82 1 83 := Or.inl ⟨1, by decide +kernel, rfl, rfl⟩
theorem iX2_totalOf_83 : zLi mX2_totalOf 83 2 84 := Or.inl ⟨2, by decide +kernel, rfl, rfl⟩
theorem iX2_totalOf_84 : zIs mX2_totalOf 84 (.invokevirtual 53) 3 87 := ⟨by decide +kernel, rfl⟩
theorem iX2_totalOf_87 : zSi mX2_totalOf 87 3 88 := ⟨Or.inl ⟨3, by decide +kernel, rfl, rfl⟩, by decide⟩
theorem iX2_totalOf_88 : zBr mX2_totalOf 88 .goto 123 91 := ⟨35, by decide +kernel, by decide, rfl⟩
theorem iX2_totalOf_91 : zLi mX2_totalOf 91 3 92 := Or.inl ⟨3, by decide +kernel, rfl, rfl⟩
theorem iX2_totalOf_92 : zLi mX2_totalOf 92 2 93 := Or.inl ⟨2, by decide +kernel, rfl, rfl⟩
theorem iX2_totalOf_93 : zPi mX2_totalOf 93 3 94 := Or.inl ⟨3, by decide +kernel, by decide, rfl⟩
theorem iX2_totalOf_94 : zBr mX2_totalOf 94 (.if_icmp .ge) 101 97 := ⟨7, by decide +kernel, by decide, rfl⟩
theorem iX2_totalOf_97 : zPi mX2_totalOf 97 0 98 := Or.inl ⟨0, by decide +kernel, by decide, rfl⟩
theorem iX2_totalOf_98 : zBr mX2_totalOf 98 .goto 118 101 := ⟨20, by decide +kernel, by decide, rfl⟩
theorem iX2_totalOf_101 : zLa mX2_totalOf 101 0 102 := Or.inl ⟨0, by decide +kernel, rfl, rfl⟩
theorem iX2_totalOf_102 : zIs mX2_totalOf 102 (.getfield 28) 3 105 := ⟨by decide +kernel, rfl⟩
theorem iX2_totalOf_105 : zLi mX2_totalOf 105 1 106 := Or.inl ⟨1, by decide +kernel, rfl, rfl⟩
theorem iX2_totalOf_106 : zIs mX2_totalOf 106 (.invokevirtual 56) 3 109 := ⟨by decide +kernel, rfl⟩
theorem iX2_totalOf_109 : zLa mX2_totalOf 109 0 110 := Or.inl ⟨0, by decide +kernel, rfl, rfl⟩
theorem iX2_totalOf_110 : zIs mX2_totalOf 110 (.getfield 28) 3 113 := ⟨by decide +kernel, rfl⟩
theorem iX2_totalOf_113 : zLi mX2_totalOf 113 1 114 := Or.inl ⟨1, by decide +kernel, rfl, rfl⟩
theorem iX2_totalOf_114 : zIs mX2_totalOf 114 (.invokevirtual 59) 3 117 := ⟨by decide +kernel, rfl⟩
theorem iX2_totalOf_117 : zIs mX2_totalOf 117 (.iadd) 1 118 := ⟨by decide +kernel, rfl⟩
theorem iX2_totalOf_118 : zIs mX2_totalOf 118 (.isub) 1 119 := ⟨by decide +kernel, rfl⟩
theorem iX2_totalOf_119 : zSi mX2_totalOf 119 3 120 := ⟨Or.inl ⟨3, by decide +kernel, rfl, rfl⟩, by decide⟩
theorem iX2_totalOf_120 : zBr mX2_totalOf 120 .goto 123 123 := ⟨3, by decide +kernel, by decide, rfl⟩
theorem iX2_totalOf_123 : zPi mX2_totalOf 123 0 124 := Or.inl ⟨0, by decide +kernel, by decide, rfl⟩
theorem iX2_totalOf_124 : zLi mX2_totalOf 124 3 125 := Or.inl ⟨3, by decide +kernel, rfl, rfl⟩
theorem iX2_totalOf_125 : zLa mX2_totalOf 125 0 126 := Or.inl ⟨0, by decide +kernel, rfl, rfl⟩
theorem iX2_totalOf_126 : zIs mX2_totalOf 126 (.getfield 28) 3 129 := ⟨by decide +kernel, rfl⟩
theorem iX2_totalOf_129 : zIs mX2_totalOf 129 (.getfield 62) 3 132 := ⟨by decide +kernel, rfl⟩
theorem iX2_totalOf_132 : zLi mX2_totalOf 132 1 133 := Or.inl ⟨1, by decide +kernel, rfl, rfl⟩
theorem iX2_totalOf_133 : zIs mX2_totalOf 133 (.iaload) 1 134 := ⟨by decide +kernel, rfl⟩
theorem iX2_totalOf_134 : zIs mX2_totalOf 134 (.isub) 1 135 := ⟨by decide +kernel, rfl⟩
theorem iX2_totalOf_135 : zIs mX2_totalOf 135 (.invokestatic 65) 3 138 := ⟨by decide +kernel, rfl⟩
theorem iX2_totalOf_138 : zIs mX2_totalOf 138 (.ireturn) 1 139 := ⟨by decide +kernel, rfl⟩
theorem iX2_middle_0 : zLa mX2_middle 0 0 1 := Or.inl ⟨0, by decide +kernel, rfl, rfl⟩
theorem iX2_middle_1 : zLi mX2_middle 1 1 2 := Or.inl ⟨1, by decide +kernel, rfl, rfl⟩
theorem iX2_middle_2 : zLi mX2_middle 2 2 3 := Or.inl ⟨2, by decide +kernel, rfl, rfl⟩
theorem iX2_middle_3 : zIs mX2_middle 3 (.invokevirtual 70) 3 6 := ⟨by decide +kernel, rfl⟩
theorem iX2_middle_6 : zLi mX2_middle 6 2 7 := Or.inl ⟨2, by decide +kernel, rfl, rfl⟩
theorem iX2_middle_7 : zPi mX2_middle 7 2 8 := Or.inl ⟨2, by decide +kernel, by decide, rfl⟩
theorem iX2_middle_8 : zIs mX2_middle 8 (.idiv) 1 9 := ⟨by decide +kernel, rfl⟩
theorem iX2_middle_9 : zSi mX2_middle 9 3 10 := ⟨Or.inl ⟨3, by decide +kernel, rfl, rfl⟩, by decide⟩
theorem iX2_middle_10 : zLi mX2_middle 10 2 11 := Or.inl ⟨2, by decide +kernel, rfl, rfl⟩
theorem iX2_middle_11 : zPi mX2_middle 11 2 12 := Or.inl ⟨2, by decide +kernel, by decide, rfl⟩
theorem iX2_middle_12 : zIs mX2_middle 12 (.irem) 1 13 := ⟨by decide +kernel, rfl⟩
theorem iX2_middle_13 : zPi mX2_middle 13 1 14 := Or.inl ⟨1, by decide +kernel, by decide, rfl⟩
theorem iX2_middle_14 : zBr mX2_middle 14 (.if_icmp .ne) 26 17 := ⟨12, by decide +kernel, by decide, rfl⟩
theorem iX2_middle_17 : zLa mX2_middle 17 0 18 := Or.inl ⟨0, by decide +kernel, rfl, rfl⟩
theorem iX2_middle_18 : zIs mX2_middle 18 (.getfield 21) 3 21 := ⟨by decide +kernel, rfl⟩
theorem iX2_middle_21 : zLi mX2_middle 21 3 22 := Or.inl ⟨3, by decide +kernel, rfl, rfl⟩
theorem iX2_middle_22 : zIs mX2_middle 22 (.iaload) 1 23 := ⟨by decide +kernel, rfl⟩
theorem iX2_middle_23 : zBr mX2_middle 23 .goto 45 26 := ⟨22, by decide +kernel, by decide, rfl⟩
theorem iX2_middle_26 : zLa mX2_middle 26 0 27 := Or.inl ⟨0, by decide +kernel, rfl, rfl⟩
theorem iX2_middle_27 : zIs mX2_middle 27 (.getfield 21) 3 30 := ⟨by decide +kernel, rfl⟩
theorem iX2_middle_30 : zLi mX2_middle 30 3 31 := Or.inl ⟨3, by decide +kernel, rfl, rfl⟩
theorem iX2_middle_31 : zPi mX2_middle 31 1 32 := Or.inl ⟨1, by decide +kernel, by decide, rfl⟩
theorem iX2_middle_32 : zIs mX2_middle 32 (.isub) 1 33 := ⟨by decide +kernel, rfl⟩
theorem iX2_middle_33 : zIs mX2_middle 33 (.iaload) 1 34 := ⟨by decide +kernel, rfl⟩
theorem iX2_middle_34 : zLa mX2_middle 34 0 35 := Or.inl ⟨0, by decide +kernel, rfl, rfl⟩
theorem iX2_middle_35 : zIs mX2_middle 35 (.getfield 21) 3 38 := ⟨by decide +kernel, rfl⟩
theorem iX2_middle_38 : zLi mX2_middle 38 3 39 := Or.inl ⟨3, by decide +kernel, rfl, rfl⟩
theorem iX2_middle_39 : zIs mX2_middle 39 (.iaload) 1 40 := ⟨by decide +kernel, rfl⟩
theorem iX2_middle_40 : zIs mX2_middle 40 (.iadd) 1 41 := ⟨by decide +kernel, rfl⟩
theorem iX2_middle_41 : zPi mX2_middle 41 2 42 := Or.inl ⟨2, by decide +kernel, by decide, rfl⟩
theorem iX2_middle_42 : zIs mX2_middle 42 (.invokestatic 49) 3 45 := ⟨by decide +kernel, rfl⟩
theorem iX2_middle_45 : zIs mX2_middle 45 (.ireturn) 1 46 := ⟨by decide +kernel, rfl⟩
theorem iX2_sortMarks_0 : zPi mX2_sortMarks 0 0 1 := Or.inl ⟨0, by decide +kernel, by decide, rfl⟩
theorem iX2_sortMarks_1 : zSi mX2_sortMarks 1 3 2 := ⟨Or.inl ⟨3, by decide +kernel, rfl, rfl⟩, by decide⟩
theorem iX2_sortMarks_2 : zLi mX2_sortMarks 2 3 3 := Or.inl ⟨3, by decide +kernel, rfl, rfl⟩
theorem iX2_sortMarks_3 : zLi mX2_sortMarks 3 2 4 := Or.inl ⟨2, by decide +kernel, rfl, rfl⟩
theorem iX2_sortMarks_4 : zBr mX2_sortMarks 4 (.if_icmp .ge) 77 7 := ⟨73, by decide +kernel, by decide, rfl⟩
theorem iX2_sortMarks_7 : zLa mX2_sortMarks 7 0 8 := Or.inl ⟨0, by decide +kernel, rfl, rfl⟩
theorem iX2_sortMarks_8 : zIs mX2_sortMarks 8 (.getfield 28) 3 11 := ⟨by decide +kernel, rfl⟩
theorem iX2_sortMarks_11 : zLi mX2_sortMarks 11 1 12 := Or.inl ⟨1, by decide +kernel, rfl, rfl⟩
theorem iX2_sortMarks_12 : zLi mX2_sortMarks 12 3 13 := Or.inl ⟨3, by decide +kernel, rfl, rfl⟩
theorem iX2_sortMarks_13 : zIs mX2_sortMarks 13 (.invokevirtual 74) 3 16 := ⟨by decide +kernel, rfl⟩
theorem iX2_sortMarks_16 : zSi mX2_sortMarks 16 4 18 := ⟨Or.inr ⟨by decide +kernel, rfl⟩, by decide⟩
theorem iX2_sortMarks_18 : zLi mX2_sortMarks 18 3 19 := Or.inl ⟨3, by decide +kernel, rfl, rfl⟩
theorem iX2_sortMarks_19 : zSi mX2_sortMarks 19 5 21 := ⟨Or.inr ⟨by decide +kernel, rfl⟩, by decide⟩
theorem iX2_sortMarks_21 : zLi mX2_sortMarks 21 5 23 := Or.inr ⟨by decide +kernel, rfl⟩
theorem iX2_sortMarks_23 : zBr mX2_sortMarks 23 (.ifCond .le) 62 26 := ⟨39, by decide +kernel, by decide, rfl⟩
theorem iX2_sortMarks_26 : zLa mX2_sortMarks 26 0 27 := Or.inl ⟨0, by decide +kernel, rfl, rfl⟩
theorem iX2_sortMarks_27 : zIs mX2_sortMarks 27 (.getfield 21) 3 30 := ⟨by decide +kernel, rfl⟩
theorem iX2_sortMarks_30 : zLi mX2_sortMarks 30 5 32 := Or.inr ⟨by decide +kernel, rfl⟩
theorem iX2_sortMarks_32 : zPi mX2_sortMarks 32 1 33 := Or.inl ⟨1, by decide +kernel, by decide, rfl⟩
theorem iX2_sortMarks_33 : zIs mX2_sortMarks 33 (.isub) 1 34 := ⟨by decide +kernel, rfl⟩
theorem iX2_sortMarks_34 : zIs mX2_sortMarks 34 (.iaload) 1 35 := ⟨by decide +kernel, rfl⟩
theorem iX2_sortMarks_35 : zLi mX2_sortMarks 35 4 37 := Or.inr ⟨by decide +kernel, rfl⟩
theorem iX2_sortMarks_37 : zBr mX2_sortMarks 37 (.if_icmp .le) 62 40 := ⟨25, by decide +kernel, by decide, rfl⟩
theorem iX2_sortMarks_40 : zLa mX2_sortMarks 40 0 41 := Or.inl ⟨0, by decide +kernel, rfl, rfl⟩
theorem iX2_sortMarks_41 : zIs mX2_sortMarks 41 (.getfield 21) 3 44 := ⟨by decide +kernel, rfl⟩
theorem iX2_sortMarks_44 : zLi mX2_sortMarks 44 5 46 := Or.inr ⟨by decide +kernel, rfl⟩
theorem iX2_sortMarks_46 : zLa mX2_sortMarks 46 0 47 := Or.inl ⟨0, by decide +kernel, rfl, rfl⟩
theorem iX2_sortMarks_47 : zIs mX2_sortMarks 47 (.getfield 21) 3 50 := ⟨by decide +kernel, rfl⟩
theorem iX2_sortMarks_50 : zLi mX2_sortMarks 50 5 52 := Or.inr ⟨by decide +kernel, rfl⟩
theorem iX2_sortMarks_52 : zPi mX2_sortMarks 52 1 53 := Or.inl ⟨1, by decide +kernel, by decide, rfl⟩
theorem iX2_sortMarks_53 : zIs mX2_sortMarks 53 (.isub) 1 54 := ⟨by decide +kernel, rfl⟩
theorem iX2_sortMarks_54 : zIs mX2_sortMarks 54 (.iaload) 1 55 := ⟨by decide +kernel, rfl⟩
theorem iX2_sortMarks_55 : zIs mX2_sortMarks 55 (.iastore) 1 56 := ⟨by decide +kernel, rfl⟩
theorem iX2_sortMarks_56 : zIs mX2_sortMarks 56 (.iinc 5 (-1)) 3 59 := ⟨by decide +kernel, rfl⟩
theorem iX2_sortMarks_59 : zBr mX2_sortMarks 59 .goto 21 62 := ⟨(-38), by decide +kernel, by decide, rfl⟩
theorem iX2_sortMarks_62 : zLa mX2_sortMarks 62 0 63 := Or.inl ⟨0, by decide +kernel, rfl, rfl⟩
theorem iX2_sortMarks_63 : zIs mX2_sortMarks 63 (.getfield 21) 3 66 := ⟨by decide +kernel, rfl⟩
theorem iX2_sortMarks_66 : zLi mX2_sortMarks 66 5 68 := Or.inr ⟨by decide +kernel, rfl⟩
theorem iX2_sortMarks_68 : zLi mX2_sortMarks 68 4 70 := Or.inr ⟨by decide +kernel, rfl⟩
theorem iX2_sortMarks_70 : zIs mX2_sortMarks 70 (.iastore) 1 71 := ⟨by decide +kernel, rfl⟩
theorem iX2_sortMarks_71 : zIs mX2_sortMarks 71 (.iinc 3 1) 3 74 := ⟨by decide +kernel, rfl⟩
theorem iX2_sortMarks_74 : zBr mX2_sortMarks 74 .goto 2 77 := ⟨(-72), by decide +kernel, by decide, rfl⟩
theorem iX2_sortMarks_77 : zIs mX2_sortMarks 77 (.return_) 1 78 := ⟨by decide +kernel, rfl⟩
theorem iX2_nearest_0 : zLi mX2_nearest 0 1 1 := Or.inl ⟨1, by decide +kernel, rfl, rfl⟩
theorem iX2_nearest_1 : zPi mX2_nearest 1 1 2 := Or.inl ⟨1, by decide +kernel, by decide, rfl⟩
theorem iX2_nearest_2 : zBr mX2_nearest 2 (.if_icmp .ge) 7 5 := ⟨5, by decide +kernel, by decide, rfl⟩
theorem iX2_nearest_5 : zLi mX2_nearest 5 0 6 := Or.inl ⟨0, by decide +kernel, rfl, rfl⟩
theorem iX2_nearest_6 : zIs mX2_nearest 6 (.ireturn) 1 7 := ⟨by decide +kernel, rfl⟩
theorem iX2_nearest_7 : zLi mX2_nearest 7 0 8 := Or.inl ⟨0, by decide +kernel, rfl, rfl⟩
theorem iX2_nearest_8 : zLi mX2_nearest 8 1 9 := Or.inl ⟨1, by decide +kernel, rfl, rfl⟩
theorem iX2_nearest_9 : zIs mX2_nearest 9 (.invokestatic 77) 3 12 := ⟨by decide +kernel, rfl⟩
theorem iX2_nearest_12 : zSi mX2_nearest 12 2 13 := ⟨Or.inl ⟨2, by decide +kernel, rfl, rfl⟩, by decide⟩
theorem iX2_nearest_13 : zPi mX2_nearest 13 2 14 := Or.inl ⟨2, by decide +kernel, by decide, rfl⟩
theorem iX2_nearest_14 : zLi mX2_nearest 14 0 15 := Or.inl ⟨0, by decide +kernel, rfl, rfl⟩
theorem iX2_nearest_15 : zLi mX2_nearest 15 1 16 := Or.inl ⟨1, by decide +kernel, rfl, rfl⟩
theorem iX2_nearest_16 : zIs mX2_nearest 16 (.invokestatic 80) 3 19 := ⟨by decide +kernel, rfl⟩
theorem iX2_nearest_19 : zIs mX2_nearest 19 (.imul) 1 20 := ⟨by decide +kernel, rfl⟩
theorem iX2_nearest_20 : zSi mX2_nearest 20 3 21 := ⟨Or.inl ⟨3, by decide +kernel, rfl, rfl⟩, by decide⟩
theorem iX2_nearest_21 : zLi mX2_nearest 21 3 22 := Or.inl ⟨3, by decide +kernel, rfl, rfl⟩
theorem iX2_nearest_22 : zLi mX2_nearest 22 1 23 := Or.inl ⟨1, by decide +kernel, rfl, rfl⟩
theorem iX2_nearest_23 : zBr mX2_nearest 23 (.if_icmp .gt) 37 26 := ⟨14, by decide +kernel, by decide, rfl⟩
theorem iX2_nearest_26 : zLi mX2_nearest 26 3 27 := Or.inl ⟨3, by decide +kernel, rfl, rfl⟩
theorem iX2_nearest_27 : zLi mX2_nearest 27 1 28 := Or.inl ⟨1, by decide +kernel, rfl, rfl⟩
theorem iX2_nearest_28 : zBr mX2_nearest 28 (.if_icmp .ne) 41 31 := ⟨13, by decide +kernel, by decide, rfl⟩
theorem iX2_nearest_31 : zLi mX2_nearest 31 2 32 := Or.inl ⟨2, by decide +kernel, rfl, rfl⟩
theorem iX2_nearest_32 : zPi mX2_nearest 32 2 33 := Or.inl ⟨2, by decide +kernel, by decide, rfl⟩
theorem iX2_nearest_33 : zIs mX2_nearest 33 (.irem) 1 34 := ⟨by decide +kernel, rfl⟩
theorem iX2_nearest_34 : zBr mX2_nearest 34 (.ifCond .eq) 41 37 := ⟨7, by decide +kernel, by decide, rfl⟩
theorem iX2_nearest_37 : zPi mX2_nearest 37 1 38 := Or.inl ⟨1, by decide +kernel, by decide, rfl⟩
theorem iX2_nearest_38 : zBr mX2_nearest 38 .goto 42 41 := ⟨4, by decide +kernel, by decide, rfl⟩
theorem iX2_nearest_41 : zPi mX2_nearest 41 0 42 := Or.inl ⟨0, by decide +kernel, by decide, rfl⟩
theorem iX2_nearest_42 : zSi mX2_nearest 42 4 44 := ⟨Or.inr ⟨by decide +kernel, rfl⟩, by decide⟩
theorem iX2_nearest_44 : zLi mX2_nearest 44 4 46 := Or.inr ⟨by decide +kernel, rfl⟩
theorem iX2_nearest_46 : zBr mX2_nearest 46 (.ifCond .eq) 55 49 := ⟨9, by decide +kernel, by decide, rfl⟩
theorem iX2_nearest_49 : zLi mX2_nearest 49 2 50 := Or.inl ⟨2, by decide +kernel, rfl, rfl⟩
theorem iX2_nearest_50 : zPi mX2_nearest 50 1 51 := Or.inl ⟨1, by decide +kernel, by decide, rfl⟩
theorem iX2_nearest_51 : zIs mX2_nearest 51 (.iadd) 1 52 := ⟨by decide +kernel, rfl⟩
theorem iX2_nearest_52 : zBr mX2_nearest 52 .goto 56 55 := ⟨4, by decide +kernel, by decide, rfl⟩
theorem iX2_nearest_55 : zLi mX2_nearest 55 2 56 := Or.inl ⟨2, by decide +kernel, rfl, rfl⟩
theorem iX2_nearest_56 : zIs mX2_nearest 56 (.ireturn) 1 57 := ⟨by decide +kernel, rfl⟩
theorem iX2_rankOf_0 : zLa mX2_rankOf 0 0 1 := Or.inl ⟨0, by decide +kernel, rfl, rfl⟩
theorem iX2_rankOf_1 : zLa mX2_rankOf 1 0 2 := Or.inl ⟨0, by decide +kernel, rfl, rfl⟩
theorem iX2_rankOf_2 : zIs mX2_rankOf 2 (.getfield 24) 3 5 := ⟨by decide +kernel, rfl⟩
theorem iX2_rankOf_5 : zIs mX2_rankOf 5 (.getfield 37) 3 8 := ⟨by decide +kernel, rfl⟩
theorem iX2_rankOf_8 : zLi mX2_rankOf 8 1 9 := Or.inl ⟨1, by decide +kernel, rfl, rfl⟩
theorem iX2_rankOf_9 : zIs mX2_rankOf 9 (.iaload) 1 10 := ⟨by decide +kernel, rfl⟩
theorem iX2_rankOf_10 : zIs mX2_rankOf 10 (.invokevirtual 83) 3 13 := ⟨by decide +kernel, rfl⟩
theorem iX2_rankOf_13 : zLa mX2_rankOf 13 0 14 := Or.inl ⟨0, by decide +kernel, rfl, rfl⟩
theorem iX2_rankOf_14 : zIs mX2_rankOf 14 (.getfield 18) 3 17 := ⟨by decide +kernel, rfl⟩
theorem iX2_rankOf_17 : zLi mX2_rankOf 17 1 18 := Or.inl ⟨1, by decide +kernel, rfl, rfl⟩
theorem iX2_rankOf_18 : zIs mX2_rankOf 18 (.iaload) 1 19 := ⟨by decide +kernel, rfl⟩
theorem iX2_rankOf_19 : zIs mX2_rankOf 19 (.ireturn) 1 20 := ⟨by decide +kernel, rfl⟩
theorem iX2_sharersOf_0 : zLa mX2_sharersOf 0 0 1 := Or.inl ⟨0, by decide +kernel, rfl, rfl⟩
theorem iX2_sharersOf_1 : zLa mX2_sharersOf 1 0 2 := Or.inl ⟨0, by decide +kernel, rfl, rfl⟩
theorem iX2_sharersOf_2 : zIs mX2_sharersOf 2 (.getfield 24) 3 5 := ⟨by decide +kernel, rfl⟩
theorem iX2_sharersOf_5 : zIs mX2_sharersOf 5 (.getfield 37) 3 8 := ⟨by decide +kernel, rfl⟩
theorem iX2_sharersOf_8 : zLi mX2_sharersOf 8 1 9 := Or.inl ⟨1, by decide +kernel, rfl, rfl⟩
theorem iX2_sharersOf_9 : zIs mX2_sharersOf 9 (.iaload) 1 10 := ⟨by decide +kernel, rfl⟩
theorem iX2_sharersOf_10 : zIs mX2_sharersOf 10 (.invokevirtual 83) 3 13 := ⟨by decide +kernel, rfl⟩
theorem iX2_sharersOf_13 : zLa mX2_sharersOf 13 0 14 := Or.inl ⟨0, by decide +kernel, rfl, rfl⟩
theorem iX2_sharersOf_14 : zLi mX2_sharersOf 14 1 15 := Or.inl ⟨1, by decide +kernel, rfl, rfl⟩
theorem iX2_sharersOf_15 : zIs mX2_sharersOf 15 (.invokevirtual 87) 3 18 := ⟨by decide +kernel, rfl⟩
theorem iX2_sharersOf_18 : zIs mX2_sharersOf 18 (.ireturn) 1 19 := ⟨by decide +kernel, rfl⟩
theorem iX2_prizeOf_0 : zLa mX2_prizeOf 0 0 1 := Or.inl ⟨0, by decide +kernel, rfl, rfl⟩
theorem iX2_prizeOf_1 : zLa mX2_prizeOf 1 0 2 := Or.inl ⟨0, by decide +kernel, rfl, rfl⟩
theorem iX2_prizeOf_2 : zIs mX2_prizeOf 2 (.getfield 24) 3 5 := ⟨by decide +kernel, rfl⟩
theorem iX2_prizeOf_5 : zIs mX2_prizeOf 5 (.getfield 37) 3 8 := ⟨by decide +kernel, rfl⟩
theorem iX2_prizeOf_8 : zLi mX2_prizeOf 8 1 9 := Or.inl ⟨1, by decide +kernel, rfl, rfl⟩
theorem iX2_prizeOf_9 : zIs mX2_prizeOf 9 (.iaload) 1 10 := ⟨by decide +kernel, rfl⟩
theorem iX2_prizeOf_10 : zIs mX2_prizeOf 10 (.invokevirtual 83) 3 13 := ⟨by decide +kernel, rfl⟩
theorem iX2_prizeOf_13 : zLa mX2_prizeOf 13 0 14 := Or.inl ⟨0, by decide +kernel, rfl, rfl⟩
theorem iX2_prizeOf_14 : zLi mX2_prizeOf 14 1 15 := Or.inl ⟨1, by decide +kernel, rfl, rfl⟩
theorem iX2_prizeOf_15 : zIs mX2_prizeOf 15 (.invokevirtual 90) 3 18 := ⟨by decide +kernel, rfl⟩
theorem iX2_prizeOf_18 : zIs mX2_prizeOf 18 (.ireturn) 1 19 := ⟨by decide +kernel, rfl⟩
theorem iX2_prizesLeft_0 : zLa mX2_prizesLeft 0 0 1 := Or.inl ⟨0, by decide +kernel, rfl, rfl⟩
theorem iX2_prizesLeft_1 : zLi mX2_prizesLeft 1 1 2 := Or.inl ⟨1, by decide +kernel, rfl, rfl⟩
theorem iX2_prizesLeft_2 : zIs mX2_prizesLeft 2 (.invokevirtual 83) 3 5 := ⟨by decide +kernel, rfl⟩
theorem iX2_prizesLeft_5 : zLa mX2_prizesLeft 5 0 6 := Or.inl ⟨0, by decide +kernel, rfl, rfl⟩
theorem iX2_prizesLeft_6 : zLi mX2_prizesLeft 6 1 7 := Or.inl ⟨1, by decide +kernel, rfl, rfl⟩
theorem iX2_prizesLeft_7 : zPi mX2_prizesLeft 7 1 8 := Or.inl ⟨1, by decide +kernel, by decide, rfl⟩
theorem iX2_prizesLeft_8 : zPi mX2_prizesLeft 8 3 9 := Or.inl ⟨3, by decide +kernel, by decide, rfl⟩
theorem iX2_prizesLeft_9 : zIs mX2_prizesLeft 9 (.invokevirtual 93) 3 12 := ⟨by decide +kernel, rfl⟩
theorem iX2_prizesLeft_12 : zSi mX2_prizesLeft 12 2 13 := ⟨Or.inl ⟨2, by decide +kernel, rfl, rfl⟩, by decide⟩
theorem iX2_prizesLeft_13 : zPi mX2_prizesLeft 13 0 14 := Or.inl ⟨0, by decide +kernel, by decide, rfl⟩
theorem iX2_prizesLeft_14 : zSi mX2_prizesLeft 14 3 15 := ⟨Or.inl ⟨3, by decide +kernel, rfl, rfl⟩, by decide⟩
theorem iX2_prizesLeft_15 : zLi mX2_prizesLeft 15 3 16 := Or.inl ⟨3, by decide +kernel, rfl, rfl⟩
theorem iX2_prizesLeft_16 : zLa mX2_prizesLeft 16 0 17 := Or.inl ⟨0, by decide +kernel, rfl, rfl⟩
theorem iX2_prizesLeft_17 : zIs mX2_prizesLeft 17 (.getfield 24) 3 20 := ⟨by decide +kernel, rfl⟩
theorem iX2_prizesLeft_20 : zIs mX2_prizesLeft 20 (.getfield 97) 3 23 := ⟨by decide +kernel, rfl⟩
theorem iX2_prizesLeft_23 : zBr mX2_prizesLeft 23 (.if_icmp .ge) 53 26 := ⟨30, by decide +kernel, by decide, rfl⟩
theorem iX2_prizesLeft_26 : zLa mX2_prizesLeft 26 0 27 := Or.inl ⟨0, by decide +kernel, rfl, rfl⟩
theorem iX2_prizesLeft_27 : zIs mX2_prizesLeft 27 (.getfield 24) 3 30 := ⟨by decide +kernel, rfl⟩
theorem iX2_prizesLeft_30 : zIs mX2_prizesLeft 30 (.getfield 37) 3 33 := ⟨by decide +kernel, rfl⟩
theorem iX2_prizesLeft_33 : zLi mX2_prizesLeft 33 3 34 := Or.inl ⟨3, by decide +kernel, rfl, rfl⟩
theorem iX2_prizesLeft_34 : zIs mX2_prizesLeft 34 (.iaload) 1 35 := ⟨by decide +kernel, rfl⟩
theorem iX2_prizesLeft_35 : zLi mX2_prizesLeft 35 1 36 := Or.inl ⟨1, by decide +kernel, rfl, rfl⟩
theorem iX2_prizesLeft_36 : zBr mX2_prizesLeft 36 (.if_icmp .ne) 47 39 := ⟨11, by decide +kernel, by decide, rfl⟩
theorem iX2_prizesLeft_39 : zLi mX2_prizesLeft 39 2 40 := Or.inl ⟨2, by decide +kernel, rfl, rfl⟩
theorem iX2_prizesLeft_40 : zLa mX2_prizesLeft 40 0 41 := Or.inl ⟨0, by decide +kernel, rfl, rfl⟩
theorem iX2_prizesLeft_41 : zLi mX2_prizesLeft 41 3 42 := Or.inl ⟨3, by decide +kernel, rfl, rfl⟩
theorem iX2_prizesLeft_42 : zIs mX2_prizesLeft 42 (.invokevirtual 90) 3 45 := ⟨by decide +kernel, rfl⟩
theorem iX2_prizesLeft_45 : zIs mX2_prizesLeft 45 (.isub) 1 46 := ⟨by decide +kernel, rfl⟩
theorem iX2_prizesLeft_46 : zSi mX2_prizesLeft 46 2 47 := ⟨Or.inl ⟨2, by decide +kernel, rfl, rfl⟩, by decide⟩
theorem iX2_prizesLeft_47 : zIs mX2_prizesLeft 47 (.iinc 3 1) 3 50 := ⟨by decide +kernel, rfl⟩
theorem iX2_prizesLeft_50 : zBr mX2_prizesLeft 50 .goto 15 53 := ⟨(-35), by decide +kernel, by decide, rfl⟩
theorem iX2_prizesLeft_53 : zLi mX2_prizesLeft 53 2 54 := Or.inl ⟨2, by decide +kernel, rfl, rfl⟩
theorem iX2_prizesLeft_54 : zIs mX2_prizesLeft 54 (.ireturn) 1 55 := ⟨by decide +kernel, rfl⟩
theorem iX2_entryAt_0 : zLa mX2_entryAt 0 0 1 := Or.inl ⟨0, by decide +kernel, rfl, rfl⟩
theorem iX2_entryAt_1 : zLi mX2_entryAt 1 1 2 := Or.inl ⟨1, by decide +kernel, rfl, rfl⟩
theorem iX2_entryAt_2 : zIs mX2_entryAt 2 (.invokevirtual 83) 3 5 := ⟨by decide +kernel, rfl⟩
theorem iX2_entryAt_5 : zPi mX2_entryAt 5 0 6 := Or.inl ⟨0, by decide +kernel, by decide, rfl⟩
theorem iX2_entryAt_6 : zSi mX2_entryAt 6 3 7 := ⟨Or.inl ⟨3, by decide +kernel, rfl, rfl⟩, by decide⟩
theorem iX2_entryAt_7 : zLi mX2_entryAt 7 3 8 := Or.inl ⟨3, by decide +kernel, rfl, rfl⟩
theorem iX2_entryAt_8 : zLa mX2_entryAt 8 0 9 := Or.inl ⟨0, by decide +kernel, rfl, rfl⟩
theorem iX2_entryAt_9 : zIs mX2_entryAt 9 (.getfield 24) 3 12 := ⟨by decide +kernel, rfl⟩
theorem iX2_entryAt_12 : zIs mX2_entryAt 12 (.getfield 97) 3 15 := ⟨by decide +kernel, rfl⟩
theorem iX2_entryAt_15 : zBr mX2_entryAt 15 (.if_icmp .ge) 48 18 := ⟨33, by decide +kernel, by decide, rfl⟩
theorem iX2_entryAt_18 : zLa mX2_entryAt 18 0 19 := Or.inl ⟨0, by decide +kernel, rfl, rfl⟩
theorem iX2_entryAt_19 : zIs mX2_entryAt 19 (.getfield 24) 3 22 := ⟨by decide +kernel, rfl⟩
theorem iX2_entryAt_22 : zIs mX2_entryAt 22 (.getfield 37) 3 25 := ⟨by decide +kernel, rfl⟩
theorem iX2_entryAt_25 : zLi mX2_entryAt 25 3 26 := Or.inl ⟨3, by decide +kernel, rfl, rfl⟩
theorem iX2_entryAt_26 : zIs mX2_entryAt 26 (.iaload) 1 27 := ⟨by decide +kernel, rfl⟩
theorem iX2_entryAt_27 : zLi mX2_entryAt 27 1 28 := Or.inl ⟨1, by decide +kernel, rfl, rfl⟩
theorem iX2_entryAt_28 : zBr mX2_entryAt 28 (.if_icmp .ne) 42 31 := ⟨14, by decide +kernel, by decide, rfl⟩
theorem iX2_entryAt_31 : zLa mX2_entryAt 31 0 32 := Or.inl ⟨0, by decide +kernel, rfl, rfl⟩
theorem iX2_entryAt_32 : zLi mX2_entryAt 32 3 33 := Or.inl ⟨3, by decide +kernel, rfl, rfl⟩
theorem iX2_entryAt_33 : zIs mX2_entryAt 33 (.invokevirtual 101) 3 36 := ⟨by decide +kernel, rfl⟩
theorem iX2_entryAt_36 : zLi mX2_entryAt 36 2 37 := Or.inl ⟨2, by decide +kernel, rfl, rfl⟩
theorem iX2_entryAt_37 : zBr mX2_entryAt 37 (.if_icmp .ne) 42 40 := ⟨5, by decide +kernel, by decide, rfl⟩
theorem iX2_entryAt_40 : zLi mX2_entryAt 40 3 41 := Or.inl ⟨3, by decide +kernel, rfl, rfl⟩
theorem iX2_entryAt_41 : zIs mX2_entryAt 41 (.ireturn) 1 42 := ⟨by decide +kernel, rfl⟩
theorem iX2_entryAt_42 : zIs mX2_entryAt 42 (.iinc 3 1) 3 45 := ⟨by decide +kernel, rfl⟩
theorem iX2_entryAt_45 : zBr mX2_entryAt 45 .goto 7 48 := ⟨(-38), by decide +kernel, by decide, rfl⟩
theorem iX2_entryAt_48 : zPi mX2_entryAt 48 (-1) 49 := Or.inl ⟨(-1), by decide +kernel, by decide, rfl⟩
theorem iX2_entryAt_49 : zIs mX2_entryAt 49 (.ireturn) 1 50 := ⟨by decide +kernel, rfl⟩
theorem iX2_rankClass_0 : zPi mX2_rankClass 0 0 1 := Or.inl ⟨0, by decide +kernel, by decide, rfl⟩
theorem iX2_rankClass_1 : zSi mX2_rankClass 1 2 2 := ⟨Or.inl ⟨2, by decide +kernel, rfl, rfl⟩, by decide⟩
theorem iX2_rankClass_2 : zLi mX2_rankClass 2 2 3 := Or.inl ⟨2, by decide +kernel, rfl, rfl⟩
theorem iX2_rankClass_3 : zLa mX2_rankClass 3 0 4 := Or.inl ⟨0, by decide +kernel, rfl, rfl⟩
theorem iX2_rankClass_4 : zIs mX2_rankClass 4 (.getfield 24) 3 7 := ⟨by decide +kernel, rfl⟩
theorem iX2_rankClass_7 : zIs mX2_rankClass 7 (.getfield 97) 3 10 := ⟨by decide +kernel, rfl⟩
theorem iX2_rankClass_10 : zBr mX2_rankClass 10 (.if_icmp .ge) 57 13 := ⟨47, by decide +kernel, by decide, rfl⟩
theorem iX2_rankClass_13 : zLa mX2_rankClass 13 0 14 := Or.inl ⟨0, by decide +kernel, rfl, rfl⟩
theorem iX2_rankClass_14 : zIs mX2_rankClass 14 (.getfield 24) 3 17 := ⟨by decide +kernel, rfl⟩
theorem iX2_rankClass_17 : zIs mX2_rankClass 17 (.getfield 37) 3 20 := ⟨by decide +kernel, rfl⟩
theorem iX2_rankClass_20 : zLi mX2_rankClass 20 2 21 := Or.inl ⟨2, by decide +kernel, rfl, rfl⟩
theorem iX2_rankClass_21 : zIs mX2_rankClass 21 (.iaload) 1 22 := ⟨by decide +kernel, rfl⟩
theorem iX2_rankClass_22 : zLi mX2_rankClass 22 1 23 := Or.inl ⟨1, by decide +kernel, rfl, rfl⟩
theorem iX2_rankClass_23 : zBr mX2_rankClass 23 (.if_icmp .ne) 51 26 := ⟨28, by decide +kernel, by decide, rfl⟩
theorem iX2_rankClass_26 : zLa mX2_rankClass 26 0 27 := Or.inl ⟨0, by decide +kernel, rfl, rfl⟩
theorem iX2_rankClass_27 : zIs mX2_rankClass 27 (.getfield 9) 3 30 := ⟨by decide +kernel, rfl⟩
theorem iX2_rankClass_30 : zLi mX2_rankClass 30 2 31 := Or.inl ⟨2, by decide +kernel, rfl, rfl⟩
theorem iX2_rankClass_31 : zLa mX2_rankClass 31 0 32 := Or.inl ⟨0, by decide +kernel, rfl, rfl⟩
theorem iX2_rankClass_32 : zLi mX2_rankClass 32 2 33 := Or.inl ⟨2, by decide +kernel, rfl, rfl⟩
theorem iX2_rankClass_33 : zIs mX2_rankClass 33 (.invokevirtual 104) 3 36 := ⟨by decide +kernel, rfl⟩
theorem iX2_rankClass_36 : zIs mX2_rankClass 36 (.iastore) 1 37 := ⟨by decide +kernel, rfl⟩
theorem iX2_rankClass_37 : zLa mX2_rankClass 37 0 38 := Or.inl ⟨0, by decide +kernel, rfl, rfl⟩
theorem iX2_rankClass_38 : zIs mX2_rankClass 38 (.getfield 15) 3 41 := ⟨by decide +kernel, rfl⟩
theorem iX2_rankClass_41 : zLi mX2_rankClass 41 2 42 := Or.inl ⟨2, by decide +kernel, rfl, rfl⟩
theorem iX2_rankClass_42 : zLa mX2_rankClass 42 0 43 := Or.inl ⟨0, by decide +kernel, rfl, rfl⟩
theorem iX2_rankClass_43 : zIs mX2_rankClass 43 (.getfield 28) 3 46 := ⟨by decide +kernel, rfl⟩
theorem iX2_rankClass_46 : zLi mX2_rankClass 46 2 47 := Or.inl ⟨2, by decide +kernel, rfl, rfl⟩
theorem iX2_rankClass_47 : zIs mX2_rankClass 47 (.invokevirtual 107) 3 50 := ⟨by decide +kernel, rfl⟩
theorem iX2_rankClass_50 : zIs mX2_rankClass 50 (.iastore) 1 51 := ⟨by decide +kernel, rfl⟩
theorem iX2_rankClass_51 : zIs mX2_rankClass 51 (.iinc 2 1) 3 54 := ⟨by decide +kernel, rfl⟩
theorem iX2_rankClass_54 : zBr mX2_rankClass 54 .goto 2 57 := ⟨(-52), by decide +kernel, by decide, rfl⟩
theorem iX2_rankClass_57 : zPi mX2_rankClass 57 0 58 := Or.inl ⟨0, by decide +kernel, by decide, rfl⟩
theorem iX2_rankClass_58 : zSi mX2_rankClass 58 2 59 := ⟨Or.inl ⟨2, by decide +kernel, rfl, rfl⟩, by decide⟩
theorem iX2_rankClass_59 : zLi mX2_rankClass 59 2 60 := Or.inl ⟨2, by decide +kernel, rfl, rfl⟩
theorem iX2_rankClass_60 : zLa mX2_rankClass 60 0 61 := Or.inl ⟨0, by decide +kernel, rfl, rfl⟩
theorem iX2_rankClass_61 : zIs mX2_rankClass 61 (.getfield 24) 3 64 := ⟨by decide +kernel, rfl⟩
theorem iX2_rankClass_64 : zIs mX2_rankClass 64 (.getfield 97) 3 67 := ⟨by decide +kernel, rfl⟩
theorem iX2_rankClass_67 : zBr mX2_rankClass 67 (.if_icmp .ge) 102 70 := ⟨35, by decide +kernel, by decide, rfl⟩
theorem iX2_rankClass_70 : zLa mX2_rankClass 70 0 71 := Or.inl ⟨0, by decide +kernel, rfl, rfl⟩
theorem iX2_rankClass_71 : zIs mX2_rankClass 71 (.getfield 24) 3 74 := ⟨by decide +kernel, rfl⟩
theorem iX2_rankClass_74 : zIs mX2_rankClass 74 (.getfield 37) 3 77 := ⟨by decide +kernel, rfl⟩
theorem iX2_rankClass_77 : zLi mX2_rankClass 77 2 78 := Or.inl ⟨2, by decide +kernel, rfl, rfl⟩
theorem iX2_rankClass_78 : zIs mX2_rankClass 78 (.iaload) 1 79 := ⟨by decide +kernel, rfl⟩
theorem iX2_rankClass_79 : zLi mX2_rankClass 79 1 80 := Or.inl ⟨1, by decide +kernel, rfl, rfl⟩
theorem iX2_rankClass_80 : zBr mX2_rankClass 80 (.if_icmp .ne) 96 83 := ⟨16, by decide +kernel, by decide, rfl⟩
theorem iX2_rankClass_83 : zLa mX2_rankClass 83 0 84 := Or.inl ⟨0, by decide +kernel, rfl, rfl⟩
theorem iX2_rankClass_84 : zIs mX2_rankClass 84 (.getfield 18) 3 87 := ⟨by decide +kernel, rfl⟩
theorem iX2_rankClass_87 : zLi mX2_rankClass 87 2 88 := Or.inl ⟨2, by decide +kernel, rfl, rfl⟩
theorem iX2_rankClass_88 : zPi mX2_rankClass 88 1 89 := Or.inl ⟨1, by decide +kernel, by decide, rfl⟩
theorem iX2_rankClass_89 : zLa mX2_rankClass 89 0 90 := Or.inl ⟨0, by decide +kernel, rfl, rfl⟩
theorem iX2_rankClass_90 : zLi mX2_rankClass 90 2 91 := Or.inl ⟨2, by decide +kernel, rfl, rfl⟩
theorem iX2_rankClass_91 : zIs mX2_rankClass 91 (.invokevirtual 110) 3 94 := ⟨by decide +kernel, rfl⟩
theorem iX2_rankClass_94 : zIs mX2_rankClass 94 (.iadd) 1 95 := ⟨by decide +kernel, rfl⟩
theorem iX2_rankClass_95 : zIs mX2_rankClass 95 (.iastore) 1 96 := ⟨by decide +kernel, rfl⟩
theorem iX2_rankClass_96 : zIs mX2_rankClass 96 (.iinc 2 1) 3 99 := ⟨by decide +kernel, rfl⟩
theorem iX2_rankClass_99 : zBr mX2_rankClass 99 .goto 59 102 := ⟨(-40), by decide +kernel, by decide, rfl⟩
theorem iX2_rankClass_102 : zIs mX2_rankClass 102 (.return_) 1 103 := ⟨by decide +kernel, rfl⟩
theorem iX2_betterThan_0 : zPi mX2_betterThan 0 0 1 := Or.inl ⟨0, by decide +kernel, by decide, rfl⟩
theorem iX2_betterThan_1 : zSi mX2_betterThan 1 2 2 := ⟨Or.inl ⟨2, by decide +kernel, rfl, rfl⟩, by decide⟩
theorem iX2_betterThan_2 : zPi mX2_betterThan 2 0 3 := Or.inl ⟨0, by decide +kernel, by decide, rfl⟩
theorem iX2_betterThan_3 : zSi mX2_betterThan 3 3 4 := ⟨Or.inl ⟨3, by decide +kernel, rfl, rfl⟩, by decide⟩
theorem iX2_betterThan_4 : zLi mX2_betterThan 4 3 5 := Or.inl ⟨3, by decide +kernel, rfl, rfl⟩
theorem iX2_betterThan_5 : zLa mX2_betterThan 5 0 6 := Or.inl ⟨0, by decide +kernel, rfl, rfl⟩
theorem iX2_betterThan_6 : zIs mX2_betterThan 6 (.getfield 24) 3 9 := ⟨by decide +kernel, rfl⟩
theorem iX2_betterThan_9 : zIs mX2_betterThan 9 (.getfield 97) 3 12 := ⟨by decide +kernel, rfl⟩
theorem iX2_betterThan_12 : zBr mX2_betterThan 12 (.if_icmp .ge) 54 15 := ⟨42, by decide +kernel, by decide, rfl⟩
theorem iX2_betterThan_15 : zLa mX2_betterThan 15 0 16 := Or.inl ⟨0, by decide +kernel, rfl, rfl⟩
theorem iX2_betterThan_16 : zIs mX2_betterThan 16 (.getfield 24) 3 19 := ⟨by decide +kernel, rfl⟩
theorem iX2_betterThan_19 : zIs mX2_betterThan 19 (.getfield 37) 3 22 := ⟨by decide +kernel, rfl⟩
theorem iX2_betterThan_22 : zLi mX2_betterThan 22 3 23 := Or.inl ⟨3, by decide +kernel, rfl, rfl⟩
theorem iX2_betterThan_23 : zIs mX2_betterThan 23 (.iaload) 1 24 := ⟨by decide +kernel, rfl⟩
theorem iX2_betterThan_24 : zLa mX2_betterThan 24 0 25 := Or.inl ⟨0, by decide +kernel, rfl, rfl⟩
theorem iX2_betterThan_25 : zIs mX2_betterThan 25 (.getfield 24) 3 28 := ⟨by decide +kernel, rfl⟩
theorem iX2_betterThan_28 : zIs mX2_betterThan 28 (.getfield 37) 3 31 := ⟨by decide +kernel, rfl⟩
theorem iX2_betterThan_31 : zLi mX2_betterThan 31 1 32 := Or.inl ⟨1, by decide +kernel, rfl, rfl⟩
theorem iX2_betterThan_32 : zIs mX2_betterThan 32 (.iaload) 1 33 := ⟨by decide +kernel, rfl⟩
theorem iX2_betterThan_33 : zBr mX2_betterThan 33 (.if_icmp .ne) 48 36 := ⟨15, by decide +kernel, by decide, rfl⟩
theorem iX2_betterThan_36 : zLa mX2_betterThan 36 0 37 := Or.inl ⟨0, by decide +kernel, rfl, rfl⟩
theorem iX2_betterThan_37 : zLi mX2_betterThan 37 3 38 := Or.inl ⟨3, by decide +kernel, rfl, rfl⟩
theorem iX2_betterThan_38 : zLi mX2_betterThan 38 1 39 := Or.inl ⟨1, by decide +kernel, rfl, rfl⟩
theorem iX2_betterThan_39 : zIs mX2_betterThan 39 (.invokevirtual 113) 3 42 := ⟨by decide +kernel, rfl⟩
theorem iX2_betterThan_42 : zBr mX2_betterThan 42 (.ifCond .eq) 48 45 := ⟨6, by decide +kernel, by decide, rfl⟩
theorem iX2_betterThan_45 : zIs mX2_betterThan 45 (.iinc 2 1) 3 48 := ⟨by decide +kernel, rfl⟩
theorem iX2_betterThan_48 : zIs mX2_betterThan 48 (.iinc 3 1) 3 51 := ⟨by decide +kernel, rfl⟩
theorem iX2_betterThan_51 : zBr mX2_betterThan 51 .goto 4 54 := ⟨(-47), by decide +kernel, by decide, rfl⟩
theorem iX2_betterThan_54 : zLi mX2_betterThan 54 2 55 := Or.inl ⟨2, by decide +kernel, rfl, rfl⟩
theorem iX2_betterThan_55 : zIs mX2_betterThan 55 (.ireturn) 1 56 := ⟨by decide +kernel, rfl⟩
theorem iX2_isBetter_0 : zLa mX2_isBetter 0 0 1 := Or.inl ⟨0, by decide +kernel, rfl, rfl⟩
theorem iX2_isBetter_1 : zIs mX2_isBetter 1 (.getfield 9) 3 4 := ⟨by decide +kernel, rfl⟩
theorem iX2_isBetter_4 : zLi mX2_isBetter 4 1 5 := Or.inl ⟨1, by decide +kernel, rfl, rfl⟩
theorem iX2_isBetter_5 : zIs mX2_isBetter 5 (.iaload) 1 6 := ⟨by decide +kernel, rfl⟩
theorem iX2_isBetter_6 : zLa mX2_isBetter 6 0 7 := Or.inl ⟨0, by decide +kernel, rfl, rfl⟩
theorem iX2_isBetter_7 : zIs mX2_isBetter 7 (.getfield 9) 3 10 := ⟨by decide +kernel, rfl⟩
theorem iX2_isBetter_10 : zLi mX2_isBetter 10 2 11 := Or.inl ⟨2, by decide +kernel, rfl, rfl⟩
theorem iX2_isBetter_11 : zIs mX2_isBetter 11 (.iaload) 1 12 := ⟨by decide +kernel, rfl⟩
theorem iX2_isBetter_12 : zBr mX2_isBetter 12 (.if_icmp .eq) 36 15 := ⟨24, by decide +kernel, by decide, rfl⟩
theorem iX2_isBetter_15 : zLa mX2_isBetter 15 0 16 := Or.inl ⟨0, by decide +kernel, rfl, rfl⟩
theorem iX2_isBetter_16 : zIs mX2_isBetter 16 (.getfield 9) 3 19 := ⟨by decide +kernel, rfl⟩
theorem iX2_isBetter_19 : zLi mX2_isBetter 19 1 20 := Or.inl ⟨1, by decide +kernel, rfl, rfl⟩
theorem iX2_isBetter_20 : zIs mX2_isBetter 20 (.iaload) 1 21 := ⟨by decide +kernel, rfl⟩
theorem iX2_isBetter_21 : zLa mX2_isBetter 21 0 22 := Or.inl ⟨0, by decide +kernel, rfl, rfl⟩
theorem iX2_isBetter_22 : zIs mX2_isBetter 22 (.getfield 9) 3 25 := ⟨by decide +kernel, rfl⟩
theorem iX2_isBetter_25 : zLi mX2_isBetter 25 2 26 := Or.inl ⟨2, by decide +kernel, rfl, rfl⟩
theorem iX2_isBetter_26 : zIs mX2_isBetter 26 (.iaload) 1 27 := ⟨by decide +kernel, rfl⟩
theorem iX2_isBetter_27 : zBr mX2_isBetter 27 (.if_icmp .le) 34 30 := ⟨7, by decide +kernel, by decide, rfl⟩
theorem iX2_isBetter_30 : zPi mX2_isBetter 30 1 31 := Or.inl ⟨1, by decide +kernel, by decide, rfl⟩
theorem iX2_isBetter_31 : zBr mX2_isBetter 31 .goto 35 34 := ⟨4, by decide +kernel, by decide, rfl⟩
theorem iX2_isBetter_34 : zPi mX2_isBetter 34 0 35 := Or.inl ⟨0, by decide +kernel, by decide, rfl⟩
theorem iX2_isBetter_35 : zIs mX2_isBetter 35 (.ireturn) 1 36 := ⟨by decide +kernel, rfl⟩
theorem iX2_isBetter_36 : zLa mX2_isBetter 36 0 37 := Or.inl ⟨0, by decide +kernel, rfl, rfl⟩
theorem iX2_isBetter_37 : zIs mX2_isBetter 37 (.getfield 28) 3 40 := ⟨by decide +kernel, rfl⟩
theorem iX2_isBetter_40 : zIs mX2_isBetter 40 (.getfield 62) 3 43 := ⟨by decide +kernel, rfl⟩
theorem iX2_isBetter_43 : zLi mX2_isBetter 43 1 44 := Or.inl ⟨1, by decide +kernel, rfl, rfl⟩
theorem iX2_isBetter_44 : zIs mX2_isBetter 44 (.iaload) 1 45 := ⟨by decide +kernel, rfl⟩
theorem iX2_isBetter_45 : zLa mX2_isBetter 45 0 46 := Or.inl ⟨0, by decide +kernel, rfl, rfl⟩
theorem iX2_isBetter_46 : zIs mX2_isBetter 46 (.getfield 28) 3 49 := ⟨by decide +kernel, rfl⟩
theorem iX2_isBetter_49 : zIs mX2_isBetter 49 (.getfield 62) 3 52 := ⟨by decide +kernel, rfl⟩
theorem iX2_isBetter_52 : zLi mX2_isBetter 52 2 53 := Or.inl ⟨2, by decide +kernel, rfl, rfl⟩
theorem iX2_isBetter_53 : zIs mX2_isBetter 53 (.iaload) 1 54 := ⟨by decide +kernel, rfl⟩
theorem iX2_isBetter_54 : zBr mX2_isBetter 54 (.if_icmp .eq) 84 57 := ⟨30, by decide +kernel, by decide, rfl⟩
theorem iX2_isBetter_57 : zLa mX2_isBetter 57 0 58 := Or.inl ⟨0, by decide +kernel, rfl, rfl⟩
theorem iX2_isBetter_58 : zIs mX2_isBetter 58 (.getfield 28) 3 61 := ⟨by decide +kernel, rfl⟩
theorem iX2_isBetter_61 : zIs mX2_isBetter 61 (.getfield 62) 3 64 := ⟨by decide +kernel, rfl⟩
theorem iX2_isBetter_64 : zLi mX2_isBetter 64 1 65 := Or.inl ⟨1, by decide +kernel, rfl, rfl⟩
theorem iX2_isBetter_65 : zIs mX2_isBetter 65 (.iaload) 1 66 := ⟨by decide +kernel, rfl⟩
theorem iX2_isBetter_66 : zLa mX2_isBetter 66 0 67 := Or.inl ⟨0, by decide +kernel, rfl, rfl⟩
theorem iX2_isBetter_67 : zIs mX2_isBetter 67 (.getfield 28) 3 70 := ⟨by decide +kernel, rfl⟩
theorem iX2_isBetter_70 : zIs mX2_isBetter 70 (.getfield 62) 3 73 := ⟨by decide +kernel, rfl⟩
theorem iX2_isBetter_73 : zLi mX2_isBetter 73 2 74 := Or.inl ⟨2, by decide +kernel, rfl, rfl⟩
theorem iX2_isBetter_74 : zIs mX2_isBetter 74 (.iaload) 1 75 := ⟨by decide +kernel, rfl⟩
theorem iX2_isBetter_75 : zBr mX2_isBetter 75 (.if_icmp .ge) 82 78 := ⟨7, by decide +kernel, by decide, rfl⟩
theorem iX2_isBetter_78 : zPi mX2_isBetter 78 1 79 := Or.inl ⟨1, by decide +kernel, by decide, rfl⟩
theorem iX2_isBetter_79 : zBr mX2_isBetter 79 .goto 83 82 := ⟨4, by decide +kernel, by decide, rfl⟩
theorem iX2_isBetter_82 : zPi mX2_isBetter 82 0 83 := Or.inl ⟨0, by decide +kernel, by decide, rfl⟩
theorem iX2_isBetter_83 : zIs mX2_isBetter 83 (.ireturn) 1 84 := ⟨by decide +kernel, rfl⟩
theorem iX2_isBetter_84 : zLa mX2_isBetter 84 0 85 := Or.inl ⟨0, by decide +kernel, rfl, rfl⟩
theorem iX2_isBetter_85 : zIs mX2_isBetter 85 (.getfield 15) 3 88 := ⟨by decide +kernel, rfl⟩
theorem iX2_isBetter_88 : zLi mX2_isBetter 88 1 89 := Or.inl ⟨1, by decide +kernel, rfl, rfl⟩
theorem iX2_isBetter_89 : zIs mX2_isBetter 89 (.iaload) 1 90 := ⟨by decide +kernel, rfl⟩
theorem iX2_isBetter_90 : zLa mX2_isBetter 90 0 91 := Or.inl ⟨0, by decide +kernel, rfl, rfl⟩
theorem iX2_isBetter_91 : zIs mX2_isBetter 91 (.getfield 15) 3 94 := ⟨by decide +kernel, rfl⟩
theorem iX2_isBetter_94 : zLi mX2_isBetter 94 2 95 := Or.inl ⟨2, by decide +kernel, rfl, rfl⟩
theorem iX2_isBetter_95 : zIs mX2_isBetter 95 (.iaload) 1 96 := ⟨by decide +kernel, rfl⟩
theorem iX2_isBetter_96 : zBr mX2_isBetter 96 (.if_icmp .le) 103 99 := ⟨7, by decide +kernel, by decide, rfl⟩
theorem iX2_isBetter_99 : zPi mX2_isBetter 99 1 100 := Or.inl ⟨1, by decide +kernel, by decide, rfl⟩
theorem iX2_isBetter_100 : zBr mX2_isBetter 100 .goto 104 103 := ⟨4, by decide +kernel, by decide, rfl⟩
theorem iX2_isBetter_103 : zPi mX2_isBetter 103 0 104 := Or.inl ⟨0, by decide +kernel, by decide, rfl⟩
theorem iX2_isBetter_104 : zIs mX2_isBetter 104 (.ireturn) 1 105 := ⟨by decide +kernel, rfl⟩
theorem iX2_sharers_0 : zLa mX2_sharers 0 0 1 := Or.inl ⟨0, by decide +kernel, rfl, rfl⟩
theorem iX2_sharers_1 : zLi mX2_sharers 1 1 2 := Or.inl ⟨1, by decide +kernel, rfl, rfl⟩
theorem iX2_sharers_2 : zLa mX2_sharers 2 0 3 := Or.inl ⟨0, by decide +kernel, rfl, rfl⟩
theorem iX2_sharers_3 : zIs mX2_sharers 3 (.getfield 24) 3 6 := ⟨by decide +kernel, rfl⟩
theorem iX2_sharers_6 : zIs mX2_sharers 6 (.getfield 97) 3 9 := ⟨by decide +kernel, rfl⟩
theorem iX2_sharers_9 : zIs mX2_sharers 9 (.invokevirtual 117) 3 12 := ⟨by decide +kernel, rfl⟩
theorem iX2_sharers_12 : zIs mX2_sharers 12 (.ireturn) 1 13 := ⟨by decide +kernel, rfl⟩
theorem iX2_sharersAheadOf_0 : zPi mX2_sharersAheadOf 0 0 1 := Or.inl ⟨0, by decide +kernel, by decide, rfl⟩
theorem iX2_sharersAheadOf_1 : zSi mX2_sharersAheadOf 1 3 2 := ⟨Or.inl ⟨3, by decide +kernel, rfl, rfl⟩, by decide⟩
theorem iX2_sharersAheadOf_2 : zPi mX2_sharersAheadOf 2 0 3 := Or.inl ⟨0, by decide +kernel, by decide, rfl⟩
theorem iX2_sharersAheadOf_3 : zSi mX2_sharersAheadOf 3 4 5 := ⟨Or.inr ⟨by decide +kernel, rfl⟩, by decide⟩
theorem iX2_sharersAheadOf_5 : zLi mX2_sharersAheadOf 5 4 7 := Or.inr ⟨by decide +kernel, rfl⟩
theorem iX2_sharersAheadOf_7 : zLi mX2_sharersAheadOf 7 2 8 := Or.inl ⟨2, by decide +kernel, rfl, rfl⟩
theorem iX2_sharersAheadOf_8 : zBr mX2_sharersAheadOf 8 (.if_icmp .ge) 58 11 := ⟨50, by decide +kernel, by decide, rfl⟩
theorem iX2_sharersAheadOf_11 : zLa mX2_sharersAheadOf 11 0 12 := Or.inl ⟨0, by decide +kernel, rfl, rfl⟩
theorem iX2_sharersAheadOf_12 : zIs mX2_sharersAheadOf 12 (.getfield 24) 3 15 := ⟨by decide +kernel, rfl⟩
theorem iX2_sharersAheadOf_15 : zIs mX2_sharersAheadOf 15 (.getfield 37) 3 18 := ⟨by decide +kernel, rfl⟩
theorem iX2_sharersAheadOf_18 : zLi mX2_sharersAheadOf 18 4 20 := Or.inr ⟨by decide +kernel, rfl⟩
theorem iX2_sharersAheadOf_20 : zIs mX2_sharersAheadOf 20 (.iaload) 1 21 := ⟨by decide +kernel, rfl⟩
theorem iX2_sharersAheadOf_21 : zLa mX2_sharersAheadOf 21 0 22 := Or.inl ⟨0, by decide +kernel, rfl, rfl⟩
theorem iX2_sharersAheadOf_22 : zIs mX2_sharersAheadOf 22 (.getfield 24) 3 25 := ⟨by decide +kernel, rfl⟩
theorem iX2_sharersAheadOf_25 : zIs mX2_sharersAheadOf 25 (.getfield 37) 3 28 := ⟨by decide +kernel, rfl⟩
theorem iX2_sharersAheadOf_28 : zLi mX2_sharersAheadOf 28 1 29 := Or.inl ⟨1, by decide +kernel, rfl, rfl⟩
theorem iX2_sharersAheadOf_29 : zIs mX2_sharersAheadOf 29 (.iaload) 1 30 := ⟨by decide +kernel, rfl⟩
theorem iX2_sharersAheadOf_30 : zBr mX2_sharersAheadOf 30 (.if_icmp .ne) 52 33 := ⟨22, by decide +kernel, by decide, rfl⟩
theorem iX2_sharersAheadOf_33 : zLa mX2_sharersAheadOf 33 0 34 := Or.inl ⟨0, by decide +kernel, rfl, rfl⟩
theorem iX2_sharersAheadOf_34 : zIs mX2_sharersAheadOf 34 (.getfield 18) 3 37 := ⟨by decide +kernel, rfl⟩
theorem iX2_sharersAheadOf_37 : zLi mX2_sharersAheadOf 37 4 39 := Or.inr ⟨by decide +kernel, rfl⟩
theorem iX2_sharersAheadOf_39 : zIs mX2_sharersAheadOf 39 (.iaload) 1 40 := ⟨by decide +kernel, rfl⟩
theorem iX2_sharersAheadOf_40 : zLa mX2_sharersAheadOf 40 0 41 := Or.inl ⟨0, by decide +kernel, rfl, rfl⟩
theorem iX2_sharersAheadOf_41 : zIs mX2_sharersAheadOf 41 (.getfield 18) 3 44 := ⟨by decide +kernel, rfl⟩
theorem iX2_sharersAheadOf_44 : zLi mX2_sharersAheadOf 44 1 45 := Or.inl ⟨1, by decide +kernel, rfl, rfl⟩
theorem iX2_sharersAheadOf_45 : zIs mX2_sharersAheadOf 45 (.iaload) 1 46 := ⟨by decide +kernel, rfl⟩
theorem iX2_sharersAheadOf_46 : zBr mX2_sharersAheadOf 46 (.if_icmp .ne) 52 49 := ⟨6, by decide +kernel, by decide, rfl⟩
theorem iX2_sharersAheadOf_49 : zIs mX2_sharersAheadOf 49 (.iinc 3 1) 3 52 := ⟨by decide +kernel, rfl⟩
theorem iX2_sharersAheadOf_52 : zIs mX2_sharersAheadOf 52 (.iinc 4 1) 3 55 := ⟨by decide +kernel, rfl⟩
theorem iX2_sharersAheadOf_55 : zBr mX2_sharersAheadOf 55 .goto 5 58 := ⟨(-50), by decide +kernel, by decide, rfl⟩
theorem iX2_sharersAheadOf_58 : zLi mX2_sharersAheadOf 58 3 59 := Or.inl ⟨3, by decide +kernel, rfl, rfl⟩
theorem iX2_sharersAheadOf_59 : zIs mX2_sharersAheadOf 59 (.ireturn) 1 60 := ⟨by decide +kernel, rfl⟩
theorem iX2_position_0 : zLa mX2_position 0 0 1 := Or.inl ⟨0, by decide +kernel, rfl, rfl⟩
theorem iX2_position_1 : zIs mX2_position 1 (.getfield 18) 3 4 := ⟨by decide +kernel, rfl⟩
theorem iX2_position_4 : zLi mX2_position 4 1 5 := Or.inl ⟨1, by decide +kernel, rfl, rfl⟩
theorem iX2_position_5 : zIs mX2_position 5 (.iaload) 1 6 := ⟨by decide +kernel, rfl⟩
theorem iX2_position_6 : zPi mX2_position 6 1 7 := Or.inl ⟨1, by decide +kernel, by decide, rfl⟩
theorem iX2_position_7 : zIs mX2_position 7 (.isub) 1 8 := ⟨by decide +kernel, rfl⟩
theorem iX2_position_8 : zLa mX2_position 8 0 9 := Or.inl ⟨0, by decide +kernel, rfl, rfl⟩
theorem iX2_position_9 : zLi mX2_position 9 1 10 := Or.inl ⟨1, by decide +kernel, rfl, rfl⟩
theorem iX2_position_10 : zLi mX2_position 10 1 11 := Or.inl ⟨1, by decide +kernel, rfl, rfl⟩
theorem iX2_position_11 : zIs mX2_position 11 (.invokevirtual 117) 3 14 := ⟨by decide +kernel, rfl⟩
theorem iX2_position_14 : zIs mX2_position 14 (.iadd) 1 15 := ⟨by decide +kernel, rfl⟩
theorem iX2_position_15 : zIs mX2_position 15 (.ireturn) 1 16 := ⟨by decide +kernel, rfl⟩
theorem iX2_share_0 : zLa mX2_share 0 0 1 := Or.inl ⟨0, by decide +kernel, rfl, rfl⟩
theorem iX2_share_1 : zIs mX2_share 1 (.getfield 24) 3 4 := ⟨by decide +kernel, rfl⟩
theorem iX2_share_4 : zIs mX2_share 4 (.getfield 37) 3 7 := ⟨by decide +kernel, rfl⟩
theorem iX2_share_7 : zLi mX2_share 7 1 8 := Or.inl ⟨1, by decide +kernel, rfl, rfl⟩
theorem iX2_share_8 : zIs mX2_share 8 (.iaload) 1 9 := ⟨by decide +kernel, rfl⟩
theorem iX2_share_9 : zSi mX2_share 9 2 10 := ⟨Or.inl ⟨2, by decide +kernel, rfl, rfl⟩, by decide⟩
theorem iX2_share_10 : zLa mX2_share 10 0 11 := Or.inl ⟨0, by decide +kernel, rfl, rfl⟩
theorem iX2_share_11 : zLi mX2_share 11 1 12 := Or.inl ⟨1, by decide +kernel, rfl, rfl⟩
theorem iX2_share_12 : zIs mX2_share 12 (.invokevirtual 87) 3 15 := ⟨by decide +kernel, rfl⟩
theorem iX2_share_15 : zSi mX2_share 15 3 16 := ⟨Or.inl ⟨3, by decide +kernel, rfl, rfl⟩, by decide⟩
theorem iX2_share_16 : zLa mX2_share 16 0 17 := Or.inl ⟨0, by decide +kernel, rfl, rfl⟩
theorem iX2_share_17 : zIs mX2_share 17 (.getfield 24) 3 20 := ⟨by decide +kernel, rfl⟩
theorem iX2_share_20 : zIs mX2_share 20 (.getfield 120) 3 23 := ⟨by decide +kernel, rfl⟩
theorem iX2_share_23 : zLi mX2_share 23 2 24 := Or.inl ⟨2, by decide +kernel, rfl, rfl⟩
theorem iX2_share_24 : zIs mX2_share 24 (.baload) 1 25 := ⟨by decide +kernel, rfl⟩
theorem iX2_share_25 : zBr mX2_share 25 (.ifCond .eq) 33 28 := ⟨8, by decide +kernel, by decide, rfl⟩
theorem iX2_share_28 : zLi mX2_share 28 3 29 := Or.inl ⟨3, by decide +kernel, rfl, rfl⟩
theorem iX2_share_29 : zPi mX2_share 29 1 30 := Or.inl ⟨1, by decide +kernel, by decide, rfl⟩
theorem iX2_share_30 : zBr mX2_share 30 (.if_icmp .ge) 35 33 := ⟨5, by decide +kernel, by decide, rfl⟩
theorem iX2_share_33 : zPi mX2_share 33 0 34 := Or.inl ⟨0, by decide +kernel, by decide, rfl⟩
theorem iX2_share_34 : zIs mX2_share 34 (.ireturn) 1 35 := ⟨by decide +kernel, rfl⟩
theorem iX2_share_35 : zLa mX2_share 35 0 36 := Or.inl ⟨0, by decide +kernel, rfl, rfl⟩
theorem iX2_share_36 : zLi mX2_share 36 2 37 := Or.inl ⟨2, by decide +kernel, rfl, rfl⟩
theorem iX2_share_37 : zLa mX2_share 37 0 38 := Or.inl ⟨0, by decide +kernel, rfl, rfl⟩
theorem iX2_share_38 : zIs mX2_share 38 (.getfield 18) 3 41 := ⟨by decide +kernel, rfl⟩
theorem iX2_share_41 : zLi mX2_share 41 1 42 := Or.inl ⟨1, by decide +kernel, rfl, rfl⟩
theorem iX2_share_42 : zIs mX2_share 42 (.iaload) 1 43 := ⟨by decide +kernel, rfl⟩
theorem iX2_share_43 : zLa mX2_share 43 0 44 := Or.inl ⟨0, by decide +kernel, rfl, rfl⟩
theorem iX2_share_44 : zIs mX2_share 44 (.getfield 18) 3 47 := ⟨by decide +kernel, rfl⟩
theorem iX2_share_47 : zLi mX2_share 47 1 48 := Or.inl ⟨1, by decide +kernel, rfl, rfl⟩
theorem iX2_share_48 : zIs mX2_share 48 (.iaload) 1 49 := ⟨by decide +kernel, rfl⟩
theorem iX2_share_49 : zLi mX2_share 49 3 50 := Or.inl ⟨3, by decide +kernel, rfl, rfl⟩
theorem iX2_share_50 : zIs mX2_share 50 (.iadd) 1 51 := ⟨by decide +kernel, rfl⟩
theorem iX2_share_51 : zPi mX2_share 51 1 52 := Or.inl ⟨1, by decide +kernel, by decide, rfl⟩
theorem iX2_share_52 : zIs mX2_share 52 (.isub) 1 53 := ⟨by decide +kernel, rfl⟩
theorem iX2_share_53 : zIs mX2_share 53 (.invokevirtual 93) 3 56 := ⟨by decide +kernel, rfl⟩
theorem iX2_share_56 : zLi mX2_share 56 3 57 := Or.inl ⟨3, by decide +kernel, rfl, rfl⟩
theorem iX2_share_57 : zIs mX2_share 57 (.idiv) 1 58 := ⟨by decide +kernel, rfl⟩
theorem iX2_share_58 : zIs mX2_share 58 (.ireturn) 1 59 := ⟨by decide +kernel, rfl⟩
theorem iX2_prizesFrom_0 : zPi mX2_prizesFrom 0 0 1 := Or.inl ⟨0, by decide +kernel, by decide, rfl⟩
theorem iX2_prizesFrom_1 : zSi mX2_prizesFrom 1 4 3 := ⟨Or.inr ⟨by decide +kernel, rfl⟩, by decide⟩
theorem iX2_prizesFrom_3 : zLi mX2_prizesFrom 3 2 4 := Or.inl ⟨2, by decide +kernel, rfl, rfl⟩
theorem iX2_prizesFrom_4 : zSi mX2_prizesFrom 4 5 6 := ⟨Or.inr ⟨by decide +kernel, rfl⟩, by decide⟩
theorem iX2_prizesFrom_6 : zLi mX2_prizesFrom 6 5 8 := Or.inr ⟨by decide +kernel, rfl⟩
theorem iX2_prizesFrom_8 : zLi mX2_prizesFrom 8 3 9 := Or.inl ⟨3, by decide +kernel, rfl, rfl⟩
theorem iX2_prizesFrom_9 : zBr mX2_prizesFrom 9 (.if_icmp .gt) 45 12 := ⟨36, by decide +kernel, by decide, rfl⟩
theorem iX2_prizesFrom_12 : zLi mX2_prizesFrom 12 5 14 := Or.inr ⟨by decide +kernel, rfl⟩
theorem iX2_prizesFrom_14 : zPi mX2_prizesFrom 14 3 15 := Or.inl ⟨3, by decide +kernel, by decide, rfl⟩
theorem iX2_prizesFrom_15 : zBr mX2_prizesFrom 15 (.if_icmp .gt) 45 18 := ⟨30, by decide +kernel, by decide, rfl⟩
theorem iX2_prizesFrom_18 : zLi mX2_prizesFrom 18 4 20 := Or.inr ⟨by decide +kernel, rfl⟩
theorem iX2_prizesFrom_20 : zLa mX2_prizesFrom 20 0 21 := Or.inl ⟨0, by decide +kernel, rfl, rfl⟩
theorem iX2_prizesFrom_21 : zIs mX2_prizesFrom 21 (.getfield 24) 3 24 := ⟨by decide +kernel, rfl⟩
theorem iX2_prizesFrom_24 : zIs mX2_prizesFrom 24 (.getfield 124) 3 27 := ⟨by decide +kernel, rfl⟩
theorem iX2_prizesFrom_27 : zLi mX2_prizesFrom 27 1 28 := Or.inl ⟨1, by decide +kernel, rfl, rfl⟩
theorem iX2_prizesFrom_28 : zPi mX2_prizesFrom 28 3 29 := Or.inl ⟨3, by decide +kernel, by decide, rfl⟩
theorem iX2_prizesFrom_29 : zIs mX2_prizesFrom 29 (.imul) 1 30 := ⟨by decide +kernel, rfl⟩
theorem iX2_prizesFrom_30 : zLi mX2_prizesFrom 30 5 32 := Or.inr ⟨by decide +kernel, rfl⟩
theorem iX2_prizesFrom_32 : zIs mX2_prizesFrom 32 (.iadd) 1 33 := ⟨by decide +kernel, rfl⟩
theorem iX2_prizesFrom_33 : zPi mX2_prizesFrom 33 1 34 := Or.inl ⟨1, by decide +kernel, by decide, rfl⟩
theorem iX2_prizesFrom_34 : zIs mX2_prizesFrom 34 (.isub) 1 35 := ⟨by decide +kernel, rfl⟩
theorem iX2_prizesFrom_35 : zIs mX2_prizesFrom 35 (.iaload) 1 36 := ⟨by decide +kernel, rfl⟩
theorem iX2_prizesFrom_36 : zIs mX2_prizesFrom 36 (.iadd) 1 37 := ⟨by decide +kernel, rfl⟩
theorem iX2_prizesFrom_37 : zSi mX2_prizesFrom 37 4 39 := ⟨Or.inr ⟨by decide +kernel, rfl⟩, by decide⟩
theorem iX2_prizesFrom_39 : zIs mX2_prizesFrom 39 (.iinc 5 1) 3 42 := ⟨by decide +kernel, rfl⟩
theorem iX2_prizesFrom_42 : zBr mX2_prizesFrom 42 .goto 6 45 := ⟨(-36), by decide +kernel, by decide, rfl⟩
theorem iX2_prizesFrom_45 : zLi mX2_prizesFrom 45 4 47 := Or.inr ⟨by decide +kernel, rfl⟩
theorem iX2_prizesFrom_47 : zIs mX2_prizesFrom 47 (.ireturn) 1 48 := ⟨by decide +kernel, rfl⟩
end
section
theorem iX3_init_0 : zLa mX3_init 0 0 1 := Or.inl ⟨0, by decide +kernel, rfl, rfl⟩
theorem iX3_init_1 : zIs mX3_init 1 (.invokespecial 3) 3 4 := ⟨by decide +kernel, rfl⟩
theorem iX3_init_4 : zLa mX3_init 4 0 5 := Or.inl ⟨0, by decide +kernel, rfl, rfl⟩
theorem iX3_init_5 : zPi mX3_init 5 24 7 := Or.inr (Or.inl ⟨24, by decide +kernel, by decide, rfl⟩)
theorem iX3_init_7 : zIs mX3_init 7 (.newarray .int) 2 9 := ⟨by decide +kernel, rfl⟩
theorem iX3_init_9 : zIs mX3_init 9 (.putfield 9) 3 12 := ⟨by decide +kernel, rfl⟩
theorem iX3_init_12 : zLa mX3_init 12 0 13 := Or.inl ⟨0, by decide +kernel, rfl, rfl⟩
theorem iX3_init_13 : zPi mX3_init 13 24 15 := Or.inr (Or.inl ⟨24, by decide +kernel, by decide, rfl⟩)
theorem iX3_init_15 : zIs mX3_init 15 (.newarray .int) 2 17 := ⟨by decide +kernel, rfl⟩
theorem iX3_init_17 : zIs mX3_init 17 (.putfield 15) 3 20 := ⟨by decide +kernel, rfl⟩
theorem iX3_init_20 : zLa mX3_init 20 0 21 := Or.inl ⟨0, by decide +kernel, rfl, rfl⟩
theorem iX3_init_21 : zPi mX3_init 21 24 23 := Or.inr (Or.inl ⟨24, by decide +kernel, by decide, rfl⟩)
theorem iX3_init_23 : zIs mX3_init 23 (.newarray .int) 2 25 := ⟨by decide +kernel, rfl⟩
theorem iX3_init_25 : zIs mX3_init 25 (.putfield 18) 3 28 := ⟨by decide +kernel, rfl⟩
theorem iX3_init_28 : zLa mX3_init 28 0 29 := Or.inl ⟨0, by decide +kernel, rfl, rfl⟩
theorem iX3_init_29 : zPi mX3_init 29 0 30 := Or.inl ⟨0, by decide +kernel, by decide, rfl⟩
theorem iX3_init_30 : zIs mX3_init 30 (.putfield 21) 3 33 := ⟨by decide +kernel, rfl⟩
theorem iX3_init_33 : zIs mX3_init 33 (.return_) 1 34 := ⟨by decide +kernel, rfl⟩
theorem iX3_add_0 : zLa mX3_add 0 0 1 := Or.inl ⟨0, by decide +kernel, rfl, rfl⟩
theorem iX3_add_1 : zIs mX3_add 1 (.getfield 21) 3 4 := ⟨by decide +kernel, rfl⟩
theorem iX3_add_4 : zSi mX3_add 4 4 6 := ⟨Or.inr ⟨by decide +kernel, rfl⟩, by decide⟩
theorem iX3_add_6 : zLa mX3_add 6 0 7 := Or.inl ⟨0, by decide +kernel, rfl, rfl⟩
theorem iX3_add_7 : zIs mX3_add 7 (.getfield 9) 3 10 := ⟨by decide +kernel, rfl⟩
theorem iX3_add_10 : zLi mX3_add 10 4 12 := Or.inr ⟨by decide +kernel, rfl⟩
theorem iX3_add_12 : zLi mX3_add 12 1 13 := Or.inl ⟨1, by decide +kernel, rfl, rfl⟩
theorem iX3_add_13 : zIs mX3_add 13 (.iastore) 1 14 := ⟨by decide +kernel, rfl⟩
theorem iX3_add_14 : zLa mX3_add 14 0 15 := Or.inl ⟨0, by decide +kernel, rfl, rfl⟩
theorem iX3_add_15 : zIs mX3_add 15 (.getfield 15) 3 18 := ⟨by decide +kernel, rfl⟩
theorem iX3_add_18 : zLi mX3_add 18 4 20 := Or.inr ⟨by decide +kernel, rfl⟩
theorem iX3_add_20 : zLi mX3_add 20 2 21 := Or.inl ⟨2, by decide +kernel, rfl, rfl⟩
theorem iX3_add_21 : zIs mX3_add 21 (.iastore) 1 22 := ⟨by decide +kernel, rfl⟩
theorem iX3_add_22 : zLa mX3_add 22 0 23 := Or.inl ⟨0, by decide +kernel, rfl, rfl⟩
theorem iX3_add_23 : zIs mX3_add 23 (.getfield 18) 3 26 := ⟨by decide +kernel, rfl⟩
theorem iX3_add_26 : zLi mX3_add 26 4 28 := Or.inr ⟨by decide +kernel, rfl⟩
theorem iX3_add_28 : zLi mX3_add 28 3 29 := Or.inl ⟨3, by decide +kernel, rfl, rfl⟩
theorem iX3_add_29 : zIs mX3_add 29 (.iastore) 1 30 := ⟨by decide +kernel, rfl⟩
theorem iX3_add_30 : zLa mX3_add 30 0 31 := Or.inl ⟨0, by decide +kernel, rfl, rfl⟩
theorem iX3_add_31 : zIs mX3_add 31 (.dup) 1 32 := ⟨by decide +kernel, rfl⟩
theorem iX3_add_32 : zIs mX3_add 32 (.getfield 21) 3 35 := ⟨by decide +kernel, rfl⟩
theorem iX3_add_35 : zPi mX3_add 35 1 36 := Or.inl ⟨1, by decide +kernel, by decide, rfl⟩
theorem iX3_add_36 : zIs mX3_add 36 (.iadd) 1 37 := ⟨by decide +kernel, rfl⟩
theorem iX3_add_37 : zIs mX3_add 37 (.putfield 21) 3 40 := ⟨by decide +kernel, rfl⟩
theorem iX3_add_40 : zLi mX3_add 40 4 42 := Or.inr ⟨by decide +kernel, rfl⟩
theorem iX3_add_42 : zIs mX3_add 42 (.ireturn) 1 43 := ⟨by decide +kernel, rfl⟩
theorem iX3_holds_0 : zLa mX3_holds 0 0 1 := Or.inl ⟨0, by decide +kernel, rfl, rfl⟩
theorem iX3_holds_1 : zIs mX3_holds 1 (.getfield 18) 3 4 := ⟨by decide +kernel, rfl⟩
theorem iX3_holds_4 : zLi mX3_holds 4 1 5 := Or.inl ⟨1, by decide +kernel, rfl, rfl⟩
theorem iX3_holds_5 : zIs mX3_holds 5 (.iaload) 1 6 := ⟨by decide +kernel, rfl⟩
theorem iX3_holds_6 : zSi mX3_holds 6 4 8 := ⟨Or.inr ⟨by decide +kernel, rfl⟩, by decide⟩
theorem iX3_holds_8 : zLa mX3_holds 8 0 9 := Or.inl ⟨0, by decide +kernel, rfl, rfl⟩
theorem iX3_holds_9 : zIs mX3_holds 9 (.getfield 15) 3 12 := ⟨by decide +kernel, rfl⟩
theorem iX3_holds_12 : zLi mX3_holds 12 1 13 := Or.inl ⟨1, by decide +kernel, rfl, rfl⟩
theorem iX3_holds_13 : zIs mX3_holds 13 (.iaload) 1 14 := ⟨by decide +kernel, rfl⟩
theorem iX3_holds_14 : zTs mX3_holds 14 2 [64, 71, 193, 104, 127, 193, 150, 193, 178] 193 := ⟨179, 10, #[50, 57, 179, 90, 113, 179, 136, 179, 164], 50, by decide +kernel, by decide, by decide, by decide +kernel⟩
theorem iX3_holds_64 : zLi mX3_holds 64 4 66 := Or.inr ⟨by decide +kernel, rfl⟩
theorem iX3_holds_66 : zLa mX3_holds 66 3 67 := Or.inl ⟨3, by decide +kernel, rfl, rfl⟩
theorem iX3_holds_67 : zIs mX3_holds 67 (.invokestatic 25) 3 70 := ⟨by decide +kernel, rfl⟩
theorem iX3_holds_70 : zIs mX3_holds 70 (.ireturn) 1 71 := ⟨by decide +kernel, rfl⟩
theorem iX3_holds_71 : zLa mX3_holds 71 3 72 := Or.inl ⟨3, by decide +kernel, rfl, rfl⟩
theorem iX3_holds_72 : zLa mX3_holds 72 2 73 := Or.inl ⟨2, by decide +kernel, rfl, rfl⟩
theorem iX3_holds_73 : zIs mX3_holds 73 (.getfield 29) 3 76 := ⟨by decide +kernel, rfl⟩
theorem iX3_holds_76 : zLa mX3_holds 76 2 77 := Or.inl ⟨2, by decide +kernel, rfl, rfl⟩
theorem iX3_holds_77 : zIs mX3_holds 77 (.getfield 34) 3 80 := ⟨by decide +kernel, rfl⟩
theorem iX3_holds_80 : zIs mX3_holds 80 (.invokevirtual 37) 3 83 := ⟨by decide +kernel, rfl⟩
theorem iX3_holds_83 : zSi mX3_holds 83 5 85 := ⟨Or.inr ⟨by decide +kernel, rfl⟩, by decide⟩
theorem iX3_holds_85 : zLi mX3_holds 85 5 87 := Or.inr ⟨by decide +kernel, rfl⟩
theorem iX3_holds_87 : zPi mX3_holds 87 2 88 := Or.inl ⟨2, by decide +kernel, by decide, rfl⟩
theorem iX3_holds_88 : zBr mX3_holds 88 (.if_icmp .lt) 102 91 := ⟨14, by decide +kernel, by decide, rfl⟩
theorem iX3_holds_91 : zLi mX3_holds 91 5 93 := Or.inr ⟨by decide +kernel, rfl⟩
theorem iX3_holds_93 : zLi mX3_holds 93 4 95 := Or.inr ⟨by decide +kernel, rfl⟩
theorem iX3_holds_95 : zBr mX3_holds 95 (.if_icmp .le) 102 98 := ⟨7, by decide +kernel, by decide, rfl⟩
theorem iX3_holds_98 : zPi mX3_holds 98 1 99 := Or.inl ⟨1, by decide +kernel, by decide, rfl⟩
theorem iX3_holds_99 : zBr mX3_holds 99 .goto 103 102 := ⟨4, by decide +kernel, by decide, rfl⟩
theorem iX3_holds_102 : zPi mX3_holds 102 0 103 := Or.inl ⟨0, by decide +kernel, by decide, rfl⟩
theorem iX3_holds_103 : zIs mX3_holds 103 (.ireturn) 1 104 := ⟨by decide +kernel, rfl⟩
theorem iX3_holds_104 : zLa mX3_holds 104 3 105 := Or.inl ⟨3, by decide +kernel, rfl, rfl⟩
theorem iX3_holds_105 : zLa mX3_holds 105 2 106 := Or.inl ⟨2, by decide +kernel, rfl, rfl⟩
theorem iX3_holds_106 : zIs mX3_holds 106 (.getfield 34) 3 109 := ⟨by decide +kernel, rfl⟩
theorem iX3_holds_109 : zLa mX3_holds 109 2 110 := Or.inl ⟨2, by decide +kernel, rfl, rfl⟩
theorem iX3_holds_110 : zIs mX3_holds 110 (.getfield 29) 3 113 := ⟨by decide +kernel, rfl⟩
theorem iX3_holds_113 : zIs mX3_holds 113 (.invokevirtual 43) 3 116 := ⟨by decide +kernel, rfl⟩
theorem iX3_holds_116 : zLi mX3_holds 116 4 118 := Or.inr ⟨by decide +kernel, rfl⟩
theorem iX3_holds_118 : zBr mX3_holds 118 (.if_icmp .le) 125 121 := ⟨7, by decide +kernel, by decide, rfl⟩
theorem iX3_holds_121 : zPi mX3_holds 121 1 122 := Or.inl ⟨1, by decide +kernel, by decide, rfl⟩
theorem iX3_holds_122 : zBr mX3_holds 122 .goto 126 125 := ⟨4, by decide +kernel, by decide, rfl⟩
theorem iX3_holds_125 : zPi mX3_holds 125 0 126 := Or.inl ⟨0, by decide +kernel, by decide, rfl⟩
theorem iX3_holds_126 : zIs mX3_holds 126 (.ireturn) 1 127 := ⟨by decide +kernel, rfl⟩
theorem iX3_holds_127 : zLa mX3_holds 127 3 128 := Or.inl ⟨3, by decide +kernel, rfl, rfl⟩
theorem iX3_holds_128 : zLa mX3_holds 128 2 129 := Or.inl ⟨2, by decide +kernel, rfl, rfl⟩
theorem iX3_holds_129 : zIs mX3_holds 129 (.getfield 34) 3 132 := ⟨by decide +kernel, rfl⟩
theorem iX3_holds_132 : zLa mX3_holds 132 2 133 := Or.inl ⟨2, by decide +kernel, rfl, rfl⟩
theorem iX3_holds_133 : zIs mX3_holds 133 (.getfield 29) 3 136 := ⟨by decide +kernel, rfl⟩
theorem iX3_holds_136 : zIs mX3_holds 136 (.invokevirtual 43) 3 139 := ⟨by decide +kernel, rfl⟩
theorem iX3_holds_139 : zLi mX3_holds 139 4 141 := Or.inr ⟨by decide +kernel, rfl⟩
theorem iX3_holds_141 : zBr mX3_holds 141 (.if_icmp .ge) 148 144 := ⟨7, by decide +kernel, by decide, rfl⟩
theorem iX3_holds_144 : zPi mX3_holds 144 1 145 := Or.inl ⟨1, by decide +kernel, by decide, rfl⟩
theorem iX3_holds_145 : zBr mX3_holds 145 .goto 149 148 := ⟨4, by decide +kernel, by decide, rfl⟩
theorem iX3_holds_148 : zPi mX3_holds 148 0 149 := Or.inl ⟨0, by decide +kernel, by decide, rfl⟩
theorem iX3_holds_149 : zIs mX3_holds 149 (.ireturn) 1 150 := ⟨by decide +kernel, rfl⟩
theorem iX3_holds_150 : zLa mX3_holds 150 3 151 := Or.inl ⟨3, by decide +kernel, rfl, rfl⟩
theorem iX3_holds_151 : zLa mX3_holds 151 2 152 := Or.inl ⟨2, by decide +kernel, rfl, rfl⟩
theorem iX3_holds_152 : zIs mX3_holds 152 (.getfield 34) 3 155 := ⟨by decide +kernel, rfl⟩
theorem iX3_holds_155 : zIs mX3_holds 155 (.invokevirtual 46) 3 158 := ⟨by decide +kernel, rfl⟩
theorem iX3_holds_158 : zLa mX3_holds 158 3 159 := Or.inl ⟨3, by decide +kernel, rfl, rfl⟩
theorem iX3_holds_159 : zLa mX3_holds 159 2 160 := Or.inl ⟨2, by decide +kernel, rfl, rfl⟩
theorem iX3_holds_160 : zIs mX3_holds 160 (.getfield 34) 3 163 := ⟨by decide +kernel, rfl⟩
theorem iX3_holds_163 : zIs mX3_holds 163 (.invokevirtual 50) 3 166 := ⟨by decide +kernel, rfl⟩
theorem iX3_holds_166 : zIs mX3_holds 166 (.isub) 1 167 := ⟨by decide +kernel, rfl⟩
theorem iX3_holds_167 : zLi mX3_holds 167 4 169 := Or.inr ⟨by decide +kernel, rfl⟩
theorem iX3_holds_169 : zBr mX3_holds 169 (.if_icmp .le) 176 172 := ⟨7, by decide +kernel, by decide, rfl⟩
theorem iX3_holds_172 : zPi mX3_holds 172 1 173 := Or.inl ⟨1, by decide +kernel, by decide, rfl⟩
theorem iX3_holds_173 : zBr mX3_holds 173 .goto 177 176 := ⟨4, by decide +kernel, by decide, rfl⟩
theorem iX3_holds_176 : zPi mX3_holds 176 0 177 := Or.inl ⟨0, by decide +kernel, by decide, rfl⟩
theorem iX3_holds_177 : zIs mX3_holds 177 (.ireturn) 1 178 := ⟨by decide +kernel, rfl⟩
theorem iX3_holds_178 : zLa mX3_holds 178 3 179 := Or.inl ⟨3, by decide +kernel, rfl, rfl⟩
theorem iX3_holds_179 : zIs mX3_holds 179 (.getfield 53) 3 182 := ⟨by decide +kernel, rfl⟩
theorem iX3_holds_182 : zLi mX3_holds 182 4 184 := Or.inr ⟨by decide +kernel, rfl⟩
theorem iX3_holds_184 : zBr mX3_holds 184 (.if_icmp .le) 191 187 := ⟨7, by decide +kernel, by decide, rfl⟩
theorem iX3_holds_187 : zPi mX3_holds 187 1 188 := Or.inl ⟨1, by decide +kernel, by decide, rfl⟩
theorem iX3_holds_188 : zBr mX3_holds 188 .goto 192 191 := ⟨4, by decide +kernel, by decide, rfl⟩
theorem iX3_holds_191 : zPi mX3_holds 191 0 192 := Or.inl ⟨0, by decide +kernel, by decide, rfl⟩
theorem iX3_holds_192 : zIs mX3_holds 192 (.ireturn) 1 193 := ⟨by decide +kernel, rfl⟩
theorem iX3_holds_193 : zPi mX3_holds 193 0 194 := Or.inl ⟨0, by decide +kernel, by decide, rfl⟩
theorem iX3_holds_194 : zIs mX3_holds 194 (.ireturn) 1 195 := ⟨by decide +kernel, rfl⟩
theorem iX3_latestIsOutOfRange_0 : zLa mX3_latestIsOutOfRange 0 1 1 := Or.inl ⟨1, by decide +kernel, rfl, rfl⟩
theorem iX3_latestIsOutOfRange_1 : zIs mX3_latestIsOutOfRange 1 (.getfield 53) 3 4 := ⟨by decide +kernel, rfl⟩
theorem iX3_latestIsOutOfRange_4 : zPi mX3_latestIsOutOfRange 4 1 5 := Or.inl ⟨1, by decide +kernel, by decide, rfl⟩
theorem iX3_latestIsOutOfRange_5 : zIs mX3_latestIsOutOfRange 5 (.isub) 1 6 := ⟨by decide +kernel, rfl⟩
theorem iX3_latestIsOutOfRange_6 : zSi mX3_latestIsOutOfRange 6 2 7 := ⟨Or.inl ⟨2, by decide +kernel, rfl, rfl⟩, by decide⟩
theorem iX3_latestIsOutOfRange_7 : zLi mX3_latestIsOutOfRange 7 2 8 := Or.inl ⟨2, by decide +kernel, rfl, rfl⟩
theorem iX3_latestIsOutOfRange_8 : zBr mX3_latestIsOutOfRange 8 (.ifCond .lt) 20 11 := ⟨12, by decide +kernel, by decide, rfl⟩
theorem iX3_latestIsOutOfRange_11 : zLa mX3_latestIsOutOfRange 11 1 12 := Or.inl ⟨1, by decide +kernel, rfl, rfl⟩
theorem iX3_latestIsOutOfRange_12 : zIs mX3_latestIsOutOfRange 12 (.getfield 56) 3 15 := ⟨by decide +kernel, rfl⟩
theorem iX3_latestIsOutOfRange_15 : zLi mX3_latestIsOutOfRange 15 2 16 := Or.inl ⟨2, by decide +kernel, rfl, rfl⟩
theorem iX3_latestIsOutOfRange_16 : zIs mX3_latestIsOutOfRange 16 (.iaload) 1 17 := ⟨by decide +kernel, rfl⟩
theorem iX3_latestIsOutOfRange_17 : zBr mX3_latestIsOutOfRange 17 (.ifCond .eq) 22 20 := ⟨5, by decide +kernel, by decide, rfl⟩
theorem iX3_latestIsOutOfRange_20 : zPi mX3_latestIsOutOfRange 20 0 21 := Or.inl ⟨0, by decide +kernel, by decide, rfl⟩
theorem iX3_latestIsOutOfRange_21 : zIs mX3_latestIsOutOfRange 21 (.ireturn) 1 22 := ⟨by decide +kernel, rfl⟩
theorem iX3_latestIsOutOfRange_22 : zLa mX3_latestIsOutOfRange 22 1 23 := Or.inl ⟨1, by decide +kernel, rfl, rfl⟩
theorem iX3_latestIsOutOfRange_23 : zIs mX3_latestIsOutOfRange 23 (.getfield 59) 3 26 := ⟨by decide +kernel, rfl⟩
theorem iX3_latestIsOutOfRange_26 : zLi mX3_latestIsOutOfRange 26 2 27 := Or.inl ⟨2, by decide +kernel, rfl, rfl⟩
theorem iX3_latestIsOutOfRange_27 : zIs mX3_latestIsOutOfRange 27 (.iaload) 1 28 := ⟨by decide +kernel, rfl⟩
theorem iX3_latestIsOutOfRange_28 : zLi mX3_latestIsOutOfRange 28 0 29 := Or.inl ⟨0, by decide +kernel, rfl, rfl⟩
theorem iX3_latestIsOutOfRange_29 : zBr mX3_latestIsOutOfRange 29 (.if_icmp .gt) 46 32 := ⟨17, by decide +kernel, by decide, rfl⟩
theorem iX3_latestIsOutOfRange_32 : zLa mX3_latestIsOutOfRange 32 1 33 := Or.inl ⟨1, by decide +kernel, rfl, rfl⟩
theorem iX3_latestIsOutOfRange_33 : zIs mX3_latestIsOutOfRange 33 (.getfield 59) 3 36 := ⟨by decide +kernel, rfl⟩
theorem iX3_latestIsOutOfRange_36 : zLi mX3_latestIsOutOfRange 36 2 37 := Or.inl ⟨2, by decide +kernel, rfl, rfl⟩
theorem iX3_latestIsOutOfRange_37 : zIs mX3_latestIsOutOfRange 37 (.iaload) 1 38 := ⟨by decide +kernel, rfl⟩
theorem iX3_latestIsOutOfRange_38 : zIs mX3_latestIsOutOfRange 38 (.i2l) 1 39 := ⟨by decide +kernel, rfl⟩
theorem iX3_latestIsOutOfRange_39 : zLi mX3_latestIsOutOfRange 39 0 40 := Or.inl ⟨0, by decide +kernel, rfl, rfl⟩
theorem iX3_latestIsOutOfRange_40 : zIs mX3_latestIsOutOfRange 40 (.i2l) 1 41 := ⟨by decide +kernel, rfl⟩
theorem iX3_latestIsOutOfRange_41 : zIs mX3_latestIsOutOfRange 41 (.lneg) 1 42 := ⟨by decide +kernel, rfl⟩
theorem iX3_latestIsOutOfRange_42 : zIs mX3_latestIsOutOfRange 42 (.lcmp) 1 43 := ⟨by decide +kernel, rfl⟩
theorem iX3_latestIsOutOfRange_43 : zBr mX3_latestIsOutOfRange 43 (.ifCond .ge) 50 46 := ⟨7, by decide +kernel, by decide, rfl⟩
theorem iX3_latestIsOutOfRange_46 : zPi mX3_latestIsOutOfRange 46 1 47 := Or.inl ⟨1, by decide +kernel, by decide, rfl⟩
theorem iX3_latestIsOutOfRange_47 : zBr mX3_latestIsOutOfRange 47 .goto 51 50 := ⟨4, by decide +kernel, by decide, rfl⟩
theorem iX3_latestIsOutOfRange_50 : zPi mX3_latestIsOutOfRange 50 0 51 := Or.inl ⟨0, by decide +kernel, by decide, rfl⟩
theorem iX3_latestIsOutOfRange_51 : zIs mX3_latestIsOutOfRange 51 (.ireturn) 1 52 := ⟨by decide +kernel, rfl⟩
end
section
theorem iX4_init_0 : zLa mX4_init 0 0 1 := Or.inl ⟨0, by decide +kernel, rfl, rfl⟩
theorem iX4_init_1 : zIs mX4_init 1 (.invokespecial 3) 3 4 := ⟨by decide +kernel, rfl⟩
theorem iX4_init_4 : zLa mX4_init 4 0 5 := Or.inl ⟨0, by decide +kernel, rfl, rfl⟩
theorem iX4_init_5 : zPi mX4_init 5 0 6 := Or.inl ⟨0, by decide +kernel, by decide, rfl⟩
theorem iX4_init_6 : zIs mX4_init 6 (.putfield 9) 3 9 := ⟨by decide +kernel, rfl⟩
theorem iX4_init_9 : zLa mX4_init 9 0 10 := Or.inl ⟨0, by decide +kernel, rfl, rfl⟩
theorem iX4_init_10 : zPi mX4_init 10 0 11 := Or.inl ⟨0, by decide +kernel, by decide, rfl⟩
theorem iX4_init_11 : zIs mX4_init 11 (.putfield 15) 3 14 := ⟨by decide +kernel, rfl⟩
theorem iX4_init_14 : zLa mX4_init 14 0 15 := Or.inl ⟨0, by decide +kernel, rfl, rfl⟩
theorem iX4_init_15 : zPi mX4_init 15 0 16 := Or.inl ⟨0, by decide +kernel, by decide, rfl⟩
theorem iX4_init_16 : zIs mX4_init 16 (.putfield 18) 3 19 := ⟨by decide +kernel, rfl⟩
theorem iX4_init_19 : zLa mX4_init 19 0 20 := Or.inl ⟨0, by decide +kernel, rfl, rfl⟩
theorem iX4_init_20 : zPi mX4_init 20 16 22 := Or.inr (Or.inl ⟨16, by decide +kernel, by decide, rfl⟩)
theorem iX4_init_22 : zIs mX4_init 22 (.newarray .int) 2 24 := ⟨by decide +kernel, rfl⟩
theorem iX4_init_24 : zIs mX4_init 24 (.putfield 21) 3 27 := ⟨by decide +kernel, rfl⟩
theorem iX4_init_27 : zLa mX4_init 27 0 28 := Or.inl ⟨0, by decide +kernel, rfl, rfl⟩
theorem iX4_init_28 : zPi mX4_init 28 16 30 := Or.inr (Or.inl ⟨16, by decide +kernel, by decide, rfl⟩)
theorem iX4_init_30 : zIs mX4_init 30 (.newarray .int) 2 32 := ⟨by decide +kernel, rfl⟩
theorem iX4_init_32 : zIs mX4_init 32 (.putfield 25) 3 35 := ⟨by decide +kernel, rfl⟩
theorem iX4_init_35 : zLa mX4_init 35 0 36 := Or.inl ⟨0, by decide +kernel, rfl, rfl⟩
theorem iX4_init_36 : zPi mX4_init 36 0 37 := Or.inl ⟨0, by decide +kernel, by decide, rfl⟩
theorem iX4_init_37 : zIs mX4_init 37 (.putfield 28) 3 40 := ⟨by decide +kernel, rfl⟩
theorem iX4_init_40 : zLa mX4_init 40 0 41 := Or.inl ⟨0, by decide +kernel, rfl, rfl⟩
theorem iX4_init_41 : zPi mX4_init 41 8 43 := Or.inr (Or.inl ⟨8, by decide +kernel, by decide, rfl⟩)
theorem iX4_init_43 : zIs mX4_init 43 (.newarray .int) 2 45 := ⟨by decide +kernel, rfl⟩
theorem iX4_init_45 : zIs mX4_init 45 (.putfield 31) 3 48 := ⟨by decide +kernel, rfl⟩
theorem iX4_init_48 : zLa mX4_init 48 0 49 := Or.inl ⟨0, by decide +kernel, rfl, rfl⟩
theorem iX4_init_49 : zPi mX4_init 49 8 51 := Or.inr (Or.inl ⟨8, by decide +kernel, by decide, rfl⟩)
theorem iX4_init_51 : zIs mX4_init 51 (.newarray .int) 2 53 := ⟨by decide +kernel, rfl⟩
theorem iX4_init_53 : zIs mX4_init 53 (.putfield 34) 3 56 := ⟨by decide +kernel, rfl⟩
theorem iX4_init_56 : zLa mX4_init 56 0 57 := Or.inl ⟨0, by decide +kernel, rfl, rfl⟩
theorem iX4_init_57 : zPi mX4_init 57 0 58 := Or.inl ⟨0, by decide +kernel, by decide, rfl⟩
theorem iX4_init_58 : zIs mX4_init 58 (.putfield 37) 3 61 := ⟨by decide +kernel, rfl⟩
theorem iX4_init_61 : zIs mX4_init 61 (.return_) 1 62 := ⟨by decide +kernel, rfl⟩
theorem iX4_start_0 : zLa mX4_start 0 0 1 := Or.inl ⟨0, by decide +kernel, rfl, rfl⟩
theorem iX4_start_1 : zLi mX4_start 1 1 2 := Or.inl ⟨1, by decide +kernel, rfl, rfl⟩
theorem iX4_start_2 : zIs mX4_start 2 (.putfield 9) 3 5 := ⟨by decide +kernel, rfl⟩
theorem iX4_start_5 : zLa mX4_start 5 0 6 := Or.inl ⟨0, by decide +kernel, rfl, rfl⟩
theorem iX4_start_6 : zLi mX4_start 6 2 7 := Or.inl ⟨2, by decide +kernel, rfl, rfl⟩
theorem iX4_start_7 : zIs mX4_start 7 (.putfield 15) 3 10 := ⟨by decide +kernel, rfl⟩
theorem iX4_start_10 : zLa mX4_start 10 0 11 := Or.inl ⟨0, by decide +kernel, rfl, rfl⟩
theorem iX4_start_11 : zLi mX4_start 11 3 12 := Or.inl ⟨3, by decide +kernel, rfl, rfl⟩
theorem iX4_start_12 : zIs mX4_start 12 (.putfield 18) 3 15 := ⟨by decide +kernel, rfl⟩
theorem iX4_start_15 : zLa mX4_start 15 0 16 := Or.inl ⟨0, by decide +kernel, rfl, rfl⟩
theorem iX4_start_16 : zPi mX4_start 16 0 17 := Or.inl ⟨0, by decide +kernel, by decide, rfl⟩
theorem iX4_start_17 : zIs mX4_start 17 (.putfield 28) 3 20 := ⟨by decide +kernel, rfl⟩
theorem iX4_start_20 : zLa mX4_start 20 0 21 := Or.inl ⟨0, by decide +kernel, rfl, rfl⟩
theorem iX4_start_21 : zPi mX4_start 21 0 22 := Or.inl ⟨0, by decide +kernel, by decide, rfl⟩
theorem iX4_start_22 : zIs mX4_start 22 (.putfield 37) 3 25 := ⟨by decide +kernel, rfl⟩
theorem iX4_start_25 : zIs mX4_start 25 (.return_) 1 26 := ⟨by decide +kernel, rfl⟩
theorem iX4_indexOfSavepoint_0 : zPi mX4_indexOfSavepoint 0 0 1 := Or.inl ⟨0, by decide +kernel, by decide, rfl⟩
theorem iX4_indexOfSavepoint_1 : zSi mX4_indexOfSavepoint 1 2 2 := ⟨Or.inl ⟨2, by decide +kernel, rfl, rfl⟩, by decide⟩
theorem iX4_indexOfSavepoint_2 : zLi mX4_indexOfSavepoint 2 2 3 := Or.inl ⟨2, by decide +kernel, rfl, rfl⟩
theorem iX4_indexOfSavepoint_3 : zLa mX4_indexOfSavepoint 3 0 4 := Or.inl ⟨0, by decide +kernel, rfl, rfl⟩
theorem iX4_indexOfSavepoint_4 : zIs mX4_indexOfSavepoint 4 (.getfield 28) 3 7 := ⟨by decide +kernel, rfl⟩
theorem iX4_indexOfSavepoint_7 : zBr mX4_indexOfSavepoint 7 (.if_icmp .ge) 28 10 := ⟨21, by decide +kernel, by decide, rfl⟩
theorem iX4_indexOfSavepoint_10 : zLa mX4_indexOfSavepoint 10 0 11 := Or.inl ⟨0, by decide +kernel, rfl, rfl⟩
theorem iX4_indexOfSavepoint_11 : zIs mX4_indexOfSavepoint 11 (.getfield 21) 3 14 := ⟨by decide +kernel, rfl⟩
theorem iX4_indexOfSavepoint_14 : zLi mX4_indexOfSavepoint 14 2 15 := Or.inl ⟨2, by decide +kernel, rfl, rfl⟩
theorem iX4_indexOfSavepoint_15 : zIs mX4_indexOfSavepoint 15 (.iaload) 1 16 := ⟨by decide +kernel, rfl⟩
theorem iX4_indexOfSavepoint_16 : zLi mX4_indexOfSavepoint 16 1 17 := Or.inl ⟨1, by decide +kernel, rfl, rfl⟩
theorem iX4_indexOfSavepoint_17 : zBr mX4_indexOfSavepoint 17 (.if_icmp .ne) 22 20 := ⟨5, by decide +kernel, by decide, rfl⟩
theorem iX4_indexOfSavepoint_20 : zLi mX4_indexOfSavepoint 20 2 21 := Or.inl ⟨2, by decide +kernel, rfl, rfl⟩
theorem iX4_indexOfSavepoint_21 : zIs mX4_indexOfSavepoint 21 (.ireturn) 1 22 := ⟨by decide +kernel, rfl⟩
theorem iX4_indexOfSavepoint_22 : zIs mX4_indexOfSavepoint 22 (.iinc 2 1) 3 25 := ⟨by decide +kernel, rfl⟩
theorem iX4_indexOfSavepoint_25 : zBr mX4_indexOfSavepoint 25 .goto 2 28 := ⟨(-23), by decide +kernel, by decide, rfl⟩
theorem iX4_indexOfSavepoint_28 : zPi mX4_indexOfSavepoint 28 (-1) 29 := Or.inl ⟨(-1), by decide +kernel, by decide, rfl⟩
theorem iX4_indexOfSavepoint_29 : zIs mX4_indexOfSavepoint 29 (.ireturn) 1 30 := ⟨by decide +kernel, rfl⟩
theorem iX4_addSavepoint_0 : zLa mX4_addSavepoint 0 0 1 := Or.inl ⟨0, by decide +kernel, rfl, rfl⟩
theorem iX4_addSavepoint_1 : zLi mX4_addSavepoint 1 1 2 := Or.inl ⟨1, by decide +kernel, rfl, rfl⟩
theorem iX4_addSavepoint_2 : zIs mX4_addSavepoint 2 (.invokevirtual 40) 3 5 := ⟨by decide +kernel, rfl⟩
theorem iX4_addSavepoint_5 : zSi mX4_addSavepoint 5 3 6 := ⟨Or.inl ⟨3, by decide +kernel, rfl, rfl⟩, by decide⟩
theorem iX4_addSavepoint_6 : zLi mX4_addSavepoint 6 3 7 := Or.inl ⟨3, by decide +kernel, rfl, rfl⟩
theorem iX4_addSavepoint_7 : zBr mX4_addSavepoint 7 (.ifCond .lt) 15 10 := ⟨8, by decide +kernel, by decide, rfl⟩
theorem iX4_addSavepoint_10 : zLa mX4_addSavepoint 10 0 11 := Or.inl ⟨0, by decide +kernel, rfl, rfl⟩
theorem iX4_addSavepoint_11 : zLi mX4_addSavepoint 11 3 12 := Or.inl ⟨3, by decide +kernel, rfl, rfl⟩
theorem iX4_addSavepoint_12 : zIs mX4_addSavepoint 12 (.invokevirtual 44) 3 15 := ⟨by decide +kernel, rfl⟩
theorem iX4_addSavepoint_15 : zLa mX4_addSavepoint 15 0 16 := Or.inl ⟨0, by decide +kernel, rfl, rfl⟩
theorem iX4_addSavepoint_16 : zIs mX4_addSavepoint 16 (.getfield 21) 3 19 := ⟨by decide +kernel, rfl⟩
theorem iX4_addSavepoint_19 : zLa mX4_addSavepoint 19 0 20 := Or.inl ⟨0, by decide +kernel, rfl, rfl⟩
theorem iX4_addSavepoint_20 : zIs mX4_addSavepoint 20 (.getfield 28) 3 23 := ⟨by decide +kernel, rfl⟩
theorem iX4_addSavepoint_23 : zLi mX4_addSavepoint 23 1 24 := Or.inl ⟨1, by decide +kernel, rfl, rfl⟩
theorem iX4_addSavepoint_24 : zIs mX4_addSavepoint 24 (.iastore) 1 25 := ⟨by decide +kernel, rfl⟩
theorem iX4_addSavepoint_25 : zLa mX4_addSavepoint 25 0 26 := Or.inl ⟨0, by decide +kernel, rfl, rfl⟩
theorem iX4_addSavepoint_26 : zIs mX4_addSavepoint 26 (.getfield 25) 3 29 := ⟨by decide +kernel, rfl⟩
theorem iX4_addSavepoint_29 : zLa mX4_addSavepoint 29 0 30 := Or.inl ⟨0, by decide +kernel, rfl, rfl⟩
theorem iX4_addSavepoint_30 : zIs mX4_addSavepoint 30 (.getfield 28) 3 33 := ⟨by decide +kernel, rfl⟩
theorem iX4_addSavepoint_33 : zLi mX4_addSavepoint 33 2 34 := Or.inl ⟨2, by decide +kernel, rfl, rfl⟩
theorem iX4_addSavepoint_34 : zIs mX4_addSavepoint 34 (.iastore) 1 35 := ⟨by decide +kernel, rfl⟩
theorem iX4_addSavepoint_35 : zLa mX4_addSavepoint 35 0 36 := Or.inl ⟨0, by decide +kernel, rfl, rfl⟩
theorem iX4_addSavepoint_36 : zIs mX4_addSavepoint 36 (.dup) 1 37 := ⟨by decide +kernel, rfl⟩
theorem iX4_addSavepoint_37 : zIs mX4_addSavepoint 37 (.getfield 28) 3 40 := ⟨by decide +kernel, rfl⟩
theorem iX4_addSavepoint_40 : zPi mX4_addSavepoint 40 1 41 := Or.inl ⟨1, by decide +kernel, by decide, rfl⟩
theorem iX4_addSavepoint_41 : zIs mX4_addSavepoint 41 (.iadd) 1 42 := ⟨by decide +kernel, rfl⟩
theorem iX4_addSavepoint_42 : zIs mX4_addSavepoint 42 (.putfield 28) 3 45 := ⟨by decide +kernel, rfl⟩
theorem iX4_addSavepoint_45 : zIs mX4_addSavepoint 45 (.return_) 1 46 := ⟨by decide +kernel, rfl⟩
theorem iX4_removeSavepoint_0 : zLi mX4_removeSavepoint 0 1 1 := Or.inl ⟨1, by decide +kernel, rfl, rfl⟩
theorem iX4_removeSavepoint_1 : zPi mX4_removeSavepoint 1 1 2 := Or.inl ⟨1, by decide +kernel, by decide, rfl⟩
theorem iX4_removeSavepoint_2 : zIs mX4_removeSavepoint 2 (.iadd) 1 3 := ⟨by decide +kernel, rfl⟩
theorem iX4_removeSavepoint_3 : zSi mX4_removeSavepoint 3 2 4 := ⟨Or.inl ⟨2, by decide +kernel, rfl, rfl⟩, by decide⟩
theorem iX4_removeSavepoint_4 : zLi mX4_removeSavepoint 4 2 5 := Or.inl ⟨2, by decide +kernel, rfl, rfl⟩
theorem iX4_removeSavepoint_5 : zLa mX4_removeSavepoint 5 0 6 := Or.inl ⟨0, by decide +kernel, rfl, rfl⟩
theorem iX4_removeSavepoint_6 : zIs mX4_removeSavepoint 6 (.getfield 28) 3 9 := ⟨by decide +kernel, rfl⟩
theorem iX4_removeSavepoint_9 : zBr mX4_removeSavepoint 9 (.if_icmp .ge) 46 12 := ⟨37, by decide +kernel, by decide, rfl⟩
theorem iX4_removeSavepoint_12 : zLa mX4_removeSavepoint 12 0 13 := Or.inl ⟨0, by decide +kernel, rfl, rfl⟩
theorem iX4_removeSavepoint_13 : zIs mX4_removeSavepoint 13 (.getfield 21) 3 16 := ⟨by decide +kernel, rfl⟩
theorem iX4_removeSavepoint_16 : zLi mX4_removeSavepoint 16 2 17 := Or.inl ⟨2, by decide +kernel, rfl, rfl⟩
theorem iX4_removeSavepoint_17 : zPi mX4_removeSavepoint 17 1 18 := Or.inl ⟨1, by decide +kernel, by decide, rfl⟩
theorem iX4_removeSavepoint_18 : zIs mX4_removeSavepoint 18 (.isub) 1 19 := ⟨by decide +kernel, rfl⟩
theorem iX4_removeSavepoint_19 : zLa mX4_removeSavepoint 19 0 20 := Or.inl ⟨0, by decide +kernel, rfl, rfl⟩
theorem iX4_removeSavepoint_20 : zIs mX4_removeSavepoint 20 (.getfield 21) 3 23 := ⟨by decide +kernel, rfl⟩
theorem iX4_removeSavepoint_23 : zLi mX4_removeSavepoint 23 2 24 := Or.inl ⟨2, by decide +kernel, rfl, rfl⟩
theorem iX4_removeSavepoint_24 : zIs mX4_removeSavepoint 24 (.iaload) 1 25 := ⟨by decide +kernel, rfl⟩
theorem iX4_removeSavepoint_25 : zIs mX4_removeSavepoint 25 (.iastore) 1 26 := ⟨by decide +kernel, rfl⟩
theorem iX4_removeSavepoint_26 : zLa mX4_removeSavepoint 26 0 27 := Or.inl ⟨0, by decide +kernel, rfl, rfl⟩
theorem iX4_removeSavepoint_27 : zIs mX4_removeSavepoint 27 (.getfield 25) 3 30 := ⟨by decide +kernel, rfl⟩
theorem iX4_removeSavepoint_30 : zLi mX4_removeSavepoint 30 2 31 := Or.inl ⟨2, by decide +kernel, rfl, rfl⟩
theorem iX4_removeSavepoint_31 : zPi mX4_removeSavepoint 31 1 32 := Or.inl ⟨1, by decide +kernel, by decide, rfl⟩
theorem iX4_removeSavepoint_32 : zIs mX4_removeSavepoint 32 (.isub) 1 33 := ⟨by decide +kernel, rfl⟩
theorem iX4_removeSavepoint_33 : zLa mX4_removeSavepoint 33 0 34 := Or.inl ⟨0, by decide +kernel, rfl, rfl⟩
theorem iX4_removeSavepoint_34 : zIs mX4_removeSavepoint 34 (.getfield 25) 3 37 := ⟨by decide +kernel, rfl⟩
theorem iX4_removeSavepoint_37 : zLi mX4_removeSavepoint 37 2 38 := Or.inl ⟨2, by decide +kernel, rfl, rfl⟩
theorem iX4_removeSavepoint_38 : zIs mX4_removeSavepoint 38 (.iaload) 1 39 := ⟨by decide +kernel, rfl⟩
theorem iX4_removeSavepoint_39 : zIs mX4_removeSavepoint 39 (.iastore) 1 40 := ⟨by decide +kernel, rfl⟩
theorem iX4_removeSavepoint_40 : zIs mX4_removeSavepoint 40 (.iinc 2 1) 3 43 := ⟨by decide +kernel, rfl⟩
theorem iX4_removeSavepoint_43 : zBr mX4_removeSavepoint 43 .goto 4 46 := ⟨(-39), by decide +kernel, by decide, rfl⟩
theorem iX4_removeSavepoint_46 : zLa mX4_removeSavepoint 46 0 47 := Or.inl ⟨0, by decide +kernel, rfl, rfl⟩
theorem iX4_removeSavepoint_47 : zIs mX4_removeSavepoint 47 (.dup) 1 48 := ⟨by decide +kernel, rfl⟩
theorem iX4_removeSavepoint_48 : zIs mX4_removeSavepoint 48 (.getfield 28) 3 51 := ⟨by decide +kernel, rfl⟩
theorem iX4_removeSavepoint_51 : zPi mX4_removeSavepoint 51 1 52 := Or.inl ⟨1, by decide +kernel, by decide, rfl⟩
theorem iX4_removeSavepoint_52 : zIs mX4_removeSavepoint 52 (.isub) 1 53 := ⟨by decide +kernel, rfl⟩
theorem iX4_removeSavepoint_53 : zIs mX4_removeSavepoint 53 (.putfield 28) 3 56 := ⟨by decide +kernel, rfl⟩
theorem iX4_removeSavepoint_56 : zIs mX4_removeSavepoint 56 (.return_) 1 57 := ⟨by decide +kernel, rfl⟩
theorem iX4_addGuard_0 : zLa mX4_addGuard 0 0 1 := Or.inl ⟨0, by decide +kernel, rfl, rfl⟩
theorem iX4_addGuard_1 : zIs mX4_addGuard 1 (.getfield 31) 3 4 := ⟨by decide +kernel, rfl⟩
theorem iX4_addGuard_4 : zLa mX4_addGuard 4 0 5 := Or.inl ⟨0, by decide +kernel, rfl, rfl⟩
theorem iX4_addGuard_5 : zIs mX4_addGuard 5 (.getfield 37) 3 8 := ⟨by decide +kernel, rfl⟩
theorem iX4_addGuard_8 : zLi mX4_addGuard 8 1 9 := Or.inl ⟨1, by decide +kernel, rfl, rfl⟩
theorem iX4_addGuard_9 : zIs mX4_addGuard 9 (.iastore) 1 10 := ⟨by decide +kernel, rfl⟩
theorem iX4_addGuard_10 : zLa mX4_addGuard 10 0 11 := Or.inl ⟨0, by decide +kernel, rfl, rfl⟩
theorem iX4_addGuard_11 : zIs mX4_addGuard 11 (.getfield 34) 3 14 := ⟨by decide +kernel, rfl⟩
theorem iX4_addGuard_14 : zLa mX4_addGuard 14 0 15 := Or.inl ⟨0, by decide +kernel, rfl, rfl⟩
theorem iX4_addGuard_15 : zIs mX4_addGuard 15 (.getfield 37) 3 18 := ⟨by decide +kernel, rfl⟩
theorem iX4_addGuard_18 : zLi mX4_addGuard 18 2 19 := Or.inl ⟨2, by decide +kernel, rfl, rfl⟩
theorem iX4_addGuard_19 : zIs mX4_addGuard 19 (.iastore) 1 20 := ⟨by decide +kernel, rfl⟩
theorem iX4_addGuard_20 : zLa mX4_addGuard 20 0 21 := Or.inl ⟨0, by decide +kernel, rfl, rfl⟩
theorem iX4_addGuard_21 : zIs mX4_addGuard 21 (.dup) 1 22 := ⟨by decide +kernel, rfl⟩
theorem iX4_addGuard_22 : zIs mX4_addGuard 22 (.getfield 37) 3 25 := ⟨by decide +kernel, rfl⟩
theorem iX4_addGuard_25 : zPi mX4_addGuard 25 1 26 := Or.inl ⟨1, by decide +kernel, by decide, rfl⟩
theorem iX4_addGuard_26 : zIs mX4_addGuard 26 (.iadd) 1 27 := ⟨by decide +kernel, rfl⟩
theorem iX4_addGuard_27 : zIs mX4_addGuard 27 (.putfield 37) 3 30 := ⟨by decide +kernel, rfl⟩
theorem iX4_addGuard_30 : zIs mX4_addGuard 30 (.return_) 1 31 := ⟨by decide +kernel, rfl⟩
end
section
theorem iX5_init_0 : zLa mX5_init 0 0 1 := Or.inl ⟨0, by decide +kernel, rfl, rfl⟩
theorem iX5_init_1 : zIs mX5_init 1 (.invokespecial 3) 3 4 := ⟨by decide +kernel, rfl⟩
theorem iX5_init_4 : zLa mX5_init 4 0 5 := Or.inl ⟨0, by decide +kernel, rfl, rfl⟩
theorem iX5_init_5 : zPi mX5_init 5 400 8 := Or.inr (Or.inr (Or.inl ⟨400, by decide +kernel, by decide, rfl⟩))
theorem iX5_init_8 : zIs mX5_init 8 (.newarray .int) 2 10 := ⟨by decide +kernel, rfl⟩
theorem iX5_init_10 : zIs mX5_init 10 (.putfield 9) 3 13 := ⟨by decide +kernel, rfl⟩
theorem iX5_init_13 : zLa mX5_init 13 0 14 := Or.inl ⟨0, by decide +kernel, rfl, rfl⟩
theorem iX5_init_14 : zPi mX5_init 14 400 17 := Or.inr (Or.inr (Or.inl ⟨400, by decide +kernel, by decide, rfl⟩))
theorem iX5_init_17 : zIs mX5_init 17 (.newarray .int) 2 19 := ⟨by decide +kernel, rfl⟩
theorem iX5_init_19 : zIs mX5_init 19 (.putfield 15) 3 22 := ⟨by decide +kernel, rfl⟩
theorem iX5_init_22 : zLa mX5_init 22 0 23 := Or.inl ⟨0, by decide +kernel, rfl, rfl⟩
theorem iX5_init_23 : zPi mX5_init 23 400 26 := Or.inr (Or.inr (Or.inl ⟨400, by decide +kernel, by decide, rfl⟩))
theorem iX5_init_26 : zIs mX5_init 26 (.newarray .int) 2 28 := ⟨by decide +kernel, rfl⟩
theorem iX5_init_28 : zIs mX5_init 28 (.putfield 18) 3 31 := ⟨by decide +kernel, rfl⟩
theorem iX5_init_31 : zLa mX5_init 31 0 32 := Or.inl ⟨0, by decide +kernel, rfl, rfl⟩
theorem iX5_init_32 : zPi mX5_init 32 400 35 := Or.inr (Or.inr (Or.inl ⟨400, by decide +kernel, by decide, rfl⟩))
theorem iX5_init_35 : zIs mX5_init 35 (.newarray .int) 2 37 := ⟨by decide +kernel, rfl⟩
theorem iX5_init_37 : zIs mX5_init 37 (.putfield 21) 3 40 := ⟨by decide +kernel, rfl⟩
theorem iX5_init_40 : zLa mX5_init 40 0 41 := Or.inl ⟨0, by decide +kernel, rfl, rfl⟩
theorem iX5_init_41 : zPi mX5_init 41 400 44 := Or.inr (Or.inr (Or.inl ⟨400, by decide +kernel, by decide, rfl⟩))
theorem iX5_init_44 : zIs mX5_init 44 (.newarray .boolean) 2 46 := ⟨by decide +kernel, rfl⟩
theorem iX5_init_46 : zIs mX5_init 46 (.putfield 24) 3 49 := ⟨by decide +kernel, rfl⟩
theorem iX5_init_49 : zLa mX5_init 49 0 50 := Or.inl ⟨0, by decide +kernel, rfl, rfl⟩
theorem iX5_init_50 : zPi mX5_init 50 0 51 := Or.inl ⟨0, by decide +kernel, by decide, rfl⟩
theorem iX5_init_51 : zIs mX5_init 51 (.putfield 28) 3 54 := ⟨by decide +kernel, rfl⟩
theorem iX5_init_54 : zLa mX5_init 54 0 55 := Or.inl ⟨0, by decide +kernel, rfl, rfl⟩
theorem iX5_init_55 : zPi mX5_init 55 60 57 := Or.inr (Or.inl ⟨60, by decide +kernel, by decide, rfl⟩)
theorem iX5_init_57 : zIs mX5_init 57 (.newarray .int) 2 59 := ⟨by decide +kernel, rfl⟩
theorem iX5_init_59 : zIs mX5_init 59 (.putfield 32) 3 62 := ⟨by decide +kernel, rfl⟩
theorem iX5_init_62 : zLa mX5_init 62 0 63 := Or.inl ⟨0, by decide +kernel, rfl, rfl⟩
theorem iX5_init_63 : zPi mX5_init 63 300 66 := Or.inr (Or.inr (Or.inl ⟨300, by decide +kernel, by decide, rfl⟩))
theorem iX5_init_66 : zIs mX5_init 66 (.newarray .int) 2 68 := ⟨by decide +kernel, rfl⟩
theorem iX5_init_68 : zIs mX5_init 68 (.putfield 35) 3 71 := ⟨by decide +kernel, rfl⟩
theorem iX5_init_71 : zLa mX5_init 71 0 72 := Or.inl ⟨0, by decide +kernel, rfl, rfl⟩
theorem iX5_init_72 : zPi mX5_init 72 480 75 := Or.inr (Or.inr (Or.inl ⟨480, by decide +kernel, by decide, rfl⟩))
theorem iX5_init_75 : zIs mX5_init 75 (.newarray .int) 2 77 := ⟨by decide +kernel, rfl⟩
theorem iX5_init_77 : zIs mX5_init 77 (.putfield 38) 3 80 := ⟨by decide +kernel, rfl⟩
theorem iX5_init_80 : zLa mX5_init 80 0 81 := Or.inl ⟨0, by decide +kernel, rfl, rfl⟩
theorem iX5_init_81 : zLa mX5_init 81 1 82 := Or.inl ⟨1, by decide +kernel, rfl, rfl⟩
theorem iX5_init_82 : zIs mX5_init 82 (.putfield 41) 3 85 := ⟨by decide +kernel, rfl⟩
theorem iX5_init_85 : zIs mX5_init 85 (.return_) 1 86 := ⟨by decide +kernel, rfl⟩
theorem iX5_hasEvent_0 : zLi mX5_hasEvent 0 1 1 := Or.inl ⟨1, by decide +kernel, rfl, rfl⟩
theorem iX5_hasEvent_1 : zBr mX5_hasEvent 1 (.ifCond .lt) 16 4 := ⟨15, by decide +kernel, by decide, rfl⟩
theorem iX5_hasEvent_4 : zLi mX5_hasEvent 4 1 5 := Or.inl ⟨1, by decide +kernel, rfl, rfl⟩
theorem iX5_hasEvent_5 : zLa mX5_hasEvent 5 0 6 := Or.inl ⟨0, by decide +kernel, rfl, rfl⟩
theorem iX5_hasEvent_6 : zIs mX5_hasEvent 6 (.getfield 28) 3 9 := ⟨by decide +kernel, rfl⟩
theorem iX5_hasEvent_9 : zBr mX5_hasEvent 9 (.if_icmp .ge) 16 12 := ⟨7, by decide +kernel, by decide, rfl⟩
theorem iX5_hasEvent_12 : zPi mX5_hasEvent 12 1 13 := Or.inl ⟨1, by decide +kernel, by decide, rfl⟩
theorem iX5_hasEvent_13 : zBr mX5_hasEvent 13 .goto 17 16 := ⟨4, by decide +kernel, by decide, rfl⟩
theorem iX5_hasEvent_16 : zPi mX5_hasEvent 16 0 17 := Or.inl ⟨0, by decide +kernel, by decide, rfl⟩
theorem iX5_hasEvent_17 : zIs mX5_hasEvent 17 (.ireturn) 1 18 := ⟨by decide +kernel, rfl⟩
theorem iX5_append_0 : zLa mX5_append 0 0 1 := Or.inl ⟨0, by decide +kernel, rfl, rfl⟩
theorem iX5_append_1 : zIs mX5_append 1 (.getfield 28) 3 4 := ⟨by decide +kernel, rfl⟩
theorem iX5_append_4 : zSi mX5_append 4 5 6 := ⟨Or.inr ⟨by decide +kernel, rfl⟩, by decide⟩
theorem iX5_append_6 : zLa mX5_append 6 0 7 := Or.inl ⟨0, by decide +kernel, rfl, rfl⟩
theorem iX5_append_7 : zIs mX5_append 7 (.getfield 9) 3 10 := ⟨by decide +kernel, rfl⟩
theorem iX5_append_10 : zLi mX5_append 10 5 12 := Or.inr ⟨by decide +kernel, rfl⟩
theorem iX5_append_12 : zLi mX5_append 12 1 13 := Or.inl ⟨1, by decide +kernel, rfl, rfl⟩
theorem iX5_append_13 : zIs mX5_append 13 (.iastore) 1 14 := ⟨by decide +kernel, rfl⟩
theorem iX5_append_14 : zLa mX5_append 14 0 15 := Or.inl ⟨0, by decide +kernel, rfl, rfl⟩
theorem iX5_append_15 : zIs mX5_append 15 (.getfield 15) 3 18 := ⟨by decide +kernel, rfl⟩
theorem iX5_append_18 : zLi mX5_append 18 5 20 := Or.inr ⟨by decide +kernel, rfl⟩
theorem iX5_append_20 : zLi mX5_append 20 2 21 := Or.inl ⟨2, by decide +kernel, rfl, rfl⟩
theorem iX5_append_21 : zIs mX5_append 21 (.iastore) 1 22 := ⟨by decide +kernel, rfl⟩
theorem iX5_append_22 : zLa mX5_append 22 0 23 := Or.inl ⟨0, by decide +kernel, rfl, rfl⟩
theorem iX5_append_23 : zIs mX5_append 23 (.getfield 18) 3 26 := ⟨by decide +kernel, rfl⟩
theorem iX5_append_26 : zLi mX5_append 26 5 28 := Or.inr ⟨by decide +kernel, rfl⟩
theorem iX5_append_28 : zLi mX5_append 28 3 29 := Or.inl ⟨3, by decide +kernel, rfl, rfl⟩
theorem iX5_append_29 : zIs mX5_append 29 (.iastore) 1 30 := ⟨by decide +kernel, rfl⟩
theorem iX5_append_30 : zLa mX5_append 30 0 31 := Or.inl ⟨0, by decide +kernel, rfl, rfl⟩
theorem iX5_append_31 : zIs mX5_append 31 (.getfield 21) 3 34 := ⟨by decide +kernel, rfl⟩
theorem iX5_append_34 : zLi mX5_append 34 5 36 := Or.inr ⟨by decide +kernel, rfl⟩
theorem iX5_append_36 : zLi mX5_append 36 4 38 := Or.inr ⟨by decide +kernel, rfl⟩
theorem iX5_append_38 : zIs mX5_append 38 (.iastore) 1 39 := ⟨by decide +kernel, rfl⟩
theorem iX5_append_39 : zLa mX5_append 39 0 40 := Or.inl ⟨0, by decide +kernel, rfl, rfl⟩
theorem iX5_append_40 : zIs mX5_append 40 (.getfield 24) 3 43 := ⟨by decide +kernel, rfl⟩
theorem iX5_append_43 : zLi mX5_append 43 5 45 := Or.inr ⟨by decide +kernel, rfl⟩
theorem iX5_append_45 : zPi mX5_append 45 0 46 := Or.inl ⟨0, by decide +kernel, by decide, rfl⟩
theorem iX5_append_46 : zIs mX5_append 46 (.bastore) 1 47 := ⟨by decide +kernel, rfl⟩
theorem iX5_append_47 : zLa mX5_append 47 0 48 := Or.inl ⟨0, by decide +kernel, rfl, rfl⟩
theorem iX5_append_48 : zIs mX5_append 48 (.dup) 1 49 := ⟨by decide +kernel, rfl⟩
theorem iX5_append_49 : zIs mX5_append 49 (.getfield 28) 3 52 := ⟨by decide +kernel, rfl⟩
theorem iX5_append_52 : zPi mX5_append 52 1 53 := Or.inl ⟨1, by decide +kernel, by decide, rfl⟩
theorem iX5_append_53 : zIs mX5_append 53 (.iadd) 1 54 := ⟨by decide +kernel, rfl⟩
theorem iX5_append_54 : zIs mX5_append 54 (.putfield 28) 3 57 := ⟨by decide +kernel, rfl⟩
theorem iX5_append_57 : zLa mX5_append 57 0 58 := Or.inl ⟨0, by decide +kernel, rfl, rfl⟩
theorem iX5_append_58 : zLi mX5_append 58 5 60 := Or.inr ⟨by decide +kernel, rfl⟩
theorem iX5_append_60 : zPi mX5_append 60 1 61 := Or.inl ⟨1, by decide +kernel, by decide, rfl⟩
theorem iX5_append_61 : zIs mX5_append 61 (.invokevirtual 45) 3 64 := ⟨by decide +kernel, rfl⟩
theorem iX5_append_64 : zIs mX5_append 64 (.return_) 1 65 := ⟨by decide +kernel, rfl⟩
theorem iX5_cutTo_0 : zLa mX5_cutTo 0 0 1 := Or.inl ⟨0, by decide +kernel, rfl, rfl⟩
theorem iX5_cutTo_1 : zIs mX5_cutTo 1 (.getfield 28) 3 4 := ⟨by decide +kernel, rfl⟩
theorem iX5_cutTo_4 : zPi mX5_cutTo 4 1 5 := Or.inl ⟨1, by decide +kernel, by decide, rfl⟩
theorem iX5_cutTo_5 : zIs mX5_cutTo 5 (.isub) 1 6 := ⟨by decide +kernel, rfl⟩
theorem iX5_cutTo_6 : zSi mX5_cutTo 6 2 7 := ⟨Or.inl ⟨2, by decide +kernel, rfl, rfl⟩, by decide⟩
theorem iX5_cutTo_7 : zLi mX5_cutTo 7 2 8 := Or.inl ⟨2, by decide +kernel, rfl, rfl⟩
theorem iX5_cutTo_8 : zLi mX5_cutTo 8 1 9 := Or.inl ⟨1, by decide +kernel, rfl, rfl⟩
theorem iX5_cutTo_9 : zBr mX5_cutTo 9 (.if_icmp .lt) 29 12 := ⟨20, by decide +kernel, by decide, rfl⟩
theorem iX5_cutTo_12 : zLa mX5_cutTo 12 0 13 := Or.inl ⟨0, by decide +kernel, rfl, rfl⟩
theorem iX5_cutTo_13 : zLi mX5_cutTo 13 2 14 := Or.inl ⟨2, by decide +kernel, rfl, rfl⟩
theorem iX5_cutTo_14 : zPi mX5_cutTo 14 0 15 := Or.inl ⟨0, by decide +kernel, by decide, rfl⟩
theorem iX5_cutTo_15 : zIs mX5_cutTo 15 (.invokevirtual 45) 3 18 := ⟨by decide +kernel, rfl⟩
theorem iX5_cutTo_18 : zLa mX5_cutTo 18 0 19 := Or.inl ⟨0, by decide +kernel, rfl, rfl⟩
theorem iX5_cutTo_19 : zLi mX5_cutTo 19 2 20 := Or.inl ⟨2, by decide +kernel, rfl, rfl⟩
theorem iX5_cutTo_20 : zIs mX5_cutTo 20 (.putfield 28) 3 23 := ⟨by decide +kernel, rfl⟩
theorem iX5_cutTo_23 : zIs mX5_cutTo 23 (.iinc 2 (-1)) 3 26 := ⟨by decide +kernel, rfl⟩
theorem iX5_cutTo_26 : zBr mX5_cutTo 26 .goto 7 29 := ⟨(-19), by decide +kernel, by decide, rfl⟩
theorem iX5_cutTo_29 : zIs mX5_cutTo 29 (.return_) 1 30 := ⟨by decide +kernel, rfl⟩
theorem iX5_setCounting_0 : zLa mX5_setCounting 0 0 1 := Or.inl ⟨0, by decide +kernel, rfl, rfl⟩
theorem iX5_setCounting_1 : zIs mX5_setCounting 1 (.getfield 24) 3 4 := ⟨by decide +kernel, rfl⟩
theorem iX5_setCounting_4 : zLi mX5_setCounting 4 1 5 := Or.inl ⟨1, by decide +kernel, rfl, rfl⟩
theorem iX5_setCounting_5 : zIs mX5_setCounting 5 (.baload) 1 6 := ⟨by decide +kernel, rfl⟩
theorem iX5_setCounting_6 : zLi mX5_setCounting 6 2 7 := Or.inl ⟨2, by decide +kernel, rfl, rfl⟩
theorem iX5_setCounting_7 : zBr mX5_setCounting 7 (.if_icmp .ne) 11 10 := ⟨4, by decide +kernel, by decide, rfl⟩
theorem iX5_setCounting_10 : zIs mX5_setCounting 10 (.return_) 1 11 := ⟨by decide +kernel, rfl⟩
theorem iX5_setCounting_11 : zLa mX5_setCounting 11 0 12 := Or.inl ⟨0, by decide +kernel, rfl, rfl⟩
theorem iX5_setCounting_12 : zIs mX5_setCounting 12 (.getfield 24) 3 15 := ⟨by decide +kernel, rfl⟩
theorem iX5_setCounting_15 : zLi mX5_setCounting 15 1 16 := Or.inl ⟨1, by decide +kernel, rfl, rfl⟩
theorem iX5_setCounting_16 : zLi mX5_setCounting 16 2 17 := Or.inl ⟨2, by decide +kernel, rfl, rfl⟩
theorem iX5_setCounting_17 : zIs mX5_setCounting 17 (.bastore) 1 18 := ⟨by decide +kernel, rfl⟩
theorem iX5_setCounting_18 : zLi mX5_setCounting 18 2 19 := Or.inl ⟨2, by decide +kernel, rfl, rfl⟩
theorem iX5_setCounting_19 : zBr mX5_setCounting 19 (.ifCond .eq) 26 22 := ⟨7, by decide +kernel, by decide, rfl⟩
theorem iX5_setCounting_22 : zPi mX5_setCounting 22 1 23 := Or.inl ⟨1, by decide +kernel, by decide, rfl⟩
theorem iX5_setCounting_23 : zBr mX5_setCounting 23 .goto 27 26 := ⟨4, by decide +kernel, by decide, rfl⟩
theorem iX5_setCounting_26 : zPi mX5_setCounting 26 (-1) 27 := Or.inl ⟨(-1), by decide +kernel, by decide, rfl⟩
theorem iX5_setCounting_27 : zSi mX5_setCounting 27 3 28 := ⟨Or.inl ⟨3, by decide +kernel, rfl, rfl⟩, by decide⟩
theorem iX5_setCounting_28 : zLa mX5_setCounting 28 0 29 := Or.inl ⟨0, by decide +kernel, rfl, rfl⟩
theorem iX5_setCounting_29 : zIs mX5_setCounting 29 (.getfield 9) 3 32 := ⟨by decide +kernel, rfl⟩
theorem iX5_setCounting_32 : zLi mX5_setCounting 32 1 33 := Or.inl ⟨1, by decide +kernel, rfl, rfl⟩
theorem iX5_setCounting_33 : zIs mX5_setCounting 33 (.iaload) 1 34 := ⟨by decide +kernel, rfl⟩
theorem iX5_setCounting_34 : zBr mX5_setCounting 34 (.ifCond .ne) 72 37 := ⟨38, by decide +kernel, by decide, rfl⟩
theorem iX5_setCounting_37 : zLa mX5_setCounting 37 0 38 := Or.inl ⟨0, by decide +kernel, rfl, rfl⟩
theorem iX5_setCounting_38 : zIs mX5_setCounting 38 (.getfield 35) 3 41 := ⟨by decide +kernel, rfl⟩
theorem iX5_setCounting_41 : zLa mX5_setCounting 41 0 42 := Or.inl ⟨0, by decide +kernel, rfl, rfl⟩
theorem iX5_setCounting_42 : zLa mX5_setCounting 42 0 43 := Or.inl ⟨0, by decide +kernel, rfl, rfl⟩
theorem iX5_setCounting_43 : zIs mX5_setCounting 43 (.getfield 18) 3 46 := ⟨by decide +kernel, rfl⟩
theorem iX5_setCounting_46 : zLi mX5_setCounting 46 1 47 := Or.inl ⟨1, by decide +kernel, rfl, rfl⟩
theorem iX5_setCounting_47 : zIs mX5_setCounting 47 (.iaload) 1 48 := ⟨by decide +kernel, rfl⟩
theorem iX5_setCounting_48 : zLa mX5_setCounting 48 0 49 := Or.inl ⟨0, by decide +kernel, rfl, rfl⟩
theorem iX5_setCounting_49 : zIs mX5_setCounting 49 (.getfield 15) 3 52 := ⟨by decide +kernel, rfl⟩
theorem iX5_setCounting_52 : zLi mX5_setCounting 52 1 53 := Or.inl ⟨1, by decide +kernel, rfl, rfl⟩
theorem iX5_setCounting_53 : zIs mX5_setCounting 53 (.iaload) 1 54 := ⟨by decide +kernel, rfl⟩
theorem iX5_setCounting_54 : zIs mX5_setCounting 54 (.invokevirtual 49) 3 57 := ⟨by decide +kernel, rfl⟩
theorem iX5_setCounting_57 : zIs mX5_setCounting 57 (.dup2) 1 58 := ⟨by decide +kernel, rfl⟩
theorem iX5_setCounting_58 : zIs mX5_setCounting 58 (.iaload) 1 59 := ⟨by decide +kernel, rfl⟩
theorem iX5_setCounting_59 : zLi mX5_setCounting 59 3 60 := Or.inl ⟨3, by decide +kernel, rfl, rfl⟩
theorem iX5_setCounting_60 : zLa mX5_setCounting 60 0 61 := Or.inl ⟨0, by decide +kernel, rfl, rfl⟩
theorem iX5_setCounting_61 : zIs mX5_setCounting 61 (.getfield 21) 3 64 := ⟨by decide +kernel, rfl⟩
theorem iX5_setCounting_64 : zLi mX5_setCounting 64 1 65 := Or.inl ⟨1, by decide +kernel, rfl, rfl⟩
theorem iX5_setCounting_65 : zIs mX5_setCounting 65 (.iaload) 1 66 := ⟨by decide +kernel, rfl⟩
theorem iX5_setCounting_66 : zIs mX5_setCounting 66 (.imul) 1 67 := ⟨by decide +kernel, rfl⟩
theorem iX5_setCounting_67 : zIs mX5_setCounting 67 (.iadd) 1 68 := ⟨by decide +kernel, rfl⟩
theorem iX5_setCounting_68 : zIs mX5_setCounting 68 (.iastore) 1 69 := ⟨by decide +kernel, rfl⟩
theorem iX5_setCounting_69 : zBr mX5_setCounting 69 .goto 132 72 := ⟨63, by decide +kernel, by decide, rfl⟩
theorem iX5_setCounting_72 : zLa mX5_setCounting 72 0 73 := Or.inl ⟨0, by decide +kernel, rfl, rfl⟩
theorem iX5_setCounting_73 : zIs mX5_setCounting 73 (.getfield 9) 3 76 := ⟨by decide +kernel, rfl⟩
theorem iX5_setCounting_76 : zLi mX5_setCounting 76 1 77 := Or.inl ⟨1, by decide +kernel, rfl, rfl⟩
theorem iX5_setCounting_77 : zIs mX5_setCounting 77 (.iaload) 1 78 := ⟨by decide +kernel, rfl⟩
theorem iX5_setCounting_78 : zPi mX5_setCounting 78 1 79 := Or.inl ⟨1, by decide +kernel, by decide, rfl⟩
theorem iX5_setCounting_79 : zBr mX5_setCounting 79 (.if_icmp .ne) 107 82 := ⟨28, by decide +kernel, by decide, rfl⟩
theorem iX5_setCounting_82 : zLa mX5_setCounting 82 0 83 := Or.inl ⟨0, by decide +kernel, rfl, rfl⟩
theorem iX5_setCounting_83 : zIs mX5_setCounting 83 (.getfield 32) 3 86 := ⟨by decide +kernel, rfl⟩
theorem iX5_setCounting_86 : zLa mX5_setCounting 86 0 87 := Or.inl ⟨0, by decide +kernel, rfl, rfl⟩
theorem iX5_setCounting_87 : zIs mX5_setCounting 87 (.getfield 18) 3 90 := ⟨by decide +kernel, rfl⟩
theorem iX5_setCounting_90 : zLi mX5_setCounting 90 1 91 := Or.inl ⟨1, by decide +kernel, rfl, rfl⟩
theorem iX5_setCounting_91 : zIs mX5_setCounting 91 (.iaload) 1 92 := ⟨by decide +kernel, rfl⟩
theorem iX5_setCounting_92 : zIs mX5_setCounting 92 (.dup2) 1 93 := ⟨by decide +kernel, rfl⟩
theorem iX5_setCounting_93 : zIs mX5_setCounting 93 (.iaload) 1 94 := ⟨by decide +kernel, rfl⟩
theorem iX5_setCounting_94 : zLi mX5_setCounting 94 3 95 := Or.inl ⟨3, by decide +kernel, rfl, rfl⟩
theorem iX5_setCounting_95 : zLa mX5_setCounting 95 0 96 := Or.inl ⟨0, by decide +kernel, rfl, rfl⟩
theorem iX5_setCounting_96 : zIs mX5_setCounting 96 (.getfield 21) 3 99 := ⟨by decide +kernel, rfl⟩
theorem iX5_setCounting_99 : zLi mX5_setCounting 99 1 100 := Or.inl ⟨1, by decide +kernel, rfl, rfl⟩
theorem iX5_setCounting_100 : zIs mX5_setCounting 100 (.iaload) 1 101 := ⟨by decide +kernel, rfl⟩
theorem iX5_setCounting_101 : zIs mX5_setCounting 101 (.imul) 1 102 := ⟨by decide +kernel, rfl⟩
theorem iX5_setCounting_102 : zIs mX5_setCounting 102 (.iadd) 1 103 := ⟨by decide +kernel, rfl⟩
theorem iX5_setCounting_103 : zIs mX5_setCounting 103 (.iastore) 1 104 := ⟨by decide +kernel, rfl⟩
theorem iX5_setCounting_104 : zBr mX5_setCounting 104 .goto 132 107 := ⟨28, by decide +kernel, by decide, rfl⟩
theorem iX5_setCounting_107 : zLa mX5_setCounting 107 0 108 := Or.inl ⟨0, by decide +kernel, rfl, rfl⟩
theorem iX5_setCounting_108 : zIs mX5_setCounting 108 (.getfield 38) 3 111 := ⟨by decide +kernel, rfl⟩
theorem iX5_setCounting_111 : zLa mX5_setCounting 111 0 112 := Or.inl ⟨0, by decide +kernel, rfl, rfl⟩
theorem iX5_setCounting_112 : zIs mX5_setCounting 112 (.getfield 18) 3 115 := ⟨by decide +kernel, rfl⟩
theorem iX5_setCounting_115 : zLi mX5_setCounting 115 1 116 := Or.inl ⟨1, by decide +kernel, rfl, rfl⟩
theorem iX5_setCounting_116 : zIs mX5_setCounting 116 (.iaload) 1 117 := ⟨by decide +kernel, rfl⟩
theorem iX5_setCounting_117 : zPi mX5_setCounting 117 8 119 := Or.inr (Or.inl ⟨8, by decide +kernel, by decide, rfl⟩)
theorem iX5_setCounting_119 : zIs mX5_setCounting 119 (.imul) 1 120 := ⟨by decide +kernel, rfl⟩
theorem iX5_setCounting_120 : zLa mX5_setCounting 120 0 121 := Or.inl ⟨0, by decide +kernel, rfl, rfl⟩
theorem iX5_setCounting_121 : zIs mX5_setCounting 121 (.getfield 21) 3 124 := ⟨by decide +kernel, rfl⟩
theorem iX5_setCounting_124 : zLi mX5_setCounting 124 1 125 := Or.inl ⟨1, by decide +kernel, rfl, rfl⟩
theorem iX5_setCounting_125 : zIs mX5_setCounting 125 (.iaload) 1 126 := ⟨by decide +kernel, rfl⟩
theorem iX5_setCounting_126 : zIs mX5_setCounting 126 (.iadd) 1 127 := ⟨by decide +kernel, rfl⟩
theorem iX5_setCounting_127 : zIs mX5_setCounting 127 (.dup2) 1 128 := ⟨by decide +kernel, rfl⟩
theorem iX5_setCounting_128 : zIs mX5_setCounting 128 (.iaload) 1 129 := ⟨by decide +kernel, rfl⟩
theorem iX5_setCounting_129 : zLi mX5_setCounting 129 3 130 := Or.inl ⟨3, by decide +kernel, rfl, rfl⟩
theorem iX5_setCounting_130 : zIs mX5_setCounting 130 (.iadd) 1 131 := ⟨by decide +kernel, rfl⟩
theorem iX5_setCounting_131 : zIs mX5_setCounting 131 (.iastore) 1 132 := ⟨by decide +kernel, rfl⟩
theorem iX5_setCounting_132 : zIs mX5_setCounting 132 (.return_) 1 133 := ⟨by decide +kernel, rfl⟩
theorem iX5_markIndex_0 : zLi mX5_markIndex 0 1 1 := Or.inl ⟨1, by decide +kernel, rfl, rfl⟩
theorem iX5_markIndex_1 : zPi mX5_markIndex 1 5 2 := Or.inl ⟨5, by decide +kernel, by decide, rfl⟩
theorem iX5_markIndex_2 : zIs mX5_markIndex 2 (.imul) 1 3 := ⟨by decide +kernel, rfl⟩
theorem iX5_markIndex_3 : zLi mX5_markIndex 3 2 4 := Or.inl ⟨2, by decide +kernel, rfl, rfl⟩
theorem iX5_markIndex_4 : zIs mX5_markIndex 4 (.iadd) 1 5 := ⟨by decide +kernel, rfl⟩
theorem iX5_markIndex_5 : zLa mX5_markIndex 5 0 6 := Or.inl ⟨0, by decide +kernel, rfl, rfl⟩
theorem iX5_markIndex_6 : zIs mX5_markIndex 6 (.getfield 41) 3 9 := ⟨by decide +kernel, rfl⟩
theorem iX5_markIndex_9 : zIs mX5_markIndex 9 (.getfield 53) 3 12 := ⟨by decide +kernel, rfl⟩
theorem iX5_markIndex_12 : zLa mX5_markIndex 12 0 13 := Or.inl ⟨0, by decide +kernel, rfl, rfl⟩
theorem iX5_markIndex_13 : zIs mX5_markIndex 13 (.getfield 41) 3 16 := ⟨by decide +kernel, rfl⟩
theorem iX5_markIndex_16 : zIs mX5_markIndex 16 (.getfield 58) 3 19 := ⟨by decide +kernel, rfl⟩
theorem iX5_markIndex_19 : zLi mX5_markIndex 19 2 20 := Or.inl ⟨2, by decide +kernel, rfl, rfl⟩
theorem iX5_markIndex_20 : zIs mX5_markIndex 20 (.iaload) 1 21 := ⟨by decide +kernel, rfl⟩
theorem iX5_markIndex_21 : zIs mX5_markIndex 21 (.iaload) 1 22 := ⟨by decide +kernel, rfl⟩
theorem iX5_markIndex_22 : zIs mX5_markIndex 22 (.isub) 1 23 := ⟨by decide +kernel, rfl⟩
theorem iX5_markIndex_23 : zIs mX5_markIndex 23 (.ireturn) 1 24 := ⟨by decide +kernel, rfl⟩
theorem iX5_markBy_0 : zLa mX5_markBy 0 0 1 := Or.inl ⟨0, by decide +kernel, rfl, rfl⟩
theorem iX5_markBy_1 : zIs mX5_markBy 1 (.getfield 35) 3 4 := ⟨by decide +kernel, rfl⟩
theorem iX5_markBy_4 : zLa mX5_markBy 4 0 5 := Or.inl ⟨0, by decide +kernel, rfl, rfl⟩
theorem iX5_markBy_5 : zLi mX5_markBy 5 1 6 := Or.inl ⟨1, by decide +kernel, rfl, rfl⟩
theorem iX5_markBy_6 : zLi mX5_markBy 6 2 7 := Or.inl ⟨2, by decide +kernel, rfl, rfl⟩
theorem iX5_markBy_7 : zIs mX5_markBy 7 (.invokevirtual 49) 3 10 := ⟨by decide +kernel, rfl⟩
theorem iX5_markBy_10 : zIs mX5_markBy 10 (.iaload) 1 11 := ⟨by decide +kernel, rfl⟩
theorem iX5_markBy_11 : zIs mX5_markBy 11 (.ireturn) 1 12 := ⟨by decide +kernel, rfl⟩
theorem iX5_markAt_0 : zLa mX5_markAt 0 0 1 := Or.inl ⟨0, by decide +kernel, rfl, rfl⟩
theorem iX5_markAt_1 : zIs mX5_markAt 1 (.getfield 35) 3 4 := ⟨by decide +kernel, rfl⟩
theorem iX5_markAt_4 : zLi mX5_markAt 4 1 5 := Or.inl ⟨1, by decide +kernel, rfl, rfl⟩
theorem iX5_markAt_5 : zPi mX5_markAt 5 5 6 := Or.inl ⟨5, by decide +kernel, by decide, rfl⟩
theorem iX5_markAt_6 : zIs mX5_markAt 6 (.imul) 1 7 := ⟨by decide +kernel, rfl⟩
theorem iX5_markAt_7 : zLi mX5_markAt 7 2 8 := Or.inl ⟨2, by decide +kernel, rfl, rfl⟩
theorem iX5_markAt_8 : zIs mX5_markAt 8 (.iadd) 1 9 := ⟨by decide +kernel, rfl⟩
theorem iX5_markAt_9 : zIs mX5_markAt 9 (.iaload) 1 10 := ⟨by decide +kernel, rfl⟩
theorem iX5_markAt_10 : zIs mX5_markAt 10 (.ireturn) 1 11 := ⟨by decide +kernel, rfl⟩
theorem iX5_remarkBits_0 : zPi mX5_remarkBits 0 0 1 := Or.inl ⟨0, by decide +kernel, by decide, rfl⟩
theorem iX5_remarkBits_1 : zSi mX5_remarkBits 1 2 2 := ⟨Or.inl ⟨2, by decide +kernel, rfl, rfl⟩, by decide⟩
theorem iX5_remarkBits_2 : zPi mX5_remarkBits 2 0 3 := Or.inl ⟨0, by decide +kernel, by decide, rfl⟩
theorem iX5_remarkBits_3 : zSi mX5_remarkBits 3 3 4 := ⟨Or.inl ⟨3, by decide +kernel, rfl, rfl⟩, by decide⟩
theorem iX5_remarkBits_4 : zLi mX5_remarkBits 4 3 5 := Or.inl ⟨3, by decide +kernel, rfl, rfl⟩
theorem iX5_remarkBits_5 : zPi mX5_remarkBits 5 8 7 := Or.inr (Or.inl ⟨8, by decide +kernel, by decide, rfl⟩)
theorem iX5_remarkBits_7 : zBr mX5_remarkBits 7 (.if_icmp .ge) 36 10 := ⟨29, by decide +kernel, by decide, rfl⟩
theorem iX5_remarkBits_10 : zLa mX5_remarkBits 10 0 11 := Or.inl ⟨0, by decide +kernel, rfl, rfl⟩
theorem iX5_remarkBits_11 : zIs mX5_remarkBits 11 (.getfield 38) 3 14 := ⟨by decide +kernel, rfl⟩
theorem iX5_remarkBits_14 : zLi mX5_remarkBits 14 1 15 := Or.inl ⟨1, by decide +kernel, rfl, rfl⟩
theorem iX5_remarkBits_15 : zPi mX5_remarkBits 15 8 17 := Or.inr (Or.inl ⟨8, by decide +kernel, by decide, rfl⟩)
theorem iX5_remarkBits_17 : zIs mX5_remarkBits 17 (.imul) 1 18 := ⟨by decide +kernel, rfl⟩
theorem iX5_remarkBits_18 : zLi mX5_remarkBits 18 3 19 := Or.inl ⟨3, by decide +kernel, rfl, rfl⟩
theorem iX5_remarkBits_19 : zIs mX5_remarkBits 19 (.iadd) 1 20 := ⟨by decide +kernel, rfl⟩
theorem iX5_remarkBits_20 : zIs mX5_remarkBits 20 (.iaload) 1 21 := ⟨by decide +kernel, rfl⟩
theorem iX5_remarkBits_21 : zBr mX5_remarkBits 21 (.ifCond .le) 30 24 := ⟨9, by decide +kernel, by decide, rfl⟩
theorem iX5_remarkBits_24 : zLi mX5_remarkBits 24 2 25 := Or.inl ⟨2, by decide +kernel, rfl, rfl⟩
theorem iX5_remarkBits_25 : zPi mX5_remarkBits 25 1 26 := Or.inl ⟨1, by decide +kernel, by decide, rfl⟩
theorem iX5_remarkBits_26 : zLi mX5_remarkBits 26 3 27 := Or.inl ⟨3, by decide +kernel, rfl, rfl⟩
theorem iX5_remarkBits_27 : zIs mX5_remarkBits 27 (.ishl) 1 28 := ⟨by decide +kernel, rfl⟩
theorem iX5_remarkBits_28 : zIs mX5_remarkBits 28 (.ior) 1 29 := ⟨by decide +kernel, rfl⟩
theorem iX5_remarkBits_29 : zSi mX5_remarkBits 29 2 30 := ⟨Or.inl ⟨2, by decide +kernel, rfl, rfl⟩, by decide⟩
theorem iX5_remarkBits_30 : zIs mX5_remarkBits 30 (.iinc 3 1) 3 33 := ⟨by decide +kernel, rfl⟩
theorem iX5_remarkBits_33 : zBr mX5_remarkBits 33 .goto 4 36 := ⟨(-29), by decide +kernel, by decide, rfl⟩
theorem iX5_remarkBits_36 : zLi mX5_remarkBits 36 2 37 := Or.inl ⟨2, by decide +kernel, rfl, rfl⟩
theorem iX5_remarkBits_37 : zIs mX5_remarkBits 37 (.ireturn) 1 38 := ⟨by decide +kernel, rfl⟩
theorem iX5_greatestMark_0 : zLa mX5_greatestMark 0 0 1 := Or.inl ⟨0, by decide +kernel, rfl, rfl⟩
theorem iX5_greatestMark_1 : zLi mX5_greatestMark 1 1 2 := Or.inl ⟨1, by decide +kernel, rfl, rfl⟩
theorem iX5_greatestMark_2 : zPi mX5_greatestMark 2 0 3 := Or.inl ⟨0, by decide +kernel, by decide, rfl⟩
theorem iX5_greatestMark_3 : zIs mX5_greatestMark 3 (.invokevirtual 61) 3 6 := ⟨by decide +kernel, rfl⟩
theorem iX5_greatestMark_6 : zSi mX5_greatestMark 6 2 7 := ⟨Or.inl ⟨2, by decide +kernel, rfl, rfl⟩, by decide⟩
theorem iX5_greatestMark_7 : zPi mX5_greatestMark 7 1 8 := Or.inl ⟨1, by decide +kernel, by decide, rfl⟩
theorem iX5_greatestMark_8 : zSi mX5_greatestMark 8 3 9 := ⟨Or.inl ⟨3, by decide +kernel, rfl, rfl⟩, by decide⟩
theorem iX5_greatestMark_9 : zLi mX5_greatestMark 9 3 10 := Or.inl ⟨3, by decide +kernel, rfl, rfl⟩
theorem iX5_greatestMark_10 : zLa mX5_greatestMark 10 0 11 := Or.inl ⟨0, by decide +kernel, rfl, rfl⟩
theorem iX5_greatestMark_11 : zIs mX5_greatestMark 11 (.getfield 41) 3 14 := ⟨by decide +kernel, rfl⟩
theorem iX5_greatestMark_14 : zIs mX5_greatestMark 14 (.getfield 64) 3 17 := ⟨by decide +kernel, rfl⟩
theorem iX5_greatestMark_17 : zLa mX5_greatestMark 17 0 18 := Or.inl ⟨0, by decide +kernel, rfl, rfl⟩
theorem iX5_greatestMark_18 : zIs mX5_greatestMark 18 (.getfield 41) 3 21 := ⟨by decide +kernel, rfl⟩
theorem iX5_greatestMark_21 : zIs mX5_greatestMark 21 (.getfield 67) 3 24 := ⟨by decide +kernel, rfl⟩
theorem iX5_greatestMark_24 : zLi mX5_greatestMark 24 1 25 := Or.inl ⟨1, by decide +kernel, rfl, rfl⟩
theorem iX5_greatestMark_25 : zIs mX5_greatestMark 25 (.iaload) 1 26 := ⟨by decide +kernel, rfl⟩
theorem iX5_greatestMark_26 : zIs mX5_greatestMark 26 (.iaload) 1 27 := ⟨by decide +kernel, rfl⟩
theorem iX5_greatestMark_27 : zBr mX5_greatestMark 27 (.if_icmp .ge) 47 30 := ⟨20, by decide +kernel, by decide, rfl⟩
theorem iX5_greatestMark_30 : zLi mX5_greatestMark 30 2 31 := Or.inl ⟨2, by decide +kernel, rfl, rfl⟩
theorem iX5_greatestMark_31 : zLa mX5_greatestMark 31 0 32 := Or.inl ⟨0, by decide +kernel, rfl, rfl⟩
theorem iX5_greatestMark_32 : zLi mX5_greatestMark 32 1 33 := Or.inl ⟨1, by decide +kernel, rfl, rfl⟩
theorem iX5_greatestMark_33 : zLi mX5_greatestMark 33 3 34 := Or.inl ⟨3, by decide +kernel, rfl, rfl⟩
theorem iX5_greatestMark_34 : zIs mX5_greatestMark 34 (.invokevirtual 61) 3 37 := ⟨by decide +kernel, rfl⟩
theorem iX5_greatestMark_37 : zIs mX5_greatestMark 37 (.invokestatic 70) 3 40 := ⟨by decide +kernel, rfl⟩
theorem iX5_greatestMark_40 : zSi mX5_greatestMark 40 2 41 := ⟨Or.inl ⟨2, by decide +kernel, rfl, rfl⟩, by decide⟩
theorem iX5_greatestMark_41 : zIs mX5_greatestMark 41 (.iinc 3 1) 3 44 := ⟨by decide +kernel, rfl⟩
theorem iX5_greatestMark_44 : zBr mX5_greatestMark 44 .goto 9 47 := ⟨(-35), by decide +kernel, by decide, rfl⟩
theorem iX5_greatestMark_47 : zLi mX5_greatestMark 47 2 48 := Or.inl ⟨2, by decide +kernel, rfl, rfl⟩
theorem iX5_greatestMark_48 : zIs mX5_greatestMark 48 (.ireturn) 1 49 := ⟨by decide +kernel, rfl⟩
theorem iX5_leastMark_0 : zLa mX5_leastMark 0 0 1 := Or.inl ⟨0, by decide +kernel, rfl, rfl⟩
theorem iX5_leastMark_1 : zLi mX5_leastMark 1 1 2 := Or.inl ⟨1, by decide +kernel, rfl, rfl⟩
theorem iX5_leastMark_2 : zPi mX5_leastMark 2 0 3 := Or.inl ⟨0, by decide +kernel, by decide, rfl⟩
theorem iX5_leastMark_3 : zIs mX5_leastMark 3 (.invokevirtual 61) 3 6 := ⟨by decide +kernel, rfl⟩
theorem iX5_leastMark_6 : zSi mX5_leastMark 6 2 7 := ⟨Or.inl ⟨2, by decide +kernel, rfl, rfl⟩, by decide⟩
theorem iX5_leastMark_7 : zPi mX5_leastMark 7 1 8 := Or.inl ⟨1, by decide +kernel, by decide, rfl⟩
theorem iX5_leastMark_8 : zSi mX5_leastMark 8 3 9 := ⟨Or.inl ⟨3, by decide +kernel, rfl, rfl⟩, by decide⟩
theorem iX5_leastMark_9 : zLi mX5_leastMark 9 3 10 := Or.inl ⟨3, by decide +kernel, rfl, rfl⟩
theorem iX5_leastMark_10 : zLa mX5_leastMark 10 0 11 := Or.inl ⟨0, by decide +kernel, rfl, rfl⟩
theorem iX5_leastMark_11 : zIs mX5_leastMark 11 (.getfield 41) 3 14 := ⟨by decide +kernel, rfl⟩
theorem iX5_leastMark_14 : zIs mX5_leastMark 14 (.getfield 64) 3 17 := ⟨by decide +kernel, rfl⟩
theorem iX5_leastMark_17 : zLa mX5_leastMark 17 0 18 := Or.inl ⟨0, by decide +kernel, rfl, rfl⟩
theorem iX5_leastMark_18 : zIs mX5_leastMark 18 (.getfield 41) 3 21 := ⟨by decide +kernel, rfl⟩
theorem iX5_leastMark_21 : zIs mX5_leastMark 21 (.getfield 67) 3 24 := ⟨by decide +kernel, rfl⟩
theorem iX5_leastMark_24 : zLi mX5_leastMark 24 1 25 := Or.inl ⟨1, by decide +kernel, rfl, rfl⟩
theorem iX5_leastMark_25 : zIs mX5_leastMark 25 (.iaload) 1 26 := ⟨by decide +kernel, rfl⟩
theorem iX5_leastMark_26 : zIs mX5_leastMark 26 (.iaload) 1 27 := ⟨by decide +kernel, rfl⟩
theorem iX5_leastMark_27 : zBr mX5_leastMark 27 (.if_icmp .ge) 47 30 := ⟨20, by decide +kernel, by decide, rfl⟩
theorem iX5_leastMark_30 : zLi mX5_leastMark 30 2 31 := Or.inl ⟨2, by decide +kernel, rfl, rfl⟩
theorem iX5_leastMark_31 : zLa mX5_leastMark 31 0 32 := Or.inl ⟨0, by decide +kernel, rfl, rfl⟩
theorem iX5_leastMark_32 : zLi mX5_leastMark 32 1 33 := Or.inl ⟨1, by decide +kernel, rfl, rfl⟩
theorem iX5_leastMark_33 : zLi mX5_leastMark 33 3 34 := Or.inl ⟨3, by decide +kernel, rfl, rfl⟩
theorem iX5_leastMark_34 : zIs mX5_leastMark 34 (.invokevirtual 61) 3 37 := ⟨by decide +kernel, rfl⟩
theorem iX5_leastMark_37 : zIs mX5_leastMark 37 (.invokestatic 75) 3 40 := ⟨by decide +kernel, rfl⟩
theorem iX5_leastMark_40 : zSi mX5_leastMark 40 2 41 := ⟨Or.inl ⟨2, by decide +kernel, rfl, rfl⟩, by decide⟩
theorem iX5_leastMark_41 : zIs mX5_leastMark 41 (.iinc 3 1) 3 44 := ⟨by decide +kernel, rfl⟩
theorem iX5_leastMark_44 : zBr mX5_leastMark 44 .goto 9 47 := ⟨(-35), by decide +kernel, by decide, rfl⟩
theorem iX5_leastMark_47 : zLi mX5_leastMark 47 2 48 := Or.inl ⟨2, by decide +kernel, rfl, rfl⟩
theorem iX5_leastMark_48 : zIs mX5_leastMark 48 (.ireturn) 1 49 := ⟨by decide +kernel, rfl⟩
theorem iX5_sumOfMarks_0 : zPi mX5_sumOfMarks 0 0 1 := Or.inl ⟨0, by decide +kernel, by decide, rfl⟩
theorem iX5_sumOfMarks_1 : zSi mX5_sumOfMarks 1 2 2 := ⟨Or.inl ⟨2, by decide +kernel, rfl, rfl⟩, by decide⟩
theorem iX5_sumOfMarks_2 : zPi mX5_sumOfMarks 2 0 3 := Or.inl ⟨0, by decide +kernel, by decide, rfl⟩
theorem iX5_sumOfMarks_3 : zSi mX5_sumOfMarks 3 3 4 := ⟨Or.inl ⟨3, by decide +kernel, rfl, rfl⟩, by decide⟩
theorem iX5_sumOfMarks_4 : zLi mX5_sumOfMarks 4 3 5 := Or.inl ⟨3, by decide +kernel, rfl, rfl⟩
theorem iX5_sumOfMarks_5 : zLa mX5_sumOfMarks 5 0 6 := Or.inl ⟨0, by decide +kernel, rfl, rfl⟩
theorem iX5_sumOfMarks_6 : zIs mX5_sumOfMarks 6 (.getfield 41) 3 9 := ⟨by decide +kernel, rfl⟩
theorem iX5_sumOfMarks_9 : zIs mX5_sumOfMarks 9 (.getfield 64) 3 12 := ⟨by decide +kernel, rfl⟩
theorem iX5_sumOfMarks_12 : zLa mX5_sumOfMarks 12 0 13 := Or.inl ⟨0, by decide +kernel, rfl, rfl⟩
theorem iX5_sumOfMarks_13 : zIs mX5_sumOfMarks 13 (.getfield 41) 3 16 := ⟨by decide +kernel, rfl⟩
theorem iX5_sumOfMarks_16 : zIs mX5_sumOfMarks 16 (.getfield 67) 3 19 := ⟨by decide +kernel, rfl⟩
theorem iX5_sumOfMarks_19 : zLi mX5_sumOfMarks 19 1 20 := Or.inl ⟨1, by decide +kernel, rfl, rfl⟩
theorem iX5_sumOfMarks_20 : zIs mX5_sumOfMarks 20 (.iaload) 1 21 := ⟨by decide +kernel, rfl⟩
theorem iX5_sumOfMarks_21 : zIs mX5_sumOfMarks 21 (.iaload) 1 22 := ⟨by decide +kernel, rfl⟩
theorem iX5_sumOfMarks_22 : zBr mX5_sumOfMarks 22 (.if_icmp .ge) 40 25 := ⟨18, by decide +kernel, by decide, rfl⟩
theorem iX5_sumOfMarks_25 : zLi mX5_sumOfMarks 25 2 26 := Or.inl ⟨2, by decide +kernel, rfl, rfl⟩
theorem iX5_sumOfMarks_26 : zLa mX5_sumOfMarks 26 0 27 := Or.inl ⟨0, by decide +kernel, rfl, rfl⟩
theorem iX5_sumOfMarks_27 : zLi mX5_sumOfMarks 27 1 28 := Or.inl ⟨1, by decide +kernel, rfl, rfl⟩
theorem iX5_sumOfMarks_28 : zLi mX5_sumOfMarks 28 3 29 := Or.inl ⟨3, by decide +kernel, rfl, rfl⟩
theorem iX5_sumOfMarks_29 : zIs mX5_sumOfMarks 29 (.invokevirtual 61) 3 32 := ⟨by decide +kernel, rfl⟩
theorem iX5_sumOfMarks_32 : zIs mX5_sumOfMarks 32 (.iadd) 1 33 := ⟨by decide +kernel, rfl⟩
theorem iX5_sumOfMarks_33 : zSi mX5_sumOfMarks 33 2 34 := ⟨Or.inl ⟨2, by decide +kernel, rfl, rfl⟩, by decide⟩
theorem iX5_sumOfMarks_34 : zIs mX5_sumOfMarks 34 (.iinc 3 1) 3 37 := ⟨by decide +kernel, rfl⟩
theorem iX5_sumOfMarks_37 : zBr mX5_sumOfMarks 37 .goto 4 40 := ⟨(-33), by decide +kernel, by decide, rfl⟩
theorem iX5_sumOfMarks_40 : zLi mX5_sumOfMarks 40 2 41 := Or.inl ⟨2, by decide +kernel, rfl, rfl⟩
theorem iX5_sumOfMarks_41 : zIs mX5_sumOfMarks 41 (.ireturn) 1 42 := ⟨by decide +kernel, rfl⟩
theorem iX5_marksAboveZero_0 : zPi mX5_marksAboveZero 0 0 1 := Or.inl ⟨0, by decide +kernel, by decide, rfl⟩
theorem iX5_marksAboveZero_1 : zSi mX5_marksAboveZero 1 2 2 := ⟨Or.inl ⟨2, by decide +kernel, rfl, rfl⟩, by decide⟩
theorem iX5_marksAboveZero_2 : zPi mX5_marksAboveZero 2 0 3 := Or.inl ⟨0, by decide +kernel, by decide, rfl⟩
theorem iX5_marksAboveZero_3 : zSi mX5_marksAboveZero 3 3 4 := ⟨Or.inl ⟨3, by decide +kernel, rfl, rfl⟩, by decide⟩
theorem iX5_marksAboveZero_4 : zLi mX5_marksAboveZero 4 3 5 := Or.inl ⟨3, by decide +kernel, rfl, rfl⟩
theorem iX5_marksAboveZero_5 : zLa mX5_marksAboveZero 5 0 6 := Or.inl ⟨0, by decide +kernel, rfl, rfl⟩
theorem iX5_marksAboveZero_6 : zIs mX5_marksAboveZero 6 (.getfield 41) 3 9 := ⟨by decide +kernel, rfl⟩
theorem iX5_marksAboveZero_9 : zIs mX5_marksAboveZero 9 (.getfield 64) 3 12 := ⟨by decide +kernel, rfl⟩
theorem iX5_marksAboveZero_12 : zLa mX5_marksAboveZero 12 0 13 := Or.inl ⟨0, by decide +kernel, rfl, rfl⟩
theorem iX5_marksAboveZero_13 : zIs mX5_marksAboveZero 13 (.getfield 41) 3 16 := ⟨by decide +kernel, rfl⟩
theorem iX5_marksAboveZero_16 : zIs mX5_marksAboveZero 16 (.getfield 67) 3 19 := ⟨by decide +kernel, rfl⟩
theorem iX5_marksAboveZero_19 : zLi mX5_marksAboveZero 19 1 20 := Or.inl ⟨1, by decide +kernel, rfl, rfl⟩
theorem iX5_marksAboveZero_20 : zIs mX5_marksAboveZero 20 (.iaload) 1 21 := ⟨by decide +kernel, rfl⟩
theorem iX5_marksAboveZero_21 : zIs mX5_marksAboveZero 21 (.iaload) 1 22 := ⟨by decide +kernel, rfl⟩
theorem iX5_marksAboveZero_22 : zBr mX5_marksAboveZero 22 (.if_icmp .ge) 43 25 := ⟨21, by decide +kernel, by decide, rfl⟩
theorem iX5_marksAboveZero_25 : zLa mX5_marksAboveZero 25 0 26 := Or.inl ⟨0, by decide +kernel, rfl, rfl⟩
theorem iX5_marksAboveZero_26 : zLi mX5_marksAboveZero 26 1 27 := Or.inl ⟨1, by decide +kernel, rfl, rfl⟩
theorem iX5_marksAboveZero_27 : zLi mX5_marksAboveZero 27 3 28 := Or.inl ⟨3, by decide +kernel, rfl, rfl⟩
theorem iX5_marksAboveZero_28 : zIs mX5_marksAboveZero 28 (.invokevirtual 61) 3 31 := ⟨by decide +kernel, rfl⟩
theorem iX5_marksAboveZero_31 : zBr mX5_marksAboveZero 31 (.ifCond .le) 37 34 := ⟨6, by decide +kernel, by decide, rfl⟩
theorem iX5_marksAboveZero_34 : zIs mX5_marksAboveZero 34 (.iinc 2 1) 3 37 := ⟨by decide +kernel, rfl⟩
theorem iX5_marksAboveZero_37 : zIs mX5_marksAboveZero 37 (.iinc 3 1) 3 40 := ⟨by decide +kernel, rfl⟩
theorem iX5_marksAboveZero_40 : zBr mX5_marksAboveZero 40 .goto 4 43 := ⟨(-36), by decide +kernel, by decide, rfl⟩
theorem iX5_marksAboveZero_43 : zLi mX5_marksAboveZero 43 2 44 := Or.inl ⟨2, by decide +kernel, rfl, rfl⟩
theorem iX5_marksAboveZero_44 : zIs mX5_marksAboveZero 44 (.ireturn) 1 45 := ⟨by decide +kernel, rfl⟩
theorem iX5_timesPointed_0 : zPi mX5_timesPointed 0 0 1 := Or.inl ⟨0, by decide +kernel, by decide, rfl⟩
theorem iX5_timesPointed_1 : zSi mX5_timesPointed 1 3 2 := ⟨Or.inl ⟨3, by decide +kernel, rfl, rfl⟩, by decide⟩
theorem iX5_timesPointed_2 : zPi mX5_timesPointed 2 0 3 := Or.inl ⟨0, by decide +kernel, by decide, rfl⟩
theorem iX5_timesPointed_3 : zSi mX5_timesPointed 3 4 5 := ⟨Or.inr ⟨by decide +kernel, rfl⟩, by decide⟩
theorem iX5_timesPointed_5 : zLi mX5_timesPointed 5 4 7 := Or.inr ⟨by decide +kernel, rfl⟩
theorem iX5_timesPointed_7 : zLa mX5_timesPointed 7 0 8 := Or.inl ⟨0, by decide +kernel, rfl, rfl⟩
theorem iX5_timesPointed_8 : zIs mX5_timesPointed 8 (.getfield 28) 3 11 := ⟨by decide +kernel, rfl⟩
theorem iX5_timesPointed_11 : zBr mX5_timesPointed 11 (.if_icmp .ge) 55 14 := ⟨44, by decide +kernel, by decide, rfl⟩
theorem iX5_timesPointed_14 : zLa mX5_timesPointed 14 0 15 := Or.inl ⟨0, by decide +kernel, rfl, rfl⟩
theorem iX5_timesPointed_15 : zIs mX5_timesPointed 15 (.getfield 9) 3 18 := ⟨by decide +kernel, rfl⟩
theorem iX5_timesPointed_18 : zLi mX5_timesPointed 18 4 20 := Or.inr ⟨by decide +kernel, rfl⟩
theorem iX5_timesPointed_20 : zIs mX5_timesPointed 20 (.iaload) 1 21 := ⟨by decide +kernel, rfl⟩
theorem iX5_timesPointed_21 : zBr mX5_timesPointed 21 (.ifCond .ne) 49 24 := ⟨28, by decide +kernel, by decide, rfl⟩
theorem iX5_timesPointed_24 : zLa mX5_timesPointed 24 0 25 := Or.inl ⟨0, by decide +kernel, rfl, rfl⟩
theorem iX5_timesPointed_25 : zIs mX5_timesPointed 25 (.getfield 15) 3 28 := ⟨by decide +kernel, rfl⟩
theorem iX5_timesPointed_28 : zLi mX5_timesPointed 28 4 30 := Or.inr ⟨by decide +kernel, rfl⟩
theorem iX5_timesPointed_30 : zIs mX5_timesPointed 30 (.iaload) 1 31 := ⟨by decide +kernel, rfl⟩
theorem iX5_timesPointed_31 : zLi mX5_timesPointed 31 1 32 := Or.inl ⟨1, by decide +kernel, rfl, rfl⟩
theorem iX5_timesPointed_32 : zBr mX5_timesPointed 32 (.if_icmp .ne) 49 35 := ⟨17, by decide +kernel, by decide, rfl⟩
theorem iX5_timesPointed_35 : zLa mX5_timesPointed 35 0 36 := Or.inl ⟨0, by decide +kernel, rfl, rfl⟩
theorem iX5_timesPointed_36 : zIs mX5_timesPointed 36 (.getfield 18) 3 39 := ⟨by decide +kernel, rfl⟩
theorem iX5_timesPointed_39 : zLi mX5_timesPointed 39 4 41 := Or.inr ⟨by decide +kernel, rfl⟩
theorem iX5_timesPointed_41 : zIs mX5_timesPointed 41 (.iaload) 1 42 := ⟨by decide +kernel, rfl⟩
theorem iX5_timesPointed_42 : zLi mX5_timesPointed 42 2 43 := Or.inl ⟨2, by decide +kernel, rfl, rfl⟩
theorem iX5_timesPointed_43 : zBr mX5_timesPointed 43 (.if_icmp .ne) 49 46 := ⟨6, by decide +kernel, by decide, rfl⟩
theorem iX5_timesPointed_46 : zIs mX5_timesPointed 46 (.iinc 3 1) 3 49 := ⟨by decide +kernel, rfl⟩
theorem iX5_timesPointed_49 : zIs mX5_timesPointed 49 (.iinc 4 1) 3 52 := ⟨by decide +kernel, rfl⟩
theorem iX5_timesPointed_52 : zBr mX5_timesPointed 52 .goto 5 55 := ⟨(-47), by decide +kernel, by decide, rfl⟩
theorem iX5_timesPointed_55 : zLi mX5_timesPointed 55 3 56 := Or.inl ⟨3, by decide +kernel, rfl, rfl⟩
theorem iX5_timesPointed_56 : zIs mX5_timesPointed 56 (.ireturn) 1 57 := ⟨by decide +kernel, rfl⟩
end
section
theorem iX6_init_0 : zLa mX6_init 0 0 1 := Or.inl ⟨0, by decide +kernel, rfl, rfl⟩
theorem iX6_init_1 : zIs mX6_init 1 (.invokespecial 3) 3 4 := ⟨by decide +kernel, rfl⟩
theorem iX6_init_4 : zLa mX6_init 4 0 5 := Or.inl ⟨0, by decide +kernel, rfl, rfl⟩
theorem iX6_init_5 : zPi mX6_init 5 12 7 := Or.inr (Or.inl ⟨12, by decide +kernel, by decide, rfl⟩)
theorem iX6_init_7 : zIs mX6_init 7 (.newarray .int) 2 9 := ⟨by decide +kernel, rfl⟩
theorem iX6_init_9 : zIs mX6_init 9 (.putfield 9) 3 12 := ⟨by decide +kernel, rfl⟩
theorem iX6_init_12 : zLa mX6_init 12 0 13 := Or.inl ⟨0, by decide +kernel, rfl, rfl⟩
theorem iX6_init_13 : zPi mX6_init 13 12 15 := Or.inr (Or.inl ⟨12, by decide +kernel, by decide, rfl⟩)
theorem iX6_init_15 : zIs mX6_init 15 (.newarray .int) 2 17 := ⟨by decide +kernel, rfl⟩
theorem iX6_init_17 : zIs mX6_init 17 (.putfield 15) 3 20 := ⟨by decide +kernel, rfl⟩
theorem iX6_init_20 : zLa mX6_init 20 0 21 := Or.inl ⟨0, by decide +kernel, rfl, rfl⟩
theorem iX6_init_21 : zPi mX6_init 21 12 23 := Or.inr (Or.inl ⟨12, by decide +kernel, by decide, rfl⟩)
theorem iX6_init_23 : zIs mX6_init 23 (.newarray .int) 2 25 := ⟨by decide +kernel, rfl⟩
theorem iX6_init_25 : zIs mX6_init 25 (.putfield 18) 3 28 := ⟨by decide +kernel, rfl⟩
theorem iX6_init_28 : zLa mX6_init 28 0 29 := Or.inl ⟨0, by decide +kernel, rfl, rfl⟩
theorem iX6_init_29 : zPi mX6_init 29 12 31 := Or.inr (Or.inl ⟨12, by decide +kernel, by decide, rfl⟩)
theorem iX6_init_31 : zIs mX6_init 31 (.newarray .boolean) 2 33 := ⟨by decide +kernel, rfl⟩
theorem iX6_init_33 : zIs mX6_init 33 (.putfield 21) 3 36 := ⟨by decide +kernel, rfl⟩
theorem iX6_init_36 : zLa mX6_init 36 0 37 := Or.inl ⟨0, by decide +kernel, rfl, rfl⟩
theorem iX6_init_37 : zPi mX6_init 37 36 39 := Or.inr (Or.inl ⟨36, by decide +kernel, by decide, rfl⟩)
theorem iX6_init_39 : zIs mX6_init 39 (.newarray .int) 2 41 := ⟨by decide +kernel, rfl⟩
theorem iX6_init_41 : zIs mX6_init 41 (.putfield 25) 3 44 := ⟨by decide +kernel, rfl⟩
theorem iX6_init_44 : zLa mX6_init 44 0 45 := Or.inl ⟨0, by decide +kernel, rfl, rfl⟩
theorem iX6_init_45 : zPi mX6_init 45 60 47 := Or.inr (Or.inl ⟨60, by decide +kernel, by decide, rfl⟩)
theorem iX6_init_47 : zIs mX6_init 47 (.newarray .int) 2 49 := ⟨by decide +kernel, rfl⟩
theorem iX6_init_49 : zIs mX6_init 49 (.putfield 28) 3 52 := ⟨by decide +kernel, rfl⟩
theorem iX6_init_52 : zLa mX6_init 52 0 53 := Or.inl ⟨0, by decide +kernel, rfl, rfl⟩
theorem iX6_init_53 : zPi mX6_init 53 60 55 := Or.inr (Or.inl ⟨60, by decide +kernel, by decide, rfl⟩)
theorem iX6_init_55 : zIs mX6_init 55 (.newarray .int) 2 57 := ⟨by decide +kernel, rfl⟩
theorem iX6_init_57 : zIs mX6_init 57 (.putfield 31) 3 60 := ⟨by decide +kernel, rfl⟩
theorem iX6_init_60 : zLa mX6_init 60 0 61 := Or.inl ⟨0, by decide +kernel, rfl, rfl⟩
theorem iX6_init_61 : zPi mX6_init 61 0 62 := Or.inl ⟨0, by decide +kernel, by decide, rfl⟩
theorem iX6_init_62 : zIs mX6_init 62 (.putfield 34) 3 65 := ⟨by decide +kernel, rfl⟩
theorem iX6_init_65 : zLa mX6_init 65 0 66 := Or.inl ⟨0, by decide +kernel, rfl, rfl⟩
theorem iX6_init_66 : zPi mX6_init 66 0 67 := Or.inl ⟨0, by decide +kernel, by decide, rfl⟩
theorem iX6_init_67 : zIs mX6_init 67 (.putfield 38) 3 70 := ⟨by decide +kernel, rfl⟩
theorem iX6_init_70 : zLa mX6_init 70 0 71 := Or.inl ⟨0, by decide +kernel, rfl, rfl⟩
theorem iX6_init_71 : zPi mX6_init 71 0 72 := Or.inl ⟨0, by decide +kernel, by decide, rfl⟩
theorem iX6_init_72 : zIs mX6_init 72 (.putfield 41) 3 75 := ⟨by decide +kernel, rfl⟩
theorem iX6_init_75 : zIs mX6_init 75 (.return_) 1 76 := ⟨by decide +kernel, rfl⟩
theorem iX6_hasClass_0 : zLi mX6_hasClass 0 1 1 := Or.inl ⟨1, by decide +kernel, rfl, rfl⟩
theorem iX6_hasClass_1 : zBr mX6_hasClass 1 (.ifCond .lt) 16 4 := ⟨15, by decide +kernel, by decide, rfl⟩
theorem iX6_hasClass_4 : zLi mX6_hasClass 4 1 5 := Or.inl ⟨1, by decide +kernel, rfl, rfl⟩
theorem iX6_hasClass_5 : zLa mX6_hasClass 5 0 6 := Or.inl ⟨0, by decide +kernel, rfl, rfl⟩
theorem iX6_hasClass_6 : zIs mX6_hasClass 6 (.getfield 34) 3 9 := ⟨by decide +kernel, rfl⟩
theorem iX6_hasClass_9 : zBr mX6_hasClass 9 (.if_icmp .ge) 16 12 := ⟨7, by decide +kernel, by decide, rfl⟩
theorem iX6_hasClass_12 : zPi mX6_hasClass 12 1 13 := Or.inl ⟨1, by decide +kernel, by decide, rfl⟩
theorem iX6_hasClass_13 : zBr mX6_hasClass 13 .goto 17 16 := ⟨4, by decide +kernel, by decide, rfl⟩
theorem iX6_hasClass_16 : zPi mX6_hasClass 16 0 17 := Or.inl ⟨0, by decide +kernel, by decide, rfl⟩
theorem iX6_hasClass_17 : zIs mX6_hasClass 17 (.ireturn) 1 18 := ⟨by decide +kernel, rfl⟩
theorem iX6_hasJudge_0 : zLi mX6_hasJudge 0 1 1 := Or.inl ⟨1, by decide +kernel, rfl, rfl⟩
theorem iX6_hasJudge_1 : zBr mX6_hasJudge 1 (.ifCond .lt) 16 4 := ⟨15, by decide +kernel, by decide, rfl⟩
theorem iX6_hasJudge_4 : zLi mX6_hasJudge 4 1 5 := Or.inl ⟨1, by decide +kernel, rfl, rfl⟩
theorem iX6_hasJudge_5 : zLa mX6_hasJudge 5 0 6 := Or.inl ⟨0, by decide +kernel, rfl, rfl⟩
theorem iX6_hasJudge_6 : zIs mX6_hasJudge 6 (.getfield 38) 3 9 := ⟨by decide +kernel, rfl⟩
theorem iX6_hasJudge_9 : zBr mX6_hasJudge 9 (.if_icmp .ge) 16 12 := ⟨7, by decide +kernel, by decide, rfl⟩
theorem iX6_hasJudge_12 : zPi mX6_hasJudge 12 1 13 := Or.inl ⟨1, by decide +kernel, by decide, rfl⟩
theorem iX6_hasJudge_13 : zBr mX6_hasJudge 13 .goto 17 16 := ⟨4, by decide +kernel, by decide, rfl⟩
theorem iX6_hasJudge_16 : zPi mX6_hasJudge 16 0 17 := Or.inl ⟨0, by decide +kernel, by decide, rfl⟩
theorem iX6_hasJudge_17 : zIs mX6_hasJudge 17 (.ireturn) 1 18 := ⟨by decide +kernel, rfl⟩
theorem iX6_hasEntry_0 : zLi mX6_hasEntry 0 1 1 := Or.inl ⟨1, by decide +kernel, rfl, rfl⟩
theorem iX6_hasEntry_1 : zBr mX6_hasEntry 1 (.ifCond .lt) 16 4 := ⟨15, by decide +kernel, by decide, rfl⟩
theorem iX6_hasEntry_4 : zLi mX6_hasEntry 4 1 5 := Or.inl ⟨1, by decide +kernel, rfl, rfl⟩
theorem iX6_hasEntry_5 : zLa mX6_hasEntry 5 0 6 := Or.inl ⟨0, by decide +kernel, rfl, rfl⟩
theorem iX6_hasEntry_6 : zIs mX6_hasEntry 6 (.getfield 41) 3 9 := ⟨by decide +kernel, rfl⟩
theorem iX6_hasEntry_9 : zBr mX6_hasEntry 9 (.if_icmp .ge) 16 12 := ⟨7, by decide +kernel, by decide, rfl⟩
theorem iX6_hasEntry_12 : zPi mX6_hasEntry 12 1 13 := Or.inl ⟨1, by decide +kernel, by decide, rfl⟩
theorem iX6_hasEntry_13 : zBr mX6_hasEntry 13 .goto 17 16 := ⟨4, by decide +kernel, by decide, rfl⟩
theorem iX6_hasEntry_16 : zPi mX6_hasEntry 16 0 17 := Or.inl ⟨0, by decide +kernel, by decide, rfl⟩
theorem iX6_hasEntry_17 : zIs mX6_hasEntry 17 (.ireturn) 1 18 := ⟨by decide +kernel, rfl⟩
theorem iX6_addClass_0 : zLa mX6_addClass 0 0 1 := Or.inl ⟨0, by decide +kernel, rfl, rfl⟩
theorem iX6_addClass_1 : zIs mX6_addClass 1 (.getfield 34) 3 4 := ⟨by decide +kernel, rfl⟩
theorem iX6_addClass_4 : zSi mX6_addClass 4 3 5 := ⟨Or.inl ⟨3, by decide +kernel, rfl, rfl⟩, by decide⟩
theorem iX6_addClass_5 : zLa mX6_addClass 5 0 6 := Or.inl ⟨0, by decide +kernel, rfl, rfl⟩
theorem iX6_addClass_6 : zIs mX6_addClass 6 (.getfield 9) 3 9 := ⟨by decide +kernel, rfl⟩
theorem iX6_addClass_9 : zLi mX6_addClass 9 3 10 := Or.inl ⟨3, by decide +kernel, rfl, rfl⟩
theorem iX6_addClass_10 : zLi mX6_addClass 10 1 11 := Or.inl ⟨1, by decide +kernel, rfl, rfl⟩
theorem iX6_addClass_11 : zIs mX6_addClass 11 (.iastore) 1 12 := ⟨by decide +kernel, rfl⟩
theorem iX6_addClass_12 : zLa mX6_addClass 12 0 13 := Or.inl ⟨0, by decide +kernel, rfl, rfl⟩
theorem iX6_addClass_13 : zIs mX6_addClass 13 (.getfield 15) 3 16 := ⟨by decide +kernel, rfl⟩
theorem iX6_addClass_16 : zLi mX6_addClass 16 3 17 := Or.inl ⟨3, by decide +kernel, rfl, rfl⟩
theorem iX6_addClass_17 : zLa mX6_addClass 17 0 18 := Or.inl ⟨0, by decide +kernel, rfl, rfl⟩
theorem iX6_addClass_18 : zIs mX6_addClass 18 (.getfield 38) 3 21 := ⟨by decide +kernel, rfl⟩
theorem iX6_addClass_21 : zIs mX6_addClass 21 (.iastore) 1 22 := ⟨by decide +kernel, rfl⟩
theorem iX6_addClass_22 : zLa mX6_addClass 22 0 23 := Or.inl ⟨0, by decide +kernel, rfl, rfl⟩
theorem iX6_addClass_23 : zIs mX6_addClass 23 (.getfield 18) 3 26 := ⟨by decide +kernel, rfl⟩
theorem iX6_addClass_26 : zLi mX6_addClass 26 3 27 := Or.inl ⟨3, by decide +kernel, rfl, rfl⟩
theorem iX6_addClass_27 : zLi mX6_addClass 27 2 28 := Or.inl ⟨2, by decide +kernel, rfl, rfl⟩
theorem iX6_addClass_28 : zIs mX6_addClass 28 (.iastore) 1 29 := ⟨by decide +kernel, rfl⟩
theorem iX6_addClass_29 : zPi mX6_addClass 29 0 30 := Or.inl ⟨0, by decide +kernel, by decide, rfl⟩
theorem iX6_addClass_30 : zSi mX6_addClass 30 4 32 := ⟨Or.inr ⟨by decide +kernel, rfl⟩, by decide⟩
theorem iX6_addClass_32 : zLi mX6_addClass 32 4 34 := Or.inr ⟨by decide +kernel, rfl⟩
theorem iX6_addClass_34 : zLi mX6_addClass 34 2 35 := Or.inl ⟨2, by decide +kernel, rfl, rfl⟩
theorem iX6_addClass_35 : zBr mX6_addClass 35 (.if_icmp .ge) 57 38 := ⟨22, by decide +kernel, by decide, rfl⟩
theorem iX6_addClass_38 : zLa mX6_addClass 38 0 39 := Or.inl ⟨0, by decide +kernel, rfl, rfl⟩
theorem iX6_addClass_39 : zIs mX6_addClass 39 (.getfield 28) 3 42 := ⟨by decide +kernel, rfl⟩
theorem iX6_addClass_42 : zLa mX6_addClass 42 0 43 := Or.inl ⟨0, by decide +kernel, rfl, rfl⟩
theorem iX6_addClass_43 : zIs mX6_addClass 43 (.getfield 38) 3 46 := ⟨by decide +kernel, rfl⟩
theorem iX6_addClass_46 : zLi mX6_addClass 46 4 48 := Or.inr ⟨by decide +kernel, rfl⟩
theorem iX6_addClass_48 : zIs mX6_addClass 48 (.iadd) 1 49 := ⟨by decide +kernel, rfl⟩
theorem iX6_addClass_49 : zLi mX6_addClass 49 3 50 := Or.inl ⟨3, by decide +kernel, rfl, rfl⟩
theorem iX6_addClass_50 : zIs mX6_addClass 50 (.iastore) 1 51 := ⟨by decide +kernel, rfl⟩
theorem iX6_addClass_51 : zIs mX6_addClass 51 (.iinc 4 1) 3 54 := ⟨by decide +kernel, rfl⟩
theorem iX6_addClass_54 : zBr mX6_addClass 54 .goto 32 57 := ⟨(-22), by decide +kernel, by decide, rfl⟩
theorem iX6_addClass_57 : zLa mX6_addClass 57 0 58 := Or.inl ⟨0, by decide +kernel, rfl, rfl⟩
theorem iX6_addClass_58 : zIs mX6_addClass 58 (.dup) 1 59 := ⟨by decide +kernel, rfl⟩
theorem iX6_addClass_59 : zIs mX6_addClass 59 (.getfield 38) 3 62 := ⟨by decide +kernel, rfl⟩
theorem iX6_addClass_62 : zLi mX6_addClass 62 2 63 := Or.inl ⟨2, by decide +kernel, rfl, rfl⟩
theorem iX6_addClass_63 : zIs mX6_addClass 63 (.iadd) 1 64 := ⟨by decide +kernel, rfl⟩
theorem iX6_addClass_64 : zIs mX6_addClass 64 (.putfield 38) 3 67 := ⟨by decide +kernel, rfl⟩
theorem iX6_addClass_67 : zLa mX6_addClass 67 0 68 := Or.inl ⟨0, by decide +kernel, rfl, rfl⟩
theorem iX6_addClass_68 : zIs mX6_addClass 68 (.dup) 1 69 := ⟨by decide +kernel, rfl⟩
theorem iX6_addClass_69 : zIs mX6_addClass 69 (.getfield 34) 3 72 := ⟨by decide +kernel, rfl⟩
theorem iX6_addClass_72 : zPi mX6_addClass 72 1 73 := Or.inl ⟨1, by decide +kernel, by decide, rfl⟩
theorem iX6_addClass_73 : zIs mX6_addClass 73 (.iadd) 1 74 := ⟨by decide +kernel, rfl⟩
theorem iX6_addClass_74 : zIs mX6_addClass 74 (.putfield 34) 3 77 := ⟨by decide +kernel, rfl⟩
theorem iX6_addClass_77 : zLi mX6_addClass 77 3 78 := Or.inl ⟨3, by decide +kernel, rfl, rfl⟩
theorem iX6_addClass_78 : zIs mX6_addClass 78 (.ireturn) 1 79 := ⟨by decide +kernel, rfl⟩
theorem iX6_addEntry_0 : zLa mX6_addEntry 0 0 1 := Or.inl ⟨0, by decide +kernel, rfl, rfl⟩
theorem iX6_addEntry_1 : zIs mX6_addEntry 1 (.getfield 41) 3 4 := ⟨by decide +kernel, rfl⟩
theorem iX6_addEntry_4 : zSi mX6_addEntry 4 2 5 := ⟨Or.inl ⟨2, by decide +kernel, rfl, rfl⟩, by decide⟩
theorem iX6_addEntry_5 : zLa mX6_addEntry 5 0 6 := Or.inl ⟨0, by decide +kernel, rfl, rfl⟩
theorem iX6_addEntry_6 : zIs mX6_addEntry 6 (.getfield 31) 3 9 := ⟨by decide +kernel, rfl⟩
theorem iX6_addEntry_9 : zLi mX6_addEntry 9 2 10 := Or.inl ⟨2, by decide +kernel, rfl, rfl⟩
theorem iX6_addEntry_10 : zLi mX6_addEntry 10 1 11 := Or.inl ⟨1, by decide +kernel, rfl, rfl⟩
theorem iX6_addEntry_11 : zIs mX6_addEntry 11 (.iastore) 1 12 := ⟨by decide +kernel, rfl⟩
theorem iX6_addEntry_12 : zLa mX6_addEntry 12 0 13 := Or.inl ⟨0, by decide +kernel, rfl, rfl⟩
theorem iX6_addEntry_13 : zIs mX6_addEntry 13 (.dup) 1 14 := ⟨by decide +kernel, rfl⟩
theorem iX6_addEntry_14 : zIs mX6_addEntry 14 (.getfield 41) 3 17 := ⟨by decide +kernel, rfl⟩
theorem iX6_addEntry_17 : zPi mX6_addEntry 17 1 18 := Or.inl ⟨1, by decide +kernel, by decide, rfl⟩
theorem iX6_addEntry_18 : zIs mX6_addEntry 18 (.iadd) 1 19 := ⟨by decide +kernel, rfl⟩
theorem iX6_addEntry_19 : zIs mX6_addEntry 19 (.putfield 41) 3 22 := ⟨by decide +kernel, rfl⟩
theorem iX6_addEntry_22 : zLi mX6_addEntry 22 2 23 := Or.inl ⟨2, by decide +kernel, rfl, rfl⟩
theorem iX6_addEntry_23 : zIs mX6_addEntry 23 (.ireturn) 1 24 := ⟨by decide +kernel, rfl⟩
theorem iX6_setPrizes_0 : zLa mX6_setPrizes 0 0 1 := Or.inl ⟨0, by decide +kernel, rfl, rfl⟩
theorem iX6_setPrizes_1 : zIs mX6_setPrizes 1 (.getfield 25) 3 4 := ⟨by decide +kernel, rfl⟩
theorem iX6_setPrizes_4 : zLi mX6_setPrizes 4 1 5 := Or.inl ⟨1, by decide +kernel, rfl, rfl⟩
theorem iX6_setPrizes_5 : zPi mX6_setPrizes 5 3 6 := Or.inl ⟨3, by decide +kernel, by decide, rfl⟩
theorem iX6_setPrizes_6 : zIs mX6_setPrizes 6 (.imul) 1 7 := ⟨by decide +kernel, rfl⟩
theorem iX6_setPrizes_7 : zLi mX6_setPrizes 7 2 8 := Or.inl ⟨2, by decide +kernel, rfl, rfl⟩
theorem iX6_setPrizes_8 : zIs mX6_setPrizes 8 (.iastore) 1 9 := ⟨by decide +kernel, rfl⟩
theorem iX6_setPrizes_9 : zLa mX6_setPrizes 9 0 10 := Or.inl ⟨0, by decide +kernel, rfl, rfl⟩
theorem iX6_setPrizes_10 : zIs mX6_setPrizes 10 (.getfield 25) 3 13 := ⟨by decide +kernel, rfl⟩
theorem iX6_setPrizes_13 : zLi mX6_setPrizes 13 1 14 := Or.inl ⟨1, by decide +kernel, rfl, rfl⟩
theorem iX6_setPrizes_14 : zPi mX6_setPrizes 14 3 15 := Or.inl ⟨3, by decide +kernel, by decide, rfl⟩
theorem iX6_setPrizes_15 : zIs mX6_setPrizes 15 (.imul) 1 16 := ⟨by decide +kernel, rfl⟩
theorem iX6_setPrizes_16 : zPi mX6_setPrizes 16 1 17 := Or.inl ⟨1, by decide +kernel, by decide, rfl⟩
theorem iX6_setPrizes_17 : zIs mX6_setPrizes 17 (.iadd) 1 18 := ⟨by decide +kernel, rfl⟩
theorem iX6_setPrizes_18 : zLi mX6_setPrizes 18 3 19 := Or.inl ⟨3, by decide +kernel, rfl, rfl⟩
theorem iX6_setPrizes_19 : zIs mX6_setPrizes 19 (.iastore) 1 20 := ⟨by decide +kernel, rfl⟩
theorem iX6_setPrizes_20 : zLa mX6_setPrizes 20 0 21 := Or.inl ⟨0, by decide +kernel, rfl, rfl⟩
theorem iX6_setPrizes_21 : zIs mX6_setPrizes 21 (.getfield 25) 3 24 := ⟨by decide +kernel, rfl⟩
theorem iX6_setPrizes_24 : zLi mX6_setPrizes 24 1 25 := Or.inl ⟨1, by decide +kernel, rfl, rfl⟩
theorem iX6_setPrizes_25 : zPi mX6_setPrizes 25 3 26 := Or.inl ⟨3, by decide +kernel, by decide, rfl⟩
theorem iX6_setPrizes_26 : zIs mX6_setPrizes 26 (.imul) 1 27 := ⟨by decide +kernel, rfl⟩
theorem iX6_setPrizes_27 : zPi mX6_setPrizes 27 2 28 := Or.inl ⟨2, by decide +kernel, by decide, rfl⟩
theorem iX6_setPrizes_28 : zIs mX6_setPrizes 28 (.iadd) 1 29 := ⟨by decide +kernel, rfl⟩
theorem iX6_setPrizes_29 : zLi mX6_setPrizes 29 4 31 := Or.inr ⟨by decide +kernel, rfl⟩
theorem iX6_setPrizes_31 : zIs mX6_setPrizes 31 (.iastore) 1 32 := ⟨by decide +kernel, rfl⟩
theorem iX6_setPrizes_32 : zIs mX6_setPrizes 32 (.return_) 1 33 := ⟨by decide +kernel, rfl⟩
theorem iX6_entriesOf_0 : zPi mX6_entriesOf 0 0 1 := Or.inl ⟨0, by decide +kernel, by decide, rfl⟩
theorem iX6_entriesOf_1 : zSi mX6_entriesOf 1 2 2 := ⟨Or.inl ⟨2, by decide +kernel, rfl, rfl⟩, by decide⟩
theorem iX6_entriesOf_2 : zPi mX6_entriesOf 2 0 3 := Or.inl ⟨0, by decide +kernel, by decide, rfl⟩
theorem iX6_entriesOf_3 : zSi mX6_entriesOf 3 3 4 := ⟨Or.inl ⟨3, by decide +kernel, rfl, rfl⟩, by decide⟩
theorem iX6_entriesOf_4 : zLi mX6_entriesOf 4 3 5 := Or.inl ⟨3, by decide +kernel, rfl, rfl⟩
theorem iX6_entriesOf_5 : zLa mX6_entriesOf 5 0 6 := Or.inl ⟨0, by decide +kernel, rfl, rfl⟩
theorem iX6_entriesOf_6 : zIs mX6_entriesOf 6 (.getfield 41) 3 9 := ⟨by decide +kernel, rfl⟩
theorem iX6_entriesOf_9 : zBr mX6_entriesOf 9 (.if_icmp .ge) 31 12 := ⟨22, by decide +kernel, by decide, rfl⟩
theorem iX6_entriesOf_12 : zLa mX6_entriesOf 12 0 13 := Or.inl ⟨0, by decide +kernel, rfl, rfl⟩
theorem iX6_entriesOf_13 : zIs mX6_entriesOf 13 (.getfield 31) 3 16 := ⟨by decide +kernel, rfl⟩
theorem iX6_entriesOf_16 : zLi mX6_entriesOf 16 3 17 := Or.inl ⟨3, by decide +kernel, rfl, rfl⟩
theorem iX6_entriesOf_17 : zIs mX6_entriesOf 17 (.iaload) 1 18 := ⟨by decide +kernel, rfl⟩
theorem iX6_entriesOf_18 : zLi mX6_entriesOf 18 1 19 := Or.inl ⟨1, by decide +kernel, rfl, rfl⟩
theorem iX6_entriesOf_19 : zBr mX6_entriesOf 19 (.if_icmp .ne) 25 22 := ⟨6, by decide +kernel, by decide, rfl⟩
theorem iX6_entriesOf_22 : zIs mX6_entriesOf 22 (.iinc 2 1) 3 25 := ⟨by decide +kernel, rfl⟩
theorem iX6_entriesOf_25 : zIs mX6_entriesOf 25 (.iinc 3 1) 3 28 := ⟨by decide +kernel, rfl⟩
theorem iX6_entriesOf_28 : zBr mX6_entriesOf 28 .goto 4 31 := ⟨(-24), by decide +kernel, by decide, rfl⟩
theorem iX6_entriesOf_31 : zLi mX6_entriesOf 31 2 32 := Or.inl ⟨2, by decide +kernel, rfl, rfl⟩
theorem iX6_entriesOf_32 : zIs mX6_entriesOf 32 (.ireturn) 1 33 := ⟨by decide +kernel, rfl⟩
end
section
theorem iX7_init_0 : zLa mX7_init 0 0 1 := Or.inl ⟨0, by decide +kernel, rfl, rfl⟩
theorem iX7_init_1 : zIs mX7_init 1 (.invokespecial 3) 3 4 := ⟨by decide +kernel, rfl⟩
theorem iX7_init_4 : zLa mX7_init 4 0 5 := Or.inl ⟨0, by decide +kernel, rfl, rfl⟩
theorem iX7_init_5 : zIs mX7_init 5 (.new 9) 3 8 := ⟨by decide +kernel, rfl⟩
theorem iX7_init_8 : zIs mX7_init 8 (.dup) 1 9 := ⟨by decide +kernel, rfl⟩
theorem iX7_init_9 : zIs mX7_init 9 (.invokespecial 11) 3 12 := ⟨by decide +kernel, rfl⟩
theorem iX7_init_12 : zIs mX7_init 12 (.putfield 12) 3 15 := ⟨by decide +kernel, rfl⟩
theorem iX7_init_15 : zLa mX7_init 15 0 16 := Or.inl ⟨0, by decide +kernel, rfl, rfl⟩
theorem iX7_init_16 : zIs mX7_init 16 (.new 16) 3 19 := ⟨by decide +kernel, rfl⟩
theorem iX7_init_19 : zIs mX7_init 19 (.dup) 1 20 := ⟨by decide +kernel, rfl⟩
theorem iX7_init_20 : zLa mX7_init 20 0 21 := Or.inl ⟨0, by decide +kernel, rfl, rfl⟩
theorem iX7_init_21 : zIs mX7_init 21 (.getfield 12) 3 24 := ⟨by decide +kernel, rfl⟩
theorem iX7_init_24 : zIs mX7_init 24 (.invokespecial 18) 3 27 := ⟨by decide +kernel, rfl⟩
theorem iX7_init_27 : zIs mX7_init 27 (.putfield 21) 3 30 := ⟨by decide +kernel, rfl⟩
theorem iX7_init_30 : zLa mX7_init 30 0 31 := Or.inl ⟨0, by decide +kernel, rfl, rfl⟩
theorem iX7_init_31 : zIs mX7_init 31 (.new 25) 3 34 := ⟨by decide +kernel, rfl⟩
theorem iX7_init_34 : zIs mX7_init 34 (.dup) 1 35 := ⟨by decide +kernel, rfl⟩
theorem iX7_init_35 : zLa mX7_init 35 0 36 := Or.inl ⟨0, by decide +kernel, rfl, rfl⟩
theorem iX7_init_36 : zIs mX7_init 36 (.getfield 12) 3 39 := ⟨by decide +kernel, rfl⟩
theorem iX7_init_39 : zLa mX7_init 39 0 40 := Or.inl ⟨0, by decide +kernel, rfl, rfl⟩
theorem iX7_init_40 : zIs mX7_init 40 (.getfield 21) 3 43 := ⟨by decide +kernel, rfl⟩
theorem iX7_init_43 : zIs mX7_init 43 (.invokespecial 27) 3 46 := ⟨by decide +kernel, rfl⟩
theorem iX7_init_46 : zIs mX7_init 46 (.putfield 30) 3 49 := ⟨by decide +kernel, rfl⟩
theorem iX7_init_49 : zLa mX7_init 49 0 50 := Or.inl ⟨0, by decide +kernel, rfl, rfl⟩
theorem iX7_init_50 : zIs mX7_init 50 (.new 34) 3 53 := ⟨by decide +kernel, rfl⟩
theorem iX7_init_53 : zIs mX7_init 53 (.dup) 1 54 := ⟨by decide +kernel, rfl⟩
theorem iX7_init_54 : zIs mX7_init 54 (.invokespecial 36) 3 57 := ⟨by decide +kernel, rfl⟩
theorem iX7_init_57 : zIs mX7_init 57 (.putfield 37) 3 60 := ⟨by decide +kernel, rfl⟩
theorem iX7_init_60 : zLa mX7_init 60 0 61 := Or.inl ⟨0, by decide +kernel, rfl, rfl⟩
theorem iX7_init_61 : zIs mX7_init 61 (.new 41) 3 64 := ⟨by decide +kernel, rfl⟩
theorem iX7_init_64 : zIs mX7_init 64 (.dup) 1 65 := ⟨by decide +kernel, rfl⟩
theorem iX7_init_65 : zIs mX7_init 65 (.invokespecial 43) 3 68 := ⟨by decide +kernel, rfl⟩
theorem iX7_init_68 : zIs mX7_init 68 (.putfield 44) 3 71 := ⟨by decide +kernel, rfl⟩
theorem iX7_init_71 : zLa mX7_init 71 0 72 := Or.inl ⟨0, by decide +kernel, rfl, rfl⟩
theorem iX7_init_72 : zIs mX7_init 72 (.new 48) 3 75 := ⟨by decide +kernel, rfl⟩
theorem iX7_init_75 : zIs mX7_init 75 (.dup) 1 76 := ⟨by decide +kernel, rfl⟩
theorem iX7_init_76 : zIs mX7_init 76 (.invokespecial 50) 3 79 := ⟨by decide +kernel, rfl⟩
theorem iX7_init_79 : zIs mX7_init 79 (.putfield 51) 3 82 := ⟨by decide +kernel, rfl⟩
theorem iX7_init_82 : zLa mX7_init 82 0 83 := Or.inl ⟨0, by decide +kernel, rfl, rfl⟩
theorem iX7_init_83 : zPi mX7_init 83 8 85 := Or.inr (Or.inl ⟨8, by decide +kernel, by decide, rfl⟩)
theorem iX7_init_85 : zIs mX7_init 85 (.anewarray 55) 3 88 := ⟨by decide +kernel, rfl⟩
theorem iX7_init_88 : zIs mX7_init 88 (.putfield 57) 3 91 := ⟨by decide +kernel, rfl⟩
theorem iX7_init_91 : zLa mX7_init 91 0 92 := Or.inl ⟨0, by decide +kernel, rfl, rfl⟩
theorem iX7_init_92 : zPi mX7_init 92 0 93 := Or.inl ⟨0, by decide +kernel, by decide, rfl⟩
theorem iX7_init_93 : zIs mX7_init 93 (.putfield 61) 3 96 := ⟨by decide +kernel, rfl⟩
theorem iX7_init_96 : zLa mX7_init 96 0 97 := Or.inl ⟨0, by decide +kernel, rfl, rfl⟩
theorem iX7_init_97 : zPi mX7_init 97 0 98 := Or.inl ⟨0, by decide +kernel, by decide, rfl⟩
theorem iX7_init_98 : zIs mX7_init 98 (.putfield 65) 3 101 := ⟨by decide +kernel, rfl⟩
theorem iX7_init_101 : zLa mX7_init 101 0 102 := Or.inl ⟨0, by decide +kernel, rfl, rfl⟩
theorem iX7_init_102 : zPi mX7_init 102 0 103 := Or.inl ⟨0, by decide +kernel, by decide, rfl⟩
theorem iX7_init_103 : zIs mX7_init 103 (.putfield 68) 3 106 := ⟨by decide +kernel, rfl⟩
theorem iX7_init_106 : zLa mX7_init 106 0 107 := Or.inl ⟨0, by decide +kernel, rfl, rfl⟩
theorem iX7_init_107 : zPi mX7_init 107 0 108 := Or.inl ⟨0, by decide +kernel, by decide, rfl⟩
theorem iX7_init_108 : zIs mX7_init 108 (.putfield 71) 3 111 := ⟨by decide +kernel, rfl⟩
theorem iX7_init_111 : zLa mX7_init 111 0 112 := Or.inl ⟨0, by decide +kernel, rfl, rfl⟩
theorem iX7_init_112 : zPi mX7_init 112 0 113 := Or.inl ⟨0, by decide +kernel, by decide, rfl⟩
theorem iX7_init_113 : zIs mX7_init 113 (.putfield 74) 3 116 := ⟨by decide +kernel, rfl⟩
theorem iX7_init_116 : zLa mX7_init 116 0 117 := Or.inl ⟨0, by decide +kernel, rfl, rfl⟩
theorem iX7_init_117 : zPi mX7_init 117 0 118 := Or.inl ⟨0, by decide +kernel, by decide, rfl⟩
theorem iX7_init_118 : zIs mX7_init 118 (.putfield 77) 3 121 := ⟨by decide +kernel, rfl⟩
theorem iX7_init_121 : zPi mX7_init 121 0 122 := Or.inl ⟨0, by decide +kernel, by decide, rfl⟩
theorem iX7_init_122 : zSi mX7_init 122 1 123 := ⟨Or.inl ⟨1, by decide +kernel, rfl, rfl⟩, by decide⟩
theorem iX7_init_123 : zLi mX7_init 123 1 124 := Or.inl ⟨1, by decide +kernel, rfl, rfl⟩
theorem iX7_init_124 : zPi mX7_init 124 8 126 := Or.inr (Or.inl ⟨8, by decide +kernel, by decide, rfl⟩)
theorem iX7_init_126 : zBr mX7_init 126 (.if_icmp .ge) 148 129 := ⟨22, by decide +kernel, by decide, rfl⟩
theorem iX7_init_129 : zLa mX7_init 129 0 130 := Or.inl ⟨0, by decide +kernel, rfl, rfl⟩
theorem iX7_init_130 : zIs mX7_init 130 (.getfield 57) 3 133 := ⟨by decide +kernel, rfl⟩
theorem iX7_init_133 : zLi mX7_init 133 1 134 := Or.inl ⟨1, by decide +kernel, rfl, rfl⟩
theorem iX7_init_134 : zIs mX7_init 134 (.new 55) 3 137 := ⟨by decide +kernel, rfl⟩
theorem iX7_init_137 : zIs mX7_init 137 (.dup) 1 138 := ⟨by decide +kernel, rfl⟩
theorem iX7_init_138 : zIs mX7_init 138 (.invokespecial 81) 3 141 := ⟨by decide +kernel, rfl⟩
theorem iX7_init_141 : zIs mX7_init 141 (.aastore) 1 142 := ⟨by decide +kernel, rfl⟩
theorem iX7_init_142 : zIs mX7_init 142 (.iinc 1 1) 3 145 := ⟨by decide +kernel, rfl⟩
theorem iX7_init_145 : zBr mX7_init 145 .goto 123 148 := ⟨(-22), by decide +kernel, by decide, rfl⟩
theorem iX7_init_148 : zIs mX7_init 148 (.return_) 1 149 := ⟨by decide +kernel, rfl⟩
theorem iX7_show_0 : zLi mX7_show 0 1 1 := Or.inl ⟨1, by decide +kernel, rfl, rfl⟩
theorem iX7_show_1 : zBr mX7_show 1 (.ifCond .lt) 19 4 := ⟨18, by decide +kernel, by decide, rfl⟩
theorem iX7_show_4 : zLi mX7_show 4 1 5 := Or.inl ⟨1, by decide +kernel, rfl, rfl⟩
theorem iX7_show_5 : zPi mX7_show 5 3 6 := Or.inl ⟨3, by decide +kernel, by decide, rfl⟩
theorem iX7_show_6 : zBr mX7_show 6 (.if_icmp .gt) 19 9 := ⟨13, by decide +kernel, by decide, rfl⟩
theorem iX7_show_9 : zLi mX7_show 9 2 10 := Or.inl ⟨2, by decide +kernel, rfl, rfl⟩
theorem iX7_show_10 : zPi mX7_show 10 1 11 := Or.inl ⟨1, by decide +kernel, by decide, rfl⟩
theorem iX7_show_11 : zBr mX7_show 11 (.if_icmp .lt) 19 14 := ⟨8, by decide +kernel, by decide, rfl⟩
theorem iX7_show_14 : zLi mX7_show 14 2 15 := Or.inl ⟨2, by decide +kernel, rfl, rfl⟩
theorem iX7_show_15 : zPi mX7_show 15 5 16 := Or.inl ⟨5, by decide +kernel, by decide, rfl⟩
theorem iX7_show_16 : zBr mX7_show 16 (.if_icmp .le) 22 19 := ⟨6, by decide +kernel, by decide, rfl⟩
theorem iX7_show_19 : zPi mX7_show 19 (-102) 21 := Or.inr (Or.inl ⟨(-102), by decide +kernel, by decide, rfl⟩)
theorem iX7_show_21 : zIs mX7_show 21 (.ireturn) 1 22 := ⟨by decide +kernel, rfl⟩
theorem iX7_show_22 : zLa mX7_show 22 0 23 := Or.inl ⟨0, by decide +kernel, rfl, rfl⟩
theorem iX7_show_23 : zIs mX7_show 23 (.getfield 12) 3 26 := ⟨by decide +kernel, rfl⟩
theorem iX7_show_26 : zIs mX7_show 26 (.getfield 82) 3 29 := ⟨by decide +kernel, rfl⟩
theorem iX7_show_29 : zPi mX7_show 29 12 31 := Or.inr (Or.inl ⟨12, by decide +kernel, by decide, rfl⟩)
theorem iX7_show_31 : zBr mX7_show 31 (.if_icmp .lt) 37 34 := ⟨6, by decide +kernel, by decide, rfl⟩
theorem iX7_show_34 : zPi mX7_show 34 (-104) 36 := Or.inr (Or.inl ⟨(-104), by decide +kernel, by decide, rfl⟩)
theorem iX7_show_36 : zIs mX7_show 36 (.ireturn) 1 37 := ⟨by decide +kernel, rfl⟩
theorem iX7_show_37 : zLa mX7_show 37 0 38 := Or.inl ⟨0, by decide +kernel, rfl, rfl⟩
theorem iX7_show_38 : zIs mX7_show 38 (.getfield 12) 3 41 := ⟨by decide +kernel, rfl⟩
theorem iX7_show_41 : zLi mX7_show 41 1 42 := Or.inl ⟨1, by decide +kernel, rfl, rfl⟩
theorem iX7_show_42 : zLi mX7_show 42 2 43 := Or.inl ⟨2, by decide +kernel, rfl, rfl⟩
theorem iX7_show_43 : zIs mX7_show 43 (.invokevirtual 85) 3 46 := ⟨by decide +kernel, rfl⟩
theorem iX7_show_46 : zIs mX7_show 46 (.ireturn) 1 47 := ⟨by decide +kernel, rfl⟩
theorem iX7_entry_0 : zLa mX7_entry 0 0 1 := Or.inl ⟨0, by decide +kernel, rfl, rfl⟩
theorem iX7_entry_1 : zIs mX7_entry 1 (.getfield 12) 3 4 := ⟨by decide +kernel, rfl⟩
theorem iX7_entry_4 : zLi mX7_entry 4 1 5 := Or.inl ⟨1, by decide +kernel, rfl, rfl⟩
theorem iX7_entry_5 : zIs mX7_entry 5 (.invokevirtual 89) 3 8 := ⟨by decide +kernel, rfl⟩
theorem iX7_entry_8 : zBr mX7_entry 8 (.ifCond .ne) 14 11 := ⟨6, by decide +kernel, by decide, rfl⟩
theorem iX7_entry_11 : zPi mX7_entry 11 (-101) 13 := Or.inr (Or.inl ⟨(-101), by decide +kernel, by decide, rfl⟩)
theorem iX7_entry_13 : zIs mX7_entry 13 (.ireturn) 1 14 := ⟨by decide +kernel, rfl⟩
theorem iX7_entry_14 : zLa mX7_entry 14 0 15 := Or.inl ⟨0, by decide +kernel, rfl, rfl⟩
theorem iX7_entry_15 : zIs mX7_entry 15 (.getfield 12) 3 18 := ⟨by decide +kernel, rfl⟩
theorem iX7_entry_18 : zIs mX7_entry 18 (.getfield 93) 3 21 := ⟨by decide +kernel, rfl⟩
theorem iX7_entry_21 : zLi mX7_entry 21 1 22 := Or.inl ⟨1, by decide +kernel, rfl, rfl⟩
theorem iX7_entry_22 : zIs mX7_entry 22 (.baload) 1 23 := ⟨by decide +kernel, rfl⟩
theorem iX7_entry_23 : zBr mX7_entry 23 (.ifCond .eq) 29 26 := ⟨6, by decide +kernel, by decide, rfl⟩
theorem iX7_entry_26 : zPi mX7_entry 26 (-103) 28 := Or.inr (Or.inl ⟨(-103), by decide +kernel, by decide, rfl⟩)
theorem iX7_entry_28 : zIs mX7_entry 28 (.ireturn) 1 29 := ⟨by decide +kernel, rfl⟩
theorem iX7_entry_29 : zLa mX7_entry 29 0 30 := Or.inl ⟨0, by decide +kernel, rfl, rfl⟩
theorem iX7_entry_30 : zIs mX7_entry 30 (.getfield 12) 3 33 := ⟨by decide +kernel, rfl⟩
theorem iX7_entry_33 : zIs mX7_entry 33 (.getfield 97) 3 36 := ⟨by decide +kernel, rfl⟩
theorem iX7_entry_36 : zPi mX7_entry 36 60 38 := Or.inr (Or.inl ⟨60, by decide +kernel, by decide, rfl⟩)
theorem iX7_entry_38 : zBr mX7_entry 38 (.if_icmp .lt) 44 41 := ⟨6, by decide +kernel, by decide, rfl⟩
theorem iX7_entry_41 : zPi mX7_entry 41 (-104) 43 := Or.inr (Or.inl ⟨(-104), by decide +kernel, by decide, rfl⟩)
theorem iX7_entry_43 : zIs mX7_entry 43 (.ireturn) 1 44 := ⟨by decide +kernel, rfl⟩
theorem iX7_entry_44 : zLa mX7_entry 44 0 45 := Or.inl ⟨0, by decide +kernel, rfl, rfl⟩
theorem iX7_entry_45 : zIs mX7_entry 45 (.getfield 12) 3 48 := ⟨by decide +kernel, rfl⟩
theorem iX7_entry_48 : zLi mX7_entry 48 1 49 := Or.inl ⟨1, by decide +kernel, rfl, rfl⟩
theorem iX7_entry_49 : zIs mX7_entry 49 (.invokevirtual 100) 3 52 := ⟨by decide +kernel, rfl⟩
theorem iX7_entry_52 : zIs mX7_entry 52 (.ireturn) 1 53 := ⟨by decide +kernel, rfl⟩
theorem iX7_prizes_0 : zLa mX7_prizes 0 0 1 := Or.inl ⟨0, by decide +kernel, rfl, rfl⟩
theorem iX7_prizes_1 : zIs mX7_prizes 1 (.getfield 12) 3 4 := ⟨by decide +kernel, rfl⟩
theorem iX7_prizes_4 : zLi mX7_prizes 4 1 5 := Or.inl ⟨1, by decide +kernel, rfl, rfl⟩
theorem iX7_prizes_5 : zIs mX7_prizes 5 (.invokevirtual 89) 3 8 := ⟨by decide +kernel, rfl⟩
theorem iX7_prizes_8 : zBr mX7_prizes 8 (.ifCond .ne) 14 11 := ⟨6, by decide +kernel, by decide, rfl⟩
theorem iX7_prizes_11 : zPi mX7_prizes 11 (-101) 13 := Or.inr (Or.inl ⟨(-101), by decide +kernel, by decide, rfl⟩)
theorem iX7_prizes_13 : zIs mX7_prizes 13 (.ireturn) 1 14 := ⟨by decide +kernel, rfl⟩
theorem iX7_prizes_14 : zLi mX7_prizes 14 2 15 := Or.inl ⟨2, by decide +kernel, rfl, rfl⟩
theorem iX7_prizes_15 : zIs mX7_prizes 15 (.invokestatic 104) 3 18 := ⟨by decide +kernel, rfl⟩
theorem iX7_prizes_18 : zBr mX7_prizes 18 (.ifCond .eq) 36 21 := ⟨18, by decide +kernel, by decide, rfl⟩
theorem iX7_prizes_21 : zLi mX7_prizes 21 3 22 := Or.inl ⟨3, by decide +kernel, rfl, rfl⟩
theorem iX7_prizes_22 : zIs mX7_prizes 22 (.invokestatic 104) 3 25 := ⟨by decide +kernel, rfl⟩
theorem iX7_prizes_25 : zBr mX7_prizes 25 (.ifCond .eq) 36 28 := ⟨11, by decide +kernel, by decide, rfl⟩
theorem iX7_prizes_28 : zLi mX7_prizes 28 4 30 := Or.inr ⟨by decide +kernel, rfl⟩
theorem iX7_prizes_30 : zIs mX7_prizes 30 (.invokestatic 104) 3 33 := ⟨by decide +kernel, rfl⟩
theorem iX7_prizes_33 : zBr mX7_prizes 33 (.ifCond .ne) 39 36 := ⟨6, by decide +kernel, by decide, rfl⟩
theorem iX7_prizes_36 : zPi mX7_prizes 36 (-102) 38 := Or.inr (Or.inl ⟨(-102), by decide +kernel, by decide, rfl⟩)
theorem iX7_prizes_38 : zIs mX7_prizes 38 (.ireturn) 1 39 := ⟨by decide +kernel, rfl⟩
theorem iX7_prizes_39 : zLa mX7_prizes 39 0 40 := Or.inl ⟨0, by decide +kernel, rfl, rfl⟩
theorem iX7_prizes_40 : zIs mX7_prizes 40 (.getfield 12) 3 43 := ⟨by decide +kernel, rfl⟩
theorem iX7_prizes_43 : zIs mX7_prizes 43 (.getfield 93) 3 46 := ⟨by decide +kernel, rfl⟩
theorem iX7_prizes_46 : zLi mX7_prizes 46 1 47 := Or.inl ⟨1, by decide +kernel, rfl, rfl⟩
theorem iX7_prizes_47 : zIs mX7_prizes 47 (.baload) 1 48 := ⟨by decide +kernel, rfl⟩
theorem iX7_prizes_48 : zBr mX7_prizes 48 (.ifCond .eq) 54 51 := ⟨6, by decide +kernel, by decide, rfl⟩
theorem iX7_prizes_51 : zPi mX7_prizes 51 (-103) 53 := Or.inr (Or.inl ⟨(-103), by decide +kernel, by decide, rfl⟩)
theorem iX7_prizes_53 : zIs mX7_prizes 53 (.ireturn) 1 54 := ⟨by decide +kernel, rfl⟩
theorem iX7_prizes_54 : zLa mX7_prizes 54 0 55 := Or.inl ⟨0, by decide +kernel, rfl, rfl⟩
theorem iX7_prizes_55 : zIs mX7_prizes 55 (.getfield 12) 3 58 := ⟨by decide +kernel, rfl⟩
theorem iX7_prizes_58 : zLi mX7_prizes 58 1 59 := Or.inl ⟨1, by decide +kernel, rfl, rfl⟩
theorem iX7_prizes_59 : zLi mX7_prizes 59 2 60 := Or.inl ⟨2, by decide +kernel, rfl, rfl⟩
theorem iX7_prizes_60 : zLi mX7_prizes 60 3 61 := Or.inl ⟨3, by decide +kernel, rfl, rfl⟩
theorem iX7_prizes_61 : zLi mX7_prizes 61 4 63 := Or.inr ⟨by decide +kernel, rfl⟩
theorem iX7_prizes_63 : zIs mX7_prizes 63 (.invokevirtual 107) 3 66 := ⟨by decide +kernel, rfl⟩
theorem iX7_prizes_66 : zPi mX7_prizes 66 0 67 := Or.inl ⟨0, by decide +kernel, by decide, rfl⟩
theorem iX7_prizes_67 : zIs mX7_prizes 67 (.ireturn) 1 68 := ⟨by decide +kernel, rfl⟩
theorem iX7_rule_0 : zLi mX7_rule 0 1 1 := Or.inl ⟨1, by decide +kernel, rfl, rfl⟩
theorem iX7_rule_1 : zBr mX7_rule 1 (.ifCond .lt) 16 4 := ⟨15, by decide +kernel, by decide, rfl⟩
theorem iX7_rule_4 : zLi mX7_rule 4 1 5 := Or.inl ⟨1, by decide +kernel, rfl, rfl⟩
theorem iX7_rule_5 : zPi mX7_rule 5 3 6 := Or.inl ⟨3, by decide +kernel, by decide, rfl⟩
theorem iX7_rule_6 : zBr mX7_rule 6 (.if_icmp .gt) 16 9 := ⟨10, by decide +kernel, by decide, rfl⟩
theorem iX7_rule_9 : zLi mX7_rule 9 2 10 := Or.inl ⟨2, by decide +kernel, rfl, rfl⟩
theorem iX7_rule_10 : zIs mX7_rule 10 (.invokestatic 111) 3 13 := ⟨by decide +kernel, rfl⟩
theorem iX7_rule_13 : zBr mX7_rule 13 (.ifCond .ne) 19 16 := ⟨6, by decide +kernel, by decide, rfl⟩
theorem iX7_rule_16 : zPi mX7_rule 16 (-102) 18 := Or.inr (Or.inl ⟨(-102), by decide +kernel, by decide, rfl⟩)
theorem iX7_rule_18 : zIs mX7_rule 18 (.ireturn) 1 19 := ⟨by decide +kernel, rfl⟩
theorem iX7_rule_19 : zLa mX7_rule 19 0 20 := Or.inl ⟨0, by decide +kernel, rfl, rfl⟩
theorem iX7_rule_20 : zIs mX7_rule 20 (.getfield 37) 3 23 := ⟨by decide +kernel, rfl⟩
theorem iX7_rule_23 : zIs mX7_rule 23 (.getfield 114) 3 26 := ⟨by decide +kernel, rfl⟩
theorem iX7_rule_26 : zPi mX7_rule 26 24 28 := Or.inr (Or.inl ⟨24, by decide +kernel, by decide, rfl⟩)
theorem iX7_rule_28 : zBr mX7_rule 28 (.if_icmp .lt) 34 31 := ⟨6, by decide +kernel, by decide, rfl⟩
theorem iX7_rule_31 : zPi mX7_rule 31 (-104) 33 := Or.inr (Or.inl ⟨(-104), by decide +kernel, by decide, rfl⟩)
theorem iX7_rule_33 : zIs mX7_rule 33 (.ireturn) 1 34 := ⟨by decide +kernel, rfl⟩
theorem iX7_rule_34 : zLa mX7_rule 34 0 35 := Or.inl ⟨0, by decide +kernel, rfl, rfl⟩
theorem iX7_rule_35 : zIs mX7_rule 35 (.getfield 37) 3 38 := ⟨by decide +kernel, rfl⟩
theorem iX7_rule_38 : zLi mX7_rule 38 1 39 := Or.inl ⟨1, by decide +kernel, rfl, rfl⟩
theorem iX7_rule_39 : zLi mX7_rule 39 2 40 := Or.inl ⟨2, by decide +kernel, rfl, rfl⟩
theorem iX7_rule_40 : zLi mX7_rule 40 3 41 := Or.inl ⟨3, by decide +kernel, rfl, rfl⟩
theorem iX7_rule_41 : zIs mX7_rule 41 (.invokevirtual 117) 3 44 := ⟨by decide +kernel, rfl⟩
theorem iX7_rule_44 : zIs mX7_rule 44 (.ireturn) 1 45 := ⟨by decide +kernel, rfl⟩
theorem iX7_clearRules_0 : zLa mX7_clearRules 0 0 1 := Or.inl ⟨0, by decide +kernel, rfl, rfl⟩
theorem iX7_clearRules_1 : zIs mX7_clearRules 1 (.getfield 37) 3 4 := ⟨by decide +kernel, rfl⟩
theorem iX7_clearRules_4 : zIs mX7_clearRules 4 (.getfield 114) 3 7 := ⟨by decide +kernel, rfl⟩
theorem iX7_clearRules_7 : zSi mX7_clearRules 7 1 8 := ⟨Or.inl ⟨1, by decide +kernel, rfl, rfl⟩, by decide⟩
theorem iX7_clearRules_8 : zLa mX7_clearRules 8 0 9 := Or.inl ⟨0, by decide +kernel, rfl, rfl⟩
theorem iX7_clearRules_9 : zIs mX7_clearRules 9 (.getfield 37) 3 12 := ⟨by decide +kernel, rfl⟩
theorem iX7_clearRules_12 : zPi mX7_clearRules 12 0 13 := Or.inl ⟨0, by decide +kernel, by decide, rfl⟩
theorem iX7_clearRules_13 : zIs mX7_clearRules 13 (.putfield 114) 3 16 := ⟨by decide +kernel, rfl⟩
theorem iX7_clearRules_16 : zLi mX7_clearRules 16 1 17 := Or.inl ⟨1, by decide +kernel, rfl, rfl⟩
theorem iX7_clearRules_17 : zIs mX7_clearRules 17 (.ireturn) 1 18 := ⟨by decide +kernel, rfl⟩
theorem iX7_observe_0 : zLi mX7_observe 0 1 1 := Or.inl ⟨1, by decide +kernel, rfl, rfl⟩
theorem iX7_observe_1 : zBr mX7_observe 1 (.ifCond .ge) 7 4 := ⟨6, by decide +kernel, by decide, rfl⟩
theorem iX7_observe_4 : zPi mX7_observe 4 (-102) 6 := Or.inr (Or.inl ⟨(-102), by decide +kernel, by decide, rfl⟩)
theorem iX7_observe_6 : zIs mX7_observe 6 (.ireturn) 1 7 := ⟨by decide +kernel, rfl⟩
theorem iX7_observe_7 : zLa mX7_observe 7 0 8 := Or.inl ⟨0, by decide +kernel, rfl, rfl⟩
theorem iX7_observe_8 : zIs mX7_observe 8 (.getfield 51) 3 11 := ⟨by decide +kernel, rfl⟩
theorem iX7_observe_11 : zIs mX7_observe 11 (.getfield 121) 3 14 := ⟨by decide +kernel, rfl⟩
theorem iX7_observe_14 : zPi mX7_observe 14 6 16 := Or.inr (Or.inl ⟨6, by decide +kernel, by decide, rfl⟩)
theorem iX7_observe_16 : zBr mX7_observe 16 (.if_icmp .lt) 22 19 := ⟨6, by decide +kernel, by decide, rfl⟩
theorem iX7_observe_19 : zPi mX7_observe 19 (-104) 21 := Or.inr (Or.inl ⟨(-104), by decide +kernel, by decide, rfl⟩)
theorem iX7_observe_21 : zIs mX7_observe 21 (.ireturn) 1 22 := ⟨by decide +kernel, rfl⟩
theorem iX7_observe_22 : zLa mX7_observe 22 0 23 := Or.inl ⟨0, by decide +kernel, rfl, rfl⟩
theorem iX7_observe_23 : zIs mX7_observe 23 (.getfield 51) 3 26 := ⟨by decide +kernel, rfl⟩
theorem iX7_observe_26 : zLi mX7_observe 26 1 27 := Or.inl ⟨1, by decide +kernel, rfl, rfl⟩
theorem iX7_observe_27 : zIs mX7_observe 27 (.invokevirtual 122) 3 30 := ⟨by decide +kernel, rfl⟩
theorem iX7_observe_30 : zIs mX7_observe 30 (.ireturn) 1 31 := ⟨by decide +kernel, rfl⟩
theorem iX7_begin_0 : zLa mX7_begin 0 0 1 := Or.inl ⟨0, by decide +kernel, rfl, rfl⟩
theorem iX7_begin_1 : zIs mX7_begin 1 (.getfield 12) 3 4 := ⟨by decide +kernel, rfl⟩
theorem iX7_begin_4 : zLi mX7_begin 4 1 5 := Or.inl ⟨1, by decide +kernel, rfl, rfl⟩
theorem iX7_begin_5 : zIs mX7_begin 5 (.invokevirtual 124) 3 8 := ⟨by decide +kernel, rfl⟩
theorem iX7_begin_8 : zBr mX7_begin 8 (.ifCond .eq) 22 11 := ⟨14, by decide +kernel, by decide, rfl⟩
theorem iX7_begin_11 : zLa mX7_begin 11 0 12 := Or.inl ⟨0, by decide +kernel, rfl, rfl⟩
theorem iX7_begin_12 : zIs mX7_begin 12 (.getfield 12) 3 15 := ⟨by decide +kernel, rfl⟩
theorem iX7_begin_15 : zLi mX7_begin 15 2 16 := Or.inl ⟨2, by decide +kernel, rfl, rfl⟩
theorem iX7_begin_16 : zIs mX7_begin 16 (.invokevirtual 127) 3 19 := ⟨by decide +kernel, rfl⟩
theorem iX7_begin_19 : zBr mX7_begin 19 (.ifCond .ne) 25 22 := ⟨6, by decide +kernel, by decide, rfl⟩
theorem iX7_begin_22 : zPi mX7_begin 22 (-101) 24 := Or.inr (Or.inl ⟨(-101), by decide +kernel, by decide, rfl⟩)
theorem iX7_begin_24 : zIs mX7_begin 24 (.ireturn) 1 25 := ⟨by decide +kernel, rfl⟩
theorem iX7_begin_25 : zLa mX7_begin 25 0 26 := Or.inl ⟨0, by decide +kernel, rfl, rfl⟩
theorem iX7_begin_26 : zIs mX7_begin 26 (.getfield 12) 3 29 := ⟨by decide +kernel, rfl⟩
theorem iX7_begin_29 : zIs mX7_begin 29 (.getfield 130) 3 32 := ⟨by decide +kernel, rfl⟩
theorem iX7_begin_32 : zLi mX7_begin 32 1 33 := Or.inl ⟨1, by decide +kernel, rfl, rfl⟩
theorem iX7_begin_33 : zIs mX7_begin 33 (.iaload) 1 34 := ⟨by decide +kernel, rfl⟩
theorem iX7_begin_34 : zLa mX7_begin 34 0 35 := Or.inl ⟨0, by decide +kernel, rfl, rfl⟩
theorem iX7_begin_35 : zIs mX7_begin 35 (.getfield 12) 3 38 := ⟨by decide +kernel, rfl⟩
theorem iX7_begin_38 : zIs mX7_begin 38 (.getfield 134) 3 41 := ⟨by decide +kernel, rfl⟩
theorem iX7_begin_41 : zLi mX7_begin 41 2 42 := Or.inl ⟨2, by decide +kernel, rfl, rfl⟩
theorem iX7_begin_42 : zIs mX7_begin 42 (.iaload) 1 43 := ⟨by decide +kernel, rfl⟩
theorem iX7_begin_43 : zBr mX7_begin 43 (.if_icmp .eq) 49 46 := ⟨6, by decide +kernel, by decide, rfl⟩
theorem iX7_begin_46 : zPi mX7_begin 46 (-102) 48 := Or.inr (Or.inl ⟨(-102), by decide +kernel, by decide, rfl⟩)
theorem iX7_begin_48 : zIs mX7_begin 48 (.ireturn) 1 49 := ⟨by decide +kernel, rfl⟩
theorem iX7_begin_49 : zLa mX7_begin 49 0 50 := Or.inl ⟨0, by decide +kernel, rfl, rfl⟩
theorem iX7_begin_50 : zIs mX7_begin 50 (.getfield 12) 3 53 := ⟨by decide +kernel, rfl⟩
theorem iX7_begin_53 : zIs mX7_begin 53 (.getfield 93) 3 56 := ⟨by decide +kernel, rfl⟩
theorem iX7_begin_56 : zLa mX7_begin 56 0 57 := Or.inl ⟨0, by decide +kernel, rfl, rfl⟩
theorem iX7_begin_57 : zIs mX7_begin 57 (.getfield 12) 3 60 := ⟨by decide +kernel, rfl⟩
theorem iX7_begin_60 : zIs mX7_begin 60 (.getfield 134) 3 63 := ⟨by decide +kernel, rfl⟩
theorem iX7_begin_63 : zLi mX7_begin 63 2 64 := Or.inl ⟨2, by decide +kernel, rfl, rfl⟩
theorem iX7_begin_64 : zIs mX7_begin 64 (.iaload) 1 65 := ⟨by decide +kernel, rfl⟩
theorem iX7_begin_65 : zIs mX7_begin 65 (.baload) 1 66 := ⟨by decide +kernel, rfl⟩
theorem iX7_begin_66 : zBr mX7_begin 66 (.ifCond .eq) 72 69 := ⟨6, by decide +kernel, by decide, rfl⟩
theorem iX7_begin_69 : zPi mX7_begin 69 (-103) 71 := Or.inr (Or.inl ⟨(-103), by decide +kernel, by decide, rfl⟩)
theorem iX7_begin_71 : zIs mX7_begin 71 (.ireturn) 1 72 := ⟨by decide +kernel, rfl⟩
theorem iX7_begin_72 : zLa mX7_begin 72 0 73 := Or.inl ⟨0, by decide +kernel, rfl, rfl⟩
theorem iX7_begin_73 : zIs mX7_begin 73 (.getfield 61) 3 76 := ⟨by decide +kernel, rfl⟩
theorem iX7_begin_76 : zPi mX7_begin 76 8 78 := Or.inr (Or.inl ⟨8, by decide +kernel, by decide, rfl⟩)
theorem iX7_begin_78 : zBr mX7_begin 78 (.if_icmp .lt) 84 81 := ⟨6, by decide +kernel, by decide, rfl⟩
theorem iX7_begin_81 : zPi mX7_begin 81 (-104) 83 := Or.inr (Or.inl ⟨(-104), by decide +kernel, by decide, rfl⟩)
theorem iX7_begin_83 : zIs mX7_begin 83 (.ireturn) 1 84 := ⟨by decide +kernel, rfl⟩
theorem iX7_begin_84 : zLa mX7_begin 84 0 85 := Or.inl ⟨0, by decide +kernel, rfl, rfl⟩
theorem iX7_begin_85 : zIs mX7_begin 85 (.getfield 57) 3 88 := ⟨by decide +kernel, rfl⟩
theorem iX7_begin_88 : zLa mX7_begin 88 0 89 := Or.inl ⟨0, by decide +kernel, rfl, rfl⟩
theorem iX7_begin_89 : zIs mX7_begin 89 (.getfield 61) 3 92 := ⟨by decide +kernel, rfl⟩
theorem iX7_begin_92 : zIs mX7_begin 92 (.aaload) 1 93 := ⟨by decide +kernel, rfl⟩
theorem iX7_begin_93 : zLi mX7_begin 93 1 94 := Or.inl ⟨1, by decide +kernel, rfl, rfl⟩
theorem iX7_begin_94 : zLi mX7_begin 94 2 95 := Or.inl ⟨2, by decide +kernel, rfl, rfl⟩
theorem iX7_begin_95 : zLa mX7_begin 95 0 96 := Or.inl ⟨0, by decide +kernel, rfl, rfl⟩
theorem iX7_begin_96 : zIs mX7_begin 96 (.getfield 21) 3 99 := ⟨by decide +kernel, rfl⟩
theorem iX7_begin_99 : zIs mX7_begin 99 (.getfield 137) 3 102 := ⟨by decide +kernel, rfl⟩
theorem iX7_begin_102 : zIs mX7_begin 102 (.invokevirtual 140) 3 105 := ⟨by decide +kernel, rfl⟩
theorem iX7_begin_105 : zLa mX7_begin 105 0 106 := Or.inl ⟨0, by decide +kernel, rfl, rfl⟩
theorem iX7_begin_106 : zIs mX7_begin 106 (.dup) 1 107 := ⟨by decide +kernel, rfl⟩
theorem iX7_begin_107 : zIs mX7_begin 107 (.getfield 61) 3 110 := ⟨by decide +kernel, rfl⟩
theorem iX7_begin_110 : zPi mX7_begin 110 1 111 := Or.inl ⟨1, by decide +kernel, by decide, rfl⟩
theorem iX7_begin_111 : zIs mX7_begin 111 (.iadd) 1 112 := ⟨by decide +kernel, rfl⟩
theorem iX7_begin_112 : zIs mX7_begin 112 (.putfield 61) 3 115 := ⟨by decide +kernel, rfl⟩
theorem iX7_begin_115 : zLa mX7_begin 115 0 116 := Or.inl ⟨0, by decide +kernel, rfl, rfl⟩
theorem iX7_begin_116 : zIs mX7_begin 116 (.getfield 61) 3 119 := ⟨by decide +kernel, rfl⟩
theorem iX7_begin_119 : zIs mX7_begin 119 (.ireturn) 1 120 := ⟨by decide +kernel, rfl⟩
theorem iX7_points_0 : zLi mX7_points 0 1 1 := Or.inl ⟨1, by decide +kernel, rfl, rfl⟩
theorem iX7_points_1 : zPi mX7_points 1 (-6000) 4 := Or.inr (Or.inr (Or.inl ⟨(-6000), by decide +kernel, by decide, rfl⟩))
theorem iX7_points_4 : zBr mX7_points 4 (.if_icmp .lt) 14 7 := ⟨10, by decide +kernel, by decide, rfl⟩
theorem iX7_points_7 : zLi mX7_points 7 1 8 := Or.inl ⟨1, by decide +kernel, rfl, rfl⟩
theorem iX7_points_8 : zPi mX7_points 8 6000 11 := Or.inr (Or.inr (Or.inl ⟨6000, by decide +kernel, by decide, rfl⟩))
theorem iX7_points_11 : zBr mX7_points 11 (.if_icmp .le) 17 14 := ⟨6, by decide +kernel, by decide, rfl⟩
theorem iX7_points_14 : zPi mX7_points 14 (-102) 16 := Or.inr (Or.inl ⟨(-102), by decide +kernel, by decide, rfl⟩)
theorem iX7_points_16 : zIs mX7_points 16 (.ireturn) 1 17 := ⟨by decide +kernel, rfl⟩
theorem iX7_points_17 : zLa mX7_points 17 0 18 := Or.inl ⟨0, by decide +kernel, rfl, rfl⟩
theorem iX7_points_18 : zIs mX7_points 18 (.invokevirtual 144) 3 21 := ⟨by decide +kernel, rfl⟩
theorem iX7_points_21 : zSi mX7_points 21 2 22 := ⟨Or.inl ⟨2, by decide +kernel, rfl, rfl⟩, by decide⟩
theorem iX7_points_22 : zLi mX7_points 22 2 23 := Or.inl ⟨2, by decide +kernel, rfl, rfl⟩
theorem iX7_points_23 : zBr mX7_points 23 (.ifCond .eq) 28 26 := ⟨5, by decide +kernel, by decide, rfl⟩
theorem iX7_points_26 : zLi mX7_points 26 2 27 := Or.inl ⟨2, by decide +kernel, rfl, rfl⟩
theorem iX7_points_27 : zIs mX7_points 27 (.ireturn) 1 28 := ⟨by decide +kernel, rfl⟩
theorem iX7_points_28 : zLa mX7_points 28 0 29 := Or.inl ⟨0, by decide +kernel, rfl, rfl⟩
theorem iX7_points_29 : zPi mX7_points 29 0 30 := Or.inl ⟨0, by decide +kernel, by decide, rfl⟩
theorem iX7_points_30 : zLi mX7_points 30 1 31 := Or.inl ⟨1, by decide +kernel, rfl, rfl⟩
theorem iX7_points_31 : zIs mX7_points 31 (.invokevirtual 148) 3 34 := ⟨by decide +kernel, rfl⟩
theorem iX7_points_34 : zLa mX7_points 34 0 35 := Or.inl ⟨0, by decide +kernel, rfl, rfl⟩
theorem iX7_points_35 : zPi mX7_points 35 0 36 := Or.inl ⟨0, by decide +kernel, by decide, rfl⟩
theorem iX7_points_36 : zIs mX7_points 36 (.invokevirtual 152) 3 39 := ⟨by decide +kernel, rfl⟩
theorem iX7_points_39 : zIs mX7_points 39 (.ireturn) 1 40 := ⟨by decide +kernel, rfl⟩
theorem iX7_deduct_0 : zLi mX7_deduct 0 1 1 := Or.inl ⟨1, by decide +kernel, rfl, rfl⟩
theorem iX7_deduct_1 : zBr mX7_deduct 1 (.ifCond .lt) 11 4 := ⟨10, by decide +kernel, by decide, rfl⟩
theorem iX7_deduct_4 : zLi mX7_deduct 4 1 5 := Or.inl ⟨1, by decide +kernel, rfl, rfl⟩
theorem iX7_deduct_5 : zPi mX7_deduct 5 6000 8 := Or.inr (Or.inr (Or.inl ⟨6000, by decide +kernel, by decide, rfl⟩))
theorem iX7_deduct_8 : zBr mX7_deduct 8 (.if_icmp .le) 14 11 := ⟨6, by decide +kernel, by decide, rfl⟩
theorem iX7_deduct_11 : zPi mX7_deduct 11 (-102) 13 := Or.inr (Or.inl ⟨(-102), by decide +kernel, by decide, rfl⟩)
theorem iX7_deduct_13 : zIs mX7_deduct 13 (.ireturn) 1 14 := ⟨by decide +kernel, rfl⟩
theorem iX7_deduct_14 : zLa mX7_deduct 14 0 15 := Or.inl ⟨0, by decide +kernel, rfl, rfl⟩
theorem iX7_deduct_15 : zIs mX7_deduct 15 (.invokevirtual 144) 3 18 := ⟨by decide +kernel, rfl⟩
theorem iX7_deduct_18 : zSi mX7_deduct 18 2 19 := ⟨Or.inl ⟨2, by decide +kernel, rfl, rfl⟩, by decide⟩
theorem iX7_deduct_19 : zLi mX7_deduct 19 2 20 := Or.inl ⟨2, by decide +kernel, rfl, rfl⟩
theorem iX7_deduct_20 : zBr mX7_deduct 20 (.ifCond .eq) 25 23 := ⟨5, by decide +kernel, by decide, rfl⟩
theorem iX7_deduct_23 : zLi mX7_deduct 23 2 24 := Or.inl ⟨2, by decide +kernel, rfl, rfl⟩
theorem iX7_deduct_24 : zIs mX7_deduct 24 (.ireturn) 1 25 := ⟨by decide +kernel, rfl⟩
theorem iX7_deduct_25 : zLa mX7_deduct 25 0 26 := Or.inl ⟨0, by decide +kernel, rfl, rfl⟩
theorem iX7_deduct_26 : zPi mX7_deduct 26 1 27 := Or.inl ⟨1, by decide +kernel, by decide, rfl⟩
theorem iX7_deduct_27 : zLi mX7_deduct 27 1 28 := Or.inl ⟨1, by decide +kernel, rfl, rfl⟩
theorem iX7_deduct_28 : zIs mX7_deduct 28 (.invokevirtual 148) 3 31 := ⟨by decide +kernel, rfl⟩
theorem iX7_deduct_31 : zLa mX7_deduct 31 0 32 := Or.inl ⟨0, by decide +kernel, rfl, rfl⟩
theorem iX7_deduct_32 : zIs mX7_deduct 32 (.getfield 21) 3 35 := ⟨by decide +kernel, rfl⟩
theorem iX7_deduct_35 : zIs mX7_deduct 35 (.getfield 155) 3 38 := ⟨by decide +kernel, rfl⟩
theorem iX7_deduct_38 : zLa mX7_deduct 38 0 39 := Or.inl ⟨0, by decide +kernel, rfl, rfl⟩
theorem iX7_deduct_39 : zIs mX7_deduct 39 (.invokevirtual 158) 3 42 := ⟨by decide +kernel, rfl⟩
theorem iX7_deduct_42 : zIs mX7_deduct 42 (.getfield 162) 3 45 := ⟨by decide +kernel, rfl⟩
theorem iX7_deduct_45 : zIs mX7_deduct 45 (.iaload) 1 46 := ⟨by decide +kernel, rfl⟩
theorem iX7_deduct_46 : zIs mX7_deduct 46 (.ireturn) 1 47 := ⟨by decide +kernel, rfl⟩
theorem iX7_remark_0 : zLi mX7_remark 0 1 1 := Or.inl ⟨1, by decide +kernel, rfl, rfl⟩
theorem iX7_remark_1 : zBr mX7_remark 1 (.ifCond .lt) 10 4 := ⟨9, by decide +kernel, by decide, rfl⟩
theorem iX7_remark_4 : zLi mX7_remark 4 1 5 := Or.inl ⟨1, by decide +kernel, rfl, rfl⟩
theorem iX7_remark_5 : zPi mX7_remark 5 8 7 := Or.inr (Or.inl ⟨8, by decide +kernel, by decide, rfl⟩)
theorem iX7_remark_7 : zBr mX7_remark 7 (.if_icmp .lt) 13 10 := ⟨6, by decide +kernel, by decide, rfl⟩
theorem iX7_remark_10 : zPi mX7_remark 10 (-102) 12 := Or.inr (Or.inl ⟨(-102), by decide +kernel, by decide, rfl⟩)
theorem iX7_remark_12 : zIs mX7_remark 12 (.ireturn) 1 13 := ⟨by decide +kernel, rfl⟩
theorem iX7_remark_13 : zLa mX7_remark 13 0 14 := Or.inl ⟨0, by decide +kernel, rfl, rfl⟩
theorem iX7_remark_14 : zIs mX7_remark 14 (.invokevirtual 144) 3 17 := ⟨by decide +kernel, rfl⟩
theorem iX7_remark_17 : zSi mX7_remark 17 2 18 := ⟨Or.inl ⟨2, by decide +kernel, rfl, rfl⟩, by decide⟩
theorem iX7_remark_18 : zLi mX7_remark 18 2 19 := Or.inl ⟨2, by decide +kernel, rfl, rfl⟩
theorem iX7_remark_19 : zBr mX7_remark 19 (.ifCond .eq) 24 22 := ⟨5, by decide +kernel, by decide, rfl⟩
theorem iX7_remark_22 : zLi mX7_remark 22 2 23 := Or.inl ⟨2, by decide +kernel, rfl, rfl⟩
theorem iX7_remark_23 : zIs mX7_remark 23 (.ireturn) 1 24 := ⟨by decide +kernel, rfl⟩
theorem iX7_remark_24 : zLa mX7_remark 24 0 25 := Or.inl ⟨0, by decide +kernel, rfl, rfl⟩
theorem iX7_remark_25 : zPi mX7_remark 25 2 26 := Or.inl ⟨2, by decide +kernel, by decide, rfl⟩
theorem iX7_remark_26 : zLi mX7_remark 26 1 27 := Or.inl ⟨1, by decide +kernel, rfl, rfl⟩
theorem iX7_remark_27 : zIs mX7_remark 27 (.invokevirtual 148) 3 30 := ⟨by decide +kernel, rfl⟩
theorem iX7_remark_30 : zLa mX7_remark 30 0 31 := Or.inl ⟨0, by decide +kernel, rfl, rfl⟩
theorem iX7_remark_31 : zIs mX7_remark 31 (.getfield 21) 3 34 := ⟨by decide +kernel, rfl⟩
theorem iX7_remark_34 : zLa mX7_remark 34 0 35 := Or.inl ⟨0, by decide +kernel, rfl, rfl⟩
theorem iX7_remark_35 : zIs mX7_remark 35 (.invokevirtual 158) 3 38 := ⟨by decide +kernel, rfl⟩
theorem iX7_remark_38 : zIs mX7_remark 38 (.getfield 162) 3 41 := ⟨by decide +kernel, rfl⟩
theorem iX7_remark_41 : zIs mX7_remark 41 (.invokevirtual 165) 3 44 := ⟨by decide +kernel, rfl⟩
theorem iX7_remark_44 : zIs mX7_remark 44 (.invokestatic 168) 3 47 := ⟨by decide +kernel, rfl⟩
theorem iX7_remark_47 : zIs mX7_remark 47 (.ireturn) 1 48 := ⟨by decide +kernel, rfl⟩
theorem iX7_save_0 : zLi mX7_save 0 1 1 := Or.inl ⟨1, by decide +kernel, rfl, rfl⟩
theorem iX7_save_1 : zIs mX7_save 1 (.invokestatic 173) 3 4 := ⟨by decide +kernel, rfl⟩
theorem iX7_save_4 : zBr mX7_save 4 (.ifCond .ne) 10 7 := ⟨6, by decide +kernel, by decide, rfl⟩
theorem iX7_save_7 : zPi mX7_save 7 (-102) 9 := Or.inr (Or.inl ⟨(-102), by decide +kernel, by decide, rfl⟩)
theorem iX7_save_9 : zIs mX7_save 9 (.ireturn) 1 10 := ⟨by decide +kernel, rfl⟩
theorem iX7_save_10 : zLa mX7_save 10 0 11 := Or.inl ⟨0, by decide +kernel, rfl, rfl⟩
theorem iX7_save_11 : zIs mX7_save 11 (.getfield 61) 3 14 := ⟨by decide +kernel, rfl⟩
theorem iX7_save_14 : zBr mX7_save 14 (.ifCond .ne) 20 17 := ⟨6, by decide +kernel, by decide, rfl⟩
theorem iX7_save_17 : zPi mX7_save 17 (-103) 19 := Or.inr (Or.inl ⟨(-103), by decide +kernel, by decide, rfl⟩)
theorem iX7_save_19 : zIs mX7_save 19 (.ireturn) 1 20 := ⟨by decide +kernel, rfl⟩
theorem iX7_save_20 : zLa mX7_save 20 0 21 := Or.inl ⟨0, by decide +kernel, rfl, rfl⟩
theorem iX7_save_21 : zIs mX7_save 21 (.invokevirtual 158) 3 24 := ⟨by decide +kernel, rfl⟩
theorem iX7_save_24 : zLi mX7_save 24 1 25 := Or.inl ⟨1, by decide +kernel, rfl, rfl⟩
theorem iX7_save_25 : zLa mX7_save 25 0 26 := Or.inl ⟨0, by decide +kernel, rfl, rfl⟩
theorem iX7_save_26 : zIs mX7_save 26 (.getfield 21) 3 29 := ⟨by decide +kernel, rfl⟩
theorem iX7_save_29 : zIs mX7_save 29 (.getfield 137) 3 32 := ⟨by decide +kernel, rfl⟩
theorem iX7_save_32 : zIs mX7_save 32 (.invokevirtual 176) 3 35 := ⟨by decide +kernel, rfl⟩
theorem iX7_save_35 : zLa mX7_save 35 0 36 := Or.inl ⟨0, by decide +kernel, rfl, rfl⟩
theorem iX7_save_36 : zPi mX7_save 36 1 37 := Or.inl ⟨1, by decide +kernel, by decide, rfl⟩
theorem iX7_save_37 : zIs mX7_save 37 (.invokevirtual 152) 3 40 := ⟨by decide +kernel, rfl⟩
theorem iX7_save_40 : zIs mX7_save 40 (.ireturn) 1 41 := ⟨by decide +kernel, rfl⟩
theorem iX7_back_0 : zLi mX7_back 0 1 1 := Or.inl ⟨1, by decide +kernel, rfl, rfl⟩
theorem iX7_back_1 : zIs mX7_back 1 (.invokestatic 173) 3 4 := ⟨by decide +kernel, rfl⟩
theorem iX7_back_4 : zBr mX7_back 4 (.ifCond .ne) 10 7 := ⟨6, by decide +kernel, by decide, rfl⟩
theorem iX7_back_7 : zPi mX7_back 7 (-102) 9 := Or.inr (Or.inl ⟨(-102), by decide +kernel, by decide, rfl⟩)
theorem iX7_back_9 : zIs mX7_back 9 (.ireturn) 1 10 := ⟨by decide +kernel, rfl⟩
theorem iX7_back_10 : zLa mX7_back 10 0 11 := Or.inl ⟨0, by decide +kernel, rfl, rfl⟩
theorem iX7_back_11 : zLi mX7_back 11 1 12 := Or.inl ⟨1, by decide +kernel, rfl, rfl⟩
theorem iX7_back_12 : zIs mX7_back 12 (.invokevirtual 179) 3 15 := ⟨by decide +kernel, rfl⟩
theorem iX7_back_15 : zSi mX7_back 15 2 16 := ⟨Or.inl ⟨2, by decide +kernel, rfl, rfl⟩, by decide⟩
theorem iX7_back_16 : zLi mX7_back 16 2 17 := Or.inl ⟨2, by decide +kernel, rfl, rfl⟩
theorem iX7_back_17 : zBr mX7_back 17 (.ifCond .ge) 23 20 := ⟨6, by decide +kernel, by decide, rfl⟩
theorem iX7_back_20 : zPi mX7_back 20 (-103) 22 := Or.inr (Or.inl ⟨(-103), by decide +kernel, by decide, rfl⟩)
theorem iX7_back_22 : zIs mX7_back 22 (.ireturn) 1 23 := ⟨by decide +kernel, rfl⟩
theorem iX7_back_23 : zLa mX7_back 23 0 24 := Or.inl ⟨0, by decide +kernel, rfl, rfl⟩
theorem iX7_back_24 : zIs mX7_back 24 (.invokevirtual 158) 3 27 := ⟨by decide +kernel, rfl⟩
theorem iX7_back_27 : zSa mX7_back 27 3 28 := ⟨Or.inl ⟨3, by decide +kernel, rfl, rfl⟩, by decide⟩
theorem iX7_back_28 : zLa mX7_back 28 0 29 := Or.inl ⟨0, by decide +kernel, rfl, rfl⟩
theorem iX7_back_29 : zIs mX7_back 29 (.getfield 21) 3 32 := ⟨by decide +kernel, rfl⟩
theorem iX7_back_32 : zLa mX7_back 32 3 33 := Or.inl ⟨3, by decide +kernel, rfl, rfl⟩
theorem iX7_back_33 : zIs mX7_back 33 (.getfield 182) 3 36 := ⟨by decide +kernel, rfl⟩
theorem iX7_back_36 : zLi mX7_back 36 2 37 := Or.inl ⟨2, by decide +kernel, rfl, rfl⟩
theorem iX7_back_37 : zIs mX7_back 37 (.iaload) 1 38 := ⟨by decide +kernel, rfl⟩
theorem iX7_back_38 : zIs mX7_back 38 (.invokevirtual 185) 3 41 := ⟨by decide +kernel, rfl⟩
theorem iX7_back_41 : zLa mX7_back 41 3 42 := Or.inl ⟨3, by decide +kernel, rfl, rfl⟩
theorem iX7_back_42 : zLi mX7_back 42 2 43 := Or.inl ⟨2, by decide +kernel, rfl, rfl⟩
theorem iX7_back_43 : zPi mX7_back 43 1 44 := Or.inl ⟨1, by decide +kernel, by decide, rfl⟩
theorem iX7_back_44 : zIs mX7_back 44 (.iadd) 1 45 := ⟨by decide +kernel, rfl⟩
theorem iX7_back_45 : zIs mX7_back 45 (.putfield 189) 3 48 := ⟨by decide +kernel, rfl⟩
theorem iX7_back_48 : zLa mX7_back 48 3 49 := Or.inl ⟨3, by decide +kernel, rfl, rfl⟩
theorem iX7_back_49 : zIs mX7_back 49 (.getfield 189) 3 52 := ⟨by decide +kernel, rfl⟩
theorem iX7_back_52 : zIs mX7_back 52 (.ireturn) 1 53 := ⟨by decide +kernel, rfl⟩
theorem iX7_release_0 : zLi mX7_release 0 1 1 := Or.inl ⟨1, by decide +kernel, rfl, rfl⟩
theorem iX7_release_1 : zIs mX7_release 1 (.invokestatic 173) 3 4 := ⟨by decide +kernel, rfl⟩
theorem iX7_release_4 : zBr mX7_release 4 (.ifCond .ne) 10 7 := ⟨6, by decide +kernel, by decide, rfl⟩
theorem iX7_release_7 : zPi mX7_release 7 (-102) 9 := Or.inr (Or.inl ⟨(-102), by decide +kernel, by decide, rfl⟩)
theorem iX7_release_9 : zIs mX7_release 9 (.ireturn) 1 10 := ⟨by decide +kernel, rfl⟩
theorem iX7_release_10 : zLa mX7_release 10 0 11 := Or.inl ⟨0, by decide +kernel, rfl, rfl⟩
theorem iX7_release_11 : zLi mX7_release 11 1 12 := Or.inl ⟨1, by decide +kernel, rfl, rfl⟩
theorem iX7_release_12 : zIs mX7_release 12 (.invokevirtual 179) 3 15 := ⟨by decide +kernel, rfl⟩
theorem iX7_release_15 : zSi mX7_release 15 2 16 := ⟨Or.inl ⟨2, by decide +kernel, rfl, rfl⟩, by decide⟩
theorem iX7_release_16 : zLi mX7_release 16 2 17 := Or.inl ⟨2, by decide +kernel, rfl, rfl⟩
theorem iX7_release_17 : zBr mX7_release 17 (.ifCond .ge) 23 20 := ⟨6, by decide +kernel, by decide, rfl⟩
theorem iX7_release_20 : zPi mX7_release 20 (-103) 22 := Or.inr (Or.inl ⟨(-103), by decide +kernel, by decide, rfl⟩)
theorem iX7_release_22 : zIs mX7_release 22 (.ireturn) 1 23 := ⟨by decide +kernel, rfl⟩
theorem iX7_release_23 : zLa mX7_release 23 0 24 := Or.inl ⟨0, by decide +kernel, rfl, rfl⟩
theorem iX7_release_24 : zIs mX7_release 24 (.invokevirtual 158) 3 27 := ⟨by decide +kernel, rfl⟩
theorem iX7_release_27 : zLi mX7_release 27 2 28 := Or.inl ⟨2, by decide +kernel, rfl, rfl⟩
theorem iX7_release_28 : zIs mX7_release 28 (.putfield 189) 3 31 := ⟨by decide +kernel, rfl⟩
theorem iX7_release_31 : zLi mX7_release 31 2 32 := Or.inl ⟨2, by decide +kernel, rfl, rfl⟩
theorem iX7_release_32 : zIs mX7_release 32 (.ireturn) 1 33 := ⟨by decide +kernel, rfl⟩
theorem iX7_guard_0 : zLi mX7_guard 0 1 1 := Or.inl ⟨1, by decide +kernel, rfl, rfl⟩
theorem iX7_guard_1 : zIs mX7_guard 1 (.invokestatic 192) 3 4 := ⟨by decide +kernel, rfl⟩
theorem iX7_guard_4 : zBr mX7_guard 4 (.ifCond .eq) 14 7 := ⟨10, by decide +kernel, by decide, rfl⟩
theorem iX7_guard_7 : zLi mX7_guard 7 2 8 := Or.inl ⟨2, by decide +kernel, rfl, rfl⟩
theorem iX7_guard_8 : zIs mX7_guard 8 (.invokestatic 173) 3 11 := ⟨by decide +kernel, rfl⟩
theorem iX7_guard_11 : zBr mX7_guard 11 (.ifCond .ne) 17 14 := ⟨6, by decide +kernel, by decide, rfl⟩
theorem iX7_guard_14 : zPi mX7_guard 14 (-102) 16 := Or.inr (Or.inl ⟨(-102), by decide +kernel, by decide, rfl⟩)
theorem iX7_guard_16 : zIs mX7_guard 16 (.ireturn) 1 17 := ⟨by decide +kernel, rfl⟩
theorem iX7_guard_17 : zLa mX7_guard 17 0 18 := Or.inl ⟨0, by decide +kernel, rfl, rfl⟩
theorem iX7_guard_18 : zIs mX7_guard 18 (.getfield 61) 3 21 := ⟨by decide +kernel, rfl⟩
theorem iX7_guard_21 : zBr mX7_guard 21 (.ifCond .ne) 27 24 := ⟨6, by decide +kernel, by decide, rfl⟩
theorem iX7_guard_24 : zPi mX7_guard 24 (-103) 26 := Or.inr (Or.inl ⟨(-103), by decide +kernel, by decide, rfl⟩)
theorem iX7_guard_26 : zIs mX7_guard 26 (.ireturn) 1 27 := ⟨by decide +kernel, rfl⟩
theorem iX7_guard_27 : zLa mX7_guard 27 0 28 := Or.inl ⟨0, by decide +kernel, rfl, rfl⟩
theorem iX7_guard_28 : zIs mX7_guard 28 (.invokevirtual 158) 3 31 := ⟨by decide +kernel, rfl⟩
theorem iX7_guard_31 : zSa mX7_guard 31 3 32 := ⟨Or.inl ⟨3, by decide +kernel, rfl, rfl⟩, by decide⟩
theorem iX7_guard_32 : zLa mX7_guard 32 3 33 := Or.inl ⟨3, by decide +kernel, rfl, rfl⟩
theorem iX7_guard_33 : zIs mX7_guard 33 (.getfield 195) 3 36 := ⟨by decide +kernel, rfl⟩
theorem iX7_guard_36 : zPi mX7_guard 36 8 38 := Or.inr (Or.inl ⟨8, by decide +kernel, by decide, rfl⟩)
theorem iX7_guard_38 : zBr mX7_guard 38 (.if_icmp .lt) 44 41 := ⟨6, by decide +kernel, by decide, rfl⟩
theorem iX7_guard_41 : zPi mX7_guard 41 (-104) 43 := Or.inr (Or.inl ⟨(-104), by decide +kernel, by decide, rfl⟩)
theorem iX7_guard_43 : zIs mX7_guard 43 (.ireturn) 1 44 := ⟨by decide +kernel, rfl⟩
theorem iX7_guard_44 : zLa mX7_guard 44 3 45 := Or.inl ⟨3, by decide +kernel, rfl, rfl⟩
theorem iX7_guard_45 : zLi mX7_guard 45 1 46 := Or.inl ⟨1, by decide +kernel, rfl, rfl⟩
theorem iX7_guard_46 : zLi mX7_guard 46 2 47 := Or.inl ⟨2, by decide +kernel, rfl, rfl⟩
theorem iX7_guard_47 : zIs mX7_guard 47 (.invokevirtual 198) 3 50 := ⟨by decide +kernel, rfl⟩
theorem iX7_guard_50 : zLa mX7_guard 50 3 51 := Or.inl ⟨3, by decide +kernel, rfl, rfl⟩
theorem iX7_guard_51 : zIs mX7_guard 51 (.getfield 195) 3 54 := ⟨by decide +kernel, rfl⟩
theorem iX7_guard_54 : zIs mX7_guard 54 (.ireturn) 1 55 := ⟨by decide +kernel, rfl⟩
theorem iX7_end_0 : zLa mX7_end 0 0 1 := Or.inl ⟨0, by decide +kernel, rfl, rfl⟩
theorem iX7_end_1 : zIs mX7_end 1 (.getfield 61) 3 4 := ⟨by decide +kernel, rfl⟩
theorem iX7_end_4 : zBr mX7_end 4 (.ifCond .ne) 10 7 := ⟨6, by decide +kernel, by decide, rfl⟩
theorem iX7_end_7 : zPi mX7_end 7 (-103) 9 := Or.inr (Or.inl ⟨(-103), by decide +kernel, by decide, rfl⟩)
theorem iX7_end_9 : zIs mX7_end 9 (.ireturn) 1 10 := ⟨by decide +kernel, rfl⟩
theorem iX7_end_10 : zLa mX7_end 10 0 11 := Or.inl ⟨0, by decide +kernel, rfl, rfl⟩
theorem iX7_end_11 : zPi mX7_end 11 2 12 := Or.inl ⟨2, by decide +kernel, by decide, rfl⟩
theorem iX7_end_12 : zIs mX7_end 12 (.invokevirtual 152) 3 15 := ⟨by decide +kernel, rfl⟩
theorem iX7_end_15 : zSi mX7_end 15 1 16 := ⟨Or.inl ⟨1, by decide +kernel, rfl, rfl⟩, by decide⟩
theorem iX7_end_16 : zLi mX7_end 16 1 17 := Or.inl ⟨1, by decide +kernel, rfl, rfl⟩
theorem iX7_end_17 : zBr mX7_end 17 (.ifCond .eq) 22 20 := ⟨5, by decide +kernel, by decide, rfl⟩
theorem iX7_end_20 : zLi mX7_end 20 1 21 := Or.inl ⟨1, by decide +kernel, rfl, rfl⟩
theorem iX7_end_21 : zIs mX7_end 21 (.ireturn) 1 22 := ⟨by decide +kernel, rfl⟩
theorem iX7_end_22 : zLa mX7_end 22 0 23 := Or.inl ⟨0, by decide +kernel, rfl, rfl⟩
theorem iX7_end_23 : zIs mX7_end 23 (.dup) 1 24 := ⟨by decide +kernel, rfl⟩
theorem iX7_end_24 : zIs mX7_end 24 (.getfield 61) 3 27 := ⟨by decide +kernel, rfl⟩
theorem iX7_end_27 : zPi mX7_end 27 1 28 := Or.inl ⟨1, by decide +kernel, by decide, rfl⟩
theorem iX7_end_28 : zIs mX7_end 28 (.isub) 1 29 := ⟨by decide +kernel, rfl⟩
theorem iX7_end_29 : zIs mX7_end 29 (.putfield 61) 3 32 := ⟨by decide +kernel, rfl⟩
theorem iX7_end_32 : zLa mX7_end 32 0 33 := Or.inl ⟨0, by decide +kernel, rfl, rfl⟩
theorem iX7_end_33 : zIs mX7_end 33 (.getfield 61) 3 36 := ⟨by decide +kernel, rfl⟩
theorem iX7_end_36 : zBr mX7_end 36 (.ifCond .ne) 55 39 := ⟨19, by decide +kernel, by decide, rfl⟩
theorem iX7_end_39 : zLa mX7_end 39 0 40 := Or.inl ⟨0, by decide +kernel, rfl, rfl⟩
theorem iX7_end_40 : zLa mX7_end 40 0 41 := Or.inl ⟨0, by decide +kernel, rfl, rfl⟩
theorem iX7_end_41 : zIs mX7_end 41 (.getfield 57) 3 44 := ⟨by decide +kernel, rfl⟩
theorem iX7_end_44 : zPi mX7_end 44 0 45 := Or.inl ⟨0, by decide +kernel, by decide, rfl⟩
theorem iX7_end_45 : zIs mX7_end 45 (.aaload) 1 46 := ⟨by decide +kernel, rfl⟩
theorem iX7_end_46 : zIs mX7_end 46 (.getfield 201) 3 49 := ⟨by decide +kernel, rfl⟩
theorem iX7_end_49 : zIs mX7_end 49 (.invokevirtual 204) 3 52 := ⟨by decide +kernel, rfl⟩
theorem iX7_end_52 : zBr mX7_end 52 .goto 56 55 := ⟨4, by decide +kernel, by decide, rfl⟩
theorem iX7_end_55 : zPi mX7_end 55 0 56 := Or.inl ⟨0, by decide +kernel, by decide, rfl⟩
theorem iX7_end_56 : zIs mX7_end 56 (.ireturn) 1 57 := ⟨by decide +kernel, rfl⟩
theorem iX7_drop_0 : zLa mX7_drop 0 0 1 := Or.inl ⟨0, by decide +kernel, rfl, rfl⟩
theorem iX7_drop_1 : zIs mX7_drop 1 (.getfield 61) 3 4 := ⟨by decide +kernel, rfl⟩
theorem iX7_drop_4 : zBr mX7_drop 4 (.ifCond .ne) 10 7 := ⟨6, by decide +kernel, by decide, rfl⟩
theorem iX7_drop_7 : zPi mX7_drop 7 (-103) 9 := Or.inr (Or.inl ⟨(-103), by decide +kernel, by decide, rfl⟩)
theorem iX7_drop_9 : zIs mX7_drop 9 (.ireturn) 1 10 := ⟨by decide +kernel, rfl⟩
theorem iX7_drop_10 : zLa mX7_drop 10 0 11 := Or.inl ⟨0, by decide +kernel, rfl, rfl⟩
theorem iX7_drop_11 : zIs mX7_drop 11 (.invokevirtual 207) 3 14 := ⟨by decide +kernel, rfl⟩
theorem iX7_drop_14 : zLa mX7_drop 14 0 15 := Or.inl ⟨0, by decide +kernel, rfl, rfl⟩
theorem iX7_drop_15 : zIs mX7_drop 15 (.getfield 61) 3 18 := ⟨by decide +kernel, rfl⟩
theorem iX7_drop_18 : zIs mX7_drop 18 (.ireturn) 1 19 := ⟨by decide +kernel, rfl⟩
theorem iX7_depth_0 : zLa mX7_depth 0 0 1 := Or.inl ⟨0, by decide +kernel, rfl, rfl⟩
theorem iX7_depth_1 : zIs mX7_depth 1 (.getfield 61) 3 4 := ⟨by decide +kernel, rfl⟩
theorem iX7_depth_4 : zIs mX7_depth 4 (.ireturn) 1 5 := ⟨by decide +kernel, rfl⟩
theorem iX7_scoring_0 : zLi mX7_scoring 0 1 1 := Or.inl ⟨1, by decide +kernel, rfl, rfl⟩
theorem iX7_scoring_1 : zBr mX7_scoring 1 (.ifCond .lt) 12 4 := ⟨11, by decide +kernel, by decide, rfl⟩
theorem iX7_scoring_4 : zLi mX7_scoring 4 1 5 := Or.inl ⟨1, by decide +kernel, rfl, rfl⟩
theorem iX7_scoring_5 : zLa mX7_scoring 5 0 6 := Or.inl ⟨0, by decide +kernel, rfl, rfl⟩
theorem iX7_scoring_6 : zIs mX7_scoring 6 (.getfield 61) 3 9 := ⟨by decide +kernel, rfl⟩
theorem iX7_scoring_9 : zBr mX7_scoring 9 (.if_icmp .lt) 15 12 := ⟨6, by decide +kernel, by decide, rfl⟩
theorem iX7_scoring_12 : zPi mX7_scoring 12 (-101) 14 := Or.inr (Or.inl ⟨(-101), by decide +kernel, by decide, rfl⟩)
theorem iX7_scoring_14 : zIs mX7_scoring 14 (.ireturn) 1 15 := ⟨by decide +kernel, rfl⟩
theorem iX7_scoring_15 : zLi mX7_scoring 15 2 16 := Or.inl ⟨2, by decide +kernel, rfl, rfl⟩
theorem iX7_scoring_16 : zBr mX7_scoring 16 (.ifCond .ge) 22 19 := ⟨6, by decide +kernel, by decide, rfl⟩
theorem iX7_scoring_19 : zPi mX7_scoring 19 (-102) 21 := Or.inr (Or.inl ⟨(-102), by decide +kernel, by decide, rfl⟩)
theorem iX7_scoring_21 : zIs mX7_scoring 21 (.ireturn) 1 22 := ⟨by decide +kernel, rfl⟩
theorem iX7_scoring_22 : zLa mX7_scoring 22 0 23 := Or.inl ⟨0, by decide +kernel, rfl, rfl⟩
theorem iX7_scoring_23 : zIs mX7_scoring 23 (.getfield 57) 3 26 := ⟨by decide +kernel, rfl⟩
theorem iX7_scoring_26 : zLa mX7_scoring 26 0 27 := Or.inl ⟨0, by decide +kernel, rfl, rfl⟩
theorem iX7_scoring_27 : zIs mX7_scoring 27 (.getfield 61) 3 30 := ⟨by decide +kernel, rfl⟩
theorem iX7_scoring_30 : zPi mX7_scoring 30 1 31 := Or.inl ⟨1, by decide +kernel, by decide, rfl⟩
theorem iX7_scoring_31 : zIs mX7_scoring 31 (.isub) 1 32 := ⟨by decide +kernel, rfl⟩
theorem iX7_scoring_32 : zLi mX7_scoring 32 1 33 := Or.inl ⟨1, by decide +kernel, rfl, rfl⟩
theorem iX7_scoring_33 : zIs mX7_scoring 33 (.isub) 1 34 := ⟨by decide +kernel, rfl⟩
theorem iX7_scoring_34 : zIs mX7_scoring 34 (.aaload) 1 35 := ⟨by decide +kernel, rfl⟩
theorem iX7_scoring_35 : zSa mX7_scoring 35 3 36 := ⟨Or.inl ⟨3, by decide +kernel, rfl, rfl⟩, by decide⟩
theorem iX7_scoring_36 : zLi mX7_scoring 36 2 37 := Or.inl ⟨2, by decide +kernel, rfl, rfl⟩
theorem iX7_scoring_37 : zTs mX7_scoring 37 0 [68, 73, 78, 83] 88 := ⟨51, 3, #[31, 36, 41, 46], 31, by decide +kernel, by decide, by decide, by decide +kernel⟩
theorem iX7_scoring_68 : zLa mX7_scoring 68 3 69 := Or.inl ⟨3, by decide +kernel, rfl, rfl⟩
theorem iX7_scoring_69 : zIs mX7_scoring 69 (.getfield 210) 3 72 := ⟨by decide +kernel, rfl⟩
theorem iX7_scoring_72 : zIs mX7_scoring 72 (.ireturn) 1 73 := ⟨by decide +kernel, rfl⟩
theorem iX7_scoring_73 : zLa mX7_scoring 73 3 74 := Or.inl ⟨3, by decide +kernel, rfl, rfl⟩
theorem iX7_scoring_74 : zIs mX7_scoring 74 (.getfield 162) 3 77 := ⟨by decide +kernel, rfl⟩
theorem iX7_scoring_77 : zIs mX7_scoring 77 (.ireturn) 1 78 := ⟨by decide +kernel, rfl⟩
theorem iX7_scoring_78 : zLa mX7_scoring 78 3 79 := Or.inl ⟨3, by decide +kernel, rfl, rfl⟩
theorem iX7_scoring_79 : zIs mX7_scoring 79 (.getfield 189) 3 82 := ⟨by decide +kernel, rfl⟩
theorem iX7_scoring_82 : zIs mX7_scoring 82 (.ireturn) 1 83 := ⟨by decide +kernel, rfl⟩
theorem iX7_scoring_83 : zLa mX7_scoring 83 3 84 := Or.inl ⟨3, by decide +kernel, rfl, rfl⟩
theorem iX7_scoring_84 : zIs mX7_scoring 84 (.getfield 195) 3 87 := ⟨by decide +kernel, rfl⟩
theorem iX7_scoring_87 : zIs mX7_scoring 87 (.ireturn) 1 88 := ⟨by decide +kernel, rfl⟩
theorem iX7_scoring_88 : zLi mX7_scoring 88 2 89 := Or.inl ⟨2, by decide +kernel, rfl, rfl⟩
theorem iX7_scoring_89 : zPi mX7_scoring 89 4 90 := Or.inl ⟨4, by decide +kernel, by decide, rfl⟩
theorem iX7_scoring_90 : zIs mX7_scoring 90 (.isub) 1 91 := ⟨by decide +kernel, rfl⟩
theorem iX7_scoring_91 : zLa mX7_scoring 91 3 92 := Or.inl ⟨3, by decide +kernel, rfl, rfl⟩
theorem iX7_scoring_92 : zIs mX7_scoring 92 (.getfield 189) 3 95 := ⟨by decide +kernel, rfl⟩
theorem iX7_scoring_95 : zBr mX7_scoring 95 (.if_icmp .ge) 109 98 := ⟨14, by decide +kernel, by decide, rfl⟩
theorem iX7_scoring_98 : zLa mX7_scoring 98 3 99 := Or.inl ⟨3, by decide +kernel, rfl, rfl⟩
theorem iX7_scoring_99 : zIs mX7_scoring 99 (.getfield 213) 3 102 := ⟨by decide +kernel, rfl⟩
theorem iX7_scoring_102 : zLi mX7_scoring 102 2 103 := Or.inl ⟨2, by decide +kernel, rfl, rfl⟩
theorem iX7_scoring_103 : zPi mX7_scoring 103 4 104 := Or.inl ⟨4, by decide +kernel, by decide, rfl⟩
theorem iX7_scoring_104 : zIs mX7_scoring 104 (.isub) 1 105 := ⟨by decide +kernel, rfl⟩
theorem iX7_scoring_105 : zIs mX7_scoring 105 (.iaload) 1 106 := ⟨by decide +kernel, rfl⟩
theorem iX7_scoring_106 : zBr mX7_scoring 106 .goto 110 109 := ⟨4, by decide +kernel, by decide, rfl⟩
theorem iX7_scoring_109 : zPi mX7_scoring 109 (-1) 110 := Or.inl ⟨(-1), by decide +kernel, by decide, rfl⟩
theorem iX7_scoring_110 : zIs mX7_scoring 110 (.ireturn) 1 111 := ⟨by decide +kernel, rfl⟩
theorem iX7_told_0 : zLa mX7_told 0 0 1 := Or.inl ⟨0, by decide +kernel, rfl, rfl⟩
theorem iX7_told_1 : zIs mX7_told 1 (.getfield 12) 3 4 := ⟨by decide +kernel, rfl⟩
theorem iX7_told_4 : zLi mX7_told 4 1 5 := Or.inl ⟨1, by decide +kernel, rfl, rfl⟩
theorem iX7_told_5 : zIs mX7_told 5 (.invokevirtual 127) 3 8 := ⟨by decide +kernel, rfl⟩
theorem iX7_told_8 : zBr mX7_told 8 (.ifCond .ne) 14 11 := ⟨6, by decide +kernel, by decide, rfl⟩
theorem iX7_told_11 : zPi mX7_told 11 (-101) 13 := Or.inr (Or.inl ⟨(-101), by decide +kernel, by decide, rfl⟩)
theorem iX7_told_13 : zIs mX7_told 13 (.ireturn) 1 14 := ⟨by decide +kernel, rfl⟩
theorem iX7_told_14 : zLi mX7_told 14 2 15 := Or.inl ⟨2, by decide +kernel, rfl, rfl⟩
theorem iX7_told_15 : zTs mX7_told 15 0 [56, 66, 75, 85, 94, 103, 112] 121 := ⟨106, 6, #[41, 51, 60, 70, 79, 88, 97], 41, by decide +kernel, by decide, by decide, by decide +kernel⟩
theorem iX7_told_56 : zLa mX7_told 56 0 57 := Or.inl ⟨0, by decide +kernel, rfl, rfl⟩
theorem iX7_told_57 : zIs mX7_told 57 (.getfield 12) 3 60 := ⟨by decide +kernel, rfl⟩
theorem iX7_told_60 : zIs mX7_told 60 (.getfield 134) 3 63 := ⟨by decide +kernel, rfl⟩
theorem iX7_told_63 : zLi mX7_told 63 1 64 := Or.inl ⟨1, by decide +kernel, rfl, rfl⟩
theorem iX7_told_64 : zIs mX7_told 64 (.iaload) 1 65 := ⟨by decide +kernel, rfl⟩
theorem iX7_told_65 : zIs mX7_told 65 (.ireturn) 1 66 := ⟨by decide +kernel, rfl⟩
theorem iX7_told_66 : zLa mX7_told 66 0 67 := Or.inl ⟨0, by decide +kernel, rfl, rfl⟩
theorem iX7_told_67 : zIs mX7_told 67 (.getfield 30) 3 70 := ⟨by decide +kernel, rfl⟩
theorem iX7_told_70 : zLi mX7_told 70 1 71 := Or.inl ⟨1, by decide +kernel, rfl, rfl⟩
theorem iX7_told_71 : zIs mX7_told 71 (.invokevirtual 216) 3 74 := ⟨by decide +kernel, rfl⟩
theorem iX7_told_74 : zIs mX7_told 74 (.ireturn) 1 75 := ⟨by decide +kernel, rfl⟩
theorem iX7_told_75 : zLa mX7_told 75 0 76 := Or.inl ⟨0, by decide +kernel, rfl, rfl⟩
theorem iX7_told_76 : zIs mX7_told 76 (.getfield 21) 3 79 := ⟨by decide +kernel, rfl⟩
theorem iX7_told_79 : zIs mX7_told 79 (.getfield 155) 3 82 := ⟨by decide +kernel, rfl⟩
theorem iX7_told_82 : zLi mX7_told 82 1 83 := Or.inl ⟨1, by decide +kernel, rfl, rfl⟩
theorem iX7_told_83 : zIs mX7_told 83 (.iaload) 1 84 := ⟨by decide +kernel, rfl⟩
theorem iX7_told_84 : zIs mX7_told 84 (.ireturn) 1 85 := ⟨by decide +kernel, rfl⟩
theorem iX7_told_85 : zLa mX7_told 85 0 86 := Or.inl ⟨0, by decide +kernel, rfl, rfl⟩
theorem iX7_told_86 : zIs mX7_told 86 (.getfield 21) 3 89 := ⟨by decide +kernel, rfl⟩
theorem iX7_told_89 : zLi mX7_told 89 1 90 := Or.inl ⟨1, by decide +kernel, rfl, rfl⟩
theorem iX7_told_90 : zIs mX7_told 90 (.invokevirtual 165) 3 93 := ⟨by decide +kernel, rfl⟩
theorem iX7_told_93 : zIs mX7_told 93 (.ireturn) 1 94 := ⟨by decide +kernel, rfl⟩
theorem iX7_told_94 : zLa mX7_told 94 0 95 := Or.inl ⟨0, by decide +kernel, rfl, rfl⟩
theorem iX7_told_95 : zIs mX7_told 95 (.getfield 30) 3 98 := ⟨by decide +kernel, rfl⟩
theorem iX7_told_98 : zLi mX7_told 98 1 99 := Or.inl ⟨1, by decide +kernel, rfl, rfl⟩
theorem iX7_told_99 : zIs mX7_told 99 (.invokevirtual 219) 3 102 := ⟨by decide +kernel, rfl⟩
theorem iX7_told_102 : zIs mX7_told 102 (.ireturn) 1 103 := ⟨by decide +kernel, rfl⟩
theorem iX7_told_103 : zLa mX7_told 103 0 104 := Or.inl ⟨0, by decide +kernel, rfl, rfl⟩
theorem iX7_told_104 : zIs mX7_told 104 (.getfield 30) 3 107 := ⟨by decide +kernel, rfl⟩
theorem iX7_told_107 : zLi mX7_told 107 1 108 := Or.inl ⟨1, by decide +kernel, rfl, rfl⟩
theorem iX7_told_108 : zIs mX7_told 108 (.invokevirtual 222) 3 111 := ⟨by decide +kernel, rfl⟩
theorem iX7_told_111 : zIs mX7_told 111 (.ireturn) 1 112 := ⟨by decide +kernel, rfl⟩
theorem iX7_told_112 : zLa mX7_told 112 0 113 := Or.inl ⟨0, by decide +kernel, rfl, rfl⟩
theorem iX7_told_113 : zIs mX7_told 113 (.getfield 30) 3 116 := ⟨by decide +kernel, rfl⟩
theorem iX7_told_116 : zLi mX7_told 116 1 117 := Or.inl ⟨1, by decide +kernel, rfl, rfl⟩
theorem iX7_told_117 : zIs mX7_told 117 (.invokevirtual 225) 3 120 := ⟨by decide +kernel, rfl⟩
theorem iX7_told_120 : zIs mX7_told 120 (.ireturn) 1 121 := ⟨by decide +kernel, rfl⟩
theorem iX7_told_121 : zPi mX7_told 121 (-102) 123 := Or.inr (Or.inl ⟨(-102), by decide +kernel, by decide, rfl⟩)
theorem iX7_told_123 : zIs mX7_told 123 (.ireturn) 1 124 := ⟨by decide +kernel, rfl⟩
theorem iX7_mark_0 : zLa mX7_mark 0 0 1 := Or.inl ⟨0, by decide +kernel, rfl, rfl⟩
theorem iX7_mark_1 : zIs mX7_mark 1 (.getfield 12) 3 4 := ⟨by decide +kernel, rfl⟩
theorem iX7_mark_4 : zLi mX7_mark 4 1 5 := Or.inl ⟨1, by decide +kernel, rfl, rfl⟩
theorem iX7_mark_5 : zIs mX7_mark 5 (.invokevirtual 127) 3 8 := ⟨by decide +kernel, rfl⟩
theorem iX7_mark_8 : zBr mX7_mark 8 (.ifCond .eq) 22 11 := ⟨14, by decide +kernel, by decide, rfl⟩
theorem iX7_mark_11 : zLa mX7_mark 11 0 12 := Or.inl ⟨0, by decide +kernel, rfl, rfl⟩
theorem iX7_mark_12 : zIs mX7_mark 12 (.getfield 12) 3 15 := ⟨by decide +kernel, rfl⟩
theorem iX7_mark_15 : zLi mX7_mark 15 2 16 := Or.inl ⟨2, by decide +kernel, rfl, rfl⟩
theorem iX7_mark_16 : zIs mX7_mark 16 (.invokevirtual 124) 3 19 := ⟨by decide +kernel, rfl⟩
theorem iX7_mark_19 : zBr mX7_mark 19 (.ifCond .ne) 25 22 := ⟨6, by decide +kernel, by decide, rfl⟩
theorem iX7_mark_22 : zPi mX7_mark 22 (-101) 24 := Or.inr (Or.inl ⟨(-101), by decide +kernel, by decide, rfl⟩)
theorem iX7_mark_24 : zIs mX7_mark 24 (.ireturn) 1 25 := ⟨by decide +kernel, rfl⟩
theorem iX7_mark_25 : zLa mX7_mark 25 0 26 := Or.inl ⟨0, by decide +kernel, rfl, rfl⟩
theorem iX7_mark_26 : zIs mX7_mark 26 (.getfield 12) 3 29 := ⟨by decide +kernel, rfl⟩
theorem iX7_mark_29 : zIs mX7_mark 29 (.getfield 130) 3 32 := ⟨by decide +kernel, rfl⟩
theorem iX7_mark_32 : zLi mX7_mark 32 2 33 := Or.inl ⟨2, by decide +kernel, rfl, rfl⟩
theorem iX7_mark_33 : zIs mX7_mark 33 (.iaload) 1 34 := ⟨by decide +kernel, rfl⟩
theorem iX7_mark_34 : zLa mX7_mark 34 0 35 := Or.inl ⟨0, by decide +kernel, rfl, rfl⟩
theorem iX7_mark_35 : zIs mX7_mark 35 (.getfield 12) 3 38 := ⟨by decide +kernel, rfl⟩
theorem iX7_mark_38 : zIs mX7_mark 38 (.getfield 134) 3 41 := ⟨by decide +kernel, rfl⟩
theorem iX7_mark_41 : zLi mX7_mark 41 1 42 := Or.inl ⟨1, by decide +kernel, rfl, rfl⟩
theorem iX7_mark_42 : zIs mX7_mark 42 (.iaload) 1 43 := ⟨by decide +kernel, rfl⟩
theorem iX7_mark_43 : zBr mX7_mark 43 (.if_icmp .eq) 49 46 := ⟨6, by decide +kernel, by decide, rfl⟩
theorem iX7_mark_46 : zPi mX7_mark 46 (-102) 48 := Or.inr (Or.inl ⟨(-102), by decide +kernel, by decide, rfl⟩)
theorem iX7_mark_48 : zIs mX7_mark 48 (.ireturn) 1 49 := ⟨by decide +kernel, rfl⟩
theorem iX7_mark_49 : zLa mX7_mark 49 0 50 := Or.inl ⟨0, by decide +kernel, rfl, rfl⟩
theorem iX7_mark_50 : zIs mX7_mark 50 (.getfield 21) 3 53 := ⟨by decide +kernel, rfl⟩
theorem iX7_mark_53 : zLi mX7_mark 53 1 54 := Or.inl ⟨1, by decide +kernel, rfl, rfl⟩
theorem iX7_mark_54 : zLi mX7_mark 54 2 55 := Or.inl ⟨2, by decide +kernel, rfl, rfl⟩
theorem iX7_mark_55 : zIs mX7_mark 55 (.invokevirtual 228) 3 58 := ⟨by decide +kernel, rfl⟩
theorem iX7_mark_58 : zIs mX7_mark 58 (.ireturn) 1 59 := ⟨by decide +kernel, rfl⟩
theorem iX7_place_0 : zLa mX7_place 0 0 1 := Or.inl ⟨0, by decide +kernel, rfl, rfl⟩
theorem iX7_place_1 : zIs mX7_place 1 (.getfield 12) 3 4 := ⟨by decide +kernel, rfl⟩
theorem iX7_place_4 : zLi mX7_place 4 1 5 := Or.inl ⟨1, by decide +kernel, rfl, rfl⟩
theorem iX7_place_5 : zIs mX7_place 5 (.invokevirtual 89) 3 8 := ⟨by decide +kernel, rfl⟩
theorem iX7_place_8 : zBr mX7_place 8 (.ifCond .ne) 14 11 := ⟨6, by decide +kernel, by decide, rfl⟩
theorem iX7_place_11 : zPi mX7_place 11 (-101) 13 := Or.inr (Or.inl ⟨(-101), by decide +kernel, by decide, rfl⟩)
theorem iX7_place_13 : zIs mX7_place 13 (.ireturn) 1 14 := ⟨by decide +kernel, rfl⟩
theorem iX7_place_14 : zLa mX7_place 14 0 15 := Or.inl ⟨0, by decide +kernel, rfl, rfl⟩
theorem iX7_place_15 : zIs mX7_place 15 (.getfield 30) 3 18 := ⟨by decide +kernel, rfl⟩
theorem iX7_place_18 : zLi mX7_place 18 1 19 := Or.inl ⟨1, by decide +kernel, rfl, rfl⟩
theorem iX7_place_19 : zLi mX7_place 19 2 20 := Or.inl ⟨2, by decide +kernel, rfl, rfl⟩
theorem iX7_place_20 : zIs mX7_place 20 (.invokevirtual 231) 3 23 := ⟨by decide +kernel, rfl⟩
theorem iX7_place_23 : zIs mX7_place 23 (.ireturn) 1 24 := ⟨by decide +kernel, rfl⟩
theorem iX7_close_0 : zLa mX7_close 0 0 1 := Or.inl ⟨0, by decide +kernel, rfl, rfl⟩
theorem iX7_close_1 : zIs mX7_close 1 (.getfield 12) 3 4 := ⟨by decide +kernel, rfl⟩
theorem iX7_close_4 : zLi mX7_close 4 1 5 := Or.inl ⟨1, by decide +kernel, rfl, rfl⟩
theorem iX7_close_5 : zIs mX7_close 5 (.invokevirtual 89) 3 8 := ⟨by decide +kernel, rfl⟩
theorem iX7_close_8 : zBr mX7_close 8 (.ifCond .ne) 14 11 := ⟨6, by decide +kernel, by decide, rfl⟩
theorem iX7_close_11 : zPi mX7_close 11 (-101) 13 := Or.inr (Or.inl ⟨(-101), by decide +kernel, by decide, rfl⟩)
theorem iX7_close_13 : zIs mX7_close 13 (.ireturn) 1 14 := ⟨by decide +kernel, rfl⟩
theorem iX7_close_14 : zLa mX7_close 14 0 15 := Or.inl ⟨0, by decide +kernel, rfl, rfl⟩
theorem iX7_close_15 : zIs mX7_close 15 (.getfield 61) 3 18 := ⟨by decide +kernel, rfl⟩
theorem iX7_close_18 : zBr mX7_close 18 (.ifCond .gt) 33 21 := ⟨15, by decide +kernel, by decide, rfl⟩
theorem iX7_close_21 : zLa mX7_close 21 0 22 := Or.inl ⟨0, by decide +kernel, rfl, rfl⟩
theorem iX7_close_22 : zIs mX7_close 22 (.getfield 12) 3 25 := ⟨by decide +kernel, rfl⟩
theorem iX7_close_25 : zIs mX7_close 25 (.getfield 93) 3 28 := ⟨by decide +kernel, rfl⟩
theorem iX7_close_28 : zLi mX7_close 28 1 29 := Or.inl ⟨1, by decide +kernel, rfl, rfl⟩
theorem iX7_close_29 : zIs mX7_close 29 (.baload) 1 30 := ⟨by decide +kernel, rfl⟩
theorem iX7_close_30 : zBr mX7_close 30 (.ifCond .eq) 36 33 := ⟨6, by decide +kernel, by decide, rfl⟩
theorem iX7_close_33 : zPi mX7_close 33 (-103) 35 := Or.inr (Or.inl ⟨(-103), by decide +kernel, by decide, rfl⟩)
theorem iX7_close_35 : zIs mX7_close 35 (.ireturn) 1 36 := ⟨by decide +kernel, rfl⟩
theorem iX7_close_36 : zLa mX7_close 36 0 37 := Or.inl ⟨0, by decide +kernel, rfl, rfl⟩
theorem iX7_close_37 : zPi mX7_close 37 2 38 := Or.inl ⟨2, by decide +kernel, by decide, rfl⟩
theorem iX7_close_38 : zLi mX7_close 38 1 39 := Or.inl ⟨1, by decide +kernel, rfl, rfl⟩
theorem iX7_close_39 : zPi mX7_close 39 0 40 := Or.inl ⟨0, by decide +kernel, by decide, rfl⟩
theorem iX7_close_40 : zIs mX7_close 40 (.invokevirtual 234) 3 43 := ⟨by decide +kernel, rfl⟩
theorem iX7_close_43 : zLa mX7_close 43 0 44 := Or.inl ⟨0, by decide +kernel, rfl, rfl⟩
theorem iX7_close_44 : zIs mX7_close 44 (.getfield 12) 3 47 := ⟨by decide +kernel, rfl⟩
theorem iX7_close_47 : zIs mX7_close 47 (.getfield 93) 3 50 := ⟨by decide +kernel, rfl⟩
theorem iX7_close_50 : zLi mX7_close 50 1 51 := Or.inl ⟨1, by decide +kernel, rfl, rfl⟩
theorem iX7_close_51 : zPi mX7_close 51 1 52 := Or.inl ⟨1, by decide +kernel, by decide, rfl⟩
theorem iX7_close_52 : zIs mX7_close 52 (.bastore) 1 53 := ⟨by decide +kernel, rfl⟩
theorem iX7_close_53 : zLa mX7_close 53 0 54 := Or.inl ⟨0, by decide +kernel, rfl, rfl⟩
theorem iX7_close_54 : zIs mX7_close 54 (.getfield 12) 3 57 := ⟨by decide +kernel, rfl⟩
theorem iX7_close_57 : zLi mX7_close 57 1 58 := Or.inl ⟨1, by decide +kernel, rfl, rfl⟩
theorem iX7_close_58 : zIs mX7_close 58 (.invokevirtual 238) 3 61 := ⟨by decide +kernel, rfl⟩
theorem iX7_close_61 : zIs mX7_close 61 (.ireturn) 1 62 := ⟨by decide +kernel, rfl⟩
theorem iX7_about_0 : zLa mX7_about 0 0 1 := Or.inl ⟨0, by decide +kernel, rfl, rfl⟩
theorem iX7_about_1 : zIs mX7_about 1 (.getfield 12) 3 4 := ⟨by decide +kernel, rfl⟩
theorem iX7_about_4 : zLi mX7_about 4 1 5 := Or.inl ⟨1, by decide +kernel, rfl, rfl⟩
theorem iX7_about_5 : zIs mX7_about 5 (.invokevirtual 89) 3 8 := ⟨by decide +kernel, rfl⟩
theorem iX7_about_8 : zBr mX7_about 8 (.ifCond .ne) 14 11 := ⟨6, by decide +kernel, by decide, rfl⟩
theorem iX7_about_11 : zPi mX7_about 11 (-101) 13 := Or.inr (Or.inl ⟨(-101), by decide +kernel, by decide, rfl⟩)
theorem iX7_about_13 : zIs mX7_about 13 (.ireturn) 1 14 := ⟨by decide +kernel, rfl⟩
theorem iX7_about_14 : zLi mX7_about 14 2 15 := Or.inl ⟨2, by decide +kernel, rfl, rfl⟩
theorem iX7_about_15 : zTs mX7_about 15 0 [52, 62, 72, 82, 91, 109] 118 := ⟨103, 5, #[37, 47, 57, 67, 76, 94], 37, by decide +kernel, by decide, by decide, by decide +kernel⟩
theorem iX7_about_52 : zLa mX7_about 52 0 53 := Or.inl ⟨0, by decide +kernel, rfl, rfl⟩
theorem iX7_about_53 : zIs mX7_about 53 (.getfield 12) 3 56 := ⟨by decide +kernel, rfl⟩
theorem iX7_about_56 : zIs mX7_about 56 (.getfield 241) 3 59 := ⟨by decide +kernel, rfl⟩
theorem iX7_about_59 : zLi mX7_about 59 1 60 := Or.inl ⟨1, by decide +kernel, rfl, rfl⟩
theorem iX7_about_60 : zIs mX7_about 60 (.iaload) 1 61 := ⟨by decide +kernel, rfl⟩
theorem iX7_about_61 : zIs mX7_about 61 (.ireturn) 1 62 := ⟨by decide +kernel, rfl⟩
theorem iX7_about_62 : zLa mX7_about 62 0 63 := Or.inl ⟨0, by decide +kernel, rfl, rfl⟩
theorem iX7_about_63 : zIs mX7_about 63 (.getfield 12) 3 66 := ⟨by decide +kernel, rfl⟩
theorem iX7_about_66 : zIs mX7_about 66 (.getfield 244) 3 69 := ⟨by decide +kernel, rfl⟩
theorem iX7_about_69 : zLi mX7_about 69 1 70 := Or.inl ⟨1, by decide +kernel, rfl, rfl⟩
theorem iX7_about_70 : zIs mX7_about 70 (.iaload) 1 71 := ⟨by decide +kernel, rfl⟩
theorem iX7_about_71 : zIs mX7_about 71 (.ireturn) 1 72 := ⟨by decide +kernel, rfl⟩
theorem iX7_about_72 : zLa mX7_about 72 0 73 := Or.inl ⟨0, by decide +kernel, rfl, rfl⟩
theorem iX7_about_73 : zIs mX7_about 73 (.getfield 12) 3 76 := ⟨by decide +kernel, rfl⟩
theorem iX7_about_76 : zIs mX7_about 76 (.getfield 247) 3 79 := ⟨by decide +kernel, rfl⟩
theorem iX7_about_79 : zLi mX7_about 79 1 80 := Or.inl ⟨1, by decide +kernel, rfl, rfl⟩
theorem iX7_about_80 : zIs mX7_about 80 (.iaload) 1 81 := ⟨by decide +kernel, rfl⟩
theorem iX7_about_81 : zIs mX7_about 81 (.ireturn) 1 82 := ⟨by decide +kernel, rfl⟩
theorem iX7_about_82 : zLa mX7_about 82 0 83 := Or.inl ⟨0, by decide +kernel, rfl, rfl⟩
theorem iX7_about_83 : zIs mX7_about 83 (.getfield 12) 3 86 := ⟨by decide +kernel, rfl⟩
theorem iX7_about_86 : zLi mX7_about 86 1 87 := Or.inl ⟨1, by decide +kernel, rfl, rfl⟩
theorem iX7_about_87 : zIs mX7_about 87 (.invokevirtual 238) 3 90 := ⟨by decide +kernel, rfl⟩
theorem iX7_about_90 : zIs mX7_about 90 (.ireturn) 1 91 := ⟨by decide +kernel, rfl⟩
theorem iX7_about_91 : zLa mX7_about 91 0 92 := Or.inl ⟨0, by decide +kernel, rfl, rfl⟩
theorem iX7_about_92 : zIs mX7_about 92 (.getfield 12) 3 95 := ⟨by decide +kernel, rfl⟩
theorem iX7_about_95 : zIs mX7_about 95 (.getfield 93) 3 98 := ⟨by decide +kernel, rfl⟩
theorem iX7_about_98 : zLi mX7_about 98 1 99 := Or.inl ⟨1, by decide +kernel, rfl, rfl⟩
theorem iX7_about_99 : zIs mX7_about 99 (.baload) 1 100 := ⟨by decide +kernel, rfl⟩
theorem iX7_about_100 : zBr mX7_about 100 (.ifCond .eq) 107 103 := ⟨7, by decide +kernel, by decide, rfl⟩
theorem iX7_about_103 : zPi mX7_about 103 1 104 := Or.inl ⟨1, by decide +kernel, by decide, rfl⟩
theorem iX7_about_104 : zBr mX7_about 104 .goto 108 107 := ⟨4, by decide +kernel, by decide, rfl⟩
theorem iX7_about_107 : zPi mX7_about 107 0 108 := Or.inl ⟨0, by decide +kernel, by decide, rfl⟩
theorem iX7_about_108 : zIs mX7_about 108 (.ireturn) 1 109 := ⟨by decide +kernel, rfl⟩
theorem iX7_about_109 : zLa mX7_about 109 0 110 := Or.inl ⟨0, by decide +kernel, rfl, rfl⟩
theorem iX7_about_110 : zIs mX7_about 110 (.getfield 30) 3 113 := ⟨by decide +kernel, rfl⟩
theorem iX7_about_113 : zLi mX7_about 113 1 114 := Or.inl ⟨1, by decide +kernel, rfl, rfl⟩
theorem iX7_about_114 : zIs mX7_about 114 (.invokevirtual 250) 3 117 := ⟨by decide +kernel, rfl⟩
theorem iX7_about_117 : zIs mX7_about 117 (.ireturn) 1 118 := ⟨by decide +kernel, rfl⟩
theorem iX7_about_118 : zPi mX7_about 118 (-102) 120 := Or.inr (Or.inl ⟨(-102), by decide +kernel, by decide, rfl⟩)
theorem iX7_about_120 : zIs mX7_about 120 (.ireturn) 1 121 := ⟨by decide +kernel, rfl⟩
theorem iX7_uphold_0 : zLa mX7_uphold 0 0 1 := Or.inl ⟨0, by decide +kernel, rfl, rfl⟩
theorem iX7_uphold_1 : zIs mX7_uphold 1 (.getfield 21) 3 4 := ⟨by decide +kernel, rfl⟩
theorem iX7_uphold_4 : zLi mX7_uphold 4 1 5 := Or.inl ⟨1, by decide +kernel, rfl, rfl⟩
theorem iX7_uphold_5 : zIs mX7_uphold 5 (.invokevirtual 253) 3 8 := ⟨by decide +kernel, rfl⟩
theorem iX7_uphold_8 : zBr mX7_uphold 8 (.ifCond .ne) 14 11 := ⟨6, by decide +kernel, by decide, rfl⟩
theorem iX7_uphold_11 : zPi mX7_uphold 11 (-101) 13 := Or.inr (Or.inl ⟨(-101), by decide +kernel, by decide, rfl⟩)
theorem iX7_uphold_13 : zIs mX7_uphold 13 (.ireturn) 1 14 := ⟨by decide +kernel, rfl⟩
theorem iX7_uphold_14 : zLa mX7_uphold 14 0 15 := Or.inl ⟨0, by decide +kernel, rfl, rfl⟩
theorem iX7_uphold_15 : zIs mX7_uphold 15 (.getfield 61) 3 18 := ⟨by decide +kernel, rfl⟩
theorem iX7_uphold_18 : zBr mX7_uphold 18 (.ifCond .gt) 33 21 := ⟨15, by decide +kernel, by decide, rfl⟩
theorem iX7_uphold_21 : zLa mX7_uphold 21 0 22 := Or.inl ⟨0, by decide +kernel, rfl, rfl⟩
theorem iX7_uphold_22 : zIs mX7_uphold 22 (.getfield 21) 3 25 := ⟨by decide +kernel, rfl⟩
theorem iX7_uphold_25 : zIs mX7_uphold 25 (.getfield 256) 3 28 := ⟨by decide +kernel, rfl⟩
theorem iX7_uphold_28 : zLi mX7_uphold 28 1 29 := Or.inl ⟨1, by decide +kernel, rfl, rfl⟩
theorem iX7_uphold_29 : zIs mX7_uphold 29 (.baload) 1 30 := ⟨by decide +kernel, rfl⟩
theorem iX7_uphold_30 : zBr mX7_uphold 30 (.ifCond .ne) 36 33 := ⟨6, by decide +kernel, by decide, rfl⟩
theorem iX7_uphold_33 : zPi mX7_uphold 33 (-103) 35 := Or.inr (Or.inl ⟨(-103), by decide +kernel, by decide, rfl⟩)
theorem iX7_uphold_35 : zIs mX7_uphold 35 (.ireturn) 1 36 := ⟨by decide +kernel, rfl⟩
theorem iX7_uphold_36 : zLa mX7_uphold 36 0 37 := Or.inl ⟨0, by decide +kernel, rfl, rfl⟩
theorem iX7_uphold_37 : zIs mX7_uphold 37 (.getfield 12) 3 40 := ⟨by decide +kernel, rfl⟩
theorem iX7_uphold_40 : zIs mX7_uphold 40 (.getfield 134) 3 43 := ⟨by decide +kernel, rfl⟩
theorem iX7_uphold_43 : zLa mX7_uphold 43 0 44 := Or.inl ⟨0, by decide +kernel, rfl, rfl⟩
theorem iX7_uphold_44 : zIs mX7_uphold 44 (.getfield 21) 3 47 := ⟨by decide +kernel, rfl⟩
theorem iX7_uphold_47 : zIs mX7_uphold 47 (.getfield 259) 3 50 := ⟨by decide +kernel, rfl⟩
theorem iX7_uphold_50 : zLi mX7_uphold 50 1 51 := Or.inl ⟨1, by decide +kernel, rfl, rfl⟩
theorem iX7_uphold_51 : zIs mX7_uphold 51 (.iaload) 1 52 := ⟨by decide +kernel, rfl⟩
theorem iX7_uphold_52 : zIs mX7_uphold 52 (.iaload) 1 53 := ⟨by decide +kernel, rfl⟩
theorem iX7_uphold_53 : zSi mX7_uphold 53 2 54 := ⟨Or.inl ⟨2, by decide +kernel, rfl, rfl⟩, by decide⟩
theorem iX7_uphold_54 : zLa mX7_uphold 54 0 55 := Or.inl ⟨0, by decide +kernel, rfl, rfl⟩
theorem iX7_uphold_55 : zPi mX7_uphold 55 3 56 := Or.inl ⟨3, by decide +kernel, by decide, rfl⟩
theorem iX7_uphold_56 : zLi mX7_uphold 56 1 57 := Or.inl ⟨1, by decide +kernel, rfl, rfl⟩
theorem iX7_uphold_57 : zLa mX7_uphold 57 0 58 := Or.inl ⟨0, by decide +kernel, rfl, rfl⟩
theorem iX7_uphold_58 : zIs mX7_uphold 58 (.getfield 12) 3 61 := ⟨by decide +kernel, rfl⟩
theorem iX7_uphold_61 : zIs mX7_uphold 61 (.getfield 93) 3 64 := ⟨by decide +kernel, rfl⟩
theorem iX7_uphold_64 : zLi mX7_uphold 64 2 65 := Or.inl ⟨2, by decide +kernel, rfl, rfl⟩
theorem iX7_uphold_65 : zIs mX7_uphold 65 (.baload) 1 66 := ⟨by decide +kernel, rfl⟩
theorem iX7_uphold_66 : zIs mX7_uphold 66 (.invokevirtual 234) 3 69 := ⟨by decide +kernel, rfl⟩
theorem iX7_uphold_69 : zLa mX7_uphold 69 0 70 := Or.inl ⟨0, by decide +kernel, rfl, rfl⟩
theorem iX7_uphold_70 : zIs mX7_uphold 70 (.getfield 21) 3 73 := ⟨by decide +kernel, rfl⟩
theorem iX7_uphold_73 : zLi mX7_uphold 73 1 74 := Or.inl ⟨1, by decide +kernel, rfl, rfl⟩
theorem iX7_uphold_74 : zPi mX7_uphold 74 0 75 := Or.inl ⟨0, by decide +kernel, by decide, rfl⟩
theorem iX7_uphold_75 : zIs mX7_uphold 75 (.invokevirtual 261) 3 78 := ⟨by decide +kernel, rfl⟩
theorem iX7_uphold_78 : zLa mX7_uphold 78 0 79 := Or.inl ⟨0, by decide +kernel, rfl, rfl⟩
theorem iX7_uphold_79 : zIs mX7_uphold 79 (.getfield 12) 3 82 := ⟨by decide +kernel, rfl⟩
theorem iX7_uphold_82 : zIs mX7_uphold 82 (.getfield 93) 3 85 := ⟨by decide +kernel, rfl⟩
theorem iX7_uphold_85 : zLi mX7_uphold 85 2 86 := Or.inl ⟨2, by decide +kernel, rfl, rfl⟩
theorem iX7_uphold_86 : zPi mX7_uphold 86 0 87 := Or.inl ⟨0, by decide +kernel, by decide, rfl⟩
theorem iX7_uphold_87 : zIs mX7_uphold 87 (.bastore) 1 88 := ⟨by decide +kernel, rfl⟩
theorem iX7_uphold_88 : zPi mX7_uphold 88 1 89 := Or.inl ⟨1, by decide +kernel, by decide, rfl⟩
theorem iX7_uphold_89 : zIs mX7_uphold 89 (.ireturn) 1 90 := ⟨by decide +kernel, rfl⟩
theorem iX7_event_0 : zLa mX7_event 0 0 1 := Or.inl ⟨0, by decide +kernel, rfl, rfl⟩
theorem iX7_event_1 : zIs mX7_event 1 (.getfield 21) 3 4 := ⟨by decide +kernel, rfl⟩
theorem iX7_event_4 : zLi mX7_event 4 1 5 := Or.inl ⟨1, by decide +kernel, rfl, rfl⟩
theorem iX7_event_5 : zIs mX7_event 5 (.invokevirtual 253) 3 8 := ⟨by decide +kernel, rfl⟩
theorem iX7_event_8 : zBr mX7_event 8 (.ifCond .ne) 14 11 := ⟨6, by decide +kernel, by decide, rfl⟩
theorem iX7_event_11 : zPi mX7_event 11 (-101) 13 := Or.inr (Or.inl ⟨(-101), by decide +kernel, by decide, rfl⟩)
theorem iX7_event_13 : zIs mX7_event 13 (.ireturn) 1 14 := ⟨by decide +kernel, rfl⟩
theorem iX7_event_14 : zLi mX7_event 14 2 15 := Or.inl ⟨2, by decide +kernel, rfl, rfl⟩
theorem iX7_event_15 : zTs mX7_event 15 0 [48, 58, 68, 78, 88] 106 := ⟨91, 4, #[33, 43, 53, 63, 73], 33, by decide +kernel, by decide, by decide, by decide +kernel⟩
theorem iX7_event_48 : zLa mX7_event 48 0 49 := Or.inl ⟨0, by decide +kernel, rfl, rfl⟩
theorem iX7_event_49 : zIs mX7_event 49 (.getfield 21) 3 52 := ⟨by decide +kernel, rfl⟩
theorem iX7_event_52 : zIs mX7_event 52 (.getfield 265) 3 55 := ⟨by decide +kernel, rfl⟩
theorem iX7_event_55 : zLi mX7_event 55 1 56 := Or.inl ⟨1, by decide +kernel, rfl, rfl⟩
theorem iX7_event_56 : zIs mX7_event 56 (.iaload) 1 57 := ⟨by decide +kernel, rfl⟩
theorem iX7_event_57 : zIs mX7_event 57 (.ireturn) 1 58 := ⟨by decide +kernel, rfl⟩
theorem iX7_event_58 : zLa mX7_event 58 0 59 := Or.inl ⟨0, by decide +kernel, rfl, rfl⟩
theorem iX7_event_59 : zIs mX7_event 59 (.getfield 21) 3 62 := ⟨by decide +kernel, rfl⟩
theorem iX7_event_62 : zIs mX7_event 62 (.getfield 268) 3 65 := ⟨by decide +kernel, rfl⟩
theorem iX7_event_65 : zLi mX7_event 65 1 66 := Or.inl ⟨1, by decide +kernel, rfl, rfl⟩
theorem iX7_event_66 : zIs mX7_event 66 (.iaload) 1 67 := ⟨by decide +kernel, rfl⟩
theorem iX7_event_67 : zIs mX7_event 67 (.ireturn) 1 68 := ⟨by decide +kernel, rfl⟩
theorem iX7_event_68 : zLa mX7_event 68 0 69 := Or.inl ⟨0, by decide +kernel, rfl, rfl⟩
theorem iX7_event_69 : zIs mX7_event 69 (.getfield 21) 3 72 := ⟨by decide +kernel, rfl⟩
theorem iX7_event_72 : zIs mX7_event 72 (.getfield 259) 3 75 := ⟨by decide +kernel, rfl⟩
theorem iX7_event_75 : zLi mX7_event 75 1 76 := Or.inl ⟨1, by decide +kernel, rfl, rfl⟩
theorem iX7_event_76 : zIs mX7_event 76 (.iaload) 1 77 := ⟨by decide +kernel, rfl⟩
theorem iX7_event_77 : zIs mX7_event 77 (.ireturn) 1 78 := ⟨by decide +kernel, rfl⟩
theorem iX7_event_78 : zLa mX7_event 78 0 79 := Or.inl ⟨0, by decide +kernel, rfl, rfl⟩
end
section
theorem iX7_event_79 : zIs mX7_event 79 (.getfield 21) 3 82 := ⟨by decide +kernel, rfl⟩
theorem iX7_event_82 : zIs mX7_event 82 (.getfield 270) 3 85 := ⟨by decide +kernel, rfl⟩
theorem iX7_event_85 : zLi mX7_event 85 1 86 := Or.inl ⟨1, by decide +kernel, rfl, rfl⟩
theorem iX7_event_86 : zIs mX7_event 86 (.iaload) 1 87 := ⟨by decide +kernel, rfl⟩
theorem iX7_event_87 : zIs mX7_event 87 (.ireturn) 1 88 := ⟨by decide +kernel, rfl⟩
theorem iX7_event_88 : zLa mX7_event 88 0 89 := Or.inl ⟨0, by decide +kernel, rfl, rfl⟩
theorem iX7_event_89 : zIs mX7_event 89 (.getfield 21) 3 92 := ⟨by decide +kernel, rfl⟩
theorem iX7_event_92 : zIs mX7_event 92 (.getfield 256) 3 95 := ⟨by decide +kernel, rfl⟩
theorem iX7_event_95 : zLi mX7_event 95 1 96 := Or.inl ⟨1, by decide +kernel, rfl, rfl⟩
theorem iX7_event_96 : zIs mX7_event 96 (.baload) 1 97 := ⟨by decide +kernel, rfl⟩
theorem iX7_event_97 : zBr mX7_event 97 (.ifCond .eq) 104 100 := ⟨7, by decide +kernel, by decide, rfl⟩
theorem iX7_event_100 : zPi mX7_event 100 1 101 := Or.inl ⟨1, by decide +kernel, by decide, rfl⟩
theorem iX7_event_101 : zBr mX7_event 101 .goto 105 104 := ⟨4, by decide +kernel, by decide, rfl⟩
theorem iX7_event_104 : zPi mX7_event 104 0 105 := Or.inl ⟨0, by decide +kernel, by decide, rfl⟩
theorem iX7_event_105 : zIs mX7_event 105 (.ireturn) 1 106 := ⟨by decide +kernel, rfl⟩
theorem iX7_event_106 : zPi mX7_event 106 (-102) 108 := Or.inr (Or.inl ⟨(-102), by decide +kernel, by decide, rfl⟩)
theorem iX7_event_108 : zIs mX7_event 108 (.ireturn) 1 109 := ⟨by decide +kernel, rfl⟩
theorem iX7_failure_0 : zLa mX7_failure 0 0 1 := Or.inl ⟨0, by decide +kernel, rfl, rfl⟩
theorem iX7_failure_1 : zIs mX7_failure 1 (.getfield 44) 3 4 := ⟨by decide +kernel, rfl⟩
theorem iX7_failure_4 : zLi mX7_failure 4 1 5 := Or.inl ⟨1, by decide +kernel, rfl, rfl⟩
theorem iX7_failure_5 : zIs mX7_failure 5 (.invokevirtual 273) 3 8 := ⟨by decide +kernel, rfl⟩
theorem iX7_failure_8 : zBr mX7_failure 8 (.ifCond .ne) 14 11 := ⟨6, by decide +kernel, by decide, rfl⟩
theorem iX7_failure_11 : zPi mX7_failure 11 (-101) 13 := Or.inr (Or.inl ⟨(-101), by decide +kernel, by decide, rfl⟩)
theorem iX7_failure_13 : zIs mX7_failure 13 (.ireturn) 1 14 := ⟨by decide +kernel, rfl⟩
theorem iX7_failure_14 : zLi mX7_failure 14 2 15 := Or.inl ⟨2, by decide +kernel, rfl, rfl⟩
theorem iX7_failure_15 : zBr mX7_failure 15 (.ifCond .lt) 24 18 := ⟨9, by decide +kernel, by decide, rfl⟩
theorem iX7_failure_18 : zLi mX7_failure 18 2 19 := Or.inl ⟨2, by decide +kernel, rfl, rfl⟩
theorem iX7_failure_19 : zPi mX7_failure 19 6 21 := Or.inr (Or.inl ⟨6, by decide +kernel, by decide, rfl⟩)
theorem iX7_failure_21 : zBr mX7_failure 21 (.if_icmp .lt) 27 24 := ⟨6, by decide +kernel, by decide, rfl⟩
theorem iX7_failure_24 : zPi mX7_failure 24 (-102) 26 := Or.inr (Or.inl ⟨(-102), by decide +kernel, by decide, rfl⟩)
theorem iX7_failure_26 : zIs mX7_failure 26 (.ireturn) 1 27 := ⟨by decide +kernel, rfl⟩
theorem iX7_failure_27 : zLa mX7_failure 27 0 28 := Or.inl ⟨0, by decide +kernel, rfl, rfl⟩
theorem iX7_failure_28 : zIs mX7_failure 28 (.getfield 44) 3 31 := ⟨by decide +kernel, rfl⟩
theorem iX7_failure_31 : zIs mX7_failure 31 (.getfield 276) 3 34 := ⟨by decide +kernel, rfl⟩
theorem iX7_failure_34 : zLi mX7_failure 34 1 35 := Or.inl ⟨1, by decide +kernel, rfl, rfl⟩
theorem iX7_failure_35 : zPi mX7_failure 35 6 37 := Or.inr (Or.inl ⟨6, by decide +kernel, by decide, rfl⟩)
theorem iX7_failure_37 : zIs mX7_failure 37 (.imul) 1 38 := ⟨by decide +kernel, rfl⟩
theorem iX7_failure_38 : zLi mX7_failure 38 2 39 := Or.inl ⟨2, by decide +kernel, rfl, rfl⟩
theorem iX7_failure_39 : zIs mX7_failure 39 (.iadd) 1 40 := ⟨by decide +kernel, rfl⟩
theorem iX7_failure_40 : zIs mX7_failure 40 (.iaload) 1 41 := ⟨by decide +kernel, rfl⟩
theorem iX7_failure_41 : zIs mX7_failure 41 (.ireturn) 1 42 := ⟨by decide +kernel, rfl⟩
theorem iX7_is_0 : zLi mX7_is 0 1 1 := Or.inl ⟨1, by decide +kernel, rfl, rfl⟩
theorem iX7_is_1 : zIs mX7_is 1 (.invokestatic 192) 3 4 := ⟨by decide +kernel, rfl⟩
theorem iX7_is_4 : zBr mX7_is 4 (.ifCond .eq) 14 7 := ⟨10, by decide +kernel, by decide, rfl⟩
theorem iX7_is_7 : zLi mX7_is 7 2 8 := Or.inl ⟨2, by decide +kernel, rfl, rfl⟩
theorem iX7_is_8 : zIs mX7_is 8 (.invokestatic 192) 3 11 := ⟨by decide +kernel, rfl⟩
theorem iX7_is_11 : zBr mX7_is 11 (.ifCond .ne) 17 14 := ⟨6, by decide +kernel, by decide, rfl⟩
theorem iX7_is_14 : zPi mX7_is 14 (-102) 16 := Or.inr (Or.inl ⟨(-102), by decide +kernel, by decide, rfl⟩)
theorem iX7_is_16 : zIs mX7_is 16 (.ireturn) 1 17 := ⟨by decide +kernel, rfl⟩
theorem iX7_is_17 : zLi mX7_is 17 1 18 := Or.inl ⟨1, by decide +kernel, rfl, rfl⟩
theorem iX7_is_18 : zLi mX7_is 18 2 19 := Or.inl ⟨2, by decide +kernel, rfl, rfl⟩
theorem iX7_is_19 : zIs mX7_is 19 (.invokestatic 279) 3 22 := ⟨by decide +kernel, rfl⟩
theorem iX7_is_22 : zBr mX7_is 22 (.ifCond .eq) 29 25 := ⟨7, by decide +kernel, by decide, rfl⟩
theorem iX7_is_25 : zPi mX7_is 25 1 26 := Or.inl ⟨1, by decide +kernel, by decide, rfl⟩
theorem iX7_is_26 : zBr mX7_is 26 .goto 30 29 := ⟨4, by decide +kernel, by decide, rfl⟩
theorem iX7_is_29 : zPi mX7_is 29 0 30 := Or.inl ⟨0, by decide +kernel, by decide, rfl⟩
theorem iX7_is_30 : zIs mX7_is 30 (.ireturn) 1 31 := ⟨by decide +kernel, rfl⟩
theorem iX7_undo_0 : zLa mX7_undo 0 0 1 := Or.inl ⟨0, by decide +kernel, rfl, rfl⟩
theorem iX7_undo_1 : zIs mX7_undo 1 (.getfield 61) 3 4 := ⟨by decide +kernel, rfl⟩
theorem iX7_undo_4 : zBr mX7_undo 4 (.ifCond .gt) 14 7 := ⟨10, by decide +kernel, by decide, rfl⟩
theorem iX7_undo_7 : zLa mX7_undo 7 0 8 := Or.inl ⟨0, by decide +kernel, rfl, rfl⟩
theorem iX7_undo_8 : zIs mX7_undo 8 (.getfield 71) 3 11 := ⟨by decide +kernel, rfl⟩
theorem iX7_undo_11 : zBr mX7_undo 11 (.ifCond .ne) 17 14 := ⟨6, by decide +kernel, by decide, rfl⟩
theorem iX7_undo_14 : zPi mX7_undo 14 (-103) 16 := Or.inr (Or.inl ⟨(-103), by decide +kernel, by decide, rfl⟩)
theorem iX7_undo_16 : zIs mX7_undo 16 (.ireturn) 1 17 := ⟨by decide +kernel, rfl⟩
theorem iX7_undo_17 : zLa mX7_undo 17 0 18 := Or.inl ⟨0, by decide +kernel, rfl, rfl⟩
theorem iX7_undo_18 : zIs mX7_undo 18 (.getfield 71) 3 21 := ⟨by decide +kernel, rfl⟩
theorem iX7_undo_21 : zLs mX7_undo 21 1 2 48 62 81 := ⟨60, 27, 41, 27, by decide +kernel, by decide, by decide, by decide, by decide⟩
theorem iX7_undo_48 : zLa mX7_undo 48 0 49 := Or.inl ⟨0, by decide +kernel, rfl, rfl⟩
theorem iX7_undo_49 : zIs mX7_undo 49 (.getfield 21) 3 52 := ⟨by decide +kernel, rfl⟩
theorem iX7_undo_52 : zLa mX7_undo 52 0 53 := Or.inl ⟨0, by decide +kernel, rfl, rfl⟩
theorem iX7_undo_53 : zIs mX7_undo 53 (.getfield 74) 3 56 := ⟨by decide +kernel, rfl⟩
theorem iX7_undo_56 : zIs mX7_undo 56 (.invokevirtual 185) 3 59 := ⟨by decide +kernel, rfl⟩
theorem iX7_undo_59 : zBr mX7_undo 59 .goto 125 62 := ⟨66, by decide +kernel, by decide, rfl⟩
theorem iX7_undo_62 : zLa mX7_undo 62 0 63 := Or.inl ⟨0, by decide +kernel, rfl, rfl⟩
theorem iX7_undo_63 : zIs mX7_undo 63 (.getfield 12) 3 66 := ⟨by decide +kernel, rfl⟩
theorem iX7_undo_66 : zIs mX7_undo 66 (.getfield 93) 3 69 := ⟨by decide +kernel, rfl⟩
theorem iX7_undo_69 : zLa mX7_undo 69 0 70 := Or.inl ⟨0, by decide +kernel, rfl, rfl⟩
theorem iX7_undo_70 : zIs mX7_undo 70 (.getfield 74) 3 73 := ⟨by decide +kernel, rfl⟩
theorem iX7_undo_73 : zLa mX7_undo 73 0 74 := Or.inl ⟨0, by decide +kernel, rfl, rfl⟩
theorem iX7_undo_74 : zIs mX7_undo 74 (.getfield 77) 3 77 := ⟨by decide +kernel, rfl⟩
theorem iX7_undo_77 : zIs mX7_undo 77 (.bastore) 1 78 := ⟨by decide +kernel, rfl⟩
theorem iX7_undo_78 : zBr mX7_undo 78 .goto 125 81 := ⟨47, by decide +kernel, by decide, rfl⟩
theorem iX7_undo_81 : zLa mX7_undo 81 0 82 := Or.inl ⟨0, by decide +kernel, rfl, rfl⟩
theorem iX7_undo_82 : zIs mX7_undo 82 (.getfield 21) 3 85 := ⟨by decide +kernel, rfl⟩
theorem iX7_undo_85 : zLa mX7_undo 85 0 86 := Or.inl ⟨0, by decide +kernel, rfl, rfl⟩
theorem iX7_undo_86 : zIs mX7_undo 86 (.getfield 74) 3 89 := ⟨by decide +kernel, rfl⟩
theorem iX7_undo_89 : zPi mX7_undo 89 1 90 := Or.inl ⟨1, by decide +kernel, by decide, rfl⟩
theorem iX7_undo_90 : zIs mX7_undo 90 (.invokevirtual 261) 3 93 := ⟨by decide +kernel, rfl⟩
theorem iX7_undo_93 : zLa mX7_undo 93 0 94 := Or.inl ⟨0, by decide +kernel, rfl, rfl⟩
theorem iX7_undo_94 : zIs mX7_undo 94 (.getfield 12) 3 97 := ⟨by decide +kernel, rfl⟩
theorem iX7_undo_97 : zIs mX7_undo 97 (.getfield 93) 3 100 := ⟨by decide +kernel, rfl⟩
theorem iX7_undo_100 : zLa mX7_undo 100 0 101 := Or.inl ⟨0, by decide +kernel, rfl, rfl⟩
theorem iX7_undo_101 : zIs mX7_undo 101 (.getfield 12) 3 104 := ⟨by decide +kernel, rfl⟩
theorem iX7_undo_104 : zIs mX7_undo 104 (.getfield 134) 3 107 := ⟨by decide +kernel, rfl⟩
theorem iX7_undo_107 : zLa mX7_undo 107 0 108 := Or.inl ⟨0, by decide +kernel, rfl, rfl⟩
theorem iX7_undo_108 : zIs mX7_undo 108 (.getfield 21) 3 111 := ⟨by decide +kernel, rfl⟩
theorem iX7_undo_111 : zIs mX7_undo 111 (.getfield 259) 3 114 := ⟨by decide +kernel, rfl⟩
theorem iX7_undo_114 : zLa mX7_undo 114 0 115 := Or.inl ⟨0, by decide +kernel, rfl, rfl⟩
theorem iX7_undo_115 : zIs mX7_undo 115 (.getfield 74) 3 118 := ⟨by decide +kernel, rfl⟩
theorem iX7_undo_118 : zIs mX7_undo 118 (.iaload) 1 119 := ⟨by decide +kernel, rfl⟩
theorem iX7_undo_119 : zIs mX7_undo 119 (.iaload) 1 120 := ⟨by decide +kernel, rfl⟩
theorem iX7_undo_120 : zLa mX7_undo 120 0 121 := Or.inl ⟨0, by decide +kernel, rfl, rfl⟩
theorem iX7_undo_121 : zIs mX7_undo 121 (.getfield 77) 3 124 := ⟨by decide +kernel, rfl⟩
theorem iX7_undo_124 : zIs mX7_undo 124 (.bastore) 1 125 := ⟨by decide +kernel, rfl⟩
theorem iX7_undo_125 : zLa mX7_undo 125 0 126 := Or.inl ⟨0, by decide +kernel, rfl, rfl⟩
theorem iX7_undo_126 : zPi mX7_undo 126 0 127 := Or.inl ⟨0, by decide +kernel, by decide, rfl⟩
theorem iX7_undo_127 : zIs mX7_undo 127 (.putfield 71) 3 130 := ⟨by decide +kernel, rfl⟩
theorem iX7_undo_130 : zPi mX7_undo 130 1 131 := Or.inl ⟨1, by decide +kernel, by decide, rfl⟩
theorem iX7_undo_131 : zIs mX7_undo 131 (.ireturn) 1 132 := ⟨by decide +kernel, rfl⟩
theorem iX7_count_0 : zLi mX7_count 0 1 1 := Or.inl ⟨1, by decide +kernel, rfl, rfl⟩
theorem iX7_count_1 : zTs mX7_count 1 0 [56, 64, 72, 80, 88, 96, 104, 109, 117, 122] 130 := ⟨129, 9, #[55, 63, 71, 79, 87, 95, 103, 108, 116, 121], 55, by decide +kernel, by decide, by decide, by decide +kernel⟩
theorem iX7_count_56 : zLa mX7_count 56 0 57 := Or.inl ⟨0, by decide +kernel, rfl, rfl⟩
theorem iX7_count_57 : zIs mX7_count 57 (.getfield 12) 3 60 := ⟨by decide +kernel, rfl⟩
theorem iX7_count_60 : zIs mX7_count 60 (.getfield 82) 3 63 := ⟨by decide +kernel, rfl⟩
theorem iX7_count_63 : zIs mX7_count 63 (.ireturn) 1 64 := ⟨by decide +kernel, rfl⟩
theorem iX7_count_64 : zLa mX7_count 64 0 65 := Or.inl ⟨0, by decide +kernel, rfl, rfl⟩
theorem iX7_count_65 : zIs mX7_count 65 (.getfield 12) 3 68 := ⟨by decide +kernel, rfl⟩
theorem iX7_count_68 : zIs mX7_count 68 (.getfield 97) 3 71 := ⟨by decide +kernel, rfl⟩
theorem iX7_count_71 : zIs mX7_count 71 (.ireturn) 1 72 := ⟨by decide +kernel, rfl⟩
theorem iX7_count_72 : zLa mX7_count 72 0 73 := Or.inl ⟨0, by decide +kernel, rfl, rfl⟩
theorem iX7_count_73 : zIs mX7_count 73 (.getfield 12) 3 76 := ⟨by decide +kernel, rfl⟩
theorem iX7_count_76 : zIs mX7_count 76 (.getfield 283) 3 79 := ⟨by decide +kernel, rfl⟩
theorem iX7_count_79 : zIs mX7_count 79 (.ireturn) 1 80 := ⟨by decide +kernel, rfl⟩
theorem iX7_count_80 : zLa mX7_count 80 0 81 := Or.inl ⟨0, by decide +kernel, rfl, rfl⟩
theorem iX7_count_81 : zIs mX7_count 81 (.getfield 37) 3 84 := ⟨by decide +kernel, rfl⟩
theorem iX7_count_84 : zIs mX7_count 84 (.getfield 114) 3 87 := ⟨by decide +kernel, rfl⟩
theorem iX7_count_87 : zIs mX7_count 87 (.ireturn) 1 88 := ⟨by decide +kernel, rfl⟩
theorem iX7_count_88 : zLa mX7_count 88 0 89 := Or.inl ⟨0, by decide +kernel, rfl, rfl⟩
theorem iX7_count_89 : zIs mX7_count 89 (.getfield 51) 3 92 := ⟨by decide +kernel, rfl⟩
theorem iX7_count_92 : zIs mX7_count 92 (.getfield 121) 3 95 := ⟨by decide +kernel, rfl⟩
theorem iX7_count_95 : zIs mX7_count 95 (.ireturn) 1 96 := ⟨by decide +kernel, rfl⟩
theorem iX7_count_96 : zLa mX7_count 96 0 97 := Or.inl ⟨0, by decide +kernel, rfl, rfl⟩
theorem iX7_count_97 : zIs mX7_count 97 (.getfield 21) 3 100 := ⟨by decide +kernel, rfl⟩
theorem iX7_count_100 : zIs mX7_count 100 (.getfield 137) 3 103 := ⟨by decide +kernel, rfl⟩
theorem iX7_count_103 : zIs mX7_count 103 (.ireturn) 1 104 := ⟨by decide +kernel, rfl⟩
theorem iX7_count_104 : zLa mX7_count 104 0 105 := Or.inl ⟨0, by decide +kernel, rfl, rfl⟩
theorem iX7_count_105 : zIs mX7_count 105 (.getfield 65) 3 108 := ⟨by decide +kernel, rfl⟩
theorem iX7_count_108 : zIs mX7_count 108 (.ireturn) 1 109 := ⟨by decide +kernel, rfl⟩
theorem iX7_count_109 : zLa mX7_count 109 0 110 := Or.inl ⟨0, by decide +kernel, rfl, rfl⟩
theorem iX7_count_110 : zIs mX7_count 110 (.getfield 44) 3 113 := ⟨by decide +kernel, rfl⟩
theorem iX7_count_113 : zIs mX7_count 113 (.getfield 286) 3 116 := ⟨by decide +kernel, rfl⟩
theorem iX7_count_116 : zIs mX7_count 116 (.ireturn) 1 117 := ⟨by decide +kernel, rfl⟩
theorem iX7_count_117 : zLa mX7_count 117 0 118 := Or.inl ⟨0, by decide +kernel, rfl, rfl⟩
theorem iX7_count_118 : zIs mX7_count 118 (.getfield 68) 3 121 := ⟨by decide +kernel, rfl⟩
theorem iX7_count_121 : zIs mX7_count 121 (.ireturn) 1 122 := ⟨by decide +kernel, rfl⟩
theorem iX7_count_122 : zLa mX7_count 122 0 123 := Or.inl ⟨0, by decide +kernel, rfl, rfl⟩
theorem iX7_count_123 : zIs mX7_count 123 (.getfield 51) 3 126 := ⟨by decide +kernel, rfl⟩
theorem iX7_count_126 : zIs mX7_count 126 (.getfield 289) 3 129 := ⟨by decide +kernel, rfl⟩
theorem iX7_count_129 : zIs mX7_count 129 (.ireturn) 1 130 := ⟨by decide +kernel, rfl⟩
theorem iX7_count_130 : zPi mX7_count 130 (-102) 132 := Or.inr (Or.inl ⟨(-102), by decide +kernel, by decide, rfl⟩)
theorem iX7_count_132 : zIs mX7_count 132 (.ireturn) 1 133 := ⟨by decide +kernel, rfl⟩
theorem iX7_digest_0 : zLa mX7_digest 0 0 1 := Or.inl ⟨0, by decide +kernel, rfl, rfl⟩
theorem iX7_digest_1 : zLa mX7_digest 1 0 2 := Or.inl ⟨0, by decide +kernel, rfl, rfl⟩
theorem iX7_digest_2 : zPl mX7_digest 2 37 5 := ⟨292, by decide +kernel, zT_mem 746 (by decide +kernel) rfl, rfl⟩
theorem iX7_digest_5 : zIs mX7_digest 5 (.invokevirtual 294) 3 8 := ⟨by decide +kernel, rfl⟩
theorem iX7_digest_8 : zIs mX7_digest 8 (.invokevirtual 298) 3 11 := ⟨by decide +kernel, rfl⟩
theorem iX7_digest_11 : zSl mX7_digest 11 1 12 := ⟨Or.inl ⟨1, by decide +kernel, rfl, rfl⟩, by decide⟩
theorem iX7_digest_12 : zPi mX7_digest 12 0 13 := Or.inl ⟨0, by decide +kernel, by decide, rfl⟩
theorem iX7_digest_13 : zSi mX7_digest 13 3 14 := ⟨Or.inl ⟨3, by decide +kernel, rfl, rfl⟩, by decide⟩
theorem iX7_digest_14 : zLi mX7_digest 14 3 15 := Or.inl ⟨3, by decide +kernel, rfl, rfl⟩
theorem iX7_digest_15 : zLa mX7_digest 15 0 16 := Or.inl ⟨0, by decide +kernel, rfl, rfl⟩
theorem iX7_digest_16 : zIs mX7_digest 16 (.getfield 12) 3 19 := ⟨by decide +kernel, rfl⟩
theorem iX7_digest_19 : zIs mX7_digest 19 (.getfield 82) 3 22 := ⟨by decide +kernel, rfl⟩
theorem iX7_digest_22 : zBr mX7_digest 22 (.if_icmp .ge) 56 25 := ⟨34, by decide +kernel, by decide, rfl⟩
theorem iX7_digest_25 : zPl mX7_digest 25 31 28 := ⟨301, by decide +kernel, zT_mem 751 (by decide +kernel) rfl, rfl⟩
theorem iX7_digest_28 : zLl mX7_digest 28 1 29 := Or.inl ⟨1, by decide +kernel, rfl, rfl⟩
theorem iX7_digest_29 : zIs mX7_digest 29 (.lmul) 1 30 := ⟨by decide +kernel, rfl⟩
theorem iX7_digest_30 : zLa mX7_digest 30 0 31 := Or.inl ⟨0, by decide +kernel, rfl, rfl⟩
theorem iX7_digest_31 : zIs mX7_digest 31 (.getfield 12) 3 34 := ⟨by decide +kernel, rfl⟩
theorem iX7_digest_34 : zIs mX7_digest 34 (.getfield 93) 3 37 := ⟨by decide +kernel, rfl⟩
theorem iX7_digest_37 : zLi mX7_digest 37 3 38 := Or.inl ⟨3, by decide +kernel, rfl, rfl⟩
theorem iX7_digest_38 : zIs mX7_digest 38 (.baload) 1 39 := ⟨by decide +kernel, rfl⟩
theorem iX7_digest_39 : zBr mX7_digest 39 (.ifCond .eq) 46 42 := ⟨7, by decide +kernel, by decide, rfl⟩
theorem iX7_digest_42 : zPi mX7_digest 42 1 43 := Or.inl ⟨1, by decide +kernel, by decide, rfl⟩
theorem iX7_digest_43 : zBr mX7_digest 43 .goto 47 46 := ⟨4, by decide +kernel, by decide, rfl⟩
theorem iX7_digest_46 : zPi mX7_digest 46 0 47 := Or.inl ⟨0, by decide +kernel, by decide, rfl⟩
theorem iX7_digest_47 : zIs mX7_digest 47 (.i2l) 1 48 := ⟨by decide +kernel, rfl⟩
theorem iX7_digest_48 : zIs mX7_digest 48 (.ladd) 1 49 := ⟨by decide +kernel, rfl⟩
theorem iX7_digest_49 : zSl mX7_digest 49 1 50 := ⟨Or.inl ⟨1, by decide +kernel, rfl, rfl⟩, by decide⟩
theorem iX7_digest_50 : zIs mX7_digest 50 (.iinc 3 1) 3 53 := ⟨by decide +kernel, rfl⟩
theorem iX7_digest_53 : zBr mX7_digest 53 .goto 14 56 := ⟨(-39), by decide +kernel, by decide, rfl⟩
theorem iX7_digest_56 : zPi mX7_digest 56 0 57 := Or.inl ⟨0, by decide +kernel, by decide, rfl⟩
theorem iX7_digest_57 : zSi mX7_digest 57 3 58 := ⟨Or.inl ⟨3, by decide +kernel, rfl, rfl⟩, by decide⟩
theorem iX7_digest_58 : zPi mX7_digest 58 0 59 := Or.inl ⟨0, by decide +kernel, by decide, rfl⟩
theorem iX7_digest_59 : zSi mX7_digest 59 4 61 := ⟨Or.inr ⟨by decide +kernel, rfl⟩, by decide⟩
theorem iX7_digest_61 : zLi mX7_digest 61 4 63 := Or.inr ⟨by decide +kernel, rfl⟩
theorem iX7_digest_63 : zLa mX7_digest 63 0 64 := Or.inl ⟨0, by decide +kernel, rfl, rfl⟩
theorem iX7_digest_64 : zIs mX7_digest 64 (.getfield 61) 3 67 := ⟨by decide +kernel, rfl⟩
theorem iX7_digest_67 : zBr mX7_digest 67 (.if_icmp .ge) 89 70 := ⟨22, by decide +kernel, by decide, rfl⟩
theorem iX7_digest_70 : zLi mX7_digest 70 3 71 := Or.inl ⟨3, by decide +kernel, rfl, rfl⟩
theorem iX7_digest_71 : zLa mX7_digest 71 0 72 := Or.inl ⟨0, by decide +kernel, rfl, rfl⟩
theorem iX7_digest_72 : zIs mX7_digest 72 (.getfield 57) 3 75 := ⟨by decide +kernel, rfl⟩
theorem iX7_digest_75 : zLi mX7_digest 75 4 77 := Or.inr ⟨by decide +kernel, rfl⟩
theorem iX7_digest_77 : zIs mX7_digest 77 (.aaload) 1 78 := ⟨by decide +kernel, rfl⟩
theorem iX7_digest_78 : zIs mX7_digest 78 (.getfield 189) 3 81 := ⟨by decide +kernel, rfl⟩
theorem iX7_digest_81 : zIs mX7_digest 81 (.iadd) 1 82 := ⟨by decide +kernel, rfl⟩
theorem iX7_digest_82 : zSi mX7_digest 82 3 83 := ⟨Or.inl ⟨3, by decide +kernel, rfl, rfl⟩, by decide⟩
theorem iX7_digest_83 : zIs mX7_digest 83 (.iinc 4 1) 3 86 := ⟨by decide +kernel, rfl⟩
theorem iX7_digest_86 : zBr mX7_digest 86 .goto 61 89 := ⟨(-25), by decide +kernel, by decide, rfl⟩
theorem iX7_digest_89 : zPl mX7_digest 89 31 92 := ⟨301, by decide +kernel, zT_mem 751 (by decide +kernel) rfl, rfl⟩
theorem iX7_digest_92 : zLl mX7_digest 92 1 93 := Or.inl ⟨1, by decide +kernel, rfl, rfl⟩
theorem iX7_digest_93 : zIs mX7_digest 93 (.lmul) 1 94 := ⟨by decide +kernel, rfl⟩
theorem iX7_digest_94 : zLa mX7_digest 94 0 95 := Or.inl ⟨0, by decide +kernel, rfl, rfl⟩
theorem iX7_digest_95 : zIs mX7_digest 95 (.getfield 61) 3 98 := ⟨by decide +kernel, rfl⟩
theorem iX7_digest_98 : zIs mX7_digest 98 (.i2l) 1 99 := ⟨by decide +kernel, rfl⟩
theorem iX7_digest_99 : zIs mX7_digest 99 (.ladd) 1 100 := ⟨by decide +kernel, rfl⟩
theorem iX7_digest_100 : zSl mX7_digest 100 1 101 := ⟨Or.inl ⟨1, by decide +kernel, rfl, rfl⟩, by decide⟩
theorem iX7_digest_101 : zPl mX7_digest 101 31 104 := ⟨301, by decide +kernel, zT_mem 751 (by decide +kernel) rfl, rfl⟩
theorem iX7_digest_104 : zLl mX7_digest 104 1 105 := Or.inl ⟨1, by decide +kernel, rfl, rfl⟩
theorem iX7_digest_105 : zIs mX7_digest 105 (.lmul) 1 106 := ⟨by decide +kernel, rfl⟩
theorem iX7_digest_106 : zLi mX7_digest 106 3 107 := Or.inl ⟨3, by decide +kernel, rfl, rfl⟩
theorem iX7_digest_107 : zIs mX7_digest 107 (.i2l) 1 108 := ⟨by decide +kernel, rfl⟩
theorem iX7_digest_108 : zIs mX7_digest 108 (.ladd) 1 109 := ⟨by decide +kernel, rfl⟩
theorem iX7_digest_109 : zIs mX7_digest 109 (.lreturn) 1 110 := ⟨by decide +kernel, rfl⟩
theorem iX7_digestOfEntries_0 : zLl mX7_digestOfEntries 0 1 1 := Or.inl ⟨1, by decide +kernel, rfl, rfl⟩
theorem iX7_digestOfEntries_1 : zSl mX7_digestOfEntries 1 3 2 := ⟨Or.inl ⟨3, by decide +kernel, rfl, rfl⟩, by decide⟩
theorem iX7_digestOfEntries_2 : zPi mX7_digestOfEntries 2 0 3 := Or.inl ⟨0, by decide +kernel, by decide, rfl⟩
theorem iX7_digestOfEntries_3 : zSi mX7_digestOfEntries 3 5 5 := ⟨Or.inr ⟨by decide +kernel, rfl⟩, by decide⟩
theorem iX7_digestOfEntries_5 : zLi mX7_digestOfEntries 5 5 7 := Or.inr ⟨by decide +kernel, rfl⟩
theorem iX7_digestOfEntries_7 : zLa mX7_digestOfEntries 7 0 8 := Or.inl ⟨0, by decide +kernel, rfl, rfl⟩
theorem iX7_digestOfEntries_8 : zIs mX7_digestOfEntries 8 (.getfield 12) 3 11 := ⟨by decide +kernel, rfl⟩
theorem iX7_digestOfEntries_11 : zIs mX7_digestOfEntries 11 (.getfield 97) 3 14 := ⟨by decide +kernel, rfl⟩
theorem iX7_digestOfEntries_14 : zBr mX7_digestOfEntries 14 (.if_icmp .ge) 113 17 := ⟨99, by decide +kernel, by decide, rfl⟩
theorem iX7_digestOfEntries_17 : zLa mX7_digestOfEntries 17 0 18 := Or.inl ⟨0, by decide +kernel, rfl, rfl⟩
theorem iX7_digestOfEntries_18 : zIs mX7_digestOfEntries 18 (.getfield 12) 3 21 := ⟨by decide +kernel, rfl⟩
theorem iX7_digestOfEntries_21 : zIs mX7_digestOfEntries 21 (.getfield 247) 3 24 := ⟨by decide +kernel, rfl⟩
theorem iX7_digestOfEntries_24 : zLa mX7_digestOfEntries 24 0 25 := Or.inl ⟨0, by decide +kernel, rfl, rfl⟩
theorem iX7_digestOfEntries_25 : zIs mX7_digestOfEntries 25 (.getfield 12) 3 28 := ⟨by decide +kernel, rfl⟩
theorem iX7_digestOfEntries_28 : zIs mX7_digestOfEntries 28 (.getfield 134) 3 31 := ⟨by decide +kernel, rfl⟩
theorem iX7_digestOfEntries_31 : zLi mX7_digestOfEntries 31 5 33 := Or.inr ⟨by decide +kernel, rfl⟩
theorem iX7_digestOfEntries_33 : zIs mX7_digestOfEntries 33 (.iaload) 1 34 := ⟨by decide +kernel, rfl⟩
theorem iX7_digestOfEntries_34 : zIs mX7_digestOfEntries 34 (.iaload) 1 35 := ⟨by decide +kernel, rfl⟩
theorem iX7_digestOfEntries_35 : zSi mX7_digestOfEntries 35 6 37 := ⟨Or.inr ⟨by decide +kernel, rfl⟩, by decide⟩
theorem iX7_digestOfEntries_37 : zPi mX7_digestOfEntries 37 0 38 := Or.inl ⟨0, by decide +kernel, by decide, rfl⟩
theorem iX7_digestOfEntries_38 : zSi mX7_digestOfEntries 38 7 40 := ⟨Or.inr ⟨by decide +kernel, rfl⟩, by decide⟩
theorem iX7_digestOfEntries_40 : zLi mX7_digestOfEntries 40 7 42 := Or.inr ⟨by decide +kernel, rfl⟩
theorem iX7_digestOfEntries_42 : zLi mX7_digestOfEntries 42 6 44 := Or.inr ⟨by decide +kernel, rfl⟩
theorem iX7_digestOfEntries_44 : zBr mX7_digestOfEntries 44 (.if_icmp .ge) 72 47 := ⟨28, by decide +kernel, by decide, rfl⟩
theorem iX7_digestOfEntries_47 : zPl mX7_digestOfEntries 47 31 50 := ⟨301, by decide +kernel, zT_mem 751 (by decide +kernel) rfl, rfl⟩
theorem iX7_digestOfEntries_50 : zLl mX7_digestOfEntries 50 3 51 := Or.inl ⟨3, by decide +kernel, rfl, rfl⟩
theorem iX7_digestOfEntries_51 : zIs mX7_digestOfEntries 51 (.lmul) 1 52 := ⟨by decide +kernel, rfl⟩
theorem iX7_digestOfEntries_52 : zLa mX7_digestOfEntries 52 0 53 := Or.inl ⟨0, by decide +kernel, rfl, rfl⟩
theorem iX7_digestOfEntries_53 : zIs mX7_digestOfEntries 53 (.getfield 21) 3 56 := ⟨by decide +kernel, rfl⟩
theorem iX7_digestOfEntries_56 : zLi mX7_digestOfEntries 56 5 58 := Or.inr ⟨by decide +kernel, rfl⟩
theorem iX7_digestOfEntries_58 : zLi mX7_digestOfEntries 58 7 60 := Or.inr ⟨by decide +kernel, rfl⟩
theorem iX7_digestOfEntries_60 : zIs mX7_digestOfEntries 60 (.invokevirtual 303) 3 63 := ⟨by decide +kernel, rfl⟩
theorem iX7_digestOfEntries_63 : zIs mX7_digestOfEntries 63 (.i2l) 1 64 := ⟨by decide +kernel, rfl⟩
theorem iX7_digestOfEntries_64 : zIs mX7_digestOfEntries 64 (.ladd) 1 65 := ⟨by decide +kernel, rfl⟩
theorem iX7_digestOfEntries_65 : zSl mX7_digestOfEntries 65 3 66 := ⟨Or.inl ⟨3, by decide +kernel, rfl, rfl⟩, by decide⟩
theorem iX7_digestOfEntries_66 : zIs mX7_digestOfEntries 66 (.iinc 7 1) 3 69 := ⟨by decide +kernel, rfl⟩
theorem iX7_digestOfEntries_69 : zBr mX7_digestOfEntries 69 .goto 40 72 := ⟨(-29), by decide +kernel, by decide, rfl⟩
theorem iX7_digestOfEntries_72 : zPl mX7_digestOfEntries 72 31 75 := ⟨301, by decide +kernel, zT_mem 751 (by decide +kernel) rfl, rfl⟩
theorem iX7_digestOfEntries_75 : zLl mX7_digestOfEntries 75 3 76 := Or.inl ⟨3, by decide +kernel, rfl, rfl⟩
theorem iX7_digestOfEntries_76 : zIs mX7_digestOfEntries 76 (.lmul) 1 77 := ⟨by decide +kernel, rfl⟩
theorem iX7_digestOfEntries_77 : zLa mX7_digestOfEntries 77 0 78 := Or.inl ⟨0, by decide +kernel, rfl, rfl⟩
theorem iX7_digestOfEntries_78 : zIs mX7_digestOfEntries 78 (.getfield 21) 3 81 := ⟨by decide +kernel, rfl⟩
theorem iX7_digestOfEntries_81 : zIs mX7_digestOfEntries 81 (.getfield 155) 3 84 := ⟨by decide +kernel, rfl⟩
theorem iX7_digestOfEntries_84 : zLi mX7_digestOfEntries 84 5 86 := Or.inr ⟨by decide +kernel, rfl⟩
theorem iX7_digestOfEntries_86 : zIs mX7_digestOfEntries 86 (.iaload) 1 87 := ⟨by decide +kernel, rfl⟩
theorem iX7_digestOfEntries_87 : zIs mX7_digestOfEntries 87 (.i2l) 1 88 := ⟨by decide +kernel, rfl⟩
theorem iX7_digestOfEntries_88 : zIs mX7_digestOfEntries 88 (.ladd) 1 89 := ⟨by decide +kernel, rfl⟩
theorem iX7_digestOfEntries_89 : zSl mX7_digestOfEntries 89 3 90 := ⟨Or.inl ⟨3, by decide +kernel, rfl, rfl⟩, by decide⟩
theorem iX7_digestOfEntries_90 : zPl mX7_digestOfEntries 90 31 93 := ⟨301, by decide +kernel, zT_mem 751 (by decide +kernel) rfl, rfl⟩
theorem iX7_digestOfEntries_93 : zLl mX7_digestOfEntries 93 3 94 := Or.inl ⟨3, by decide +kernel, rfl, rfl⟩
theorem iX7_digestOfEntries_94 : zIs mX7_digestOfEntries 94 (.lmul) 1 95 := ⟨by decide +kernel, rfl⟩
theorem iX7_digestOfEntries_95 : zLa mX7_digestOfEntries 95 0 96 := Or.inl ⟨0, by decide +kernel, rfl, rfl⟩
theorem iX7_digestOfEntries_96 : zIs mX7_digestOfEntries 96 (.getfield 21) 3 99 := ⟨by decide +kernel, rfl⟩
theorem iX7_digestOfEntries_99 : zLi mX7_digestOfEntries 99 5 101 := Or.inr ⟨by decide +kernel, rfl⟩
theorem iX7_digestOfEntries_101 : zIs mX7_digestOfEntries 101 (.invokevirtual 165) 3 104 := ⟨by decide +kernel, rfl⟩
theorem iX7_digestOfEntries_104 : zIs mX7_digestOfEntries 104 (.i2l) 1 105 := ⟨by decide +kernel, rfl⟩
theorem iX7_digestOfEntries_105 : zIs mX7_digestOfEntries 105 (.ladd) 1 106 := ⟨by decide +kernel, rfl⟩
theorem iX7_digestOfEntries_106 : zSl mX7_digestOfEntries 106 3 107 := ⟨Or.inl ⟨3, by decide +kernel, rfl, rfl⟩, by decide⟩
theorem iX7_digestOfEntries_107 : zIs mX7_digestOfEntries 107 (.iinc 5 1) 3 110 := ⟨by decide +kernel, rfl⟩
theorem iX7_digestOfEntries_110 : zBr mX7_digestOfEntries 110 .goto 5 113 := ⟨(-105), by decide +kernel, by decide, rfl⟩
theorem iX7_digestOfEntries_113 : zLl mX7_digestOfEntries 113 3 114 := Or.inl ⟨3, by decide +kernel, rfl, rfl⟩
theorem iX7_digestOfEntries_114 : zIs mX7_digestOfEntries 114 (.lreturn) 1 115 := ⟨by decide +kernel, rfl⟩
theorem iX7_digestOfEvents_0 : zLl mX7_digestOfEvents 0 1 1 := Or.inl ⟨1, by decide +kernel, rfl, rfl⟩
theorem iX7_digestOfEvents_1 : zSl mX7_digestOfEvents 1 3 2 := ⟨Or.inl ⟨3, by decide +kernel, rfl, rfl⟩, by decide⟩
theorem iX7_digestOfEvents_2 : zPi mX7_digestOfEvents 2 0 3 := Or.inl ⟨0, by decide +kernel, by decide, rfl⟩
theorem iX7_digestOfEvents_3 : zSi mX7_digestOfEvents 3 5 5 := ⟨Or.inr ⟨by decide +kernel, rfl⟩, by decide⟩
theorem iX7_digestOfEvents_5 : zLi mX7_digestOfEvents 5 5 7 := Or.inr ⟨by decide +kernel, rfl⟩
theorem iX7_digestOfEvents_7 : zLa mX7_digestOfEvents 7 0 8 := Or.inl ⟨0, by decide +kernel, rfl, rfl⟩
theorem iX7_digestOfEvents_8 : zIs mX7_digestOfEvents 8 (.getfield 21) 3 11 := ⟨by decide +kernel, rfl⟩
theorem iX7_digestOfEvents_11 : zIs mX7_digestOfEvents 11 (.getfield 137) 3 14 := ⟨by decide +kernel, rfl⟩
theorem iX7_digestOfEvents_14 : zBr mX7_digestOfEvents 14 (.if_icmp .ge) 121 17 := ⟨107, by decide +kernel, by decide, rfl⟩
theorem iX7_digestOfEvents_17 : zPl mX7_digestOfEvents 17 31 20 := ⟨301, by decide +kernel, zT_mem 751 (by decide +kernel) rfl, rfl⟩
theorem iX7_digestOfEvents_20 : zLl mX7_digestOfEvents 20 3 21 := Or.inl ⟨3, by decide +kernel, rfl, rfl⟩
theorem iX7_digestOfEvents_21 : zIs mX7_digestOfEvents 21 (.lmul) 1 22 := ⟨by decide +kernel, rfl⟩
theorem iX7_digestOfEvents_22 : zLa mX7_digestOfEvents 22 0 23 := Or.inl ⟨0, by decide +kernel, rfl, rfl⟩
theorem iX7_digestOfEvents_23 : zIs mX7_digestOfEvents 23 (.getfield 21) 3 26 := ⟨by decide +kernel, rfl⟩
theorem iX7_digestOfEvents_26 : zIs mX7_digestOfEvents 26 (.getfield 265) 3 29 := ⟨by decide +kernel, rfl⟩
theorem iX7_digestOfEvents_29 : zLi mX7_digestOfEvents 29 5 31 := Or.inr ⟨by decide +kernel, rfl⟩
theorem iX7_digestOfEvents_31 : zIs mX7_digestOfEvents 31 (.iaload) 1 32 := ⟨by decide +kernel, rfl⟩
theorem iX7_digestOfEvents_32 : zIs mX7_digestOfEvents 32 (.i2l) 1 33 := ⟨by decide +kernel, rfl⟩
theorem iX7_digestOfEvents_33 : zIs mX7_digestOfEvents 33 (.ladd) 1 34 := ⟨by decide +kernel, rfl⟩
theorem iX7_digestOfEvents_34 : zSl mX7_digestOfEvents 34 3 35 := ⟨Or.inl ⟨3, by decide +kernel, rfl, rfl⟩, by decide⟩
theorem iX7_digestOfEvents_35 : zPl mX7_digestOfEvents 35 31 38 := ⟨301, by decide +kernel, zT_mem 751 (by decide +kernel) rfl, rfl⟩
theorem iX7_digestOfEvents_38 : zLl mX7_digestOfEvents 38 3 39 := Or.inl ⟨3, by decide +kernel, rfl, rfl⟩
theorem iX7_digestOfEvents_39 : zIs mX7_digestOfEvents 39 (.lmul) 1 40 := ⟨by decide +kernel, rfl⟩
theorem iX7_digestOfEvents_40 : zLa mX7_digestOfEvents 40 0 41 := Or.inl ⟨0, by decide +kernel, rfl, rfl⟩
theorem iX7_digestOfEvents_41 : zIs mX7_digestOfEvents 41 (.getfield 21) 3 44 := ⟨by decide +kernel, rfl⟩
theorem iX7_digestOfEvents_44 : zIs mX7_digestOfEvents 44 (.getfield 268) 3 47 := ⟨by decide +kernel, rfl⟩
theorem iX7_digestOfEvents_47 : zLi mX7_digestOfEvents 47 5 49 := Or.inr ⟨by decide +kernel, rfl⟩
theorem iX7_digestOfEvents_49 : zIs mX7_digestOfEvents 49 (.iaload) 1 50 := ⟨by decide +kernel, rfl⟩
theorem iX7_digestOfEvents_50 : zIs mX7_digestOfEvents 50 (.i2l) 1 51 := ⟨by decide +kernel, rfl⟩
theorem iX7_digestOfEvents_51 : zIs mX7_digestOfEvents 51 (.ladd) 1 52 := ⟨by decide +kernel, rfl⟩
theorem iX7_digestOfEvents_52 : zSl mX7_digestOfEvents 52 3 53 := ⟨Or.inl ⟨3, by decide +kernel, rfl, rfl⟩, by decide⟩
theorem iX7_digestOfEvents_53 : zPl mX7_digestOfEvents 53 31 56 := ⟨301, by decide +kernel, zT_mem 751 (by decide +kernel) rfl, rfl⟩
theorem iX7_digestOfEvents_56 : zLl mX7_digestOfEvents 56 3 57 := Or.inl ⟨3, by decide +kernel, rfl, rfl⟩
theorem iX7_digestOfEvents_57 : zIs mX7_digestOfEvents 57 (.lmul) 1 58 := ⟨by decide +kernel, rfl⟩
theorem iX7_digestOfEvents_58 : zLa mX7_digestOfEvents 58 0 59 := Or.inl ⟨0, by decide +kernel, rfl, rfl⟩
theorem iX7_digestOfEvents_59 : zIs mX7_digestOfEvents 59 (.getfield 21) 3 62 := ⟨by decide +kernel, rfl⟩
theorem iX7_digestOfEvents_62 : zIs mX7_digestOfEvents 62 (.getfield 259) 3 65 := ⟨by decide +kernel, rfl⟩
theorem iX7_digestOfEvents_65 : zLi mX7_digestOfEvents 65 5 67 := Or.inr ⟨by decide +kernel, rfl⟩
theorem iX7_digestOfEvents_67 : zIs mX7_digestOfEvents 67 (.iaload) 1 68 := ⟨by decide +kernel, rfl⟩
theorem iX7_digestOfEvents_68 : zIs mX7_digestOfEvents 68 (.i2l) 1 69 := ⟨by decide +kernel, rfl⟩
theorem iX7_digestOfEvents_69 : zIs mX7_digestOfEvents 69 (.ladd) 1 70 := ⟨by decide +kernel, rfl⟩
theorem iX7_digestOfEvents_70 : zSl mX7_digestOfEvents 70 3 71 := ⟨Or.inl ⟨3, by decide +kernel, rfl, rfl⟩, by decide⟩
theorem iX7_digestOfEvents_71 : zPl mX7_digestOfEvents 71 31 74 := ⟨301, by decide +kernel, zT_mem 751 (by decide +kernel) rfl, rfl⟩
theorem iX7_digestOfEvents_74 : zLl mX7_digestOfEvents 74 3 75 := Or.inl ⟨3, by decide +kernel, rfl, rfl⟩
theorem iX7_digestOfEvents_75 : zIs mX7_digestOfEvents 75 (.lmul) 1 76 := ⟨by decide +kernel, rfl⟩
theorem iX7_digestOfEvents_76 : zLa mX7_digestOfEvents 76 0 77 := Or.inl ⟨0, by decide +kernel, rfl, rfl⟩
theorem iX7_digestOfEvents_77 : zIs mX7_digestOfEvents 77 (.getfield 21) 3 80 := ⟨by decide +kernel, rfl⟩
theorem iX7_digestOfEvents_80 : zIs mX7_digestOfEvents 80 (.getfield 270) 3 83 := ⟨by decide +kernel, rfl⟩
theorem iX7_digestOfEvents_83 : zLi mX7_digestOfEvents 83 5 85 := Or.inr ⟨by decide +kernel, rfl⟩
theorem iX7_digestOfEvents_85 : zIs mX7_digestOfEvents 85 (.iaload) 1 86 := ⟨by decide +kernel, rfl⟩
theorem iX7_digestOfEvents_86 : zIs mX7_digestOfEvents 86 (.i2l) 1 87 := ⟨by decide +kernel, rfl⟩
theorem iX7_digestOfEvents_87 : zIs mX7_digestOfEvents 87 (.ladd) 1 88 := ⟨by decide +kernel, rfl⟩
theorem iX7_digestOfEvents_88 : zSl mX7_digestOfEvents 88 3 89 := ⟨Or.inl ⟨3, by decide +kernel, rfl, rfl⟩, by decide⟩
theorem iX7_digestOfEvents_89 : zPl mX7_digestOfEvents 89 31 92 := ⟨301, by decide +kernel, zT_mem 751 (by decide +kernel) rfl, rfl⟩
theorem iX7_digestOfEvents_92 : zLl mX7_digestOfEvents 92 3 93 := Or.inl ⟨3, by decide +kernel, rfl, rfl⟩
theorem iX7_digestOfEvents_93 : zIs mX7_digestOfEvents 93 (.lmul) 1 94 := ⟨by decide +kernel, rfl⟩
theorem iX7_digestOfEvents_94 : zLa mX7_digestOfEvents 94 0 95 := Or.inl ⟨0, by decide +kernel, rfl, rfl⟩
theorem iX7_digestOfEvents_95 : zIs mX7_digestOfEvents 95 (.getfield 21) 3 98 := ⟨by decide +kernel, rfl⟩
theorem iX7_digestOfEvents_98 : zIs mX7_digestOfEvents 98 (.getfield 256) 3 101 := ⟨by decide +kernel, rfl⟩
theorem iX7_digestOfEvents_101 : zLi mX7_digestOfEvents 101 5 103 := Or.inr ⟨by decide +kernel, rfl⟩
theorem iX7_digestOfEvents_103 : zIs mX7_digestOfEvents 103 (.baload) 1 104 := ⟨by decide +kernel, rfl⟩
theorem iX7_digestOfEvents_104 : zBr mX7_digestOfEvents 104 (.ifCond .eq) 111 107 := ⟨7, by decide +kernel, by decide, rfl⟩
theorem iX7_digestOfEvents_107 : zPi mX7_digestOfEvents 107 1 108 := Or.inl ⟨1, by decide +kernel, by decide, rfl⟩
theorem iX7_digestOfEvents_108 : zBr mX7_digestOfEvents 108 .goto 112 111 := ⟨4, by decide +kernel, by decide, rfl⟩
theorem iX7_digestOfEvents_111 : zPi mX7_digestOfEvents 111 0 112 := Or.inl ⟨0, by decide +kernel, by decide, rfl⟩
theorem iX7_digestOfEvents_112 : zIs mX7_digestOfEvents 112 (.i2l) 1 113 := ⟨by decide +kernel, rfl⟩
theorem iX7_digestOfEvents_113 : zIs mX7_digestOfEvents 113 (.ladd) 1 114 := ⟨by decide +kernel, rfl⟩
theorem iX7_digestOfEvents_114 : zSl mX7_digestOfEvents 114 3 115 := ⟨Or.inl ⟨3, by decide +kernel, rfl, rfl⟩, by decide⟩
theorem iX7_digestOfEvents_115 : zIs mX7_digestOfEvents 115 (.iinc 5 1) 3 118 := ⟨by decide +kernel, rfl⟩
theorem iX7_digestOfEvents_118 : zBr mX7_digestOfEvents 118 .goto 5 121 := ⟨(-113), by decide +kernel, by decide, rfl⟩
theorem iX7_digestOfEvents_121 : zLl mX7_digestOfEvents 121 3 122 := Or.inl ⟨3, by decide +kernel, rfl, rfl⟩
theorem iX7_digestOfEvents_122 : zIs mX7_digestOfEvents 122 (.lreturn) 1 123 := ⟨by decide +kernel, rfl⟩
theorem iX7_isPrize_0 : zLi mX7_isPrize 0 0 1 := Or.inl ⟨0, by decide +kernel, rfl, rfl⟩
theorem iX7_isPrize_1 : zBr mX7_isPrize 1 (.ifCond .lt) 15 4 := ⟨14, by decide +kernel, by decide, rfl⟩
theorem iX7_isPrize_4 : zLi mX7_isPrize 4 0 5 := Or.inl ⟨0, by decide +kernel, rfl, rfl⟩
theorem iX7_isPrize_5 : zPi mX7_isPrize 5 1000000 8 := Or.inr (Or.inr (Or.inr (Or.inr ⟨306, by decide +kernel, zT_mem 367 (by decide +kernel) rfl, rfl⟩)))
theorem iX7_isPrize_8 : zBr mX7_isPrize 8 (.if_icmp .gt) 15 11 := ⟨7, by decide +kernel, by decide, rfl⟩
theorem iX7_isPrize_11 : zPi mX7_isPrize 11 1 12 := Or.inl ⟨1, by decide +kernel, by decide, rfl⟩
theorem iX7_isPrize_12 : zBr mX7_isPrize 12 .goto 16 15 := ⟨4, by decide +kernel, by decide, rfl⟩
theorem iX7_isPrize_15 : zPi mX7_isPrize 15 0 16 := Or.inl ⟨0, by decide +kernel, by decide, rfl⟩
theorem iX7_isPrize_16 : zIs mX7_isPrize 16 (.ireturn) 1 17 := ⟨by decide +kernel, rfl⟩
theorem iX7_isName_0 : zLi mX7_isName 0 0 1 := Or.inl ⟨0, by decide +kernel, rfl, rfl⟩
theorem iX7_isName_1 : zBr mX7_isName 1 (.ifCond .lt) 14 4 := ⟨13, by decide +kernel, by decide, rfl⟩
theorem iX7_isName_4 : zLi mX7_isName 4 0 5 := Or.inl ⟨0, by decide +kernel, rfl, rfl⟩
theorem iX7_isName_5 : zPi mX7_isName 5 16 7 := Or.inr (Or.inl ⟨16, by decide +kernel, by decide, rfl⟩)
theorem iX7_isName_7 : zBr mX7_isName 7 (.if_icmp .ge) 14 10 := ⟨7, by decide +kernel, by decide, rfl⟩
theorem iX7_isName_10 : zPi mX7_isName 10 1 11 := Or.inl ⟨1, by decide +kernel, by decide, rfl⟩
theorem iX7_isName_11 : zBr mX7_isName 11 .goto 15 14 := ⟨4, by decide +kernel, by decide, rfl⟩
theorem iX7_isName_14 : zPi mX7_isName 14 0 15 := Or.inl ⟨0, by decide +kernel, by decide, rfl⟩
theorem iX7_isName_15 : zIs mX7_isName 15 (.ireturn) 1 16 := ⟨by decide +kernel, rfl⟩
theorem iX7_isKind_0 : zLi mX7_isKind 0 0 1 := Or.inl ⟨0, by decide +kernel, rfl, rfl⟩
theorem iX7_isKind_1 : zBr mX7_isKind 1 (.ifCond .lt) 14 4 := ⟨13, by decide +kernel, by decide, rfl⟩
theorem iX7_isKind_4 : zLi mX7_isKind 4 0 5 := Or.inl ⟨0, by decide +kernel, rfl, rfl⟩
theorem iX7_isKind_5 : zPi mX7_isKind 5 12 7 := Or.inr (Or.inl ⟨12, by decide +kernel, by decide, rfl⟩)
theorem iX7_isKind_7 : zBr mX7_isKind 7 (.if_icmp .ge) 14 10 := ⟨7, by decide +kernel, by decide, rfl⟩
theorem iX7_isKind_10 : zPi mX7_isKind 10 1 11 := Or.inl ⟨1, by decide +kernel, by decide, rfl⟩
theorem iX7_isKind_11 : zBr mX7_isKind 11 .goto 15 14 := ⟨4, by decide +kernel, by decide, rfl⟩
theorem iX7_isKind_14 : zPi mX7_isKind 14 0 15 := Or.inl ⟨0, by decide +kernel, by decide, rfl⟩
theorem iX7_isKind_15 : zIs mX7_isKind 15 (.ireturn) 1 16 := ⟨by decide +kernel, rfl⟩
theorem iX7_isRuleKind_0 : zLi mX7_isRuleKind 0 0 1 := Or.inl ⟨0, by decide +kernel, rfl, rfl⟩
theorem iX7_isRuleKind_1 : zPi mX7_isRuleKind 1 2 2 := Or.inl ⟨2, by decide +kernel, by decide, rfl⟩
theorem iX7_isRuleKind_2 : zBr mX7_isRuleKind 2 (.if_icmp .eq) 33 5 := ⟨31, by decide +kernel, by decide, rfl⟩
theorem iX7_isRuleKind_5 : zLi mX7_isRuleKind 5 0 6 := Or.inl ⟨0, by decide +kernel, rfl, rfl⟩
theorem iX7_isRuleKind_6 : zPi mX7_isRuleKind 6 3 7 := Or.inl ⟨3, by decide +kernel, by decide, rfl⟩
theorem iX7_isRuleKind_7 : zBr mX7_isRuleKind 7 (.if_icmp .eq) 33 10 := ⟨26, by decide +kernel, by decide, rfl⟩
theorem iX7_isRuleKind_10 : zLi mX7_isRuleKind 10 0 11 := Or.inl ⟨0, by decide +kernel, rfl, rfl⟩
theorem iX7_isRuleKind_11 : zPi mX7_isRuleKind 11 5 12 := Or.inl ⟨5, by decide +kernel, by decide, rfl⟩
theorem iX7_isRuleKind_12 : zBr mX7_isRuleKind 12 (.if_icmp .eq) 33 15 := ⟨21, by decide +kernel, by decide, rfl⟩
theorem iX7_isRuleKind_15 : zLi mX7_isRuleKind 15 0 16 := Or.inl ⟨0, by decide +kernel, rfl, rfl⟩
theorem iX7_isRuleKind_16 : zPi mX7_isRuleKind 16 6 18 := Or.inr (Or.inl ⟨6, by decide +kernel, by decide, rfl⟩)
theorem iX7_isRuleKind_18 : zBr mX7_isRuleKind 18 (.if_icmp .eq) 33 21 := ⟨15, by decide +kernel, by decide, rfl⟩
theorem iX7_isRuleKind_21 : zLi mX7_isRuleKind 21 0 22 := Or.inl ⟨0, by decide +kernel, rfl, rfl⟩
theorem iX7_isRuleKind_22 : zPi mX7_isRuleKind 22 8 24 := Or.inr (Or.inl ⟨8, by decide +kernel, by decide, rfl⟩)
theorem iX7_isRuleKind_24 : zBr mX7_isRuleKind 24 (.if_icmp .eq) 33 27 := ⟨9, by decide +kernel, by decide, rfl⟩
theorem iX7_isRuleKind_27 : zLi mX7_isRuleKind 27 0 28 := Or.inl ⟨0, by decide +kernel, rfl, rfl⟩
theorem iX7_isRuleKind_28 : zPi mX7_isRuleKind 28 10 30 := Or.inr (Or.inl ⟨10, by decide +kernel, by decide, rfl⟩)
theorem iX7_isRuleKind_30 : zBr mX7_isRuleKind 30 (.if_icmp .ne) 37 33 := ⟨7, by decide +kernel, by decide, rfl⟩
theorem iX7_isRuleKind_33 : zPi mX7_isRuleKind 33 1 34 := Or.inl ⟨1, by decide +kernel, by decide, rfl⟩
theorem iX7_isRuleKind_34 : zBr mX7_isRuleKind 34 .goto 38 37 := ⟨4, by decide +kernel, by decide, rfl⟩
theorem iX7_isRuleKind_37 : zPi mX7_isRuleKind 37 0 38 := Or.inl ⟨0, by decide +kernel, by decide, rfl⟩
theorem iX7_isRuleKind_38 : zIs mX7_isRuleKind 38 (.ireturn) 1 39 := ⟨by decide +kernel, rfl⟩
theorem iX7_isOfKind_0 : zLi mX7_isOfKind 0 0 1 := Or.inl ⟨0, by decide +kernel, rfl, rfl⟩
theorem iX7_isOfKind_1 : zSi mX7_isOfKind 1 2 2 := ⟨Or.inl ⟨2, by decide +kernel, rfl, rfl⟩, by decide⟩
theorem iX7_isOfKind_2 : zPi mX7_isOfKind 2 0 3 := Or.inl ⟨0, by decide +kernel, by decide, rfl⟩
theorem iX7_isOfKind_3 : zSi mX7_isOfKind 3 3 4 := ⟨Or.inl ⟨3, by decide +kernel, rfl, rfl⟩, by decide⟩
theorem iX7_isOfKind_4 : zLi mX7_isOfKind 4 3 5 := Or.inl ⟨3, by decide +kernel, rfl, rfl⟩
theorem iX7_isOfKind_5 : zPi mX7_isOfKind 5 3 6 := Or.inl ⟨3, by decide +kernel, by decide, rfl⟩
theorem iX7_isOfKind_6 : zBr mX7_isOfKind 6 (.if_icmp .ge) 28 9 := ⟨22, by decide +kernel, by decide, rfl⟩
theorem iX7_isOfKind_9 : zLi mX7_isOfKind 9 2 10 := Or.inl ⟨2, by decide +kernel, rfl, rfl⟩
theorem iX7_isOfKind_10 : zLi mX7_isOfKind 10 1 11 := Or.inl ⟨1, by decide +kernel, rfl, rfl⟩
theorem iX7_isOfKind_11 : zBr mX7_isOfKind 11 (.if_icmp .ne) 16 14 := ⟨5, by decide +kernel, by decide, rfl⟩
theorem iX7_isOfKind_14 : zPi mX7_isOfKind 14 1 15 := Or.inl ⟨1, by decide +kernel, by decide, rfl⟩
theorem iX7_isOfKind_15 : zIs mX7_isOfKind 15 (.ireturn) 1 16 := ⟨by decide +kernel, rfl⟩
theorem iX7_isOfKind_16 : zIs mX7_isOfKind 16 (.getstatic 307) 3 19 := ⟨by decide +kernel, rfl⟩
theorem iX7_isOfKind_19 : zLi mX7_isOfKind 19 2 20 := Or.inl ⟨2, by decide +kernel, rfl, rfl⟩
theorem iX7_isOfKind_20 : zIs mX7_isOfKind 20 (.iaload) 1 21 := ⟨by decide +kernel, rfl⟩
theorem iX7_isOfKind_21 : zSi mX7_isOfKind 21 2 22 := ⟨Or.inl ⟨2, by decide +kernel, rfl, rfl⟩, by decide⟩
theorem iX7_isOfKind_22 : zIs mX7_isOfKind 22 (.iinc 3 1) 3 25 := ⟨by decide +kernel, rfl⟩
theorem iX7_isOfKind_25 : zBr mX7_isOfKind 25 .goto 4 28 := ⟨(-21), by decide +kernel, by decide, rfl⟩
theorem iX7_isOfKind_28 : zPi mX7_isOfKind 28 0 29 := Or.inl ⟨0, by decide +kernel, by decide, rfl⟩
theorem iX7_isOfKind_29 : zIs mX7_isOfKind 29 (.ireturn) 1 30 := ⟨by decide +kernel, rfl⟩
theorem iX7_innermost_0 : zLa mX7_innermost 0 0 1 := Or.inl ⟨0, by decide +kernel, rfl, rfl⟩
theorem iX7_innermost_1 : zIs mX7_innermost 1 (.getfield 57) 3 4 := ⟨by decide +kernel, rfl⟩
theorem iX7_innermost_4 : zLa mX7_innermost 4 0 5 := Or.inl ⟨0, by decide +kernel, rfl, rfl⟩
theorem iX7_innermost_5 : zIs mX7_innermost 5 (.getfield 61) 3 8 := ⟨by decide +kernel, rfl⟩
theorem iX7_innermost_8 : zPi mX7_innermost 8 1 9 := Or.inl ⟨1, by decide +kernel, by decide, rfl⟩
theorem iX7_innermost_9 : zIs mX7_innermost 9 (.isub) 1 10 := ⟨by decide +kernel, rfl⟩
theorem iX7_innermost_10 : zIs mX7_innermost 10 (.aaload) 1 11 := ⟨by decide +kernel, rfl⟩
theorem iX7_innermost_11 : zIs mX7_innermost 11 (.areturn) 1 12 := ⟨by decide +kernel, rfl⟩
theorem iX7_savepointNamed_0 : zLa mX7_savepointNamed 0 0 1 := Or.inl ⟨0, by decide +kernel, rfl, rfl⟩
theorem iX7_savepointNamed_1 : zIs mX7_savepointNamed 1 (.getfield 61) 3 4 := ⟨by decide +kernel, rfl⟩
theorem iX7_savepointNamed_4 : zBr mX7_savepointNamed 4 (.ifCond .ne) 11 7 := ⟨7, by decide +kernel, by decide, rfl⟩
theorem iX7_savepointNamed_7 : zPi mX7_savepointNamed 7 (-1) 8 := Or.inl ⟨(-1), by decide +kernel, by decide, rfl⟩
theorem iX7_savepointNamed_8 : zBr mX7_savepointNamed 8 .goto 19 11 := ⟨11, by decide +kernel, by decide, rfl⟩
theorem iX7_savepointNamed_11 : zLa mX7_savepointNamed 11 0 12 := Or.inl ⟨0, by decide +kernel, rfl, rfl⟩
theorem iX7_savepointNamed_12 : zIs mX7_savepointNamed 12 (.invokevirtual 158) 3 15 := ⟨by decide +kernel, rfl⟩
theorem iX7_savepointNamed_15 : zLi mX7_savepointNamed 15 1 16 := Or.inl ⟨1, by decide +kernel, rfl, rfl⟩
theorem iX7_savepointNamed_16 : zIs mX7_savepointNamed 16 (.invokevirtual 310) 3 19 := ⟨by decide +kernel, rfl⟩
theorem iX7_savepointNamed_19 : zIs mX7_savepointNamed 19 (.ireturn) 1 20 := ⟨by decide +kernel, rfl⟩
theorem iX7_refusalOfEvent_0 : zLa mX7_refusalOfEvent 0 0 1 := Or.inl ⟨0, by decide +kernel, rfl, rfl⟩
theorem iX7_refusalOfEvent_1 : zIs mX7_refusalOfEvent 1 (.getfield 61) 3 4 := ⟨by decide +kernel, rfl⟩
theorem iX7_refusalOfEvent_4 : zBr mX7_refusalOfEvent 4 (.ifCond .ne) 10 7 := ⟨6, by decide +kernel, by decide, rfl⟩
theorem iX7_refusalOfEvent_7 : zPi mX7_refusalOfEvent 7 (-103) 9 := Or.inr (Or.inl ⟨(-103), by decide +kernel, by decide, rfl⟩)
theorem iX7_refusalOfEvent_9 : zIs mX7_refusalOfEvent 9 (.ireturn) 1 10 := ⟨by decide +kernel, rfl⟩
theorem iX7_refusalOfEvent_10 : zLa mX7_refusalOfEvent 10 0 11 := Or.inl ⟨0, by decide +kernel, rfl, rfl⟩
theorem iX7_refusalOfEvent_11 : zIs mX7_refusalOfEvent 11 (.getfield 21) 3 14 := ⟨by decide +kernel, rfl⟩
theorem iX7_refusalOfEvent_14 : zIs mX7_refusalOfEvent 14 (.getfield 137) 3 17 := ⟨by decide +kernel, rfl⟩
theorem iX7_refusalOfEvent_17 : zPi mX7_refusalOfEvent 17 400 20 := Or.inr (Or.inr (Or.inl ⟨400, by decide +kernel, by decide, rfl⟩))
theorem iX7_refusalOfEvent_20 : zBr mX7_refusalOfEvent 20 (.if_icmp .lt) 28 23 := ⟨8, by decide +kernel, by decide, rfl⟩
theorem iX7_refusalOfEvent_23 : zPi mX7_refusalOfEvent 23 (-104) 25 := Or.inr (Or.inl ⟨(-104), by decide +kernel, by decide, rfl⟩)
theorem iX7_refusalOfEvent_25 : zBr mX7_refusalOfEvent 25 .goto 29 28 := ⟨4, by decide +kernel, by decide, rfl⟩
theorem iX7_refusalOfEvent_28 : zPi mX7_refusalOfEvent 28 0 29 := Or.inl ⟨0, by decide +kernel, by decide, rfl⟩
theorem iX7_refusalOfEvent_29 : zIs mX7_refusalOfEvent 29 (.ireturn) 1 30 := ⟨by decide +kernel, rfl⟩
theorem iX7_appendEvent_0 : zLa mX7_appendEvent 0 0 1 := Or.inl ⟨0, by decide +kernel, rfl, rfl⟩
theorem iX7_appendEvent_1 : zIs mX7_appendEvent 1 (.invokevirtual 158) 3 4 := ⟨by decide +kernel, rfl⟩
theorem iX7_appendEvent_4 : zSa mX7_appendEvent 4 3 5 := ⟨Or.inl ⟨3, by decide +kernel, rfl, rfl⟩, by decide⟩
theorem iX7_appendEvent_5 : zLa mX7_appendEvent 5 0 6 := Or.inl ⟨0, by decide +kernel, rfl, rfl⟩
theorem iX7_appendEvent_6 : zIs mX7_appendEvent 6 (.getfield 21) 3 9 := ⟨by decide +kernel, rfl⟩
theorem iX7_appendEvent_9 : zLi mX7_appendEvent 9 1 10 := Or.inl ⟨1, by decide +kernel, rfl, rfl⟩
theorem iX7_appendEvent_10 : zLa mX7_appendEvent 10 3 11 := Or.inl ⟨3, by decide +kernel, rfl, rfl⟩
theorem iX7_appendEvent_11 : zIs mX7_appendEvent 11 (.getfield 210) 3 14 := ⟨by decide +kernel, rfl⟩
theorem iX7_appendEvent_14 : zLa mX7_appendEvent 14 3 15 := Or.inl ⟨3, by decide +kernel, rfl, rfl⟩
theorem iX7_appendEvent_15 : zIs mX7_appendEvent 15 (.getfield 162) 3 18 := ⟨by decide +kernel, rfl⟩
theorem iX7_appendEvent_18 : zLi mX7_appendEvent 18 2 19 := Or.inl ⟨2, by decide +kernel, rfl, rfl⟩
theorem iX7_appendEvent_19 : zIs mX7_appendEvent 19 (.invokevirtual 313) 3 22 := ⟨by decide +kernel, rfl⟩
theorem iX7_appendEvent_22 : zIs mX7_appendEvent 22 (.return_) 1 23 := ⟨by decide +kernel, rfl⟩
theorem iX7_dropInnermost_0 : zLa mX7_dropInnermost 0 0 1 := Or.inl ⟨0, by decide +kernel, rfl, rfl⟩
theorem iX7_dropInnermost_1 : zIs mX7_dropInnermost 1 (.getfield 21) 3 4 := ⟨by decide +kernel, rfl⟩
theorem iX7_dropInnermost_4 : zLa mX7_dropInnermost 4 0 5 := Or.inl ⟨0, by decide +kernel, rfl, rfl⟩
theorem iX7_dropInnermost_5 : zIs mX7_dropInnermost 5 (.invokevirtual 158) 3 8 := ⟨by decide +kernel, rfl⟩
theorem iX7_dropInnermost_8 : zIs mX7_dropInnermost 8 (.getfield 201) 3 11 := ⟨by decide +kernel, rfl⟩
theorem iX7_dropInnermost_11 : zIs mX7_dropInnermost 11 (.invokevirtual 185) 3 14 := ⟨by decide +kernel, rfl⟩
theorem iX7_dropInnermost_14 : zLa mX7_dropInnermost 14 0 15 := Or.inl ⟨0, by decide +kernel, rfl, rfl⟩
theorem iX7_dropInnermost_15 : zIs mX7_dropInnermost 15 (.dup) 1 16 := ⟨by decide +kernel, rfl⟩
theorem iX7_dropInnermost_16 : zIs mX7_dropInnermost 16 (.getfield 61) 3 19 := ⟨by decide +kernel, rfl⟩
theorem iX7_dropInnermost_19 : zPi mX7_dropInnermost 19 1 20 := Or.inl ⟨1, by decide +kernel, by decide, rfl⟩
theorem iX7_dropInnermost_20 : zIs mX7_dropInnermost 20 (.isub) 1 21 := ⟨by decide +kernel, rfl⟩
theorem iX7_dropInnermost_21 : zIs mX7_dropInnermost 21 (.putfield 61) 3 24 := ⟨by decide +kernel, rfl⟩
theorem iX7_dropInnermost_24 : zIs mX7_dropInnermost 24 (.return_) 1 25 := ⟨by decide +kernel, rfl⟩
theorem iX7_outcomeOf_0 : zLa mX7_outcomeOf 0 0 1 := Or.inl ⟨0, by decide +kernel, rfl, rfl⟩
theorem iX7_outcomeOf_1 : zIs mX7_outcomeOf 1 (.invokevirtual 158) 3 4 := ⟨by decide +kernel, rfl⟩
theorem iX7_outcomeOf_4 : zSa mX7_outcomeOf 4 2 5 := ⟨Or.inl ⟨2, by decide +kernel, rfl, rfl⟩, by decide⟩
theorem iX7_outcomeOf_5 : zPi mX7_outcomeOf 5 0 6 := Or.inl ⟨0, by decide +kernel, by decide, rfl⟩
theorem iX7_outcomeOf_6 : zSi mX7_outcomeOf 6 3 7 := ⟨Or.inl ⟨3, by decide +kernel, rfl, rfl⟩, by decide⟩
theorem iX7_outcomeOf_7 : zLi mX7_outcomeOf 7 3 8 := Or.inl ⟨3, by decide +kernel, rfl, rfl⟩
theorem iX7_outcomeOf_8 : zLa mX7_outcomeOf 8 0 9 := Or.inl ⟨0, by decide +kernel, rfl, rfl⟩
theorem iX7_outcomeOf_9 : zIs mX7_outcomeOf 9 (.getfield 37) 3 12 := ⟨by decide +kernel, rfl⟩
theorem iX7_outcomeOf_12 : zIs mX7_outcomeOf 12 (.getfield 114) 3 15 := ⟨by decide +kernel, rfl⟩
theorem iX7_outcomeOf_15 : zBr mX7_outcomeOf 15 (.if_icmp .ge) 68 18 := ⟨53, by decide +kernel, by decide, rfl⟩
theorem iX7_outcomeOf_18 : zLa mX7_outcomeOf 18 0 19 := Or.inl ⟨0, by decide +kernel, rfl, rfl⟩
theorem iX7_outcomeOf_19 : zIs mX7_outcomeOf 19 (.getfield 37) 3 22 := ⟨by decide +kernel, rfl⟩
theorem iX7_outcomeOf_22 : zIs mX7_outcomeOf 22 (.getfield 316) 3 25 := ⟨by decide +kernel, rfl⟩
theorem iX7_outcomeOf_25 : zLi mX7_outcomeOf 25 3 26 := Or.inl ⟨3, by decide +kernel, rfl, rfl⟩
theorem iX7_outcomeOf_26 : zIs mX7_outcomeOf 26 (.iaload) 1 27 := ⟨by decide +kernel, rfl⟩
theorem iX7_outcomeOf_27 : zLi mX7_outcomeOf 27 1 28 := Or.inl ⟨1, by decide +kernel, rfl, rfl⟩
theorem iX7_outcomeOf_28 : zBr mX7_outcomeOf 28 (.if_icmp .ne) 62 31 := ⟨34, by decide +kernel, by decide, rfl⟩
theorem iX7_outcomeOf_31 : zLa mX7_outcomeOf 31 0 32 := Or.inl ⟨0, by decide +kernel, rfl, rfl⟩
theorem iX7_outcomeOf_32 : zIs mX7_outcomeOf 32 (.getfield 37) 3 35 := ⟨by decide +kernel, rfl⟩
theorem iX7_outcomeOf_35 : zLi mX7_outcomeOf 35 3 36 := Or.inl ⟨3, by decide +kernel, rfl, rfl⟩
theorem iX7_outcomeOf_36 : zLa mX7_outcomeOf 36 2 37 := Or.inl ⟨2, by decide +kernel, rfl, rfl⟩
theorem iX7_outcomeOf_37 : zLa mX7_outcomeOf 37 0 38 := Or.inl ⟨0, by decide +kernel, rfl, rfl⟩
theorem iX7_outcomeOf_38 : zIs mX7_outcomeOf 38 (.getfield 21) 3 41 := ⟨by decide +kernel, rfl⟩
theorem iX7_outcomeOf_41 : zIs mX7_outcomeOf 41 (.invokevirtual 319) 3 44 := ⟨by decide +kernel, rfl⟩
theorem iX7_outcomeOf_44 : zBr mX7_outcomeOf 44 (.ifCond .eq) 62 47 := ⟨18, by decide +kernel, by decide, rfl⟩
theorem iX7_outcomeOf_47 : zLa mX7_outcomeOf 47 0 48 := Or.inl ⟨0, by decide +kernel, rfl, rfl⟩
theorem iX7_outcomeOf_48 : zLa mX7_outcomeOf 48 0 49 := Or.inl ⟨0, by decide +kernel, rfl, rfl⟩
theorem iX7_outcomeOf_49 : zIs mX7_outcomeOf 49 (.getfield 37) 3 52 := ⟨by decide +kernel, rfl⟩
theorem iX7_outcomeOf_52 : zIs mX7_outcomeOf 52 (.getfield 323) 3 55 := ⟨by decide +kernel, rfl⟩
theorem iX7_outcomeOf_55 : zLi mX7_outcomeOf 55 3 56 := Or.inl ⟨3, by decide +kernel, rfl, rfl⟩
theorem iX7_outcomeOf_56 : zIs mX7_outcomeOf 56 (.iaload) 1 57 := ⟨by decide +kernel, rfl⟩
theorem iX7_outcomeOf_57 : zLi mX7_outcomeOf 57 3 58 := Or.inl ⟨3, by decide +kernel, rfl, rfl⟩
theorem iX7_outcomeOf_58 : zIs mX7_outcomeOf 58 (.invokevirtual 326) 3 61 := ⟨by decide +kernel, rfl⟩
theorem iX7_outcomeOf_61 : zIs mX7_outcomeOf 61 (.ireturn) 1 62 := ⟨by decide +kernel, rfl⟩
theorem iX7_outcomeOf_62 : zIs mX7_outcomeOf 62 (.iinc 3 1) 3 65 := ⟨by decide +kernel, rfl⟩
theorem iX7_outcomeOf_65 : zBr mX7_outcomeOf 65 .goto 7 68 := ⟨(-58), by decide +kernel, by decide, rfl⟩
theorem iX7_outcomeOf_68 : zPi mX7_outcomeOf 68 0 69 := Or.inl ⟨0, by decide +kernel, by decide, rfl⟩
theorem iX7_outcomeOf_69 : zIs mX7_outcomeOf 69 (.ireturn) 1 70 := ⟨by decide +kernel, rfl⟩
theorem iX7_fail_0 : zLi mX7_fail 0 1 1 := Or.inl ⟨1, by decide +kernel, rfl, rfl⟩
theorem iX7_fail_1 : zSi mX7_fail 1 3 2 := ⟨Or.inl ⟨3, by decide +kernel, rfl, rfl⟩, by decide⟩
theorem iX7_fail_2 : zLi mX7_fail 2 2 3 := Or.inl ⟨2, by decide +kernel, rfl, rfl⟩
theorem iX7_fail_3 : zSi mX7_fail 3 4 5 := ⟨Or.inr ⟨by decide +kernel, rfl⟩, by decide⟩
theorem iX7_fail_5 : zPi mX7_fail 5 (-1) 6 := Or.inl ⟨(-1), by decide +kernel, by decide, rfl⟩
theorem iX7_fail_6 : zSi mX7_fail 6 5 8 := ⟨Or.inr ⟨by decide +kernel, rfl⟩, by decide⟩
theorem iX7_fail_8 : zLa mX7_fail 8 0 9 := Or.inl ⟨0, by decide +kernel, rfl, rfl⟩
theorem iX7_fail_9 : zIs mX7_fail 9 (.getfield 61) 3 12 := ⟨by decide +kernel, rfl⟩
theorem iX7_fail_12 : zSi mX7_fail 12 6 14 := ⟨Or.inr ⟨by decide +kernel, rfl⟩, by decide⟩
theorem iX7_fail_14 : zLi mX7_fail 14 6 16 := Or.inr ⟨by decide +kernel, rfl⟩
theorem iX7_fail_16 : zBr mX7_fail 16 (.ifCond .le) 93 19 := ⟨77, by decide +kernel, by decide, rfl⟩
theorem iX7_fail_19 : zLa mX7_fail 19 0 20 := Or.inl ⟨0, by decide +kernel, rfl, rfl⟩
theorem iX7_fail_20 : zIs mX7_fail 20 (.getfield 44) 3 23 := ⟨by decide +kernel, rfl⟩
theorem iX7_fail_23 : zLi mX7_fail 23 3 24 := Or.inl ⟨3, by decide +kernel, rfl, rfl⟩
theorem iX7_fail_24 : zLi mX7_fail 24 4 26 := Or.inr ⟨by decide +kernel, rfl⟩
theorem iX7_fail_26 : zLi mX7_fail 26 5 28 := Or.inr ⟨by decide +kernel, rfl⟩
theorem iX7_fail_28 : zPi mX7_fail 28 (-1) 29 := Or.inl ⟨(-1), by decide +kernel, by decide, rfl⟩
theorem iX7_fail_29 : zLa mX7_fail 29 0 30 := Or.inl ⟨0, by decide +kernel, rfl, rfl⟩
theorem iX7_fail_30 : zIs mX7_fail 30 (.getfield 61) 3 33 := ⟨by decide +kernel, rfl⟩
theorem iX7_fail_33 : zLa mX7_fail 33 0 34 := Or.inl ⟨0, by decide +kernel, rfl, rfl⟩
theorem iX7_fail_34 : zIs mX7_fail 34 (.getfield 21) 3 37 := ⟨by decide +kernel, rfl⟩
theorem iX7_fail_37 : zIs mX7_fail 37 (.getfield 137) 3 40 := ⟨by decide +kernel, rfl⟩
theorem iX7_fail_40 : zIs mX7_fail 40 (.invokevirtual 329) 3 43 := ⟨by decide +kernel, rfl⟩
theorem iX7_fail_43 : zSi mX7_fail 43 7 45 := ⟨Or.inr ⟨by decide +kernel, rfl⟩, by decide⟩
theorem iX7_fail_45 : zLa mX7_fail 45 0 46 := Or.inl ⟨0, by decide +kernel, rfl, rfl⟩
theorem iX7_fail_46 : zLi mX7_fail 46 3 47 := Or.inl ⟨3, by decide +kernel, rfl, rfl⟩
theorem iX7_fail_47 : zIs mX7_fail 47 (.invokevirtual 332) 3 50 := ⟨by decide +kernel, rfl⟩
theorem iX7_fail_50 : zBr mX7_fail 50 (.ifCond .eq) 65 53 := ⟨15, by decide +kernel, by decide, rfl⟩
theorem iX7_fail_53 : zLa mX7_fail 53 0 54 := Or.inl ⟨0, by decide +kernel, rfl, rfl⟩
theorem iX7_fail_54 : zIs mX7_fail 54 (.dup) 1 55 := ⟨by decide +kernel, rfl⟩
theorem iX7_fail_55 : zIs mX7_fail 55 (.getfield 68) 3 58 := ⟨by decide +kernel, rfl⟩
theorem iX7_fail_58 : zPi mX7_fail 58 1 59 := Or.inl ⟨1, by decide +kernel, by decide, rfl⟩
theorem iX7_fail_59 : zIs mX7_fail 59 (.iadd) 1 60 := ⟨by decide +kernel, rfl⟩
theorem iX7_fail_60 : zIs mX7_fail 60 (.putfield 68) 3 63 := ⟨by decide +kernel, rfl⟩
theorem iX7_fail_63 : zPi mX7_fail 63 2 64 := Or.inl ⟨2, by decide +kernel, by decide, rfl⟩
theorem iX7_fail_64 : zIs mX7_fail 64 (.ireturn) 1 65 := ⟨by decide +kernel, rfl⟩
theorem iX7_fail_65 : zLa mX7_fail 65 0 66 := Or.inl ⟨0, by decide +kernel, rfl, rfl⟩
theorem iX7_fail_66 : zLi mX7_fail 66 7 68 := Or.inr ⟨by decide +kernel, rfl⟩
theorem iX7_fail_68 : zIs mX7_fail 68 (.invokevirtual 335) 3 71 := ⟨by decide +kernel, rfl⟩
theorem iX7_fail_71 : zLa mX7_fail 71 0 72 := Or.inl ⟨0, by decide +kernel, rfl, rfl⟩
theorem iX7_fail_72 : zIs mX7_fail 72 (.invokevirtual 207) 3 75 := ⟨by decide +kernel, rfl⟩
theorem iX7_fail_75 : zLi mX7_fail 75 3 76 := Or.inl ⟨3, by decide +kernel, rfl, rfl⟩
theorem iX7_fail_76 : zIs mX7_fail 76 (.invokestatic 338) 3 79 := ⟨by decide +kernel, rfl⟩
theorem iX7_fail_79 : zSi mX7_fail 79 3 80 := ⟨Or.inl ⟨3, by decide +kernel, rfl, rfl⟩, by decide⟩
theorem iX7_fail_80 : zPi mX7_fail 80 (-1) 81 := Or.inl ⟨(-1), by decide +kernel, by decide, rfl⟩
theorem iX7_fail_81 : zSi mX7_fail 81 4 83 := ⟨Or.inr ⟨by decide +kernel, rfl⟩, by decide⟩
theorem iX7_fail_83 : zLi mX7_fail 83 7 85 := Or.inr ⟨by decide +kernel, rfl⟩
theorem iX7_fail_85 : zSi mX7_fail 85 5 87 := ⟨Or.inr ⟨by decide +kernel, rfl⟩, by decide⟩
theorem iX7_fail_87 : zIs mX7_fail 87 (.iinc 6 (-1)) 3 90 := ⟨by decide +kernel, rfl⟩
theorem iX7_fail_90 : zBr mX7_fail 90 .goto 14 93 := ⟨(-76), by decide +kernel, by decide, rfl⟩
theorem iX7_fail_93 : zPi mX7_fail 93 1 94 := Or.inl ⟨1, by decide +kernel, by decide, rfl⟩
theorem iX7_fail_94 : zIs mX7_fail 94 (.ireturn) 1 95 := ⟨by decide +kernel, rfl⟩
theorem iX7_letGuardCatch_0 : zLa mX7_letGuardCatch 0 0 1 := Or.inl ⟨0, by decide +kernel, rfl, rfl⟩
theorem iX7_letGuardCatch_1 : zIs mX7_letGuardCatch 1 (.invokevirtual 158) 3 4 := ⟨by decide +kernel, rfl⟩
theorem iX7_letGuardCatch_4 : zSa mX7_letGuardCatch 4 2 5 := ⟨Or.inl ⟨2, by decide +kernel, rfl, rfl⟩, by decide⟩
theorem iX7_letGuardCatch_5 : zLa mX7_letGuardCatch 5 2 6 := Or.inl ⟨2, by decide +kernel, rfl, rfl⟩
theorem iX7_letGuardCatch_6 : zIs mX7_letGuardCatch 6 (.getfield 195) 3 9 := ⟨by decide +kernel, rfl⟩
theorem iX7_letGuardCatch_9 : zPi mX7_letGuardCatch 9 1 10 := Or.inl ⟨1, by decide +kernel, by decide, rfl⟩
theorem iX7_letGuardCatch_10 : zIs mX7_letGuardCatch 10 (.isub) 1 11 := ⟨by decide +kernel, rfl⟩
theorem iX7_letGuardCatch_11 : zSi mX7_letGuardCatch 11 3 12 := ⟨Or.inl ⟨3, by decide +kernel, rfl, rfl⟩, by decide⟩
theorem iX7_letGuardCatch_12 : zLi mX7_letGuardCatch 12 3 13 := Or.inl ⟨3, by decide +kernel, rfl, rfl⟩
theorem iX7_letGuardCatch_13 : zBr mX7_letGuardCatch 13 (.ifCond .lt) 83 16 := ⟨70, by decide +kernel, by decide, rfl⟩
theorem iX7_letGuardCatch_16 : zLi mX7_letGuardCatch 16 1 17 := Or.inl ⟨1, by decide +kernel, rfl, rfl⟩
theorem iX7_letGuardCatch_17 : zLa mX7_letGuardCatch 17 2 18 := Or.inl ⟨2, by decide +kernel, rfl, rfl⟩
theorem iX7_letGuardCatch_18 : zIs mX7_letGuardCatch 18 (.getfield 341) 3 21 := ⟨by decide +kernel, rfl⟩
theorem iX7_letGuardCatch_21 : zLi mX7_letGuardCatch 21 3 22 := Or.inl ⟨3, by decide +kernel, rfl, rfl⟩
theorem iX7_letGuardCatch_22 : zIs mX7_letGuardCatch 22 (.iaload) 1 23 := ⟨by decide +kernel, rfl⟩
theorem iX7_letGuardCatch_23 : zIs mX7_letGuardCatch 23 (.invokestatic 279) 3 26 := ⟨by decide +kernel, rfl⟩
theorem iX7_letGuardCatch_26 : zBr mX7_letGuardCatch 26 (.ifCond .eq) 77 29 := ⟨51, by decide +kernel, by decide, rfl⟩
theorem iX7_letGuardCatch_29 : zLa mX7_letGuardCatch 29 2 30 := Or.inl ⟨2, by decide +kernel, rfl, rfl⟩
theorem iX7_letGuardCatch_30 : zLa mX7_letGuardCatch 30 2 31 := Or.inl ⟨2, by decide +kernel, rfl, rfl⟩
theorem iX7_letGuardCatch_31 : zIs mX7_letGuardCatch 31 (.getfield 344) 3 34 := ⟨by decide +kernel, rfl⟩
theorem iX7_letGuardCatch_34 : zLi mX7_letGuardCatch 34 3 35 := Or.inl ⟨3, by decide +kernel, rfl, rfl⟩
theorem iX7_letGuardCatch_35 : zIs mX7_letGuardCatch 35 (.iaload) 1 36 := ⟨by decide +kernel, rfl⟩
theorem iX7_letGuardCatch_36 : zIs mX7_letGuardCatch 36 (.invokevirtual 310) 3 39 := ⟨by decide +kernel, rfl⟩
theorem iX7_letGuardCatch_39 : zSi mX7_letGuardCatch 39 4 41 := ⟨Or.inr ⟨by decide +kernel, rfl⟩, by decide⟩
theorem iX7_letGuardCatch_41 : zLa mX7_letGuardCatch 41 0 42 := Or.inl ⟨0, by decide +kernel, rfl, rfl⟩
theorem iX7_letGuardCatch_42 : zIs mX7_letGuardCatch 42 (.getfield 21) 3 45 := ⟨by decide +kernel, rfl⟩
theorem iX7_letGuardCatch_45 : zLi mX7_letGuardCatch 45 4 47 := Or.inr ⟨by decide +kernel, rfl⟩
theorem iX7_letGuardCatch_47 : zBr mX7_letGuardCatch 47 (.ifCond .ge) 57 50 := ⟨10, by decide +kernel, by decide, rfl⟩
theorem iX7_letGuardCatch_50 : zLa mX7_letGuardCatch 50 2 51 := Or.inl ⟨2, by decide +kernel, rfl, rfl⟩
theorem iX7_letGuardCatch_51 : zIs mX7_letGuardCatch 51 (.getfield 201) 3 54 := ⟨by decide +kernel, rfl⟩
theorem iX7_letGuardCatch_54 : zBr mX7_letGuardCatch 54 .goto 64 57 := ⟨10, by decide +kernel, by decide, rfl⟩
theorem iX7_letGuardCatch_57 : zLa mX7_letGuardCatch 57 2 58 := Or.inl ⟨2, by decide +kernel, rfl, rfl⟩
theorem iX7_letGuardCatch_58 : zIs mX7_letGuardCatch 58 (.getfield 182) 3 61 := ⟨by decide +kernel, rfl⟩
theorem iX7_letGuardCatch_61 : zLi mX7_letGuardCatch 61 4 63 := Or.inr ⟨by decide +kernel, rfl⟩
theorem iX7_letGuardCatch_63 : zIs mX7_letGuardCatch 63 (.iaload) 1 64 := ⟨by decide +kernel, rfl⟩
theorem iX7_letGuardCatch_64 : zIs mX7_letGuardCatch 64 (.invokevirtual 185) 3 67 := ⟨by decide +kernel, rfl⟩
theorem iX7_letGuardCatch_67 : zLa mX7_letGuardCatch 67 2 68 := Or.inl ⟨2, by decide +kernel, rfl, rfl⟩
theorem iX7_letGuardCatch_68 : zLi mX7_letGuardCatch 68 4 70 := Or.inr ⟨by decide +kernel, rfl⟩
theorem iX7_letGuardCatch_70 : zPi mX7_letGuardCatch 70 1 71 := Or.inl ⟨1, by decide +kernel, by decide, rfl⟩
theorem iX7_letGuardCatch_71 : zIs mX7_letGuardCatch 71 (.iadd) 1 72 := ⟨by decide +kernel, rfl⟩
theorem iX7_letGuardCatch_72 : zIs mX7_letGuardCatch 72 (.putfield 189) 3 75 := ⟨by decide +kernel, rfl⟩
theorem iX7_letGuardCatch_75 : zPi mX7_letGuardCatch 75 1 76 := Or.inl ⟨1, by decide +kernel, by decide, rfl⟩
theorem iX7_letGuardCatch_76 : zIs mX7_letGuardCatch 76 (.ireturn) 1 77 := ⟨by decide +kernel, rfl⟩
theorem iX7_letGuardCatch_77 : zIs mX7_letGuardCatch 77 (.iinc 3 (-1)) 3 80 := ⟨by decide +kernel, rfl⟩
theorem iX7_letGuardCatch_80 : zBr mX7_letGuardCatch 80 .goto 12 83 := ⟨(-68), by decide +kernel, by decide, rfl⟩
theorem iX7_letGuardCatch_83 : zPi mX7_letGuardCatch 83 0 84 := Or.inl ⟨0, by decide +kernel, by decide, rfl⟩
theorem iX7_letGuardCatch_84 : zIs mX7_letGuardCatch 84 (.ireturn) 1 85 := ⟨by decide +kernel, rfl⟩
theorem iX7_suppressUnder_0 : zLa mX7_suppressUnder 0 0 1 := Or.inl ⟨0, by decide +kernel, rfl, rfl⟩
theorem iX7_suppressUnder_1 : zIs mX7_suppressUnder 1 (.invokevirtual 158) 3 4 := ⟨by decide +kernel, rfl⟩
theorem iX7_suppressUnder_4 : zSa mX7_suppressUnder 4 2 5 := ⟨Or.inl ⟨2, by decide +kernel, rfl, rfl⟩, by decide⟩
theorem iX7_suppressUnder_5 : zPi mX7_suppressUnder 5 0 6 := Or.inl ⟨0, by decide +kernel, by decide, rfl⟩
theorem iX7_suppressUnder_6 : zSi mX7_suppressUnder 6 3 7 := ⟨Or.inl ⟨3, by decide +kernel, rfl, rfl⟩, by decide⟩
theorem iX7_suppressUnder_7 : zLi mX7_suppressUnder 7 3 8 := Or.inl ⟨3, by decide +kernel, rfl, rfl⟩
theorem iX7_suppressUnder_8 : zLa mX7_suppressUnder 8 0 9 := Or.inl ⟨0, by decide +kernel, rfl, rfl⟩
theorem iX7_suppressUnder_9 : zIs mX7_suppressUnder 9 (.getfield 37) 3 12 := ⟨by decide +kernel, rfl⟩
theorem iX7_suppressUnder_12 : zIs mX7_suppressUnder 12 (.getfield 114) 3 15 := ⟨by decide +kernel, rfl⟩
theorem iX7_suppressUnder_15 : zBr mX7_suppressUnder 15 (.if_icmp .ge) 84 18 := ⟨69, by decide +kernel, by decide, rfl⟩
theorem iX7_suppressUnder_18 : zLa mX7_suppressUnder 18 0 19 := Or.inl ⟨0, by decide +kernel, rfl, rfl⟩
theorem iX7_suppressUnder_19 : zIs mX7_suppressUnder 19 (.getfield 37) 3 22 := ⟨by decide +kernel, rfl⟩
theorem iX7_suppressUnder_22 : zIs mX7_suppressUnder 22 (.getfield 316) 3 25 := ⟨by decide +kernel, rfl⟩
theorem iX7_suppressUnder_25 : zLi mX7_suppressUnder 25 3 26 := Or.inl ⟨3, by decide +kernel, rfl, rfl⟩
theorem iX7_suppressUnder_26 : zIs mX7_suppressUnder 26 (.iaload) 1 27 := ⟨by decide +kernel, rfl⟩
theorem iX7_suppressUnder_27 : zPi mX7_suppressUnder 27 3 28 := Or.inl ⟨3, by decide +kernel, by decide, rfl⟩
theorem iX7_suppressUnder_28 : zBr mX7_suppressUnder 28 (.if_icmp .ne) 78 31 := ⟨50, by decide +kernel, by decide, rfl⟩
theorem iX7_suppressUnder_31 : zLa mX7_suppressUnder 31 0 32 := Or.inl ⟨0, by decide +kernel, rfl, rfl⟩
theorem iX7_suppressUnder_32 : zIs mX7_suppressUnder 32 (.getfield 37) 3 35 := ⟨by decide +kernel, rfl⟩
theorem iX7_suppressUnder_35 : zLi mX7_suppressUnder 35 3 36 := Or.inl ⟨3, by decide +kernel, rfl, rfl⟩
theorem iX7_suppressUnder_36 : zLa mX7_suppressUnder 36 2 37 := Or.inl ⟨2, by decide +kernel, rfl, rfl⟩
theorem iX7_suppressUnder_37 : zLa mX7_suppressUnder 37 0 38 := Or.inl ⟨0, by decide +kernel, rfl, rfl⟩
theorem iX7_suppressUnder_38 : zIs mX7_suppressUnder 38 (.getfield 21) 3 41 := ⟨by decide +kernel, rfl⟩
theorem iX7_suppressUnder_41 : zIs mX7_suppressUnder 41 (.invokevirtual 319) 3 44 := ⟨by decide +kernel, rfl⟩
theorem iX7_suppressUnder_44 : zBr mX7_suppressUnder 44 (.ifCond .eq) 78 47 := ⟨34, by decide +kernel, by decide, rfl⟩
theorem iX7_suppressUnder_47 : zLa mX7_suppressUnder 47 0 48 := Or.inl ⟨0, by decide +kernel, rfl, rfl⟩
theorem iX7_suppressUnder_48 : zIs mX7_suppressUnder 48 (.getfield 44) 3 51 := ⟨by decide +kernel, rfl⟩
theorem iX7_suppressUnder_51 : zLa mX7_suppressUnder 51 0 52 := Or.inl ⟨0, by decide +kernel, rfl, rfl⟩
theorem iX7_suppressUnder_52 : zIs mX7_suppressUnder 52 (.getfield 37) 3 55 := ⟨by decide +kernel, rfl⟩
theorem iX7_suppressUnder_55 : zIs mX7_suppressUnder 55 (.getfield 323) 3 58 := ⟨by decide +kernel, rfl⟩
theorem iX7_suppressUnder_58 : zLi mX7_suppressUnder 58 3 59 := Or.inl ⟨3, by decide +kernel, rfl, rfl⟩
theorem iX7_suppressUnder_59 : zIs mX7_suppressUnder 59 (.iaload) 1 60 := ⟨by decide +kernel, rfl⟩
theorem iX7_suppressUnder_60 : zLi mX7_suppressUnder 60 3 61 := Or.inl ⟨3, by decide +kernel, rfl, rfl⟩
theorem iX7_suppressUnder_61 : zPi mX7_suppressUnder 61 (-1) 62 := Or.inl ⟨(-1), by decide +kernel, by decide, rfl⟩
theorem iX7_suppressUnder_62 : zLi mX7_suppressUnder 62 1 63 := Or.inl ⟨1, by decide +kernel, rfl, rfl⟩
theorem iX7_suppressUnder_63 : zLa mX7_suppressUnder 63 0 64 := Or.inl ⟨0, by decide +kernel, rfl, rfl⟩
theorem iX7_suppressUnder_64 : zIs mX7_suppressUnder 64 (.getfield 61) 3 67 := ⟨by decide +kernel, rfl⟩
theorem iX7_suppressUnder_67 : zLa mX7_suppressUnder 67 0 68 := Or.inl ⟨0, by decide +kernel, rfl, rfl⟩
theorem iX7_suppressUnder_68 : zIs mX7_suppressUnder 68 (.getfield 21) 3 71 := ⟨by decide +kernel, rfl⟩
theorem iX7_suppressUnder_71 : zIs mX7_suppressUnder 71 (.getfield 137) 3 74 := ⟨by decide +kernel, rfl⟩
theorem iX7_suppressUnder_74 : zIs mX7_suppressUnder 74 (.invokevirtual 329) 3 77 := ⟨by decide +kernel, rfl⟩
theorem iX7_suppressUnder_77 : zIs mX7_suppressUnder 77 (.pop) 1 78 := ⟨by decide +kernel, rfl⟩
theorem iX7_suppressUnder_78 : zIs mX7_suppressUnder 78 (.iinc 3 1) 3 81 := ⟨by decide +kernel, rfl⟩
theorem iX7_suppressUnder_81 : zBr mX7_suppressUnder 81 .goto 7 84 := ⟨(-74), by decide +kernel, by decide, rfl⟩
theorem iX7_suppressUnder_84 : zIs mX7_suppressUnder 84 (.return_) 1 85 := ⟨by decide +kernel, rfl⟩
theorem iX7_kindFurtherOut_0 : zLi mX7_kindFurtherOut 0 0 1 := Or.inl ⟨0, by decide +kernel, rfl, rfl⟩
theorem iX7_kindFurtherOut_1 : zPi mX7_kindFurtherOut 1 1 2 := Or.inl ⟨1, by decide +kernel, by decide, rfl⟩
theorem iX7_kindFurtherOut_2 : zIs mX7_kindFurtherOut 2 (.invokestatic 279) 3 5 := ⟨by decide +kernel, rfl⟩
theorem iX7_kindFurtherOut_5 : zBr mX7_kindFurtherOut 5 (.ifCond .eq) 10 8 := ⟨5, by decide +kernel, by decide, rfl⟩
theorem iX7_kindFurtherOut_8 : zPi mX7_kindFurtherOut 8 4 9 := Or.inl ⟨4, by decide +kernel, by decide, rfl⟩
theorem iX7_kindFurtherOut_9 : zIs mX7_kindFurtherOut 9 (.ireturn) 1 10 := ⟨by decide +kernel, rfl⟩
theorem iX7_kindFurtherOut_10 : zLi mX7_kindFurtherOut 10 0 11 := Or.inl ⟨0, by decide +kernel, rfl, rfl⟩
theorem iX7_kindFurtherOut_11 : zPi mX7_kindFurtherOut 11 4 12 := Or.inl ⟨4, by decide +kernel, by decide, rfl⟩
theorem iX7_kindFurtherOut_12 : zIs mX7_kindFurtherOut 12 (.invokestatic 279) 3 15 := ⟨by decide +kernel, rfl⟩
theorem iX7_kindFurtherOut_15 : zBr mX7_kindFurtherOut 15 (.ifCond .eq) 23 18 := ⟨8, by decide +kernel, by decide, rfl⟩
theorem iX7_kindFurtherOut_18 : zPi mX7_kindFurtherOut 18 7 20 := Or.inr (Or.inl ⟨7, by decide +kernel, by decide, rfl⟩)
theorem iX7_kindFurtherOut_20 : zBr mX7_kindFurtherOut 20 .goto 25 23 := ⟨5, by decide +kernel, by decide, rfl⟩
theorem iX7_kindFurtherOut_23 : zPi mX7_kindFurtherOut 23 9 25 := Or.inr (Or.inl ⟨9, by decide +kernel, by decide, rfl⟩)
theorem iX7_kindFurtherOut_25 : zIs mX7_kindFurtherOut 25 (.ireturn) 1 26 := ⟨by decide +kernel, rfl⟩
theorem iX7_finishAct_0 : zLa mX7_finishAct 0 0 1 := Or.inl ⟨0, by decide +kernel, rfl, rfl⟩
theorem iX7_finishAct_1 : zIs mX7_finishAct 1 (.dup) 1 2 := ⟨by decide +kernel, rfl⟩
theorem iX7_finishAct_2 : zIs mX7_finishAct 2 (.getfield 65) 3 5 := ⟨by decide +kernel, rfl⟩
theorem iX7_finishAct_5 : zPi mX7_finishAct 5 1 6 := Or.inl ⟨1, by decide +kernel, by decide, rfl⟩
theorem iX7_finishAct_6 : zIs mX7_finishAct 6 (.iadd) 1 7 := ⟨by decide +kernel, rfl⟩
theorem iX7_finishAct_7 : zIs mX7_finishAct 7 (.putfield 65) 3 10 := ⟨by decide +kernel, rfl⟩
theorem iX7_finishAct_10 : zLa mX7_finishAct 10 0 11 := Or.inl ⟨0, by decide +kernel, rfl, rfl⟩
theorem iX7_finishAct_11 : zPi mX7_finishAct 11 1 12 := Or.inl ⟨1, by decide +kernel, by decide, rfl⟩
theorem iX7_finishAct_12 : zLi mX7_finishAct 12 1 13 := Or.inl ⟨1, by decide +kernel, rfl, rfl⟩
theorem iX7_finishAct_13 : zPi mX7_finishAct 13 0 14 := Or.inl ⟨0, by decide +kernel, by decide, rfl⟩
theorem iX7_finishAct_14 : zIs mX7_finishAct 14 (.invokevirtual 234) 3 17 := ⟨by decide +kernel, rfl⟩
theorem iX7_finishAct_17 : zPi mX7_finishAct 17 0 18 := Or.inl ⟨0, by decide +kernel, by decide, rfl⟩
theorem iX7_finishAct_18 : zSi mX7_finishAct 18 2 19 := ⟨Or.inl ⟨2, by decide +kernel, rfl, rfl⟩, by decide⟩
theorem iX7_finishAct_19 : zPi mX7_finishAct 19 0 20 := Or.inl ⟨0, by decide +kernel, by decide, rfl⟩
theorem iX7_finishAct_20 : zSi mX7_finishAct 20 3 21 := ⟨Or.inl ⟨3, by decide +kernel, rfl, rfl⟩, by decide⟩
theorem iX7_finishAct_21 : zLi mX7_finishAct 21 3 22 := Or.inl ⟨3, by decide +kernel, rfl, rfl⟩
theorem iX7_finishAct_22 : zLa mX7_finishAct 22 0 23 := Or.inl ⟨0, by decide +kernel, rfl, rfl⟩
theorem iX7_finishAct_23 : zIs mX7_finishAct 23 (.getfield 51) 3 26 := ⟨by decide +kernel, rfl⟩
theorem iX7_finishAct_26 : zIs mX7_finishAct 26 (.getfield 121) 3 29 := ⟨by decide +kernel, rfl⟩
theorem iX7_finishAct_29 : zBr mX7_finishAct 29 (.if_icmp .ge) 78 32 := ⟨49, by decide +kernel, by decide, rfl⟩
theorem iX7_finishAct_32 : zLa mX7_finishAct 32 0 33 := Or.inl ⟨0, by decide +kernel, rfl, rfl⟩
theorem iX7_finishAct_33 : zIs mX7_finishAct 33 (.getfield 51) 3 36 := ⟨by decide +kernel, rfl⟩
theorem iX7_finishAct_36 : zLi mX7_finishAct 36 3 37 := Or.inl ⟨3, by decide +kernel, rfl, rfl⟩
theorem iX7_finishAct_37 : zIs mX7_finishAct 37 (.invokevirtual 347) 3 40 := ⟨by decide +kernel, rfl⟩
theorem iX7_finishAct_40 : zBr mX7_finishAct 40 (.ifCond .eq) 72 43 := ⟨32, by decide +kernel, by decide, rfl⟩
theorem iX7_finishAct_43 : zLa mX7_finishAct 43 0 44 := Or.inl ⟨0, by decide +kernel, rfl, rfl⟩
theorem iX7_finishAct_44 : zIs mX7_finishAct 44 (.getfield 44) 3 47 := ⟨by decide +kernel, rfl⟩
theorem iX7_finishAct_47 : zPi mX7_finishAct 47 11 49 := Or.inr (Or.inl ⟨11, by decide +kernel, by decide, rfl⟩)
theorem iX7_finishAct_49 : zPi mX7_finishAct 49 (-2) 51 := Or.inr (Or.inl ⟨(-2), by decide +kernel, by decide, rfl⟩)
theorem iX7_finishAct_51 : zLi mX7_finishAct 51 3 52 := Or.inl ⟨3, by decide +kernel, rfl, rfl⟩
theorem iX7_finishAct_52 : zIs mX7_finishAct 52 (.isub) 1 53 := ⟨by decide +kernel, rfl⟩
theorem iX7_finishAct_53 : zPi mX7_finishAct 53 (-1) 54 := Or.inl ⟨(-1), by decide +kernel, by decide, rfl⟩
theorem iX7_finishAct_54 : zPi mX7_finishAct 54 (-1) 55 := Or.inl ⟨(-1), by decide +kernel, by decide, rfl⟩
theorem iX7_finishAct_55 : zLa mX7_finishAct 55 0 56 := Or.inl ⟨0, by decide +kernel, rfl, rfl⟩
theorem iX7_finishAct_56 : zIs mX7_finishAct 56 (.getfield 61) 3 59 := ⟨by decide +kernel, rfl⟩
theorem iX7_finishAct_59 : zLa mX7_finishAct 59 0 60 := Or.inl ⟨0, by decide +kernel, rfl, rfl⟩
theorem iX7_finishAct_60 : zIs mX7_finishAct 60 (.getfield 21) 3 63 := ⟨by decide +kernel, rfl⟩
theorem iX7_finishAct_63 : zIs mX7_finishAct 63 (.getfield 137) 3 66 := ⟨by decide +kernel, rfl⟩
theorem iX7_finishAct_66 : zIs mX7_finishAct 66 (.invokevirtual 329) 3 69 := ⟨by decide +kernel, rfl⟩
theorem iX7_finishAct_69 : zIs mX7_finishAct 69 (.pop) 1 70 := ⟨by decide +kernel, rfl⟩
theorem iX7_finishAct_70 : zPi mX7_finishAct 70 3 71 := Or.inl ⟨3, by decide +kernel, by decide, rfl⟩
theorem iX7_finishAct_71 : zSi mX7_finishAct 71 2 72 := ⟨Or.inl ⟨2, by decide +kernel, rfl, rfl⟩, by decide⟩
theorem iX7_finishAct_72 : zIs mX7_finishAct 72 (.iinc 3 1) 3 75 := ⟨by decide +kernel, rfl⟩
theorem iX7_finishAct_75 : zBr mX7_finishAct 75 .goto 21 78 := ⟨(-54), by decide +kernel, by decide, rfl⟩
theorem iX7_finishAct_78 : zLi mX7_finishAct 78 2 79 := Or.inl ⟨2, by decide +kernel, rfl, rfl⟩
theorem iX7_finishAct_79 : zIs mX7_finishAct 79 (.ireturn) 1 80 := ⟨by decide +kernel, rfl⟩
theorem iX7_keepForUndo_0 : zLa mX7_keepForUndo 0 0 1 := Or.inl ⟨0, by decide +kernel, rfl, rfl⟩
theorem iX7_keepForUndo_1 : zLi mX7_keepForUndo 1 1 2 := Or.inl ⟨1, by decide +kernel, rfl, rfl⟩
theorem iX7_keepForUndo_2 : zIs mX7_keepForUndo 2 (.putfield 71) 3 5 := ⟨by decide +kernel, rfl⟩
theorem iX7_keepForUndo_5 : zLa mX7_keepForUndo 5 0 6 := Or.inl ⟨0, by decide +kernel, rfl, rfl⟩
theorem iX7_keepForUndo_6 : zLi mX7_keepForUndo 6 2 7 := Or.inl ⟨2, by decide +kernel, rfl, rfl⟩
theorem iX7_keepForUndo_7 : zIs mX7_keepForUndo 7 (.putfield 74) 3 10 := ⟨by decide +kernel, rfl⟩
theorem iX7_keepForUndo_10 : zLa mX7_keepForUndo 10 0 11 := Or.inl ⟨0, by decide +kernel, rfl, rfl⟩
theorem iX7_keepForUndo_11 : zLi mX7_keepForUndo 11 3 12 := Or.inl ⟨3, by decide +kernel, rfl, rfl⟩
theorem iX7_keepForUndo_12 : zIs mX7_keepForUndo 12 (.putfield 77) 3 15 := ⟨by decide +kernel, rfl⟩
theorem iX7_keepForUndo_15 : zIs mX7_keepForUndo 15 (.return_) 1 16 := ⟨by decide +kernel, rfl⟩
end
section
theorem iX8_init_0 : zLa mX8_init 0 0 1 := Or.inl ⟨0, by decide +kernel, rfl, rfl⟩
theorem iX8_init_1 : zIs mX8_init 1 (.invokespecial 1) 3 4 := ⟨by decide +kernel, rfl⟩
theorem iX8_init_4 : zLa mX8_init 4 0 5 := Or.inl ⟨0, by decide +kernel, rfl, rfl⟩
theorem iX8_init_5 : zPi mX8_init 5 12 7 := Or.inr (Or.inl ⟨12, by decide +kernel, by decide, rfl⟩)
theorem iX8_init_7 : zIs mX8_init 7 (.newarray .int) 2 9 := ⟨by decide +kernel, rfl⟩
theorem iX8_init_9 : zIs mX8_init 9 (.putfield 7) 3 12 := ⟨by decide +kernel, rfl⟩
theorem iX8_init_12 : zLa mX8_init 12 0 13 := Or.inl ⟨0, by decide +kernel, rfl, rfl⟩
theorem iX8_init_13 : zPi mX8_init 13 12 15 := Or.inr (Or.inl ⟨12, by decide +kernel, by decide, rfl⟩)
theorem iX8_init_15 : zIs mX8_init 15 (.newarray .int) 2 17 := ⟨by decide +kernel, rfl⟩
theorem iX8_init_17 : zIs mX8_init 17 (.putfield 13) 3 20 := ⟨by decide +kernel, rfl⟩
theorem iX8_init_20 : zLa mX8_init 20 0 21 := Or.inl ⟨0, by decide +kernel, rfl, rfl⟩
theorem iX8_init_21 : zPi mX8_init 21 12 23 := Or.inr (Or.inl ⟨12, by decide +kernel, by decide, rfl⟩)
theorem iX8_init_23 : zIs mX8_init 23 (.newarray .int) 2 25 := ⟨by decide +kernel, rfl⟩
theorem iX8_init_25 : zIs mX8_init 25 (.putfield 16) 3 28 := ⟨by decide +kernel, rfl⟩
theorem iX8_init_28 : zLa mX8_init 28 0 29 := Or.inl ⟨0, by decide +kernel, rfl, rfl⟩
theorem iX8_init_29 : zPi mX8_init 29 12 31 := Or.inr (Or.inl ⟨12, by decide +kernel, by decide, rfl⟩)
theorem iX8_init_31 : zIs mX8_init 31 (.newarray .int) 2 33 := ⟨by decide +kernel, rfl⟩
theorem iX8_init_33 : zIs mX8_init 33 (.putfield 19) 3 36 := ⟨by decide +kernel, rfl⟩
theorem iX8_init_36 : zLa mX8_init 36 0 37 := Or.inl ⟨0, by decide +kernel, rfl, rfl⟩
theorem iX8_init_37 : zPi mX8_init 37 12 39 := Or.inr (Or.inl ⟨12, by decide +kernel, by decide, rfl⟩)
theorem iX8_init_39 : zIs mX8_init 39 (.newarray .boolean) 2 41 := ⟨by decide +kernel, rfl⟩
theorem iX8_init_41 : zIs mX8_init 41 (.putfield 22) 3 44 := ⟨by decide +kernel, rfl⟩
theorem iX8_init_44 : zLa mX8_init 44 0 45 := Or.inl ⟨0, by decide +kernel, rfl, rfl⟩
theorem iX8_init_45 : zPi mX8_init 45 36 47 := Or.inr (Or.inl ⟨36, by decide +kernel, by decide, rfl⟩)
theorem iX8_init_47 : zIs mX8_init 47 (.newarray .int) 2 49 := ⟨by decide +kernel, rfl⟩
theorem iX8_init_49 : zIs mX8_init 49 (.putfield 26) 3 52 := ⟨by decide +kernel, rfl⟩
theorem iX8_init_52 : zLa mX8_init 52 0 53 := Or.inl ⟨0, by decide +kernel, rfl, rfl⟩
theorem iX8_init_53 : zPi mX8_init 53 60 55 := Or.inr (Or.inl ⟨60, by decide +kernel, by decide, rfl⟩)
theorem iX8_init_55 : zIs mX8_init 55 (.newarray .int) 2 57 := ⟨by decide +kernel, rfl⟩
theorem iX8_init_57 : zIs mX8_init 57 (.putfield 29) 3 60 := ⟨by decide +kernel, rfl⟩
theorem iX8_init_60 : zLa mX8_init 60 0 61 := Or.inl ⟨0, by decide +kernel, rfl, rfl⟩
theorem iX8_init_61 : zPi mX8_init 61 60 63 := Or.inr (Or.inl ⟨60, by decide +kernel, by decide, rfl⟩)
theorem iX8_init_63 : zIs mX8_init 63 (.newarray .int) 2 65 := ⟨by decide +kernel, rfl⟩
theorem iX8_init_65 : zIs mX8_init 65 (.putfield 32) 3 68 := ⟨by decide +kernel, rfl⟩
theorem iX8_init_68 : zLa mX8_init 68 0 69 := Or.inl ⟨0, by decide +kernel, rfl, rfl⟩
theorem iX8_init_69 : zPi mX8_init 69 24 71 := Or.inr (Or.inl ⟨24, by decide +kernel, by decide, rfl⟩)
theorem iX8_init_71 : zIs mX8_init 71 (.newarray .int) 2 73 := ⟨by decide +kernel, rfl⟩
theorem iX8_init_73 : zIs mX8_init 73 (.putfield 35) 3 76 := ⟨by decide +kernel, rfl⟩
theorem iX8_init_76 : zLa mX8_init 76 0 77 := Or.inl ⟨0, by decide +kernel, rfl, rfl⟩
theorem iX8_init_77 : zPi mX8_init 77 24 79 := Or.inr (Or.inl ⟨24, by decide +kernel, by decide, rfl⟩)
theorem iX8_init_79 : zIs mX8_init 79 (.newarray .int) 2 81 := ⟨by decide +kernel, rfl⟩
theorem iX8_init_81 : zIs mX8_init 81 (.putfield 38) 3 84 := ⟨by decide +kernel, rfl⟩
theorem iX8_init_84 : zLa mX8_init 84 0 85 := Or.inl ⟨0, by decide +kernel, rfl, rfl⟩
theorem iX8_init_85 : zPi mX8_init 85 24 87 := Or.inr (Or.inl ⟨24, by decide +kernel, by decide, rfl⟩)
theorem iX8_init_87 : zIs mX8_init 87 (.newarray .int) 2 89 := ⟨by decide +kernel, rfl⟩
theorem iX8_init_89 : zIs mX8_init 89 (.putfield 41) 3 92 := ⟨by decide +kernel, rfl⟩
theorem iX8_init_92 : zLa mX8_init 92 0 93 := Or.inl ⟨0, by decide +kernel, rfl, rfl⟩
theorem iX8_init_93 : zPi mX8_init 93 6 95 := Or.inr (Or.inl ⟨6, by decide +kernel, by decide, rfl⟩)
theorem iX8_init_95 : zIs mX8_init 95 (.newarray .int) 2 97 := ⟨by decide +kernel, rfl⟩
theorem iX8_init_97 : zIs mX8_init 97 (.putfield 44) 3 100 := ⟨by decide +kernel, rfl⟩
theorem iX8_init_100 : zLa mX8_init 100 0 101 := Or.inl ⟨0, by decide +kernel, rfl, rfl⟩
theorem iX8_init_101 : zPi mX8_init 101 6 103 := Or.inr (Or.inl ⟨6, by decide +kernel, by decide, rfl⟩)
theorem iX8_init_103 : zIs mX8_init 103 (.newarray .int) 2 105 := ⟨by decide +kernel, rfl⟩
theorem iX8_init_105 : zIs mX8_init 105 (.putfield 47) 3 108 := ⟨by decide +kernel, rfl⟩
theorem iX8_init_108 : zLa mX8_init 108 0 109 := Or.inl ⟨0, by decide +kernel, rfl, rfl⟩
theorem iX8_init_109 : zPi mX8_init 109 400 112 := Or.inr (Or.inr (Or.inl ⟨400, by decide +kernel, by decide, rfl⟩))
theorem iX8_init_112 : zIs mX8_init 112 (.newarray .int) 2 114 := ⟨by decide +kernel, rfl⟩
theorem iX8_init_114 : zIs mX8_init 114 (.putfield 50) 3 117 := ⟨by decide +kernel, rfl⟩
theorem iX8_init_117 : zLa mX8_init 117 0 118 := Or.inl ⟨0, by decide +kernel, rfl, rfl⟩
theorem iX8_init_118 : zPi mX8_init 118 400 121 := Or.inr (Or.inr (Or.inl ⟨400, by decide +kernel, by decide, rfl⟩))
theorem iX8_init_121 : zIs mX8_init 121 (.newarray .int) 2 123 := ⟨by decide +kernel, rfl⟩
theorem iX8_init_123 : zIs mX8_init 123 (.putfield 53) 3 126 := ⟨by decide +kernel, rfl⟩
theorem iX8_init_126 : zLa mX8_init 126 0 127 := Or.inl ⟨0, by decide +kernel, rfl, rfl⟩
theorem iX8_init_127 : zPi mX8_init 127 400 130 := Or.inr (Or.inr (Or.inl ⟨400, by decide +kernel, by decide, rfl⟩))
theorem iX8_init_130 : zIs mX8_init 130 (.newarray .int) 2 132 := ⟨by decide +kernel, rfl⟩
theorem iX8_init_132 : zIs mX8_init 132 (.putfield 56) 3 135 := ⟨by decide +kernel, rfl⟩
theorem iX8_init_135 : zLa mX8_init 135 0 136 := Or.inl ⟨0, by decide +kernel, rfl, rfl⟩
theorem iX8_init_136 : zPi mX8_init 136 400 139 := Or.inr (Or.inr (Or.inl ⟨400, by decide +kernel, by decide, rfl⟩))
theorem iX8_init_139 : zIs mX8_init 139 (.newarray .int) 2 141 := ⟨by decide +kernel, rfl⟩
theorem iX8_init_141 : zIs mX8_init 141 (.putfield 59) 3 144 := ⟨by decide +kernel, rfl⟩
theorem iX8_init_144 : zLa mX8_init 144 0 145 := Or.inl ⟨0, by decide +kernel, rfl, rfl⟩
theorem iX8_init_145 : zPi mX8_init 145 400 148 := Or.inr (Or.inr (Or.inl ⟨400, by decide +kernel, by decide, rfl⟩))
theorem iX8_init_148 : zIs mX8_init 148 (.newarray .boolean) 2 150 := ⟨by decide +kernel, rfl⟩
theorem iX8_init_150 : zIs mX8_init 150 (.putfield 62) 3 153 := ⟨by decide +kernel, rfl⟩
theorem iX8_init_153 : zLa mX8_init 153 0 154 := Or.inl ⟨0, by decide +kernel, rfl, rfl⟩
theorem iX8_init_154 : zPi mX8_init 154 300 157 := Or.inr (Or.inr (Or.inl ⟨300, by decide +kernel, by decide, rfl⟩))
theorem iX8_init_157 : zIs mX8_init 157 (.newarray .int) 2 159 := ⟨by decide +kernel, rfl⟩
theorem iX8_init_159 : zIs mX8_init 159 (.putfield 65) 3 162 := ⟨by decide +kernel, rfl⟩
theorem iX8_init_162 : zLa mX8_init 162 0 163 := Or.inl ⟨0, by decide +kernel, rfl, rfl⟩
theorem iX8_init_163 : zPi mX8_init 163 60 165 := Or.inr (Or.inl ⟨60, by decide +kernel, by decide, rfl⟩)
theorem iX8_init_165 : zIs mX8_init 165 (.newarray .int) 2 167 := ⟨by decide +kernel, rfl⟩
theorem iX8_init_167 : zIs mX8_init 167 (.putfield 68) 3 170 := ⟨by decide +kernel, rfl⟩
theorem iX8_init_170 : zLa mX8_init 170 0 171 := Or.inl ⟨0, by decide +kernel, rfl, rfl⟩
theorem iX8_init_171 : zPi mX8_init 171 60 173 := Or.inr (Or.inl ⟨60, by decide +kernel, by decide, rfl⟩)
theorem iX8_init_173 : zIs mX8_init 173 (.newarray .int) 2 175 := ⟨by decide +kernel, rfl⟩
theorem iX8_init_175 : zIs mX8_init 175 (.putfield 71) 3 178 := ⟨by decide +kernel, rfl⟩
theorem iX8_init_178 : zLa mX8_init 178 0 179 := Or.inl ⟨0, by decide +kernel, rfl, rfl⟩
theorem iX8_init_179 : zPi mX8_init 179 8 181 := Or.inr (Or.inl ⟨8, by decide +kernel, by decide, rfl⟩)
theorem iX8_init_181 : zIs mX8_init 181 (.newarray .int) 2 183 := ⟨by decide +kernel, rfl⟩
theorem iX8_init_183 : zIs mX8_init 183 (.putfield 74) 3 186 := ⟨by decide +kernel, rfl⟩
theorem iX8_init_186 : zLa mX8_init 186 0 187 := Or.inl ⟨0, by decide +kernel, rfl, rfl⟩
theorem iX8_init_187 : zPi mX8_init 187 8 189 := Or.inr (Or.inl ⟨8, by decide +kernel, by decide, rfl⟩)
theorem iX8_init_189 : zIs mX8_init 189 (.newarray .int) 2 191 := ⟨by decide +kernel, rfl⟩
theorem iX8_init_191 : zIs mX8_init 191 (.putfield 77) 3 194 := ⟨by decide +kernel, rfl⟩
theorem iX8_init_194 : zLa mX8_init 194 0 195 := Or.inl ⟨0, by decide +kernel, rfl, rfl⟩
theorem iX8_init_195 : zPi mX8_init 195 8 197 := Or.inr (Or.inl ⟨8, by decide +kernel, by decide, rfl⟩)
theorem iX8_init_197 : zIs mX8_init 197 (.newarray .int) 2 199 := ⟨by decide +kernel, rfl⟩
theorem iX8_init_199 : zIs mX8_init 199 (.putfield 80) 3 202 := ⟨by decide +kernel, rfl⟩
theorem iX8_init_202 : zLa mX8_init 202 0 203 := Or.inl ⟨0, by decide +kernel, rfl, rfl⟩
theorem iX8_init_203 : zPi mX8_init 203 8 205 := Or.inr (Or.inl ⟨8, by decide +kernel, by decide, rfl⟩)
theorem iX8_init_205 : zIs mX8_init 205 (.newarray .int) 2 207 := ⟨by decide +kernel, rfl⟩
theorem iX8_init_207 : zIs mX8_init 207 (.putfield 83) 3 210 := ⟨by decide +kernel, rfl⟩
theorem iX8_init_210 : zLa mX8_init 210 0 211 := Or.inl ⟨0, by decide +kernel, rfl, rfl⟩
theorem iX8_init_211 : zPi mX8_init 211 128 214 := Or.inr (Or.inr (Or.inl ⟨128, by decide +kernel, by decide, rfl⟩))
theorem iX8_init_214 : zIs mX8_init 214 (.newarray .int) 2 216 := ⟨by decide +kernel, rfl⟩
theorem iX8_init_216 : zIs mX8_init 216 (.putfield 86) 3 219 := ⟨by decide +kernel, rfl⟩
theorem iX8_init_219 : zLa mX8_init 219 0 220 := Or.inl ⟨0, by decide +kernel, rfl, rfl⟩
theorem iX8_init_220 : zPi mX8_init 220 128 223 := Or.inr (Or.inr (Or.inl ⟨128, by decide +kernel, by decide, rfl⟩))
theorem iX8_init_223 : zIs mX8_init 223 (.newarray .int) 2 225 := ⟨by decide +kernel, rfl⟩
theorem iX8_init_225 : zIs mX8_init 225 (.putfield 89) 3 228 := ⟨by decide +kernel, rfl⟩
theorem iX8_init_228 : zLa mX8_init 228 0 229 := Or.inl ⟨0, by decide +kernel, rfl, rfl⟩
theorem iX8_init_229 : zPi mX8_init 229 8 231 := Or.inr (Or.inl ⟨8, by decide +kernel, by decide, rfl⟩)
theorem iX8_init_231 : zIs mX8_init 231 (.newarray .int) 2 233 := ⟨by decide +kernel, rfl⟩
theorem iX8_init_233 : zIs mX8_init 233 (.putfield 92) 3 236 := ⟨by decide +kernel, rfl⟩
theorem iX8_init_236 : zLa mX8_init 236 0 237 := Or.inl ⟨0, by decide +kernel, rfl, rfl⟩
theorem iX8_init_237 : zPi mX8_init 237 64 239 := Or.inr (Or.inl ⟨64, by decide +kernel, by decide, rfl⟩)
theorem iX8_init_239 : zIs mX8_init 239 (.newarray .int) 2 241 := ⟨by decide +kernel, rfl⟩
theorem iX8_init_241 : zIs mX8_init 241 (.putfield 95) 3 244 := ⟨by decide +kernel, rfl⟩
theorem iX8_init_244 : zLa mX8_init 244 0 245 := Or.inl ⟨0, by decide +kernel, rfl, rfl⟩
theorem iX8_init_245 : zPi mX8_init 245 64 247 := Or.inr (Or.inl ⟨64, by decide +kernel, by decide, rfl⟩)
theorem iX8_init_247 : zIs mX8_init 247 (.newarray .int) 2 249 := ⟨by decide +kernel, rfl⟩
theorem iX8_init_249 : zIs mX8_init 249 (.putfield 98) 3 252 := ⟨by decide +kernel, rfl⟩
theorem iX8_init_252 : zLa mX8_init 252 0 253 := Or.inl ⟨0, by decide +kernel, rfl, rfl⟩
theorem iX8_init_253 : zPi mX8_init 253 1200 256 := Or.inr (Or.inr (Or.inl ⟨1200, by decide +kernel, by decide, rfl⟩))
theorem iX8_init_256 : zIs mX8_init 256 (.newarray .int) 2 258 := ⟨by decide +kernel, rfl⟩
theorem iX8_init_258 : zIs mX8_init 258 (.putfield 101) 3 261 := ⟨by decide +kernel, rfl⟩
theorem iX8_init_261 : zLa mX8_init 261 0 262 := Or.inl ⟨0, by decide +kernel, rfl, rfl⟩
theorem iX8_init_262 : zPi mX8_init 262 400 265 := Or.inr (Or.inr (Or.inl ⟨400, by decide +kernel, by decide, rfl⟩))
theorem iX8_init_265 : zIs mX8_init 265 (.newarray .boolean) 2 267 := ⟨by decide +kernel, rfl⟩
theorem iX8_init_267 : zIs mX8_init 267 (.putfield 104) 3 270 := ⟨by decide +kernel, rfl⟩
theorem iX8_init_270 : zLa mX8_init 270 0 271 := Or.inl ⟨0, by decide +kernel, rfl, rfl⟩
theorem iX8_init_271 : zPi mX8_init 271 12 273 := Or.inr (Or.inl ⟨12, by decide +kernel, by decide, rfl⟩)
theorem iX8_init_273 : zIs mX8_init 273 (.newarray .boolean) 2 275 := ⟨by decide +kernel, rfl⟩
theorem iX8_init_275 : zIs mX8_init 275 (.putfield 107) 3 278 := ⟨by decide +kernel, rfl⟩
theorem iX8_init_278 : zLa mX8_init 278 0 279 := Or.inl ⟨0, by decide +kernel, rfl, rfl⟩
theorem iX8_init_279 : zPi mX8_init 279 5 280 := Or.inl ⟨5, by decide +kernel, by decide, rfl⟩
theorem iX8_init_280 : zIs mX8_init 280 (.newarray .int) 2 282 := ⟨by decide +kernel, rfl⟩
theorem iX8_init_282 : zIs mX8_init 282 (.putfield 110) 3 285 := ⟨by decide +kernel, rfl⟩
theorem iX8_init_285 : zLa mX8_init 285 0 286 := Or.inl ⟨0, by decide +kernel, rfl, rfl⟩
theorem iX8_init_286 : zPi mX8_init 286 60 288 := Or.inr (Or.inl ⟨60, by decide +kernel, by decide, rfl⟩)
theorem iX8_init_288 : zIs mX8_init 288 (.newarray .int) 2 290 := ⟨by decide +kernel, rfl⟩
theorem iX8_init_290 : zIs mX8_init 290 (.putfield 113) 3 293 := ⟨by decide +kernel, rfl⟩
theorem iX8_init_293 : zLa mX8_init 293 0 294 := Or.inl ⟨0, by decide +kernel, rfl, rfl⟩
theorem iX8_init_294 : zPi mX8_init 294 0 295 := Or.inl ⟨0, by decide +kernel, by decide, rfl⟩
theorem iX8_init_295 : zIs mX8_init 295 (.putfield 116) 3 298 := ⟨by decide +kernel, rfl⟩
theorem iX8_init_298 : zIs mX8_init 298 (.return_) 1 299 := ⟨by decide +kernel, rfl⟩
theorem iX8_in_0 : zLi mX8_in 0 0 1 := Or.inl ⟨0, by decide +kernel, rfl, rfl⟩
theorem iX8_in_1 : zLi mX8_in 1 1 2 := Or.inl ⟨1, by decide +kernel, rfl, rfl⟩
theorem iX8_in_2 : zBr mX8_in 2 (.if_icmp .lt) 14 5 := ⟨12, by decide +kernel, by decide, rfl⟩
theorem iX8_in_5 : zLi mX8_in 5 0 6 := Or.inl ⟨0, by decide +kernel, rfl, rfl⟩
theorem iX8_in_6 : zLi mX8_in 6 2 7 := Or.inl ⟨2, by decide +kernel, rfl, rfl⟩
theorem iX8_in_7 : zBr mX8_in 7 (.if_icmp .gt) 14 10 := ⟨7, by decide +kernel, by decide, rfl⟩
theorem iX8_in_10 : zPi mX8_in 10 1 11 := Or.inl ⟨1, by decide +kernel, by decide, rfl⟩
theorem iX8_in_11 : zBr mX8_in 11 .goto 15 14 := ⟨4, by decide +kernel, by decide, rfl⟩
theorem iX8_in_14 : zPi mX8_in 14 0 15 := Or.inl ⟨0, by decide +kernel, by decide, rfl⟩
theorem iX8_in_15 : zIs mX8_in 15 (.ireturn) 1 16 := ⟨by decide +kernel, rfl⟩
theorem iX8_isClass_0 : zLi mX8_isClass 0 1 1 := Or.inl ⟨1, by decide +kernel, rfl, rfl⟩
theorem iX8_isClass_1 : zPi mX8_isClass 1 0 2 := Or.inl ⟨0, by decide +kernel, by decide, rfl⟩
theorem iX8_isClass_2 : zLa mX8_isClass 2 0 3 := Or.inl ⟨0, by decide +kernel, rfl, rfl⟩
theorem iX8_isClass_3 : zIs mX8_isClass 3 (.getfield 120) 3 6 := ⟨by decide +kernel, rfl⟩
theorem iX8_isClass_6 : zPi mX8_isClass 6 1 7 := Or.inl ⟨1, by decide +kernel, by decide, rfl⟩
theorem iX8_isClass_7 : zIs mX8_isClass 7 (.isub) 1 8 := ⟨by decide +kernel, rfl⟩
theorem iX8_isClass_8 : zIs mX8_isClass 8 (.invokestatic 123) 3 11 := ⟨by decide +kernel, rfl⟩
theorem iX8_isClass_11 : zIs mX8_isClass 11 (.ireturn) 1 12 := ⟨by decide +kernel, rfl⟩
theorem iX8_isEntry_0 : zLi mX8_isEntry 0 1 1 := Or.inl ⟨1, by decide +kernel, rfl, rfl⟩
theorem iX8_isEntry_1 : zPi mX8_isEntry 1 0 2 := Or.inl ⟨0, by decide +kernel, by decide, rfl⟩
theorem iX8_isEntry_2 : zLa mX8_isEntry 2 0 3 := Or.inl ⟨0, by decide +kernel, rfl, rfl⟩
theorem iX8_isEntry_3 : zIs mX8_isEntry 3 (.getfield 127) 3 6 := ⟨by decide +kernel, rfl⟩
theorem iX8_isEntry_6 : zPi mX8_isEntry 6 1 7 := Or.inl ⟨1, by decide +kernel, by decide, rfl⟩
theorem iX8_isEntry_7 : zIs mX8_isEntry 7 (.isub) 1 8 := ⟨by decide +kernel, rfl⟩
theorem iX8_isEntry_8 : zIs mX8_isEntry 8 (.invokestatic 123) 3 11 := ⟨by decide +kernel, rfl⟩
theorem iX8_isEntry_11 : zIs mX8_isEntry 11 (.ireturn) 1 12 := ⟨by decide +kernel, rfl⟩
theorem iX8_isJudge_0 : zLi mX8_isJudge 0 1 1 := Or.inl ⟨1, by decide +kernel, rfl, rfl⟩
theorem iX8_isJudge_1 : zPi mX8_isJudge 1 0 2 := Or.inl ⟨0, by decide +kernel, by decide, rfl⟩
theorem iX8_isJudge_2 : zLa mX8_isJudge 2 0 3 := Or.inl ⟨0, by decide +kernel, rfl, rfl⟩
theorem iX8_isJudge_3 : zIs mX8_isJudge 3 (.getfield 130) 3 6 := ⟨by decide +kernel, rfl⟩
theorem iX8_isJudge_6 : zPi mX8_isJudge 6 1 7 := Or.inl ⟨1, by decide +kernel, by decide, rfl⟩
theorem iX8_isJudge_7 : zIs mX8_isJudge 7 (.isub) 1 8 := ⟨by decide +kernel, rfl⟩
theorem iX8_isJudge_8 : zIs mX8_isJudge 8 (.invokestatic 123) 3 11 := ⟨by decide +kernel, rfl⟩
theorem iX8_isJudge_11 : zIs mX8_isJudge 11 (.ireturn) 1 12 := ⟨by decide +kernel, rfl⟩
theorem iX8_show_0 : zLi mX8_show 0 1 1 := Or.inl ⟨1, by decide +kernel, rfl, rfl⟩
theorem iX8_show_1 : zPi mX8_show 1 0 2 := Or.inl ⟨0, by decide +kernel, by decide, rfl⟩
theorem iX8_show_2 : zPi mX8_show 2 3 3 := Or.inl ⟨3, by decide +kernel, by decide, rfl⟩
theorem iX8_show_3 : zIs mX8_show 3 (.invokestatic 123) 3 6 := ⟨by decide +kernel, rfl⟩
theorem iX8_show_6 : zBr mX8_show 6 (.ifCond .eq) 18 9 := ⟨12, by decide +kernel, by decide, rfl⟩
theorem iX8_show_9 : zLi mX8_show 9 2 10 := Or.inl ⟨2, by decide +kernel, rfl, rfl⟩
theorem iX8_show_10 : zPi mX8_show 10 1 11 := Or.inl ⟨1, by decide +kernel, by decide, rfl⟩
theorem iX8_show_11 : zPi mX8_show 11 5 12 := Or.inl ⟨5, by decide +kernel, by decide, rfl⟩
theorem iX8_show_12 : zIs mX8_show 12 (.invokestatic 123) 3 15 := ⟨by decide +kernel, rfl⟩
theorem iX8_show_15 : zBr mX8_show 15 (.ifCond .ne) 21 18 := ⟨6, by decide +kernel, by decide, rfl⟩
theorem iX8_show_18 : zPi mX8_show 18 (-102) 20 := Or.inr (Or.inl ⟨(-102), by decide +kernel, by decide, rfl⟩)
theorem iX8_show_20 : zIs mX8_show 20 (.ireturn) 1 21 := ⟨by decide +kernel, rfl⟩
theorem iX8_show_21 : zLa mX8_show 21 0 22 := Or.inl ⟨0, by decide +kernel, rfl, rfl⟩
theorem iX8_show_22 : zIs mX8_show 22 (.getfield 120) 3 25 := ⟨by decide +kernel, rfl⟩
theorem iX8_show_25 : zPi mX8_show 25 12 27 := Or.inr (Or.inl ⟨12, by decide +kernel, by decide, rfl⟩)
theorem iX8_show_27 : zBr mX8_show 27 (.if_icmp .ne) 33 30 := ⟨6, by decide +kernel, by decide, rfl⟩
theorem iX8_show_30 : zPi mX8_show 30 (-104) 32 := Or.inr (Or.inl ⟨(-104), by decide +kernel, by decide, rfl⟩)
theorem iX8_show_32 : zIs mX8_show 32 (.ireturn) 1 33 := ⟨by decide +kernel, rfl⟩
theorem iX8_show_33 : zLa mX8_show 33 0 34 := Or.inl ⟨0, by decide +kernel, rfl, rfl⟩
theorem iX8_show_34 : zIs mX8_show 34 (.getfield 7) 3 37 := ⟨by decide +kernel, rfl⟩
theorem iX8_show_37 : zLa mX8_show 37 0 38 := Or.inl ⟨0, by decide +kernel, rfl, rfl⟩
theorem iX8_show_38 : zIs mX8_show 38 (.getfield 120) 3 41 := ⟨by decide +kernel, rfl⟩
theorem iX8_show_41 : zLi mX8_show 41 1 42 := Or.inl ⟨1, by decide +kernel, rfl, rfl⟩
theorem iX8_show_42 : zIs mX8_show 42 (.iastore) 1 43 := ⟨by decide +kernel, rfl⟩
theorem iX8_show_43 : zLa mX8_show 43 0 44 := Or.inl ⟨0, by decide +kernel, rfl, rfl⟩
theorem iX8_show_44 : zIs mX8_show 44 (.getfield 13) 3 47 := ⟨by decide +kernel, rfl⟩
theorem iX8_show_47 : zLa mX8_show 47 0 48 := Or.inl ⟨0, by decide +kernel, rfl, rfl⟩
theorem iX8_show_48 : zIs mX8_show 48 (.getfield 120) 3 51 := ⟨by decide +kernel, rfl⟩
theorem iX8_show_51 : zLa mX8_show 51 0 52 := Or.inl ⟨0, by decide +kernel, rfl, rfl⟩
theorem iX8_show_52 : zIs mX8_show 52 (.getfield 130) 3 55 := ⟨by decide +kernel, rfl⟩
theorem iX8_show_55 : zIs mX8_show 55 (.iastore) 1 56 := ⟨by decide +kernel, rfl⟩
theorem iX8_show_56 : zLa mX8_show 56 0 57 := Or.inl ⟨0, by decide +kernel, rfl, rfl⟩
theorem iX8_show_57 : zIs mX8_show 57 (.getfield 16) 3 60 := ⟨by decide +kernel, rfl⟩
theorem iX8_show_60 : zLa mX8_show 60 0 61 := Or.inl ⟨0, by decide +kernel, rfl, rfl⟩
theorem iX8_show_61 : zIs mX8_show 61 (.getfield 120) 3 64 := ⟨by decide +kernel, rfl⟩
theorem iX8_show_64 : zLi mX8_show 64 2 65 := Or.inl ⟨2, by decide +kernel, rfl, rfl⟩
theorem iX8_show_65 : zIs mX8_show 65 (.iastore) 1 66 := ⟨by decide +kernel, rfl⟩
theorem iX8_show_66 : zPi mX8_show 66 0 67 := Or.inl ⟨0, by decide +kernel, by decide, rfl⟩
theorem iX8_show_67 : zSi mX8_show 67 3 68 := ⟨Or.inl ⟨3, by decide +kernel, rfl, rfl⟩, by decide⟩
theorem iX8_show_68 : zLi mX8_show 68 3 69 := Or.inl ⟨3, by decide +kernel, rfl, rfl⟩
theorem iX8_show_69 : zLi mX8_show 69 2 70 := Or.inl ⟨2, by decide +kernel, rfl, rfl⟩
theorem iX8_show_70 : zBr mX8_show 70 (.if_icmp .ge) 102 73 := ⟨32, by decide +kernel, by decide, rfl⟩
theorem iX8_show_73 : zLa mX8_show 73 0 74 := Or.inl ⟨0, by decide +kernel, rfl, rfl⟩
theorem iX8_show_74 : zIs mX8_show 74 (.getfield 29) 3 77 := ⟨by decide +kernel, rfl⟩
theorem iX8_show_77 : zLa mX8_show 77 0 78 := Or.inl ⟨0, by decide +kernel, rfl, rfl⟩
theorem iX8_show_78 : zIs mX8_show 78 (.getfield 130) 3 81 := ⟨by decide +kernel, rfl⟩
theorem iX8_show_81 : zLa mX8_show 81 0 82 := Or.inl ⟨0, by decide +kernel, rfl, rfl⟩
theorem iX8_show_82 : zIs mX8_show 82 (.getfield 120) 3 85 := ⟨by decide +kernel, rfl⟩
theorem iX8_show_85 : zIs mX8_show 85 (.iastore) 1 86 := ⟨by decide +kernel, rfl⟩
theorem iX8_show_86 : zLa mX8_show 86 0 87 := Or.inl ⟨0, by decide +kernel, rfl, rfl⟩
theorem iX8_show_87 : zIs mX8_show 87 (.dup) 1 88 := ⟨by decide +kernel, rfl⟩
theorem iX8_show_88 : zIs mX8_show 88 (.getfield 130) 3 91 := ⟨by decide +kernel, rfl⟩
theorem iX8_show_91 : zPi mX8_show 91 1 92 := Or.inl ⟨1, by decide +kernel, by decide, rfl⟩
theorem iX8_show_92 : zIs mX8_show 92 (.iadd) 1 93 := ⟨by decide +kernel, rfl⟩
theorem iX8_show_93 : zIs mX8_show 93 (.putfield 130) 3 96 := ⟨by decide +kernel, rfl⟩
theorem iX8_show_96 : zIs mX8_show 96 (.iinc 3 1) 3 99 := ⟨by decide +kernel, rfl⟩
theorem iX8_show_99 : zBr mX8_show 99 .goto 68 102 := ⟨(-31), by decide +kernel, by decide, rfl⟩
theorem iX8_show_102 : zLa mX8_show 102 0 103 := Or.inl ⟨0, by decide +kernel, rfl, rfl⟩
theorem iX8_show_103 : zIs mX8_show 103 (.dup) 1 104 := ⟨by decide +kernel, rfl⟩
theorem iX8_show_104 : zIs mX8_show 104 (.getfield 120) 3 107 := ⟨by decide +kernel, rfl⟩
theorem iX8_show_107 : zPi mX8_show 107 1 108 := Or.inl ⟨1, by decide +kernel, by decide, rfl⟩
theorem iX8_show_108 : zIs mX8_show 108 (.iadd) 1 109 := ⟨by decide +kernel, rfl⟩
theorem iX8_show_109 : zIs mX8_show 109 (.putfield 120) 3 112 := ⟨by decide +kernel, rfl⟩
theorem iX8_show_112 : zLa mX8_show 112 0 113 := Or.inl ⟨0, by decide +kernel, rfl, rfl⟩
theorem iX8_show_113 : zIs mX8_show 113 (.getfield 120) 3 116 := ⟨by decide +kernel, rfl⟩
theorem iX8_show_116 : zPi mX8_show 116 1 117 := Or.inl ⟨1, by decide +kernel, by decide, rfl⟩
theorem iX8_show_117 : zIs mX8_show 117 (.isub) 1 118 := ⟨by decide +kernel, rfl⟩
theorem iX8_show_118 : zIs mX8_show 118 (.ireturn) 1 119 := ⟨by decide +kernel, rfl⟩
theorem iX8_entry_0 : zLa mX8_entry 0 0 1 := Or.inl ⟨0, by decide +kernel, rfl, rfl⟩
theorem iX8_entry_1 : zLi mX8_entry 1 1 2 := Or.inl ⟨1, by decide +kernel, rfl, rfl⟩
theorem iX8_entry_2 : zIs mX8_entry 2 (.invokevirtual 133) 3 5 := ⟨by decide +kernel, rfl⟩
theorem iX8_entry_5 : zBr mX8_entry 5 (.ifCond .ne) 11 8 := ⟨6, by decide +kernel, by decide, rfl⟩
theorem iX8_entry_8 : zPi mX8_entry 8 (-101) 10 := Or.inr (Or.inl ⟨(-101), by decide +kernel, by decide, rfl⟩)
theorem iX8_entry_10 : zIs mX8_entry 10 (.ireturn) 1 11 := ⟨by decide +kernel, rfl⟩
theorem iX8_entry_11 : zLa mX8_entry 11 0 12 := Or.inl ⟨0, by decide +kernel, rfl, rfl⟩
theorem iX8_entry_12 : zIs mX8_entry 12 (.getfield 22) 3 15 := ⟨by decide +kernel, rfl⟩
theorem iX8_entry_15 : zLi mX8_entry 15 1 16 := Or.inl ⟨1, by decide +kernel, rfl, rfl⟩
theorem iX8_entry_16 : zIs mX8_entry 16 (.baload) 1 17 := ⟨by decide +kernel, rfl⟩
theorem iX8_entry_17 : zBr mX8_entry 17 (.ifCond .eq) 23 20 := ⟨6, by decide +kernel, by decide, rfl⟩
theorem iX8_entry_20 : zPi mX8_entry 20 (-103) 22 := Or.inr (Or.inl ⟨(-103), by decide +kernel, by decide, rfl⟩)
theorem iX8_entry_22 : zIs mX8_entry 22 (.ireturn) 1 23 := ⟨by decide +kernel, rfl⟩
theorem iX8_entry_23 : zLa mX8_entry 23 0 24 := Or.inl ⟨0, by decide +kernel, rfl, rfl⟩
theorem iX8_entry_24 : zIs mX8_entry 24 (.getfield 127) 3 27 := ⟨by decide +kernel, rfl⟩
theorem iX8_entry_27 : zPi mX8_entry 27 60 29 := Or.inr (Or.inl ⟨60, by decide +kernel, by decide, rfl⟩)
theorem iX8_entry_29 : zBr mX8_entry 29 (.if_icmp .ne) 35 32 := ⟨6, by decide +kernel, by decide, rfl⟩
theorem iX8_entry_32 : zPi mX8_entry 32 (-104) 34 := Or.inr (Or.inl ⟨(-104), by decide +kernel, by decide, rfl⟩)
theorem iX8_entry_34 : zIs mX8_entry 34 (.ireturn) 1 35 := ⟨by decide +kernel, rfl⟩
theorem iX8_entry_35 : zLa mX8_entry 35 0 36 := Or.inl ⟨0, by decide +kernel, rfl, rfl⟩
theorem iX8_entry_36 : zIs mX8_entry 36 (.getfield 32) 3 39 := ⟨by decide +kernel, rfl⟩
theorem iX8_entry_39 : zLa mX8_entry 39 0 40 := Or.inl ⟨0, by decide +kernel, rfl, rfl⟩
theorem iX8_entry_40 : zIs mX8_entry 40 (.getfield 127) 3 43 := ⟨by decide +kernel, rfl⟩
theorem iX8_entry_43 : zLi mX8_entry 43 1 44 := Or.inl ⟨1, by decide +kernel, rfl, rfl⟩
theorem iX8_entry_44 : zIs mX8_entry 44 (.iastore) 1 45 := ⟨by decide +kernel, rfl⟩
theorem iX8_entry_45 : zLa mX8_entry 45 0 46 := Or.inl ⟨0, by decide +kernel, rfl, rfl⟩
theorem iX8_entry_46 : zIs mX8_entry 46 (.getfield 19) 3 49 := ⟨by decide +kernel, rfl⟩
theorem iX8_entry_49 : zLi mX8_entry 49 1 50 := Or.inl ⟨1, by decide +kernel, rfl, rfl⟩
theorem iX8_entry_50 : zIs mX8_entry 50 (.dup2) 1 51 := ⟨by decide +kernel, rfl⟩
theorem iX8_entry_51 : zIs mX8_entry 51 (.iaload) 1 52 := ⟨by decide +kernel, rfl⟩
theorem iX8_entry_52 : zPi mX8_entry 52 1 53 := Or.inl ⟨1, by decide +kernel, by decide, rfl⟩
theorem iX8_entry_53 : zIs mX8_entry 53 (.iadd) 1 54 := ⟨by decide +kernel, rfl⟩
theorem iX8_entry_54 : zIs mX8_entry 54 (.iastore) 1 55 := ⟨by decide +kernel, rfl⟩
theorem iX8_entry_55 : zLa mX8_entry 55 0 56 := Or.inl ⟨0, by decide +kernel, rfl, rfl⟩
theorem iX8_entry_56 : zIs mX8_entry 56 (.dup) 1 57 := ⟨by decide +kernel, rfl⟩
theorem iX8_entry_57 : zIs mX8_entry 57 (.getfield 127) 3 60 := ⟨by decide +kernel, rfl⟩
theorem iX8_entry_60 : zPi mX8_entry 60 1 61 := Or.inl ⟨1, by decide +kernel, by decide, rfl⟩
theorem iX8_entry_61 : zIs mX8_entry 61 (.iadd) 1 62 := ⟨by decide +kernel, rfl⟩
theorem iX8_entry_62 : zIs mX8_entry 62 (.putfield 127) 3 65 := ⟨by decide +kernel, rfl⟩
theorem iX8_entry_65 : zLa mX8_entry 65 0 66 := Or.inl ⟨0, by decide +kernel, rfl, rfl⟩
theorem iX8_entry_66 : zIs mX8_entry 66 (.getfield 127) 3 69 := ⟨by decide +kernel, rfl⟩
theorem iX8_entry_69 : zPi mX8_entry 69 1 70 := Or.inl ⟨1, by decide +kernel, by decide, rfl⟩
theorem iX8_entry_70 : zIs mX8_entry 70 (.isub) 1 71 := ⟨by decide +kernel, rfl⟩
theorem iX8_entry_71 : zIs mX8_entry 71 (.ireturn) 1 72 := ⟨by decide +kernel, rfl⟩
theorem iX8_prizes_0 : zLa mX8_prizes 0 0 1 := Or.inl ⟨0, by decide +kernel, rfl, rfl⟩
theorem iX8_prizes_1 : zLi mX8_prizes 1 1 2 := Or.inl ⟨1, by decide +kernel, rfl, rfl⟩
theorem iX8_prizes_2 : zIs mX8_prizes 2 (.invokevirtual 133) 3 5 := ⟨by decide +kernel, rfl⟩
theorem iX8_prizes_5 : zBr mX8_prizes 5 (.ifCond .ne) 11 8 := ⟨6, by decide +kernel, by decide, rfl⟩
theorem iX8_prizes_8 : zPi mX8_prizes 8 (-101) 10 := Or.inr (Or.inl ⟨(-101), by decide +kernel, by decide, rfl⟩)
theorem iX8_prizes_10 : zIs mX8_prizes 10 (.ireturn) 1 11 := ⟨by decide +kernel, rfl⟩
theorem iX8_prizes_11 : zLi mX8_prizes 11 2 12 := Or.inl ⟨2, by decide +kernel, rfl, rfl⟩
theorem iX8_prizes_12 : zPi mX8_prizes 12 0 13 := Or.inl ⟨0, by decide +kernel, by decide, rfl⟩
theorem iX8_prizes_13 : zPi mX8_prizes 13 1000000 15 := Or.inr (Or.inr (Or.inr (Or.inl ⟨137, by decide +kernel, zT_mem 927 (by decide +kernel) rfl, rfl⟩)))
theorem iX8_prizes_15 : zIs mX8_prizes 15 (.invokestatic 123) 3 18 := ⟨by decide +kernel, rfl⟩
theorem iX8_prizes_18 : zBr mX8_prizes 18 (.ifCond .eq) 42 21 := ⟨24, by decide +kernel, by decide, rfl⟩
theorem iX8_prizes_21 : zLi mX8_prizes 21 3 22 := Or.inl ⟨3, by decide +kernel, rfl, rfl⟩
theorem iX8_prizes_22 : zPi mX8_prizes 22 0 23 := Or.inl ⟨0, by decide +kernel, by decide, rfl⟩
theorem iX8_prizes_23 : zPi mX8_prizes 23 1000000 25 := Or.inr (Or.inr (Or.inr (Or.inl ⟨137, by decide +kernel, zT_mem 927 (by decide +kernel) rfl, rfl⟩)))
theorem iX8_prizes_25 : zIs mX8_prizes 25 (.invokestatic 123) 3 28 := ⟨by decide +kernel, rfl⟩
theorem iX8_prizes_28 : zBr mX8_prizes 28 (.ifCond .eq) 42 31 := ⟨14, by decide +kernel, by decide, rfl⟩
theorem iX8_prizes_31 : zLi mX8_prizes 31 4 33 := Or.inr ⟨by decide +kernel, rfl⟩
theorem iX8_prizes_33 : zPi mX8_prizes 33 0 34 := Or.inl ⟨0, by decide +kernel, by decide, rfl⟩
theorem iX8_prizes_34 : zPi mX8_prizes 34 1000000 36 := Or.inr (Or.inr (Or.inr (Or.inl ⟨137, by decide +kernel, zT_mem 927 (by decide +kernel) rfl, rfl⟩)))
theorem iX8_prizes_36 : zIs mX8_prizes 36 (.invokestatic 123) 3 39 := ⟨by decide +kernel, rfl⟩
theorem iX8_prizes_39 : zBr mX8_prizes 39 (.ifCond .ne) 45 42 := ⟨6, by decide +kernel, by decide, rfl⟩
theorem iX8_prizes_42 : zPi mX8_prizes 42 (-102) 44 := Or.inr (Or.inl ⟨(-102), by decide +kernel, by decide, rfl⟩)
theorem iX8_prizes_44 : zIs mX8_prizes 44 (.ireturn) 1 45 := ⟨by decide +kernel, rfl⟩
theorem iX8_prizes_45 : zLa mX8_prizes 45 0 46 := Or.inl ⟨0, by decide +kernel, rfl, rfl⟩
theorem iX8_prizes_46 : zIs mX8_prizes 46 (.getfield 22) 3 49 := ⟨by decide +kernel, rfl⟩
theorem iX8_prizes_49 : zLi mX8_prizes 49 1 50 := Or.inl ⟨1, by decide +kernel, rfl, rfl⟩
theorem iX8_prizes_50 : zIs mX8_prizes 50 (.baload) 1 51 := ⟨by decide +kernel, rfl⟩
theorem iX8_prizes_51 : zBr mX8_prizes 51 (.ifCond .eq) 57 54 := ⟨6, by decide +kernel, by decide, rfl⟩
theorem iX8_prizes_54 : zPi mX8_prizes 54 (-103) 56 := Or.inr (Or.inl ⟨(-103), by decide +kernel, by decide, rfl⟩)
theorem iX8_prizes_56 : zIs mX8_prizes 56 (.ireturn) 1 57 := ⟨by decide +kernel, rfl⟩
theorem iX8_prizes_57 : zLa mX8_prizes 57 0 58 := Or.inl ⟨0, by decide +kernel, rfl, rfl⟩
theorem iX8_prizes_58 : zIs mX8_prizes 58 (.getfield 26) 3 61 := ⟨by decide +kernel, rfl⟩
theorem iX8_prizes_61 : zPi mX8_prizes 61 3 62 := Or.inl ⟨3, by decide +kernel, by decide, rfl⟩
theorem iX8_prizes_62 : zLi mX8_prizes 62 1 63 := Or.inl ⟨1, by decide +kernel, rfl, rfl⟩
theorem iX8_prizes_63 : zIs mX8_prizes 63 (.imul) 1 64 := ⟨by decide +kernel, rfl⟩
theorem iX8_prizes_64 : zLi mX8_prizes 64 2 65 := Or.inl ⟨2, by decide +kernel, rfl, rfl⟩
theorem iX8_prizes_65 : zIs mX8_prizes 65 (.iastore) 1 66 := ⟨by decide +kernel, rfl⟩
theorem iX8_prizes_66 : zLa mX8_prizes 66 0 67 := Or.inl ⟨0, by decide +kernel, rfl, rfl⟩
theorem iX8_prizes_67 : zIs mX8_prizes 67 (.getfield 26) 3 70 := ⟨by decide +kernel, rfl⟩
theorem iX8_prizes_70 : zPi mX8_prizes 70 3 71 := Or.inl ⟨3, by decide +kernel, by decide, rfl⟩
theorem iX8_prizes_71 : zLi mX8_prizes 71 1 72 := Or.inl ⟨1, by decide +kernel, rfl, rfl⟩
theorem iX8_prizes_72 : zIs mX8_prizes 72 (.imul) 1 73 := ⟨by decide +kernel, rfl⟩
theorem iX8_prizes_73 : zPi mX8_prizes 73 1 74 := Or.inl ⟨1, by decide +kernel, by decide, rfl⟩
theorem iX8_prizes_74 : zIs mX8_prizes 74 (.iadd) 1 75 := ⟨by decide +kernel, rfl⟩
theorem iX8_prizes_75 : zLi mX8_prizes 75 3 76 := Or.inl ⟨3, by decide +kernel, rfl, rfl⟩
theorem iX8_prizes_76 : zIs mX8_prizes 76 (.iastore) 1 77 := ⟨by decide +kernel, rfl⟩
theorem iX8_prizes_77 : zLa mX8_prizes 77 0 78 := Or.inl ⟨0, by decide +kernel, rfl, rfl⟩
theorem iX8_prizes_78 : zIs mX8_prizes 78 (.getfield 26) 3 81 := ⟨by decide +kernel, rfl⟩
theorem iX8_prizes_81 : zPi mX8_prizes 81 3 82 := Or.inl ⟨3, by decide +kernel, by decide, rfl⟩
theorem iX8_prizes_82 : zLi mX8_prizes 82 1 83 := Or.inl ⟨1, by decide +kernel, rfl, rfl⟩
theorem iX8_prizes_83 : zIs mX8_prizes 83 (.imul) 1 84 := ⟨by decide +kernel, rfl⟩
theorem iX8_prizes_84 : zPi mX8_prizes 84 2 85 := Or.inl ⟨2, by decide +kernel, by decide, rfl⟩
theorem iX8_prizes_85 : zIs mX8_prizes 85 (.iadd) 1 86 := ⟨by decide +kernel, rfl⟩
theorem iX8_prizes_86 : zLi mX8_prizes 86 4 88 := Or.inr ⟨by decide +kernel, rfl⟩
theorem iX8_prizes_88 : zIs mX8_prizes 88 (.iastore) 1 89 := ⟨by decide +kernel, rfl⟩
theorem iX8_prizes_89 : zPi mX8_prizes 89 0 90 := Or.inl ⟨0, by decide +kernel, by decide, rfl⟩
theorem iX8_prizes_90 : zIs mX8_prizes 90 (.ireturn) 1 91 := ⟨by decide +kernel, rfl⟩
theorem iX8_rule_0 : zLi mX8_rule 0 2 1 := Or.inl ⟨2, by decide +kernel, rfl, rfl⟩
theorem iX8_rule_1 : zPi mX8_rule 1 2 2 := Or.inl ⟨2, by decide +kernel, by decide, rfl⟩
theorem iX8_rule_2 : zBr mX8_rule 2 (.if_icmp .eq) 33 5 := ⟨31, by decide +kernel, by decide, rfl⟩
theorem iX8_rule_5 : zLi mX8_rule 5 2 6 := Or.inl ⟨2, by decide +kernel, rfl, rfl⟩
theorem iX8_rule_6 : zPi mX8_rule 6 3 7 := Or.inl ⟨3, by decide +kernel, by decide, rfl⟩
theorem iX8_rule_7 : zBr mX8_rule 7 (.if_icmp .eq) 33 10 := ⟨26, by decide +kernel, by decide, rfl⟩
theorem iX8_rule_10 : zLi mX8_rule 10 2 11 := Or.inl ⟨2, by decide +kernel, rfl, rfl⟩
theorem iX8_rule_11 : zPi mX8_rule 11 5 12 := Or.inl ⟨5, by decide +kernel, by decide, rfl⟩
theorem iX8_rule_12 : zBr mX8_rule 12 (.if_icmp .eq) 33 15 := ⟨21, by decide +kernel, by decide, rfl⟩
theorem iX8_rule_15 : zLi mX8_rule 15 2 16 := Or.inl ⟨2, by decide +kernel, rfl, rfl⟩
theorem iX8_rule_16 : zPi mX8_rule 16 6 18 := Or.inr (Or.inl ⟨6, by decide +kernel, by decide, rfl⟩)
theorem iX8_rule_18 : zBr mX8_rule 18 (.if_icmp .eq) 33 21 := ⟨15, by decide +kernel, by decide, rfl⟩
theorem iX8_rule_21 : zLi mX8_rule 21 2 22 := Or.inl ⟨2, by decide +kernel, rfl, rfl⟩
theorem iX8_rule_22 : zPi mX8_rule 22 8 24 := Or.inr (Or.inl ⟨8, by decide +kernel, by decide, rfl⟩)
theorem iX8_rule_24 : zBr mX8_rule 24 (.if_icmp .eq) 33 27 := ⟨9, by decide +kernel, by decide, rfl⟩
theorem iX8_rule_27 : zLi mX8_rule 27 2 28 := Or.inl ⟨2, by decide +kernel, rfl, rfl⟩
theorem iX8_rule_28 : zPi mX8_rule 28 10 30 := Or.inr (Or.inl ⟨10, by decide +kernel, by decide, rfl⟩)
theorem iX8_rule_30 : zBr mX8_rule 30 (.if_icmp .ne) 37 33 := ⟨7, by decide +kernel, by decide, rfl⟩
theorem iX8_rule_33 : zPi mX8_rule 33 1 34 := Or.inl ⟨1, by decide +kernel, by decide, rfl⟩
theorem iX8_rule_34 : zBr mX8_rule 34 .goto 38 37 := ⟨4, by decide +kernel, by decide, rfl⟩
theorem iX8_rule_37 : zPi mX8_rule 37 0 38 := Or.inl ⟨0, by decide +kernel, by decide, rfl⟩
theorem iX8_rule_38 : zSi mX8_rule 38 4 40 := ⟨Or.inr ⟨by decide +kernel, rfl⟩, by decide⟩
theorem iX8_rule_40 : zLi mX8_rule 40 1 41 := Or.inl ⟨1, by decide +kernel, rfl, rfl⟩
theorem iX8_rule_41 : zPi mX8_rule 41 0 42 := Or.inl ⟨0, by decide +kernel, by decide, rfl⟩
theorem iX8_rule_42 : zPi mX8_rule 42 3 43 := Or.inl ⟨3, by decide +kernel, by decide, rfl⟩
theorem iX8_rule_43 : zIs mX8_rule 43 (.invokestatic 123) 3 46 := ⟨by decide +kernel, rfl⟩
theorem iX8_rule_46 : zBr mX8_rule 46 (.ifCond .eq) 54 49 := ⟨8, by decide +kernel, by decide, rfl⟩
theorem iX8_rule_49 : zLi mX8_rule 49 4 51 := Or.inr ⟨by decide +kernel, rfl⟩
theorem iX8_rule_51 : zBr mX8_rule 51 (.ifCond .ne) 57 54 := ⟨6, by decide +kernel, by decide, rfl⟩
theorem iX8_rule_54 : zPi mX8_rule 54 (-102) 56 := Or.inr (Or.inl ⟨(-102), by decide +kernel, by decide, rfl⟩)
theorem iX8_rule_56 : zIs mX8_rule 56 (.ireturn) 1 57 := ⟨by decide +kernel, rfl⟩
theorem iX8_rule_57 : zLa mX8_rule 57 0 58 := Or.inl ⟨0, by decide +kernel, rfl, rfl⟩
theorem iX8_rule_58 : zIs mX8_rule 58 (.getfield 138) 3 61 := ⟨by decide +kernel, rfl⟩
theorem iX8_rule_61 : zPi mX8_rule 61 24 63 := Or.inr (Or.inl ⟨24, by decide +kernel, by decide, rfl⟩)
theorem iX8_rule_63 : zBr mX8_rule 63 (.if_icmp .ne) 69 66 := ⟨6, by decide +kernel, by decide, rfl⟩
theorem iX8_rule_66 : zPi mX8_rule 66 (-104) 68 := Or.inr (Or.inl ⟨(-104), by decide +kernel, by decide, rfl⟩)
theorem iX8_rule_68 : zIs mX8_rule 68 (.ireturn) 1 69 := ⟨by decide +kernel, rfl⟩
theorem iX8_rule_69 : zLa mX8_rule 69 0 70 := Or.inl ⟨0, by decide +kernel, rfl, rfl⟩
theorem iX8_rule_70 : zIs mX8_rule 70 (.getfield 35) 3 73 := ⟨by decide +kernel, rfl⟩
theorem iX8_rule_73 : zLa mX8_rule 73 0 74 := Or.inl ⟨0, by decide +kernel, rfl, rfl⟩
theorem iX8_rule_74 : zIs mX8_rule 74 (.getfield 138) 3 77 := ⟨by decide +kernel, rfl⟩
theorem iX8_rule_77 : zLi mX8_rule 77 1 78 := Or.inl ⟨1, by decide +kernel, rfl, rfl⟩
theorem iX8_rule_78 : zIs mX8_rule 78 (.iastore) 1 79 := ⟨by decide +kernel, rfl⟩
theorem iX8_rule_79 : zLa mX8_rule 79 0 80 := Or.inl ⟨0, by decide +kernel, rfl, rfl⟩
theorem iX8_rule_80 : zIs mX8_rule 80 (.getfield 38) 3 83 := ⟨by decide +kernel, rfl⟩
theorem iX8_rule_83 : zLa mX8_rule 83 0 84 := Or.inl ⟨0, by decide +kernel, rfl, rfl⟩
theorem iX8_rule_84 : zIs mX8_rule 84 (.getfield 138) 3 87 := ⟨by decide +kernel, rfl⟩
theorem iX8_rule_87 : zLi mX8_rule 87 2 88 := Or.inl ⟨2, by decide +kernel, rfl, rfl⟩
theorem iX8_rule_88 : zIs mX8_rule 88 (.iastore) 1 89 := ⟨by decide +kernel, rfl⟩
theorem iX8_rule_89 : zLa mX8_rule 89 0 90 := Or.inl ⟨0, by decide +kernel, rfl, rfl⟩
theorem iX8_rule_90 : zIs mX8_rule 90 (.getfield 41) 3 93 := ⟨by decide +kernel, rfl⟩
theorem iX8_rule_93 : zLa mX8_rule 93 0 94 := Or.inl ⟨0, by decide +kernel, rfl, rfl⟩
theorem iX8_rule_94 : zIs mX8_rule 94 (.getfield 138) 3 97 := ⟨by decide +kernel, rfl⟩
theorem iX8_rule_97 : zLi mX8_rule 97 3 98 := Or.inl ⟨3, by decide +kernel, rfl, rfl⟩
theorem iX8_rule_98 : zIs mX8_rule 98 (.iastore) 1 99 := ⟨by decide +kernel, rfl⟩
theorem iX8_rule_99 : zLa mX8_rule 99 0 100 := Or.inl ⟨0, by decide +kernel, rfl, rfl⟩
theorem iX8_rule_100 : zIs mX8_rule 100 (.dup) 1 101 := ⟨by decide +kernel, rfl⟩
theorem iX8_rule_101 : zIs mX8_rule 101 (.getfield 138) 3 104 := ⟨by decide +kernel, rfl⟩
theorem iX8_rule_104 : zPi mX8_rule 104 1 105 := Or.inl ⟨1, by decide +kernel, by decide, rfl⟩
theorem iX8_rule_105 : zIs mX8_rule 105 (.iadd) 1 106 := ⟨by decide +kernel, rfl⟩
theorem iX8_rule_106 : zIs mX8_rule 106 (.putfield 138) 3 109 := ⟨by decide +kernel, rfl⟩
theorem iX8_rule_109 : zLa mX8_rule 109 0 110 := Or.inl ⟨0, by decide +kernel, rfl, rfl⟩
theorem iX8_rule_110 : zIs mX8_rule 110 (.getfield 138) 3 113 := ⟨by decide +kernel, rfl⟩
theorem iX8_rule_113 : zPi mX8_rule 113 1 114 := Or.inl ⟨1, by decide +kernel, by decide, rfl⟩
theorem iX8_rule_114 : zIs mX8_rule 114 (.isub) 1 115 := ⟨by decide +kernel, rfl⟩
theorem iX8_rule_115 : zIs mX8_rule 115 (.ireturn) 1 116 := ⟨by decide +kernel, rfl⟩
theorem iX8_clearRules_0 : zLa mX8_clearRules 0 0 1 := Or.inl ⟨0, by decide +kernel, rfl, rfl⟩
theorem iX8_clearRules_1 : zIs mX8_clearRules 1 (.getfield 138) 3 4 := ⟨by decide +kernel, rfl⟩
theorem iX8_clearRules_4 : zSi mX8_clearRules 4 1 5 := ⟨Or.inl ⟨1, by decide +kernel, rfl, rfl⟩, by decide⟩
theorem iX8_clearRules_5 : zLa mX8_clearRules 5 0 6 := Or.inl ⟨0, by decide +kernel, rfl, rfl⟩
theorem iX8_clearRules_6 : zPi mX8_clearRules 6 0 7 := Or.inl ⟨0, by decide +kernel, by decide, rfl⟩
theorem iX8_clearRules_7 : zIs mX8_clearRules 7 (.putfield 138) 3 10 := ⟨by decide +kernel, rfl⟩
theorem iX8_clearRules_10 : zLi mX8_clearRules 10 1 11 := Or.inl ⟨1, by decide +kernel, rfl, rfl⟩
theorem iX8_clearRules_11 : zIs mX8_clearRules 11 (.ireturn) 1 12 := ⟨by decide +kernel, rfl⟩
theorem iX8_observe_0 : zLi mX8_observe 0 1 1 := Or.inl ⟨1, by decide +kernel, rfl, rfl⟩
theorem iX8_observe_1 : zBr mX8_observe 1 (.ifCond .ge) 7 4 := ⟨6, by decide +kernel, by decide, rfl⟩
theorem iX8_observe_4 : zPi mX8_observe 4 (-102) 6 := Or.inr (Or.inl ⟨(-102), by decide +kernel, by decide, rfl⟩)
theorem iX8_observe_6 : zIs mX8_observe 6 (.ireturn) 1 7 := ⟨by decide +kernel, rfl⟩
theorem iX8_observe_7 : zLa mX8_observe 7 0 8 := Or.inl ⟨0, by decide +kernel, rfl, rfl⟩
theorem iX8_observe_8 : zIs mX8_observe 8 (.getfield 141) 3 11 := ⟨by decide +kernel, rfl⟩
theorem iX8_observe_11 : zPi mX8_observe 11 6 13 := Or.inr (Or.inl ⟨6, by decide +kernel, by decide, rfl⟩)
theorem iX8_observe_13 : zBr mX8_observe 13 (.if_icmp .ne) 19 16 := ⟨6, by decide +kernel, by decide, rfl⟩
theorem iX8_observe_16 : zPi mX8_observe 16 (-104) 18 := Or.inr (Or.inl ⟨(-104), by decide +kernel, by decide, rfl⟩)
theorem iX8_observe_18 : zIs mX8_observe 18 (.ireturn) 1 19 := ⟨by decide +kernel, rfl⟩
theorem iX8_observe_19 : zLa mX8_observe 19 0 20 := Or.inl ⟨0, by decide +kernel, rfl, rfl⟩
theorem iX8_observe_20 : zIs mX8_observe 20 (.getfield 44) 3 23 := ⟨by decide +kernel, rfl⟩
theorem iX8_observe_23 : zLa mX8_observe 23 0 24 := Or.inl ⟨0, by decide +kernel, rfl, rfl⟩
theorem iX8_observe_24 : zIs mX8_observe 24 (.getfield 141) 3 27 := ⟨by decide +kernel, rfl⟩
theorem iX8_observe_27 : zLi mX8_observe 27 1 28 := Or.inl ⟨1, by decide +kernel, rfl, rfl⟩
theorem iX8_observe_28 : zIs mX8_observe 28 (.iastore) 1 29 := ⟨by decide +kernel, rfl⟩
theorem iX8_observe_29 : zLa mX8_observe 29 0 30 := Or.inl ⟨0, by decide +kernel, rfl, rfl⟩
theorem iX8_observe_30 : zIs mX8_observe 30 (.getfield 47) 3 33 := ⟨by decide +kernel, rfl⟩
theorem iX8_observe_33 : zLa mX8_observe 33 0 34 := Or.inl ⟨0, by decide +kernel, rfl, rfl⟩
theorem iX8_observe_34 : zIs mX8_observe 34 (.getfield 141) 3 37 := ⟨by decide +kernel, rfl⟩
theorem iX8_observe_37 : zPi mX8_observe 37 0 38 := Or.inl ⟨0, by decide +kernel, by decide, rfl⟩
theorem iX8_observe_38 : zIs mX8_observe 38 (.iastore) 1 39 := ⟨by decide +kernel, rfl⟩
theorem iX8_observe_39 : zLa mX8_observe 39 0 40 := Or.inl ⟨0, by decide +kernel, rfl, rfl⟩
theorem iX8_observe_40 : zIs mX8_observe 40 (.dup) 1 41 := ⟨by decide +kernel, rfl⟩
theorem iX8_observe_41 : zIs mX8_observe 41 (.getfield 141) 3 44 := ⟨by decide +kernel, rfl⟩
theorem iX8_observe_44 : zPi mX8_observe 44 1 45 := Or.inl ⟨1, by decide +kernel, by decide, rfl⟩
theorem iX8_observe_45 : zIs mX8_observe 45 (.iadd) 1 46 := ⟨by decide +kernel, rfl⟩
theorem iX8_observe_46 : zIs mX8_observe 46 (.putfield 141) 3 49 := ⟨by decide +kernel, rfl⟩
theorem iX8_observe_49 : zLa mX8_observe 49 0 50 := Or.inl ⟨0, by decide +kernel, rfl, rfl⟩
theorem iX8_observe_50 : zIs mX8_observe 50 (.getfield 141) 3 53 := ⟨by decide +kernel, rfl⟩
theorem iX8_observe_53 : zPi mX8_observe 53 1 54 := Or.inl ⟨1, by decide +kernel, by decide, rfl⟩
theorem iX8_observe_54 : zIs mX8_observe 54 (.isub) 1 55 := ⟨by decide +kernel, rfl⟩
theorem iX8_observe_55 : zIs mX8_observe 55 (.ireturn) 1 56 := ⟨by decide +kernel, rfl⟩
theorem iX8_counted_0 : zLa mX8_counted 0 0 1 := Or.inl ⟨0, by decide +kernel, rfl, rfl⟩
theorem iX8_counted_1 : zIs mX8_counted 1 (.getfield 56) 3 4 := ⟨by decide +kernel, rfl⟩
theorem iX8_counted_4 : zLi mX8_counted 4 1 5 := Or.inl ⟨1, by decide +kernel, rfl, rfl⟩
theorem iX8_counted_5 : zIs mX8_counted 5 (.iaload) 1 6 := ⟨by decide +kernel, rfl⟩
theorem iX8_counted_6 : zSi mX8_counted 6 2 7 := ⟨Or.inl ⟨2, by decide +kernel, rfl, rfl⟩, by decide⟩
theorem iX8_counted_7 : zLa mX8_counted 7 0 8 := Or.inl ⟨0, by decide +kernel, rfl, rfl⟩
theorem iX8_counted_8 : zIs mX8_counted 8 (.getfield 50) 3 11 := ⟨by decide +kernel, rfl⟩
theorem iX8_counted_11 : zLi mX8_counted 11 1 12 := Or.inl ⟨1, by decide +kernel, rfl, rfl⟩
theorem iX8_counted_12 : zIs mX8_counted 12 (.iaload) 1 13 := ⟨by decide +kernel, rfl⟩
theorem iX8_counted_13 : zBr mX8_counted 13 (.ifCond .ne) 55 16 := ⟨42, by decide +kernel, by decide, rfl⟩
theorem iX8_counted_16 : zLa mX8_counted 16 0 17 := Or.inl ⟨0, by decide +kernel, rfl, rfl⟩
theorem iX8_counted_17 : zIs mX8_counted 17 (.getfield 65) 3 20 := ⟨by decide +kernel, rfl⟩
theorem iX8_counted_20 : zPi mX8_counted 20 5 21 := Or.inl ⟨5, by decide +kernel, by decide, rfl⟩
theorem iX8_counted_21 : zLi mX8_counted 21 2 22 := Or.inl ⟨2, by decide +kernel, rfl, rfl⟩
theorem iX8_counted_22 : zIs mX8_counted 22 (.imul) 1 23 := ⟨by decide +kernel, rfl⟩
theorem iX8_counted_23 : zLa mX8_counted 23 0 24 := Or.inl ⟨0, by decide +kernel, rfl, rfl⟩
theorem iX8_counted_24 : zIs mX8_counted 24 (.getfield 53) 3 27 := ⟨by decide +kernel, rfl⟩
theorem iX8_counted_27 : zLi mX8_counted 27 1 28 := Or.inl ⟨1, by decide +kernel, rfl, rfl⟩
theorem iX8_counted_28 : zIs mX8_counted 28 (.iaload) 1 29 := ⟨by decide +kernel, rfl⟩
theorem iX8_counted_29 : zIs mX8_counted 29 (.iadd) 1 30 := ⟨by decide +kernel, rfl⟩
theorem iX8_counted_30 : zLa mX8_counted 30 0 31 := Or.inl ⟨0, by decide +kernel, rfl, rfl⟩
theorem iX8_counted_31 : zIs mX8_counted 31 (.getfield 13) 3 34 := ⟨by decide +kernel, rfl⟩
theorem iX8_counted_34 : zLa mX8_counted 34 0 35 := Or.inl ⟨0, by decide +kernel, rfl, rfl⟩
theorem iX8_counted_35 : zIs mX8_counted 35 (.getfield 32) 3 38 := ⟨by decide +kernel, rfl⟩
theorem iX8_counted_38 : zLi mX8_counted 38 2 39 := Or.inl ⟨2, by decide +kernel, rfl, rfl⟩
theorem iX8_counted_39 : zIs mX8_counted 39 (.iaload) 1 40 := ⟨by decide +kernel, rfl⟩
theorem iX8_counted_40 : zIs mX8_counted 40 (.iaload) 1 41 := ⟨by decide +kernel, rfl⟩
theorem iX8_counted_41 : zIs mX8_counted 41 (.isub) 1 42 := ⟨by decide +kernel, rfl⟩
theorem iX8_counted_42 : zIs mX8_counted 42 (.dup2) 1 43 := ⟨by decide +kernel, rfl⟩
theorem iX8_counted_43 : zIs mX8_counted 43 (.iaload) 1 44 := ⟨by decide +kernel, rfl⟩
theorem iX8_counted_44 : zLa mX8_counted 44 0 45 := Or.inl ⟨0, by decide +kernel, rfl, rfl⟩
theorem iX8_counted_45 : zIs mX8_counted 45 (.getfield 59) 3 48 := ⟨by decide +kernel, rfl⟩
theorem iX8_counted_48 : zLi mX8_counted 48 1 49 := Or.inl ⟨1, by decide +kernel, rfl, rfl⟩
theorem iX8_counted_49 : zIs mX8_counted 49 (.iaload) 1 50 := ⟨by decide +kernel, rfl⟩
theorem iX8_counted_50 : zIs mX8_counted 50 (.iadd) 1 51 := ⟨by decide +kernel, rfl⟩
theorem iX8_counted_51 : zIs mX8_counted 51 (.iastore) 1 52 := ⟨by decide +kernel, rfl⟩
theorem iX8_counted_52 : zBr mX8_counted 52 .goto 100 55 := ⟨48, by decide +kernel, by decide, rfl⟩
theorem iX8_counted_55 : zLa mX8_counted 55 0 56 := Or.inl ⟨0, by decide +kernel, rfl, rfl⟩
theorem iX8_counted_56 : zIs mX8_counted 56 (.getfield 50) 3 59 := ⟨by decide +kernel, rfl⟩
theorem iX8_counted_59 : zLi mX8_counted 59 1 60 := Or.inl ⟨1, by decide +kernel, rfl, rfl⟩
theorem iX8_counted_60 : zIs mX8_counted 60 (.iaload) 1 61 := ⟨by decide +kernel, rfl⟩
theorem iX8_counted_61 : zPi mX8_counted 61 1 62 := Or.inl ⟨1, by decide +kernel, by decide, rfl⟩
theorem iX8_counted_62 : zBr mX8_counted 62 (.if_icmp .ne) 83 65 := ⟨21, by decide +kernel, by decide, rfl⟩
theorem iX8_counted_65 : zLa mX8_counted 65 0 66 := Or.inl ⟨0, by decide +kernel, rfl, rfl⟩
theorem iX8_counted_66 : zIs mX8_counted 66 (.getfield 68) 3 69 := ⟨by decide +kernel, rfl⟩
theorem iX8_counted_69 : zLi mX8_counted 69 2 70 := Or.inl ⟨2, by decide +kernel, rfl, rfl⟩
theorem iX8_counted_70 : zIs mX8_counted 70 (.dup2) 1 71 := ⟨by decide +kernel, rfl⟩
theorem iX8_counted_71 : zIs mX8_counted 71 (.iaload) 1 72 := ⟨by decide +kernel, rfl⟩
theorem iX8_counted_72 : zLa mX8_counted 72 0 73 := Or.inl ⟨0, by decide +kernel, rfl, rfl⟩
theorem iX8_counted_73 : zIs mX8_counted 73 (.getfield 59) 3 76 := ⟨by decide +kernel, rfl⟩
theorem iX8_counted_76 : zLi mX8_counted 76 1 77 := Or.inl ⟨1, by decide +kernel, rfl, rfl⟩
theorem iX8_counted_77 : zIs mX8_counted 77 (.iaload) 1 78 := ⟨by decide +kernel, rfl⟩
theorem iX8_counted_78 : zIs mX8_counted 78 (.iadd) 1 79 := ⟨by decide +kernel, rfl⟩
theorem iX8_counted_79 : zIs mX8_counted 79 (.iastore) 1 80 := ⟨by decide +kernel, rfl⟩
theorem iX8_counted_80 : zBr mX8_counted 80 .goto 100 83 := ⟨20, by decide +kernel, by decide, rfl⟩
theorem iX8_counted_83 : zLa mX8_counted 83 0 84 := Or.inl ⟨0, by decide +kernel, rfl, rfl⟩
theorem iX8_counted_84 : zIs mX8_counted 84 (.getfield 71) 3 87 := ⟨by decide +kernel, rfl⟩
theorem iX8_counted_87 : zLi mX8_counted 87 2 88 := Or.inl ⟨2, by decide +kernel, rfl, rfl⟩
theorem iX8_counted_88 : zIs mX8_counted 88 (.dup2) 1 89 := ⟨by decide +kernel, rfl⟩
theorem iX8_counted_89 : zIs mX8_counted 89 (.iaload) 1 90 := ⟨by decide +kernel, rfl⟩
theorem iX8_counted_90 : zPi mX8_counted 90 1 91 := Or.inl ⟨1, by decide +kernel, by decide, rfl⟩
theorem iX8_counted_91 : zLa mX8_counted 91 0 92 := Or.inl ⟨0, by decide +kernel, rfl, rfl⟩
theorem iX8_counted_92 : zIs mX8_counted 92 (.getfield 59) 3 95 := ⟨by decide +kernel, rfl⟩
theorem iX8_counted_95 : zLi mX8_counted 95 1 96 := Or.inl ⟨1, by decide +kernel, rfl, rfl⟩
theorem iX8_counted_96 : zIs mX8_counted 96 (.iaload) 1 97 := ⟨by decide +kernel, rfl⟩
theorem iX8_counted_97 : zIs mX8_counted 97 (.ishl) 1 98 := ⟨by decide +kernel, rfl⟩
theorem iX8_counted_98 : zIs mX8_counted 98 (.ior) 1 99 := ⟨by decide +kernel, rfl⟩
theorem iX8_counted_99 : zIs mX8_counted 99 (.iastore) 1 100 := ⟨by decide +kernel, rfl⟩
theorem iX8_counted_100 : zIs mX8_counted 100 (.return_) 1 101 := ⟨by decide +kernel, rfl⟩
theorem iX8_goBack_0 : zLa mX8_goBack 0 0 1 := Or.inl ⟨0, by decide +kernel, rfl, rfl⟩
theorem iX8_goBack_1 : zLi mX8_goBack 1 1 2 := Or.inl ⟨1, by decide +kernel, rfl, rfl⟩
theorem iX8_goBack_2 : zIs mX8_goBack 2 (.putfield 144) 3 5 := ⟨by decide +kernel, rfl⟩
theorem iX8_goBack_5 : zPi mX8_goBack 5 0 6 := Or.inl ⟨0, by decide +kernel, by decide, rfl⟩
theorem iX8_goBack_6 : zSi mX8_goBack 6 2 7 := ⟨Or.inl ⟨2, by decide +kernel, rfl, rfl⟩, by decide⟩
theorem iX8_goBack_7 : zLi mX8_goBack 7 2 8 := Or.inl ⟨2, by decide +kernel, rfl, rfl⟩
theorem iX8_goBack_8 : zPi mX8_goBack 8 300 11 := Or.inr (Or.inr (Or.inl ⟨300, by decide +kernel, by decide, rfl⟩))
theorem iX8_goBack_11 : zBr mX8_goBack 11 (.if_icmp .ge) 27 14 := ⟨16, by decide +kernel, by decide, rfl⟩
theorem iX8_goBack_14 : zLa mX8_goBack 14 0 15 := Or.inl ⟨0, by decide +kernel, rfl, rfl⟩
theorem iX8_goBack_15 : zIs mX8_goBack 15 (.getfield 65) 3 18 := ⟨by decide +kernel, rfl⟩
theorem iX8_goBack_18 : zLi mX8_goBack 18 2 19 := Or.inl ⟨2, by decide +kernel, rfl, rfl⟩
theorem iX8_goBack_19 : zPi mX8_goBack 19 0 20 := Or.inl ⟨0, by decide +kernel, by decide, rfl⟩
theorem iX8_goBack_20 : zIs mX8_goBack 20 (.iastore) 1 21 := ⟨by decide +kernel, rfl⟩
theorem iX8_goBack_21 : zIs mX8_goBack 21 (.iinc 2 1) 3 24 := ⟨by decide +kernel, rfl⟩
theorem iX8_goBack_24 : zBr mX8_goBack 24 .goto 7 27 := ⟨(-17), by decide +kernel, by decide, rfl⟩
theorem iX8_goBack_27 : zPi mX8_goBack 27 0 28 := Or.inl ⟨0, by decide +kernel, by decide, rfl⟩
theorem iX8_goBack_28 : zSi mX8_goBack 28 2 29 := ⟨Or.inl ⟨2, by decide +kernel, rfl, rfl⟩, by decide⟩
theorem iX8_goBack_29 : zLi mX8_goBack 29 2 30 := Or.inl ⟨2, by decide +kernel, rfl, rfl⟩
theorem iX8_goBack_30 : zPi mX8_goBack 30 60 32 := Or.inr (Or.inl ⟨60, by decide +kernel, by decide, rfl⟩)
theorem iX8_goBack_32 : zBr mX8_goBack 32 (.if_icmp .ge) 55 35 := ⟨23, by decide +kernel, by decide, rfl⟩
theorem iX8_goBack_35 : zLa mX8_goBack 35 0 36 := Or.inl ⟨0, by decide +kernel, rfl, rfl⟩
theorem iX8_goBack_36 : zIs mX8_goBack 36 (.getfield 68) 3 39 := ⟨by decide +kernel, rfl⟩
theorem iX8_goBack_39 : zLi mX8_goBack 39 2 40 := Or.inl ⟨2, by decide +kernel, rfl, rfl⟩
theorem iX8_goBack_40 : zPi mX8_goBack 40 0 41 := Or.inl ⟨0, by decide +kernel, by decide, rfl⟩
theorem iX8_goBack_41 : zIs mX8_goBack 41 (.iastore) 1 42 := ⟨by decide +kernel, rfl⟩
theorem iX8_goBack_42 : zLa mX8_goBack 42 0 43 := Or.inl ⟨0, by decide +kernel, rfl, rfl⟩
theorem iX8_goBack_43 : zIs mX8_goBack 43 (.getfield 71) 3 46 := ⟨by decide +kernel, rfl⟩
theorem iX8_goBack_46 : zLi mX8_goBack 46 2 47 := Or.inl ⟨2, by decide +kernel, rfl, rfl⟩
theorem iX8_goBack_47 : zPi mX8_goBack 47 0 48 := Or.inl ⟨0, by decide +kernel, by decide, rfl⟩
theorem iX8_goBack_48 : zIs mX8_goBack 48 (.iastore) 1 49 := ⟨by decide +kernel, rfl⟩
theorem iX8_goBack_49 : zIs mX8_goBack 49 (.iinc 2 1) 3 52 := ⟨by decide +kernel, rfl⟩
theorem iX8_goBack_52 : zBr mX8_goBack 52 .goto 29 55 := ⟨(-23), by decide +kernel, by decide, rfl⟩
theorem iX8_goBack_55 : zPi mX8_goBack 55 0 56 := Or.inl ⟨0, by decide +kernel, by decide, rfl⟩
theorem iX8_goBack_56 : zSi mX8_goBack 56 2 57 := ⟨Or.inl ⟨2, by decide +kernel, rfl, rfl⟩, by decide⟩
theorem iX8_goBack_57 : zLi mX8_goBack 57 2 58 := Or.inl ⟨2, by decide +kernel, rfl, rfl⟩
theorem iX8_goBack_58 : zLa mX8_goBack 58 0 59 := Or.inl ⟨0, by decide +kernel, rfl, rfl⟩
theorem iX8_goBack_59 : zIs mX8_goBack 59 (.getfield 144) 3 62 := ⟨by decide +kernel, rfl⟩
theorem iX8_goBack_62 : zBr mX8_goBack 62 (.if_icmp .ge) 85 65 := ⟨23, by decide +kernel, by decide, rfl⟩
theorem iX8_goBack_65 : zLa mX8_goBack 65 0 66 := Or.inl ⟨0, by decide +kernel, rfl, rfl⟩
theorem iX8_goBack_66 : zIs mX8_goBack 66 (.getfield 62) 3 69 := ⟨by decide +kernel, rfl⟩
theorem iX8_goBack_69 : zLi mX8_goBack 69 2 70 := Or.inl ⟨2, by decide +kernel, rfl, rfl⟩
theorem iX8_goBack_70 : zIs mX8_goBack 70 (.baload) 1 71 := ⟨by decide +kernel, rfl⟩
theorem iX8_goBack_71 : zBr mX8_goBack 71 (.ifCond .eq) 79 74 := ⟨8, by decide +kernel, by decide, rfl⟩
theorem iX8_goBack_74 : zLa mX8_goBack 74 0 75 := Or.inl ⟨0, by decide +kernel, rfl, rfl⟩
theorem iX8_goBack_75 : zLi mX8_goBack 75 2 76 := Or.inl ⟨2, by decide +kernel, rfl, rfl⟩
theorem iX8_goBack_76 : zIs mX8_goBack 76 (.invokevirtual 147) 3 79 := ⟨by decide +kernel, rfl⟩
theorem iX8_goBack_79 : zIs mX8_goBack 79 (.iinc 2 1) 3 82 := ⟨by decide +kernel, rfl⟩
theorem iX8_goBack_82 : zBr mX8_goBack 82 .goto 57 85 := ⟨(-25), by decide +kernel, by decide, rfl⟩
theorem iX8_goBack_85 : zIs mX8_goBack 85 (.return_) 1 86 := ⟨by decide +kernel, rfl⟩
theorem iX8_comes_0 : zLa mX8_comes 0 0 1 := Or.inl ⟨0, by decide +kernel, rfl, rfl⟩
theorem iX8_comes_1 : zIs mX8_comes 1 (.getfield 50) 3 4 := ⟨by decide +kernel, rfl⟩
theorem iX8_comes_4 : zLa mX8_comes 4 0 5 := Or.inl ⟨0, by decide +kernel, rfl, rfl⟩
theorem iX8_comes_5 : zIs mX8_comes 5 (.getfield 144) 3 8 := ⟨by decide +kernel, rfl⟩
theorem iX8_comes_8 : zLi mX8_comes 8 1 9 := Or.inl ⟨1, by decide +kernel, rfl, rfl⟩
theorem iX8_comes_9 : zIs mX8_comes 9 (.iastore) 1 10 := ⟨by decide +kernel, rfl⟩
theorem iX8_comes_10 : zLa mX8_comes 10 0 11 := Or.inl ⟨0, by decide +kernel, rfl, rfl⟩
theorem iX8_comes_11 : zIs mX8_comes 11 (.getfield 53) 3 14 := ⟨by decide +kernel, rfl⟩
theorem iX8_comes_14 : zLa mX8_comes 14 0 15 := Or.inl ⟨0, by decide +kernel, rfl, rfl⟩
theorem iX8_comes_15 : zIs mX8_comes 15 (.getfield 144) 3 18 := ⟨by decide +kernel, rfl⟩
theorem iX8_comes_18 : zLa mX8_comes 18 0 19 := Or.inl ⟨0, by decide +kernel, rfl, rfl⟩
theorem iX8_comes_19 : zIs mX8_comes 19 (.getfield 74) 3 22 := ⟨by decide +kernel, rfl⟩
theorem iX8_comes_22 : zLa mX8_comes 22 0 23 := Or.inl ⟨0, by decide +kernel, rfl, rfl⟩
theorem iX8_comes_23 : zIs mX8_comes 23 (.getfield 116) 3 26 := ⟨by decide +kernel, rfl⟩
theorem iX8_comes_26 : zPi mX8_comes 26 1 27 := Or.inl ⟨1, by decide +kernel, by decide, rfl⟩
theorem iX8_comes_27 : zIs mX8_comes 27 (.isub) 1 28 := ⟨by decide +kernel, rfl⟩
theorem iX8_comes_28 : zIs mX8_comes 28 (.iaload) 1 29 := ⟨by decide +kernel, rfl⟩
theorem iX8_comes_29 : zIs mX8_comes 29 (.iastore) 1 30 := ⟨by decide +kernel, rfl⟩
theorem iX8_comes_30 : zLa mX8_comes 30 0 31 := Or.inl ⟨0, by decide +kernel, rfl, rfl⟩
theorem iX8_comes_31 : zIs mX8_comes 31 (.getfield 56) 3 34 := ⟨by decide +kernel, rfl⟩
theorem iX8_comes_34 : zLa mX8_comes 34 0 35 := Or.inl ⟨0, by decide +kernel, rfl, rfl⟩
theorem iX8_comes_35 : zIs mX8_comes 35 (.getfield 144) 3 38 := ⟨by decide +kernel, rfl⟩
theorem iX8_comes_38 : zLa mX8_comes 38 0 39 := Or.inl ⟨0, by decide +kernel, rfl, rfl⟩
theorem iX8_comes_39 : zIs mX8_comes 39 (.getfield 77) 3 42 := ⟨by decide +kernel, rfl⟩
theorem iX8_comes_42 : zLa mX8_comes 42 0 43 := Or.inl ⟨0, by decide +kernel, rfl, rfl⟩
theorem iX8_comes_43 : zIs mX8_comes 43 (.getfield 116) 3 46 := ⟨by decide +kernel, rfl⟩
theorem iX8_comes_46 : zPi mX8_comes 46 1 47 := Or.inl ⟨1, by decide +kernel, by decide, rfl⟩
theorem iX8_comes_47 : zIs mX8_comes 47 (.isub) 1 48 := ⟨by decide +kernel, rfl⟩
theorem iX8_comes_48 : zIs mX8_comes 48 (.iaload) 1 49 := ⟨by decide +kernel, rfl⟩
theorem iX8_comes_49 : zIs mX8_comes 49 (.iastore) 1 50 := ⟨by decide +kernel, rfl⟩
theorem iX8_comes_50 : zLa mX8_comes 50 0 51 := Or.inl ⟨0, by decide +kernel, rfl, rfl⟩
theorem iX8_comes_51 : zIs mX8_comes 51 (.getfield 59) 3 54 := ⟨by decide +kernel, rfl⟩
theorem iX8_comes_54 : zLa mX8_comes 54 0 55 := Or.inl ⟨0, by decide +kernel, rfl, rfl⟩
theorem iX8_comes_55 : zIs mX8_comes 55 (.getfield 144) 3 58 := ⟨by decide +kernel, rfl⟩
theorem iX8_comes_58 : zLi mX8_comes 58 2 59 := Or.inl ⟨2, by decide +kernel, rfl, rfl⟩
theorem iX8_comes_59 : zIs mX8_comes 59 (.iastore) 1 60 := ⟨by decide +kernel, rfl⟩
theorem iX8_comes_60 : zLa mX8_comes 60 0 61 := Or.inl ⟨0, by decide +kernel, rfl, rfl⟩
theorem iX8_comes_61 : zIs mX8_comes 61 (.getfield 62) 3 64 := ⟨by decide +kernel, rfl⟩
theorem iX8_comes_64 : zLa mX8_comes 64 0 65 := Or.inl ⟨0, by decide +kernel, rfl, rfl⟩
theorem iX8_comes_65 : zIs mX8_comes 65 (.getfield 144) 3 68 := ⟨by decide +kernel, rfl⟩
theorem iX8_comes_68 : zPi mX8_comes 68 1 69 := Or.inl ⟨1, by decide +kernel, by decide, rfl⟩
theorem iX8_comes_69 : zIs mX8_comes 69 (.bastore) 1 70 := ⟨by decide +kernel, rfl⟩
theorem iX8_comes_70 : zLa mX8_comes 70 0 71 := Or.inl ⟨0, by decide +kernel, rfl, rfl⟩
theorem iX8_comes_71 : zLa mX8_comes 71 0 72 := Or.inl ⟨0, by decide +kernel, rfl, rfl⟩
theorem iX8_comes_72 : zIs mX8_comes 72 (.getfield 144) 3 75 := ⟨by decide +kernel, rfl⟩
theorem iX8_comes_75 : zIs mX8_comes 75 (.invokevirtual 147) 3 78 := ⟨by decide +kernel, rfl⟩
theorem iX8_comes_78 : zLa mX8_comes 78 0 79 := Or.inl ⟨0, by decide +kernel, rfl, rfl⟩
theorem iX8_comes_79 : zIs mX8_comes 79 (.dup) 1 80 := ⟨by decide +kernel, rfl⟩
theorem iX8_comes_80 : zIs mX8_comes 80 (.getfield 144) 3 83 := ⟨by decide +kernel, rfl⟩
theorem iX8_comes_83 : zPi mX8_comes 83 1 84 := Or.inl ⟨1, by decide +kernel, by decide, rfl⟩
theorem iX8_comes_84 : zIs mX8_comes 84 (.iadd) 1 85 := ⟨by decide +kernel, rfl⟩
theorem iX8_comes_85 : zIs mX8_comes 85 (.putfield 144) 3 88 := ⟨by decide +kernel, rfl⟩
theorem iX8_comes_88 : zIs mX8_comes 88 (.return_) 1 89 := ⟨by decide +kernel, rfl⟩
theorem iX8_markOf_0 : zLa mX8_markOf 0 0 1 := Or.inl ⟨0, by decide +kernel, rfl, rfl⟩
theorem iX8_markOf_1 : zIs mX8_markOf 1 (.getfield 65) 3 4 := ⟨by decide +kernel, rfl⟩
theorem iX8_markOf_4 : zPi mX8_markOf 4 5 5 := Or.inl ⟨5, by decide +kernel, by decide, rfl⟩
theorem iX8_markOf_5 : zLi mX8_markOf 5 1 6 := Or.inl ⟨1, by decide +kernel, rfl, rfl⟩
theorem iX8_markOf_6 : zIs mX8_markOf 6 (.imul) 1 7 := ⟨by decide +kernel, rfl⟩
theorem iX8_markOf_7 : zLi mX8_markOf 7 2 8 := Or.inl ⟨2, by decide +kernel, rfl, rfl⟩
theorem iX8_markOf_8 : zIs mX8_markOf 8 (.iadd) 1 9 := ⟨by decide +kernel, rfl⟩
theorem iX8_markOf_9 : zLa mX8_markOf 9 0 10 := Or.inl ⟨0, by decide +kernel, rfl, rfl⟩
theorem iX8_markOf_10 : zIs mX8_markOf 10 (.getfield 13) 3 13 := ⟨by decide +kernel, rfl⟩
theorem iX8_markOf_13 : zLa mX8_markOf 13 0 14 := Or.inl ⟨0, by decide +kernel, rfl, rfl⟩
theorem iX8_markOf_14 : zIs mX8_markOf 14 (.getfield 32) 3 17 := ⟨by decide +kernel, rfl⟩
theorem iX8_markOf_17 : zLi mX8_markOf 17 1 18 := Or.inl ⟨1, by decide +kernel, rfl, rfl⟩
theorem iX8_markOf_18 : zIs mX8_markOf 18 (.iaload) 1 19 := ⟨by decide +kernel, rfl⟩
theorem iX8_markOf_19 : zIs mX8_markOf 19 (.iaload) 1 20 := ⟨by decide +kernel, rfl⟩
theorem iX8_markOf_20 : zIs mX8_markOf 20 (.isub) 1 21 := ⟨by decide +kernel, rfl⟩
theorem iX8_markOf_21 : zIs mX8_markOf 21 (.iaload) 1 22 := ⟨by decide +kernel, rfl⟩
theorem iX8_markOf_22 : zIs mX8_markOf 22 (.ireturn) 1 23 := ⟨by decide +kernel, rfl⟩
theorem iX8_begin_0 : zLa mX8_begin 0 0 1 := Or.inl ⟨0, by decide +kernel, rfl, rfl⟩
theorem iX8_begin_1 : zLi mX8_begin 1 1 2 := Or.inl ⟨1, by decide +kernel, rfl, rfl⟩
theorem iX8_begin_2 : zIs mX8_begin 2 (.invokevirtual 151) 3 5 := ⟨by decide +kernel, rfl⟩
theorem iX8_begin_5 : zBr mX8_begin 5 (.ifCond .eq) 16 8 := ⟨11, by decide +kernel, by decide, rfl⟩
theorem iX8_begin_8 : zLa mX8_begin 8 0 9 := Or.inl ⟨0, by decide +kernel, rfl, rfl⟩
theorem iX8_begin_9 : zLi mX8_begin 9 2 10 := Or.inl ⟨2, by decide +kernel, rfl, rfl⟩
theorem iX8_begin_10 : zIs mX8_begin 10 (.invokevirtual 154) 3 13 := ⟨by decide +kernel, rfl⟩
theorem iX8_begin_13 : zBr mX8_begin 13 (.ifCond .ne) 19 16 := ⟨6, by decide +kernel, by decide, rfl⟩
theorem iX8_begin_16 : zPi mX8_begin 16 (-101) 18 := Or.inr (Or.inl ⟨(-101), by decide +kernel, by decide, rfl⟩)
theorem iX8_begin_18 : zIs mX8_begin 18 (.ireturn) 1 19 := ⟨by decide +kernel, rfl⟩
theorem iX8_begin_19 : zLa mX8_begin 19 0 20 := Or.inl ⟨0, by decide +kernel, rfl, rfl⟩
theorem iX8_begin_20 : zIs mX8_begin 20 (.getfield 29) 3 23 := ⟨by decide +kernel, rfl⟩
theorem iX8_begin_23 : zLi mX8_begin 23 1 24 := Or.inl ⟨1, by decide +kernel, rfl, rfl⟩
theorem iX8_begin_24 : zIs mX8_begin 24 (.iaload) 1 25 := ⟨by decide +kernel, rfl⟩
theorem iX8_begin_25 : zLa mX8_begin 25 0 26 := Or.inl ⟨0, by decide +kernel, rfl, rfl⟩
theorem iX8_begin_26 : zIs mX8_begin 26 (.getfield 32) 3 29 := ⟨by decide +kernel, rfl⟩
theorem iX8_begin_29 : zLi mX8_begin 29 2 30 := Or.inl ⟨2, by decide +kernel, rfl, rfl⟩
theorem iX8_begin_30 : zIs mX8_begin 30 (.iaload) 1 31 := ⟨by decide +kernel, rfl⟩
theorem iX8_begin_31 : zBr mX8_begin 31 (.if_icmp .eq) 37 34 := ⟨6, by decide +kernel, by decide, rfl⟩
theorem iX8_begin_34 : zPi mX8_begin 34 (-102) 36 := Or.inr (Or.inl ⟨(-102), by decide +kernel, by decide, rfl⟩)
theorem iX8_begin_36 : zIs mX8_begin 36 (.ireturn) 1 37 := ⟨by decide +kernel, rfl⟩
theorem iX8_begin_37 : zLa mX8_begin 37 0 38 := Or.inl ⟨0, by decide +kernel, rfl, rfl⟩
theorem iX8_begin_38 : zIs mX8_begin 38 (.getfield 22) 3 41 := ⟨by decide +kernel, rfl⟩
theorem iX8_begin_41 : zLa mX8_begin 41 0 42 := Or.inl ⟨0, by decide +kernel, rfl, rfl⟩
theorem iX8_begin_42 : zIs mX8_begin 42 (.getfield 32) 3 45 := ⟨by decide +kernel, rfl⟩
theorem iX8_begin_45 : zLi mX8_begin 45 2 46 := Or.inl ⟨2, by decide +kernel, rfl, rfl⟩
theorem iX8_begin_46 : zIs mX8_begin 46 (.iaload) 1 47 := ⟨by decide +kernel, rfl⟩
theorem iX8_begin_47 : zIs mX8_begin 47 (.baload) 1 48 := ⟨by decide +kernel, rfl⟩
theorem iX8_begin_48 : zBr mX8_begin 48 (.ifCond .eq) 54 51 := ⟨6, by decide +kernel, by decide, rfl⟩
theorem iX8_begin_51 : zPi mX8_begin 51 (-103) 53 := Or.inr (Or.inl ⟨(-103), by decide +kernel, by decide, rfl⟩)
theorem iX8_begin_53 : zIs mX8_begin 53 (.ireturn) 1 54 := ⟨by decide +kernel, rfl⟩
theorem iX8_begin_54 : zLa mX8_begin 54 0 55 := Or.inl ⟨0, by decide +kernel, rfl, rfl⟩
theorem iX8_begin_55 : zIs mX8_begin 55 (.getfield 116) 3 58 := ⟨by decide +kernel, rfl⟩
theorem iX8_begin_58 : zPi mX8_begin 58 8 60 := Or.inr (Or.inl ⟨8, by decide +kernel, by decide, rfl⟩)
theorem iX8_begin_60 : zBr mX8_begin 60 (.if_icmp .ne) 66 63 := ⟨6, by decide +kernel, by decide, rfl⟩
theorem iX8_begin_63 : zPi mX8_begin 63 (-104) 65 := Or.inr (Or.inl ⟨(-104), by decide +kernel, by decide, rfl⟩)
theorem iX8_begin_65 : zIs mX8_begin 65 (.ireturn) 1 66 := ⟨by decide +kernel, rfl⟩
theorem iX8_begin_66 : zLa mX8_begin 66 0 67 := Or.inl ⟨0, by decide +kernel, rfl, rfl⟩
theorem iX8_begin_67 : zIs mX8_begin 67 (.getfield 74) 3 70 := ⟨by decide +kernel, rfl⟩
theorem iX8_begin_70 : zLa mX8_begin 70 0 71 := Or.inl ⟨0, by decide +kernel, rfl, rfl⟩
theorem iX8_begin_71 : zIs mX8_begin 71 (.getfield 116) 3 74 := ⟨by decide +kernel, rfl⟩
theorem iX8_begin_74 : zLi mX8_begin 74 1 75 := Or.inl ⟨1, by decide +kernel, rfl, rfl⟩
theorem iX8_begin_75 : zIs mX8_begin 75 (.iastore) 1 76 := ⟨by decide +kernel, rfl⟩
theorem iX8_begin_76 : zLa mX8_begin 76 0 77 := Or.inl ⟨0, by decide +kernel, rfl, rfl⟩
theorem iX8_begin_77 : zIs mX8_begin 77 (.getfield 77) 3 80 := ⟨by decide +kernel, rfl⟩
theorem iX8_begin_80 : zLa mX8_begin 80 0 81 := Or.inl ⟨0, by decide +kernel, rfl, rfl⟩
theorem iX8_begin_81 : zIs mX8_begin 81 (.getfield 116) 3 84 := ⟨by decide +kernel, rfl⟩
theorem iX8_begin_84 : zLi mX8_begin 84 2 85 := Or.inl ⟨2, by decide +kernel, rfl, rfl⟩
theorem iX8_begin_85 : zIs mX8_begin 85 (.iastore) 1 86 := ⟨by decide +kernel, rfl⟩
theorem iX8_begin_86 : zLa mX8_begin 86 0 87 := Or.inl ⟨0, by decide +kernel, rfl, rfl⟩
theorem iX8_begin_87 : zIs mX8_begin 87 (.getfield 80) 3 90 := ⟨by decide +kernel, rfl⟩
theorem iX8_begin_90 : zLa mX8_begin 90 0 91 := Or.inl ⟨0, by decide +kernel, rfl, rfl⟩
theorem iX8_begin_91 : zIs mX8_begin 91 (.getfield 116) 3 94 := ⟨by decide +kernel, rfl⟩
theorem iX8_begin_94 : zLa mX8_begin 94 0 95 := Or.inl ⟨0, by decide +kernel, rfl, rfl⟩
theorem iX8_begin_95 : zIs mX8_begin 95 (.getfield 144) 3 98 := ⟨by decide +kernel, rfl⟩
theorem iX8_begin_98 : zIs mX8_begin 98 (.iastore) 1 99 := ⟨by decide +kernel, rfl⟩
theorem iX8_begin_99 : zLa mX8_begin 99 0 100 := Or.inl ⟨0, by decide +kernel, rfl, rfl⟩
theorem iX8_begin_100 : zIs mX8_begin 100 (.getfield 83) 3 103 := ⟨by decide +kernel, rfl⟩
theorem iX8_begin_103 : zLa mX8_begin 103 0 104 := Or.inl ⟨0, by decide +kernel, rfl, rfl⟩
theorem iX8_begin_104 : zIs mX8_begin 104 (.getfield 116) 3 107 := ⟨by decide +kernel, rfl⟩
theorem iX8_begin_107 : zPi mX8_begin 107 0 108 := Or.inl ⟨0, by decide +kernel, by decide, rfl⟩
theorem iX8_begin_108 : zIs mX8_begin 108 (.iastore) 1 109 := ⟨by decide +kernel, rfl⟩
theorem iX8_begin_109 : zLa mX8_begin 109 0 110 := Or.inl ⟨0, by decide +kernel, rfl, rfl⟩
theorem iX8_begin_110 : zIs mX8_begin 110 (.getfield 92) 3 113 := ⟨by decide +kernel, rfl⟩
theorem iX8_begin_113 : zLa mX8_begin 113 0 114 := Or.inl ⟨0, by decide +kernel, rfl, rfl⟩
theorem iX8_begin_114 : zIs mX8_begin 114 (.getfield 116) 3 117 := ⟨by decide +kernel, rfl⟩
theorem iX8_begin_117 : zPi mX8_begin 117 0 118 := Or.inl ⟨0, by decide +kernel, by decide, rfl⟩
theorem iX8_begin_118 : zIs mX8_begin 118 (.iastore) 1 119 := ⟨by decide +kernel, rfl⟩
theorem iX8_begin_119 : zLa mX8_begin 119 0 120 := Or.inl ⟨0, by decide +kernel, rfl, rfl⟩
theorem iX8_begin_120 : zIs mX8_begin 120 (.dup) 1 121 := ⟨by decide +kernel, rfl⟩
theorem iX8_begin_121 : zIs mX8_begin 121 (.getfield 116) 3 124 := ⟨by decide +kernel, rfl⟩
theorem iX8_begin_124 : zPi mX8_begin 124 1 125 := Or.inl ⟨1, by decide +kernel, by decide, rfl⟩
theorem iX8_begin_125 : zIs mX8_begin 125 (.iadd) 1 126 := ⟨by decide +kernel, rfl⟩
theorem iX8_begin_126 : zIs mX8_begin 126 (.putfield 116) 3 129 := ⟨by decide +kernel, rfl⟩
theorem iX8_begin_129 : zLa mX8_begin 129 0 130 := Or.inl ⟨0, by decide +kernel, rfl, rfl⟩
theorem iX8_begin_130 : zIs mX8_begin 130 (.getfield 116) 3 133 := ⟨by decide +kernel, rfl⟩
theorem iX8_begin_133 : zIs mX8_begin 133 (.ireturn) 1 134 := ⟨by decide +kernel, rfl⟩
theorem iX8_parent_0 : zLi mX8_parent 0 0 1 := Or.inl ⟨0, by decide +kernel, rfl, rfl⟩
theorem iX8_parent_1 : zPi mX8_parent 1 2 2 := Or.inl ⟨2, by decide +kernel, by decide, rfl⟩
theorem iX8_parent_2 : zBr mX8_parent 2 (.if_icmp .eq) 10 5 := ⟨8, by decide +kernel, by decide, rfl⟩
theorem iX8_parent_5 : zLi mX8_parent 5 0 6 := Or.inl ⟨0, by decide +kernel, rfl, rfl⟩
theorem iX8_parent_6 : zPi mX8_parent 6 3 7 := Or.inl ⟨3, by decide +kernel, by decide, rfl⟩
theorem iX8_parent_7 : zBr mX8_parent 7 (.if_icmp .ne) 14 10 := ⟨7, by decide +kernel, by decide, rfl⟩
theorem iX8_parent_10 : zPi mX8_parent 10 1 11 := Or.inl ⟨1, by decide +kernel, by decide, rfl⟩
theorem iX8_parent_11 : zBr mX8_parent 11 .goto 52 14 := ⟨41, by decide +kernel, by decide, rfl⟩
theorem iX8_parent_14 : zLi mX8_parent 14 0 15 := Or.inl ⟨0, by decide +kernel, rfl, rfl⟩
theorem iX8_parent_15 : zPi mX8_parent 15 5 16 := Or.inl ⟨5, by decide +kernel, by decide, rfl⟩
theorem iX8_parent_16 : zBr mX8_parent 16 (.if_icmp .eq) 25 19 := ⟨9, by decide +kernel, by decide, rfl⟩
theorem iX8_parent_19 : zLi mX8_parent 19 0 20 := Or.inl ⟨0, by decide +kernel, rfl, rfl⟩
theorem iX8_parent_20 : zPi mX8_parent 20 6 22 := Or.inr (Or.inl ⟨6, by decide +kernel, by decide, rfl⟩)
theorem iX8_parent_22 : zBr mX8_parent 22 (.if_icmp .ne) 29 25 := ⟨7, by decide +kernel, by decide, rfl⟩
theorem iX8_parent_25 : zPi mX8_parent 25 4 26 := Or.inl ⟨4, by decide +kernel, by decide, rfl⟩
theorem iX8_parent_26 : zBr mX8_parent 26 .goto 52 29 := ⟨26, by decide +kernel, by decide, rfl⟩
theorem iX8_parent_29 : zLi mX8_parent 29 0 30 := Or.inl ⟨0, by decide +kernel, rfl, rfl⟩
theorem iX8_parent_30 : zPi mX8_parent 30 8 32 := Or.inr (Or.inl ⟨8, by decide +kernel, by decide, rfl⟩)
theorem iX8_parent_32 : zBr mX8_parent 32 (.if_icmp .ne) 40 35 := ⟨8, by decide +kernel, by decide, rfl⟩
theorem iX8_parent_35 : zPi mX8_parent 35 7 37 := Or.inr (Or.inl ⟨7, by decide +kernel, by decide, rfl⟩)
theorem iX8_parent_37 : zBr mX8_parent 37 .goto 52 40 := ⟨15, by decide +kernel, by decide, rfl⟩
theorem iX8_parent_40 : zLi mX8_parent 40 0 41 := Or.inl ⟨0, by decide +kernel, rfl, rfl⟩
theorem iX8_parent_41 : zPi mX8_parent 41 10 43 := Or.inr (Or.inl ⟨10, by decide +kernel, by decide, rfl⟩)
theorem iX8_parent_43 : zBr mX8_parent 43 (.if_icmp .ne) 51 46 := ⟨8, by decide +kernel, by decide, rfl⟩
theorem iX8_parent_46 : zPi mX8_parent 46 9 48 := Or.inr (Or.inl ⟨9, by decide +kernel, by decide, rfl⟩)
theorem iX8_parent_48 : zBr mX8_parent 48 .goto 52 51 := ⟨4, by decide +kernel, by decide, rfl⟩
theorem iX8_parent_51 : zPi mX8_parent 51 0 52 := Or.inl ⟨0, by decide +kernel, by decide, rfl⟩
theorem iX8_parent_52 : zIs mX8_parent 52 (.ireturn) 1 53 := ⟨by decide +kernel, rfl⟩
theorem iX8_isOf_0 : zLi mX8_isOf 0 0 1 := Or.inl ⟨0, by decide +kernel, rfl, rfl⟩
theorem iX8_isOf_1 : zSi mX8_isOf 1 2 2 := ⟨Or.inl ⟨2, by decide +kernel, rfl, rfl⟩, by decide⟩
theorem iX8_isOf_2 : zLi mX8_isOf 2 2 3 := Or.inl ⟨2, by decide +kernel, rfl, rfl⟩
theorem iX8_isOf_3 : zLi mX8_isOf 3 1 4 := Or.inl ⟨1, by decide +kernel, rfl, rfl⟩
theorem iX8_isOf_4 : zBr mX8_isOf 4 (.if_icmp .eq) 19 7 := ⟨15, by decide +kernel, by decide, rfl⟩
theorem iX8_isOf_7 : zLi mX8_isOf 7 2 8 := Or.inl ⟨2, by decide +kernel, rfl, rfl⟩
theorem iX8_isOf_8 : zBr mX8_isOf 8 (.ifCond .eq) 19 11 := ⟨11, by decide +kernel, by decide, rfl⟩
theorem iX8_isOf_11 : zLi mX8_isOf 11 2 12 := Or.inl ⟨2, by decide +kernel, rfl, rfl⟩
theorem iX8_isOf_12 : zIs mX8_isOf 12 (.invokestatic 157) 3 15 := ⟨by decide +kernel, rfl⟩
theorem iX8_isOf_15 : zSi mX8_isOf 15 2 16 := ⟨Or.inl ⟨2, by decide +kernel, rfl, rfl⟩, by decide⟩
theorem iX8_isOf_16 : zBr mX8_isOf 16 .goto 2 19 := ⟨(-14), by decide +kernel, by decide, rfl⟩
theorem iX8_isOf_19 : zLi mX8_isOf 19 2 20 := Or.inl ⟨2, by decide +kernel, rfl, rfl⟩
theorem iX8_isOf_20 : zLi mX8_isOf 20 1 21 := Or.inl ⟨1, by decide +kernel, rfl, rfl⟩
theorem iX8_isOf_21 : zBr mX8_isOf 21 (.if_icmp .ne) 28 24 := ⟨7, by decide +kernel, by decide, rfl⟩
theorem iX8_isOf_24 : zPi mX8_isOf 24 1 25 := Or.inl ⟨1, by decide +kernel, by decide, rfl⟩
theorem iX8_isOf_25 : zBr mX8_isOf 25 .goto 29 28 := ⟨4, by decide +kernel, by decide, rfl⟩
theorem iX8_isOf_28 : zPi mX8_isOf 28 0 29 := Or.inl ⟨0, by decide +kernel, by decide, rfl⟩
theorem iX8_isOf_29 : zIs mX8_isOf 29 (.ireturn) 1 30 := ⟨by decide +kernel, rfl⟩
theorem iX8_holds_0 : zLa mX8_holds 0 0 1 := Or.inl ⟨0, by decide +kernel, rfl, rfl⟩
theorem iX8_holds_1 : zIs mX8_holds 1 (.getfield 74) 3 4 := ⟨by decide +kernel, rfl⟩
theorem iX8_holds_4 : zLa mX8_holds 4 0 5 := Or.inl ⟨0, by decide +kernel, rfl, rfl⟩
theorem iX8_holds_5 : zIs mX8_holds 5 (.getfield 116) 3 8 := ⟨by decide +kernel, rfl⟩
theorem iX8_holds_8 : zPi mX8_holds 8 1 9 := Or.inl ⟨1, by decide +kernel, by decide, rfl⟩
theorem iX8_holds_9 : zIs mX8_holds 9 (.isub) 1 10 := ⟨by decide +kernel, rfl⟩
theorem iX8_holds_10 : zIs mX8_holds 10 (.iaload) 1 11 := ⟨by decide +kernel, rfl⟩
theorem iX8_holds_11 : zSi mX8_holds 11 2 12 := ⟨Or.inl ⟨2, by decide +kernel, rfl, rfl⟩, by decide⟩
theorem iX8_holds_12 : zLa mX8_holds 12 0 13 := Or.inl ⟨0, by decide +kernel, rfl, rfl⟩
theorem iX8_holds_13 : zIs mX8_holds 13 (.getfield 77) 3 16 := ⟨by decide +kernel, rfl⟩
theorem iX8_holds_16 : zLa mX8_holds 16 0 17 := Or.inl ⟨0, by decide +kernel, rfl, rfl⟩
theorem iX8_holds_17 : zIs mX8_holds 17 (.getfield 116) 3 20 := ⟨by decide +kernel, rfl⟩
theorem iX8_holds_20 : zPi mX8_holds 20 1 21 := Or.inl ⟨1, by decide +kernel, by decide, rfl⟩
theorem iX8_holds_21 : zIs mX8_holds 21 (.isub) 1 22 := ⟨by decide +kernel, rfl⟩
theorem iX8_holds_22 : zIs mX8_holds 22 (.iaload) 1 23 := ⟨by decide +kernel, rfl⟩
theorem iX8_holds_23 : zSi mX8_holds 23 3 24 := ⟨Or.inl ⟨3, by decide +kernel, rfl, rfl⟩, by decide⟩
theorem iX8_holds_24 : zLa mX8_holds 24 0 25 := Or.inl ⟨0, by decide +kernel, rfl, rfl⟩
theorem iX8_holds_25 : zIs mX8_holds 25 (.getfield 41) 3 28 := ⟨by decide +kernel, rfl⟩
theorem iX8_holds_28 : zLi mX8_holds 28 1 29 := Or.inl ⟨1, by decide +kernel, rfl, rfl⟩
theorem iX8_holds_29 : zIs mX8_holds 29 (.iaload) 1 30 := ⟨by decide +kernel, rfl⟩
theorem iX8_holds_30 : zIs mX8_holds 30 (.i2l) 1 31 := ⟨by decide +kernel, rfl⟩
theorem iX8_holds_31 : zSl mX8_holds 31 4 33 := ⟨Or.inr ⟨by decide +kernel, rfl⟩, by decide⟩
theorem iX8_holds_33 : zLa mX8_holds 33 0 34 := Or.inl ⟨0, by decide +kernel, rfl, rfl⟩
theorem iX8_holds_34 : zIs mX8_holds 34 (.getfield 38) 3 37 := ⟨by decide +kernel, rfl⟩
theorem iX8_holds_37 : zLi mX8_holds 37 1 38 := Or.inl ⟨1, by decide +kernel, rfl, rfl⟩
theorem iX8_holds_38 : zIs mX8_holds 38 (.iaload) 1 39 := ⟨by decide +kernel, rfl⟩
theorem iX8_holds_39 : zTs mX8_holds 39 2 [80, 144, 396, 228, 247, 396, 266] 396 := ⟨357, 8, #[41, 105, 357, 189, 208, 357, 227], 41, by decide +kernel, by decide, by decide, by decide +kernel⟩
theorem iX8_holds_80 : zLa mX8_holds 80 0 81 := Or.inl ⟨0, by decide +kernel, rfl, rfl⟩
theorem iX8_holds_81 : zIs mX8_holds 81 (.getfield 144) 3 84 := ⟨by decide +kernel, rfl⟩
theorem iX8_holds_84 : zBr mX8_holds 84 (.ifCond .le) 142 87 := ⟨58, by decide +kernel, by decide, rfl⟩
theorem iX8_holds_87 : zLa mX8_holds 87 0 88 := Or.inl ⟨0, by decide +kernel, rfl, rfl⟩
theorem iX8_holds_88 : zIs mX8_holds 88 (.getfield 50) 3 91 := ⟨by decide +kernel, rfl⟩
theorem iX8_holds_91 : zLa mX8_holds 91 0 92 := Or.inl ⟨0, by decide +kernel, rfl, rfl⟩
end
section
theorem iX8_holds_92 : zIs mX8_holds 92 (.getfield 144) 3 95 := ⟨by decide +kernel, rfl⟩
theorem iX8_holds_95 : zPi mX8_holds 95 1 96 := Or.inl ⟨1, by decide +kernel, by decide, rfl⟩
theorem iX8_holds_96 : zIs mX8_holds 96 (.isub) 1 97 := ⟨by decide +kernel, rfl⟩
theorem iX8_holds_97 : zIs mX8_holds 97 (.iaload) 1 98 := ⟨by decide +kernel, rfl⟩
theorem iX8_holds_98 : zBr mX8_holds 98 (.ifCond .ne) 142 101 := ⟨44, by decide +kernel, by decide, rfl⟩
theorem iX8_holds_101 : zLa mX8_holds 101 0 102 := Or.inl ⟨0, by decide +kernel, rfl, rfl⟩
theorem iX8_holds_102 : zIs mX8_holds 102 (.getfield 59) 3 105 := ⟨by decide +kernel, rfl⟩
theorem iX8_holds_105 : zLa mX8_holds 105 0 106 := Or.inl ⟨0, by decide +kernel, rfl, rfl⟩
theorem iX8_holds_106 : zIs mX8_holds 106 (.getfield 144) 3 109 := ⟨by decide +kernel, rfl⟩
theorem iX8_holds_109 : zPi mX8_holds 109 1 110 := Or.inl ⟨1, by decide +kernel, by decide, rfl⟩
theorem iX8_holds_110 : zIs mX8_holds 110 (.isub) 1 111 := ⟨by decide +kernel, rfl⟩
theorem iX8_holds_111 : zIs mX8_holds 111 (.iaload) 1 112 := ⟨by decide +kernel, rfl⟩
theorem iX8_holds_112 : zIs mX8_holds 112 (.i2l) 1 113 := ⟨by decide +kernel, rfl⟩
theorem iX8_holds_113 : zLl mX8_holds 113 4 115 := Or.inr ⟨by decide +kernel, rfl⟩
theorem iX8_holds_115 : zIs mX8_holds 115 (.lcmp) 1 116 := ⟨by decide +kernel, rfl⟩
theorem iX8_holds_116 : zBr mX8_holds 116 (.ifCond .gt) 138 119 := ⟨22, by decide +kernel, by decide, rfl⟩
theorem iX8_holds_119 : zLa mX8_holds 119 0 120 := Or.inl ⟨0, by decide +kernel, rfl, rfl⟩
theorem iX8_holds_120 : zIs mX8_holds 120 (.getfield 59) 3 123 := ⟨by decide +kernel, rfl⟩
theorem iX8_holds_123 : zLa mX8_holds 123 0 124 := Or.inl ⟨0, by decide +kernel, rfl, rfl⟩
theorem iX8_holds_124 : zIs mX8_holds 124 (.getfield 144) 3 127 := ⟨by decide +kernel, rfl⟩
theorem iX8_holds_127 : zPi mX8_holds 127 1 128 := Or.inl ⟨1, by decide +kernel, by decide, rfl⟩
theorem iX8_holds_128 : zIs mX8_holds 128 (.isub) 1 129 := ⟨by decide +kernel, rfl⟩
theorem iX8_holds_129 : zIs mX8_holds 129 (.iaload) 1 130 := ⟨by decide +kernel, rfl⟩
theorem iX8_holds_130 : zIs mX8_holds 130 (.i2l) 1 131 := ⟨by decide +kernel, rfl⟩
theorem iX8_holds_131 : zLl mX8_holds 131 4 133 := Or.inr ⟨by decide +kernel, rfl⟩
theorem iX8_holds_133 : zIs mX8_holds 133 (.lneg) 1 134 := ⟨by decide +kernel, rfl⟩
theorem iX8_holds_134 : zIs mX8_holds 134 (.lcmp) 1 135 := ⟨by decide +kernel, rfl⟩
theorem iX8_holds_135 : zBr mX8_holds 135 (.ifCond .ge) 142 138 := ⟨7, by decide +kernel, by decide, rfl⟩
theorem iX8_holds_138 : zPi mX8_holds 138 1 139 := Or.inl ⟨1, by decide +kernel, by decide, rfl⟩
theorem iX8_holds_139 : zBr mX8_holds 139 .goto 143 142 := ⟨4, by decide +kernel, by decide, rfl⟩
theorem iX8_holds_142 : zPi mX8_holds 142 0 143 := Or.inl ⟨0, by decide +kernel, by decide, rfl⟩
theorem iX8_holds_143 : zIs mX8_holds 143 (.ireturn) 1 144 := ⟨by decide +kernel, rfl⟩
theorem iX8_holds_144 : zPi mX8_holds 144 0 145 := Or.inl ⟨0, by decide +kernel, by decide, rfl⟩
theorem iX8_holds_145 : zSi mX8_holds 145 6 147 := ⟨Or.inr ⟨by decide +kernel, rfl⟩, by decide⟩
theorem iX8_holds_147 : zPi mX8_holds 147 0 148 := Or.inl ⟨0, by decide +kernel, by decide, rfl⟩
theorem iX8_holds_148 : zSi mX8_holds 148 7 150 := ⟨Or.inr ⟨by decide +kernel, rfl⟩, by decide⟩
theorem iX8_holds_150 : zLi mX8_holds 150 7 152 := Or.inr ⟨by decide +kernel, rfl⟩
theorem iX8_holds_152 : zLa mX8_holds 152 0 153 := Or.inl ⟨0, by decide +kernel, rfl, rfl⟩
theorem iX8_holds_153 : zIs mX8_holds 153 (.getfield 144) 3 156 := ⟨by decide +kernel, rfl⟩
theorem iX8_holds_156 : zBr mX8_holds 156 (.if_icmp .ge) 207 159 := ⟨51, by decide +kernel, by decide, rfl⟩
theorem iX8_holds_159 : zLi mX8_holds 159 6 161 := Or.inr ⟨by decide +kernel, rfl⟩
theorem iX8_holds_161 : zLa mX8_holds 161 0 162 := Or.inl ⟨0, by decide +kernel, rfl, rfl⟩
theorem iX8_holds_162 : zIs mX8_holds 162 (.getfield 50) 3 165 := ⟨by decide +kernel, rfl⟩
theorem iX8_holds_165 : zLi mX8_holds 165 7 167 := Or.inr ⟨by decide +kernel, rfl⟩
theorem iX8_holds_167 : zIs mX8_holds 167 (.iaload) 1 168 := ⟨by decide +kernel, rfl⟩
theorem iX8_holds_168 : zBr mX8_holds 168 (.ifCond .ne) 197 171 := ⟨29, by decide +kernel, by decide, rfl⟩
theorem iX8_holds_171 : zLa mX8_holds 171 0 172 := Or.inl ⟨0, by decide +kernel, rfl, rfl⟩
theorem iX8_holds_172 : zIs mX8_holds 172 (.getfield 53) 3 175 := ⟨by decide +kernel, rfl⟩
theorem iX8_holds_175 : zLi mX8_holds 175 7 177 := Or.inr ⟨by decide +kernel, rfl⟩
theorem iX8_holds_177 : zIs mX8_holds 177 (.iaload) 1 178 := ⟨by decide +kernel, rfl⟩
theorem iX8_holds_178 : zLi mX8_holds 178 2 179 := Or.inl ⟨2, by decide +kernel, rfl, rfl⟩
theorem iX8_holds_179 : zBr mX8_holds 179 (.if_icmp .ne) 197 182 := ⟨18, by decide +kernel, by decide, rfl⟩
theorem iX8_holds_182 : zLa mX8_holds 182 0 183 := Or.inl ⟨0, by decide +kernel, rfl, rfl⟩
theorem iX8_holds_183 : zIs mX8_holds 183 (.getfield 56) 3 186 := ⟨by decide +kernel, rfl⟩
theorem iX8_holds_186 : zLi mX8_holds 186 7 188 := Or.inr ⟨by decide +kernel, rfl⟩
theorem iX8_holds_188 : zIs mX8_holds 188 (.iaload) 1 189 := ⟨by decide +kernel, rfl⟩
theorem iX8_holds_189 : zLi mX8_holds 189 3 190 := Or.inl ⟨3, by decide +kernel, rfl, rfl⟩
theorem iX8_holds_190 : zBr mX8_holds 190 (.if_icmp .ne) 197 193 := ⟨7, by decide +kernel, by decide, rfl⟩
theorem iX8_holds_193 : zPi mX8_holds 193 1 194 := Or.inl ⟨1, by decide +kernel, by decide, rfl⟩
theorem iX8_holds_194 : zBr mX8_holds 194 .goto 198 197 := ⟨4, by decide +kernel, by decide, rfl⟩
theorem iX8_holds_197 : zPi mX8_holds 197 0 198 := Or.inl ⟨0, by decide +kernel, by decide, rfl⟩
theorem iX8_holds_198 : zIs mX8_holds 198 (.iadd) 1 199 := ⟨by decide +kernel, rfl⟩
theorem iX8_holds_199 : zSi mX8_holds 199 6 201 := ⟨Or.inr ⟨by decide +kernel, rfl⟩, by decide⟩
theorem iX8_holds_201 : zIs mX8_holds 201 (.iinc 7 1) 3 204 := ⟨by decide +kernel, rfl⟩
theorem iX8_holds_204 : zBr mX8_holds 204 .goto 150 207 := ⟨(-54), by decide +kernel, by decide, rfl⟩
theorem iX8_holds_207 : zLi mX8_holds 207 6 209 := Or.inr ⟨by decide +kernel, rfl⟩
theorem iX8_holds_209 : zPi mX8_holds 209 2 210 := Or.inl ⟨2, by decide +kernel, by decide, rfl⟩
theorem iX8_holds_210 : zBr mX8_holds 210 (.if_icmp .lt) 226 213 := ⟨16, by decide +kernel, by decide, rfl⟩
theorem iX8_holds_213 : zLi mX8_holds 213 6 215 := Or.inr ⟨by decide +kernel, rfl⟩
theorem iX8_holds_215 : zIs mX8_holds 215 (.i2l) 1 216 := ⟨by decide +kernel, rfl⟩
theorem iX8_holds_216 : zLl mX8_holds 216 4 218 := Or.inr ⟨by decide +kernel, rfl⟩
theorem iX8_holds_218 : zIs mX8_holds 218 (.lcmp) 1 219 := ⟨by decide +kernel, rfl⟩
theorem iX8_holds_219 : zBr mX8_holds 219 (.ifCond .le) 226 222 := ⟨7, by decide +kernel, by decide, rfl⟩
theorem iX8_holds_222 : zPi mX8_holds 222 1 223 := Or.inl ⟨1, by decide +kernel, by decide, rfl⟩
theorem iX8_holds_223 : zBr mX8_holds 223 .goto 227 226 := ⟨4, by decide +kernel, by decide, rfl⟩
theorem iX8_holds_226 : zPi mX8_holds 226 0 227 := Or.inl ⟨0, by decide +kernel, by decide, rfl⟩
theorem iX8_holds_227 : zIs mX8_holds 227 (.ireturn) 1 228 := ⟨by decide +kernel, rfl⟩
theorem iX8_holds_228 : zLa mX8_holds 228 0 229 := Or.inl ⟨0, by decide +kernel, rfl, rfl⟩
theorem iX8_holds_229 : zLi mX8_holds 229 3 230 := Or.inl ⟨3, by decide +kernel, rfl, rfl⟩
theorem iX8_holds_230 : zLi mX8_holds 230 2 231 := Or.inl ⟨2, by decide +kernel, rfl, rfl⟩
theorem iX8_holds_231 : zIs mX8_holds 231 (.invokevirtual 161) 3 234 := ⟨by decide +kernel, rfl⟩
theorem iX8_holds_234 : zIs mX8_holds 234 (.i2l) 1 235 := ⟨by decide +kernel, rfl⟩
theorem iX8_holds_235 : zLl mX8_holds 235 4 237 := Or.inr ⟨by decide +kernel, rfl⟩
theorem iX8_holds_237 : zIs mX8_holds 237 (.lcmp) 1 238 := ⟨by decide +kernel, rfl⟩
theorem iX8_holds_238 : zBr mX8_holds 238 (.ifCond .le) 245 241 := ⟨7, by decide +kernel, by decide, rfl⟩
theorem iX8_holds_241 : zPi mX8_holds 241 1 242 := Or.inl ⟨1, by decide +kernel, by decide, rfl⟩
theorem iX8_holds_242 : zBr mX8_holds 242 .goto 246 245 := ⟨4, by decide +kernel, by decide, rfl⟩
theorem iX8_holds_245 : zPi mX8_holds 245 0 246 := Or.inl ⟨0, by decide +kernel, by decide, rfl⟩
theorem iX8_holds_246 : zIs mX8_holds 246 (.ireturn) 1 247 := ⟨by decide +kernel, rfl⟩
theorem iX8_holds_247 : zLa mX8_holds 247 0 248 := Or.inl ⟨0, by decide +kernel, rfl, rfl⟩
theorem iX8_holds_248 : zLi mX8_holds 248 3 249 := Or.inl ⟨3, by decide +kernel, rfl, rfl⟩
theorem iX8_holds_249 : zLi mX8_holds 249 2 250 := Or.inl ⟨2, by decide +kernel, rfl, rfl⟩
theorem iX8_holds_250 : zIs mX8_holds 250 (.invokevirtual 161) 3 253 := ⟨by decide +kernel, rfl⟩
theorem iX8_holds_253 : zIs mX8_holds 253 (.i2l) 1 254 := ⟨by decide +kernel, rfl⟩
theorem iX8_holds_254 : zLl mX8_holds 254 4 256 := Or.inr ⟨by decide +kernel, rfl⟩
theorem iX8_holds_256 : zIs mX8_holds 256 (.lcmp) 1 257 := ⟨by decide +kernel, rfl⟩
theorem iX8_holds_257 : zBr mX8_holds 257 (.ifCond .ge) 264 260 := ⟨7, by decide +kernel, by decide, rfl⟩
theorem iX8_holds_260 : zPi mX8_holds 260 1 261 := Or.inl ⟨1, by decide +kernel, by decide, rfl⟩
theorem iX8_holds_261 : zBr mX8_holds 261 .goto 265 264 := ⟨4, by decide +kernel, by decide, rfl⟩
theorem iX8_holds_264 : zPi mX8_holds 264 0 265 := Or.inl ⟨0, by decide +kernel, by decide, rfl⟩
theorem iX8_holds_265 : zIs mX8_holds 265 (.ireturn) 1 266 := ⟨by decide +kernel, rfl⟩
theorem iX8_holds_266 : zLa mX8_holds 266 0 267 := Or.inl ⟨0, by decide +kernel, rfl, rfl⟩
theorem iX8_holds_267 : zIs mX8_holds 267 (.getfield 32) 3 270 := ⟨by decide +kernel, rfl⟩
theorem iX8_holds_270 : zLi mX8_holds 270 3 271 := Or.inl ⟨3, by decide +kernel, rfl, rfl⟩
theorem iX8_holds_271 : zIs mX8_holds 271 (.iaload) 1 272 := ⟨by decide +kernel, rfl⟩
theorem iX8_holds_272 : zSi mX8_holds 272 7 274 := ⟨Or.inr ⟨by decide +kernel, rfl⟩, by decide⟩
theorem iX8_holds_274 : zLa mX8_holds 274 0 275 := Or.inl ⟨0, by decide +kernel, rfl, rfl⟩
theorem iX8_holds_275 : zIs mX8_holds 275 (.getfield 65) 3 278 := ⟨by decide +kernel, rfl⟩
theorem iX8_holds_278 : zPi mX8_holds 278 5 279 := Or.inl ⟨5, by decide +kernel, by decide, rfl⟩
theorem iX8_holds_279 : zLi mX8_holds 279 3 280 := Or.inl ⟨3, by decide +kernel, rfl, rfl⟩
theorem iX8_holds_280 : zIs mX8_holds 280 (.imul) 1 281 := ⟨by decide +kernel, rfl⟩
theorem iX8_holds_281 : zIs mX8_holds 281 (.iaload) 1 282 := ⟨by decide +kernel, rfl⟩
theorem iX8_holds_282 : zSi mX8_holds 282 8 284 := ⟨Or.inr ⟨by decide +kernel, rfl⟩, by decide⟩
theorem iX8_holds_284 : zLi mX8_holds 284 8 286 := Or.inr ⟨by decide +kernel, rfl⟩
theorem iX8_holds_286 : zSi mX8_holds 286 9 288 := ⟨Or.inr ⟨by decide +kernel, rfl⟩, by decide⟩
theorem iX8_holds_288 : zPi mX8_holds 288 1 289 := Or.inl ⟨1, by decide +kernel, by decide, rfl⟩
theorem iX8_holds_289 : zSi mX8_holds 289 10 291 := ⟨Or.inr ⟨by decide +kernel, rfl⟩, by decide⟩
theorem iX8_holds_291 : zLi mX8_holds 291 10 293 := Or.inr ⟨by decide +kernel, rfl⟩
theorem iX8_holds_293 : zLa mX8_holds 293 0 294 := Or.inl ⟨0, by decide +kernel, rfl, rfl⟩
theorem iX8_holds_294 : zIs mX8_holds 294 (.getfield 16) 3 297 := ⟨by decide +kernel, rfl⟩
theorem iX8_holds_297 : zLi mX8_holds 297 7 299 := Or.inr ⟨by decide +kernel, rfl⟩
theorem iX8_holds_299 : zIs mX8_holds 299 (.iaload) 1 300 := ⟨by decide +kernel, rfl⟩
theorem iX8_holds_300 : zBr mX8_holds 300 (.if_icmp .ge) 377 303 := ⟨77, by decide +kernel, by decide, rfl⟩
theorem iX8_holds_303 : zLa mX8_holds 303 0 304 := Or.inl ⟨0, by decide +kernel, rfl, rfl⟩
theorem iX8_holds_304 : zIs mX8_holds 304 (.getfield 65) 3 307 := ⟨by decide +kernel, rfl⟩
theorem iX8_holds_307 : zPi mX8_holds 307 5 308 := Or.inl ⟨5, by decide +kernel, by decide, rfl⟩
theorem iX8_holds_308 : zLi mX8_holds 308 3 309 := Or.inl ⟨3, by decide +kernel, rfl, rfl⟩
theorem iX8_holds_309 : zIs mX8_holds 309 (.imul) 1 310 := ⟨by decide +kernel, rfl⟩
theorem iX8_holds_310 : zLi mX8_holds 310 10 312 := Or.inr ⟨by decide +kernel, rfl⟩
theorem iX8_holds_312 : zIs mX8_holds 312 (.iadd) 1 313 := ⟨by decide +kernel, rfl⟩
theorem iX8_holds_313 : zIs mX8_holds 313 (.iaload) 1 314 := ⟨by decide +kernel, rfl⟩
theorem iX8_holds_314 : zLi mX8_holds 314 8 316 := Or.inr ⟨by decide +kernel, rfl⟩
theorem iX8_holds_316 : zBr mX8_holds 316 (.if_icmp .le) 333 319 := ⟨17, by decide +kernel, by decide, rfl⟩
theorem iX8_holds_319 : zLa mX8_holds 319 0 320 := Or.inl ⟨0, by decide +kernel, rfl, rfl⟩
theorem iX8_holds_320 : zIs mX8_holds 320 (.getfield 65) 3 323 := ⟨by decide +kernel, rfl⟩
theorem iX8_holds_323 : zPi mX8_holds 323 5 324 := Or.inl ⟨5, by decide +kernel, by decide, rfl⟩
theorem iX8_holds_324 : zLi mX8_holds 324 3 325 := Or.inl ⟨3, by decide +kernel, rfl, rfl⟩
theorem iX8_holds_325 : zIs mX8_holds 325 (.imul) 1 326 := ⟨by decide +kernel, rfl⟩
theorem iX8_holds_326 : zLi mX8_holds 326 10 328 := Or.inr ⟨by decide +kernel, rfl⟩
theorem iX8_holds_328 : zIs mX8_holds 328 (.iadd) 1 329 := ⟨by decide +kernel, rfl⟩
theorem iX8_holds_329 : zIs mX8_holds 329 (.iaload) 1 330 := ⟨by decide +kernel, rfl⟩
theorem iX8_holds_330 : zBr mX8_holds 330 .goto 335 333 := ⟨5, by decide +kernel, by decide, rfl⟩
theorem iX8_holds_333 : zLi mX8_holds 333 8 335 := Or.inr ⟨by decide +kernel, rfl⟩
theorem iX8_holds_335 : zSi mX8_holds 335 8 337 := ⟨Or.inr ⟨by decide +kernel, rfl⟩, by decide⟩
theorem iX8_holds_337 : zLa mX8_holds 337 0 338 := Or.inl ⟨0, by decide +kernel, rfl, rfl⟩
theorem iX8_holds_338 : zIs mX8_holds 338 (.getfield 65) 3 341 := ⟨by decide +kernel, rfl⟩
theorem iX8_holds_341 : zPi mX8_holds 341 5 342 := Or.inl ⟨5, by decide +kernel, by decide, rfl⟩
theorem iX8_holds_342 : zLi mX8_holds 342 3 343 := Or.inl ⟨3, by decide +kernel, rfl, rfl⟩
theorem iX8_holds_343 : zIs mX8_holds 343 (.imul) 1 344 := ⟨by decide +kernel, rfl⟩
theorem iX8_holds_344 : zLi mX8_holds 344 10 346 := Or.inr ⟨by decide +kernel, rfl⟩
theorem iX8_holds_346 : zIs mX8_holds 346 (.iadd) 1 347 := ⟨by decide +kernel, rfl⟩
theorem iX8_holds_347 : zIs mX8_holds 347 (.iaload) 1 348 := ⟨by decide +kernel, rfl⟩
theorem iX8_holds_348 : zLi mX8_holds 348 9 350 := Or.inr ⟨by decide +kernel, rfl⟩
theorem iX8_holds_350 : zBr mX8_holds 350 (.if_icmp .ge) 367 353 := ⟨17, by decide +kernel, by decide, rfl⟩
theorem iX8_holds_353 : zLa mX8_holds 353 0 354 := Or.inl ⟨0, by decide +kernel, rfl, rfl⟩
theorem iX8_holds_354 : zIs mX8_holds 354 (.getfield 65) 3 357 := ⟨by decide +kernel, rfl⟩
theorem iX8_holds_357 : zPi mX8_holds 357 5 358 := Or.inl ⟨5, by decide +kernel, by decide, rfl⟩
theorem iX8_holds_358 : zLi mX8_holds 358 3 359 := Or.inl ⟨3, by decide +kernel, rfl, rfl⟩
theorem iX8_holds_359 : zIs mX8_holds 359 (.imul) 1 360 := ⟨by decide +kernel, rfl⟩
theorem iX8_holds_360 : zLi mX8_holds 360 10 362 := Or.inr ⟨by decide +kernel, rfl⟩
theorem iX8_holds_362 : zIs mX8_holds 362 (.iadd) 1 363 := ⟨by decide +kernel, rfl⟩
theorem iX8_holds_363 : zIs mX8_holds 363 (.iaload) 1 364 := ⟨by decide +kernel, rfl⟩
theorem iX8_holds_364 : zBr mX8_holds 364 .goto 369 367 := ⟨5, by decide +kernel, by decide, rfl⟩
theorem iX8_holds_367 : zLi mX8_holds 367 9 369 := Or.inr ⟨by decide +kernel, rfl⟩
theorem iX8_holds_369 : zSi mX8_holds 369 9 371 := ⟨Or.inr ⟨by decide +kernel, rfl⟩, by decide⟩
theorem iX8_holds_371 : zIs mX8_holds 371 (.iinc 10 1) 3 374 := ⟨by decide +kernel, rfl⟩
theorem iX8_holds_374 : zBr mX8_holds 374 .goto 291 377 := ⟨(-83), by decide +kernel, by decide, rfl⟩
theorem iX8_holds_377 : zLi mX8_holds 377 8 379 := Or.inr ⟨by decide +kernel, rfl⟩
theorem iX8_holds_379 : zIs mX8_holds 379 (.i2l) 1 380 := ⟨by decide +kernel, rfl⟩
theorem iX8_holds_380 : zLi mX8_holds 380 9 382 := Or.inr ⟨by decide +kernel, rfl⟩
theorem iX8_holds_382 : zIs mX8_holds 382 (.i2l) 1 383 := ⟨by decide +kernel, rfl⟩
theorem iX8_holds_383 : zIs mX8_holds 383 (.lsub) 1 384 := ⟨by decide +kernel, rfl⟩
theorem iX8_holds_384 : zLl mX8_holds 384 4 386 := Or.inr ⟨by decide +kernel, rfl⟩
theorem iX8_holds_386 : zIs mX8_holds 386 (.lcmp) 1 387 := ⟨by decide +kernel, rfl⟩
theorem iX8_holds_387 : zBr mX8_holds 387 (.ifCond .le) 394 390 := ⟨7, by decide +kernel, by decide, rfl⟩
theorem iX8_holds_390 : zPi mX8_holds 390 1 391 := Or.inl ⟨1, by decide +kernel, by decide, rfl⟩
theorem iX8_holds_391 : zBr mX8_holds 391 .goto 395 394 := ⟨4, by decide +kernel, by decide, rfl⟩
theorem iX8_holds_394 : zPi mX8_holds 394 0 395 := Or.inl ⟨0, by decide +kernel, by decide, rfl⟩
theorem iX8_holds_395 : zIs mX8_holds 395 (.ireturn) 1 396 := ⟨by decide +kernel, rfl⟩
theorem iX8_holds_396 : zLa mX8_holds 396 0 397 := Or.inl ⟨0, by decide +kernel, rfl, rfl⟩
theorem iX8_holds_397 : zIs mX8_holds 397 (.getfield 144) 3 400 := ⟨by decide +kernel, rfl⟩
theorem iX8_holds_400 : zIs mX8_holds 400 (.i2l) 1 401 := ⟨by decide +kernel, rfl⟩
theorem iX8_holds_401 : zLl mX8_holds 401 4 403 := Or.inr ⟨by decide +kernel, rfl⟩
theorem iX8_holds_403 : zIs mX8_holds 403 (.lcmp) 1 404 := ⟨by decide +kernel, rfl⟩
theorem iX8_holds_404 : zBr mX8_holds 404 (.ifCond .le) 411 407 := ⟨7, by decide +kernel, by decide, rfl⟩
theorem iX8_holds_407 : zPi mX8_holds 407 1 408 := Or.inl ⟨1, by decide +kernel, by decide, rfl⟩
theorem iX8_holds_408 : zBr mX8_holds 408 .goto 412 411 := ⟨4, by decide +kernel, by decide, rfl⟩
theorem iX8_holds_411 : zPi mX8_holds 411 0 412 := Or.inl ⟨0, by decide +kernel, by decide, rfl⟩
theorem iX8_holds_412 : zIs mX8_holds 412 (.ireturn) 1 413 := ⟨by decide +kernel, rfl⟩
theorem iX8_judged_0 : zPi mX8_judged 0 0 1 := Or.inl ⟨0, by decide +kernel, by decide, rfl⟩
theorem iX8_judged_1 : zSi mX8_judged 1 2 2 := ⟨Or.inl ⟨2, by decide +kernel, rfl, rfl⟩, by decide⟩
theorem iX8_judged_2 : zLi mX8_judged 2 2 3 := Or.inl ⟨2, by decide +kernel, rfl, rfl⟩
theorem iX8_judged_3 : zLa mX8_judged 3 0 4 := Or.inl ⟨0, by decide +kernel, rfl, rfl⟩
theorem iX8_judged_4 : zIs mX8_judged 4 (.getfield 138) 3 7 := ⟨by decide +kernel, rfl⟩
theorem iX8_judged_7 : zBr mX8_judged 7 (.if_icmp .ge) 46 10 := ⟨39, by decide +kernel, by decide, rfl⟩
theorem iX8_judged_10 : zLa mX8_judged 10 0 11 := Or.inl ⟨0, by decide +kernel, rfl, rfl⟩
theorem iX8_judged_11 : zIs mX8_judged 11 (.getfield 35) 3 14 := ⟨by decide +kernel, rfl⟩
theorem iX8_judged_14 : zLi mX8_judged 14 2 15 := Or.inl ⟨2, by decide +kernel, rfl, rfl⟩
theorem iX8_judged_15 : zIs mX8_judged 15 (.iaload) 1 16 := ⟨by decide +kernel, rfl⟩
theorem iX8_judged_16 : zLi mX8_judged 16 1 17 := Or.inl ⟨1, by decide +kernel, rfl, rfl⟩
theorem iX8_judged_17 : zBr mX8_judged 17 (.if_icmp .ne) 40 20 := ⟨23, by decide +kernel, by decide, rfl⟩
theorem iX8_judged_20 : zLa mX8_judged 20 0 21 := Or.inl ⟨0, by decide +kernel, rfl, rfl⟩
theorem iX8_judged_21 : zLi mX8_judged 21 2 22 := Or.inl ⟨2, by decide +kernel, rfl, rfl⟩
theorem iX8_judged_22 : zIs mX8_judged 22 (.invokevirtual 165) 3 25 := ⟨by decide +kernel, rfl⟩
theorem iX8_judged_25 : zBr mX8_judged 25 (.ifCond .eq) 40 28 := ⟨15, by decide +kernel, by decide, rfl⟩
theorem iX8_judged_28 : zLa mX8_judged 28 0 29 := Or.inl ⟨0, by decide +kernel, rfl, rfl⟩
theorem iX8_judged_29 : zLa mX8_judged 29 0 30 := Or.inl ⟨0, by decide +kernel, rfl, rfl⟩
theorem iX8_judged_30 : zIs mX8_judged 30 (.getfield 38) 3 33 := ⟨by decide +kernel, rfl⟩
theorem iX8_judged_33 : zLi mX8_judged 33 2 34 := Or.inl ⟨2, by decide +kernel, rfl, rfl⟩
theorem iX8_judged_34 : zIs mX8_judged 34 (.iaload) 1 35 := ⟨by decide +kernel, rfl⟩
theorem iX8_judged_35 : zLi mX8_judged 35 2 36 := Or.inl ⟨2, by decide +kernel, rfl, rfl⟩
theorem iX8_judged_36 : zIs mX8_judged 36 (.invokevirtual 168) 3 39 := ⟨by decide +kernel, rfl⟩
theorem iX8_judged_39 : zIs mX8_judged 39 (.ireturn) 1 40 := ⟨by decide +kernel, rfl⟩
theorem iX8_judged_40 : zIs mX8_judged 40 (.iinc 2 1) 3 43 := ⟨by decide +kernel, rfl⟩
theorem iX8_judged_43 : zBr mX8_judged 43 .goto 2 46 := ⟨(-41), by decide +kernel, by decide, rfl⟩
theorem iX8_judged_46 : zPi mX8_judged 46 0 47 := Or.inl ⟨0, by decide +kernel, by decide, rfl⟩
theorem iX8_judged_47 : zIs mX8_judged 47 (.ireturn) 1 48 := ⟨by decide +kernel, rfl⟩
theorem iX8_note_0 : zLa mX8_note 0 0 1 := Or.inl ⟨0, by decide +kernel, rfl, rfl⟩
theorem iX8_note_1 : zIs mX8_note 1 (.getfield 171) 3 4 := ⟨by decide +kernel, rfl⟩
theorem iX8_note_4 : zPi mX8_note 4 200 7 := Or.inr (Or.inr (Or.inl ⟨200, by decide +kernel, by decide, rfl⟩))
theorem iX8_note_7 : zBr mX8_note 7 (.if_icmp .ge) 84 10 := ⟨77, by decide +kernel, by decide, rfl⟩
theorem iX8_note_10 : zPi mX8_note 10 6 12 := Or.inr (Or.inl ⟨6, by decide +kernel, by decide, rfl⟩)
theorem iX8_note_12 : zLa mX8_note 12 0 13 := Or.inl ⟨0, by decide +kernel, rfl, rfl⟩
theorem iX8_note_13 : zIs mX8_note 13 (.getfield 171) 3 16 := ⟨by decide +kernel, rfl⟩
theorem iX8_note_16 : zIs mX8_note 16 (.imul) 1 17 := ⟨by decide +kernel, rfl⟩
theorem iX8_note_17 : zSi mX8_note 17 5 19 := ⟨Or.inr ⟨by decide +kernel, rfl⟩, by decide⟩
theorem iX8_note_19 : zLa mX8_note 19 0 20 := Or.inl ⟨0, by decide +kernel, rfl, rfl⟩
theorem iX8_note_20 : zIs mX8_note 20 (.getfield 101) 3 23 := ⟨by decide +kernel, rfl⟩
theorem iX8_note_23 : zLi mX8_note 23 5 25 := Or.inr ⟨by decide +kernel, rfl⟩
theorem iX8_note_25 : zLi mX8_note 25 1 26 := Or.inl ⟨1, by decide +kernel, rfl, rfl⟩
theorem iX8_note_26 : zIs mX8_note 26 (.iastore) 1 27 := ⟨by decide +kernel, rfl⟩
theorem iX8_note_27 : zLa mX8_note 27 0 28 := Or.inl ⟨0, by decide +kernel, rfl, rfl⟩
theorem iX8_note_28 : zIs mX8_note 28 (.getfield 101) 3 31 := ⟨by decide +kernel, rfl⟩
theorem iX8_note_31 : zLi mX8_note 31 5 33 := Or.inr ⟨by decide +kernel, rfl⟩
theorem iX8_note_33 : zPi mX8_note 33 1 34 := Or.inl ⟨1, by decide +kernel, by decide, rfl⟩
theorem iX8_note_34 : zIs mX8_note 34 (.iadd) 1 35 := ⟨by decide +kernel, rfl⟩
theorem iX8_note_35 : zLi mX8_note 35 2 36 := Or.inl ⟨2, by decide +kernel, rfl, rfl⟩
theorem iX8_note_36 : zIs mX8_note 36 (.iastore) 1 37 := ⟨by decide +kernel, rfl⟩
theorem iX8_note_37 : zLa mX8_note 37 0 38 := Or.inl ⟨0, by decide +kernel, rfl, rfl⟩
theorem iX8_note_38 : zIs mX8_note 38 (.getfield 101) 3 41 := ⟨by decide +kernel, rfl⟩
theorem iX8_note_41 : zLi mX8_note 41 5 43 := Or.inr ⟨by decide +kernel, rfl⟩
theorem iX8_note_43 : zPi mX8_note 43 2 44 := Or.inl ⟨2, by decide +kernel, by decide, rfl⟩
theorem iX8_note_44 : zIs mX8_note 44 (.iadd) 1 45 := ⟨by decide +kernel, rfl⟩
theorem iX8_note_45 : zLi mX8_note 45 3 46 := Or.inl ⟨3, by decide +kernel, rfl, rfl⟩
theorem iX8_note_46 : zIs mX8_note 46 (.iastore) 1 47 := ⟨by decide +kernel, rfl⟩
theorem iX8_note_47 : zLa mX8_note 47 0 48 := Or.inl ⟨0, by decide +kernel, rfl, rfl⟩
theorem iX8_note_48 : zIs mX8_note 48 (.getfield 101) 3 51 := ⟨by decide +kernel, rfl⟩
theorem iX8_note_51 : zLi mX8_note 51 5 53 := Or.inr ⟨by decide +kernel, rfl⟩
theorem iX8_note_53 : zPi mX8_note 53 3 54 := Or.inl ⟨3, by decide +kernel, by decide, rfl⟩
theorem iX8_note_54 : zIs mX8_note 54 (.iadd) 1 55 := ⟨by decide +kernel, rfl⟩
theorem iX8_note_55 : zLi mX8_note 55 4 57 := Or.inr ⟨by decide +kernel, rfl⟩
theorem iX8_note_57 : zIs mX8_note 57 (.iastore) 1 58 := ⟨by decide +kernel, rfl⟩
theorem iX8_note_58 : zLa mX8_note 58 0 59 := Or.inl ⟨0, by decide +kernel, rfl, rfl⟩
theorem iX8_note_59 : zIs mX8_note 59 (.getfield 101) 3 62 := ⟨by decide +kernel, rfl⟩
theorem iX8_note_62 : zLi mX8_note 62 5 64 := Or.inr ⟨by decide +kernel, rfl⟩
theorem iX8_note_64 : zPi mX8_note 64 4 65 := Or.inl ⟨4, by decide +kernel, by decide, rfl⟩
theorem iX8_note_65 : zIs mX8_note 65 (.iadd) 1 66 := ⟨by decide +kernel, rfl⟩
theorem iX8_note_66 : zLa mX8_note 66 0 67 := Or.inl ⟨0, by decide +kernel, rfl, rfl⟩
theorem iX8_note_67 : zIs mX8_note 67 (.getfield 116) 3 70 := ⟨by decide +kernel, rfl⟩
theorem iX8_note_70 : zIs mX8_note 70 (.iastore) 1 71 := ⟨by decide +kernel, rfl⟩
theorem iX8_note_71 : zLa mX8_note 71 0 72 := Or.inl ⟨0, by decide +kernel, rfl, rfl⟩
theorem iX8_note_72 : zIs mX8_note 72 (.getfield 101) 3 75 := ⟨by decide +kernel, rfl⟩
theorem iX8_note_75 : zLi mX8_note 75 5 77 := Or.inr ⟨by decide +kernel, rfl⟩
theorem iX8_note_77 : zPi mX8_note 77 5 78 := Or.inl ⟨5, by decide +kernel, by decide, rfl⟩
theorem iX8_note_78 : zIs mX8_note 78 (.iadd) 1 79 := ⟨by decide +kernel, rfl⟩
theorem iX8_note_79 : zLa mX8_note 79 0 80 := Or.inl ⟨0, by decide +kernel, rfl, rfl⟩
theorem iX8_note_80 : zIs mX8_note 80 (.getfield 144) 3 83 := ⟨by decide +kernel, rfl⟩
theorem iX8_note_83 : zIs mX8_note 83 (.iastore) 1 84 := ⟨by decide +kernel, rfl⟩
theorem iX8_note_84 : zLa mX8_note 84 0 85 := Or.inl ⟨0, by decide +kernel, rfl, rfl⟩
theorem iX8_note_85 : zIs mX8_note 85 (.dup) 1 86 := ⟨by decide +kernel, rfl⟩
theorem iX8_note_86 : zIs mX8_note 86 (.getfield 171) 3 89 := ⟨by decide +kernel, rfl⟩
theorem iX8_note_89 : zPi mX8_note 89 1 90 := Or.inl ⟨1, by decide +kernel, by decide, rfl⟩
theorem iX8_note_90 : zIs mX8_note 90 (.iadd) 1 91 := ⟨by decide +kernel, rfl⟩
theorem iX8_note_91 : zIs mX8_note 91 (.putfield 171) 3 94 := ⟨by decide +kernel, rfl⟩
theorem iX8_note_94 : zLa mX8_note 94 0 95 := Or.inl ⟨0, by decide +kernel, rfl, rfl⟩
theorem iX8_note_95 : zIs mX8_note 95 (.getfield 171) 3 98 := ⟨by decide +kernel, rfl⟩
theorem iX8_note_98 : zPi mX8_note 98 1 99 := Or.inl ⟨1, by decide +kernel, by decide, rfl⟩
theorem iX8_note_99 : zIs mX8_note 99 (.isub) 1 100 := ⟨by decide +kernel, rfl⟩
theorem iX8_note_100 : zIs mX8_note 100 (.ireturn) 1 101 := ⟨by decide +kernel, rfl⟩
theorem iX8_failed_0 : zLi mX8_failed 0 1 1 := Or.inl ⟨1, by decide +kernel, rfl, rfl⟩
theorem iX8_failed_1 : zSi mX8_failed 1 3 2 := ⟨Or.inl ⟨3, by decide +kernel, rfl, rfl⟩, by decide⟩
theorem iX8_failed_2 : zLa mX8_failed 2 0 3 := Or.inl ⟨0, by decide +kernel, rfl, rfl⟩
theorem iX8_failed_3 : zLi mX8_failed 3 3 4 := Or.inl ⟨3, by decide +kernel, rfl, rfl⟩
theorem iX8_failed_4 : zLi mX8_failed 4 2 5 := Or.inl ⟨2, by decide +kernel, rfl, rfl⟩
theorem iX8_failed_5 : zPi mX8_failed 5 (-1) 6 := Or.inl ⟨(-1), by decide +kernel, by decide, rfl⟩
theorem iX8_failed_6 : zPi mX8_failed 6 (-1) 7 := Or.inl ⟨(-1), by decide +kernel, by decide, rfl⟩
theorem iX8_failed_7 : zIs mX8_failed 7 (.invokevirtual 174) 3 10 := ⟨by decide +kernel, rfl⟩
theorem iX8_failed_10 : zSi mX8_failed 10 4 12 := ⟨Or.inr ⟨by decide +kernel, rfl⟩, by decide⟩
theorem iX8_failed_12 : zLa mX8_failed 12 0 13 := Or.inl ⟨0, by decide +kernel, rfl, rfl⟩
theorem iX8_failed_13 : zIs mX8_failed 13 (.getfield 116) 3 16 := ⟨by decide +kernel, rfl⟩
theorem iX8_failed_16 : zPi mX8_failed 16 1 17 := Or.inl ⟨1, by decide +kernel, by decide, rfl⟩
theorem iX8_failed_17 : zIs mX8_failed 17 (.isub) 1 18 := ⟨by decide +kernel, rfl⟩
theorem iX8_failed_18 : zSi mX8_failed 18 5 20 := ⟨Or.inr ⟨by decide +kernel, rfl⟩, by decide⟩
theorem iX8_failed_20 : zLa mX8_failed 20 0 21 := Or.inl ⟨0, by decide +kernel, rfl, rfl⟩
theorem iX8_failed_21 : zIs mX8_failed 21 (.getfield 92) 3 24 := ⟨by decide +kernel, rfl⟩
theorem iX8_failed_24 : zLi mX8_failed 24 5 26 := Or.inr ⟨by decide +kernel, rfl⟩
theorem iX8_failed_26 : zIs mX8_failed 26 (.iaload) 1 27 := ⟨by decide +kernel, rfl⟩
theorem iX8_failed_27 : zPi mX8_failed 27 1 28 := Or.inl ⟨1, by decide +kernel, by decide, rfl⟩
theorem iX8_failed_28 : zIs mX8_failed 28 (.isub) 1 29 := ⟨by decide +kernel, rfl⟩
theorem iX8_failed_29 : zSi mX8_failed 29 6 31 := ⟨Or.inr ⟨by decide +kernel, rfl⟩, by decide⟩
theorem iX8_failed_31 : zLi mX8_failed 31 6 33 := Or.inr ⟨by decide +kernel, rfl⟩
theorem iX8_failed_33 : zBr mX8_failed 33 (.ifCond .lt) 62 36 := ⟨29, by decide +kernel, by decide, rfl⟩
theorem iX8_failed_36 : zLi mX8_failed 36 3 37 := Or.inl ⟨3, by decide +kernel, rfl, rfl⟩
theorem iX8_failed_37 : zLa mX8_failed 37 0 38 := Or.inl ⟨0, by decide +kernel, rfl, rfl⟩
theorem iX8_failed_38 : zIs mX8_failed 38 (.getfield 95) 3 41 := ⟨by decide +kernel, rfl⟩
theorem iX8_failed_41 : zPi mX8_failed 41 8 43 := Or.inr (Or.inl ⟨8, by decide +kernel, by decide, rfl⟩)
theorem iX8_failed_43 : zLi mX8_failed 43 5 45 := Or.inr ⟨by decide +kernel, rfl⟩
theorem iX8_failed_45 : zIs mX8_failed 45 (.imul) 1 46 := ⟨by decide +kernel, rfl⟩
theorem iX8_failed_46 : zLi mX8_failed 46 6 48 := Or.inr ⟨by decide +kernel, rfl⟩
theorem iX8_failed_48 : zIs mX8_failed 48 (.iadd) 1 49 := ⟨by decide +kernel, rfl⟩
theorem iX8_failed_49 : zIs mX8_failed 49 (.iaload) 1 50 := ⟨by decide +kernel, rfl⟩
theorem iX8_failed_50 : zIs mX8_failed 50 (.invokestatic 178) 3 53 := ⟨by decide +kernel, rfl⟩
theorem iX8_failed_53 : zBr mX8_failed 53 (.ifCond .ne) 62 56 := ⟨9, by decide +kernel, by decide, rfl⟩
theorem iX8_failed_56 : zIs mX8_failed 56 (.iinc 6 (-1)) 3 59 := ⟨by decide +kernel, rfl⟩
theorem iX8_failed_59 : zBr mX8_failed 59 .goto 31 62 := ⟨(-28), by decide +kernel, by decide, rfl⟩
theorem iX8_failed_62 : zLi mX8_failed 62 6 64 := Or.inr ⟨by decide +kernel, rfl⟩
theorem iX8_failed_64 : zBr mX8_failed 64 (.ifCond .lt) 142 67 := ⟨78, by decide +kernel, by decide, rfl⟩
theorem iX8_failed_67 : zLa mX8_failed 67 0 68 := Or.inl ⟨0, by decide +kernel, rfl, rfl⟩
theorem iX8_failed_68 : zIs mX8_failed 68 (.dup) 1 69 := ⟨by decide +kernel, rfl⟩
theorem iX8_failed_69 : zIs mX8_failed 69 (.getfield 182) 3 72 := ⟨by decide +kernel, rfl⟩
theorem iX8_failed_72 : zPi mX8_failed 72 1 73 := Or.inl ⟨1, by decide +kernel, by decide, rfl⟩
theorem iX8_failed_73 : zIs mX8_failed 73 (.iadd) 1 74 := ⟨by decide +kernel, rfl⟩
theorem iX8_failed_74 : zIs mX8_failed 74 (.putfield 182) 3 77 := ⟨by decide +kernel, rfl⟩
theorem iX8_failed_77 : zLa mX8_failed 77 0 78 := Or.inl ⟨0, by decide +kernel, rfl, rfl⟩
theorem iX8_failed_78 : zLa mX8_failed 78 0 79 := Or.inl ⟨0, by decide +kernel, rfl, rfl⟩
theorem iX8_failed_79 : zIs mX8_failed 79 (.getfield 98) 3 82 := ⟨by decide +kernel, rfl⟩
theorem iX8_failed_82 : zPi mX8_failed 82 8 84 := Or.inr (Or.inl ⟨8, by decide +kernel, by decide, rfl⟩)
theorem iX8_failed_84 : zLi mX8_failed 84 5 86 := Or.inr ⟨by decide +kernel, rfl⟩
theorem iX8_failed_86 : zIs mX8_failed 86 (.imul) 1 87 := ⟨by decide +kernel, rfl⟩
theorem iX8_failed_87 : zLi mX8_failed 87 6 89 := Or.inr ⟨by decide +kernel, rfl⟩
theorem iX8_failed_89 : zIs mX8_failed 89 (.iadd) 1 90 := ⟨by decide +kernel, rfl⟩
theorem iX8_failed_90 : zIs mX8_failed 90 (.iaload) 1 91 := ⟨by decide +kernel, rfl⟩
theorem iX8_failed_91 : zIs mX8_failed 91 (.invokevirtual 185) 3 94 := ⟨by decide +kernel, rfl⟩
theorem iX8_failed_94 : zSi mX8_failed 94 7 96 := ⟨Or.inr ⟨by decide +kernel, rfl⟩, by decide⟩
theorem iX8_failed_96 : zLa mX8_failed 96 0 97 := Or.inl ⟨0, by decide +kernel, rfl, rfl⟩
theorem iX8_failed_97 : zIs mX8_failed 97 (.getfield 83) 3 100 := ⟨by decide +kernel, rfl⟩
theorem iX8_failed_100 : zLi mX8_failed 100 5 102 := Or.inr ⟨by decide +kernel, rfl⟩
theorem iX8_failed_102 : zLi mX8_failed 102 7 104 := Or.inr ⟨by decide +kernel, rfl⟩
theorem iX8_failed_104 : zPi mX8_failed 104 1 105 := Or.inl ⟨1, by decide +kernel, by decide, rfl⟩
theorem iX8_failed_105 : zIs mX8_failed 105 (.iadd) 1 106 := ⟨by decide +kernel, rfl⟩
theorem iX8_failed_106 : zIs mX8_failed 106 (.iastore) 1 107 := ⟨by decide +kernel, rfl⟩
theorem iX8_failed_107 : zLa mX8_failed 107 0 108 := Or.inl ⟨0, by decide +kernel, rfl, rfl⟩
theorem iX8_failed_108 : zLi mX8_failed 108 7 110 := Or.inr ⟨by decide +kernel, rfl⟩
theorem iX8_failed_110 : zPi mX8_failed 110 (-1) 111 := Or.inl ⟨(-1), by decide +kernel, by decide, rfl⟩
theorem iX8_failed_111 : zBr mX8_failed 111 (.if_icmp .ne) 124 114 := ⟨13, by decide +kernel, by decide, rfl⟩
theorem iX8_failed_114 : zLa mX8_failed 114 0 115 := Or.inl ⟨0, by decide +kernel, rfl, rfl⟩
theorem iX8_failed_115 : zIs mX8_failed 115 (.getfield 80) 3 118 := ⟨by decide +kernel, rfl⟩
theorem iX8_failed_118 : zLi mX8_failed 118 5 120 := Or.inr ⟨by decide +kernel, rfl⟩
theorem iX8_failed_120 : zIs mX8_failed 120 (.iaload) 1 121 := ⟨by decide +kernel, rfl⟩
theorem iX8_failed_121 : zBr mX8_failed 121 .goto 137 124 := ⟨16, by decide +kernel, by decide, rfl⟩
theorem iX8_failed_124 : zLa mX8_failed 124 0 125 := Or.inl ⟨0, by decide +kernel, rfl, rfl⟩
theorem iX8_failed_125 : zIs mX8_failed 125 (.getfield 89) 3 128 := ⟨by decide +kernel, rfl⟩
theorem iX8_failed_128 : zPi mX8_failed 128 16 130 := Or.inr (Or.inl ⟨16, by decide +kernel, by decide, rfl⟩)
theorem iX8_failed_130 : zLi mX8_failed 130 5 132 := Or.inr ⟨by decide +kernel, rfl⟩
theorem iX8_failed_132 : zIs mX8_failed 132 (.imul) 1 133 := ⟨by decide +kernel, rfl⟩
theorem iX8_failed_133 : zLi mX8_failed 133 7 135 := Or.inr ⟨by decide +kernel, rfl⟩
theorem iX8_failed_135 : zIs mX8_failed 135 (.iadd) 1 136 := ⟨by decide +kernel, rfl⟩
theorem iX8_failed_136 : zIs mX8_failed 136 (.iaload) 1 137 := ⟨by decide +kernel, rfl⟩
theorem iX8_failed_137 : zIs mX8_failed 137 (.invokevirtual 188) 3 140 := ⟨by decide +kernel, rfl⟩
theorem iX8_failed_140 : zPi mX8_failed 140 2 141 := Or.inl ⟨2, by decide +kernel, by decide, rfl⟩
theorem iX8_failed_141 : zIs mX8_failed 141 (.ireturn) 1 142 := ⟨by decide +kernel, rfl⟩
theorem iX8_failed_142 : zPi mX8_failed 142 0 143 := Or.inl ⟨0, by decide +kernel, by decide, rfl⟩
theorem iX8_failed_143 : zSi mX8_failed 143 7 145 := ⟨Or.inr ⟨by decide +kernel, rfl⟩, by decide⟩
theorem iX8_failed_145 : zLi mX8_failed 145 7 147 := Or.inr ⟨by decide +kernel, rfl⟩
theorem iX8_failed_147 : zLa mX8_failed 147 0 148 := Or.inl ⟨0, by decide +kernel, rfl, rfl⟩
theorem iX8_failed_148 : zIs mX8_failed 148 (.getfield 138) 3 151 := ⟨by decide +kernel, rfl⟩
theorem iX8_failed_151 : zBr mX8_failed 151 (.if_icmp .ge) 198 154 := ⟨47, by decide +kernel, by decide, rfl⟩
theorem iX8_failed_154 : zLa mX8_failed 154 0 155 := Or.inl ⟨0, by decide +kernel, rfl, rfl⟩
theorem iX8_failed_155 : zIs mX8_failed 155 (.getfield 35) 3 158 := ⟨by decide +kernel, rfl⟩
theorem iX8_failed_158 : zLi mX8_failed 158 7 160 := Or.inr ⟨by decide +kernel, rfl⟩
theorem iX8_failed_160 : zIs mX8_failed 160 (.iaload) 1 161 := ⟨by decide +kernel, rfl⟩
theorem iX8_failed_161 : zPi mX8_failed 161 3 162 := Or.inl ⟨3, by decide +kernel, by decide, rfl⟩
theorem iX8_failed_162 : zBr mX8_failed 162 (.if_icmp .ne) 192 165 := ⟨30, by decide +kernel, by decide, rfl⟩
theorem iX8_failed_165 : zLa mX8_failed 165 0 166 := Or.inl ⟨0, by decide +kernel, rfl, rfl⟩
theorem iX8_failed_166 : zLi mX8_failed 166 7 168 := Or.inr ⟨by decide +kernel, rfl⟩
theorem iX8_failed_168 : zIs mX8_failed 168 (.invokevirtual 165) 3 171 := ⟨by decide +kernel, rfl⟩
theorem iX8_failed_171 : zBr mX8_failed 171 (.ifCond .eq) 192 174 := ⟨21, by decide +kernel, by decide, rfl⟩
theorem iX8_failed_174 : zLa mX8_failed 174 0 175 := Or.inl ⟨0, by decide +kernel, rfl, rfl⟩
theorem iX8_failed_175 : zLa mX8_failed 175 0 176 := Or.inl ⟨0, by decide +kernel, rfl, rfl⟩
theorem iX8_failed_176 : zIs mX8_failed 176 (.getfield 38) 3 179 := ⟨by decide +kernel, rfl⟩
theorem iX8_failed_179 : zLi mX8_failed 179 7 181 := Or.inr ⟨by decide +kernel, rfl⟩
theorem iX8_failed_181 : zIs mX8_failed 181 (.iaload) 1 182 := ⟨by decide +kernel, rfl⟩
theorem iX8_failed_182 : zLi mX8_failed 182 7 184 := Or.inr ⟨by decide +kernel, rfl⟩
theorem iX8_failed_184 : zPi mX8_failed 184 (-1) 185 := Or.inl ⟨(-1), by decide +kernel, by decide, rfl⟩
theorem iX8_failed_185 : zLi mX8_failed 185 4 187 := Or.inr ⟨by decide +kernel, rfl⟩
theorem iX8_failed_187 : zIs mX8_failed 187 (.invokevirtual 174) 3 190 := ⟨by decide +kernel, rfl⟩
theorem iX8_failed_190 : zSi mX8_failed 190 8 192 := ⟨Or.inr ⟨by decide +kernel, rfl⟩, by decide⟩
theorem iX8_failed_192 : zIs mX8_failed 192 (.iinc 7 1) 3 195 := ⟨by decide +kernel, rfl⟩
theorem iX8_failed_195 : zBr mX8_failed 195 .goto 145 198 := ⟨(-50), by decide +kernel, by decide, rfl⟩
theorem iX8_failed_198 : zLa mX8_failed 198 0 199 := Or.inl ⟨0, by decide +kernel, rfl, rfl⟩
theorem iX8_failed_199 : zIs mX8_failed 199 (.dup) 1 200 := ⟨by decide +kernel, rfl⟩
theorem iX8_failed_200 : zIs mX8_failed 200 (.getfield 116) 3 203 := ⟨by decide +kernel, rfl⟩
theorem iX8_failed_203 : zPi mX8_failed 203 1 204 := Or.inl ⟨1, by decide +kernel, by decide, rfl⟩
theorem iX8_failed_204 : zIs mX8_failed 204 (.isub) 1 205 := ⟨by decide +kernel, rfl⟩
theorem iX8_failed_205 : zIs mX8_failed 205 (.putfield 116) 3 208 := ⟨by decide +kernel, rfl⟩
theorem iX8_failed_208 : zLa mX8_failed 208 0 209 := Or.inl ⟨0, by decide +kernel, rfl, rfl⟩
theorem iX8_failed_209 : zLa mX8_failed 209 0 210 := Or.inl ⟨0, by decide +kernel, rfl, rfl⟩
theorem iX8_failed_210 : zIs mX8_failed 210 (.getfield 80) 3 213 := ⟨by decide +kernel, rfl⟩
theorem iX8_failed_213 : zLi mX8_failed 213 5 215 := Or.inr ⟨by decide +kernel, rfl⟩
theorem iX8_failed_215 : zIs mX8_failed 215 (.iaload) 1 216 := ⟨by decide +kernel, rfl⟩
theorem iX8_failed_216 : zIs mX8_failed 216 (.invokevirtual 188) 3 219 := ⟨by decide +kernel, rfl⟩
theorem iX8_failed_219 : zLa mX8_failed 219 0 220 := Or.inl ⟨0, by decide +kernel, rfl, rfl⟩
theorem iX8_failed_220 : zIs mX8_failed 220 (.getfield 116) 3 223 := ⟨by decide +kernel, rfl⟩
theorem iX8_failed_223 : zBr mX8_failed 223 (.ifCond .ne) 228 226 := ⟨5, by decide +kernel, by decide, rfl⟩
theorem iX8_failed_226 : zPi mX8_failed 226 1 227 := Or.inl ⟨1, by decide +kernel, by decide, rfl⟩
theorem iX8_failed_227 : zIs mX8_failed 227 (.ireturn) 1 228 := ⟨by decide +kernel, rfl⟩
theorem iX8_failed_228 : zLi mX8_failed 228 3 229 := Or.inl ⟨3, by decide +kernel, rfl, rfl⟩
theorem iX8_failed_229 : zPi mX8_failed 229 1 230 := Or.inl ⟨1, by decide +kernel, by decide, rfl⟩
theorem iX8_failed_230 : zIs mX8_failed 230 (.invokestatic 178) 3 233 := ⟨by decide +kernel, rfl⟩
theorem iX8_failed_233 : zBr mX8_failed 233 (.ifCond .eq) 240 236 := ⟨7, by decide +kernel, by decide, rfl⟩
theorem iX8_failed_236 : zPi mX8_failed 236 4 237 := Or.inl ⟨4, by decide +kernel, by decide, rfl⟩
theorem iX8_failed_237 : zBr mX8_failed 237 .goto 255 240 := ⟨18, by decide +kernel, by decide, rfl⟩
theorem iX8_failed_240 : zLi mX8_failed 240 3 241 := Or.inl ⟨3, by decide +kernel, rfl, rfl⟩
theorem iX8_failed_241 : zPi mX8_failed 241 4 242 := Or.inl ⟨4, by decide +kernel, by decide, rfl⟩
theorem iX8_failed_242 : zIs mX8_failed 242 (.invokestatic 178) 3 245 := ⟨by decide +kernel, rfl⟩
theorem iX8_failed_245 : zBr mX8_failed 245 (.ifCond .eq) 253 248 := ⟨8, by decide +kernel, by decide, rfl⟩
theorem iX8_failed_248 : zPi mX8_failed 248 7 250 := Or.inr (Or.inl ⟨7, by decide +kernel, by decide, rfl⟩)
theorem iX8_failed_250 : zBr mX8_failed 250 .goto 255 253 := ⟨5, by decide +kernel, by decide, rfl⟩
theorem iX8_failed_253 : zPi mX8_failed 253 9 255 := Or.inr (Or.inl ⟨9, by decide +kernel, by decide, rfl⟩)
theorem iX8_failed_255 : zSi mX8_failed 255 3 256 := ⟨Or.inl ⟨3, by decide +kernel, rfl, rfl⟩, by decide⟩
theorem iX8_failed_256 : zLa mX8_failed 256 0 257 := Or.inl ⟨0, by decide +kernel, rfl, rfl⟩
theorem iX8_failed_257 : zLi mX8_failed 257 3 258 := Or.inl ⟨3, by decide +kernel, rfl, rfl⟩
theorem iX8_failed_258 : zPi mX8_failed 258 (-1) 259 := Or.inl ⟨(-1), by decide +kernel, by decide, rfl⟩
theorem iX8_failed_259 : zLi mX8_failed 259 4 261 := Or.inr ⟨by decide +kernel, rfl⟩
theorem iX8_failed_261 : zPi mX8_failed 261 (-1) 262 := Or.inl ⟨(-1), by decide +kernel, by decide, rfl⟩
theorem iX8_failed_262 : zIs mX8_failed 262 (.invokevirtual 174) 3 265 := ⟨by decide +kernel, rfl⟩
theorem iX8_failed_265 : zSi mX8_failed 265 4 267 := ⟨Or.inr ⟨by decide +kernel, rfl⟩, by decide⟩
theorem iX8_failed_267 : zBr mX8_failed 267 .goto 12 270 := ⟨(-255), by decide +kernel, by decide, rfl⟩
theorem iX8_placeOf_0 : zLa mX8_placeOf 0 0 1 := Or.inl ⟨0, by decide +kernel, rfl, rfl⟩
theorem iX8_placeOf_1 : zIs mX8_placeOf 1 (.getfield 116) 3 4 := ⟨by decide +kernel, rfl⟩
theorem iX8_placeOf_4 : zPi mX8_placeOf 4 1 5 := Or.inl ⟨1, by decide +kernel, by decide, rfl⟩
theorem iX8_placeOf_5 : zIs mX8_placeOf 5 (.isub) 1 6 := ⟨by decide +kernel, rfl⟩
theorem iX8_placeOf_6 : zSi mX8_placeOf 6 2 7 := ⟨Or.inl ⟨2, by decide +kernel, rfl, rfl⟩, by decide⟩
theorem iX8_placeOf_7 : zLa mX8_placeOf 7 0 8 := Or.inl ⟨0, by decide +kernel, rfl, rfl⟩
theorem iX8_placeOf_8 : zIs mX8_placeOf 8 (.getfield 83) 3 11 := ⟨by decide +kernel, rfl⟩
theorem iX8_placeOf_11 : zLi mX8_placeOf 11 2 12 := Or.inl ⟨2, by decide +kernel, rfl, rfl⟩
theorem iX8_placeOf_12 : zIs mX8_placeOf 12 (.iaload) 1 13 := ⟨by decide +kernel, rfl⟩
theorem iX8_placeOf_13 : zPi mX8_placeOf 13 1 14 := Or.inl ⟨1, by decide +kernel, by decide, rfl⟩
theorem iX8_placeOf_14 : zIs mX8_placeOf 14 (.isub) 1 15 := ⟨by decide +kernel, rfl⟩
theorem iX8_placeOf_15 : zSi mX8_placeOf 15 3 16 := ⟨Or.inl ⟨3, by decide +kernel, rfl, rfl⟩, by decide⟩
theorem iX8_placeOf_16 : zLi mX8_placeOf 16 3 17 := Or.inl ⟨3, by decide +kernel, rfl, rfl⟩
theorem iX8_placeOf_17 : zBr mX8_placeOf 17 (.ifCond .lt) 41 20 := ⟨24, by decide +kernel, by decide, rfl⟩
theorem iX8_placeOf_20 : zLa mX8_placeOf 20 0 21 := Or.inl ⟨0, by decide +kernel, rfl, rfl⟩
theorem iX8_placeOf_21 : zIs mX8_placeOf 21 (.getfield 86) 3 24 := ⟨by decide +kernel, rfl⟩
theorem iX8_placeOf_24 : zPi mX8_placeOf 24 16 26 := Or.inr (Or.inl ⟨16, by decide +kernel, by decide, rfl⟩)
theorem iX8_placeOf_26 : zLi mX8_placeOf 26 2 27 := Or.inl ⟨2, by decide +kernel, rfl, rfl⟩
theorem iX8_placeOf_27 : zIs mX8_placeOf 27 (.imul) 1 28 := ⟨by decide +kernel, rfl⟩
theorem iX8_placeOf_28 : zLi mX8_placeOf 28 3 29 := Or.inl ⟨3, by decide +kernel, rfl, rfl⟩
theorem iX8_placeOf_29 : zIs mX8_placeOf 29 (.iadd) 1 30 := ⟨by decide +kernel, rfl⟩
theorem iX8_placeOf_30 : zIs mX8_placeOf 30 (.iaload) 1 31 := ⟨by decide +kernel, rfl⟩
theorem iX8_placeOf_31 : zLi mX8_placeOf 31 1 32 := Or.inl ⟨1, by decide +kernel, rfl, rfl⟩
theorem iX8_placeOf_32 : zBr mX8_placeOf 32 (.if_icmp .eq) 41 35 := ⟨9, by decide +kernel, by decide, rfl⟩
theorem iX8_placeOf_35 : zIs mX8_placeOf 35 (.iinc 3 (-1)) 3 38 := ⟨by decide +kernel, rfl⟩
theorem iX8_placeOf_38 : zBr mX8_placeOf 38 .goto 16 41 := ⟨(-22), by decide +kernel, by decide, rfl⟩
theorem iX8_placeOf_41 : zLi mX8_placeOf 41 3 42 := Or.inl ⟨3, by decide +kernel, rfl, rfl⟩
theorem iX8_placeOf_42 : zIs mX8_placeOf 42 (.ireturn) 1 43 := ⟨by decide +kernel, rfl⟩
theorem iX8_points_0 : zLi mX8_points 0 1 1 := Or.inl ⟨1, by decide +kernel, rfl, rfl⟩
theorem iX8_points_1 : zPi mX8_points 1 (-6000) 4 := Or.inr (Or.inr (Or.inl ⟨(-6000), by decide +kernel, by decide, rfl⟩))
theorem iX8_points_4 : zPi mX8_points 4 6000 7 := Or.inr (Or.inr (Or.inl ⟨6000, by decide +kernel, by decide, rfl⟩))
theorem iX8_points_7 : zIs mX8_points 7 (.invokestatic 123) 3 10 := ⟨by decide +kernel, rfl⟩
theorem iX8_points_10 : zBr mX8_points 10 (.ifCond .ne) 16 13 := ⟨6, by decide +kernel, by decide, rfl⟩
theorem iX8_points_13 : zPi mX8_points 13 (-102) 15 := Or.inr (Or.inl ⟨(-102), by decide +kernel, by decide, rfl⟩)
theorem iX8_points_15 : zIs mX8_points 15 (.ireturn) 1 16 := ⟨by decide +kernel, rfl⟩
theorem iX8_points_16 : zLa mX8_points 16 0 17 := Or.inl ⟨0, by decide +kernel, rfl, rfl⟩
theorem iX8_points_17 : zIs mX8_points 17 (.getfield 116) 3 20 := ⟨by decide +kernel, rfl⟩
theorem iX8_points_20 : zBr mX8_points 20 (.ifCond .ne) 26 23 := ⟨6, by decide +kernel, by decide, rfl⟩
theorem iX8_points_23 : zPi mX8_points 23 (-103) 25 := Or.inr (Or.inl ⟨(-103), by decide +kernel, by decide, rfl⟩)
theorem iX8_points_25 : zIs mX8_points 25 (.ireturn) 1 26 := ⟨by decide +kernel, rfl⟩
theorem iX8_points_26 : zLa mX8_points 26 0 27 := Or.inl ⟨0, by decide +kernel, rfl, rfl⟩
theorem iX8_points_27 : zIs mX8_points 27 (.getfield 144) 3 30 := ⟨by decide +kernel, rfl⟩
theorem iX8_points_30 : zPi mX8_points 30 400 33 := Or.inr (Or.inr (Or.inl ⟨400, by decide +kernel, by decide, rfl⟩))
theorem iX8_points_33 : zBr mX8_points 33 (.if_icmp .ne) 39 36 := ⟨6, by decide +kernel, by decide, rfl⟩
theorem iX8_points_36 : zPi mX8_points 36 (-104) 38 := Or.inr (Or.inl ⟨(-104), by decide +kernel, by decide, rfl⟩)
theorem iX8_points_38 : zIs mX8_points 38 (.ireturn) 1 39 := ⟨by decide +kernel, rfl⟩
theorem iX8_points_39 : zLa mX8_points 39 0 40 := Or.inl ⟨0, by decide +kernel, rfl, rfl⟩
theorem iX8_points_40 : zPi mX8_points 40 0 41 := Or.inl ⟨0, by decide +kernel, by decide, rfl⟩
theorem iX8_points_41 : zLi mX8_points 41 1 42 := Or.inl ⟨1, by decide +kernel, rfl, rfl⟩
theorem iX8_points_42 : zIs mX8_points 42 (.invokevirtual 191) 3 45 := ⟨by decide +kernel, rfl⟩
theorem iX8_points_45 : zLa mX8_points 45 0 46 := Or.inl ⟨0, by decide +kernel, rfl, rfl⟩
theorem iX8_points_46 : zPi mX8_points 46 0 47 := Or.inl ⟨0, by decide +kernel, by decide, rfl⟩
theorem iX8_points_47 : zIs mX8_points 47 (.invokevirtual 195) 3 50 := ⟨by decide +kernel, rfl⟩
theorem iX8_points_50 : zIs mX8_points 50 (.ireturn) 1 51 := ⟨by decide +kernel, rfl⟩
theorem iX8_deduct_0 : zLi mX8_deduct 0 1 1 := Or.inl ⟨1, by decide +kernel, rfl, rfl⟩
theorem iX8_deduct_1 : zPi mX8_deduct 1 0 2 := Or.inl ⟨0, by decide +kernel, by decide, rfl⟩
theorem iX8_deduct_2 : zPi mX8_deduct 2 6000 5 := Or.inr (Or.inr (Or.inl ⟨6000, by decide +kernel, by decide, rfl⟩))
theorem iX8_deduct_5 : zIs mX8_deduct 5 (.invokestatic 123) 3 8 := ⟨by decide +kernel, rfl⟩
theorem iX8_deduct_8 : zBr mX8_deduct 8 (.ifCond .ne) 14 11 := ⟨6, by decide +kernel, by decide, rfl⟩
theorem iX8_deduct_11 : zPi mX8_deduct 11 (-102) 13 := Or.inr (Or.inl ⟨(-102), by decide +kernel, by decide, rfl⟩)
theorem iX8_deduct_13 : zIs mX8_deduct 13 (.ireturn) 1 14 := ⟨by decide +kernel, rfl⟩
theorem iX8_deduct_14 : zLa mX8_deduct 14 0 15 := Or.inl ⟨0, by decide +kernel, rfl, rfl⟩
theorem iX8_deduct_15 : zIs mX8_deduct 15 (.getfield 116) 3 18 := ⟨by decide +kernel, rfl⟩
theorem iX8_deduct_18 : zBr mX8_deduct 18 (.ifCond .ne) 24 21 := ⟨6, by decide +kernel, by decide, rfl⟩
theorem iX8_deduct_21 : zPi mX8_deduct 21 (-103) 23 := Or.inr (Or.inl ⟨(-103), by decide +kernel, by decide, rfl⟩)
theorem iX8_deduct_23 : zIs mX8_deduct 23 (.ireturn) 1 24 := ⟨by decide +kernel, rfl⟩
theorem iX8_deduct_24 : zLa mX8_deduct 24 0 25 := Or.inl ⟨0, by decide +kernel, rfl, rfl⟩
theorem iX8_deduct_25 : zIs mX8_deduct 25 (.getfield 144) 3 28 := ⟨by decide +kernel, rfl⟩
theorem iX8_deduct_28 : zPi mX8_deduct 28 400 31 := Or.inr (Or.inr (Or.inl ⟨400, by decide +kernel, by decide, rfl⟩))
theorem iX8_deduct_31 : zBr mX8_deduct 31 (.if_icmp .ne) 37 34 := ⟨6, by decide +kernel, by decide, rfl⟩
theorem iX8_deduct_34 : zPi mX8_deduct 34 (-104) 36 := Or.inr (Or.inl ⟨(-104), by decide +kernel, by decide, rfl⟩)
theorem iX8_deduct_36 : zIs mX8_deduct 36 (.ireturn) 1 37 := ⟨by decide +kernel, rfl⟩
theorem iX8_deduct_37 : zLa mX8_deduct 37 0 38 := Or.inl ⟨0, by decide +kernel, rfl, rfl⟩
theorem iX8_deduct_38 : zPi mX8_deduct 38 1 39 := Or.inl ⟨1, by decide +kernel, by decide, rfl⟩
theorem iX8_deduct_39 : zLi mX8_deduct 39 1 40 := Or.inl ⟨1, by decide +kernel, rfl, rfl⟩
theorem iX8_deduct_40 : zIs mX8_deduct 40 (.invokevirtual 191) 3 43 := ⟨by decide +kernel, rfl⟩
theorem iX8_deduct_43 : zLa mX8_deduct 43 0 44 := Or.inl ⟨0, by decide +kernel, rfl, rfl⟩
theorem iX8_deduct_44 : zIs mX8_deduct 44 (.getfield 68) 3 47 := ⟨by decide +kernel, rfl⟩
theorem iX8_deduct_47 : zLa mX8_deduct 47 0 48 := Or.inl ⟨0, by decide +kernel, rfl, rfl⟩
theorem iX8_deduct_48 : zIs mX8_deduct 48 (.getfield 77) 3 51 := ⟨by decide +kernel, rfl⟩
theorem iX8_deduct_51 : zLa mX8_deduct 51 0 52 := Or.inl ⟨0, by decide +kernel, rfl, rfl⟩
theorem iX8_deduct_52 : zIs mX8_deduct 52 (.getfield 116) 3 55 := ⟨by decide +kernel, rfl⟩
theorem iX8_deduct_55 : zPi mX8_deduct 55 1 56 := Or.inl ⟨1, by decide +kernel, by decide, rfl⟩
theorem iX8_deduct_56 : zIs mX8_deduct 56 (.isub) 1 57 := ⟨by decide +kernel, rfl⟩
theorem iX8_deduct_57 : zIs mX8_deduct 57 (.iaload) 1 58 := ⟨by decide +kernel, rfl⟩
theorem iX8_deduct_58 : zIs mX8_deduct 58 (.iaload) 1 59 := ⟨by decide +kernel, rfl⟩
theorem iX8_deduct_59 : zIs mX8_deduct 59 (.ireturn) 1 60 := ⟨by decide +kernel, rfl⟩
theorem iX8_remark_0 : zLi mX8_remark 0 1 1 := Or.inl ⟨1, by decide +kernel, rfl, rfl⟩
theorem iX8_remark_1 : zPi mX8_remark 1 0 2 := Or.inl ⟨0, by decide +kernel, by decide, rfl⟩
theorem iX8_remark_2 : zPi mX8_remark 2 7 4 := Or.inr (Or.inl ⟨7, by decide +kernel, by decide, rfl⟩)
theorem iX8_remark_4 : zIs mX8_remark 4 (.invokestatic 123) 3 7 := ⟨by decide +kernel, rfl⟩
theorem iX8_remark_7 : zBr mX8_remark 7 (.ifCond .ne) 13 10 := ⟨6, by decide +kernel, by decide, rfl⟩
theorem iX8_remark_10 : zPi mX8_remark 10 (-102) 12 := Or.inr (Or.inl ⟨(-102), by decide +kernel, by decide, rfl⟩)
theorem iX8_remark_12 : zIs mX8_remark 12 (.ireturn) 1 13 := ⟨by decide +kernel, rfl⟩
theorem iX8_remark_13 : zLa mX8_remark 13 0 14 := Or.inl ⟨0, by decide +kernel, rfl, rfl⟩
theorem iX8_remark_14 : zIs mX8_remark 14 (.getfield 116) 3 17 := ⟨by decide +kernel, rfl⟩
theorem iX8_remark_17 : zBr mX8_remark 17 (.ifCond .ne) 23 20 := ⟨6, by decide +kernel, by decide, rfl⟩
theorem iX8_remark_20 : zPi mX8_remark 20 (-103) 22 := Or.inr (Or.inl ⟨(-103), by decide +kernel, by decide, rfl⟩)
theorem iX8_remark_22 : zIs mX8_remark 22 (.ireturn) 1 23 := ⟨by decide +kernel, rfl⟩
theorem iX8_remark_23 : zLa mX8_remark 23 0 24 := Or.inl ⟨0, by decide +kernel, rfl, rfl⟩
theorem iX8_remark_24 : zIs mX8_remark 24 (.getfield 144) 3 27 := ⟨by decide +kernel, rfl⟩
theorem iX8_remark_27 : zPi mX8_remark 27 400 30 := Or.inr (Or.inr (Or.inl ⟨400, by decide +kernel, by decide, rfl⟩))
theorem iX8_remark_30 : zBr mX8_remark 30 (.if_icmp .ne) 36 33 := ⟨6, by decide +kernel, by decide, rfl⟩
theorem iX8_remark_33 : zPi mX8_remark 33 (-104) 35 := Or.inr (Or.inl ⟨(-104), by decide +kernel, by decide, rfl⟩)
theorem iX8_remark_35 : zIs mX8_remark 35 (.ireturn) 1 36 := ⟨by decide +kernel, rfl⟩
theorem iX8_remark_36 : zLa mX8_remark 36 0 37 := Or.inl ⟨0, by decide +kernel, rfl, rfl⟩
theorem iX8_remark_37 : zPi mX8_remark 37 2 38 := Or.inl ⟨2, by decide +kernel, by decide, rfl⟩
theorem iX8_remark_38 : zLi mX8_remark 38 1 39 := Or.inl ⟨1, by decide +kernel, rfl, rfl⟩
theorem iX8_remark_39 : zIs mX8_remark 39 (.invokevirtual 191) 3 42 := ⟨by decide +kernel, rfl⟩
theorem iX8_remark_42 : zPi mX8_remark 42 0 43 := Or.inl ⟨0, by decide +kernel, by decide, rfl⟩
theorem iX8_remark_43 : zSi mX8_remark 43 2 44 := ⟨Or.inl ⟨2, by decide +kernel, rfl, rfl⟩, by decide⟩
theorem iX8_remark_44 : zPi mX8_remark 44 0 45 := Or.inl ⟨0, by decide +kernel, by decide, rfl⟩
theorem iX8_remark_45 : zSi mX8_remark 45 3 46 := ⟨Or.inl ⟨3, by decide +kernel, rfl, rfl⟩, by decide⟩
theorem iX8_remark_46 : zLi mX8_remark 46 3 47 := Or.inl ⟨3, by decide +kernel, rfl, rfl⟩
theorem iX8_remark_47 : zPi mX8_remark 47 8 49 := Or.inr (Or.inl ⟨8, by decide +kernel, by decide, rfl⟩)
theorem iX8_remark_49 : zBr mX8_remark 49 (.if_icmp .ge) 81 52 := ⟨32, by decide +kernel, by decide, rfl⟩
theorem iX8_remark_52 : zLi mX8_remark 52 2 53 := Or.inl ⟨2, by decide +kernel, rfl, rfl⟩
theorem iX8_remark_53 : zLa mX8_remark 53 0 54 := Or.inl ⟨0, by decide +kernel, rfl, rfl⟩
theorem iX8_remark_54 : zIs mX8_remark 54 (.getfield 71) 3 57 := ⟨by decide +kernel, rfl⟩
theorem iX8_remark_57 : zLa mX8_remark 57 0 58 := Or.inl ⟨0, by decide +kernel, rfl, rfl⟩
theorem iX8_remark_58 : zIs mX8_remark 58 (.getfield 77) 3 61 := ⟨by decide +kernel, rfl⟩
theorem iX8_remark_61 : zLa mX8_remark 61 0 62 := Or.inl ⟨0, by decide +kernel, rfl, rfl⟩
theorem iX8_remark_62 : zIs mX8_remark 62 (.getfield 116) 3 65 := ⟨by decide +kernel, rfl⟩
theorem iX8_remark_65 : zPi mX8_remark 65 1 66 := Or.inl ⟨1, by decide +kernel, by decide, rfl⟩
theorem iX8_remark_66 : zIs mX8_remark 66 (.isub) 1 67 := ⟨by decide +kernel, rfl⟩
theorem iX8_remark_67 : zIs mX8_remark 67 (.iaload) 1 68 := ⟨by decide +kernel, rfl⟩
theorem iX8_remark_68 : zIs mX8_remark 68 (.iaload) 1 69 := ⟨by decide +kernel, rfl⟩
theorem iX8_remark_69 : zLi mX8_remark 69 3 70 := Or.inl ⟨3, by decide +kernel, rfl, rfl⟩
theorem iX8_remark_70 : zIs mX8_remark 70 (.ishr) 1 71 := ⟨by decide +kernel, rfl⟩
theorem iX8_remark_71 : zPi mX8_remark 71 1 72 := Or.inl ⟨1, by decide +kernel, by decide, rfl⟩
theorem iX8_remark_72 : zIs mX8_remark 72 (.iand) 1 73 := ⟨by decide +kernel, rfl⟩
theorem iX8_remark_73 : zIs mX8_remark 73 (.iadd) 1 74 := ⟨by decide +kernel, rfl⟩
theorem iX8_remark_74 : zSi mX8_remark 74 2 75 := ⟨Or.inl ⟨2, by decide +kernel, rfl, rfl⟩, by decide⟩
theorem iX8_remark_75 : zIs mX8_remark 75 (.iinc 3 1) 3 78 := ⟨by decide +kernel, rfl⟩
theorem iX8_remark_78 : zBr mX8_remark 78 .goto 46 81 := ⟨(-32), by decide +kernel, by decide, rfl⟩
theorem iX8_remark_81 : zLi mX8_remark 81 2 82 := Or.inl ⟨2, by decide +kernel, rfl, rfl⟩
theorem iX8_remark_82 : zIs mX8_remark 82 (.ireturn) 1 83 := ⟨by decide +kernel, rfl⟩
theorem iX8_save_0 : zLi mX8_save 0 1 1 := Or.inl ⟨1, by decide +kernel, rfl, rfl⟩
theorem iX8_save_1 : zPi mX8_save 1 0 2 := Or.inl ⟨0, by decide +kernel, by decide, rfl⟩
theorem iX8_save_2 : zPi mX8_save 2 15 4 := Or.inr (Or.inl ⟨15, by decide +kernel, by decide, rfl⟩)
theorem iX8_save_4 : zIs mX8_save 4 (.invokestatic 123) 3 7 := ⟨by decide +kernel, rfl⟩
theorem iX8_save_7 : zBr mX8_save 7 (.ifCond .ne) 13 10 := ⟨6, by decide +kernel, by decide, rfl⟩
theorem iX8_save_10 : zPi mX8_save 10 (-102) 12 := Or.inr (Or.inl ⟨(-102), by decide +kernel, by decide, rfl⟩)
theorem iX8_save_12 : zIs mX8_save 12 (.ireturn) 1 13 := ⟨by decide +kernel, rfl⟩
theorem iX8_save_13 : zLa mX8_save 13 0 14 := Or.inl ⟨0, by decide +kernel, rfl, rfl⟩
theorem iX8_save_14 : zIs mX8_save 14 (.getfield 116) 3 17 := ⟨by decide +kernel, rfl⟩
theorem iX8_save_17 : zBr mX8_save 17 (.ifCond .ne) 23 20 := ⟨6, by decide +kernel, by decide, rfl⟩
theorem iX8_save_20 : zPi mX8_save 20 (-103) 22 := Or.inr (Or.inl ⟨(-103), by decide +kernel, by decide, rfl⟩)
theorem iX8_save_22 : zIs mX8_save 22 (.ireturn) 1 23 := ⟨by decide +kernel, rfl⟩
theorem iX8_save_23 : zLa mX8_save 23 0 24 := Or.inl ⟨0, by decide +kernel, rfl, rfl⟩
theorem iX8_save_24 : zIs mX8_save 24 (.getfield 116) 3 27 := ⟨by decide +kernel, rfl⟩
theorem iX8_save_27 : zPi mX8_save 27 1 28 := Or.inl ⟨1, by decide +kernel, by decide, rfl⟩
theorem iX8_save_28 : zIs mX8_save 28 (.isub) 1 29 := ⟨by decide +kernel, rfl⟩
theorem iX8_save_29 : zSi mX8_save 29 2 30 := ⟨Or.inl ⟨2, by decide +kernel, rfl, rfl⟩, by decide⟩
theorem iX8_save_30 : zLa mX8_save 30 0 31 := Or.inl ⟨0, by decide +kernel, rfl, rfl⟩
theorem iX8_save_31 : zLi mX8_save 31 1 32 := Or.inl ⟨1, by decide +kernel, rfl, rfl⟩
theorem iX8_save_32 : zIs mX8_save 32 (.invokevirtual 185) 3 35 := ⟨by decide +kernel, rfl⟩
theorem iX8_save_35 : zSi mX8_save 35 3 36 := ⟨Or.inl ⟨3, by decide +kernel, rfl, rfl⟩, by decide⟩
theorem iX8_save_36 : zLi mX8_save 36 3 37 := Or.inl ⟨3, by decide +kernel, rfl, rfl⟩
theorem iX8_save_37 : zPi mX8_save 37 (-1) 38 := Or.inl ⟨(-1), by decide +kernel, by decide, rfl⟩
theorem iX8_save_38 : zBr mX8_save 38 (.if_icmp .eq) 123 41 := ⟨85, by decide +kernel, by decide, rfl⟩
theorem iX8_save_41 : zLa mX8_save 41 0 42 := Or.inl ⟨0, by decide +kernel, rfl, rfl⟩
theorem iX8_save_42 : zIs mX8_save 42 (.getfield 83) 3 45 := ⟨by decide +kernel, rfl⟩
theorem iX8_save_45 : zLi mX8_save 45 2 46 := Or.inl ⟨2, by decide +kernel, rfl, rfl⟩
theorem iX8_save_46 : zIs mX8_save 46 (.dup2) 1 47 := ⟨by decide +kernel, rfl⟩
theorem iX8_save_47 : zIs mX8_save 47 (.iaload) 1 48 := ⟨by decide +kernel, rfl⟩
theorem iX8_save_48 : zPi mX8_save 48 1 49 := Or.inl ⟨1, by decide +kernel, by decide, rfl⟩
theorem iX8_save_49 : zIs mX8_save 49 (.isub) 1 50 := ⟨by decide +kernel, rfl⟩
theorem iX8_save_50 : zIs mX8_save 50 (.iastore) 1 51 := ⟨by decide +kernel, rfl⟩
theorem iX8_save_51 : zLi mX8_save 51 3 52 := Or.inl ⟨3, by decide +kernel, rfl, rfl⟩
theorem iX8_save_52 : zSi mX8_save 52 4 54 := ⟨Or.inr ⟨by decide +kernel, rfl⟩, by decide⟩
theorem iX8_save_54 : zLi mX8_save 54 4 56 := Or.inr ⟨by decide +kernel, rfl⟩
theorem iX8_save_56 : zLa mX8_save 56 0 57 := Or.inl ⟨0, by decide +kernel, rfl, rfl⟩
theorem iX8_save_57 : zIs mX8_save 57 (.getfield 83) 3 60 := ⟨by decide +kernel, rfl⟩
theorem iX8_save_60 : zLi mX8_save 60 2 61 := Or.inl ⟨2, by decide +kernel, rfl, rfl⟩
theorem iX8_save_61 : zIs mX8_save 61 (.iaload) 1 62 := ⟨by decide +kernel, rfl⟩
theorem iX8_save_62 : zBr mX8_save 62 (.if_icmp .ge) 123 65 := ⟨61, by decide +kernel, by decide, rfl⟩
theorem iX8_save_65 : zLa mX8_save 65 0 66 := Or.inl ⟨0, by decide +kernel, rfl, rfl⟩
theorem iX8_save_66 : zIs mX8_save 66 (.getfield 86) 3 69 := ⟨by decide +kernel, rfl⟩
theorem iX8_save_69 : zPi mX8_save 69 16 71 := Or.inr (Or.inl ⟨16, by decide +kernel, by decide, rfl⟩)
theorem iX8_save_71 : zLi mX8_save 71 2 72 := Or.inl ⟨2, by decide +kernel, rfl, rfl⟩
theorem iX8_save_72 : zIs mX8_save 72 (.imul) 1 73 := ⟨by decide +kernel, rfl⟩
theorem iX8_save_73 : zLi mX8_save 73 4 75 := Or.inr ⟨by decide +kernel, rfl⟩
theorem iX8_save_75 : zIs mX8_save 75 (.iadd) 1 76 := ⟨by decide +kernel, rfl⟩
theorem iX8_save_76 : zLa mX8_save 76 0 77 := Or.inl ⟨0, by decide +kernel, rfl, rfl⟩
theorem iX8_save_77 : zIs mX8_save 77 (.getfield 86) 3 80 := ⟨by decide +kernel, rfl⟩
theorem iX8_save_80 : zPi mX8_save 80 16 82 := Or.inr (Or.inl ⟨16, by decide +kernel, by decide, rfl⟩)
theorem iX8_save_82 : zLi mX8_save 82 2 83 := Or.inl ⟨2, by decide +kernel, rfl, rfl⟩
theorem iX8_save_83 : zIs mX8_save 83 (.imul) 1 84 := ⟨by decide +kernel, rfl⟩
theorem iX8_save_84 : zLi mX8_save 84 4 86 := Or.inr ⟨by decide +kernel, rfl⟩
theorem iX8_save_86 : zIs mX8_save 86 (.iadd) 1 87 := ⟨by decide +kernel, rfl⟩
theorem iX8_save_87 : zPi mX8_save 87 1 88 := Or.inl ⟨1, by decide +kernel, by decide, rfl⟩
theorem iX8_save_88 : zIs mX8_save 88 (.iadd) 1 89 := ⟨by decide +kernel, rfl⟩
theorem iX8_save_89 : zIs mX8_save 89 (.iaload) 1 90 := ⟨by decide +kernel, rfl⟩
theorem iX8_save_90 : zIs mX8_save 90 (.iastore) 1 91 := ⟨by decide +kernel, rfl⟩
theorem iX8_save_91 : zLa mX8_save 91 0 92 := Or.inl ⟨0, by decide +kernel, rfl, rfl⟩
theorem iX8_save_92 : zIs mX8_save 92 (.getfield 89) 3 95 := ⟨by decide +kernel, rfl⟩
theorem iX8_save_95 : zPi mX8_save 95 16 97 := Or.inr (Or.inl ⟨16, by decide +kernel, by decide, rfl⟩)
theorem iX8_save_97 : zLi mX8_save 97 2 98 := Or.inl ⟨2, by decide +kernel, rfl, rfl⟩
theorem iX8_save_98 : zIs mX8_save 98 (.imul) 1 99 := ⟨by decide +kernel, rfl⟩
theorem iX8_save_99 : zLi mX8_save 99 4 101 := Or.inr ⟨by decide +kernel, rfl⟩
theorem iX8_save_101 : zIs mX8_save 101 (.iadd) 1 102 := ⟨by decide +kernel, rfl⟩
theorem iX8_save_102 : zLa mX8_save 102 0 103 := Or.inl ⟨0, by decide +kernel, rfl, rfl⟩
theorem iX8_save_103 : zIs mX8_save 103 (.getfield 89) 3 106 := ⟨by decide +kernel, rfl⟩
theorem iX8_save_106 : zPi mX8_save 106 16 108 := Or.inr (Or.inl ⟨16, by decide +kernel, by decide, rfl⟩)
theorem iX8_save_108 : zLi mX8_save 108 2 109 := Or.inl ⟨2, by decide +kernel, rfl, rfl⟩
theorem iX8_save_109 : zIs mX8_save 109 (.imul) 1 110 := ⟨by decide +kernel, rfl⟩
theorem iX8_save_110 : zLi mX8_save 110 4 112 := Or.inr ⟨by decide +kernel, rfl⟩
theorem iX8_save_112 : zIs mX8_save 112 (.iadd) 1 113 := ⟨by decide +kernel, rfl⟩
theorem iX8_save_113 : zPi mX8_save 113 1 114 := Or.inl ⟨1, by decide +kernel, by decide, rfl⟩
theorem iX8_save_114 : zIs mX8_save 114 (.iadd) 1 115 := ⟨by decide +kernel, rfl⟩
theorem iX8_save_115 : zIs mX8_save 115 (.iaload) 1 116 := ⟨by decide +kernel, rfl⟩
theorem iX8_save_116 : zIs mX8_save 116 (.iastore) 1 117 := ⟨by decide +kernel, rfl⟩
theorem iX8_save_117 : zIs mX8_save 117 (.iinc 4 1) 3 120 := ⟨by decide +kernel, rfl⟩
theorem iX8_save_120 : zBr mX8_save 120 .goto 54 123 := ⟨(-66), by decide +kernel, by decide, rfl⟩
theorem iX8_save_123 : zLa mX8_save 123 0 124 := Or.inl ⟨0, by decide +kernel, rfl, rfl⟩
theorem iX8_save_124 : zIs mX8_save 124 (.getfield 86) 3 127 := ⟨by decide +kernel, rfl⟩
theorem iX8_save_127 : zPi mX8_save 127 16 129 := Or.inr (Or.inl ⟨16, by decide +kernel, by decide, rfl⟩)
theorem iX8_save_129 : zLi mX8_save 129 2 130 := Or.inl ⟨2, by decide +kernel, rfl, rfl⟩
theorem iX8_save_130 : zIs mX8_save 130 (.imul) 1 131 := ⟨by decide +kernel, rfl⟩
theorem iX8_save_131 : zLa mX8_save 131 0 132 := Or.inl ⟨0, by decide +kernel, rfl, rfl⟩
theorem iX8_save_132 : zIs mX8_save 132 (.getfield 83) 3 135 := ⟨by decide +kernel, rfl⟩
theorem iX8_save_135 : zLi mX8_save 135 2 136 := Or.inl ⟨2, by decide +kernel, rfl, rfl⟩
theorem iX8_save_136 : zIs mX8_save 136 (.iaload) 1 137 := ⟨by decide +kernel, rfl⟩
theorem iX8_save_137 : zIs mX8_save 137 (.iadd) 1 138 := ⟨by decide +kernel, rfl⟩
theorem iX8_save_138 : zLi mX8_save 138 1 139 := Or.inl ⟨1, by decide +kernel, rfl, rfl⟩
theorem iX8_save_139 : zIs mX8_save 139 (.iastore) 1 140 := ⟨by decide +kernel, rfl⟩
theorem iX8_save_140 : zLa mX8_save 140 0 141 := Or.inl ⟨0, by decide +kernel, rfl, rfl⟩
theorem iX8_save_141 : zIs mX8_save 141 (.getfield 89) 3 144 := ⟨by decide +kernel, rfl⟩
theorem iX8_save_144 : zPi mX8_save 144 16 146 := Or.inr (Or.inl ⟨16, by decide +kernel, by decide, rfl⟩)
theorem iX8_save_146 : zLi mX8_save 146 2 147 := Or.inl ⟨2, by decide +kernel, rfl, rfl⟩
theorem iX8_save_147 : zIs mX8_save 147 (.imul) 1 148 := ⟨by decide +kernel, rfl⟩
theorem iX8_save_148 : zLa mX8_save 148 0 149 := Or.inl ⟨0, by decide +kernel, rfl, rfl⟩
theorem iX8_save_149 : zIs mX8_save 149 (.getfield 83) 3 152 := ⟨by decide +kernel, rfl⟩
theorem iX8_save_152 : zLi mX8_save 152 2 153 := Or.inl ⟨2, by decide +kernel, rfl, rfl⟩
theorem iX8_save_153 : zIs mX8_save 153 (.iaload) 1 154 := ⟨by decide +kernel, rfl⟩
theorem iX8_save_154 : zIs mX8_save 154 (.iadd) 1 155 := ⟨by decide +kernel, rfl⟩
theorem iX8_save_155 : zLa mX8_save 155 0 156 := Or.inl ⟨0, by decide +kernel, rfl, rfl⟩
theorem iX8_save_156 : zIs mX8_save 156 (.getfield 144) 3 159 := ⟨by decide +kernel, rfl⟩
theorem iX8_save_159 : zIs mX8_save 159 (.iastore) 1 160 := ⟨by decide +kernel, rfl⟩
theorem iX8_save_160 : zLa mX8_save 160 0 161 := Or.inl ⟨0, by decide +kernel, rfl, rfl⟩
theorem iX8_save_161 : zIs mX8_save 161 (.getfield 83) 3 164 := ⟨by decide +kernel, rfl⟩
theorem iX8_save_164 : zLi mX8_save 164 2 165 := Or.inl ⟨2, by decide +kernel, rfl, rfl⟩
theorem iX8_save_165 : zIs mX8_save 165 (.dup2) 1 166 := ⟨by decide +kernel, rfl⟩
theorem iX8_save_166 : zIs mX8_save 166 (.iaload) 1 167 := ⟨by decide +kernel, rfl⟩
theorem iX8_save_167 : zPi mX8_save 167 1 168 := Or.inl ⟨1, by decide +kernel, by decide, rfl⟩
theorem iX8_save_168 : zIs mX8_save 168 (.iadd) 1 169 := ⟨by decide +kernel, rfl⟩
theorem iX8_save_169 : zIs mX8_save 169 (.iastore) 1 170 := ⟨by decide +kernel, rfl⟩
theorem iX8_save_170 : zLa mX8_save 170 0 171 := Or.inl ⟨0, by decide +kernel, rfl, rfl⟩
theorem iX8_save_171 : zPi mX8_save 171 1 172 := Or.inl ⟨1, by decide +kernel, by decide, rfl⟩
theorem iX8_save_172 : zIs mX8_save 172 (.invokevirtual 195) 3 175 := ⟨by decide +kernel, rfl⟩
theorem iX8_save_175 : zIs mX8_save 175 (.ireturn) 1 176 := ⟨by decide +kernel, rfl⟩
theorem iX8_back_0 : zLi mX8_back 0 1 1 := Or.inl ⟨1, by decide +kernel, rfl, rfl⟩
theorem iX8_back_1 : zPi mX8_back 1 0 2 := Or.inl ⟨0, by decide +kernel, by decide, rfl⟩
theorem iX8_back_2 : zPi mX8_back 2 15 4 := Or.inr (Or.inl ⟨15, by decide +kernel, by decide, rfl⟩)
theorem iX8_back_4 : zIs mX8_back 4 (.invokestatic 123) 3 7 := ⟨by decide +kernel, rfl⟩
theorem iX8_back_7 : zBr mX8_back 7 (.ifCond .ne) 13 10 := ⟨6, by decide +kernel, by decide, rfl⟩
theorem iX8_back_10 : zPi mX8_back 10 (-102) 12 := Or.inr (Or.inl ⟨(-102), by decide +kernel, by decide, rfl⟩)
theorem iX8_back_12 : zIs mX8_back 12 (.ireturn) 1 13 := ⟨by decide +kernel, rfl⟩
theorem iX8_back_13 : zLa mX8_back 13 0 14 := Or.inl ⟨0, by decide +kernel, rfl, rfl⟩
theorem iX8_back_14 : zIs mX8_back 14 (.getfield 116) 3 17 := ⟨by decide +kernel, rfl⟩
theorem iX8_back_17 : zBr mX8_back 17 (.ifCond .ne) 24 20 := ⟨7, by decide +kernel, by decide, rfl⟩
theorem iX8_back_20 : zPi mX8_back 20 (-1) 21 := Or.inl ⟨(-1), by decide +kernel, by decide, rfl⟩
theorem iX8_back_21 : zBr mX8_back 21 .goto 29 24 := ⟨8, by decide +kernel, by decide, rfl⟩
theorem iX8_back_24 : zLa mX8_back 24 0 25 := Or.inl ⟨0, by decide +kernel, rfl, rfl⟩
theorem iX8_back_25 : zLi mX8_back 25 1 26 := Or.inl ⟨1, by decide +kernel, rfl, rfl⟩
theorem iX8_back_26 : zIs mX8_back 26 (.invokevirtual 185) 3 29 := ⟨by decide +kernel, rfl⟩
theorem iX8_back_29 : zSi mX8_back 29 2 30 := ⟨Or.inl ⟨2, by decide +kernel, rfl, rfl⟩, by decide⟩
theorem iX8_back_30 : zLi mX8_back 30 2 31 := Or.inl ⟨2, by decide +kernel, rfl, rfl⟩
theorem iX8_back_31 : zPi mX8_back 31 (-1) 32 := Or.inl ⟨(-1), by decide +kernel, by decide, rfl⟩
theorem iX8_back_32 : zBr mX8_back 32 (.if_icmp .ne) 38 35 := ⟨6, by decide +kernel, by decide, rfl⟩
theorem iX8_back_35 : zPi mX8_back 35 (-103) 37 := Or.inr (Or.inl ⟨(-103), by decide +kernel, by decide, rfl⟩)
theorem iX8_back_37 : zIs mX8_back 37 (.ireturn) 1 38 := ⟨by decide +kernel, rfl⟩
theorem iX8_back_38 : zLa mX8_back 38 0 39 := Or.inl ⟨0, by decide +kernel, rfl, rfl⟩
theorem iX8_back_39 : zIs mX8_back 39 (.getfield 116) 3 42 := ⟨by decide +kernel, rfl⟩
theorem iX8_back_42 : zPi mX8_back 42 1 43 := Or.inl ⟨1, by decide +kernel, by decide, rfl⟩
theorem iX8_back_43 : zIs mX8_back 43 (.isub) 1 44 := ⟨by decide +kernel, rfl⟩
theorem iX8_back_44 : zSi mX8_back 44 3 45 := ⟨Or.inl ⟨3, by decide +kernel, rfl, rfl⟩, by decide⟩
theorem iX8_back_45 : zLa mX8_back 45 0 46 := Or.inl ⟨0, by decide +kernel, rfl, rfl⟩
theorem iX8_back_46 : zIs mX8_back 46 (.getfield 83) 3 49 := ⟨by decide +kernel, rfl⟩
theorem iX8_back_49 : zLi mX8_back 49 3 50 := Or.inl ⟨3, by decide +kernel, rfl, rfl⟩
theorem iX8_back_50 : zLi mX8_back 50 2 51 := Or.inl ⟨2, by decide +kernel, rfl, rfl⟩
theorem iX8_back_51 : zPi mX8_back 51 1 52 := Or.inl ⟨1, by decide +kernel, by decide, rfl⟩
theorem iX8_back_52 : zIs mX8_back 52 (.iadd) 1 53 := ⟨by decide +kernel, rfl⟩
theorem iX8_back_53 : zIs mX8_back 53 (.iastore) 1 54 := ⟨by decide +kernel, rfl⟩
theorem iX8_back_54 : zLa mX8_back 54 0 55 := Or.inl ⟨0, by decide +kernel, rfl, rfl⟩
theorem iX8_back_55 : zLa mX8_back 55 0 56 := Or.inl ⟨0, by decide +kernel, rfl, rfl⟩
theorem iX8_back_56 : zIs mX8_back 56 (.getfield 89) 3 59 := ⟨by decide +kernel, rfl⟩
theorem iX8_back_59 : zPi mX8_back 59 16 61 := Or.inr (Or.inl ⟨16, by decide +kernel, by decide, rfl⟩)
theorem iX8_back_61 : zLi mX8_back 61 3 62 := Or.inl ⟨3, by decide +kernel, rfl, rfl⟩
theorem iX8_back_62 : zIs mX8_back 62 (.imul) 1 63 := ⟨by decide +kernel, rfl⟩
theorem iX8_back_63 : zLi mX8_back 63 2 64 := Or.inl ⟨2, by decide +kernel, rfl, rfl⟩
theorem iX8_back_64 : zIs mX8_back 64 (.iadd) 1 65 := ⟨by decide +kernel, rfl⟩
theorem iX8_back_65 : zIs mX8_back 65 (.iaload) 1 66 := ⟨by decide +kernel, rfl⟩
theorem iX8_back_66 : zIs mX8_back 66 (.invokevirtual 188) 3 69 := ⟨by decide +kernel, rfl⟩
theorem iX8_back_69 : zLa mX8_back 69 0 70 := Or.inl ⟨0, by decide +kernel, rfl, rfl⟩
theorem iX8_back_70 : zIs mX8_back 70 (.getfield 83) 3 73 := ⟨by decide +kernel, rfl⟩
theorem iX8_back_73 : zLi mX8_back 73 3 74 := Or.inl ⟨3, by decide +kernel, rfl, rfl⟩
theorem iX8_back_74 : zIs mX8_back 74 (.iaload) 1 75 := ⟨by decide +kernel, rfl⟩
theorem iX8_back_75 : zIs mX8_back 75 (.ireturn) 1 76 := ⟨by decide +kernel, rfl⟩
theorem iX8_release_0 : zLi mX8_release 0 1 1 := Or.inl ⟨1, by decide +kernel, rfl, rfl⟩
theorem iX8_release_1 : zPi mX8_release 1 0 2 := Or.inl ⟨0, by decide +kernel, by decide, rfl⟩
theorem iX8_release_2 : zPi mX8_release 2 15 4 := Or.inr (Or.inl ⟨15, by decide +kernel, by decide, rfl⟩)
theorem iX8_release_4 : zIs mX8_release 4 (.invokestatic 123) 3 7 := ⟨by decide +kernel, rfl⟩
theorem iX8_release_7 : zBr mX8_release 7 (.ifCond .ne) 13 10 := ⟨6, by decide +kernel, by decide, rfl⟩
theorem iX8_release_10 : zPi mX8_release 10 (-102) 12 := Or.inr (Or.inl ⟨(-102), by decide +kernel, by decide, rfl⟩)
theorem iX8_release_12 : zIs mX8_release 12 (.ireturn) 1 13 := ⟨by decide +kernel, rfl⟩
theorem iX8_release_13 : zLa mX8_release 13 0 14 := Or.inl ⟨0, by decide +kernel, rfl, rfl⟩
theorem iX8_release_14 : zIs mX8_release 14 (.getfield 116) 3 17 := ⟨by decide +kernel, rfl⟩
theorem iX8_release_17 : zBr mX8_release 17 (.ifCond .ne) 24 20 := ⟨7, by decide +kernel, by decide, rfl⟩
theorem iX8_release_20 : zPi mX8_release 20 (-1) 21 := Or.inl ⟨(-1), by decide +kernel, by decide, rfl⟩
theorem iX8_release_21 : zBr mX8_release 21 .goto 29 24 := ⟨8, by decide +kernel, by decide, rfl⟩
theorem iX8_release_24 : zLa mX8_release 24 0 25 := Or.inl ⟨0, by decide +kernel, rfl, rfl⟩
theorem iX8_release_25 : zLi mX8_release 25 1 26 := Or.inl ⟨1, by decide +kernel, rfl, rfl⟩
theorem iX8_release_26 : zIs mX8_release 26 (.invokevirtual 185) 3 29 := ⟨by decide +kernel, rfl⟩
theorem iX8_release_29 : zSi mX8_release 29 2 30 := ⟨Or.inl ⟨2, by decide +kernel, rfl, rfl⟩, by decide⟩
theorem iX8_release_30 : zLi mX8_release 30 2 31 := Or.inl ⟨2, by decide +kernel, rfl, rfl⟩
theorem iX8_release_31 : zPi mX8_release 31 (-1) 32 := Or.inl ⟨(-1), by decide +kernel, by decide, rfl⟩
theorem iX8_release_32 : zBr mX8_release 32 (.if_icmp .ne) 38 35 := ⟨6, by decide +kernel, by decide, rfl⟩
theorem iX8_release_35 : zPi mX8_release 35 (-103) 37 := Or.inr (Or.inl ⟨(-103), by decide +kernel, by decide, rfl⟩)
theorem iX8_release_37 : zIs mX8_release 37 (.ireturn) 1 38 := ⟨by decide +kernel, rfl⟩
theorem iX8_release_38 : zLa mX8_release 38 0 39 := Or.inl ⟨0, by decide +kernel, rfl, rfl⟩
theorem iX8_release_39 : zIs mX8_release 39 (.getfield 83) 3 42 := ⟨by decide +kernel, rfl⟩
theorem iX8_release_42 : zLa mX8_release 42 0 43 := Or.inl ⟨0, by decide +kernel, rfl, rfl⟩
theorem iX8_release_43 : zIs mX8_release 43 (.getfield 116) 3 46 := ⟨by decide +kernel, rfl⟩
theorem iX8_release_46 : zPi mX8_release 46 1 47 := Or.inl ⟨1, by decide +kernel, by decide, rfl⟩
theorem iX8_release_47 : zIs mX8_release 47 (.isub) 1 48 := ⟨by decide +kernel, rfl⟩
theorem iX8_release_48 : zLi mX8_release 48 2 49 := Or.inl ⟨2, by decide +kernel, rfl, rfl⟩
theorem iX8_release_49 : zIs mX8_release 49 (.iastore) 1 50 := ⟨by decide +kernel, rfl⟩
theorem iX8_release_50 : zLi mX8_release 50 2 51 := Or.inl ⟨2, by decide +kernel, rfl, rfl⟩
theorem iX8_release_51 : zIs mX8_release 51 (.ireturn) 1 52 := ⟨by decide +kernel, rfl⟩
theorem iX8_guard_0 : zLi mX8_guard 0 1 1 := Or.inl ⟨1, by decide +kernel, rfl, rfl⟩
theorem iX8_guard_1 : zPi mX8_guard 1 0 2 := Or.inl ⟨0, by decide +kernel, by decide, rfl⟩
theorem iX8_guard_2 : zPi mX8_guard 2 11 4 := Or.inr (Or.inl ⟨11, by decide +kernel, by decide, rfl⟩)
theorem iX8_guard_4 : zIs mX8_guard 4 (.invokestatic 123) 3 7 := ⟨by decide +kernel, rfl⟩
theorem iX8_guard_7 : zBr mX8_guard 7 (.ifCond .eq) 20 10 := ⟨13, by decide +kernel, by decide, rfl⟩
theorem iX8_guard_10 : zLi mX8_guard 10 2 11 := Or.inl ⟨2, by decide +kernel, rfl, rfl⟩
theorem iX8_guard_11 : zPi mX8_guard 11 0 12 := Or.inl ⟨0, by decide +kernel, by decide, rfl⟩
theorem iX8_guard_12 : zPi mX8_guard 12 15 14 := Or.inr (Or.inl ⟨15, by decide +kernel, by decide, rfl⟩)
theorem iX8_guard_14 : zIs mX8_guard 14 (.invokestatic 123) 3 17 := ⟨by decide +kernel, rfl⟩
theorem iX8_guard_17 : zBr mX8_guard 17 (.ifCond .ne) 23 20 := ⟨6, by decide +kernel, by decide, rfl⟩
theorem iX8_guard_20 : zPi mX8_guard 20 (-102) 22 := Or.inr (Or.inl ⟨(-102), by decide +kernel, by decide, rfl⟩)
theorem iX8_guard_22 : zIs mX8_guard 22 (.ireturn) 1 23 := ⟨by decide +kernel, rfl⟩
theorem iX8_guard_23 : zLa mX8_guard 23 0 24 := Or.inl ⟨0, by decide +kernel, rfl, rfl⟩
theorem iX8_guard_24 : zIs mX8_guard 24 (.getfield 116) 3 27 := ⟨by decide +kernel, rfl⟩
theorem iX8_guard_27 : zBr mX8_guard 27 (.ifCond .ne) 33 30 := ⟨6, by decide +kernel, by decide, rfl⟩
theorem iX8_guard_30 : zPi mX8_guard 30 (-103) 32 := Or.inr (Or.inl ⟨(-103), by decide +kernel, by decide, rfl⟩)
theorem iX8_guard_32 : zIs mX8_guard 32 (.ireturn) 1 33 := ⟨by decide +kernel, rfl⟩
theorem iX8_guard_33 : zLa mX8_guard 33 0 34 := Or.inl ⟨0, by decide +kernel, rfl, rfl⟩
theorem iX8_guard_34 : zIs mX8_guard 34 (.getfield 116) 3 37 := ⟨by decide +kernel, rfl⟩
theorem iX8_guard_37 : zPi mX8_guard 37 1 38 := Or.inl ⟨1, by decide +kernel, by decide, rfl⟩
theorem iX8_guard_38 : zIs mX8_guard 38 (.isub) 1 39 := ⟨by decide +kernel, rfl⟩
theorem iX8_guard_39 : zSi mX8_guard 39 3 40 := ⟨Or.inl ⟨3, by decide +kernel, rfl, rfl⟩, by decide⟩
theorem iX8_guard_40 : zLa mX8_guard 40 0 41 := Or.inl ⟨0, by decide +kernel, rfl, rfl⟩
theorem iX8_guard_41 : zIs mX8_guard 41 (.getfield 92) 3 44 := ⟨by decide +kernel, rfl⟩
theorem iX8_guard_44 : zLi mX8_guard 44 3 45 := Or.inl ⟨3, by decide +kernel, rfl, rfl⟩
theorem iX8_guard_45 : zIs mX8_guard 45 (.iaload) 1 46 := ⟨by decide +kernel, rfl⟩
theorem iX8_guard_46 : zPi mX8_guard 46 8 48 := Or.inr (Or.inl ⟨8, by decide +kernel, by decide, rfl⟩)
theorem iX8_guard_48 : zBr mX8_guard 48 (.if_icmp .ne) 54 51 := ⟨6, by decide +kernel, by decide, rfl⟩
theorem iX8_guard_51 : zPi mX8_guard 51 (-104) 53 := Or.inr (Or.inl ⟨(-104), by decide +kernel, by decide, rfl⟩)
theorem iX8_guard_53 : zIs mX8_guard 53 (.ireturn) 1 54 := ⟨by decide +kernel, rfl⟩
theorem iX8_guard_54 : zLa mX8_guard 54 0 55 := Or.inl ⟨0, by decide +kernel, rfl, rfl⟩
theorem iX8_guard_55 : zIs mX8_guard 55 (.getfield 95) 3 58 := ⟨by decide +kernel, rfl⟩
theorem iX8_guard_58 : zPi mX8_guard 58 8 60 := Or.inr (Or.inl ⟨8, by decide +kernel, by decide, rfl⟩)
theorem iX8_guard_60 : zLi mX8_guard 60 3 61 := Or.inl ⟨3, by decide +kernel, rfl, rfl⟩
theorem iX8_guard_61 : zIs mX8_guard 61 (.imul) 1 62 := ⟨by decide +kernel, rfl⟩
theorem iX8_guard_62 : zLa mX8_guard 62 0 63 := Or.inl ⟨0, by decide +kernel, rfl, rfl⟩
theorem iX8_guard_63 : zIs mX8_guard 63 (.getfield 92) 3 66 := ⟨by decide +kernel, rfl⟩
theorem iX8_guard_66 : zLi mX8_guard 66 3 67 := Or.inl ⟨3, by decide +kernel, rfl, rfl⟩
theorem iX8_guard_67 : zIs mX8_guard 67 (.iaload) 1 68 := ⟨by decide +kernel, rfl⟩
theorem iX8_guard_68 : zIs mX8_guard 68 (.iadd) 1 69 := ⟨by decide +kernel, rfl⟩
theorem iX8_guard_69 : zLi mX8_guard 69 1 70 := Or.inl ⟨1, by decide +kernel, rfl, rfl⟩
end
section
theorem iX8_guard_70 : zIs mX8_guard 70 (.iastore) 1 71 := ⟨by decide +kernel, rfl⟩
theorem iX8_guard_71 : zLa mX8_guard 71 0 72 := Or.inl ⟨0, by decide +kernel, rfl, rfl⟩
theorem iX8_guard_72 : zIs mX8_guard 72 (.getfield 98) 3 75 := ⟨by decide +kernel, rfl⟩
theorem iX8_guard_75 : zPi mX8_guard 75 8 77 := Or.inr (Or.inl ⟨8, by decide +kernel, by decide, rfl⟩)
theorem iX8_guard_77 : zLi mX8_guard 77 3 78 := Or.inl ⟨3, by decide +kernel, rfl, rfl⟩
theorem iX8_guard_78 : zIs mX8_guard 78 (.imul) 1 79 := ⟨by decide +kernel, rfl⟩
theorem iX8_guard_79 : zLa mX8_guard 79 0 80 := Or.inl ⟨0, by decide +kernel, rfl, rfl⟩
theorem iX8_guard_80 : zIs mX8_guard 80 (.getfield 92) 3 83 := ⟨by decide +kernel, rfl⟩
theorem iX8_guard_83 : zLi mX8_guard 83 3 84 := Or.inl ⟨3, by decide +kernel, rfl, rfl⟩
theorem iX8_guard_84 : zIs mX8_guard 84 (.iaload) 1 85 := ⟨by decide +kernel, rfl⟩
theorem iX8_guard_85 : zIs mX8_guard 85 (.iadd) 1 86 := ⟨by decide +kernel, rfl⟩
theorem iX8_guard_86 : zLi mX8_guard 86 2 87 := Or.inl ⟨2, by decide +kernel, rfl, rfl⟩
theorem iX8_guard_87 : zIs mX8_guard 87 (.iastore) 1 88 := ⟨by decide +kernel, rfl⟩
theorem iX8_guard_88 : zLa mX8_guard 88 0 89 := Or.inl ⟨0, by decide +kernel, rfl, rfl⟩
theorem iX8_guard_89 : zIs mX8_guard 89 (.getfield 92) 3 92 := ⟨by decide +kernel, rfl⟩
theorem iX8_guard_92 : zLi mX8_guard 92 3 93 := Or.inl ⟨3, by decide +kernel, rfl, rfl⟩
theorem iX8_guard_93 : zIs mX8_guard 93 (.dup2) 1 94 := ⟨by decide +kernel, rfl⟩
theorem iX8_guard_94 : zIs mX8_guard 94 (.iaload) 1 95 := ⟨by decide +kernel, rfl⟩
theorem iX8_guard_95 : zPi mX8_guard 95 1 96 := Or.inl ⟨1, by decide +kernel, by decide, rfl⟩
theorem iX8_guard_96 : zIs mX8_guard 96 (.iadd) 1 97 := ⟨by decide +kernel, rfl⟩
theorem iX8_guard_97 : zIs mX8_guard 97 (.iastore) 1 98 := ⟨by decide +kernel, rfl⟩
theorem iX8_guard_98 : zLa mX8_guard 98 0 99 := Or.inl ⟨0, by decide +kernel, rfl, rfl⟩
theorem iX8_guard_99 : zIs mX8_guard 99 (.getfield 92) 3 102 := ⟨by decide +kernel, rfl⟩
theorem iX8_guard_102 : zLi mX8_guard 102 3 103 := Or.inl ⟨3, by decide +kernel, rfl, rfl⟩
theorem iX8_guard_103 : zIs mX8_guard 103 (.iaload) 1 104 := ⟨by decide +kernel, rfl⟩
theorem iX8_guard_104 : zIs mX8_guard 104 (.ireturn) 1 105 := ⟨by decide +kernel, rfl⟩
theorem iX8_keep_0 : zLa mX8_keep 0 0 1 := Or.inl ⟨0, by decide +kernel, rfl, rfl⟩
theorem iX8_keep_1 : zPi mX8_keep 1 1 2 := Or.inl ⟨1, by decide +kernel, by decide, rfl⟩
theorem iX8_keep_2 : zIs mX8_keep 2 (.putfield 198) 3 5 := ⟨by decide +kernel, rfl⟩
theorem iX8_keep_5 : zLa mX8_keep 5 0 6 := Or.inl ⟨0, by decide +kernel, rfl, rfl⟩
theorem iX8_keep_6 : zLi mX8_keep 6 1 7 := Or.inl ⟨1, by decide +kernel, rfl, rfl⟩
theorem iX8_keep_7 : zIs mX8_keep 7 (.putfield 202) 3 10 := ⟨by decide +kernel, rfl⟩
theorem iX8_keep_10 : zPi mX8_keep 10 0 11 := Or.inl ⟨0, by decide +kernel, by decide, rfl⟩
theorem iX8_keep_11 : zSi mX8_keep 11 2 12 := ⟨Or.inl ⟨2, by decide +kernel, rfl, rfl⟩, by decide⟩
theorem iX8_keep_12 : zLi mX8_keep 12 2 13 := Or.inl ⟨2, by decide +kernel, rfl, rfl⟩
theorem iX8_keep_13 : zPi mX8_keep 13 400 16 := Or.inr (Or.inr (Or.inl ⟨400, by decide +kernel, by decide, rfl⟩))
theorem iX8_keep_16 : zBr mX8_keep 16 (.if_icmp .ge) 37 19 := ⟨21, by decide +kernel, by decide, rfl⟩
theorem iX8_keep_19 : zLa mX8_keep 19 0 20 := Or.inl ⟨0, by decide +kernel, rfl, rfl⟩
theorem iX8_keep_20 : zIs mX8_keep 20 (.getfield 104) 3 23 := ⟨by decide +kernel, rfl⟩
theorem iX8_keep_23 : zLi mX8_keep 23 2 24 := Or.inl ⟨2, by decide +kernel, rfl, rfl⟩
theorem iX8_keep_24 : zLa mX8_keep 24 0 25 := Or.inl ⟨0, by decide +kernel, rfl, rfl⟩
theorem iX8_keep_25 : zIs mX8_keep 25 (.getfield 62) 3 28 := ⟨by decide +kernel, rfl⟩
theorem iX8_keep_28 : zLi mX8_keep 28 2 29 := Or.inl ⟨2, by decide +kernel, rfl, rfl⟩
theorem iX8_keep_29 : zIs mX8_keep 29 (.baload) 1 30 := ⟨by decide +kernel, rfl⟩
theorem iX8_keep_30 : zIs mX8_keep 30 (.bastore) 1 31 := ⟨by decide +kernel, rfl⟩
theorem iX8_keep_31 : zIs mX8_keep 31 (.iinc 2 1) 3 34 := ⟨by decide +kernel, rfl⟩
theorem iX8_keep_34 : zBr mX8_keep 34 .goto 12 37 := ⟨(-22), by decide +kernel, by decide, rfl⟩
theorem iX8_keep_37 : zPi mX8_keep 37 0 38 := Or.inl ⟨0, by decide +kernel, by decide, rfl⟩
theorem iX8_keep_38 : zSi mX8_keep 38 2 39 := ⟨Or.inl ⟨2, by decide +kernel, rfl, rfl⟩, by decide⟩
theorem iX8_keep_39 : zLi mX8_keep 39 2 40 := Or.inl ⟨2, by decide +kernel, rfl, rfl⟩
theorem iX8_keep_40 : zPi mX8_keep 40 12 42 := Or.inr (Or.inl ⟨12, by decide +kernel, by decide, rfl⟩)
theorem iX8_keep_42 : zBr mX8_keep 42 (.if_icmp .ge) 63 45 := ⟨21, by decide +kernel, by decide, rfl⟩
theorem iX8_keep_45 : zLa mX8_keep 45 0 46 := Or.inl ⟨0, by decide +kernel, rfl, rfl⟩
theorem iX8_keep_46 : zIs mX8_keep 46 (.getfield 107) 3 49 := ⟨by decide +kernel, rfl⟩
theorem iX8_keep_49 : zLi mX8_keep 49 2 50 := Or.inl ⟨2, by decide +kernel, rfl, rfl⟩
theorem iX8_keep_50 : zLa mX8_keep 50 0 51 := Or.inl ⟨0, by decide +kernel, rfl, rfl⟩
theorem iX8_keep_51 : zIs mX8_keep 51 (.getfield 22) 3 54 := ⟨by decide +kernel, rfl⟩
theorem iX8_keep_54 : zLi mX8_keep 54 2 55 := Or.inl ⟨2, by decide +kernel, rfl, rfl⟩
theorem iX8_keep_55 : zIs mX8_keep 55 (.baload) 1 56 := ⟨by decide +kernel, rfl⟩
theorem iX8_keep_56 : zIs mX8_keep 56 (.bastore) 1 57 := ⟨by decide +kernel, rfl⟩
theorem iX8_keep_57 : zIs mX8_keep 57 (.iinc 2 1) 3 60 := ⟨by decide +kernel, rfl⟩
theorem iX8_keep_60 : zBr mX8_keep 60 .goto 39 63 := ⟨(-21), by decide +kernel, by decide, rfl⟩
theorem iX8_keep_63 : zIs mX8_keep 63 (.return_) 1 64 := ⟨by decide +kernel, rfl⟩
theorem iX8_end_0 : zLa mX8_end 0 0 1 := Or.inl ⟨0, by decide +kernel, rfl, rfl⟩
theorem iX8_end_1 : zIs mX8_end 1 (.getfield 116) 3 4 := ⟨by decide +kernel, rfl⟩
theorem iX8_end_4 : zBr mX8_end 4 (.ifCond .ne) 10 7 := ⟨6, by decide +kernel, by decide, rfl⟩
theorem iX8_end_7 : zPi mX8_end 7 (-103) 9 := Or.inr (Or.inl ⟨(-103), by decide +kernel, by decide, rfl⟩)
theorem iX8_end_9 : zIs mX8_end 9 (.ireturn) 1 10 := ⟨by decide +kernel, rfl⟩
theorem iX8_end_10 : zLa mX8_end 10 0 11 := Or.inl ⟨0, by decide +kernel, rfl, rfl⟩
theorem iX8_end_11 : zPi mX8_end 11 2 12 := Or.inl ⟨2, by decide +kernel, by decide, rfl⟩
theorem iX8_end_12 : zIs mX8_end 12 (.invokevirtual 195) 3 15 := ⟨by decide +kernel, rfl⟩
theorem iX8_end_15 : zSi mX8_end 15 1 16 := ⟨Or.inl ⟨1, by decide +kernel, rfl, rfl⟩, by decide⟩
theorem iX8_end_16 : zLi mX8_end 16 1 17 := Or.inl ⟨1, by decide +kernel, rfl, rfl⟩
theorem iX8_end_17 : zBr mX8_end 17 (.ifCond .eq) 22 20 := ⟨5, by decide +kernel, by decide, rfl⟩
theorem iX8_end_20 : zLi mX8_end 20 1 21 := Or.inl ⟨1, by decide +kernel, rfl, rfl⟩
theorem iX8_end_21 : zIs mX8_end 21 (.ireturn) 1 22 := ⟨by decide +kernel, rfl⟩
theorem iX8_end_22 : zLa mX8_end 22 0 23 := Or.inl ⟨0, by decide +kernel, rfl, rfl⟩
theorem iX8_end_23 : zIs mX8_end 23 (.dup) 1 24 := ⟨by decide +kernel, rfl⟩
theorem iX8_end_24 : zIs mX8_end 24 (.getfield 116) 3 27 := ⟨by decide +kernel, rfl⟩
theorem iX8_end_27 : zPi mX8_end 27 1 28 := Or.inl ⟨1, by decide +kernel, by decide, rfl⟩
theorem iX8_end_28 : zIs mX8_end 28 (.isub) 1 29 := ⟨by decide +kernel, rfl⟩
theorem iX8_end_29 : zIs mX8_end 29 (.putfield 116) 3 32 := ⟨by decide +kernel, rfl⟩
theorem iX8_end_32 : zLa mX8_end 32 0 33 := Or.inl ⟨0, by decide +kernel, rfl, rfl⟩
theorem iX8_end_33 : zIs mX8_end 33 (.getfield 116) 3 36 := ⟨by decide +kernel, rfl⟩
theorem iX8_end_36 : zBr mX8_end 36 (.ifCond .le) 41 39 := ⟨5, by decide +kernel, by decide, rfl⟩
theorem iX8_end_39 : zPi mX8_end 39 0 40 := Or.inl ⟨0, by decide +kernel, by decide, rfl⟩
theorem iX8_end_40 : zIs mX8_end 40 (.ireturn) 1 41 := ⟨by decide +kernel, rfl⟩
theorem iX8_end_41 : zLa mX8_end 41 0 42 := Or.inl ⟨0, by decide +kernel, rfl, rfl⟩
theorem iX8_end_42 : zIs mX8_end 42 (.dup) 1 43 := ⟨by decide +kernel, rfl⟩
theorem iX8_end_43 : zIs mX8_end 43 (.getfield 205) 3 46 := ⟨by decide +kernel, rfl⟩
theorem iX8_end_46 : zPi mX8_end 46 1 47 := Or.inl ⟨1, by decide +kernel, by decide, rfl⟩
theorem iX8_end_47 : zIs mX8_end 47 (.iadd) 1 48 := ⟨by decide +kernel, rfl⟩
theorem iX8_end_48 : zIs mX8_end 48 (.putfield 205) 3 51 := ⟨by decide +kernel, rfl⟩
theorem iX8_end_51 : zLa mX8_end 51 0 52 := Or.inl ⟨0, by decide +kernel, rfl, rfl⟩
theorem iX8_end_52 : zLa mX8_end 52 0 53 := Or.inl ⟨0, by decide +kernel, rfl, rfl⟩
theorem iX8_end_53 : zIs mX8_end 53 (.getfield 80) 3 56 := ⟨by decide +kernel, rfl⟩
theorem iX8_end_56 : zPi mX8_end 56 0 57 := Or.inl ⟨0, by decide +kernel, by decide, rfl⟩
theorem iX8_end_57 : zIs mX8_end 57 (.iaload) 1 58 := ⟨by decide +kernel, rfl⟩
theorem iX8_end_58 : zIs mX8_end 58 (.invokevirtual 208) 3 61 := ⟨by decide +kernel, rfl⟩
theorem iX8_end_61 : zPi mX8_end 61 0 62 := Or.inl ⟨0, by decide +kernel, by decide, rfl⟩
theorem iX8_end_62 : zSi mX8_end 62 2 63 := ⟨Or.inl ⟨2, by decide +kernel, rfl, rfl⟩, by decide⟩
theorem iX8_end_63 : zLi mX8_end 63 2 64 := Or.inl ⟨2, by decide +kernel, rfl, rfl⟩
theorem iX8_end_64 : zLa mX8_end 64 0 65 := Or.inl ⟨0, by decide +kernel, rfl, rfl⟩
theorem iX8_end_65 : zIs mX8_end 65 (.getfield 141) 3 68 := ⟨by decide +kernel, rfl⟩
theorem iX8_end_68 : zBr mX8_end 68 (.if_icmp .ge) 127 71 := ⟨59, by decide +kernel, by decide, rfl⟩
theorem iX8_end_71 : zLa mX8_end 71 0 72 := Or.inl ⟨0, by decide +kernel, rfl, rfl⟩
theorem iX8_end_72 : zIs mX8_end 72 (.getfield 47) 3 75 := ⟨by decide +kernel, rfl⟩
theorem iX8_end_75 : zLi mX8_end 75 2 76 := Or.inl ⟨2, by decide +kernel, rfl, rfl⟩
theorem iX8_end_76 : zIs mX8_end 76 (.dup2) 1 77 := ⟨by decide +kernel, rfl⟩
theorem iX8_end_77 : zIs mX8_end 77 (.iaload) 1 78 := ⟨by decide +kernel, rfl⟩
theorem iX8_end_78 : zPi mX8_end 78 1 79 := Or.inl ⟨1, by decide +kernel, by decide, rfl⟩
theorem iX8_end_79 : zIs mX8_end 79 (.iadd) 1 80 := ⟨by decide +kernel, rfl⟩
theorem iX8_end_80 : zIs mX8_end 80 (.iastore) 1 81 := ⟨by decide +kernel, rfl⟩
theorem iX8_end_81 : zLa mX8_end 81 0 82 := Or.inl ⟨0, by decide +kernel, rfl, rfl⟩
theorem iX8_end_82 : zIs mX8_end 82 (.dup) 1 83 := ⟨by decide +kernel, rfl⟩
theorem iX8_end_83 : zIs mX8_end 83 (.getfield 211) 3 86 := ⟨by decide +kernel, rfl⟩
theorem iX8_end_86 : zPi mX8_end 86 1 87 := Or.inl ⟨1, by decide +kernel, by decide, rfl⟩
theorem iX8_end_87 : zIs mX8_end 87 (.iadd) 1 88 := ⟨by decide +kernel, rfl⟩
theorem iX8_end_88 : zIs mX8_end 88 (.putfield 211) 3 91 := ⟨by decide +kernel, rfl⟩
theorem iX8_end_91 : zLa mX8_end 91 0 92 := Or.inl ⟨0, by decide +kernel, rfl, rfl⟩
theorem iX8_end_92 : zIs mX8_end 92 (.getfield 47) 3 95 := ⟨by decide +kernel, rfl⟩
theorem iX8_end_95 : zLi mX8_end 95 2 96 := Or.inl ⟨2, by decide +kernel, rfl, rfl⟩
theorem iX8_end_96 : zIs mX8_end 96 (.iaload) 1 97 := ⟨by decide +kernel, rfl⟩
theorem iX8_end_97 : zLa mX8_end 97 0 98 := Or.inl ⟨0, by decide +kernel, rfl, rfl⟩
theorem iX8_end_98 : zIs mX8_end 98 (.getfield 44) 3 101 := ⟨by decide +kernel, rfl⟩
theorem iX8_end_101 : zLi mX8_end 101 2 102 := Or.inl ⟨2, by decide +kernel, rfl, rfl⟩
theorem iX8_end_102 : zIs mX8_end 102 (.iaload) 1 103 := ⟨by decide +kernel, rfl⟩
theorem iX8_end_103 : zBr mX8_end 103 (.if_icmp .ne) 121 106 := ⟨18, by decide +kernel, by decide, rfl⟩
theorem iX8_end_106 : zLa mX8_end 106 0 107 := Or.inl ⟨0, by decide +kernel, rfl, rfl⟩
theorem iX8_end_107 : zPi mX8_end 107 11 109 := Or.inr (Or.inl ⟨11, by decide +kernel, by decide, rfl⟩)
theorem iX8_end_109 : zPi mX8_end 109 (-2) 111 := Or.inr (Or.inl ⟨(-2), by decide +kernel, by decide, rfl⟩)
theorem iX8_end_111 : zLi mX8_end 111 2 112 := Or.inl ⟨2, by decide +kernel, rfl, rfl⟩
theorem iX8_end_112 : zIs mX8_end 112 (.isub) 1 113 := ⟨by decide +kernel, rfl⟩
theorem iX8_end_113 : zPi mX8_end 113 (-1) 114 := Or.inl ⟨(-1), by decide +kernel, by decide, rfl⟩
theorem iX8_end_114 : zPi mX8_end 114 (-1) 115 := Or.inl ⟨(-1), by decide +kernel, by decide, rfl⟩
theorem iX8_end_115 : zIs mX8_end 115 (.invokevirtual 174) 3 118 := ⟨by decide +kernel, rfl⟩
theorem iX8_end_118 : zSi mX8_end 118 3 119 := ⟨Or.inl ⟨3, by decide +kernel, rfl, rfl⟩, by decide⟩
theorem iX8_end_119 : zPi mX8_end 119 3 120 := Or.inl ⟨3, by decide +kernel, by decide, rfl⟩
theorem iX8_end_120 : zSi mX8_end 120 1 121 := ⟨Or.inl ⟨1, by decide +kernel, rfl, rfl⟩, by decide⟩
theorem iX8_end_121 : zIs mX8_end 121 (.iinc 2 1) 3 124 := ⟨by decide +kernel, rfl⟩
theorem iX8_end_124 : zBr mX8_end 124 .goto 63 127 := ⟨(-61), by decide +kernel, by decide, rfl⟩
theorem iX8_end_127 : zLi mX8_end 127 1 128 := Or.inl ⟨1, by decide +kernel, rfl, rfl⟩
theorem iX8_end_128 : zIs mX8_end 128 (.ireturn) 1 129 := ⟨by decide +kernel, rfl⟩
theorem iX8_drop_0 : zLa mX8_drop 0 0 1 := Or.inl ⟨0, by decide +kernel, rfl, rfl⟩
theorem iX8_drop_1 : zIs mX8_drop 1 (.getfield 116) 3 4 := ⟨by decide +kernel, rfl⟩
theorem iX8_drop_4 : zBr mX8_drop 4 (.ifCond .ne) 10 7 := ⟨6, by decide +kernel, by decide, rfl⟩
theorem iX8_drop_7 : zPi mX8_drop 7 (-103) 9 := Or.inr (Or.inl ⟨(-103), by decide +kernel, by decide, rfl⟩)
theorem iX8_drop_9 : zIs mX8_drop 9 (.ireturn) 1 10 := ⟨by decide +kernel, rfl⟩
theorem iX8_drop_10 : zLa mX8_drop 10 0 11 := Or.inl ⟨0, by decide +kernel, rfl, rfl⟩
theorem iX8_drop_11 : zIs mX8_drop 11 (.dup) 1 12 := ⟨by decide +kernel, rfl⟩
theorem iX8_drop_12 : zIs mX8_drop 12 (.getfield 116) 3 15 := ⟨by decide +kernel, rfl⟩
theorem iX8_drop_15 : zPi mX8_drop 15 1 16 := Or.inl ⟨1, by decide +kernel, by decide, rfl⟩
theorem iX8_drop_16 : zIs mX8_drop 16 (.isub) 1 17 := ⟨by decide +kernel, rfl⟩
theorem iX8_drop_17 : zIs mX8_drop 17 (.putfield 116) 3 20 := ⟨by decide +kernel, rfl⟩
theorem iX8_drop_20 : zLa mX8_drop 20 0 21 := Or.inl ⟨0, by decide +kernel, rfl, rfl⟩
theorem iX8_drop_21 : zLa mX8_drop 21 0 22 := Or.inl ⟨0, by decide +kernel, rfl, rfl⟩
theorem iX8_drop_22 : zIs mX8_drop 22 (.getfield 80) 3 25 := ⟨by decide +kernel, rfl⟩
theorem iX8_drop_25 : zLa mX8_drop 25 0 26 := Or.inl ⟨0, by decide +kernel, rfl, rfl⟩
theorem iX8_drop_26 : zIs mX8_drop 26 (.getfield 116) 3 29 := ⟨by decide +kernel, rfl⟩
theorem iX8_drop_29 : zIs mX8_drop 29 (.iaload) 1 30 := ⟨by decide +kernel, rfl⟩
theorem iX8_drop_30 : zIs mX8_drop 30 (.invokevirtual 188) 3 33 := ⟨by decide +kernel, rfl⟩
theorem iX8_drop_33 : zLa mX8_drop 33 0 34 := Or.inl ⟨0, by decide +kernel, rfl, rfl⟩
theorem iX8_drop_34 : zIs mX8_drop 34 (.getfield 116) 3 37 := ⟨by decide +kernel, rfl⟩
theorem iX8_drop_37 : zIs mX8_drop 37 (.ireturn) 1 38 := ⟨by decide +kernel, rfl⟩
theorem iX8_depth_0 : zLa mX8_depth 0 0 1 := Or.inl ⟨0, by decide +kernel, rfl, rfl⟩
theorem iX8_depth_1 : zIs mX8_depth 1 (.getfield 116) 3 4 := ⟨by decide +kernel, rfl⟩
theorem iX8_depth_4 : zIs mX8_depth 4 (.ireturn) 1 5 := ⟨by decide +kernel, rfl⟩
theorem iX8_scoring_0 : zLi mX8_scoring 0 1 1 := Or.inl ⟨1, by decide +kernel, rfl, rfl⟩
theorem iX8_scoring_1 : zPi mX8_scoring 1 0 2 := Or.inl ⟨0, by decide +kernel, by decide, rfl⟩
theorem iX8_scoring_2 : zLa mX8_scoring 2 0 3 := Or.inl ⟨0, by decide +kernel, rfl, rfl⟩
theorem iX8_scoring_3 : zIs mX8_scoring 3 (.getfield 116) 3 6 := ⟨by decide +kernel, rfl⟩
theorem iX8_scoring_6 : zPi mX8_scoring 6 1 7 := Or.inl ⟨1, by decide +kernel, by decide, rfl⟩
theorem iX8_scoring_7 : zIs mX8_scoring 7 (.isub) 1 8 := ⟨by decide +kernel, rfl⟩
theorem iX8_scoring_8 : zIs mX8_scoring 8 (.invokestatic 123) 3 11 := ⟨by decide +kernel, rfl⟩
theorem iX8_scoring_11 : zBr mX8_scoring 11 (.ifCond .ne) 17 14 := ⟨6, by decide +kernel, by decide, rfl⟩
theorem iX8_scoring_14 : zPi mX8_scoring 14 (-101) 16 := Or.inr (Or.inl ⟨(-101), by decide +kernel, by decide, rfl⟩)
theorem iX8_scoring_16 : zIs mX8_scoring 16 (.ireturn) 1 17 := ⟨by decide +kernel, rfl⟩
theorem iX8_scoring_17 : zLi mX8_scoring 17 2 18 := Or.inl ⟨2, by decide +kernel, rfl, rfl⟩
theorem iX8_scoring_18 : zBr mX8_scoring 18 (.ifCond .ge) 24 21 := ⟨6, by decide +kernel, by decide, rfl⟩
theorem iX8_scoring_21 : zPi mX8_scoring 21 (-102) 23 := Or.inr (Or.inl ⟨(-102), by decide +kernel, by decide, rfl⟩)
theorem iX8_scoring_23 : zIs mX8_scoring 23 (.ireturn) 1 24 := ⟨by decide +kernel, rfl⟩
theorem iX8_scoring_24 : zLa mX8_scoring 24 0 25 := Or.inl ⟨0, by decide +kernel, rfl, rfl⟩
theorem iX8_scoring_25 : zIs mX8_scoring 25 (.getfield 116) 3 28 := ⟨by decide +kernel, rfl⟩
theorem iX8_scoring_28 : zPi mX8_scoring 28 1 29 := Or.inl ⟨1, by decide +kernel, by decide, rfl⟩
theorem iX8_scoring_29 : zIs mX8_scoring 29 (.isub) 1 30 := ⟨by decide +kernel, rfl⟩
theorem iX8_scoring_30 : zLi mX8_scoring 30 1 31 := Or.inl ⟨1, by decide +kernel, rfl, rfl⟩
theorem iX8_scoring_31 : zIs mX8_scoring 31 (.isub) 1 32 := ⟨by decide +kernel, rfl⟩
theorem iX8_scoring_32 : zSi mX8_scoring 32 3 33 := ⟨Or.inl ⟨3, by decide +kernel, rfl, rfl⟩, by decide⟩
theorem iX8_scoring_33 : zLi mX8_scoring 33 2 34 := Or.inl ⟨2, by decide +kernel, rfl, rfl⟩
theorem iX8_scoring_34 : zPi mX8_scoring 34 4 35 := Or.inl ⟨4, by decide +kernel, by decide, rfl⟩
theorem iX8_scoring_35 : zBr mX8_scoring 35 (.if_icmp .ge) 86 38 := ⟨51, by decide +kernel, by decide, rfl⟩
theorem iX8_scoring_38 : zLi mX8_scoring 38 2 39 := Or.inl ⟨2, by decide +kernel, rfl, rfl⟩
theorem iX8_scoring_39 : zBr mX8_scoring 39 (.ifCond .ne) 51 42 := ⟨12, by decide +kernel, by decide, rfl⟩
theorem iX8_scoring_42 : zLa mX8_scoring 42 0 43 := Or.inl ⟨0, by decide +kernel, rfl, rfl⟩
theorem iX8_scoring_43 : zIs mX8_scoring 43 (.getfield 74) 3 46 := ⟨by decide +kernel, rfl⟩
theorem iX8_scoring_46 : zLi mX8_scoring 46 3 47 := Or.inl ⟨3, by decide +kernel, rfl, rfl⟩
theorem iX8_scoring_47 : zIs mX8_scoring 47 (.iaload) 1 48 := ⟨by decide +kernel, rfl⟩
theorem iX8_scoring_48 : zBr mX8_scoring 48 .goto 85 51 := ⟨37, by decide +kernel, by decide, rfl⟩
theorem iX8_scoring_51 : zLi mX8_scoring 51 2 52 := Or.inl ⟨2, by decide +kernel, rfl, rfl⟩
theorem iX8_scoring_52 : zPi mX8_scoring 52 1 53 := Or.inl ⟨1, by decide +kernel, by decide, rfl⟩
theorem iX8_scoring_53 : zBr mX8_scoring 53 (.if_icmp .ne) 65 56 := ⟨12, by decide +kernel, by decide, rfl⟩
theorem iX8_scoring_56 : zLa mX8_scoring 56 0 57 := Or.inl ⟨0, by decide +kernel, rfl, rfl⟩
theorem iX8_scoring_57 : zIs mX8_scoring 57 (.getfield 77) 3 60 := ⟨by decide +kernel, rfl⟩
theorem iX8_scoring_60 : zLi mX8_scoring 60 3 61 := Or.inl ⟨3, by decide +kernel, rfl, rfl⟩
theorem iX8_scoring_61 : zIs mX8_scoring 61 (.iaload) 1 62 := ⟨by decide +kernel, rfl⟩
theorem iX8_scoring_62 : zBr mX8_scoring 62 .goto 85 65 := ⟨23, by decide +kernel, by decide, rfl⟩
theorem iX8_scoring_65 : zLi mX8_scoring 65 2 66 := Or.inl ⟨2, by decide +kernel, rfl, rfl⟩
theorem iX8_scoring_66 : zPi mX8_scoring 66 2 67 := Or.inl ⟨2, by decide +kernel, by decide, rfl⟩
theorem iX8_scoring_67 : zBr mX8_scoring 67 (.if_icmp .ne) 79 70 := ⟨12, by decide +kernel, by decide, rfl⟩
theorem iX8_scoring_70 : zLa mX8_scoring 70 0 71 := Or.inl ⟨0, by decide +kernel, rfl, rfl⟩
theorem iX8_scoring_71 : zIs mX8_scoring 71 (.getfield 83) 3 74 := ⟨by decide +kernel, rfl⟩
theorem iX8_scoring_74 : zLi mX8_scoring 74 3 75 := Or.inl ⟨3, by decide +kernel, rfl, rfl⟩
theorem iX8_scoring_75 : zIs mX8_scoring 75 (.iaload) 1 76 := ⟨by decide +kernel, rfl⟩
theorem iX8_scoring_76 : zBr mX8_scoring 76 .goto 85 79 := ⟨9, by decide +kernel, by decide, rfl⟩
theorem iX8_scoring_79 : zLa mX8_scoring 79 0 80 := Or.inl ⟨0, by decide +kernel, rfl, rfl⟩
theorem iX8_scoring_80 : zIs mX8_scoring 80 (.getfield 92) 3 83 := ⟨by decide +kernel, rfl⟩
theorem iX8_scoring_83 : zLi mX8_scoring 83 3 84 := Or.inl ⟨3, by decide +kernel, rfl, rfl⟩
theorem iX8_scoring_84 : zIs mX8_scoring 84 (.iaload) 1 85 := ⟨by decide +kernel, rfl⟩
theorem iX8_scoring_85 : zIs mX8_scoring 85 (.ireturn) 1 86 := ⟨by decide +kernel, rfl⟩
theorem iX8_scoring_86 : zLi mX8_scoring 86 2 87 := Or.inl ⟨2, by decide +kernel, rfl, rfl⟩
theorem iX8_scoring_87 : zPi mX8_scoring 87 4 88 := Or.inl ⟨4, by decide +kernel, by decide, rfl⟩
theorem iX8_scoring_88 : zIs mX8_scoring 88 (.isub) 1 89 := ⟨by decide +kernel, rfl⟩
theorem iX8_scoring_89 : zLa mX8_scoring 89 0 90 := Or.inl ⟨0, by decide +kernel, rfl, rfl⟩
theorem iX8_scoring_90 : zIs mX8_scoring 90 (.getfield 83) 3 93 := ⟨by decide +kernel, rfl⟩
theorem iX8_scoring_93 : zLi mX8_scoring 93 3 94 := Or.inl ⟨3, by decide +kernel, rfl, rfl⟩
theorem iX8_scoring_94 : zIs mX8_scoring 94 (.iaload) 1 95 := ⟨by decide +kernel, rfl⟩
theorem iX8_scoring_95 : zBr mX8_scoring 95 (.if_icmp .ge) 114 98 := ⟨19, by decide +kernel, by decide, rfl⟩
theorem iX8_scoring_98 : zLa mX8_scoring 98 0 99 := Or.inl ⟨0, by decide +kernel, rfl, rfl⟩
theorem iX8_scoring_99 : zIs mX8_scoring 99 (.getfield 86) 3 102 := ⟨by decide +kernel, rfl⟩
theorem iX8_scoring_102 : zPi mX8_scoring 102 16 104 := Or.inr (Or.inl ⟨16, by decide +kernel, by decide, rfl⟩)
theorem iX8_scoring_104 : zLi mX8_scoring 104 3 105 := Or.inl ⟨3, by decide +kernel, rfl, rfl⟩
theorem iX8_scoring_105 : zIs mX8_scoring 105 (.imul) 1 106 := ⟨by decide +kernel, rfl⟩
theorem iX8_scoring_106 : zLi mX8_scoring 106 2 107 := Or.inl ⟨2, by decide +kernel, rfl, rfl⟩
theorem iX8_scoring_107 : zIs mX8_scoring 107 (.iadd) 1 108 := ⟨by decide +kernel, rfl⟩
theorem iX8_scoring_108 : zPi mX8_scoring 108 4 109 := Or.inl ⟨4, by decide +kernel, by decide, rfl⟩
theorem iX8_scoring_109 : zIs mX8_scoring 109 (.isub) 1 110 := ⟨by decide +kernel, rfl⟩
theorem iX8_scoring_110 : zIs mX8_scoring 110 (.iaload) 1 111 := ⟨by decide +kernel, rfl⟩
theorem iX8_scoring_111 : zBr mX8_scoring 111 .goto 115 114 := ⟨4, by decide +kernel, by decide, rfl⟩
theorem iX8_scoring_114 : zPi mX8_scoring 114 (-1) 115 := Or.inl ⟨(-1), by decide +kernel, by decide, rfl⟩
theorem iX8_scoring_115 : zIs mX8_scoring 115 (.ireturn) 1 116 := ⟨by decide +kernel, rfl⟩
theorem iX8_rounded_0 : zLi mX8_rounded 0 0 1 := Or.inl ⟨0, by decide +kernel, rfl, rfl⟩
theorem iX8_rounded_1 : zBr mX8_rounded 1 (.ifCond .lt) 10 4 := ⟨9, by decide +kernel, by decide, rfl⟩
theorem iX8_rounded_4 : zLi mX8_rounded 4 0 5 := Or.inl ⟨0, by decide +kernel, rfl, rfl⟩
theorem iX8_rounded_5 : zLi mX8_rounded 5 1 6 := Or.inl ⟨1, by decide +kernel, rfl, rfl⟩
theorem iX8_rounded_6 : zIs mX8_rounded 6 (.idiv) 1 7 := ⟨by decide +kernel, rfl⟩
theorem iX8_rounded_7 : zBr mX8_rounded 7 .goto 18 10 := ⟨11, by decide +kernel, by decide, rfl⟩
theorem iX8_rounded_10 : zLi mX8_rounded 10 1 11 := Or.inl ⟨1, by decide +kernel, rfl, rfl⟩
theorem iX8_rounded_11 : zPi mX8_rounded 11 1 12 := Or.inl ⟨1, by decide +kernel, by decide, rfl⟩
theorem iX8_rounded_12 : zIs mX8_rounded 12 (.isub) 1 13 := ⟨by decide +kernel, rfl⟩
theorem iX8_rounded_13 : zLi mX8_rounded 13 0 14 := Or.inl ⟨0, by decide +kernel, rfl, rfl⟩
theorem iX8_rounded_14 : zIs mX8_rounded 14 (.isub) 1 15 := ⟨by decide +kernel, rfl⟩
theorem iX8_rounded_15 : zLi mX8_rounded 15 1 16 := Or.inl ⟨1, by decide +kernel, rfl, rfl⟩
theorem iX8_rounded_16 : zIs mX8_rounded 16 (.idiv) 1 17 := ⟨by decide +kernel, rfl⟩
theorem iX8_rounded_17 : zIs mX8_rounded 17 (.ineg) 1 18 := ⟨by decide +kernel, rfl⟩
theorem iX8_rounded_18 : zSi mX8_rounded 18 2 19 := ⟨Or.inl ⟨2, by decide +kernel, rfl, rfl⟩, by decide⟩
theorem iX8_rounded_19 : zPi mX8_rounded 19 2 20 := Or.inl ⟨2, by decide +kernel, by decide, rfl⟩
theorem iX8_rounded_20 : zLi mX8_rounded 20 0 21 := Or.inl ⟨0, by decide +kernel, rfl, rfl⟩
theorem iX8_rounded_21 : zLi mX8_rounded 21 2 22 := Or.inl ⟨2, by decide +kernel, rfl, rfl⟩
theorem iX8_rounded_22 : zLi mX8_rounded 22 1 23 := Or.inl ⟨1, by decide +kernel, rfl, rfl⟩
theorem iX8_rounded_23 : zIs mX8_rounded 23 (.imul) 1 24 := ⟨by decide +kernel, rfl⟩
theorem iX8_rounded_24 : zIs mX8_rounded 24 (.isub) 1 25 := ⟨by decide +kernel, rfl⟩
theorem iX8_rounded_25 : zIs mX8_rounded 25 (.imul) 1 26 := ⟨by decide +kernel, rfl⟩
theorem iX8_rounded_26 : zSi mX8_rounded 26 3 27 := ⟨Or.inl ⟨3, by decide +kernel, rfl, rfl⟩, by decide⟩
theorem iX8_rounded_27 : zLi mX8_rounded 27 3 28 := Or.inl ⟨3, by decide +kernel, rfl, rfl⟩
theorem iX8_rounded_28 : zLi mX8_rounded 28 1 29 := Or.inl ⟨1, by decide +kernel, rfl, rfl⟩
theorem iX8_rounded_29 : zBr mX8_rounded 29 (.if_icmp .gt) 44 32 := ⟨15, by decide +kernel, by decide, rfl⟩
theorem iX8_rounded_32 : zLi mX8_rounded 32 3 33 := Or.inl ⟨3, by decide +kernel, rfl, rfl⟩
theorem iX8_rounded_33 : zLi mX8_rounded 33 1 34 := Or.inl ⟨1, by decide +kernel, rfl, rfl⟩
theorem iX8_rounded_34 : zBr mX8_rounded 34 (.if_icmp .ne) 50 37 := ⟨16, by decide +kernel, by decide, rfl⟩
theorem iX8_rounded_37 : zLi mX8_rounded 37 2 38 := Or.inl ⟨2, by decide +kernel, rfl, rfl⟩
theorem iX8_rounded_38 : zPi mX8_rounded 38 1 39 := Or.inl ⟨1, by decide +kernel, by decide, rfl⟩
theorem iX8_rounded_39 : zIs mX8_rounded 39 (.iand) 1 40 := ⟨by decide +kernel, rfl⟩
theorem iX8_rounded_40 : zPi mX8_rounded 40 1 41 := Or.inl ⟨1, by decide +kernel, by decide, rfl⟩
theorem iX8_rounded_41 : zBr mX8_rounded 41 (.if_icmp .ne) 50 44 := ⟨9, by decide +kernel, by decide, rfl⟩
theorem iX8_rounded_44 : zLi mX8_rounded 44 2 45 := Or.inl ⟨2, by decide +kernel, rfl, rfl⟩
theorem iX8_rounded_45 : zPi mX8_rounded 45 1 46 := Or.inl ⟨1, by decide +kernel, by decide, rfl⟩
theorem iX8_rounded_46 : zIs mX8_rounded 46 (.iadd) 1 47 := ⟨by decide +kernel, rfl⟩
theorem iX8_rounded_47 : zBr mX8_rounded 47 .goto 51 50 := ⟨4, by decide +kernel, by decide, rfl⟩
theorem iX8_rounded_50 : zLi mX8_rounded 50 2 51 := Or.inl ⟨2, by decide +kernel, rfl, rfl⟩
theorem iX8_rounded_51 : zIs mX8_rounded 51 (.ireturn) 1 52 := ⟨by decide +kernel, rfl⟩
theorem iX8_totalOf_0 : zLa mX8_totalOf 0 0 1 := Or.inl ⟨0, by decide +kernel, rfl, rfl⟩
theorem iX8_totalOf_1 : zIs mX8_totalOf 1 (.getfield 32) 3 4 := ⟨by decide +kernel, rfl⟩
theorem iX8_totalOf_4 : zLi mX8_totalOf 4 1 5 := Or.inl ⟨1, by decide +kernel, rfl, rfl⟩
theorem iX8_totalOf_5 : zIs mX8_totalOf 5 (.iaload) 1 6 := ⟨by decide +kernel, rfl⟩
theorem iX8_totalOf_6 : zSi mX8_totalOf 6 2 7 := ⟨Or.inl ⟨2, by decide +kernel, rfl, rfl⟩, by decide⟩
theorem iX8_totalOf_7 : zLa mX8_totalOf 7 0 8 := Or.inl ⟨0, by decide +kernel, rfl, rfl⟩
theorem iX8_totalOf_8 : zIs mX8_totalOf 8 (.getfield 16) 3 11 := ⟨by decide +kernel, rfl⟩
theorem iX8_totalOf_11 : zLi mX8_totalOf 11 2 12 := Or.inl ⟨2, by decide +kernel, rfl, rfl⟩
theorem iX8_totalOf_12 : zIs mX8_totalOf 12 (.iaload) 1 13 := ⟨by decide +kernel, rfl⟩
theorem iX8_totalOf_13 : zSi mX8_totalOf 13 3 14 := ⟨Or.inl ⟨3, by decide +kernel, rfl, rfl⟩, by decide⟩
theorem iX8_totalOf_14 : zPi mX8_totalOf 14 0 15 := Or.inl ⟨0, by decide +kernel, by decide, rfl⟩
theorem iX8_totalOf_15 : zSi mX8_totalOf 15 4 17 := ⟨Or.inr ⟨by decide +kernel, rfl⟩, by decide⟩
theorem iX8_totalOf_17 : zPi mX8_totalOf 17 0 18 := Or.inl ⟨0, by decide +kernel, by decide, rfl⟩
theorem iX8_totalOf_18 : zSi mX8_totalOf 18 5 20 := ⟨Or.inr ⟨by decide +kernel, rfl⟩, by decide⟩
theorem iX8_totalOf_20 : zLi mX8_totalOf 20 5 22 := Or.inr ⟨by decide +kernel, rfl⟩
theorem iX8_totalOf_22 : zLi mX8_totalOf 22 3 23 := Or.inl ⟨3, by decide +kernel, rfl, rfl⟩
theorem iX8_totalOf_23 : zBr mX8_totalOf 23 (.if_icmp .ge) 106 26 := ⟨83, by decide +kernel, by decide, rfl⟩
theorem iX8_totalOf_26 : zLa mX8_totalOf 26 0 27 := Or.inl ⟨0, by decide +kernel, rfl, rfl⟩
theorem iX8_totalOf_27 : zIs mX8_totalOf 27 (.getfield 65) 3 30 := ⟨by decide +kernel, rfl⟩
theorem iX8_totalOf_30 : zPi mX8_totalOf 30 5 31 := Or.inl ⟨5, by decide +kernel, by decide, rfl⟩
theorem iX8_totalOf_31 : zLi mX8_totalOf 31 1 32 := Or.inl ⟨1, by decide +kernel, rfl, rfl⟩
theorem iX8_totalOf_32 : zIs mX8_totalOf 32 (.imul) 1 33 := ⟨by decide +kernel, rfl⟩
theorem iX8_totalOf_33 : zLi mX8_totalOf 33 5 35 := Or.inr ⟨by decide +kernel, rfl⟩
theorem iX8_totalOf_35 : zIs mX8_totalOf 35 (.iadd) 1 36 := ⟨by decide +kernel, rfl⟩
theorem iX8_totalOf_36 : zIs mX8_totalOf 36 (.iaload) 1 37 := ⟨by decide +kernel, rfl⟩
theorem iX8_totalOf_37 : zSi mX8_totalOf 37 6 39 := ⟨Or.inr ⟨by decide +kernel, rfl⟩, by decide⟩
theorem iX8_totalOf_39 : zLi mX8_totalOf 39 4 41 := Or.inr ⟨by decide +kernel, rfl⟩
theorem iX8_totalOf_41 : zLi mX8_totalOf 41 6 43 := Or.inr ⟨by decide +kernel, rfl⟩
theorem iX8_totalOf_43 : zIs mX8_totalOf 43 (.iadd) 1 44 := ⟨by decide +kernel, rfl⟩
theorem iX8_totalOf_44 : zSi mX8_totalOf 44 4 46 := ⟨Or.inr ⟨by decide +kernel, rfl⟩, by decide⟩
theorem iX8_totalOf_46 : zLi mX8_totalOf 46 5 48 := Or.inr ⟨by decide +kernel, rfl⟩
theorem iX8_totalOf_48 : zSi mX8_totalOf 48 7 50 := ⟨Or.inr ⟨by decide +kernel, rfl⟩, by decide⟩
theorem iX8_totalOf_50 : zLi mX8_totalOf 50 7 52 := Or.inr ⟨by decide +kernel, rfl⟩
theorem iX8_totalOf_52 : zBr mX8_totalOf 52 (.ifCond .le) 91 55 := ⟨39, by decide +kernel, by decide, rfl⟩
theorem iX8_totalOf_55 : zLa mX8_totalOf 55 0 56 := Or.inl ⟨0, by decide +kernel, rfl, rfl⟩
theorem iX8_totalOf_56 : zIs mX8_totalOf 56 (.getfield 110) 3 59 := ⟨by decide +kernel, rfl⟩
theorem iX8_totalOf_59 : zLi mX8_totalOf 59 7 61 := Or.inr ⟨by decide +kernel, rfl⟩
theorem iX8_totalOf_61 : zPi mX8_totalOf 61 1 62 := Or.inl ⟨1, by decide +kernel, by decide, rfl⟩
theorem iX8_totalOf_62 : zIs mX8_totalOf 62 (.isub) 1 63 := ⟨by decide +kernel, rfl⟩
theorem iX8_totalOf_63 : zIs mX8_totalOf 63 (.iaload) 1 64 := ⟨by decide +kernel, rfl⟩
theorem iX8_totalOf_64 : zLi mX8_totalOf 64 6 66 := Or.inr ⟨by decide +kernel, rfl⟩
theorem iX8_totalOf_66 : zBr mX8_totalOf 66 (.if_icmp .le) 91 69 := ⟨25, by decide +kernel, by decide, rfl⟩
theorem iX8_totalOf_69 : zLa mX8_totalOf 69 0 70 := Or.inl ⟨0, by decide +kernel, rfl, rfl⟩
theorem iX8_totalOf_70 : zIs mX8_totalOf 70 (.getfield 110) 3 73 := ⟨by decide +kernel, rfl⟩
theorem iX8_totalOf_73 : zLi mX8_totalOf 73 7 75 := Or.inr ⟨by decide +kernel, rfl⟩
theorem iX8_totalOf_75 : zLa mX8_totalOf 75 0 76 := Or.inl ⟨0, by decide +kernel, rfl, rfl⟩
theorem iX8_totalOf_76 : zIs mX8_totalOf 76 (.getfield 110) 3 79 := ⟨by decide +kernel, rfl⟩
theorem iX8_totalOf_79 : zLi mX8_totalOf 79 7 81 := Or.inr ⟨by decide +kernel, rfl⟩
theorem iX8_totalOf_81 : zPi mX8_totalOf 81 1 82 := Or.inl ⟨1, by decide +kernel, by decide, rfl⟩
theorem iX8_totalOf_82 : zIs mX8_totalOf 82 (.isub) 1 83 := ⟨by decide +kernel, rfl⟩
theorem iX8_totalOf_83 : zIs mX8_totalOf 83 (.iaload) 1 84 := ⟨by decide +kernel, rfl⟩
theorem iX8_totalOf_84 : zIs mX8_totalOf 84 (.iastore) 1 85 := ⟨by decide +kernel, rfl⟩
theorem iX8_totalOf_85 : zIs mX8_totalOf 85 (.iinc 7 (-1)) 3 88 := ⟨by decide +kernel, rfl⟩
theorem iX8_totalOf_88 : zBr mX8_totalOf 88 .goto 50 91 := ⟨(-38), by decide +kernel, by decide, rfl⟩
theorem iX8_totalOf_91 : zLa mX8_totalOf 91 0 92 := Or.inl ⟨0, by decide +kernel, rfl, rfl⟩
theorem iX8_totalOf_92 : zIs mX8_totalOf 92 (.getfield 110) 3 95 := ⟨by decide +kernel, rfl⟩
theorem iX8_totalOf_95 : zLi mX8_totalOf 95 7 97 := Or.inr ⟨by decide +kernel, rfl⟩
theorem iX8_totalOf_97 : zLi mX8_totalOf 97 6 99 := Or.inr ⟨by decide +kernel, rfl⟩
theorem iX8_totalOf_99 : zIs mX8_totalOf 99 (.iastore) 1 100 := ⟨by decide +kernel, rfl⟩
theorem iX8_totalOf_100 : zIs mX8_totalOf 100 (.iinc 5 1) 3 103 := ⟨by decide +kernel, rfl⟩
theorem iX8_totalOf_103 : zBr mX8_totalOf 103 .goto 20 106 := ⟨(-83), by decide +kernel, by decide, rfl⟩
theorem iX8_totalOf_106 : zLi mX8_totalOf 106 4 108 := Or.inr ⟨by decide +kernel, rfl⟩
theorem iX8_totalOf_108 : zSi mX8_totalOf 108 5 110 := ⟨Or.inr ⟨by decide +kernel, rfl⟩, by decide⟩
theorem iX8_totalOf_110 : zLa mX8_totalOf 110 0 111 := Or.inl ⟨0, by decide +kernel, rfl, rfl⟩
theorem iX8_totalOf_111 : zIs mX8_totalOf 111 (.getfield 7) 3 114 := ⟨by decide +kernel, rfl⟩
theorem iX8_totalOf_114 : zLi mX8_totalOf 114 2 115 := Or.inl ⟨2, by decide +kernel, rfl, rfl⟩
theorem iX8_totalOf_115 : zIs mX8_totalOf 115 (.iaload) 1 116 := ⟨by decide +kernel, rfl⟩
theorem iX8_totalOf_116 : zPi mX8_totalOf 116 1 117 := Or.inl ⟨1, by decide +kernel, by decide, rfl⟩
theorem iX8_totalOf_117 : zBr mX8_totalOf 117 (.if_icmp .ne) 131 120 := ⟨14, by decide +kernel, by decide, rfl⟩
theorem iX8_totalOf_120 : zLi mX8_totalOf 120 4 122 := Or.inr ⟨by decide +kernel, rfl⟩
theorem iX8_totalOf_122 : zLi mX8_totalOf 122 3 123 := Or.inl ⟨3, by decide +kernel, rfl, rfl⟩
theorem iX8_totalOf_123 : zIs mX8_totalOf 123 (.invokestatic 214) 3 126 := ⟨by decide +kernel, rfl⟩
theorem iX8_totalOf_126 : zSi mX8_totalOf 126 5 128 := ⟨Or.inr ⟨by decide +kernel, rfl⟩, by decide⟩
theorem iX8_totalOf_128 : zBr mX8_totalOf 128 .goto 222 131 := ⟨94, by decide +kernel, by decide, rfl⟩
theorem iX8_totalOf_131 : zLa mX8_totalOf 131 0 132 := Or.inl ⟨0, by decide +kernel, rfl, rfl⟩
theorem iX8_totalOf_132 : zIs mX8_totalOf 132 (.getfield 7) 3 135 := ⟨by decide +kernel, rfl⟩
theorem iX8_totalOf_135 : zLi mX8_totalOf 135 2 136 := Or.inl ⟨2, by decide +kernel, rfl, rfl⟩
theorem iX8_totalOf_136 : zIs mX8_totalOf 136 (.iaload) 1 137 := ⟨by decide +kernel, rfl⟩
theorem iX8_totalOf_137 : zPi mX8_totalOf 137 2 138 := Or.inl ⟨2, by decide +kernel, by decide, rfl⟩
theorem iX8_totalOf_138 : zBr mX8_totalOf 138 (.if_icmp .ne) 187 141 := ⟨49, by decide +kernel, by decide, rfl⟩
theorem iX8_totalOf_141 : zLi mX8_totalOf 141 3 142 := Or.inl ⟨3, by decide +kernel, rfl, rfl⟩
theorem iX8_totalOf_142 : zPi mX8_totalOf 142 1 143 := Or.inl ⟨1, by decide +kernel, by decide, rfl⟩
theorem iX8_totalOf_143 : zIs mX8_totalOf 143 (.iand) 1 144 := ⟨by decide +kernel, rfl⟩
theorem iX8_totalOf_144 : zPi mX8_totalOf 144 1 145 := Or.inl ⟨1, by decide +kernel, by decide, rfl⟩
theorem iX8_totalOf_145 : zBr mX8_totalOf 145 (.if_icmp .ne) 159 148 := ⟨14, by decide +kernel, by decide, rfl⟩
theorem iX8_totalOf_148 : zLa mX8_totalOf 148 0 149 := Or.inl ⟨0, by decide +kernel, rfl, rfl⟩
theorem iX8_totalOf_149 : zIs mX8_totalOf 149 (.getfield 110) 3 152 := ⟨by decide +kernel, rfl⟩
theorem iX8_totalOf_152 : zLi mX8_totalOf 152 3 153 := Or.inl ⟨3, by decide +kernel, rfl, rfl⟩
theorem iX8_totalOf_153 : zPi mX8_totalOf 153 2 154 := Or.inl ⟨2, by decide +kernel, by decide, rfl⟩
theorem iX8_totalOf_154 : zIs mX8_totalOf 154 (.idiv) 1 155 := ⟨by decide +kernel, rfl⟩
theorem iX8_totalOf_155 : zIs mX8_totalOf 155 (.iaload) 1 156 := ⟨by decide +kernel, rfl⟩
theorem iX8_totalOf_156 : zBr mX8_totalOf 156 .goto 182 159 := ⟨26, by decide +kernel, by decide, rfl⟩
theorem iX8_totalOf_159 : zLa mX8_totalOf 159 0 160 := Or.inl ⟨0, by decide +kernel, rfl, rfl⟩
theorem iX8_totalOf_160 : zIs mX8_totalOf 160 (.getfield 110) 3 163 := ⟨by decide +kernel, rfl⟩
theorem iX8_totalOf_163 : zLi mX8_totalOf 163 3 164 := Or.inl ⟨3, by decide +kernel, rfl, rfl⟩
theorem iX8_totalOf_164 : zPi mX8_totalOf 164 2 165 := Or.inl ⟨2, by decide +kernel, by decide, rfl⟩
theorem iX8_totalOf_165 : zIs mX8_totalOf 165 (.idiv) 1 166 := ⟨by decide +kernel, rfl⟩
theorem iX8_totalOf_166 : zPi mX8_totalOf 166 1 167 := Or.inl ⟨1, by decide +kernel, by decide, rfl⟩
theorem iX8_totalOf_167 : zIs mX8_totalOf 167 (.isub) 1 168 := ⟨by decide +kernel, rfl⟩
theorem iX8_totalOf_168 : zIs mX8_totalOf 168 (.iaload) 1 169 := ⟨by decide +kernel, rfl⟩
theorem iX8_totalOf_169 : zLa mX8_totalOf 169 0 170 := Or.inl ⟨0, by decide +kernel, rfl, rfl⟩
theorem iX8_totalOf_170 : zIs mX8_totalOf 170 (.getfield 110) 3 173 := ⟨by decide +kernel, rfl⟩
theorem iX8_totalOf_173 : zLi mX8_totalOf 173 3 174 := Or.inl ⟨3, by decide +kernel, rfl, rfl⟩
theorem iX8_totalOf_174 : zPi mX8_totalOf 174 2 175 := Or.inl ⟨2, by decide +kernel, by decide, rfl⟩
theorem iX8_totalOf_175 : zIs mX8_totalOf 175 (.idiv) 1 176 := ⟨by decide +kernel, rfl⟩
theorem iX8_totalOf_176 : zIs mX8_totalOf 176 (.iaload) 1 177 := ⟨by decide +kernel, rfl⟩
theorem iX8_totalOf_177 : zIs mX8_totalOf 177 (.iadd) 1 178 := ⟨by decide +kernel, rfl⟩
theorem iX8_totalOf_178 : zPi mX8_totalOf 178 2 179 := Or.inl ⟨2, by decide +kernel, by decide, rfl⟩
theorem iX8_totalOf_179 : zIs mX8_totalOf 179 (.invokestatic 214) 3 182 := ⟨by decide +kernel, rfl⟩
theorem iX8_totalOf_182 : zSi mX8_totalOf 182 5 184 := ⟨Or.inr ⟨by decide +kernel, rfl⟩, by decide⟩
theorem iX8_totalOf_184 : zBr mX8_totalOf 184 .goto 222 187 := ⟨38, by decide +kernel, by decide, rfl⟩
theorem iX8_totalOf_187 : zLa mX8_totalOf 187 0 188 := Or.inl ⟨0, by decide +kernel, rfl, rfl⟩
theorem iX8_totalOf_188 : zIs mX8_totalOf 188 (.getfield 7) 3 191 := ⟨by decide +kernel, rfl⟩
theorem iX8_totalOf_191 : zLi mX8_totalOf 191 2 192 := Or.inl ⟨2, by decide +kernel, rfl, rfl⟩
theorem iX8_totalOf_192 : zIs mX8_totalOf 192 (.iaload) 1 193 := ⟨by decide +kernel, rfl⟩
theorem iX8_totalOf_193 : zPi mX8_totalOf 193 3 194 := Or.inl ⟨3, by decide +kernel, by decide, rfl⟩
theorem iX8_totalOf_194 : zBr mX8_totalOf 194 (.if_icmp .ne) 222 197 := ⟨28, by decide +kernel, by decide, rfl⟩
theorem iX8_totalOf_197 : zLi mX8_totalOf 197 3 198 := Or.inl ⟨3, by decide +kernel, rfl, rfl⟩
theorem iX8_totalOf_198 : zPi mX8_totalOf 198 3 199 := Or.inl ⟨3, by decide +kernel, by decide, rfl⟩
theorem iX8_totalOf_199 : zBr mX8_totalOf 199 (.if_icmp .lt) 222 202 := ⟨23, by decide +kernel, by decide, rfl⟩
theorem iX8_totalOf_202 : zLi mX8_totalOf 202 4 204 := Or.inr ⟨by decide +kernel, rfl⟩
theorem iX8_totalOf_204 : zLa mX8_totalOf 204 0 205 := Or.inl ⟨0, by decide +kernel, rfl, rfl⟩
theorem iX8_totalOf_205 : zIs mX8_totalOf 205 (.getfield 110) 3 208 := ⟨by decide +kernel, rfl⟩
theorem iX8_totalOf_208 : zPi mX8_totalOf 208 0 209 := Or.inl ⟨0, by decide +kernel, by decide, rfl⟩
theorem iX8_totalOf_209 : zIs mX8_totalOf 209 (.iaload) 1 210 := ⟨by decide +kernel, rfl⟩
theorem iX8_totalOf_210 : zIs mX8_totalOf 210 (.isub) 1 211 := ⟨by decide +kernel, rfl⟩
theorem iX8_totalOf_211 : zLa mX8_totalOf 211 0 212 := Or.inl ⟨0, by decide +kernel, rfl, rfl⟩
theorem iX8_totalOf_212 : zIs mX8_totalOf 212 (.getfield 110) 3 215 := ⟨by decide +kernel, rfl⟩
theorem iX8_totalOf_215 : zLi mX8_totalOf 215 3 216 := Or.inl ⟨3, by decide +kernel, rfl, rfl⟩
theorem iX8_totalOf_216 : zPi mX8_totalOf 216 1 217 := Or.inl ⟨1, by decide +kernel, by decide, rfl⟩
theorem iX8_totalOf_217 : zIs mX8_totalOf 217 (.isub) 1 218 := ⟨by decide +kernel, rfl⟩
theorem iX8_totalOf_218 : zIs mX8_totalOf 218 (.iaload) 1 219 := ⟨by decide +kernel, rfl⟩
theorem iX8_totalOf_219 : zIs mX8_totalOf 219 (.isub) 1 220 := ⟨by decide +kernel, rfl⟩
theorem iX8_totalOf_220 : zSi mX8_totalOf 220 5 222 := ⟨Or.inr ⟨by decide +kernel, rfl⟩, by decide⟩
theorem iX8_totalOf_222 : zLi mX8_totalOf 222 5 224 := Or.inr ⟨by decide +kernel, rfl⟩
theorem iX8_totalOf_224 : zLa mX8_totalOf 224 0 225 := Or.inl ⟨0, by decide +kernel, rfl, rfl⟩
theorem iX8_totalOf_225 : zIs mX8_totalOf 225 (.getfield 68) 3 228 := ⟨by decide +kernel, rfl⟩
theorem iX8_totalOf_228 : zLi mX8_totalOf 228 1 229 := Or.inl ⟨1, by decide +kernel, rfl, rfl⟩
theorem iX8_totalOf_229 : zIs mX8_totalOf 229 (.iaload) 1 230 := ⟨by decide +kernel, rfl⟩
theorem iX8_totalOf_230 : zBr mX8_totalOf 230 (.if_icmp .ge) 237 233 := ⟨7, by decide +kernel, by decide, rfl⟩
theorem iX8_totalOf_233 : zPi mX8_totalOf 233 0 234 := Or.inl ⟨0, by decide +kernel, by decide, rfl⟩
theorem iX8_totalOf_234 : zBr mX8_totalOf 234 .goto 246 237 := ⟨12, by decide +kernel, by decide, rfl⟩
theorem iX8_totalOf_237 : zLi mX8_totalOf 237 5 239 := Or.inr ⟨by decide +kernel, rfl⟩
theorem iX8_totalOf_239 : zLa mX8_totalOf 239 0 240 := Or.inl ⟨0, by decide +kernel, rfl, rfl⟩
theorem iX8_totalOf_240 : zIs mX8_totalOf 240 (.getfield 68) 3 243 := ⟨by decide +kernel, rfl⟩
theorem iX8_totalOf_243 : zLi mX8_totalOf 243 1 244 := Or.inl ⟨1, by decide +kernel, rfl, rfl⟩
theorem iX8_totalOf_244 : zIs mX8_totalOf 244 (.iaload) 1 245 := ⟨by decide +kernel, rfl⟩
theorem iX8_totalOf_245 : zIs mX8_totalOf 245 (.isub) 1 246 := ⟨by decide +kernel, rfl⟩
theorem iX8_totalOf_246 : zIs mX8_totalOf 246 (.ireturn) 1 247 := ⟨by decide +kernel, rfl⟩
theorem iX8_above_0 : zPi mX8_above 0 0 1 := Or.inl ⟨0, by decide +kernel, by decide, rfl⟩
theorem iX8_above_1 : zSi mX8_above 1 2 2 := ⟨Or.inl ⟨2, by decide +kernel, rfl, rfl⟩, by decide⟩
theorem iX8_above_2 : zPi mX8_above 2 0 3 := Or.inl ⟨0, by decide +kernel, by decide, rfl⟩
theorem iX8_above_3 : zSi mX8_above 3 3 4 := ⟨Or.inl ⟨3, by decide +kernel, rfl, rfl⟩, by decide⟩
theorem iX8_above_4 : zLi mX8_above 4 3 5 := Or.inl ⟨3, by decide +kernel, rfl, rfl⟩
theorem iX8_above_5 : zLa mX8_above 5 0 6 := Or.inl ⟨0, by decide +kernel, rfl, rfl⟩
theorem iX8_above_6 : zIs mX8_above 6 (.getfield 16) 3 9 := ⟨by decide +kernel, rfl⟩
theorem iX8_above_9 : zLa mX8_above 9 0 10 := Or.inl ⟨0, by decide +kernel, rfl, rfl⟩
theorem iX8_above_10 : zIs mX8_above 10 (.getfield 32) 3 13 := ⟨by decide +kernel, rfl⟩
theorem iX8_above_13 : zLi mX8_above 13 1 14 := Or.inl ⟨1, by decide +kernel, rfl, rfl⟩
theorem iX8_above_14 : zIs mX8_above 14 (.iaload) 1 15 := ⟨by decide +kernel, rfl⟩
theorem iX8_above_15 : zIs mX8_above 15 (.iaload) 1 16 := ⟨by decide +kernel, rfl⟩
theorem iX8_above_16 : zBr mX8_above 16 (.if_icmp .ge) 46 19 := ⟨30, by decide +kernel, by decide, rfl⟩
theorem iX8_above_19 : zLi mX8_above 19 2 20 := Or.inl ⟨2, by decide +kernel, rfl, rfl⟩
theorem iX8_above_20 : zLa mX8_above 20 0 21 := Or.inl ⟨0, by decide +kernel, rfl, rfl⟩
theorem iX8_above_21 : zIs mX8_above 21 (.getfield 65) 3 24 := ⟨by decide +kernel, rfl⟩
theorem iX8_above_24 : zPi mX8_above 24 5 25 := Or.inl ⟨5, by decide +kernel, by decide, rfl⟩
theorem iX8_above_25 : zLi mX8_above 25 1 26 := Or.inl ⟨1, by decide +kernel, rfl, rfl⟩
theorem iX8_above_26 : zIs mX8_above 26 (.imul) 1 27 := ⟨by decide +kernel, rfl⟩
theorem iX8_above_27 : zLi mX8_above 27 3 28 := Or.inl ⟨3, by decide +kernel, rfl, rfl⟩
theorem iX8_above_28 : zIs mX8_above 28 (.iadd) 1 29 := ⟨by decide +kernel, rfl⟩
theorem iX8_above_29 : zIs mX8_above 29 (.iaload) 1 30 := ⟨by decide +kernel, rfl⟩
theorem iX8_above_30 : zBr mX8_above 30 (.ifCond .le) 37 33 := ⟨7, by decide +kernel, by decide, rfl⟩
theorem iX8_above_33 : zPi mX8_above 33 1 34 := Or.inl ⟨1, by decide +kernel, by decide, rfl⟩
theorem iX8_above_34 : zBr mX8_above 34 .goto 38 37 := ⟨4, by decide +kernel, by decide, rfl⟩
theorem iX8_above_37 : zPi mX8_above 37 0 38 := Or.inl ⟨0, by decide +kernel, by decide, rfl⟩
theorem iX8_above_38 : zIs mX8_above 38 (.iadd) 1 39 := ⟨by decide +kernel, rfl⟩
theorem iX8_above_39 : zSi mX8_above 39 2 40 := ⟨Or.inl ⟨2, by decide +kernel, rfl, rfl⟩, by decide⟩
theorem iX8_above_40 : zIs mX8_above 40 (.iinc 3 1) 3 43 := ⟨by decide +kernel, rfl⟩
theorem iX8_above_43 : zBr mX8_above 43 .goto 4 46 := ⟨(-39), by decide +kernel, by decide, rfl⟩
theorem iX8_above_46 : zLi mX8_above 46 2 47 := Or.inl ⟨2, by decide +kernel, rfl, rfl⟩
theorem iX8_above_47 : zIs mX8_above 47 (.ireturn) 1 48 := ⟨by decide +kernel, rfl⟩
theorem iX8_total_0 : zPi mX8_total 0 0 1 := Or.inl ⟨0, by decide +kernel, by decide, rfl⟩
theorem iX8_total_1 : zSi mX8_total 1 1 2 := ⟨Or.inl ⟨1, by decide +kernel, rfl, rfl⟩, by decide⟩
theorem iX8_total_2 : zLi mX8_total 2 1 3 := Or.inl ⟨1, by decide +kernel, rfl, rfl⟩
theorem iX8_total_3 : zLa mX8_total 3 0 4 := Or.inl ⟨0, by decide +kernel, rfl, rfl⟩
theorem iX8_total_4 : zIs mX8_total 4 (.getfield 127) 3 7 := ⟨by decide +kernel, rfl⟩
theorem iX8_total_7 : zBr mX8_total 7 (.if_icmp .ge) 27 10 := ⟨20, by decide +kernel, by decide, rfl⟩
theorem iX8_total_10 : zLa mX8_total 10 0 11 := Or.inl ⟨0, by decide +kernel, rfl, rfl⟩
theorem iX8_total_11 : zIs mX8_total 11 (.getfield 113) 3 14 := ⟨by decide +kernel, rfl⟩
theorem iX8_total_14 : zLi mX8_total 14 1 15 := Or.inl ⟨1, by decide +kernel, rfl, rfl⟩
theorem iX8_total_15 : zLa mX8_total 15 0 16 := Or.inl ⟨0, by decide +kernel, rfl, rfl⟩
theorem iX8_total_16 : zLi mX8_total 16 1 17 := Or.inl ⟨1, by decide +kernel, rfl, rfl⟩
theorem iX8_total_17 : zIs mX8_total 17 (.invokevirtual 217) 3 20 := ⟨by decide +kernel, rfl⟩
theorem iX8_total_20 : zIs mX8_total 20 (.iastore) 1 21 := ⟨by decide +kernel, rfl⟩
theorem iX8_total_21 : zIs mX8_total 21 (.iinc 1 1) 3 24 := ⟨by decide +kernel, rfl⟩
theorem iX8_total_24 : zBr mX8_total 24 .goto 2 27 := ⟨(-22), by decide +kernel, by decide, rfl⟩
theorem iX8_total_27 : zIs mX8_total 27 (.return_) 1 28 := ⟨by decide +kernel, rfl⟩
theorem iX8_isBetter_0 : zLa mX8_isBetter 0 0 1 := Or.inl ⟨0, by decide +kernel, rfl, rfl⟩
theorem iX8_isBetter_1 : zIs mX8_isBetter 1 (.getfield 113) 3 4 := ⟨by decide +kernel, rfl⟩
theorem iX8_isBetter_4 : zLi mX8_isBetter 4 1 5 := Or.inl ⟨1, by decide +kernel, rfl, rfl⟩
theorem iX8_isBetter_5 : zIs mX8_isBetter 5 (.iaload) 1 6 := ⟨by decide +kernel, rfl⟩
theorem iX8_isBetter_6 : zLa mX8_isBetter 6 0 7 := Or.inl ⟨0, by decide +kernel, rfl, rfl⟩
theorem iX8_isBetter_7 : zIs mX8_isBetter 7 (.getfield 113) 3 10 := ⟨by decide +kernel, rfl⟩
theorem iX8_isBetter_10 : zLi mX8_isBetter 10 2 11 := Or.inl ⟨2, by decide +kernel, rfl, rfl⟩
theorem iX8_isBetter_11 : zIs mX8_isBetter 11 (.iaload) 1 12 := ⟨by decide +kernel, rfl⟩
theorem iX8_isBetter_12 : zBr mX8_isBetter 12 (.if_icmp .eq) 36 15 := ⟨24, by decide +kernel, by decide, rfl⟩
theorem iX8_isBetter_15 : zLa mX8_isBetter 15 0 16 := Or.inl ⟨0, by decide +kernel, rfl, rfl⟩
theorem iX8_isBetter_16 : zIs mX8_isBetter 16 (.getfield 113) 3 19 := ⟨by decide +kernel, rfl⟩
theorem iX8_isBetter_19 : zLi mX8_isBetter 19 1 20 := Or.inl ⟨1, by decide +kernel, rfl, rfl⟩
theorem iX8_isBetter_20 : zIs mX8_isBetter 20 (.iaload) 1 21 := ⟨by decide +kernel, rfl⟩
theorem iX8_isBetter_21 : zLa mX8_isBetter 21 0 22 := Or.inl ⟨0, by decide +kernel, rfl, rfl⟩
theorem iX8_isBetter_22 : zIs mX8_isBetter 22 (.getfield 113) 3 25 := ⟨by decide +kernel, rfl⟩
theorem iX8_isBetter_25 : zLi mX8_isBetter 25 2 26 := Or.inl ⟨2, by decide +kernel, rfl, rfl⟩
theorem iX8_isBetter_26 : zIs mX8_isBetter 26 (.iaload) 1 27 := ⟨by decide +kernel, rfl⟩
theorem iX8_isBetter_27 : zBr mX8_isBetter 27 (.if_icmp .le) 34 30 := ⟨7, by decide +kernel, by decide, rfl⟩
theorem iX8_isBetter_30 : zPi mX8_isBetter 30 1 31 := Or.inl ⟨1, by decide +kernel, by decide, rfl⟩
theorem iX8_isBetter_31 : zBr mX8_isBetter 31 .goto 35 34 := ⟨4, by decide +kernel, by decide, rfl⟩
theorem iX8_isBetter_34 : zPi mX8_isBetter 34 0 35 := Or.inl ⟨0, by decide +kernel, by decide, rfl⟩
theorem iX8_isBetter_35 : zIs mX8_isBetter 35 (.ireturn) 1 36 := ⟨by decide +kernel, rfl⟩
theorem iX8_isBetter_36 : zLa mX8_isBetter 36 0 37 := Or.inl ⟨0, by decide +kernel, rfl, rfl⟩
theorem iX8_isBetter_37 : zIs mX8_isBetter 37 (.getfield 68) 3 40 := ⟨by decide +kernel, rfl⟩
theorem iX8_isBetter_40 : zLi mX8_isBetter 40 1 41 := Or.inl ⟨1, by decide +kernel, rfl, rfl⟩
theorem iX8_isBetter_41 : zIs mX8_isBetter 41 (.iaload) 1 42 := ⟨by decide +kernel, rfl⟩
theorem iX8_isBetter_42 : zLa mX8_isBetter 42 0 43 := Or.inl ⟨0, by decide +kernel, rfl, rfl⟩
theorem iX8_isBetter_43 : zIs mX8_isBetter 43 (.getfield 68) 3 46 := ⟨by decide +kernel, rfl⟩
theorem iX8_isBetter_46 : zLi mX8_isBetter 46 2 47 := Or.inl ⟨2, by decide +kernel, rfl, rfl⟩
theorem iX8_isBetter_47 : zIs mX8_isBetter 47 (.iaload) 1 48 := ⟨by decide +kernel, rfl⟩
theorem iX8_isBetter_48 : zBr mX8_isBetter 48 (.if_icmp .eq) 74 51 := ⟨26, by decide +kernel, by decide, rfl⟩
theorem iX8_isBetter_51 : zLa mX8_isBetter 51 0 52 := Or.inl ⟨0, by decide +kernel, rfl, rfl⟩
theorem iX8_isBetter_52 : zIs mX8_isBetter 52 (.getfield 68) 3 55 := ⟨by decide +kernel, rfl⟩
theorem iX8_isBetter_55 : zLi mX8_isBetter 55 1 56 := Or.inl ⟨1, by decide +kernel, rfl, rfl⟩
theorem iX8_isBetter_56 : zIs mX8_isBetter 56 (.iaload) 1 57 := ⟨by decide +kernel, rfl⟩
theorem iX8_isBetter_57 : zLa mX8_isBetter 57 0 58 := Or.inl ⟨0, by decide +kernel, rfl, rfl⟩
theorem iX8_isBetter_58 : zIs mX8_isBetter 58 (.getfield 68) 3 61 := ⟨by decide +kernel, rfl⟩
theorem iX8_isBetter_61 : zLi mX8_isBetter 61 2 62 := Or.inl ⟨2, by decide +kernel, rfl, rfl⟩
theorem iX8_isBetter_62 : zIs mX8_isBetter 62 (.iaload) 1 63 := ⟨by decide +kernel, rfl⟩
theorem iX8_isBetter_63 : zBr mX8_isBetter 63 (.if_icmp .ge) 70 66 := ⟨7, by decide +kernel, by decide, rfl⟩
theorem iX8_isBetter_66 : zPi mX8_isBetter 66 1 67 := Or.inl ⟨1, by decide +kernel, by decide, rfl⟩
theorem iX8_isBetter_67 : zBr mX8_isBetter 67 .goto 92 70 := ⟨25, by decide +kernel, by decide, rfl⟩
theorem iX8_isBetter_70 : zPi mX8_isBetter 70 0 71 := Or.inl ⟨0, by decide +kernel, by decide, rfl⟩
theorem iX8_isBetter_71 : zBr mX8_isBetter 71 .goto 92 74 := ⟨21, by decide +kernel, by decide, rfl⟩
theorem iX8_isBetter_74 : zLa mX8_isBetter 74 0 75 := Or.inl ⟨0, by decide +kernel, rfl, rfl⟩
theorem iX8_isBetter_75 : zLi mX8_isBetter 75 1 76 := Or.inl ⟨1, by decide +kernel, rfl, rfl⟩
theorem iX8_isBetter_76 : zIs mX8_isBetter 76 (.invokevirtual 220) 3 79 := ⟨by decide +kernel, rfl⟩
theorem iX8_isBetter_79 : zLa mX8_isBetter 79 0 80 := Or.inl ⟨0, by decide +kernel, rfl, rfl⟩
theorem iX8_isBetter_80 : zLi mX8_isBetter 80 2 81 := Or.inl ⟨2, by decide +kernel, rfl, rfl⟩
theorem iX8_isBetter_81 : zIs mX8_isBetter 81 (.invokevirtual 220) 3 84 := ⟨by decide +kernel, rfl⟩
theorem iX8_isBetter_84 : zBr mX8_isBetter 84 (.if_icmp .le) 91 87 := ⟨7, by decide +kernel, by decide, rfl⟩
theorem iX8_isBetter_87 : zPi mX8_isBetter 87 1 88 := Or.inl ⟨1, by decide +kernel, by decide, rfl⟩
theorem iX8_isBetter_88 : zBr mX8_isBetter 88 .goto 92 91 := ⟨4, by decide +kernel, by decide, rfl⟩
theorem iX8_isBetter_91 : zPi mX8_isBetter 91 0 92 := Or.inl ⟨0, by decide +kernel, by decide, rfl⟩
theorem iX8_isBetter_92 : zIs mX8_isBetter 92 (.ireturn) 1 93 := ⟨by decide +kernel, rfl⟩
theorem iX8_rankOf_0 : zPi mX8_rankOf 0 1 1 := Or.inl ⟨1, by decide +kernel, by decide, rfl⟩
theorem iX8_rankOf_1 : zSi mX8_rankOf 1 2 2 := ⟨Or.inl ⟨2, by decide +kernel, rfl, rfl⟩, by decide⟩
theorem iX8_rankOf_2 : zPi mX8_rankOf 2 0 3 := Or.inl ⟨0, by decide +kernel, by decide, rfl⟩
theorem iX8_rankOf_3 : zSi mX8_rankOf 3 3 4 := ⟨Or.inl ⟨3, by decide +kernel, rfl, rfl⟩, by decide⟩
theorem iX8_rankOf_4 : zLi mX8_rankOf 4 3 5 := Or.inl ⟨3, by decide +kernel, rfl, rfl⟩
theorem iX8_rankOf_5 : zLa mX8_rankOf 5 0 6 := Or.inl ⟨0, by decide +kernel, rfl, rfl⟩
theorem iX8_rankOf_6 : zIs mX8_rankOf 6 (.getfield 127) 3 9 := ⟨by decide +kernel, rfl⟩
theorem iX8_rankOf_9 : zBr mX8_rankOf 9 (.if_icmp .ge) 50 12 := ⟨41, by decide +kernel, by decide, rfl⟩
theorem iX8_rankOf_12 : zLi mX8_rankOf 12 2 13 := Or.inl ⟨2, by decide +kernel, rfl, rfl⟩
theorem iX8_rankOf_13 : zLa mX8_rankOf 13 0 14 := Or.inl ⟨0, by decide +kernel, rfl, rfl⟩
theorem iX8_rankOf_14 : zIs mX8_rankOf 14 (.getfield 32) 3 17 := ⟨by decide +kernel, rfl⟩
theorem iX8_rankOf_17 : zLi mX8_rankOf 17 3 18 := Or.inl ⟨3, by decide +kernel, rfl, rfl⟩
theorem iX8_rankOf_18 : zIs mX8_rankOf 18 (.iaload) 1 19 := ⟨by decide +kernel, rfl⟩
theorem iX8_rankOf_19 : zLa mX8_rankOf 19 0 20 := Or.inl ⟨0, by decide +kernel, rfl, rfl⟩
theorem iX8_rankOf_20 : zIs mX8_rankOf 20 (.getfield 32) 3 23 := ⟨by decide +kernel, rfl⟩
theorem iX8_rankOf_23 : zLi mX8_rankOf 23 1 24 := Or.inl ⟨1, by decide +kernel, rfl, rfl⟩
theorem iX8_rankOf_24 : zIs mX8_rankOf 24 (.iaload) 1 25 := ⟨by decide +kernel, rfl⟩
theorem iX8_rankOf_25 : zBr mX8_rankOf 25 (.if_icmp .ne) 41 28 := ⟨16, by decide +kernel, by decide, rfl⟩
theorem iX8_rankOf_28 : zLa mX8_rankOf 28 0 29 := Or.inl ⟨0, by decide +kernel, rfl, rfl⟩
theorem iX8_rankOf_29 : zLi mX8_rankOf 29 3 30 := Or.inl ⟨3, by decide +kernel, rfl, rfl⟩
theorem iX8_rankOf_30 : zLi mX8_rankOf 30 1 31 := Or.inl ⟨1, by decide +kernel, rfl, rfl⟩
theorem iX8_rankOf_31 : zIs mX8_rankOf 31 (.invokevirtual 223) 3 34 := ⟨by decide +kernel, rfl⟩
theorem iX8_rankOf_34 : zBr mX8_rankOf 34 (.ifCond .eq) 41 37 := ⟨7, by decide +kernel, by decide, rfl⟩
theorem iX8_rankOf_37 : zPi mX8_rankOf 37 1 38 := Or.inl ⟨1, by decide +kernel, by decide, rfl⟩
theorem iX8_rankOf_38 : zBr mX8_rankOf 38 .goto 42 41 := ⟨4, by decide +kernel, by decide, rfl⟩
theorem iX8_rankOf_41 : zPi mX8_rankOf 41 0 42 := Or.inl ⟨0, by decide +kernel, by decide, rfl⟩
theorem iX8_rankOf_42 : zIs mX8_rankOf 42 (.iadd) 1 43 := ⟨by decide +kernel, rfl⟩
theorem iX8_rankOf_43 : zSi mX8_rankOf 43 2 44 := ⟨Or.inl ⟨2, by decide +kernel, rfl, rfl⟩, by decide⟩
theorem iX8_rankOf_44 : zIs mX8_rankOf 44 (.iinc 3 1) 3 47 := ⟨by decide +kernel, rfl⟩
theorem iX8_rankOf_47 : zBr mX8_rankOf 47 .goto 4 50 := ⟨(-43), by decide +kernel, by decide, rfl⟩
theorem iX8_rankOf_50 : zLi mX8_rankOf 50 2 51 := Or.inl ⟨2, by decide +kernel, rfl, rfl⟩
theorem iX8_rankOf_51 : zIs mX8_rankOf 51 (.ireturn) 1 52 := ⟨by decide +kernel, rfl⟩
theorem iX8_alike_0 : zPi mX8_alike 0 0 1 := Or.inl ⟨0, by decide +kernel, by decide, rfl⟩
theorem iX8_alike_1 : zSi mX8_alike 1 2 2 := ⟨Or.inl ⟨2, by decide +kernel, rfl, rfl⟩, by decide⟩
theorem iX8_alike_2 : zPi mX8_alike 2 0 3 := Or.inl ⟨0, by decide +kernel, by decide, rfl⟩
theorem iX8_alike_3 : zSi mX8_alike 3 3 4 := ⟨Or.inl ⟨3, by decide +kernel, rfl, rfl⟩, by decide⟩
theorem iX8_alike_4 : zLi mX8_alike 4 3 5 := Or.inl ⟨3, by decide +kernel, rfl, rfl⟩
theorem iX8_alike_5 : zLa mX8_alike 5 0 6 := Or.inl ⟨0, by decide +kernel, rfl, rfl⟩
theorem iX8_alike_6 : zIs mX8_alike 6 (.getfield 127) 3 9 := ⟨by decide +kernel, rfl⟩
theorem iX8_alike_9 : zBr mX8_alike 9 (.if_icmp .ge) 59 12 := ⟨50, by decide +kernel, by decide, rfl⟩
theorem iX8_alike_12 : zLi mX8_alike 12 2 13 := Or.inl ⟨2, by decide +kernel, rfl, rfl⟩
theorem iX8_alike_13 : zLa mX8_alike 13 0 14 := Or.inl ⟨0, by decide +kernel, rfl, rfl⟩
theorem iX8_alike_14 : zIs mX8_alike 14 (.getfield 32) 3 17 := ⟨by decide +kernel, rfl⟩
theorem iX8_alike_17 : zLi mX8_alike 17 3 18 := Or.inl ⟨3, by decide +kernel, rfl, rfl⟩
theorem iX8_alike_18 : zIs mX8_alike 18 (.iaload) 1 19 := ⟨by decide +kernel, rfl⟩
theorem iX8_alike_19 : zLa mX8_alike 19 0 20 := Or.inl ⟨0, by decide +kernel, rfl, rfl⟩
theorem iX8_alike_20 : zIs mX8_alike 20 (.getfield 32) 3 23 := ⟨by decide +kernel, rfl⟩
theorem iX8_alike_23 : zLi mX8_alike 23 1 24 := Or.inl ⟨1, by decide +kernel, rfl, rfl⟩
theorem iX8_alike_24 : zIs mX8_alike 24 (.iaload) 1 25 := ⟨by decide +kernel, rfl⟩
theorem iX8_alike_25 : zBr mX8_alike 25 (.if_icmp .ne) 50 28 := ⟨25, by decide +kernel, by decide, rfl⟩
theorem iX8_alike_28 : zLa mX8_alike 28 0 29 := Or.inl ⟨0, by decide +kernel, rfl, rfl⟩
theorem iX8_alike_29 : zLi mX8_alike 29 3 30 := Or.inl ⟨3, by decide +kernel, rfl, rfl⟩
theorem iX8_alike_30 : zLi mX8_alike 30 1 31 := Or.inl ⟨1, by decide +kernel, rfl, rfl⟩
theorem iX8_alike_31 : zIs mX8_alike 31 (.invokevirtual 223) 3 34 := ⟨by decide +kernel, rfl⟩
theorem iX8_alike_34 : zBr mX8_alike 34 (.ifCond .ne) 50 37 := ⟨16, by decide +kernel, by decide, rfl⟩
theorem iX8_alike_37 : zLa mX8_alike 37 0 38 := Or.inl ⟨0, by decide +kernel, rfl, rfl⟩
theorem iX8_alike_38 : zLi mX8_alike 38 1 39 := Or.inl ⟨1, by decide +kernel, rfl, rfl⟩
theorem iX8_alike_39 : zLi mX8_alike 39 3 40 := Or.inl ⟨3, by decide +kernel, rfl, rfl⟩
theorem iX8_alike_40 : zIs mX8_alike 40 (.invokevirtual 223) 3 43 := ⟨by decide +kernel, rfl⟩
theorem iX8_alike_43 : zBr mX8_alike 43 (.ifCond .ne) 50 46 := ⟨7, by decide +kernel, by decide, rfl⟩
theorem iX8_alike_46 : zPi mX8_alike 46 1 47 := Or.inl ⟨1, by decide +kernel, by decide, rfl⟩
theorem iX8_alike_47 : zBr mX8_alike 47 .goto 51 50 := ⟨4, by decide +kernel, by decide, rfl⟩
theorem iX8_alike_50 : zPi mX8_alike 50 0 51 := Or.inl ⟨0, by decide +kernel, by decide, rfl⟩
theorem iX8_alike_51 : zIs mX8_alike 51 (.iadd) 1 52 := ⟨by decide +kernel, rfl⟩
theorem iX8_alike_52 : zSi mX8_alike 52 2 53 := ⟨Or.inl ⟨2, by decide +kernel, rfl, rfl⟩, by decide⟩
theorem iX8_alike_53 : zIs mX8_alike 53 (.iinc 3 1) 3 56 := ⟨by decide +kernel, rfl⟩
theorem iX8_alike_56 : zBr mX8_alike 56 .goto 4 59 := ⟨(-52), by decide +kernel, by decide, rfl⟩
theorem iX8_alike_59 : zLi mX8_alike 59 2 60 := Or.inl ⟨2, by decide +kernel, rfl, rfl⟩
theorem iX8_alike_60 : zIs mX8_alike 60 (.ireturn) 1 61 := ⟨by decide +kernel, rfl⟩
theorem iX8_prizeOf_0 : zLa mX8_prizeOf 0 0 1 := Or.inl ⟨0, by decide +kernel, rfl, rfl⟩
theorem iX8_prizeOf_1 : zIs mX8_prizeOf 1 (.getfield 32) 3 4 := ⟨by decide +kernel, rfl⟩
theorem iX8_prizeOf_4 : zLi mX8_prizeOf 4 1 5 := Or.inl ⟨1, by decide +kernel, rfl, rfl⟩
theorem iX8_prizeOf_5 : zIs mX8_prizeOf 5 (.iaload) 1 6 := ⟨by decide +kernel, rfl⟩
theorem iX8_prizeOf_6 : zSi mX8_prizeOf 6 2 7 := ⟨Or.inl ⟨2, by decide +kernel, rfl, rfl⟩, by decide⟩
theorem iX8_prizeOf_7 : zLa mX8_prizeOf 7 0 8 := Or.inl ⟨0, by decide +kernel, rfl, rfl⟩
theorem iX8_prizeOf_8 : zIs mX8_prizeOf 8 (.getfield 22) 3 11 := ⟨by decide +kernel, rfl⟩
theorem iX8_prizeOf_11 : zLi mX8_prizeOf 11 2 12 := Or.inl ⟨2, by decide +kernel, rfl, rfl⟩
theorem iX8_prizeOf_12 : zIs mX8_prizeOf 12 (.baload) 1 13 := ⟨by decide +kernel, rfl⟩
theorem iX8_prizeOf_13 : zBr mX8_prizeOf 13 (.ifCond .ne) 18 16 := ⟨5, by decide +kernel, by decide, rfl⟩
theorem iX8_prizeOf_16 : zPi mX8_prizeOf 16 0 17 := Or.inl ⟨0, by decide +kernel, by decide, rfl⟩
theorem iX8_prizeOf_17 : zIs mX8_prizeOf 17 (.ireturn) 1 18 := ⟨by decide +kernel, rfl⟩
theorem iX8_prizeOf_18 : zLa mX8_prizeOf 18 0 19 := Or.inl ⟨0, by decide +kernel, rfl, rfl⟩
theorem iX8_prizeOf_19 : zLi mX8_prizeOf 19 1 20 := Or.inl ⟨1, by decide +kernel, rfl, rfl⟩
theorem iX8_prizeOf_20 : zIs mX8_prizeOf 20 (.invokevirtual 226) 3 23 := ⟨by decide +kernel, rfl⟩
theorem iX8_prizeOf_23 : zSi mX8_prizeOf 23 3 24 := ⟨Or.inl ⟨3, by decide +kernel, rfl, rfl⟩, by decide⟩
theorem iX8_prizeOf_24 : zLa mX8_prizeOf 24 0 25 := Or.inl ⟨0, by decide +kernel, rfl, rfl⟩
theorem iX8_prizeOf_25 : zLi mX8_prizeOf 25 1 26 := Or.inl ⟨1, by decide +kernel, rfl, rfl⟩
theorem iX8_prizeOf_26 : zIs mX8_prizeOf 26 (.invokevirtual 229) 3 29 := ⟨by decide +kernel, rfl⟩
theorem iX8_prizeOf_29 : zSi mX8_prizeOf 29 4 31 := ⟨Or.inr ⟨by decide +kernel, rfl⟩, by decide⟩
theorem iX8_prizeOf_31 : zPi mX8_prizeOf 31 0 32 := Or.inl ⟨0, by decide +kernel, by decide, rfl⟩
theorem iX8_prizeOf_32 : zSi mX8_prizeOf 32 5 34 := ⟨Or.inr ⟨by decide +kernel, rfl⟩, by decide⟩
theorem iX8_prizeOf_34 : zLi mX8_prizeOf 34 3 35 := Or.inl ⟨3, by decide +kernel, rfl, rfl⟩
theorem iX8_prizeOf_35 : zSi mX8_prizeOf 35 6 37 := ⟨Or.inr ⟨by decide +kernel, rfl⟩, by decide⟩
theorem iX8_prizeOf_37 : zLi mX8_prizeOf 37 6 39 := Or.inr ⟨by decide +kernel, rfl⟩
theorem iX8_prizeOf_39 : zLi mX8_prizeOf 39 3 40 := Or.inl ⟨3, by decide +kernel, rfl, rfl⟩
theorem iX8_prizeOf_40 : zLi mX8_prizeOf 40 4 42 := Or.inr ⟨by decide +kernel, rfl⟩
theorem iX8_prizeOf_42 : zIs mX8_prizeOf 42 (.iadd) 1 43 := ⟨by decide +kernel, rfl⟩
theorem iX8_prizeOf_43 : zBr mX8_prizeOf 43 (.if_icmp .ge) 76 46 := ⟨33, by decide +kernel, by decide, rfl⟩
theorem iX8_prizeOf_46 : zLi mX8_prizeOf 46 6 48 := Or.inr ⟨by decide +kernel, rfl⟩
theorem iX8_prizeOf_48 : zPi mX8_prizeOf 48 3 49 := Or.inl ⟨3, by decide +kernel, by decide, rfl⟩
theorem iX8_prizeOf_49 : zBr mX8_prizeOf 49 (.if_icmp .gt) 76 52 := ⟨27, by decide +kernel, by decide, rfl⟩
theorem iX8_prizeOf_52 : zLi mX8_prizeOf 52 5 54 := Or.inr ⟨by decide +kernel, rfl⟩
theorem iX8_prizeOf_54 : zLa mX8_prizeOf 54 0 55 := Or.inl ⟨0, by decide +kernel, rfl, rfl⟩
theorem iX8_prizeOf_55 : zIs mX8_prizeOf 55 (.getfield 26) 3 58 := ⟨by decide +kernel, rfl⟩
theorem iX8_prizeOf_58 : zPi mX8_prizeOf 58 3 59 := Or.inl ⟨3, by decide +kernel, by decide, rfl⟩
theorem iX8_prizeOf_59 : zLi mX8_prizeOf 59 2 60 := Or.inl ⟨2, by decide +kernel, rfl, rfl⟩
theorem iX8_prizeOf_60 : zIs mX8_prizeOf 60 (.imul) 1 61 := ⟨by decide +kernel, rfl⟩
theorem iX8_prizeOf_61 : zLi mX8_prizeOf 61 6 63 := Or.inr ⟨by decide +kernel, rfl⟩
theorem iX8_prizeOf_63 : zIs mX8_prizeOf 63 (.iadd) 1 64 := ⟨by decide +kernel, rfl⟩
theorem iX8_prizeOf_64 : zPi mX8_prizeOf 64 1 65 := Or.inl ⟨1, by decide +kernel, by decide, rfl⟩
theorem iX8_prizeOf_65 : zIs mX8_prizeOf 65 (.isub) 1 66 := ⟨by decide +kernel, rfl⟩
theorem iX8_prizeOf_66 : zIs mX8_prizeOf 66 (.iaload) 1 67 := ⟨by decide +kernel, rfl⟩
theorem iX8_prizeOf_67 : zIs mX8_prizeOf 67 (.iadd) 1 68 := ⟨by decide +kernel, rfl⟩
theorem iX8_prizeOf_68 : zSi mX8_prizeOf 68 5 70 := ⟨Or.inr ⟨by decide +kernel, rfl⟩, by decide⟩
theorem iX8_prizeOf_70 : zIs mX8_prizeOf 70 (.iinc 6 1) 3 73 := ⟨by decide +kernel, rfl⟩
theorem iX8_prizeOf_73 : zBr mX8_prizeOf 73 .goto 37 76 := ⟨(-36), by decide +kernel, by decide, rfl⟩
theorem iX8_prizeOf_76 : zLi mX8_prizeOf 76 5 78 := Or.inr ⟨by decide +kernel, rfl⟩
theorem iX8_prizeOf_78 : zLi mX8_prizeOf 78 4 80 := Or.inr ⟨by decide +kernel, rfl⟩
theorem iX8_prizeOf_80 : zIs mX8_prizeOf 80 (.idiv) 1 81 := ⟨by decide +kernel, rfl⟩
theorem iX8_prizeOf_81 : zIs mX8_prizeOf 81 (.ireturn) 1 82 := ⟨by decide +kernel, rfl⟩
theorem iX8_told_0 : zLa mX8_told 0 0 1 := Or.inl ⟨0, by decide +kernel, rfl, rfl⟩
theorem iX8_told_1 : zLi mX8_told 1 1 2 := Or.inl ⟨1, by decide +kernel, rfl, rfl⟩
theorem iX8_told_2 : zIs mX8_told 2 (.invokevirtual 154) 3 5 := ⟨by decide +kernel, rfl⟩
theorem iX8_told_5 : zBr mX8_told 5 (.ifCond .ne) 11 8 := ⟨6, by decide +kernel, by decide, rfl⟩
theorem iX8_told_8 : zPi mX8_told 8 (-101) 10 := Or.inr (Or.inl ⟨(-101), by decide +kernel, by decide, rfl⟩)
theorem iX8_told_10 : zIs mX8_told 10 (.ireturn) 1 11 := ⟨by decide +kernel, rfl⟩
theorem iX8_told_11 : zLi mX8_told 11 2 12 := Or.inl ⟨2, by decide +kernel, rfl, rfl⟩
theorem iX8_told_12 : zPi mX8_told 12 0 13 := Or.inl ⟨0, by decide +kernel, by decide, rfl⟩
theorem iX8_told_13 : zPi mX8_told 13 6 15 := Or.inr (Or.inl ⟨6, by decide +kernel, by decide, rfl⟩)
theorem iX8_told_15 : zIs mX8_told 15 (.invokestatic 123) 3 18 := ⟨by decide +kernel, rfl⟩
theorem iX8_told_18 : zBr mX8_told 18 (.ifCond .ne) 24 21 := ⟨6, by decide +kernel, by decide, rfl⟩
theorem iX8_told_21 : zPi mX8_told 21 (-102) 23 := Or.inr (Or.inl ⟨(-102), by decide +kernel, by decide, rfl⟩)
theorem iX8_told_23 : zIs mX8_told 23 (.ireturn) 1 24 := ⟨by decide +kernel, rfl⟩
theorem iX8_told_24 : zLa mX8_told 24 0 25 := Or.inl ⟨0, by decide +kernel, rfl, rfl⟩
theorem iX8_told_25 : zIs mX8_told 25 (.invokevirtual 232) 3 28 := ⟨by decide +kernel, rfl⟩
theorem iX8_told_28 : zLi mX8_told 28 2 29 := Or.inl ⟨2, by decide +kernel, rfl, rfl⟩
theorem iX8_told_29 : zTs mX8_told 29 0 [68, 75, 82, 89, 96, 102] 108 := ⟨79, 5, #[39, 46, 53, 60, 67, 73], 39, by decide +kernel, by decide, by decide, by decide +kernel⟩
theorem iX8_told_68 : zLa mX8_told 68 0 69 := Or.inl ⟨0, by decide +kernel, rfl, rfl⟩
theorem iX8_told_69 : zIs mX8_told 69 (.getfield 32) 3 72 := ⟨by decide +kernel, rfl⟩
theorem iX8_told_72 : zLi mX8_told 72 1 73 := Or.inl ⟨1, by decide +kernel, rfl, rfl⟩
theorem iX8_told_73 : zIs mX8_told 73 (.iaload) 1 74 := ⟨by decide +kernel, rfl⟩
theorem iX8_told_74 : zIs mX8_told 74 (.ireturn) 1 75 := ⟨by decide +kernel, rfl⟩
theorem iX8_told_75 : zLa mX8_told 75 0 76 := Or.inl ⟨0, by decide +kernel, rfl, rfl⟩
theorem iX8_told_76 : zIs mX8_told 76 (.getfield 113) 3 79 := ⟨by decide +kernel, rfl⟩
theorem iX8_told_79 : zLi mX8_told 79 1 80 := Or.inl ⟨1, by decide +kernel, rfl, rfl⟩
theorem iX8_told_80 : zIs mX8_told 80 (.iaload) 1 81 := ⟨by decide +kernel, rfl⟩
theorem iX8_told_81 : zIs mX8_told 81 (.ireturn) 1 82 := ⟨by decide +kernel, rfl⟩
theorem iX8_told_82 : zLa mX8_told 82 0 83 := Or.inl ⟨0, by decide +kernel, rfl, rfl⟩
theorem iX8_told_83 : zIs mX8_told 83 (.getfield 68) 3 86 := ⟨by decide +kernel, rfl⟩
theorem iX8_told_86 : zLi mX8_told 86 1 87 := Or.inl ⟨1, by decide +kernel, rfl, rfl⟩
theorem iX8_told_87 : zIs mX8_told 87 (.iaload) 1 88 := ⟨by decide +kernel, rfl⟩
theorem iX8_told_88 : zIs mX8_told 88 (.ireturn) 1 89 := ⟨by decide +kernel, rfl⟩
theorem iX8_told_89 : zLa mX8_told 89 0 90 := Or.inl ⟨0, by decide +kernel, rfl, rfl⟩
theorem iX8_told_90 : zIs mX8_told 90 (.getfield 71) 3 93 := ⟨by decide +kernel, rfl⟩
theorem iX8_told_93 : zLi mX8_told 93 1 94 := Or.inl ⟨1, by decide +kernel, rfl, rfl⟩
theorem iX8_told_94 : zIs mX8_told 94 (.iaload) 1 95 := ⟨by decide +kernel, rfl⟩
theorem iX8_told_95 : zIs mX8_told 95 (.ireturn) 1 96 := ⟨by decide +kernel, rfl⟩
theorem iX8_told_96 : zLa mX8_told 96 0 97 := Or.inl ⟨0, by decide +kernel, rfl, rfl⟩
theorem iX8_told_97 : zLi mX8_told 97 1 98 := Or.inl ⟨1, by decide +kernel, rfl, rfl⟩
theorem iX8_told_98 : zIs mX8_told 98 (.invokevirtual 226) 3 101 := ⟨by decide +kernel, rfl⟩
theorem iX8_told_101 : zIs mX8_told 101 (.ireturn) 1 102 := ⟨by decide +kernel, rfl⟩
theorem iX8_told_102 : zLa mX8_told 102 0 103 := Or.inl ⟨0, by decide +kernel, rfl, rfl⟩
theorem iX8_told_103 : zLi mX8_told 103 1 104 := Or.inl ⟨1, by decide +kernel, rfl, rfl⟩
theorem iX8_told_104 : zIs mX8_told 104 (.invokevirtual 229) 3 107 := ⟨by decide +kernel, rfl⟩
theorem iX8_told_107 : zIs mX8_told 107 (.ireturn) 1 108 := ⟨by decide +kernel, rfl⟩
theorem iX8_told_108 : zLa mX8_told 108 0 109 := Or.inl ⟨0, by decide +kernel, rfl, rfl⟩
theorem iX8_told_109 : zLi mX8_told 109 1 110 := Or.inl ⟨1, by decide +kernel, rfl, rfl⟩
theorem iX8_told_110 : zIs mX8_told 110 (.invokevirtual 235) 3 113 := ⟨by decide +kernel, rfl⟩
theorem iX8_told_113 : zIs mX8_told 113 (.ireturn) 1 114 := ⟨by decide +kernel, rfl⟩
theorem iX8_mark_0 : zLa mX8_mark 0 0 1 := Or.inl ⟨0, by decide +kernel, rfl, rfl⟩
theorem iX8_mark_1 : zLi mX8_mark 1 1 2 := Or.inl ⟨1, by decide +kernel, rfl, rfl⟩
theorem iX8_mark_2 : zIs mX8_mark 2 (.invokevirtual 154) 3 5 := ⟨by decide +kernel, rfl⟩
theorem iX8_mark_5 : zBr mX8_mark 5 (.ifCond .eq) 16 8 := ⟨11, by decide +kernel, by decide, rfl⟩
theorem iX8_mark_8 : zLa mX8_mark 8 0 9 := Or.inl ⟨0, by decide +kernel, rfl, rfl⟩
theorem iX8_mark_9 : zLi mX8_mark 9 2 10 := Or.inl ⟨2, by decide +kernel, rfl, rfl⟩
theorem iX8_mark_10 : zIs mX8_mark 10 (.invokevirtual 151) 3 13 := ⟨by decide +kernel, rfl⟩
theorem iX8_mark_13 : zBr mX8_mark 13 (.ifCond .ne) 19 16 := ⟨6, by decide +kernel, by decide, rfl⟩
theorem iX8_mark_16 : zPi mX8_mark 16 (-101) 18 := Or.inr (Or.inl ⟨(-101), by decide +kernel, by decide, rfl⟩)
theorem iX8_mark_18 : zIs mX8_mark 18 (.ireturn) 1 19 := ⟨by decide +kernel, rfl⟩
theorem iX8_mark_19 : zLa mX8_mark 19 0 20 := Or.inl ⟨0, by decide +kernel, rfl, rfl⟩
theorem iX8_mark_20 : zIs mX8_mark 20 (.getfield 29) 3 23 := ⟨by decide +kernel, rfl⟩
theorem iX8_mark_23 : zLi mX8_mark 23 2 24 := Or.inl ⟨2, by decide +kernel, rfl, rfl⟩
theorem iX8_mark_24 : zIs mX8_mark 24 (.iaload) 1 25 := ⟨by decide +kernel, rfl⟩
theorem iX8_mark_25 : zLa mX8_mark 25 0 26 := Or.inl ⟨0, by decide +kernel, rfl, rfl⟩
theorem iX8_mark_26 : zIs mX8_mark 26 (.getfield 32) 3 29 := ⟨by decide +kernel, rfl⟩
theorem iX8_mark_29 : zLi mX8_mark 29 1 30 := Or.inl ⟨1, by decide +kernel, rfl, rfl⟩
theorem iX8_mark_30 : zIs mX8_mark 30 (.iaload) 1 31 := ⟨by decide +kernel, rfl⟩
theorem iX8_mark_31 : zBr mX8_mark 31 (.if_icmp .ne) 43 34 := ⟨12, by decide +kernel, by decide, rfl⟩
theorem iX8_mark_34 : zLa mX8_mark 34 0 35 := Or.inl ⟨0, by decide +kernel, rfl, rfl⟩
theorem iX8_mark_35 : zLi mX8_mark 35 1 36 := Or.inl ⟨1, by decide +kernel, rfl, rfl⟩
theorem iX8_mark_36 : zLi mX8_mark 36 2 37 := Or.inl ⟨2, by decide +kernel, rfl, rfl⟩
theorem iX8_mark_37 : zIs mX8_mark 37 (.invokevirtual 161) 3 40 := ⟨by decide +kernel, rfl⟩
theorem iX8_mark_40 : zBr mX8_mark 40 .goto 45 43 := ⟨5, by decide +kernel, by decide, rfl⟩
theorem iX8_mark_43 : zPi mX8_mark 43 (-102) 45 := Or.inr (Or.inl ⟨(-102), by decide +kernel, by decide, rfl⟩)
theorem iX8_mark_45 : zIs mX8_mark 45 (.ireturn) 1 46 := ⟨by decide +kernel, rfl⟩
theorem iX8_place_0 : zLa mX8_place 0 0 1 := Or.inl ⟨0, by decide +kernel, rfl, rfl⟩
theorem iX8_place_1 : zLi mX8_place 1 1 2 := Or.inl ⟨1, by decide +kernel, rfl, rfl⟩
theorem iX8_place_2 : zIs mX8_place 2 (.invokevirtual 133) 3 5 := ⟨by decide +kernel, rfl⟩
theorem iX8_place_5 : zBr mX8_place 5 (.ifCond .ne) 11 8 := ⟨6, by decide +kernel, by decide, rfl⟩
theorem iX8_place_8 : zPi mX8_place 8 (-101) 10 := Or.inr (Or.inl ⟨(-101), by decide +kernel, by decide, rfl⟩)
theorem iX8_place_10 : zIs mX8_place 10 (.ireturn) 1 11 := ⟨by decide +kernel, rfl⟩
theorem iX8_place_11 : zLi mX8_place 11 2 12 := Or.inl ⟨2, by decide +kernel, rfl, rfl⟩
theorem iX8_place_12 : zPi mX8_place 12 0 13 := Or.inl ⟨0, by decide +kernel, by decide, rfl⟩
theorem iX8_place_13 : zLa mX8_place 13 0 14 := Or.inl ⟨0, by decide +kernel, rfl, rfl⟩
theorem iX8_place_14 : zIs mX8_place 14 (.getfield 19) 3 17 := ⟨by decide +kernel, rfl⟩
theorem iX8_place_17 : zLi mX8_place 17 1 18 := Or.inl ⟨1, by decide +kernel, rfl, rfl⟩
theorem iX8_place_18 : zIs mX8_place 18 (.iaload) 1 19 := ⟨by decide +kernel, rfl⟩
theorem iX8_place_19 : zPi mX8_place 19 1 20 := Or.inl ⟨1, by decide +kernel, by decide, rfl⟩
theorem iX8_place_20 : zIs mX8_place 20 (.isub) 1 21 := ⟨by decide +kernel, rfl⟩
theorem iX8_place_21 : zIs mX8_place 21 (.invokestatic 123) 3 24 := ⟨by decide +kernel, rfl⟩
theorem iX8_place_24 : zBr mX8_place 24 (.ifCond .ne) 29 27 := ⟨5, by decide +kernel, by decide, rfl⟩
theorem iX8_place_27 : zPi mX8_place 27 (-1) 28 := Or.inl ⟨(-1), by decide +kernel, by decide, rfl⟩
theorem iX8_place_28 : zIs mX8_place 28 (.ireturn) 1 29 := ⟨by decide +kernel, rfl⟩
theorem iX8_place_29 : zLa mX8_place 29 0 30 := Or.inl ⟨0, by decide +kernel, rfl, rfl⟩
theorem iX8_place_30 : zIs mX8_place 30 (.invokevirtual 232) 3 33 := ⟨by decide +kernel, rfl⟩
theorem iX8_place_33 : zPi mX8_place 33 0 34 := Or.inl ⟨0, by decide +kernel, by decide, rfl⟩
theorem iX8_place_34 : zSi mX8_place 34 3 35 := ⟨Or.inl ⟨3, by decide +kernel, rfl, rfl⟩, by decide⟩
theorem iX8_place_35 : zLi mX8_place 35 3 36 := Or.inl ⟨3, by decide +kernel, rfl, rfl⟩
theorem iX8_place_36 : zLa mX8_place 36 0 37 := Or.inl ⟨0, by decide +kernel, rfl, rfl⟩
theorem iX8_place_37 : zIs mX8_place 37 (.getfield 127) 3 40 := ⟨by decide +kernel, rfl⟩
theorem iX8_place_40 : zBr mX8_place 40 (.if_icmp .ge) 135 43 := ⟨95, by decide +kernel, by decide, rfl⟩
theorem iX8_place_43 : zLa mX8_place 43 0 44 := Or.inl ⟨0, by decide +kernel, rfl, rfl⟩
theorem iX8_place_44 : zIs mX8_place 44 (.getfield 32) 3 47 := ⟨by decide +kernel, rfl⟩
theorem iX8_place_47 : zLi mX8_place 47 3 48 := Or.inl ⟨3, by decide +kernel, rfl, rfl⟩
theorem iX8_place_48 : zIs mX8_place 48 (.iaload) 1 49 := ⟨by decide +kernel, rfl⟩
theorem iX8_place_49 : zLi mX8_place 49 1 50 := Or.inl ⟨1, by decide +kernel, rfl, rfl⟩
theorem iX8_place_50 : zBr mX8_place 50 (.if_icmp .ne) 129 53 := ⟨79, by decide +kernel, by decide, rfl⟩
theorem iX8_place_53 : zPi mX8_place 53 0 54 := Or.inl ⟨0, by decide +kernel, by decide, rfl⟩
theorem iX8_place_54 : zSi mX8_place 54 4 56 := ⟨Or.inr ⟨by decide +kernel, rfl⟩, by decide⟩
theorem iX8_place_56 : zPi mX8_place 56 0 57 := Or.inl ⟨0, by decide +kernel, by decide, rfl⟩
theorem iX8_place_57 : zSi mX8_place 57 5 59 := ⟨Or.inr ⟨by decide +kernel, rfl⟩, by decide⟩
theorem iX8_place_59 : zLi mX8_place 59 5 61 := Or.inr ⟨by decide +kernel, rfl⟩
theorem iX8_place_61 : zLa mX8_place 61 0 62 := Or.inl ⟨0, by decide +kernel, rfl, rfl⟩
theorem iX8_place_62 : zIs mX8_place 62 (.getfield 127) 3 65 := ⟨by decide +kernel, rfl⟩
theorem iX8_place_65 : zBr mX8_place 65 (.if_icmp .ge) 121 68 := ⟨56, by decide +kernel, by decide, rfl⟩
theorem iX8_place_68 : zLi mX8_place 68 4 70 := Or.inr ⟨by decide +kernel, rfl⟩
theorem iX8_place_70 : zLa mX8_place 70 0 71 := Or.inl ⟨0, by decide +kernel, rfl, rfl⟩
theorem iX8_place_71 : zIs mX8_place 71 (.getfield 32) 3 74 := ⟨by decide +kernel, rfl⟩
theorem iX8_place_74 : zLi mX8_place 74 5 76 := Or.inr ⟨by decide +kernel, rfl⟩
theorem iX8_place_76 : zIs mX8_place 76 (.iaload) 1 77 := ⟨by decide +kernel, rfl⟩
theorem iX8_place_77 : zLi mX8_place 77 1 78 := Or.inl ⟨1, by decide +kernel, rfl, rfl⟩
theorem iX8_place_78 : zBr mX8_place 78 (.if_icmp .ne) 111 81 := ⟨33, by decide +kernel, by decide, rfl⟩
theorem iX8_place_81 : zLa mX8_place 81 0 82 := Or.inl ⟨0, by decide +kernel, rfl, rfl⟩
theorem iX8_place_82 : zLi mX8_place 82 5 84 := Or.inr ⟨by decide +kernel, rfl⟩
theorem iX8_place_84 : zLi mX8_place 84 3 85 := Or.inl ⟨3, by decide +kernel, rfl, rfl⟩
theorem iX8_place_85 : zIs mX8_place 85 (.invokevirtual 223) 3 88 := ⟨by decide +kernel, rfl⟩
theorem iX8_place_88 : zBr mX8_place 88 (.ifCond .ne) 107 91 := ⟨19, by decide +kernel, by decide, rfl⟩
theorem iX8_place_91 : zLi mX8_place 91 5 93 := Or.inr ⟨by decide +kernel, rfl⟩
theorem iX8_place_93 : zLi mX8_place 93 3 94 := Or.inl ⟨3, by decide +kernel, rfl, rfl⟩
theorem iX8_place_94 : zBr mX8_place 94 (.if_icmp .ge) 111 97 := ⟨17, by decide +kernel, by decide, rfl⟩
theorem iX8_place_97 : zLa mX8_place 97 0 98 := Or.inl ⟨0, by decide +kernel, rfl, rfl⟩
theorem iX8_place_98 : zLi mX8_place 98 3 99 := Or.inl ⟨3, by decide +kernel, rfl, rfl⟩
theorem iX8_place_99 : zLi mX8_place 99 5 101 := Or.inr ⟨by decide +kernel, rfl⟩
theorem iX8_place_101 : zIs mX8_place 101 (.invokevirtual 223) 3 104 := ⟨by decide +kernel, rfl⟩
theorem iX8_place_104 : zBr mX8_place 104 (.ifCond .ne) 111 107 := ⟨7, by decide +kernel, by decide, rfl⟩
theorem iX8_place_107 : zPi mX8_place 107 1 108 := Or.inl ⟨1, by decide +kernel, by decide, rfl⟩
theorem iX8_place_108 : zBr mX8_place 108 .goto 112 111 := ⟨4, by decide +kernel, by decide, rfl⟩
theorem iX8_place_111 : zPi mX8_place 111 0 112 := Or.inl ⟨0, by decide +kernel, by decide, rfl⟩
theorem iX8_place_112 : zIs mX8_place 112 (.iadd) 1 113 := ⟨by decide +kernel, rfl⟩
theorem iX8_place_113 : zSi mX8_place 113 4 115 := ⟨Or.inr ⟨by decide +kernel, rfl⟩, by decide⟩
theorem iX8_place_115 : zIs mX8_place 115 (.iinc 5 1) 3 118 := ⟨by decide +kernel, rfl⟩
theorem iX8_place_118 : zBr mX8_place 118 .goto 59 121 := ⟨(-59), by decide +kernel, by decide, rfl⟩
theorem iX8_place_121 : zLi mX8_place 121 4 123 := Or.inr ⟨by decide +kernel, rfl⟩
theorem iX8_place_123 : zLi mX8_place 123 2 124 := Or.inl ⟨2, by decide +kernel, rfl, rfl⟩
theorem iX8_place_124 : zBr mX8_place 124 (.if_icmp .ne) 129 127 := ⟨5, by decide +kernel, by decide, rfl⟩
theorem iX8_place_127 : zLi mX8_place 127 3 128 := Or.inl ⟨3, by decide +kernel, rfl, rfl⟩
theorem iX8_place_128 : zIs mX8_place 128 (.ireturn) 1 129 := ⟨by decide +kernel, rfl⟩
theorem iX8_place_129 : zIs mX8_place 129 (.iinc 3 1) 3 132 := ⟨by decide +kernel, rfl⟩
end
section
theorem iX8_place_132 : zBr mX8_place 132 .goto 35 135 := ⟨(-97), by decide +kernel, by decide, rfl⟩
theorem iX8_place_135 : zPi mX8_place 135 (-1) 136 := Or.inl ⟨(-1), by decide +kernel, by decide, rfl⟩
theorem iX8_place_136 : zIs mX8_place 136 (.ireturn) 1 137 := ⟨by decide +kernel, rfl⟩
theorem iX8_close_0 : zLa mX8_close 0 0 1 := Or.inl ⟨0, by decide +kernel, rfl, rfl⟩
theorem iX8_close_1 : zLi mX8_close 1 1 2 := Or.inl ⟨1, by decide +kernel, rfl, rfl⟩
theorem iX8_close_2 : zIs mX8_close 2 (.invokevirtual 133) 3 5 := ⟨by decide +kernel, rfl⟩
theorem iX8_close_5 : zBr mX8_close 5 (.ifCond .ne) 11 8 := ⟨6, by decide +kernel, by decide, rfl⟩
theorem iX8_close_8 : zPi mX8_close 8 (-101) 10 := Or.inr (Or.inl ⟨(-101), by decide +kernel, by decide, rfl⟩)
theorem iX8_close_10 : zIs mX8_close 10 (.ireturn) 1 11 := ⟨by decide +kernel, rfl⟩
theorem iX8_close_11 : zLa mX8_close 11 0 12 := Or.inl ⟨0, by decide +kernel, rfl, rfl⟩
theorem iX8_close_12 : zIs mX8_close 12 (.getfield 116) 3 15 := ⟨by decide +kernel, rfl⟩
theorem iX8_close_15 : zBr mX8_close 15 (.ifCond .gt) 27 18 := ⟨12, by decide +kernel, by decide, rfl⟩
theorem iX8_close_18 : zLa mX8_close 18 0 19 := Or.inl ⟨0, by decide +kernel, rfl, rfl⟩
theorem iX8_close_19 : zIs mX8_close 19 (.getfield 22) 3 22 := ⟨by decide +kernel, rfl⟩
theorem iX8_close_22 : zLi mX8_close 22 1 23 := Or.inl ⟨1, by decide +kernel, rfl, rfl⟩
theorem iX8_close_23 : zIs mX8_close 23 (.baload) 1 24 := ⟨by decide +kernel, rfl⟩
theorem iX8_close_24 : zBr mX8_close 24 (.ifCond .eq) 30 27 := ⟨6, by decide +kernel, by decide, rfl⟩
theorem iX8_close_27 : zPi mX8_close 27 (-103) 29 := Or.inr (Or.inl ⟨(-103), by decide +kernel, by decide, rfl⟩)
theorem iX8_close_29 : zIs mX8_close 29 (.ireturn) 1 30 := ⟨by decide +kernel, rfl⟩
theorem iX8_close_30 : zLa mX8_close 30 0 31 := Or.inl ⟨0, by decide +kernel, rfl, rfl⟩
theorem iX8_close_31 : zLa mX8_close 31 0 32 := Or.inl ⟨0, by decide +kernel, rfl, rfl⟩
theorem iX8_close_32 : zIs mX8_close 32 (.getfield 144) 3 35 := ⟨by decide +kernel, rfl⟩
theorem iX8_close_35 : zIs mX8_close 35 (.invokevirtual 208) 3 38 := ⟨by decide +kernel, rfl⟩
theorem iX8_close_38 : zLa mX8_close 38 0 39 := Or.inl ⟨0, by decide +kernel, rfl, rfl⟩
theorem iX8_close_39 : zIs mX8_close 39 (.getfield 22) 3 42 := ⟨by decide +kernel, rfl⟩
theorem iX8_close_42 : zLi mX8_close 42 1 43 := Or.inl ⟨1, by decide +kernel, rfl, rfl⟩
theorem iX8_close_43 : zPi mX8_close 43 1 44 := Or.inl ⟨1, by decide +kernel, by decide, rfl⟩
theorem iX8_close_44 : zIs mX8_close 44 (.bastore) 1 45 := ⟨by decide +kernel, rfl⟩
theorem iX8_close_45 : zLa mX8_close 45 0 46 := Or.inl ⟨0, by decide +kernel, rfl, rfl⟩
theorem iX8_close_46 : zIs mX8_close 46 (.getfield 19) 3 49 := ⟨by decide +kernel, rfl⟩
theorem iX8_close_49 : zLi mX8_close 49 1 50 := Or.inl ⟨1, by decide +kernel, rfl, rfl⟩
theorem iX8_close_50 : zIs mX8_close 50 (.iaload) 1 51 := ⟨by decide +kernel, rfl⟩
theorem iX8_close_51 : zIs mX8_close 51 (.ireturn) 1 52 := ⟨by decide +kernel, rfl⟩
theorem iX8_about_0 : zLa mX8_about 0 0 1 := Or.inl ⟨0, by decide +kernel, rfl, rfl⟩
theorem iX8_about_1 : zLi mX8_about 1 1 2 := Or.inl ⟨1, by decide +kernel, rfl, rfl⟩
theorem iX8_about_2 : zIs mX8_about 2 (.invokevirtual 133) 3 5 := ⟨by decide +kernel, rfl⟩
theorem iX8_about_5 : zBr mX8_about 5 (.ifCond .ne) 11 8 := ⟨6, by decide +kernel, by decide, rfl⟩
theorem iX8_about_8 : zPi mX8_about 8 (-101) 10 := Or.inr (Or.inl ⟨(-101), by decide +kernel, by decide, rfl⟩)
theorem iX8_about_10 : zIs mX8_about 10 (.ireturn) 1 11 := ⟨by decide +kernel, rfl⟩
theorem iX8_about_11 : zLi mX8_about 11 2 12 := Or.inl ⟨2, by decide +kernel, rfl, rfl⟩
theorem iX8_about_12 : zTs mX8_about 12 0 [52, 59, 66, 73, 80, 95] 174 := ⟨162, 5, #[40, 47, 54, 61, 68, 83], 40, by decide +kernel, by decide, by decide, by decide +kernel⟩
theorem iX8_about_52 : zLa mX8_about 52 0 53 := Or.inl ⟨0, by decide +kernel, rfl, rfl⟩
theorem iX8_about_53 : zIs mX8_about 53 (.getfield 7) 3 56 := ⟨by decide +kernel, rfl⟩
theorem iX8_about_56 : zLi mX8_about 56 1 57 := Or.inl ⟨1, by decide +kernel, rfl, rfl⟩
theorem iX8_about_57 : zIs mX8_about 57 (.iaload) 1 58 := ⟨by decide +kernel, rfl⟩
theorem iX8_about_58 : zIs mX8_about 58 (.ireturn) 1 59 := ⟨by decide +kernel, rfl⟩
theorem iX8_about_59 : zLa mX8_about 59 0 60 := Or.inl ⟨0, by decide +kernel, rfl, rfl⟩
theorem iX8_about_60 : zIs mX8_about 60 (.getfield 13) 3 63 := ⟨by decide +kernel, rfl⟩
theorem iX8_about_63 : zLi mX8_about 63 1 64 := Or.inl ⟨1, by decide +kernel, rfl, rfl⟩
theorem iX8_about_64 : zIs mX8_about 64 (.iaload) 1 65 := ⟨by decide +kernel, rfl⟩
theorem iX8_about_65 : zIs mX8_about 65 (.ireturn) 1 66 := ⟨by decide +kernel, rfl⟩
theorem iX8_about_66 : zLa mX8_about 66 0 67 := Or.inl ⟨0, by decide +kernel, rfl, rfl⟩
theorem iX8_about_67 : zIs mX8_about 67 (.getfield 16) 3 70 := ⟨by decide +kernel, rfl⟩
theorem iX8_about_70 : zLi mX8_about 70 1 71 := Or.inl ⟨1, by decide +kernel, rfl, rfl⟩
theorem iX8_about_71 : zIs mX8_about 71 (.iaload) 1 72 := ⟨by decide +kernel, rfl⟩
theorem iX8_about_72 : zIs mX8_about 72 (.ireturn) 1 73 := ⟨by decide +kernel, rfl⟩
theorem iX8_about_73 : zLa mX8_about 73 0 74 := Or.inl ⟨0, by decide +kernel, rfl, rfl⟩
theorem iX8_about_74 : zIs mX8_about 74 (.getfield 19) 3 77 := ⟨by decide +kernel, rfl⟩
theorem iX8_about_77 : zLi mX8_about 77 1 78 := Or.inl ⟨1, by decide +kernel, rfl, rfl⟩
theorem iX8_about_78 : zIs mX8_about 78 (.iaload) 1 79 := ⟨by decide +kernel, rfl⟩
theorem iX8_about_79 : zIs mX8_about 79 (.ireturn) 1 80 := ⟨by decide +kernel, rfl⟩
theorem iX8_about_80 : zLa mX8_about 80 0 81 := Or.inl ⟨0, by decide +kernel, rfl, rfl⟩
theorem iX8_about_81 : zIs mX8_about 81 (.getfield 22) 3 84 := ⟨by decide +kernel, rfl⟩
theorem iX8_about_84 : zLi mX8_about 84 1 85 := Or.inl ⟨1, by decide +kernel, rfl, rfl⟩
theorem iX8_about_85 : zIs mX8_about 85 (.baload) 1 86 := ⟨by decide +kernel, rfl⟩
theorem iX8_about_86 : zBr mX8_about 86 (.ifCond .eq) 93 89 := ⟨7, by decide +kernel, by decide, rfl⟩
theorem iX8_about_89 : zPi mX8_about 89 1 90 := Or.inl ⟨1, by decide +kernel, by decide, rfl⟩
theorem iX8_about_90 : zBr mX8_about 90 .goto 94 93 := ⟨4, by decide +kernel, by decide, rfl⟩
theorem iX8_about_93 : zPi mX8_about 93 0 94 := Or.inl ⟨0, by decide +kernel, by decide, rfl⟩
theorem iX8_about_94 : zIs mX8_about 94 (.ireturn) 1 95 := ⟨by decide +kernel, rfl⟩
theorem iX8_about_95 : zLa mX8_about 95 0 96 := Or.inl ⟨0, by decide +kernel, rfl, rfl⟩
theorem iX8_about_96 : zIs mX8_about 96 (.invokevirtual 232) 3 99 := ⟨by decide +kernel, rfl⟩
theorem iX8_about_99 : zLa mX8_about 99 0 100 := Or.inl ⟨0, by decide +kernel, rfl, rfl⟩
theorem iX8_about_100 : zIs mX8_about 100 (.getfield 26) 3 103 := ⟨by decide +kernel, rfl⟩
theorem iX8_about_103 : zPi mX8_about 103 3 104 := Or.inl ⟨3, by decide +kernel, by decide, rfl⟩
theorem iX8_about_104 : zLi mX8_about 104 1 105 := Or.inl ⟨1, by decide +kernel, rfl, rfl⟩
theorem iX8_about_105 : zIs mX8_about 105 (.imul) 1 106 := ⟨by decide +kernel, rfl⟩
theorem iX8_about_106 : zIs mX8_about 106 (.iaload) 1 107 := ⟨by decide +kernel, rfl⟩
theorem iX8_about_107 : zLa mX8_about 107 0 108 := Or.inl ⟨0, by decide +kernel, rfl, rfl⟩
theorem iX8_about_108 : zIs mX8_about 108 (.getfield 26) 3 111 := ⟨by decide +kernel, rfl⟩
theorem iX8_about_111 : zPi mX8_about 111 3 112 := Or.inl ⟨3, by decide +kernel, by decide, rfl⟩
theorem iX8_about_112 : zLi mX8_about 112 1 113 := Or.inl ⟨1, by decide +kernel, rfl, rfl⟩
theorem iX8_about_113 : zIs mX8_about 113 (.imul) 1 114 := ⟨by decide +kernel, rfl⟩
theorem iX8_about_114 : zPi mX8_about 114 1 115 := Or.inl ⟨1, by decide +kernel, by decide, rfl⟩
theorem iX8_about_115 : zIs mX8_about 115 (.iadd) 1 116 := ⟨by decide +kernel, rfl⟩
theorem iX8_about_116 : zIs mX8_about 116 (.iaload) 1 117 := ⟨by decide +kernel, rfl⟩
theorem iX8_about_117 : zIs mX8_about 117 (.iadd) 1 118 := ⟨by decide +kernel, rfl⟩
theorem iX8_about_118 : zLa mX8_about 118 0 119 := Or.inl ⟨0, by decide +kernel, rfl, rfl⟩
theorem iX8_about_119 : zIs mX8_about 119 (.getfield 26) 3 122 := ⟨by decide +kernel, rfl⟩
theorem iX8_about_122 : zPi mX8_about 122 3 123 := Or.inl ⟨3, by decide +kernel, by decide, rfl⟩
theorem iX8_about_123 : zLi mX8_about 123 1 124 := Or.inl ⟨1, by decide +kernel, rfl, rfl⟩
theorem iX8_about_124 : zIs mX8_about 124 (.imul) 1 125 := ⟨by decide +kernel, rfl⟩
theorem iX8_about_125 : zPi mX8_about 125 2 126 := Or.inl ⟨2, by decide +kernel, by decide, rfl⟩
theorem iX8_about_126 : zIs mX8_about 126 (.iadd) 1 127 := ⟨by decide +kernel, rfl⟩
theorem iX8_about_127 : zIs mX8_about 127 (.iaload) 1 128 := ⟨by decide +kernel, rfl⟩
theorem iX8_about_128 : zIs mX8_about 128 (.iadd) 1 129 := ⟨by decide +kernel, rfl⟩
theorem iX8_about_129 : zSi mX8_about 129 3 130 := ⟨Or.inl ⟨3, by decide +kernel, rfl, rfl⟩, by decide⟩
theorem iX8_about_130 : zPi mX8_about 130 0 131 := Or.inl ⟨0, by decide +kernel, by decide, rfl⟩
theorem iX8_about_131 : zSi mX8_about 131 4 133 := ⟨Or.inr ⟨by decide +kernel, rfl⟩, by decide⟩
theorem iX8_about_133 : zLi mX8_about 133 4 135 := Or.inr ⟨by decide +kernel, rfl⟩
theorem iX8_about_135 : zLa mX8_about 135 0 136 := Or.inl ⟨0, by decide +kernel, rfl, rfl⟩
theorem iX8_about_136 : zIs mX8_about 136 (.getfield 127) 3 139 := ⟨by decide +kernel, rfl⟩
theorem iX8_about_139 : zBr mX8_about 139 (.if_icmp .ge) 172 142 := ⟨33, by decide +kernel, by decide, rfl⟩
theorem iX8_about_142 : zLi mX8_about 142 3 143 := Or.inl ⟨3, by decide +kernel, rfl, rfl⟩
theorem iX8_about_143 : zLa mX8_about 143 0 144 := Or.inl ⟨0, by decide +kernel, rfl, rfl⟩
theorem iX8_about_144 : zIs mX8_about 144 (.getfield 32) 3 147 := ⟨by decide +kernel, rfl⟩
theorem iX8_about_147 : zLi mX8_about 147 4 149 := Or.inr ⟨by decide +kernel, rfl⟩
theorem iX8_about_149 : zIs mX8_about 149 (.iaload) 1 150 := ⟨by decide +kernel, rfl⟩
theorem iX8_about_150 : zLi mX8_about 150 1 151 := Or.inl ⟨1, by decide +kernel, rfl, rfl⟩
theorem iX8_about_151 : zBr mX8_about 151 (.if_icmp .ne) 163 154 := ⟨12, by decide +kernel, by decide, rfl⟩
theorem iX8_about_154 : zLa mX8_about 154 0 155 := Or.inl ⟨0, by decide +kernel, rfl, rfl⟩
theorem iX8_about_155 : zLi mX8_about 155 4 157 := Or.inr ⟨by decide +kernel, rfl⟩
theorem iX8_about_157 : zIs mX8_about 157 (.invokevirtual 235) 3 160 := ⟨by decide +kernel, rfl⟩
theorem iX8_about_160 : zBr mX8_about 160 .goto 164 163 := ⟨4, by decide +kernel, by decide, rfl⟩
theorem iX8_about_163 : zPi mX8_about 163 0 164 := Or.inl ⟨0, by decide +kernel, by decide, rfl⟩
theorem iX8_about_164 : zIs mX8_about 164 (.isub) 1 165 := ⟨by decide +kernel, rfl⟩
theorem iX8_about_165 : zSi mX8_about 165 3 166 := ⟨Or.inl ⟨3, by decide +kernel, rfl, rfl⟩, by decide⟩
theorem iX8_about_166 : zIs mX8_about 166 (.iinc 4 1) 3 169 := ⟨by decide +kernel, rfl⟩
theorem iX8_about_169 : zBr mX8_about 169 .goto 133 172 := ⟨(-36), by decide +kernel, by decide, rfl⟩
theorem iX8_about_172 : zLi mX8_about 172 3 173 := Or.inl ⟨3, by decide +kernel, rfl, rfl⟩
theorem iX8_about_173 : zIs mX8_about 173 (.ireturn) 1 174 := ⟨by decide +kernel, rfl⟩
theorem iX8_about_174 : zPi mX8_about 174 (-102) 176 := Or.inr (Or.inl ⟨(-102), by decide +kernel, by decide, rfl⟩)
theorem iX8_about_176 : zIs mX8_about 176 (.ireturn) 1 177 := ⟨by decide +kernel, rfl⟩
theorem iX8_uphold_0 : zLi mX8_uphold 0 1 1 := Or.inl ⟨1, by decide +kernel, rfl, rfl⟩
theorem iX8_uphold_1 : zPi mX8_uphold 1 0 2 := Or.inl ⟨0, by decide +kernel, by decide, rfl⟩
theorem iX8_uphold_2 : zLa mX8_uphold 2 0 3 := Or.inl ⟨0, by decide +kernel, rfl, rfl⟩
theorem iX8_uphold_3 : zIs mX8_uphold 3 (.getfield 144) 3 6 := ⟨by decide +kernel, rfl⟩
theorem iX8_uphold_6 : zPi mX8_uphold 6 1 7 := Or.inl ⟨1, by decide +kernel, by decide, rfl⟩
theorem iX8_uphold_7 : zIs mX8_uphold 7 (.isub) 1 8 := ⟨by decide +kernel, rfl⟩
theorem iX8_uphold_8 : zIs mX8_uphold 8 (.invokestatic 123) 3 11 := ⟨by decide +kernel, rfl⟩
theorem iX8_uphold_11 : zBr mX8_uphold 11 (.ifCond .ne) 17 14 := ⟨6, by decide +kernel, by decide, rfl⟩
theorem iX8_uphold_14 : zPi mX8_uphold 14 (-101) 16 := Or.inr (Or.inl ⟨(-101), by decide +kernel, by decide, rfl⟩)
theorem iX8_uphold_16 : zIs mX8_uphold 16 (.ireturn) 1 17 := ⟨by decide +kernel, rfl⟩
theorem iX8_uphold_17 : zLa mX8_uphold 17 0 18 := Or.inl ⟨0, by decide +kernel, rfl, rfl⟩
theorem iX8_uphold_18 : zIs mX8_uphold 18 (.getfield 116) 3 21 := ⟨by decide +kernel, rfl⟩
theorem iX8_uphold_21 : zBr mX8_uphold 21 (.ifCond .gt) 33 24 := ⟨12, by decide +kernel, by decide, rfl⟩
theorem iX8_uphold_24 : zLa mX8_uphold 24 0 25 := Or.inl ⟨0, by decide +kernel, rfl, rfl⟩
theorem iX8_uphold_25 : zIs mX8_uphold 25 (.getfield 62) 3 28 := ⟨by decide +kernel, rfl⟩
theorem iX8_uphold_28 : zLi mX8_uphold 28 1 29 := Or.inl ⟨1, by decide +kernel, rfl, rfl⟩
theorem iX8_uphold_29 : zIs mX8_uphold 29 (.baload) 1 30 := ⟨by decide +kernel, rfl⟩
theorem iX8_uphold_30 : zBr mX8_uphold 30 (.ifCond .ne) 36 33 := ⟨6, by decide +kernel, by decide, rfl⟩
theorem iX8_uphold_33 : zPi mX8_uphold 33 (-103) 35 := Or.inr (Or.inl ⟨(-103), by decide +kernel, by decide, rfl⟩)
theorem iX8_uphold_35 : zIs mX8_uphold 35 (.ireturn) 1 36 := ⟨by decide +kernel, rfl⟩
theorem iX8_uphold_36 : zLa mX8_uphold 36 0 37 := Or.inl ⟨0, by decide +kernel, rfl, rfl⟩
theorem iX8_uphold_37 : zLa mX8_uphold 37 0 38 := Or.inl ⟨0, by decide +kernel, rfl, rfl⟩
theorem iX8_uphold_38 : zIs mX8_uphold 38 (.getfield 144) 3 41 := ⟨by decide +kernel, rfl⟩
theorem iX8_uphold_41 : zIs mX8_uphold 41 (.invokevirtual 208) 3 44 := ⟨by decide +kernel, rfl⟩
theorem iX8_uphold_44 : zLa mX8_uphold 44 0 45 := Or.inl ⟨0, by decide +kernel, rfl, rfl⟩
theorem iX8_uphold_45 : zIs mX8_uphold 45 (.getfield 62) 3 48 := ⟨by decide +kernel, rfl⟩
theorem iX8_uphold_48 : zLi mX8_uphold 48 1 49 := Or.inl ⟨1, by decide +kernel, rfl, rfl⟩
theorem iX8_uphold_49 : zPi mX8_uphold 49 0 50 := Or.inl ⟨0, by decide +kernel, by decide, rfl⟩
theorem iX8_uphold_50 : zIs mX8_uphold 50 (.bastore) 1 51 := ⟨by decide +kernel, rfl⟩
theorem iX8_uphold_51 : zLa mX8_uphold 51 0 52 := Or.inl ⟨0, by decide +kernel, rfl, rfl⟩
theorem iX8_uphold_52 : zIs mX8_uphold 52 (.getfield 22) 3 55 := ⟨by decide +kernel, rfl⟩
theorem iX8_uphold_55 : zLa mX8_uphold 55 0 56 := Or.inl ⟨0, by decide +kernel, rfl, rfl⟩
theorem iX8_uphold_56 : zIs mX8_uphold 56 (.getfield 32) 3 59 := ⟨by decide +kernel, rfl⟩
theorem iX8_uphold_59 : zLa mX8_uphold 59 0 60 := Or.inl ⟨0, by decide +kernel, rfl, rfl⟩
theorem iX8_uphold_60 : zIs mX8_uphold 60 (.getfield 56) 3 63 := ⟨by decide +kernel, rfl⟩
theorem iX8_uphold_63 : zLi mX8_uphold 63 1 64 := Or.inl ⟨1, by decide +kernel, rfl, rfl⟩
theorem iX8_uphold_64 : zIs mX8_uphold 64 (.iaload) 1 65 := ⟨by decide +kernel, rfl⟩
theorem iX8_uphold_65 : zIs mX8_uphold 65 (.iaload) 1 66 := ⟨by decide +kernel, rfl⟩
theorem iX8_uphold_66 : zPi mX8_uphold 66 0 67 := Or.inl ⟨0, by decide +kernel, by decide, rfl⟩
theorem iX8_uphold_67 : zIs mX8_uphold 67 (.bastore) 1 68 := ⟨by decide +kernel, rfl⟩
theorem iX8_uphold_68 : zLa mX8_uphold 68 0 69 := Or.inl ⟨0, by decide +kernel, rfl, rfl⟩
theorem iX8_uphold_69 : zLa mX8_uphold 69 0 70 := Or.inl ⟨0, by decide +kernel, rfl, rfl⟩
theorem iX8_uphold_70 : zIs mX8_uphold 70 (.getfield 144) 3 73 := ⟨by decide +kernel, rfl⟩
theorem iX8_uphold_73 : zIs mX8_uphold 73 (.invokevirtual 188) 3 76 := ⟨by decide +kernel, rfl⟩
theorem iX8_uphold_76 : zPi mX8_uphold 76 1 77 := Or.inl ⟨1, by decide +kernel, by decide, rfl⟩
theorem iX8_uphold_77 : zIs mX8_uphold 77 (.ireturn) 1 78 := ⟨by decide +kernel, rfl⟩
theorem iX8_event_0 : zLi mX8_event 0 1 1 := Or.inl ⟨1, by decide +kernel, rfl, rfl⟩
theorem iX8_event_1 : zPi mX8_event 1 0 2 := Or.inl ⟨0, by decide +kernel, by decide, rfl⟩
theorem iX8_event_2 : zLa mX8_event 2 0 3 := Or.inl ⟨0, by decide +kernel, rfl, rfl⟩
theorem iX8_event_3 : zIs mX8_event 3 (.getfield 144) 3 6 := ⟨by decide +kernel, rfl⟩
theorem iX8_event_6 : zPi mX8_event 6 1 7 := Or.inl ⟨1, by decide +kernel, by decide, rfl⟩
theorem iX8_event_7 : zIs mX8_event 7 (.isub) 1 8 := ⟨by decide +kernel, rfl⟩
theorem iX8_event_8 : zIs mX8_event 8 (.invokestatic 123) 3 11 := ⟨by decide +kernel, rfl⟩
theorem iX8_event_11 : zBr mX8_event 11 (.ifCond .ne) 17 14 := ⟨6, by decide +kernel, by decide, rfl⟩
theorem iX8_event_14 : zPi mX8_event 14 (-101) 16 := Or.inr (Or.inl ⟨(-101), by decide +kernel, by decide, rfl⟩)
theorem iX8_event_16 : zIs mX8_event 16 (.ireturn) 1 17 := ⟨by decide +kernel, rfl⟩
theorem iX8_event_17 : zLi mX8_event 17 2 18 := Or.inl ⟨2, by decide +kernel, rfl, rfl⟩
theorem iX8_event_18 : zBr mX8_event 18 (.ifCond .ne) 30 21 := ⟨12, by decide +kernel, by decide, rfl⟩
theorem iX8_event_21 : zLa mX8_event 21 0 22 := Or.inl ⟨0, by decide +kernel, rfl, rfl⟩
theorem iX8_event_22 : zIs mX8_event 22 (.getfield 50) 3 25 := ⟨by decide +kernel, rfl⟩
theorem iX8_event_25 : zLi mX8_event 25 1 26 := Or.inl ⟨1, by decide +kernel, rfl, rfl⟩
theorem iX8_event_26 : zIs mX8_event 26 (.iaload) 1 27 := ⟨by decide +kernel, rfl⟩
theorem iX8_event_27 : zBr mX8_event 27 .goto 96 30 := ⟨69, by decide +kernel, by decide, rfl⟩
theorem iX8_event_30 : zLi mX8_event 30 2 31 := Or.inl ⟨2, by decide +kernel, rfl, rfl⟩
theorem iX8_event_31 : zPi mX8_event 31 1 32 := Or.inl ⟨1, by decide +kernel, by decide, rfl⟩
theorem iX8_event_32 : zBr mX8_event 32 (.if_icmp .ne) 44 35 := ⟨12, by decide +kernel, by decide, rfl⟩
theorem iX8_event_35 : zLa mX8_event 35 0 36 := Or.inl ⟨0, by decide +kernel, rfl, rfl⟩
theorem iX8_event_36 : zIs mX8_event 36 (.getfield 53) 3 39 := ⟨by decide +kernel, rfl⟩
theorem iX8_event_39 : zLi mX8_event 39 1 40 := Or.inl ⟨1, by decide +kernel, rfl, rfl⟩
theorem iX8_event_40 : zIs mX8_event 40 (.iaload) 1 41 := ⟨by decide +kernel, rfl⟩
theorem iX8_event_41 : zBr mX8_event 41 .goto 96 44 := ⟨55, by decide +kernel, by decide, rfl⟩
theorem iX8_event_44 : zLi mX8_event 44 2 45 := Or.inl ⟨2, by decide +kernel, rfl, rfl⟩
theorem iX8_event_45 : zPi mX8_event 45 2 46 := Or.inl ⟨2, by decide +kernel, by decide, rfl⟩
theorem iX8_event_46 : zBr mX8_event 46 (.if_icmp .ne) 58 49 := ⟨12, by decide +kernel, by decide, rfl⟩
theorem iX8_event_49 : zLa mX8_event 49 0 50 := Or.inl ⟨0, by decide +kernel, rfl, rfl⟩
theorem iX8_event_50 : zIs mX8_event 50 (.getfield 56) 3 53 := ⟨by decide +kernel, rfl⟩
theorem iX8_event_53 : zLi mX8_event 53 1 54 := Or.inl ⟨1, by decide +kernel, rfl, rfl⟩
theorem iX8_event_54 : zIs mX8_event 54 (.iaload) 1 55 := ⟨by decide +kernel, rfl⟩
theorem iX8_event_55 : zBr mX8_event 55 .goto 96 58 := ⟨41, by decide +kernel, by decide, rfl⟩
theorem iX8_event_58 : zLi mX8_event 58 2 59 := Or.inl ⟨2, by decide +kernel, rfl, rfl⟩
theorem iX8_event_59 : zPi mX8_event 59 3 60 := Or.inl ⟨3, by decide +kernel, by decide, rfl⟩
theorem iX8_event_60 : zBr mX8_event 60 (.if_icmp .ne) 72 63 := ⟨12, by decide +kernel, by decide, rfl⟩
theorem iX8_event_63 : zLa mX8_event 63 0 64 := Or.inl ⟨0, by decide +kernel, rfl, rfl⟩
theorem iX8_event_64 : zIs mX8_event 64 (.getfield 59) 3 67 := ⟨by decide +kernel, rfl⟩
theorem iX8_event_67 : zLi mX8_event 67 1 68 := Or.inl ⟨1, by decide +kernel, rfl, rfl⟩
theorem iX8_event_68 : zIs mX8_event 68 (.iaload) 1 69 := ⟨by decide +kernel, rfl⟩
theorem iX8_event_69 : zBr mX8_event 69 .goto 96 72 := ⟨27, by decide +kernel, by decide, rfl⟩
theorem iX8_event_72 : zLi mX8_event 72 2 73 := Or.inl ⟨2, by decide +kernel, rfl, rfl⟩
theorem iX8_event_73 : zPi mX8_event 73 4 74 := Or.inl ⟨4, by decide +kernel, by decide, rfl⟩
theorem iX8_event_74 : zBr mX8_event 74 (.if_icmp .ne) 94 77 := ⟨20, by decide +kernel, by decide, rfl⟩
theorem iX8_event_77 : zLa mX8_event 77 0 78 := Or.inl ⟨0, by decide +kernel, rfl, rfl⟩
theorem iX8_event_78 : zIs mX8_event 78 (.getfield 62) 3 81 := ⟨by decide +kernel, rfl⟩
theorem iX8_event_81 : zLi mX8_event 81 1 82 := Or.inl ⟨1, by decide +kernel, rfl, rfl⟩
theorem iX8_event_82 : zIs mX8_event 82 (.baload) 1 83 := ⟨by decide +kernel, rfl⟩
theorem iX8_event_83 : zBr mX8_event 83 (.ifCond .eq) 90 86 := ⟨7, by decide +kernel, by decide, rfl⟩
theorem iX8_event_86 : zPi mX8_event 86 1 87 := Or.inl ⟨1, by decide +kernel, by decide, rfl⟩
theorem iX8_event_87 : zBr mX8_event 87 .goto 96 90 := ⟨9, by decide +kernel, by decide, rfl⟩
theorem iX8_event_90 : zPi mX8_event 90 0 91 := Or.inl ⟨0, by decide +kernel, by decide, rfl⟩
theorem iX8_event_91 : zBr mX8_event 91 .goto 96 94 := ⟨5, by decide +kernel, by decide, rfl⟩
theorem iX8_event_94 : zPi mX8_event 94 (-102) 96 := Or.inr (Or.inl ⟨(-102), by decide +kernel, by decide, rfl⟩)
theorem iX8_event_96 : zIs mX8_event 96 (.ireturn) 1 97 := ⟨by decide +kernel, rfl⟩
theorem iX8_failure_0 : zLi mX8_failure 0 1 1 := Or.inl ⟨1, by decide +kernel, rfl, rfl⟩
theorem iX8_failure_1 : zPi mX8_failure 1 0 2 := Or.inl ⟨0, by decide +kernel, by decide, rfl⟩
theorem iX8_failure_2 : zLa mX8_failure 2 0 3 := Or.inl ⟨0, by decide +kernel, rfl, rfl⟩
theorem iX8_failure_3 : zIs mX8_failure 3 (.getfield 171) 3 6 := ⟨by decide +kernel, rfl⟩
theorem iX8_failure_6 : zPi mX8_failure 6 200 9 := Or.inr (Or.inr (Or.inl ⟨200, by decide +kernel, by decide, rfl⟩))
theorem iX8_failure_9 : zBr mX8_failure 9 (.if_icmp .ge) 19 12 := ⟨10, by decide +kernel, by decide, rfl⟩
theorem iX8_failure_12 : zLa mX8_failure 12 0 13 := Or.inl ⟨0, by decide +kernel, rfl, rfl⟩
theorem iX8_failure_13 : zIs mX8_failure 13 (.getfield 171) 3 16 := ⟨by decide +kernel, rfl⟩
theorem iX8_failure_16 : zBr mX8_failure 16 .goto 22 19 := ⟨6, by decide +kernel, by decide, rfl⟩
theorem iX8_failure_19 : zPi mX8_failure 19 200 22 := Or.inr (Or.inr (Or.inl ⟨200, by decide +kernel, by decide, rfl⟩))
theorem iX8_failure_22 : zPi mX8_failure 22 1 23 := Or.inl ⟨1, by decide +kernel, by decide, rfl⟩
theorem iX8_failure_23 : zIs mX8_failure 23 (.isub) 1 24 := ⟨by decide +kernel, rfl⟩
theorem iX8_failure_24 : zIs mX8_failure 24 (.invokestatic 123) 3 27 := ⟨by decide +kernel, rfl⟩
theorem iX8_failure_27 : zBr mX8_failure 27 (.ifCond .ne) 33 30 := ⟨6, by decide +kernel, by decide, rfl⟩
theorem iX8_failure_30 : zPi mX8_failure 30 (-101) 32 := Or.inr (Or.inl ⟨(-101), by decide +kernel, by decide, rfl⟩)
theorem iX8_failure_32 : zIs mX8_failure 32 (.ireturn) 1 33 := ⟨by decide +kernel, rfl⟩
theorem iX8_failure_33 : zLi mX8_failure 33 2 34 := Or.inl ⟨2, by decide +kernel, rfl, rfl⟩
theorem iX8_failure_34 : zPi mX8_failure 34 0 35 := Or.inl ⟨0, by decide +kernel, by decide, rfl⟩
theorem iX8_failure_35 : zPi mX8_failure 35 5 36 := Or.inl ⟨5, by decide +kernel, by decide, rfl⟩
theorem iX8_failure_36 : zIs mX8_failure 36 (.invokestatic 123) 3 39 := ⟨by decide +kernel, rfl⟩
theorem iX8_failure_39 : zBr mX8_failure 39 (.ifCond .eq) 56 42 := ⟨17, by decide +kernel, by decide, rfl⟩
theorem iX8_failure_42 : zLa mX8_failure 42 0 43 := Or.inl ⟨0, by decide +kernel, rfl, rfl⟩
theorem iX8_failure_43 : zIs mX8_failure 43 (.getfield 101) 3 46 := ⟨by decide +kernel, rfl⟩
theorem iX8_failure_46 : zPi mX8_failure 46 6 48 := Or.inr (Or.inl ⟨6, by decide +kernel, by decide, rfl⟩)
theorem iX8_failure_48 : zLi mX8_failure 48 1 49 := Or.inl ⟨1, by decide +kernel, rfl, rfl⟩
theorem iX8_failure_49 : zIs mX8_failure 49 (.imul) 1 50 := ⟨by decide +kernel, rfl⟩
theorem iX8_failure_50 : zLi mX8_failure 50 2 51 := Or.inl ⟨2, by decide +kernel, rfl, rfl⟩
theorem iX8_failure_51 : zIs mX8_failure 51 (.iadd) 1 52 := ⟨by decide +kernel, rfl⟩
theorem iX8_failure_52 : zIs mX8_failure 52 (.iaload) 1 53 := ⟨by decide +kernel, rfl⟩
theorem iX8_failure_53 : zBr mX8_failure 53 .goto 58 56 := ⟨5, by decide +kernel, by decide, rfl⟩
theorem iX8_failure_56 : zPi mX8_failure 56 (-102) 58 := Or.inr (Or.inl ⟨(-102), by decide +kernel, by decide, rfl⟩)
theorem iX8_failure_58 : zIs mX8_failure 58 (.ireturn) 1 59 := ⟨by decide +kernel, rfl⟩
theorem iX8_is_0 : zLi mX8_is 0 1 1 := Or.inl ⟨1, by decide +kernel, rfl, rfl⟩
theorem iX8_is_1 : zPi mX8_is 1 0 2 := Or.inl ⟨0, by decide +kernel, by decide, rfl⟩
theorem iX8_is_2 : zPi mX8_is 2 11 4 := Or.inr (Or.inl ⟨11, by decide +kernel, by decide, rfl⟩)
theorem iX8_is_4 : zIs mX8_is 4 (.invokestatic 123) 3 7 := ⟨by decide +kernel, rfl⟩
theorem iX8_is_7 : zBr mX8_is 7 (.ifCond .eq) 20 10 := ⟨13, by decide +kernel, by decide, rfl⟩
theorem iX8_is_10 : zLi mX8_is 10 2 11 := Or.inl ⟨2, by decide +kernel, rfl, rfl⟩
theorem iX8_is_11 : zPi mX8_is 11 0 12 := Or.inl ⟨0, by decide +kernel, by decide, rfl⟩
theorem iX8_is_12 : zPi mX8_is 12 11 14 := Or.inr (Or.inl ⟨11, by decide +kernel, by decide, rfl⟩)
theorem iX8_is_14 : zIs mX8_is 14 (.invokestatic 123) 3 17 := ⟨by decide +kernel, rfl⟩
theorem iX8_is_17 : zBr mX8_is 17 (.ifCond .ne) 25 20 := ⟨8, by decide +kernel, by decide, rfl⟩
theorem iX8_is_20 : zPi mX8_is 20 (-102) 22 := Or.inr (Or.inl ⟨(-102), by decide +kernel, by decide, rfl⟩)
theorem iX8_is_22 : zBr mX8_is 22 .goto 38 25 := ⟨16, by decide +kernel, by decide, rfl⟩
theorem iX8_is_25 : zLi mX8_is 25 1 26 := Or.inl ⟨1, by decide +kernel, rfl, rfl⟩
theorem iX8_is_26 : zLi mX8_is 26 2 27 := Or.inl ⟨2, by decide +kernel, rfl, rfl⟩
theorem iX8_is_27 : zIs mX8_is 27 (.invokestatic 178) 3 30 := ⟨by decide +kernel, rfl⟩
theorem iX8_is_30 : zBr mX8_is 30 (.ifCond .eq) 37 33 := ⟨7, by decide +kernel, by decide, rfl⟩
theorem iX8_is_33 : zPi mX8_is 33 1 34 := Or.inl ⟨1, by decide +kernel, by decide, rfl⟩
theorem iX8_is_34 : zBr mX8_is 34 .goto 38 37 := ⟨4, by decide +kernel, by decide, rfl⟩
theorem iX8_is_37 : zPi mX8_is 37 0 38 := Or.inl ⟨0, by decide +kernel, by decide, rfl⟩
theorem iX8_is_38 : zIs mX8_is 38 (.ireturn) 1 39 := ⟨by decide +kernel, rfl⟩
theorem iX8_undo_0 : zLa mX8_undo 0 0 1 := Or.inl ⟨0, by decide +kernel, rfl, rfl⟩
theorem iX8_undo_1 : zIs mX8_undo 1 (.getfield 116) 3 4 := ⟨by decide +kernel, rfl⟩
theorem iX8_undo_4 : zBr mX8_undo 4 (.ifCond .gt) 14 7 := ⟨10, by decide +kernel, by decide, rfl⟩
theorem iX8_undo_7 : zLa mX8_undo 7 0 8 := Or.inl ⟨0, by decide +kernel, rfl, rfl⟩
theorem iX8_undo_8 : zIs mX8_undo 8 (.getfield 198) 3 11 := ⟨by decide +kernel, rfl⟩
theorem iX8_undo_11 : zBr mX8_undo 11 (.ifCond .ne) 17 14 := ⟨6, by decide +kernel, by decide, rfl⟩
theorem iX8_undo_14 : zPi mX8_undo 14 (-103) 16 := Or.inr (Or.inl ⟨(-103), by decide +kernel, by decide, rfl⟩)
theorem iX8_undo_16 : zIs mX8_undo 16 (.ireturn) 1 17 := ⟨by decide +kernel, rfl⟩
theorem iX8_undo_17 : zLa mX8_undo 17 0 18 := Or.inl ⟨0, by decide +kernel, rfl, rfl⟩
theorem iX8_undo_18 : zPi mX8_undo 18 0 19 := Or.inl ⟨0, by decide +kernel, by decide, rfl⟩
theorem iX8_undo_19 : zIs mX8_undo 19 (.putfield 198) 3 22 := ⟨by decide +kernel, rfl⟩
theorem iX8_undo_22 : zPi mX8_undo 22 0 23 := Or.inl ⟨0, by decide +kernel, by decide, rfl⟩
theorem iX8_undo_23 : zSi mX8_undo 23 1 24 := ⟨Or.inl ⟨1, by decide +kernel, rfl, rfl⟩, by decide⟩
theorem iX8_undo_24 : zLi mX8_undo 24 1 25 := Or.inl ⟨1, by decide +kernel, rfl, rfl⟩
theorem iX8_undo_25 : zPi mX8_undo 25 400 28 := Or.inr (Or.inr (Or.inl ⟨400, by decide +kernel, by decide, rfl⟩))
theorem iX8_undo_28 : zBr mX8_undo 28 (.if_icmp .ge) 49 31 := ⟨21, by decide +kernel, by decide, rfl⟩
theorem iX8_undo_31 : zLa mX8_undo 31 0 32 := Or.inl ⟨0, by decide +kernel, rfl, rfl⟩
theorem iX8_undo_32 : zIs mX8_undo 32 (.getfield 62) 3 35 := ⟨by decide +kernel, rfl⟩
theorem iX8_undo_35 : zLi mX8_undo 35 1 36 := Or.inl ⟨1, by decide +kernel, rfl, rfl⟩
theorem iX8_undo_36 : zLa mX8_undo 36 0 37 := Or.inl ⟨0, by decide +kernel, rfl, rfl⟩
theorem iX8_undo_37 : zIs mX8_undo 37 (.getfield 104) 3 40 := ⟨by decide +kernel, rfl⟩
theorem iX8_undo_40 : zLi mX8_undo 40 1 41 := Or.inl ⟨1, by decide +kernel, rfl, rfl⟩
theorem iX8_undo_41 : zIs mX8_undo 41 (.baload) 1 42 := ⟨by decide +kernel, rfl⟩
theorem iX8_undo_42 : zIs mX8_undo 42 (.bastore) 1 43 := ⟨by decide +kernel, rfl⟩
theorem iX8_undo_43 : zIs mX8_undo 43 (.iinc 1 1) 3 46 := ⟨by decide +kernel, rfl⟩
theorem iX8_undo_46 : zBr mX8_undo 46 .goto 24 49 := ⟨(-22), by decide +kernel, by decide, rfl⟩
theorem iX8_undo_49 : zPi mX8_undo 49 0 50 := Or.inl ⟨0, by decide +kernel, by decide, rfl⟩
theorem iX8_undo_50 : zSi mX8_undo 50 1 51 := ⟨Or.inl ⟨1, by decide +kernel, rfl, rfl⟩, by decide⟩
theorem iX8_undo_51 : zLi mX8_undo 51 1 52 := Or.inl ⟨1, by decide +kernel, rfl, rfl⟩
theorem iX8_undo_52 : zPi mX8_undo 52 12 54 := Or.inr (Or.inl ⟨12, by decide +kernel, by decide, rfl⟩)
theorem iX8_undo_54 : zBr mX8_undo 54 (.if_icmp .ge) 75 57 := ⟨21, by decide +kernel, by decide, rfl⟩
theorem iX8_undo_57 : zLa mX8_undo 57 0 58 := Or.inl ⟨0, by decide +kernel, rfl, rfl⟩
theorem iX8_undo_58 : zIs mX8_undo 58 (.getfield 22) 3 61 := ⟨by decide +kernel, rfl⟩
theorem iX8_undo_61 : zLi mX8_undo 61 1 62 := Or.inl ⟨1, by decide +kernel, rfl, rfl⟩
theorem iX8_undo_62 : zLa mX8_undo 62 0 63 := Or.inl ⟨0, by decide +kernel, rfl, rfl⟩
theorem iX8_undo_63 : zIs mX8_undo 63 (.getfield 107) 3 66 := ⟨by decide +kernel, rfl⟩
theorem iX8_undo_66 : zLi mX8_undo 66 1 67 := Or.inl ⟨1, by decide +kernel, rfl, rfl⟩
theorem iX8_undo_67 : zIs mX8_undo 67 (.baload) 1 68 := ⟨by decide +kernel, rfl⟩
theorem iX8_undo_68 : zIs mX8_undo 68 (.bastore) 1 69 := ⟨by decide +kernel, rfl⟩
theorem iX8_undo_69 : zIs mX8_undo 69 (.iinc 1 1) 3 72 := ⟨by decide +kernel, rfl⟩
theorem iX8_undo_72 : zBr mX8_undo 72 .goto 51 75 := ⟨(-21), by decide +kernel, by decide, rfl⟩
theorem iX8_undo_75 : zLa mX8_undo 75 0 76 := Or.inl ⟨0, by decide +kernel, rfl, rfl⟩
theorem iX8_undo_76 : zLa mX8_undo 76 0 77 := Or.inl ⟨0, by decide +kernel, rfl, rfl⟩
theorem iX8_undo_77 : zIs mX8_undo 77 (.getfield 202) 3 80 := ⟨by decide +kernel, rfl⟩
theorem iX8_undo_80 : zIs mX8_undo 80 (.invokevirtual 188) 3 83 := ⟨by decide +kernel, rfl⟩
theorem iX8_undo_83 : zPi mX8_undo 83 1 84 := Or.inl ⟨1, by decide +kernel, by decide, rfl⟩
theorem iX8_undo_84 : zIs mX8_undo 84 (.ireturn) 1 85 := ⟨by decide +kernel, rfl⟩
theorem iX8_count_0 : zLi mX8_count 0 1 1 := Or.inl ⟨1, by decide +kernel, rfl, rfl⟩
theorem iX8_count_1 : zTs mX8_count 1 0 [56, 61, 66, 71, 76, 81, 86, 91, 96, 101] 106 := ⟨105, 9, #[55, 60, 65, 70, 75, 80, 85, 90, 95, 100], 55, by decide +kernel, by decide, by decide, by decide +kernel⟩
theorem iX8_count_56 : zLa mX8_count 56 0 57 := Or.inl ⟨0, by decide +kernel, rfl, rfl⟩
theorem iX8_count_57 : zIs mX8_count 57 (.getfield 120) 3 60 := ⟨by decide +kernel, rfl⟩
theorem iX8_count_60 : zIs mX8_count 60 (.ireturn) 1 61 := ⟨by decide +kernel, rfl⟩
theorem iX8_count_61 : zLa mX8_count 61 0 62 := Or.inl ⟨0, by decide +kernel, rfl, rfl⟩
theorem iX8_count_62 : zIs mX8_count 62 (.getfield 127) 3 65 := ⟨by decide +kernel, rfl⟩
theorem iX8_count_65 : zIs mX8_count 65 (.ireturn) 1 66 := ⟨by decide +kernel, rfl⟩
theorem iX8_count_66 : zLa mX8_count 66 0 67 := Or.inl ⟨0, by decide +kernel, rfl, rfl⟩
theorem iX8_count_67 : zIs mX8_count 67 (.getfield 130) 3 70 := ⟨by decide +kernel, rfl⟩
theorem iX8_count_70 : zIs mX8_count 70 (.ireturn) 1 71 := ⟨by decide +kernel, rfl⟩
theorem iX8_count_71 : zLa mX8_count 71 0 72 := Or.inl ⟨0, by decide +kernel, rfl, rfl⟩
theorem iX8_count_72 : zIs mX8_count 72 (.getfield 138) 3 75 := ⟨by decide +kernel, rfl⟩
theorem iX8_count_75 : zIs mX8_count 75 (.ireturn) 1 76 := ⟨by decide +kernel, rfl⟩
theorem iX8_count_76 : zLa mX8_count 76 0 77 := Or.inl ⟨0, by decide +kernel, rfl, rfl⟩
theorem iX8_count_77 : zIs mX8_count 77 (.getfield 141) 3 80 := ⟨by decide +kernel, rfl⟩
theorem iX8_count_80 : zIs mX8_count 80 (.ireturn) 1 81 := ⟨by decide +kernel, rfl⟩
theorem iX8_count_81 : zLa mX8_count 81 0 82 := Or.inl ⟨0, by decide +kernel, rfl, rfl⟩
theorem iX8_count_82 : zIs mX8_count 82 (.getfield 144) 3 85 := ⟨by decide +kernel, rfl⟩
theorem iX8_count_85 : zIs mX8_count 85 (.ireturn) 1 86 := ⟨by decide +kernel, rfl⟩
theorem iX8_count_86 : zLa mX8_count 86 0 87 := Or.inl ⟨0, by decide +kernel, rfl, rfl⟩
theorem iX8_count_87 : zIs mX8_count 87 (.getfield 205) 3 90 := ⟨by decide +kernel, rfl⟩
theorem iX8_count_90 : zIs mX8_count 90 (.ireturn) 1 91 := ⟨by decide +kernel, rfl⟩
theorem iX8_count_91 : zLa mX8_count 91 0 92 := Or.inl ⟨0, by decide +kernel, rfl, rfl⟩
theorem iX8_count_92 : zIs mX8_count 92 (.getfield 171) 3 95 := ⟨by decide +kernel, rfl⟩
theorem iX8_count_95 : zIs mX8_count 95 (.ireturn) 1 96 := ⟨by decide +kernel, rfl⟩
theorem iX8_count_96 : zLa mX8_count 96 0 97 := Or.inl ⟨0, by decide +kernel, rfl, rfl⟩
theorem iX8_count_97 : zIs mX8_count 97 (.getfield 182) 3 100 := ⟨by decide +kernel, rfl⟩
theorem iX8_count_100 : zIs mX8_count 100 (.ireturn) 1 101 := ⟨by decide +kernel, rfl⟩
theorem iX8_count_101 : zLa mX8_count 101 0 102 := Or.inl ⟨0, by decide +kernel, rfl, rfl⟩
theorem iX8_count_102 : zIs mX8_count 102 (.getfield 211) 3 105 := ⟨by decide +kernel, rfl⟩
theorem iX8_count_105 : zIs mX8_count 105 (.ireturn) 1 106 := ⟨by decide +kernel, rfl⟩
theorem iX8_count_106 : zPi mX8_count 106 (-102) 108 := Or.inr (Or.inl ⟨(-102), by decide +kernel, by decide, rfl⟩)
theorem iX8_count_108 : zIs mX8_count 108 (.ireturn) 1 109 := ⟨by decide +kernel, rfl⟩
theorem iX8_digest_0 : zPl mX8_digest 0 37 3 := ⟨238, by decide +kernel, zT_mem 1121 (by decide +kernel) rfl, rfl⟩
theorem iX8_digest_3 : zSl mX8_digest 3 1 4 := ⟨Or.inl ⟨1, by decide +kernel, rfl, rfl⟩, by decide⟩
theorem iX8_digest_4 : zPi mX8_digest 4 0 5 := Or.inl ⟨0, by decide +kernel, by decide, rfl⟩
theorem iX8_digest_5 : zSi mX8_digest 5 3 6 := ⟨Or.inl ⟨3, by decide +kernel, rfl, rfl⟩, by decide⟩
theorem iX8_digest_6 : zLi mX8_digest 6 3 7 := Or.inl ⟨3, by decide +kernel, rfl, rfl⟩
theorem iX8_digest_7 : zLa mX8_digest 7 0 8 := Or.inl ⟨0, by decide +kernel, rfl, rfl⟩
theorem iX8_digest_8 : zIs mX8_digest 8 (.getfield 127) 3 11 := ⟨by decide +kernel, rfl⟩
theorem iX8_digest_11 : zBr mX8_digest 11 (.if_icmp .ge) 92 14 := ⟨81, by decide +kernel, by decide, rfl⟩
theorem iX8_digest_14 : zPi mX8_digest 14 0 15 := Or.inl ⟨0, by decide +kernel, by decide, rfl⟩
theorem iX8_digest_15 : zSi mX8_digest 15 4 17 := ⟨Or.inr ⟨by decide +kernel, rfl⟩, by decide⟩
theorem iX8_digest_17 : zLi mX8_digest 17 4 19 := Or.inr ⟨by decide +kernel, rfl⟩
theorem iX8_digest_19 : zLa mX8_digest 19 0 20 := Or.inl ⟨0, by decide +kernel, rfl, rfl⟩
theorem iX8_digest_20 : zIs mX8_digest 20 (.getfield 16) 3 23 := ⟨by decide +kernel, rfl⟩
theorem iX8_digest_23 : zLa mX8_digest 23 0 24 := Or.inl ⟨0, by decide +kernel, rfl, rfl⟩
theorem iX8_digest_24 : zIs mX8_digest 24 (.getfield 32) 3 27 := ⟨by decide +kernel, rfl⟩
theorem iX8_digest_27 : zLi mX8_digest 27 3 28 := Or.inl ⟨3, by decide +kernel, rfl, rfl⟩
theorem iX8_digest_28 : zIs mX8_digest 28 (.iaload) 1 29 := ⟨by decide +kernel, rfl⟩
theorem iX8_digest_29 : zIs mX8_digest 29 (.iaload) 1 30 := ⟨by decide +kernel, rfl⟩
theorem iX8_digest_30 : zBr mX8_digest 30 (.if_icmp .ge) 58 33 := ⟨28, by decide +kernel, by decide, rfl⟩
theorem iX8_digest_33 : zPl mX8_digest 33 31 36 := ⟨240, by decide +kernel, zT_mem 1122 (by decide +kernel) rfl, rfl⟩
theorem iX8_digest_36 : zLl mX8_digest 36 1 37 := Or.inl ⟨1, by decide +kernel, rfl, rfl⟩
theorem iX8_digest_37 : zIs mX8_digest 37 (.lmul) 1 38 := ⟨by decide +kernel, rfl⟩
theorem iX8_digest_38 : zLa mX8_digest 38 0 39 := Or.inl ⟨0, by decide +kernel, rfl, rfl⟩
theorem iX8_digest_39 : zIs mX8_digest 39 (.getfield 65) 3 42 := ⟨by decide +kernel, rfl⟩
theorem iX8_digest_42 : zPi mX8_digest 42 5 43 := Or.inl ⟨5, by decide +kernel, by decide, rfl⟩
theorem iX8_digest_43 : zLi mX8_digest 43 3 44 := Or.inl ⟨3, by decide +kernel, rfl, rfl⟩
theorem iX8_digest_44 : zIs mX8_digest 44 (.imul) 1 45 := ⟨by decide +kernel, rfl⟩
theorem iX8_digest_45 : zLi mX8_digest 45 4 47 := Or.inr ⟨by decide +kernel, rfl⟩
theorem iX8_digest_47 : zIs mX8_digest 47 (.iadd) 1 48 := ⟨by decide +kernel, rfl⟩
theorem iX8_digest_48 : zIs mX8_digest 48 (.iaload) 1 49 := ⟨by decide +kernel, rfl⟩
theorem iX8_digest_49 : zIs mX8_digest 49 (.i2l) 1 50 := ⟨by decide +kernel, rfl⟩
theorem iX8_digest_50 : zIs mX8_digest 50 (.ladd) 1 51 := ⟨by decide +kernel, rfl⟩
theorem iX8_digest_51 : zSl mX8_digest 51 1 52 := ⟨Or.inl ⟨1, by decide +kernel, rfl, rfl⟩, by decide⟩
theorem iX8_digest_52 : zIs mX8_digest 52 (.iinc 4 1) 3 55 := ⟨by decide +kernel, rfl⟩
theorem iX8_digest_55 : zBr mX8_digest 55 .goto 17 58 := ⟨(-38), by decide +kernel, by decide, rfl⟩
theorem iX8_digest_58 : zPl mX8_digest 58 31 61 := ⟨240, by decide +kernel, zT_mem 1122 (by decide +kernel) rfl, rfl⟩
theorem iX8_digest_61 : zLl mX8_digest 61 1 62 := Or.inl ⟨1, by decide +kernel, rfl, rfl⟩
theorem iX8_digest_62 : zIs mX8_digest 62 (.lmul) 1 63 := ⟨by decide +kernel, rfl⟩
theorem iX8_digest_63 : zLa mX8_digest 63 0 64 := Or.inl ⟨0, by decide +kernel, rfl, rfl⟩
theorem iX8_digest_64 : zIs mX8_digest 64 (.getfield 68) 3 67 := ⟨by decide +kernel, rfl⟩
theorem iX8_digest_67 : zLi mX8_digest 67 3 68 := Or.inl ⟨3, by decide +kernel, rfl, rfl⟩
theorem iX8_digest_68 : zIs mX8_digest 68 (.iaload) 1 69 := ⟨by decide +kernel, rfl⟩
theorem iX8_digest_69 : zIs mX8_digest 69 (.i2l) 1 70 := ⟨by decide +kernel, rfl⟩
theorem iX8_digest_70 : zIs mX8_digest 70 (.ladd) 1 71 := ⟨by decide +kernel, rfl⟩
theorem iX8_digest_71 : zSl mX8_digest 71 1 72 := ⟨Or.inl ⟨1, by decide +kernel, rfl, rfl⟩, by decide⟩
theorem iX8_digest_72 : zPl mX8_digest 72 31 75 := ⟨240, by decide +kernel, zT_mem 1122 (by decide +kernel) rfl, rfl⟩
theorem iX8_digest_75 : zLl mX8_digest 75 1 76 := Or.inl ⟨1, by decide +kernel, rfl, rfl⟩
theorem iX8_digest_76 : zIs mX8_digest 76 (.lmul) 1 77 := ⟨by decide +kernel, rfl⟩
theorem iX8_digest_77 : zLa mX8_digest 77 0 78 := Or.inl ⟨0, by decide +kernel, rfl, rfl⟩
theorem iX8_digest_78 : zIs mX8_digest 78 (.getfield 71) 3 81 := ⟨by decide +kernel, rfl⟩
theorem iX8_digest_81 : zLi mX8_digest 81 3 82 := Or.inl ⟨3, by decide +kernel, rfl, rfl⟩
theorem iX8_digest_82 : zIs mX8_digest 82 (.iaload) 1 83 := ⟨by decide +kernel, rfl⟩
theorem iX8_digest_83 : zIs mX8_digest 83 (.i2l) 1 84 := ⟨by decide +kernel, rfl⟩
theorem iX8_digest_84 : zIs mX8_digest 84 (.ladd) 1 85 := ⟨by decide +kernel, rfl⟩
theorem iX8_digest_85 : zSl mX8_digest 85 1 86 := ⟨Or.inl ⟨1, by decide +kernel, rfl, rfl⟩, by decide⟩
theorem iX8_digest_86 : zIs mX8_digest 86 (.iinc 3 1) 3 89 := ⟨by decide +kernel, rfl⟩
theorem iX8_digest_89 : zBr mX8_digest 89 .goto 6 92 := ⟨(-83), by decide +kernel, by decide, rfl⟩
theorem iX8_digest_92 : zPi mX8_digest 92 0 93 := Or.inl ⟨0, by decide +kernel, by decide, rfl⟩
theorem iX8_digest_93 : zSi mX8_digest 93 3 94 := ⟨Or.inl ⟨3, by decide +kernel, rfl, rfl⟩, by decide⟩
theorem iX8_digest_94 : zLi mX8_digest 94 3 95 := Or.inl ⟨3, by decide +kernel, rfl, rfl⟩
theorem iX8_digest_95 : zLa mX8_digest 95 0 96 := Or.inl ⟨0, by decide +kernel, rfl, rfl⟩
theorem iX8_digest_96 : zIs mX8_digest 96 (.getfield 144) 3 99 := ⟨by decide +kernel, rfl⟩
theorem iX8_digest_99 : zBr mX8_digest 99 (.if_icmp .ge) 186 102 := ⟨87, by decide +kernel, by decide, rfl⟩
theorem iX8_digest_102 : zPl mX8_digest 102 31 105 := ⟨240, by decide +kernel, zT_mem 1122 (by decide +kernel) rfl, rfl⟩
theorem iX8_digest_105 : zLl mX8_digest 105 1 106 := Or.inl ⟨1, by decide +kernel, rfl, rfl⟩
theorem iX8_digest_106 : zIs mX8_digest 106 (.lmul) 1 107 := ⟨by decide +kernel, rfl⟩
theorem iX8_digest_107 : zLa mX8_digest 107 0 108 := Or.inl ⟨0, by decide +kernel, rfl, rfl⟩
theorem iX8_digest_108 : zIs mX8_digest 108 (.getfield 50) 3 111 := ⟨by decide +kernel, rfl⟩
theorem iX8_digest_111 : zLi mX8_digest 111 3 112 := Or.inl ⟨3, by decide +kernel, rfl, rfl⟩
theorem iX8_digest_112 : zIs mX8_digest 112 (.iaload) 1 113 := ⟨by decide +kernel, rfl⟩
theorem iX8_digest_113 : zIs mX8_digest 113 (.i2l) 1 114 := ⟨by decide +kernel, rfl⟩
theorem iX8_digest_114 : zIs mX8_digest 114 (.ladd) 1 115 := ⟨by decide +kernel, rfl⟩
theorem iX8_digest_115 : zSl mX8_digest 115 1 116 := ⟨Or.inl ⟨1, by decide +kernel, rfl, rfl⟩, by decide⟩
theorem iX8_digest_116 : zPl mX8_digest 116 31 119 := ⟨240, by decide +kernel, zT_mem 1122 (by decide +kernel) rfl, rfl⟩
theorem iX8_digest_119 : zLl mX8_digest 119 1 120 := Or.inl ⟨1, by decide +kernel, rfl, rfl⟩
theorem iX8_digest_120 : zIs mX8_digest 120 (.lmul) 1 121 := ⟨by decide +kernel, rfl⟩
theorem iX8_digest_121 : zLa mX8_digest 121 0 122 := Or.inl ⟨0, by decide +kernel, rfl, rfl⟩
theorem iX8_digest_122 : zIs mX8_digest 122 (.getfield 53) 3 125 := ⟨by decide +kernel, rfl⟩
theorem iX8_digest_125 : zLi mX8_digest 125 3 126 := Or.inl ⟨3, by decide +kernel, rfl, rfl⟩
theorem iX8_digest_126 : zIs mX8_digest 126 (.iaload) 1 127 := ⟨by decide +kernel, rfl⟩
theorem iX8_digest_127 : zIs mX8_digest 127 (.i2l) 1 128 := ⟨by decide +kernel, rfl⟩
theorem iX8_digest_128 : zIs mX8_digest 128 (.ladd) 1 129 := ⟨by decide +kernel, rfl⟩
theorem iX8_digest_129 : zSl mX8_digest 129 1 130 := ⟨Or.inl ⟨1, by decide +kernel, rfl, rfl⟩, by decide⟩
theorem iX8_digest_130 : zPl mX8_digest 130 31 133 := ⟨240, by decide +kernel, zT_mem 1122 (by decide +kernel) rfl, rfl⟩
theorem iX8_digest_133 : zLl mX8_digest 133 1 134 := Or.inl ⟨1, by decide +kernel, rfl, rfl⟩
theorem iX8_digest_134 : zIs mX8_digest 134 (.lmul) 1 135 := ⟨by decide +kernel, rfl⟩
theorem iX8_digest_135 : zLa mX8_digest 135 0 136 := Or.inl ⟨0, by decide +kernel, rfl, rfl⟩
theorem iX8_digest_136 : zIs mX8_digest 136 (.getfield 56) 3 139 := ⟨by decide +kernel, rfl⟩
theorem iX8_digest_139 : zLi mX8_digest 139 3 140 := Or.inl ⟨3, by decide +kernel, rfl, rfl⟩
theorem iX8_digest_140 : zIs mX8_digest 140 (.iaload) 1 141 := ⟨by decide +kernel, rfl⟩
theorem iX8_digest_141 : zIs mX8_digest 141 (.i2l) 1 142 := ⟨by decide +kernel, rfl⟩
theorem iX8_digest_142 : zIs mX8_digest 142 (.ladd) 1 143 := ⟨by decide +kernel, rfl⟩
theorem iX8_digest_143 : zSl mX8_digest 143 1 144 := ⟨Or.inl ⟨1, by decide +kernel, rfl, rfl⟩, by decide⟩
theorem iX8_digest_144 : zPl mX8_digest 144 31 147 := ⟨240, by decide +kernel, zT_mem 1122 (by decide +kernel) rfl, rfl⟩
theorem iX8_digest_147 : zLl mX8_digest 147 1 148 := Or.inl ⟨1, by decide +kernel, rfl, rfl⟩
theorem iX8_digest_148 : zIs mX8_digest 148 (.lmul) 1 149 := ⟨by decide +kernel, rfl⟩
theorem iX8_digest_149 : zLa mX8_digest 149 0 150 := Or.inl ⟨0, by decide +kernel, rfl, rfl⟩
theorem iX8_digest_150 : zIs mX8_digest 150 (.getfield 59) 3 153 := ⟨by decide +kernel, rfl⟩
theorem iX8_digest_153 : zLi mX8_digest 153 3 154 := Or.inl ⟨3, by decide +kernel, rfl, rfl⟩
theorem iX8_digest_154 : zIs mX8_digest 154 (.iaload) 1 155 := ⟨by decide +kernel, rfl⟩
theorem iX8_digest_155 : zIs mX8_digest 155 (.i2l) 1 156 := ⟨by decide +kernel, rfl⟩
theorem iX8_digest_156 : zIs mX8_digest 156 (.ladd) 1 157 := ⟨by decide +kernel, rfl⟩
theorem iX8_digest_157 : zSl mX8_digest 157 1 158 := ⟨Or.inl ⟨1, by decide +kernel, rfl, rfl⟩, by decide⟩
theorem iX8_digest_158 : zPl mX8_digest 158 31 161 := ⟨240, by decide +kernel, zT_mem 1122 (by decide +kernel) rfl, rfl⟩
theorem iX8_digest_161 : zLl mX8_digest 161 1 162 := Or.inl ⟨1, by decide +kernel, rfl, rfl⟩
theorem iX8_digest_162 : zIs mX8_digest 162 (.lmul) 1 163 := ⟨by decide +kernel, rfl⟩
theorem iX8_digest_163 : zLa mX8_digest 163 0 164 := Or.inl ⟨0, by decide +kernel, rfl, rfl⟩
theorem iX8_digest_164 : zIs mX8_digest 164 (.getfield 62) 3 167 := ⟨by decide +kernel, rfl⟩
theorem iX8_digest_167 : zLi mX8_digest 167 3 168 := Or.inl ⟨3, by decide +kernel, rfl, rfl⟩
theorem iX8_digest_168 : zIs mX8_digest 168 (.baload) 1 169 := ⟨by decide +kernel, rfl⟩
theorem iX8_digest_169 : zBr mX8_digest 169 (.ifCond .eq) 176 172 := ⟨7, by decide +kernel, by decide, rfl⟩
theorem iX8_digest_172 : zPi mX8_digest 172 1 173 := Or.inl ⟨1, by decide +kernel, by decide, rfl⟩
theorem iX8_digest_173 : zBr mX8_digest 173 .goto 177 176 := ⟨4, by decide +kernel, by decide, rfl⟩
theorem iX8_digest_176 : zPi mX8_digest 176 0 177 := Or.inl ⟨0, by decide +kernel, by decide, rfl⟩
theorem iX8_digest_177 : zIs mX8_digest 177 (.i2l) 1 178 := ⟨by decide +kernel, rfl⟩
theorem iX8_digest_178 : zIs mX8_digest 178 (.ladd) 1 179 := ⟨by decide +kernel, rfl⟩
theorem iX8_digest_179 : zSl mX8_digest 179 1 180 := ⟨Or.inl ⟨1, by decide +kernel, rfl, rfl⟩, by decide⟩
theorem iX8_digest_180 : zIs mX8_digest 180 (.iinc 3 1) 3 183 := ⟨by decide +kernel, rfl⟩
theorem iX8_digest_183 : zBr mX8_digest 183 .goto 94 186 := ⟨(-89), by decide +kernel, by decide, rfl⟩
theorem iX8_digest_186 : zPi mX8_digest 186 0 187 := Or.inl ⟨0, by decide +kernel, by decide, rfl⟩
theorem iX8_digest_187 : zSi mX8_digest 187 3 188 := ⟨Or.inl ⟨3, by decide +kernel, rfl, rfl⟩, by decide⟩
theorem iX8_digest_188 : zPi mX8_digest 188 0 189 := Or.inl ⟨0, by decide +kernel, by decide, rfl⟩
theorem iX8_digest_189 : zSi mX8_digest 189 4 191 := ⟨Or.inr ⟨by decide +kernel, rfl⟩, by decide⟩
theorem iX8_digest_191 : zLi mX8_digest 191 4 193 := Or.inr ⟨by decide +kernel, rfl⟩
theorem iX8_digest_193 : zLa mX8_digest 193 0 194 := Or.inl ⟨0, by decide +kernel, rfl, rfl⟩
theorem iX8_digest_194 : zIs mX8_digest 194 (.getfield 120) 3 197 := ⟨by decide +kernel, rfl⟩
theorem iX8_digest_197 : zBr mX8_digest 197 (.if_icmp .ge) 229 200 := ⟨32, by decide +kernel, by decide, rfl⟩
theorem iX8_digest_200 : zPl mX8_digest 200 31 203 := ⟨240, by decide +kernel, zT_mem 1122 (by decide +kernel) rfl, rfl⟩
theorem iX8_digest_203 : zLl mX8_digest 203 1 204 := Or.inl ⟨1, by decide +kernel, rfl, rfl⟩
theorem iX8_digest_204 : zIs mX8_digest 204 (.lmul) 1 205 := ⟨by decide +kernel, rfl⟩
theorem iX8_digest_205 : zLa mX8_digest 205 0 206 := Or.inl ⟨0, by decide +kernel, rfl, rfl⟩
theorem iX8_digest_206 : zIs mX8_digest 206 (.getfield 22) 3 209 := ⟨by decide +kernel, rfl⟩
theorem iX8_digest_209 : zLi mX8_digest 209 4 211 := Or.inr ⟨by decide +kernel, rfl⟩
theorem iX8_digest_211 : zIs mX8_digest 211 (.baload) 1 212 := ⟨by decide +kernel, rfl⟩
theorem iX8_digest_212 : zBr mX8_digest 212 (.ifCond .eq) 219 215 := ⟨7, by decide +kernel, by decide, rfl⟩
theorem iX8_digest_215 : zPi mX8_digest 215 1 216 := Or.inl ⟨1, by decide +kernel, by decide, rfl⟩
theorem iX8_digest_216 : zBr mX8_digest 216 .goto 220 219 := ⟨4, by decide +kernel, by decide, rfl⟩
theorem iX8_digest_219 : zPi mX8_digest 219 0 220 := Or.inl ⟨0, by decide +kernel, by decide, rfl⟩
theorem iX8_digest_220 : zIs mX8_digest 220 (.i2l) 1 221 := ⟨by decide +kernel, rfl⟩
theorem iX8_digest_221 : zIs mX8_digest 221 (.ladd) 1 222 := ⟨by decide +kernel, rfl⟩
theorem iX8_digest_222 : zSl mX8_digest 222 1 223 := ⟨Or.inl ⟨1, by decide +kernel, rfl, rfl⟩, by decide⟩
theorem iX8_digest_223 : zIs mX8_digest 223 (.iinc 4 1) 3 226 := ⟨by decide +kernel, rfl⟩
theorem iX8_digest_226 : zBr mX8_digest 226 .goto 191 229 := ⟨(-35), by decide +kernel, by decide, rfl⟩
theorem iX8_digest_229 : zPi mX8_digest 229 0 230 := Or.inl ⟨0, by decide +kernel, by decide, rfl⟩
theorem iX8_digest_230 : zSi mX8_digest 230 4 232 := ⟨Or.inr ⟨by decide +kernel, rfl⟩, by decide⟩
theorem iX8_digest_232 : zLi mX8_digest 232 4 234 := Or.inr ⟨by decide +kernel, rfl⟩
theorem iX8_digest_234 : zLa mX8_digest 234 0 235 := Or.inl ⟨0, by decide +kernel, rfl, rfl⟩
theorem iX8_digest_235 : zIs mX8_digest 235 (.getfield 116) 3 238 := ⟨by decide +kernel, rfl⟩
theorem iX8_digest_238 : zBr mX8_digest 238 (.if_icmp .ge) 257 241 := ⟨19, by decide +kernel, by decide, rfl⟩
theorem iX8_digest_241 : zLi mX8_digest 241 3 242 := Or.inl ⟨3, by decide +kernel, rfl, rfl⟩
theorem iX8_digest_242 : zLa mX8_digest 242 0 243 := Or.inl ⟨0, by decide +kernel, rfl, rfl⟩
theorem iX8_digest_243 : zIs mX8_digest 243 (.getfield 83) 3 246 := ⟨by decide +kernel, rfl⟩
theorem iX8_digest_246 : zLi mX8_digest 246 4 248 := Or.inr ⟨by decide +kernel, rfl⟩
theorem iX8_digest_248 : zIs mX8_digest 248 (.iaload) 1 249 := ⟨by decide +kernel, rfl⟩
theorem iX8_digest_249 : zIs mX8_digest 249 (.iadd) 1 250 := ⟨by decide +kernel, rfl⟩
theorem iX8_digest_250 : zSi mX8_digest 250 3 251 := ⟨Or.inl ⟨3, by decide +kernel, rfl, rfl⟩, by decide⟩
theorem iX8_digest_251 : zIs mX8_digest 251 (.iinc 4 1) 3 254 := ⟨by decide +kernel, rfl⟩
theorem iX8_digest_254 : zBr mX8_digest 254 .goto 232 257 := ⟨(-22), by decide +kernel, by decide, rfl⟩
theorem iX8_digest_257 : zPl mX8_digest 257 31 260 := ⟨240, by decide +kernel, zT_mem 1122 (by decide +kernel) rfl, rfl⟩
theorem iX8_digest_260 : zLl mX8_digest 260 1 261 := Or.inl ⟨1, by decide +kernel, rfl, rfl⟩
theorem iX8_digest_261 : zIs mX8_digest 261 (.lmul) 1 262 := ⟨by decide +kernel, rfl⟩
theorem iX8_digest_262 : zLa mX8_digest 262 0 263 := Or.inl ⟨0, by decide +kernel, rfl, rfl⟩
theorem iX8_digest_263 : zIs mX8_digest 263 (.getfield 116) 3 266 := ⟨by decide +kernel, rfl⟩
theorem iX8_digest_266 : zIs mX8_digest 266 (.i2l) 1 267 := ⟨by decide +kernel, rfl⟩
theorem iX8_digest_267 : zIs mX8_digest 267 (.ladd) 1 268 := ⟨by decide +kernel, rfl⟩
theorem iX8_digest_268 : zSl mX8_digest 268 1 269 := ⟨Or.inl ⟨1, by decide +kernel, rfl, rfl⟩, by decide⟩
theorem iX8_digest_269 : zPl mX8_digest 269 31 272 := ⟨240, by decide +kernel, zT_mem 1122 (by decide +kernel) rfl, rfl⟩
theorem iX8_digest_272 : zLl mX8_digest 272 1 273 := Or.inl ⟨1, by decide +kernel, rfl, rfl⟩
theorem iX8_digest_273 : zIs mX8_digest 273 (.lmul) 1 274 := ⟨by decide +kernel, rfl⟩
theorem iX8_digest_274 : zLi mX8_digest 274 3 275 := Or.inl ⟨3, by decide +kernel, rfl, rfl⟩
theorem iX8_digest_275 : zIs mX8_digest 275 (.i2l) 1 276 := ⟨by decide +kernel, rfl⟩
theorem iX8_digest_276 : zIs mX8_digest 276 (.ladd) 1 277 := ⟨by decide +kernel, rfl⟩
theorem iX8_digest_277 : zIs mX8_digest 277 (.lreturn) 1 278 := ⟨by decide +kernel, rfl⟩
end
section
theorem iJ6_bitCount_0f7a4_0 : zLi mJ6_bitCount_0f7a4 0 0 1 := Or.inl ⟨0, by decide +kernel, rfl, rfl⟩
theorem iJ6_bitCount_0f7a4_1 : zLi mJ6_bitCount_0f7a4 1 0 2 := Or.inl ⟨0, by decide +kernel, rfl, rfl⟩
theorem iJ6_bitCount_0f7a4_2 : zPi mJ6_bitCount_0f7a4 2 1 3 := Or.inl ⟨1, by decide +kernel, by decide, rfl⟩
theorem iJ6_bitCount_0f7a4_3 : zIs mJ6_bitCount_0f7a4 3 (.iushr) 1 4 := ⟨by decide +kernel, rfl⟩
theorem iJ6_bitCount_0f7a4_4 : zPi mJ6_bitCount_0f7a4 4 1431655765 7 := Or.inr (Or.inr (Or.inr (Or.inr ⟨265, by decide +kernel, zT_mem 531 (by decide +kernel) rfl, rfl⟩)))
theorem iJ6_bitCount_0f7a4_7 : zIs mJ6_bitCount_0f7a4 7 (.iand) 1 8 := ⟨by decide +kernel, rfl⟩
theorem iJ6_bitCount_0f7a4_8 : zIs mJ6_bitCount_0f7a4 8 (.isub) 1 9 := ⟨by decide +kernel, rfl⟩
theorem iJ6_bitCount_0f7a4_9 : zSi mJ6_bitCount_0f7a4 9 0 10 := ⟨Or.inl ⟨0, by decide +kernel, rfl, rfl⟩, by decide⟩
theorem iJ6_bitCount_0f7a4_10 : zLi mJ6_bitCount_0f7a4 10 0 11 := Or.inl ⟨0, by decide +kernel, rfl, rfl⟩
theorem iJ6_bitCount_0f7a4_11 : zPi mJ6_bitCount_0f7a4 11 858993459 14 := Or.inr (Or.inr (Or.inr (Or.inr ⟨266, by decide +kernel, zT_mem 532 (by decide +kernel) rfl, rfl⟩)))
theorem iJ6_bitCount_0f7a4_14 : zIs mJ6_bitCount_0f7a4 14 (.iand) 1 15 := ⟨by decide +kernel, rfl⟩
theorem iJ6_bitCount_0f7a4_15 : zLi mJ6_bitCount_0f7a4 15 0 16 := Or.inl ⟨0, by decide +kernel, rfl, rfl⟩
theorem iJ6_bitCount_0f7a4_16 : zPi mJ6_bitCount_0f7a4 16 2 17 := Or.inl ⟨2, by decide +kernel, by decide, rfl⟩
theorem iJ6_bitCount_0f7a4_17 : zIs mJ6_bitCount_0f7a4 17 (.iushr) 1 18 := ⟨by decide +kernel, rfl⟩
theorem iJ6_bitCount_0f7a4_18 : zPi mJ6_bitCount_0f7a4 18 858993459 21 := Or.inr (Or.inr (Or.inr (Or.inr ⟨266, by decide +kernel, zT_mem 532 (by decide +kernel) rfl, rfl⟩)))
theorem iJ6_bitCount_0f7a4_21 : zIs mJ6_bitCount_0f7a4 21 (.iand) 1 22 := ⟨by decide +kernel, rfl⟩
theorem iJ6_bitCount_0f7a4_22 : zIs mJ6_bitCount_0f7a4 22 (.iadd) 1 23 := ⟨by decide +kernel, rfl⟩
theorem iJ6_bitCount_0f7a4_23 : zSi mJ6_bitCount_0f7a4 23 0 24 := ⟨Or.inl ⟨0, by decide +kernel, rfl, rfl⟩, by decide⟩
theorem iJ6_bitCount_0f7a4_24 : zLi mJ6_bitCount_0f7a4 24 0 25 := Or.inl ⟨0, by decide +kernel, rfl, rfl⟩
theorem iJ6_bitCount_0f7a4_25 : zLi mJ6_bitCount_0f7a4 25 0 26 := Or.inl ⟨0, by decide +kernel, rfl, rfl⟩
theorem iJ6_bitCount_0f7a4_26 : zPi mJ6_bitCount_0f7a4 26 4 27 := Or.inl ⟨4, by decide +kernel, by decide, rfl⟩
theorem iJ6_bitCount_0f7a4_27 : zIs mJ6_bitCount_0f7a4 27 (.iushr) 1 28 := ⟨by decide +kernel, rfl⟩
theorem iJ6_bitCount_0f7a4_28 : zIs mJ6_bitCount_0f7a4 28 (.iadd) 1 29 := ⟨by decide +kernel, rfl⟩
theorem iJ6_bitCount_0f7a4_29 : zPi mJ6_bitCount_0f7a4 29 252645135 32 := Or.inr (Or.inr (Or.inr (Or.inr ⟨267, by decide +kernel, zT_mem 533 (by decide +kernel) rfl, rfl⟩)))
theorem iJ6_bitCount_0f7a4_32 : zIs mJ6_bitCount_0f7a4 32 (.iand) 1 33 := ⟨by decide +kernel, rfl⟩
theorem iJ6_bitCount_0f7a4_33 : zSi mJ6_bitCount_0f7a4 33 0 34 := ⟨Or.inl ⟨0, by decide +kernel, rfl, rfl⟩, by decide⟩
theorem iJ6_bitCount_0f7a4_34 : zLi mJ6_bitCount_0f7a4 34 0 35 := Or.inl ⟨0, by decide +kernel, rfl, rfl⟩
theorem iJ6_bitCount_0f7a4_35 : zLi mJ6_bitCount_0f7a4 35 0 36 := Or.inl ⟨0, by decide +kernel, rfl, rfl⟩
theorem iJ6_bitCount_0f7a4_36 : zPi mJ6_bitCount_0f7a4 36 8 38 := Or.inr (Or.inl ⟨8, by decide +kernel, by decide, rfl⟩)
theorem iJ6_bitCount_0f7a4_38 : zIs mJ6_bitCount_0f7a4 38 (.iushr) 1 39 := ⟨by decide +kernel, rfl⟩
theorem iJ6_bitCount_0f7a4_39 : zIs mJ6_bitCount_0f7a4 39 (.iadd) 1 40 := ⟨by decide +kernel, rfl⟩
theorem iJ6_bitCount_0f7a4_40 : zSi mJ6_bitCount_0f7a4 40 0 41 := ⟨Or.inl ⟨0, by decide +kernel, rfl, rfl⟩, by decide⟩
theorem iJ6_bitCount_0f7a4_41 : zLi mJ6_bitCount_0f7a4 41 0 42 := Or.inl ⟨0, by decide +kernel, rfl, rfl⟩
theorem iJ6_bitCount_0f7a4_42 : zLi mJ6_bitCount_0f7a4 42 0 43 := Or.inl ⟨0, by decide +kernel, rfl, rfl⟩
theorem iJ6_bitCount_0f7a4_43 : zPi mJ6_bitCount_0f7a4 43 16 45 := Or.inr (Or.inl ⟨16, by decide +kernel, by decide, rfl⟩)
theorem iJ6_bitCount_0f7a4_45 : zIs mJ6_bitCount_0f7a4 45 (.iushr) 1 46 := ⟨by decide +kernel, rfl⟩
theorem iJ6_bitCount_0f7a4_46 : zIs mJ6_bitCount_0f7a4 46 (.iadd) 1 47 := ⟨by decide +kernel, rfl⟩
theorem iJ6_bitCount_0f7a4_47 : zSi mJ6_bitCount_0f7a4 47 0 48 := ⟨Or.inl ⟨0, by decide +kernel, rfl, rfl⟩, by decide⟩
theorem iJ6_bitCount_0f7a4_48 : zLi mJ6_bitCount_0f7a4 48 0 49 := Or.inl ⟨0, by decide +kernel, rfl, rfl⟩
theorem iJ6_bitCount_0f7a4_49 : zPi mJ6_bitCount_0f7a4 49 63 51 := Or.inr (Or.inl ⟨63, by decide +kernel, by decide, rfl⟩)
theorem iJ6_bitCount_0f7a4_51 : zIs mJ6_bitCount_0f7a4 51 (.iand) 1 52 := ⟨by decide +kernel, rfl⟩
theorem iJ6_bitCount_0f7a4_52 : zIs mJ6_bitCount_0f7a4 52 (.ireturn) 1 53 := ⟨by decide +kernel, rfl⟩
end
section
theorem iJ9_floorDiv_7cf53_0 : zLi mJ9_floorDiv_7cf53 0 0 1 := Or.inl ⟨0, by decide +kernel, rfl, rfl⟩
theorem iJ9_floorDiv_7cf53_1 : zLi mJ9_floorDiv_7cf53 1 1 2 := Or.inl ⟨1, by decide +kernel, rfl, rfl⟩
theorem iJ9_floorDiv_7cf53_2 : zIs mJ9_floorDiv_7cf53 2 (.idiv) 1 3 := ⟨by decide +kernel, rfl⟩
theorem iJ9_floorDiv_7cf53_3 : zSi mJ9_floorDiv_7cf53 3 2 4 := ⟨Or.inl ⟨2, by decide +kernel, rfl, rfl⟩, by decide⟩
theorem iJ9_floorDiv_7cf53_4 : zLi mJ9_floorDiv_7cf53 4 0 5 := Or.inl ⟨0, by decide +kernel, rfl, rfl⟩
theorem iJ9_floorDiv_7cf53_5 : zLi mJ9_floorDiv_7cf53 5 1 6 := Or.inl ⟨1, by decide +kernel, rfl, rfl⟩
theorem iJ9_floorDiv_7cf53_6 : zIs mJ9_floorDiv_7cf53 6 (.ixor) 1 7 := ⟨by decide +kernel, rfl⟩
theorem iJ9_floorDiv_7cf53_7 : zBr mJ9_floorDiv_7cf53 7 (.ifCond .ge) 21 10 := ⟨14, by decide +kernel, by decide, rfl⟩
theorem iJ9_floorDiv_7cf53_10 : zLi mJ9_floorDiv_7cf53 10 2 11 := Or.inl ⟨2, by decide +kernel, rfl, rfl⟩
theorem iJ9_floorDiv_7cf53_11 : zLi mJ9_floorDiv_7cf53 11 1 12 := Or.inl ⟨1, by decide +kernel, rfl, rfl⟩
theorem iJ9_floorDiv_7cf53_12 : zIs mJ9_floorDiv_7cf53 12 (.imul) 1 13 := ⟨by decide +kernel, rfl⟩
theorem iJ9_floorDiv_7cf53_13 : zLi mJ9_floorDiv_7cf53 13 0 14 := Or.inl ⟨0, by decide +kernel, rfl, rfl⟩
theorem iJ9_floorDiv_7cf53_14 : zBr mJ9_floorDiv_7cf53 14 (.if_icmp .eq) 21 17 := ⟨7, by decide +kernel, by decide, rfl⟩
theorem iJ9_floorDiv_7cf53_17 : zLi mJ9_floorDiv_7cf53 17 2 18 := Or.inl ⟨2, by decide +kernel, rfl, rfl⟩
theorem iJ9_floorDiv_7cf53_18 : zPi mJ9_floorDiv_7cf53 18 1 19 := Or.inl ⟨1, by decide +kernel, by decide, rfl⟩
theorem iJ9_floorDiv_7cf53_19 : zIs mJ9_floorDiv_7cf53 19 (.isub) 1 20 := ⟨by decide +kernel, rfl⟩
theorem iJ9_floorDiv_7cf53_20 : zIs mJ9_floorDiv_7cf53 20 (.ireturn) 1 21 := ⟨by decide +kernel, rfl⟩
theorem iJ9_floorDiv_7cf53_21 : zLi mJ9_floorDiv_7cf53 21 2 22 := Or.inl ⟨2, by decide +kernel, rfl, rfl⟩
theorem iJ9_floorDiv_7cf53_22 : zIs mJ9_floorDiv_7cf53 22 (.ireturn) 1 23 := ⟨by decide +kernel, rfl⟩
theorem iJ9_floorMod_7cf53_0 : zLi mJ9_floorMod_7cf53 0 0 1 := Or.inl ⟨0, by decide +kernel, rfl, rfl⟩
theorem iJ9_floorMod_7cf53_1 : zLi mJ9_floorMod_7cf53 1 1 2 := Or.inl ⟨1, by decide +kernel, rfl, rfl⟩
theorem iJ9_floorMod_7cf53_2 : zIs mJ9_floorMod_7cf53 2 (.irem) 1 3 := ⟨by decide +kernel, rfl⟩
theorem iJ9_floorMod_7cf53_3 : zSi mJ9_floorMod_7cf53 3 2 4 := ⟨Or.inl ⟨2, by decide +kernel, rfl, rfl⟩, by decide⟩
theorem iJ9_floorMod_7cf53_4 : zLi mJ9_floorMod_7cf53 4 0 5 := Or.inl ⟨0, by decide +kernel, rfl, rfl⟩
theorem iJ9_floorMod_7cf53_5 : zLi mJ9_floorMod_7cf53 5 1 6 := Or.inl ⟨1, by decide +kernel, rfl, rfl⟩
theorem iJ9_floorMod_7cf53_6 : zIs mJ9_floorMod_7cf53 6 (.ixor) 1 7 := ⟨by decide +kernel, rfl⟩
theorem iJ9_floorMod_7cf53_7 : zBr mJ9_floorMod_7cf53 7 (.ifCond .ge) 18 10 := ⟨11, by decide +kernel, by decide, rfl⟩
theorem iJ9_floorMod_7cf53_10 : zLi mJ9_floorMod_7cf53 10 2 11 := Or.inl ⟨2, by decide +kernel, rfl, rfl⟩
theorem iJ9_floorMod_7cf53_11 : zBr mJ9_floorMod_7cf53 11 (.ifCond .eq) 18 14 := ⟨7, by decide +kernel, by decide, rfl⟩
theorem iJ9_floorMod_7cf53_14 : zLi mJ9_floorMod_7cf53 14 2 15 := Or.inl ⟨2, by decide +kernel, rfl, rfl⟩
theorem iJ9_floorMod_7cf53_15 : zLi mJ9_floorMod_7cf53 15 1 16 := Or.inl ⟨1, by decide +kernel, rfl, rfl⟩
theorem iJ9_floorMod_7cf53_16 : zIs mJ9_floorMod_7cf53 16 (.iadd) 1 17 := ⟨by decide +kernel, rfl⟩
theorem iJ9_floorMod_7cf53_17 : zIs mJ9_floorMod_7cf53 17 (.ireturn) 1 18 := ⟨by decide +kernel, rfl⟩
theorem iJ9_floorMod_7cf53_18 : zLi mJ9_floorMod_7cf53 18 2 19 := Or.inl ⟨2, by decide +kernel, rfl, rfl⟩
theorem iJ9_floorMod_7cf53_19 : zIs mJ9_floorMod_7cf53 19 (.ireturn) 1 20 := ⟨by decide +kernel, rfl⟩
theorem iJ9_max_7cf53_0 : zLi mJ9_max_7cf53 0 0 1 := Or.inl ⟨0, by decide +kernel, rfl, rfl⟩
theorem iJ9_max_7cf53_1 : zLi mJ9_max_7cf53 1 1 2 := Or.inl ⟨1, by decide +kernel, rfl, rfl⟩
theorem iJ9_max_7cf53_2 : zBr mJ9_max_7cf53 2 (.if_icmp .lt) 9 5 := ⟨7, by decide +kernel, by decide, rfl⟩
theorem iJ9_max_7cf53_5 : zLi mJ9_max_7cf53 5 0 6 := Or.inl ⟨0, by decide +kernel, rfl, rfl⟩
theorem iJ9_max_7cf53_6 : zBr mJ9_max_7cf53 6 .goto 10 9 := ⟨4, by decide +kernel, by decide, rfl⟩
theorem iJ9_max_7cf53_9 : zLi mJ9_max_7cf53 9 1 10 := Or.inl ⟨1, by decide +kernel, rfl, rfl⟩
theorem iJ9_max_7cf53_10 : zIs mJ9_max_7cf53 10 (.ireturn) 1 11 := ⟨by decide +kernel, rfl⟩
theorem iJ9_min_7cf53_0 : zLi mJ9_min_7cf53 0 0 1 := Or.inl ⟨0, by decide +kernel, rfl, rfl⟩
theorem iJ9_min_7cf53_1 : zLi mJ9_min_7cf53 1 1 2 := Or.inl ⟨1, by decide +kernel, rfl, rfl⟩
theorem iJ9_min_7cf53_2 : zBr mJ9_min_7cf53 2 (.if_icmp .gt) 9 5 := ⟨7, by decide +kernel, by decide, rfl⟩
theorem iJ9_min_7cf53_5 : zLi mJ9_min_7cf53 5 0 6 := Or.inl ⟨0, by decide +kernel, rfl, rfl⟩
theorem iJ9_min_7cf53_6 : zBr mJ9_min_7cf53 6 .goto 10 9 := ⟨4, by decide +kernel, by decide, rfl⟩
theorem iJ9_min_7cf53_9 : zLi mJ9_min_7cf53 9 1 10 := Or.inl ⟨1, by decide +kernel, rfl, rfl⟩
theorem iJ9_min_7cf53_10 : zIs mJ9_min_7cf53 10 (.ireturn) 1 11 := ⟨by decide +kernel, rfl⟩
end
section
theorem iL_law_0 : zIs mL_law 0 (.new 7) 3 3 := ⟨by decide +kernel, rfl⟩
theorem iL_law_3 : zIs mL_law 3 (.dup) 1 4 := ⟨by decide +kernel, rfl⟩
theorem iL_law_4 : zIs mL_law 4 (.invokespecial 9) 3 7 := ⟨by decide +kernel, rfl⟩
theorem iL_law_7 : zSa mL_law 7 1 8 := ⟨Or.inl ⟨1, by decide +kernel, rfl, rfl⟩, by decide⟩
theorem iL_law_8 : zIs mL_law 8 (.new 10) 3 11 := ⟨by decide +kernel, rfl⟩
theorem iL_law_11 : zIs mL_law 11 (.dup) 1 12 := ⟨by decide +kernel, rfl⟩
theorem iL_law_12 : zIs mL_law 12 (.invokespecial 12) 3 15 := ⟨by decide +kernel, rfl⟩
theorem iL_law_15 : zSa mL_law 15 2 16 := ⟨Or.inl ⟨2, by decide +kernel, rfl, rfl⟩, by decide⟩
theorem iL_law_16 : zPi mL_law 16 0 17 := Or.inl ⟨0, by decide +kernel, by decide, rfl⟩
theorem iL_law_17 : zSi mL_law 17 3 18 := ⟨Or.inl ⟨3, by decide +kernel, rfl, rfl⟩, by decide⟩
theorem iL_law_18 : zLi mL_law 18 3 19 := Or.inl ⟨3, by decide +kernel, rfl, rfl⟩
theorem iL_law_19 : zLa mL_law 19 0 20 := Or.inl ⟨0, by decide +kernel, rfl, rfl⟩
theorem iL_law_20 : zIs mL_law 20 (.arraylength) 1 21 := ⟨by decide +kernel, rfl⟩
theorem iL_law_21 : zPi mL_law 21 5 22 := Or.inl ⟨5, by decide +kernel, by decide, rfl⟩
theorem iL_law_22 : zIs mL_law 22 (.isub) 1 23 := ⟨by decide +kernel, rfl⟩
theorem iL_law_23 : zBr mL_law 23 (.if_icmp .gt) 965 26 := ⟨942, by decide +kernel, by decide, rfl⟩
theorem iL_law_26 : zLa mL_law 26 0 27 := Or.inl ⟨0, by decide +kernel, rfl, rfl⟩
theorem iL_law_27 : zLi mL_law 27 3 28 := Or.inl ⟨3, by decide +kernel, rfl, rfl⟩
theorem iL_law_28 : zIs mL_law 28 (.iaload) 1 29 := ⟨by decide +kernel, rfl⟩
theorem iL_law_29 : zPi mL_law 29 31 31 := Or.inr (Or.inl ⟨31, by decide +kernel, by decide, rfl⟩)
theorem iL_law_31 : zIs mL_law 31 (.iand) 1 32 := ⟨by decide +kernel, rfl⟩
theorem iL_law_32 : zTs mL_law 32 0 [168, 201, 224, 277, 320, 333, 356, 389, 412, 435, 458, 481, 504, 527, 560, 573, 586, 599, 632, 665, 698, 731, 754, 787, 810, 843, 876, 909, 922, 945] 959 := ⟨927, 29, #[136, 169, 192, 245, 288, 301, 324, 357, 380, 403, 426, 449, 472, 495, 528, 541, 554, 567, 600, 633, 666, 699, 722, 755, 778, 811, 844, 877, 890, 913], 136, by decide +kernel, by decide, by decide, by decide +kernel⟩
theorem iL_law_168 : zLa mL_law 168 1 169 := Or.inl ⟨1, by decide +kernel, rfl, rfl⟩
theorem iL_law_169 : zLa mL_law 169 0 170 := Or.inl ⟨0, by decide +kernel, rfl, rfl⟩
theorem iL_law_170 : zLi mL_law 170 3 171 := Or.inl ⟨3, by decide +kernel, rfl, rfl⟩
theorem iL_law_171 : zPi mL_law 171 1 172 := Or.inl ⟨1, by decide +kernel, by decide, rfl⟩
theorem iL_law_172 : zIs mL_law 172 (.iadd) 1 173 := ⟨by decide +kernel, rfl⟩
theorem iL_law_173 : zIs mL_law 173 (.iaload) 1 174 := ⟨by decide +kernel, rfl⟩
theorem iL_law_174 : zLa mL_law 174 0 175 := Or.inl ⟨0, by decide +kernel, rfl, rfl⟩
theorem iL_law_175 : zLi mL_law 175 3 176 := Or.inl ⟨3, by decide +kernel, rfl, rfl⟩
theorem iL_law_176 : zPi mL_law 176 2 177 := Or.inl ⟨2, by decide +kernel, by decide, rfl⟩
theorem iL_law_177 : zIs mL_law 177 (.iadd) 1 178 := ⟨by decide +kernel, rfl⟩
theorem iL_law_178 : zIs mL_law 178 (.iaload) 1 179 := ⟨by decide +kernel, rfl⟩
theorem iL_law_179 : zIs mL_law 179 (.invokevirtual 13) 3 182 := ⟨by decide +kernel, rfl⟩
theorem iL_law_182 : zLa mL_law 182 2 183 := Or.inl ⟨2, by decide +kernel, rfl, rfl⟩
theorem iL_law_183 : zLa mL_law 183 0 184 := Or.inl ⟨0, by decide +kernel, rfl, rfl⟩
theorem iL_law_184 : zLi mL_law 184 3 185 := Or.inl ⟨3, by decide +kernel, rfl, rfl⟩
theorem iL_law_185 : zPi mL_law 185 1 186 := Or.inl ⟨1, by decide +kernel, by decide, rfl⟩
theorem iL_law_186 : zIs mL_law 186 (.iadd) 1 187 := ⟨by decide +kernel, rfl⟩
theorem iL_law_187 : zIs mL_law 187 (.iaload) 1 188 := ⟨by decide +kernel, rfl⟩
theorem iL_law_188 : zLa mL_law 188 0 189 := Or.inl ⟨0, by decide +kernel, rfl, rfl⟩
theorem iL_law_189 : zLi mL_law 189 3 190 := Or.inl ⟨3, by decide +kernel, rfl, rfl⟩
theorem iL_law_190 : zPi mL_law 190 2 191 := Or.inl ⟨2, by decide +kernel, by decide, rfl⟩
theorem iL_law_191 : zIs mL_law 191 (.iadd) 1 192 := ⟨by decide +kernel, rfl⟩
theorem iL_law_192 : zIs mL_law 192 (.iaload) 1 193 := ⟨by decide +kernel, rfl⟩
theorem iL_law_193 : zIs mL_law 193 (.invokevirtual 17) 3 196 := ⟨by decide +kernel, rfl⟩
theorem iL_law_196 : zBr mL_law 196 (.if_icmp .eq) 959 199 := ⟨763, by decide +kernel, by decide, rfl⟩
theorem iL_law_199 : zPi mL_law 199 0 200 := Or.inl ⟨0, by decide +kernel, by decide, rfl⟩
theorem iL_law_200 : zIs mL_law 200 (.ireturn) 1 201 := ⟨by decide +kernel, rfl⟩
theorem iL_law_201 : zLa mL_law 201 1 202 := Or.inl ⟨1, by decide +kernel, rfl, rfl⟩
theorem iL_law_202 : zLa mL_law 202 0 203 := Or.inl ⟨0, by decide +kernel, rfl, rfl⟩
theorem iL_law_203 : zLi mL_law 203 3 204 := Or.inl ⟨3, by decide +kernel, rfl, rfl⟩
theorem iL_law_204 : zPi mL_law 204 1 205 := Or.inl ⟨1, by decide +kernel, by decide, rfl⟩
theorem iL_law_205 : zIs mL_law 205 (.iadd) 1 206 := ⟨by decide +kernel, rfl⟩
theorem iL_law_206 : zIs mL_law 206 (.iaload) 1 207 := ⟨by decide +kernel, rfl⟩
theorem iL_law_207 : zIs mL_law 207 (.invokevirtual 18) 3 210 := ⟨by decide +kernel, rfl⟩
theorem iL_law_210 : zLa mL_law 210 2 211 := Or.inl ⟨2, by decide +kernel, rfl, rfl⟩
theorem iL_law_211 : zLa mL_law 211 0 212 := Or.inl ⟨0, by decide +kernel, rfl, rfl⟩
theorem iL_law_212 : zLi mL_law 212 3 213 := Or.inl ⟨3, by decide +kernel, rfl, rfl⟩
theorem iL_law_213 : zPi mL_law 213 1 214 := Or.inl ⟨1, by decide +kernel, by decide, rfl⟩
theorem iL_law_214 : zIs mL_law 214 (.iadd) 1 215 := ⟨by decide +kernel, rfl⟩
theorem iL_law_215 : zIs mL_law 215 (.iaload) 1 216 := ⟨by decide +kernel, rfl⟩
theorem iL_law_216 : zIs mL_law 216 (.invokevirtual 22) 3 219 := ⟨by decide +kernel, rfl⟩
theorem iL_law_219 : zBr mL_law 219 (.if_icmp .eq) 959 222 := ⟨740, by decide +kernel, by decide, rfl⟩
theorem iL_law_222 : zPi mL_law 222 0 223 := Or.inl ⟨0, by decide +kernel, by decide, rfl⟩
theorem iL_law_223 : zIs mL_law 223 (.ireturn) 1 224 := ⟨by decide +kernel, rfl⟩
theorem iL_law_224 : zLa mL_law 224 1 225 := Or.inl ⟨1, by decide +kernel, rfl, rfl⟩
theorem iL_law_225 : zLa mL_law 225 0 226 := Or.inl ⟨0, by decide +kernel, rfl, rfl⟩
theorem iL_law_226 : zLi mL_law 226 3 227 := Or.inl ⟨3, by decide +kernel, rfl, rfl⟩
theorem iL_law_227 : zPi mL_law 227 1 228 := Or.inl ⟨1, by decide +kernel, by decide, rfl⟩
theorem iL_law_228 : zIs mL_law 228 (.iadd) 1 229 := ⟨by decide +kernel, rfl⟩
theorem iL_law_229 : zIs mL_law 229 (.iaload) 1 230 := ⟨by decide +kernel, rfl⟩
theorem iL_law_230 : zLa mL_law 230 0 231 := Or.inl ⟨0, by decide +kernel, rfl, rfl⟩
theorem iL_law_231 : zLi mL_law 231 3 232 := Or.inl ⟨3, by decide +kernel, rfl, rfl⟩
theorem iL_law_232 : zPi mL_law 232 2 233 := Or.inl ⟨2, by decide +kernel, by decide, rfl⟩
theorem iL_law_233 : zIs mL_law 233 (.iadd) 1 234 := ⟨by decide +kernel, rfl⟩
theorem iL_law_234 : zIs mL_law 234 (.iaload) 1 235 := ⟨by decide +kernel, rfl⟩
theorem iL_law_235 : zLa mL_law 235 0 236 := Or.inl ⟨0, by decide +kernel, rfl, rfl⟩
theorem iL_law_236 : zLi mL_law 236 3 237 := Or.inl ⟨3, by decide +kernel, rfl, rfl⟩
theorem iL_law_237 : zPi mL_law 237 3 238 := Or.inl ⟨3, by decide +kernel, by decide, rfl⟩
theorem iL_law_238 : zIs mL_law 238 (.iadd) 1 239 := ⟨by decide +kernel, rfl⟩
theorem iL_law_239 : zIs mL_law 239 (.iaload) 1 240 := ⟨by decide +kernel, rfl⟩
theorem iL_law_240 : zLa mL_law 240 0 241 := Or.inl ⟨0, by decide +kernel, rfl, rfl⟩
theorem iL_law_241 : zLi mL_law 241 3 242 := Or.inl ⟨3, by decide +kernel, rfl, rfl⟩
theorem iL_law_242 : zPi mL_law 242 4 243 := Or.inl ⟨4, by decide +kernel, by decide, rfl⟩
theorem iL_law_243 : zIs mL_law 243 (.iadd) 1 244 := ⟨by decide +kernel, rfl⟩
theorem iL_law_244 : zIs mL_law 244 (.iaload) 1 245 := ⟨by decide +kernel, rfl⟩
theorem iL_law_245 : zIs mL_law 245 (.invokevirtual 23) 3 248 := ⟨by decide +kernel, rfl⟩
theorem iL_law_248 : zLa mL_law 248 2 249 := Or.inl ⟨2, by decide +kernel, rfl, rfl⟩
theorem iL_law_249 : zLa mL_law 249 0 250 := Or.inl ⟨0, by decide +kernel, rfl, rfl⟩
theorem iL_law_250 : zLi mL_law 250 3 251 := Or.inl ⟨3, by decide +kernel, rfl, rfl⟩
theorem iL_law_251 : zPi mL_law 251 1 252 := Or.inl ⟨1, by decide +kernel, by decide, rfl⟩
theorem iL_law_252 : zIs mL_law 252 (.iadd) 1 253 := ⟨by decide +kernel, rfl⟩
theorem iL_law_253 : zIs mL_law 253 (.iaload) 1 254 := ⟨by decide +kernel, rfl⟩
theorem iL_law_254 : zLa mL_law 254 0 255 := Or.inl ⟨0, by decide +kernel, rfl, rfl⟩
theorem iL_law_255 : zLi mL_law 255 3 256 := Or.inl ⟨3, by decide +kernel, rfl, rfl⟩
theorem iL_law_256 : zPi mL_law 256 2 257 := Or.inl ⟨2, by decide +kernel, by decide, rfl⟩
theorem iL_law_257 : zIs mL_law 257 (.iadd) 1 258 := ⟨by decide +kernel, rfl⟩
theorem iL_law_258 : zIs mL_law 258 (.iaload) 1 259 := ⟨by decide +kernel, rfl⟩
theorem iL_law_259 : zLa mL_law 259 0 260 := Or.inl ⟨0, by decide +kernel, rfl, rfl⟩
theorem iL_law_260 : zLi mL_law 260 3 261 := Or.inl ⟨3, by decide +kernel, rfl, rfl⟩
theorem iL_law_261 : zPi mL_law 261 3 262 := Or.inl ⟨3, by decide +kernel, by decide, rfl⟩
theorem iL_law_262 : zIs mL_law 262 (.iadd) 1 263 := ⟨by decide +kernel, rfl⟩
theorem iL_law_263 : zIs mL_law 263 (.iaload) 1 264 := ⟨by decide +kernel, rfl⟩
theorem iL_law_264 : zLa mL_law 264 0 265 := Or.inl ⟨0, by decide +kernel, rfl, rfl⟩
theorem iL_law_265 : zLi mL_law 265 3 266 := Or.inl ⟨3, by decide +kernel, rfl, rfl⟩
theorem iL_law_266 : zPi mL_law 266 4 267 := Or.inl ⟨4, by decide +kernel, by decide, rfl⟩
theorem iL_law_267 : zIs mL_law 267 (.iadd) 1 268 := ⟨by decide +kernel, rfl⟩
theorem iL_law_268 : zIs mL_law 268 (.iaload) 1 269 := ⟨by decide +kernel, rfl⟩
theorem iL_law_269 : zIs mL_law 269 (.invokevirtual 27) 3 272 := ⟨by decide +kernel, rfl⟩
theorem iL_law_272 : zBr mL_law 272 (.if_icmp .eq) 959 275 := ⟨687, by decide +kernel, by decide, rfl⟩
theorem iL_law_275 : zPi mL_law 275 0 276 := Or.inl ⟨0, by decide +kernel, by decide, rfl⟩
theorem iL_law_276 : zIs mL_law 276 (.ireturn) 1 277 := ⟨by decide +kernel, rfl⟩
theorem iL_law_277 : zLa mL_law 277 1 278 := Or.inl ⟨1, by decide +kernel, rfl, rfl⟩
theorem iL_law_278 : zLa mL_law 278 0 279 := Or.inl ⟨0, by decide +kernel, rfl, rfl⟩
theorem iL_law_279 : zLi mL_law 279 3 280 := Or.inl ⟨3, by decide +kernel, rfl, rfl⟩
theorem iL_law_280 : zPi mL_law 280 1 281 := Or.inl ⟨1, by decide +kernel, by decide, rfl⟩
theorem iL_law_281 : zIs mL_law 281 (.iadd) 1 282 := ⟨by decide +kernel, rfl⟩
theorem iL_law_282 : zIs mL_law 282 (.iaload) 1 283 := ⟨by decide +kernel, rfl⟩
theorem iL_law_283 : zLa mL_law 283 0 284 := Or.inl ⟨0, by decide +kernel, rfl, rfl⟩
theorem iL_law_284 : zLi mL_law 284 3 285 := Or.inl ⟨3, by decide +kernel, rfl, rfl⟩
theorem iL_law_285 : zPi mL_law 285 2 286 := Or.inl ⟨2, by decide +kernel, by decide, rfl⟩
theorem iL_law_286 : zIs mL_law 286 (.iadd) 1 287 := ⟨by decide +kernel, rfl⟩
theorem iL_law_287 : zIs mL_law 287 (.iaload) 1 288 := ⟨by decide +kernel, rfl⟩
theorem iL_law_288 : zLa mL_law 288 0 289 := Or.inl ⟨0, by decide +kernel, rfl, rfl⟩
theorem iL_law_289 : zLi mL_law 289 3 290 := Or.inl ⟨3, by decide +kernel, rfl, rfl⟩
theorem iL_law_290 : zPi mL_law 290 3 291 := Or.inl ⟨3, by decide +kernel, by decide, rfl⟩
theorem iL_law_291 : zIs mL_law 291 (.iadd) 1 292 := ⟨by decide +kernel, rfl⟩
theorem iL_law_292 : zIs mL_law 292 (.iaload) 1 293 := ⟨by decide +kernel, rfl⟩
theorem iL_law_293 : zIs mL_law 293 (.invokevirtual 28) 3 296 := ⟨by decide +kernel, rfl⟩
theorem iL_law_296 : zLa mL_law 296 2 297 := Or.inl ⟨2, by decide +kernel, rfl, rfl⟩
theorem iL_law_297 : zLa mL_law 297 0 298 := Or.inl ⟨0, by decide +kernel, rfl, rfl⟩
theorem iL_law_298 : zLi mL_law 298 3 299 := Or.inl ⟨3, by decide +kernel, rfl, rfl⟩
theorem iL_law_299 : zPi mL_law 299 1 300 := Or.inl ⟨1, by decide +kernel, by decide, rfl⟩
theorem iL_law_300 : zIs mL_law 300 (.iadd) 1 301 := ⟨by decide +kernel, rfl⟩
theorem iL_law_301 : zIs mL_law 301 (.iaload) 1 302 := ⟨by decide +kernel, rfl⟩
theorem iL_law_302 : zLa mL_law 302 0 303 := Or.inl ⟨0, by decide +kernel, rfl, rfl⟩
theorem iL_law_303 : zLi mL_law 303 3 304 := Or.inl ⟨3, by decide +kernel, rfl, rfl⟩
theorem iL_law_304 : zPi mL_law 304 2 305 := Or.inl ⟨2, by decide +kernel, by decide, rfl⟩
theorem iL_law_305 : zIs mL_law 305 (.iadd) 1 306 := ⟨by decide +kernel, rfl⟩
theorem iL_law_306 : zIs mL_law 306 (.iaload) 1 307 := ⟨by decide +kernel, rfl⟩
theorem iL_law_307 : zLa mL_law 307 0 308 := Or.inl ⟨0, by decide +kernel, rfl, rfl⟩
theorem iL_law_308 : zLi mL_law 308 3 309 := Or.inl ⟨3, by decide +kernel, rfl, rfl⟩
theorem iL_law_309 : zPi mL_law 309 3 310 := Or.inl ⟨3, by decide +kernel, by decide, rfl⟩
theorem iL_law_310 : zIs mL_law 310 (.iadd) 1 311 := ⟨by decide +kernel, rfl⟩
theorem iL_law_311 : zIs mL_law 311 (.iaload) 1 312 := ⟨by decide +kernel, rfl⟩
theorem iL_law_312 : zIs mL_law 312 (.invokevirtual 32) 3 315 := ⟨by decide +kernel, rfl⟩
theorem iL_law_315 : zBr mL_law 315 (.if_icmp .eq) 959 318 := ⟨644, by decide +kernel, by decide, rfl⟩
theorem iL_law_318 : zPi mL_law 318 0 319 := Or.inl ⟨0, by decide +kernel, by decide, rfl⟩
theorem iL_law_319 : zIs mL_law 319 (.ireturn) 1 320 := ⟨by decide +kernel, rfl⟩
theorem iL_law_320 : zLa mL_law 320 1 321 := Or.inl ⟨1, by decide +kernel, rfl, rfl⟩
theorem iL_law_321 : zIs mL_law 321 (.invokevirtual 33) 3 324 := ⟨by decide +kernel, rfl⟩
theorem iL_law_324 : zLa mL_law 324 2 325 := Or.inl ⟨2, by decide +kernel, rfl, rfl⟩
theorem iL_law_325 : zIs mL_law 325 (.invokevirtual 37) 3 328 := ⟨by decide +kernel, rfl⟩
theorem iL_law_328 : zBr mL_law 328 (.if_icmp .eq) 959 331 := ⟨631, by decide +kernel, by decide, rfl⟩
theorem iL_law_331 : zPi mL_law 331 0 332 := Or.inl ⟨0, by decide +kernel, by decide, rfl⟩
theorem iL_law_332 : zIs mL_law 332 (.ireturn) 1 333 := ⟨by decide +kernel, rfl⟩
theorem iL_law_333 : zLa mL_law 333 1 334 := Or.inl ⟨1, by decide +kernel, rfl, rfl⟩
theorem iL_law_334 : zLa mL_law 334 0 335 := Or.inl ⟨0, by decide +kernel, rfl, rfl⟩
theorem iL_law_335 : zLi mL_law 335 3 336 := Or.inl ⟨3, by decide +kernel, rfl, rfl⟩
theorem iL_law_336 : zPi mL_law 336 1 337 := Or.inl ⟨1, by decide +kernel, by decide, rfl⟩
theorem iL_law_337 : zIs mL_law 337 (.iadd) 1 338 := ⟨by decide +kernel, rfl⟩
theorem iL_law_338 : zIs mL_law 338 (.iaload) 1 339 := ⟨by decide +kernel, rfl⟩
theorem iL_law_339 : zIs mL_law 339 (.invokevirtual 38) 3 342 := ⟨by decide +kernel, rfl⟩
theorem iL_law_342 : zLa mL_law 342 2 343 := Or.inl ⟨2, by decide +kernel, rfl, rfl⟩
theorem iL_law_343 : zLa mL_law 343 0 344 := Or.inl ⟨0, by decide +kernel, rfl, rfl⟩
theorem iL_law_344 : zLi mL_law 344 3 345 := Or.inl ⟨3, by decide +kernel, rfl, rfl⟩
theorem iL_law_345 : zPi mL_law 345 1 346 := Or.inl ⟨1, by decide +kernel, by decide, rfl⟩
theorem iL_law_346 : zIs mL_law 346 (.iadd) 1 347 := ⟨by decide +kernel, rfl⟩
theorem iL_law_347 : zIs mL_law 347 (.iaload) 1 348 := ⟨by decide +kernel, rfl⟩
theorem iL_law_348 : zIs mL_law 348 (.invokevirtual 41) 3 351 := ⟨by decide +kernel, rfl⟩
theorem iL_law_351 : zBr mL_law 351 (.if_icmp .eq) 959 354 := ⟨608, by decide +kernel, by decide, rfl⟩
theorem iL_law_354 : zPi mL_law 354 0 355 := Or.inl ⟨0, by decide +kernel, by decide, rfl⟩
theorem iL_law_355 : zIs mL_law 355 (.ireturn) 1 356 := ⟨by decide +kernel, rfl⟩
theorem iL_law_356 : zLa mL_law 356 1 357 := Or.inl ⟨1, by decide +kernel, rfl, rfl⟩
theorem iL_law_357 : zLa mL_law 357 0 358 := Or.inl ⟨0, by decide +kernel, rfl, rfl⟩
theorem iL_law_358 : zLi mL_law 358 3 359 := Or.inl ⟨3, by decide +kernel, rfl, rfl⟩
theorem iL_law_359 : zPi mL_law 359 1 360 := Or.inl ⟨1, by decide +kernel, by decide, rfl⟩
theorem iL_law_360 : zIs mL_law 360 (.iadd) 1 361 := ⟨by decide +kernel, rfl⟩
theorem iL_law_361 : zIs mL_law 361 (.iaload) 1 362 := ⟨by decide +kernel, rfl⟩
theorem iL_law_362 : zLa mL_law 362 0 363 := Or.inl ⟨0, by decide +kernel, rfl, rfl⟩
theorem iL_law_363 : zLi mL_law 363 3 364 := Or.inl ⟨3, by decide +kernel, rfl, rfl⟩
theorem iL_law_364 : zPi mL_law 364 2 365 := Or.inl ⟨2, by decide +kernel, by decide, rfl⟩
theorem iL_law_365 : zIs mL_law 365 (.iadd) 1 366 := ⟨by decide +kernel, rfl⟩
theorem iL_law_366 : zIs mL_law 366 (.iaload) 1 367 := ⟨by decide +kernel, rfl⟩
theorem iL_law_367 : zIs mL_law 367 (.invokevirtual 42) 3 370 := ⟨by decide +kernel, rfl⟩
theorem iL_law_370 : zLa mL_law 370 2 371 := Or.inl ⟨2, by decide +kernel, rfl, rfl⟩
theorem iL_law_371 : zLa mL_law 371 0 372 := Or.inl ⟨0, by decide +kernel, rfl, rfl⟩
theorem iL_law_372 : zLi mL_law 372 3 373 := Or.inl ⟨3, by decide +kernel, rfl, rfl⟩
theorem iL_law_373 : zPi mL_law 373 1 374 := Or.inl ⟨1, by decide +kernel, by decide, rfl⟩
theorem iL_law_374 : zIs mL_law 374 (.iadd) 1 375 := ⟨by decide +kernel, rfl⟩
theorem iL_law_375 : zIs mL_law 375 (.iaload) 1 376 := ⟨by decide +kernel, rfl⟩
theorem iL_law_376 : zLa mL_law 376 0 377 := Or.inl ⟨0, by decide +kernel, rfl, rfl⟩
theorem iL_law_377 : zLi mL_law 377 3 378 := Or.inl ⟨3, by decide +kernel, rfl, rfl⟩
theorem iL_law_378 : zPi mL_law 378 2 379 := Or.inl ⟨2, by decide +kernel, by decide, rfl⟩
theorem iL_law_379 : zIs mL_law 379 (.iadd) 1 380 := ⟨by decide +kernel, rfl⟩
theorem iL_law_380 : zIs mL_law 380 (.iaload) 1 381 := ⟨by decide +kernel, rfl⟩
theorem iL_law_381 : zIs mL_law 381 (.invokevirtual 45) 3 384 := ⟨by decide +kernel, rfl⟩
theorem iL_law_384 : zBr mL_law 384 (.if_icmp .eq) 959 387 := ⟨575, by decide +kernel, by decide, rfl⟩
theorem iL_law_387 : zPi mL_law 387 0 388 := Or.inl ⟨0, by decide +kernel, by decide, rfl⟩
theorem iL_law_388 : zIs mL_law 388 (.ireturn) 1 389 := ⟨by decide +kernel, rfl⟩
theorem iL_law_389 : zLa mL_law 389 1 390 := Or.inl ⟨1, by decide +kernel, rfl, rfl⟩
theorem iL_law_390 : zLa mL_law 390 0 391 := Or.inl ⟨0, by decide +kernel, rfl, rfl⟩
theorem iL_law_391 : zLi mL_law 391 3 392 := Or.inl ⟨3, by decide +kernel, rfl, rfl⟩
theorem iL_law_392 : zPi mL_law 392 1 393 := Or.inl ⟨1, by decide +kernel, by decide, rfl⟩
theorem iL_law_393 : zIs mL_law 393 (.iadd) 1 394 := ⟨by decide +kernel, rfl⟩
theorem iL_law_394 : zIs mL_law 394 (.iaload) 1 395 := ⟨by decide +kernel, rfl⟩
theorem iL_law_395 : zIs mL_law 395 (.invokevirtual 46) 3 398 := ⟨by decide +kernel, rfl⟩
theorem iL_law_398 : zLa mL_law 398 2 399 := Or.inl ⟨2, by decide +kernel, rfl, rfl⟩
theorem iL_law_399 : zLa mL_law 399 0 400 := Or.inl ⟨0, by decide +kernel, rfl, rfl⟩
theorem iL_law_400 : zLi mL_law 400 3 401 := Or.inl ⟨3, by decide +kernel, rfl, rfl⟩
theorem iL_law_401 : zPi mL_law 401 1 402 := Or.inl ⟨1, by decide +kernel, by decide, rfl⟩
theorem iL_law_402 : zIs mL_law 402 (.iadd) 1 403 := ⟨by decide +kernel, rfl⟩
theorem iL_law_403 : zIs mL_law 403 (.iaload) 1 404 := ⟨by decide +kernel, rfl⟩
theorem iL_law_404 : zIs mL_law 404 (.invokevirtual 49) 3 407 := ⟨by decide +kernel, rfl⟩
theorem iL_law_407 : zBr mL_law 407 (.if_icmp .eq) 959 410 := ⟨552, by decide +kernel, by decide, rfl⟩
theorem iL_law_410 : zPi mL_law 410 0 411 := Or.inl ⟨0, by decide +kernel, by decide, rfl⟩
theorem iL_law_411 : zIs mL_law 411 (.ireturn) 1 412 := ⟨by decide +kernel, rfl⟩
theorem iL_law_412 : zLa mL_law 412 1 413 := Or.inl ⟨1, by decide +kernel, rfl, rfl⟩
theorem iL_law_413 : zLa mL_law 413 0 414 := Or.inl ⟨0, by decide +kernel, rfl, rfl⟩
theorem iL_law_414 : zLi mL_law 414 3 415 := Or.inl ⟨3, by decide +kernel, rfl, rfl⟩
theorem iL_law_415 : zPi mL_law 415 1 416 := Or.inl ⟨1, by decide +kernel, by decide, rfl⟩
theorem iL_law_416 : zIs mL_law 416 (.iadd) 1 417 := ⟨by decide +kernel, rfl⟩
theorem iL_law_417 : zIs mL_law 417 (.iaload) 1 418 := ⟨by decide +kernel, rfl⟩
theorem iL_law_418 : zIs mL_law 418 (.invokevirtual 50) 3 421 := ⟨by decide +kernel, rfl⟩
theorem iL_law_421 : zLa mL_law 421 2 422 := Or.inl ⟨2, by decide +kernel, rfl, rfl⟩
theorem iL_law_422 : zLa mL_law 422 0 423 := Or.inl ⟨0, by decide +kernel, rfl, rfl⟩
theorem iL_law_423 : zLi mL_law 423 3 424 := Or.inl ⟨3, by decide +kernel, rfl, rfl⟩
theorem iL_law_424 : zPi mL_law 424 1 425 := Or.inl ⟨1, by decide +kernel, by decide, rfl⟩
theorem iL_law_425 : zIs mL_law 425 (.iadd) 1 426 := ⟨by decide +kernel, rfl⟩
theorem iL_law_426 : zIs mL_law 426 (.iaload) 1 427 := ⟨by decide +kernel, rfl⟩
theorem iL_law_427 : zIs mL_law 427 (.invokevirtual 53) 3 430 := ⟨by decide +kernel, rfl⟩
theorem iL_law_430 : zBr mL_law 430 (.if_icmp .eq) 959 433 := ⟨529, by decide +kernel, by decide, rfl⟩
theorem iL_law_433 : zPi mL_law 433 0 434 := Or.inl ⟨0, by decide +kernel, by decide, rfl⟩
theorem iL_law_434 : zIs mL_law 434 (.ireturn) 1 435 := ⟨by decide +kernel, rfl⟩
theorem iL_law_435 : zLa mL_law 435 1 436 := Or.inl ⟨1, by decide +kernel, rfl, rfl⟩
theorem iL_law_436 : zLa mL_law 436 0 437 := Or.inl ⟨0, by decide +kernel, rfl, rfl⟩
theorem iL_law_437 : zLi mL_law 437 3 438 := Or.inl ⟨3, by decide +kernel, rfl, rfl⟩
theorem iL_law_438 : zPi mL_law 438 1 439 := Or.inl ⟨1, by decide +kernel, by decide, rfl⟩
theorem iL_law_439 : zIs mL_law 439 (.iadd) 1 440 := ⟨by decide +kernel, rfl⟩
theorem iL_law_440 : zIs mL_law 440 (.iaload) 1 441 := ⟨by decide +kernel, rfl⟩
theorem iL_law_441 : zIs mL_law 441 (.invokevirtual 54) 3 444 := ⟨by decide +kernel, rfl⟩
theorem iL_law_444 : zLa mL_law 444 2 445 := Or.inl ⟨2, by decide +kernel, rfl, rfl⟩
theorem iL_law_445 : zLa mL_law 445 0 446 := Or.inl ⟨0, by decide +kernel, rfl, rfl⟩
theorem iL_law_446 : zLi mL_law 446 3 447 := Or.inl ⟨3, by decide +kernel, rfl, rfl⟩
theorem iL_law_447 : zPi mL_law 447 1 448 := Or.inl ⟨1, by decide +kernel, by decide, rfl⟩
theorem iL_law_448 : zIs mL_law 448 (.iadd) 1 449 := ⟨by decide +kernel, rfl⟩
theorem iL_law_449 : zIs mL_law 449 (.iaload) 1 450 := ⟨by decide +kernel, rfl⟩
theorem iL_law_450 : zIs mL_law 450 (.invokevirtual 57) 3 453 := ⟨by decide +kernel, rfl⟩
theorem iL_law_453 : zBr mL_law 453 (.if_icmp .eq) 959 456 := ⟨506, by decide +kernel, by decide, rfl⟩
theorem iL_law_456 : zPi mL_law 456 0 457 := Or.inl ⟨0, by decide +kernel, by decide, rfl⟩
theorem iL_law_457 : zIs mL_law 457 (.ireturn) 1 458 := ⟨by decide +kernel, rfl⟩
theorem iL_law_458 : zLa mL_law 458 1 459 := Or.inl ⟨1, by decide +kernel, rfl, rfl⟩
theorem iL_law_459 : zLa mL_law 459 0 460 := Or.inl ⟨0, by decide +kernel, rfl, rfl⟩
theorem iL_law_460 : zLi mL_law 460 3 461 := Or.inl ⟨3, by decide +kernel, rfl, rfl⟩
theorem iL_law_461 : zPi mL_law 461 1 462 := Or.inl ⟨1, by decide +kernel, by decide, rfl⟩
theorem iL_law_462 : zIs mL_law 462 (.iadd) 1 463 := ⟨by decide +kernel, rfl⟩
theorem iL_law_463 : zIs mL_law 463 (.iaload) 1 464 := ⟨by decide +kernel, rfl⟩
theorem iL_law_464 : zIs mL_law 464 (.invokevirtual 58) 3 467 := ⟨by decide +kernel, rfl⟩
theorem iL_law_467 : zLa mL_law 467 2 468 := Or.inl ⟨2, by decide +kernel, rfl, rfl⟩
theorem iL_law_468 : zLa mL_law 468 0 469 := Or.inl ⟨0, by decide +kernel, rfl, rfl⟩
theorem iL_law_469 : zLi mL_law 469 3 470 := Or.inl ⟨3, by decide +kernel, rfl, rfl⟩
theorem iL_law_470 : zPi mL_law 470 1 471 := Or.inl ⟨1, by decide +kernel, by decide, rfl⟩
theorem iL_law_471 : zIs mL_law 471 (.iadd) 1 472 := ⟨by decide +kernel, rfl⟩
theorem iL_law_472 : zIs mL_law 472 (.iaload) 1 473 := ⟨by decide +kernel, rfl⟩
theorem iL_law_473 : zIs mL_law 473 (.invokevirtual 61) 3 476 := ⟨by decide +kernel, rfl⟩
theorem iL_law_476 : zBr mL_law 476 (.if_icmp .eq) 959 479 := ⟨483, by decide +kernel, by decide, rfl⟩
theorem iL_law_479 : zPi mL_law 479 0 480 := Or.inl ⟨0, by decide +kernel, by decide, rfl⟩
theorem iL_law_480 : zIs mL_law 480 (.ireturn) 1 481 := ⟨by decide +kernel, rfl⟩
theorem iL_law_481 : zLa mL_law 481 1 482 := Or.inl ⟨1, by decide +kernel, rfl, rfl⟩
theorem iL_law_482 : zLa mL_law 482 0 483 := Or.inl ⟨0, by decide +kernel, rfl, rfl⟩
theorem iL_law_483 : zLi mL_law 483 3 484 := Or.inl ⟨3, by decide +kernel, rfl, rfl⟩
theorem iL_law_484 : zPi mL_law 484 1 485 := Or.inl ⟨1, by decide +kernel, by decide, rfl⟩
theorem iL_law_485 : zIs mL_law 485 (.iadd) 1 486 := ⟨by decide +kernel, rfl⟩
theorem iL_law_486 : zIs mL_law 486 (.iaload) 1 487 := ⟨by decide +kernel, rfl⟩
theorem iL_law_487 : zIs mL_law 487 (.invokevirtual 62) 3 490 := ⟨by decide +kernel, rfl⟩
theorem iL_law_490 : zLa mL_law 490 2 491 := Or.inl ⟨2, by decide +kernel, rfl, rfl⟩
theorem iL_law_491 : zLa mL_law 491 0 492 := Or.inl ⟨0, by decide +kernel, rfl, rfl⟩
theorem iL_law_492 : zLi mL_law 492 3 493 := Or.inl ⟨3, by decide +kernel, rfl, rfl⟩
theorem iL_law_493 : zPi mL_law 493 1 494 := Or.inl ⟨1, by decide +kernel, by decide, rfl⟩
theorem iL_law_494 : zIs mL_law 494 (.iadd) 1 495 := ⟨by decide +kernel, rfl⟩
theorem iL_law_495 : zIs mL_law 495 (.iaload) 1 496 := ⟨by decide +kernel, rfl⟩
theorem iL_law_496 : zIs mL_law 496 (.invokevirtual 65) 3 499 := ⟨by decide +kernel, rfl⟩
theorem iL_law_499 : zBr mL_law 499 (.if_icmp .eq) 959 502 := ⟨460, by decide +kernel, by decide, rfl⟩
theorem iL_law_502 : zPi mL_law 502 0 503 := Or.inl ⟨0, by decide +kernel, by decide, rfl⟩
theorem iL_law_503 : zIs mL_law 503 (.ireturn) 1 504 := ⟨by decide +kernel, rfl⟩
theorem iL_law_504 : zLa mL_law 504 1 505 := Or.inl ⟨1, by decide +kernel, rfl, rfl⟩
theorem iL_law_505 : zLa mL_law 505 0 506 := Or.inl ⟨0, by decide +kernel, rfl, rfl⟩
theorem iL_law_506 : zLi mL_law 506 3 507 := Or.inl ⟨3, by decide +kernel, rfl, rfl⟩
theorem iL_law_507 : zPi mL_law 507 1 508 := Or.inl ⟨1, by decide +kernel, by decide, rfl⟩
theorem iL_law_508 : zIs mL_law 508 (.iadd) 1 509 := ⟨by decide +kernel, rfl⟩
theorem iL_law_509 : zIs mL_law 509 (.iaload) 1 510 := ⟨by decide +kernel, rfl⟩
theorem iL_law_510 : zIs mL_law 510 (.invokevirtual 66) 3 513 := ⟨by decide +kernel, rfl⟩
theorem iL_law_513 : zLa mL_law 513 2 514 := Or.inl ⟨2, by decide +kernel, rfl, rfl⟩
theorem iL_law_514 : zLa mL_law 514 0 515 := Or.inl ⟨0, by decide +kernel, rfl, rfl⟩
theorem iL_law_515 : zLi mL_law 515 3 516 := Or.inl ⟨3, by decide +kernel, rfl, rfl⟩
theorem iL_law_516 : zPi mL_law 516 1 517 := Or.inl ⟨1, by decide +kernel, by decide, rfl⟩
theorem iL_law_517 : zIs mL_law 517 (.iadd) 1 518 := ⟨by decide +kernel, rfl⟩
theorem iL_law_518 : zIs mL_law 518 (.iaload) 1 519 := ⟨by decide +kernel, rfl⟩
theorem iL_law_519 : zIs mL_law 519 (.invokevirtual 69) 3 522 := ⟨by decide +kernel, rfl⟩
theorem iL_law_522 : zBr mL_law 522 (.if_icmp .eq) 959 525 := ⟨437, by decide +kernel, by decide, rfl⟩
theorem iL_law_525 : zPi mL_law 525 0 526 := Or.inl ⟨0, by decide +kernel, by decide, rfl⟩
theorem iL_law_526 : zIs mL_law 526 (.ireturn) 1 527 := ⟨by decide +kernel, rfl⟩
theorem iL_law_527 : zLa mL_law 527 1 528 := Or.inl ⟨1, by decide +kernel, rfl, rfl⟩
theorem iL_law_528 : zLa mL_law 528 0 529 := Or.inl ⟨0, by decide +kernel, rfl, rfl⟩
theorem iL_law_529 : zLi mL_law 529 3 530 := Or.inl ⟨3, by decide +kernel, rfl, rfl⟩
theorem iL_law_530 : zPi mL_law 530 1 531 := Or.inl ⟨1, by decide +kernel, by decide, rfl⟩
theorem iL_law_531 : zIs mL_law 531 (.iadd) 1 532 := ⟨by decide +kernel, rfl⟩
theorem iL_law_532 : zIs mL_law 532 (.iaload) 1 533 := ⟨by decide +kernel, rfl⟩
theorem iL_law_533 : zLa mL_law 533 0 534 := Or.inl ⟨0, by decide +kernel, rfl, rfl⟩
theorem iL_law_534 : zLi mL_law 534 3 535 := Or.inl ⟨3, by decide +kernel, rfl, rfl⟩
theorem iL_law_535 : zPi mL_law 535 2 536 := Or.inl ⟨2, by decide +kernel, by decide, rfl⟩
theorem iL_law_536 : zIs mL_law 536 (.iadd) 1 537 := ⟨by decide +kernel, rfl⟩
theorem iL_law_537 : zIs mL_law 537 (.iaload) 1 538 := ⟨by decide +kernel, rfl⟩
theorem iL_law_538 : zIs mL_law 538 (.invokevirtual 70) 3 541 := ⟨by decide +kernel, rfl⟩
theorem iL_law_541 : zLa mL_law 541 2 542 := Or.inl ⟨2, by decide +kernel, rfl, rfl⟩
theorem iL_law_542 : zLa mL_law 542 0 543 := Or.inl ⟨0, by decide +kernel, rfl, rfl⟩
theorem iL_law_543 : zLi mL_law 543 3 544 := Or.inl ⟨3, by decide +kernel, rfl, rfl⟩
theorem iL_law_544 : zPi mL_law 544 1 545 := Or.inl ⟨1, by decide +kernel, by decide, rfl⟩
theorem iL_law_545 : zIs mL_law 545 (.iadd) 1 546 := ⟨by decide +kernel, rfl⟩
theorem iL_law_546 : zIs mL_law 546 (.iaload) 1 547 := ⟨by decide +kernel, rfl⟩
theorem iL_law_547 : zLa mL_law 547 0 548 := Or.inl ⟨0, by decide +kernel, rfl, rfl⟩
theorem iL_law_548 : zLi mL_law 548 3 549 := Or.inl ⟨3, by decide +kernel, rfl, rfl⟩
theorem iL_law_549 : zPi mL_law 549 2 550 := Or.inl ⟨2, by decide +kernel, by decide, rfl⟩
theorem iL_law_550 : zIs mL_law 550 (.iadd) 1 551 := ⟨by decide +kernel, rfl⟩
theorem iL_law_551 : zIs mL_law 551 (.iaload) 1 552 := ⟨by decide +kernel, rfl⟩
theorem iL_law_552 : zIs mL_law 552 (.invokevirtual 73) 3 555 := ⟨by decide +kernel, rfl⟩
theorem iL_law_555 : zBr mL_law 555 (.if_icmp .eq) 959 558 := ⟨404, by decide +kernel, by decide, rfl⟩
theorem iL_law_558 : zPi mL_law 558 0 559 := Or.inl ⟨0, by decide +kernel, by decide, rfl⟩
theorem iL_law_559 : zIs mL_law 559 (.ireturn) 1 560 := ⟨by decide +kernel, rfl⟩
theorem iL_law_560 : zLa mL_law 560 1 561 := Or.inl ⟨1, by decide +kernel, rfl, rfl⟩
theorem iL_law_561 : zIs mL_law 561 (.invokevirtual 74) 3 564 := ⟨by decide +kernel, rfl⟩
theorem iL_law_564 : zLa mL_law 564 2 565 := Or.inl ⟨2, by decide +kernel, rfl, rfl⟩
theorem iL_law_565 : zIs mL_law 565 (.invokevirtual 77) 3 568 := ⟨by decide +kernel, rfl⟩
theorem iL_law_568 : zBr mL_law 568 (.if_icmp .eq) 959 571 := ⟨391, by decide +kernel, by decide, rfl⟩
theorem iL_law_571 : zPi mL_law 571 0 572 := Or.inl ⟨0, by decide +kernel, by decide, rfl⟩
theorem iL_law_572 : zIs mL_law 572 (.ireturn) 1 573 := ⟨by decide +kernel, rfl⟩
theorem iL_law_573 : zLa mL_law 573 1 574 := Or.inl ⟨1, by decide +kernel, rfl, rfl⟩
theorem iL_law_574 : zIs mL_law 574 (.invokevirtual 78) 3 577 := ⟨by decide +kernel, rfl⟩
theorem iL_law_577 : zLa mL_law 577 2 578 := Or.inl ⟨2, by decide +kernel, rfl, rfl⟩
theorem iL_law_578 : zIs mL_law 578 (.invokevirtual 81) 3 581 := ⟨by decide +kernel, rfl⟩
theorem iL_law_581 : zBr mL_law 581 (.if_icmp .eq) 959 584 := ⟨378, by decide +kernel, by decide, rfl⟩
theorem iL_law_584 : zPi mL_law 584 0 585 := Or.inl ⟨0, by decide +kernel, by decide, rfl⟩
theorem iL_law_585 : zIs mL_law 585 (.ireturn) 1 586 := ⟨by decide +kernel, rfl⟩
theorem iL_law_586 : zLa mL_law 586 1 587 := Or.inl ⟨1, by decide +kernel, rfl, rfl⟩
theorem iL_law_587 : zIs mL_law 587 (.invokevirtual 82) 3 590 := ⟨by decide +kernel, rfl⟩
theorem iL_law_590 : zLa mL_law 590 2 591 := Or.inl ⟨2, by decide +kernel, rfl, rfl⟩
theorem iL_law_591 : zIs mL_law 591 (.invokevirtual 85) 3 594 := ⟨by decide +kernel, rfl⟩
theorem iL_law_594 : zBr mL_law 594 (.if_icmp .eq) 959 597 := ⟨365, by decide +kernel, by decide, rfl⟩
theorem iL_law_597 : zPi mL_law 597 0 598 := Or.inl ⟨0, by decide +kernel, by decide, rfl⟩
theorem iL_law_598 : zIs mL_law 598 (.ireturn) 1 599 := ⟨by decide +kernel, rfl⟩
theorem iL_law_599 : zLa mL_law 599 1 600 := Or.inl ⟨1, by decide +kernel, rfl, rfl⟩
theorem iL_law_600 : zLa mL_law 600 0 601 := Or.inl ⟨0, by decide +kernel, rfl, rfl⟩
theorem iL_law_601 : zLi mL_law 601 3 602 := Or.inl ⟨3, by decide +kernel, rfl, rfl⟩
theorem iL_law_602 : zPi mL_law 602 1 603 := Or.inl ⟨1, by decide +kernel, by decide, rfl⟩
theorem iL_law_603 : zIs mL_law 603 (.iadd) 1 604 := ⟨by decide +kernel, rfl⟩
theorem iL_law_604 : zIs mL_law 604 (.iaload) 1 605 := ⟨by decide +kernel, rfl⟩
theorem iL_law_605 : zLa mL_law 605 0 606 := Or.inl ⟨0, by decide +kernel, rfl, rfl⟩
theorem iL_law_606 : zLi mL_law 606 3 607 := Or.inl ⟨3, by decide +kernel, rfl, rfl⟩
theorem iL_law_607 : zPi mL_law 607 2 608 := Or.inl ⟨2, by decide +kernel, by decide, rfl⟩
theorem iL_law_608 : zIs mL_law 608 (.iadd) 1 609 := ⟨by decide +kernel, rfl⟩
theorem iL_law_609 : zIs mL_law 609 (.iaload) 1 610 := ⟨by decide +kernel, rfl⟩
theorem iL_law_610 : zIs mL_law 610 (.invokevirtual 86) 3 613 := ⟨by decide +kernel, rfl⟩
theorem iL_law_613 : zLa mL_law 613 2 614 := Or.inl ⟨2, by decide +kernel, rfl, rfl⟩
theorem iL_law_614 : zLa mL_law 614 0 615 := Or.inl ⟨0, by decide +kernel, rfl, rfl⟩
theorem iL_law_615 : zLi mL_law 615 3 616 := Or.inl ⟨3, by decide +kernel, rfl, rfl⟩
theorem iL_law_616 : zPi mL_law 616 1 617 := Or.inl ⟨1, by decide +kernel, by decide, rfl⟩
theorem iL_law_617 : zIs mL_law 617 (.iadd) 1 618 := ⟨by decide +kernel, rfl⟩
theorem iL_law_618 : zIs mL_law 618 (.iaload) 1 619 := ⟨by decide +kernel, rfl⟩
theorem iL_law_619 : zLa mL_law 619 0 620 := Or.inl ⟨0, by decide +kernel, rfl, rfl⟩
theorem iL_law_620 : zLi mL_law 620 3 621 := Or.inl ⟨3, by decide +kernel, rfl, rfl⟩
theorem iL_law_621 : zPi mL_law 621 2 622 := Or.inl ⟨2, by decide +kernel, by decide, rfl⟩
theorem iL_law_622 : zIs mL_law 622 (.iadd) 1 623 := ⟨by decide +kernel, rfl⟩
theorem iL_law_623 : zIs mL_law 623 (.iaload) 1 624 := ⟨by decide +kernel, rfl⟩
theorem iL_law_624 : zIs mL_law 624 (.invokevirtual 89) 3 627 := ⟨by decide +kernel, rfl⟩
theorem iL_law_627 : zBr mL_law 627 (.if_icmp .eq) 959 630 := ⟨332, by decide +kernel, by decide, rfl⟩
theorem iL_law_630 : zPi mL_law 630 0 631 := Or.inl ⟨0, by decide +kernel, by decide, rfl⟩
theorem iL_law_631 : zIs mL_law 631 (.ireturn) 1 632 := ⟨by decide +kernel, rfl⟩
theorem iL_law_632 : zLa mL_law 632 1 633 := Or.inl ⟨1, by decide +kernel, rfl, rfl⟩
theorem iL_law_633 : zLa mL_law 633 0 634 := Or.inl ⟨0, by decide +kernel, rfl, rfl⟩
theorem iL_law_634 : zLi mL_law 634 3 635 := Or.inl ⟨3, by decide +kernel, rfl, rfl⟩
theorem iL_law_635 : zPi mL_law 635 1 636 := Or.inl ⟨1, by decide +kernel, by decide, rfl⟩
theorem iL_law_636 : zIs mL_law 636 (.iadd) 1 637 := ⟨by decide +kernel, rfl⟩
theorem iL_law_637 : zIs mL_law 637 (.iaload) 1 638 := ⟨by decide +kernel, rfl⟩
theorem iL_law_638 : zLa mL_law 638 0 639 := Or.inl ⟨0, by decide +kernel, rfl, rfl⟩
theorem iL_law_639 : zLi mL_law 639 3 640 := Or.inl ⟨3, by decide +kernel, rfl, rfl⟩
theorem iL_law_640 : zPi mL_law 640 2 641 := Or.inl ⟨2, by decide +kernel, by decide, rfl⟩
theorem iL_law_641 : zIs mL_law 641 (.iadd) 1 642 := ⟨by decide +kernel, rfl⟩
theorem iL_law_642 : zIs mL_law 642 (.iaload) 1 643 := ⟨by decide +kernel, rfl⟩
theorem iL_law_643 : zIs mL_law 643 (.invokevirtual 90) 3 646 := ⟨by decide +kernel, rfl⟩
theorem iL_law_646 : zLa mL_law 646 2 647 := Or.inl ⟨2, by decide +kernel, rfl, rfl⟩
theorem iL_law_647 : zLa mL_law 647 0 648 := Or.inl ⟨0, by decide +kernel, rfl, rfl⟩
theorem iL_law_648 : zLi mL_law 648 3 649 := Or.inl ⟨3, by decide +kernel, rfl, rfl⟩
theorem iL_law_649 : zPi mL_law 649 1 650 := Or.inl ⟨1, by decide +kernel, by decide, rfl⟩
theorem iL_law_650 : zIs mL_law 650 (.iadd) 1 651 := ⟨by decide +kernel, rfl⟩
theorem iL_law_651 : zIs mL_law 651 (.iaload) 1 652 := ⟨by decide +kernel, rfl⟩
theorem iL_law_652 : zLa mL_law 652 0 653 := Or.inl ⟨0, by decide +kernel, rfl, rfl⟩
theorem iL_law_653 : zLi mL_law 653 3 654 := Or.inl ⟨3, by decide +kernel, rfl, rfl⟩
theorem iL_law_654 : zPi mL_law 654 2 655 := Or.inl ⟨2, by decide +kernel, by decide, rfl⟩
theorem iL_law_655 : zIs mL_law 655 (.iadd) 1 656 := ⟨by decide +kernel, rfl⟩
theorem iL_law_656 : zIs mL_law 656 (.iaload) 1 657 := ⟨by decide +kernel, rfl⟩
theorem iL_law_657 : zIs mL_law 657 (.invokevirtual 93) 3 660 := ⟨by decide +kernel, rfl⟩
theorem iL_law_660 : zBr mL_law 660 (.if_icmp .eq) 959 663 := ⟨299, by decide +kernel, by decide, rfl⟩
theorem iL_law_663 : zPi mL_law 663 0 664 := Or.inl ⟨0, by decide +kernel, by decide, rfl⟩
theorem iL_law_664 : zIs mL_law 664 (.ireturn) 1 665 := ⟨by decide +kernel, rfl⟩
theorem iL_law_665 : zLa mL_law 665 1 666 := Or.inl ⟨1, by decide +kernel, rfl, rfl⟩
theorem iL_law_666 : zLa mL_law 666 0 667 := Or.inl ⟨0, by decide +kernel, rfl, rfl⟩
theorem iL_law_667 : zLi mL_law 667 3 668 := Or.inl ⟨3, by decide +kernel, rfl, rfl⟩
theorem iL_law_668 : zPi mL_law 668 1 669 := Or.inl ⟨1, by decide +kernel, by decide, rfl⟩
theorem iL_law_669 : zIs mL_law 669 (.iadd) 1 670 := ⟨by decide +kernel, rfl⟩
theorem iL_law_670 : zIs mL_law 670 (.iaload) 1 671 := ⟨by decide +kernel, rfl⟩
theorem iL_law_671 : zLa mL_law 671 0 672 := Or.inl ⟨0, by decide +kernel, rfl, rfl⟩
theorem iL_law_672 : zLi mL_law 672 3 673 := Or.inl ⟨3, by decide +kernel, rfl, rfl⟩
theorem iL_law_673 : zPi mL_law 673 2 674 := Or.inl ⟨2, by decide +kernel, by decide, rfl⟩
theorem iL_law_674 : zIs mL_law 674 (.iadd) 1 675 := ⟨by decide +kernel, rfl⟩
theorem iL_law_675 : zIs mL_law 675 (.iaload) 1 676 := ⟨by decide +kernel, rfl⟩
theorem iL_law_676 : zIs mL_law 676 (.invokevirtual 94) 3 679 := ⟨by decide +kernel, rfl⟩
theorem iL_law_679 : zLa mL_law 679 2 680 := Or.inl ⟨2, by decide +kernel, rfl, rfl⟩
theorem iL_law_680 : zLa mL_law 680 0 681 := Or.inl ⟨0, by decide +kernel, rfl, rfl⟩
theorem iL_law_681 : zLi mL_law 681 3 682 := Or.inl ⟨3, by decide +kernel, rfl, rfl⟩
theorem iL_law_682 : zPi mL_law 682 1 683 := Or.inl ⟨1, by decide +kernel, by decide, rfl⟩
theorem iL_law_683 : zIs mL_law 683 (.iadd) 1 684 := ⟨by decide +kernel, rfl⟩
theorem iL_law_684 : zIs mL_law 684 (.iaload) 1 685 := ⟨by decide +kernel, rfl⟩
theorem iL_law_685 : zLa mL_law 685 0 686 := Or.inl ⟨0, by decide +kernel, rfl, rfl⟩
theorem iL_law_686 : zLi mL_law 686 3 687 := Or.inl ⟨3, by decide +kernel, rfl, rfl⟩
theorem iL_law_687 : zPi mL_law 687 2 688 := Or.inl ⟨2, by decide +kernel, by decide, rfl⟩
theorem iL_law_688 : zIs mL_law 688 (.iadd) 1 689 := ⟨by decide +kernel, rfl⟩
theorem iL_law_689 : zIs mL_law 689 (.iaload) 1 690 := ⟨by decide +kernel, rfl⟩
theorem iL_law_690 : zIs mL_law 690 (.invokevirtual 97) 3 693 := ⟨by decide +kernel, rfl⟩
theorem iL_law_693 : zBr mL_law 693 (.if_icmp .eq) 959 696 := ⟨266, by decide +kernel, by decide, rfl⟩
theorem iL_law_696 : zPi mL_law 696 0 697 := Or.inl ⟨0, by decide +kernel, by decide, rfl⟩
theorem iL_law_697 : zIs mL_law 697 (.ireturn) 1 698 := ⟨by decide +kernel, rfl⟩
theorem iL_law_698 : zLa mL_law 698 1 699 := Or.inl ⟨1, by decide +kernel, rfl, rfl⟩
theorem iL_law_699 : zLa mL_law 699 0 700 := Or.inl ⟨0, by decide +kernel, rfl, rfl⟩
theorem iL_law_700 : zLi mL_law 700 3 701 := Or.inl ⟨3, by decide +kernel, rfl, rfl⟩
theorem iL_law_701 : zPi mL_law 701 1 702 := Or.inl ⟨1, by decide +kernel, by decide, rfl⟩
theorem iL_law_702 : zIs mL_law 702 (.iadd) 1 703 := ⟨by decide +kernel, rfl⟩
theorem iL_law_703 : zIs mL_law 703 (.iaload) 1 704 := ⟨by decide +kernel, rfl⟩
theorem iL_law_704 : zLa mL_law 704 0 705 := Or.inl ⟨0, by decide +kernel, rfl, rfl⟩
theorem iL_law_705 : zLi mL_law 705 3 706 := Or.inl ⟨3, by decide +kernel, rfl, rfl⟩
theorem iL_law_706 : zPi mL_law 706 2 707 := Or.inl ⟨2, by decide +kernel, by decide, rfl⟩
theorem iL_law_707 : zIs mL_law 707 (.iadd) 1 708 := ⟨by decide +kernel, rfl⟩
theorem iL_law_708 : zIs mL_law 708 (.iaload) 1 709 := ⟨by decide +kernel, rfl⟩
theorem iL_law_709 : zIs mL_law 709 (.invokevirtual 98) 3 712 := ⟨by decide +kernel, rfl⟩
theorem iL_law_712 : zLa mL_law 712 2 713 := Or.inl ⟨2, by decide +kernel, rfl, rfl⟩
theorem iL_law_713 : zLa mL_law 713 0 714 := Or.inl ⟨0, by decide +kernel, rfl, rfl⟩
theorem iL_law_714 : zLi mL_law 714 3 715 := Or.inl ⟨3, by decide +kernel, rfl, rfl⟩
theorem iL_law_715 : zPi mL_law 715 1 716 := Or.inl ⟨1, by decide +kernel, by decide, rfl⟩
theorem iL_law_716 : zIs mL_law 716 (.iadd) 1 717 := ⟨by decide +kernel, rfl⟩
theorem iL_law_717 : zIs mL_law 717 (.iaload) 1 718 := ⟨by decide +kernel, rfl⟩
theorem iL_law_718 : zLa mL_law 718 0 719 := Or.inl ⟨0, by decide +kernel, rfl, rfl⟩
theorem iL_law_719 : zLi mL_law 719 3 720 := Or.inl ⟨3, by decide +kernel, rfl, rfl⟩
theorem iL_law_720 : zPi mL_law 720 2 721 := Or.inl ⟨2, by decide +kernel, by decide, rfl⟩
theorem iL_law_721 : zIs mL_law 721 (.iadd) 1 722 := ⟨by decide +kernel, rfl⟩
theorem iL_law_722 : zIs mL_law 722 (.iaload) 1 723 := ⟨by decide +kernel, rfl⟩
theorem iL_law_723 : zIs mL_law 723 (.invokevirtual 101) 3 726 := ⟨by decide +kernel, rfl⟩
theorem iL_law_726 : zBr mL_law 726 (.if_icmp .eq) 959 729 := ⟨233, by decide +kernel, by decide, rfl⟩
theorem iL_law_729 : zPi mL_law 729 0 730 := Or.inl ⟨0, by decide +kernel, by decide, rfl⟩
theorem iL_law_730 : zIs mL_law 730 (.ireturn) 1 731 := ⟨by decide +kernel, rfl⟩
theorem iL_law_731 : zLa mL_law 731 1 732 := Or.inl ⟨1, by decide +kernel, rfl, rfl⟩
theorem iL_law_732 : zLa mL_law 732 0 733 := Or.inl ⟨0, by decide +kernel, rfl, rfl⟩
theorem iL_law_733 : zLi mL_law 733 3 734 := Or.inl ⟨3, by decide +kernel, rfl, rfl⟩
theorem iL_law_734 : zPi mL_law 734 1 735 := Or.inl ⟨1, by decide +kernel, by decide, rfl⟩
theorem iL_law_735 : zIs mL_law 735 (.iadd) 1 736 := ⟨by decide +kernel, rfl⟩
theorem iL_law_736 : zIs mL_law 736 (.iaload) 1 737 := ⟨by decide +kernel, rfl⟩
theorem iL_law_737 : zIs mL_law 737 (.invokevirtual 102) 3 740 := ⟨by decide +kernel, rfl⟩
theorem iL_law_740 : zLa mL_law 740 2 741 := Or.inl ⟨2, by decide +kernel, rfl, rfl⟩
theorem iL_law_741 : zLa mL_law 741 0 742 := Or.inl ⟨0, by decide +kernel, rfl, rfl⟩
theorem iL_law_742 : zLi mL_law 742 3 743 := Or.inl ⟨3, by decide +kernel, rfl, rfl⟩
theorem iL_law_743 : zPi mL_law 743 1 744 := Or.inl ⟨1, by decide +kernel, by decide, rfl⟩
theorem iL_law_744 : zIs mL_law 744 (.iadd) 1 745 := ⟨by decide +kernel, rfl⟩
theorem iL_law_745 : zIs mL_law 745 (.iaload) 1 746 := ⟨by decide +kernel, rfl⟩
theorem iL_law_746 : zIs mL_law 746 (.invokevirtual 105) 3 749 := ⟨by decide +kernel, rfl⟩
theorem iL_law_749 : zBr mL_law 749 (.if_icmp .eq) 959 752 := ⟨210, by decide +kernel, by decide, rfl⟩
theorem iL_law_752 : zPi mL_law 752 0 753 := Or.inl ⟨0, by decide +kernel, by decide, rfl⟩
theorem iL_law_753 : zIs mL_law 753 (.ireturn) 1 754 := ⟨by decide +kernel, rfl⟩
theorem iL_law_754 : zLa mL_law 754 1 755 := Or.inl ⟨1, by decide +kernel, rfl, rfl⟩
theorem iL_law_755 : zLa mL_law 755 0 756 := Or.inl ⟨0, by decide +kernel, rfl, rfl⟩
theorem iL_law_756 : zLi mL_law 756 3 757 := Or.inl ⟨3, by decide +kernel, rfl, rfl⟩
theorem iL_law_757 : zPi mL_law 757 1 758 := Or.inl ⟨1, by decide +kernel, by decide, rfl⟩
theorem iL_law_758 : zIs mL_law 758 (.iadd) 1 759 := ⟨by decide +kernel, rfl⟩
theorem iL_law_759 : zIs mL_law 759 (.iaload) 1 760 := ⟨by decide +kernel, rfl⟩
theorem iL_law_760 : zLa mL_law 760 0 761 := Or.inl ⟨0, by decide +kernel, rfl, rfl⟩
theorem iL_law_761 : zLi mL_law 761 3 762 := Or.inl ⟨3, by decide +kernel, rfl, rfl⟩
theorem iL_law_762 : zPi mL_law 762 2 763 := Or.inl ⟨2, by decide +kernel, by decide, rfl⟩
theorem iL_law_763 : zIs mL_law 763 (.iadd) 1 764 := ⟨by decide +kernel, rfl⟩
theorem iL_law_764 : zIs mL_law 764 (.iaload) 1 765 := ⟨by decide +kernel, rfl⟩
theorem iL_law_765 : zIs mL_law 765 (.invokevirtual 106) 3 768 := ⟨by decide +kernel, rfl⟩
theorem iL_law_768 : zLa mL_law 768 2 769 := Or.inl ⟨2, by decide +kernel, rfl, rfl⟩
theorem iL_law_769 : zLa mL_law 769 0 770 := Or.inl ⟨0, by decide +kernel, rfl, rfl⟩
theorem iL_law_770 : zLi mL_law 770 3 771 := Or.inl ⟨3, by decide +kernel, rfl, rfl⟩
theorem iL_law_771 : zPi mL_law 771 1 772 := Or.inl ⟨1, by decide +kernel, by decide, rfl⟩
theorem iL_law_772 : zIs mL_law 772 (.iadd) 1 773 := ⟨by decide +kernel, rfl⟩
theorem iL_law_773 : zIs mL_law 773 (.iaload) 1 774 := ⟨by decide +kernel, rfl⟩
theorem iL_law_774 : zLa mL_law 774 0 775 := Or.inl ⟨0, by decide +kernel, rfl, rfl⟩
theorem iL_law_775 : zLi mL_law 775 3 776 := Or.inl ⟨3, by decide +kernel, rfl, rfl⟩
theorem iL_law_776 : zPi mL_law 776 2 777 := Or.inl ⟨2, by decide +kernel, by decide, rfl⟩
theorem iL_law_777 : zIs mL_law 777 (.iadd) 1 778 := ⟨by decide +kernel, rfl⟩
theorem iL_law_778 : zIs mL_law 778 (.iaload) 1 779 := ⟨by decide +kernel, rfl⟩
theorem iL_law_779 : zIs mL_law 779 (.invokevirtual 109) 3 782 := ⟨by decide +kernel, rfl⟩
theorem iL_law_782 : zBr mL_law 782 (.if_icmp .eq) 959 785 := ⟨177, by decide +kernel, by decide, rfl⟩
theorem iL_law_785 : zPi mL_law 785 0 786 := Or.inl ⟨0, by decide +kernel, by decide, rfl⟩
theorem iL_law_786 : zIs mL_law 786 (.ireturn) 1 787 := ⟨by decide +kernel, rfl⟩
theorem iL_law_787 : zLa mL_law 787 1 788 := Or.inl ⟨1, by decide +kernel, rfl, rfl⟩
theorem iL_law_788 : zLa mL_law 788 0 789 := Or.inl ⟨0, by decide +kernel, rfl, rfl⟩
theorem iL_law_789 : zLi mL_law 789 3 790 := Or.inl ⟨3, by decide +kernel, rfl, rfl⟩
theorem iL_law_790 : zPi mL_law 790 1 791 := Or.inl ⟨1, by decide +kernel, by decide, rfl⟩
theorem iL_law_791 : zIs mL_law 791 (.iadd) 1 792 := ⟨by decide +kernel, rfl⟩
theorem iL_law_792 : zIs mL_law 792 (.iaload) 1 793 := ⟨by decide +kernel, rfl⟩
theorem iL_law_793 : zIs mL_law 793 (.invokevirtual 110) 3 796 := ⟨by decide +kernel, rfl⟩
theorem iL_law_796 : zLa mL_law 796 2 797 := Or.inl ⟨2, by decide +kernel, rfl, rfl⟩
theorem iL_law_797 : zLa mL_law 797 0 798 := Or.inl ⟨0, by decide +kernel, rfl, rfl⟩
theorem iL_law_798 : zLi mL_law 798 3 799 := Or.inl ⟨3, by decide +kernel, rfl, rfl⟩
theorem iL_law_799 : zPi mL_law 799 1 800 := Or.inl ⟨1, by decide +kernel, by decide, rfl⟩
theorem iL_law_800 : zIs mL_law 800 (.iadd) 1 801 := ⟨by decide +kernel, rfl⟩
theorem iL_law_801 : zIs mL_law 801 (.iaload) 1 802 := ⟨by decide +kernel, rfl⟩
theorem iL_law_802 : zIs mL_law 802 (.invokevirtual 113) 3 805 := ⟨by decide +kernel, rfl⟩
theorem iL_law_805 : zBr mL_law 805 (.if_icmp .eq) 959 808 := ⟨154, by decide +kernel, by decide, rfl⟩
theorem iL_law_808 : zPi mL_law 808 0 809 := Or.inl ⟨0, by decide +kernel, by decide, rfl⟩
theorem iL_law_809 : zIs mL_law 809 (.ireturn) 1 810 := ⟨by decide +kernel, rfl⟩
theorem iL_law_810 : zLa mL_law 810 1 811 := Or.inl ⟨1, by decide +kernel, rfl, rfl⟩
theorem iL_law_811 : zLa mL_law 811 0 812 := Or.inl ⟨0, by decide +kernel, rfl, rfl⟩
theorem iL_law_812 : zLi mL_law 812 3 813 := Or.inl ⟨3, by decide +kernel, rfl, rfl⟩
theorem iL_law_813 : zPi mL_law 813 1 814 := Or.inl ⟨1, by decide +kernel, by decide, rfl⟩
theorem iL_law_814 : zIs mL_law 814 (.iadd) 1 815 := ⟨by decide +kernel, rfl⟩
theorem iL_law_815 : zIs mL_law 815 (.iaload) 1 816 := ⟨by decide +kernel, rfl⟩
theorem iL_law_816 : zLa mL_law 816 0 817 := Or.inl ⟨0, by decide +kernel, rfl, rfl⟩
theorem iL_law_817 : zLi mL_law 817 3 818 := Or.inl ⟨3, by decide +kernel, rfl, rfl⟩
theorem iL_law_818 : zPi mL_law 818 2 819 := Or.inl ⟨2, by decide +kernel, by decide, rfl⟩
theorem iL_law_819 : zIs mL_law 819 (.iadd) 1 820 := ⟨by decide +kernel, rfl⟩
theorem iL_law_820 : zIs mL_law 820 (.iaload) 1 821 := ⟨by decide +kernel, rfl⟩
theorem iL_law_821 : zIs mL_law 821 (.invokevirtual 114) 3 824 := ⟨by decide +kernel, rfl⟩
theorem iL_law_824 : zLa mL_law 824 2 825 := Or.inl ⟨2, by decide +kernel, rfl, rfl⟩
theorem iL_law_825 : zLa mL_law 825 0 826 := Or.inl ⟨0, by decide +kernel, rfl, rfl⟩
theorem iL_law_826 : zLi mL_law 826 3 827 := Or.inl ⟨3, by decide +kernel, rfl, rfl⟩
theorem iL_law_827 : zPi mL_law 827 1 828 := Or.inl ⟨1, by decide +kernel, by decide, rfl⟩
theorem iL_law_828 : zIs mL_law 828 (.iadd) 1 829 := ⟨by decide +kernel, rfl⟩
theorem iL_law_829 : zIs mL_law 829 (.iaload) 1 830 := ⟨by decide +kernel, rfl⟩
theorem iL_law_830 : zLa mL_law 830 0 831 := Or.inl ⟨0, by decide +kernel, rfl, rfl⟩
theorem iL_law_831 : zLi mL_law 831 3 832 := Or.inl ⟨3, by decide +kernel, rfl, rfl⟩
theorem iL_law_832 : zPi mL_law 832 2 833 := Or.inl ⟨2, by decide +kernel, by decide, rfl⟩
theorem iL_law_833 : zIs mL_law 833 (.iadd) 1 834 := ⟨by decide +kernel, rfl⟩
theorem iL_law_834 : zIs mL_law 834 (.iaload) 1 835 := ⟨by decide +kernel, rfl⟩
theorem iL_law_835 : zIs mL_law 835 (.invokevirtual 117) 3 838 := ⟨by decide +kernel, rfl⟩
theorem iL_law_838 : zBr mL_law 838 (.if_icmp .eq) 959 841 := ⟨121, by decide +kernel, by decide, rfl⟩
theorem iL_law_841 : zPi mL_law 841 0 842 := Or.inl ⟨0, by decide +kernel, by decide, rfl⟩
theorem iL_law_842 : zIs mL_law 842 (.ireturn) 1 843 := ⟨by decide +kernel, rfl⟩
theorem iL_law_843 : zLa mL_law 843 1 844 := Or.inl ⟨1, by decide +kernel, rfl, rfl⟩
theorem iL_law_844 : zLa mL_law 844 0 845 := Or.inl ⟨0, by decide +kernel, rfl, rfl⟩
theorem iL_law_845 : zLi mL_law 845 3 846 := Or.inl ⟨3, by decide +kernel, rfl, rfl⟩
theorem iL_law_846 : zPi mL_law 846 1 847 := Or.inl ⟨1, by decide +kernel, by decide, rfl⟩
theorem iL_law_847 : zIs mL_law 847 (.iadd) 1 848 := ⟨by decide +kernel, rfl⟩
theorem iL_law_848 : zIs mL_law 848 (.iaload) 1 849 := ⟨by decide +kernel, rfl⟩
theorem iL_law_849 : zLa mL_law 849 0 850 := Or.inl ⟨0, by decide +kernel, rfl, rfl⟩
theorem iL_law_850 : zLi mL_law 850 3 851 := Or.inl ⟨3, by decide +kernel, rfl, rfl⟩
theorem iL_law_851 : zPi mL_law 851 2 852 := Or.inl ⟨2, by decide +kernel, by decide, rfl⟩
theorem iL_law_852 : zIs mL_law 852 (.iadd) 1 853 := ⟨by decide +kernel, rfl⟩
theorem iL_law_853 : zIs mL_law 853 (.iaload) 1 854 := ⟨by decide +kernel, rfl⟩
theorem iL_law_854 : zIs mL_law 854 (.invokevirtual 118) 3 857 := ⟨by decide +kernel, rfl⟩
theorem iL_law_857 : zLa mL_law 857 2 858 := Or.inl ⟨2, by decide +kernel, rfl, rfl⟩
theorem iL_law_858 : zLa mL_law 858 0 859 := Or.inl ⟨0, by decide +kernel, rfl, rfl⟩
theorem iL_law_859 : zLi mL_law 859 3 860 := Or.inl ⟨3, by decide +kernel, rfl, rfl⟩
theorem iL_law_860 : zPi mL_law 860 1 861 := Or.inl ⟨1, by decide +kernel, by decide, rfl⟩
theorem iL_law_861 : zIs mL_law 861 (.iadd) 1 862 := ⟨by decide +kernel, rfl⟩
theorem iL_law_862 : zIs mL_law 862 (.iaload) 1 863 := ⟨by decide +kernel, rfl⟩
theorem iL_law_863 : zLa mL_law 863 0 864 := Or.inl ⟨0, by decide +kernel, rfl, rfl⟩
theorem iL_law_864 : zLi mL_law 864 3 865 := Or.inl ⟨3, by decide +kernel, rfl, rfl⟩
theorem iL_law_865 : zPi mL_law 865 2 866 := Or.inl ⟨2, by decide +kernel, by decide, rfl⟩
theorem iL_law_866 : zIs mL_law 866 (.iadd) 1 867 := ⟨by decide +kernel, rfl⟩
theorem iL_law_867 : zIs mL_law 867 (.iaload) 1 868 := ⟨by decide +kernel, rfl⟩
theorem iL_law_868 : zIs mL_law 868 (.invokevirtual 121) 3 871 := ⟨by decide +kernel, rfl⟩
theorem iL_law_871 : zBr mL_law 871 (.if_icmp .eq) 959 874 := ⟨88, by decide +kernel, by decide, rfl⟩
theorem iL_law_874 : zPi mL_law 874 0 875 := Or.inl ⟨0, by decide +kernel, by decide, rfl⟩
theorem iL_law_875 : zIs mL_law 875 (.ireturn) 1 876 := ⟨by decide +kernel, rfl⟩
theorem iL_law_876 : zLa mL_law 876 1 877 := Or.inl ⟨1, by decide +kernel, rfl, rfl⟩
theorem iL_law_877 : zLa mL_law 877 0 878 := Or.inl ⟨0, by decide +kernel, rfl, rfl⟩
theorem iL_law_878 : zLi mL_law 878 3 879 := Or.inl ⟨3, by decide +kernel, rfl, rfl⟩
theorem iL_law_879 : zPi mL_law 879 1 880 := Or.inl ⟨1, by decide +kernel, by decide, rfl⟩
theorem iL_law_880 : zIs mL_law 880 (.iadd) 1 881 := ⟨by decide +kernel, rfl⟩
theorem iL_law_881 : zIs mL_law 881 (.iaload) 1 882 := ⟨by decide +kernel, rfl⟩
theorem iL_law_882 : zLa mL_law 882 0 883 := Or.inl ⟨0, by decide +kernel, rfl, rfl⟩
theorem iL_law_883 : zLi mL_law 883 3 884 := Or.inl ⟨3, by decide +kernel, rfl, rfl⟩
theorem iL_law_884 : zPi mL_law 884 2 885 := Or.inl ⟨2, by decide +kernel, by decide, rfl⟩
theorem iL_law_885 : zIs mL_law 885 (.iadd) 1 886 := ⟨by decide +kernel, rfl⟩
theorem iL_law_886 : zIs mL_law 886 (.iaload) 1 887 := ⟨by decide +kernel, rfl⟩
theorem iL_law_887 : zIs mL_law 887 (.invokevirtual 122) 3 890 := ⟨by decide +kernel, rfl⟩
theorem iL_law_890 : zLa mL_law 890 2 891 := Or.inl ⟨2, by decide +kernel, rfl, rfl⟩
theorem iL_law_891 : zLa mL_law 891 0 892 := Or.inl ⟨0, by decide +kernel, rfl, rfl⟩
theorem iL_law_892 : zLi mL_law 892 3 893 := Or.inl ⟨3, by decide +kernel, rfl, rfl⟩
theorem iL_law_893 : zPi mL_law 893 1 894 := Or.inl ⟨1, by decide +kernel, by decide, rfl⟩
theorem iL_law_894 : zIs mL_law 894 (.iadd) 1 895 := ⟨by decide +kernel, rfl⟩
theorem iL_law_895 : zIs mL_law 895 (.iaload) 1 896 := ⟨by decide +kernel, rfl⟩
theorem iL_law_896 : zLa mL_law 896 0 897 := Or.inl ⟨0, by decide +kernel, rfl, rfl⟩
theorem iL_law_897 : zLi mL_law 897 3 898 := Or.inl ⟨3, by decide +kernel, rfl, rfl⟩
theorem iL_law_898 : zPi mL_law 898 2 899 := Or.inl ⟨2, by decide +kernel, by decide, rfl⟩
theorem iL_law_899 : zIs mL_law 899 (.iadd) 1 900 := ⟨by decide +kernel, rfl⟩
theorem iL_law_900 : zIs mL_law 900 (.iaload) 1 901 := ⟨by decide +kernel, rfl⟩
theorem iL_law_901 : zIs mL_law 901 (.invokevirtual 125) 3 904 := ⟨by decide +kernel, rfl⟩
theorem iL_law_904 : zBr mL_law 904 (.if_icmp .eq) 959 907 := ⟨55, by decide +kernel, by decide, rfl⟩
theorem iL_law_907 : zPi mL_law 907 0 908 := Or.inl ⟨0, by decide +kernel, by decide, rfl⟩
theorem iL_law_908 : zIs mL_law 908 (.ireturn) 1 909 := ⟨by decide +kernel, rfl⟩
theorem iL_law_909 : zLa mL_law 909 1 910 := Or.inl ⟨1, by decide +kernel, rfl, rfl⟩
theorem iL_law_910 : zIs mL_law 910 (.invokevirtual 126) 3 913 := ⟨by decide +kernel, rfl⟩
theorem iL_law_913 : zLa mL_law 913 2 914 := Or.inl ⟨2, by decide +kernel, rfl, rfl⟩
theorem iL_law_914 : zIs mL_law 914 (.invokevirtual 129) 3 917 := ⟨by decide +kernel, rfl⟩
theorem iL_law_917 : zBr mL_law 917 (.if_icmp .eq) 959 920 := ⟨42, by decide +kernel, by decide, rfl⟩
theorem iL_law_920 : zPi mL_law 920 0 921 := Or.inl ⟨0, by decide +kernel, by decide, rfl⟩
theorem iL_law_921 : zIs mL_law 921 (.ireturn) 1 922 := ⟨by decide +kernel, rfl⟩
theorem iL_law_922 : zLa mL_law 922 1 923 := Or.inl ⟨1, by decide +kernel, rfl, rfl⟩
theorem iL_law_923 : zLa mL_law 923 0 924 := Or.inl ⟨0, by decide +kernel, rfl, rfl⟩
theorem iL_law_924 : zLi mL_law 924 3 925 := Or.inl ⟨3, by decide +kernel, rfl, rfl⟩
theorem iL_law_925 : zPi mL_law 925 1 926 := Or.inl ⟨1, by decide +kernel, by decide, rfl⟩
theorem iL_law_926 : zIs mL_law 926 (.iadd) 1 927 := ⟨by decide +kernel, rfl⟩
theorem iL_law_927 : zIs mL_law 927 (.iaload) 1 928 := ⟨by decide +kernel, rfl⟩
theorem iL_law_928 : zIs mL_law 928 (.invokevirtual 130) 3 931 := ⟨by decide +kernel, rfl⟩
theorem iL_law_931 : zLa mL_law 931 2 932 := Or.inl ⟨2, by decide +kernel, rfl, rfl⟩
theorem iL_law_932 : zLa mL_law 932 0 933 := Or.inl ⟨0, by decide +kernel, rfl, rfl⟩
theorem iL_law_933 : zLi mL_law 933 3 934 := Or.inl ⟨3, by decide +kernel, rfl, rfl⟩
theorem iL_law_934 : zPi mL_law 934 1 935 := Or.inl ⟨1, by decide +kernel, by decide, rfl⟩
theorem iL_law_935 : zIs mL_law 935 (.iadd) 1 936 := ⟨by decide +kernel, rfl⟩
theorem iL_law_936 : zIs mL_law 936 (.iaload) 1 937 := ⟨by decide +kernel, rfl⟩
theorem iL_law_937 : zIs mL_law 937 (.invokevirtual 133) 3 940 := ⟨by decide +kernel, rfl⟩
theorem iL_law_940 : zBr mL_law 940 (.if_icmp .eq) 959 943 := ⟨19, by decide +kernel, by decide, rfl⟩
theorem iL_law_943 : zPi mL_law 943 0 944 := Or.inl ⟨0, by decide +kernel, by decide, rfl⟩
theorem iL_law_944 : zIs mL_law 944 (.ireturn) 1 945 := ⟨by decide +kernel, rfl⟩
theorem iL_law_945 : zLa mL_law 945 1 946 := Or.inl ⟨1, by decide +kernel, rfl, rfl⟩
theorem iL_law_946 : zIs mL_law 946 (.invokevirtual 134) 3 949 := ⟨by decide +kernel, rfl⟩
theorem iL_law_949 : zLa mL_law 949 2 950 := Or.inl ⟨2, by decide +kernel, rfl, rfl⟩
theorem iL_law_950 : zIs mL_law 950 (.invokevirtual 138) 3 953 := ⟨by decide +kernel, rfl⟩
theorem iL_law_953 : zIs mL_law 953 (.lcmp) 1 954 := ⟨by decide +kernel, rfl⟩
theorem iL_law_954 : zBr mL_law 954 (.ifCond .eq) 959 957 := ⟨5, by decide +kernel, by decide, rfl⟩
theorem iL_law_957 : zPi mL_law 957 0 958 := Or.inl ⟨0, by decide +kernel, by decide, rfl⟩
theorem iL_law_958 : zIs mL_law 958 (.ireturn) 1 959 := ⟨by decide +kernel, rfl⟩
theorem iL_law_959 : zIs mL_law 959 (.iinc 3 5) 3 962 := ⟨by decide +kernel, rfl⟩
theorem iL_law_962 : zBr mL_law 962 .goto 18 965 := ⟨(-944), by decide +kernel, by decide, rfl⟩
theorem iL_law_965 : zPi mL_law 965 1 966 := Or.inl ⟨1, by decide +kernel, by decide, rfl⟩
theorem iL_law_966 : zIs mL_law 966 (.ireturn) 1 967 := ⟨by decide +kernel, rfl⟩
end
section
/-! The world when both systems stand: its shape is fixed, its numbers are F -/
abbrev zFt : Type := Nat → Nat → Int32
abbrev zn (x : Int32) : Nat := x.toNatClampNeg
def zkd : List Nat := [1000, 1000, 7, 6, 1000, 1000, 1000, 1001, 1000, 1000, 1000, 5, 1000, 1000, 1000, 1000, 1001, 1000, 1000, 1000, 2, 1000, 1000, 1000, 1000, 3, 1000, 1000, 1000, 0, 1000, 1, 1000, 1000, 1002, 4, 1000, 1000, 1000, 1000, 4, 1000, 1000, 1000, 1000, 4, 1000, 1000, 1000, 1000, 4, 1000, 1000, 1000, 1000, 4, 1000, 1000, 1000, 1000, 4, 1000, 1000, 1000, 1000, 4, 1000, 1000, 1000, 1000, 4, 1000, 1000, 1000, 1000, 8, 1000, 1000, 1000, 1000, 1001, 1000, 1000, 1000, 1000, 1000, 1000, 1000, 1000, 1000, 1000, 1000, 1000, 1001, 1000, 1000, 1000, 1000, 1000, 1000, 1000, 1000, 1000, 1000, 1000, 1000, 1000, 1001, 1001, 1000, 1000]
def zln : List Nat := [0, 12, 13, 10, 12, 12, 12, 12, 36, 60, 60, 10, 400, 400, 400, 400, 400, 60, 300, 480, 6, 60, 60, 60, 5, 4, 24, 24, 24, 2, 1200, 4, 6, 6, 8, 9, 16, 16, 8, 8, 9, 16, 16, 8, 8, 9, 16, 16, 8, 8, 9, 16, 16, 8, 8, 9, 16, 16, 8, 8, 9, 16, 16, 8, 8, 9, 16, 16, 8, 8, 9, 16, 16, 8, 8, 48, 12, 12, 12, 12, 12, 36, 60, 60, 24, 24, 24, 6, 6, 400, 400, 400, 400, 400, 300, 60, 60, 8, 8, 8, 8, 128, 128, 8, 64, 64, 1200, 400, 12, 5, 60]
def zrf : List (List (Option Nat)) := [[], [], [some 3, some 11, some 20, some 25, some 29, some 31, some 34, none, none, none, none, none, none], [some 4, some 5, some 6, some 7, some 8, some 9, some 10, none, none, none], [], [], [], [], [], [], [], [some 3, some 12, some 13, some 14, some 15, some 16, none, some 17, some 18, some 19], [], [], [], [], [], [], [], [], [some 3, some 11, some 21, some 22, some 23, some 24], [], [], [], [], [some 26, some 27, some 28, none], [], [], [], [some 30, none], [], [some 32, some 33, none, none], [], [], [some 35, some 40, some 45, some 50, some 55, some 60, some 65, some 70], [none, none, none, some 36, some 37, none, some 38, some 39, none], [], [], [], [], [none, none, none, some 41, some 42, none, some 43, some 44, none], [], [], [], [], [none, none, none, some 46, some 47, none, some 48, some 49, none], [], [], [], [], [none, none, none, some 51, some 52, none, some 53, some 54, none], [], [], [], [], [none, none, none, some 56, some 57, none, some 58, some 59, none], [], [], [], [], [none, none, none, some 61, some 62, none, some 63, some 64, none], [], [], [], [], [none, none, none, some 66, some 67, none, some 68, some 69, none], [], [], [], [], [none, none, none, some 71, some 72, none, some 73, some 74, none], [], [], [], [], [none, some 76, some 77, some 78, some 79, some 80, some 81, none, some 82, none, some 83, none, some 84, some 85, some 86, none, some 87, some 88, none, none, some 89, some 90, some 91, some 92, some 93, some 94, some 95, some 96, none, some 97, some 98, some 99, some 100, some 101, some 102, some 103, some 104, some 105, none, none, some 106, none, none, none, some 107, some 108, some 109, some 110], [], [], [], [], [], [], [], [], [], [], [], [], [], [], [], [], [], [], [], [], [], [], [], [], [], [], [], [], [], [], [], [], [], [], []]
def zrr (k i : Nat) : Option Nat := (zrf.getD k []).getD i none
def zfv (k i : Nat) (x : Int32) : Value := match zrr k i with
  | some r => .ref r
  | none => .int x
def zE (L : Nat) (F : zFt) : zH := fun k => (zkd.getD k 0, if k = 0 then L else zln.getD k 0, fun i => zfv k i (F k i))
def zup (F : zFt) (a i : Nat) (x : Int32) : zFt := fun k j => if k = a ∧ j = i then x else F k j
theorem zE_put {L : Nat} {F : zFt} {a i : Nat} {x : Int32} (h : zrr a i = none) : va_up (zE L F) a ((zE L F a).1, (zE L F a).2.1, updV (zE L F a).2.2 i (.int x)) = zE L (zup F a i x) := by
  funext k
  by_cases hk : k = a
  · subst hk
    simp only [va_up, if_true, zE]
    refine Prod.ext rfl (Prod.ext rfl ?_)
    funext j
    simp only [updV, zup, true_and]
    by_cases hj : j = i
    · subst hj
      simp [zfv, h]
    · simp [hj]
  · simp only [va_up, hk, if_false, zE, zup, false_and]
def zgI (a ci f : Nat) : Bool := Nat.beq (zkd.getD a 0) ci && (zrr a f).isNone && Nat.ble 2 a && Nat.blt a 111
def zgO (a ci : Nat) : Bool := Nat.beq (zkd.getD a 0) ci && Nat.ble 2 a && Nat.blt a 111
def zgR (a ci f : Nat) : Option Nat := bif Nat.beq (zkd.getD a 0) ci && Nat.ble 2 a && Nat.blt a 111 then zrr a f else none
def zgA (t a : Nat) : Option Nat := bif Nat.beq (zkd.getD a 0) (1000 + t) && Nat.ble 2 a && Nat.blt a 111 && (zrf.getD a []).isEmpty then some (zln.getD a 0) else none
theorem zgO_use {a ci : Nat} (h : zgO a ci = true) : zkd.getD a 0 = ci ∧ 2 ≤ a ∧ a < 111 := by
  simp only [zgO, Bool.and_eq_true] at h
  obtain ⟨⟨h1, h3⟩, h4⟩ := h
  exact ⟨Nat.eq_of_beq_eq_true h1, Nat.le_of_ble_eq_true h3, (by simp [Nat.blt] at h4; omega)⟩
theorem zgI_use {a ci f : Nat} (h : zgI a ci f = true) : zkd.getD a 0 = ci ∧ zrr a f = none ∧ 2 ≤ a ∧ a < 111 := by
  simp only [zgI, Bool.and_eq_true] at h
  obtain ⟨⟨⟨h1, h2⟩, h3⟩, h4⟩ := h
  exact ⟨Nat.eq_of_beq_eq_true h1, by simpa using h2, Nat.le_of_ble_eq_true h3, (by simp [Nat.blt] at h4; omega)⟩
theorem zgR_use {a ci f r : Nat} (h : zgR a ci f = some r) : zkd.getD a 0 = ci ∧ zrr a f = some r ∧ 2 ≤ a ∧ a < 111 := by
  unfold zgR at h
  cases hb : (Nat.beq (zkd.getD a 0) ci && Nat.ble 2 a && Nat.blt a 111) with
  | false => rw [hb] at h; cases h
  | true =>
    rw [hb] at h
    obtain ⟨h1, h2, h3⟩ := zgO_use (a := a) (ci := ci) hb
    exact ⟨h1, h, h2, h3⟩
theorem zgA_use {t a len : Nat} (h : zgA t a = some len) : zkd.getD a 0 = 1000 + t ∧ zln.getD a 0 = len ∧ 2 ≤ a ∧ a < 111 ∧ ∀ i, zrr a i = none := by
  unfold zgA at h
  cases hb : (Nat.beq (zkd.getD a 0) (1000 + t) && Nat.ble 2 a && Nat.blt a 111 && (zrf.getD a []).isEmpty) with
  | false => rw [hb] at h; cases h
  | true =>
    rw [hb] at h
    rw [Bool.and_eq_true] at hb
    obtain ⟨h1, h2, h3⟩ := zgO_use (a := a) (ci := 1000 + t) hb.1
    have h4 : zrf.getD a [] = [] := by simpa using hb.2
    exact ⟨h1, Option.some.inj h, h2, h3, fun i => by rw [zrr, h4]; rfl⟩
section ZMF
variable {M : zM} {lo : List (Option Value)} {As : List Value} {N : Nat} {w : zH} {mc ms d : Nat}
theorem zMet_ofW {l : Launch} {y : MethodName} {ws ws' : List Cond} {rm : Room} {Pc : Array Value → State → Prop} {Qc : Array Value → State → Outcome → State → Prop} {free : Addr → Prop} {cc : ByteArray} {maxL : Nat} {ret : Option FieldType}
    (hy : plainFor y = true) (hw : ws = Cond.code y cc maxL ret :: ws')
    (body : ∀ p e s m args below meth c s₁, BodyLoose p l y (headSpec ws rm) cc maxL ret e s m args below meth c s₁ → c.maxLocals = maxL → Pc args s →
      W p l e (headSpec ws rm).room s m args below meth c s.heap [] 0 0 (MQ below Qc args s mc ms free) (entryFrame m args maxL)) : Met l y ws rm Pc Qc mc ms free := by
  refine MetFree.of_bodySF (code := cc) (maxLocals := maxL) (ret := ret) hy ?_ ?_
  · intro args s m h hn
    obtain ⟨meth, c, h1, h2, h3, h4, h5, h6, -, -⟩ := Cond.code_spec hn (atoms_spec (ws := ws) h _ (by rw [hw]; exact List.mem_cons_self))
    exact ⟨meth, c, h1, h2, h3, h4, h5, h6⟩
  · intro p e s m args below meth c s₁ B hml hP _
    have hh0 : s₁.heap = s.heap := by rw [B.state]; rfl
    obtain ⟨t, a1, o, b1, b2, b3⟩ := body p e s m args below meth c s₁ B hml hP s₁ hh0 (Stand.of_body B)
    exact ⟨t, o, a1, b1, b2, ⟨b3.1, b3.2⟩⟩
theorem zMt_ofF {Q : zQ} (hy : plainFor M.1 = true) (hl : (zlo As).length ≤ M.2.2.1) (hlo : ∀ (i : Nat) (v : Value), lo[i]? = some (some v) → (zlo As)[i]? = some (some v)) (h : zEV M (zrm d mc ms) (zZ mc ms Q) 0 lo [] N w 0 0) : zMt M d mc ms As N w Q := by
  intro l D q H0
  refine zMet_ofW (cc := M.2.1) (maxL := M.2.2.1) (ret := M.2.2.2) hy rfl ?_
  intro p e s m args below meth c s₁ B hml hv
  obtain ⟨hargs, HW, hK⟩ := hv
  subst hargs
  have hts := atoms_spec (ws := zws M) B.pre
  have hnm : meth.name = M.1.name := (name_of_methodNamed B.named B.method).1
  have hle := lv_entry (As.map (zv q)) (n := M.2.2.1) (by rw [zlo_len]; exact hl)
  rw [lg_entry_eq]
  exact h p l e s m _ below meth c D q H0 ⟨B.exec, B.bytes, B.returns, hml, findClass_of_methodNamed B.named, hts, B.notSynchronized, hnm, hK⟩ s.heap [] _ HW (fun x hx => by cases hx) ⟨hle.1, hle.2.1, fun i v hv => hle.2.2 (i, zv q v) (by
    have := zlo_args As q 0 i v (hlo i v hv)
    simpa using this)⟩
end ZMF
section ZE
variable {M M' : zM} {R : Room} {Z : zZt} {pc pc' tgt : Nat} {lo : List (Option Value)} {st rest As : List Value} {L : Nat} {F F' : zFt} {k n d : Nat} {r : Option Value}
theorem e_getI {idx ci f a : Nat} (hi : zIs M pc (.getfield idx) 3 pc') (hf : zFl M.1.cls idx ci f) (hs : zgI a ci f = true) (kk : zEV M R Z pc' lo (.int (F a f) :: st) 111 (zE L F) k n) : zEV M R Z pc lo (.ref a :: st) 111 (zE L F) k n := by
  obtain ⟨h1, h2, h3, h4⟩ := zgI_use hs
  refine z_get (ci := ci) (f := f) (g := fun i => zfv a i (F a i)) hi hf (by rw [← h1]; rfl) h3 h4 ?_
  have e : zfv a f (F a f) = .int (F a f) := by simp [zfv, h2]
  rw [e]
  exact kk
theorem e_getR {idx ci f a b : Nat} (hi : zIs M pc (.getfield idx) 3 pc') (hf : zFl M.1.cls idx ci f) (hs : zgR a ci f = some b) (kk : zEV M R Z pc' lo (.ref b :: st) 111 (zE L F) k n) : zEV M R Z pc lo (.ref a :: st) 111 (zE L F) k n := by
  obtain ⟨h1, h2, h3, h4⟩ := zgR_use hs
  refine z_get (ci := ci) (f := f) (g := fun i => zfv a i (F a i)) hi hf (by rw [← h1]; rfl) h3 h4 ?_
  have e : zfv a f (F a f) = .ref b := by simp [zfv, h2]
  rw [e]
  exact kk
theorem e_putI {idx ci f a : Nat} {x : Int32} (hi : zIs M pc (.putfield idx) 3 pc') (hf : zFl M.1.cls idx ci f) (hw : zFw ci f .int) (hs : zgI a ci f = true) (kk : zEV M R Z pc' lo st 111 (zE L (zup F a f x)) k n) : zEV M R Z pc lo (.int x :: .ref a :: st) 111 (zE L F) k n := by
  obtain ⟨h1, h2, h3, h4⟩ := zgI_use hs
  refine z_put (ty := .int) hi hf hw (fun q => rfl) (fun q => rfl) (len := (zE L F a).2.1) (g := (zE L F a).2.2) (by rw [← h1]; rfl) h3 h4 ?_
  rw [← h1]
  exact (zE_put (L := L) (F := F) (x := x) h2) ▸ kk
theorem e_putZ {idx ci f a : Nat} {x : Int32} (hi : zIs M pc (.putfield idx) 3 pc') (hf : zFl M.1.cls idx ci f) (hw : zFw ci f .boolean) (hs : zgI a ci f = true) (hx : x = 0 ∨ x = 1) (kk : zEV M R Z pc' lo st 111 (zE L (zup F a f x)) k n) : zEV M R Z pc lo (.int x :: .ref a :: st) 111 (zE L F) k n := by
  obtain ⟨h1, h2, h3, h4⟩ := zgI_use hs
  refine z_put (ty := .boolean) hi hf hw (fun q => by rcases hx with rfl | rfl <;> rfl) (fun q => by rcases hx with rfl | rfl <;> rfl) (len := (zE L F a).2.1) (g := (zE L F a).2.2) (by rw [← h1]; rfl) h3 h4 ?_
  rw [← h1]
  exact (zE_put (L := L) (F := F) (x := x) h2) ▸ kk
theorem zE_arr {t a len : Nat} (h : zgA t a = some len) : zE L F a = (1000 + t, len, fun i => Value.int (F a i)) := by
  obtain ⟨h1, h2, h3, h4, h5⟩ := zgA_use h
  have h0 : ¬ a = 0 := by omega
  simp only [zE, h1, h2, h0, if_false]
  refine Prod.ext rfl (Prod.ext rfl ?_)
  funext i
  simp [zfv, h5]
theorem e_iald {a len : Nat} {i : Int32} (hi : zIs M pc .iaload 1 pc') (hs : zgA 0 a = some len) (hin : vp_in i len) (kk : zEV M R Z pc' lo (.int (F a (zn i)) :: st) 111 (zE L F) k n) : zEV M R Z pc lo (.int i :: .ref a :: st) 111 (zE L F) k n :=
  z_iald hi (zE_arr hs) (zgA_use hs).2.2.1 (zgA_use hs).2.2.2.1 hin kk
theorem e_bald {a len : Nat} {i : Int32} (hi : zIs M pc .baload 1 pc') (hs : zgA 1 a = some len) (hin : vp_in i len) (kk : zEV M R Z pc' lo (.int (F a (zn i)) :: st) 111 (zE L F) k n) : zEV M R Z pc lo (.int i :: .ref a :: st) 111 (zE L F) k n :=
  z_bald hi (zE_arr hs) (zgA_use hs).2.2.1 (zgA_use hs).2.2.2.1 hin kk
theorem zE_putA {t a len i : Nat} {x : Int32} (h : zgA t a = some len) : va_up (zE L F) a (1000 + t, len, updV (fun i => Value.int (F a i)) i (.int x)) = zE L (zup F a i x) := by
  have e := zE_put (L := L) (F := F) (a := a) (i := i) (x := x) ((zgA_use h).2.2.2.2 i)
  rw [zE_arr h] at e
  exact e
theorem e_iast {a len : Nat} {i x : Int32} (hi : zIs M pc .iastore 1 pc') (hs : zgA 0 a = some len) (hin : vp_in i len) (kk : zEV M R Z pc' lo st 111 (zE L (zup F a (zn i) x)) k n) : zEV M R Z pc lo (.int x :: .int i :: .ref a :: st) 111 (zE L F) k n := by
  refine z_iast hi (zE_arr hs) (zgA_use hs).2.2.1 (zgA_use hs).2.2.2.1 hin ?_
  rw [zE_putA hs]
  exact kk
theorem e_bast {a len : Nat} {i x : Int32} (hi : zIs M pc .bastore 1 pc') (hs : zgA 1 a = some len) (hin : vp_in i len) (hx : x = 0 ∨ x = 1) (kk : zEV M R Z pc' lo st 111 (zE L (zup F a (zn i) x)) k n) : zEV M R Z pc lo (.int x :: .int i :: .ref a :: st) 111 (zE L F) k n := by
  refine z_bast hi (zE_arr hs) (zgA_use hs).2.2.1 (zgA_use hs).2.2.2.1 hin hx ?_
  rw [zE_putA hs]
  exact kk
theorem e_aald {i : Int32} (hi : zIs M pc .aaload 1 pc') (hin : vp_in i 8) (kk : zEV M R Z pc' lo (.ref (5 * zn i + 35) :: st) 111 (zE L F) k n) : zEV M R Z pc lo (.int i :: .ref 34 :: st) 111 (zE L F) k n := by
  have hlt : i.toNatClampNeg < 8 := Nat.not_le.mp fun q => hin (Or.inr q)
  refine z_aald (a := 34) (len := 8) (g := fun i => zfv 34 i (F 34 i)) hi rfl (by decide) (by decide) hin ?_
  have e : ∀ j, j < 8 → zfv 34 j (F 34 j) = .ref (5 * j + 35) := by
    intro j hj
    rcases (show j = 0 ∨ j = 1 ∨ j = 2 ∨ j = 3 ∨ j = 4 ∨ j = 5 ∨ j = 6 ∨ j = 7 by omega) with rfl | rfl | rfl | rfl | rfl | rfl | rfl | rfl <;> rfl
  show zEV M R Z pc' lo (zfv 34 i.toNatClampNeg (F 34 i.toNatClampNeg) :: st) 111 (zE L F) k n
  rw [e _ hlt]
  exact kk
/-! contracts -/
def zFn (M : zM) (d : Nat) (As : List Value) (L : Nat) (F : zFt) (r : Option Value) (F' : zFt) : Prop := zMt M d 0 0 As 111 (zE L F) (fun r' N w => r' = r ∧ N = 111 ∧ w = zE L F')
abbrev zZf (L : Nat) (r : Option Value) (F' : zFt) : zZt := zZ 0 0 (fun r' N w => r' = r ∧ N = 111 ∧ w = zE L F')
theorem e_of (hy : plainFor M.1 = true) (hl : (zlo As).length ≤ M.2.2.1) (hlo : lo = zlo As ++ List.replicate (M.2.2.1 - (zlo As).length) none) (h : zEV M (zrm d 0 0) (zZf L r F') 0 lo [] 111 (zE L F) 0 0) : zFn M d As L F r F' := by
  refine zMt_ofF hy hl (fun i v hv => ?_) h
  subst hlo
  by_cases hi : i < (zlo As).length
  · rwa [List.getElem?_append_left hi] at hv
  · rw [List.getElem?_append_right (by omega), List.getElem?_replicate] at hv
    split at hv <;> simp at hv
theorem e_iret {v : Int32} (hi : zIs M pc .ireturn 1 pc') (hr : M.2.2.2 = some .int) (h : some (.int v) = r ∧ F = F') : zEV M R (zZf L r F') pc lo [.int v] 111 (zE L F) 0 0 :=
  z_iret hi hr ⟨h.1, rfl, by rw [h.2]⟩ (Nat.le_refl 0) (Nat.le_refl 0)
theorem e_bret {v : Int32} (hi : zIs M pc .ireturn 1 pc') (hr : M.2.2.2 = some .boolean) (hv : v = 0 ∨ v = 1) (h : some (.int v) = r ∧ F = F') : zEV M R (zZf L r F') pc lo [.int v] 111 (zE L F) 0 0 :=
  z_bret hi hr hv ⟨h.1, rfl, by rw [h.2]⟩ (Nat.le_refl 0) (Nat.le_refl 0)
theorem e_lret {v : Int64} (hi : zIs M pc .lreturn 1 pc') (hr : M.2.2.2 = some .long) (h : some (.long v) = r ∧ F = F') : zEV M R (zZf L r F') pc lo [.long v] 111 (zE L F) 0 0 :=
  z_lret hi hr ⟨h.1, rfl, by rw [h.2]⟩ (Nat.le_refl 0) (Nat.le_refl 0)
theorem e_vret (hi : zIs M pc .return_ 1 pc') (hr : M.2.2.2 = none) (h : none = r ∧ F = F') : zEV M R (zZf L r F') pc lo [] 111 (zE L F) 0 0 :=
  z_vret hi hr ⟨h.1, rfl, by rw [h.2]⟩ (Nat.le_refl 0) (Nat.le_refl 0)
theorem e_aret {a : Nat} {nm : String} (hi : zIs M pc .areturn 1 pc') (hr : M.2.2.2 = some (.object nm)) (h : some (.ref a) = r ∧ F = F') : zEV M R (zZf L r F') pc lo [.ref a] 111 (zE L F) 0 0 :=
  z_aret hi hr ⟨h.1, rfl, by rw [h.2]⟩ (Nat.le_refl 0) (Nat.le_refl 0)
theorem e_callV {idx ar ci b : Nat} (hi : zIs M pc (.invokevirtual idx) 3 pc') (hc : zCv M.1.cls idx M' ar ci) (hM : zFn M' d (.ref b :: As) L F r F') (hn : As.length = ar) (hst : As.reverse ++ .ref b :: rest = st) (hs : zgO b ci = true)
    (hR : d + 1 ≤ R.frames ∧ 8 + (M'.2.2.1 + 11) + 36 * d ≤ R.locals) (hf : k ≤ R.cells ∧ n ≤ R.slots) (hcat : (rest.map fun v => v.category).sum ≤ 8)
    (kk : zEV M R Z pc' lo (r.toList ++ rest) 111 (zE L F') k n) : zEV M R Z pc lo st 111 (zE L F) k n := by
  obtain ⟨h1, h2, h3⟩ := zgO_use hs
  refine z_callV (g := (zE L F b).2.2) (len := (zE L F b).2.1) hi hc hM hn hst (by rw [← h1]; rfl) h2 h3 hR hf hcat ?_
  rintro r' N' w' ⟨rfl, rfl, rfl⟩
  exact kk
theorem e_callS {idx ar : Nat} (hi : zIs M pc (.invokestatic idx) 3 pc') (hc : zCs M.1.cls idx M' ar) (hM : zFn M' d As L F r F') (hn : As.length = ar) (hst : As.reverse ++ rest = st)
    (hR : d + 1 ≤ R.frames ∧ 8 + (M'.2.2.1 + 11) + 36 * d ≤ R.locals) (hf : k ≤ R.cells ∧ n ≤ R.slots) (hcat : (rest.map fun v => v.category).sum ≤ 8)
    (kk : zEV M R Z pc' lo (r.toList ++ rest) 111 (zE L F') k n) : zEV M R Z pc lo st 111 (zE L F) k n := by
  refine z_callS hi hc hM hn hst hR hf hcat ?_
  rintro r' N' w' ⟨rfl, rfl, rfl⟩
  exact kk
end ZE
/-! numbers -/
theorem tI_add (a b : Int32) : (a + b).toInt = (a.toInt + b.toInt + 2147483648) % 4294967296 - 2147483648 := by
  rw [Int32.toInt_add, Int.bmod_def]
  omega
theorem tI_sub (a b : Int32) : (a - b).toInt = (a.toInt - b.toInt + 2147483648) % 4294967296 - 2147483648 := by
  rw [Int32.toInt_sub, Int.bmod_def]
  omega
theorem tI_mul (a b : Int32) : (a * b).toInt = (a.toInt * b.toInt + 2147483648) % 4294967296 - 2147483648 := by
  rw [Int32.toInt_mul, Int.bmod_def]
  omega
theorem tI_neg (a : Int32) : (-a).toInt = (-a.toInt + 2147483648) % 4294967296 - 2147483648 := by
  rw [Int32.toInt_neg, Int.bmod_def]
  omega
theorem tI_lo (a : Int32) : -2147483648 ≤ a.toInt := Int32.le_toInt a
theorem tI_hi (a : Int32) : a.toInt < 2147483648 := Int32.toInt_lt a
theorem tI_cl (a : Int32) : a.toNatClampNeg = a.toInt.toNat := rfl
theorem tI_eq {a b : Int32} : a = b ↔ a.toInt = b.toInt := Int32.toInt_inj.symm
def zb (p : Bool) : Int32 := bif p then 1 else 0
theorem zb_01 (p : Bool) : zb p = 0 ∨ zb p = 1 := by cases p <;> simp [zb]
theorem zb_0 {p : Bool} : zb p = 0 ↔ p = false := by cases p <;> simp [zb]
theorem zb_n {p : Bool} : ¬ zb p = 0 ↔ p = true := by cases p <;> simp [zb]
end
section
theorem zn_int {x : Int32} (h : 0 ≤ x.toInt) : ((zn x : Nat) : Int) = x.toInt := by
  show ((x.toInt.toNat : Nat) : Int) = x.toInt
  omega
theorem nI_zn {x : Int32} (h : 0 ≤ x.toInt) : nI (zn x) = x := by
  have h2 := tI_hi x
  have h3 := zn_int h
  rw [tI_eq, nI_toInt (by omega)]
  exact h3
theorem zn_nI {a : Nat} (h : a < 2147483648) : zn (nI a) = a := nI_clamp h
theorem nI_int {a : Nat} (h : a < 2147483648) : (nI a).toInt = (a : Int) := nI_toInt h
section ZLB
variable {M : zM} {R : Room} {Z : zZt} {pc : Nat} {lo lo' : List (Option Value)} {st st' : List Value} {L : Nat} {F F' : zFt} {k n : Nat}
theorem z_to (h1 : lo = lo') (h2 : F = F') (kk : zEV M R Z pc lo' st 111 (zE L F') k n) : zEV M R Z pc lo st 111 (zE L F) k n := by
  subst h1; subst h2; exact kk
theorem z_lo (h1 : lo = lo') (kk : zEV M R Z pc lo' st 111 (zE L F) k n) : zEV M R Z pc lo st 111 (zE L F) k n := by
  subst h1; exact kk
theorem z_st (h1 : st = st') (kk : zEV M R Z pc lo st' 111 (zE L F) k n) : zEV M R Z pc lo st 111 (zE L F) k n := by
  subst h1; exact kk
end ZLB
def zsm (f : Nat → Int32) : Nat → Int32
  | 0 => 0
  | n + 1 => zsm f n + f n
theorem kaLink : Cond.fieldLink RX7 307 RX7 "KIND_ABOVE" "[I" ∈ zT := zT_mem 495 (by decide +kernel) rfl
theorem vin {x : Int32} {n : Nat} : vp_in x n ↔ 0 ≤ x.toInt ∧ x.toInt < n := vp_in_iff
theorem vin_zn {x : Int32} {n : Nat} (h : vp_in x n) : zn x < n := Nat.not_le.mp fun q => h (Or.inr q)
theorem vin_nI {x : Int32} {n : Nat} (h : vp_in x n) : nI (zn x) = x := nI_zn (vin.mp h).1
theorem vin_mk {a n : Nat} (h : a < n) (hn : n < 2147483648 := by decide) : vp_in (nI a) n := vp_in_nI h hn
theorem vin_of {x : Int32} {n : Nat} (h : vp_in x n) (hn : n < 2147483648 := by decide) : ∃ j : Nat, j < n ∧ x = nI j := vp_in_of h hn
theorem vin_le {x : Int32} {n m : Nat} (h : vp_in x n) (hm : n ≤ m) : vp_in x m := by
  rw [vin] at h ⊢
  omega
theorem nI_m3 (a : Nat) : nI a * 3 = nI (a * 3) := pk_mul a 3
theorem nI_3m (a : Nat) : 3 * nI a = nI (a * 3) := by
  rw [show (3 : Int32) * nI a = nI 3 * nI a from rfl, pk_mul, Nat.mul_comm]
theorem nI_m5 (a : Nat) : nI a * 5 = nI (a * 5) := pk_mul a 5
theorem nI_5m (a : Nat) : 5 * nI a = nI (a * 5) := by
  rw [show (5 : Int32) * nI a = nI 5 * nI a from rfl, pk_mul, Nat.mul_comm]
theorem nI_m6 (a : Nat) : nI a * 6 = nI (a * 6) := pk_mul a 6
theorem nI_6m (a : Nat) : 6 * nI a = nI (a * 6) := by
  rw [show (6 : Int32) * nI a = nI 6 * nI a from rfl, pk_mul, Nat.mul_comm]
theorem nI_m8 (a : Nat) : nI a * 8 = nI (a * 8) := pk_mul a 8
theorem nI_8m (a : Nat) : 8 * nI a = nI (a * 8) := by
  rw [show (8 : Int32) * nI a = nI 8 * nI a from rfl, pk_mul, Nat.mul_comm]
theorem nI_m16 (a : Nat) : nI a * 16 = nI (a * 16) := pk_mul a 16
theorem nI_16m (a : Nat) : 16 * nI a = nI (a * 16) := by
  rw [show (16 : Int32) * nI a = nI 16 * nI a from rfl, pk_mul, Nat.mul_comm]
theorem nI_p2 (a : Nat) : nI a + 2 = nI (a + 2) := nI_add a 2
theorem nI_p3 (a : Nat) : nI a + 3 = nI (a + 3) := nI_add a 3
theorem nI_p4 (a : Nat) : nI a + 4 = nI (a + 4) := nI_add a 4
theorem nI_p5 (a : Nat) : nI a + 5 = nI (a + 5) := nI_add a 5
theorem nI_s1 {a : Nat} (h : 0 < a) : nI a - 1 = nI (a - 1) := by
  have := nI_pred (a - 1)
  rw [show a - 1 + 1 = a by omega] at this
  exact this
theorem nI_lit (a : Nat) : nI a = Int32.ofNat a := rfl
theorem nI_lt2 {a b : Nat} (ha : a < 2147483648) (hb : b < 2147483648) : nI a < nI b ↔ a < b := nI_ltI ha hb
theorem nI_le2 {a b : Nat} (ha : a < 2147483648) (hb : b < 2147483648) : nI a ≤ nI b ↔ a ≤ b := nI_leI ha hb
theorem nI_eq2 {a b : Nat} (ha : a < 2147483648) (hb : b < 2147483648) : nI a = nI b ↔ a = b := nI_eq ha hb
theorem zle0 {x : Int32} : 0 ≤ x ↔ 0 ≤ x.toInt := by rw [Int32.le_iff_toInt_le]; simp
theorem zlt0 {x : Int32} : x < 0 ↔ x.toInt < 0 := by rw [Int32.lt_iff_toInt_lt]; simp
/-- a number against a bound: at the end, and before it -/
theorem up_end {x : Int32} {a : Nat} (h0 : 0 ≤ x.toInt) (h : a = zn x) : x ≤ nI a := by
  rw [h, nI_zn h0]
  exact Int32.le_refl x
theorem up_in {x : Int32} {a : Nat} (h : a < zn x) : ¬ x ≤ nI a := by
  have h0 : 0 ≤ x.toInt := by
    rcases Int.lt_or_le x.toInt 0 with q | q
    · have : zn x = 0 := by show x.toInt.toNat = 0; omega
      omega
    · exact q
  have h1 := zn_int h0
  have h2 := tI_hi x
  rw [Int32.le_iff_toInt_le, nI_toInt (by omega)]
  omega
def zfold (g : Nat → Int32 → Int32) (x : Int32) : Nat → Int32
  | 0 => x
  | n + 1 => g n (zfold g x n)
theorem zfold_0 {g : Nat → Int32 → Int32} {x : Int32} : zfold g x 0 = x := rfl
theorem zfold_s {g : Nat → Int32 → Int32} {x : Int32} {n : Nat} : zfold g x (n + 1) = g n (zfold g x n) := rfl
def zin (c b : Int32) : Bool := !decide (c < 0) && !decide (b ≤ c)
theorem zin_t {c b : Int32} : zin c b = true ↔ 0 ≤ c.toInt ∧ c.toInt < b.toInt := by
  simp only [zin, Bool.and_eq_true, Bool.not_eq_true', decide_eq_false_iff_not, Int32.lt_iff_toInt_lt, Int32.le_iff_toInt_le]
  simp
theorem zin_vin {c b : Int32} {n : Nat} (h : zin c b = true) (hb : b.toInt ≤ n) : vp_in c n := by
  rw [zin_t] at h
  rw [vin]
  omega
def zmx (a b : Int32) : Int32 := if a < b then b else a
def zmn (a b : Int32) : Int32 := if b < a then b else a
theorem zup_ap (F : zFt) (a i : Nat) (x : Int32) (k j : Nat) : zup F a i x k j = if k = a ∧ j = i then x else F k j := rfl
/-- a stretch of a row holds one number -/
def zfl (F : zFt) (c j0 : Nat) (x : Int32) (a : Nat) : zFt := fun k i => if k = c ∧ j0 ≤ i ∧ i < j0 + a then x else F k i
theorem zfl_ap (F : zFt) (c j0 : Nat) (x : Int32) (a k i : Nat) : zfl F c j0 x a k i = if k = c ∧ j0 ≤ i ∧ i < j0 + a then x else F k i := rfl
theorem zfl_0 (F : zFt) (c j0 : Nat) (x : Int32) : zfl F c j0 x 0 = F := by
  funext k i
  rw [zfl_ap, if_neg (by omega)]
theorem zfl_s (F : zFt) (c j0 : Nat) (x : Int32) (a : Nat) : zup (zfl F c j0 x a) c (j0 + a) x = zfl F c j0 x (a + 1) := by
  funext k i
  simp only [zup_ap, zfl_ap]
  by_cases h1 : k = c ∧ i = j0 + a
  · rw [if_pos h1, if_pos (by omega)]
  · rw [if_neg h1]
    by_cases h2 : k = c ∧ j0 ≤ i ∧ i < j0 + a
    · rw [if_pos h2, if_pos (by omega)]
    · rw [if_neg h2, if_neg (by omega)]
end
section
set_option maxRecDepth 100000 in
theorem tX6_hasClass {L : Nat} (F : zFt) (c : Int32) : zFn mX6_hasClass 0 [.ref 3, .int c] L F (some (.int (zb (zin c (F 3 7))))) F := by
  refine e_of (lo := [some (.ref 3), some (.int c)]) (by decide +kernel) (Nat.le_of_ble_eq_true rfl) rfl ?_
  refine z_iload iX6_hasClass_0 rfl ?_
  refine z_if_lt iX6_hasClass_1 (fun c1 => ?_) (fun c1 => ?_)
  · refine z_push iX6_hasClass_16 ?_
    exact e_bret iX6_hasClass_17 rfl (by first | exact Or.inl rfl | exact Or.inr rfl | exact zb_01 _ | assumption) ⟨by simp [zb, zin, *], rfl⟩
  · refine z_iload iX6_hasClass_4 rfl ?_
    refine z_aload iX6_hasClass_5 rfl ?_
    refine e_getI iX6_hasClass_6 fX6_34 rfl ?_
    refine z_icmp_ge iX6_hasClass_9 (fun c9 => ?_) (fun c9 => ?_)
    · refine z_push iX6_hasClass_16 ?_
      exact e_bret iX6_hasClass_17 rfl (by first | exact Or.inl rfl | exact Or.inr rfl | exact zb_01 _ | assumption) ⟨by simp [zb, zin, *], rfl⟩
    · refine z_push iX6_hasClass_12 ?_
      refine z_goto iX6_hasClass_13 ?_
      exact e_bret iX6_hasClass_17 rfl (by first | exact Or.inl rfl | exact Or.inr rfl | exact zb_01 _ | assumption) ⟨by simp [zb, zin, *], rfl⟩

set_option maxRecDepth 100000 in
theorem tX6_hasJudge {L : Nat} (F : zFt) (c : Int32) : zFn mX6_hasJudge 0 [.ref 3, .int c] L F (some (.int (zb (zin c (F 3 8))))) F := by
  refine e_of (lo := [some (.ref 3), some (.int c)]) (by decide +kernel) (Nat.le_of_ble_eq_true rfl) rfl ?_
  refine z_iload iX6_hasJudge_0 rfl ?_
  refine z_if_lt iX6_hasJudge_1 (fun c1 => ?_) (fun c1 => ?_)
  · refine z_push iX6_hasJudge_16 ?_
    exact e_bret iX6_hasJudge_17 rfl (by first | exact Or.inl rfl | exact Or.inr rfl | exact zb_01 _ | assumption) ⟨by simp [zb, zin, *], rfl⟩
  · refine z_iload iX6_hasJudge_4 rfl ?_
    refine z_aload iX6_hasJudge_5 rfl ?_
    refine e_getI iX6_hasJudge_6 fX6_38 rfl ?_
    refine z_icmp_ge iX6_hasJudge_9 (fun c9 => ?_) (fun c9 => ?_)
    · refine z_push iX6_hasJudge_16 ?_
      exact e_bret iX6_hasJudge_17 rfl (by first | exact Or.inl rfl | exact Or.inr rfl | exact zb_01 _ | assumption) ⟨by simp [zb, zin, *], rfl⟩
    · refine z_push iX6_hasJudge_12 ?_
      refine z_goto iX6_hasJudge_13 ?_
      exact e_bret iX6_hasJudge_17 rfl (by first | exact Or.inl rfl | exact Or.inr rfl | exact zb_01 _ | assumption) ⟨by simp [zb, zin, *], rfl⟩

set_option maxRecDepth 100000 in
theorem tX6_hasEntry {L : Nat} (F : zFt) (c : Int32) : zFn mX6_hasEntry 0 [.ref 3, .int c] L F (some (.int (zb (zin c (F 3 9))))) F := by
  refine e_of (lo := [some (.ref 3), some (.int c)]) (by decide +kernel) (Nat.le_of_ble_eq_true rfl) rfl ?_
  refine z_iload iX6_hasEntry_0 rfl ?_
  refine z_if_lt iX6_hasEntry_1 (fun c1 => ?_) (fun c1 => ?_)
  · refine z_push iX6_hasEntry_16 ?_
    exact e_bret iX6_hasEntry_17 rfl (by first | exact Or.inl rfl | exact Or.inr rfl | exact zb_01 _ | assumption) ⟨by simp [zb, zin, *], rfl⟩
  · refine z_iload iX6_hasEntry_4 rfl ?_
    refine z_aload iX6_hasEntry_5 rfl ?_
    refine e_getI iX6_hasEntry_6 fX6_41 rfl ?_
    refine z_icmp_ge iX6_hasEntry_9 (fun c9 => ?_) (fun c9 => ?_)
    · refine z_push iX6_hasEntry_16 ?_
      exact e_bret iX6_hasEntry_17 rfl (by first | exact Or.inl rfl | exact Or.inr rfl | exact zb_01 _ | assumption) ⟨by simp [zb, zin, *], rfl⟩
    · refine z_push iX6_hasEntry_12 ?_
      refine z_goto iX6_hasEntry_13 ?_
      exact e_bret iX6_hasEntry_17 rfl (by first | exact Or.inl rfl | exact Or.inr rfl | exact zb_01 _ | assumption) ⟨by simp [zb, zin, *], rfl⟩

set_option maxRecDepth 100000 in
theorem tX6_addEntry {L : Nat} (F : zFt) (c : Int32) (h : vp_in (F 3 9) 60) : zFn mX6_addEntry 0 [.ref 3, .int c] L F (some (.int (F 3 9))) (zup (zup F 10 (zn (F 3 9)) c) 3 9 (F 3 9 + 1)) := by
  refine e_of (lo := [some (.ref 3), some (.int c), none]) (by decide +kernel) (Nat.le_of_ble_eq_true rfl) rfl ?_
  refine z_aload iX6_addEntry_0 rfl ?_
  refine e_getI iX6_addEntry_1 fX6_41 rfl ?_
  refine z_istore iX6_addEntry_4 rfl ?_
  dsimp only [List.set_cons_zero, List.set_cons_succ]
  refine z_aload iX6_addEntry_5 rfl ?_
  refine e_getR iX6_addEntry_6 fX6_31 rfl ?_
  refine z_iload iX6_addEntry_9 rfl ?_
  refine z_iload iX6_addEntry_10 rfl ?_
  refine e_iast iX6_addEntry_11 rfl (by assumption) ?_
  refine z_aload iX6_addEntry_12 rfl ?_
  refine z_dup iX6_addEntry_13 rfl ?_
  refine e_getI iX6_addEntry_14 fX6_41 rfl ?_
  try simp only [zup_ap, Nat.add_left_cancel_iff, Nat.reduceEqDiff, false_and, true_and, and_self, eq_self, ↓reduceIte]
  refine z_push iX6_addEntry_17 ?_
  refine z_iadd iX6_addEntry_18 ?_
  refine e_putI iX6_addEntry_19 fX6_41 fw6_9 rfl ?_
  refine z_iload iX6_addEntry_22 rfl ?_
  exact e_iret iX6_addEntry_23 rfl ⟨rfl, rfl⟩

set_option maxRecDepth 100000 in
theorem tX6_setPrizes {L : Nat} (F : zFt) (c : Int32) (x : Int32) (y : Int32) (z : Int32) (h : vp_in (c * 3) 36) (h1 : vp_in (c * 3 + 1) 36) (h2 : vp_in (c * 3 + 2) 36) : zFn mX6_setPrizes 0 [.ref 3, .int c, .int x, .int y, .int z] L F none (zup (zup (zup F 8 (zn (c * 3)) x) 8 (zn (c * 3 + 1)) y) 8 (zn (c * 3 + 2)) z) := by
  refine e_of (lo := [some (.ref 3), some (.int c), some (.int x), some (.int y), some (.int z)]) (by decide +kernel) (Nat.le_of_ble_eq_true rfl) rfl ?_
  refine z_aload iX6_setPrizes_0 rfl ?_
  refine e_getR iX6_setPrizes_1 fX6_25 rfl ?_
  refine z_iload iX6_setPrizes_4 rfl ?_
  refine z_push iX6_setPrizes_5 ?_
  refine z_imul iX6_setPrizes_6 ?_
  refine z_iload iX6_setPrizes_7 rfl ?_
  refine e_iast iX6_setPrizes_8 rfl (by assumption) ?_
  refine z_aload iX6_setPrizes_9 rfl ?_
  refine e_getR iX6_setPrizes_10 fX6_25 rfl ?_
  try simp only [zup_ap, Nat.add_left_cancel_iff, Nat.reduceEqDiff, false_and, true_and, and_self, eq_self, ↓reduceIte]
  refine z_iload iX6_setPrizes_13 rfl ?_
  refine z_push iX6_setPrizes_14 ?_
  refine z_imul iX6_setPrizes_15 ?_
  refine z_push iX6_setPrizes_16 ?_
  refine z_iadd iX6_setPrizes_17 ?_
  refine z_iload iX6_setPrizes_18 rfl ?_
  refine e_iast iX6_setPrizes_19 rfl (by assumption) ?_
  refine z_aload iX6_setPrizes_20 rfl ?_
  refine e_getR iX6_setPrizes_21 fX6_25 rfl ?_
  try simp only [zup_ap, Nat.add_left_cancel_iff, Nat.reduceEqDiff, false_and, true_and, and_self, eq_self, ↓reduceIte]
  refine z_iload iX6_setPrizes_24 rfl ?_
  refine z_push iX6_setPrizes_25 ?_
  refine z_imul iX6_setPrizes_26 ?_
  refine z_push iX6_setPrizes_27 ?_
  refine z_iadd iX6_setPrizes_28 ?_
  refine z_iload iX6_setPrizes_29 rfl ?_
  refine e_iast iX6_setPrizes_31 rfl (by assumption) ?_
  exact e_vret iX6_setPrizes_32 rfl ⟨rfl, rfl⟩

abbrev gEo (F : zFt) (k : Nat) (c : Int32) : Nat → Int32 → Int32 := fun i a => if F k i = c then a + 1 else a

set_option maxRecDepth 100000 in
theorem lpX6_entriesOf {L : Nat} {R : Room} {Z : zZt} (F : zFt) (c : Int32) (h0 : 0 ≤ (F 3 9).toInt) (h6 : zn (F 3 9) ≤ 60) (kk : zEV mX6_entriesOf R Z 31 [some (.ref 3), some (.int c), some (.int (zfold (gEo F 10 c) 0 (zn (F 3 9)))), some (.int (nI (zn (F 3 9))))] [] 111 (zE L (F)) 0 0) : ∀ (n a : Nat), a + n = zn (F 3 9) → zEV mX6_entriesOf R Z 4 [some (.ref 3), some (.int c), some (.int (zfold (gEo F 10 c) 0 a)), some (.int (nI a))] [] 111 (zE L (F)) 0 0 := by
  intro n
  induction n with
  | zero =>
    intro a ha
    obtain rfl : a = zn (F 3 9) := by omega
    refine z_iload iX6_entriesOf_4 rfl ?_
    refine z_aload iX6_entriesOf_5 rfl ?_
    refine e_getI iX6_entriesOf_6 fX6_41 rfl ?_
    refine z_icmp_ge iX6_entriesOf_9 (fun c9 => ?_) (fun c9 => ?_)
    · exact kk
    · exact absurd (up_end h0 rfl) c9
  | succ n ih =>
    intro a ha
    refine z_iload iX6_entriesOf_4 rfl ?_
    refine z_aload iX6_entriesOf_5 rfl ?_
    refine e_getI iX6_entriesOf_6 fX6_41 rfl ?_
    refine z_icmp_ge iX6_entriesOf_9 (fun c9 => ?_) (fun c9 => ?_)
    · exact absurd c9 (up_in (x := (F 3 9)) (by omega))
    · refine z_aload iX6_entriesOf_12 rfl ?_
      refine e_getR iX6_entriesOf_13 fX6_31 rfl ?_
      refine z_iload iX6_entriesOf_16 rfl ?_
      refine e_iald iX6_entriesOf_17 rfl (vin_mk (n := 60) (by omega)) ?_
      rw [zn_nI (by omega)]
      refine z_iload iX6_entriesOf_18 rfl ?_
      refine z_icmp_ne iX6_entriesOf_19 (fun c19 => ?_) (fun c19 => ?_)
      · refine z_iinc (v := 1) iX6_entriesOf_25 (by decide) (by decide) rfl rfl ?_
        dsimp only [List.set_cons_zero, List.set_cons_succ]
        refine z_goto iX6_entriesOf_28 ?_
        exact z_to (by simp [zfold, nI_1, *]) rfl (ih (a + 1) (by omega))
      · refine z_iinc (v := 1) iX6_entriesOf_22 (by decide) (by decide) rfl rfl ?_
        dsimp only [List.set_cons_zero, List.set_cons_succ]
        refine z_iinc (v := 1) iX6_entriesOf_25 (by decide) (by decide) rfl rfl ?_
        dsimp only [List.set_cons_zero, List.set_cons_succ]
        refine z_goto iX6_entriesOf_28 ?_
        exact z_to (by simp [zfold, nI_1, *]) rfl (ih (a + 1) (by omega))

set_option maxRecDepth 100000 in
theorem tX6_entriesOf {L : Nat} (F : zFt) (c : Int32) (h0 : 0 ≤ (F 3 9).toInt) (h6 : zn (F 3 9) ≤ 60) : zFn mX6_entriesOf 0 [.ref 3, .int c] L F (some (.int (zfold (gEo F 10 c) 0 (zn (F 3 9))))) F := by
  refine e_of (lo := [some (.ref 3), some (.int c), none, none]) (by decide +kernel) (Nat.le_of_ble_eq_true rfl) rfl ?_
  refine z_push iX6_entriesOf_0 ?_
  refine z_istore iX6_entriesOf_1 rfl ?_
  dsimp only [List.set_cons_zero, List.set_cons_succ]
  refine z_push iX6_entriesOf_2 ?_
  refine z_istore iX6_entriesOf_3 rfl ?_
  dsimp only [List.set_cons_zero, List.set_cons_succ]
  refine lpX6_entriesOf F c h0 h6 ?_ _ 0 (Nat.zero_add _)
  refine z_iload iX6_entriesOf_31 rfl ?_
  exact e_iret iX6_entriesOf_32 rfl ⟨rfl, rfl⟩

set_option maxRecDepth 100000 in
theorem lpX6_addClass {L : Nat} {R : Room} {Z : zZt} (F : zFt) (s m c : Int32) (h0 : 0 ≤ m.toInt) (hj : 0 ≤ (F 3 8).toInt) (h6 : zn (F 3 8) + zn m ≤ 60) (kk : zEV mX6_addClass R Z 57 [some (.ref 3), some (.int s), some (.int m), some (.int c), some (.int (nI (zn m)))] [] 111 (zE L (zfl F 9 (zn (F 3 8)) c (zn m))) 0 0) : ∀ (n a : Nat), a + n = zn m → zEV mX6_addClass R Z 32 [some (.ref 3), some (.int s), some (.int m), some (.int c), some (.int (nI a))] [] 111 (zE L (zfl F 9 (zn (F 3 8)) c a)) 0 0 := by
  intro n
  induction n with
  | zero =>
    intro a ha
    obtain rfl : a = zn m := by omega
    refine z_iload iX6_addClass_32 rfl ?_
    refine z_iload iX6_addClass_34 rfl ?_
    refine z_icmp_ge iX6_addClass_35 (fun c35 => ?_) (fun c35 => ?_)
    · exact kk
    · exact absurd (up_end h0 rfl) c35
  | succ n ih =>
    intro a ha
    refine z_iload iX6_addClass_32 rfl ?_
    refine z_iload iX6_addClass_34 rfl ?_
    refine z_icmp_ge iX6_addClass_35 (fun c35 => ?_) (fun c35 => ?_)
    · exact absurd c35 (up_in (x := (m)) (by omega))
    · refine z_aload iX6_addClass_38 rfl ?_
      refine e_getR iX6_addClass_39 fX6_28 rfl ?_
      refine z_aload iX6_addClass_42 rfl ?_
      refine e_getI iX6_addClass_43 fX6_38 rfl ?_
      simp only [zfl_ap, Nat.reduceEqDiff, false_and, ↓reduceIte]
      refine z_iload iX6_addClass_46 rfl ?_
      refine z_iadd iX6_addClass_48 ?_
      refine z_iload iX6_addClass_49 rfl ?_
      refine e_iast iX6_addClass_50 rfl (by rw [← nI_zn hj, nI_add]; exact vin_mk (n := 60) (by omega)) ?_
      rw [show zn (F 3 8 + nI a) = zn (F 3 8) + a by
        have e := nI_zn hj
        rw [← e, nI_add, zn_nI (by omega), e], zfl_s]
      refine z_iinc (v := 1) iX6_addClass_51 (by decide) (by decide) rfl rfl ?_
      dsimp only [List.set_cons_zero, List.set_cons_succ]
      refine z_goto iX6_addClass_54 ?_
      exact z_to (by simp [nI_1]) rfl (ih (a + 1) (by omega))

set_option maxRecDepth 100000 in
theorem tX6_addClass {L : Nat} (F : zFt) (s : Int32) (m : Int32) (h : vp_in (F 3 7) 12) (h0 : 0 ≤ m.toInt) (hj : 0 ≤ (F 3 8).toInt) (h6 : zn (F 3 8) + zn m ≤ 60) : zFn mX6_addClass 0 [.ref 3, .int s, .int m] L F (some (.int (F 3 7))) (zup (zup (zfl (zup (zup (zup F 4 (zn (F 3 7)) s) 5 (zn (F 3 7)) (F 3 8)) 6 (zn (F 3 7)) m) 9 (zn (F 3 8)) (F 3 7) (zn m)) 3 8 (F 3 8 + m)) 3 7 (F 3 7 + 1)) := by
  refine e_of (lo := [some (.ref 3), some (.int s), some (.int m), none, none]) (by decide +kernel) (Nat.le_of_ble_eq_true rfl) rfl ?_
  refine z_aload iX6_addClass_0 rfl ?_
  refine e_getI iX6_addClass_1 fX6_34 rfl ?_
  refine z_istore iX6_addClass_4 rfl ?_
  dsimp only [List.set_cons_zero, List.set_cons_succ]
  refine z_aload iX6_addClass_5 rfl ?_
  refine e_getR iX6_addClass_6 fX6_9 rfl ?_
  refine z_iload iX6_addClass_9 rfl ?_
  refine z_iload iX6_addClass_10 rfl ?_
  refine e_iast iX6_addClass_11 rfl (by assumption) ?_
  refine z_aload iX6_addClass_12 rfl ?_
  refine e_getR iX6_addClass_13 fX6_15 rfl ?_
  try simp only [zup_ap, Nat.add_left_cancel_iff, Nat.reduceEqDiff, false_and, true_and, and_self, eq_self, ↓reduceIte]
  refine z_iload iX6_addClass_16 rfl ?_
  refine z_aload iX6_addClass_17 rfl ?_
  refine e_getI iX6_addClass_18 fX6_38 rfl ?_
  try simp only [zup_ap, Nat.add_left_cancel_iff, Nat.reduceEqDiff, false_and, true_and, and_self, eq_self, ↓reduceIte]
  refine e_iast iX6_addClass_21 rfl (by assumption) ?_
  refine z_aload iX6_addClass_22 rfl ?_
  refine e_getR iX6_addClass_23 fX6_18 rfl ?_
  try simp only [zup_ap, Nat.add_left_cancel_iff, Nat.reduceEqDiff, false_and, true_and, and_self, eq_self, ↓reduceIte]
  refine z_iload iX6_addClass_26 rfl ?_
  refine z_iload iX6_addClass_27 rfl ?_
  refine e_iast iX6_addClass_28 rfl (by assumption) ?_
  refine z_push iX6_addClass_29 ?_
  refine z_istore iX6_addClass_30 rfl ?_
  dsimp only [List.set_cons_zero, List.set_cons_succ]
  have e8 : (zup (zup (zup F 4 (zn (F 3 7)) s) 5 (zn (F 3 7)) (F 3 8)) 6 (zn (F 3 7)) m) 3 8 = F 3 8 := rfl
  refine z_to rfl (zfl_0 _ 9 (zn (F 3 8)) (F 3 7)).symm ?_
  refine lpX6_addClass (zup (zup (zup F 4 (zn (F 3 7)) s) 5 (zn (F 3 7)) (F 3 8)) 6 (zn (F 3 7)) m) s m (F 3 7) h0 hj h6 ?_ _ 0 (Nat.zero_add _)
  refine z_aload iX6_addClass_57 rfl ?_
  refine z_dup iX6_addClass_58 rfl ?_
  refine e_getI iX6_addClass_59 fX6_38 rfl ?_
  try simp only [zup_ap, zfl_ap, Nat.reduceEqDiff, false_and, and_false, ↓reduceIte]
  refine z_iload iX6_addClass_62 rfl ?_
  refine z_iadd iX6_addClass_63 ?_
  refine e_putI iX6_addClass_64 fX6_38 fw6_8 rfl ?_
  refine z_aload iX6_addClass_67 rfl ?_
  refine z_dup iX6_addClass_68 rfl ?_
  refine e_getI iX6_addClass_69 fX6_34 rfl ?_
  try simp only [zup_ap, zfl_ap, Nat.reduceEqDiff, false_and, and_false, ↓reduceIte]
  refine z_push iX6_addClass_72 ?_
  refine z_iadd iX6_addClass_73 ?_
  refine e_putI iX6_addClass_74 fX6_34 fw6_7 rfl ?_
  refine z_iload iX6_addClass_77 rfl ?_
  exact e_iret iX6_addClass_78 rfl ⟨rfl, rfl⟩
end
section
set_option maxRecDepth 100000 in
theorem tJ9_max_7cf53 {L : Nat} (F : zFt) (x : Int32) (y : Int32) : zFn mJ9_max_7cf53 0 [.int x, .int y] L F (some (.int (zmx x y))) F := by
  refine e_of (lo := [some (.int x), some (.int y)]) (by decide +kernel) (Nat.le_of_ble_eq_true rfl) rfl ?_
  refine z_iload iJ9_max_7cf53_0 rfl ?_
  refine z_iload iJ9_max_7cf53_1 rfl ?_
  refine z_icmp_lt iJ9_max_7cf53_2 (fun c2 => ?_) (fun c2 => ?_)
  · refine z_iload iJ9_max_7cf53_9 rfl ?_
    exact e_iret iJ9_max_7cf53_10 rfl ⟨by simp [zmx, *], rfl⟩
  · refine z_iload iJ9_max_7cf53_5 rfl ?_
    refine z_goto iJ9_max_7cf53_6 ?_
    exact e_iret iJ9_max_7cf53_10 rfl ⟨by simp [zmx, *], rfl⟩

set_option maxRecDepth 100000 in
theorem tJ9_min_7cf53 {L : Nat} (F : zFt) (x : Int32) (y : Int32) : zFn mJ9_min_7cf53 0 [.int x, .int y] L F (some (.int (zmn x y))) F := by
  refine e_of (lo := [some (.int x), some (.int y)]) (by decide +kernel) (Nat.le_of_ble_eq_true rfl) rfl ?_
  refine z_iload iJ9_min_7cf53_0 rfl ?_
  refine z_iload iJ9_min_7cf53_1 rfl ?_
  refine z_icmp_gt iJ9_min_7cf53_2 (fun c2 => ?_) (fun c2 => ?_)
  · refine z_iload iJ9_min_7cf53_9 rfl ?_
    exact e_iret iJ9_min_7cf53_10 rfl ⟨by simp [zmn, *], rfl⟩
  · refine z_iload iJ9_min_7cf53_5 rfl ?_
    refine z_goto iJ9_min_7cf53_6 ?_
    exact e_iret iJ9_min_7cf53_10 rfl ⟨by simp [zmn, *], rfl⟩

set_option maxRecDepth 100000 in
theorem tX5_hasEvent {L : Nat} (F : zFt) (c : Int32) : zFn mX5_hasEvent 0 [.ref 11, .int c] L F (some (.int (zb (zin c (F 11 6))))) F := by
  refine e_of (lo := [some (.ref 11), some (.int c)]) (by decide +kernel) (Nat.le_of_ble_eq_true rfl) rfl ?_
  refine z_iload iX5_hasEvent_0 rfl ?_
  refine z_if_lt iX5_hasEvent_1 (fun c1 => ?_) (fun c1 => ?_)
  · refine z_push iX5_hasEvent_16 ?_
    exact e_bret iX5_hasEvent_17 rfl (by first | exact Or.inl rfl | exact Or.inr rfl | exact zb_01 _ | assumption) ⟨by simp [zb, zin, *], rfl⟩
  · refine z_iload iX5_hasEvent_4 rfl ?_
    refine z_aload iX5_hasEvent_5 rfl ?_
    refine e_getI iX5_hasEvent_6 fX5_28 rfl ?_
    refine z_icmp_ge iX5_hasEvent_9 (fun c9 => ?_) (fun c9 => ?_)
    · refine z_push iX5_hasEvent_16 ?_
      exact e_bret iX5_hasEvent_17 rfl (by first | exact Or.inl rfl | exact Or.inr rfl | exact zb_01 _ | assumption) ⟨by simp [zb, zin, *], rfl⟩
    · refine z_push iX5_hasEvent_12 ?_
      refine z_goto iX5_hasEvent_13 ?_
      exact e_bret iX5_hasEvent_17 rfl (by first | exact Or.inl rfl | exact Or.inr rfl | exact zb_01 _ | assumption) ⟨by simp [zb, zin, *], rfl⟩

abbrev cMi (F : zFt) (e j : Int32) : Int32 := e * 5 + j - F 5 (zn (F 9 (zn j)))

set_option maxRecDepth 100000 in
theorem tX5_markIndex {L : Nat} (F : zFt) (e : Int32) (j : Int32) (hj : vp_in j 60) (hc : vp_in (F 9 (zn j)) 12) : zFn mX5_markIndex 0 [.ref 11, .int e, .int j] L F (some (.int (cMi F e j))) F := by
  refine e_of (lo := [some (.ref 11), some (.int e), some (.int j)]) (by decide +kernel) (Nat.le_of_ble_eq_true rfl) rfl ?_
  refine z_iload iX5_markIndex_0 rfl ?_
  refine z_push iX5_markIndex_1 ?_
  refine z_imul iX5_markIndex_2 ?_
  refine z_iload iX5_markIndex_3 rfl ?_
  refine z_iadd iX5_markIndex_4 ?_
  refine z_aload iX5_markIndex_5 rfl ?_
  refine e_getR iX5_markIndex_6 fX5_41 rfl ?_
  refine e_getR iX5_markIndex_9 fX5_53 rfl ?_
  refine z_aload iX5_markIndex_12 rfl ?_
  refine e_getR iX5_markIndex_13 fX5_41 rfl ?_
  refine e_getR iX5_markIndex_16 fX5_58 rfl ?_
  refine z_iload iX5_markIndex_19 rfl ?_
  refine e_iald iX5_markIndex_20 rfl (by assumption) ?_
  refine e_iald iX5_markIndex_21 rfl (by assumption) ?_
  refine z_isub iX5_markIndex_22 ?_
  exact e_iret iX5_markIndex_23 rfl ⟨rfl, rfl⟩

set_option maxRecDepth 100000 in
theorem tX5_markBy {L : Nat} (F : zFt) (e : Int32) (j : Int32) (hj : vp_in j 60) (hc : vp_in (F 9 (zn j)) 12) (hi : vp_in (cMi F e j) 300) : zFn mX5_markBy 1 [.ref 11, .int e, .int j] L F (some (.int (F 18 (zn (cMi F e j))))) F := by
  refine e_of (lo := [some (.ref 11), some (.int e), some (.int j)]) (by decide +kernel) (Nat.le_of_ble_eq_true rfl) rfl ?_
  refine z_aload iX5_markBy_0 rfl ?_
  refine e_getR iX5_markBy_1 fX5_35 rfl ?_
  refine z_aload iX5_markBy_4 rfl ?_
  refine z_iload iX5_markBy_5 rfl ?_
  refine z_iload iX5_markBy_6 rfl ?_
  refine e_callV iX5_markBy_7 kX5_49 (tX5_markIndex F e j hj hc) rfl rfl rfl ⟨Nat.le_of_ble_eq_true rfl, Nat.le_of_ble_eq_true rfl⟩ ⟨Nat.le_of_ble_eq_true rfl, Nat.le_of_ble_eq_true rfl⟩ (Nat.le_of_ble_eq_true rfl) ?_
  dsimp only [Option.toList, List.cons_append, List.nil_append]
  refine e_iald iX5_markBy_10 rfl (by assumption) ?_
  exact e_iret iX5_markBy_11 rfl ⟨rfl, rfl⟩

set_option maxRecDepth 100000 in
theorem tX5_markAt {L : Nat} (F : zFt) (e : Int32) (s : Int32) (h : vp_in (e * 5 + s) 300) : zFn mX5_markAt 0 [.ref 11, .int e, .int s] L F (some (.int (F 18 (zn (e * 5 + s))))) F := by
  refine e_of (lo := [some (.ref 11), some (.int e), some (.int s)]) (by decide +kernel) (Nat.le_of_ble_eq_true rfl) rfl ?_
  refine z_aload iX5_markAt_0 rfl ?_
  refine e_getR iX5_markAt_1 fX5_35 rfl ?_
  refine z_iload iX5_markAt_4 rfl ?_
  refine z_push iX5_markAt_5 ?_
  refine z_imul iX5_markAt_6 ?_
  refine z_iload iX5_markAt_7 rfl ?_
  refine z_iadd iX5_markAt_8 ?_
  refine e_iald iX5_markAt_9 rfl (by assumption) ?_
  exact e_iret iX5_markAt_10 rfl ⟨rfl, rfl⟩

theorem ix5 {e : Int32} {s : Nat} (he : vp_in e 60) (hs : s < 5) : vp_in (e * 5 + nI s) 300 := by
  obtain ⟨j, hj, rfl⟩ := vin_of he
  rw [nI_m5, nI_add]
  exact vin_mk (by omega)
theorem ix8 {e : Int32} {s : Nat} (he : vp_in e 60) (hs : s < 8) : vp_in (e * 8 + nI s) 480 := by
  obtain ⟨j, hj, rfl⟩ := vin_of he
  rw [nI_m8, nI_add]
  exact vin_mk (by omega)
abbrev cSe (F : zFt) (e : Int32) : Int32 := F 6 (zn (F 10 (zn e)))
abbrev cMa (F : zFt) (e : Int32) (k : Nat) : Int32 := F 18 (zn (e * 5 + nI k))

abbrev gSu (F : zFt) (e : Int32) : Nat → Int32 → Int32 := fun k a => a + cMa F e k
abbrev gAz (F : zFt) (e : Int32) : Nat → Int32 → Int32 := fun k a => if cMa F e k ≤ 0 then a else a + 1

set_option maxRecDepth 100000 in
theorem lpX5_sumOfMarks {L : Nat} {Z : zZt} (F : zFt) (e : Int32) (he : vp_in e 60) (hc : vp_in (F 10 (zn e)) 12) (hs : zn (cSe F e) ≤ 5) (h0 : 0 ≤ (cSe F e).toInt) (kk : zEV mX5_sumOfMarks (zrm 1 0 0) Z 40 [some (.ref 11), some (.int e), some (.int (zfold (gSu F e) 0 (zn (cSe F e)))), some (.int (nI (zn (cSe F e))))] [] 111 (zE L (F)) 0 0) : ∀ (n a : Nat), a + n = zn (cSe F e) → zEV mX5_sumOfMarks (zrm 1 0 0) Z 4 [some (.ref 11), some (.int e), some (.int (zfold (gSu F e) 0 a)), some (.int (nI a))] [] 111 (zE L (F)) 0 0 := by
  intro n
  induction n with
  | zero =>
    intro a ha
    obtain rfl : a = zn (cSe F e) := by omega
    refine z_iload iX5_sumOfMarks_4 rfl ?_
    refine z_aload iX5_sumOfMarks_5 rfl ?_
    refine e_getR iX5_sumOfMarks_6 fX5_41 rfl ?_
    refine e_getR iX5_sumOfMarks_9 fX5_64 rfl ?_
    refine z_aload iX5_sumOfMarks_12 rfl ?_
    refine e_getR iX5_sumOfMarks_13 fX5_41 rfl ?_
    refine e_getR iX5_sumOfMarks_16 fX5_67 rfl ?_
    refine z_iload iX5_sumOfMarks_19 rfl ?_
    refine e_iald iX5_sumOfMarks_20 rfl (by assumption) ?_
    refine e_iald iX5_sumOfMarks_21 rfl (by assumption) ?_
    refine z_icmp_ge iX5_sumOfMarks_22 (fun c22 => ?_) (fun c22 => ?_)
    · exact kk
    · exact absurd (up_end h0 rfl) c22
  | succ n ih =>
    intro a ha
    refine z_iload iX5_sumOfMarks_4 rfl ?_
    refine z_aload iX5_sumOfMarks_5 rfl ?_
    refine e_getR iX5_sumOfMarks_6 fX5_41 rfl ?_
    refine e_getR iX5_sumOfMarks_9 fX5_64 rfl ?_
    refine z_aload iX5_sumOfMarks_12 rfl ?_
    refine e_getR iX5_sumOfMarks_13 fX5_41 rfl ?_
    refine e_getR iX5_sumOfMarks_16 fX5_67 rfl ?_
    refine z_iload iX5_sumOfMarks_19 rfl ?_
    refine e_iald iX5_sumOfMarks_20 rfl (by assumption) ?_
    refine e_iald iX5_sumOfMarks_21 rfl (by assumption) ?_
    refine z_icmp_ge iX5_sumOfMarks_22 (fun c22 => ?_) (fun c22 => ?_)
    · exact absurd c22 (up_in (x := (cSe F e)) (by omega))
    · refine z_iload iX5_sumOfMarks_25 rfl ?_
      refine z_aload iX5_sumOfMarks_26 rfl ?_
      refine z_iload iX5_sumOfMarks_27 rfl ?_
      refine z_iload iX5_sumOfMarks_28 rfl ?_
      refine e_callV iX5_sumOfMarks_29 kX5_61 (tX5_markAt F e (nI a) (ix5 he (by omega))) rfl rfl rfl ⟨Nat.le_of_ble_eq_true rfl, Nat.le_of_ble_eq_true rfl⟩ ⟨Nat.le_of_ble_eq_true rfl, Nat.le_of_ble_eq_true rfl⟩ (Nat.le_of_ble_eq_true rfl) ?_
      dsimp only [Option.toList, List.cons_append, List.nil_append]
      refine z_iadd iX5_sumOfMarks_32 ?_
      refine z_istore iX5_sumOfMarks_33 rfl ?_
      dsimp only [List.set_cons_zero, List.set_cons_succ]
      refine z_iinc (v := 1) iX5_sumOfMarks_34 (by decide) (by decide) rfl rfl ?_
      dsimp only [List.set_cons_zero, List.set_cons_succ]
      refine z_goto iX5_sumOfMarks_37 ?_
      exact z_to (by simp [zfold, nI_1, *]) rfl (ih (a + 1) (by omega))

set_option maxRecDepth 100000 in
theorem tX5_sumOfMarks {L : Nat} (F : zFt) (e : Int32) (he : vp_in e 60) (hc : vp_in (F 10 (zn e)) 12) (hs : zn (cSe F e) ≤ 5) (h0 : 0 ≤ (cSe F e).toInt) : zFn mX5_sumOfMarks 1 [.ref 11, .int e] L F (some (.int (zfold (gSu F e) 0 (zn (cSe F e))))) F := by
  refine e_of (lo := [some (.ref 11), some (.int e), none, none]) (by decide +kernel) (Nat.le_of_ble_eq_true rfl) rfl ?_
  refine z_push iX5_sumOfMarks_0 ?_
  refine z_istore iX5_sumOfMarks_1 rfl ?_
  dsimp only [List.set_cons_zero, List.set_cons_succ]
  refine z_push iX5_sumOfMarks_2 ?_
  refine z_istore iX5_sumOfMarks_3 rfl ?_
  dsimp only [List.set_cons_zero, List.set_cons_succ]
  refine lpX5_sumOfMarks F e he hc hs h0 ?_ _ 0 (Nat.zero_add _)
  refine z_iload iX5_sumOfMarks_40 rfl ?_
  exact e_iret iX5_sumOfMarks_41 rfl ⟨rfl, rfl⟩

set_option maxRecDepth 100000 in
theorem lpX5_marksAboveZero {L : Nat} {Z : zZt} (F : zFt) (e : Int32) (he : vp_in e 60) (hc : vp_in (F 10 (zn e)) 12) (hs : zn (cSe F e) ≤ 5) (h0 : 0 ≤ (cSe F e).toInt) (kk : zEV mX5_marksAboveZero (zrm 1 0 0) Z 43 [some (.ref 11), some (.int e), some (.int (zfold (gAz F e) 0 (zn (cSe F e)))), some (.int (nI (zn (cSe F e))))] [] 111 (zE L (F)) 0 0) : ∀ (n a : Nat), a + n = zn (cSe F e) → zEV mX5_marksAboveZero (zrm 1 0 0) Z 4 [some (.ref 11), some (.int e), some (.int (zfold (gAz F e) 0 a)), some (.int (nI a))] [] 111 (zE L (F)) 0 0 := by
  intro n
  induction n with
  | zero =>
    intro a ha
    obtain rfl : a = zn (cSe F e) := by omega
    refine z_iload iX5_marksAboveZero_4 rfl ?_
    refine z_aload iX5_marksAboveZero_5 rfl ?_
    refine e_getR iX5_marksAboveZero_6 fX5_41 rfl ?_
    refine e_getR iX5_marksAboveZero_9 fX5_64 rfl ?_
    refine z_aload iX5_marksAboveZero_12 rfl ?_
    refine e_getR iX5_marksAboveZero_13 fX5_41 rfl ?_
    refine e_getR iX5_marksAboveZero_16 fX5_67 rfl ?_
    refine z_iload iX5_marksAboveZero_19 rfl ?_
    refine e_iald iX5_marksAboveZero_20 rfl (by assumption) ?_
    refine e_iald iX5_marksAboveZero_21 rfl (by assumption) ?_
    refine z_icmp_ge iX5_marksAboveZero_22 (fun c22 => ?_) (fun c22 => ?_)
    · exact kk
    · exact absurd (up_end h0 rfl) c22
  | succ n ih =>
    intro a ha
    refine z_iload iX5_marksAboveZero_4 rfl ?_
    refine z_aload iX5_marksAboveZero_5 rfl ?_
    refine e_getR iX5_marksAboveZero_6 fX5_41 rfl ?_
    refine e_getR iX5_marksAboveZero_9 fX5_64 rfl ?_
    refine z_aload iX5_marksAboveZero_12 rfl ?_
    refine e_getR iX5_marksAboveZero_13 fX5_41 rfl ?_
    refine e_getR iX5_marksAboveZero_16 fX5_67 rfl ?_
    refine z_iload iX5_marksAboveZero_19 rfl ?_
    refine e_iald iX5_marksAboveZero_20 rfl (by assumption) ?_
    refine e_iald iX5_marksAboveZero_21 rfl (by assumption) ?_
    refine z_icmp_ge iX5_marksAboveZero_22 (fun c22 => ?_) (fun c22 => ?_)
    · exact absurd c22 (up_in (x := (cSe F e)) (by omega))
    · refine z_aload iX5_marksAboveZero_25 rfl ?_
      refine z_iload iX5_marksAboveZero_26 rfl ?_
      refine z_iload iX5_marksAboveZero_27 rfl ?_
      refine e_callV iX5_marksAboveZero_28 kX5_61 (tX5_markAt F e (nI a) (ix5 he (by omega))) rfl rfl rfl ⟨Nat.le_of_ble_eq_true rfl, Nat.le_of_ble_eq_true rfl⟩ ⟨Nat.le_of_ble_eq_true rfl, Nat.le_of_ble_eq_true rfl⟩ (Nat.le_of_ble_eq_true rfl) ?_
      dsimp only [Option.toList, List.cons_append, List.nil_append]
      refine z_if_le iX5_marksAboveZero_31 (fun c31 => ?_) (fun c31 => ?_)
      · refine z_iinc (v := 1) iX5_marksAboveZero_37 (by decide) (by decide) rfl rfl ?_
        dsimp only [List.set_cons_zero, List.set_cons_succ]
        refine z_goto iX5_marksAboveZero_40 ?_
        exact z_to (by simp [zfold, nI_1, *]) rfl (ih (a + 1) (by omega))
      · refine z_iinc (v := 1) iX5_marksAboveZero_34 (by decide) (by decide) rfl rfl ?_
        dsimp only [List.set_cons_zero, List.set_cons_succ]
        refine z_iinc (v := 1) iX5_marksAboveZero_37 (by decide) (by decide) rfl rfl ?_
        dsimp only [List.set_cons_zero, List.set_cons_succ]
        refine z_goto iX5_marksAboveZero_40 ?_
        exact z_to (by simp [zfold, nI_1, *]) rfl (ih (a + 1) (by omega))

set_option maxRecDepth 100000 in
theorem tX5_marksAboveZero {L : Nat} (F : zFt) (e : Int32) (he : vp_in e 60) (hc : vp_in (F 10 (zn e)) 12) (hs : zn (cSe F e) ≤ 5) (h0 : 0 ≤ (cSe F e).toInt) : zFn mX5_marksAboveZero 1 [.ref 11, .int e] L F (some (.int (zfold (gAz F e) 0 (zn (cSe F e))))) F := by
  refine e_of (lo := [some (.ref 11), some (.int e), none, none]) (by decide +kernel) (Nat.le_of_ble_eq_true rfl) rfl ?_
  refine z_push iX5_marksAboveZero_0 ?_
  refine z_istore iX5_marksAboveZero_1 rfl ?_
  dsimp only [List.set_cons_zero, List.set_cons_succ]
  refine z_push iX5_marksAboveZero_2 ?_
  refine z_istore iX5_marksAboveZero_3 rfl ?_
  dsimp only [List.set_cons_zero, List.set_cons_succ]
  refine lpX5_marksAboveZero F e he hc hs h0 ?_ _ 0 (Nat.zero_add _)
  refine z_iload iX5_marksAboveZero_43 rfl ?_
  exact e_iret iX5_marksAboveZero_44 rfl ⟨rfl, rfl⟩
end
section
abbrev gRb (F : zFt) (e : Int32) : Nat → Int32 → Int32 := fun k a => if F 19 (zn (e * 8 + nI k)) ≤ 0 then a else a ||| 1 <<< (nI k &&& 31)

set_option maxRecDepth 100000 in
theorem lpX5_remarkBits {L : Nat} {R : Room} {Z : zZt} (F : zFt) (e : Int32) (he : vp_in e 60) (kk : zEV mX5_remarkBits R Z 36 [some (.ref 11), some (.int e), some (.int (zfold (gRb F e) 0 (8))), some (.int (nI (8)))] [] 111 (zE L (F)) 0 0) : ∀ (n a : Nat), a + n = 8 → zEV mX5_remarkBits R Z 4 [some (.ref 11), some (.int e), some (.int (zfold (gRb F e) 0 a)), some (.int (nI a))] [] 111 (zE L (F)) 0 0 := by
  intro n
  induction n with
  | zero =>
    intro a ha
    obtain rfl : a = 8 := by omega
    refine z_iload iX5_remarkBits_4 rfl ?_
    refine z_push iX5_remarkBits_5 ?_
    refine z_icmp_ge iX5_remarkBits_7 (fun c7 => ?_) (fun c7 => ?_)
    · exact kk
    · exact absurd (by decide) c7
  | succ n ih =>
    intro a ha
    refine z_iload iX5_remarkBits_4 rfl ?_
    refine z_push iX5_remarkBits_5 ?_
    refine z_icmp_ge iX5_remarkBits_7 (fun c7 => ?_) (fun c7 => ?_)
    · exact absurd ((nI_le2 (a := 8) (by decide) (by omega)).mp c7) (by omega)
    · refine z_aload iX5_remarkBits_10 rfl ?_
      refine e_getR iX5_remarkBits_11 fX5_38 rfl ?_
      refine z_iload iX5_remarkBits_14 rfl ?_
      refine z_push iX5_remarkBits_15 ?_
      refine z_imul iX5_remarkBits_17 ?_
      refine z_iload iX5_remarkBits_18 rfl ?_
      refine z_iadd iX5_remarkBits_19 ?_
      refine e_iald iX5_remarkBits_20 rfl (ix8 he (by omega)) ?_
      refine z_if_le iX5_remarkBits_21 (fun c21 => ?_) (fun c21 => ?_)
      · refine z_iinc (v := 1) iX5_remarkBits_30 (by decide) (by decide) rfl rfl ?_
        dsimp only [List.set_cons_zero, List.set_cons_succ]
        refine z_goto iX5_remarkBits_33 ?_
        exact z_to (by simp [zfold, nI_1, *]) rfl (ih (a + 1) (by omega))
      · refine z_iload iX5_remarkBits_24 rfl ?_
        refine z_push iX5_remarkBits_25 ?_
        refine z_iload iX5_remarkBits_26 rfl ?_
        refine z_ishl iX5_remarkBits_27 ?_
        refine z_ior iX5_remarkBits_28 ?_
        refine z_istore iX5_remarkBits_29 rfl ?_
        dsimp only [List.set_cons_zero, List.set_cons_succ]
        refine z_iinc (v := 1) iX5_remarkBits_30 (by decide) (by decide) rfl rfl ?_
        dsimp only [List.set_cons_zero, List.set_cons_succ]
        refine z_goto iX5_remarkBits_33 ?_
        exact z_to (by simp [zfold, nI_1, *]) rfl (ih (a + 1) (by omega))

set_option maxRecDepth 100000 in
theorem tX5_remarkBits {L : Nat} (F : zFt) (e : Int32) (he : vp_in e 60) : zFn mX5_remarkBits 0 [.ref 11, .int e] L F (some (.int (zfold (gRb F e) 0 8))) F := by
  refine e_of (lo := [some (.ref 11), some (.int e), none, none]) (by decide +kernel) (Nat.le_of_ble_eq_true rfl) rfl ?_
  refine z_push iX5_remarkBits_0 ?_
  refine z_istore iX5_remarkBits_1 rfl ?_
  dsimp only [List.set_cons_zero, List.set_cons_succ]
  refine z_push iX5_remarkBits_2 ?_
  refine z_istore iX5_remarkBits_3 rfl ?_
  dsimp only [List.set_cons_zero, List.set_cons_succ]
  refine lpX5_remarkBits F e he ?_ 8 0 rfl
  refine z_iload iX5_remarkBits_36 rfl ?_
  exact e_iret iX5_remarkBits_37 rfl ⟨rfl, rfl⟩

abbrev ggreatestMark (F : zFt) (e : Int32) : Nat → Int32 → Int32 := fun k a => zmx a (cMa F e (k + 1))

set_option maxRecDepth 100000 in
theorem lpX5_greatestMark {L : Nat} {Z : zZt} (F : zFt) (e : Int32) (he : vp_in e 60) (hc : vp_in (F 10 (zn e)) 12) (hs : zn (cSe F e) ≤ 5) (h0 : 0 ≤ (cSe F e).toInt) (h1 : 0 < zn (cSe F e)) (kk : zEV mX5_greatestMark (zrm 1 0 0) Z 47 [some (.ref 11), some (.int e), some (.int (zfold (ggreatestMark F e) (cMa F e 0) (zn (cSe F e) - 1))), some (.int (nI ((zn (cSe F e) - 1) + 1)))] [] 111 (zE L (F)) 0 0) : ∀ (n a : Nat), a + n = zn (cSe F e) - 1 → zEV mX5_greatestMark (zrm 1 0 0) Z 9 [some (.ref 11), some (.int e), some (.int (zfold (ggreatestMark F e) (cMa F e 0) a)), some (.int (nI (a + 1)))] [] 111 (zE L (F)) 0 0 := by
  intro n
  induction n with
  | zero =>
    intro a ha
    obtain rfl : a = zn (cSe F e) - 1 := by omega
    refine z_iload iX5_greatestMark_9 rfl ?_
    refine z_aload iX5_greatestMark_10 rfl ?_
    refine e_getR iX5_greatestMark_11 fX5_41 rfl ?_
    refine e_getR iX5_greatestMark_14 fX5_64 rfl ?_
    refine z_aload iX5_greatestMark_17 rfl ?_
    refine e_getR iX5_greatestMark_18 fX5_41 rfl ?_
    refine e_getR iX5_greatestMark_21 fX5_67 rfl ?_
    refine z_iload iX5_greatestMark_24 rfl ?_
    refine e_iald iX5_greatestMark_25 rfl (by assumption) ?_
    refine e_iald iX5_greatestMark_26 rfl (by assumption) ?_
    refine z_icmp_ge iX5_greatestMark_27 (fun c27 => ?_) (fun c27 => ?_)
    · exact kk
    · exact absurd (up_end (x := cSe F e) h0 (by omega)) c27
  | succ n ih =>
    intro a ha
    refine z_iload iX5_greatestMark_9 rfl ?_
    refine z_aload iX5_greatestMark_10 rfl ?_
    refine e_getR iX5_greatestMark_11 fX5_41 rfl ?_
    refine e_getR iX5_greatestMark_14 fX5_64 rfl ?_
    refine z_aload iX5_greatestMark_17 rfl ?_
    refine e_getR iX5_greatestMark_18 fX5_41 rfl ?_
    refine e_getR iX5_greatestMark_21 fX5_67 rfl ?_
    refine z_iload iX5_greatestMark_24 rfl ?_
    refine e_iald iX5_greatestMark_25 rfl (by assumption) ?_
    refine e_iald iX5_greatestMark_26 rfl (by assumption) ?_
    refine z_icmp_ge iX5_greatestMark_27 (fun c27 => ?_) (fun c27 => ?_)
    · exact absurd c27 (up_in (x := cSe F e) (by omega))
    · refine z_iload iX5_greatestMark_30 rfl ?_
      refine z_aload iX5_greatestMark_31 rfl ?_
      refine z_iload iX5_greatestMark_32 rfl ?_
      refine z_iload iX5_greatestMark_33 rfl ?_
      refine e_callV iX5_greatestMark_34 kX5_61 (tX5_markAt F e (nI (a + 1)) (ix5 he (by omega))) rfl rfl rfl ⟨Nat.le_of_ble_eq_true rfl, Nat.le_of_ble_eq_true rfl⟩ ⟨Nat.le_of_ble_eq_true rfl, Nat.le_of_ble_eq_true rfl⟩ (Nat.le_of_ble_eq_true rfl) ?_
      dsimp only [Option.toList, List.cons_append, List.nil_append]
      refine e_callS iX5_greatestMark_37 kX5_70 (tJ9_max_7cf53 F _ _) rfl rfl ⟨Nat.le_of_ble_eq_true rfl, Nat.le_of_ble_eq_true rfl⟩ ⟨Nat.le_of_ble_eq_true rfl, Nat.le_of_ble_eq_true rfl⟩ (Nat.le_of_ble_eq_true rfl) ?_
      dsimp only [Option.toList, List.cons_append, List.nil_append]
      refine z_istore iX5_greatestMark_40 rfl ?_
      dsimp only [List.set_cons_zero, List.set_cons_succ]
      refine z_iinc (v := 1) iX5_greatestMark_41 (by decide) (by decide) rfl rfl ?_
      dsimp only [List.set_cons_zero, List.set_cons_succ]
      refine z_goto iX5_greatestMark_44 ?_
      exact z_to (by simp [zfold, nI_1, *]) rfl (ih (a + 1) (by omega))

set_option maxRecDepth 100000 in
theorem tX5_greatestMark {L : Nat} (F : zFt) (e : Int32) (he : vp_in e 60) (hc : vp_in (F 10 (zn e)) 12) (hs : zn (cSe F e) ≤ 5) (h0 : 0 ≤ (cSe F e).toInt) (h1 : 0 < zn (cSe F e)) : zFn mX5_greatestMark 1 [.ref 11, .int e] L F (some (.int (zfold (ggreatestMark F e) (cMa F e 0) (zn (cSe F e) - 1)))) F := by
  refine e_of (lo := [some (.ref 11), some (.int e), none, none]) (by decide +kernel) (Nat.le_of_ble_eq_true rfl) rfl ?_
  refine z_aload iX5_greatestMark_0 rfl ?_
  refine z_iload iX5_greatestMark_1 rfl ?_
  refine z_push iX5_greatestMark_2 ?_
  refine e_callV iX5_greatestMark_3 kX5_61 (tX5_markAt F e 0 (ix5 (s := 0) he (by omega))) rfl rfl rfl ⟨Nat.le_of_ble_eq_true rfl, Nat.le_of_ble_eq_true rfl⟩ ⟨Nat.le_of_ble_eq_true rfl, Nat.le_of_ble_eq_true rfl⟩ (Nat.le_of_ble_eq_true rfl) ?_
  dsimp only [Option.toList, List.cons_append, List.nil_append]
  refine z_istore iX5_greatestMark_6 rfl ?_
  dsimp only [List.set_cons_zero, List.set_cons_succ]
  refine z_push iX5_greatestMark_7 ?_
  refine z_istore iX5_greatestMark_8 rfl ?_
  dsimp only [List.set_cons_zero, List.set_cons_succ]
  refine lpX5_greatestMark F e he hc hs h0 h1 ?_ _ 0 (Nat.zero_add _)
  refine z_iload iX5_greatestMark_47 rfl ?_
  exact e_iret iX5_greatestMark_48 rfl ⟨rfl, rfl⟩

abbrev gleastMark (F : zFt) (e : Int32) : Nat → Int32 → Int32 := fun k a => zmn a (cMa F e (k + 1))

set_option maxRecDepth 100000 in
theorem lpX5_leastMark {L : Nat} {Z : zZt} (F : zFt) (e : Int32) (he : vp_in e 60) (hc : vp_in (F 10 (zn e)) 12) (hs : zn (cSe F e) ≤ 5) (h0 : 0 ≤ (cSe F e).toInt) (h1 : 0 < zn (cSe F e)) (kk : zEV mX5_leastMark (zrm 1 0 0) Z 47 [some (.ref 11), some (.int e), some (.int (zfold (gleastMark F e) (cMa F e 0) (zn (cSe F e) - 1))), some (.int (nI ((zn (cSe F e) - 1) + 1)))] [] 111 (zE L (F)) 0 0) : ∀ (n a : Nat), a + n = zn (cSe F e) - 1 → zEV mX5_leastMark (zrm 1 0 0) Z 9 [some (.ref 11), some (.int e), some (.int (zfold (gleastMark F e) (cMa F e 0) a)), some (.int (nI (a + 1)))] [] 111 (zE L (F)) 0 0 := by
  intro n
  induction n with
  | zero =>
    intro a ha
    obtain rfl : a = zn (cSe F e) - 1 := by omega
    refine z_iload iX5_leastMark_9 rfl ?_
    refine z_aload iX5_leastMark_10 rfl ?_
    refine e_getR iX5_leastMark_11 fX5_41 rfl ?_
    refine e_getR iX5_leastMark_14 fX5_64 rfl ?_
    refine z_aload iX5_leastMark_17 rfl ?_
    refine e_getR iX5_leastMark_18 fX5_41 rfl ?_
    refine e_getR iX5_leastMark_21 fX5_67 rfl ?_
    refine z_iload iX5_leastMark_24 rfl ?_
    refine e_iald iX5_leastMark_25 rfl (by assumption) ?_
    refine e_iald iX5_leastMark_26 rfl (by assumption) ?_
    refine z_icmp_ge iX5_leastMark_27 (fun c27 => ?_) (fun c27 => ?_)
    · exact kk
    · exact absurd (up_end (x := cSe F e) h0 (by omega)) c27
  | succ n ih =>
    intro a ha
    refine z_iload iX5_leastMark_9 rfl ?_
    refine z_aload iX5_leastMark_10 rfl ?_
    refine e_getR iX5_leastMark_11 fX5_41 rfl ?_
    refine e_getR iX5_leastMark_14 fX5_64 rfl ?_
    refine z_aload iX5_leastMark_17 rfl ?_
    refine e_getR iX5_leastMark_18 fX5_41 rfl ?_
    refine e_getR iX5_leastMark_21 fX5_67 rfl ?_
    refine z_iload iX5_leastMark_24 rfl ?_
    refine e_iald iX5_leastMark_25 rfl (by assumption) ?_
    refine e_iald iX5_leastMark_26 rfl (by assumption) ?_
    refine z_icmp_ge iX5_leastMark_27 (fun c27 => ?_) (fun c27 => ?_)
    · exact absurd c27 (up_in (x := cSe F e) (by omega))
    · refine z_iload iX5_leastMark_30 rfl ?_
      refine z_aload iX5_leastMark_31 rfl ?_
      refine z_iload iX5_leastMark_32 rfl ?_
      refine z_iload iX5_leastMark_33 rfl ?_
      refine e_callV iX5_leastMark_34 kX5_61 (tX5_markAt F e (nI (a + 1)) (ix5 he (by omega))) rfl rfl rfl ⟨Nat.le_of_ble_eq_true rfl, Nat.le_of_ble_eq_true rfl⟩ ⟨Nat.le_of_ble_eq_true rfl, Nat.le_of_ble_eq_true rfl⟩ (Nat.le_of_ble_eq_true rfl) ?_
      dsimp only [Option.toList, List.cons_append, List.nil_append]
      refine e_callS iX5_leastMark_37 kX5_75 (tJ9_min_7cf53 F _ _) rfl rfl ⟨Nat.le_of_ble_eq_true rfl, Nat.le_of_ble_eq_true rfl⟩ ⟨Nat.le_of_ble_eq_true rfl, Nat.le_of_ble_eq_true rfl⟩ (Nat.le_of_ble_eq_true rfl) ?_
      dsimp only [Option.toList, List.cons_append, List.nil_append]
      refine z_istore iX5_leastMark_40 rfl ?_
      dsimp only [List.set_cons_zero, List.set_cons_succ]
      refine z_iinc (v := 1) iX5_leastMark_41 (by decide) (by decide) rfl rfl ?_
      dsimp only [List.set_cons_zero, List.set_cons_succ]
      refine z_goto iX5_leastMark_44 ?_
      exact z_to (by simp [zfold, nI_1, *]) rfl (ih (a + 1) (by omega))

set_option maxRecDepth 100000 in
theorem tX5_leastMark {L : Nat} (F : zFt) (e : Int32) (he : vp_in e 60) (hc : vp_in (F 10 (zn e)) 12) (hs : zn (cSe F e) ≤ 5) (h0 : 0 ≤ (cSe F e).toInt) (h1 : 0 < zn (cSe F e)) : zFn mX5_leastMark 1 [.ref 11, .int e] L F (some (.int (zfold (gleastMark F e) (cMa F e 0) (zn (cSe F e) - 1)))) F := by
  refine e_of (lo := [some (.ref 11), some (.int e), none, none]) (by decide +kernel) (Nat.le_of_ble_eq_true rfl) rfl ?_
  refine z_aload iX5_leastMark_0 rfl ?_
  refine z_iload iX5_leastMark_1 rfl ?_
  refine z_push iX5_leastMark_2 ?_
  refine e_callV iX5_leastMark_3 kX5_61 (tX5_markAt F e 0 (ix5 (s := 0) he (by omega))) rfl rfl rfl ⟨Nat.le_of_ble_eq_true rfl, Nat.le_of_ble_eq_true rfl⟩ ⟨Nat.le_of_ble_eq_true rfl, Nat.le_of_ble_eq_true rfl⟩ (Nat.le_of_ble_eq_true rfl) ?_
  dsimp only [Option.toList, List.cons_append, List.nil_append]
  refine z_istore iX5_leastMark_6 rfl ?_
  dsimp only [List.set_cons_zero, List.set_cons_succ]
  refine z_push iX5_leastMark_7 ?_
  refine z_istore iX5_leastMark_8 rfl ?_
  dsimp only [List.set_cons_zero, List.set_cons_succ]
  refine lpX5_leastMark F e he hc hs h0 h1 ?_ _ 0 (Nat.zero_add _)
  refine z_iload iX5_leastMark_47 rfl ?_
  exact e_iret iX5_leastMark_48 rfl ⟨rfl, rfl⟩

abbrev gTp (F : zFt) (j e : Int32) : Nat → Int32 → Int32 := fun i a => if ¬ F 12 i = 0 then a else if ¬ F 13 i = j then a else if ¬ F 14 i = e then a else a + 1

set_option maxRecDepth 100000 in
theorem lpX5_timesPointed {L : Nat} {R : Room} {Z : zZt} (F : zFt) (j e : Int32) (h0 : 0 ≤ (F 11 6).toInt) (h4 : zn (F 11 6) ≤ 400) (kk : zEV mX5_timesPointed R Z 55 [some (.ref 11), some (.int j), some (.int e), some (.int (zfold (gTp F j e) 0 (zn (F 11 6)))), some (.int (nI (zn (F 11 6))))] [] 111 (zE L (F)) 0 0) : ∀ (n a : Nat), a + n = zn (F 11 6) → zEV mX5_timesPointed R Z 5 [some (.ref 11), some (.int j), some (.int e), some (.int (zfold (gTp F j e) 0 a)), some (.int (nI a))] [] 111 (zE L (F)) 0 0 := by
  intro n
  induction n with
  | zero =>
    intro a ha
    obtain rfl : a = zn (F 11 6) := by omega
    refine z_iload iX5_timesPointed_5 rfl ?_
    refine z_aload iX5_timesPointed_7 rfl ?_
    refine e_getI iX5_timesPointed_8 fX5_28 rfl ?_
    refine z_icmp_ge iX5_timesPointed_11 (fun c11 => ?_) (fun c11 => ?_)
    · exact kk
    · exact absurd (up_end h0 rfl) c11
  | succ n ih =>
    intro a ha
    refine z_iload iX5_timesPointed_5 rfl ?_
    refine z_aload iX5_timesPointed_7 rfl ?_
    refine e_getI iX5_timesPointed_8 fX5_28 rfl ?_
    refine z_icmp_ge iX5_timesPointed_11 (fun c11 => ?_) (fun c11 => ?_)
    · exact absurd c11 (up_in (x := (F 11 6)) (by omega))
    · refine z_aload iX5_timesPointed_14 rfl ?_
      refine e_getR iX5_timesPointed_15 fX5_9 rfl ?_
      refine z_iload iX5_timesPointed_18 rfl ?_
      refine e_iald iX5_timesPointed_20 rfl (vin_mk (n := 400) (by omega)) ?_
      rw [zn_nI (by omega)]
      refine z_if_ne iX5_timesPointed_21 (fun c21 => ?_) (fun c21 => ?_)
      · refine z_iinc (v := 1) iX5_timesPointed_49 (by decide) (by decide) rfl rfl ?_
        dsimp only [List.set_cons_zero, List.set_cons_succ]
        refine z_goto iX5_timesPointed_52 ?_
        exact z_to (by simp [zfold, nI_1, *]) rfl (ih (a + 1) (by omega))
      · refine z_aload iX5_timesPointed_24 rfl ?_
        refine e_getR iX5_timesPointed_25 fX5_15 rfl ?_
        refine z_iload iX5_timesPointed_28 rfl ?_
        refine e_iald iX5_timesPointed_30 rfl (vin_mk (n := 400) (by omega)) ?_
        rw [zn_nI (by omega)]
        refine z_iload iX5_timesPointed_31 rfl ?_
        refine z_icmp_ne iX5_timesPointed_32 (fun c32 => ?_) (fun c32 => ?_)
        · refine z_iinc (v := 1) iX5_timesPointed_49 (by decide) (by decide) rfl rfl ?_
          dsimp only [List.set_cons_zero, List.set_cons_succ]
          refine z_goto iX5_timesPointed_52 ?_
          exact z_to (by simp [zfold, nI_1, *]) rfl (ih (a + 1) (by omega))
        · refine z_aload iX5_timesPointed_35 rfl ?_
          refine e_getR iX5_timesPointed_36 fX5_18 rfl ?_
          refine z_iload iX5_timesPointed_39 rfl ?_
          refine e_iald iX5_timesPointed_41 rfl (vin_mk (n := 400) (by omega)) ?_
          rw [zn_nI (by omega)]
          refine z_iload iX5_timesPointed_42 rfl ?_
          refine z_icmp_ne iX5_timesPointed_43 (fun c43 => ?_) (fun c43 => ?_)
          · refine z_iinc (v := 1) iX5_timesPointed_49 (by decide) (by decide) rfl rfl ?_
            dsimp only [List.set_cons_zero, List.set_cons_succ]
            refine z_goto iX5_timesPointed_52 ?_
            exact z_to (by simp [zfold, nI_1, *]) rfl (ih (a + 1) (by omega))
          · refine z_iinc (v := 1) iX5_timesPointed_46 (by decide) (by decide) rfl rfl ?_
            dsimp only [List.set_cons_zero, List.set_cons_succ]
            refine z_iinc (v := 1) iX5_timesPointed_49 (by decide) (by decide) rfl rfl ?_
            dsimp only [List.set_cons_zero, List.set_cons_succ]
            refine z_goto iX5_timesPointed_52 ?_
            exact z_to (by simp [zfold, nI_1, *]) rfl (ih (a + 1) (by omega))

set_option maxRecDepth 100000 in
theorem tX5_timesPointed {L : Nat} (F : zFt) (j : Int32) (e : Int32) (h0 : 0 ≤ (F 11 6).toInt) (h4 : zn (F 11 6) ≤ 400) : zFn mX5_timesPointed 0 [.ref 11, .int j, .int e] L F (some (.int (zfold (gTp F j e) 0 (zn (F 11 6))))) F := by
  refine e_of (lo := [some (.ref 11), some (.int j), some (.int e), none, none]) (by decide +kernel) (Nat.le_of_ble_eq_true rfl) rfl ?_
  refine z_push iX5_timesPointed_0 ?_
  refine z_istore iX5_timesPointed_1 rfl ?_
  dsimp only [List.set_cons_zero, List.set_cons_succ]
  refine z_push iX5_timesPointed_2 ?_
  refine z_istore iX5_timesPointed_3 rfl ?_
  dsimp only [List.set_cons_zero, List.set_cons_succ]
  refine lpX5_timesPointed F j e h0 h4 ?_ _ 0 (Nat.zero_add _)
  refine z_iload iX5_timesPointed_55 rfl ?_
  exact e_iret iX5_timesPointed_56 rfl ⟨rfl, rfl⟩
end
section
def okE (F : zFt) (i : Nat) : Prop := vp_in (F 14 i) 60 ∧ (F 12 i = 0 → vp_in (F 13 i) 60 ∧ vp_in (F 9 (zn (F 13 i))) 12 ∧ vp_in (cMi F (F 14 i) (F 13 i)) 300) ∧ (¬ F 12 i = 0 → ¬ F 12 i = 1 → vp_in (F 14 i * 8 + F 15 i) 480)
/-- an event is made to count, or not to -/
def cSc (F : zFt) (i : Nat) (b : Int32) : zFt :=
  if F 16 i = b then F
  else if F 12 i = 0 then zup (zup F 16 i b) 18 (zn (cMi F (F 14 i) (F 13 i))) (F 18 (zn (cMi F (F 14 i) (F 13 i))) + (if b = 0 then -1 else 1) * F 15 i)
  else if F 12 i = 1 then zup (zup F 16 i b) 17 (zn (F 14 i)) (F 17 (zn (F 14 i)) + (if b = 0 then -1 else 1) * F 15 i)
  else zup (zup F 16 i b) 19 (zn (F 14 i * 8 + F 15 i)) (F 19 (zn (F 14 i * 8 + F 15 i)) + (if b = 0 then -1 else 1))

set_option maxRecDepth 100000 in
theorem tX5_setCounting {L : Nat} (F : zFt) (i : Int32) (b : Int32) (hi : vp_in i 400) (hb : b = 0 ∨ b = 1) (ho : okE F (zn i)) : zFn mX5_setCounting 1 [.ref 11, .int i, .int b] L F none (cSc F (zn i) b) := by
  refine e_of (lo := [some (.ref 11), some (.int i), some (.int b), none]) (by decide +kernel) (Nat.le_of_ble_eq_true rfl) rfl ?_
  refine z_aload iX5_setCounting_0 rfl ?_
  refine e_getR iX5_setCounting_1 fX5_24 rfl ?_
  refine z_iload iX5_setCounting_4 rfl ?_
  refine e_bald iX5_setCounting_5 rfl (by assumption) ?_
  refine z_iload iX5_setCounting_6 rfl ?_
  refine z_icmp_ne iX5_setCounting_7 (fun c7 => ?_) (fun c7 => ?_)
  · refine z_aload iX5_setCounting_11 rfl ?_
    refine e_getR iX5_setCounting_12 fX5_24 rfl ?_
    refine z_iload iX5_setCounting_15 rfl ?_
    refine z_iload iX5_setCounting_16 rfl ?_
    refine e_bast iX5_setCounting_17 rfl (by assumption) (by first | exact Or.inl rfl | exact Or.inr rfl | assumption) ?_
    refine z_iload iX5_setCounting_18 rfl ?_
    refine z_if_eq iX5_setCounting_19 (fun c19 => ?_) (fun c19 => ?_)
    · refine z_push iX5_setCounting_26 ?_
      refine z_istore iX5_setCounting_27 rfl ?_
      dsimp only [List.set_cons_zero, List.set_cons_succ]
      refine z_aload iX5_setCounting_28 rfl ?_
      refine e_getR iX5_setCounting_29 fX5_9 rfl ?_
      try simp only [cMi, zup_ap, Nat.reduceEqDiff, false_and, ↓reduceIte]
      refine z_iload iX5_setCounting_32 rfl ?_
      refine e_iald iX5_setCounting_33 rfl (by assumption) ?_
      try simp only [cMi, zup_ap, Nat.reduceEqDiff, false_and, ↓reduceIte]
      refine z_if_ne iX5_setCounting_34 (fun c34 => ?_) (fun c34 => ?_)
      · refine z_aload iX5_setCounting_72 rfl ?_
        refine e_getR iX5_setCounting_73 fX5_9 rfl ?_
        try simp only [cMi, zup_ap, Nat.reduceEqDiff, false_and, ↓reduceIte]
        refine z_iload iX5_setCounting_76 rfl ?_
        refine e_iald iX5_setCounting_77 rfl (by assumption) ?_
        try simp only [cMi, zup_ap, Nat.reduceEqDiff, false_and, ↓reduceIte]
        refine z_push iX5_setCounting_78 ?_
        refine z_icmp_ne iX5_setCounting_79 (fun c79 => ?_) (fun c79 => ?_)
        · refine z_aload iX5_setCounting_107 rfl ?_
          refine e_getR iX5_setCounting_108 fX5_38 rfl ?_
          try simp only [cMi, zup_ap, Nat.reduceEqDiff, false_and, ↓reduceIte]
          refine z_aload iX5_setCounting_111 rfl ?_
          refine e_getR iX5_setCounting_112 fX5_18 rfl ?_
          try simp only [cMi, zup_ap, Nat.reduceEqDiff, false_and, ↓reduceIte]
          refine z_iload iX5_setCounting_115 rfl ?_
          refine e_iald iX5_setCounting_116 rfl (by assumption) ?_
          try simp only [cMi, zup_ap, Nat.reduceEqDiff, false_and, ↓reduceIte]
          refine z_push iX5_setCounting_117 ?_
          refine z_imul iX5_setCounting_119 ?_
          refine z_aload iX5_setCounting_120 rfl ?_
          refine e_getR iX5_setCounting_121 fX5_21 rfl ?_
          try simp only [cMi, zup_ap, Nat.reduceEqDiff, false_and, ↓reduceIte]
          refine z_iload iX5_setCounting_124 rfl ?_
          refine e_iald iX5_setCounting_125 rfl (by assumption) ?_
          try simp only [cMi, zup_ap, Nat.reduceEqDiff, false_and, ↓reduceIte]
          refine z_iadd iX5_setCounting_126 ?_
          refine z_dup2 iX5_setCounting_127 rfl rfl ?_
          refine e_iald iX5_setCounting_128 rfl (ho.2.2 c34 c79) ?_
          try simp only [cMi, zup_ap, Nat.reduceEqDiff, false_and, ↓reduceIte]
          refine z_iload iX5_setCounting_129 rfl ?_
          refine z_iadd iX5_setCounting_130 ?_
          refine e_iast iX5_setCounting_131 rfl (ho.2.2 c34 c79) ?_
          exact e_vret iX5_setCounting_132 rfl ⟨rfl, by rw [cSc, if_neg c7, if_neg c34, if_neg c79]; simp only [c19, ↓reduceIte]⟩
        · refine z_aload iX5_setCounting_82 rfl ?_
          refine e_getR iX5_setCounting_83 fX5_32 rfl ?_
          try simp only [cMi, zup_ap, Nat.reduceEqDiff, false_and, ↓reduceIte]
          refine z_aload iX5_setCounting_86 rfl ?_
          refine e_getR iX5_setCounting_87 fX5_18 rfl ?_
          try simp only [cMi, zup_ap, Nat.reduceEqDiff, false_and, ↓reduceIte]
          refine z_iload iX5_setCounting_90 rfl ?_
          refine e_iald iX5_setCounting_91 rfl (by assumption) ?_
          try simp only [cMi, zup_ap, Nat.reduceEqDiff, false_and, ↓reduceIte]
          refine z_dup2 iX5_setCounting_92 rfl rfl ?_
          refine e_iald iX5_setCounting_93 rfl ho.1 ?_
          try simp only [cMi, zup_ap, Nat.reduceEqDiff, false_and, ↓reduceIte]
          refine z_iload iX5_setCounting_94 rfl ?_
          refine z_aload iX5_setCounting_95 rfl ?_
          refine e_getR iX5_setCounting_96 fX5_21 rfl ?_
          try simp only [cMi, zup_ap, Nat.reduceEqDiff, false_and, ↓reduceIte]
          refine z_iload iX5_setCounting_99 rfl ?_
          refine e_iald iX5_setCounting_100 rfl (by assumption) ?_
          try simp only [cMi, zup_ap, Nat.reduceEqDiff, false_and, ↓reduceIte]
          refine z_imul iX5_setCounting_101 ?_
          refine z_iadd iX5_setCounting_102 ?_
          refine e_iast iX5_setCounting_103 rfl ho.1 ?_
          refine z_goto iX5_setCounting_104 ?_
          exact e_vret iX5_setCounting_132 rfl ⟨rfl, by rw [cSc, if_neg c7, if_neg c34, if_pos c79]; simp only [c19, ↓reduceIte]⟩
      · refine z_aload iX5_setCounting_37 rfl ?_
        refine e_getR iX5_setCounting_38 fX5_35 rfl ?_
        try simp only [cMi, zup_ap, Nat.reduceEqDiff, false_and, ↓reduceIte]
        refine z_aload iX5_setCounting_41 rfl ?_
        refine z_aload iX5_setCounting_42 rfl ?_
        refine e_getR iX5_setCounting_43 fX5_18 rfl ?_
        try simp only [cMi, zup_ap, Nat.reduceEqDiff, false_and, ↓reduceIte]
        refine z_iload iX5_setCounting_46 rfl ?_
        refine e_iald iX5_setCounting_47 rfl (by assumption) ?_
        try simp only [cMi, zup_ap, Nat.reduceEqDiff, false_and, ↓reduceIte]
        refine z_aload iX5_setCounting_48 rfl ?_
        refine e_getR iX5_setCounting_49 fX5_15 rfl ?_
        try simp only [cMi, zup_ap, Nat.reduceEqDiff, false_and, ↓reduceIte]
        refine z_iload iX5_setCounting_52 rfl ?_
        refine e_iald iX5_setCounting_53 rfl (by assumption) ?_
        try simp only [cMi, zup_ap, Nat.reduceEqDiff, false_and, ↓reduceIte]
        refine e_callV iX5_setCounting_54 kX5_49 (tX5_markIndex (zup F 16 (zn i) b) (F 14 (zn i)) (F 13 (zn i)) (ho.2.1 c34).1 (ho.2.1 c34).2.1) rfl rfl rfl ⟨Nat.le_of_ble_eq_true rfl, Nat.le_of_ble_eq_true rfl⟩ ⟨Nat.le_of_ble_eq_true rfl, Nat.le_of_ble_eq_true rfl⟩ (Nat.le_of_ble_eq_true rfl) ?_
        dsimp only [Option.toList, List.cons_append, List.nil_append]
        try simp only [cMi, zup_ap, Nat.reduceEqDiff, false_and, ↓reduceIte]
        refine z_dup2 iX5_setCounting_57 rfl rfl ?_
        refine e_iald iX5_setCounting_58 rfl (ho.2.1 c34).2.2 ?_
        try simp only [cMi, zup_ap, Nat.reduceEqDiff, false_and, ↓reduceIte]
        refine z_iload iX5_setCounting_59 rfl ?_
        refine z_aload iX5_setCounting_60 rfl ?_
        refine e_getR iX5_setCounting_61 fX5_21 rfl ?_
        try simp only [cMi, zup_ap, Nat.reduceEqDiff, false_and, ↓reduceIte]
        refine z_iload iX5_setCounting_64 rfl ?_
        refine e_iald iX5_setCounting_65 rfl (by assumption) ?_
        try simp only [cMi, zup_ap, Nat.reduceEqDiff, false_and, ↓reduceIte]
        refine z_imul iX5_setCounting_66 ?_
        refine z_iadd iX5_setCounting_67 ?_
        refine e_iast iX5_setCounting_68 rfl (ho.2.1 c34).2.2 ?_
        refine z_goto iX5_setCounting_69 ?_
        exact e_vret iX5_setCounting_132 rfl ⟨rfl, by rw [cSc, if_neg c7, if_pos c34]; simp only [c19, ↓reduceIte]⟩
    · refine z_push iX5_setCounting_22 ?_
      refine z_goto iX5_setCounting_23 ?_
      refine z_istore iX5_setCounting_27 rfl ?_
      dsimp only [List.set_cons_zero, List.set_cons_succ]
      refine z_aload iX5_setCounting_28 rfl ?_
      refine e_getR iX5_setCounting_29 fX5_9 rfl ?_
      try simp only [cMi, zup_ap, Nat.reduceEqDiff, false_and, ↓reduceIte]
      refine z_iload iX5_setCounting_32 rfl ?_
      refine e_iald iX5_setCounting_33 rfl (by assumption) ?_
      try simp only [cMi, zup_ap, Nat.reduceEqDiff, false_and, ↓reduceIte]
      refine z_if_ne iX5_setCounting_34 (fun c34 => ?_) (fun c34 => ?_)
      · refine z_aload iX5_setCounting_72 rfl ?_
        refine e_getR iX5_setCounting_73 fX5_9 rfl ?_
        try simp only [cMi, zup_ap, Nat.reduceEqDiff, false_and, ↓reduceIte]
        refine z_iload iX5_setCounting_76 rfl ?_
        refine e_iald iX5_setCounting_77 rfl (by assumption) ?_
        try simp only [cMi, zup_ap, Nat.reduceEqDiff, false_and, ↓reduceIte]
        refine z_push iX5_setCounting_78 ?_
        refine z_icmp_ne iX5_setCounting_79 (fun c79 => ?_) (fun c79 => ?_)
        · refine z_aload iX5_setCounting_107 rfl ?_
          refine e_getR iX5_setCounting_108 fX5_38 rfl ?_
          try simp only [cMi, zup_ap, Nat.reduceEqDiff, false_and, ↓reduceIte]
          refine z_aload iX5_setCounting_111 rfl ?_
          refine e_getR iX5_setCounting_112 fX5_18 rfl ?_
          try simp only [cMi, zup_ap, Nat.reduceEqDiff, false_and, ↓reduceIte]
          refine z_iload iX5_setCounting_115 rfl ?_
          refine e_iald iX5_setCounting_116 rfl (by assumption) ?_
          try simp only [cMi, zup_ap, Nat.reduceEqDiff, false_and, ↓reduceIte]
          refine z_push iX5_setCounting_117 ?_
          refine z_imul iX5_setCounting_119 ?_
          refine z_aload iX5_setCounting_120 rfl ?_
          refine e_getR iX5_setCounting_121 fX5_21 rfl ?_
          try simp only [cMi, zup_ap, Nat.reduceEqDiff, false_and, ↓reduceIte]
          refine z_iload iX5_setCounting_124 rfl ?_
          refine e_iald iX5_setCounting_125 rfl (by assumption) ?_
          try simp only [cMi, zup_ap, Nat.reduceEqDiff, false_and, ↓reduceIte]
          refine z_iadd iX5_setCounting_126 ?_
          refine z_dup2 iX5_setCounting_127 rfl rfl ?_
          refine e_iald iX5_setCounting_128 rfl (ho.2.2 c34 c79) ?_
          try simp only [cMi, zup_ap, Nat.reduceEqDiff, false_and, ↓reduceIte]
          refine z_iload iX5_setCounting_129 rfl ?_
          refine z_iadd iX5_setCounting_130 ?_
          refine e_iast iX5_setCounting_131 rfl (ho.2.2 c34 c79) ?_
          exact e_vret iX5_setCounting_132 rfl ⟨rfl, by rw [cSc, if_neg c7, if_neg c34, if_neg c79]; simp only [c19, ↓reduceIte]⟩
        · refine z_aload iX5_setCounting_82 rfl ?_
          refine e_getR iX5_setCounting_83 fX5_32 rfl ?_
          try simp only [cMi, zup_ap, Nat.reduceEqDiff, false_and, ↓reduceIte]
          refine z_aload iX5_setCounting_86 rfl ?_
          refine e_getR iX5_setCounting_87 fX5_18 rfl ?_
          try simp only [cMi, zup_ap, Nat.reduceEqDiff, false_and, ↓reduceIte]
          refine z_iload iX5_setCounting_90 rfl ?_
          refine e_iald iX5_setCounting_91 rfl (by assumption) ?_
          try simp only [cMi, zup_ap, Nat.reduceEqDiff, false_and, ↓reduceIte]
          refine z_dup2 iX5_setCounting_92 rfl rfl ?_
          refine e_iald iX5_setCounting_93 rfl ho.1 ?_
          try simp only [cMi, zup_ap, Nat.reduceEqDiff, false_and, ↓reduceIte]
          refine z_iload iX5_setCounting_94 rfl ?_
          refine z_aload iX5_setCounting_95 rfl ?_
          refine e_getR iX5_setCounting_96 fX5_21 rfl ?_
          try simp only [cMi, zup_ap, Nat.reduceEqDiff, false_and, ↓reduceIte]
          refine z_iload iX5_setCounting_99 rfl ?_
          refine e_iald iX5_setCounting_100 rfl (by assumption) ?_
          try simp only [cMi, zup_ap, Nat.reduceEqDiff, false_and, ↓reduceIte]
          refine z_imul iX5_setCounting_101 ?_
          refine z_iadd iX5_setCounting_102 ?_
          refine e_iast iX5_setCounting_103 rfl ho.1 ?_
          refine z_goto iX5_setCounting_104 ?_
          exact e_vret iX5_setCounting_132 rfl ⟨rfl, by rw [cSc, if_neg c7, if_neg c34, if_pos c79]; simp only [c19, ↓reduceIte]⟩
      · refine z_aload iX5_setCounting_37 rfl ?_
        refine e_getR iX5_setCounting_38 fX5_35 rfl ?_
        try simp only [cMi, zup_ap, Nat.reduceEqDiff, false_and, ↓reduceIte]
        refine z_aload iX5_setCounting_41 rfl ?_
        refine z_aload iX5_setCounting_42 rfl ?_
        refine e_getR iX5_setCounting_43 fX5_18 rfl ?_
        try simp only [cMi, zup_ap, Nat.reduceEqDiff, false_and, ↓reduceIte]
        refine z_iload iX5_setCounting_46 rfl ?_
        refine e_iald iX5_setCounting_47 rfl (by assumption) ?_
        try simp only [cMi, zup_ap, Nat.reduceEqDiff, false_and, ↓reduceIte]
        refine z_aload iX5_setCounting_48 rfl ?_
        refine e_getR iX5_setCounting_49 fX5_15 rfl ?_
        try simp only [cMi, zup_ap, Nat.reduceEqDiff, false_and, ↓reduceIte]
        refine z_iload iX5_setCounting_52 rfl ?_
        refine e_iald iX5_setCounting_53 rfl (by assumption) ?_
        try simp only [cMi, zup_ap, Nat.reduceEqDiff, false_and, ↓reduceIte]
        refine e_callV iX5_setCounting_54 kX5_49 (tX5_markIndex (zup F 16 (zn i) b) (F 14 (zn i)) (F 13 (zn i)) (ho.2.1 c34).1 (ho.2.1 c34).2.1) rfl rfl rfl ⟨Nat.le_of_ble_eq_true rfl, Nat.le_of_ble_eq_true rfl⟩ ⟨Nat.le_of_ble_eq_true rfl, Nat.le_of_ble_eq_true rfl⟩ (Nat.le_of_ble_eq_true rfl) ?_
        dsimp only [Option.toList, List.cons_append, List.nil_append]
        try simp only [cMi, zup_ap, Nat.reduceEqDiff, false_and, ↓reduceIte]
        refine z_dup2 iX5_setCounting_57 rfl rfl ?_
        refine e_iald iX5_setCounting_58 rfl (ho.2.1 c34).2.2 ?_
        try simp only [cMi, zup_ap, Nat.reduceEqDiff, false_and, ↓reduceIte]
        refine z_iload iX5_setCounting_59 rfl ?_
        refine z_aload iX5_setCounting_60 rfl ?_
        refine e_getR iX5_setCounting_61 fX5_21 rfl ?_
        try simp only [cMi, zup_ap, Nat.reduceEqDiff, false_and, ↓reduceIte]
        refine z_iload iX5_setCounting_64 rfl ?_
        refine e_iald iX5_setCounting_65 rfl (by assumption) ?_
        try simp only [cMi, zup_ap, Nat.reduceEqDiff, false_and, ↓reduceIte]
        refine z_imul iX5_setCounting_66 ?_
        refine z_iadd iX5_setCounting_67 ?_
        refine e_iast iX5_setCounting_68 rfl (ho.2.1 c34).2.2 ?_
        refine z_goto iX5_setCounting_69 ?_
        exact e_vret iX5_setCounting_132 rfl ⟨rfl, by rw [cSc, if_neg c7, if_pos c34]; simp only [c19, ↓reduceIte]⟩
  · exact e_vret iX5_setCounting_10 rfl ⟨rfl, by rw [cSc, if_pos c7]⟩

/-- the events behind are taken out one by one -/
def cCut (F : zFt) (ev : Nat) : Nat → zFt
  | 0 => F
  | a + 1 => zup (cSc (cCut F ev a) (ev - 1 - a) 0) 11 6 (nI (ev - 1 - a))
theorem cSc_ne (F : zFt) (i : Nat) (b : Int32) {k : Nat} (h : k ≠ 16) (h2 : k ≠ 17) (h3 : k ≠ 18) (h4 : k ≠ 19) (j : Nat) : cSc F i b k j = F k j := by
  unfold cSc
  split
  · rfl
  · split
    · simp [zup_ap, h, h3]
    · split
      · simp [zup_ap, h, h2]
      · simp [zup_ap, h, h4]
theorem cCut_ne (F : zFt) (ev : Nat) {k : Nat} (h0 : k ≠ 11) (h : k ≠ 16) (h2 : k ≠ 17) (h3 : k ≠ 18) (h4 : k ≠ 19) (j : Nat) : ∀ a, cCut F ev a k j = F k j
  | 0 => rfl
  | a + 1 => by
    rw [cCut, zup_ap, if_neg (by omega), cSc_ne _ _ _ h h2 h3 h4, cCut_ne F ev h0 h h2 h3 h4 j a]
theorem okE_eq {F G : zFt} {i : Nat} (h : okE F i) (e : ∀ k j, k = 5 ∨ k = 9 ∨ k = 12 ∨ k = 13 ∨ k = 14 ∨ k = 15 → G k j = F k j) : okE G i := by
  simp only [okE, cMi, e 5 _ (by decide), e 9 _ (by decide), e 12 _ (by decide), e 13 _ (by decide), e 14 _ (by decide), e 15 _ (by decide)]
  exact h
theorem okE_cut {F : zFt} {ev i : Nat} (h : okE F i) (a : Nat) : okE (cCut F ev a) i := okE_eq h (fun k j hk => cCut_ne F ev (by omega) (by omega) (by omega) (by omega) (by omega) j a)
theorem dn_1 {ev a : Nat} (h : a < ev) : nI (ev - a) - 1 = nI (ev - 1 - a) := by
  rw [nI_s1 (by omega), show ev - a - 1 = ev - 1 - a by omega]

set_option maxRecDepth 100000 in
theorem lpX5_cutTo {L : Nat} {Z : zZt} (F : zFt) (m : Int32) (h0 : 0 ≤ (F 11 6).toInt) (h4 : zn (F 11 6) ≤ 400) (hm : 0 ≤ m.toInt) (hle : zn m ≤ zn (F 11 6)) (ho : ∀ i, i < zn (F 11 6) → okE F i) (kk : zEV mX5_cutTo (zrm 2 0 0) Z 29 [some (.ref 11), some (.int m), some (.int (nI (zn (F 11 6) - (zn (F 11 6) - zn m)) - 1))] [] 111 (zE L (cCut F (zn (F 11 6)) (zn (F 11 6) - zn m))) 0 0) : ∀ (n a : Nat), a + n = zn (F 11 6) - zn m → zEV mX5_cutTo (zrm 2 0 0) Z 7 [some (.ref 11), some (.int m), some (.int (nI (zn (F 11 6) - a) - 1))] [] 111 (zE L (cCut F (zn (F 11 6)) a)) 0 0 := by
  intro n
  induction n with
  | zero =>
    intro a ha
    obtain rfl : a = zn (F 11 6) - zn m := by omega
    refine z_iload iX5_cutTo_7 rfl ?_
    refine z_iload iX5_cutTo_8 rfl ?_
    refine z_icmp_lt iX5_cutTo_9 (fun c9 => ?_) (fun c9 => ?_)
    · exact kk
    · refine absurd ?_ c9
      rw [show zn (F 11 6) - (zn (F 11 6) - zn m) = zn m by omega, nI_zn hm, Int32.lt_iff_toInt_lt, tI_sub]
      have := tI_hi m
      simp
      omega
  | succ n ih =>
    intro a ha
    refine z_iload iX5_cutTo_7 rfl ?_
    refine z_iload iX5_cutTo_8 rfl ?_
    refine z_icmp_lt iX5_cutTo_9 (fun c9 => ?_) (fun c9 => ?_)
    · refine absurd c9 ?_
      rw [dn_1 (by omega), Int32.lt_iff_toInt_lt, nI_int (by omega)]
      have := zn_int hm
      omega
    · rw [dn_1 (by omega)]
      refine z_aload iX5_cutTo_12 rfl ?_
      refine z_iload iX5_cutTo_13 rfl ?_
      refine z_push iX5_cutTo_14 ?_
      refine e_callV iX5_cutTo_15 kX5_45 (tX5_setCounting (cCut F (zn (F 11 6)) a) (nI (zn (F 11 6) - 1 - a)) 0 (vin_mk (by omega)) (Or.inl rfl) (by rw [zn_nI (by omega)]; exact okE_cut (ho _ (by omega)) a)) rfl rfl rfl ⟨Nat.le_of_ble_eq_true rfl, Nat.le_of_ble_eq_true rfl⟩ ⟨Nat.le_of_ble_eq_true rfl, Nat.le_of_ble_eq_true rfl⟩ (Nat.le_of_ble_eq_true rfl) ?_
      dsimp only [Option.toList, List.cons_append, List.nil_append]
      rw [zn_nI (by omega)]
      refine z_aload iX5_cutTo_18 rfl ?_
      refine z_iload iX5_cutTo_19 rfl ?_
      refine e_putI iX5_cutTo_20 fX5_28 fw5_6 rfl ?_
      refine z_iinc (v := (-1)) iX5_cutTo_23 (by decide) (by decide) rfl rfl ?_
      dsimp only [List.set_cons_zero, List.set_cons_succ]
      refine z_goto iX5_cutTo_26 ?_
      exact z_to (by rw [show zn (F 11 6) - 1 - a = zn (F 11 6) - (a + 1) by omega, Int32.sub_eq_add_neg]) rfl (ih (a + 1) (by omega))

set_option maxRecDepth 100000 in
theorem tX5_cutTo {L : Nat} (F : zFt) (m : Int32) (h0 : 0 ≤ (F 11 6).toInt) (h4 : zn (F 11 6) ≤ 400) (hm : 0 ≤ m.toInt) (hle : zn m ≤ zn (F 11 6)) (ho : ∀ i, i < zn (F 11 6) → okE F i) : zFn mX5_cutTo 2 [.ref 11, .int m] L F none (cCut F (zn (F 11 6)) (zn (F 11 6) - zn m)) := by
  refine e_of (lo := [some (.ref 11), some (.int m), none]) (by decide +kernel) (Nat.le_of_ble_eq_true rfl) rfl ?_
  refine z_aload iX5_cutTo_0 rfl ?_
  refine e_getI iX5_cutTo_1 fX5_28 rfl ?_
  refine z_push iX5_cutTo_4 ?_
  refine z_isub iX5_cutTo_5 ?_
  refine z_istore iX5_cutTo_6 rfl ?_
  dsimp only [List.set_cons_zero, List.set_cons_succ]
  refine z_to (lo' := [some (.ref 11), some (.int m), some (.int (nI (zn (F 11 6) - 0) - 1))]) (by rw [Nat.sub_zero, nI_zn h0]) rfl (lpX5_cutTo F m h0 h4 hm hle ho ?_ _ 0 (Nat.zero_add _))
  exact e_vret iX5_cutTo_29 rfl ⟨rfl, rfl⟩

abbrev cAp0 (F : zFt) (s j e m : Int32) : zFt := zup (zup (zup (zup (zup (zup F 12 (zn (F 11 6)) s) 13 (zn (F 11 6)) j) 14 (zn (F 11 6)) e) 15 (zn (F 11 6)) m) 16 (zn (F 11 6)) 0) 11 6 (F 11 6 + 1)

set_option maxRecDepth 100000 in
theorem tX5_append {L : Nat} (F : zFt) (s : Int32) (j : Int32) (e : Int32) (m : Int32) (hi : vp_in (F 11 6) 400) (ho : okE (cAp0 F s j e m) (zn (F 11 6))) : zFn mX5_append 2 [.ref 11, .int s, .int j, .int e, .int m] L F none (cSc (cAp0 F s j e m) (zn (F 11 6)) 1) := by
  refine e_of (lo := [some (.ref 11), some (.int s), some (.int j), some (.int e), some (.int m), none]) (by decide +kernel) (Nat.le_of_ble_eq_true rfl) rfl ?_
  refine z_aload iX5_append_0 rfl ?_
  refine e_getI iX5_append_1 fX5_28 rfl ?_
  refine z_istore iX5_append_4 rfl ?_
  dsimp only [List.set_cons_zero, List.set_cons_succ]
  refine z_aload iX5_append_6 rfl ?_
  refine e_getR iX5_append_7 fX5_9 rfl ?_
  refine z_iload iX5_append_10 rfl ?_
  refine z_iload iX5_append_12 rfl ?_
  refine e_iast iX5_append_13 rfl (by assumption) ?_
  refine z_aload iX5_append_14 rfl ?_
  refine e_getR iX5_append_15 fX5_15 rfl ?_
  try simp only [zup_ap, Nat.add_left_cancel_iff, Nat.reduceEqDiff, false_and, true_and, and_self, eq_self, ↓reduceIte]
  refine z_iload iX5_append_18 rfl ?_
  refine z_iload iX5_append_20 rfl ?_
  refine e_iast iX5_append_21 rfl (by assumption) ?_
  refine z_aload iX5_append_22 rfl ?_
  refine e_getR iX5_append_23 fX5_18 rfl ?_
  try simp only [zup_ap, Nat.add_left_cancel_iff, Nat.reduceEqDiff, false_and, true_and, and_self, eq_self, ↓reduceIte]
  refine z_iload iX5_append_26 rfl ?_
  refine z_iload iX5_append_28 rfl ?_
  refine e_iast iX5_append_29 rfl (by assumption) ?_
  refine z_aload iX5_append_30 rfl ?_
  refine e_getR iX5_append_31 fX5_21 rfl ?_
  try simp only [zup_ap, Nat.add_left_cancel_iff, Nat.reduceEqDiff, false_and, true_and, and_self, eq_self, ↓reduceIte]
  refine z_iload iX5_append_34 rfl ?_
  refine z_iload iX5_append_36 rfl ?_
  refine e_iast iX5_append_38 rfl (by assumption) ?_
  refine z_aload iX5_append_39 rfl ?_
  refine e_getR iX5_append_40 fX5_24 rfl ?_
  try simp only [zup_ap, Nat.add_left_cancel_iff, Nat.reduceEqDiff, false_and, true_and, and_self, eq_self, ↓reduceIte]
  refine z_iload iX5_append_43 rfl ?_
  refine z_push iX5_append_45 ?_
  refine e_bast iX5_append_46 rfl (by assumption) (by first | exact Or.inl rfl | exact Or.inr rfl | assumption) ?_
  refine z_aload iX5_append_47 rfl ?_
  refine z_dup iX5_append_48 rfl ?_
  refine e_getI iX5_append_49 fX5_28 rfl ?_
  try simp only [zup_ap, Nat.add_left_cancel_iff, Nat.reduceEqDiff, false_and, true_and, and_self, eq_self, ↓reduceIte]
  refine z_push iX5_append_52 ?_
  refine z_iadd iX5_append_53 ?_
  refine e_putI iX5_append_54 fX5_28 fw5_6 rfl ?_
  refine z_aload iX5_append_57 rfl ?_
  refine z_iload iX5_append_58 rfl ?_
  refine z_push iX5_append_60 ?_
  refine e_callV iX5_append_61 kX5_45 (tX5_setCounting (cAp0 F s j e m) (F 11 6) 1 hi (Or.inr rfl) ho) rfl rfl rfl ⟨Nat.le_of_ble_eq_true rfl, Nat.le_of_ble_eq_true rfl⟩ ⟨Nat.le_of_ble_eq_true rfl, Nat.le_of_ble_eq_true rfl⟩ (Nat.le_of_ble_eq_true rfl) ?_
  dsimp only [Option.toList, List.cons_append, List.nil_append]
  try simp only [zup_ap, Nat.add_left_cancel_iff, Nat.reduceEqDiff, false_and, true_and, and_self, eq_self, ↓reduceIte]
  exact e_vret iX5_append_64 rfl ⟨rfl, rfl⟩
end
section
theorem scI0 : ∀ s, s < 8 → zgI (5 * s + 35) 4 0 = true := by decide
theorem scI1 : ∀ s, s < 8 → zgI (5 * s + 35) 4 1 = true := by decide
theorem scI2 : ∀ s, s < 8 → zgI (5 * s + 35) 4 2 = true := by decide
theorem scI5 : ∀ s, s < 8 → zgI (5 * s + 35) 4 5 = true := by decide
theorem scI8 : ∀ s, s < 8 → zgI (5 * s + 35) 4 8 = true := by decide
theorem scR3 : ∀ s, s < 8 → zgR (5 * s + 35) 4 3 = some (5 * s + 36) := by decide
theorem scR4 : ∀ s, s < 8 → zgR (5 * s + 35) 4 4 = some (5 * s + 37) := by decide
theorem scR6 : ∀ s, s < 8 → zgR (5 * s + 35) 4 6 = some (5 * s + 38) := by decide
theorem scR7 : ∀ s, s < 8 → zgR (5 * s + 35) 4 7 = some (5 * s + 39) := by decide
theorem scA3 : ∀ s, s < 8 → zgA 0 (5 * s + 36) = some 16 := by decide
theorem scA4 : ∀ s, s < 8 → zgA 0 (5 * s + 37) = some 16 := by decide
theorem scA6 : ∀ s, s < 8 → zgA 0 (5 * s + 38) = some 8 := by decide
theorem scA7 : ∀ s, s < 8 → zgA 0 (5 * s + 39) = some 8 := by decide
theorem scO : ∀ s, s < 8 → zgO (5 * s + 35) 4 = true := by decide

set_option maxRecDepth 100000 in
theorem tX4_start {L : Nat} (F : zFt) (s : Nat) (hs : s < 8) (j : Int32) (e : Int32) (v : Int32) : zFn mX4_start 0 [.ref (5 * s + 35), .int j, .int e, .int v] L F none (zup (zup (zup (zup (zup F (5 * s + 35) 0 j) (5 * s + 35) 1 e) (5 * s + 35) 2 v) (5 * s + 35) 5 0) (5 * s + 35) 8 0) := by
  refine e_of (lo := [some (.ref (5 * s + 35)), some (.int j), some (.int e), some (.int v)]) (by decide +kernel) (Nat.le_of_ble_eq_true rfl) rfl ?_
  refine z_aload iX4_start_0 rfl ?_
  refine z_iload iX4_start_1 rfl ?_
  refine e_putI iX4_start_2 fX4_9 fw4_0 (scI0 s hs) ?_
  refine z_aload iX4_start_5 rfl ?_
  refine z_iload iX4_start_6 rfl ?_
  refine e_putI iX4_start_7 fX4_15 fw4_1 (scI1 s hs) ?_
  refine z_aload iX4_start_10 rfl ?_
  refine z_iload iX4_start_11 rfl ?_
  refine e_putI iX4_start_12 fX4_18 fw4_2 (scI2 s hs) ?_
  refine z_aload iX4_start_15 rfl ?_
  refine z_push iX4_start_16 ?_
  refine e_putI iX4_start_17 fX4_28 fw4_5 (scI5 s hs) ?_
  refine z_aload iX4_start_20 rfl ?_
  refine z_push iX4_start_21 ?_
  refine e_putI iX4_start_22 fX4_37 fw4_8 (scI8 s hs) ?_
  exact e_vret iX4_start_25 rfl ⟨rfl, rfl⟩

/-- the first place below n with this number, or -1 -/
def zfi (f : Nat → Int32) (x : Int32) : Nat → Nat → Int32
  | 0, _ => -1
  | n + 1, a => if f a = x then nI a else zfi f x n (a + 1)

set_option maxRecDepth 100000 in
theorem lpX4_indexOfSavepoint {L : Nat} {R : Room} (F : zFt) (s : Nat) (hs : s < 8) (x : Int32) (h0 : 0 ≤ (F (5 * s + 35) 5).toInt) (h16 : zn (F (5 * s + 35) 5) ≤ 16) : ∀ (n a : Nat), a + n = zn (F (5 * s + 35) 5) → zEV mX4_indexOfSavepoint R (zZf L (some (.int (zfi (fun i => F (5 * s + 36) i) x n a))) F) 2 [some (.ref (5 * s + 35)), some (.int x), some (.int (nI a))] [] 111 (zE L F) 0 0 := by
  intro n
  induction n with
  | zero =>
    intro a ha
    obtain rfl : a = zn (F (5 * s + 35) 5) := by omega
    refine z_iload iX4_indexOfSavepoint_2 rfl ?_
    refine z_aload iX4_indexOfSavepoint_3 rfl ?_
    refine e_getI iX4_indexOfSavepoint_4 fX4_28 (scI5 s hs) ?_
    refine z_icmp_ge iX4_indexOfSavepoint_7 (fun c7 => ?_) (fun c7 => ?_)
    · refine z_push iX4_indexOfSavepoint_28 ?_
      exact e_iret iX4_indexOfSavepoint_29 rfl ⟨rfl, rfl⟩
    · exact absurd (up_end h0 rfl) c7
  | succ n ih =>
    intro a ha
    refine z_iload iX4_indexOfSavepoint_2 rfl ?_
    refine z_aload iX4_indexOfSavepoint_3 rfl ?_
    refine e_getI iX4_indexOfSavepoint_4 fX4_28 (scI5 s hs) ?_
    refine z_icmp_ge iX4_indexOfSavepoint_7 (fun c7 => ?_) (fun c7 => ?_)
    · exact absurd c7 (up_in (x := F (5 * s + 35) 5) (by omega))
    · refine z_aload iX4_indexOfSavepoint_10 rfl ?_
      refine e_getR iX4_indexOfSavepoint_11 fX4_21 (scR3 s hs) ?_
      refine z_iload iX4_indexOfSavepoint_14 rfl ?_
      refine e_iald iX4_indexOfSavepoint_15 (scA3 s hs) (vin_mk (n := 16) (by omega)) ?_
      rw [zn_nI (by omega)]
      refine z_iload iX4_indexOfSavepoint_16 rfl ?_
      refine z_icmp_ne iX4_indexOfSavepoint_17 (fun c17 => ?_) (fun c17 => ?_)
      · refine z_iinc (v := 1) iX4_indexOfSavepoint_22 (by decide) (by decide) rfl rfl ?_
        dsimp only [List.set_cons_zero, List.set_cons_succ]
        refine z_goto iX4_indexOfSavepoint_25 ?_
        rw [zfi, if_neg c17]
        exact z_to (by simp [nI_1]) rfl (ih (a + 1) (by omega))
      · refine z_iload iX4_indexOfSavepoint_20 rfl ?_
        exact e_iret iX4_indexOfSavepoint_21 rfl ⟨by rw [zfi, if_pos c17], rfl⟩

set_option maxRecDepth 100000 in
theorem tX4_indexOfSavepoint {L : Nat} (F : zFt) (s : Nat) (hs : s < 8) (x : Int32) (h0 : 0 ≤ (F (5 * s + 35) 5).toInt) (h16 : zn (F (5 * s + 35) 5) ≤ 16) : zFn mX4_indexOfSavepoint 0 [.ref (5 * s + 35), .int x] L F (some (.int (zfi (fun i => F (5 * s + 36) i) x (zn (F (5 * s + 35) 5)) 0))) F := by
  refine e_of (lo := [some (.ref (5 * s + 35)), some (.int x), none]) (by decide +kernel) (Nat.le_of_ble_eq_true rfl) rfl ?_
  refine z_push iX4_indexOfSavepoint_0 ?_
  refine z_istore iX4_indexOfSavepoint_1 rfl ?_
  dsimp only [List.set_cons_zero, List.set_cons_succ]
  exact lpX4_indexOfSavepoint F s hs x h0 h16 _ 0 (Nat.zero_add _)

set_option maxRecDepth 100000 in
theorem tX4_addGuard {L : Nat} (F : zFt) (s : Nat) (hs : s < 8) (x : Int32) (y : Int32) (h : vp_in (F (5 * s + 35) 8) 8) : zFn mX4_addGuard 0 [.ref (5 * s + 35), .int x, .int y] L F none (zup (zup (zup F (5 * s + 38) (zn (F (5 * s + 35) 8)) x) (5 * s + 39) (zn (F (5 * s + 35) 8)) y) (5 * s + 35) 8 (F (5 * s + 35) 8 + 1)) := by
  refine e_of (lo := [some (.ref (5 * s + 35)), some (.int x), some (.int y)]) (by decide +kernel) (Nat.le_of_ble_eq_true rfl) rfl ?_
  refine z_aload iX4_addGuard_0 rfl ?_
  refine e_getR iX4_addGuard_1 fX4_31 (scR6 s hs) ?_
  refine z_aload iX4_addGuard_4 rfl ?_
  refine e_getI iX4_addGuard_5 fX4_37 (scI8 s hs) ?_
  refine z_iload iX4_addGuard_8 rfl ?_
  refine e_iast iX4_addGuard_9 (scA6 s hs) (by assumption) ?_
  refine z_aload iX4_addGuard_10 rfl ?_
  refine e_getR iX4_addGuard_11 fX4_34 (scR7 s hs) ?_
  try simp only [zup_ap, Nat.add_left_cancel_iff, Nat.reduceEqDiff, false_and, true_and, and_self, eq_self, ↓reduceIte]
  refine z_aload iX4_addGuard_14 rfl ?_
  refine e_getI iX4_addGuard_15 fX4_37 (scI8 s hs) ?_
  try simp only [zup_ap, Nat.add_left_cancel_iff, Nat.reduceEqDiff, false_and, true_and, and_self, eq_self, ↓reduceIte]
  refine z_iload iX4_addGuard_18 rfl ?_
  refine e_iast iX4_addGuard_19 (scA7 s hs) (by assumption) ?_
  refine z_aload iX4_addGuard_20 rfl ?_
  refine z_dup iX4_addGuard_21 rfl ?_
  refine e_getI iX4_addGuard_22 fX4_37 (scI8 s hs) ?_
  try simp only [zup_ap, Nat.add_left_cancel_iff, Nat.reduceEqDiff, false_and, true_and, and_self, eq_self, ↓reduceIte]
  refine z_push iX4_addGuard_25 ?_
  refine z_iadd iX4_addGuard_26 ?_
  refine e_putI iX4_addGuard_27 fX4_37 fw4_8 (scI8 s hs) ?_
  exact e_vret iX4_addGuard_30 rfl ⟨rfl, rfl⟩

/-- the rows move down by one from place p on -/
def cRm (F : zFt) (s p : Nat) : Nat → zFt
  | 0 => F
  | a + 1 => zup (zup (cRm F s p a) (5 * s + 36) (p + a) (cRm F s p a (5 * s + 36) (p + a + 1))) (5 * s + 37) (p + a) (cRm F s p a (5 * s + 37) (p + a + 1))
theorem cRm_ne (F : zFt) (s p : Nat) {k : Nat} (h1 : k ≠ 5 * s + 36) (h2 : k ≠ 5 * s + 37) (j : Nat) : ∀ a, cRm F s p a k j = F k j
  | 0 => rfl
  | a + 1 => by rw [cRm, zup_ap, if_neg (fun h => h2 h.1), zup_ap, if_neg (fun h => h1 h.1), cRm_ne F s p h1 h2 j a]

set_option maxRecDepth 100000 in
theorem lpX4_removeSavepoint {L : Nat} {R : Room} {Z : zZt} (F : zFt) (s : Nat) (hs : s < 8) (x : Int32) (h0 : 0 ≤ (F (5 * s + 35) 5).toInt) (h16 : zn (F (5 * s + 35) 5) ≤ 16) (hx : zn x < zn (F (5 * s + 35) 5)) (kk : zEV mX4_removeSavepoint R Z 46 [some (.ref (5 * s + 35)), some (.int x), some (.int (nI (zn x + (zn (F (5 * s + 35) 5) - zn x - 1) + 1)))] [] 111 (zE L (cRm F s (zn x) (zn (F (5 * s + 35) 5) - zn x - 1))) 0 0) : ∀ (n a : Nat), a + n = zn (F (5 * s + 35) 5) - zn x - 1 → zEV mX4_removeSavepoint R Z 4 [some (.ref (5 * s + 35)), some (.int x), some (.int (nI (zn x + a + 1)))] [] 111 (zE L (cRm F s (zn x) a)) 0 0 := by
  intro n
  induction n with
  | zero =>
    intro a ha
    obtain rfl : a = zn (F (5 * s + 35) 5) - zn x - 1 := by omega
    refine z_iload iX4_removeSavepoint_4 rfl ?_
    refine z_aload iX4_removeSavepoint_5 rfl ?_
    refine e_getI iX4_removeSavepoint_6 fX4_28 (scI5 s hs) ?_
    rw [cRm_ne F s (zn x) (by omega) (by omega)]
    refine z_icmp_ge iX4_removeSavepoint_9 (fun c9 => ?_) (fun c9 => ?_)
    · exact kk
    · exact absurd (up_end (x := F (5 * s + 35) 5) h0 (by omega)) c9
  | succ n ih =>
    intro a ha
    refine z_iload iX4_removeSavepoint_4 rfl ?_
    refine z_aload iX4_removeSavepoint_5 rfl ?_
    refine e_getI iX4_removeSavepoint_6 fX4_28 (scI5 s hs) ?_
    rw [cRm_ne F s (zn x) (by omega) (by omega)]
    refine z_icmp_ge iX4_removeSavepoint_9 (fun c9 => ?_) (fun c9 => ?_)
    · exact absurd c9 (up_in (x := F (5 * s + 35) 5) (by omega))
    · have e1 : nI (zn x + a + 1) - 1 = nI (zn x + a) := nI_pred _
      refine z_aload iX4_removeSavepoint_12 rfl ?_
      refine e_getR iX4_removeSavepoint_13 fX4_21 (scR3 s hs) ?_
      refine z_iload iX4_removeSavepoint_16 rfl ?_
      refine z_push iX4_removeSavepoint_17 ?_
      refine z_isub iX4_removeSavepoint_18 ?_
      refine z_aload iX4_removeSavepoint_19 rfl ?_
      refine e_getR iX4_removeSavepoint_20 fX4_21 (scR3 s hs) ?_
      refine z_iload iX4_removeSavepoint_23 rfl ?_
      refine e_iald iX4_removeSavepoint_24 (scA3 s hs) (vin_mk (n := 16) (by omega)) ?_
      rw [zn_nI (by omega)]
      refine e_iast iX4_removeSavepoint_25 (scA3 s hs) (by rw [e1]; exact vin_mk (n := 16) (by omega)) ?_
      rw [e1, zn_nI (by omega)]
      refine z_aload iX4_removeSavepoint_26 rfl ?_
      refine e_getR iX4_removeSavepoint_27 fX4_25 (scR4 s hs) ?_
      try simp only [zup_ap, Nat.add_left_cancel_iff, Nat.reduceEqDiff, false_and, true_and, and_self, eq_self, ↓reduceIte]
      refine z_iload iX4_removeSavepoint_30 rfl ?_
      refine z_push iX4_removeSavepoint_31 ?_
      refine z_isub iX4_removeSavepoint_32 ?_
      refine z_aload iX4_removeSavepoint_33 rfl ?_
      refine e_getR iX4_removeSavepoint_34 fX4_25 (scR4 s hs) ?_
      try simp only [zup_ap, Nat.add_left_cancel_iff, Nat.reduceEqDiff, false_and, true_and, and_self, eq_self, ↓reduceIte]
      refine z_iload iX4_removeSavepoint_37 rfl ?_
      refine e_iald iX4_removeSavepoint_38 (scA4 s hs) (vin_mk (n := 16) (by omega)) ?_
      try simp only [zup_ap, Nat.add_left_cancel_iff, Nat.reduceEqDiff, false_and, true_and, and_self, eq_self, ↓reduceIte]
      rw [zn_nI (by omega)]
      refine e_iast iX4_removeSavepoint_39 (scA4 s hs) (by rw [e1]; exact vin_mk (n := 16) (by omega)) ?_
      rw [e1, zn_nI (by omega)]
      refine z_iinc (v := 1) iX4_removeSavepoint_40 (by decide) (by decide) rfl rfl ?_
      dsimp only [List.set_cons_zero, List.set_cons_succ]
      refine z_goto iX4_removeSavepoint_43 ?_
      exact z_to (by simp [nI_1, Nat.add_assoc, Nat.add_comm, Nat.add_left_comm]) rfl (ih (a + 1) (by omega))

set_option maxRecDepth 100000 in
theorem tX4_removeSavepoint {L : Nat} (F : zFt) (s : Nat) (hs : s < 8) (x : Int32) (h0 : 0 ≤ (F (5 * s + 35) 5).toInt) (h16 : zn (F (5 * s + 35) 5) ≤ 16) (hx0 : 0 ≤ x.toInt) (hx : zn x < zn (F (5 * s + 35) 5)) : zFn mX4_removeSavepoint 0 [.ref (5 * s + 35), .int x] L F none (zup (cRm F s (zn x) (zn (F (5 * s + 35) 5) - zn x - 1)) (5 * s + 35) 5 (F (5 * s + 35) 5 - 1)) := by
  refine e_of (lo := [some (.ref (5 * s + 35)), some (.int x), none]) (by decide +kernel) (Nat.le_of_ble_eq_true rfl) rfl ?_
  refine z_iload iX4_removeSavepoint_0 rfl ?_
  refine z_push iX4_removeSavepoint_1 ?_
  refine z_iadd iX4_removeSavepoint_2 ?_
  refine z_istore iX4_removeSavepoint_3 rfl ?_
  dsimp only [List.set_cons_zero, List.set_cons_succ]
  refine z_to (lo' := [some (.ref (5 * s + 35)), some (.int x), some (.int (nI (zn x + 0 + 1)))]) (by rw [Nat.add_zero, ← nI_1, nI_zn hx0]) rfl (lpX4_removeSavepoint F s hs x h0 h16 hx ?_ _ 0 (Nat.zero_add _))
  refine z_aload iX4_removeSavepoint_46 rfl ?_
  refine z_dup iX4_removeSavepoint_47 rfl ?_
  refine e_getI iX4_removeSavepoint_48 fX4_28 (scI5 s hs) ?_
  rw [cRm_ne F s (zn x) (by omega) (by omega)]
  refine z_push iX4_removeSavepoint_51 ?_
  refine z_isub iX4_removeSavepoint_52 ?_
  refine e_putI iX4_removeSavepoint_53 fX4_28 fw4_5 (scI5 s hs) ?_
  exact e_vret iX4_removeSavepoint_56 rfl ⟨rfl, rfl⟩

theorem zfi_lt (f : Nat → Int32) (x : Int32) : ∀ (n a : Nat), a + n < 2147483648 → ¬ zfi f x n a < 0 → 0 ≤ (zfi f x n a).toInt ∧ zn (zfi f x n a) < a + n
  | 0, a, _, h => absurd (by rw [zfi]; decide) h
  | n + 1, a, hn, h => by
    by_cases hx : f a = x
    · rw [zfi, if_pos hx, nI_int (by omega), zn_nI (by omega)]
      omega
    · rw [zfi, if_neg hx] at h ⊢
      have := zfi_lt f x n (a + 1) (by omega) h
      omega
abbrev cIx (F : zFt) (s : Nat) (x : Int32) : Int32 := zfi (fun i => F (5 * s + 36) i) x (zn (F (5 * s + 35) 5)) 0
def cAs0 (F : zFt) (s : Nat) (x : Int32) : zFt := if cIx F s x < 0 then F else zup (cRm F s (zn (cIx F s x)) (zn (F (5 * s + 35) 5) - zn (cIx F s x) - 1)) (5 * s + 35) 5 (F (5 * s + 35) 5 - 1)
def cAs (F : zFt) (s : Nat) (x v : Int32) : zFt := zup (zup (zup (cAs0 F s x) (5 * s + 36) (zn (cAs0 F s x (5 * s + 35) 5)) x) (5 * s + 37) (zn (cAs0 F s x (5 * s + 35) 5)) v) (5 * s + 35) 5 (cAs0 F s x (5 * s + 35) 5 + 1)

set_option maxRecDepth 100000 in
theorem tX4_addSavepoint {L : Nat} (F : zFt) (s : Nat) (hs : s < 8) (x : Int32) (v : Int32) (h0 : 0 ≤ (F (5 * s + 35) 5).toInt) (h16 : zn (F (5 * s + 35) 5) ≤ 16) (hG : vp_in (cAs0 F s x (5 * s + 35) 5) 16) : zFn mX4_addSavepoint 1 [.ref (5 * s + 35), .int x, .int v] L F none (cAs F s x v) := by
  refine e_of (lo := [some (.ref (5 * s + 35)), some (.int x), some (.int v), none]) (by decide +kernel) (Nat.le_of_ble_eq_true rfl) rfl ?_
  have tail : ∀ G, G = cAs0 F s x → zEV mX4_addSavepoint (zrm 1 0 0) (zZf L none (cAs F s x v)) 15 [some (.ref (5 * s + 35)), some (.int x), some (.int v), some (.int (cIx F s x))] [] 111 (zE L G) 0 0 := by
    intro G hG2
    rw [← hG2] at hG
    refine z_aload iX4_addSavepoint_15 rfl ?_
    refine e_getR iX4_addSavepoint_16 fX4_21 (scR3 s hs) ?_
    refine z_aload iX4_addSavepoint_19 rfl ?_
    refine e_getI iX4_addSavepoint_20 fX4_28 (scI5 s hs) ?_
    refine z_iload iX4_addSavepoint_23 rfl ?_
    refine e_iast iX4_addSavepoint_24 (scA3 s hs) (by assumption) ?_
    refine z_aload iX4_addSavepoint_25 rfl ?_
    refine e_getR iX4_addSavepoint_26 fX4_25 (scR4 s hs) ?_
    try simp only [zup_ap, Nat.add_left_cancel_iff, Nat.reduceEqDiff, false_and, true_and, and_self, eq_self, ↓reduceIte]
    refine z_aload iX4_addSavepoint_29 rfl ?_
    refine e_getI iX4_addSavepoint_30 fX4_28 (scI5 s hs) ?_
    try simp only [zup_ap, Nat.add_left_cancel_iff, Nat.reduceEqDiff, false_and, true_and, and_self, eq_self, ↓reduceIte]
    refine z_iload iX4_addSavepoint_33 rfl ?_
    refine e_iast iX4_addSavepoint_34 (scA4 s hs) (by assumption) ?_
    refine z_aload iX4_addSavepoint_35 rfl ?_
    refine z_dup iX4_addSavepoint_36 rfl ?_
    refine e_getI iX4_addSavepoint_37 fX4_28 (scI5 s hs) ?_
    try simp only [zup_ap, Nat.add_left_cancel_iff, Nat.reduceEqDiff, false_and, true_and, and_self, eq_self, ↓reduceIte]
    refine z_push iX4_addSavepoint_40 ?_
    refine z_iadd iX4_addSavepoint_41 ?_
    refine e_putI iX4_addSavepoint_42 fX4_28 fw4_5 (scI5 s hs) ?_
    exact e_vret iX4_addSavepoint_45 rfl ⟨rfl, by rw [hG2]; rfl⟩
  refine z_aload iX4_addSavepoint_0 rfl ?_
  refine z_iload iX4_addSavepoint_1 rfl ?_
  refine e_callV iX4_addSavepoint_2 kX4_40 (tX4_indexOfSavepoint F s hs x h0 h16) rfl rfl (scO s hs) ⟨Nat.le_of_ble_eq_true rfl, Nat.le_of_ble_eq_true rfl⟩ ⟨Nat.le_of_ble_eq_true rfl, Nat.le_of_ble_eq_true rfl⟩ (Nat.le_of_ble_eq_true rfl) ?_
  dsimp only [Option.toList, List.cons_append, List.nil_append]
  refine z_istore iX4_addSavepoint_5 rfl ?_
  dsimp only [List.set_cons_zero, List.set_cons_succ]
  refine z_iload iX4_addSavepoint_6 rfl ?_
  refine z_if_lt iX4_addSavepoint_7 (fun c7 => ?_) (fun c7 => ?_)
  · exact tail _ (by rw [cAs0, if_pos c7])
  · refine z_aload iX4_addSavepoint_10 rfl ?_
    refine z_iload iX4_addSavepoint_11 rfl ?_
    refine e_callV iX4_addSavepoint_12 kX4_44 (tX4_removeSavepoint F s hs (cIx F s x) h0 h16 (zfi_lt _ x _ 0 (by omega) c7).1 (by have h := (zfi_lt _ x _ 0 (by omega) c7).2; rw [Nat.zero_add] at h; exact h)) rfl rfl (scO s hs) ⟨Nat.le_of_ble_eq_true rfl, Nat.le_of_ble_eq_true rfl⟩ ⟨Nat.le_of_ble_eq_true rfl, Nat.le_of_ble_eq_true rfl⟩ (Nat.le_of_ble_eq_true rfl) ?_
    dsimp only [Option.toList, List.cons_append, List.nil_append]
    exact tail _ (by rw [cAs0, if_neg c7])
end
section
set_option maxRecDepth 100000 in
theorem tX3_add {L : Nat} (F : zFt) (x : Int32) (y : Int32) (z : Int32) (h : vp_in (F 25 3) 24) : zFn mX3_add 0 [.ref 25, .int x, .int y, .int z] L F (some (.int (F 25 3))) (zup (zup (zup (zup F 26 (zn (F 25 3)) x) 27 (zn (F 25 3)) y) 28 (zn (F 25 3)) z) 25 3 (F 25 3 + 1)) := by
  refine e_of (lo := [some (.ref 25), some (.int x), some (.int y), some (.int z), none]) (by decide +kernel) (Nat.le_of_ble_eq_true rfl) rfl ?_
  refine z_aload iX3_add_0 rfl ?_
  refine e_getI iX3_add_1 fX3_21 rfl ?_
  refine z_istore iX3_add_4 rfl ?_
  dsimp only [List.set_cons_zero, List.set_cons_succ]
  refine z_aload iX3_add_6 rfl ?_
  refine e_getR iX3_add_7 fX3_9 rfl ?_
  refine z_iload iX3_add_10 rfl ?_
  refine z_iload iX3_add_12 rfl ?_
  refine e_iast iX3_add_13 rfl (by assumption) ?_
  refine z_aload iX3_add_14 rfl ?_
  refine e_getR iX3_add_15 fX3_15 rfl ?_
  try simp only [zup_ap, Nat.add_left_cancel_iff, Nat.reduceEqDiff, false_and, true_and, and_self, eq_self, ↓reduceIte]
  refine z_iload iX3_add_18 rfl ?_
  refine z_iload iX3_add_20 rfl ?_
  refine e_iast iX3_add_21 rfl (by assumption) ?_
  refine z_aload iX3_add_22 rfl ?_
  refine e_getR iX3_add_23 fX3_18 rfl ?_
  try simp only [zup_ap, Nat.add_left_cancel_iff, Nat.reduceEqDiff, false_and, true_and, and_self, eq_self, ↓reduceIte]
  refine z_iload iX3_add_26 rfl ?_
  refine z_iload iX3_add_28 rfl ?_
  refine e_iast iX3_add_29 rfl (by assumption) ?_
  refine z_aload iX3_add_30 rfl ?_
  refine z_dup iX3_add_31 rfl ?_
  refine e_getI iX3_add_32 fX3_21 rfl ?_
  try simp only [zup_ap, Nat.add_left_cancel_iff, Nat.reduceEqDiff, false_and, true_and, and_self, eq_self, ↓reduceIte]
  refine z_push iX3_add_35 ?_
  refine z_iadd iX3_add_36 ?_
  refine e_putI iX3_add_37 fX3_21 fw3_3 rfl ?_
  refine z_iload iX3_add_40 rfl ?_
  exact e_iret iX3_add_42 rfl ⟨rfl, rfl⟩

def cLo (F : zFt) (x : Int32) : Bool := !decide (F 11 6 - 1 < 0) && (decide (F 12 (zn (F 11 6 - 1)) = 0) && (decide (x < F 15 (zn (F 11 6 - 1))) || !decide (0 ≤ lg_cmp (F 15 (zn (F 11 6 - 1))).toInt64 (-x.toInt64))))

set_option maxRecDepth 100000 in
theorem tX3_latestIsOutOfRange {L : Nat} (F : zFt) (x : Int32) (h : ¬ F 11 6 - 1 < 0 → vp_in (F 11 6 - 1) 400) : zFn mX3_latestIsOutOfRange 0 [.int x, .ref 11] L F (some (.int (zb (cLo F x)))) F := by
  refine e_of (lo := [some (.int x), some (.ref 11), none]) (by decide +kernel) (Nat.le_of_ble_eq_true rfl) rfl ?_
  refine z_aload iX3_latestIsOutOfRange_0 rfl ?_
  refine e_getI iX3_latestIsOutOfRange_1 fX3_53 rfl ?_
  refine z_push iX3_latestIsOutOfRange_4 ?_
  refine z_isub iX3_latestIsOutOfRange_5 ?_
  refine z_istore iX3_latestIsOutOfRange_6 rfl ?_
  dsimp only [List.set_cons_zero, List.set_cons_succ]
  refine z_iload iX3_latestIsOutOfRange_7 rfl ?_
  refine z_if_lt iX3_latestIsOutOfRange_8 (fun c8 => ?_) (fun c8 => ?_)
  · refine z_push iX3_latestIsOutOfRange_20 ?_
    exact e_bret iX3_latestIsOutOfRange_21 rfl (by first | exact Or.inl rfl | exact Or.inr rfl | exact zb_01 _ | assumption) ⟨by simp [zb, cLo, *], rfl⟩
  · refine z_aload iX3_latestIsOutOfRange_11 rfl ?_
    refine e_getR iX3_latestIsOutOfRange_12 fX3_56 rfl ?_
    refine z_iload iX3_latestIsOutOfRange_15 rfl ?_
    refine e_iald iX3_latestIsOutOfRange_16 rfl (h c8) ?_
    refine z_if_eq iX3_latestIsOutOfRange_17 (fun c17 => ?_) (fun c17 => ?_)
    · refine z_aload iX3_latestIsOutOfRange_22 rfl ?_
      refine e_getR iX3_latestIsOutOfRange_23 fX3_59 rfl ?_
      refine z_iload iX3_latestIsOutOfRange_26 rfl ?_
      refine e_iald iX3_latestIsOutOfRange_27 rfl (h c8) ?_
      refine z_iload iX3_latestIsOutOfRange_28 rfl ?_
      refine z_icmp_gt iX3_latestIsOutOfRange_29 (fun c29 => ?_) (fun c29 => ?_)
      · refine z_push iX3_latestIsOutOfRange_46 ?_
        refine z_goto iX3_latestIsOutOfRange_47 ?_
        exact e_bret iX3_latestIsOutOfRange_51 rfl (by first | exact Or.inl rfl | exact Or.inr rfl | exact zb_01 _ | assumption) ⟨by simp [zb, cLo, *], rfl⟩
      · refine z_aload iX3_latestIsOutOfRange_32 rfl ?_
        refine e_getR iX3_latestIsOutOfRange_33 fX3_59 rfl ?_
        refine z_iload iX3_latestIsOutOfRange_36 rfl ?_
        refine e_iald iX3_latestIsOutOfRange_37 rfl (h c8) ?_
        refine z_i2l iX3_latestIsOutOfRange_38 ?_
        refine z_iload iX3_latestIsOutOfRange_39 rfl ?_
        refine z_i2l iX3_latestIsOutOfRange_40 ?_
        refine z_lneg iX3_latestIsOutOfRange_41 ?_
        refine z_lcmp iX3_latestIsOutOfRange_42 ?_
        refine z_if_ge iX3_latestIsOutOfRange_43 (fun c43 => ?_) (fun c43 => ?_)
        · refine z_push iX3_latestIsOutOfRange_50 ?_
          exact e_bret iX3_latestIsOutOfRange_51 rfl (by first | exact Or.inl rfl | exact Or.inr rfl | exact zb_01 _ | assumption) ⟨by simp [zb, cLo, *], rfl⟩
        · refine z_push iX3_latestIsOutOfRange_46 ?_
          refine z_goto iX3_latestIsOutOfRange_47 ?_
          exact e_bret iX3_latestIsOutOfRange_51 rfl (by first | exact Or.inl rfl | exact Or.inr rfl | exact zb_01 _ | assumption) ⟨by simp [zb, cLo, *], rfl⟩
    · refine z_push iX3_latestIsOutOfRange_20 ?_
      exact e_bret iX3_latestIsOutOfRange_21 rfl (by first | exact Or.inl rfl | exact Or.inr rfl | exact zb_01 _ | assumption) ⟨by simp [zb, cLo, *], rfl⟩

abbrev sJ (F : zFt) (s : Nat) : Int32 := F (5 * s + 35) 0
abbrev sE (F : zFt) (s : Nat) : Int32 := F (5 * s + 35) 1
/-- a rule holds -/
def cHo (F : zFt) (r : Int32) (s : Nat) : Bool :=
  let a := F 28 (zn r)
  if (F 27 (zn r)).toInt = 2 then cLo F a
  else if (F 27 (zn r)).toInt = 3 then !decide (zfold (gTp F (sJ F s) (sE F s)) 0 (zn (F 11 6)) < 2) && !decide (zfold (gTp F (sJ F s) (sE F s)) 0 (zn (F 11 6)) ≤ a)
  else if (F 27 (zn r)).toInt = 5 then !decide (F 18 (zn (cMi F (sE F s) (sJ F s))) ≤ a)
  else if (F 27 (zn r)).toInt = 6 then !decide (a ≤ F 18 (zn (cMi F (sE F s) (sJ F s))))
  else if (F 27 (zn r)).toInt = 8 then !decide (zfold (ggreatestMark F (sE F s)) (cMa F (sE F s) 0) (zn (cSe F (sE F s)) - 1) - zfold (gleastMark F (sE F s)) (cMa F (sE F s) 0) (zn (cSe F (sE F s)) - 1) ≤ a)
  else if (F 27 (zn r)).toInt = 10 then !decide (F 11 6 ≤ a)
  else false
/-- what the judge and the entry of a scoring must be for it -/
def okS (F : zFt) (s : Nat) : Prop := vp_in (sJ F s) 60 ∧ vp_in (F 9 (zn (sJ F s))) 12 ∧ vp_in (cMi F (sE F s) (sJ F s)) 300 ∧ vp_in (sE F s) 60 ∧ vp_in (F 10 (zn (sE F s))) 12 ∧ zn (cSe F (sE F s)) ≤ 5 ∧ 0 ≤ (cSe F (sE F s)).toInt ∧ 0 < zn (cSe F (sE F s))

set_option maxRecDepth 100000 in
theorem tX3_holds {L : Nat} (F : zFt) (r : Int32) (s : Nat) (hs : s < 8) (hr : vp_in r 24) (h0 : 0 ≤ (F 11 6).toInt) (h4 : zn (F 11 6) ≤ 400) (ho : okS F s) : zFn mX3_holds 2 [.ref 25, .int r, .ref (5 * s + 35), .ref 11] L F (some (.int (zb (cHo F r s)))) F := by
  refine e_of (lo := [some (.ref 25), some (.int r), some (.ref (5 * s + 35)), some (.ref 11), none, none]) (by decide +kernel) (Nat.le_of_ble_eq_true rfl) rfl ?_
  have hlat : ¬ F 11 6 - 1 < 0 → vp_in (F 11 6 - 1) 400 := by
    intro h
    have e := nI_zn h0
    rw [← e] at h ⊢
    rcases Nat.eq_zero_or_pos (zn (F 11 6)) with z | z
    · rw [z] at h
      exact absurd (by decide) h
    · rw [nI_s1 z]
      exact vin_mk (by omega)
  refine z_aload iX3_holds_0 rfl ?_
  refine e_getR iX3_holds_1 fX3_18 rfl ?_
  refine z_iload iX3_holds_4 rfl ?_
  refine e_iald iX3_holds_5 rfl (by assumption) ?_
  refine z_istore iX3_holds_6 rfl ?_
  dsimp only [List.set_cons_zero, List.set_cons_succ]
  refine z_aload iX3_holds_8 rfl ?_
  refine e_getR iX3_holds_9 fX3_15 rfl ?_
  refine z_iload iX3_holds_12 rfl ?_
  refine e_iald iX3_holds_13 rfl (by assumption) ?_
  refine z_tsw iX3_holds_14 (fun j t hj hx => ?_) (fun hx => ?_)
  · match j, hj with
    | 0, hj =>
      cases hj
      refine z_iload iX3_holds_64 rfl ?_
      refine z_aload iX3_holds_66 rfl ?_
      refine e_callS iX3_holds_67 kX3_25 (tX3_latestIsOutOfRange F (F 28 (zn r)) hlat) rfl rfl ⟨Nat.le_of_ble_eq_true rfl, Nat.le_of_ble_eq_true rfl⟩ ⟨Nat.le_of_ble_eq_true rfl, Nat.le_of_ble_eq_true rfl⟩ (Nat.le_of_ble_eq_true rfl) ?_
      dsimp only [Option.toList, List.cons_append, List.nil_append]
      exact e_bret iX3_holds_70 rfl (by first | exact Or.inl rfl | exact Or.inr rfl | exact zb_01 _ | assumption) ⟨by simp [zb, cHo, hx, *], rfl⟩
    | 1, hj =>
      cases hj
      refine z_aload iX3_holds_71 rfl ?_
      refine z_aload iX3_holds_72 rfl ?_
      refine e_getI iX3_holds_73 fX3_29 (scI0 s hs) ?_
      refine z_aload iX3_holds_76 rfl ?_
      refine e_getI iX3_holds_77 fX3_34 (scI1 s hs) ?_
      refine e_callV iX3_holds_80 kX3_37 (tX5_timesPointed F (sJ F s) (sE F s) h0 h4) rfl rfl rfl ⟨Nat.le_of_ble_eq_true rfl, Nat.le_of_ble_eq_true rfl⟩ ⟨Nat.le_of_ble_eq_true rfl, Nat.le_of_ble_eq_true rfl⟩ (Nat.le_of_ble_eq_true rfl) ?_
      dsimp only [Option.toList, List.cons_append, List.nil_append]
      refine z_istore iX3_holds_83 rfl ?_
      dsimp only [List.set_cons_zero, List.set_cons_succ]
      refine z_iload iX3_holds_85 rfl ?_
      refine z_push iX3_holds_87 ?_
      refine z_icmp_lt iX3_holds_88 (fun c88 => ?_) (fun c88 => ?_)
      · refine z_push iX3_holds_102 ?_
        exact e_bret iX3_holds_103 rfl (by first | exact Or.inl rfl | exact Or.inr rfl | exact zb_01 _ | assumption) ⟨by simp [zb, cHo, hx, *], rfl⟩
      · refine z_iload iX3_holds_91 rfl ?_
        refine z_iload iX3_holds_93 rfl ?_
        refine z_icmp_le iX3_holds_95 (fun c95 => ?_) (fun c95 => ?_)
        · refine z_push iX3_holds_102 ?_
          exact e_bret iX3_holds_103 rfl (by first | exact Or.inl rfl | exact Or.inr rfl | exact zb_01 _ | assumption) ⟨by simp [zb, cHo, hx, *], rfl⟩
        · refine z_push iX3_holds_98 ?_
          refine z_goto iX3_holds_99 ?_
          exact e_bret iX3_holds_103 rfl (by first | exact Or.inl rfl | exact Or.inr rfl | exact zb_01 _ | assumption) ⟨by simp [zb, cHo, hx, *], rfl⟩
    | 2, hj =>
      cases hj
      refine z_push iX3_holds_193 ?_
      exact e_bret iX3_holds_194 rfl (by first | exact Or.inl rfl | exact Or.inr rfl | exact zb_01 _ | assumption) ⟨by simp [zb, cHo, hx, *], rfl⟩
    | 3, hj =>
      cases hj
      refine z_aload iX3_holds_104 rfl ?_
      refine z_aload iX3_holds_105 rfl ?_
      refine e_getI iX3_holds_106 fX3_34 (scI1 s hs) ?_
      refine z_aload iX3_holds_109 rfl ?_
      refine e_getI iX3_holds_110 fX3_29 (scI0 s hs) ?_
      refine e_callV iX3_holds_113 kX3_43 (tX5_markBy F (sE F s) (sJ F s) ho.1 ho.2.1 ho.2.2.1) rfl rfl rfl ⟨Nat.le_of_ble_eq_true rfl, Nat.le_of_ble_eq_true rfl⟩ ⟨Nat.le_of_ble_eq_true rfl, Nat.le_of_ble_eq_true rfl⟩ (Nat.le_of_ble_eq_true rfl) ?_
      dsimp only [Option.toList, List.cons_append, List.nil_append]
      refine z_iload iX3_holds_116 rfl ?_
      refine z_icmp_le iX3_holds_118 (fun c118 => ?_) (fun c118 => ?_)
      · refine z_push iX3_holds_125 ?_
        exact e_bret iX3_holds_126 rfl (by first | exact Or.inl rfl | exact Or.inr rfl | exact zb_01 _ | assumption) ⟨by simp [zb, cHo, hx, *], rfl⟩
      · refine z_push iX3_holds_121 ?_
        refine z_goto iX3_holds_122 ?_
        exact e_bret iX3_holds_126 rfl (by first | exact Or.inl rfl | exact Or.inr rfl | exact zb_01 _ | assumption) ⟨by simp [zb, cHo, hx, *], rfl⟩
    | 4, hj =>
      cases hj
      refine z_aload iX3_holds_127 rfl ?_
      refine z_aload iX3_holds_128 rfl ?_
      refine e_getI iX3_holds_129 fX3_34 (scI1 s hs) ?_
      refine z_aload iX3_holds_132 rfl ?_
      refine e_getI iX3_holds_133 fX3_29 (scI0 s hs) ?_
      refine e_callV iX3_holds_136 kX3_43 (tX5_markBy F (sE F s) (sJ F s) ho.1 ho.2.1 ho.2.2.1) rfl rfl rfl ⟨Nat.le_of_ble_eq_true rfl, Nat.le_of_ble_eq_true rfl⟩ ⟨Nat.le_of_ble_eq_true rfl, Nat.le_of_ble_eq_true rfl⟩ (Nat.le_of_ble_eq_true rfl) ?_
      dsimp only [Option.toList, List.cons_append, List.nil_append]
      refine z_iload iX3_holds_139 rfl ?_
      refine z_icmp_ge iX3_holds_141 (fun c141 => ?_) (fun c141 => ?_)
      · refine z_push iX3_holds_148 ?_
        exact e_bret iX3_holds_149 rfl (by first | exact Or.inl rfl | exact Or.inr rfl | exact zb_01 _ | assumption) ⟨by simp [zb, cHo, hx, *], rfl⟩
      · refine z_push iX3_holds_144 ?_
        refine z_goto iX3_holds_145 ?_
        exact e_bret iX3_holds_149 rfl (by first | exact Or.inl rfl | exact Or.inr rfl | exact zb_01 _ | assumption) ⟨by simp [zb, cHo, hx, *], rfl⟩
    | 5, hj =>
      cases hj
      refine z_push iX3_holds_193 ?_
      exact e_bret iX3_holds_194 rfl (by first | exact Or.inl rfl | exact Or.inr rfl | exact zb_01 _ | assumption) ⟨by simp [zb, cHo, hx, *], rfl⟩
    | 6, hj =>
      cases hj
      refine z_aload iX3_holds_150 rfl ?_
      refine z_aload iX3_holds_151 rfl ?_
      refine e_getI iX3_holds_152 fX3_34 (scI1 s hs) ?_
      refine e_callV iX3_holds_155 kX3_46 (tX5_greatestMark F (sE F s) ho.2.2.2.1 ho.2.2.2.2.1 ho.2.2.2.2.2.1 ho.2.2.2.2.2.2.1 ho.2.2.2.2.2.2.2) rfl rfl rfl ⟨Nat.le_of_ble_eq_true rfl, Nat.le_of_ble_eq_true rfl⟩ ⟨Nat.le_of_ble_eq_true rfl, Nat.le_of_ble_eq_true rfl⟩ (Nat.le_of_ble_eq_true rfl) ?_
      dsimp only [Option.toList, List.cons_append, List.nil_append]
      refine z_aload iX3_holds_158 rfl ?_
      refine z_aload iX3_holds_159 rfl ?_
      refine e_getI iX3_holds_160 fX3_34 (scI1 s hs) ?_
      refine e_callV iX3_holds_163 kX3_50 (tX5_leastMark F (sE F s) ho.2.2.2.1 ho.2.2.2.2.1 ho.2.2.2.2.2.1 ho.2.2.2.2.2.2.1 ho.2.2.2.2.2.2.2) rfl rfl rfl ⟨Nat.le_of_ble_eq_true rfl, Nat.le_of_ble_eq_true rfl⟩ ⟨Nat.le_of_ble_eq_true rfl, Nat.le_of_ble_eq_true rfl⟩ (Nat.le_of_ble_eq_true rfl) ?_
      dsimp only [Option.toList, List.cons_append, List.nil_append]
      refine z_isub iX3_holds_166 ?_
      refine z_iload iX3_holds_167 rfl ?_
      refine z_icmp_le iX3_holds_169 (fun c169 => ?_) (fun c169 => ?_)
      · refine z_push iX3_holds_176 ?_
        exact e_bret iX3_holds_177 rfl (by first | exact Or.inl rfl | exact Or.inr rfl | exact zb_01 _ | assumption) ⟨by simp [zb, cHo, hx, *], rfl⟩
      · refine z_push iX3_holds_172 ?_
        refine z_goto iX3_holds_173 ?_
        exact e_bret iX3_holds_177 rfl (by first | exact Or.inl rfl | exact Or.inr rfl | exact zb_01 _ | assumption) ⟨by simp [zb, cHo, hx, *], rfl⟩
    | 7, hj =>
      cases hj
      refine z_push iX3_holds_193 ?_
      exact e_bret iX3_holds_194 rfl (by first | exact Or.inl rfl | exact Or.inr rfl | exact zb_01 _ | assumption) ⟨by simp [zb, cHo, hx, *], rfl⟩
    | 8, hj =>
      cases hj
      refine z_aload iX3_holds_178 rfl ?_
      refine e_getI iX3_holds_179 fX3_53 rfl ?_
      refine z_iload iX3_holds_182 rfl ?_
      refine z_icmp_le iX3_holds_184 (fun c184 => ?_) (fun c184 => ?_)
      · refine z_push iX3_holds_191 ?_
        exact e_bret iX3_holds_192 rfl (by first | exact Or.inl rfl | exact Or.inr rfl | exact zb_01 _ | assumption) ⟨by simp [zb, cHo, hx, *], rfl⟩
      · refine z_push iX3_holds_187 ?_
        refine z_goto iX3_holds_188 ?_
        exact e_bret iX3_holds_192 rfl (by first | exact Or.inl rfl | exact Or.inr rfl | exact zb_01 _ | assumption) ⟨by simp [zb, cHo, hx, *], rfl⟩
    | j + 9, hj => simp at hj
  · have e1 : ¬ (F 27 (zn r)).toInt = 2 := by simp at hx; omega
    have e2 : ¬ (F 27 (zn r)).toInt = 3 := by simp at hx; omega
    have e3 : ¬ (F 27 (zn r)).toInt = 5 := by simp at hx; omega
    have e4 : ¬ (F 27 (zn r)).toInt = 6 := by simp at hx; omega
    have e5 : ¬ (F 27 (zn r)).toInt = 8 := by simp at hx; omega
    have e6 : ¬ (F 27 (zn r)).toInt = 10 := by simp at hx; omega
    refine z_push iX3_holds_193 ?_
    exact e_bret iX3_holds_194 rfl (by first | exact Or.inl rfl | exact Or.inr rfl | exact zb_01 _ | assumption) ⟨by simp [zb, cHo, hx, *], rfl⟩
end
section
def cNo (c b : Int32) : Bool := !decide (c < 0) && (!decide (b ≤ c) && !decide (200 ≤ c))

set_option maxRecDepth 100000 in
theorem tX0_isNoted {L : Nat} (F : zFt) (c : Int32) : zFn mX0_isNoted 0 [.ref 29, .int c] L F (some (.int (zb (cNo c (F 29 1))))) F := by
  refine e_of (lo := [some (.ref 29), some (.int c)]) (by decide +kernel) (Nat.le_of_ble_eq_true rfl) rfl ?_
  refine z_iload iX0_isNoted_0 rfl ?_
  refine z_if_lt iX0_isNoted_1 (fun c1 => ?_) (fun c1 => ?_)
  · refine z_push iX0_isNoted_23 ?_
    exact e_bret iX0_isNoted_24 rfl (by first | exact Or.inl rfl | exact Or.inr rfl | exact zb_01 _ | assumption) ⟨by simp [zb, cNo, *], rfl⟩
  · refine z_iload iX0_isNoted_4 rfl ?_
    refine z_aload iX0_isNoted_5 rfl ?_
    refine e_getI iX0_isNoted_6 fX0_15 rfl ?_
    refine z_icmp_ge iX0_isNoted_9 (fun c9 => ?_) (fun c9 => ?_)
    · refine z_push iX0_isNoted_23 ?_
      exact e_bret iX0_isNoted_24 rfl (by first | exact Or.inl rfl | exact Or.inr rfl | exact zb_01 _ | assumption) ⟨by simp [zb, cNo, *], rfl⟩
    · refine z_iload iX0_isNoted_12 rfl ?_
      refine z_push iX0_isNoted_13 ?_
      refine z_icmp_ge iX0_isNoted_16 (fun c16 => ?_) (fun c16 => ?_)
      · refine z_push iX0_isNoted_23 ?_
        exact e_bret iX0_isNoted_24 rfl (by first | exact Or.inl rfl | exact Or.inr rfl | exact zb_01 _ | assumption) ⟨by simp [zb, cNo, *], rfl⟩
      · refine z_push iX0_isNoted_19 ?_
        refine z_goto iX0_isNoted_20 ?_
        exact e_bret iX0_isNoted_24 rfl (by first | exact Or.inl rfl | exact Or.inr rfl | exact zb_01 _ | assumption) ⟨by simp [zb, cNo, *], rfl⟩

/-- a failure is noted, or counted alone -/
def cAd (F : zFt) (a b c u v w : Int32) : zFt := if cNo (F 29 1) (F 29 1 + 1) = false then zup F 29 1 (F 29 1 + 1) else (zup (zup (zup (zup (zup (zup (zup F 29 1 (F 29 1 + 1)) 30 (zn (F 29 1 * 6)) a) 30 (zn (F 29 1 * 6 + 1)) b) 30 (zn (F 29 1 * 6 + 2)) c) 30 (zn (F 29 1 * 6 + 3)) u) 30 (zn (F 29 1 * 6 + 4)) v) 30 (zn (F 29 1 * 6 + 5)) w)
theorem ix6 {x : Int32} (h : vp_in x 200) : vp_in (x * 6) 1200 ∧ vp_in (x * 6 + 1) 1200 ∧ vp_in (x * 6 + 2) 1200 ∧ vp_in (x * 6 + 3) 1200 ∧ vp_in (x * 6 + 4) 1200 ∧ vp_in (x * 6 + 5) 1200 := by
  obtain ⟨j, hj, rfl⟩ := vin_of h
  simp only [nI_m6, nI_1, nI_p2, nI_p3, nI_p4, nI_p5]
  exact ⟨vin_mk (by omega), vin_mk (by omega), vin_mk (by omega), vin_mk (by omega), vin_mk (by omega), vin_mk (by omega)⟩
theorem cNo_in {c b : Int32} (h : cNo c b = true) : vp_in c 200 := by
  simp only [cNo, Bool.and_eq_true, Bool.not_eq_true', decide_eq_false_iff_not, Int32.lt_iff_toInt_lt, Int32.le_iff_toInt_le] at h
  rw [vin]
  simp at h
  omega

set_option maxRecDepth 100000 in
theorem tX0_add {L : Nat} (F : zFt) (a : Int32) (b : Int32) (c : Int32) (u : Int32) (v : Int32) (w : Int32) : zFn mX0_add 1 [.ref 29, .int a, .int b, .int c, .int u, .int v, .int w] L F (some (.int (F 29 1))) (cAd F a b c u v w) := by
  refine e_of (lo := [some (.ref 29), some (.int a), some (.int b), some (.int c), some (.int u), some (.int v), some (.int w), none, none]) (by decide +kernel) (Nat.le_of_ble_eq_true rfl) rfl ?_
  refine z_aload iX0_add_0 rfl ?_
  refine e_getI iX0_add_1 fX0_15 rfl ?_
  refine z_istore iX0_add_4 rfl ?_
  dsimp only [List.set_cons_zero, List.set_cons_succ]
  refine z_aload iX0_add_6 rfl ?_
  refine z_dup iX0_add_7 rfl ?_
  refine e_getI iX0_add_8 fX0_15 rfl ?_
  refine z_push iX0_add_11 ?_
  refine z_iadd iX0_add_12 ?_
  refine e_putI iX0_add_13 fX0_15 fw0_1 rfl ?_
  refine z_aload iX0_add_16 rfl ?_
  refine z_iload iX0_add_17 rfl ?_
  refine e_callV iX0_add_19 kX0_19 (tX0_isNoted (zup F 29 1 (F 29 1 + 1)) (F 29 1)) rfl rfl rfl ⟨Nat.le_of_ble_eq_true rfl, Nat.le_of_ble_eq_true rfl⟩ ⟨Nat.le_of_ble_eq_true rfl, Nat.le_of_ble_eq_true rfl⟩ (Nat.le_of_ble_eq_true rfl) ?_
  dsimp only [Option.toList, List.cons_append, List.nil_append]
  try simp only [zup_ap, Nat.add_left_cancel_iff, Nat.reduceEqDiff, false_and, true_and, and_self, eq_self, ↓reduceIte]
  refine z_if_eq iX0_add_22 (fun c22 => ?_) (fun c22 => ?_)
  · rw [zb_0] at c22
    refine z_iload iX0_add_93 rfl ?_
    exact e_iret iX0_add_95 rfl ⟨rfl, by rw [cAd, if_pos c22]⟩
  · have hn := cNo_in (zb_n.mp c22)
    refine z_iload iX0_add_25 rfl ?_
    refine z_push iX0_add_27 ?_
    refine z_imul iX0_add_29 ?_
    refine z_istore iX0_add_30 rfl ?_
    dsimp only [List.set_cons_zero, List.set_cons_succ]
    refine z_aload iX0_add_32 rfl ?_
    refine e_getR iX0_add_33 fX0_11 rfl ?_
    try simp only [zup_ap, Nat.add_left_cancel_iff, Nat.reduceEqDiff, false_and, true_and, and_self, eq_self, ↓reduceIte]
    refine z_iload iX0_add_36 rfl ?_
    refine z_iload iX0_add_38 rfl ?_
    refine e_iast iX0_add_39 rfl (ix6 hn).1 ?_
    refine z_aload iX0_add_40 rfl ?_
    refine e_getR iX0_add_41 fX0_11 rfl ?_
    try simp only [zup_ap, Nat.add_left_cancel_iff, Nat.reduceEqDiff, false_and, true_and, and_self, eq_self, ↓reduceIte]
    refine z_iload iX0_add_44 rfl ?_
    refine z_push iX0_add_46 ?_
    refine z_iadd iX0_add_47 ?_
    refine z_iload iX0_add_48 rfl ?_
    refine e_iast iX0_add_49 rfl (ix6 hn).2.1 ?_
    refine z_aload iX0_add_50 rfl ?_
    refine e_getR iX0_add_51 fX0_11 rfl ?_
    try simp only [zup_ap, Nat.add_left_cancel_iff, Nat.reduceEqDiff, false_and, true_and, and_self, eq_self, ↓reduceIte]
    refine z_iload iX0_add_54 rfl ?_
    refine z_push iX0_add_56 ?_
    refine z_iadd iX0_add_57 ?_
    refine z_iload iX0_add_58 rfl ?_
    refine e_iast iX0_add_59 rfl (ix6 hn).2.2.1 ?_
    refine z_aload iX0_add_60 rfl ?_
    refine e_getR iX0_add_61 fX0_11 rfl ?_
    try simp only [zup_ap, Nat.add_left_cancel_iff, Nat.reduceEqDiff, false_and, true_and, and_self, eq_self, ↓reduceIte]
    refine z_iload iX0_add_64 rfl ?_
    refine z_push iX0_add_66 ?_
    refine z_iadd iX0_add_67 ?_
    refine z_iload iX0_add_68 rfl ?_
    refine e_iast iX0_add_70 rfl (ix6 hn).2.2.2.1 ?_
    refine z_aload iX0_add_71 rfl ?_
    refine e_getR iX0_add_72 fX0_11 rfl ?_
    try simp only [zup_ap, Nat.add_left_cancel_iff, Nat.reduceEqDiff, false_and, true_and, and_self, eq_self, ↓reduceIte]
    refine z_iload iX0_add_75 rfl ?_
    refine z_push iX0_add_77 ?_
    refine z_iadd iX0_add_78 ?_
    refine z_iload iX0_add_79 rfl ?_
    refine e_iast iX0_add_81 rfl (ix6 hn).2.2.2.2.1 ?_
    refine z_aload iX0_add_82 rfl ?_
    refine e_getR iX0_add_83 fX0_11 rfl ?_
    try simp only [zup_ap, Nat.add_left_cancel_iff, Nat.reduceEqDiff, false_and, true_and, and_self, eq_self, ↓reduceIte]
    refine z_iload iX0_add_86 rfl ?_
    refine z_push iX0_add_88 ?_
    refine z_iadd iX0_add_89 ?_
    refine z_iload iX0_add_90 rfl ?_
    refine e_iast iX0_add_92 rfl (ix6 hn).2.2.2.2.2 ?_
    refine z_iload iX0_add_93 rfl ?_
    exact e_iret iX0_add_95 rfl ⟨rfl, by rw [cAd, if_neg (by rw [zb_n.mp c22]; decide)]⟩

set_option maxRecDepth 100000 in
theorem tX1_add {L : Nat} (F : zFt) (x : Int32) (h : vp_in (F 31 2) 6) : zFn mX1_add 0 [.ref 31, .int x] L F (some (.int (F 31 2))) (zup (zup F 32 (zn (F 31 2)) x) 31 2 (F 31 2 + 1)) := by
  refine e_of (lo := [some (.ref 31), some (.int x), none]) (by decide +kernel) (Nat.le_of_ble_eq_true rfl) rfl ?_
  refine z_aload iX1_add_0 rfl ?_
  refine e_getI iX1_add_1 fX1_18 rfl ?_
  refine z_istore iX1_add_4 rfl ?_
  dsimp only [List.set_cons_zero, List.set_cons_succ]
  refine z_aload iX1_add_5 rfl ?_
  refine e_getR iX1_add_6 fX1_9 rfl ?_
  refine z_iload iX1_add_9 rfl ?_
  refine z_iload iX1_add_10 rfl ?_
  refine e_iast iX1_add_11 rfl (by assumption) ?_
  refine z_aload iX1_add_12 rfl ?_
  refine z_dup iX1_add_13 rfl ?_
  refine e_getI iX1_add_14 fX1_18 rfl ?_
  try simp only [zup_ap, Nat.add_left_cancel_iff, Nat.reduceEqDiff, false_and, true_and, and_self, eq_self, ↓reduceIte]
  refine z_push iX1_add_17 ?_
  refine z_iadd iX1_add_18 ?_
  refine e_putI iX1_add_19 fX1_18 fw1_2 rfl ?_
  refine z_iload iX1_add_22 rfl ?_
  exact e_iret iX1_add_23 rfl ⟨rfl, rfl⟩

abbrev cTe (F : zFt) (i : Int32) : zFt := zup (zup F 31 3 (F 31 3 + 1)) 33 (zn i) (F 33 (zn i) + 1)

set_option maxRecDepth 100000 in
theorem tX1_tell {L : Nat} (F : zFt) (i : Int32) (h : vp_in i 6) : zFn mX1_tell 0 [.ref 31, .int i] L F (some (.int (zb (decide (F 33 (zn i) + 1 = F 32 (zn i)))))) (cTe F i) := by
  refine e_of (lo := [some (.ref 31), some (.int i)]) (by decide +kernel) (Nat.le_of_ble_eq_true rfl) rfl ?_
  refine z_aload iX1_tell_0 rfl ?_
  refine z_dup iX1_tell_1 rfl ?_
  refine e_getI iX1_tell_2 fX1_22 rfl ?_
  refine z_push iX1_tell_5 ?_
  refine z_iadd iX1_tell_6 ?_
  refine e_putI iX1_tell_7 fX1_22 fw1_3 rfl ?_
  refine z_aload iX1_tell_10 rfl ?_
  refine e_getR iX1_tell_11 fX1_15 rfl ?_
  try simp only [zup_ap, Nat.add_left_cancel_iff, Nat.reduceEqDiff, false_and, true_and, and_self, eq_self, ↓reduceIte]
  refine z_iload iX1_tell_14 rfl ?_
  refine z_dup2 iX1_tell_15 rfl rfl ?_
  refine e_iald iX1_tell_16 rfl (by assumption) ?_
  try simp only [zup_ap, Nat.add_left_cancel_iff, Nat.reduceEqDiff, false_and, true_and, and_self, eq_self, ↓reduceIte]
  refine z_push iX1_tell_17 ?_
  refine z_iadd iX1_tell_18 ?_
  refine e_iast iX1_tell_19 rfl (by assumption) ?_
  refine z_aload iX1_tell_20 rfl ?_
  refine e_getR iX1_tell_21 fX1_15 rfl ?_
  try simp only [zup_ap, Nat.add_left_cancel_iff, Nat.reduceEqDiff, false_and, true_and, and_self, eq_self, ↓reduceIte]
  refine z_iload iX1_tell_24 rfl ?_
  refine e_iald iX1_tell_25 rfl (by assumption) ?_
  try simp only [zup_ap, Nat.add_left_cancel_iff, Nat.reduceEqDiff, false_and, true_and, and_self, eq_self, ↓reduceIte]
  refine z_aload iX1_tell_26 rfl ?_
  refine e_getR iX1_tell_27 fX1_9 rfl ?_
  try simp only [zup_ap, Nat.add_left_cancel_iff, Nat.reduceEqDiff, false_and, true_and, and_self, eq_self, ↓reduceIte]
  refine z_iload iX1_tell_30 rfl ?_
  refine e_iald iX1_tell_31 rfl (by assumption) ?_
  try simp only [zup_ap, Nat.add_left_cancel_iff, Nat.reduceEqDiff, false_and, true_and, and_self, eq_self, ↓reduceIte]
  refine z_icmp_ne iX1_tell_32 (fun c32 => ?_) (fun c32 => ?_)
  · refine z_push iX1_tell_39 ?_
    exact e_bret iX1_tell_40 rfl (by first | exact Or.inl rfl | exact Or.inr rfl | exact zb_01 _ | assumption) ⟨by simp [zb, *], rfl⟩
  · refine z_push iX1_tell_35 ?_
    refine z_goto iX1_tell_36 ?_
    exact e_bret iX1_tell_40 rfl (by first | exact Or.inl rfl | exact Or.inr rfl | exact zb_01 _ | assumption) ⟨by simp [zb, *], rfl⟩
end
