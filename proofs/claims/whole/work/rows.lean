section
-- ===== PART A: goes FIRST, ahead of the names: the tables' words, and 'selects' of the private methods out of them =====
/-- a private method of a class that the tables say can be made, by its rows of tables_1 -/
def lw_okq (q : MethodName × Nat) : Prop := (q.1.cls ≠ "java/lang/invoke/MethodHandle" ∧ q.1.cls ≠ "java/lang/invoke/VarHandle") ∧ Cond.instantiable q.1.cls q.2 ∈ tables_1 ∧ Cond.privateMethod q.1 ∈ tables_1 ∧ Cond.instanceMethod q.1 ∈ tables_1
theorem lw_p0 : lw_okq (⟨"JudgesLedger", "refusalOfEvent", "()I"⟩, 13) := ⟨⟨by decide +kernel, by decide +kernel⟩, List.mem_of_getElem? (i := 13) (by decide +kernel), List.mem_of_getElem? (i := 371) (by decide +kernel), List.mem_of_getElem? (i := 372) (by decide +kernel)⟩
theorem lw_p1 : lw_okq (⟨"JudgesLedger", "appendEvent", "(II)V"⟩, 13) := ⟨⟨by decide +kernel, by decide +kernel⟩, List.mem_of_getElem? (i := 13) (by decide +kernel), List.mem_of_getElem? (i := 375) (by decide +kernel), List.mem_of_getElem? (i := 376) (by decide +kernel)⟩
theorem lw_p2 : lw_okq (⟨"JudgesLedger", "innermost", "()LJudgesLedger$Scoring;"⟩, 13) := ⟨⟨by decide +kernel, by decide +kernel⟩, List.mem_of_getElem? (i := 13) (by decide +kernel), List.mem_of_getElem? (i := 379) (by decide +kernel), List.mem_of_getElem? (i := 380) (by decide +kernel)⟩
theorem lw_p3 : lw_okq (⟨"JudgesLedger$Sheet", "markIndex", "(II)I"⟩, 10) := ⟨⟨by decide +kernel, by decide +kernel⟩, List.mem_of_getElem? (i := 79) (by decide +kernel), List.mem_of_getElem? (i := 391) (by decide +kernel), List.mem_of_getElem? (i := 392) (by decide +kernel)⟩
theorem lw_p4 : lw_okq (⟨"JudgesLedger", "outcomeOf", "(I)I"⟩, 13) := ⟨⟨by decide +kernel, by decide +kernel⟩, List.mem_of_getElem? (i := 13) (by decide +kernel), List.mem_of_getElem? (i := 395) (by decide +kernel), List.mem_of_getElem? (i := 396) (by decide +kernel)⟩
theorem lw_p5 : lw_okq (⟨"JudgesLedger", "fail", "(II)I"⟩, 13) := ⟨⟨by decide +kernel, by decide +kernel⟩, List.mem_of_getElem? (i := 13) (by decide +kernel), List.mem_of_getElem? (i := 432) (by decide +kernel), List.mem_of_getElem? (i := 433) (by decide +kernel)⟩
theorem lw_p6 : lw_okq (⟨"JudgesLedger", "letGuardCatch", "(I)Z"⟩, 13) := ⟨⟨by decide +kernel, by decide +kernel⟩, List.mem_of_getElem? (i := 13) (by decide +kernel), List.mem_of_getElem? (i := 444) (by decide +kernel), List.mem_of_getElem? (i := 445) (by decide +kernel)⟩
theorem lw_p7 : lw_okq (⟨"JudgesLedger", "suppressUnder", "(I)V"⟩, 13) := ⟨⟨by decide +kernel, by decide +kernel⟩, List.mem_of_getElem? (i := 13) (by decide +kernel), List.mem_of_getElem? (i := 461) (by decide +kernel), List.mem_of_getElem? (i := 462) (by decide +kernel)⟩
theorem lw_p8 : lw_okq (⟨"JudgesLedger", "dropInnermost", "()V"⟩, 13) := ⟨⟨by decide +kernel, by decide +kernel⟩, List.mem_of_getElem? (i := 13) (by decide +kernel), List.mem_of_getElem? (i := 465) (by decide +kernel), List.mem_of_getElem? (i := 466) (by decide +kernel)⟩
theorem lw_p9 : lw_okq (⟨"JudgesLedger$Scoring", "removeSavepoint", "(I)V"⟩, 9) := ⟨⟨by decide +kernel, by decide +kernel⟩, List.mem_of_getElem? (i := 211) (by decide +kernel), List.mem_of_getElem? (i := 502) (by decide +kernel), List.mem_of_getElem? (i := 503) (by decide +kernel)⟩
theorem lw_p10 : lw_okq (⟨"JudgesLedger", "savepointNamed", "(I)I"⟩, 13) := ⟨⟨by decide +kernel, by decide +kernel⟩, List.mem_of_getElem? (i := 13) (by decide +kernel), List.mem_of_getElem? (i := 510) (by decide +kernel), List.mem_of_getElem? (i := 511) (by decide +kernel)⟩
theorem lw_p11 : lw_okq (⟨"JudgesLedger", "finishAct", "(I)I"⟩, 13) := ⟨⟨by decide +kernel, by decide +kernel⟩, List.mem_of_getElem? (i := 13) (by decide +kernel), List.mem_of_getElem? (i := 533) (by decide +kernel), List.mem_of_getElem? (i := 534) (by decide +kernel)⟩
theorem lw_p12 : lw_okq (⟨"JudgesLedger", "keepForUndo", "(IIZ)V"⟩, 13) := ⟨⟨by decide +kernel, by decide +kernel⟩, List.mem_of_getElem? (i := 13) (by decide +kernel), List.mem_of_getElem? (i := 537) (by decide +kernel), List.mem_of_getElem? (i := 538) (by decide +kernel)⟩
theorem lw_p13 : lw_okq (⟨"JudgesLedger$Placing", "middle", "(II)I"⟩, 6) := ⟨⟨by decide +kernel, by decide +kernel⟩, List.mem_of_getElem? (i := 127) (by decide +kernel), List.mem_of_getElem? (i := 578) (by decide +kernel), List.mem_of_getElem? (i := 579) (by decide +kernel)⟩
theorem lw_p14 : lw_okq (⟨"JudgesLedger$Placing", "sortMarks", "(II)V"⟩, 6) := ⟨⟨by decide +kernel, by decide +kernel⟩, List.mem_of_getElem? (i := 127) (by decide +kernel), List.mem_of_getElem? (i := 582) (by decide +kernel), List.mem_of_getElem? (i := 583) (by decide +kernel)⟩
theorem lw_p15 : lw_okq (⟨"JudgesLedger$Placing", "rankClass", "(I)V"⟩, 6) := ⟨⟨by decide +kernel, by decide +kernel⟩, List.mem_of_getElem? (i := 127) (by decide +kernel), List.mem_of_getElem? (i := 594) (by decide +kernel), List.mem_of_getElem? (i := 595) (by decide +kernel)⟩
def lw_privs_1 : List (MethodName × Nat) := [(⟨"JudgesLedger", "refusalOfEvent", "()I"⟩, 13), (⟨"JudgesLedger", "appendEvent", "(II)V"⟩, 13), (⟨"JudgesLedger", "innermost", "()LJudgesLedger$Scoring;"⟩, 13), (⟨"JudgesLedger$Sheet", "markIndex", "(II)I"⟩, 10), (⟨"JudgesLedger", "outcomeOf", "(I)I"⟩, 13), (⟨"JudgesLedger", "fail", "(II)I"⟩, 13), (⟨"JudgesLedger", "letGuardCatch", "(I)Z"⟩, 13), (⟨"JudgesLedger", "suppressUnder", "(I)V"⟩, 13), (⟨"JudgesLedger", "dropInnermost", "()V"⟩, 13), (⟨"JudgesLedger$Scoring", "removeSavepoint", "(I)V"⟩, 9), (⟨"JudgesLedger", "savepointNamed", "(I)I"⟩, 13), (⟨"JudgesLedger", "finishAct", "(I)I"⟩, 13), (⟨"JudgesLedger", "keepForUndo", "(IIZ)V"⟩, 13), (⟨"JudgesLedger$Placing", "middle", "(II)I"⟩, 6), (⟨"JudgesLedger$Placing", "sortMarks", "(II)V"⟩, 6), (⟨"JudgesLedger$Placing", "rankClass", "(I)V"⟩, 6)]
theorem lw_r1 : ∀ q ∈ lw_privs_1, lw_okq q := List.forall_mem_cons.mpr ⟨lw_p0, List.forall_mem_cons.mpr ⟨lw_p1, List.forall_mem_cons.mpr ⟨lw_p2, List.forall_mem_cons.mpr ⟨lw_p3, List.forall_mem_cons.mpr ⟨lw_p4, List.forall_mem_cons.mpr ⟨lw_p5, List.forall_mem_cons.mpr ⟨lw_p6, List.forall_mem_cons.mpr ⟨lw_p7, List.forall_mem_cons.mpr ⟨lw_p8, List.forall_mem_cons.mpr ⟨lw_p9, List.forall_mem_cons.mpr ⟨lw_p10, List.forall_mem_cons.mpr ⟨lw_p11, List.forall_mem_cons.mpr ⟨lw_p12, List.forall_mem_cons.mpr ⟨lw_p13, List.forall_mem_cons.mpr ⟨lw_p14, List.forall_mem_cons.mpr ⟨lw_p15, fun _ h => absurd h List.not_mem_nil⟩⟩⟩⟩⟩⟩⟩⟩⟩⟩⟩⟩⟩⟩⟩⟩
theorem lw_p16 : lw_okq (⟨"JudgesLedger$Placing", "betterThan", "(I)I"⟩, 6) := ⟨⟨by decide +kernel, by decide +kernel⟩, List.mem_of_getElem? (i := 127) (by decide +kernel), List.mem_of_getElem? (i := 603) (by decide +kernel), List.mem_of_getElem? (i := 604) (by decide +kernel)⟩
theorem lw_p17 : lw_okq (⟨"JudgesLedger$Placing", "isBetter", "(II)Z"⟩, 6) := ⟨⟨by decide +kernel, by decide +kernel⟩, List.mem_of_getElem? (i := 127) (by decide +kernel), List.mem_of_getElem? (i := 607) (by decide +kernel), List.mem_of_getElem? (i := 608) (by decide +kernel)⟩
theorem lw_p18 : lw_okq (⟨"JudgesLedger$Placing", "sharers", "(I)I"⟩, 6) := ⟨⟨by decide +kernel, by decide +kernel⟩, List.mem_of_getElem? (i := 127) (by decide +kernel), List.mem_of_getElem? (i := 615) (by decide +kernel), List.mem_of_getElem? (i := 616) (by decide +kernel)⟩
theorem lw_p19 : lw_okq (⟨"JudgesLedger$Placing", "sharersAheadOf", "(II)I"⟩, 6) := ⟨⟨by decide +kernel, by decide +kernel⟩, List.mem_of_getElem? (i := 127) (by decide +kernel), List.mem_of_getElem? (i := 619) (by decide +kernel), List.mem_of_getElem? (i := 620) (by decide +kernel)⟩
theorem lw_p20 : lw_okq (⟨"JudgesLedger$Placing", "share", "(I)I"⟩, 6) := ⟨⟨by decide +kernel, by decide +kernel⟩, List.mem_of_getElem? (i := 127) (by decide +kernel), List.mem_of_getElem? (i := 627) (by decide +kernel), List.mem_of_getElem? (i := 628) (by decide +kernel)⟩
theorem lw_p21 : lw_okq (⟨"JudgesLedger$Placing", "prizesFrom", "(III)I"⟩, 6) := ⟨⟨by decide +kernel, by decide +kernel⟩, List.mem_of_getElem? (i := 127) (by decide +kernel), List.mem_of_getElem? (i := 631) (by decide +kernel), List.mem_of_getElem? (i := 632) (by decide +kernel)⟩
theorem lw_p22 : lw_okq (⟨"JudgesLedger$Placing", "position", "(I)I"⟩, 6) := ⟨⟨by decide +kernel, by decide +kernel⟩, List.mem_of_getElem? (i := 127) (by decide +kernel), List.mem_of_getElem? (i := 648) (by decide +kernel), List.mem_of_getElem? (i := 649) (by decide +kernel)⟩
theorem lw_p23 : lw_okq (⟨"JudgesLedger", "digestOfEntries", "(J)J"⟩, 13) := ⟨⟨by decide +kernel, by decide +kernel⟩, List.mem_of_getElem? (i := 13) (by decide +kernel), List.mem_of_getElem? (i := 703) (by decide +kernel), List.mem_of_getElem? (i := 704) (by decide +kernel)⟩
theorem lw_p24 : lw_okq (⟨"JudgesLedger", "digestOfEvents", "(J)J"⟩, 13) := ⟨⟨by decide +kernel, by decide +kernel⟩, List.mem_of_getElem? (i := 13) (by decide +kernel), List.mem_of_getElem? (i := 709) (by decide +kernel), List.mem_of_getElem? (i := 710) (by decide +kernel)⟩
theorem lw_p25 : lw_okq (⟨"JudgesLedgerModel", "isClass", "(I)Z"⟩, 48) := ⟨⟨by decide +kernel, by decide +kernel⟩, List.mem_of_getElem? (i := 713) (by decide +kernel), List.mem_of_getElem? (i := 875) (by decide +kernel), List.mem_of_getElem? (i := 876) (by decide +kernel)⟩
theorem lw_p26 : lw_okq (⟨"JudgesLedgerModel", "isJudge", "(I)Z"⟩, 48) := ⟨⟨by decide +kernel, by decide +kernel⟩, List.mem_of_getElem? (i := 713) (by decide +kernel), List.mem_of_getElem? (i := 900) (by decide +kernel), List.mem_of_getElem? (i := 901) (by decide +kernel)⟩
theorem lw_p27 : lw_okq (⟨"JudgesLedgerModel", "isEntry", "(I)Z"⟩, 48) := ⟨⟨by decide +kernel, by decide +kernel⟩, List.mem_of_getElem? (i := 713) (by decide +kernel), List.mem_of_getElem? (i := 904) (by decide +kernel), List.mem_of_getElem? (i := 905) (by decide +kernel)⟩
theorem lw_p28 : lw_okq (⟨"JudgesLedgerModel", "comes", "(II)V"⟩, 48) := ⟨⟨by decide +kernel, by decide +kernel⟩, List.mem_of_getElem? (i := 713) (by decide +kernel), List.mem_of_getElem? (i := 912) (by decide +kernel), List.mem_of_getElem? (i := 913) (by decide +kernel)⟩
theorem lw_p29 : lw_okq (⟨"JudgesLedgerModel", "counted", "(I)V"⟩, 48) := ⟨⟨by decide +kernel, by decide +kernel⟩, List.mem_of_getElem? (i := 713) (by decide +kernel), List.mem_of_getElem? (i := 916) (by decide +kernel), List.mem_of_getElem? (i := 917) (by decide +kernel)⟩
theorem lw_p30 : lw_okq (⟨"JudgesLedgerModel", "judged", "(I)I"⟩, 48) := ⟨⟨by decide +kernel, by decide +kernel⟩, List.mem_of_getElem? (i := 713) (by decide +kernel), List.mem_of_getElem? (i := 920) (by decide +kernel), List.mem_of_getElem? (i := 921) (by decide +kernel)⟩
theorem lw_p31 : lw_okq (⟨"JudgesLedgerModel", "holds", "(I)Z"⟩, 48) := ⟨⟨by decide +kernel, by decide +kernel⟩, List.mem_of_getElem? (i := 713) (by decide +kernel), List.mem_of_getElem? (i := 924) (by decide +kernel), List.mem_of_getElem? (i := 925) (by decide +kernel)⟩
def lw_privs_2 : List (MethodName × Nat) := [(⟨"JudgesLedger$Placing", "betterThan", "(I)I"⟩, 6), (⟨"JudgesLedger$Placing", "isBetter", "(II)Z"⟩, 6), (⟨"JudgesLedger$Placing", "sharers", "(I)I"⟩, 6), (⟨"JudgesLedger$Placing", "sharersAheadOf", "(II)I"⟩, 6), (⟨"JudgesLedger$Placing", "share", "(I)I"⟩, 6), (⟨"JudgesLedger$Placing", "prizesFrom", "(III)I"⟩, 6), (⟨"JudgesLedger$Placing", "position", "(I)I"⟩, 6), (⟨"JudgesLedger", "digestOfEntries", "(J)J"⟩, 13), (⟨"JudgesLedger", "digestOfEvents", "(J)J"⟩, 13), (⟨"JudgesLedgerModel", "isClass", "(I)Z"⟩, 48), (⟨"JudgesLedgerModel", "isJudge", "(I)Z"⟩, 48), (⟨"JudgesLedgerModel", "isEntry", "(I)Z"⟩, 48), (⟨"JudgesLedgerModel", "comes", "(II)V"⟩, 48), (⟨"JudgesLedgerModel", "counted", "(I)V"⟩, 48), (⟨"JudgesLedgerModel", "judged", "(I)I"⟩, 48), (⟨"JudgesLedgerModel", "holds", "(I)Z"⟩, 48)]
theorem lw_r2 : ∀ q ∈ lw_privs_2, lw_okq q := List.forall_mem_cons.mpr ⟨lw_p16, List.forall_mem_cons.mpr ⟨lw_p17, List.forall_mem_cons.mpr ⟨lw_p18, List.forall_mem_cons.mpr ⟨lw_p19, List.forall_mem_cons.mpr ⟨lw_p20, List.forall_mem_cons.mpr ⟨lw_p21, List.forall_mem_cons.mpr ⟨lw_p22, List.forall_mem_cons.mpr ⟨lw_p23, List.forall_mem_cons.mpr ⟨lw_p24, List.forall_mem_cons.mpr ⟨lw_p25, List.forall_mem_cons.mpr ⟨lw_p26, List.forall_mem_cons.mpr ⟨lw_p27, List.forall_mem_cons.mpr ⟨lw_p28, List.forall_mem_cons.mpr ⟨lw_p29, List.forall_mem_cons.mpr ⟨lw_p30, List.forall_mem_cons.mpr ⟨lw_p31, fun _ h => absurd h List.not_mem_nil⟩⟩⟩⟩⟩⟩⟩⟩⟩⟩⟩⟩⟩⟩⟩⟩
theorem lw_p32 : lw_okq (⟨"JudgesLedgerModel", "markOf", "(II)I"⟩, 48) := ⟨⟨by decide +kernel, by decide +kernel⟩, List.mem_of_getElem? (i := 713) (by decide +kernel), List.mem_of_getElem? (i := 928) (by decide +kernel), List.mem_of_getElem? (i := 929) (by decide +kernel)⟩
theorem lw_p33 : lw_okq (⟨"JudgesLedgerModel", "failed", "(II)I"⟩, 48) := ⟨⟨by decide +kernel, by decide +kernel⟩, List.mem_of_getElem? (i := 713) (by decide +kernel), List.mem_of_getElem? (i := 932) (by decide +kernel), List.mem_of_getElem? (i := 933) (by decide +kernel)⟩
theorem lw_p34 : lw_okq (⟨"JudgesLedgerModel", "note", "(IIII)I"⟩, 48) := ⟨⟨by decide +kernel, by decide +kernel⟩, List.mem_of_getElem? (i := 713) (by decide +kernel), List.mem_of_getElem? (i := 936) (by decide +kernel), List.mem_of_getElem? (i := 937) (by decide +kernel)⟩
theorem lw_p35 : lw_okq (⟨"JudgesLedgerModel", "placeOf", "(I)I"⟩, 48) := ⟨⟨by decide +kernel, by decide +kernel⟩, List.mem_of_getElem? (i := 713) (by decide +kernel), List.mem_of_getElem? (i := 946) (by decide +kernel), List.mem_of_getElem? (i := 947) (by decide +kernel)⟩
theorem lw_p36 : lw_okq (⟨"JudgesLedgerModel", "goBack", "(I)V"⟩, 48) := ⟨⟨by decide +kernel, by decide +kernel⟩, List.mem_of_getElem? (i := 713) (by decide +kernel), List.mem_of_getElem? (i := 950) (by decide +kernel), List.mem_of_getElem? (i := 951) (by decide +kernel)⟩
theorem lw_p37 : lw_okq (⟨"JudgesLedgerModel", "keep", "(I)V"⟩, 48) := ⟨⟨by decide +kernel, by decide +kernel⟩, List.mem_of_getElem? (i := 713) (by decide +kernel), List.mem_of_getElem? (i := 982) (by decide +kernel), List.mem_of_getElem? (i := 983) (by decide +kernel)⟩
theorem lw_p38 : lw_okq (⟨"JudgesLedgerModel", "total", "()V"⟩, 48) := ⟨⟨by decide +kernel, by decide +kernel⟩, List.mem_of_getElem? (i := 713) (by decide +kernel), List.mem_of_getElem? (i := 1002) (by decide +kernel), List.mem_of_getElem? (i := 1003) (by decide +kernel)⟩
theorem lw_p39 : lw_okq (⟨"JudgesLedgerModel", "totalOf", "(I)I"⟩, 48) := ⟨⟨by decide +kernel, by decide +kernel⟩, List.mem_of_getElem? (i := 713) (by decide +kernel), List.mem_of_getElem? (i := 1006) (by decide +kernel), List.mem_of_getElem? (i := 1007) (by decide +kernel)⟩
theorem lw_p40 : lw_okq (⟨"JudgesLedgerModel", "rankOf", "(I)I"⟩, 48) := ⟨⟨by decide +kernel, by decide +kernel⟩, List.mem_of_getElem? (i := 713) (by decide +kernel), List.mem_of_getElem? (i := 1013) (by decide +kernel), List.mem_of_getElem? (i := 1014) (by decide +kernel)⟩
theorem lw_p41 : lw_okq (⟨"JudgesLedgerModel", "isBetter", "(II)Z"⟩, 48) := ⟨⟨by decide +kernel, by decide +kernel⟩, List.mem_of_getElem? (i := 713) (by decide +kernel), List.mem_of_getElem? (i := 1017) (by decide +kernel), List.mem_of_getElem? (i := 1018) (by decide +kernel)⟩
theorem lw_p42 : lw_okq (⟨"JudgesLedgerModel", "above", "(I)I"⟩, 48) := ⟨⟨by decide +kernel, by decide +kernel⟩, List.mem_of_getElem? (i := 713) (by decide +kernel), List.mem_of_getElem? (i := 1021) (by decide +kernel), List.mem_of_getElem? (i := 1022) (by decide +kernel)⟩
theorem lw_p43 : lw_okq (⟨"JudgesLedgerModel", "alike", "(I)I"⟩, 48) := ⟨⟨by decide +kernel, by decide +kernel⟩, List.mem_of_getElem? (i := 713) (by decide +kernel), List.mem_of_getElem? (i := 1025) (by decide +kernel), List.mem_of_getElem? (i := 1026) (by decide +kernel)⟩
theorem lw_p44 : lw_okq (⟨"JudgesLedgerModel", "prizeOf", "(I)I"⟩, 48) := ⟨⟨by decide +kernel, by decide +kernel⟩, List.mem_of_getElem? (i := 713) (by decide +kernel), List.mem_of_getElem? (i := 1029) (by decide +kernel), List.mem_of_getElem? (i := 1030) (by decide +kernel)⟩
def lw_privs_3 : List (MethodName × Nat) := [(⟨"JudgesLedgerModel", "markOf", "(II)I"⟩, 48), (⟨"JudgesLedgerModel", "failed", "(II)I"⟩, 48), (⟨"JudgesLedgerModel", "note", "(IIII)I"⟩, 48), (⟨"JudgesLedgerModel", "placeOf", "(I)I"⟩, 48), (⟨"JudgesLedgerModel", "goBack", "(I)V"⟩, 48), (⟨"JudgesLedgerModel", "keep", "(I)V"⟩, 48), (⟨"JudgesLedgerModel", "total", "()V"⟩, 48), (⟨"JudgesLedgerModel", "totalOf", "(I)I"⟩, 48), (⟨"JudgesLedgerModel", "rankOf", "(I)I"⟩, 48), (⟨"JudgesLedgerModel", "isBetter", "(II)Z"⟩, 48), (⟨"JudgesLedgerModel", "above", "(I)I"⟩, 48), (⟨"JudgesLedgerModel", "alike", "(I)I"⟩, 48), (⟨"JudgesLedgerModel", "prizeOf", "(I)I"⟩, 48)]
theorem lw_r3 : ∀ q ∈ lw_privs_3, lw_okq q := List.forall_mem_cons.mpr ⟨lw_p32, List.forall_mem_cons.mpr ⟨lw_p33, List.forall_mem_cons.mpr ⟨lw_p34, List.forall_mem_cons.mpr ⟨lw_p35, List.forall_mem_cons.mpr ⟨lw_p36, List.forall_mem_cons.mpr ⟨lw_p37, List.forall_mem_cons.mpr ⟨lw_p38, List.forall_mem_cons.mpr ⟨lw_p39, List.forall_mem_cons.mpr ⟨lw_p40, List.forall_mem_cons.mpr ⟨lw_p41, List.forall_mem_cons.mpr ⟨lw_p42, List.forall_mem_cons.mpr ⟨lw_p43, List.forall_mem_cons.mpr ⟨lw_p44, fun _ h => absurd h List.not_mem_nil⟩⟩⟩⟩⟩⟩⟩⟩⟩⟩⟩⟩⟩
def lw_privs : List (MethodName × Nat) := lw_privs_1 ++ (lw_privs_2 ++ (lw_privs_3))
def lw_tbl : List Cond := k2_sels lw_privs ++ tables_1
theorem lw_privs_ok : ∀ q ∈ lw_privs, lw_okq q := by
  show ∀ q ∈ lw_privs_1 ++ (lw_privs_2 ++ (lw_privs_3)), lw_okq q
  exact List.forall_mem_append.mpr ⟨lw_r1, List.forall_mem_append.mpr ⟨lw_r2, lw_r3⟩⟩
end
section
def RX0 : String := "JudgesLedger$FailureBook"
def TX0 : u_T := fun k => match k with
  | 0 => ("JudgesLedger$FailureBook", "cells", "[I", true)
  | _ => ("JudgesLedger$FailureBook", "ever", "I", false)
def tyX0 : Nat → FieldType := fun k => match k with
  | 0 => .array .int
  | _ => .int
theorem nmX0 : ∀ a, a < 2 → ∀ b, b < 2 → a ≠ b → (TX0 a).2.1 ≠ (TX0 b).2.1 := by decide +kernel
theorem tyX0_ok : ∀ k, k < 2 → parseFieldDescriptor (TX0 k).2.2.1 = some (tyX0 k) := by decide +kernel
abbrev cX0_init : ByteArray := prog_2_method_1_code
def yX0_init : MethodName := ⟨RX0, "<init>", "()V"⟩
abbrev cX0_isNoted : ByteArray := prog_2_method_2_code
def yX0_isNoted : MethodName := ⟨RX0, "isNoted", "(I)Z"⟩
abbrev cX0_add : ByteArray := prog_2_method_3_code
def yX0_add : MethodName := ⟨RX0, "add", "(IIIIII)I"⟩
def RX1 : String := "JudgesLedger$Gallery"
def TX1 : u_T := fun k => match k with
  | 0 => ("JudgesLedger$Gallery", "throwsAt", "[I", true)
  | 1 => ("JudgesLedger$Gallery", "timesTold", "[I", true)
  | 2 => ("JudgesLedger$Gallery", "size", "I", false)
  | _ => ("JudgesLedger$Gallery", "tellings", "I", false)
def tyX1 : Nat → FieldType := fun k => match k with
  | 0 => .array .int
  | 1 => .array .int
  | 2 => .int
  | _ => .int
theorem nmX1 : ∀ a, a < 4 → ∀ b, b < 4 → a ≠ b → (TX1 a).2.1 ≠ (TX1 b).2.1 := by decide +kernel
theorem tyX1_ok : ∀ k, k < 4 → parseFieldDescriptor (TX1 k).2.2.1 = some (tyX1 k) := by decide +kernel
abbrev cX1_init : ByteArray := prog_3_method_1_code
def yX1_init : MethodName := ⟨RX1, "<init>", "()V"⟩
abbrev cX1_add : ByteArray := prog_3_method_2_code
def yX1_add : MethodName := ⟨RX1, "add", "(I)I"⟩
abbrev cX1_tell : ByteArray := prog_3_method_3_code
def yX1_tell : MethodName := ⟨RX1, "tell", "(I)Z"⟩
def RX2 : String := "JudgesLedger$Placing"
def TX2 : u_T := fun k => match k with
  | 0 => ("JudgesLedger$Placing", "show", "LJudgesLedger$Show;", true)
  | 1 => ("JudgesLedger$Placing", "sheet", "LJudgesLedger$Sheet;", true)
  | 2 => ("JudgesLedger$Placing", "total", "[I", true)
  | 3 => ("JudgesLedger$Placing", "aboveZero", "[I", true)
  | 4 => ("JudgesLedger$Placing", "rank", "[I", true)
  | _ => ("JudgesLedger$Placing", "sorted", "[I", true)
def tyX2 : Nat → FieldType := fun k => match k with
  | 0 => .object "JudgesLedger$Show"
  | 1 => .object "JudgesLedger$Sheet"
  | 2 => .array .int
  | 3 => .array .int
  | 4 => .array .int
  | _ => .array .int
theorem nmX2 : ∀ a, a < 6 → ∀ b, b < 6 → a ≠ b → (TX2 a).2.1 ≠ (TX2 b).2.1 := by decide +kernel
theorem tyX2_ok : ∀ k, k < 6 → parseFieldDescriptor (TX2 k).2.2.1 = some (tyX2 k) := by decide +kernel
abbrev cX2_init : ByteArray := prog_4_method_1_code
def yX2_init : MethodName := ⟨RX2, "<init>", "(LJudgesLedger$Show;LJudgesLedger$Sheet;)V"⟩
abbrev cX2_totalOf : ByteArray := prog_4_method_2_code
def yX2_totalOf : MethodName := ⟨RX2, "totalOf", "(I)I"⟩
abbrev cX2_middle : ByteArray := prog_4_method_3_code
def yX2_middle : MethodName := ⟨RX2, "middle", "(II)I"⟩
abbrev cX2_sortMarks : ByteArray := prog_4_method_4_code
def yX2_sortMarks : MethodName := ⟨RX2, "sortMarks", "(II)V"⟩
abbrev cX2_nearest : ByteArray := prog_4_method_5_code
def yX2_nearest : MethodName := ⟨RX2, "nearest", "(II)I"⟩
abbrev cX2_rankOf : ByteArray := prog_4_method_6_code
def yX2_rankOf : MethodName := ⟨RX2, "rankOf", "(I)I"⟩
abbrev cX2_sharersOf : ByteArray := prog_4_method_7_code
def yX2_sharersOf : MethodName := ⟨RX2, "sharersOf", "(I)I"⟩
abbrev cX2_prizeOf : ByteArray := prog_4_method_8_code
def yX2_prizeOf : MethodName := ⟨RX2, "prizeOf", "(I)I"⟩
abbrev cX2_prizesLeft : ByteArray := prog_4_method_9_code
def yX2_prizesLeft : MethodName := ⟨RX2, "prizesLeft", "(I)I"⟩
abbrev cX2_entryAt : ByteArray := prog_4_method_10_code
def yX2_entryAt : MethodName := ⟨RX2, "entryAt", "(II)I"⟩
abbrev cX2_rankClass : ByteArray := prog_4_method_11_code
def yX2_rankClass : MethodName := ⟨RX2, "rankClass", "(I)V"⟩
abbrev cX2_betterThan : ByteArray := prog_4_method_12_code
def yX2_betterThan : MethodName := ⟨RX2, "betterThan", "(I)I"⟩
abbrev cX2_isBetter : ByteArray := prog_4_method_13_code
def yX2_isBetter : MethodName := ⟨RX2, "isBetter", "(II)Z"⟩
abbrev cX2_sharers : ByteArray := prog_4_method_14_code
def yX2_sharers : MethodName := ⟨RX2, "sharers", "(I)I"⟩
abbrev cX2_sharersAheadOf : ByteArray := prog_4_method_15_code
def yX2_sharersAheadOf : MethodName := ⟨RX2, "sharersAheadOf", "(II)I"⟩
abbrev cX2_position : ByteArray := prog_4_method_16_code
def yX2_position : MethodName := ⟨RX2, "position", "(I)I"⟩
abbrev cX2_share : ByteArray := prog_4_method_17_code
def yX2_share : MethodName := ⟨RX2, "share", "(I)I"⟩
abbrev cX2_prizesFrom : ByteArray := prog_4_method_18_code
def yX2_prizesFrom : MethodName := ⟨RX2, "prizesFrom", "(III)I"⟩
def RX3 : String := "JudgesLedger$RuleBook"
def TX3 : u_T := fun k => match k with
  | 0 => ("JudgesLedger$RuleBook", "moment", "[I", true)
  | 1 => ("JudgesLedger$RuleBook", "kind", "[I", true)
  | 2 => ("JudgesLedger$RuleBook", "limit", "[I", true)
  | _ => ("JudgesLedger$RuleBook", "size", "I", false)
def tyX3 : Nat → FieldType := fun k => match k with
  | 0 => .array .int
  | 1 => .array .int
  | 2 => .array .int
  | _ => .int
theorem nmX3 : ∀ a, a < 4 → ∀ b, b < 4 → a ≠ b → (TX3 a).2.1 ≠ (TX3 b).2.1 := by decide +kernel
theorem tyX3_ok : ∀ k, k < 4 → parseFieldDescriptor (TX3 k).2.2.1 = some (tyX3 k) := by decide +kernel
abbrev cX3_init : ByteArray := prog_5_method_1_code
def yX3_init : MethodName := ⟨RX3, "<init>", "()V"⟩
abbrev cX3_add : ByteArray := prog_5_method_2_code
def yX3_add : MethodName := ⟨RX3, "add", "(III)I"⟩
abbrev cX3_holds : ByteArray := prog_5_method_3_code
def yX3_holds : MethodName := ⟨RX3, "holds", "(ILJudgesLedger$Scoring;LJudgesLedger$Sheet;)Z"⟩
abbrev cX3_latestIsOutOfRange : ByteArray := prog_5_method_4_code
def yX3_latestIsOutOfRange : MethodName := ⟨RX3, "latestIsOutOfRange", "(ILJudgesLedger$Sheet;)Z"⟩
def RX4 : String := "JudgesLedger$Scoring"
def TX4 : u_T := fun k => match k with
  | 0 => ("JudgesLedger$Scoring", "judge", "I", false)
  | 1 => ("JudgesLedger$Scoring", "entry", "I", false)
  | 2 => ("JudgesLedger$Scoring", "begunAt", "I", false)
  | 3 => ("JudgesLedger$Scoring", "savepointName", "[I", true)
  | 4 => ("JudgesLedger$Scoring", "savepointAt", "[I", true)
  | 5 => ("JudgesLedger$Scoring", "savepoints", "I", false)
  | 6 => ("JudgesLedger$Scoring", "guardKind", "[I", true)
  | 7 => ("JudgesLedger$Scoring", "guardName", "[I", true)
  | _ => ("JudgesLedger$Scoring", "guards", "I", false)
def tyX4 : Nat → FieldType := fun k => match k with
  | 0 => .int
  | 1 => .int
  | 2 => .int
  | 3 => .array .int
  | 4 => .array .int
  | 5 => .int
  | 6 => .array .int
  | 7 => .array .int
  | _ => .int
theorem nmX4 : ∀ a, a < 9 → ∀ b, b < 9 → a ≠ b → (TX4 a).2.1 ≠ (TX4 b).2.1 := by decide +kernel
theorem tyX4_ok : ∀ k, k < 9 → parseFieldDescriptor (TX4 k).2.2.1 = some (tyX4 k) := by decide +kernel
abbrev cX4_init : ByteArray := prog_6_method_1_code
def yX4_init : MethodName := ⟨RX4, "<init>", "()V"⟩
abbrev cX4_start : ByteArray := prog_6_method_2_code
def yX4_start : MethodName := ⟨RX4, "start", "(III)V"⟩
abbrev cX4_indexOfSavepoint : ByteArray := prog_6_method_3_code
def yX4_indexOfSavepoint : MethodName := ⟨RX4, "indexOfSavepoint", "(I)I"⟩
abbrev cX4_addSavepoint : ByteArray := prog_6_method_4_code
def yX4_addSavepoint : MethodName := ⟨RX4, "addSavepoint", "(II)V"⟩
abbrev cX4_removeSavepoint : ByteArray := prog_6_method_5_code
def yX4_removeSavepoint : MethodName := ⟨RX4, "removeSavepoint", "(I)V"⟩
abbrev cX4_addGuard : ByteArray := prog_6_method_6_code
def yX4_addGuard : MethodName := ⟨RX4, "addGuard", "(II)V"⟩
def RX5 : String := "JudgesLedger$Sheet"
def TX5 : u_T := fun k => match k with
  | 0 => ("JudgesLedger$Sheet", "show", "LJudgesLedger$Show;", true)
  | 1 => ("JudgesLedger$Sheet", "sort", "[I", true)
  | 2 => ("JudgesLedger$Sheet", "judge", "[I", true)
  | 3 => ("JudgesLedger$Sheet", "entry", "[I", true)
  | 4 => ("JudgesLedger$Sheet", "number", "[I", true)
  | 5 => ("JudgesLedger$Sheet", "counting", "[Z", true)
  | 6 => ("JudgesLedger$Sheet", "events", "I", false)
  | 7 => ("JudgesLedger$Sheet", "offs", "[I", true)
  | 8 => ("JudgesLedger$Sheet", "marks", "[I", true)
  | _ => ("JudgesLedger$Sheet", "timesGiven", "[I", true)
def tyX5 : Nat → FieldType := fun k => match k with
  | 0 => .object "JudgesLedger$Show"
  | 1 => .array .int
  | 2 => .array .int
  | 3 => .array .int
  | 4 => .array .int
  | 5 => .array .boolean
  | 6 => .int
  | 7 => .array .int
  | 8 => .array .int
  | _ => .array .int
theorem nmX5 : ∀ a, a < 10 → ∀ b, b < 10 → a ≠ b → (TX5 a).2.1 ≠ (TX5 b).2.1 := by decide +kernel
theorem tyX5_ok : ∀ k, k < 10 → parseFieldDescriptor (TX5 k).2.2.1 = some (tyX5 k) := by decide +kernel
abbrev cX5_init : ByteArray := prog_7_method_1_code
def yX5_init : MethodName := ⟨RX5, "<init>", "(LJudgesLedger$Show;)V"⟩
abbrev cX5_hasEvent : ByteArray := prog_7_method_2_code
def yX5_hasEvent : MethodName := ⟨RX5, "hasEvent", "(I)Z"⟩
abbrev cX5_append : ByteArray := prog_7_method_3_code
def yX5_append : MethodName := ⟨RX5, "append", "(IIII)V"⟩
abbrev cX5_cutTo : ByteArray := prog_7_method_4_code
def yX5_cutTo : MethodName := ⟨RX5, "cutTo", "(I)V"⟩
abbrev cX5_setCounting : ByteArray := prog_7_method_5_code
def yX5_setCounting : MethodName := ⟨RX5, "setCounting", "(IZ)V"⟩
abbrev cX5_markIndex : ByteArray := prog_7_method_6_code
def yX5_markIndex : MethodName := ⟨RX5, "markIndex", "(II)I"⟩
abbrev cX5_markBy : ByteArray := prog_7_method_7_code
def yX5_markBy : MethodName := ⟨RX5, "markBy", "(II)I"⟩
abbrev cX5_markAt : ByteArray := prog_7_method_8_code
def yX5_markAt : MethodName := ⟨RX5, "markAt", "(II)I"⟩
abbrev cX5_remarkBits : ByteArray := prog_7_method_9_code
def yX5_remarkBits : MethodName := ⟨RX5, "remarkBits", "(I)I"⟩
abbrev cX5_greatestMark : ByteArray := prog_7_method_10_code
def yX5_greatestMark : MethodName := ⟨RX5, "greatestMark", "(I)I"⟩
abbrev cX5_leastMark : ByteArray := prog_7_method_11_code
def yX5_leastMark : MethodName := ⟨RX5, "leastMark", "(I)I"⟩
abbrev cX5_sumOfMarks : ByteArray := prog_7_method_12_code
def yX5_sumOfMarks : MethodName := ⟨RX5, "sumOfMarks", "(I)I"⟩
abbrev cX5_marksAboveZero : ByteArray := prog_7_method_13_code
def yX5_marksAboveZero : MethodName := ⟨RX5, "marksAboveZero", "(I)I"⟩
abbrev cX5_timesPointed : ByteArray := prog_7_method_14_code
def yX5_timesPointed : MethodName := ⟨RX5, "timesPointed", "(II)I"⟩
def RX6 : String := "JudgesLedger$Show"
def TX6 : u_T := fun k => match k with
  | 0 => ("JudgesLedger$Show", "schedule", "[I", true)
  | 1 => ("JudgesLedger$Show", "firstJudge", "[I", true)
  | 2 => ("JudgesLedger$Show", "seats", "[I", true)
  | 3 => ("JudgesLedger$Show", "closed", "[Z", true)
  | 4 => ("JudgesLedger$Show", "prize", "[I", true)
  | 5 => ("JudgesLedger$Show", "judgeClass", "[I", true)
  | 6 => ("JudgesLedger$Show", "entryClass", "[I", true)
  | 7 => ("JudgesLedger$Show", "classes", "I", false)
  | 8 => ("JudgesLedger$Show", "judges", "I", false)
  | _ => ("JudgesLedger$Show", "entries", "I", false)
def tyX6 : Nat → FieldType := fun k => match k with
  | 0 => .array .int
  | 1 => .array .int
  | 2 => .array .int
  | 3 => .array .boolean
  | 4 => .array .int
  | 5 => .array .int
  | 6 => .array .int
  | 7 => .int
  | 8 => .int
  | _ => .int
theorem nmX6 : ∀ a, a < 10 → ∀ b, b < 10 → a ≠ b → (TX6 a).2.1 ≠ (TX6 b).2.1 := by decide +kernel
theorem tyX6_ok : ∀ k, k < 10 → parseFieldDescriptor (TX6 k).2.2.1 = some (tyX6 k) := by decide +kernel
abbrev cX6_init : ByteArray := prog_8_method_1_code
def yX6_init : MethodName := ⟨RX6, "<init>", "()V"⟩
abbrev cX6_hasClass : ByteArray := prog_8_method_2_code
def yX6_hasClass : MethodName := ⟨RX6, "hasClass", "(I)Z"⟩
abbrev cX6_hasJudge : ByteArray := prog_8_method_3_code
def yX6_hasJudge : MethodName := ⟨RX6, "hasJudge", "(I)Z"⟩
abbrev cX6_hasEntry : ByteArray := prog_8_method_4_code
def yX6_hasEntry : MethodName := ⟨RX6, "hasEntry", "(I)Z"⟩
abbrev cX6_addClass : ByteArray := prog_8_method_5_code
def yX6_addClass : MethodName := ⟨RX6, "addClass", "(II)I"⟩
abbrev cX6_addEntry : ByteArray := prog_8_method_6_code
def yX6_addEntry : MethodName := ⟨RX6, "addEntry", "(I)I"⟩
abbrev cX6_setPrizes : ByteArray := prog_8_method_7_code
def yX6_setPrizes : MethodName := ⟨RX6, "setPrizes", "(IIII)V"⟩
abbrev cX6_entriesOf : ByteArray := prog_8_method_8_code
def yX6_entriesOf : MethodName := ⟨RX6, "entriesOf", "(I)I"⟩
def RX7 : String := "JudgesLedger"
def TX7 : u_T := fun k => match k with
  | 0 => ("JudgesLedger", "show", "LJudgesLedger$Show;", true)
  | 1 => ("JudgesLedger", "sheet", "LJudgesLedger$Sheet;", true)
  | 2 => ("JudgesLedger", "placing", "LJudgesLedger$Placing;", true)
  | 3 => ("JudgesLedger", "rules", "LJudgesLedger$RuleBook;", true)
  | 4 => ("JudgesLedger", "failures", "LJudgesLedger$FailureBook;", true)
  | 5 => ("JudgesLedger", "gallery", "LJudgesLedger$Gallery;", true)
  | 6 => ("JudgesLedger", "scorings", "[LJudgesLedger$Scoring;", true)
  | 7 => ("JudgesLedger", "standing", "I", false)
  | 8 => ("JudgesLedger", "acts", "I", false)
  | 9 => ("JudgesLedger", "caught", "I", false)
  | 10 => ("JudgesLedger", "undoSort", "I", false)
  | 11 => ("JudgesLedger", "undoNumber", "I", false)
  | _ => ("JudgesLedger", "undoClosed", "Z", false)
def tyX7 : Nat → FieldType := fun k => match k with
  | 0 => .object "JudgesLedger$Show"
  | 1 => .object "JudgesLedger$Sheet"
  | 2 => .object "JudgesLedger$Placing"
  | 3 => .object "JudgesLedger$RuleBook"
  | 4 => .object "JudgesLedger$FailureBook"
  | 5 => .object "JudgesLedger$Gallery"
  | 6 => .array (.object "JudgesLedger$Scoring")
  | 7 => .int
  | 8 => .int
  | 9 => .int
  | 10 => .int
  | 11 => .int
  | _ => .boolean
theorem nmX7 : ∀ a, a < 13 → ∀ b, b < 13 → a ≠ b → (TX7 a).2.1 ≠ (TX7 b).2.1 := by decide +kernel
theorem tyX7_ok : ∀ k, k < 13 → parseFieldDescriptor (TX7 k).2.2.1 = some (tyX7 k) := by decide +kernel
abbrev cX7_init : ByteArray := prog_1_method_1_code
def yX7_init : MethodName := ⟨RX7, "<init>", "()V"⟩
abbrev cX7_show : ByteArray := prog_1_method_2_code
def yX7_show : MethodName := ⟨RX7, "show", "(II)I"⟩
abbrev cX7_entry : ByteArray := prog_1_method_3_code
def yX7_entry : MethodName := ⟨RX7, "entry", "(I)I"⟩
abbrev cX7_prizes : ByteArray := prog_1_method_4_code
def yX7_prizes : MethodName := ⟨RX7, "prizes", "(IIII)I"⟩
abbrev cX7_rule : ByteArray := prog_1_method_5_code
def yX7_rule : MethodName := ⟨RX7, "rule", "(III)I"⟩
abbrev cX7_clearRules : ByteArray := prog_1_method_6_code
def yX7_clearRules : MethodName := ⟨RX7, "clearRules", "()I"⟩
abbrev cX7_observe : ByteArray := prog_1_method_7_code
def yX7_observe : MethodName := ⟨RX7, "observe", "(I)I"⟩
abbrev cX7_begin : ByteArray := prog_1_method_8_code
def yX7_begin : MethodName := ⟨RX7, "begin", "(II)I"⟩
abbrev cX7_points : ByteArray := prog_1_method_9_code
def yX7_points : MethodName := ⟨RX7, "points", "(I)I"⟩
abbrev cX7_deduct : ByteArray := prog_1_method_10_code
def yX7_deduct : MethodName := ⟨RX7, "deduct", "(I)I"⟩
abbrev cX7_remark : ByteArray := prog_1_method_11_code
def yX7_remark : MethodName := ⟨RX7, "remark", "(I)I"⟩
abbrev cX7_save : ByteArray := prog_1_method_12_code
def yX7_save : MethodName := ⟨RX7, "save", "(I)I"⟩
abbrev cX7_back : ByteArray := prog_1_method_13_code
def yX7_back : MethodName := ⟨RX7, "back", "(I)I"⟩
abbrev cX7_release : ByteArray := prog_1_method_14_code
def yX7_release : MethodName := ⟨RX7, "release", "(I)I"⟩
abbrev cX7_guard : ByteArray := prog_1_method_15_code
def yX7_guard : MethodName := ⟨RX7, "guard", "(II)I"⟩
abbrev cX7_end : ByteArray := prog_1_method_16_code
def yX7_end : MethodName := ⟨RX7, "end", "()I"⟩
abbrev cX7_drop : ByteArray := prog_1_method_17_code
def yX7_drop : MethodName := ⟨RX7, "drop", "()I"⟩
abbrev cX7_depth : ByteArray := prog_1_method_18_code
def yX7_depth : MethodName := ⟨RX7, "depth", "()I"⟩
abbrev cX7_scoring : ByteArray := prog_1_method_19_code
def yX7_scoring : MethodName := ⟨RX7, "scoring", "(II)I"⟩
abbrev cX7_told : ByteArray := prog_1_method_20_code
def yX7_told : MethodName := ⟨RX7, "told", "(II)I"⟩
abbrev cX7_mark : ByteArray := prog_1_method_21_code
def yX7_mark : MethodName := ⟨RX7, "mark", "(II)I"⟩
abbrev cX7_place : ByteArray := prog_1_method_22_code
def yX7_place : MethodName := ⟨RX7, "place", "(II)I"⟩
abbrev cX7_close : ByteArray := prog_1_method_23_code
def yX7_close : MethodName := ⟨RX7, "close", "(I)I"⟩
abbrev cX7_about : ByteArray := prog_1_method_24_code
def yX7_about : MethodName := ⟨RX7, "about", "(II)I"⟩
abbrev cX7_uphold : ByteArray := prog_1_method_25_code
def yX7_uphold : MethodName := ⟨RX7, "uphold", "(I)I"⟩
abbrev cX7_event : ByteArray := prog_1_method_26_code
def yX7_event : MethodName := ⟨RX7, "event", "(II)I"⟩
abbrev cX7_failure : ByteArray := prog_1_method_27_code
def yX7_failure : MethodName := ⟨RX7, "failure", "(II)I"⟩
abbrev cX7_is : ByteArray := prog_1_method_28_code
def yX7_is : MethodName := ⟨RX7, "is", "(II)I"⟩
abbrev cX7_undo : ByteArray := prog_1_method_29_code
def yX7_undo : MethodName := ⟨RX7, "undo", "()I"⟩
abbrev cX7_count : ByteArray := prog_1_method_30_code
def yX7_count : MethodName := ⟨RX7, "count", "(I)I"⟩
abbrev cX7_digest : ByteArray := prog_1_method_31_code
def yX7_digest : MethodName := ⟨RX7, "digest", "()J"⟩
abbrev cX7_digestOfEntries : ByteArray := prog_1_method_32_code
def yX7_digestOfEntries : MethodName := ⟨RX7, "digestOfEntries", "(J)J"⟩
abbrev cX7_digestOfEvents : ByteArray := prog_1_method_33_code
def yX7_digestOfEvents : MethodName := ⟨RX7, "digestOfEvents", "(J)J"⟩
abbrev cX7_isPrize : ByteArray := prog_1_method_34_code
def yX7_isPrize : MethodName := ⟨RX7, "isPrize", "(I)Z"⟩
abbrev cX7_isName : ByteArray := prog_1_method_35_code
def yX7_isName : MethodName := ⟨RX7, "isName", "(I)Z"⟩
abbrev cX7_isKind : ByteArray := prog_1_method_36_code
def yX7_isKind : MethodName := ⟨RX7, "isKind", "(I)Z"⟩
abbrev cX7_isRuleKind : ByteArray := prog_1_method_37_code
def yX7_isRuleKind : MethodName := ⟨RX7, "isRuleKind", "(I)Z"⟩
abbrev cX7_isOfKind : ByteArray := prog_1_method_38_code
def yX7_isOfKind : MethodName := ⟨RX7, "isOfKind", "(II)Z"⟩
abbrev cX7_innermost : ByteArray := prog_1_method_39_code
def yX7_innermost : MethodName := ⟨RX7, "innermost", "()LJudgesLedger$Scoring;"⟩
abbrev cX7_savepointNamed : ByteArray := prog_1_method_40_code
def yX7_savepointNamed : MethodName := ⟨RX7, "savepointNamed", "(I)I"⟩
abbrev cX7_refusalOfEvent : ByteArray := prog_1_method_41_code
def yX7_refusalOfEvent : MethodName := ⟨RX7, "refusalOfEvent", "()I"⟩
abbrev cX7_appendEvent : ByteArray := prog_1_method_42_code
def yX7_appendEvent : MethodName := ⟨RX7, "appendEvent", "(II)V"⟩
abbrev cX7_dropInnermost : ByteArray := prog_1_method_43_code
def yX7_dropInnermost : MethodName := ⟨RX7, "dropInnermost", "()V"⟩
abbrev cX7_outcomeOf : ByteArray := prog_1_method_44_code
def yX7_outcomeOf : MethodName := ⟨RX7, "outcomeOf", "(I)I"⟩
abbrev cX7_fail : ByteArray := prog_1_method_45_code
def yX7_fail : MethodName := ⟨RX7, "fail", "(II)I"⟩
abbrev cX7_letGuardCatch : ByteArray := prog_1_method_46_code
def yX7_letGuardCatch : MethodName := ⟨RX7, "letGuardCatch", "(I)Z"⟩
abbrev cX7_suppressUnder : ByteArray := prog_1_method_47_code
def yX7_suppressUnder : MethodName := ⟨RX7, "suppressUnder", "(I)V"⟩
abbrev cX7_kindFurtherOut : ByteArray := prog_1_method_48_code
def yX7_kindFurtherOut : MethodName := ⟨RX7, "kindFurtherOut", "(I)I"⟩
abbrev cX7_finishAct : ByteArray := prog_1_method_49_code
def yX7_finishAct : MethodName := ⟨RX7, "finishAct", "(I)I"⟩
abbrev cX7_keepForUndo : ByteArray := prog_1_method_50_code
def yX7_keepForUndo : MethodName := ⟨RX7, "keepForUndo", "(IIZ)V"⟩
def RX8 : String := "JudgesLedgerModel"
def TX8 : u_T := fun k => match k with
  | 0 => ("JudgesLedgerModel", "classes", "I", false)
  | 1 => ("JudgesLedgerModel", "schedule", "[I", true)
  | 2 => ("JudgesLedgerModel", "firstJudge", "[I", true)
  | 3 => ("JudgesLedgerModel", "judgesOf", "[I", true)
  | 4 => ("JudgesLedgerModel", "entriesOf", "[I", true)
  | 5 => ("JudgesLedgerModel", "isClosed", "[Z", true)
  | 6 => ("JudgesLedgerModel", "prize", "[I", true)
  | 7 => ("JudgesLedgerModel", "judges", "I", false)
  | 8 => ("JudgesLedgerModel", "classOfJudge", "[I", true)
  | 9 => ("JudgesLedgerModel", "entries", "I", false)
  | 10 => ("JudgesLedgerModel", "classOf", "[I", true)
  | 11 => ("JudgesLedgerModel", "rules", "I", false)
  | 12 => ("JudgesLedgerModel", "moment", "[I", true)
  | 13 => ("JudgesLedgerModel", "kindOf", "[I", true)
  | 14 => ("JudgesLedgerModel", "bound", "[I", true)
  | 15 => ("JudgesLedgerModel", "observers", "I", false)
  | 16 => ("JudgesLedgerModel", "throwsAt", "[I", true)
  | 17 => ("JudgesLedgerModel", "tellings", "[I", true)
  | 18 => ("JudgesLedgerModel", "allTellings", "I", false)
  | 19 => ("JudgesLedgerModel", "events", "I", false)
  | 20 => ("JudgesLedgerModel", "eSort", "[I", true)
  | 21 => ("JudgesLedgerModel", "eJudge", "[I", true)
  | 22 => ("JudgesLedgerModel", "eEntry", "[I", true)
  | 23 => ("JudgesLedgerModel", "eNumber", "[I", true)
  | 24 => ("JudgesLedgerModel", "counts", "[Z", true)
  | 25 => ("JudgesLedgerModel", "marks", "[I", true)
  | 26 => ("JudgesLedgerModel", "off", "[I", true)
  | 27 => ("JudgesLedgerModel", "remarks", "[I", true)
  | 28 => ("JudgesLedgerModel", "stand", "I", false)
  | 29 => ("JudgesLedgerModel", "sJudge", "[I", true)
  | 30 => ("JudgesLedgerModel", "sEntry", "[I", true)
  | 31 => ("JudgesLedgerModel", "sBegin", "[I", true)
  | 32 => ("JudgesLedgerModel", "saves", "[I", true)
  | 33 => ("JudgesLedgerModel", "saveName", "[I", true)
  | 34 => ("JudgesLedgerModel", "saveEvents", "[I", true)
  | 35 => ("JudgesLedgerModel", "guards", "[I", true)
  | 36 => ("JudgesLedgerModel", "guardKind", "[I", true)
  | 37 => ("JudgesLedgerModel", "guardName", "[I", true)
  | 38 => ("JudgesLedgerModel", "noted", "I", false)
  | 39 => ("JudgesLedgerModel", "caughtMany", "I", false)
  | 40 => ("JudgesLedgerModel", "failures", "[I", true)
  | 41 => ("JudgesLedgerModel", "canUndo", "Z", false)
  | 42 => ("JudgesLedgerModel", "acts", "I", false)
  | 43 => ("JudgesLedgerModel", "wereEvents", "I", false)
  | 44 => ("JudgesLedgerModel", "didCount", "[Z", true)
  | 45 => ("JudgesLedgerModel", "wereClosed", "[Z", true)
  | 46 => ("JudgesLedgerModel", "sorted", "[I", true)
  | _ => ("JudgesLedgerModel", "totals", "[I", true)
def tyX8 : Nat → FieldType := fun k => match k with
  | 0 => .int
  | 1 => .array .int
  | 2 => .array .int
  | 3 => .array .int
  | 4 => .array .int
  | 5 => .array .boolean
  | 6 => .array .int
  | 7 => .int
  | 8 => .array .int
  | 9 => .int
  | 10 => .array .int
  | 11 => .int
  | 12 => .array .int
  | 13 => .array .int
  | 14 => .array .int
  | 15 => .int
  | 16 => .array .int
  | 17 => .array .int
  | 18 => .int
  | 19 => .int
  | 20 => .array .int
  | 21 => .array .int
  | 22 => .array .int
  | 23 => .array .int
  | 24 => .array .boolean
  | 25 => .array .int
  | 26 => .array .int
  | 27 => .array .int
  | 28 => .int
  | 29 => .array .int
  | 30 => .array .int
  | 31 => .array .int
  | 32 => .array .int
  | 33 => .array .int
  | 34 => .array .int
  | 35 => .array .int
  | 36 => .array .int
  | 37 => .array .int
  | 38 => .int
  | 39 => .int
  | 40 => .array .int
  | 41 => .boolean
  | 42 => .int
  | 43 => .int
  | 44 => .array .boolean
  | 45 => .array .boolean
  | 46 => .array .int
  | _ => .array .int
theorem nmX8 : ∀ a, a < 48 → ∀ b, b < 48 → a ≠ b → (TX8 a).2.1 ≠ (TX8 b).2.1 := by decide +kernel
theorem tyX8_ok : ∀ k, k < 48 → parseFieldDescriptor (TX8 k).2.2.1 = some (tyX8 k) := by decide +kernel
abbrev cX8_init : ByteArray := prog_10_method_1_code
def yX8_init : MethodName := ⟨RX8, "<init>", "()V"⟩
abbrev cX8_in : ByteArray := prog_10_method_2_code
def yX8_in : MethodName := ⟨RX8, "in", "(III)Z"⟩
abbrev cX8_isClass : ByteArray := prog_10_method_3_code
def yX8_isClass : MethodName := ⟨RX8, "isClass", "(I)Z"⟩
abbrev cX8_isEntry : ByteArray := prog_10_method_4_code
def yX8_isEntry : MethodName := ⟨RX8, "isEntry", "(I)Z"⟩
abbrev cX8_isJudge : ByteArray := prog_10_method_5_code
def yX8_isJudge : MethodName := ⟨RX8, "isJudge", "(I)Z"⟩
abbrev cX8_show : ByteArray := prog_10_method_6_code
def yX8_show : MethodName := ⟨RX8, "show", "(II)I"⟩
abbrev cX8_entry : ByteArray := prog_10_method_7_code
def yX8_entry : MethodName := ⟨RX8, "entry", "(I)I"⟩
abbrev cX8_prizes : ByteArray := prog_10_method_8_code
def yX8_prizes : MethodName := ⟨RX8, "prizes", "(IIII)I"⟩
abbrev cX8_rule : ByteArray := prog_10_method_9_code
def yX8_rule : MethodName := ⟨RX8, "rule", "(III)I"⟩
abbrev cX8_clearRules : ByteArray := prog_10_method_10_code
def yX8_clearRules : MethodName := ⟨RX8, "clearRules", "()I"⟩
abbrev cX8_observe : ByteArray := prog_10_method_11_code
def yX8_observe : MethodName := ⟨RX8, "observe", "(I)I"⟩
abbrev cX8_counted : ByteArray := prog_10_method_12_code
def yX8_counted : MethodName := ⟨RX8, "counted", "(I)V"⟩
abbrev cX8_goBack : ByteArray := prog_10_method_13_code
def yX8_goBack : MethodName := ⟨RX8, "goBack", "(I)V"⟩
abbrev cX8_comes : ByteArray := prog_10_method_14_code
def yX8_comes : MethodName := ⟨RX8, "comes", "(II)V"⟩
abbrev cX8_markOf : ByteArray := prog_10_method_15_code
def yX8_markOf : MethodName := ⟨RX8, "markOf", "(II)I"⟩
abbrev cX8_begin : ByteArray := prog_10_method_16_code
def yX8_begin : MethodName := ⟨RX8, "begin", "(II)I"⟩
abbrev cX8_parent : ByteArray := prog_10_method_17_code
def yX8_parent : MethodName := ⟨RX8, "parent", "(I)I"⟩
abbrev cX8_isOf : ByteArray := prog_10_method_18_code
def yX8_isOf : MethodName := ⟨RX8, "isOf", "(II)Z"⟩
abbrev cX8_holds : ByteArray := prog_10_method_19_code
def yX8_holds : MethodName := ⟨RX8, "holds", "(I)Z"⟩
abbrev cX8_judged : ByteArray := prog_10_method_20_code
def yX8_judged : MethodName := ⟨RX8, "judged", "(I)I"⟩
abbrev cX8_note : ByteArray := prog_10_method_21_code
def yX8_note : MethodName := ⟨RX8, "note", "(IIII)I"⟩
abbrev cX8_failed : ByteArray := prog_10_method_22_code
def yX8_failed : MethodName := ⟨RX8, "failed", "(II)I"⟩
abbrev cX8_placeOf : ByteArray := prog_10_method_23_code
def yX8_placeOf : MethodName := ⟨RX8, "placeOf", "(I)I"⟩
abbrev cX8_points : ByteArray := prog_10_method_24_code
def yX8_points : MethodName := ⟨RX8, "points", "(I)I"⟩
abbrev cX8_deduct : ByteArray := prog_10_method_25_code
def yX8_deduct : MethodName := ⟨RX8, "deduct", "(I)I"⟩
abbrev cX8_remark : ByteArray := prog_10_method_26_code
def yX8_remark : MethodName := ⟨RX8, "remark", "(I)I"⟩
abbrev cX8_save : ByteArray := prog_10_method_27_code
def yX8_save : MethodName := ⟨RX8, "save", "(I)I"⟩
abbrev cX8_back : ByteArray := prog_10_method_28_code
def yX8_back : MethodName := ⟨RX8, "back", "(I)I"⟩
abbrev cX8_release : ByteArray := prog_10_method_29_code
def yX8_release : MethodName := ⟨RX8, "release", "(I)I"⟩
abbrev cX8_guard : ByteArray := prog_10_method_30_code
def yX8_guard : MethodName := ⟨RX8, "guard", "(II)I"⟩
abbrev cX8_keep : ByteArray := prog_10_method_31_code
def yX8_keep : MethodName := ⟨RX8, "keep", "(I)V"⟩
abbrev cX8_end : ByteArray := prog_10_method_32_code
def yX8_end : MethodName := ⟨RX8, "end", "()I"⟩
abbrev cX8_drop : ByteArray := prog_10_method_33_code
def yX8_drop : MethodName := ⟨RX8, "drop", "()I"⟩
abbrev cX8_depth : ByteArray := prog_10_method_34_code
def yX8_depth : MethodName := ⟨RX8, "depth", "()I"⟩
abbrev cX8_scoring : ByteArray := prog_10_method_35_code
def yX8_scoring : MethodName := ⟨RX8, "scoring", "(II)I"⟩
abbrev cX8_rounded : ByteArray := prog_10_method_36_code
def yX8_rounded : MethodName := ⟨RX8, "rounded", "(II)I"⟩
abbrev cX8_totalOf : ByteArray := prog_10_method_37_code
def yX8_totalOf : MethodName := ⟨RX8, "totalOf", "(I)I"⟩
abbrev cX8_above : ByteArray := prog_10_method_38_code
def yX8_above : MethodName := ⟨RX8, "above", "(I)I"⟩
abbrev cX8_total : ByteArray := prog_10_method_39_code
def yX8_total : MethodName := ⟨RX8, "total", "()V"⟩
abbrev cX8_isBetter : ByteArray := prog_10_method_40_code
def yX8_isBetter : MethodName := ⟨RX8, "isBetter", "(II)Z"⟩
abbrev cX8_rankOf : ByteArray := prog_10_method_41_code
def yX8_rankOf : MethodName := ⟨RX8, "rankOf", "(I)I"⟩
abbrev cX8_alike : ByteArray := prog_10_method_42_code
def yX8_alike : MethodName := ⟨RX8, "alike", "(I)I"⟩
abbrev cX8_prizeOf : ByteArray := prog_10_method_43_code
def yX8_prizeOf : MethodName := ⟨RX8, "prizeOf", "(I)I"⟩
abbrev cX8_told : ByteArray := prog_10_method_44_code
def yX8_told : MethodName := ⟨RX8, "told", "(II)I"⟩
abbrev cX8_mark : ByteArray := prog_10_method_45_code
def yX8_mark : MethodName := ⟨RX8, "mark", "(II)I"⟩
abbrev cX8_place : ByteArray := prog_10_method_46_code
def yX8_place : MethodName := ⟨RX8, "place", "(II)I"⟩
abbrev cX8_close : ByteArray := prog_10_method_47_code
def yX8_close : MethodName := ⟨RX8, "close", "(I)I"⟩
abbrev cX8_about : ByteArray := prog_10_method_48_code
def yX8_about : MethodName := ⟨RX8, "about", "(II)I"⟩
abbrev cX8_uphold : ByteArray := prog_10_method_49_code
def yX8_uphold : MethodName := ⟨RX8, "uphold", "(I)I"⟩
abbrev cX8_event : ByteArray := prog_10_method_50_code
def yX8_event : MethodName := ⟨RX8, "event", "(II)I"⟩
abbrev cX8_failure : ByteArray := prog_10_method_51_code
def yX8_failure : MethodName := ⟨RX8, "failure", "(II)I"⟩
abbrev cX8_is : ByteArray := prog_10_method_52_code
def yX8_is : MethodName := ⟨RX8, "is", "(II)I"⟩
abbrev cX8_undo : ByteArray := prog_10_method_53_code
def yX8_undo : MethodName := ⟨RX8, "undo", "()I"⟩
abbrev cX8_count : ByteArray := prog_10_method_54_code
def yX8_count : MethodName := ⟨RX8, "count", "(I)I"⟩
abbrev cX8_digest : ByteArray := prog_10_method_55_code
def yX8_digest : MethodName := ⟨RX8, "digest", "()J"⟩
def RJ6 : String := "java/lang/Integer"
def TJ6 : u_T := fun k => match k with
  | _ => ("", "", "", false)
def tyJ6 : Nat → FieldType := fun k => match k with
  | _ => .int
theorem nmJ6 : ∀ a, a < 0 → ∀ b, b < 0 → a ≠ b → (TJ6 a).2.1 ≠ (TJ6 b).2.1 := by decide +kernel
theorem tyJ6_ok : ∀ k, k < 0 → parseFieldDescriptor (TJ6 k).2.2.1 = some (tyJ6 k) := by decide +kernel
abbrev cJ6_bitCount_0f7a4 : ByteArray := prog_11_method_49_code
def yJ6_bitCount_0f7a4 : MethodName := ⟨RJ6, "bitCount", "(I)I"⟩
def RJ9 : String := "java/lang/Math"
def TJ9 : u_T := fun k => match k with
  | _ => ("", "", "", false)
def tyJ9 : Nat → FieldType := fun k => match k with
  | _ => .int
theorem nmJ9 : ∀ a, a < 0 → ∀ b, b < 0 → a ≠ b → (TJ9 a).2.1 ≠ (TJ9 b).2.1 := by decide +kernel
theorem tyJ9_ok : ∀ k, k < 0 → parseFieldDescriptor (TJ9 k).2.2.1 = some (tyJ9 k) := by decide +kernel
abbrev cJ9_floorDiv_7cf53 : ByteArray := prog_12_method_47_code
def yJ9_floorDiv_7cf53 : MethodName := ⟨RJ9, "floorDiv", "(II)I"⟩
abbrev cJ9_floorMod_7cf53 : ByteArray := prog_12_method_50_code
def yJ9_floorMod_7cf53 : MethodName := ⟨RJ9, "floorMod", "(II)I"⟩
abbrev cJ9_max_7cf53 : ByteArray := prog_12_method_65_code
def yJ9_max_7cf53 : MethodName := ⟨RJ9, "max", "(II)I"⟩
abbrev cJ9_min_7cf53 : ByteArray := prog_12_method_69_code
def yJ9_min_7cf53 : MethodName := ⟨RJ9, "min", "(II)I"⟩
def RL : String := "JudgesLedgerLaw"
abbrev cL_law : ByteArray := code
def yL_law : MethodName := ⟨RL, "law", "([I)Z"⟩
abbrev vwCl : List vw_C := [(RX0, TX0, 2), (RX1, TX1, 4), (RX2, TX2, 6), (RX3, TX3, 4), (RX4, TX4, 9), (RX5, TX5, 10), (RX6, TX6, 10), (RX7, TX7, 13), (RX8, TX8, 48)]
end
section
/-! A calculus over the machine: states of a method are (place, locals, operands, cells by number). A reference is the number of its cell; q gives its address. Cell 0 is the script, cell 1 the constant row of the ledger; both are only read. -/
abbrev zc : Type := Nat × Nat × (Nat → Value)
abbrev zH : Type := Nat → zc
/-- class numbers, their slots, array kinds, the script's length, the script -/
abbrev zG : Type := (Nat → ClassId) × (Nat → Nat → Nat) × (Nat → ClassId) × Nat × (Nat → Int32)
abbrev zM : Type := MethodName × ByteArray × Nat × Option FieldType
abbrev zQ : Type := Option Value → Nat → zH → Prop
def zv (q : Nat → Nat) (v : Value) : Value := match v with
  | .ref k => .ref (q k)
  | v => v
theorem zv_cat (q : Nat → Nat) (v : Value) : (zv q v).category = v.category := by cases v <;> rfl
def zT : List Cond := lw_tbl.filter goodWord
def zws (M : zM) : List Cond := Cond.code M.1 M.2.1 M.2.2.1 M.2.2.2 :: zT
def zty : List FieldType := [.int, .boolean, .object RX4]
def zka : Nat → Int32 := fun k => ([0, 0, 1, 1, 0, 4, 4, 0, 7, 0, 9, 0] : List Int32).getD k 0
def zqo (q : Nat → Nat) : Prop := q 0 < q 2 ∧ q 1 < q 2 ∧ ∀ k, q (2 + k) = q 2 + k
theorem zqo_ge {q : Nat → Nat} (h : zqo q) {k : Nat} (hk : 2 ≤ k) : q k = q 2 + (k - 2) := by
  have e := h.2.2 (k - 2)
  rw [show 2 + (k - 2) = k by omega] at e
  exact e
theorem zqo_ne {q : Nat → Nat} (h : zqo q) {j k : Nat} (hk : 2 ≤ k) (hj : j ≠ k) : q j ≠ q k := by
  have e := zqo_ge h hk
  rcases Nat.lt_or_ge j 2 with hl | hl
  · have h0 := h.1
    have h1 := h.2.1
    rcases (show j = 0 ∨ j = 1 by omega) with rfl | rfl <;> omega
  · have e2 := zqo_ge h hl
    omega
def zok (D : zG) (q : Nat → Nat) (a : Nat) (x : zc) (H : Heap) : Prop :=
  (x.1 < 1000 → ∃ r : vw_C, vwCl[x.1]? = some r ∧ t_OB a (D.1 x.1) r.2.2 (D.2.1 x.1) H (fun j => zv q (x.2.2 j))) ∧
  (1000 ≤ x.1 → H[a]? = some (arrV (D.2.2.1 (x.1 - 1000)) x.2.1 (fun j => zv q (x.2.2 j))))
theorem zok.kept {D : zG} {q : Nat → Nat} {a : Nat} {x : zc} {H H1 : Heap} (h : zok D q a x H) (hq : H1[a]? = H[a]?) : zok D q a x H1 := by
  refine ⟨fun h1 => ?_, fun h1 => ?_⟩
  · obtain ⟨r, e1, e2⟩ := h.1 h1
    exact ⟨r, e1, e2.kept hq⟩
  · exact hq.trans (h.2 h1)
def zW (D : zG) (q : Nat → Nat) (H0 : Heap) (N : Nat) (w : zH) (H : Heap) : Prop :=
  2 ≤ N ∧ H.size = q N ∧ (∀ k, 2 ≤ k → k < N → zok D q (q k) (w k) H) ∧ (∀ a, a < q 2 → H[a]? = H0[a]?) ∧ (w 0).2.1 = D.2.2.2.1 ∧ ∀ i, (w 0).2.2 i = .int (D.2.2.2.2 i)
def zLc (q : Nat → Nat) (locs : List Loc) : Prop := ∀ x ∈ locs, q 2 ≤ x.base
def zNest : List Cond := [.methodLinkNest RX7 11 yX6_init RX7, .methodLinkNest RX7 36 yX3_init RX7, .methodLinkNest RX7 43 yX0_init RX7, .methodLinkNest RX7 50 yX1_init RX7, .methodLinkNest RX7 81 yX4_init RX7]
/-- what the tables, and the heap at the law's start, say -/
def zK (D : zG) (q : Nat → Nat) (H0 : Heap) (U : State) : Prop :=
  (∀ (c : Nat) (r : vw_C), vwCl[c]? = some r → u_Kn U r.1 r.2.1 r.2.2 (D.1 c) (D.2.1 c)) ∧
  (∀ (t : Nat) (ty : FieldType), zty[t]? = some ty → ArrOfT U (D.2.2.1 t) ty ∧ va_RA U (D.2.2.1 t) ty) ∧
  zqo q ∧ q 2 = H0.size ∧ va_Z RX7 "KIND_ABOVE" "[I" (.ref (q 1)) (fun a => q 2 ≤ a) U H0 ∧
  va_X (q 0) D.2.2.2.1 D.2.2.2.2 U H0 ∧ va_X (q 1) 12 zka U H0 ∧
  (∀ wd ∈ zNest, va_Nw wd U) ∧ va_AO RX4 U
def zCx (M : zM) (p : Program) (s : State) (m : MethodId) (args : Array Value) (meth : Method) (c : Code) (D : zG) (q : Nat → Nat) (H0 : Heap) : Prop :=
  p.tables.exec = Jvm.exec ∧ c.code = M.2.1 ∧ meth.sig.returnType = M.2.2.2 ∧ c.maxLocals = M.2.2.1 ∧ s.vm.findClass M.1.cls = some m.cls ∧ (∀ wd ∈ zws M, wd.before args s = true) ∧ meth.locks = false ∧ meth.name = M.1.name ∧ zK D q H0 s
def zL (q : Nat → Nat) (nL : Nat) (lo : List (Option Value)) (ls : Array Slot) : Prop :=
  ls.size = nL ∧ lv_wf ls ∧ ∀ (i : Nat) (v : Value), lo[i]? = some (some v) → ls[i]? = some (.val (zv q v))
abbrev zZt : Type := List Frame → Array Value → State → zG → (Nat → Nat) → Heap → State → Prop
/-- from here the method comes to its end: Z -/
def zEV (M : zM) (R : Room) (Z : zZt) (pc : Nat) (lo : List (Option Value)) (st : List Value) (N : Nat) (w : zH) (k n : Nat) : Prop :=
  ∀ (p : Program) (l : Launch) (e : Env) (s : State) (m : MethodId) (args : Array Value) (below : List Frame) (meth : Method) (c : Code) (D : zG) (q : Nat → Nat) (H0 : Heap), zCx M p s m args meth c D q H0 →
    ∀ (H : Heap) (locs : List Loc) (ls : Array Slot), zW D q H0 N w H → zLc q locs → zL q M.2.2.1 lo ls →
      W p l e R s m args below meth c H locs k n (Z below args s D q H0) (F0 m pc ls (st.map (zv q)))
def zPo (D : zG) (q : Nat → Nat) (H0 : Heap) (Q : zQ) : Array Value → State → Outcome → State → Prop := fun _ _ oc t =>
  ∃ (r : Option Value) (N : Nat) (w : zH), Q r N w ∧ oc = .returned (r.map (zv q)) ∧ zW D q H0 N w t.heap
def zZ (mc ms : Nat) (Q : zQ) : zZt := fun below args s D q H0 => MQ below (zPo D q H0 Q) args s mc ms (fun a => q 2 ≤ a)
def zrm (d mc ms : Nat) : Room := { frames := d, cells := mc, slots := ms, locals := 36 * d }
/-- a contract: with these arguments, from these cells, the method returns and Q holds of its answer and of the cells then -/
def zMt (M : zM) (d mc ms : Nat) (As : List Value) (N : Nat) (w : zH) (Q : zQ) : Prop :=
  ∀ (l : Launch) (D : zG) (q : Nat → Nat) (H0 : Heap), Met l M.1 (zws M) (zrm d mc ms) (va_Pc (As.map (zv q)) (fun U => zW D q H0 N w U.heap ∧ zK D q H0 U)) (zPo D q H0 Q) mc ms (fun a => q 2 ≤ a)
def zIs (M : zM) (pc : Nat) (i : ClassFile.Instr) (len pc' : Nat) : Prop := decode M.2.1 pc = .ok (i, len) ∧ pc + len = pc'
def zBr (M : zM) (pc : Nat) (mk : Int → ClassFile.Instr) (tgt pc' : Nat) : Prop := ∃ off : Int, decode M.2.1 pc = .ok (mk off, 3) ∧ (pc : Int) + off = (tgt : Int) ∧ pc + 3 = pc'
/-! locals -/
def zkp (lo : List (Option Value)) (i : Nat) : Bool := match i with
  | 0 => true
  | j + 1 => match lo[j]? with
    | some (some (.long _)) => false
    | some (some (.double _)) => false
    | _ => true
theorem zkp_use {lo : List (Option Value)} {i j : Nat} {v : Value} (h : zkp lo i = true) (hj : j + 1 = i) (hv : lo[j]? = some (some v)) : v.category = 1 := by
  subst hj
  simp only [zkp, hv] at h
  cases v <;> first | rfl | simp at h
theorem zL_store1 {q : Nat → Nat} {nL : Nat} {lo : List (Option Value)} {ls : Array Slot} {i : Nat} {v : Value} (h : zL q nL lo ls) (hi : i < nL) (hc : v.category = 1) (hk : zkp lo i = true) :
    ∃ ls', storeLocals ls i (zv q v) = some ls' ∧ zL q nL (lo.set i (some v)) ls' := by
  obtain ⟨h1, h2, h3⟩ := h
  obtain ⟨ls', e', h'⟩ := lv_store1 (l := []) (v := zv q v) ⟨h1, h2, fun x hx => by cases hx⟩ hi (by rw [zv_cat]; exact hc)
  refine ⟨ls', e', h'.1, h'.2.1, fun j u hj => ?_⟩
  by_cases hji : i = j
  · subst hji
    have hu : u = v := by
      by_cases hl : i < lo.length
      · rw [List.getElem?_set_self hl] at hj
        simp at hj
        exact hj.symm
      · rw [List.getElem?_eq_none (by simpa using hl)] at hj
        cases hj
    subst hu
    exact h'.2.2 (i, zv q u) (by simp)
  · rw [List.getElem?_set_ne hji] at hj
    obtain ⟨l2, e2, g2⟩ := lv_store1 (l := [(j, zv q u)]) (v := zv q v) ⟨h1, h2, fun x hx => by simp at hx; subst hx; exact h3 j u hj⟩ hi (by rw [zv_cat]; exact hc)
    have e3 : l2 = ls' := Option.some.inj (e2.symm.trans e')
    subst e3
    refine g2.2.2 (j, zv q u) ?_
    refine List.mem_cons_of_mem _ (List.mem_filter.mpr ⟨by simp, ?_⟩)
    have n1 : ¬ j = i := fun x => hji x.symm
    by_cases hj1 : j + 1 = i
    · have hcu := zkp_use hk hj1 hj
      simp [n1, zv_cat, hcu]
    · simp [n1, hj1]
theorem zL_store2 {q : Nat → Nat} {nL : Nat} {lo : List (Option Value)} {ls : Array Slot} {i : Nat} {v : Value} (h : zL q nL lo ls) (hi : i + 1 < nL) (hc : v.category = 2) (hk : zkp lo i = true) :
    ∃ ls', storeLocals ls i (zv q v) = some ls' ∧ zL q nL ((lo.set i (some v)).set (i + 1) none) ls' := by
  obtain ⟨h1, h2, h3⟩ := h
  obtain ⟨ls', e', h'⟩ := lv_store2 (l := []) (v := zv q v) ⟨h1, h2, fun x hx => by cases hx⟩ hi (by rw [zv_cat]; exact hc)
  refine ⟨ls', e', h'.1, h'.2.1, fun j u hj => ?_⟩
  by_cases hj2 : i + 1 = j
  · subst hj2
    by_cases hl : i + 1 < (lo.set i (some v)).length
    · rw [List.getElem?_set_self hl] at hj
      simp at hj
    · rw [List.getElem?_eq_none (by simpa using hl)] at hj
      cases hj
  · rw [List.getElem?_set_ne hj2] at hj
    by_cases hji : i = j
    · subst hji
      have hu : u = v := by
        by_cases hl : i < lo.length
        · rw [List.getElem?_set_self hl] at hj
          simp at hj
          exact hj.symm
        · rw [List.getElem?_eq_none (by simpa using hl)] at hj
          cases hj
      subst hu
      exact h'.2.2 (i, zv q u) (by simp)
    · rw [List.getElem?_set_ne hji] at hj
      obtain ⟨l2, e2, g2⟩ := lv_store2 (l := [(j, zv q u)]) (v := zv q v) ⟨h1, h2, fun x hx => by simp at hx; subst hx; exact h3 j u hj⟩ hi (by rw [zv_cat]; exact hc)
      have e3 : l2 = ls' := Option.some.inj (e2.symm.trans e')
      subst e3
      refine g2.2.2 (j, zv q u) ?_
      refine List.mem_cons_of_mem _ (List.mem_filter.mpr ⟨by simp, ?_⟩)
      have n1 : ¬ j = i := fun x => hji x.symm
      have n2 : ¬ j = i + 1 := fun x => hj2 x.symm
      by_cases hj1 : j + 1 = i
      · have hcu := zkp_use hk hj1 hj
        simp [n1, n2, zv_cat, hcu]
      · simp [n1, n2, hj1]
def zlo : List Value → List (Option Value)
  | [] => []
  | v :: r => if v.category = 2 then some v :: none :: zlo r else some v :: zlo r
end
section
section ZR
variable {M : zM} {R : Room} {Z : zZt} {pc pc' tgt : Nat} {lo : List (Option Value)} {st : List Value} {N : Nat} {w : zH} {k n : Nat}
/-- a number is pushed -/
def zPi (M : zM) (pc : Nat) (v : Int32) (pc' : Nat) : Prop :=
  (∃ i : Int, decode M.2.1 pc = .ok (.iconst i, 1) ∧ Int32.ofInt i = v ∧ pc + 1 = pc') ∨ (∃ i : Int, decode M.2.1 pc = .ok (.bipush i, 2) ∧ (Int8.ofInt i).toInt32 = v ∧ pc + 2 = pc') ∨ (∃ i : Int, decode M.2.1 pc = .ok (.sipush i, 3) ∧ (Int16.ofInt i).toInt32 = v ∧ pc + 3 = pc') ∨
  (∃ i : Nat, decode M.2.1 pc = .ok (.ldc i, 2) ∧ Cond.constant M.1.cls i v ∈ zT ∧ pc + 2 = pc') ∨ (∃ i : Nat, decode M.2.1 pc = .ok (.ldc_w i, 3) ∧ Cond.constant M.1.cls i v ∈ zT ∧ pc + 3 = pc')
theorem zT_use {M : zM} {p : Program} {s : State} {m : MethodId} {args : Array Value} {meth : Method} {c : Code} {D : zG} {q : Nat → Nat} {H0 : Heap} (C : zCx M p s m args meth c D q H0) {wd : Cond} (h : wd ∈ zT) : wd.before args s = true := C.2.2.2.2.2.1 wd (List.mem_cons_of_mem _ h)
theorem z_push {v : Int32} (hi : zPi M pc v pc') (kk : zEV M R Z pc' lo (.int v :: st) N w k n) : zEV M R Z pc lo st N w k n := by
  intro p l e s m args below meth c D q H0 C H locs ls HW HC HL
  have K := kk p l e s m args below meth c D q H0 C H locs ls HW HC HL
  rcases hi with ⟨i, hd, hv, rfl⟩ | ⟨i, hd, hv, rfl⟩ | ⟨i, hd, hv, rfl⟩ | ⟨i, hd, hv, rfl⟩ | ⟨i, hd, hv, rfl⟩
  · exact lv_iconst C.1 C.2.1 hd hv K
  · exact lv_bipush C.1 C.2.1 hd hv K
  · exact lv_sipush C.1 C.2.1 hd hv K
  · exact lv_ldc C.1 C.2.1 C.2.2.2.2.1 (zT_use C hv) hd K
  · exact lv_ldcw C.1 C.2.1 C.2.2.2.2.1 (zT_use C hv) hd K
def zPl (M : zM) (pc : Nat) (v : Int64) (pc' : Nat) : Prop := ∃ i : Nat, decode M.2.1 pc = .ok (.ldc2_w i, 3) ∧ Cond.constantLong M.1.cls i v ∈ zT ∧ pc + 3 = pc'
theorem z_pushl {v : Int64} (hi : zPl M pc v pc') (kk : zEV M R Z pc' lo (.long v :: st) N w k n) : zEV M R Z pc lo st N w k n := by
  intro p l e s m args below meth c D q H0 C H locs ls HW HC HL
  have K := kk p l e s m args below meth c D q H0 C H locs ls HW HC HL
  obtain ⟨i, hd, hv, rfl⟩ := hi
  exact lv_ldc2 C.1 C.2.1 C.2.2.2.2.1 (zT_use C hv) hd K
/-- drop a stale local -/
theorem z_sub {lo' : List (Option Value)} (h : ∀ (i : Nat) (v : Value), lo'[i]? = some (some v) → lo[i]? = some (some v)) (kk : zEV M R Z pc lo' st N w k n) : zEV M R Z pc lo st N w k n := by
  intro p l e s m args below meth c D q H0 C H locs ls HW HC HL
  exact kk p l e s m args below meth c D q H0 C H locs ls HW HC ⟨HL.1, HL.2.1, fun i v hv => HL.2.2 i v (h i v hv)⟩

def zLi (M : zM) (pc i pc' : Nat) : Prop := (∃ j : Fin 4, decode M.2.1 pc = .ok (.iload_n j, 1) ∧ (j : Nat) = i ∧ pc + 1 = pc') ∨ (decode M.2.1 pc = .ok (.iload i, 2) ∧ pc + 2 = pc')
theorem z_iload {i : Nat} {x : Int32} (hi : zLi M pc i pc') (hl : lo[i]? = some (some (.int x))) (kk : zEV M R Z pc' lo (.int x :: st) N w k n) : zEV M R Z pc lo st N w k n := by
  intro p l e s m args below meth c D q H0 C H locs ls HW HC HL
  have K := kk p l e s m args below meth c D q H0 C H locs ls HW HC HL
  rcases hi with ⟨j, hd, hj, rfl⟩ | ⟨hd, rfl⟩
  · exact lv_iload_n C.1 C.2.1 hd hj (HL.2.2 i _ hl) K
  · exact lv_iload C.1 C.2.1 hd (HL.2.2 i _ hl) K

def zSi (M : zM) (pc i pc' : Nat) : Prop := ((∃ j : Fin 4, decode M.2.1 pc = .ok (.istore_n j, 1) ∧ (j : Nat) = i ∧ pc + 1 = pc') ∨ (decode M.2.1 pc = .ok (.istore i, 2) ∧ pc + 2 = pc')) ∧ i < M.2.2.1
theorem z_istore {i : Nat} {x : Int32} (hi : zSi M pc i pc') (hk : zkp lo i = true) (kk : zEV M R Z pc' (lo.set i (some (.int x))) st N w k n) : zEV M R Z pc lo (.int x :: st) N w k n := by
  intro p l e s m args below meth c D q H0 C H locs ls HW HC HL
  obtain ⟨hi, hb⟩ := hi
  obtain ⟨ls', e', h'⟩ := zL_store1 (v := .int x) HL hb rfl hk
  have K := kk p l e s m args below meth c D q H0 C H locs ls' HW HC h'
  intro T hT X
  obtain ⟨t, a, b⟩ := K T hT X
  have hexec := C.1
  have hbb := C.2.1
  refine ⟨t, ?_, b⟩
  have e2 : storeLocals ls i (zv q (.int x)) = some ls' := e'
  simp only [zv] at e2
  rcases hi with ⟨j, hdg, hj, rfl⟩ | ⟨hdg, rfl⟩
  · subst hj
    simp only [List.map_cons, zv]
    jvm_step X.here [X.here.top, ↓top_set X.here.top, hexec, hbb, hdg, e2]
    exact a
  · simp only [List.map_cons, zv]
    jvm_step X.here [X.here.top, ↓top_set X.here.top, hexec, hbb, hdg, e2]
    exact a

def zLa (M : zM) (pc i pc' : Nat) : Prop := (∃ j : Fin 4, decode M.2.1 pc = .ok (.aload_n j, 1) ∧ (j : Nat) = i ∧ pc + 1 = pc') ∨ (decode M.2.1 pc = .ok (.aload i, 2) ∧ pc + 2 = pc')
theorem z_aload {i : Nat} {x : Nat} (hi : zLa M pc i pc') (hl : lo[i]? = some (some (.ref x))) (kk : zEV M R Z pc' lo (.ref x :: st) N w k n) : zEV M R Z pc lo st N w k n := by
  intro p l e s m args below meth c D q H0 C H locs ls HW HC HL
  have K := kk p l e s m args below meth c D q H0 C H locs ls HW HC HL
  rcases hi with ⟨j, hd, hj, rfl⟩ | ⟨hd, rfl⟩
  · exact lv_aload_n C.1 C.2.1 hd hj (HL.2.2 i _ hl) K
  · exact lv_aload C.1 C.2.1 hd (HL.2.2 i _ hl) K

def zSa (M : zM) (pc i pc' : Nat) : Prop := ((∃ j : Fin 4, decode M.2.1 pc = .ok (.astore_n j, 1) ∧ (j : Nat) = i ∧ pc + 1 = pc') ∨ (decode M.2.1 pc = .ok (.astore i, 2) ∧ pc + 2 = pc')) ∧ i < M.2.2.1
theorem z_astore {i : Nat} {x : Nat} (hi : zSa M pc i pc') (hk : zkp lo i = true) (kk : zEV M R Z pc' (lo.set i (some (.ref x))) st N w k n) : zEV M R Z pc lo (.ref x :: st) N w k n := by
  intro p l e s m args below meth c D q H0 C H locs ls HW HC HL
  obtain ⟨hi, hb⟩ := hi
  obtain ⟨ls', e', h'⟩ := zL_store1 (v := .ref x) HL hb rfl hk
  have K := kk p l e s m args below meth c D q H0 C H locs ls' HW HC h'
  intro T hT X
  obtain ⟨t, a, b⟩ := K T hT X
  have hexec := C.1
  have hbb := C.2.1
  refine ⟨t, ?_, b⟩
  have e2 : storeLocals ls i (zv q (.ref x)) = some ls' := e'
  simp only [zv] at e2
  rcases hi with ⟨j, hdg, hj, rfl⟩ | ⟨hdg, rfl⟩
  · subst hj
    simp only [List.map_cons, zv]
    jvm_step X.here [X.here.top, ↓top_set X.here.top, hexec, hbb, hdg, e2, Value.isRef]
    exact a
  · simp only [List.map_cons, zv]
    jvm_step X.here [X.here.top, ↓top_set X.here.top, hexec, hbb, hdg, e2, Value.isRef]
    exact a

def zLl (M : zM) (pc i pc' : Nat) : Prop := (∃ j : Fin 4, decode M.2.1 pc = .ok (.lload_n j, 1) ∧ (j : Nat) = i ∧ pc + 1 = pc') ∨ (decode M.2.1 pc = .ok (.lload i, 2) ∧ pc + 2 = pc')
theorem z_lload {i : Nat} {x : Int64} (hi : zLl M pc i pc') (hl : lo[i]? = some (some (.long x))) (kk : zEV M R Z pc' lo (.long x :: st) N w k n) : zEV M R Z pc lo st N w k n := by
  intro p l e s m args below meth c D q H0 C H locs ls HW HC HL
  have K := kk p l e s m args below meth c D q H0 C H locs ls HW HC HL
  rcases hi with ⟨j, hd, hj, rfl⟩ | ⟨hd, rfl⟩
  · exact lv_lload_n C.1 C.2.1 hd hj (HL.2.2 i _ hl) K
  · exact lv_lload C.1 C.2.1 hd (HL.2.2 i _ hl) K

def zSl (M : zM) (pc i pc' : Nat) : Prop := ((∃ j : Fin 4, decode M.2.1 pc = .ok (.lstore_n j, 1) ∧ (j : Nat) = i ∧ pc + 1 = pc') ∨ (decode M.2.1 pc = .ok (.lstore i, 2) ∧ pc + 2 = pc')) ∧ i + 1 < M.2.2.1
theorem z_lstore {i : Nat} {x : Int64} (hi : zSl M pc i pc') (hk : zkp lo i = true) (kk : zEV M R Z pc' ((lo.set i (some (.long x))).set (i + 1) none) st N w k n) : zEV M R Z pc lo (.long x :: st) N w k n := by
  intro p l e s m args below meth c D q H0 C H locs ls HW HC HL
  obtain ⟨hi, hb⟩ := hi
  obtain ⟨ls', e', h'⟩ := zL_store2 (v := .long x) HL hb rfl hk
  have K := kk p l e s m args below meth c D q H0 C H locs ls' HW HC h'
  intro T hT X
  obtain ⟨t, a, b⟩ := K T hT X
  have hexec := C.1
  have hbb := C.2.1
  refine ⟨t, ?_, b⟩
  have e2 : storeLocals ls i (zv q (.long x)) = some ls' := e'
  simp only [zv] at e2
  rcases hi with ⟨j, hdg, hj, rfl⟩ | ⟨hdg, rfl⟩
  · subst hj
    simp only [List.map_cons, zv]
    jvm_step X.here [X.here.top, ↓top_set X.here.top, hexec, hbb, hdg, e2]
    exact a
  · simp only [List.map_cons, zv]
    jvm_step X.here [X.here.top, ↓top_set X.here.top, hexec, hbb, hdg, e2]
    exact a

theorem z_iinc {i : Nat} {d : Int} {v x : Int32} (hi : zIs M pc (.iinc i d) 3 pc') (hv : Int32.ofInt d = v) (hb : i < M.2.2.1) (hl : lo[i]? = some (some (.int x))) (hk : zkp lo i = true) (kk : zEV M R Z pc' (lo.set i (some (.int (x + v)))) st N w k n) : zEV M R Z pc lo st N w k n := by
  intro p l e s m args below meth c D q H0 C H locs ls HW HC HL
  obtain ⟨hdg, rfl⟩ := hi
  subst hv
  obtain ⟨ls', e', h'⟩ := zL_store1 (v := .int (x + Int32.ofInt d)) HL hb rfl hk
  have K := kk p l e s m args below meth c D q H0 C H locs ls' HW HC h'
  have hg : ls[i]? = some (.val (.int x)) := HL.2.2 i _ hl
  intro T hT X
  obtain ⟨t, a, b⟩ := K T hT X
  have hexec := C.1
  have hbb := C.2.1
  refine ⟨t, ?_, b⟩
  have e2 : storeLocals ls i (.int (x + Int32.ofInt d)) = some ls' := e'
  jvm_step X.here [X.here.top, ↓top_set X.here.top, hexec, hbb, hdg, hg, e2]
  exact a

theorem z_iadd {x y : Int32} (hi : zIs M pc .iadd 1 pc')  (kk : zEV M R Z pc' lo (.int (x + y) :: st) N w k n) : zEV M R Z pc lo (.int y :: .int x :: st) N w k n := by
  intro p l e s m args below meth c D q H0 C H locs ls HW HC HL
  obtain ⟨hd, rfl⟩ := hi
  exact lv_iadd C.1 C.2.1 hd  (kk p l e s m args below meth c D q H0 C H locs ls HW HC HL)

theorem z_isub {x y : Int32} (hi : zIs M pc .isub 1 pc')  (kk : zEV M R Z pc' lo (.int (x - y) :: st) N w k n) : zEV M R Z pc lo (.int y :: .int x :: st) N w k n := by
  intro p l e s m args below meth c D q H0 C H locs ls HW HC HL
  obtain ⟨hd, rfl⟩ := hi
  exact lv_isub C.1 C.2.1 hd  (kk p l e s m args below meth c D q H0 C H locs ls HW HC HL)

theorem z_imul {x y : Int32} (hi : zIs M pc .imul 1 pc')  (kk : zEV M R Z pc' lo (.int (x * y) :: st) N w k n) : zEV M R Z pc lo (.int y :: .int x :: st) N w k n := by
  intro p l e s m args below meth c D q H0 C H locs ls HW HC HL
  obtain ⟨hd, rfl⟩ := hi
  exact lv_imul C.1 C.2.1 hd  (kk p l e s m args below meth c D q H0 C H locs ls HW HC HL)

theorem z_iand {x y : Int32} (hi : zIs M pc .iand 1 pc')  (kk : zEV M R Z pc' lo (.int (x &&& y) :: st) N w k n) : zEV M R Z pc lo (.int y :: .int x :: st) N w k n := by
  intro p l e s m args below meth c D q H0 C H locs ls HW HC HL
  obtain ⟨hd, rfl⟩ := hi
  exact lv_iand C.1 C.2.1 hd  (kk p l e s m args below meth c D q H0 C H locs ls HW HC HL)

theorem z_ior {x y : Int32} (hi : zIs M pc .ior 1 pc')  (kk : zEV M R Z pc' lo (.int (x ||| y) :: st) N w k n) : zEV M R Z pc lo (.int y :: .int x :: st) N w k n := by
  intro p l e s m args below meth c D q H0 C H locs ls HW HC HL
  obtain ⟨hd, rfl⟩ := hi
  exact lv_ior C.1 C.2.1 hd  (kk p l e s m args below meth c D q H0 C H locs ls HW HC HL)

theorem z_ixor {x y : Int32} (hi : zIs M pc .ixor 1 pc')  (kk : zEV M R Z pc' lo (.int (x ^^^ y) :: st) N w k n) : zEV M R Z pc lo (.int y :: .int x :: st) N w k n := by
  intro p l e s m args below meth c D q H0 C H locs ls HW HC HL
  obtain ⟨hd, rfl⟩ := hi
  exact lv_ixor C.1 C.2.1 hd  (kk p l e s m args below meth c D q H0 C H locs ls HW HC HL)

theorem z_ishl {x y : Int32} (hi : zIs M pc .ishl 1 pc')  (kk : zEV M R Z pc' lo (.int (x <<< (y &&& 31)) :: st) N w k n) : zEV M R Z pc lo (.int y :: .int x :: st) N w k n := by
  intro p l e s m args below meth c D q H0 C H locs ls HW HC HL
  obtain ⟨hd, rfl⟩ := hi
  exact lv_ishl C.1 C.2.1 hd  (kk p l e s m args below meth c D q H0 C H locs ls HW HC HL)

theorem z_ishr {x y : Int32} (hi : zIs M pc .ishr 1 pc')  (kk : zEV M R Z pc' lo (.int (x >>> (y &&& 31)) :: st) N w k n) : zEV M R Z pc lo (.int y :: .int x :: st) N w k n := by
  intro p l e s m args below meth c D q H0 C H locs ls HW HC HL
  obtain ⟨hd, rfl⟩ := hi
  exact lv_ishr C.1 C.2.1 hd  (kk p l e s m args below meth c D q H0 C H locs ls HW HC HL)

theorem z_iushr {x y : Int32} (hi : zIs M pc .iushr 1 pc')  (kk : zEV M R Z pc' lo (.int ((x.toUInt32 >>> (y.toUInt32 &&& Int32.toUInt32 31)).toInt32) :: st) N w k n) : zEV M R Z pc lo (.int y :: .int x :: st) N w k n := by
  intro p l e s m args below meth c D q H0 C H locs ls HW HC HL
  obtain ⟨hd, rfl⟩ := hi
  exact lv_iushr C.1 C.2.1 hd rfl (kk p l e s m args below meth c D q H0 C H locs ls HW HC HL)

theorem z_idiv {x y : Int32} (hi : zIs M pc .idiv 1 pc') (h0 : ¬ y = 0) (kk : zEV M R Z pc' lo (.int (x / y) :: st) N w k n) : zEV M R Z pc lo (.int y :: .int x :: st) N w k n := by
  intro p l e s m args below meth c D q H0 C H locs ls HW HC HL
  obtain ⟨hd, rfl⟩ := hi
  exact lv_idiv C.1 C.2.1 hd h0 (kk p l e s m args below meth c D q H0 C H locs ls HW HC HL)

theorem z_irem {x y : Int32} (hi : zIs M pc .irem 1 pc') (h0 : ¬ y = 0) (kk : zEV M R Z pc' lo (.int (x - x / y * y) :: st) N w k n) : zEV M R Z pc lo (.int y :: .int x :: st) N w k n := by
  intro p l e s m args below meth c D q H0 C H locs ls HW HC HL
  obtain ⟨hd, rfl⟩ := hi
  exact lv_irem C.1 C.2.1 hd h0 (kk p l e s m args below meth c D q H0 C H locs ls HW HC HL)

theorem z_ineg {x : Int32} (hi : zIs M pc .ineg 1 pc')  (kk : zEV M R Z pc' lo (.int (-x) :: st) N w k n) : zEV M R Z pc lo (.int x :: st) N w k n := by
  intro p l e s m args below meth c D q H0 C H locs ls HW HC HL
  obtain ⟨hd, rfl⟩ := hi
  exact lv_ineg C.1 C.2.1 hd  (kk p l e s m args below meth c D q H0 C H locs ls HW HC HL)

theorem z_i2l {x : Int32} (hi : zIs M pc .i2l 1 pc')  (kk : zEV M R Z pc' lo (.long x.toInt64 :: st) N w k n) : zEV M R Z pc lo (.int x :: st) N w k n := by
  intro p l e s m args below meth c D q H0 C H locs ls HW HC HL
  obtain ⟨hd, rfl⟩ := hi
  exact lv_i2l C.1 C.2.1 hd rfl (kk p l e s m args below meth c D q H0 C H locs ls HW HC HL)

theorem z_ladd {x y : Int64} (hi : zIs M pc .ladd 1 pc')  (kk : zEV M R Z pc' lo (.long (x + y) :: st) N w k n) : zEV M R Z pc lo (.long y :: .long x :: st) N w k n := by
  intro p l e s m args below meth c D q H0 C H locs ls HW HC HL
  obtain ⟨hd, rfl⟩ := hi
  exact lv_ladd C.1 C.2.1 hd  (kk p l e s m args below meth c D q H0 C H locs ls HW HC HL)

theorem z_lsub {x y : Int64} (hi : zIs M pc .lsub 1 pc')  (kk : zEV M R Z pc' lo (.long (x - y) :: st) N w k n) : zEV M R Z pc lo (.long y :: .long x :: st) N w k n := by
  intro p l e s m args below meth c D q H0 C H locs ls HW HC HL
  obtain ⟨hd, rfl⟩ := hi
  exact lv_lsub C.1 C.2.1 hd  (kk p l e s m args below meth c D q H0 C H locs ls HW HC HL)

theorem z_lmul {x y : Int64} (hi : zIs M pc .lmul 1 pc')  (kk : zEV M R Z pc' lo (.long (x * y) :: st) N w k n) : zEV M R Z pc lo (.long y :: .long x :: st) N w k n := by
  intro p l e s m args below meth c D q H0 C H locs ls HW HC HL
  obtain ⟨hd, rfl⟩ := hi
  exact lv_lmul C.1 C.2.1 hd  (kk p l e s m args below meth c D q H0 C H locs ls HW HC HL)

theorem z_lneg {x : Int64} (hi : zIs M pc .lneg 1 pc')  (kk : zEV M R Z pc' lo (.long (-x) :: st) N w k n) : zEV M R Z pc lo (.long x :: st) N w k n := by
  intro p l e s m args below meth c D q H0 C H locs ls HW HC HL
  obtain ⟨hd, rfl⟩ := hi
  exact lv_lneg C.1 C.2.1 hd  (kk p l e s m args below meth c D q H0 C H locs ls HW HC HL)

theorem z_lcmp {x y : Int64} (hi : zIs M pc .lcmp 1 pc')  (kk : zEV M R Z pc' lo (.int (lg_cmp x y) :: st) N w k n) : zEV M R Z pc lo (.long y :: .long x :: st) N w k n := by
  intro p l e s m args below meth c D q H0 C H locs ls HW HC HL
  obtain ⟨hd, rfl⟩ := hi
  exact W.lcmp C.1 C.2.1 hd  (kk p l e s m args below meth c D q H0 C H locs ls HW HC HL)

theorem z_dup {v : Value} (hi : zIs M pc .dup 1 pc') (hc : v.category = 1) (kk : zEV M R Z pc' lo (v :: v :: st) N w k n) : zEV M R Z pc lo (v :: st) N w k n := by
  intro p l e s m args below meth c D q H0 C H locs ls HW HC HL
  obtain ⟨hd, rfl⟩ := hi
  exact lv_dup C.1 C.2.1 hd (by rw [zv_cat]; exact hc) (kk p l e s m args below meth c D q H0 C H locs ls HW HC HL)

theorem z_pop {v : Value} (hi : zIs M pc .pop 1 pc') (hc : v.category = 1) (kk : zEV M R Z pc' lo (st) N w k n) : zEV M R Z pc lo (v :: st) N w k n := by
  intro p l e s m args below meth c D q H0 C H locs ls HW HC HL
  obtain ⟨hd, rfl⟩ := hi
  exact lv_pop C.1 C.2.1 hd (by rw [zv_cat]; exact hc) (kk p l e s m args below meth c D q H0 C H locs ls HW HC HL)

theorem z_dup2 {v u : Value} (hi : zIs M pc .dup2 1 pc') (hc : v.category = 1) (hc2 : u.category = 1) (kk : zEV M R Z pc' lo (v :: u :: v :: u :: st) N w k n) : zEV M R Z pc lo (v :: u :: st) N w k n := by
  intro p l e s m args below meth c D q H0 C H locs ls HW HC HL
  obtain ⟨hd, rfl⟩ := hi
  exact lv_dup2_11 C.1 C.2.1 hd (by rw [zv_cat]; exact hc) (by rw [zv_cat]; exact hc2) (kk p l e s m args below meth c D q H0 C H locs ls HW HC HL)

theorem z_goto (hi : zBr M pc .goto tgt pc') (kk : zEV M R Z tgt lo st N w k n) : zEV M R Z pc lo st N w k n := by
  intro p l e s m args below meth c D q H0 C H locs ls HW HC HL
  obtain ⟨off, hd, ht, -⟩ := hi
  exact lv_goto C.1 C.2.1 hd ht (kk p l e s m args below meth c D q H0 C H locs ls HW HC HL)

theorem z_icmp_eq {x y : Int32} (hi : zBr M pc (.if_icmp .eq) tgt pc') (kt : x = y → zEV M R Z tgt lo st N w k n) (kf : ¬ x = y → zEV M R Z pc' lo st N w k n) : zEV M R Z pc lo (.int y :: .int x :: st) N w k n := by
  intro p l e s m args below meth c D q H0 C H locs ls HW HC HL
  obtain ⟨off, hd, ht, rfl⟩ := hi
  exact lv_icmp_eq C.1 C.2.1 hd ht (fun h => kt h p l e s m args below meth c D q H0 C H locs ls HW HC HL) (fun h => kf h p l e s m args below meth c D q H0 C H locs ls HW HC HL)

theorem z_if_eq {x : Int32} (hi : zBr M pc (.ifCond .eq) tgt pc') (kt : x = 0 → zEV M R Z tgt lo st N w k n) (kf : ¬ x = 0 → zEV M R Z pc' lo st N w k n) : zEV M R Z pc lo (.int x :: st) N w k n := by
  intro p l e s m args below meth c D q H0 C H locs ls HW HC HL
  obtain ⟨off, hd, ht, rfl⟩ := hi
  exact lv_if_eq C.1 C.2.1 hd ht (fun h => kt h p l e s m args below meth c D q H0 C H locs ls HW HC HL) (fun h => kf h p l e s m args below meth c D q H0 C H locs ls HW HC HL)

theorem z_icmp_ne {x y : Int32} (hi : zBr M pc (.if_icmp .ne) tgt pc') (kt : ¬ x = y → zEV M R Z tgt lo st N w k n) (kf : x = y → zEV M R Z pc' lo st N w k n) : zEV M R Z pc lo (.int y :: .int x :: st) N w k n := by
  intro p l e s m args below meth c D q H0 C H locs ls HW HC HL
  obtain ⟨off, hd, ht, rfl⟩ := hi
  exact lv_icmp_ne C.1 C.2.1 hd ht (fun h => kt h p l e s m args below meth c D q H0 C H locs ls HW HC HL) (fun h => kf h p l e s m args below meth c D q H0 C H locs ls HW HC HL)

theorem z_if_ne {x : Int32} (hi : zBr M pc (.ifCond .ne) tgt pc') (kt : ¬ x = 0 → zEV M R Z tgt lo st N w k n) (kf : x = 0 → zEV M R Z pc' lo st N w k n) : zEV M R Z pc lo (.int x :: st) N w k n := by
  intro p l e s m args below meth c D q H0 C H locs ls HW HC HL
  obtain ⟨off, hd, ht, rfl⟩ := hi
  exact lv_if_ne C.1 C.2.1 hd ht (fun h => kt h p l e s m args below meth c D q H0 C H locs ls HW HC HL) (fun h => kf h p l e s m args below meth c D q H0 C H locs ls HW HC HL)

theorem z_icmp_lt {x y : Int32} (hi : zBr M pc (.if_icmp .lt) tgt pc') (kt : x < y → zEV M R Z tgt lo st N w k n) (kf : ¬ x < y → zEV M R Z pc' lo st N w k n) : zEV M R Z pc lo (.int y :: .int x :: st) N w k n := by
  intro p l e s m args below meth c D q H0 C H locs ls HW HC HL
  obtain ⟨off, hd, ht, rfl⟩ := hi
  exact lv_icmp_lt C.1 C.2.1 hd ht (fun h => kt h p l e s m args below meth c D q H0 C H locs ls HW HC HL) (fun h => kf h p l e s m args below meth c D q H0 C H locs ls HW HC HL)

theorem z_if_lt {x : Int32} (hi : zBr M pc (.ifCond .lt) tgt pc') (kt : x < 0 → zEV M R Z tgt lo st N w k n) (kf : ¬ x < 0 → zEV M R Z pc' lo st N w k n) : zEV M R Z pc lo (.int x :: st) N w k n := by
  intro p l e s m args below meth c D q H0 C H locs ls HW HC HL
  obtain ⟨off, hd, ht, rfl⟩ := hi
  exact lv_if_lt C.1 C.2.1 hd ht (fun h => kt h p l e s m args below meth c D q H0 C H locs ls HW HC HL) (fun h => kf h p l e s m args below meth c D q H0 C H locs ls HW HC HL)

theorem z_icmp_ge {x y : Int32} (hi : zBr M pc (.if_icmp .ge) tgt pc') (kt : y ≤ x → zEV M R Z tgt lo st N w k n) (kf : ¬ y ≤ x → zEV M R Z pc' lo st N w k n) : zEV M R Z pc lo (.int y :: .int x :: st) N w k n := by
  intro p l e s m args below meth c D q H0 C H locs ls HW HC HL
  obtain ⟨off, hd, ht, rfl⟩ := hi
  exact lv_icmp_ge C.1 C.2.1 hd ht (fun h => kt h p l e s m args below meth c D q H0 C H locs ls HW HC HL) (fun h => kf h p l e s m args below meth c D q H0 C H locs ls HW HC HL)

theorem z_if_ge {x : Int32} (hi : zBr M pc (.ifCond .ge) tgt pc') (kt : 0 ≤ x → zEV M R Z tgt lo st N w k n) (kf : ¬ 0 ≤ x → zEV M R Z pc' lo st N w k n) : zEV M R Z pc lo (.int x :: st) N w k n := by
  intro p l e s m args below meth c D q H0 C H locs ls HW HC HL
  obtain ⟨off, hd, ht, rfl⟩ := hi
  exact lv_if_ge C.1 C.2.1 hd ht (fun h => kt h p l e s m args below meth c D q H0 C H locs ls HW HC HL) (fun h => kf h p l e s m args below meth c D q H0 C H locs ls HW HC HL)

theorem z_icmp_gt {x y : Int32} (hi : zBr M pc (.if_icmp .gt) tgt pc') (kt : y < x → zEV M R Z tgt lo st N w k n) (kf : ¬ y < x → zEV M R Z pc' lo st N w k n) : zEV M R Z pc lo (.int y :: .int x :: st) N w k n := by
  intro p l e s m args below meth c D q H0 C H locs ls HW HC HL
  obtain ⟨off, hd, ht, rfl⟩ := hi
  exact lv_icmp_gt C.1 C.2.1 hd ht (fun h => kt h p l e s m args below meth c D q H0 C H locs ls HW HC HL) (fun h => kf h p l e s m args below meth c D q H0 C H locs ls HW HC HL)

theorem z_if_gt {x : Int32} (hi : zBr M pc (.ifCond .gt) tgt pc') (kt : 0 < x → zEV M R Z tgt lo st N w k n) (kf : ¬ 0 < x → zEV M R Z pc' lo st N w k n) : zEV M R Z pc lo (.int x :: st) N w k n := by
  intro p l e s m args below meth c D q H0 C H locs ls HW HC HL
  obtain ⟨off, hd, ht, rfl⟩ := hi
  exact lv_if_gt C.1 C.2.1 hd ht (fun h => kt h p l e s m args below meth c D q H0 C H locs ls HW HC HL) (fun h => kf h p l e s m args below meth c D q H0 C H locs ls HW HC HL)

theorem z_icmp_le {x y : Int32} (hi : zBr M pc (.if_icmp .le) tgt pc') (kt : x ≤ y → zEV M R Z tgt lo st N w k n) (kf : ¬ x ≤ y → zEV M R Z pc' lo st N w k n) : zEV M R Z pc lo (.int y :: .int x :: st) N w k n := by
  intro p l e s m args below meth c D q H0 C H locs ls HW HC HL
  obtain ⟨off, hd, ht, rfl⟩ := hi
  exact lv_icmp_le C.1 C.2.1 hd ht (fun h => kt h p l e s m args below meth c D q H0 C H locs ls HW HC HL) (fun h => kf h p l e s m args below meth c D q H0 C H locs ls HW HC HL)

theorem z_if_le {x : Int32} (hi : zBr M pc (.ifCond .le) tgt pc') (kt : x ≤ 0 → zEV M R Z tgt lo st N w k n) (kf : ¬ x ≤ 0 → zEV M R Z pc' lo st N w k n) : zEV M R Z pc lo (.int x :: st) N w k n := by
  intro p l e s m args below meth c D q H0 C H locs ls HW HC HL
  obtain ⟨off, hd, ht, rfl⟩ := hi
  exact lv_if_le C.1 C.2.1 hd ht (fun h => kt h p l e s m args below meth c D q H0 C H locs ls HW HC HL) (fun h => kf h p l e s m args below meth c D q H0 C H locs ls HW HC HL)

end ZR
end
section
section ZHP
variable {M : zM} {R : Room} {Z : zZt} {pc pc' tgt : Nat} {lo : List (Option Value)} {st : List Value} {N : Nat} {w : zH} {k n : Nat}
theorem zK_moved {D : zG} {q : Nat → Nat} {H0 : Heap} {s U : State} (hW : s.WarmedH U.vm) (h : zK D q H0 s) : zK D q H0 U := by
  obtain ⟨h1, h2, h3, h4, h5, h6, h7, h8, h9⟩ := h
  refine ⟨fun c r hr => u_Kn_moved hW.alike (h1 c r hr), fun t ty ht => ⟨arrOfT_moved hW.alike (h2 t ty ht).1, (h2 t ty ht).2.moved hW.alike⟩, h3, h4, h5.moved hW.alike, h6.moved hW.alike, h7.moved hW.alike, fun wd hwd => ?_, h9.moved hW.alike⟩
  have hz := h8 wd hwd
  simp only [zNest, List.mem_cons, List.not_mem_nil, or_false] at hwd
  rcases hwd with rfl | rfl | rfl | rfl | rfl <;> exact va_Nw.warmM hW hz
theorem zK_same {D : zG} {q : Nat → Nat} {H0 : Heap} {s U : State} (hv : s.vm = U.vm) (h : zK D q H0 s) : zK D q H0 U := by
  obtain ⟨h1, h2, h3, h4, h5, h6, h7, h8, h9⟩ := h
  have ha : s.vm.Alike U.vm := by rw [hv]; exact Vm.Alike.refl U.vm
  refine ⟨fun c r hr => u_Kn_moved ha (h1 c r hr), fun t ty ht => ⟨arrOfT_moved ha (h2 t ty ht).1, (h2 t ty ht).2.moved ha⟩, h3, h4, h5.moved ha, h6.moved ha, h7.moved ha, fun wd hwd => ?_, h9.moved ha⟩
  have hz := h8 wd hwd
  simp only [zNest, List.mem_cons, List.not_mem_nil, or_false] at hwd
  rcases hwd with rfl | rfl | rfl | rfl | rfl <;> exact va_Nw.same rfl hv hz
/-- a write to a cell of the world -/
theorem zW_set {D : zG} {q : Nat → Nat} {H0 H H1 : Heap} {a : Nat} {x : zc} (hq : zqo q) (h : zW D q H0 N w H) (ha : 2 ≤ a) (hx : zok D q (q a) x H1) (hz : H1.size = H.size) (ho : ∀ b, b ≠ q a → H1[b]? = H[b]?) : zW D q H0 N (va_up w a x) H1 := by
  obtain ⟨h1, h2, h3, h4, h5⟩ := h
  have ha0 : ¬ 0 = a := by omega
  refine ⟨h1, hz.trans h2, fun j hj hjN => ?_, fun b hb => ?_, by simp only [va_up, ha0, if_false]; exact h5⟩
  · by_cases hja : j = a
    · subst hja
      simpa [va_up] using hx
    · simp only [va_up, hja, if_false]
      exact (h3 j hj hjN).kept (ho _ (zqo_ne hq ha hja))
  · have := zqo_ge hq ha
    rw [ho b (by omega)]
    exact h4 b hb
theorem zLc_put {q : Nat → Nat} {locs : List Loc} {a f : Nat} (hq : zqo q) (ha : 2 ≤ a) (h : zLc q locs) : zLc q (locs ++ [⟨q a, f⟩]) := by
  intro x hx
  rcases List.mem_append.mp hx with hx | hx
  · exact h x hx
  · simp at hx
    subst hx
    have := zqo_ge hq ha
    show q 2 ≤ q a
    omega
/-- the field f of the kind ci, as own's pool names it at idx -/
def zFl (own : String) (idx ci f : Nat) : Prop := ∃ r : vw_C, vwCl[ci]? = some r ∧ f < r.2.2 ∧ ci < 1000 ∧ Cond.fieldLink own idx (r.2.1 f).1 (r.2.1 f).2.1 (r.2.1 f).2.2.1 ∈ zT ∧ ∀ wd ∈ u_ws r.1 r.2.1 r.2.2, wd ∈ zT
theorem z_get {idx ci f a len : Nat} {g : Nat → Value} (hi : zIs M pc (.getfield idx) 3 pc') (hf : zFl M.1.cls idx ci f) (hw : w a = (ci, len, g)) (ha : 2 ≤ a) (haN : a < N) (kk : zEV M R Z pc' lo (g f :: st) N w k n) : zEV M R Z pc lo (.ref a :: st) N w k n := by
  intro p l e s m args below meth c D q H0 C H locs ls HW HC HL
  obtain ⟨hd, rfl⟩ := hi
  obtain ⟨r, hr, hfN, hc1, hlink, hin⟩ := hf
  have hc := (HW.2.2.1 a ha haN).1 (by rw [hw]; exact hc1)
  rw [hw] at hc
  obtain ⟨r', hr', cell, q1, q2, q3, q4⟩ := hc
  have er : r' = r := Option.some.inj (hr'.symm.trans hr)
  subst er
  have hK := C.2.2.2.2.2.2.2.2
  obtain ⟨hS, hfc, kC, hkC, hkind⟩ := hK.1 ci _ hr
  obtain ⟨cf, kf, fi, fd, hfi, hsl⟩ := hS f hfN
  have hts : ∀ wd ∈ zT, wd.before args s = true := fun wd h => zT_use C h
  refine W.getf (v := zv q (g f)) C.1 C.2.1 C.2.2.2.2.1 (zT_use C hlink) hfi (u_facts hfc hkC (u_lays hts hin hfN) hfi).1 q1 (by rw [q3]; exact fun h => by cases h) ?_ rfl rfl hd (kk p l e s m args below meth c D q H0 C H locs ls HW HC HL)
  rw [hsl]
  exact q4 f hfN
/-- what the names of fields and their kinds say -/
theorem z_names : ∀ (ci : Nat) (r : vw_C), vwCl[ci]? = some r → (∃ ty0 : Nat → FieldType, ∀ j, j < r.2.2 → parseFieldDescriptor (r.2.1 j).2.2.1 = some (ty0 j)) ∧ ∀ a, a < r.2.2 → ∀ b, b < r.2.2 → a ≠ b → (r.2.1 a).2.1 ≠ (r.2.1 b).2.1 := by
  intro ci r h
  match ci, h with
  | 0, h => cases h; exact ⟨⟨tyX0, tyX0_ok⟩, nmX0⟩
  | 1, h => cases h; exact ⟨⟨tyX1, tyX1_ok⟩, nmX1⟩
  | 2, h => cases h; exact ⟨⟨tyX2, tyX2_ok⟩, nmX2⟩
  | 3, h => cases h; exact ⟨⟨tyX3, tyX3_ok⟩, nmX3⟩
  | 4, h => cases h; exact ⟨⟨tyX4, tyX4_ok⟩, nmX4⟩
  | 5, h => cases h; exact ⟨⟨tyX5, tyX5_ok⟩, nmX5⟩
  | 6, h => cases h; exact ⟨⟨tyX6, tyX6_ok⟩, nmX6⟩
  | 7, h => cases h; exact ⟨⟨tyX7, tyX7_ok⟩, nmX7⟩
  | 8, h => cases h; exact ⟨⟨tyX8, tyX8_ok⟩, nmX8⟩
  | j + 9, h => simp [vwCl] at h
theorem z_apart {args : Array Value} {s : State} {D : zG} {q : Nat → Nat} {H0 : Heap} (hts : ∀ wd ∈ zT, wd.before args s = true) (hK : zK D q H0 s) {ci : Nat} {r : vw_C} (hr : vwCl[ci]? = some r) (hin : ∀ wd ∈ u_ws r.1 r.2.1 r.2.2, wd ∈ zT) : ∀ a b, a < r.2.2 → b < r.2.2 → a ≠ b → D.2.1 ci a ≠ D.2.1 ci b := by
  obtain ⟨⟨ty0, hty⟩, hnm⟩ := z_names ci r hr
  intro x y hx hy hne
  obtain ⟨hS, -⟩ := hK.1 ci _ hr
  obtain ⟨_, _, _, fa, hia, ea⟩ := hS x hx
  obtain ⟨_, _, _, fb, hib, eb⟩ := hS y hy
  rw [← ea, ← eb]
  refine u_apart (u_lays hts hin hx) (u_lays hts hin hy) hia hib ?_
  rw [(State.fieldFound?_type hia (hty x hx)).1, (State.fieldFound?_type hib (hty y hy)).1]
  exact hnm x hx y hy hne
/-- the field may be written: its type, and that it isn't final -/
def zFw (ci f : Nat) (ty : FieldType) : Prop := ∃ r : vw_C, vwCl[ci]? = some r ∧ (r.2.1 f).2.2.2 = false ∧ parseFieldDescriptor (r.2.1 f).2.2.1 = some ty
def zFf (own : String) (ci f : Nat) (ty : FieldType) : Prop := ∃ r : vw_C, vwCl[ci]? = some r ∧ (r.2.1 f).2.2.2 = true ∧ (r.2.1 f).1 = own ∧ parseFieldDescriptor (r.2.1 f).2.2.1 = some ty
theorem updV_zv (q : Nat → Nat) (g : Nat → Value) (f : Nat) (v : Value) : updV (fun j => zv q (g j)) f (zv q v) = fun j => zv q (updV g f v j) := by
  funext j
  simp only [updV]
  split <;> rfl
theorem z_put {idx ci f a len : Nat} {g : Nat → Value} {v : Value} {ty : FieldType} (hi : zIs M pc (.putfield idx) 3 pc') (hf : zFl M.1.cls idx ci f) (hfw : zFw ci f ty) (hn : ∀ q, narrow ty (zv q v) = zv q v) (hfit : ∀ q, fits ty (zv q v) = true) (hw : w a = (ci, len, g)) (ha : 2 ≤ a) (haN : a < N) (kk : zEV M R Z pc' lo st N (va_up w a (ci, len, updV g f v)) k n) : zEV M R Z pc lo (v :: .ref a :: st) N w k n := by
  intro p l e s m args below meth c D q H0 C H locs ls HW HC HL
  obtain ⟨hd, rfl⟩ := hi
  obtain ⟨r, hr, hfN, hc1, hlink, hin⟩ := hf
  obtain ⟨r2, hr2, hfin, hdesc⟩ := hfw
  have er2 : r2 = r := Option.some.inj (hr2.symm.trans hr)
  subst er2
  have hc := (HW.2.2.1 a ha haN).1 (by rw [hw]; exact hc1)
  rw [hw] at hc
  obtain ⟨r', hr', cell, q1, q2, q3, q4⟩ := hc
  have er : r' = r2 := Option.some.inj (hr'.symm.trans hr)
  subst er
  have hK := C.2.2.2.2.2.2.2.2
  have hts : ∀ wd ∈ zT, wd.before args s = true := fun wd h => zT_use C h
  have hap := z_apart hts hK hr hin
  obtain ⟨hS, hfc, kC, hkC, hkind⟩ := hK.1 ci _ hr
  obtain ⟨cf, kf, fi, fd, hfi, hsl⟩ := hS f hfN
  have hlay := hts _ (hin _ (u_in_lay hfN))
  unfold u_lay at hlay
  rw [if_neg (by rw [hfin]; decide)] at hlay
  have hst := (u_facts hfc hkC (u_lays hts hin hfN) hfi).1
  have h6 := u_store hfc hkC hkind hlay hfi hdesc (hn q) (hfit q)
  refine W.putK C.1 C.2.1 (f := fd) ⟨C.2.2.2.2.1, zT_use C hlink, ⟨_, _, _, hfi⟩, hst⟩ (by rw [q2]; exact h6) q1 q3 (by rw [hsl]; exact k2_hasslot (q4 f hfN)) rfl rfl hd fun H' e1 e2 e3 => ?_
  refine kk p l e s m args below meth c D q H0 C H' _ ls (zW_set hK.2.2.1 HW ha ⟨fun _ => ⟨_, hr, ?_⟩, fun h9 => absurd h9 (by show ¬ 1000 ≤ ci; omega)⟩ e2 e3) (zLc_put hK.2.2.1 ha HC) HL
  show t_OB (q a) (D.1 ci) r'.2.2 (D.2.1 ci) H' (fun j => zv q (updV g f v j))
  rw [← updV_zv]
  rw [hsl] at e1
  exact ⟨_, e1, q2, q3, t_set q4 hap hfN (zv q v)⟩
theorem z_putF {idx ci f a len : Nat} {g : Nat → Value} {v : Value} {ty : FieldType} (hi : zIs M pc (.putfield idx) 3 pc') (hf : zFl M.1.cls idx ci f) (hfw : zFf M.1.cls ci f ty) (hnm : M.1.name = "<init>") (hn : ∀ q, narrow ty (zv q v) = zv q v) (hfit : ∀ q, fits ty (zv q v) = true) (hw : w a = (ci, len, g)) (ha : 2 ≤ a) (haN : a < N) (kk : zEV M R Z pc' lo st N (va_up w a (ci, len, updV g f v)) k n) : zEV M R Z pc lo (v :: .ref a :: st) N w k n := by
  intro p l e s m args below meth c D q H0 C H locs ls HW HC HL
  obtain ⟨hd, rfl⟩ := hi
  obtain ⟨r, hr, hfN, hc1, hlink, hin⟩ := hf
  obtain ⟨r2, hr2, hfin, hdecl, hdesc⟩ := hfw
  have er2 : r2 = r := Option.some.inj (hr2.symm.trans hr)
  subst er2
  have hc := (HW.2.2.1 a ha haN).1 (by rw [hw]; exact hc1)
  rw [hw] at hc
  obtain ⟨r', hr', cell, q1, q2, q3, q4⟩ := hc
  have er : r' = r2 := Option.some.inj (hr'.symm.trans hr)
  subst er
  have hK := C.2.2.2.2.2.2.2.2
  have hts : ∀ wd ∈ zT, wd.before args s = true := fun wd h => zT_use C h
  have hap := z_apart hts hK hr hin
  obtain ⟨hS, hfc, kC, hkC, hkind⟩ := hK.1 ci _ hr
  obtain ⟨cf, kf, fi, fd, hfi, hsl⟩ := hS f hfN
  have hlay := hts _ (hin _ (u_in_lay hfN))
  unfold u_lay at hlay
  rw [if_pos hfin] at hlay
  have hst := (u_facts hfc hkC (u_lays hts hin hfN) hfi).1
  have hcf : m.cls = cf := by
    obtain ⟨_, _, c', _, _, _, -, -, hf', -, -, -, hown2, -⟩ := Cond.laysFinal_spec hlay
    have e1 : c' = cf := by have := hfi.symm.trans hf'; simp at this; exact this.1.symm
    rw [hdecl] at hown2
    rw [← e1]; exact Option.some.inj (C.2.2.2.2.1.symm.trans hown2)
  have h6 := u_fits hfc hkC hkind (Or.inr hlay) hfi hdesc (hn q) (hfit q)
  refine W.putFinK C.1 C.2.1 C.2.2.2.2.1 (zT_use C hlink) hfi hst hcf (C.2.2.2.2.2.2.2.1.trans hnm) (by rw [q2]; exact h6) q1 q3 (by rw [hsl]; exact k2_hasslot (q4 f hfN)) rfl rfl hd fun H' e1 e2 e3 => ?_
  refine kk p l e s m args below meth c D q H0 C H' _ ls (zW_set hK.2.2.1 HW ha ⟨fun _ => ⟨_, hr, ?_⟩, fun h9 => absurd h9 (by show ¬ 1000 ≤ ci; omega)⟩ e2 e3) (zLc_put hK.2.2.1 ha HC) HL
  show t_OB (q a) (D.1 ci) r'.2.2 (D.2.1 ci) H' (fun j => zv q (updV g f v j))
  rw [← updV_zv]
  rw [hsl] at e1
  exact ⟨_, e1, q2, q3, t_set q4 hap hfN (zv q v)⟩
theorem z_arr {D : zG} {q : Nat → Nat} {H0 H : Heap} {a t len : Nat} {g : Nat → Value} (HW : zW D q H0 N w H) (hw : w a = (1000 + t, len, g)) (ha : 2 ≤ a) (haN : a < N) : H[q a]? = some (arrV (D.2.2.1 t) len (fun j => zv q (g j))) := by
  have hc := (HW.2.2.1 a ha haN).2 (by rw [hw]; exact Nat.le_add_right _ _)
  rw [hw] at hc
  simpa [Nat.add_sub_cancel_left] using hc
theorem zok_arr {D : zG} {q : Nat → Nat} {H : Heap} {a t len : Nat} {g : Nat → Value} (h : H[a]? = some (arrV (D.2.2.1 t) len (fun j => zv q (g j)))) : zok D q a (1000 + t, len, g) H := by
  refine ⟨fun h9 => absurd h9 (Nat.not_lt.mpr (Nat.le_add_right _ _)), fun _ => ?_⟩
  simp only [Nat.add_sub_cancel_left]
  exact h
theorem z_iald {a len : Nat} {g : Nat → Value} {i : Int32} (hi : zIs M pc .iaload 1 pc') (hw : w a = (1000 + 0, len, g)) (ha : 2 ≤ a) (haN : a < N) (hin : vp_in i len) (kk : zEV M R Z pc' lo (g i.toNatClampNeg :: st) N w k n) : zEV M R Z pc lo (.int i :: .ref a :: st) N w k n := by
  intro p l e s m args below meth c D q H0 C H locs ls HW HC HL
  obtain ⟨hd, rfl⟩ := hi
  have hlt : i.toNatClampNeg < len := Nat.not_le.mp fun q => hin (Or.inr q)
  have hA := (C.2.2.2.2.2.2.2.2).2.1 0 .int rfl
  exact W.iald (v := zv q (g i.toNatClampNeg)) C.1 C.2.1 (z_arr HW hw ha haN) (hA.1 _ _) (fun q => by cases q) (by rw [arrV_size]; exact hin) (by rw [arrV_read _ _ hlt]) rfl rfl hd (kk p l e s m args below meth c D q H0 C H locs ls HW HC HL)
theorem z_bald {a len : Nat} {g : Nat → Value} {i : Int32} (hi : zIs M pc .baload 1 pc') (hw : w a = (1000 + 1, len, g)) (ha : 2 ≤ a) (haN : a < N) (hin : vp_in i len) (kk : zEV M R Z pc' lo (g i.toNatClampNeg :: st) N w k n) : zEV M R Z pc lo (.int i :: .ref a :: st) N w k n := by
  intro p l e s m args below meth c D q H0 C H locs ls HW HC HL
  obtain ⟨hd, rfl⟩ := hi
  have hlt : i.toNatClampNeg < len := Nat.not_le.mp fun q => hin (Or.inr q)
  have hA := (C.2.2.2.2.2.2.2.2).2.1 1 .boolean rfl
  exact W.zald (v := zv q (g i.toNatClampNeg)) C.1 C.2.1 (z_arr HW hw ha haN) (hA.1 _ _) (fun q => by cases q) (by rw [arrV_size]; exact hin) (by rw [arrV_read _ _ hlt]) rfl rfl hd (kk p l e s m args below meth c D q H0 C H locs ls HW HC HL)
theorem z_aald {a len : Nat} {g : Nat → Value} {i : Int32} (hi : zIs M pc .aaload 1 pc') (hw : w a = (1000 + 2, len, g)) (ha : 2 ≤ a) (haN : a < N) (hin : vp_in i len) (kk : zEV M R Z pc' lo (g i.toNatClampNeg :: st) N w k n) : zEV M R Z pc lo (.int i :: .ref a :: st) N w k n := by
  intro p l e s m args below meth c D q H0 C H locs ls HW HC HL
  obtain ⟨hd, rfl⟩ := hi
  have hlt : i.toNatClampNeg < len := Nat.not_le.mp fun q => hin (Or.inr q)
  have hA := (C.2.2.2.2.2.2.2.2).2.1 2 (.object RX4) rfl
  exact W.aald (v := zv q (g i.toNatClampNeg)) C.1 C.2.1 (z_arr HW hw ha haN) (hA.1 _ _) rfl (fun q => by cases q) (by rw [arrV_size]; exact hin) (by rw [arrV_read _ _ hlt]) rfl rfl hd (kk p l e s m args below meth c D q H0 C H locs ls HW HC HL)
theorem z_iast {a len : Nat} {g : Nat → Value} {i x : Int32} (hi : zIs M pc .iastore 1 pc') (hw : w a = (1000 + 0, len, g)) (ha : 2 ≤ a) (haN : a < N) (hin : vp_in i len) (kk : zEV M R Z pc' lo st N (va_up w a (1000 + 0, len, updV g i.toNatClampNeg (.int x))) k n) : zEV M R Z pc lo (.int x :: .int i :: .ref a :: st) N w k n := by
  intro p l e s m args below meth c D q H0 C H locs ls HW HC HL
  obtain ⟨hd, rfl⟩ := hi
  have hK := C.2.2.2.2.2.2.2.2
  have hA := hK.2.1 0 .int rfl
  refine W.iast (x := x) C.1 C.2.1 (z_arr HW hw ha haN) (hA.1 _ _) (fun q => by cases q) (by rw [arrV_size]; exact hin) rfl rfl hd fun H1 e1 z1 oq => ?_
  refine kk p l e s m args below meth c D q H0 C H1 _ ls (zW_set hK.2.2.1 HW ha (zok_arr ?_) z1 oq) (zLc_put hK.2.2.1 ha HC) HL
  rw [← updV_zv, e1, arrV_store]
  rfl
theorem z_bast {a len : Nat} {g : Nat → Value} {i x : Int32} (hi : zIs M pc .bastore 1 pc') (hw : w a = (1000 + 1, len, g)) (ha : 2 ≤ a) (haN : a < N) (hin : vp_in i len) (hx : x = 0 ∨ x = 1) (kk : zEV M R Z pc' lo st N (va_up w a (1000 + 1, len, updV g i.toNatClampNeg (.int x))) k n) : zEV M R Z pc lo (.int x :: .int i :: .ref a :: st) N w k n := by
  intro p l e s m args below meth c D q H0 C H locs ls HW HC HL
  obtain ⟨hd, rfl⟩ := hi
  have hK := C.2.2.2.2.2.2.2.2
  have hA := hK.2.1 1 .boolean rfl
  refine W.zast (x := x) C.1 C.2.1 (z_arr HW hw ha haN) (hA.1 _ _) (fun q => by cases q) (by rw [arrV_size]; exact hin) rfl rfl hd fun H1 e1 z1 oq => ?_
  refine kk p l e s m args below meth c D q H0 C H1 _ ls (zW_set hK.2.2.1 HW ha (zok_arr ?_) z1 oq) (zLc_put hK.2.2.1 ha HC) HL
  have hnx : narrow .boolean (.int x) = .int x := by rcases hx with rfl | rfl <;> rfl
  rw [hnx] at e1
  rw [← updV_zv, e1, arrV_store]
  rfl
theorem z_kald {i : Int32} (hi : zIs M pc .iaload 1 pc') (hin : vp_in i 12) (kk : zEV M R Z pc' lo (.int (zka i.toNatClampNeg) :: st) N w k n) : zEV M R Z pc lo (.int i :: .ref 1 :: st) N w k n := by
  intro p l e s m args below meth c D q H0 C H locs ls HW HC HL
  obtain ⟨hd, rfl⟩ := hi
  obtain ⟨-, -, hq, hq2, -, -, hX, -, -⟩ := C.2.2.2.2.2.2.2.2
  have hS : va_S (fun a => q 2 ≤ a) H0 H locs := ⟨by
    have h1 := HW.2.1
    have h2 := zqo_ge hq HW.1
    omega, fun b hb _ => HW.2.2.2.1 b (by omega), fun x hx => HC x hx⟩
  exact va_sld C.1 C.2.1 hX (by have := hq.2.1; omega) (Nat.not_le.mpr hq.2.1) hS hin hd (kk p l e s m args below meth c D q H0 C H locs ls HW HC HL)
theorem z_gets {idx : Nat} (hi : zIs M pc (.getstatic idx) 3 pc') (hl : Cond.fieldLink M.1.cls idx RX7 "KIND_ABOVE" "[I" ∈ zT) (kk : zEV M R Z pc' lo (.ref 1 :: st) N w k n) : zEV M R Z pc lo st N w k n := by
  intro p l e s m args below meth c D q H0 C H locs ls HW HC HL
  obtain ⟨hd, rfl⟩ := hi
  obtain ⟨-, -, hq, hq2, hZ, -, -, -, -⟩ := C.2.2.2.2.2.2.2.2
  obtain ⟨cf, kf, fi, f, a, cell, h1, h2, h3, h4, h5, h6, h7, h8⟩ := hZ
  exact W.gets (v := .ref (q 1)) C.1 C.2.1 C.2.2.2.2.1 (zT_use C hl) h1 h2 h3 h4 (by rw [HW.2.2.2.1 a (Nat.not_le.mp h8)]; exact h5) (fun e => by rw [e] at h6; cases h6) h7 rfl hd (kk p l e s m args below meth c D q H0 C H locs ls HW HC HL)
theorem zS_of {D : zG} {q : Nat → Nat} {H0 H : Heap} {locs : List Loc} (hq : zqo q) (hq2 : q 2 = H0.size) (HW : zW D q H0 N w H) (HC : zLc q locs) : va_S (fun a => q 2 ≤ a) H0 H locs := ⟨by
    have h1 := HW.2.1
    have h2 := zqo_ge hq HW.1
    omega, fun b hb _ => HW.2.2.2.1 b (by omega), fun x hx => HC x hx⟩
theorem z_sld {len t : Nat} {g : Nat → Value} {i : Int32} (hi : zIs M pc .iaload 1 pc') (hw : w 0 = (t, len, g)) (hin : vp_in i len) (kk : zEV M R Z pc' lo (g i.toNatClampNeg :: st) N w k n) : zEV M R Z pc lo (.int i :: .ref 0 :: st) N w k n := by
  intro p l e s m args below meth c D q H0 C H locs ls HW HC HL
  obtain ⟨hd, rfl⟩ := hi
  obtain ⟨-, -, hq, hq2, -, hX, -, -, -⟩ := C.2.2.2.2.2.2.2.2
  have e1 := HW.2.2.2.2.1
  have e2 := HW.2.2.2.2.2 i.toNatClampNeg
  rw [hw] at e1 e2
  refine va_sld C.1 C.2.1 hX (by have := hq.1; omega) (Nat.not_le.mpr hq.1) (zS_of hq hq2 HW HC) (by rw [← e1]; exact hin) hd ?_
  have K := kk p l e s m args below meth c D q H0 C H locs ls HW HC HL
  have e3 : g i.toNatClampNeg = .int (D.2.2.2.2 i.toNatClampNeg) := e2
  rw [e3] at K
  exact K
theorem z_slen {len t : Nat} {g : Nat → Value} (hi : zIs M pc .arraylength 1 pc') (hw : w 0 = (t, len, g)) (kk : zEV M R Z pc' lo (.int (Int32.ofNat len) :: st) N w k n) : zEV M R Z pc lo (.ref 0 :: st) N w k n := by
  intro p l e s m args below meth c D q H0 C H locs ls HW HC HL
  obtain ⟨hd, rfl⟩ := hi
  obtain ⟨-, -, hq, hq2, -, hX, -, -, -⟩ := C.2.2.2.2.2.2.2.2
  have e1 := HW.2.2.2.2.1
  rw [hw] at e1
  refine va_slen C.1 C.2.1 hX (by have := hq.1; omega) (Nat.not_le.mpr hq.1) (zS_of hq hq2 HW HC) hd ?_
  have K := kk p l e s m args below meth c D q H0 C H locs ls HW HC HL
  have e3 : len = D.2.2.2.1 := e1
  rw [e3] at K
  exact K
end ZHP
end
section
section ZCL
variable {M M' : zM} {R : Room} {Z : zZt} {pc pc' tgt : Nat} {lo : List (Option Value)} {st rest As : List Value} {N : Nat} {w : zH} {k n mc ms d : Nat} {Q' : zQ}
theorem zT_good : GoodIn (zws M) zT := fun wd h => ⟨List.mem_cons_of_mem _ h, good_of_word (List.mem_filter.mp h).2⟩
/-- what the tables say of a call of M' -/
def zCn (M' : zM) (ar : Nat) : Prop := Cond.code M'.1 M'.2.1 M'.2.2.1 M'.2.2.2 ∈ zT ∧ Cond.initialized M'.1.cls ∈ zT ∧ M'.1.cls ≠ "java/lang/invoke/MethodHandle" ∧ M'.1.cls ≠ "java/lang/invoke/VarHandle" ∧ (parseMethodDescriptor M'.1.desc).map (fun x => x.parameters.length) = some ar
theorem zws_good (h : Cond.code M'.1 M'.2.1 M'.2.2.1 M'.2.2.2 ∈ zT) : GoodIn (zws M) (zws M') := fun wd hw => (List.mem_cons.mp hw).elim (fun e => by subst e; exact zT_good _ h) (fun h2 => zT_good wd h2)
theorem zB_of {p : Program} {s : State} {m : MethodId} {args : Array Value} {meth : Method} {c : Code} {D : zG} {q : Nat → Nat} {H0 : Heap} {ar idx : Nat} (C : zCx M p s m args meth c D q H0) (hc : zCn M' ar) (hl : Cond.methodLink M.1.cls idx M'.1 ∈ zT) (hR : d + 1 ≤ R.frames ∧ 8 + (M'.2.2.1 + 11) + 36 * d ≤ R.locals) :
    CallB R s args M.1.cls idx M'.1 M'.2.1 M'.2.2.1 M'.2.2.2 (zws M') (zrm d mc ms) mc ms ar :=
  callB_of ar C.2.2.2.2.2.1 (zws_good hc.1) rfl rfl rfl (zT_use C hc.2.1) (zT_use C hl) hc.2.2 hR
theorem zPc_pre {s : State} {D : zG} {q : Nat → Nat} {H0 H : Heap} (hK : zK D q H0 s) (HW : zW D q H0 N w H) :
    FrameBlind (va_Pc (As.map (zv q)) (fun U => zW D q H0 N w U.heap ∧ zK D q H0 U)) ∧ ∀ U : State, U.heap = H → s.WarmedH U.vm → va_Pc (As.map (zv q)) (fun U => zW D q H0 N w U.heap ∧ zK D q H0 U) (As.map (zv q)).toArray U := by
  refine ⟨fun a U g mk h => ⟨h.1, h.2.1, ?_⟩, fun U hU hWm => ⟨rfl, by rw [hU]; exact HW, zK_moved hWm hK⟩⟩
  exact zK_same (s := U) (U := U.calling g mk a) rfl h.2.2
/-- behind a call -/
theorem z_after {p : Program} {l : Launch} {e : Env} {s : State} {m : MethodId} {args : Array Value} {below : List Frame} {meth : Method} {c : Code} {D : zG} {q : Nat → Nat} {H0 : Heap} {H : Heap} {locs : List Loc} {ls : Array Slot} {a : Array Value}
    (C : zCx M p s m args meth c D q H0) (HC : zLc q locs) (HL : zL q M.2.2.1 lo ls)
    (hr : va_Run p l e R s m args below meth c H locs k n mc ms (F0 m pc ls (st.map (zv q))) (rest.map (zv q)) (zPo D q H0 Q' a) (fun x => q 2 ≤ x))
    (kk : ∀ (r : Option Value) (N' : Nat) (w' : zH), Q' r N' w' → zEV M R Z (pc + 3) lo (r.toList ++ rest) N' w' (k + mc) (n + ms)) :
    W p l e R s m args below meth c H locs k n (Z below args s D q H0) (F0 m pc ls (st.map (zv q))) := by
  intro T hT X
  obtain ⟨v, st₀, t, T', L, h0, X', hL, e1, e2, ⟨r, N', w', hQ, hv, hW'⟩, hgo⟩ := hr T hT X
  have hv2 : v = r.map (zv q) := by
    have := Outcome.returned.inj hv
    exact this
  subst hv2
  have K := kk r N' w' hQ p l e s m args below meth c D q H0 C t.heap (locs ++ L) ls hW' (fun x hx => (List.mem_append.mp hx).elim (HC x) (hL x)) HL
  obtain ⟨t2, a1, b1⟩ := K T' e1 X'
  refine ⟨t2, hgo t2 ?_, b1⟩
  have es : (Option.map (zv q) r).toList ++ rest.map (zv q) = (r.toList ++ rest).map (zv q) := by cases r <;> simp
  show Steps p.tables e below (T'.setTop { F0 m pc ls (st.map (zv q)) with pc := pc + 3, stack := (Option.map (zv q) r).toList ++ rest.map (zv q) }) t2
  rw [es]
  exact a1
theorem z_catsum {q : Nat → Nat} (h : (rest.map fun v => v.category).sum ≤ 8) : ((rest.map (zv q)).map fun v => v.category).sum ≤ 8 := by
  rw [List.map_map]
  have e : (fun v => Value.category v) ∘ zv q = fun v => v.category := by funext v; exact zv_cat q v
  rw [e]
  exact h
theorem z_recv {s : State} {D : zG} {q : Nat → Nat} {H0 H : Heap} {b ci len : Nat} {g : Nat → Value} {C : String} (hK : zK D q H0 s) (HW : zW D q H0 N w H) (hw : w b = (ci, len, g)) (hb : 2 ≤ b) (hbN : b < N) (hci : ci < 1000) (hC : ∃ r : vw_C, vwCl[ci]? = some r ∧ r.1 = C) :
    ∃ cellB : Cell, H[q b]? = some cellB ∧ cellB.vm.isStatics = false ∧ s.vm.findClass C = some cellB.cls := by
  obtain ⟨r, hr, rfl⟩ := hC
  have hc := (HW.2.2.1 b hb hbN).1 (by rw [hw]; exact hci)
  rw [hw] at hc
  obtain ⟨r', hr', cell, q1, q2, q3, q4⟩ := hc
  exact ⟨cell, q1, by rw [q3]; rfl, by rw [q2]; exact (hK.1 ci r hr).2.1⟩
/-- invokevirtual of a method of the receiver's own kind -/
def zCv (own : String) (idx : Nat) (M' : zM) (ar ci : Nat) : Prop := zCn M' ar ∧ Cond.methodLink own idx M'.1 ∈ zT ∧ Cond.instanceMethod M'.1 ∈ zT ∧ Cond.selects M'.1.cls M'.1 M'.1 ∈ zT ∧ ci < 1000 ∧ ∃ r : vw_C, vwCl[ci]? = some r ∧ r.1 = M'.1.cls
theorem z_callV {idx ar ci b len : Nat} {g : Nat → Value} (hi : zIs M pc (.invokevirtual idx) 3 pc') (hc : zCv M.1.cls idx M' ar ci) (hM : zMt M' d mc ms (.ref b :: As) N w Q') (hn : As.length = ar) (hst : As.reverse ++ .ref b :: rest = st) (hw : w b = (ci, len, g)) (hb : 2 ≤ b) (hbN : b < N)
    (hR : d + 1 ≤ R.frames ∧ 8 + (M'.2.2.1 + 11) + 36 * d ≤ R.locals) (hf : k + mc ≤ R.cells ∧ n + ms ≤ R.slots) (hcat : (rest.map fun v => v.category).sum ≤ 8)
    (kk : ∀ (r : Option Value) (N' : Nat) (w' : zH), Q' r N' w' → zEV M R Z pc' lo (r.toList ++ rest) N' w' (k + mc) (n + ms)) : zEV M R Z pc lo st N w k n := by
  intro p l e s m args below meth c D q H0 C H locs ls HW HC HL
  obtain ⟨hd, rfl⟩ := hi
  obtain ⟨hc1, hl, hin, hsel, hci, hC⟩ := hc
  have hK := C.2.2.2.2.2.2.2.2
  have hp := zPc_pre (As := .ref b :: As) hK HW
  subst hst
  refine z_after (rest := rest) C HC HL (va_runV (As := As.map (zv q)) (b := q b) ⟨C.1, C.2.1, C.2.2.2.1, C.2.2.2.2.1, C.2.2.2.2.2.1⟩ (hM l D q H0) ⟨zB_of C hc1 hl hR, zT_use C hin, zT_use C hsel⟩ ⟨hp.1, z_recv hK HW hw hb hbN hci hC, hp.2⟩ rfl (by rw [List.length_map]; exact hn) HL.1 ?_ (lv_room (z_catsum hcat)) hd hf) kk
  show List.map (zv q) (As.reverse ++ .ref b :: rest) = _
  simp [zv]
def zCs (own : String) (idx : Nat) (M' : zM) (ar : Nat) : Prop := zCn M' ar ∧ Cond.methodLink own idx M'.1 ∈ zT ∧ Cond.static M'.1 ∈ zT
theorem z_callS {idx ar : Nat} (hi : zIs M pc (.invokestatic idx) 3 pc') (hc : zCs M.1.cls idx M' ar) (hM : zMt M' d mc ms As N w Q') (hn : As.length = ar) (hst : As.reverse ++ rest = st)
    (hR : d + 1 ≤ R.frames ∧ 8 + (M'.2.2.1 + 11) + 36 * d ≤ R.locals) (hf : k + mc ≤ R.cells ∧ n + ms ≤ R.slots) (hcat : (rest.map fun v => v.category).sum ≤ 8)
    (kk : ∀ (r : Option Value) (N' : Nat) (w' : zH), Q' r N' w' → zEV M R Z pc' lo (r.toList ++ rest) N' w' (k + mc) (n + ms)) : zEV M R Z pc lo st N w k n := by
  intro p l e s m args below meth c D q H0 C H locs ls HW HC HL
  obtain ⟨hd, rfl⟩ := hi
  obtain ⟨hc1, hl, hin⟩ := hc
  have hK := C.2.2.2.2.2.2.2.2
  have hp := zPc_pre (As := As) hK HW
  subst hst
  refine z_after (rest := rest) C HC HL (va_runS (As := As.map (zv q)) ⟨C.1, C.2.1, C.2.2.2.1, C.2.2.2.2.1, C.2.2.2.2.2.1⟩ (hM l D q H0) ⟨zB_of C hc1 hl hR, zT_use C hin⟩ hp rfl (by rw [List.length_map]; exact hn) HL.1 ?_ (lv_room (z_catsum hcat)) hd hf) kk
  show List.map (zv q) (As.reverse ++ rest) = _
  simp
/-- a constructor's call -/
def zCi (own : String) (idx : Nat) (M' : zM) (ar : Nat) : Prop := zCn M' ar ∧ Cond.methodLink own idx M'.1 ∈ zT ∧ Cond.instanceMethod M'.1 ∈ zT ∧ M'.1.name = "<init>" ∧ M'.2.2.2 = none
theorem z_callI {idx ar b : Nat} (hi : zIs M pc (.invokespecial idx) 3 pc') (hc : zCi M.1.cls idx M' ar) (hM : zMt M' d mc ms (.ref b :: As) N w Q') (hn : As.length = ar) (hst : As.reverse ++ .ref b :: rest = st)
    (hR : d + 1 ≤ R.frames ∧ 8 + (M'.2.2.1 + 11) + 36 * d ≤ R.locals) (hf : k + mc ≤ R.cells ∧ n + ms ≤ R.slots) (hcat : (rest.map fun v => v.category).sum ≤ 8)
    (kk : ∀ (r : Option Value) (N' : Nat) (w' : zH), Q' r N' w' → zEV M R Z pc' lo (r.toList ++ rest) N' w' (k + mc) (n + ms)) : zEV M R Z pc lo st N w k n := by
  intro p l e s m args below meth c D q H0 C H locs ls HW HC HL
  obtain ⟨hd, rfl⟩ := hi
  obtain ⟨hc1, hl, hin, hnm, hret⟩ := hc
  have hK := C.2.2.2.2.2.2.2.2
  have hp := zPc_pre (As := .ref b :: As) hK HW
  have hB := zB_of (mc := mc) (ms := ms) C hc1 hl hR
  rw [hret] at hB
  subst hst
  refine z_after (rest := rest) C HC HL (va_runI (As := As.map (zv q)) (b := q b) ⟨C.1, C.2.1, C.2.2.2.1, C.2.2.2.2.1, C.2.2.2.2.2.1⟩ (hM l D q H0) ⟨hB, hnm, zT_use C hin⟩ hp rfl (by rw [List.length_map]; exact hn) HL.1 ?_ (lv_room (z_catsum hcat)) hd hf) kk
  show List.map (zv q) (As.reverse ++ .ref b :: rest) = _
  simp [zv]
/-- a constructor's call among nest mates -/
def zCj (own : String) (idx : Nat) (M' : zM) (ar : Nat) (host : String) : Prop := zCn M' ar ∧ Cond.methodLinkNest own idx M'.1 host ∈ zNest ∧ Cond.instanceMethod M'.1 ∈ zT ∧ M'.1.name = "<init>" ∧ M'.2.2.2 = none
theorem z_callJ {idx ar b : Nat} {host : String} (hi : zIs M pc (.invokespecial idx) 3 pc') (hc : zCj M.1.cls idx M' ar host) (hM : zMt M' d mc ms (.ref b :: As) N w Q') (hn : As.length = ar) (hst : As.reverse ++ .ref b :: rest = st)
    (hR : d + 1 ≤ R.frames ∧ 8 + (M'.2.2.1 + 11) + 36 * d ≤ R.locals) (hf : k + mc ≤ R.cells ∧ n + ms ≤ R.slots) (hcat : (rest.map fun v => v.category).sum ≤ 8)
    (kk : ∀ (r : Option Value) (N' : Nat) (w' : zH), Q' r N' w' → zEV M R Z pc' lo (r.toList ++ rest) N' w' (k + mc) (n + ms)) : zEV M R Z pc lo st N w k n := by
  intro p l e s m args below meth c D q H0 C H locs ls HW HC HL
  obtain ⟨hd, rfl⟩ := hi
  obtain ⟨hc1, hl, hin, hnm, hret⟩ := hc
  have hK := C.2.2.2.2.2.2.2.2
  have hp := zPc_pre (As := .ref b :: As) hK HW
  have hB := va_cnB (rm := zrm d mc ms) (R := R) (bytes := M'.2.1) (maxL := M'.2.2.1) (ret := M'.2.2.2) ar C.2.2.2.2.2.1 (zws_good hc1.1) rfl rfl rfl (hK.2.2.2.2.2.2.2.1 _ hl) (zT_use C hc1.2.1) hc1.2.2 hR
  rw [hret] at hB
  subst hst
  refine z_after (rest := rest) C HC HL (va_runIN (As := As.map (zv q)) (b := q b) ⟨C.1, C.2.1, C.2.2.2.1, C.2.2.2.2.1, C.2.2.2.2.2.1⟩ (hM l D q H0) ⟨hB, hnm, zT_use C hin⟩ hp rfl (by rw [List.length_map]; exact hn) HL.1 ?_ (lv_room (z_catsum hcat)) hd hf) kk
  show List.map (zv q) (As.reverse ++ .ref b :: rest) = _
  simp [zv]
theorem z_objInit {idx a : Nat} (hi : zIs M pc (.invokespecial idx) 3 pc') (hl : Cond.methodLink M.1.cls idx objectInit ∈ zT) (h1 : Cond.instanceMethod objectInit ∈ zT) (h2 : Cond.code objectInit ⟨#[0xb1]⟩ 1 none ∈ zT) (hR : 1 ≤ R.frames ∧ (rest.map fun v => v.category).sum + 12 ≤ R.locals) (kk : zEV M R Z pc' lo rest N w k n) : zEV M R Z pc lo (.ref a :: rest) N w k n := by
  intro p l e s m args below meth c D q H0 C H locs ls HW HC HL
  obtain ⟨hd, rfl⟩ := hi
  refine W.objInit (a := q a) (rest := rest.map (zv q)) C.1 C.2.1 C.2.2.2.2.1 (zT_use C hl) (zT_use C h1) (zT_use C h2) rfl (HL.1.trans C.2.2.2.1.symm) rfl hd hR.1 ?_ (kk p l e s m args below meth c D q H0 C H locs ls HW HC HL)
  have e : ((rest.map (zv q)).map fun v => v.category).sum = (rest.map fun v => v.category).sum := by
    rw [List.map_map]
    have e : (fun v => Value.category v) ∘ zv q = fun v => v.category := by funext v; exact zv_cat q v
    rw [e]
  show 2 * 0 + ((rest.map (zv q)).map fun v => v.category).sum + 12 ≤ R.locals
  rw [e]
  omega
/-! ends -/
theorem z_iret {Q : zQ} {v : Int32} (hi : zIs M pc .ireturn 1 pc') (hr : M.2.2.2 = some .int) (hQ : Q (some (.int v)) N w) (hk : k ≤ mc) (hn : n ≤ ms) : zEV M R (zZ mc ms Q) pc lo [.int v] N w k n := by
  intro p l e s m args below meth c D q H0 C H locs ls HW HC HL
  obtain ⟨hd, -⟩ := hi
  refine W.widen hk hn ?_
  exact W.iret C.1 C.2.1 (C.2.2.1.trans hr) (fun t ht _ => ⟨_, _, _, hQ, rfl, by rw [ht]; exact HW⟩) HC hd C.2.2.2.2.2.2.1
theorem z_bret {Q : zQ} {v : Int32} (hi : zIs M pc .ireturn 1 pc') (hr : M.2.2.2 = some .boolean) (hv : v = 0 ∨ v = 1) (hQ : Q (some (.int v)) N w) (hk : k ≤ mc) (hn : n ≤ ms) : zEV M R (zZ mc ms Q) pc lo [.int v] N w k n := by
  intro p l e s m args below meth c D q H0 C H locs ls HW HC HL
  obtain ⟨hd, -⟩ := hi
  refine W.widen hk hn ?_
  exact W.zret C.1 C.2.1 (C.2.2.1.trans hr) (by rcases hv with rfl | rfl <;> rfl) (fun t ht _ => ⟨_, _, _, hQ, rfl, by rw [ht]; exact HW⟩) HC hd C.2.2.2.2.2.2.1
theorem z_lret {Q : zQ} {v : Int64} (hi : zIs M pc .lreturn 1 pc') (hr : M.2.2.2 = some .long) (hQ : Q (some (.long v)) N w) (hk : k ≤ mc) (hn : n ≤ ms) : zEV M R (zZ mc ms Q) pc lo [.long v] N w k n := by
  intro p l e s m args below meth c D q H0 C H locs ls HW HC HL
  obtain ⟨hd, -⟩ := hi
  refine W.widen hk hn ?_
  exact W.lret C.1 C.2.1 (C.2.2.1.trans hr) (fun t ht _ => ⟨_, _, _, hQ, rfl, by rw [ht]; exact HW⟩) HC hd C.2.2.2.2.2.2.1
theorem z_vret {Q : zQ} (hi : zIs M pc .return_ 1 pc') (hr : M.2.2.2 = none) (hQ : Q none N w) (hk : k ≤ mc) (hn : n ≤ ms) : zEV M R (zZ mc ms Q) pc lo [] N w k n := by
  intro p l e s m args below meth c D q H0 C H locs ls HW HC HL
  obtain ⟨hd, -⟩ := hi
  refine W.widen hk hn ?_
  exact W.vret C.1 C.2.1 (C.2.2.1.trans hr) (fun t ht _ => ⟨_, _, _, hQ, rfl, by rw [ht]; exact HW⟩) HC hd C.2.2.2.2.2.2.1
theorem z_aret {Q : zQ} {a : Nat} {nm : String} (hi : zIs M pc .areturn 1 pc') (hr : M.2.2.2 = some (.object nm)) (hQ : Q (some (.ref a)) N w) (hk : k ≤ mc) (hn : n ≤ ms) : zEV M R (zZ mc ms Q) pc lo [.ref a] N w k n := by
  intro p l e s m args below meth c D q H0 C H locs ls HW HC HL
  obtain ⟨hd, -⟩ := hi
  refine W.widen hk hn ?_
  exact W.aret C.1 C.2.1 (C.2.2.1.trans hr) (Or.inl ⟨_, rfl⟩) (Or.inr ⟨_, rfl⟩) (fun t ht _ => ⟨_, _, _, hQ, rfl, by rw [ht]; exact HW⟩) HC hd C.2.2.2.2.2.2.1
/-! the entry -/
theorem zlo_args : ∀ (As : List Value) (q : Nat → Nat) (i j : Nat) (v : Value), (zlo As)[j]? = some (some v) → (i + j, zv q v) ∈ lv_args i (As.map (zv q))
  | [], q, i, j, v, h => by simp [zlo] at h
  | a :: r, q, i, j, v, h => by
    simp only [List.map_cons, lv_args, zv_cat]
    by_cases hc : a.category = 2
    · simp only [zlo, hc, if_true] at h ⊢
      match j, h with
      | 0, h => simp at h; subst h; exact List.mem_cons_self
      | 1, h => simp at h
      | j + 2, h =>
        simp at h
        have := zlo_args r q (i + 2) j v h
        rw [show i + 2 + j = i + (j + 2) by omega] at this
        exact List.mem_cons_of_mem _ this
    · simp only [zlo, hc, if_false] at h ⊢
      match j, h with
      | 0, h => simp at h; subst h; exact List.mem_cons_self
      | j + 1, h =>
        simp at h
        have := zlo_args r q (i + 1) j v h
        rw [show i + 1 + j = i + (j + 1) by omega] at this
        exact List.mem_cons_of_mem _ this
theorem zlo_len : ∀ (As : List Value) (q : Nat → Nat), (lg_sl (As.map (zv q))).length = (zlo As).length
  | [], q => rfl
  | a :: r, q => by
    have ih := zlo_len r q
    simp only [lg_sl, List.map_cons, List.flatMap_cons, List.length_append, zv_cat] at ih ⊢
    by_cases hc : a.category = 2
    · simp [hc, zlo, ih]; omega
    · simp [hc, zlo, ih]; omega
theorem zMt_of {Q : zQ} (hy : plainName M.1.cls = true) (hl : (zlo As).length ≤ M.2.2.1) (hlo : ∀ (i : Nat) (v : Value), lo[i]? = some (some v) → (zlo As)[i]? = some (some v)) (h : zEV M (zrm d mc ms) (zZ mc ms Q) 0 lo [] N w 0 0) : zMt M d mc ms As N w Q := by
  intro l D q H0
  refine Met.ofW (cc := M.2.1) (maxL := M.2.2.1) (ret := M.2.2.2) hy rfl ?_
  intro p e s m args below meth c s₁ B hml hv
  obtain ⟨hargs, HW, hK⟩ := hv
  subst hargs
  have hts := atoms_spec (ws := zws M) B.pre
  have hnm : meth.name = M.1.name := (name_of_methodNamed B.named B.method).1
  have hle := lv_entry (As.map (zv q)) (n := M.2.2.1) (by rw [zlo_len]; exact hl)
  rw [lg_entry_eq]
  exact h p l e s m _ below meth c D q H0 ⟨B.exec, B.bytes, B.returns, hml, findClass_of_methodNamed B.named, hts, B.notSynchronized, hnm, hK⟩ s.heap [] _ HW (fun x hx => by cases hx) ⟨hle.1, hle.2.1, fun i v hv => hle.2.2 (i, zv q v) (by
    have := zlo_args As q 0 i v (hlo i v hv)
    simpa using this)⟩
/-- a weaker end -/
theorem zMt_mono {Q Q2 : zQ} (h : zMt M d mc ms As N w Q) (hQ : ∀ r N w, Q r N w → Q2 r N w) : zMt M d mc ms As N w Q2 := by
  intro l D q H0 p e ha hc hk s m args below hf happ hP hfit
  obtain ⟨k, o, h1, h2, h3, h4⟩ := h l D q H0 p e ha hc hk s m args below hf happ hP hfit
  obtain ⟨⟨r, N', w', hq, h5, h6⟩, h7⟩ := h4
  exact ⟨k, o, h1, h2, h3, ⟨r, N', w', hQ r N' w' hq, h5, h6⟩, h7⟩
end ZCL
end
section
section ZSW
variable {M : zM} {R : Room} {Z : zZt} {pc : Nat} {lo : List (Option Value)} {st : List Value} {N : Nat} {w : zH} {k n : Nat}
/-- a table of targets from l on, and the other one -/
def zTs (M : zM) (pc : Nat) (l : Int) (tg : List Nat) (df : Nat) : Prop := ∃ (dflt h : Int) (offs : Array Int) (len : Nat), decode M.2.1 pc = .ok (.tableswitch dflt l h offs, len) ∧ (pc : Int) + dflt = (df : Int) ∧ h = l + tg.length - 1 ∧ offs.toList.map (fun o => (pc : Int) + o) = tg.map (fun (t : Nat) => (t : Int))
theorem z_tsw {x : Int32} {l : Int} {tg : List Nat} {df : Nat} (hi : zTs M pc l tg df) (kin : ∀ (j t : Nat), tg[j]? = some t → x.toInt = l + j → zEV M R Z t lo st N w k n) (kout : (x.toInt < l ∨ l + tg.length ≤ x.toInt) → zEV M R Z df lo st N w k n) : zEV M R Z pc lo (.int x :: st) N w k n := by
  intro p l' e s m args below meth c D q H0 C H locs ls HW HC HL
  obtain ⟨dflt, h, offs, len, hd, h1, h2, h3⟩ := hi
  by_cases hx : x.toInt < l ∨ h < x.toInt
  · exact lv_tableOut C.1 C.2.1 hd hx h1 (kout (hx.elim Or.inl (fun h9 => Or.inr (by omega))) p l' e s m args below meth c D q H0 C H locs ls HW HC HL)
  · have hx1 : ¬ x.toInt < l := fun h9 => hx (Or.inl h9)
    have hx2 : ¬ h < x.toInt := fun h9 => hx (Or.inr h9)
    have hj : (x.toInt - l).toNat < tg.length := by omega
    have hl : offs.toList.length = tg.length := by simpa using congrArg List.length h3
    have e1 : (offs.toList.map (fun o => (pc : Int) + o))[(x.toInt - l).toNat]? = (tg.map (fun (t : Nat) => (t : Int)))[(x.toInt - l).toNat]? := by rw [h3]
    simp only [List.getElem?_map, List.getElem?_eq_getElem hj, List.getElem?_eq_getElem (show (x.toInt - l).toNat < offs.toList.length by omega), Option.map_some] at e1
    have e2 := Option.some.inj e1
    refine lv_tableIn C.1 C.2.1 hd hx1 hx2 (off := offs.toList[(x.toInt - l).toNat]) (tgt := tg[(x.toInt - l).toNat]) ?_ e2 (kin _ _ (List.getElem?_eq_getElem hj) (by omega) p l' e s m args below meth c D q H0 C H locs ls HW HC HL)
    rw [← Array.getElem?_toList]
    exact List.getElem?_eq_getElem _
def zLs (M : zM) (pc : Nat) (a1 a2 : Int) (t1 t2 df : Nat) : Prop := ∃ (dflt o1 o2 : Int) (len : Nat), decode M.2.1 pc = .ok (.lookupswitch dflt #[(a1, o1), (a2, o2)], len) ∧ a1 < a2 ∧ (pc : Int) + dflt = (df : Int) ∧ (pc : Int) + o1 = (t1 : Int) ∧ (pc : Int) + o2 = (t2 : Int)
theorem z_lsw {x : Int32} {a1 a2 : Int} {t1 t2 df : Nat} (hi : zLs M pc a1 a2 t1 t2 df) (k1 : x.toInt = a1 → zEV M R Z t1 lo st N w k n) (k2 : x.toInt = a2 → zEV M R Z t2 lo st N w k n) (k3 : x.toInt ≠ a1 → x.toInt ≠ a2 → zEV M R Z df lo st N w k n) : zEV M R Z pc lo (.int x :: st) N w k n := by
  intro p l' e s m args below meth c D q H0 C H locs ls HW HC HL
  obtain ⟨dflt, o1, o2, len, hd, h0, h1, h2, h3⟩ := hi
  have hp : ((#[(a1, o1), (a2, o2)] : Array (Int × Int)).toList.zip ((#[(a1, o1), (a2, o2)] : Array (Int × Int)).toList.drop 1)).all (fun (a, next) => a.1 < next.1) = true := by simp [h0]
  by_cases e1 : x.toInt = a1
  · refine lv_lookup C.1 C.2.1 hd hp (off := o1) ?_ h2 (k1 e1 p l' e s m args below meth c D q H0 C H locs ls HW HC HL)
    simp [Op.lookupswitch.offset, e1]
  · by_cases e2 : x.toInt = a2
    · refine lv_lookup C.1 C.2.1 hd hp (off := o2) ?_ h3 (k2 e2 p l' e s m args below meth c D q H0 C H locs ls HW HC HL)
      simp [Op.lookupswitch.offset, e2, Int.ne_of_lt h0]
    · refine lv_lookup C.1 C.2.1 hd hp (off := dflt) ?_ h1 (k3 e1 e2 p l' e s m args below meth c D q H0 C H locs ls HW HC HL)
      have n1 : ¬ a1 = x.toInt := fun h => e1 h.symm
      have n2 : ¬ a2 = x.toInt := fun h => e2 h.symm
      simp [Op.lookupswitch.offset, n1, n2]
theorem zT_mem (i : Nat) {wd : Cond} (h : lw_tbl[i]? = some wd) (hg : goodWord wd = true) : wd ∈ zT := List.mem_filter.mpr ⟨List.mem_of_getElem? h, hg⟩
theorem zT_all (ps : List Nat) {ws : List Cond} (h : ws = ps.filterMap (fun i => lw_tbl[i]?)) (hg : ws.all goodWord = true) : ∀ wd ∈ ws, wd ∈ zT := by
  intro wd hw
  have h2 := List.all_eq_true.mp hg wd hw
  rw [h] at hw
  obtain ⟨i, -, hi⟩ := List.mem_filterMap.mp hw
  exact zT_mem i hi h2
end ZSW
end
section
theorem uX0 : ∀ wd ∈ u_ws RX0 TX0 2, wd ∈ zT := zT_all [228, 230] (by decide +kernel) (by decide +kernel)
theorem uX1 : ∀ wd ∈ u_ws RX1 TX1 4, wd ∈ zT := zT_all [245, 247, 249, 251] (by decide +kernel) (by decide +kernel)
theorem uX2 : ∀ wd ∈ u_ws RX2 TX2 6, wd ∈ zT := zT_all [183, 185, 187, 189, 191, 193] (by decide +kernel) (by decide +kernel)
theorem uX3 : ∀ wd ∈ u_ws RX3 TX3 4, wd ∈ zT := zT_all [209, 211, 213, 215] (by decide +kernel) (by decide +kernel)
theorem uX4 : ∀ wd ∈ u_ws RX4 TX4 9, wd ∈ zT := zT_all [281, 283, 285, 287, 289, 291, 293, 295, 297] (by decide +kernel) (by decide +kernel)
theorem uX5 : ∀ wd ∈ u_ws RX5 TX5 10, wd ∈ zT := zT_all [150, 152, 154, 156, 158, 160, 162, 164, 166, 168] (by decide +kernel) (by decide +kernel)
theorem uX6 : ∀ wd ∈ u_ws RX6 TX6 10, wd ∈ zT := zT_all [100, 102, 104, 106, 108, 110, 112, 114, 116, 118] (by decide +kernel) (by decide +kernel)
theorem uX7 : ∀ wd ∈ u_ws RX7 TX7 13, wd ∈ zT := zT_all [313, 315, 317, 319, 321, 323, 325, 327, 329, 331, 333, 335, 337] (by decide +kernel) (by decide +kernel)
theorem uX8 : ∀ wd ∈ u_ws RX8 TX8 48, wd ∈ zT := zT_all [811, 813, 815, 817, 819, 821, 823, 825, 827, 829, 831, 833, 835, 837, 839, 841, 843, 845, 847, 849, 851, 853, 855, 857, 859, 861, 863, 865, 867, 869, 871, 873, 875, 877, 879, 881, 883, 885, 887, 889, 891, 893, 895, 897, 899, 901, 903, 905] (by decide +kernel) (by decide +kernel)
theorem fX7_12 : zFl RX7 12 7 0 := ⟨(RX7, TX7, 13), rfl, by decide, by decide, zT_mem 300 (by decide +kernel) rfl, uX7⟩
theorem fX7_21 : zFl RX7 21 7 1 := ⟨(RX7, TX7, 13), rfl, by decide, by decide, zT_mem 301 (by decide +kernel) rfl, uX7⟩
theorem fX7_30 : zFl RX7 30 7 2 := ⟨(RX7, TX7, 13), rfl, by decide, by decide, zT_mem 302 (by decide +kernel) rfl, uX7⟩
theorem fX7_37 : zFl RX7 37 7 3 := ⟨(RX7, TX7, 13), rfl, by decide, by decide, zT_mem 303 (by decide +kernel) rfl, uX7⟩
theorem fX7_44 : zFl RX7 44 7 4 := ⟨(RX7, TX7, 13), rfl, by decide, by decide, zT_mem 304 (by decide +kernel) rfl, uX7⟩
theorem fX7_51 : zFl RX7 51 7 5 := ⟨(RX7, TX7, 13), rfl, by decide, by decide, zT_mem 305 (by decide +kernel) rfl, uX7⟩
theorem fX7_57 : zFl RX7 57 7 6 := ⟨(RX7, TX7, 13), rfl, by decide, by decide, zT_mem 306 (by decide +kernel) rfl, uX7⟩
theorem fX7_61 : zFl RX7 61 7 7 := ⟨(RX7, TX7, 13), rfl, by decide, by decide, zT_mem 307 (by decide +kernel) rfl, uX7⟩
theorem fX7_65 : zFl RX7 65 7 8 := ⟨(RX7, TX7, 13), rfl, by decide, by decide, zT_mem 308 (by decide +kernel) rfl, uX7⟩
theorem fX7_68 : zFl RX7 68 7 9 := ⟨(RX7, TX7, 13), rfl, by decide, by decide, zT_mem 309 (by decide +kernel) rfl, uX7⟩
theorem fX7_71 : zFl RX7 71 7 10 := ⟨(RX7, TX7, 13), rfl, by decide, by decide, zT_mem 310 (by decide +kernel) rfl, uX7⟩
theorem fX7_74 : zFl RX7 74 7 11 := ⟨(RX7, TX7, 13), rfl, by decide, by decide, zT_mem 311 (by decide +kernel) rfl, uX7⟩
theorem fX7_77 : zFl RX7 77 7 12 := ⟨(RX7, TX7, 13), rfl, by decide, by decide, zT_mem 312 (by decide +kernel) rfl, uX7⟩
theorem fX7_82 : zFl RX7 82 6 7 := ⟨(RX6, TX6, 10), rfl, by decide, by decide, zT_mem 94 (by decide +kernel) rfl, uX6⟩
theorem fX7_93 : zFl RX7 93 6 3 := ⟨(RX6, TX6, 10), rfl, by decide, by decide, zT_mem 82 (by decide +kernel) rfl, uX6⟩
theorem fX7_97 : zFl RX7 97 6 9 := ⟨(RX6, TX6, 10), rfl, by decide, by decide, zT_mem 98 (by decide +kernel) rfl, uX6⟩
theorem fX7_114 : zFl RX7 114 3 3 := ⟨(RX3, TX3, 4), rfl, by decide, by decide, zT_mem 208 (by decide +kernel) rfl, uX3⟩
theorem fX7_121 : zFl RX7 121 1 2 := ⟨(RX1, TX1, 4), rfl, by decide, by decide, zT_mem 242 (by decide +kernel) rfl, uX1⟩
theorem fX7_130 : zFl RX7 130 6 5 := ⟨(RX6, TX6, 10), rfl, by decide, by decide, zT_mem 88 (by decide +kernel) rfl, uX6⟩
theorem fX7_134 : zFl RX7 134 6 6 := ⟨(RX6, TX6, 10), rfl, by decide, by decide, zT_mem 91 (by decide +kernel) rfl, uX6⟩
theorem fX7_137 : zFl RX7 137 5 6 := ⟨(RX5, TX5, 10), rfl, by decide, by decide, zT_mem 144 (by decide +kernel) rfl, uX5⟩
theorem fX7_155 : zFl RX7 155 5 7 := ⟨(RX5, TX5, 10), rfl, by decide, by decide, zT_mem 147 (by decide +kernel) rfl, uX5⟩
theorem fX7_162 : zFl RX7 162 4 1 := ⟨(RX4, TX4, 9), rfl, by decide, by decide, zT_mem 266 (by decide +kernel) rfl, uX4⟩
theorem fX7_182 : zFl RX7 182 4 4 := ⟨(RX4, TX4, 9), rfl, by decide, by decide, zT_mem 272 (by decide +kernel) rfl, uX4⟩
theorem fX7_189 : zFl RX7 189 4 5 := ⟨(RX4, TX4, 9), rfl, by decide, by decide, zT_mem 274 (by decide +kernel) rfl, uX4⟩
theorem fX7_195 : zFl RX7 195 4 8 := ⟨(RX4, TX4, 9), rfl, by decide, by decide, zT_mem 280 (by decide +kernel) rfl, uX4⟩
theorem fX7_201 : zFl RX7 201 4 2 := ⟨(RX4, TX4, 9), rfl, by decide, by decide, zT_mem 268 (by decide +kernel) rfl, uX4⟩
theorem fX7_210 : zFl RX7 210 4 0 := ⟨(RX4, TX4, 9), rfl, by decide, by decide, zT_mem 263 (by decide +kernel) rfl, uX4⟩
theorem fX7_213 : zFl RX7 213 4 3 := ⟨(RX4, TX4, 9), rfl, by decide, by decide, zT_mem 270 (by decide +kernel) rfl, uX4⟩
theorem fX7_241 : zFl RX7 241 6 0 := ⟨(RX6, TX6, 10), rfl, by decide, by decide, zT_mem 73 (by decide +kernel) rfl, uX6⟩
theorem fX7_244 : zFl RX7 244 6 1 := ⟨(RX6, TX6, 10), rfl, by decide, by decide, zT_mem 76 (by decide +kernel) rfl, uX6⟩
theorem fX7_247 : zFl RX7 247 6 2 := ⟨(RX6, TX6, 10), rfl, by decide, by decide, zT_mem 80 (by decide +kernel) rfl, uX6⟩
theorem fX7_256 : zFl RX7 256 5 5 := ⟨(RX5, TX5, 10), rfl, by decide, by decide, zT_mem 141 (by decide +kernel) rfl, uX5⟩
theorem fX7_259 : zFl RX7 259 5 3 := ⟨(RX5, TX5, 10), rfl, by decide, by decide, zT_mem 136 (by decide +kernel) rfl, uX5⟩
theorem fX7_265 : zFl RX7 265 5 1 := ⟨(RX5, TX5, 10), rfl, by decide, by decide, zT_mem 132 (by decide +kernel) rfl, uX5⟩
theorem fX7_268 : zFl RX7 268 5 2 := ⟨(RX5, TX5, 10), rfl, by decide, by decide, zT_mem 134 (by decide +kernel) rfl, uX5⟩
theorem fX7_270 : zFl RX7 270 5 4 := ⟨(RX5, TX5, 10), rfl, by decide, by decide, zT_mem 139 (by decide +kernel) rfl, uX5⟩
theorem fX7_276 : zFl RX7 276 0 0 := ⟨(RX0, TX0, 2), rfl, by decide, by decide, zT_mem 225 (by decide +kernel) rfl, uX0⟩
theorem fX7_283 : zFl RX7 283 6 8 := ⟨(RX6, TX6, 10), rfl, by decide, by decide, zT_mem 96 (by decide +kernel) rfl, uX6⟩
theorem fX7_286 : zFl RX7 286 0 1 := ⟨(RX0, TX0, 2), rfl, by decide, by decide, zT_mem 227 (by decide +kernel) rfl, uX0⟩
theorem fX7_289 : zFl RX7 289 1 3 := ⟨(RX1, TX1, 4), rfl, by decide, by decide, zT_mem 244 (by decide +kernel) rfl, uX1⟩
theorem fX7_316 : zFl RX7 316 3 0 := ⟨(RX3, TX3, 4), rfl, by decide, by decide, zT_mem 203 (by decide +kernel) rfl, uX3⟩
theorem fX7_323 : zFl RX7 323 3 1 := ⟨(RX3, TX3, 4), rfl, by decide, by decide, zT_mem 205 (by decide +kernel) rfl, uX3⟩
theorem fX7_341 : zFl RX7 341 4 6 := ⟨(RX4, TX4, 9), rfl, by decide, by decide, zT_mem 276 (by decide +kernel) rfl, uX4⟩
theorem fX7_344 : zFl RX7 344 4 7 := ⟨(RX4, TX4, 9), rfl, by decide, by decide, zT_mem 278 (by decide +kernel) rfl, uX4⟩
theorem fX0_11 : zFl RX0 11 0 0 := ⟨(RX0, TX0, 2), rfl, by decide, by decide, zT_mem 224 (by decide +kernel) rfl, uX0⟩
theorem fX0_15 : zFl RX0 15 0 1 := ⟨(RX0, TX0, 2), rfl, by decide, by decide, zT_mem 226 (by decide +kernel) rfl, uX0⟩
theorem fX1_9 : zFl RX1 9 1 0 := ⟨(RX1, TX1, 4), rfl, by decide, by decide, zT_mem 239 (by decide +kernel) rfl, uX1⟩
theorem fX1_15 : zFl RX1 15 1 1 := ⟨(RX1, TX1, 4), rfl, by decide, by decide, zT_mem 240 (by decide +kernel) rfl, uX1⟩
theorem fX1_18 : zFl RX1 18 1 2 := ⟨(RX1, TX1, 4), rfl, by decide, by decide, zT_mem 241 (by decide +kernel) rfl, uX1⟩
theorem fX1_22 : zFl RX1 22 1 3 := ⟨(RX1, TX1, 4), rfl, by decide, by decide, zT_mem 243 (by decide +kernel) rfl, uX1⟩
theorem fX2_9 : zFl RX2 9 2 2 := ⟨(RX2, TX2, 6), rfl, by decide, by decide, zT_mem 179 (by decide +kernel) rfl, uX2⟩
theorem fX2_15 : zFl RX2 15 2 3 := ⟨(RX2, TX2, 6), rfl, by decide, by decide, zT_mem 180 (by decide +kernel) rfl, uX2⟩
theorem fX2_18 : zFl RX2 18 2 4 := ⟨(RX2, TX2, 6), rfl, by decide, by decide, zT_mem 181 (by decide +kernel) rfl, uX2⟩
theorem fX2_21 : zFl RX2 21 2 5 := ⟨(RX2, TX2, 6), rfl, by decide, by decide, zT_mem 182 (by decide +kernel) rfl, uX2⟩
theorem fX2_24 : zFl RX2 24 2 0 := ⟨(RX2, TX2, 6), rfl, by decide, by decide, zT_mem 177 (by decide +kernel) rfl, uX2⟩
theorem fX2_28 : zFl RX2 28 2 1 := ⟨(RX2, TX2, 6), rfl, by decide, by decide, zT_mem 178 (by decide +kernel) rfl, uX2⟩
theorem fX2_32 : zFl RX2 32 6 2 := ⟨(RX6, TX6, 10), rfl, by decide, by decide, zT_mem 78 (by decide +kernel) rfl, uX6⟩
theorem fX2_37 : zFl RX2 37 6 6 := ⟨(RX6, TX6, 10), rfl, by decide, by decide, zT_mem 90 (by decide +kernel) rfl, uX6⟩
theorem fX2_46 : zFl RX2 46 6 0 := ⟨(RX6, TX6, 10), rfl, by decide, by decide, zT_mem 72 (by decide +kernel) rfl, uX6⟩
theorem fX2_62 : zFl RX2 62 5 7 := ⟨(RX5, TX5, 10), rfl, by decide, by decide, zT_mem 146 (by decide +kernel) rfl, uX5⟩
theorem fX2_97 : zFl RX2 97 6 9 := ⟨(RX6, TX6, 10), rfl, by decide, by decide, zT_mem 99 (by decide +kernel) rfl, uX6⟩
theorem fX2_120 : zFl RX2 120 6 3 := ⟨(RX6, TX6, 10), rfl, by decide, by decide, zT_mem 83 (by decide +kernel) rfl, uX6⟩
theorem fX2_124 : zFl RX2 124 6 4 := ⟨(RX6, TX6, 10), rfl, by decide, by decide, zT_mem 85 (by decide +kernel) rfl, uX6⟩
theorem fX3_9 : zFl RX3 9 3 0 := ⟨(RX3, TX3, 4), rfl, by decide, by decide, zT_mem 202 (by decide +kernel) rfl, uX3⟩
theorem fX3_15 : zFl RX3 15 3 1 := ⟨(RX3, TX3, 4), rfl, by decide, by decide, zT_mem 204 (by decide +kernel) rfl, uX3⟩
theorem fX3_18 : zFl RX3 18 3 2 := ⟨(RX3, TX3, 4), rfl, by decide, by decide, zT_mem 206 (by decide +kernel) rfl, uX3⟩
theorem fX3_21 : zFl RX3 21 3 3 := ⟨(RX3, TX3, 4), rfl, by decide, by decide, zT_mem 207 (by decide +kernel) rfl, uX3⟩
theorem fX3_29 : zFl RX3 29 4 0 := ⟨(RX4, TX4, 9), rfl, by decide, by decide, zT_mem 262 (by decide +kernel) rfl, uX4⟩
theorem fX3_34 : zFl RX3 34 4 1 := ⟨(RX4, TX4, 9), rfl, by decide, by decide, zT_mem 265 (by decide +kernel) rfl, uX4⟩
theorem fX3_53 : zFl RX3 53 5 6 := ⟨(RX5, TX5, 10), rfl, by decide, by decide, zT_mem 143 (by decide +kernel) rfl, uX5⟩
theorem fX3_56 : zFl RX3 56 5 1 := ⟨(RX5, TX5, 10), rfl, by decide, by decide, zT_mem 131 (by decide +kernel) rfl, uX5⟩
theorem fX3_59 : zFl RX3 59 5 4 := ⟨(RX5, TX5, 10), rfl, by decide, by decide, zT_mem 138 (by decide +kernel) rfl, uX5⟩
theorem fX4_9 : zFl RX4 9 4 0 := ⟨(RX4, TX4, 9), rfl, by decide, by decide, zT_mem 261 (by decide +kernel) rfl, uX4⟩
theorem fX4_15 : zFl RX4 15 4 1 := ⟨(RX4, TX4, 9), rfl, by decide, by decide, zT_mem 264 (by decide +kernel) rfl, uX4⟩
theorem fX4_18 : zFl RX4 18 4 2 := ⟨(RX4, TX4, 9), rfl, by decide, by decide, zT_mem 267 (by decide +kernel) rfl, uX4⟩
theorem fX4_21 : zFl RX4 21 4 3 := ⟨(RX4, TX4, 9), rfl, by decide, by decide, zT_mem 269 (by decide +kernel) rfl, uX4⟩
theorem fX4_25 : zFl RX4 25 4 4 := ⟨(RX4, TX4, 9), rfl, by decide, by decide, zT_mem 271 (by decide +kernel) rfl, uX4⟩
theorem fX4_28 : zFl RX4 28 4 5 := ⟨(RX4, TX4, 9), rfl, by decide, by decide, zT_mem 273 (by decide +kernel) rfl, uX4⟩
theorem fX4_31 : zFl RX4 31 4 6 := ⟨(RX4, TX4, 9), rfl, by decide, by decide, zT_mem 275 (by decide +kernel) rfl, uX4⟩
theorem fX4_34 : zFl RX4 34 4 7 := ⟨(RX4, TX4, 9), rfl, by decide, by decide, zT_mem 277 (by decide +kernel) rfl, uX4⟩
theorem fX4_37 : zFl RX4 37 4 8 := ⟨(RX4, TX4, 9), rfl, by decide, by decide, zT_mem 279 (by decide +kernel) rfl, uX4⟩
theorem fX5_9 : zFl RX5 9 5 1 := ⟨(RX5, TX5, 10), rfl, by decide, by decide, zT_mem 130 (by decide +kernel) rfl, uX5⟩
theorem fX5_15 : zFl RX5 15 5 2 := ⟨(RX5, TX5, 10), rfl, by decide, by decide, zT_mem 133 (by decide +kernel) rfl, uX5⟩
theorem fX5_18 : zFl RX5 18 5 3 := ⟨(RX5, TX5, 10), rfl, by decide, by decide, zT_mem 135 (by decide +kernel) rfl, uX5⟩
theorem fX5_21 : zFl RX5 21 5 4 := ⟨(RX5, TX5, 10), rfl, by decide, by decide, zT_mem 137 (by decide +kernel) rfl, uX5⟩
theorem fX5_24 : zFl RX5 24 5 5 := ⟨(RX5, TX5, 10), rfl, by decide, by decide, zT_mem 140 (by decide +kernel) rfl, uX5⟩
theorem fX5_28 : zFl RX5 28 5 6 := ⟨(RX5, TX5, 10), rfl, by decide, by decide, zT_mem 142 (by decide +kernel) rfl, uX5⟩
theorem fX5_32 : zFl RX5 32 5 7 := ⟨(RX5, TX5, 10), rfl, by decide, by decide, zT_mem 145 (by decide +kernel) rfl, uX5⟩
theorem fX5_35 : zFl RX5 35 5 8 := ⟨(RX5, TX5, 10), rfl, by decide, by decide, zT_mem 148 (by decide +kernel) rfl, uX5⟩
theorem fX5_38 : zFl RX5 38 5 9 := ⟨(RX5, TX5, 10), rfl, by decide, by decide, zT_mem 149 (by decide +kernel) rfl, uX5⟩
theorem fX5_41 : zFl RX5 41 5 0 := ⟨(RX5, TX5, 10), rfl, by decide, by decide, zT_mem 129 (by decide +kernel) rfl, uX5⟩
theorem fX5_53 : zFl RX5 53 6 1 := ⟨(RX6, TX6, 10), rfl, by decide, by decide, zT_mem 75 (by decide +kernel) rfl, uX6⟩
theorem fX5_58 : zFl RX5 58 6 5 := ⟨(RX6, TX6, 10), rfl, by decide, by decide, zT_mem 87 (by decide +kernel) rfl, uX6⟩
theorem fX5_64 : zFl RX5 64 6 2 := ⟨(RX6, TX6, 10), rfl, by decide, by decide, zT_mem 79 (by decide +kernel) rfl, uX6⟩
theorem fX5_67 : zFl RX5 67 6 6 := ⟨(RX6, TX6, 10), rfl, by decide, by decide, zT_mem 92 (by decide +kernel) rfl, uX6⟩
theorem fX6_9 : zFl RX6 9 6 0 := ⟨(RX6, TX6, 10), rfl, by decide, by decide, zT_mem 71 (by decide +kernel) rfl, uX6⟩
theorem fX6_15 : zFl RX6 15 6 1 := ⟨(RX6, TX6, 10), rfl, by decide, by decide, zT_mem 74 (by decide +kernel) rfl, uX6⟩
theorem fX6_18 : zFl RX6 18 6 2 := ⟨(RX6, TX6, 10), rfl, by decide, by decide, zT_mem 77 (by decide +kernel) rfl, uX6⟩
theorem fX6_21 : zFl RX6 21 6 3 := ⟨(RX6, TX6, 10), rfl, by decide, by decide, zT_mem 81 (by decide +kernel) rfl, uX6⟩
theorem fX6_25 : zFl RX6 25 6 4 := ⟨(RX6, TX6, 10), rfl, by decide, by decide, zT_mem 84 (by decide +kernel) rfl, uX6⟩
theorem fX6_28 : zFl RX6 28 6 5 := ⟨(RX6, TX6, 10), rfl, by decide, by decide, zT_mem 86 (by decide +kernel) rfl, uX6⟩
theorem fX6_31 : zFl RX6 31 6 6 := ⟨(RX6, TX6, 10), rfl, by decide, by decide, zT_mem 89 (by decide +kernel) rfl, uX6⟩
theorem fX6_34 : zFl RX6 34 6 7 := ⟨(RX6, TX6, 10), rfl, by decide, by decide, zT_mem 93 (by decide +kernel) rfl, uX6⟩
theorem fX6_38 : zFl RX6 38 6 8 := ⟨(RX6, TX6, 10), rfl, by decide, by decide, zT_mem 95 (by decide +kernel) rfl, uX6⟩
theorem fX6_41 : zFl RX6 41 6 9 := ⟨(RX6, TX6, 10), rfl, by decide, by decide, zT_mem 97 (by decide +kernel) rfl, uX6⟩
theorem fX8_7 : zFl RX8 7 8 1 := ⟨(RX8, TX8, 48), rfl, by decide, by decide, zT_mem 764 (by decide +kernel) rfl, uX8⟩
theorem fX8_13 : zFl RX8 13 8 2 := ⟨(RX8, TX8, 48), rfl, by decide, by decide, zT_mem 765 (by decide +kernel) rfl, uX8⟩
theorem fX8_16 : zFl RX8 16 8 3 := ⟨(RX8, TX8, 48), rfl, by decide, by decide, zT_mem 766 (by decide +kernel) rfl, uX8⟩
theorem fX8_19 : zFl RX8 19 8 4 := ⟨(RX8, TX8, 48), rfl, by decide, by decide, zT_mem 767 (by decide +kernel) rfl, uX8⟩
theorem fX8_22 : zFl RX8 22 8 5 := ⟨(RX8, TX8, 48), rfl, by decide, by decide, zT_mem 768 (by decide +kernel) rfl, uX8⟩
theorem fX8_26 : zFl RX8 26 8 6 := ⟨(RX8, TX8, 48), rfl, by decide, by decide, zT_mem 769 (by decide +kernel) rfl, uX8⟩
theorem fX8_29 : zFl RX8 29 8 8 := ⟨(RX8, TX8, 48), rfl, by decide, by decide, zT_mem 771 (by decide +kernel) rfl, uX8⟩
theorem fX8_32 : zFl RX8 32 8 10 := ⟨(RX8, TX8, 48), rfl, by decide, by decide, zT_mem 773 (by decide +kernel) rfl, uX8⟩
theorem fX8_35 : zFl RX8 35 8 12 := ⟨(RX8, TX8, 48), rfl, by decide, by decide, zT_mem 775 (by decide +kernel) rfl, uX8⟩
theorem fX8_38 : zFl RX8 38 8 13 := ⟨(RX8, TX8, 48), rfl, by decide, by decide, zT_mem 776 (by decide +kernel) rfl, uX8⟩
theorem fX8_41 : zFl RX8 41 8 14 := ⟨(RX8, TX8, 48), rfl, by decide, by decide, zT_mem 777 (by decide +kernel) rfl, uX8⟩
theorem fX8_44 : zFl RX8 44 8 16 := ⟨(RX8, TX8, 48), rfl, by decide, by decide, zT_mem 779 (by decide +kernel) rfl, uX8⟩
theorem fX8_47 : zFl RX8 47 8 17 := ⟨(RX8, TX8, 48), rfl, by decide, by decide, zT_mem 780 (by decide +kernel) rfl, uX8⟩
theorem fX8_50 : zFl RX8 50 8 20 := ⟨(RX8, TX8, 48), rfl, by decide, by decide, zT_mem 783 (by decide +kernel) rfl, uX8⟩
theorem fX8_53 : zFl RX8 53 8 21 := ⟨(RX8, TX8, 48), rfl, by decide, by decide, zT_mem 784 (by decide +kernel) rfl, uX8⟩
theorem fX8_56 : zFl RX8 56 8 22 := ⟨(RX8, TX8, 48), rfl, by decide, by decide, zT_mem 785 (by decide +kernel) rfl, uX8⟩
theorem fX8_59 : zFl RX8 59 8 23 := ⟨(RX8, TX8, 48), rfl, by decide, by decide, zT_mem 786 (by decide +kernel) rfl, uX8⟩
theorem fX8_62 : zFl RX8 62 8 24 := ⟨(RX8, TX8, 48), rfl, by decide, by decide, zT_mem 787 (by decide +kernel) rfl, uX8⟩
theorem fX8_65 : zFl RX8 65 8 25 := ⟨(RX8, TX8, 48), rfl, by decide, by decide, zT_mem 788 (by decide +kernel) rfl, uX8⟩
theorem fX8_68 : zFl RX8 68 8 26 := ⟨(RX8, TX8, 48), rfl, by decide, by decide, zT_mem 789 (by decide +kernel) rfl, uX8⟩
theorem fX8_71 : zFl RX8 71 8 27 := ⟨(RX8, TX8, 48), rfl, by decide, by decide, zT_mem 790 (by decide +kernel) rfl, uX8⟩
theorem fX8_74 : zFl RX8 74 8 29 := ⟨(RX8, TX8, 48), rfl, by decide, by decide, zT_mem 792 (by decide +kernel) rfl, uX8⟩
theorem fX8_77 : zFl RX8 77 8 30 := ⟨(RX8, TX8, 48), rfl, by decide, by decide, zT_mem 793 (by decide +kernel) rfl, uX8⟩
theorem fX8_80 : zFl RX8 80 8 31 := ⟨(RX8, TX8, 48), rfl, by decide, by decide, zT_mem 794 (by decide +kernel) rfl, uX8⟩
theorem fX8_83 : zFl RX8 83 8 32 := ⟨(RX8, TX8, 48), rfl, by decide, by decide, zT_mem 795 (by decide +kernel) rfl, uX8⟩
theorem fX8_86 : zFl RX8 86 8 33 := ⟨(RX8, TX8, 48), rfl, by decide, by decide, zT_mem 796 (by decide +kernel) rfl, uX8⟩
theorem fX8_89 : zFl RX8 89 8 34 := ⟨(RX8, TX8, 48), rfl, by decide, by decide, zT_mem 797 (by decide +kernel) rfl, uX8⟩
theorem fX8_92 : zFl RX8 92 8 35 := ⟨(RX8, TX8, 48), rfl, by decide, by decide, zT_mem 798 (by decide +kernel) rfl, uX8⟩
theorem fX8_95 : zFl RX8 95 8 36 := ⟨(RX8, TX8, 48), rfl, by decide, by decide, zT_mem 799 (by decide +kernel) rfl, uX8⟩
theorem fX8_98 : zFl RX8 98 8 37 := ⟨(RX8, TX8, 48), rfl, by decide, by decide, zT_mem 800 (by decide +kernel) rfl, uX8⟩
theorem fX8_101 : zFl RX8 101 8 40 := ⟨(RX8, TX8, 48), rfl, by decide, by decide, zT_mem 803 (by decide +kernel) rfl, uX8⟩
theorem fX8_104 : zFl RX8 104 8 44 := ⟨(RX8, TX8, 48), rfl, by decide, by decide, zT_mem 807 (by decide +kernel) rfl, uX8⟩
theorem fX8_107 : zFl RX8 107 8 45 := ⟨(RX8, TX8, 48), rfl, by decide, by decide, zT_mem 808 (by decide +kernel) rfl, uX8⟩
theorem fX8_110 : zFl RX8 110 8 46 := ⟨(RX8, TX8, 48), rfl, by decide, by decide, zT_mem 809 (by decide +kernel) rfl, uX8⟩
theorem fX8_113 : zFl RX8 113 8 47 := ⟨(RX8, TX8, 48), rfl, by decide, by decide, zT_mem 810 (by decide +kernel) rfl, uX8⟩
theorem fX8_116 : zFl RX8 116 8 28 := ⟨(RX8, TX8, 48), rfl, by decide, by decide, zT_mem 791 (by decide +kernel) rfl, uX8⟩
theorem fX8_120 : zFl RX8 120 8 0 := ⟨(RX8, TX8, 48), rfl, by decide, by decide, zT_mem 763 (by decide +kernel) rfl, uX8⟩
theorem fX8_127 : zFl RX8 127 8 9 := ⟨(RX8, TX8, 48), rfl, by decide, by decide, zT_mem 772 (by decide +kernel) rfl, uX8⟩
theorem fX8_130 : zFl RX8 130 8 7 := ⟨(RX8, TX8, 48), rfl, by decide, by decide, zT_mem 770 (by decide +kernel) rfl, uX8⟩
theorem fX8_138 : zFl RX8 138 8 11 := ⟨(RX8, TX8, 48), rfl, by decide, by decide, zT_mem 774 (by decide +kernel) rfl, uX8⟩
theorem fX8_141 : zFl RX8 141 8 15 := ⟨(RX8, TX8, 48), rfl, by decide, by decide, zT_mem 778 (by decide +kernel) rfl, uX8⟩
theorem fX8_144 : zFl RX8 144 8 19 := ⟨(RX8, TX8, 48), rfl, by decide, by decide, zT_mem 782 (by decide +kernel) rfl, uX8⟩
theorem fX8_171 : zFl RX8 171 8 38 := ⟨(RX8, TX8, 48), rfl, by decide, by decide, zT_mem 801 (by decide +kernel) rfl, uX8⟩
theorem fX8_182 : zFl RX8 182 8 39 := ⟨(RX8, TX8, 48), rfl, by decide, by decide, zT_mem 802 (by decide +kernel) rfl, uX8⟩
theorem fX8_198 : zFl RX8 198 8 41 := ⟨(RX8, TX8, 48), rfl, by decide, by decide, zT_mem 804 (by decide +kernel) rfl, uX8⟩
theorem fX8_202 : zFl RX8 202 8 43 := ⟨(RX8, TX8, 48), rfl, by decide, by decide, zT_mem 806 (by decide +kernel) rfl, uX8⟩
theorem fX8_205 : zFl RX8 205 8 42 := ⟨(RX8, TX8, 48), rfl, by decide, by decide, zT_mem 805 (by decide +kernel) rfl, uX8⟩
theorem fX8_211 : zFl RX8 211 8 18 := ⟨(RX8, TX8, 48), rfl, by decide, by decide, zT_mem 781 (by decide +kernel) rfl, uX8⟩
theorem ff0_0 : zFf RX0 0 0 (.array .int) := ⟨(RX0, TX0, 2), rfl, rfl, rfl, by decide +kernel⟩
theorem fw0_1 : zFw 0 1 .int := ⟨(RX0, TX0, 2), rfl, rfl, by decide +kernel⟩
theorem ff1_0 : zFf RX1 1 0 (.array .int) := ⟨(RX1, TX1, 4), rfl, rfl, rfl, by decide +kernel⟩
theorem ff1_1 : zFf RX1 1 1 (.array .int) := ⟨(RX1, TX1, 4), rfl, rfl, rfl, by decide +kernel⟩
theorem fw1_2 : zFw 1 2 .int := ⟨(RX1, TX1, 4), rfl, rfl, by decide +kernel⟩
theorem fw1_3 : zFw 1 3 .int := ⟨(RX1, TX1, 4), rfl, rfl, by decide +kernel⟩
theorem ff2_0 : zFf RX2 2 0 (.object "JudgesLedger$Show") := ⟨(RX2, TX2, 6), rfl, rfl, rfl, by decide +kernel⟩
theorem ff2_1 : zFf RX2 2 1 (.object "JudgesLedger$Sheet") := ⟨(RX2, TX2, 6), rfl, rfl, rfl, by decide +kernel⟩
theorem ff2_2 : zFf RX2 2 2 (.array .int) := ⟨(RX2, TX2, 6), rfl, rfl, rfl, by decide +kernel⟩
theorem ff2_3 : zFf RX2 2 3 (.array .int) := ⟨(RX2, TX2, 6), rfl, rfl, rfl, by decide +kernel⟩
theorem ff2_4 : zFf RX2 2 4 (.array .int) := ⟨(RX2, TX2, 6), rfl, rfl, rfl, by decide +kernel⟩
theorem ff2_5 : zFf RX2 2 5 (.array .int) := ⟨(RX2, TX2, 6), rfl, rfl, rfl, by decide +kernel⟩
theorem ff3_0 : zFf RX3 3 0 (.array .int) := ⟨(RX3, TX3, 4), rfl, rfl, rfl, by decide +kernel⟩
theorem ff3_1 : zFf RX3 3 1 (.array .int) := ⟨(RX3, TX3, 4), rfl, rfl, rfl, by decide +kernel⟩
theorem ff3_2 : zFf RX3 3 2 (.array .int) := ⟨(RX3, TX3, 4), rfl, rfl, rfl, by decide +kernel⟩
theorem fw3_3 : zFw 3 3 .int := ⟨(RX3, TX3, 4), rfl, rfl, by decide +kernel⟩
theorem fw4_0 : zFw 4 0 .int := ⟨(RX4, TX4, 9), rfl, rfl, by decide +kernel⟩
theorem fw4_1 : zFw 4 1 .int := ⟨(RX4, TX4, 9), rfl, rfl, by decide +kernel⟩
theorem fw4_2 : zFw 4 2 .int := ⟨(RX4, TX4, 9), rfl, rfl, by decide +kernel⟩
theorem ff4_3 : zFf RX4 4 3 (.array .int) := ⟨(RX4, TX4, 9), rfl, rfl, rfl, by decide +kernel⟩
theorem ff4_4 : zFf RX4 4 4 (.array .int) := ⟨(RX4, TX4, 9), rfl, rfl, rfl, by decide +kernel⟩
theorem fw4_5 : zFw 4 5 .int := ⟨(RX4, TX4, 9), rfl, rfl, by decide +kernel⟩
theorem ff4_6 : zFf RX4 4 6 (.array .int) := ⟨(RX4, TX4, 9), rfl, rfl, rfl, by decide +kernel⟩
theorem ff4_7 : zFf RX4 4 7 (.array .int) := ⟨(RX4, TX4, 9), rfl, rfl, rfl, by decide +kernel⟩
theorem fw4_8 : zFw 4 8 .int := ⟨(RX4, TX4, 9), rfl, rfl, by decide +kernel⟩
theorem ff5_0 : zFf RX5 5 0 (.object "JudgesLedger$Show") := ⟨(RX5, TX5, 10), rfl, rfl, rfl, by decide +kernel⟩
theorem ff5_1 : zFf RX5 5 1 (.array .int) := ⟨(RX5, TX5, 10), rfl, rfl, rfl, by decide +kernel⟩
theorem ff5_2 : zFf RX5 5 2 (.array .int) := ⟨(RX5, TX5, 10), rfl, rfl, rfl, by decide +kernel⟩
theorem ff5_3 : zFf RX5 5 3 (.array .int) := ⟨(RX5, TX5, 10), rfl, rfl, rfl, by decide +kernel⟩
theorem ff5_4 : zFf RX5 5 4 (.array .int) := ⟨(RX5, TX5, 10), rfl, rfl, rfl, by decide +kernel⟩
theorem ff5_5 : zFf RX5 5 5 (.array .boolean) := ⟨(RX5, TX5, 10), rfl, rfl, rfl, by decide +kernel⟩
theorem fw5_6 : zFw 5 6 .int := ⟨(RX5, TX5, 10), rfl, rfl, by decide +kernel⟩
theorem ff5_7 : zFf RX5 5 7 (.array .int) := ⟨(RX5, TX5, 10), rfl, rfl, rfl, by decide +kernel⟩
theorem ff5_8 : zFf RX5 5 8 (.array .int) := ⟨(RX5, TX5, 10), rfl, rfl, rfl, by decide +kernel⟩
theorem ff5_9 : zFf RX5 5 9 (.array .int) := ⟨(RX5, TX5, 10), rfl, rfl, rfl, by decide +kernel⟩
theorem ff6_0 : zFf RX6 6 0 (.array .int) := ⟨(RX6, TX6, 10), rfl, rfl, rfl, by decide +kernel⟩
theorem ff6_1 : zFf RX6 6 1 (.array .int) := ⟨(RX6, TX6, 10), rfl, rfl, rfl, by decide +kernel⟩
theorem ff6_2 : zFf RX6 6 2 (.array .int) := ⟨(RX6, TX6, 10), rfl, rfl, rfl, by decide +kernel⟩
theorem ff6_3 : zFf RX6 6 3 (.array .boolean) := ⟨(RX6, TX6, 10), rfl, rfl, rfl, by decide +kernel⟩
theorem ff6_4 : zFf RX6 6 4 (.array .int) := ⟨(RX6, TX6, 10), rfl, rfl, rfl, by decide +kernel⟩
theorem ff6_5 : zFf RX6 6 5 (.array .int) := ⟨(RX6, TX6, 10), rfl, rfl, rfl, by decide +kernel⟩
theorem ff6_6 : zFf RX6 6 6 (.array .int) := ⟨(RX6, TX6, 10), rfl, rfl, rfl, by decide +kernel⟩
theorem fw6_7 : zFw 6 7 .int := ⟨(RX6, TX6, 10), rfl, rfl, by decide +kernel⟩
theorem fw6_8 : zFw 6 8 .int := ⟨(RX6, TX6, 10), rfl, rfl, by decide +kernel⟩
theorem fw6_9 : zFw 6 9 .int := ⟨(RX6, TX6, 10), rfl, rfl, by decide +kernel⟩
theorem ff7_0 : zFf RX7 7 0 (.object "JudgesLedger$Show") := ⟨(RX7, TX7, 13), rfl, rfl, rfl, by decide +kernel⟩
theorem ff7_1 : zFf RX7 7 1 (.object "JudgesLedger$Sheet") := ⟨(RX7, TX7, 13), rfl, rfl, rfl, by decide +kernel⟩
theorem ff7_2 : zFf RX7 7 2 (.object "JudgesLedger$Placing") := ⟨(RX7, TX7, 13), rfl, rfl, rfl, by decide +kernel⟩
theorem ff7_3 : zFf RX7 7 3 (.object "JudgesLedger$RuleBook") := ⟨(RX7, TX7, 13), rfl, rfl, rfl, by decide +kernel⟩
theorem ff7_4 : zFf RX7 7 4 (.object "JudgesLedger$FailureBook") := ⟨(RX7, TX7, 13), rfl, rfl, rfl, by decide +kernel⟩
theorem ff7_5 : zFf RX7 7 5 (.object "JudgesLedger$Gallery") := ⟨(RX7, TX7, 13), rfl, rfl, rfl, by decide +kernel⟩
theorem ff7_6 : zFf RX7 7 6 (.array (.object "JudgesLedger$Scoring")) := ⟨(RX7, TX7, 13), rfl, rfl, rfl, by decide +kernel⟩
theorem fw7_7 : zFw 7 7 .int := ⟨(RX7, TX7, 13), rfl, rfl, by decide +kernel⟩
theorem fw7_8 : zFw 7 8 .int := ⟨(RX7, TX7, 13), rfl, rfl, by decide +kernel⟩
theorem fw7_9 : zFw 7 9 .int := ⟨(RX7, TX7, 13), rfl, rfl, by decide +kernel⟩
theorem fw7_10 : zFw 7 10 .int := ⟨(RX7, TX7, 13), rfl, rfl, by decide +kernel⟩
theorem fw7_11 : zFw 7 11 .int := ⟨(RX7, TX7, 13), rfl, rfl, by decide +kernel⟩
theorem fw7_12 : zFw 7 12 .boolean := ⟨(RX7, TX7, 13), rfl, rfl, by decide +kernel⟩
theorem fw8_0 : zFw 8 0 .int := ⟨(RX8, TX8, 48), rfl, rfl, by decide +kernel⟩
theorem ff8_1 : zFf RX8 8 1 (.array .int) := ⟨(RX8, TX8, 48), rfl, rfl, rfl, by decide +kernel⟩
theorem ff8_2 : zFf RX8 8 2 (.array .int) := ⟨(RX8, TX8, 48), rfl, rfl, rfl, by decide +kernel⟩
theorem ff8_3 : zFf RX8 8 3 (.array .int) := ⟨(RX8, TX8, 48), rfl, rfl, rfl, by decide +kernel⟩
theorem ff8_4 : zFf RX8 8 4 (.array .int) := ⟨(RX8, TX8, 48), rfl, rfl, rfl, by decide +kernel⟩
theorem ff8_5 : zFf RX8 8 5 (.array .boolean) := ⟨(RX8, TX8, 48), rfl, rfl, rfl, by decide +kernel⟩
theorem ff8_6 : zFf RX8 8 6 (.array .int) := ⟨(RX8, TX8, 48), rfl, rfl, rfl, by decide +kernel⟩
theorem fw8_7 : zFw 8 7 .int := ⟨(RX8, TX8, 48), rfl, rfl, by decide +kernel⟩
theorem ff8_8 : zFf RX8 8 8 (.array .int) := ⟨(RX8, TX8, 48), rfl, rfl, rfl, by decide +kernel⟩
theorem fw8_9 : zFw 8 9 .int := ⟨(RX8, TX8, 48), rfl, rfl, by decide +kernel⟩
theorem ff8_10 : zFf RX8 8 10 (.array .int) := ⟨(RX8, TX8, 48), rfl, rfl, rfl, by decide +kernel⟩
theorem fw8_11 : zFw 8 11 .int := ⟨(RX8, TX8, 48), rfl, rfl, by decide +kernel⟩
theorem ff8_12 : zFf RX8 8 12 (.array .int) := ⟨(RX8, TX8, 48), rfl, rfl, rfl, by decide +kernel⟩
theorem ff8_13 : zFf RX8 8 13 (.array .int) := ⟨(RX8, TX8, 48), rfl, rfl, rfl, by decide +kernel⟩
theorem ff8_14 : zFf RX8 8 14 (.array .int) := ⟨(RX8, TX8, 48), rfl, rfl, rfl, by decide +kernel⟩
theorem fw8_15 : zFw 8 15 .int := ⟨(RX8, TX8, 48), rfl, rfl, by decide +kernel⟩
theorem ff8_16 : zFf RX8 8 16 (.array .int) := ⟨(RX8, TX8, 48), rfl, rfl, rfl, by decide +kernel⟩
theorem ff8_17 : zFf RX8 8 17 (.array .int) := ⟨(RX8, TX8, 48), rfl, rfl, rfl, by decide +kernel⟩
theorem fw8_18 : zFw 8 18 .int := ⟨(RX8, TX8, 48), rfl, rfl, by decide +kernel⟩
theorem fw8_19 : zFw 8 19 .int := ⟨(RX8, TX8, 48), rfl, rfl, by decide +kernel⟩
theorem ff8_20 : zFf RX8 8 20 (.array .int) := ⟨(RX8, TX8, 48), rfl, rfl, rfl, by decide +kernel⟩
theorem ff8_21 : zFf RX8 8 21 (.array .int) := ⟨(RX8, TX8, 48), rfl, rfl, rfl, by decide +kernel⟩
theorem ff8_22 : zFf RX8 8 22 (.array .int) := ⟨(RX8, TX8, 48), rfl, rfl, rfl, by decide +kernel⟩
theorem ff8_23 : zFf RX8 8 23 (.array .int) := ⟨(RX8, TX8, 48), rfl, rfl, rfl, by decide +kernel⟩
theorem ff8_24 : zFf RX8 8 24 (.array .boolean) := ⟨(RX8, TX8, 48), rfl, rfl, rfl, by decide +kernel⟩
theorem ff8_25 : zFf RX8 8 25 (.array .int) := ⟨(RX8, TX8, 48), rfl, rfl, rfl, by decide +kernel⟩
theorem ff8_26 : zFf RX8 8 26 (.array .int) := ⟨(RX8, TX8, 48), rfl, rfl, rfl, by decide +kernel⟩
theorem ff8_27 : zFf RX8 8 27 (.array .int) := ⟨(RX8, TX8, 48), rfl, rfl, rfl, by decide +kernel⟩
theorem fw8_28 : zFw 8 28 .int := ⟨(RX8, TX8, 48), rfl, rfl, by decide +kernel⟩
theorem ff8_29 : zFf RX8 8 29 (.array .int) := ⟨(RX8, TX8, 48), rfl, rfl, rfl, by decide +kernel⟩
theorem ff8_30 : zFf RX8 8 30 (.array .int) := ⟨(RX8, TX8, 48), rfl, rfl, rfl, by decide +kernel⟩
theorem ff8_31 : zFf RX8 8 31 (.array .int) := ⟨(RX8, TX8, 48), rfl, rfl, rfl, by decide +kernel⟩
theorem ff8_32 : zFf RX8 8 32 (.array .int) := ⟨(RX8, TX8, 48), rfl, rfl, rfl, by decide +kernel⟩
theorem ff8_33 : zFf RX8 8 33 (.array .int) := ⟨(RX8, TX8, 48), rfl, rfl, rfl, by decide +kernel⟩
theorem ff8_34 : zFf RX8 8 34 (.array .int) := ⟨(RX8, TX8, 48), rfl, rfl, rfl, by decide +kernel⟩
theorem ff8_35 : zFf RX8 8 35 (.array .int) := ⟨(RX8, TX8, 48), rfl, rfl, rfl, by decide +kernel⟩
theorem ff8_36 : zFf RX8 8 36 (.array .int) := ⟨(RX8, TX8, 48), rfl, rfl, rfl, by decide +kernel⟩
theorem ff8_37 : zFf RX8 8 37 (.array .int) := ⟨(RX8, TX8, 48), rfl, rfl, rfl, by decide +kernel⟩
theorem fw8_38 : zFw 8 38 .int := ⟨(RX8, TX8, 48), rfl, rfl, by decide +kernel⟩
theorem fw8_39 : zFw 8 39 .int := ⟨(RX8, TX8, 48), rfl, rfl, by decide +kernel⟩
theorem ff8_40 : zFf RX8 8 40 (.array .int) := ⟨(RX8, TX8, 48), rfl, rfl, rfl, by decide +kernel⟩
theorem fw8_41 : zFw 8 41 .boolean := ⟨(RX8, TX8, 48), rfl, rfl, by decide +kernel⟩
theorem fw8_42 : zFw 8 42 .int := ⟨(RX8, TX8, 48), rfl, rfl, by decide +kernel⟩
theorem fw8_43 : zFw 8 43 .int := ⟨(RX8, TX8, 48), rfl, rfl, by decide +kernel⟩
theorem ff8_44 : zFf RX8 8 44 (.array .boolean) := ⟨(RX8, TX8, 48), rfl, rfl, rfl, by decide +kernel⟩
theorem ff8_45 : zFf RX8 8 45 (.array .boolean) := ⟨(RX8, TX8, 48), rfl, rfl, rfl, by decide +kernel⟩
theorem ff8_46 : zFf RX8 8 46 (.array .int) := ⟨(RX8, TX8, 48), rfl, rfl, rfl, by decide +kernel⟩
theorem ff8_47 : zFf RX8 8 47 (.array .int) := ⟨(RX8, TX8, 48), rfl, rfl, rfl, by decide +kernel⟩
abbrev mX0_init : zM := (yX0_init, cX0_init, 1, none)
abbrev mX0_isNoted : zM := (yX0_isNoted, cX0_isNoted, 2, (some .boolean))
abbrev mX0_add : zM := (yX0_add, cX0_add, 9, (some .int))
abbrev mX1_init : zM := (yX1_init, cX1_init, 1, none)
abbrev mX1_add : zM := (yX1_add, cX1_add, 3, (some .int))
abbrev mX1_tell : zM := (yX1_tell, cX1_tell, 2, (some .boolean))
abbrev mX2_init : zM := (yX2_init, cX2_init, 3, none)
abbrev mX2_totalOf : zM := (yX2_totalOf, cX2_totalOf, 4, (some .int))
abbrev mX2_middle : zM := (yX2_middle, cX2_middle, 4, (some .int))
abbrev mX2_sortMarks : zM := (yX2_sortMarks, cX2_sortMarks, 6, none)
abbrev mX2_nearest : zM := (yX2_nearest, cX2_nearest, 5, (some .int))
abbrev mX2_rankOf : zM := (yX2_rankOf, cX2_rankOf, 2, (some .int))
abbrev mX2_sharersOf : zM := (yX2_sharersOf, cX2_sharersOf, 2, (some .int))
abbrev mX2_prizeOf : zM := (yX2_prizeOf, cX2_prizeOf, 2, (some .int))
abbrev mX2_prizesLeft : zM := (yX2_prizesLeft, cX2_prizesLeft, 4, (some .int))
abbrev mX2_entryAt : zM := (yX2_entryAt, cX2_entryAt, 4, (some .int))
abbrev mX2_rankClass : zM := (yX2_rankClass, cX2_rankClass, 3, none)
abbrev mX2_betterThan : zM := (yX2_betterThan, cX2_betterThan, 4, (some .int))
abbrev mX2_isBetter : zM := (yX2_isBetter, cX2_isBetter, 3, (some .boolean))
abbrev mX2_sharers : zM := (yX2_sharers, cX2_sharers, 2, (some .int))
abbrev mX2_sharersAheadOf : zM := (yX2_sharersAheadOf, cX2_sharersAheadOf, 5, (some .int))
abbrev mX2_position : zM := (yX2_position, cX2_position, 2, (some .int))
abbrev mX2_share : zM := (yX2_share, cX2_share, 4, (some .int))
abbrev mX2_prizesFrom : zM := (yX2_prizesFrom, cX2_prizesFrom, 6, (some .int))
abbrev mX3_init : zM := (yX3_init, cX3_init, 1, none)
abbrev mX3_add : zM := (yX3_add, cX3_add, 5, (some .int))
abbrev mX3_holds : zM := (yX3_holds, cX3_holds, 6, (some .boolean))
abbrev mX3_latestIsOutOfRange : zM := (yX3_latestIsOutOfRange, cX3_latestIsOutOfRange, 3, (some .boolean))
abbrev mX4_init : zM := (yX4_init, cX4_init, 1, none)
abbrev mX4_start : zM := (yX4_start, cX4_start, 4, none)
abbrev mX4_indexOfSavepoint : zM := (yX4_indexOfSavepoint, cX4_indexOfSavepoint, 3, (some .int))
abbrev mX4_addSavepoint : zM := (yX4_addSavepoint, cX4_addSavepoint, 4, none)
abbrev mX4_removeSavepoint : zM := (yX4_removeSavepoint, cX4_removeSavepoint, 3, none)
abbrev mX4_addGuard : zM := (yX4_addGuard, cX4_addGuard, 3, none)
abbrev mX5_init : zM := (yX5_init, cX5_init, 2, none)
abbrev mX5_hasEvent : zM := (yX5_hasEvent, cX5_hasEvent, 2, (some .boolean))
abbrev mX5_append : zM := (yX5_append, cX5_append, 6, none)
abbrev mX5_cutTo : zM := (yX5_cutTo, cX5_cutTo, 3, none)
abbrev mX5_setCounting : zM := (yX5_setCounting, cX5_setCounting, 4, none)
abbrev mX5_markIndex : zM := (yX5_markIndex, cX5_markIndex, 3, (some .int))
abbrev mX5_markBy : zM := (yX5_markBy, cX5_markBy, 3, (some .int))
abbrev mX5_markAt : zM := (yX5_markAt, cX5_markAt, 3, (some .int))
abbrev mX5_remarkBits : zM := (yX5_remarkBits, cX5_remarkBits, 4, (some .int))
abbrev mX5_greatestMark : zM := (yX5_greatestMark, cX5_greatestMark, 4, (some .int))
abbrev mX5_leastMark : zM := (yX5_leastMark, cX5_leastMark, 4, (some .int))
abbrev mX5_sumOfMarks : zM := (yX5_sumOfMarks, cX5_sumOfMarks, 4, (some .int))
abbrev mX5_marksAboveZero : zM := (yX5_marksAboveZero, cX5_marksAboveZero, 4, (some .int))
abbrev mX5_timesPointed : zM := (yX5_timesPointed, cX5_timesPointed, 5, (some .int))
abbrev mX6_init : zM := (yX6_init, cX6_init, 1, none)
abbrev mX6_hasClass : zM := (yX6_hasClass, cX6_hasClass, 2, (some .boolean))
abbrev mX6_hasJudge : zM := (yX6_hasJudge, cX6_hasJudge, 2, (some .boolean))
abbrev mX6_hasEntry : zM := (yX6_hasEntry, cX6_hasEntry, 2, (some .boolean))
abbrev mX6_addClass : zM := (yX6_addClass, cX6_addClass, 5, (some .int))
abbrev mX6_addEntry : zM := (yX6_addEntry, cX6_addEntry, 3, (some .int))
abbrev mX6_setPrizes : zM := (yX6_setPrizes, cX6_setPrizes, 5, none)
abbrev mX6_entriesOf : zM := (yX6_entriesOf, cX6_entriesOf, 4, (some .int))
abbrev mX7_init : zM := (yX7_init, cX7_init, 2, none)
abbrev mX7_show : zM := (yX7_show, cX7_show, 3, (some .int))
abbrev mX7_entry : zM := (yX7_entry, cX7_entry, 2, (some .int))
abbrev mX7_prizes : zM := (yX7_prizes, cX7_prizes, 5, (some .int))
abbrev mX7_rule : zM := (yX7_rule, cX7_rule, 4, (some .int))
abbrev mX7_clearRules : zM := (yX7_clearRules, cX7_clearRules, 2, (some .int))
abbrev mX7_observe : zM := (yX7_observe, cX7_observe, 2, (some .int))
abbrev mX7_begin : zM := (yX7_begin, cX7_begin, 3, (some .int))
abbrev mX7_points : zM := (yX7_points, cX7_points, 3, (some .int))
abbrev mX7_deduct : zM := (yX7_deduct, cX7_deduct, 3, (some .int))
abbrev mX7_remark : zM := (yX7_remark, cX7_remark, 3, (some .int))
abbrev mX7_save : zM := (yX7_save, cX7_save, 2, (some .int))
abbrev mX7_back : zM := (yX7_back, cX7_back, 4, (some .int))
abbrev mX7_release : zM := (yX7_release, cX7_release, 3, (some .int))
abbrev mX7_guard : zM := (yX7_guard, cX7_guard, 4, (some .int))
abbrev mX7_end : zM := (yX7_end, cX7_end, 2, (some .int))
abbrev mX7_drop : zM := (yX7_drop, cX7_drop, 1, (some .int))
abbrev mX7_depth : zM := (yX7_depth, cX7_depth, 1, (some .int))
abbrev mX7_scoring : zM := (yX7_scoring, cX7_scoring, 4, (some .int))
abbrev mX7_told : zM := (yX7_told, cX7_told, 3, (some .int))
abbrev mX7_mark : zM := (yX7_mark, cX7_mark, 3, (some .int))
abbrev mX7_place : zM := (yX7_place, cX7_place, 3, (some .int))
abbrev mX7_close : zM := (yX7_close, cX7_close, 2, (some .int))
abbrev mX7_about : zM := (yX7_about, cX7_about, 3, (some .int))
abbrev mX7_uphold : zM := (yX7_uphold, cX7_uphold, 3, (some .int))
abbrev mX7_event : zM := (yX7_event, cX7_event, 3, (some .int))
abbrev mX7_failure : zM := (yX7_failure, cX7_failure, 3, (some .int))
abbrev mX7_is : zM := (yX7_is, cX7_is, 3, (some .int))
abbrev mX7_undo : zM := (yX7_undo, cX7_undo, 1, (some .int))
abbrev mX7_count : zM := (yX7_count, cX7_count, 2, (some .int))
abbrev mX7_digest : zM := (yX7_digest, cX7_digest, 5, (some .long))
abbrev mX7_digestOfEntries : zM := (yX7_digestOfEntries, cX7_digestOfEntries, 8, (some .long))
abbrev mX7_digestOfEvents : zM := (yX7_digestOfEvents, cX7_digestOfEvents, 6, (some .long))
abbrev mX7_isPrize : zM := (yX7_isPrize, cX7_isPrize, 1, (some .boolean))
abbrev mX7_isName : zM := (yX7_isName, cX7_isName, 1, (some .boolean))
abbrev mX7_isKind : zM := (yX7_isKind, cX7_isKind, 1, (some .boolean))
abbrev mX7_isRuleKind : zM := (yX7_isRuleKind, cX7_isRuleKind, 1, (some .boolean))
abbrev mX7_isOfKind : zM := (yX7_isOfKind, cX7_isOfKind, 4, (some .boolean))
abbrev mX7_innermost : zM := (yX7_innermost, cX7_innermost, 1, (some (.object "JudgesLedger$Scoring")))
abbrev mX7_savepointNamed : zM := (yX7_savepointNamed, cX7_savepointNamed, 2, (some .int))
abbrev mX7_refusalOfEvent : zM := (yX7_refusalOfEvent, cX7_refusalOfEvent, 1, (some .int))
abbrev mX7_appendEvent : zM := (yX7_appendEvent, cX7_appendEvent, 4, none)
abbrev mX7_dropInnermost : zM := (yX7_dropInnermost, cX7_dropInnermost, 1, none)
abbrev mX7_outcomeOf : zM := (yX7_outcomeOf, cX7_outcomeOf, 4, (some .int))
abbrev mX7_fail : zM := (yX7_fail, cX7_fail, 8, (some .int))
abbrev mX7_letGuardCatch : zM := (yX7_letGuardCatch, cX7_letGuardCatch, 5, (some .boolean))
abbrev mX7_suppressUnder : zM := (yX7_suppressUnder, cX7_suppressUnder, 4, none)
abbrev mX7_kindFurtherOut : zM := (yX7_kindFurtherOut, cX7_kindFurtherOut, 1, (some .int))
abbrev mX7_finishAct : zM := (yX7_finishAct, cX7_finishAct, 4, (some .int))
abbrev mX7_keepForUndo : zM := (yX7_keepForUndo, cX7_keepForUndo, 4, none)
abbrev mX8_init : zM := (yX8_init, cX8_init, 1, none)
abbrev mX8_in : zM := (yX8_in, cX8_in, 3, (some .boolean))
abbrev mX8_isClass : zM := (yX8_isClass, cX8_isClass, 2, (some .boolean))
abbrev mX8_isEntry : zM := (yX8_isEntry, cX8_isEntry, 2, (some .boolean))
abbrev mX8_isJudge : zM := (yX8_isJudge, cX8_isJudge, 2, (some .boolean))
abbrev mX8_show : zM := (yX8_show, cX8_show, 4, (some .int))
abbrev mX8_entry : zM := (yX8_entry, cX8_entry, 2, (some .int))
abbrev mX8_prizes : zM := (yX8_prizes, cX8_prizes, 5, (some .int))
abbrev mX8_rule : zM := (yX8_rule, cX8_rule, 5, (some .int))
abbrev mX8_clearRules : zM := (yX8_clearRules, cX8_clearRules, 2, (some .int))
abbrev mX8_observe : zM := (yX8_observe, cX8_observe, 2, (some .int))
abbrev mX8_counted : zM := (yX8_counted, cX8_counted, 3, none)
abbrev mX8_goBack : zM := (yX8_goBack, cX8_goBack, 3, none)
abbrev mX8_comes : zM := (yX8_comes, cX8_comes, 3, none)
abbrev mX8_markOf : zM := (yX8_markOf, cX8_markOf, 3, (some .int))
abbrev mX8_begin : zM := (yX8_begin, cX8_begin, 3, (some .int))
abbrev mX8_parent : zM := (yX8_parent, cX8_parent, 1, (some .int))
abbrev mX8_isOf : zM := (yX8_isOf, cX8_isOf, 3, (some .boolean))
abbrev mX8_holds : zM := (yX8_holds, cX8_holds, 11, (some .boolean))
abbrev mX8_judged : zM := (yX8_judged, cX8_judged, 3, (some .int))
abbrev mX8_note : zM := (yX8_note, cX8_note, 6, (some .int))
abbrev mX8_failed : zM := (yX8_failed, cX8_failed, 9, (some .int))
abbrev mX8_placeOf : zM := (yX8_placeOf, cX8_placeOf, 4, (some .int))
abbrev mX8_points : zM := (yX8_points, cX8_points, 2, (some .int))
abbrev mX8_deduct : zM := (yX8_deduct, cX8_deduct, 2, (some .int))
abbrev mX8_remark : zM := (yX8_remark, cX8_remark, 4, (some .int))
abbrev mX8_save : zM := (yX8_save, cX8_save, 5, (some .int))
abbrev mX8_back : zM := (yX8_back, cX8_back, 4, (some .int))
abbrev mX8_release : zM := (yX8_release, cX8_release, 3, (some .int))
abbrev mX8_guard : zM := (yX8_guard, cX8_guard, 4, (some .int))
abbrev mX8_keep : zM := (yX8_keep, cX8_keep, 3, none)
abbrev mX8_end : zM := (yX8_end, cX8_end, 4, (some .int))
abbrev mX8_drop : zM := (yX8_drop, cX8_drop, 1, (some .int))
abbrev mX8_depth : zM := (yX8_depth, cX8_depth, 1, (some .int))
abbrev mX8_scoring : zM := (yX8_scoring, cX8_scoring, 4, (some .int))
abbrev mX8_rounded : zM := (yX8_rounded, cX8_rounded, 4, (some .int))
abbrev mX8_totalOf : zM := (yX8_totalOf, cX8_totalOf, 8, (some .int))
abbrev mX8_above : zM := (yX8_above, cX8_above, 4, (some .int))
abbrev mX8_total : zM := (yX8_total, cX8_total, 2, none)
abbrev mX8_isBetter : zM := (yX8_isBetter, cX8_isBetter, 3, (some .boolean))
abbrev mX8_rankOf : zM := (yX8_rankOf, cX8_rankOf, 4, (some .int))
abbrev mX8_alike : zM := (yX8_alike, cX8_alike, 4, (some .int))
abbrev mX8_prizeOf : zM := (yX8_prizeOf, cX8_prizeOf, 7, (some .int))
abbrev mX8_told : zM := (yX8_told, cX8_told, 3, (some .int))
abbrev mX8_mark : zM := (yX8_mark, cX8_mark, 3, (some .int))
abbrev mX8_place : zM := (yX8_place, cX8_place, 6, (some .int))
abbrev mX8_close : zM := (yX8_close, cX8_close, 2, (some .int))
abbrev mX8_about : zM := (yX8_about, cX8_about, 5, (some .int))
abbrev mX8_uphold : zM := (yX8_uphold, cX8_uphold, 2, (some .int))
abbrev mX8_event : zM := (yX8_event, cX8_event, 3, (some .int))
abbrev mX8_failure : zM := (yX8_failure, cX8_failure, 3, (some .int))
abbrev mX8_is : zM := (yX8_is, cX8_is, 3, (some .int))
abbrev mX8_undo : zM := (yX8_undo, cX8_undo, 2, (some .int))
abbrev mX8_count : zM := (yX8_count, cX8_count, 2, (some .int))
abbrev mX8_digest : zM := (yX8_digest, cX8_digest, 5, (some .long))
abbrev mJ6_bitCount_0f7a4 : zM := (yJ6_bitCount_0f7a4, cJ6_bitCount_0f7a4, 1, (some .int))
abbrev mJ9_floorDiv_7cf53 : zM := (yJ9_floorDiv_7cf53, cJ9_floorDiv_7cf53, 3, (some .int))
abbrev mJ9_floorMod_7cf53 : zM := (yJ9_floorMod_7cf53, cJ9_floorMod_7cf53, 3, (some .int))
abbrev mJ9_max_7cf53 : zM := (yJ9_max_7cf53, cJ9_max_7cf53, 2, (some .int))
abbrev mJ9_min_7cf53 : zM := (yJ9_min_7cf53, cJ9_min_7cf53, 2, (some .int))
abbrev mL_law : zM := (yL_law, cL_law, 4, some .boolean)
theorem nX0_init : zCn mX0_init 0 := ⟨zT_mem 222 (by decide +kernel) rfl, zT_mem 51 (by decide +kernel) rfl, by decide +kernel, by decide +kernel, by decide +kernel⟩
theorem nX0_isNoted : zCn mX0_isNoted 1 := ⟨zT_mem 487 (by decide +kernel) rfl, zT_mem 51 (by decide +kernel) rfl, by decide +kernel, by decide +kernel, by decide +kernel⟩
theorem nX0_add : zCn mX0_add 6 := ⟨zT_mem 483 (by decide +kernel) rfl, zT_mem 51 (by decide +kernel) rfl, by decide +kernel, by decide +kernel, by decide +kernel⟩
theorem nX1_init : zCn mX1_init 0 := ⟨zT_mem 237 (by decide +kernel) rfl, zT_mem 52 (by decide +kernel) rfl, by decide +kernel, by decide +kernel, by decide +kernel⟩
theorem nX1_add : zCn mX1_add 1 := ⟨zT_mem 394 (by decide +kernel) rfl, zT_mem 52 (by decide +kernel) rfl, by decide +kernel, by decide +kernel, by decide +kernel⟩
theorem nX1_tell : zCn mX1_tell 1 := ⟨zT_mem 588 (by decide +kernel) rfl, zT_mem 52 (by decide +kernel) rfl, by decide +kernel, by decide +kernel, by decide +kernel⟩
theorem nX2_init : zCn mX2_init 2 := ⟨zT_mem 175 (by decide +kernel) rfl, zT_mem 49 (by decide +kernel) rfl, by decide +kernel, by decide +kernel, by decide +kernel⟩
theorem nX2_totalOf : zCn mX2_totalOf 1 := ⟨zT_mem 608 (by decide +kernel) rfl, zT_mem 49 (by decide +kernel) rfl, by decide +kernel, by decide +kernel, by decide +kernel⟩
theorem nX2_middle : zCn mX2_middle 2 := ⟨zT_mem 625 (by decide +kernel) rfl, zT_mem 49 (by decide +kernel) rfl, by decide +kernel, by decide +kernel, by decide +kernel⟩
theorem nX2_sortMarks : zCn mX2_sortMarks 2 := ⟨zT_mem 629 (by decide +kernel) rfl, zT_mem 49 (by decide +kernel) rfl, by decide +kernel, by decide +kernel, by decide +kernel⟩
theorem nX2_nearest : zCn mX2_nearest 2 := ⟨zT_mem 615 (by decide +kernel) rfl, zT_mem 49 (by decide +kernel) rfl, by decide +kernel, by decide +kernel, by decide +kernel⟩
theorem nX2_rankOf : zCn mX2_rankOf 1 := ⟨zT_mem 637 (by decide +kernel) rfl, zT_mem 49 (by decide +kernel) rfl, by decide +kernel, by decide +kernel, by decide +kernel⟩
theorem nX2_sharersOf : zCn mX2_sharersOf 1 := ⟨zT_mem 658 (by decide +kernel) rfl, zT_mem 49 (by decide +kernel) rfl, by decide +kernel, by decide +kernel, by decide +kernel⟩
theorem nX2_prizeOf : zCn mX2_prizeOf 1 := ⟨zT_mem 670 (by decide +kernel) rfl, zT_mem 49 (by decide +kernel) rfl, by decide +kernel, by decide +kernel, by decide +kernel⟩
theorem nX2_prizesLeft : zCn mX2_prizesLeft 1 := ⟨zT_mem 711 (by decide +kernel) rfl, zT_mem 49 (by decide +kernel) rfl, by decide +kernel, by decide +kernel, by decide +kernel⟩
theorem nX2_entryAt : zCn mX2_entryAt 2 := ⟨zT_mem 691 (by decide +kernel) rfl, zT_mem 49 (by decide +kernel) rfl, by decide +kernel, by decide +kernel, by decide +kernel⟩
theorem nX2_rankClass : zCn mX2_rankClass 1 := ⟨zT_mem 641 (by decide +kernel) rfl, zT_mem 49 (by decide +kernel) rfl, by decide +kernel, by decide +kernel, by decide +kernel⟩
theorem nX2_betterThan : zCn mX2_betterThan 1 := ⟨zT_mem 650 (by decide +kernel) rfl, zT_mem 49 (by decide +kernel) rfl, by decide +kernel, by decide +kernel, by decide +kernel⟩
theorem nX2_isBetter : zCn mX2_isBetter 2 := ⟨zT_mem 654 (by decide +kernel) rfl, zT_mem 49 (by decide +kernel) rfl, by decide +kernel, by decide +kernel, by decide +kernel⟩
theorem nX2_sharers : zCn mX2_sharers 1 := ⟨zT_mem 662 (by decide +kernel) rfl, zT_mem 49 (by decide +kernel) rfl, by decide +kernel, by decide +kernel, by decide +kernel⟩
theorem nX2_sharersAheadOf : zCn mX2_sharersAheadOf 2 := ⟨zT_mem 666 (by decide +kernel) rfl, zT_mem 49 (by decide +kernel) rfl, by decide +kernel, by decide +kernel, by decide +kernel⟩
theorem nX2_position : zCn mX2_position 1 := ⟨zT_mem 695 (by decide +kernel) rfl, zT_mem 49 (by decide +kernel) rfl, by decide +kernel, by decide +kernel, by decide +kernel⟩
theorem nX2_share : zCn mX2_share 1 := ⟨zT_mem 674 (by decide +kernel) rfl, zT_mem 49 (by decide +kernel) rfl, by decide +kernel, by decide +kernel, by decide +kernel⟩
theorem nX2_prizesFrom : zCn mX2_prizesFrom 3 := ⟨zT_mem 678 (by decide +kernel) rfl, zT_mem 49 (by decide +kernel) rfl, by decide +kernel, by decide +kernel, by decide +kernel⟩
theorem nX3_init : zCn mX3_init 0 := ⟨zT_mem 200 (by decide +kernel) rfl, zT_mem 50 (by decide +kernel) rfl, by decide +kernel, by decide +kernel, by decide +kernel⟩
theorem nX3_add : zCn mX3_add 3 := ⟨zT_mem 382 (by decide +kernel) rfl, zT_mem 50 (by decide +kernel) rfl, by decide +kernel, by decide +kernel, by decide +kernel⟩
theorem nX3_holds : zCn mX3_holds 3 := ⟨zT_mem 446 (by decide +kernel) rfl, zT_mem 50 (by decide +kernel) rfl, by decide +kernel, by decide +kernel, by decide +kernel⟩
theorem nX3_latestIsOutOfRange : zCn mX3_latestIsOutOfRange 2 := ⟨zT_mem 449 (by decide +kernel) rfl, zT_mem 50 (by decide +kernel) rfl, by decide +kernel, by decide +kernel, by decide +kernel⟩
theorem nX4_init : zCn mX4_init 0 := ⟨zT_mem 259 (by decide +kernel) rfl, zT_mem 53 (by decide +kernel) rfl, by decide +kernel, by decide +kernel, by decide +kernel⟩
theorem nX4_start : zCn mX4_start 3 := ⟨zT_mem 410 (by decide +kernel) rfl, zT_mem 53 (by decide +kernel) rfl, by decide +kernel, by decide +kernel, by decide +kernel⟩
theorem nX4_indexOfSavepoint : zCn mX4_indexOfSavepoint 1 := ⟨zT_mem 500 (by decide +kernel) rfl, zT_mem 53 (by decide +kernel) rfl, by decide +kernel, by decide +kernel, by decide +kernel⟩
theorem nX4_addSavepoint : zCn mX4_addSavepoint 2 := ⟨zT_mem 544 (by decide +kernel) rfl, zT_mem 53 (by decide +kernel) rfl, by decide +kernel, by decide +kernel, by decide +kernel⟩
theorem nX4_removeSavepoint : zCn mX4_removeSavepoint 1 := ⟨zT_mem 549 (by decide +kernel) rfl, zT_mem 53 (by decide +kernel) rfl, by decide +kernel, by decide +kernel, by decide +kernel⟩
theorem nX4_addGuard : zCn mX4_addGuard 2 := ⟨zT_mem 572 (by decide +kernel) rfl, zT_mem 53 (by decide +kernel) rfl, by decide +kernel, by decide +kernel, by decide +kernel⟩
theorem nX5_init : zCn mX5_init 1 := ⟨zT_mem 127 (by decide +kernel) rfl, zT_mem 48 (by decide +kernel) rfl, by decide +kernel, by decide +kernel, by decide +kernel⟩
theorem nX5_hasEvent : zCn mX5_hasEvent 1 := ⟨zT_mem 719 (by decide +kernel) rfl, zT_mem 48 (by decide +kernel) rfl, by decide +kernel, by decide +kernel, by decide +kernel⟩
theorem nX5_append : zCn mX5_append 4 := ⟨zT_mem 430 (by decide +kernel) rfl, zT_mem 48 (by decide +kernel) rfl, by decide +kernel, by decide +kernel, by decide +kernel⟩
theorem nX5_cutTo : zCn mX5_cutTo 1 := ⟨zT_mem 504 (by decide +kernel) rfl, zT_mem 48 (by decide +kernel) rfl, by decide +kernel, by decide +kernel, by decide +kernel⟩
theorem nX5_setCounting : zCn mX5_setCounting 2 := ⟨zT_mem 434 (by decide +kernel) rfl, zT_mem 48 (by decide +kernel) rfl, by decide +kernel, by decide +kernel, by decide +kernel⟩
theorem nX5_markIndex : zCn mX5_markIndex 2 := ⟨zT_mem 438 (by decide +kernel) rfl, zT_mem 48 (by decide +kernel) rfl, by decide +kernel, by decide +kernel, by decide +kernel⟩
theorem nX5_markBy : zCn mX5_markBy 2 := ⟨zT_mem 457 (by decide +kernel) rfl, zT_mem 48 (by decide +kernel) rfl, by decide +kernel, by decide +kernel, by decide +kernel⟩
theorem nX5_markAt : zCn mX5_markAt 2 := ⟨zT_mem 465 (by decide +kernel) rfl, zT_mem 48 (by decide +kernel) rfl, by decide +kernel, by decide +kernel, by decide +kernel⟩
theorem nX5_remarkBits : zCn mX5_remarkBits 1 := ⟨zT_mem 527 (by decide +kernel) rfl, zT_mem 48 (by decide +kernel) rfl, by decide +kernel, by decide +kernel, by decide +kernel⟩
theorem nX5_greatestMark : zCn mX5_greatestMark 1 := ⟨zT_mem 461 (by decide +kernel) rfl, zT_mem 48 (by decide +kernel) rfl, by decide +kernel, by decide +kernel, by decide +kernel⟩
theorem nX5_leastMark : zCn mX5_leastMark 1 := ⟨zT_mem 472 (by decide +kernel) rfl, zT_mem 48 (by decide +kernel) rfl, by decide +kernel, by decide +kernel, by decide +kernel⟩
theorem nX5_sumOfMarks : zCn mX5_sumOfMarks 1 := ⟨zT_mem 612 (by decide +kernel) rfl, zT_mem 48 (by decide +kernel) rfl, by decide +kernel, by decide +kernel, by decide +kernel⟩
theorem nX5_marksAboveZero : zCn mX5_marksAboveZero 1 := ⟨zT_mem 646 (by decide +kernel) rfl, zT_mem 48 (by decide +kernel) rfl, by decide +kernel, by decide +kernel, by decide +kernel⟩
theorem nX5_timesPointed : zCn mX5_timesPointed 2 := ⟨zT_mem 453 (by decide +kernel) rfl, zT_mem 48 (by decide +kernel) rfl, by decide +kernel, by decide +kernel, by decide +kernel⟩
theorem nX6_init : zCn mX6_init 0 := ⟨zT_mem 69 (by decide +kernel) rfl, zT_mem 47 (by decide +kernel) rfl, by decide +kernel, by decide +kernel, by decide +kernel⟩
theorem nX6_hasClass : zCn mX6_hasClass 1 := ⟨zT_mem 355 (by decide +kernel) rfl, zT_mem 47 (by decide +kernel) rfl, by decide +kernel, by decide +kernel, by decide +kernel⟩
theorem nX6_hasJudge : zCn mX6_hasJudge 1 := ⟨zT_mem 402 (by decide +kernel) rfl, zT_mem 47 (by decide +kernel) rfl, by decide +kernel, by decide +kernel, by decide +kernel⟩
theorem nX6_hasEntry : zCn mX6_hasEntry 1 := ⟨zT_mem 406 (by decide +kernel) rfl, zT_mem 47 (by decide +kernel) rfl, by decide +kernel, by decide +kernel, by decide +kernel⟩
theorem nX6_addClass : zCn mX6_addClass 2 := ⟨zT_mem 347 (by decide +kernel) rfl, zT_mem 47 (by decide +kernel) rfl, by decide +kernel, by decide +kernel, by decide +kernel⟩
theorem nX6_addEntry : zCn mX6_addEntry 1 := ⟨zT_mem 359 (by decide +kernel) rfl, zT_mem 47 (by decide +kernel) rfl, by decide +kernel, by decide +kernel, by decide +kernel⟩
theorem nX6_setPrizes : zCn mX6_setPrizes 4 := ⟨zT_mem 371 (by decide +kernel) rfl, zT_mem 47 (by decide +kernel) rfl, by decide +kernel, by decide +kernel, by decide +kernel⟩
theorem nX6_entriesOf : zCn mX6_entriesOf 1 := ⟨zT_mem 703 (by decide +kernel) rfl, zT_mem 47 (by decide +kernel) rfl, by decide +kernel, by decide +kernel, by decide +kernel⟩
theorem nX7_init : zCn mX7_init 0 := ⟨zT_mem 61 (by decide +kernel) rfl, zT_mem 46 (by decide +kernel) rfl, by decide +kernel, by decide +kernel, by decide +kernel⟩
theorem nX7_show : zCn mX7_show 2 := ⟨zT_mem 343 (by decide +kernel) rfl, zT_mem 46 (by decide +kernel) rfl, by decide +kernel, by decide +kernel, by decide +kernel⟩
theorem nX7_entry : zCn mX7_entry 1 := ⟨zT_mem 351 (by decide +kernel) rfl, zT_mem 46 (by decide +kernel) rfl, by decide +kernel, by decide +kernel, by decide +kernel⟩
theorem nX7_prizes : zCn mX7_prizes 4 := ⟨zT_mem 363 (by decide +kernel) rfl, zT_mem 46 (by decide +kernel) rfl, by decide +kernel, by decide +kernel, by decide +kernel⟩
theorem nX7_rule : zCn mX7_rule 3 := ⟨zT_mem 375 (by decide +kernel) rfl, zT_mem 46 (by decide +kernel) rfl, by decide +kernel, by decide +kernel, by decide +kernel⟩
theorem nX7_clearRules : zCn mX7_clearRules 0 := ⟨zT_mem 386 (by decide +kernel) rfl, zT_mem 46 (by decide +kernel) rfl, by decide +kernel, by decide +kernel, by decide +kernel⟩
theorem nX7_observe : zCn mX7_observe 1 := ⟨zT_mem 390 (by decide +kernel) rfl, zT_mem 46 (by decide +kernel) rfl, by decide +kernel, by decide +kernel, by decide +kernel⟩
theorem nX7_begin : zCn mX7_begin 2 := ⟨zT_mem 398 (by decide +kernel) rfl, zT_mem 46 (by decide +kernel) rfl, by decide +kernel, by decide +kernel, by decide +kernel⟩
theorem nX7_points : zCn mX7_points 1 := ⟨zT_mem 414 (by decide +kernel) rfl, zT_mem 46 (by decide +kernel) rfl, by decide +kernel, by decide +kernel, by decide +kernel⟩
theorem nX7_deduct : zCn mX7_deduct 1 := ⟨zT_mem 519 (by decide +kernel) rfl, zT_mem 46 (by decide +kernel) rfl, by decide +kernel, by decide +kernel, by decide +kernel⟩
theorem nX7_remark : zCn mX7_remark 1 := ⟨zT_mem 523 (by decide +kernel) rfl, zT_mem 46 (by decide +kernel) rfl, by decide +kernel, by decide +kernel, by decide +kernel⟩
theorem nX7_save : zCn mX7_save 1 := ⟨zT_mem 537 (by decide +kernel) rfl, zT_mem 46 (by decide +kernel) rfl, by decide +kernel, by decide +kernel, by decide +kernel⟩
theorem nX7_back : zCn mX7_back 1 := ⟨zT_mem 553 (by decide +kernel) rfl, zT_mem 46 (by decide +kernel) rfl, by decide +kernel, by decide +kernel, by decide +kernel⟩
theorem nX7_release : zCn mX7_release 1 := ⟨zT_mem 561 (by decide +kernel) rfl, zT_mem 46 (by decide +kernel) rfl, by decide +kernel, by decide +kernel, by decide +kernel⟩
theorem nX7_guard : zCn mX7_guard 2 := ⟨zT_mem 565 (by decide +kernel) rfl, zT_mem 46 (by decide +kernel) rfl, by decide +kernel, by decide +kernel, by decide +kernel⟩
theorem nX7_end : zCn mX7_end 0 := ⟨zT_mem 576 (by decide +kernel) rfl, zT_mem 46 (by decide +kernel) rfl, by decide +kernel, by decide +kernel, by decide +kernel⟩
theorem nX7_drop : zCn mX7_drop 0 := ⟨zT_mem 592 (by decide +kernel) rfl, zT_mem 46 (by decide +kernel) rfl, by decide +kernel, by decide +kernel, by decide +kernel⟩
theorem nX7_depth : zCn mX7_depth 0 := ⟨zT_mem 596 (by decide +kernel) rfl, zT_mem 46 (by decide +kernel) rfl, by decide +kernel, by decide +kernel, by decide +kernel⟩
theorem nX7_scoring : zCn mX7_scoring 2 := ⟨zT_mem 600 (by decide +kernel) rfl, zT_mem 46 (by decide +kernel) rfl, by decide +kernel, by decide +kernel, by decide +kernel⟩
theorem nX7_told : zCn mX7_told 2 := ⟨zT_mem 604 (by decide +kernel) rfl, zT_mem 46 (by decide +kernel) rfl, by decide +kernel, by decide +kernel, by decide +kernel⟩
theorem nX7_mark : zCn mX7_mark 2 := ⟨zT_mem 682 (by decide +kernel) rfl, zT_mem 46 (by decide +kernel) rfl, by decide +kernel, by decide +kernel, by decide +kernel⟩
theorem nX7_place : zCn mX7_place 2 := ⟨zT_mem 687 (by decide +kernel) rfl, zT_mem 46 (by decide +kernel) rfl, by decide +kernel, by decide +kernel, by decide +kernel⟩
theorem nX7_close : zCn mX7_close 1 := ⟨zT_mem 699 (by decide +kernel) rfl, zT_mem 46 (by decide +kernel) rfl, by decide +kernel, by decide +kernel, by decide +kernel⟩
theorem nX7_about : zCn mX7_about 2 := ⟨zT_mem 707 (by decide +kernel) rfl, zT_mem 46 (by decide +kernel) rfl, by decide +kernel, by decide +kernel, by decide +kernel⟩
theorem nX7_uphold : zCn mX7_uphold 1 := ⟨zT_mem 715 (by decide +kernel) rfl, zT_mem 46 (by decide +kernel) rfl, by decide +kernel, by decide +kernel, by decide +kernel⟩
theorem nX7_event : zCn mX7_event 2 := ⟨zT_mem 724 (by decide +kernel) rfl, zT_mem 46 (by decide +kernel) rfl, by decide +kernel, by decide +kernel, by decide +kernel⟩
theorem nX7_failure : zCn mX7_failure 2 := ⟨zT_mem 728 (by decide +kernel) rfl, zT_mem 46 (by decide +kernel) rfl, by decide +kernel, by decide +kernel, by decide +kernel⟩
theorem nX7_is : zCn mX7_is 2 := ⟨zT_mem 733 (by decide +kernel) rfl, zT_mem 46 (by decide +kernel) rfl, by decide +kernel, by decide +kernel, by decide +kernel⟩
theorem nX7_undo : zCn mX7_undo 0 := ⟨zT_mem 737 (by decide +kernel) rfl, zT_mem 46 (by decide +kernel) rfl, by decide +kernel, by decide +kernel, by decide +kernel⟩
theorem nX7_count : zCn mX7_count 1 := ⟨zT_mem 741 (by decide +kernel) rfl, zT_mem 46 (by decide +kernel) rfl, by decide +kernel, by decide +kernel, by decide +kernel⟩
theorem nX7_digest : zCn mX7_digest 0 := ⟨zT_mem 745 (by decide +kernel) rfl, zT_mem 46 (by decide +kernel) rfl, by decide +kernel, by decide +kernel, by decide +kernel⟩
theorem nX7_digestOfEntries : zCn mX7_digestOfEntries 1 := ⟨zT_mem 750 (by decide +kernel) rfl, zT_mem 46 (by decide +kernel) rfl, by decide +kernel, by decide +kernel, by decide +kernel⟩
theorem nX7_digestOfEvents : zCn mX7_digestOfEvents 1 := ⟨zT_mem 756 (by decide +kernel) rfl, zT_mem 46 (by decide +kernel) rfl, by decide +kernel, by decide +kernel, by decide +kernel⟩
theorem nX7_isPrize : zCn mX7_isPrize 1 := ⟨zT_mem 366 (by decide +kernel) rfl, zT_mem 46 (by decide +kernel) rfl, by decide +kernel, by decide +kernel, by decide +kernel⟩
theorem nX7_isName : zCn mX7_isName 1 := ⟨zT_mem 540 (by decide +kernel) rfl, zT_mem 46 (by decide +kernel) rfl, by decide +kernel, by decide +kernel, by decide +kernel⟩
theorem nX7_isKind : zCn mX7_isKind 1 := ⟨zT_mem 568 (by decide +kernel) rfl, zT_mem 46 (by decide +kernel) rfl, by decide +kernel, by decide +kernel, by decide +kernel⟩
theorem nX7_isRuleKind : zCn mX7_isRuleKind 1 := ⟨zT_mem 378 (by decide +kernel) rfl, zT_mem 46 (by decide +kernel) rfl, by decide +kernel, by decide +kernel, by decide +kernel⟩
theorem nX7_isOfKind : zCn mX7_isOfKind 2 := ⟨zT_mem 494 (by decide +kernel) rfl, zT_mem 46 (by decide +kernel) rfl, by decide +kernel, by decide +kernel, by decide +kernel⟩
theorem nX7_innermost : zCn mX7_innermost 0 := ⟨zT_mem 426 (by decide +kernel) rfl, zT_mem 46 (by decide +kernel) rfl, by decide +kernel, by decide +kernel, by decide +kernel⟩
theorem nX7_savepointNamed : zCn mX7_savepointNamed 1 := ⟨zT_mem 557 (by decide +kernel) rfl, zT_mem 46 (by decide +kernel) rfl, by decide +kernel, by decide +kernel, by decide +kernel⟩
theorem nX7_refusalOfEvent : zCn mX7_refusalOfEvent 0 := ⟨zT_mem 418 (by decide +kernel) rfl, zT_mem 46 (by decide +kernel) rfl, by decide +kernel, by decide +kernel, by decide +kernel⟩
theorem nX7_appendEvent : zCn mX7_appendEvent 2 := ⟨zT_mem 422 (by decide +kernel) rfl, zT_mem 46 (by decide +kernel) rfl, by decide +kernel, by decide +kernel, by decide +kernel⟩
theorem nX7_dropInnermost : zCn mX7_dropInnermost 0 := ⟨zT_mem 512 (by decide +kernel) rfl, zT_mem 46 (by decide +kernel) rfl, by decide +kernel, by decide +kernel, by decide +kernel⟩
theorem nX7_outcomeOf : zCn mX7_outcomeOf 1 := ⟨zT_mem 442 (by decide +kernel) rfl, zT_mem 46 (by decide +kernel) rfl, by decide +kernel, by decide +kernel, by decide +kernel⟩
theorem nX7_fail : zCn mX7_fail 2 := ⟨zT_mem 479 (by decide +kernel) rfl, zT_mem 46 (by decide +kernel) rfl, by decide +kernel, by decide +kernel, by decide +kernel⟩
theorem nX7_letGuardCatch : zCn mX7_letGuardCatch 1 := ⟨zT_mem 491 (by decide +kernel) rfl, zT_mem 46 (by decide +kernel) rfl, by decide +kernel, by decide +kernel, by decide +kernel⟩
theorem nX7_suppressUnder : zCn mX7_suppressUnder 1 := ⟨zT_mem 508 (by decide +kernel) rfl, zT_mem 46 (by decide +kernel) rfl, by decide +kernel, by decide +kernel, by decide +kernel⟩
theorem nX7_kindFurtherOut : zCn mX7_kindFurtherOut 1 := ⟨zT_mem 515 (by decide +kernel) rfl, zT_mem 46 (by decide +kernel) rfl, by decide +kernel, by decide +kernel, by decide +kernel⟩
theorem nX7_finishAct : zCn mX7_finishAct 1 := ⟨zT_mem 580 (by decide +kernel) rfl, zT_mem 46 (by decide +kernel) rfl, by decide +kernel, by decide +kernel, by decide +kernel⟩
theorem nX7_keepForUndo : zCn mX7_keepForUndo 3 := ⟨zT_mem 584 (by decide +kernel) rfl, zT_mem 46 (by decide +kernel) rfl, by decide +kernel, by decide +kernel, by decide +kernel⟩
theorem nX8_init : zCn mX8_init 0 := ⟨zT_mem 761 (by decide +kernel) rfl, zT_mem 54 (by decide +kernel) rfl, by decide +kernel, by decide +kernel, by decide +kernel⟩
theorem nX8_in : zCn mX8_in 3 := ⟨zT_mem 914 (by decide +kernel) rfl, zT_mem 54 (by decide +kernel) rfl, by decide +kernel, by decide +kernel, by decide +kernel⟩
theorem nX8_isClass : zCn mX8_isClass 1 := ⟨zT_mem 922 (by decide +kernel) rfl, zT_mem 54 (by decide +kernel) rfl, by decide +kernel, by decide +kernel, by decide +kernel⟩
theorem nX8_isEntry : zCn mX8_isEntry 1 := ⟨zT_mem 951 (by decide +kernel) rfl, zT_mem 54 (by decide +kernel) rfl, by decide +kernel, by decide +kernel, by decide +kernel⟩
theorem nX8_isJudge : zCn mX8_isJudge 1 := ⟨zT_mem 947 (by decide +kernel) rfl, zT_mem 54 (by decide +kernel) rfl, by decide +kernel, by decide +kernel, by decide +kernel⟩
theorem nX8_show : zCn mX8_show 2 := ⟨zT_mem 911 (by decide +kernel) rfl, zT_mem 54 (by decide +kernel) rfl, by decide +kernel, by decide +kernel, by decide +kernel⟩
theorem nX8_entry : zCn mX8_entry 1 := ⟨zT_mem 918 (by decide +kernel) rfl, zT_mem 54 (by decide +kernel) rfl, by decide +kernel, by decide +kernel, by decide +kernel⟩
theorem nX8_prizes : zCn mX8_prizes 4 := ⟨zT_mem 926 (by decide +kernel) rfl, zT_mem 54 (by decide +kernel) rfl, by decide +kernel, by decide +kernel, by decide +kernel⟩
theorem nX8_rule : zCn mX8_rule 3 := ⟨zT_mem 931 (by decide +kernel) rfl, zT_mem 54 (by decide +kernel) rfl, by decide +kernel, by decide +kernel, by decide +kernel⟩
theorem nX8_clearRules : zCn mX8_clearRules 0 := ⟨zT_mem 935 (by decide +kernel) rfl, zT_mem 54 (by decide +kernel) rfl, by decide +kernel, by decide +kernel, by decide +kernel⟩
theorem nX8_observe : zCn mX8_observe 1 := ⟨zT_mem 939 (by decide +kernel) rfl, zT_mem 54 (by decide +kernel) rfl, by decide +kernel, by decide +kernel, by decide +kernel⟩
theorem nX8_counted : zCn mX8_counted 1 := ⟨zT_mem 963 (by decide +kernel) rfl, zT_mem 54 (by decide +kernel) rfl, by decide +kernel, by decide +kernel, by decide +kernel⟩
theorem nX8_goBack : zCn mX8_goBack 1 := ⟨zT_mem 997 (by decide +kernel) rfl, zT_mem 54 (by decide +kernel) rfl, by decide +kernel, by decide +kernel, by decide +kernel⟩
theorem nX8_comes : zCn mX8_comes 2 := ⟨zT_mem 959 (by decide +kernel) rfl, zT_mem 54 (by decide +kernel) rfl, by decide +kernel, by decide +kernel, by decide +kernel⟩
theorem nX8_markOf : zCn mX8_markOf 2 := ⟨zT_mem 975 (by decide +kernel) rfl, zT_mem 54 (by decide +kernel) rfl, by decide +kernel, by decide +kernel, by decide +kernel⟩
theorem nX8_begin : zCn mX8_begin 2 := ⟨zT_mem 943 (by decide +kernel) rfl, zT_mem 54 (by decide +kernel) rfl, by decide +kernel, by decide +kernel, by decide +kernel⟩
theorem nX8_parent : zCn mX8_parent 1 := ⟨zT_mem 989 (by decide +kernel) rfl, zT_mem 54 (by decide +kernel) rfl, by decide +kernel, by decide +kernel, by decide +kernel⟩
theorem nX8_isOf : zCn mX8_isOf 2 := ⟨zT_mem 986 (by decide +kernel) rfl, zT_mem 54 (by decide +kernel) rfl, by decide +kernel, by decide +kernel, by decide +kernel⟩
theorem nX8_holds : zCn mX8_holds 1 := ⟨zT_mem 971 (by decide +kernel) rfl, zT_mem 54 (by decide +kernel) rfl, by decide +kernel, by decide +kernel, by decide +kernel⟩
theorem nX8_judged : zCn mX8_judged 1 := ⟨zT_mem 967 (by decide +kernel) rfl, zT_mem 54 (by decide +kernel) rfl, by decide +kernel, by decide +kernel, by decide +kernel⟩
theorem nX8_note : zCn mX8_note 4 := ⟨zT_mem 983 (by decide +kernel) rfl, zT_mem 54 (by decide +kernel) rfl, by decide +kernel, by decide +kernel, by decide +kernel⟩
theorem nX8_failed : zCn mX8_failed 2 := ⟨zT_mem 979 (by decide +kernel) rfl, zT_mem 54 (by decide +kernel) rfl, by decide +kernel, by decide +kernel, by decide +kernel⟩
theorem nX8_placeOf : zCn mX8_placeOf 1 := ⟨zT_mem 993 (by decide +kernel) rfl, zT_mem 54 (by decide +kernel) rfl, by decide +kernel, by decide +kernel, by decide +kernel⟩
theorem nX8_points : zCn mX8_points 1 := ⟨zT_mem 955 (by decide +kernel) rfl, zT_mem 54 (by decide +kernel) rfl, by decide +kernel, by decide +kernel, by decide +kernel⟩
theorem nX8_deduct : zCn mX8_deduct 1 := ⟨zT_mem 1001 (by decide +kernel) rfl, zT_mem 54 (by decide +kernel) rfl, by decide +kernel, by decide +kernel, by decide +kernel⟩
theorem nX8_remark : zCn mX8_remark 1 := ⟨zT_mem 1005 (by decide +kernel) rfl, zT_mem 54 (by decide +kernel) rfl, by decide +kernel, by decide +kernel, by decide +kernel⟩
theorem nX8_save : zCn mX8_save 1 := ⟨zT_mem 1009 (by decide +kernel) rfl, zT_mem 54 (by decide +kernel) rfl, by decide +kernel, by decide +kernel, by decide +kernel⟩
theorem nX8_back : zCn mX8_back 1 := ⟨zT_mem 1013 (by decide +kernel) rfl, zT_mem 54 (by decide +kernel) rfl, by decide +kernel, by decide +kernel, by decide +kernel⟩
theorem nX8_release : zCn mX8_release 1 := ⟨zT_mem 1017 (by decide +kernel) rfl, zT_mem 54 (by decide +kernel) rfl, by decide +kernel, by decide +kernel, by decide +kernel⟩
theorem nX8_guard : zCn mX8_guard 2 := ⟨zT_mem 1021 (by decide +kernel) rfl, zT_mem 54 (by decide +kernel) rfl, by decide +kernel, by decide +kernel, by decide +kernel⟩
theorem nX8_keep : zCn mX8_keep 1 := ⟨zT_mem 1029 (by decide +kernel) rfl, zT_mem 54 (by decide +kernel) rfl, by decide +kernel, by decide +kernel, by decide +kernel⟩
theorem nX8_end : zCn mX8_end 0 := ⟨zT_mem 1025 (by decide +kernel) rfl, zT_mem 54 (by decide +kernel) rfl, by decide +kernel, by decide +kernel, by decide +kernel⟩
theorem nX8_drop : zCn mX8_drop 0 := ⟨zT_mem 1033 (by decide +kernel) rfl, zT_mem 54 (by decide +kernel) rfl, by decide +kernel, by decide +kernel, by decide +kernel⟩
theorem nX8_depth : zCn mX8_depth 0 := ⟨zT_mem 1037 (by decide +kernel) rfl, zT_mem 54 (by decide +kernel) rfl, by decide +kernel, by decide +kernel, by decide +kernel⟩
theorem nX8_scoring : zCn mX8_scoring 2 := ⟨zT_mem 1041 (by decide +kernel) rfl, zT_mem 54 (by decide +kernel) rfl, by decide +kernel, by decide +kernel, by decide +kernel⟩
theorem nX8_rounded : zCn mX8_rounded 2 := ⟨zT_mem 1056 (by decide +kernel) rfl, zT_mem 54 (by decide +kernel) rfl, by decide +kernel, by decide +kernel, by decide +kernel⟩
theorem nX8_totalOf : zCn mX8_totalOf 1 := ⟨zT_mem 1053 (by decide +kernel) rfl, zT_mem 54 (by decide +kernel) rfl, by decide +kernel, by decide +kernel, by decide +kernel⟩
theorem nX8_above : zCn mX8_above 1 := ⟨zT_mem 1068 (by decide +kernel) rfl, zT_mem 54 (by decide +kernel) rfl, by decide +kernel, by decide +kernel, by decide +kernel⟩
theorem nX8_total : zCn mX8_total 0 := ⟨zT_mem 1049 (by decide +kernel) rfl, zT_mem 54 (by decide +kernel) rfl, by decide +kernel, by decide +kernel, by decide +kernel⟩
theorem nX8_isBetter : zCn mX8_isBetter 2 := ⟨zT_mem 1064 (by decide +kernel) rfl, zT_mem 54 (by decide +kernel) rfl, by decide +kernel, by decide +kernel, by decide +kernel⟩
theorem nX8_rankOf : zCn mX8_rankOf 1 := ⟨zT_mem 1060 (by decide +kernel) rfl, zT_mem 54 (by decide +kernel) rfl, by decide +kernel, by decide +kernel, by decide +kernel⟩
theorem nX8_alike : zCn mX8_alike 1 := ⟨zT_mem 1072 (by decide +kernel) rfl, zT_mem 54 (by decide +kernel) rfl, by decide +kernel, by decide +kernel, by decide +kernel⟩
theorem nX8_prizeOf : zCn mX8_prizeOf 1 := ⟨zT_mem 1076 (by decide +kernel) rfl, zT_mem 54 (by decide +kernel) rfl, by decide +kernel, by decide +kernel, by decide +kernel⟩
theorem nX8_told : zCn mX8_told 2 := ⟨zT_mem 1045 (by decide +kernel) rfl, zT_mem 54 (by decide +kernel) rfl, by decide +kernel, by decide +kernel, by decide +kernel⟩
theorem nX8_mark : zCn mX8_mark 2 := ⟨zT_mem 1080 (by decide +kernel) rfl, zT_mem 54 (by decide +kernel) rfl, by decide +kernel, by decide +kernel, by decide +kernel⟩
theorem nX8_place : zCn mX8_place 2 := ⟨zT_mem 1084 (by decide +kernel) rfl, zT_mem 54 (by decide +kernel) rfl, by decide +kernel, by decide +kernel, by decide +kernel⟩
theorem nX8_close : zCn mX8_close 1 := ⟨zT_mem 1088 (by decide +kernel) rfl, zT_mem 54 (by decide +kernel) rfl, by decide +kernel, by decide +kernel, by decide +kernel⟩
theorem nX8_about : zCn mX8_about 2 := ⟨zT_mem 1092 (by decide +kernel) rfl, zT_mem 54 (by decide +kernel) rfl, by decide +kernel, by decide +kernel, by decide +kernel⟩
theorem nX8_uphold : zCn mX8_uphold 1 := ⟨zT_mem 1096 (by decide +kernel) rfl, zT_mem 54 (by decide +kernel) rfl, by decide +kernel, by decide +kernel, by decide +kernel⟩
theorem nX8_event : zCn mX8_event 2 := ⟨zT_mem 1100 (by decide +kernel) rfl, zT_mem 54 (by decide +kernel) rfl, by decide +kernel, by decide +kernel, by decide +kernel⟩
theorem nX8_failure : zCn mX8_failure 2 := ⟨zT_mem 1104 (by decide +kernel) rfl, zT_mem 54 (by decide +kernel) rfl, by decide +kernel, by decide +kernel, by decide +kernel⟩
theorem nX8_is : zCn mX8_is 2 := ⟨zT_mem 1108 (by decide +kernel) rfl, zT_mem 54 (by decide +kernel) rfl, by decide +kernel, by decide +kernel, by decide +kernel⟩
theorem nX8_undo : zCn mX8_undo 0 := ⟨zT_mem 1112 (by decide +kernel) rfl, zT_mem 54 (by decide +kernel) rfl, by decide +kernel, by decide +kernel, by decide +kernel⟩
theorem nX8_count : zCn mX8_count 1 := ⟨zT_mem 1116 (by decide +kernel) rfl, zT_mem 54 (by decide +kernel) rfl, by decide +kernel, by decide +kernel, by decide +kernel⟩
theorem nX8_digest : zCn mX8_digest 0 := ⟨zT_mem 1120 (by decide +kernel) rfl, zT_mem 54 (by decide +kernel) rfl, by decide +kernel, by decide +kernel, by decide +kernel⟩
theorem nJ6_bitCount_0f7a4 : zCn mJ6_bitCount_0f7a4 1 := ⟨zT_mem 530 (by decide +kernel) rfl, zT_mem 56 (by decide +kernel) rfl, by decide +kernel, by decide +kernel, by decide +kernel⟩
theorem nJ9_floorDiv_7cf53 : zCn mJ9_floorDiv_7cf53 2 := ⟨zT_mem 618 (by decide +kernel) rfl, zT_mem 55 (by decide +kernel) rfl, by decide +kernel, by decide +kernel, by decide +kernel⟩
theorem nJ9_floorMod_7cf53 : zCn mJ9_floorMod_7cf53 2 := ⟨zT_mem 621 (by decide +kernel) rfl, zT_mem 55 (by decide +kernel) rfl, by decide +kernel, by decide +kernel, by decide +kernel⟩
theorem nJ9_max_7cf53 : zCn mJ9_max_7cf53 2 := ⟨zT_mem 468 (by decide +kernel) rfl, zT_mem 55 (by decide +kernel) rfl, by decide +kernel, by decide +kernel, by decide +kernel⟩
theorem nJ9_min_7cf53 : zCn mJ9_min_7cf53 2 := ⟨zT_mem 475 (by decide +kernel) rfl, zT_mem 55 (by decide +kernel) rfl, by decide +kernel, by decide +kernel, by decide +kernel⟩
theorem kX7_11 : zCj RX7 11 mX6_init 0 RX7 := ⟨nX6_init, by decide +kernel, zT_mem 68 (by decide +kernel) rfl, rfl, rfl⟩
theorem kX7_18 : zCi RX7 18 mX5_init 1 := ⟨nX5_init, zT_mem 125 (by decide +kernel) rfl, zT_mem 126 (by decide +kernel) rfl, rfl, rfl⟩
theorem kX7_27 : zCi RX7 27 mX2_init 2 := ⟨nX2_init, zT_mem 173 (by decide +kernel) rfl, zT_mem 174 (by decide +kernel) rfl, rfl, rfl⟩
theorem kX7_36 : zCj RX7 36 mX3_init 0 RX7 := ⟨nX3_init, by decide +kernel, zT_mem 199 (by decide +kernel) rfl, rfl, rfl⟩
theorem kX7_43 : zCj RX7 43 mX0_init 0 RX7 := ⟨nX0_init, by decide +kernel, zT_mem 221 (by decide +kernel) rfl, rfl, rfl⟩
theorem kX7_50 : zCj RX7 50 mX1_init 0 RX7 := ⟨nX1_init, by decide +kernel, zT_mem 236 (by decide +kernel) rfl, rfl, rfl⟩
theorem kX7_81 : zCj RX7 81 mX4_init 0 RX7 := ⟨nX4_init, by decide +kernel, zT_mem 258 (by decide +kernel) rfl, rfl, rfl⟩
theorem kX7_85 : zCv RX7 85 mX6_addClass 2 6 := ⟨nX6_addClass, zT_mem 344 (by decide +kernel) rfl, zT_mem 345 (by decide +kernel) rfl, zT_mem 346 (by decide +kernel) rfl, by decide, (RX6, TX6, 10), rfl, rfl⟩
theorem kX7_89 : zCv RX7 89 mX6_hasClass 1 6 := ⟨nX6_hasClass, zT_mem 352 (by decide +kernel) rfl, zT_mem 353 (by decide +kernel) rfl, zT_mem 354 (by decide +kernel) rfl, by decide, (RX6, TX6, 10), rfl, rfl⟩
theorem kX7_100 : zCv RX7 100 mX6_addEntry 1 6 := ⟨nX6_addEntry, zT_mem 356 (by decide +kernel) rfl, zT_mem 357 (by decide +kernel) rfl, zT_mem 358 (by decide +kernel) rfl, by decide, (RX6, TX6, 10), rfl, rfl⟩
theorem kX7_104 : zCs RX7 104 mX7_isPrize 1 := ⟨nX7_isPrize, zT_mem 364 (by decide +kernel) rfl, zT_mem 365 (by decide +kernel) rfl⟩
theorem kX7_107 : zCv RX7 107 mX6_setPrizes 4 6 := ⟨nX6_setPrizes, zT_mem 368 (by decide +kernel) rfl, zT_mem 369 (by decide +kernel) rfl, zT_mem 370 (by decide +kernel) rfl, by decide, (RX6, TX6, 10), rfl, rfl⟩
theorem kX7_111 : zCs RX7 111 mX7_isRuleKind 1 := ⟨nX7_isRuleKind, zT_mem 376 (by decide +kernel) rfl, zT_mem 377 (by decide +kernel) rfl⟩
theorem kX7_117 : zCv RX7 117 mX3_add 3 3 := ⟨nX3_add, zT_mem 379 (by decide +kernel) rfl, zT_mem 380 (by decide +kernel) rfl, zT_mem 381 (by decide +kernel) rfl, by decide, (RX3, TX3, 4), rfl, rfl⟩
theorem kX7_122 : zCv RX7 122 mX1_add 1 1 := ⟨nX1_add, zT_mem 391 (by decide +kernel) rfl, zT_mem 392 (by decide +kernel) rfl, zT_mem 393 (by decide +kernel) rfl, by decide, (RX1, TX1, 4), rfl, rfl⟩
theorem kX7_124 : zCv RX7 124 mX6_hasJudge 1 6 := ⟨nX6_hasJudge, zT_mem 399 (by decide +kernel) rfl, zT_mem 400 (by decide +kernel) rfl, zT_mem 401 (by decide +kernel) rfl, by decide, (RX6, TX6, 10), rfl, rfl⟩
theorem kX7_127 : zCv RX7 127 mX6_hasEntry 1 6 := ⟨nX6_hasEntry, zT_mem 403 (by decide +kernel) rfl, zT_mem 404 (by decide +kernel) rfl, zT_mem 405 (by decide +kernel) rfl, by decide, (RX6, TX6, 10), rfl, rfl⟩
theorem kX7_140 : zCv RX7 140 mX4_start 3 4 := ⟨nX4_start, zT_mem 407 (by decide +kernel) rfl, zT_mem 408 (by decide +kernel) rfl, zT_mem 409 (by decide +kernel) rfl, by decide, (RX4, TX4, 9), rfl, rfl⟩
theorem kX7_144 : zCv RX7 144 mX7_refusalOfEvent 0 7 := ⟨nX7_refusalOfEvent, zT_mem 415 (by decide +kernel) rfl, zT_mem 417 (by decide +kernel) rfl, zT_mem 0 (by decide +kernel) rfl, by decide, (RX7, TX7, 13), rfl, rfl⟩
theorem kX7_148 : zCv RX7 148 mX7_appendEvent 2 7 := ⟨nX7_appendEvent, zT_mem 419 (by decide +kernel) rfl, zT_mem 421 (by decide +kernel) rfl, zT_mem 1 (by decide +kernel) rfl, by decide, (RX7, TX7, 13), rfl, rfl⟩
theorem kX7_152 : zCv RX7 152 mX7_outcomeOf 1 7 := ⟨nX7_outcomeOf, zT_mem 439 (by decide +kernel) rfl, zT_mem 441 (by decide +kernel) rfl, zT_mem 4 (by decide +kernel) rfl, by decide, (RX7, TX7, 13), rfl, rfl⟩
theorem kX7_158 : zCv RX7 158 mX7_innermost 0 7 := ⟨nX7_innermost, zT_mem 423 (by decide +kernel) rfl, zT_mem 425 (by decide +kernel) rfl, zT_mem 2 (by decide +kernel) rfl, by decide, (RX7, TX7, 13), rfl, rfl⟩
theorem kX7_165 : zCv RX7 165 mX5_remarkBits 1 5 := ⟨nX5_remarkBits, zT_mem 524 (by decide +kernel) rfl, zT_mem 525 (by decide +kernel) rfl, zT_mem 526 (by decide +kernel) rfl, by decide, (RX5, TX5, 10), rfl, rfl⟩
theorem kX7_168 : zCs RX7 168 mJ6_bitCount_0f7a4 1 := ⟨nJ6_bitCount_0f7a4, zT_mem 528 (by decide +kernel) rfl, zT_mem 529 (by decide +kernel) rfl⟩
theorem kX7_173 : zCs RX7 173 mX7_isName 1 := ⟨nX7_isName, zT_mem 538 (by decide +kernel) rfl, zT_mem 539 (by decide +kernel) rfl⟩
theorem kX7_176 : zCv RX7 176 mX4_addSavepoint 2 4 := ⟨nX4_addSavepoint, zT_mem 541 (by decide +kernel) rfl, zT_mem 542 (by decide +kernel) rfl, zT_mem 543 (by decide +kernel) rfl, by decide, (RX4, TX4, 9), rfl, rfl⟩
theorem kX7_179 : zCv RX7 179 mX7_savepointNamed 1 7 := ⟨nX7_savepointNamed, zT_mem 554 (by decide +kernel) rfl, zT_mem 556 (by decide +kernel) rfl, zT_mem 10 (by decide +kernel) rfl, by decide, (RX7, TX7, 13), rfl, rfl⟩
theorem kX7_185 : zCv RX7 185 mX5_cutTo 1 5 := ⟨nX5_cutTo, zT_mem 501 (by decide +kernel) rfl, zT_mem 502 (by decide +kernel) rfl, zT_mem 503 (by decide +kernel) rfl, by decide, (RX5, TX5, 10), rfl, rfl⟩
theorem kX7_192 : zCs RX7 192 mX7_isKind 1 := ⟨nX7_isKind, zT_mem 566 (by decide +kernel) rfl, zT_mem 567 (by decide +kernel) rfl⟩
theorem kX7_198 : zCv RX7 198 mX4_addGuard 2 4 := ⟨nX4_addGuard, zT_mem 569 (by decide +kernel) rfl, zT_mem 570 (by decide +kernel) rfl, zT_mem 571 (by decide +kernel) rfl, by decide, (RX4, TX4, 9), rfl, rfl⟩
theorem kX7_204 : zCv RX7 204 mX7_finishAct 1 7 := ⟨nX7_finishAct, zT_mem 577 (by decide +kernel) rfl, zT_mem 579 (by decide +kernel) rfl, zT_mem 11 (by decide +kernel) rfl, by decide, (RX7, TX7, 13), rfl, rfl⟩
theorem kX7_207 : zCv RX7 207 mX7_dropInnermost 0 7 := ⟨nX7_dropInnermost, zT_mem 509 (by decide +kernel) rfl, zT_mem 511 (by decide +kernel) rfl, zT_mem 8 (by decide +kernel) rfl, by decide, (RX7, TX7, 13), rfl, rfl⟩
theorem kX7_216 : zCv RX7 216 mX2_totalOf 1 2 := ⟨nX2_totalOf, zT_mem 605 (by decide +kernel) rfl, zT_mem 606 (by decide +kernel) rfl, zT_mem 607 (by decide +kernel) rfl, by decide, (RX2, TX2, 6), rfl, rfl⟩
theorem kX7_219 : zCv RX7 219 mX2_rankOf 1 2 := ⟨nX2_rankOf, zT_mem 634 (by decide +kernel) rfl, zT_mem 635 (by decide +kernel) rfl, zT_mem 636 (by decide +kernel) rfl, by decide, (RX2, TX2, 6), rfl, rfl⟩
theorem kX7_222 : zCv RX7 222 mX2_sharersOf 1 2 := ⟨nX2_sharersOf, zT_mem 655 (by decide +kernel) rfl, zT_mem 656 (by decide +kernel) rfl, zT_mem 657 (by decide +kernel) rfl, by decide, (RX2, TX2, 6), rfl, rfl⟩
theorem kX7_225 : zCv RX7 225 mX2_prizeOf 1 2 := ⟨nX2_prizeOf, zT_mem 667 (by decide +kernel) rfl, zT_mem 668 (by decide +kernel) rfl, zT_mem 669 (by decide +kernel) rfl, by decide, (RX2, TX2, 6), rfl, rfl⟩
theorem kX7_228 : zCv RX7 228 mX5_markBy 2 5 := ⟨nX5_markBy, zT_mem 683 (by decide +kernel) rfl, zT_mem 455 (by decide +kernel) rfl, zT_mem 456 (by decide +kernel) rfl, by decide, (RX5, TX5, 10), rfl, rfl⟩
theorem kX7_231 : zCv RX7 231 mX2_entryAt 2 2 := ⟨nX2_entryAt, zT_mem 688 (by decide +kernel) rfl, zT_mem 689 (by decide +kernel) rfl, zT_mem 690 (by decide +kernel) rfl, by decide, (RX2, TX2, 6), rfl, rfl⟩
theorem kX7_234 : zCv RX7 234 mX7_keepForUndo 3 7 := ⟨nX7_keepForUndo, zT_mem 581 (by decide +kernel) rfl, zT_mem 583 (by decide +kernel) rfl, zT_mem 12 (by decide +kernel) rfl, by decide, (RX7, TX7, 13), rfl, rfl⟩
theorem kX7_238 : zCv RX7 238 mX6_entriesOf 1 6 := ⟨nX6_entriesOf, zT_mem 700 (by decide +kernel) rfl, zT_mem 701 (by decide +kernel) rfl, zT_mem 702 (by decide +kernel) rfl, by decide, (RX6, TX6, 10), rfl, rfl⟩
theorem kX7_250 : zCv RX7 250 mX2_prizesLeft 1 2 := ⟨nX2_prizesLeft, zT_mem 708 (by decide +kernel) rfl, zT_mem 709 (by decide +kernel) rfl, zT_mem 710 (by decide +kernel) rfl, by decide, (RX2, TX2, 6), rfl, rfl⟩
theorem kX7_253 : zCv RX7 253 mX5_hasEvent 1 5 := ⟨nX5_hasEvent, zT_mem 716 (by decide +kernel) rfl, zT_mem 717 (by decide +kernel) rfl, zT_mem 718 (by decide +kernel) rfl, by decide, (RX5, TX5, 10), rfl, rfl⟩
theorem kX7_261 : zCv RX7 261 mX5_setCounting 2 5 := ⟨nX5_setCounting, zT_mem 720 (by decide +kernel) rfl, zT_mem 432 (by decide +kernel) rfl, zT_mem 433 (by decide +kernel) rfl, by decide, (RX5, TX5, 10), rfl, rfl⟩
theorem kX7_273 : zCv RX7 273 mX0_isNoted 1 0 := ⟨nX0_isNoted, zT_mem 729 (by decide +kernel) rfl, zT_mem 485 (by decide +kernel) rfl, zT_mem 486 (by decide +kernel) rfl, by decide, (RX0, TX0, 2), rfl, rfl⟩
theorem kX7_279 : zCs RX7 279 mX7_isOfKind 2 := ⟨nX7_isOfKind, zT_mem 492 (by decide +kernel) rfl, zT_mem 493 (by decide +kernel) rfl⟩
theorem kX7_294 : zCv RX7 294 mX7_digestOfEntries 1 7 := ⟨nX7_digestOfEntries, zT_mem 747 (by decide +kernel) rfl, zT_mem 749 (by decide +kernel) rfl, zT_mem 23 (by decide +kernel) rfl, by decide, (RX7, TX7, 13), rfl, rfl⟩
theorem kX7_298 : zCv RX7 298 mX7_digestOfEvents 1 7 := ⟨nX7_digestOfEvents, zT_mem 753 (by decide +kernel) rfl, zT_mem 755 (by decide +kernel) rfl, zT_mem 24 (by decide +kernel) rfl, by decide, (RX7, TX7, 13), rfl, rfl⟩
theorem kX7_303 : zCv RX7 303 mX5_markAt 2 5 := ⟨nX5_markAt, zT_mem 752 (by decide +kernel) rfl, zT_mem 463 (by decide +kernel) rfl, zT_mem 464 (by decide +kernel) rfl, by decide, (RX5, TX5, 10), rfl, rfl⟩
theorem kX7_310 : zCv RX7 310 mX4_indexOfSavepoint 1 4 := ⟨nX4_indexOfSavepoint, zT_mem 497 (by decide +kernel) rfl, zT_mem 498 (by decide +kernel) rfl, zT_mem 499 (by decide +kernel) rfl, by decide, (RX4, TX4, 9), rfl, rfl⟩
theorem kX7_313 : zCv RX7 313 mX5_append 4 5 := ⟨nX5_append, zT_mem 427 (by decide +kernel) rfl, zT_mem 428 (by decide +kernel) rfl, zT_mem 429 (by decide +kernel) rfl, by decide, (RX5, TX5, 10), rfl, rfl⟩
theorem kX7_319 : zCv RX7 319 mX3_holds 3 3 := ⟨nX3_holds, zT_mem 443 (by decide +kernel) rfl, zT_mem 444 (by decide +kernel) rfl, zT_mem 445 (by decide +kernel) rfl, by decide, (RX3, TX3, 4), rfl, rfl⟩
theorem kX7_326 : zCv RX7 326 mX7_fail 2 7 := ⟨nX7_fail, zT_mem 476 (by decide +kernel) rfl, zT_mem 478 (by decide +kernel) rfl, zT_mem 5 (by decide +kernel) rfl, by decide, (RX7, TX7, 13), rfl, rfl⟩
theorem kX7_329 : zCv RX7 329 mX0_add 6 0 := ⟨nX0_add, zT_mem 480 (by decide +kernel) rfl, zT_mem 481 (by decide +kernel) rfl, zT_mem 482 (by decide +kernel) rfl, by decide, (RX0, TX0, 2), rfl, rfl⟩
theorem kX7_332 : zCv RX7 332 mX7_letGuardCatch 1 7 := ⟨nX7_letGuardCatch, zT_mem 488 (by decide +kernel) rfl, zT_mem 490 (by decide +kernel) rfl, zT_mem 6 (by decide +kernel) rfl, by decide, (RX7, TX7, 13), rfl, rfl⟩
theorem kX7_335 : zCv RX7 335 mX7_suppressUnder 1 7 := ⟨nX7_suppressUnder, zT_mem 505 (by decide +kernel) rfl, zT_mem 507 (by decide +kernel) rfl, zT_mem 7 (by decide +kernel) rfl, by decide, (RX7, TX7, 13), rfl, rfl⟩
theorem kX7_338 : zCs RX7 338 mX7_kindFurtherOut 1 := ⟨nX7_kindFurtherOut, zT_mem 513 (by decide +kernel) rfl, zT_mem 514 (by decide +kernel) rfl⟩
theorem kX7_347 : zCv RX7 347 mX1_tell 1 1 := ⟨nX1_tell, zT_mem 585 (by decide +kernel) rfl, zT_mem 586 (by decide +kernel) rfl, zT_mem 587 (by decide +kernel) rfl, by decide, (RX1, TX1, 4), rfl, rfl⟩
theorem kX0_19 : zCv RX0 19 mX0_isNoted 1 0 := ⟨nX0_isNoted, zT_mem 484 (by decide +kernel) rfl, zT_mem 485 (by decide +kernel) rfl, zT_mem 486 (by decide +kernel) rfl, by decide, (RX0, TX0, 2), rfl, rfl⟩
theorem kX2_40 : zCv RX2 40 mX5_sumOfMarks 1 5 := ⟨nX5_sumOfMarks, zT_mem 609 (by decide +kernel) rfl, zT_mem 610 (by decide +kernel) rfl, zT_mem 611 (by decide +kernel) rfl, by decide, (RX5, TX5, 10), rfl, rfl⟩
theorem kX2_49 : zCs RX2 49 mX2_nearest 2 := ⟨nX2_nearest, zT_mem 613 (by decide +kernel) rfl, zT_mem 614 (by decide +kernel) rfl⟩
theorem kX2_53 : zCv RX2 53 mX2_middle 2 2 := ⟨nX2_middle, zT_mem 622 (by decide +kernel) rfl, zT_mem 624 (by decide +kernel) rfl, zT_mem 13 (by decide +kernel) rfl, by decide, (RX2, TX2, 6), rfl, rfl⟩
theorem kX2_56 : zCv RX2 56 mX5_greatestMark 1 5 := ⟨nX5_greatestMark, zT_mem 631 (by decide +kernel) rfl, zT_mem 459 (by decide +kernel) rfl, zT_mem 460 (by decide +kernel) rfl, by decide, (RX5, TX5, 10), rfl, rfl⟩
theorem kX2_59 : zCv RX2 59 mX5_leastMark 1 5 := ⟨nX5_leastMark, zT_mem 632 (by decide +kernel) rfl, zT_mem 470 (by decide +kernel) rfl, zT_mem 471 (by decide +kernel) rfl, by decide, (RX5, TX5, 10), rfl, rfl⟩
theorem kX2_65 : zCs RX2 65 mJ9_max_7cf53 2 := ⟨nJ9_max_7cf53, zT_mem 633 (by decide +kernel) rfl, zT_mem 467 (by decide +kernel) rfl⟩
theorem kX2_70 : zCv RX2 70 mX2_sortMarks 2 2 := ⟨nX2_sortMarks, zT_mem 626 (by decide +kernel) rfl, zT_mem 628 (by decide +kernel) rfl, zT_mem 14 (by decide +kernel) rfl, by decide, (RX2, TX2, 6), rfl, rfl⟩
theorem kX2_74 : zCv RX2 74 mX5_markAt 2 5 := ⟨nX5_markAt, zT_mem 630 (by decide +kernel) rfl, zT_mem 463 (by decide +kernel) rfl, zT_mem 464 (by decide +kernel) rfl, by decide, (RX5, TX5, 10), rfl, rfl⟩
theorem kX2_77 : zCs RX2 77 mJ9_floorDiv_7cf53 2 := ⟨nJ9_floorDiv_7cf53, zT_mem 616 (by decide +kernel) rfl, zT_mem 617 (by decide +kernel) rfl⟩
theorem kX2_80 : zCs RX2 80 mJ9_floorMod_7cf53 2 := ⟨nJ9_floorMod_7cf53, zT_mem 619 (by decide +kernel) rfl, zT_mem 620 (by decide +kernel) rfl⟩
theorem kX2_83 : zCv RX2 83 mX2_rankClass 1 2 := ⟨nX2_rankClass, zT_mem 638 (by decide +kernel) rfl, zT_mem 640 (by decide +kernel) rfl, zT_mem 15 (by decide +kernel) rfl, by decide, (RX2, TX2, 6), rfl, rfl⟩
theorem kX2_87 : zCv RX2 87 mX2_sharers 1 2 := ⟨nX2_sharers, zT_mem 659 (by decide +kernel) rfl, zT_mem 661 (by decide +kernel) rfl, zT_mem 18 (by decide +kernel) rfl, by decide, (RX2, TX2, 6), rfl, rfl⟩
theorem kX2_90 : zCv RX2 90 mX2_share 1 2 := ⟨nX2_share, zT_mem 671 (by decide +kernel) rfl, zT_mem 673 (by decide +kernel) rfl, zT_mem 20 (by decide +kernel) rfl, by decide, (RX2, TX2, 6), rfl, rfl⟩
theorem kX2_93 : zCv RX2 93 mX2_prizesFrom 3 2 := ⟨nX2_prizesFrom, zT_mem 675 (by decide +kernel) rfl, zT_mem 677 (by decide +kernel) rfl, zT_mem 21 (by decide +kernel) rfl, by decide, (RX2, TX2, 6), rfl, rfl⟩
theorem kX2_101 : zCv RX2 101 mX2_position 1 2 := ⟨nX2_position, zT_mem 692 (by decide +kernel) rfl, zT_mem 694 (by decide +kernel) rfl, zT_mem 22 (by decide +kernel) rfl, by decide, (RX2, TX2, 6), rfl, rfl⟩
theorem kX2_104 : zCv RX2 104 mX2_totalOf 1 2 := ⟨nX2_totalOf, zT_mem 642 (by decide +kernel) rfl, zT_mem 606 (by decide +kernel) rfl, zT_mem 607 (by decide +kernel) rfl, by decide, (RX2, TX2, 6), rfl, rfl⟩
theorem kX2_107 : zCv RX2 107 mX5_marksAboveZero 1 5 := ⟨nX5_marksAboveZero, zT_mem 643 (by decide +kernel) rfl, zT_mem 644 (by decide +kernel) rfl, zT_mem 645 (by decide +kernel) rfl, by decide, (RX5, TX5, 10), rfl, rfl⟩
theorem kX2_110 : zCv RX2 110 mX2_betterThan 1 2 := ⟨nX2_betterThan, zT_mem 647 (by decide +kernel) rfl, zT_mem 649 (by decide +kernel) rfl, zT_mem 16 (by decide +kernel) rfl, by decide, (RX2, TX2, 6), rfl, rfl⟩
theorem kX2_113 : zCv RX2 113 mX2_isBetter 2 2 := ⟨nX2_isBetter, zT_mem 651 (by decide +kernel) rfl, zT_mem 653 (by decide +kernel) rfl, zT_mem 17 (by decide +kernel) rfl, by decide, (RX2, TX2, 6), rfl, rfl⟩
theorem kX2_117 : zCv RX2 117 mX2_sharersAheadOf 2 2 := ⟨nX2_sharersAheadOf, zT_mem 663 (by decide +kernel) rfl, zT_mem 665 (by decide +kernel) rfl, zT_mem 19 (by decide +kernel) rfl, by decide, (RX2, TX2, 6), rfl, rfl⟩
theorem kX3_25 : zCs RX3 25 mX3_latestIsOutOfRange 2 := ⟨nX3_latestIsOutOfRange, zT_mem 447 (by decide +kernel) rfl, zT_mem 448 (by decide +kernel) rfl⟩
theorem kX3_37 : zCv RX3 37 mX5_timesPointed 2 5 := ⟨nX5_timesPointed, zT_mem 450 (by decide +kernel) rfl, zT_mem 451 (by decide +kernel) rfl, zT_mem 452 (by decide +kernel) rfl, by decide, (RX5, TX5, 10), rfl, rfl⟩
theorem kX3_43 : zCv RX3 43 mX5_markBy 2 5 := ⟨nX5_markBy, zT_mem 454 (by decide +kernel) rfl, zT_mem 455 (by decide +kernel) rfl, zT_mem 456 (by decide +kernel) rfl, by decide, (RX5, TX5, 10), rfl, rfl⟩
theorem kX3_46 : zCv RX3 46 mX5_greatestMark 1 5 := ⟨nX5_greatestMark, zT_mem 458 (by decide +kernel) rfl, zT_mem 459 (by decide +kernel) rfl, zT_mem 460 (by decide +kernel) rfl, by decide, (RX5, TX5, 10), rfl, rfl⟩
theorem kX3_50 : zCv RX3 50 mX5_leastMark 1 5 := ⟨nX5_leastMark, zT_mem 469 (by decide +kernel) rfl, zT_mem 470 (by decide +kernel) rfl, zT_mem 471 (by decide +kernel) rfl, by decide, (RX5, TX5, 10), rfl, rfl⟩
theorem kX4_40 : zCv RX4 40 mX4_indexOfSavepoint 1 4 := ⟨nX4_indexOfSavepoint, zT_mem 545 (by decide +kernel) rfl, zT_mem 498 (by decide +kernel) rfl, zT_mem 499 (by decide +kernel) rfl, by decide, (RX4, TX4, 9), rfl, rfl⟩
theorem kX4_44 : zCv RX4 44 mX4_removeSavepoint 1 4 := ⟨nX4_removeSavepoint, zT_mem 546 (by decide +kernel) rfl, zT_mem 548 (by decide +kernel) rfl, zT_mem 9 (by decide +kernel) rfl, by decide, (RX4, TX4, 9), rfl, rfl⟩
theorem kX5_45 : zCv RX5 45 mX5_setCounting 2 5 := ⟨nX5_setCounting, zT_mem 431 (by decide +kernel) rfl, zT_mem 432 (by decide +kernel) rfl, zT_mem 433 (by decide +kernel) rfl, by decide, (RX5, TX5, 10), rfl, rfl⟩
theorem kX5_49 : zCv RX5 49 mX5_markIndex 2 5 := ⟨nX5_markIndex, zT_mem 435 (by decide +kernel) rfl, zT_mem 437 (by decide +kernel) rfl, zT_mem 3 (by decide +kernel) rfl, by decide, (RX5, TX5, 10), rfl, rfl⟩
theorem kX5_61 : zCv RX5 61 mX5_markAt 2 5 := ⟨nX5_markAt, zT_mem 462 (by decide +kernel) rfl, zT_mem 463 (by decide +kernel) rfl, zT_mem 464 (by decide +kernel) rfl, by decide, (RX5, TX5, 10), rfl, rfl⟩
theorem kX5_70 : zCs RX5 70 mJ9_max_7cf53 2 := ⟨nJ9_max_7cf53, zT_mem 466 (by decide +kernel) rfl, zT_mem 467 (by decide +kernel) rfl⟩
theorem kX5_75 : zCs RX5 75 mJ9_min_7cf53 2 := ⟨nJ9_min_7cf53, zT_mem 473 (by decide +kernel) rfl, zT_mem 474 (by decide +kernel) rfl⟩
theorem kL_9 : zCi RL 9 mX7_init 0 := ⟨nX7_init, zT_mem 59 (by decide +kernel) rfl, zT_mem 60 (by decide +kernel) rfl, rfl, rfl⟩
theorem kL_12 : zCi RL 12 mX8_init 0 := ⟨nX8_init, zT_mem 759 (by decide +kernel) rfl, zT_mem 760 (by decide +kernel) rfl, rfl, rfl⟩
theorem kL_13 : zCv RL 13 mX7_show 2 7 := ⟨nX7_show, zT_mem 340 (by decide +kernel) rfl, zT_mem 341 (by decide +kernel) rfl, zT_mem 342 (by decide +kernel) rfl, by decide, (RX7, TX7, 13), rfl, rfl⟩
theorem kL_17 : zCv RL 17 mX8_show 2 8 := ⟨nX8_show, zT_mem 908 (by decide +kernel) rfl, zT_mem 909 (by decide +kernel) rfl, zT_mem 910 (by decide +kernel) rfl, by decide, (RX8, TX8, 48), rfl, rfl⟩
theorem kL_18 : zCv RL 18 mX7_entry 1 7 := ⟨nX7_entry, zT_mem 348 (by decide +kernel) rfl, zT_mem 349 (by decide +kernel) rfl, zT_mem 350 (by decide +kernel) rfl, by decide, (RX7, TX7, 13), rfl, rfl⟩
theorem kL_22 : zCv RL 22 mX8_entry 1 8 := ⟨nX8_entry, zT_mem 915 (by decide +kernel) rfl, zT_mem 916 (by decide +kernel) rfl, zT_mem 917 (by decide +kernel) rfl, by decide, (RX8, TX8, 48), rfl, rfl⟩
theorem kL_23 : zCv RL 23 mX7_prizes 4 7 := ⟨nX7_prizes, zT_mem 360 (by decide +kernel) rfl, zT_mem 361 (by decide +kernel) rfl, zT_mem 362 (by decide +kernel) rfl, by decide, (RX7, TX7, 13), rfl, rfl⟩
theorem kL_27 : zCv RL 27 mX8_prizes 4 8 := ⟨nX8_prizes, zT_mem 923 (by decide +kernel) rfl, zT_mem 924 (by decide +kernel) rfl, zT_mem 925 (by decide +kernel) rfl, by decide, (RX8, TX8, 48), rfl, rfl⟩
theorem kL_28 : zCv RL 28 mX7_rule 3 7 := ⟨nX7_rule, zT_mem 372 (by decide +kernel) rfl, zT_mem 373 (by decide +kernel) rfl, zT_mem 374 (by decide +kernel) rfl, by decide, (RX7, TX7, 13), rfl, rfl⟩
theorem kL_32 : zCv RL 32 mX8_rule 3 8 := ⟨nX8_rule, zT_mem 928 (by decide +kernel) rfl, zT_mem 929 (by decide +kernel) rfl, zT_mem 930 (by decide +kernel) rfl, by decide, (RX8, TX8, 48), rfl, rfl⟩
theorem kL_33 : zCv RL 33 mX7_clearRules 0 7 := ⟨nX7_clearRules, zT_mem 383 (by decide +kernel) rfl, zT_mem 384 (by decide +kernel) rfl, zT_mem 385 (by decide +kernel) rfl, by decide, (RX7, TX7, 13), rfl, rfl⟩
theorem kL_37 : zCv RL 37 mX8_clearRules 0 8 := ⟨nX8_clearRules, zT_mem 932 (by decide +kernel) rfl, zT_mem 933 (by decide +kernel) rfl, zT_mem 934 (by decide +kernel) rfl, by decide, (RX8, TX8, 48), rfl, rfl⟩
theorem kL_38 : zCv RL 38 mX7_observe 1 7 := ⟨nX7_observe, zT_mem 387 (by decide +kernel) rfl, zT_mem 388 (by decide +kernel) rfl, zT_mem 389 (by decide +kernel) rfl, by decide, (RX7, TX7, 13), rfl, rfl⟩
theorem kL_41 : zCv RL 41 mX8_observe 1 8 := ⟨nX8_observe, zT_mem 936 (by decide +kernel) rfl, zT_mem 937 (by decide +kernel) rfl, zT_mem 938 (by decide +kernel) rfl, by decide, (RX8, TX8, 48), rfl, rfl⟩
theorem kL_42 : zCv RL 42 mX7_begin 2 7 := ⟨nX7_begin, zT_mem 395 (by decide +kernel) rfl, zT_mem 396 (by decide +kernel) rfl, zT_mem 397 (by decide +kernel) rfl, by decide, (RX7, TX7, 13), rfl, rfl⟩
theorem kL_45 : zCv RL 45 mX8_begin 2 8 := ⟨nX8_begin, zT_mem 940 (by decide +kernel) rfl, zT_mem 941 (by decide +kernel) rfl, zT_mem 942 (by decide +kernel) rfl, by decide, (RX8, TX8, 48), rfl, rfl⟩
theorem kL_46 : zCv RL 46 mX7_points 1 7 := ⟨nX7_points, zT_mem 411 (by decide +kernel) rfl, zT_mem 412 (by decide +kernel) rfl, zT_mem 413 (by decide +kernel) rfl, by decide, (RX7, TX7, 13), rfl, rfl⟩
theorem kL_49 : zCv RL 49 mX8_points 1 8 := ⟨nX8_points, zT_mem 952 (by decide +kernel) rfl, zT_mem 953 (by decide +kernel) rfl, zT_mem 954 (by decide +kernel) rfl, by decide, (RX8, TX8, 48), rfl, rfl⟩
theorem kL_50 : zCv RL 50 mX7_deduct 1 7 := ⟨nX7_deduct, zT_mem 516 (by decide +kernel) rfl, zT_mem 517 (by decide +kernel) rfl, zT_mem 518 (by decide +kernel) rfl, by decide, (RX7, TX7, 13), rfl, rfl⟩
theorem kL_53 : zCv RL 53 mX8_deduct 1 8 := ⟨nX8_deduct, zT_mem 998 (by decide +kernel) rfl, zT_mem 999 (by decide +kernel) rfl, zT_mem 1000 (by decide +kernel) rfl, by decide, (RX8, TX8, 48), rfl, rfl⟩
theorem kL_54 : zCv RL 54 mX7_remark 1 7 := ⟨nX7_remark, zT_mem 520 (by decide +kernel) rfl, zT_mem 521 (by decide +kernel) rfl, zT_mem 522 (by decide +kernel) rfl, by decide, (RX7, TX7, 13), rfl, rfl⟩
theorem kL_57 : zCv RL 57 mX8_remark 1 8 := ⟨nX8_remark, zT_mem 1002 (by decide +kernel) rfl, zT_mem 1003 (by decide +kernel) rfl, zT_mem 1004 (by decide +kernel) rfl, by decide, (RX8, TX8, 48), rfl, rfl⟩
theorem kL_58 : zCv RL 58 mX7_save 1 7 := ⟨nX7_save, zT_mem 534 (by decide +kernel) rfl, zT_mem 535 (by decide +kernel) rfl, zT_mem 536 (by decide +kernel) rfl, by decide, (RX7, TX7, 13), rfl, rfl⟩
theorem kL_61 : zCv RL 61 mX8_save 1 8 := ⟨nX8_save, zT_mem 1006 (by decide +kernel) rfl, zT_mem 1007 (by decide +kernel) rfl, zT_mem 1008 (by decide +kernel) rfl, by decide, (RX8, TX8, 48), rfl, rfl⟩
theorem kL_62 : zCv RL 62 mX7_back 1 7 := ⟨nX7_back, zT_mem 550 (by decide +kernel) rfl, zT_mem 551 (by decide +kernel) rfl, zT_mem 552 (by decide +kernel) rfl, by decide, (RX7, TX7, 13), rfl, rfl⟩
theorem kL_65 : zCv RL 65 mX8_back 1 8 := ⟨nX8_back, zT_mem 1010 (by decide +kernel) rfl, zT_mem 1011 (by decide +kernel) rfl, zT_mem 1012 (by decide +kernel) rfl, by decide, (RX8, TX8, 48), rfl, rfl⟩
theorem kL_66 : zCv RL 66 mX7_release 1 7 := ⟨nX7_release, zT_mem 558 (by decide +kernel) rfl, zT_mem 559 (by decide +kernel) rfl, zT_mem 560 (by decide +kernel) rfl, by decide, (RX7, TX7, 13), rfl, rfl⟩
theorem kL_69 : zCv RL 69 mX8_release 1 8 := ⟨nX8_release, zT_mem 1014 (by decide +kernel) rfl, zT_mem 1015 (by decide +kernel) rfl, zT_mem 1016 (by decide +kernel) rfl, by decide, (RX8, TX8, 48), rfl, rfl⟩
theorem kL_70 : zCv RL 70 mX7_guard 2 7 := ⟨nX7_guard, zT_mem 562 (by decide +kernel) rfl, zT_mem 563 (by decide +kernel) rfl, zT_mem 564 (by decide +kernel) rfl, by decide, (RX7, TX7, 13), rfl, rfl⟩
theorem kL_73 : zCv RL 73 mX8_guard 2 8 := ⟨nX8_guard, zT_mem 1018 (by decide +kernel) rfl, zT_mem 1019 (by decide +kernel) rfl, zT_mem 1020 (by decide +kernel) rfl, by decide, (RX8, TX8, 48), rfl, rfl⟩
theorem kL_74 : zCv RL 74 mX7_end 0 7 := ⟨nX7_end, zT_mem 573 (by decide +kernel) rfl, zT_mem 574 (by decide +kernel) rfl, zT_mem 575 (by decide +kernel) rfl, by decide, (RX7, TX7, 13), rfl, rfl⟩
theorem kL_77 : zCv RL 77 mX8_end 0 8 := ⟨nX8_end, zT_mem 1022 (by decide +kernel) rfl, zT_mem 1023 (by decide +kernel) rfl, zT_mem 1024 (by decide +kernel) rfl, by decide, (RX8, TX8, 48), rfl, rfl⟩
theorem kL_78 : zCv RL 78 mX7_drop 0 7 := ⟨nX7_drop, zT_mem 589 (by decide +kernel) rfl, zT_mem 590 (by decide +kernel) rfl, zT_mem 591 (by decide +kernel) rfl, by decide, (RX7, TX7, 13), rfl, rfl⟩
theorem kL_81 : zCv RL 81 mX8_drop 0 8 := ⟨nX8_drop, zT_mem 1030 (by decide +kernel) rfl, zT_mem 1031 (by decide +kernel) rfl, zT_mem 1032 (by decide +kernel) rfl, by decide, (RX8, TX8, 48), rfl, rfl⟩
theorem kL_82 : zCv RL 82 mX7_depth 0 7 := ⟨nX7_depth, zT_mem 593 (by decide +kernel) rfl, zT_mem 594 (by decide +kernel) rfl, zT_mem 595 (by decide +kernel) rfl, by decide, (RX7, TX7, 13), rfl, rfl⟩
theorem kL_85 : zCv RL 85 mX8_depth 0 8 := ⟨nX8_depth, zT_mem 1034 (by decide +kernel) rfl, zT_mem 1035 (by decide +kernel) rfl, zT_mem 1036 (by decide +kernel) rfl, by decide, (RX8, TX8, 48), rfl, rfl⟩
theorem kL_86 : zCv RL 86 mX7_scoring 2 7 := ⟨nX7_scoring, zT_mem 597 (by decide +kernel) rfl, zT_mem 598 (by decide +kernel) rfl, zT_mem 599 (by decide +kernel) rfl, by decide, (RX7, TX7, 13), rfl, rfl⟩
theorem kL_89 : zCv RL 89 mX8_scoring 2 8 := ⟨nX8_scoring, zT_mem 1038 (by decide +kernel) rfl, zT_mem 1039 (by decide +kernel) rfl, zT_mem 1040 (by decide +kernel) rfl, by decide, (RX8, TX8, 48), rfl, rfl⟩
theorem kL_90 : zCv RL 90 mX7_told 2 7 := ⟨nX7_told, zT_mem 601 (by decide +kernel) rfl, zT_mem 602 (by decide +kernel) rfl, zT_mem 603 (by decide +kernel) rfl, by decide, (RX7, TX7, 13), rfl, rfl⟩
theorem kL_93 : zCv RL 93 mX8_told 2 8 := ⟨nX8_told, zT_mem 1042 (by decide +kernel) rfl, zT_mem 1043 (by decide +kernel) rfl, zT_mem 1044 (by decide +kernel) rfl, by decide, (RX8, TX8, 48), rfl, rfl⟩
theorem kL_94 : zCv RL 94 mX7_mark 2 7 := ⟨nX7_mark, zT_mem 679 (by decide +kernel) rfl, zT_mem 680 (by decide +kernel) rfl, zT_mem 681 (by decide +kernel) rfl, by decide, (RX7, TX7, 13), rfl, rfl⟩
theorem kL_97 : zCv RL 97 mX8_mark 2 8 := ⟨nX8_mark, zT_mem 1077 (by decide +kernel) rfl, zT_mem 1078 (by decide +kernel) rfl, zT_mem 1079 (by decide +kernel) rfl, by decide, (RX8, TX8, 48), rfl, rfl⟩
theorem kL_98 : zCv RL 98 mX7_place 2 7 := ⟨nX7_place, zT_mem 684 (by decide +kernel) rfl, zT_mem 685 (by decide +kernel) rfl, zT_mem 686 (by decide +kernel) rfl, by decide, (RX7, TX7, 13), rfl, rfl⟩
theorem kL_101 : zCv RL 101 mX8_place 2 8 := ⟨nX8_place, zT_mem 1081 (by decide +kernel) rfl, zT_mem 1082 (by decide +kernel) rfl, zT_mem 1083 (by decide +kernel) rfl, by decide, (RX8, TX8, 48), rfl, rfl⟩
theorem kL_102 : zCv RL 102 mX7_close 1 7 := ⟨nX7_close, zT_mem 696 (by decide +kernel) rfl, zT_mem 697 (by decide +kernel) rfl, zT_mem 698 (by decide +kernel) rfl, by decide, (RX7, TX7, 13), rfl, rfl⟩
theorem kL_105 : zCv RL 105 mX8_close 1 8 := ⟨nX8_close, zT_mem 1085 (by decide +kernel) rfl, zT_mem 1086 (by decide +kernel) rfl, zT_mem 1087 (by decide +kernel) rfl, by decide, (RX8, TX8, 48), rfl, rfl⟩
theorem kL_106 : zCv RL 106 mX7_about 2 7 := ⟨nX7_about, zT_mem 704 (by decide +kernel) rfl, zT_mem 705 (by decide +kernel) rfl, zT_mem 706 (by decide +kernel) rfl, by decide, (RX7, TX7, 13), rfl, rfl⟩
theorem kL_109 : zCv RL 109 mX8_about 2 8 := ⟨nX8_about, zT_mem 1089 (by decide +kernel) rfl, zT_mem 1090 (by decide +kernel) rfl, zT_mem 1091 (by decide +kernel) rfl, by decide, (RX8, TX8, 48), rfl, rfl⟩
theorem kL_110 : zCv RL 110 mX7_uphold 1 7 := ⟨nX7_uphold, zT_mem 712 (by decide +kernel) rfl, zT_mem 713 (by decide +kernel) rfl, zT_mem 714 (by decide +kernel) rfl, by decide, (RX7, TX7, 13), rfl, rfl⟩
theorem kL_113 : zCv RL 113 mX8_uphold 1 8 := ⟨nX8_uphold, zT_mem 1093 (by decide +kernel) rfl, zT_mem 1094 (by decide +kernel) rfl, zT_mem 1095 (by decide +kernel) rfl, by decide, (RX8, TX8, 48), rfl, rfl⟩
theorem kL_114 : zCv RL 114 mX7_event 2 7 := ⟨nX7_event, zT_mem 721 (by decide +kernel) rfl, zT_mem 722 (by decide +kernel) rfl, zT_mem 723 (by decide +kernel) rfl, by decide, (RX7, TX7, 13), rfl, rfl⟩
theorem kL_117 : zCv RL 117 mX8_event 2 8 := ⟨nX8_event, zT_mem 1097 (by decide +kernel) rfl, zT_mem 1098 (by decide +kernel) rfl, zT_mem 1099 (by decide +kernel) rfl, by decide, (RX8, TX8, 48), rfl, rfl⟩
theorem kL_118 : zCv RL 118 mX7_failure 2 7 := ⟨nX7_failure, zT_mem 725 (by decide +kernel) rfl, zT_mem 726 (by decide +kernel) rfl, zT_mem 727 (by decide +kernel) rfl, by decide, (RX7, TX7, 13), rfl, rfl⟩
theorem kL_121 : zCv RL 121 mX8_failure 2 8 := ⟨nX8_failure, zT_mem 1101 (by decide +kernel) rfl, zT_mem 1102 (by decide +kernel) rfl, zT_mem 1103 (by decide +kernel) rfl, by decide, (RX8, TX8, 48), rfl, rfl⟩
theorem kL_122 : zCv RL 122 mX7_is 2 7 := ⟨nX7_is, zT_mem 730 (by decide +kernel) rfl, zT_mem 731 (by decide +kernel) rfl, zT_mem 732 (by decide +kernel) rfl, by decide, (RX7, TX7, 13), rfl, rfl⟩
theorem kL_125 : zCv RL 125 mX8_is 2 8 := ⟨nX8_is, zT_mem 1105 (by decide +kernel) rfl, zT_mem 1106 (by decide +kernel) rfl, zT_mem 1107 (by decide +kernel) rfl, by decide, (RX8, TX8, 48), rfl, rfl⟩
theorem kL_126 : zCv RL 126 mX7_undo 0 7 := ⟨nX7_undo, zT_mem 734 (by decide +kernel) rfl, zT_mem 735 (by decide +kernel) rfl, zT_mem 736 (by decide +kernel) rfl, by decide, (RX7, TX7, 13), rfl, rfl⟩
theorem kL_129 : zCv RL 129 mX8_undo 0 8 := ⟨nX8_undo, zT_mem 1109 (by decide +kernel) rfl, zT_mem 1110 (by decide +kernel) rfl, zT_mem 1111 (by decide +kernel) rfl, by decide, (RX8, TX8, 48), rfl, rfl⟩
theorem kL_130 : zCv RL 130 mX7_count 1 7 := ⟨nX7_count, zT_mem 738 (by decide +kernel) rfl, zT_mem 739 (by decide +kernel) rfl, zT_mem 740 (by decide +kernel) rfl, by decide, (RX7, TX7, 13), rfl, rfl⟩
theorem kL_133 : zCv RL 133 mX8_count 1 8 := ⟨nX8_count, zT_mem 1113 (by decide +kernel) rfl, zT_mem 1114 (by decide +kernel) rfl, zT_mem 1115 (by decide +kernel) rfl, by decide, (RX8, TX8, 48), rfl, rfl⟩
theorem kL_134 : zCv RL 134 mX7_digest 0 7 := ⟨nX7_digest, zT_mem 742 (by decide +kernel) rfl, zT_mem 743 (by decide +kernel) rfl, zT_mem 744 (by decide +kernel) rfl, by decide, (RX7, TX7, 13), rfl, rfl⟩
theorem kL_138 : zCv RL 138 mX8_digest 0 8 := ⟨nX8_digest, zT_mem 1117 (by decide +kernel) rfl, zT_mem 1118 (by decide +kernel) rfl, zT_mem 1119 (by decide +kernel) rfl, by decide, (RX8, TX8, 48), rfl, rfl⟩
theorem kX8_123 : zCs RX8 123 mX8_in 3 := ⟨nX8_in, zT_mem 912 (by decide +kernel) rfl, zT_mem 913 (by decide +kernel) rfl⟩
theorem kX8_133 : zCv RX8 133 mX8_isClass 1 8 := ⟨nX8_isClass, zT_mem 919 (by decide +kernel) rfl, zT_mem 921 (by decide +kernel) rfl, zT_mem 25 (by decide +kernel) rfl, by decide, (RX8, TX8, 48), rfl, rfl⟩
theorem kX8_147 : zCv RX8 147 mX8_counted 1 8 := ⟨nX8_counted, zT_mem 960 (by decide +kernel) rfl, zT_mem 962 (by decide +kernel) rfl, zT_mem 29 (by decide +kernel) rfl, by decide, (RX8, TX8, 48), rfl, rfl⟩
theorem kX8_151 : zCv RX8 151 mX8_isJudge 1 8 := ⟨nX8_isJudge, zT_mem 944 (by decide +kernel) rfl, zT_mem 946 (by decide +kernel) rfl, zT_mem 26 (by decide +kernel) rfl, by decide, (RX8, TX8, 48), rfl, rfl⟩
theorem kX8_154 : zCv RX8 154 mX8_isEntry 1 8 := ⟨nX8_isEntry, zT_mem 948 (by decide +kernel) rfl, zT_mem 950 (by decide +kernel) rfl, zT_mem 27 (by decide +kernel) rfl, by decide, (RX8, TX8, 48), rfl, rfl⟩
theorem kX8_157 : zCs RX8 157 mX8_parent 1 := ⟨nX8_parent, zT_mem 987 (by decide +kernel) rfl, zT_mem 988 (by decide +kernel) rfl⟩
theorem kX8_161 : zCv RX8 161 mX8_markOf 2 8 := ⟨nX8_markOf, zT_mem 972 (by decide +kernel) rfl, zT_mem 974 (by decide +kernel) rfl, zT_mem 32 (by decide +kernel) rfl, by decide, (RX8, TX8, 48), rfl, rfl⟩
theorem kX8_165 : zCv RX8 165 mX8_holds 1 8 := ⟨nX8_holds, zT_mem 968 (by decide +kernel) rfl, zT_mem 970 (by decide +kernel) rfl, zT_mem 31 (by decide +kernel) rfl, by decide, (RX8, TX8, 48), rfl, rfl⟩
theorem kX8_168 : zCv RX8 168 mX8_failed 2 8 := ⟨nX8_failed, zT_mem 976 (by decide +kernel) rfl, zT_mem 978 (by decide +kernel) rfl, zT_mem 33 (by decide +kernel) rfl, by decide, (RX8, TX8, 48), rfl, rfl⟩
theorem kX8_174 : zCv RX8 174 mX8_note 4 8 := ⟨nX8_note, zT_mem 980 (by decide +kernel) rfl, zT_mem 982 (by decide +kernel) rfl, zT_mem 34 (by decide +kernel) rfl, by decide, (RX8, TX8, 48), rfl, rfl⟩
theorem kX8_178 : zCs RX8 178 mX8_isOf 2 := ⟨nX8_isOf, zT_mem 984 (by decide +kernel) rfl, zT_mem 985 (by decide +kernel) rfl⟩
theorem kX8_185 : zCv RX8 185 mX8_placeOf 1 8 := ⟨nX8_placeOf, zT_mem 990 (by decide +kernel) rfl, zT_mem 992 (by decide +kernel) rfl, zT_mem 35 (by decide +kernel) rfl, by decide, (RX8, TX8, 48), rfl, rfl⟩
theorem kX8_188 : zCv RX8 188 mX8_goBack 1 8 := ⟨nX8_goBack, zT_mem 994 (by decide +kernel) rfl, zT_mem 996 (by decide +kernel) rfl, zT_mem 36 (by decide +kernel) rfl, by decide, (RX8, TX8, 48), rfl, rfl⟩
theorem kX8_191 : zCv RX8 191 mX8_comes 2 8 := ⟨nX8_comes, zT_mem 956 (by decide +kernel) rfl, zT_mem 958 (by decide +kernel) rfl, zT_mem 28 (by decide +kernel) rfl, by decide, (RX8, TX8, 48), rfl, rfl⟩
theorem kX8_195 : zCv RX8 195 mX8_judged 1 8 := ⟨nX8_judged, zT_mem 964 (by decide +kernel) rfl, zT_mem 966 (by decide +kernel) rfl, zT_mem 30 (by decide +kernel) rfl, by decide, (RX8, TX8, 48), rfl, rfl⟩
theorem kX8_208 : zCv RX8 208 mX8_keep 1 8 := ⟨nX8_keep, zT_mem 1026 (by decide +kernel) rfl, zT_mem 1028 (by decide +kernel) rfl, zT_mem 37 (by decide +kernel) rfl, by decide, (RX8, TX8, 48), rfl, rfl⟩
theorem kX8_214 : zCs RX8 214 mX8_rounded 2 := ⟨nX8_rounded, zT_mem 1054 (by decide +kernel) rfl, zT_mem 1055 (by decide +kernel) rfl⟩
theorem kX8_217 : zCv RX8 217 mX8_totalOf 1 8 := ⟨nX8_totalOf, zT_mem 1050 (by decide +kernel) rfl, zT_mem 1052 (by decide +kernel) rfl, zT_mem 39 (by decide +kernel) rfl, by decide, (RX8, TX8, 48), rfl, rfl⟩
theorem kX8_220 : zCv RX8 220 mX8_above 1 8 := ⟨nX8_above, zT_mem 1065 (by decide +kernel) rfl, zT_mem 1067 (by decide +kernel) rfl, zT_mem 42 (by decide +kernel) rfl, by decide, (RX8, TX8, 48), rfl, rfl⟩
theorem kX8_223 : zCv RX8 223 mX8_isBetter 2 8 := ⟨nX8_isBetter, zT_mem 1061 (by decide +kernel) rfl, zT_mem 1063 (by decide +kernel) rfl, zT_mem 41 (by decide +kernel) rfl, by decide, (RX8, TX8, 48), rfl, rfl⟩
theorem kX8_226 : zCv RX8 226 mX8_rankOf 1 8 := ⟨nX8_rankOf, zT_mem 1057 (by decide +kernel) rfl, zT_mem 1059 (by decide +kernel) rfl, zT_mem 40 (by decide +kernel) rfl, by decide, (RX8, TX8, 48), rfl, rfl⟩
theorem kX8_229 : zCv RX8 229 mX8_alike 1 8 := ⟨nX8_alike, zT_mem 1069 (by decide +kernel) rfl, zT_mem 1071 (by decide +kernel) rfl, zT_mem 43 (by decide +kernel) rfl, by decide, (RX8, TX8, 48), rfl, rfl⟩
theorem kX8_232 : zCv RX8 232 mX8_total 0 8 := ⟨nX8_total, zT_mem 1046 (by decide +kernel) rfl, zT_mem 1048 (by decide +kernel) rfl, zT_mem 38 (by decide +kernel) rfl, by decide, (RX8, TX8, 48), rfl, rfl⟩
theorem kX8_235 : zCv RX8 235 mX8_prizeOf 1 8 := ⟨nX8_prizeOf, zT_mem 1073 (by decide +kernel) rfl, zT_mem 1075 (by decide +kernel) rfl, zT_mem 44 (by decide +kernel) rfl, by decide, (RX8, TX8, 48), rfl, rfl⟩
end
