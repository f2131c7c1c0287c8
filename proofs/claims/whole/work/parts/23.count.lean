def okE (F : zFt) (i : Nat) : Prop := vp_in (F 14 i) 60 ∧ (F 12 i = 0 → vp_in (F 13 i) 60 ∧ vp_in (F 9 (zn (F 13 i))) 12 ∧ vp_in (cMi F (F 14 i) (F 13 i)) 300) ∧ (¬ F 12 i = 0 → ¬ F 12 i = 1 → vp_in (F 14 i * 8 + F 15 i) 480)
/-- an event is made to count, or not to -/
def cSc (F : zFt) (i : Nat) (b : Int32) : zFt :=
  if F 16 i = b then F
  else if F 12 i = 0 then zup (zup F 16 i b) 18 (zn (cMi F (F 14 i) (F 13 i))) (F 18 (zn (cMi F (F 14 i) (F 13 i))) + (if b = 0 then -1 else 1) * F 15 i)
  else if F 12 i = 1 then zup (zup F 16 i b) 17 (zn (F 14 i)) (F 17 (zn (F 14 i)) + (if b = 0 then -1 else 1) * F 15 i)
  else zup (zup F 16 i b) 19 (zn (F 14 i * 8 + F 15 i)) (F 19 (zn (F 14 i * 8 + F 15 i)) + (if b = 0 then -1 else 1))

set_option maxRecDepth 100000 in
theorem tX5_setCounting {L : Nat} (F : zFt) (i : Int32) (b : Int32) (hi : vp_in i 400) (hb : b = 0 ∨ b = 1) (ho : okE F (zn i)) : zFn mX5_setCounting 1 [.ref 11, .int i, .int b] L F none (cSc F (zn i) b) := by
  refine e_of (lo := [some (.ref 11), some (.int i), some (.int b), none]) (by decide +kernel) (Nat.le_of_ble_eq_true rfl) rfl ?_
  refine z_aload iX5_setCounting_0 rfl ?_
  refine e_getR iX5_setCounting_1 fX5_24 rfl ?_
  refine z_iload iX5_setCounting_4 rfl ?_
  refine e_bald iX5_setCounting_5 rfl (by assumption) ?_
  refine z_iload iX5_setCounting_6 rfl ?_
  refine z_icmp_ne iX5_setCounting_7 (fun c7 => ?_) (fun c7 => ?_)
  · refine z_aload iX5_setCounting_11 rfl ?_
    refine e_getR iX5_setCounting_12 fX5_24 rfl ?_
    refine z_iload iX5_setCounting_15 rfl ?_
    refine z_iload iX5_setCounting_16 rfl ?_
    refine e_bast iX5_setCounting_17 rfl (by assumption) (by first | exact Or.inl rfl | exact Or.inr rfl | assumption) ?_
    refine z_iload iX5_setCounting_18 rfl ?_
    refine z_if_eq iX5_setCounting_19 (fun c19 => ?_) (fun c19 => ?_)
    · refine z_push iX5_setCounting_26 ?_
      refine z_istore iX5_setCounting_27 rfl ?_
      dsimp only [List.set_cons_zero, List.set_cons_succ]
      refine z_aload iX5_setCounting_28 rfl ?_
      refine e_getR iX5_setCounting_29 fX5_9 rfl ?_
      try simp only [cMi, zup_ap, Nat.reduceEqDiff, false_and, ↓reduceIte]
      refine z_iload iX5_setCounting_32 rfl ?_
      refine e_iald iX5_setCounting_33 rfl (by assumption) ?_
      try simp only [cMi, zup_ap, Nat.reduceEqDiff, false_and, ↓reduceIte]
      refine z_if_ne iX5_setCounting_34 (fun c34 => ?_) (fun c34 => ?_)
      · refine z_aload iX5_setCounting_72 rfl ?_
        refine e_getR iX5_setCounting_73 fX5_9 rfl ?_
        try simp only [cMi, zup_ap, Nat.reduceEqDiff, false_and, ↓reduceIte]
        refine z_iload iX5_setCounting_76 rfl ?_
        refine e_iald iX5_setCounting_77 rfl (by assumption) ?_
        try simp only [cMi, zup_ap, Nat.reduceEqDiff, false_and, ↓reduceIte]
        refine z_push iX5_setCounting_78 ?_
        refine z_icmp_ne iX5_setCounting_79 (fun c79 => ?_) (fun c79 => ?_)
        · refine z_aload iX5_setCounting_107 rfl ?_
          refine e_getR iX5_setCounting_108 fX5_38 rfl ?_
          try simp only [cMi, zup_ap, Nat.reduceEqDiff, false_and, ↓reduceIte]
          refine z_aload iX5_setCounting_111 rfl ?_
          refine e_getR iX5_setCounting_112 fX5_18 rfl ?_
          try simp only [cMi, zup_ap, Nat.reduceEqDiff, false_and, ↓reduceIte]
          refine z_iload iX5_setCounting_115 rfl ?_
          refine e_iald iX5_setCounting_116 rfl (by assumption) ?_
          try simp only [cMi, zup_ap, Nat.reduceEqDiff, false_and, ↓reduceIte]
          refine z_push iX5_setCounting_117 ?_
          refine z_imul iX5_setCounting_119 ?_
          refine z_aload iX5_setCounting_120 rfl ?_
          refine e_getR iX5_setCounting_121 fX5_21 rfl ?_
          try simp only [cMi, zup_ap, Nat.reduceEqDiff, false_and, ↓reduceIte]
          refine z_iload iX5_setCounting_124 rfl ?_
          refine e_iald iX5_setCounting_125 rfl (by assumption) ?_
          try simp only [cMi, zup_ap, Nat.reduceEqDiff, false_and, ↓reduceIte]
          refine z_iadd iX5_setCounting_126 ?_
          refine z_dup2 iX5_setCounting_127 rfl rfl ?_
          refine e_iald iX5_setCounting_128 rfl (ho.2.2 c34 c79) ?_
          try simp only [cMi, zup_ap, Nat.reduceEqDiff, false_and, ↓reduceIte]
          refine z_iload iX5_setCounting_129 rfl ?_
          refine z_iadd iX5_setCounting_130 ?_
          refine e_iast iX5_setCounting_131 rfl (ho.2.2 c34 c79) ?_
          exact e_vret iX5_setCounting_132 rfl ⟨rfl, by rw [cSc, if_neg c7, if_neg c34, if_neg c79]; simp only [c19, ↓reduceIte]⟩
        · refine z_aload iX5_setCounting_82 rfl ?_
          refine e_getR iX5_setCounting_83 fX5_32 rfl ?_
          try simp only [cMi, zup_ap, Nat.reduceEqDiff, false_and, ↓reduceIte]
          refine z_aload iX5_setCounting_86 rfl ?_
          refine e_getR iX5_setCounting_87 fX5_18 rfl ?_
          try simp only [cMi, zup_ap, Nat.reduceEqDiff, false_and, ↓reduceIte]
          refine z_iload iX5_setCounting_90 rfl ?_
          refine e_iald iX5_setCounting_91 rfl (by assumption) ?_
          try simp only [cMi, zup_ap, Nat.reduceEqDiff, false_and, ↓reduceIte]
          refine z_dup2 iX5_setCounting_92 rfl rfl ?_
          refine e_iald iX5_setCounting_93 rfl ho.1 ?_
          try simp only [cMi, zup_ap, Nat.reduceEqDiff, false_and, ↓reduceIte]
          refine z_iload iX5_setCounting_94 rfl ?_
          refine z_aload iX5_setCounting_95 rfl ?_
          refine e_getR iX5_setCounting_96 fX5_21 rfl ?_
          try simp only [cMi, zup_ap, Nat.reduceEqDiff, false_and, ↓reduceIte]
          refine z_iload iX5_setCounting_99 rfl ?_
          refine e_iald iX5_setCounting_100 rfl (by assumption) ?_
          try simp only [cMi, zup_ap, Nat.reduceEqDiff, false_and, ↓reduceIte]
          refine z_imul iX5_setCounting_101 ?_
          refine z_iadd iX5_setCounting_102 ?_
          refine e_iast iX5_setCounting_103 rfl ho.1 ?_
          refine z_goto iX5_setCounting_104 ?_
          exact e_vret iX5_setCounting_132 rfl ⟨rfl, by rw [cSc, if_neg c7, if_neg c34, if_pos c79]; simp only [c19, ↓reduceIte]⟩
      · refine z_aload iX5_setCounting_37 rfl ?_
        refine e_getR iX5_setCounting_38 fX5_35 rfl ?_
        try simp only [cMi, zup_ap, Nat.reduceEqDiff, false_and, ↓reduceIte]
        refine z_aload iX5_setCounting_41 rfl ?_
        refine z_aload iX5_setCounting_42 rfl ?_
        refine e_getR iX5_setCounting_43 fX5_18 rfl ?_
        try simp only [cMi, zup_ap, Nat.reduceEqDiff, false_and, ↓reduceIte]
        refine z_iload iX5_setCounting_46 rfl ?_
        refine e_iald iX5_setCounting_47 rfl (by assumption) ?_
        try simp only [cMi, zup_ap, Nat.reduceEqDiff, false_and, ↓reduceIte]
        refine z_aload iX5_setCounting_48 rfl ?_
        refine e_getR iX5_setCounting_49 fX5_15 rfl ?_
        try simp only [cMi, zup_ap, Nat.reduceEqDiff, false_and, ↓reduceIte]
        refine z_iload iX5_setCounting_52 rfl ?_
        refine e_iald iX5_setCounting_53 rfl (by assumption) ?_
        try simp only [cMi, zup_ap, Nat.reduceEqDiff, false_and, ↓reduceIte]
        refine e_callV iX5_setCounting_54 kX5_49 (tX5_markIndex (zup F 16 (zn i) b) (F 14 (zn i)) (F 13 (zn i)) (ho.2.1 c34).1 (ho.2.1 c34).2.1) rfl rfl rfl ⟨Nat.le_of_ble_eq_true rfl, Nat.le_of_ble_eq_true rfl⟩ ⟨Nat.le_of_ble_eq_true rfl, Nat.le_of_ble_eq_true rfl⟩ (Nat.le_of_ble_eq_true rfl) ?_
        dsimp only [Option.toList, List.cons_append, List.nil_append]
        try simp only [cMi, zup_ap, Nat.reduceEqDiff, false_and, ↓reduceIte]
        refine z_dup2 iX5_setCounting_57 rfl rfl ?_
        refine e_iald iX5_setCounting_58 rfl (ho.2.1 c34).2.2 ?_
        try simp only [cMi, zup_ap, Nat.reduceEqDiff, false_and, ↓reduceIte]
        refine z_iload iX5_setCounting_59 rfl ?_
        refine z_aload iX5_setCounting_60 rfl ?_
        refine e_getR iX5_setCounting_61 fX5_21 rfl ?_
        try simp only [cMi, zup_ap, Nat.reduceEqDiff, false_and, ↓reduceIte]
        refine z_iload iX5_setCounting_64 rfl ?_
        refine e_iald iX5_setCounting_65 rfl (by assumption) ?_
        try simp only [cMi, zup_ap, Nat.reduceEqDiff, false_and, ↓reduceIte]
        refine z_imul iX5_setCounting_66 ?_
        refine z_iadd iX5_setCounting_67 ?_
        refine e_iast iX5_setCounting_68 rfl (ho.2.1 c34).2.2 ?_
        refine z_goto iX5_setCounting_69 ?_
        exact e_vret iX5_setCounting_132 rfl ⟨rfl, by rw [cSc, if_neg c7, if_pos c34]; simp only [c19, ↓reduceIte]⟩
    · refine z_push iX5_setCounting_22 ?_
      refine z_goto iX5_setCounting_23 ?_
      refine z_istore iX5_setCounting_27 rfl ?_
      dsimp only [List.set_cons_zero, List.set_cons_succ]
      refine z_aload iX5_setCounting_28 rfl ?_
      refine e_getR iX5_setCounting_29 fX5_9 rfl ?_
      try simp only [cMi, zup_ap, Nat.reduceEqDiff, false_and, ↓reduceIte]
      refine z_iload iX5_setCounting_32 rfl ?_
      refine e_iald iX5_setCounting_33 rfl (by assumption) ?_
      try simp only [cMi, zup_ap, Nat.reduceEqDiff, false_and, ↓reduceIte]
      refine z_if_ne iX5_setCounting_34 (fun c34 => ?_) (fun c34 => ?_)
      · refine z_aload iX5_setCounting_72 rfl ?_
        refine e_getR iX5_setCounting_73 fX5_9 rfl ?_
        try simp only [cMi, zup_ap, Nat.reduceEqDiff, false_and, ↓reduceIte]
        refine z_iload iX5_setCounting_76 rfl ?_
        refine e_iald iX5_setCounting_77 rfl (by assumption) ?_
        try simp only [cMi, zup_ap, Nat.reduceEqDiff, false_and, ↓reduceIte]
        refine z_push iX5_setCounting_78 ?_
        refine z_icmp_ne iX5_setCounting_79 (fun c79 => ?_) (fun c79 => ?_)
        · refine z_aload iX5_setCounting_107 rfl ?_
          refine e_getR iX5_setCounting_108 fX5_38 rfl ?_
          try simp only [cMi, zup_ap, Nat.reduceEqDiff, false_and, ↓reduceIte]
          refine z_aload iX5_setCounting_111 rfl ?_
          refine e_getR iX5_setCounting_112 fX5_18 rfl ?_
          try simp only [cMi, zup_ap, Nat.reduceEqDiff, false_and, ↓reduceIte]
          refine z_iload iX5_setCounting_115 rfl ?_
          refine e_iald iX5_setCounting_116 rfl (by assumption) ?_
          try simp only [cMi, zup_ap, Nat.reduceEqDiff, false_and, ↓reduceIte]
          refine z_push iX5_setCounting_117 ?_
          refine z_imul iX5_setCounting_119 ?_
          refine z_aload iX5_setCounting_120 rfl ?_
          refine e_getR iX5_setCounting_121 fX5_21 rfl ?_
          try simp only [cMi, zup_ap, Nat.reduceEqDiff, false_and, ↓reduceIte]
          refine z_iload iX5_setCounting_124 rfl ?_
          refine e_iald iX5_setCounting_125 rfl (by assumption) ?_
          try simp only [cMi, zup_ap, Nat.reduceEqDiff, false_and, ↓reduceIte]
          refine z_iadd iX5_setCounting_126 ?_
          refine z_dup2 iX5_setCounting_127 rfl rfl ?_
          refine e_iald iX5_setCounting_128 rfl (ho.2.2 c34 c79) ?_
          try simp only [cMi, zup_ap, Nat.reduceEqDiff, false_and, ↓reduceIte]
          refine z_iload iX5_setCounting_129 rfl ?_
          refine z_iadd iX5_setCounting_130 ?_
          refine e_iast iX5_setCounting_131 rfl (ho.2.2 c34 c79) ?_
          exact e_vret iX5_setCounting_132 rfl ⟨rfl, by rw [cSc, if_neg c7, if_neg c34, if_neg c79]; simp only [c19, ↓reduceIte]⟩
        · refine z_aload iX5_setCounting_82 rfl ?_
          refine e_getR iX5_setCounting_83 fX5_32 rfl ?_
          try simp only [cMi, zup_ap, Nat.reduceEqDiff, false_and, ↓reduceIte]
          refine z_aload iX5_setCounting_86 rfl ?_
          refine e_getR iX5_setCounting_87 fX5_18 rfl ?_
          try simp only [cMi, zup_ap, Nat.reduceEqDiff, false_and, ↓reduceIte]
          refine z_iload iX5_setCounting_90 rfl ?_
          refine e_iald iX5_setCounting_91 rfl (by assumption) ?_
          try simp only [cMi, zup_ap, Nat.reduceEqDiff, false_and, ↓reduceIte]
          refine z_dup2 iX5_setCounting_92 rfl rfl ?_
          refine e_iald iX5_setCounting_93 rfl ho.1 ?_
          try simp only [cMi, zup_ap, Nat.reduceEqDiff, false_and, ↓reduceIte]
          refine z_iload iX5_setCounting_94 rfl ?_
          refine z_aload iX5_setCounting_95 rfl ?_
          refine e_getR iX5_setCounting_96 fX5_21 rfl ?_
          try simp only [cMi, zup_ap, Nat.reduceEqDiff, false_and, ↓reduceIte]
          refine z_iload iX5_setCounting_99 rfl ?_
          refine e_iald iX5_setCounting_100 rfl (by assumption) ?_
          try simp only [cMi, zup_ap, Nat.reduceEqDiff, false_and, ↓reduceIte]
          refine z_imul iX5_setCounting_101 ?_
          refine z_iadd iX5_setCounting_102 ?_
          refine e_iast iX5_setCounting_103 rfl ho.1 ?_
          refine z_goto iX5_setCounting_104 ?_
          exact e_vret iX5_setCounting_132 rfl ⟨rfl, by rw [cSc, if_neg c7, if_neg c34, if_pos c79]; simp only [c19, ↓reduceIte]⟩
      · refine z_aload iX5_setCounting_37 rfl ?_
        refine e_getR iX5_setCounting_38 fX5_35 rfl ?_
        try simp only [cMi, zup_ap, Nat.reduceEqDiff, false_and, ↓reduceIte]
        refine z_aload iX5_setCounting_41 rfl ?_
        refine z_aload iX5_setCounting_42 rfl ?_
        refine e_getR iX5_setCounting_43 fX5_18 rfl ?_
        try simp only [cMi, zup_ap, Nat.reduceEqDiff, false_and, ↓reduceIte]
        refine z_iload iX5_setCounting_46 rfl ?_
        refine e_iald iX5_setCounting_47 rfl (by assumption) ?_
        try simp only [cMi, zup_ap, Nat.reduceEqDiff, false_and, ↓reduceIte]
        refine z_aload iX5_setCounting_48 rfl ?_
        refine e_getR iX5_setCounting_49 fX5_15 rfl ?_
        try simp only [cMi, zup_ap, Nat.reduceEqDiff, false_and, ↓reduceIte]
        refine z_iload iX5_setCounting_52 rfl ?_
        refine e_iald iX5_setCounting_53 rfl (by assumption) ?_
        try simp only [cMi, zup_ap, Nat.reduceEqDiff, false_and, ↓reduceIte]
        refine e_callV iX5_setCounting_54 kX5_49 (tX5_markIndex (zup F 16 (zn i) b) (F 14 (zn i)) (F 13 (zn i)) (ho.2.1 c34).1 (ho.2.1 c34).2.1) rfl rfl rfl ⟨Nat.le_of_ble_eq_true rfl, Nat.le_of_ble_eq_true rfl⟩ ⟨Nat.le_of_ble_eq_true rfl, Nat.le_of_ble_eq_true rfl⟩ (Nat.le_of_ble_eq_true rfl) ?_
        dsimp only [Option.toList, List.cons_append, List.nil_append]
        try simp only [cMi, zup_ap, Nat.reduceEqDiff, false_and, ↓reduceIte]
        refine z_dup2 iX5_setCounting_57 rfl rfl ?_
        refine e_iald iX5_setCounting_58 rfl (ho.2.1 c34).2.2 ?_
        try simp only [cMi, zup_ap, Nat.reduceEqDiff, false_and, ↓reduceIte]
        refine z_iload iX5_setCounting_59 rfl ?_
        refine z_aload iX5_setCounting_60 rfl ?_
        refine e_getR iX5_setCounting_61 fX5_21 rfl ?_
        try simp only [cMi, zup_ap, Nat.reduceEqDiff, false_and, ↓reduceIte]
        refine z_iload iX5_setCounting_64 rfl ?_
        refine e_iald iX5_setCounting_65 rfl (by assumption) ?_
        try simp only [cMi, zup_ap, Nat.reduceEqDiff, false_and, ↓reduceIte]
        refine z_imul iX5_setCounting_66 ?_
        refine z_iadd iX5_setCounting_67 ?_
        refine e_iast iX5_setCounting_68 rfl (ho.2.1 c34).2.2 ?_
        refine z_goto iX5_setCounting_69 ?_
        exact e_vret iX5_setCounting_132 rfl ⟨rfl, by rw [cSc, if_neg c7, if_pos c34]; simp only [c19, ↓reduceIte]⟩
  · exact e_vret iX5_setCounting_10 rfl ⟨rfl, by rw [cSc, if_pos c7]⟩

/-- the events behind are taken out one by one -/
def cCut (F : zFt) (ev : Nat) : Nat → zFt
  | 0 => F
  | a + 1 => zup (cSc (cCut F ev a) (ev - 1 - a) 0) 11 6 (nI (ev - 1 - a))
theorem cSc_ne (F : zFt) (i : Nat) (b : Int32) {k : Nat} (h : k ≠ 16) (h2 : k ≠ 17) (h3 : k ≠ 18) (h4 : k ≠ 19) (j : Nat) : cSc F i b k j = F k j := by
  unfold cSc
  split
  · rfl
  · split
    · simp [zup_ap, h, h3]
    · split
      · simp [zup_ap, h, h2]
      · simp [zup_ap, h, h4]
theorem cCut_ne (F : zFt) (ev : Nat) {k : Nat} (h0 : k ≠ 11) (h : k ≠ 16) (h2 : k ≠ 17) (h3 : k ≠ 18) (h4 : k ≠ 19) (j : Nat) : ∀ a, cCut F ev a k j = F k j
  | 0 => rfl
  | a + 1 => by
    rw [cCut, zup_ap, if_neg (by omega), cSc_ne _ _ _ h h2 h3 h4, cCut_ne F ev h0 h h2 h3 h4 j a]
theorem okE_eq {F G : zFt} {i : Nat} (h : okE F i) (e : ∀ k j, k = 5 ∨ k = 9 ∨ k = 12 ∨ k = 13 ∨ k = 14 ∨ k = 15 → G k j = F k j) : okE G i := by
  simp only [okE, cMi, e 5 _ (by decide), e 9 _ (by decide), e 12 _ (by decide), e 13 _ (by decide), e 14 _ (by decide), e 15 _ (by decide)]
  exact h
theorem okE_cut {F : zFt} {ev i : Nat} (h : okE F i) (a : Nat) : okE (cCut F ev a) i := okE_eq h (fun k j hk => cCut_ne F ev (by omega) (by omega) (by omega) (by omega) (by omega) j a)
theorem dn_1 {ev a : Nat} (h : a < ev) : nI (ev - a) - 1 = nI (ev - 1 - a) := by
  rw [nI_s1 (by omega), show ev - a - 1 = ev - 1 - a by omega]

set_option maxRecDepth 100000 in
theorem lpX5_cutTo {L : Nat} {Z : zZt} (F : zFt) (m : Int32) (h0 : 0 ≤ (F 11 6).toInt) (h4 : zn (F 11 6) ≤ 400) (hm : 0 ≤ m.toInt) (hle : zn m ≤ zn (F 11 6)) (ho : ∀ i, i < zn (F 11 6) → okE F i) (kk : zEV mX5_cutTo (zrm 2 0 0) Z 29 [some (.ref 11), some (.int m), some (.int (nI (zn (F 11 6) - (zn (F 11 6) - zn m)) - 1))] [] 111 (zE L (cCut F (zn (F 11 6)) (zn (F 11 6) - zn m))) 0 0) : ∀ (n a : Nat), a + n = zn (F 11 6) - zn m → zEV mX5_cutTo (zrm 2 0 0) Z 7 [some (.ref 11), some (.int m), some (.int (nI (zn (F 11 6) - a) - 1))] [] 111 (zE L (cCut F (zn (F 11 6)) a)) 0 0 := by
  intro n
  induction n with
  | zero =>
    intro a ha
    obtain rfl : a = zn (F 11 6) - zn m := by omega
    refine z_iload iX5_cutTo_7 rfl ?_
    refine z_iload iX5_cutTo_8 rfl ?_
    refine z_icmp_lt iX5_cutTo_9 (fun c9 => ?_) (fun c9 => ?_)
    · exact kk
    · refine absurd ?_ c9
      rw [show zn (F 11 6) - (zn (F 11 6) - zn m) = zn m by omega, nI_zn hm, Int32.lt_iff_toInt_lt, tI_sub]
      have := tI_hi m
      simp
      omega
  | succ n ih =>
    intro a ha
    refine z_iload iX5_cutTo_7 rfl ?_
    refine z_iload iX5_cutTo_8 rfl ?_
    refine z_icmp_lt iX5_cutTo_9 (fun c9 => ?_) (fun c9 => ?_)
    · refine absurd c9 ?_
      rw [dn_1 (by omega), Int32.lt_iff_toInt_lt, nI_int (by omega)]
      have := zn_int hm
      omega
    · rw [dn_1 (by omega)]
      refine z_aload iX5_cutTo_12 rfl ?_
      refine z_iload iX5_cutTo_13 rfl ?_
      refine z_push iX5_cutTo_14 ?_
      refine e_callV iX5_cutTo_15 kX5_45 (tX5_setCounting (cCut F (zn (F 11 6)) a) (nI (zn (F 11 6) - 1 - a)) 0 (vin_mk (by omega)) (Or.inl rfl) (by rw [zn_nI (by omega)]; exact okE_cut (ho _ (by omega)) a)) rfl rfl rfl ⟨Nat.le_of_ble_eq_true rfl, Nat.le_of_ble_eq_true rfl⟩ ⟨Nat.le_of_ble_eq_true rfl, Nat.le_of_ble_eq_true rfl⟩ (Nat.le_of_ble_eq_true rfl) ?_
      dsimp only [Option.toList, List.cons_append, List.nil_append]
      rw [zn_nI (by omega)]
      refine z_aload iX5_cutTo_18 rfl ?_
      refine z_iload iX5_cutTo_19 rfl ?_
      refine e_putI iX5_cutTo_20 fX5_28 fw5_6 rfl ?_
      refine z_iinc (v := (-1)) iX5_cutTo_23 (by decide) (by decide) rfl rfl ?_
      dsimp only [List.set_cons_zero, List.set_cons_succ]
      refine z_goto iX5_cutTo_26 ?_
      exact z_to (by rw [show zn (F 11 6) - 1 - a = zn (F 11 6) - (a + 1) by omega, Int32.sub_eq_add_neg]) rfl (ih (a + 1) (by omega))

set_option maxRecDepth 100000 in
theorem tX5_cutTo {L : Nat} (F : zFt) (m : Int32) (h0 : 0 ≤ (F 11 6).toInt) (h4 : zn (F 11 6) ≤ 400) (hm : 0 ≤ m.toInt) (hle : zn m ≤ zn (F 11 6)) (ho : ∀ i, i < zn (F 11 6) → okE F i) : zFn mX5_cutTo 2 [.ref 11, .int m] L F none (cCut F (zn (F 11 6)) (zn (F 11 6) - zn m)) := by
  refine e_of (lo := [some (.ref 11), some (.int m), none]) (by decide +kernel) (Nat.le_of_ble_eq_true rfl) rfl ?_
  refine z_aload iX5_cutTo_0 rfl ?_
  refine e_getI iX5_cutTo_1 fX5_28 rfl ?_
  refine z_push iX5_cutTo_4 ?_
  refine z_isub iX5_cutTo_5 ?_
  refine z_istore iX5_cutTo_6 rfl ?_
  dsimp only [List.set_cons_zero, List.set_cons_succ]
  refine z_to (lo' := [some (.ref 11), some (.int m), some (.int (nI (zn (F 11 6) - 0) - 1))]) (by rw [Nat.sub_zero, nI_zn h0]) rfl (lpX5_cutTo F m h0 h4 hm hle ho ?_ _ 0 (Nat.zero_add _))
  exact e_vret iX5_cutTo_29 rfl ⟨rfl, rfl⟩

theorem zup_self {F : zFt} {k i : Nat} {v : Int32} (h : F k i = v) : zup F k i v = F := by
  funext a b
  rw [zup_ap]
  split
  · rename_i q
    rw [q.1, q.2, h]
  · rfl
abbrev cAp1 (F : zFt) (s j e m : Int32) : zFt := zup (zup (zup (zup (zup F 12 (zn (F 11 6)) s) 13 (zn (F 11 6)) j) 14 (zn (F 11 6)) e) 15 (zn (F 11 6)) m) 11 6 (F 11 6 + 1)

abbrev cAp0 (F : zFt) (s j e m : Int32) : zFt := zup (zup (zup (zup (zup (zup F 12 (zn (F 11 6)) s) 13 (zn (F 11 6)) j) 14 (zn (F 11 6)) e) 15 (zn (F 11 6)) m) 16 (zn (F 11 6)) 0) 11 6 (F 11 6 + 1)

theorem cAp1_eq {F : zFt} (hz : F 16 (zn (F 11 6)) = 0) (s j e m : Int32) : cAp0 F s j e m = cAp1 F s j e m := by
  rw [cAp0, cAp1, zup_self (k := 16)]
  rw [zup_ap, if_neg (by omega), zup_ap, if_neg (by omega), zup_ap, if_neg (by omega), zup_ap, if_neg (by omega)]
  exact hz

set_option maxRecDepth 100000 in
theorem tX5_append {L : Nat} (F : zFt) (s : Int32) (j : Int32) (e : Int32) (m : Int32) (hi : vp_in (F 11 6) 400) (ho : okE (cAp0 F s j e m) (zn (F 11 6))) (hz : F 16 (zn (F 11 6)) = 0) : zFn mX5_append 2 [.ref 11, .int s, .int j, .int e, .int m] L F none (cSc (cAp0 F s j e m) (zn (F 11 6)) 1) := by
  refine e_of (lo := [some (.ref 11), some (.int s), some (.int j), some (.int e), some (.int m), none]) (by decide +kernel) (Nat.le_of_ble_eq_true rfl) rfl ?_
  rw [cAp1_eq hz] at ho ⊢
  refine z_aload iX5_append_0 rfl ?_
  refine e_getI iX5_append_1 fX5_28 rfl ?_
  refine z_istore iX5_append_4 rfl ?_
  dsimp only [List.set_cons_zero, List.set_cons_succ]
  refine z_aload iX5_append_6 rfl ?_
  refine e_getR iX5_append_7 fX5_9 rfl ?_
  refine z_iload iX5_append_10 rfl ?_
  refine z_iload iX5_append_12 rfl ?_
  refine e_iast iX5_append_13 rfl (by assumption) ?_
  refine z_aload iX5_append_14 rfl ?_
  refine e_getR iX5_append_15 fX5_15 rfl ?_
  try simp only [zup_ap, Nat.add_left_cancel_iff, Nat.reduceEqDiff, false_and, true_and, and_self, eq_self, ↓reduceIte]
  refine z_iload iX5_append_18 rfl ?_
  refine z_iload iX5_append_20 rfl ?_
  refine e_iast iX5_append_21 rfl (by assumption) ?_
  refine z_aload iX5_append_22 rfl ?_
  refine e_getR iX5_append_23 fX5_18 rfl ?_
  try simp only [zup_ap, Nat.add_left_cancel_iff, Nat.reduceEqDiff, false_and, true_and, and_self, eq_self, ↓reduceIte]
  refine z_iload iX5_append_26 rfl ?_
  refine z_iload iX5_append_28 rfl ?_
  refine e_iast iX5_append_29 rfl (by assumption) ?_
  refine z_aload iX5_append_30 rfl ?_
  refine e_getR iX5_append_31 fX5_21 rfl ?_
  try simp only [zup_ap, Nat.add_left_cancel_iff, Nat.reduceEqDiff, false_and, true_and, and_self, eq_self, ↓reduceIte]
  refine z_iload iX5_append_34 rfl ?_
  refine z_iload iX5_append_36 rfl ?_
  refine e_iast iX5_append_38 rfl (by assumption) ?_
  refine z_aload iX5_append_39 rfl ?_
  refine z_dup iX5_append_40 rfl ?_
  refine e_getI iX5_append_41 fX5_28 rfl ?_
  try simp only [zup_ap, Nat.add_left_cancel_iff, Nat.reduceEqDiff, false_and, true_and, and_self, eq_self, ↓reduceIte]
  refine z_push iX5_append_44 ?_
  refine z_iadd iX5_append_45 ?_
  refine e_putI iX5_append_46 fX5_28 fw5_6 rfl ?_
  refine z_aload iX5_append_49 rfl ?_
  refine z_iload iX5_append_50 rfl ?_
  refine z_push iX5_append_52 ?_
  refine e_callV iX5_append_53 kX5_45 (tX5_setCounting (cAp1 F s j e m) (F 11 6) 1 hi (Or.inr rfl) ho) rfl rfl rfl ⟨Nat.le_of_ble_eq_true rfl, Nat.le_of_ble_eq_true rfl⟩ ⟨Nat.le_of_ble_eq_true rfl, Nat.le_of_ble_eq_true rfl⟩ (Nat.le_of_ble_eq_true rfl) ?_
  dsimp only [Option.toList, List.cons_append, List.nil_append]
  try simp only [zup_ap, Nat.add_left_cancel_iff, Nat.reduceEqDiff, false_and, true_and, and_self, eq_self, ↓reduceIte]
  exact e_vret iX5_append_56 rfl ⟨rfl, rfl⟩
