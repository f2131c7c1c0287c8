def zi3 (v l h : Int32) : Bool := !decide (v < l) && !decide (h < v)
theorem zi3_zin {c x : Int32} (h : 0 ≤ x.toInt) : zi3 c 0 (x - 1) = zin c x := by
  have h1 := tI_hi x
  have e : (x - 1).toInt = x.toInt - 1 := by
    rw [tI_sub]
    simp
    omega
  simp only [zi3, zin]
  congr 2
  rw [decide_eq_decide, Int32.lt_iff_toInt_lt, Int32.le_iff_toInt_le, e]
  omega

set_option maxRecDepth 100000 in
theorem tX8_in {L : Nat} (F : zFt) (v : Int32) (l : Int32) (h : Int32) : zFn mX8_in 0 [.int v, .int l, .int h] L F (some (.int (zb (zi3 v l h)))) F := by
  refine e_of (lo := [some (.int v), some (.int l), some (.int h)]) (by decide +kernel) (Nat.le_of_ble_eq_true rfl) rfl ?_
  refine z_iload iX8_in_0 rfl ?_
  refine z_iload iX8_in_1 rfl ?_
  refine z_icmp_lt iX8_in_2 (fun c2 => ?_) (fun c2 => ?_)
  · refine z_push iX8_in_14 ?_
    exact e_bret iX8_in_15 rfl (by first | exact Or.inl rfl | exact Or.inr rfl | exact zb_01 _ | assumption) ⟨by simp [zb, zi3, *], rfl⟩
  · refine z_iload iX8_in_5 rfl ?_
    refine z_iload iX8_in_6 rfl ?_
    refine z_icmp_gt iX8_in_7 (fun c7 => ?_) (fun c7 => ?_)
    · refine z_push iX8_in_14 ?_
      exact e_bret iX8_in_15 rfl (by first | exact Or.inl rfl | exact Or.inr rfl | exact zb_01 _ | assumption) ⟨by simp [zb, zi3, *], rfl⟩
    · refine z_push iX8_in_10 ?_
      refine z_goto iX8_in_11 ?_
      exact e_bret iX8_in_15 rfl (by first | exact Or.inl rfl | exact Or.inr rfl | exact zb_01 _ | assumption) ⟨by simp [zb, zi3, *], rfl⟩

set_option maxRecDepth 100000 in
theorem tX8_isClass {L : Nat} (F : zFt) (c : Int32) (h : 0 ≤ (F 75 0).toInt) : zFn mX8_isClass 1 [.ref 75, .int c] L F (some (.int (zb (zin c (F 75 0))))) F := by
  refine e_of (lo := [some (.ref 75), some (.int c)]) (by decide +kernel) (Nat.le_of_ble_eq_true rfl) rfl ?_
  refine z_iload iX8_isClass_0 rfl ?_
  refine z_push iX8_isClass_1 ?_
  refine z_aload iX8_isClass_2 rfl ?_
  refine e_getI iX8_isClass_3 fX8_120 rfl ?_
  refine z_push iX8_isClass_6 ?_
  refine z_isub iX8_isClass_7 ?_
  refine e_callS iX8_isClass_8 kX8_123 (tX8_in F _ _ _) rfl rfl ⟨Nat.le_of_ble_eq_true rfl, Nat.le_of_ble_eq_true rfl⟩ ⟨Nat.le_of_ble_eq_true rfl, Nat.le_of_ble_eq_true rfl⟩ (Nat.le_of_ble_eq_true rfl) ?_
  dsimp only [Option.toList, List.cons_append, List.nil_append]
  exact e_bret iX8_isClass_11 rfl (by first | exact Or.inl rfl | exact Or.inr rfl | exact zb_01 _ | assumption) ⟨by rw [zi3_zin h], rfl⟩

set_option maxRecDepth 100000 in
theorem tX8_isEntry {L : Nat} (F : zFt) (c : Int32) (h : 0 ≤ (F 75 9).toInt) : zFn mX8_isEntry 1 [.ref 75, .int c] L F (some (.int (zb (zin c (F 75 9))))) F := by
  refine e_of (lo := [some (.ref 75), some (.int c)]) (by decide +kernel) (Nat.le_of_ble_eq_true rfl) rfl ?_
  refine z_iload iX8_isEntry_0 rfl ?_
  refine z_push iX8_isEntry_1 ?_
  refine z_aload iX8_isEntry_2 rfl ?_
  refine e_getI iX8_isEntry_3 fX8_127 rfl ?_
  refine z_push iX8_isEntry_6 ?_
  refine z_isub iX8_isEntry_7 ?_
  refine e_callS iX8_isEntry_8 kX8_123 (tX8_in F _ _ _) rfl rfl ⟨Nat.le_of_ble_eq_true rfl, Nat.le_of_ble_eq_true rfl⟩ ⟨Nat.le_of_ble_eq_true rfl, Nat.le_of_ble_eq_true rfl⟩ (Nat.le_of_ble_eq_true rfl) ?_
  dsimp only [Option.toList, List.cons_append, List.nil_append]
  exact e_bret iX8_isEntry_11 rfl (by first | exact Or.inl rfl | exact Or.inr rfl | exact zb_01 _ | assumption) ⟨by rw [zi3_zin h], rfl⟩

set_option maxRecDepth 100000 in
theorem tX8_isJudge {L : Nat} (F : zFt) (c : Int32) (h : 0 ≤ (F 75 7).toInt) : zFn mX8_isJudge 1 [.ref 75, .int c] L F (some (.int (zb (zin c (F 75 7))))) F := by
  refine e_of (lo := [some (.ref 75), some (.int c)]) (by decide +kernel) (Nat.le_of_ble_eq_true rfl) rfl ?_
  refine z_iload iX8_isJudge_0 rfl ?_
  refine z_push iX8_isJudge_1 ?_
  refine z_aload iX8_isJudge_2 rfl ?_
  refine e_getI iX8_isJudge_3 fX8_130 rfl ?_
  refine z_push iX8_isJudge_6 ?_
  refine z_isub iX8_isJudge_7 ?_
  refine e_callS iX8_isJudge_8 kX8_123 (tX8_in F _ _ _) rfl rfl ⟨Nat.le_of_ble_eq_true rfl, Nat.le_of_ble_eq_true rfl⟩ ⟨Nat.le_of_ble_eq_true rfl, Nat.le_of_ble_eq_true rfl⟩ (Nat.le_of_ble_eq_true rfl) ?_
  dsimp only [Option.toList, List.cons_append, List.nil_append]
  exact e_bret iX8_isJudge_11 rfl (by first | exact Or.inl rfl | exact Or.inr rfl | exact zb_01 _ | assumption) ⟨by rw [zi3_zin h], rfl⟩

def nSh (F : zFt) (c : Int32) (a : Nat) : zFt := zup (zfl F 82 (zn (F 75 7)) c a) 75 7 (nI (zn (F 75 7) + a))
theorem zup_same (F : zFt) (k i : Nat) (x : Int32) (h : F k i = x) : zup F k i x = F := by
  funext a b
  rw [zup_ap]
  split
  · rename_i q
    rw [q.1, q.2, h]
  · rfl
theorem nSh_0 (F : zFt) (c : Int32) (h : 0 ≤ (F 75 7).toInt) : nSh F c 0 = F := by
  rw [nSh, zfl_0, Nat.add_zero, nI_zn h]
  exact zup_same F 75 7 _ rfl
theorem nSh_s (F : zFt) (c : Int32) (a : Nat) : zup (zup (nSh F c a) 82 (zn (F 75 7) + a) c) 75 7 (nI (zn (F 75 7) + a + 1)) = nSh F c (a + 1) := by
  rw [nSh, nSh, ← zfl_s]
  funext k i
  simp only [zup_ap, Nat.add_assoc]
  by_cases h : k = 75 ∧ i = 7
  · simp [h]
  · simp only [h, if_false]
theorem nSh_j (F : zFt) (c : Int32) (a : Nat) : nSh F c a 75 7 = nI (zn (F 75 7) + a) := by
  rw [nSh, zup_ap, if_pos ⟨rfl, rfl⟩]
theorem nSh_0c (F : zFt) (c : Int32) (a : Nat) : nSh F c a 75 0 = F 75 0 := by
  rw [nSh, zup_ap, if_neg (by omega), zfl_ap, if_neg (by omega)]

set_option maxRecDepth 100000 in
theorem lpX8_show {L : Nat} {Z : zZt} (F : zFt) (s m : Int32) (h0 : 0 ≤ m.toInt) (hj : 0 ≤ (F 75 7).toInt) (h6 : zn (F 75 7) + zn m ≤ 60) (kk : zEV mX8_show (zrm 1 0 0) Z 102 [some (.ref 75), some (.int s), some (.int m), some (.int (nI (zn m)))] [] 111 (zE L (nSh F (F 75 0) (zn m))) 0 0) : ∀ (n a : Nat), a + n = zn m → zEV mX8_show (zrm 1 0 0) Z 68 [some (.ref 75), some (.int s), some (.int m), some (.int (nI a))] [] 111 (zE L (nSh F (F 75 0) a)) 0 0 := by
  intro n
  induction n with
  | zero =>
    intro a ha
    obtain rfl : a = zn m := by omega
    refine z_iload iX8_show_68 rfl ?_
    refine z_iload iX8_show_69 rfl ?_
    refine z_icmp_ge iX8_show_70 (fun c70 => ?_) (fun c70 => ?_)
    · exact kk
    · exact absurd (up_end h0 rfl) c70
  | succ n ih =>
    intro a ha
    refine z_iload iX8_show_68 rfl ?_
    refine z_iload iX8_show_69 rfl ?_
    refine z_icmp_ge iX8_show_70 (fun c70 => ?_) (fun c70 => ?_)
    · exact absurd c70 (up_in (x := (m)) (by omega))
    · have ej := nSh_j F (F 75 0) a
      have ec := nSh_0c F (F 75 0) a
      refine z_aload iX8_show_73 rfl ?_
      refine e_getR iX8_show_74 fX8_29 rfl ?_
      refine z_aload iX8_show_77 rfl ?_
      refine e_getI iX8_show_78 fX8_130 rfl ?_
      rw [ej]
      refine z_aload iX8_show_81 rfl ?_
      refine e_getI iX8_show_82 fX8_120 rfl ?_
      rw [ec]
      refine e_iast iX8_show_85 rfl (vin_mk (n := 60) (by omega)) ?_
      rw [zn_nI (by omega)]
      refine z_aload iX8_show_86 rfl ?_
      refine z_dup iX8_show_87 rfl ?_
      refine e_getI iX8_show_88 fX8_130 rfl ?_
      rw [zup_ap, if_neg (by omega), ej]
      refine z_push iX8_show_91 ?_
      refine z_iadd iX8_show_92 ?_
      refine e_putI iX8_show_93 fX8_130 fw8_7 rfl ?_
      rw [nI_1, nSh_s]
      refine z_iinc (v := 1) iX8_show_96 (by decide) (by decide) rfl rfl ?_
      dsimp only [List.set_cons_zero, List.set_cons_succ]
      refine z_goto iX8_show_99 ?_
      exact z_to (by simp [zfold, nI_1, *]) rfl (ih (a + 1) (by omega))

def qShow (F : zFt) (s m : Int32) : Int32 × zFt := if zi3 s 0 3 = false then (-102, F) else if zi3 m 1 5 = false then (-102, F) else if F 75 0 = 12 then (-104, F) else (F 75 0 + 1 - 1, zup (nSh (zup (zup (zup F 76 (zn (F 75 0)) s) 77 (zn (F 75 0)) (F 75 7)) 78 (zn (F 75 0)) m) (F 75 0) (zn m)) 75 0 (F 75 0 + 1))

theorem zi3_t {v l h : Int32} (q : zi3 v l h = true) : l.toInt ≤ v.toInt ∧ v.toInt ≤ h.toInt := by
  simp only [zi3, Bool.and_eq_true, Bool.not_eq_true', decide_eq_false_iff_not, Int32.lt_iff_toInt_lt] at q
  omega
theorem zi3_15 {m : Int32} (q : zi3 m 1 5 = true) : 0 ≤ m.toInt ∧ 1 ≤ zn m ∧ zn m ≤ 5 := by
  have h := zi3_t q
  simp at h
  have := zn_int (x := m) (by omega)
  omega
theorem ne_vin {x : Int32} {n : Nat} {m : Int32} (h : vp_in x (n + 1)) (hne : ¬ x = m) (hm : m.toInt = n) : vp_in x n := by
  rw [vin] at h ⊢
  have h2 : x.toInt ≠ n := fun q => hne (by rw [tI_eq, q, hm])
  omega
abbrev nS3 (F : zFt) (s m : Int32) : zFt := zup (zup (zup F 76 (zn (F 75 0)) s) 77 (zn (F 75 0)) (F 75 7)) 78 (zn (F 75 0)) m

set_option maxRecDepth 100000 in
theorem tX8_show {L : Nat} (F : zFt) (s : Int32) (m : Int32) (hc : vp_in (F 75 0) 13) (hj : 0 ≤ (F 75 7).toInt) (h6 : zn (F 75 7) ≤ 5 * zn (F 75 0)) : zFn mX8_show 1 [.ref 75, .int s, .int m] L F (some (.int (qShow F s m).1)) (qShow F s m).2 := by
  refine e_of (lo := [some (.ref 75), some (.int s), some (.int m), none]) (by decide +kernel) (Nat.le_of_ble_eq_true rfl) rfl ?_
  refine z_iload iX8_show_0 rfl ?_
  refine z_push iX8_show_1 ?_
  refine z_push iX8_show_2 ?_
  refine e_callS iX8_show_3 kX8_123 (tX8_in F _ _ _) rfl rfl ⟨Nat.le_of_ble_eq_true rfl, Nat.le_of_ble_eq_true rfl⟩ ⟨Nat.le_of_ble_eq_true rfl, Nat.le_of_ble_eq_true rfl⟩ (Nat.le_of_ble_eq_true rfl) ?_
  dsimp only [Option.toList, List.cons_append, List.nil_append]
  refine z_if_eq iX8_show_6 (fun c6 => ?_) (fun c6 => ?_)
  · rw [zb_0] at c6
    refine z_push iX8_show_18 ?_
    exact e_iret iX8_show_20 rfl ⟨by simp [qShow, c6], by simp [qShow, c6]⟩
  · rw [zb_n] at c6
    refine z_iload iX8_show_9 rfl ?_
    refine z_push iX8_show_10 ?_
    refine z_push iX8_show_11 ?_
    refine e_callS iX8_show_12 kX8_123 (tX8_in F _ _ _) rfl rfl ⟨Nat.le_of_ble_eq_true rfl, Nat.le_of_ble_eq_true rfl⟩ ⟨Nat.le_of_ble_eq_true rfl, Nat.le_of_ble_eq_true rfl⟩ (Nat.le_of_ble_eq_true rfl) ?_
    dsimp only [Option.toList, List.cons_append, List.nil_append]
    refine z_if_ne iX8_show_15 (fun c15 => ?_) (fun c15 => ?_)
    · rw [zb_n] at c15
      refine z_aload iX8_show_21 rfl ?_
      refine e_getI iX8_show_22 fX8_120 rfl ?_
      refine z_push iX8_show_25 ?_
      refine z_icmp_ne iX8_show_27 (fun c27 => ?_) (fun c27 => ?_)
      · refine z_aload iX8_show_33 rfl ?_
        refine e_getR iX8_show_34 fX8_7 rfl ?_
        refine z_aload iX8_show_37 rfl ?_
        refine e_getI iX8_show_38 fX8_120 rfl ?_
        refine z_iload iX8_show_41 rfl ?_
        refine e_iast iX8_show_42 rfl (ne_vin hc c27 (by decide)) ?_
        refine z_aload iX8_show_43 rfl ?_
        refine e_getR iX8_show_44 fX8_13 rfl ?_
        try simp only [zup_ap, Nat.add_left_cancel_iff, Nat.reduceEqDiff, false_and, true_and, and_self, eq_self, ↓reduceIte]
        refine z_aload iX8_show_47 rfl ?_
        refine e_getI iX8_show_48 fX8_120 rfl ?_
        try simp only [zup_ap, Nat.add_left_cancel_iff, Nat.reduceEqDiff, false_and, true_and, and_self, eq_self, ↓reduceIte]
        refine z_aload iX8_show_51 rfl ?_
        refine e_getI iX8_show_52 fX8_130 rfl ?_
        try simp only [zup_ap, Nat.add_left_cancel_iff, Nat.reduceEqDiff, false_and, true_and, and_self, eq_self, ↓reduceIte]
        refine e_iast iX8_show_55 rfl (ne_vin hc c27 (by decide)) ?_
        refine z_aload iX8_show_56 rfl ?_
        refine e_getR iX8_show_57 fX8_16 rfl ?_
        try simp only [zup_ap, Nat.add_left_cancel_iff, Nat.reduceEqDiff, false_and, true_and, and_self, eq_self, ↓reduceIte]
        refine z_aload iX8_show_60 rfl ?_
        refine e_getI iX8_show_61 fX8_120 rfl ?_
        try simp only [zup_ap, Nat.add_left_cancel_iff, Nat.reduceEqDiff, false_and, true_and, and_self, eq_self, ↓reduceIte]
        refine z_iload iX8_show_64 rfl ?_
        refine e_iast iX8_show_65 rfl (ne_vin hc c27 (by decide)) ?_
        refine z_push iX8_show_66 ?_
        refine z_istore iX8_show_67 rfl ?_
        dsimp only [List.set_cons_zero, List.set_cons_succ]
        refine z_to rfl (nSh_0 (nS3 F s m) (F 75 0) hj).symm ?_
        refine lpX8_show (nS3 F s m) s m (zi3_15 c15).1 hj (by have h1 := (zi3_15 c15).2.2; have h2 := vin_zn (ne_vin hc c27 (by decide)); show zn (F 75 7) + zn m ≤ 60; omega) ?_ _ 0 (Nat.zero_add _)
        have ec := nSh_0c (nS3 F s m) (F 75 0) (zn m)
        refine z_aload iX8_show_102 rfl ?_
        refine z_dup iX8_show_103 rfl ?_
        refine e_getI iX8_show_104 fX8_120 rfl ?_
        rw [show nSh (nS3 F s m) ((nS3 F s m) 75 0) (zn m) 75 0 = F 75 0 from ec]
        refine z_push iX8_show_107 ?_
        refine z_iadd iX8_show_108 ?_
        refine e_putI iX8_show_109 fX8_120 fw8_0 rfl ?_
        refine z_aload iX8_show_112 rfl ?_
        refine e_getI iX8_show_113 fX8_120 rfl ?_
        try simp only [zup_ap, Nat.add_left_cancel_iff, Nat.reduceEqDiff, false_and, true_and, and_self, eq_self, ↓reduceIte]
        refine z_push iX8_show_116 ?_
        refine z_isub iX8_show_117 ?_
        exact e_iret iX8_show_118 rfl ⟨by simp [qShow, c6, c15, c27], by simp [qShow, c6, c15, c27]⟩
      · refine z_push iX8_show_30 ?_
        exact e_iret iX8_show_32 rfl ⟨by simp [qShow, c6, c15, c27], by simp [qShow, c6, c15, c27]⟩
    · rw [zb_0] at c15
      refine z_push iX8_show_18 ?_
      exact e_iret iX8_show_20 rfl ⟨by simp [qShow, c6, c15], by simp [qShow, c6, c15]⟩

def qEntry (F : zFt) (c : Int32) : Int32 × zFt := if zin c (F 75 0) = false then (-101, F) else if F 80 (zn c) = 0 then (if F 75 9 = 60 then (-104, F) else (F 75 9 + 1 - 1, zup (zup (zup F 83 (zn (F 75 9)) c) 79 (zn c) (F 79 (zn c) + 1)) 75 9 (F 75 9 + 1))) else (-103, F)

set_option maxRecDepth 100000 in
theorem tX8_entry {L : Nat} (F : zFt) (c : Int32) (hc : vp_in (F 75 0) 13) (he : vp_in (F 75 9) 61) : zFn mX8_entry 2 [.ref 75, .int c] L F (some (.int (qEntry F c).1)) (qEntry F c).2 := by
  refine e_of (lo := [some (.ref 75), some (.int c)]) (by decide +kernel) (Nat.le_of_ble_eq_true rfl) rfl ?_
  refine z_aload iX8_entry_0 rfl ?_
  refine z_iload iX8_entry_1 rfl ?_
  refine e_callV iX8_entry_2 kX8_133 (tX8_isClass F c (vin_0 hc)) rfl rfl rfl ⟨Nat.le_of_ble_eq_true rfl, Nat.le_of_ble_eq_true rfl⟩ ⟨Nat.le_of_ble_eq_true rfl, Nat.le_of_ble_eq_true rfl⟩ (Nat.le_of_ble_eq_true rfl) ?_
  dsimp only [Option.toList, List.cons_append, List.nil_append]
  refine z_if_ne iX8_entry_5 (fun c5 => ?_) (fun c5 => ?_)
  · rw [zb_n] at c5
    refine z_aload iX8_entry_11 rfl ?_
    refine e_getR iX8_entry_12 fX8_22 rfl ?_
    refine z_iload iX8_entry_15 rfl ?_
    refine e_bald iX8_entry_16 rfl (vin_le (zin_v c5) (vin_le1 hc)) ?_
    refine z_if_eq iX8_entry_17 (fun c17 => ?_) (fun c17 => ?_)
    · refine z_aload iX8_entry_23 rfl ?_
      refine e_getI iX8_entry_24 fX8_127 rfl ?_
      refine z_push iX8_entry_27 ?_
      refine z_icmp_ne iX8_entry_29 (fun c29 => ?_) (fun c29 => ?_)
      · refine z_aload iX8_entry_35 rfl ?_
        refine e_getR iX8_entry_36 fX8_32 rfl ?_
        refine z_aload iX8_entry_39 rfl ?_
        refine e_getI iX8_entry_40 fX8_127 rfl ?_
        refine z_iload iX8_entry_43 rfl ?_
        refine e_iast iX8_entry_44 rfl (ne_vin he c29 (by decide)) ?_
        refine z_aload iX8_entry_45 rfl ?_
        refine e_getR iX8_entry_46 fX8_19 rfl ?_
        try simp only [zup_ap, Nat.add_left_cancel_iff, Nat.reduceEqDiff, false_and, true_and, and_self, eq_self, ↓reduceIte]
        refine z_iload iX8_entry_49 rfl ?_
        refine z_dup2 iX8_entry_50 rfl rfl ?_
        refine e_iald iX8_entry_51 rfl (vin_le (zin_v c5) (vin_le1 hc)) ?_
        try simp only [zup_ap, Nat.add_left_cancel_iff, Nat.reduceEqDiff, false_and, true_and, and_self, eq_self, ↓reduceIte]
        refine z_push iX8_entry_52 ?_
        refine z_iadd iX8_entry_53 ?_
        refine e_iast iX8_entry_54 rfl (vin_le (zin_v c5) (vin_le1 hc)) ?_
        refine z_aload iX8_entry_55 rfl ?_
        refine z_dup iX8_entry_56 rfl ?_
        refine e_getI iX8_entry_57 fX8_127 rfl ?_
        try simp only [zup_ap, Nat.add_left_cancel_iff, Nat.reduceEqDiff, false_and, true_and, and_self, eq_self, ↓reduceIte]
        refine z_push iX8_entry_60 ?_
        refine z_iadd iX8_entry_61 ?_
        refine e_putI iX8_entry_62 fX8_127 fw8_9 rfl ?_
        refine z_aload iX8_entry_65 rfl ?_
        refine e_getI iX8_entry_66 fX8_127 rfl ?_
        try simp only [zup_ap, Nat.add_left_cancel_iff, Nat.reduceEqDiff, false_and, true_and, and_self, eq_self, ↓reduceIte]
        refine z_push iX8_entry_69 ?_
        refine z_isub iX8_entry_70 ?_
        exact e_iret iX8_entry_71 rfl ⟨by simp [qEntry, c5, c17, c29], by simp [qEntry, c5, c17, c29]⟩
      · refine z_push iX8_entry_32 ?_
        exact e_iret iX8_entry_34 rfl ⟨by simp [qEntry, c5, c17, c29], by simp [qEntry, c5, c17, c29]⟩
    · refine z_push iX8_entry_20 ?_
      exact e_iret iX8_entry_22 rfl ⟨by simp [qEntry, c5, c17], by simp [qEntry, c5, c17]⟩
  · rw [zb_0] at c5
    refine z_push iX8_entry_8 ?_
    exact e_iret iX8_entry_10 rfl ⟨by simp [qEntry, c5], by simp [qEntry, c5]⟩

abbrev nPz (F : zFt) (c x y z : Int32) : zFt := zup (zup (zup F 81 (zn (3 * c)) x) 81 (zn (3 * c + 1)) y) 81 (zn (3 * c + 2)) z
def qPrizes (F : zFt) (c x y z : Int32) : Int32 × zFt := if zin c (F 75 0) = false then (-101, F) else if zi3 x 0 1000000 = false then (-102, F) else if zi3 y 0 1000000 = false then (-102, F) else if zi3 z 0 1000000 = false then (-102, F) else if F 80 (zn c) = 0 then (0, nPz F c x y z) else (-103, F)
theorem ix3m {c : Int32} (h : vp_in c 12) : vp_in (3 * c) 36 ∧ vp_in (3 * c + 1) 36 ∧ vp_in (3 * c + 2) 36 := by
  rw [Int32.mul_comm]
  exact ix3 h

set_option maxRecDepth 100000 in
theorem tX8_prizes {L : Nat} (F : zFt) (c : Int32) (x : Int32) (y : Int32) (z : Int32) (hc : vp_in (F 75 0) 13) : zFn mX8_prizes 2 [.ref 75, .int c, .int x, .int y, .int z] L F (some (.int (qPrizes F c x y z).1)) (qPrizes F c x y z).2 := by
  refine e_of (lo := [some (.ref 75), some (.int c), some (.int x), some (.int y), some (.int z)]) (by decide +kernel) (Nat.le_of_ble_eq_true rfl) rfl ?_
  refine z_aload iX8_prizes_0 rfl ?_
  refine z_iload iX8_prizes_1 rfl ?_
  refine e_callV iX8_prizes_2 kX8_133 (tX8_isClass F c (vin_0 hc)) rfl rfl rfl ⟨Nat.le_of_ble_eq_true rfl, Nat.le_of_ble_eq_true rfl⟩ ⟨Nat.le_of_ble_eq_true rfl, Nat.le_of_ble_eq_true rfl⟩ (Nat.le_of_ble_eq_true rfl) ?_
  dsimp only [Option.toList, List.cons_append, List.nil_append]
  refine z_if_ne iX8_prizes_5 (fun c5 => ?_) (fun c5 => ?_)
  · rw [zb_n] at c5
    refine z_iload iX8_prizes_11 rfl ?_
    refine z_push iX8_prizes_12 ?_
    refine z_push iX8_prizes_13 ?_
    refine e_callS iX8_prizes_15 kX8_123 (tX8_in F _ _ _) rfl rfl ⟨Nat.le_of_ble_eq_true rfl, Nat.le_of_ble_eq_true rfl⟩ ⟨Nat.le_of_ble_eq_true rfl, Nat.le_of_ble_eq_true rfl⟩ (Nat.le_of_ble_eq_true rfl) ?_
    dsimp only [Option.toList, List.cons_append, List.nil_append]
    refine z_if_eq iX8_prizes_18 (fun c18 => ?_) (fun c18 => ?_)
    · rw [zb_0] at c18
      refine z_push iX8_prizes_42 ?_
      exact e_iret iX8_prizes_44 rfl ⟨by simp [qPrizes, c5, c18], by simp [qPrizes, c5, c18]⟩
    · rw [zb_n] at c18
      refine z_iload iX8_prizes_21 rfl ?_
      refine z_push iX8_prizes_22 ?_
      refine z_push iX8_prizes_23 ?_
      refine e_callS iX8_prizes_25 kX8_123 (tX8_in F _ _ _) rfl rfl ⟨Nat.le_of_ble_eq_true rfl, Nat.le_of_ble_eq_true rfl⟩ ⟨Nat.le_of_ble_eq_true rfl, Nat.le_of_ble_eq_true rfl⟩ (Nat.le_of_ble_eq_true rfl) ?_
      dsimp only [Option.toList, List.cons_append, List.nil_append]
      refine z_if_eq iX8_prizes_28 (fun c28 => ?_) (fun c28 => ?_)
      · rw [zb_0] at c28
        refine z_push iX8_prizes_42 ?_
        exact e_iret iX8_prizes_44 rfl ⟨by simp [qPrizes, c5, c18, c28], by simp [qPrizes, c5, c18, c28]⟩
      · rw [zb_n] at c28
        refine z_iload iX8_prizes_31 rfl ?_
        refine z_push iX8_prizes_33 ?_
        refine z_push iX8_prizes_34 ?_
        refine e_callS iX8_prizes_36 kX8_123 (tX8_in F _ _ _) rfl rfl ⟨Nat.le_of_ble_eq_true rfl, Nat.le_of_ble_eq_true rfl⟩ ⟨Nat.le_of_ble_eq_true rfl, Nat.le_of_ble_eq_true rfl⟩ (Nat.le_of_ble_eq_true rfl) ?_
        dsimp only [Option.toList, List.cons_append, List.nil_append]
        refine z_if_ne iX8_prizes_39 (fun c39 => ?_) (fun c39 => ?_)
        · rw [zb_n] at c39
          refine z_aload iX8_prizes_45 rfl ?_
          refine e_getR iX8_prizes_46 fX8_22 rfl ?_
          refine z_iload iX8_prizes_49 rfl ?_
          refine e_bald iX8_prizes_50 rfl (vin_le (zin_v c5) (vin_le1 hc)) ?_
          refine z_if_eq iX8_prizes_51 (fun c51 => ?_) (fun c51 => ?_)
          · refine z_aload iX8_prizes_57 rfl ?_
            refine e_getR iX8_prizes_58 fX8_26 rfl ?_
            refine z_push iX8_prizes_61 ?_
            refine z_iload iX8_prizes_62 rfl ?_
            refine z_imul iX8_prizes_63 ?_
            refine z_iload iX8_prizes_64 rfl ?_
            refine e_iast iX8_prizes_65 rfl (ix3m (vin_le (zin_v c5) (vin_le1 hc))).1 ?_
            refine z_aload iX8_prizes_66 rfl ?_
            refine e_getR iX8_prizes_67 fX8_26 rfl ?_
            try simp only [zup_ap, Nat.add_left_cancel_iff, Nat.reduceEqDiff, false_and, true_and, and_self, eq_self, ↓reduceIte]
            refine z_push iX8_prizes_70 ?_
            refine z_iload iX8_prizes_71 rfl ?_
            refine z_imul iX8_prizes_72 ?_
            refine z_push iX8_prizes_73 ?_
            refine z_iadd iX8_prizes_74 ?_
            refine z_iload iX8_prizes_75 rfl ?_
            refine e_iast iX8_prizes_76 rfl (ix3m (vin_le (zin_v c5) (vin_le1 hc))).2.1 ?_
            refine z_aload iX8_prizes_77 rfl ?_
            refine e_getR iX8_prizes_78 fX8_26 rfl ?_
            try simp only [zup_ap, Nat.add_left_cancel_iff, Nat.reduceEqDiff, false_and, true_and, and_self, eq_self, ↓reduceIte]
            refine z_push iX8_prizes_81 ?_
            refine z_iload iX8_prizes_82 rfl ?_
            refine z_imul iX8_prizes_83 ?_
            refine z_push iX8_prizes_84 ?_
            refine z_iadd iX8_prizes_85 ?_
            refine z_iload iX8_prizes_86 rfl ?_
            refine e_iast iX8_prizes_88 rfl (ix3m (vin_le (zin_v c5) (vin_le1 hc))).2.2 ?_
            refine z_push iX8_prizes_89 ?_
            exact e_iret iX8_prizes_90 rfl ⟨by simp [qPrizes, c5, c18, c28, c39, c51], by simp [qPrizes, c5, c18, c28, c39, c51]⟩
          · refine z_push iX8_prizes_54 ?_
            exact e_iret iX8_prizes_56 rfl ⟨by simp [qPrizes, c5, c18, c28, c39, c51], by simp [qPrizes, c5, c18, c28, c39, c51]⟩
        · rw [zb_0] at c39
          refine z_push iX8_prizes_42 ?_
          exact e_iret iX8_prizes_44 rfl ⟨by simp [qPrizes, c5, c18, c28, c39], by simp [qPrizes, c5, c18, c28, c39]⟩
  · rw [zb_0] at c5
    refine z_push iX8_prizes_8 ?_
    exact e_iret iX8_prizes_10 rfl ⟨by simp [qPrizes, c5], by simp [qPrizes, c5]⟩

abbrev nRu (F : zFt) (x y z : Int32) : zFt := zup (zup (zup (zup F 84 (zn (F 75 11)) x) 85 (zn (F 75 11)) y) 86 (zn (F 75 11)) z) 75 11 (F 75 11 + 1)
def qRule (F : zFt) (x y z : Int32) : Int32 × zFt := if zi3 x 0 3 = false then (-102, F) else if zrk y = false then (-102, F) else if F 75 11 = 24 then (-104, F) else (F 75 11 + 1 - 1, nRu F x y z)

set_option maxRecDepth 100000 in
theorem tX8_rule {L : Nat} (F : zFt) (x : Int32) (y : Int32) (z : Int32) (hr : vp_in (F 75 11) 25) : zFn mX8_rule 1 [.ref 75, .int x, .int y, .int z] L F (some (.int (qRule F x y z).1)) (qRule F x y z).2 := by
  refine e_of (lo := [some (.ref 75), some (.int x), some (.int y), some (.int z), none]) (by decide +kernel) (Nat.le_of_ble_eq_true rfl) rfl ?_
  have tail : ∀ b : Bool, b = zrk y → zEV mX8_rule (zrm 1 0 0) (zZf L (some (.int (qRule F x y z).1)) (qRule F x y z).2) 38 [some (.ref 75), some (.int x), some (.int y), some (.int z), none] [.int (zb b)] 111 (zE L F) 0 0 := by
    intro b hb
    refine z_istore iX8_rule_38 rfl ?_
    dsimp only [List.set_cons_zero, List.set_cons_succ]
    refine z_iload iX8_rule_40 rfl ?_
    refine z_push iX8_rule_41 ?_
    refine z_push iX8_rule_42 ?_
    refine e_callS iX8_rule_43 kX8_123 (tX8_in F _ _ _) rfl rfl ⟨Nat.le_of_ble_eq_true rfl, Nat.le_of_ble_eq_true rfl⟩ ⟨Nat.le_of_ble_eq_true rfl, Nat.le_of_ble_eq_true rfl⟩ (Nat.le_of_ble_eq_true rfl) ?_
    dsimp only [Option.toList, List.cons_append, List.nil_append]
    refine z_if_eq iX8_rule_46 (fun c46 => ?_) (fun c46 => ?_)
    · rw [zb_0] at c46
      refine z_push iX8_rule_54 ?_
      exact e_iret iX8_rule_56 rfl ⟨by simp [qRule, c46], by simp [qRule, c46]⟩
    · rw [zb_n] at c46
      refine z_iload iX8_rule_49 rfl ?_
      refine z_if_ne iX8_rule_51 (fun c51 => ?_) (fun c51 => ?_)
      · rw [zb_n, hb] at c51
        refine z_aload iX8_rule_57 rfl ?_
        refine e_getI iX8_rule_58 fX8_138 rfl ?_
        refine z_push iX8_rule_61 ?_
        refine z_icmp_ne iX8_rule_63 (fun c63 => ?_) (fun c63 => ?_)
        · refine z_aload iX8_rule_69 rfl ?_
          refine e_getR iX8_rule_70 fX8_35 rfl ?_
          refine z_aload iX8_rule_73 rfl ?_
          refine e_getI iX8_rule_74 fX8_138 rfl ?_
          refine z_iload iX8_rule_77 rfl ?_
          refine e_iast iX8_rule_78 rfl (ne_vin hr c63 (by decide)) ?_
          refine z_aload iX8_rule_79 rfl ?_
          refine e_getR iX8_rule_80 fX8_38 rfl ?_
          try simp only [zup_ap, Nat.add_left_cancel_iff, Nat.reduceEqDiff, false_and, true_and, and_self, eq_self, ↓reduceIte]
          refine z_aload iX8_rule_83 rfl ?_
          refine e_getI iX8_rule_84 fX8_138 rfl ?_
          try simp only [zup_ap, Nat.add_left_cancel_iff, Nat.reduceEqDiff, false_and, true_and, and_self, eq_self, ↓reduceIte]
          refine z_iload iX8_rule_87 rfl ?_
          refine e_iast iX8_rule_88 rfl (ne_vin hr c63 (by decide)) ?_
          refine z_aload iX8_rule_89 rfl ?_
          refine e_getR iX8_rule_90 fX8_41 rfl ?_
          try simp only [zup_ap, Nat.add_left_cancel_iff, Nat.reduceEqDiff, false_and, true_and, and_self, eq_self, ↓reduceIte]
          refine z_aload iX8_rule_93 rfl ?_
          refine e_getI iX8_rule_94 fX8_138 rfl ?_
          try simp only [zup_ap, Nat.add_left_cancel_iff, Nat.reduceEqDiff, false_and, true_and, and_self, eq_self, ↓reduceIte]
          refine z_iload iX8_rule_97 rfl ?_
          refine e_iast iX8_rule_98 rfl (ne_vin hr c63 (by decide)) ?_
          refine z_aload iX8_rule_99 rfl ?_
          refine z_dup iX8_rule_100 rfl ?_
          refine e_getI iX8_rule_101 fX8_138 rfl ?_
          try simp only [zup_ap, Nat.add_left_cancel_iff, Nat.reduceEqDiff, false_and, true_and, and_self, eq_self, ↓reduceIte]
          refine z_push iX8_rule_104 ?_
          refine z_iadd iX8_rule_105 ?_
          refine e_putI iX8_rule_106 fX8_138 fw8_11 rfl ?_
          refine z_aload iX8_rule_109 rfl ?_
          refine e_getI iX8_rule_110 fX8_138 rfl ?_
          try simp only [zup_ap, Nat.add_left_cancel_iff, Nat.reduceEqDiff, false_and, true_and, and_self, eq_self, ↓reduceIte]
          refine z_push iX8_rule_113 ?_
          refine z_isub iX8_rule_114 ?_
          exact e_iret iX8_rule_115 rfl ⟨by simp [qRule, c46, c51, c63], by simp [qRule, c46, c51, c63]⟩
        · refine z_push iX8_rule_66 ?_
          exact e_iret iX8_rule_68 rfl ⟨by simp [qRule, c46, c51, c63], by simp [qRule, c46, c51, c63]⟩
      · rw [zb_0, hb] at c51
        refine z_push iX8_rule_54 ?_
        exact e_iret iX8_rule_56 rfl ⟨by simp [qRule, c46, c51], by simp [qRule, c46, c51]⟩
  refine z_iload iX8_rule_0 rfl ?_
  refine z_push iX8_rule_1 ?_
  refine z_icmp_eq iX8_rule_2 (fun c2 => ?_) (fun c2 => ?_)
  · refine z_push iX8_rule_33 ?_
    refine z_goto iX8_rule_34 ?_
    exact tail true (by simp [zrk, c2])
  · refine z_iload iX8_rule_5 rfl ?_
    refine z_push iX8_rule_6 ?_
    refine z_icmp_eq iX8_rule_7 (fun c7 => ?_) (fun c7 => ?_)
    · refine z_push iX8_rule_33 ?_
      refine z_goto iX8_rule_34 ?_
      exact tail true (by simp [zrk, c7])
    · refine z_iload iX8_rule_10 rfl ?_
      refine z_push iX8_rule_11 ?_
      refine z_icmp_eq iX8_rule_12 (fun c12 => ?_) (fun c12 => ?_)
      · refine z_push iX8_rule_33 ?_
        refine z_goto iX8_rule_34 ?_
        exact tail true (by simp [zrk, c12])
      · refine z_iload iX8_rule_15 rfl ?_
        refine z_push iX8_rule_16 ?_
        refine z_icmp_eq iX8_rule_18 (fun c18 => ?_) (fun c18 => ?_)
        · refine z_push iX8_rule_33 ?_
          refine z_goto iX8_rule_34 ?_
          exact tail true (by simp [zrk, c18])
        · refine z_iload iX8_rule_21 rfl ?_
          refine z_push iX8_rule_22 ?_
          refine z_icmp_eq iX8_rule_24 (fun c24 => ?_) (fun c24 => ?_)
          · refine z_push iX8_rule_33 ?_
            refine z_goto iX8_rule_34 ?_
            exact tail true (by simp [zrk, c24])
          · refine z_iload iX8_rule_27 rfl ?_
            refine z_push iX8_rule_28 ?_
            refine z_icmp_ne iX8_rule_30 (fun c30 => ?_) (fun c30 => ?_)
            · refine z_push iX8_rule_37 ?_
              exact tail false (by simp [zrk, c2, c7, c12, c18, c24, c30])
            · refine z_push iX8_rule_33 ?_
              refine z_goto iX8_rule_34 ?_
              exact tail true (by simp [zrk, c30])

def qClear (F : zFt) : Int32 × zFt := (F 75 11, zup F 75 11 0)

set_option maxRecDepth 100000 in
theorem tX8_clearRules {L : Nat} (F : zFt) : zFn mX8_clearRules 0 [.ref 75] L F (some (.int (qClear F).1)) (qClear F).2 := by
  refine e_of (lo := [some (.ref 75), none]) (by decide +kernel) (Nat.le_of_ble_eq_true rfl) rfl ?_
  refine z_aload iX8_clearRules_0 rfl ?_
  refine e_getI iX8_clearRules_1 fX8_138 rfl ?_
  refine z_istore iX8_clearRules_4 rfl ?_
  dsimp only [List.set_cons_zero, List.set_cons_succ]
  refine z_aload iX8_clearRules_5 rfl ?_
  refine z_push iX8_clearRules_6 ?_
  refine e_putI iX8_clearRules_7 fX8_138 fw8_11 rfl ?_
  refine z_iload iX8_clearRules_10 rfl ?_
  exact e_iret iX8_clearRules_11 rfl ⟨rfl, rfl⟩

def qObs (F : zFt) (x : Int32) : Int32 × zFt := if 0 ≤ x then (if F 75 15 = 6 then (-104, F) else (F 75 15 + 1 - 1, zup (zup (zup F 87 (zn (F 75 15)) x) 88 (zn (F 75 15)) 0) 75 15 (F 75 15 + 1))) else (-102, F)

set_option maxRecDepth 100000 in
theorem tX8_observe {L : Nat} (F : zFt) (x : Int32) (hr : vp_in (F 75 15) 7) : zFn mX8_observe 0 [.ref 75, .int x] L F (some (.int (qObs F x).1)) (qObs F x).2 := by
  refine e_of (lo := [some (.ref 75), some (.int x)]) (by decide +kernel) (Nat.le_of_ble_eq_true rfl) rfl ?_
  refine z_iload iX8_observe_0 rfl ?_
  refine z_if_ge iX8_observe_1 (fun c1 => ?_) (fun c1 => ?_)
  · refine z_aload iX8_observe_7 rfl ?_
    refine e_getI iX8_observe_8 fX8_141 rfl ?_
    refine z_push iX8_observe_11 ?_
    refine z_icmp_ne iX8_observe_13 (fun c13 => ?_) (fun c13 => ?_)
    · refine z_aload iX8_observe_19 rfl ?_
      refine e_getR iX8_observe_20 fX8_44 rfl ?_
      refine z_aload iX8_observe_23 rfl ?_
      refine e_getI iX8_observe_24 fX8_141 rfl ?_
      refine z_iload iX8_observe_27 rfl ?_
      refine e_iast iX8_observe_28 rfl (ne_vin hr c13 (by decide)) ?_
      refine z_aload iX8_observe_29 rfl ?_
      refine e_getR iX8_observe_30 fX8_47 rfl ?_
      try simp only [zup_ap, Nat.add_left_cancel_iff, Nat.reduceEqDiff, false_and, true_and, and_self, eq_self, ↓reduceIte]
      refine z_aload iX8_observe_33 rfl ?_
      refine e_getI iX8_observe_34 fX8_141 rfl ?_
      try simp only [zup_ap, Nat.add_left_cancel_iff, Nat.reduceEqDiff, false_and, true_and, and_self, eq_self, ↓reduceIte]
      refine z_push iX8_observe_37 ?_
      refine e_iast iX8_observe_38 rfl (ne_vin hr c13 (by decide)) ?_
      refine z_aload iX8_observe_39 rfl ?_
      refine z_dup iX8_observe_40 rfl ?_
      refine e_getI iX8_observe_41 fX8_141 rfl ?_
      try simp only [zup_ap, Nat.add_left_cancel_iff, Nat.reduceEqDiff, false_and, true_and, and_self, eq_self, ↓reduceIte]
      refine z_push iX8_observe_44 ?_
      refine z_iadd iX8_observe_45 ?_
      refine e_putI iX8_observe_46 fX8_141 fw8_15 rfl ?_
      refine z_aload iX8_observe_49 rfl ?_
      refine e_getI iX8_observe_50 fX8_141 rfl ?_
      try simp only [zup_ap, Nat.add_left_cancel_iff, Nat.reduceEqDiff, false_and, true_and, and_self, eq_self, ↓reduceIte]
      refine z_push iX8_observe_53 ?_
      refine z_isub iX8_observe_54 ?_
      exact e_iret iX8_observe_55 rfl ⟨by simp [qObs, c1, c13], by simp [qObs, c1, c13]⟩
    · refine z_push iX8_observe_16 ?_
      exact e_iret iX8_observe_18 rfl ⟨by simp [qObs, c1, c13], by simp [qObs, c1, c13]⟩
  · refine z_push iX8_observe_4 ?_
    exact e_iret iX8_observe_6 rfl ⟨by simp [qObs, c1], by simp [qObs, c1]⟩
