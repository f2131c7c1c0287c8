set_option maxRecDepth 100000 in
theorem tX6_hasClass {L : Nat} (F : zFt) (c : Int32) : zFn mX6_hasClass 0 [.ref 3, .int c] L F (some (.int (zb (zin c (F 3 7))))) F := by
  refine e_of (lo := [some (.ref 3), some (.int c)]) (by decide +kernel) (Nat.le_of_ble_eq_true rfl) rfl ?_
  refine z_iload iX6_hasClass_0 rfl ?_
  refine z_if_lt iX6_hasClass_1 (fun c1 => ?_) (fun c1 => ?_)
  · refine z_push iX6_hasClass_16 ?_
    exact e_bret iX6_hasClass_17 rfl (by first | exact Or.inl rfl | exact Or.inr rfl | exact zb_01 _ | assumption) ⟨by simp [zb, zin, *], rfl⟩
  · refine z_iload iX6_hasClass_4 rfl ?_
    refine z_aload iX6_hasClass_5 rfl ?_
    refine e_getI iX6_hasClass_6 fX6_34 rfl ?_
    refine z_icmp_ge iX6_hasClass_9 (fun c9 => ?_) (fun c9 => ?_)
    · refine z_push iX6_hasClass_16 ?_
      exact e_bret iX6_hasClass_17 rfl (by first | exact Or.inl rfl | exact Or.inr rfl | exact zb_01 _ | assumption) ⟨by simp [zb, zin, *], rfl⟩
    · refine z_push iX6_hasClass_12 ?_
      refine z_goto iX6_hasClass_13 ?_
      exact e_bret iX6_hasClass_17 rfl (by first | exact Or.inl rfl | exact Or.inr rfl | exact zb_01 _ | assumption) ⟨by simp [zb, zin, *], rfl⟩

set_option maxRecDepth 100000 in
theorem tX6_hasJudge {L : Nat} (F : zFt) (c : Int32) : zFn mX6_hasJudge 0 [.ref 3, .int c] L F (some (.int (zb (zin c (F 3 8))))) F := by
  refine e_of (lo := [some (.ref 3), some (.int c)]) (by decide +kernel) (Nat.le_of_ble_eq_true rfl) rfl ?_
  refine z_iload iX6_hasJudge_0 rfl ?_
  refine z_if_lt iX6_hasJudge_1 (fun c1 => ?_) (fun c1 => ?_)
  · refine z_push iX6_hasJudge_16 ?_
    exact e_bret iX6_hasJudge_17 rfl (by first | exact Or.inl rfl | exact Or.inr rfl | exact zb_01 _ | assumption) ⟨by simp [zb, zin, *], rfl⟩
  · refine z_iload iX6_hasJudge_4 rfl ?_
    refine z_aload iX6_hasJudge_5 rfl ?_
    refine e_getI iX6_hasJudge_6 fX6_38 rfl ?_
    refine z_icmp_ge iX6_hasJudge_9 (fun c9 => ?_) (fun c9 => ?_)
    · refine z_push iX6_hasJudge_16 ?_
      exact e_bret iX6_hasJudge_17 rfl (by first | exact Or.inl rfl | exact Or.inr rfl | exact zb_01 _ | assumption) ⟨by simp [zb, zin, *], rfl⟩
    · refine z_push iX6_hasJudge_12 ?_
      refine z_goto iX6_hasJudge_13 ?_
      exact e_bret iX6_hasJudge_17 rfl (by first | exact Or.inl rfl | exact Or.inr rfl | exact zb_01 _ | assumption) ⟨by simp [zb, zin, *], rfl⟩

set_option maxRecDepth 100000 in
theorem tX6_hasEntry {L : Nat} (F : zFt) (c : Int32) : zFn mX6_hasEntry 0 [.ref 3, .int c] L F (some (.int (zb (zin c (F 3 9))))) F := by
  refine e_of (lo := [some (.ref 3), some (.int c)]) (by decide +kernel) (Nat.le_of_ble_eq_true rfl) rfl ?_
  refine z_iload iX6_hasEntry_0 rfl ?_
  refine z_if_lt iX6_hasEntry_1 (fun c1 => ?_) (fun c1 => ?_)
  · refine z_push iX6_hasEntry_16 ?_
    exact e_bret iX6_hasEntry_17 rfl (by first | exact Or.inl rfl | exact Or.inr rfl | exact zb_01 _ | assumption) ⟨by simp [zb, zin, *], rfl⟩
  · refine z_iload iX6_hasEntry_4 rfl ?_
    refine z_aload iX6_hasEntry_5 rfl ?_
    refine e_getI iX6_hasEntry_6 fX6_41 rfl ?_
    refine z_icmp_ge iX6_hasEntry_9 (fun c9 => ?_) (fun c9 => ?_)
    · refine z_push iX6_hasEntry_16 ?_
      exact e_bret iX6_hasEntry_17 rfl (by first | exact Or.inl rfl | exact Or.inr rfl | exact zb_01 _ | assumption) ⟨by simp [zb, zin, *], rfl⟩
    · refine z_push iX6_hasEntry_12 ?_
      refine z_goto iX6_hasEntry_13 ?_
      exact e_bret iX6_hasEntry_17 rfl (by first | exact Or.inl rfl | exact Or.inr rfl | exact zb_01 _ | assumption) ⟨by simp [zb, zin, *], rfl⟩

set_option maxRecDepth 100000 in
theorem tX6_addEntry {L : Nat} (F : zFt) (c : Int32) (h : vp_in (F 3 9) 60) : zFn mX6_addEntry 0 [.ref 3, .int c] L F (some (.int (F 3 9))) (zup (zup F 10 (zn (F 3 9)) c) 3 9 (F 3 9 + 1)) := by
  refine e_of (lo := [some (.ref 3), some (.int c), none]) (by decide +kernel) (Nat.le_of_ble_eq_true rfl) rfl ?_
  refine z_aload iX6_addEntry_0 rfl ?_
  refine e_getI iX6_addEntry_1 fX6_41 rfl ?_
  refine z_istore iX6_addEntry_4 rfl ?_
  dsimp only [List.set_cons_zero, List.set_cons_succ]
  refine z_aload iX6_addEntry_5 rfl ?_
  refine e_getR iX6_addEntry_6 fX6_31 rfl ?_
  refine z_iload iX6_addEntry_9 rfl ?_
  refine z_iload iX6_addEntry_10 rfl ?_
  refine e_iast iX6_addEntry_11 rfl (by assumption) ?_
  refine z_aload iX6_addEntry_12 rfl ?_
  refine z_dup iX6_addEntry_13 rfl ?_
  refine e_getI iX6_addEntry_14 fX6_41 rfl ?_
  try simp only [zup_ap, Nat.add_left_cancel_iff, Nat.reduceEqDiff, false_and, true_and, and_self, eq_self, ↓reduceIte]
  refine z_push iX6_addEntry_17 ?_
  refine z_iadd iX6_addEntry_18 ?_
  refine e_putI iX6_addEntry_19 fX6_41 fw6_9 rfl ?_
  refine z_iload iX6_addEntry_22 rfl ?_
  exact e_iret iX6_addEntry_23 rfl ⟨rfl, rfl⟩

set_option maxRecDepth 100000 in
theorem tX6_setPrizes {L : Nat} (F : zFt) (c : Int32) (x : Int32) (y : Int32) (z : Int32) (h : vp_in (c * 3) 36) (h1 : vp_in (c * 3 + 1) 36) (h2 : vp_in (c * 3 + 2) 36) : zFn mX6_setPrizes 0 [.ref 3, .int c, .int x, .int y, .int z] L F none (zup (zup (zup F 8 (zn (c * 3)) x) 8 (zn (c * 3 + 1)) y) 8 (zn (c * 3 + 2)) z) := by
  refine e_of (lo := [some (.ref 3), some (.int c), some (.int x), some (.int y), some (.int z)]) (by decide +kernel) (Nat.le_of_ble_eq_true rfl) rfl ?_
  refine z_aload iX6_setPrizes_0 rfl ?_
  refine e_getR iX6_setPrizes_1 fX6_25 rfl ?_
  refine z_iload iX6_setPrizes_4 rfl ?_
  refine z_push iX6_setPrizes_5 ?_
  refine z_imul iX6_setPrizes_6 ?_
  refine z_iload iX6_setPrizes_7 rfl ?_
  refine e_iast iX6_setPrizes_8 rfl (by assumption) ?_
  refine z_aload iX6_setPrizes_9 rfl ?_
  refine e_getR iX6_setPrizes_10 fX6_25 rfl ?_
  try simp only [zup_ap, Nat.add_left_cancel_iff, Nat.reduceEqDiff, false_and, true_and, and_self, eq_self, ↓reduceIte]
  refine z_iload iX6_setPrizes_13 rfl ?_
  refine z_push iX6_setPrizes_14 ?_
  refine z_imul iX6_setPrizes_15 ?_
  refine z_push iX6_setPrizes_16 ?_
  refine z_iadd iX6_setPrizes_17 ?_
  refine z_iload iX6_setPrizes_18 rfl ?_
  refine e_iast iX6_setPrizes_19 rfl (by assumption) ?_
  refine z_aload iX6_setPrizes_20 rfl ?_
  refine e_getR iX6_setPrizes_21 fX6_25 rfl ?_
  try simp only [zup_ap, Nat.add_left_cancel_iff, Nat.reduceEqDiff, false_and, true_and, and_self, eq_self, ↓reduceIte]
  refine z_iload iX6_setPrizes_24 rfl ?_
  refine z_push iX6_setPrizes_25 ?_
  refine z_imul iX6_setPrizes_26 ?_
  refine z_push iX6_setPrizes_27 ?_
  refine z_iadd iX6_setPrizes_28 ?_
  refine z_iload iX6_setPrizes_29 rfl ?_
  refine e_iast iX6_setPrizes_31 rfl (by assumption) ?_
  exact e_vret iX6_setPrizes_32 rfl ⟨rfl, rfl⟩

abbrev gEo (F : zFt) (k : Nat) (c : Int32) : Nat → Int32 → Int32 := fun i a => if F k i = c then a + 1 else a

set_option maxRecDepth 100000 in
theorem lpX6_entriesOf {L : Nat} {R : Room} {Z : zZt} (F : zFt) (c : Int32) (h0 : 0 ≤ (F 3 9).toInt) (h6 : zn (F 3 9) ≤ 60) (kk : zEV mX6_entriesOf R Z 31 [some (.ref 3), some (.int c), some (.int (zfold (gEo F 10 c) 0 (zn (F 3 9)))), some (.int (nI (zn (F 3 9))))] [] 111 (zE L (F)) 0 0) : ∀ (n a : Nat), a + n = zn (F 3 9) → zEV mX6_entriesOf R Z 4 [some (.ref 3), some (.int c), some (.int (zfold (gEo F 10 c) 0 a)), some (.int (nI a))] [] 111 (zE L (F)) 0 0 := by
  intro n
  induction n with
  | zero =>
    intro a ha
    obtain rfl : a = zn (F 3 9) := by omega
    refine z_iload iX6_entriesOf_4 rfl ?_
    refine z_aload iX6_entriesOf_5 rfl ?_
    refine e_getI iX6_entriesOf_6 fX6_41 rfl ?_
    refine z_icmp_ge iX6_entriesOf_9 (fun c9 => ?_) (fun c9 => ?_)
    · exact kk
    · exact absurd (up_end h0 rfl) c9
  | succ n ih =>
    intro a ha
    refine z_iload iX6_entriesOf_4 rfl ?_
    refine z_aload iX6_entriesOf_5 rfl ?_
    refine e_getI iX6_entriesOf_6 fX6_41 rfl ?_
    refine z_icmp_ge iX6_entriesOf_9 (fun c9 => ?_) (fun c9 => ?_)
    · exact absurd c9 (up_in (x := (F 3 9)) (by omega))
    · refine z_aload iX6_entriesOf_12 rfl ?_
      refine e_getR iX6_entriesOf_13 fX6_31 rfl ?_
      refine z_iload iX6_entriesOf_16 rfl ?_
      refine e_iald iX6_entriesOf_17 rfl (vin_mk (n := 60) (by omega)) ?_
      rw [zn_nI (by omega)]
      refine z_iload iX6_entriesOf_18 rfl ?_
      refine z_icmp_ne iX6_entriesOf_19 (fun c19 => ?_) (fun c19 => ?_)
      · refine z_iinc (v := 1) iX6_entriesOf_25 (by decide) (by decide) rfl rfl ?_
        dsimp only [List.set_cons_zero, List.set_cons_succ]
        refine z_goto iX6_entriesOf_28 ?_
        exact z_to (by simp [zfold, nI_1, *]) rfl (ih (a + 1) (by omega))
      · refine z_iinc (v := 1) iX6_entriesOf_22 (by decide) (by decide) rfl rfl ?_
        dsimp only [List.set_cons_zero, List.set_cons_succ]
        refine z_iinc (v := 1) iX6_entriesOf_25 (by decide) (by decide) rfl rfl ?_
        dsimp only [List.set_cons_zero, List.set_cons_succ]
        refine z_goto iX6_entriesOf_28 ?_
        exact z_to (by simp [zfold, nI_1, *]) rfl (ih (a + 1) (by omega))

set_option maxRecDepth 100000 in
theorem tX6_entriesOf {L : Nat} (F : zFt) (c : Int32) (h0 : 0 ≤ (F 3 9).toInt) (h6 : zn (F 3 9) ≤ 60) : zFn mX6_entriesOf 0 [.ref 3, .int c] L F (some (.int (zfold (gEo F 10 c) 0 (zn (F 3 9))))) F := by
  refine e_of (lo := [some (.ref 3), some (.int c), none, none]) (by decide +kernel) (Nat.le_of_ble_eq_true rfl) rfl ?_
  refine z_push iX6_entriesOf_0 ?_
  refine z_istore iX6_entriesOf_1 rfl ?_
  dsimp only [List.set_cons_zero, List.set_cons_succ]
  refine z_push iX6_entriesOf_2 ?_
  refine z_istore iX6_entriesOf_3 rfl ?_
  dsimp only [List.set_cons_zero, List.set_cons_succ]
  refine lpX6_entriesOf F c h0 h6 ?_ _ 0 (Nat.zero_add _)
  refine z_iload iX6_entriesOf_31 rfl ?_
  exact e_iret iX6_entriesOf_32 rfl ⟨rfl, rfl⟩

set_option maxRecDepth 100000 in
theorem lpX6_addClass {L : Nat} {R : Room} {Z : zZt} (F : zFt) (s m c : Int32) (h0 : 0 ≤ m.toInt) (hj : 0 ≤ (F 3 8).toInt) (h6 : zn (F 3 8) + zn m ≤ 60) (kk : zEV mX6_addClass R Z 57 [some (.ref 3), some (.int s), some (.int m), some (.int c), some (.int (nI (zn m)))] [] 111 (zE L (zfl F 9 (zn (F 3 8)) c (zn m))) 0 0) : ∀ (n a : Nat), a + n = zn m → zEV mX6_addClass R Z 32 [some (.ref 3), some (.int s), some (.int m), some (.int c), some (.int (nI a))] [] 111 (zE L (zfl F 9 (zn (F 3 8)) c a)) 0 0 := by
  intro n
  induction n with
  | zero =>
    intro a ha
    obtain rfl : a = zn m := by omega
    refine z_iload iX6_addClass_32 rfl ?_
    refine z_iload iX6_addClass_34 rfl ?_
    refine z_icmp_ge iX6_addClass_35 (fun c35 => ?_) (fun c35 => ?_)
    · exact kk
    · exact absurd (up_end h0 rfl) c35
  | succ n ih =>
    intro a ha
    refine z_iload iX6_addClass_32 rfl ?_
    refine z_iload iX6_addClass_34 rfl ?_
    refine z_icmp_ge iX6_addClass_35 (fun c35 => ?_) (fun c35 => ?_)
    · exact absurd c35 (up_in (x := (m)) (by omega))
    · refine z_aload iX6_addClass_38 rfl ?_
      refine e_getR iX6_addClass_39 fX6_28 rfl ?_
      refine z_aload iX6_addClass_42 rfl ?_
      refine e_getI iX6_addClass_43 fX6_38 rfl ?_
      simp only [zfl_ap, Nat.reduceEqDiff, false_and, ↓reduceIte]
      refine z_iload iX6_addClass_46 rfl ?_
      refine z_iadd iX6_addClass_48 ?_
      refine z_iload iX6_addClass_49 rfl ?_
      refine e_iast iX6_addClass_50 rfl (by rw [← nI_zn hj, nI_add]; exact vin_mk (n := 60) (by omega)) ?_
      rw [show zn (F 3 8 + nI a) = zn (F 3 8) + a by
        have e := nI_zn hj
        rw [← e, nI_add, zn_nI (by omega), e], zfl_s]
      refine z_iinc (v := 1) iX6_addClass_51 (by decide) (by decide) rfl rfl ?_
      dsimp only [List.set_cons_zero, List.set_cons_succ]
      refine z_goto iX6_addClass_54 ?_
      exact z_to (by simp [nI_1]) rfl (ih (a + 1) (by omega))

set_option maxRecDepth 100000 in
theorem tX6_addClass {L : Nat} (F : zFt) (s : Int32) (m : Int32) (h : vp_in (F 3 7) 12) (h0 : 0 ≤ m.toInt) (hj : 0 ≤ (F 3 8).toInt) (h6 : zn (F 3 8) + zn m ≤ 60) : zFn mX6_addClass 0 [.ref 3, .int s, .int m] L F (some (.int (F 3 7))) (zup (zup (zfl (zup (zup (zup F 4 (zn (F 3 7)) s) 5 (zn (F 3 7)) (F 3 8)) 6 (zn (F 3 7)) m) 9 (zn (F 3 8)) (F 3 7) (zn m)) 3 8 (F 3 8 + m)) 3 7 (F 3 7 + 1)) := by
  refine e_of (lo := [some (.ref 3), some (.int s), some (.int m), none, none]) (by decide +kernel) (Nat.le_of_ble_eq_true rfl) rfl ?_
  refine z_aload iX6_addClass_0 rfl ?_
  refine e_getI iX6_addClass_1 fX6_34 rfl ?_
  refine z_istore iX6_addClass_4 rfl ?_
  dsimp only [List.set_cons_zero, List.set_cons_succ]
  refine z_aload iX6_addClass_5 rfl ?_
  refine e_getR iX6_addClass_6 fX6_9 rfl ?_
  refine z_iload iX6_addClass_9 rfl ?_
  refine z_iload iX6_addClass_10 rfl ?_
  refine e_iast iX6_addClass_11 rfl (by assumption) ?_
  refine z_aload iX6_addClass_12 rfl ?_
  refine e_getR iX6_addClass_13 fX6_15 rfl ?_
  try simp only [zup_ap, Nat.add_left_cancel_iff, Nat.reduceEqDiff, false_and, true_and, and_self, eq_self, ↓reduceIte]
  refine z_iload iX6_addClass_16 rfl ?_
  refine z_aload iX6_addClass_17 rfl ?_
  refine e_getI iX6_addClass_18 fX6_38 rfl ?_
  try simp only [zup_ap, Nat.add_left_cancel_iff, Nat.reduceEqDiff, false_and, true_and, and_self, eq_self, ↓reduceIte]
  refine e_iast iX6_addClass_21 rfl (by assumption) ?_
  refine z_aload iX6_addClass_22 rfl ?_
  refine e_getR iX6_addClass_23 fX6_18 rfl ?_
  try simp only [zup_ap, Nat.add_left_cancel_iff, Nat.reduceEqDiff, false_and, true_and, and_self, eq_self, ↓reduceIte]
  refine z_iload iX6_addClass_26 rfl ?_
  refine z_iload iX6_addClass_27 rfl ?_
  refine e_iast iX6_addClass_28 rfl (by assumption) ?_
  refine z_push iX6_addClass_29 ?_
  refine z_istore iX6_addClass_30 rfl ?_
  dsimp only [List.set_cons_zero, List.set_cons_succ]
  have e8 : (zup (zup (zup F 4 (zn (F 3 7)) s) 5 (zn (F 3 7)) (F 3 8)) 6 (zn (F 3 7)) m) 3 8 = F 3 8 := rfl
  refine z_to rfl (zfl_0 _ 9 (zn (F 3 8)) (F 3 7)).symm ?_
  refine lpX6_addClass (zup (zup (zup F 4 (zn (F 3 7)) s) 5 (zn (F 3 7)) (F 3 8)) 6 (zn (F 3 7)) m) s m (F 3 7) h0 hj h6 ?_ _ 0 (Nat.zero_add _)
  refine z_aload iX6_addClass_57 rfl ?_
  refine z_dup iX6_addClass_58 rfl ?_
  refine e_getI iX6_addClass_59 fX6_38 rfl ?_
  try simp only [zup_ap, zfl_ap, Nat.reduceEqDiff, false_and, and_false, ↓reduceIte]
  refine z_iload iX6_addClass_62 rfl ?_
  refine z_iadd iX6_addClass_63 ?_
  refine e_putI iX6_addClass_64 fX6_38 fw6_8 rfl ?_
  refine z_aload iX6_addClass_67 rfl ?_
  refine z_dup iX6_addClass_68 rfl ?_
  refine e_getI iX6_addClass_69 fX6_34 rfl ?_
  try simp only [zup_ap, zfl_ap, Nat.reduceEqDiff, false_and, and_false, ↓reduceIte]
  refine z_push iX6_addClass_72 ?_
  refine z_iadd iX6_addClass_73 ?_
  refine e_putI iX6_addClass_74 fX6_34 fw6_7 rfl ?_
  refine z_iload iX6_addClass_77 rfl ?_
  exact e_iret iX6_addClass_78 rfl ⟨rfl, rfl⟩
