def cNo (c b : Int32) : Bool := !decide (c < 0) && (!decide (b ≤ c) && !decide (200 ≤ c))

set_option maxRecDepth 100000 in
theorem tX0_isNoted {L : Nat} (F : zFt) (c : Int32) : zFn mX0_isNoted 0 [.ref 29, .int c] L F (some (.int (zb (cNo c (F 29 1))))) F := by
  refine e_of (lo := [some (.ref 29), some (.int c)]) (by decide +kernel) (Nat.le_of_ble_eq_true rfl) rfl ?_
  refine z_iload iX0_isNoted_0 rfl ?_
  refine z_if_lt iX0_isNoted_1 (fun c1 => ?_) (fun c1 => ?_)
  · refine z_push iX0_isNoted_23 ?_
    exact e_bret iX0_isNoted_24 rfl (by first | exact Or.inl rfl | exact Or.inr rfl | exact zb_01 _ | assumption) ⟨by simp [zb, cNo, *], rfl⟩
  · refine z_iload iX0_isNoted_4 rfl ?_
    refine z_aload iX0_isNoted_5 rfl ?_
    refine e_getI iX0_isNoted_6 fX0_15 rfl ?_
    refine z_icmp_ge iX0_isNoted_9 (fun c9 => ?_) (fun c9 => ?_)
    · refine z_push iX0_isNoted_23 ?_
      exact e_bret iX0_isNoted_24 rfl (by first | exact Or.inl rfl | exact Or.inr rfl | exact zb_01 _ | assumption) ⟨by simp [zb, cNo, *], rfl⟩
    · refine z_iload iX0_isNoted_12 rfl ?_
      refine z_push iX0_isNoted_13 ?_
      refine z_icmp_ge iX0_isNoted_16 (fun c16 => ?_) (fun c16 => ?_)
      · refine z_push iX0_isNoted_23 ?_
        exact e_bret iX0_isNoted_24 rfl (by first | exact Or.inl rfl | exact Or.inr rfl | exact zb_01 _ | assumption) ⟨by simp [zb, cNo, *], rfl⟩
      · refine z_push iX0_isNoted_19 ?_
        refine z_goto iX0_isNoted_20 ?_
        exact e_bret iX0_isNoted_24 rfl (by first | exact Or.inl rfl | exact Or.inr rfl | exact zb_01 _ | assumption) ⟨by simp [zb, cNo, *], rfl⟩

/-- a failure is noted, or counted alone -/
def cAd (F : zFt) (a b c u v w : Int32) : zFt := if cNo (F 29 1) (F 29 1 + 1) = false then zup F 29 1 (F 29 1 + 1) else (zup (zup (zup (zup (zup (zup (zup F 29 1 (F 29 1 + 1)) 30 (zn (F 29 1 * 6)) a) 30 (zn (F 29 1 * 6 + 1)) b) 30 (zn (F 29 1 * 6 + 2)) c) 30 (zn (F 29 1 * 6 + 3)) u) 30 (zn (F 29 1 * 6 + 4)) v) 30 (zn (F 29 1 * 6 + 5)) w)
theorem ix6 {x : Int32} (h : vp_in x 200) : vp_in (x * 6) 1200 ∧ vp_in (x * 6 + 1) 1200 ∧ vp_in (x * 6 + 2) 1200 ∧ vp_in (x * 6 + 3) 1200 ∧ vp_in (x * 6 + 4) 1200 ∧ vp_in (x * 6 + 5) 1200 := by
  obtain ⟨j, hj, rfl⟩ := vin_of h
  simp only [nI_m6, nI_1, nI_p2, nI_p3, nI_p4, nI_p5]
  exact ⟨vin_mk (by omega), vin_mk (by omega), vin_mk (by omega), vin_mk (by omega), vin_mk (by omega), vin_mk (by omega)⟩
theorem cNo_in {c b : Int32} (h : cNo c b = true) : vp_in c 200 := by
  simp only [cNo, Bool.and_eq_true, Bool.not_eq_true', decide_eq_false_iff_not, Int32.lt_iff_toInt_lt, Int32.le_iff_toInt_le] at h
  rw [vin]
  simp at h
  omega

set_option maxRecDepth 100000 in
theorem tX0_add {L : Nat} (F : zFt) (a : Int32) (b : Int32) (c : Int32) (u : Int32) (v : Int32) (w : Int32) : zFn mX0_add 1 [.ref 29, .int a, .int b, .int c, .int u, .int v, .int w] L F (some (.int (F 29 1))) (cAd F a b c u v w) := by
  refine e_of (lo := [some (.ref 29), some (.int a), some (.int b), some (.int c), some (.int u), some (.int v), some (.int w), none, none]) (by decide +kernel) (Nat.le_of_ble_eq_true rfl) rfl ?_
  refine z_aload iX0_add_0 rfl ?_
  refine e_getI iX0_add_1 fX0_15 rfl ?_
  refine z_istore iX0_add_4 rfl ?_
  dsimp only [List.set_cons_zero, List.set_cons_succ]
  refine z_aload iX0_add_6 rfl ?_
  refine z_dup iX0_add_7 rfl ?_
  refine e_getI iX0_add_8 fX0_15 rfl ?_
  refine z_push iX0_add_11 ?_
  refine z_iadd iX0_add_12 ?_
  refine e_putI iX0_add_13 fX0_15 fw0_1 rfl ?_
  refine z_aload iX0_add_16 rfl ?_
  refine z_iload iX0_add_17 rfl ?_
  refine e_callV iX0_add_19 kX0_19 (tX0_isNoted (zup F 29 1 (F 29 1 + 1)) (F 29 1)) rfl rfl rfl ⟨Nat.le_of_ble_eq_true rfl, Nat.le_of_ble_eq_true rfl⟩ ⟨Nat.le_of_ble_eq_true rfl, Nat.le_of_ble_eq_true rfl⟩ (Nat.le_of_ble_eq_true rfl) ?_
  dsimp only [Option.toList, List.cons_append, List.nil_append]
  try simp only [zup_ap, Nat.add_left_cancel_iff, Nat.reduceEqDiff, false_and, true_and, and_self, eq_self, ↓reduceIte]
  refine z_if_eq iX0_add_22 (fun c22 => ?_) (fun c22 => ?_)
  · rw [zb_0] at c22
    refine z_iload iX0_add_93 rfl ?_
    exact e_iret iX0_add_95 rfl ⟨rfl, by rw [cAd, if_pos c22]⟩
  · have hn := cNo_in (zb_n.mp c22)
    refine z_iload iX0_add_25 rfl ?_
    refine z_push iX0_add_27 ?_
    refine z_imul iX0_add_29 ?_
    refine z_istore iX0_add_30 rfl ?_
    dsimp only [List.set_cons_zero, List.set_cons_succ]
    refine z_aload iX0_add_32 rfl ?_
    refine e_getR iX0_add_33 fX0_11 rfl ?_
    try simp only [zup_ap, Nat.add_left_cancel_iff, Nat.reduceEqDiff, false_and, true_and, and_self, eq_self, ↓reduceIte]
    refine z_iload iX0_add_36 rfl ?_
    refine z_iload iX0_add_38 rfl ?_
    refine e_iast iX0_add_39 rfl (ix6 hn).1 ?_
    refine z_aload iX0_add_40 rfl ?_
    refine e_getR iX0_add_41 fX0_11 rfl ?_
    try simp only [zup_ap, Nat.add_left_cancel_iff, Nat.reduceEqDiff, false_and, true_and, and_self, eq_self, ↓reduceIte]
    refine z_iload iX0_add_44 rfl ?_
    refine z_push iX0_add_46 ?_
    refine z_iadd iX0_add_47 ?_
    refine z_iload iX0_add_48 rfl ?_
    refine e_iast iX0_add_49 rfl (ix6 hn).2.1 ?_
    refine z_aload iX0_add_50 rfl ?_
    refine e_getR iX0_add_51 fX0_11 rfl ?_
    try simp only [zup_ap, Nat.add_left_cancel_iff, Nat.reduceEqDiff, false_and, true_and, and_self, eq_self, ↓reduceIte]
    refine z_iload iX0_add_54 rfl ?_
    refine z_push iX0_add_56 ?_
    refine z_iadd iX0_add_57 ?_
    refine z_iload iX0_add_58 rfl ?_
    refine e_iast iX0_add_59 rfl (ix6 hn).2.2.1 ?_
    refine z_aload iX0_add_60 rfl ?_
    refine e_getR iX0_add_61 fX0_11 rfl ?_
    try simp only [zup_ap, Nat.add_left_cancel_iff, Nat.reduceEqDiff, false_and, true_and, and_self, eq_self, ↓reduceIte]
    refine z_iload iX0_add_64 rfl ?_
    refine z_push iX0_add_66 ?_
    refine z_iadd iX0_add_67 ?_
    refine z_iload iX0_add_68 rfl ?_
    refine e_iast iX0_add_70 rfl (ix6 hn).2.2.2.1 ?_
    refine z_aload iX0_add_71 rfl ?_
    refine e_getR iX0_add_72 fX0_11 rfl ?_
    try simp only [zup_ap, Nat.add_left_cancel_iff, Nat.reduceEqDiff, false_and, true_and, and_self, eq_self, ↓reduceIte]
    refine z_iload iX0_add_75 rfl ?_
    refine z_push iX0_add_77 ?_
    refine z_iadd iX0_add_78 ?_
    refine z_iload iX0_add_79 rfl ?_
    refine e_iast iX0_add_81 rfl (ix6 hn).2.2.2.2.1 ?_
    refine z_aload iX0_add_82 rfl ?_
    refine e_getR iX0_add_83 fX0_11 rfl ?_
    try simp only [zup_ap, Nat.add_left_cancel_iff, Nat.reduceEqDiff, false_and, true_and, and_self, eq_self, ↓reduceIte]
    refine z_iload iX0_add_86 rfl ?_
    refine z_push iX0_add_88 ?_
    refine z_iadd iX0_add_89 ?_
    refine z_iload iX0_add_90 rfl ?_
    refine e_iast iX0_add_92 rfl (ix6 hn).2.2.2.2.2 ?_
    refine z_iload iX0_add_93 rfl ?_
    exact e_iret iX0_add_95 rfl ⟨rfl, by rw [cAd, if_neg (by rw [zb_n.mp c22]; decide)]⟩

set_option maxRecDepth 100000 in
theorem tX1_add {L : Nat} (F : zFt) (x : Int32) (h : vp_in (F 31 2) 6) : zFn mX1_add 0 [.ref 31, .int x] L F (some (.int (F 31 2))) (zup (zup F 32 (zn (F 31 2)) x) 31 2 (F 31 2 + 1)) := by
  refine e_of (lo := [some (.ref 31), some (.int x), none]) (by decide +kernel) (Nat.le_of_ble_eq_true rfl) rfl ?_
  refine z_aload iX1_add_0 rfl ?_
  refine e_getI iX1_add_1 fX1_18 rfl ?_
  refine z_istore iX1_add_4 rfl ?_
  dsimp only [List.set_cons_zero, List.set_cons_succ]
  refine z_aload iX1_add_5 rfl ?_
  refine e_getR iX1_add_6 fX1_9 rfl ?_
  refine z_iload iX1_add_9 rfl ?_
  refine z_iload iX1_add_10 rfl ?_
  refine e_iast iX1_add_11 rfl (by assumption) ?_
  refine z_aload iX1_add_12 rfl ?_
  refine z_dup iX1_add_13 rfl ?_
  refine e_getI iX1_add_14 fX1_18 rfl ?_
  try simp only [zup_ap, Nat.add_left_cancel_iff, Nat.reduceEqDiff, false_and, true_and, and_self, eq_self, ↓reduceIte]
  refine z_push iX1_add_17 ?_
  refine z_iadd iX1_add_18 ?_
  refine e_putI iX1_add_19 fX1_18 fw1_2 rfl ?_
  refine z_iload iX1_add_22 rfl ?_
  exact e_iret iX1_add_23 rfl ⟨rfl, rfl⟩

abbrev cTe (F : zFt) (i : Int32) : zFt := zup (zup F 31 3 (F 31 3 + 1)) 33 (zn i) (F 33 (zn i) + 1)

set_option maxRecDepth 100000 in
theorem tX1_tell {L : Nat} (F : zFt) (i : Int32) (h : vp_in i 6) : zFn mX1_tell 0 [.ref 31, .int i] L F (some (.int (zb (decide (F 33 (zn i) + 1 = F 32 (zn i)))))) (cTe F i) := by
  refine e_of (lo := [some (.ref 31), some (.int i)]) (by decide +kernel) (Nat.le_of_ble_eq_true rfl) rfl ?_
  refine z_aload iX1_tell_0 rfl ?_
  refine z_dup iX1_tell_1 rfl ?_
  refine e_getI iX1_tell_2 fX1_22 rfl ?_
  refine z_push iX1_tell_5 ?_
  refine z_iadd iX1_tell_6 ?_
  refine e_putI iX1_tell_7 fX1_22 fw1_3 rfl ?_
  refine z_aload iX1_tell_10 rfl ?_
  refine e_getR iX1_tell_11 fX1_15 rfl ?_
  try simp only [zup_ap, Nat.add_left_cancel_iff, Nat.reduceEqDiff, false_and, true_and, and_self, eq_self, ↓reduceIte]
  refine z_iload iX1_tell_14 rfl ?_
  refine z_dup2 iX1_tell_15 rfl rfl ?_
  refine e_iald iX1_tell_16 rfl (by assumption) ?_
  try simp only [zup_ap, Nat.add_left_cancel_iff, Nat.reduceEqDiff, false_and, true_and, and_self, eq_self, ↓reduceIte]
  refine z_push iX1_tell_17 ?_
  refine z_iadd iX1_tell_18 ?_
  refine e_iast iX1_tell_19 rfl (by assumption) ?_
  refine z_aload iX1_tell_20 rfl ?_
  refine e_getR iX1_tell_21 fX1_15 rfl ?_
  try simp only [zup_ap, Nat.add_left_cancel_iff, Nat.reduceEqDiff, false_and, true_and, and_self, eq_self, ↓reduceIte]
  refine z_iload iX1_tell_24 rfl ?_
  refine e_iald iX1_tell_25 rfl (by assumption) ?_
  try simp only [zup_ap, Nat.add_left_cancel_iff, Nat.reduceEqDiff, false_and, true_and, and_self, eq_self, ↓reduceIte]
  refine z_aload iX1_tell_26 rfl ?_
  refine e_getR iX1_tell_27 fX1_9 rfl ?_
  try simp only [zup_ap, Nat.add_left_cancel_iff, Nat.reduceEqDiff, false_and, true_and, and_self, eq_self, ↓reduceIte]
  refine z_iload iX1_tell_30 rfl ?_
  refine e_iald iX1_tell_31 rfl (by assumption) ?_
  try simp only [zup_ap, Nat.add_left_cancel_iff, Nat.reduceEqDiff, false_and, true_and, and_self, eq_self, ↓reduceIte]
  refine z_icmp_ne iX1_tell_32 (fun c32 => ?_) (fun c32 => ?_)
  · refine z_push iX1_tell_39 ?_
    exact e_bret iX1_tell_40 rfl (by first | exact Or.inl rfl | exact Or.inr rfl | exact zb_01 _ | assumption) ⟨by simp [zb, *], rfl⟩
  · refine z_push iX1_tell_35 ?_
    refine z_goto iX1_tell_36 ?_
    exact e_bret iX1_tell_40 rfl (by first | exact Or.inl rfl | exact Or.inr rfl | exact zb_01 _ | assumption) ⟨by simp [zb, *], rfl⟩
