set_option maxRecDepth 100000 in
theorem tX3_add {L : Nat} (F : zFt) (x : Int32) (y : Int32) (z : Int32) (h : vp_in (F 25 3) 24) : zFn mX3_add 0 [.ref 25, .int x, .int y, .int z] L F (some (.int (F 25 3))) (zup (zup (zup (zup F 26 (zn (F 25 3)) x) 27 (zn (F 25 3)) y) 28 (zn (F 25 3)) z) 25 3 (F 25 3 + 1)) := by
  refine e_of (lo := [some (.ref 25), some (.int x), some (.int y), some (.int z), none]) (by decide +kernel) (Nat.le_of_ble_eq_true rfl) rfl ?_
  refine z_aload iX3_add_0 rfl ?_
  refine e_getI iX3_add_1 fX3_21 rfl ?_
  refine z_istore iX3_add_4 rfl ?_
  dsimp only [List.set_cons_zero, List.set_cons_succ]
  refine z_aload iX3_add_6 rfl ?_
  refine e_getR iX3_add_7 fX3_9 rfl ?_
  refine z_iload iX3_add_10 rfl ?_
  refine z_iload iX3_add_12 rfl ?_
  refine e_iast iX3_add_13 rfl (by assumption) ?_
  refine z_aload iX3_add_14 rfl ?_
  refine e_getR iX3_add_15 fX3_15 rfl ?_
  try simp only [zup_ap, Nat.add_left_cancel_iff, Nat.reduceEqDiff, false_and, true_and, and_self, eq_self, ↓reduceIte]
  refine z_iload iX3_add_18 rfl ?_
  refine z_iload iX3_add_20 rfl ?_
  refine e_iast iX3_add_21 rfl (by assumption) ?_
  refine z_aload iX3_add_22 rfl ?_
  refine e_getR iX3_add_23 fX3_18 rfl ?_
  try simp only [zup_ap, Nat.add_left_cancel_iff, Nat.reduceEqDiff, false_and, true_and, and_self, eq_self, ↓reduceIte]
  refine z_iload iX3_add_26 rfl ?_
  refine z_iload iX3_add_28 rfl ?_
  refine e_iast iX3_add_29 rfl (by assumption) ?_
  refine z_aload iX3_add_30 rfl ?_
  refine z_dup iX3_add_31 rfl ?_
  refine e_getI iX3_add_32 fX3_21 rfl ?_
  try simp only [zup_ap, Nat.add_left_cancel_iff, Nat.reduceEqDiff, false_and, true_and, and_self, eq_self, ↓reduceIte]
  refine z_push iX3_add_35 ?_
  refine z_iadd iX3_add_36 ?_
  refine e_putI iX3_add_37 fX3_21 fw3_3 rfl ?_
  refine z_iload iX3_add_40 rfl ?_
  exact e_iret iX3_add_42 rfl ⟨rfl, rfl⟩

def cLo (F : zFt) (x : Int32) : Bool := !decide (F 11 6 - 1 < 0) && (decide (F 12 (zn (F 11 6 - 1)) = 0) && (decide (x < F 15 (zn (F 11 6 - 1))) || !decide (0 ≤ lg_cmp (F 15 (zn (F 11 6 - 1))).toInt64 (-x.toInt64))))

set_option maxRecDepth 100000 in
theorem tX3_latestIsOutOfRange {L : Nat} (F : zFt) (x : Int32) (h : ¬ F 11 6 - 1 < 0 → vp_in (F 11 6 - 1) 400) : zFn mX3_latestIsOutOfRange 0 [.int x, .ref 11] L F (some (.int (zb (cLo F x)))) F := by
  refine e_of (lo := [some (.int x), some (.ref 11), none]) (by decide +kernel) (Nat.le_of_ble_eq_true rfl) rfl ?_
  refine z_aload iX3_latestIsOutOfRange_0 rfl ?_
  refine e_getI iX3_latestIsOutOfRange_1 fX3_53 rfl ?_
  refine z_push iX3_latestIsOutOfRange_4 ?_
  refine z_isub iX3_latestIsOutOfRange_5 ?_
  refine z_istore iX3_latestIsOutOfRange_6 rfl ?_
  dsimp only [List.set_cons_zero, List.set_cons_succ]
  refine z_iload iX3_latestIsOutOfRange_7 rfl ?_
  refine z_if_lt iX3_latestIsOutOfRange_8 (fun c8 => ?_) (fun c8 => ?_)
  · refine z_push iX3_latestIsOutOfRange_20 ?_
    exact e_bret iX3_latestIsOutOfRange_21 rfl (by first | exact Or.inl rfl | exact Or.inr rfl | exact zb_01 _ | assumption) ⟨by simp [zb, cLo, *], rfl⟩
  · refine z_aload iX3_latestIsOutOfRange_11 rfl ?_
    refine e_getR iX3_latestIsOutOfRange_12 fX3_56 rfl ?_
    refine z_iload iX3_latestIsOutOfRange_15 rfl ?_
    refine e_iald iX3_latestIsOutOfRange_16 rfl (h c8) ?_
    refine z_if_eq iX3_latestIsOutOfRange_17 (fun c17 => ?_) (fun c17 => ?_)
    · refine z_aload iX3_latestIsOutOfRange_22 rfl ?_
      refine e_getR iX3_latestIsOutOfRange_23 fX3_59 rfl ?_
      refine z_iload iX3_latestIsOutOfRange_26 rfl ?_
      refine e_iald iX3_latestIsOutOfRange_27 rfl (h c8) ?_
      refine z_iload iX3_latestIsOutOfRange_28 rfl ?_
      refine z_icmp_gt iX3_latestIsOutOfRange_29 (fun c29 => ?_) (fun c29 => ?_)
      · refine z_push iX3_latestIsOutOfRange_46 ?_
        refine z_goto iX3_latestIsOutOfRange_47 ?_
        exact e_bret iX3_latestIsOutOfRange_51 rfl (by first | exact Or.inl rfl | exact Or.inr rfl | exact zb_01 _ | assumption) ⟨by simp [zb, cLo, *], rfl⟩
      · refine z_aload iX3_latestIsOutOfRange_32 rfl ?_
        refine e_getR iX3_latestIsOutOfRange_33 fX3_59 rfl ?_
        refine z_iload iX3_latestIsOutOfRange_36 rfl ?_
        refine e_iald iX3_latestIsOutOfRange_37 rfl (h c8) ?_
        refine z_i2l iX3_latestIsOutOfRange_38 ?_
        refine z_iload iX3_latestIsOutOfRange_39 rfl ?_
        refine z_i2l iX3_latestIsOutOfRange_40 ?_
        refine z_lneg iX3_latestIsOutOfRange_41 ?_
        refine z_lcmp iX3_latestIsOutOfRange_42 ?_
        refine z_if_ge iX3_latestIsOutOfRange_43 (fun c43 => ?_) (fun c43 => ?_)
        · refine z_push iX3_latestIsOutOfRange_50 ?_
          exact e_bret iX3_latestIsOutOfRange_51 rfl (by first | exact Or.inl rfl | exact Or.inr rfl | exact zb_01 _ | assumption) ⟨by simp [zb, cLo, *], rfl⟩
        · refine z_push iX3_latestIsOutOfRange_46 ?_
          refine z_goto iX3_latestIsOutOfRange_47 ?_
          exact e_bret iX3_latestIsOutOfRange_51 rfl (by first | exact Or.inl rfl | exact Or.inr rfl | exact zb_01 _ | assumption) ⟨by simp [zb, cLo, *], rfl⟩
    · refine z_push iX3_latestIsOutOfRange_20 ?_
      exact e_bret iX3_latestIsOutOfRange_21 rfl (by first | exact Or.inl rfl | exact Or.inr rfl | exact zb_01 _ | assumption) ⟨by simp [zb, cLo, *], rfl⟩

abbrev sJ (F : zFt) (s : Nat) : Int32 := F (5 * s + 35) 0
abbrev sE (F : zFt) (s : Nat) : Int32 := F (5 * s + 35) 1
/-- a rule holds -/
def cHo (F : zFt) (r : Int32) (s : Nat) : Bool :=
  let a := F 28 (zn r)
  if (F 27 (zn r)).toInt = 2 then cLo F a
  else if (F 27 (zn r)).toInt = 3 then !decide (zfold (gTp F (sJ F s) (sE F s)) 0 (zn (F 11 6)) < 2) && !decide (zfold (gTp F (sJ F s) (sE F s)) 0 (zn (F 11 6)) ≤ a)
  else if (F 27 (zn r)).toInt = 5 then !decide (F 18 (zn (cMi F (sE F s) (sJ F s))) ≤ a)
  else if (F 27 (zn r)).toInt = 6 then !decide (a ≤ F 18 (zn (cMi F (sE F s) (sJ F s))))
  else if (F 27 (zn r)).toInt = 8 then !decide (zfold (ggreatestMark F (sE F s)) (cMa F (sE F s) 0) (zn (cSe F (sE F s)) - 1) - zfold (gleastMark F (sE F s)) (cMa F (sE F s) 0) (zn (cSe F (sE F s)) - 1) ≤ a)
  else if (F 27 (zn r)).toInt = 10 then !decide (F 11 6 ≤ a)
  else false
/-- what the judge and the entry of a scoring must be for it -/
def okS (F : zFt) (s : Nat) : Prop := vp_in (sJ F s) 60 ∧ vp_in (F 9 (zn (sJ F s))) 12 ∧ vp_in (cMi F (sE F s) (sJ F s)) 300 ∧ vp_in (sE F s) 60 ∧ vp_in (F 10 (zn (sE F s))) 12 ∧ zn (cSe F (sE F s)) ≤ 5 ∧ 0 ≤ (cSe F (sE F s)).toInt ∧ 0 < zn (cSe F (sE F s))

set_option maxRecDepth 100000 in
theorem tX3_holds {L : Nat} (F : zFt) (r : Int32) (s : Nat) (hs : s < 8) (hr : vp_in r 24) (h0 : 0 ≤ (F 11 6).toInt) (h4 : zn (F 11 6) ≤ 400) (ho : okS F s) : zFn mX3_holds 2 [.ref 25, .int r, .ref (5 * s + 35), .ref 11] L F (some (.int (zb (cHo F r s)))) F := by
  refine e_of (lo := [some (.ref 25), some (.int r), some (.ref (5 * s + 35)), some (.ref 11), none, none]) (by decide +kernel) (Nat.le_of_ble_eq_true rfl) rfl ?_
  have hlat : ¬ F 11 6 - 1 < 0 → vp_in (F 11 6 - 1) 400 := by
    intro h
    have e := nI_zn h0
    rw [← e] at h ⊢
    rcases Nat.eq_zero_or_pos (zn (F 11 6)) with z | z
    · rw [z] at h
      exact absurd (by decide) h
    · rw [nI_s1 z]
      exact vin_mk (by omega)
  refine z_aload iX3_holds_0 rfl ?_
  refine e_getR iX3_holds_1 fX3_18 rfl ?_
  refine z_iload iX3_holds_4 rfl ?_
  refine e_iald iX3_holds_5 rfl (by assumption) ?_
  refine z_istore iX3_holds_6 rfl ?_
  dsimp only [List.set_cons_zero, List.set_cons_succ]
  refine z_aload iX3_holds_8 rfl ?_
  refine e_getR iX3_holds_9 fX3_15 rfl ?_
  refine z_iload iX3_holds_12 rfl ?_
  refine e_iald iX3_holds_13 rfl (by assumption) ?_
  refine z_tsw iX3_holds_14 (fun j t hj hx => ?_) (fun hx => ?_)
  · match j, hj with
    | 0, hj =>
      cases hj
      refine z_iload iX3_holds_64 rfl ?_
      refine z_aload iX3_holds_66 rfl ?_
      refine e_callS iX3_holds_67 kX3_25 (tX3_latestIsOutOfRange F (F 28 (zn r)) hlat) rfl rfl ⟨Nat.le_of_ble_eq_true rfl, Nat.le_of_ble_eq_true rfl⟩ ⟨Nat.le_of_ble_eq_true rfl, Nat.le_of_ble_eq_true rfl⟩ (Nat.le_of_ble_eq_true rfl) ?_
      dsimp only [Option.toList, List.cons_append, List.nil_append]
      exact e_bret iX3_holds_70 rfl (by first | exact Or.inl rfl | exact Or.inr rfl | exact zb_01 _ | assumption) ⟨by simp [zb, cHo, hx, *], rfl⟩
    | 1, hj =>
      cases hj
      refine z_aload iX3_holds_71 rfl ?_
      refine z_aload iX3_holds_72 rfl ?_
      refine e_getI iX3_holds_73 fX3_29 (scI0 s hs) ?_
      refine z_aload iX3_holds_76 rfl ?_
      refine e_getI iX3_holds_77 fX3_34 (scI1 s hs) ?_
      refine e_callV iX3_holds_80 kX3_37 (tX5_timesPointed F (sJ F s) (sE F s) h0 h4) rfl rfl rfl ⟨Nat.le_of_ble_eq_true rfl, Nat.le_of_ble_eq_true rfl⟩ ⟨Nat.le_of_ble_eq_true rfl, Nat.le_of_ble_eq_true rfl⟩ (Nat.le_of_ble_eq_true rfl) ?_
      dsimp only [Option.toList, List.cons_append, List.nil_append]
      refine z_istore iX3_holds_83 rfl ?_
      dsimp only [List.set_cons_zero, List.set_cons_succ]
      refine z_iload iX3_holds_85 rfl ?_
      refine z_push iX3_holds_87 ?_
      refine z_icmp_lt iX3_holds_88 (fun c88 => ?_) (fun c88 => ?_)
      · refine z_push iX3_holds_102 ?_
        exact e_bret iX3_holds_103 rfl (by first | exact Or.inl rfl | exact Or.inr rfl | exact zb_01 _ | assumption) ⟨by simp [zb, cHo, hx, *], rfl⟩
      · refine z_iload iX3_holds_91 rfl ?_
        refine z_iload iX3_holds_93 rfl ?_
        refine z_icmp_le iX3_holds_95 (fun c95 => ?_) (fun c95 => ?_)
        · refine z_push iX3_holds_102 ?_
          exact e_bret iX3_holds_103 rfl (by first | exact Or.inl rfl | exact Or.inr rfl | exact zb_01 _ | assumption) ⟨by simp [zb, cHo, hx, *], rfl⟩
        · refine z_push iX3_holds_98 ?_
          refine z_goto iX3_holds_99 ?_
          exact e_bret iX3_holds_103 rfl (by first | exact Or.inl rfl | exact Or.inr rfl | exact zb_01 _ | assumption) ⟨by simp [zb, cHo, hx, *], rfl⟩
    | 2, hj =>
      cases hj
      refine z_push iX3_holds_193 ?_
      exact e_bret iX3_holds_194 rfl (by first | exact Or.inl rfl | exact Or.inr rfl | exact zb_01 _ | assumption) ⟨by simp [zb, cHo, hx, *], rfl⟩
    | 3, hj =>
      cases hj
      refine z_aload iX3_holds_104 rfl ?_
      refine z_aload iX3_holds_105 rfl ?_
      refine e_getI iX3_holds_106 fX3_34 (scI1 s hs) ?_
      refine z_aload iX3_holds_109 rfl ?_
      refine e_getI iX3_holds_110 fX3_29 (scI0 s hs) ?_
      refine e_callV iX3_holds_113 kX3_43 (tX5_markBy F (sE F s) (sJ F s) ho.1 ho.2.1 ho.2.2.1) rfl rfl rfl ⟨Nat.le_of_ble_eq_true rfl, Nat.le_of_ble_eq_true rfl⟩ ⟨Nat.le_of_ble_eq_true rfl, Nat.le_of_ble_eq_true rfl⟩ (Nat.le_of_ble_eq_true rfl) ?_
      dsimp only [Option.toList, List.cons_append, List.nil_append]
      refine z_iload iX3_holds_116 rfl ?_
      refine z_icmp_le iX3_holds_118 (fun c118 => ?_) (fun c118 => ?_)
      · refine z_push iX3_holds_125 ?_
        exact e_bret iX3_holds_126 rfl (by first | exact Or.inl rfl | exact Or.inr rfl | exact zb_01 _ | assumption) ⟨by simp [zb, cHo, hx, *], rfl⟩
      · refine z_push iX3_holds_121 ?_
        refine z_goto iX3_holds_122 ?_
        exact e_bret iX3_holds_126 rfl (by first | exact Or.inl rfl | exact Or.inr rfl | exact zb_01 _ | assumption) ⟨by simp [zb, cHo, hx, *], rfl⟩
    | 4, hj =>
      cases hj
      refine z_aload iX3_holds_127 rfl ?_
      refine z_aload iX3_holds_128 rfl ?_
      refine e_getI iX3_holds_129 fX3_34 (scI1 s hs) ?_
      refine z_aload iX3_holds_132 rfl ?_
      refine e_getI iX3_holds_133 fX3_29 (scI0 s hs) ?_
      refine e_callV iX3_holds_136 kX3_43 (tX5_markBy F (sE F s) (sJ F s) ho.1 ho.2.1 ho.2.2.1) rfl rfl rfl ⟨Nat.le_of_ble_eq_true rfl, Nat.le_of_ble_eq_true rfl⟩ ⟨Nat.le_of_ble_eq_true rfl, Nat.le_of_ble_eq_true rfl⟩ (Nat.le_of_ble_eq_true rfl) ?_
      dsimp only [Option.toList, List.cons_append, List.nil_append]
      refine z_iload iX3_holds_139 rfl ?_
      refine z_icmp_ge iX3_holds_141 (fun c141 => ?_) (fun c141 => ?_)
      · refine z_push iX3_holds_148 ?_
        exact e_bret iX3_holds_149 rfl (by first | exact Or.inl rfl | exact Or.inr rfl | exact zb_01 _ | assumption) ⟨by simp [zb, cHo, hx, *], rfl⟩
      · refine z_push iX3_holds_144 ?_
        refine z_goto iX3_holds_145 ?_
        exact e_bret iX3_holds_149 rfl (by first | exact Or.inl rfl | exact Or.inr rfl | exact zb_01 _ | assumption) ⟨by simp [zb, cHo, hx, *], rfl⟩
    | 5, hj =>
      cases hj
      refine z_push iX3_holds_193 ?_
      exact e_bret iX3_holds_194 rfl (by first | exact Or.inl rfl | exact Or.inr rfl | exact zb_01 _ | assumption) ⟨by simp [zb, cHo, hx, *], rfl⟩
    | 6, hj =>
      cases hj
      refine z_aload iX3_holds_150 rfl ?_
      refine z_aload iX3_holds_151 rfl ?_
      refine e_getI iX3_holds_152 fX3_34 (scI1 s hs) ?_
      refine e_callV iX3_holds_155 kX3_46 (tX5_greatestMark F (sE F s) ho.2.2.2.1 ho.2.2.2.2.1 ho.2.2.2.2.2.1 ho.2.2.2.2.2.2.1 ho.2.2.2.2.2.2.2) rfl rfl rfl ⟨Nat.le_of_ble_eq_true rfl, Nat.le_of_ble_eq_true rfl⟩ ⟨Nat.le_of_ble_eq_true rfl, Nat.le_of_ble_eq_true rfl⟩ (Nat.le_of_ble_eq_true rfl) ?_
      dsimp only [Option.toList, List.cons_append, List.nil_append]
      refine z_aload iX3_holds_158 rfl ?_
      refine z_aload iX3_holds_159 rfl ?_
      refine e_getI iX3_holds_160 fX3_34 (scI1 s hs) ?_
      refine e_callV iX3_holds_163 kX3_50 (tX5_leastMark F (sE F s) ho.2.2.2.1 ho.2.2.2.2.1 ho.2.2.2.2.2.1 ho.2.2.2.2.2.2.1 ho.2.2.2.2.2.2.2) rfl rfl rfl ⟨Nat.le_of_ble_eq_true rfl, Nat.le_of_ble_eq_true rfl⟩ ⟨Nat.le_of_ble_eq_true rfl, Nat.le_of_ble_eq_true rfl⟩ (Nat.le_of_ble_eq_true rfl) ?_
      dsimp only [Option.toList, List.cons_append, List.nil_append]
      refine z_isub iX3_holds_166 ?_
      refine z_iload iX3_holds_167 rfl ?_
      refine z_icmp_le iX3_holds_169 (fun c169 => ?_) (fun c169 => ?_)
      · refine z_push iX3_holds_176 ?_
        exact e_bret iX3_holds_177 rfl (by first | exact Or.inl rfl | exact Or.inr rfl | exact zb_01 _ | assumption) ⟨by simp [zb, cHo, hx, *], rfl⟩
      · refine z_push iX3_holds_172 ?_
        refine z_goto iX3_holds_173 ?_
        exact e_bret iX3_holds_177 rfl (by first | exact Or.inl rfl | exact Or.inr rfl | exact zb_01 _ | assumption) ⟨by simp [zb, cHo, hx, *], rfl⟩
    | 7, hj =>
      cases hj
      refine z_push iX3_holds_193 ?_
      exact e_bret iX3_holds_194 rfl (by first | exact Or.inl rfl | exact Or.inr rfl | exact zb_01 _ | assumption) ⟨by simp [zb, cHo, hx, *], rfl⟩
    | 8, hj =>
      cases hj
      refine z_aload iX3_holds_178 rfl ?_
      refine e_getI iX3_holds_179 fX3_53 rfl ?_
      refine z_iload iX3_holds_182 rfl ?_
      refine z_icmp_le iX3_holds_184 (fun c184 => ?_) (fun c184 => ?_)
      · refine z_push iX3_holds_191 ?_
        exact e_bret iX3_holds_192 rfl (by first | exact Or.inl rfl | exact Or.inr rfl | exact zb_01 _ | assumption) ⟨by simp [zb, cHo, hx, *], rfl⟩
      · refine z_push iX3_holds_187 ?_
        refine z_goto iX3_holds_188 ?_
        exact e_bret iX3_holds_192 rfl (by first | exact Or.inl rfl | exact Or.inr rfl | exact zb_01 _ | assumption) ⟨by simp [zb, cHo, hx, *], rfl⟩
    | j + 9, hj => simp at hj
  · have e1 : ¬ (F 27 (zn r)).toInt = 2 := by simp at hx; omega
    have e2 : ¬ (F 27 (zn r)).toInt = 3 := by simp at hx; omega
    have e3 : ¬ (F 27 (zn r)).toInt = 5 := by simp at hx; omega
    have e4 : ¬ (F 27 (zn r)).toInt = 6 := by simp at hx; omega
    have e5 : ¬ (F 27 (zn r)).toInt = 8 := by simp at hx; omega
    have e6 : ¬ (F 27 (zn r)).toInt = 10 := by simp at hx; omega
    refine z_push iX3_holds_193 ?_
    exact e_bret iX3_holds_194 rfl (by first | exact Or.inl rfl | exact Or.inr rfl | exact zb_01 _ | assumption) ⟨by simp [zb, cHo, hx, *], rfl⟩
