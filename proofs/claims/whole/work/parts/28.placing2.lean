abbrev cSo (F : zFt) (e x : Int32) : Nat → Int32 := zsrt (F 24) (cMa F e) (zn x)
def cMd (F : zFt) (e x : Int32) : Int32 := if ¬ x - x / 2 * 2 = 1 then zne (cSo F e x (zn (x / 2 - 1)) + cSo F e x (zn (x / 2))) 2 else cSo F e x (zn (x / 2))
theorem ixm {x : Int32} (h0 : 0 ≤ x.toInt) (h1 : 0 < zn x) (h5 : zn x ≤ 5) : vp_in (x / 2) 5 ∧ (¬ x - x / 2 * 2 = 1 → vp_in (x / 2 - 1) 5) := by
  rw [← nI_zn h0]
  generalize zn x = j at h1 h5
  rcases (show j = 1 ∨ j = 2 ∨ j = 3 ∨ j = 4 ∨ j = 5 by omega) with rfl | rfl | rfl | rfl | rfl
  · exact ⟨by rw [vin]; decide, fun h => absurd (by decide) h⟩
  · exact ⟨by rw [vin]; decide, fun h => by rw [vin]; decide⟩
  · exact ⟨by rw [vin]; decide, fun h => absurd (by decide) h⟩
  · exact ⟨by rw [vin]; decide, fun h => by rw [vin]; decide⟩
  · exact ⟨by rw [vin]; decide, fun h => absurd (by decide) h⟩

set_option maxRecDepth 100000 in
theorem tX2_middle {L : Nat} (F : zFt) (e : Int32) (x : Int32) (he : vp_in e 60) (h0 : 0 ≤ x.toInt) (h1 : 0 < zn x) (h5 : zn x ≤ 5) : zFn mX2_middle 2 [.ref 20, .int e, .int x] L F (some (.int (cMd F e x))) (zrow F 24 (cSo F e x)) := by
  refine e_of (lo := [some (.ref 20), some (.int e), some (.int x), none]) (by decide +kernel) (Nat.le_of_ble_eq_true rfl) rfl ?_
  refine z_aload iX2_middle_0 rfl ?_
  refine z_iload iX2_middle_1 rfl ?_
  refine z_iload iX2_middle_2 rfl ?_
  refine e_callV iX2_middle_3 kX2_70 (tX2_sortMarks F e x he h0 h5) rfl rfl rfl ⟨Nat.le_of_ble_eq_true rfl, Nat.le_of_ble_eq_true rfl⟩ ⟨Nat.le_of_ble_eq_true rfl, Nat.le_of_ble_eq_true rfl⟩ (Nat.le_of_ble_eq_true rfl) ?_
  dsimp only [Option.toList, List.cons_append, List.nil_append]
  refine z_iload iX2_middle_6 rfl ?_
  refine z_push iX2_middle_7 ?_
  refine z_idiv iX2_middle_8 (by decide) ?_
  refine z_istore iX2_middle_9 rfl ?_
  dsimp only [List.set_cons_zero, List.set_cons_succ]
  refine z_iload iX2_middle_10 rfl ?_
  refine z_push iX2_middle_11 ?_
  refine z_irem iX2_middle_12 (by decide) ?_
  refine z_push iX2_middle_13 ?_
  refine z_icmp_ne iX2_middle_14 (fun c14 => ?_) (fun c14 => ?_)
  · refine z_aload iX2_middle_26 rfl ?_
    refine e_getR iX2_middle_27 fX2_21 rfl ?_
    refine z_iload iX2_middle_30 rfl ?_
    refine z_push iX2_middle_31 ?_
    refine z_isub iX2_middle_32 ?_
    refine e_iald iX2_middle_33 rfl ((ixm h0 h1 h5).2 c14) ?_
    refine z_aload iX2_middle_34 rfl ?_
    refine e_getR iX2_middle_35 fX2_21 rfl ?_
    refine z_iload iX2_middle_38 rfl ?_
    refine e_iald iX2_middle_39 rfl (ixm h0 h1 h5).1 ?_
    refine z_iadd iX2_middle_40 ?_
    refine z_push iX2_middle_41 ?_
    refine e_callS iX2_middle_42 kX2_49 (tX2_nearest _ _ 2) rfl rfl ⟨Nat.le_of_ble_eq_true rfl, Nat.le_of_ble_eq_true rfl⟩ ⟨Nat.le_of_ble_eq_true rfl, Nat.le_of_ble_eq_true rfl⟩ (Nat.le_of_ble_eq_true rfl) ?_
    dsimp only [Option.toList, List.cons_append, List.nil_append]
    exact e_iret iX2_middle_45 rfl ⟨by rw [cMd, if_pos c14]; rfl, rfl⟩
  · refine z_aload iX2_middle_17 rfl ?_
    refine e_getR iX2_middle_18 fX2_21 rfl ?_
    refine z_iload iX2_middle_21 rfl ?_
    refine e_iald iX2_middle_22 rfl (ixm h0 h1 h5).1 ?_
    refine z_goto iX2_middle_23 ?_
    exact e_iret iX2_middle_45 rfl ⟨by rw [cMd, if_neg (not_not_intro c14)]; rfl, rfl⟩

abbrev cSu (F : zFt) (e : Int32) : Int32 := zfold (gSu F e) 0 (zn (cSe F e))
abbrev cGr (F : zFt) (e : Int32) : Int32 := zfold (ggreatestMark F e) (cMa F e 0) (zn (cSe F e) - 1)
abbrev cLe (F : zFt) (e : Int32) : Int32 := zfold (gleastMark F e) (cMa F e 0) (zn (cSe F e) - 1)
abbrev cSh (F : zFt) (e : Int32) : Int32 := F 4 (zn (F 10 (zn e)))
def cGa (F : zFt) (e : Int32) : Int32 := if (cSh F e).toInt = 1 then zne (cSu F e) (cSe F e) else if (cSh F e).toInt = 2 then cMd F e (cSe F e) else if (cSh F e).toInt = 3 then cSu F e - (if 3 ≤ cSe F e then cGr F e + cLe F e else 0) else cSu F e
def cTv (F : zFt) (e : Int32) : Int32 := zmx 0 (cGa F e - F 17 (zn e))
def cTF (F : zFt) (e : Int32) : zFt := if (cSh F e).toInt = 2 then zrow F 24 (cSo F e (cSe F e)) else F

set_option maxRecDepth 100000 in
theorem tX2_totalOf {L : Nat} (F : zFt) (e : Int32) (he : vp_in e 60) (hc : vp_in (F 10 (zn e)) 12) (hs : zn (cSe F e) ≤ 5) (h0 : 0 ≤ (cSe F e).toInt) (h1 : 0 < zn (cSe F e)) : zFn mX2_totalOf 3 [.ref 20, .int e] L F (some (.int (cTv F e))) (cTF F e) := by
  refine e_of (lo := [some (.ref 20), some (.int e), none, none]) (by decide +kernel) (Nat.le_of_ble_eq_true rfl) rfl ?_
  refine z_aload iX2_totalOf_0 rfl ?_
  refine e_getR iX2_totalOf_1 fX2_24 rfl ?_
  refine e_getR iX2_totalOf_4 fX2_32 rfl ?_
  refine z_aload iX2_totalOf_7 rfl ?_
  refine e_getR iX2_totalOf_8 fX2_24 rfl ?_
  refine e_getR iX2_totalOf_11 fX2_37 rfl ?_
  refine z_iload iX2_totalOf_14 rfl ?_
  refine e_iald iX2_totalOf_15 rfl (by assumption) ?_
  refine e_iald iX2_totalOf_16 rfl (by assumption) ?_
  refine z_istore iX2_totalOf_17 rfl ?_
  dsimp only [List.set_cons_zero, List.set_cons_succ]
  refine z_aload iX2_totalOf_18 rfl ?_
  refine e_getR iX2_totalOf_19 fX2_28 rfl ?_
  refine z_iload iX2_totalOf_22 rfl ?_
  refine e_callV iX2_totalOf_23 kX2_40 (tX5_sumOfMarks F e he hc hs h0) rfl rfl rfl ⟨Nat.le_of_ble_eq_true rfl, Nat.le_of_ble_eq_true rfl⟩ ⟨Nat.le_of_ble_eq_true rfl, Nat.le_of_ble_eq_true rfl⟩ (Nat.le_of_ble_eq_true rfl) ?_
  dsimp only [Option.toList, List.cons_append, List.nil_append]
  refine z_istore iX2_totalOf_26 rfl ?_
  dsimp only [List.set_cons_zero, List.set_cons_succ]
  refine z_aload iX2_totalOf_27 rfl ?_
  refine e_getR iX2_totalOf_28 fX2_24 rfl ?_
  refine e_getR iX2_totalOf_31 fX2_46 rfl ?_
  refine z_aload iX2_totalOf_34 rfl ?_
  refine e_getR iX2_totalOf_35 fX2_24 rfl ?_
  refine e_getR iX2_totalOf_38 fX2_37 rfl ?_
  refine z_iload iX2_totalOf_41 rfl ?_
  refine e_iald iX2_totalOf_42 rfl (by assumption) ?_
  refine e_iald iX2_totalOf_43 rfl (by assumption) ?_
  refine z_tsw iX2_totalOf_44 (fun j t hj hx => ?_) (fun hx => ?_)
  · match j, hj with
    | 0, hj =>
      cases hj
      have e1 : (cSh F e).toInt = 1 := hx
      refine z_iload iX2_totalOf_72 rfl ?_
      refine z_iload iX2_totalOf_73 rfl ?_
      refine e_callS iX2_totalOf_74 kX2_49 (tX2_nearest F (cSu F e) (cSe F e)) rfl rfl ⟨Nat.le_of_ble_eq_true rfl, Nat.le_of_ble_eq_true rfl⟩ ⟨Nat.le_of_ble_eq_true rfl, Nat.le_of_ble_eq_true rfl⟩ (Nat.le_of_ble_eq_true rfl) ?_
      dsimp only [Option.toList, List.cons_append, List.nil_append]
      refine z_istore iX2_totalOf_77 rfl ?_
      dsimp only [List.set_cons_zero, List.set_cons_succ]
      refine z_goto iX2_totalOf_78 ?_
      refine z_push iX2_totalOf_123 ?_
      refine z_iload iX2_totalOf_124 rfl ?_
      refine z_aload iX2_totalOf_125 rfl ?_
      refine e_getR iX2_totalOf_126 fX2_28 rfl ?_
      refine e_getR iX2_totalOf_129 fX2_62 rfl ?_
      refine z_iload iX2_totalOf_132 rfl ?_
      refine e_iald iX2_totalOf_133 rfl (by assumption) ?_
      refine z_isub iX2_totalOf_134 ?_
      refine e_callS iX2_totalOf_135 kX2_65 (tJ9_max_7cf53 _ _ _) rfl rfl ⟨Nat.le_of_ble_eq_true rfl, Nat.le_of_ble_eq_true rfl⟩ ⟨Nat.le_of_ble_eq_true rfl, Nat.le_of_ble_eq_true rfl⟩ (Nat.le_of_ble_eq_true rfl) ?_
      dsimp only [Option.toList, List.cons_append, List.nil_append]
      exact e_iret iX2_totalOf_138 rfl ⟨by rw [cTv, cGa, if_pos e1], by rw [cTF, if_neg (by rw [e1]; decide)]⟩
    | 1, hj =>
      cases hj
      have e1 : (cSh F e).toInt = 2 := hx
      refine z_aload iX2_totalOf_81 rfl ?_
      refine z_iload iX2_totalOf_82 rfl ?_
      refine z_iload iX2_totalOf_83 rfl ?_
      refine e_callV iX2_totalOf_84 kX2_53 (tX2_middle F e (cSe F e) he h0 h1 hs) rfl rfl rfl ⟨Nat.le_of_ble_eq_true rfl, Nat.le_of_ble_eq_true rfl⟩ ⟨Nat.le_of_ble_eq_true rfl, Nat.le_of_ble_eq_true rfl⟩ (Nat.le_of_ble_eq_true rfl) ?_
      dsimp only [Option.toList, List.cons_append, List.nil_append]
      refine z_istore iX2_totalOf_87 rfl ?_
      dsimp only [List.set_cons_zero, List.set_cons_succ]
      refine z_goto iX2_totalOf_88 ?_
      refine z_push iX2_totalOf_123 ?_
      refine z_iload iX2_totalOf_124 rfl ?_
      refine z_aload iX2_totalOf_125 rfl ?_
      refine e_getR iX2_totalOf_126 fX2_28 rfl ?_
      refine e_getR iX2_totalOf_129 fX2_62 rfl ?_
      refine z_iload iX2_totalOf_132 rfl ?_
      refine e_iald iX2_totalOf_133 rfl (by assumption) ?_
      refine z_isub iX2_totalOf_134 ?_
      refine e_callS iX2_totalOf_135 kX2_65 (tJ9_max_7cf53 _ _ _) rfl rfl ⟨Nat.le_of_ble_eq_true rfl, Nat.le_of_ble_eq_true rfl⟩ ⟨Nat.le_of_ble_eq_true rfl, Nat.le_of_ble_eq_true rfl⟩ (Nat.le_of_ble_eq_true rfl) ?_
      dsimp only [Option.toList, List.cons_append, List.nil_append]
      exact e_iret iX2_totalOf_138 rfl ⟨by rw [cTv, cGa, if_neg (by rw [e1]; decide), if_pos e1]; rfl, by rw [cTF, if_pos e1]⟩
    | 2, hj =>
      cases hj
      have e1 : (cSh F e).toInt = 3 := hx
      refine z_iload iX2_totalOf_91 rfl ?_
      refine z_iload iX2_totalOf_92 rfl ?_
      refine z_push iX2_totalOf_93 ?_
      refine z_icmp_ge iX2_totalOf_94 (fun c94 => ?_) (fun c94 => ?_)
      · refine z_aload iX2_totalOf_101 rfl ?_
        refine e_getR iX2_totalOf_102 fX2_28 rfl ?_
        refine z_iload iX2_totalOf_105 rfl ?_
        refine e_callV iX2_totalOf_106 kX2_56 (tX5_greatestMark F e he hc hs h0 h1) rfl rfl rfl ⟨Nat.le_of_ble_eq_true rfl, Nat.le_of_ble_eq_true rfl⟩ ⟨Nat.le_of_ble_eq_true rfl, Nat.le_of_ble_eq_true rfl⟩ (Nat.le_of_ble_eq_true rfl) ?_
        dsimp only [Option.toList, List.cons_append, List.nil_append]
        refine z_aload iX2_totalOf_109 rfl ?_
        refine e_getR iX2_totalOf_110 fX2_28 rfl ?_
        refine z_iload iX2_totalOf_113 rfl ?_
        refine e_callV iX2_totalOf_114 kX2_59 (tX5_leastMark F e he hc hs h0 h1) rfl rfl rfl ⟨Nat.le_of_ble_eq_true rfl, Nat.le_of_ble_eq_true rfl⟩ ⟨Nat.le_of_ble_eq_true rfl, Nat.le_of_ble_eq_true rfl⟩ (Nat.le_of_ble_eq_true rfl) ?_
        dsimp only [Option.toList, List.cons_append, List.nil_append]
        refine z_iadd iX2_totalOf_117 ?_
        refine z_isub iX2_totalOf_118 ?_
        refine z_istore iX2_totalOf_119 rfl ?_
        dsimp only [List.set_cons_zero, List.set_cons_succ]
        refine z_goto iX2_totalOf_120 ?_
        refine z_push iX2_totalOf_123 ?_
        refine z_iload iX2_totalOf_124 rfl ?_
        refine z_aload iX2_totalOf_125 rfl ?_
        refine e_getR iX2_totalOf_126 fX2_28 rfl ?_
        refine e_getR iX2_totalOf_129 fX2_62 rfl ?_
        refine z_iload iX2_totalOf_132 rfl ?_
        refine e_iald iX2_totalOf_133 rfl (by assumption) ?_
        refine z_isub iX2_totalOf_134 ?_
        refine e_callS iX2_totalOf_135 kX2_65 (tJ9_max_7cf53 _ _ _) rfl rfl ⟨Nat.le_of_ble_eq_true rfl, Nat.le_of_ble_eq_true rfl⟩ ⟨Nat.le_of_ble_eq_true rfl, Nat.le_of_ble_eq_true rfl⟩ (Nat.le_of_ble_eq_true rfl) ?_
        dsimp only [Option.toList, List.cons_append, List.nil_append]
        exact e_iret iX2_totalOf_138 rfl ⟨by rw [cTv, cGa, if_neg (by rw [e1]; decide), if_neg (by rw [e1]; decide), if_pos e1, if_pos c94], by rw [cTF, if_neg (by rw [e1]; decide)]⟩
      · refine z_push iX2_totalOf_97 ?_
        refine z_goto iX2_totalOf_98 ?_
        refine z_isub iX2_totalOf_118 ?_
        refine z_istore iX2_totalOf_119 rfl ?_
        dsimp only [List.set_cons_zero, List.set_cons_succ]
        refine z_goto iX2_totalOf_120 ?_
        refine z_push iX2_totalOf_123 ?_
        refine z_iload iX2_totalOf_124 rfl ?_
        refine z_aload iX2_totalOf_125 rfl ?_
        refine e_getR iX2_totalOf_126 fX2_28 rfl ?_
        refine e_getR iX2_totalOf_129 fX2_62 rfl ?_
        refine z_iload iX2_totalOf_132 rfl ?_
        refine e_iald iX2_totalOf_133 rfl (by assumption) ?_
        refine z_isub iX2_totalOf_134 ?_
        refine e_callS iX2_totalOf_135 kX2_65 (tJ9_max_7cf53 _ _ _) rfl rfl ⟨Nat.le_of_ble_eq_true rfl, Nat.le_of_ble_eq_true rfl⟩ ⟨Nat.le_of_ble_eq_true rfl, Nat.le_of_ble_eq_true rfl⟩ (Nat.le_of_ble_eq_true rfl) ?_
        dsimp only [Option.toList, List.cons_append, List.nil_append]
        exact e_iret iX2_totalOf_138 rfl ⟨by rw [cTv, cGa, if_neg (by rw [e1]; decide), if_neg (by rw [e1]; decide), if_pos e1, if_neg c94], by rw [cTF, if_neg (by rw [e1]; decide)]⟩
    | j + 3, hj => simp at hj
  · have e1 : ¬ (cSh F e).toInt = 1 ∧ ¬ (cSh F e).toInt = 2 ∧ ¬ (cSh F e).toInt = 3 := by
      simp at hx
      show ¬ (F 4 (zn (F 10 (zn e)))).toInt = 1 ∧ ¬ (F 4 (zn (F 10 (zn e)))).toInt = 2 ∧ ¬ (F 4 (zn (F 10 (zn e)))).toInt = 3
      omega
    refine z_push iX2_totalOf_123 ?_
    refine z_iload iX2_totalOf_124 rfl ?_
    refine z_aload iX2_totalOf_125 rfl ?_
    refine e_getR iX2_totalOf_126 fX2_28 rfl ?_
    refine e_getR iX2_totalOf_129 fX2_62 rfl ?_
    refine z_iload iX2_totalOf_132 rfl ?_
    refine e_iald iX2_totalOf_133 rfl (by assumption) ?_
    refine z_isub iX2_totalOf_134 ?_
    refine e_callS iX2_totalOf_135 kX2_65 (tJ9_max_7cf53 _ _ _) rfl rfl ⟨Nat.le_of_ble_eq_true rfl, Nat.le_of_ble_eq_true rfl⟩ ⟨Nat.le_of_ble_eq_true rfl, Nat.le_of_ble_eq_true rfl⟩ (Nat.le_of_ble_eq_true rfl) ?_
    dsimp only [Option.toList, List.cons_append, List.nil_append]
    exact e_iret iX2_totalOf_138 rfl ⟨by rw [cTv, cGa, if_neg e1.1, if_neg e1.2.1, if_neg e1.2.2], by rw [cTF, if_neg e1.2.1]⟩

def cBe (F : zFt) (a b : Nat) : Bool := if F 21 a = F 21 b then (if F 17 a = F 17 b then !decide (F 22 a ≤ F 22 b) else !decide (F 17 b ≤ F 17 a)) else !decide (F 21 a ≤ F 21 b)

set_option maxRecDepth 100000 in
theorem tX2_isBetter {L : Nat} (F : zFt) (x : Int32) (y : Int32) (hx : vp_in x 60) (hy : vp_in y 60) : zFn mX2_isBetter 0 [.ref 20, .int x, .int y] L F (some (.int (zb (cBe F (zn x) (zn y))))) F := by
  refine e_of (lo := [some (.ref 20), some (.int x), some (.int y)]) (by decide +kernel) (Nat.le_of_ble_eq_true rfl) rfl ?_
  refine z_aload iX2_isBetter_0 rfl ?_
  refine e_getR iX2_isBetter_1 fX2_9 rfl ?_
  refine z_iload iX2_isBetter_4 rfl ?_
  refine e_iald iX2_isBetter_5 rfl (by assumption) ?_
  refine z_aload iX2_isBetter_6 rfl ?_
  refine e_getR iX2_isBetter_7 fX2_9 rfl ?_
  refine z_iload iX2_isBetter_10 rfl ?_
  refine e_iald iX2_isBetter_11 rfl (by assumption) ?_
  refine z_icmp_eq iX2_isBetter_12 (fun c12 => ?_) (fun c12 => ?_)
  · refine z_aload iX2_isBetter_36 rfl ?_
    refine e_getR iX2_isBetter_37 fX2_28 rfl ?_
    refine e_getR iX2_isBetter_40 fX2_62 rfl ?_
    refine z_iload iX2_isBetter_43 rfl ?_
    refine e_iald iX2_isBetter_44 rfl (by assumption) ?_
    refine z_aload iX2_isBetter_45 rfl ?_
    refine e_getR iX2_isBetter_46 fX2_28 rfl ?_
    refine e_getR iX2_isBetter_49 fX2_62 rfl ?_
    refine z_iload iX2_isBetter_52 rfl ?_
    refine e_iald iX2_isBetter_53 rfl (by assumption) ?_
    refine z_icmp_eq iX2_isBetter_54 (fun c54 => ?_) (fun c54 => ?_)
    · refine z_aload iX2_isBetter_84 rfl ?_
      refine e_getR iX2_isBetter_85 fX2_15 rfl ?_
      refine z_iload iX2_isBetter_88 rfl ?_
      refine e_iald iX2_isBetter_89 rfl (by assumption) ?_
      refine z_aload iX2_isBetter_90 rfl ?_
      refine e_getR iX2_isBetter_91 fX2_15 rfl ?_
      refine z_iload iX2_isBetter_94 rfl ?_
      refine e_iald iX2_isBetter_95 rfl (by assumption) ?_
      refine z_icmp_le iX2_isBetter_96 (fun c96 => ?_) (fun c96 => ?_)
      · refine z_push iX2_isBetter_103 ?_
        exact e_bret iX2_isBetter_104 rfl (by first | exact Or.inl rfl | exact Or.inr rfl | exact zb_01 _ | assumption) ⟨by simp [zb, cBe, *], rfl⟩
      · refine z_push iX2_isBetter_99 ?_
        refine z_goto iX2_isBetter_100 ?_
        exact e_bret iX2_isBetter_104 rfl (by first | exact Or.inl rfl | exact Or.inr rfl | exact zb_01 _ | assumption) ⟨by simp [zb, cBe, *], rfl⟩
    · refine z_aload iX2_isBetter_57 rfl ?_
      refine e_getR iX2_isBetter_58 fX2_28 rfl ?_
      refine e_getR iX2_isBetter_61 fX2_62 rfl ?_
      refine z_iload iX2_isBetter_64 rfl ?_
      refine e_iald iX2_isBetter_65 rfl (by assumption) ?_
      refine z_aload iX2_isBetter_66 rfl ?_
      refine e_getR iX2_isBetter_67 fX2_28 rfl ?_
      refine e_getR iX2_isBetter_70 fX2_62 rfl ?_
      refine z_iload iX2_isBetter_73 rfl ?_
      refine e_iald iX2_isBetter_74 rfl (by assumption) ?_
      refine z_icmp_ge iX2_isBetter_75 (fun c75 => ?_) (fun c75 => ?_)
      · refine z_push iX2_isBetter_82 ?_
        exact e_bret iX2_isBetter_83 rfl (by first | exact Or.inl rfl | exact Or.inr rfl | exact zb_01 _ | assumption) ⟨by simp [zb, cBe, *], rfl⟩
      · refine z_push iX2_isBetter_78 ?_
        refine z_goto iX2_isBetter_79 ?_
        exact e_bret iX2_isBetter_83 rfl (by first | exact Or.inl rfl | exact Or.inr rfl | exact zb_01 _ | assumption) ⟨by simp [zb, cBe, *], rfl⟩
  · refine z_aload iX2_isBetter_15 rfl ?_
    refine e_getR iX2_isBetter_16 fX2_9 rfl ?_
    refine z_iload iX2_isBetter_19 rfl ?_
    refine e_iald iX2_isBetter_20 rfl (by assumption) ?_
    refine z_aload iX2_isBetter_21 rfl ?_
    refine e_getR iX2_isBetter_22 fX2_9 rfl ?_
    refine z_iload iX2_isBetter_25 rfl ?_
    refine e_iald iX2_isBetter_26 rfl (by assumption) ?_
    refine z_icmp_le iX2_isBetter_27 (fun c27 => ?_) (fun c27 => ?_)
    · refine z_push iX2_isBetter_34 ?_
      exact e_bret iX2_isBetter_35 rfl (by first | exact Or.inl rfl | exact Or.inr rfl | exact zb_01 _ | assumption) ⟨by simp [zb, cBe, *], rfl⟩
    · refine z_push iX2_isBetter_30 ?_
      refine z_goto iX2_isBetter_31 ?_
      exact e_bret iX2_isBetter_35 rfl (by first | exact Or.inl rfl | exact Or.inr rfl | exact zb_01 _ | assumption) ⟨by simp [zb, cBe, *], rfl⟩

abbrev gBt (F : zFt) (e : Int32) : Nat → Int32 → Int32 := fun i a => if ¬ F 10 i = F 10 (zn e) then a else if cBe F i (zn e) = false then a else a + 1

set_option maxRecDepth 100000 in
theorem lpX2_betterThan {L : Nat} {Z : zZt} (F : zFt) (e : Int32) (he : vp_in e 60) (h0 : 0 ≤ (F 3 9).toInt) (h6 : zn (F 3 9) ≤ 60) (kk : zEV mX2_betterThan (zrm 1 0 0) Z 54 [some (.ref 20), some (.int e), some (.int (zfold (gBt F e) 0 (zn (F 3 9)))), some (.int (nI (zn (F 3 9))))] [] 111 (zE L (F)) 0 0) : ∀ (n a : Nat), a + n = zn (F 3 9) → zEV mX2_betterThan (zrm 1 0 0) Z 4 [some (.ref 20), some (.int e), some (.int (zfold (gBt F e) 0 a)), some (.int (nI a))] [] 111 (zE L (F)) 0 0 := by
  intro n
  induction n with
  | zero =>
    intro a ha
    obtain rfl : a = zn (F 3 9) := by omega
    refine z_iload iX2_betterThan_4 rfl ?_
    refine z_aload iX2_betterThan_5 rfl ?_
    refine e_getR iX2_betterThan_6 fX2_24 rfl ?_
    refine e_getI iX2_betterThan_9 fX2_97 rfl ?_
    refine z_icmp_ge iX2_betterThan_12 (fun c12 => ?_) (fun c12 => ?_)
    · exact kk
    · exact absurd (up_end h0 rfl) c12
  | succ n ih =>
    intro a ha
    refine z_iload iX2_betterThan_4 rfl ?_
    refine z_aload iX2_betterThan_5 rfl ?_
    refine e_getR iX2_betterThan_6 fX2_24 rfl ?_
    refine e_getI iX2_betterThan_9 fX2_97 rfl ?_
    refine z_icmp_ge iX2_betterThan_12 (fun c12 => ?_) (fun c12 => ?_)
    · exact absurd c12 (up_in (x := (F 3 9)) (by omega))
    · refine z_aload iX2_betterThan_15 rfl ?_
      refine e_getR iX2_betterThan_16 fX2_24 rfl ?_
      refine e_getR iX2_betterThan_19 fX2_37 rfl ?_
      refine z_iload iX2_betterThan_22 rfl ?_
      refine e_iald iX2_betterThan_23 rfl (vin_mk (n := 60) (by omega)) ?_
      rw [zn_nI (by omega)]
      refine z_aload iX2_betterThan_24 rfl ?_
      refine e_getR iX2_betterThan_25 fX2_24 rfl ?_
      refine e_getR iX2_betterThan_28 fX2_37 rfl ?_
      refine z_iload iX2_betterThan_31 rfl ?_
      refine e_iald iX2_betterThan_32 rfl (by assumption) ?_
      refine z_icmp_ne iX2_betterThan_33 (fun c33 => ?_) (fun c33 => ?_)
      · refine z_iinc (v := 1) iX2_betterThan_48 (by decide) (by decide) rfl rfl ?_
        dsimp only [List.set_cons_zero, List.set_cons_succ]
        refine z_goto iX2_betterThan_51 ?_
        exact z_to (by simp [zfold, nI_1, *]) rfl (ih (a + 1) (by omega))
      · refine z_aload iX2_betterThan_36 rfl ?_
        refine z_iload iX2_betterThan_37 rfl ?_
        refine z_iload iX2_betterThan_38 rfl ?_
        refine e_callV iX2_betterThan_39 kX2_113 (tX2_isBetter F (nI a) e (vin_mk (by omega)) he) rfl rfl rfl ⟨Nat.le_of_ble_eq_true rfl, Nat.le_of_ble_eq_true rfl⟩ ⟨Nat.le_of_ble_eq_true rfl, Nat.le_of_ble_eq_true rfl⟩ (Nat.le_of_ble_eq_true rfl) ?_
        dsimp only [Option.toList, List.cons_append, List.nil_append]
        rw [zn_nI (by omega)]
        refine z_if_eq iX2_betterThan_42 (fun c42 => ?_) (fun c42 => ?_)
        · rw [zb_0] at c42
          refine z_iinc (v := 1) iX2_betterThan_48 (by decide) (by decide) rfl rfl ?_
          dsimp only [List.set_cons_zero, List.set_cons_succ]
          refine z_goto iX2_betterThan_51 ?_
          exact z_to (by simp [zfold, nI_1, *]) rfl (ih (a + 1) (by omega))
        · rw [zb_n] at c42
          refine z_iinc (v := 1) iX2_betterThan_45 (by decide) (by decide) rfl rfl ?_
          dsimp only [List.set_cons_zero, List.set_cons_succ]
          refine z_iinc (v := 1) iX2_betterThan_48 (by decide) (by decide) rfl rfl ?_
          dsimp only [List.set_cons_zero, List.set_cons_succ]
          refine z_goto iX2_betterThan_51 ?_
          exact z_to (by simp [zfold, nI_1, *]) rfl (ih (a + 1) (by omega))

set_option maxRecDepth 100000 in
theorem tX2_betterThan {L : Nat} (F : zFt) (e : Int32) (he : vp_in e 60) (h0 : 0 ≤ (F 3 9).toInt) (h6 : zn (F 3 9) ≤ 60) : zFn mX2_betterThan 1 [.ref 20, .int e] L F (some (.int (zfold (gBt F e) 0 (zn (F 3 9))))) F := by
  refine e_of (lo := [some (.ref 20), some (.int e), none, none]) (by decide +kernel) (Nat.le_of_ble_eq_true rfl) rfl ?_
  refine z_push iX2_betterThan_0 ?_
  refine z_istore iX2_betterThan_1 rfl ?_
  dsimp only [List.set_cons_zero, List.set_cons_succ]
  refine z_push iX2_betterThan_2 ?_
  refine z_istore iX2_betterThan_3 rfl ?_
  dsimp only [List.set_cons_zero, List.set_cons_succ]
  refine lpX2_betterThan F e he h0 h6 ?_ _ 0 (Nat.zero_add _)
  refine z_iload iX2_betterThan_54 rfl ?_
  exact e_iret iX2_betterThan_55 rfl ⟨rfl, rfl⟩

abbrev gSa (F : zFt) (e : Int32) : Nat → Int32 → Int32 := fun i a => if ¬ F 10 i = F 10 (zn e) then a else if ¬ F 23 i = F 23 (zn e) then a else a + 1

set_option maxRecDepth 100000 in
theorem lpX2_sharersAheadOf {L : Nat} {R : Room} {Z : zZt} (F : zFt) (e x : Int32) (he : vp_in e 60) (h0 : 0 ≤ x.toInt) (h6 : zn x ≤ 60) (kk : zEV mX2_sharersAheadOf R Z 58 [some (.ref 20), some (.int e), some (.int x), some (.int (zfold (gSa F e) 0 (zn x))), some (.int (nI (zn x)))] [] 111 (zE L (F)) 0 0) : ∀ (n a : Nat), a + n = zn x → zEV mX2_sharersAheadOf R Z 5 [some (.ref 20), some (.int e), some (.int x), some (.int (zfold (gSa F e) 0 a)), some (.int (nI a))] [] 111 (zE L (F)) 0 0 := by
  intro n
  induction n with
  | zero =>
    intro a ha
    obtain rfl : a = zn x := by omega
    refine z_iload iX2_sharersAheadOf_5 rfl ?_
    refine z_iload iX2_sharersAheadOf_7 rfl ?_
    refine z_icmp_ge iX2_sharersAheadOf_8 (fun c8 => ?_) (fun c8 => ?_)
    · exact kk
    · exact absurd (up_end h0 rfl) c8
  | succ n ih =>
    intro a ha
    refine z_iload iX2_sharersAheadOf_5 rfl ?_
    refine z_iload iX2_sharersAheadOf_7 rfl ?_
    refine z_icmp_ge iX2_sharersAheadOf_8 (fun c8 => ?_) (fun c8 => ?_)
    · exact absurd c8 (up_in (x := (x)) (by omega))
    · refine z_aload iX2_sharersAheadOf_11 rfl ?_
      refine e_getR iX2_sharersAheadOf_12 fX2_24 rfl ?_
      refine e_getR iX2_sharersAheadOf_15 fX2_37 rfl ?_
      refine z_iload iX2_sharersAheadOf_18 rfl ?_
      refine e_iald iX2_sharersAheadOf_20 rfl (vin_mk (n := 60) (by omega)) ?_
      rw [zn_nI (by omega)]
      refine z_aload iX2_sharersAheadOf_21 rfl ?_
      refine e_getR iX2_sharersAheadOf_22 fX2_24 rfl ?_
      refine e_getR iX2_sharersAheadOf_25 fX2_37 rfl ?_
      refine z_iload iX2_sharersAheadOf_28 rfl ?_
      refine e_iald iX2_sharersAheadOf_29 rfl (by assumption) ?_
      refine z_icmp_ne iX2_sharersAheadOf_30 (fun c30 => ?_) (fun c30 => ?_)
      · refine z_iinc (v := 1) iX2_sharersAheadOf_52 (by decide) (by decide) rfl rfl ?_
        dsimp only [List.set_cons_zero, List.set_cons_succ]
        refine z_goto iX2_sharersAheadOf_55 ?_
        exact z_to (by simp [zfold, nI_1, *]) rfl (ih (a + 1) (by omega))
      · refine z_aload iX2_sharersAheadOf_33 rfl ?_
        refine e_getR iX2_sharersAheadOf_34 fX2_18 rfl ?_
        refine z_iload iX2_sharersAheadOf_37 rfl ?_
        refine e_iald iX2_sharersAheadOf_39 rfl (vin_mk (n := 60) (by omega)) ?_
        rw [zn_nI (by omega)]
        refine z_aload iX2_sharersAheadOf_40 rfl ?_
        refine e_getR iX2_sharersAheadOf_41 fX2_18 rfl ?_
        refine z_iload iX2_sharersAheadOf_44 rfl ?_
        refine e_iald iX2_sharersAheadOf_45 rfl (by assumption) ?_
        refine z_icmp_ne iX2_sharersAheadOf_46 (fun c46 => ?_) (fun c46 => ?_)
        · refine z_iinc (v := 1) iX2_sharersAheadOf_52 (by decide) (by decide) rfl rfl ?_
          dsimp only [List.set_cons_zero, List.set_cons_succ]
          refine z_goto iX2_sharersAheadOf_55 ?_
          exact z_to (by simp [zfold, nI_1, *]) rfl (ih (a + 1) (by omega))
        · refine z_iinc (v := 1) iX2_sharersAheadOf_49 (by decide) (by decide) rfl rfl ?_
          dsimp only [List.set_cons_zero, List.set_cons_succ]
          refine z_iinc (v := 1) iX2_sharersAheadOf_52 (by decide) (by decide) rfl rfl ?_
          dsimp only [List.set_cons_zero, List.set_cons_succ]
          refine z_goto iX2_sharersAheadOf_55 ?_
          exact z_to (by simp [zfold, nI_1, *]) rfl (ih (a + 1) (by omega))

set_option maxRecDepth 100000 in
theorem tX2_sharersAheadOf {L : Nat} (F : zFt) (e : Int32) (x : Int32) (he : vp_in e 60) (h0 : 0 ≤ x.toInt) (h6 : zn x ≤ 60) : zFn mX2_sharersAheadOf 0 [.ref 20, .int e, .int x] L F (some (.int (zfold (gSa F e) 0 (zn x)))) F := by
  refine e_of (lo := [some (.ref 20), some (.int e), some (.int x), none, none]) (by decide +kernel) (Nat.le_of_ble_eq_true rfl) rfl ?_
  refine z_push iX2_sharersAheadOf_0 ?_
  refine z_istore iX2_sharersAheadOf_1 rfl ?_
  dsimp only [List.set_cons_zero, List.set_cons_succ]
  refine z_push iX2_sharersAheadOf_2 ?_
  refine z_istore iX2_sharersAheadOf_3 rfl ?_
  dsimp only [List.set_cons_zero, List.set_cons_succ]
  refine lpX2_sharersAheadOf F e x he h0 h6 ?_ _ 0 (Nat.zero_add _)
  refine z_iload iX2_sharersAheadOf_58 rfl ?_
  exact e_iret iX2_sharersAheadOf_59 rfl ⟨rfl, rfl⟩

set_option maxRecDepth 100000 in
theorem tX2_sharers {L : Nat} (F : zFt) (e : Int32) (he : vp_in e 60) (h0 : 0 ≤ (F 3 9).toInt) (h6 : zn (F 3 9) ≤ 60) : zFn mX2_sharers 1 [.ref 20, .int e] L F (some (.int (zfold (gSa F e) 0 (zn (F 3 9))))) F := by
  refine e_of (lo := [some (.ref 20), some (.int e)]) (by decide +kernel) (Nat.le_of_ble_eq_true rfl) rfl ?_
  refine z_aload iX2_sharers_0 rfl ?_
  refine z_iload iX2_sharers_1 rfl ?_
  refine z_aload iX2_sharers_2 rfl ?_
  refine e_getR iX2_sharers_3 fX2_24 rfl ?_
  refine e_getI iX2_sharers_6 fX2_97 rfl ?_
  refine e_callV iX2_sharers_9 kX2_117 (tX2_sharersAheadOf F e (F 3 9) he h0 h6) rfl rfl rfl ⟨Nat.le_of_ble_eq_true rfl, Nat.le_of_ble_eq_true rfl⟩ ⟨Nat.le_of_ble_eq_true rfl, Nat.le_of_ble_eq_true rfl⟩ (Nat.le_of_ble_eq_true rfl) ?_
  dsimp only [Option.toList, List.cons_append, List.nil_append]
  exact e_iret iX2_sharers_12 rfl ⟨rfl, rfl⟩

set_option maxRecDepth 100000 in
theorem tX2_position {L : Nat} (F : zFt) (e : Int32) (he : vp_in e 60) : zFn mX2_position 1 [.ref 20, .int e] L F (some (.int (F 23 (zn e) - 1 + zfold (gSa F e) 0 (zn e)))) F := by
  refine e_of (lo := [some (.ref 20), some (.int e)]) (by decide +kernel) (Nat.le_of_ble_eq_true rfl) rfl ?_
  refine z_aload iX2_position_0 rfl ?_
  refine e_getR iX2_position_1 fX2_18 rfl ?_
  refine z_iload iX2_position_4 rfl ?_
  refine e_iald iX2_position_5 rfl (by assumption) ?_
  refine z_push iX2_position_6 ?_
  refine z_isub iX2_position_7 ?_
  refine z_aload iX2_position_8 rfl ?_
  refine z_iload iX2_position_9 rfl ?_
  refine z_iload iX2_position_10 rfl ?_
  refine e_callV iX2_position_11 kX2_117 (tX2_sharersAheadOf F e e he (vin.mp he).1 (Nat.le_of_lt (vin_zn he))) rfl rfl rfl ⟨Nat.le_of_ble_eq_true rfl, Nat.le_of_ble_eq_true rfl⟩ ⟨Nat.le_of_ble_eq_true rfl, Nat.le_of_ble_eq_true rfl⟩ (Nat.le_of_ble_eq_true rfl) ?_
  dsimp only [Option.toList, List.cons_append, List.nil_append]
  refine z_iadd iX2_position_14 ?_
  exact e_iret iX2_position_15 rfl ⟨rfl, rfl⟩
