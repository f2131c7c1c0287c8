abbrev oCo (F : zFt) (m : Int32) : Int32 × zFt := cOf F (cIn F) m (zn (F 25 3)) 0
def pPoints (F : zFt) (x : Int32) : Int32 × zFt := if x < -6000 then (-102, F) else if x ≤ 6000 then (if cRf F = 0 then oCo (cAe F 0 x) 0 else (cRf F, F)) else (-102, F)
def pDeduct (F : zFt) (x : Int32) : Int32 × zFt := if x < 0 then (-102, F) else if x ≤ 6000 then (if cRf F = 0 then (cAe F 1 x 17 (zn (sE (cAe F 1 x) (cIn (cAe F 1 x)))), cAe F 1 x) else (cRf F, F)) else (-102, F)
def pRemark (F : zFt) (x : Int32) : Int32 × zFt := if x < 0 then (-102, F) else if x < 8 then (if cRf F = 0 then (zbc (zfold (gRb (cAe F 2 x) (sE (cAe F 2 x) (cIn (cAe F 2 x)))) 0 8), cAe F 2 x) else (cRf F, F)) else (-102, F)

set_option maxRecDepth 100000 in
theorem tX7_points {L : Nat} (F : zFt) (x : Int32) (h : CI F) (hz : F 16 (zn (F 11 6)) = 0) : zFn mX7_points 6 [.ref 2, .int x] L F (some (.int (pPoints F x).1)) (pPoints F x).2 := by
  refine e_of (lo := [some (.ref 2), some (.int x), none]) (by decide +kernel) (Nat.le_of_ble_eq_true rfl) rfl ?_
  refine z_iload iX7_points_0 rfl ?_
  refine z_push iX7_points_1 ?_
  refine z_icmp_lt iX7_points_4 (fun c4 => ?_) (fun c4 => ?_)
  · refine z_push iX7_points_14 ?_
    exact e_iret iX7_points_16 rfl ⟨by simp [pPoints, c4], by simp [pPoints, c4]⟩
  · refine z_iload iX7_points_7 rfl ?_
    refine z_push iX7_points_8 ?_
    refine z_icmp_le iX7_points_11 (fun c11 => ?_) (fun c11 => ?_)
    · refine z_aload iX7_points_17 rfl ?_
      refine e_callV iX7_points_18 kX7_144 (tX7_refusalOfEvent F) rfl rfl rfl ⟨Nat.le_of_ble_eq_true rfl, Nat.le_of_ble_eq_true rfl⟩ ⟨Nat.le_of_ble_eq_true rfl, Nat.le_of_ble_eq_true rfl⟩ (Nat.le_of_ble_eq_true rfl) ?_
      dsimp only [Option.toList, List.cons_append, List.nil_append]
      refine z_istore iX7_points_21 rfl ?_
      dsimp only [List.set_cons_zero, List.set_cons_succ]
      refine z_iload iX7_points_22 rfl ?_
      refine z_if_eq iX7_points_23 (fun c23 => ?_) (fun c23 => ?_)
      · obtain ⟨hst, h4⟩ := cRf_0 c23
        obtain ⟨n, hn, hF, hin⟩ := CI_st h hst
        have hfa := FI_app h hn h4 (x := 0) (y := x) (Or.inl rfl)
        have hi := (FI_in hF).2
        have hi2 := FI_in hfa.1
        refine z_aload iX7_points_28 rfl ?_
        refine z_push iX7_points_29 ?_
        refine z_iload iX7_points_30 rfl ?_
        refine e_callV iX7_points_31 kX7_148 (tX7_appendEvent F 0 x hi (ev_400 h.2.2.2.2.1 h4).2.1 hfa.2 hz) rfl rfl rfl ⟨Nat.le_of_ble_eq_true rfl, Nat.le_of_ble_eq_true rfl⟩ ⟨Nat.le_of_ble_eq_true rfl, Nat.le_of_ble_eq_true rfl⟩ (Nat.le_of_ble_eq_true rfl) ?_
        dsimp only [Option.toList, List.cons_append, List.nil_append]
        refine z_aload iX7_points_34 rfl ?_
        refine z_push iX7_points_35 ?_
        refine e_callV iX7_points_36 kX7_152 (tX7_outcomeOf (cAe F 0 x) 0 n hfa.1) rfl rfl rfl ⟨Nat.le_of_ble_eq_true rfl, Nat.le_of_ble_eq_true rfl⟩ ⟨Nat.le_of_ble_eq_true rfl, Nat.le_of_ble_eq_true rfl⟩ (Nat.le_of_ble_eq_true rfl) ?_
        dsimp only [Option.toList, List.cons_append, List.nil_append]
        exact e_iret iX7_points_39 rfl ⟨by simp [pPoints, c4, c11, c23], by simp [pPoints, c4, c11, c23]⟩
      · refine z_iload iX7_points_26 rfl ?_
        exact e_iret iX7_points_27 rfl ⟨by simp [pPoints, c4, c11, c23], by simp [pPoints, c4, c11, c23]⟩
    · refine z_push iX7_points_14 ?_
      exact e_iret iX7_points_16 rfl ⟨by simp [pPoints, c4, c11], by simp [pPoints, c4, c11]⟩

set_option maxRecDepth 100000 in
theorem tX7_deduct {L : Nat} (F : zFt) (x : Int32) (h : CI F) (hz : F 16 (zn (F 11 6)) = 0) : zFn mX7_deduct 4 [.ref 2, .int x] L F (some (.int (pDeduct F x).1)) (pDeduct F x).2 := by
  refine e_of (lo := [some (.ref 2), some (.int x), none]) (by decide +kernel) (Nat.le_of_ble_eq_true rfl) rfl ?_
  refine z_iload iX7_deduct_0 rfl ?_
  refine z_if_lt iX7_deduct_1 (fun c1 => ?_) (fun c1 => ?_)
  · refine z_push iX7_deduct_11 ?_
    exact e_iret iX7_deduct_13 rfl ⟨by simp [pDeduct, c1], by simp [pDeduct, c1]⟩
  · refine z_iload iX7_deduct_4 rfl ?_
    refine z_push iX7_deduct_5 ?_
    refine z_icmp_le iX7_deduct_8 (fun c8 => ?_) (fun c8 => ?_)
    · refine z_aload iX7_deduct_14 rfl ?_
      refine e_callV iX7_deduct_15 kX7_144 (tX7_refusalOfEvent F) rfl rfl rfl ⟨Nat.le_of_ble_eq_true rfl, Nat.le_of_ble_eq_true rfl⟩ ⟨Nat.le_of_ble_eq_true rfl, Nat.le_of_ble_eq_true rfl⟩ (Nat.le_of_ble_eq_true rfl) ?_
      dsimp only [Option.toList, List.cons_append, List.nil_append]
      refine z_istore iX7_deduct_18 rfl ?_
      dsimp only [List.set_cons_zero, List.set_cons_succ]
      refine z_iload iX7_deduct_19 rfl ?_
      refine z_if_eq iX7_deduct_20 (fun c20 => ?_) (fun c20 => ?_)
      · obtain ⟨hst, h4⟩ := cRf_0 c20
        obtain ⟨n, hn, hF, hin⟩ := CI_st h hst
        have hfa := FI_app h hn h4 (x := 1) (y := x) (Or.inr (Or.inl rfl))
        have hi := (FI_in hF).2
        have hi2 := FI_in hfa.1
        refine z_aload iX7_deduct_25 rfl ?_
        refine z_push iX7_deduct_26 ?_
        refine z_iload iX7_deduct_27 rfl ?_
        refine e_callV iX7_deduct_28 kX7_148 (tX7_appendEvent F 1 x hi (ev_400 h.2.2.2.2.1 h4).2.1 hfa.2 hz) rfl rfl rfl ⟨Nat.le_of_ble_eq_true rfl, Nat.le_of_ble_eq_true rfl⟩ ⟨Nat.le_of_ble_eq_true rfl, Nat.le_of_ble_eq_true rfl⟩ (Nat.le_of_ble_eq_true rfl) ?_
        dsimp only [Option.toList, List.cons_append, List.nil_append]
        refine z_aload iX7_deduct_31 rfl ?_
        refine e_getR iX7_deduct_32 fX7_21 rfl ?_
        refine e_getR iX7_deduct_35 fX7_155 rfl ?_
        refine z_aload iX7_deduct_38 rfl ?_
        refine e_callV iX7_deduct_39 kX7_158 (tX7_innermost (cAe F 1 x) hi2.2) rfl rfl rfl ⟨Nat.le_of_ble_eq_true rfl, Nat.le_of_ble_eq_true rfl⟩ ⟨Nat.le_of_ble_eq_true rfl, Nat.le_of_ble_eq_true rfl⟩ (Nat.le_of_ble_eq_true rfl) ?_
        dsimp only [Option.toList, List.cons_append, List.nil_append]
        refine e_getI iX7_deduct_42 fX7_162 (scI1 (cIn (cAe F 1 x)) (in_lt hi2.2)) ?_
        refine e_iald iX7_deduct_45 rfl (FI_top hfa.1).1.2.2.2.1 ?_
        exact e_iret iX7_deduct_46 rfl ⟨by simp [pDeduct, c1, c8, c20], by simp [pDeduct, c1, c8, c20]⟩
      · refine z_iload iX7_deduct_23 rfl ?_
        exact e_iret iX7_deduct_24 rfl ⟨by simp [pDeduct, c1, c8, c20], by simp [pDeduct, c1, c8, c20]⟩
    · refine z_push iX7_deduct_11 ?_
      exact e_iret iX7_deduct_13 rfl ⟨by simp [pDeduct, c1, c8], by simp [pDeduct, c1, c8]⟩

set_option maxRecDepth 100000 in
theorem tX7_remark {L : Nat} (F : zFt) (x : Int32) (h : CI F) (hz : F 16 (zn (F 11 6)) = 0) : zFn mX7_remark 4 [.ref 2, .int x] L F (some (.int (pRemark F x).1)) (pRemark F x).2 := by
  refine e_of (lo := [some (.ref 2), some (.int x), none]) (by decide +kernel) (Nat.le_of_ble_eq_true rfl) rfl ?_
  refine z_iload iX7_remark_0 rfl ?_
  refine z_if_lt iX7_remark_1 (fun c1 => ?_) (fun c1 => ?_)
  · refine z_push iX7_remark_10 ?_
    exact e_iret iX7_remark_12 rfl ⟨by simp [pRemark, c1], by simp [pRemark, c1]⟩
  · refine z_iload iX7_remark_4 rfl ?_
    refine z_push iX7_remark_5 ?_
    refine z_icmp_lt iX7_remark_7 (fun c7 => ?_) (fun c7 => ?_)
    · have vx : vp_in x 8 := by
        rw [Int32.lt_iff_toInt_lt] at c1 c7
        simp at c1 c7
        rw [vin]
        omega
      refine z_aload iX7_remark_13 rfl ?_
      refine e_callV iX7_remark_14 kX7_144 (tX7_refusalOfEvent F) rfl rfl rfl ⟨Nat.le_of_ble_eq_true rfl, Nat.le_of_ble_eq_true rfl⟩ ⟨Nat.le_of_ble_eq_true rfl, Nat.le_of_ble_eq_true rfl⟩ (Nat.le_of_ble_eq_true rfl) ?_
      dsimp only [Option.toList, List.cons_append, List.nil_append]
      refine z_istore iX7_remark_17 rfl ?_
      dsimp only [List.set_cons_zero, List.set_cons_succ]
      refine z_iload iX7_remark_18 rfl ?_
      refine z_if_eq iX7_remark_19 (fun c19 => ?_) (fun c19 => ?_)
      · obtain ⟨hst, h4⟩ := cRf_0 c19
        obtain ⟨n, hn, hF, hin⟩ := CI_st h hst
        have hfa := FI_app h hn h4 (x := 2) (y := x) (Or.inr (Or.inr ⟨rfl, vx⟩))
        have hi := (FI_in hF).2
        have hi2 := FI_in hfa.1
        refine z_aload iX7_remark_24 rfl ?_
        refine z_push iX7_remark_25 ?_
        refine z_iload iX7_remark_26 rfl ?_
        refine e_callV iX7_remark_27 kX7_148 (tX7_appendEvent F 2 x hi (ev_400 h.2.2.2.2.1 h4).2.1 hfa.2 hz) rfl rfl rfl ⟨Nat.le_of_ble_eq_true rfl, Nat.le_of_ble_eq_true rfl⟩ ⟨Nat.le_of_ble_eq_true rfl, Nat.le_of_ble_eq_true rfl⟩ (Nat.le_of_ble_eq_true rfl) ?_
        dsimp only [Option.toList, List.cons_append, List.nil_append]
        refine z_aload iX7_remark_30 rfl ?_
        refine e_getR iX7_remark_31 fX7_21 rfl ?_
        refine z_aload iX7_remark_34 rfl ?_
        refine e_callV iX7_remark_35 kX7_158 (tX7_innermost (cAe F 2 x) hi2.2) rfl rfl rfl ⟨Nat.le_of_ble_eq_true rfl, Nat.le_of_ble_eq_true rfl⟩ ⟨Nat.le_of_ble_eq_true rfl, Nat.le_of_ble_eq_true rfl⟩ (Nat.le_of_ble_eq_true rfl) ?_
        dsimp only [Option.toList, List.cons_append, List.nil_append]
        refine e_getI iX7_remark_38 fX7_162 (scI1 (cIn (cAe F 2 x)) (in_lt hi2.2)) ?_
        refine e_callV iX7_remark_41 kX7_165 (tX5_remarkBits (cAe F 2 x) _ (FI_top hfa.1).1.2.2.2.1) rfl rfl rfl ⟨Nat.le_of_ble_eq_true rfl, Nat.le_of_ble_eq_true rfl⟩ ⟨Nat.le_of_ble_eq_true rfl, Nat.le_of_ble_eq_true rfl⟩ (Nat.le_of_ble_eq_true rfl) ?_
        dsimp only [Option.toList, List.cons_append, List.nil_append]
        refine e_callS iX7_remark_44 kX7_168 (tJ6_bitCount_0f7a4 _ _) rfl rfl ⟨Nat.le_of_ble_eq_true rfl, Nat.le_of_ble_eq_true rfl⟩ ⟨Nat.le_of_ble_eq_true rfl, Nat.le_of_ble_eq_true rfl⟩ (Nat.le_of_ble_eq_true rfl) ?_
        dsimp only [Option.toList, List.cons_append, List.nil_append]
        exact e_iret iX7_remark_47 rfl ⟨by simp [pRemark, c1, c7, c19], by simp [pRemark, c1, c7, c19]⟩
      · refine z_iload iX7_remark_22 rfl ?_
        exact e_iret iX7_remark_23 rfl ⟨by simp [pRemark, c1, c7, c19], by simp [pRemark, c1, c7, c19]⟩
    · refine z_push iX7_remark_10 ?_
      exact e_iret iX7_remark_12 rfl ⟨by simp [pRemark, c1, c7], by simp [pRemark, c1, c7]⟩

def pSave (F : zFt) (x : Int32) : Int32 × zFt := if zin x 16 = false then (-102, F) else if ¬ F 2 7 = 0 then oCo (cAs F (cIn F) x (F 11 6)) 1 else (-103, F)
theorem zin_16 {x m : Int32} {n : Nat} (h : zin x m = true) (hm : m.toInt = n) : vp_in x n := by
  rw [zin_t] at h
  rw [vin]
  omega

set_option maxRecDepth 100000 in
theorem tX7_save {L : Nat} (F : zFt) (x : Int32) (h : CI F) : zFn mX7_save 6 [.ref 2, .int x] L F (some (.int (pSave F x).1)) (pSave F x).2 := by
  refine e_of (lo := [some (.ref 2), some (.int x)]) (by decide +kernel) (Nat.le_of_ble_eq_true rfl) rfl ?_
  refine z_iload iX7_save_0 rfl ?_
  refine e_callS iX7_save_1 kX7_173 (tX7_isName F _) rfl rfl ⟨Nat.le_of_ble_eq_true rfl, Nat.le_of_ble_eq_true rfl⟩ ⟨Nat.le_of_ble_eq_true rfl, Nat.le_of_ble_eq_true rfl⟩ (Nat.le_of_ble_eq_true rfl) ?_
  dsimp only [Option.toList, List.cons_append, List.nil_append]
  refine z_if_ne iX7_save_4 (fun c4 => ?_) (fun c4 => ?_)
  · rw [zb_n] at c4
    refine z_aload iX7_save_10 rfl ?_
    refine e_getI iX7_save_11 fX7_61 rfl ?_
    refine z_if_ne iX7_save_14 (fun c14 => ?_) (fun c14 => ?_)
    · obtain ⟨n, hn, hF, hin⟩ := CI_st h c14
      have hi := (FI_in hF).2
      have hs := in_lt hi
      have hT := FI_top hF
      subst hin
      have hsv := CI_save h hn (zin_16 c4 (by decide))
      have hf2 := CI_FI hsv.1
      rw [hsv.2.2] at hf2
      refine z_aload iX7_save_20 rfl ?_
      refine e_callV iX7_save_21 kX7_158 (tX7_innermost F hi) rfl rfl rfl ⟨Nat.le_of_ble_eq_true rfl, Nat.le_of_ble_eq_true rfl⟩ ⟨Nat.le_of_ble_eq_true rfl, Nat.le_of_ble_eq_true rfl⟩ (Nat.le_of_ble_eq_true rfl) ?_
      dsimp only [Option.toList, List.cons_append, List.nil_append]
      refine z_iload iX7_save_24 rfl ?_
      refine z_aload iX7_save_25 rfl ?_
      refine e_getR iX7_save_26 fX7_21 rfl ?_
      refine e_getI iX7_save_29 fX7_137 rfl ?_
      refine e_callV iX7_save_32 kX7_176 (tX4_addSavepoint F (cIn F) hs x (F 11 6) hT.2.1.1 hT.2.1.2 hsv.2.1) rfl rfl (scO (cIn F) hs) ⟨Nat.le_of_ble_eq_true rfl, Nat.le_of_ble_eq_true rfl⟩ ⟨Nat.le_of_ble_eq_true rfl, Nat.le_of_ble_eq_true rfl⟩ (Nat.le_of_ble_eq_true rfl) ?_
      dsimp only [Option.toList, List.cons_append, List.nil_append]
      refine z_aload iX7_save_35 rfl ?_
      refine z_push iX7_save_36 ?_
      refine e_callV iX7_save_37 kX7_152 (tX7_outcomeOf (cAs F (cIn F) x (F 11 6)) 1 _ hf2) rfl rfl rfl ⟨Nat.le_of_ble_eq_true rfl, Nat.le_of_ble_eq_true rfl⟩ ⟨Nat.le_of_ble_eq_true rfl, Nat.le_of_ble_eq_true rfl⟩ (Nat.le_of_ble_eq_true rfl) ?_
      dsimp only [Option.toList, List.cons_append, List.nil_append]
      exact e_iret iX7_save_40 rfl ⟨by simp [pSave, c4, c14], by simp [pSave, c4, c14]⟩
    · refine z_push iX7_save_17 ?_
      exact e_iret iX7_save_19 rfl ⟨by simp [pSave, c4, c14], by simp [pSave, c4, c14]⟩
  · rw [zb_0] at c4
    refine z_push iX7_save_7 ?_
    exact e_iret iX7_save_9 rfl ⟨by simp [pSave, c4], by simp [pSave, c4]⟩

def cNa (F : zFt) (x : Int32) : Int32 := if ¬ F 2 7 = 0 then cIx F (cIn F) x else -1
theorem cNa_st {F : zFt} {x : Int32} (h : 0 ≤ cNa F x) : ¬ F 2 7 = 0 := by
  intro z
  rw [cNa, if_neg (not_not_intro z)] at h
  exact absurd h (by decide)
theorem tX7_savepointNamed2 {L : Nat} (F : zFt) (x : Int32) (h : CI F) : zFn mX7_savepointNamed 1 [.ref 2, .int x] L F (some (.int (cNa F x))) F :=
  tX7_savepointNamed F x (fun q => by obtain ⟨n, hn, hF, hin⟩ := CI_st h q; exact ⟨in_lt (FI_in hF).2, (FI_in hF).2⟩) (fun q => by obtain ⟨n, hn, hF, hin⟩ := CI_st h q; exact (FI_top hF).2.1)
theorem cNa_ix {F : zFt} {x : Int32} (h : ¬ F 2 7 = 0) : cNa F x = cIx F (cIn F) x := if_pos h
abbrev cBk (F : zFt) (x : Int32) : zFt := zup (cKt F (F (5 * cIn F + 37) (zn (cNa F x)))) (5 * cIn F + 35) 5 (cNa F x + 1)
def pBack (F : zFt) (x : Int32) : Int32 × zFt := if zin x 16 = false then (-102, F) else if 0 ≤ cNa F x then (cNa F x + 1, cBk F x) else (-103, F)
def pRelease (F : zFt) (x : Int32) : Int32 × zFt := if zin x 16 = false then (-102, F) else if 0 ≤ cNa F x then (cNa F x, zup F (5 * cIn F + 35) 5 (cNa F x)) else (-103, F)

set_option maxRecDepth 100000 in
theorem tX7_back {L : Nat} (F : zFt) (x : Int32) (h : CI F) : zFn mX7_back 3 [.ref 2, .int x] L F (some (.int (pBack F x).1)) (pBack F x).2 := by
  refine e_of (lo := [some (.ref 2), some (.int x), none, none]) (by decide +kernel) (Nat.le_of_ble_eq_true rfl) rfl ?_
  refine z_iload iX7_back_0 rfl ?_
  refine e_callS iX7_back_1 kX7_173 (tX7_isName F _) rfl rfl ⟨Nat.le_of_ble_eq_true rfl, Nat.le_of_ble_eq_true rfl⟩ ⟨Nat.le_of_ble_eq_true rfl, Nat.le_of_ble_eq_true rfl⟩ (Nat.le_of_ble_eq_true rfl) ?_
  dsimp only [Option.toList, List.cons_append, List.nil_append]
  refine z_if_ne iX7_back_4 (fun c4 => ?_) (fun c4 => ?_)
  · rw [zb_n] at c4
    refine z_aload iX7_back_10 rfl ?_
    refine z_iload iX7_back_11 rfl ?_
    refine e_callV iX7_back_12 kX7_179 (tX7_savepointNamed2 F x h) rfl rfl rfl ⟨Nat.le_of_ble_eq_true rfl, Nat.le_of_ble_eq_true rfl⟩ ⟨Nat.le_of_ble_eq_true rfl, Nat.le_of_ble_eq_true rfl⟩ (Nat.le_of_ble_eq_true rfl) ?_
    dsimp only [Option.toList, List.cons_append, List.nil_append]
    refine z_istore iX7_back_15 rfl ?_
    dsimp only [List.set_cons_zero, List.set_cons_succ]
    refine z_iload iX7_back_16 rfl ?_
    refine z_if_ge iX7_back_17 (fun c17 => ?_) (fun c17 => ?_)
    · obtain ⟨n, hn, hF, hin⟩ := CI_st h (cNa_st c17)
      have hi := (FI_in hF).2
      have hs := in_lt hi
      have hT := FI_top hF
      have hlt := zfi_lt (fun i => F (5 * cIn F + 36) i) x (zn (F (5 * cIn F + 35) 5)) 0 (by have := hT.2.1.2; omega) (by rw [show zfi (fun i => F (5 * cIn F + 36) i) x (zn (F (5 * cIn F + 35) 5)) 0 = cNa F x from (cNa_ix (cNa_st c17)).symm]; exact ge_nlt c17)
      rw [Nat.zero_add] at hlt
      have e7 : zfi (fun i => F (5 * cIn F + 36) i) x (zn (F (5 * cIn F + 35) 5)) 0 = cNa F x := (cNa_ix (cNa_st c17)).symm
      rw [e7] at hlt
      have hm := hT.2.2.2.2 _ hlt.2
      refine z_aload iX7_back_23 rfl ?_
      refine e_callV iX7_back_24 kX7_158 (tX7_innermost F hi) rfl rfl rfl ⟨Nat.le_of_ble_eq_true rfl, Nat.le_of_ble_eq_true rfl⟩ ⟨Nat.le_of_ble_eq_true rfl, Nat.le_of_ble_eq_true rfl⟩ (Nat.le_of_ble_eq_true rfl) ?_
      dsimp only [Option.toList, List.cons_append, List.nil_append]
      refine z_astore iX7_back_27 rfl ?_
      dsimp only [List.set_cons_zero, List.set_cons_succ]
      refine z_aload iX7_back_28 rfl ?_
      refine e_getR iX7_back_29 fX7_21 rfl ?_
      refine z_aload iX7_back_32 rfl ?_
      refine e_getR iX7_back_33 fX7_182 (scR4 (cIn F) hs) ?_
      refine z_iload iX7_back_36 rfl ?_
      refine e_iald iX7_back_37 (scA4 (cIn F) hs) (by rw [← nI_zn hlt.1]; exact vin_mk (n := 16) (by have := hlt.2; have := hT.2.1.2; omega)) ?_
      refine e_callV iX7_back_38 kX7_185 (tX5_cutTo F (F (5 * cIn F + 37) (zn (cNa F x))) hF.2.2.1.1 hF.2.2.1.2.1 hm.1 hm.2 hF.2.2.1.2.2) rfl rfl rfl ⟨Nat.le_of_ble_eq_true rfl, Nat.le_of_ble_eq_true rfl⟩ ⟨Nat.le_of_ble_eq_true rfl, Nat.le_of_ble_eq_true rfl⟩ (Nat.le_of_ble_eq_true rfl) ?_
      dsimp only [Option.toList, List.cons_append, List.nil_append]
      refine z_aload iX7_back_41 rfl ?_
      refine z_iload iX7_back_42 rfl ?_
      refine z_push iX7_back_43 ?_
      refine z_iadd iX7_back_44 ?_
      refine e_putI iX7_back_45 fX7_189 fw4_5 (scI5 (cIn F) hs) ?_
      refine z_aload iX7_back_48 rfl ?_
      refine e_getI iX7_back_49 fX7_189 (scI5 (cIn F) hs) ?_
      try simp only [zup_ap, Nat.add_left_cancel_iff, Nat.reduceEqDiff, false_and, true_and, and_self, eq_self, ↓reduceIte]
      exact e_iret iX7_back_52 rfl ⟨by simp [pBack, c4, c17], by simp [pBack, c4, c17]⟩
    · refine z_push iX7_back_20 ?_
      exact e_iret iX7_back_22 rfl ⟨by simp [pBack, c4, c17], by simp [pBack, c4, c17]⟩
  · rw [zb_0] at c4
    refine z_push iX7_back_7 ?_
    exact e_iret iX7_back_9 rfl ⟨by simp [pBack, c4], by simp [pBack, c4]⟩

set_option maxRecDepth 100000 in
theorem tX7_release {L : Nat} (F : zFt) (x : Int32) (h : CI F) : zFn mX7_release 2 [.ref 2, .int x] L F (some (.int (pRelease F x).1)) (pRelease F x).2 := by
  refine e_of (lo := [some (.ref 2), some (.int x), none]) (by decide +kernel) (Nat.le_of_ble_eq_true rfl) rfl ?_
  refine z_iload iX7_release_0 rfl ?_
  refine e_callS iX7_release_1 kX7_173 (tX7_isName F _) rfl rfl ⟨Nat.le_of_ble_eq_true rfl, Nat.le_of_ble_eq_true rfl⟩ ⟨Nat.le_of_ble_eq_true rfl, Nat.le_of_ble_eq_true rfl⟩ (Nat.le_of_ble_eq_true rfl) ?_
  dsimp only [Option.toList, List.cons_append, List.nil_append]
  refine z_if_ne iX7_release_4 (fun c4 => ?_) (fun c4 => ?_)
  · rw [zb_n] at c4
    refine z_aload iX7_release_10 rfl ?_
    refine z_iload iX7_release_11 rfl ?_
    refine e_callV iX7_release_12 kX7_179 (tX7_savepointNamed2 F x h) rfl rfl rfl ⟨Nat.le_of_ble_eq_true rfl, Nat.le_of_ble_eq_true rfl⟩ ⟨Nat.le_of_ble_eq_true rfl, Nat.le_of_ble_eq_true rfl⟩ (Nat.le_of_ble_eq_true rfl) ?_
    dsimp only [Option.toList, List.cons_append, List.nil_append]
    refine z_istore iX7_release_15 rfl ?_
    dsimp only [List.set_cons_zero, List.set_cons_succ]
    refine z_iload iX7_release_16 rfl ?_
    refine z_if_ge iX7_release_17 (fun c17 => ?_) (fun c17 => ?_)
    · obtain ⟨n, hn, hF, hin⟩ := CI_st h (cNa_st c17)
      have hi := (FI_in hF).2
      have hs := in_lt hi
      have hT := FI_top hF
      refine z_aload iX7_release_23 rfl ?_
      refine e_callV iX7_release_24 kX7_158 (tX7_innermost F hi) rfl rfl rfl ⟨Nat.le_of_ble_eq_true rfl, Nat.le_of_ble_eq_true rfl⟩ ⟨Nat.le_of_ble_eq_true rfl, Nat.le_of_ble_eq_true rfl⟩ (Nat.le_of_ble_eq_true rfl) ?_
      dsimp only [Option.toList, List.cons_append, List.nil_append]
      refine z_iload iX7_release_27 rfl ?_
      refine e_putI iX7_release_28 fX7_189 fw4_5 (scI5 (cIn F) hs) ?_
      refine z_iload iX7_release_31 rfl ?_
      exact e_iret iX7_release_32 rfl ⟨by simp [pRelease, c4, c17], by simp [pRelease, c4, c17]⟩
    · refine z_push iX7_release_20 ?_
      exact e_iret iX7_release_22 rfl ⟨by simp [pRelease, c4, c17], by simp [pRelease, c4, c17]⟩
  · rw [zb_0] at c4
    refine z_push iX7_release_7 ?_
    exact e_iret iX7_release_9 rfl ⟨by simp [pRelease, c4], by simp [pRelease, c4]⟩

abbrev cGd (F : zFt) (x y : Int32) : zFt := zup (zup (zup F (5 * cIn F + 38) (zn (F (5 * cIn F + 35) 8)) x) (5 * cIn F + 39) (zn (F (5 * cIn F + 35) 8)) y) (5 * cIn F + 35) 8 (F (5 * cIn F + 35) 8 + 1)
def pGuard (F : zFt) (x y : Int32) : Int32 × zFt := if zin x 12 = false then (-102, F) else if zin y 16 = false then (-102, F) else if ¬ F 2 7 = 0 then (if F (5 * cIn F + 35) 8 < 8 then (F (5 * cIn F + 35) 8 + 1, cGd F x y) else (-104, F)) else (-103, F)

set_option maxRecDepth 100000 in
theorem tX7_guard {L : Nat} (F : zFt) (x : Int32) (y : Int32) (h : CI F) : zFn mX7_guard 1 [.ref 2, .int x, .int y] L F (some (.int (pGuard F x y).1)) (pGuard F x y).2 := by
  refine e_of (lo := [some (.ref 2), some (.int x), some (.int y), none]) (by decide +kernel) (Nat.le_of_ble_eq_true rfl) rfl ?_
  refine z_iload iX7_guard_0 rfl ?_
  refine e_callS iX7_guard_1 kX7_192 (tX7_isKind F _) rfl rfl ⟨Nat.le_of_ble_eq_true rfl, Nat.le_of_ble_eq_true rfl⟩ ⟨Nat.le_of_ble_eq_true rfl, Nat.le_of_ble_eq_true rfl⟩ (Nat.le_of_ble_eq_true rfl) ?_
  dsimp only [Option.toList, List.cons_append, List.nil_append]
  refine z_if_eq iX7_guard_4 (fun c4 => ?_) (fun c4 => ?_)
  · rw [zb_0] at c4
    refine z_push iX7_guard_14 ?_
    exact e_iret iX7_guard_16 rfl ⟨by simp [pGuard, c4], by simp [pGuard, c4]⟩
  · rw [zb_n] at c4
    refine z_iload iX7_guard_7 rfl ?_
    refine e_callS iX7_guard_8 kX7_173 (tX7_isName F _) rfl rfl ⟨Nat.le_of_ble_eq_true rfl, Nat.le_of_ble_eq_true rfl⟩ ⟨Nat.le_of_ble_eq_true rfl, Nat.le_of_ble_eq_true rfl⟩ (Nat.le_of_ble_eq_true rfl) ?_
    dsimp only [Option.toList, List.cons_append, List.nil_append]
    refine z_if_ne iX7_guard_11 (fun c11 => ?_) (fun c11 => ?_)
    · rw [zb_n] at c11
      refine z_aload iX7_guard_17 rfl ?_
      refine e_getI iX7_guard_18 fX7_61 rfl ?_
      refine z_if_ne iX7_guard_21 (fun c21 => ?_) (fun c21 => ?_)
      · obtain ⟨n, hn, hF, hin⟩ := CI_st h c21
        have hi := (FI_in hF).2
        have hs := in_lt hi
        have hT := FI_top hF
        refine z_aload iX7_guard_27 rfl ?_
        refine e_callV iX7_guard_28 kX7_158 (tX7_innermost F hi) rfl rfl rfl ⟨Nat.le_of_ble_eq_true rfl, Nat.le_of_ble_eq_true rfl⟩ ⟨Nat.le_of_ble_eq_true rfl, Nat.le_of_ble_eq_true rfl⟩ (Nat.le_of_ble_eq_true rfl) ?_
        dsimp only [Option.toList, List.cons_append, List.nil_append]
        refine z_astore iX7_guard_31 rfl ?_
        dsimp only [List.set_cons_zero, List.set_cons_succ]
        refine z_aload iX7_guard_32 rfl ?_
        refine e_getI iX7_guard_33 fX7_195 (scI8 (cIn F) hs) ?_
        refine z_push iX7_guard_36 ?_
        refine z_icmp_lt iX7_guard_38 (fun c38 => ?_) (fun c38 => ?_)
        · refine z_aload iX7_guard_44 rfl ?_
          refine z_iload iX7_guard_45 rfl ?_
          refine z_iload iX7_guard_46 rfl ?_
          refine e_callV iX7_guard_47 kX7_198 (tX4_addGuard F (cIn F) hs x y (lt_vin hT.2.2.1.1 c38 (by decide))) rfl rfl (scO (cIn F) hs) ⟨Nat.le_of_ble_eq_true rfl, Nat.le_of_ble_eq_true rfl⟩ ⟨Nat.le_of_ble_eq_true rfl, Nat.le_of_ble_eq_true rfl⟩ (Nat.le_of_ble_eq_true rfl) ?_
          dsimp only [Option.toList, List.cons_append, List.nil_append]
          try simp only [zup_ap, Nat.add_left_cancel_iff, Nat.reduceEqDiff, false_and, true_and, and_self, eq_self, ↓reduceIte]
          refine z_aload iX7_guard_50 rfl ?_
          refine e_getI iX7_guard_51 fX7_195 (scI8 (cIn F) hs) ?_
          try simp only [zup_ap, Nat.add_left_cancel_iff, Nat.reduceEqDiff, false_and, true_and, and_self, eq_self, ↓reduceIte]
          exact e_iret iX7_guard_54 rfl ⟨by simp [pGuard, c4, c11, c21, c38], by simp [pGuard, c4, c11, c21, c38]⟩
        · refine z_push iX7_guard_41 ?_
          exact e_iret iX7_guard_43 rfl ⟨by simp [pGuard, c4, c11, c21, c38], by simp [pGuard, c4, c11, c21, c38]⟩
      · refine z_push iX7_guard_24 ?_
        exact e_iret iX7_guard_26 rfl ⟨by simp [pGuard, c4, c11, c21], by simp [pGuard, c4, c11, c21]⟩
    · rw [zb_0] at c11
      refine z_push iX7_guard_14 ?_
      exact e_iret iX7_guard_16 rfl ⟨by simp [pGuard, c4, c11], by simp [pGuard, c4, c11]⟩

theorem cFl_1 : ∀ (n : Nat) (F : zFt) (k r c : Int32), ¬ (cFl n F k r c).1 = 0
  | 0, F, k, r, c => by
    rw [cFl]
    show ¬ (1 : Int32) = 0
    decide
  | n + 1, F, k, r, c => by
    cases hx : cFx (cF1 F k r c) k with
    | none => rw [cFl_n hx]; exact cFl_1 n _ _ _ _
    | some g =>
      rw [cFl_s hx]
      show ¬ (2 : Int32) = 0
      decide
theorem cOf_0 (F : zFt) (s : Nat) (m : Int32) : ∀ n a, (cOf F s m n a).1 = 0 → (cOf F s m n a).2 = F
  | 0, a, _ => rfl
  | n + 1, a, h => by
    rw [cOf] at h ⊢
    split at h
    · rename_i h1
      rw [if_pos h1]
      exact cOf_0 F s m n _ h
    · rename_i h1
      rw [if_neg h1]
      split at h
      · rename_i h2
        rw [if_pos h2]
        exact cOf_0 F s m n _ h
      · exact absurd h (cFl_1 _ _ _ _ _)
abbrev cEn (F : zFt) : zFt := zup F 2 7 (F 2 7 - 1)
def pEnd (F : zFt) : Int32 × zFt := if ¬ F 2 7 = 0 then (if (oCo F 2).1 = 0 then (if ¬ F 2 7 - 1 = 0 then (0, cEn F) else cFa (cFb (cEn F) (F 35 2)) (zn (F 31 2))) else oCo F 2) else (-103, F)

set_option maxRecDepth 100000 in
theorem tX7_end {L : Nat} (F : zFt) (h : CI F) : zFn mX7_end 6 [.ref 2] L F (some (.int (pEnd F).1)) (pEnd F).2 := by
  refine e_of (lo := [some (.ref 2), none]) (by decide +kernel) (Nat.le_of_ble_eq_true rfl) rfl ?_
  refine z_aload iX7_end_0 rfl ?_
  refine e_getI iX7_end_1 fX7_61 rfl ?_
  refine z_if_ne iX7_end_4 (fun c4 => ?_) (fun c4 => ?_)
  · obtain ⟨n, hn, hF, hin⟩ := CI_st h c4
    have hi := (FI_in hF).2
    have hs := in_lt hi
    have hT := FI_top hF
    refine z_aload iX7_end_10 rfl ?_
    refine z_push iX7_end_11 ?_
    refine e_callV iX7_end_12 kX7_152 (tX7_outcomeOf F 2 n hF) rfl rfl rfl ⟨Nat.le_of_ble_eq_true rfl, Nat.le_of_ble_eq_true rfl⟩ ⟨Nat.le_of_ble_eq_true rfl, Nat.le_of_ble_eq_true rfl⟩ (Nat.le_of_ble_eq_true rfl) ?_
    dsimp only [Option.toList, List.cons_append, List.nil_append]
    refine z_istore iX7_end_15 rfl ?_
    dsimp only [List.set_cons_zero, List.set_cons_succ]
    refine z_iload iX7_end_16 rfl ?_
    refine z_if_eq iX7_end_17 (fun c17 => ?_) (fun c17 => ?_)
    · rw [cOf_0 F _ _ _ _ c17]
      refine z_aload iX7_end_22 rfl ?_
      refine z_dup iX7_end_23 rfl ?_
      refine e_getI iX7_end_24 fX7_61 rfl ?_
      refine z_push iX7_end_27 ?_
      refine z_isub iX7_end_28 ?_
      refine e_putI iX7_end_29 fX7_61 fw7_7 rfl ?_
      refine z_aload iX7_end_32 rfl ?_
      refine e_getI iX7_end_33 fX7_61 rfl ?_
      try simp only [zup_ap, Nat.add_left_cancel_iff, Nat.reduceEqDiff, false_and, true_and, and_self, eq_self, ↓reduceIte]
      refine z_if_ne iX7_end_36 (fun c36 => ?_) (fun c36 => ?_)
      · refine z_push iX7_end_55 ?_
        exact e_iret iX7_end_56 rfl ⟨by simp [pEnd, c4, c17, c36], by simp [pEnd, c4, c17, c36]⟩
      · refine z_aload iX7_end_39 rfl ?_
        refine z_aload iX7_end_40 rfl ?_
        refine e_getR iX7_end_41 fX7_57 rfl ?_
        try simp only [zup_ap, Nat.add_left_cancel_iff, Nat.reduceEqDiff, false_and, true_and, and_self, eq_self, ↓reduceIte]
        refine z_push iX7_end_44 ?_
        refine e_aald iX7_end_45 (vin_mk (n := 8) (a := 0) (by decide)) ?_
        refine e_getI iX7_end_46 fX7_201 (scI2 (zn 0) (by decide)) ?_
        rw [show zup F 2 7 (F 2 7 - 1) (5 * zn 0 + 35) 2 = F 35 2 from rfl]
        refine e_callV iX7_end_49 kX7_204 (tX7_finishAct (cEn F) (F 35 2) (vin_0 h.2.1) (vin_le1 h.2.1)) rfl rfl rfl ⟨Nat.le_of_ble_eq_true rfl, Nat.le_of_ble_eq_true rfl⟩ ⟨Nat.le_of_ble_eq_true rfl, Nat.le_of_ble_eq_true rfl⟩ (Nat.le_of_ble_eq_true rfl) ?_
        dsimp only [Option.toList, List.cons_append, List.nil_append]
        try simp only [zup_ap, Nat.add_left_cancel_iff, Nat.reduceEqDiff, false_and, true_and, and_self, eq_self, ↓reduceIte]
        refine z_goto iX7_end_52 ?_
        exact e_iret iX7_end_56 rfl ⟨by simp [pEnd, c4, c17, c36], by simp [pEnd, c4, c17, c36]⟩
    · refine z_iload iX7_end_20 rfl ?_
      exact e_iret iX7_end_21 rfl ⟨by simp [pEnd, c4, c17], by simp [pEnd, c4, c17]⟩
  · refine z_push iX7_end_7 ?_
    exact e_iret iX7_end_9 rfl ⟨by simp [pEnd, c4], by simp [pEnd, c4]⟩

def pDrop (F : zFt) : Int32 × zFt := if ¬ F 2 7 = 0 then (F 2 7 - 1, cDr F) else (-103, F)

set_option maxRecDepth 100000 in
theorem tX7_drop {L : Nat} (F : zFt) (h : CI F) : zFn mX7_drop 4 [.ref 2] L F (some (.int (pDrop F).1)) (pDrop F).2 := by
  refine e_of (lo := [some (.ref 2)]) (by decide +kernel) (Nat.le_of_ble_eq_true rfl) rfl ?_
  refine z_aload iX7_drop_0 rfl ?_
  refine e_getI iX7_drop_1 fX7_61 rfl ?_
  refine z_if_ne iX7_drop_4 (fun c4 => ?_) (fun c4 => ?_)
  · obtain ⟨n, hn, hF, hin⟩ := CI_st h c4
    have hi := (FI_in hF).2
    have hs := in_lt hi
    have hT := FI_top hF
    refine z_aload iX7_drop_10 rfl ?_
    refine e_callV iX7_drop_11 kX7_207 (tX7_dropInnermost F hi hF.2.2.1 (by rw [cBg, hin]; exact FI_beg hF)) rfl rfl rfl ⟨Nat.le_of_ble_eq_true rfl, Nat.le_of_ble_eq_true rfl⟩ ⟨Nat.le_of_ble_eq_true rfl, Nat.le_of_ble_eq_true rfl⟩ (Nat.le_of_ble_eq_true rfl) ?_
    dsimp only [Option.toList, List.cons_append, List.nil_append]
    refine z_aload iX7_drop_14 rfl ?_
    refine e_getI iX7_drop_15 fX7_61 rfl ?_
    rw [show cDr F 2 7 = F 2 7 - 1 by rw [cDr, zup_ap, if_pos ⟨rfl, rfl⟩]]
    exact e_iret iX7_drop_18 rfl ⟨by simp [pDrop, c4], by simp [pDrop, c4]⟩
  · refine z_push iX7_drop_7 ?_
    exact e_iret iX7_drop_9 rfl ⟨by simp [pDrop, c4], by simp [pDrop, c4]⟩
