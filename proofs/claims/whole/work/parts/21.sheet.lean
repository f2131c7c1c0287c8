set_option maxRecDepth 100000 in
theorem tJ9_max_7cf53 {L : Nat} (F : zFt) (x : Int32) (y : Int32) : zFn mJ9_max_7cf53 0 [.int x, .int y] L F (some (.int (zmx x y))) F := by
  refine e_of (lo := [some (.int x), some (.int y)]) (by decide +kernel) (Nat.le_of_ble_eq_true rfl) rfl ?_
  refine z_iload iJ9_max_7cf53_0 rfl ?_
  refine z_iload iJ9_max_7cf53_1 rfl ?_
  refine z_icmp_lt iJ9_max_7cf53_2 (fun c2 => ?_) (fun c2 => ?_)
  · refine z_iload iJ9_max_7cf53_9 rfl ?_
    exact e_iret iJ9_max_7cf53_10 rfl ⟨by simp [zmx, *], rfl⟩
  · refine z_iload iJ9_max_7cf53_5 rfl ?_
    refine z_goto iJ9_max_7cf53_6 ?_
    exact e_iret iJ9_max_7cf53_10 rfl ⟨by simp [zmx, *], rfl⟩

set_option maxRecDepth 100000 in
theorem tJ9_min_7cf53 {L : Nat} (F : zFt) (x : Int32) (y : Int32) : zFn mJ9_min_7cf53 0 [.int x, .int y] L F (some (.int (zmn x y))) F := by
  refine e_of (lo := [some (.int x), some (.int y)]) (by decide +kernel) (Nat.le_of_ble_eq_true rfl) rfl ?_
  refine z_iload iJ9_min_7cf53_0 rfl ?_
  refine z_iload iJ9_min_7cf53_1 rfl ?_
  refine z_icmp_gt iJ9_min_7cf53_2 (fun c2 => ?_) (fun c2 => ?_)
  · refine z_iload iJ9_min_7cf53_9 rfl ?_
    exact e_iret iJ9_min_7cf53_10 rfl ⟨by simp [zmn, *], rfl⟩
  · refine z_iload iJ9_min_7cf53_5 rfl ?_
    refine z_goto iJ9_min_7cf53_6 ?_
    exact e_iret iJ9_min_7cf53_10 rfl ⟨by simp [zmn, *], rfl⟩

set_option maxRecDepth 100000 in
theorem tX5_hasEvent {L : Nat} (F : zFt) (c : Int32) : zFn mX5_hasEvent 0 [.ref 11, .int c] L F (some (.int (zb (zin c (F 11 6))))) F := by
  refine e_of (lo := [some (.ref 11), some (.int c)]) (by decide +kernel) (Nat.le_of_ble_eq_true rfl) rfl ?_
  refine z_iload iX5_hasEvent_0 rfl ?_
  refine z_if_lt iX5_hasEvent_1 (fun c1 => ?_) (fun c1 => ?_)
  · refine z_push iX5_hasEvent_16 ?_
    exact e_bret iX5_hasEvent_17 rfl (by first | exact Or.inl rfl | exact Or.inr rfl | exact zb_01 _ | assumption) ⟨by simp [zb, zin, *], rfl⟩
  · refine z_iload iX5_hasEvent_4 rfl ?_
    refine z_aload iX5_hasEvent_5 rfl ?_
    refine e_getI iX5_hasEvent_6 fX5_28 rfl ?_
    refine z_icmp_ge iX5_hasEvent_9 (fun c9 => ?_) (fun c9 => ?_)
    · refine z_push iX5_hasEvent_16 ?_
      exact e_bret iX5_hasEvent_17 rfl (by first | exact Or.inl rfl | exact Or.inr rfl | exact zb_01 _ | assumption) ⟨by simp [zb, zin, *], rfl⟩
    · refine z_push iX5_hasEvent_12 ?_
      refine z_goto iX5_hasEvent_13 ?_
      exact e_bret iX5_hasEvent_17 rfl (by first | exact Or.inl rfl | exact Or.inr rfl | exact zb_01 _ | assumption) ⟨by simp [zb, zin, *], rfl⟩

abbrev cMi (F : zFt) (e j : Int32) : Int32 := e * 5 + j - F 5 (zn (F 9 (zn j)))

set_option maxRecDepth 100000 in
theorem tX5_markIndex {L : Nat} (F : zFt) (e : Int32) (j : Int32) (hj : vp_in j 60) (hc : vp_in (F 9 (zn j)) 12) : zFn mX5_markIndex 0 [.ref 11, .int e, .int j] L F (some (.int (cMi F e j))) F := by
  refine e_of (lo := [some (.ref 11), some (.int e), some (.int j)]) (by decide +kernel) (Nat.le_of_ble_eq_true rfl) rfl ?_
  refine z_iload iX5_markIndex_0 rfl ?_
  refine z_push iX5_markIndex_1 ?_
  refine z_imul iX5_markIndex_2 ?_
  refine z_iload iX5_markIndex_3 rfl ?_
  refine z_iadd iX5_markIndex_4 ?_
  refine z_aload iX5_markIndex_5 rfl ?_
  refine e_getR iX5_markIndex_6 fX5_41 rfl ?_
  refine e_getR iX5_markIndex_9 fX5_53 rfl ?_
  refine z_aload iX5_markIndex_12 rfl ?_
  refine e_getR iX5_markIndex_13 fX5_41 rfl ?_
  refine e_getR iX5_markIndex_16 fX5_58 rfl ?_
  refine z_iload iX5_markIndex_19 rfl ?_
  refine e_iald iX5_markIndex_20 rfl (by assumption) ?_
  refine e_iald iX5_markIndex_21 rfl (by assumption) ?_
  refine z_isub iX5_markIndex_22 ?_
  exact e_iret iX5_markIndex_23 rfl ⟨rfl, rfl⟩

set_option maxRecDepth 100000 in
theorem tX5_markBy {L : Nat} (F : zFt) (e : Int32) (j : Int32) (hj : vp_in j 60) (hc : vp_in (F 9 (zn j)) 12) (hi : vp_in (cMi F e j) 300) : zFn mX5_markBy 1 [.ref 11, .int e, .int j] L F (some (.int (F 18 (zn (cMi F e j))))) F := by
  refine e_of (lo := [some (.ref 11), some (.int e), some (.int j)]) (by decide +kernel) (Nat.le_of_ble_eq_true rfl) rfl ?_
  refine z_aload iX5_markBy_0 rfl ?_
  refine e_getR iX5_markBy_1 fX5_35 rfl ?_
  refine z_aload iX5_markBy_4 rfl ?_
  refine z_iload iX5_markBy_5 rfl ?_
  refine z_iload iX5_markBy_6 rfl ?_
  refine e_callV iX5_markBy_7 kX5_49 (tX5_markIndex F e j hj hc) rfl rfl rfl ⟨Nat.le_of_ble_eq_true rfl, Nat.le_of_ble_eq_true rfl⟩ ⟨Nat.le_of_ble_eq_true rfl, Nat.le_of_ble_eq_true rfl⟩ (Nat.le_of_ble_eq_true rfl) ?_
  dsimp only [Option.toList, List.cons_append, List.nil_append]
  refine e_iald iX5_markBy_10 rfl (by assumption) ?_
  exact e_iret iX5_markBy_11 rfl ⟨rfl, rfl⟩

set_option maxRecDepth 100000 in
theorem tX5_markAt {L : Nat} (F : zFt) (e : Int32) (s : Int32) (h : vp_in (e * 5 + s) 300) : zFn mX5_markAt 0 [.ref 11, .int e, .int s] L F (some (.int (F 18 (zn (e * 5 + s))))) F := by
  refine e_of (lo := [some (.ref 11), some (.int e), some (.int s)]) (by decide +kernel) (Nat.le_of_ble_eq_true rfl) rfl ?_
  refine z_aload iX5_markAt_0 rfl ?_
  refine e_getR iX5_markAt_1 fX5_35 rfl ?_
  refine z_iload iX5_markAt_4 rfl ?_
  refine z_push iX5_markAt_5 ?_
  refine z_imul iX5_markAt_6 ?_
  refine z_iload iX5_markAt_7 rfl ?_
  refine z_iadd iX5_markAt_8 ?_
  refine e_iald iX5_markAt_9 rfl (by assumption) ?_
  exact e_iret iX5_markAt_10 rfl ⟨rfl, rfl⟩

theorem ix5 {e : Int32} {s : Nat} (he : vp_in e 60) (hs : s < 5) : vp_in (e * 5 + nI s) 300 := by
  obtain ⟨j, hj, rfl⟩ := vin_of he
  rw [nI_m5, nI_add]
  exact vin_mk (by omega)
theorem ix8 {e : Int32} {s : Nat} (he : vp_in e 60) (hs : s < 8) : vp_in (e * 8 + nI s) 480 := by
  obtain ⟨j, hj, rfl⟩ := vin_of he
  rw [nI_m8, nI_add]
  exact vin_mk (by omega)
abbrev cSe (F : zFt) (e : Int32) : Int32 := F 6 (zn (F 10 (zn e)))
abbrev cMa (F : zFt) (e : Int32) (k : Nat) : Int32 := F 18 (zn (e * 5 + nI k))

abbrev gSu (F : zFt) (e : Int32) : Nat → Int32 → Int32 := fun k a => a + cMa F e k
abbrev gAz (F : zFt) (e : Int32) : Nat → Int32 → Int32 := fun k a => if cMa F e k ≤ 0 then a else a + 1

set_option maxRecDepth 100000 in
theorem lpX5_sumOfMarks {L : Nat} {Z : zZt} (F : zFt) (e : Int32) (he : vp_in e 60) (hc : vp_in (F 10 (zn e)) 12) (hs : zn (cSe F e) ≤ 5) (h0 : 0 ≤ (cSe F e).toInt) (kk : zEV mX5_sumOfMarks (zrm 1 0 0) Z 40 [some (.ref 11), some (.int e), some (.int (zfold (gSu F e) 0 (zn (cSe F e)))), some (.int (nI (zn (cSe F e))))] [] 111 (zE L (F)) 0 0) : ∀ (n a : Nat), a + n = zn (cSe F e) → zEV mX5_sumOfMarks (zrm 1 0 0) Z 4 [some (.ref 11), some (.int e), some (.int (zfold (gSu F e) 0 a)), some (.int (nI a))] [] 111 (zE L (F)) 0 0 := by
  intro n
  induction n with
  | zero =>
    intro a ha
    obtain rfl : a = zn (cSe F e) := by omega
    refine z_iload iX5_sumOfMarks_4 rfl ?_
    refine z_aload iX5_sumOfMarks_5 rfl ?_
    refine e_getR iX5_sumOfMarks_6 fX5_41 rfl ?_
    refine e_getR iX5_sumOfMarks_9 fX5_64 rfl ?_
    refine z_aload iX5_sumOfMarks_12 rfl ?_
    refine e_getR iX5_sumOfMarks_13 fX5_41 rfl ?_
    refine e_getR iX5_sumOfMarks_16 fX5_67 rfl ?_
    refine z_iload iX5_sumOfMarks_19 rfl ?_
    refine e_iald iX5_sumOfMarks_20 rfl (by assumption) ?_
    refine e_iald iX5_sumOfMarks_21 rfl (by assumption) ?_
    refine z_icmp_ge iX5_sumOfMarks_22 (fun c22 => ?_) (fun c22 => ?_)
    · exact kk
    · exact absurd (up_end h0 rfl) c22
  | succ n ih =>
    intro a ha
    refine z_iload iX5_sumOfMarks_4 rfl ?_
    refine z_aload iX5_sumOfMarks_5 rfl ?_
    refine e_getR iX5_sumOfMarks_6 fX5_41 rfl ?_
    refine e_getR iX5_sumOfMarks_9 fX5_64 rfl ?_
    refine z_aload iX5_sumOfMarks_12 rfl ?_
    refine e_getR iX5_sumOfMarks_13 fX5_41 rfl ?_
    refine e_getR iX5_sumOfMarks_16 fX5_67 rfl ?_
    refine z_iload iX5_sumOfMarks_19 rfl ?_
    refine e_iald iX5_sumOfMarks_20 rfl (by assumption) ?_
    refine e_iald iX5_sumOfMarks_21 rfl (by assumption) ?_
    refine z_icmp_ge iX5_sumOfMarks_22 (fun c22 => ?_) (fun c22 => ?_)
    · exact absurd c22 (up_in (x := (cSe F e)) (by omega))
    · refine z_iload iX5_sumOfMarks_25 rfl ?_
      refine z_aload iX5_sumOfMarks_26 rfl ?_
      refine z_iload iX5_sumOfMarks_27 rfl ?_
      refine z_iload iX5_sumOfMarks_28 rfl ?_
      refine e_callV iX5_sumOfMarks_29 kX5_61 (tX5_markAt F e (nI a) (ix5 he (by omega))) rfl rfl rfl ⟨Nat.le_of_ble_eq_true rfl, Nat.le_of_ble_eq_true rfl⟩ ⟨Nat.le_of_ble_eq_true rfl, Nat.le_of_ble_eq_true rfl⟩ (Nat.le_of_ble_eq_true rfl) ?_
      dsimp only [Option.toList, List.cons_append, List.nil_append]
      refine z_iadd iX5_sumOfMarks_32 ?_
      refine z_istore iX5_sumOfMarks_33 rfl ?_
      dsimp only [List.set_cons_zero, List.set_cons_succ]
      refine z_iinc (v := 1) iX5_sumOfMarks_34 (by decide) (by decide) rfl rfl ?_
      dsimp only [List.set_cons_zero, List.set_cons_succ]
      refine z_goto iX5_sumOfMarks_37 ?_
      exact z_to (by simp [zfold, nI_1, *]) rfl (ih (a + 1) (by omega))

set_option maxRecDepth 100000 in
theorem tX5_sumOfMarks {L : Nat} (F : zFt) (e : Int32) (he : vp_in e 60) (hc : vp_in (F 10 (zn e)) 12) (hs : zn (cSe F e) ≤ 5) (h0 : 0 ≤ (cSe F e).toInt) : zFn mX5_sumOfMarks 1 [.ref 11, .int e] L F (some (.int (zfold (gSu F e) 0 (zn (cSe F e))))) F := by
  refine e_of (lo := [some (.ref 11), some (.int e), none, none]) (by decide +kernel) (Nat.le_of_ble_eq_true rfl) rfl ?_
  refine z_push iX5_sumOfMarks_0 ?_
  refine z_istore iX5_sumOfMarks_1 rfl ?_
  dsimp only [List.set_cons_zero, List.set_cons_succ]
  refine z_push iX5_sumOfMarks_2 ?_
  refine z_istore iX5_sumOfMarks_3 rfl ?_
  dsimp only [List.set_cons_zero, List.set_cons_succ]
  refine lpX5_sumOfMarks F e he hc hs h0 ?_ _ 0 (Nat.zero_add _)
  refine z_iload iX5_sumOfMarks_40 rfl ?_
  exact e_iret iX5_sumOfMarks_41 rfl ⟨rfl, rfl⟩

set_option maxRecDepth 100000 in
theorem lpX5_marksAboveZero {L : Nat} {Z : zZt} (F : zFt) (e : Int32) (he : vp_in e 60) (hc : vp_in (F 10 (zn e)) 12) (hs : zn (cSe F e) ≤ 5) (h0 : 0 ≤ (cSe F e).toInt) (kk : zEV mX5_marksAboveZero (zrm 1 0 0) Z 43 [some (.ref 11), some (.int e), some (.int (zfold (gAz F e) 0 (zn (cSe F e)))), some (.int (nI (zn (cSe F e))))] [] 111 (zE L (F)) 0 0) : ∀ (n a : Nat), a + n = zn (cSe F e) → zEV mX5_marksAboveZero (zrm 1 0 0) Z 4 [some (.ref 11), some (.int e), some (.int (zfold (gAz F e) 0 a)), some (.int (nI a))] [] 111 (zE L (F)) 0 0 := by
  intro n
  induction n with
  | zero =>
    intro a ha
    obtain rfl : a = zn (cSe F e) := by omega
    refine z_iload iX5_marksAboveZero_4 rfl ?_
    refine z_aload iX5_marksAboveZero_5 rfl ?_
    refine e_getR iX5_marksAboveZero_6 fX5_41 rfl ?_
    refine e_getR iX5_marksAboveZero_9 fX5_64 rfl ?_
    refine z_aload iX5_marksAboveZero_12 rfl ?_
    refine e_getR iX5_marksAboveZero_13 fX5_41 rfl ?_
    refine e_getR iX5_marksAboveZero_16 fX5_67 rfl ?_
    refine z_iload iX5_marksAboveZero_19 rfl ?_
    refine e_iald iX5_marksAboveZero_20 rfl (by assumption) ?_
    refine e_iald iX5_marksAboveZero_21 rfl (by assumption) ?_
    refine z_icmp_ge iX5_marksAboveZero_22 (fun c22 => ?_) (fun c22 => ?_)
    · exact kk
    · exact absurd (up_end h0 rfl) c22
  | succ n ih =>
    intro a ha
    refine z_iload iX5_marksAboveZero_4 rfl ?_
    refine z_aload iX5_marksAboveZero_5 rfl ?_
    refine e_getR iX5_marksAboveZero_6 fX5_41 rfl ?_
    refine e_getR iX5_marksAboveZero_9 fX5_64 rfl ?_
    refine z_aload iX5_marksAboveZero_12 rfl ?_
    refine e_getR iX5_marksAboveZero_13 fX5_41 rfl ?_
    refine e_getR iX5_marksAboveZero_16 fX5_67 rfl ?_
    refine z_iload iX5_marksAboveZero_19 rfl ?_
    refine e_iald iX5_marksAboveZero_20 rfl (by assumption) ?_
    refine e_iald iX5_marksAboveZero_21 rfl (by assumption) ?_
    refine z_icmp_ge iX5_marksAboveZero_22 (fun c22 => ?_) (fun c22 => ?_)
    · exact absurd c22 (up_in (x := (cSe F e)) (by omega))
    · refine z_aload iX5_marksAboveZero_25 rfl ?_
      refine z_iload iX5_marksAboveZero_26 rfl ?_
      refine z_iload iX5_marksAboveZero_27 rfl ?_
      refine e_callV iX5_marksAboveZero_28 kX5_61 (tX5_markAt F e (nI a) (ix5 he (by omega))) rfl rfl rfl ⟨Nat.le_of_ble_eq_true rfl, Nat.le_of_ble_eq_true rfl⟩ ⟨Nat.le_of_ble_eq_true rfl, Nat.le_of_ble_eq_true rfl⟩ (Nat.le_of_ble_eq_true rfl) ?_
      dsimp only [Option.toList, List.cons_append, List.nil_append]
      refine z_if_le iX5_marksAboveZero_31 (fun c31 => ?_) (fun c31 => ?_)
      · refine z_iinc (v := 1) iX5_marksAboveZero_37 (by decide) (by decide) rfl rfl ?_
        dsimp only [List.set_cons_zero, List.set_cons_succ]
        refine z_goto iX5_marksAboveZero_40 ?_
        exact z_to (by simp [zfold, nI_1, *]) rfl (ih (a + 1) (by omega))
      · refine z_iinc (v := 1) iX5_marksAboveZero_34 (by decide) (by decide) rfl rfl ?_
        dsimp only [List.set_cons_zero, List.set_cons_succ]
        refine z_iinc (v := 1) iX5_marksAboveZero_37 (by decide) (by decide) rfl rfl ?_
        dsimp only [List.set_cons_zero, List.set_cons_succ]
        refine z_goto iX5_marksAboveZero_40 ?_
        exact z_to (by simp [zfold, nI_1, *]) rfl (ih (a + 1) (by omega))

set_option maxRecDepth 100000 in
theorem tX5_marksAboveZero {L : Nat} (F : zFt) (e : Int32) (he : vp_in e 60) (hc : vp_in (F 10 (zn e)) 12) (hs : zn (cSe F e) ≤ 5) (h0 : 0 ≤ (cSe F e).toInt) : zFn mX5_marksAboveZero 1 [.ref 11, .int e] L F (some (.int (zfold (gAz F e) 0 (zn (cSe F e))))) F := by
  refine e_of (lo := [some (.ref 11), some (.int e), none, none]) (by decide +kernel) (Nat.le_of_ble_eq_true rfl) rfl ?_
  refine z_push iX5_marksAboveZero_0 ?_
  refine z_istore iX5_marksAboveZero_1 rfl ?_
  dsimp only [List.set_cons_zero, List.set_cons_succ]
  refine z_push iX5_marksAboveZero_2 ?_
  refine z_istore iX5_marksAboveZero_3 rfl ?_
  dsimp only [List.set_cons_zero, List.set_cons_succ]
  refine lpX5_marksAboveZero F e he hc hs h0 ?_ _ 0 (Nat.zero_add _)
  refine z_iload iX5_marksAboveZero_43 rfl ?_
  exact e_iret iX5_marksAboveZero_44 rfl ⟨rfl, rfl⟩
