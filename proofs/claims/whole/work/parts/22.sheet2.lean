abbrev gRb (F : zFt) (e : Int32) : Nat → Int32 → Int32 := fun k a => if F 19 (zn (e * 8 + nI k)) ≤ 0 then a else a ||| 1 <<< (nI k &&& 31)

set_option maxRecDepth 100000 in
theorem lpX5_remarkBits {L : Nat} {R : Room} {Z : zZt} (F : zFt) (e : Int32) (he : vp_in e 60) (kk : zEV mX5_remarkBits R Z 36 [some (.ref 11), some (.int e), some (.int (zfold (gRb F e) 0 (8))), some (.int (nI (8)))] [] 111 (zE L (F)) 0 0) : ∀ (n a : Nat), a + n = 8 → zEV mX5_remarkBits R Z 4 [some (.ref 11), some (.int e), some (.int (zfold (gRb F e) 0 a)), some (.int (nI a))] [] 111 (zE L (F)) 0 0 := by
  intro n
  induction n with
  | zero =>
    intro a ha
    obtain rfl : a = 8 := by omega
    refine z_iload iX5_remarkBits_4 rfl ?_
    refine z_push iX5_remarkBits_5 ?_
    refine z_icmp_ge iX5_remarkBits_7 (fun c7 => ?_) (fun c7 => ?_)
    · exact kk
    · exact absurd (by decide) c7
  | succ n ih =>
    intro a ha
    refine z_iload iX5_remarkBits_4 rfl ?_
    refine z_push iX5_remarkBits_5 ?_
    refine z_icmp_ge iX5_remarkBits_7 (fun c7 => ?_) (fun c7 => ?_)
    · exact absurd ((nI_le2 (a := 8) (by decide) (by omega)).mp c7) (by omega)
    · refine z_aload iX5_remarkBits_10 rfl ?_
      refine e_getR iX5_remarkBits_11 fX5_38 rfl ?_
      refine z_iload iX5_remarkBits_14 rfl ?_
      refine z_push iX5_remarkBits_15 ?_
      refine z_imul iX5_remarkBits_17 ?_
      refine z_iload iX5_remarkBits_18 rfl ?_
      refine z_iadd iX5_remarkBits_19 ?_
      refine e_iald iX5_remarkBits_20 rfl (ix8 he (by omega)) ?_
      refine z_if_le iX5_remarkBits_21 (fun c21 => ?_) (fun c21 => ?_)
      · refine z_iinc (v := 1) iX5_remarkBits_30 (by decide) (by decide) rfl rfl ?_
        dsimp only [List.set_cons_zero, List.set_cons_succ]
        refine z_goto iX5_remarkBits_33 ?_
        exact z_to (by simp [zfold, nI_1, *]) rfl (ih (a + 1) (by omega))
      · refine z_iload iX5_remarkBits_24 rfl ?_
        refine z_push iX5_remarkBits_25 ?_
        refine z_iload iX5_remarkBits_26 rfl ?_
        refine z_ishl iX5_remarkBits_27 ?_
        refine z_ior iX5_remarkBits_28 ?_
        refine z_istore iX5_remarkBits_29 rfl ?_
        dsimp only [List.set_cons_zero, List.set_cons_succ]
        refine z_iinc (v := 1) iX5_remarkBits_30 (by decide) (by decide) rfl rfl ?_
        dsimp only [List.set_cons_zero, List.set_cons_succ]
        refine z_goto iX5_remarkBits_33 ?_
        exact z_to (by simp [zfold, nI_1, *]) rfl (ih (a + 1) (by omega))

set_option maxRecDepth 100000 in
theorem tX5_remarkBits {L : Nat} (F : zFt) (e : Int32) (he : vp_in e 60) : zFn mX5_remarkBits 0 [.ref 11, .int e] L F (some (.int (zfold (gRb F e) 0 8))) F := by
  refine e_of (lo := [some (.ref 11), some (.int e), none, none]) (by decide +kernel) (Nat.le_of_ble_eq_true rfl) rfl ?_
  refine z_push iX5_remarkBits_0 ?_
  refine z_istore iX5_remarkBits_1 rfl ?_
  dsimp only [List.set_cons_zero, List.set_cons_succ]
  refine z_push iX5_remarkBits_2 ?_
  refine z_istore iX5_remarkBits_3 rfl ?_
  dsimp only [List.set_cons_zero, List.set_cons_succ]
  refine lpX5_remarkBits F e he ?_ 8 0 rfl
  refine z_iload iX5_remarkBits_36 rfl ?_
  exact e_iret iX5_remarkBits_37 rfl ⟨rfl, rfl⟩

abbrev ggreatestMark (F : zFt) (e : Int32) : Nat → Int32 → Int32 := fun k a => zmx a (cMa F e (k + 1))

set_option maxRecDepth 100000 in
theorem lpX5_greatestMark {L : Nat} {Z : zZt} (F : zFt) (e : Int32) (he : vp_in e 60) (hc : vp_in (F 10 (zn e)) 12) (hs : zn (cSe F e) ≤ 5) (h0 : 0 ≤ (cSe F e).toInt) (h1 : 0 < zn (cSe F e)) (kk : zEV mX5_greatestMark (zrm 1 0 0) Z 47 [some (.ref 11), some (.int e), some (.int (zfold (ggreatestMark F e) (cMa F e 0) (zn (cSe F e) - 1))), some (.int (nI ((zn (cSe F e) - 1) + 1)))] [] 111 (zE L (F)) 0 0) : ∀ (n a : Nat), a + n = zn (cSe F e) - 1 → zEV mX5_greatestMark (zrm 1 0 0) Z 9 [some (.ref 11), some (.int e), some (.int (zfold (ggreatestMark F e) (cMa F e 0) a)), some (.int (nI (a + 1)))] [] 111 (zE L (F)) 0 0 := by
  intro n
  induction n with
  | zero =>
    intro a ha
    obtain rfl : a = zn (cSe F e) - 1 := by omega
    refine z_iload iX5_greatestMark_9 rfl ?_
    refine z_aload iX5_greatestMark_10 rfl ?_
    refine e_getR iX5_greatestMark_11 fX5_41 rfl ?_
    refine e_getR iX5_greatestMark_14 fX5_64 rfl ?_
    refine z_aload iX5_greatestMark_17 rfl ?_
    refine e_getR iX5_greatestMark_18 fX5_41 rfl ?_
    refine e_getR iX5_greatestMark_21 fX5_67 rfl ?_
    refine z_iload iX5_greatestMark_24 rfl ?_
    refine e_iald iX5_greatestMark_25 rfl (by assumption) ?_
    refine e_iald iX5_greatestMark_26 rfl (by assumption) ?_
    refine z_icmp_ge iX5_greatestMark_27 (fun c27 => ?_) (fun c27 => ?_)
    · exact kk
    · exact absurd (up_end (x := cSe F e) h0 (by omega)) c27
  | succ n ih =>
    intro a ha
    refine z_iload iX5_greatestMark_9 rfl ?_
    refine z_aload iX5_greatestMark_10 rfl ?_
    refine e_getR iX5_greatestMark_11 fX5_41 rfl ?_
    refine e_getR iX5_greatestMark_14 fX5_64 rfl ?_
    refine z_aload iX5_greatestMark_17 rfl ?_
    refine e_getR iX5_greatestMark_18 fX5_41 rfl ?_
    refine e_getR iX5_greatestMark_21 fX5_67 rfl ?_
    refine z_iload iX5_greatestMark_24 rfl ?_
    refine e_iald iX5_greatestMark_25 rfl (by assumption) ?_
    refine e_iald iX5_greatestMark_26 rfl (by assumption) ?_
    refine z_icmp_ge iX5_greatestMark_27 (fun c27 => ?_) (fun c27 => ?_)
    · exact absurd c27 (up_in (x := cSe F e) (by omega))
    · refine z_iload iX5_greatestMark_30 rfl ?_
      refine z_aload iX5_greatestMark_31 rfl ?_
      refine z_iload iX5_greatestMark_32 rfl ?_
      refine z_iload iX5_greatestMark_33 rfl ?_
      refine e_callV iX5_greatestMark_34 kX5_61 (tX5_markAt F e (nI (a + 1)) (ix5 he (by omega))) rfl rfl rfl ⟨Nat.le_of_ble_eq_true rfl, Nat.le_of_ble_eq_true rfl⟩ ⟨Nat.le_of_ble_eq_true rfl, Nat.le_of_ble_eq_true rfl⟩ (Nat.le_of_ble_eq_true rfl) ?_
      dsimp only [Option.toList, List.cons_append, List.nil_append]
      refine e_callS iX5_greatestMark_37 kX5_70 (tJ9_max_7cf53 F _ _) rfl rfl ⟨Nat.le_of_ble_eq_true rfl, Nat.le_of_ble_eq_true rfl⟩ ⟨Nat.le_of_ble_eq_true rfl, Nat.le_of_ble_eq_true rfl⟩ (Nat.le_of_ble_eq_true rfl) ?_
      dsimp only [Option.toList, List.cons_append, List.nil_append]
      refine z_istore iX5_greatestMark_40 rfl ?_
      dsimp only [List.set_cons_zero, List.set_cons_succ]
      refine z_iinc (v := 1) iX5_greatestMark_41 (by decide) (by decide) rfl rfl ?_
      dsimp only [List.set_cons_zero, List.set_cons_succ]
      refine z_goto iX5_greatestMark_44 ?_
      exact z_to (by simp [zfold, nI_1, *]) rfl (ih (a + 1) (by omega))

set_option maxRecDepth 100000 in
theorem tX5_greatestMark {L : Nat} (F : zFt) (e : Int32) (he : vp_in e 60) (hc : vp_in (F 10 (zn e)) 12) (hs : zn (cSe F e) ≤ 5) (h0 : 0 ≤ (cSe F e).toInt) (h1 : 0 < zn (cSe F e)) : zFn mX5_greatestMark 1 [.ref 11, .int e] L F (some (.int (zfold (ggreatestMark F e) (cMa F e 0) (zn (cSe F e) - 1)))) F := by
  refine e_of (lo := [some (.ref 11), some (.int e), none, none]) (by decide +kernel) (Nat.le_of_ble_eq_true rfl) rfl ?_
  refine z_aload iX5_greatestMark_0 rfl ?_
  refine z_iload iX5_greatestMark_1 rfl ?_
  refine z_push iX5_greatestMark_2 ?_
  refine e_callV iX5_greatestMark_3 kX5_61 (tX5_markAt F e 0 (ix5 (s := 0) he (by omega))) rfl rfl rfl ⟨Nat.le_of_ble_eq_true rfl, Nat.le_of_ble_eq_true rfl⟩ ⟨Nat.le_of_ble_eq_true rfl, Nat.le_of_ble_eq_true rfl⟩ (Nat.le_of_ble_eq_true rfl) ?_
  dsimp only [Option.toList, List.cons_append, List.nil_append]
  refine z_istore iX5_greatestMark_6 rfl ?_
  dsimp only [List.set_cons_zero, List.set_cons_succ]
  refine z_push iX5_greatestMark_7 ?_
  refine z_istore iX5_greatestMark_8 rfl ?_
  dsimp only [List.set_cons_zero, List.set_cons_succ]
  refine lpX5_greatestMark F e he hc hs h0 h1 ?_ _ 0 (Nat.zero_add _)
  refine z_iload iX5_greatestMark_47 rfl ?_
  exact e_iret iX5_greatestMark_48 rfl ⟨rfl, rfl⟩

abbrev gleastMark (F : zFt) (e : Int32) : Nat → Int32 → Int32 := fun k a => zmn a (cMa F e (k + 1))

set_option maxRecDepth 100000 in
theorem lpX5_leastMark {L : Nat} {Z : zZt} (F : zFt) (e : Int32) (he : vp_in e 60) (hc : vp_in (F 10 (zn e)) 12) (hs : zn (cSe F e) ≤ 5) (h0 : 0 ≤ (cSe F e).toInt) (h1 : 0 < zn (cSe F e)) (kk : zEV mX5_leastMark (zrm 1 0 0) Z 47 [some (.ref 11), some (.int e), some (.int (zfold (gleastMark F e) (cMa F e 0) (zn (cSe F e) - 1))), some (.int (nI ((zn (cSe F e) - 1) + 1)))] [] 111 (zE L (F)) 0 0) : ∀ (n a : Nat), a + n = zn (cSe F e) - 1 → zEV mX5_leastMark (zrm 1 0 0) Z 9 [some (.ref 11), some (.int e), some (.int (zfold (gleastMark F e) (cMa F e 0) a)), some (.int (nI (a + 1)))] [] 111 (zE L (F)) 0 0 := by
  intro n
  induction n with
  | zero =>
    intro a ha
    obtain rfl : a = zn (cSe F e) - 1 := by omega
    refine z_iload iX5_leastMark_9 rfl ?_
    refine z_aload iX5_leastMark_10 rfl ?_
    refine e_getR iX5_leastMark_11 fX5_41 rfl ?_
    refine e_getR iX5_leastMark_14 fX5_64 rfl ?_
    refine z_aload iX5_leastMark_17 rfl ?_
    refine e_getR iX5_leastMark_18 fX5_41 rfl ?_
    refine e_getR iX5_leastMark_21 fX5_67 rfl ?_
    refine z_iload iX5_leastMark_24 rfl ?_
    refine e_iald iX5_leastMark_25 rfl (by assumption) ?_
    refine e_iald iX5_leastMark_26 rfl (by assumption) ?_
    refine z_icmp_ge iX5_leastMark_27 (fun c27 => ?_) (fun c27 => ?_)
    · exact kk
    · exact absurd (up_end (x := cSe F e) h0 (by omega)) c27
  | succ n ih =>
    intro a ha
    refine z_iload iX5_leastMark_9 rfl ?_
    refine z_aload iX5_leastMark_10 rfl ?_
    refine e_getR iX5_leastMark_11 fX5_41 rfl ?_
    refine e_getR iX5_leastMark_14 fX5_64 rfl ?_
    refine z_aload iX5_leastMark_17 rfl ?_
    refine e_getR iX5_leastMark_18 fX5_41 rfl ?_
    refine e_getR iX5_leastMark_21 fX5_67 rfl ?_
    refine z_iload iX5_leastMark_24 rfl ?_
    refine e_iald iX5_leastMark_25 rfl (by assumption) ?_
    refine e_iald iX5_leastMark_26 rfl (by assumption) ?_
    refine z_icmp_ge iX5_leastMark_27 (fun c27 => ?_) (fun c27 => ?_)
    · exact absurd c27 (up_in (x := cSe F e) (by omega))
    · refine z_iload iX5_leastMark_30 rfl ?_
      refine z_aload iX5_leastMark_31 rfl ?_
      refine z_iload iX5_leastMark_32 rfl ?_
      refine z_iload iX5_leastMark_33 rfl ?_
      refine e_callV iX5_leastMark_34 kX5_61 (tX5_markAt F e (nI (a + 1)) (ix5 he (by omega))) rfl rfl rfl ⟨Nat.le_of_ble_eq_true rfl, Nat.le_of_ble_eq_true rfl⟩ ⟨Nat.le_of_ble_eq_true rfl, Nat.le_of_ble_eq_true rfl⟩ (Nat.le_of_ble_eq_true rfl) ?_
      dsimp only [Option.toList, List.cons_append, List.nil_append]
      refine e_callS iX5_leastMark_37 kX5_75 (tJ9_min_7cf53 F _ _) rfl rfl ⟨Nat.le_of_ble_eq_true rfl, Nat.le_of_ble_eq_true rfl⟩ ⟨Nat.le_of_ble_eq_true rfl, Nat.le_of_ble_eq_true rfl⟩ (Nat.le_of_ble_eq_true rfl) ?_
      dsimp only [Option.toList, List.cons_append, List.nil_append]
      refine z_istore iX5_leastMark_40 rfl ?_
      dsimp only [List.set_cons_zero, List.set_cons_succ]
      refine z_iinc (v := 1) iX5_leastMark_41 (by decide) (by decide) rfl rfl ?_
      dsimp only [List.set_cons_zero, List.set_cons_succ]
      refine z_goto iX5_leastMark_44 ?_
      exact z_to (by simp [zfold, nI_1, *]) rfl (ih (a + 1) (by omega))

set_option maxRecDepth 100000 in
theorem tX5_leastMark {L : Nat} (F : zFt) (e : Int32) (he : vp_in e 60) (hc : vp_in (F 10 (zn e)) 12) (hs : zn (cSe F e) ≤ 5) (h0 : 0 ≤ (cSe F e).toInt) (h1 : 0 < zn (cSe F e)) : zFn mX5_leastMark 1 [.ref 11, .int e] L F (some (.int (zfold (gleastMark F e) (cMa F e 0) (zn (cSe F e) - 1)))) F := by
  refine e_of (lo := [some (.ref 11), some (.int e), none, none]) (by decide +kernel) (Nat.le_of_ble_eq_true rfl) rfl ?_
  refine z_aload iX5_leastMark_0 rfl ?_
  refine z_iload iX5_leastMark_1 rfl ?_
  refine z_push iX5_leastMark_2 ?_
  refine e_callV iX5_leastMark_3 kX5_61 (tX5_markAt F e 0 (ix5 (s := 0) he (by omega))) rfl rfl rfl ⟨Nat.le_of_ble_eq_true rfl, Nat.le_of_ble_eq_true rfl⟩ ⟨Nat.le_of_ble_eq_true rfl, Nat.le_of_ble_eq_true rfl⟩ (Nat.le_of_ble_eq_true rfl) ?_
  dsimp only [Option.toList, List.cons_append, List.nil_append]
  refine z_istore iX5_leastMark_6 rfl ?_
  dsimp only [List.set_cons_zero, List.set_cons_succ]
  refine z_push iX5_leastMark_7 ?_
  refine z_istore iX5_leastMark_8 rfl ?_
  dsimp only [List.set_cons_zero, List.set_cons_succ]
  refine lpX5_leastMark F e he hc hs h0 h1 ?_ _ 0 (Nat.zero_add _)
  refine z_iload iX5_leastMark_47 rfl ?_
  exact e_iret iX5_leastMark_48 rfl ⟨rfl, rfl⟩

abbrev gTp (F : zFt) (j e : Int32) : Nat → Int32 → Int32 := fun i a => if ¬ F 12 i = 0 then a else if ¬ F 13 i = j then a else if ¬ F 14 i = e then a else a + 1

set_option maxRecDepth 100000 in
theorem lpX5_timesPointed {L : Nat} {R : Room} {Z : zZt} (F : zFt) (j e : Int32) (h0 : 0 ≤ (F 11 6).toInt) (h4 : zn (F 11 6) ≤ 400) (kk : zEV mX5_timesPointed R Z 55 [some (.ref 11), some (.int j), some (.int e), some (.int (zfold (gTp F j e) 0 (zn (F 11 6)))), some (.int (nI (zn (F 11 6))))] [] 111 (zE L (F)) 0 0) : ∀ (n a : Nat), a + n = zn (F 11 6) → zEV mX5_timesPointed R Z 5 [some (.ref 11), some (.int j), some (.int e), some (.int (zfold (gTp F j e) 0 a)), some (.int (nI a))] [] 111 (zE L (F)) 0 0 := by
  intro n
  induction n with
  | zero =>
    intro a ha
    obtain rfl : a = zn (F 11 6) := by omega
    refine z_iload iX5_timesPointed_5 rfl ?_
    refine z_aload iX5_timesPointed_7 rfl ?_
    refine e_getI iX5_timesPointed_8 fX5_28 rfl ?_
    refine z_icmp_ge iX5_timesPointed_11 (fun c11 => ?_) (fun c11 => ?_)
    · exact kk
    · exact absurd (up_end h0 rfl) c11
  | succ n ih =>
    intro a ha
    refine z_iload iX5_timesPointed_5 rfl ?_
    refine z_aload iX5_timesPointed_7 rfl ?_
    refine e_getI iX5_timesPointed_8 fX5_28 rfl ?_
    refine z_icmp_ge iX5_timesPointed_11 (fun c11 => ?_) (fun c11 => ?_)
    · exact absurd c11 (up_in (x := (F 11 6)) (by omega))
    · refine z_aload iX5_timesPointed_14 rfl ?_
      refine e_getR iX5_timesPointed_15 fX5_9 rfl ?_
      refine z_iload iX5_timesPointed_18 rfl ?_
      refine e_iald iX5_timesPointed_20 rfl (vin_mk (n := 400) (by omega)) ?_
      rw [zn_nI (by omega)]
      refine z_if_ne iX5_timesPointed_21 (fun c21 => ?_) (fun c21 => ?_)
      · refine z_iinc (v := 1) iX5_timesPointed_49 (by decide) (by decide) rfl rfl ?_
        dsimp only [List.set_cons_zero, List.set_cons_succ]
        refine z_goto iX5_timesPointed_52 ?_
        exact z_to (by simp [zfold, nI_1, *]) rfl (ih (a + 1) (by omega))
      · refine z_aload iX5_timesPointed_24 rfl ?_
        refine e_getR iX5_timesPointed_25 fX5_15 rfl ?_
        refine z_iload iX5_timesPointed_28 rfl ?_
        refine e_iald iX5_timesPointed_30 rfl (vin_mk (n := 400) (by omega)) ?_
        rw [zn_nI (by omega)]
        refine z_iload iX5_timesPointed_31 rfl ?_
        refine z_icmp_ne iX5_timesPointed_32 (fun c32 => ?_) (fun c32 => ?_)
        · refine z_iinc (v := 1) iX5_timesPointed_49 (by decide) (by decide) rfl rfl ?_
          dsimp only [List.set_cons_zero, List.set_cons_succ]
          refine z_goto iX5_timesPointed_52 ?_
          exact z_to (by simp [zfold, nI_1, *]) rfl (ih (a + 1) (by omega))
        · refine z_aload iX5_timesPointed_35 rfl ?_
          refine e_getR iX5_timesPointed_36 fX5_18 rfl ?_
          refine z_iload iX5_timesPointed_39 rfl ?_
          refine e_iald iX5_timesPointed_41 rfl (vin_mk (n := 400) (by omega)) ?_
          rw [zn_nI (by omega)]
          refine z_iload iX5_timesPointed_42 rfl ?_
          refine z_icmp_ne iX5_timesPointed_43 (fun c43 => ?_) (fun c43 => ?_)
          · refine z_iinc (v := 1) iX5_timesPointed_49 (by decide) (by decide) rfl rfl ?_
            dsimp only [List.set_cons_zero, List.set_cons_succ]
            refine z_goto iX5_timesPointed_52 ?_
            exact z_to (by simp [zfold, nI_1, *]) rfl (ih (a + 1) (by omega))
          · refine z_iinc (v := 1) iX5_timesPointed_46 (by decide) (by decide) rfl rfl ?_
            dsimp only [List.set_cons_zero, List.set_cons_succ]
            refine z_iinc (v := 1) iX5_timesPointed_49 (by decide) (by decide) rfl rfl ?_
            dsimp only [List.set_cons_zero, List.set_cons_succ]
            refine z_goto iX5_timesPointed_52 ?_
            exact z_to (by simp [zfold, nI_1, *]) rfl (ih (a + 1) (by omega))

set_option maxRecDepth 100000 in
theorem tX5_timesPointed {L : Nat} (F : zFt) (j : Int32) (e : Int32) (h0 : 0 ≤ (F 11 6).toInt) (h4 : zn (F 11 6) ≤ 400) : zFn mX5_timesPointed 0 [.ref 11, .int j, .int e] L F (some (.int (zfold (gTp F j e) 0 (zn (F 11 6))))) F := by
  refine e_of (lo := [some (.ref 11), some (.int j), some (.int e), none, none]) (by decide +kernel) (Nat.le_of_ble_eq_true rfl) rfl ?_
  refine z_push iX5_timesPointed_0 ?_
  refine z_istore iX5_timesPointed_1 rfl ?_
  dsimp only [List.set_cons_zero, List.set_cons_succ]
  refine z_push iX5_timesPointed_2 ?_
  refine z_istore iX5_timesPointed_3 rfl ?_
  dsimp only [List.set_cons_zero, List.set_cons_succ]
  refine lpX5_timesPointed F j e h0 h4 ?_ _ 0 (Nat.zero_add _)
  refine z_iload iX5_timesPointed_55 rfl ?_
  exact e_iret iX5_timesPointed_56 rfl ⟨rfl, rfl⟩
