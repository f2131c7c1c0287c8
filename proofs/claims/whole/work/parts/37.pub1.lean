theorem zin_v {c x : Int32} (h : zin c x = true) : vp_in c (zn x) := by
  rw [zin_t] at h
  rw [vin]
  have := zn_int (x := x) (by omega)
  omega
theorem lt_vin {x : Int32} {n : Nat} {m : Int32} (h0 : 0 ≤ x.toInt) (h : x < m) (hm : m.toInt = n) : vp_in x n := by
  rw [Int32.lt_iff_toInt_lt] at h
  rw [vin]
  omega
abbrev cAc (F : zFt) (s m : Int32) : zFt := zup (zup (zfl (zup (zup (zup F 4 (zn (F 3 7)) s) 5 (zn (F 3 7)) (F 3 8)) 6 (zn (F 3 7)) m) 9 (zn (F 3 8)) (F 3 7) (zn m)) 3 8 (F 3 8 + m)) 3 7 (F 3 7 + 1)
def pShow (F : zFt) (s m : Int32) : Int32 × zFt := if s < 0 then (-102, F) else if 3 < s then (-102, F) else if m < 1 then (-102, F) else if m ≤ 5 then (if F 3 7 < 12 then (F 3 7, cAc F s m) else (-104, F)) else (-102, F)
theorem m15 {m : Int32} (h1 : ¬ m < 1) (h5 : m ≤ 5) : 0 ≤ m.toInt ∧ 1 ≤ zn m ∧ zn m ≤ 5 := by
  rw [Int32.lt_iff_toInt_lt] at h1
  rw [Int32.le_iff_toInt_le] at h5
  simp at h1 h5
  have := zn_int (x := m) (by omega)
  omega
theorem c12 {F : zFt} (h : shOk F) (hc : F 3 7 < 12) : zn (F 3 7) < 12 := by
  rw [Int32.lt_iff_toInt_lt] at hc
  simp at hc
  have := zn_int (vin_0 h.1)
  omega

set_option maxRecDepth 100000 in
theorem tX7_show {L : Nat} (F : zFt) (s : Int32) (m : Int32) (h : CI F) : zFn mX7_show 1 [.ref 2, .int s, .int m] L F (some (.int (pShow F s m).1)) (pShow F s m).2 := by
  refine e_of (lo := [some (.ref 2), some (.int s), some (.int m)]) (by decide +kernel) (Nat.le_of_ble_eq_true rfl) rfl ?_
  refine z_iload iX7_show_0 rfl ?_
  refine z_if_lt iX7_show_1 (fun c1 => ?_) (fun c1 => ?_)
  · refine z_push iX7_show_19 ?_
    exact e_iret iX7_show_21 rfl ⟨by simp [pShow, c1], by simp [pShow, c1]⟩
  · refine z_iload iX7_show_4 rfl ?_
    refine z_push iX7_show_5 ?_
    refine z_icmp_gt iX7_show_6 (fun c6 => ?_) (fun c6 => ?_)
    · refine z_push iX7_show_19 ?_
      exact e_iret iX7_show_21 rfl ⟨by simp [pShow, c1, c6], by simp [pShow, c1, c6]⟩
    · refine z_iload iX7_show_9 rfl ?_
      refine z_push iX7_show_10 ?_
      refine z_icmp_lt iX7_show_11 (fun c11 => ?_) (fun c11 => ?_)
      · refine z_push iX7_show_19 ?_
        exact e_iret iX7_show_21 rfl ⟨by simp [pShow, c1, c6, c11], by simp [pShow, c1, c6, c11]⟩
      · refine z_iload iX7_show_14 rfl ?_
        refine z_push iX7_show_15 ?_
        refine z_icmp_le iX7_show_16 (fun c16 => ?_) (fun c16 => ?_)
        · refine z_aload iX7_show_22 rfl ?_
          refine e_getR iX7_show_23 fX7_12 rfl ?_
          refine e_getI iX7_show_26 fX7_82 rfl ?_
          refine z_push iX7_show_29 ?_
          refine z_icmp_lt iX7_show_31 (fun c31 => ?_) (fun c31 => ?_)
          · refine z_aload iX7_show_37 rfl ?_
            refine e_getR iX7_show_38 fX7_12 rfl ?_
            refine z_iload iX7_show_41 rfl ?_
            refine z_iload iX7_show_42 rfl ?_
            refine e_callV iX7_show_43 kX7_85 (tX6_addClass F s m (lt_vin (vin_0 h.1.1) c31 (by decide)) (m15 c11 c16).1 h.1.2.1.1 (by have h1 := (m15 c11 c16).2.2; have h2 := c12 h.1 c31; have h3 := h.1.2.1.2; omega)) rfl rfl rfl ⟨Nat.le_of_ble_eq_true rfl, Nat.le_of_ble_eq_true rfl⟩ ⟨Nat.le_of_ble_eq_true rfl, Nat.le_of_ble_eq_true rfl⟩ (Nat.le_of_ble_eq_true rfl) ?_
            dsimp only [Option.toList, List.cons_append, List.nil_append]
            exact e_iret iX7_show_46 rfl ⟨by simp [pShow, c1, c6, c11, c16, c31], by simp [pShow, c1, c6, c11, c16, c31]⟩
          · refine z_push iX7_show_34 ?_
            exact e_iret iX7_show_36 rfl ⟨by simp [pShow, c1, c6, c11, c16, c31], by simp [pShow, c1, c6, c11, c16, c31]⟩
        · refine z_push iX7_show_19 ?_
          exact e_iret iX7_show_21 rfl ⟨by simp [pShow, c1, c6, c11, c16], by simp [pShow, c1, c6, c11, c16]⟩

abbrev cAn (F : zFt) (c : Int32) : zFt := zup (zup F 10 (zn (F 3 9)) c) 3 9 (F 3 9 + 1)
def pEntry (F : zFt) (c : Int32) : Int32 × zFt := if zin c (F 3 7) = false then (-101, F) else if F 7 (zn c) = 0 then (if F 3 9 < 60 then (F 3 9, cAn F c) else (-104, F)) else (-103, F)

set_option maxRecDepth 100000 in
theorem tX7_entry {L : Nat} (F : zFt) (c : Int32) (h : CI F) : zFn mX7_entry 1 [.ref 2, .int c] L F (some (.int (pEntry F c).1)) (pEntry F c).2 := by
  refine e_of (lo := [some (.ref 2), some (.int c)]) (by decide +kernel) (Nat.le_of_ble_eq_true rfl) rfl ?_
  refine z_aload iX7_entry_0 rfl ?_
  refine e_getR iX7_entry_1 fX7_12 rfl ?_
  refine z_iload iX7_entry_4 rfl ?_
  refine e_callV iX7_entry_5 kX7_89 (tX6_hasClass F _) rfl rfl rfl ⟨Nat.le_of_ble_eq_true rfl, Nat.le_of_ble_eq_true rfl⟩ ⟨Nat.le_of_ble_eq_true rfl, Nat.le_of_ble_eq_true rfl⟩ (Nat.le_of_ble_eq_true rfl) ?_
  dsimp only [Option.toList, List.cons_append, List.nil_append]
  refine z_if_ne iX7_entry_8 (fun c8 => ?_) (fun c8 => ?_)
  · rw [zb_n] at c8
    refine z_aload iX7_entry_14 rfl ?_
    refine e_getR iX7_entry_15 fX7_12 rfl ?_
    refine e_getR iX7_entry_18 fX7_93 rfl ?_
    refine z_iload iX7_entry_21 rfl ?_
    refine e_bald iX7_entry_22 rfl (sh_cl h.1 (zin_v c8)) ?_
    refine z_if_eq iX7_entry_23 (fun c23 => ?_) (fun c23 => ?_)
    · refine z_aload iX7_entry_29 rfl ?_
      refine e_getR iX7_entry_30 fX7_12 rfl ?_
      refine e_getI iX7_entry_33 fX7_97 rfl ?_
      refine z_push iX7_entry_36 ?_
      refine z_icmp_lt iX7_entry_38 (fun c38 => ?_) (fun c38 => ?_)
      · refine z_aload iX7_entry_44 rfl ?_
        refine e_getR iX7_entry_45 fX7_12 rfl ?_
        refine z_iload iX7_entry_48 rfl ?_
        refine e_callV iX7_entry_49 kX7_100 (tX6_addEntry F c (lt_vin (vin_0 h.1.2.2.1) c38 (by decide))) rfl rfl rfl ⟨Nat.le_of_ble_eq_true rfl, Nat.le_of_ble_eq_true rfl⟩ ⟨Nat.le_of_ble_eq_true rfl, Nat.le_of_ble_eq_true rfl⟩ (Nat.le_of_ble_eq_true rfl) ?_
        dsimp only [Option.toList, List.cons_append, List.nil_append]
        exact e_iret iX7_entry_52 rfl ⟨by simp [pEntry, c8, c23, c38], by simp [pEntry, c8, c23, c38]⟩
      · refine z_push iX7_entry_41 ?_
        exact e_iret iX7_entry_43 rfl ⟨by simp [pEntry, c8, c23, c38], by simp [pEntry, c8, c23, c38]⟩
    · refine z_push iX7_entry_26 ?_
      exact e_iret iX7_entry_28 rfl ⟨by simp [pEntry, c8, c23], by simp [pEntry, c8, c23]⟩
  · rw [zb_0] at c8
    refine z_push iX7_entry_11 ?_
    exact e_iret iX7_entry_13 rfl ⟨by simp [pEntry, c8], by simp [pEntry, c8]⟩

abbrev cPz (F : zFt) (c x y z : Int32) : zFt := zup (zup (zup F 8 (zn (c * 3)) x) 8 (zn (c * 3 + 1)) y) 8 (zn (c * 3 + 2)) z
def pPrizes (F : zFt) (c x y z : Int32) : Int32 × zFt := if zin c (F 3 7) = false then (-101, F) else if zin1 x 1000000 = false then (-102, F) else if zin1 y 1000000 = false then (-102, F) else if zin1 z 1000000 = false then (-102, F) else if F 7 (zn c) = 0 then (0, cPz F c x y z) else (-103, F)
theorem ix3 {c : Int32} (h : vp_in c 12) : vp_in (c * 3) 36 ∧ vp_in (c * 3 + 1) 36 ∧ vp_in (c * 3 + 2) 36 := by
  obtain ⟨j, hj, rfl⟩ := vin_of h
  simp only [nI_m3, nI_1, nI_p2]
  exact ⟨vin_mk (by omega), vin_mk (by omega), vin_mk (by omega)⟩

set_option maxRecDepth 100000 in
theorem tX7_prizes {L : Nat} (F : zFt) (c : Int32) (x : Int32) (y : Int32) (z : Int32) (h : CI F) : zFn mX7_prizes 1 [.ref 2, .int c, .int x, .int y, .int z] L F (some (.int (pPrizes F c x y z).1)) (pPrizes F c x y z).2 := by
  refine e_of (lo := [some (.ref 2), some (.int c), some (.int x), some (.int y), some (.int z)]) (by decide +kernel) (Nat.le_of_ble_eq_true rfl) rfl ?_
  refine z_aload iX7_prizes_0 rfl ?_
  refine e_getR iX7_prizes_1 fX7_12 rfl ?_
  refine z_iload iX7_prizes_4 rfl ?_
  refine e_callV iX7_prizes_5 kX7_89 (tX6_hasClass F _) rfl rfl rfl ⟨Nat.le_of_ble_eq_true rfl, Nat.le_of_ble_eq_true rfl⟩ ⟨Nat.le_of_ble_eq_true rfl, Nat.le_of_ble_eq_true rfl⟩ (Nat.le_of_ble_eq_true rfl) ?_
  dsimp only [Option.toList, List.cons_append, List.nil_append]
  refine z_if_ne iX7_prizes_8 (fun c8 => ?_) (fun c8 => ?_)
  · rw [zb_n] at c8
    refine z_iload iX7_prizes_14 rfl ?_
    refine e_callS iX7_prizes_15 kX7_104 (tX7_isPrize F _) rfl rfl ⟨Nat.le_of_ble_eq_true rfl, Nat.le_of_ble_eq_true rfl⟩ ⟨Nat.le_of_ble_eq_true rfl, Nat.le_of_ble_eq_true rfl⟩ (Nat.le_of_ble_eq_true rfl) ?_
    dsimp only [Option.toList, List.cons_append, List.nil_append]
    refine z_if_eq iX7_prizes_18 (fun c18 => ?_) (fun c18 => ?_)
    · rw [zb_0] at c18
      refine z_push iX7_prizes_36 ?_
      exact e_iret iX7_prizes_38 rfl ⟨by simp [pPrizes, c8, c18], by simp [pPrizes, c8, c18]⟩
    · rw [zb_n] at c18
      refine z_iload iX7_prizes_21 rfl ?_
      refine e_callS iX7_prizes_22 kX7_104 (tX7_isPrize F _) rfl rfl ⟨Nat.le_of_ble_eq_true rfl, Nat.le_of_ble_eq_true rfl⟩ ⟨Nat.le_of_ble_eq_true rfl, Nat.le_of_ble_eq_true rfl⟩ (Nat.le_of_ble_eq_true rfl) ?_
      dsimp only [Option.toList, List.cons_append, List.nil_append]
      refine z_if_eq iX7_prizes_25 (fun c25 => ?_) (fun c25 => ?_)
      · rw [zb_0] at c25
        refine z_push iX7_prizes_36 ?_
        exact e_iret iX7_prizes_38 rfl ⟨by simp [pPrizes, c8, c18, c25], by simp [pPrizes, c8, c18, c25]⟩
      · rw [zb_n] at c25
        refine z_iload iX7_prizes_28 rfl ?_
        refine e_callS iX7_prizes_30 kX7_104 (tX7_isPrize F _) rfl rfl ⟨Nat.le_of_ble_eq_true rfl, Nat.le_of_ble_eq_true rfl⟩ ⟨Nat.le_of_ble_eq_true rfl, Nat.le_of_ble_eq_true rfl⟩ (Nat.le_of_ble_eq_true rfl) ?_
        dsimp only [Option.toList, List.cons_append, List.nil_append]
        refine z_if_ne iX7_prizes_33 (fun c33 => ?_) (fun c33 => ?_)
        · rw [zb_n] at c33
          refine z_aload iX7_prizes_39 rfl ?_
          refine e_getR iX7_prizes_40 fX7_12 rfl ?_
          refine e_getR iX7_prizes_43 fX7_93 rfl ?_
          refine z_iload iX7_prizes_46 rfl ?_
          refine e_bald iX7_prizes_47 rfl (sh_cl h.1 (zin_v c8)) ?_
          refine z_if_eq iX7_prizes_48 (fun c48 => ?_) (fun c48 => ?_)
          · refine z_aload iX7_prizes_54 rfl ?_
            refine e_getR iX7_prizes_55 fX7_12 rfl ?_
            refine z_iload iX7_prizes_58 rfl ?_
            refine z_iload iX7_prizes_59 rfl ?_
            refine z_iload iX7_prizes_60 rfl ?_
            refine z_iload iX7_prizes_61 rfl ?_
            refine e_callV iX7_prizes_63 kX7_107 (tX6_setPrizes F c x y z (ix3 (sh_cl h.1 (zin_v c8))).1 (ix3 (sh_cl h.1 (zin_v c8))).2.1 (ix3 (sh_cl h.1 (zin_v c8))).2.2) rfl rfl rfl ⟨Nat.le_of_ble_eq_true rfl, Nat.le_of_ble_eq_true rfl⟩ ⟨Nat.le_of_ble_eq_true rfl, Nat.le_of_ble_eq_true rfl⟩ (Nat.le_of_ble_eq_true rfl) ?_
            dsimp only [Option.toList, List.cons_append, List.nil_append]
            refine z_push iX7_prizes_66 ?_
            exact e_iret iX7_prizes_67 rfl ⟨by simp [pPrizes, c8, c18, c25, c33, c48], by simp [pPrizes, c8, c18, c25, c33, c48]⟩
          · refine z_push iX7_prizes_51 ?_
            exact e_iret iX7_prizes_53 rfl ⟨by simp [pPrizes, c8, c18, c25, c33, c48], by simp [pPrizes, c8, c18, c25, c33, c48]⟩
        · rw [zb_0] at c33
          refine z_push iX7_prizes_36 ?_
          exact e_iret iX7_prizes_38 rfl ⟨by simp [pPrizes, c8, c18, c25, c33], by simp [pPrizes, c8, c18, c25, c33]⟩
  · rw [zb_0] at c8
    refine z_push iX7_prizes_11 ?_
    exact e_iret iX7_prizes_13 rfl ⟨by simp [pPrizes, c8], by simp [pPrizes, c8]⟩

abbrev cRu (F : zFt) (x y z : Int32) : zFt := zup (zup (zup (zup F 26 (zn (F 25 3)) x) 27 (zn (F 25 3)) y) 28 (zn (F 25 3)) z) 25 3 (F 25 3 + 1)
def pRule (F : zFt) (x y z : Int32) : Int32 × zFt := if x < 0 then (-102, F) else if 3 < x then (-102, F) else if zrk y = false then (-102, F) else if F 25 3 < 24 then (F 25 3, cRu F x y z) else (-104, F)

set_option maxRecDepth 100000 in
theorem tX7_rule {L : Nat} (F : zFt) (x : Int32) (y : Int32) (z : Int32) (h : CI F) : zFn mX7_rule 1 [.ref 2, .int x, .int y, .int z] L F (some (.int (pRule F x y z).1)) (pRule F x y z).2 := by
  refine e_of (lo := [some (.ref 2), some (.int x), some (.int y), some (.int z)]) (by decide +kernel) (Nat.le_of_ble_eq_true rfl) rfl ?_
  refine z_iload iX7_rule_0 rfl ?_
  refine z_if_lt iX7_rule_1 (fun c1 => ?_) (fun c1 => ?_)
  · refine z_push iX7_rule_16 ?_
    exact e_iret iX7_rule_18 rfl ⟨by simp [pRule, c1], by simp [pRule, c1]⟩
  · refine z_iload iX7_rule_4 rfl ?_
    refine z_push iX7_rule_5 ?_
    refine z_icmp_gt iX7_rule_6 (fun c6 => ?_) (fun c6 => ?_)
    · refine z_push iX7_rule_16 ?_
      exact e_iret iX7_rule_18 rfl ⟨by simp [pRule, c1, c6], by simp [pRule, c1, c6]⟩
    · refine z_iload iX7_rule_9 rfl ?_
      refine e_callS iX7_rule_10 kX7_111 (tX7_isRuleKind F _) rfl rfl ⟨Nat.le_of_ble_eq_true rfl, Nat.le_of_ble_eq_true rfl⟩ ⟨Nat.le_of_ble_eq_true rfl, Nat.le_of_ble_eq_true rfl⟩ (Nat.le_of_ble_eq_true rfl) ?_
      dsimp only [Option.toList, List.cons_append, List.nil_append]
      refine z_if_ne iX7_rule_13 (fun c13 => ?_) (fun c13 => ?_)
      · rw [zb_n] at c13
        refine z_aload iX7_rule_19 rfl ?_
        refine e_getR iX7_rule_20 fX7_37 rfl ?_
        refine e_getI iX7_rule_23 fX7_114 rfl ?_
        refine z_push iX7_rule_26 ?_
        refine z_icmp_lt iX7_rule_28 (fun c28 => ?_) (fun c28 => ?_)
        · refine z_aload iX7_rule_34 rfl ?_
          refine e_getR iX7_rule_35 fX7_37 rfl ?_
          refine z_iload iX7_rule_38 rfl ?_
          refine z_iload iX7_rule_39 rfl ?_
          refine z_iload iX7_rule_40 rfl ?_
          refine e_callV iX7_rule_41 kX7_117 (tX3_add F x y z (lt_vin (vin_0 h.2.2.1) c28 (by decide))) rfl rfl rfl ⟨Nat.le_of_ble_eq_true rfl, Nat.le_of_ble_eq_true rfl⟩ ⟨Nat.le_of_ble_eq_true rfl, Nat.le_of_ble_eq_true rfl⟩ (Nat.le_of_ble_eq_true rfl) ?_
          dsimp only [Option.toList, List.cons_append, List.nil_append]
          exact e_iret iX7_rule_44 rfl ⟨by simp [pRule, c1, c6, c13, c28], by simp [pRule, c1, c6, c13, c28]⟩
        · refine z_push iX7_rule_31 ?_
          exact e_iret iX7_rule_33 rfl ⟨by simp [pRule, c1, c6, c13, c28], by simp [pRule, c1, c6, c13, c28]⟩
      · rw [zb_0] at c13
        refine z_push iX7_rule_16 ?_
        exact e_iret iX7_rule_18 rfl ⟨by simp [pRule, c1, c6, c13], by simp [pRule, c1, c6, c13]⟩

def pClear (F : zFt) : Int32 × zFt := (F 25 3, zup F 25 3 0)

set_option maxRecDepth 100000 in
theorem tX7_clearRules {L : Nat} (F : zFt) : zFn mX7_clearRules 0 [.ref 2] L F (some (.int (pClear F).1)) (pClear F).2 := by
  refine e_of (lo := [some (.ref 2), none]) (by decide +kernel) (Nat.le_of_ble_eq_true rfl) rfl ?_
  refine z_aload iX7_clearRules_0 rfl ?_
  refine e_getR iX7_clearRules_1 fX7_37 rfl ?_
  refine e_getI iX7_clearRules_4 fX7_114 rfl ?_
  refine z_istore iX7_clearRules_7 rfl ?_
  dsimp only [List.set_cons_zero, List.set_cons_succ]
  refine z_aload iX7_clearRules_8 rfl ?_
  refine e_getR iX7_clearRules_9 fX7_37 rfl ?_
  refine z_push iX7_clearRules_12 ?_
  refine e_putI iX7_clearRules_13 fX7_114 fw3_3 rfl ?_
  refine z_iload iX7_clearRules_16 rfl ?_
  exact e_iret iX7_clearRules_17 rfl ⟨rfl, rfl⟩

def pObs (F : zFt) (x : Int32) : Int32 × zFt := if 0 ≤ x then (if F 31 2 < 6 then (F 31 2, zup (zup F 32 (zn (F 31 2)) x) 31 2 (F 31 2 + 1)) else (-104, F)) else (-102, F)

set_option maxRecDepth 100000 in
theorem tX7_observe {L : Nat} (F : zFt) (x : Int32) (h : CI F) : zFn mX7_observe 1 [.ref 2, .int x] L F (some (.int (pObs F x).1)) (pObs F x).2 := by
  refine e_of (lo := [some (.ref 2), some (.int x)]) (by decide +kernel) (Nat.le_of_ble_eq_true rfl) rfl ?_
  refine z_iload iX7_observe_0 rfl ?_
  refine z_if_ge iX7_observe_1 (fun c1 => ?_) (fun c1 => ?_)
  · refine z_aload iX7_observe_7 rfl ?_
    refine e_getR iX7_observe_8 fX7_51 rfl ?_
    refine e_getI iX7_observe_11 fX7_121 rfl ?_
    refine z_push iX7_observe_14 ?_
    refine z_icmp_lt iX7_observe_16 (fun c16 => ?_) (fun c16 => ?_)
    · refine z_aload iX7_observe_22 rfl ?_
      refine e_getR iX7_observe_23 fX7_51 rfl ?_
      refine z_iload iX7_observe_26 rfl ?_
      refine e_callV iX7_observe_27 kX7_122 (tX1_add F x (lt_vin (vin_0 h.2.1) c16 (by decide))) rfl rfl rfl ⟨Nat.le_of_ble_eq_true rfl, Nat.le_of_ble_eq_true rfl⟩ ⟨Nat.le_of_ble_eq_true rfl, Nat.le_of_ble_eq_true rfl⟩ (Nat.le_of_ble_eq_true rfl) ?_
      dsimp only [Option.toList, List.cons_append, List.nil_append]
      exact e_iret iX7_observe_30 rfl ⟨by simp [pObs, c1, c16], by simp [pObs, c1, c16]⟩
    · refine z_push iX7_observe_19 ?_
      exact e_iret iX7_observe_21 rfl ⟨by simp [pObs, c1, c16], by simp [pObs, c1, c16]⟩
  · refine z_push iX7_observe_4 ?_
    exact e_iret iX7_observe_6 rfl ⟨by simp [pObs, c1], by simp [pObs, c1]⟩

abbrev cSt (F : zFt) (s : Nat) (j e v : Int32) : zFt := zup (zup (zup (zup (zup F (5 * s + 35) 0 j) (5 * s + 35) 1 e) (5 * s + 35) 2 v) (5 * s + 35) 5 0) (5 * s + 35) 8 0
abbrev cBe1 (F : zFt) (j e : Int32) : zFt := zup (cSt F (zn (F 2 7)) j e (F 11 6)) 2 7 (F 2 7 + 1)
def pBegin (F : zFt) (j e : Int32) : Int32 × zFt := if zin j (F 3 8) = false then (-101, F) else if zin e (F 3 9) = false then (-101, F) else if F 9 (zn j) = F 10 (zn e) then (if F 7 (zn (F 10 (zn e))) = 0 then (if F 2 7 < 8 then (F 2 7 + 1, cBe1 F j e) else (-104, F)) else (-103, F)) else (-102, F)

set_option maxRecDepth 100000 in
theorem tX7_begin {L : Nat} (F : zFt) (j : Int32) (e : Int32) (h : CI F) : zFn mX7_begin 1 [.ref 2, .int j, .int e] L F (some (.int (pBegin F j e).1)) (pBegin F j e).2 := by
  refine e_of (lo := [some (.ref 2), some (.int j), some (.int e)]) (by decide +kernel) (Nat.le_of_ble_eq_true rfl) rfl ?_
  refine z_aload iX7_begin_0 rfl ?_
  refine e_getR iX7_begin_1 fX7_12 rfl ?_
  refine z_iload iX7_begin_4 rfl ?_
  refine e_callV iX7_begin_5 kX7_124 (tX6_hasJudge F _) rfl rfl rfl ⟨Nat.le_of_ble_eq_true rfl, Nat.le_of_ble_eq_true rfl⟩ ⟨Nat.le_of_ble_eq_true rfl, Nat.le_of_ble_eq_true rfl⟩ (Nat.le_of_ble_eq_true rfl) ?_
  dsimp only [Option.toList, List.cons_append, List.nil_append]
  refine z_if_eq iX7_begin_8 (fun c8 => ?_) (fun c8 => ?_)
  · rw [zb_0] at c8
    refine z_push iX7_begin_22 ?_
    exact e_iret iX7_begin_24 rfl ⟨by simp [pBegin, c8], by simp [pBegin, c8]⟩
  · rw [zb_n] at c8
    refine z_aload iX7_begin_11 rfl ?_
    refine e_getR iX7_begin_12 fX7_12 rfl ?_
    refine z_iload iX7_begin_15 rfl ?_
    refine e_callV iX7_begin_16 kX7_127 (tX6_hasEntry F _) rfl rfl rfl ⟨Nat.le_of_ble_eq_true rfl, Nat.le_of_ble_eq_true rfl⟩ ⟨Nat.le_of_ble_eq_true rfl, Nat.le_of_ble_eq_true rfl⟩ (Nat.le_of_ble_eq_true rfl) ?_
    dsimp only [Option.toList, List.cons_append, List.nil_append]
    refine z_if_ne iX7_begin_19 (fun c19 => ?_) (fun c19 => ?_)
    · rw [zb_n] at c19
      refine z_aload iX7_begin_25 rfl ?_
      refine e_getR iX7_begin_26 fX7_12 rfl ?_
      refine e_getR iX7_begin_29 fX7_130 rfl ?_
      refine z_iload iX7_begin_32 rfl ?_
      refine e_iald iX7_begin_33 rfl (sh_jg h.1 (zin_v c8)) ?_
      refine z_aload iX7_begin_34 rfl ?_
      refine e_getR iX7_begin_35 fX7_12 rfl ?_
      refine e_getR iX7_begin_38 fX7_134 rfl ?_
      refine z_iload iX7_begin_41 rfl ?_
      refine e_iald iX7_begin_42 rfl (sh_en h.1 (zin_v c19)) ?_
      refine z_icmp_eq iX7_begin_43 (fun c43 => ?_) (fun c43 => ?_)
      · refine z_aload iX7_begin_49 rfl ?_
        refine e_getR iX7_begin_50 fX7_12 rfl ?_
        refine e_getR iX7_begin_53 fX7_93 rfl ?_
        refine z_aload iX7_begin_56 rfl ?_
        refine e_getR iX7_begin_57 fX7_12 rfl ?_
        refine e_getR iX7_begin_60 fX7_134 rfl ?_
        refine z_iload iX7_begin_63 rfl ?_
        refine e_iald iX7_begin_64 rfl (sh_en h.1 (zin_v c19)) ?_
        refine e_bald iX7_begin_65 rfl (sh_ec h.1 (zin_v c19)) ?_
        refine z_if_eq iX7_begin_66 (fun c66 => ?_) (fun c66 => ?_)
        · refine z_aload iX7_begin_72 rfl ?_
          refine e_getI iX7_begin_73 fX7_61 rfl ?_
          refine z_push iX7_begin_76 ?_
          refine z_icmp_lt iX7_begin_78 (fun c78 => ?_) (fun c78 => ?_)
          · refine z_aload iX7_begin_84 rfl ?_
            refine e_getR iX7_begin_85 fX7_57 rfl ?_
            refine z_aload iX7_begin_88 rfl ?_
            refine e_getI iX7_begin_89 fX7_61 rfl ?_
            refine e_aald iX7_begin_92 (lt_vin (vin_0 h.2.2.2.2.2.2.1) c78 (by decide)) ?_
            refine z_iload iX7_begin_93 rfl ?_
            refine z_iload iX7_begin_94 rfl ?_
            refine z_aload iX7_begin_95 rfl ?_
            refine e_getR iX7_begin_96 fX7_21 rfl ?_
            refine e_getI iX7_begin_99 fX7_137 rfl ?_
            refine e_callV iX7_begin_102 kX7_140 (tX4_start F (zn (F 2 7)) (vin_zn (lt_vin (n := 8) (vin_0 h.2.2.2.2.2.2.1) c78 (by decide))) j e (F 11 6)) rfl rfl (scO (zn (F 2 7)) (vin_zn (lt_vin (n := 8) (vin_0 h.2.2.2.2.2.2.1) c78 (by decide)))) ⟨Nat.le_of_ble_eq_true rfl, Nat.le_of_ble_eq_true rfl⟩ ⟨Nat.le_of_ble_eq_true rfl, Nat.le_of_ble_eq_true rfl⟩ (Nat.le_of_ble_eq_true rfl) ?_
            dsimp only [Option.toList, List.cons_append, List.nil_append]
            refine z_aload iX7_begin_105 rfl ?_
            refine z_dup iX7_begin_106 rfl ?_
            refine e_getI iX7_begin_107 fX7_61 rfl ?_
            refine z_push iX7_begin_110 ?_
            refine z_iadd iX7_begin_111 ?_
            refine e_putI iX7_begin_112 fX7_61 fw7_7 rfl ?_
            refine z_aload iX7_begin_115 rfl ?_
            refine e_getI iX7_begin_116 fX7_61 rfl ?_
            try simp only [zup_ap, Nat.add_left_cancel_iff, Nat.reduceEqDiff, false_and, true_and, and_self, eq_self, ↓reduceIte]
            exact e_iret iX7_begin_119 rfl ⟨by simp [pBegin, c8, c19, c43, c66, c78], by simp [pBegin, c8, c19, c43, c66, c78]⟩
          · refine z_push iX7_begin_81 ?_
            exact e_iret iX7_begin_83 rfl ⟨by simp [pBegin, c8, c19, c43, c66, c78], by simp [pBegin, c8, c19, c43, c66, c78]⟩
        · refine z_push iX7_begin_69 ?_
          exact e_iret iX7_begin_71 rfl ⟨by simp [pBegin, c8, c19, c43, c66], by simp [pBegin, c8, c19, c43, c66]⟩
      · refine z_push iX7_begin_46 ?_
        exact e_iret iX7_begin_48 rfl ⟨by simp [pBegin, c8, c19, c43], by simp [pBegin, c8, c19, c43]⟩
    · rw [zb_0] at c19
      refine z_push iX7_begin_22 ?_
      exact e_iret iX7_begin_24 rfl ⟨by simp [pBegin, c8, c19], by simp [pBegin, c8, c19]⟩

def pDepth (F : zFt) : Int32 × zFt := (F 2 7, F)

set_option maxRecDepth 100000 in
theorem tX7_depth {L : Nat} (F : zFt) : zFn mX7_depth 0 [.ref 2] L F (some (.int (pDepth F).1)) (pDepth F).2 := by
  refine e_of (lo := [some (.ref 2)]) (by decide +kernel) (Nat.le_of_ble_eq_true rfl) rfl ?_
  refine z_aload iX7_depth_0 rfl ?_
  refine e_getI iX7_depth_1 fX7_61 rfl ?_
  exact e_iret iX7_depth_4 rfl ⟨rfl, rfl⟩
