/-- the first n of a row copied to another -/
def zcp (F : zFt) (d s n : Nat) : zFt := fun k i => if k = d ∧ i < n then F s i else F k i
theorem zcp_ap (F : zFt) (d s n k i : Nat) : zcp F d s n k i = if k = d ∧ i < n then F s i else F k i := rfl
theorem zcp_0 (F : zFt) (d s : Nat) : zcp F d s 0 = F := by
  funext k i
  rw [zcp_ap, if_neg (by omega)]
theorem zcp_s (F : zFt) (d s a : Nat) : zup (zcp F d s a) d a (F s a) = zcp F d s (a + 1) := by
  funext k i
  simp only [zup_ap, zcp_ap]
  by_cases h : k = d ∧ i = a
  · rw [if_pos h, if_pos (by omega), h.2]
  · rw [if_neg h]
    by_cases h2 : k = d ∧ i < a
    · rw [if_pos h2, if_pos (by omega)]
    · rw [if_neg h2, if_neg (by omega)]
theorem zcp_ne (F : zFt) {d s n k i : Nat} (h : k ≠ d) : zcp F d s n k i = F k i := by rw [zcp_ap, if_neg (by omega)]
abbrev nK0 (F : zFt) (x : Int32) : zFt := zup (zup F 75 41 1) 75 43 x
def nKp (F : zFt) (x : Int32) : zFt := zcp (zcp (nK0 F x) 107 93 400) 108 80 12
theorem nKp_ne (F : zFt) (x : Int32) {k j : Nat} (h1 : k ≠ 107) (h2 : k ≠ 108) (h3 : ¬ (k = 75 ∧ (j = 41 ∨ j = 43))) : nKp F x k j = F k j := by
  rw [nKp, zcp_ne _ h2, zcp_ne _ h1, nK0, zup_ap, if_neg (by omega), zup_ap, if_neg (by omega)]

set_option maxRecDepth 100000 in
theorem lpX8_keepa {L : Nat} {Z : zZt} (F : zFt) (m : Int32) (hb : ∀ i, F 93 i = 0 ∨ F 93 i = 1) (kk : zEV mX8_keep (zrm 0 0 0) Z 37 [some (.ref 75), some (.int m), some (.int (nI (400)))] [] 111 (zE L (zcp F 107 93 (400))) 0 0) : ∀ (n a : Nat), a + n = 400 → zEV mX8_keep (zrm 0 0 0) Z 12 [some (.ref 75), some (.int m), some (.int (nI a))] [] 111 (zE L (zcp F 107 93 a)) 0 0 := by
  intro n
  induction n with
  | zero =>
    intro a ha
    obtain rfl : a = 400 := by omega
    refine z_iload iX8_keep_12 rfl ?_
    refine z_push iX8_keep_13 ?_
    refine z_icmp_ge iX8_keep_16 (fun c16 => ?_) (fun c16 => ?_)
    · exact kk
    · exact absurd (by decide) c16
  | succ n ih =>
    intro a ha
    refine z_iload iX8_keep_12 rfl ?_
    refine z_push iX8_keep_13 ?_
    refine z_icmp_ge iX8_keep_16 (fun c16 => ?_) (fun c16 => ?_)
    · exact absurd ((nI_le2 (a := 400) (by decide) (by omega)).mp c16) (by omega)
    · refine z_aload iX8_keep_19 rfl ?_
      refine e_getR iX8_keep_20 fX8_104 rfl ?_
      refine z_iload iX8_keep_23 rfl ?_
      refine z_aload iX8_keep_24 rfl ?_
      refine e_getR iX8_keep_25 fX8_62 rfl ?_
      refine z_iload iX8_keep_28 rfl ?_
      refine e_bald iX8_keep_29 rfl (vin_mk (n := 400) (by omega)) ?_
      rw [zn_nI (by omega), zcp_ne F (by decide)]
      refine e_bast iX8_keep_30 rfl (vin_mk (n := 400) (by omega)) (hb _) ?_
      rw [zn_nI (by omega), zcp_s]
      refine z_iinc (v := 1) iX8_keep_31 (by decide) (by decide) rfl rfl ?_
      dsimp only [List.set_cons_zero, List.set_cons_succ]
      refine z_goto iX8_keep_34 ?_
      exact z_to (by simp [nI_1]) rfl (ih (a + 1) (by omega))

set_option maxRecDepth 100000 in
theorem lpX8_keepb {L : Nat} {Z : zZt} (F : zFt) (m : Int32) (hb : ∀ i, F 80 i = 0 ∨ F 80 i = 1) (kk : zEV mX8_keep (zrm 0 0 0) Z 63 [some (.ref 75), some (.int m), some (.int (nI (12)))] [] 111 (zE L (zcp F 108 80 (12))) 0 0) : ∀ (n a : Nat), a + n = 12 → zEV mX8_keep (zrm 0 0 0) Z 39 [some (.ref 75), some (.int m), some (.int (nI a))] [] 111 (zE L (zcp F 108 80 a)) 0 0 := by
  intro n
  induction n with
  | zero =>
    intro a ha
    obtain rfl : a = 12 := by omega
    refine z_iload iX8_keep_39 rfl ?_
    refine z_push iX8_keep_40 ?_
    refine z_icmp_ge iX8_keep_42 (fun c42 => ?_) (fun c42 => ?_)
    · exact kk
    · exact absurd (by decide) c42
  | succ n ih =>
    intro a ha
    refine z_iload iX8_keep_39 rfl ?_
    refine z_push iX8_keep_40 ?_
    refine z_icmp_ge iX8_keep_42 (fun c42 => ?_) (fun c42 => ?_)
    · exact absurd ((nI_le2 (a := 12) (by decide) (by omega)).mp c42) (by omega)
    · refine z_aload iX8_keep_45 rfl ?_
      refine e_getR iX8_keep_46 fX8_107 rfl ?_
      refine z_iload iX8_keep_49 rfl ?_
      refine z_aload iX8_keep_50 rfl ?_
      refine e_getR iX8_keep_51 fX8_22 rfl ?_
      refine z_iload iX8_keep_54 rfl ?_
      refine e_bald iX8_keep_55 rfl (vin_mk (n := 12) (by omega)) ?_
      rw [zn_nI (by omega), zcp_ne F (by decide)]
      refine e_bast iX8_keep_56 rfl (vin_mk (n := 12) (by omega)) (hb _) ?_
      rw [zn_nI (by omega), zcp_s]
      refine z_iinc (v := 1) iX8_keep_57 (by decide) (by decide) rfl rfl ?_
      dsimp only [List.set_cons_zero, List.set_cons_succ]
      refine z_goto iX8_keep_60 ?_
      exact z_to (by simp [nI_1]) rfl (ih (a + 1) (by omega))

set_option maxRecDepth 100000 in
theorem tX8_keep {L : Nat} (F : zFt) (m : Int32) (hb : ∀ i, F 93 i = 0 ∨ F 93 i = 1) (hc : ∀ i, F 80 i = 0 ∨ F 80 i = 1) : zFn mX8_keep 0 [.ref 75, .int m] L F none (nKp F m) := by
  refine e_of (lo := [some (.ref 75), some (.int m), none]) (by decide +kernel) (Nat.le_of_ble_eq_true rfl) rfl ?_
  refine z_aload iX8_keep_0 rfl ?_
  refine z_push iX8_keep_1 ?_
  refine e_putZ iX8_keep_2 fX8_198 fw8_41 rfl (by first | exact Or.inl rfl | exact Or.inr rfl | assumption) ?_
  refine z_aload iX8_keep_5 rfl ?_
  refine z_iload iX8_keep_6 rfl ?_
  refine e_putI iX8_keep_7 fX8_202 fw8_43 rfl ?_
  refine z_push iX8_keep_10 ?_
  refine z_istore iX8_keep_11 rfl ?_
  dsimp only [List.set_cons_zero, List.set_cons_succ]
  refine z_to rfl (zcp_0 _ 107 93).symm ?_
  refine lpX8_keepa (nK0 F m) m hb ?_ 400 0 rfl
  refine z_push iX8_keep_37 ?_
  refine z_istore iX8_keep_38 rfl ?_
  dsimp only [List.set_cons_zero, List.set_cons_succ]
  refine z_to rfl (zcp_0 _ 108 80).symm ?_
  refine lpX8_keepb (zcp (nK0 F m) 107 93 400) m (fun i => by rw [zcp_ne _ (by decide)]; exact hc i) ?_ 12 0 rfl
  exact e_vret iX8_keep_63 rfl ⟨rfl, rfl⟩

abbrev nEt (F : zFt) (a : Nat) : zFt := zup (zup F 88 a (F 88 a + 1)) 75 18 (F 75 18 + 1)
def nEo (F : zFt) : Nat → Int32 × zFt
  | 0 => (0, F)
  | a + 1 => if ¬ (nEo F a).2 88 a + 1 = (nEo F a).2 87 a then ((nEo F a).1, nEt (nEo F a).2 a) else (3, nNo (nEt (nEo F a).2 a) 11 (-2 - nI a) (-1) (-1))
theorem nEo_ne (F : zFt) {k j : Nat} (h1 : k ≠ 88) (h2 : k ≠ 106) (h3 : ¬ (k = 75 ∧ (j = 18 ∨ j = 38))) : ∀ a, (nEo F a).2 k j = F k j
  | 0 => rfl
  | a + 1 => by
    rw [nEo]
    split
    · show nEt (nEo F a).2 a k j = F k j
      rw [nEt, zup_ap, if_neg (by omega), zup_ap, if_neg (by omega), nEo_ne F h1 h2 h3 a]
    · show nNo (nEt (nEo F a).2 a) _ _ _ _ k j = F k j
      rw [nNo_ne _ _ _ _ _ h2 (by omega), nEt, zup_ap, if_neg (by omega), zup_ap, if_neg (by omega), nEo_ne F h1 h2 h3 a]
theorem nEo_n (F : zFt) (m : Nat) (h0 : 0 ≤ (F 75 38).toInt) : ∀ a, (F 75 38).toInt + (m + a : Nat) ≤ 2000000000 → 0 ≤ ((nEo F a).2 75 38).toInt ∧ ((nEo F a).2 75 38).toInt + m ≤ 2000000000
  | 0, h => ⟨h0, h⟩
  | a + 1, h => by
    have ih := nEo_n F (m + 1) h0 a (by rw [show m + 1 + a = m + (a + 1) by omega]; exact h)
    rw [nEo]
    split
    · show 0 ≤ (nEt (nEo F a).2 a 75 38).toInt ∧ (nEt (nEo F a).2 a 75 38).toInt + m ≤ 2000000000
      rw [nEt, zup_ap, if_neg (by omega), zup_ap, if_neg (by omega)]
      omega
    · show 0 ≤ (nNo (nEt (nEo F a).2 a) _ _ _ _ 75 38).toInt ∧ (nNo (nEt (nEo F a).2 a) _ _ _ _ 75 38).toInt + m ≤ 2000000000
      rw [nNo_n, nEt, zup_ap, if_neg (by omega), zup_ap, if_neg (by omega)]
      exact in1 ih.1 ih.2

set_option maxRecDepth 100000 in
theorem lpX8_end {L : Nat} {Z : zZt} (F : zFt) (hg : 0 ≤ (F 75 15).toInt) (h6 : zn (F 75 15) ≤ 6) (h0 : 0 ≤ (F 75 38).toInt) (h9 : (F 75 38).toInt + 6 ≤ 2000000000) (kk : ∀ u, zEV mX8_end (zrm 5 0 0) Z 127 [some (.ref 75), some (.int (nEo F (zn (F 75 15))).1), some (.int (nI (zn (F 75 15)))), u] [] 111 (zE L (nEo F (zn (F 75 15))).2) 0 0) : ∀ (n a : Nat) (u : Option Value), a + n = zn (F 75 15) → zEV mX8_end (zrm 5 0 0) Z 63 [some (.ref 75), some (.int (nEo F a).1), some (.int (nI a)), u] [] 111 (zE L (nEo F a).2) 0 0 := by
  intro n
  induction n with
  | zero =>
    intro a u ha
    obtain rfl : a = zn (F 75 15) := by omega
    refine z_iload iX8_end_63 rfl ?_
    refine z_aload iX8_end_64 rfl ?_
    refine e_getI iX8_end_65 fX8_141 rfl ?_
    rw [nEo_ne F (by decide) (by decide) (by decide)]
    refine z_icmp_ge iX8_end_68 (fun c68 => ?_) (fun c68 => ?_)
    · exact kk _
    · exact absurd (up_end hg rfl) c68
  | succ n ih =>
    intro a u ha
    have ez : zn (nI a) = a := zn_nI (by omega)
    have hn : 0 ≤ (nEt (nEo F a).2 a 75 38).toInt := (nEo_n F 0 h0 a (by omega)).1
    refine z_iload iX8_end_63 rfl ?_
    refine z_aload iX8_end_64 rfl ?_
    refine e_getI iX8_end_65 fX8_141 rfl ?_
    rw [nEo_ne F (by decide) (by decide) (by decide)]
    refine z_icmp_ge iX8_end_68 (fun c68 => ?_) (fun c68 => ?_)
    · exact absurd c68 (up_in (x := F 75 15) (by omega))
    · refine z_aload iX8_end_71 rfl ?_
      refine e_getR iX8_end_72 fX8_47 rfl ?_
      refine z_iload iX8_end_75 rfl ?_
      refine z_dup2 iX8_end_76 rfl rfl ?_
      refine e_iald iX8_end_77 rfl (vin_mk (n := 6) (by omega)) ?_
      rw [ez]
      refine z_push iX8_end_78 ?_
      refine z_iadd iX8_end_79 ?_
      refine e_iast iX8_end_80 rfl (vin_mk (n := 6) (by omega)) ?_
      rw [ez]
      refine z_aload iX8_end_81 rfl ?_
      refine z_dup iX8_end_82 rfl ?_
      refine e_getI iX8_end_83 fX8_211 rfl ?_
      rw [zup_ap, if_neg (by omega)]
      refine z_push iX8_end_86 ?_
      refine z_iadd iX8_end_87 ?_
      refine e_putI iX8_end_88 fX8_211 fw8_18 rfl ?_
      refine z_aload iX8_end_91 rfl ?_
      refine e_getR iX8_end_92 fX8_47 rfl ?_
      refine z_iload iX8_end_95 rfl ?_
      refine e_iald iX8_end_96 rfl (vin_mk (n := 6) (by omega)) ?_
      rw [ez, zup_ap, if_neg (by omega), zup_ap, if_pos ⟨rfl, rfl⟩]
      refine z_aload iX8_end_97 rfl ?_
      refine e_getR iX8_end_98 fX8_44 rfl ?_
      refine z_iload iX8_end_101 rfl ?_
      refine e_iald iX8_end_102 rfl (vin_mk (n := 6) (by omega)) ?_
      rw [ez, zup_ap, if_neg (by omega), zup_ap, if_neg (by omega)]
      refine z_icmp_ne iX8_end_103 (fun c103 => ?_) (fun c103 => ?_)
      · refine z_iinc (v := 1) iX8_end_121 (by decide) (by decide) rfl rfl ?_
        dsimp only [List.set_cons_zero, List.set_cons_succ]
        refine z_goto iX8_end_124 ?_
        exact z_to (by rw [nEo, if_pos c103, nI_1]) (by rw [nEo, if_pos c103]) (ih (a + 1) _ (by omega))
      · refine z_aload iX8_end_106 rfl ?_
        refine z_push iX8_end_107 ?_
        refine z_push iX8_end_109 ?_
        refine z_iload iX8_end_111 rfl ?_
        refine z_isub iX8_end_112 ?_
        refine z_push iX8_end_113 ?_
        refine z_push iX8_end_114 ?_
        refine e_callV iX8_end_115 kX8_174 (tX8_note (nEt (nEo F a).2 a) 11 (-2 - nI a) (-1) (-1) hn) rfl rfl rfl ⟨Nat.le_of_ble_eq_true rfl, Nat.le_of_ble_eq_true rfl⟩ ⟨Nat.le_of_ble_eq_true rfl, Nat.le_of_ble_eq_true rfl⟩ (Nat.le_of_ble_eq_true rfl) ?_
        dsimp only [Option.toList, List.cons_append, List.nil_append]
        refine z_istore iX8_end_118 rfl ?_
        dsimp only [List.set_cons_zero, List.set_cons_succ]
        refine z_push iX8_end_119 ?_
        refine z_istore iX8_end_120 rfl ?_
        dsimp only [List.set_cons_zero, List.set_cons_succ]
        refine z_iinc (v := 1) iX8_end_121 (by decide) (by decide) rfl rfl ?_
        dsimp only [List.set_cons_zero, List.set_cons_succ]
        refine z_goto iX8_end_124 ?_
        exact z_to (by rw [nEo, if_neg (not_not_intro c103), nI_1]) (by rw [nEo, if_neg (not_not_intro c103)]) (ih (a + 1) _ (by omega))

abbrev nEb (F : zFt) : zFt := zup (zup F 75 28 (F 75 28 - 1)) 75 42 (F 75 42 + 1)
abbrev nEk (F : zFt) : zFt := nKp (nEb F) (F 99 0)
def qEnd (F : zFt) : Int32 × zFt := if F 75 28 = 0 then (-103, F) else if (nJd F 2).1 = 0 then (if F 75 28 - 1 ≤ 0 then nEo (nEk F) (zn (F 75 15)) else (0, zup F 75 28 (F 75 28 - 1))) else nJd F 2

set_option maxRecDepth 100000 in
theorem tX8_end {L : Nat} (F : zFt) (n : Nat) (hF : NI F n 400) (hb : ∀ i, F 93 i = 0 ∨ F 93 i = 1) (hc : ∀ i, F 80 i = 0 ∨ F 80 i = 1) (ho : vp_in (F 75 15) 7) : zFn mX8_end 5 [.ref 75] L F (some (.int (qEnd F).1)) (qEnd F).2 := by
  refine e_of (lo := [some (.ref 75), none, none, none]) (by decide +kernel) (Nat.le_of_ble_eq_true rfl) rfl ?_
  refine z_aload iX8_end_0 rfl ?_
  refine e_getI iX8_end_1 fX8_116 rfl ?_
  refine z_if_ne iX8_end_4 (fun c4 => ?_) (fun c4 => ?_)
  · obtain ⟨p, rfl⟩ := NI_st hF c4
    have hat := NI_at hF
    have hp8 : p < 8 := by have := hF.2.1; omega
    have ez : zn (nI p) = p := zn_nI (by omega)
    have hy := hat.2.2.1
    refine z_aload iX8_end_10 rfl ?_
    refine z_push iX8_end_11 ?_
    refine e_callV iX8_end_12 kX8_195 (tX8_judged F 2 p (NI_le hF (by omega))) rfl rfl rfl ⟨Nat.le_of_ble_eq_true rfl, Nat.le_of_ble_eq_true rfl⟩ ⟨Nat.le_of_ble_eq_true rfl, Nat.le_of_ble_eq_true rfl⟩ (Nat.le_of_ble_eq_true rfl) ?_
    dsimp only [Option.toList, List.cons_append, List.nil_append]
    refine z_istore iX8_end_15 rfl ?_
    dsimp only [List.set_cons_zero, List.set_cons_succ]
    refine z_iload iX8_end_16 rfl ?_
    refine z_if_eq iX8_end_17 (fun c17 => ?_) (fun c17 => ?_)
    · refine z_to rfl (nJg_0 F 2 _ _ c17) ?_
      refine z_aload iX8_end_22 rfl ?_
      refine z_dup iX8_end_23 rfl ?_
      refine e_getI iX8_end_24 fX8_116 rfl ?_
      refine z_push iX8_end_27 ?_
      refine z_isub iX8_end_28 ?_
      refine e_putI iX8_end_29 fX8_116 fw8_28 rfl ?_
      refine z_aload iX8_end_32 rfl ?_
      refine e_getI iX8_end_33 fX8_116 rfl ?_
      rw [zup_ap, if_pos ⟨rfl, rfl⟩]
      refine z_if_le iX8_end_36 (fun c36 => ?_) (fun c36 => ?_)
      · refine z_aload iX8_end_41 rfl ?_
        refine z_dup iX8_end_42 rfl ?_
        refine e_getI iX8_end_43 fX8_205 rfl ?_
        rw [zup_ap, if_neg (by omega)]
        refine z_push iX8_end_46 ?_
        refine z_iadd iX8_end_47 ?_
        refine e_putI iX8_end_48 fX8_205 fw8_42 rfl ?_
        refine z_aload iX8_end_51 rfl ?_
        refine z_aload iX8_end_52 rfl ?_
        refine e_getR iX8_end_53 fX8_80 rfl ?_
        refine z_push iX8_end_56 ?_
        refine e_iald iX8_end_57 rfl (vin_mk (n := 8) (a := 0) (by omega)) ?_
        rw [show zn 0 = 0 from rfl, zup_ap, if_neg (by omega), zup_ap, if_neg (by omega)]
        refine e_callV iX8_end_58 kX8_208 (tX8_keep (nEb F) (F 99 0) hb hc) rfl rfl rfl ⟨Nat.le_of_ble_eq_true rfl, Nat.le_of_ble_eq_true rfl⟩ ⟨Nat.le_of_ble_eq_true rfl, Nat.le_of_ble_eq_true rfl⟩ (Nat.le_of_ble_eq_true rfl) ?_
        dsimp only [Option.toList, List.cons_append, List.nil_append]
        refine z_push iX8_end_61 ?_
        refine z_istore iX8_end_62 rfl ?_
        dsimp only [List.set_cons_zero, List.set_cons_succ]
        have e15 : nEk F 75 15 = F 75 15 := nKp_ne _ _ (by decide) (by decide) (by decide)
        have e38 : nEk F 75 38 = F 75 38 := nKp_ne _ _ (by decide) (by decide) (by decide)
        refine z_to (lo' := [some (.ref 75), some (.int (nEo (nEk F) 0).1), some (.int (nI 0)), none]) (by rw [c17]; rfl) rfl ?_
        have h38 := hF.2.2.2.2.1
        refine lpX8_end (nEk F) (by rw [e15]; exact vin_0 ho) (by rw [e15]; exact vin_le1 ho) (by rw [e38]; exact h38.1) (by rw [e38]; omega) (fun u => ?_) _ 0 none (Nat.zero_add _)
        rw [e15]
        refine z_iload iX8_end_127 rfl ?_
        exact e_iret iX8_end_128 rfl ⟨by simp [qEnd, c4, c17, c36], by simp [qEnd, c4, c17, c36]⟩
      · refine z_push iX8_end_39 ?_
        exact e_iret iX8_end_40 rfl ⟨by simp [qEnd, c4, c17, c36], by simp [qEnd, c4, c17, c36]⟩
    · refine z_iload iX8_end_20 rfl ?_
      exact e_iret iX8_end_21 rfl ⟨by simp [qEnd, c4, c17], by simp [qEnd, c4, c17]⟩
  · refine z_push iX8_end_7 ?_
    exact e_iret iX8_end_9 rfl ⟨by simp [qEnd, c4], by simp [qEnd, c4]⟩

abbrev nSi (F : zFt) (i : Int32) : Int32 := F 75 28 - 1 - i
def qScoring (F : zFt) (i w : Int32) : Int32 × zFt := if zi3 i 0 (F 75 28 - 1) = false then (-101, F) else if 0 ≤ w then (if 4 ≤ w then (if F 100 (zn (nSi F i)) ≤ w - 4 then (-1, F) else (F 101 (zn (16 * nSi F i + w - 4)), F)) else if ¬ w = 0 then (if ¬ w = 1 then (if ¬ w = 2 then (F 103 (zn (nSi F i)), F) else (F 100 (zn (nSi F i)), F)) else (F 98 (zn (nSi F i)), F)) else (F 97 (zn (nSi F i)), F)) else (-102, F)

set_option maxRecDepth 100000 in
theorem tX8_scoring {L : Nat} (F : zFt) (i : Int32) (w : Int32) (hs : zi3 i 0 (F 75 28 - 1) = true → vp_in (nSi F i) 8) (hw : zi3 i 0 (F 75 28 - 1) = true → 4 ≤ w → ¬ F 100 (zn (nSi F i)) ≤ w - 4 → vp_in (16 * nSi F i + w - 4) 128) : zFn mX8_scoring 1 [.ref 75, .int i, .int w] L F (some (.int (qScoring F i w).1)) (qScoring F i w).2 := by
  refine e_of (lo := [some (.ref 75), some (.int i), some (.int w), none]) (by decide +kernel) (Nat.le_of_ble_eq_true rfl) rfl ?_
  refine z_iload iX8_scoring_0 rfl ?_
  refine z_push iX8_scoring_1 ?_
  refine z_aload iX8_scoring_2 rfl ?_
  refine e_getI iX8_scoring_3 fX8_116 rfl ?_
  refine z_push iX8_scoring_6 ?_
  refine z_isub iX8_scoring_7 ?_
  refine e_callS iX8_scoring_8 kX8_123 (tX8_in F _ _ _) rfl rfl ⟨Nat.le_of_ble_eq_true rfl, Nat.le_of_ble_eq_true rfl⟩ ⟨Nat.le_of_ble_eq_true rfl, Nat.le_of_ble_eq_true rfl⟩ (Nat.le_of_ble_eq_true rfl) ?_
  dsimp only [Option.toList, List.cons_append, List.nil_append]
  refine z_if_ne iX8_scoring_11 (fun c11 => ?_) (fun c11 => ?_)
  · rw [zb_n] at c11
    refine z_iload iX8_scoring_17 rfl ?_
    refine z_if_ge iX8_scoring_18 (fun c18 => ?_) (fun c18 => ?_)
    · refine z_aload iX8_scoring_24 rfl ?_
      refine e_getI iX8_scoring_25 fX8_116 rfl ?_
      refine z_push iX8_scoring_28 ?_
      refine z_isub iX8_scoring_29 ?_
      refine z_iload iX8_scoring_30 rfl ?_
      refine z_isub iX8_scoring_31 ?_
      refine z_istore iX8_scoring_32 rfl ?_
      dsimp only [List.set_cons_zero, List.set_cons_succ]
      refine z_iload iX8_scoring_33 rfl ?_
      refine z_push iX8_scoring_34 ?_
      refine z_icmp_ge iX8_scoring_35 (fun c35 => ?_) (fun c35 => ?_)
      · refine z_iload iX8_scoring_86 rfl ?_
        refine z_push iX8_scoring_87 ?_
        refine z_isub iX8_scoring_88 ?_
        refine z_aload iX8_scoring_89 rfl ?_
        refine e_getR iX8_scoring_90 fX8_83 rfl ?_
        refine z_iload iX8_scoring_93 rfl ?_
        refine e_iald iX8_scoring_94 rfl (hs c11) ?_
        refine z_icmp_ge iX8_scoring_95 (fun c95 => ?_) (fun c95 => ?_)
        · refine z_push iX8_scoring_114 ?_
          exact e_iret iX8_scoring_115 rfl ⟨by simp [qScoring, c11, c18, c35, c95], by simp [qScoring, c11, c18, c35, c95]⟩
        · refine z_aload iX8_scoring_98 rfl ?_
          refine e_getR iX8_scoring_99 fX8_86 rfl ?_
          refine z_push iX8_scoring_102 ?_
          refine z_iload iX8_scoring_104 rfl ?_
          refine z_imul iX8_scoring_105 ?_
          refine z_iload iX8_scoring_106 rfl ?_
          refine z_iadd iX8_scoring_107 ?_
          refine z_push iX8_scoring_108 ?_
          refine z_isub iX8_scoring_109 ?_
          refine e_iald iX8_scoring_110 rfl (hw c11 c35 c95) ?_
          refine z_goto iX8_scoring_111 ?_
          exact e_iret iX8_scoring_115 rfl ⟨by simp [qScoring, c11, c18, c35, c95], by simp [qScoring, c11, c18, c35, c95]⟩
      · refine z_iload iX8_scoring_38 rfl ?_
        refine z_if_ne iX8_scoring_39 (fun c39 => ?_) (fun c39 => ?_)
        · refine z_iload iX8_scoring_51 rfl ?_
          refine z_push iX8_scoring_52 ?_
          refine z_icmp_ne iX8_scoring_53 (fun c53 => ?_) (fun c53 => ?_)
          · refine z_iload iX8_scoring_65 rfl ?_
            refine z_push iX8_scoring_66 ?_
            refine z_icmp_ne iX8_scoring_67 (fun c67 => ?_) (fun c67 => ?_)
            · refine z_aload iX8_scoring_79 rfl ?_
              refine e_getR iX8_scoring_80 fX8_92 rfl ?_
              refine z_iload iX8_scoring_83 rfl ?_
              refine e_iald iX8_scoring_84 rfl (hs c11) ?_
              exact e_iret iX8_scoring_85 rfl ⟨by simp [qScoring, c11, c18, c35, c39, c53, c67], by simp [qScoring, c11, c18, c35, c39, c53, c67]⟩
            · refine z_aload iX8_scoring_70 rfl ?_
              refine e_getR iX8_scoring_71 fX8_83 rfl ?_
              refine z_iload iX8_scoring_74 rfl ?_
              refine e_iald iX8_scoring_75 rfl (hs c11) ?_
              refine z_goto iX8_scoring_76 ?_
              exact e_iret iX8_scoring_85 rfl ⟨by simp [qScoring, c11, c18, c35, c39, c53, c67], by simp [qScoring, c11, c18, c35, c39, c53, c67]⟩
          · refine z_aload iX8_scoring_56 rfl ?_
            refine e_getR iX8_scoring_57 fX8_77 rfl ?_
            refine z_iload iX8_scoring_60 rfl ?_
            refine e_iald iX8_scoring_61 rfl (hs c11) ?_
            refine z_goto iX8_scoring_62 ?_
            exact e_iret iX8_scoring_85 rfl ⟨by simp [qScoring, c11, c18, c35, c39, c53], by simp [qScoring, c11, c18, c35, c39, c53]⟩
        · refine z_aload iX8_scoring_42 rfl ?_
          refine e_getR iX8_scoring_43 fX8_74 rfl ?_
          refine z_iload iX8_scoring_46 rfl ?_
          refine e_iald iX8_scoring_47 rfl (hs c11) ?_
          refine z_goto iX8_scoring_48 ?_
          exact e_iret iX8_scoring_85 rfl ⟨by simp [qScoring, c11, c18, c35, c39], by simp [qScoring, c11, c18, c35, c39]⟩
    · refine z_push iX8_scoring_21 ?_
      exact e_iret iX8_scoring_23 rfl ⟨by simp [qScoring, c11, c18], by simp [qScoring, c11, c18]⟩
  · rw [zb_0] at c11
    refine z_push iX8_scoring_14 ?_
    exact e_iret iX8_scoring_16 rfl ⟨by simp [qScoring, c11], by simp [qScoring, c11]⟩

def nrq (x y : Int32) : Int32 := if x < 0 then -((y - 1 - x) / y) else x / y
def nrd (x y : Int32) : Int32 := if y < 2 * (x - nrq x y * y) then nrq x y + 1 else if ¬ 2 * (x - nrq x y * y) = y then nrq x y else if ¬ nrq x y &&& 1 = 1 then nrq x y else nrq x y + 1

set_option maxRecDepth 100000 in
theorem tX8_rounded {L : Nat} (F : zFt) (x : Int32) (y : Int32) (h : ¬ y = 0) : zFn mX8_rounded 0 [.int x, .int y] L F (some (.int (nrd x y))) F := by
  refine e_of (lo := [some (.int x), some (.int y), none, none]) (by decide +kernel) (Nat.le_of_ble_eq_true rfl) rfl ?_
  have tail : ∀ q : Int32, q = nrq x y → zEV mX8_rounded (zrm 0 0 0) (zZf L (some (.int (nrd x y))) F) 18 [some (.int x), some (.int y), none, none] [.int q] 111 (zE L F) 0 0 := by
    intro q hq
    subst hq
    refine z_istore iX8_rounded_18 rfl ?_
    dsimp only [List.set_cons_zero, List.set_cons_succ]
    refine z_push iX8_rounded_19 ?_
    refine z_iload iX8_rounded_20 rfl ?_
    refine z_iload iX8_rounded_21 rfl ?_
    refine z_iload iX8_rounded_22 rfl ?_
    refine z_imul iX8_rounded_23 ?_
    refine z_isub iX8_rounded_24 ?_
    refine z_imul iX8_rounded_25 ?_
    refine z_istore iX8_rounded_26 rfl ?_
    dsimp only [List.set_cons_zero, List.set_cons_succ]
    refine z_iload iX8_rounded_27 rfl ?_
    refine z_iload iX8_rounded_28 rfl ?_
    refine z_icmp_gt iX8_rounded_29 (fun c29 => ?_) (fun c29 => ?_)
    · refine z_iload iX8_rounded_44 rfl ?_
      refine z_push iX8_rounded_45 ?_
      refine z_iadd iX8_rounded_46 ?_
      refine z_goto iX8_rounded_47 ?_
      exact e_iret iX8_rounded_51 rfl ⟨by rw [nrd, if_pos c29], rfl⟩
    · refine z_iload iX8_rounded_32 rfl ?_
      refine z_iload iX8_rounded_33 rfl ?_
      refine z_icmp_ne iX8_rounded_34 (fun c34 => ?_) (fun c34 => ?_)
      · refine z_iload iX8_rounded_50 rfl ?_
        exact e_iret iX8_rounded_51 rfl ⟨by rw [nrd, if_neg c29, if_pos c34], rfl⟩
      · refine z_iload iX8_rounded_37 rfl ?_
        refine z_push iX8_rounded_38 ?_
        refine z_iand iX8_rounded_39 ?_
        refine z_push iX8_rounded_40 ?_
        refine z_icmp_ne iX8_rounded_41 (fun c41 => ?_) (fun c41 => ?_)
        · refine z_iload iX8_rounded_50 rfl ?_
          exact e_iret iX8_rounded_51 rfl ⟨by rw [nrd, if_neg c29, if_neg (not_not_intro c34), if_pos c41], rfl⟩
        · refine z_iload iX8_rounded_44 rfl ?_
          refine z_push iX8_rounded_45 ?_
          refine z_iadd iX8_rounded_46 ?_
          refine z_goto iX8_rounded_47 ?_
          exact e_iret iX8_rounded_51 rfl ⟨by rw [nrd, if_neg c29, if_neg (not_not_intro c34), if_neg (not_not_intro c41)], rfl⟩
  refine z_iload iX8_rounded_0 rfl ?_
  refine z_if_lt iX8_rounded_1 (fun c1 => ?_) (fun c1 => ?_)
  · refine z_iload iX8_rounded_10 rfl ?_
    refine z_push iX8_rounded_11 ?_
    refine z_isub iX8_rounded_12 ?_
    refine z_iload iX8_rounded_13 rfl ?_
    refine z_isub iX8_rounded_14 ?_
    refine z_iload iX8_rounded_15 rfl ?_
    refine z_idiv iX8_rounded_16 (by assumption) ?_
    refine z_ineg iX8_rounded_17 ?_
    exact tail _ (by rw [nrq, if_pos c1])
  · refine z_iload iX8_rounded_4 rfl ?_
    refine z_iload iX8_rounded_5 rfl ?_
    refine z_idiv iX8_rounded_6 (by assumption) ?_
    refine z_goto iX8_rounded_7 ?_
    exact tail _ (by rw [nrq, if_neg c1])
