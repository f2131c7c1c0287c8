abbrev nMj (F : zFt) (e j : Int32) : Int32 := 5 * e + j - F 77 (zn (F 83 (zn e)))
/-- what an event did is done -/
def nCo (F : zFt) (i : Nat) : zFt :=
  if F 89 i = 0 then zup F 94 (zn (nMj F (F 91 i) (F 90 i))) (F 94 (zn (nMj F (F 91 i) (F 90 i))) + F 92 i)
  else if F 89 i = 1 then zup F 95 (zn (F 91 i)) (F 95 (zn (F 91 i)) + F 92 i)
  else zup F 96 (zn (F 91 i)) (F 96 (zn (F 91 i)) ||| 1 <<< (F 92 i &&& 31))
def okN (F : zFt) (i : Nat) : Prop := vp_in (F 91 i) 60 ∧ (F 89 i = 0 → vp_in (F 83 (zn (F 91 i))) 12 ∧ vp_in (nMj F (F 91 i) (F 90 i)) 300)

set_option maxRecDepth 100000 in
theorem tX8_counted {L : Nat} (F : zFt) (i : Int32) (hi : vp_in i 400) (ho : okN F (zn i)) : zFn mX8_counted 0 [.ref 75, .int i] L F none (nCo F (zn i)) := by
  refine e_of (lo := [some (.ref 75), some (.int i), none]) (by decide +kernel) (Nat.le_of_ble_eq_true rfl) rfl ?_
  refine z_aload iX8_counted_0 rfl ?_
  refine e_getR iX8_counted_1 fX8_56 rfl ?_
  refine z_iload iX8_counted_4 rfl ?_
  refine e_iald iX8_counted_5 rfl (by assumption) ?_
  refine z_istore iX8_counted_6 rfl ?_
  dsimp only [List.set_cons_zero, List.set_cons_succ]
  refine z_aload iX8_counted_7 rfl ?_
  refine e_getR iX8_counted_8 fX8_50 rfl ?_
  refine z_iload iX8_counted_11 rfl ?_
  refine e_iald iX8_counted_12 rfl (by assumption) ?_
  refine z_if_ne iX8_counted_13 (fun c13 => ?_) (fun c13 => ?_)
  · refine z_aload iX8_counted_55 rfl ?_
    refine e_getR iX8_counted_56 fX8_50 rfl ?_
    refine z_iload iX8_counted_59 rfl ?_
    refine e_iald iX8_counted_60 rfl (by assumption) ?_
    refine z_push iX8_counted_61 ?_
    refine z_icmp_ne iX8_counted_62 (fun c62 => ?_) (fun c62 => ?_)
    · refine z_aload iX8_counted_83 rfl ?_
      refine e_getR iX8_counted_84 fX8_71 rfl ?_
      refine z_iload iX8_counted_87 rfl ?_
      refine z_dup2 iX8_counted_88 rfl rfl ?_
      refine e_iald iX8_counted_89 rfl ho.1 ?_
      refine z_push iX8_counted_90 ?_
      refine z_aload iX8_counted_91 rfl ?_
      refine e_getR iX8_counted_92 fX8_59 rfl ?_
      refine z_iload iX8_counted_95 rfl ?_
      refine e_iald iX8_counted_96 rfl (by assumption) ?_
      refine z_ishl iX8_counted_97 ?_
      refine z_ior iX8_counted_98 ?_
      refine e_iast iX8_counted_99 rfl ho.1 ?_
      exact e_vret iX8_counted_100 rfl ⟨rfl, by rw [nCo, if_neg c13, if_neg c62]⟩
    · refine z_aload iX8_counted_65 rfl ?_
      refine e_getR iX8_counted_66 fX8_68 rfl ?_
      refine z_iload iX8_counted_69 rfl ?_
      refine z_dup2 iX8_counted_70 rfl rfl ?_
      refine e_iald iX8_counted_71 rfl ho.1 ?_
      refine z_aload iX8_counted_72 rfl ?_
      refine e_getR iX8_counted_73 fX8_59 rfl ?_
      refine z_iload iX8_counted_76 rfl ?_
      refine e_iald iX8_counted_77 rfl (by assumption) ?_
      refine z_iadd iX8_counted_78 ?_
      refine e_iast iX8_counted_79 rfl ho.1 ?_
      refine z_goto iX8_counted_80 ?_
      exact e_vret iX8_counted_100 rfl ⟨rfl, by rw [nCo, if_neg c13, if_pos c62]⟩
  · refine z_aload iX8_counted_16 rfl ?_
    refine e_getR iX8_counted_17 fX8_65 rfl ?_
    refine z_push iX8_counted_20 ?_
    refine z_iload iX8_counted_21 rfl ?_
    refine z_imul iX8_counted_22 ?_
    refine z_aload iX8_counted_23 rfl ?_
    refine e_getR iX8_counted_24 fX8_53 rfl ?_
    refine z_iload iX8_counted_27 rfl ?_
    refine e_iald iX8_counted_28 rfl (by assumption) ?_
    refine z_iadd iX8_counted_29 ?_
    refine z_aload iX8_counted_30 rfl ?_
    refine e_getR iX8_counted_31 fX8_13 rfl ?_
    refine z_aload iX8_counted_34 rfl ?_
    refine e_getR iX8_counted_35 fX8_32 rfl ?_
    refine z_iload iX8_counted_38 rfl ?_
    refine e_iald iX8_counted_39 rfl ho.1 ?_
    refine e_iald iX8_counted_40 rfl (ho.2 c13).1 ?_
    refine z_isub iX8_counted_41 ?_
    refine z_dup2 iX8_counted_42 rfl rfl ?_
    refine e_iald iX8_counted_43 rfl (ho.2 c13).2 ?_
    refine z_aload iX8_counted_44 rfl ?_
    refine e_getR iX8_counted_45 fX8_59 rfl ?_
    refine z_iload iX8_counted_48 rfl ?_
    refine e_iald iX8_counted_49 rfl (by assumption) ?_
    refine z_iadd iX8_counted_50 ?_
    refine e_iast iX8_counted_51 rfl (ho.2 c13).2 ?_
    refine z_goto iX8_counted_52 ?_
    exact e_vret iX8_counted_100 rfl ⟨rfl, by rw [nCo, if_pos c13]⟩

theorem nCo_ne (F : zFt) (i : Nat) {k : Nat} (h1 : k ≠ 94) (h2 : k ≠ 95) (h3 : k ≠ 96) (j : Nat) : nCo F i k j = F k j := by
  unfold nCo
  split
  · rw [zup_ap, if_neg (by omega)]
  · split
    · rw [zup_ap, if_neg (by omega)]
    · rw [zup_ap, if_neg (by omega)]
def nGb (F : zFt) : Nat → zFt
  | 0 => F
  | a + 1 => if nGb F a 93 a = 0 then nGb F a else nCo (nGb F a) a
theorem nGb_ne (F : zFt) {k : Nat} (h1 : k ≠ 94) (h2 : k ≠ 95) (h3 : k ≠ 96) (j : Nat) : ∀ a, nGb F a k j = F k j
  | 0 => rfl
  | a + 1 => by
    rw [nGb]
    split
    · exact nGb_ne F h1 h2 h3 j a
    · rw [nCo_ne _ _ h1 h2 h3, nGb_ne F h1 h2 h3 j a]
theorem okN_eq {F G : zFt} {i : Nat} (h : okN F i) (e : ∀ k j, k = 77 ∨ k = 83 ∨ k = 89 ∨ k = 90 ∨ k = 91 → G k j = F k j) : okN G i := by
  simp only [okN, nMj, e 77 _ (by decide), e 83 _ (by decide), e 89 _ (by decide), e 90 _ (by decide), e 91 _ (by decide)]
  exact h
abbrev nG2 (F : zFt) (a : Nat) : zFt := zfl (zfl F 95 0 0 a) 96 0 0 a
theorem nG2_s (F : zFt) (a : Nat) : zup (zup (nG2 F a) 95 a 0) 96 a 0 = nG2 F (a + 1) := by
  funext k i
  simp only [nG2, zup_ap, zfl_ap]
  by_cases h6 : k = 96
  · subst h6
    by_cases hi : i = a
    · subst hi
      simp
    · by_cases hl : i < a
      · simp [hi, hl, show i < a + 1 by omega]
      · simp [hi, hl, show ¬ i < a + 1 by omega]
  · by_cases h5 : k = 95
    · subst h5
      by_cases hi : i = a
      · subst hi
        simp
      · by_cases hl : i < a
        · simp [hi, hl, show i < a + 1 by omega]
        · simp [hi, hl, show ¬ i < a + 1 by omega]
    · simp [h5, h6]
abbrev nG0 (F : zFt) (m : Int32) : zFt := nG2 (zfl (zup F 75 19 m) 94 0 0 300) 60
def nGo (F : zFt) (m : Int32) : zFt := nGb (nG0 F m) (zn m)
theorem nG0_ne (F : zFt) (m : Int32) {k : Nat} (h1 : k ≠ 94) (h2 : k ≠ 95) (h3 : k ≠ 96) (h4 : k ≠ 75) (j : Nat) : nG0 F m k j = F k j := by
  simp only [nG0, nG2, zfl_ap, zup_ap]
  rw [if_neg (by omega), if_neg (by omega), if_neg (by omega), if_neg (by omega)]

set_option maxRecDepth 100000 in
theorem lpX8_goBacka {L : Nat} {Z : zZt} (F : zFt) (m : Int32)  (kk : zEV mX8_goBack (zrm 1 0 0) Z 27 [some (.ref 75), some (.int m), some (.int (nI (300)))] [] 111 (zE L (zfl F 94 0 0 (300))) 0 0) : ∀ (n a : Nat), a + n = 300 → zEV mX8_goBack (zrm 1 0 0) Z 7 [some (.ref 75), some (.int m), some (.int (nI a))] [] 111 (zE L (zfl F 94 0 0 a)) 0 0 := by
  intro n
  induction n with
  | zero =>
    intro a ha
    obtain rfl : a = 300 := by omega
    refine z_iload iX8_goBack_7 rfl ?_
    refine z_push iX8_goBack_8 ?_
    refine z_icmp_ge iX8_goBack_11 (fun c11 => ?_) (fun c11 => ?_)
    · exact kk
    · exact absurd (by decide) c11
  | succ n ih =>
    intro a ha
    refine z_iload iX8_goBack_7 rfl ?_
    refine z_push iX8_goBack_8 ?_
    refine z_icmp_ge iX8_goBack_11 (fun c11 => ?_) (fun c11 => ?_)
    · exact absurd ((nI_le2 (a := 300) (by decide) (by omega)).mp c11) (by omega)
    · refine z_aload iX8_goBack_14 rfl ?_
      refine e_getR iX8_goBack_15 fX8_65 rfl ?_
      refine z_iload iX8_goBack_18 rfl ?_
      refine z_push iX8_goBack_19 ?_
      refine e_iast iX8_goBack_20 rfl (vin_mk (n := 300) (by omega)) ?_
      rw [zn_nI (by omega)]
      rw [show zup (zfl F 94 0 0 a) 94 a 0 = zfl F 94 0 0 (a + 1) by have := zfl_s F 94 0 0 a; rw [Nat.zero_add] at this; exact this]
      refine z_iinc (v := 1) iX8_goBack_21 (by decide) (by decide) rfl rfl ?_
      dsimp only [List.set_cons_zero, List.set_cons_succ]
      refine z_goto iX8_goBack_24 ?_
      exact z_to (by simp [nI_1]) rfl (ih (a + 1) (by omega))

set_option maxRecDepth 100000 in
theorem lpX8_goBackb {L : Nat} {Z : zZt} (F : zFt) (m : Int32)  (kk : zEV mX8_goBack (zrm 1 0 0) Z 55 [some (.ref 75), some (.int m), some (.int (nI (60)))] [] 111 (zE L (nG2 F (60))) 0 0) : ∀ (n a : Nat), a + n = 60 → zEV mX8_goBack (zrm 1 0 0) Z 29 [some (.ref 75), some (.int m), some (.int (nI a))] [] 111 (zE L (nG2 F a)) 0 0 := by
  intro n
  induction n with
  | zero =>
    intro a ha
    obtain rfl : a = 60 := by omega
    refine z_iload iX8_goBack_29 rfl ?_
    refine z_push iX8_goBack_30 ?_
    refine z_icmp_ge iX8_goBack_32 (fun c32 => ?_) (fun c32 => ?_)
    · exact kk
    · exact absurd (by decide) c32
  | succ n ih =>
    intro a ha
    refine z_iload iX8_goBack_29 rfl ?_
    refine z_push iX8_goBack_30 ?_
    refine z_icmp_ge iX8_goBack_32 (fun c32 => ?_) (fun c32 => ?_)
    · exact absurd ((nI_le2 (a := 60) (by decide) (by omega)).mp c32) (by omega)
    · refine z_aload iX8_goBack_35 rfl ?_
      refine e_getR iX8_goBack_36 fX8_68 rfl ?_
      refine z_iload iX8_goBack_39 rfl ?_
      refine z_push iX8_goBack_40 ?_
      refine e_iast iX8_goBack_41 rfl (vin_mk (n := 60) (by omega)) ?_
      rw [zn_nI (by omega)]
      refine z_aload iX8_goBack_42 rfl ?_
      refine e_getR iX8_goBack_43 fX8_71 rfl ?_
      refine z_iload iX8_goBack_46 rfl ?_
      refine z_push iX8_goBack_47 ?_
      refine e_iast iX8_goBack_48 rfl (vin_mk (n := 60) (by omega)) ?_
      rw [zn_nI (by omega), nG2_s]
      refine z_iinc (v := 1) iX8_goBack_49 (by decide) (by decide) rfl rfl ?_
      dsimp only [List.set_cons_zero, List.set_cons_succ]
      refine z_goto iX8_goBack_52 ?_
      exact z_to (by simp [nI_1]) rfl (ih (a + 1) (by omega))

set_option maxRecDepth 100000 in
theorem lpX8_goBackc {L : Nat} {Z : zZt} (F : zFt) (m : Int32) (h0 : 0 ≤ m.toInt) (h4 : zn m ≤ 400) (he : F 75 19 = m) (ho : ∀ i, i < zn m → okN F i) (kk : zEV mX8_goBack (zrm 1 0 0) Z 85 [some (.ref 75), some (.int m), some (.int (nI (zn m)))] [] 111 (zE L (nGb F (zn m))) 0 0) : ∀ (n a : Nat), a + n = zn m → zEV mX8_goBack (zrm 1 0 0) Z 57 [some (.ref 75), some (.int m), some (.int (nI a))] [] 111 (zE L (nGb F a)) 0 0 := by
  intro n
  induction n with
  | zero =>
    intro a ha
    obtain rfl : a = zn m := by omega
    refine z_iload iX8_goBack_57 rfl ?_
    refine z_aload iX8_goBack_58 rfl ?_
    refine e_getI iX8_goBack_59 fX8_144 rfl ?_
    rw [nGb_ne F (by decide) (by decide) (by decide), he]
    refine z_icmp_ge iX8_goBack_62 (fun c62 => ?_) (fun c62 => ?_)
    · exact kk
    · exact absurd (up_end h0 rfl) c62
  | succ n ih =>
    intro a ha
    refine z_iload iX8_goBack_57 rfl ?_
    refine z_aload iX8_goBack_58 rfl ?_
    refine e_getI iX8_goBack_59 fX8_144 rfl ?_
    rw [nGb_ne F (by decide) (by decide) (by decide), he]
    refine z_icmp_ge iX8_goBack_62 (fun c62 => ?_) (fun c62 => ?_)
    · exact absurd c62 (up_in (x := (m)) (by omega))
    · refine z_aload iX8_goBack_65 rfl ?_
      refine e_getR iX8_goBack_66 fX8_62 rfl ?_
      refine z_iload iX8_goBack_69 rfl ?_
      refine e_bald iX8_goBack_70 rfl (vin_mk (n := 400) (by omega)) ?_
      rw [zn_nI (by omega)]
      refine z_if_eq iX8_goBack_71 (fun c71 => ?_) (fun c71 => ?_)
      · refine z_iinc (v := 1) iX8_goBack_79 (by decide) (by decide) rfl rfl ?_
        dsimp only [List.set_cons_zero, List.set_cons_succ]
        refine z_goto iX8_goBack_82 ?_
        exact z_to (by simp [nI_1]) (by rw [nGb, if_pos c71]) (ih (a + 1) (by omega))
      · refine z_aload iX8_goBack_74 rfl ?_
        refine z_iload iX8_goBack_75 rfl ?_
        refine e_callV iX8_goBack_76 kX8_147 (tX8_counted (nGb F a) (nI a) (vin_mk (by omega)) (by rw [zn_nI (by omega)]; exact okN_eq (ho a (by omega)) (fun k j hk => nGb_ne F (by omega) (by omega) (by omega) j a))) rfl rfl rfl ⟨Nat.le_of_ble_eq_true rfl, Nat.le_of_ble_eq_true rfl⟩ ⟨Nat.le_of_ble_eq_true rfl, Nat.le_of_ble_eq_true rfl⟩ (Nat.le_of_ble_eq_true rfl) ?_
        dsimp only [Option.toList, List.cons_append, List.nil_append]
        rw [zn_nI (by omega)]
        refine z_iinc (v := 1) iX8_goBack_79 (by decide) (by decide) rfl rfl ?_
        dsimp only [List.set_cons_zero, List.set_cons_succ]
        refine z_goto iX8_goBack_82 ?_
        exact z_to (by simp [nI_1]) (by rw [nGb, if_neg c71]) (ih (a + 1) (by omega))

set_option maxRecDepth 100000 in
theorem tX8_goBack {L : Nat} (F : zFt) (m : Int32) (h0 : 0 ≤ m.toInt) (h4 : zn m ≤ 400) (ho : ∀ i, i < zn m → okN F i) : zFn mX8_goBack 1 [.ref 75, .int m] L F none (nGo F m) := by
  refine e_of (lo := [some (.ref 75), some (.int m), none]) (by decide +kernel) (Nat.le_of_ble_eq_true rfl) rfl ?_
  refine z_aload iX8_goBack_0 rfl ?_
  refine z_iload iX8_goBack_1 rfl ?_
  refine e_putI iX8_goBack_2 fX8_144 fw8_19 rfl ?_
  refine z_push iX8_goBack_5 ?_
  refine z_istore iX8_goBack_6 rfl ?_
  dsimp only [List.set_cons_zero, List.set_cons_succ]
  refine z_to rfl (zfl_0 _ 94 0 0).symm ?_
  refine lpX8_goBacka (zup F 75 19 m) m ?_ 300 0 rfl
  refine z_push iX8_goBack_27 ?_
  refine z_istore iX8_goBack_28 rfl ?_
  dsimp only [List.set_cons_zero, List.set_cons_succ]
  refine z_to (F' := nG2 (zfl (zup F 75 19 m) 94 0 0 300) 0) rfl (by rw [nG2, zfl_0, zfl_0]) ?_
  refine lpX8_goBackb (zfl (zup F 75 19 m) 94 0 0 300) m ?_ 60 0 rfl
  refine z_push iX8_goBack_55 ?_
  refine z_istore iX8_goBack_56 rfl ?_
  dsimp only [List.set_cons_zero, List.set_cons_succ]
  refine lpX8_goBackc (nG0 F m) m h0 h4 rfl (fun i hi => okN_eq (ho i hi) (fun k j hk => nG0_ne F m (by omega) (by omega) (by omega) (by omega) j)) ?_ _ 0 (Nat.zero_add _)
  exact e_vret iX8_goBack_85 rfl ⟨rfl, rfl⟩

abbrev nC0 (F : zFt) (x y : Int32) : zFt := zup (zup (zup (zup (zup F 89 (zn (F 75 19)) x) 90 (zn (F 75 19)) (F 97 (zn (F 75 28 - 1)))) 91 (zn (F 75 19)) (F 98 (zn (F 75 28 - 1)))) 92 (zn (F 75 19)) y) 93 (zn (F 75 19)) 1
def nCm (F : zFt) (x y : Int32) : zFt := zup (nCo (nC0 F x y) (zn (F 75 19))) 75 19 (F 75 19 + 1)

set_option maxRecDepth 100000 in
theorem tX8_comes {L : Nat} (F : zFt) (x : Int32) (y : Int32) (hv : vp_in (F 75 19) 400) (hi : vp_in (F 75 28 - 1) 8) (ho : okN (nC0 F x y) (zn (F 75 19))) : zFn mX8_comes 1 [.ref 75, .int x, .int y] L F none (nCm F x y) := by
  refine e_of (lo := [some (.ref 75), some (.int x), some (.int y)]) (by decide +kernel) (Nat.le_of_ble_eq_true rfl) rfl ?_
  refine z_aload iX8_comes_0 rfl ?_
  refine e_getR iX8_comes_1 fX8_50 rfl ?_
  refine z_aload iX8_comes_4 rfl ?_
  refine e_getI iX8_comes_5 fX8_144 rfl ?_
  refine z_iload iX8_comes_8 rfl ?_
  refine e_iast iX8_comes_9 rfl (by assumption) ?_
  refine z_aload iX8_comes_10 rfl ?_
  refine e_getR iX8_comes_11 fX8_53 rfl ?_
  try simp only [zup_ap, Nat.add_left_cancel_iff, Nat.reduceEqDiff, false_and, true_and, and_self, eq_self, ↓reduceIte]
  refine z_aload iX8_comes_14 rfl ?_
  refine e_getI iX8_comes_15 fX8_144 rfl ?_
  try simp only [zup_ap, Nat.add_left_cancel_iff, Nat.reduceEqDiff, false_and, true_and, and_self, eq_self, ↓reduceIte]
  refine z_aload iX8_comes_18 rfl ?_
  refine e_getR iX8_comes_19 fX8_74 rfl ?_
  try simp only [zup_ap, Nat.add_left_cancel_iff, Nat.reduceEqDiff, false_and, true_and, and_self, eq_self, ↓reduceIte]
  refine z_aload iX8_comes_22 rfl ?_
  refine e_getI iX8_comes_23 fX8_116 rfl ?_
  try simp only [zup_ap, Nat.add_left_cancel_iff, Nat.reduceEqDiff, false_and, true_and, and_self, eq_self, ↓reduceIte]
  refine z_push iX8_comes_26 ?_
  refine z_isub iX8_comes_27 ?_
  refine e_iald iX8_comes_28 rfl (by assumption) ?_
  try simp only [zup_ap, Nat.add_left_cancel_iff, Nat.reduceEqDiff, false_and, true_and, and_self, eq_self, ↓reduceIte]
  refine e_iast iX8_comes_29 rfl (by assumption) ?_
  refine z_aload iX8_comes_30 rfl ?_
  refine e_getR iX8_comes_31 fX8_56 rfl ?_
  try simp only [zup_ap, Nat.add_left_cancel_iff, Nat.reduceEqDiff, false_and, true_and, and_self, eq_self, ↓reduceIte]
  refine z_aload iX8_comes_34 rfl ?_
  refine e_getI iX8_comes_35 fX8_144 rfl ?_
  try simp only [zup_ap, Nat.add_left_cancel_iff, Nat.reduceEqDiff, false_and, true_and, and_self, eq_self, ↓reduceIte]
  refine z_aload iX8_comes_38 rfl ?_
  refine e_getR iX8_comes_39 fX8_77 rfl ?_
  try simp only [zup_ap, Nat.add_left_cancel_iff, Nat.reduceEqDiff, false_and, true_and, and_self, eq_self, ↓reduceIte]
  refine z_aload iX8_comes_42 rfl ?_
  refine e_getI iX8_comes_43 fX8_116 rfl ?_
  try simp only [zup_ap, Nat.add_left_cancel_iff, Nat.reduceEqDiff, false_and, true_and, and_self, eq_self, ↓reduceIte]
  refine z_push iX8_comes_46 ?_
  refine z_isub iX8_comes_47 ?_
  refine e_iald iX8_comes_48 rfl (by assumption) ?_
  try simp only [zup_ap, Nat.add_left_cancel_iff, Nat.reduceEqDiff, false_and, true_and, and_self, eq_self, ↓reduceIte]
  refine e_iast iX8_comes_49 rfl (by assumption) ?_
  refine z_aload iX8_comes_50 rfl ?_
  refine e_getR iX8_comes_51 fX8_59 rfl ?_
  try simp only [zup_ap, Nat.add_left_cancel_iff, Nat.reduceEqDiff, false_and, true_and, and_self, eq_self, ↓reduceIte]
  refine z_aload iX8_comes_54 rfl ?_
  refine e_getI iX8_comes_55 fX8_144 rfl ?_
  try simp only [zup_ap, Nat.add_left_cancel_iff, Nat.reduceEqDiff, false_and, true_and, and_self, eq_self, ↓reduceIte]
  refine z_iload iX8_comes_58 rfl ?_
  refine e_iast iX8_comes_59 rfl (by assumption) ?_
  refine z_aload iX8_comes_60 rfl ?_
  refine e_getR iX8_comes_61 fX8_62 rfl ?_
  try simp only [zup_ap, Nat.add_left_cancel_iff, Nat.reduceEqDiff, false_and, true_and, and_self, eq_self, ↓reduceIte]
  refine z_aload iX8_comes_64 rfl ?_
  refine e_getI iX8_comes_65 fX8_144 rfl ?_
  try simp only [zup_ap, Nat.add_left_cancel_iff, Nat.reduceEqDiff, false_and, true_and, and_self, eq_self, ↓reduceIte]
  refine z_push iX8_comes_68 ?_
  refine e_bast iX8_comes_69 rfl (by assumption) (by first | exact Or.inl rfl | exact Or.inr rfl | assumption) ?_
  refine z_aload iX8_comes_70 rfl ?_
  refine z_aload iX8_comes_71 rfl ?_
  refine e_getI iX8_comes_72 fX8_144 rfl ?_
  try simp only [zup_ap, Nat.add_left_cancel_iff, Nat.reduceEqDiff, false_and, true_and, and_self, eq_self, ↓reduceIte]
  refine e_callV iX8_comes_75 kX8_147 (tX8_counted (nC0 F x y) (F 75 19) hv ho) rfl rfl rfl ⟨Nat.le_of_ble_eq_true rfl, Nat.le_of_ble_eq_true rfl⟩ ⟨Nat.le_of_ble_eq_true rfl, Nat.le_of_ble_eq_true rfl⟩ (Nat.le_of_ble_eq_true rfl) ?_
  dsimp only [Option.toList, List.cons_append, List.nil_append]
  try simp only [zup_ap, Nat.add_left_cancel_iff, Nat.reduceEqDiff, false_and, true_and, and_self, eq_self, ↓reduceIte]
  refine z_aload iX8_comes_78 rfl ?_
  refine z_dup iX8_comes_79 rfl ?_
  refine e_getI iX8_comes_80 fX8_144 rfl ?_
  try simp only [zup_ap, Nat.add_left_cancel_iff, Nat.reduceEqDiff, false_and, true_and, and_self, eq_self, ↓reduceIte]
  rw [nCo_ne _ _ (by decide) (by decide) (by decide)]
  refine z_push iX8_comes_83 ?_
  refine z_iadd iX8_comes_84 ?_
  refine e_putI iX8_comes_85 fX8_144 fw8_19 rfl ?_
  exact e_vret iX8_comes_88 rfl ⟨rfl, rfl⟩

set_option maxRecDepth 100000 in
theorem tX8_markOf {L : Nat} (F : zFt) (e : Int32) (j : Int32) (he : vp_in e 60) (hc : vp_in (F 83 (zn e)) 12) (hm : vp_in (nMj F e j) 300) : zFn mX8_markOf 0 [.ref 75, .int e, .int j] L F (some (.int (F 94 (zn (nMj F e j))))) F := by
  refine e_of (lo := [some (.ref 75), some (.int e), some (.int j)]) (by decide +kernel) (Nat.le_of_ble_eq_true rfl) rfl ?_
  refine z_aload iX8_markOf_0 rfl ?_
  refine e_getR iX8_markOf_1 fX8_65 rfl ?_
  refine z_push iX8_markOf_4 ?_
  refine z_iload iX8_markOf_5 rfl ?_
  refine z_imul iX8_markOf_6 ?_
  refine z_iload iX8_markOf_7 rfl ?_
  refine z_iadd iX8_markOf_8 ?_
  refine z_aload iX8_markOf_9 rfl ?_
  refine e_getR iX8_markOf_10 fX8_13 rfl ?_
  refine z_aload iX8_markOf_13 rfl ?_
  refine e_getR iX8_markOf_14 fX8_32 rfl ?_
  refine z_iload iX8_markOf_17 rfl ?_
  refine e_iald iX8_markOf_18 rfl (by assumption) ?_
  refine e_iald iX8_markOf_19 rfl (by assumption) ?_
  refine z_isub iX8_markOf_20 ?_
  refine e_iald iX8_markOf_21 rfl (by assumption) ?_
  exact e_iret iX8_markOf_22 rfl ⟨rfl, rfl⟩

def qBegin (F : zFt) (j e : Int32) : Int32 × zFt := if zin j (F 75 7) = false then (-101, F) else if zin e (F 75 9) = false then (-101, F) else if F 82 (zn j) = F 83 (zn e) then (if F 80 (zn (F 83 (zn e))) = 0 then (if F 75 28 = 8 then (-104, F) else (F 75 28 + 1, zup (zup (zup (zup (zup (zup F 97 (zn (F 75 28)) j) 98 (zn (F 75 28)) e) 99 (zn (F 75 28)) (F 75 19)) 100 (zn (F 75 28)) 0) 103 (zn (F 75 28)) 0) 75 28 (F 75 28 + 1))) else (-103, F)) else (-102, F)

set_option maxRecDepth 100000 in
theorem tX8_begin {L : Nat} (F : zFt) (j : Int32) (e : Int32) (hj : 0 ≤ (F 75 7).toInt ∧ zn (F 75 7) ≤ 60) (he : vp_in (F 75 9) 61) (hc : ∀ x, x < zn (F 75 9) → vp_in (F 83 x) 12) (hst : vp_in (F 75 28) 9) : zFn mX8_begin 2 [.ref 75, .int j, .int e] L F (some (.int (qBegin F j e).1)) (qBegin F j e).2 := by
  refine e_of (lo := [some (.ref 75), some (.int j), some (.int e)]) (by decide +kernel) (Nat.le_of_ble_eq_true rfl) rfl ?_
  refine z_aload iX8_begin_0 rfl ?_
  refine z_iload iX8_begin_1 rfl ?_
  refine e_callV iX8_begin_2 kX8_151 (tX8_isJudge F j hj.1) rfl rfl rfl ⟨Nat.le_of_ble_eq_true rfl, Nat.le_of_ble_eq_true rfl⟩ ⟨Nat.le_of_ble_eq_true rfl, Nat.le_of_ble_eq_true rfl⟩ (Nat.le_of_ble_eq_true rfl) ?_
  dsimp only [Option.toList, List.cons_append, List.nil_append]
  refine z_if_eq iX8_begin_5 (fun c5 => ?_) (fun c5 => ?_)
  · rw [zb_0] at c5
    refine z_push iX8_begin_16 ?_
    exact e_iret iX8_begin_18 rfl ⟨by simp [qBegin, c5], by simp [qBegin, c5]⟩
  · rw [zb_n] at c5
    refine z_aload iX8_begin_8 rfl ?_
    refine z_iload iX8_begin_9 rfl ?_
    refine e_callV iX8_begin_10 kX8_154 (tX8_isEntry F e (vin_0 he)) rfl rfl rfl ⟨Nat.le_of_ble_eq_true rfl, Nat.le_of_ble_eq_true rfl⟩ ⟨Nat.le_of_ble_eq_true rfl, Nat.le_of_ble_eq_true rfl⟩ (Nat.le_of_ble_eq_true rfl) ?_
    dsimp only [Option.toList, List.cons_append, List.nil_append]
    refine z_if_ne iX8_begin_13 (fun c13 => ?_) (fun c13 => ?_)
    · rw [zb_n] at c13
      refine z_aload iX8_begin_19 rfl ?_
      refine e_getR iX8_begin_20 fX8_29 rfl ?_
      refine z_iload iX8_begin_23 rfl ?_
      refine e_iald iX8_begin_24 rfl (vin_le (zin_v c5) hj.2) ?_
      refine z_aload iX8_begin_25 rfl ?_
      refine e_getR iX8_begin_26 fX8_32 rfl ?_
      refine z_iload iX8_begin_29 rfl ?_
      refine e_iald iX8_begin_30 rfl (vin_le (zin_v c13) (vin_le1 he)) ?_
      refine z_icmp_eq iX8_begin_31 (fun c31 => ?_) (fun c31 => ?_)
      · refine z_aload iX8_begin_37 rfl ?_
        refine e_getR iX8_begin_38 fX8_22 rfl ?_
        refine z_aload iX8_begin_41 rfl ?_
        refine e_getR iX8_begin_42 fX8_32 rfl ?_
        refine z_iload iX8_begin_45 rfl ?_
        refine e_iald iX8_begin_46 rfl (vin_le (zin_v c13) (vin_le1 he)) ?_
        refine e_bald iX8_begin_47 rfl (hc _ (vin_zn (zin_v c13))) ?_
        refine z_if_eq iX8_begin_48 (fun c48 => ?_) (fun c48 => ?_)
        · refine z_aload iX8_begin_54 rfl ?_
          refine e_getI iX8_begin_55 fX8_116 rfl ?_
          refine z_push iX8_begin_58 ?_
          refine z_icmp_ne iX8_begin_60 (fun c60 => ?_) (fun c60 => ?_)
          · refine z_aload iX8_begin_66 rfl ?_
            refine e_getR iX8_begin_67 fX8_74 rfl ?_
            refine z_aload iX8_begin_70 rfl ?_
            refine e_getI iX8_begin_71 fX8_116 rfl ?_
            refine z_iload iX8_begin_74 rfl ?_
            refine e_iast iX8_begin_75 rfl (ne_vin hst c60 (by decide)) ?_
            refine z_aload iX8_begin_76 rfl ?_
            refine e_getR iX8_begin_77 fX8_77 rfl ?_
            try simp only [zup_ap, Nat.add_left_cancel_iff, Nat.reduceEqDiff, false_and, true_and, and_self, eq_self, ↓reduceIte]
            refine z_aload iX8_begin_80 rfl ?_
            refine e_getI iX8_begin_81 fX8_116 rfl ?_
            try simp only [zup_ap, Nat.add_left_cancel_iff, Nat.reduceEqDiff, false_and, true_and, and_self, eq_self, ↓reduceIte]
            refine z_iload iX8_begin_84 rfl ?_
            refine e_iast iX8_begin_85 rfl (ne_vin hst c60 (by decide)) ?_
            refine z_aload iX8_begin_86 rfl ?_
            refine e_getR iX8_begin_87 fX8_80 rfl ?_
            try simp only [zup_ap, Nat.add_left_cancel_iff, Nat.reduceEqDiff, false_and, true_and, and_self, eq_self, ↓reduceIte]
            refine z_aload iX8_begin_90 rfl ?_
            refine e_getI iX8_begin_91 fX8_116 rfl ?_
            try simp only [zup_ap, Nat.add_left_cancel_iff, Nat.reduceEqDiff, false_and, true_and, and_self, eq_self, ↓reduceIte]
            refine z_aload iX8_begin_94 rfl ?_
            refine e_getI iX8_begin_95 fX8_144 rfl ?_
            try simp only [zup_ap, Nat.add_left_cancel_iff, Nat.reduceEqDiff, false_and, true_and, and_self, eq_self, ↓reduceIte]
            refine e_iast iX8_begin_98 rfl (ne_vin hst c60 (by decide)) ?_
            refine z_aload iX8_begin_99 rfl ?_
            refine e_getR iX8_begin_100 fX8_83 rfl ?_
            try simp only [zup_ap, Nat.add_left_cancel_iff, Nat.reduceEqDiff, false_and, true_and, and_self, eq_self, ↓reduceIte]
            refine z_aload iX8_begin_103 rfl ?_
            refine e_getI iX8_begin_104 fX8_116 rfl ?_
            try simp only [zup_ap, Nat.add_left_cancel_iff, Nat.reduceEqDiff, false_and, true_and, and_self, eq_self, ↓reduceIte]
            refine z_push iX8_begin_107 ?_
            refine e_iast iX8_begin_108 rfl (ne_vin hst c60 (by decide)) ?_
            refine z_aload iX8_begin_109 rfl ?_
            refine e_getR iX8_begin_110 fX8_92 rfl ?_
            try simp only [zup_ap, Nat.add_left_cancel_iff, Nat.reduceEqDiff, false_and, true_and, and_self, eq_self, ↓reduceIte]
            refine z_aload iX8_begin_113 rfl ?_
            refine e_getI iX8_begin_114 fX8_116 rfl ?_
            try simp only [zup_ap, Nat.add_left_cancel_iff, Nat.reduceEqDiff, false_and, true_and, and_self, eq_self, ↓reduceIte]
            refine z_push iX8_begin_117 ?_
            refine e_iast iX8_begin_118 rfl (ne_vin hst c60 (by decide)) ?_
            refine z_aload iX8_begin_119 rfl ?_
            refine z_dup iX8_begin_120 rfl ?_
            refine e_getI iX8_begin_121 fX8_116 rfl ?_
            try simp only [zup_ap, Nat.add_left_cancel_iff, Nat.reduceEqDiff, false_and, true_and, and_self, eq_self, ↓reduceIte]
            refine z_push iX8_begin_124 ?_
            refine z_iadd iX8_begin_125 ?_
            refine e_putI iX8_begin_126 fX8_116 fw8_28 rfl ?_
            refine z_aload iX8_begin_129 rfl ?_
            refine e_getI iX8_begin_130 fX8_116 rfl ?_
            try simp only [zup_ap, Nat.add_left_cancel_iff, Nat.reduceEqDiff, false_and, true_and, and_self, eq_self, ↓reduceIte]
            exact e_iret iX8_begin_133 rfl ⟨by simp [qBegin, c5, c13, c31, c48, c60], by simp [qBegin, c5, c13, c31, c48, c60]⟩
          · refine z_push iX8_begin_63 ?_
            exact e_iret iX8_begin_65 rfl ⟨by simp [qBegin, c5, c13, c31, c48, c60], by simp [qBegin, c5, c13, c31, c48, c60]⟩
        · refine z_push iX8_begin_51 ?_
          exact e_iret iX8_begin_53 rfl ⟨by simp [qBegin, c5, c13, c31, c48], by simp [qBegin, c5, c13, c31, c48]⟩
      · refine z_push iX8_begin_34 ?_
        exact e_iret iX8_begin_36 rfl ⟨by simp [qBegin, c5, c13, c31], by simp [qBegin, c5, c13, c31]⟩
    · rw [zb_0] at c13
      refine z_push iX8_begin_16 ?_
      exact e_iret iX8_begin_18 rfl ⟨by simp [qBegin, c5, c13], by simp [qBegin, c5, c13]⟩
