def nNa (F : zFt) (x : Int32) : Int32 := if F 75 28 = 0 then -1 else nPl F (zn (F 75 28 - 1)) x (zn (F 100 (zn (F 75 28 - 1))))
theorem nNa_st {F : zFt} {x : Int32} (h : ¬ nNa F x = -1) : ¬ F 75 28 = 0 := fun z => h (by rw [nNa, if_pos z])
abbrev nBk (F : zFt) (x : Int32) : zFt := nGo (zup F 100 (zn (F 75 28 - 1)) (nNa F x + 1)) (F 102 (zn (16 * (F 75 28 - 1) + nNa F x)))
def qBack (F : zFt) (x : Int32) : Int32 × zFt := if zi3 x 0 15 = false then (-102, F) else if nNa F x = -1 then (-103, F) else (nNa F x + 1, nBk F x)
def qRelease (F : zFt) (x : Int32) : Int32 × zFt := if zi3 x 0 15 = false then (-102, F) else if nNa F x = -1 then (-103, F) else (nNa F x, zup F 100 (zn (F 75 28 - 1)) (nNa F x))
theorem nNa_in {F : zFt} {p m : Nat} (h : NI F (p + 1) m) (x : Int32) : nNa F x = -1 ∨ ∃ j, j < zn (F 100 p) ∧ nNa F x = nI j := by
  have hat := NI_at h
  rw [nNa]
  split
  · exact Or.inl rfl
  · rw [hat.2.1]
    exact nPl_in F p x _ hat.2.2.1.2.1.2

set_option maxRecDepth 100000 in
theorem tX8_back {L : Nat} (F : zFt) (x : Int32) (n : Nat) (hF : NI F n 400) : zFn mX8_back 2 [.ref 75, .int x] L F (some (.int (qBack F x).1)) (qBack F x).2 := by
  refine e_of (lo := [some (.ref 75), some (.int x), none, none]) (by decide +kernel) (Nat.le_of_ble_eq_true rfl) rfl ?_
  have tail : ∀ u : Int32, u = nNa F x → zi3 x 0 15 = true → zEV mX8_back (zrm 2 0 0) (zZf L (some (.int (qBack F x).1)) (qBack F x).2) 29 [some (.ref 75), some (.int x), none, none] [.int u] 111 (zE L F) 0 0 := by
    intro u hu c7
    subst hu
    refine z_istore iX8_back_29 rfl ?_
    dsimp only [List.set_cons_zero, List.set_cons_succ]
    refine z_iload iX8_back_30 rfl ?_
    refine z_push iX8_back_31 ?_
    refine z_icmp_ne iX8_back_32 (fun c32 => ?_) (fun c32 => ?_)
    · obtain ⟨p, rfl⟩ := NI_st hF (nNa_st c32)
      have hat := NI_at hF
      have hp8 : p < 8 := by have := hF.2.1; omega
      have ez : zn (nI p) = p := zn_nI (by omega)
      have hy := hat.2.2.1
      obtain ⟨j, hj, ej⟩ := (nNa_in hF x).resolve_left c32
      have h16 := hy.2.1.2
      have ix : 16 * (F 75 28 - 1) + nNa F x = nI (p * 16 + j) := by rw [hat.1, ej, nI_16m, nI_add]
      have ez2 : zn (nI (p * 16 + j)) = p * 16 + j := zn_nI (by omega)
      have hm := hy.2.2.2.2 j hj
      have h400 := hF.2.2.1.2.1
      refine z_aload iX8_back_38 rfl ?_
      refine e_getI iX8_back_39 fX8_116 rfl ?_
      refine z_push iX8_back_42 ?_
      refine z_isub iX8_back_43 ?_
      refine z_istore iX8_back_44 rfl ?_
      dsimp only [List.set_cons_zero, List.set_cons_succ]
      refine z_aload iX8_back_45 rfl ?_
      refine e_getR iX8_back_46 fX8_83 rfl ?_
      refine z_iload iX8_back_49 rfl ?_
      refine z_iload iX8_back_50 rfl ?_
      refine z_push iX8_back_51 ?_
      refine z_iadd iX8_back_52 ?_
      refine e_iast iX8_back_53 rfl (by rw [hat.1]; exact vin_mk (n := 8) (by omega)) ?_
      refine z_aload iX8_back_54 rfl ?_
      refine z_aload iX8_back_55 rfl ?_
      refine e_getR iX8_back_56 fX8_89 rfl ?_
      refine z_push iX8_back_59 ?_
      refine z_iload iX8_back_61 rfl ?_
      refine z_imul iX8_back_62 ?_
      refine z_iload iX8_back_63 rfl ?_
      refine z_iadd iX8_back_64 ?_
      refine e_iald iX8_back_65 rfl (by rw [ix]; exact vin_mk (n := 128) (by omega)) ?_
      rw [show zup F 100 (zn (F 75 28 - 1)) (nNa F x + 1) 102 (zn (16 * (F 75 28 - 1) + nNa F x)) = F 102 (zn (16 * (F 75 28 - 1) + nNa F x)) from rfl]
      refine e_callV iX8_back_66 kX8_188 (tX8_goBack (zup F 100 (zn (F 75 28 - 1)) (nNa F x + 1)) (F 102 (zn (16 * (F 75 28 - 1) + nNa F x))) (by rw [ix, ez2]; exact hm.1) (by rw [ix, ez2]; have := hm.2; omega) (fun i hi => okN_eq (hF.2.2.1.2.2 i (by rw [ix, ez2] at hi; have := hm.2; omega)) (fun a b hab => by rw [zup_ap, if_neg (by omega)]))) rfl rfl rfl ⟨Nat.le_of_ble_eq_true rfl, Nat.le_of_ble_eq_true rfl⟩ ⟨Nat.le_of_ble_eq_true rfl, Nat.le_of_ble_eq_true rfl⟩ (Nat.le_of_ble_eq_true rfl) ?_
      dsimp only [Option.toList, List.cons_append, List.nil_append]
      refine z_aload iX8_back_69 rfl ?_
      refine e_getR iX8_back_70 fX8_83 rfl ?_
      refine z_iload iX8_back_73 rfl ?_
      refine e_iald iX8_back_74 rfl (by rw [hat.1]; exact vin_mk (n := 8) (by omega)) ?_
      rw [show nGo (zup F 100 (zn (F 75 28 - 1)) (nNa F x + 1)) (F 102 (zn (16 * (F 75 28 - 1) + nNa F x))) 100 (zn (F 75 28 - 1)) = nNa F x + 1 by rw [nGo_ne _ _ (by decide) (by decide) (by decide) _ (by omega), zup_ap, if_pos ⟨rfl, rfl⟩]]
      exact e_iret iX8_back_75 rfl ⟨by simp [qBack, c7, c32], by simp [qBack, c7, c32]⟩
    · refine z_push iX8_back_35 ?_
      exact e_iret iX8_back_37 rfl ⟨by simp [qBack, c7, c32], by simp [qBack, c7, c32]⟩
  refine z_iload iX8_back_0 rfl ?_
  refine z_push iX8_back_1 ?_
  refine z_push iX8_back_2 ?_
  refine e_callS iX8_back_4 kX8_123 (tX8_in F _ _ _) rfl rfl ⟨Nat.le_of_ble_eq_true rfl, Nat.le_of_ble_eq_true rfl⟩ ⟨Nat.le_of_ble_eq_true rfl, Nat.le_of_ble_eq_true rfl⟩ (Nat.le_of_ble_eq_true rfl) ?_
  dsimp only [Option.toList, List.cons_append, List.nil_append]
  refine z_if_ne iX8_back_7 (fun c7 => ?_) (fun c7 => ?_)
  · rw [zb_n] at c7
    refine z_aload iX8_back_13 rfl ?_
    refine e_getI iX8_back_14 fX8_116 rfl ?_
    refine z_if_ne iX8_back_17 (fun c17 => ?_) (fun c17 => ?_)
    · obtain ⟨p, rfl⟩ := NI_st hF c17
      have hat := NI_at hF
      have hb8 : zn (F 75 28 - 1) < 8 := by rw [hat.2.1]; have := hF.2.1; omega
      have hst : F 75 28 = nI (zn (F 75 28 - 1) + 1) := by rw [hat.2.1]; exact hF.1
      have hkk : 0 ≤ (F 100 (zn (F 75 28 - 1))).toInt ∧ zn (F 100 (zn (F 75 28 - 1))) ≤ 16 := by rw [hat.2.1]; exact hat.2.2.1.2.1
      refine z_aload iX8_back_24 rfl ?_
      refine z_iload iX8_back_25 rfl ?_
      refine e_callV iX8_back_26 kX8_185 (tX8_placeOf F x (zn (F 75 28 - 1)) hb8 hst hkk) rfl rfl rfl ⟨Nat.le_of_ble_eq_true rfl, Nat.le_of_ble_eq_true rfl⟩ ⟨Nat.le_of_ble_eq_true rfl, Nat.le_of_ble_eq_true rfl⟩ (Nat.le_of_ble_eq_true rfl) ?_
      dsimp only [Option.toList, List.cons_append, List.nil_append]
      exact tail _ (by rw [nNa, if_neg c17]) c7
    · refine z_push iX8_back_20 ?_
      refine z_goto iX8_back_21 ?_
      exact tail _ (by rw [nNa, if_pos c17]) c7
  · rw [zb_0] at c7
    refine z_push iX8_back_10 ?_
    exact e_iret iX8_back_12 rfl ⟨by simp [qBack, c7], by simp [qBack, c7]⟩

set_option maxRecDepth 100000 in
theorem tX8_release {L : Nat} (F : zFt) (x : Int32) (n : Nat) (hF : NI F n 400) : zFn mX8_release 2 [.ref 75, .int x] L F (some (.int (qRelease F x).1)) (qRelease F x).2 := by
  refine e_of (lo := [some (.ref 75), some (.int x), none]) (by decide +kernel) (Nat.le_of_ble_eq_true rfl) rfl ?_
  have tail : ∀ u : Int32, u = nNa F x → zi3 x 0 15 = true → zEV mX8_release (zrm 2 0 0) (zZf L (some (.int (qRelease F x).1)) (qRelease F x).2) 29 [some (.ref 75), some (.int x), none] [.int u] 111 (zE L F) 0 0 := by
    intro u hu c7
    subst hu
    refine z_istore iX8_release_29 rfl ?_
    dsimp only [List.set_cons_zero, List.set_cons_succ]
    refine z_iload iX8_release_30 rfl ?_
    refine z_push iX8_release_31 ?_
    refine z_icmp_ne iX8_release_32 (fun c32 => ?_) (fun c32 => ?_)
    · obtain ⟨p, rfl⟩ := NI_st hF (nNa_st c32)
      have hat := NI_at hF
      have hp8 : p < 8 := by have := hF.2.1; omega
      have ez : zn (nI p) = p := zn_nI (by omega)
      have hy := hat.2.2.1
      refine z_aload iX8_release_38 rfl ?_
      refine e_getR iX8_release_39 fX8_83 rfl ?_
      refine z_aload iX8_release_42 rfl ?_
      refine e_getI iX8_release_43 fX8_116 rfl ?_
      refine z_push iX8_release_46 ?_
      refine z_isub iX8_release_47 ?_
      refine z_iload iX8_release_48 rfl ?_
      refine e_iast iX8_release_49 rfl (by rw [hat.1]; exact vin_mk (n := 8) (by omega)) ?_
      refine z_iload iX8_release_50 rfl ?_
      exact e_iret iX8_release_51 rfl ⟨by simp [qRelease, c7, c32], by simp [qRelease, c7, c32]⟩
    · refine z_push iX8_release_35 ?_
      exact e_iret iX8_release_37 rfl ⟨by simp [qRelease, c7, c32], by simp [qRelease, c7, c32]⟩
  refine z_iload iX8_release_0 rfl ?_
  refine z_push iX8_release_1 ?_
  refine z_push iX8_release_2 ?_
  refine e_callS iX8_release_4 kX8_123 (tX8_in F _ _ _) rfl rfl ⟨Nat.le_of_ble_eq_true rfl, Nat.le_of_ble_eq_true rfl⟩ ⟨Nat.le_of_ble_eq_true rfl, Nat.le_of_ble_eq_true rfl⟩ (Nat.le_of_ble_eq_true rfl) ?_
  dsimp only [Option.toList, List.cons_append, List.nil_append]
  refine z_if_ne iX8_release_7 (fun c7 => ?_) (fun c7 => ?_)
  · rw [zb_n] at c7
    refine z_aload iX8_release_13 rfl ?_
    refine e_getI iX8_release_14 fX8_116 rfl ?_
    refine z_if_ne iX8_release_17 (fun c17 => ?_) (fun c17 => ?_)
    · obtain ⟨p, rfl⟩ := NI_st hF c17
      have hat := NI_at hF
      have hb8 : zn (F 75 28 - 1) < 8 := by rw [hat.2.1]; have := hF.2.1; omega
      have hst : F 75 28 = nI (zn (F 75 28 - 1) + 1) := by rw [hat.2.1]; exact hF.1
      have hkk : 0 ≤ (F 100 (zn (F 75 28 - 1))).toInt ∧ zn (F 100 (zn (F 75 28 - 1))) ≤ 16 := by rw [hat.2.1]; exact hat.2.2.1.2.1
      refine z_aload iX8_release_24 rfl ?_
      refine z_iload iX8_release_25 rfl ?_
      refine e_callV iX8_release_26 kX8_185 (tX8_placeOf F x (zn (F 75 28 - 1)) hb8 hst hkk) rfl rfl rfl ⟨Nat.le_of_ble_eq_true rfl, Nat.le_of_ble_eq_true rfl⟩ ⟨Nat.le_of_ble_eq_true rfl, Nat.le_of_ble_eq_true rfl⟩ (Nat.le_of_ble_eq_true rfl) ?_
      dsimp only [Option.toList, List.cons_append, List.nil_append]
      exact tail _ (by rw [nNa, if_neg c17]) c7
    · refine z_push iX8_release_20 ?_
      refine z_goto iX8_release_21 ?_
      exact tail _ (by rw [nNa, if_pos c17]) c7
  · rw [zb_0] at c7
    refine z_push iX8_release_10 ?_
    exact e_iret iX8_release_12 rfl ⟨by simp [qRelease, c7], by simp [qRelease, c7]⟩

abbrev nS1 (F : zFt) : Int32 := F 75 28 - 1
abbrev nGd (F : zFt) (x y : Int32) : zFt := zup (zup (zup F 104 (zn (8 * nS1 F + F 103 (zn (nS1 F)))) x) 105 (zn (8 * nS1 F + F 103 (zn (nS1 F)))) y) 103 (zn (nS1 F)) (F 103 (zn (nS1 F)) + 1)
def qGuard (F : zFt) (x y : Int32) : Int32 × zFt := if zi3 x 0 11 = false then (-102, F) else if zi3 y 0 15 = false then (-102, F) else if F 75 28 = 0 then (-103, F) else if F 103 (zn (nS1 F)) = 8 then (-104, F) else (F 103 (zn (nS1 F)) + 1, nGd F x y)

theorem i64 {F : zFt} {p m : Nat} (hF : NI F (p + 1) m) (h : ¬ F 103 (zn (nS1 F)) = 8) : vp_in (8 * nS1 F + F 103 (zn (nS1 F))) 64 := by
  have hat := NI_at hF
  have hy := hat.2.2.1
  have hp := hF.2.1
  have hg := ne_vin (n := 8) (x := F 103 (zn (nS1 F))) (by
    rw [show zn (nS1 F) = p from hat.2.1, vin]
    have a := hy.2.2.1.1
    have b := hy.2.2.1.2
    have c := zn_int a
    omega) h (by decide)
  obtain ⟨j, hj, ej⟩ := vin_of hg
  rw [ej, show nS1 F = nI p from hat.1, nI_8m, nI_add]
  exact vin_mk (by omega)

set_option maxRecDepth 100000 in
theorem tX8_guard {L : Nat} (F : zFt) (x : Int32) (y : Int32) (n : Nat) (hF : NI F n 400) : zFn mX8_guard 1 [.ref 75, .int x, .int y] L F (some (.int (qGuard F x y).1)) (qGuard F x y).2 := by
  refine e_of (lo := [some (.ref 75), some (.int x), some (.int y), none]) (by decide +kernel) (Nat.le_of_ble_eq_true rfl) rfl ?_
  refine z_iload iX8_guard_0 rfl ?_
  refine z_push iX8_guard_1 ?_
  refine z_push iX8_guard_2 ?_
  refine e_callS iX8_guard_4 kX8_123 (tX8_in F _ _ _) rfl rfl ⟨Nat.le_of_ble_eq_true rfl, Nat.le_of_ble_eq_true rfl⟩ ⟨Nat.le_of_ble_eq_true rfl, Nat.le_of_ble_eq_true rfl⟩ (Nat.le_of_ble_eq_true rfl) ?_
  dsimp only [Option.toList, List.cons_append, List.nil_append]
  refine z_if_eq iX8_guard_7 (fun c7 => ?_) (fun c7 => ?_)
  · rw [zb_0] at c7
    refine z_push iX8_guard_20 ?_
    exact e_iret iX8_guard_22 rfl ⟨by simp [qGuard, c7], by simp [qGuard, c7]⟩
  · rw [zb_n] at c7
    refine z_iload iX8_guard_10 rfl ?_
    refine z_push iX8_guard_11 ?_
    refine z_push iX8_guard_12 ?_
    refine e_callS iX8_guard_14 kX8_123 (tX8_in F _ _ _) rfl rfl ⟨Nat.le_of_ble_eq_true rfl, Nat.le_of_ble_eq_true rfl⟩ ⟨Nat.le_of_ble_eq_true rfl, Nat.le_of_ble_eq_true rfl⟩ (Nat.le_of_ble_eq_true rfl) ?_
    dsimp only [Option.toList, List.cons_append, List.nil_append]
    refine z_if_ne iX8_guard_17 (fun c17 => ?_) (fun c17 => ?_)
    · rw [zb_n] at c17
      refine z_aload iX8_guard_23 rfl ?_
      refine e_getI iX8_guard_24 fX8_116 rfl ?_
      refine z_if_ne iX8_guard_27 (fun c27 => ?_) (fun c27 => ?_)
      · obtain ⟨p, rfl⟩ := NI_st hF c27
        have hat := NI_at hF
        have hp8 : p < 8 := by have := hF.2.1; omega
        have ez : zn (nI p) = p := zn_nI (by omega)
        have hy := hat.2.2.1
        refine z_aload iX8_guard_33 rfl ?_
        refine e_getI iX8_guard_34 fX8_116 rfl ?_
        refine z_push iX8_guard_37 ?_
        refine z_isub iX8_guard_38 ?_
        refine z_istore iX8_guard_39 rfl ?_
        dsimp only [List.set_cons_zero, List.set_cons_succ]
        refine z_aload iX8_guard_40 rfl ?_
        refine e_getR iX8_guard_41 fX8_92 rfl ?_
        refine z_iload iX8_guard_44 rfl ?_
        refine e_iald iX8_guard_45 rfl (by rw [hat.1]; exact vin_mk (n := 8) (by omega)) ?_
        refine z_push iX8_guard_46 ?_
        refine z_icmp_ne iX8_guard_48 (fun c48 => ?_) (fun c48 => ?_)
        · refine z_aload iX8_guard_54 rfl ?_
          refine e_getR iX8_guard_55 fX8_95 rfl ?_
          refine z_push iX8_guard_58 ?_
          refine z_iload iX8_guard_60 rfl ?_
          refine z_imul iX8_guard_61 ?_
          refine z_aload iX8_guard_62 rfl ?_
          refine e_getR iX8_guard_63 fX8_92 rfl ?_
          refine z_iload iX8_guard_66 rfl ?_
          refine e_iald iX8_guard_67 rfl (by rw [hat.1]; exact vin_mk (n := 8) (by omega)) ?_
          refine z_iadd iX8_guard_68 ?_
          refine z_iload iX8_guard_69 rfl ?_
          refine e_iast iX8_guard_70 rfl (i64 hF c48) ?_
          refine z_aload iX8_guard_71 rfl ?_
          refine e_getR iX8_guard_72 fX8_98 rfl ?_
          try simp only [zup_ap, Nat.reduceEqDiff, false_and, true_and, and_self, eq_self, ↓reduceIte]
          refine z_push iX8_guard_75 ?_
          refine z_iload iX8_guard_77 rfl ?_
          refine z_imul iX8_guard_78 ?_
          refine z_aload iX8_guard_79 rfl ?_
          refine e_getR iX8_guard_80 fX8_92 rfl ?_
          try simp only [zup_ap, Nat.reduceEqDiff, false_and, true_and, and_self, eq_self, ↓reduceIte]
          refine z_iload iX8_guard_83 rfl ?_
          refine e_iald iX8_guard_84 rfl (by rw [hat.1]; exact vin_mk (n := 8) (by omega)) ?_
          try simp only [zup_ap, Nat.reduceEqDiff, false_and, true_and, and_self, eq_self, ↓reduceIte]
          refine z_iadd iX8_guard_85 ?_
          refine z_iload iX8_guard_86 rfl ?_
          refine e_iast iX8_guard_87 rfl (i64 hF c48) ?_
          refine z_aload iX8_guard_88 rfl ?_
          refine e_getR iX8_guard_89 fX8_92 rfl ?_
          try simp only [zup_ap, Nat.reduceEqDiff, false_and, true_and, and_self, eq_self, ↓reduceIte]
          refine z_iload iX8_guard_92 rfl ?_
          refine z_dup2 iX8_guard_93 rfl rfl ?_
          refine e_iald iX8_guard_94 rfl (by rw [hat.1]; exact vin_mk (n := 8) (by omega)) ?_
          try simp only [zup_ap, Nat.reduceEqDiff, false_and, true_and, and_self, eq_self, ↓reduceIte]
          refine z_push iX8_guard_95 ?_
          refine z_iadd iX8_guard_96 ?_
          refine e_iast iX8_guard_97 rfl (by rw [hat.1]; exact vin_mk (n := 8) (by omega)) ?_
          refine z_aload iX8_guard_98 rfl ?_
          refine e_getR iX8_guard_99 fX8_92 rfl ?_
          try simp only [zup_ap, Nat.reduceEqDiff, false_and, true_and, and_self, eq_self, ↓reduceIte]
          refine z_iload iX8_guard_102 rfl ?_
          refine e_iald iX8_guard_103 rfl (by rw [hat.1]; exact vin_mk (n := 8) (by omega)) ?_
          try simp only [zup_ap, Nat.reduceEqDiff, false_and, true_and, and_self, eq_self, ↓reduceIte]
          exact e_iret iX8_guard_104 rfl ⟨by simp [qGuard, c7, c17, c27, c48], by simp [qGuard, c7, c17, c27, c48]⟩
        · refine z_push iX8_guard_51 ?_
          exact e_iret iX8_guard_53 rfl ⟨by simp [qGuard, c7, c17, c27, c48], by simp [qGuard, c7, c17, c27, c48]⟩
      · refine z_push iX8_guard_30 ?_
        exact e_iret iX8_guard_32 rfl ⟨by simp [qGuard, c7, c17, c27], by simp [qGuard, c7, c17, c27]⟩
    · rw [zb_0] at c17
      refine z_push iX8_guard_20 ?_
      exact e_iret iX8_guard_22 rfl ⟨by simp [qGuard, c7, c17], by simp [qGuard, c7, c17]⟩

def qDrop (F : zFt) : Int32 × zFt := if F 75 28 = 0 then (-103, F) else (F 75 28 - 1, nDr F (zn (F 75 28 - 1)))

set_option maxRecDepth 100000 in
theorem tX8_drop {L : Nat} (F : zFt) (n : Nat) (hF : NI F n 400) : zFn mX8_drop 2 [.ref 75] L F (some (.int (qDrop F).1)) (qDrop F).2 := by
  refine e_of (lo := [some (.ref 75)]) (by decide +kernel) (Nat.le_of_ble_eq_true rfl) rfl ?_
  refine z_aload iX8_drop_0 rfl ?_
  refine e_getI iX8_drop_1 fX8_116 rfl ?_
  refine z_if_ne iX8_drop_4 (fun c4 => ?_) (fun c4 => ?_)
  · obtain ⟨p, rfl⟩ := NI_st hF c4
    have hat := NI_at hF
    have hp8 : p < 8 := by have := hF.2.1; omega
    have ez : zn (nI p) = p := zn_nI (by omega)
    have hy := hat.2.2.1
    refine z_aload iX8_drop_10 rfl ?_
    refine z_dup iX8_drop_11 rfl ?_
    refine e_getI iX8_drop_12 fX8_116 rfl ?_
    refine z_push iX8_drop_15 ?_
    refine z_isub iX8_drop_16 ?_
    rw [hat.1]
    refine e_putI iX8_drop_17 fX8_116 fw8_28 rfl ?_
    refine z_aload iX8_drop_20 rfl ?_
    refine z_aload iX8_drop_21 rfl ?_
    refine e_getR iX8_drop_22 fX8_80 rfl ?_
    refine z_aload iX8_drop_25 rfl ?_
    refine e_getI iX8_drop_26 fX8_116 rfl ?_
    rw [show zup F 75 28 (nI p) 75 28 = nI p from rfl]
    refine e_iald iX8_drop_29 rfl (vin_mk (n := 8) (by omega)) ?_
    rw [ez]
    rw [show zup F 75 28 (nI p) 99 p = F 99 p from rfl]
    refine e_callV iX8_drop_30 kX8_188 (tX8_goBack (zup F 75 28 (nI p)) (F 99 p) hy.2.2.2.1.1 (by have h1 := hy.2.2.2.1.2; have h2 := hF.2.2.1.2.1; omega) (fun i hi => okN_eq (hF.2.2.1.2.2 i (by have h1 := hy.2.2.2.1.2; omega)) (fun a b hab => by rw [zup_ap, if_neg (by omega)]))) rfl rfl rfl ⟨Nat.le_of_ble_eq_true rfl, Nat.le_of_ble_eq_true rfl⟩ ⟨Nat.le_of_ble_eq_true rfl, Nat.le_of_ble_eq_true rfl⟩ (Nat.le_of_ble_eq_true rfl) ?_
    dsimp only [Option.toList, List.cons_append, List.nil_append]
    refine z_aload iX8_drop_33 rfl ?_
    refine e_getI iX8_drop_34 fX8_116 rfl ?_
    rw [show nGo (zup F 75 28 (nI p)) (F 99 p) 75 28 = nI p by rw [nGo_ne _ _ (by decide) (by decide) (by decide) 28 (by decide), zup_ap, if_pos ⟨rfl, rfl⟩]]
    exact e_iret iX8_drop_37 rfl ⟨by simp [qDrop, c4, hat.1], by simp [qDrop, c4, hat.1, ez]⟩
  · refine z_push iX8_drop_7 ?_
    exact e_iret iX8_drop_9 rfl ⟨by simp [qDrop, c4], by simp [qDrop, c4]⟩

def qDepth (F : zFt) : Int32 × zFt := (F 75 28, F)

set_option maxRecDepth 100000 in
theorem tX8_depth {L : Nat} (F : zFt) : zFn mX8_depth 0 [.ref 75] L F (some (.int (qDepth F).1)) (qDepth F).2 := by
  refine e_of (lo := [some (.ref 75)]) (by decide +kernel) (Nat.le_of_ble_eq_true rfl) rfl ?_
  refine z_aload iX8_depth_0 rfl ?_
  refine e_getI iX8_depth_1 fX8_116 rfl ?_
  exact e_iret iX8_depth_4 rfl ⟨rfl, rfl⟩
