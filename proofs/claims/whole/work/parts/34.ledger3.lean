/-- the latest guard that catches -/
def cLx (F : zFt) (s : Nat) (c : Int32) : Nat → Option Nat
  | 0 => none
  | n + 1 => if zik (F (5 * s + 38) n) 3 c = false then cLx F s c n else some n
abbrev cCk (F : zFt) (s g : Nat) : Int32 := cIx F s (F (5 * s + 39) g)
abbrev cCm (F : zFt) (s g : Nat) : Int32 := if 0 ≤ cCk F s g then F (5 * s + 37) (zn (cCk F s g)) else F (5 * s + 35) 2
def cCa (F : zFt) (s g : Nat) : zFt := zup (cKt F (cCm F s g)) (5 * s + 35) 5 (cCk F s g + 1)
def cCf (F : zFt) (s : Nat) (x : Option Nat) : zFt := match x with
  | none => F
  | some g => cCa F s g
theorem cCm_ok {F : zFt} {s g : Nat} (hv : okV F) (ht : okT F s (zn (F 11 6))) : okM F (cCm F s g) := by
  simp only [cCm]
  split
  · rename_i h
    have h2 := zfi_lt (fun i => F (5 * s + 36) i) (F (5 * s + 39) g) (zn (F (5 * s + 35) 5)) 0 (by have := ht.2.1.2; omega) (by
      rw [Int32.lt_iff_toInt_lt]
      rw [Int32.le_iff_toInt_le] at h
      simp at h ⊢
      exact h)
    rw [Nat.zero_add] at h2
    exact ht.2.2.2.2 _ h2.2
  · exact ht.2.2.2.1
theorem ge_nlt {x : Int32} (h : 0 ≤ x) : ¬ x < 0 := by
  rw [Int32.lt_iff_toInt_lt]
  rw [Int32.le_iff_toInt_le] at h
  simp at h ⊢
  exact h

set_option maxRecDepth 100000 in
theorem lpX7_letGuardCatch {L : Nat} (F : zFt) (s : Nat) (hs : s < 8) (c : Int32) (hc : vp_in c 12) (hv : okV F) (ht : okT F s (zn (F 11 6))) : ∀ n : Nat, n ≤ 8 → zEV mX7_letGuardCatch (zrm 3 0 0) (zZf L (some (.int (zb (cLx F s c n).isSome))) (cCf F s (cLx F s c n))) 12 [some (.ref 2), some (.int c), some (.ref (5 * s + 35)), some (.int (nI n - 1)), none] [] 111 (zE L F) 0 0 := by
  intro n
  induction n with
  | zero =>
    intro hn
    refine z_iload iX7_letGuardCatch_12 rfl ?_
    refine z_if_lt iX7_letGuardCatch_13 (fun c13 => ?_) (fun c13 => ?_)
    · refine z_push iX7_letGuardCatch_83 ?_
      exact e_bret iX7_letGuardCatch_84 rfl (by first | exact Or.inl rfl | exact Or.inr rfl | exact zb_01 _ | assumption) ⟨rfl, rfl⟩
    · exact absurd (by decide) c13
  | succ n ih =>
    intro hn
    have e1 : nI (n + 1) - 1 = nI n := nI_pred n
    rw [e1]
    refine z_iload iX7_letGuardCatch_12 rfl ?_
    refine z_if_lt iX7_letGuardCatch_13 (fun c13 => ?_) (fun c13 => ?_)
    · exact absurd c13 (nI_pos (by omega))
    · refine z_iload iX7_letGuardCatch_16 rfl ?_
      refine z_aload iX7_letGuardCatch_17 rfl ?_
      refine e_getR iX7_letGuardCatch_18 fX7_341 (scR6 s hs) ?_
      refine z_iload iX7_letGuardCatch_21 rfl ?_
      refine e_iald iX7_letGuardCatch_22 (scA6 s hs) (vin_mk (n := 8) (by omega)) ?_
      rw [zn_nI (by omega)]
      refine e_callS iX7_letGuardCatch_23 kX7_279 (tX7_isOfKind F c _ hc) rfl rfl ⟨Nat.le_of_ble_eq_true rfl, Nat.le_of_ble_eq_true rfl⟩ ⟨Nat.le_of_ble_eq_true rfl, Nat.le_of_ble_eq_true rfl⟩ (Nat.le_of_ble_eq_true rfl) ?_
      dsimp only [Option.toList, List.cons_append, List.nil_append]
      refine z_if_eq iX7_letGuardCatch_26 (fun c26 => ?_) (fun c26 => ?_)
      · rw [zb_0] at c26
        rw [cLx, if_pos c26]
        refine z_iinc (v := (-1)) iX7_letGuardCatch_77 (by decide) (by decide) rfl rfl ?_
        dsimp only [List.set_cons_zero, List.set_cons_succ]
        refine z_goto iX7_letGuardCatch_80 ?_
        exact z_to (by rw [Int32.sub_eq_add_neg]) rfl (ih (by omega))
      · rw [zb_n] at c26
        rw [cLx, if_neg (by rw [c26]; decide)]
        have hlt := ht.2.2.2.2
        refine z_aload iX7_letGuardCatch_29 rfl ?_
        refine z_aload iX7_letGuardCatch_30 rfl ?_
        refine e_getR iX7_letGuardCatch_31 fX7_344 (scR7 s hs) ?_
        refine z_iload iX7_letGuardCatch_34 rfl ?_
        refine e_iald iX7_letGuardCatch_35 (scA7 s hs) (vin_mk (n := 8) (by omega)) ?_
        rw [zn_nI (by omega)]
        refine e_callV iX7_letGuardCatch_36 kX7_310 (tX4_indexOfSavepoint F s hs (F (5 * s + 39) n) ht.2.1.1 ht.2.1.2) rfl rfl (scO s hs) ⟨Nat.le_of_ble_eq_true rfl, Nat.le_of_ble_eq_true rfl⟩ ⟨Nat.le_of_ble_eq_true rfl, Nat.le_of_ble_eq_true rfl⟩ (Nat.le_of_ble_eq_true rfl) ?_
        dsimp only [Option.toList, List.cons_append, List.nil_append]
        refine z_istore iX7_letGuardCatch_39 rfl ?_
        dsimp only [List.set_cons_zero, List.set_cons_succ]
        refine z_aload iX7_letGuardCatch_41 rfl ?_
        refine e_getR iX7_letGuardCatch_42 fX7_21 rfl ?_
        refine z_iload iX7_letGuardCatch_45 rfl ?_
        refine z_if_ge iX7_letGuardCatch_47 (fun c47 => ?_) (fun c47 => ?_)
        · have e7 : cCm F s n = F (5 * s + 37) (zn (cCk F s n)) := if_pos c47
          have hk := (zfi_lt (fun i => F (5 * s + 36) i) (F (5 * s + 39) n) (zn (F (5 * s + 35) 5)) 0 (by have := ht.2.1.2; omega) (ge_nlt c47))
          refine z_aload iX7_letGuardCatch_57 rfl ?_
          refine e_getR iX7_letGuardCatch_58 fX7_182 (scR4 s hs) ?_
          refine z_iload iX7_letGuardCatch_61 rfl ?_
          refine e_iald iX7_letGuardCatch_63 (scA4 s hs) (by rw [← nI_zn hk.1]; exact vin_mk (n := 16) (by have := hk.2; have := ht.2.1.2; omega)) ?_
          rw [← e7]
          refine e_callV iX7_letGuardCatch_64 kX7_185 (tX5_cutTo F (cCm F s n) hv.1 hv.2.1 (cCm_ok hv ht).1 (cCm_ok hv ht).2 hv.2.2) rfl rfl rfl ⟨Nat.le_of_ble_eq_true rfl, Nat.le_of_ble_eq_true rfl⟩ ⟨Nat.le_of_ble_eq_true rfl, Nat.le_of_ble_eq_true rfl⟩ (Nat.le_of_ble_eq_true rfl) ?_
          dsimp only [Option.toList, List.cons_append, List.nil_append]
          refine z_aload iX7_letGuardCatch_67 rfl ?_
          refine z_iload iX7_letGuardCatch_68 rfl ?_
          refine z_push iX7_letGuardCatch_70 ?_
          refine z_iadd iX7_letGuardCatch_71 ?_
          refine e_putI iX7_letGuardCatch_72 fX7_189 fw4_5 (scI5 s hs) ?_
          refine z_push iX7_letGuardCatch_75 ?_
          exact e_bret iX7_letGuardCatch_76 rfl (by first | exact Or.inl rfl | exact Or.inr rfl | exact zb_01 _ | assumption) ⟨rfl, rfl⟩
        · have e7 : cCm F s n = F (5 * s + 35) 2 := if_neg c47
          refine z_aload iX7_letGuardCatch_50 rfl ?_
          refine e_getI iX7_letGuardCatch_51 fX7_201 (scI2 s hs) ?_
          refine z_goto iX7_letGuardCatch_54 ?_
          rw [← e7]
          refine e_callV iX7_letGuardCatch_64 kX7_185 (tX5_cutTo F (cCm F s n) hv.1 hv.2.1 (cCm_ok hv ht).1 (cCm_ok hv ht).2 hv.2.2) rfl rfl rfl ⟨Nat.le_of_ble_eq_true rfl, Nat.le_of_ble_eq_true rfl⟩ ⟨Nat.le_of_ble_eq_true rfl, Nat.le_of_ble_eq_true rfl⟩ (Nat.le_of_ble_eq_true rfl) ?_
          dsimp only [Option.toList, List.cons_append, List.nil_append]
          refine z_aload iX7_letGuardCatch_67 rfl ?_
          refine z_iload iX7_letGuardCatch_68 rfl ?_
          refine z_push iX7_letGuardCatch_70 ?_
          refine z_iadd iX7_letGuardCatch_71 ?_
          refine e_putI iX7_letGuardCatch_72 fX7_189 fw4_5 (scI5 s hs) ?_
          refine z_push iX7_letGuardCatch_75 ?_
          exact e_bret iX7_letGuardCatch_76 rfl (by first | exact Or.inl rfl | exact Or.inr rfl | exact zb_01 _ | assumption) ⟨rfl, rfl⟩

set_option maxRecDepth 100000 in
theorem tX7_letGuardCatch {L : Nat} (F : zFt) (c : Int32) (hi : vp_in (F 2 7 - 1) 8) (hc : vp_in c 12) (hv : okV F) (ht : okT F (cIn F) (zn (F 11 6))) : zFn mX7_letGuardCatch 3 [.ref 2, .int c] L F (some (.int (zb (cLx F (cIn F) c (zn (F (5 * cIn F + 35) 8))).isSome))) (cCf F (cIn F) (cLx F (cIn F) c (zn (F (5 * cIn F + 35) 8)))) := by
  refine e_of (lo := [some (.ref 2), some (.int c), none, none, none]) (by decide +kernel) (Nat.le_of_ble_eq_true rfl) rfl ?_
  have hs := in_lt hi
  refine z_aload iX7_letGuardCatch_0 rfl ?_
  refine e_callV iX7_letGuardCatch_1 kX7_158 (tX7_innermost F hi) rfl rfl rfl ⟨Nat.le_of_ble_eq_true rfl, Nat.le_of_ble_eq_true rfl⟩ ⟨Nat.le_of_ble_eq_true rfl, Nat.le_of_ble_eq_true rfl⟩ (Nat.le_of_ble_eq_true rfl) ?_
  dsimp only [Option.toList, List.cons_append, List.nil_append]
  refine z_astore iX7_letGuardCatch_4 rfl ?_
  dsimp only [List.set_cons_zero, List.set_cons_succ]
  refine z_aload iX7_letGuardCatch_5 rfl ?_
  refine e_getI iX7_letGuardCatch_6 fX7_195 (scI8 (cIn F) hs) ?_
  refine z_push iX7_letGuardCatch_9 ?_
  refine z_isub iX7_letGuardCatch_10 ?_
  refine z_istore iX7_letGuardCatch_11 rfl ?_
  dsimp only [List.set_cons_zero, List.set_cons_succ]
  exact z_to (lo' := [some (.ref 2), some (.int c), some (.ref (5 * cIn F + 35)), some (.int (nI (zn (F (5 * cIn F + 35) 8)) - 1)), none]) (by rw [nI_zn ht.2.2.1.1]) rfl (lpX7_letGuardCatch F (cIn F) hs c hc hv ht _ ht.2.2.1.2)

def cSp (F : zFt) (s : Nat) (m : Int32) : Nat → zFt
  | 0 => F
  | a + 1 => if ¬ cSp F s m a 26 a = 3 then cSp F s m a else if cHo (cSp F s m a) (nI a) s = false then cSp F s m a else cAd (cSp F s m a) (cSp F s m a 27 a) (nI a) (-1) m (cSp F s m a 2 7) (cSp F s m a 11 6)
theorem cAd_ne (F : zFt) (a b c u v w : Int32) {k : Nat} (h : k ≠ 29) (h2 : k ≠ 30) (j : Nat) : cAd F a b c u v w k j = F k j := by
  unfold cAd
  split
  · rw [zup_ap, if_neg (by omega)]
  · simp only [zup_ap, h, h2, false_and, if_false]
theorem cSp_ne (F : zFt) (s : Nat) (m : Int32) {k : Nat} (h : k ≠ 29) (h2 : k ≠ 30) (j : Nat) : ∀ a, cSp F s m a k j = F k j
  | 0 => rfl
  | a + 1 => by
    rw [cSp]
    split
    · exact cSp_ne F s m h h2 j a
    · split
      · exact cSp_ne F s m h h2 j a
      · rw [cAd_ne _ _ _ _ _ _ _ h h2, cSp_ne F s m h h2 j a]
theorem okS_eq {F G : zFt} {s : Nat} (h : okS F s) (e : ∀ k j, k ≠ 29 → k ≠ 30 → G k j = F k j) : okS G s := by
  simp (disch := omega) only [okS, cMi, cSe, sJ, sE, e] at h ⊢
  exact h

set_option maxRecDepth 100000 in
theorem lpX7_suppressUnder {L : Nat} {Z : zZt} (F : zFt) (s : Nat) (hs : s < 8) (m : Int32) (hr : 0 ≤ (F 25 3).toInt ∧ zn (F 25 3) ≤ 24) (hv : okV F) (ho : okS F s) (kk : zEV mX7_suppressUnder (zrm 3 0 0) Z 84 [some (.ref 2), some (.int m), some (.ref (5 * s + 35)), some (.int (nI (zn (F 25 3))))] [] 111 (zE L (cSp F s m (zn (F 25 3)))) 0 0) : ∀ (n a : Nat), a + n = zn (F 25 3) → zEV mX7_suppressUnder (zrm 3 0 0) Z 7 [some (.ref 2), some (.int m), some (.ref (5 * s + 35)), some (.int (nI a))] [] 111 (zE L (cSp F s m a)) 0 0 := by
  intro n
  induction n with
  | zero =>
    intro a ha
    obtain rfl : a = zn (F 25 3) := by omega
    refine z_iload iX7_suppressUnder_7 rfl ?_
    refine z_aload iX7_suppressUnder_8 rfl ?_
    refine e_getR iX7_suppressUnder_9 fX7_37 rfl ?_
    refine e_getI iX7_suppressUnder_12 fX7_114 rfl ?_
    rw [cSp_ne F s m (by decide) (by decide)]
    refine z_icmp_ge iX7_suppressUnder_15 (fun c15 => ?_) (fun c15 => ?_)
    · exact kk
    · exact absurd (up_end hr.1 rfl) c15
  | succ n ih =>
    intro a ha
    refine z_iload iX7_suppressUnder_7 rfl ?_
    refine z_aload iX7_suppressUnder_8 rfl ?_
    refine e_getR iX7_suppressUnder_9 fX7_37 rfl ?_
    refine e_getI iX7_suppressUnder_12 fX7_114 rfl ?_
    rw [cSp_ne F s m (by decide) (by decide)]
    refine z_icmp_ge iX7_suppressUnder_15 (fun c15 => ?_) (fun c15 => ?_)
    · exact absurd c15 (up_in (x := (F 25 3)) (by omega))
    · have ez : zn (nI a) = a := zn_nI (by omega)
      have e6 : cSp F s m a 11 6 = F 11 6 := cSp_ne F s m (by decide) (by decide) 6 a
      refine z_aload iX7_suppressUnder_18 rfl ?_
      refine e_getR iX7_suppressUnder_19 fX7_37 rfl ?_
      refine e_getR iX7_suppressUnder_22 fX7_316 rfl ?_
      refine z_iload iX7_suppressUnder_25 rfl ?_
      refine e_iald iX7_suppressUnder_26 rfl (vin_mk (n := 24) (by omega)) ?_
      rw [ez]
      refine z_push iX7_suppressUnder_27 ?_
      refine z_icmp_ne iX7_suppressUnder_28 (fun c28 => ?_) (fun c28 => ?_)
      · refine z_iinc (v := 1) iX7_suppressUnder_78 (by decide) (by decide) rfl rfl ?_
        dsimp only [List.set_cons_zero, List.set_cons_succ]
        refine z_goto iX7_suppressUnder_81 ?_
        exact z_to (by simp [nI_1]) (by rw [cSp, if_pos c28]) (ih (a + 1) (by omega))
      · refine z_aload iX7_suppressUnder_31 rfl ?_
        refine e_getR iX7_suppressUnder_32 fX7_37 rfl ?_
        refine z_iload iX7_suppressUnder_35 rfl ?_
        refine z_aload iX7_suppressUnder_36 rfl ?_
        refine z_aload iX7_suppressUnder_37 rfl ?_
        refine e_getR iX7_suppressUnder_38 fX7_21 rfl ?_
        refine e_callV iX7_suppressUnder_41 kX7_319 (tX3_holds (cSp F s m a) (nI a) s hs (vin_mk (by omega)) (by rw [e6]; exact hv.1) (by rw [e6]; exact hv.2.1) (okS_eq ho (fun k j h1 h2 => cSp_ne F s m h1 h2 j a))) rfl rfl rfl ⟨Nat.le_of_ble_eq_true rfl, Nat.le_of_ble_eq_true rfl⟩ ⟨Nat.le_of_ble_eq_true rfl, Nat.le_of_ble_eq_true rfl⟩ (Nat.le_of_ble_eq_true rfl) ?_
        dsimp only [Option.toList, List.cons_append, List.nil_append]
        refine z_if_eq iX7_suppressUnder_44 (fun c44 => ?_) (fun c44 => ?_)
        · rw [zb_0] at c44
          refine z_iinc (v := 1) iX7_suppressUnder_78 (by decide) (by decide) rfl rfl ?_
          dsimp only [List.set_cons_zero, List.set_cons_succ]
          refine z_goto iX7_suppressUnder_81 ?_
          exact z_to (by simp [nI_1]) (by rw [cSp, if_neg (not_not_intro c28), if_pos c44]) (ih (a + 1) (by omega))
        · rw [zb_n] at c44
          refine z_aload iX7_suppressUnder_47 rfl ?_
          refine e_getR iX7_suppressUnder_48 fX7_44 rfl ?_
          refine z_aload iX7_suppressUnder_51 rfl ?_
          refine e_getR iX7_suppressUnder_52 fX7_37 rfl ?_
          refine e_getR iX7_suppressUnder_55 fX7_323 rfl ?_
          refine z_iload iX7_suppressUnder_58 rfl ?_
          refine e_iald iX7_suppressUnder_59 rfl (vin_mk (n := 24) (by omega)) ?_
          rw [ez]
          refine z_iload iX7_suppressUnder_60 rfl ?_
          refine z_push iX7_suppressUnder_61 ?_
          refine z_iload iX7_suppressUnder_62 rfl ?_
          refine z_aload iX7_suppressUnder_63 rfl ?_
          refine e_getI iX7_suppressUnder_64 fX7_61 rfl ?_
          refine z_aload iX7_suppressUnder_67 rfl ?_
          refine e_getR iX7_suppressUnder_68 fX7_21 rfl ?_
          refine e_getI iX7_suppressUnder_71 fX7_137 rfl ?_
          refine e_callV iX7_suppressUnder_74 kX7_329 (tX0_add (cSp F s m a) _ _ _ _ _ _) rfl rfl rfl ⟨Nat.le_of_ble_eq_true rfl, Nat.le_of_ble_eq_true rfl⟩ ⟨Nat.le_of_ble_eq_true rfl, Nat.le_of_ble_eq_true rfl⟩ (Nat.le_of_ble_eq_true rfl) ?_
          dsimp only [Option.toList, List.cons_append, List.nil_append]
          refine z_pop iX7_suppressUnder_77 rfl ?_
          refine z_iinc (v := 1) iX7_suppressUnder_78 (by decide) (by decide) rfl rfl ?_
          dsimp only [List.set_cons_zero, List.set_cons_succ]
          refine z_goto iX7_suppressUnder_81 ?_
          exact z_to (by simp [nI_1]) (by rw [cSp, if_neg (not_not_intro c28), if_neg (by rw [c44]; decide)]) (ih (a + 1) (by omega))

set_option maxRecDepth 100000 in
theorem tX7_suppressUnder {L : Nat} (F : zFt) (m : Int32) (hi : vp_in (F 2 7 - 1) 8) (hr : 0 ≤ (F 25 3).toInt ∧ zn (F 25 3) ≤ 24) (hv : okV F) (ho : okS F (cIn F)) : zFn mX7_suppressUnder 3 [.ref 2, .int m] L F none (cSp F (cIn F) m (zn (F 25 3))) := by
  refine e_of (lo := [some (.ref 2), some (.int m), none, none]) (by decide +kernel) (Nat.le_of_ble_eq_true rfl) rfl ?_
  have hs := in_lt hi
  refine z_aload iX7_suppressUnder_0 rfl ?_
  refine e_callV iX7_suppressUnder_1 kX7_158 (tX7_innermost F hi) rfl rfl rfl ⟨Nat.le_of_ble_eq_true rfl, Nat.le_of_ble_eq_true rfl⟩ ⟨Nat.le_of_ble_eq_true rfl, Nat.le_of_ble_eq_true rfl⟩ (Nat.le_of_ble_eq_true rfl) ?_
  dsimp only [Option.toList, List.cons_append, List.nil_append]
  refine z_astore iX7_suppressUnder_4 rfl ?_
  dsimp only [List.set_cons_zero, List.set_cons_succ]
  refine z_push iX7_suppressUnder_5 ?_
  refine z_istore iX7_suppressUnder_6 rfl ?_
  dsimp only [List.set_cons_zero, List.set_cons_succ]
  refine lpX7_suppressUnder F (cIn F) hs m hr hv ho ?_ _ 0 (Nat.zero_add _)
  exact e_vret iX7_suppressUnder_84 rfl ⟨rfl, rfl⟩
