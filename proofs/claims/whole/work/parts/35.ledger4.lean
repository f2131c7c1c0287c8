abbrev cF1 (F : zFt) (k r c : Int32) : zFt := cAd F k r c (-1) (F 2 7) (F 11 6)
abbrev cFx (F : zFt) (k : Int32) : Option Nat := cLx F (cIn F) k (zn (F (5 * cIn F + 35) 8))
abbrev cFd (F : zFt) (m : Int32) : zFt := cDr (cSp F (cIn F) m (zn (F 25 3)))
/-- a failure goes up -/
def cFl : Nat → zFt → Int32 → Int32 → Int32 → Int32 × zFt
  | 0, F, _, _, _ => (1, F)
  | n + 1, F, k, r, c => match cFx (cF1 F k r c) k with
    | some g => (2, zup (cCa (cF1 F k r c) (cIn (cF1 F k r c)) g) 2 9 (cCa (cF1 F k r c) (cIn (cF1 F k r c)) g 2 9 + 1))
    | none => cFl n (cFd (cF1 F k r c) (F 29 1)) (zkf k) (-1) (F 29 1)
theorem cFl_n {n : Nat} {F : zFt} {k r c : Int32} (h : cFx (cF1 F k r c) k = none) : cFl (n + 1) F k r c = cFl n (cFd (cF1 F k r c) (F 29 1)) (zkf k) (-1) (F 29 1) := by
  rw [cFl, h]
theorem cFl_s {n g : Nat} {F : zFt} {k r c : Int32} (h : cFx (cF1 F k r c) k = some g) : cFl (n + 1) F k r c = (2, zup (cCa (cF1 F k r c) (cIn (cF1 F k r c)) g) 2 9 (cCa (cF1 F k r c) (cIn (cF1 F k r c)) g 2 9 + 1)) := by
  rw [cFl, h]
theorem zkf_in (k : Int32) : vp_in (zkf k) 12 := by
  unfold zkf
  split
  · split <;> (rw [vin]; decide)
  · rw [vin]; decide
theorem FI_top {F : zFt} {n : Nat} (h : FI F (n + 1)) : okT F (cIn F) (zn (F 11 6)) := by
  have h7 := h.2.2.2.2.2 n (by omega)
  rw [(FI_in h).1]
  simp only [tpS, if_neg (show ¬ n + 1 < n + 1 by omega)] at h7
  exact h7

set_option maxRecDepth 100000 in
theorem lpX7_fail {L : Nat} (x y : Int32) : ∀ (n : Nat) (F : zFt) (k r c : Int32) (u : Option Value), FI F n → vp_in k 12 → zEV mX7_fail (zrm 4 0 0) (zZf L (some (.int (cFl n F k r c).1)) (cFl n F k r c).2) 14 [some (.ref 2), some (.int x), some (.int y), some (.int k), some (.int r), some (.int c), some (.int (nI n)), u] [] 111 (zE L F) 0 0 := by
  intro n
  induction n with
  | zero =>
    intro F k r c u hF hk
    refine z_iload iX7_fail_14 rfl ?_
    refine z_if_le iX7_fail_16 (fun c16 => ?_) (fun c16 => ?_)
    · refine z_push iX7_fail_93 ?_
      exact e_iret iX7_fail_94 rfl ⟨rfl, rfl⟩
    · exact absurd (by decide) c16
  | succ n ih =>
    intro F k r c u hF hk
    have hn8 := hF.2.1
    have f1 : FI (cF1 F k r c) (n + 1) := FI_eq hF (fun x j h1 h2 => cAd_ne _ _ _ _ _ _ _ h1 h2 j)
    have f2 : FI (cSp (cF1 F k r c) (cIn (cF1 F k r c)) (F 29 1) (zn (cF1 F k r c 25 3))) (n + 1) := FI_eq f1 (fun x j h1 h2 => cSp_ne _ _ _ h1 h2 j _)
    have i1 := (FI_in f1).2
    have i2 := FI_in f2
    have f3 : FI (cFd (cF1 F k r c) (F 29 1)) n := FI_dr f2
    refine z_iload iX7_fail_14 rfl ?_
    refine z_if_le iX7_fail_16 (fun c16 => ?_) (fun c16 => ?_)
    · exact absurd c16 (nI_nle (by omega) (by omega))
    · refine z_aload iX7_fail_19 rfl ?_
      refine e_getR iX7_fail_20 fX7_44 rfl ?_
      refine z_iload iX7_fail_23 rfl ?_
      refine z_iload iX7_fail_24 rfl ?_
      refine z_iload iX7_fail_26 rfl ?_
      refine z_push iX7_fail_28 ?_
      refine z_aload iX7_fail_29 rfl ?_
      refine e_getI iX7_fail_30 fX7_61 rfl ?_
      refine z_aload iX7_fail_33 rfl ?_
      refine e_getR iX7_fail_34 fX7_21 rfl ?_
      refine e_getI iX7_fail_37 fX7_137 rfl ?_
      refine e_callV iX7_fail_40 kX7_329 (tX0_add F k r c (-1) (F 2 7) (F 11 6)) rfl rfl rfl ⟨Nat.le_of_ble_eq_true rfl, Nat.le_of_ble_eq_true rfl⟩ ⟨Nat.le_of_ble_eq_true rfl, Nat.le_of_ble_eq_true rfl⟩ (Nat.le_of_ble_eq_true rfl) ?_
      dsimp only [Option.toList, List.cons_append, List.nil_append]
      refine z_istore iX7_fail_43 rfl ?_
      dsimp only [List.set_cons_zero, List.set_cons_succ]
      refine z_aload iX7_fail_45 rfl ?_
      refine z_iload iX7_fail_46 rfl ?_
      refine e_callV iX7_fail_47 kX7_332 (tX7_letGuardCatch (cF1 F k r c) k i1 hk f1.2.2.1 (FI_top f1)) rfl rfl rfl ⟨Nat.le_of_ble_eq_true rfl, Nat.le_of_ble_eq_true rfl⟩ ⟨Nat.le_of_ble_eq_true rfl, Nat.le_of_ble_eq_true rfl⟩ (Nat.le_of_ble_eq_true rfl) ?_
      dsimp only [Option.toList, List.cons_append, List.nil_append]
      refine z_if_eq iX7_fail_50 (fun c50 => ?_) (fun c50 => ?_)
      · have hx : cFx (cF1 F k r c) k = none := by simpa using zb_0.mp c50
        rw [cFl_n hx]
        rw [show cCf (cF1 F k r c) (cIn (cF1 F k r c)) (cFx (cF1 F k r c) k) = cF1 F k r c by rw [hx]; rfl]
        refine z_aload iX7_fail_65 rfl ?_
        refine z_iload iX7_fail_66 rfl ?_
        refine e_callV iX7_fail_68 kX7_335 (tX7_suppressUnder (cF1 F k r c) (F 29 1) i1 f1.2.2.2.1 f1.2.2.1 (FI_top f1).1) rfl rfl rfl ⟨Nat.le_of_ble_eq_true rfl, Nat.le_of_ble_eq_true rfl⟩ ⟨Nat.le_of_ble_eq_true rfl, Nat.le_of_ble_eq_true rfl⟩ (Nat.le_of_ble_eq_true rfl) ?_
        dsimp only [Option.toList, List.cons_append, List.nil_append]
        refine z_aload iX7_fail_71 rfl ?_
        refine e_callV iX7_fail_72 kX7_207 (tX7_dropInnermost (cSp (cF1 F k r c) (cIn (cF1 F k r c)) (F 29 1) (zn (cF1 F k r c 25 3))) i2.2 f2.2.2.1 (by rw [cBg, i2.1]; exact FI_beg f2)) rfl rfl rfl ⟨Nat.le_of_ble_eq_true rfl, Nat.le_of_ble_eq_true rfl⟩ ⟨Nat.le_of_ble_eq_true rfl, Nat.le_of_ble_eq_true rfl⟩ (Nat.le_of_ble_eq_true rfl) ?_
        dsimp only [Option.toList, List.cons_append, List.nil_append]
        refine z_iload iX7_fail_75 rfl ?_
        refine e_callS iX7_fail_76 kX7_338 (tX7_kindFurtherOut _ k hk) rfl rfl ⟨Nat.le_of_ble_eq_true rfl, Nat.le_of_ble_eq_true rfl⟩ ⟨Nat.le_of_ble_eq_true rfl, Nat.le_of_ble_eq_true rfl⟩ (Nat.le_of_ble_eq_true rfl) ?_
        dsimp only [Option.toList, List.cons_append, List.nil_append]
        refine z_istore iX7_fail_79 rfl ?_
        dsimp only [List.set_cons_zero, List.set_cons_succ]
        refine z_push iX7_fail_80 ?_
        refine z_istore iX7_fail_81 rfl ?_
        dsimp only [List.set_cons_zero, List.set_cons_succ]
        refine z_iload iX7_fail_83 rfl ?_
        refine z_istore iX7_fail_85 rfl ?_
        dsimp only [List.set_cons_zero, List.set_cons_succ]
        refine z_iinc (v := (-1)) iX7_fail_87 (by decide) (by decide) rfl rfl ?_
        dsimp only [List.set_cons_zero, List.set_cons_succ]
        refine z_goto iX7_fail_90 ?_
        rw [pk_m1]
        exact ih _ _ _ _ _ f3 (zkf_in k)
      · obtain ⟨g, hx⟩ : ∃ g, cFx (cF1 F k r c) k = some g := Option.isSome_iff_exists.mp (zb_n.mp c50)
        rw [cFl_s hx]
        rw [show cCf (cF1 F k r c) (cIn (cF1 F k r c)) (cFx (cF1 F k r c) k) = cCa (cF1 F k r c) (cIn (cF1 F k r c)) g by rw [hx]; rfl]
        refine z_aload iX7_fail_53 rfl ?_
        refine z_dup iX7_fail_54 rfl ?_
        refine e_getI iX7_fail_55 fX7_68 rfl ?_
        refine z_push iX7_fail_58 ?_
        refine z_iadd iX7_fail_59 ?_
        refine e_putI iX7_fail_60 fX7_68 fw7_9 rfl ?_
        refine z_push iX7_fail_63 ?_
        exact e_iret iX7_fail_64 rfl ⟨rfl, rfl⟩

set_option maxRecDepth 100000 in
theorem tX7_fail {L : Nat} (F : zFt) (x : Int32) (y : Int32) (n : Nat) (hF : FI F n) (hk : vp_in x 12) : zFn mX7_fail 4 [.ref 2, .int x, .int y] L F (some (.int (cFl (zn (F 2 7)) F x y (-1)).1)) (cFl (zn (F 2 7)) F x y (-1)).2 := by
  refine e_of (lo := [some (.ref 2), some (.int x), some (.int y), none, none, none, none, none]) (by decide +kernel) (Nat.le_of_ble_eq_true rfl) rfl ?_
  refine z_iload iX7_fail_0 rfl ?_
  refine z_istore iX7_fail_1 rfl ?_
  dsimp only [List.set_cons_zero, List.set_cons_succ]
  refine z_iload iX7_fail_2 rfl ?_
  refine z_istore iX7_fail_3 rfl ?_
  dsimp only [List.set_cons_zero, List.set_cons_succ]
  refine z_push iX7_fail_5 ?_
  refine z_istore iX7_fail_6 rfl ?_
  dsimp only [List.set_cons_zero, List.set_cons_succ]
  refine z_aload iX7_fail_8 rfl ?_
  refine e_getI iX7_fail_9 fX7_61 rfl ?_
  refine z_istore iX7_fail_12 rfl ?_
  dsimp only [List.set_cons_zero, List.set_cons_succ]
  have en : zn (F 2 7) = n := by rw [hF.1, zn_nI (by have := hF.2.1; omega)]
  rw [en]
  exact z_to (by rw [hF.1]) rfl (lpX7_fail x y n F x y (-1) none hF hk)

def cOf (F : zFt) (s : Nat) (m : Int32) : Nat → Nat → Int32 × zFt
  | 0, _ => (0, F)
  | n + 1, a => if ¬ F 26 a = m then cOf F s m n (a + 1) else if cHo F (nI a) s = false then cOf F s m n (a + 1) else cFl (zn (F 2 7)) F (F 27 a) (nI a) (-1)

set_option maxRecDepth 100000 in
theorem lpX7_outcomeOf {L : Nat} (F : zFt) (s : Nat) (hs : s < 8) (m : Int32) (q : Nat) (hF : FI F q) (ho : okS F s) : ∀ n a : Nat, a + n = zn (F 25 3) → zEV mX7_outcomeOf (zrm 5 0 0) (zZf L (some (.int (cOf F s m n a).1)) (cOf F s m n a).2) 7 [some (.ref 2), some (.int m), some (.ref (5 * s + 35)), some (.int (nI a))] [] 111 (zE L F) 0 0 := by
  have hr := hF.2.2.2.1
  have hv := hF.2.2.1
  intro n
  induction n with
  | zero =>
    intro a ha
    obtain rfl : a = zn (F 25 3) := by omega
    refine z_iload iX7_outcomeOf_7 rfl ?_
    refine z_aload iX7_outcomeOf_8 rfl ?_
    refine e_getR iX7_outcomeOf_9 fX7_37 rfl ?_
    refine e_getI iX7_outcomeOf_12 fX7_114 rfl ?_
    refine z_icmp_ge iX7_outcomeOf_15 (fun c15 => ?_) (fun c15 => ?_)
    · refine z_push iX7_outcomeOf_68 ?_
      exact e_iret iX7_outcomeOf_69 rfl ⟨rfl, rfl⟩
    · exact absurd (up_end hr.1 rfl) c15
  | succ n ih =>
    intro a ha
    have ez : zn (nI a) = a := zn_nI (by omega)
    refine z_iload iX7_outcomeOf_7 rfl ?_
    refine z_aload iX7_outcomeOf_8 rfl ?_
    refine e_getR iX7_outcomeOf_9 fX7_37 rfl ?_
    refine e_getI iX7_outcomeOf_12 fX7_114 rfl ?_
    refine z_icmp_ge iX7_outcomeOf_15 (fun c15 => ?_) (fun c15 => ?_)
    · exact absurd c15 (up_in (x := F 25 3) (by omega))
    · refine z_aload iX7_outcomeOf_18 rfl ?_
      refine e_getR iX7_outcomeOf_19 fX7_37 rfl ?_
      refine e_getR iX7_outcomeOf_22 fX7_316 rfl ?_
      refine z_iload iX7_outcomeOf_25 rfl ?_
      refine e_iald iX7_outcomeOf_26 rfl (vin_mk (n := 24) (by omega)) ?_
      rw [ez]
      refine z_iload iX7_outcomeOf_27 rfl ?_
      refine z_icmp_ne iX7_outcomeOf_28 (fun c28 => ?_) (fun c28 => ?_)
      · rw [cOf, if_pos c28]
        refine z_iinc (v := 1) iX7_outcomeOf_62 (by decide) (by decide) rfl rfl ?_
        dsimp only [List.set_cons_zero, List.set_cons_succ]
        refine z_goto iX7_outcomeOf_65 ?_
        exact z_to (by simp [nI_1]) rfl (ih (a + 1) (by omega))
      · rw [cOf, if_neg (not_not_intro c28)]
        refine z_aload iX7_outcomeOf_31 rfl ?_
        refine e_getR iX7_outcomeOf_32 fX7_37 rfl ?_
        refine z_iload iX7_outcomeOf_35 rfl ?_
        refine z_aload iX7_outcomeOf_36 rfl ?_
        refine z_aload iX7_outcomeOf_37 rfl ?_
        refine e_getR iX7_outcomeOf_38 fX7_21 rfl ?_
        refine e_callV iX7_outcomeOf_41 kX7_319 (tX3_holds F (nI a) s hs (vin_mk (by omega)) hv.1 hv.2.1 ho) rfl rfl rfl ⟨Nat.le_of_ble_eq_true rfl, Nat.le_of_ble_eq_true rfl⟩ ⟨Nat.le_of_ble_eq_true rfl, Nat.le_of_ble_eq_true rfl⟩ (Nat.le_of_ble_eq_true rfl) ?_
        dsimp only [Option.toList, List.cons_append, List.nil_append]
        refine z_if_eq iX7_outcomeOf_44 (fun c44 => ?_) (fun c44 => ?_)
        · rw [zb_0] at c44
          rw [if_pos c44]
          refine z_iinc (v := 1) iX7_outcomeOf_62 (by decide) (by decide) rfl rfl ?_
          dsimp only [List.set_cons_zero, List.set_cons_succ]
          refine z_goto iX7_outcomeOf_65 ?_
          exact z_to (by simp [nI_1]) rfl (ih (a + 1) (by omega))
        · rw [zb_n] at c44
          rw [if_neg (by rw [c44]; decide)]
          refine z_aload iX7_outcomeOf_47 rfl ?_
          refine z_aload iX7_outcomeOf_48 rfl ?_
          refine e_getR iX7_outcomeOf_49 fX7_37 rfl ?_
          refine e_getR iX7_outcomeOf_52 fX7_323 rfl ?_
          refine z_iload iX7_outcomeOf_55 rfl ?_
          refine e_iald iX7_outcomeOf_56 rfl (vin_mk (n := 24) (by omega)) ?_
          rw [ez]
          refine z_iload iX7_outcomeOf_57 rfl ?_
          refine e_callV iX7_outcomeOf_58 kX7_326 (tX7_fail F (F 27 a) (nI a) q hF (hF.2.2.2.2.1 a (by omega))) rfl rfl rfl ⟨Nat.le_of_ble_eq_true rfl, Nat.le_of_ble_eq_true rfl⟩ ⟨Nat.le_of_ble_eq_true rfl, Nat.le_of_ble_eq_true rfl⟩ (Nat.le_of_ble_eq_true rfl) ?_
          dsimp only [Option.toList, List.cons_append, List.nil_append]
          exact e_iret iX7_outcomeOf_61 rfl ⟨rfl, rfl⟩

set_option maxRecDepth 100000 in
theorem tX7_outcomeOf {L : Nat} (F : zFt) (m : Int32) (n : Nat) (hF : FI F (n + 1)) : zFn mX7_outcomeOf 5 [.ref 2, .int m] L F (some (.int (cOf F (cIn F) m (zn (F 25 3)) 0).1)) (cOf F (cIn F) m (zn (F 25 3)) 0).2 := by
  refine e_of (lo := [some (.ref 2), some (.int m), none, none]) (by decide +kernel) (Nat.le_of_ble_eq_true rfl) rfl ?_
  have hi := (FI_in hF).2
  have hs := in_lt hi
  refine z_aload iX7_outcomeOf_0 rfl ?_
  refine e_callV iX7_outcomeOf_1 kX7_158 (tX7_innermost F hi) rfl rfl rfl ⟨Nat.le_of_ble_eq_true rfl, Nat.le_of_ble_eq_true rfl⟩ ⟨Nat.le_of_ble_eq_true rfl, Nat.le_of_ble_eq_true rfl⟩ (Nat.le_of_ble_eq_true rfl) ?_
  dsimp only [Option.toList, List.cons_append, List.nil_append]
  refine z_astore iX7_outcomeOf_4 rfl ?_
  dsimp only [List.set_cons_zero, List.set_cons_succ]
  refine z_push iX7_outcomeOf_5 ?_
  refine z_istore iX7_outcomeOf_6 rfl ?_
  dsimp only [List.set_cons_zero, List.set_cons_succ]
  exact lpX7_outcomeOf F (cIn F) hs m (n + 1) hF (FI_top hF).1 _ 0 (Nat.zero_add _)

def cFa (F : zFt) : Nat → Int32 × zFt
  | 0 => (0, F)
  | a + 1 => if decide ((cFa F a).2 33 a + 1 = (cFa F a).2 32 a) = false then ((cFa F a).1, cTe (cFa F a).2 (nI a)) else (3, cAd (cTe (cFa F a).2 (nI a)) 11 (-2 - nI a) (-1) (-1) (cTe (cFa F a).2 (nI a) 2 7) (cTe (cFa F a).2 (nI a) 11 6))
theorem cFa_ne (F : zFt) {k : Nat} (h : k ≠ 29) (h2 : k ≠ 30) (h3 : k ≠ 33) (j : Nat) (h4 : ¬ (k = 31 ∧ j = 3)) : ∀ a, (cFa F a).2 k j = F k j
  | 0 => rfl
  | a + 1 => by
    rw [cFa]
    split
    · show cTe (cFa F a).2 (nI a) k j = F k j
      rw [cTe, zup_ap, if_neg (by omega), zup_ap, if_neg (by omega), cFa_ne F h h2 h3 j h4 a]
    · show cAd _ _ _ _ _ _ _ k j = F k j
      rw [cAd_ne _ _ _ _ _ _ _ h h2, cTe, zup_ap, if_neg (by omega), zup_ap, if_neg (by omega), cFa_ne F h h2 h3 j h4 a]
abbrev cFb (F : zFt) (x : Int32) : zFt := zup (zup (zup (zup F 2 8 (F 2 8 + 1)) 2 10 1) 2 11 x) 2 12 0

set_option maxRecDepth 100000 in
theorem lpX7_finishAct {L : Nat} {Z : zZt} (F : zFt) (x : Int32) (hg : 0 ≤ (F 31 2).toInt) (h6 : zn (F 31 2) ≤ 6) (kk : zEV mX7_finishAct (zrm 2 0 0) Z 78 [some (.ref 2), some (.int x), some (.int (cFa F (zn (F 31 2))).1), some (.int (nI (zn (F 31 2))))] [] 111 (zE L ((cFa F (zn (F 31 2))).2)) 0 0) : ∀ (n a : Nat), a + n = zn (F 31 2) → zEV mX7_finishAct (zrm 2 0 0) Z 21 [some (.ref 2), some (.int x), some (.int (cFa F a).1), some (.int (nI a))] [] 111 (zE L ((cFa F a).2)) 0 0 := by
  intro n
  induction n with
  | zero =>
    intro a ha
    obtain rfl : a = zn (F 31 2) := by omega
    refine z_iload iX7_finishAct_21 rfl ?_
    refine z_aload iX7_finishAct_22 rfl ?_
    refine e_getR iX7_finishAct_23 fX7_51 rfl ?_
    refine e_getI iX7_finishAct_26 fX7_121 rfl ?_
    rw [cFa_ne F (by decide) (by decide) (by decide) 2 (by decide)]
    refine z_icmp_ge iX7_finishAct_29 (fun c29 => ?_) (fun c29 => ?_)
    · exact kk
    · exact absurd (up_end hg rfl) c29
  | succ n ih =>
    intro a ha
    refine z_iload iX7_finishAct_21 rfl ?_
    refine z_aload iX7_finishAct_22 rfl ?_
    refine e_getR iX7_finishAct_23 fX7_51 rfl ?_
    refine e_getI iX7_finishAct_26 fX7_121 rfl ?_
    rw [cFa_ne F (by decide) (by decide) (by decide) 2 (by decide)]
    refine z_icmp_ge iX7_finishAct_29 (fun c29 => ?_) (fun c29 => ?_)
    · exact absurd c29 (up_in (x := (F 31 2)) (by omega))
    · have ez : zn (nI a) = a := zn_nI (by omega)
      refine z_aload iX7_finishAct_32 rfl ?_
      refine e_getR iX7_finishAct_33 fX7_51 rfl ?_
      refine z_iload iX7_finishAct_36 rfl ?_
      refine e_callV iX7_finishAct_37 kX7_347 (tX1_tell (cFa F a).2 (nI a) (vin_mk (by omega))) rfl rfl rfl ⟨Nat.le_of_ble_eq_true rfl, Nat.le_of_ble_eq_true rfl⟩ ⟨Nat.le_of_ble_eq_true rfl, Nat.le_of_ble_eq_true rfl⟩ (Nat.le_of_ble_eq_true rfl) ?_
      dsimp only [Option.toList, List.cons_append, List.nil_append]
      rw [ez]
      refine z_if_eq iX7_finishAct_40 (fun c40 => ?_) (fun c40 => ?_)
      · rw [zb_0] at c40
        refine z_iinc (v := 1) iX7_finishAct_72 (by decide) (by decide) rfl rfl ?_
        dsimp only [List.set_cons_zero, List.set_cons_succ]
        refine z_goto iX7_finishAct_75 ?_
        exact z_to (by rw [cFa, if_pos c40, nI_1]) (by rw [cFa, if_pos c40]) (ih (a + 1) (by omega))
      · rw [zb_n] at c40
        refine z_aload iX7_finishAct_43 rfl ?_
        refine e_getR iX7_finishAct_44 fX7_44 rfl ?_
        refine z_push iX7_finishAct_47 ?_
        refine z_push iX7_finishAct_49 ?_
        refine z_iload iX7_finishAct_51 rfl ?_
        refine z_isub iX7_finishAct_52 ?_
        refine z_push iX7_finishAct_53 ?_
        refine z_push iX7_finishAct_54 ?_
        refine z_aload iX7_finishAct_55 rfl ?_
        refine e_getI iX7_finishAct_56 fX7_61 rfl ?_
        refine z_aload iX7_finishAct_59 rfl ?_
        refine e_getR iX7_finishAct_60 fX7_21 rfl ?_
        refine e_getI iX7_finishAct_63 fX7_137 rfl ?_
        refine e_callV iX7_finishAct_66 kX7_329 (tX0_add (cTe (cFa F a).2 (nI a)) _ _ _ _ _ _) rfl rfl rfl ⟨Nat.le_of_ble_eq_true rfl, Nat.le_of_ble_eq_true rfl⟩ ⟨Nat.le_of_ble_eq_true rfl, Nat.le_of_ble_eq_true rfl⟩ (Nat.le_of_ble_eq_true rfl) ?_
        dsimp only [Option.toList, List.cons_append, List.nil_append]
        refine z_pop iX7_finishAct_69 rfl ?_
        refine z_push iX7_finishAct_70 ?_
        refine z_istore iX7_finishAct_71 rfl ?_
        dsimp only [List.set_cons_zero, List.set_cons_succ]
        refine z_iinc (v := 1) iX7_finishAct_72 (by decide) (by decide) rfl rfl ?_
        dsimp only [List.set_cons_zero, List.set_cons_succ]
        refine z_goto iX7_finishAct_75 ?_
        exact z_to (by rw [cFa, if_neg (by rw [c40]; decide), nI_1]) (by rw [cFa, if_neg (by rw [c40]; decide)]) (ih (a + 1) (by omega))

set_option maxRecDepth 100000 in
theorem tX7_finishAct {L : Nat} (F : zFt) (x : Int32) (hg : 0 ≤ (F 31 2).toInt) (h6 : zn (F 31 2) ≤ 6) : zFn mX7_finishAct 2 [.ref 2, .int x] L F (some (.int (cFa (cFb F x) (zn (F 31 2))).1)) (cFa (cFb F x) (zn (F 31 2))).2 := by
  refine e_of (lo := [some (.ref 2), some (.int x), none, none]) (by decide +kernel) (Nat.le_of_ble_eq_true rfl) rfl ?_
  refine z_aload iX7_finishAct_0 rfl ?_
  refine z_dup iX7_finishAct_1 rfl ?_
  refine e_getI iX7_finishAct_2 fX7_65 rfl ?_
  refine z_push iX7_finishAct_5 ?_
  refine z_iadd iX7_finishAct_6 ?_
  refine e_putI iX7_finishAct_7 fX7_65 fw7_8 rfl ?_
  refine z_aload iX7_finishAct_10 rfl ?_
  refine z_push iX7_finishAct_11 ?_
  refine z_iload iX7_finishAct_12 rfl ?_
  refine z_push iX7_finishAct_13 ?_
  refine e_callV iX7_finishAct_14 kX7_234 (tX7_keepForUndo (zup F 2 8 (F 2 8 + 1)) 1 x 0 (Or.inl rfl)) rfl rfl rfl ⟨Nat.le_of_ble_eq_true rfl, Nat.le_of_ble_eq_true rfl⟩ ⟨Nat.le_of_ble_eq_true rfl, Nat.le_of_ble_eq_true rfl⟩ (Nat.le_of_ble_eq_true rfl) ?_
  dsimp only [Option.toList, List.cons_append, List.nil_append]
  try simp only [zup_ap, Nat.add_left_cancel_iff, Nat.reduceEqDiff, false_and, true_and, and_self, eq_self, ↓reduceIte]
  refine z_push iX7_finishAct_17 ?_
  refine z_istore iX7_finishAct_18 rfl ?_
  dsimp only [List.set_cons_zero, List.set_cons_succ]
  refine z_push iX7_finishAct_19 ?_
  refine z_istore iX7_finishAct_20 rfl ?_
  dsimp only [List.set_cons_zero, List.set_cons_succ]
  refine lpX7_finishAct (cFb F x) x hg h6 ?_ _ 0 (Nat.zero_add _)
  refine z_iload iX7_finishAct_78 rfl ?_
  exact e_iret iX7_finishAct_79 rfl ⟨rfl, rfl⟩
