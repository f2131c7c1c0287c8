/-- the events are in order -/
def okV (F : zFt) : Prop := 0 ≤ (F 11 6).toInt ∧ zn (F 11 6) ≤ 400 ∧ ∀ i, i < zn (F 11 6) → okE F i
def okM (F : zFt) (m : Int32) : Prop := 0 ≤ m.toInt ∧ zn m ≤ zn (F 11 6)
/-- a scoring, with t the number of events below which all its savepoints lie -/
def okT (F : zFt) (s t : Nat) : Prop := okS F s ∧ (0 ≤ (F (5 * s + 35) 5).toInt ∧ zn (F (5 * s + 35) 5) ≤ 16) ∧ (0 ≤ (F (5 * s + 35) 8).toInt ∧ zn (F (5 * s + 35) 8) ≤ 8) ∧ (0 ≤ (F (5 * s + 35) 2).toInt ∧ zn (F (5 * s + 35) 2) ≤ t) ∧ ∀ k, k < zn (F (5 * s + 35) 5) → 0 ≤ (F (5 * s + 37) k).toInt ∧ zn (F (5 * s + 37) k) ≤ t
def tpS (F : zFt) (n s : Nat) : Nat := if s + 1 < n then zn (F (5 * (s + 1) + 35) 2) else zn (F 11 6)
/-- n scorings stand, all in order -/
def FI (F : zFt) (n : Nat) : Prop := F 2 7 = nI n ∧ n ≤ 8 ∧ okV F ∧ (0 ≤ (F 25 3).toInt ∧ zn (F 25 3) ≤ 24) ∧ (∀ r, r < zn (F 25 3) → vp_in (F 27 r) 12) ∧ ∀ s, s < n → okT F s (tpS F n s)
theorem FI_eq {F G : zFt} {n : Nat} (h : FI F n) (e : ∀ k j, k ≠ 29 → k ≠ 30 → G k j = F k j) : FI G n := by
  simp (disch := omega) only [FI, okV, okE, okT, okS, tpS, cMi, cSe, sJ, sE, e] at h ⊢
  exact h
theorem FI_in {F : zFt} {n : Nat} (h : FI F (n + 1)) : cIn F = n ∧ vp_in (F 2 7 - 1) 8 := by
  have h1 := h.2.1
  rw [cIn, h.1, nI_pred, zn_nI (by omega)]
  exact ⟨rfl, vin_mk (by omega)⟩
theorem okV_cut {F : zFt} (h : okV F) {a : Nat} (ha : a ≤ zn (F 11 6)) : ∀ b, cCut F (zn (F 11 6)) b 11 6 = (if b = 0 then F 11 6 else nI (zn (F 11 6) - b))
  | 0 => rfl
  | b + 1 => by
    rw [cCut, zup_ap, if_pos ⟨rfl, rfl⟩, if_neg (by omega), show zn (F 11 6) - 1 - b = zn (F 11 6) - (b + 1) by omega]
theorem cut_ev {F : zFt} (h : okV F) {m : Int32} (hm : okM F m) : cCut F (zn (F 11 6)) (zn (F 11 6) - zn m) 11 6 = m := by
  rw [okV_cut h (Nat.le_refl _)]
  obtain ⟨h1, h2⟩ := hm
  split
  · rename_i hz
    have e : zn (F 11 6) = zn m := by omega
    rw [← nI_zn h.1, e, nI_zn h1]
  · rw [show zn (F 11 6) - (zn (F 11 6) - zn m) = zn m by omega, nI_zn h1]
abbrev cBg (F : zFt) : Int32 := F (5 * cIn F + 35) 2
abbrev cKt (F : zFt) (m : Int32) : zFt := cCut F (zn (F 11 6)) (zn (F 11 6) - zn m)
def cDr (F : zFt) : zFt := zup (cKt F (cBg F)) 2 7 (F 2 7 - 1)
theorem FI_cut {F : zFt} {n s : Nat} {m : Int32} (h : FI F (n + 1)) (hm : okM F m) (hb : zn (F (5 * n + 35) 2) ≤ zn m) : FI (zup (cKt F m) 2 7 (nI n)) n := by
  obtain ⟨h1, h2, h3, h4, h5, h6⟩ := h
  have e : ∀ k j, k ≠ 2 → k ≠ 11 → k ≠ 16 → k ≠ 17 → k ≠ 18 → k ≠ 19 → zup (cKt F m) 2 7 (nI n) k j = F k j := by
    intro k j a0 a1 a2 a3 a4 a5
    rw [zup_ap, if_neg (by omega), cKt, cCut_ne F _ a1 a2 a3 a4 a5]
  have ev : zup (cKt F m) 2 7 (nI n) 11 6 = m := by
    rw [zup_ap, if_neg (by omega)]
    exact cut_ev h3 hm
  have hmv := hm.2
  have h400 := h3.2.1
  simp only [FI, okV, tpS, ev]
  refine ⟨by rw [zup_ap, if_pos ⟨rfl, rfl⟩], by omega, ⟨hm.1, by omega, fun i hi => okE_eq (h3.2.2 i (by omega)) (fun k j hk => e k j (by omega) (by omega) (by omega) (by omega) (by omega) (by omega))⟩, by simp (disch := omega) only [e]; exact h4, by simp (disch := omega) only [e]; exact h5, fun s hs => ?_⟩
  have h7 := h6 s (by omega)
  simp (disch := omega) only [okT, okS, cMi, cSe, sJ, sE, e]
  simp only [okT, okS, cMi, cSe, sJ, sE, tpS] at h7
  by_cases hl : s + 1 < n
  · rw [if_pos (show s + 1 < n + 1 by omega)] at h7
    simp only [if_pos hl]
    exact h7
  · rw [if_pos (show s + 1 < n + 1 by omega), show s + 1 = n by omega] at h7
    simp only [if_neg hl]
    obtain ⟨g1, g2, g3, g4, g5⟩ := h7
    exact ⟨g1, g2, g3, ⟨g4.1, by omega⟩, fun k hk => ⟨(g5 k hk).1, by have := (g5 k hk).2; omega⟩⟩
theorem FI_beg {F : zFt} {n : Nat} (h : FI F (n + 1)) : okM F (F (5 * n + 35) 2) := by
  have h7 := h.2.2.2.2.2 n (by omega)
  simp only [okT, tpS, if_neg (show ¬ n + 1 < n + 1 by omega)] at h7
  exact h7.2.2.2.1
theorem FI_dr {F : zFt} {n : Nat} (h : FI F (n + 1)) : FI (cDr F) n := by
  have hi := FI_in h
  have hb := FI_beg h
  have e1 : F 2 7 - 1 = nI n := by rw [h.1, nI_pred]
  rw [cDr, cBg, hi.1, e1]
  exact FI_cut (s := 0) h hb (Nat.le_refl _)

set_option maxRecDepth 100000 in
theorem tX7_savepointNamed {L : Nat} (F : zFt) (x : Int32) (hi : ¬ F 2 7 = 0 → cIn F < 8 ∧ vp_in (F 2 7 - 1) 8) (hk : ¬ F 2 7 = 0 → 0 ≤ (F (5 * cIn F + 35) 5).toInt ∧ zn (F (5 * cIn F + 35) 5) ≤ 16) : zFn mX7_savepointNamed 1 [.ref 2, .int x] L F (some (.int (if ¬ F 2 7 = 0 then cIx F (cIn F) x else -1))) F := by
  refine e_of (lo := [some (.ref 2), some (.int x)]) (by decide +kernel) (Nat.le_of_ble_eq_true rfl) rfl ?_
  refine z_aload iX7_savepointNamed_0 rfl ?_
  refine e_getI iX7_savepointNamed_1 fX7_61 rfl ?_
  refine z_if_ne iX7_savepointNamed_4 (fun c4 => ?_) (fun c4 => ?_)
  · refine z_aload iX7_savepointNamed_11 rfl ?_
    refine e_callV iX7_savepointNamed_12 kX7_158 (tX7_innermost F (hi c4).2) rfl rfl rfl ⟨Nat.le_of_ble_eq_true rfl, Nat.le_of_ble_eq_true rfl⟩ ⟨Nat.le_of_ble_eq_true rfl, Nat.le_of_ble_eq_true rfl⟩ (Nat.le_of_ble_eq_true rfl) ?_
    dsimp only [Option.toList, List.cons_append, List.nil_append]
    refine z_iload iX7_savepointNamed_15 rfl ?_
    refine e_callV iX7_savepointNamed_16 kX7_310 (tX4_indexOfSavepoint F (cIn F) (hi c4).1 x (hk c4).1 (hk c4).2) rfl rfl (scO (cIn F) (hi c4).1) ⟨Nat.le_of_ble_eq_true rfl, Nat.le_of_ble_eq_true rfl⟩ ⟨Nat.le_of_ble_eq_true rfl, Nat.le_of_ble_eq_true rfl⟩ (Nat.le_of_ble_eq_true rfl) ?_
    dsimp only [Option.toList, List.cons_append, List.nil_append]
    exact e_iret iX7_savepointNamed_19 rfl ⟨by rw [if_pos c4], rfl⟩
  · refine z_push iX7_savepointNamed_7 ?_
    refine z_goto iX7_savepointNamed_8 ?_
    exact e_iret iX7_savepointNamed_19 rfl ⟨by rw [if_neg (not_not_intro c4)], rfl⟩

def cRf (F : zFt) : Int32 := if ¬ F 2 7 = 0 then (if F 11 6 < 400 then 0 else -104) else -103

set_option maxRecDepth 100000 in
theorem tX7_refusalOfEvent {L : Nat} (F : zFt) : zFn mX7_refusalOfEvent 0 [.ref 2] L F (some (.int (cRf F))) F := by
  refine e_of (lo := [some (.ref 2)]) (by decide +kernel) (Nat.le_of_ble_eq_true rfl) rfl ?_
  refine z_aload iX7_refusalOfEvent_0 rfl ?_
  refine e_getI iX7_refusalOfEvent_1 fX7_61 rfl ?_
  refine z_if_ne iX7_refusalOfEvent_4 (fun c4 => ?_) (fun c4 => ?_)
  · refine z_aload iX7_refusalOfEvent_10 rfl ?_
    refine e_getR iX7_refusalOfEvent_11 fX7_21 rfl ?_
    refine e_getI iX7_refusalOfEvent_14 fX7_137 rfl ?_
    refine z_push iX7_refusalOfEvent_17 ?_
    refine z_icmp_lt iX7_refusalOfEvent_20 (fun c20 => ?_) (fun c20 => ?_)
    · refine z_push iX7_refusalOfEvent_28 ?_
      exact e_iret iX7_refusalOfEvent_29 rfl ⟨by simp [cRf, *], rfl⟩
    · refine z_push iX7_refusalOfEvent_23 ?_
      refine z_goto iX7_refusalOfEvent_25 ?_
      exact e_iret iX7_refusalOfEvent_29 rfl ⟨by simp [cRf, *], rfl⟩
  · refine z_push iX7_refusalOfEvent_7 ?_
    exact e_iret iX7_refusalOfEvent_9 rfl ⟨by simp [cRf, *], rfl⟩

set_option maxRecDepth 100000 in
theorem tX7_keepForUndo {L : Nat} (F : zFt) (x : Int32) (y : Int32) (z : Int32) (hz : z = 0 ∨ z = 1) : zFn mX7_keepForUndo 0 [.ref 2, .int x, .int y, .int z] L F none (zup (zup (zup F 2 10 x) 2 11 y) 2 12 z) := by
  refine e_of (lo := [some (.ref 2), some (.int x), some (.int y), some (.int z)]) (by decide +kernel) (Nat.le_of_ble_eq_true rfl) rfl ?_
  refine z_aload iX7_keepForUndo_0 rfl ?_
  refine z_iload iX7_keepForUndo_1 rfl ?_
  refine e_putI iX7_keepForUndo_2 fX7_71 fw7_10 rfl ?_
  refine z_aload iX7_keepForUndo_5 rfl ?_
  refine z_iload iX7_keepForUndo_6 rfl ?_
  refine e_putI iX7_keepForUndo_7 fX7_74 fw7_11 rfl ?_
  refine z_aload iX7_keepForUndo_10 rfl ?_
  refine z_iload iX7_keepForUndo_11 rfl ?_
  refine e_putZ iX7_keepForUndo_12 fX7_77 fw7_12 rfl (by first | exact Or.inl rfl | exact Or.inr rfl | assumption) ?_
  exact e_vret iX7_keepForUndo_15 rfl ⟨rfl, rfl⟩

abbrev cAe (F : zFt) (x y : Int32) : zFt := cSc (cAp0 F x (sJ F (cIn F)) (sE F (cIn F)) y) (zn (F 11 6)) 1

set_option maxRecDepth 100000 in
theorem tX7_appendEvent {L : Nat} (F : zFt) (x : Int32) (y : Int32) (hi : vp_in (F 2 7 - 1) 8) (hv : vp_in (F 11 6) 400) (ho : okE (cAp0 F x (sJ F (cIn F)) (sE F (cIn F)) y) (zn (F 11 6))) (hz : F 16 (zn (F 11 6)) = 0) : zFn mX7_appendEvent 3 [.ref 2, .int x, .int y] L F none (cAe F x y) := by
  refine e_of (lo := [some (.ref 2), some (.int x), some (.int y), none]) (by decide +kernel) (Nat.le_of_ble_eq_true rfl) rfl ?_
  have hs := in_lt hi
  refine z_aload iX7_appendEvent_0 rfl ?_
  refine e_callV iX7_appendEvent_1 kX7_158 (tX7_innermost F hi) rfl rfl rfl ⟨Nat.le_of_ble_eq_true rfl, Nat.le_of_ble_eq_true rfl⟩ ⟨Nat.le_of_ble_eq_true rfl, Nat.le_of_ble_eq_true rfl⟩ (Nat.le_of_ble_eq_true rfl) ?_
  dsimp only [Option.toList, List.cons_append, List.nil_append]
  refine z_astore iX7_appendEvent_4 rfl ?_
  dsimp only [List.set_cons_zero, List.set_cons_succ]
  refine z_aload iX7_appendEvent_5 rfl ?_
  refine e_getR iX7_appendEvent_6 fX7_21 rfl ?_
  refine z_iload iX7_appendEvent_9 rfl ?_
  refine z_aload iX7_appendEvent_10 rfl ?_
  refine e_getI iX7_appendEvent_11 fX7_210 (scI0 (cIn F) hs) ?_
  refine z_aload iX7_appendEvent_14 rfl ?_
  refine e_getI iX7_appendEvent_15 fX7_162 (scI1 (cIn F) hs) ?_
  refine z_iload iX7_appendEvent_18 rfl ?_
  refine e_callV iX7_appendEvent_19 kX7_313 (tX5_append F x (sJ F (cIn F)) (sE F (cIn F)) y hv ho hz) rfl rfl rfl ⟨Nat.le_of_ble_eq_true rfl, Nat.le_of_ble_eq_true rfl⟩ ⟨Nat.le_of_ble_eq_true rfl, Nat.le_of_ble_eq_true rfl⟩ (Nat.le_of_ble_eq_true rfl) ?_
  dsimp only [Option.toList, List.cons_append, List.nil_append]
  exact e_vret iX7_appendEvent_22 rfl ⟨rfl, rfl⟩

set_option maxRecDepth 100000 in
theorem tX7_dropInnermost {L : Nat} (F : zFt) (hi : vp_in (F 2 7 - 1) 8) (hv : okV F) (hm : okM F (cBg F)) : zFn mX7_dropInnermost 3 [.ref 2] L F none (cDr F) := by
  refine e_of (lo := [some (.ref 2)]) (by decide +kernel) (Nat.le_of_ble_eq_true rfl) rfl ?_
  have hs := in_lt hi
  refine z_aload iX7_dropInnermost_0 rfl ?_
  refine e_getR iX7_dropInnermost_1 fX7_21 rfl ?_
  refine z_aload iX7_dropInnermost_4 rfl ?_
  refine e_callV iX7_dropInnermost_5 kX7_158 (tX7_innermost F hi) rfl rfl rfl ⟨Nat.le_of_ble_eq_true rfl, Nat.le_of_ble_eq_true rfl⟩ ⟨Nat.le_of_ble_eq_true rfl, Nat.le_of_ble_eq_true rfl⟩ (Nat.le_of_ble_eq_true rfl) ?_
  dsimp only [Option.toList, List.cons_append, List.nil_append]
  refine e_getI iX7_dropInnermost_8 fX7_201 (scI2 (cIn F) hs) ?_
  refine e_callV iX7_dropInnermost_11 kX7_185 (tX5_cutTo F (cBg F) hv.1 hv.2.1 hm.1 hm.2 hv.2.2) rfl rfl rfl ⟨Nat.le_of_ble_eq_true rfl, Nat.le_of_ble_eq_true rfl⟩ ⟨Nat.le_of_ble_eq_true rfl, Nat.le_of_ble_eq_true rfl⟩ (Nat.le_of_ble_eq_true rfl) ?_
  dsimp only [Option.toList, List.cons_append, List.nil_append]
  refine z_aload iX7_dropInnermost_14 rfl ?_
  refine z_dup iX7_dropInnermost_15 rfl ?_
  refine e_getI iX7_dropInnermost_16 fX7_61 rfl ?_
  rw [cCut_ne F _ (by decide) (by decide) (by decide) (by decide) (by decide)]
  refine z_push iX7_dropInnermost_19 ?_
  refine z_isub iX7_dropInnermost_20 ?_
  refine e_putI iX7_dropInnermost_21 fX7_61 fw7_7 rfl ?_
  exact e_vret iX7_dropInnermost_24 rfl ⟨rfl, rfl⟩
