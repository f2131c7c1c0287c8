abbrev sIx (F : zFt) (i : Int32) : Nat := zn (F 2 7 - 1 - i)
def pScoring (F : zFt) (i w : Int32) : Int32 × zFt := if i < 0 then (-101, F) else if i < F 2 7 then (if 0 ≤ w then (if w.toInt = 0 then (F (5 * sIx F i + 35) 0, F) else if w.toInt = 1 then (F (5 * sIx F i + 35) 1, F) else if w.toInt = 2 then (F (5 * sIx F i + 35) 5, F) else if w.toInt = 3 then (F (5 * sIx F i + 35) 8, F) else if F (5 * sIx F i + 35) 5 ≤ w - 4 then (-1, F) else (F (5 * sIx F i + 36) (zn (w - 4)), F)) else (-102, F)) else (-101, F)
theorem sIx_ok {F : zFt} (h : CI F) {i : Int32} (h0 : ¬ i < 0) (h1 : i < F 2 7) : vp_in (F 2 7 - 1 - i) 8 ∧ sIx F i < zn (F 2 7) ∧ sIx F i = zn (F 2 7) - 1 - zn i ∧ zn i < zn (F 2 7) := by
  have h7 := h.2.2.2.2.2.2.1
  have e7 := vin_nI h7
  have l7 := vin_le1 h7
  rw [Int32.lt_iff_toInt_lt] at h0 h1
  simp at h0
  have ei := nI_zn h0
  have e2 := zn_int h0
  have e3 := zn_int (vin_0 h7)
  have l2 : zn i < zn (F 2 7) := by omega
  have e4 : F 2 7 - 1 - i = nI (zn (F 2 7) - 1 - zn i) := by
    have a1 : F 2 7 - 1 = nI (zn (F 2 7) - 1) := by
      have := nI_s1 (a := zn (F 2 7)) (by omega)
      rw [e7] at this
      exact this
    rw [a1]
    have := pk_sub (a := zn (F 2 7) - 1) (b := zn i) (by omega)
    rw [ei] at this
    exact this
  have e5 : sIx F i = zn (F 2 7) - 1 - zn i := by rw [sIx, e4, zn_nI (by omega)]
  refine ⟨?_, by omega, e5, l2⟩
  rw [e4]
  exact vin_mk (by omega)
theorem scO_at {F : zFt} (h : CI F) {s : Nat} (hs : s < zn (F 2 7)) : okT F s (tpS F (zn (F 2 7)) s) := sc_okT h.1 (h.2.2.2.2.2.2.2.1 s hs)
theorem w4_in {c w : Int32} (h0 : 0 ≤ c.toInt) (h16 : zn c ≤ 16) (hw : 4 ≤ w.toInt) (h : ¬ c ≤ w - 4) : vp_in (w - 4) 16 ∧ zn (w - 4) < zn c := by
  rw [Int32.le_iff_toInt_le, tI_sub] at h
  simp at h
  have e := zn_int h0
  have a := tI_hi w
  have l1 : (w - 4).toInt = w.toInt - 4 := by
    rw [tI_sub]
    simp
    omega
  have l2 := zn_int (x := w - 4) (by omega)
  rw [vin]
  omega

set_option maxRecDepth 100000 in
theorem tX7_scoring {L : Nat} (F : zFt) (i : Int32) (w : Int32) (h : CI F) : zFn mX7_scoring 0 [.ref 2, .int i, .int w] L F (some (.int (pScoring F i w).1)) (pScoring F i w).2 := by
  refine e_of (lo := [some (.ref 2), some (.int i), some (.int w), none]) (by decide +kernel) (Nat.le_of_ble_eq_true rfl) rfl ?_
  refine z_iload iX7_scoring_0 rfl ?_
  refine z_if_lt iX7_scoring_1 (fun c1 => ?_) (fun c1 => ?_)
  · refine z_push iX7_scoring_12 ?_
    exact e_iret iX7_scoring_14 rfl ⟨by simp [pScoring, c1], by simp [pScoring, c1]⟩
  · refine z_iload iX7_scoring_4 rfl ?_
    refine z_aload iX7_scoring_5 rfl ?_
    refine e_getI iX7_scoring_6 fX7_61 rfl ?_
    refine z_icmp_lt iX7_scoring_9 (fun c9 => ?_) (fun c9 => ?_)
    · refine z_iload iX7_scoring_15 rfl ?_
      refine z_if_ge iX7_scoring_16 (fun c16 => ?_) (fun c16 => ?_)
      · refine z_aload iX7_scoring_22 rfl ?_
        refine e_getR iX7_scoring_23 fX7_57 rfl ?_
        refine z_aload iX7_scoring_26 rfl ?_
        refine e_getI iX7_scoring_27 fX7_61 rfl ?_
        refine z_push iX7_scoring_30 ?_
        refine z_isub iX7_scoring_31 ?_
        refine z_iload iX7_scoring_32 rfl ?_
        refine z_isub iX7_scoring_33 ?_
        refine e_aald iX7_scoring_34 (sIx_ok h c1 c9).1 ?_
        refine z_astore iX7_scoring_35 rfl ?_
        dsimp only [List.set_cons_zero, List.set_cons_succ]
        refine z_iload iX7_scoring_36 rfl ?_
        refine z_tsw iX7_scoring_37 (fun j t hj hx => ?_) (fun hx => ?_)
        · match j, hj with
          | 0, hj =>
            cases hj
            have e1 : w.toInt = 0 := hx
            refine z_aload iX7_scoring_68 rfl ?_
            refine e_getI iX7_scoring_69 fX7_210 (scI0 (sIx F i) (vin_zn (sIx_ok h c1 c9).1)) ?_
            exact e_iret iX7_scoring_72 rfl ⟨by simp [pScoring, c1, c9, c16, e1], by simp [pScoring, c1, c9, c16, e1]⟩
          | 1, hj =>
            cases hj
            have e1 : w.toInt = 1 := hx
            refine z_aload iX7_scoring_73 rfl ?_
            refine e_getI iX7_scoring_74 fX7_162 (scI1 (sIx F i) (vin_zn (sIx_ok h c1 c9).1)) ?_
            exact e_iret iX7_scoring_77 rfl ⟨by simp [pScoring, c1, c9, c16, e1], by simp [pScoring, c1, c9, c16, e1]⟩
          | 2, hj =>
            cases hj
            have e1 : w.toInt = 2 := hx
            refine z_aload iX7_scoring_78 rfl ?_
            refine e_getI iX7_scoring_79 fX7_189 (scI5 (sIx F i) (vin_zn (sIx_ok h c1 c9).1)) ?_
            exact e_iret iX7_scoring_82 rfl ⟨by simp [pScoring, c1, c9, c16, e1], by simp [pScoring, c1, c9, c16, e1]⟩
          | 3, hj =>
            cases hj
            have e1 : w.toInt = 3 := hx
            refine z_aload iX7_scoring_83 rfl ?_
            refine e_getI iX7_scoring_84 fX7_195 (scI8 (sIx F i) (vin_zn (sIx_ok h c1 c9).1)) ?_
            exact e_iret iX7_scoring_87 rfl ⟨by simp [pScoring, c1, c9, c16, e1], by simp [pScoring, c1, c9, c16, e1]⟩
          | j + 4, hj => simp at hj
        · have hw4 : 4 ≤ w.toInt := by
            have hw0 := zle0.mp c16
            simp at hx
            omega
          have hok := scO_at h (sIx_ok h c1 c9).2.1
          have n0 : ¬ w.toInt = 0 := by omega
          have n1 : ¬ w.toInt = 1 := by omega
          have n2 : ¬ w.toInt = 2 := by omega
          have n3 : ¬ w.toInt = 3 := by omega
          refine z_iload iX7_scoring_88 rfl ?_
          refine z_push iX7_scoring_89 ?_
          refine z_isub iX7_scoring_90 ?_
          refine z_aload iX7_scoring_91 rfl ?_
          refine e_getI iX7_scoring_92 fX7_189 (scI5 (sIx F i) (vin_zn (sIx_ok h c1 c9).1)) ?_
          refine z_icmp_ge iX7_scoring_95 (fun c95 => ?_) (fun c95 => ?_)
          · refine z_push iX7_scoring_109 ?_
            exact e_iret iX7_scoring_110 rfl ⟨by simp [pScoring, c1, c9, c16, n0, n1, n2, n3, c95], by simp [pScoring, c1, c9, c16, n0, n1, n2, n3, c95]⟩
          · refine z_aload iX7_scoring_98 rfl ?_
            refine e_getR iX7_scoring_99 fX7_213 (scR3 (sIx F i) (vin_zn (sIx_ok h c1 c9).1)) ?_
            refine z_iload iX7_scoring_102 rfl ?_
            refine z_push iX7_scoring_103 ?_
            refine z_isub iX7_scoring_104 ?_
            refine e_iald iX7_scoring_105 (scA3 (sIx F i) (vin_zn (sIx_ok h c1 c9).1)) (w4_in hok.2.1.1 hok.2.1.2 hw4 c95).1 ?_
            refine z_goto iX7_scoring_106 ?_
            exact e_iret iX7_scoring_110 rfl ⟨by simp [pScoring, c1, c9, c16, n0, n1, n2, n3, c95], by simp [pScoring, c1, c9, c16, n0, n1, n2, n3, c95]⟩
      · refine z_push iX7_scoring_19 ?_
        exact e_iret iX7_scoring_21 rfl ⟨by simp [pScoring, c1, c9, c16], by simp [pScoring, c1, c9, c16]⟩
    · refine z_push iX7_scoring_12 ?_
      exact e_iret iX7_scoring_14 rfl ⟨by simp [pScoring, c1, c9], by simp [pScoring, c1, c9]⟩

def pTold (F : zFt) (e w : Int32) : Int32 × zFt := if zin e (F 3 9) = false then (-101, F) else if w.toInt = 0 then (F 10 (zn e), F) else if w.toInt = 1 then (cTv F e, cTF F e) else if w.toInt = 2 then (F 17 (zn e), F) else if w.toInt = 3 then (zfold (gRb F e) 0 8, F) else if w.toInt = 4 then (cRk F (F 10 (zn e)) 23 (zn e), cRk F (F 10 (zn e))) else if w.toInt = 5 then (cTn (cRk F (F 10 (zn e))) e, cRk F (F 10 (zn e))) else if w.toInt = 6 then (cSr (cRk F (F 10 (zn e))) e, cRk F (F 10 (zn e))) else (-102, F)

set_option maxRecDepth 100000 in
theorem tX7_told {L : Nat} (F : zFt) (e : Int32) (w : Int32) (h : CI F) : zFn mX7_told 6 [.ref 2, .int e, .int w] L F (some (.int (pTold F e w).1)) (pTold F e w).2 := by
  refine e_of (lo := [some (.ref 2), some (.int e), some (.int w)]) (by decide +kernel) (Nat.le_of_ble_eq_true rfl) rfl ?_
  refine z_aload iX7_told_0 rfl ?_
  refine e_getR iX7_told_1 fX7_12 rfl ?_
  refine z_iload iX7_told_4 rfl ?_
  refine e_callV iX7_told_5 kX7_127 (tX6_hasEntry F _) rfl rfl rfl ⟨Nat.le_of_ble_eq_true rfl, Nat.le_of_ble_eq_true rfl⟩ ⟨Nat.le_of_ble_eq_true rfl, Nat.le_of_ble_eq_true rfl⟩ (Nat.le_of_ble_eq_true rfl) ?_
  dsimp only [Option.toList, List.cons_append, List.nil_append]
  refine z_if_ne iX7_told_8 (fun c8 => ?_) (fun c8 => ?_)
  · rw [zb_n] at c8
    refine z_iload iX7_told_14 rfl ?_
    refine z_tsw iX7_told_15 (fun j t hj hx => ?_) (fun hx => ?_)
    · match j, hj with
      | 0, hj =>
        cases hj
        have e1 : w.toInt = 0 := hx
        refine z_aload iX7_told_56 rfl ?_
        refine e_getR iX7_told_57 fX7_12 rfl ?_
        refine e_getR iX7_told_60 fX7_134 rfl ?_
        refine z_iload iX7_told_63 rfl ?_
        refine e_iald iX7_told_64 rfl (sh_en h.1 (zin_v c8)) ?_
        exact e_iret iX7_told_65 rfl ⟨by simp [pTold, c8, e1], by simp [pTold, c8, e1]⟩
      | 1, hj =>
        cases hj
        have e1 : w.toInt = 1 := hx
        refine z_aload iX7_told_66 rfl ?_
        refine e_getR iX7_told_67 fX7_30 rfl ?_
        refine z_iload iX7_told_70 rfl ?_
        refine e_callV iX7_told_71 kX7_216 (tX2_totalOf F e (sh_en h.1 (zin_v c8)) (sh_okC h.1 (vin_zn (zin_v c8))).1 (sh_okC h.1 (vin_zn (zin_v c8))).2.1 (sh_okC h.1 (vin_zn (zin_v c8))).2.2.1 (sh_okC h.1 (vin_zn (zin_v c8))).2.2.2) rfl rfl rfl ⟨Nat.le_of_ble_eq_true rfl, Nat.le_of_ble_eq_true rfl⟩ ⟨Nat.le_of_ble_eq_true rfl, Nat.le_of_ble_eq_true rfl⟩ (Nat.le_of_ble_eq_true rfl) ?_
        dsimp only [Option.toList, List.cons_append, List.nil_append]
        exact e_iret iX7_told_74 rfl ⟨by simp [pTold, c8, e1], by simp [pTold, c8, e1]⟩
      | 2, hj =>
        cases hj
        have e1 : w.toInt = 2 := hx
        refine z_aload iX7_told_75 rfl ?_
        refine e_getR iX7_told_76 fX7_21 rfl ?_
        refine e_getR iX7_told_79 fX7_155 rfl ?_
        refine z_iload iX7_told_82 rfl ?_
        refine e_iald iX7_told_83 rfl (sh_en h.1 (zin_v c8)) ?_
        exact e_iret iX7_told_84 rfl ⟨by simp [pTold, c8, e1], by simp [pTold, c8, e1]⟩
      | 3, hj =>
        cases hj
        have e1 : w.toInt = 3 := hx
        refine z_aload iX7_told_85 rfl ?_
        refine e_getR iX7_told_86 fX7_21 rfl ?_
        refine z_iload iX7_told_89 rfl ?_
        refine e_callV iX7_told_90 kX7_165 (tX5_remarkBits F e (sh_en h.1 (zin_v c8))) rfl rfl rfl ⟨Nat.le_of_ble_eq_true rfl, Nat.le_of_ble_eq_true rfl⟩ ⟨Nat.le_of_ble_eq_true rfl, Nat.le_of_ble_eq_true rfl⟩ (Nat.le_of_ble_eq_true rfl) ?_
        dsimp only [Option.toList, List.cons_append, List.nil_append]
        exact e_iret iX7_told_93 rfl ⟨by simp [pTold, c8, e1], by simp [pTold, c8, e1]⟩
      | 4, hj =>
        cases hj
        have e1 : w.toInt = 4 := hx
        refine z_aload iX7_told_94 rfl ?_
        refine e_getR iX7_told_95 fX7_30 rfl ?_
        refine z_iload iX7_told_98 rfl ?_
        refine e_callV iX7_told_99 kX7_219 (tX2_rankOf F e (vin_0 h.1.2.2.1) (vin_le1 h.1.2.2.1) (fun e he => sh_okC h.1 he) c8) rfl rfl rfl ⟨Nat.le_of_ble_eq_true rfl, Nat.le_of_ble_eq_true rfl⟩ ⟨Nat.le_of_ble_eq_true rfl, Nat.le_of_ble_eq_true rfl⟩ (Nat.le_of_ble_eq_true rfl) ?_
        dsimp only [Option.toList, List.cons_append, List.nil_append]
        exact e_iret iX7_told_102 rfl ⟨by simp [pTold, c8, e1], by simp [pTold, c8, e1]⟩
      | 5, hj =>
        cases hj
        have e1 : w.toInt = 5 := hx
        refine z_aload iX7_told_103 rfl ?_
        refine e_getR iX7_told_104 fX7_30 rfl ?_
        refine z_iload iX7_told_107 rfl ?_
        refine e_callV iX7_told_108 kX7_222 (tX2_sharersOf F e (vin_0 h.1.2.2.1) (vin_le1 h.1.2.2.1) (fun e he => sh_okC h.1 he) c8) rfl rfl rfl ⟨Nat.le_of_ble_eq_true rfl, Nat.le_of_ble_eq_true rfl⟩ ⟨Nat.le_of_ble_eq_true rfl, Nat.le_of_ble_eq_true rfl⟩ (Nat.le_of_ble_eq_true rfl) ?_
        dsimp only [Option.toList, List.cons_append, List.nil_append]
        exact e_iret iX7_told_111 rfl ⟨by simp [pTold, c8, e1], by simp [pTold, c8, e1]⟩
      | 6, hj =>
        cases hj
        have e1 : w.toInt = 6 := hx
        refine z_aload iX7_told_112 rfl ?_
        refine e_getR iX7_told_113 fX7_30 rfl ?_
        refine z_iload iX7_told_116 rfl ?_
        refine e_callV iX7_told_117 kX7_225 (tX2_prizeOf F e (vin_0 h.1.2.2.1) (vin_le1 h.1.2.2.1) (fun e he => sh_okC h.1 he) c8) rfl rfl rfl ⟨Nat.le_of_ble_eq_true rfl, Nat.le_of_ble_eq_true rfl⟩ ⟨Nat.le_of_ble_eq_true rfl, Nat.le_of_ble_eq_true rfl⟩ (Nat.le_of_ble_eq_true rfl) ?_
        dsimp only [Option.toList, List.cons_append, List.nil_append]
        exact e_iret iX7_told_120 rfl ⟨by simp [pTold, c8, e1], by simp [pTold, c8, e1]⟩
      | j + 7, hj => simp at hj
    · have n0 : ¬ w.toInt = 0 := by simp at hx; omega
      have n1 : ¬ w.toInt = 1 := by simp at hx; omega
      have n2 : ¬ w.toInt = 2 := by simp at hx; omega
      have n3 : ¬ w.toInt = 3 := by simp at hx; omega
      have n4 : ¬ w.toInt = 4 := by simp at hx; omega
      have n5 : ¬ w.toInt = 5 := by simp at hx; omega
      have n6 : ¬ w.toInt = 6 := by simp at hx; omega
      refine z_push iX7_told_121 ?_
      exact e_iret iX7_told_123 rfl ⟨by simp [pTold, c8, n0, n1, n2, n3, n4, n5, n6], by simp [pTold, c8, n0, n1, n2, n3, n4, n5, n6]⟩
  · rw [zb_0] at c8
    refine z_push iX7_told_11 ?_
    exact e_iret iX7_told_13 rfl ⟨by simp [pTold, c8], by simp [pTold, c8]⟩

def pMark (F : zFt) (e j : Int32) : Int32 × zFt := if zin e (F 3 9) = false then (-101, F) else if zin j (F 3 8) = false then (-101, F) else if F 9 (zn j) = F 10 (zn e) then (F 18 (zn (cMi F e j)), F) else (-102, F)

set_option maxRecDepth 100000 in
theorem tX7_mark {L : Nat} (F : zFt) (e : Int32) (j : Int32) (h : CI F) : zFn mX7_mark 2 [.ref 2, .int e, .int j] L F (some (.int (pMark F e j).1)) (pMark F e j).2 := by
  refine e_of (lo := [some (.ref 2), some (.int e), some (.int j)]) (by decide +kernel) (Nat.le_of_ble_eq_true rfl) rfl ?_
  refine z_aload iX7_mark_0 rfl ?_
  refine e_getR iX7_mark_1 fX7_12 rfl ?_
  refine z_iload iX7_mark_4 rfl ?_
  refine e_callV iX7_mark_5 kX7_127 (tX6_hasEntry F _) rfl rfl rfl ⟨Nat.le_of_ble_eq_true rfl, Nat.le_of_ble_eq_true rfl⟩ ⟨Nat.le_of_ble_eq_true rfl, Nat.le_of_ble_eq_true rfl⟩ (Nat.le_of_ble_eq_true rfl) ?_
  dsimp only [Option.toList, List.cons_append, List.nil_append]
  refine z_if_eq iX7_mark_8 (fun c8 => ?_) (fun c8 => ?_)
  · rw [zb_0] at c8
    refine z_push iX7_mark_22 ?_
    exact e_iret iX7_mark_24 rfl ⟨by simp [pMark, c8], by simp [pMark, c8]⟩
  · rw [zb_n] at c8
    refine z_aload iX7_mark_11 rfl ?_
    refine e_getR iX7_mark_12 fX7_12 rfl ?_
    refine z_iload iX7_mark_15 rfl ?_
    refine e_callV iX7_mark_16 kX7_124 (tX6_hasJudge F _) rfl rfl rfl ⟨Nat.le_of_ble_eq_true rfl, Nat.le_of_ble_eq_true rfl⟩ ⟨Nat.le_of_ble_eq_true rfl, Nat.le_of_ble_eq_true rfl⟩ (Nat.le_of_ble_eq_true rfl) ?_
    dsimp only [Option.toList, List.cons_append, List.nil_append]
    refine z_if_ne iX7_mark_19 (fun c19 => ?_) (fun c19 => ?_)
    · rw [zb_n] at c19
      refine z_aload iX7_mark_25 rfl ?_
      refine e_getR iX7_mark_26 fX7_12 rfl ?_
      refine e_getR iX7_mark_29 fX7_130 rfl ?_
      refine z_iload iX7_mark_32 rfl ?_
      refine e_iald iX7_mark_33 rfl (sh_jg h.1 (zin_v c19)) ?_
      refine z_aload iX7_mark_34 rfl ?_
      refine e_getR iX7_mark_35 fX7_12 rfl ?_
      refine e_getR iX7_mark_38 fX7_134 rfl ?_
      refine z_iload iX7_mark_41 rfl ?_
      refine e_iald iX7_mark_42 rfl (sh_en h.1 (zin_v c8)) ?_
      refine z_icmp_eq iX7_mark_43 (fun c43 => ?_) (fun c43 => ?_)
      · refine z_aload iX7_mark_49 rfl ?_
        refine e_getR iX7_mark_50 fX7_21 rfl ?_
        refine z_iload iX7_mark_53 rfl ?_
        refine z_iload iX7_mark_54 rfl ?_
        refine e_callV iX7_mark_55 kX7_228 (tX5_markBy F e j (sh_jg h.1 (zin_v c19)) (sh_jc h.1 (zin_v c19)) (sh_mx h.1 (zin_v c8) (zin_v c19))) rfl rfl rfl ⟨Nat.le_of_ble_eq_true rfl, Nat.le_of_ble_eq_true rfl⟩ ⟨Nat.le_of_ble_eq_true rfl, Nat.le_of_ble_eq_true rfl⟩ (Nat.le_of_ble_eq_true rfl) ?_
        dsimp only [Option.toList, List.cons_append, List.nil_append]
        exact e_iret iX7_mark_58 rfl ⟨by simp [pMark, c8, c19, c43], by simp [pMark, c8, c19, c43]⟩
      · refine z_push iX7_mark_46 ?_
        exact e_iret iX7_mark_48 rfl ⟨by simp [pMark, c8, c19, c43], by simp [pMark, c8, c19, c43]⟩
    · rw [zb_0] at c19
      refine z_push iX7_mark_22 ?_
      exact e_iret iX7_mark_24 rfl ⟨by simp [pMark, c8, c19], by simp [pMark, c8, c19]⟩

def pPlace (F : zFt) (c x : Int32) : Int32 × zFt := if zin c (F 3 7) = false then (-101, F) else (zea (cRk F c) c x (zn (F 3 9)) 0, cRk F c)

set_option maxRecDepth 100000 in
theorem tX7_place {L : Nat} (F : zFt) (c : Int32) (x : Int32) (h : CI F) : zFn mX7_place 6 [.ref 2, .int c, .int x] L F (some (.int (pPlace F c x).1)) (pPlace F c x).2 := by
  refine e_of (lo := [some (.ref 2), some (.int c), some (.int x)]) (by decide +kernel) (Nat.le_of_ble_eq_true rfl) rfl ?_
  refine z_aload iX7_place_0 rfl ?_
  refine e_getR iX7_place_1 fX7_12 rfl ?_
  refine z_iload iX7_place_4 rfl ?_
  refine e_callV iX7_place_5 kX7_89 (tX6_hasClass F _) rfl rfl rfl ⟨Nat.le_of_ble_eq_true rfl, Nat.le_of_ble_eq_true rfl⟩ ⟨Nat.le_of_ble_eq_true rfl, Nat.le_of_ble_eq_true rfl⟩ (Nat.le_of_ble_eq_true rfl) ?_
  dsimp only [Option.toList, List.cons_append, List.nil_append]
  refine z_if_ne iX7_place_8 (fun c8 => ?_) (fun c8 => ?_)
  · rw [zb_n] at c8
    refine z_aload iX7_place_14 rfl ?_
    refine e_getR iX7_place_15 fX7_30 rfl ?_
    refine z_iload iX7_place_18 rfl ?_
    refine z_iload iX7_place_19 rfl ?_
    refine e_callV iX7_place_20 kX7_231 (tX2_entryAt F c x (vin_0 h.1.2.2.1) (vin_le1 h.1.2.2.1) (fun e he => sh_okC h.1 he)) rfl rfl rfl ⟨Nat.le_of_ble_eq_true rfl, Nat.le_of_ble_eq_true rfl⟩ ⟨Nat.le_of_ble_eq_true rfl, Nat.le_of_ble_eq_true rfl⟩ (Nat.le_of_ble_eq_true rfl) ?_
    dsimp only [Option.toList, List.cons_append, List.nil_append]
    exact e_iret iX7_place_23 rfl ⟨by simp [pPlace, c8], by simp [pPlace, c8]⟩
  · rw [zb_0] at c8
    refine z_push iX7_place_11 ?_
    exact e_iret iX7_place_13 rfl ⟨by simp [pPlace, c8], by simp [pPlace, c8]⟩

abbrev cCl (F : zFt) (c : Int32) : zFt := zup (zup (zup (zup F 2 10 2) 2 11 c) 2 12 0) 7 (zn c) 1
def pClose (F : zFt) (c : Int32) : Int32 × zFt := if zin c (F 3 7) = false then (-101, F) else if 0 < F 2 7 then (-103, F) else if F 7 (zn c) = 0 then (zfold (gEo F 10 c) 0 (zn (F 3 9)), cCl F c) else (-103, F)
theorem gEo_eq (F G : zFt) (k : Nat) (c : Int32) (h : ∀ i, G k i = F k i) : gEo G k c = gEo F k c := by
  funext i a
  simp only [gEo, h]

set_option maxRecDepth 100000 in
theorem tX7_close {L : Nat} (F : zFt) (c : Int32) (h : CI F) : zFn mX7_close 1 [.ref 2, .int c] L F (some (.int (pClose F c).1)) (pClose F c).2 := by
  refine e_of (lo := [some (.ref 2), some (.int c)]) (by decide +kernel) (Nat.le_of_ble_eq_true rfl) rfl ?_
  refine z_aload iX7_close_0 rfl ?_
  refine e_getR iX7_close_1 fX7_12 rfl ?_
  refine z_iload iX7_close_4 rfl ?_
  refine e_callV iX7_close_5 kX7_89 (tX6_hasClass F _) rfl rfl rfl ⟨Nat.le_of_ble_eq_true rfl, Nat.le_of_ble_eq_true rfl⟩ ⟨Nat.le_of_ble_eq_true rfl, Nat.le_of_ble_eq_true rfl⟩ (Nat.le_of_ble_eq_true rfl) ?_
  dsimp only [Option.toList, List.cons_append, List.nil_append]
  refine z_if_ne iX7_close_8 (fun c8 => ?_) (fun c8 => ?_)
  · rw [zb_n] at c8
    refine z_aload iX7_close_14 rfl ?_
    refine e_getI iX7_close_15 fX7_61 rfl ?_
    refine z_if_gt iX7_close_18 (fun c18 => ?_) (fun c18 => ?_)
    · refine z_push iX7_close_33 ?_
      exact e_iret iX7_close_35 rfl ⟨by simp [pClose, c8, c18], by simp [pClose, c8, c18]⟩
    · refine z_aload iX7_close_21 rfl ?_
      refine e_getR iX7_close_22 fX7_12 rfl ?_
      refine e_getR iX7_close_25 fX7_93 rfl ?_
      refine z_iload iX7_close_28 rfl ?_
      refine e_bald iX7_close_29 rfl (sh_cl h.1 (zin_v c8)) ?_
      refine z_if_eq iX7_close_30 (fun c30 => ?_) (fun c30 => ?_)
      · refine z_aload iX7_close_36 rfl ?_
        refine z_push iX7_close_37 ?_
        refine z_iload iX7_close_38 rfl ?_
        refine z_push iX7_close_39 ?_
        refine e_callV iX7_close_40 kX7_234 (tX7_keepForUndo F 2 c 0 (Or.inl rfl)) rfl rfl rfl ⟨Nat.le_of_ble_eq_true rfl, Nat.le_of_ble_eq_true rfl⟩ ⟨Nat.le_of_ble_eq_true rfl, Nat.le_of_ble_eq_true rfl⟩ (Nat.le_of_ble_eq_true rfl) ?_
        dsimp only [Option.toList, List.cons_append, List.nil_append]
        refine z_aload iX7_close_43 rfl ?_
        refine e_getR iX7_close_44 fX7_12 rfl ?_
        refine e_getR iX7_close_47 fX7_93 rfl ?_
        refine z_iload iX7_close_50 rfl ?_
        refine z_push iX7_close_51 ?_
        refine e_bast iX7_close_52 rfl (sh_cl h.1 (zin_v c8)) (by first | exact Or.inl rfl | exact Or.inr rfl | assumption) ?_
        refine z_aload iX7_close_53 rfl ?_
        refine e_getR iX7_close_54 fX7_12 rfl ?_
        try simp only [zup_ap, Nat.add_left_cancel_iff, Nat.reduceEqDiff, false_and, true_and, and_self, eq_self, ↓reduceIte]
        refine z_iload iX7_close_57 rfl ?_
        refine e_callV iX7_close_58 kX7_238 (tX6_entriesOf (cCl F c) c (vin_0 h.1.2.2.1) (vin_le1 h.1.2.2.1)) rfl rfl rfl ⟨Nat.le_of_ble_eq_true rfl, Nat.le_of_ble_eq_true rfl⟩ ⟨Nat.le_of_ble_eq_true rfl, Nat.le_of_ble_eq_true rfl⟩ (Nat.le_of_ble_eq_true rfl) ?_
        dsimp only [Option.toList, List.cons_append, List.nil_append]
        rw [gEo_eq F (cCl F c) 10 c (fun i => rfl), show cCl F c 3 9 = F 3 9 from rfl]
        exact e_iret iX7_close_61 rfl ⟨by simp [pClose, c8, c18, c30], by simp [pClose, c8, c18, c30]⟩
      · refine z_push iX7_close_33 ?_
        exact e_iret iX7_close_35 rfl ⟨by simp [pClose, c8, c18, c30], by simp [pClose, c8, c18, c30]⟩
  · rw [zb_0] at c8
    refine z_push iX7_close_11 ?_
    exact e_iret iX7_close_13 rfl ⟨by simp [pClose, c8], by simp [pClose, c8]⟩

def pAbout (F : zFt) (c w : Int32) : Int32 × zFt := if zin c (F 3 7) = false then (-101, F) else if w.toInt = 0 then (F 4 (zn c), F) else if w.toInt = 1 then (F 5 (zn c), F) else if w.toInt = 2 then (F 6 (zn c), F) else if w.toInt = 3 then (zfold (gEo F 10 c) 0 (zn (F 3 9)), F) else if w.toInt = 4 then (if F 7 (zn c) = 0 then 0 else 1, F) else if w.toInt = 5 then (zfold (gPl (cRk F c) c) (zpf (cRk F c 8) c 3 4 1 0) (zn (F 3 9)), cRk F c) else (-102, F)

set_option maxRecDepth 100000 in
theorem tX7_about {L : Nat} (F : zFt) (c : Int32) (w : Int32) (h : CI F) : zFn mX7_about 6 [.ref 2, .int c, .int w] L F (some (.int (pAbout F c w).1)) (pAbout F c w).2 := by
  refine e_of (lo := [some (.ref 2), some (.int c), some (.int w)]) (by decide +kernel) (Nat.le_of_ble_eq_true rfl) rfl ?_
  refine z_aload iX7_about_0 rfl ?_
  refine e_getR iX7_about_1 fX7_12 rfl ?_
  refine z_iload iX7_about_4 rfl ?_
  refine e_callV iX7_about_5 kX7_89 (tX6_hasClass F _) rfl rfl rfl ⟨Nat.le_of_ble_eq_true rfl, Nat.le_of_ble_eq_true rfl⟩ ⟨Nat.le_of_ble_eq_true rfl, Nat.le_of_ble_eq_true rfl⟩ (Nat.le_of_ble_eq_true rfl) ?_
  dsimp only [Option.toList, List.cons_append, List.nil_append]
  refine z_if_ne iX7_about_8 (fun c8 => ?_) (fun c8 => ?_)
  · rw [zb_n] at c8
    refine z_iload iX7_about_14 rfl ?_
    refine z_tsw iX7_about_15 (fun j t hj hx => ?_) (fun hx => ?_)
    · match j, hj with
      | 0, hj =>
        cases hj
        have e1 : w.toInt = 0 := hx
        refine z_aload iX7_about_52 rfl ?_
        refine e_getR iX7_about_53 fX7_12 rfl ?_
        refine e_getR iX7_about_56 fX7_241 rfl ?_
        refine z_iload iX7_about_59 rfl ?_
        refine e_iald iX7_about_60 rfl (sh_cl h.1 (zin_v c8)) ?_
        exact e_iret iX7_about_61 rfl ⟨by simp [pAbout, c8, e1], by simp [pAbout, c8, e1]⟩
      | 1, hj =>
        cases hj
        have e1 : w.toInt = 1 := hx
        refine z_aload iX7_about_62 rfl ?_
        refine e_getR iX7_about_63 fX7_12 rfl ?_
        refine e_getR iX7_about_66 fX7_244 rfl ?_
        refine z_iload iX7_about_69 rfl ?_
        refine e_iald iX7_about_70 rfl (sh_cl h.1 (zin_v c8)) ?_
        exact e_iret iX7_about_71 rfl ⟨by simp [pAbout, c8, e1], by simp [pAbout, c8, e1]⟩
      | 2, hj =>
        cases hj
        have e1 : w.toInt = 2 := hx
        refine z_aload iX7_about_72 rfl ?_
        refine e_getR iX7_about_73 fX7_12 rfl ?_
        refine e_getR iX7_about_76 fX7_247 rfl ?_
        refine z_iload iX7_about_79 rfl ?_
        refine e_iald iX7_about_80 rfl (sh_cl h.1 (zin_v c8)) ?_
        exact e_iret iX7_about_81 rfl ⟨by simp [pAbout, c8, e1], by simp [pAbout, c8, e1]⟩
      | 3, hj =>
        cases hj
        have e1 : w.toInt = 3 := hx
        refine z_aload iX7_about_82 rfl ?_
        refine e_getR iX7_about_83 fX7_12 rfl ?_
        refine z_iload iX7_about_86 rfl ?_
        refine e_callV iX7_about_87 kX7_238 (tX6_entriesOf F c (vin_0 h.1.2.2.1) (vin_le1 h.1.2.2.1)) rfl rfl rfl ⟨Nat.le_of_ble_eq_true rfl, Nat.le_of_ble_eq_true rfl⟩ ⟨Nat.le_of_ble_eq_true rfl, Nat.le_of_ble_eq_true rfl⟩ (Nat.le_of_ble_eq_true rfl) ?_
        dsimp only [Option.toList, List.cons_append, List.nil_append]
        exact e_iret iX7_about_90 rfl ⟨by simp [pAbout, c8, e1], by simp [pAbout, c8, e1]⟩
      | 4, hj =>
        cases hj
        have e1 : w.toInt = 4 := hx
        refine z_aload iX7_about_91 rfl ?_
        refine e_getR iX7_about_92 fX7_12 rfl ?_
        refine e_getR iX7_about_95 fX7_93 rfl ?_
        refine z_iload iX7_about_98 rfl ?_
        refine e_bald iX7_about_99 rfl (sh_cl h.1 (zin_v c8)) ?_
        refine z_if_eq iX7_about_100 (fun c100 => ?_) (fun c100 => ?_)
        · refine z_push iX7_about_107 ?_
          exact e_iret iX7_about_108 rfl ⟨by simp [pAbout, c8, c100, e1], by simp [pAbout, c8, c100, e1]⟩
        · refine z_push iX7_about_103 ?_
          refine z_goto iX7_about_104 ?_
          exact e_iret iX7_about_108 rfl ⟨by simp [pAbout, c8, c100, e1], by simp [pAbout, c8, c100, e1]⟩
      | 5, hj =>
        cases hj
        have e1 : w.toInt = 5 := hx
        refine z_aload iX7_about_109 rfl ?_
        refine e_getR iX7_about_110 fX7_30 rfl ?_
        refine z_iload iX7_about_113 rfl ?_
        refine e_callV iX7_about_114 kX7_250 (tX2_prizesLeft F c (vin_0 h.1.2.2.1) (vin_le1 h.1.2.2.1) (fun e he => sh_okC h.1 he) (sh_cl h.1 (zin_v c8))) rfl rfl rfl ⟨Nat.le_of_ble_eq_true rfl, Nat.le_of_ble_eq_true rfl⟩ ⟨Nat.le_of_ble_eq_true rfl, Nat.le_of_ble_eq_true rfl⟩ (Nat.le_of_ble_eq_true rfl) ?_
        dsimp only [Option.toList, List.cons_append, List.nil_append]
        exact e_iret iX7_about_117 rfl ⟨by simp [pAbout, c8, e1], by simp [pAbout, c8, e1]⟩
      | j + 6, hj => simp at hj
    · have n0 : ¬ w.toInt = 0 := by simp at hx; omega
      have n1 : ¬ w.toInt = 1 := by simp at hx; omega
      have n2 : ¬ w.toInt = 2 := by simp at hx; omega
      have n3 : ¬ w.toInt = 3 := by simp at hx; omega
      have n4 : ¬ w.toInt = 4 := by simp at hx; omega
      have n5 : ¬ w.toInt = 5 := by simp at hx; omega
      refine z_push iX7_about_118 ?_
      exact e_iret iX7_about_120 rfl ⟨by simp [pAbout, c8, n0, n1, n2, n3, n4, n5], by simp [pAbout, c8, n0, n1, n2, n3, n4, n5]⟩
  · rw [zb_0] at c8
    refine z_push iX7_about_11 ?_
    exact e_iret iX7_about_13 rfl ⟨by simp [pAbout, c8], by simp [pAbout, c8]⟩
