abbrev nTa (F : zFt) : zFt := nTt F (zn (F 75 9))
theorem nTa_ne (F : zFt) {k : Nat} (h1 : k ≠ 109) (h2 : k ≠ 110) (j : Nat) : nTa F k j = F k j := nTt_ne F h1 h2 j _
theorem nTa_ok {F : zFt} (h6 : zn (F 75 9) ≤ 60) (h0 : 0 ≤ (F 75 9).toInt) (ho : ∀ e, e < zn (F 75 9) → okD F e) : 0 ≤ (nTa F 75 9).toInt ∧ zn (nTa F 75 9) ≤ 60 ∧ (∀ e, e < zn (nTa F 75 9) → okD (nTa F) e) ∧ nTa F 75 9 = F 75 9 := by
  have e9 := nTa_ne F (k := 75) (by decide) (by decide) 9
  rw [e9]
  exact ⟨h0, h6, fun e he => okD_eq (ho e he) (fun j => nTa_ne F (by decide) (by decide) j) (fun j => nTa_ne F (by decide) (by decide) j), rfl⟩
def qTold (F : zFt) (e w : Int32) : Int32 × zFt := if zin e (F 75 9) = false then (-101, F) else if zi3 w 0 6 = false then (-102, F) else if w.toInt = 0 then (F 83 (zn e), nTa F) else if w.toInt = 1 then (nTa F 110 (zn e), nTa F) else if w.toInt = 2 then (F 95 (zn e), nTa F) else if w.toInt = 3 then (F 96 (zn e), nTa F) else if w.toInt = 4 then (nRk (nTa F) e, nTa F) else if w.toInt = 5 then (nAl (nTa F) e, nTa F) else (nPr (nTa F) e, nTa F)

set_option maxRecDepth 100000 in
theorem tX8_told {L : Nat} (F : zFt) (e : Int32) (w : Int32) (h0 : 0 ≤ (F 75 9).toInt) (h6 : zn (F 75 9) ≤ 60) (ho : ∀ e, e < zn (F 75 9) → okD F e) : zFn mX8_told 4 [.ref 75, .int e, .int w] L F (some (.int (qTold F e w).1)) (qTold F e w).2 := by
  refine e_of (lo := [some (.ref 75), some (.int e), some (.int w)]) (by decide +kernel) (Nat.le_of_ble_eq_true rfl) rfl ?_
  have hT := nTa_ok h6 h0 ho
  refine z_aload iX8_told_0 rfl ?_
  refine z_iload iX8_told_1 rfl ?_
  refine e_callV iX8_told_2 kX8_154 (tX8_isEntry F e h0) rfl rfl rfl ⟨Nat.le_of_ble_eq_true rfl, Nat.le_of_ble_eq_true rfl⟩ ⟨Nat.le_of_ble_eq_true rfl, Nat.le_of_ble_eq_true rfl⟩ (Nat.le_of_ble_eq_true rfl) ?_
  dsimp only [Option.toList, List.cons_append, List.nil_append]
  refine z_if_ne iX8_told_5 (fun c5 => ?_) (fun c5 => ?_)
  · rw [zb_n] at c5
    refine z_iload iX8_told_11 rfl ?_
    refine z_push iX8_told_12 ?_
    refine z_push iX8_told_13 ?_
    refine e_callS iX8_told_15 kX8_123 (tX8_in F _ _ _) rfl rfl ⟨Nat.le_of_ble_eq_true rfl, Nat.le_of_ble_eq_true rfl⟩ ⟨Nat.le_of_ble_eq_true rfl, Nat.le_of_ble_eq_true rfl⟩ (Nat.le_of_ble_eq_true rfl) ?_
    dsimp only [Option.toList, List.cons_append, List.nil_append]
    refine z_if_ne iX8_told_18 (fun c18 => ?_) (fun c18 => ?_)
    · rw [zb_n] at c18
      refine z_aload iX8_told_24 rfl ?_
      refine e_callV iX8_told_25 kX8_232 (tX8_total F h0 h6 ho) rfl rfl rfl ⟨Nat.le_of_ble_eq_true rfl, Nat.le_of_ble_eq_true rfl⟩ ⟨Nat.le_of_ble_eq_true rfl, Nat.le_of_ble_eq_true rfl⟩ (Nat.le_of_ble_eq_true rfl) ?_
      dsimp only [Option.toList, List.cons_append, List.nil_append]
      refine z_iload iX8_told_28 rfl ?_
      refine z_tsw iX8_told_29 (fun j t hj hx => ?_) (fun hx => ?_)
      · match j, hj with
        | 0, hj =>
          cases hj
          have e1 : w.toInt = 0 := hx
          refine z_aload iX8_told_68 rfl ?_
          refine e_getR iX8_told_69 fX8_32 rfl ?_
          refine z_iload iX8_told_72 rfl ?_
          refine e_iald iX8_told_73 rfl (vin_le (zin_v c5) h6) ?_
          rw [nTt_ne F (by decide) (by decide)]
          exact e_iret iX8_told_74 rfl ⟨by simp [qTold, c5, c18, e1], by simp [qTold, c5, c18, e1]⟩
        | 1, hj =>
          cases hj
          have e1 : w.toInt = 1 := hx
          refine z_aload iX8_told_75 rfl ?_
          refine e_getR iX8_told_76 fX8_113 rfl ?_
          refine z_iload iX8_told_79 rfl ?_
          refine e_iald iX8_told_80 rfl (vin_le (zin_v c5) h6) ?_
          exact e_iret iX8_told_81 rfl ⟨by simp [qTold, c5, c18, e1], by simp [qTold, c5, c18, e1]⟩
        | 2, hj =>
          cases hj
          have e1 : w.toInt = 2 := hx
          refine z_aload iX8_told_82 rfl ?_
          refine e_getR iX8_told_83 fX8_68 rfl ?_
          refine z_iload iX8_told_86 rfl ?_
          refine e_iald iX8_told_87 rfl (vin_le (zin_v c5) h6) ?_
          rw [nTt_ne F (by decide) (by decide)]
          exact e_iret iX8_told_88 rfl ⟨by simp [qTold, c5, c18, e1], by simp [qTold, c5, c18, e1]⟩
        | 3, hj =>
          cases hj
          have e1 : w.toInt = 3 := hx
          refine z_aload iX8_told_89 rfl ?_
          refine e_getR iX8_told_90 fX8_71 rfl ?_
          refine z_iload iX8_told_93 rfl ?_
          refine e_iald iX8_told_94 rfl (vin_le (zin_v c5) h6) ?_
          rw [nTt_ne F (by decide) (by decide)]
          exact e_iret iX8_told_95 rfl ⟨by simp [qTold, c5, c18, e1], by simp [qTold, c5, c18, e1]⟩
        | 4, hj =>
          cases hj
          have e1 : w.toInt = 4 := hx
          refine z_aload iX8_told_96 rfl ?_
          refine z_iload iX8_told_97 rfl ?_
          refine e_callV iX8_told_98 kX8_226 (tX8_rankOf (nTa F) e hT.1 hT.2.1 hT.2.2.1 (by rw [hT.2.2.2]; exact vin_zn (zin_v c5)) (vin_0 (zin_v c5))) rfl rfl rfl ⟨Nat.le_of_ble_eq_true rfl, Nat.le_of_ble_eq_true rfl⟩ ⟨Nat.le_of_ble_eq_true rfl, Nat.le_of_ble_eq_true rfl⟩ (Nat.le_of_ble_eq_true rfl) ?_
          dsimp only [Option.toList, List.cons_append, List.nil_append]
          exact e_iret iX8_told_101 rfl ⟨by simp [qTold, c5, c18, e1], by simp [qTold, c5, c18, e1]⟩
        | 5, hj =>
          cases hj
          have e1 : w.toInt = 5 := hx
          refine z_aload iX8_told_102 rfl ?_
          refine z_iload iX8_told_103 rfl ?_
          refine e_callV iX8_told_104 kX8_229 (tX8_alike (nTa F) e hT.1 hT.2.1 hT.2.2.1 (by rw [hT.2.2.2]; exact vin_zn (zin_v c5)) (vin_0 (zin_v c5))) rfl rfl rfl ⟨Nat.le_of_ble_eq_true rfl, Nat.le_of_ble_eq_true rfl⟩ ⟨Nat.le_of_ble_eq_true rfl, Nat.le_of_ble_eq_true rfl⟩ (Nat.le_of_ble_eq_true rfl) ?_
          dsimp only [Option.toList, List.cons_append, List.nil_append]
          exact e_iret iX8_told_107 rfl ⟨by simp [qTold, c5, c18, e1], by simp [qTold, c5, c18, e1]⟩
        | j + 6, hj => simp at hj
      · have n0 : ¬ w.toInt = 0 := by simp at hx; omega
        have n1 : ¬ w.toInt = 1 := by simp at hx; omega
        have n2 : ¬ w.toInt = 2 := by simp at hx; omega
        have n3 : ¬ w.toInt = 3 := by simp at hx; omega
        have n4 : ¬ w.toInt = 4 := by simp at hx; omega
        have n5 : ¬ w.toInt = 5 := by simp at hx; omega
        refine z_aload iX8_told_108 rfl ?_
        refine z_iload iX8_told_109 rfl ?_
        refine e_callV iX8_told_110 kX8_235 (tX8_prizeOf (nTa F) e hT.1 hT.2.1 hT.2.2.1 (by rw [hT.2.2.2]; exact vin_zn (zin_v c5)) (vin_0 (zin_v c5))) rfl rfl rfl ⟨Nat.le_of_ble_eq_true rfl, Nat.le_of_ble_eq_true rfl⟩ ⟨Nat.le_of_ble_eq_true rfl, Nat.le_of_ble_eq_true rfl⟩ (Nat.le_of_ble_eq_true rfl) ?_
        dsimp only [Option.toList, List.cons_append, List.nil_append]
        exact e_iret iX8_told_113 rfl ⟨by simp [qTold, c5, c18, n0, n1, n2, n3, n4, n5], by simp [qTold, c5, c18, n0, n1, n2, n3, n4, n5]⟩
    · rw [zb_0] at c18
      refine z_push iX8_told_21 ?_
      exact e_iret iX8_told_23 rfl ⟨by simp [qTold, c5, c18], by simp [qTold, c5, c18]⟩
  · rw [zb_0] at c5
    refine z_push iX8_told_8 ?_
    exact e_iret iX8_told_10 rfl ⟨by simp [qTold, c5], by simp [qTold, c5]⟩

def qMark (F : zFt) (e j : Int32) : Int32 × zFt := if zin e (F 75 9) = false then (-101, F) else if zin j (F 75 7) = false then (-101, F) else if F 82 (zn j) = F 83 (zn e) then (F 94 (zn (nMj F e j)), F) else (-102, F)

set_option maxRecDepth 100000 in
theorem tX8_mark {L : Nat} (F : zFt) (e : Int32) (j : Int32) (h0 : 0 ≤ (F 75 9).toInt) (h6 : zn (F 75 9) ≤ 60) (ho : ∀ e, e < zn (F 75 9) → okD F e) (hj : 0 ≤ (F 75 7).toInt ∧ zn (F 75 7) ≤ 60) (hm : zin e (F 75 9) = true → zin j (F 75 7) = true → F 82 (zn j) = F 83 (zn e) → vp_in (nMj F e j) 300) : zFn mX8_mark 2 [.ref 75, .int e, .int j] L F (some (.int (qMark F e j).1)) (qMark F e j).2 := by
  refine e_of (lo := [some (.ref 75), some (.int e), some (.int j)]) (by decide +kernel) (Nat.le_of_ble_eq_true rfl) rfl ?_
  refine z_aload iX8_mark_0 rfl ?_
  refine z_iload iX8_mark_1 rfl ?_
  refine e_callV iX8_mark_2 kX8_154 (tX8_isEntry F e h0) rfl rfl rfl ⟨Nat.le_of_ble_eq_true rfl, Nat.le_of_ble_eq_true rfl⟩ ⟨Nat.le_of_ble_eq_true rfl, Nat.le_of_ble_eq_true rfl⟩ (Nat.le_of_ble_eq_true rfl) ?_
  dsimp only [Option.toList, List.cons_append, List.nil_append]
  refine z_if_eq iX8_mark_5 (fun c5 => ?_) (fun c5 => ?_)
  · rw [zb_0] at c5
    refine z_push iX8_mark_16 ?_
    exact e_iret iX8_mark_18 rfl ⟨by simp [qMark, c5], by simp [qMark, c5]⟩
  · rw [zb_n] at c5
    refine z_aload iX8_mark_8 rfl ?_
    refine z_iload iX8_mark_9 rfl ?_
    refine e_callV iX8_mark_10 kX8_151 (tX8_isJudge F j hj.1) rfl rfl rfl ⟨Nat.le_of_ble_eq_true rfl, Nat.le_of_ble_eq_true rfl⟩ ⟨Nat.le_of_ble_eq_true rfl, Nat.le_of_ble_eq_true rfl⟩ (Nat.le_of_ble_eq_true rfl) ?_
    dsimp only [Option.toList, List.cons_append, List.nil_append]
    refine z_if_ne iX8_mark_13 (fun c13 => ?_) (fun c13 => ?_)
    · rw [zb_n] at c13
      refine z_aload iX8_mark_19 rfl ?_
      refine e_getR iX8_mark_20 fX8_29 rfl ?_
      refine z_iload iX8_mark_23 rfl ?_
      refine e_iald iX8_mark_24 rfl (vin_le (zin_v c13) hj.2) ?_
      refine z_aload iX8_mark_25 rfl ?_
      refine e_getR iX8_mark_26 fX8_32 rfl ?_
      refine z_iload iX8_mark_29 rfl ?_
      refine e_iald iX8_mark_30 rfl (vin_le (zin_v c5) h6) ?_
      refine z_icmp_ne iX8_mark_31 (fun c31 => ?_) (fun c31 => ?_)
      · refine z_push iX8_mark_43 ?_
        exact e_iret iX8_mark_45 rfl ⟨by simp [qMark, c5, c13, c31], by simp [qMark, c5, c13, c31]⟩
      · refine z_aload iX8_mark_34 rfl ?_
        refine z_iload iX8_mark_35 rfl ?_
        refine z_iload iX8_mark_36 rfl ?_
        refine e_callV iX8_mark_37 kX8_161 (tX8_markOf F e j (vin_le (zin_v c5) h6) (ho _ (vin_zn (zin_v c5))).1 (hm c5 c13 c31)) rfl rfl rfl ⟨Nat.le_of_ble_eq_true rfl, Nat.le_of_ble_eq_true rfl⟩ ⟨Nat.le_of_ble_eq_true rfl, Nat.le_of_ble_eq_true rfl⟩ (Nat.le_of_ble_eq_true rfl) ?_
        dsimp only [Option.toList, List.cons_append, List.nil_append]
        refine z_goto iX8_mark_40 ?_
        exact e_iret iX8_mark_45 rfl ⟨by simp [qMark, c5, c13, c31], by simp [qMark, c5, c13, c31]⟩
    · rw [zb_0] at c13
      refine z_push iX8_mark_16 ?_
      exact e_iret iX8_mark_18 rfl ⟨by simp [qMark, c5, c13], by simp [qMark, c5, c13]⟩

abbrev gNp (F : zFt) (c : Int32) (e : Nat) : Nat → Int32 → Int32 := fun i a => a + (if ¬ F 83 i = c then 0 else if nBe F i e = true then 1 else if nI e ≤ nI i then 0 else if nBe F e i = true then 0 else 1)
abbrev nPo (F : zFt) (c : Int32) (e : Nat) : Int32 := zfold (gNp F c e) 0 (zn (F 75 9))
def nPe (F : zFt) (c x : Int32) : Nat → Nat → Int32
  | 0, _ => -1
  | n + 1, a => if ¬ F 83 a = c then nPe F c x n (a + 1) else if ¬ nPo F c a = x then nPe F c x n (a + 1) else nI a
def qPlace (F : zFt) (c x : Int32) : Int32 × zFt := if zin c (F 75 0) = false then (-101, F) else if zi3 x 0 (F 79 (zn c) - 1) = false then (-1, F) else (nPe (nTa F) c x (zn (F 75 9)) 0, nTa F)

set_option maxRecDepth 100000 in
theorem liX8_place {L : Nat} {Z : zZt} (F : zFt) (c x : Int32) (e : Nat) (h0 : 0 ≤ (F 75 9).toInt) (h6 : zn (F 75 9) ≤ 60) (ho : ∀ e, e < zn (F 75 9) → okD F e) (he : e < zn (F 75 9)) (kk : zEV mX8_place (zrm 3 0 0) Z 121 [some (.ref 75), some (.int c), some (.int x), some (.int (nI e)), some (.int (zfold (gNp F c e) 0 (zn (F 75 9)))), some (.int (nI (zn (F 75 9))))] [] 111 (zE L F) 0 0) : ∀ (n a : Nat), a + n = zn (F 75 9) → zEV mX8_place (zrm 3 0 0) Z 59 [some (.ref 75), some (.int c), some (.int x), some (.int (nI e)), some (.int (zfold (gNp F c e) 0 a)), some (.int (nI a))] [] 111 (zE L F) 0 0 := by
  have ee : zn (nI e) = e := zn_nI (by omega)
  intro n
  induction n with
  | zero =>
    intro a ha
    obtain rfl : a = zn (F 75 9) := by omega
    refine z_iload iX8_place_59 rfl ?_
    refine z_aload iX8_place_61 rfl ?_
    refine e_getI iX8_place_62 fX8_127 rfl ?_
    refine z_icmp_ge iX8_place_65 (fun c65 => ?_) (fun c65 => ?_)
    · exact kk
    · exact absurd (up_end h0 rfl) c65
  | succ n ih =>
    intro a ha
    have ez : zn (nI a) = a := zn_nI (by omega)
    refine z_iload iX8_place_59 rfl ?_
    refine z_aload iX8_place_61 rfl ?_
    refine e_getI iX8_place_62 fX8_127 rfl ?_
    refine z_icmp_ge iX8_place_65 (fun c65 => ?_) (fun c65 => ?_)
    · exact absurd c65 (up_in (x := F 75 9) (by omega))
    · refine z_iload iX8_place_68 rfl ?_
      refine z_aload iX8_place_70 rfl ?_
      refine e_getR iX8_place_71 fX8_32 rfl ?_
      refine z_iload iX8_place_74 rfl ?_
      refine e_iald iX8_place_76 rfl (vin_mk (n := 60) (by omega)) ?_
      rw [ez]
      refine z_iload iX8_place_77 rfl ?_
      refine z_icmp_ne iX8_place_78 (fun c78 => ?_) (fun c78 => ?_)
      · refine z_push iX8_place_111 ?_
        refine z_iadd iX8_place_112 ?_
        refine z_istore iX8_place_113 rfl ?_
        dsimp only [List.set_cons_zero, List.set_cons_succ]
        refine z_iinc (v := 1) iX8_place_115 (by decide) (by decide) rfl rfl ?_
        dsimp only [List.set_cons_zero, List.set_cons_succ]
        refine z_goto iX8_place_118 ?_
        exact z_to (by rw [nI_1, zfold_s, gNp, if_pos c78]) rfl (ih (a + 1) (by omega))
      · refine z_aload iX8_place_81 rfl ?_
        refine z_iload iX8_place_82 rfl ?_
        refine z_iload iX8_place_84 rfl ?_
        refine e_callV iX8_place_85 kX8_223 (tX8_isBetter F (nI a) (nI e) (vin_mk (by omega)) (vin_mk (by omega)) (by rw [ez]; exact ho a (by omega)) (by rw [ee]; exact ho e he)) rfl rfl rfl ⟨Nat.le_of_ble_eq_true rfl, Nat.le_of_ble_eq_true rfl⟩ ⟨Nat.le_of_ble_eq_true rfl, Nat.le_of_ble_eq_true rfl⟩ (Nat.le_of_ble_eq_true rfl) ?_
        dsimp only [Option.toList, List.cons_append, List.nil_append]
        rw [ez, ee]
        refine z_if_ne iX8_place_88 (fun c88 => ?_) (fun c88 => ?_)
        · rw [zb_n] at c88
          refine z_push iX8_place_107 ?_
          refine z_goto iX8_place_108 ?_
          refine z_iadd iX8_place_112 ?_
          refine z_istore iX8_place_113 rfl ?_
          dsimp only [List.set_cons_zero, List.set_cons_succ]
          refine z_iinc (v := 1) iX8_place_115 (by decide) (by decide) rfl rfl ?_
          dsimp only [List.set_cons_zero, List.set_cons_succ]
          refine z_goto iX8_place_118 ?_
          exact z_to (by rw [nI_1, zfold_s, gNp, if_neg (not_not_intro c78), if_pos c88]) rfl (ih (a + 1) (by omega))
        · rw [zb_0] at c88
          refine z_iload iX8_place_91 rfl ?_
          refine z_iload iX8_place_93 rfl ?_
          refine z_icmp_ge iX8_place_94 (fun c94 => ?_) (fun c94 => ?_)
          · refine z_push iX8_place_111 ?_
            refine z_iadd iX8_place_112 ?_
            refine z_istore iX8_place_113 rfl ?_
            dsimp only [List.set_cons_zero, List.set_cons_succ]
            refine z_iinc (v := 1) iX8_place_115 (by decide) (by decide) rfl rfl ?_
            dsimp only [List.set_cons_zero, List.set_cons_succ]
            refine z_goto iX8_place_118 ?_
            exact z_to (by rw [nI_1, zfold_s, gNp, if_neg (not_not_intro c78), if_neg (by rw [c88]; decide), if_pos c94]) rfl (ih (a + 1) (by omega))
          · refine z_aload iX8_place_97 rfl ?_
            refine z_iload iX8_place_98 rfl ?_
            refine z_iload iX8_place_99 rfl ?_
            refine e_callV iX8_place_101 kX8_223 (tX8_isBetter F (nI e) (nI a) (vin_mk (by omega)) (vin_mk (by omega)) (by rw [ee]; exact ho e he) (by rw [ez]; exact ho a (by omega))) rfl rfl rfl ⟨Nat.le_of_ble_eq_true rfl, Nat.le_of_ble_eq_true rfl⟩ ⟨Nat.le_of_ble_eq_true rfl, Nat.le_of_ble_eq_true rfl⟩ (Nat.le_of_ble_eq_true rfl) ?_
            dsimp only [Option.toList, List.cons_append, List.nil_append]
            rw [ez, ee]
            refine z_if_ne iX8_place_104 (fun c104 => ?_) (fun c104 => ?_)
            · rw [zb_n] at c104
              refine z_push iX8_place_111 ?_
              refine z_iadd iX8_place_112 ?_
              refine z_istore iX8_place_113 rfl ?_
              dsimp only [List.set_cons_zero, List.set_cons_succ]
              refine z_iinc (v := 1) iX8_place_115 (by decide) (by decide) rfl rfl ?_
              dsimp only [List.set_cons_zero, List.set_cons_succ]
              refine z_goto iX8_place_118 ?_
              exact z_to (by rw [nI_1, zfold_s, gNp, if_neg (not_not_intro c78), if_neg (by rw [c88]; decide), if_neg c94, if_pos c104]) rfl (ih (a + 1) (by omega))
            · rw [zb_0] at c104
              refine z_push iX8_place_107 ?_
              refine z_goto iX8_place_108 ?_
              refine z_iadd iX8_place_112 ?_
              refine z_istore iX8_place_113 rfl ?_
              dsimp only [List.set_cons_zero, List.set_cons_succ]
              refine z_iinc (v := 1) iX8_place_115 (by decide) (by decide) rfl rfl ?_
              dsimp only [List.set_cons_zero, List.set_cons_succ]
              refine z_goto iX8_place_118 ?_
              exact z_to (by rw [nI_1, zfold_s, gNp, if_neg (not_not_intro c78), if_neg (by rw [c88]; decide), if_neg c94, if_neg (by rw [c104]; decide)]) rfl (ih (a + 1) (by omega))

set_option maxRecDepth 100000 in
theorem lpX8_place {L : Nat} (F : zFt) (c x : Int32) (h0 : 0 ≤ (F 75 9).toInt) (h6 : zn (F 75 9) ≤ 60) (ho : ∀ e, e < zn (F 75 9) → okD F e) : ∀ (n a : Nat) (u v : Option Value), a + n = zn (F 75 9) → zEV mX8_place (zrm 3 0 0) (zZf L (some (.int (nPe F c x n a))) F) 35 [some (.ref 75), some (.int c), some (.int x), some (.int (nI a)), u, v] [] 111 (zE L F) 0 0 := by
  intro n
  induction n with
  | zero =>
    intro a u v ha
    obtain rfl : a = zn (F 75 9) := by omega
    refine z_iload iX8_place_35 rfl ?_
    refine z_aload iX8_place_36 rfl ?_
    refine e_getI iX8_place_37 fX8_127 rfl ?_
    refine z_icmp_ge iX8_place_40 (fun c40 => ?_) (fun c40 => ?_)
    · refine z_push iX8_place_135 ?_
      exact e_iret iX8_place_136 rfl ⟨rfl, rfl⟩
    · exact absurd (up_end h0 rfl) c40
  | succ n ih =>
    intro a u v ha
    have ez : zn (nI a) = a := zn_nI (by omega)
    refine z_iload iX8_place_35 rfl ?_
    refine z_aload iX8_place_36 rfl ?_
    refine e_getI iX8_place_37 fX8_127 rfl ?_
    refine z_icmp_ge iX8_place_40 (fun c40 => ?_) (fun c40 => ?_)
    · exact absurd c40 (up_in (x := F 75 9) (by omega))
    · refine z_aload iX8_place_43 rfl ?_
      refine e_getR iX8_place_44 fX8_32 rfl ?_
      refine z_iload iX8_place_47 rfl ?_
      refine e_iald iX8_place_48 rfl (vin_mk (n := 60) (by omega)) ?_
      rw [ez]
      refine z_iload iX8_place_49 rfl ?_
      refine z_icmp_ne iX8_place_50 (fun c50 => ?_) (fun c50 => ?_)
      · rw [nPe, if_pos c50]
        refine z_iinc (v := 1) iX8_place_129 (by decide) (by decide) rfl rfl ?_
        dsimp only [List.set_cons_zero, List.set_cons_succ]
        refine z_goto iX8_place_132 ?_
        rw [nI_1]
        exact ih (a + 1) _ _ (by omega)
      · rw [nPe, if_neg (not_not_intro c50)]
        refine z_push iX8_place_53 ?_
        refine z_istore iX8_place_54 rfl ?_
        dsimp only [List.set_cons_zero, List.set_cons_succ]
        refine z_push iX8_place_56 ?_
        refine z_istore iX8_place_57 rfl ?_
        dsimp only [List.set_cons_zero, List.set_cons_succ]
        refine liX8_place F c x a h0 h6 ho (by omega) ?_ _ 0 (Nat.zero_add _)
        refine z_iload iX8_place_121 rfl ?_
        refine z_iload iX8_place_123 rfl ?_
        refine z_icmp_ne iX8_place_124 (fun c124 => ?_) (fun c124 => ?_)
        · rw [if_pos c124]
          refine z_iinc (v := 1) iX8_place_129 (by decide) (by decide) rfl rfl ?_
          dsimp only [List.set_cons_zero, List.set_cons_succ]
          refine z_goto iX8_place_132 ?_
          rw [nI_1]
          exact ih (a + 1) _ _ (by omega)
        · rw [if_neg (not_not_intro c124)]
          refine z_iload iX8_place_127 rfl ?_
          exact e_iret iX8_place_128 rfl ⟨rfl, rfl⟩

set_option maxRecDepth 100000 in
theorem tX8_place {L : Nat} (F : zFt) (c : Int32) (x : Int32) (h0 : 0 ≤ (F 75 9).toInt) (h6 : zn (F 75 9) ≤ 60) (ho : ∀ e, e < zn (F 75 9) → okD F e) (hc : vp_in (F 75 0) 13) : zFn mX8_place 3 [.ref 75, .int c, .int x] L F (some (.int (qPlace F c x).1)) (qPlace F c x).2 := by
  refine e_of (lo := [some (.ref 75), some (.int c), some (.int x), none, none, none]) (by decide +kernel) (Nat.le_of_ble_eq_true rfl) rfl ?_
  have hT := nTa_ok h6 h0 ho
  refine z_aload iX8_place_0 rfl ?_
  refine z_iload iX8_place_1 rfl ?_
  refine e_callV iX8_place_2 kX8_133 (tX8_isClass F c (vin_0 hc)) rfl rfl rfl ⟨Nat.le_of_ble_eq_true rfl, Nat.le_of_ble_eq_true rfl⟩ ⟨Nat.le_of_ble_eq_true rfl, Nat.le_of_ble_eq_true rfl⟩ (Nat.le_of_ble_eq_true rfl) ?_
  dsimp only [Option.toList, List.cons_append, List.nil_append]
  refine z_if_ne iX8_place_5 (fun c5 => ?_) (fun c5 => ?_)
  · rw [zb_n] at c5
    refine z_iload iX8_place_11 rfl ?_
    refine z_push iX8_place_12 ?_
    refine z_aload iX8_place_13 rfl ?_
    refine e_getR iX8_place_14 fX8_19 rfl ?_
    refine z_iload iX8_place_17 rfl ?_
    refine e_iald iX8_place_18 rfl (vin_le (zin_v c5) (vin_le1 hc)) ?_
    refine z_push iX8_place_19 ?_
    refine z_isub iX8_place_20 ?_
    refine e_callS iX8_place_21 kX8_123 (tX8_in F _ _ _) rfl rfl ⟨Nat.le_of_ble_eq_true rfl, Nat.le_of_ble_eq_true rfl⟩ ⟨Nat.le_of_ble_eq_true rfl, Nat.le_of_ble_eq_true rfl⟩ (Nat.le_of_ble_eq_true rfl) ?_
    dsimp only [Option.toList, List.cons_append, List.nil_append]
    refine z_if_ne iX8_place_24 (fun c24 => ?_) (fun c24 => ?_)
    · rw [zb_n] at c24
      refine z_aload iX8_place_29 rfl ?_
      refine e_callV iX8_place_30 kX8_232 (tX8_total F h0 h6 ho) rfl rfl rfl ⟨Nat.le_of_ble_eq_true rfl, Nat.le_of_ble_eq_true rfl⟩ ⟨Nat.le_of_ble_eq_true rfl, Nat.le_of_ble_eq_true rfl⟩ (Nat.le_of_ble_eq_true rfl) ?_
      dsimp only [Option.toList, List.cons_append, List.nil_append]
      refine z_push iX8_place_33 ?_
      refine z_istore iX8_place_34 rfl ?_
      dsimp only [List.set_cons_zero, List.set_cons_succ]
      rw [show qPlace F c x = (nPe (nTa F) c x (zn (F 75 9)) 0, nTa F) by rw [qPlace, if_neg (by rw [c5]; decide), if_neg (by rw [c24]; decide)]]
      refine z_to rfl rfl (lpX8_place (nTa F) c x hT.1 hT.2.1 hT.2.2.1 _ 0 _ _ ?_)
      rw [hT.2.2.2, Nat.zero_add]
    · rw [zb_0] at c24
      refine z_push iX8_place_27 ?_
      exact e_iret iX8_place_28 rfl ⟨by simp [qPlace, c5, c24], by simp [qPlace, c5, c24]⟩
  · rw [zb_0] at c5
    refine z_push iX8_place_8 ?_
    exact e_iret iX8_place_10 rfl ⟨by simp [qPlace, c5], by simp [qPlace, c5]⟩

def qClose (F : zFt) (c : Int32) : Int32 × zFt := if zin c (F 75 0) = false then (-101, F) else if 0 < F 75 28 then (-103, F) else if F 80 (zn c) = 0 then (F 79 (zn c), zup (nKp F (F 75 19)) 80 (zn c) 1) else (-103, F)

set_option maxRecDepth 100000 in
theorem tX8_close {L : Nat} (F : zFt) (c : Int32) (hc : vp_in (F 75 0) 13) (hb : ∀ i, F 93 i = 0 ∨ F 93 i = 1) (hz : ∀ i, F 80 i = 0 ∨ F 80 i = 1) : zFn mX8_close 2 [.ref 75, .int c] L F (some (.int (qClose F c).1)) (qClose F c).2 := by
  refine e_of (lo := [some (.ref 75), some (.int c)]) (by decide +kernel) (Nat.le_of_ble_eq_true rfl) rfl ?_
  refine z_aload iX8_close_0 rfl ?_
  refine z_iload iX8_close_1 rfl ?_
  refine e_callV iX8_close_2 kX8_133 (tX8_isClass F c (vin_0 hc)) rfl rfl rfl ⟨Nat.le_of_ble_eq_true rfl, Nat.le_of_ble_eq_true rfl⟩ ⟨Nat.le_of_ble_eq_true rfl, Nat.le_of_ble_eq_true rfl⟩ (Nat.le_of_ble_eq_true rfl) ?_
  dsimp only [Option.toList, List.cons_append, List.nil_append]
  refine z_if_ne iX8_close_5 (fun c5 => ?_) (fun c5 => ?_)
  · rw [zb_n] at c5
    refine z_aload iX8_close_11 rfl ?_
    refine e_getI iX8_close_12 fX8_116 rfl ?_
    refine z_if_gt iX8_close_15 (fun c15 => ?_) (fun c15 => ?_)
    · refine z_push iX8_close_27 ?_
      exact e_iret iX8_close_29 rfl ⟨by simp [qClose, c5, c15], by simp [qClose, c5, c15]⟩
    · refine z_aload iX8_close_18 rfl ?_
      refine e_getR iX8_close_19 fX8_22 rfl ?_
      refine z_iload iX8_close_22 rfl ?_
      refine e_bald iX8_close_23 rfl (vin_le (zin_v c5) (vin_le1 hc)) ?_
      refine z_if_eq iX8_close_24 (fun c24 => ?_) (fun c24 => ?_)
      · refine z_aload iX8_close_30 rfl ?_
        refine z_aload iX8_close_31 rfl ?_
        refine e_getI iX8_close_32 fX8_144 rfl ?_
        refine e_callV iX8_close_35 kX8_208 (tX8_keep F (F 75 19) hb hz) rfl rfl rfl ⟨Nat.le_of_ble_eq_true rfl, Nat.le_of_ble_eq_true rfl⟩ ⟨Nat.le_of_ble_eq_true rfl, Nat.le_of_ble_eq_true rfl⟩ (Nat.le_of_ble_eq_true rfl) ?_
        dsimp only [Option.toList, List.cons_append, List.nil_append]
        refine z_aload iX8_close_38 rfl ?_
        refine e_getR iX8_close_39 fX8_22 rfl ?_
        refine z_iload iX8_close_42 rfl ?_
        refine z_push iX8_close_43 ?_
        refine e_bast iX8_close_44 rfl (vin_le (zin_v c5) (vin_le1 hc)) (by first | exact Or.inl rfl | exact Or.inr rfl | assumption) ?_
        refine z_aload iX8_close_45 rfl ?_
        refine e_getR iX8_close_46 fX8_19 rfl ?_
        refine z_iload iX8_close_49 rfl ?_
        refine e_iald iX8_close_50 rfl (vin_le (zin_v c5) (vin_le1 hc)) ?_
        rw [zup_ap, if_neg (by omega), nKp_ne F _ (by decide) (by decide) (by omega)]
        exact e_iret iX8_close_51 rfl ⟨by simp [qClose, c5, c15, c24], by simp [qClose, c5, c15, c24]⟩
      · refine z_push iX8_close_27 ?_
        exact e_iret iX8_close_29 rfl ⟨by simp [qClose, c5, c15, c24], by simp [qClose, c5, c15, c24]⟩
  · rw [zb_0] at c5
    refine z_push iX8_close_8 ?_
    exact e_iret iX8_close_10 rfl ⟨by simp [qClose, c5], by simp [qClose, c5]⟩

abbrev gNq (F : zFt) (c : Int32) : Nat → Int32 → Int32 := fun i a => a - (if ¬ F 83 i = c then 0 else nPr F (nI i))
abbrev n3p (F : zFt) (c : Int32) : Int32 := F 81 (zn (3 * c)) + F 81 (zn (3 * c + 1)) + F 81 (zn (3 * c + 2))
def qAbout (F : zFt) (c w : Int32) : Int32 × zFt := if zin c (F 75 0) = false then (-101, F) else if w.toInt = 0 then (F 76 (zn c), F) else if w.toInt = 1 then (F 77 (zn c), F) else if w.toInt = 2 then (F 78 (zn c), F) else if w.toInt = 3 then (F 79 (zn c), F) else if w.toInt = 4 then (if F 80 (zn c) = 0 then 0 else 1, F) else if w.toInt = 5 then (zfold (gNq (nTa F) c) (n3p (nTa F) c) (zn (F 75 9)), nTa F) else (-102, F)

set_option maxRecDepth 100000 in
theorem lpX8_about {L : Nat} {Z : zZt} (F : zFt) (c w s : Int32) (h0 : 0 ≤ (F 75 9).toInt) (h6 : zn (F 75 9) ≤ 60) (ho : ∀ e, e < zn (F 75 9) → okD F e) (kk : zEV mX8_about (zrm 4 0 0) Z 172 [some (.ref 75), some (.int c), some (.int w), some (.int (zfold (gNq F c) s (zn (F 75 9)))), some (.int (nI (zn (F 75 9))))] [] 111 (zE L (F)) 0 0) : ∀ (n a : Nat), a + n = zn (F 75 9) → zEV mX8_about (zrm 4 0 0) Z 133 [some (.ref 75), some (.int c), some (.int w), some (.int (zfold (gNq F c) s a)), some (.int (nI a))] [] 111 (zE L (F)) 0 0 := by
  intro n
  induction n with
  | zero =>
    intro a ha
    obtain rfl : a = zn (F 75 9) := by omega
    refine z_iload iX8_about_133 rfl ?_
    refine z_aload iX8_about_135 rfl ?_
    refine e_getI iX8_about_136 fX8_127 rfl ?_
    refine z_icmp_ge iX8_about_139 (fun c139 => ?_) (fun c139 => ?_)
    · exact kk
    · exact absurd (up_end h0 rfl) c139
  | succ n ih =>
    intro a ha
    refine z_iload iX8_about_133 rfl ?_
    refine z_aload iX8_about_135 rfl ?_
    refine e_getI iX8_about_136 fX8_127 rfl ?_
    refine z_icmp_ge iX8_about_139 (fun c139 => ?_) (fun c139 => ?_)
    · exact absurd c139 (up_in (x := (F 75 9)) (by omega))
    · have ez : zn (nI a) = a := zn_nI (by omega)
      refine z_iload iX8_about_142 rfl ?_
      refine z_aload iX8_about_143 rfl ?_
      refine e_getR iX8_about_144 fX8_32 rfl ?_
      refine z_iload iX8_about_147 rfl ?_
      refine e_iald iX8_about_149 rfl (vin_mk (n := 60) (by omega)) ?_
      rw [ez]
      refine z_iload iX8_about_150 rfl ?_
      refine z_icmp_ne iX8_about_151 (fun c151 => ?_) (fun c151 => ?_)
      · refine z_push iX8_about_163 ?_
        refine z_isub iX8_about_164 ?_
        refine z_istore iX8_about_165 rfl ?_
        dsimp only [List.set_cons_zero, List.set_cons_succ]
        refine z_iinc (v := 1) iX8_about_166 (by decide) (by decide) rfl rfl ?_
        dsimp only [List.set_cons_zero, List.set_cons_succ]
        refine z_goto iX8_about_169 ?_
        exact z_to (by rw [nI_1, zfold_s, gNq, if_pos c151]) rfl (ih (a + 1) (by omega))
      · refine z_aload iX8_about_154 rfl ?_
        refine z_iload iX8_about_155 rfl ?_
        refine e_callV iX8_about_157 kX8_235 (tX8_prizeOf F (nI a) h0 h6 ho (by rw [ez]; omega) (by rw [nI_int (by omega)]; omega)) rfl rfl rfl ⟨Nat.le_of_ble_eq_true rfl, Nat.le_of_ble_eq_true rfl⟩ ⟨Nat.le_of_ble_eq_true rfl, Nat.le_of_ble_eq_true rfl⟩ (Nat.le_of_ble_eq_true rfl) ?_
        dsimp only [Option.toList, List.cons_append, List.nil_append]
        refine z_goto iX8_about_160 ?_
        refine z_isub iX8_about_164 ?_
        refine z_istore iX8_about_165 rfl ?_
        dsimp only [List.set_cons_zero, List.set_cons_succ]
        refine z_iinc (v := 1) iX8_about_166 (by decide) (by decide) rfl rfl ?_
        dsimp only [List.set_cons_zero, List.set_cons_succ]
        refine z_goto iX8_about_169 ?_
        exact z_to (by rw [nI_1, zfold_s, gNq, if_neg (not_not_intro c151)]) rfl (ih (a + 1) (by omega))

set_option maxRecDepth 100000 in
theorem tX8_about {L : Nat} (F : zFt) (c : Int32) (w : Int32) (h0 : 0 ≤ (F 75 9).toInt) (h6 : zn (F 75 9) ≤ 60) (ho : ∀ e, e < zn (F 75 9) → okD F e) (hc : vp_in (F 75 0) 13) : zFn mX8_about 4 [.ref 75, .int c, .int w] L F (some (.int (qAbout F c w).1)) (qAbout F c w).2 := by
  refine e_of (lo := [some (.ref 75), some (.int c), some (.int w), none, none]) (by decide +kernel) (Nat.le_of_ble_eq_true rfl) rfl ?_
  have hT := nTa_ok h6 h0 ho
  refine z_aload iX8_about_0 rfl ?_
  refine z_iload iX8_about_1 rfl ?_
  refine e_callV iX8_about_2 kX8_133 (tX8_isClass F c (vin_0 hc)) rfl rfl rfl ⟨Nat.le_of_ble_eq_true rfl, Nat.le_of_ble_eq_true rfl⟩ ⟨Nat.le_of_ble_eq_true rfl, Nat.le_of_ble_eq_true rfl⟩ (Nat.le_of_ble_eq_true rfl) ?_
  dsimp only [Option.toList, List.cons_append, List.nil_append]
  refine z_if_ne iX8_about_5 (fun c5 => ?_) (fun c5 => ?_)
  · rw [zb_n] at c5
    refine z_iload iX8_about_11 rfl ?_
    refine z_tsw iX8_about_12 (fun j t hj hx => ?_) (fun hx => ?_)
    · match j, hj with
      | 0, hj =>
        cases hj
        have e1 : w.toInt = 0 := hx
        refine z_aload iX8_about_52 rfl ?_
        refine e_getR iX8_about_53 fX8_7 rfl ?_
        refine z_iload iX8_about_56 rfl ?_
        refine e_iald iX8_about_57 rfl (vin_le (zin_v c5) (vin_le1 hc)) ?_
        exact e_iret iX8_about_58 rfl ⟨by simp [qAbout, c5, e1], by simp [qAbout, c5, e1]⟩
      | 1, hj =>
        cases hj
        have e1 : w.toInt = 1 := hx
        refine z_aload iX8_about_59 rfl ?_
        refine e_getR iX8_about_60 fX8_13 rfl ?_
        refine z_iload iX8_about_63 rfl ?_
        refine e_iald iX8_about_64 rfl (vin_le (zin_v c5) (vin_le1 hc)) ?_
        exact e_iret iX8_about_65 rfl ⟨by simp [qAbout, c5, e1], by simp [qAbout, c5, e1]⟩
      | 2, hj =>
        cases hj
        have e1 : w.toInt = 2 := hx
        refine z_aload iX8_about_66 rfl ?_
        refine e_getR iX8_about_67 fX8_16 rfl ?_
        refine z_iload iX8_about_70 rfl ?_
        refine e_iald iX8_about_71 rfl (vin_le (zin_v c5) (vin_le1 hc)) ?_
        exact e_iret iX8_about_72 rfl ⟨by simp [qAbout, c5, e1], by simp [qAbout, c5, e1]⟩
      | 3, hj =>
        cases hj
        have e1 : w.toInt = 3 := hx
        refine z_aload iX8_about_73 rfl ?_
        refine e_getR iX8_about_74 fX8_19 rfl ?_
        refine z_iload iX8_about_77 rfl ?_
        refine e_iald iX8_about_78 rfl (vin_le (zin_v c5) (vin_le1 hc)) ?_
        exact e_iret iX8_about_79 rfl ⟨by simp [qAbout, c5, e1], by simp [qAbout, c5, e1]⟩
      | 4, hj =>
        cases hj
        have e1 : w.toInt = 4 := hx
        refine z_aload iX8_about_80 rfl ?_
        refine e_getR iX8_about_81 fX8_22 rfl ?_
        refine z_iload iX8_about_84 rfl ?_
        refine e_bald iX8_about_85 rfl (vin_le (zin_v c5) (vin_le1 hc)) ?_
        refine z_if_eq iX8_about_86 (fun c86 => ?_) (fun c86 => ?_)
        · refine z_push iX8_about_93 ?_
          exact e_iret iX8_about_94 rfl ⟨by simp [qAbout, c5, c86, e1], by simp [qAbout, c5, c86, e1]⟩
        · refine z_push iX8_about_89 ?_
          refine z_goto iX8_about_90 ?_
          exact e_iret iX8_about_94 rfl ⟨by simp [qAbout, c5, c86, e1], by simp [qAbout, c5, c86, e1]⟩
      | 5, hj =>
        cases hj
        have e1 : w.toInt = 5 := hx
        refine z_aload iX8_about_95 rfl ?_
        refine e_callV iX8_about_96 kX8_232 (tX8_total F h0 h6 ho) rfl rfl rfl ⟨Nat.le_of_ble_eq_true rfl, Nat.le_of_ble_eq_true rfl⟩ ⟨Nat.le_of_ble_eq_true rfl, Nat.le_of_ble_eq_true rfl⟩ (Nat.le_of_ble_eq_true rfl) ?_
        dsimp only [Option.toList, List.cons_append, List.nil_append]
        refine z_aload iX8_about_99 rfl ?_
        refine e_getR iX8_about_100 fX8_26 rfl ?_
        refine z_push iX8_about_103 ?_
        refine z_iload iX8_about_104 rfl ?_
        refine z_imul iX8_about_105 ?_
        refine e_iald iX8_about_106 rfl (ix3m (vin_le (zin_v c5) (vin_le1 hc))).1 ?_
        refine z_aload iX8_about_107 rfl ?_
        refine e_getR iX8_about_108 fX8_26 rfl ?_
        refine z_push iX8_about_111 ?_
        refine z_iload iX8_about_112 rfl ?_
        refine z_imul iX8_about_113 ?_
        refine z_push iX8_about_114 ?_
        refine z_iadd iX8_about_115 ?_
        refine e_iald iX8_about_116 rfl (ix3m (vin_le (zin_v c5) (vin_le1 hc))).2.1 ?_
        refine z_iadd iX8_about_117 ?_
        refine z_aload iX8_about_118 rfl ?_
        refine e_getR iX8_about_119 fX8_26 rfl ?_
        refine z_push iX8_about_122 ?_
        refine z_iload iX8_about_123 rfl ?_
        refine z_imul iX8_about_124 ?_
        refine z_push iX8_about_125 ?_
        refine z_iadd iX8_about_126 ?_
        refine e_iald iX8_about_127 rfl (ix3m (vin_le (zin_v c5) (vin_le1 hc))).2.2 ?_
        refine z_iadd iX8_about_128 ?_
        refine z_istore iX8_about_129 rfl ?_
        dsimp only [List.set_cons_zero, List.set_cons_succ]
        refine z_push iX8_about_130 ?_
        refine z_istore iX8_about_131 rfl ?_
        dsimp only [List.set_cons_zero, List.set_cons_succ]
        refine lpX8_about (nTa F) c w _ hT.1 hT.2.1 hT.2.2.1 ?_ _ 0 (by rw [Nat.zero_add])
        rw [hT.2.2.2]
        refine z_iload iX8_about_172 rfl ?_
        exact e_iret iX8_about_173 rfl ⟨by simp [qAbout, c5, e1], by simp [qAbout, c5, e1]⟩
      | j + 6, hj => simp at hj
    · have n0 : ¬ w.toInt = 0 := by simp at hx; omega
      have n1 : ¬ w.toInt = 1 := by simp at hx; omega
      have n2 : ¬ w.toInt = 2 := by simp at hx; omega
      have n3 : ¬ w.toInt = 3 := by simp at hx; omega
      have n4 : ¬ w.toInt = 4 := by simp at hx; omega
      have n5 : ¬ w.toInt = 5 := by simp at hx; omega
      refine z_push iX8_about_174 ?_
      exact e_iret iX8_about_176 rfl ⟨by simp [qAbout, c5, n0, n1, n2, n3, n4, n5], by simp [qAbout, c5, n0, n1, n2, n3, n4, n5]⟩
  · rw [zb_0] at c5
    refine z_push iX8_about_8 ?_
    exact e_iret iX8_about_10 rfl ⟨by simp [qAbout, c5], by simp [qAbout, c5]⟩
