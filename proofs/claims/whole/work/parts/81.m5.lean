theorem rEntry {F G : zFt} {m : Nat} (c : Int32) (h : RI F G (400 + m)) : (qEntry G c).1 = (pEntry F c).1 ∧ RI (pEntry F c).2 (qEntry G c).2 m := by
  have h' := RI_le h (show m ≤ 400 + m by omega)
  obtain ⟨a1, a2, a3, a4, a5, a6, a7, a8, a9, b1, b2, b3, b4, b5, b6⟩ := h'
  unfold qEntry pEntry
  rw [a2.1, a2.2.2.1, (a2.2.2.2.1 _).2.2.2.1]
  by_cases c1 : zin c (F 3 7) = false
  · rw [if_pos c1, if_pos c1]
    exact RI_no3 h _
  rw [if_neg c1, if_neg c1]
  by_cases c2' : ¬ F 7 (zn c) = 0
  · rw [if_neg c2', if_neg c2']
    exact RI_no3 h _
  have c2 := Classical.not_not.mp c2'
  rw [if_pos c2, if_pos c2]
  have hl := lt_ne (m := 60) a1.1.2.2.1 (by decide)
  by_cases c3 : F 3 9 = 60
  · rw [if_pos c3, if_neg (fun q => hl.mp q c3)]
    exact RI_no3 h _
  rw [if_neg c3, if_pos (hl.mpr c3)]
  refine ⟨i_p1m _, ?_⟩
  have hc : vp_in c (zn (F 3 7)) := zin_v (by simpa using c1)
  have hc12 := sh_cl a1.1 hc
  obtain ⟨r, hr, er⟩ := vin_of (ne_vin a1.1.2.2.1 c3 (by decide))
  have zr : zn (nI r) = r := zn_nI (by omega)
  have zr1 : zn (nI (r + 1)) = r + 1 := zn_nI (by omega)
  show RI (cAn F c) (zup (zup (zup G 83 (zn (F 3 9)) c) 79 (zn c) (G 79 (zn c) + 1)) 75 9 (F 3 9 + 1)) m
  rw [cAn, er, zr, nI_1]
  have fF : ∀ k j, ¬ (k = 3 ∧ j = 9) → (k = 10 → j ≠ r) → zup (zup F 10 r c) 3 9 (nI (r + 1)) k j = F k j := fun k j p q => by rw [zup_ap, if_neg p, zup_ap, if_neg (by omega)]
  have fG : ∀ k j, ¬ (k = 75 ∧ j = 9) → k ≠ 83 → k ≠ 79 → zup (zup (zup G 83 r c) 79 (zn c) (G 79 (zn c) + 1)) 75 9 (nI (r + 1)) k j = G k j := fun k j p q s => by rw [zup_ap, if_neg p, zup_ap, if_neg (by omega), zup_ap, if_neg (by omega)]
  have f9 : zup (zup F 10 r c) 3 9 (nI (r + 1)) 3 9 = nI (r + 1) := rfl
  have f10 : zup (zup F 10 r c) 3 9 (nI (r + 1)) 10 r = c := by rw [zup_ap, if_neg (by omega), zup_ap, if_pos ⟨rfl, rfl⟩]
  have er' : zn (F 3 9) = r := by rw [er, zr]
  obtain ⟨h1, h2, h3, h4, h5, h6, h7, h8, h9⟩ := a1
  have l8 := vin_le1 h7
  refine RI_sh (RI_le h (by omega)) ?_ ⟨?_, ?_, rfl, fun j => ?_, fun c' hc' => ?_⟩ (mB_eq a3 (fun k j q => fF k j (by omega) (by omega)) (fun k j q => fG k j (by omega) (by omega) (by omega))) (mC_eq a4 (fun k j q => fF k j (by omega) (by omega)) (fun k j q => fG k j (by omega) (by omega) (by omega))) (mK_eq b4 (fun k j q => fF k j (by omega) (by omega))) (mS_eq b1 (fun k j q => fF k j (by omega) (by omega))) (fun q => ?_) (fun k j q => fF k j (by omega) (by omega)) (fun k j q => fG k j (by omega) (by omega) (by omega))
  · refine ⟨?_, ?_, ?_, ?_, ?_, fun i hi => ?_, ?_, ?_, ?_⟩
    · obtain ⟨s1, s2, s3, s4, s5, s6, s7⟩ := h1
      simp only [shOk, f9, zr1]
      simp (disch := omega) only [fF]
      refine ⟨s1, s2, vin_mk (by omega), s4, s5, s6, fun e he => ?_⟩
      by_cases hee : e = r
      · subst hee
        rw [f10]
        exact hc
      · rw [fF 10 e (by omega) (fun _ => hee)]
        exact s7 e (by omega)
    · simp (disch := omega) only [fF]
      exact h2
    · simp (disch := omega) only [fF]
      exact h3
    · simp (disch := omega) only [fF]
      exact h4
    · simp (disch := omega) only [fF]
      exact h5
    · rw [fF 11 6 (by omega) (by omega)] at hi
      obtain ⟨v1, v2, v3, v4, v5, v6⟩ := h6 i hi
      have lt : zn (F 14 i) < r := by
        have := vin_zn v2
        omega
      simp only [evOk, jgOk, enOk, f9, zr1]
      simp (disch := omega) only [fF]
      exact ⟨v1, vin_le v2 (by omega), v3, v4, v5, v6⟩
    · simp (disch := omega) only [fF]
      exact h7
    · rw [fF 2 7 (by omega) (by omega)]
      intro s hs
      obtain ⟨v1, v2, v3, v4⟩ := h8 s hs
      have lt : zn (F (5 * s + 35) 1) < r := by
        have q := vin_zn v2
        rw [er'] at q
        exact q
      have et : tpS (zup (zup F 10 r c) 3 9 (nI (r + 1))) (zn (F 2 7)) s = tpS F (zn (F 2 7)) s := by
        simp only [tpS]
        split
        · rw [fF _ _ (by omega) (by omega)]
        · rw [fF _ _ (by omega) (by omega)]
      rw [et]
      simp only [scOk, jgOk, enOk, sJ, sE, f9, zr1]
      simp (disch := omega) only [fF]
      exact ⟨v1, vin_le v2 (by omega), v3, v4⟩
    · simp (disch := omega) only [unOk, bsE, fF]
      exact h9
  · rw [fF 3 7 (by omega) (by omega), fG 75 0 (by omega) (by omega) (by omega)]
    exact a2.1
  · rw [fF 3 8 (by omega) (by omega), fG 75 7 (by omega) (by omega) (by omega)]
    exact a2.2.1
  · obtain ⟨y1, y2, y3, y4, y5, y6, y7⟩ := a2.2.2.2.1 j
    simp (disch := omega) only [fF, fG]
    refine ⟨y1, y2, y3, y4, y5, y6, ?_⟩
    simp only [zup_ap, Nat.reduceEqDiff, false_and, true_and, ↓reduceIte, y7]
  · rw [f9, zr1, zfold_s]
    have ez : zfold (gEo (zup (zup F 10 r c) 3 9 (nI (r + 1))) 10 (nI c')) 0 r = zfold (gEo F 10 (nI c')) 0 r := zfold_eq r (fun i hi a => by
      simp only [gEo]
      rw [fF 10 i (by omega) (by omega)])
    rw [ez]
    simp only [gEo]
    have h79 := a2.2.2.2.2 c' hc'
    rw [er'] at h79
    rw [f10, ← h79, zup_ap, if_neg (by omega), zup_ap]
    by_cases hcc : c' = zn c
    · have : c = nI c' := by rw [hcc, vin_nI hc12]
      rw [if_pos ⟨rfl, hcc⟩, if_pos this, hcc]
    · have : ¬ c = nI c' := fun q => hcc (by rw [q, zn_nI (by omega)])
      rw [if_neg (by omega), if_neg this, zup_ap, if_neg (by omega)]
  · have hb := vin_zn (h9.2.2.2.2 q)
    have he := bs_ev ⟨h1, h2, h3, h4, h5, h6, h7, h8, h9⟩
    obtain ⟨v1, v2, -⟩ := h6 (zn (F 2 11)) (by omega)
    have := vin_zn v2
    exact fF 10 _ (by omega) (by omega)
theorem rShow {F G : zFt} {m : Nat} (s x : Int32) (h : RI F G (400 + m)) : (qShow G s x).1 = (pShow F s x).1 ∧ RI (pShow F s x).2 (qShow G s x).2 m := by
  have h' := RI_le h (show m ≤ 400 + m by omega)
  obtain ⟨a1, a2, a3, a4, a5, a6, a7, a8, a9, b1, b2, b3, b4, b5, b6⟩ := h'
  unfold qShow pShow
  by_cases c1 : s < 0
  · rw [if_pos (zi_l c1), if_pos c1]
    exact RI_no3 h _
  rw [if_neg c1]
  by_cases c2 : 3 < s
  · rw [if_pos (by simp [zi3, c2]), if_pos c2]
    exact RI_no3 h _
  rw [if_neg (by simp [zi3, c1, c2]), if_neg c2]
  by_cases c3 : x < 1
  · rw [if_pos (zi_l c3), if_pos c3]
    exact RI_no3 h _
  rw [if_neg c3]
  by_cases c4' : ¬ x ≤ 5
  · rw [if_pos (zi_u c4'), if_neg c4']
    exact RI_no3 h _
  have c4 := Classical.not_not.mp c4'
  rw [if_neg (by rw [zi_le c3 c4]; decide), if_pos c4, a2.1]
  have hl := lt_ne (m := 12) a1.1.1 (by decide)
  by_cases c5 : F 3 7 = 12
  · rw [if_pos c5, if_neg (fun q => hl.mp q c5)]
    exact RI_no3 h _
  rw [if_neg c5, if_pos (hl.mpr c5)]
  refine ⟨i_p1m _, ?_⟩
  obtain ⟨x0, x1, x5⟩ := m15 c3 c4
  obtain ⟨c, hc, ec⟩ := vin_of (ne_vin a1.1.1 c5 (by decide))
  have zc : zn (nI c) = c := zn_nI (by omega)
  have zc1 : zn (nI (c + 1)) = c + 1 := zn_nI (by omega)
  have ec' : zn (F 3 7) = c := by rw [ec, zc]
  have ej := nI_zn a1.1.2.1.1
  have lj := a1.1.2.1.2
  have ea := nI_zn x0
  have gj : G 75 7 = F 3 8 := a2.2.1
  generalize hJ : zn (F 3 8) = J at *
  generalize hA : zn x = a at *
  have ejx : F 3 8 + x = nI (J + a) := by rw [← ej, ← ea, nI_add]
  have zj : zn (nI (J + a)) = J + a := zn_nI (by omega)
  show RI (cAc F s x) (zup (nSh (zup (zup (zup G 76 (zn (F 3 7)) s) 77 (zn (F 3 7)) (G 75 7)) 78 (zn (F 3 7)) x) (F 3 7) a) 75 0 (F 3 7 + 1)) m
  have e8 : (zup (zup (zup G 76 c s) 77 c (F 3 8)) 78 c x) 75 7 = F 3 8 := by rw [zup_ap, if_neg (by omega), zup_ap, if_neg (by omega), zup_ap, if_neg (by omega), gj]
  rw [cAc, nSh, ejx, gj, ec', hJ, hA, e8, hJ, ec, nI_1]
  have fF : ∀ k j, ¬ (k = 3 ∧ (j = 7 ∨ j = 8)) → (k = 4 ∨ k = 5 ∨ k = 6 → j ≠ c) → (k = 9 → j < J ∨ J + a ≤ j) → zup (zup (zfl (zup (zup (zup F 4 c s) 5 c (F 3 8)) 6 c x) 9 J (nI c) a) 3 8 (nI (J + a))) 3 7 (nI (c + 1)) k j = F k j := fun k j p q r => by
    rw [zup_ap, if_neg (by omega), zup_ap, if_neg (by omega), zfl_ap, if_neg (by omega), zup_ap, if_neg (by omega), zup_ap, if_neg (by omega), zup_ap, if_neg (by omega)]
  have fG : ∀ k j, ¬ (k = 75 ∧ (j = 0 ∨ j = 7)) → ¬ (76 ≤ k ∧ k ≤ 78) → k ≠ 82 → zup (zup (zfl (zup (zup (zup G 76 c s) 77 c (F 3 8)) 78 c x) 82 J (nI c) a) 75 7 (nI (J + a))) 75 0 (nI (c + 1)) k j = G k j := fun k j p q r => by
    rw [zup_ap, if_neg (by omega), zup_ap, if_neg (by omega), zfl_ap, if_neg (by omega), zup_ap, if_neg (by omega), zup_ap, if_neg (by omega), zup_ap, if_neg (by omega)]
  have g7 : zup (zup (zfl (zup (zup (zup G 76 c s) 77 c (F 3 8)) 78 c x) 82 J (nI c) a) 75 7 (nI (J + a))) 75 0 (nI (c + 1)) 75 7 = nI (J + a) := by rw [zup_ap, if_neg (by omega), zup_ap, if_pos ⟨rfl, rfl⟩]
  have grow : ∀ j, _ := fun j => a2.2.2.2.1 j
  have hrows : ∀ (F' G' : zFt), F' = zup (zup (zfl (zup (zup (zup F 4 c s) 5 c (F 3 8)) 6 c x) 9 J (nI c) a) 3 8 (nI (J + a))) 3 7 (nI (c + 1)) → G' = zup (zup (zfl (zup (zup (zup G 76 c s) 77 c (F 3 8)) 78 c x) 82 J (nI c) a) 75 7 (nI (J + a))) 75 0 (nI (c + 1)) → ∀ j, G' 76 j = F' 4 j ∧ G' 77 j = F' 5 j ∧ G' 78 j = F' 6 j ∧ G' 82 j = F' 9 j := by
    intro F' G' q1 q2 j
    subst q1 q2
    simp only [zup_ap, zfl_ap, Nat.reduceEqDiff, false_and, true_and, ↓reduceIte, (grow j).1, (grow j).2.1, (grow j).2.2.1, (grow j).2.2.2.2.2.1]
  have hvals : ∀ (F' : zFt), F' = zup (zup (zfl (zup (zup (zup F 4 c s) 5 c (F 3 8)) 6 c x) 9 J (nI c) a) 3 8 (nI (J + a))) 3 7 (nI (c + 1)) → F' 3 7 = nI (c + 1) ∧ F' 3 8 = nI (J + a) ∧ F' 5 c = F 3 8 ∧ F' 6 c = x ∧ ∀ j, J ≤ j → j < J + a → F' 9 j = nI c := by
    intro F' q1
    subst q1
    refine ⟨rfl, ?_, ?_, ?_, fun j j1 j2 => ?_⟩
    · rw [zup_ap, if_neg (by omega), zup_ap, if_pos ⟨rfl, rfl⟩]
    · rw [zup_ap, if_neg (by omega), zup_ap, if_neg (by omega), zfl_ap, if_neg (by omega), zup_ap, if_neg (by omega), zup_ap, if_pos ⟨rfl, rfl⟩]
    · rw [zup_ap, if_neg (by omega), zup_ap, if_neg (by omega), zfl_ap, if_neg (by omega), zup_ap, if_pos ⟨rfl, rfl⟩]
    · rw [zup_ap, if_neg (by omega), zup_ap, if_neg (by omega), zfl_ap, if_pos ⟨rfl, j1, j2⟩]
  generalize hF2 : zup (zup (zfl (zup (zup (zup F 4 c s) 5 c (F 3 8)) 6 c x) 9 J (nI c) a) 3 8 (nI (J + a))) 3 7 (nI (c + 1)) = F2 at *
  generalize hG2 : zup (zup (zfl (zup (zup (zup G 76 c s) 77 c (F 3 8)) 78 c x) 82 J (nI c) a) 75 7 (nI (J + a))) 75 0 (nI (c + 1)) = G2 at *
  have hr2 := hrows F2 G2 rfl rfl
  obtain ⟨f7, f8, f5, f6, f9⟩ := hvals F2 rfl
  obtain ⟨h1, h2, h3, h4, h5, h6, h7, h8, h9⟩ := a1
  have l8 := vin_le1 h7
  have jc : ∀ j : Int32, jgOk F j → zn j < J ∧ zn (F 9 (zn j)) < c := fun j hj => by
    have q1 := vin_zn hj
    rw [hJ] at q1
    have q2 := vin_zn (h1.2.2.2.2.2.1 (zn j) (by rw [hJ]; exact q1)).1
    rw [ec'] at q2
    exact ⟨q1, q2⟩
  refine RI_sh (RI_le h (by omega)) ?_ ⟨?_, ?_, ?_, fun j => ?_, fun c' hc' => ?_⟩ (mB_eq a3 (fun k j q => fF k j (by omega) (by omega) (by omega)) (fun k j q => fG k j (by omega) (by omega) (by omega))) (mC_eq a4 (fun k j q => fF k j (by omega) (by omega) (by omega)) (fun k j q => fG k j (by omega) (by omega) (by omega))) (mK_eq b4 (fun k j q => fF k j (by omega) (by omega) (by omega))) ?_ (fun q => fF 10 _ (by omega) (by omega) (by omega)) (fun k j q => fF k j (by omega) (by omega) (by omega)) (fun k j q => fG k j (by omega) (by omega) (by omega))
  · refine ⟨?_, ?_, ?_, ?_, ?_, fun i hi => ?_, ?_, ?_, ?_⟩
    · obtain ⟨s1, s2, s3, s4, s5, s6, s7⟩ := h1
      simp only [shOk, f7, f8, zc1, zj]
      simp (disch := omega) only [fF]
      rw [ec', hJ] at s5
      rw [hJ, ec'] at s6
      rw [ec'] at s7
      refine ⟨vin_mk (by omega), ⟨by rw [nI_int (by omega)]; omega, by omega⟩, s3, s4, fun c' hc' => ?_, fun j hj => ?_, fun e he => vin_le (s7 e he) (by omega)⟩
      · by_cases hcc : c' = c
        · subst hcc
          rw [f5, f6, hJ, hA]
          exact ⟨⟨x0, x1, x5⟩, s2.1, Nat.le_refl _⟩
        · rw [fF 5 c' (by omega) (fun _ => hcc) (by omega), fF 6 c' (by omega) (fun _ => hcc) (by omega)]
          have := s5 c' (by omega)
          exact ⟨this.1, this.2.1, by have := this.2.2; omega⟩
      · by_cases hjj : J ≤ j
        · rw [f9 j hjj hj, zc, f5, f6, hJ, hA]
          exact ⟨vin_mk (by omega) (by omega), hjj, hj⟩
        · have q := s6 j (by omega)
          have qc := vin_zn q.1
          rw [fF 9 j (by omega) (by omega) (fun _ => by omega), fF 5 _ (by omega) (fun _ => by omega) (by omega), fF 6 _ (by omega) (fun _ => by omega) (by omega)]
          exact ⟨vin_le q.1 (by omega), q.2⟩
    · simp (disch := omega) only [fF]
      exact h2
    · simp (disch := omega) only [fF]
      exact h3
    · simp (disch := omega) only [fF]
      exact h4
    · simp (disch := omega) only [fF]
      exact h5
    · rw [fF 11 6 (by omega) (by omega) (by omega)] at hi
      obtain ⟨v1, v2, v3, v4, v5, v6⟩ := h6 i hi
      have q1 := (jc _ v1).1
      simp only [evOk, jgOk, enOk, f8, zj]
      simp (disch := omega) only [fF]
      refine ⟨?_, v2, v3, v4, v5, v6⟩
      have v1' : vp_in (F 13 i) (zn (F 3 8)) := v1
      rw [hJ] at v1'
      exact vin_le v1' (by omega)
    · simp (disch := omega) only [fF]
      exact h7
    · rw [fF 2 7 (by omega) (by omega) (by omega)]
      intro q hq
      obtain ⟨v1, v2, v3, v4⟩ := h8 q hq
      have q1 := (jc _ v1).1
      have et : tpS F2 (zn (F 2 7)) q = tpS F (zn (F 2 7)) q := by
        simp only [tpS]
        split
        · rw [fF _ _ (by omega) (by omega) (by omega)]
        · rw [fF _ _ (by omega) (by omega) (by omega)]
      have v1' : vp_in (sJ F q) (zn (F 3 8)) := v1
      rw [hJ] at v1'
      have w1 : vp_in (sJ F q) (J + a) := vin_le v1' (by omega)
      have q1' : zn (F (5 * q + 35) 0) < J := q1
      rw [et]
      simp only [scOk, jgOk, enOk, sJ, sE, f8, zj]
      simp (disch := omega) only [fF]
      exact ⟨w1, v2, v3, v4⟩
    · have eb : bsE F2 = bsE F := by rw [bsE, bsE, fF 2 7 (by omega) (by omega) (by omega), fF 11 6 (by omega) (by omega) (by omega), fF 35 2 (by omega) (by omega) (by omega)]
      obtain ⟨u1, u2, u3, u4, u5⟩ := h9
      simp only [unOk, eb, f7, zc1]
      simp (disch := omega) only [fF]
      refine ⟨u1, u2, u3, fun q => ?_, u5⟩
      have := u4 q
      rw [ec'] at this
      exact vin_le this (by omega)
  · rw [f7, ← hG2]
    rfl
  · rw [f8]
    exact g7
  · rw [fF 3 9 (by omega) (by omega) (by omega), fG 75 9 (by omega) (by omega) (by omega)]
    exact a2.2.2.1
  · obtain ⟨y1, y2, y3, y4⟩ := hr2 j
    refine ⟨y1, y2, y3, ?_, ?_, y4, ?_⟩
    · rw [fF 7 j (by omega) (by omega) (by omega), fG 80 j (by omega) (by omega) (by omega)]
      exact (grow j).2.2.2.1
    · rw [fF 8 j (by omega) (by omega) (by omega), fG 81 j (by omega) (by omega) (by omega)]
      exact (grow j).2.2.2.2.1
    · rw [fF 10 j (by omega) (by omega) (by omega), fG 83 j (by omega) (by omega) (by omega)]
      exact (grow j).2.2.2.2.2.2
  · rw [fF 3 9 (by omega) (by omega) (by omega), fG 79 c' (by omega) (by omega) (by omega), gEo_eq F F2 10 (nI c') (fun i => fF 10 i (by omega) (by omega) (by omega))]
    exact a2.2.2.2.2 c' hc'
  · have tm : ∀ j i, i < zn (F 11 6) → tM F2 j i = tM F j i := fun j i hi => by
      obtain ⟨q1, q2⟩ := jc _ (h6 i hi).1
      simp only [tM, cMi]
      simp (disch := omega) only [fF]
    have to' : ∀ j i, tO F2 j i = tO F j i := fun j i => by
      simp only [tO]
      simp (disch := omega) only [fF]
    have tr : ∀ j i, tR F2 j i = tR F j i := fun j i => by
      simp only [tR]
      simp (disch := omega) only [fF]
    rw [mS, fF 11 6 (by omega) (by omega) (by omega)]
    refine ⟨fun j => ?_, fun j => ?_, fun j => ?_, fun q hq => ?_⟩
    · rw [fF 18 j (by omega) (by omega) (by omega), b1.1]
      exact (zsm_congr _ (fun i hi => tm j i hi)).symm
    · rw [fF 17 j (by omega) (by omega) (by omega), b1.2.1]
      exact (zsm_congr _ (fun i hi => to' j i)).symm
    · rw [fF 19 j (by omega) (by omega) (by omega), b1.2.2.1]
      exact (zsm_congr _ (fun i hi => tr j i)).symm
    · rw [fF 16 q (by omega) (by omega) (by omega)]
      exact b1.2.2.2 q hq
