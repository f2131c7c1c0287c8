theorem bs_ev {F : zFt} (h : CI F) : bsE F ≤ zn (F 11 6) := by
  by_cases h0 : zn (F 2 7) = 0
  · rw [bsE, if_pos h0]
    exact Nat.le_refl _
  · obtain ⟨n, hn⟩ : ∃ n, zn (F 2 7) = n + 1 := ⟨zn (F 2 7) - 1, by omega⟩
    have := bs_le h hn
    have := (CI_top h hn).2.2.2.2.2.1.2
    omega
/-- what most calls leave as it is -/
theorem RI_sh {F G F2 G2 : zFt} {m : Nat} (h : RI F G m) (c : CI F2) (A : mA F2 G2) (B : mB F2 G2) (C : mC F2 G2) (K : mK F2) (S : mS F2) (e10 : F 2 10 = 3 → F2 10 (zn (F 14 (zn (F 2 11)))) = F 10 (zn (F 14 (zn (F 2 11))))) (eF : ∀ k j, k = 2 ∨ k = 7 ∨ (11 ≤ k ∧ k ≤ 19) ∨ k = 29 ∨ k = 30 ∨ (35 ≤ k ∧ k ≤ 74) → F2 k j = F k j) (eG : ∀ k j, k = 75 ∧ (j = 19 ∨ j = 28 ∨ 38 ≤ j) ∨ k = 80 ∨ (89 ≤ k ∧ k ≤ 108) → G2 k j = G k j) : RI F2 G2 m := by
  obtain ⟨a1, a2, a3, a4, a5, a6, a7, a8, a9, b1, b2, b3, b4, b5, b6⟩ := h
  refine ⟨c, A, B, C, mD_eq a5 (fun k j q => eF k j (by omega)) (fun k j q => eG k j (by omega)), mE_eq a6 (fun k j q => eF k j (by omega)) (fun k j q => eG k j (by omega)), mF_eq a7 (fun k j q => eF k j (by omega)) (fun k j q => eG k j (by omega)), mH_eq a8 (fun j q => eF 2 j (by omega)) (fun j q => eG 75 j (by omega)), ?_, S, mV_eq b2 (eF 11 6 (by omega)) (fun j q => eF 15 j (by omega)), mM_eq b3 (fun k j q => eF k j (by omega)) (vin_le1 a1.2.2.2.2.2.2.1), K, mZ_eq b5 (fun k j q => eG k j (by omega)), ?_⟩
  · refine mU_eq a9 a1.2.2.2.2.2.2.2.2 ⟨eF 2 10 (by omega), eF 2 11 (by omega), eF 2 12 (by omega)⟩ ?_ (fun i q => ⟨eF 16 i (by omega), eF 14 i (by omega)⟩) e10 (fun q => eF 7 _ (by omega)) (fun k j q => eG k j (by omega))
    rw [bsE, bsE, eF 2 7 (by omega), eF 11 6 (by omega), eF 35 2 (by omega)]
  · rw [mN, eF 29 1 (by omega)]
    exact b6
theorem rPrizes {F G : zFt} {m : Nat} (c x y z : Int32) (h : RI F G (400 + m)) : (qPrizes G c x y z).1 = (pPrizes F c x y z).1 ∧ RI (pPrizes F c x y z).2 (qPrizes G c x y z).2 m := by
  have h' := RI_le h (show m ≤ 400 + m by omega)
  obtain ⟨a1, a2, a3, a4, a5, a6, a7, a8, a9, b1, b2, b3, b4, b5, b6⟩ := h'
  unfold qPrizes pPrizes
  rw [a2.1, (a2.2.2.2.1 _).2.2.2.1, show zi3 x 0 1000000 = zin1 x 1000000 from rfl, show zi3 y 0 1000000 = zin1 y 1000000 from rfl, show zi3 z 0 1000000 = zin1 z 1000000 from rfl]
  split
  · exact RI_no3 h _
  split
  · exact RI_no3 h _
  split
  · exact RI_no3 h _
  split
  · exact RI_no3 h _
  split
  · refine ⟨rfl, ?_⟩
    show RI (cPz F c x y z) (nPz G c x y z) m
    have fF : ∀ k j, k ≠ 8 → cPz F c x y z k j = F k j := fun k j q => by rw [cPz, zup_ap, if_neg (by omega), zup_ap, if_neg (by omega), zup_ap, if_neg (by omega)]
    have fG : ∀ k j, k ≠ 81 → nPz G c x y z k j = G k j := fun k j q => by rw [nPz, zup_ap, if_neg (by omega), zup_ap, if_neg (by omega), zup_ap, if_neg (by omega)]
    have e81 : ∀ j, nPz G c x y z 81 j = cPz F c x y z 8 j := fun j => by
      simp only [nPz, cPz, zup_ap, true_and, Int32.mul_comm 3 c, (a2.2.2.2.1 j).2.2.2.2.1]
    have eg : ∀ c', gEo (cPz F c x y z) 10 c' = gEo F 10 c' := fun c' => gEo_eq F _ 10 c' (fun i => fF 10 i (by omega))
    refine RI_sh (RI_le h (by omega)) (CI_eq a1 (fun k j q => fF k j (by omega))) ?_ (mB_eq a3 (fun k j q => fF k j (by omega)) (fun k j q => fG k j (by omega))) (mC_eq a4 (fun k j q => fF k j (by omega)) (fun k j q => fG k j (by omega))) (mK_eq b4 (fun k j q => fF k j (by omega))) (mS_eq b1 (fun k j q => fF k j (by omega))) (fun q => fF 10 _ (by omega)) (fun k j q => fF k j (by omega)) (fun k j q => fG k j (by omega))
    simp only [mA, eg, e81]
    simp (disch := omega) only [fF, fG]
    exact ⟨a2.1, a2.2.1, a2.2.2.1, fun j => by have := a2.2.2.2.1 j; exact ⟨this.1, this.2.1, this.2.2.1, this.2.2.2.1, trivial, this.2.2.2.2.2⟩, a2.2.2.2.2⟩
  · exact RI_no3 h _
theorem zrk_in {y : Int32} (h : zrk y = true) : vp_in y 12 := by
  have := zrk_k h
  rw [vin]
  omega
theorem rRule {F G : zFt} {m : Nat} (x y z : Int32) (h : RI F G (400 + m)) : (qRule G x y z).1 = (pRule F x y z).1 ∧ RI (pRule F x y z).2 (qRule G x y z).2 m := by
  have h' := RI_le h (show m ≤ 400 + m by omega)
  obtain ⟨a1, a2, a3, a4, a5, a6, a7, a8, a9, b1, b2, b3, b4, b5, b6⟩ := h'
  unfold qRule pRule
  by_cases c1 : x < 0
  · rw [if_pos (zi_l c1), if_pos c1]
    exact RI_no3 h _
  rw [if_neg c1]
  by_cases c2 : 3 < x
  · rw [if_pos (by simp [zi3, c2]), if_pos c2]
    exact RI_no3 h _
  rw [if_neg (by simp [zi3, c1, c2]), if_neg c2, a3.1]
  by_cases c3 : zrk y = false
  · rw [if_pos c3, if_pos c3]
    exact RI_no3 h _
  rw [if_neg c3, if_neg c3]
  have hl := lt_ne (m := 24) a1.2.2.1 (by decide)
  by_cases c4 : F 25 3 = 24
  · rw [if_pos c4, if_neg (fun q => hl.mp q c4)]
    exact RI_no3 h _
  rw [if_neg c4, if_pos (hl.mpr c4)]
  have hy : zrk y = true := by simpa using c3
  obtain ⟨r, hr, er⟩ := vin_of (ne_vin a1.2.2.1 c4 (by decide))
  have zr : zn (nI r) = r := zn_nI (by omega)
  have zr1 : zn (nI (r + 1)) = r + 1 := zn_nI (by omega)
  refine ⟨i_p1m _, ?_⟩
  show RI (cRu F x y z) (nRu G x y z) m
  rw [cRu, nRu, a3.1, er, zr, nI_1]
  have fF : ∀ k j, ¬ (k = 25 ∧ j = 3) → (k = 26 ∨ k = 27 ∨ k = 28 → j ≠ r) → zup (zup (zup (zup F 26 r x) 27 r y) 28 r z) 25 3 (nI (r + 1)) k j = F k j := fun k j p q => by rw [zup_ap, if_neg p, zup_ap, if_neg (by omega), zup_ap, if_neg (by omega), zup_ap, if_neg (by omega)]
  have fG : ∀ k j, ¬ (k = 75 ∧ j = 11) → (k = 84 ∨ k = 85 ∨ k = 86 → j ≠ r) → zup (zup (zup (zup G 84 r x) 85 r y) 86 r z) 75 11 (nI (r + 1)) k j = G k j := fun k j p q => by rw [zup_ap, if_neg p, zup_ap, if_neg (by omega), zup_ap, if_neg (by omega), zup_ap, if_neg (by omega)]
  have f27 : zup (zup (zup (zup F 26 r x) 27 r y) 28 r z) 25 3 (nI (r + 1)) 27 r = y := by rw [zup_ap, if_neg (by omega), zup_ap, if_neg (by omega), zup_ap, if_pos ⟨rfl, rfl⟩]
  have f25 : zup (zup (zup (zup F 26 r x) 27 r y) 28 r z) 25 3 (nI (r + 1)) 25 3 = nI (r + 1) := rfl
  refine RI_sh (RI_le h (by omega)) ?_ (mA_eq a2 (fun k j q => fF k j (by omega) (by omega)) (fun k j q => fG k j (by omega) (by omega))) ⟨rfl, fun j => ?_⟩ (mC_eq a4 (fun k j q => fF k j (by omega) (by omega)) (fun k j q => fG k j (by omega) (by omega))) (fun q hq => ?_) (mS_eq b1 (fun k j q => fF k j (by omega) (by omega))) (fun q => fF 10 _ (by omega) (by omega)) (fun k j q => fF k j (by omega) (by omega)) (fun k j q => fG k j (by omega) (by omega))
  · obtain ⟨h1, h2, h3, h4, h5, h6, h7, h8, h9⟩ := a1
    have l8 := vin_le1 h7
    refine ⟨?_, ?_, ?_, ?_, ?_, ?_, ?_, ?_, ?_⟩
    · simp (disch := omega) only [shOk, fF]
      exact h1
    · simp (disch := omega) only [fF]
      exact h2
    · rw [f25]
      exact vin_mk (by omega)
    · rw [f25, zr1]
      intro q hq
      by_cases hqr : q = r
      · subst hqr
        rw [f27]
        exact zrk_in hy
      · rw [fF 27 q (by omega) (fun _ => hqr)]
        refine h4 q ?_
        rw [er, zr]
        omega
    · simp (disch := omega) only [fF]
      exact h5
    · simp (disch := omega) only [evOk, jgOk, enOk, fF]
      exact h6
    · simp (disch := omega) only [fF]
      exact h7
    · rw [fF 2 7 (by omega) (by omega)]
      intro s hs
      have hh := h8 s hs
      simp (disch := omega) only [scOk, jgOk, enOk, sJ, sE, tpS, fF] at hh ⊢
      exact hh
    · simp (disch := omega) only [unOk, bsE, fF]
      exact h9
  · simp only [zup_ap, Nat.reduceEqDiff, false_and, true_and, ↓reduceIte, (a3.2 j).1, (a3.2 j).2.1, (a3.2 j).2.2]
  · rw [f25, zr1] at hq
    by_cases hqr : q = r
    · subst hqr
      rw [f27]
      exact hy
    · rw [fF 27 q (by omega) (fun _ => hqr)]
      refine b4 q ?_
      rw [er, zr]
      omega
theorem rClear {F G : zFt} {m : Nat} (h : RI F G (400 + m)) : (qClear G).1 = (pClear F).1 ∧ RI (pClear F).2 (qClear G).2 m := by
  have h' := RI_le h (show m ≤ 400 + m by omega)
  obtain ⟨a1, a2, a3, a4, a5, a6, a7, a8, a9, b1, b2, b3, b4, b5, b6⟩ := h'
  refine ⟨a3.1, ?_⟩
  show RI (zup F 25 3 0) (zup G 75 11 0) m
  have fF : ∀ k j, ¬ (k = 25 ∧ j = 3) → zup F 25 3 0 k j = F k j := fun k j p => by rw [zup_ap, if_neg p]
  have fG : ∀ k j, ¬ (k = 75 ∧ j = 11) → zup G 75 11 0 k j = G k j := fun k j p => by rw [zup_ap, if_neg p]
  have f25 : zup F 25 3 0 25 3 = 0 := rfl
  refine RI_sh (RI_le h (by omega)) ?_ (mA_eq a2 (fun k j q => fF k j (by omega)) (fun k j q => fG k j (by omega))) ⟨rfl, fun j => ?_⟩ (mC_eq a4 (fun k j q => fF k j (by omega)) (fun k j q => fG k j (by omega))) (fun q hq => absurd hq (Nat.not_lt_zero q)) (mS_eq b1 (fun k j q => fF k j (by omega))) (fun q => fF 10 _ (by omega)) (fun k j q => fF k j (by omega)) (fun k j q => fG k j (by omega))
  · obtain ⟨h1, h2, h3, h4, h5, h6, h7, h8, h9⟩ := a1
    have l8 := vin_le1 h7
    refine ⟨?_, ?_, ?_, fun q hq => absurd hq (Nat.not_lt_zero q), ?_, ?_, ?_, ?_, ?_⟩
    · simp (disch := omega) only [shOk, fF]
      exact h1
    · simp (disch := omega) only [fF]
      exact h2
    · rw [f25]
      exact vin_mk (a := 0) (by omega)
    · simp (disch := omega) only [fF]
      exact h5
    · simp (disch := omega) only [evOk, jgOk, enOk, fF]
      exact h6
    · simp (disch := omega) only [fF]
      exact h7
    · rw [fF 2 7 (by omega)]
      intro s hs
      have hh := h8 s hs
      simp (disch := omega) only [scOk, jgOk, enOk, sJ, sE, tpS, fF] at hh ⊢
      exact hh
    · simp (disch := omega) only [unOk, bsE, fF]
      exact h9
  · simp (disch := omega) only [fF, fG]
    exact a3.2 j
theorem rObs {F G : zFt} {m : Nat} (x : Int32) (h : RI F G (400 + m)) : (qObs G x).1 = (pObs F x).1 ∧ RI (pObs F x).2 (qObs G x).2 m := by
  have h' := RI_le h (show m ≤ 400 + m by omega)
  obtain ⟨a1, a2, a3, a4, a5, a6, a7, a8, a9, b1, b2, b3, b4, b5, b6⟩ := h'
  unfold qObs pObs
  rw [a4.1]
  have hl := lt_ne (m := 6) a1.2.1 (by decide)
  by_cases c1 : 0 ≤ x
  · rw [if_pos c1, if_pos c1]
    by_cases c2 : F 31 2 = 6
    · rw [if_pos c2, if_neg (fun q => hl.mp q c2)]
      exact RI_no3 h _
    rw [if_neg c2, if_pos (hl.mpr c2)]
    refine ⟨i_p1m _, ?_⟩
    obtain ⟨r, hr, er⟩ := vin_of (ne_vin a1.2.1 c2 (by decide))
    have zr : zn (nI r) = r := zn_nI (by omega)
    have zr1 : zn (nI (r + 1)) = r + 1 := zn_nI (by omega)
    show RI (zup (zup F 32 (zn (F 31 2)) x) 31 2 (F 31 2 + 1)) (zup (zup (zup G 87 (zn (F 31 2)) x) 88 (zn (F 31 2)) 0) 75 15 (F 31 2 + 1)) m
    rw [er, zr, nI_1]
    have fF : ∀ k j, ¬ (k = 31 ∧ j = 2) → (k = 32 → j ≠ r) → zup (zup F 32 r x) 31 2 (nI (r + 1)) k j = F k j := fun k j p q => by rw [zup_ap, if_neg p, zup_ap, if_neg (by omega)]
    have fG : ∀ k j, ¬ (k = 75 ∧ j = 15) → k ≠ 87 → k ≠ 88 → zup (zup (zup G 87 r x) 88 r 0) 75 15 (nI (r + 1)) k j = G k j := fun k j p q s => by rw [zup_ap, if_neg p, zup_ap, if_neg (by omega), zup_ap, if_neg (by omega)]
    have f31 : zup (zup F 32 r x) 31 2 (nI (r + 1)) 31 2 = nI (r + 1) := rfl
    refine RI_sh (RI_le h (by omega)) ?_ (mA_eq a2 (fun k j q => fF k j (by omega) (by omega)) (fun k j q => fG k j (by omega) (by omega) (by omega))) (mB_eq a3 (fun k j q => fF k j (by omega) (by omega)) (fun k j q => fG k j (by omega) (by omega) (by omega))) ⟨rfl, ?_, fun j => ⟨?_, ?_⟩, fun j hj => ?_⟩ (mK_eq b4 (fun k j q => fF k j (by omega) (by omega))) (mS_eq b1 (fun k j q => fF k j (by omega) (by omega))) (fun q => fF 10 _ (by omega) (by omega)) (fun k j q => fF k j (by omega) (by omega)) (fun k j q => fG k j (by omega) (by omega) (by omega))
    · obtain ⟨h1, h2, h3, h4, h5, h6, h7, h8, h9⟩ := a1
      have l8 := vin_le1 h7
      refine ⟨?_, ?_, ?_, ?_, ?_, ?_, ?_, ?_, ?_⟩
      · simp (disch := omega) only [shOk, fF]
        exact h1
      · rw [f31]
        exact vin_mk (by omega)
      · simp (disch := omega) only [fF]
        exact h3
      · simp (disch := omega) only [fF]
        exact h4
      · simp (disch := omega) only [fF]
        exact h5
      · simp (disch := omega) only [evOk, jgOk, enOk, fF]
        exact h6
      · simp (disch := omega) only [fF]
        exact h7
      · rw [fF 2 7 (by omega) (by omega)]
        intro s hs
        have hh := h8 s hs
        simp (disch := omega) only [scOk, jgOk, enOk, sJ, sE, tpS, fF] at hh ⊢
        exact hh
      · simp (disch := omega) only [unOk, bsE, fF]
        exact h9
    · rw [fF 31 3 (by omega) (by omega), fG 75 18 (by omega) (by omega) (by omega)]
      exact a4.2.1
    · simp only [zup_ap, Nat.reduceEqDiff, false_and, true_and, ↓reduceIte, (a4.2.2.1 j).1]
    · rw [fF 33 j (by omega) (by omega), zup_ap, if_neg (by omega), zup_ap]
      by_cases hj : j = r
      · rw [if_pos ⟨rfl, hj⟩]
        refine (a4.2.2.2 j ?_).symm
        rw [er, zr]
        omega
      · rw [if_neg (by omega), zup_ap, if_neg (by omega)]
        exact (a4.2.2.1 j).2
    · rw [f31, zr1] at hj
      rw [fF 33 j (by omega) (by omega)]
      refine a4.2.2.2 j ?_
      rw [er, zr]
      omega
  · rw [if_neg c1, if_neg c1]
    exact RI_no3 h _
