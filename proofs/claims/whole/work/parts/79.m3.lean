theorem rBegin {F G : zFt} {m : Nat} (j e : Int32) (h : RI F G (400 + m)) : (qBegin G j e).1 = (pBegin F j e).1 ∧ RI (pBegin F j e).2 (qBegin G j e).2 m := by
  have h' := h
  obtain ⟨a1, a2, a3, a4, a5, a6, a7, a8, a9, b1, b2, b3, b4, b5, b6⟩ := h'
  unfold qBegin pBegin
  rw [a2.2.1, a2.2.2.1, (a2.2.2.2.1 _).2.2.2.2.2.1, (a2.2.2.2.1 (zn e)).2.2.2.2.2.2, (a2.2.2.2.1 _).2.2.2.1, RI_28 h]
  by_cases c1 : zin j (F 3 8) = false
  · rw [if_pos c1, if_pos c1]
    exact RI_no3 h _
  rw [if_neg c1, if_neg c1]
  by_cases c2 : zin e (F 3 9) = false
  · rw [if_pos c2, if_pos c2]
    exact RI_no3 h _
  rw [if_neg c2, if_neg c2]
  by_cases c3' : ¬ F 9 (zn j) = F 10 (zn e)
  · rw [if_neg c3', if_neg c3']
    exact RI_no3 h _
  have c3 := Classical.not_not.mp c3'
  rw [if_pos c3, if_pos c3]
  by_cases c4' : ¬ F 7 (zn (F 10 (zn e))) = 0
  · rw [if_neg c4', if_neg c4']
    exact RI_no3 h _
  have c4 := Classical.not_not.mp c4'
  rw [if_pos c4, if_pos c4]
  have h7 := a1.2.2.2.2.2.2.1
  have hl := lt_ne (m := 8) h7 (by decide)
  by_cases c5 : F 2 7 = 8
  · rw [if_pos c5, if_neg (fun q => hl.mp q c5)]
    exact RI_no3 h _
  rw [if_neg c5, if_pos (hl.mpr c5)]
  refine ⟨rfl, ?_⟩
  have v8 := ne_vin h7 c5 (by decide)
  have n8 := vin_zn v8
  have e7 := vin_nI v8
  generalize hn : zn (F 2 7) = n at *
  have p7 : F 2 7 + 1 = nI (n + 1) := by rw [← e7, nI_1]
  show RI (cBe1 F j e) _ m
  rw [cBe1, hn, p7, RI_19 h]
  have fF : ∀ k i, ¬ (k = 2 ∧ i = 7) → ¬ (k = 5 * n + 35 ∧ (i = 0 ∨ i = 1 ∨ i = 2 ∨ i = 5 ∨ i = 8)) → zup (cSt F n j e (F 11 6)) 2 7 (nI (n + 1)) k i = F k i := fun k i p q => by
    simp only [cSt]
    rw [zup_ap, if_neg p, zup_ap, if_neg (by omega), zup_ap, if_neg (by omega), zup_ap, if_neg (by omega), zup_ap, if_neg (by omega), zup_ap, if_neg (by omega)]
  have f0 : zup (cSt F n j e (F 11 6)) 2 7 (nI (n + 1)) (5 * n + 35) 0 = j := by
    simp only [cSt]
    rw [zup_ap, if_neg (by omega), zup_ap, if_neg (by omega), zup_ap, if_neg (by omega), zup_ap, if_neg (by omega), zup_ap, if_neg (by omega), zup_ap, if_pos ⟨rfl, rfl⟩]
  have f1 : zup (cSt F n j e (F 11 6)) 2 7 (nI (n + 1)) (5 * n + 35) 1 = e := by
    simp only [cSt]
    rw [zup_ap, if_neg (by omega), zup_ap, if_neg (by omega), zup_ap, if_neg (by omega), zup_ap, if_neg (by omega), zup_ap, if_pos ⟨rfl, rfl⟩]
  have f2 : zup (cSt F n j e (F 11 6)) 2 7 (nI (n + 1)) (5 * n + 35) 2 = F 11 6 := by
    simp only [cSt]
    rw [zup_ap, if_neg (by omega), zup_ap, if_neg (by omega), zup_ap, if_neg (by omega), zup_ap, if_pos ⟨rfl, rfl⟩]
  have f5 : zup (cSt F n j e (F 11 6)) 2 7 (nI (n + 1)) (5 * n + 35) 5 = 0 := by
    simp only [cSt]
    rw [zup_ap, if_neg (by omega), zup_ap, if_neg (by omega), zup_ap, if_pos ⟨rfl, rfl⟩]
  have f8 : zup (cSt F n j e (F 11 6)) 2 7 (nI (n + 1)) (5 * n + 35) 8 = 0 := by
    simp only [cSt]
    rw [zup_ap, if_neg (by omega), zup_ap, if_pos ⟨rfl, rfl⟩]
  have f7 : zup (cSt F n j e (F 11 6)) 2 7 (nI (n + 1)) 2 7 = nI (n + 1) := rfl
  have gG : ∀ k i, ¬ (k = 75 ∧ i = 28) → ¬ ((k = 97 ∨ k = 98 ∨ k = 99 ∨ k = 100 ∨ k = 103) ∧ i = n) → zup (zup (zup (zup (zup (zup G 97 n j) 98 n e) 99 n (F 11 6)) 100 n 0) 103 n 0) 75 28 (nI (n + 1)) k i = G k i := fun k i p q => by
    rw [zup_ap, if_neg p, zup_ap, if_neg (by omega), zup_ap, if_neg (by omega), zup_ap, if_neg (by omega), zup_ap, if_neg (by omega), zup_ap, if_neg (by omega)]
  have gs : ∀ F' : zFt, F' = zup (zup (zup (zup (zup (zup G 97 n j) 98 n e) 99 n (F 11 6)) 100 n 0) 103 n 0) 75 28 (nI (n + 1)) → F' 97 n = j ∧ F' 98 n = e ∧ F' 99 n = F 11 6 ∧ F' 100 n = 0 ∧ F' 103 n = 0 ∧ F' 75 28 = nI (n + 1) := fun F' q => by
    subst q
    simp only [zup_ap, Nat.reduceEqDiff, false_and, true_and, and_self, ↓reduceIte]
  generalize hF2 : zup (cSt F n j e (F 11 6)) 2 7 (nI (n + 1)) = F2 at *
  generalize hG2 : zup (zup (zup (zup (zup (zup G 97 n j) 98 n e) 99 n (F 11 6)) 100 n 0) 103 n 0) 75 28 (nI (n + 1)) = G2 at *
  obtain ⟨g0, g1, g2, g3, g4, g5⟩ := gs G2 rfl
  have ez : zn (nI (n + 1)) = n + 1 := zn_nI (by omega)
  have hbs : bsE F2 = bsE F := by
    rw [bsE, bsE, f7, ez, hn, if_neg (show ¬ n + 1 = 0 by omega)]
    by_cases h0 : n = 0
    · subst h0
      rw [if_pos rfl]
      exact congrArg zn f2
    · rw [if_neg h0, fF 35 2 (by omega) (by omega)]
  obtain ⟨h1, h2, h3, h4, h5, h6, -, h8, h9⟩ := a1
  rw [hn] at h8
  show RI F2 G2 m
  have hj : jgOk F j := zin_v (by simpa using c1)
  have he : enOk F e := zin_v (by simpa using c2)
  refine ⟨⟨?_, ?_, ?_, ?_, ?_, ?_, ?_, ?_, ?_⟩, mA_eq a2 (fun k i q => fF k i (by omega) (by omega)) (fun k i q => gG k i (by omega) (by omega)), mB_eq a3 (fun k i q => fF k i (by omega) (by omega)) (fun k i q => gG k i (by omega) (by omega)), mC_eq a4 (fun k i q => fF k i (by omega) (by omega)) (fun k i q => gG k i (by omega) (by omega)), mD_eq a5 (fun k i q => fF k i (by omega) (by omega)) (fun k i q => gG k i (by omega) (by omega)), ⟨by rw [f7, g5], fun s hs => ?_⟩, mF_eq a7 (fun k i q => fF k i (by omega) (by omega)) (fun k i q => gG k i (by omega) (by omega)), mH_eq a8 (fun i q => fF 2 i (by omega) (by omega)) (fun i q => gG 75 i (by omega) (by omega)), mU_eq a9 h9 ⟨fF 2 10 (by omega) (by omega), fF 2 11 (by omega) (by omega), fF 2 12 (by omega) (by omega)⟩ hbs (fun i q => ⟨fF 16 i (by omega) (by omega), fF 14 i (by omega) (by omega)⟩) (fun q => fF 10 _ (by omega) (by omega)) (fun q => fF 7 _ (by omega) (by omega)) (fun k i q => gG k i (by omega) (by omega)), mS_eq b1 (fun k i q => fF k i (by omega) (by omega)), mV_eq b2 (fF 11 6 (by omega) (by omega)) (fun i q => fF 15 i (by omega) (by omega)), ?_, mK_eq b4 (fun k i q => fF k i (by omega) (by omega)), mZ_eq b5 (fun k i q => gG k i (by omega) (by omega)), ?_⟩
  · simp (disch := omega) only [shOk, fF]
    exact h1
  · simp (disch := omega) only [fF]
    exact h2
  · simp (disch := omega) only [fF]
    exact h3
  · simp (disch := omega) only [fF]
    exact h4
  · simp (disch := omega) only [fF]
    exact h5
  · simp (disch := omega) only [evOk, jgOk, enOk, fF]
    exact h6
  · rw [f7]
    exact vin_mk (by omega)
  · rw [f7, ez]
    intro s hs
    by_cases hsn : s = n
    · subst hsn
      simp only [tpS]
      rw [if_neg (by omega)]
      simp only [scOk, jgOk, enOk, sJ, sE, f0, f1, f2, f5, f8]
      simp (disch := omega) only [fF]
      exact ⟨hj, he, c3, vin_mk (a := 0) (by decide), vin_mk (a := 0) (by decide), ⟨vin_0 h5, Nat.le_refl _⟩, fun k hk => absurd hk (Nat.not_lt_zero k), fun a b _ hb => absurd hb (Nat.not_lt_zero b), fun k hk => absurd hk (Nat.not_lt_zero k)⟩
    · have hh := h8 s (by omega)
      have et : tpS F2 (n + 1) s = tpS F n s := by
        simp only [tpS]
        rw [if_pos (show s + 1 < n + 1 by omega)]
        by_cases hl2 : s + 1 < n
        · rw [if_pos hl2, fF _ _ (by omega) (by omega)]
        · rw [if_neg hl2, show s + 1 = n by omega, f2]
      rw [et]
      simp (disch := omega) only [scOk, jgOk, enOk, sJ, sE, fF]
      exact hh
  · simp only [unOk, hbs]
    simp (disch := omega) only [fF]
    exact h9
  · obtain ⟨y1, y2, y3, y4, y5, y6, y7⟩ := a6.2 s hs
    by_cases hsn : s = n
    · subst hsn
      simp only [mE1, f0, f1, f2, f5, f8, g0, g1, g2, g3, g4]
      simp (disch := omega) only [fF, gG]
      exact ⟨trivial, trivial, trivial, trivial, trivial, y6, y7⟩
    · simp only [mE1]
      simp (disch := omega) only [fF, gG]
      exact ⟨y1, y2, y3, y4, y5, y6, y7⟩
  · intro s hs a b hab hb
    rw [f7, ez] at hs
    by_cases hsn : s = n
    · subst hsn
      rw [f5] at hb
      exact absurd hb (Nat.not_lt_zero b)
    · rw [fF _ _ (by omega) (by omega)] at hb
      rw [fF _ _ (by omega) (by omega), fF _ _ (by omega) (by omega)]
      exact b3 s (by omega) a b hab hb
  · rw [mN, fF 29 1 (by omega) (by omega)]
    exact ⟨b6.1, by have := b6.2; omega⟩
theorem CI_un {F F' : zFt} (h : CI F) (e : ∀ k j, ¬ (k = 2 ∧ 8 ≤ j) → F' k j = F k j) (hu : unOk F') : CI F' := by
  obtain ⟨h1, h2, h3, h4, h5, h6, h7, h8, h9⟩ := h
  refine ⟨?_, ?_, ?_, ?_, ?_, ?_, ?_, ?_, hu⟩
  · simp (disch := omega) only [shOk, e]
    exact h1
  · simp (disch := omega) only [e]
    exact h2
  · simp (disch := omega) only [e]
    exact h3
  · simp (disch := omega) only [e]
    exact h4
  · simp (disch := omega) only [e]
    exact h5
  · simp (disch := omega) only [evOk, jgOk, enOk, e]
    exact h6
  · simp (disch := omega) only [e]
    exact h7
  · simp (disch := omega) only [scOk, jgOk, enOk, sJ, sE, tpS, e]
    exact h8
theorem CI_en {F : zFt} (h : CI F) {n : Nat} (hn : zn (F 2 7) = n + 1) : CI (cEn F) ∧ cEn F = zup F 2 7 (nI n) ∧ (n = 0 → bsE (cEn F) = zn (F 11 6)) ∧ (¬ n = 0 → bsE (cEn F) = bsE F) := by
  obtain ⟨n8, hin, e7, e1, hF⟩ := CI_n h hn
  have ht := CI_top h hn
  have hbl := bs_le h hn
  have ed : cEn F = zup F 2 7 (nI n) := by rw [cEn, e1]
  rw [ed]
  have e : ∀ k j, ¬ (k = 2 ∧ j = 7) → zup F 2 7 (nI n) k j = F k j := fun k j q => by rw [zup_ap, if_neg q]
  have f7 : zup F 2 7 (nI n) 2 7 = nI n := rfl
  have ez : zn (nI n) = n := zn_nI (by omega)
  generalize hG : zup F 2 7 (nI n) = G at *
  have b0 : n = 0 → bsE G = zn (F 11 6) := fun q => by rw [bsE, f7, ez, if_pos q, e 11 6 (by omega)]
  have b1 : ¬ n = 0 → bsE G = bsE F := fun q => by rw [bsE, bsE, f7, ez, if_neg q, hn, if_neg (show ¬ n + 1 = 0 by omega), e 35 2 (by omega)]
  have bb : bsE F ≤ bsE G := by
    by_cases q : n = 0
    · rw [b0 q]
      have := ht.2.2.2.2.2.1.2
      omega
    · rw [b1 q]
      exact Nat.le_refl _
  obtain ⟨h1, h2, h3, h4, h5, h6, h7, h8, h9⟩ := h
  refine ⟨⟨?_, ?_, ?_, ?_, ?_, ?_, ?_, ?_, ?_⟩, rfl, b0, b1⟩
  · simp (disch := omega) only [shOk, e]
    exact h1
  · simp (disch := omega) only [e]
    exact h2
  · simp (disch := omega) only [e]
    exact h3
  · simp (disch := omega) only [e]
    exact h4
  · simp (disch := omega) only [e]
    exact h5
  · simp (disch := omega) only [evOk, jgOk, enOk, e]
    exact h6
  · rw [f7]
    exact vin_mk (by omega)
  · rw [f7, ez]
    intro s hs
    have hh := h8 s (by omega)
    rw [hn] at hh
    have et : tpS F (n + 1) s ≤ tpS G n s := by
      simp only [tpS]
      rw [if_pos (show s + 1 < n + 1 by omega)]
      by_cases hl2 : s + 1 < n
      · rw [if_pos hl2, e _ _ (by omega)]
        exact Nat.le_refl _
      · rw [if_neg hl2, e _ _ (by omega), show s + 1 = n by omega]
        exact ht.2.2.2.2.2.1.2
    have h2 := sc_le hh et
    simp (disch := omega) only [scOk, jgOk, enOk, sJ, sE, e]
    exact h2
  · obtain ⟨u1, u2, u3, u4, u5⟩ := h9
    simp only [unOk]
    simp (disch := omega) only [e]
    exact ⟨u1, u2, fun q => ⟨(u3 q).1, by have := (u3 q).2; omega⟩, u4, fun q => vin_le (u5 q) bb⟩
theorem RI_te {F G : zFt} {m a : Nat} (h : RI F G m) (ha : a < zn (F 31 2)) : RI (cTe F (nI a)) (nEt G a) m := by
  obtain ⟨a1, a2, a3, a4, a5, a6, a7, a8, a9, b1, b2, b3, b4, b5, b6⟩ := h
  have l7 := vin_le1 a1.2.1
  have ez : zn (nI a) = a := zn_nI (by omega)
  rw [cTe, ez, nEt]
  have fF : ∀ k j, ¬ (k = 31 ∧ j = 3) → k ≠ 33 → zup (zup F 31 3 (F 31 3 + 1)) 33 a (F 33 a + 1) k j = F k j := fun k j p q => by rw [zup_ap, if_neg (by omega), zup_ap, if_neg p]
  have fG : ∀ k j, ¬ (k = 75 ∧ j = 18) → k ≠ 88 → zup (zup G 88 a (G 88 a + 1)) 75 18 (G 75 18 + 1) k j = G k j := fun k j p q => by rw [zup_ap, if_neg p, zup_ap, if_neg (by omega)]
  refine ⟨CI_eq a1 (fun k j q => fF k j (by omega) (by omega)), mA_eq a2 (fun k j q => fF k j (by omega) (by omega)) (fun k j q => fG k j (by omega) (by omega)), mB_eq a3 (fun k j q => fF k j (by omega) (by omega)) (fun k j q => fG k j (by omega) (by omega)), ⟨?_, ?_, fun j => ⟨?_, ?_⟩, fun j hj => ?_⟩, mD_eq a5 (fun k j q => fF k j (by omega) (by omega)) (fun k j q => fG k j (by omega) (by omega)), mE_eq a6 (fun k j q => fF k j (by omega) (by omega)) (fun k j q => fG k j (by omega) (by omega)), mF_eq a7 (fun k j q => fF k j (by omega) (by omega)) (fun k j q => fG k j (by omega) (by omega)), mH_eq a8 (fun j q => fF 2 j (by omega) (by omega)) (fun j q => fG 75 j (by omega) (by omega)), ?_, mS_eq b1 (fun k j q => fF k j (by omega) (by omega)), mV_eq b2 (fF 11 6 (by omega) (by omega)) (fun j q => fF 15 j (by omega) (by omega)), mM_eq b3 (fun k j q => fF k j (by omega) (by omega)) (vin_le1 a1.2.2.2.2.2.2.1), mK_eq b4 (fun k j q => fF k j (by omega) (by omega)), mZ_eq b5 (fun k j q => fG k j (by omega) (by omega)), ?_⟩
  · rw [fF 31 2 (by omega) (by omega), fG 75 15 (by omega) (by omega)]
    exact a4.1
  · rw [zup_ap, if_pos ⟨rfl, rfl⟩, zup_ap, if_neg (by omega), zup_ap, if_pos ⟨rfl, rfl⟩, a4.2.1]
  · rw [fF 32 j (by omega) (by omega), fG 87 j (by omega) (by omega)]
    exact (a4.2.2.1 j).1
  · rw [zup_ap, if_neg (by omega), zup_ap, zup_ap]
    by_cases hj : j = a
    · rw [if_pos ⟨rfl, hj⟩, if_pos ⟨rfl, hj⟩, (a4.2.2.1 a).2]
    · rw [if_neg (by omega), if_neg (by omega), zup_ap, if_neg (by omega)]
      exact (a4.2.2.1 j).2
  · rw [fF 31 2 (by omega) (by omega)] at hj
    rw [zup_ap, if_neg (by omega), zup_ap, if_neg (by omega)]
    exact a4.2.2.2 j hj
  · refine mU_eq a9 a1.2.2.2.2.2.2.2.2 ⟨fF 2 10 (by omega) (by omega), fF 2 11 (by omega) (by omega), fF 2 12 (by omega) (by omega)⟩ ?_ (fun i q => ⟨fF 16 i (by omega) (by omega), fF 14 i (by omega) (by omega)⟩) (fun q => fF 10 _ (by omega) (by omega)) (fun q => fF 7 _ (by omega) (by omega)) (fun k j q => fG k j (by omega) (by omega))
    rw [bsE, bsE, fF 2 7 (by omega) (by omega), fF 11 6 (by omega) (by omega), fF 35 2 (by omega) (by omega)]
  · rw [mN, fF 29 1 (by omega) (by omega)]
    exact b6
theorem fa_eq {F G : zFt} {m : Nat} : ∀ a, a ≤ zn (F 31 2) → RI F G (m + a) → (nEo G a).1 = (cFa F a).1 ∧ RI (cFa F a).2 (nEo G a).2 m
  | 0, _, h => ⟨rfl, h⟩
  | a + 1, ha, h => by
    obtain ⟨i1, i2⟩ := fa_eq (F := F) (G := G) (m := m + 1) a (by omega) (by rw [show m + 1 + a = m + (a + 1) by omega]; exact h)
    have e31 : (cFa F a).2 31 2 = F 31 2 := cFa_ne F (by decide) (by decide) (by decide) 2 (by decide) a
    have hc := i2.2.2.2.1
    have ht := RI_te i2 (a := a) (by rw [e31]; omega)
    rw [nEo, cFa, (hc.2.2.1 a).1, (hc.2.2.1 a).2]
    by_cases hq : (cFa F a).2 33 a + 1 = (cFa F a).2 32 a
    · rw [if_neg (not_not_intro hq), if_neg (by simp [hq])]
      exact ⟨rfl, RI_no ht _ _ _ _⟩
    · rw [if_pos hq, if_pos (by simp [hq])]
      exact ⟨i1, RI_le ht (by omega)⟩
theorem RI_en {F G : zFt} {m n : Nat} (h : RI F G m) (hn : zn (F 2 7) = n + 1) (hn0 : ¬ n = 0) : RI (cEn F) (zup G 75 28 (nI n)) m := by
  obtain ⟨a1, a2, a3, a4, a5, a6, a7, a8, a9, b1, b2, b3, b4, b5, b6⟩ := h
  obtain ⟨n8, hin, e7, e1, hF⟩ := CI_n a1 hn
  obtain ⟨c1, ed, -, c4⟩ := CI_en a1 hn
  have hbs := c4 hn0
  rw [ed] at c1 hbs ⊢
  have fF : ∀ k j, ¬ (k = 2 ∧ j = 7) → zup F 2 7 (nI n) k j = F k j := fun k j q => by rw [zup_ap, if_neg q]
  have fG : ∀ k j, ¬ (k = 75 ∧ j = 28) → zup G 75 28 (nI n) k j = G k j := fun k j q => by rw [zup_ap, if_neg q]
  have f7 : zup F 2 7 (nI n) 2 7 = nI n := rfl
  have ez : zn (nI n) = n := zn_nI (by omega)
  refine ⟨c1, mA_eq a2 (fun k j q => fF k j (by omega)) (fun k j q => fG k j (by omega)), mB_eq a3 (fun k j q => fF k j (by omega)) (fun k j q => fG k j (by omega)), mC_eq a4 (fun k j q => fF k j (by omega)) (fun k j q => fG k j (by omega)), mD_eq a5 (fun k j q => fF k j (by omega)) (fun k j q => fG k j (by omega)), ⟨rfl, fun s hs => ?_⟩, mF_eq a7 (fun k j q => fF k j (by omega)) (fun k j q => fG k j (by omega)), mH_eq a8 (fun j q => fF 2 j (by omega)) (fun j q => fG 75 j (by omega)), mU_eq a9 a1.2.2.2.2.2.2.2.2 ⟨fF 2 10 (by omega), fF 2 11 (by omega), fF 2 12 (by omega)⟩ hbs (fun i q => ⟨fF 16 i (by omega), fF 14 i (by omega)⟩) (fun q => fF 10 _ (by omega)) (fun q => fF 7 _ (by omega)) (fun k j q => fG k j (by omega)), mS_eq b1 (fun k j q => fF k j (by omega)), mV_eq b2 (fF 11 6 (by omega)) (fun j q => fF 15 j (by omega)), ?_, mK_eq b4 (fun k j q => fF k j (by omega)), mZ_eq b5 (fun k j q => fG k j (by omega)), ?_⟩
  · simp only [mE1]
    simp (disch := omega) only [fF, fG]
    exact a6.2 s hs
  · intro s hs a b hab hb
    rw [f7, ez] at hs
    rw [fF _ _ (by omega)] at hb
    rw [fF _ _ (by omega), fF _ _ (by omega)]
    exact b3 s (by omega) a b hab hb
  · rw [mN, fF 29 1 (by omega)]
    exact b6
/-- the outermost scoring ends -/
theorem RI_fb {F G : zFt} {m : Nat} (h : RI F G m) (hn : zn (F 2 7) = 0 + 1) : RI (cFb (cEn F) (F 35 2)) (nEk G) m := by
  obtain ⟨a1, a2, a3, a4, a5, a6, a7, a8, a9, b1, b2, b3, b4, b5, b6⟩ := h
  obtain ⟨n8, hin, e7, e1, hF⟩ := CI_n a1 hn
  obtain ⟨c1, ed, c3, -⟩ := CI_en a1 hn
  have hb0 := c3 rfl
  have ht := CI_top a1 hn
  have l4 := vin_le1 a1.2.2.2.2.1
  have fF : ∀ k j, ¬ (k = 2 ∧ (j = 7 ∨ j = 8 ∨ j = 10 ∨ j = 11 ∨ j = 12)) → cFb (cEn F) (F 35 2) k j = F k j := fun k j q => by
    rw [cFb, zup_ap, if_neg (by omega), zup_ap, if_neg (by omega), zup_ap, if_neg (by omega), zup_ap, if_neg (by omega), ed, zup_ap, if_neg (by omega)]
  have f7 : cFb (cEn F) (F 35 2) 2 7 = nI 0 := by rw [ed]; rfl
  have f8 : cFb (cEn F) (F 35 2) 2 8 = F 2 8 + 1 := by rw [ed]; rfl
  have f10 : cFb (cEn F) (F 35 2) 2 10 = 1 := rfl
  have f11 : cFb (cEn F) (F 35 2) 2 11 = F 35 2 := rfl
  have f12 : cFb (cEn F) (F 35 2) 2 12 = 0 := rfl
  have fe : ∀ k j, ¬ (k = 2 ∧ 8 ≤ j) → cFb (cEn F) (F 35 2) k j = cEn F k j := fun k j q => by
    rw [cFb, zup_ap, if_neg (by omega), zup_ap, if_neg (by omega), zup_ap, if_neg (by omega), zup_ap, if_neg (by omega)]
  have e99 : G 99 0 = F 35 2 := (a6.2 0 (by decide)).2.2.1
  have gne : ∀ k j, k ≠ 107 → k ≠ 108 → ¬ (k = 75 ∧ (j = 28 ∨ j = 41 ∨ j = 42 ∨ j = 43)) → nEk G k j = G k j := fun k j p q r => by
    rw [nEk, nKp_ne _ _ p q (by omega), nEb, zup_ap, if_neg (by omega), zup_ap, if_neg (by omega)]
  have g28 : nEk G 75 28 = nI 0 := by
    rw [nEk, nKp_ne _ _ (by decide) (by decide) (by decide)]
    show G 75 28 - 1 = nI 0
    rw [a6.1, e1]
  have g42 : nEk G 75 42 = G 75 42 + 1 := by
    rw [nEk, nKp_ne _ _ (by decide) (by decide) (by decide)]
    rfl
  have g41 : nEk G 75 41 = 1 := by
    rw [nEk, nKp, zcp_ne _ (by decide), zcp_ne _ (by decide)]
    rfl
  have g43 : nEk G 75 43 = F 35 2 := by
    rw [nEk, nKp, zcp_ne _ (by decide), zcp_ne _ (by decide), e99]
    rfl
  have g107 : ∀ i, nEk G 107 i = if i < 400 then G 93 i else G 107 i := fun i => by
    rw [nEk, nKp, zcp_ne _ (by decide), zcp_ap]
    by_cases hi : i < 400
    · rw [if_pos ⟨rfl, hi⟩, if_pos hi]
      rfl
    · rw [if_neg (by omega), if_neg hi]
      rfl
  have g108 : ∀ i, nEk G 108 i = if i < 12 then G 80 i else G 108 i := fun i => by
    rw [nEk, nKp, zcp_ap]
    by_cases hi : i < 12
    · rw [if_pos ⟨rfl, hi⟩, if_pos hi]
      rfl
    · rw [if_neg (by omega), if_neg hi]
      rfl
  have z0 : zn (nI 0) = 0 := rfl
  have hb2 : bsE (cFb (cEn F) (F 35 2)) = zn (F 11 6) := by rw [bsE, f7, z0, if_pos rfl, fF 11 6 (by omega)]
  have hle : zn (F 35 2) ≤ zn (F 11 6) := ht.2.2.2.2.2.1.2
  have eu : uE (cFb (cEn F) (F 35 2)) = zn (F 35 2) := by rw [uE, f10, if_pos rfl, f11]
  have u35 : 0 ≤ (F 35 2).toInt := ht.2.2.2.2.2.1.1
  refine ⟨CI_un c1 fe ⟨?_, ?_, ?_, ?_, ?_⟩, mA_eq a2 (fun k j q => fF k j (by omega)) (fun k j q => gne k j (by omega) (by omega) (by omega)), mB_eq a3 (fun k j q => fF k j (by omega)) (fun k j q => gne k j (by omega) (by omega) (by omega)), mC_eq a4 (fun k j q => fF k j (by omega)) (fun k j q => gne k j (by omega) (by omega) (by omega)), mD_eq a5 (fun k j q => fF k j (by omega)) (fun k j q => gne k j (by omega) (by omega) (by omega)), ⟨by rw [f7, g28], fun s hs => ?_⟩, mF_eq a7 (fun k j q => fF k j (by omega)) (fun k j q => gne k j (by omega) (by omega) (by omega)), ⟨by rw [f8, g42, a8.1], by rw [fF 2 9 (by omega), gne 75 39 (by omega) (by omega) (by omega)]; exact a8.2⟩, ⟨?_, fun _ => ⟨?_, fun i hi => ?_, fun c hc => ⟨fun q => ?_, fun q => ?_⟩⟩⟩, mS_eq b1 (fun k j q => fF k j (by omega)), mV_eq b2 (fF 11 6 (by omega)) (fun j q => fF 15 j (by omega)), ?_, mK_eq b4 (fun k j q => fF k j (by omega)), fun i => ?_, ?_⟩
  · exact Or.inr (Or.inl f10)
  · exact Or.inl f12
  · intro _
    rw [f11, hb2]
    exact ⟨u35, hle⟩
  · intro q
    rw [f10] at q
    exact absurd q (by decide)
  · intro q
    rw [f10] at q
    exact absurd q (by decide)
  · simp only [mE1]
    simp (disch := omega) only [fF, gne]
    exact a6.2 s hs
  · rw [g41, f10]
  · rw [g43, eu, nI_zn u35]
  · rw [eu] at hi
    rw [g107, if_pos (by omega), f10, if_neg (fun q => absurd q.1 (by decide)), fF 16 i (by omega)]
    exact a5.2.2.1 i (by omega)
  · rcases q with q | q
    · rw [f10] at q
      exact absurd q.1 (by decide)
    · rw [f10] at q
      exact absurd q.1 (by decide)
  · rw [g108, if_pos hc, fF 7 c (by omega)]
    exact (a2.2.2.2.1 c).2.2.2.1
  · intro s hs
    rw [f7, z0] at hs
    exact absurd hs (Nat.not_lt_zero s)
  · rw [gne 93 i (by decide) (by decide) (by omega), gne 80 i (by decide) (by decide) (by omega), g107, g108]
    refine ⟨(b5 i).1, (b5 i).2.1, ?_, ?_⟩
    · split
      · exact (b5 i).1
      · exact (b5 i).2.2.1
    · split
      · exact (b5 i).2.1
      · exact (b5 i).2.2.2
  · rw [mN, fF 29 1 (by omega)]
    exact b6
theorem rEnd {F G : zFt} {m : Nat} (h : RI F G (400 + m)) : (qEnd G).1 = (pEnd F).1 ∧ RI (pEnd F).2 (qEnd G).2 m := by
  unfold qEnd pEnd
  rw [RI_28 h]
  by_cases h0 : F 2 7 = 0
  · rw [if_pos h0, if_neg (not_not_intro h0)]
    exact RI_no3 h _
  rw [if_neg h0, if_pos h0]
  obtain ⟨n, hn⟩ := RI_dp h h0
  obtain ⟨n8, hin, e7, e1, hF⟩ := CI_n h.1 hn
  obtain ⟨o1, o2⟩ := oc_eq (RI_le h (show 200 + m ≤ 400 + m by omega)) hn 2
  rw [o1]
  by_cases hz : (oCo F 2).1 = 0
  · rw [if_pos hz, if_pos hz, e1]
    by_cases hn0 : n = 0
    · subst hn0
      rw [if_pos (by decide), if_neg (not_not_intro (by decide)), h.2.2.2.1.1]
      have l7 := vin_le1 h.1.2.1
      have e31 : cFb (cEn F) (F 35 2) 31 2 = F 31 2 := by
        rw [(CI_en h.1 hn).2.1]
        rfl
      have q := RI_fb (RI_le h (show m + zn (F 31 2) ≤ 400 + m by omega)) hn
      exact fa_eq (zn (F 31 2)) (by rw [e31]; exact Nat.le_refl _) q
    · have p1 : ¬ nI n ≤ 0 := by
        rw [Int32.le_iff_toInt_le, nI_int (by omega)]
        simp
        omega
      have p2 : ¬ nI n = 0 := fun q => p1 (by rw [q]; decide)
      rw [if_neg p1, if_pos p2]
      exact ⟨rfl, RI_en (RI_le h (by omega)) hn hn0⟩
  · rw [if_neg hz, if_neg hz]
    exact ⟨o1, o2⟩
