/-! the calls, on both sides -/
theorem lt_ne {x m : Int32} {n : Nat} (h : vp_in x (n + 1)) (hm : m.toInt = n) : x < m ↔ ¬ x = m := by
  rw [vin] at h
  rw [Int32.lt_iff_toInt_lt, tI_eq, hm]
  omega
theorem zi11 (c : Int32) : zi3 c 0 11 = zin c 12 := zi3_zin (c := c) (x := 12) (by decide)
theorem zi15 (c : Int32) : zi3 c 0 15 = zin c 16 := zi3_zin (c := c) (x := 16) (by decide)
theorem zi_le {v l u : Int32} (h1 : ¬ v < l) (h2 : v ≤ u) : zi3 v l u = true := by
  have h3 : ¬ u < v := by rw [Int32.not_lt]; exact h2
  simp [zi3, h1, h3]
theorem zi_l {v l u : Int32} (h1 : v < l) : zi3 v l u = false := by simp [zi3, h1]
theorem zi_u {v l u : Int32} (h2 : ¬ v ≤ u) : zi3 v l u = false := by
  have h3 : u < v := by rw [← Int32.not_le]; exact h2
  simp [zi3, h3]
theorem RI_dp {F G : zFt} {m : Nat} (h : RI F G m) (h0 : ¬ F 2 7 = 0) : ∃ n, zn (F 2 7) = n + 1 := by
  obtain ⟨n, hn, -⟩ := CI_st h.1 h0
  exact ⟨n, hn⟩
theorem RI_28 {F G : zFt} {m : Nat} (h : RI F G m) : G 75 28 = F 2 7 := h.2.2.2.2.2.1.1
theorem RI_19 {F G : zFt} {m : Nat} (h : RI F G m) : G 75 19 = F 11 6 := h.2.2.2.2.1.1
theorem RI_no3 {F G : zFt} {m : Nat} (h : RI F G (400 + m)) (x : Int32) : (x, G).1 = (x, F).1 ∧ RI (x, F).2 (x, G).2 m := ⟨rfl, RI_le h (by omega)⟩
theorem ev_4 {F G : zFt} {m : Nat} (h : RI F G m) : F 11 6 < 400 ↔ ¬ F 11 6 = 400 := lt_ne h.1.2.2.2.2.1 (by decide)
/-- the head that points, deduct and remark share: the range, the scoring, the room for an event -/
theorem rHead {F G : zFt} {m : Nat} (h : RI F G (400 + m)) (a b : zFt → Int32 × zFt) (hab : ∀ n, zn (F 2 7) = n + 1 → F 11 6 < 400 → (b G).1 = (a F).1 ∧ RI (a F).2 (b G).2 m) : (if G 75 28 = 0 then (-103, G) else if G 75 19 = 400 then (-104, G) else b G).1 = (if cRf F = 0 then a F else (cRf F, F)).1 ∧ RI (if cRf F = 0 then a F else (cRf F, F)).2 (if G 75 28 = 0 then (-103, G) else if G 75 19 = 400 then (-104, G) else b G).2 m := by
  rw [RI_28 h, RI_19 h]
  by_cases h0 : F 2 7 = 0
  · have hc : cRf F = -103 := by rw [cRf, if_neg (not_not_intro h0)]
    rw [if_pos h0, hc, if_neg (by decide)]
    exact RI_no3 h _
  · rw [if_neg h0]
    by_cases h4 : F 11 6 = 400
    · have hc : cRf F = -104 := by rw [cRf, if_pos h0, if_neg (fun q => (ev_4 h).mp q h4)]
      rw [if_pos h4, hc, if_neg (by decide)]
      exact RI_no3 h _
    · have hl := (ev_4 h).mpr h4
      have hc : cRf F = 0 := by rw [cRf, if_pos h0, if_pos hl]
      rw [if_neg h4, if_pos hc]
      obtain ⟨n, hn⟩ := RI_dp h h0
      exact hab n hn hl
theorem rPoints {F G : zFt} {m : Nat} (x : Int32) (h : RI F G (400 + m)) : (qPoints G x).1 = (pPoints F x).1 ∧ RI (pPoints F x).2 (qPoints G x).2 m := by
  unfold qPoints pPoints
  by_cases c1 : x < -6000
  · rw [if_pos (zi_l c1), if_pos c1]
    exact RI_no3 h _
  · rw [if_neg c1]
    by_cases c2 : x ≤ 6000
    · rw [if_neg (by rw [zi_le c1 c2]; decide), if_pos c2]
      refine rHead h (fun F => oCo (cAe F 0 x) 0) (fun G => nJd (nCm G 0 x) 0) (fun n hn hl => ?_)
      have hb : -6000 ≤ x.toInt ∧ x.toInt ≤ 6000 := by
        rw [Int32.lt_iff_toInt_lt] at c1
        rw [Int32.le_iff_toInt_le] at c2
        simp at c1 c2
        omega
      obtain ⟨h1, n1⟩ := RI_ap (RI_le h (show 200 + m ≤ 400 + m by omega)) hn hl (Or.inl rfl) hb
      exact oc_eq h1 n1 0
    · rw [if_pos (zi_u c2), if_neg c2]
      exact RI_no3 h _
theorem en_at {F G : zFt} {m n : Nat} (h : RI F G m) (hn : zn (F 2 7) = n + 1) : nE G = sE F (cIn F) ∧ vp_in (sE F (cIn F)) 60 ∧ zn (sE F (cIn F)) < 60 := by
  obtain ⟨n8, hin, -, e1, hF⟩ := CI_n h.1 hn
  have ht := CI_top h.1 hn
  have es : zn (G 75 28 - 1) = n := by rw [RI_28 h, e1, zn_nI (by omega)]
  rw [nE, es, hin, (h.2.2.2.2.2.1.2 n n8).2.1]
  exact ⟨rfl, sh_en h.1.1 ht.2.1, vin_zn (sh_en h.1.1 ht.2.1)⟩
theorem rDeduct {F G : zFt} {m : Nat} (x : Int32) (h : RI F G (400 + m)) : (qDeduct G x).1 = (pDeduct F x).1 ∧ RI (pDeduct F x).2 (qDeduct G x).2 m := by
  unfold qDeduct pDeduct
  by_cases c1 : x < 0
  · rw [if_pos (zi_l c1), if_pos c1]
    exact RI_no3 h _
  · rw [if_neg c1]
    by_cases c2 : x ≤ 6000
    · rw [if_neg (by rw [zi_le c1 c2]; decide), if_pos c2]
      refine rHead h (fun F => (cAe F 1 x 17 (zn (sE (cAe F 1 x) (cIn (cAe F 1 x)))), cAe F 1 x)) (fun G => (nCm G 1 x 95 (zn (nE (nCm G 1 x))), nCm G 1 x)) (fun n hn hl => ?_)
      have hb : -6000 ≤ x.toInt ∧ x.toInt ≤ 6000 := by
        rw [Int32.lt_iff_toInt_lt] at c1
        rw [Int32.le_iff_toInt_le] at c2
        simp at c1 c2
        omega
      obtain ⟨h1, n1⟩ := RI_ap (RI_le h (show m ≤ 400 + m by omega)) hn hl (Or.inr (Or.inl rfl)) hb
      obtain ⟨e1, -, e3⟩ := en_at h1 n1
      refine ⟨?_, h1⟩
      show nCm G 1 x 95 (zn (nE (nCm G 1 x))) = cAe F 1 x 17 (zn (sE (cAe F 1 x) (cIn (cAe F 1 x))))
      rw [e1]
      exact (h1.2.2.2.2.1.2.2.2.2 _ e3).1
    · rw [if_pos (zi_u c2), if_neg c2]
      exact RI_no3 h _
theorem rRemark {F G : zFt} {m : Nat} (x : Int32) (h : RI F G (400 + m)) : (qRemark G x).1 = (pRemark F x).1 ∧ RI (pRemark F x).2 (qRemark G x).2 m := by
  unfold qRemark pRemark
  have hz : zi3 x 0 7 = zin x 8 := zi3_zin (c := x) (x := 8) (by decide)
  rw [hz]
  by_cases c1 : x < 0
  · rw [if_pos (by simp [zin, c1]), if_pos c1]
    exact RI_no3 h _
  · rw [if_neg c1]
    by_cases c2 : x < 8
    · have hin : zin x 8 = true := by
        have : ¬ (8 : Int32) ≤ x := by rw [Int32.not_le]; exact c2
        simp [zin, c1, this]
      rw [if_neg (by rw [hin]; decide), if_pos c2]
      refine rHead h (fun F => (zbc (zfold (gRb (cAe F 2 x) (sE (cAe F 2 x) (cIn (cAe F 2 x)))) 0 8), cAe F 2 x)) (fun G => (zfold (gRm (nCm G 2 x) (nE (nCm G 2 x))) 0 8, nCm G 2 x)) (fun n hn hl => ?_)
      have h8 : vp_in x 8 := zin_16 hin (by decide)
      have hb : -6000 ≤ x.toInt ∧ x.toInt ≤ 6000 := by
        rw [vin] at h8
        omega
      obtain ⟨h1, n1⟩ := RI_ap (RI_le h (show m ≤ 400 + m by omega)) hn hl (Or.inr (Or.inr ⟨rfl, h8⟩)) hb
      obtain ⟨e1, e2, -⟩ := en_at h1 n1
      refine ⟨?_, h1⟩
      show zfold (gRm (nCm G 2 x) (nE (nCm G 2 x))) 0 8 = zbc (zfold (gRb (cAe F 2 x) (sE (cAe F 2 x) (cIn (cAe F 2 x)))) 0 8)
      rw [e1]
      exact rcnt h1.1 h1.2.2.2.2.2.2.2.2.2.1 h1.2.2.2.2.1 e2
    · have hin : zin x 8 = false := by
        have : (8 : Int32) ≤ x := by rw [← Int32.not_lt]; exact c2
        simp [zin, this]
      rw [if_pos hin, if_neg c2]
      exact RI_no3 h _
theorem rDrop {F G : zFt} {m : Nat} (h : RI F G (400 + m)) : (qDrop G).1 = (pDrop F).1 ∧ RI (pDrop F).2 (qDrop G).2 m := by
  unfold qDrop pDrop
  rw [RI_28 h]
  by_cases h0 : F 2 7 = 0
  · rw [if_pos h0, if_neg (not_not_intro h0)]
    exact RI_no3 h _
  · rw [if_neg h0, if_pos h0]
    obtain ⟨n, hn⟩ := RI_dp h h0
    obtain ⟨n8, hin, -, e1, hF⟩ := CI_n h.1 hn
    have ez : zn (F 2 7 - 1) = n := by rw [e1, zn_nI (by omega)]
    rw [ez]
    exact ⟨rfl, RI_le (RI_dr h hn).1 (by omega)⟩
theorem rDepth {F G : zFt} {m : Nat} (h : RI F G (400 + m)) : (qDepth G).1 = (pDepth F).1 ∧ RI (pDepth F).2 (qDepth G).2 m := ⟨RI_28 h, RI_le h (by omega)⟩
/-- only the innermost scoring's rows change -/
theorem RI_sc {F G F2 G2 : zFt} {m n : Nat} (h : RI F G m) (hn : zn (F 2 7) = n + 1) (c : CI F2) (eF : ∀ k j, (k < 5 * n + 35 ∨ 5 * n + 39 < k) → F2 k j = F k j) (e2 : F2 (5 * n + 35) 2 = F (5 * n + 35) 2) (eG : ∀ k j, (k < 97 ∨ 105 < k) → G2 k j = G k j) (hE : ∀ s, s < 8 → mE1 F2 G2 s) (hM : mM F2) : RI F2 G2 m := by
  obtain ⟨a1, a2, a3, a4, a5, a6, a7, a8, a9, b1, b2, b3, b4, b5, b6⟩ := h
  have hbs : bsE F2 = bsE F := by
    rw [bsE, bsE, eF 2 7 (by omega), hn, if_neg (by omega), if_neg (by omega)]
    by_cases h0 : n = 0
    · subst h0
      exact congrArg zn e2
    · rw [eF 35 2 (by omega)]
  refine ⟨c, mA_eq a2 (fun k j q => eF k j (by omega)) (fun k j q => eG k j (by omega)), mB_eq a3 (fun k j q => eF k j (by omega)) (fun k j q => eG k j (by omega)), mC_eq a4 (fun k j q => eF k j (by omega)) (fun k j q => eG k j (by omega)), mD_eq a5 (fun k j q => eF k j (by omega)) (fun k j q => eG k j (by omega)), ⟨by rw [eF 2 7 (by omega), eG 75 28 (by omega)]; exact a6.1, hE⟩, mF_eq a7 (fun k j q => eF k j (by omega)) (fun k j q => eG k j (by omega)), mH_eq a8 (fun j q => eF 2 j (by omega)) (fun j q => eG 75 j (by omega)), ?_, mS_eq b1 (fun k j q => eF k j (by omega)), mV_eq b2 (eF 11 6 (by omega)) (fun j q => eF 15 j (by omega)), hM, mK_eq b4 (fun k j q => eF k j (by omega)), mZ_eq b5 (fun k j q => eG k j (by omega)), ?_⟩
  · exact mU_eq a9 a1.2.2.2.2.2.2.2.2 ⟨eF 2 10 (by omega), eF 2 11 (by omega), eF 2 12 (by omega)⟩ hbs (fun i q => ⟨eF 16 i (by omega), eF 14 i (by omega)⟩) (fun q => eF 10 _ (by omega)) (fun q => eF 7 _ (by omega)) (fun k j q => eG k j (by omega))
  · rw [mN, eF 29 1 (by omega)]
    exact b6
theorem rGuard {F G : zFt} {m : Nat} (x y : Int32) (h : RI F G (400 + m)) : (qGuard G x y).1 = (pGuard F x y).1 ∧ RI (pGuard F x y).2 (qGuard G x y).2 m := by
  unfold qGuard pGuard
  rw [zi11, zi15, RI_28 h]
  split
  · exact RI_no3 h _
  · split
    · exact RI_no3 h _
    · by_cases h0 : F 2 7 = 0
      · rw [if_pos h0, if_neg (not_not_intro h0)]
        exact RI_no3 h _
      · rw [if_neg h0, if_pos h0]
        obtain ⟨n, hn⟩ := RI_dp h h0
        obtain ⟨n8, hin, -, e1, hF⟩ := CI_n h.1 hn
        have ht := CI_top h.1 hn
        have hs := h.2.2.2.2.2.1.2 n n8
        have ez : zn (F 2 7 - 1) = n := by rw [e1, zn_nI (by omega)]
        have en : nS1 G = nI n := by rw [nS1, RI_28 h, e1]
        have zn' : zn (nI n) = n := zn_nI (by omega)
        have hl := lt_ne (m := 8) ht.2.2.2.2.1 (by decide)
        rw [en, zn', hs.2.2.2.2.1, hin]
        by_cases h8 : F (5 * n + 35) 8 = 8
        · rw [if_pos h8, if_neg (fun q => hl.mp q h8)]
          exact RI_no3 h _
        · rw [if_neg h8, if_pos (hl.mpr h8)]
          refine ⟨rfl, ?_⟩
          obtain ⟨g, hg, eg⟩ := vin_of (ne_vin ht.2.2.2.2.1 h8 (by decide))
          have zg : zn (nI g) = g := zn_nI (by omega)
          have eix : zn (8 * nS1 G + G 103 (zn (nS1 G))) = n * 8 + g := by rw [en, zn', hs.2.2.2.2.1, eg, nI_8m, nI_add, zn_nI (by omega)]
          show RI (cGd F x y) (nGd G x y) m
          rw [cGd, nGd, hin, eix, en, zn', hs.2.2.2.2.1, eg, zg]
          have fF : ∀ k j, (k < 5 * n + 35 ∨ 5 * n + 39 < k) → zup (zup (zup F (5 * n + 38) g x) (5 * n + 39) g y) (5 * n + 35) 8 (nI g + 1) k j = F k j := fun k j q => by rw [zup_ap, if_neg (by omega), zup_ap, if_neg (by omega), zup_ap, if_neg (by omega)]
          have f35 : ∀ k j, ¬ (k = 5 * n + 35 ∧ j = 8) → k ≠ 5 * n + 38 → k ≠ 5 * n + 39 → zup (zup (zup F (5 * n + 38) g x) (5 * n + 39) g y) (5 * n + 35) 8 (nI g + 1) k j = F k j := fun k j q r s => by rw [zup_ap, if_neg q, zup_ap, if_neg (by omega), zup_ap, if_neg (by omega)]
          have f8 : zup (zup (zup F (5 * n + 38) g x) (5 * n + 39) g y) (5 * n + 35) 8 (nI g + 1) (5 * n + 35) 8 = nI (g + 1) := by rw [zup_ap, if_pos ⟨rfl, rfl⟩, nI_1]
          have z8 : zn (nI (g + 1)) = g + 1 := zn_nI (by omega)
          refine RI_sc (RI_le h (by omega)) hn (CI_sc h.1 hn fF (f35 _ _ (by omega) (by omega) (by omega)) ?_) fF (f35 _ _ (by omega) (by omega) (by omega)) (fun k j q => by rw [zup_ap, if_neg (by omega), zup_ap, if_neg (by omega), zup_ap, if_neg (by omega)]) (fun s hs8 => ?_) ?_
          · obtain ⟨t1, t2, t3, t4, t5, t6, t7, t8, t9⟩ := ht
            simp only [scOk, jgOk, enOk, sJ, sE, f8]
            simp (disch := omega) only [f35]
            exact ⟨t1, t2, t3, t4, vin_mk (by omega), t6, t7, t8, t9⟩
          · have hs' := h.2.2.2.2.2.1.2 s hs8
            obtain ⟨y1, y2, y3, y4, y5, y6, y7⟩ := hs'
            by_cases hsn : s = n
            · subst hsn
              refine ⟨?_, ?_, ?_, ?_, ?_, fun k hk => ⟨?_, ?_⟩, fun k hk => ?_⟩
              · rw [f35 _ _ (by omega) (by omega) (by omega), zup_ap, if_neg (by omega), zup_ap, if_neg (by omega), zup_ap, if_neg (by omega)]; exact y1
              · rw [f35 _ _ (by omega) (by omega) (by omega), zup_ap, if_neg (by omega), zup_ap, if_neg (by omega), zup_ap, if_neg (by omega)]; exact y2
              · rw [f35 _ _ (by omega) (by omega) (by omega), zup_ap, if_neg (by omega), zup_ap, if_neg (by omega), zup_ap, if_neg (by omega)]; exact y3
              · rw [f35 _ _ (by omega) (by omega) (by omega), zup_ap, if_neg (by omega), zup_ap, if_neg (by omega), zup_ap, if_neg (by omega)]; exact y4
              · rw [f8, zup_ap, if_pos ⟨rfl, rfl⟩, nI_1]
              · rw [f35 _ _ (by omega) (by omega) (by omega), zup_ap, if_neg (by omega), zup_ap, if_neg (by omega), zup_ap, if_neg (by omega)]; exact (y6 k hk).1
              · rw [f35 _ _ (by omega) (by omega) (by omega), zup_ap, if_neg (by omega), zup_ap, if_neg (by omega), zup_ap, if_neg (by omega)]; exact (y6 k hk).2
              · by_cases hkg : k = g
                · subst hkg
                  constructor
                  · rw [zup_ap, if_neg (by omega), zup_ap, if_neg (by omega), zup_ap, if_pos ⟨rfl, rfl⟩, zup_ap, if_neg (by omega), zup_ap, if_neg (by omega), zup_ap, if_pos ⟨rfl, rfl⟩]
                  · rw [zup_ap, if_neg (by omega), zup_ap, if_pos ⟨rfl, rfl⟩, zup_ap, if_neg (by omega), zup_ap, if_pos ⟨rfl, rfl⟩]
                · constructor
                  · rw [zup_ap, if_neg (by omega), zup_ap, if_neg (by omega), zup_ap, if_neg (by omega), zup_ap, if_neg (by omega), zup_ap, if_neg (by omega), zup_ap, if_neg (by omega)]
                    exact (y7 k hk).1
                  · rw [zup_ap, if_neg (by omega), zup_ap, if_neg (by omega), zup_ap, if_neg (by omega), zup_ap, if_neg (by omega), zup_ap, if_neg (by omega), zup_ap, if_neg (by omega)]
                    exact (y7 k hk).2
            · have gG : ∀ k j, (k = 103 → j ≠ n) → (k = 104 ∨ k = 105 → j < n * 8 ∨ n * 8 + 8 ≤ j) → zup (zup (zup G 104 (n * 8 + g) x) 105 (n * 8 + g) y) 103 n (nI g + 1) k j = G k j := fun k j p q => by rw [zup_ap, if_neg (by omega), zup_ap, if_neg (by omega), zup_ap, if_neg (by omega)]
              simp only [mE1]
              simp (disch := omega) only [fF, gG]
              refine ⟨y1, y2, y3, y4, y5, y6, fun k hk => ?_⟩
              rw [gG 104 _ (by omega) (by omega), gG 105 _ (by omega) (by omega)]
              exact y7 k hk
          · exact fun s hs8 a b hab hb => by
              have l8 := vin_le1 h.1.2.2.2.2.2.2.1
              rw [f35 _ _ (by omega) (by omega) (by omega)] at hs8
              rw [f35 _ _ (by omega) (by omega) (by omega)] at hb
              rw [f35 _ _ (by omega) (by omega) (by omega), f35 _ _ (by omega) (by omega) (by omega)]
              exact h.2.2.2.2.2.2.2.2.2.2.2.1 s hs8 a b hab hb
