theorem bs_le {F : zFt} (h : CI F) {n : Nat} (hn : zn (F 2 7) = n + 1) : bsE F ≤ zn (F (5 * n + 35) 2) := by
  have key : ∀ s, s ≤ n → zn (F 35 2) ≤ zn (F (5 * s + 35) 2) := by
    intro s
    induction s with
    | zero => intro _; exact Nat.le_refl _
    | succ s ih =>
      intro hs
      have h1 := ih (by omega)
      have h2 := h.2.2.2.2.2.2.2.1 s (by omega)
      rw [hn] at h2
      have h3 := h2.2.2.2.2.2.1.2
      simp only [tpS] at h3
      rw [if_pos (by omega)] at h3
      omega
  rw [bsE, hn, if_neg (by omega)]
  exact key n (Nat.le_refl n)
/-- what a way back leaves as it is, whatever of the scorings changes with it -/
theorem RI_cutp {F G F2 G1 : zFt} {m : Nat} {b : Int32} (h : RI F G m) (hb : okM F b) (hbb : bsE F ≤ zn b) (hbs : bsE F2 = bsE F) (eF : ∀ k j, ¬ (k = 2 ∧ (j = 7 ∨ j = 9)) → (k < 35 ∨ 74 < k) → F2 k j = cKt F b k j) (eG : ∀ k j, ¬ (k = 75 ∧ (j = 28 ∨ j = 39)) → (k < 97 ∨ 105 < k) → G1 k j = G k j) : mA F2 (nGo G1 b) ∧ mB F2 (nGo G1 b) ∧ mC F2 (nGo G1 b) ∧ mD F2 (nGo G1 b) ∧ mF F2 (nGo G1 b) ∧ mU F2 (nGo G1 b) ∧ mS F2 ∧ mV F2 ∧ mK F2 ∧ mZ (nGo G1 b) ∧ mN F2 m := by
  obtain ⟨a1, a2, a3, a4, a5, a6, a7, a8, a9, b1, b2, b3, b4, b5, b6⟩ := h
  have fF : ∀ k j, ¬ (k = 2 ∧ (j = 7 ∨ j = 9)) → (k < 35 ∨ 74 < k) → k ≠ 11 → (k < 16 ∨ 19 < k) → F2 k j = F k j := fun k j p q r s => by rw [eF k j p q, cKt_ne F b r (by omega) (by omega) (by omega) (by omega)]
  have fG : ∀ k j, ¬ (k = 75 ∧ (j = 28 ∨ j = 39 ∨ j = 19)) → (k < 97 ∨ 105 < k) → (k < 94 ∨ 96 < k) → nGo G1 b k j = G k j := fun k j p q r => by rw [nGo_ne G1 b (by omega) (by omega) (by omega) j (by omega), eG k j (by omega) q]
  have A1 : mA F G1 := mA_eq a2 (fun k j q => rfl) (fun k j q => eG k j (by omega) (by omega))
  have D1 : mD F G1 := mD_eq a5 (fun k j q => rfl) (fun k j q => eG k j (by omega) (by omega))
  have e6 := cKt_ev a1 hb
  refine ⟨mA_eq a2 (fun k j q => fF k j (by omega) (by omega) (by omega) (by omega)) (fun k j q => fG k j (by omega) (by omega) (by omega)), mB_eq a3 (fun k j q => fF k j (by omega) (by omega) (by omega) (by omega)) (fun k j q => fG k j (by omega) (by omega) (by omega)), mC_eq a4 (fun k j q => fF k j (by omega) (by omega) (by omega) (by omega)) (fun k j q => fG k j (by omega) (by omega) (by omega)), mD_eq (mD_kt a1 A1 D1 b1 hb) (fun k j q => eF k j (by omega) (by omega)) (fun k j q => rfl), mF_eq a7 (fun k j q => fF k j (by omega) (by omega) (by omega) (by omega)) (fun k j q => fG k j (by omega) (by omega) (by omega)), ?_, mS_eq (mS_kt a1 b1 hb) (fun k j q => eF k j (by omega) (by omega)), ?_, mK_eq b4 (fun k j q => fF k j (by omega) (by omega) (by omega) (by omega)), mZ_eq b5 (fun k j q => fG k j (by omega) (by omega) (by omega)), ?_⟩
  · refine mU_eq a9 a1.2.2.2.2.2.2.2.2 ⟨fF 2 10 (by omega) (by omega) (by omega) (by omega), fF 2 11 (by omega) (by omega) (by omega) (by omega), fF 2 12 (by omega) (by omega) (by omega) (by omega)⟩ hbs (fun i q => ⟨?_, fF 14 i (by omega) (by omega) (by omega) (by omega)⟩) (fun q => fF 10 _ (by omega) (by omega) (by omega) (by omega)) (fun q => fF 7 _ (by omega) (by omega) (by omega) (by omega)) (fun k j q => fG k j (by omega) (by omega) (by omega))
    rw [eF 16 i (by omega) (by omega)]
    exact cKt_16 hb (by omega)
  · intro i hi
    rw [eF 11 6 (by omega) (by omega), e6] at hi
    rw [fF 15 i (by omega) (by omega) (by omega) (by omega)]
    exact b2 i (by have := hb.2; omega)
  · rw [mN, fF 29 1 (by omega) (by omega) (by omega) (by omega)]
    exact b6
theorem RI_dr {F G : zFt} {m n : Nat} (h : RI F G m) (hn : zn (F 2 7) = n + 1) : RI (cDr F) (nDr G n) m ∧ zn (cDr F 2 7) = n := by
  have h' := h
  obtain ⟨a1, a2, a3, a4, a5, a6, a7, a8, a9, b1, b2, b3, b4, b5, b6⟩ := h'
  obtain ⟨n8, hin, -, e1, hF⟩ := CI_n a1 hn
  obtain ⟨c1, ed, hm, hbs⟩ := CI_dr a1 hn
  have e99 : G 99 n = F (5 * n + 35) 2 := (a6.2 n n8).2.2.1
  have eF : ∀ k j, ¬ (k = 2 ∧ j = 7) → cDr F k j = cKt F (F (5 * n + 35) 2) k j := fun k j q => by rw [ed, zup_ap, if_neg q]
  have e7 : cDr F 2 7 = nI n := by rw [ed]; rfl
  have ez : zn (nI n) = n := zn_nI (by omega)
  rw [nDr, e99]
  obtain ⟨d1, d2, d3, d4, d5, d6, d7, d8, d9, f1, f2⟩ := RI_cutp (F2 := cDr F) (G1 := zup G 75 28 (nI n)) h hm (bs_le a1 hn) hbs (fun k j q _ => eF k j (by omega)) (fun k j q _ => by rw [zup_ap, if_neg (by omega)])
  have fF : ∀ k j, k ≠ 11 → (k < 16 ∨ 19 < k) → ¬ (k = 2 ∧ j = 7) → cDr F k j = F k j := fun k j p q r => by rw [eF k j r, cKt_ne F _ p (by omega) (by omega) (by omega) (by omega)]
  have fG : ∀ k j, (k < 94 ∨ 96 < k) → ¬ (k = 75 ∧ (j = 19 ∨ j = 28)) → nGo (zup G 75 28 (nI n)) (F (5 * n + 35) 2) k j = G k j := fun k j p q => by rw [nGo_ne _ _ (by omega) (by omega) (by omega) j (by omega), zup_ap, if_neg (by omega)]
  refine ⟨⟨c1, d1, d2, d3, d4, ⟨?_, fun s hs => ?_⟩, d5, mH_eq a8 (fun j q => fF 2 j (by omega) (by omega) (by omega)) (fun j q => fG 75 j (by omega) (by omega)), d6, d7, d8, ?_, d9, f1, f2⟩, by rw [e7, ez]⟩
  · rw [e7, nGo_ne _ _ (by decide) (by decide) (by decide) _ (by decide)]
    rfl
  · simp only [mE1]
    simp (disch := omega) only [fF, fG]
    exact a6.2 s hs
  · intro s hs a b hab hb
    rw [e7, ez] at hs
    rw [fF _ _ (by omega) (by omega) (by omega)] at hb
    rw [fF _ _ (by omega) (by omega) (by omega), fF _ _ (by omega) (by omega) (by omega)]
    exact b3 s (by omega) a b hab hb
/-- back to a place of the innermost scoring, its first c savepoints kept; up: what is counted with it -/
theorem RI_ct {F G F2 G1 : zFt} {m n : Nat} {b c : Int32} (h : RI F G m) (hn : zn (F 2 7) = n + 1) (hb : okM F b) (hbl : zn (F (5 * n + 35) 2) ≤ zn b) (hc : vp_in c 17) (hcl : zn c ≤ zn (F (5 * n + 35) 5)) (hk : ∀ k, k < zn c → zn (F (5 * n + 37) k) ≤ zn b) (eF : ∀ k j, ¬ (k = 2 ∧ j = 9) → F2 k j = zup (cKt F b) (5 * n + 35) 5 c k j) (eG : ∀ k j, ¬ (k = 75 ∧ j = 39) → G1 k j = zup G 100 n c k j) (hH : mH F2 (nGo G1 b)) : RI F2 (nGo G1 b) m := by
  have h' := h
  obtain ⟨a1, a2, a3, a4, a5, a6, a7, a8, a9, b1, b2, b3, b4, b5, b6⟩ := h'
  obtain ⟨n8, hin, -, e1, hF⟩ := CI_n a1 hn
  obtain ⟨c1, hbs⟩ := CI_ct a1 hn hb hbl hc hcl hk
  have fF : ∀ k j, k ≠ 11 → (k < 16 ∨ 19 < k) → ¬ (k = 2 ∧ j = 9) → ¬ (k = 5 * n + 35 ∧ j = 5) → F2 k j = F k j := fun k j p q r s => by rw [eF k j r, zup_ap, if_neg s, cKt_ne F _ p (by omega) (by omega) (by omega) (by omega)]
  have fG : ∀ k j, (k < 94 ∨ 96 < k) → ¬ (k = 75 ∧ (j = 19 ∨ j = 39)) → ¬ (k = 100 ∧ j = n) → nGo G1 b k j = G k j := fun k j p q r => by rw [nGo_ne _ _ (by omega) (by omega) (by omega) j (by omega), eG k j (by omega), zup_ap, if_neg r]
  have C2 : CI F2 := CI_eq c1 (fun k j q => eF k j (by omega))
  have hbs2 : bsE F2 = bsE F := by rw [bsE, bsE, fF 2 7 (by omega) (by omega) (by omega) (by omega), hn, if_neg (by omega), if_neg (by omega), fF 35 2 (by omega) (by omega) (by omega) (by omega)]
  have hbb := bs_le a1 hn
  obtain ⟨d1, d2, d3, d4, d5, d6, d7, d8, d9, f1, f2⟩ := RI_cutp (F2 := F2) (G1 := G1) h hb (by omega) hbs2 (fun k j q r => by rw [eF k j (by omega), zup_ap, if_neg (by omega)]) (fun k j q r => by rw [eG k j (by omega), zup_ap, if_neg (by omega)])
  have e5 : F2 (5 * n + 35) 5 = c := by rw [eF _ _ (by omega), zup_ap, if_pos ⟨rfl, rfl⟩]
  have g5 : nGo G1 b 100 n = c := by rw [nGo_ne _ _ (by decide) (by decide) (by decide) _ (by omega), eG _ _ (by omega), zup_ap, if_pos ⟨rfl, rfl⟩]
  refine ⟨C2, d1, d2, d3, d4, ⟨?_, fun s hs => ?_⟩, d5, hH, d6, d7, d8, ?_, d9, f1, f2⟩
  · rw [fF 2 7 (by omega) (by omega) (by omega) (by omega), fG 75 28 (by omega) (by omega) (by omega)]
    exact a6.1
  · have hs1 := a6.2 s hs
    by_cases hsn : s = n
    · subst hsn
      simp only [mE1, e5, g5]
      simp (disch := omega) only [fF, fG]
      obtain ⟨x1, x2, x3, x4, x5, x6, x7⟩ := hs1
      exact ⟨x1, x2, x3, trivial, x5, x6, x7⟩
    · simp only [mE1]
      simp (disch := omega) only [fF, fG]
      exact hs1
  · intro s hs p q hpq hq
    rw [fF 2 7 (by omega) (by omega) (by omega) (by omega)] at hs
    by_cases hsn : s = n
    · subst hsn
      rw [e5] at hq
      rw [fF _ _ (by omega) (by omega) (by omega) (by omega), fF _ _ (by omega) (by omega) (by omega) (by omega)]
      exact b3 s hs p q hpq (by omega)
    · rw [fF _ _ (by omega) (by omega) (by omega) (by omega)] at hq
      rw [fF _ _ (by omega) (by omega) (by omega) (by omega), fF _ _ (by omega) (by omega) (by omega) (by omega)]
      exact b3 s hs p q hpq hq
theorem nPl_eq {G G1 : zFt} {s : Nat} (x : Int32) (e : ∀ j, G1 101 j = G 101 j) : ∀ n : Nat, nPl G1 s x n = nPl G s x n
  | 0 => rfl
  | n + 1 => by rw [nPl, nPl, e, nPl_eq x e n]
theorem m1_0 : (-1 : Int32) + 1 = 0 := by decide
theorem nm1 {j : Nat} (h : j < 2147483648) : ¬ nI j = -1 := fun q => by
  have := congrArg Int32.toInt q
  rw [nI_int h] at this
  simp at this
/-- a guard catches -/
theorem RI_ca {F G : zFt} {m n g : Nat} (h : RI F G m) (hn : zn (F 2 7) = n + 1) (hg : g < 8) : RI (zup (cCa F n g) 2 9 (cCa F n g 2 9 + 1)) (nCa G n g) m := by
  have h' := h
  obtain ⟨a1, a2, a3, a4, a5, a6, a7, a8, a9, b1, b2, b3, b4, b5, b6⟩ := h'
  obtain ⟨n8, hin, -, e1, hF⟩ := CI_n a1 hn
  have ht := CI_top a1 hn
  have hs := a6.2 n n8
  have l17 := vin_le1 ht.2.2.2.1
  have e105 : G 105 (n * 8 + g) = F (5 * n + 39) g := (hs.2.2.2.2.2.2 g hg).2
  obtain ⟨ep, hj⟩ := pl_eq ht hs (F (5 * n + 39) g)
  have ek : nCk (nC1 G) n g = cCk F n g := by
    show nPl (nC1 G) n (nC1 G 105 (n * 8 + g)) (zn (nC1 G 100 n)) = _
    rw [show nC1 G 105 (n * 8 + g) = G 105 (n * 8 + g) by rw [nC1, zup_ap, if_neg (by omega)], show nC1 G 100 n = G 100 n by rw [nC1, zup_ap, if_neg (by omega)], nPl_eq _ (fun j => by rw [nC1, zup_ap, if_neg (by omega)]), e105]
    exact ep
  have ecm : okM F (cCm F n g) := cCm_ok (CI_okV a1) (sc_okT a1.1 ht)
  have fact : nCv G n g = cCm F n g ∧ zn (F (5 * n + 35) 2) ≤ zn (cCm F n g) ∧ vp_in (cCk F n g + 1) 17 ∧ zn (cCk F n g + 1) ≤ zn (F (5 * n + 35) 5) ∧ ∀ k, k < zn (cCk F n g + 1) → zn (F (5 * n + 37) k) ≤ zn (cCm F n g) := by
    rw [nCv, ek]
    rcases hj with q | ⟨j, hjl, q⟩
    · have q' : cCk F n g = -1 := q
      rw [cCm, q', if_neg (not_not_intro rfl), if_neg (by decide), m1_0]
      exact ⟨hs.2.2.1, Nat.le_refl _, vin_mk (a := 0) (by decide), Nat.zero_le _, fun k hk => absurd hk (Nat.not_lt_zero k)⟩
    · have q' : cCk F n g = nI j := q
      have zj : zn (nI j) = j := zn_nI (by omega)
      rw [cCm, q', if_pos (nm1 (by omega)), if_pos (by rw [zle0, nI_int (by omega)]; omega), zj, nI_1, zn_nI (by omega), nI_16m, nI_add, zn_nI (by omega)]
      refine ⟨(hs.2.2.2.2.2.1 j (by omega)).2, ht.2.2.2.2.2.2.2.2 j hjl, vin_mk (by omega), by omega, fun k hk => ?_⟩
      by_cases hkj : k = j
      · subst hkj
        exact Nat.le_refl _
      · exact b3 n (by omega) k j (by omega) hjl
  obtain ⟨x1, x2, x3, x4, x5⟩ := fact
  rw [nCa, x1, nC2, ek]
  have e9 : cCa F n g 2 9 = F 2 9 := by rw [cCa, zup_ap, if_neg (by omega), cKt_ne F _ (by decide) (by decide) (by decide) (by decide) (by decide)]
  refine RI_ct h hn ecm x2 x3 x4 x5 (fun k j q => by rw [zup_ap, if_neg q]; rfl) (fun k j q => by rw [zup_ap, zup_ap, nC1, zup_ap, if_neg q]) ⟨?_, ?_⟩
  · rw [nGo_ne _ _ (by decide) (by decide) (by decide) _ (by decide), zup_ap, if_neg (by omega), nC1, zup_ap, if_neg (by omega), zup_ap, if_neg (by omega), cCa, zup_ap, if_neg (by omega), cKt_ne F _ (by decide) (by decide) (by decide) (by decide) (by decide)]
    exact a8.1
  · rw [nGo_ne _ _ (by decide) (by decide) (by decide) _ (by decide), zup_ap, if_neg (by omega), nC1, zup_ap, if_pos ⟨rfl, rfl⟩, zup_ap, if_pos ⟨rfl, rfl⟩, e9, a8.2]
theorem i_p1m (x : Int32) : x + 1 - 1 = x := by grind
theorem fl_eq (m : Nat) : ∀ (n : Nat) (F G : zFt) (k r c : Int32), zn (F 2 7) = n + 1 → RI F G (25 * (n + 1) + m) → vp_in k 12 → (nFl (n + 1) (nNo G k r c (-1)) k (F 29 1)).1 = (cFl (n + 1) F k r c).1 ∧ RI (cFl (n + 1) F k r c).2 (nFl (n + 1) (nNo G k r c (-1)) k (F 29 1)).2 m := by
  intro n
  induction n with
  | zero =>
    intro F G k r c hn h hk
    have h1 : RI (cF1 F k r c) (nNo G k r c (-1)) (24 + m) := RI_no (m := 24 + m) (by rw [show 24 + m + 1 = 25 * (0 + 1) + m by omega]; exact h) k r c (-1)
    have n1 : zn (cF1 F k r c 2 7) = 0 + 1 := by rw [cF1, cAd_ne F _ _ _ _ _ _ (by decide) (by decide)]; exact hn
    generalize hF1 : cF1 F k r c = F1 at *
    generalize hG1 : nNo G k r c (-1) = G1 at *
    have hs := h1.2.2.2.2.2.1.2 0 (by decide)
    obtain ⟨n8, hin, -, -, -⟩ := CI_n h1.1 n1
    have ht := CI_top h1.1 n1
    have l9 := vin_le1 ht.2.2.2.2.1
    have el : nLx G1 0 k (zn (G1 103 0)) = cFx F1 k := by
      rw [cFx, hin, hs.2.2.2.2.1]
      exact lx_eq hs hk _ l9
    cases hx : cFx F1 k with
    | some g =>
      rw [cFl_s (by rw [hF1]; exact hx), nFl_s (by rw [el]; exact hx), hF1, hin]
      have hg : g < 8 := by
        rw [cFx, hin] at hx
        have := cLx_lt F1 0 k _ g hx
        omega
      exact ⟨rfl, RI_le (RI_ca h1 n1 hg) (by omega)⟩
    | none =>
      rw [cFl_n (by rw [hF1]; exact hx), nFl_0 (by rw [el]; exact hx) rfl, hF1]
      have r24 := vin_le1 h1.1.2.2.1
      have h2 := RI_sp (m := m) n1 (F 29 1) (zn (F1 25 3)) (Nat.le_refl _) (RI_le h1 (by omega))
      rw [h1.2.2.1.1]
      have n2 : zn (cSp F1 0 (F 29 1) (zn (F1 25 3)) 2 7) = 0 + 1 := by rw [cSp_ne F1 0 _ (by decide) (by decide)]; exact n1
      have h3 := (RI_dr h2 n2).1
      rw [cFd, hin]
      exact ⟨rfl, h3⟩
  | succ n ih =>
    intro F G k r c hn h hk
    have h1 : RI (cF1 F k r c) (nNo G k r c (-1)) (25 * (n + 1) + 24 + m) := RI_no (m := 25 * (n + 1) + 24 + m) (by rw [show 25 * (n + 1) + 24 + m + 1 = 25 * (n + 1 + 1) + m by omega]; exact h) k r c (-1)
    have n1 : zn (cF1 F k r c 2 7) = n + 1 + 1 := by rw [cF1, cAd_ne F _ _ _ _ _ _ (by decide) (by decide)]; exact hn
    generalize hF1 : cF1 F k r c = F1 at *
    generalize hG1 : nNo G k r c (-1) = G1 at *
    obtain ⟨n8, hin, -, -, -⟩ := CI_n h1.1 n1
    have hs := h1.2.2.2.2.2.1.2 (n + 1) n8
    have ht := CI_top h1.1 n1
    have l9 := vin_le1 ht.2.2.2.2.1
    have el : nLx G1 (n + 1) k (zn (G1 103 (n + 1))) = cFx F1 k := by
      rw [cFx, hin, hs.2.2.2.2.1]
      exact lx_eq hs hk _ l9
    cases hx : cFx F1 k with
    | some g =>
      rw [cFl_s (by rw [hF1]; exact hx), nFl_s (by rw [el]; exact hx), hF1, hin]
      have hg : g < 8 := by
        rw [cFx, hin] at hx
        have := cLx_lt F1 (n + 1) k _ g hx
        omega
      exact ⟨rfl, RI_le (RI_ca h1 n1 hg) (by omega)⟩
    | none =>
      rw [cFl_n (by rw [hF1]; exact hx), nFl_n (by rw [el]; exact hx) (by omega), hF1]
      have r24 := vin_le1 h1.1.2.2.1
      have h2 := RI_sp (m := 25 * (n + 1) + m) n1 (F 29 1) (zn (F1 25 3)) (Nat.le_refl _) (RI_le h1 (by omega))
      rw [h1.2.2.1.1]
      have n2 : zn (cSp F1 (n + 1) (F 29 1) (zn (F1 25 3)) 2 7) = n + 1 + 1 := by rw [cSp_ne F1 _ _ (by decide) (by decide)]; exact n1
      obtain ⟨h3, n3⟩ := RI_dr h2 n2
      rw [cFd, hin, kf_eq hk, i_p1m, h3.2.2.2.2.2.2.1.1]
      exact ih _ _ (zkf k) (-1) (F 29 1) n3 h3 (zkf_in k)
theorem of_eq {F G : zFt} {m n : Nat} (h : RI F G (200 + m)) (hn : zn (F 2 7) = n + 1) (x : Int32) : ∀ t a, a + t = zn (F 25 3) → (nJg G x t a).1 = (cOf F n x t a).1 ∧ RI (cOf F n x t a).2 (nJg G x t a).2 m := by
  have h' := h
  obtain ⟨a1, a2, a3, a4, a5, a6, a7, a8, a9, b1, b2, b3, b4, b5, b6⟩ := h'
  obtain ⟨n8, hin, e7, -, -⟩ := CI_n a1 hn
  intro t
  induction t with
  | zero =>
    intro a ha
    exact ⟨rfl, RI_le h (by omega)⟩
  | succ t ih =>
    intro a ha
    rw [nJg, cOf, (a3.2 a).1, ho_eq a1 a2 a3 a5 a6 b1 b2 b4 hn (r := a) (by omega), (a3.2 a).2.1]
    split
    · exact ih (a + 1) (by omega)
    · split
      · exact ih (a + 1) (by omega)
      · rw [nFx, a6.1, hn, a7.1, i_p1m]
        exact fl_eq m n F G (F 27 a) (nI a) (-1) hn (RI_le h (by omega)) (a1.2.2.2.1 a (by omega))
theorem oc_eq {F G : zFt} {m n : Nat} (h : RI F G (200 + m)) (hn : zn (F 2 7) = n + 1) (x : Int32) : (nJd G x).1 = (oCo F x).1 ∧ RI (oCo F x).2 (nJd G x).2 m := by
  have e := of_eq h hn x (zn (F 25 3)) 0 (Nat.zero_add _)
  rw [nJd, h.2.2.1.1, oCo, (CI_n h.1 hn).2.1]
  exact e
