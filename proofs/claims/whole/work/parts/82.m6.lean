/-- counted anew -/
theorem mD_go {F G : zFt} (h : CI F) (hA : mA F G) (hS : mS F) (hr : ∀ j, G 89 j = F 12 j ∧ G 90 j = F 13 j ∧ G 91 j = F 14 j ∧ G 92 j = F 15 j) (h93 : ∀ i, i < zn (F 11 6) → G 93 i = F 16 i) : mD F (nGo G (F 11 6)) := by
  obtain ⟨v1, v2⟩ := nGo_v G (F 11 6)
  have hw : ∀ i, i < zn (F 11 6) → _ := fun i hi => w_eq (G := G) hA (hr i) (h93 i hi) (h.2.2.2.2.2.1 i hi).2.2.1
  refine ⟨nGo_ev _ _, fun j => ?_, fun i hi => ?_, fun j hj => ?_, fun e he => ⟨?_, ?_⟩⟩
  · rw [nGo_ne G _ (by decide) (by decide) (by decide) _ (by omega), nGo_ne G _ (by decide) (by decide) (by decide) _ (by omega), nGo_ne G _ (by decide) (by decide) (by decide) _ (by omega), nGo_ne G _ (by decide) (by decide) (by decide) _ (by omega)]
    exact hr j
  · rw [nGo_ne G _ (by decide) (by decide) (by decide) _ (by omega)]
    exact h93 i hi
  · rw [v1 j hj, hS.1]
    exact zsm_congr _ (fun i hi => (hw i hi).1 j)
  · rw [(v2 e he).1, hS.2.1]
    exact zsm_congr _ (fun i hi => (hw i hi).2.1 e)
  · rw [(v2 e he).2]
    exact zor_congr _ (fun i hi => (hw i hi).2.2 e)
/-- what close, uphold and undo leave as it is -/
theorem RI_0 {F G F2 G2 : zFt} {m : Nat} (h : RI F G m) (h0 : zn (F 2 7) = 0) (c : CI F2) (A : mA F2 G2) (D : mD F2 G2) (U : mU F2 G2) (S : mS F2) (V : mV F2) (Z : mZ G2) (eF : ∀ k j, k ≠ 7 → k ≠ 11 → ¬ (16 ≤ k ∧ k ≤ 19) → ¬ (k = 2 ∧ 10 ≤ j) → F2 k j = F k j) (eG : ∀ k j, ¬ (k = 75 ∧ (j = 19 ∨ j = 41 ∨ j = 43)) → k ≠ 80 → ¬ (93 ≤ k ∧ k ≤ 96) → k ≠ 107 → k ≠ 108 → G2 k j = G k j) : RI F2 G2 m := by
  obtain ⟨a1, a2, a3, a4, a5, a6, a7, a8, a9, b1, b2, b3, b4, b5, b6⟩ := h
  have fF : ∀ k j, k ≠ 7 ∧ k ≠ 11 ∧ (k < 16 ∨ 19 < k) ∧ (k ≠ 2 ∨ j < 10) → F2 k j = F k j := fun k j q => eF k j (by omega) (by omega) (by omega) (by omega)
  have fG : ∀ k j, (k ≠ 75 ∨ j = 11 ∨ j = 15 ∨ j = 18 ∨ j = 28 ∨ j = 38 ∨ j = 39 ∨ j = 42) ∧ k ≠ 80 ∧ (k < 93 ∨ 96 < k) ∧ k ≠ 107 ∧ k ≠ 108 → G2 k j = G k j := fun k j q => eG k j (by omega) (by omega) (by omega) (by omega) (by omega)
  refine ⟨c, A, mB_eq a3 (fun k j q => fF k j (by omega)) (fun k j q => fG k j (by omega)), mC_eq a4 (fun k j q => fF k j (by omega)) (fun k j q => fG k j (by omega)), D, mE_eq a6 (fun k j q => fF k j (by omega)) (fun k j q => fG k j (by omega)), mF_eq a7 (fun k j q => fF k j (by omega)) (fun k j q => fG k j (by omega)), mH_eq a8 (fun j q => fF 2 j (by omega)) (fun j q => fG 75 j (by omega)), U, S, V, ?_, mK_eq b4 (fun k j q => fF k j (by omega)), Z, ?_⟩
  · intro s hs
    rw [fF 2 7 (by omega), h0] at hs
    exact absurd hs (Nat.not_lt_zero s)
  · rw [mN, fF 29 1 (by omega)]
    exact b6
theorem nKp_v (G : zFt) (x : Int32) : nKp G x 75 41 = 1 ∧ nKp G x 75 43 = x ∧ (∀ i, nKp G x 107 i = if i < 400 then G 93 i else G 107 i) ∧ ∀ i, nKp G x 108 i = if i < 12 then G 80 i else G 108 i := by
  refine ⟨?_, ?_, fun i => ?_, fun i => ?_⟩
  · rw [nKp, zcp_ne _ (by decide), zcp_ne _ (by decide)]
    rfl
  · rw [nKp, zcp_ne _ (by decide), zcp_ne _ (by decide)]
    rfl
  · rw [nKp, zcp_ne _ (by decide), zcp_ap]
    by_cases hi : i < 400
    · rw [if_pos ⟨rfl, hi⟩, if_pos hi]
      rfl
    · rw [if_neg (by omega), if_neg hi]
      rfl
  · rw [nKp, zcp_ap]
    by_cases hi : i < 12
    · rw [if_pos ⟨rfl, hi⟩, if_pos hi]
      rfl
    · rw [if_neg (by omega), if_neg hi]
      rfl
theorem rClose {F G : zFt} {m : Nat} (c : Int32) (h : RI F G (400 + m)) : (qClose G c).1 = (pClose F c).1 ∧ RI (pClose F c).2 (qClose G c).2 m := by
  have h' := RI_le h (show m ≤ 400 + m by omega)
  obtain ⟨a1, a2, a3, a4, a5, a6, a7, a8, a9, b1, b2, b3, b4, b5, b6⟩ := h'
  unfold qClose pClose
  rw [a2.1, a6.1, (a2.2.2.2.1 _).2.2.2.1]
  by_cases c1 : zin c (F 3 7) = false
  · rw [if_pos c1, if_pos c1]
    exact RI_no3 h _
  rw [if_neg c1, if_neg c1]
  by_cases c2 : 0 < F 2 7
  · rw [if_pos c2, if_pos c2]
    exact RI_no3 h _
  rw [if_neg c2, if_neg c2]
  by_cases c3' : ¬ F 7 (zn c) = 0
  · rw [if_neg c3', if_neg c3']
    exact RI_no3 h _
  have c3 := Classical.not_not.mp c3'
  rw [if_pos c3, if_pos c3]
  obtain ⟨s0, sb⟩ := st_0 a1 c2
  have hc : vp_in c (zn (F 3 7)) := zin_v (by simpa using c1)
  have hc12 := sh_cl a1.1 hc
  have zc := vin_zn hc12
  have l4 := vin_le1 a1.2.2.2.2.1
  refine ⟨?_, ?_⟩
  · show G 79 (zn c) = zfold (gEo F 10 c) 0 (zn (F 3 9))
    rw [a2.2.2.2.2 (zn c) zc, vin_nI hc12]
  show RI (cCl F c) (zup (nKp G (G 75 19)) 80 (zn c) 1) m
  rw [a5.1]
  obtain ⟨k1, k2, k3, k4⟩ := nKp_v G (F 11 6)
  have fF : ∀ k j, ¬ (k = 2 ∧ (j = 10 ∨ j = 11 ∨ j = 12)) → ¬ (k = 7 ∧ j = zn c) → cCl F c k j = F k j := fun k j p q => by rw [cCl, zup_ap, if_neg q, zup_ap, if_neg (by omega), zup_ap, if_neg (by omega), zup_ap, if_neg (by omega)]
  have f10 : cCl F c 2 10 = 2 := by rw [cCl, zup_ap, if_neg (by omega)]; rfl
  have f11 : cCl F c 2 11 = c := by rw [cCl, zup_ap, if_neg (by omega)]; rfl
  have f12 : cCl F c 2 12 = 0 := by rw [cCl, zup_ap, if_neg (by omega)]; rfl
  have f7 : cCl F c 7 (zn c) = 1 := by rw [cCl, zup_ap, if_pos ⟨rfl, rfl⟩]
  have gne : ∀ k j, k ≠ 107 → k ≠ 108 → ¬ (k = 75 ∧ (j = 41 ∨ j = 43)) → ¬ (k = 80 ∧ j = zn c) → zup (nKp G (F 11 6)) 80 (zn c) 1 k j = G k j := fun k j p q r t => by rw [zup_ap, if_neg t, nKp_ne G _ p q (by omega)]
  have g80 : zup (nKp G (F 11 6)) 80 (zn c) 1 80 (zn c) = 1 := by rw [zup_ap, if_pos ⟨rfl, rfl⟩]
  have g41 : zup (nKp G (F 11 6)) 80 (zn c) 1 75 41 = 1 := by rw [zup_ap, if_neg (by omega), k1]
  have g43 : zup (nKp G (F 11 6)) 80 (zn c) 1 75 43 = F 11 6 := by rw [zup_ap, if_neg (by omega), k2]
  have g107 : ∀ i, zup (nKp G (F 11 6)) 80 (zn c) 1 107 i = if i < 400 then G 93 i else G 107 i := fun i => by rw [zup_ap, if_neg (by omega), k3]
  have g108 : ∀ i, zup (nKp G (F 11 6)) 80 (zn c) 1 108 i = if i < 12 then G 80 i else G 108 i := fun i => by rw [zup_ap, if_neg (by omega), k4]
  generalize hF2 : cCl F c = F2 at *
  generalize hG2 : zup (nKp G (F 11 6)) 80 (zn c) 1 = G2 at *
  have eb : bsE F2 = zn (F 11 6) := by rw [bsE, fF 2 7 (by omega) (by omega), s0, if_pos rfl, fF 11 6 (by omega) (by omega)]
  have eu : uE F2 = zn (F 11 6) := by rw [uE, f10, if_neg (by decide), eb]
  have h7r : ∀ j, G2 80 j = F2 7 j := fun j => by
    by_cases hj : j = zn c
    · rw [hj, g80, f7]
    · rw [gne 80 j (by omega) (by omega) (by omega) (fun q => hj q.2), fF 7 j (by omega) (fun q => hj q.2)]
      exact (a2.2.2.2.1 j).2.2.2.1
  refine RI_0 (RI_le h (by omega)) s0 ?_ ⟨?_, ?_, ?_, fun j => ?_, fun c' hc' => ?_⟩ (mD_eq a5 (fun k j q => fF k j (by omega) (by omega)) (fun k j q => gne k j (by omega) (by omega) (by omega) (by omega))) ⟨?_, fun _ => ⟨?_, fun i hi => ?_, fun c' hc' => ⟨fun q => ?_, fun q => ?_⟩⟩⟩ (mS_eq b1 (fun k j q => fF k j (by omega) (by omega))) (mV_eq b2 (fF 11 6 (by omega) (by omega)) (fun j q => fF 15 j (by omega) (by omega))) (fun i => ?_) (fun k j p q r t => fF k j (by omega) (by omega)) (fun k j p q r t u => gne k j (by omega) (by omega) (by omega) (by omega))
  · obtain ⟨h1, h2, h3, h4, h5, h6, h7, h8, h9⟩ := a1
    refine ⟨?_, ?_, ?_, ?_, ?_, ?_, ?_, ?_, ?_⟩
    · obtain ⟨s1, s2, s3, s4, s5⟩ := h1
      simp (disch := omega) only [shOk, fF]
      refine ⟨s1, s2, s3, fun c' => ?_, s5⟩
      by_cases hj : c' = zn c
      · rw [hj, f7]
        exact Or.inr rfl
      · rw [fF 7 c' (by omega) (fun q => hj q.2)]
        exact s4 c'
    · simp (disch := omega) only [fF]
      exact h2
    · simp (disch := omega) only [fF]
      exact h3
    · simp (disch := omega) only [fF]
      exact h4
    · simp (disch := omega) only [fF]
      exact h5
    · simp (disch := omega) only [evOk, jgOk, enOk, fF]
      exact h6
    · simp (disch := omega) only [fF]
      exact h7
    · intro s hs
      rw [fF 2 7 (by omega) (by omega), s0] at hs
      exact absurd hs (Nat.not_lt_zero s)
    · simp only [unOk, f10, f11, f12]
      rw [fF 3 7 (by omega) (by omega)]
      exact ⟨Or.inr (Or.inr (Or.inl trivial)), Or.inl trivial, fun q => absurd q (by decide), fun _ => hc, fun q => absurd q (by decide)⟩
  · rw [fF 3 7 (by omega) (by omega), gne 75 0 (by omega) (by omega) (by omega) (by omega)]
    exact a2.1
  · rw [fF 3 8 (by omega) (by omega), gne 75 7 (by omega) (by omega) (by omega) (by omega)]
    exact a2.2.1
  · rw [fF 3 9 (by omega) (by omega), gne 75 9 (by omega) (by omega) (by omega) (by omega)]
    exact a2.2.2.1
  · obtain ⟨y1, y2, y3, y4, y5, y6, y7⟩ := a2.2.2.2.1 j
    rw [h7r]
    simp (disch := omega) only [fF, gne]
    exact ⟨y1, y2, y3, trivial, y5, y6, y7⟩
  · rw [fF 3 9 (by omega) (by omega), gne 79 c' (by omega) (by omega) (by omega) (by omega), gEo_eq F F2 10 (nI c') (fun i => fF 10 i (by omega) (by omega))]
    exact a2.2.2.2.2 c' hc'
  · rw [g41, f10]
    exact ⟨fun q => absurd q (by decide), fun q => absurd q (by decide)⟩
  · rw [g43, eu, vin_nI a1.2.2.2.2.1]
  · rw [eu] at hi
    rw [g107, if_pos (by omega), f10, if_neg (fun q => absurd q.1 (by decide)), fF 16 i (by omega) (by omega)]
    exact a5.2.2.1 i hi
  · have hcc : c' = zn c := by
      rcases q with q | q
      · rw [f11] at q
        exact q.2
      · rw [f10] at q
        exact absurd q.1 (by decide)
    rw [g108, if_pos hc', f12, hcc, (a2.2.2.2.1 _).2.2.2.1, c3]
  · have hcc : ¬ c' = zn c := fun w => q (Or.inl ⟨f10, by rw [f11]; exact w⟩)
    rw [g108, if_pos hc', fF 7 c' (by omega) (fun w => hcc w.2)]
    exact (a2.2.2.2.1 _).2.2.2.1
  · rw [gne 93 i (by omega) (by omega) (by omega) (by omega), g107, g108]
    refine ⟨(b5 i).1, ?_, ?_, ?_⟩
    · by_cases hj : i = zn c
      · rw [hj, g80]
        exact Or.inr rfl
      · rw [gne 80 i (by omega) (by omega) (by omega) (fun q => hj q.2)]
        exact (b5 i).2.1
    · split
      · exact (b5 i).1
      · exact (b5 i).2.2.1
    · split
      · exact (b5 i).2.1
      · exact (b5 i).2.2.2
theorem rUphold {F G : zFt} {m : Nat} (i : Int32) (h : RI F G (400 + m)) : (qUphold G i).1 = (pUphold F i).1 ∧ RI (pUphold F i).2 (qUphold G i).2 m := by
  have h' := RI_le h (show m ≤ 400 + m by omega)
  obtain ⟨a1, a2, a3, a4, a5, a6, a7, a8, a9, b1, b2, b3, b4, b5, b6⟩ := h'
  unfold qUphold pUphold
  rw [a5.1, a6.1, zi3_zin (vin_0 a1.2.2.2.2.1)]
  by_cases c1 : zin i (F 11 6) = false
  · rw [if_pos c1, if_pos c1]
    exact RI_no3 h _
  rw [if_neg c1, if_neg c1]
  by_cases c2 : 0 < F 2 7
  · rw [if_pos c2, if_pos c2]
    exact RI_no3 h _
  have hi' : zin i (F 11 6) = true := by simpa using c1
  have hi := vin_zn (zin_v hi')
  rw [if_neg c2, if_neg c2, a5.2.2.1 _ hi]
  by_cases c3 : F 16 (zn i) = 0
  · rw [if_pos c3, if_pos c3]
    exact RI_no3 h _
  rw [if_neg c3, if_neg c3]
  refine ⟨rfl, ?_⟩
  show RI (cUp F i) (nGo (nU1 G i) (F 11 6)) m
  obtain ⟨s0, sb⟩ := st_0 a1 c2
  have l4 := vin_le1 a1.2.2.2.2.1
  have hev := a1.2.2.2.2.2.1 _ hi
  have h16 : F 16 (zn i) = 1 := hev.2.2.2.2.2.resolve_left c3
  have hcl : vp_in (F 10 (zn (F 14 (zn i)))) 12 := sh_ec a1.1 hev.2.1
  have hcz := vin_zn hcl
  obtain ⟨k1, k2, k3, k4⟩ := nKp_v G (F 11 6)
  have eU : cUc F i = F 10 (zn (F 14 (zn i))) := rfl
  have eGc : G 83 (zn (G 91 (zn i))) = F 10 (zn (F 14 (zn i))) := by rw [(a5.2.1 _).2.2.1, (a2.2.2.2.1 _).2.2.2.2.2.2]
  have gU : ∀ k j, k ≠ 107 → k ≠ 108 → ¬ (k = 75 ∧ (j = 41 ∨ j = 43)) → ¬ (k = 80 ∧ j = zn (F 10 (zn (F 14 (zn i))))) → ¬ (k = 93 ∧ j = zn i) → nU1 G i k j = G k j := fun k j p q r t u => by
    rw [nU1, eGc, zup_ap, if_neg t, zup_ap, if_neg u, nKp_ne G _ p q (by omega)]
  have g80 : nU1 G i 80 (zn (F 10 (zn (F 14 (zn i))))) = 0 := by rw [nU1, eGc, zup_ap, if_pos ⟨rfl, rfl⟩]
  have g93 : nU1 G i 93 (zn i) = 0 := by rw [nU1, zup_ap, if_neg (by omega), zup_ap, if_pos ⟨rfl, rfl⟩]
  have g41 : nU1 G i 75 41 = 1 := by rw [nU1, zup_ap, if_neg (by omega), zup_ap, if_neg (by omega), a5.1, k1]
  have g43 : nU1 G i 75 43 = F 11 6 := by rw [nU1, zup_ap, if_neg (by omega), zup_ap, if_neg (by omega), a5.1, k2]
  have g107 : ∀ q, nU1 G i 107 q = if q < 400 then G 93 q else G 107 q := fun q => by rw [nU1, zup_ap, if_neg (by omega), zup_ap, if_neg (by omega), a5.1, k3]
  have g108 : ∀ q, nU1 G i 108 q = if q < 12 then G 80 q else G 108 q := fun q => by rw [nU1, zup_ap, if_neg (by omega), zup_ap, if_neg (by omega), a5.1, k4]
  -- the ledger's side
  have kk : ∀ k j, ¬ (k = 2 ∧ (j = 10 ∨ j = 11 ∨ j = 12)) → cUk F i k j = F k j := fun k j p => by rw [cUk, zup_ap, if_neg (by omega), zup_ap, if_neg (by omega), zup_ap, if_neg (by omega)]
  have sk : mS (cUk F i) := mS_eq b1 (fun k j q => kk k j (by omega))
  have ss : mS (cSc (cUk F i) (zn i) 0) := mS_sc sk (by rw [kk 11 6 (by omega)]; exact hi) (by rw [kk 16 _ (by omega)]; exact Or.inr h16) (Or.inl rfl)
  have fU : ∀ k j, ¬ (16 ≤ k ∧ k ≤ 19) → ¬ (k = 7 ∧ j = zn (F 10 (zn (F 14 (zn i))))) → ¬ (k = 2 ∧ (j = 10 ∨ j = 11 ∨ j = 12)) → cUp F i k j = F k j := fun k j p q r => by
    rw [cUp, zup_ap, if_neg q, cSc_ne _ _ _ (by omega) (by omega) (by omega) (by omega), kk k j r]
  have f7 : cUp F i 7 (zn (F 10 (zn (F 14 (zn i))))) = 0 := by rw [cUp, zup_ap, if_pos ⟨rfl, rfl⟩]
  have f16 : cUp F i 16 (zn i) = 0 := by rw [cUp, zup_ap, if_neg (by omega)]; exact cSc_at _ _ _
  have f16n : ∀ q, q ≠ zn i → cUp F i 16 q = F 16 q := fun q hq => by rw [cUp, zup_ap, if_neg (by omega), cSc_16 _ _ _ _ hq, kk 16 q (by omega)]
  have f2 : ∀ j, cUp F i 2 j = cUk F i 2 j := fun j => by rw [cUp, zup_ap, if_neg (by omega), cSc_ne _ _ _ (by decide) (by decide) (by decide) (by decide)]
  have f10 : cUp F i 2 10 = 3 := by rw [f2]; rfl
  have f11 : cUp F i 2 11 = i := by rw [f2]; rfl
  have f12 : cUp F i 2 12 = F 7 (zn (F 10 (zn (F 14 (zn i))))) := by rw [f2]; rfl
  have S2 : mS (cUp F i) := mS_eq ss (fun k j q => by rw [cUp, zup_ap, if_neg (by omega)])
  generalize hF2 : cUp F i = F2 at *
  generalize hG1 : nU1 G i = G1 at *
  have e6 : F2 11 6 = F 11 6 := fU 11 6 (by omega) (by omega) (by omega)
  have eb : bsE F2 = zn (F 11 6) := by rw [bsE, fU 2 7 (by omega) (by omega) (by omega), s0, if_pos rfl, e6]
  have eu : uE F2 = zn (F 11 6) := by rw [uE, f10, if_neg (by decide), eb]
  have eK : zn (F2 10 (zn (F2 14 (zn i)))) = zn (F 10 (zn (F 14 (zn i)))) := by rw [fU 14 _ (by omega) (by omega) (by omega), fU 10 _ (by omega) (by omega) (by omega)]
  have C2 : CI F2 := by
    obtain ⟨h1, h2, h3, h4, h5, h6, h7, h8, h9⟩ := a1
    refine ⟨?_, ?_, ?_, ?_, ?_, fun q hq => ?_, ?_, ?_, ?_⟩
    · obtain ⟨s1, s2, s3, s4, s5⟩ := h1
      simp (disch := omega) only [shOk, fU]
      refine ⟨s1, s2, s3, fun c' => ?_, s5⟩
      by_cases hj : c' = zn (F 10 (zn (F 14 (zn i))))
      · rw [hj, f7]
        exact Or.inl rfl
      · rw [fU 7 c' (by omega) (fun q => hj q.2) (by omega)]
        exact s4 c'
    · simp (disch := omega) only [fU]
      exact h2
    · simp (disch := omega) only [fU]
      exact h3
    · simp (disch := omega) only [fU]
      exact h4
    · rw [e6]
      exact h5
    · rw [e6] at hq
      obtain ⟨v1, v2, v3, v4, v5, v6⟩ := h6 q hq
      simp (disch := omega) only [evOk, jgOk, enOk, fU]
      refine ⟨v1, v2, v3, v4, v5, ?_⟩
      by_cases hqi : q = zn i
      · rw [hqi, f16]
        exact Or.inl rfl
      · rw [f16n q hqi]
        exact v6
    · simp (disch := omega) only [fU]
      exact h7
    · intro s hs
      rw [fU 2 7 (by omega) (by omega) (by omega), s0] at hs
      exact absurd hs (Nat.not_lt_zero s)
    · simp only [unOk, f10, f11, f12, eb]
      exact ⟨Or.inr (Or.inr (Or.inr trivial)), h1.2.2.2.1 _, fun q => absurd q (by decide), fun q => absurd q (by decide), fun _ => zin_v hi'⟩
  have A1 : mA F2 G1 := by
    refine ⟨?_, ?_, ?_, fun j => ?_, fun c' hc' => ?_⟩
    · rw [fU 3 7 (by omega) (by omega) (by omega), gU 75 0 (by omega) (by omega) (by omega) (by omega) (by omega)]
      exact a2.1
    · rw [fU 3 8 (by omega) (by omega) (by omega), gU 75 7 (by omega) (by omega) (by omega) (by omega) (by omega)]
      exact a2.2.1
    · rw [fU 3 9 (by omega) (by omega) (by omega), gU 75 9 (by omega) (by omega) (by omega) (by omega) (by omega)]
      exact a2.2.2.1
    · obtain ⟨y1, y2, y3, y4, y5, y6, y7⟩ := a2.2.2.2.1 j
      have h7r : G1 80 j = F2 7 j := by
        by_cases hj : j = zn (F 10 (zn (F 14 (zn i))))
        · rw [hj, g80, f7]
        · rw [gU 80 j (by omega) (by omega) (by omega) (fun q => hj q.2) (by omega), fU 7 j (by omega) (fun q => hj q.2) (by omega)]
          exact y4
      rw [h7r]
      simp (disch := omega) only [fU, gU]
      exact ⟨y1, y2, y3, trivial, y5, y6, y7⟩
    · rw [fU 3 9 (by omega) (by omega) (by omega), gU 79 c' (by omega) (by omega) (by omega) (by omega) (by omega), gEo_eq F F2 10 (nI c') (fun i => fU 10 i (by omega) (by omega) (by omega))]
      exact a2.2.2.2.2 c' hc'
  have D2 : mD F2 (nGo G1 (F 11 6)) := by
    rw [← e6]
    refine mD_go C2 A1 S2 (fun j => ?_) (fun q hq => ?_)
    · simp (disch := omega) only [fU, gU]
      exact a5.2.1 j
    · rw [e6] at hq
      by_cases hqi : q = zn i
      · rw [hqi, g93, f16]
      · rw [gU 93 q (by omega) (by omega) (by omega) (by omega) (fun w => hqi w.2), f16n q hqi]
        exact a5.2.2.1 q hq
  have gn : ∀ k j, (k < 94 ∨ 96 < k) → ¬ (k = 75 ∧ j = 19) → nGo G1 (F 11 6) k j = G1 k j := fun k j p q => nGo_ne G1 _ (by omega) (by omega) (by omega) j q
  refine RI_0 (RI_le h (by omega)) s0 C2 (mA_eq A1 (fun k j q => rfl) (fun k j q => gn k j (by omega) (by omega))) D2 ⟨?_, fun _ => ⟨?_, fun q hq => ?_, fun c' hc' => ⟨fun q => ?_, fun q => ?_⟩⟩⟩ S2 (mV_eq b2 e6 (fun j q => fU 15 j (by omega) (by omega) (by omega))) (fun q => ?_) (fun k j p q r t => fU k j r (by omega) (by omega)) (fun k j p q r t u => by rw [gn k j (by omega) (by omega), gU k j t u (by omega) (by omega) (by omega)])
  · rw [gn 75 41 (by omega) (by omega), g41, f10]
    exact ⟨fun q => absurd q (by decide), fun q => absurd q (by decide)⟩
  · rw [gn 75 43 (by omega) (by omega), g43, eu, vin_nI a1.2.2.2.2.1]
  · rw [eu] at hq
    rw [gn 107 q (by omega) (by omega), g107, if_pos (by omega), f10, f11]
    by_cases hqi : q = zn i
    · rw [if_pos ⟨rfl, hqi⟩, hqi, a5.2.2.1 _ hi, h16]
    · rw [if_neg (fun w => hqi w.2), f16n q hqi]
      exact a5.2.2.1 q hq
  · have hcc : c' = zn (F 10 (zn (F 14 (zn i)))) := by
      rcases q with q | q
      · rw [f10] at q
        exact absurd q.1 (by decide)
      · rw [f11, eK] at q
        exact q.2
    rw [gn 108 c' (by omega) (by omega), g108, if_pos hc', f12, hcc]
    exact (a2.2.2.2.1 _).2.2.2.1
  · have hcc : ¬ c' = zn (F 10 (zn (F 14 (zn i)))) := fun w => q (Or.inr ⟨f10, by rw [f11, eK]; exact w⟩)
    rw [gn 108 c' (by omega) (by omega), g108, if_pos hc', fU 7 c' (by omega) (fun w => hcc w.2) (by omega)]
    exact (a2.2.2.2.1 _).2.2.2.1
  · rw [gn 93 q (by omega) (by omega), gn 80 q (by omega) (by omega), gn 107 q (by omega) (by omega), gn 108 q (by omega) (by omega), g107, g108]
    refine ⟨?_, ?_, ?_, ?_⟩
    · by_cases hqi : q = zn i
      · rw [hqi, g93]
        exact Or.inl rfl
      · rw [gU 93 q (by omega) (by omega) (by omega) (by omega) (fun w => hqi w.2)]
        exact (b5 q).1
    · by_cases hj : q = zn (F 10 (zn (F 14 (zn i))))
      · rw [hj, g80]
        exact Or.inl rfl
      · rw [gU 80 q (by omega) (by omega) (by omega) (fun w => hj w.2) (by omega)]
        exact (b5 q).2.1
    · split
      · exact (b5 q).1
      · exact (b5 q).2.2.1
    · split
      · exact (b5 q).2.1
      · exact (b5 q).2.2.2
