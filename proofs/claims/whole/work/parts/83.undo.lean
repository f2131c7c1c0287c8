theorem tI1 {x : Int32} {n : Int} {m : Int32} (hm : m.toInt = n) : x.toInt = n ↔ x = m := by rw [tI_eq, hm]
theorem un_ev {F G : zFt} {m : Nat} (h : RI F G m) (s0 : zn (F 2 7) = 0) (h0 : ¬ F 2 10 = 0) : uE F ≤ zn (F 11 6) ∧ bsE F = zn (F 11 6) ∧ (F 2 10 = 1 → uE F = zn (F 2 11)) ∧ (¬ F 2 10 = 1 → uE F = zn (F 11 6)) := by
  have eb : bsE F = zn (F 11 6) := by rw [bsE, s0, if_pos rfl]
  have hle := uE_le h.1.2.2.2.2.2.2.2.2
  refine ⟨by omega, eb, fun q => by rw [uE, if_pos q], fun q => by rw [uE, if_neg q, eb]⟩
theorem cun_v {F : zFt} (h : CI F) (hS : mS F) (s0 : zn (F 2 7) = 0) (h0 : ¬ F 2 10 = 0) : mS (cUn F) ∧ cUn F 11 6 = nI (uE F) ∧ (∀ k j, k ≠ 7 → k ≠ 11 → ¬ (16 ≤ k ∧ k ≤ 19) → cUn F k j = F k j) ∧ (∀ i, i < uE F → cUn F 16 i = if F 2 10 = 3 ∧ i = zn (F 2 11) then 1 else F 16 i) ∧ (∀ c, uC F c → cUn F 7 c = F 2 12) ∧ (∀ c, ¬ uC F c → cUn F 7 c = F 7 c) ∧ (∀ c, 12 ≤ c → ¬ uC F c) ∧ uE F ≤ zn (F 11 6) := by
  obtain ⟨u1, u2, u3, u4, u5⟩ := h.2.2.2.2.2.2.2.2
  have eb : bsE F = zn (F 11 6) := by rw [bsE, s0, if_pos rfl]
  have hle := uE_le h.2.2.2.2.2.2.2.2
  have e1 := tI1 (x := F 2 10) (n := 1) (m := 1) (by decide)
  have e2 := tI1 (x := F 2 10) (n := 2) (m := 2) (by decide)
  have ev := vin_nI h.2.2.2.2.1
  simp only [cUn, e1, e2]
  rcases u1 with q | q | q | q
  · exact absurd q h0
  · have hu := u3 q
    have eu : uE F = zn (F 2 11) := by rw [uE, if_pos q]
    have hm : okM F (F 2 11) := ⟨hu.1, by omega⟩
    have nc : ∀ c, ¬ uC F c := fun c w => by
      rcases w with w | w
      · rw [q] at w
        exact absurd w.1 (by decide)
      · rw [q] at w
        exact absurd w.1 (by decide)
    rw [if_pos q]
    refine ⟨mS_kt h hS hm, by rw [cKt_ev h hm, eu, nI_zn hu.1], fun k j a b c => cKt_ne F _ b (by omega) (by omega) (by omega) (by omega) j, fun i hi => ?_, fun c w => absurd w (nc c), fun c _ => cKt_ne F _ (by decide) (by decide) (by decide) (by decide) (by decide) c, fun c _ => nc c, by omega⟩
    rw [eu] at hi
    rw [cKt_16 hm hi, if_neg (fun w => by rw [q] at w; exact absurd w.1 (by decide))]
  · have eu : uE F = zn (F 11 6) := by rw [uE, if_neg (by rw [q]; decide), eb]
    have hc := sh_cl h.1 (u4 q)
    rw [if_neg (by rw [q]; decide), if_pos q]
    refine ⟨mS_eq hS (fun k j w => by rw [zup_ap, if_neg (by omega)]), by rw [zup_ap, if_neg (by omega), eu, ev], fun k j a b c => by rw [zup_ap, if_neg (by omega)], fun i hi => ?_, fun c w => ?_, fun c w => ?_, fun c hc12 w => ?_, by omega⟩
    · rw [zup_ap, if_neg (by omega), if_neg (fun w => by rw [q] at w; exact absurd w.1 (by decide))]
    · rcases w with w | w
      · rw [zup_ap, if_pos ⟨rfl, w.2⟩]
      · rw [q] at w
        exact absurd w.1 (by decide)
    · rw [zup_ap, if_neg (fun x => w (Or.inl ⟨q, x.2⟩))]
    · rcases w with w | w
      · have := vin_zn hc
        omega
      · rw [q] at w
        exact absurd w.1 (by decide)
  · have eu : uE F = zn (F 11 6) := by rw [uE, if_neg (by rw [q]; decide), eb]
    have hi := vin_zn (u5 q)
    rw [eb] at hi
    have hev := h.2.2.2.2.2.1 _ hi
    have hcl := vin_zn (sh_ec h.1 hev.2.1)
    rw [if_neg (by rw [q]; decide), if_neg (by rw [q]; decide)]
    refine ⟨mS_eq (mS_sc hS hi hev.2.2.2.2.2 (Or.inr rfl)) (fun k j w => by rw [zup_ap, if_neg (by omega)]), by rw [zup_ap, if_neg (by omega), cSc_ne _ _ _ (by decide) (by decide) (by decide) (by decide), eu, ev], fun k j a b c => by rw [zup_ap, if_neg (by omega), cSc_ne _ _ _ (by omega) (by omega) (by omega) (by omega)], fun k hk => ?_, fun c w => ?_, fun c w => ?_, fun c hc12 w => ?_, by omega⟩
    · rw [zup_ap, if_neg (by omega)]
      by_cases hk2 : k = zn (F 2 11)
      · rw [if_pos ⟨q, hk2⟩, hk2, cSc_at]
      · rw [if_neg (fun w => hk2 w.2), cSc_16 _ _ _ _ hk2]
    · rcases w with w | w
      · rw [q] at w
        exact absurd w.1 (by decide)
      · rw [zup_ap, if_pos ⟨rfl, w.2⟩]
    · rw [zup_ap, if_neg (fun x => w (Or.inr ⟨q, x.2⟩)), cSc_ne _ _ _ (by decide) (by decide) (by decide) (by decide)]
    · rcases w with w | w
      · rw [q] at w
        exact absurd w.1 (by decide)
      · have := w.2
        have hcl' : zn (F 10 (zn (F 14 (zn (F 2 11))))) < 12 := hcl
        omega
theorem rUndo {F G : zFt} {m : Nat} (h : RI F G (400 + m)) : (qUndo G).1 = (pUndo F).1 ∧ RI (pUndo F).2 (qUndo G).2 m := by
  have h' := RI_le h (show m ≤ 400 + m by omega)
  obtain ⟨a1, a2, a3, a4, a5, a6, a7, a8, a9, b1, b2, b3, b4, b5, b6⟩ := h'
  unfold qUndo pUndo
  rw [a6.1]
  by_cases c2 : 0 < F 2 7
  · rw [if_pos c2, if_pos c2]
    exact RI_no3 h _
  rw [if_neg c2, if_neg c2]
  by_cases c3 : F 2 10 = 0
  · rw [if_pos (a9.1.mpr c3), if_pos c3]
    exact RI_no3 h _
  rw [if_neg (fun q => c3 (a9.1.mp q)), if_neg c3]
  refine ⟨rfl, ?_⟩
  show RI (zup (cUn F) 2 10 0) (nGo (nUn G) (G 75 43)) m
  obtain ⟨s0, -⟩ := st_0 a1 c2
  obtain ⟨t1, t2, t3, t4, t5, t6, t7, t8⟩ := cun_v a1 b1 s0 c3
  obtain ⟨x1, x2, x3⟩ := a9.2 c3
  have l4 := vin_le1 a1.2.2.2.2.1
  have zu : zn (nI (uE F)) = uE F := zn_nI (by omega)
  rw [x1]
  have fF : ∀ k j, k ≠ 7 → k ≠ 11 → ¬ (16 ≤ k ∧ k ≤ 19) → ¬ (k = 2 ∧ j = 10) → zup (cUn F) 2 10 0 k j = F k j := fun k j p q r t => by rw [zup_ap, if_neg t, t3 k j p q r]
  have f6 : zup (cUn F) 2 10 0 11 6 = nI (uE F) := by rw [zup_ap, if_neg (by omega), t2]
  have f16 : ∀ i, i < uE F → zup (cUn F) 2 10 0 16 i = if F 2 10 = 3 ∧ i = zn (F 2 11) then 1 else F 16 i := fun i hi => by rw [zup_ap, if_neg (by omega), t4 i hi]
  have f7a : ∀ c, uC F c → zup (cUn F) 2 10 0 7 c = F 2 12 := fun c hc => by rw [zup_ap, if_neg (by omega), t5 c hc]
  have f7b : ∀ c, ¬ uC F c → zup (cUn F) 2 10 0 7 c = F 7 c := fun c hc => by rw [zup_ap, if_neg (by omega), t6 c hc]
  have f10 : zup (cUn F) 2 10 0 2 10 = 0 := rfl
  have S2 : mS (zup (cUn F) 2 10 0) := mS_eq t1 (fun k j q => by rw [zup_ap, if_neg (by omega)])
  have gU : ∀ k j, ¬ (k = 75 ∧ j = 41) → k ≠ 93 → k ≠ 80 → nUn G k j = G k j := fun k j p q r => by rw [nUn, zcp_ne _ r, zcp_ne _ q, zup_ap, if_neg p]
  have g93 : ∀ i, nUn G 93 i = if i < 400 then G 107 i else G 93 i := fun i => by
    rw [nUn, zcp_ne _ (by decide), zcp_ap]
    by_cases hi : i < 400
    · rw [if_pos ⟨rfl, hi⟩, if_pos hi]
      rfl
    · rw [if_neg (by omega), if_neg hi]
      rfl
  have g80 : ∀ i, nUn G 80 i = if i < 12 then G 108 i else G 80 i := fun i => by
    rw [nUn, zcp_ap]
    by_cases hi : i < 12
    · rw [if_pos ⟨rfl, hi⟩, if_pos hi]
      rfl
    · rw [if_neg (by omega), if_neg hi]
      rfl
  have g41 : nUn G 75 41 = 0 := by
    rw [nUn, zcp_ne _ (by decide), zcp_ne _ (by decide)]
    rfl
  generalize hF2 : zup (cUn F) 2 10 0 = F2 at *
  generalize hG1 : nUn G = G1 at *
  have h01 : ∀ c, F2 7 c = 0 ∨ F2 7 c = 1 := fun c => by
    by_cases hc : uC F c
    · rw [f7a c hc]
      exact a1.2.2.2.2.2.2.2.2.2.1
    · rw [f7b c hc]
      exact a1.1.2.2.2.1 c
  have C2 : CI F2 := by
    obtain ⟨h1, h2, h3, h4, h5, h6, h7, h8, h9⟩ := a1
    refine ⟨?_, ?_, ?_, ?_, ?_, fun q hq => ?_, ?_, ?_, ?_⟩
    · obtain ⟨s1, s2, s3, s4, s5⟩ := h1
      simp (disch := omega) only [shOk, fF]
      exact ⟨s1, s2, s3, h01, s5⟩
    · simp (disch := omega) only [fF]
      exact h2
    · simp (disch := omega) only [fF]
      exact h3
    · simp (disch := omega) only [fF]
      exact h4
    · rw [f6]
      exact vin_mk (by omega)
    · rw [f6, zu] at hq
      obtain ⟨v1, v2, v3, v4, v5, v6⟩ := h6 q (by omega)
      simp (disch := omega) only [evOk, jgOk, enOk, fF]
      refine ⟨v1, v2, v3, v4, v5, ?_⟩
      rw [f16 q hq]
      split
      · exact Or.inr rfl
      · exact v6
    · simp (disch := omega) only [fF]
      exact h7
    · intro s hs
      rw [fF 2 7 (by omega) (by omega) (by omega) (by omega), s0] at hs
      exact absurd hs (Nat.not_lt_zero s)
    · simp only [unOk, f10]
      rw [fF 2 12 (by omega) (by omega) (by omega) (by omega)]
      exact ⟨Or.inl trivial, h9.2.1, fun q => absurd q (by decide), fun q => absurd q (by decide), fun q => absurd q (by decide)⟩
  have A1 : mA F2 G1 := by
    refine ⟨?_, ?_, ?_, fun j => ?_, fun c' hc' => ?_⟩
    · rw [fF 3 7 (by omega) (by omega) (by omega) (by omega), gU 75 0 (by omega) (by omega) (by omega)]
      exact a2.1
    · rw [fF 3 8 (by omega) (by omega) (by omega) (by omega), gU 75 7 (by omega) (by omega) (by omega)]
      exact a2.2.1
    · rw [fF 3 9 (by omega) (by omega) (by omega) (by omega), gU 75 9 (by omega) (by omega) (by omega)]
      exact a2.2.2.1
    · obtain ⟨y1, y2, y3, y4, y5, y6, y7⟩ := a2.2.2.2.1 j
      have h7r : G1 80 j = F2 7 j := by
        rw [g80]
        by_cases hj : j < 12
        · rw [if_pos hj]
          by_cases hc : uC F j
          · rw [f7a j hc]
            exact (x3 j hj).1 hc
          · rw [f7b j hc]
            exact (x3 j hj).2 hc
        · rw [if_neg hj, f7b j (t7 j (by omega))]
          exact y4
      rw [h7r]
      simp (disch := omega) only [fF, gU]
      exact ⟨y1, y2, y3, trivial, y5, y6, y7⟩
    · rw [fF 3 9 (by omega) (by omega) (by omega) (by omega), gU 79 c' (by omega) (by omega) (by omega), gEo_eq F F2 10 (nI c') (fun i => fF 10 i (by omega) (by omega) (by omega) (by omega))]
      exact a2.2.2.2.2 c' hc'
  have D2 : mD F2 (nGo G1 (nI (uE F))) := by
    rw [← f6]
    refine mD_go C2 A1 S2 (fun j => ?_) (fun q hq => ?_)
    · simp (disch := omega) only [fF, gU]
      exact a5.2.1 j
    · rw [f6, zu] at hq
      rw [g93, if_pos (by omega), f16 q hq]
      exact x2 q hq
  have gn : ∀ k j, (k < 94 ∨ 96 < k) → ¬ (k = 75 ∧ j = 19) → nGo G1 (nI (uE F)) k j = G1 k j := fun k j p q => nGo_ne G1 _ (by omega) (by omega) (by omega) j q
  refine RI_0 (RI_le h (by omega)) s0 C2 (mA_eq A1 (fun k j q => rfl) (fun k j q => gn k j (by omega) (by omega))) D2 ⟨?_, fun q => absurd f10 q⟩ S2 (fun i hi => ?_) (fun q => ?_) (fun k j p q r t => fF k j p q r (by omega)) (fun k j p q r t u => by rw [gn k j (by omega) (by omega), gU k j (by omega) (by omega) (by omega)])
  · rw [gn 75 41 (by omega) (by omega), g41, f10]
  · rw [f6, zu] at hi
    rw [fF 15 i (by omega) (by omega) (by omega) (by omega)]
    exact b2 i (by omega)
  · rw [gn 93 q (by omega) (by omega), gn 80 q (by omega) (by omega), gn 107 q (by omega) (by omega), gn 108 q (by omega) (by omega), g93, g80, gU 107 q (by omega) (by omega) (by omega), gU 108 q (by omega) (by omega) (by omega)]
    refine ⟨?_, ?_, (b5 q).2.2.1, (b5 q).2.2.2⟩
    · split
      · exact (b5 q).2.2.1
      · exact (b5 q).1
    · split
      · exact (b5 q).2.2.2
      · exact (b5 q).2.1
