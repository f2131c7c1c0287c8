theorem na_eq {F G : zFt} {m n : Nat} (h : RI F G m) (hn : zn (F 2 7) = n + 1) (x : Int32) : nNa G x = cNa F x ∧ (cNa F x = -1 ∨ ∃ j, j < zn (F (5 * n + 35) 5) ∧ j < 16 ∧ cNa F x = nI j) := by
  obtain ⟨n8, hin, e7, e1, hF⟩ := CI_n h.1 hn
  have ht := CI_top h.1 hn
  have h0 : ¬ F 2 7 = 0 := fun q => by
    rw [q] at hn
    rw [show zn 0 = 0 from rfl] at hn
    omega
  have ez : zn (F 2 7 - 1) = n := by rw [e1, zn_nI (by omega)]
  obtain ⟨p1, p2⟩ := pl_eq ht (h.2.2.2.2.2.1.2 n n8) x
  have l16 := vin_le1 ht.2.2.2.1
  rw [nNa, RI_28 h, if_neg h0, ez, p1, cNa, if_pos h0, hin]
  refine ⟨rfl, ?_⟩
  rcases p2 with q | ⟨j, hj, q⟩
  · exact Or.inl q
  · exact Or.inr ⟨j, hj, by omega, q⟩
theorem na_0 {F G : zFt} {m : Nat} (h : RI F G m) (h0 : F 2 7 = 0) (x : Int32) : nNa G x = -1 ∧ cNa F x = -1 := by
  rw [nNa, RI_28 h, if_pos h0, cNa, if_neg (not_not_intro h0)]
  exact ⟨rfl, rfl⟩
theorem rBack {F G : zFt} {m : Nat} (x : Int32) (h : RI F G (400 + m)) : (qBack G x).1 = (pBack F x).1 ∧ RI (pBack F x).2 (qBack G x).2 m := by
  unfold qBack pBack
  rw [zi15]
  split
  · exact RI_no3 h _
  · by_cases h0 : F 2 7 = 0
    · obtain ⟨q1, q2⟩ := na_0 h h0 x
      rw [q1, q2, if_pos rfl, if_neg (by decide)]
      exact RI_no3 h _
    · obtain ⟨n, hn⟩ := RI_dp h h0
      obtain ⟨n8, hin, e7, e1, hF⟩ := CI_n h.1 hn
      have ht := CI_top h.1 hn
      have hs := h.2.2.2.2.2.1.2 n n8
      obtain ⟨q1, q2⟩ := na_eq h hn x
      rcases q2 with q2 | ⟨j, hj, j16, q2⟩
      · rw [q1, q2, if_pos rfl, if_neg (by decide)]
        exact RI_no3 h _
      · have zj : zn (nI j) = j := zn_nI (by omega)
        have ez : zn (F 2 7 - 1) = n := by rw [e1, zn_nI (by omega)]
        have ej : zn (nI (j + 1)) = j + 1 := zn_nI (by omega)
        have l17 := vin_le1 ht.2.2.2.1
        rw [q1, if_neg (by rw [q2]; exact nm1 (by omega)), if_pos (by rw [q2, zle0, nI_int (by omega)]; omega)]
        refine ⟨rfl, ?_⟩
        show RI (cBk F x) (nBk G x) m
        rw [cBk, nBk, q1, q2, hin, zj, RI_28 h, e1, nI_16m, nI_add, zn_nI (show n * 16 + j < 2147483648 by omega), zn_nI (show n < 2147483648 by omega), (hs.2.2.2.2.2.1 j j16).2, nI_1]
        have hm : okM F (F (5 * n + 37) j) := ⟨(ht.2.2.2.2.2.2.1 j hj).2.1, (ht.2.2.2.2.2.2.1 j hj).2.2⟩
        refine RI_ct (RI_le h (by omega)) hn hm (ht.2.2.2.2.2.2.2.2 j hj) (vin_mk (a := j + 1) (by omega)) (by rw [ej]; omega) (fun k hk => ?_) (fun k j q => rfl) (fun k j q => rfl) ?_
        · rw [ej] at hk
          by_cases hkj : k = j
          · subst hkj
            exact Nat.le_refl _
          · exact h.2.2.2.2.2.2.2.2.2.2.2.1 n (by omega) k j (by omega) hj
        · refine mH_eq h.2.2.2.2.2.2.2.1 (fun i q => ?_) (fun i q => ?_)
          · rw [zup_ap, if_neg (by omega), cKt_ne F _ (by decide) (by decide) (by decide) (by decide) (by decide)]
          · rw [nGo_ne _ _ (by decide) (by decide) (by decide) _ (by omega), zup_ap, if_neg (by omega)]
theorem rRelease {F G : zFt} {m : Nat} (x : Int32) (h : RI F G (400 + m)) : (qRelease G x).1 = (pRelease F x).1 ∧ RI (pRelease F x).2 (qRelease G x).2 m := by
  unfold qRelease pRelease
  rw [zi15]
  split
  · exact RI_no3 h _
  · by_cases h0 : F 2 7 = 0
    · obtain ⟨q1, q2⟩ := na_0 h h0 x
      rw [q1, q2, if_pos rfl, if_neg (by decide)]
      exact RI_no3 h _
    · obtain ⟨n, hn⟩ := RI_dp h h0
      obtain ⟨n8, hin, e7, e1, hF⟩ := CI_n h.1 hn
      have ht := CI_top h.1 hn
      obtain ⟨q1, q2⟩ := na_eq h hn x
      rcases q2 with q2 | ⟨j, hj, j16, q2⟩
      · rw [q1, q2, if_pos rfl, if_neg (by decide)]
        exact RI_no3 h _
      · have zj : zn (nI j) = j := zn_nI (by omega)
        have ez : zn (F 2 7 - 1) = n := by rw [e1, zn_nI (by omega)]
        rw [q1, if_neg (by rw [q2]; exact nm1 (by omega)), if_pos (by rw [q2, zle0, nI_int (by omega)]; omega)]
        refine ⟨rfl, ?_⟩
        show RI (zup F (5 * cIn F + 35) 5 (cNa F x)) (zup G 100 (zn (G 75 28 - 1)) (cNa F x)) m
        rw [hin, RI_28 h, ez, q2]
        have fF : ∀ k i, ¬ (k = 5 * n + 35 ∧ i = 5) → zup F (5 * n + 35) 5 (nI j) k i = F k i := fun k i q => by rw [zup_ap, if_neg q]
        have f5 : zup F (5 * n + 35) 5 (nI j) (5 * n + 35) 5 = nI j := by rw [zup_ap, if_pos ⟨rfl, rfl⟩]
        have gG : ∀ k i, ¬ (k = 100 ∧ i = n) → zup G 100 n (nI j) k i = G k i := fun k i q => by rw [zup_ap, if_neg q]
        refine RI_sc (RI_le h (by omega)) hn (CI_sc h.1 hn (fun k i q => fF k i (by omega)) (fF _ _ (by omega)) ?_) (fun k i q => fF k i (by omega)) (fF _ _ (by omega)) (fun k i q => gG k i (by omega)) (fun s hs8 => ?_) ?_
        · obtain ⟨t1, t2, t3, t4, t5, t6, t7, t8, t9⟩ := ht
          simp only [scOk, jgOk, enOk, sJ, sE, f5, zj]
          simp (disch := omega) only [fF]
          exact ⟨t1, t2, t3, vin_mk (by omega), t5, t6, fun k hk => t7 k (by omega), fun a b hab hb => t8 a b hab (by omega), fun k hk => t9 k (by omega)⟩
        · obtain ⟨y1, y2, y3, y4, y5, y6, y7⟩ := h.2.2.2.2.2.1.2 s hs8
          by_cases hsn : s = n
          · subst hsn
            simp only [mE1, f5]
            simp (disch := omega) only [fF, gG]
            exact ⟨y1, y2, y3, by rw [zup_ap, if_pos ⟨rfl, rfl⟩], y5, y6, y7⟩
          · simp only [mE1]
            simp (disch := omega) only [fF, gG]
            exact ⟨y1, y2, y3, y4, y5, y6, y7⟩
        · exact fun s hs8 a b hab hb => by
            rw [fF _ _ (by omega)] at hs8
            rw [fF _ _ (by omega), fF _ _ (by omega)]
            refine h.2.2.2.2.2.2.2.2.2.2.2.1 s hs8 a b hab ?_
            by_cases hsn : s = n
            · subst hsn
              rw [f5, zj] at hb
              omega
            · rw [fF _ _ (by omega)] at hb
              exact hb
/-- the rows of the savepoints when one is taken away -/
theorem sv0 {F G : zFt} {n t : Nat} {x : Int32} (ht : scOk F n t) (hs : mE1 F G n) : ∃ (c : Nat) (d : Nat → Nat), c ≤ 16 ∧ cAs0 F n x (5 * n + 35) 5 = nI c ∧ nSv0 G n x 100 n = nI c ∧ (∀ k, k < 16 → nSv0 G n x 101 (n * 16 + k) = cAs0 F n x (5 * n + 36) k ∧ nSv0 G n x 102 (n * 16 + k) = cAs0 F n x (5 * n + 37) k) ∧ (∀ k, k < c → cAs0 F n x (5 * n + 37) k = F (5 * n + 37) (d k) ∧ d k < zn (F (5 * n + 35) 5)) ∧ ∀ a b, a < b → d a < d b := by
  obtain ⟨p1, p2⟩ := pl_eq ht hs x
  have l16 := vin_le1 ht.2.2.2.1
  have ec := vin_nI ht.2.2.2.1
  have epk : nPk G n x = cIx F n x := p1
  rcases p2 with q | ⟨j, hj, q⟩
  · have e1 : cAs0 F n x = F := by rw [cAs0, if_pos (by rw [q]; decide)]
    have e2 : nSv0 G n x = G := by rw [nSv0, if_pos (by rw [epk, q])]
    rw [e1, e2]
    exact ⟨zn (F (5 * n + 35) 5), fun k => k, l16, ec.symm, by rw [hs.2.2.2.1, ec], hs.2.2.2.2.2.1, fun k hk => ⟨rfl, hk⟩, fun a b hab => hab⟩
  · have zj : zn (nI j) = j := zn_nI (by omega)
    have hnl : ¬ cIx F n x < 0 := by rw [q]; exact nI_pos (by omega)
    have e1 : cAs0 F n x = zup (cRm F n j (zn (F (5 * n + 35) 5) - j - 1)) (5 * n + 35) 5 (F (5 * n + 35) 5 - 1) := by rw [cAs0, if_neg hnl, q, zj]
    have e2 : nSv0 G n x = nRm (zup G 100 n (F (5 * n + 35) 5 - 1)) n j (zn (F (5 * n + 35) 5) - 1 - j) := by rw [nSv0, if_neg (by rw [epk, q]; exact nm1 (by omega)), epk, q, zj, hs.2.2.2.1]
    have em : F (5 * n + 35) 5 - 1 = nI (zn (F (5 * n + 35) 5) - 1) := by
      have := nI_s1 (a := zn (F (5 * n + 35) 5)) (by omega)
      rw [ec] at this
      exact this
    have v37 : ∀ k, cAs0 F n x (5 * n + 37) k = if j ≤ k ∧ k < j + (zn (F (5 * n + 35) 5) - j - 1) then F (5 * n + 37) (k + 1) else F (5 * n + 37) k := fun k => by rw [e1, zup_ap, if_neg (by omega), cRm_val F n j 37 (Or.inr rfl)]
    have v36 : ∀ k, cAs0 F n x (5 * n + 36) k = if j ≤ k ∧ k < j + (zn (F (5 * n + 35) 5) - j - 1) then F (5 * n + 36) (k + 1) else F (5 * n + 36) k := fun k => by rw [e1, zup_ap, if_neg (by omega), cRm_val F n j 36 (Or.inl rfl)]
    refine ⟨zn (F (5 * n + 35) 5) - 1, fun k => if j ≤ k then k + 1 else k, by omega, by rw [e1, zup_ap, if_pos ⟨rfl, rfl⟩, em], by rw [e2, nRm_ne _ _ _ (by decide) (by decide), zup_ap, if_pos ⟨rfl, rfl⟩, em], fun k hk => ?_, fun k hk => ?_, fun a b hab => ?_⟩
    · rw [v36, v37, e2, nRm_val _ _ _ 101 (Or.inl rfl), nRm_val _ _ _ 102 (Or.inr rfl)]
      by_cases hk2 : j ≤ k ∧ k < j + (zn (F (5 * n + 35) 5) - j - 1)
      · rw [if_pos hk2, if_pos hk2, if_pos (by omega), if_pos (by omega), zup_ap, if_neg (by omega), zup_ap, if_neg (by omega), Nat.add_assoc]
        exact hs.2.2.2.2.2.1 (k + 1) (by omega)
      · rw [if_neg hk2, if_neg hk2, if_neg (by omega), if_neg (by omega), zup_ap, if_neg (by omega), zup_ap, if_neg (by omega)]
        exact hs.2.2.2.2.2.1 k hk
    · show _ = F (5 * n + 37) (if j ≤ k then k + 1 else k) ∧ (if j ≤ k then k + 1 else k) < _
      rw [v37]
      by_cases hk2 : j ≤ k
      · rw [if_pos (by omega), if_pos hk2]
        exact ⟨rfl, by omega⟩
      · rw [if_neg (by omega), if_neg hk2]
        exact ⟨rfl, by omega⟩
    · show (if j ≤ a then a + 1 else a) < (if j ≤ b then b + 1 else b)
      split <;> split <;> omega
theorem RI_sv {F G : zFt} {m n : Nat} {x : Int32} (h : RI F G m) (hn : zn (F 2 7) = n + 1) (hx : vp_in x 16) : RI (cAs F n x (F 11 6)) (nSv G n x) m ∧ vp_in (nSv0 G n x 100 n) 16 ∧ zn (cAs F n x (F 11 6) 2 7) = n + 1 := by
  obtain ⟨n8, hin, e7, e1, hF⟩ := CI_n h.1 hn
  have ht := CI_top h.1 hn
  have hs := h.2.2.2.2.2.1.2 n n8
  obtain ⟨c1, c2, c3⟩ := CI_save h.1 hn hx
  have h5 := h.1.2.2.2.2.1
  obtain ⟨-, -, k1, k2⟩ := cAs_ok (v := F 11 6) ht hx (vin_0 h5) (Nat.le_refl _) ht.2.2.2.2.2.1.2
  obtain ⟨c, d, hc, s1, s2, s3, s4, s5⟩ := sv0 (x := x) ht hs
  have c16 : c < 16 := by
    have := vin_zn c2
    rw [s1, zn_nI (by omega)] at this
    exact this
  have zc : zn (nI c) = c := zn_nI (by omega)
  obtain ⟨g1, g2, -⟩ := nSv0_at (F := G) (s := n) (x := x) (by rw [hs.2.2.2.1]; exact vin_0 ht.2.2.2.1) (by rw [hs.2.2.2.1]; exact vin_le1 ht.2.2.2.1)
  have a5 : cAs F n x (F 11 6) (5 * n + 35) 5 = nI (c + 1) := by rw [cAs, zup_ap, if_pos ⟨rfl, rfl⟩, s1, nI_1]
  have a36 : ∀ k, cAs F n x (F 11 6) (5 * n + 36) k = if k = c then x else cAs0 F n x (5 * n + 36) k := fun k => by
    rw [cAs, zup_ap, if_neg (by omega), zup_ap, if_neg (by omega), zup_ap, s1, zc]
    by_cases hk : k = c
    · rw [if_pos ⟨rfl, hk⟩, if_pos hk]
    · rw [if_neg (by omega), if_neg hk]
  have a37 : ∀ k, cAs F n x (F 11 6) (5 * n + 37) k = if k = c then F 11 6 else cAs0 F n x (5 * n + 37) k := fun k => by
    rw [cAs, zup_ap, if_neg (by omega), zup_ap, s1, zc]
    by_cases hk : k = c
    · rw [if_pos ⟨rfl, hk⟩, if_pos hk]
    · rw [if_neg (by omega), if_neg hk, zup_ap, if_neg (by omega)]
  have b100 : nSv G n x 100 n = nI (c + 1) := by rw [nSv, zup_ap, if_pos ⟨rfl, rfl⟩, s2, nI_1]
  have b101 : ∀ k, nSv G n x 101 (n * 16 + k) = if k = c then x else nSv0 G n x 101 (n * 16 + k) := fun k => by
    rw [nSv, zup_ap, if_neg (by omega), zup_ap, if_neg (by omega), zup_ap, s2, zc]
    by_cases hk : k = c
    · rw [if_pos ⟨rfl, by omega⟩, if_pos hk]
    · rw [if_neg (by omega), if_neg hk]
  have b102 : ∀ k, nSv G n x 102 (n * 16 + k) = if k = c then F 11 6 else nSv0 G n x 102 (n * 16 + k) := fun k => by
    rw [nSv, zup_ap, if_neg (by omega), zup_ap, s2, zc, RI_19 h]
    by_cases hk : k = c
    · rw [if_pos ⟨rfl, by omega⟩, if_pos hk]
    · rw [if_neg (by omega), if_neg hk, zup_ap, if_neg (by omega)]
  have bne : ∀ k j, k = 100 → j ≠ n → nSv G n x k j = G k j := fun k j p q => by
    subst p
    rw [nSv, zup_ap, if_neg (by omega), zup_ap, if_neg (by omega), zup_ap, if_neg (by omega), g1 j q]
  have bne2 : ∀ k j, k = 101 ∨ k = 102 → (j < n * 16 ∨ n * 16 + 16 ≤ j) → nSv G n x k j = G k j := fun k j p q => by
    rw [nSv, zup_ap, if_neg (by omega), zup_ap, if_neg (by rw [s2, zc]; omega), zup_ap, if_neg (by rw [s2, zc]; omega), g2 k j p q]
  have bo : ∀ k j, k ≠ 100 → k ≠ 101 → k ≠ 102 → nSv G n x k j = G k j := fun k j p q r => nSv_ne G n x p q r j
  refine ⟨RI_sc h hn c1 (fun k j q => k1 k j (by omega)) (k2 2 (by decide)) (fun k j q => bo k j (by omega) (by omega) (by omega)) (fun s hs8 => ?_) ?_, by rw [s2]; exact vin_mk c16, c3⟩
  · obtain ⟨y1, y2, y3, y4, y5, y6, y7⟩ := h.2.2.2.2.2.1.2 s hs8
    by_cases hsn : s = n
    · subst hsn
      simp only [mE1, a5, b100]
      rw [k2 0 (by decide), k2 1 (by decide), k2 2 (by decide), k2 8 (by decide)]
      simp (disch := omega) only [bo, k1]
      refine ⟨y1, y2, y3, trivial, y5, fun k hk => ?_, y7⟩
      rw [a36, a37, b101, b102]
      by_cases hkc : k = c
      · rw [if_pos hkc, if_pos hkc, if_pos hkc, if_pos hkc]
        exact ⟨rfl, rfl⟩
      · rw [if_neg hkc, if_neg hkc, if_neg hkc, if_neg hkc]
        exact s3 k hk
    · have k1' : ∀ k j, 5 * s + 35 ≤ k → k ≤ 5 * s + 39 → cAs F n x (F 11 6) k j = F k j := fun k j p q => k1 k j (by omega)
      simp only [mE1]
      simp (disch := omega) only [bo, k1', bne]
      refine ⟨y1, y2, y3, y4, y5, fun k hk => ?_, y7⟩
      rw [bne2 101 _ (by omega) (by omega), bne2 102 _ (by omega) (by omega)]
      exact y6 k hk
  · have hM := h.2.2.2.2.2.2.2.2.2.2.2.1
    intro s hs8 a b hab hb
    rw [c3] at hs8
    by_cases hsn : s = n
    · subst hsn
      rw [a5, zn_nI (by omega)] at hb
      rw [a37, a37]
      rw [if_neg (by omega)]
      have ha := s4 a (by omega)
      rw [ha.1]
      by_cases hbc : b = c
      · rw [if_pos hbc]
        exact (ht.2.2.2.2.2.2.1 _ ha.2).2.2
      · rw [if_neg hbc]
        have hb2 := s4 b (by omega)
        rw [hb2.1]
        exact hM s (by omega) _ _ (s5 a b hab) hb2.2
    · have k1' : ∀ k j, 5 * s + 35 ≤ k → k ≤ 5 * s + 39 → cAs F n x (F 11 6) k j = F k j := fun k j p q => k1 k j (by omega)
      rw [k1' _ _ (by omega) (by omega)] at hb
      rw [k1' _ _ (by omega) (by omega), k1' _ _ (by omega) (by omega)]
      exact hM s (by omega) a b hab hb
theorem rSave {F G : zFt} {m : Nat} (x : Int32) (h : RI F G (400 + m)) : (qSave G x).1 = (pSave F x).1 ∧ RI (pSave F x).2 (qSave G x).2 m := by
  unfold qSave pSave
  rw [zi15, RI_28 h]
  by_cases hx : zin x 16 = false
  · rw [if_pos hx, if_pos hx]
    exact RI_no3 h _
  · rw [if_neg hx, if_neg hx]
    by_cases h0 : F 2 7 = 0
    · rw [if_pos h0, if_neg (not_not_intro h0)]
      exact RI_no3 h _
    · rw [if_neg h0, if_pos h0]
      obtain ⟨n, hn⟩ := RI_dp h h0
      obtain ⟨n8, hin, e7, e1, hF⟩ := CI_n h.1 hn
      have ez : zn (F 2 7 - 1) = n := by rw [e1, zn_nI (by omega)]
      rw [ez, hin]
      obtain ⟨h1, -, n1⟩ := RI_sv (RI_le h (show 200 + m ≤ 400 + m by omega)) hn (zin_16 (by simpa using hx) (by decide))
      exact oc_eq h1 n1 1
