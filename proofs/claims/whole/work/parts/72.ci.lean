/-! the ledger's own invariant, kept by what the calls are made of -/
theorem sc_le {F : zFt} {s t t' : Nat} (h : scOk F s t) (ht : t ≤ t') : scOk F s t' := by
  obtain ⟨a1, a2, a3, a4, a5, a6, a7, a8, a9⟩ := h
  exact ⟨a1, a2, a3, a4, a5, ⟨a6.1, by omega⟩, fun k hk => ⟨(a7 k hk).1, (a7 k hk).2.1, by have := (a7 k hk).2.2; omega⟩, a8, a9⟩
theorem CI_eq {F G : zFt} (h : CI F) (e : ∀ k j, ¬ (k = 4 ∨ k = 8 ∨ (17 ≤ k ∧ k ≤ 24 ∧ k ≠ 20) ∨ k = 26 ∨ k = 28 ∨ k = 29 ∨ k = 30 ∨ k = 32 ∨ k = 33 ∨ 75 ≤ k ∨ (k = 31 ∧ j = 3) ∨ (k = 2 ∧ (j = 8 ∨ j = 9))) → G k j = F k j) : CI G := by
  obtain ⟨h1, h2, h3, h4, h5, h6, h7, h8, h9⟩ := h
  have e7 : G 2 7 = F 2 7 := e 2 7 (by omega)
  refine ⟨?_, ?_, ?_, ?_, ?_, ?_, ?_, ?_, ?_⟩
  · simp (disch := omega) only [shOk, e]
    exact h1
  · simp (disch := omega) only [e]
    exact h2
  · simp (disch := omega) only [e]
    exact h3
  · simp (disch := omega) only [e]
    exact h4
  · simp (disch := omega) only [e]
    exact h5
  · simp (disch := omega) only [evOk, jgOk, enOk, e]
    exact h6
  · simp (disch := omega) only [e]
    exact h7
  · rw [e7]
    have l8 := vin_le1 h7
    intro s hs
    have et : tpS G (zn (F 2 7)) s = tpS F (zn (F 2 7)) s := by
      simp only [tpS]
      split
      · rw [e _ _ (by omega)]
      · rw [e _ _ (by omega)]
    rw [et]
    simp (disch := omega) only [scOk, jgOk, enOk, sJ, sE, e]
    exact h8 s hs
  · simp (disch := omega) only [unOk, bsE, e]
    exact h9
theorem CI_n {F : zFt} (h : CI F) {n : Nat} (hn : zn (F 2 7) = n + 1) : n < 8 ∧ cIn F = n ∧ F 2 7 = nI (n + 1) ∧ F 2 7 - 1 = nI n ∧ FI F (n + 1) := by
  have hF := CI_FI h
  rw [hn] at hF
  have := vin_le1 h.2.2.2.2.2.2.1
  exact ⟨by omega, (FI_in hF).1, hF.1, by rw [hF.1, nI_pred], hF⟩
theorem CI_ev {F G : zFt} {i : Nat} (h : evOk F i) (e : ∀ k j, (k = 3 ∨ k = 9 ∨ k = 10 ∨ (12 ≤ k ∧ k ≤ 16) ∧ j = i) → G k j = F k j) : evOk G i := by
  simp (disch := omega) only [evOk, jgOk, enOk, e]
  exact h
/-- the innermost scoring is dropped -/
theorem CI_dr {F : zFt} (h : CI F) {n : Nat} (hn : zn (F 2 7) = n + 1) : CI (cDr F) ∧ cDr F = zup (cKt F (F (5 * n + 35) 2)) 2 7 (nI n) ∧ okM F (F (5 * n + 35) 2) ∧ bsE (cDr F) = bsE F := by
  obtain ⟨n8, hin, -, e1, hF⟩ := CI_n h hn
  have hm := FI_beg hF
  have ed : cDr F = zup (cKt F (F (5 * n + 35) 2)) 2 7 (nI n) := by rw [cDr, cBg, hin, e1]
  rw [ed]
  have e6 : zup (cKt F (F (5 * n + 35) 2)) 2 7 (nI n) 11 6 = F (5 * n + 35) 2 := by
    rw [zup_ap, if_neg (by omega)]
    exact cKt_ev h hm
  have e7 : zup (cKt F (F (5 * n + 35) 2)) 2 7 (nI n) 2 7 = nI n := rfl
  have ez : zn (nI n) = n := zn_nI (by omega)
  have e : ∀ k j, k ≠ 11 → (k < 16 ∨ 19 < k) → ¬ (k = 2 ∧ j = 7) → zup (cKt F (F (5 * n + 35) 2)) 2 7 (nI n) k j = F k j := by
    intro k j a1 a2 a3
    rw [zup_ap, if_neg (by omega), cKt_ne F _ a1 (by omega) (by omega) (by omega) (by omega)]
  have e16 : ∀ i, i < zn (F (5 * n + 35) 2) → zup (cKt F (F (5 * n + 35) 2)) 2 7 (nI n) 16 i = F 16 i := fun i hi => by
    rw [zup_ap, if_neg (by omega)]
    exact cKt_16 hm hi
  generalize hG : zup (cKt F (F (5 * n + 35) 2)) 2 7 (nI n) = G at *
  have hbs : bsE G = bsE F := by
    rw [bsE, bsE, e7, ez, hn, if_neg (show ¬ n + 1 = 0 by omega)]
    by_cases h0 : n = 0
    · subst h0
      rw [if_pos rfl, e6]
    · rw [if_neg h0, e _ _ (by omega) (by omega) (by omega)]
  obtain ⟨h1, h2, h3, h4, h5, h6, h7, h8, h9⟩ := h
  have hl := hm.2
  refine ⟨⟨?_, ?_, ?_, ?_, ?_, ?_, ?_, ?_, ?_⟩, rfl, hm, hbs⟩
  · simp (disch := omega) only [shOk, e]
    exact h1
  · simp (disch := omega) only [e]
    exact h2
  · simp (disch := omega) only [e]
    exact h3
  · simp (disch := omega) only [e]
    exact h4
  · rw [e6, vin]
    have a := zn_int hm.1
    have b := vin_le1 h5
    have c := hm.1
    omega
  · intro i hi
    rw [e6] at hi
    refine CI_ev (h6 i (by omega)) (fun k j hk => ?_)
    by_cases hk16 : k = 16
    · subst hk16
      have : j = i := by omega
      subst this
      exact e16 _ hi
    · exact e k j (by omega) (by omega) (by omega)
  · rw [e7]
    exact vin_mk (by omega)
  · rw [e7, ez]
    intro s hs
    have hh := h8 s (by omega)
    rw [hn] at hh
    have et : tpS G n s = tpS F (n + 1) s := by
      simp only [tpS]
      rw [if_pos (show s + 1 < n + 1 by omega)]
      by_cases hl : s + 1 < n
      · rw [if_pos hl, e _ _ (by omega) (by omega) (by omega)]
      · rw [if_neg hl, e6, show s + 1 = n by omega]
    rw [et]
    simp (disch := omega) only [scOk, jgOk, enOk, sJ, sE, e]
    exact hh
  · simp only [unOk, hbs]
    simp (disch := omega) only [e]
    exact h9
/-- back to a place, some of the savepoints kept -/
theorem CI_ct {F : zFt} (h : CI F) {n : Nat} (hn : zn (F 2 7) = n + 1) {m c : Int32} (hm : okM F m) (hb : zn (F (5 * n + 35) 2) ≤ zn m) (hc : vp_in c 17) (hcl : zn c ≤ zn (F (5 * n + 35) 5)) (hk : ∀ k, k < zn c → zn (F (5 * n + 37) k) ≤ zn m) : CI (zup (cKt F m) (5 * n + 35) 5 c) ∧ bsE (zup (cKt F m) (5 * n + 35) 5 c) = bsE F := by
  obtain ⟨n8, hin, -, e1, hF⟩ := CI_n h hn
  have ht := CI_top h hn
  have e6 : zup (cKt F m) (5 * n + 35) 5 c 11 6 = m := by
    rw [zup_ap, if_neg (by omega)]
    exact cKt_ev h hm
  have e5 : zup (cKt F m) (5 * n + 35) 5 c (5 * n + 35) 5 = c := by rw [zup_ap, if_pos ⟨rfl, rfl⟩]
  have e : ∀ k j, k ≠ 11 → (k < 16 ∨ 19 < k) → ¬ (k = 5 * n + 35 ∧ j = 5) → zup (cKt F m) (5 * n + 35) 5 c k j = F k j := by
    intro k j a1 a2 a3
    rw [zup_ap, if_neg a3, cKt_ne F _ a1 (by omega) (by omega) (by omega) (by omega)]
  have e16 : ∀ i, i < zn m → zup (cKt F m) (5 * n + 35) 5 c 16 i = F 16 i := fun i hi => by
    rw [zup_ap, if_neg (by omega)]
    exact cKt_16 hm hi
  generalize hG : zup (cKt F m) (5 * n + 35) 5 c = G at *
  have e7 : G 2 7 = F 2 7 := e 2 7 (by omega) (by omega) (by omega)
  have hbs : bsE G = bsE F := by rw [bsE, bsE, e7, hn, if_neg (by omega), if_neg (by omega), e 35 2 (by omega) (by omega) (by omega)]
  obtain ⟨h1, h2, h3, h4, h5, h6, h7, h8, h9⟩ := h
  have hl := hm.2
  refine ⟨⟨?_, ?_, ?_, ?_, ?_, ?_, ?_, ?_, ?_⟩, hbs⟩
  · simp (disch := omega) only [shOk, e]
    exact h1
  · simp (disch := omega) only [e]
    exact h2
  · simp (disch := omega) only [e]
    exact h3
  · simp (disch := omega) only [e]
    exact h4
  · rw [e6, vin]
    have a := zn_int hm.1
    have b := vin_le1 h5
    have c := hm.1
    omega
  · intro i hi
    rw [e6] at hi
    refine CI_ev (h6 i (by omega)) (fun k j hk => ?_)
    by_cases hk16 : k = 16
    · subst hk16
      have : j = i := by omega
      subst this
      exact e16 _ hi
    · exact e k j (by omega) (by omega) (by omega)
  · rw [e7]
    exact h7
  · rw [e7, hn]
    intro s hs
    by_cases hsn : s = n
    · subst hsn
      simp only [tpS]
      rw [if_neg (by omega), e6]
      obtain ⟨a1, a2, a3, a4, a5, a6, a7, a8, a9⟩ := ht
      simp only [scOk, jgOk, enOk, sJ, sE, e5]
      simp (disch := omega) only [e]
      exact ⟨a1, a2, a3, hc, a5, ⟨a6.1, hb⟩, fun k hkc => ⟨(a7 k (by omega)).1, (a7 k (by omega)).2.1, hk k hkc⟩, fun a b hab hbc => a8 a b hab (by omega), fun k hkc => a9 k (by omega)⟩
    · have hh := h8 s (by omega)
      rw [hn] at hh
      have et : tpS G (n + 1) s = tpS F (n + 1) s := by
        simp only [tpS]
        rw [if_pos (show s + 1 < n + 1 by omega), if_pos (show s + 1 < n + 1 by omega), e _ _ (by omega) (by omega) (by omega)]
      rw [et]
      simp (disch := omega) only [scOk, jgOk, enOk, sJ, sE, e]
      exact hh
  · simp only [unOk, hbs]
    simp (disch := omega) only [e]
    exact h9
/-- an event comes -/
theorem CI_ap {F : zFt} (h : CI F) {n : Nat} (hn : zn (F 2 7) = n + 1) (h4 : F 11 6 < 400) {x y : Int32} (hx : x = 0 ∨ x = 1 ∨ x = 2 ∧ vp_in y 8) : CI (cAe F x y) ∧ bsE (cAe F x y) = bsE F ∧ zn (cAe F x y 11 6) = zn (F 11 6) + 1 := by
  obtain ⟨n8, hin, -, e1, hF⟩ := CI_n h hn
  have ht := CI_top h hn
  obtain ⟨l4, v4, p4⟩ := ev_400 h.2.2.2.2.1 h4
  have e6 : cAe F x y 11 6 = nI (zn (F 11 6) + 1) := by rw [cAe_ev, p4]
  have z6 : zn (cAe F x y 11 6) = zn (F 11 6) + 1 := by rw [e6, zn_nI (by omega)]
  have e : ∀ k j, k ≠ 11 → (k < 16 ∨ 19 < k) → (12 ≤ k ∧ k ≤ 15 → j ≠ zn (F 11 6)) → cAe F x y k j = F k j := fun k j a1 a2 a3 => cAe_ne F x y a1 (by omega) (by omega) (by omega) (by omega) j (fun q => a3 (by omega))
  have ne := cAp_new F x (sJ F (cIn F)) (sE F (cIn F)) y
  have n12 : ∀ k, k = 12 ∨ k = 13 ∨ k = 14 ∨ k = 15 → cAe F x y k (zn (F 11 6)) = cAp0 F x (sJ F (cIn F)) (sE F (cIn F)) y k (zn (F 11 6)) := fun k hk => cSc_ne _ _ _ (by omega) (by omega) (by omega) (by omega) _
  have n16 : cAe F x y 16 (zn (F 11 6)) = 1 := cSc_at _ _ _
  have e16 : ∀ i, i ≠ zn (F 11 6) → cAe F x y 16 i = F 16 i := fun i hi => by
    rw [cAe, cSc_16 _ _ _ _ hi]
    simp only [cAp0, zup_ap]
    rw [if_neg (by omega), if_neg (by omega), if_neg (by omega), if_neg (by omega), if_neg (by omega), if_neg (by omega)]
  generalize hG : cAe F x y = G at *
  have e7 : G 2 7 = F 2 7 := e 2 7 (by omega) (by omega) (by omega)
  have hbs : bsE G = bsE F := by rw [bsE, bsE, e7, hn, if_neg (by omega), if_neg (by omega), e 35 2 (by omega) (by omega) (by omega)]
  obtain ⟨h1, h2, h3, h4, h5, h6, h7, h8, h9⟩ := h
  refine ⟨⟨?_, ?_, ?_, ?_, ?_, ?_, ?_, ?_, ?_⟩, hbs, z6⟩
  · simp (disch := omega) only [shOk, e]
    exact h1
  · simp (disch := omega) only [e]
    exact h2
  · simp (disch := omega) only [e]
    exact h3
  · simp (disch := omega) only [e]
    exact h4
  · rw [e6]
    exact vin_mk (by omega)
  · intro i hi
    rw [z6] at hi
    by_cases hie : i = zn (F 11 6)
    · subst hie
      simp only [evOk, jgOk, enOk, n16]
      simp (disch := omega) only [n12]
      rw [ne.1, ne.2.1, ne.2.2.1, ne.2.2.2.1, hin]
      simp (disch := omega) only [e]
      exact ⟨ht.1, ht.2.1, ht.2.2.1, by rcases hx with q | q | q <;> simp [q], fun q2 => by
        rcases hx with q | q | q
        · rw [q] at q2; exact absurd q2 (by decide)
        · rw [q] at q2; exact absurd q2 (by decide)
        · exact q.2, Or.inr trivial⟩
    · refine CI_ev (h6 i (by omega)) (fun k j hk => ?_)
      by_cases hk16 : k = 16
      · subst hk16
        exact e16 _ (by omega)
      · exact e k j (by omega) (by omega) (by omega)
  · rw [e7]
    exact h7
  · rw [e7, hn]
    intro s hs
    have hh := h8 s (by omega)
    rw [hn] at hh
    have et : tpS F (n + 1) s ≤ tpS G (n + 1) s := by
      simp only [tpS]
      split
      · rw [e _ _ (by omega) (by omega) (by omega)]
        exact Nat.le_refl _
      · rw [z6]
        omega
    have h2 := sc_le hh et
    simp (disch := omega) only [scOk, jgOk, enOk, sJ, sE, e]
    exact h2
  · simp only [unOk, hbs]
    simp (disch := omega) only [e]
    exact h9
