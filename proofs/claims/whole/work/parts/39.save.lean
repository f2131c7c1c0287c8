/-- only the innermost scoring's rows change -/
theorem CI_sc {F G : zFt} {s : Nat} (h : CI F) (hs : zn (F 2 7) = s + 1) (e : ∀ k j, (k < 5 * s + 35 ∨ 5 * s + 39 < k) → G k j = F k j) (e2 : G (5 * s + 35) 2 = F (5 * s + 35) 2) (hsc : scOk G s (zn (F 11 6))) : CI G := by
  obtain ⟨h1, h2, h3, h4, h5, h6, h7, h8, h9⟩ := h
  have e35 : G 35 2 = F 35 2 := by
    rcases Nat.eq_zero_or_pos s with z | z
    · subst z
      exact e2
    · exact e 35 2 (Or.inl (by omega))
  have es : ∀ j, G 3 j = F 3 j := fun j => e 3 j (Or.inl (by omega))
  refine ⟨?_, ?_, ?_, ?_, ?_, ?_, ?_, ?_, ?_⟩
  · simp (disch := omega) only [shOk, e]
    exact h1
  · simp (disch := omega) only [e]
    exact h2
  · simp (disch := omega) only [e]
    exact h3
  · simp (disch := omega) only [e]
    exact h4
  · simp (disch := omega) only [e]
    exact h5
  · simp (disch := omega) only [evOk, jgOk, enOk, e]
    exact h6
  · simp (disch := omega) only [e]
    exact h7
  · intro q hq
    rw [e 2 7 (Or.inl (by omega)), hs] at hq ⊢
    by_cases hqs : q = s
    · subst hqs
      simp (disch := omega) only [tpS, e]
      rw [if_neg (by omega)]
      exact hsc
    · have h := h8 q (by omega)
      rw [hs] at h
      have et : tpS G (s + 1) q = tpS F (s + 1) q := by
        simp only [tpS]
        rw [if_pos (by omega), if_pos (by omega)]
        by_cases hq1 : q + 1 = s
        · rw [hq1, e2]
        · rw [e _ _ (Or.inl (by omega))]
      rw [et]
      simp (disch := omega) only [scOk, jgOk, enOk, sJ, sE, e]
      exact h
  · simp (disch := omega) only [unOk, bsE, e, e35]
    exact h9
theorem CI_top {F : zFt} (h : CI F) {n : Nat} (hn : zn (F 2 7) = n + 1) : scOk F n (zn (F 11 6)) := by
  have h7 := h.2.2.2.2.2.2.2.1 n (by omega)
  rw [hn] at h7
  simp only [tpS, if_neg (show ¬ n + 1 < n + 1 by omega)] at h7
  exact h7
theorem cAs0_cnt {F : zFt} {s t : Nat} {x : Int32} (h : scOk F s t) (hx : vp_in x 16) : ∃ c, c < 16 ∧ cAs0 F s x (5 * s + 35) 5 = nI c ∧ (∀ k, k < c → (∃ q, q < zn (F (5 * s + 35) 5) ∧ cAs0 F s x (5 * s + 36) k = F (5 * s + 36) q ∧ cAs0 F s x (5 * s + 37) k = F (5 * s + 37) q ∧ F (5 * s + 36) q ≠ x)) ∧ (∀ a b, a < b → b < c → cAs0 F s x (5 * s + 36) a ≠ cAs0 F s x (5 * s + 36) b) ∧ (∀ k j, (k < 5 * s + 35 ∨ 5 * s + 37 < k) → cAs0 F s x k j = F k j) ∧ ∀ j, j ≠ 5 → cAs0 F s x (5 * s + 35) j = F (5 * s + 35) j := by
  obtain ⟨a1, a2, a3, a4, a5, a6, a7, a8, a9⟩ := h
  have hc := vin_le1 a4
  have ec := vin_nI a4
  by_cases hi : cIx F s x < 0
  · have hno := zfi_no (fun i => F (5 * s + 36) i) x (zn (F (5 * s + 35) 5)) 0 (by omega) hi
    have e0 : cAs0 F s x = F := by rw [cAs0, if_pos hi]
    rw [e0]
    have hp : zn (F (5 * s + 35) 5) + 1 ≤ 16 := pigeon 16 (zn (F (5 * s + 35) 5) + 1) (fun k => if k < zn (F (5 * s + 35) 5) then zn (F (5 * s + 36) k) else zn x) (fun k hk => by
      show (if k < zn (F (5 * s + 35) 5) then zn (F (5 * s + 36) k) else zn x) < 16
      split
      · rename_i hk2
        exact vin_zn (a7 k hk2).1
      · exact vin_zn hx) (fun a b hab hb => by
      show (if a < zn (F (5 * s + 35) 5) then zn (F (5 * s + 36) a) else zn x) ≠ (if b < zn (F (5 * s + 35) 5) then zn (F (5 * s + 36) b) else zn x)
      rw [if_pos (by omega)]
      split
      · rename_i hb2
        intro q
        exact a8 a b hab hb2 (by rw [← vin_nI (a7 a (by omega)).1, ← vin_nI (a7 b hb2).1, q])
      · intro q
        exact hno a (by omega) (by omega) (by show F (5 * s + 36) a = x; rw [← vin_nI (a7 a (by omega)).1, ← vin_nI hx, q]))
    exact ⟨zn (F (5 * s + 35) 5), by omega, ec.symm, fun k hk => ⟨k, hk, rfl, rfl, hno k (by omega) (by omega)⟩, a8, fun k j _ => rfl, fun j _ => rfl⟩
  · have hlt := zfi_lt (fun i => F (5 * s + 36) i) x (zn (F (5 * s + 35) 5)) 0 (by omega) hi
    have hat : F (5 * s + 36) (zn (cIx F s x)) = x := zfi_at (fun i => F (5 * s + 36) i) x (zn (F (5 * s + 35) 5)) 0 (by omega) hi
    rw [Nat.zero_add] at hlt
    have hlt2 : zn (cIx F s x) < zn (F (5 * s + 35) 5) := hlt.2
    have e0 : cAs0 F s x = zup (cRm F s (zn (cIx F s x)) (zn (F (5 * s + 35) 5) - zn (cIx F s x) - 1)) (5 * s + 35) 5 (F (5 * s + 35) 5 - 1) := by rw [cAs0, if_neg hi]
    generalize zn (cIx F s x) = p at *
    have v36 : ∀ k, cAs0 F s x (5 * s + 36) k = if p ≤ k ∧ k < p + (zn (F (5 * s + 35) 5) - p - 1) then F (5 * s + 36) (k + 1) else F (5 * s + 36) k := by
      intro k
      rw [e0, zup_ap, if_neg (by omega), cRm_val F s p 36 (Or.inl rfl)]
    have v37 : ∀ k, cAs0 F s x (5 * s + 37) k = if p ≤ k ∧ k < p + (zn (F (5 * s + 35) 5) - p - 1) then F (5 * s + 37) (k + 1) else F (5 * s + 37) k := by
      intro k
      rw [e0, zup_ap, if_neg (by omega), cRm_val F s p 37 (Or.inr rfl)]
    refine ⟨zn (F (5 * s + 35) 5) - 1, by omega, ?_, fun k hk => ?_, fun a b hab hb => ?_, fun k j hk => ?_, fun j hj => ?_⟩
    · rw [e0, zup_ap, if_pos ⟨rfl, rfl⟩]
      generalize F (5 * s + 35) 5 = c at *
      rw [← ec, nI_s1 (by omega), ec]
    · by_cases hpk : p ≤ k
      · refine ⟨k + 1, by omega, by rw [v36, if_pos (by omega)], by rw [v37, if_pos (by omega)], fun q => ?_⟩
        exact a8 p (k + 1) (by omega) (by omega) (by rw [hat, q])
      · refine ⟨k, by omega, by rw [v36, if_neg (by omega)], by rw [v37, if_neg (by omega)], fun q => ?_⟩
        exact a8 k p (by omega) (by omega) (by rw [hat, q])
    · rw [v36, v36]
      by_cases hpa : p ≤ a
      · rw [if_pos (by omega), if_pos (by omega)]
        exact a8 _ _ (by omega) (by omega)
      · rw [if_neg (by omega)]
        by_cases hpb : p ≤ b
        · rw [if_pos (by omega)]
          exact a8 _ _ (by omega) (by omega)
        · rw [if_neg (by omega)]
          exact a8 _ _ (by omega) (by omega)
    · rw [e0, zup_ap, if_neg (by omega), cRm_ne F s p (by omega) (by omega)]
    · rw [e0, zup_ap, if_neg (by omega), cRm_ne F s p (by omega) (by omega)]
theorem cAs_ok {F : zFt} {s t : Nat} {x v : Int32} (h : scOk F s t) (hx : vp_in x 16) (hv : 0 ≤ v.toInt) (hvt : zn v ≤ t) (hvb : zn (F (5 * s + 35) 2) ≤ zn v) : vp_in (cAs0 F s x (5 * s + 35) 5) 16 ∧ scOk (cAs F s x v) s t ∧ (∀ k j, (k < 5 * s + 35 ∨ 5 * s + 37 < k) → cAs F s x v k j = F k j) ∧ ∀ j, j ≠ 5 → cAs F s x v (5 * s + 35) j = F (5 * s + 35) j := by
  obtain ⟨c, hc, ec, hold, hd, hne, h35⟩ := cAs0_cnt h hx
  obtain ⟨a1, a2, a3, a4, a5, a6, a7, a8, a9⟩ := h
  have ez : zn (nI c) = c := zn_nI (by omega)
  have f36 : ∀ k, cAs F s x v (5 * s + 36) k = if k = c then x else cAs0 F s x (5 * s + 36) k := by
    intro k
    rw [cAs, ec, ez, zup_ap, if_neg (by omega), zup_ap, if_neg (by omega), zup_ap]
    by_cases hk : k = c
    · rw [if_pos ⟨rfl, hk⟩, if_pos hk]
    · rw [if_neg (by omega), if_neg hk]
  have f37 : ∀ k, cAs F s x v (5 * s + 37) k = if k = c then v else cAs0 F s x (5 * s + 37) k := by
    intro k
    rw [cAs, ec, ez, zup_ap, if_neg (by omega), zup_ap]
    by_cases hk : k = c
    · rw [if_pos ⟨rfl, hk⟩, if_pos hk]
    · rw [if_neg (by omega), if_neg hk, zup_ap, if_neg (by omega)]
  have f5 : cAs F s x v (5 * s + 35) 5 = nI (c + 1) := by
    rw [cAs, ec, zup_ap, if_pos ⟨rfl, rfl⟩, nI_1]
  have fn : ∀ k j, (k < 5 * s + 35 ∨ 5 * s + 37 < k) → cAs F s x v k j = F k j := by
    intro k j hk
    rw [cAs, zup_ap, if_neg (by omega), zup_ap, if_neg (by omega), zup_ap, if_neg (by omega), hne k j hk]
  have f35 : ∀ j, j ≠ 5 → cAs F s x v (5 * s + 35) j = F (5 * s + 35) j := by
    intro j hj
    rw [cAs, zup_ap, if_neg (by omega), zup_ap, if_neg (by omega), zup_ap, if_neg (by omega), h35 j hj]
  have ez1 : zn (nI (c + 1)) = c + 1 := zn_nI (by omega)
  refine ⟨by rw [ec]; exact vin_mk hc, ?_, fn, f35⟩
  simp only [scOk, jgOk, enOk, sJ, sE, f35 0 (by decide), f35 1 (by decide), f35 2 (by decide), f35 8 (by decide), f5, ez1, fn 3 8 (Or.inl (by omega)), fn 3 9 (Or.inl (by omega)), fn 9 _ (Or.inl (by omega)), fn 10 _ (Or.inl (by omega))]
  refine ⟨a1, a2, a3, vin_mk (by omega), a5, a6, fun k hk => ?_, fun a b hab hb => ?_, fun k hk => ?_⟩
  · rw [f36, f37]
    by_cases hkc : k = c
    · rw [if_pos hkc, if_pos hkc]
      exact ⟨hx, hv, hvt⟩
    · rw [if_neg hkc, if_neg hkc]
      obtain ⟨q, hq, e1, e2, -⟩ := hold k (by omega)
      rw [e1, e2]
      exact a7 q hq
  · rw [f36, f36, if_neg (by omega)]
    by_cases hbc : b = c
    · rw [if_pos hbc]
      obtain ⟨q, hq, e1, e2, e3⟩ := hold a (by omega)
      rw [e1]
      exact e3
    · rw [if_neg hbc]
      exact hd a b hab (by omega)
  · rw [f37]
    by_cases hkc : k = c
    · rw [if_pos hkc]
      exact hvb
    · rw [if_neg hkc]
      obtain ⟨q, hq, e1, e2, -⟩ := hold k (by omega)
      rw [e2]
      exact a9 q hq
theorem CI_save {F : zFt} (h : CI F) {n : Nat} (hn : zn (F 2 7) = n + 1) {x : Int32} (hx : vp_in x 16) : CI (cAs F n x (F 11 6)) ∧ vp_in (cAs0 F n x (5 * n + 35) 5) 16 ∧ zn (cAs F n x (F 11 6) 2 7) = n + 1 := by
  have ht := CI_top h hn
  obtain ⟨g1, g2, g3, g4⟩ := cAs_ok ht hx (vin_0 h.2.2.2.2.1) (Nat.le_refl _) ht.2.2.2.2.2.1.2
  exact ⟨CI_sc h hn (fun k j hk => g3 k j (by omega)) (g4 2 (by decide)) g2, g1, by rw [g3 2 7 (Or.inl (by omega))]; exact hn⟩
