/-! an event comes -/
theorem cAe_ne (F : zFt) (x y : Int32) {k : Nat} (h1 : k ≠ 11) (h2 : k ≠ 16) (h3 : k ≠ 17) (h4 : k ≠ 18) (h5 : k ≠ 19) (j : Nat) (h6 : k = 12 ∨ k = 13 ∨ k = 14 ∨ k = 15 → j ≠ zn (F 11 6)) : cAe F x y k j = F k j := by
  rw [cAe, cSc_ne _ _ _ h2 h3 h4 h5]
  simp only [cAp0, zup_ap]
  rw [if_neg (by omega), if_neg (by omega), if_neg (by omega), if_neg (by omega), if_neg (by omega), if_neg (by omega)]
theorem cAe_ev (F : zFt) (x y : Int32) : cAe F x y 11 6 = F 11 6 + 1 := by
  rw [cAe, cSc_ne _ _ _ (by decide) (by decide) (by decide) (by decide)]
  simp only [cAp0, zup_ap, and_self, if_true]
theorem cAp_new (F : zFt) (x j e y : Int32) : cAp0 F x j e y 12 (zn (F 11 6)) = x ∧ cAp0 F x j e y 13 (zn (F 11 6)) = j ∧ cAp0 F x j e y 14 (zn (F 11 6)) = e ∧ cAp0 F x j e y 15 (zn (F 11 6)) = y ∧ cAp0 F x j e y 16 (zn (F 11 6)) = 0 ∧ ∀ k i, k ≠ 11 → k ≠ 12 → k ≠ 13 → k ≠ 14 → k ≠ 15 → k ≠ 16 → cAp0 F x j e y k i = F k i := by
  refine ⟨by simp [cAp0, zup_ap], by simp [cAp0, zup_ap], by simp [cAp0, zup_ap], by simp [cAp0, zup_ap], by simp [cAp0, zup_ap], fun k i a1 a2 a3 a4 a5 a6 => ?_⟩
  simp only [cAp0, zup_ap]
  rw [if_neg (by omega), if_neg (by omega), if_neg (by omega), if_neg (by omega), if_neg (by omega), if_neg (by omega)]
theorem okE_new {F : zFt} (h : shOk F) {x j e y : Int32} (hj : jgOk F j) (he : enOk F e) (hx : x = 0 ∨ x = 1 ∨ x = 2 ∧ vp_in y 8) : okE (cAp0 F x j e y) (zn (F 11 6)) := by
  obtain ⟨a1, a2, a3, a4, a5, a6⟩ := cAp_new F x j e y
  simp only [okE, cMi, a1, a2, a3, a4, a6 9 _ (by decide) (by decide) (by decide) (by decide) (by decide) (by decide), a6 5 _ (by decide) (by decide) (by decide) (by decide) (by decide) (by decide)]
  refine ⟨sh_en h he, fun _ => ⟨sh_jg h hj, sh_jc h hj, sh_mx h he hj⟩, fun q1 q2 => ?_⟩
  rcases hx with q | q | ⟨q, hy⟩
  · exact absurd q q1
  · exact absurd q q2
  · obtain ⟨a, ha, ea⟩ := vin_of (sh_en h he)
    obtain ⟨b, hb, eb⟩ := vin_of hy
    rw [ea, eb, nI_m8, nI_add]
    exact vin_mk (by omega)
theorem ev_400 {F : zFt} (h : vp_in (F 11 6) 401) (h4 : F 11 6 < 400) : zn (F 11 6) < 400 ∧ vp_in (F 11 6) 400 ∧ F 11 6 + 1 = nI (zn (F 11 6) + 1) := by
  have e := vin_nI h
  have h1 : vp_in (F 11 6) 400 := by
    rw [Int32.lt_iff_toInt_lt] at h4
    simp at h4
    have := vin_0 h
    rw [vin]
    omega
  refine ⟨vin_zn h1, h1, ?_⟩
  rw [← nI_1, e]
theorem cSc_16 (F : zFt) (i : Nat) (b : Int32) (j : Nat) (hj : j ≠ i) : cSc F i b 16 j = F 16 j := by
  unfold cSc
  split
  · rfl
  · split
    · simp [zup_ap, hj]
    · split
      · simp [zup_ap, hj]
      · simp [zup_ap, hj]
theorem FI_app {F : zFt} (h : CI F) {n : Nat} (hn : zn (F 2 7) = n + 1) (h4 : F 11 6 < 400) {x y : Int32} (hx : x = 0 ∨ x = 1 ∨ x = 2 ∧ vp_in y 8) : FI (cAe F x y) (n + 1) ∧ okE (cAp0 F x (sJ F (cIn F)) (sE F (cIn F)) y) (zn (F 11 6)) := by
  have hF := CI_FI h
  rw [hn] at hF
  have hi := FI_in hF
  have h7 := h.2.2.2.2.2.2.2.1 n (by omega)
  have hev := ev_400 h.2.2.2.2.1 h4
  have hE := okE_new h.1 (x := x) (y := y) (j := sJ F (cIn F)) (e := sE F (cIn F)) (by rw [hi.1]; exact h7.1) (by rw [hi.1]; exact h7.2.1) hx
  refine ⟨?_, hE⟩
  obtain ⟨g1, g2, g3, g4, g5, g6⟩ := hF
  have e : ∀ k j, k ≠ 11 → k ≠ 12 → k ≠ 13 → k ≠ 14 → k ≠ 15 → k ≠ 16 → k ≠ 17 → k ≠ 18 → k ≠ 19 → cAe F x y k j = F k j := fun k j a1 a2 a3 a4 a5 a6 a7 a8 a9 => cAe_ne F x y a1 a6 a7 a8 a9 j (by omega)
  have ev : cAe F x y 11 6 = nI (zn (F 11 6) + 1) := by rw [cAe_ev, hev.2.2]
  have ez : zn (nI (zn (F 11 6) + 1)) = zn (F 11 6) + 1 := zn_nI (by omega)
  simp only [FI, okV, tpS, ev, ez]
  refine ⟨by simp (disch := omega) only [e]; exact g1, g2, ⟨by rw [nI_int (by omega)]; omega, by omega, fun i hi2 => ?_⟩, by simp (disch := omega) only [e]; exact g4, by simp (disch := omega) only [e]; exact g5, fun s hs => ?_⟩
  · by_cases hie : i = zn (F 11 6)
    · subst hie
      exact okE_eq hE (fun k j hk => by
        rw [cAe, cSc_ne _ _ _ (by omega) (by omega) (by omega) (by omega)])
    · refine ⟨?_, fun q => ?_, fun q1 q2 => ?_⟩
      all_goals
        have ho := g3.2.2 i (by omega)
        have b12 : cAe F x y 12 i = F 12 i := cAe_ne F x y (by decide) (by decide) (by decide) (by decide) (by decide) i (fun _ => hie)
        have b13 : cAe F x y 13 i = F 13 i := cAe_ne F x y (by decide) (by decide) (by decide) (by decide) (by decide) i (fun _ => hie)
        have b14 : cAe F x y 14 i = F 14 i := cAe_ne F x y (by decide) (by decide) (by decide) (by decide) (by decide) i (fun _ => hie)
        have b15 : cAe F x y 15 i = F 15 i := cAe_ne F x y (by decide) (by decide) (by decide) (by decide) (by decide) i (fun _ => hie)
        simp (disch := omega) only [cMi, b13, b14, b15, e]
      · exact ho.1
      · exact ho.2.1 (by rw [← b12]; exact q)
      · exact ho.2.2 (by rw [← b12]; exact q1) (by rw [← b12]; exact q2)
  · have h8 := g6 s hs
    simp (disch := omega) only [okT, okS, cMi, cSe, sJ, sE, e]
    simp only [okT, okS, cMi, cSe, sJ, sE, tpS] at h8
    obtain ⟨q1, q2, q3, q4, q5⟩ := h8
    by_cases hl : s + 1 < n + 1
    · simp only [if_pos hl] at q4 q5 ⊢
      exact ⟨q1, q2, q3, q4, q5⟩
    · simp only [if_neg hl] at q4 q5 ⊢
      exact ⟨q1, q2, q3, ⟨q4.1, by omega⟩, fun k hk => ⟨(q5 k hk).1, by have := (q5 k hk).2; omega⟩⟩
theorem cRf_0 {F : zFt} (h : cRf F = 0) : ¬ F 2 7 = 0 ∧ F 11 6 < 400 := by
  unfold cRf at h
  split at h
  · rename_i h1
    split at h
    · rename_i h2
      exact ⟨h1, h2⟩
    · exact absurd h (by decide)
  · exact absurd h (by decide)
/-! savepoints move -/
theorem cRm_val (F : zFt) (s p : Nat) (d : Nat) (hd : d = 36 ∨ d = 37) : ∀ a k, cRm F s p a (5 * s + d) k = if p ≤ k ∧ k < p + a then F (5 * s + d) (k + 1) else F (5 * s + d) k
  | 0, k => by rw [if_neg (by omega)]; rfl
  | a + 1, k => by
    have ih := fun k => cRm_val F s p d hd a k
    rcases hd with rfl | rfl
    · rw [cRm, zup_ap, if_neg (by omega), zup_ap]
      by_cases hk : k = p + a
      · subst hk
        rw [if_pos ⟨rfl, rfl⟩, ih, if_neg (by omega), if_pos (by omega)]
      · rw [if_neg (by omega), ih]
        by_cases hq : p ≤ k ∧ k < p + a
        · rw [if_pos hq, if_pos (by omega)]
        · rw [if_neg hq, if_neg (by omega)]
    · rw [cRm, zup_ap]
      by_cases hk : k = p + a
      · subst hk
        rw [if_pos ⟨rfl, rfl⟩, ih, if_neg (by omega), if_pos (by omega)]
      · rw [if_neg (by omega), zup_ap, if_neg (by omega), ih]
        by_cases hq : p ≤ k ∧ k < p + a
        · rw [if_pos hq, if_pos (by omega)]
        · rw [if_neg hq, if_neg (by omega)]
/-- different numbers below m: there are at most m of them -/
theorem pigeon : ∀ (m n : Nat) (f : Nat → Nat), (∀ i, i < n → f i < m) → (∀ a b, a < b → b < n → f a ≠ f b) → n ≤ m
  | 0, n, f, h, _ => by
    rcases Nat.eq_zero_or_pos n with z | z
    · omega
    · have := h 0 z
      omega
  | m + 1, n, f, h, hd => by
    by_cases hx : ∃ i, i < n ∧ f i = m
    · obtain ⟨i, hi, hm⟩ := hx
      have h1 : n - 1 ≤ m := pigeon m (n - 1) (fun k => if k < i then f k else f (k + 1)) (fun k hk => by
        show (if k < i then f k else f (k + 1)) < m
        split
        · have a := h k (by omega)
          have b := hd k i (by omega) hi
          omega
        · have a := h (k + 1) (by omega)
          have b := hd i (k + 1) (by omega) (by omega)
          omega) (fun a b hab hb => by
        show (if a < i then f a else f (a + 1)) ≠ (if b < i then f b else f (b + 1))
        split
        · split
          · exact hd a b hab (by omega)
          · exact hd a (b + 1) (by omega) (by omega)
        · rw [if_neg (by omega)]
          exact hd (a + 1) (b + 1) (by omega) (by omega))
      omega
    · have := pigeon m n f (fun i hi => by
        have a := h i hi
        have b : f i ≠ m := fun q => hx ⟨i, hi, q⟩
        omega) hd
      omega
theorem zfi_no (f : Nat → Int32) (x : Int32) : ∀ (n a : Nat), a + n < 2147483648 → zfi f x n a < 0 → ∀ i, a ≤ i → i < a + n → f i ≠ x
  | 0, a, _, _, i, h1, h2 => by omega
  | n + 1, a, hn, h, i, h1, h2 => by
    by_cases hx : f a = x
    · rw [zfi, if_pos hx] at h
      exact absurd h (nI_pos (by omega))
    · rw [zfi, if_neg hx] at h
      by_cases hi : i = a
      · rw [hi]; exact hx
      · exact zfi_no f x n (a + 1) (by omega) h i (by omega) (by omega)
theorem zfi_at (f : Nat → Int32) (x : Int32) : ∀ (n a : Nat), a + n < 2147483648 → ¬ zfi f x n a < 0 → f (zn (zfi f x n a)) = x
  | 0, a, _, h => absurd (by rw [zfi]; decide) h
  | n + 1, a, hn, h => by
    by_cases hx : f a = x
    · rw [zfi, if_pos hx, zn_nI (by omega)]
      exact hx
    · rw [zfi, if_neg hx] at h ⊢
      exact zfi_at f x n (a + 1) (by omega) h
