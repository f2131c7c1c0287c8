/-! a failure on its way, on both sides -/
theorem cNo_x {x : Int32} {m : Nat} (h0 : 0 ≤ x.toInt) (h : x.toInt + (m + 1 : Nat) ≤ 2000000000) : cNo x (x + 1) = !decide (200 ≤ x) := by
  have e := in1 h0 h
  have e1 : (x + 1).toInt = x.toInt + 1 := by
    rw [tI_add]
    simp
    omega
  have a1 : ¬ x < 0 := by rw [zlt0]; omega
  have a2 : ¬ x + 1 ≤ x := by rw [Int32.le_iff_toInt_le]; omega
  simp [cNo, a1, a2]
theorem cAd_n (F : zFt) (a b c u v w : Int32) : cAd F a b c u v w 29 1 = F 29 1 + 1 := by
  unfold cAd
  split
  · rfl
  · rfl
theorem RI_no {F G : zFt} {m : Nat} (h : RI F G (m + 1)) (a b c u : Int32) : RI (cAd F a b c u (F 2 7) (F 11 6)) (nNo G a b c u) m := by
  obtain ⟨a1, a2, a3, a4, a5, a6, a7, a8, a9, b1, b2, b3, b4, b5, b6⟩ := h
  have eF : ∀ k j, k ≠ 29 → k ≠ 30 → cAd F a b c u (F 2 7) (F 11 6) k j = F k j := fun k j p q => cAd_ne F a b c u _ _ p q j
  have eG : ∀ k j, k ≠ 106 → ¬ (k = 75 ∧ j = 38) → nNo G a b c u k j = G k j := fun k j p q => nNo_ne G a b c u p q
  have hno := cNo_x b6.1 b6.2
  refine ⟨CI_eq a1 (fun k j q => eF k j (by omega) (by omega)), mA_eq a2 (fun k j q => eF k j (by omega) (by omega)) (fun k j q => eG k j (by omega) (by omega)), mB_eq a3 (fun k j q => eF k j (by omega) (by omega)) (fun k j q => eG k j (by omega) (by omega)), mC_eq a4 (fun k j q => eF k j (by omega) (by omega)) (fun k j q => eG k j (by omega) (by omega)), mD_eq a5 (fun k j q => eF k j (by omega) (by omega)) (fun k j q => eG k j (by omega) (by omega)), mE_eq a6 (fun k j q => eF k j (by omega) (by omega)) (fun k j q => eG k j (by omega) (by omega)), ?_, mH_eq a8 (fun j q => eF 2 j (by omega) (by omega)) (fun j q => eG 75 j (by omega) (by omega)), ?_, mS_eq b1 (fun k j q => eF k j (by omega) (by omega)), mV_eq b2 (eF 11 6 (by omega) (by omega)) (fun j q => eF 15 j (by omega) (by omega)), mM_eq b3 (fun k j q => eF k j (by omega) (by omega)) (vin_le1 a1.2.2.2.2.2.2.1), mK_eq b4 (fun k j q => eF k j (by omega) (by omega)), mZ_eq b5 (fun k j q => eG k j (by omega) (by omega)), ?_⟩
  · refine ⟨by rw [cAd_n, nNo_n, a7.1], fun j => ?_⟩
    unfold cAd nNo
    rw [hno, a7.1]
    by_cases hx : 200 ≤ F 29 1
    · rw [if_pos hx, if_pos (by simp [hx]), zup_ap, if_neg (by omega), zup_ap, if_neg (by omega)]
      exact a7.2 j
    · rw [if_neg hx, if_neg (by simp [hx]), Int32.mul_comm 6 (F 29 1), a6.1, a5.1]
      simp only [zup_ap, Nat.reduceEqDiff, false_and, true_and, ↓reduceIte, a7.2 j]
  · refine mU_eq a9 a1.2.2.2.2.2.2.2.2 ⟨eF 2 10 (by omega) (by omega), eF 2 11 (by omega) (by omega), eF 2 12 (by omega) (by omega)⟩ ?_ (fun i q => ⟨eF 16 i (by omega) (by omega), eF 14 i (by omega) (by omega)⟩) (fun q => eF 10 _ (by omega) (by omega)) (fun q => eF 7 _ (by omega) (by omega)) (fun k j q => eG k j (by omega) (by omega))
    rw [bsE, bsE, eF 2 7 (by omega) (by omega), eF 11 6 (by omega) (by omega), eF 35 2 (by omega) (by omega)]
  · rw [mN, cAd_n]
    exact in1 b6.1 b6.2
theorem RI_sp {F G : zFt} {m n : Nat} (hn : zn (F 2 7) = n + 1) (q : Int32) : ∀ a, a ≤ zn (F 25 3) → RI F G (m + a) → RI (cSp F n q a) (nSp G q a) m
  | 0, _, h => h
  | a + 1, ha, h => by
    have ih := RI_sp (m := m + 1) hn q a (by omega) (by rw [show m + 1 + a = m + (a + 1) by omega]; exact h)
    have e7 : cSp F n q a 2 7 = F 2 7 := cSp_ne F n q (by decide) (by decide) 7 a
    have e25 : cSp F n q a 25 3 = F 25 3 := cSp_ne F n q (by decide) (by decide) 3 a
    have ih2 := ih
    obtain ⟨a1, a2, a3, a4, a5, a6, a7, a8, a9, b1, b2, b3, b4, b5, b6⟩ := ih2
    have hh := ho_eq a1 a2 a3 a5 a6 b1 b2 b4 (n := n) (by rw [e7]; exact hn) (r := a) (by rw [e25]; omega)
    rw [cSp, nSp, (a3.2 a).1, hh, (a3.2 a).2.1]
    split
    · exact RI_le ih (by omega)
    · split
      · exact RI_le ih (by omega)
      · exact RI_no ih _ _ _ _
/-- kinds -/
theorem ik_eq : ∀ c : Nat, c < 12 → ∀ b : Int32, zik b 3 (nI c) = decide (nIk b 2 (nI c) = b) := by
  intro c hc b
  rcases (show c = 0 ∨ c = 1 ∨ c = 2 ∨ c = 3 ∨ c = 4 ∨ c = 5 ∨ c = 6 ∨ c = 7 ∨ c = 8 ∨ c = 9 ∨ c = 10 ∨ c = 11 by omega) with q | q | q | q | q | q | q | q | q | q | q | q <;> subst q
  · show (if (0 : Int32) = b then true else if (0 : Int32) = b then true else if (0 : Int32) = b then true else false) = decide ((if (0 : Int32) = b then (0 : Int32) else 0) = b)
    by_cases h : (0 : Int32) = b <;> simp [h]
  · show (if (1 : Int32) = b then true else if (0 : Int32) = b then true else if (0 : Int32) = b then true else false) = decide ((if (1 : Int32) = b then (1 : Int32) else if (0 : Int32) = b then 0 else 0) = b)
    by_cases h1 : (1 : Int32) = b <;> by_cases h : (0 : Int32) = b <;> simp [h1, h]
  · show (if (2 : Int32) = b then true else if (1 : Int32) = b then true else if (0 : Int32) = b then true else false) = decide ((if (2 : Int32) = b then (2 : Int32) else if (1 : Int32) = b then 1 else 0) = b)
    by_cases h2 : (2 : Int32) = b <;> by_cases h1 : (1 : Int32) = b <;> by_cases h : (0 : Int32) = b <;> simp [h2, h1, h]
  · show (if (3 : Int32) = b then true else if (1 : Int32) = b then true else if (0 : Int32) = b then true else false) = decide ((if (3 : Int32) = b then (3 : Int32) else if (1 : Int32) = b then 1 else 0) = b)
    by_cases h2 : (3 : Int32) = b <;> by_cases h1 : (1 : Int32) = b <;> by_cases h : (0 : Int32) = b <;> simp [h2, h1, h]
  · show (if (4 : Int32) = b then true else if (0 : Int32) = b then true else if (0 : Int32) = b then true else false) = decide ((if (4 : Int32) = b then (4 : Int32) else if (0 : Int32) = b then 0 else 0) = b)
    by_cases h1 : (4 : Int32) = b <;> by_cases h : (0 : Int32) = b <;> simp [h1, h]
  · show (if (5 : Int32) = b then true else if (4 : Int32) = b then true else if (0 : Int32) = b then true else false) = decide ((if (5 : Int32) = b then (5 : Int32) else if (4 : Int32) = b then 4 else 0) = b)
    by_cases h2 : (5 : Int32) = b <;> by_cases h1 : (4 : Int32) = b <;> by_cases h : (0 : Int32) = b <;> simp [h2, h1, h]
  · show (if (6 : Int32) = b then true else if (4 : Int32) = b then true else if (0 : Int32) = b then true else false) = decide ((if (6 : Int32) = b then (6 : Int32) else if (4 : Int32) = b then 4 else 0) = b)
    by_cases h2 : (6 : Int32) = b <;> by_cases h1 : (4 : Int32) = b <;> by_cases h : (0 : Int32) = b <;> simp [h2, h1, h]
  · show (if (7 : Int32) = b then true else if (0 : Int32) = b then true else if (0 : Int32) = b then true else false) = decide ((if (7 : Int32) = b then (7 : Int32) else if (0 : Int32) = b then 0 else 0) = b)
    by_cases h1 : (7 : Int32) = b <;> by_cases h : (0 : Int32) = b <;> simp [h1, h]
  · show (if (8 : Int32) = b then true else if (7 : Int32) = b then true else if (0 : Int32) = b then true else false) = decide ((if (8 : Int32) = b then (8 : Int32) else if (7 : Int32) = b then 7 else 0) = b)
    by_cases h2 : (8 : Int32) = b <;> by_cases h1 : (7 : Int32) = b <;> by_cases h : (0 : Int32) = b <;> simp [h2, h1, h]
  · show (if (9 : Int32) = b then true else if (0 : Int32) = b then true else if (0 : Int32) = b then true else false) = decide ((if (9 : Int32) = b then (9 : Int32) else if (0 : Int32) = b then 0 else 0) = b)
    by_cases h1 : (9 : Int32) = b <;> by_cases h : (0 : Int32) = b <;> simp [h1, h]
  · show (if (10 : Int32) = b then true else if (9 : Int32) = b then true else if (0 : Int32) = b then true else false) = decide ((if (10 : Int32) = b then (10 : Int32) else if (9 : Int32) = b then 9 else 0) = b)
    by_cases h2 : (10 : Int32) = b <;> by_cases h1 : (9 : Int32) = b <;> by_cases h : (0 : Int32) = b <;> simp [h2, h1, h]
  · show (if (11 : Int32) = b then true else if (0 : Int32) = b then true else if (0 : Int32) = b then true else false) = decide ((if (11 : Int32) = b then (11 : Int32) else if (0 : Int32) = b then 0 else 0) = b)
    by_cases h1 : (11 : Int32) = b <;> by_cases h : (0 : Int32) = b <;> simp [h1, h]
theorem ik_v {c : Int32} (hc : vp_in c 12) (b : Int32) : zik b 3 c = decide (nIk b 2 c = b) := by
  obtain ⟨j, hj, rfl⟩ := vin_of hc
  exact ik_eq j hj b
theorem kf_eq {c : Int32} (hc : vp_in c 12) : nkf c = zkf c := by
  rw [nkf, zkf, ik_v hc 1, ik_v hc 4]
theorem lx_eq {F G : zFt} {s : Nat} (hE : mE1 F G s) {c : Int32} (hc : vp_in c 12) : ∀ n : Nat, n ≤ 8 → nLx G s c n = cLx F s c n
  | 0, _ => rfl
  | n + 1, hn => by
    rw [nLx, cLx, (hE.2.2.2.2.2.2 n (by omega)).1, ik_v hc, lx_eq hE hc n (by omega)]
theorem cLx_lt (F : zFt) (s : Nat) (c : Int32) : ∀ (n g : Nat), cLx F s c n = some g → g < n
  | 0, g, h => by cases h
  | n + 1, g, h => by
    rw [cLx] at h
    split at h
    · have := cLx_lt F s c n g h
      omega
    · cases h
      omega
/-- a savepoint by its name: from either end, for no name stands twice -/
theorem pl_no (F : zFt) (s : Nat) (x : Int32) : ∀ n : Nat, (∀ k, k < n → F 101 (s * 16 + k) ≠ x) → nPl F s x n = -1
  | 0, _ => rfl
  | n + 1, h => by rw [nPl, if_neg (h n (by omega)), pl_no F s x n (fun k hk => h k (by omega))]
theorem pl_at (F : zFt) (s : Nat) (x : Int32) (i : Nat) (hi : F 101 (s * 16 + i) = x) : ∀ n : Nat, i < n → (∀ k, k < n → k ≠ i → F 101 (s * 16 + k) ≠ x) → nPl F s x n = nI i
  | 0, h, _ => by omega
  | n + 1, h, hd => by
    by_cases hn : i = n
    · subst hn
      rw [nPl, if_pos hi]
    · rw [nPl, if_neg (hd n (by omega) (by omega)), pl_at F s x i hi n (by omega) (fun k hk => hd k (by omega))]
theorem pl_eq {F G : zFt} {s t : Nat} (hs : scOk F s t) (hE : mE1 F G s) (x : Int32) : nPl G s x (zn (G 100 s)) = cIx F s x ∧ (cIx F s x = -1 ∨ ∃ j, j < zn (F (5 * s + 35) 5) ∧ cIx F s x = nI j) := by
  have l17 := vin_le1 hs.2.2.2.1
  have hnm : ∀ k, k < zn (F (5 * s + 35) 5) → G 101 (s * 16 + k) = F (5 * s + 36) k := fun k hk => (hE.2.2.2.2.2.1 k (by omega)).1
  rw [hE.2.2.2.1]
  by_cases hx : cIx F s x < 0
  · have hno := zfi_no (fun i => F (5 * s + 36) i) x (zn (F (5 * s + 35) 5)) 0 (by omega) hx
    have e : ∀ n a, (∀ i, a ≤ i → i < a + n → F (5 * s + 36) i ≠ x) → zfi (fun i => F (5 * s + 36) i) x n a = -1 := by
      intro n
      induction n with
      | zero => intro a _; rfl
      | succ n ih =>
        intro a hh
        rw [zfi, if_neg (hh a (by omega) (by omega)), ih (a + 1) (fun i h1 h2 => hh i (by omega) (by omega))]
    have e2 : cIx F s x = -1 := e _ 0 (fun i h1 h2 => hno i h1 h2)
    rw [e2]
    exact ⟨pl_no G s x _ (fun k hk => by rw [hnm k hk]; exact hno k (by omega) (by omega)), Or.inl rfl⟩
  · have h1 := zfi_lt (fun i => F (5 * s + 36) i) x (zn (F (5 * s + 35) 5)) 0 (by omega) hx
    have h2 := zfi_at (fun i => F (5 * s + 36) i) x (zn (F (5 * s + 35) 5)) 0 (by omega) hx
    have e3 : nI (zn (cIx F s x)) = cIx F s x := nI_zn h1.1
    have hlt : zn (cIx F s x) < zn (F (5 * s + 35) 5) := by
      have := h1.2
      rw [Nat.zero_add] at this
      exact this
    refine ⟨?_, Or.inr ⟨_, hlt, e3.symm⟩⟩
    rw [← e3]
    refine pl_at G s x _ (by rw [hnm _ hlt]; exact h2) _ hlt (fun k hk hne => ?_)
    rw [hnm k hk]
    intro hq
    rcases Nat.lt_or_gt_of_ne hne with q | q
    · exact hs.2.2.2.2.2.2.2.1 _ _ q hlt (hq.trans h2.symm)
    · exact hs.2.2.2.2.2.2.2.1 _ _ q hk (h2.trans hq.symm)
