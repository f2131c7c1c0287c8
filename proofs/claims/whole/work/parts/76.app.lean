/-! an event comes, on both sides -/
theorem nC0_ne (G : zFt) (x y : Int32) {k j : Nat} (h : 89 ≤ k ∧ k ≤ 93 → j ≠ zn (G 75 19)) : nC0 G x y k j = G k j := by
  simp only [nC0]
  rw [zup_ap, if_neg (by omega), zup_ap, if_neg (by omega), zup_ap, if_neg (by omega), zup_ap, if_neg (by omega), zup_ap, if_neg (by omega)]
theorem nC0_at (G : zFt) (x y : Int32) : nC0 G x y 89 (zn (G 75 19)) = x ∧ nC0 G x y 90 (zn (G 75 19)) = G 97 (zn (G 75 28 - 1)) ∧ nC0 G x y 91 (zn (G 75 19)) = G 98 (zn (G 75 28 - 1)) ∧ nC0 G x y 92 (zn (G 75 19)) = y ∧ nC0 G x y 93 (zn (G 75 19)) = 1 := by
  simp only [nC0, zup_ap, Nat.reduceEqDiff, false_and, true_and, and_self, ↓reduceIte]
theorem RI_ap {F G : zFt} {m n : Nat} (h : RI F G m) (hn : zn (F 2 7) = n + 1) (h4 : F 11 6 < 400) {x y : Int32} (hx : x = 0 ∨ x = 1 ∨ x = 2 ∧ vp_in y 8) (hy : -6000 ≤ y.toInt ∧ y.toInt ≤ 6000) : RI (cAe F x y) (nCm G x y) m ∧ zn (cAe F x y 2 7) = n + 1 := by
  obtain ⟨a1, a2, a3, a4, a5, a6, a7, a8, a9, b1, b2, b3, b4, b5, b6⟩ := h
  obtain ⟨n8, hin, -, e1, hF⟩ := CI_n a1 hn
  obtain ⟨l4, v4, p4⟩ := ev_400 a1.2.2.2.2.1 h4
  obtain ⟨c1, hbs, z6⟩ := CI_ap a1 hn h4 hx
  have S2 := mS_ae b1 (x := x) (y := y) p4 l4
  have hs := a6.2 n n8
  have ht := CI_top a1 hn
  have es : zn (G 75 28 - 1) = n := by rw [a6.1, e1, zn_nI (by omega)]
  have eF : ∀ k j, k ≠ 11 → (k < 16 ∨ 19 < k) → (12 ≤ k ∧ k ≤ 15 → j ≠ zn (F 11 6)) → cAe F x y k j = F k j := fun k j p q r => cAe_ne F x y p (by omega) (by omega) (by omega) (by omega) j (fun q => r (by omega))
  have ne := cAp_new F x (sJ F (cIn F)) (sE F (cIn F)) y
  rw [hin] at ne
  have n12 : ∀ k, k = 12 ∨ k = 13 ∨ k = 14 ∨ k = 15 → cAe F x y k (zn (F 11 6)) = cAp0 F x (sJ F n) (sE F n) y k (zn (F 11 6)) := fun k hk => by
    rw [cAe, hin]
    exact cSc_ne _ _ _ (by omega) (by omega) (by omega) (by omega) _
  have n16 : cAe F x y 16 (zn (F 11 6)) = 1 := cSc_at _ _ _
  have e16 : ∀ i, i ≠ zn (F 11 6) → cAe F x y 16 i = F 16 i := fun i hi => by
    rw [cAe, cSc_16 _ _ _ _ hi]
    simp only [cAp0, zup_ap]
    rw [if_neg (by omega), if_neg (by omega), if_neg (by omega), if_neg (by omega), if_neg (by omega), if_neg (by omega)]
  have g0 := nC0_at G x y
  rw [es, hs.1, hs.2.1, a5.1] at g0
  have gne : ∀ k j, (89 ≤ k ∧ k ≤ 93 → j ≠ zn (F 11 6)) → nC0 G x y k j = G k j := fun k j q => nC0_ne G x y (by rw [a5.1]; exact q)
  have gm : ∀ k j, (k < 94 ∨ 96 < k) → ¬ (k = 75 ∧ j = 19) → nCm G x y k j = nC0 G x y k j := fun k j p q => by
    rw [nCm, zup_ap, if_neg q, nCo_ne _ _ (by omega) (by omega) (by omega)]
  have fG : ∀ k j, (k < 89 ∨ 96 < k) → ¬ (k = 75 ∧ j = 19) → nCm G x y k j = G k j := fun k j p q => by rw [gm k j (by omega) q, gne k j (by omega)]
  obtain ⟨q1, q2, q3⟩ := nCo_v (nC0 G x y) (zn (F 11 6))
  have e12 : cAe F x y 12 (zn (F 11 6)) = x := by rw [n12 12 (by omega)]; exact ne.1
  have e13 : cAe F x y 13 (zn (F 11 6)) = sJ F n := by rw [n12 13 (by omega)]; exact ne.2.1
  have e14 : cAe F x y 14 (zn (F 11 6)) = sE F n := by rw [n12 14 (by omega)]; exact ne.2.2.1
  have e15 : cAe F x y 15 (zn (F 11 6)) = y := by rw [n12 15 (by omega)]; exact ne.2.2.2.1
  have A0 : mA (cAe F x y) (nC0 G x y) := mA_eq a2 (fun k j q => eF k j (by omega) (by omega) (by omega)) (fun k j q => gne k j (by omega))
  have hw := w_eq (F := cAe F x y) (G := nC0 G x y) A0 (i := zn (F 11 6)) (by rw [g0.1, g0.2.1, g0.2.2.1, g0.2.2.2.1, e12, e13, e14, e15]; exact ⟨rfl, rfl, rfl, rfl⟩) (by rw [g0.2.2.2.2, n16]) (by
    rw [e13, e14, eF 9 _ (by omega) (by omega) (by omega), eF 10 _ (by omega) (by omega) (by omega)]
    exact ht.2.2.1)
  have w1 : ∀ j, vM (nC0 G x y) j (zn (F 11 6)) = tM (cAe F x y) j (zn (F 11 6)) := fun j => by rw [← hw.1 j, wM, g0.2.2.2.2, if_neg (by decide)]
  have w2 : ∀ j, vO (nC0 G x y) j (zn (F 11 6)) = tO (cAe F x y) j (zn (F 11 6)) := fun j => by rw [← hw.2.1 j, wO, g0.2.2.2.2, if_neg (by decide)]
  have w3 : ∀ j, vB (nC0 G x y) j (zn (F 11 6)) = tB (cAe F x y) j (zn (F 11 6)) := fun j => by rw [← hw.2.2 j, wB, g0.2.2.2.2, if_neg (by decide)]
  have ts : ∀ q, q < zn (F 11 6) → _ := fun q hq => t_same (F := F) (G := cAe F x y) (i := q) (fun k j hk => by
    by_cases h16 : k = 16
    · subst h16
      exact e16 _ (by omega)
    · exact eF k j (by omega) (by omega) (by omega))
  have ev : nCm G x y 75 19 = F 11 6 + 1 := by rw [nCm, zup_ap, if_pos ⟨rfl, rfl⟩, a5.1]
  have h7 : cAe F x y 2 7 = F 2 7 := eF 2 7 (by omega) (by omega) (by omega)
  refine ⟨⟨c1, mA_eq a2 (fun k j q => eF k j (by omega) (by omega) (by omega)) (fun k j q => fG k j (by omega) (by omega)), mB_eq a3 (fun k j q => eF k j (by omega) (by omega) (by omega)) (fun k j q => fG k j (by omega) (by omega)), mC_eq a4 (fun k j q => eF k j (by omega) (by omega) (by omega)) (fun k j q => fG k j (by omega) (by omega)), ?_, mE_eq a6 (fun k j q => eF k j (by omega) (by omega) (by omega)) (fun k j q => fG k j (by omega) (by omega)), mF_eq a7 (fun k j q => eF k j (by omega) (by omega) (by omega)) (fun k j q => fG k j (by omega) (by omega)), mH_eq a8 (fun j q => eF 2 j (by omega) (by omega) (by omega)) (fun j q => fG 75 j (by omega) (by omega)), ?_, S2, ?_, mM_eq b3 (fun k j q => eF k j (by omega) (by omega) (by omega)) (vin_le1 a1.2.2.2.2.2.2.1), mK_eq b4 (fun k j q => eF k j (by omega) (by omega) (by omega)), ?_, ?_⟩, by rw [h7]; exact hn⟩
  · refine ⟨by rw [ev, cAe_ev], fun j => ?_, fun i hi => ?_, fun j hj => ?_, fun e he => ⟨?_, ?_⟩⟩
    · rw [gm 89 j (by omega) (by omega), gm 90 j (by omega) (by omega), gm 91 j (by omega) (by omega), gm 92 j (by omega) (by omega)]
      by_cases hj : j = zn (F 11 6)
      · subst hj
        rw [g0.1, g0.2.1, g0.2.2.1, g0.2.2.2.1, e12, e13, e14, e15]
        exact ⟨rfl, rfl, rfl, rfl⟩
      · rw [gne 89 j (fun _ => hj), gne 90 j (fun _ => hj), gne 91 j (fun _ => hj), gne 92 j (fun _ => hj), eF 12 j (by omega) (by omega) (fun _ => hj), eF 13 j (by omega) (by omega) (fun _ => hj), eF 14 j (by omega) (by omega) (fun _ => hj), eF 15 j (by omega) (by omega) (fun _ => hj)]
        exact a5.2.1 j
    · rw [gm 93 i (by omega) (by omega)]
      by_cases hj : i = zn (F 11 6)
      · subst hj
        rw [g0.2.2.2.2, n16]
      · rw [gne 93 i (fun _ => hj), e16 i hj]
        rw [z6] at hi
        exact a5.2.2.1 i (by omega)
    · rw [nCm, zup_ap, if_neg (by omega), a5.1, q1, gne 94 j (by omega), w1, S2.1, z6, zsm, a5.2.2.2.1 j hj, b1.1, zsm_congr _ (fun i hi => (ts i hi).1 j)]
    · rw [nCm, zup_ap, if_neg (by omega), a5.1, q2, gne 95 e (by omega), w2, S2.2.1, z6, zsm, (a5.2.2.2.2 e he).1, b1.2.1, zsm_congr _ (fun i hi => (ts i hi).2.1 e)]
    · rw [nCm, zup_ap, if_neg (by omega), a5.1, q3, gne 96 e (by omega), w3, z6, zor, (a5.2.2.2.2 e he).2, zor_congr _ (fun i hi => (ts i hi).2.2.2 e)]
  · have hbb := bs_le a1 hn
    have hbl := ht.2.2.2.2.2.1.2
    refine mU_eq a9 a1.2.2.2.2.2.2.2.2 ⟨eF 2 10 (by omega) (by omega) (by omega), eF 2 11 (by omega) (by omega) (by omega), eF 2 12 (by omega) (by omega) (by omega)⟩ hbs (fun i q => ⟨e16 i (by omega), eF 14 i (by omega) (by omega) (by omega)⟩) (fun q => eF 10 _ (by omega) (by omega) (by omega)) (fun q => eF 7 _ (by omega) (by omega) (by omega)) (fun k j q => fG k j (by omega) (by omega))
  · intro i hi
    rw [z6] at hi
    by_cases hj : i = zn (F 11 6)
    · subst hj
      rw [e15]
      exact hy
    · rw [eF 15 i (by omega) (by omega) (fun _ => hj)]
      exact b2 i (by omega)
  · intro i
    rw [gm 93 i (by omega) (by omega), fG 80 i (by omega) (by omega), fG 107 i (by omega) (by omega), fG 108 i (by omega) (by omega)]
    refine ⟨?_, (b5 i).2⟩
    by_cases hj : i = zn (F 11 6)
    · subst hj
      rw [g0.2.2.2.2]
      exact Or.inr rfl
    · rw [gne 93 i (fun _ => hj)]
      exact (b5 i).1
  · rw [mN, eF 29 1 (by omega) (by omega) (by omega)]
    exact b6
/-! remarks as bits -/
def b8g (f : Nat → Bool) : Nat → Int32 → Int32 := fun k a => bif f k then a ||| 1 <<< (nI k &&& 31) else a
def B8 (c0 c1 c2 c3 c4 c5 c6 c7 : Bool) : Int32 := zfold (b8g (fun k => match k with | 0 => c0 | 1 => c1 | 2 => c2 | 3 => c3 | 4 => c4 | 5 => c5 | 6 => c6 | _ => c7)) 0 8
abbrev b8 (f : Nat → Bool) : Int32 := B8 (f 0) (f 1) (f 2) (f 3) (f 4) (f 5) (f 6) (f 7)
theorem b8_eq {g : Nat → Int32 → Int32} {f : Nat → Bool} (h : ∀ k, k < 8 → ∀ a, g k a = bif f k then a ||| 1 <<< (nI k &&& 31) else a) : zfold g 0 8 = b8 f := by
  refine zfold_eq 8 (fun k hk a => ?_)
  rw [h k hk, b8g]
  rcases (show k = 0 ∨ k = 1 ∨ k = 2 ∨ k = 3 ∨ k = 4 ∨ k = 5 ∨ k = 6 ∨ k = 7 by omega) with q | q | q | q | q | q | q | q <;> subst q <;> rfl
theorem b8_or : ∀ (c0 c1 c2 c3 c4 c5 c6 c7 : Bool), ∀ k, k < 8 → B8 c0 c1 c2 c3 c4 c5 c6 c7 ||| 1 <<< (nI k &&& 31) = B8 (c0 || Nat.beq k 0) (c1 || Nat.beq k 1) (c2 || Nat.beq k 2) (c3 || Nat.beq k 3) (c4 || Nat.beq k 4) (c5 || Nat.beq k 5) (c6 || Nat.beq k 6) (c7 || Nat.beq k 7) := by decide +kernel
theorem b8_cnt : ∀ (c0 c1 c2 c3 c4 c5 c6 c7 : Bool), zfold (fun i a => a + (B8 c0 c1 c2 c3 c4 c5 c6 c7 >>> (nI i &&& 31) &&& 1)) 0 8 = zbc (B8 c0 c1 c2 c3 c4 c5 c6 c7) := by decide +kernel
def hasr (F : zFt) (e k i : Nat) : Bool := !decide (F 16 i = 0) && (!decide (F 12 i = 0) && (!decide (F 12 i = 1) && (decide (zn (F 14 i) = e) && Nat.beq (zn (F 15 i)) k)))
def exr (F : zFt) (e k : Nat) : Nat → Bool
  | 0 => false
  | n + 1 => exr F e k n || hasr F e k n
theorem cnt_nI {f : Nat → Int32} {p : Nat → Bool} : ∀ n : Nat, n < 1000 → (∀ i, i < n → f i = bif p i then 1 else 0) → ∃ c : Nat, c ≤ n ∧ zsm f n = nI c ∧ (c = 0 ↔ ∀ i, i < n → p i = false)
  | 0, _, _ => ⟨0, Nat.le_refl 0, rfl, fun _ i hi => absurd hi (Nat.not_lt_zero i), fun _ => rfl⟩
  | n + 1, hn, h => by
    obtain ⟨c, hc, e, hz⟩ := cnt_nI (p := p) n (by omega) (fun i hi => h i (by omega))
    rw [zsm, e, h n (by omega)]
    cases hp : p n with
    | false =>
      refine ⟨c, by omega, Int32.add_zero _, fun q i hi => ?_, fun q => hz.mpr (fun i hi => q i (by omega))⟩
      by_cases hin : i = n
      · subst hin
        exact hp
      · exact hz.mp q i (by omega)
    | true =>
      refine ⟨c + 1, by omega, nI_1 c, fun q => by omega, fun q => ?_⟩
      have := q n (by omega)
      rw [hp] at this
      cases this
theorem exr_f (F : zFt) (e k : Nat) : ∀ n : Nat, exr F e k n = false ↔ ∀ i, i < n → hasr F e k i = false
  | 0 => ⟨fun _ i hi => absurd hi (Nat.not_lt_zero i), fun _ => rfl⟩
  | n + 1 => by
    rw [exr, Bool.or_eq_false_iff, exr_f F e k n]
    refine ⟨fun q i hi => ?_, fun q => ⟨fun i hi => q i (by omega), q n (by omega)⟩⟩
    by_cases hin : i = n
    · subst hin
      exact q.2
    · exact q.1 i (by omega)
/-- what an event that is a remark says -/
theorem rm_ix {F : zFt} (h : CI F) {i : Nat} (hi : i < zn (F 11 6)) (h0 : ¬ F 12 i = 0) (h1 : ¬ F 12 i = 1) : vp_in (F 15 i) 8 ∧ zn (F 14 i * 8 + F 15 i) = zn (F 14 i) * 8 + zn (F 15 i) ∧ zn (F 15 i) < 8 := by
  have hv := h.2.2.2.2.2.1 i hi
  have h2 : F 12 i = 2 := by
    rcases hv.2.2.2.1 with q | q | q
    · exact absurd q h0
    · exact absurd q h1
    · exact q
  have h8 := hv.2.2.2.2.1 h2
  have he := sh_en h.1 hv.2.1
  have hz := vin_zn h8
  obtain ⟨a, ha, ea⟩ := vin_of he
  obtain ⟨b, hb, eb⟩ := vin_of h8
  refine ⟨h8, ?_, hz⟩
  rw [ea, eb, nI_m8, nI_add, zn_nI (by omega), zn_nI (by omega), zn_nI (by omega)]
theorem rb_eq {F : zFt} (h : CI F) (hS : mS F) {e : Int32} (he : vp_in e 60) : zfold (gRb F e) 0 8 = b8 (fun k => exr F (zn e) k (zn (F 11 6))) := by
  have l4 := vin_le1 h.2.2.2.2.1
  refine b8_eq (fun k hk a => ?_)
  obtain ⟨a0, ha0, ea⟩ := vin_of he
  have ez : zn e = a0 := by rw [ea, zn_nI (by omega)]
  have ej : zn (e * 8 + nI k) = a0 * 8 + k := by rw [ea, nI_m8, nI_add, zn_nI (by omega)]
  obtain ⟨c, hc, ec, hz⟩ := cnt_nI (f := tR F (a0 * 8 + k)) (p := hasr F a0 k) (zn (F 11 6)) (by omega) (fun i hi => by
    simp only [tR, hasr]
    by_cases h16 : F 16 i = 0
    · simp [h16]
    · by_cases h0 : F 12 i = 0
      · simp [h0]
      · by_cases h1 : F 12 i = 1
        · simp [h1]
        · obtain ⟨-, r2, r3⟩ := rm_ix h hi h0 h1
          rw [if_neg h16, if_neg h0, if_neg h1, r2]
          by_cases hq : zn (F 14 i) * 8 + zn (F 15 i) = a0 * 8 + k
          · have q1 : zn (F 14 i) = a0 := by omega
            have q2 : zn (F 15 i) = k := by omega
            simp [h16, h0, h1, q1, q2]
          · rw [if_neg hq]
            by_cases q1 : zn (F 14 i) = a0
            · have q2 : Nat.beq (zn (F 15 i)) k = false := nbf (by omega)
              simp [q2]
            · simp [q1])
  have ef : F 19 (a0 * 8 + k) = nI c := by rw [hS.2.2.1, ec]
  simp only [gRb]
  rw [ej, ef, ez]
  by_cases h0 : c = 0
  · have hx : exr F a0 k (zn (F 11 6)) = false := (exr_f F a0 k _).mpr (hz.mp h0)
    rw [hx, if_pos (by rw [h0]; decide)]
    rfl
  · have hx : exr F a0 k (zn (F 11 6)) = true := by
      cases hq : exr F a0 k (zn (F 11 6)) with
      | true => rfl
      | false => exact absurd (hz.mpr ((exr_f F a0 k _).mp hq)) h0
    rw [hx, if_neg (by rw [Int32.le_iff_toInt_le, nI_int (by omega)]; simp; omega)]
    rfl
theorem or_eq {F : zFt} (h : CI F) (e : Nat) : ∀ n : Nat, n ≤ zn (F 11 6) → zor (tB F e) n = b8 (fun k => exr F e k n)
  | 0, _ => by
    show (0 : Int32) = B8 false false false false false false false false
    decide +kernel
  | n + 1, hn => by
    rw [zor, or_eq h e n (by omega)]
    simp only [exr]
    by_cases h16 : F 16 n = 0
    · have hx : ∀ k, hasr F e k n = false := fun k => by simp [hasr, h16]
      rw [tB, if_pos h16, Int32.or_zero]
      simp only [hx, Bool.or_false]
    · by_cases h0 : F 12 n = 0
      · have hx : ∀ k, hasr F e k n = false := fun k => by simp [hasr, h0]
        rw [tB, if_neg h16, if_pos h0, Int32.or_zero]
        simp only [hx, Bool.or_false]
      · by_cases h1 : F 12 n = 1
        · have hx : ∀ k, hasr F e k n = false := fun k => by simp [hasr, h1]
          rw [tB, if_neg h16, if_neg h0, if_pos h1, Int32.or_zero]
          simp only [hx, Bool.or_false]
        · rw [tB, if_neg h16, if_neg h0, if_neg h1]
          by_cases he : zn (F 14 n) = e
          · obtain ⟨r1, r2, r3⟩ := rm_ix h (by omega) h0 h1
            have hx : ∀ k, hasr F e k n = Nat.beq (zn (F 15 n)) k := fun k => by simp [hasr, h16, h0, h1, he]
            rw [if_pos he, ← vin_nI r1, b8_or _ _ _ _ _ _ _ _ _ r3]
            simp only [hx, vin_nI r1]
          · have hx : ∀ k, hasr F e k n = false := fun k => by simp [hasr, he]
            rw [if_neg he, Int32.or_zero]
            simp only [hx, Bool.or_false]
theorem r96 {F G : zFt} (h : CI F) (hS : mS F) (hD : mD F G) {e : Int32} (he : vp_in e 60) : G 96 (zn e) = zfold (gRb F e) 0 8 := by
  rw [(hD.2.2.2.2 _ (vin_zn he)).2, or_eq h _ _ (Nat.le_refl _), rb_eq h hS he]
theorem rcnt {F G : zFt} (h : CI F) (hS : mS F) (hD : mD F G) {e : Int32} (he : vp_in e 60) : zfold (gRm G e) 0 8 = zbc (zfold (gRb F e) 0 8) := by
  rw [rb_eq h hS he, ← b8_cnt]
  refine zfold_eq 8 (fun k hk a => ?_)
  simp only [gRm]
  rw [r96 h hS hD he, rb_eq h hS he]
