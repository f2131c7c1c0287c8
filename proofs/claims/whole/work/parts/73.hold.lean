/-! when a rule holds: the same on both sides -/
theorem t64 (x : Int32) : x.toInt64.toInt = x.toInt := Int32.toInt_toInt64 x
theorem lc_le (x y : Int32) : (lg_cmp x.toInt64 y.toInt64 ≤ 0) ↔ x ≤ y := by
  rw [lg_cmp_le, Int64.le_iff_toInt_le, Int32.le_iff_toInt_le, t64, t64]
theorem lc_ge (x y : Int32) : (0 ≤ lg_cmp x.toInt64 y.toInt64) ↔ y ≤ x := by
  rw [lg_cmp_ge, Int64.le_iff_toInt_le, Int32.le_iff_toInt_le, t64, t64]
theorem lc_gt (x y : Int32) : (0 < lg_cmp x.toInt64 y.toInt64) ↔ y < x := by
  rw [lg_cmp_gt, Int64.lt_iff_toInt_lt, Int32.lt_iff_toInt_lt, t64, t64]
theorem lc_sub {x y : Int32} (a : Int32) (hx : -1000000000 ≤ x.toInt ∧ x.toInt ≤ 1000000000) (hy : -1000000000 ≤ y.toInt ∧ y.toInt ≤ 1000000000) : (lg_cmp (x.toInt64 - y.toInt64) a.toInt64 ≤ 0) ↔ x - y ≤ a := by
  have e1 : (x - y).toInt = x.toInt - y.toInt := by
    rw [tI_sub]
    omega
  have e2 : (x.toInt64 - y.toInt64).toInt = x.toInt - y.toInt := by
    rw [Int64.toInt_sub, t64, t64, Int.bmod_eq_of_le] <;> omega
  rw [lg_cmp_le, Int64.le_iff_toInt_le, Int32.le_iff_toInt_le, t64, e1, e2]
theorem zsm_bd {f : Nat → Int32} : ∀ n : Nat, n ≤ 400 → (∀ i, i < n → -6000 ≤ (f i).toInt ∧ (f i).toInt ≤ 6000) → -6000 * (n : Int) ≤ (zsm f n).toInt ∧ (zsm f n).toInt ≤ 6000 * (n : Int)
  | 0, _, _ => by
    rw [zsm]
    simp
  | n + 1, hn, h => by
    have ih := zsm_bd n (by omega) (fun i hi => h i (by omega))
    have h1 := h n (by omega)
    rw [zsm, tI_add]
    push_cast
    omega
theorem ma_bd {F : zFt} (h : CI F) (hS : mS F) (hV : mV F) (j : Nat) : -2400000 ≤ (F 18 j).toInt ∧ (F 18 j).toInt ≤ 2400000 := by
  have l := vin_le1 h.2.2.2.2.1
  have b := zsm_bd (f := tM F j) (zn (F 11 6)) l (fun i hi => by
    have hv := hV i hi
    rw [tM]
    split
    · simp
    · split
      · split
        · exact hv
        · simp
      · simp)
  rw [hS.1]
  omega
theorem of_bd {F : zFt} (h : CI F) (hS : mS F) (hV : mV F) (j : Nat) : -2400000 ≤ (F 17 j).toInt ∧ (F 17 j).toInt ≤ 2400000 := by
  have l := vin_le1 h.2.2.2.2.1
  have b := zsm_bd (f := tO F j) (zn (F 11 6)) l (fun i hi => by
    have hv := hV i hi
    rw [tO]
    split
    · simp
    · split
      · simp
      · split
        · split
          · exact hv
          · simp
        · simp)
  rw [hS.2.1]
  omega
theorem zfold_eq {g g' : Nat → Int32 → Int32} {x : Int32} : ∀ n : Nat, (∀ i, i < n → ∀ a, g i a = g' i a) → zfold g x n = zfold g' x n
  | 0, _ => rfl
  | n + 1, h => by rw [zfold_s, zfold_s, zfold_eq n (fun i hi => h i (by omega)), h n (by omega)]
theorem zfold_bd {g : Nat → Int32 → Int32} {x : Int32} {l u : Int} (hx : l ≤ x.toInt ∧ x.toInt ≤ u) (hg : ∀ i a, l ≤ a.toInt ∧ a.toInt ≤ u → l ≤ (g i a).toInt ∧ (g i a).toInt ≤ u) : ∀ n : Nat, l ≤ (zfold g x n).toInt ∧ (zfold g x n).toInt ≤ u
  | 0 => hx
  | n + 1 => hg n _ (zfold_bd hx hg n)
/-- the marks of an entry, on both sides -/
theorem ma_eq {F G : zFt} (hD : mD F G) {e : Int32} (he : vp_in e 60) {k : Nat} (hk : k < 5) : nMa G e k = cMa F e k := by
  have h := vin_zn (ix5m he hk)
  simp only [nMa, cMa]
  rw [hD.2.2.2.1 _ h, Int32.mul_comm]
theorem ma_0 {F G : zFt} (hD : mD F G) {e : Int32} (he : vp_in e 60) : G 94 (zn (5 * e)) = cMa F e 0 := by
  have h := ma_eq hD he (k := 0) (by decide)
  rw [← h]
  simp only [nMa]
  rw [show nI 0 = 0 from rfl, Int32.add_zero]
theorem mx_eq {F G : zFt} (hD : mD F G) {e : Int32} (he : vp_in e 60) {n : Nat} (hn : n < 5) : zfold (gNx G e) (G 94 (zn (5 * e))) n = zfold (ggreatestMark F e) (cMa F e 0) n ∧ zfold (gNm G e) (G 94 (zn (5 * e))) n = zfold (gleastMark F e) (cMa F e 0) n := by
  rw [ma_0 hD he]
  constructor
  · refine zfold_eq n (fun i hi a => ?_)
    simp only [gNx, ggreatestMark, zmx, ma_eq hD he (show i + 1 < 5 by omega)]
    by_cases h : cMa F e (i + 1) ≤ a
    · rw [if_pos h, if_neg (by rw [Int32.not_lt]; exact h)]
    · rw [if_neg h, if_pos (by rw [← Int32.not_le]; exact h)]
  · refine zfold_eq n (fun i hi a => ?_)
    simp only [gNm, gleastMark, zmn, ma_eq hD he (show i + 1 < 5 by omega)]
    by_cases h : a ≤ cMa F e (i + 1)
    · rw [if_pos h, if_neg (by rw [Int32.not_lt]; exact h)]
    · rw [if_neg h, if_pos (by rw [← Int32.not_le]; exact h)]
theorem gr_bd {F : zFt} (h : CI F) (hS : mS F) (hV : mV F) (e : Int32) (n : Nat) : (-2400000 ≤ (zfold (ggreatestMark F e) (cMa F e 0) n).toInt ∧ (zfold (ggreatestMark F e) (cMa F e 0) n).toInt ≤ 2400000) ∧ -2400000 ≤ (zfold (gleastMark F e) (cMa F e 0) n).toInt ∧ (zfold (gleastMark F e) (cMa F e 0) n).toInt ≤ 2400000 := by
  constructor
  · refine zfold_bd (ma_bd h hS hV _) (fun i a ha => ?_) n
    simp only [ggreatestMark, zmx]
    split
    · exact ma_bd h hS hV _
    · exact ha
  · refine zfold_bd (ma_bd h hS hV _) (fun i a ha => ?_) n
    simp only [gleastMark, zmn]
    split
    · exact ma_bd h hS hV _
    · exact ha
theorem zrk_k {k : Int32} (h : zrk k = true) : k.toInt = 2 ∨ k.toInt = 3 ∨ k.toInt = 5 ∨ k.toInt = 6 ∨ k.toInt = 8 ∨ k.toInt = 10 := by
  simp only [zrk, Bool.or_eq_true, decide_eq_true_eq] at h
  rcases h with q | q | q | q | q | q <;> rw [q] <;> decide
theorem ev_1 {x : Int32} (h : vp_in x 401) : (x - 1 < 0 ↔ x ≤ 0) := by
  rw [vin] at h
  rw [Int32.lt_iff_toInt_lt, Int32.le_iff_toInt_le, tI_sub]
  simp
  omega
theorem ho_eq {F G : zFt} (h : CI F) (hA : mA F G) (hB : mB F G) (hD : mD F G) (hE : mE F G) (hS : mS F) (hV : mV F) (hK : mK F) {n : Nat} (hn : zn (F 2 7) = n + 1) {r : Nat} (hr : r < zn (F 25 3)) : nHo G (nI r) = cHo F (nI r) n := by
  obtain ⟨n8, hin, e7, e1, hF⟩ := CI_n h hn
  have r24 := vin_le1 h.2.2.1
  have er : zn (nI r) = r := zn_nI (by omega)
  have hs := hE.2 n n8
  have es : zn (G 75 28 - 1) = n := by rw [hE.1, e1, zn_nI (by omega)]
  have eJ : nJ G = sJ F n := by rw [nJ, es]; exact hs.1
  have eE : nE G = sE F n := by rw [nE, es]; exact hs.2.1
  have ht := CI_top h hn
  have hen : vp_in (sE F n) 60 := sh_en h.1 ht.2.1
  have hmi := sh_mx h.1 ht.2.1 ht.1
  have hec := sh_okC h.1 (vin_zn ht.2.1)
  have h6 := hD.1
  have e85 : G 85 r = F 27 r := (hB.2 r).2.1
  have e86 : G 86 r = F 28 r := (hB.2 r).2.2
  have hk := zrk_k (hK r hr)
  unfold nHo cHo
  simp only [er, e85, e86, h6, eJ, eE]
  rcases hk with q | q | q | q | q | q
  · simp only [q, Int.reduceEq, ↓reduceIte]
    have ez : zn (F 11 6 - 1) = zn (F 11 6 - 1) := rfl
    simp only [cLo, (hD.2.1 _).1, (hD.2.1 _).2.2.2, lc_gt, ev_1 h.2.2.2.2.1]
  · simp only [q, Int.reduceEq, ↓reduceIte]
    have ef : zfold (gNt G (sJ F n) (sE F n)) 0 (zn (F 11 6)) = zfold (gTp F (sJ F n) (sE F n)) 0 (zn (F 11 6)) := by
      refine zfold_eq _ (fun i hi a => ?_)
      simp only [gNt, gTp, (hD.2.1 _).1, (hD.2.1 _).2.1, (hD.2.1 _).2.2.1]
      split
      · exact Int32.add_zero a
      · split
        · exact Int32.add_zero a
        · split
          · exact Int32.add_zero a
          · rfl
    simp only [ef, lc_le]
  · simp only [q, Int.reduceEq, ↓reduceIte]
    rw [mj_eq hA ht.2.2.1, hD.2.2.2.1 _ (vin_zn hmi)]
    simp only [lc_le]
  · simp only [q, Int.reduceEq, ↓reduceIte]
    rw [mj_eq hA ht.2.2.1, hD.2.2.2.1 _ (vin_zn hmi)]
    simp only [lc_ge]
  · simp only [q, Int.reduceEq, ↓reduceIte]
    have eSe : nSe G (sE F n) = cSe F (sE F n) := by rw [nSe, cSe, (hA.2.2.2.1 _).2.2.2.2.2.2, (hA.2.2.2.1 _).2.2.1]
    have l5 : zn (cSe F (sE F n)) - 1 < 5 := by
      have := hec.2.1
      have : zn (cSe F (sE F n)) ≤ 5 := this
      omega
    obtain ⟨x1, x2⟩ := mx_eq hD hen l5
    obtain ⟨b1, b2⟩ := gr_bd h hS hV (sE F n) (zn (cSe F (sE F n)) - 1)
    simp only [nMx, nMn, eSe]
    rw [x1, x2]
    have := lc_sub (F 28 r) (x := zfold (ggreatestMark F (sE F n)) (cMa F (sE F n) 0) (zn (cSe F (sE F n)) - 1)) (y := zfold (gleastMark F (sE F n)) (cMa F (sE F n) 0) (zn (cSe F (sE F n)) - 1)) (by omega) (by omega)
    simp only [this]
  · simp only [q, Int.reduceEq, ↓reduceIte]
    simp only [lc_le]
