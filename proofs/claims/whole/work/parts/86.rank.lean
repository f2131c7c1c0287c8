/-! totals -/
theorem se_15 {F : zFt} (h : shOk F) {e : Nat} (he : e < zn (F 3 9)) : (F 6 (zn (F 10 e)) = 1 ∨ F 6 (zn (F 10 e)) = 2 ∨ F 6 (zn (F 10 e)) = 3 ∨ F 6 (zn (F 10 e)) = 4 ∨ F 6 (zn (F 10 e)) = 5) := by
  have o := sh_okC h he
  have e1 := nI_zn o.2.2.1
  rcases (show zn (F 6 (zn (F 10 e))) = 1 ∨ zn (F 6 (zn (F 10 e))) = 2 ∨ zn (F 6 (zn (F 10 e))) = 3 ∨ zn (F 6 (zn (F 10 e))) = 4 ∨ zn (F 6 (zn (F 10 e))) = 5 by have := o.2; omega) with q | q | q | q | q
  · exact Or.inl (by rw [← e1, q]; rfl)
  · exact Or.inr (Or.inl (by rw [← e1, q]; rfl))
  · exact Or.inr (Or.inr (Or.inl (by rw [← e1, q]; rfl)))
  · exact Or.inr (Or.inr (Or.inr (Or.inl (by rw [← e1, q]; rfl))))
  · exact Or.inr (Or.inr (Or.inr (Or.inr (by rw [← e1, q]; rfl))))
theorem su_bd {F : zFt} (h : CI F) (hS : mS F) (hV : mV F) (e : Int32) : ∀ n : Nat, n ≤ 5 → -2400000 * n ≤ (zfold (gSu F e) 0 n).toInt ∧ (zfold (gSu F e) 0 n).toInt ≤ 2400000 * n
  | 0, _ => by
    rw [zfold_0]
    decide
  | n + 1, hn => by
    have ih := su_bd h hS hV e n (by omega)
    have b := ma_bd h hS hV (zn (e * 5 + nI n))
    rw [zfold_s]
    simp only [gSu, cMa]
    rw [tI_add]
    omega
theorem mx0 {g o : Int32} (hg : -20000000 ≤ g.toInt ∧ g.toInt ≤ 20000000) (ho : -2400000 ≤ o.toInt ∧ o.toInt ≤ 2400000) : zmx 0 (g - o) = if o ≤ g then g - o else 0 := by
  have e : (g - o).toInt = g.toInt - o.toInt := by
    rw [tI_sub]
    omega
  rw [tI_eq, zmx_t, e, show (0 : Int32).toInt = 0 from rfl]
  by_cases c : o ≤ g
  · rw [if_pos c, e]
    rw [ile] at c
    split <;> omega
  · rw [if_neg c, if_neg (by rw [ile] at c; omega)]
    rfl
theorem half {x : Int32} (h : x = 1 ∨ x = 2 ∨ x = 3 ∨ x = 4 ∨ x = 5) : zn (x / 2) < zn x ∧ (¬ x &&& 1 = 1 → zn (x / 2 - 1) < zn x) ∧ (x - x / 2 * 2 = 1 ↔ x &&& 1 = 1) ∧ zn (x - 1) = zn x - 1 ∧ 1 ≤ zn x ∧ zn x ≤ 5 ∧ (3 ≤ x ↔ ¬ x < 3) := by
  rcases h with h | h | h | h | h <;> subst h <;> decide
theorem ga_eq {F G : zFt} (h : CI F) (hS : mS F) (hV : mV F) (hA : mA F G) (hD : mD F G) {e : Nat} (he : e < zn (F 3 9)) : nGa G (nI e) = cGa F (nI e) ∧ -20000000 ≤ (cGa F (nI e)).toInt ∧ (cGa F (nI e)).toInt ≤ 20000000 := by
  have e60 : e < 60 := by have := vin_le1 h.1.2.2.1; omega
  have hv : vp_in (nI e) 60 := vin_mk e60
  have ez : zn (nI e) = e := zn_nI (by omega)
  have hn := se_15 h.1 he
  have hh := half hn
  have bd := fun j => ma_bd h hS hV j
  have es : nSe G (nI e) = cSe F (nI e) := by rw [nSe, cSe, (hA.2.2.2.1 _).2.2.2.2.2.2, (hA.2.2.2.1 _).2.2.1]
  have eh : nSh' G (nI e) = cSh F (nI e) := by rw [nSh', cSh, (hA.2.2.2.1 _).2.2.2.2.2.2, (hA.2.2.2.1 _).1]
  have ec : cSe F (nI e) = F 6 (zn (F 10 e)) := by rw [cSe, ez]
  rw [← ec] at hn hh
  have eu : nSu G (nI e) = cSu F (nI e) := by
    rw [nSu, cSu, es]
    exact zfold_eq _ (fun i hi a => by
      simp only [gNs, gSu]
      rw [ma_eq hD hv (by omega)])
  have eo : ∀ i, i < zn (cSe F (nI e)) → nSo G (nI e) i = cSo F (nI e) (cSe F (nI e)) i := fun i hi => by
    rw [nSo, cSo, es]
    exact srt_ind _ (fun k hk => ma_eq hD hv (by omega)) i hi
  have ob : ∀ i, i < zn (cSe F (nI e)) → -2400000 ≤ (cSo F (nI e) (cSe F (nI e)) i).toInt ∧ (cSo F (nI e) (cSe F (nI e)) i).toInt ≤ 2400000 := fun i hi => srt_P (P := fun x => -2400000 ≤ x.toInt ∧ x.toInt ≤ 2400000) _ (fun k hk => bd _) i hi
  have ub := su_bd h hS hV (nI e) (zn (cSe F (nI e))) hh.2.2.2.2.2.1
  have ub2 : -12000000 ≤ (cSu F (nI e)).toInt ∧ (cSu F (nI e)).toInt ≤ 12000000 := by
    have := hh.2.2.2.2.2.1
    have : ∀ a : Int, -2400000 * (zn (cSe F (nI e)) : Int) ≤ a ∧ a ≤ 2400000 * (zn (cSe F (nI e)) : Int) → -12000000 ≤ a ∧ a ≤ 12000000 := by
      intro a ha
      omega
    exact this _ ub
  have t1 := tI1 (x := cSh F (nI e)) (n := 1) (m := 1) (by decide)
  have t2 := tI1 (x := cSh F (nI e)) (n := 2) (m := 2) (by decide)
  have t3 := tI1 (x := cSh F (nI e)) (n := 3) (m := 3) (by decide)
  rw [nGa, cGa, es, eh, eu]
  by_cases d1 : cSh F (nI e) = 1
  · rw [if_neg (not_not_intro d1), if_pos (t1.mpr d1), ne_eq ub2 hn]
    have := nrd_bd ub2 hn
    exact ⟨rfl, by omega, by omega⟩
  rw [if_pos d1, if_neg (fun q => d1 (t1.mp q))]
  by_cases d2 : cSh F (nI e) = 2
  · rw [if_neg (not_not_intro d2), if_pos (t2.mpr d2), cMd]
    by_cases c : cSe F (nI e) &&& 1 = 1
    · rw [if_neg (not_not_intro c), if_neg (not_not_intro (hh.2.2.1.mpr c)), eo _ hh.1]
      have := ob _ hh.1
      exact ⟨rfl, by omega, by omega⟩
    · have b1 := ob _ hh.1
      have b2 := ob _ (hh.2.1 c)
      have b3 : -12000000 ≤ (cSo F (nI e) (cSe F (nI e)) (zn (cSe F (nI e) / 2 - 1)) + cSo F (nI e) (cSe F (nI e)) (zn (cSe F (nI e) / 2))).toInt ∧ (cSo F (nI e) (cSe F (nI e)) (zn (cSe F (nI e) / 2 - 1)) + cSo F (nI e) (cSe F (nI e)) (zn (cSe F (nI e) / 2))).toInt ≤ 12000000 := by
        rw [tI_add]
        omega
      rw [if_pos c, if_pos (fun q => c (hh.2.2.1.mp q)), eo _ hh.1, eo _ (hh.2.1 c), ne_eq b3 (Or.inr (Or.inl rfl))]
      have := nrd_bd b3 (Or.inr (Or.inl (rfl : (2 : Int32) = 2)))
      exact ⟨rfl, by omega, by omega⟩
  rw [if_pos d2, if_neg (fun q => d2 (t2.mp q))]
  by_cases d3 : cSh F (nI e) = 3
  · rw [if_neg (not_not_intro d3), if_pos (t3.mpr d3)]
    by_cases c : cSe F (nI e) < 3
    · rw [if_pos c, if_neg (fun q => hh.2.2.2.2.2.2.mp q c), Int32.sub_zero]
      exact ⟨rfl, by omega, by omega⟩
    · have c3 := hh.2.2.2.2.2.2.mpr c
      have gb : (-2400000 ≤ (cGr F (nI e)).toInt ∧ (cGr F (nI e)).toInt ≤ 2400000) ∧ -2400000 ≤ (cLe F (nI e)).toInt ∧ (cLe F (nI e)).toInt ≤ 2400000 := gr_bd h hS hV (nI e) (zn (cSe F (nI e)) - 1)
      obtain ⟨k, hk⟩ : ∃ k, zn (cSe F (nI e)) = k + 1 := ⟨zn (cSe F (nI e)) - 1, by omega⟩
      have ends := srt_ends (F 24) (cMa F (nI e)) k
      have e0 : cSo F (nI e) (cSe F (nI e)) 0 = cLe F (nI e) := by
        rw [cSo, cLe, hk]
        exact ends.1
      have e1 : cSo F (nI e) (cSe F (nI e)) (zn (cSe F (nI e)) - 1) = cGr F (nI e) := by
        rw [cSo, cGr, hk]
        exact ends.2
      rw [if_neg c, if_pos c3, hh.2.2.2.1, eo _ (by omega), eo _ (by omega), e0, e1]
      refine ⟨by grind, ?_⟩
      rw [tI_sub, tI_add]
      omega
  rw [if_pos d3, if_neg (fun q => d3 (t3.mp q))]
  exact ⟨rfl, by omega, by omega⟩
theorem tv_eq {F G : zFt} (h : CI F) (hS : mS F) (hV : mV F) (hA : mA F G) (hD : mD F G) {e : Nat} (he : e < zn (F 3 9)) : nTv G (nI e) = cTv F (nI e) := by
  obtain ⟨g1, g2⟩ := ga_eq h hS hV hA hD he
  have e60 : e < 60 := by have := vin_le1 h.1.2.2.1; omega
  have ez : zn (nI e) = e := zn_nI (by omega)
  rw [nTv, cTv, mx0 g2 (of_bd h hS hV _), g1, ez, (hD.2.2.2.2 e e60).1]
theorem ab_eq {F G : zFt} (h : CI F) (hA : mA F G) (hD : mD F G) {e : Nat} (he : e < zn (F 3 9)) : nAb G (nI e) = zfold (gAz F (nI e)) 0 (zn (cSe F (nI e))) := by
  have e60 : e < 60 := by have := vin_le1 h.1.2.2.1; omega
  have hv : vp_in (nI e) 60 := vin_mk e60
  have ez : zn (nI e) = e := zn_nI (by omega)
  have hn := half (se_15 h.1 he)
  have ec : cSe F (nI e) = F 6 (zn (F 10 e)) := by rw [cSe, ez]
  have es : nSe G (nI e) = cSe F (nI e) := by rw [nSe, cSe, (hA.2.2.2.1 _).2.2.2.2.2.2, (hA.2.2.2.1 _).2.2.1]
  rw [← ec] at hn
  rw [nAb, es]
  refine zfold_eq _ (fun i hi a => ?_)
  simp only [gNa, gAz]
  rw [ma_eq hD hv (by omega)]
  by_cases c : cMa F (nI e) i ≤ 0
  · rw [if_pos c, if_pos c, Int32.add_zero]
  · rw [if_neg c, if_neg c]
/-! the scratch rows -/
theorem RI_scr {F G F2 G2 : zFt} {m : Nat} (h : RI F G m) (eF : ∀ k j, k ≠ 21 → k ≠ 22 → k ≠ 23 → k ≠ 24 → F2 k j = F k j) (eG : ∀ k j, k ≠ 109 → k ≠ 110 → G2 k j = G k j) : RI F2 G2 m := by
  refine RI_sh h (CI_eq h.1 (fun k j q => eF k j (by omega) (by omega) (by omega) (by omega))) (mA_eq h.2.1 (fun k j q => eF k j (by omega) (by omega) (by omega) (by omega)) (fun k j q => eG k j (by omega) (by omega))) (mB_eq h.2.2.1 (fun k j q => eF k j (by omega) (by omega) (by omega) (by omega)) (fun k j q => eG k j (by omega) (by omega))) (mC_eq h.2.2.2.1 (fun k j q => eF k j (by omega) (by omega) (by omega) (by omega)) (fun k j q => eG k j (by omega) (by omega))) (mK_eq h.2.2.2.2.2.2.2.2.2.2.2.2.1 (fun k j q => eF k j (by omega) (by omega) (by omega) (by omega))) (mS_eq h.2.2.2.2.2.2.2.2.2.1 (fun k j q => eF k j (by omega) (by omega) (by omega) (by omega))) (fun _ => eF 10 _ (by omega) (by omega) (by omega) (by omega)) (fun k j q => eF k j (by omega) (by omega) (by omega) (by omega)) (fun k j q => eG k j (by omega) (by omega))
abbrev RI' (F G : zFt) : Prop := CI F ∧ mS F ∧ mV F ∧ mA F G ∧ mD F G
theorem RI_p {F G : zFt} {m : Nat} (h : RI F G m) : RI' F G := ⟨h.1, h.2.2.2.2.2.2.2.2.2.1, h.2.2.2.2.2.2.2.2.2.2.1, h.2.1, h.2.2.2.2.1⟩
theorem tT_v {F G : zFt} {m : Nat} (h : RI F G m) {e : Nat} : ∀ a, e < a → a ≤ zn (F 3 9) → nTt G a 110 e = cTv F (nI e)
  | 0, q, _ => by omega
  | a + 1, q, ha => by
    rw [nTt, zup_ap]
    by_cases c : e = a
    · subst c
      have hp := RI_p (RI_scr (F2 := F) (G2 := nTt G e) h (fun _ _ _ _ _ _ => rfl) (fun k j h1 h2 => nTt_ne G h1 h2 j e))
      rw [if_pos ⟨rfl, rfl⟩, tv_eq hp.1 hp.2.1 hp.2.2.1 hp.2.2.2.1 hp.2.2.2.2 (by omega)]
    · rw [if_neg (fun q => c q.2), nTF, zrow_ap, if_neg (by decide)]
      exact tT_v h a (by omega) (by omega)
theorem r1_v {F G : zFt} {m : Nat} (h : RI F G m) {c : Int32} {e : Nat} (hc : F 10 e = c) : ∀ a, e < a → a ≤ zn (F 3 9) → cR1 F c a 21 e = cTv F (nI e) ∧ cR1 F c a 22 e = zfold (gAz F (nI e)) 0 (zn (cSe F (nI e)))
  | 0, q, _ => by omega
  | a + 1, q, ha => by
    have e10 : cR1 F c a 10 a = F 10 a := cR1_ne F c (by decide) (by decide) (by decide) a a
    rw [cR1, e10]
    by_cases d : e = a
    · subst d
      have hp := RI_p h
      have hq := RI_p (RI_scr (F2 := cR1 F c e) (G2 := G) h (fun k j h1 h2 _ h4 => cR1_ne F c h1 h2 h4 j e) (fun _ _ _ _ => rfl))
      have e39 : cR1 F c e 3 9 = F 3 9 := cR1_ne F c (by decide) (by decide) (by decide) 9 e
      have v1 : cTv (cR1 F c e) (nI e) = cTv F (nI e) := by
        rw [← tv_eq hp.1 hp.2.1 hp.2.2.1 hp.2.2.2.1 hp.2.2.2.2 (by omega), ← tv_eq hq.1 hq.2.1 hq.2.2.1 hq.2.2.2.1 hq.2.2.2.2 (by rw [e39]; omega)]
      have row : ∀ k j, k = 6 ∨ k = 10 ∨ k = 18 → zup (cTF (cR1 F c e) (nI e)) 21 e (cTv (cR1 F c e) (nI e)) k j = F k j := fun k j hk => by
        rw [zup_ap, if_neg (by omega), cTF_ne _ _ (by omega), cR1_ne F c (by omega) (by omega) (by omega)]
      rw [if_pos hc]
      refine ⟨?_, ?_⟩
      · rw [zup_ap, if_neg (by omega), zup_ap, if_pos ⟨rfl, rfl⟩, v1]
      · rw [zup_ap, if_pos ⟨rfl, rfl⟩, cSe, row 10 _ (by omega), row 6 _ (by omega)]
        refine zfold_eq _ (fun i hi b => ?_)
        exact congrArg (fun x : Int32 => if x ≤ 0 then b else b + 1) (row 18 (zn (nI e * 5 + nI i)) (by omega))
    · have ih := r1_v h hc a (by omega) (by omega)
      split
      · rw [zup_ap, if_neg (by omega), zup_ap, if_neg (by omega), cTF_ne _ _ (by omega), zup_ap, if_neg (by omega), zup_ap, if_neg (by omega), cTF_ne _ _ (by omega)]
        exact ih
      · exact ih
/-! counts -/
def zcn (p : Nat → Bool) : Nat → Nat
  | 0 => 0
  | n + 1 => zcn p n + (if p n then 1 else 0)
theorem zcn_le (p : Nat → Bool) : ∀ n, zcn p n ≤ n
  | 0 => Nat.le_refl 0
  | n + 1 => by
    have := zcn_le p n
    rw [zcn]
    split <;> omega
theorem zcn_fold {g : Nat → Int32 → Int32} {p : Nat → Bool} (x : Nat) : ∀ n : Nat, (∀ i, i < n → ∀ a, g i a = if p i then a + 1 else a) → zfold g (nI x) n = nI (x + zcn p n)
  | 0, _ => rfl
  | n + 1, h => by
    rw [zfold_s, zcn_fold x n (fun i hi => h i (by omega)), h n (by omega), zcn]
    by_cases c : p n
    · rw [if_pos c, if_pos c, nI_1, Nat.add_assoc]
    · rw [if_neg c, if_neg c, Nat.add_zero]
theorem zcn_congr {p q : Nat → Bool} : ∀ n : Nat, (∀ i, i < n → p i = q i) → zcn p n = zcn q n
  | 0, _ => rfl
  | n + 1, h => by rw [zcn, zcn, zcn_congr n (fun i hi => h i (by omega)), h n (by omega)]
theorem zcn_mono {p q : Nat → Bool} : ∀ n : Nat, (∀ i, i < n → p i = true → q i = true) → zcn p n ≤ zcn q n
  | 0, _ => Nat.le_refl 0
  | n + 1, h => by
    have ih := zcn_mono n (fun i hi => h i (by omega))
    have hn := h n (by omega)
    rw [zcn, zcn]
    by_cases c : p n = true
    · rw [if_pos c, if_pos (hn c)]
      omega
    · rw [if_neg c]
      split <;> omega
theorem zcn_lt {p q : Nat → Bool} {k : Nat} (hp : p k = false) (hq : q k = true) : ∀ n : Nat, k < n → (∀ i, i < n → p i = true → q i = true) → zcn p n < zcn q n
  | 0, h, _ => by omega
  | n + 1, hk, h => by
    rw [zcn, zcn]
    by_cases c : k = n
    · subst c
      have := zcn_mono k (fun i hi => h i (by omega))
      rw [hp, hq, if_neg (by decide), if_pos rfl]
      omega
    · have ih := zcn_lt hp hq n (by omega) (fun i hi => h i (by omega))
      have hn := h n (by omega)
      by_cases d : p n = true
      · rw [if_pos d, if_pos (hn d)]
        omega
      · rw [if_neg d]
        split <;> omega
theorem zcn_add {p q : Nat → Bool} (hd : ∀ i, p i = true → q i = false) (e : Nat) : ∀ n : Nat, e ≤ n → zcn (fun i => p i || (decide (i < e) && q i)) n = zcn p n + zcn q e := by
  have lo : ∀ n, n ≤ e → zcn (fun i => p i || (decide (i < e) && q i)) n = zcn p n + zcn q n := by
    intro n
    induction n with
    | zero => intro _; rfl
    | succ n ih =>
      intro hn
      rw [zcn, zcn, zcn, ih (by omega), decide_eq_true (show n < e by omega), Bool.true_and]
      have := hd n
      cases hp : p n <;> cases hq : q n
      · rfl
      · simp; omega
      · simp; omega
      · rw [this hp] at hq
        cases hq
  intro n
  induction n with
  | zero =>
    intro h
    obtain rfl : e = 0 := by omega
    rfl
  | succ n ih =>
    intro h
    by_cases c : e = n + 1
    · subst c
      exact lo _ (Nat.le_refl _)
    · rw [zcn, zcn, ih (by omega), decide_eq_false (show ¬ n < e by omega), Bool.false_and, Bool.or_false]
      omega
