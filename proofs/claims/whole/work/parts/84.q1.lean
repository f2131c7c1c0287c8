theorem si_v {F G : zFt} {m : Nat} (h : RI F G m) {i : Int32} (h0 : ¬ i < 0) (h1 : i < F 2 7) : nSi G i = nI (sIx F i) ∧ sIx F i < zn (F 2 7) ∧ sIx F i < 8 := by
  obtain ⟨p1, p2, -, -⟩ := sIx_ok h.1 h0 h1
  have := vin_zn p1
  exact ⟨by rw [nSi, RI_28 h, ← vin_nI p1], p2, this⟩
theorem rScoring {F G : zFt} {m : Nat} (i w : Int32) (h : RI F G (400 + m)) : (qScoring G i w).1 = (pScoring F i w).1 ∧ RI (pScoring F i w).2 (qScoring G i w).2 m := by
  unfold qScoring pScoring
  have h7 := h.1.2.2.2.2.2.2.1
  rw [RI_28 h, zi3_zin (vin_0 h7)]
  by_cases c1 : i < 0
  · rw [if_pos (by simp [zin, c1]), if_pos c1]
    exact RI_no3 h _
  rw [if_neg c1]
  by_cases c2' : ¬ i < F 2 7
  · have : F 2 7 ≤ i := by rw [← Int32.not_lt]; exact c2'
    rw [if_pos (by simp [zin, this]), if_neg c2']
    exact RI_no3 h _
  have c2 := Classical.not_not.mp c2'
  have c2n : ¬ F 2 7 ≤ i := by rw [Int32.not_le]; exact c2
  rw [if_neg (by simp [zin, c1, c2n]), if_pos c2]
  by_cases c3' : ¬ 0 ≤ w
  · rw [if_neg c3', if_neg c3']
    exact RI_no3 h _
  have c3 := Classical.not_not.mp c3'
  rw [if_pos c3, if_pos c3]
  obtain ⟨e1, e2, e3⟩ := si_v h c1 c2
  have hs := h.2.2.2.2.2.1.2 (sIx F i) e3
  have zs : zn (nI (sIx F i)) = sIx F i := zn_nI (by omega)
  rw [e1, zs, hs.1, hs.2.1, hs.2.2.2.1, hs.2.2.2.2.1]
  have w0 := zle0.mp c3
  have hw4 : 4 ≤ w ↔ 4 ≤ w.toInt := by rw [Int32.le_iff_toInt_le]; rfl
  by_cases c4 : 4 ≤ w
  · have w4 := hw4.mp c4
    rw [if_pos c4, if_neg (show ¬ w.toInt = 0 by omega), if_neg (show ¬ w.toInt = 1 by omega), if_neg (show ¬ w.toInt = 2 by omega), if_neg (show ¬ w.toInt = 3 by omega)]
    by_cases c5 : F (5 * sIx F i + 35) 5 ≤ w - 4
    · rw [if_pos c5, if_pos c5]
      exact RI_no3 h _
    · rw [if_neg c5, if_neg c5]
      refine ⟨?_, RI_le h (by omega)⟩
      show G 101 (zn (16 * nI (sIx F i) + w - 4)) = F (5 * sIx F i + 36) (zn (w - 4))
      have ht := h.1.2.2.2.2.2.2.2.1 _ e2
      have q := w4_in (vin_0 ht.2.2.2.1) (vin_le1 ht.2.2.2.1) w4 c5
      obtain ⟨k, hk, ek⟩ := vin_of q.1
      have e5 : 16 * nI (sIx F i) + w - 4 = nI (sIx F i * 16 + k) := by
        rw [← nI_add, ← ek, ← nI_16m]
        grind
      rw [e5, ek, zn_nI (by omega), zn_nI (by omega)]
      exact (hs.2.2.2.2.2.1 k hk).1
  · rw [if_neg c4]
    have w4 : w.toInt < 4 := by
      rw [hw4] at c4
      omega
    have t0 := tI1 (x := w) (n := 0) (m := 0) (by decide)
    have t1 := tI1 (x := w) (n := 1) (m := 1) (by decide)
    have t2 := tI1 (x := w) (n := 2) (m := 2) (by decide)
    have t3 := tI1 (x := w) (n := 3) (m := 3) (by decide)
    by_cases d0 : w = 0
    · rw [if_neg (not_not_intro d0), if_pos (t0.mpr d0)]
      exact RI_no3 h _
    rw [if_pos d0, if_neg (fun q => d0 (t0.mp q))]
    by_cases d1 : w = 1
    · rw [if_neg (not_not_intro d1), if_pos (t1.mpr d1)]
      exact RI_no3 h _
    rw [if_pos d1, if_neg (fun q => d1 (t1.mp q))]
    by_cases d2 : w = 2
    · rw [if_neg (not_not_intro d2), if_pos (t2.mpr d2)]
      exact RI_no3 h _
    rw [if_pos d2, if_neg (fun q => d2 (t2.mp q))]
    rw [if_pos (show w.toInt = 3 by
      have n0 : ¬ w.toInt = 0 := fun q => d0 (t0.mp q)
      have n1 : ¬ w.toInt = 1 := fun q => d1 (t1.mp q)
      have n2 : ¬ w.toInt = 2 := fun q => d2 (t2.mp q)
      omega)]
    exact RI_no3 h _
theorem rMark {F G : zFt} {m : Nat} (e j : Int32) (h : RI F G (400 + m)) : (qMark G e j).1 = (pMark F e j).1 ∧ RI (pMark F e j).2 (qMark G e j).2 m := by
  have a2 := h.2.1
  unfold qMark pMark
  rw [a2.2.2.1, a2.2.1, (a2.2.2.2.1 _).2.2.2.2.2.1, (a2.2.2.2.1 (zn e)).2.2.2.2.2.2]
  by_cases c1 : zin e (F 3 9) = false
  · rw [if_pos c1, if_pos c1]
    exact RI_no3 h _
  rw [if_neg c1, if_neg c1]
  by_cases c2 : zin j (F 3 8) = false
  · rw [if_pos c2, if_pos c2]
    exact RI_no3 h _
  rw [if_neg c2, if_neg c2]
  by_cases c3 : F 9 (zn j) = F 10 (zn e)
  · rw [if_pos c3, if_pos c3]
    refine ⟨?_, RI_le h (by omega)⟩
    show G 94 (zn (nMj G e j)) = F 18 (zn (cMi F e j))
    rw [mj_eq a2 c3]
    exact h.2.2.2.2.1.2.2.2.1 _ (vin_zn (sh_mx h.1.1 (zin_v (by simpa using c1)) (zin_v (by simpa using c2))))
  · rw [if_neg c3, if_neg c3]
    exact RI_no3 h _
theorem rEvent {F G : zFt} {m : Nat} (i w : Int32) (h : RI F G (400 + m)) : (qEvent G i w).1 = (pEvent F i w).1 ∧ RI (pEvent F i w).2 (qEvent G i w).2 m := by
  have a5 := h.2.2.2.2.1
  unfold qEvent pEvent
  rw [a5.1, zi3_zin (vin_0 h.1.2.2.2.2.1)]
  by_cases c1 : zin i (F 11 6) = false
  · rw [if_pos c1, if_pos c1]
    exact RI_no3 h _
  have hi := vin_zn (zin_v (show zin i (F 11 6) = true by simpa using c1))
  rw [if_neg c1, if_neg c1, (a5.2.1 _).1, (a5.2.1 _).2.1, (a5.2.1 _).2.2.1, (a5.2.1 _).2.2.2, a5.2.2.1 _ hi]
  have t0 := tI1 (x := w) (n := 0) (m := 0) (by decide)
  have t1 := tI1 (x := w) (n := 1) (m := 1) (by decide)
  have t2 := tI1 (x := w) (n := 2) (m := 2) (by decide)
  have t3 := tI1 (x := w) (n := 3) (m := 3) (by decide)
  have t4 := tI1 (x := w) (n := 4) (m := 4) (by decide)
  simp only [t0, t1, t2, t3, t4]
  by_cases d0 : w = 0
  · rw [if_neg (not_not_intro d0), if_pos d0]
    exact RI_no3 h _
  rw [if_pos d0, if_neg d0]
  by_cases d1 : w = 1
  · rw [if_neg (not_not_intro d1), if_pos d1]
    exact RI_no3 h _
  rw [if_pos d1, if_neg d1]
  by_cases d2 : w = 2
  · rw [if_neg (not_not_intro d2), if_pos d2]
    exact RI_no3 h _
  rw [if_pos d2, if_neg d2]
  by_cases d3 : w = 3
  · rw [if_neg (not_not_intro d3), if_pos d3]
    exact RI_no3 h _
  rw [if_pos d3, if_neg d3]
  by_cases d4 : w = 4
  · rw [if_neg (not_not_intro d4), if_pos d4]
    exact RI_no3 h _
  rw [if_pos d4, if_neg d4]
  exact RI_no3 h _
theorem rFailure {F G : zFt} {m : Nat} (i w : Int32) (h : RI F G (400 + m)) : (qFailure G i w).1 = (pFailure F i w).1 ∧ RI (pFailure F i w).2 (qFailure G i w).2 m := by
  have a7 := h.2.2.2.2.2.2.1
  have hN : mN F (400 + m) := h.2.2.2.2.2.2.2.2.2.2.2.2.2.2
  unfold qFailure pFailure
  have e1 : zi3 i 0 ((if 200 ≤ F 29 1 then 200 else F 29 1) - 1) = cNo i (F 29 1) := by
    rw [zi3_zin (by split <;> first | decide | exact hN.1)]
    simp only [zin, cNo]
    by_cases hx : 200 ≤ F 29 1
    · rw [if_pos hx]
      by_cases h2 : 200 ≤ i
      · simp [h2]
      · have : ¬ F 29 1 ≤ i := by
          rw [Int32.le_iff_toInt_le] at *
          omega
        simp [h2, this]
    · rw [if_neg hx]
      by_cases h2 : F 29 1 ≤ i
      · simp [h2]
      · have : ¬ 200 ≤ i := by
          rw [Int32.le_iff_toInt_le] at *
          omega
        simp [h2, this]
  have e2 : zi3 w 0 5 = zin w 6 := zi3_zin (c := w) (x := 6) (by decide)
  rw [a7.1, e1, e2]
  by_cases c1 : cNo i (F 29 1) = false
  · rw [if_pos c1, if_pos c1]
    exact RI_no3 h _
  rw [if_neg c1, if_neg c1]
  by_cases c2 : w < 0
  · rw [if_pos (by simp [zin, c2]), if_pos c2]
    exact RI_no3 h _
  rw [if_neg c2]
  by_cases c3 : w < 6
  · have : ¬ (6 : Int32) ≤ w := by rw [Int32.not_le]; exact c3
    rw [if_neg (by simp [zin, c2, this]), if_pos c3]
    refine ⟨?_, RI_le h (by omega)⟩
    show G 106 (zn (6 * i + w)) = F 30 (zn (i * 6 + w))
    rw [Int32.mul_comm]
    exact a7.2 _
  · have : (6 : Int32) ≤ w := by rw [← Int32.not_lt]; exact c3
    rw [if_pos (by simp [zin, this]), if_neg c3]
    exact RI_no3 h _
theorem rIs {F G : zFt} {m : Nat} (a b : Int32) (h : RI F G (400 + m)) : (qIs G a b).1 = (pIs F a b).1 ∧ RI (pIs F a b).2 (qIs G a b).2 m := by
  unfold qIs pIs
  rw [zi11, zi11]
  by_cases c1 : zin a 12 = false
  · rw [if_pos c1, if_pos c1]
    exact RI_no3 h _
  rw [if_neg c1, if_neg c1, ik_v (zin_16 (n := 12) (show zin a 12 = true by simpa using c1) (by decide)) b]
  split
  · exact RI_no3 h _
  split
  · exact RI_no3 h _
  exact RI_no3 h _
theorem rCount {F G : zFt} {m : Nat} (w : Int32) (h : RI F G (400 + m)) : (qCount G w).1 = (pCount F w).1 ∧ RI (pCount F w).2 (qCount G w).2 m := by
  have h' := h
  obtain ⟨a1, a2, a3, a4, a5, a6, a7, a8, a9, -⟩ := h'
  unfold qCount pCount
  rw [a2.1, a2.2.2.1, a2.2.1, a3.1, a4.1, a5.1, a8.1, a7.1, a8.2, a4.2.1]
  repeat' split
  all_goals exact RI_no3 h _
theorem zfl64_eq {g g' : Nat → Int64 → Int64} {x : Int64} : ∀ n : Nat, (∀ i, i < n → ∀ a, g i a = g' i a) → zfl64 g x n = zfl64 g' x n
  | 0, _ => rfl
  | n + 1, h => by rw [zfl64, zfl64, zfl64_eq n (fun i hi => h i (by omega)), h n (by omega)]
theorem rDigest {F G : zFt} {m : Nat} (h : RI F G m) : qDigest G = pDigest F := by
  obtain ⟨a1, a2, a3, a4, a5, a6, a7, a8, a9, b1, -⟩ := h
  have l60 := vin_le1 a1.1.2.2.1
  have l12 := vin_le1 a1.1.1
  have l8 := vin_le1 a1.2.2.2.2.2.2.1
  unfold qDigest pDigest
  rw [a2.2.2.1, a5.1, a2.1, a6.1]
  have e2 : ∀ x, zfl64 (gM2 G) x (zn (F 3 9)) = zfl64 (gD2 F) x (zn (F 3 9)) := fun x => by
    refine zfl64_eq _ (fun e he a => ?_)
    have hv : vp_in (nI e) 60 := vin_mk (by omega)
    have ez : zn (nI e) = e := zn_nI (by omega)
    have hc := sh_okC a1.1 he
    have r := r96 a1 b1 a5 hv
    rw [ez] at r
    simp only [gM2, gD2]
    rw [r, (a5.2.2.2.2 e (by omega)).1, (a2.2.2.2.1 e).2.2.2.2.2.2, (a2.2.2.2.1 _).2.2.1]
    have e1 : zfl64 (gM1 G e) a (zn (F 6 (zn (F 10 e)))) = zfl64 (gD1 F e) a (zn (F 6 (zn (F 10 e)))) := by
      refine zfl64_eq _ (fun k hk b => ?_)
      simp only [gM1, gD1]
      rw [ma_eq a5 hv (by have := hc.2.1; omega)]
    rw [e1]
  have e3 : ∀ x, zfl64 (gM3 G) x (zn (F 11 6)) = zfl64 (gD3 F) x (zn (F 11 6)) := fun x => by
    refine zfl64_eq _ (fun i hi a => ?_)
    simp only [gM3, gD3]
    rw [(a5.2.1 i).1, (a5.2.1 i).2.1, (a5.2.1 i).2.2.1, (a5.2.1 i).2.2.2, a5.2.2.1 i hi]
  have e4 : ∀ x, zfl64 (gM4 G) x (zn (F 3 7)) = zfl64 (gD4 F) x (zn (F 3 7)) := fun x => by
    refine zfl64_eq _ (fun c hc a => ?_)
    simp only [gM4, gD4]
    rw [(a2.2.2.2.1 c).2.2.2.1]
  have e5 : zfold (gM5 G) 0 (zn (F 2 7)) = zfold (gD5 F) 0 (zn (F 2 7)) := by
    refine zfold_eq _ (fun s hs a => ?_)
    simp only [gM5, gD5]
    rw [(a6.2 s (by omega)).2.2.2.1]
  rw [e2, e3, e4, e5]
