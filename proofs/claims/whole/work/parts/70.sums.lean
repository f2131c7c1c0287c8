/-! sums over the events -/
theorem zsm_congr {f g : Nat → Int32} : ∀ n : Nat, (∀ i, i < n → f i = g i) → zsm f n = zsm g n
  | 0, _ => rfl
  | n + 1, h => by rw [zsm, zsm, zsm_congr n (fun i hi => h i (by omega)), h n (by omega)]
theorem zsm_upd {f g : Nat → Int32} {k : Nat} (h : ∀ i, i ≠ k → g i = f i) : ∀ n : Nat, k < n → zsm g n = zsm f n + (g k - f k)
  | 0, hk => by omega
  | n + 1, hk => by
    rw [zsm, zsm]
    by_cases hn : k = n
    · subst hn
      rw [zsm_congr k (fun i hi => h i (by omega))]
      grind
    · rw [zsm_upd h n (by omega), h n (by omega)]
      grind
def zor (f : Nat → Int32) : Nat → Int32
  | 0 => 0
  | n + 1 => zor f n ||| f n
theorem zor_congr {f g : Nat → Int32} : ∀ n : Nat, (∀ i, i < n → f i = g i) → zor f n = zor g n
  | 0, _ => rfl
  | n + 1, h => by rw [zor, zor, zor_congr n (fun i hi => h i (by omega)), h n (by omega)]
def tM (F : zFt) (j i : Nat) : Int32 := if F 16 i = 0 then 0 else if F 12 i = 0 then (if zn (cMi F (F 14 i) (F 13 i)) = j then F 15 i else 0) else 0
def tO (F : zFt) (e i : Nat) : Int32 := if F 16 i = 0 then 0 else if F 12 i = 0 then 0 else if F 12 i = 1 then (if zn (F 14 i) = e then F 15 i else 0) else 0
def tR (F : zFt) (j i : Nat) : Int32 := if F 16 i = 0 then 0 else if F 12 i = 0 then 0 else if F 12 i = 1 then 0 else if zn (F 14 i * 8 + F 15 i) = j then 1 else 0
def tB (F : zFt) (e i : Nat) : Int32 := if F 16 i = 0 then 0 else if F 12 i = 0 then 0 else if F 12 i = 1 then 0 else if zn (F 14 i) = e then 1 <<< (F 15 i &&& 31) else 0
def mS (F : zFt) : Prop := (∀ j, F 18 j = zsm (tM F j) (zn (F 11 6))) ∧ (∀ e, F 17 e = zsm (tO F e) (zn (F 11 6))) ∧ (∀ j, F 19 j = zsm (tR F j) (zn (F 11 6))) ∧ ∀ q, zn (F 11 6) ≤ q → F 16 q = 0
theorem t_same {F G : zFt} {i : Nat} (e : ∀ k j, k = 5 ∨ k = 9 ∨ (k = 12 ∨ k = 13 ∨ k = 14 ∨ k = 15 ∨ k = 16) ∧ j = i → G k j = F k j) : (∀ j, tM G j i = tM F j i) ∧ (∀ j, tO G j i = tO F j i) ∧ (∀ j, tR G j i = tR F j i) ∧ ∀ j, tB G j i = tB F j i := by
  have e5 : ∀ j, G 5 j = F 5 j := fun j => e 5 j (by omega)
  have e9 : ∀ j, G 9 j = F 9 j := fun j => e 9 j (by omega)
  have e12 := e 12 i (by omega)
  have e13 := e 13 i (by omega)
  have e14 := e 14 i (by omega)
  have e15 := e 15 i (by omega)
  have e16 := e 16 i (by omega)
  simp only [tM, tO, tR, tB, cMi, e5, e9, e12, e13, e14, e15, e16]
  exact ⟨fun _ => trivial, fun _ => trivial, fun _ => trivial, fun _ => trivial⟩
theorem mS_one {F G : zFt} {i : Nat} (h : mS F) (hi : i < zn (F 11 6)) (e : ∀ k j, k ≠ 16 → k ≠ 17 → k ≠ 18 → k ≠ 19 → G k j = F k j) (e16 : ∀ k, k ≠ i → G 16 k = F 16 k) (h18 : ∀ j, G 18 j = F 18 j + (tM G j i - tM F j i)) (h17 : ∀ j, G 17 j = F 17 j + (tO G j i - tO F j i)) (h19 : ∀ j, G 19 j = F 19 j + (tR G j i - tR F j i)) : mS G := by
  have e11 : G 11 6 = F 11 6 := e 11 6 (by decide) (by decide) (by decide) (by decide)
  have ts : ∀ q, q ≠ i → _ := fun q hq => t_same (F := F) (G := G) (i := q) (fun k j hk => by
    by_cases hk16 : k = 16
    · subst hk16
      have : j = q := by omega
      subst this
      exact e16 _ hq
    · exact e k j (by omega) (by omega) (by omega) (by omega))
  rw [mS, e11]
  refine ⟨fun j => ?_, fun j => ?_, fun j => ?_, fun q hq => ?_⟩
  · rw [h18, h.1, zsm_upd (f := tM F j) (fun q hq => (ts q hq).1 j) _ hi]
  · rw [h17, h.2.1, zsm_upd (f := tO F j) (fun q hq => (ts q hq).2.1 j) _ hi]
  · rw [h19, h.2.2.1, zsm_upd (f := tR F j) (fun q hq => (ts q hq).2.2.1 j) _ hi]
  · rw [e16 q (by omega), h.2.2.2 q hq]
theorem c_m1 (v : Int32) : -1 * v = 0 - v := by grind
theorem mS_sc {F : zFt} {i : Nat} {b : Int32} (h : mS F) (hi : i < zn (F 11 6)) (h16 : F 16 i = 0 ∨ F 16 i = 1) (hb : b = 0 ∨ b = 1) : mS (cSc F i b) := by
  unfold cSc
  by_cases hq : F 16 i = b
  · rw [if_pos hq]
    exact h
  rw [if_neg hq]
  have key : ∀ (v : Int32), (if b = 0 then (-1 : Int32) else 1) * v = (if b = 0 then 0 else v) - (if F 16 i = 0 then 0 else v) := by
    intro v
    rcases hb with rfl | rfl
    · rcases h16 with q | q
      · exact absurd q hq
      · rw [if_pos rfl, if_pos rfl, q, if_neg (by decide), c_m1]
    · rcases h16 with q | q
      · rw [if_neg (by decide), if_neg (by decide), q, if_pos rfl]
        grind
      · exact absurd q hq
  by_cases h0 : F 12 i = 0
  · rw [if_pos h0]
    refine mS_one (i := i) h hi (fun k j a1 a2 a3 a4 => ?_) (fun k hk => ?_) (fun j => ?_) (fun j => ?_) (fun j => ?_)
    · rw [zup_ap, if_neg (by omega), zup_ap, if_neg (by omega)]
    · rw [zup_ap, if_neg (by omega), zup_ap, if_neg (by omega)]
    · simp only [tM, cMi, zup_ap, Nat.reduceEqDiff, false_and, true_and, and_self, ↓reduceIte]
      rw [if_pos h0]
      by_cases hj : j = zn (cMi F (F 14 i) (F 13 i))
      · rw [if_pos hj, if_pos hj.symm, key, hj]
      · have hj2 : ¬ zn (cMi F (F 14 i) (F 13 i)) = j := fun q => hj q.symm
        rw [if_neg hj, if_neg hj2]
        split <;> split <;> grind
    · simp only [tO, zup_ap, Nat.reduceEqDiff, false_and, true_and, and_self, ↓reduceIte]
      rw [if_pos h0]
      split <;> split <;> grind
    · simp only [tR, zup_ap, Nat.reduceEqDiff, false_and, true_and, and_self, ↓reduceIte]
      rw [if_pos h0]
      split <;> split <;> grind
  · rw [if_neg h0]
    by_cases h1 : F 12 i = 1
    · rw [if_pos h1]
      refine mS_one (i := i) h hi (fun k j a1 a2 a3 a4 => ?_) (fun k hk => ?_) (fun j => ?_) (fun j => ?_) (fun j => ?_)
      · rw [zup_ap, if_neg (by omega), zup_ap, if_neg (by omega)]
      · rw [zup_ap, if_neg (by omega), zup_ap, if_neg (by omega)]
      · simp only [tM, zup_ap, Nat.reduceEqDiff, false_and, true_and, and_self, ↓reduceIte]
        rw [if_neg h0]
        split <;> split <;> grind
      · simp only [tO, zup_ap, Nat.reduceEqDiff, false_and, true_and, and_self, ↓reduceIte]
        rw [if_neg h0, if_pos h1]
        by_cases hj : j = zn (F 14 i)
        · rw [if_pos hj, if_pos hj.symm, key, hj]
        · have hj2 : ¬ zn (F 14 i) = j := fun q => hj q.symm
          rw [if_neg hj, if_neg hj2]
          split <;> split <;> grind
      · simp only [tR, zup_ap, Nat.reduceEqDiff, false_and, true_and, and_self, ↓reduceIte]
        rw [if_neg h0, if_pos h1]
        split <;> split <;> grind
    · rw [if_neg h1]
      refine mS_one (i := i) h hi (fun k j a1 a2 a3 a4 => ?_) (fun k hk => ?_) (fun j => ?_) (fun j => ?_) (fun j => ?_)
      · rw [zup_ap, if_neg (by omega), zup_ap, if_neg (by omega)]
      · rw [zup_ap, if_neg (by omega), zup_ap, if_neg (by omega)]
      · simp only [tM, zup_ap, Nat.reduceEqDiff, false_and, true_and, and_self, ↓reduceIte]
        rw [if_neg h0]
        split <;> split <;> grind
      · simp only [tO, zup_ap, Nat.reduceEqDiff, false_and, true_and, and_self, ↓reduceIte]
        rw [if_neg h0, if_neg h1]
        split <;> split <;> grind
      · simp only [tR, zup_ap, Nat.reduceEqDiff, false_and, true_and, and_self, ↓reduceIte]
        rw [if_neg h0, if_neg h1]
        have k1 := key 1
        rw [Int32.mul_one] at k1
        by_cases hj : j = zn (F 14 i * 8 + F 15 i)
        · rw [if_pos hj, if_pos hj.symm, k1, hj]
        · have hj2 : ¬ zn (F 14 i * 8 + F 15 i) = j := fun q => hj q.symm
          rw [if_neg hj, if_neg hj2]
          split <;> split <;> grind
/-- the last event doesn't count, and is taken away -/
theorem mS_dec {F : zFt} {n : Nat} (h : mS F) (hn : zn (F 11 6) = n + 1) (h0 : F 16 n = 0) (hb : n < 2147483648) : mS (zup F 11 6 (nI n)) := by
  have ts : ∀ q, _ := fun q => t_same (F := F) (G := zup F 11 6 (nI n)) (i := q) (fun k j hk => by rw [zup_ap, if_neg (by omega)])
  rw [mS, show zup F 11 6 (nI n) 11 6 = nI n from rfl, zn_nI hb]
  rw [mS, hn] at h
  refine ⟨fun j => ?_, fun j => ?_, fun j => ?_, fun q hq => ?_⟩
  · rw [zup_ap, if_neg (by omega), h.1, zsm, show tM F j n = 0 by rw [tM, if_pos h0], Int32.add_zero]
    exact zsm_congr n (fun q _ => ((ts q).1 j).symm)
  · rw [zup_ap, if_neg (by omega), h.2.1, zsm, show tO F j n = 0 by rw [tO, if_pos h0], Int32.add_zero]
    exact zsm_congr n (fun q _ => ((ts q).2.1 j).symm)
  · rw [zup_ap, if_neg (by omega), h.2.2.1, zsm, show tR F j n = 0 by rw [tR, if_pos h0], Int32.add_zero]
    exact zsm_congr n (fun q _ => ((ts q).2.2.1 j).symm)
  · rw [zup_ap, if_neg (by omega)]
    by_cases hq' : q = n
    · rw [hq', h0]
    · exact h.2.2.2 q (by omega)
theorem cSc_at (F : zFt) (i : Nat) (b : Int32) : cSc F i b 16 i = b := by
  unfold cSc
  split
  · assumption
  · split
    · rw [zup_ap, if_neg (by omega), zup_ap, if_pos ⟨rfl, rfl⟩]
    · split
      · rw [zup_ap, if_neg (by omega), zup_ap, if_pos ⟨rfl, rfl⟩]
      · rw [zup_ap, if_neg (by omega), zup_ap, if_pos ⟨rfl, rfl⟩]
theorem cCut_16 (F : zFt) (ev : Nat) : ∀ a i, i < ev - a → cCut F ev a 16 i = F 16 i
  | 0, i, _ => rfl
  | a + 1, i, h => by rw [cCut, zup_ap, if_neg (by omega), cSc_16 _ _ _ _ (by omega), cCut_16 F ev a i (by omega)]
theorem mS_cut {F : zFt} (h : mS F) (h4 : zn (F 11 6) ≤ 400) (h16 : ∀ i, i < zn (F 11 6) → F 16 i = 0 ∨ F 16 i = 1) : ∀ a, a ≤ zn (F 11 6) → mS (cCut F (zn (F 11 6)) a) ∧ zn (cCut F (zn (F 11 6)) a 11 6) = zn (F 11 6) - a
  | 0, _ => ⟨h, rfl⟩
  | a + 1, ha => by
    obtain ⟨ih, ie⟩ := mS_cut h h4 h16 a (by omega)
    have e11 : cSc (cCut F (zn (F 11 6)) a) (zn (F 11 6) - 1 - a) 0 11 6 = cCut F (zn (F 11 6)) a 11 6 := cSc_ne _ _ _ (by decide) (by decide) (by decide) (by decide) 6
    have q := mS_sc (i := zn (F 11 6) - 1 - a) (b := 0) ih (by omega) (by rw [cCut_16 F _ a _ (by omega)]; exact h16 _ (by omega)) (Or.inl rfl)
    rw [cCut]
    refine ⟨mS_dec q (by rw [e11, ie]; omega) (cSc_at _ _ _) (by omega), ?_⟩
    rw [zup_ap, if_pos ⟨rfl, rfl⟩, zn_nI (by omega)]
    omega
theorem mS_kt {F : zFt} (h : CI F) (hS : mS F) {m : Int32} (hm : okM F m) : mS (cKt F m) := (mS_cut hS (vin_le1 h.2.2.2.2.1) (fun i hi => (h.2.2.2.2.2.1 i hi).2.2.2.2.2) _ (by omega)).1
theorem mS_ap {F : zFt} (hS : mS F) {x j e y : Int32} (hv : F 11 6 + 1 = nI (zn (F 11 6) + 1)) (h4 : zn (F 11 6) < 400) : mS (cAp0 F x j e y) := by
  have e11 : cAp0 F x j e y 11 6 = nI (zn (F 11 6) + 1) := by rw [cAp0, zup_ap, if_pos ⟨rfl, rfl⟩, hv]
  have ts : ∀ q, q < zn (F 11 6) → _ := fun q hq => t_same (F := F) (G := cAp0 F x j e y) (i := q) (fun k j hk => by
    simp only [cAp0, zup_ap]
    rw [if_neg (by omega), if_neg (by omega), if_neg (by omega), if_neg (by omega), if_neg (by omega), if_neg (by omega)])
  have n16 : cAp0 F x j e y 16 (zn (F 11 6)) = 0 := (cAp_new F x j e y).2.2.2.2.1
  have nk := (cAp_new F x j e y).2.2.2.2.2
  rw [mS, e11, zn_nI (by omega)]
  refine ⟨fun j => ?_, fun j => ?_, fun j => ?_, fun q hq => ?_⟩
  · rw [nk 18 j (by decide) (by decide) (by decide) (by decide) (by decide) (by decide), hS.1, zsm, show tM (cAp0 F x _ e y) j (zn (F 11 6)) = 0 by rw [tM, if_pos n16], Int32.add_zero]
    exact zsm_congr _ (fun q hq => ((ts q hq).1 j).symm)
  · rw [nk 17 j (by decide) (by decide) (by decide) (by decide) (by decide) (by decide), hS.2.1, zsm, show tO (cAp0 F x _ e y) j (zn (F 11 6)) = 0 by rw [tO, if_pos n16], Int32.add_zero]
    exact zsm_congr _ (fun q hq => ((ts q hq).2.1 j).symm)
  · rw [nk 19 j (by decide) (by decide) (by decide) (by decide) (by decide) (by decide), hS.2.2.1, zsm, show tR (cAp0 F x _ e y) j (zn (F 11 6)) = 0 by rw [tR, if_pos n16], Int32.add_zero]
    exact zsm_congr _ (fun q hq => ((ts q hq).2.2.1 j).symm)
  · simp only [cAp0, zup_ap]
    rw [if_neg (by omega), if_neg (by omega), if_neg (by omega), if_neg (by omega), if_neg (by omega), if_neg (by omega)]
    exact hS.2.2.2 q (by omega)
theorem mS_ae {F : zFt} (hS : mS F) {x y : Int32} (hv : F 11 6 + 1 = nI (zn (F 11 6) + 1)) (h4 : zn (F 11 6) < 400) : mS (cAe F x y) := by
  refine mS_sc (mS_ap hS hv h4) ?_ (Or.inl ?_) (Or.inr rfl)
  · rw [show cAp0 F x (sJ F (cIn F)) (sE F (cIn F)) y 11 6 = F 11 6 + 1 from rfl, hv, zn_nI (by omega)]
    omega
  · exact (cAp_new F x _ _ y).2.2.2.2.1
