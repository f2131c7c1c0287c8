theorem ins_above (m : Int32) : ∀ (k : Nat) (f : Nat → Int32) (i : Nat), k < i → zins m k f i = f i
  | 0, f, i, h => by rw [zins, upd, if_neg (by omega)]
  | k + 1, f, i, h => by
    rw [zins]
    split
    · rw [upd, if_neg (by omega)]
    · rw [ins_above m k _ i (by omega), upd, if_neg (by omega)]
theorem ins_ind (m : Int32) : ∀ (k : Nat) (f f' : Nat → Int32), (∀ i, i < k → f i = f' i) → ∀ i, i ≤ k → zins m k f i = zins m k f' i
  | 0, f, f', h, i, hi => by
    obtain rfl : i = 0 := by omega
    rw [zins, zins, upd, upd, if_pos rfl, if_pos rfl]
  | k + 1, f, f', h, i, hi => by
    rw [zins, zins, h k (by omega)]
    split
    · by_cases c : i = k + 1
      · rw [upd, upd, if_pos c, if_pos c]
      · rw [upd, upd, if_neg c, if_neg c, h i (by omega)]
    · by_cases c : i = k + 1
      · subst c
        rw [ins_above m k _ _ (by omega), ins_above m k _ _ (by omega), upd, upd, if_pos rfl, if_pos rfl]
      · refine ins_ind m k _ _ (fun j hj => ?_) i (by omega)
        rw [upd, upd, if_neg (by omega), if_neg (by omega), h j (by omega)]
theorem srt_ind {f f' g g' : Nat → Int32} : ∀ n : Nat, (∀ i, i < n → g i = g' i) → ∀ i, i < n → zsrt f g n i = zsrt f' g' n i
  | 0, _, i, h => by omega
  | n + 1, h, i, hi => by
    rw [zsrt, zsrt, h n (by omega)]
    exact ins_ind _ n _ _ (fun j hj => srt_ind n (fun i hi => h i (by omega)) j hj) i (by omega)
theorem ins_P {P : Int32 → Prop} {m : Int32} (hm : P m) : ∀ (k : Nat) (f : Nat → Int32), (∀ i, i < k → P (f i)) → ∀ i, i ≤ k → P (zins m k f i)
  | 0, f, h, i, hi => by
    obtain rfl : i = 0 := by omega
    rw [zins, upd, if_pos rfl]
    exact hm
  | k + 1, f, h, i, hi => by
    rw [zins]
    split
    · by_cases c : i = k + 1
      · rw [upd, if_pos c]
        exact hm
      · rw [upd, if_neg c]
        exact h i (by omega)
    · by_cases c : i = k + 1
      · subst c
        rw [ins_above m k _ _ (by omega), upd, if_pos rfl]
        exact h k (by omega)
      · refine ins_P hm k _ (fun j hj => ?_) i (by omega)
        rw [upd, if_neg (by omega)]
        exact h j (by omega)
theorem srt_P {P : Int32 → Prop} {f g : Nat → Int32} : ∀ n : Nat, (∀ i, i < n → P (g i)) → ∀ i, i < n → P (zsrt f g n i)
  | 0, _, i, h => by omega
  | n + 1, h, i, hi => by
    rw [zsrt]
    exact ins_P (h n (by omega)) n _ (fun j hj => srt_P n (fun i hi => h i (by omega)) j hj) i (by omega)
abbrev sld (h : Nat → Int32) (k : Nat) : Prop := ∀ i j, i ≤ j → j < k → h i ≤ h j
theorem ile {a b : Int32} : a ≤ b ↔ a.toInt ≤ b.toInt := Int32.le_iff_toInt_le
theorem ilt {a b : Int32} : a < b ↔ a.toInt < b.toInt := Int32.lt_iff_toInt_lt
theorem zmn_t (a b : Int32) : (zmn a b).toInt = if b.toInt < a.toInt then b.toInt else a.toInt := by
  rw [zmn]
  by_cases h : b < a
  · rw [if_pos h, if_pos (ilt.mp h)]
  · rw [if_neg h, if_neg (fun q => h (ilt.mpr q))]
theorem zmx_t (a b : Int32) : (zmx a b).toInt = if a.toInt < b.toInt then b.toInt else a.toInt := by
  rw [zmx]
  by_cases h : a < b
  · rw [if_pos h, if_pos (ilt.mp h)]
  · rw [if_neg h, if_neg (fun q => h (ilt.mpr q))]
theorem ins_srt (m : Int32) : ∀ (k : Nat) (f : Nat → Int32), sld f k → sld (zins m k f) (k + 1) ∧ zins m k f 0 = (if k = 0 then m else zmn (f 0) m) ∧ zins m k f k = (if k = 0 then m else zmx (f (k - 1)) m)
  | 0, f, h => by
    refine ⟨fun i j hi hj => ?_, ?_, ?_⟩
    · obtain rfl : j = 0 := by omega
      obtain rfl : i = 0 := by omega
      exact Int32.le_refl _
    · rw [zins, upd, if_pos rfl, if_pos rfl]
    · rw [zins, upd, if_pos rfl, if_pos rfl]
  | k + 1, f, h => by
    rw [zins, if_neg (show ¬ k + 1 = 0 by omega), if_neg (show ¬ k + 1 = 0 by omega), show k + 1 - 1 = k from rfl]
    have h0k := h 0 k (by omega) (by omega)
    rw [ile] at h0k
    by_cases c : f k ≤ m
    · rw [if_pos c]
      rw [ile] at c
      refine ⟨fun i j hi hj => ?_, ?_, ?_⟩
      · by_cases cj : j = k + 1
        · by_cases ci : i = k + 1
          · rw [ci, cj]
            exact Int32.le_refl _
          · rw [upd, upd, if_neg ci, if_pos cj]
            have := h i k (by omega) (by omega)
            rw [ile] at this ⊢
            omega
        · rw [upd, upd, if_neg (by omega), if_neg cj]
          exact h i j hi (by omega)
      · rw [upd, if_neg (by omega), tI_eq, zmn_t, if_neg (by omega)]
      · rw [upd, if_pos rfl, tI_eq, zmx_t]
        split <;> omega
    · rw [if_neg c]
      rw [ile] at c
      have hs : sld (upd f (k + 1) (f k)) k := fun i j hi hj => by
        rw [upd, upd, if_neg (by omega), if_neg (by omega)]
        exact h i j hi (by omega)
      obtain ⟨i1, i2, i3⟩ := ins_srt m k _ hs
      have it : zins m k (upd f (k + 1) (f k)) (k + 1) = f k := by rw [ins_above m k _ _ (by omega), upd, if_pos rfl]
      have ik : (zins m k (upd f (k + 1) (f k)) k).toInt ≤ (f k).toInt := by
        rw [i3]
        by_cases hk : k = 0
        · rw [if_pos hk]
          omega
        · rw [if_neg hk, upd, if_neg (by omega), zmx_t]
          have := h (k - 1) k (by omega) (by omega)
          rw [ile] at this
          split <;> omega
      refine ⟨fun i j hi hj => ?_, ?_, ?_⟩
      · by_cases cj : j = k + 1
        · by_cases ci : i = k + 1
          · rw [ci, cj]
            exact Int32.le_refl _
          · rw [cj, it, ile]
            have := i1 i k (by omega) (by omega)
            rw [ile] at this
            omega
        · exact i1 i j hi (by omega)
      · rw [i2]
        by_cases hk : k = 0
        · subst hk
          rw [if_pos rfl, tI_eq, zmn_t, if_pos (by omega)]
        · rw [if_neg hk, upd, if_neg (by omega)]
      · rw [it, tI_eq, zmx_t, if_neg (by omega)]
theorem srt_srt (f g : Nat → Int32) : ∀ n : Nat, sld (zsrt f g n) n
  | 0 => fun i j _ h => by omega
  | n + 1 => (ins_srt (g n) n _ (srt_srt f g n)).1
theorem srt_ends (f g : Nat → Int32) : ∀ n : Nat, zsrt f g (n + 1) 0 = zfold (fun k a => zmn a (g (k + 1))) (g 0) n ∧ zsrt f g (n + 1) n = zfold (fun k a => zmx a (g (k + 1))) (g 0) n
  | 0 => by
    obtain ⟨-, i2, i3⟩ := ins_srt (g 0) 0 _ (srt_srt f g 0)
    rw [if_pos rfl] at i2 i3
    exact ⟨i2, i3⟩
  | n + 1 => by
    obtain ⟨-, i2, i3⟩ := ins_srt (g (n + 1)) (n + 1) _ (srt_srt f g (n + 1))
    obtain ⟨h1, h2⟩ := srt_ends f g n
    rw [if_neg (by omega)] at i2 i3
    rw [show n + 1 - 1 = n from rfl] at i3
    rw [zsrt, i2, i3, zfold_s, zfold_s, h1, h2]
    exact ⟨rfl, rfl⟩
/-! the nearest whole number -/
theorem xor_sg {x y : Int32} (hy : 0 ≤ y.toInt) : 0 ≤ x ^^^ y ↔ 0 ≤ x.toInt := by
  have m : ∀ z : Int32, z.toBitVec.msb = decide (z.toInt < 0) := fun z => BitVec.msb_eq_toInt
  have h1 := m (x ^^^ y)
  rw [Int32.toBitVec_xor, BitVec.msb_xor, m x, m y, decide_eq_false (show ¬ y.toInt < 0 by omega), Bool.xor_false] at h1
  rw [zle0]
  by_cases c : x.toInt < 0
  · rw [decide_eq_true c] at h1
    have := of_decide_eq_true h1.symm
    omega
  · rw [decide_eq_false c] at h1
    have := of_decide_eq_false h1.symm
    omega
theorem par1 (q : Int32) : q &&& 1 = 1 ↔ q.toInt % 2 = 1 := by
  have h1 : (q &&& 1).toBitVec.toNat = q.toBitVec.toNat % 2 := by
    rw [Int32.toBitVec_and, BitVec.toNat_and]
    exact Nat.and_one_is_mod _
  have h2 : q.toInt = if 2 * q.toBitVec.toNat < 2 ^ 32 then (q.toBitVec.toNat : Int) else q.toBitVec.toNat - 2 ^ 32 := BitVec.toInt_eq_toNat_cond _
  constructor
  · intro h
    rw [h] at h1
    have h3 : (1 : Int32).toBitVec.toNat = 1 := rfl
    rw [h3] at h1
    split at h2 <;> omega
  · intro h
    have h3 : (q &&& 1).toBitVec = (1 : Int32).toBitVec := by
      apply BitVec.eq_of_toNat_eq
      rw [h1]
      show _ = 1
      split at h2 <;> omega
    exact Int32.toBitVec_inj.mp h3
theorem td_n {a : Int} {b : Int} (h : a < 0) : a.tdiv b = -((-a).tdiv b) := by
  rw [Int.neg_tdiv, Int.neg_neg]
theorem td_p {a b : Int} (h : 0 ≤ a) : a.tdiv b = a / b := Int.tdiv_eq_ediv_of_nonneg h
theorem dvI {x y : Int32} (hy : 1 ≤ y.toInt) : (x / y).toInt = if 0 ≤ x.toInt then x.toInt / y.toInt else -(-x.toInt / y.toInt) := by
  rw [Int32.toInt_div_of_ne_right x y (fun q => by rw [q] at hy; exact absurd hy (by decide))]
  split
  · rw [td_p (by assumption)]
  · rw [td_n (by omega), td_p (by omega)]
theorem par2 (q : Int32) : q - q / 2 * 2 = 0 ↔ ¬ q &&& 1 = 1 := by
  have h := dvI (x := q) (y := 2) (by decide)
  have h2 : (2 : Int32).toInt = 2 := rfl
  have lo := tI_lo q
  have hi := tI_hi q
  rw [par1, tI_eq, tI_sub, tI_mul, h, h2]
  rw [show (0 : Int32).toInt = 0 from rfl]
  split <;> omega
theorem nr_v {x y : Int32} (hx : -12000000 ≤ x.toInt ∧ x.toInt ≤ 12000000) (hy : y = 1 ∨ y = 2 ∨ y = 3 ∨ y = 4 ∨ y = 5) : (nrq x y).toInt = x.toInt / y.toInt := by
  have h1 := dvI (x := x) (y := y) (by rcases hy with h | h | h | h | h <;> subst h <;> decide)
  have h2 := dvI (x := y - 1 - x) (y := y) (by rcases hy with h | h | h | h | h <;> subst h <;> decide)
  rw [nrq]
  rw [tI_sub, tI_sub] at h2
  by_cases c : x < 0
  · rw [if_pos c, tI_neg, h2]
    rw [zlt0] at c
    rcases hy with h | h | h | h | h <;> subst h <;> (rw [show (1 : Int32).toInt = 1 from rfl]) <;> (try rw [show (2 : Int32).toInt = 2 from rfl]) <;> (try rw [show (3 : Int32).toInt = 3 from rfl]) <;> (try rw [show (4 : Int32).toInt = 4 from rfl]) <;> (try rw [show (5 : Int32).toInt = 5 from rfl]) <;> (rw [if_pos (by omega)]) <;> omega
  · rw [if_neg c, h1]
    rw [zlt0] at c
    rw [if_pos (by omega)]
theorem fd_v {x y : Int32} (hx : -12000000 ≤ x.toInt ∧ x.toInt ≤ 12000000) (hy : y = 1 ∨ y = 2 ∨ y = 3 ∨ y = 4 ∨ y = 5) : (zfd x y).toInt = x.toInt / y.toInt := by
  have y1 : 1 ≤ y.toInt := by rcases hy with h | h | h | h | h <;> subst h <;> decide
  have h1 := dvI (x := x) (y := y) y1
  have sg := xor_sg (x := x) (y := y) (by omega)
  rw [zfd]
  by_cases c : 0 ≤ x ^^^ y
  · rw [if_pos c, h1, if_pos (sg.mp c)]
  · have c' : ¬ 0 ≤ x.toInt := fun q => c (sg.mpr q)
    rw [if_neg c]
    rw [if_neg c'] at h1
    have e : x / y * y = x ↔ (x / y).toInt * y.toInt = x.toInt := by
      rw [tI_eq, tI_mul, h1]
      rcases hy with h | h | h | h | h <;> subst h <;> (try rw [show (1 : Int32).toInt = 1 from rfl]) <;> (try rw [show (2 : Int32).toInt = 2 from rfl]) <;> (try rw [show (3 : Int32).toInt = 3 from rfl]) <;> (try rw [show (4 : Int32).toInt = 4 from rfl]) <;> (try rw [show (5 : Int32).toInt = 5 from rfl]) <;> omega
    by_cases d : x / y * y = x
    · rw [if_pos d, h1]
      rw [e, h1] at d
      rcases hy with h | h | h | h | h <;> subst h <;> (try rw [show (1 : Int32).toInt = 1 from rfl] at *) <;> (try rw [show (2 : Int32).toInt = 2 from rfl] at *) <;> (try rw [show (3 : Int32).toInt = 3 from rfl] at *) <;> (try rw [show (4 : Int32).toInt = 4 from rfl] at *) <;> (try rw [show (5 : Int32).toInt = 5 from rfl] at *) <;> omega
    · rw [if_neg d, tI_sub, h1]
      rw [e, h1] at d
      rw [show (1 : Int32).toInt = 1 from rfl]
      rcases hy with h | h | h | h | h <;> subst h <;> (try rw [show (1 : Int32).toInt = 1 from rfl] at *) <;> (try rw [show (2 : Int32).toInt = 2 from rfl] at *) <;> (try rw [show (3 : Int32).toInt = 3 from rfl] at *) <;> (try rw [show (4 : Int32).toInt = 4 from rfl] at *) <;> (try rw [show (5 : Int32).toInt = 5 from rfl] at *) <;> omega
theorem fd_eq {x y : Int32} (hx : -12000000 ≤ x.toInt ∧ x.toInt ≤ 12000000) (hy : y = 1 ∨ y = 2 ∨ y = 3 ∨ y = 4 ∨ y = 5) : zfd x y = nrq x y := by
  rw [tI_eq, fd_v hx hy, nr_v hx hy]
theorem fm_eq {x y : Int32} (hx : -12000000 ≤ x.toInt ∧ x.toInt ≤ 12000000) (hy : y = 1 ∨ y = 2 ∨ y = 3 ∨ y = 4 ∨ y = 5) : zfm x y = x - nrq x y * y := by
  rw [← fd_eq hx hy, zfm, zfd]
  by_cases c : 0 ≤ x ^^^ y
  · rw [if_pos c, if_pos c]
  · rw [if_neg c, if_neg c]
    by_cases d : x / y * y = x
    · rw [if_pos d, if_pos (by rw [d]; exact Int32.sub_self x)]
    · rw [if_neg d, if_neg (fun q => d (by grind))]
      grind
theorem ne_eq {x y : Int32} (hx : -12000000 ≤ x.toInt ∧ x.toInt ≤ 12000000) (hy : y = 1 ∨ y = 2 ∨ y = 3 ∨ y = 4 ∨ y = 5) : zne x y = nrd x y := by
  rw [zne, nrd, if_pos (by rcases hy with h | h | h | h | h <;> subst h <;> decide), fd_eq hx hy, fm_eq hx hy]
  simp only [par2]
theorem nrd_bd {x y : Int32} (hx : -12000000 ≤ x.toInt ∧ x.toInt ≤ 12000000) (hy : y = 1 ∨ y = 2 ∨ y = 3 ∨ y = 4 ∨ y = 5) : -12000001 ≤ (nrd x y).toInt ∧ (nrd x y).toInt ≤ 12000001 := by
  have h := nr_v hx hy
  have hq : -12000000 ≤ (nrq x y).toInt ∧ (nrq x y).toInt ≤ 12000000 := by
    rw [h]
    rcases hy with h | h | h | h | h <;> subst h <;> (try rw [show (1 : Int32).toInt = 1 from rfl]) <;> (try rw [show (2 : Int32).toInt = 2 from rfl]) <;> (try rw [show (3 : Int32).toInt = 3 from rfl]) <;> (try rw [show (4 : Int32).toInt = 4 from rfl]) <;> (try rw [show (5 : Int32).toInt = 5 from rfl]) <;> omega
  have hq1 : (nrq x y + 1).toInt = (nrq x y).toInt + 1 := by
    rw [tI_add, show (1 : Int32).toInt = 1 from rfl]
    omega
  rw [nrd]
  repeat' split
  all_goals first | omega | (rw [hq1]; omega)
