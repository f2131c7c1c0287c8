/-! the order -/
def kB (T O A : Nat → Int32) (a b : Nat) : Bool := if T a = T b then (if O a = O b then !decide (A a ≤ A b) else !decide (O b ≤ O a)) else !decide (T a ≤ T b)
theorem kB_t (T O A : Nat → Int32) (a b : Nat) : kB T O A a b = true ↔ (T b).toInt < (T a).toInt ∨ (T a).toInt = (T b).toInt ∧ ((O a).toInt < (O b).toInt ∨ (O a).toInt = (O b).toInt ∧ (A b).toInt < (A a).toInt) := by
  rw [kB]
  by_cases h1 : T a = T b
  · rw [if_pos h1]
    rw [tI_eq] at h1
    by_cases h2 : O a = O b
    · rw [if_pos h2]
      rw [tI_eq] at h2
      rw [Bool.not_eq_true', decide_eq_false_iff_not, ile]
      omega
    · rw [if_neg h2]
      rw [tI_eq] at h2
      rw [Bool.not_eq_true', decide_eq_false_iff_not, ile]
      omega
  · rw [if_neg h1]
    rw [tI_eq] at h1
    rw [Bool.not_eq_true', decide_eq_false_iff_not, ile]
    omega
theorem kB_f (T O A : Nat → Int32) (a b : Nat) : kB T O A a b = false ↔ ¬ ((T b).toInt < (T a).toInt ∨ (T a).toInt = (T b).toInt ∧ ((O a).toInt < (O b).toInt ∨ (O a).toInt = (O b).toInt ∧ (A b).toInt < (A a).toInt)) := by
  rw [← kB_t, Bool.not_eq_true]
theorem kB_eq {T O A T' O' A' : Nat → Int32} {a b : Nat} (h1 : T a = T' a) (h2 : T b = T' b) (h3 : O a = O' a) (h4 : O b = O' b) (h5 : A a = A' a) (h6 : A b = A' b) : kB T O A a b = kB T' O' A' a b := by
  rw [kB, kB, h1, h2, h3, h4, h5, h6]
theorem cBe_k (F : zFt) (a b : Nat) : cBe F a b = kB (F 21) (F 17) (F 22) a b := rfl
theorem nBe_k (F : zFt) (a b : Nat) : nBe F a b = kB (F 110) (F 95) (fun a => nAb F (nI a)) a b := rfl
def bB (F : zFt) (a b : Nat) : Bool := kB (fun e => cTv F (nI e)) (F 17) (fun e => zfold (gAz F (nI e)) 0 (zn (cSe F (nI e)))) a b
theorem bB_ir (F : zFt) (a : Nat) : bB F a a = false := by
  rw [bB, kB_f]
  omega
theorem bB_tr {F : zFt} {a b c : Nat} (h1 : bB F a b = true) (h2 : bB F b c = true) : bB F a c = true := by
  rw [bB, kB_t] at *
  omega
theorem bB_eq {F : zFt} {a b : Nat} (h1 : bB F a b = false) (h2 : bB F b a = false) (k : Nat) : bB F k a = bB F k b := by
  rw [bB, kB_f] at h1 h2
  have : bB F k a = true ↔ bB F k b = true := by
    rw [bB, bB, kB_t, kB_t]
    omega
  cases h : bB F k a <;> cases h' : bB F k b
  · rfl
  · rw [this.mpr h'] at h
    cases h
  · rw [this.mp h] at h'
    cases h'
  · rfl
abbrev inC (F : zFt) (c : Int32) (i : Nat) : Bool := decide (F 10 i = c)
def kR (F : zFt) (c : Int32) (e : Nat) : Nat := 1 + zcn (fun i => inC F c i && bB F i e) (zn (F 3 9))
def kQ (F : zFt) (c : Int32) (e i : Nat) : Bool := inC F c i && (!bB F i e && !bB F e i)
theorem kR_lt {F : zFt} {c : Int32} {i e : Nat} (hi : i < zn (F 3 9)) (hc : F 10 i = c) (h : bB F i e = true) : kR F c i < kR F c e := by
  have := zcn_lt (p := fun k => inC F c k && bB F k i) (q := fun k => inC F c k && bB F k e) (k := i) (by simp [bB_ir]) (by simp [inC, hc, h]) (zn (F 3 9)) hi (fun k _ hk => by
    simp only [Bool.and_eq_true] at hk ⊢
    exact ⟨hk.1, bB_tr hk.2 h⟩)
  rw [kR, kR]
  omega
theorem kR_iff {F : zFt} {c : Int32} {i e : Nat} (hi : i < zn (F 3 9)) (hc : F 10 i = c) (he : e < zn (F 3 9)) (hce : F 10 e = c) : kR F c i = kR F c e ↔ bB F i e = false ∧ bB F e i = false := by
  constructor
  · intro h
    refine ⟨?_, ?_⟩
    · cases q : bB F i e
      · rfl
      · have := kR_lt hi hc q
        omega
    · cases q : bB F e i
      · rfl
      · have := kR_lt he hce q
        omega
  · rintro ⟨h1, h2⟩
    rw [kR, kR, zcn_congr _ (fun k _ => by rw [bB_eq h1 h2 k])]
theorem kR_bd {F : zFt} {c : Int32} {e : Nat} (h6 : zn (F 3 9) ≤ 60) : 1 ≤ kR F c e ∧ kR F c e ≤ 61 := by
  have := zcn_le (fun i => inC F c i && bB F i e) (zn (F 3 9))
  rw [kR]
  omega
/-! both sides read the order alike -/
theorem nbe_v {F G : zFt} {m : Nat} (h : RI F G m) {i e : Nat} (hi : i < zn (F 3 9)) (he : e < zn (F 3 9)) : nBe (nTa G) i e = bB F i e := by
  have h39 : G 75 9 = F 3 9 := h.2.1.2.2.1
  have h60 := vin_le1 h.1.1.2.2.1
  have hp := RI_p (RI_scr (F2 := F) (G2 := nTa G) h (fun _ _ _ _ _ _ => rfl) (fun k j h1 h2 => nTa_ne G h1 h2 j))
  have t : ∀ k, k < zn (F 3 9) → nTa G 110 k = cTv F (nI k) := fun k hk => by
    rw [nTa, h39]
    exact tT_v h _ hk (Nat.le_refl _)
  rw [nBe_k, bB]
  exact kB_eq (t i hi) (t e he) (hp.2.2.2.2.2.2.2.2 i (by omega)).1 (hp.2.2.2.2.2.2.2.2 e (by omega)).1 (ab_eq hp.1 hp.2.2.2.1 hp.2.2.2.2 hi) (ab_eq hp.1 hp.2.2.2.1 hp.2.2.2.2 he)
theorem cbe_v {F G F' : zFt} {m : Nat} (h : RI F G m) {c : Int32} {i e : Nat} (hi : i < zn (F 3 9)) (he : e < zn (F 3 9)) (ci : F 10 i = c) (ce : F 10 e = c) (eF : ∀ k j, k = 17 ∨ k = 21 ∨ k = 22 → F' k j = cR1 F c (zn (F 3 9)) k j) : cBe F' i e = bB F i e := by
  have t := fun k (hk : k < zn (F 3 9)) (ck : F 10 k = c) => r1_v h ck _ hk (Nat.le_refl _)
  have e17 : ∀ j, F' 17 j = F 17 j := fun j => by rw [eF 17 j (by omega), cR1_ne F c (by decide) (by decide) (by decide)]
  rw [cBe_k, bB]
  refine kB_eq ?_ ?_ (e17 i) (e17 e) ?_ ?_
  · rw [eF 21 _ (by omega), (t i hi ci).1]
  · rw [eF 21 _ (by omega), (t e he ce).1]
  · rw [eF 22 _ (by omega), (t i hi ci).2]
  · rw [eF 22 _ (by omega), (t e he ce).2]
theorem r2_v {F G : zFt} {m : Nat} (h : RI F G m) {c : Int32} {e : Nat} (he : e < zn (F 3 9)) (hc : F 10 e = c) : ∀ a, e < a → a ≤ zn (F 3 9) → cR2 (cR1 F c (zn (F 3 9))) c a 23 e = nI (kR F c e)
  | 0, q, _ => by omega
  | a + 1, q, ha => by
    have h60 := vin_le1 h.1.1.2.2.1
    have e10 : ∀ j, cR2 (cR1 F c (zn (F 3 9))) c a 10 j = F 10 j := fun j => by rw [cR2_ne _ c (by decide), cR1_ne F c (by decide) (by decide) (by decide)]
    have e39 : cR2 (cR1 F c (zn (F 3 9))) c a 3 9 = F 3 9 := by rw [cR2_ne _ c (by decide), cR1_ne F c (by decide) (by decide) (by decide)]
    rw [cR2, e10]
    by_cases d : e = a
    · subst d
      have ez : zn (nI e) = e := zn_nI (by omega)
      rw [if_pos hc, zup_ap, if_pos ⟨rfl, rfl⟩, e39]
      have := zcn_fold (g := gBt (cR2 (cR1 F c (zn (F 3 9))) c e) (nI e)) (p := fun i => inC F c i && bB F i e) 0 (zn (F 3 9)) (fun i hi b => by
        simp only [gBt]
        rw [ez, e10, e10, hc]
        by_cases ci : F 10 i = c
        · rw [if_neg (not_not_intro ci), cbe_v h hi he ci hc (fun k j hk => cR2_ne _ c (by omega) j e)]
          rw [inC, decide_eq_true ci, Bool.true_and]
          cases bB F i e
          · rfl
          · rfl
        · rw [if_pos ci, inC, decide_eq_false ci, Bool.false_and]
          rfl)
      rw [show (0 : Int32) = nI 0 from rfl, this, kR, Nat.zero_add]
      exact nI_add 1 _
    · have ih := r2_v h he hc a (by omega) (by omega)
      split
      · rw [zup_ap, if_neg (by omega)]
        exact ih
      · exact ih
theorem rk_c {F G : zFt} {m : Nat} (h : RI F G m) {c : Int32} {e : Nat} (he : e < zn (F 3 9)) (hc : F 10 e = c) : cRk F c 23 e = nI (kR F c e) := r2_v h he hc _ he (Nat.le_refl _)
theorem nTa_39 {F G : zFt} {m : Nat} (h : RI F G m) : nTa G 75 9 = F 3 9 := by rw [nTa_ne G (by decide) (by decide), h.2.1.2.2.1]
theorem nTa_83 {F G : zFt} {m : Nat} (h : RI F G m) (j : Nat) : nTa G 83 j = F 10 j := by rw [nTa_ne G (by decide) (by decide), (h.2.1.2.2.2.1 j).2.2.2.2.2.2]
theorem rk_n {F G : zFt} {m : Nat} (h : RI F G m) {x : Int32} (he : zn x < zn (F 3 9)) : nRk (nTa G) x = nI (kR F (F 10 (zn x)) (zn x)) := by
  rw [nRk, nTa_39 h, kR]
  refine zcn_fold (g := gNr (nTa G) x) (p := fun i => inC F (F 10 (zn x)) i && bB F i (zn x)) 1 (zn (F 3 9)) (fun i hi b => ?_)
  simp only [gNr]
  rw [nTa_83 h, nTa_83 h]
  by_cases ci : F 10 i = F 10 (zn x)
  · rw [if_neg (not_not_intro ci), nbe_v h hi he, inC, decide_eq_true ci, Bool.true_and]
    cases bB F i (zn x)
    · exact Int32.add_zero b
    · rfl
  · rw [if_pos ci, inC, decide_eq_false ci, Bool.false_and]
    exact Int32.add_zero b
theorem al_n {F G : zFt} {m : Nat} (h : RI F G m) {x : Int32} (he : zn x < zn (F 3 9)) : nAl (nTa G) x = nI (zcn (kQ F (F 10 (zn x)) (zn x)) (zn (F 3 9))) := by
  rw [nAl, nTa_39 h]
  have := zcn_fold (g := gNl (nTa G) x) (p := kQ F (F 10 (zn x)) (zn x)) 0 (zn (F 3 9)) (fun i hi b => by
    simp only [gNl]
    rw [nTa_83 h, nTa_83 h]
    by_cases ci : F 10 i = F 10 (zn x)
    · rw [if_neg (not_not_intro ci), nbe_v h hi he, nbe_v h he hi, kQ, inC, decide_eq_true ci, Bool.true_and]
      cases bB F i (zn x) <;> cases bB F (zn x) i
      · rfl
      · exact Int32.add_zero b
      · exact Int32.add_zero b
      · exact Int32.add_zero b
    · rw [if_pos ci, kQ, inC, decide_eq_false ci, Bool.false_and]
      exact Int32.add_zero b)
  rw [Nat.zero_add] at this
  exact this
theorem sa_c {F G : zFt} {m : Nat} (h : RI F G m) {x c : Int32} (he : zn x < zn (F 3 9)) (hc : F 10 (zn x) = c) {k : Nat} (hk : k ≤ zn (F 3 9)) : zfold (gSa (cRk F c) x) 0 k = nI (zcn (kQ F c (zn x)) k) := by
  have h60 := vin_le1 h.1.1.2.2.1
  have e10 : ∀ j, cRk F c 10 j = F 10 j := fun j => cRk_ne F c (by decide) (by decide) (by decide) (by decide) j
  have := zcn_fold (g := gSa (cRk F c) x) (p := kQ F c (zn x)) 0 k (fun i hi b => by
    simp only [gSa]
    rw [e10, e10, hc]
    by_cases ci : F 10 i = c
    · have b1 := kR_bd (F := F) (c := c) (e := i) h60
      have b2 := kR_bd (F := F) (c := c) (e := zn x) h60
      have hii : i < zn (F 3 9) := by omega
      rw [if_neg (not_not_intro ci), rk_c h hii ci, rk_c h he hc, kQ, inC, decide_eq_true ci, Bool.true_and]
      have q := kR_iff hii ci he hc
      by_cases d : kR F c i = kR F c (zn x)
      · rw [if_neg (not_not_intro (by rw [d])), (q.mp d).1, (q.mp d).2]
        rfl
      · rw [if_pos (fun w => d ((nI_eq2 (by omega) (by omega)).mp w))]
        have w : ¬ (bB F i (zn x) = false ∧ bB F (zn x) i = false) := fun w => d (q.mpr w)
        cases h1 : bB F i (zn x) <;> cases h2 : bB F (zn x) i
        · exact absurd ⟨h1, h2⟩ w
        · rfl
        · rfl
        · rfl
    · rw [if_pos ci, kQ, inC, decide_eq_false ci, Bool.false_and]
      rfl)
  rw [Nat.zero_add] at this
  exact this
theorem tn_eq {F G : zFt} {m : Nat} (h : RI F G m) {x : Int32} (he : zn x < zn (F 3 9)) : cTn (cRk F (F 10 (zn x))) x = nAl (nTa G) x := by
  rw [al_n h he, cTn, cRk_ne F _ (by decide) (by decide) (by decide) (by decide) 9]
  exact sa_c h he rfl (Nat.le_refl _)
theorem kQ_self (F : zFt) (e : Nat) : kQ F (F 10 e) e e = true := by
  rw [kQ, bB_ir, inC, decide_eq_true rfl]
  rfl
theorem pf_eq (p : Nat → Int32) (c l l' : Int32) (hl : ∀ r : Int32, r.toInt ≤ 3 → (l < r ↔ l' ≤ r)) : ∀ (n : Nat) (r s : Int32), zpf p c l n r s = npf p c l' n r s
  | 0, _, _ => rfl
  | n + 1, r, s => by
    rw [zpf, npf, pf_eq p c l l' hl n, Int32.mul_comm c 3]
    by_cases c3 : 3 < r
    · rw [if_pos c3, ite_self, ite_self]
    · have q := hl r (by
        rw [ilt] at c3
        rw [show (3 : Int32).toInt = 3 from rfl] at c3
        omega)
      by_cases d : l < r
      · rw [if_pos d, if_pos (q.mp d)]
      · rw [if_neg d, if_neg (fun w => d (q.mpr w))]
theorem sr_eq {F G : zFt} {m : Nat} (h : RI F G m) {x c : Int32} (he : zn x < zn (F 3 9)) (hc : F 10 (zn x) = c) : cSr (cRk F c) x = nPr (nTa G) x := by
  subst hc
  have h60 := vin_le1 h.1.1.2.2.1
  have ne := fun k (h1 : k ≠ 21) (h2 : k ≠ 22) (h3 : k ≠ 23) (h4 : k ≠ 24) j => cRk_ne F (F 10 (zn x)) h1 h2 h3 h4 j
  have b1 := kR_bd (F := F) (c := F 10 (zn x)) (e := zn x) h60
  have b2 := zcn_le (kQ F (F 10 (zn x)) (zn x)) (zn (F 3 9))
  have b3 : 1 ≤ zcn (kQ F (F 10 (zn x)) (zn x)) (zn (F 3 9)) := by
    have := zcn_lt (p := fun _ => false) (q := kQ F (F 10 (zn x)) (zn x)) (k := zn x) rfl (kQ_self F _) (zn (F 3 9)) he (fun _ _ q => by cases q)
    omega
  rw [cSr, nPr, tn_eq h he, nTa_83 h, nTa_ne G (by decide) (by decide), (h.2.1.2.2.2.1 _).2.2.2.1, ne 10 (by decide) (by decide) (by decide) (by decide), ne 7 (by decide) (by decide) (by decide) (by decide), rk_c h he rfl, rk_n h he, al_n h he]
  have e8 : cRk F (F 10 (zn x)) 8 = F 8 := funext (ne 8 (by decide) (by decide) (by decide) (by decide))
  have e81 : nTa G 81 = F 8 := funext (fun j => by rw [nTa_ne G (by decide) (by decide), (h.2.1.2.2.2.1 j).2.2.2.2.1])
  rw [e8, e81]
  generalize zcn (kQ F (F 10 (zn x)) (zn x)) (zn (F 3 9)) = t at b2 b3
  generalize kR F (F 10 (zn x)) (zn x) = r at b1
  split
  · rfl
  rw [if_pos (show (1 : Int32) ≤ nI t from (nI_le2 (a := 1) (by omega) (by omega)).mpr b3)]
  rw [pf_eq (F 8) (F 10 (zn x)) (nI r + nI t - 1) (nI r + nI t) (fun q hq => ?_) 4]
  rw [nI_add, nI_s1 (by omega), ilt, ile, nI_int (by omega), nI_int (by omega)]
  omega
theorem po_eq {F G : zFt} {m : Nat} (h : RI F G m) {c : Int32} {e : Nat} (he : e < zn (F 3 9)) (hc : F 10 e = c) : ∃ p, p < zcn (inC F c) (zn (F 3 9)) ∧ cPo (cRk F c) e = nI p ∧ nPo (nTa G) c e = nI p := by
  have h60 := vin_le1 h.1.1.2.2.1
  have ez : zn (nI e) = e := zn_nI (by omega)
  have ad := zcn_add (p := fun i => inC F c i && bB F i e) (q := kQ F c e) (fun i hi => by
    simp only [Bool.and_eq_true] at hi
    rw [kQ, hi.2]
    simp) e (zn (F 3 9)) (Nat.le_of_lt he)
  refine ⟨zcn (fun i => (inC F c i && bB F i e) || (decide (i < e) && kQ F c e i)) (zn (F 3 9)), ?_, ?_, ?_⟩
  · refine zcn_lt (k := e) ?_ (decide_eq_true hc) _ he (fun i _ hi => ?_)
    · rw [bB_ir, decide_eq_false (Nat.lt_irrefl e), Bool.and_false, Bool.false_and]
      rfl
    · simp only [kQ, Bool.or_eq_true, Bool.and_eq_true] at hi
      rcases hi with w | w
      · exact w.1
      · exact w.2.1
  · have sa := sa_c h (x := nI e) (c := c) (by rw [ez]; exact he) (by rw [ez]; exact hc) (Nat.le_of_lt he)
    rw [ez] at sa
    have b1 := kR_bd (F := F) (c := c) (e := e) h60
    rw [cPo, sa, rk_c h he hc, nI_s1 (by omega), nI_add, ad, kR]
    congr 1
    omega
  · rw [nPo, nTa_39 h]
    have := zcn_fold (g := gNp (nTa G) c e) (p := fun i => (inC F c i && bB F i e) || (decide (i < e) && kQ F c e i)) 0 (zn (F 3 9)) (fun i hi b => by
      simp only [gNp]
      rw [nTa_83 h]
      by_cases ci : F 10 i = c
      · rw [if_neg (not_not_intro ci), nbe_v h hi he, nbe_v h he hi, kQ, inC, decide_eq_true ci, Bool.true_and, Bool.true_and]
        have li : nI e ≤ nI i ↔ ¬ i < e := by
          rw [nI_le2 (by omega) (by omega)]
          omega
        by_cases d : i < e
        · rw [decide_eq_true d, Bool.true_and, if_neg (show ¬ nI e ≤ nI i from fun w => li.mp w d)]
          cases bB F i e <;> cases bB F e i
          · rfl
          · exact Int32.add_zero b
          · rfl
          · rfl
        · rw [decide_eq_false d, Bool.false_and, Bool.or_false, if_pos (li.mpr d)]
          cases bB F i e
          · exact Int32.add_zero b
          · rfl
      · rw [if_pos ci, kQ, inC, decide_eq_false ci, Bool.false_and, Bool.false_and, Bool.and_false]
        exact Int32.add_zero b)
    rw [Nat.zero_add] at this
    exact this
theorem ea_eq {F G : zFt} {m : Nat} (h : RI F G m) (c x : Int32) : ∀ (n a : Nat), a + n = zn (F 3 9) → zea (cRk F c) c x n a = nPe (nTa G) c x n a
  | 0, _, _ => rfl
  | n + 1, a, ha => by
    rw [zea, nPe, cRk_ne F c (by decide) (by decide) (by decide) (by decide), nTa_83 h, ea_eq h c x n (a + 1) (by omega)]
    by_cases d : F 10 a = c
    · obtain ⟨p, -, p1, p2⟩ := po_eq h (show a < zn (F 3 9) by omega) d
      rw [p1, p2]
    · rw [if_pos d, if_pos d]
theorem ea_no {F G : zFt} {m : Nat} (h : RI F G m) {c x : Int32} (hx : ∀ p, p < zcn (inC F c) (zn (F 3 9)) → ¬ nI p = x) : ∀ (n a : Nat), a + n = zn (F 3 9) → zea (cRk F c) c x n a = -1
  | 0, _, _ => rfl
  | n + 1, a, ha => by
    rw [zea, cRk_ne F c (by decide) (by decide) (by decide) (by decide), ea_no h hx n (a + 1) (by omega)]
    by_cases d : F 10 a = c
    · obtain ⟨p, p0, p1, -⟩ := po_eq h (show a < zn (F 3 9) by omega) d
      rw [p1, if_pos (hx p p0), ite_self]
    · rw [if_pos d]
