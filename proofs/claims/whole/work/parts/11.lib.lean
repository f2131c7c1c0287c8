theorem zn_int {x : Int32} (h : 0 ≤ x.toInt) : ((zn x : Nat) : Int) = x.toInt := by
  show ((x.toInt.toNat : Nat) : Int) = x.toInt
  omega
theorem nI_zn {x : Int32} (h : 0 ≤ x.toInt) : nI (zn x) = x := by
  have h2 := tI_hi x
  have h3 := zn_int h
  rw [tI_eq, nI_toInt (by omega)]
  exact h3
theorem zn_nI {a : Nat} (h : a < 2147483648) : zn (nI a) = a := nI_clamp h
theorem nI_int {a : Nat} (h : a < 2147483648) : (nI a).toInt = (a : Int) := nI_toInt h
section ZLB
variable {M : zM} {R : Room} {Z : zZt} {pc : Nat} {lo lo' : List (Option Value)} {st st' : List Value} {L : Nat} {F F' : zFt} {k n : Nat}
theorem z_to (h1 : lo = lo') (h2 : F = F') (kk : zEV M R Z pc lo' st 111 (zE L F') k n) : zEV M R Z pc lo st 111 (zE L F) k n := by
  subst h1; subst h2; exact kk
theorem z_lo (h1 : lo = lo') (kk : zEV M R Z pc lo' st 111 (zE L F) k n) : zEV M R Z pc lo st 111 (zE L F) k n := by
  subst h1; exact kk
theorem z_st (h1 : st = st') (kk : zEV M R Z pc lo st' 111 (zE L F) k n) : zEV M R Z pc lo st 111 (zE L F) k n := by
  subst h1; exact kk
end ZLB
def zsm (f : Nat → Int32) : Nat → Int32
  | 0 => 0
  | n + 1 => zsm f n + f n
theorem kaLink : Cond.fieldLink RX7 307 RX7 "KIND_ABOVE" "[I" ∈ zT := zT_mem 495 (by decide +kernel) rfl
theorem vin {x : Int32} {n : Nat} : vp_in x n ↔ 0 ≤ x.toInt ∧ x.toInt < n := vp_in_iff
theorem vin_zn {x : Int32} {n : Nat} (h : vp_in x n) : zn x < n := Nat.not_le.mp fun q => h (Or.inr q)
theorem vin_nI {x : Int32} {n : Nat} (h : vp_in x n) : nI (zn x) = x := nI_zn (vin.mp h).1
theorem vin_mk {a n : Nat} (h : a < n) (hn : n < 2147483648 := by decide) : vp_in (nI a) n := vp_in_nI h hn
theorem vin_of {x : Int32} {n : Nat} (h : vp_in x n) (hn : n < 2147483648 := by decide) : ∃ j : Nat, j < n ∧ x = nI j := vp_in_of h hn
theorem vin_le {x : Int32} {n m : Nat} (h : vp_in x n) (hm : n ≤ m) : vp_in x m := by
  rw [vin] at h ⊢
  omega
theorem nI_m3 (a : Nat) : nI a * 3 = nI (a * 3) := pk_mul a 3
theorem nI_3m (a : Nat) : 3 * nI a = nI (a * 3) := by
  rw [show (3 : Int32) * nI a = nI 3 * nI a from rfl, pk_mul, Nat.mul_comm]
theorem nI_m5 (a : Nat) : nI a * 5 = nI (a * 5) := pk_mul a 5
theorem nI_5m (a : Nat) : 5 * nI a = nI (a * 5) := by
  rw [show (5 : Int32) * nI a = nI 5 * nI a from rfl, pk_mul, Nat.mul_comm]
theorem nI_m6 (a : Nat) : nI a * 6 = nI (a * 6) := pk_mul a 6
theorem nI_6m (a : Nat) : 6 * nI a = nI (a * 6) := by
  rw [show (6 : Int32) * nI a = nI 6 * nI a from rfl, pk_mul, Nat.mul_comm]
theorem nI_m8 (a : Nat) : nI a * 8 = nI (a * 8) := pk_mul a 8
theorem nI_8m (a : Nat) : 8 * nI a = nI (a * 8) := by
  rw [show (8 : Int32) * nI a = nI 8 * nI a from rfl, pk_mul, Nat.mul_comm]
theorem nI_m16 (a : Nat) : nI a * 16 = nI (a * 16) := pk_mul a 16
theorem nI_16m (a : Nat) : 16 * nI a = nI (a * 16) := by
  rw [show (16 : Int32) * nI a = nI 16 * nI a from rfl, pk_mul, Nat.mul_comm]
theorem nI_p2 (a : Nat) : nI a + 2 = nI (a + 2) := nI_add a 2
theorem nI_p3 (a : Nat) : nI a + 3 = nI (a + 3) := nI_add a 3
theorem nI_p4 (a : Nat) : nI a + 4 = nI (a + 4) := nI_add a 4
theorem nI_p5 (a : Nat) : nI a + 5 = nI (a + 5) := nI_add a 5
theorem nI_s1 {a : Nat} (h : 0 < a) : nI a - 1 = nI (a - 1) := by
  have := nI_pred (a - 1)
  rw [show a - 1 + 1 = a by omega] at this
  exact this
theorem nI_lit (a : Nat) : nI a = Int32.ofNat a := rfl
theorem nI_lt2 {a b : Nat} (ha : a < 2147483648) (hb : b < 2147483648) : nI a < nI b ↔ a < b := nI_ltI ha hb
theorem nI_le2 {a b : Nat} (ha : a < 2147483648) (hb : b < 2147483648) : nI a ≤ nI b ↔ a ≤ b := nI_leI ha hb
theorem nI_eq2 {a b : Nat} (ha : a < 2147483648) (hb : b < 2147483648) : nI a = nI b ↔ a = b := nI_eq ha hb
theorem zle0 {x : Int32} : 0 ≤ x ↔ 0 ≤ x.toInt := by rw [Int32.le_iff_toInt_le]; simp
theorem zlt0 {x : Int32} : x < 0 ↔ x.toInt < 0 := by rw [Int32.lt_iff_toInt_lt]; simp
/-- a number against a bound: at the end, and before it -/
theorem up_end {x : Int32} {a : Nat} (h0 : 0 ≤ x.toInt) (h : a = zn x) : x ≤ nI a := by
  rw [h, nI_zn h0]
  exact Int32.le_refl x
theorem up_in {x : Int32} {a : Nat} (h : a < zn x) : ¬ x ≤ nI a := by
  have h0 : 0 ≤ x.toInt := by
    rcases Int.lt_or_le x.toInt 0 with q | q
    · have : zn x = 0 := by show x.toInt.toNat = 0; omega
      omega
    · exact q
  have h1 := zn_int h0
  have h2 := tI_hi x
  rw [Int32.le_iff_toInt_le, nI_toInt (by omega)]
  omega
def zfold (g : Nat → Int32 → Int32) (x : Int32) : Nat → Int32
  | 0 => x
  | n + 1 => g n (zfold g x n)
theorem zfold_0 {g : Nat → Int32 → Int32} {x : Int32} : zfold g x 0 = x := rfl
theorem zfold_s {g : Nat → Int32 → Int32} {x : Int32} {n : Nat} : zfold g x (n + 1) = g n (zfold g x n) := rfl
def zin (c b : Int32) : Bool := !decide (c < 0) && !decide (b ≤ c)
theorem zin_t {c b : Int32} : zin c b = true ↔ 0 ≤ c.toInt ∧ c.toInt < b.toInt := by
  simp only [zin, Bool.and_eq_true, Bool.not_eq_true', decide_eq_false_iff_not, Int32.lt_iff_toInt_lt, Int32.le_iff_toInt_le]
  simp
theorem zin_vin {c b : Int32} {n : Nat} (h : zin c b = true) (hb : b.toInt ≤ n) : vp_in c n := by
  rw [zin_t] at h
  rw [vin]
  omega
def zmx (a b : Int32) : Int32 := if a < b then b else a
def zmn (a b : Int32) : Int32 := if b < a then b else a
theorem zup_ap (F : zFt) (a i : Nat) (x : Int32) (k j : Nat) : zup F a i x k j = if k = a ∧ j = i then x else F k j := rfl
/-- a stretch of a row holds one number -/
def zfl (F : zFt) (c j0 : Nat) (x : Int32) (a : Nat) : zFt := fun k i => if k = c ∧ j0 ≤ i ∧ i < j0 + a then x else F k i
theorem zfl_ap (F : zFt) (c j0 : Nat) (x : Int32) (a k i : Nat) : zfl F c j0 x a k i = if k = c ∧ j0 ≤ i ∧ i < j0 + a then x else F k i := rfl
theorem zfl_0 (F : zFt) (c j0 : Nat) (x : Int32) : zfl F c j0 x 0 = F := by
  funext k i
  rw [zfl_ap, if_neg (by omega)]
theorem zfl_s (F : zFt) (c j0 : Nat) (x : Int32) (a : Nat) : zup (zfl F c j0 x a) c (j0 + a) x = zfl F c j0 x (a + 1) := by
  funext k i
  simp only [zup_ap, zfl_ap]
  by_cases h1 : k = c ∧ i = j0 + a
  · rw [if_pos h1, if_pos (by omega)]
  · rw [if_neg h1]
    by_cases h2 : k = c ∧ j0 ≤ i ∧ i < j0 + a
    · rw [if_pos h2, if_pos (by omega)]
    · rw [if_neg h2, if_neg (by omega)]
