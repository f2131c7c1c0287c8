abbrev zn (x : Int32) : Nat := x.toNatClampNeg
theorem zn_int {x : Int32} (h : 0 ≤ x.toInt) : ((zn x : Nat) : Int) = x.toInt := by
  show ((x.toInt.toNat : Nat) : Int) = x.toInt
  omega
theorem nI_zn {x : Int32} (h : 0 ≤ x.toInt) : nI (zn x) = x := by
  have h2 := tI_hi x
  have h3 := zn_int h
  rw [tI_eq, nI_toInt (by omega)]
  exact h3
theorem zn_nI {a : Nat} (h : a < 2147483648) : zn (nI a) = a := nI_clamp h
theorem nI_int {a : Nat} (h : a < 2147483648) : (nI a).toInt = (a : Int) := nI_toInt h
section ZLB
variable {M : zM} {R : Room} {Z : zZt} {pc : Nat} {lo lo' : List (Option Value)} {st st' : List Value} {L : Nat} {F F' : zFt} {k n : Nat}
theorem z_to (h1 : lo = lo') (h2 : F = F') (kk : zEV M R Z pc lo' st 111 (zE L F') k n) : zEV M R Z pc lo st 111 (zE L F) k n := by
  subst h1; subst h2; exact kk
theorem z_lo (h1 : lo = lo') (kk : zEV M R Z pc lo' st 111 (zE L F) k n) : zEV M R Z pc lo st 111 (zE L F) k n := by
  subst h1; exact kk
theorem z_st (h1 : st = st') (kk : zEV M R Z pc lo st' 111 (zE L F) k n) : zEV M R Z pc lo st 111 (zE L F) k n := by
  subst h1; exact kk
end ZLB
def zsm (f : Nat → Int32) : Nat → Int32
  | 0 => 0
  | n + 1 => zsm f n + f n
theorem kaLink : Cond.fieldLink RX7 307 RX7 "KIND_ABOVE" "[I" ∈ zT := zT_mem 495 (by decide +kernel) rfl
theorem tst1 : (5 : Int32).toInt = 5 := by simp
theorem tst2 : (-104 : Int32).toInt = -104 := by simp
theorem tst3 (x : Int32) (h0 : 0 ≤ x.toInt) (h : x.toInt ≤ 8) (h1 : ¬ x = 0) : vp_in (x - 1) 8 := by
  rw [vp_in_iff]
  simp only [tI_eq, tI_sub] at h1 ⊢
  simp at h1 ⊢
  omega
theorem tst4 (x : Int32) (h0 : 0 ≤ x) (h : x < 8) : vp_in (x * 3 + 2) 36 := by
  rw [vp_in_iff]
  simp only [Int32.le_iff_toInt_le, Int32.lt_iff_toInt_lt, tI_add, tI_mul] at h0 h ⊢
  simp at h0 h ⊢
  omega
