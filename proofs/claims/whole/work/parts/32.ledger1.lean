def zin1 (c b : Int32) : Bool := !decide (c < 0) && !decide (b < c)
def zin2 (c b : Int32) : Bool := !decide (c < 0) && !decide (b ≤ c)

set_option maxRecDepth 100000 in
theorem tX7_isPrize {L : Nat} (F : zFt) (c : Int32) : zFn mX7_isPrize 0 [.int c] L F (some (.int (zb (zin1 c 1000000)))) F := by
  refine e_of (lo := [some (.int c)]) (by decide +kernel) (Nat.le_of_ble_eq_true rfl) rfl ?_
  refine z_iload iX7_isPrize_0 rfl ?_
  refine z_if_lt iX7_isPrize_1 (fun c1 => ?_) (fun c1 => ?_)
  · refine z_push iX7_isPrize_15 ?_
    exact e_bret iX7_isPrize_16 rfl (by first | exact Or.inl rfl | exact Or.inr rfl | exact zb_01 _ | assumption) ⟨by simp [zb, zin1, *], rfl⟩
  · refine z_iload iX7_isPrize_4 rfl ?_
    refine z_push iX7_isPrize_5 ?_
    refine z_icmp_gt iX7_isPrize_8 (fun c8 => ?_) (fun c8 => ?_)
    · refine z_push iX7_isPrize_15 ?_
      exact e_bret iX7_isPrize_16 rfl (by first | exact Or.inl rfl | exact Or.inr rfl | exact zb_01 _ | assumption) ⟨by simp [zb, zin1, *], rfl⟩
    · refine z_push iX7_isPrize_11 ?_
      refine z_goto iX7_isPrize_12 ?_
      exact e_bret iX7_isPrize_16 rfl (by first | exact Or.inl rfl | exact Or.inr rfl | exact zb_01 _ | assumption) ⟨by simp [zb, zin1, *], rfl⟩

set_option maxRecDepth 100000 in
theorem tX7_isName {L : Nat} (F : zFt) (c : Int32) : zFn mX7_isName 0 [.int c] L F (some (.int (zb (zin c 16)))) F := by
  refine e_of (lo := [some (.int c)]) (by decide +kernel) (Nat.le_of_ble_eq_true rfl) rfl ?_
  refine z_iload iX7_isName_0 rfl ?_
  refine z_if_lt iX7_isName_1 (fun c1 => ?_) (fun c1 => ?_)
  · refine z_push iX7_isName_14 ?_
    exact e_bret iX7_isName_15 rfl (by first | exact Or.inl rfl | exact Or.inr rfl | exact zb_01 _ | assumption) ⟨by simp [zb, zin, *], rfl⟩
  · refine z_iload iX7_isName_4 rfl ?_
    refine z_push iX7_isName_5 ?_
    refine z_icmp_ge iX7_isName_7 (fun c7 => ?_) (fun c7 => ?_)
    · refine z_push iX7_isName_14 ?_
      exact e_bret iX7_isName_15 rfl (by first | exact Or.inl rfl | exact Or.inr rfl | exact zb_01 _ | assumption) ⟨by simp [zb, zin, *], rfl⟩
    · refine z_push iX7_isName_10 ?_
      refine z_goto iX7_isName_11 ?_
      exact e_bret iX7_isName_15 rfl (by first | exact Or.inl rfl | exact Or.inr rfl | exact zb_01 _ | assumption) ⟨by simp [zb, zin, *], rfl⟩

set_option maxRecDepth 100000 in
theorem tX7_isKind {L : Nat} (F : zFt) (c : Int32) : zFn mX7_isKind 0 [.int c] L F (some (.int (zb (zin c 12)))) F := by
  refine e_of (lo := [some (.int c)]) (by decide +kernel) (Nat.le_of_ble_eq_true rfl) rfl ?_
  refine z_iload iX7_isKind_0 rfl ?_
  refine z_if_lt iX7_isKind_1 (fun c1 => ?_) (fun c1 => ?_)
  · refine z_push iX7_isKind_14 ?_
    exact e_bret iX7_isKind_15 rfl (by first | exact Or.inl rfl | exact Or.inr rfl | exact zb_01 _ | assumption) ⟨by simp [zb, zin, *], rfl⟩
  · refine z_iload iX7_isKind_4 rfl ?_
    refine z_push iX7_isKind_5 ?_
    refine z_icmp_ge iX7_isKind_7 (fun c7 => ?_) (fun c7 => ?_)
    · refine z_push iX7_isKind_14 ?_
      exact e_bret iX7_isKind_15 rfl (by first | exact Or.inl rfl | exact Or.inr rfl | exact zb_01 _ | assumption) ⟨by simp [zb, zin, *], rfl⟩
    · refine z_push iX7_isKind_10 ?_
      refine z_goto iX7_isKind_11 ?_
      exact e_bret iX7_isKind_15 rfl (by first | exact Or.inl rfl | exact Or.inr rfl | exact zb_01 _ | assumption) ⟨by simp [zb, zin, *], rfl⟩

def zrk (c : Int32) : Bool := decide (c = 2) || (decide (c = 3) || (decide (c = 5) || (decide (c = 6) || (decide (c = 8) || decide (c = 10)))))

set_option maxRecDepth 100000 in
theorem tX7_isRuleKind {L : Nat} (F : zFt) (c : Int32) : zFn mX7_isRuleKind 0 [.int c] L F (some (.int (zb (zrk c)))) F := by
  refine e_of (lo := [some (.int c)]) (by decide +kernel) (Nat.le_of_ble_eq_true rfl) rfl ?_
  refine z_iload iX7_isRuleKind_0 rfl ?_
  refine z_push iX7_isRuleKind_1 ?_
  refine z_icmp_eq iX7_isRuleKind_2 (fun c2 => ?_) (fun c2 => ?_)
  · refine z_push iX7_isRuleKind_33 ?_
    refine z_goto iX7_isRuleKind_34 ?_
    exact e_bret iX7_isRuleKind_38 rfl (by first | exact Or.inl rfl | exact Or.inr rfl | exact zb_01 _ | assumption) ⟨by simp [zb, zrk, *], rfl⟩
  · refine z_iload iX7_isRuleKind_5 rfl ?_
    refine z_push iX7_isRuleKind_6 ?_
    refine z_icmp_eq iX7_isRuleKind_7 (fun c7 => ?_) (fun c7 => ?_)
    · refine z_push iX7_isRuleKind_33 ?_
      refine z_goto iX7_isRuleKind_34 ?_
      exact e_bret iX7_isRuleKind_38 rfl (by first | exact Or.inl rfl | exact Or.inr rfl | exact zb_01 _ | assumption) ⟨by simp [zb, zrk, *], rfl⟩
    · refine z_iload iX7_isRuleKind_10 rfl ?_
      refine z_push iX7_isRuleKind_11 ?_
      refine z_icmp_eq iX7_isRuleKind_12 (fun c12 => ?_) (fun c12 => ?_)
      · refine z_push iX7_isRuleKind_33 ?_
        refine z_goto iX7_isRuleKind_34 ?_
        exact e_bret iX7_isRuleKind_38 rfl (by first | exact Or.inl rfl | exact Or.inr rfl | exact zb_01 _ | assumption) ⟨by simp [zb, zrk, *], rfl⟩
      · refine z_iload iX7_isRuleKind_15 rfl ?_
        refine z_push iX7_isRuleKind_16 ?_
        refine z_icmp_eq iX7_isRuleKind_18 (fun c18 => ?_) (fun c18 => ?_)
        · refine z_push iX7_isRuleKind_33 ?_
          refine z_goto iX7_isRuleKind_34 ?_
          exact e_bret iX7_isRuleKind_38 rfl (by first | exact Or.inl rfl | exact Or.inr rfl | exact zb_01 _ | assumption) ⟨by simp [zb, zrk, *], rfl⟩
        · refine z_iload iX7_isRuleKind_21 rfl ?_
          refine z_push iX7_isRuleKind_22 ?_
          refine z_icmp_eq iX7_isRuleKind_24 (fun c24 => ?_) (fun c24 => ?_)
          · refine z_push iX7_isRuleKind_33 ?_
            refine z_goto iX7_isRuleKind_34 ?_
            exact e_bret iX7_isRuleKind_38 rfl (by first | exact Or.inl rfl | exact Or.inr rfl | exact zb_01 _ | assumption) ⟨by simp [zb, zrk, *], rfl⟩
          · refine z_iload iX7_isRuleKind_27 rfl ?_
            refine z_push iX7_isRuleKind_28 ?_
            refine z_icmp_ne iX7_isRuleKind_30 (fun c30 => ?_) (fun c30 => ?_)
            · refine z_push iX7_isRuleKind_37 ?_
              exact e_bret iX7_isRuleKind_38 rfl (by first | exact Or.inl rfl | exact Or.inr rfl | exact zb_01 _ | assumption) ⟨by simp [zb, zrk, *], rfl⟩
            · refine z_push iX7_isRuleKind_33 ?_
              refine z_goto iX7_isRuleKind_34 ?_
              exact e_bret iX7_isRuleKind_38 rfl (by first | exact Or.inl rfl | exact Or.inr rfl | exact zb_01 _ | assumption) ⟨by simp [zb, zrk, *], rfl⟩

/-- of this sort, or of one above it -/
def zik (b : Int32) : Nat → Int32 → Bool
  | 0, _ => false
  | n + 1, k => if k = b then true else zik b n (zka (zn k))
theorem zka_in (k : Nat) : vp_in (zka k) 12 := by
  rcases Nat.lt_or_ge k 12 with h | h
  · rcases (show k = 0 ∨ k = 1 ∨ k = 2 ∨ k = 3 ∨ k = 4 ∨ k = 5 ∨ k = 6 ∨ k = 7 ∨ k = 8 ∨ k = 9 ∨ k = 10 ∨ k = 11 by omega) with rfl | rfl | rfl | rfl | rfl | rfl | rfl | rfl | rfl | rfl | rfl | rfl <;> (rw [vin]; decide)
  · rw [zka, List.getD_eq_getElem?_getD, List.getElem?_eq_none (by simpa using h)]
    rw [vin]
    decide

set_option maxRecDepth 100000 in
theorem lpX7_isOfKind {L : Nat} {R : Room} (F : zFt) (a b : Int32) : ∀ (n l : Nat) (x : Int32), l + n = 3 → vp_in x 12 → zEV mX7_isOfKind R (zZf L (some (.int (zb (zik b n x)))) F) 4 [some (.int a), some (.int b), some (.int x), some (.int (nI l))] [] 111 (zE L F) 0 0 := by
  intro n
  induction n with
  | zero =>
    intro l x hl hx
    obtain rfl : l = 3 := by omega
    refine z_iload iX7_isOfKind_4 rfl ?_
    refine z_push iX7_isOfKind_5 ?_
    refine z_icmp_ge iX7_isOfKind_6 (fun c6 => ?_) (fun c6 => ?_)
    · refine z_push iX7_isOfKind_28 ?_
      exact e_bret iX7_isOfKind_29 rfl (by first | exact Or.inl rfl | exact Or.inr rfl | exact zb_01 _ | assumption) ⟨rfl, rfl⟩
    · exact absurd (by decide) c6
  | succ n ih =>
    intro l x hl hx
    refine z_iload iX7_isOfKind_4 rfl ?_
    refine z_push iX7_isOfKind_5 ?_
    refine z_icmp_ge iX7_isOfKind_6 (fun c6 => ?_) (fun c6 => ?_)
    · exact absurd ((nI_le2 (a := 3) (by decide) (by omega)).mp c6) (by omega)
    · refine z_iload iX7_isOfKind_9 rfl ?_
      refine z_iload iX7_isOfKind_10 rfl ?_
      refine z_icmp_ne iX7_isOfKind_11 (fun c11 => ?_) (fun c11 => ?_)
      · refine z_gets iX7_isOfKind_16 kaLink ?_
        refine z_iload iX7_isOfKind_19 rfl ?_
        refine z_kald iX7_isOfKind_20 hx ?_
        refine z_istore iX7_isOfKind_21 rfl ?_
        dsimp only [List.set_cons_zero, List.set_cons_succ]
        refine z_iinc (v := 1) iX7_isOfKind_22 (by decide) (by decide) rfl rfl ?_
        dsimp only [List.set_cons_zero, List.set_cons_succ]
        refine z_goto iX7_isOfKind_25 ?_
        rw [zik, if_neg c11]
        exact z_to (by simp [nI_1]) rfl (ih (l + 1) _ (by omega) (zka_in _))
      · refine z_push iX7_isOfKind_14 ?_
        exact e_bret iX7_isOfKind_15 rfl (by first | exact Or.inl rfl | exact Or.inr rfl | exact zb_01 _ | assumption) ⟨by rw [zik, if_pos c11]; rfl, rfl⟩

set_option maxRecDepth 100000 in
theorem tX7_isOfKind {L : Nat} (F : zFt) (a : Int32) (b : Int32) (h : vp_in a 12) : zFn mX7_isOfKind 0 [.int a, .int b] L F (some (.int (zb (zik b 3 a)))) F := by
  refine e_of (lo := [some (.int a), some (.int b), none, none]) (by decide +kernel) (Nat.le_of_ble_eq_true rfl) rfl ?_
  refine z_iload iX7_isOfKind_0 rfl ?_
  refine z_istore iX7_isOfKind_1 rfl ?_
  dsimp only [List.set_cons_zero, List.set_cons_succ]
  refine z_push iX7_isOfKind_2 ?_
  refine z_istore iX7_isOfKind_3 rfl ?_
  dsimp only [List.set_cons_zero, List.set_cons_succ]
  exact lpX7_isOfKind F a b 3 0 a rfl h

def zkf (c : Int32) : Int32 := if zik 1 3 c = false then (if zik 4 3 c = false then 9 else 7) else 4

set_option maxRecDepth 100000 in
theorem tX7_kindFurtherOut {L : Nat} (F : zFt) (c : Int32) (h : vp_in c 12) : zFn mX7_kindFurtherOut 1 [.int c] L F (some (.int (zkf c))) F := by
  refine e_of (lo := [some (.int c)]) (by decide +kernel) (Nat.le_of_ble_eq_true rfl) rfl ?_
  refine z_iload iX7_kindFurtherOut_0 rfl ?_
  refine z_push iX7_kindFurtherOut_1 ?_
  refine e_callS iX7_kindFurtherOut_2 kX7_279 (tX7_isOfKind F c 1 h) rfl rfl ⟨Nat.le_of_ble_eq_true rfl, Nat.le_of_ble_eq_true rfl⟩ ⟨Nat.le_of_ble_eq_true rfl, Nat.le_of_ble_eq_true rfl⟩ (Nat.le_of_ble_eq_true rfl) ?_
  dsimp only [Option.toList, List.cons_append, List.nil_append]
  refine z_if_eq iX7_kindFurtherOut_5 (fun c5 => ?_) (fun c5 => ?_)
  · rw [zb_0] at c5
    refine z_iload iX7_kindFurtherOut_10 rfl ?_
    refine z_push iX7_kindFurtherOut_11 ?_
    refine e_callS iX7_kindFurtherOut_12 kX7_279 (tX7_isOfKind F c 4 h) rfl rfl ⟨Nat.le_of_ble_eq_true rfl, Nat.le_of_ble_eq_true rfl⟩ ⟨Nat.le_of_ble_eq_true rfl, Nat.le_of_ble_eq_true rfl⟩ (Nat.le_of_ble_eq_true rfl) ?_
    dsimp only [Option.toList, List.cons_append, List.nil_append]
    refine z_if_eq iX7_kindFurtherOut_15 (fun c15 => ?_) (fun c15 => ?_)
    · rw [zb_0] at c15
      refine z_push iX7_kindFurtherOut_23 ?_
      exact e_iret iX7_kindFurtherOut_25 rfl ⟨by rw [zkf, if_pos c5, if_pos c15], rfl⟩
    · rw [zb_n] at c15
      refine z_push iX7_kindFurtherOut_18 ?_
      refine z_goto iX7_kindFurtherOut_20 ?_
      exact e_iret iX7_kindFurtherOut_25 rfl ⟨by rw [zkf, if_pos c5, if_neg (by rw [c15]; decide)], rfl⟩
  · rw [zb_n] at c5
    refine z_push iX7_kindFurtherOut_8 ?_
    exact e_iret iX7_kindFurtherOut_9 rfl ⟨by rw [zkf, if_neg (by rw [c5]; decide)], rfl⟩

abbrev cIn (F : zFt) : Nat := zn (F 2 7 - 1)

set_option maxRecDepth 100000 in
theorem tX7_innermost {L : Nat} (F : zFt) (h : vp_in (F 2 7 - 1) 8) : zFn mX7_innermost 0 [.ref 2] L F (some (.ref (5 * cIn F + 35))) F := by
  refine e_of (lo := [some (.ref 2)]) (by decide +kernel) (Nat.le_of_ble_eq_true rfl) rfl ?_
  refine z_aload iX7_innermost_0 rfl ?_
  refine e_getR iX7_innermost_1 fX7_57 rfl ?_
  refine z_aload iX7_innermost_4 rfl ?_
  refine e_getI iX7_innermost_5 fX7_61 rfl ?_
  refine z_push iX7_innermost_8 ?_
  refine z_isub iX7_innermost_9 ?_
  refine e_aald iX7_innermost_10 (by assumption) ?_
  exact e_aret iX7_innermost_11 rfl ⟨rfl, rfl⟩

theorem in_lt {F : zFt} (h : vp_in (F 2 7 - 1) 8) : cIn F < 8 := vin_zn h
theorem vin_pos {x : Int32} {n : Nat} (h : vp_in x (n + 1)) (h1 : ¬ x = 0) (hn : n < 1000 := by decide) : vp_in (x - 1) n := by
  obtain ⟨j, hj, rfl⟩ := vin_of h (by omega)
  have h0 : 0 < j := by
    rcases Nat.eq_zero_or_pos j with z | z
    · rw [z] at h1
      exact absurd rfl h1
    · exact z
  rw [nI_s1 h0]
  exact vin_mk (by omega) (by omega)
