def zpa (k : Int32) : Int32 := if k = 2 then 1 else if ¬ k = 3 then (if k = 5 then 4 else if ¬ k = 6 then (if ¬ k = 8 then (if ¬ k = 10 then 0 else 9) else 7) else 4) else 1

set_option maxRecDepth 100000 in
theorem tX8_parent {L : Nat} (F : zFt) (k : Int32) : zFn mX8_parent 0 [.int k] L F (some (.int (zpa k))) F := by
  refine e_of (lo := [some (.int k)]) (by decide +kernel) (Nat.le_of_ble_eq_true rfl) rfl ?_
  refine z_iload iX8_parent_0 rfl ?_
  refine z_push iX8_parent_1 ?_
  refine z_icmp_eq iX8_parent_2 (fun c2 => ?_) (fun c2 => ?_)
  · refine z_push iX8_parent_10 ?_
    refine z_goto iX8_parent_11 ?_
    exact e_iret iX8_parent_52 rfl ⟨by simp [zpa, c2], rfl⟩
  · refine z_iload iX8_parent_5 rfl ?_
    refine z_push iX8_parent_6 ?_
    refine z_icmp_ne iX8_parent_7 (fun c7 => ?_) (fun c7 => ?_)
    · refine z_iload iX8_parent_14 rfl ?_
      refine z_push iX8_parent_15 ?_
      refine z_icmp_eq iX8_parent_16 (fun c16 => ?_) (fun c16 => ?_)
      · refine z_push iX8_parent_25 ?_
        refine z_goto iX8_parent_26 ?_
        exact e_iret iX8_parent_52 rfl ⟨by simp [zpa, c2, c7, c16], rfl⟩
      · refine z_iload iX8_parent_19 rfl ?_
        refine z_push iX8_parent_20 ?_
        refine z_icmp_ne iX8_parent_22 (fun c22 => ?_) (fun c22 => ?_)
        · refine z_iload iX8_parent_29 rfl ?_
          refine z_push iX8_parent_30 ?_
          refine z_icmp_ne iX8_parent_32 (fun c32 => ?_) (fun c32 => ?_)
          · refine z_iload iX8_parent_40 rfl ?_
            refine z_push iX8_parent_41 ?_
            refine z_icmp_ne iX8_parent_43 (fun c43 => ?_) (fun c43 => ?_)
            · refine z_push iX8_parent_51 ?_
              exact e_iret iX8_parent_52 rfl ⟨by simp [zpa, c2, c7, c16, c22, c32, c43], rfl⟩
            · refine z_push iX8_parent_46 ?_
              refine z_goto iX8_parent_48 ?_
              exact e_iret iX8_parent_52 rfl ⟨by simp [zpa, c2, c7, c16, c22, c32, c43], rfl⟩
          · refine z_push iX8_parent_35 ?_
            refine z_goto iX8_parent_37 ?_
            exact e_iret iX8_parent_52 rfl ⟨by simp [zpa, c2, c7, c16, c22, c32], rfl⟩
        · refine z_push iX8_parent_25 ?_
          refine z_goto iX8_parent_26 ?_
          exact e_iret iX8_parent_52 rfl ⟨by simp [zpa, c2, c7, c16, c22], rfl⟩
    · refine z_push iX8_parent_10 ?_
      refine z_goto iX8_parent_11 ?_
      exact e_iret iX8_parent_52 rfl ⟨by simp [zpa, c2, c7], rfl⟩

def nIk (b : Int32) : Nat → Int32 → Int32
  | 0, k => k
  | n + 1, k => if k = b then k else if k = 0 then k else nIk b n (zpa k)
theorem zpa_in (k : Int32) : zpa k = 0 ∨ zpa k = 1 ∨ zpa k = 4 ∨ zpa k = 7 ∨ zpa k = 9 := by
  unfold zpa
  repeat' split
  all_goals simp
theorem zpa_2 (k : Int32) : zpa (zpa k) = 0 := by
  rcases zpa_in k with h | h | h | h | h <;> (rw [h]; decide)
def zrn (k : Int32) : Nat := if k = 0 then 0 else if zpa k = 0 then 1 else 2
theorem zrn_s {k : Int32} (h : ¬ k = 0) : zrn (zpa k) < zrn k := by
  have h2 := zpa_2 k
  unfold zrn
  rw [if_neg h]
  by_cases h1 : zpa k = 0
  · rw [if_pos h1, if_pos h1]
    decide
  · rw [if_neg h1, if_neg h1, if_pos h2]
    decide

set_option maxRecDepth 100000 in
theorem lpX8_isOf {L : Nat} (F : zFt) (a b : Int32) : ∀ (n : Nat) (x : Int32), zrn x ≤ n → zEV mX8_isOf (zrm 1 0 0) (zZf L (some (.int (zb (decide (nIk b n x = b))))) F) 2 [some (.int a), some (.int b), some (.int x)] [] 111 (zE L F) 0 0 := by
  intro n
  induction n with
  | zero =>
    intro x hx
    have h0 : x = 0 := by
      unfold zrn at hx
      split at hx
      · assumption
      · split at hx <;> omega
    refine z_iload iX8_isOf_2 rfl ?_
    refine z_iload iX8_isOf_3 rfl ?_
    refine z_icmp_eq iX8_isOf_4 (fun c4 => ?_) (fun c4 => ?_)
    · refine z_iload iX8_isOf_19 rfl ?_
      refine z_iload iX8_isOf_20 rfl ?_
      refine z_icmp_ne iX8_isOf_21 (fun c21 => ?_) (fun c21 => ?_)
      · refine z_push iX8_isOf_28 ?_
        exact e_bret iX8_isOf_29 rfl (by first | exact Or.inl rfl | exact Or.inr rfl | exact zb_01 _ | assumption) ⟨by simp [nIk, zb, c21], rfl⟩
      · refine z_push iX8_isOf_24 ?_
        refine z_goto iX8_isOf_25 ?_
        exact e_bret iX8_isOf_29 rfl (by first | exact Or.inl rfl | exact Or.inr rfl | exact zb_01 _ | assumption) ⟨by simp [nIk, zb, c21], rfl⟩
    · refine z_iload iX8_isOf_7 rfl ?_
      refine z_if_eq iX8_isOf_8 (fun c8 => ?_) (fun c8 => ?_)
      · refine z_iload iX8_isOf_19 rfl ?_
        refine z_iload iX8_isOf_20 rfl ?_
        refine z_icmp_ne iX8_isOf_21 (fun c21 => ?_) (fun c21 => ?_)
        · refine z_push iX8_isOf_28 ?_
          exact e_bret iX8_isOf_29 rfl (by first | exact Or.inl rfl | exact Or.inr rfl | exact zb_01 _ | assumption) ⟨by simp [nIk, zb, c21], rfl⟩
        · refine z_push iX8_isOf_24 ?_
          refine z_goto iX8_isOf_25 ?_
          exact e_bret iX8_isOf_29 rfl (by first | exact Or.inl rfl | exact Or.inr rfl | exact zb_01 _ | assumption) ⟨by simp [nIk, zb, c21], rfl⟩
      · exact absurd h0 c8
  | succ n ih =>
    intro x hx
    refine z_iload iX8_isOf_2 rfl ?_
    refine z_iload iX8_isOf_3 rfl ?_
    refine z_icmp_eq iX8_isOf_4 (fun c4 => ?_) (fun c4 => ?_)
    · refine z_iload iX8_isOf_19 rfl ?_
      refine z_iload iX8_isOf_20 rfl ?_
      refine z_icmp_ne iX8_isOf_21 (fun c21 => ?_) (fun c21 => ?_)
      · refine z_push iX8_isOf_28 ?_
        exact e_bret iX8_isOf_29 rfl (by first | exact Or.inl rfl | exact Or.inr rfl | exact zb_01 _ | assumption) ⟨by rw [nIk, if_pos c4]; simp [zb, c21], rfl⟩
      · refine z_push iX8_isOf_24 ?_
        refine z_goto iX8_isOf_25 ?_
        exact e_bret iX8_isOf_29 rfl (by first | exact Or.inl rfl | exact Or.inr rfl | exact zb_01 _ | assumption) ⟨by rw [nIk, if_pos c4]; simp [zb, c21], rfl⟩
    · refine z_iload iX8_isOf_7 rfl ?_
      refine z_if_eq iX8_isOf_8 (fun c8 => ?_) (fun c8 => ?_)
      · refine z_iload iX8_isOf_19 rfl ?_
        refine z_iload iX8_isOf_20 rfl ?_
        refine z_icmp_ne iX8_isOf_21 (fun c21 => ?_) (fun c21 => ?_)
        · refine z_push iX8_isOf_28 ?_
          exact e_bret iX8_isOf_29 rfl (by first | exact Or.inl rfl | exact Or.inr rfl | exact zb_01 _ | assumption) ⟨by rw [nIk, if_neg c4, if_pos c8]; simp [zb, c21], rfl⟩
        · refine z_push iX8_isOf_24 ?_
          refine z_goto iX8_isOf_25 ?_
          exact e_bret iX8_isOf_29 rfl (by first | exact Or.inl rfl | exact Or.inr rfl | exact zb_01 _ | assumption) ⟨by rw [nIk, if_neg c4, if_pos c8]; simp [zb, c21], rfl⟩
      · refine z_iload iX8_isOf_11 rfl ?_
        refine e_callS iX8_isOf_12 kX8_157 (tX8_parent F x) rfl rfl ⟨Nat.le_of_ble_eq_true rfl, Nat.le_of_ble_eq_true rfl⟩ ⟨Nat.le_of_ble_eq_true rfl, Nat.le_of_ble_eq_true rfl⟩ (Nat.le_of_ble_eq_true rfl) ?_
        dsimp only [Option.toList, List.cons_append, List.nil_append]
        refine z_istore iX8_isOf_15 rfl ?_
        dsimp only [List.set_cons_zero, List.set_cons_succ]
        refine z_goto iX8_isOf_16 ?_
        rw [nIk, if_neg c4, if_neg c8]
        exact ih _ (by have := zrn_s c8; omega)

theorem zrn_2 (k : Int32) : zrn k ≤ 2 := by
  unfold zrn
  split
  · omega
  · split <;> omega

set_option maxRecDepth 100000 in
theorem tX8_isOf {L : Nat} (F : zFt) (a : Int32) (b : Int32) : zFn mX8_isOf 1 [.int a, .int b] L F (some (.int (zb (decide (nIk b 2 a = b))))) F := by
  refine e_of (lo := [some (.int a), some (.int b), none]) (by decide +kernel) (Nat.le_of_ble_eq_true rfl) rfl ?_
  refine z_iload iX8_isOf_0 rfl ?_
  refine z_istore iX8_isOf_1 rfl ?_
  dsimp only [List.set_cons_zero, List.set_cons_succ]
  exact lpX8_isOf F a b 2 a (zrn_2 a)

def nPl (F : zFt) (s : Nat) (x : Int32) : Nat → Int32
  | 0 => -1
  | n + 1 => if F 101 (s * 16 + n) = x then nI n else nPl F s x n
theorem st_s {F : zFt} {s : Nat} (h : F 75 28 = nI (s + 1)) : F 75 28 - 1 = nI s := by rw [h, nI_pred]

set_option maxRecDepth 100000 in
theorem lpX8_placeOf {L : Nat} {R : Room} (F : zFt) (s : Nat) (hs : s < 8) (x : Int32) : ∀ n : Nat, n ≤ 16 → zEV mX8_placeOf R (zZf L (some (.int (nPl F s x n))) F) 16 [some (.ref 75), some (.int x), some (.int (nI s)), some (.int (nI n - 1))] [] 111 (zE L F) 0 0 := by
  intro n
  induction n with
  | zero =>
    intro hn
    refine z_iload iX8_placeOf_16 rfl ?_
    refine z_if_lt iX8_placeOf_17 (fun c17 => ?_) (fun c17 => ?_)
    · refine z_iload iX8_placeOf_41 rfl ?_
      exact e_iret iX8_placeOf_42 rfl ⟨rfl, rfl⟩
    · exact absurd (by decide) c17
  | succ n ih =>
    intro hn
    rw [nI_pred]
    refine z_iload iX8_placeOf_16 rfl ?_
    refine z_if_lt iX8_placeOf_17 (fun c17 => ?_) (fun c17 => ?_)
    · exact absurd c17 (nI_pos (by omega))
    · refine z_aload iX8_placeOf_20 rfl ?_
      refine e_getR iX8_placeOf_21 fX8_86 rfl ?_
      refine z_push iX8_placeOf_24 ?_
      refine z_iload iX8_placeOf_26 rfl ?_
      refine z_imul iX8_placeOf_27 ?_
      refine z_iload iX8_placeOf_28 rfl ?_
      refine z_iadd iX8_placeOf_29 ?_
      rw [nI_16m, nI_add]
      refine e_iald iX8_placeOf_30 rfl (vin_mk (n := 128) (by omega)) ?_
      rw [zn_nI (by omega)]
      refine z_iload iX8_placeOf_31 rfl ?_
      refine z_icmp_eq iX8_placeOf_32 (fun c32 => ?_) (fun c32 => ?_)
      · refine z_iload iX8_placeOf_41 rfl ?_
        exact e_iret iX8_placeOf_42 rfl ⟨by rw [nPl, if_pos c32], rfl⟩
      · refine z_iinc (v := (-1)) iX8_placeOf_35 (by decide) (by decide) rfl rfl ?_
        dsimp only [List.set_cons_zero, List.set_cons_succ]
        refine z_goto iX8_placeOf_38 ?_
        rw [nPl, if_neg c32]
        exact z_to (by rw [Int32.sub_eq_add_neg]) rfl (ih (by omega))

set_option maxRecDepth 100000 in
theorem tX8_placeOf {L : Nat} (F : zFt) (x : Int32) (s : Nat) (hs : s < 8) (hst : F 75 28 = nI (s + 1)) (hk : 0 ≤ (F 100 s).toInt ∧ zn (F 100 s) ≤ 16) : zFn mX8_placeOf 0 [.ref 75, .int x] L F (some (.int (nPl F s x (zn (F 100 s))))) F := by
  refine e_of (lo := [some (.ref 75), some (.int x), none, none]) (by decide +kernel) (Nat.le_of_ble_eq_true rfl) rfl ?_
  have es := st_s hst
  have ez : zn (nI s) = s := zn_nI (by omega)
  refine z_aload iX8_placeOf_0 rfl ?_
  refine e_getI iX8_placeOf_1 fX8_116 rfl ?_
  refine z_push iX8_placeOf_4 ?_
  refine z_isub iX8_placeOf_5 ?_
  refine z_istore iX8_placeOf_6 rfl ?_
  dsimp only [List.set_cons_zero, List.set_cons_succ]
  rw [es]
  refine z_aload iX8_placeOf_7 rfl ?_
  refine e_getR iX8_placeOf_8 fX8_83 rfl ?_
  refine z_iload iX8_placeOf_11 rfl ?_
  refine e_iald iX8_placeOf_12 rfl (vin_mk (n := 8) (by omega)) ?_
  rw [ez]
  refine z_push iX8_placeOf_13 ?_
  refine z_isub iX8_placeOf_14 ?_
  refine z_istore iX8_placeOf_15 rfl ?_
  dsimp only [List.set_cons_zero, List.set_cons_succ]
  exact z_to (lo' := [some (.ref 75), some (.int x), some (.int (nI s)), some (.int (nI (zn (F 100 s)) - 1))]) (by rw [nI_zn hk.1]) rfl (lpX8_placeOf F s hs x _ hk.2)

def nNo (F : zFt) (a b c u : Int32) : zFt := if 200 ≤ F 75 38 then zup F 75 38 (F 75 38 + 1) else zup (zup (zup (zup (zup (zup (zup F 106 (zn (6 * F 75 38)) a) 106 (zn (6 * F 75 38 + 1)) b) 106 (zn (6 * F 75 38 + 2)) c) 106 (zn (6 * F 75 38 + 3)) u) 106 (zn (6 * F 75 38 + 4)) (F 75 28)) 106 (zn (6 * F 75 38 + 5)) (F 75 19)) 75 38 (F 75 38 + 1)
theorem ix6m {x : Int32} (h : vp_in x 200) : vp_in (6 * x) 1200 ∧ vp_in (6 * x + 1) 1200 ∧ vp_in (6 * x + 2) 1200 ∧ vp_in (6 * x + 3) 1200 ∧ vp_in (6 * x + 4) 1200 ∧ vp_in (6 * x + 5) 1200 := by
  rw [Int32.mul_comm]
  exact ix6 h
theorem n200 {x : Int32} (h0 : 0 ≤ x.toInt) (h : ¬ 200 ≤ x) : vp_in x 200 := by
  rw [Int32.le_iff_toInt_le] at h
  simp at h
  rw [vin]
  omega

set_option maxRecDepth 100000 in
theorem tX8_note {L : Nat} (F : zFt) (a : Int32) (b : Int32) (c : Int32) (u : Int32) (hn : 0 ≤ (F 75 38).toInt) : zFn mX8_note 0 [.ref 75, .int a, .int b, .int c, .int u] L F (some (.int (F 75 38 + 1 - 1))) (nNo F a b c u) := by
  refine e_of (lo := [some (.ref 75), some (.int a), some (.int b), some (.int c), some (.int u), none]) (by decide +kernel) (Nat.le_of_ble_eq_true rfl) rfl ?_
  refine z_aload iX8_note_0 rfl ?_
  refine e_getI iX8_note_1 fX8_171 rfl ?_
  refine z_push iX8_note_4 ?_
  refine z_icmp_ge iX8_note_7 (fun c7 => ?_) (fun c7 => ?_)
  · refine z_aload iX8_note_84 rfl ?_
    refine z_dup iX8_note_85 rfl ?_
    refine e_getI iX8_note_86 fX8_171 rfl ?_
    refine z_push iX8_note_89 ?_
    refine z_iadd iX8_note_90 ?_
    refine e_putI iX8_note_91 fX8_171 fw8_38 rfl ?_
    refine z_aload iX8_note_94 rfl ?_
    refine e_getI iX8_note_95 fX8_171 rfl ?_
    try simp only [zup_ap, Nat.add_left_cancel_iff, Nat.reduceEqDiff, false_and, true_and, and_self, eq_self, ↓reduceIte]
    refine z_push iX8_note_98 ?_
    refine z_isub iX8_note_99 ?_
    exact e_iret iX8_note_100 rfl ⟨rfl, by rw [nNo, if_pos c7]⟩
  · refine z_push iX8_note_10 ?_
    refine z_aload iX8_note_12 rfl ?_
    refine e_getI iX8_note_13 fX8_171 rfl ?_
    refine z_imul iX8_note_16 ?_
    refine z_istore iX8_note_17 rfl ?_
    dsimp only [List.set_cons_zero, List.set_cons_succ]
    refine z_aload iX8_note_19 rfl ?_
    refine e_getR iX8_note_20 fX8_101 rfl ?_
    refine z_iload iX8_note_23 rfl ?_
    refine z_iload iX8_note_25 rfl ?_
    refine e_iast iX8_note_26 rfl (ix6m (n200 hn c7)).1 ?_
    refine z_aload iX8_note_27 rfl ?_
    refine e_getR iX8_note_28 fX8_101 rfl ?_
    try simp only [zup_ap, Nat.add_left_cancel_iff, Nat.reduceEqDiff, false_and, true_and, and_self, eq_self, ↓reduceIte]
    refine z_iload iX8_note_31 rfl ?_
    refine z_push iX8_note_33 ?_
    refine z_iadd iX8_note_34 ?_
    refine z_iload iX8_note_35 rfl ?_
    refine e_iast iX8_note_36 rfl (ix6m (n200 hn c7)).2.1 ?_
    refine z_aload iX8_note_37 rfl ?_
    refine e_getR iX8_note_38 fX8_101 rfl ?_
    try simp only [zup_ap, Nat.add_left_cancel_iff, Nat.reduceEqDiff, false_and, true_and, and_self, eq_self, ↓reduceIte]
    refine z_iload iX8_note_41 rfl ?_
    refine z_push iX8_note_43 ?_
    refine z_iadd iX8_note_44 ?_
    refine z_iload iX8_note_45 rfl ?_
    refine e_iast iX8_note_46 rfl (ix6m (n200 hn c7)).2.2.1 ?_
    refine z_aload iX8_note_47 rfl ?_
    refine e_getR iX8_note_48 fX8_101 rfl ?_
    try simp only [zup_ap, Nat.add_left_cancel_iff, Nat.reduceEqDiff, false_and, true_and, and_self, eq_self, ↓reduceIte]
    refine z_iload iX8_note_51 rfl ?_
    refine z_push iX8_note_53 ?_
    refine z_iadd iX8_note_54 ?_
    refine z_iload iX8_note_55 rfl ?_
    refine e_iast iX8_note_57 rfl (ix6m (n200 hn c7)).2.2.2.1 ?_
    refine z_aload iX8_note_58 rfl ?_
    refine e_getR iX8_note_59 fX8_101 rfl ?_
    try simp only [zup_ap, Nat.add_left_cancel_iff, Nat.reduceEqDiff, false_and, true_and, and_self, eq_self, ↓reduceIte]
    refine z_iload iX8_note_62 rfl ?_
    refine z_push iX8_note_64 ?_
    refine z_iadd iX8_note_65 ?_
    refine z_aload iX8_note_66 rfl ?_
    refine e_getI iX8_note_67 fX8_116 rfl ?_
    try simp only [zup_ap, Nat.add_left_cancel_iff, Nat.reduceEqDiff, false_and, true_and, and_self, eq_self, ↓reduceIte]
    refine e_iast iX8_note_70 rfl (ix6m (n200 hn c7)).2.2.2.2.1 ?_
    refine z_aload iX8_note_71 rfl ?_
    refine e_getR iX8_note_72 fX8_101 rfl ?_
    try simp only [zup_ap, Nat.add_left_cancel_iff, Nat.reduceEqDiff, false_and, true_and, and_self, eq_self, ↓reduceIte]
    refine z_iload iX8_note_75 rfl ?_
    refine z_push iX8_note_77 ?_
    refine z_iadd iX8_note_78 ?_
    refine z_aload iX8_note_79 rfl ?_
    refine e_getI iX8_note_80 fX8_144 rfl ?_
    try simp only [zup_ap, Nat.add_left_cancel_iff, Nat.reduceEqDiff, false_and, true_and, and_self, eq_self, ↓reduceIte]
    refine e_iast iX8_note_83 rfl (ix6m (n200 hn c7)).2.2.2.2.2 ?_
    refine z_aload iX8_note_84 rfl ?_
    refine z_dup iX8_note_85 rfl ?_
    refine e_getI iX8_note_86 fX8_171 rfl ?_
    try simp only [zup_ap, Nat.add_left_cancel_iff, Nat.reduceEqDiff, false_and, true_and, and_self, eq_self, ↓reduceIte]
    refine z_push iX8_note_89 ?_
    refine z_iadd iX8_note_90 ?_
    refine e_putI iX8_note_91 fX8_171 fw8_38 rfl ?_
    refine z_aload iX8_note_94 rfl ?_
    refine e_getI iX8_note_95 fX8_171 rfl ?_
    try simp only [zup_ap, Nat.add_left_cancel_iff, Nat.reduceEqDiff, false_and, true_and, and_self, eq_self, ↓reduceIte]
    refine z_push iX8_note_98 ?_
    refine z_isub iX8_note_99 ?_
    exact e_iret iX8_note_100 rfl ⟨rfl, by rw [nNo, if_neg c7]⟩

abbrev nJ (F : zFt) : Int32 := F 97 (zn (F 75 28 - 1))
abbrev nE (F : zFt) : Int32 := F 98 (zn (F 75 28 - 1))
abbrev nMa (F : zFt) (e : Int32) (k : Nat) : Int32 := F 94 (zn (5 * e + nI k))
abbrev nSe (F : zFt) (e : Int32) : Int32 := F 78 (zn (F 83 (zn e)))
abbrev gNt (F : zFt) (j e : Int32) : Nat → Int32 → Int32 := fun i a => a + (if ¬ F 89 i = 0 then 0 else if ¬ F 90 i = j then 0 else if ¬ F 91 i = e then 0 else 1)
abbrev gNx (F : zFt) (e : Int32) : Nat → Int32 → Int32 := fun k a => if nMa F e (k + 1) ≤ a then a else nMa F e (k + 1)
abbrev gNm (F : zFt) (e : Int32) : Nat → Int32 → Int32 := fun k a => if a ≤ nMa F e (k + 1) then a else nMa F e (k + 1)
abbrev nMx (F : zFt) (e : Int32) : Int32 := zfold (gNx F e) (F 94 (zn (5 * e))) (zn (nSe F e) - 1)
abbrev nMn (F : zFt) (e : Int32) : Int32 := zfold (gNm F e) (F 94 (zn (5 * e))) (zn (nSe F e) - 1)
def nHo (F : zFt) (r : Int32) : Bool :=
  let a := (F 86 (zn r)).toInt64
  if (F 85 (zn r)).toInt = 2 then !decide (F 75 19 ≤ 0) && (decide (F 89 (zn (F 75 19 - 1)) = 0) && (decide (0 < lg_cmp (F 92 (zn (F 75 19 - 1))).toInt64 a) || !decide (0 ≤ lg_cmp (F 92 (zn (F 75 19 - 1))).toInt64 (-a))))
  else if (F 85 (zn r)).toInt = 3 then !decide (zfold (gNt F (nJ F) (nE F)) 0 (zn (F 75 19)) < 2) && !decide (lg_cmp (zfold (gNt F (nJ F) (nE F)) 0 (zn (F 75 19))).toInt64 a ≤ 0)
  else if (F 85 (zn r)).toInt = 5 then !decide (lg_cmp (F 94 (zn (nMj F (nE F) (nJ F)))).toInt64 a ≤ 0)
  else if (F 85 (zn r)).toInt = 6 then !decide (0 ≤ lg_cmp (F 94 (zn (nMj F (nE F) (nJ F)))).toInt64 a)
  else if (F 85 (zn r)).toInt = 8 then !decide (lg_cmp ((nMx F (nE F)).toInt64 - (nMn F (nE F)).toInt64) a ≤ 0)
  else !decide (lg_cmp (F 75 19).toInt64 a ≤ 0)
def okU (F : zFt) : Prop := vp_in (F 75 28 - 1) 8 ∧ (0 ≤ (F 75 19).toInt ∧ zn (F 75 19) ≤ 400) ∧ vp_in (nE F) 60 ∧ vp_in (F 83 (zn (nE F))) 12 ∧ vp_in (nMj F (nE F) (nJ F)) 300 ∧ 0 ≤ (nSe F (nE F)).toInt ∧ 0 < zn (nSe F (nE F)) ∧ zn (nSe F (nE F)) ≤ 5
theorem ix5m {e : Int32} {s : Nat} (he : vp_in e 60) (hs : s < 5) : vp_in (5 * e + nI s) 300 := by
  rw [Int32.mul_comm]
  exact ix5 he hs
theorem ix5z {e : Int32} (he : vp_in e 60) : vp_in (5 * e) 300 := by
  have h := ix5m (s := 0) he (by decide)
  rw [nI_0, Int32.add_zero] at h
  exact h

set_option maxRecDepth 100000 in
theorem lpX8_holdsa {L : Nat} {Z : zZt} (F : zFt) (r j e : Int32) (l : Int64) (h0 : 0 ≤ (F 75 19).toInt) (h4 : zn (F 75 19) ≤ 400) (kk : zEV mX8_holds (zrm 1 0 0) Z 207 [some (.ref 75), some (.int r), some (.int j), some (.int e), some (.long l), none, some (.int (zfold (gNt F j e) 0 (zn (F 75 19)))), some (.int (nI (zn (F 75 19)))), none, none, none] [] 111 (zE L (F)) 0 0) : ∀ (n a : Nat), a + n = zn (F 75 19) → zEV mX8_holds (zrm 1 0 0) Z 150 [some (.ref 75), some (.int r), some (.int j), some (.int e), some (.long l), none, some (.int (zfold (gNt F j e) 0 a)), some (.int (nI a)), none, none, none] [] 111 (zE L (F)) 0 0 := by
  intro n
  induction n with
  | zero =>
    intro a ha
    obtain rfl : a = zn (F 75 19) := by omega
    refine z_iload iX8_holds_150 rfl ?_
    refine z_aload iX8_holds_152 rfl ?_
    refine e_getI iX8_holds_153 fX8_144 rfl ?_
    refine z_icmp_ge iX8_holds_156 (fun c156 => ?_) (fun c156 => ?_)
    · exact kk
    · exact absurd (up_end h0 rfl) c156
  | succ n ih =>
    intro a ha
    refine z_iload iX8_holds_150 rfl ?_
    refine z_aload iX8_holds_152 rfl ?_
    refine e_getI iX8_holds_153 fX8_144 rfl ?_
    refine z_icmp_ge iX8_holds_156 (fun c156 => ?_) (fun c156 => ?_)
    · exact absurd c156 (up_in (x := (F 75 19)) (by omega))
    · refine z_iload iX8_holds_159 rfl ?_
      refine z_aload iX8_holds_161 rfl ?_
      refine e_getR iX8_holds_162 fX8_50 rfl ?_
      refine z_iload iX8_holds_165 rfl ?_
      refine e_iald iX8_holds_167 rfl (vin_mk (n := 400) (by omega)) ?_
      rw [zn_nI (by omega)]
      refine z_if_ne iX8_holds_168 (fun c168 => ?_) (fun c168 => ?_)
      · refine z_push iX8_holds_197 ?_
        refine z_iadd iX8_holds_198 ?_
        refine z_istore iX8_holds_199 rfl ?_
        dsimp only [List.set_cons_zero, List.set_cons_succ]
        refine z_iinc (v := 1) iX8_holds_201 (by decide) (by decide) rfl rfl ?_
        dsimp only [List.set_cons_zero, List.set_cons_succ]
        refine z_goto iX8_holds_204 ?_
        exact z_to (by rw [zfold_s, gNt, if_pos c168, nI_1]) rfl (ih (a + 1) (by omega))
      · refine z_aload iX8_holds_171 rfl ?_
        refine e_getR iX8_holds_172 fX8_53 rfl ?_
        refine z_iload iX8_holds_175 rfl ?_
        refine e_iald iX8_holds_177 rfl (vin_mk (n := 400) (by omega)) ?_
        rw [zn_nI (by omega)]
        refine z_iload iX8_holds_178 rfl ?_
        refine z_icmp_ne iX8_holds_179 (fun c179 => ?_) (fun c179 => ?_)
        · refine z_push iX8_holds_197 ?_
          refine z_iadd iX8_holds_198 ?_
          refine z_istore iX8_holds_199 rfl ?_
          dsimp only [List.set_cons_zero, List.set_cons_succ]
          refine z_iinc (v := 1) iX8_holds_201 (by decide) (by decide) rfl rfl ?_
          dsimp only [List.set_cons_zero, List.set_cons_succ]
          refine z_goto iX8_holds_204 ?_
          exact z_to (by rw [zfold_s, gNt, if_neg (not_not_intro c168), if_pos c179, nI_1]) rfl (ih (a + 1) (by omega))
        · refine z_aload iX8_holds_182 rfl ?_
          refine e_getR iX8_holds_183 fX8_56 rfl ?_
          refine z_iload iX8_holds_186 rfl ?_
          refine e_iald iX8_holds_188 rfl (vin_mk (n := 400) (by omega)) ?_
          rw [zn_nI (by omega)]
          refine z_iload iX8_holds_189 rfl ?_
          refine z_icmp_ne iX8_holds_190 (fun c190 => ?_) (fun c190 => ?_)
          · refine z_push iX8_holds_197 ?_
            refine z_iadd iX8_holds_198 ?_
            refine z_istore iX8_holds_199 rfl ?_
            dsimp only [List.set_cons_zero, List.set_cons_succ]
            refine z_iinc (v := 1) iX8_holds_201 (by decide) (by decide) rfl rfl ?_
            dsimp only [List.set_cons_zero, List.set_cons_succ]
            refine z_goto iX8_holds_204 ?_
            exact z_to (by rw [zfold_s, gNt, if_neg (not_not_intro c168), if_neg (not_not_intro c179), if_pos c190, nI_1]) rfl (ih (a + 1) (by omega))
          · refine z_push iX8_holds_193 ?_
            refine z_goto iX8_holds_194 ?_
            refine z_iadd iX8_holds_198 ?_
            refine z_istore iX8_holds_199 rfl ?_
            dsimp only [List.set_cons_zero, List.set_cons_succ]
            refine z_iinc (v := 1) iX8_holds_201 (by decide) (by decide) rfl rfl ?_
            dsimp only [List.set_cons_zero, List.set_cons_succ]
            refine z_goto iX8_holds_204 ?_
            exact z_to (by rw [zfold_s, gNt, if_neg (not_not_intro c168), if_neg (not_not_intro c179), if_neg (not_not_intro c190), nI_1]) rfl (ih (a + 1) (by omega))

set_option maxRecDepth 100000 in
theorem lpX8_holdsb {L : Nat} {Z : zZt} (F : zFt) (r j e : Int32) (l : Int64) (he : vp_in e 60) (hc : vp_in (F 83 (zn e)) 12) (h0 : 0 ≤ (nSe F e).toInt) (h1 : 0 < zn (nSe F e)) (h5 : zn (nSe F e) ≤ 5) (kk : zEV mX8_holds (zrm 1 0 0) Z 377 [some (.ref 75), some (.int r), some (.int j), some (.int e), some (.long l), none, none, some (.int (F 83 (zn e))), some (.int (zfold (gNx F e) (F 94 (zn (5 * e))) (zn (nSe F e) - 1))), some (.int (zfold (gNm F e) (F 94 (zn (5 * e))) (zn (nSe F e) - 1))), some (.int (nI ((zn (nSe F e) - 1) + 1)))] [] 111 (zE L (F)) 0 0) : ∀ (n a : Nat), a + n = zn (nSe F e) - 1 → zEV mX8_holds (zrm 1 0 0) Z 291 [some (.ref 75), some (.int r), some (.int j), some (.int e), some (.long l), none, none, some (.int (F 83 (zn e))), some (.int (zfold (gNx F e) (F 94 (zn (5 * e))) a)), some (.int (zfold (gNm F e) (F 94 (zn (5 * e))) a)), some (.int (nI (a + 1)))] [] 111 (zE L (F)) 0 0 := by
  intro n
  induction n with
  | zero =>
    intro a ha
    obtain rfl : a = zn (nSe F e) - 1 := by omega
    refine z_iload iX8_holds_291 rfl ?_
    refine z_aload iX8_holds_293 rfl ?_
    refine e_getR iX8_holds_294 fX8_16 rfl ?_
    refine z_iload iX8_holds_297 rfl ?_
    refine e_iald iX8_holds_299 rfl (by assumption) ?_
    refine z_icmp_ge iX8_holds_300 (fun c300 => ?_) (fun c300 => ?_)
    · exact kk
    · exact absurd (up_end (x := nSe F e) h0 (by omega)) c300
  | succ n ih =>
    intro a ha
    refine z_iload iX8_holds_291 rfl ?_
    refine z_aload iX8_holds_293 rfl ?_
    refine e_getR iX8_holds_294 fX8_16 rfl ?_
    refine z_iload iX8_holds_297 rfl ?_
    refine e_iald iX8_holds_299 rfl (by assumption) ?_
    refine z_icmp_ge iX8_holds_300 (fun c300 => ?_) (fun c300 => ?_)
    · exact absurd c300 (up_in (x := nSe F e) (by omega))
    · refine z_aload iX8_holds_303 rfl ?_
      refine e_getR iX8_holds_304 fX8_65 rfl ?_
      refine z_push iX8_holds_307 ?_
      refine z_iload iX8_holds_308 rfl ?_
      refine z_imul iX8_holds_309 ?_
      refine z_iload iX8_holds_310 rfl ?_
      refine z_iadd iX8_holds_312 ?_
      refine e_iald iX8_holds_313 rfl (ix5m he (by omega)) ?_
      refine z_iload iX8_holds_314 rfl ?_
      refine z_icmp_le iX8_holds_316 (fun c316 => ?_) (fun c316 => ?_)
      · refine z_iload iX8_holds_333 rfl ?_
        refine z_istore iX8_holds_335 rfl ?_
        dsimp only [List.set_cons_zero, List.set_cons_succ]
        refine z_aload iX8_holds_337 rfl ?_
        refine e_getR iX8_holds_338 fX8_65 rfl ?_
        refine z_push iX8_holds_341 ?_
        refine z_iload iX8_holds_342 rfl ?_
        refine z_imul iX8_holds_343 ?_
        refine z_iload iX8_holds_344 rfl ?_
        refine z_iadd iX8_holds_346 ?_
        refine e_iald iX8_holds_347 rfl (ix5m he (by omega)) ?_
        refine z_iload iX8_holds_348 rfl ?_
        refine z_icmp_ge iX8_holds_350 (fun c350 => ?_) (fun c350 => ?_)
        · refine z_iload iX8_holds_367 rfl ?_
          refine z_istore iX8_holds_369 rfl ?_
          dsimp only [List.set_cons_zero, List.set_cons_succ]
          refine z_iinc (v := 1) iX8_holds_371 (by decide) (by decide) rfl rfl ?_
          dsimp only [List.set_cons_zero, List.set_cons_succ]
          refine z_goto iX8_holds_374 ?_
          exact z_to (by rw [zfold_s, zfold_s, gNx, gNm, if_pos c316, if_pos c350, nI_1]) rfl (ih (a + 1) (by omega))
        · refine z_aload iX8_holds_353 rfl ?_
          refine e_getR iX8_holds_354 fX8_65 rfl ?_
          refine z_push iX8_holds_357 ?_
          refine z_iload iX8_holds_358 rfl ?_
          refine z_imul iX8_holds_359 ?_
          refine z_iload iX8_holds_360 rfl ?_
          refine z_iadd iX8_holds_362 ?_
          refine e_iald iX8_holds_363 rfl (ix5m he (by omega)) ?_
          refine z_goto iX8_holds_364 ?_
          refine z_istore iX8_holds_369 rfl ?_
          dsimp only [List.set_cons_zero, List.set_cons_succ]
          refine z_iinc (v := 1) iX8_holds_371 (by decide) (by decide) rfl rfl ?_
          dsimp only [List.set_cons_zero, List.set_cons_succ]
          refine z_goto iX8_holds_374 ?_
          exact z_to (by rw [zfold_s, zfold_s, gNx, gNm, if_pos c316, if_neg c350, nI_1]) rfl (ih (a + 1) (by omega))
      · refine z_aload iX8_holds_319 rfl ?_
        refine e_getR iX8_holds_320 fX8_65 rfl ?_
        refine z_push iX8_holds_323 ?_
        refine z_iload iX8_holds_324 rfl ?_
        refine z_imul iX8_holds_325 ?_
        refine z_iload iX8_holds_326 rfl ?_
        refine z_iadd iX8_holds_328 ?_
        refine e_iald iX8_holds_329 rfl (ix5m he (by omega)) ?_
        refine z_goto iX8_holds_330 ?_
        refine z_istore iX8_holds_335 rfl ?_
        dsimp only [List.set_cons_zero, List.set_cons_succ]
        refine z_aload iX8_holds_337 rfl ?_
        refine e_getR iX8_holds_338 fX8_65 rfl ?_
        refine z_push iX8_holds_341 ?_
        refine z_iload iX8_holds_342 rfl ?_
        refine z_imul iX8_holds_343 ?_
        refine z_iload iX8_holds_344 rfl ?_
        refine z_iadd iX8_holds_346 ?_
        refine e_iald iX8_holds_347 rfl (ix5m he (by omega)) ?_
        refine z_iload iX8_holds_348 rfl ?_
        refine z_icmp_ge iX8_holds_350 (fun c350 => ?_) (fun c350 => ?_)
        · refine z_iload iX8_holds_367 rfl ?_
          refine z_istore iX8_holds_369 rfl ?_
          dsimp only [List.set_cons_zero, List.set_cons_succ]
          refine z_iinc (v := 1) iX8_holds_371 (by decide) (by decide) rfl rfl ?_
          dsimp only [List.set_cons_zero, List.set_cons_succ]
          refine z_goto iX8_holds_374 ?_
          exact z_to (by rw [zfold_s, zfold_s, gNx, gNm, if_neg c316, if_pos c350, nI_1]) rfl (ih (a + 1) (by omega))
        · refine z_aload iX8_holds_353 rfl ?_
          refine e_getR iX8_holds_354 fX8_65 rfl ?_
          refine z_push iX8_holds_357 ?_
          refine z_iload iX8_holds_358 rfl ?_
          refine z_imul iX8_holds_359 ?_
          refine z_iload iX8_holds_360 rfl ?_
          refine z_iadd iX8_holds_362 ?_
          refine e_iald iX8_holds_363 rfl (ix5m he (by omega)) ?_
          refine z_goto iX8_holds_364 ?_
          refine z_istore iX8_holds_369 rfl ?_
          dsimp only [List.set_cons_zero, List.set_cons_succ]
          refine z_iinc (v := 1) iX8_holds_371 (by decide) (by decide) rfl rfl ?_
          dsimp only [List.set_cons_zero, List.set_cons_succ]
          refine z_goto iX8_holds_374 ?_
          exact z_to (by rw [zfold_s, zfold_s, gNx, gNm, if_neg c316, if_neg c350, nI_1]) rfl (ih (a + 1) (by omega))

set_option maxRecDepth 100000 in
theorem tX8_holds {L : Nat} (F : zFt) (r : Int32) (hr : vp_in r 24) (ho : okU F) : zFn mX8_holds 1 [.ref 75, .int r] L F (some (.int (zb (nHo F r)))) F := by
  refine e_of (lo := [some (.ref 75), some (.int r), none, none, none, none, none, none, none, none, none]) (by decide +kernel) (Nat.le_of_ble_eq_true rfl) rfl ?_
  have hlat : ¬ F 75 19 ≤ 0 → vp_in (F 75 19 - 1) 400 := by
    intro h
    have e := nI_zn ho.2.1.1
    have h4 := ho.2.1.2
    rw [← e] at h ⊢
    rcases Nat.eq_zero_or_pos (zn (F 75 19)) with z | z
    · rw [z] at h
      exact absurd (by decide) h
    · rw [nI_s1 z]
      exact vin_mk (by omega)
  refine z_aload iX8_holds_0 rfl ?_
  refine e_getR iX8_holds_1 fX8_74 rfl ?_
  refine z_aload iX8_holds_4 rfl ?_
  refine e_getI iX8_holds_5 fX8_116 rfl ?_
  refine z_push iX8_holds_8 ?_
  refine z_isub iX8_holds_9 ?_
  refine e_iald iX8_holds_10 rfl ho.1 ?_
  refine z_istore iX8_holds_11 rfl ?_
  dsimp only [List.set_cons_zero, List.set_cons_succ]
  refine z_aload iX8_holds_12 rfl ?_
  refine e_getR iX8_holds_13 fX8_77 rfl ?_
  refine z_aload iX8_holds_16 rfl ?_
  refine e_getI iX8_holds_17 fX8_116 rfl ?_
  refine z_push iX8_holds_20 ?_
  refine z_isub iX8_holds_21 ?_
  refine e_iald iX8_holds_22 rfl ho.1 ?_
  refine z_istore iX8_holds_23 rfl ?_
  dsimp only [List.set_cons_zero, List.set_cons_succ]
  refine z_aload iX8_holds_24 rfl ?_
  refine e_getR iX8_holds_25 fX8_41 rfl ?_
  refine z_iload iX8_holds_28 rfl ?_
  refine e_iald iX8_holds_29 rfl hr ?_
  refine z_i2l iX8_holds_30 ?_
  refine z_lstore iX8_holds_31 rfl ?_
  dsimp only [List.set_cons_zero, List.set_cons_succ]
  refine z_aload iX8_holds_33 rfl ?_
  refine e_getR iX8_holds_34 fX8_38 rfl ?_
  refine z_iload iX8_holds_37 rfl ?_
  refine e_iald iX8_holds_38 rfl hr ?_
  refine z_tsw iX8_holds_39 (fun j t hj hx => ?_) (fun hx => ?_)
  · match j, hj with
    | 0, hj =>
      cases hj
      have e1 : (F 85 (zn r)).toInt = 2 := hx
      refine z_aload iX8_holds_80 rfl ?_
      refine e_getI iX8_holds_81 fX8_144 rfl ?_
      refine z_if_le iX8_holds_84 (fun c84 => ?_) (fun c84 => ?_)
      · refine z_push iX8_holds_142 ?_
        exact e_bret iX8_holds_143 rfl (by first | exact Or.inl rfl | exact Or.inr rfl | exact zb_01 _ | assumption) ⟨by simp [nHo, zb, e1, c84], rfl⟩
      · refine z_aload iX8_holds_87 rfl ?_
        refine e_getR iX8_holds_88 fX8_50 rfl ?_
        refine z_aload iX8_holds_91 rfl ?_
        refine e_getI iX8_holds_92 fX8_144 rfl ?_
        refine z_push iX8_holds_95 ?_
        refine z_isub iX8_holds_96 ?_
        refine e_iald iX8_holds_97 rfl (hlat c84) ?_
        refine z_if_ne iX8_holds_98 (fun c98 => ?_) (fun c98 => ?_)
        · refine z_push iX8_holds_142 ?_
          exact e_bret iX8_holds_143 rfl (by first | exact Or.inl rfl | exact Or.inr rfl | exact zb_01 _ | assumption) ⟨by simp [nHo, zb, e1, c84, c98], rfl⟩
        · refine z_aload iX8_holds_101 rfl ?_
          refine e_getR iX8_holds_102 fX8_59 rfl ?_
          refine z_aload iX8_holds_105 rfl ?_
          refine e_getI iX8_holds_106 fX8_144 rfl ?_
          refine z_push iX8_holds_109 ?_
          refine z_isub iX8_holds_110 ?_
          refine e_iald iX8_holds_111 rfl (hlat c84) ?_
          refine z_i2l iX8_holds_112 ?_
          refine z_lload iX8_holds_113 rfl ?_
          refine z_lcmp iX8_holds_115 ?_
          refine z_if_gt iX8_holds_116 (fun c116 => ?_) (fun c116 => ?_)
          · refine z_push iX8_holds_138 ?_
            refine z_goto iX8_holds_139 ?_
            exact e_bret iX8_holds_143 rfl (by first | exact Or.inl rfl | exact Or.inr rfl | exact zb_01 _ | assumption) ⟨by simp [nHo, zb, e1, c84, c98, c116], rfl⟩
          · refine z_aload iX8_holds_119 rfl ?_
            refine e_getR iX8_holds_120 fX8_59 rfl ?_
            refine z_aload iX8_holds_123 rfl ?_
            refine e_getI iX8_holds_124 fX8_144 rfl ?_
            refine z_push iX8_holds_127 ?_
            refine z_isub iX8_holds_128 ?_
            refine e_iald iX8_holds_129 rfl (hlat c84) ?_
            refine z_i2l iX8_holds_130 ?_
            refine z_lload iX8_holds_131 rfl ?_
            refine z_lneg iX8_holds_133 ?_
            refine z_lcmp iX8_holds_134 ?_
            refine z_if_ge iX8_holds_135 (fun c135 => ?_) (fun c135 => ?_)
            · refine z_push iX8_holds_142 ?_
              exact e_bret iX8_holds_143 rfl (by first | exact Or.inl rfl | exact Or.inr rfl | exact zb_01 _ | assumption) ⟨by simp [nHo, zb, e1, c84, c98, c116, c135], rfl⟩
            · refine z_push iX8_holds_138 ?_
              refine z_goto iX8_holds_139 ?_
              exact e_bret iX8_holds_143 rfl (by first | exact Or.inl rfl | exact Or.inr rfl | exact zb_01 _ | assumption) ⟨by simp [nHo, zb, e1, c84, c98, c116, c135], rfl⟩
    | 1, hj =>
      cases hj
      have e1 : (F 85 (zn r)).toInt = 3 := hx
      refine z_push iX8_holds_144 ?_
      refine z_istore iX8_holds_145 rfl ?_
      dsimp only [List.set_cons_zero, List.set_cons_succ]
      refine z_push iX8_holds_147 ?_
      refine z_istore iX8_holds_148 rfl ?_
      dsimp only [List.set_cons_zero, List.set_cons_succ]
      refine lpX8_holdsa F r (nJ F) (nE F) _ ho.2.1.1 ho.2.1.2 ?_ _ 0 (Nat.zero_add _)
      refine z_iload iX8_holds_207 rfl ?_
      refine z_push iX8_holds_209 ?_
      refine z_icmp_lt iX8_holds_210 (fun c210 => ?_) (fun c210 => ?_)
      · refine z_push iX8_holds_226 ?_
        exact e_bret iX8_holds_227 rfl (by first | exact Or.inl rfl | exact Or.inr rfl | exact zb_01 _ | assumption) ⟨by simp [nHo, zb, e1, c210], rfl⟩
      · refine z_iload iX8_holds_213 rfl ?_
        refine z_i2l iX8_holds_215 ?_
        refine z_lload iX8_holds_216 rfl ?_
        refine z_lcmp iX8_holds_218 ?_
        refine z_if_le iX8_holds_219 (fun c219 => ?_) (fun c219 => ?_)
        · refine z_push iX8_holds_226 ?_
          exact e_bret iX8_holds_227 rfl (by first | exact Or.inl rfl | exact Or.inr rfl | exact zb_01 _ | assumption) ⟨by simp [nHo, zb, e1, c210, c219], rfl⟩
        · refine z_push iX8_holds_222 ?_
          refine z_goto iX8_holds_223 ?_
          exact e_bret iX8_holds_227 rfl (by first | exact Or.inl rfl | exact Or.inr rfl | exact zb_01 _ | assumption) ⟨by simp [nHo, zb, e1, c210, c219], rfl⟩
    | 2, hj =>
      cases hj
      have e2 : ¬ (F 85 (zn r)).toInt = 2 ∧ ¬ (F 85 (zn r)).toInt = 3 ∧ ¬ (F 85 (zn r)).toInt = 5 ∧ ¬ (F 85 (zn r)).toInt = 6 ∧ ¬ (F 85 (zn r)).toInt = 8 := by simp at hx; omega
      obtain ⟨e1, e3, e4, e5, e6⟩ := e2
      refine z_aload iX8_holds_396 rfl ?_
      refine e_getI iX8_holds_397 fX8_144 rfl ?_
      refine z_i2l iX8_holds_400 ?_
      refine z_lload iX8_holds_401 rfl ?_
      refine z_lcmp iX8_holds_403 ?_
      refine z_if_le iX8_holds_404 (fun c404 => ?_) (fun c404 => ?_)
      · refine z_push iX8_holds_411 ?_
        exact e_bret iX8_holds_412 rfl (by first | exact Or.inl rfl | exact Or.inr rfl | exact zb_01 _ | assumption) ⟨by simp [nHo, zb, e1, e3, e4, e5, e6, c404], rfl⟩
      · refine z_push iX8_holds_407 ?_
        refine z_goto iX8_holds_408 ?_
        exact e_bret iX8_holds_412 rfl (by first | exact Or.inl rfl | exact Or.inr rfl | exact zb_01 _ | assumption) ⟨by simp [nHo, zb, e1, e3, e4, e5, e6, c404], rfl⟩
    | 3, hj =>
      cases hj
      have e1 : (F 85 (zn r)).toInt = 5 := hx
      refine z_aload iX8_holds_228 rfl ?_
      refine z_iload iX8_holds_229 rfl ?_
      refine z_iload iX8_holds_230 rfl ?_
      refine e_callV iX8_holds_231 kX8_161 (tX8_markOf F (nE F) (nJ F) ho.2.2.1 ho.2.2.2.1 ho.2.2.2.2.1) rfl rfl rfl ⟨Nat.le_of_ble_eq_true rfl, Nat.le_of_ble_eq_true rfl⟩ ⟨Nat.le_of_ble_eq_true rfl, Nat.le_of_ble_eq_true rfl⟩ (Nat.le_of_ble_eq_true rfl) ?_
      dsimp only [Option.toList, List.cons_append, List.nil_append]
      refine z_i2l iX8_holds_234 ?_
      refine z_lload iX8_holds_235 rfl ?_
      refine z_lcmp iX8_holds_237 ?_
      refine z_if_le iX8_holds_238 (fun c238 => ?_) (fun c238 => ?_)
      · refine z_push iX8_holds_245 ?_
        exact e_bret iX8_holds_246 rfl (by first | exact Or.inl rfl | exact Or.inr rfl | exact zb_01 _ | assumption) ⟨by simp [nHo, zb, e1, c238], rfl⟩
      · refine z_push iX8_holds_241 ?_
        refine z_goto iX8_holds_242 ?_
        exact e_bret iX8_holds_246 rfl (by first | exact Or.inl rfl | exact Or.inr rfl | exact zb_01 _ | assumption) ⟨by simp [nHo, zb, e1, c238], rfl⟩
    | 4, hj =>
      cases hj
      have e1 : (F 85 (zn r)).toInt = 6 := hx
      refine z_aload iX8_holds_247 rfl ?_
      refine z_iload iX8_holds_248 rfl ?_
      refine z_iload iX8_holds_249 rfl ?_
      refine e_callV iX8_holds_250 kX8_161 (tX8_markOf F (nE F) (nJ F) ho.2.2.1 ho.2.2.2.1 ho.2.2.2.2.1) rfl rfl rfl ⟨Nat.le_of_ble_eq_true rfl, Nat.le_of_ble_eq_true rfl⟩ ⟨Nat.le_of_ble_eq_true rfl, Nat.le_of_ble_eq_true rfl⟩ (Nat.le_of_ble_eq_true rfl) ?_
      dsimp only [Option.toList, List.cons_append, List.nil_append]
      refine z_i2l iX8_holds_253 ?_
      refine z_lload iX8_holds_254 rfl ?_
      refine z_lcmp iX8_holds_256 ?_
      refine z_if_ge iX8_holds_257 (fun c257 => ?_) (fun c257 => ?_)
      · refine z_push iX8_holds_264 ?_
        exact e_bret iX8_holds_265 rfl (by first | exact Or.inl rfl | exact Or.inr rfl | exact zb_01 _ | assumption) ⟨by simp [nHo, zb, e1, c257], rfl⟩
      · refine z_push iX8_holds_260 ?_
        refine z_goto iX8_holds_261 ?_
        exact e_bret iX8_holds_265 rfl (by first | exact Or.inl rfl | exact Or.inr rfl | exact zb_01 _ | assumption) ⟨by simp [nHo, zb, e1, c257], rfl⟩
    | 5, hj =>
      cases hj
      have e2 : ¬ (F 85 (zn r)).toInt = 2 ∧ ¬ (F 85 (zn r)).toInt = 3 ∧ ¬ (F 85 (zn r)).toInt = 5 ∧ ¬ (F 85 (zn r)).toInt = 6 ∧ ¬ (F 85 (zn r)).toInt = 8 := by simp at hx; omega
      obtain ⟨e1, e3, e4, e5, e6⟩ := e2
      refine z_aload iX8_holds_396 rfl ?_
      refine e_getI iX8_holds_397 fX8_144 rfl ?_
      refine z_i2l iX8_holds_400 ?_
      refine z_lload iX8_holds_401 rfl ?_
      refine z_lcmp iX8_holds_403 ?_
      refine z_if_le iX8_holds_404 (fun c404 => ?_) (fun c404 => ?_)
      · refine z_push iX8_holds_411 ?_
        exact e_bret iX8_holds_412 rfl (by first | exact Or.inl rfl | exact Or.inr rfl | exact zb_01 _ | assumption) ⟨by simp [nHo, zb, e1, e3, e4, e5, e6, c404], rfl⟩
      · refine z_push iX8_holds_407 ?_
        refine z_goto iX8_holds_408 ?_
        exact e_bret iX8_holds_412 rfl (by first | exact Or.inl rfl | exact Or.inr rfl | exact zb_01 _ | assumption) ⟨by simp [nHo, zb, e1, e3, e4, e5, e6, c404], rfl⟩
    | 6, hj =>
      cases hj
      have e1 : (F 85 (zn r)).toInt = 8 := hx
      refine z_aload iX8_holds_266 rfl ?_
      refine e_getR iX8_holds_267 fX8_32 rfl ?_
      refine z_iload iX8_holds_270 rfl ?_
      refine e_iald iX8_holds_271 rfl ho.2.2.1 ?_
      refine z_istore iX8_holds_272 rfl ?_
      dsimp only [List.set_cons_zero, List.set_cons_succ]
      refine z_aload iX8_holds_274 rfl ?_
      refine e_getR iX8_holds_275 fX8_65 rfl ?_
      refine z_push iX8_holds_278 ?_
      refine z_iload iX8_holds_279 rfl ?_
      refine z_imul iX8_holds_280 ?_
      refine e_iald iX8_holds_281 rfl (ix5z ho.2.2.1) ?_
      refine z_istore iX8_holds_282 rfl ?_
      dsimp only [List.set_cons_zero, List.set_cons_succ]
      refine z_iload iX8_holds_284 rfl ?_
      refine z_istore iX8_holds_286 rfl ?_
      dsimp only [List.set_cons_zero, List.set_cons_succ]
      refine z_push iX8_holds_288 ?_
      refine z_istore iX8_holds_289 rfl ?_
      dsimp only [List.set_cons_zero, List.set_cons_succ]
      refine lpX8_holdsb F r (nJ F) (nE F) _ ho.2.2.1 ho.2.2.2.1 ho.2.2.2.2.2.1 ho.2.2.2.2.2.2.1 ho.2.2.2.2.2.2.2 ?_ _ 0 (Nat.zero_add _)
      refine z_iload iX8_holds_377 rfl ?_
      refine z_i2l iX8_holds_379 ?_
      refine z_iload iX8_holds_380 rfl ?_
      refine z_i2l iX8_holds_382 ?_
      refine z_lsub iX8_holds_383 ?_
      refine z_lload iX8_holds_384 rfl ?_
      refine z_lcmp iX8_holds_386 ?_
      refine z_if_le iX8_holds_387 (fun c387 => ?_) (fun c387 => ?_)
      · refine z_push iX8_holds_394 ?_
        exact e_bret iX8_holds_395 rfl (by first | exact Or.inl rfl | exact Or.inr rfl | exact zb_01 _ | assumption) ⟨by simp [nHo, zb, e1, c387], rfl⟩
      · refine z_push iX8_holds_390 ?_
        refine z_goto iX8_holds_391 ?_
        exact e_bret iX8_holds_395 rfl (by first | exact Or.inl rfl | exact Or.inr rfl | exact zb_01 _ | assumption) ⟨by simp [nHo, zb, e1, c387], rfl⟩
    | j + 7, hj => simp at hj
  · have e2 : ¬ (F 85 (zn r)).toInt = 2 ∧ ¬ (F 85 (zn r)).toInt = 3 ∧ ¬ (F 85 (zn r)).toInt = 5 ∧ ¬ (F 85 (zn r)).toInt = 6 ∧ ¬ (F 85 (zn r)).toInt = 8 := by simp at hx; omega
    obtain ⟨e1, e3, e4, e5, e6⟩ := e2
    refine z_aload iX8_holds_396 rfl ?_
    refine e_getI iX8_holds_397 fX8_144 rfl ?_
    refine z_i2l iX8_holds_400 ?_
    refine z_lload iX8_holds_401 rfl ?_
    refine z_lcmp iX8_holds_403 ?_
    refine z_if_le iX8_holds_404 (fun c404 => ?_) (fun c404 => ?_)
    · refine z_push iX8_holds_411 ?_
      exact e_bret iX8_holds_412 rfl (by first | exact Or.inl rfl | exact Or.inr rfl | exact zb_01 _ | assumption) ⟨by simp [nHo, zb, e1, e3, e4, e5, e6, c404], rfl⟩
    · refine z_push iX8_holds_407 ?_
      refine z_goto iX8_holds_408 ?_
      exact e_bret iX8_holds_412 rfl (by first | exact Or.inl rfl | exact Or.inr rfl | exact zb_01 _ | assumption) ⟨by simp [nHo, zb, e1, e3, e4, e5, e6, c404], rfl⟩
