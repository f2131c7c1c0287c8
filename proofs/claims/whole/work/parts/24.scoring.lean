theorem scI0 : ∀ s, s < 8 → zgI (5 * s + 35) 4 0 = true := by decide
theorem scI1 : ∀ s, s < 8 → zgI (5 * s + 35) 4 1 = true := by decide
theorem scI2 : ∀ s, s < 8 → zgI (5 * s + 35) 4 2 = true := by decide
theorem scI5 : ∀ s, s < 8 → zgI (5 * s + 35) 4 5 = true := by decide
theorem scI8 : ∀ s, s < 8 → zgI (5 * s + 35) 4 8 = true := by decide
theorem scR3 : ∀ s, s < 8 → zgR (5 * s + 35) 4 3 = some (5 * s + 36) := by decide
theorem scR4 : ∀ s, s < 8 → zgR (5 * s + 35) 4 4 = some (5 * s + 37) := by decide
theorem scR6 : ∀ s, s < 8 → zgR (5 * s + 35) 4 6 = some (5 * s + 38) := by decide
theorem scR7 : ∀ s, s < 8 → zgR (5 * s + 35) 4 7 = some (5 * s + 39) := by decide
theorem scA3 : ∀ s, s < 8 → zgA 0 (5 * s + 36) = some 16 := by decide
theorem scA4 : ∀ s, s < 8 → zgA 0 (5 * s + 37) = some 16 := by decide
theorem scA6 : ∀ s, s < 8 → zgA 0 (5 * s + 38) = some 8 := by decide
theorem scA7 : ∀ s, s < 8 → zgA 0 (5 * s + 39) = some 8 := by decide
theorem scO : ∀ s, s < 8 → zgO (5 * s + 35) 4 = true := by decide

set_option maxRecDepth 100000 in
theorem tX4_start {L : Nat} (F : zFt) (s : Nat) (hs : s < 8) (j : Int32) (e : Int32) (v : Int32) : zFn mX4_start 0 [.ref (5 * s + 35), .int j, .int e, .int v] L F none (zup (zup (zup (zup (zup F (5 * s + 35) 0 j) (5 * s + 35) 1 e) (5 * s + 35) 2 v) (5 * s + 35) 5 0) (5 * s + 35) 8 0) := by
  refine e_of (lo := [some (.ref (5 * s + 35)), some (.int j), some (.int e), some (.int v)]) (by decide +kernel) (Nat.le_of_ble_eq_true rfl) rfl ?_
  refine z_aload iX4_start_0 rfl ?_
  refine z_iload iX4_start_1 rfl ?_
  refine e_putI iX4_start_2 fX4_9 fw4_0 (scI0 s hs) ?_
  refine z_aload iX4_start_5 rfl ?_
  refine z_iload iX4_start_6 rfl ?_
  refine e_putI iX4_start_7 fX4_15 fw4_1 (scI1 s hs) ?_
  refine z_aload iX4_start_10 rfl ?_
  refine z_iload iX4_start_11 rfl ?_
  refine e_putI iX4_start_12 fX4_18 fw4_2 (scI2 s hs) ?_
  refine z_aload iX4_start_15 rfl ?_
  refine z_push iX4_start_16 ?_
  refine e_putI iX4_start_17 fX4_28 fw4_5 (scI5 s hs) ?_
  refine z_aload iX4_start_20 rfl ?_
  refine z_push iX4_start_21 ?_
  refine e_putI iX4_start_22 fX4_37 fw4_8 (scI8 s hs) ?_
  exact e_vret iX4_start_25 rfl ⟨rfl, rfl⟩

/-- the first place below n with this number, or -1 -/
def zfi (f : Nat → Int32) (x : Int32) : Nat → Nat → Int32
  | 0, _ => -1
  | n + 1, a => if f a = x then nI a else zfi f x n (a + 1)

set_option maxRecDepth 100000 in
theorem lpX4_indexOfSavepoint {L : Nat} {R : Room} (F : zFt) (s : Nat) (hs : s < 8) (x : Int32) (h0 : 0 ≤ (F (5 * s + 35) 5).toInt) (h16 : zn (F (5 * s + 35) 5) ≤ 16) : ∀ (n a : Nat), a + n = zn (F (5 * s + 35) 5) → zEV mX4_indexOfSavepoint R (zZf L (some (.int (zfi (fun i => F (5 * s + 36) i) x n a))) F) 2 [some (.ref (5 * s + 35)), some (.int x), some (.int (nI a))] [] 111 (zE L F) 0 0 := by
  intro n
  induction n with
  | zero =>
    intro a ha
    obtain rfl : a = zn (F (5 * s + 35) 5) := by omega
    refine z_iload iX4_indexOfSavepoint_2 rfl ?_
    refine z_aload iX4_indexOfSavepoint_3 rfl ?_
    refine e_getI iX4_indexOfSavepoint_4 fX4_28 (scI5 s hs) ?_
    refine z_icmp_ge iX4_indexOfSavepoint_7 (fun c7 => ?_) (fun c7 => ?_)
    · refine z_push iX4_indexOfSavepoint_28 ?_
      exact e_iret iX4_indexOfSavepoint_29 rfl ⟨rfl, rfl⟩
    · exact absurd (up_end h0 rfl) c7
  | succ n ih =>
    intro a ha
    refine z_iload iX4_indexOfSavepoint_2 rfl ?_
    refine z_aload iX4_indexOfSavepoint_3 rfl ?_
    refine e_getI iX4_indexOfSavepoint_4 fX4_28 (scI5 s hs) ?_
    refine z_icmp_ge iX4_indexOfSavepoint_7 (fun c7 => ?_) (fun c7 => ?_)
    · exact absurd c7 (up_in (x := F (5 * s + 35) 5) (by omega))
    · refine z_aload iX4_indexOfSavepoint_10 rfl ?_
      refine e_getR iX4_indexOfSavepoint_11 fX4_21 (scR3 s hs) ?_
      refine z_iload iX4_indexOfSavepoint_14 rfl ?_
      refine e_iald iX4_indexOfSavepoint_15 (scA3 s hs) (vin_mk (n := 16) (by omega)) ?_
      rw [zn_nI (by omega)]
      refine z_iload iX4_indexOfSavepoint_16 rfl ?_
      refine z_icmp_ne iX4_indexOfSavepoint_17 (fun c17 => ?_) (fun c17 => ?_)
      · refine z_iinc (v := 1) iX4_indexOfSavepoint_22 (by decide) (by decide) rfl rfl ?_
        dsimp only [List.set_cons_zero, List.set_cons_succ]
        refine z_goto iX4_indexOfSavepoint_25 ?_
        rw [zfi, if_neg c17]
        exact z_to (by simp [nI_1]) rfl (ih (a + 1) (by omega))
      · refine z_iload iX4_indexOfSavepoint_20 rfl ?_
        exact e_iret iX4_indexOfSavepoint_21 rfl ⟨by rw [zfi, if_pos c17], rfl⟩

set_option maxRecDepth 100000 in
theorem tX4_indexOfSavepoint {L : Nat} (F : zFt) (s : Nat) (hs : s < 8) (x : Int32) (h0 : 0 ≤ (F (5 * s + 35) 5).toInt) (h16 : zn (F (5 * s + 35) 5) ≤ 16) : zFn mX4_indexOfSavepoint 0 [.ref (5 * s + 35), .int x] L F (some (.int (zfi (fun i => F (5 * s + 36) i) x (zn (F (5 * s + 35) 5)) 0))) F := by
  refine e_of (lo := [some (.ref (5 * s + 35)), some (.int x), none]) (by decide +kernel) (Nat.le_of_ble_eq_true rfl) rfl ?_
  refine z_push iX4_indexOfSavepoint_0 ?_
  refine z_istore iX4_indexOfSavepoint_1 rfl ?_
  dsimp only [List.set_cons_zero, List.set_cons_succ]
  exact lpX4_indexOfSavepoint F s hs x h0 h16 _ 0 (Nat.zero_add _)

set_option maxRecDepth 100000 in
theorem tX4_addGuard {L : Nat} (F : zFt) (s : Nat) (hs : s < 8) (x : Int32) (y : Int32) (h : vp_in (F (5 * s + 35) 8) 8) : zFn mX4_addGuard 0 [.ref (5 * s + 35), .int x, .int y] L F none (zup (zup (zup F (5 * s + 38) (zn (F (5 * s + 35) 8)) x) (5 * s + 39) (zn (F (5 * s + 35) 8)) y) (5 * s + 35) 8 (F (5 * s + 35) 8 + 1)) := by
  refine e_of (lo := [some (.ref (5 * s + 35)), some (.int x), some (.int y)]) (by decide +kernel) (Nat.le_of_ble_eq_true rfl) rfl ?_
  refine z_aload iX4_addGuard_0 rfl ?_
  refine e_getR iX4_addGuard_1 fX4_31 (scR6 s hs) ?_
  refine z_aload iX4_addGuard_4 rfl ?_
  refine e_getI iX4_addGuard_5 fX4_37 (scI8 s hs) ?_
  refine z_iload iX4_addGuard_8 rfl ?_
  refine e_iast iX4_addGuard_9 (scA6 s hs) (by assumption) ?_
  refine z_aload iX4_addGuard_10 rfl ?_
  refine e_getR iX4_addGuard_11 fX4_34 (scR7 s hs) ?_
  try simp only [zup_ap, Nat.add_left_cancel_iff, Nat.reduceEqDiff, false_and, true_and, and_self, eq_self, ↓reduceIte]
  refine z_aload iX4_addGuard_14 rfl ?_
  refine e_getI iX4_addGuard_15 fX4_37 (scI8 s hs) ?_
  try simp only [zup_ap, Nat.add_left_cancel_iff, Nat.reduceEqDiff, false_and, true_and, and_self, eq_self, ↓reduceIte]
  refine z_iload iX4_addGuard_18 rfl ?_
  refine e_iast iX4_addGuard_19 (scA7 s hs) (by assumption) ?_
  refine z_aload iX4_addGuard_20 rfl ?_
  refine z_dup iX4_addGuard_21 rfl ?_
  refine e_getI iX4_addGuard_22 fX4_37 (scI8 s hs) ?_
  try simp only [zup_ap, Nat.add_left_cancel_iff, Nat.reduceEqDiff, false_and, true_and, and_self, eq_self, ↓reduceIte]
  refine z_push iX4_addGuard_25 ?_
  refine z_iadd iX4_addGuard_26 ?_
  refine e_putI iX4_addGuard_27 fX4_37 fw4_8 (scI8 s hs) ?_
  exact e_vret iX4_addGuard_30 rfl ⟨rfl, rfl⟩

/-- the rows move down by one from place p on -/
def cRm (F : zFt) (s p : Nat) : Nat → zFt
  | 0 => F
  | a + 1 => zup (zup (cRm F s p a) (5 * s + 36) (p + a) (cRm F s p a (5 * s + 36) (p + a + 1))) (5 * s + 37) (p + a) (cRm F s p a (5 * s + 37) (p + a + 1))
theorem cRm_ne (F : zFt) (s p : Nat) {k : Nat} (h1 : k ≠ 5 * s + 36) (h2 : k ≠ 5 * s + 37) (j : Nat) : ∀ a, cRm F s p a k j = F k j
  | 0 => rfl
  | a + 1 => by rw [cRm, zup_ap, if_neg (fun h => h2 h.1), zup_ap, if_neg (fun h => h1 h.1), cRm_ne F s p h1 h2 j a]

set_option maxRecDepth 100000 in
theorem lpX4_removeSavepoint {L : Nat} {R : Room} {Z : zZt} (F : zFt) (s : Nat) (hs : s < 8) (x : Int32) (h0 : 0 ≤ (F (5 * s + 35) 5).toInt) (h16 : zn (F (5 * s + 35) 5) ≤ 16) (hx : zn x < zn (F (5 * s + 35) 5)) (kk : zEV mX4_removeSavepoint R Z 46 [some (.ref (5 * s + 35)), some (.int x), some (.int (nI (zn x + (zn (F (5 * s + 35) 5) - zn x - 1) + 1)))] [] 111 (zE L (cRm F s (zn x) (zn (F (5 * s + 35) 5) - zn x - 1))) 0 0) : ∀ (n a : Nat), a + n = zn (F (5 * s + 35) 5) - zn x - 1 → zEV mX4_removeSavepoint R Z 4 [some (.ref (5 * s + 35)), some (.int x), some (.int (nI (zn x + a + 1)))] [] 111 (zE L (cRm F s (zn x) a)) 0 0 := by
  intro n
  induction n with
  | zero =>
    intro a ha
    obtain rfl : a = zn (F (5 * s + 35) 5) - zn x - 1 := by omega
    refine z_iload iX4_removeSavepoint_4 rfl ?_
    refine z_aload iX4_removeSavepoint_5 rfl ?_
    refine e_getI iX4_removeSavepoint_6 fX4_28 (scI5 s hs) ?_
    rw [cRm_ne F s (zn x) (by omega) (by omega)]
    refine z_icmp_ge iX4_removeSavepoint_9 (fun c9 => ?_) (fun c9 => ?_)
    · exact kk
    · exact absurd (up_end (x := F (5 * s + 35) 5) h0 (by omega)) c9
  | succ n ih =>
    intro a ha
    refine z_iload iX4_removeSavepoint_4 rfl ?_
    refine z_aload iX4_removeSavepoint_5 rfl ?_
    refine e_getI iX4_removeSavepoint_6 fX4_28 (scI5 s hs) ?_
    rw [cRm_ne F s (zn x) (by omega) (by omega)]
    refine z_icmp_ge iX4_removeSavepoint_9 (fun c9 => ?_) (fun c9 => ?_)
    · exact absurd c9 (up_in (x := F (5 * s + 35) 5) (by omega))
    · have e1 : nI (zn x + a + 1) - 1 = nI (zn x + a) := nI_pred _
      refine z_aload iX4_removeSavepoint_12 rfl ?_
      refine e_getR iX4_removeSavepoint_13 fX4_21 (scR3 s hs) ?_
      refine z_iload iX4_removeSavepoint_16 rfl ?_
      refine z_push iX4_removeSavepoint_17 ?_
      refine z_isub iX4_removeSavepoint_18 ?_
      refine z_aload iX4_removeSavepoint_19 rfl ?_
      refine e_getR iX4_removeSavepoint_20 fX4_21 (scR3 s hs) ?_
      refine z_iload iX4_removeSavepoint_23 rfl ?_
      refine e_iald iX4_removeSavepoint_24 (scA3 s hs) (vin_mk (n := 16) (by omega)) ?_
      rw [zn_nI (by omega)]
      refine e_iast iX4_removeSavepoint_25 (scA3 s hs) (by rw [e1]; exact vin_mk (n := 16) (by omega)) ?_
      rw [e1, zn_nI (by omega)]
      refine z_aload iX4_removeSavepoint_26 rfl ?_
      refine e_getR iX4_removeSavepoint_27 fX4_25 (scR4 s hs) ?_
      try simp only [zup_ap, Nat.add_left_cancel_iff, Nat.reduceEqDiff, false_and, true_and, and_self, eq_self, ↓reduceIte]
      refine z_iload iX4_removeSavepoint_30 rfl ?_
      refine z_push iX4_removeSavepoint_31 ?_
      refine z_isub iX4_removeSavepoint_32 ?_
      refine z_aload iX4_removeSavepoint_33 rfl ?_
      refine e_getR iX4_removeSavepoint_34 fX4_25 (scR4 s hs) ?_
      try simp only [zup_ap, Nat.add_left_cancel_iff, Nat.reduceEqDiff, false_and, true_and, and_self, eq_self, ↓reduceIte]
      refine z_iload iX4_removeSavepoint_37 rfl ?_
      refine e_iald iX4_removeSavepoint_38 (scA4 s hs) (vin_mk (n := 16) (by omega)) ?_
      try simp only [zup_ap, Nat.add_left_cancel_iff, Nat.reduceEqDiff, false_and, true_and, and_self, eq_self, ↓reduceIte]
      rw [zn_nI (by omega)]
      refine e_iast iX4_removeSavepoint_39 (scA4 s hs) (by rw [e1]; exact vin_mk (n := 16) (by omega)) ?_
      rw [e1, zn_nI (by omega)]
      refine z_iinc (v := 1) iX4_removeSavepoint_40 (by decide) (by decide) rfl rfl ?_
      dsimp only [List.set_cons_zero, List.set_cons_succ]
      refine z_goto iX4_removeSavepoint_43 ?_
      exact z_to (by simp [nI_1, Nat.add_assoc, Nat.add_comm, Nat.add_left_comm]) rfl (ih (a + 1) (by omega))

set_option maxRecDepth 100000 in
theorem tX4_removeSavepoint {L : Nat} (F : zFt) (s : Nat) (hs : s < 8) (x : Int32) (h0 : 0 ≤ (F (5 * s + 35) 5).toInt) (h16 : zn (F (5 * s + 35) 5) ≤ 16) (hx0 : 0 ≤ x.toInt) (hx : zn x < zn (F (5 * s + 35) 5)) : zFn mX4_removeSavepoint 0 [.ref (5 * s + 35), .int x] L F none (zup (cRm F s (zn x) (zn (F (5 * s + 35) 5) - zn x - 1)) (5 * s + 35) 5 (F (5 * s + 35) 5 - 1)) := by
  refine e_of (lo := [some (.ref (5 * s + 35)), some (.int x), none]) (by decide +kernel) (Nat.le_of_ble_eq_true rfl) rfl ?_
  refine z_iload iX4_removeSavepoint_0 rfl ?_
  refine z_push iX4_removeSavepoint_1 ?_
  refine z_iadd iX4_removeSavepoint_2 ?_
  refine z_istore iX4_removeSavepoint_3 rfl ?_
  dsimp only [List.set_cons_zero, List.set_cons_succ]
  refine z_to (lo' := [some (.ref (5 * s + 35)), some (.int x), some (.int (nI (zn x + 0 + 1)))]) (by rw [Nat.add_zero, ← nI_1, nI_zn hx0]) rfl (lpX4_removeSavepoint F s hs x h0 h16 hx ?_ _ 0 (Nat.zero_add _))
  refine z_aload iX4_removeSavepoint_46 rfl ?_
  refine z_dup iX4_removeSavepoint_47 rfl ?_
  refine e_getI iX4_removeSavepoint_48 fX4_28 (scI5 s hs) ?_
  rw [cRm_ne F s (zn x) (by omega) (by omega)]
  refine z_push iX4_removeSavepoint_51 ?_
  refine z_isub iX4_removeSavepoint_52 ?_
  refine e_putI iX4_removeSavepoint_53 fX4_28 fw4_5 (scI5 s hs) ?_
  exact e_vret iX4_removeSavepoint_56 rfl ⟨rfl, rfl⟩

theorem zfi_lt (f : Nat → Int32) (x : Int32) : ∀ (n a : Nat), a + n < 2147483648 → ¬ zfi f x n a < 0 → 0 ≤ (zfi f x n a).toInt ∧ zn (zfi f x n a) < a + n
  | 0, a, _, h => absurd (by rw [zfi]; decide) h
  | n + 1, a, hn, h => by
    by_cases hx : f a = x
    · rw [zfi, if_pos hx, nI_int (by omega), zn_nI (by omega)]
      omega
    · rw [zfi, if_neg hx] at h ⊢
      have := zfi_lt f x n (a + 1) (by omega) h
      omega
abbrev cIx (F : zFt) (s : Nat) (x : Int32) : Int32 := zfi (fun i => F (5 * s + 36) i) x (zn (F (5 * s + 35) 5)) 0
def cAs0 (F : zFt) (s : Nat) (x : Int32) : zFt := if cIx F s x < 0 then F else zup (cRm F s (zn (cIx F s x)) (zn (F (5 * s + 35) 5) - zn (cIx F s x) - 1)) (5 * s + 35) 5 (F (5 * s + 35) 5 - 1)
def cAs (F : zFt) (s : Nat) (x v : Int32) : zFt := zup (zup (zup (cAs0 F s x) (5 * s + 36) (zn (cAs0 F s x (5 * s + 35) 5)) x) (5 * s + 37) (zn (cAs0 F s x (5 * s + 35) 5)) v) (5 * s + 35) 5 (cAs0 F s x (5 * s + 35) 5 + 1)

set_option maxRecDepth 100000 in
theorem tX4_addSavepoint {L : Nat} (F : zFt) (s : Nat) (hs : s < 8) (x : Int32) (v : Int32) (h0 : 0 ≤ (F (5 * s + 35) 5).toInt) (h16 : zn (F (5 * s + 35) 5) ≤ 16) (hG : vp_in (cAs0 F s x (5 * s + 35) 5) 16) : zFn mX4_addSavepoint 1 [.ref (5 * s + 35), .int x, .int v] L F none (cAs F s x v) := by
  refine e_of (lo := [some (.ref (5 * s + 35)), some (.int x), some (.int v), none]) (by decide +kernel) (Nat.le_of_ble_eq_true rfl) rfl ?_
  have tail : ∀ G, G = cAs0 F s x → zEV mX4_addSavepoint (zrm 1 0 0) (zZf L none (cAs F s x v)) 15 [some (.ref (5 * s + 35)), some (.int x), some (.int v), some (.int (cIx F s x))] [] 111 (zE L G) 0 0 := by
    intro G hG2
    rw [← hG2] at hG
    refine z_aload iX4_addSavepoint_15 rfl ?_
    refine e_getR iX4_addSavepoint_16 fX4_21 (scR3 s hs) ?_
    refine z_aload iX4_addSavepoint_19 rfl ?_
    refine e_getI iX4_addSavepoint_20 fX4_28 (scI5 s hs) ?_
    refine z_iload iX4_addSavepoint_23 rfl ?_
    refine e_iast iX4_addSavepoint_24 (scA3 s hs) (by assumption) ?_
    refine z_aload iX4_addSavepoint_25 rfl ?_
    refine e_getR iX4_addSavepoint_26 fX4_25 (scR4 s hs) ?_
    try simp only [zup_ap, Nat.add_left_cancel_iff, Nat.reduceEqDiff, false_and, true_and, and_self, eq_self, ↓reduceIte]
    refine z_aload iX4_addSavepoint_29 rfl ?_
    refine e_getI iX4_addSavepoint_30 fX4_28 (scI5 s hs) ?_
    try simp only [zup_ap, Nat.add_left_cancel_iff, Nat.reduceEqDiff, false_and, true_and, and_self, eq_self, ↓reduceIte]
    refine z_iload iX4_addSavepoint_33 rfl ?_
    refine e_iast iX4_addSavepoint_34 (scA4 s hs) (by assumption) ?_
    refine z_aload iX4_addSavepoint_35 rfl ?_
    refine z_dup iX4_addSavepoint_36 rfl ?_
    refine e_getI iX4_addSavepoint_37 fX4_28 (scI5 s hs) ?_
    try simp only [zup_ap, Nat.add_left_cancel_iff, Nat.reduceEqDiff, false_and, true_and, and_self, eq_self, ↓reduceIte]
    refine z_push iX4_addSavepoint_40 ?_
    refine z_iadd iX4_addSavepoint_41 ?_
    refine e_putI iX4_addSavepoint_42 fX4_28 fw4_5 (scI5 s hs) ?_
    exact e_vret iX4_addSavepoint_45 rfl ⟨rfl, by rw [hG2]; rfl⟩
  refine z_aload iX4_addSavepoint_0 rfl ?_
  refine z_iload iX4_addSavepoint_1 rfl ?_
  refine e_callV iX4_addSavepoint_2 kX4_40 (tX4_indexOfSavepoint F s hs x h0 h16) rfl rfl (scO s hs) ⟨Nat.le_of_ble_eq_true rfl, Nat.le_of_ble_eq_true rfl⟩ ⟨Nat.le_of_ble_eq_true rfl, Nat.le_of_ble_eq_true rfl⟩ (Nat.le_of_ble_eq_true rfl) ?_
  dsimp only [Option.toList, List.cons_append, List.nil_append]
  refine z_istore iX4_addSavepoint_5 rfl ?_
  dsimp only [List.set_cons_zero, List.set_cons_succ]
  refine z_iload iX4_addSavepoint_6 rfl ?_
  refine z_if_lt iX4_addSavepoint_7 (fun c7 => ?_) (fun c7 => ?_)
  · exact tail _ (by rw [cAs0, if_pos c7])
  · refine z_aload iX4_addSavepoint_10 rfl ?_
    refine z_iload iX4_addSavepoint_11 rfl ?_
    refine e_callV iX4_addSavepoint_12 kX4_44 (tX4_removeSavepoint F s hs (cIx F s x) h0 h16 (zfi_lt _ x _ 0 (by omega) c7).1 (by have h := (zfi_lt _ x _ 0 (by omega) c7).2; rw [Nat.zero_add] at h; exact h)) rfl rfl (scO s hs) ⟨Nat.le_of_ble_eq_true rfl, Nat.le_of_ble_eq_true rfl⟩ ⟨Nat.le_of_ble_eq_true rfl, Nat.le_of_ble_eq_true rfl⟩ (Nat.le_of_ble_eq_true rfl) ?_
    dsimp only [Option.toList, List.cons_append, List.nil_append]
    exact tail _ (by rw [cAs0, if_neg c7])
