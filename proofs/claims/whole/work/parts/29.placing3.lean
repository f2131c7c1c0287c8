/-- the prizes for r and on, up to l and to 3 -/
def zpf (p : Nat → Int32) (c l : Int32) : Nat → Int32 → Int32 → Int32
  | 0, _, s => s
  | n + 1, r, s => if l < r then s else if 3 < r then s else zpf p c l n (r + 1) (s + p (zn (c * 3 + r - 1)))
theorem ixp {c r : Int32} (hc : vp_in c 12) (h1 : 1 ≤ r.toInt) (h3 : ¬ 3 < r) : vp_in (c * 3 + r - 1) 36 := by
  obtain ⟨j, hj, rfl⟩ := vin_of hc
  have h3' : r.toInt ≤ 3 := by
    rw [Int32.lt_iff_toInt_lt] at h3
    simp at h3
    exact h3
  have e := nI_zn (x := r) (by omega)
  have e2 := zn_int (x := r) (by omega)
  rw [← e]
  rw [nI_m3, nI_add, nI_s1 (by omega)]
  exact vin_mk (by omega)
theorem zrp1 {r : Int32} {n : Nat} (h1 : 1 ≤ r.toInt) (h3 : ¬ 3 < r) (hn : 4 < (n + 1 : Nat) + r.toInt) : 1 ≤ (r + 1).toInt ∧ 4 < (n : Nat) + (r + 1).toInt := by
  rw [Int32.lt_iff_toInt_lt] at h3
  simp at h3
  rw [tI_add]
  simp
  omega

set_option maxRecDepth 100000 in
theorem lpX2_prizesFrom {L : Nat} {R : Room} (F : zFt) (c f l : Int32) (hc : vp_in c 12) : ∀ (n : Nat) (r s : Int32), 1 ≤ r.toInt → 4 < (n : Nat) + r.toInt → zEV mX2_prizesFrom R (zZf L (some (.int (zpf (F 8) c l n r s))) F) 6 [some (.ref 20), some (.int c), some (.int f), some (.int l), some (.int s), some (.int r)] [] 111 (zE L F) 0 0 := by
  intro n
  induction n with
  | zero =>
    intro r s h1 hn
    refine z_iload iX2_prizesFrom_6 rfl ?_
    refine z_iload iX2_prizesFrom_8 rfl ?_
    refine z_icmp_gt iX2_prizesFrom_9 (fun c9 => ?_) (fun c9 => ?_)
    · refine z_iload iX2_prizesFrom_45 rfl ?_
      exact e_iret iX2_prizesFrom_47 rfl ⟨rfl, rfl⟩
    · refine z_iload iX2_prizesFrom_12 rfl ?_
      refine z_push iX2_prizesFrom_14 ?_
      refine z_icmp_gt iX2_prizesFrom_15 (fun c15 => ?_) (fun c15 => ?_)
      · refine z_iload iX2_prizesFrom_45 rfl ?_
        exact e_iret iX2_prizesFrom_47 rfl ⟨rfl, rfl⟩
      · refine absurd ?_ c15
        rw [Int32.lt_iff_toInt_lt]
        simp
        omega
  | succ n ih =>
    intro r s h1 hn
    refine z_iload iX2_prizesFrom_6 rfl ?_
    refine z_iload iX2_prizesFrom_8 rfl ?_
    refine z_icmp_gt iX2_prizesFrom_9 (fun c9 => ?_) (fun c9 => ?_)
    · refine z_iload iX2_prizesFrom_45 rfl ?_
      exact e_iret iX2_prizesFrom_47 rfl ⟨by rw [zpf, if_pos c9], rfl⟩
    · refine z_iload iX2_prizesFrom_12 rfl ?_
      refine z_push iX2_prizesFrom_14 ?_
      refine z_icmp_gt iX2_prizesFrom_15 (fun c15 => ?_) (fun c15 => ?_)
      · refine z_iload iX2_prizesFrom_45 rfl ?_
        exact e_iret iX2_prizesFrom_47 rfl ⟨by rw [zpf, if_neg c9, if_pos c15], rfl⟩
      · refine z_iload iX2_prizesFrom_18 rfl ?_
        refine z_aload iX2_prizesFrom_20 rfl ?_
        refine e_getR iX2_prizesFrom_21 fX2_24 rfl ?_
        refine e_getR iX2_prizesFrom_24 fX2_124 rfl ?_
        refine z_iload iX2_prizesFrom_27 rfl ?_
        refine z_push iX2_prizesFrom_28 ?_
        refine z_imul iX2_prizesFrom_29 ?_
        refine z_iload iX2_prizesFrom_30 rfl ?_
        refine z_iadd iX2_prizesFrom_32 ?_
        refine z_push iX2_prizesFrom_33 ?_
        refine z_isub iX2_prizesFrom_34 ?_
        refine e_iald iX2_prizesFrom_35 rfl (ixp hc h1 c15) ?_
        refine z_iadd iX2_prizesFrom_36 ?_
        refine z_istore iX2_prizesFrom_37 rfl ?_
        dsimp only [List.set_cons_zero, List.set_cons_succ]
        refine z_iinc (v := 1) iX2_prizesFrom_39 (by decide) (by decide) rfl rfl ?_
        dsimp only [List.set_cons_zero, List.set_cons_succ]
        refine z_goto iX2_prizesFrom_42 ?_
        rw [zpf, if_neg c9, if_neg c15]
        exact ih _ _ (zrp1 h1 c15 hn).1 (zrp1 h1 c15 hn).2

set_option maxRecDepth 100000 in
theorem tX2_prizesFrom {L : Nat} (F : zFt) (c : Int32) (f : Int32) (l : Int32) (hc : vp_in c 12) (h1 : 1 ≤ f.toInt) : zFn mX2_prizesFrom 0 [.ref 20, .int c, .int f, .int l] L F (some (.int (zpf (F 8) c l 4 f 0))) F := by
  refine e_of (lo := [some (.ref 20), some (.int c), some (.int f), some (.int l), none, none]) (by decide +kernel) (Nat.le_of_ble_eq_true rfl) rfl ?_
  refine z_push iX2_prizesFrom_0 ?_
  refine z_istore iX2_prizesFrom_1 rfl ?_
  dsimp only [List.set_cons_zero, List.set_cons_succ]
  refine z_iload iX2_prizesFrom_3 rfl ?_
  refine z_istore iX2_prizesFrom_4 rfl ?_
  dsimp only [List.set_cons_zero, List.set_cons_succ]
  exact lpX2_prizesFrom F c f l hc 4 f 0 h1 (by omega)

abbrev cTn (F : zFt) (e : Int32) : Int32 := zfold (gSa F e) 0 (zn (F 3 9))
def cSr (F : zFt) (e : Int32) : Int32 := if F 7 (zn (F 10 (zn e))) = 0 then 0 else if 1 ≤ cTn F e then zpf (F 8) (F 10 (zn e)) (F 23 (zn e) + cTn F e - 1) 4 (F 23 (zn e)) 0 / cTn F e else 0

set_option maxRecDepth 100000 in
theorem tX2_share {L : Nat} (F : zFt) (e : Int32) (he : vp_in e 60) (h0 : 0 ≤ (F 3 9).toInt) (h6 : zn (F 3 9) ≤ 60) (hc : vp_in (F 10 (zn e)) 12) (hr : 1 ≤ (F 23 (zn e)).toInt) : zFn mX2_share 2 [.ref 20, .int e] L F (some (.int (cSr F e))) F := by
  refine e_of (lo := [some (.ref 20), some (.int e), none, none]) (by decide +kernel) (Nat.le_of_ble_eq_true rfl) rfl ?_
  refine z_aload iX2_share_0 rfl ?_
  refine e_getR iX2_share_1 fX2_24 rfl ?_
  refine e_getR iX2_share_4 fX2_37 rfl ?_
  refine z_iload iX2_share_7 rfl ?_
  refine e_iald iX2_share_8 rfl (by assumption) ?_
  refine z_istore iX2_share_9 rfl ?_
  dsimp only [List.set_cons_zero, List.set_cons_succ]
  refine z_aload iX2_share_10 rfl ?_
  refine z_iload iX2_share_11 rfl ?_
  refine e_callV iX2_share_12 kX2_87 (tX2_sharers F e he h0 h6) rfl rfl rfl ⟨Nat.le_of_ble_eq_true rfl, Nat.le_of_ble_eq_true rfl⟩ ⟨Nat.le_of_ble_eq_true rfl, Nat.le_of_ble_eq_true rfl⟩ (Nat.le_of_ble_eq_true rfl) ?_
  dsimp only [Option.toList, List.cons_append, List.nil_append]
  refine z_istore iX2_share_15 rfl ?_
  dsimp only [List.set_cons_zero, List.set_cons_succ]
  refine z_aload iX2_share_16 rfl ?_
  refine e_getR iX2_share_17 fX2_24 rfl ?_
  refine e_getR iX2_share_20 fX2_120 rfl ?_
  refine z_iload iX2_share_23 rfl ?_
  refine e_bald iX2_share_24 rfl (by assumption) ?_
  refine z_if_eq iX2_share_25 (fun c25 => ?_) (fun c25 => ?_)
  · refine z_push iX2_share_33 ?_
    exact e_iret iX2_share_34 rfl ⟨by rw [cSr, if_pos c25], rfl⟩
  · refine z_iload iX2_share_28 rfl ?_
    refine z_push iX2_share_29 ?_
    refine z_icmp_ge iX2_share_30 (fun c30 => ?_) (fun c30 => ?_)
    · refine z_aload iX2_share_35 rfl ?_
      refine z_iload iX2_share_36 rfl ?_
      refine z_aload iX2_share_37 rfl ?_
      refine e_getR iX2_share_38 fX2_18 rfl ?_
      refine z_iload iX2_share_41 rfl ?_
      refine e_iald iX2_share_42 rfl (by assumption) ?_
      refine z_aload iX2_share_43 rfl ?_
      refine e_getR iX2_share_44 fX2_18 rfl ?_
      refine z_iload iX2_share_47 rfl ?_
      refine e_iald iX2_share_48 rfl (by assumption) ?_
      refine z_iload iX2_share_49 rfl ?_
      refine z_iadd iX2_share_50 ?_
      refine z_push iX2_share_51 ?_
      refine z_isub iX2_share_52 ?_
      refine e_callV iX2_share_53 kX2_93 (tX2_prizesFrom F (F 10 (zn e)) (F 23 (zn e)) _ hc hr) rfl rfl rfl ⟨Nat.le_of_ble_eq_true rfl, Nat.le_of_ble_eq_true rfl⟩ ⟨Nat.le_of_ble_eq_true rfl, Nat.le_of_ble_eq_true rfl⟩ (Nat.le_of_ble_eq_true rfl) ?_
      dsimp only [Option.toList, List.cons_append, List.nil_append]
      refine z_iload iX2_share_56 rfl ?_
      refine z_idiv iX2_share_57 (fun h => by rw [h] at c30; exact absurd c30 (by decide)) ?_
      exact e_iret iX2_share_58 rfl ⟨by rw [cSr, if_neg c25, if_pos c30], rfl⟩
    · refine z_push iX2_share_33 ?_
      exact e_iret iX2_share_34 rfl ⟨by rw [cSr, if_neg c25, if_neg c30], rfl⟩

def cR1 (F : zFt) (c : Int32) : Nat → zFt
  | 0 => F
  | a + 1 => if cR1 F c a 10 a = c then zup (zup (cTF (cR1 F c a) (nI a)) 21 a (cTv (cR1 F c a) (nI a))) 22 a (zfold (gAz (zup (cTF (cR1 F c a) (nI a)) 21 a (cTv (cR1 F c a) (nI a))) (nI a)) 0 (zn (cSe (zup (cTF (cR1 F c a) (nI a)) 21 a (cTv (cR1 F c a) (nI a))) (nI a)))) else cR1 F c a
theorem cTF_ne (F : zFt) (e : Int32) {k : Nat} (h : k ≠ 24) (j : Nat) : cTF F e k j = F k j := by
  unfold cTF
  split
  · rw [zrow_ap, if_neg h]
  · rfl
theorem cR1_ne (F : zFt) (c : Int32) {k : Nat} (h1 : k ≠ 21) (h2 : k ≠ 22) (h4 : k ≠ 24) (j : Nat) : ∀ a, cR1 F c a k j = F k j
  | 0 => rfl
  | a + 1 => by
    rw [cR1]
    split
    · rw [zup_ap, if_neg (by omega), zup_ap, if_neg (by omega), cTF_ne _ _ h4, cR1_ne F c h1 h2 h4 j a]
    · exact cR1_ne F c h1 h2 h4 j a
def cR2 (F : zFt) (c : Int32) : Nat → zFt
  | 0 => F
  | a + 1 => if cR2 F c a 10 a = c then zup (cR2 F c a) 23 a (1 + zfold (gBt (cR2 F c a) (nI a)) 0 (zn (cR2 F c a 3 9))) else cR2 F c a
theorem cR2_ne (F : zFt) (c : Int32) {k : Nat} (h1 : k ≠ 23) (j : Nat) : ∀ a, cR2 F c a k j = F k j
  | 0 => rfl
  | a + 1 => by
    rw [cR2]
    split
    · rw [zup_ap, if_neg (by omega), cR2_ne F c h1 j a]
    · exact cR2_ne F c h1 j a
/-- the entry's kind and its judges are in order -/
def okC (F : zFt) (e : Nat) : Prop := vp_in (F 10 e) 12 ∧ zn (F 6 (zn (F 10 e))) ≤ 5 ∧ 0 ≤ (F 6 (zn (F 10 e))).toInt ∧ 0 < zn (F 6 (zn (F 10 e)))
theorem okC_eq {F G : zFt} {e : Nat} (h : okC F e) (h1 : ∀ j, G 10 j = F 10 j) (h2 : ∀ j, G 6 j = F 6 j) : okC G e := by
  simp only [okC, h1, h2]
  exact h

set_option maxRecDepth 100000 in
theorem lpX2_rankClassa {L : Nat} {Z : zZt} (F : zFt) (c : Int32) (h0 : 0 ≤ (F 3 9).toInt) (h6 : zn (F 3 9) ≤ 60) (ho : ∀ e, e < zn (F 3 9) → okC F e) (kk : zEV mX2_rankClass (zrm 4 0 0) Z 57 [some (.ref 20), some (.int c), some (.int (nI (zn (F 3 9))))] [] 111 (zE L (cR1 F c (zn (F 3 9)))) 0 0) : ∀ (n a : Nat), a + n = zn (F 3 9) → zEV mX2_rankClass (zrm 4 0 0) Z 2 [some (.ref 20), some (.int c), some (.int (nI a))] [] 111 (zE L (cR1 F c a)) 0 0 := by
  intro n
  induction n with
  | zero =>
    intro a ha
    obtain rfl : a = zn (F 3 9) := by omega
    refine z_iload iX2_rankClass_2 rfl ?_
    refine z_aload iX2_rankClass_3 rfl ?_
    refine e_getR iX2_rankClass_4 fX2_24 rfl ?_
    refine e_getI iX2_rankClass_7 fX2_97 rfl ?_
    rw [cR1_ne F c (by decide) (by decide) (by decide)]
    refine z_icmp_ge iX2_rankClass_10 (fun c10 => ?_) (fun c10 => ?_)
    · exact kk
    · exact absurd (up_end h0 rfl) c10
  | succ n ih =>
    intro a ha
    refine z_iload iX2_rankClass_2 rfl ?_
    refine z_aload iX2_rankClass_3 rfl ?_
    refine e_getR iX2_rankClass_4 fX2_24 rfl ?_
    refine e_getI iX2_rankClass_7 fX2_97 rfl ?_
    rw [cR1_ne F c (by decide) (by decide) (by decide)]
    refine z_icmp_ge iX2_rankClass_10 (fun c10 => ?_) (fun c10 => ?_)
    · exact absurd c10 (up_in (x := (F 3 9)) (by omega))
    · have hk : okC (cR1 F c a) a := okC_eq (ho a (by omega)) (fun j => cR1_ne F c (by decide) (by decide) (by decide) j a) (fun j => cR1_ne F c (by decide) (by decide) (by decide) j a)
      have ez : zn (nI a) = a := zn_nI (by omega)
      refine z_aload iX2_rankClass_13 rfl ?_
      refine e_getR iX2_rankClass_14 fX2_24 rfl ?_
      refine e_getR iX2_rankClass_17 fX2_37 rfl ?_
      refine z_iload iX2_rankClass_20 rfl ?_
      refine e_iald iX2_rankClass_21 rfl (vin_mk (n := 60) (by omega)) ?_
      rw [ez]
      refine z_iload iX2_rankClass_22 rfl ?_
      refine z_icmp_ne iX2_rankClass_23 (fun c23 => ?_) (fun c23 => ?_)
      · refine z_iinc (v := 1) iX2_rankClass_51 (by decide) (by decide) rfl rfl ?_
        dsimp only [List.set_cons_zero, List.set_cons_succ]
        refine z_goto iX2_rankClass_54 ?_
        exact z_to (by simp [nI_1]) (by rw [cR1, if_neg c23]) (ih (a + 1) (by omega))
      · refine z_aload iX2_rankClass_26 rfl ?_
        refine e_getR iX2_rankClass_27 fX2_9 rfl ?_
        refine z_iload iX2_rankClass_30 rfl ?_
        refine z_aload iX2_rankClass_31 rfl ?_
        refine z_iload iX2_rankClass_32 rfl ?_
        refine e_callV iX2_rankClass_33 kX2_104 (tX2_totalOf (cR1 F c a) (nI a) (vin_mk (by omega)) (by rw [ez]; exact hk.1) (by rw [cSe, ez]; exact hk.2.1) (by rw [cSe, ez]; exact hk.2.2.1) (by rw [cSe, ez]; exact hk.2.2.2)) rfl rfl rfl ⟨Nat.le_of_ble_eq_true rfl, Nat.le_of_ble_eq_true rfl⟩ ⟨Nat.le_of_ble_eq_true rfl, Nat.le_of_ble_eq_true rfl⟩ (Nat.le_of_ble_eq_true rfl) ?_
        dsimp only [Option.toList, List.cons_append, List.nil_append]
        refine e_iast iX2_rankClass_36 rfl (vin_mk (n := 60) (by omega)) ?_
        rw [ez]
        refine z_aload iX2_rankClass_37 rfl ?_
        refine e_getR iX2_rankClass_38 fX2_15 rfl ?_
        try simp only [zup_ap, Nat.add_left_cancel_iff, Nat.reduceEqDiff, false_and, true_and, and_self, eq_self, ↓reduceIte]
        refine z_iload iX2_rankClass_41 rfl ?_
        refine z_aload iX2_rankClass_42 rfl ?_
        refine e_getR iX2_rankClass_43 fX2_28 rfl ?_
        try simp only [zup_ap, Nat.add_left_cancel_iff, Nat.reduceEqDiff, false_and, true_and, and_self, eq_self, ↓reduceIte]
        refine z_iload iX2_rankClass_46 rfl ?_
        refine e_callV iX2_rankClass_47 kX2_107 (tX5_marksAboveZero (zup (cTF (cR1 F c a) (nI a)) 21 a (cTv (cR1 F c a) (nI a))) (nI a) (vin_mk (by omega)) (by rw [ez]; simp only [zup_ap, cTF_ne _ _ (show 10 ≠ 24 by decide), Nat.reduceEqDiff, false_and, ↓reduceIte]; exact hk.1) (by simp only [cSe, ez, zup_ap, cTF_ne _ _ (show 10 ≠ 24 by decide), cTF_ne _ _ (show 6 ≠ 24 by decide), Nat.reduceEqDiff, false_and, ↓reduceIte]; exact hk.2.1) (by simp only [cSe, ez, zup_ap, cTF_ne _ _ (show 10 ≠ 24 by decide), cTF_ne _ _ (show 6 ≠ 24 by decide), Nat.reduceEqDiff, false_and, ↓reduceIte]; exact hk.2.2.1)) rfl rfl rfl ⟨Nat.le_of_ble_eq_true rfl, Nat.le_of_ble_eq_true rfl⟩ ⟨Nat.le_of_ble_eq_true rfl, Nat.le_of_ble_eq_true rfl⟩ (Nat.le_of_ble_eq_true rfl) ?_
        dsimp only [Option.toList, List.cons_append, List.nil_append]
        refine e_iast iX2_rankClass_50 rfl (vin_mk (n := 60) (by omega)) ?_
        rw [ez]
        refine z_iinc (v := 1) iX2_rankClass_51 (by decide) (by decide) rfl rfl ?_
        dsimp only [List.set_cons_zero, List.set_cons_succ]
        refine z_goto iX2_rankClass_54 ?_
        exact z_to (by simp [nI_1]) (by rw [cR1, if_pos c23]) (ih (a + 1) (by omega))

set_option maxRecDepth 100000 in
theorem lpX2_rankClassb {L : Nat} {Z : zZt} (F : zFt) (c : Int32) (h0 : 0 ≤ (F 3 9).toInt) (h6 : zn (F 3 9) ≤ 60) (kk : zEV mX2_rankClass (zrm 4 0 0) Z 102 [some (.ref 20), some (.int c), some (.int (nI (zn (F 3 9))))] [] 111 (zE L (cR2 F c (zn (F 3 9)))) 0 0) : ∀ (n a : Nat), a + n = zn (F 3 9) → zEV mX2_rankClass (zrm 4 0 0) Z 59 [some (.ref 20), some (.int c), some (.int (nI a))] [] 111 (zE L (cR2 F c a)) 0 0 := by
  intro n
  induction n with
  | zero =>
    intro a ha
    obtain rfl : a = zn (F 3 9) := by omega
    refine z_iload iX2_rankClass_59 rfl ?_
    refine z_aload iX2_rankClass_60 rfl ?_
    refine e_getR iX2_rankClass_61 fX2_24 rfl ?_
    refine e_getI iX2_rankClass_64 fX2_97 rfl ?_
    rw [cR2_ne F c (by decide)]
    refine z_icmp_ge iX2_rankClass_67 (fun c67 => ?_) (fun c67 => ?_)
    · exact kk
    · exact absurd (up_end h0 rfl) c67
  | succ n ih =>
    intro a ha
    refine z_iload iX2_rankClass_59 rfl ?_
    refine z_aload iX2_rankClass_60 rfl ?_
    refine e_getR iX2_rankClass_61 fX2_24 rfl ?_
    refine e_getI iX2_rankClass_64 fX2_97 rfl ?_
    rw [cR2_ne F c (by decide)]
    refine z_icmp_ge iX2_rankClass_67 (fun c67 => ?_) (fun c67 => ?_)
    · exact absurd c67 (up_in (x := (F 3 9)) (by omega))
    · have ez : zn (nI a) = a := zn_nI (by omega)
      have e3 : cR2 F c a 3 9 = F 3 9 := cR2_ne F c (by decide) 9 a
      refine z_aload iX2_rankClass_70 rfl ?_
      refine e_getR iX2_rankClass_71 fX2_24 rfl ?_
      refine e_getR iX2_rankClass_74 fX2_37 rfl ?_
      refine z_iload iX2_rankClass_77 rfl ?_
      refine e_iald iX2_rankClass_78 rfl (vin_mk (n := 60) (by omega)) ?_
      rw [ez]
      refine z_iload iX2_rankClass_79 rfl ?_
      refine z_icmp_ne iX2_rankClass_80 (fun c80 => ?_) (fun c80 => ?_)
      · refine z_iinc (v := 1) iX2_rankClass_96 (by decide) (by decide) rfl rfl ?_
        dsimp only [List.set_cons_zero, List.set_cons_succ]
        refine z_goto iX2_rankClass_99 ?_
        exact z_to (by simp [nI_1]) (by rw [cR2, if_neg c80]) (ih (a + 1) (by omega))
      · refine z_aload iX2_rankClass_83 rfl ?_
        refine e_getR iX2_rankClass_84 fX2_18 rfl ?_
        refine z_iload iX2_rankClass_87 rfl ?_
        refine z_push iX2_rankClass_88 ?_
        refine z_aload iX2_rankClass_89 rfl ?_
        refine z_iload iX2_rankClass_90 rfl ?_
        refine e_callV iX2_rankClass_91 kX2_110 (tX2_betterThan (cR2 F c a) (nI a) (vin_mk (by omega)) (by rw [e3]; exact h0) (by rw [e3]; exact h6)) rfl rfl rfl ⟨Nat.le_of_ble_eq_true rfl, Nat.le_of_ble_eq_true rfl⟩ ⟨Nat.le_of_ble_eq_true rfl, Nat.le_of_ble_eq_true rfl⟩ (Nat.le_of_ble_eq_true rfl) ?_
        dsimp only [Option.toList, List.cons_append, List.nil_append]
        refine z_iadd iX2_rankClass_94 ?_
        refine e_iast iX2_rankClass_95 rfl (vin_mk (n := 60) (by omega)) ?_
        rw [ez]
        refine z_iinc (v := 1) iX2_rankClass_96 (by decide) (by decide) rfl rfl ?_
        dsimp only [List.set_cons_zero, List.set_cons_succ]
        refine z_goto iX2_rankClass_99 ?_
        exact z_to (by simp [nI_1]) (by rw [cR2, if_pos c80]) (ih (a + 1) (by omega))

abbrev cRk (F : zFt) (c : Int32) : zFt := cR2 (cR1 F c (zn (F 3 9))) c (zn (F 3 9))
theorem cRk_ne (F : zFt) (c : Int32) {k : Nat} (h1 : k ≠ 21) (h2 : k ≠ 22) (h3 : k ≠ 23) (h4 : k ≠ 24) (j : Nat) : cRk F c k j = F k j := by
  rw [cRk, cR2_ne _ _ h3, cR1_ne _ _ h1 h2 h4]

set_option maxRecDepth 100000 in
theorem tX2_rankClass {L : Nat} (F : zFt) (c : Int32) (h0 : 0 ≤ (F 3 9).toInt) (h6 : zn (F 3 9) ≤ 60) (ho : ∀ e, e < zn (F 3 9) → okC F e) : zFn mX2_rankClass 4 [.ref 20, .int c] L F none (cRk F c) := by
  refine e_of (lo := [some (.ref 20), some (.int c), none]) (by decide +kernel) (Nat.le_of_ble_eq_true rfl) rfl ?_
  have e9 : cR1 F c (zn (F 3 9)) 3 9 = F 3 9 := cR1_ne F c (by decide) (by decide) (by decide) 9 _
  refine z_push iX2_rankClass_0 ?_
  refine z_istore iX2_rankClass_1 rfl ?_
  dsimp only [List.set_cons_zero, List.set_cons_succ]
  refine lpX2_rankClassa F c h0 h6 ho ?_ _ 0 (Nat.zero_add _)
  refine z_push iX2_rankClass_57 ?_
  refine z_istore iX2_rankClass_58 rfl ?_
  dsimp only [List.set_cons_zero, List.set_cons_succ]
  refine lpX2_rankClassb (cR1 F c (zn (F 3 9))) c (by rw [e9]; exact h0) (by rw [e9]; exact h6) ?_ _ 0 (Nat.zero_add _)
  exact e_vret iX2_rankClass_102 rfl ⟨rfl, by rw [e9]⟩
