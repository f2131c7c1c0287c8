def okX (F : zFt) (s : Nat) : Prop := vp_in (F 98 s) 60 ∧ vp_in (F 83 (zn (F 98 s))) 12 ∧ vp_in (nMj F (F 98 s) (F 97 s)) 300 ∧ 0 ≤ (nSe F (F 98 s)).toInt ∧ 0 < zn (nSe F (F 98 s)) ∧ zn (nSe F (F 98 s)) ≤ 5
def okY (F : zFt) (s t : Nat) : Prop := okX F s ∧ (0 ≤ (F 100 s).toInt ∧ zn (F 100 s) ≤ 16) ∧ (0 ≤ (F 103 s).toInt ∧ zn (F 103 s) ≤ 8) ∧ (0 ≤ (F 99 s).toInt ∧ zn (F 99 s) ≤ t) ∧ ∀ k, k < zn (F 100 s) → 0 ≤ (F 102 (s * 16 + k)).toInt ∧ zn (F 102 (s * 16 + k)) ≤ t
def tpN (F : zFt) (n s : Nat) : Nat := if s + 1 < n then zn (F 99 (s + 1)) else zn (F 75 19)
def okW (F : zFt) : Prop := 0 ≤ (F 75 19).toInt ∧ zn (F 75 19) ≤ 400 ∧ ∀ i, i < zn (F 75 19) → okN F i
def NI (F : zFt) (n m : Nat) : Prop := F 75 28 = nI n ∧ n ≤ 8 ∧ okW F ∧ (0 ≤ (F 75 11).toInt ∧ zn (F 75 11) ≤ 24) ∧ (0 ≤ (F 75 38).toInt ∧ (F 75 38).toInt + m ≤ 2000000000) ∧ ∀ s, s < n → okY F s (tpN F n s)
theorem NI_le {F : zFt} {n m k : Nat} (h : NI F n m) (hk : k ≤ m) : NI F n k := ⟨h.1, h.2.1, h.2.2.1, h.2.2.2.1, ⟨h.2.2.2.2.1.1, by have := h.2.2.2.2.1.2; omega⟩, h.2.2.2.2.2⟩
theorem nNo_ne (F : zFt) (a b c u : Int32) {k j : Nat} (h : k ≠ 106) (h2 : ¬ (k = 75 ∧ j = 38)) : nNo F a b c u k j = F k j := by
  unfold nNo
  split
  · rw [zup_ap, if_neg h2]
  · rw [zup_ap, if_neg h2, zup_ap, if_neg (by omega), zup_ap, if_neg (by omega), zup_ap, if_neg (by omega), zup_ap, if_neg (by omega), zup_ap, if_neg (by omega), zup_ap, if_neg (by omega)]
theorem nNo_n (F : zFt) (a b c u : Int32) : nNo F a b c u 75 38 = F 75 38 + 1 := by
  unfold nNo
  split <;> rw [zup_ap, if_pos ⟨rfl, rfl⟩]
theorem in1 {x : Int32} {m : Nat} (h0 : 0 ≤ x.toInt) (h : x.toInt + (m + 1 : Nat) ≤ 2000000000) : 0 ≤ (x + 1).toInt ∧ (x + 1).toInt + m ≤ 2000000000 := by
  have e : (x + 1).toInt = x.toInt + 1 := by
    rw [tI_add]
    simp
    omega
  rw [e]
  omega
theorem NI_no {F : zFt} {n m : Nat} (h : NI F n (m + 1)) (a b c u : Int32) : NI (nNo F a b c u) n m := by
  have e : ∀ k j, k ≠ 106 → ¬ (k = 75 ∧ j = 38) → nNo F a b c u k j = F k j := fun k j h1 h2 => nNo_ne F a b c u h1 h2
  simp only [NI, okW, okN, okY, okX, tpN, nMj, nSe, nNo_n] at h ⊢
  simp (disch := omega) only [e]
  exact ⟨h.1, h.2.1, h.2.2.1, h.2.2.2.1, in1 h.2.2.2.2.1.1 h.2.2.2.2.1.2, h.2.2.2.2.2⟩
theorem NI_at {F : zFt} {n m : Nat} (h : NI F (n + 1) m) : F 75 28 - 1 = nI n ∧ zn (F 75 28 - 1) = n ∧ okY F n (zn (F 75 19)) ∧ okU F := by
  have h1 := st_s h.1
  have h2 : zn (F 75 28 - 1) = n := by rw [h1, zn_nI (by have := h.2.1; omega)]
  have h3 := h.2.2.2.2.2 n (by omega)
  simp only [tpN, if_neg (show ¬ n + 1 < n + 1 by omega)] at h3
  have h4 := h3.1
  have h8 := h.2.1
  refine ⟨h1, h2, h3, ?_, ⟨h.2.2.1.1, h.2.2.1.2.1⟩, ?_⟩
  · rw [h1]
    exact vin_mk (by omega)
  · simp only [nE, nJ, h2]
    exact h4
theorem nGo_ne (F : zFt) (m : Int32) {k : Nat} (h1 : k ≠ 94) (h2 : k ≠ 95) (h3 : k ≠ 96) (j : Nat) (h4 : ¬ (k = 75 ∧ j = 19)) : nGo F m k j = F k j := by
  rw [nGo, nGb_ne _ h1 h2 h3]
  simp only [nG0, nG2, zfl_ap, zup_ap]
  rw [if_neg (by omega), if_neg (by omega), if_neg (by omega), if_neg (by omega)]
theorem nGo_ev (F : zFt) (m : Int32) : nGo F m 75 19 = m := by
  rw [nGo, nGb_ne _ (by decide) (by decide) (by decide)]
  simp [nG0, nG2, zfl_ap, zup_ap]
/-- one scoring falls -/
abbrev nDr (F : zFt) (n : Nat) : zFt := nGo (zup F 75 28 (nI n)) (F 99 n)
theorem NI_dr {F : zFt} {n m : Nat} (h : NI F (n + 1) m) : NI (nDr F n) n m := by
  have hy := (NI_at h).2.2.1
  obtain ⟨h1, h2, h3, h4, h5, h6⟩ := h
  have e : ∀ k j, k ≠ 94 → k ≠ 95 → k ≠ 96 → ¬ (k = 75 ∧ j = 19) → ¬ (k = 75 ∧ j = 28) → nDr F n k j = F k j := by
    intro k j a1 a2 a3 a4 a5
    rw [nDr, nGo_ne _ _ a1 a2 a3 j a4, zup_ap, if_neg a5]
  have ev : nDr F n 75 19 = F 99 n := nGo_ev _ _
  have es : nDr F n 75 28 = nI n := by rw [nDr, nGo_ne _ _ (by decide) (by decide) (by decide) 28 (by decide), zup_ap, if_pos ⟨rfl, rfl⟩]
  have hb := hy.2.2.2.1
  have h400 := h3.2.1
  simp only [NI, okW, tpN, ev, es]
  refine ⟨trivial, by omega, ⟨hb.1, by omega, fun i hi => okN_eq (h3.2.2 i (by omega)) (fun k j hk => e k j (by omega) (by omega) (by omega) (by omega) (by omega))⟩, by simp (disch := omega) only [e]; exact h4, by simp (disch := omega) only [e]; exact h5, fun s hs => ?_⟩
  have h7 := h6 s (by omega)
  simp (disch := omega) only [okY, okX, nMj, nSe, e]
  simp only [okY, okX, nMj, nSe, tpN] at h7
  rw [if_pos (show s + 1 < n + 1 by omega)] at h7
  by_cases hl : s + 1 < n
  · simp only [if_pos hl]
    exact h7
  · simp only [if_neg hl]
    rw [show s + 1 = n by omega] at h7
    exact h7
def nSp (F : zFt) (q : Int32) : Nat → zFt
  | 0 => F
  | a + 1 => if ¬ nSp F q a 84 a = 3 then nSp F q a else if nHo (nSp F q a) (nI a) = false then nSp F q a else nNo (nSp F q a) (nSp F q a 85 a) (nI a) (-1) q
theorem nSp_ne (F : zFt) (q : Int32) {k j : Nat} (h : k ≠ 106) (h2 : ¬ (k = 75 ∧ j = 38)) : ∀ a, nSp F q a k j = F k j
  | 0 => rfl
  | a + 1 => by
    rw [nSp]
    split
    · exact nSp_ne F q h h2 a
    · split
      · exact nSp_ne F q h h2 a
      · rw [nNo_ne _ _ _ _ _ h h2, nSp_ne F q h h2 a]
theorem NI_sp {F : zFt} {n m : Nat} (q : Int32) : ∀ a, NI F n (m + a) → NI (nSp F q a) n m
  | 0, h => h
  | a + 1, h => by
    have ih := NI_sp (F := F) (n := n) (m := m + 1) q a (by rw [show m + 1 + a = m + (a + 1) by omega]; exact h)
    rw [nSp]
    split
    · exact NI_le ih (by omega)
    · split
      · exact NI_le ih (by omega)
      · exact NI_no ih _ _ _ _
/-- the latest guard that catches -/
def nLx (F : zFt) (s : Nat) (c : Int32) : Nat → Option Nat
  | 0 => none
  | n + 1 => if decide (nIk (F 104 (s * 8 + n)) 2 c = F 104 (s * 8 + n)) = false then nLx F s c n else some n
abbrev nC1 (F : zFt) : zFt := zup F 75 39 (F 75 39 + 1)
abbrev nCk (F : zFt) (s g : Nat) : Int32 := nPl F s (F 105 (s * 8 + g)) (zn (F 100 s))
abbrev nC2 (F : zFt) (s g : Nat) : zFt := zup (nC1 F) 100 s (nCk (nC1 F) s g + 1)
def nCv (F : zFt) (s g : Nat) : Int32 := if ¬ nCk (nC1 F) s g = -1 then F 102 (zn (16 * nI s + nCk (nC1 F) s g)) else F 99 s
abbrev nCa (F : zFt) (s g : Nat) : zFt := nGo (nC2 F s g) (nCv F s g)
def nkf (k : Int32) : Int32 := if decide (nIk 1 2 k = 1) = false then (if decide (nIk 4 2 k = 4) = false then 9 else 7) else 4
def nFl : Nat → zFt → Int32 → Int32 → Int32 × zFt
  | 0, F, _, _ => (1, F)
  | n + 1, F, k, q => match nLx F n k (zn (F 103 n)) with
    | some g => (2, nCa F n g)
    | none => if n = 0 then (1, nDr (nSp F q (zn (F 75 11))) n) else nFl n (nNo (nDr (nSp F q (zn (F 75 11))) n) (nkf k) (-1) q (-1)) (nkf k) (nDr (nSp F q (zn (F 75 11))) n 75 38 + 1 - 1)
theorem nPl_in (F : zFt) (s : Nat) (x : Int32) : ∀ n : Nat, n ≤ 16 → nPl F s x n = -1 ∨ ∃ j, j < n ∧ nPl F s x n = nI j
  | 0, _ => Or.inl rfl
  | n + 1, h => by
    rw [nPl]
    split
    · exact Or.inr ⟨n, by omega, rfl⟩
    · rcases nPl_in F s x n (by omega) with q | ⟨j, hj, q⟩
      · exact Or.inl q
      · exact Or.inr ⟨j, by omega, q⟩

set_option maxRecDepth 100000 in
theorem lgX8_failed {L : Nat} {Z : zZt} (F : zFt) (s : Nat) (hs : s < 8) (x y c q : Int32) (u v : Option Value) : ∀ n : Nat, n ≤ 8 → ((nLx F s c n = none → zEV mX8_failed (zrm 3 0 0) Z 142 [some (.ref 75), some (.int x), some (.int y), some (.int c), some (.int q), some (.int (nI s)), some (.int (nI 0 - 1)), u, v] [] 111 (zE L F) 0 0) ∧ (∀ g, nLx F s c n = some g → g < 8 → zEV mX8_failed (zrm 3 0 0) Z 67 [some (.ref 75), some (.int x), some (.int y), some (.int c), some (.int q), some (.int (nI s)), some (.int (nI g)), u, v] [] 111 (zE L F) 0 0)) → zEV mX8_failed (zrm 3 0 0) Z 31 [some (.ref 75), some (.int x), some (.int y), some (.int c), some (.int q), some (.int (nI s)), some (.int (nI n - 1)), u, v] [] 111 (zE L F) 0 0 := by
  intro n
  induction n with
  | zero =>
    intro hn kk
    refine z_iload iX8_failed_31 rfl ?_
    refine z_if_lt iX8_failed_33 (fun c33 => ?_) (fun c33 => ?_)
    · refine z_iload iX8_failed_62 rfl ?_
      refine z_if_lt iX8_failed_64 (fun c64 => ?_) (fun c64 => ?_)
      · exact kk.1 rfl
      · exact absurd (by decide) c64
    · exact absurd (by decide) c33
  | succ n ih =>
    intro hn kk
    rw [nI_pred]
    refine z_iload iX8_failed_31 rfl ?_
    refine z_if_lt iX8_failed_33 (fun c33 => ?_) (fun c33 => ?_)
    · exact absurd c33 (nI_pos (by omega))
    · refine z_iload iX8_failed_36 rfl ?_
      refine z_aload iX8_failed_37 rfl ?_
      refine e_getR iX8_failed_38 fX8_95 rfl ?_
      refine z_push iX8_failed_41 ?_
      refine z_iload iX8_failed_43 rfl ?_
      refine z_imul iX8_failed_45 ?_
      refine z_iload iX8_failed_46 rfl ?_
      refine z_iadd iX8_failed_48 ?_
      rw [nI_8m, nI_add]
      refine e_iald iX8_failed_49 rfl (vin_mk (n := 64) (by omega)) ?_
      rw [zn_nI (by omega)]
      refine e_callS iX8_failed_50 kX8_178 (tX8_isOf F c _) rfl rfl ⟨Nat.le_of_ble_eq_true rfl, Nat.le_of_ble_eq_true rfl⟩ ⟨Nat.le_of_ble_eq_true rfl, Nat.le_of_ble_eq_true rfl⟩ (Nat.le_of_ble_eq_true rfl) ?_
      dsimp only [Option.toList, List.cons_append, List.nil_append]
      refine z_if_ne iX8_failed_53 (fun c53 => ?_) (fun c53 => ?_)
      · rw [zb_n] at c53
        refine z_iload iX8_failed_62 rfl ?_
        refine z_if_lt iX8_failed_64 (fun c64 => ?_) (fun c64 => ?_)
        · exact absurd c64 (nI_pos (by omega))
        · exact kk.2 n (by rw [nLx, if_neg (by rw [c53]; decide)]) (by omega)
      · rw [zb_0] at c53
        refine z_iinc (v := (-1)) iX8_failed_56 (by decide) (by decide) rfl rfl ?_
        dsimp only [List.set_cons_zero, List.set_cons_succ]
        refine z_goto iX8_failed_59 ?_
        refine z_to (by rw [Int32.sub_eq_add_neg]) rfl (ih (by omega) ?_)
        rw [nLx, if_pos c53] at kk
        exact kk

set_option maxRecDepth 100000 in
theorem lrX8_failed {L : Nat} {Z : zZt} (F : zFt) (n m : Nat) (hF : NI F (n + 1) (m + zn (F 75 11))) (x y c q z w : Int32) (kk : ∀ u v, zEV mX8_failed (zrm 3 0 0) Z 198 [some (.ref 75), some (.int x), some (.int y), some (.int c), some (.int q), some (.int z), some (.int w), u, v] [] 111 (zE L (nSp F q (zn (F 75 11)))) 0 0) : ∀ (t a : Nat) (v : Option Value), a + t = zn (F 75 11) → zEV mX8_failed (zrm 3 0 0) Z 145 [some (.ref 75), some (.int x), some (.int y), some (.int c), some (.int q), some (.int z), some (.int w), some (.int (nI a)), v] [] 111 (zE L (nSp F q a)) 0 0 := by
  have hr := hF.2.2.2.1
  intro t
  induction t with
  | zero =>
    intro a v ha
    obtain rfl : a = zn (F 75 11) := by omega
    refine z_iload iX8_failed_145 rfl ?_
    refine z_aload iX8_failed_147 rfl ?_
    refine e_getI iX8_failed_148 fX8_138 rfl ?_
    rw [nSp_ne F q (by decide) (by decide)]
    refine z_icmp_ge iX8_failed_151 (fun c151 => ?_) (fun c151 => ?_)
    · exact kk _ _
    · exact absurd (up_end hr.1 rfl) c151
  | succ t ih =>
    intro a v ha
    have ez : zn (nI a) = a := zn_nI (by omega)
    have hk : NI (nSp F q a) (n + 1) (m + (zn (F 75 11) - a)) := NI_sp q a (by rw [show m + (zn (F 75 11) - a) + a = m + zn (F 75 11) by omega]; exact hF)
    refine z_iload iX8_failed_145 rfl ?_
    refine z_aload iX8_failed_147 rfl ?_
    refine e_getI iX8_failed_148 fX8_138 rfl ?_
    rw [nSp_ne F q (by decide) (by decide)]
    refine z_icmp_ge iX8_failed_151 (fun c151 => ?_) (fun c151 => ?_)
    · exact absurd c151 (up_in (x := F 75 11) (by omega))
    · refine z_aload iX8_failed_154 rfl ?_
      refine e_getR iX8_failed_155 fX8_35 rfl ?_
      refine z_iload iX8_failed_158 rfl ?_
      refine e_iald iX8_failed_160 rfl (vin_mk (n := 24) (by omega)) ?_
      rw [ez]
      refine z_push iX8_failed_161 ?_
      refine z_icmp_ne iX8_failed_162 (fun c162 => ?_) (fun c162 => ?_)
      · refine z_iinc (v := 1) iX8_failed_192 (by decide) (by decide) rfl rfl ?_
        dsimp only [List.set_cons_zero, List.set_cons_succ]
        refine z_goto iX8_failed_195 ?_
        rw [nI_1]
        exact z_to rfl (by rw [nSp, if_pos c162]) (ih (a + 1) _ (by omega))
      · refine z_aload iX8_failed_165 rfl ?_
        refine z_iload iX8_failed_166 rfl ?_
        refine e_callV iX8_failed_168 kX8_165 (tX8_holds (nSp F q a) (nI a) (vin_mk (by omega)) (NI_at hk).2.2.2) rfl rfl rfl ⟨Nat.le_of_ble_eq_true rfl, Nat.le_of_ble_eq_true rfl⟩ ⟨Nat.le_of_ble_eq_true rfl, Nat.le_of_ble_eq_true rfl⟩ (Nat.le_of_ble_eq_true rfl) ?_
        dsimp only [Option.toList, List.cons_append, List.nil_append]
        refine z_if_eq iX8_failed_171 (fun c171 => ?_) (fun c171 => ?_)
        · rw [zb_0] at c171
          refine z_iinc (v := 1) iX8_failed_192 (by decide) (by decide) rfl rfl ?_
          dsimp only [List.set_cons_zero, List.set_cons_succ]
          refine z_goto iX8_failed_195 ?_
          rw [nI_1]
          exact z_to rfl (by rw [nSp, if_neg (not_not_intro c162), if_pos c171]) (ih (a + 1) _ (by omega))
        · rw [zb_n] at c171
          refine z_aload iX8_failed_174 rfl ?_
          refine z_aload iX8_failed_175 rfl ?_
          refine e_getR iX8_failed_176 fX8_38 rfl ?_
          refine z_iload iX8_failed_179 rfl ?_
          refine e_iald iX8_failed_181 rfl (vin_mk (n := 24) (by omega)) ?_
          rw [ez]
          refine z_iload iX8_failed_182 rfl ?_
          refine z_push iX8_failed_184 ?_
          refine z_iload iX8_failed_185 rfl ?_
          refine e_callV iX8_failed_187 kX8_174 (tX8_note (nSp F q a) _ _ _ _ hk.2.2.2.2.1.1) rfl rfl rfl ⟨Nat.le_of_ble_eq_true rfl, Nat.le_of_ble_eq_true rfl⟩ ⟨Nat.le_of_ble_eq_true rfl, Nat.le_of_ble_eq_true rfl⟩ (Nat.le_of_ble_eq_true rfl) ?_
          dsimp only [Option.toList, List.cons_append, List.nil_append]
          refine z_istore iX8_failed_190 rfl ?_
          dsimp only [List.set_cons_zero, List.set_cons_succ]
          refine z_iinc (v := 1) iX8_failed_192 (by decide) (by decide) rfl rfl ?_
          dsimp only [List.set_cons_zero, List.set_cons_succ]
          refine z_goto iX8_failed_195 ?_
          rw [nI_1]
          exact z_to rfl (by rw [nSp, if_neg (not_not_intro c162), if_neg (by rw [c171]; decide)]) (ih (a + 1) _ (by omega))
