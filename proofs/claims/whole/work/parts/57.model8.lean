/-- the model's rows move down -/
def nRm (F : zFt) (s p : Nat) : Nat → zFt
  | 0 => F
  | a + 1 => zup (zup (nRm F s p a) 101 (s * 16 + (p + a)) (nRm F s p a 101 (s * 16 + (p + a) + 1))) 102 (s * 16 + (p + a)) (nRm F s p a 102 (s * 16 + (p + a) + 1))
theorem nRm_ne (F : zFt) (s p : Nat) {k : Nat} (h1 : k ≠ 101) (h2 : k ≠ 102) (j : Nat) : ∀ a, nRm F s p a k j = F k j
  | 0 => rfl
  | a + 1 => by rw [nRm, zup_ap, if_neg (by omega), zup_ap, if_neg (by omega), nRm_ne F s p h1 h2 j a]
theorem nRm_val (F : zFt) (s p d : Nat) (hd : d = 101 ∨ d = 102) : ∀ a k, nRm F s p a d k = if s * 16 + p ≤ k ∧ k < s * 16 + p + a then F d (k + 1) else F d k
  | 0, k => by rw [if_neg (by omega)]; rfl
  | a + 1, k => by
    have ih := fun k => nRm_val F s p d hd a k
    rcases hd with rfl | rfl
    · rw [nRm, zup_ap, if_neg (by omega), zup_ap]
      by_cases hk : k = s * 16 + (p + a)
      · subst hk
        rw [if_pos ⟨rfl, rfl⟩, ih, if_neg (by omega), if_pos (by omega)]
      · rw [if_neg (by omega), ih]
        by_cases hq : s * 16 + p ≤ k ∧ k < s * 16 + p + a
        · rw [if_pos hq, if_pos (by omega)]
        · rw [if_neg hq, if_neg (by omega)]
    · rw [nRm, zup_ap]
      by_cases hk : k = s * 16 + (p + a)
      · subst hk
        rw [if_pos ⟨rfl, rfl⟩, ih, if_neg (by omega), if_pos (by omega)]
      · rw [if_neg (by omega), zup_ap, if_neg (by omega), ih]
        by_cases hq : s * 16 + p ≤ k ∧ k < s * 16 + p + a
        · rw [if_pos hq, if_pos (by omega)]
        · rw [if_neg hq, if_neg (by omega)]
abbrev nPk (F : zFt) (s : Nat) (x : Int32) : Int32 := nPl F s x (zn (F 100 s))
def nSv0 (F : zFt) (s : Nat) (x : Int32) : zFt := if nPk F s x = -1 then F else nRm (zup F 100 s (F 100 s - 1)) s (zn (nPk F s x)) (zn (F 100 s) - 1 - zn (nPk F s x))
def nSv (F : zFt) (s : Nat) (x : Int32) : zFt := zup (zup (zup (nSv0 F s x) 101 (s * 16 + zn (nSv0 F s x 100 s)) x) 102 (s * 16 + zn (nSv0 F s x 100 s)) (F 75 19)) 100 s (nSv0 F s x 100 s + 1)
theorem nSv0_ne (F : zFt) (s : Nat) (x : Int32) {k : Nat} (h : k ≠ 100) (h1 : k ≠ 101) (h2 : k ≠ 102) (j : Nat) : nSv0 F s x k j = F k j := by
  unfold nSv0
  split
  · rfl
  · rw [nRm_ne _ _ _ h1 h2, zup_ap, if_neg (by omega)]
theorem nSv_ne (F : zFt) (s : Nat) (x : Int32) {k : Nat} (h : k ≠ 100) (h1 : k ≠ 101) (h2 : k ≠ 102) (j : Nat) : nSv F s x k j = F k j := by
  rw [nSv, zup_ap, if_neg (by omega), zup_ap, if_neg (by omega), zup_ap, if_neg (by omega), nSv0_ne F s x h h1 h2]
/-- what stands in the rows then -/
theorem nSv0_at {F : zFt} {s : Nat} {x : Int32} (h0 : 0 ≤ (F 100 s).toInt) (h16 : zn (F 100 s) ≤ 16) : (∀ q, q ≠ s → nSv0 F s x 100 q = F 100 q) ∧ (∀ d k, d = 101 ∨ d = 102 → (k < s * 16 ∨ s * 16 + 16 ≤ k) → nSv0 F s x d k = F d k) ∧ ∀ k, k < zn (nSv0 F s x 100 s) → ∃ q, q < zn (F 100 s) ∧ nSv0 F s x 102 (s * 16 + k) = F 102 (s * 16 + q) := by
  unfold nSv0
  split
  · exact ⟨fun _ _ => rfl, fun _ _ _ _ => rfl, fun k hk => ⟨k, hk, rfl⟩⟩
  · rename_i hk
    obtain ⟨j, hj, ej⟩ := (nPl_in F s x (zn (F 100 s)) h16).resolve_left hk
    have ej2 : zn (nPk F s x) = j := by rw [nPk, ej, zn_nI (by omega)]
    have ec : F 100 s - 1 = nI (zn (F 100 s) - 1) := by
      have := nI_s1 (a := zn (F 100 s)) (by omega)
      rw [nI_zn h0] at this
      exact this
    rw [ej2]
    refine ⟨fun q hq => ?_, fun d k hd hk2 => ?_, fun k hk2 => ?_⟩
    · rw [nRm_ne _ _ _ (by decide) (by decide), zup_ap, if_neg (by omega)]
    · rw [nRm_val _ _ _ d hd, if_neg (by omega), zup_ap, if_neg (by omega)]
    · rw [nRm_ne _ _ _ (by decide) (by decide), zup_ap, if_pos ⟨rfl, rfl⟩, ec, zn_nI (by omega)] at hk2
      rw [nRm_val _ _ _ 102 (Or.inr rfl)]
      by_cases hp : j ≤ k
      · rw [if_pos (by omega), zup_ap, if_neg (by omega)]
        exact ⟨k + 1, by omega, by rw [Nat.add_assoc]⟩
      · rw [if_neg (by omega), zup_ap, if_neg (by omega)]
        exact ⟨k, by omega, rfl⟩
theorem NI_sv {F : zFt} {p m : Nat} {x : Int32} (h : NI F (p + 1) m) (hc : vp_in (nSv0 F p x 100 p) 16) : NI (nSv F p x) (p + 1) m := by
  have hy := (NI_at h).2.2.1
  obtain ⟨h1, h2, h3, h5, h6, h7⟩ := h
  have hat := nSv0_at (x := x) hy.2.1.1 hy.2.1.2
  have e : ∀ k j, k ≠ 100 → k ≠ 101 → k ≠ 102 → nSv F p x k j = F k j := fun k j a1 a2 a3 => nSv_ne F p x a1 a2 a3 j
  obtain ⟨c, hc16, ec⟩ := vin_of hc
  have ez : zn (nI c) = c := zn_nI (by omega)
  have e100 : nSv F p x 100 p = nI (c + 1) := by rw [nSv, ec, zup_ap, if_pos ⟨rfl, rfl⟩, nI_1]
  simp only [NI, okW, okN, nMj, tpN]
  simp (disch := omega) only [e]
  refine ⟨h1, h2, h3, h5, h6, fun s hs => ?_⟩
  have h8 := h7 s hs
  by_cases hsp : s = p
  · subst hsp
    simp only [okY, okX, nMj, nSe] at hy ⊢
    simp (disch := omega) only [e]
    simp only [if_neg (show ¬ s + 1 < s + 1 by omega), e100]
    rw [show zn (nI (c + 1)) = c + 1 from zn_nI (by omega)]
    refine ⟨hy.1, ⟨by rw [nI_int (by omega)]; omega, by omega⟩, hy.2.2.1, hy.2.2.2.1, fun k hk => ?_⟩
    have e102 : nSv F s x 102 (s * 16 + k) = if k = c then F 75 19 else nSv0 F s x 102 (s * 16 + k) := by
      rw [nSv, ec, ez, zup_ap, if_neg (by omega), zup_ap]
      by_cases hkc : k = c
      · rw [if_pos ⟨rfl, by rw [hkc]⟩, if_pos hkc]
      · rw [if_neg (by omega), if_neg hkc, zup_ap, if_neg (by omega)]
    rw [e102]
    by_cases hkc : k = c
    · rw [if_pos hkc]
      exact ⟨h3.1, Nat.le_refl _⟩
    · rw [if_neg hkc]
      obtain ⟨q, hq, eq⟩ := hat.2.2 k (by rw [ec, ez]; omega)
      rw [eq]
      exact hy.2.2.2.2 q hq
  · have e1 : nSv F p x 100 s = F 100 s := by
      rw [nSv, zup_ap, if_neg (by omega), zup_ap, if_neg (by omega), zup_ap, if_neg (by omega), hat.1 s hsp]
    have e2 : ∀ k, k < 16 → nSv F p x 102 (s * 16 + k) = F 102 (s * 16 + k) := by
      intro k hk
      rw [nSv, zup_ap, if_neg (by omega), zup_ap, if_neg (by rw [ec, ez]; omega), zup_ap, if_neg (by omega), hat.2.1 102 _ (Or.inr rfl) (by omega)]
    simp only [okY, okX, nMj, nSe, tpN] at h8 ⊢
    simp (disch := omega) only [e]
    rw [e1]
    refine ⟨h8.1, h8.2.1, h8.2.2.1, h8.2.2.2.1, fun k hk => ?_⟩
    rw [e2 k (by have := h8.2.1.2; omega)]
    exact h8.2.2.2.2 k hk
def qSave (F : zFt) (x : Int32) : Int32 × zFt := if zi3 x 0 15 = false then (-102, F) else if F 75 28 = 0 then (-103, F) else nJd (nSv F (zn (F 75 28 - 1)) x) 1

set_option maxRecDepth 100000 in
theorem lpX8_save {L : Nat} {Z : zZt} (F : zFt) (s j b : Nat) (hs : s < 8) (x y : Int32) (hb : F 100 s = nI b) (hb16 : b < 16) (hjb : j ≤ b) (kk : ∀ u, zEV mX8_save (zrm 5 0 0) Z 123 [some (.ref 75), some (.int x), some (.int (nI s)), some (.int y), u] [] 111 (zE L (nRm F s j (b - j))) 0 0) : ∀ n a : Nat, a + n = b - j → zEV mX8_save (zrm 5 0 0) Z 54 [some (.ref 75), some (.int x), some (.int (nI s)), some (.int y), some (.int (nI (j + a)))] [] 111 (zE L (nRm F s j a)) 0 0 := by
  have ez : zn (nI s) = s := zn_nI (by omega)
  intro n
  induction n with
  | zero =>
    intro a ha
    obtain rfl : a = b - j := by omega
    refine z_iload iX8_save_54 rfl ?_
    refine z_aload iX8_save_56 rfl ?_
    refine e_getR iX8_save_57 fX8_83 rfl ?_
    refine z_iload iX8_save_60 rfl ?_
    refine e_iald iX8_save_61 rfl (vin_mk (n := 8) (by omega)) ?_
    rw [ez, nRm_ne F s j (by decide) (by decide), hb]
    refine z_icmp_ge iX8_save_62 (fun c62 => ?_) (fun c62 => ?_)
    · exact kk _
    · exact absurd ((nI_le2 (by omega) (by omega)).mpr (by omega)) c62
  | succ n ih =>
    intro a ha
    have i0 : 16 * nI s + nI (j + a) = nI (s * 16 + (j + a)) := by rw [nI_16m, nI_add]
    have i1 : 16 * nI s + nI (j + a) + 1 = nI (s * 16 + (j + a) + 1) := by rw [i0, nI_1]
    have z0 : zn (nI (s * 16 + (j + a))) = s * 16 + (j + a) := zn_nI (by omega)
    have z1 : zn (nI (s * 16 + (j + a) + 1)) = s * 16 + (j + a) + 1 := zn_nI (by omega)
    refine z_iload iX8_save_54 rfl ?_
    refine z_aload iX8_save_56 rfl ?_
    refine e_getR iX8_save_57 fX8_83 rfl ?_
    refine z_iload iX8_save_60 rfl ?_
    refine e_iald iX8_save_61 rfl (vin_mk (n := 8) (by omega)) ?_
    rw [ez, nRm_ne F s j (by decide) (by decide), hb]
    refine z_icmp_ge iX8_save_62 (fun c62 => ?_) (fun c62 => ?_)
    · exact absurd ((nI_le2 (by omega) (by omega)).mp c62) (by omega)
    · refine z_aload iX8_save_65 rfl ?_
      refine e_getR iX8_save_66 fX8_86 rfl ?_
      refine z_push iX8_save_69 ?_
      refine z_iload iX8_save_71 rfl ?_
      refine z_imul iX8_save_72 ?_
      refine z_iload iX8_save_73 rfl ?_
      refine z_iadd iX8_save_75 ?_
      refine z_aload iX8_save_76 rfl ?_
      refine e_getR iX8_save_77 fX8_86 rfl ?_
      refine z_push iX8_save_80 ?_
      refine z_iload iX8_save_82 rfl ?_
      refine z_imul iX8_save_83 ?_
      refine z_iload iX8_save_84 rfl ?_
      refine z_iadd iX8_save_86 ?_
      refine z_push iX8_save_87 ?_
      refine z_iadd iX8_save_88 ?_
      refine e_iald iX8_save_89 rfl (by rw [i1]; exact vin_mk (n := 128) (by omega)) ?_
      rw [i1, z1]
      refine e_iast iX8_save_90 rfl (by rw [i0]; exact vin_mk (n := 128) (by omega)) ?_
      rw [i0, z0]
      refine z_aload iX8_save_91 rfl ?_
      refine e_getR iX8_save_92 fX8_89 rfl ?_
      refine z_push iX8_save_95 ?_
      refine z_iload iX8_save_97 rfl ?_
      refine z_imul iX8_save_98 ?_
      refine z_iload iX8_save_99 rfl ?_
      refine z_iadd iX8_save_101 ?_
      refine z_aload iX8_save_102 rfl ?_
      refine e_getR iX8_save_103 fX8_89 rfl ?_
      refine z_push iX8_save_106 ?_
      refine z_iload iX8_save_108 rfl ?_
      refine z_imul iX8_save_109 ?_
      refine z_iload iX8_save_110 rfl ?_
      refine z_iadd iX8_save_112 ?_
      refine z_push iX8_save_113 ?_
      refine z_iadd iX8_save_114 ?_
      refine e_iald iX8_save_115 rfl (by rw [i1]; exact vin_mk (n := 128) (by omega)) ?_
      rw [i1, z1, zup_ap, if_neg (by omega)]
      refine e_iast iX8_save_116 rfl (by rw [i0]; exact vin_mk (n := 128) (by omega)) ?_
      rw [i0, z0]
      refine z_iinc (v := 1) iX8_save_117 (by decide) (by decide) rfl rfl ?_
      dsimp only [List.set_cons_zero, List.set_cons_succ]
      refine z_goto iX8_save_120 ?_
      rw [nI_1, Nat.add_assoc]
      exact ih (a + 1) (by omega)

set_option maxRecDepth 100000 in
theorem lqX8_save {L : Nat} (F : zFt) (p : Nat) (x y : Int32) (u : Option Value) (hF : NI F (p + 1) 400) (hc : vp_in (nSv0 F p x 100 p) 16) : zEV mX8_save (zrm 5 0 0) (zZf L (some (.int (nJd (nSv F p x) 1).1)) (nJd (nSv F p x) 1).2) 123 [some (.ref 75), some (.int x), some (.int (nI p)), some (.int y), u] [] 111 (zE L (nSv0 F p x)) 0 0 := by
  have hp8 : p < 8 := by have := hF.2.1; omega
  have ez : zn (nI p) = p := zn_nI (by omega)
  have hv := NI_sv hF hc
  obtain ⟨c, hc16, ec⟩ := vin_of hc
  have i0 : 16 * nI p + nI c = nI (p * 16 + c) := by rw [nI_16m, nI_add]
  have z0 : zn (nI (p * 16 + c)) = p * 16 + c := zn_nI (by omega)
  have zc : zn (nI c) = c := zn_nI (by omega)
  have e19 : nSv0 F p x 75 19 = F 75 19 := nSv0_ne F p x (by decide) (by decide) (by decide) 19
  have eS : nSv F p x = zup (zup (zup (nSv0 F p x) 101 (p * 16 + c) x) 102 (p * 16 + c) (F 75 19)) 100 p (nI c + 1) := by rw [nSv, ec, zc]
  refine z_aload iX8_save_123 rfl ?_
  refine e_getR iX8_save_124 fX8_86 rfl ?_
  refine z_push iX8_save_127 ?_
  refine z_iload iX8_save_129 rfl ?_
  refine z_imul iX8_save_130 ?_
  refine z_aload iX8_save_131 rfl ?_
  refine e_getR iX8_save_132 fX8_83 rfl ?_
  refine z_iload iX8_save_135 rfl ?_
  refine e_iald iX8_save_136 rfl (vin_mk (n := 8) (by omega)) ?_
  rw [ez, ec]
  refine z_iadd iX8_save_137 ?_
  refine z_iload iX8_save_138 rfl ?_
  refine e_iast iX8_save_139 rfl (by rw [i0]; exact vin_mk (n := 128) (by omega)) ?_
  rw [i0, z0]
  refine z_aload iX8_save_140 rfl ?_
  refine e_getR iX8_save_141 fX8_89 rfl ?_
  refine z_push iX8_save_144 ?_
  refine z_iload iX8_save_146 rfl ?_
  refine z_imul iX8_save_147 ?_
  refine z_aload iX8_save_148 rfl ?_
  refine e_getR iX8_save_149 fX8_83 rfl ?_
  refine z_iload iX8_save_152 rfl ?_
  refine e_iald iX8_save_153 rfl (vin_mk (n := 8) (by omega)) ?_
  rw [ez, zup_ap, if_neg (by omega), ec]
  refine z_iadd iX8_save_154 ?_
  refine z_aload iX8_save_155 rfl ?_
  refine e_getI iX8_save_156 fX8_144 rfl ?_
  rw [zup_ap, if_neg (by omega), e19]
  refine e_iast iX8_save_159 rfl (by rw [i0]; exact vin_mk (n := 128) (by omega)) ?_
  rw [i0, z0]
  refine z_aload iX8_save_160 rfl ?_
  refine e_getR iX8_save_161 fX8_83 rfl ?_
  refine z_iload iX8_save_164 rfl ?_
  refine z_dup2 iX8_save_165 rfl rfl ?_
  refine e_iald iX8_save_166 rfl (vin_mk (n := 8) (by omega)) ?_
  rw [ez, zup_ap, if_neg (by omega), zup_ap, if_neg (by omega), ec]
  refine z_push iX8_save_167 ?_
  refine z_iadd iX8_save_168 ?_
  refine e_iast iX8_save_169 rfl (vin_mk (n := 8) (by omega)) ?_
  rw [ez, ← eS]
  refine z_aload iX8_save_170 rfl ?_
  refine z_push iX8_save_171 ?_
  refine e_callV iX8_save_172 kX8_195 (tX8_judged (nSv F p x) 1 p (NI_le hv (by omega))) rfl rfl rfl ⟨Nat.le_of_ble_eq_true rfl, Nat.le_of_ble_eq_true rfl⟩ ⟨Nat.le_of_ble_eq_true rfl, Nat.le_of_ble_eq_true rfl⟩ (Nat.le_of_ble_eq_true rfl) ?_
  dsimp only [Option.toList, List.cons_append, List.nil_append]
  exact e_iret iX8_save_175 rfl ⟨rfl, rfl⟩

set_option maxRecDepth 100000 in
theorem tX8_save {L : Nat} (F : zFt) (x : Int32) (n : Nat) (hF : NI F n 400) (hc : ∀ p, n = p + 1 → vp_in (nSv0 F p x 100 p) 16) : zFn mX8_save 5 [.ref 75, .int x] L F (some (.int (qSave F x).1)) (qSave F x).2 := by
  refine e_of (lo := [some (.ref 75), some (.int x), none, none, none]) (by decide +kernel) (Nat.le_of_ble_eq_true rfl) rfl ?_
  refine z_iload iX8_save_0 rfl ?_
  refine z_push iX8_save_1 ?_
  refine z_push iX8_save_2 ?_
  refine e_callS iX8_save_4 kX8_123 (tX8_in F _ _ _) rfl rfl ⟨Nat.le_of_ble_eq_true rfl, Nat.le_of_ble_eq_true rfl⟩ ⟨Nat.le_of_ble_eq_true rfl, Nat.le_of_ble_eq_true rfl⟩ (Nat.le_of_ble_eq_true rfl) ?_
  dsimp only [Option.toList, List.cons_append, List.nil_append]
  refine z_if_ne iX8_save_7 (fun c7 => ?_) (fun c7 => ?_)
  · rw [zb_n] at c7
    refine z_aload iX8_save_13 rfl ?_
    refine e_getI iX8_save_14 fX8_116 rfl ?_
    refine z_if_ne iX8_save_17 (fun c17 => ?_) (fun c17 => ?_)
    · obtain ⟨p, rfl⟩ := NI_st hF c17
      have hat := NI_at hF
      have hp8 : p < 8 := by have := hF.2.1; omega
      have ez : zn (nI p) = p := zn_nI (by omega)
      have hy := hat.2.2.1
      rw [show qSave F x = nJd (nSv F p x) 1 by rw [qSave, if_neg (by rw [c7]; decide), if_neg c17, hat.2.1]]
      refine z_aload iX8_save_23 rfl ?_
      refine e_getI iX8_save_24 fX8_116 rfl ?_
      refine z_push iX8_save_27 ?_
      refine z_isub iX8_save_28 ?_
      rw [hat.1]
      refine z_istore iX8_save_29 rfl ?_
      dsimp only [List.set_cons_zero, List.set_cons_succ]
      refine z_aload iX8_save_30 rfl ?_
      refine z_iload iX8_save_31 rfl ?_
      refine e_callV iX8_save_32 kX8_185 (tX8_placeOf F x p hp8 hF.1 hy.2.1) rfl rfl rfl ⟨Nat.le_of_ble_eq_true rfl, Nat.le_of_ble_eq_true rfl⟩ ⟨Nat.le_of_ble_eq_true rfl, Nat.le_of_ble_eq_true rfl⟩ (Nat.le_of_ble_eq_true rfl) ?_
      dsimp only [Option.toList, List.cons_append, List.nil_append]
      refine z_istore iX8_save_35 rfl ?_
      dsimp only [List.set_cons_zero, List.set_cons_succ]
      refine z_iload iX8_save_36 rfl ?_
      refine z_push iX8_save_37 ?_
      refine z_icmp_eq iX8_save_38 (fun c38 => ?_) (fun c38 => ?_)
      · refine z_to rfl (show F = nSv0 F p x by rw [nSv0, if_pos c38]) ?_
        exact lqX8_save F p x _ _ hF (hc p rfl)
      · obtain ⟨j, hj, ej⟩ := (nPl_in F p x (zn (F 100 p)) hy.2.1.2).resolve_left c38
        have h16 := hy.2.1.2
        have ec : F 100 p - 1 = nI (zn (F 100 p) - 1) := by
          have := nI_s1 (a := zn (F 100 p)) (by omega)
          rw [nI_zn hy.2.1.1] at this
          exact this
        have e0 : nSv0 F p x = nRm (zup F 100 p (F 100 p - 1)) p j (zn (F 100 p) - 1 - j) := by rw [nSv0, if_neg c38, nPk, ej, zn_nI (by omega)]
        refine z_aload iX8_save_41 rfl ?_
        refine e_getR iX8_save_42 fX8_83 rfl ?_
        refine z_iload iX8_save_45 rfl ?_
        refine z_dup2 iX8_save_46 rfl rfl ?_
        refine e_iald iX8_save_47 rfl (vin_mk (n := 8) (by omega)) ?_
        rw [ez]
        refine z_push iX8_save_48 ?_
        refine z_isub iX8_save_49 ?_
        refine e_iast iX8_save_50 rfl (vin_mk (n := 8) (by omega)) ?_
        rw [ez]
        refine z_iload iX8_save_51 rfl ?_
        refine z_istore iX8_save_52 rfl ?_
        dsimp only [List.set_cons_zero, List.set_cons_succ]
        rw [ej]
        refine lpX8_save (zup F 100 p (F 100 p - 1)) p j (zn (F 100 p) - 1) hp8 x _ (by rw [zup_ap, if_pos ⟨rfl, rfl⟩, ec]) (by omega) (by omega) (fun u => ?_) _ 0 (Nat.zero_add _)
        rw [← e0]
        exact lqX8_save F p x _ _ hF (hc p rfl)
    · refine z_push iX8_save_20 ?_
      exact e_iret iX8_save_22 rfl ⟨by simp [qSave, c7, c17], by simp [qSave, c7, c17]⟩
  · rw [zb_0] at c7
    refine z_push iX8_save_10 ?_
    exact e_iret iX8_save_12 rfl ⟨by simp [qSave, c7], by simp [qSave, c7]⟩
