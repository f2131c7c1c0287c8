abbrev nFx (F : zFt) (x y : Int32) : Int32 × zFt := nFl (zn (F 75 28)) (nNo F x y (-1) (-1)) x (F 75 38 + 1 - 1)
def nJg (F : zFt) (m : Int32) : Nat → Nat → Int32 × zFt
  | 0, _ => (0, F)
  | n + 1, a => if ¬ F 84 a = m then nJg F m n (a + 1) else if nHo F (nI a) = false then nJg F m n (a + 1) else nFx F (F 85 a) (nI a)
abbrev nJd (F : zFt) (m : Int32) : Int32 × zFt := nJg F m (zn (F 75 11)) 0
theorem NI_z {F : zFt} {n m : Nat} (h : NI F n m) : zn (F 75 28) = n := by rw [h.1, zn_nI (by have := h.2.1; omega)]
theorem nFl_1 : ∀ (n : Nat) (F : zFt) (k q : Int32), ¬ (nFl n F k q).1 = 0
  | 0, F, k, q => by
    rw [nFl]
    show ¬ (1 : Int32) = 0
    decide
  | n + 1, F, k, q => by
    cases hx : nLx F n k (zn (F 103 n)) with
    | none =>
      by_cases hn : n = 0
      · rw [nFl_0 hx hn]
        show ¬ (1 : Int32) = 0
        decide
      · rw [nFl_n hx hn]
        exact nFl_1 n _ _ _
    | some g =>
      rw [nFl_s hx]
      show ¬ (2 : Int32) = 0
      decide
theorem nJg_0 (F : zFt) (m : Int32) : ∀ n a, (nJg F m n a).1 = 0 → (nJg F m n a).2 = F
  | 0, a, _ => rfl
  | n + 1, a, h => by
    rw [nJg] at h ⊢
    split at h
    · rename_i h1
      rw [if_pos h1]
      exact nJg_0 F m n _ h
    · rename_i h1
      rw [if_neg h1]
      split at h
      · rename_i h2
        rw [if_pos h2]
        exact nJg_0 F m n _ h
      · exact absurd h (nFl_1 _ _ _ _)

set_option maxRecDepth 100000 in
theorem lpX8_judged {L : Nat} (F : zFt) (m : Int32) (p : Nat) (hF : NI F (p + 1) (32 * (p + 1) + 1)) : ∀ n a : Nat, a + n = zn (F 75 11) → zEV mX8_judged (zrm 4 0 0) (zZf L (some (.int (nJg F m n a).1)) (nJg F m n a).2) 2 [some (.ref 75), some (.int m), some (.int (nI a))] [] 111 (zE L F) 0 0 := by
  have hr := hF.2.2.2.1
  intro n
  induction n with
  | zero =>
    intro a ha
    obtain rfl : a = zn (F 75 11) := by omega
    refine z_iload iX8_judged_2 rfl ?_
    refine z_aload iX8_judged_3 rfl ?_
    refine e_getI iX8_judged_4 fX8_138 rfl ?_
    refine z_icmp_ge iX8_judged_7 (fun c7 => ?_) (fun c7 => ?_)
    · refine z_push iX8_judged_46 ?_
      exact e_iret iX8_judged_47 rfl ⟨rfl, rfl⟩
    · exact absurd (up_end hr.1 rfl) c7
  | succ n ih =>
    intro a ha
    have ez : zn (nI a) = a := zn_nI (by omega)
    refine z_iload iX8_judged_2 rfl ?_
    refine z_aload iX8_judged_3 rfl ?_
    refine e_getI iX8_judged_4 fX8_138 rfl ?_
    refine z_icmp_ge iX8_judged_7 (fun c7 => ?_) (fun c7 => ?_)
    · exact absurd c7 (up_in (x := F 75 11) (by omega))
    · refine z_aload iX8_judged_10 rfl ?_
      refine e_getR iX8_judged_11 fX8_35 rfl ?_
      refine z_iload iX8_judged_14 rfl ?_
      refine e_iald iX8_judged_15 rfl (vin_mk (n := 24) (by omega)) ?_
      rw [ez]
      refine z_iload iX8_judged_16 rfl ?_
      refine z_icmp_ne iX8_judged_17 (fun c17 => ?_) (fun c17 => ?_)
      · rw [nJg, if_pos c17]
        refine z_iinc (v := 1) iX8_judged_40 (by decide) (by decide) rfl rfl ?_
        dsimp only [List.set_cons_zero, List.set_cons_succ]
        refine z_goto iX8_judged_43 ?_
        exact z_to (by simp [nI_1]) rfl (ih (a + 1) (by omega))
      · rw [nJg, if_neg (not_not_intro c17)]
        refine z_aload iX8_judged_20 rfl ?_
        refine z_iload iX8_judged_21 rfl ?_
        refine e_callV iX8_judged_22 kX8_165 (tX8_holds F (nI a) (vin_mk (by omega)) (NI_at hF).2.2.2) rfl rfl rfl ⟨Nat.le_of_ble_eq_true rfl, Nat.le_of_ble_eq_true rfl⟩ ⟨Nat.le_of_ble_eq_true rfl, Nat.le_of_ble_eq_true rfl⟩ (Nat.le_of_ble_eq_true rfl) ?_
        dsimp only [Option.toList, List.cons_append, List.nil_append]
        refine z_if_eq iX8_judged_25 (fun c25 => ?_) (fun c25 => ?_)
        · rw [zb_0] at c25
          rw [if_pos c25]
          refine z_iinc (v := 1) iX8_judged_40 (by decide) (by decide) rfl rfl ?_
          dsimp only [List.set_cons_zero, List.set_cons_succ]
          refine z_goto iX8_judged_43 ?_
          exact z_to (by simp [nI_1]) rfl (ih (a + 1) (by omega))
        · rw [zb_n] at c25
          rw [if_neg (by rw [c25]; decide)]
          refine z_aload iX8_judged_28 rfl ?_
          refine z_aload iX8_judged_29 rfl ?_
          refine e_getR iX8_judged_30 fX8_38 rfl ?_
          refine z_iload iX8_judged_33 rfl ?_
          refine e_iald iX8_judged_34 rfl (vin_mk (n := 24) (by omega)) ?_
          rw [ez]
          refine z_iload iX8_judged_35 rfl ?_
          refine e_callV iX8_judged_36 kX8_168 (tX8_failed F (F 85 a) (nI a) p hF) rfl rfl rfl ⟨Nat.le_of_ble_eq_true rfl, Nat.le_of_ble_eq_true rfl⟩ ⟨Nat.le_of_ble_eq_true rfl, Nat.le_of_ble_eq_true rfl⟩ (Nat.le_of_ble_eq_true rfl) ?_
          dsimp only [Option.toList, List.cons_append, List.nil_append]
          exact e_iret iX8_judged_39 rfl ⟨by rw [nFx, NI_z hF], by rw [nFx, NI_z hF]⟩

set_option maxRecDepth 100000 in
theorem tX8_judged {L : Nat} (F : zFt) (m : Int32) (p : Nat) (hF : NI F (p + 1) (32 * (p + 1) + 1)) : zFn mX8_judged 4 [.ref 75, .int m] L F (some (.int (nJd F m).1)) (nJd F m).2 := by
  refine e_of (lo := [some (.ref 75), some (.int m), none]) (by decide +kernel) (Nat.le_of_ble_eq_true rfl) rfl ?_
  refine z_push iX8_judged_0 ?_
  refine z_istore iX8_judged_1 rfl ?_
  dsimp only [List.set_cons_zero, List.set_cons_succ]
  exact lpX8_judged F m p hF _ 0 (Nat.zero_add _)

theorem nCm_ev (F : zFt) (x y : Int32) : nCm F x y 75 19 = F 75 19 + 1 := by rw [nCm, zup_ap, if_pos ⟨rfl, rfl⟩]
theorem nCm_ne (F : zFt) (x y : Int32) {k j : Nat} (h1 : k ≠ 94) (h2 : k ≠ 95) (h3 : k ≠ 96) (h4 : ¬ (k = 75 ∧ j = 19)) (h5 : k = 89 ∨ k = 90 ∨ k = 91 ∨ k = 92 ∨ k = 93 → j ≠ zn (F 75 19)) : nCm F x y k j = F k j := by
  rw [nCm, zup_ap, if_neg h4, nCo_ne _ _ h1 h2 h3]
  simp only [nC0, zup_ap]
  rw [if_neg (by omega), if_neg (by omega), if_neg (by omega), if_neg (by omega), if_neg (by omega)]
theorem okN_new {F : zFt} {n m : Nat} (h : NI F (n + 1) m) (x y : Int32) : okN (nC0 F x y) (zn (F 75 19)) := by
  have ha := (NI_at h).2.2.2
  have e91 : nC0 F x y 91 (zn (F 75 19)) = nE F := by simp [nC0, zup_ap]
  have e90 : nC0 F x y 90 (zn (F 75 19)) = nJ F := by simp [nC0, zup_ap]
  have e77 : ∀ j, nC0 F x y 77 j = F 77 j := fun j => by simp [nC0, zup_ap]
  have e83 : ∀ j, nC0 F x y 83 j = F 83 j := fun j => by simp [nC0, zup_ap]
  simp only [okN, nMj, e91, e90, e77, e83]
  exact ⟨ha.2.2.1, fun _ => ⟨ha.2.2.2.1, ha.2.2.2.2.1⟩⟩
theorem NI_cm {F : zFt} {n m : Nat} (h : NI F (n + 1) m) (h4 : zn (F 75 19) < 400) (x y : Int32) : NI (nCm F x y) (n + 1) m := by
  have hN := okN_new h x y
  obtain ⟨h1, h2, h3, h5, h6, h7⟩ := h
  have e : ∀ k j, k ≠ 94 → k ≠ 95 → k ≠ 96 → ¬ (k = 75 ∧ j = 19) → k ≠ 89 → k ≠ 90 → k ≠ 91 → k ≠ 92 → k ≠ 93 → nCm F x y k j = F k j := fun k j a1 a2 a3 a4 a5 a6 a7 a8 a9 => nCm_ne F x y a1 a2 a3 a4 (by omega)
  have ev : nCm F x y 75 19 = nI (zn (F 75 19) + 1) := by rw [nCm_ev, ← nI_1, nI_zn h3.1]
  have ez : zn (nI (zn (F 75 19) + 1)) = zn (F 75 19) + 1 := zn_nI (by omega)
  simp only [NI, okW, tpN, ev, ez]
  refine ⟨by simp (disch := omega) only [e]; exact h1, h2, ⟨by rw [nI_int (by omega)]; omega, by omega, fun i hi => ?_⟩, by simp (disch := omega) only [e]; exact h5, by simp (disch := omega) only [e]; exact h6, fun s hs => ?_⟩
  · by_cases hie : i = zn (F 75 19)
    · subst hie
      exact okN_eq hN (fun k j hk => by rw [nCm, zup_ap, if_neg (by omega), nCo_ne _ _ (by omega) (by omega) (by omega)])
    · have ho := h3.2.2 i (by omega)
      have b89 : nCm F x y 89 i = F 89 i := nCm_ne F x y (by decide) (by decide) (by decide) (by omega) (fun _ => hie)
      have b90 : nCm F x y 90 i = F 90 i := nCm_ne F x y (by decide) (by decide) (by decide) (by omega) (fun _ => hie)
      have b91 : nCm F x y 91 i = F 91 i := nCm_ne F x y (by decide) (by decide) (by decide) (by omega) (fun _ => hie)
      simp (disch := omega) only [okN, nMj, b89, b90, b91, e]
      exact ho
  · have h8 := h7 s hs
    simp (disch := omega) only [okY, okX, nMj, nSe, e]
    simp only [okY, okX, nMj, nSe, tpN] at h8
    obtain ⟨q1, q2, q3, q4, q5⟩ := h8
    by_cases hl : s + 1 < n + 1
    · simp only [if_pos hl] at q4 q5 ⊢
      exact ⟨q1, q2, q3, q4, q5⟩
    · simp only [if_neg hl] at q4 q5 ⊢
      exact ⟨q1, q2, q3, ⟨q4.1, by omega⟩, fun k hk => ⟨(q5 k hk).1, by have := (q5 k hk).2; omega⟩⟩
theorem NI_st {F : zFt} {n m : Nat} (h : NI F n m) (h0 : ¬ F 75 28 = 0) : ∃ p, n = p + 1 := by
  rcases Nat.eq_zero_or_pos n with z | z
  · rw [z] at h
    exact absurd h.1 h0
  · exact ⟨n - 1, by omega⟩
theorem ev_lt {F : zFt} {n m : Nat} (h : NI F n m) (h4 : ¬ F 75 19 = 400) : zn (F 75 19) < 400 ∧ vp_in (F 75 19) 400 := by
  have h1 := h.2.2.1
  have e := zn_int h1.1
  have h400 := h1.2.1
  have h2 : (F 75 19).toInt ≠ 400 := fun q => h4 (by rw [tI_eq, q]; decide)
  rw [vin]
  omega
def qPoints (F : zFt) (x : Int32) : Int32 × zFt := if zi3 x (-6000) 6000 = false then (-102, F) else if F 75 28 = 0 then (-103, F) else if F 75 19 = 400 then (-104, F) else nJd (nCm F 0 x) 0
def qDeduct (F : zFt) (x : Int32) : Int32 × zFt := if zi3 x 0 6000 = false then (-102, F) else if F 75 28 = 0 then (-103, F) else if F 75 19 = 400 then (-104, F) else (nCm F 1 x 95 (zn (nE (nCm F 1 x))), nCm F 1 x)
abbrev gRm (F : zFt) (e : Int32) : Nat → Int32 → Int32 := fun i a => a + (F 96 (zn e) >>> (nI i &&& 31) &&& 1)
def qRemark (F : zFt) (x : Int32) : Int32 × zFt := if zi3 x 0 7 = false then (-102, F) else if F 75 28 = 0 then (-103, F) else if F 75 19 = 400 then (-104, F) else (zfold (gRm (nCm F 2 x) (nE (nCm F 2 x))) 0 8, nCm F 2 x)

set_option maxRecDepth 100000 in
theorem tX8_points {L : Nat} (F : zFt) (x : Int32) (n : Nat) (hF : NI F n 400) : zFn mX8_points 5 [.ref 75, .int x] L F (some (.int (qPoints F x).1)) (qPoints F x).2 := by
  refine e_of (lo := [some (.ref 75), some (.int x)]) (by decide +kernel) (Nat.le_of_ble_eq_true rfl) rfl ?_
  refine z_iload iX8_points_0 rfl ?_
  refine z_push iX8_points_1 ?_
  refine z_push iX8_points_4 ?_
  refine e_callS iX8_points_7 kX8_123 (tX8_in F _ _ _) rfl rfl ⟨Nat.le_of_ble_eq_true rfl, Nat.le_of_ble_eq_true rfl⟩ ⟨Nat.le_of_ble_eq_true rfl, Nat.le_of_ble_eq_true rfl⟩ (Nat.le_of_ble_eq_true rfl) ?_
  dsimp only [Option.toList, List.cons_append, List.nil_append]
  refine z_if_ne iX8_points_10 (fun c10 => ?_) (fun c10 => ?_)
  · rw [zb_n] at c10
    refine z_aload iX8_points_16 rfl ?_
    refine e_getI iX8_points_17 fX8_116 rfl ?_
    refine z_if_ne iX8_points_20 (fun c20 => ?_) (fun c20 => ?_)
    · refine z_aload iX8_points_26 rfl ?_
      refine e_getI iX8_points_27 fX8_144 rfl ?_
      refine z_push iX8_points_30 ?_
      refine z_icmp_ne iX8_points_33 (fun c33 => ?_) (fun c33 => ?_)
      · obtain ⟨p, rfl⟩ := NI_st hF c20
        have hv := ev_lt hF c33
        have hm := NI_cm hF hv.1 (0) x
        have hat := NI_at hF
        have hat2 := NI_at hm
        have hp8 := hF.2.1
        refine z_aload iX8_points_39 rfl ?_
        refine z_push iX8_points_40 ?_
        refine z_iload iX8_points_41 rfl ?_
        refine e_callV iX8_points_42 kX8_191 (tX8_comes F 0 x hv.2 hat.2.2.2.1 (okN_new hF _ _)) rfl rfl rfl ⟨Nat.le_of_ble_eq_true rfl, Nat.le_of_ble_eq_true rfl⟩ ⟨Nat.le_of_ble_eq_true rfl, Nat.le_of_ble_eq_true rfl⟩ (Nat.le_of_ble_eq_true rfl) ?_
        dsimp only [Option.toList, List.cons_append, List.nil_append]
        refine z_aload iX8_points_45 rfl ?_
        refine z_push iX8_points_46 ?_
        refine e_callV iX8_points_47 kX8_195 (tX8_judged (nCm F 0 x) 0 p (NI_le hm (by omega))) rfl rfl rfl ⟨Nat.le_of_ble_eq_true rfl, Nat.le_of_ble_eq_true rfl⟩ ⟨Nat.le_of_ble_eq_true rfl, Nat.le_of_ble_eq_true rfl⟩ (Nat.le_of_ble_eq_true rfl) ?_
        dsimp only [Option.toList, List.cons_append, List.nil_append]
        exact e_iret iX8_points_50 rfl ⟨by simp [qPoints, c10, c20, c33], by simp [qPoints, c10, c20, c33]⟩
      · refine z_push iX8_points_36 ?_
        exact e_iret iX8_points_38 rfl ⟨by simp [qPoints, c10, c20, c33], by simp [qPoints, c10, c20, c33]⟩
    · refine z_push iX8_points_23 ?_
      exact e_iret iX8_points_25 rfl ⟨by simp [qPoints, c10, c20], by simp [qPoints, c10, c20]⟩
  · rw [zb_0] at c10
    refine z_push iX8_points_13 ?_
    exact e_iret iX8_points_15 rfl ⟨by simp [qPoints, c10], by simp [qPoints, c10]⟩

set_option maxRecDepth 100000 in
theorem tX8_deduct {L : Nat} (F : zFt) (x : Int32) (n : Nat) (hF : NI F n 400) : zFn mX8_deduct 2 [.ref 75, .int x] L F (some (.int (qDeduct F x).1)) (qDeduct F x).2 := by
  refine e_of (lo := [some (.ref 75), some (.int x)]) (by decide +kernel) (Nat.le_of_ble_eq_true rfl) rfl ?_
  refine z_iload iX8_deduct_0 rfl ?_
  refine z_push iX8_deduct_1 ?_
  refine z_push iX8_deduct_2 ?_
  refine e_callS iX8_deduct_5 kX8_123 (tX8_in F _ _ _) rfl rfl ⟨Nat.le_of_ble_eq_true rfl, Nat.le_of_ble_eq_true rfl⟩ ⟨Nat.le_of_ble_eq_true rfl, Nat.le_of_ble_eq_true rfl⟩ (Nat.le_of_ble_eq_true rfl) ?_
  dsimp only [Option.toList, List.cons_append, List.nil_append]
  refine z_if_ne iX8_deduct_8 (fun c8 => ?_) (fun c8 => ?_)
  · rw [zb_n] at c8
    refine z_aload iX8_deduct_14 rfl ?_
    refine e_getI iX8_deduct_15 fX8_116 rfl ?_
    refine z_if_ne iX8_deduct_18 (fun c18 => ?_) (fun c18 => ?_)
    · refine z_aload iX8_deduct_24 rfl ?_
      refine e_getI iX8_deduct_25 fX8_144 rfl ?_
      refine z_push iX8_deduct_28 ?_
      refine z_icmp_ne iX8_deduct_31 (fun c31 => ?_) (fun c31 => ?_)
      · obtain ⟨p, rfl⟩ := NI_st hF c18
        have hv := ev_lt hF c31
        have hm := NI_cm hF hv.1 (1) x
        have hat := NI_at hF
        have hat2 := NI_at hm
        have hp8 := hF.2.1
        refine z_aload iX8_deduct_37 rfl ?_
        refine z_push iX8_deduct_38 ?_
        refine z_iload iX8_deduct_39 rfl ?_
        refine e_callV iX8_deduct_40 kX8_191 (tX8_comes F 1 x hv.2 hat.2.2.2.1 (okN_new hF _ _)) rfl rfl rfl ⟨Nat.le_of_ble_eq_true rfl, Nat.le_of_ble_eq_true rfl⟩ ⟨Nat.le_of_ble_eq_true rfl, Nat.le_of_ble_eq_true rfl⟩ (Nat.le_of_ble_eq_true rfl) ?_
        dsimp only [Option.toList, List.cons_append, List.nil_append]
        refine z_aload iX8_deduct_43 rfl ?_
        refine e_getR iX8_deduct_44 fX8_68 rfl ?_
        refine z_aload iX8_deduct_47 rfl ?_
        refine e_getR iX8_deduct_48 fX8_77 rfl ?_
        refine z_aload iX8_deduct_51 rfl ?_
        refine e_getI iX8_deduct_52 fX8_116 rfl ?_
        refine z_push iX8_deduct_55 ?_
        refine z_isub iX8_deduct_56 ?_
        refine e_iald iX8_deduct_57 rfl hat2.2.2.2.1 ?_
        refine e_iald iX8_deduct_58 rfl hat2.2.2.2.2.2.1 ?_
        exact e_iret iX8_deduct_59 rfl ⟨by simp [qDeduct, c8, c18, c31], by simp [qDeduct, c8, c18, c31]⟩
      · refine z_push iX8_deduct_34 ?_
        exact e_iret iX8_deduct_36 rfl ⟨by simp [qDeduct, c8, c18, c31], by simp [qDeduct, c8, c18, c31]⟩
    · refine z_push iX8_deduct_21 ?_
      exact e_iret iX8_deduct_23 rfl ⟨by simp [qDeduct, c8, c18], by simp [qDeduct, c8, c18]⟩
  · rw [zb_0] at c8
    refine z_push iX8_deduct_11 ?_
    exact e_iret iX8_deduct_13 rfl ⟨by simp [qDeduct, c8], by simp [qDeduct, c8]⟩

set_option maxRecDepth 100000 in
theorem lpX8_remark {L : Nat} {Z : zZt} (F : zFt) (x : Int32) (h1 : vp_in (F 75 28 - 1) 8) (h2 : vp_in (nE F) 60) (kk : zEV mX8_remark (zrm 2 0 0) Z 81 [some (.ref 75), some (.int x), some (.int (zfold (gRm F (nE F)) 0 (8))), some (.int (nI (8)))] [] 111 (zE L (F)) 0 0) : ∀ (n a : Nat), a + n = 8 → zEV mX8_remark (zrm 2 0 0) Z 46 [some (.ref 75), some (.int x), some (.int (zfold (gRm F (nE F)) 0 a)), some (.int (nI a))] [] 111 (zE L (F)) 0 0 := by
  intro n
  induction n with
  | zero =>
    intro a ha
    obtain rfl : a = 8 := by omega
    refine z_iload iX8_remark_46 rfl ?_
    refine z_push iX8_remark_47 ?_
    refine z_icmp_ge iX8_remark_49 (fun c49 => ?_) (fun c49 => ?_)
    · exact kk
    · exact absurd (by decide) c49
  | succ n ih =>
    intro a ha
    refine z_iload iX8_remark_46 rfl ?_
    refine z_push iX8_remark_47 ?_
    refine z_icmp_ge iX8_remark_49 (fun c49 => ?_) (fun c49 => ?_)
    · exact absurd ((nI_le2 (a := 8) (by decide) (by omega)).mp c49) (by omega)
    · refine z_iload iX8_remark_52 rfl ?_
      refine z_aload iX8_remark_53 rfl ?_
      refine e_getR iX8_remark_54 fX8_71 rfl ?_
      refine z_aload iX8_remark_57 rfl ?_
      refine e_getR iX8_remark_58 fX8_77 rfl ?_
      refine z_aload iX8_remark_61 rfl ?_
      refine e_getI iX8_remark_62 fX8_116 rfl ?_
      refine z_push iX8_remark_65 ?_
      refine z_isub iX8_remark_66 ?_
      refine e_iald iX8_remark_67 rfl (by assumption) ?_
      refine e_iald iX8_remark_68 rfl (by assumption) ?_
      refine z_iload iX8_remark_69 rfl ?_
      refine z_ishr iX8_remark_70 ?_
      refine z_push iX8_remark_71 ?_
      refine z_iand iX8_remark_72 ?_
      refine z_iadd iX8_remark_73 ?_
      refine z_istore iX8_remark_74 rfl ?_
      dsimp only [List.set_cons_zero, List.set_cons_succ]
      refine z_iinc (v := 1) iX8_remark_75 (by decide) (by decide) rfl rfl ?_
      dsimp only [List.set_cons_zero, List.set_cons_succ]
      refine z_goto iX8_remark_78 ?_
      exact z_to (by simp [zfold, nI_1, *]) rfl (ih (a + 1) (by omega))

set_option maxRecDepth 100000 in
theorem tX8_remark {L : Nat} (F : zFt) (x : Int32) (n : Nat) (hF : NI F n 400) : zFn mX8_remark 2 [.ref 75, .int x] L F (some (.int (qRemark F x).1)) (qRemark F x).2 := by
  refine e_of (lo := [some (.ref 75), some (.int x), none, none]) (by decide +kernel) (Nat.le_of_ble_eq_true rfl) rfl ?_
  refine z_iload iX8_remark_0 rfl ?_
  refine z_push iX8_remark_1 ?_
  refine z_push iX8_remark_2 ?_
  refine e_callS iX8_remark_4 kX8_123 (tX8_in F _ _ _) rfl rfl ⟨Nat.le_of_ble_eq_true rfl, Nat.le_of_ble_eq_true rfl⟩ ⟨Nat.le_of_ble_eq_true rfl, Nat.le_of_ble_eq_true rfl⟩ (Nat.le_of_ble_eq_true rfl) ?_
  dsimp only [Option.toList, List.cons_append, List.nil_append]
  refine z_if_ne iX8_remark_7 (fun c7 => ?_) (fun c7 => ?_)
  · rw [zb_n] at c7
    refine z_aload iX8_remark_13 rfl ?_
    refine e_getI iX8_remark_14 fX8_116 rfl ?_
    refine z_if_ne iX8_remark_17 (fun c17 => ?_) (fun c17 => ?_)
    · refine z_aload iX8_remark_23 rfl ?_
      refine e_getI iX8_remark_24 fX8_144 rfl ?_
      refine z_push iX8_remark_27 ?_
      refine z_icmp_ne iX8_remark_30 (fun c30 => ?_) (fun c30 => ?_)
      · obtain ⟨p, rfl⟩ := NI_st hF c17
        have hv := ev_lt hF c30
        have hm := NI_cm hF hv.1 (2) x
        have hat := NI_at hF
        have hat2 := NI_at hm
        have hp8 := hF.2.1
        refine z_aload iX8_remark_36 rfl ?_
        refine z_push iX8_remark_37 ?_
        refine z_iload iX8_remark_38 rfl ?_
        refine e_callV iX8_remark_39 kX8_191 (tX8_comes F 2 x hv.2 hat.2.2.2.1 (okN_new hF _ _)) rfl rfl rfl ⟨Nat.le_of_ble_eq_true rfl, Nat.le_of_ble_eq_true rfl⟩ ⟨Nat.le_of_ble_eq_true rfl, Nat.le_of_ble_eq_true rfl⟩ (Nat.le_of_ble_eq_true rfl) ?_
        dsimp only [Option.toList, List.cons_append, List.nil_append]
        refine z_push iX8_remark_42 ?_
        refine z_istore iX8_remark_43 rfl ?_
        dsimp only [List.set_cons_zero, List.set_cons_succ]
        refine z_push iX8_remark_44 ?_
        refine z_istore iX8_remark_45 rfl ?_
        dsimp only [List.set_cons_zero, List.set_cons_succ]
        refine lpX8_remark (nCm F 2 x) x hat2.2.2.2.1 hat2.2.2.2.2.2.1 ?_ 8 0 rfl
        refine z_iload iX8_remark_81 rfl ?_
        exact e_iret iX8_remark_82 rfl ⟨by simp [qRemark, c7, c17, c30], by simp [qRemark, c7, c17, c30]⟩
      · refine z_push iX8_remark_33 ?_
        exact e_iret iX8_remark_35 rfl ⟨by simp [qRemark, c7, c17, c30], by simp [qRemark, c7, c17, c30]⟩
    · refine z_push iX8_remark_20 ?_
      exact e_iret iX8_remark_22 rfl ⟨by simp [qRemark, c7, c17], by simp [qRemark, c7, c17]⟩
  · rw [zb_0] at c7
    refine z_push iX8_remark_10 ?_
    exact e_iret iX8_remark_12 rfl ⟨by simp [qRemark, c7], by simp [qRemark, c7]⟩
