def nBe (F : zFt) (a b : Nat) : Bool := if F 110 a = F 110 b then (if F 95 a = F 95 b then !decide (nAb F (nI a) ≤ nAb F (nI b)) else !decide (F 95 b ≤ F 95 a)) else !decide (F 110 a ≤ F 110 b)

set_option maxRecDepth 100000 in
theorem tX8_isBetter {L : Nat} (F : zFt) (x : Int32) (y : Int32) (hx : vp_in x 60) (hy : vp_in y 60) (ox : okD F (zn x)) (oy : okD F (zn y)) : zFn mX8_isBetter 1 [.ref 75, .int x, .int y] L F (some (.int (zb (nBe F (zn x) (zn y))))) F := by
  refine e_of (lo := [some (.ref 75), some (.int x), some (.int y)]) (by decide +kernel) (Nat.le_of_ble_eq_true rfl) rfl ?_
  have ex : nI (zn x) = x := vin_nI hx
  have ey : nI (zn y) = y := vin_nI hy
  refine z_aload iX8_isBetter_0 rfl ?_
  refine e_getR iX8_isBetter_1 fX8_113 rfl ?_
  refine z_iload iX8_isBetter_4 rfl ?_
  refine e_iald iX8_isBetter_5 rfl (by assumption) ?_
  refine z_aload iX8_isBetter_6 rfl ?_
  refine e_getR iX8_isBetter_7 fX8_113 rfl ?_
  refine z_iload iX8_isBetter_10 rfl ?_
  refine e_iald iX8_isBetter_11 rfl (by assumption) ?_
  refine z_icmp_eq iX8_isBetter_12 (fun c12 => ?_) (fun c12 => ?_)
  · refine z_aload iX8_isBetter_36 rfl ?_
    refine e_getR iX8_isBetter_37 fX8_68 rfl ?_
    refine z_iload iX8_isBetter_40 rfl ?_
    refine e_iald iX8_isBetter_41 rfl (by assumption) ?_
    refine z_aload iX8_isBetter_42 rfl ?_
    refine e_getR iX8_isBetter_43 fX8_68 rfl ?_
    refine z_iload iX8_isBetter_46 rfl ?_
    refine e_iald iX8_isBetter_47 rfl (by assumption) ?_
    refine z_icmp_eq iX8_isBetter_48 (fun c48 => ?_) (fun c48 => ?_)
    · refine z_aload iX8_isBetter_74 rfl ?_
      refine z_iload iX8_isBetter_75 rfl ?_
      refine e_callV iX8_isBetter_76 kX8_220 (tX8_above F x hx ox.1 ox.2.1 ox.2.2.1 ox.2.2.2) rfl rfl rfl ⟨Nat.le_of_ble_eq_true rfl, Nat.le_of_ble_eq_true rfl⟩ ⟨Nat.le_of_ble_eq_true rfl, Nat.le_of_ble_eq_true rfl⟩ (Nat.le_of_ble_eq_true rfl) ?_
      dsimp only [Option.toList, List.cons_append, List.nil_append]
      refine z_aload iX8_isBetter_79 rfl ?_
      refine z_iload iX8_isBetter_80 rfl ?_
      refine e_callV iX8_isBetter_81 kX8_220 (tX8_above F y hy oy.1 oy.2.1 oy.2.2.1 oy.2.2.2) rfl rfl rfl ⟨Nat.le_of_ble_eq_true rfl, Nat.le_of_ble_eq_true rfl⟩ ⟨Nat.le_of_ble_eq_true rfl, Nat.le_of_ble_eq_true rfl⟩ (Nat.le_of_ble_eq_true rfl) ?_
      dsimp only [Option.toList, List.cons_append, List.nil_append]
      refine z_icmp_le iX8_isBetter_84 (fun c84 => ?_) (fun c84 => ?_)
      · refine z_push iX8_isBetter_91 ?_
        exact e_bret iX8_isBetter_92 rfl (by first | exact Or.inl rfl | exact Or.inr rfl | exact zb_01 _ | assumption) ⟨by simp [nBe, c12, c48, c84, ex, ey, zb], rfl⟩
      · refine z_push iX8_isBetter_87 ?_
        refine z_goto iX8_isBetter_88 ?_
        exact e_bret iX8_isBetter_92 rfl (by first | exact Or.inl rfl | exact Or.inr rfl | exact zb_01 _ | assumption) ⟨by simp [nBe, c12, c48, c84, ex, ey, zb], rfl⟩
    · refine z_aload iX8_isBetter_51 rfl ?_
      refine e_getR iX8_isBetter_52 fX8_68 rfl ?_
      refine z_iload iX8_isBetter_55 rfl ?_
      refine e_iald iX8_isBetter_56 rfl (by assumption) ?_
      refine z_aload iX8_isBetter_57 rfl ?_
      refine e_getR iX8_isBetter_58 fX8_68 rfl ?_
      refine z_iload iX8_isBetter_61 rfl ?_
      refine e_iald iX8_isBetter_62 rfl (by assumption) ?_
      refine z_icmp_ge iX8_isBetter_63 (fun c63 => ?_) (fun c63 => ?_)
      · refine z_push iX8_isBetter_70 ?_
        refine z_goto iX8_isBetter_71 ?_
        exact e_bret iX8_isBetter_92 rfl (by first | exact Or.inl rfl | exact Or.inr rfl | exact zb_01 _ | assumption) ⟨by simp [nBe, c12, c48, c63, zb], rfl⟩
      · refine z_push iX8_isBetter_66 ?_
        refine z_goto iX8_isBetter_67 ?_
        exact e_bret iX8_isBetter_92 rfl (by first | exact Or.inl rfl | exact Or.inr rfl | exact zb_01 _ | assumption) ⟨by simp [nBe, c12, c48, c63, zb], rfl⟩
  · refine z_aload iX8_isBetter_15 rfl ?_
    refine e_getR iX8_isBetter_16 fX8_113 rfl ?_
    refine z_iload iX8_isBetter_19 rfl ?_
    refine e_iald iX8_isBetter_20 rfl (by assumption) ?_
    refine z_aload iX8_isBetter_21 rfl ?_
    refine e_getR iX8_isBetter_22 fX8_113 rfl ?_
    refine z_iload iX8_isBetter_25 rfl ?_
    refine e_iald iX8_isBetter_26 rfl (by assumption) ?_
    refine z_icmp_le iX8_isBetter_27 (fun c27 => ?_) (fun c27 => ?_)
    · refine z_push iX8_isBetter_34 ?_
      exact e_bret iX8_isBetter_35 rfl (by first | exact Or.inl rfl | exact Or.inr rfl | exact zb_01 _ | assumption) ⟨by simp [nBe, c12, c27, zb], rfl⟩
    · refine z_push iX8_isBetter_30 ?_
      refine z_goto iX8_isBetter_31 ?_
      exact e_bret iX8_isBetter_35 rfl (by first | exact Or.inl rfl | exact Or.inr rfl | exact zb_01 _ | assumption) ⟨by simp [nBe, c12, c27, zb], rfl⟩

abbrev gNr (F : zFt) (e : Int32) : Nat → Int32 → Int32 := fun i a => a + (if ¬ F 83 i = F 83 (zn e) then 0 else if nBe F i (zn e) = false then 0 else 1)
abbrev nRk (F : zFt) (e : Int32) : Int32 := zfold (gNr F e) 1 (zn (F 75 9))
abbrev gNl (F : zFt) (e : Int32) : Nat → Int32 → Int32 := fun i a => a + (if ¬ F 83 i = F 83 (zn e) then 0 else if nBe F i (zn e) = true then 0 else if nBe F (zn e) i = true then 0 else 1)
abbrev nAl (F : zFt) (e : Int32) : Int32 := zfold (gNl F e) 0 (zn (F 75 9))

set_option maxRecDepth 100000 in
theorem lpX8_rankOf {L : Nat} {Z : zZt} (F : zFt) (e : Int32) (h0 : 0 ≤ (F 75 9).toInt) (h6 : zn (F 75 9) ≤ 60) (ho : ∀ e, e < zn (F 75 9) → okD F e) (he : zn e < zn (F 75 9)) (he0 : 0 ≤ e.toInt) (kk : zEV mX8_rankOf (zrm 2 0 0) Z 50 [some (.ref 75), some (.int e), some (.int (zfold (gNr F e) 1 (zn (F 75 9)))), some (.int (nI (zn (F 75 9))))] [] 111 (zE L (F)) 0 0) : ∀ (n a : Nat), a + n = zn (F 75 9) → zEV mX8_rankOf (zrm 2 0 0) Z 4 [some (.ref 75), some (.int e), some (.int (zfold (gNr F e) 1 a)), some (.int (nI a))] [] 111 (zE L (F)) 0 0 := by
  intro n
  induction n with
  | zero =>
    intro a ha
    obtain rfl : a = zn (F 75 9) := by omega
    refine z_iload iX8_rankOf_4 rfl ?_
    refine z_aload iX8_rankOf_5 rfl ?_
    refine e_getI iX8_rankOf_6 fX8_127 rfl ?_
    refine z_icmp_ge iX8_rankOf_9 (fun c9 => ?_) (fun c9 => ?_)
    · exact kk
    · exact absurd (up_end h0 rfl) c9
  | succ n ih =>
    intro a ha
    refine z_iload iX8_rankOf_4 rfl ?_
    refine z_aload iX8_rankOf_5 rfl ?_
    refine e_getI iX8_rankOf_6 fX8_127 rfl ?_
    refine z_icmp_ge iX8_rankOf_9 (fun c9 => ?_) (fun c9 => ?_)
    · exact absurd c9 (up_in (x := (F 75 9)) (by omega))
    · have ez : zn (nI a) = a := zn_nI (by omega)
      have ve : vp_in e 60 := by
        rw [vin]
        have := zn_int he0
        omega
      refine z_iload iX8_rankOf_12 rfl ?_
      refine z_aload iX8_rankOf_13 rfl ?_
      refine e_getR iX8_rankOf_14 fX8_32 rfl ?_
      refine z_iload iX8_rankOf_17 rfl ?_
      refine e_iald iX8_rankOf_18 rfl (vin_mk (n := 60) (by omega)) ?_
      rw [ez]
      refine z_aload iX8_rankOf_19 rfl ?_
      refine e_getR iX8_rankOf_20 fX8_32 rfl ?_
      refine z_iload iX8_rankOf_23 rfl ?_
      refine e_iald iX8_rankOf_24 rfl ve ?_
      refine z_icmp_ne iX8_rankOf_25 (fun c25 => ?_) (fun c25 => ?_)
      · refine z_push iX8_rankOf_41 ?_
        refine z_iadd iX8_rankOf_42 ?_
        refine z_istore iX8_rankOf_43 rfl ?_
        dsimp only [List.set_cons_zero, List.set_cons_succ]
        refine z_iinc (v := 1) iX8_rankOf_44 (by decide) (by decide) rfl rfl ?_
        dsimp only [List.set_cons_zero, List.set_cons_succ]
        refine z_goto iX8_rankOf_47 ?_
        exact z_to (by rw [nI_1, zfold_s, gNr, if_pos c25]) rfl (ih (a + 1) (by omega))
      · refine z_aload iX8_rankOf_28 rfl ?_
        refine z_iload iX8_rankOf_29 rfl ?_
        refine z_iload iX8_rankOf_30 rfl ?_
        refine e_callV iX8_rankOf_31 kX8_223 (tX8_isBetter F (nI a) e (vin_mk (by omega)) ve (by rw [ez]; exact ho a (by omega)) (ho _ he)) rfl rfl rfl ⟨Nat.le_of_ble_eq_true rfl, Nat.le_of_ble_eq_true rfl⟩ ⟨Nat.le_of_ble_eq_true rfl, Nat.le_of_ble_eq_true rfl⟩ (Nat.le_of_ble_eq_true rfl) ?_
        dsimp only [Option.toList, List.cons_append, List.nil_append]
        rw [ez]
        refine z_if_eq iX8_rankOf_34 (fun c34 => ?_) (fun c34 => ?_)
        · rw [zb_0] at c34
          refine z_push iX8_rankOf_41 ?_
          refine z_iadd iX8_rankOf_42 ?_
          refine z_istore iX8_rankOf_43 rfl ?_
          dsimp only [List.set_cons_zero, List.set_cons_succ]
          refine z_iinc (v := 1) iX8_rankOf_44 (by decide) (by decide) rfl rfl ?_
          dsimp only [List.set_cons_zero, List.set_cons_succ]
          refine z_goto iX8_rankOf_47 ?_
          exact z_to (by rw [nI_1, zfold_s, gNr, if_neg (not_not_intro c25), if_pos c34]) rfl (ih (a + 1) (by omega))
        · rw [zb_n] at c34
          refine z_push iX8_rankOf_37 ?_
          refine z_goto iX8_rankOf_38 ?_
          refine z_iadd iX8_rankOf_42 ?_
          refine z_istore iX8_rankOf_43 rfl ?_
          dsimp only [List.set_cons_zero, List.set_cons_succ]
          refine z_iinc (v := 1) iX8_rankOf_44 (by decide) (by decide) rfl rfl ?_
          dsimp only [List.set_cons_zero, List.set_cons_succ]
          refine z_goto iX8_rankOf_47 ?_
          exact z_to (by rw [nI_1, zfold_s, gNr, if_neg (not_not_intro c25), if_neg (by rw [c34]; decide)]) rfl (ih (a + 1) (by omega))

set_option maxRecDepth 100000 in
theorem tX8_rankOf {L : Nat} (F : zFt) (e : Int32) (h0 : 0 ≤ (F 75 9).toInt) (h6 : zn (F 75 9) ≤ 60) (ho : ∀ e, e < zn (F 75 9) → okD F e) (he : zn e < zn (F 75 9)) (he0 : 0 ≤ e.toInt) : zFn mX8_rankOf 2 [.ref 75, .int e] L F (some (.int (nRk F e))) F := by
  refine e_of (lo := [some (.ref 75), some (.int e), none, none]) (by decide +kernel) (Nat.le_of_ble_eq_true rfl) rfl ?_
  refine z_push iX8_rankOf_0 ?_
  refine z_istore iX8_rankOf_1 rfl ?_
  dsimp only [List.set_cons_zero, List.set_cons_succ]
  refine z_push iX8_rankOf_2 ?_
  refine z_istore iX8_rankOf_3 rfl ?_
  dsimp only [List.set_cons_zero, List.set_cons_succ]
  refine lpX8_rankOf F e h0 h6 ho he he0 ?_ _ 0 (Nat.zero_add _)
  refine z_iload iX8_rankOf_50 rfl ?_
  exact e_iret iX8_rankOf_51 rfl ⟨rfl, rfl⟩

set_option maxRecDepth 100000 in
theorem lpX8_alike {L : Nat} {Z : zZt} (F : zFt) (e : Int32) (h0 : 0 ≤ (F 75 9).toInt) (h6 : zn (F 75 9) ≤ 60) (ho : ∀ e, e < zn (F 75 9) → okD F e) (he : zn e < zn (F 75 9)) (he0 : 0 ≤ e.toInt) (kk : zEV mX8_alike (zrm 2 0 0) Z 59 [some (.ref 75), some (.int e), some (.int (zfold (gNl F e) 0 (zn (F 75 9)))), some (.int (nI (zn (F 75 9))))] [] 111 (zE L (F)) 0 0) : ∀ (n a : Nat), a + n = zn (F 75 9) → zEV mX8_alike (zrm 2 0 0) Z 4 [some (.ref 75), some (.int e), some (.int (zfold (gNl F e) 0 a)), some (.int (nI a))] [] 111 (zE L (F)) 0 0 := by
  intro n
  induction n with
  | zero =>
    intro a ha
    obtain rfl : a = zn (F 75 9) := by omega
    refine z_iload iX8_alike_4 rfl ?_
    refine z_aload iX8_alike_5 rfl ?_
    refine e_getI iX8_alike_6 fX8_127 rfl ?_
    refine z_icmp_ge iX8_alike_9 (fun c9 => ?_) (fun c9 => ?_)
    · exact kk
    · exact absurd (up_end h0 rfl) c9
  | succ n ih =>
    intro a ha
    refine z_iload iX8_alike_4 rfl ?_
    refine z_aload iX8_alike_5 rfl ?_
    refine e_getI iX8_alike_6 fX8_127 rfl ?_
    refine z_icmp_ge iX8_alike_9 (fun c9 => ?_) (fun c9 => ?_)
    · exact absurd c9 (up_in (x := (F 75 9)) (by omega))
    · have ez : zn (nI a) = a := zn_nI (by omega)
      have ve : vp_in e 60 := by
        rw [vin]
        have := zn_int he0
        omega
      refine z_iload iX8_alike_12 rfl ?_
      refine z_aload iX8_alike_13 rfl ?_
      refine e_getR iX8_alike_14 fX8_32 rfl ?_
      refine z_iload iX8_alike_17 rfl ?_
      refine e_iald iX8_alike_18 rfl (vin_mk (n := 60) (by omega)) ?_
      rw [ez]
      refine z_aload iX8_alike_19 rfl ?_
      refine e_getR iX8_alike_20 fX8_32 rfl ?_
      refine z_iload iX8_alike_23 rfl ?_
      refine e_iald iX8_alike_24 rfl ve ?_
      refine z_icmp_ne iX8_alike_25 (fun c25 => ?_) (fun c25 => ?_)
      · refine z_push iX8_alike_50 ?_
        refine z_iadd iX8_alike_51 ?_
        refine z_istore iX8_alike_52 rfl ?_
        dsimp only [List.set_cons_zero, List.set_cons_succ]
        refine z_iinc (v := 1) iX8_alike_53 (by decide) (by decide) rfl rfl ?_
        dsimp only [List.set_cons_zero, List.set_cons_succ]
        refine z_goto iX8_alike_56 ?_
        exact z_to (by rw [nI_1, zfold_s, gNl, if_pos c25]) rfl (ih (a + 1) (by omega))
      · refine z_aload iX8_alike_28 rfl ?_
        refine z_iload iX8_alike_29 rfl ?_
        refine z_iload iX8_alike_30 rfl ?_
        refine e_callV iX8_alike_31 kX8_223 (tX8_isBetter F (nI a) e (vin_mk (by omega)) ve (by rw [ez]; exact ho a (by omega)) (ho _ he)) rfl rfl rfl ⟨Nat.le_of_ble_eq_true rfl, Nat.le_of_ble_eq_true rfl⟩ ⟨Nat.le_of_ble_eq_true rfl, Nat.le_of_ble_eq_true rfl⟩ (Nat.le_of_ble_eq_true rfl) ?_
        dsimp only [Option.toList, List.cons_append, List.nil_append]
        rw [ez]
        refine z_if_ne iX8_alike_34 (fun c34 => ?_) (fun c34 => ?_)
        · rw [zb_n] at c34
          refine z_push iX8_alike_50 ?_
          refine z_iadd iX8_alike_51 ?_
          refine z_istore iX8_alike_52 rfl ?_
          dsimp only [List.set_cons_zero, List.set_cons_succ]
          refine z_iinc (v := 1) iX8_alike_53 (by decide) (by decide) rfl rfl ?_
          dsimp only [List.set_cons_zero, List.set_cons_succ]
          refine z_goto iX8_alike_56 ?_
          exact z_to (by rw [nI_1, zfold_s, gNl, if_neg (not_not_intro c25), if_pos c34]) rfl (ih (a + 1) (by omega))
        · rw [zb_0] at c34
          refine z_aload iX8_alike_37 rfl ?_
          refine z_iload iX8_alike_38 rfl ?_
          refine z_iload iX8_alike_39 rfl ?_
          refine e_callV iX8_alike_40 kX8_223 (tX8_isBetter F e (nI a) ve (vin_mk (by omega)) (ho _ he) (by rw [ez]; exact ho a (by omega))) rfl rfl rfl ⟨Nat.le_of_ble_eq_true rfl, Nat.le_of_ble_eq_true rfl⟩ ⟨Nat.le_of_ble_eq_true rfl, Nat.le_of_ble_eq_true rfl⟩ (Nat.le_of_ble_eq_true rfl) ?_
          dsimp only [Option.toList, List.cons_append, List.nil_append]
          rw [ez]
          refine z_if_ne iX8_alike_43 (fun c43 => ?_) (fun c43 => ?_)
          · rw [zb_n] at c43
            refine z_push iX8_alike_50 ?_
            refine z_iadd iX8_alike_51 ?_
            refine z_istore iX8_alike_52 rfl ?_
            dsimp only [List.set_cons_zero, List.set_cons_succ]
            refine z_iinc (v := 1) iX8_alike_53 (by decide) (by decide) rfl rfl ?_
            dsimp only [List.set_cons_zero, List.set_cons_succ]
            refine z_goto iX8_alike_56 ?_
            exact z_to (by rw [nI_1, zfold_s, gNl, if_neg (not_not_intro c25), if_neg (by rw [c34]; decide), if_pos c43]) rfl (ih (a + 1) (by omega))
          · rw [zb_0] at c43
            refine z_push iX8_alike_46 ?_
            refine z_goto iX8_alike_47 ?_
            refine z_iadd iX8_alike_51 ?_
            refine z_istore iX8_alike_52 rfl ?_
            dsimp only [List.set_cons_zero, List.set_cons_succ]
            refine z_iinc (v := 1) iX8_alike_53 (by decide) (by decide) rfl rfl ?_
            dsimp only [List.set_cons_zero, List.set_cons_succ]
            refine z_goto iX8_alike_56 ?_
            exact z_to (by rw [nI_1, zfold_s, gNl, if_neg (not_not_intro c25), if_neg (by rw [c34]; decide), if_neg (by rw [c43]; decide)]) rfl (ih (a + 1) (by omega))

set_option maxRecDepth 100000 in
theorem tX8_alike {L : Nat} (F : zFt) (e : Int32) (h0 : 0 ≤ (F 75 9).toInt) (h6 : zn (F 75 9) ≤ 60) (ho : ∀ e, e < zn (F 75 9) → okD F e) (he : zn e < zn (F 75 9)) (he0 : 0 ≤ e.toInt) : zFn mX8_alike 2 [.ref 75, .int e] L F (some (.int (nAl F e))) F := by
  refine e_of (lo := [some (.ref 75), some (.int e), none, none]) (by decide +kernel) (Nat.le_of_ble_eq_true rfl) rfl ?_
  refine z_push iX8_alike_0 ?_
  refine z_istore iX8_alike_1 rfl ?_
  dsimp only [List.set_cons_zero, List.set_cons_succ]
  refine z_push iX8_alike_2 ?_
  refine z_istore iX8_alike_3 rfl ?_
  dsimp only [List.set_cons_zero, List.set_cons_succ]
  refine lpX8_alike F e h0 h6 ho he he0 ?_ _ 0 (Nat.zero_add _)
  refine z_iload iX8_alike_59 rfl ?_
  exact e_iret iX8_alike_60 rfl ⟨rfl, rfl⟩

def npf (p : Nat → Int32) (c l : Int32) : Nat → Int32 → Int32 → Int32
  | 0, _, s => s
  | n + 1, r, s => if l ≤ r then s else if 3 < r then s else npf p c l n (r + 1) (s + p (zn (3 * c + r - 1)))
theorem ixpm {c r : Int32} (hc : vp_in c 12) (h1 : 1 ≤ r.toInt) (h3 : ¬ 3 < r) : vp_in (3 * c + r - 1) 36 := by
  rw [Int32.mul_comm]
  exact ixp hc h1 h3
theorem gN_up {F : zFt} (e : Int32) : (∀ i a, gNr F e i a = a ∨ gNr F e i a = a + 1) ∧ ∀ i a, gNl F e i a = a ∨ gNl F e i a = a + 1 := by
  constructor <;> intro i a <;> simp only [gNr, gNl]
  · split
    · exact Or.inl (Int32.add_zero a)
    · split
      · exact Or.inl (Int32.add_zero a)
      · exact Or.inr rfl
  · split
    · exact Or.inl (Int32.add_zero a)
    · split
      · exact Or.inl (Int32.add_zero a)
      · split
        · exact Or.inl (Int32.add_zero a)
        · exact Or.inr rfl
theorem zfold_upb {g : Nat → Int32 → Int32} (hg : ∀ i a, g i a = a ∨ g i a = a + 1) (b : Nat) : ∀ n : Nat, ∃ j : Nat, j ≤ n ∧ zfold g (nI b) n = nI (b + j)
  | 0 => ⟨0, Nat.le_refl 0, rfl⟩
  | n + 1 => by
    obtain ⟨j, hj, e⟩ := zfold_upb hg b n
    rw [zfold_s]
    rcases hg n (zfold g (nI b) n) with q | q
    · exact ⟨j, by omega, by rw [q, e]⟩
    · exact ⟨j + 1, by omega, by rw [q, e, nI_1, Nat.add_assoc]⟩
theorem nRk_in {F : zFt} {e : Int32} (h6 : zn (F 75 9) ≤ 60) : ∃ j, 1 ≤ j ∧ j ≤ 61 ∧ nRk F e = nI j := by
  obtain ⟨j, hj, q⟩ := zfold_upb (gN_up (F := F) e).1 1 (zn (F 75 9))
  exact ⟨1 + j, by omega, by omega, q⟩
theorem zfold_pos {g : Nat → Int32 → Int32} (hg : ∀ i a, g i a = a ∨ g i a = a + 1) {k : Nat} (hk : ∀ a, g k a = a + 1) : ∀ n : Nat, n < 1000 → k < n → ∃ j, 1 ≤ j ∧ j ≤ n ∧ zfold g 0 n = nI j
  | 0, _, h => by omega
  | n + 1, hn, h => by
    by_cases hkn : k = n
    · subst hkn
      obtain ⟨j, hj, e⟩ := zfold_up hg k (by omega)
      exact ⟨j + 1, by omega, by omega, by rw [zfold_s, hk, e, nI_1]⟩
    · obtain ⟨j, h1, hj, e⟩ := zfold_pos hg hk n (by omega) (by omega)
      rw [zfold_s]
      rcases hg n (zfold g 0 n) with q | q
      · exact ⟨j, h1, by omega, by rw [q, e]⟩
      · exact ⟨j + 1, by omega, by omega, by rw [q, e, nI_1]⟩
theorem nBe_self (F : zFt) (a : Nat) : nBe F a a = false := by
  simp [nBe]
theorem nAl_in {F : zFt} {e : Int32} (h6 : zn (F 75 9) ≤ 60) (he : zn e < zn (F 75 9)) : ∃ j, 1 ≤ j ∧ j ≤ 60 ∧ nAl F e = nI j := by
  obtain ⟨j, h1, hj, q⟩ := zfold_pos (gN_up (F := F) e).2 (k := zn e) (fun a => by simp only [gNl, nBe_self]; simp) (zn (F 75 9)) (by omega) he
  exact ⟨j, h1, by omega, q⟩

set_option maxRecDepth 100000 in
theorem lpX8_prizeOf {L : Nat} {R : Room} (F : zFt) (e c x y : Int32) (hc : vp_in c 12) (hy : ¬ y = 0) : ∀ (n : Nat) (r s : Int32), 1 ≤ r.toInt → 4 < (n : Nat) + r.toInt → zEV mX8_prizeOf R (zZf L (some (.int (npf (F 81) c (x + y) n r s / y))) F) 37 [some (.ref 75), some (.int e), some (.int c), some (.int x), some (.int y), some (.int s), some (.int r)] [] 111 (zE L F) 0 0 := by
  intro n
  induction n with
  | zero =>
    intro r s h1 hn
    have h3 : 3 < r := by
      rw [Int32.lt_iff_toInt_lt]
      simp
      omega
    refine z_iload iX8_prizeOf_37 rfl ?_
    refine z_iload iX8_prizeOf_39 rfl ?_
    refine z_iload iX8_prizeOf_40 rfl ?_
    refine z_iadd iX8_prizeOf_42 ?_
    refine z_icmp_ge iX8_prizeOf_43 (fun c43 => ?_) (fun c43 => ?_)
    · refine z_iload iX8_prizeOf_76 rfl ?_
      refine z_iload iX8_prizeOf_78 rfl ?_
      refine z_idiv iX8_prizeOf_80 hy ?_
      exact e_iret iX8_prizeOf_81 rfl ⟨rfl, rfl⟩
    · refine z_iload iX8_prizeOf_46 rfl ?_
      refine z_push iX8_prizeOf_48 ?_
      refine z_icmp_gt iX8_prizeOf_49 (fun c49 => ?_) (fun c49 => ?_)
      · refine z_iload iX8_prizeOf_76 rfl ?_
        refine z_iload iX8_prizeOf_78 rfl ?_
        refine z_idiv iX8_prizeOf_80 hy ?_
        exact e_iret iX8_prizeOf_81 rfl ⟨rfl, rfl⟩
      · exact absurd h3 c49
  | succ n ih =>
    intro r s h1 hn
    refine z_iload iX8_prizeOf_37 rfl ?_
    refine z_iload iX8_prizeOf_39 rfl ?_
    refine z_iload iX8_prizeOf_40 rfl ?_
    refine z_iadd iX8_prizeOf_42 ?_
    refine z_icmp_ge iX8_prizeOf_43 (fun c43 => ?_) (fun c43 => ?_)
    · rw [npf, if_pos c43]
      refine z_iload iX8_prizeOf_76 rfl ?_
      refine z_iload iX8_prizeOf_78 rfl ?_
      refine z_idiv iX8_prizeOf_80 hy ?_
      exact e_iret iX8_prizeOf_81 rfl ⟨rfl, rfl⟩
    · rw [npf, if_neg c43]
      refine z_iload iX8_prizeOf_46 rfl ?_
      refine z_push iX8_prizeOf_48 ?_
      refine z_icmp_gt iX8_prizeOf_49 (fun c49 => ?_) (fun c49 => ?_)
      · rw [if_pos c49]
        refine z_iload iX8_prizeOf_76 rfl ?_
        refine z_iload iX8_prizeOf_78 rfl ?_
        refine z_idiv iX8_prizeOf_80 hy ?_
        exact e_iret iX8_prizeOf_81 rfl ⟨rfl, rfl⟩
      · rw [if_neg c49]
        obtain ⟨r1, r2⟩ := zrp1 h1 c49 hn
        refine z_iload iX8_prizeOf_52 rfl ?_
        refine z_aload iX8_prizeOf_54 rfl ?_
        refine e_getR iX8_prizeOf_55 fX8_26 rfl ?_
        refine z_push iX8_prizeOf_58 ?_
        refine z_iload iX8_prizeOf_59 rfl ?_
        refine z_imul iX8_prizeOf_60 ?_
        refine z_iload iX8_prizeOf_61 rfl ?_
        refine z_iadd iX8_prizeOf_63 ?_
        refine z_push iX8_prizeOf_64 ?_
        refine z_isub iX8_prizeOf_65 ?_
        refine e_iald iX8_prizeOf_66 rfl (ixpm hc h1 c49) ?_
        refine z_iadd iX8_prizeOf_67 ?_
        refine z_istore iX8_prizeOf_68 rfl ?_
        dsimp only [List.set_cons_zero, List.set_cons_succ]
        refine z_iinc (v := 1) iX8_prizeOf_70 (by decide) (by decide) rfl rfl ?_
        dsimp only [List.set_cons_zero, List.set_cons_succ]
        refine z_goto iX8_prizeOf_73 ?_
        exact ih _ _ r1 r2

def nPr (F : zFt) (e : Int32) : Int32 := if F 80 (zn (F 83 (zn e))) = 0 then 0 else npf (F 81) (F 83 (zn e)) (nRk F e + nAl F e) 4 (nRk F e) 0 / nAl F e

set_option maxRecDepth 100000 in
theorem lqX8_prizeOf {L : Nat} {R : Room} (F : zFt) (e c x y q : Int32) (hc : vp_in c 12) (hy : ¬ y = 0) (h1 : 1 ≤ x.toInt) (hq : npf (F 81) c (x + y) 4 x 0 / y = q) : zEV mX8_prizeOf R (zZf L (some (.int q)) F) 37 [some (.ref 75), some (.int e), some (.int c), some (.int x), some (.int y), some (.int 0), some (.int x)] [] 111 (zE L F) 0 0 := by
  rw [← hq]
  exact lpX8_prizeOf F e c x y hc hy 4 x 0 h1 (by omega)

set_option maxRecDepth 100000 in
theorem tX8_prizeOf {L : Nat} (F : zFt) (e : Int32) (h0 : 0 ≤ (F 75 9).toInt) (h6 : zn (F 75 9) ≤ 60) (ho : ∀ e, e < zn (F 75 9) → okD F e) (he : zn e < zn (F 75 9)) (he0 : 0 ≤ e.toInt) : zFn mX8_prizeOf 3 [.ref 75, .int e] L F (some (.int (nPr F e))) F := by
  refine e_of (lo := [some (.ref 75), some (.int e), none, none, none, none, none]) (by decide +kernel) (Nat.le_of_ble_eq_true rfl) rfl ?_
  refine z_aload iX8_prizeOf_0 rfl ?_
  refine e_getR iX8_prizeOf_1 fX8_32 rfl ?_
  refine z_iload iX8_prizeOf_4 rfl ?_
  refine e_iald iX8_prizeOf_5 rfl (show vp_in e 60 by rw [vin]; have := zn_int he0; omega) ?_
  refine z_istore iX8_prizeOf_6 rfl ?_
  dsimp only [List.set_cons_zero, List.set_cons_succ]
  refine z_aload iX8_prizeOf_7 rfl ?_
  refine e_getR iX8_prizeOf_8 fX8_22 rfl ?_
  refine z_iload iX8_prizeOf_11 rfl ?_
  refine e_bald iX8_prizeOf_12 rfl (ho _ he).1 ?_
  refine z_if_ne iX8_prizeOf_13 (fun c13 => ?_) (fun c13 => ?_)
  · refine z_aload iX8_prizeOf_18 rfl ?_
    refine z_iload iX8_prizeOf_19 rfl ?_
    refine e_callV iX8_prizeOf_20 kX8_226 (tX8_rankOf F e h0 h6 ho he he0) rfl rfl rfl ⟨Nat.le_of_ble_eq_true rfl, Nat.le_of_ble_eq_true rfl⟩ ⟨Nat.le_of_ble_eq_true rfl, Nat.le_of_ble_eq_true rfl⟩ (Nat.le_of_ble_eq_true rfl) ?_
    dsimp only [Option.toList, List.cons_append, List.nil_append]
    refine z_istore iX8_prizeOf_23 rfl ?_
    dsimp only [List.set_cons_zero, List.set_cons_succ]
    refine z_aload iX8_prizeOf_24 rfl ?_
    refine z_iload iX8_prizeOf_25 rfl ?_
    refine e_callV iX8_prizeOf_26 kX8_229 (tX8_alike F e h0 h6 ho he he0) rfl rfl rfl ⟨Nat.le_of_ble_eq_true rfl, Nat.le_of_ble_eq_true rfl⟩ ⟨Nat.le_of_ble_eq_true rfl, Nat.le_of_ble_eq_true rfl⟩ (Nat.le_of_ble_eq_true rfl) ?_
    dsimp only [Option.toList, List.cons_append, List.nil_append]
    refine z_istore iX8_prizeOf_29 rfl ?_
    dsimp only [List.set_cons_zero, List.set_cons_succ]
    refine z_push iX8_prizeOf_31 ?_
    refine z_istore iX8_prizeOf_32 rfl ?_
    dsimp only [List.set_cons_zero, List.set_cons_succ]
    refine z_iload iX8_prizeOf_34 rfl ?_
    refine z_istore iX8_prizeOf_35 rfl ?_
    dsimp only [List.set_cons_zero, List.set_cons_succ]
    have h1 : 1 ≤ (nRk F e).toInt := by
      obtain ⟨j, a, b, q⟩ := nRk_in (F := F) (e := e) h6
      rw [q, nI_int (by omega)]
      omega
    have hy : ¬ nAl F e = 0 := by
      obtain ⟨j, a, b, q⟩ := nAl_in (F := F) (e := e) h6 he
      rw [q]
      intro z
      have := congrArg zn z
      rw [zn_nI (by omega), show zn 0 = 0 from rfl] at this
      omega
    exact lqX8_prizeOf F e _ _ _ _ (ho _ he).1 hy h1 (by rw [nPr, if_neg c13])
  · refine z_push iX8_prizeOf_16 ?_
    exact e_iret iX8_prizeOf_17 rfl ⟨by rw [nPr, if_pos c13], rfl⟩
