abbrev nU1 (F : zFt) (i : Int32) : zFt := zup (zup (nKp F (F 75 19)) 93 (zn i) 0) 80 (zn (F 83 (zn (F 91 (zn i))))) 0
def qUphold (F : zFt) (i : Int32) : Int32 × zFt := if zi3 i 0 (F 75 19 - 1) = false then (-101, F) else if 0 < F 75 28 then (-103, F) else if F 93 (zn i) = 0 then (-103, F) else (1, nGo (nU1 F i) (F 75 19))
theorem zi3_v {i x : Int32} {n : Nat} (h0 : 0 ≤ x.toInt) (hx : zn x ≤ n) (h : zi3 i 0 (x - 1) = true) : vp_in i n ∧ zn i < zn x := by
  rw [zi3_zin h0] at h
  exact ⟨vin_le (zin_v h) hx, vin_zn (zin_v h)⟩

set_option maxRecDepth 100000 in
theorem tX8_uphold {L : Nat} (F : zFt) (i : Int32) (hW : okW F) (ho : ∀ i, i < zn (F 75 19) → vp_in (F 91 i) 60 ∧ vp_in (F 83 (zn (F 91 i))) 12) (hb : ∀ i, F 93 i = 0 ∨ F 93 i = 1) (hz : ∀ i, F 80 i = 0 ∨ F 80 i = 1) : zFn mX8_uphold 2 [.ref 75, .int i] L F (some (.int (qUphold F i).1)) (qUphold F i).2 := by
  refine e_of (lo := [some (.ref 75), some (.int i)]) (by decide +kernel) (Nat.le_of_ble_eq_true rfl) rfl ?_
  refine z_iload iX8_uphold_0 rfl ?_
  refine z_push iX8_uphold_1 ?_
  refine z_aload iX8_uphold_2 rfl ?_
  refine e_getI iX8_uphold_3 fX8_144 rfl ?_
  refine z_push iX8_uphold_6 ?_
  refine z_isub iX8_uphold_7 ?_
  refine e_callS iX8_uphold_8 kX8_123 (tX8_in F _ _ _) rfl rfl ⟨Nat.le_of_ble_eq_true rfl, Nat.le_of_ble_eq_true rfl⟩ ⟨Nat.le_of_ble_eq_true rfl, Nat.le_of_ble_eq_true rfl⟩ (Nat.le_of_ble_eq_true rfl) ?_
  dsimp only [Option.toList, List.cons_append, List.nil_append]
  refine z_if_ne iX8_uphold_11 (fun c11 => ?_) (fun c11 => ?_)
  · rw [zb_n] at c11
    refine z_aload iX8_uphold_17 rfl ?_
    refine e_getI iX8_uphold_18 fX8_116 rfl ?_
    refine z_if_gt iX8_uphold_21 (fun c21 => ?_) (fun c21 => ?_)
    · refine z_push iX8_uphold_33 ?_
      exact e_iret iX8_uphold_35 rfl ⟨by simp [qUphold, c11, c21], by simp [qUphold, c11, c21]⟩
    · refine z_aload iX8_uphold_24 rfl ?_
      refine e_getR iX8_uphold_25 fX8_62 rfl ?_
      refine z_iload iX8_uphold_28 rfl ?_
      refine e_bald iX8_uphold_29 rfl (zi3_v hW.1 hW.2.1 c11).1 ?_
      refine z_if_ne iX8_uphold_30 (fun c30 => ?_) (fun c30 => ?_)
      · refine z_aload iX8_uphold_36 rfl ?_
        refine z_aload iX8_uphold_37 rfl ?_
        refine e_getI iX8_uphold_38 fX8_144 rfl ?_
        refine e_callV iX8_uphold_41 kX8_208 (tX8_keep F (F 75 19) hb hz) rfl rfl rfl ⟨Nat.le_of_ble_eq_true rfl, Nat.le_of_ble_eq_true rfl⟩ ⟨Nat.le_of_ble_eq_true rfl, Nat.le_of_ble_eq_true rfl⟩ (Nat.le_of_ble_eq_true rfl) ?_
        dsimp only [Option.toList, List.cons_append, List.nil_append]
        refine z_aload iX8_uphold_44 rfl ?_
        refine e_getR iX8_uphold_45 fX8_62 rfl ?_
        refine z_iload iX8_uphold_48 rfl ?_
        refine z_push iX8_uphold_49 ?_
        refine e_bast iX8_uphold_50 rfl (zi3_v hW.1 hW.2.1 c11).1 (by first | exact Or.inl rfl | exact Or.inr rfl | assumption) ?_
        refine z_aload iX8_uphold_51 rfl ?_
        refine e_getR iX8_uphold_52 fX8_22 rfl ?_
        refine z_aload iX8_uphold_55 rfl ?_
        refine e_getR iX8_uphold_56 fX8_32 rfl ?_
        refine z_aload iX8_uphold_59 rfl ?_
        refine e_getR iX8_uphold_60 fX8_56 rfl ?_
        refine z_iload iX8_uphold_63 rfl ?_
        refine e_iald iX8_uphold_64 rfl (zi3_v hW.1 hW.2.1 c11).1 ?_
        rw [zup_ap, if_neg (by omega), nKp_ne F _ (by decide) (by decide) (by omega)]
        refine e_iald iX8_uphold_65 rfl (ho _ (zi3_v hW.1 hW.2.1 c11).2).1 ?_
        rw [zup_ap, if_neg (by omega), nKp_ne F _ (by decide) (by decide) (by omega)]
        refine z_push iX8_uphold_66 ?_
        refine e_bast iX8_uphold_67 rfl (ho _ (zi3_v hW.1 hW.2.1 c11).2).2 (by first | exact Or.inl rfl | exact Or.inr rfl | assumption) ?_
        refine z_aload iX8_uphold_68 rfl ?_
        refine z_aload iX8_uphold_69 rfl ?_
        refine e_getI iX8_uphold_70 fX8_144 rfl ?_
        rw [zup_ap, if_neg (by omega), zup_ap, if_neg (by omega), nKp_ne F _ (by decide) (by decide) (by omega)]
        refine e_callV iX8_uphold_73 kX8_188 (tX8_goBack (nU1 F i) (F 75 19) hW.1 hW.2.1 (fun j hj => okN_eq (hW.2.2 j hj) (fun a b hab => by rw [nU1, zup_ap, if_neg (by omega), zup_ap, if_neg (by omega), nKp_ne F _ (by omega) (by omega) (by omega)]))) rfl rfl rfl ⟨Nat.le_of_ble_eq_true rfl, Nat.le_of_ble_eq_true rfl⟩ ⟨Nat.le_of_ble_eq_true rfl, Nat.le_of_ble_eq_true rfl⟩ (Nat.le_of_ble_eq_true rfl) ?_
        dsimp only [Option.toList, List.cons_append, List.nil_append]
        refine z_push iX8_uphold_76 ?_
        exact e_iret iX8_uphold_77 rfl ⟨by simp [qUphold, c11, c21, c30], by simp [qUphold, c11, c21, c30]⟩
      · refine z_push iX8_uphold_33 ?_
        exact e_iret iX8_uphold_35 rfl ⟨by simp [qUphold, c11, c21, c30], by simp [qUphold, c11, c21, c30]⟩
  · rw [zb_0] at c11
    refine z_push iX8_uphold_14 ?_
    exact e_iret iX8_uphold_16 rfl ⟨by simp [qUphold, c11], by simp [qUphold, c11]⟩

def qEvent (F : zFt) (i w : Int32) : Int32 × zFt := if zi3 i 0 (F 75 19 - 1) = false then (-101, F) else if ¬ w = 0 then (if ¬ w = 1 then (if ¬ w = 2 then (if ¬ w = 3 then (if ¬ w = 4 then (-102, F) else (if F 93 (zn i) = 0 then 0 else 1, F)) else (F 92 (zn i), F)) else (F 91 (zn i), F)) else (F 90 (zn i), F)) else (F 89 (zn i), F)
def qFailure (F : zFt) (i w : Int32) : Int32 × zFt := if zi3 i 0 ((if 200 ≤ F 75 38 then 200 else F 75 38) - 1) = false then (-101, F) else if zi3 w 0 5 = false then (-102, F) else (F 106 (zn (6 * i + w)), F)
def qIs (F : zFt) (a b : Int32) : Int32 × zFt := if zi3 a 0 11 = false then (-102, F) else if zi3 b 0 11 = false then (-102, F) else if decide (nIk b 2 a = b) = false then (0, F) else (1, F)
def qCount (F : zFt) (w : Int32) : Int32 × zFt := if w.toInt = 0 then (F 75 0, F) else if w.toInt = 1 then (F 75 9, F) else if w.toInt = 2 then (F 75 7, F) else if w.toInt = 3 then (F 75 11, F) else if w.toInt = 4 then (F 75 15, F) else if w.toInt = 5 then (F 75 19, F) else if w.toInt = 6 then (F 75 42, F) else if w.toInt = 7 then (F 75 38, F) else if w.toInt = 8 then (F 75 39, F) else if w.toInt = 9 then (F 75 18, F) else (-102, F)
theorem ix6v {i w : Int32} (hi : vp_in i 200) (h : zi3 w 0 5 = true) : vp_in (6 * i + w) 1200 := by
  have q := zi3_t h
  simp at q
  obtain ⟨a, ha, rfl⟩ := vin_of hi
  have e := nI_zn q.1
  have e2 := zn_int q.1
  rw [← e, nI_6m, nI_add]
  exact vin_mk (by omega)
theorem f200 {i x : Int32} (h0 : 0 ≤ x.toInt) (h : zi3 i 0 ((if 200 ≤ x then 200 else x) - 1) = true) : vp_in i 200 := by
  by_cases hx : 200 ≤ x
  · rw [if_pos hx] at h
    exact (zi3_v (n := 200) (by decide) (by decide) h).1
  · rw [if_neg hx] at h
    refine (zi3_v (n := 200) h0 ?_ h).1
    have := vin_zn (n200 h0 hx)
    omega

set_option maxRecDepth 100000 in
theorem tX8_event {L : Nat} (F : zFt) (i : Int32) (w : Int32) (hW : 0 ≤ (F 75 19).toInt ∧ zn (F 75 19) ≤ 400) : zFn mX8_event 1 [.ref 75, .int i, .int w] L F (some (.int (qEvent F i w).1)) (qEvent F i w).2 := by
  refine e_of (lo := [some (.ref 75), some (.int i), some (.int w)]) (by decide +kernel) (Nat.le_of_ble_eq_true rfl) rfl ?_
  refine z_iload iX8_event_0 rfl ?_
  refine z_push iX8_event_1 ?_
  refine z_aload iX8_event_2 rfl ?_
  refine e_getI iX8_event_3 fX8_144 rfl ?_
  refine z_push iX8_event_6 ?_
  refine z_isub iX8_event_7 ?_
  refine e_callS iX8_event_8 kX8_123 (tX8_in F _ _ _) rfl rfl ⟨Nat.le_of_ble_eq_true rfl, Nat.le_of_ble_eq_true rfl⟩ ⟨Nat.le_of_ble_eq_true rfl, Nat.le_of_ble_eq_true rfl⟩ (Nat.le_of_ble_eq_true rfl) ?_
  dsimp only [Option.toList, List.cons_append, List.nil_append]
  refine z_if_ne iX8_event_11 (fun c11 => ?_) (fun c11 => ?_)
  · rw [zb_n] at c11
    refine z_iload iX8_event_17 rfl ?_
    refine z_if_ne iX8_event_18 (fun c18 => ?_) (fun c18 => ?_)
    · refine z_iload iX8_event_30 rfl ?_
      refine z_push iX8_event_31 ?_
      refine z_icmp_ne iX8_event_32 (fun c32 => ?_) (fun c32 => ?_)
      · refine z_iload iX8_event_44 rfl ?_
        refine z_push iX8_event_45 ?_
        refine z_icmp_ne iX8_event_46 (fun c46 => ?_) (fun c46 => ?_)
        · refine z_iload iX8_event_58 rfl ?_
          refine z_push iX8_event_59 ?_
          refine z_icmp_ne iX8_event_60 (fun c60 => ?_) (fun c60 => ?_)
          · refine z_iload iX8_event_72 rfl ?_
            refine z_push iX8_event_73 ?_
            refine z_icmp_ne iX8_event_74 (fun c74 => ?_) (fun c74 => ?_)
            · refine z_push iX8_event_94 ?_
              exact e_iret iX8_event_96 rfl ⟨by simp [qEvent, c11, c18, c32, c46, c60, c74], by simp [qEvent, c11, c18, c32, c46, c60, c74]⟩
            · refine z_aload iX8_event_77 rfl ?_
              refine e_getR iX8_event_78 fX8_62 rfl ?_
              refine z_iload iX8_event_81 rfl ?_
              refine e_bald iX8_event_82 rfl (zi3_v hW.1 hW.2 c11).1 ?_
              refine z_if_eq iX8_event_83 (fun c83 => ?_) (fun c83 => ?_)
              · refine z_push iX8_event_90 ?_
                refine z_goto iX8_event_91 ?_
                exact e_iret iX8_event_96 rfl ⟨by simp [qEvent, c11, c18, c32, c46, c60, c74, c83], by simp [qEvent, c11, c18, c32, c46, c60, c74, c83]⟩
              · refine z_push iX8_event_86 ?_
                refine z_goto iX8_event_87 ?_
                exact e_iret iX8_event_96 rfl ⟨by simp [qEvent, c11, c18, c32, c46, c60, c74, c83], by simp [qEvent, c11, c18, c32, c46, c60, c74, c83]⟩
          · refine z_aload iX8_event_63 rfl ?_
            refine e_getR iX8_event_64 fX8_59 rfl ?_
            refine z_iload iX8_event_67 rfl ?_
            refine e_iald iX8_event_68 rfl (zi3_v hW.1 hW.2 c11).1 ?_
            refine z_goto iX8_event_69 ?_
            exact e_iret iX8_event_96 rfl ⟨by simp [qEvent, c11, c18, c32, c46, c60], by simp [qEvent, c11, c18, c32, c46, c60]⟩
        · refine z_aload iX8_event_49 rfl ?_
          refine e_getR iX8_event_50 fX8_56 rfl ?_
          refine z_iload iX8_event_53 rfl ?_
          refine e_iald iX8_event_54 rfl (zi3_v hW.1 hW.2 c11).1 ?_
          refine z_goto iX8_event_55 ?_
          exact e_iret iX8_event_96 rfl ⟨by simp [qEvent, c11, c18, c32, c46], by simp [qEvent, c11, c18, c32, c46]⟩
      · refine z_aload iX8_event_35 rfl ?_
        refine e_getR iX8_event_36 fX8_53 rfl ?_
        refine z_iload iX8_event_39 rfl ?_
        refine e_iald iX8_event_40 rfl (zi3_v hW.1 hW.2 c11).1 ?_
        refine z_goto iX8_event_41 ?_
        exact e_iret iX8_event_96 rfl ⟨by simp [qEvent, c11, c18, c32], by simp [qEvent, c11, c18, c32]⟩
    · refine z_aload iX8_event_21 rfl ?_
      refine e_getR iX8_event_22 fX8_50 rfl ?_
      refine z_iload iX8_event_25 rfl ?_
      refine e_iald iX8_event_26 rfl (zi3_v hW.1 hW.2 c11).1 ?_
      refine z_goto iX8_event_27 ?_
      exact e_iret iX8_event_96 rfl ⟨by simp [qEvent, c11, c18], by simp [qEvent, c11, c18]⟩
  · rw [zb_0] at c11
    refine z_push iX8_event_14 ?_
    exact e_iret iX8_event_16 rfl ⟨by simp [qEvent, c11], by simp [qEvent, c11]⟩

set_option maxRecDepth 100000 in
theorem tX8_failure {L : Nat} (F : zFt) (i : Int32) (w : Int32) (h0 : 0 ≤ (F 75 38).toInt) : zFn mX8_failure 1 [.ref 75, .int i, .int w] L F (some (.int (qFailure F i w).1)) (qFailure F i w).2 := by
  refine e_of (lo := [some (.ref 75), some (.int i), some (.int w)]) (by decide +kernel) (Nat.le_of_ble_eq_true rfl) rfl ?_
  have tail : ∀ v : Int32, v = (if 200 ≤ F 75 38 then 200 else F 75 38) → zEV mX8_failure (zrm 1 0 0) (zZf L (some (.int (qFailure F i w).1)) (qFailure F i w).2) 22 [some (.ref 75), some (.int i), some (.int w)] [.int v, .int 0, .int i] 111 (zE L F) 0 0 := by
    intro v hv
    subst hv
    refine z_push iX8_failure_22 ?_
    refine z_isub iX8_failure_23 ?_
    refine e_callS iX8_failure_24 kX8_123 (tX8_in F _ _ _) rfl rfl ⟨Nat.le_of_ble_eq_true rfl, Nat.le_of_ble_eq_true rfl⟩ ⟨Nat.le_of_ble_eq_true rfl, Nat.le_of_ble_eq_true rfl⟩ (Nat.le_of_ble_eq_true rfl) ?_
    dsimp only [Option.toList, List.cons_append, List.nil_append]
    refine z_if_ne iX8_failure_27 (fun c27 => ?_) (fun c27 => ?_)
    · rw [zb_n] at c27
      refine z_iload iX8_failure_33 rfl ?_
      refine z_push iX8_failure_34 ?_
      refine z_push iX8_failure_35 ?_
      refine e_callS iX8_failure_36 kX8_123 (tX8_in F _ _ _) rfl rfl ⟨Nat.le_of_ble_eq_true rfl, Nat.le_of_ble_eq_true rfl⟩ ⟨Nat.le_of_ble_eq_true rfl, Nat.le_of_ble_eq_true rfl⟩ (Nat.le_of_ble_eq_true rfl) ?_
      dsimp only [Option.toList, List.cons_append, List.nil_append]
      refine z_if_eq iX8_failure_39 (fun c39 => ?_) (fun c39 => ?_)
      · rw [zb_0] at c39
        refine z_push iX8_failure_56 ?_
        exact e_iret iX8_failure_58 rfl ⟨by simp [qFailure, c27, c39], by simp [qFailure, c27, c39]⟩
      · rw [zb_n] at c39
        refine z_aload iX8_failure_42 rfl ?_
        refine e_getR iX8_failure_43 fX8_101 rfl ?_
        refine z_push iX8_failure_46 ?_
        refine z_iload iX8_failure_48 rfl ?_
        refine z_imul iX8_failure_49 ?_
        refine z_iload iX8_failure_50 rfl ?_
        refine z_iadd iX8_failure_51 ?_
        refine e_iald iX8_failure_52 rfl (ix6v (f200 h0 c27) c39) ?_
        refine z_goto iX8_failure_53 ?_
        exact e_iret iX8_failure_58 rfl ⟨by simp [qFailure, c27, c39], by simp [qFailure, c27, c39]⟩
    · rw [zb_0] at c27
      refine z_push iX8_failure_30 ?_
      exact e_iret iX8_failure_32 rfl ⟨by simp [qFailure, c27], by simp [qFailure, c27]⟩
  refine z_iload iX8_failure_0 rfl ?_
  refine z_push iX8_failure_1 ?_
  refine z_aload iX8_failure_2 rfl ?_
  refine e_getI iX8_failure_3 fX8_171 rfl ?_
  refine z_push iX8_failure_6 ?_
  refine z_icmp_ge iX8_failure_9 (fun c9 => ?_) (fun c9 => ?_)
  · refine z_push iX8_failure_19 ?_
    exact tail _ (by rw [if_pos c9])
  · refine z_aload iX8_failure_12 rfl ?_
    refine e_getI iX8_failure_13 fX8_171 rfl ?_
    refine z_goto iX8_failure_16 ?_
    exact tail _ (by rw [if_neg c9])

set_option maxRecDepth 100000 in
theorem tX8_is {L : Nat} (F : zFt) (a : Int32) (b : Int32) : zFn mX8_is 2 [.ref 75, .int a, .int b] L F (some (.int (qIs F a b).1)) (qIs F a b).2 := by
  refine e_of (lo := [some (.ref 75), some (.int a), some (.int b)]) (by decide +kernel) (Nat.le_of_ble_eq_true rfl) rfl ?_
  refine z_iload iX8_is_0 rfl ?_
  refine z_push iX8_is_1 ?_
  refine z_push iX8_is_2 ?_
  refine e_callS iX8_is_4 kX8_123 (tX8_in F _ _ _) rfl rfl ⟨Nat.le_of_ble_eq_true rfl, Nat.le_of_ble_eq_true rfl⟩ ⟨Nat.le_of_ble_eq_true rfl, Nat.le_of_ble_eq_true rfl⟩ (Nat.le_of_ble_eq_true rfl) ?_
  dsimp only [Option.toList, List.cons_append, List.nil_append]
  refine z_if_eq iX8_is_7 (fun c7 => ?_) (fun c7 => ?_)
  · rw [zb_0] at c7
    refine z_push iX8_is_20 ?_
    refine z_goto iX8_is_22 ?_
    exact e_iret iX8_is_38 rfl ⟨by simp [qIs, c7], by simp [qIs, c7]⟩
  · rw [zb_n] at c7
    refine z_iload iX8_is_10 rfl ?_
    refine z_push iX8_is_11 ?_
    refine z_push iX8_is_12 ?_
    refine e_callS iX8_is_14 kX8_123 (tX8_in F _ _ _) rfl rfl ⟨Nat.le_of_ble_eq_true rfl, Nat.le_of_ble_eq_true rfl⟩ ⟨Nat.le_of_ble_eq_true rfl, Nat.le_of_ble_eq_true rfl⟩ (Nat.le_of_ble_eq_true rfl) ?_
    dsimp only [Option.toList, List.cons_append, List.nil_append]
    refine z_if_ne iX8_is_17 (fun c17 => ?_) (fun c17 => ?_)
    · rw [zb_n] at c17
      refine z_iload iX8_is_25 rfl ?_
      refine z_iload iX8_is_26 rfl ?_
      refine e_callS iX8_is_27 kX8_178 (tX8_isOf F a b) rfl rfl ⟨Nat.le_of_ble_eq_true rfl, Nat.le_of_ble_eq_true rfl⟩ ⟨Nat.le_of_ble_eq_true rfl, Nat.le_of_ble_eq_true rfl⟩ (Nat.le_of_ble_eq_true rfl) ?_
      dsimp only [Option.toList, List.cons_append, List.nil_append]
      refine z_if_eq iX8_is_30 (fun c30 => ?_) (fun c30 => ?_)
      · rw [zb_0] at c30
        refine z_push iX8_is_37 ?_
        exact e_iret iX8_is_38 rfl ⟨by simp [qIs, c7, c17, c30], by simp [qIs, c7, c17, c30]⟩
      · rw [zb_n] at c30
        refine z_push iX8_is_33 ?_
        refine z_goto iX8_is_34 ?_
        exact e_iret iX8_is_38 rfl ⟨by simp [qIs, c7, c17, c30], by simp [qIs, c7, c17, c30]⟩
    · rw [zb_0] at c17
      refine z_push iX8_is_20 ?_
      refine z_goto iX8_is_22 ?_
      exact e_iret iX8_is_38 rfl ⟨by simp [qIs, c7, c17], by simp [qIs, c7, c17]⟩

set_option maxRecDepth 100000 in
theorem tX8_count {L : Nat} (F : zFt) (w : Int32) : zFn mX8_count 0 [.ref 75, .int w] L F (some (.int (qCount F w).1)) (qCount F w).2 := by
  refine e_of (lo := [some (.ref 75), some (.int w)]) (by decide +kernel) (Nat.le_of_ble_eq_true rfl) rfl ?_
  refine z_iload iX8_count_0 rfl ?_
  refine z_tsw iX8_count_1 (fun j t hj hx => ?_) (fun hx => ?_)
  · match j, hj with
    | 0, hj =>
      cases hj
      have e1 : w.toInt = 0 := hx
      refine z_aload iX8_count_56 rfl ?_
      refine e_getI iX8_count_57 fX8_120 rfl ?_
      exact e_iret iX8_count_60 rfl ⟨by simp [qCount, e1], by simp [qCount, e1]⟩
    | 1, hj =>
      cases hj
      have e1 : w.toInt = 1 := hx
      refine z_aload iX8_count_61 rfl ?_
      refine e_getI iX8_count_62 fX8_127 rfl ?_
      exact e_iret iX8_count_65 rfl ⟨by simp [qCount, e1], by simp [qCount, e1]⟩
    | 2, hj =>
      cases hj
      have e1 : w.toInt = 2 := hx
      refine z_aload iX8_count_66 rfl ?_
      refine e_getI iX8_count_67 fX8_130 rfl ?_
      exact e_iret iX8_count_70 rfl ⟨by simp [qCount, e1], by simp [qCount, e1]⟩
    | 3, hj =>
      cases hj
      have e1 : w.toInt = 3 := hx
      refine z_aload iX8_count_71 rfl ?_
      refine e_getI iX8_count_72 fX8_138 rfl ?_
      exact e_iret iX8_count_75 rfl ⟨by simp [qCount, e1], by simp [qCount, e1]⟩
    | 4, hj =>
      cases hj
      have e1 : w.toInt = 4 := hx
      refine z_aload iX8_count_76 rfl ?_
      refine e_getI iX8_count_77 fX8_141 rfl ?_
      exact e_iret iX8_count_80 rfl ⟨by simp [qCount, e1], by simp [qCount, e1]⟩
    | 5, hj =>
      cases hj
      have e1 : w.toInt = 5 := hx
      refine z_aload iX8_count_81 rfl ?_
      refine e_getI iX8_count_82 fX8_144 rfl ?_
      exact e_iret iX8_count_85 rfl ⟨by simp [qCount, e1], by simp [qCount, e1]⟩
    | 6, hj =>
      cases hj
      have e1 : w.toInt = 6 := hx
      refine z_aload iX8_count_86 rfl ?_
      refine e_getI iX8_count_87 fX8_205 rfl ?_
      exact e_iret iX8_count_90 rfl ⟨by simp [qCount, e1], by simp [qCount, e1]⟩
    | 7, hj =>
      cases hj
      have e1 : w.toInt = 7 := hx
      refine z_aload iX8_count_91 rfl ?_
      refine e_getI iX8_count_92 fX8_171 rfl ?_
      exact e_iret iX8_count_95 rfl ⟨by simp [qCount, e1], by simp [qCount, e1]⟩
    | 8, hj =>
      cases hj
      have e1 : w.toInt = 8 := hx
      refine z_aload iX8_count_96 rfl ?_
      refine e_getI iX8_count_97 fX8_182 rfl ?_
      exact e_iret iX8_count_100 rfl ⟨by simp [qCount, e1], by simp [qCount, e1]⟩
    | 9, hj =>
      cases hj
      have e1 : w.toInt = 9 := hx
      refine z_aload iX8_count_101 rfl ?_
      refine e_getI iX8_count_102 fX8_211 rfl ?_
      exact e_iret iX8_count_105 rfl ⟨by simp [qCount, e1], by simp [qCount, e1]⟩
    | j + 10, hj => simp at hj
  · have n0 : ¬ w.toInt = 0 := by simp at hx; omega
    have n1 : ¬ w.toInt = 1 := by simp at hx; omega
    have n2 : ¬ w.toInt = 2 := by simp at hx; omega
    have n3 : ¬ w.toInt = 3 := by simp at hx; omega
    have n4 : ¬ w.toInt = 4 := by simp at hx; omega
    have n5 : ¬ w.toInt = 5 := by simp at hx; omega
    have n6 : ¬ w.toInt = 6 := by simp at hx; omega
    have n7 : ¬ w.toInt = 7 := by simp at hx; omega
    have n8 : ¬ w.toInt = 8 := by simp at hx; omega
    have n9 : ¬ w.toInt = 9 := by simp at hx; omega
    refine z_push iX8_count_106 ?_
    exact e_iret iX8_count_108 rfl ⟨by simp [qCount, n0, n1, n2, n3, n4, n5, n6, n7, n8, n9], by simp [qCount, n0, n1, n2, n3, n4, n5, n6, n7, n8, n9]⟩

set_option maxRecDepth 100000 in
theorem lpX8_undoa {L : Nat} {Z : zZt} (F : zFt)  (hb : ∀ i, F 107 i = 0 ∨ F 107 i = 1) (kk : zEV mX8_undo (zrm 2 0 0) Z 49 [some (.ref 75), some (.int (nI (400)))] [] 111 (zE L (zcp F 93 107 (400))) 0 0) : ∀ (n a : Nat), a + n = 400 → zEV mX8_undo (zrm 2 0 0) Z 24 [some (.ref 75), some (.int (nI a))] [] 111 (zE L (zcp F 93 107 a)) 0 0 := by
  intro n
  induction n with
  | zero =>
    intro a ha
    obtain rfl : a = 400 := by omega
    refine z_iload iX8_undo_24 rfl ?_
    refine z_push iX8_undo_25 ?_
    refine z_icmp_ge iX8_undo_28 (fun c28 => ?_) (fun c28 => ?_)
    · exact kk
    · exact absurd (by decide) c28
  | succ n ih =>
    intro a ha
    refine z_iload iX8_undo_24 rfl ?_
    refine z_push iX8_undo_25 ?_
    refine z_icmp_ge iX8_undo_28 (fun c28 => ?_) (fun c28 => ?_)
    · exact absurd ((nI_le2 (a := 400) (by decide) (by omega)).mp c28) (by omega)
    · refine z_aload iX8_undo_31 rfl ?_
      refine e_getR iX8_undo_32 fX8_62 rfl ?_
      refine z_iload iX8_undo_35 rfl ?_
      refine z_aload iX8_undo_36 rfl ?_
      refine e_getR iX8_undo_37 fX8_104 rfl ?_
      refine z_iload iX8_undo_40 rfl ?_
      refine e_bald iX8_undo_41 rfl (vin_mk (n := 400) (by omega)) ?_
      rw [zn_nI (by omega), zcp_ne F (by decide)]
      refine e_bast iX8_undo_42 rfl (vin_mk (n := 400) (by omega)) (hb _) ?_
      rw [zn_nI (by omega), zcp_s]
      refine z_iinc (v := 1) iX8_undo_43 (by decide) (by decide) rfl rfl ?_
      dsimp only [List.set_cons_zero, List.set_cons_succ]
      refine z_goto iX8_undo_46 ?_
      exact z_to (by simp [nI_1]) rfl (ih (a + 1) (by omega))

set_option maxRecDepth 100000 in
theorem lpX8_undob {L : Nat} {Z : zZt} (F : zFt)  (hb : ∀ i, F 108 i = 0 ∨ F 108 i = 1) (kk : zEV mX8_undo (zrm 2 0 0) Z 75 [some (.ref 75), some (.int (nI (12)))] [] 111 (zE L (zcp F 80 108 (12))) 0 0) : ∀ (n a : Nat), a + n = 12 → zEV mX8_undo (zrm 2 0 0) Z 51 [some (.ref 75), some (.int (nI a))] [] 111 (zE L (zcp F 80 108 a)) 0 0 := by
  intro n
  induction n with
  | zero =>
    intro a ha
    obtain rfl : a = 12 := by omega
    refine z_iload iX8_undo_51 rfl ?_
    refine z_push iX8_undo_52 ?_
    refine z_icmp_ge iX8_undo_54 (fun c54 => ?_) (fun c54 => ?_)
    · exact kk
    · exact absurd (by decide) c54
  | succ n ih =>
    intro a ha
    refine z_iload iX8_undo_51 rfl ?_
    refine z_push iX8_undo_52 ?_
    refine z_icmp_ge iX8_undo_54 (fun c54 => ?_) (fun c54 => ?_)
    · exact absurd ((nI_le2 (a := 12) (by decide) (by omega)).mp c54) (by omega)
    · refine z_aload iX8_undo_57 rfl ?_
      refine e_getR iX8_undo_58 fX8_22 rfl ?_
      refine z_iload iX8_undo_61 rfl ?_
      refine z_aload iX8_undo_62 rfl ?_
      refine e_getR iX8_undo_63 fX8_107 rfl ?_
      refine z_iload iX8_undo_66 rfl ?_
      refine e_bald iX8_undo_67 rfl (vin_mk (n := 12) (by omega)) ?_
      rw [zn_nI (by omega), zcp_ne F (by decide)]
      refine e_bast iX8_undo_68 rfl (vin_mk (n := 12) (by omega)) (hb _) ?_
      rw [zn_nI (by omega), zcp_s]
      refine z_iinc (v := 1) iX8_undo_69 (by decide) (by decide) rfl rfl ?_
      dsimp only [List.set_cons_zero, List.set_cons_succ]
      refine z_goto iX8_undo_72 ?_
      exact z_to (by simp [nI_1]) rfl (ih (a + 1) (by omega))

abbrev nUn (F : zFt) : zFt := zcp (zcp (zup F 75 41 0) 93 107 400) 80 108 12
def qUndo (F : zFt) : Int32 × zFt := if 0 < F 75 28 then (-103, F) else if F 75 41 = 0 then (-103, F) else (1, nGo (nUn F) (F 75 43))

set_option maxRecDepth 100000 in
theorem tX8_undo {L : Nat} (F : zFt) (h1 : ∀ i, F 107 i = 0 ∨ F 107 i = 1) (h2 : ∀ i, F 108 i = 0 ∨ F 108 i = 1) (h3 : ¬ F 75 41 = 0 → 0 ≤ (F 75 43).toInt ∧ zn (F 75 43) ≤ 400 ∧ ∀ i, i < zn (F 75 43) → okN F i) : zFn mX8_undo 2 [.ref 75] L F (some (.int (qUndo F).1)) (qUndo F).2 := by
  refine e_of (lo := [some (.ref 75), none]) (by decide +kernel) (Nat.le_of_ble_eq_true rfl) rfl ?_
  refine z_aload iX8_undo_0 rfl ?_
  refine e_getI iX8_undo_1 fX8_116 rfl ?_
  refine z_if_gt iX8_undo_4 (fun c4 => ?_) (fun c4 => ?_)
  · refine z_push iX8_undo_14 ?_
    exact e_iret iX8_undo_16 rfl ⟨by simp [qUndo, c4], by simp [qUndo, c4]⟩
  · refine z_aload iX8_undo_7 rfl ?_
    refine e_getI iX8_undo_8 fX8_198 rfl ?_
    refine z_if_ne iX8_undo_11 (fun c11 => ?_) (fun c11 => ?_)
    · refine z_aload iX8_undo_17 rfl ?_
      refine z_push iX8_undo_18 ?_
      refine e_putZ iX8_undo_19 fX8_198 fw8_41 rfl (by first | exact Or.inl rfl | exact Or.inr rfl | assumption) ?_
      refine z_push iX8_undo_22 ?_
      refine z_istore iX8_undo_23 rfl ?_
      dsimp only [List.set_cons_zero, List.set_cons_succ]
      refine z_to rfl (zcp_0 _ 93 107).symm ?_
      refine lpX8_undoa (zup F 75 41 0) h1 ?_ 400 0 rfl
      refine z_push iX8_undo_49 ?_
      refine z_istore iX8_undo_50 rfl ?_
      dsimp only [List.set_cons_zero, List.set_cons_succ]
      refine z_to rfl (zcp_0 _ 80 108).symm ?_
      refine lpX8_undob (zcp (zup F 75 41 0) 93 107 400) (fun i => by rw [zcp_ne _ (by decide)]; exact h2 i) ?_ 12 0 rfl
      refine z_aload iX8_undo_75 rfl ?_
      refine z_aload iX8_undo_76 rfl ?_
      refine e_getI iX8_undo_77 fX8_202 rfl ?_
      rw [zcp_ne _ (by decide), zcp_ne _ (by decide), zup_ap, if_neg (by omega)]
      refine e_callV iX8_undo_80 kX8_188 (tX8_goBack (nUn F) (F 75 43) (h3 c11).1 (h3 c11).2.1 (fun j hj => okN_eq ((h3 c11).2.2 j hj) (fun a b hab => by rw [nUn, zcp_ne _ (by omega), zcp_ne _ (by omega), zup_ap, if_neg (by omega)]))) rfl rfl rfl ⟨Nat.le_of_ble_eq_true rfl, Nat.le_of_ble_eq_true rfl⟩ ⟨Nat.le_of_ble_eq_true rfl, Nat.le_of_ble_eq_true rfl⟩ (Nat.le_of_ble_eq_true rfl) ?_
      dsimp only [Option.toList, List.cons_append, List.nil_append]
      refine z_push iX8_undo_83 ?_
      exact e_iret iX8_undo_84 rfl ⟨by simp [qUndo, c4, c11], by simp [qUndo, c4, c11]⟩
    · refine z_push iX8_undo_14 ?_
      exact e_iret iX8_undo_16 rfl ⟨by simp [qUndo, c4, c11], by simp [qUndo, c4, c11]⟩
