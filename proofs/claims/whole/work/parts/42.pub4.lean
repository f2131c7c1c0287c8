abbrev cUc (F : zFt) (i : Int32) : Int32 := F 10 (zn (F 14 (zn i)))
abbrev cUk (F : zFt) (i : Int32) : zFt := zup (zup (zup F 2 10 3) 2 11 i) 2 12 (F 7 (zn (cUc F i)))
abbrev cUp (F : zFt) (i : Int32) : zFt := zup (cSc (cUk F i) (zn i) 0) 7 (zn (cUc F i)) 0
def pUphold (F : zFt) (i : Int32) : Int32 × zFt := if zin i (F 11 6) = false then (-101, F) else if 0 < F 2 7 then (-103, F) else if F 16 (zn i) = 0 then (-103, F) else (1, cUp F i)
theorem ev_at {F : zFt} (h : CI F) {i : Int32} (hi : zin i (F 11 6) = true) : vp_in i 400 ∧ evOk F (zn i) := ⟨vin_le (zin_v hi) (vin_le1 h.2.2.2.2.1), h.2.2.2.2.2.1 _ (vin_zn (zin_v hi))⟩

set_option maxRecDepth 100000 in
theorem tX7_uphold {L : Nat} (F : zFt) (i : Int32) (h : CI F) : zFn mX7_uphold 2 [.ref 2, .int i] L F (some (.int (pUphold F i).1)) (pUphold F i).2 := by
  refine e_of (lo := [some (.ref 2), some (.int i), none]) (by decide +kernel) (Nat.le_of_ble_eq_true rfl) rfl ?_
  refine z_aload iX7_uphold_0 rfl ?_
  refine e_getR iX7_uphold_1 fX7_21 rfl ?_
  refine z_iload iX7_uphold_4 rfl ?_
  refine e_callV iX7_uphold_5 kX7_253 (tX5_hasEvent F _) rfl rfl rfl ⟨Nat.le_of_ble_eq_true rfl, Nat.le_of_ble_eq_true rfl⟩ ⟨Nat.le_of_ble_eq_true rfl, Nat.le_of_ble_eq_true rfl⟩ (Nat.le_of_ble_eq_true rfl) ?_
  dsimp only [Option.toList, List.cons_append, List.nil_append]
  refine z_if_ne iX7_uphold_8 (fun c8 => ?_) (fun c8 => ?_)
  · rw [zb_n] at c8
    refine z_aload iX7_uphold_14 rfl ?_
    refine e_getI iX7_uphold_15 fX7_61 rfl ?_
    refine z_if_gt iX7_uphold_18 (fun c18 => ?_) (fun c18 => ?_)
    · refine z_push iX7_uphold_33 ?_
      exact e_iret iX7_uphold_35 rfl ⟨by simp [pUphold, c8, c18], by simp [pUphold, c8, c18]⟩
    · refine z_aload iX7_uphold_21 rfl ?_
      refine e_getR iX7_uphold_22 fX7_21 rfl ?_
      refine e_getR iX7_uphold_25 fX7_256 rfl ?_
      refine z_iload iX7_uphold_28 rfl ?_
      refine e_bald iX7_uphold_29 rfl (ev_at h c8).1 ?_
      refine z_if_ne iX7_uphold_30 (fun c30 => ?_) (fun c30 => ?_)
      · refine z_aload iX7_uphold_36 rfl ?_
        refine e_getR iX7_uphold_37 fX7_12 rfl ?_
        refine e_getR iX7_uphold_40 fX7_134 rfl ?_
        refine z_aload iX7_uphold_43 rfl ?_
        refine e_getR iX7_uphold_44 fX7_21 rfl ?_
        refine e_getR iX7_uphold_47 fX7_259 rfl ?_
        refine z_iload iX7_uphold_50 rfl ?_
        refine e_iald iX7_uphold_51 rfl (ev_at h c8).1 ?_
        refine e_iald iX7_uphold_52 rfl (sh_en h.1 (ev_at h c8).2.2.1) ?_
        refine z_istore iX7_uphold_53 rfl ?_
        dsimp only [List.set_cons_zero, List.set_cons_succ]
        refine z_aload iX7_uphold_54 rfl ?_
        refine z_push iX7_uphold_55 ?_
        refine z_iload iX7_uphold_56 rfl ?_
        refine z_aload iX7_uphold_57 rfl ?_
        refine e_getR iX7_uphold_58 fX7_12 rfl ?_
        refine e_getR iX7_uphold_61 fX7_93 rfl ?_
        refine z_iload iX7_uphold_64 rfl ?_
        refine e_bald iX7_uphold_65 rfl (sh_ec h.1 (ev_at h c8).2.2.1) ?_
        refine e_callV iX7_uphold_66 kX7_234 (tX7_keepForUndo F 3 i (F 7 (zn (cUc F i))) (h.1.2.2.2.1 _)) rfl rfl rfl ⟨Nat.le_of_ble_eq_true rfl, Nat.le_of_ble_eq_true rfl⟩ ⟨Nat.le_of_ble_eq_true rfl, Nat.le_of_ble_eq_true rfl⟩ (Nat.le_of_ble_eq_true rfl) ?_
        dsimp only [Option.toList, List.cons_append, List.nil_append]
        refine z_aload iX7_uphold_69 rfl ?_
        refine e_getR iX7_uphold_70 fX7_21 rfl ?_
        refine z_iload iX7_uphold_73 rfl ?_
        refine z_push iX7_uphold_74 ?_
        refine e_callV iX7_uphold_75 kX7_261 (tX5_setCounting (cUk F i) i 0 (ev_at h c8).1 (Or.inl rfl) (okE_eq (ev_okE h.1 (ev_at h c8).2) (fun k j hk => by simp only [cUk, zup_ap]; rw [if_neg (by omega), if_neg (by omega), if_neg (by omega)]))) rfl rfl rfl ⟨Nat.le_of_ble_eq_true rfl, Nat.le_of_ble_eq_true rfl⟩ ⟨Nat.le_of_ble_eq_true rfl, Nat.le_of_ble_eq_true rfl⟩ (Nat.le_of_ble_eq_true rfl) ?_
        dsimp only [Option.toList, List.cons_append, List.nil_append]
        refine z_aload iX7_uphold_78 rfl ?_
        refine e_getR iX7_uphold_79 fX7_12 rfl ?_
        refine e_getR iX7_uphold_82 fX7_93 rfl ?_
        refine z_iload iX7_uphold_85 rfl ?_
        refine z_push iX7_uphold_86 ?_
        refine e_bast iX7_uphold_87 rfl (sh_ec h.1 (ev_at h c8).2.2.1) (by first | exact Or.inl rfl | exact Or.inr rfl | assumption) ?_
        refine z_push iX7_uphold_88 ?_
        exact e_iret iX7_uphold_89 rfl ⟨by simp [pUphold, c8, c18, c30], by simp [pUphold, c8, c18, c30]⟩
      · refine z_push iX7_uphold_33 ?_
        exact e_iret iX7_uphold_35 rfl ⟨by simp [pUphold, c8, c18, c30], by simp [pUphold, c8, c18, c30]⟩
  · rw [zb_0] at c8
    refine z_push iX7_uphold_11 ?_
    exact e_iret iX7_uphold_13 rfl ⟨by simp [pUphold, c8], by simp [pUphold, c8]⟩

def pEvent (F : zFt) (i w : Int32) : Int32 × zFt := if zin i (F 11 6) = false then (-101, F) else if w.toInt = 0 then (F 12 (zn i), F) else if w.toInt = 1 then (F 13 (zn i), F) else if w.toInt = 2 then (F 14 (zn i), F) else if w.toInt = 3 then (F 15 (zn i), F) else if w.toInt = 4 then (if F 16 (zn i) = 0 then 0 else 1, F) else (-102, F)

set_option maxRecDepth 100000 in
theorem tX7_event {L : Nat} (F : zFt) (i : Int32) (w : Int32) (h : CI F) : zFn mX7_event 1 [.ref 2, .int i, .int w] L F (some (.int (pEvent F i w).1)) (pEvent F i w).2 := by
  refine e_of (lo := [some (.ref 2), some (.int i), some (.int w)]) (by decide +kernel) (Nat.le_of_ble_eq_true rfl) rfl ?_
  refine z_aload iX7_event_0 rfl ?_
  refine e_getR iX7_event_1 fX7_21 rfl ?_
  refine z_iload iX7_event_4 rfl ?_
  refine e_callV iX7_event_5 kX7_253 (tX5_hasEvent F _) rfl rfl rfl ⟨Nat.le_of_ble_eq_true rfl, Nat.le_of_ble_eq_true rfl⟩ ⟨Nat.le_of_ble_eq_true rfl, Nat.le_of_ble_eq_true rfl⟩ (Nat.le_of_ble_eq_true rfl) ?_
  dsimp only [Option.toList, List.cons_append, List.nil_append]
  refine z_if_ne iX7_event_8 (fun c8 => ?_) (fun c8 => ?_)
  · rw [zb_n] at c8
    refine z_iload iX7_event_14 rfl ?_
    refine z_tsw iX7_event_15 (fun j t hj hx => ?_) (fun hx => ?_)
    · match j, hj with
      | 0, hj =>
        cases hj
        have e1 : w.toInt = 0 := hx
        refine z_aload iX7_event_48 rfl ?_
        refine e_getR iX7_event_49 fX7_21 rfl ?_
        refine e_getR iX7_event_52 fX7_265 rfl ?_
        refine z_iload iX7_event_55 rfl ?_
        refine e_iald iX7_event_56 rfl (ev_at h c8).1 ?_
        exact e_iret iX7_event_57 rfl ⟨by simp [pEvent, c8, e1], by simp [pEvent, c8, e1]⟩
      | 1, hj =>
        cases hj
        have e1 : w.toInt = 1 := hx
        refine z_aload iX7_event_58 rfl ?_
        refine e_getR iX7_event_59 fX7_21 rfl ?_
        refine e_getR iX7_event_62 fX7_268 rfl ?_
        refine z_iload iX7_event_65 rfl ?_
        refine e_iald iX7_event_66 rfl (ev_at h c8).1 ?_
        exact e_iret iX7_event_67 rfl ⟨by simp [pEvent, c8, e1], by simp [pEvent, c8, e1]⟩
      | 2, hj =>
        cases hj
        have e1 : w.toInt = 2 := hx
        refine z_aload iX7_event_68 rfl ?_
        refine e_getR iX7_event_69 fX7_21 rfl ?_
        refine e_getR iX7_event_72 fX7_259 rfl ?_
        refine z_iload iX7_event_75 rfl ?_
        refine e_iald iX7_event_76 rfl (ev_at h c8).1 ?_
        exact e_iret iX7_event_77 rfl ⟨by simp [pEvent, c8, e1], by simp [pEvent, c8, e1]⟩
      | 3, hj =>
        cases hj
        have e1 : w.toInt = 3 := hx
        refine z_aload iX7_event_78 rfl ?_
        refine e_getR iX7_event_79 fX7_21 rfl ?_
        refine e_getR iX7_event_82 fX7_270 rfl ?_
        refine z_iload iX7_event_85 rfl ?_
        refine e_iald iX7_event_86 rfl (ev_at h c8).1 ?_
        exact e_iret iX7_event_87 rfl ⟨by simp [pEvent, c8, e1], by simp [pEvent, c8, e1]⟩
      | 4, hj =>
        cases hj
        have e1 : w.toInt = 4 := hx
        refine z_aload iX7_event_88 rfl ?_
        refine e_getR iX7_event_89 fX7_21 rfl ?_
        refine e_getR iX7_event_92 fX7_256 rfl ?_
        refine z_iload iX7_event_95 rfl ?_
        refine e_bald iX7_event_96 rfl (ev_at h c8).1 ?_
        refine z_if_eq iX7_event_97 (fun c97 => ?_) (fun c97 => ?_)
        · refine z_push iX7_event_104 ?_
          exact e_iret iX7_event_105 rfl ⟨by simp [pEvent, c8, c97, e1], by simp [pEvent, c8, c97, e1]⟩
        · refine z_push iX7_event_100 ?_
          refine z_goto iX7_event_101 ?_
          exact e_iret iX7_event_105 rfl ⟨by simp [pEvent, c8, c97, e1], by simp [pEvent, c8, c97, e1]⟩
      | j + 5, hj => simp at hj
    · have n0 : ¬ w.toInt = 0 := by simp at hx; omega
      have n1 : ¬ w.toInt = 1 := by simp at hx; omega
      have n2 : ¬ w.toInt = 2 := by simp at hx; omega
      have n3 : ¬ w.toInt = 3 := by simp at hx; omega
      have n4 : ¬ w.toInt = 4 := by simp at hx; omega
      refine z_push iX7_event_106 ?_
      exact e_iret iX7_event_108 rfl ⟨by simp [pEvent, c8, n0, n1, n2, n3, n4], by simp [pEvent, c8, n0, n1, n2, n3, n4]⟩
  · rw [zb_0] at c8
    refine z_push iX7_event_11 ?_
    exact e_iret iX7_event_13 rfl ⟨by simp [pEvent, c8], by simp [pEvent, c8]⟩

def pFailure (F : zFt) (i w : Int32) : Int32 × zFt := if cNo i (F 29 1) = false then (-101, F) else if w < 0 then (-102, F) else if w < 6 then (F 30 (zn (i * 6 + w)), F) else (-102, F)
theorem ix6w {i w : Int32} (hi : vp_in i 200) (h0 : ¬ w < 0) (h6 : w < 6) : vp_in (i * 6 + w) 1200 := by
  obtain ⟨j, hj, rfl⟩ := vin_of hi
  rw [Int32.lt_iff_toInt_lt] at h0 h6
  simp at h0 h6
  have e := nI_zn h0
  have e2 := zn_int h0
  rw [← e, nI_m6, nI_add]
  exact vin_mk (by omega)

set_option maxRecDepth 100000 in
theorem tX7_failure {L : Nat} (F : zFt) (i : Int32) (w : Int32) : zFn mX7_failure 1 [.ref 2, .int i, .int w] L F (some (.int (pFailure F i w).1)) (pFailure F i w).2 := by
  refine e_of (lo := [some (.ref 2), some (.int i), some (.int w)]) (by decide +kernel) (Nat.le_of_ble_eq_true rfl) rfl ?_
  refine z_aload iX7_failure_0 rfl ?_
  refine e_getR iX7_failure_1 fX7_44 rfl ?_
  refine z_iload iX7_failure_4 rfl ?_
  refine e_callV iX7_failure_5 kX7_273 (tX0_isNoted F i) rfl rfl rfl ⟨Nat.le_of_ble_eq_true rfl, Nat.le_of_ble_eq_true rfl⟩ ⟨Nat.le_of_ble_eq_true rfl, Nat.le_of_ble_eq_true rfl⟩ (Nat.le_of_ble_eq_true rfl) ?_
  dsimp only [Option.toList, List.cons_append, List.nil_append]
  refine z_if_ne iX7_failure_8 (fun c8 => ?_) (fun c8 => ?_)
  · rw [zb_n] at c8
    refine z_iload iX7_failure_14 rfl ?_
    refine z_if_lt iX7_failure_15 (fun c15 => ?_) (fun c15 => ?_)
    · refine z_push iX7_failure_24 ?_
      exact e_iret iX7_failure_26 rfl ⟨by simp [pFailure, c8, c15], by simp [pFailure, c8, c15]⟩
    · refine z_iload iX7_failure_18 rfl ?_
      refine z_push iX7_failure_19 ?_
      refine z_icmp_lt iX7_failure_21 (fun c21 => ?_) (fun c21 => ?_)
      · refine z_aload iX7_failure_27 rfl ?_
        refine e_getR iX7_failure_28 fX7_44 rfl ?_
        refine e_getR iX7_failure_31 fX7_276 rfl ?_
        refine z_iload iX7_failure_34 rfl ?_
        refine z_push iX7_failure_35 ?_
        refine z_imul iX7_failure_37 ?_
        refine z_iload iX7_failure_38 rfl ?_
        refine z_iadd iX7_failure_39 ?_
        refine e_iald iX7_failure_40 rfl (ix6w (cNo_in c8) c15 c21) ?_
        exact e_iret iX7_failure_41 rfl ⟨by simp [pFailure, c8, c15, c21], by simp [pFailure, c8, c15, c21]⟩
      · refine z_push iX7_failure_24 ?_
        exact e_iret iX7_failure_26 rfl ⟨by simp [pFailure, c8, c15, c21], by simp [pFailure, c8, c15, c21]⟩
  · rw [zb_0] at c8
    refine z_push iX7_failure_11 ?_
    exact e_iret iX7_failure_13 rfl ⟨by simp [pFailure, c8], by simp [pFailure, c8]⟩

def pIs (F : zFt) (a b : Int32) : Int32 × zFt := if zin a 12 = false then (-102, F) else if zin b 12 = false then (-102, F) else if zik b 3 a = false then (0, F) else (1, F)

set_option maxRecDepth 100000 in
theorem tX7_is {L : Nat} (F : zFt) (a : Int32) (b : Int32) : zFn mX7_is 1 [.ref 2, .int a, .int b] L F (some (.int (pIs F a b).1)) (pIs F a b).2 := by
  refine e_of (lo := [some (.ref 2), some (.int a), some (.int b)]) (by decide +kernel) (Nat.le_of_ble_eq_true rfl) rfl ?_
  refine z_iload iX7_is_0 rfl ?_
  refine e_callS iX7_is_1 kX7_192 (tX7_isKind F _) rfl rfl ⟨Nat.le_of_ble_eq_true rfl, Nat.le_of_ble_eq_true rfl⟩ ⟨Nat.le_of_ble_eq_true rfl, Nat.le_of_ble_eq_true rfl⟩ (Nat.le_of_ble_eq_true rfl) ?_
  dsimp only [Option.toList, List.cons_append, List.nil_append]
  refine z_if_eq iX7_is_4 (fun c4 => ?_) (fun c4 => ?_)
  · rw [zb_0] at c4
    refine z_push iX7_is_14 ?_
    exact e_iret iX7_is_16 rfl ⟨by simp [pIs, c4], by simp [pIs, c4]⟩
  · rw [zb_n] at c4
    refine z_iload iX7_is_7 rfl ?_
    refine e_callS iX7_is_8 kX7_192 (tX7_isKind F _) rfl rfl ⟨Nat.le_of_ble_eq_true rfl, Nat.le_of_ble_eq_true rfl⟩ ⟨Nat.le_of_ble_eq_true rfl, Nat.le_of_ble_eq_true rfl⟩ (Nat.le_of_ble_eq_true rfl) ?_
    dsimp only [Option.toList, List.cons_append, List.nil_append]
    refine z_if_ne iX7_is_11 (fun c11 => ?_) (fun c11 => ?_)
    · rw [zb_n] at c11
      refine z_iload iX7_is_17 rfl ?_
      refine z_iload iX7_is_18 rfl ?_
      refine e_callS iX7_is_19 kX7_279 (tX7_isOfKind F a b (zin_16 c4 (by decide))) rfl rfl ⟨Nat.le_of_ble_eq_true rfl, Nat.le_of_ble_eq_true rfl⟩ ⟨Nat.le_of_ble_eq_true rfl, Nat.le_of_ble_eq_true rfl⟩ (Nat.le_of_ble_eq_true rfl) ?_
      dsimp only [Option.toList, List.cons_append, List.nil_append]
      refine z_if_eq iX7_is_22 (fun c22 => ?_) (fun c22 => ?_)
      · rw [zb_0] at c22
        refine z_push iX7_is_29 ?_
        exact e_iret iX7_is_30 rfl ⟨by simp [pIs, c4, c11, c22], by simp [pIs, c4, c11, c22]⟩
      · rw [zb_n] at c22
        refine z_push iX7_is_25 ?_
        refine z_goto iX7_is_26 ?_
        exact e_iret iX7_is_30 rfl ⟨by simp [pIs, c4, c11, c22], by simp [pIs, c4, c11, c22]⟩
    · rw [zb_0] at c11
      refine z_push iX7_is_14 ?_
      exact e_iret iX7_is_16 rfl ⟨by simp [pIs, c4, c11], by simp [pIs, c4, c11]⟩

abbrev cUn (F : zFt) : zFt := if (F 2 10).toInt = 1 then cKt F (F 2 11) else if (F 2 10).toInt = 2 then zup F 7 (zn (F 2 11)) (F 2 12) else zup (cSc F (zn (F 2 11)) 1) 7 (zn (F 10 (zn (F 14 (zn (F 2 11)))))) (F 2 12)
def pUndo (F : zFt) : Int32 × zFt := if 0 < F 2 7 then (-103, F) else if F 2 10 = 0 then (-103, F) else (1, zup (cUn F) 2 10 0)
theorem st_0 {F : zFt} (h : CI F) (h0 : ¬ 0 < F 2 7) : zn (F 2 7) = 0 ∧ bsE F = zn (F 11 6) := by
  have h1 := vin_0 h.2.2.2.2.2.2.1
  rw [Int32.lt_iff_toInt_lt] at h0
  simp at h0
  have h2 := zn_int h1
  have h3 : zn (F 2 7) = 0 := by omega
  exact ⟨h3, by rw [bsE, if_pos h3]⟩
theorem un_3 {F : zFt} (h : CI F) (h1 : ¬ F 2 10 = 0) (h2 : (F 2 10).toInt ≠ 1) (h3 : (F 2 10).toInt ≠ 2) : F 2 10 = 3 := by
  rcases h.2.2.2.2.2.2.2.2.1 with q | q | q | q
  · exact absurd q h1
  · exact absurd (by rw [q]; decide) h2
  · exact absurd (by rw [q]; decide) h3
  · exact q
theorem un_i {x : Int32} {n : Int} (h : x.toInt = n) (m : Int32) (hm : m.toInt = n) : x = m := by rw [tI_eq, h, hm]

set_option maxRecDepth 100000 in
theorem tX7_undo {L : Nat} (F : zFt) (h : CI F) : zFn mX7_undo 3 [.ref 2] L F (some (.int (pUndo F).1)) (pUndo F).2 := by
  refine e_of (lo := [some (.ref 2)]) (by decide +kernel) (Nat.le_of_ble_eq_true rfl) rfl ?_
  refine z_aload iX7_undo_0 rfl ?_
  refine e_getI iX7_undo_1 fX7_61 rfl ?_
  refine z_if_gt iX7_undo_4 (fun c4 => ?_) (fun c4 => ?_)
  · refine z_push iX7_undo_14 ?_
    exact e_iret iX7_undo_16 rfl ⟨by simp [pUndo, c4], by simp [pUndo, c4]⟩
  · refine z_aload iX7_undo_7 rfl ?_
    refine e_getI iX7_undo_8 fX7_71 rfl ?_
    refine z_if_ne iX7_undo_11 (fun c11 => ?_) (fun c11 => ?_)
    · refine z_aload iX7_undo_17 rfl ?_
      refine e_getI iX7_undo_18 fX7_71 rfl ?_
      refine z_lsw iX7_undo_21 (fun hx => ?_) (fun hx => ?_) (fun hx hy => ?_)
      · have hu := h.2.2.2.2.2.2.2.2.2.2.1 (un_i hx 1 (by decide))
        rw [(st_0 h c4).2] at hu
        refine z_aload iX7_undo_48 rfl ?_
        refine e_getR iX7_undo_49 fX7_21 rfl ?_
        refine z_aload iX7_undo_52 rfl ?_
        refine e_getI iX7_undo_53 fX7_74 rfl ?_
        refine e_callV iX7_undo_56 kX7_185 (tX5_cutTo F (F 2 11) (CI_okV h).1 (CI_okV h).2.1 hu.1 hu.2 (CI_okV h).2.2) rfl rfl rfl ⟨Nat.le_of_ble_eq_true rfl, Nat.le_of_ble_eq_true rfl⟩ ⟨Nat.le_of_ble_eq_true rfl, Nat.le_of_ble_eq_true rfl⟩ (Nat.le_of_ble_eq_true rfl) ?_
        dsimp only [Option.toList, List.cons_append, List.nil_append]
        refine z_goto iX7_undo_59 ?_
        refine z_aload iX7_undo_125 rfl ?_
        refine z_push iX7_undo_126 ?_
        refine e_putI iX7_undo_127 fX7_71 fw7_10 rfl ?_
        refine z_push iX7_undo_130 ?_
        exact e_iret iX7_undo_131 rfl ⟨by simp [pUndo, c4, c11], by simp [pUndo, cUn, c4, c11, hx]⟩
      · have hu := h.2.2.2.2.2.2.2.2.2.2.2.1 (un_i hx 2 (by decide))
        refine z_aload iX7_undo_62 rfl ?_
        refine e_getR iX7_undo_63 fX7_12 rfl ?_
        refine e_getR iX7_undo_66 fX7_93 rfl ?_
        refine z_aload iX7_undo_69 rfl ?_
        refine e_getI iX7_undo_70 fX7_74 rfl ?_
        refine z_aload iX7_undo_73 rfl ?_
        refine e_getI iX7_undo_74 fX7_77 rfl ?_
        refine e_bast iX7_undo_77 rfl (sh_cl h.1 hu) h.2.2.2.2.2.2.2.2.2.1 ?_
        refine z_goto iX7_undo_78 ?_
        refine z_aload iX7_undo_125 rfl ?_
        refine z_push iX7_undo_126 ?_
        refine e_putI iX7_undo_127 fX7_71 fw7_10 rfl ?_
        refine z_push iX7_undo_130 ?_
        exact e_iret iX7_undo_131 rfl ⟨by simp [pUndo, c4, c11], by simp [pUndo, cUn, c4, c11, hx]⟩
      · have hu := h.2.2.2.2.2.2.2.2.2.2.2.2 (un_3 h c11 hx hy)
        rw [(st_0 h c4).2] at hu
        have hv : vp_in (F 2 11) 400 ∧ evOk F (zn (F 2 11)) := ⟨vin_le hu (vin_le1 h.2.2.2.2.1), h.2.2.2.2.2.1 _ (vin_zn hu)⟩
        refine z_aload iX7_undo_81 rfl ?_
        refine e_getR iX7_undo_82 fX7_21 rfl ?_
        refine z_aload iX7_undo_85 rfl ?_
        refine e_getI iX7_undo_86 fX7_74 rfl ?_
        refine z_push iX7_undo_89 ?_
        refine e_callV iX7_undo_90 kX7_261 (tX5_setCounting F (F 2 11) 1 hv.1 (Or.inr rfl) (ev_okE h.1 hv.2)) rfl rfl rfl ⟨Nat.le_of_ble_eq_true rfl, Nat.le_of_ble_eq_true rfl⟩ ⟨Nat.le_of_ble_eq_true rfl, Nat.le_of_ble_eq_true rfl⟩ (Nat.le_of_ble_eq_true rfl) ?_
        dsimp only [Option.toList, List.cons_append, List.nil_append]
        refine z_aload iX7_undo_93 rfl ?_
        refine e_getR iX7_undo_94 fX7_12 rfl ?_
        refine e_getR iX7_undo_97 fX7_93 rfl ?_
        refine z_aload iX7_undo_100 rfl ?_
        refine e_getR iX7_undo_101 fX7_12 rfl ?_
        refine e_getR iX7_undo_104 fX7_134 rfl ?_
        refine z_aload iX7_undo_107 rfl ?_
        refine e_getR iX7_undo_108 fX7_21 rfl ?_
        refine e_getR iX7_undo_111 fX7_259 rfl ?_
        refine z_aload iX7_undo_114 rfl ?_
        refine e_getI iX7_undo_115 fX7_74 rfl ?_
        rw [cSc_ne F _ _ (by decide) (by decide) (by decide) (by decide)]
        refine e_iald iX7_undo_118 rfl hv.1 ?_
        rw [cSc_ne F _ _ (by decide) (by decide) (by decide) (by decide)]
        refine e_iald iX7_undo_119 rfl (sh_en h.1 hv.2.2.1) ?_
        rw [cSc_ne F _ _ (by decide) (by decide) (by decide) (by decide)]
        refine z_aload iX7_undo_120 rfl ?_
        refine e_getI iX7_undo_121 fX7_77 rfl ?_
        rw [cSc_ne F _ _ (by decide) (by decide) (by decide) (by decide)]
        refine e_bast iX7_undo_124 rfl (sh_ec h.1 hv.2.2.1) h.2.2.2.2.2.2.2.2.2.1 ?_
        refine z_aload iX7_undo_125 rfl ?_
        refine z_push iX7_undo_126 ?_
        refine e_putI iX7_undo_127 fX7_71 fw7_10 rfl ?_
        refine z_push iX7_undo_130 ?_
        exact e_iret iX7_undo_131 rfl ⟨by simp [pUndo, c4, c11], by simp [pUndo, cUn, c4, c11, hx, hy]⟩
    · refine z_push iX7_undo_14 ?_
      exact e_iret iX7_undo_16 rfl ⟨by simp [pUndo, c4, c11], by simp [pUndo, c4, c11]⟩

def pCount (F : zFt) (w : Int32) : Int32 × zFt := if w.toInt = 0 then (F 3 7, F) else if w.toInt = 1 then (F 3 9, F) else if w.toInt = 2 then (F 3 8, F) else if w.toInt = 3 then (F 25 3, F) else if w.toInt = 4 then (F 31 2, F) else if w.toInt = 5 then (F 11 6, F) else if w.toInt = 6 then (F 2 8, F) else if w.toInt = 7 then (F 29 1, F) else if w.toInt = 8 then (F 2 9, F) else if w.toInt = 9 then (F 31 3, F) else (-102, F)

set_option maxRecDepth 100000 in
theorem tX7_count {L : Nat} (F : zFt) (w : Int32) : zFn mX7_count 0 [.ref 2, .int w] L F (some (.int (pCount F w).1)) (pCount F w).2 := by
  refine e_of (lo := [some (.ref 2), some (.int w)]) (by decide +kernel) (Nat.le_of_ble_eq_true rfl) rfl ?_
  refine z_iload iX7_count_0 rfl ?_
  refine z_tsw iX7_count_1 (fun j t hj hx => ?_) (fun hx => ?_)
  · match j, hj with
    | 0, hj =>
      cases hj
      have e1 : w.toInt = 0 := hx
      refine z_aload iX7_count_56 rfl ?_
      refine e_getR iX7_count_57 fX7_12 rfl ?_
      refine e_getI iX7_count_60 fX7_82 rfl ?_
      exact e_iret iX7_count_63 rfl ⟨by simp [pCount, e1], by simp [pCount, e1]⟩
    | 1, hj =>
      cases hj
      have e1 : w.toInt = 1 := hx
      refine z_aload iX7_count_64 rfl ?_
      refine e_getR iX7_count_65 fX7_12 rfl ?_
      refine e_getI iX7_count_68 fX7_97 rfl ?_
      exact e_iret iX7_count_71 rfl ⟨by simp [pCount, e1], by simp [pCount, e1]⟩
    | 2, hj =>
      cases hj
      have e1 : w.toInt = 2 := hx
      refine z_aload iX7_count_72 rfl ?_
      refine e_getR iX7_count_73 fX7_12 rfl ?_
      refine e_getI iX7_count_76 fX7_283 rfl ?_
      exact e_iret iX7_count_79 rfl ⟨by simp [pCount, e1], by simp [pCount, e1]⟩
    | 3, hj =>
      cases hj
      have e1 : w.toInt = 3 := hx
      refine z_aload iX7_count_80 rfl ?_
      refine e_getR iX7_count_81 fX7_37 rfl ?_
      refine e_getI iX7_count_84 fX7_114 rfl ?_
      exact e_iret iX7_count_87 rfl ⟨by simp [pCount, e1], by simp [pCount, e1]⟩
    | 4, hj =>
      cases hj
      have e1 : w.toInt = 4 := hx
      refine z_aload iX7_count_88 rfl ?_
      refine e_getR iX7_count_89 fX7_51 rfl ?_
      refine e_getI iX7_count_92 fX7_121 rfl ?_
      exact e_iret iX7_count_95 rfl ⟨by simp [pCount, e1], by simp [pCount, e1]⟩
    | 5, hj =>
      cases hj
      have e1 : w.toInt = 5 := hx
      refine z_aload iX7_count_96 rfl ?_
      refine e_getR iX7_count_97 fX7_21 rfl ?_
      refine e_getI iX7_count_100 fX7_137 rfl ?_
      exact e_iret iX7_count_103 rfl ⟨by simp [pCount, e1], by simp [pCount, e1]⟩
    | 6, hj =>
      cases hj
      have e1 : w.toInt = 6 := hx
      refine z_aload iX7_count_104 rfl ?_
      refine e_getI iX7_count_105 fX7_65 rfl ?_
      exact e_iret iX7_count_108 rfl ⟨by simp [pCount, e1], by simp [pCount, e1]⟩
    | 7, hj =>
      cases hj
      have e1 : w.toInt = 7 := hx
      refine z_aload iX7_count_109 rfl ?_
      refine e_getR iX7_count_110 fX7_44 rfl ?_
      refine e_getI iX7_count_113 fX7_286 rfl ?_
      exact e_iret iX7_count_116 rfl ⟨by simp [pCount, e1], by simp [pCount, e1]⟩
    | 8, hj =>
      cases hj
      have e1 : w.toInt = 8 := hx
      refine z_aload iX7_count_117 rfl ?_
      refine e_getI iX7_count_118 fX7_68 rfl ?_
      exact e_iret iX7_count_121 rfl ⟨by simp [pCount, e1], by simp [pCount, e1]⟩
    | 9, hj =>
      cases hj
      have e1 : w.toInt = 9 := hx
      refine z_aload iX7_count_122 rfl ?_
      refine e_getR iX7_count_123 fX7_51 rfl ?_
      refine e_getI iX7_count_126 fX7_289 rfl ?_
      exact e_iret iX7_count_129 rfl ⟨by simp [pCount, e1], by simp [pCount, e1]⟩
    | j + 10, hj => simp at hj
  · have n0 : ¬ w.toInt = 0 := by simp at hx; omega
    have n1 : ¬ w.toInt = 1 := by simp at hx; omega
    have n2 : ¬ w.toInt = 2 := by simp at hx; omega
    have n3 : ¬ w.toInt = 3 := by simp at hx; omega
    have n4 : ¬ w.toInt = 4 := by simp at hx; omega
    have n5 : ¬ w.toInt = 5 := by simp at hx; omega
    have n6 : ¬ w.toInt = 6 := by simp at hx; omega
    have n7 : ¬ w.toInt = 7 := by simp at hx; omega
    have n8 : ¬ w.toInt = 8 := by simp at hx; omega
    have n9 : ¬ w.toInt = 9 := by simp at hx; omega
    refine z_push iX7_count_130 ?_
    exact e_iret iX7_count_132 rfl ⟨by simp [pCount, n0, n1, n2, n3, n4, n5, n6, n7, n8, n9], by simp [pCount, n0, n1, n2, n3, n4, n5, n6, n7, n8, n9]⟩
