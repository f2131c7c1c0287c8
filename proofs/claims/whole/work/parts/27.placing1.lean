def zfd (x y : Int32) : Int32 := if 0 ≤ x ^^^ y then x / y else if x / y * y = x then x / y else x / y - 1
def zfm (x y : Int32) : Int32 := if 0 ≤ x ^^^ y then x - x / y * y else if x - x / y * y = 0 then x - x / y * y else x - x / y * y + y
def zne (x y : Int32) : Int32 := if 1 ≤ y then (if y < 2 * zfm x y then zfd x y + 1 else if ¬ 2 * zfm x y = y then zfd x y else if zfd x y - zfd x y / 2 * 2 = 0 then zfd x y else zfd x y + 1) else x
abbrev zus (x k : Int32) : Int32 := (x.toUInt32 >>> (k.toUInt32 &&& Int32.toUInt32 31)).toInt32
def zbc1 (x : Int32) : Int32 := x - (zus x 1 &&& 1431655765)
def zbc2 (x : Int32) : Int32 := (x &&& 858993459) + (zus x 2 &&& 858993459)
def zbc3 (x : Int32) : Int32 := (x + zus x 4) &&& 252645135
def zbc (x : Int32) : Int32 :=
  let y := zbc3 (zbc2 (zbc1 x))
  let z := y + zus y 8
  (z + zus z 16) &&& 63

set_option maxRecDepth 100000 in
theorem tJ9_floorDiv_7cf53 {L : Nat} (F : zFt) (x : Int32) (y : Int32) (h : ¬ y = 0) : zFn mJ9_floorDiv_7cf53 0 [.int x, .int y] L F (some (.int (zfd x y))) F := by
  refine e_of (lo := [some (.int x), some (.int y), none]) (by decide +kernel) (Nat.le_of_ble_eq_true rfl) rfl ?_
  refine z_iload iJ9_floorDiv_7cf53_0 rfl ?_
  refine z_iload iJ9_floorDiv_7cf53_1 rfl ?_
  refine z_idiv iJ9_floorDiv_7cf53_2 (by assumption) ?_
  refine z_istore iJ9_floorDiv_7cf53_3 rfl ?_
  dsimp only [List.set_cons_zero, List.set_cons_succ]
  refine z_iload iJ9_floorDiv_7cf53_4 rfl ?_
  refine z_iload iJ9_floorDiv_7cf53_5 rfl ?_
  refine z_ixor iJ9_floorDiv_7cf53_6 ?_
  refine z_if_ge iJ9_floorDiv_7cf53_7 (fun c7 => ?_) (fun c7 => ?_)
  · refine z_iload iJ9_floorDiv_7cf53_21 rfl ?_
    exact e_iret iJ9_floorDiv_7cf53_22 rfl ⟨by rw [zfd, if_pos c7], rfl⟩
  · refine z_iload iJ9_floorDiv_7cf53_10 rfl ?_
    refine z_iload iJ9_floorDiv_7cf53_11 rfl ?_
    refine z_imul iJ9_floorDiv_7cf53_12 ?_
    refine z_iload iJ9_floorDiv_7cf53_13 rfl ?_
    refine z_icmp_eq iJ9_floorDiv_7cf53_14 (fun c14 => ?_) (fun c14 => ?_)
    · refine z_iload iJ9_floorDiv_7cf53_21 rfl ?_
      exact e_iret iJ9_floorDiv_7cf53_22 rfl ⟨by rw [zfd, if_neg c7, if_pos c14], rfl⟩
    · refine z_iload iJ9_floorDiv_7cf53_17 rfl ?_
      refine z_push iJ9_floorDiv_7cf53_18 ?_
      refine z_isub iJ9_floorDiv_7cf53_19 ?_
      exact e_iret iJ9_floorDiv_7cf53_20 rfl ⟨by rw [zfd, if_neg c7, if_neg c14], rfl⟩

set_option maxRecDepth 100000 in
theorem tJ9_floorMod_7cf53 {L : Nat} (F : zFt) (x : Int32) (y : Int32) (h : ¬ y = 0) : zFn mJ9_floorMod_7cf53 0 [.int x, .int y] L F (some (.int (zfm x y))) F := by
  refine e_of (lo := [some (.int x), some (.int y), none]) (by decide +kernel) (Nat.le_of_ble_eq_true rfl) rfl ?_
  refine z_iload iJ9_floorMod_7cf53_0 rfl ?_
  refine z_iload iJ9_floorMod_7cf53_1 rfl ?_
  refine z_irem iJ9_floorMod_7cf53_2 (by assumption) ?_
  refine z_istore iJ9_floorMod_7cf53_3 rfl ?_
  dsimp only [List.set_cons_zero, List.set_cons_succ]
  refine z_iload iJ9_floorMod_7cf53_4 rfl ?_
  refine z_iload iJ9_floorMod_7cf53_5 rfl ?_
  refine z_ixor iJ9_floorMod_7cf53_6 ?_
  refine z_if_ge iJ9_floorMod_7cf53_7 (fun c7 => ?_) (fun c7 => ?_)
  · refine z_iload iJ9_floorMod_7cf53_18 rfl ?_
    exact e_iret iJ9_floorMod_7cf53_19 rfl ⟨by rw [zfm, if_pos c7], rfl⟩
  · refine z_iload iJ9_floorMod_7cf53_10 rfl ?_
    refine z_if_eq iJ9_floorMod_7cf53_11 (fun c11 => ?_) (fun c11 => ?_)
    · refine z_iload iJ9_floorMod_7cf53_18 rfl ?_
      exact e_iret iJ9_floorMod_7cf53_19 rfl ⟨by rw [zfm, if_neg c7, if_pos c11], rfl⟩
    · refine z_iload iJ9_floorMod_7cf53_14 rfl ?_
      refine z_iload iJ9_floorMod_7cf53_15 rfl ?_
      refine z_iadd iJ9_floorMod_7cf53_16 ?_
      exact e_iret iJ9_floorMod_7cf53_17 rfl ⟨by rw [zfm, if_neg c7, if_neg c11], rfl⟩

set_option maxRecDepth 100000 in
theorem tJ6_bitCount_0f7a4 {L : Nat} (F : zFt) (x : Int32) : zFn mJ6_bitCount_0f7a4 0 [.int x] L F (some (.int (zbc x))) F := by
  refine e_of (lo := [some (.int x)]) (by decide +kernel) (Nat.le_of_ble_eq_true rfl) rfl ?_
  refine z_iload iJ6_bitCount_0f7a4_0 rfl ?_
  refine z_iload iJ6_bitCount_0f7a4_1 rfl ?_
  refine z_push iJ6_bitCount_0f7a4_2 ?_
  refine z_iushr iJ6_bitCount_0f7a4_3 ?_
  refine z_push iJ6_bitCount_0f7a4_4 ?_
  refine z_iand iJ6_bitCount_0f7a4_7 ?_
  refine z_isub iJ6_bitCount_0f7a4_8 ?_
  refine z_istore iJ6_bitCount_0f7a4_9 rfl ?_
  dsimp only [List.set_cons_zero, List.set_cons_succ]
  refine z_iload iJ6_bitCount_0f7a4_10 rfl ?_
  refine z_push iJ6_bitCount_0f7a4_11 ?_
  refine z_iand iJ6_bitCount_0f7a4_14 ?_
  refine z_iload iJ6_bitCount_0f7a4_15 rfl ?_
  refine z_push iJ6_bitCount_0f7a4_16 ?_
  refine z_iushr iJ6_bitCount_0f7a4_17 ?_
  refine z_push iJ6_bitCount_0f7a4_18 ?_
  refine z_iand iJ6_bitCount_0f7a4_21 ?_
  refine z_iadd iJ6_bitCount_0f7a4_22 ?_
  refine z_istore iJ6_bitCount_0f7a4_23 rfl ?_
  dsimp only [List.set_cons_zero, List.set_cons_succ]
  refine z_iload iJ6_bitCount_0f7a4_24 rfl ?_
  refine z_iload iJ6_bitCount_0f7a4_25 rfl ?_
  refine z_push iJ6_bitCount_0f7a4_26 ?_
  refine z_iushr iJ6_bitCount_0f7a4_27 ?_
  refine z_iadd iJ6_bitCount_0f7a4_28 ?_
  refine z_push iJ6_bitCount_0f7a4_29 ?_
  refine z_iand iJ6_bitCount_0f7a4_32 ?_
  refine z_istore iJ6_bitCount_0f7a4_33 rfl ?_
  dsimp only [List.set_cons_zero, List.set_cons_succ]
  refine z_iload iJ6_bitCount_0f7a4_34 rfl ?_
  refine z_iload iJ6_bitCount_0f7a4_35 rfl ?_
  refine z_push iJ6_bitCount_0f7a4_36 ?_
  refine z_iushr iJ6_bitCount_0f7a4_38 ?_
  refine z_iadd iJ6_bitCount_0f7a4_39 ?_
  refine z_istore iJ6_bitCount_0f7a4_40 rfl ?_
  dsimp only [List.set_cons_zero, List.set_cons_succ]
  refine z_iload iJ6_bitCount_0f7a4_41 rfl ?_
  refine z_iload iJ6_bitCount_0f7a4_42 rfl ?_
  refine z_push iJ6_bitCount_0f7a4_43 ?_
  refine z_iushr iJ6_bitCount_0f7a4_45 ?_
  refine z_iadd iJ6_bitCount_0f7a4_46 ?_
  refine z_istore iJ6_bitCount_0f7a4_47 rfl ?_
  dsimp only [List.set_cons_zero, List.set_cons_succ]
  refine z_iload iJ6_bitCount_0f7a4_48 rfl ?_
  refine z_push iJ6_bitCount_0f7a4_49 ?_
  refine z_iand iJ6_bitCount_0f7a4_51 ?_
  exact e_iret iJ6_bitCount_0f7a4_52 rfl ⟨rfl, rfl⟩

set_option maxRecDepth 100000 in
theorem tX2_nearest {L : Nat} (F : zFt) (x : Int32) (y : Int32) : zFn mX2_nearest 1 [.int x, .int y] L F (some (.int (zne x y))) F := by
  refine e_of (lo := [some (.int x), some (.int y), none, none, none]) (by decide +kernel) (Nat.le_of_ble_eq_true rfl) rfl ?_
  refine z_iload iX2_nearest_0 rfl ?_
  refine z_push iX2_nearest_1 ?_
  refine z_icmp_ge iX2_nearest_2 (fun c2 => ?_) (fun c2 => ?_)
  · have h0 : ¬ y = 0 := fun h => by rw [h] at c2; exact absurd c2 (by decide)
    refine z_iload iX2_nearest_7 rfl ?_
    refine z_iload iX2_nearest_8 rfl ?_
    refine e_callS iX2_nearest_9 kX2_77 (tJ9_floorDiv_7cf53 F x y h0) rfl rfl ⟨Nat.le_of_ble_eq_true rfl, Nat.le_of_ble_eq_true rfl⟩ ⟨Nat.le_of_ble_eq_true rfl, Nat.le_of_ble_eq_true rfl⟩ (Nat.le_of_ble_eq_true rfl) ?_
    dsimp only [Option.toList, List.cons_append, List.nil_append]
    refine z_istore iX2_nearest_12 rfl ?_
    dsimp only [List.set_cons_zero, List.set_cons_succ]
    refine z_push iX2_nearest_13 ?_
    refine z_iload iX2_nearest_14 rfl ?_
    refine z_iload iX2_nearest_15 rfl ?_
    refine e_callS iX2_nearest_16 kX2_80 (tJ9_floorMod_7cf53 F x y h0) rfl rfl ⟨Nat.le_of_ble_eq_true rfl, Nat.le_of_ble_eq_true rfl⟩ ⟨Nat.le_of_ble_eq_true rfl, Nat.le_of_ble_eq_true rfl⟩ (Nat.le_of_ble_eq_true rfl) ?_
    dsimp only [Option.toList, List.cons_append, List.nil_append]
    refine z_imul iX2_nearest_19 ?_
    refine z_istore iX2_nearest_20 rfl ?_
    dsimp only [List.set_cons_zero, List.set_cons_succ]
    refine z_iload iX2_nearest_21 rfl ?_
    refine z_iload iX2_nearest_22 rfl ?_
    refine z_icmp_gt iX2_nearest_23 (fun c23 => ?_) (fun c23 => ?_)
    · refine z_push iX2_nearest_37 ?_
      refine z_goto iX2_nearest_38 ?_
      refine z_istore iX2_nearest_42 rfl ?_
      dsimp only [List.set_cons_zero, List.set_cons_succ]
      refine z_iload iX2_nearest_44 rfl ?_
      refine z_if_eq iX2_nearest_46 (fun c46 => ?_) (fun c46 => ?_)
      · exact absurd c46 (by decide)
      · refine z_iload iX2_nearest_49 rfl ?_
        refine z_push iX2_nearest_50 ?_
        refine z_iadd iX2_nearest_51 ?_
        refine z_goto iX2_nearest_52 ?_
        exact e_iret iX2_nearest_56 rfl ⟨by rw [zne, if_pos c2, if_pos c23], rfl⟩
    · refine z_iload iX2_nearest_26 rfl ?_
      refine z_iload iX2_nearest_27 rfl ?_
      refine z_icmp_ne iX2_nearest_28 (fun c28 => ?_) (fun c28 => ?_)
      · refine z_push iX2_nearest_41 ?_
        refine z_istore iX2_nearest_42 rfl ?_
        dsimp only [List.set_cons_zero, List.set_cons_succ]
        refine z_iload iX2_nearest_44 rfl ?_
        refine z_if_eq iX2_nearest_46 (fun c46 => ?_) (fun c46 => ?_)
        · refine z_iload iX2_nearest_55 rfl ?_
          exact e_iret iX2_nearest_56 rfl ⟨by rw [zne, if_pos c2, if_neg c23, if_pos c28], rfl⟩
        · exact absurd rfl c46
      · refine z_iload iX2_nearest_31 rfl ?_
        refine z_push iX2_nearest_32 ?_
        refine z_irem iX2_nearest_33 (by decide) ?_
        refine z_if_eq iX2_nearest_34 (fun c34 => ?_) (fun c34 => ?_)
        · refine z_push iX2_nearest_41 ?_
          refine z_istore iX2_nearest_42 rfl ?_
          dsimp only [List.set_cons_zero, List.set_cons_succ]
          refine z_iload iX2_nearest_44 rfl ?_
          refine z_if_eq iX2_nearest_46 (fun c46 => ?_) (fun c46 => ?_)
          · refine z_iload iX2_nearest_55 rfl ?_
            exact e_iret iX2_nearest_56 rfl ⟨by rw [zne, if_pos c2, if_neg c23, if_neg (not_not_intro c28), if_pos c34], rfl⟩
          · exact absurd rfl c46
        · refine z_push iX2_nearest_37 ?_
          refine z_goto iX2_nearest_38 ?_
          refine z_istore iX2_nearest_42 rfl ?_
          dsimp only [List.set_cons_zero, List.set_cons_succ]
          refine z_iload iX2_nearest_44 rfl ?_
          refine z_if_eq iX2_nearest_46 (fun c46 => ?_) (fun c46 => ?_)
          · exact absurd c46 (by decide)
          · refine z_iload iX2_nearest_49 rfl ?_
            refine z_push iX2_nearest_50 ?_
            refine z_iadd iX2_nearest_51 ?_
            refine z_goto iX2_nearest_52 ?_
            exact e_iret iX2_nearest_56 rfl ⟨by rw [zne, if_pos c2, if_neg c23, if_neg (not_not_intro c28), if_neg c34], rfl⟩
  · refine z_iload iX2_nearest_5 rfl ?_
    exact e_iret iX2_nearest_6 rfl ⟨by rw [zne, if_neg c2], rfl⟩

def zrow (F : zFt) (c : Nat) (f : Nat → Int32) : zFt := fun k i => if k = c then f i else F k i
theorem zrow_ap (F : zFt) (c : Nat) (f : Nat → Int32) (k i : Nat) : zrow F c f k i = if k = c then f i else F k i := rfl
theorem zrow_up (F : zFt) (c : Nat) (f : Nat → Int32) (i : Nat) (x : Int32) : zup (zrow F c f) c i x = zrow F c (upd f i x) := by
  funext k j
  simp only [zup_ap, zrow_ap, upd]
  by_cases h : k = c
  · simp [h]
  · simp [h]
theorem zrow_self (F : zFt) (c : Nat) : zrow F c (F c) = F := by
  funext k i
  rw [zrow_ap]
  split
  · rename_i h; rw [h]
  · rfl
/-- a number is put among the first k in order -/
def zins (m : Int32) : Nat → (Nat → Int32) → (Nat → Int32)
  | 0, f => upd f 0 m
  | k + 1, f => if f k ≤ m then upd f (k + 1) m else zins m k (upd f (k + 1) (f k))
def zsrt (f : Nat → Int32) (g : Nat → Int32) : Nat → (Nat → Int32)
  | 0 => f
  | n + 1 => zins (g n) n (zsrt f g n)

set_option maxRecDepth 100000 in
theorem liX2_sortMarks {L : Nat} {R : Room} {Z : zZt} (F : zFt) (e x y m : Int32) : ∀ (k : Nat) (g : Nat → Int32), k < 5 → (∀ z, zEV mX2_sortMarks R Z 71 [some (.ref 20), some (.int e), some (.int x), some (.int y), some (.int m), some (.int z)] [] 111 (zE L (zrow F 24 (zins m k g))) 0 0) → zEV mX2_sortMarks R Z 21 [some (.ref 20), some (.int e), some (.int x), some (.int y), some (.int m), some (.int (nI k))] [] 111 (zE L (zrow F 24 g)) 0 0 := by
  intro k
  induction k with
  | zero =>
    intro g hk kk
    refine z_iload iX2_sortMarks_21 rfl ?_
    refine z_if_le iX2_sortMarks_23 (fun c23 => ?_) (fun c23 => ?_)
    · refine z_aload iX2_sortMarks_62 rfl ?_
      refine e_getR iX2_sortMarks_63 fX2_21 rfl ?_
      refine z_iload iX2_sortMarks_66 rfl ?_
      refine z_iload iX2_sortMarks_68 rfl ?_
      refine e_iast iX2_sortMarks_70 rfl (vin_mk (n := 5) (a := 0) (by omega)) ?_
      rw [zrow_up]
      exact kk _
    · exact absurd (by decide) c23
  | succ k ih =>
    intro g hk kk
    have e1 : nI (k + 1) - 1 = nI k := nI_pred k
    refine z_iload iX2_sortMarks_21 rfl ?_
    refine z_if_le iX2_sortMarks_23 (fun c23 => ?_) (fun c23 => ?_)
    · exact absurd c23 (nI_nle (by omega) (by omega))
    · refine z_aload iX2_sortMarks_26 rfl ?_
      refine e_getR iX2_sortMarks_27 fX2_21 rfl ?_
      refine z_iload iX2_sortMarks_30 rfl ?_
      refine z_push iX2_sortMarks_32 ?_
      refine z_isub iX2_sortMarks_33 ?_
      refine e_iald iX2_sortMarks_34 rfl (by rw [e1]; exact vin_mk (n := 5) (by omega)) ?_
      try simp only [zrow_ap, Nat.reduceEqDiff, ↓reduceIte]
      rw [e1, zn_nI (by omega)]
      refine z_iload iX2_sortMarks_35 rfl ?_
      refine z_icmp_le iX2_sortMarks_37 (fun c37 => ?_) (fun c37 => ?_)
      · rw [zins, if_pos c37] at kk
        refine z_aload iX2_sortMarks_62 rfl ?_
        refine e_getR iX2_sortMarks_63 fX2_21 rfl ?_
        refine z_iload iX2_sortMarks_66 rfl ?_
        refine z_iload iX2_sortMarks_68 rfl ?_
        refine e_iast iX2_sortMarks_70 rfl (vin_mk (n := 5) (by omega)) ?_
        rw [zn_nI (by omega), zrow_up]
        exact kk _
      · rw [zins, if_neg c37] at kk
        refine z_aload iX2_sortMarks_40 rfl ?_
        refine e_getR iX2_sortMarks_41 fX2_21 rfl ?_
        refine z_iload iX2_sortMarks_44 rfl ?_
        refine z_aload iX2_sortMarks_46 rfl ?_
        refine e_getR iX2_sortMarks_47 fX2_21 rfl ?_
        refine z_iload iX2_sortMarks_50 rfl ?_
        refine z_push iX2_sortMarks_52 ?_
        refine z_isub iX2_sortMarks_53 ?_
        refine e_iald iX2_sortMarks_54 rfl (by rw [e1]; exact vin_mk (n := 5) (by omega)) ?_
        try simp only [zrow_ap, Nat.reduceEqDiff, ↓reduceIte]
        rw [e1, zn_nI (by omega)]
        refine e_iast iX2_sortMarks_55 rfl (vin_mk (n := 5) (by omega)) ?_
        rw [zn_nI (by omega), zrow_up]
        refine z_iinc (v := (-1)) iX2_sortMarks_56 (by decide) (by decide) rfl rfl ?_
        dsimp only [List.set_cons_zero, List.set_cons_succ]
        refine z_goto iX2_sortMarks_59 ?_
        exact z_to (by rw [pk_m1]) rfl (ih _ (by omega) kk)

set_option maxRecDepth 100000 in
theorem lpX2_sortMarks {L : Nat} {Z : zZt} (F : zFt) (e x : Int32) (he : vp_in e 60) (h0 : 0 ≤ x.toInt) (h5 : zn x ≤ 5) (kk : ∀ u v, zEV mX2_sortMarks (zrm 1 0 0) Z 77 [some (.ref 20), some (.int e), some (.int x), some (.int (nI (zn x))), u, v] [] 111 (zE L (zrow F 24 (zsrt (F 24) (cMa F e) (zn x)))) 0 0) : ∀ (n a : Nat) (u v : Option Value), a + n = zn x → zEV mX2_sortMarks (zrm 1 0 0) Z 2 [some (.ref 20), some (.int e), some (.int x), some (.int (nI a)), u, v] [] 111 (zE L (zrow F 24 (zsrt (F 24) (cMa F e) a))) 0 0 := by
  intro n
  induction n with
  | zero =>
    intro a u v ha
    obtain rfl : a = zn x := by omega
    refine z_iload iX2_sortMarks_2 rfl ?_
    refine z_iload iX2_sortMarks_3 rfl ?_
    refine z_icmp_ge iX2_sortMarks_4 (fun c4 => ?_) (fun c4 => ?_)
    · exact kk _ _
    · exact absurd (up_end h0 rfl) c4
  | succ n ih =>
    intro a u v ha
    have hw : zkp [some (.ref 20), some (.int e), some (.int x), some (.int (nI a)), u, v] 4 = true := rfl
    refine z_iload iX2_sortMarks_2 rfl ?_
    refine z_iload iX2_sortMarks_3 rfl ?_
    refine z_icmp_ge iX2_sortMarks_4 (fun c4 => ?_) (fun c4 => ?_)
    · exact absurd c4 (up_in (x := x) (by omega))
    · refine z_aload iX2_sortMarks_7 rfl ?_
      refine e_getR iX2_sortMarks_8 fX2_28 rfl ?_
      refine z_iload iX2_sortMarks_11 rfl ?_
      refine z_iload iX2_sortMarks_12 rfl ?_
      refine e_callV iX2_sortMarks_13 kX2_74 (tX5_markAt (zrow F 24 (zsrt (F 24) (cMa F e) a)) e (nI a) (ix5 he (by omega))) rfl rfl rfl ⟨Nat.le_of_ble_eq_true rfl, Nat.le_of_ble_eq_true rfl⟩ ⟨Nat.le_of_ble_eq_true rfl, Nat.le_of_ble_eq_true rfl⟩ (Nat.le_of_ble_eq_true rfl) ?_
      dsimp only [Option.toList, List.cons_append, List.nil_append]
      try simp only [zrow_ap, Nat.reduceEqDiff, ↓reduceIte]
      refine z_istore iX2_sortMarks_16 rfl ?_
      dsimp only [List.set_cons_zero, List.set_cons_succ]
      refine z_iload iX2_sortMarks_18 rfl ?_
      refine z_istore iX2_sortMarks_19 rfl ?_
      dsimp only [List.set_cons_zero, List.set_cons_succ]
      refine liX2_sortMarks F e x (nI a) _ a _ (by omega) (fun z => ?_)
      refine z_iinc (v := 1) iX2_sortMarks_71 (by decide) (by decide) rfl rfl ?_
      dsimp only [List.set_cons_zero, List.set_cons_succ]
      refine z_goto iX2_sortMarks_74 ?_
      rw [nI_1]
      exact ih (a + 1) _ _ (by omega)

set_option maxRecDepth 100000 in
theorem tX2_sortMarks {L : Nat} (F : zFt) (e : Int32) (x : Int32) (he : vp_in e 60) (h0 : 0 ≤ x.toInt) (h5 : zn x ≤ 5) : zFn mX2_sortMarks 1 [.ref 20, .int e, .int x] L F none (zrow F 24 (zsrt (F 24) (cMa F e) (zn x))) := by
  refine e_of (lo := [some (.ref 20), some (.int e), some (.int x), none, none, none]) (by decide +kernel) (Nat.le_of_ble_eq_true rfl) rfl ?_
  refine z_push iX2_sortMarks_0 ?_
  refine z_istore iX2_sortMarks_1 rfl ?_
  dsimp only [List.set_cons_zero, List.set_cons_succ]
  exact z_to rfl (zrow_self F 24).symm (lpX2_sortMarks F e x he h0 h5 (fun u v => by
      exact e_vret iX2_sortMarks_77 rfl ⟨rfl, rfl⟩) _ 0 none none (Nat.zero_add _))
