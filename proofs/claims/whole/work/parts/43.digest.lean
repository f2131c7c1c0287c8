def zdg (h : Int64) (x : Int32) : Int64 := 31 * h + x.toInt64
def zfl64 (g : Nat → Int64 → Int64) (x : Int64) : Nat → Int64
  | 0 => x
  | n + 1 => g n (zfl64 g x n)
abbrev gD1 (F : zFt) (e : Nat) : Nat → Int64 → Int64 := fun k h => zdg h (cMa F (nI e) k)
abbrev gD2 (F : zFt) : Nat → Int64 → Int64 := fun e h => zdg (zdg (zfl64 (gD1 F e) h (zn (F 6 (zn (F 10 e))))) (F 17 e)) (zfold (gRb F (nI e)) 0 8)
abbrev gD3 (F : zFt) : Nat → Int64 → Int64 := fun i h => zdg (zdg (zdg (zdg (zdg h (F 12 i)) (F 13 i)) (F 14 i)) (F 15 i)) (if F 16 i = 0 then 0 else 1)
abbrev gD4 (F : zFt) : Nat → Int64 → Int64 := fun c h => zdg h (if F 7 c = 0 then 0 else 1)
abbrev gD5 (F : zFt) : Nat → Int32 → Int32 := fun s a => a + F (5 * s + 35) 5

set_option maxRecDepth 100000 in
theorem liX7_digestOfEntries {L : Nat} {Z : zZt} (F : zFt) (x h : Int64) (e : Nat) (he : e < 60) (y : Int32) (hy : 0 ≤ y.toInt) (h5 : zn y ≤ 5) (kk : zEV mX7_digestOfEntries (zrm 1 0 0) Z 72 [some (.ref 2), some (.long x), none, some (.long (zfl64 (gD1 F e) h (zn y))), none, some (.int (nI e)), some (.int y), some (.int (nI (zn y)))] [] 111 (zE L F) 0 0) : ∀ n a : Nat, a + n = zn y → zEV mX7_digestOfEntries (zrm 1 0 0) Z 40 [some (.ref 2), some (.long x), none, some (.long (zfl64 (gD1 F e) h a)), none, some (.int (nI e)), some (.int y), some (.int (nI a))] [] 111 (zE L F) 0 0 := by
  intro n
  induction n with
  | zero =>
    intro a ha
    obtain rfl : a = zn y := by omega
    refine z_iload iX7_digestOfEntries_40 rfl ?_
    refine z_iload iX7_digestOfEntries_42 rfl ?_
    refine z_icmp_ge iX7_digestOfEntries_44 (fun c44 => ?_) (fun c44 => ?_)
    · exact kk
    · exact absurd (up_end hy rfl) c44
  | succ n ih =>
    intro a ha
    refine z_iload iX7_digestOfEntries_40 rfl ?_
    refine z_iload iX7_digestOfEntries_42 rfl ?_
    refine z_icmp_ge iX7_digestOfEntries_44 (fun c44 => ?_) (fun c44 => ?_)
    · exact absurd c44 (up_in (x := y) (by omega))
    · refine z_pushl iX7_digestOfEntries_47 ?_
      refine z_lload iX7_digestOfEntries_50 rfl ?_
      refine z_lmul iX7_digestOfEntries_51 ?_
      refine z_aload iX7_digestOfEntries_52 rfl ?_
      refine e_getR iX7_digestOfEntries_53 fX7_21 rfl ?_
      refine z_iload iX7_digestOfEntries_56 rfl ?_
      refine z_iload iX7_digestOfEntries_58 rfl ?_
      refine e_callV iX7_digestOfEntries_60 kX7_303 (tX5_markAt F (nI e) (nI a) (ix5 (vin_mk he) (by omega))) rfl rfl rfl ⟨Nat.le_of_ble_eq_true rfl, Nat.le_of_ble_eq_true rfl⟩ ⟨Nat.le_of_ble_eq_true rfl, Nat.le_of_ble_eq_true rfl⟩ (Nat.le_of_ble_eq_true rfl) ?_
      dsimp only [Option.toList, List.cons_append, List.nil_append]
      refine z_i2l iX7_digestOfEntries_63 ?_
      refine z_ladd iX7_digestOfEntries_64 ?_
      refine z_lstore iX7_digestOfEntries_65 rfl ?_
      dsimp only [List.set_cons_zero, List.set_cons_succ]
      refine z_iinc (v := 1) iX7_digestOfEntries_66 (by decide) (by decide) rfl rfl ?_
      dsimp only [List.set_cons_zero, List.set_cons_succ]
      refine z_goto iX7_digestOfEntries_69 ?_
      rw [nI_1]
      exact ih (a + 1) (by omega)

set_option maxRecDepth 100000 in
theorem lpX7_digestOfEntries {L : Nat} {Z : zZt} (F : zFt) (x : Int64) (h0 : 0 ≤ (F 3 9).toInt) (h6 : zn (F 3 9) ≤ 60) (ho : ∀ e, e < zn (F 3 9) → okC F e) (kk : ∀ u v, zEV mX7_digestOfEntries (zrm 1 0 0) Z 113 [some (.ref 2), some (.long x), none, some (.long (zfl64 (gD2 F) x (zn (F 3 9)))), none, some (.int (nI (zn (F 3 9)))), u, v] [] 111 (zE L F) 0 0) : ∀ (n a : Nat) (u v : Option Value), a + n = zn (F 3 9) → zEV mX7_digestOfEntries (zrm 1 0 0) Z 5 [some (.ref 2), some (.long x), none, some (.long (zfl64 (gD2 F) x a)), none, some (.int (nI a)), u, v] [] 111 (zE L F) 0 0 := by
  intro n
  induction n with
  | zero =>
    intro a u v ha
    obtain rfl : a = zn (F 3 9) := by omega
    refine z_iload iX7_digestOfEntries_5 rfl ?_
    refine z_aload iX7_digestOfEntries_7 rfl ?_
    refine e_getR iX7_digestOfEntries_8 fX7_12 rfl ?_
    refine e_getI iX7_digestOfEntries_11 fX7_97 rfl ?_
    refine z_icmp_ge iX7_digestOfEntries_14 (fun c14 => ?_) (fun c14 => ?_)
    · exact kk _ _
    · exact absurd (up_end h0 rfl) c14
  | succ n ih =>
    intro a u v ha
    have ez : zn (nI a) = a := zn_nI (by omega)
    have hk := ho a (by omega)
    refine z_iload iX7_digestOfEntries_5 rfl ?_
    refine z_aload iX7_digestOfEntries_7 rfl ?_
    refine e_getR iX7_digestOfEntries_8 fX7_12 rfl ?_
    refine e_getI iX7_digestOfEntries_11 fX7_97 rfl ?_
    refine z_icmp_ge iX7_digestOfEntries_14 (fun c14 => ?_) (fun c14 => ?_)
    · exact absurd c14 (up_in (x := F 3 9) (by omega))
    · refine z_aload iX7_digestOfEntries_17 rfl ?_
      refine e_getR iX7_digestOfEntries_18 fX7_12 rfl ?_
      refine e_getR iX7_digestOfEntries_21 fX7_247 rfl ?_
      refine z_aload iX7_digestOfEntries_24 rfl ?_
      refine e_getR iX7_digestOfEntries_25 fX7_12 rfl ?_
      refine e_getR iX7_digestOfEntries_28 fX7_134 rfl ?_
      refine z_iload iX7_digestOfEntries_31 rfl ?_
      refine e_iald iX7_digestOfEntries_33 rfl (vin_mk (n := 60) (by omega)) ?_
      refine e_iald iX7_digestOfEntries_34 rfl (by rw [ez]; exact hk.1) ?_
      refine z_istore iX7_digestOfEntries_35 rfl ?_
      dsimp only [List.set_cons_zero, List.set_cons_succ]
      refine z_push iX7_digestOfEntries_37 ?_
      refine z_istore iX7_digestOfEntries_38 rfl ?_
      dsimp only [List.set_cons_zero, List.set_cons_succ]
      refine liX7_digestOfEntries F x _ a (by omega) _ (by rw [ez]; exact hk.2.2.1) (by rw [ez]; exact hk.2.1) ?_ _ 0 (Nat.zero_add _)
      refine z_pushl iX7_digestOfEntries_72 ?_
      refine z_lload iX7_digestOfEntries_75 rfl ?_
      refine z_lmul iX7_digestOfEntries_76 ?_
      refine z_aload iX7_digestOfEntries_77 rfl ?_
      refine e_getR iX7_digestOfEntries_78 fX7_21 rfl ?_
      refine e_getR iX7_digestOfEntries_81 fX7_155 rfl ?_
      refine z_iload iX7_digestOfEntries_84 rfl ?_
      refine e_iald iX7_digestOfEntries_86 rfl (vin_mk (n := 60) (by omega)) ?_
      rw [ez]
      refine z_i2l iX7_digestOfEntries_87 ?_
      refine z_ladd iX7_digestOfEntries_88 ?_
      refine z_lstore iX7_digestOfEntries_89 rfl ?_
      dsimp only [List.set_cons_zero, List.set_cons_succ]
      refine z_pushl iX7_digestOfEntries_90 ?_
      refine z_lload iX7_digestOfEntries_93 rfl ?_
      refine z_lmul iX7_digestOfEntries_94 ?_
      refine z_aload iX7_digestOfEntries_95 rfl ?_
      refine e_getR iX7_digestOfEntries_96 fX7_21 rfl ?_
      refine z_iload iX7_digestOfEntries_99 rfl ?_
      refine e_callV iX7_digestOfEntries_101 kX7_165 (tX5_remarkBits F (nI a) (vin_mk (by omega))) rfl rfl rfl ⟨Nat.le_of_ble_eq_true rfl, Nat.le_of_ble_eq_true rfl⟩ ⟨Nat.le_of_ble_eq_true rfl, Nat.le_of_ble_eq_true rfl⟩ (Nat.le_of_ble_eq_true rfl) ?_
      dsimp only [Option.toList, List.cons_append, List.nil_append]
      refine z_i2l iX7_digestOfEntries_104 ?_
      refine z_ladd iX7_digestOfEntries_105 ?_
      refine z_lstore iX7_digestOfEntries_106 rfl ?_
      dsimp only [List.set_cons_zero, List.set_cons_succ]
      refine z_iinc (v := 1) iX7_digestOfEntries_107 (by decide) (by decide) rfl rfl ?_
      dsimp only [List.set_cons_zero, List.set_cons_succ]
      refine z_goto iX7_digestOfEntries_110 ?_
      rw [nI_1]
      exact ih (a + 1) _ _ (by omega)

set_option maxRecDepth 100000 in
theorem tX7_digestOfEntries {L : Nat} (F : zFt) (x : Int64) (h0 : 0 ≤ (F 3 9).toInt) (h6 : zn (F 3 9) ≤ 60) (ho : ∀ e, e < zn (F 3 9) → okC F e) : zFn mX7_digestOfEntries 1 [.ref 2, .long x] L F (some (.long (zfl64 (gD2 F) x (zn (F 3 9))))) F := by
  refine e_of (lo := [some (.ref 2), some (.long x), none, none, none, none, none, none]) (by decide +kernel) (Nat.le_of_ble_eq_true rfl) rfl ?_
  refine z_lload iX7_digestOfEntries_0 rfl ?_
  refine z_lstore iX7_digestOfEntries_1 rfl ?_
  dsimp only [List.set_cons_zero, List.set_cons_succ]
  refine z_push iX7_digestOfEntries_2 ?_
  refine z_istore iX7_digestOfEntries_3 rfl ?_
  dsimp only [List.set_cons_zero, List.set_cons_succ]
  refine lpX7_digestOfEntries F x h0 h6 ho (fun u v => ?_) _ 0 none none (Nat.zero_add _)
  refine z_lload iX7_digestOfEntries_113 rfl ?_
  exact e_lret iX7_digestOfEntries_114 rfl ⟨rfl, rfl⟩

set_option maxRecDepth 100000 in
theorem lpX7_digestOfEvents {L : Nat} {R : Room} {Z : zZt} (F : zFt) (x : Int64) (h0 : 0 ≤ (F 11 6).toInt) (h4 : zn (F 11 6) ≤ 400) (kk : zEV mX7_digestOfEvents R Z 121 [some (.ref 2), some (.long x), none, some (.long (zfl64 (gD3 F) x (zn (F 11 6)))), none, some (.int (nI (zn (F 11 6))))] [] 111 (zE L F) 0 0) : ∀ n a : Nat, a + n = zn (F 11 6) → zEV mX7_digestOfEvents R Z 5 [some (.ref 2), some (.long x), none, some (.long (zfl64 (gD3 F) x a)), none, some (.int (nI a))] [] 111 (zE L F) 0 0 := by
  intro n
  induction n with
  | zero =>
    intro a ha
    obtain rfl : a = zn (F 11 6) := by omega
    refine z_iload iX7_digestOfEvents_5 rfl ?_
    refine z_aload iX7_digestOfEvents_7 rfl ?_
    refine e_getR iX7_digestOfEvents_8 fX7_21 rfl ?_
    refine e_getI iX7_digestOfEvents_11 fX7_137 rfl ?_
    refine z_icmp_ge iX7_digestOfEvents_14 (fun c14 => ?_) (fun c14 => ?_)
    · exact kk
    · exact absurd (up_end h0 rfl) c14
  | succ n ih =>
    intro a ha
    have ez : zn (nI a) = a := zn_nI (by omega)
    refine z_iload iX7_digestOfEvents_5 rfl ?_
    refine z_aload iX7_digestOfEvents_7 rfl ?_
    refine e_getR iX7_digestOfEvents_8 fX7_21 rfl ?_
    refine e_getI iX7_digestOfEvents_11 fX7_137 rfl ?_
    refine z_icmp_ge iX7_digestOfEvents_14 (fun c14 => ?_) (fun c14 => ?_)
    · exact absurd c14 (up_in (x := F 11 6) (by omega))
    · refine z_pushl iX7_digestOfEvents_17 ?_
      refine z_lload iX7_digestOfEvents_20 rfl ?_
      refine z_lmul iX7_digestOfEvents_21 ?_
      refine z_aload iX7_digestOfEvents_22 rfl ?_
      refine e_getR iX7_digestOfEvents_23 fX7_21 rfl ?_
      refine e_getR iX7_digestOfEvents_26 fX7_265 rfl ?_
      refine z_iload iX7_digestOfEvents_29 rfl ?_
      refine e_iald iX7_digestOfEvents_31 rfl (vin_mk (n := 400) (by omega)) ?_
      rw [ez]
      refine z_i2l iX7_digestOfEvents_32 ?_
      refine z_ladd iX7_digestOfEvents_33 ?_
      refine z_lstore iX7_digestOfEvents_34 rfl ?_
      dsimp only [List.set_cons_zero, List.set_cons_succ]
      refine z_pushl iX7_digestOfEvents_35 ?_
      refine z_lload iX7_digestOfEvents_38 rfl ?_
      refine z_lmul iX7_digestOfEvents_39 ?_
      refine z_aload iX7_digestOfEvents_40 rfl ?_
      refine e_getR iX7_digestOfEvents_41 fX7_21 rfl ?_
      refine e_getR iX7_digestOfEvents_44 fX7_268 rfl ?_
      refine z_iload iX7_digestOfEvents_47 rfl ?_
      refine e_iald iX7_digestOfEvents_49 rfl (vin_mk (n := 400) (by omega)) ?_
      rw [ez]
      refine z_i2l iX7_digestOfEvents_50 ?_
      refine z_ladd iX7_digestOfEvents_51 ?_
      refine z_lstore iX7_digestOfEvents_52 rfl ?_
      dsimp only [List.set_cons_zero, List.set_cons_succ]
      refine z_pushl iX7_digestOfEvents_53 ?_
      refine z_lload iX7_digestOfEvents_56 rfl ?_
      refine z_lmul iX7_digestOfEvents_57 ?_
      refine z_aload iX7_digestOfEvents_58 rfl ?_
      refine e_getR iX7_digestOfEvents_59 fX7_21 rfl ?_
      refine e_getR iX7_digestOfEvents_62 fX7_259 rfl ?_
      refine z_iload iX7_digestOfEvents_65 rfl ?_
      refine e_iald iX7_digestOfEvents_67 rfl (vin_mk (n := 400) (by omega)) ?_
      rw [ez]
      refine z_i2l iX7_digestOfEvents_68 ?_
      refine z_ladd iX7_digestOfEvents_69 ?_
      refine z_lstore iX7_digestOfEvents_70 rfl ?_
      dsimp only [List.set_cons_zero, List.set_cons_succ]
      refine z_pushl iX7_digestOfEvents_71 ?_
      refine z_lload iX7_digestOfEvents_74 rfl ?_
      refine z_lmul iX7_digestOfEvents_75 ?_
      refine z_aload iX7_digestOfEvents_76 rfl ?_
      refine e_getR iX7_digestOfEvents_77 fX7_21 rfl ?_
      refine e_getR iX7_digestOfEvents_80 fX7_270 rfl ?_
      refine z_iload iX7_digestOfEvents_83 rfl ?_
      refine e_iald iX7_digestOfEvents_85 rfl (vin_mk (n := 400) (by omega)) ?_
      rw [ez]
      refine z_i2l iX7_digestOfEvents_86 ?_
      refine z_ladd iX7_digestOfEvents_87 ?_
      refine z_lstore iX7_digestOfEvents_88 rfl ?_
      dsimp only [List.set_cons_zero, List.set_cons_succ]
      refine z_pushl iX7_digestOfEvents_89 ?_
      refine z_lload iX7_digestOfEvents_92 rfl ?_
      refine z_lmul iX7_digestOfEvents_93 ?_
      refine z_aload iX7_digestOfEvents_94 rfl ?_
      refine e_getR iX7_digestOfEvents_95 fX7_21 rfl ?_
      refine e_getR iX7_digestOfEvents_98 fX7_256 rfl ?_
      refine z_iload iX7_digestOfEvents_101 rfl ?_
      refine e_bald iX7_digestOfEvents_103 rfl (vin_mk (n := 400) (by omega)) ?_
      rw [ez]
      refine z_if_eq iX7_digestOfEvents_104 (fun c104 => ?_) (fun c104 => ?_)
      · refine z_push iX7_digestOfEvents_111 ?_
        refine z_i2l iX7_digestOfEvents_112 ?_
        refine z_ladd iX7_digestOfEvents_113 ?_
        refine z_lstore iX7_digestOfEvents_114 rfl ?_
        dsimp only [List.set_cons_zero, List.set_cons_succ]
        refine z_iinc (v := 1) iX7_digestOfEvents_115 (by decide) (by decide) rfl rfl ?_
        dsimp only [List.set_cons_zero, List.set_cons_succ]
        refine z_goto iX7_digestOfEvents_118 ?_
        rw [nI_1]
        exact z_to (by rw [zfl64, gD3, if_pos c104]; rfl) rfl (ih (a + 1) (by omega))
      · refine z_push iX7_digestOfEvents_107 ?_
        refine z_goto iX7_digestOfEvents_108 ?_
        refine z_i2l iX7_digestOfEvents_112 ?_
        refine z_ladd iX7_digestOfEvents_113 ?_
        refine z_lstore iX7_digestOfEvents_114 rfl ?_
        dsimp only [List.set_cons_zero, List.set_cons_succ]
        refine z_iinc (v := 1) iX7_digestOfEvents_115 (by decide) (by decide) rfl rfl ?_
        dsimp only [List.set_cons_zero, List.set_cons_succ]
        refine z_goto iX7_digestOfEvents_118 ?_
        rw [nI_1]
        exact z_to (by rw [zfl64, gD3, if_neg c104]; rfl) rfl (ih (a + 1) (by omega))

set_option maxRecDepth 100000 in
theorem tX7_digestOfEvents {L : Nat} (F : zFt) (x : Int64) (h0 : 0 ≤ (F 11 6).toInt) (h4 : zn (F 11 6) ≤ 400) : zFn mX7_digestOfEvents 0 [.ref 2, .long x] L F (some (.long (zfl64 (gD3 F) x (zn (F 11 6))))) F := by
  refine e_of (lo := [some (.ref 2), some (.long x), none, none, none, none]) (by decide +kernel) (Nat.le_of_ble_eq_true rfl) rfl ?_
  refine z_lload iX7_digestOfEvents_0 rfl ?_
  refine z_lstore iX7_digestOfEvents_1 rfl ?_
  dsimp only [List.set_cons_zero, List.set_cons_succ]
  refine z_push iX7_digestOfEvents_2 ?_
  refine z_istore iX7_digestOfEvents_3 rfl ?_
  dsimp only [List.set_cons_zero, List.set_cons_succ]
  refine lpX7_digestOfEvents F x h0 h4 ?_ _ 0 (Nat.zero_add _)
  refine z_lload iX7_digestOfEvents_121 rfl ?_
  exact e_lret iX7_digestOfEvents_122 rfl ⟨rfl, rfl⟩

set_option maxRecDepth 100000 in
theorem lpX7_digest {L : Nat} {Z : zZt} (F : zFt) (x : Int64) (h0 : 0 ≤ (F 3 7).toInt) (h12 : zn (F 3 7) ≤ 12) (kk : zEV mX7_digest (zrm 2 0 0) Z 56 [some (.ref 2), some (.long (zfl64 (gD4 F) x (zn (F 3 7)))), none, some (.int (nI (zn (F 3 7)))), none] [] 111 (zE L F) 0 0) : ∀ n a : Nat, a + n = zn (F 3 7) → zEV mX7_digest (zrm 2 0 0) Z 14 [some (.ref 2), some (.long (zfl64 (gD4 F) x a)), none, some (.int (nI a)), none] [] 111 (zE L F) 0 0 := by
  intro n
  induction n with
  | zero =>
    intro a ha
    obtain rfl : a = zn (F 3 7) := by omega
    refine z_iload iX7_digest_14 rfl ?_
    refine z_aload iX7_digest_15 rfl ?_
    refine e_getR iX7_digest_16 fX7_12 rfl ?_
    refine e_getI iX7_digest_19 fX7_82 rfl ?_
    refine z_icmp_ge iX7_digest_22 (fun c22 => ?_) (fun c22 => ?_)
    · exact kk
    · exact absurd (up_end h0 rfl) c22
  | succ n ih =>
    intro a ha
    have ez : zn (nI a) = a := zn_nI (by omega)
    refine z_iload iX7_digest_14 rfl ?_
    refine z_aload iX7_digest_15 rfl ?_
    refine e_getR iX7_digest_16 fX7_12 rfl ?_
    refine e_getI iX7_digest_19 fX7_82 rfl ?_
    refine z_icmp_ge iX7_digest_22 (fun c22 => ?_) (fun c22 => ?_)
    · exact absurd c22 (up_in (x := F 3 7) (by omega))
    · refine z_pushl iX7_digest_25 ?_
      refine z_lload iX7_digest_28 rfl ?_
      refine z_lmul iX7_digest_29 ?_
      refine z_aload iX7_digest_30 rfl ?_
      refine e_getR iX7_digest_31 fX7_12 rfl ?_
      refine e_getR iX7_digest_34 fX7_93 rfl ?_
      refine z_iload iX7_digest_37 rfl ?_
      refine e_bald iX7_digest_38 rfl (vin_mk (n := 12) (by omega)) ?_
      rw [ez]
      refine z_if_eq iX7_digest_39 (fun c39 => ?_) (fun c39 => ?_)
      · refine z_push iX7_digest_46 ?_
        refine z_i2l iX7_digest_47 ?_
        refine z_ladd iX7_digest_48 ?_
        refine z_lstore iX7_digest_49 rfl ?_
        dsimp only [List.set_cons_zero, List.set_cons_succ]
        refine z_iinc (v := 1) iX7_digest_50 (by decide) (by decide) rfl rfl ?_
        dsimp only [List.set_cons_zero, List.set_cons_succ]
        refine z_goto iX7_digest_53 ?_
        rw [nI_1]
        exact z_to (by rw [zfl64, gD4, if_pos c39]; rfl) rfl (ih (a + 1) (by omega))
      · refine z_push iX7_digest_42 ?_
        refine z_goto iX7_digest_43 ?_
        refine z_i2l iX7_digest_47 ?_
        refine z_ladd iX7_digest_48 ?_
        refine z_lstore iX7_digest_49 rfl ?_
        dsimp only [List.set_cons_zero, List.set_cons_succ]
        refine z_iinc (v := 1) iX7_digest_50 (by decide) (by decide) rfl rfl ?_
        dsimp only [List.set_cons_zero, List.set_cons_succ]
        refine z_goto iX7_digest_53 ?_
        rw [nI_1]
        exact z_to (by rw [zfl64, gD4, if_neg c39]; rfl) rfl (ih (a + 1) (by omega))

set_option maxRecDepth 100000 in
theorem lqX7_digest {L : Nat} {Z : zZt} (F : zFt) (x : Int64) (h0 : 0 ≤ (F 2 7).toInt) (h8 : zn (F 2 7) ≤ 8) (kk : zEV mX7_digest (zrm 2 0 0) Z 89 [some (.ref 2), some (.long x), none, some (.int (zfold (gD5 F) 0 (zn (F 2 7)))), some (.int (nI (zn (F 2 7))))] [] 111 (zE L F) 0 0) : ∀ n a : Nat, a + n = zn (F 2 7) → zEV mX7_digest (zrm 2 0 0) Z 61 [some (.ref 2), some (.long x), none, some (.int (zfold (gD5 F) 0 a)), some (.int (nI a))] [] 111 (zE L F) 0 0 := by
  intro n
  induction n with
  | zero =>
    intro a ha
    obtain rfl : a = zn (F 2 7) := by omega
    refine z_iload iX7_digest_61 rfl ?_
    refine z_aload iX7_digest_63 rfl ?_
    refine e_getI iX7_digest_64 fX7_61 rfl ?_
    refine z_icmp_ge iX7_digest_67 (fun c67 => ?_) (fun c67 => ?_)
    · exact kk
    · exact absurd (up_end h0 rfl) c67
  | succ n ih =>
    intro a ha
    have ez : zn (nI a) = a := zn_nI (by omega)
    refine z_iload iX7_digest_61 rfl ?_
    refine z_aload iX7_digest_63 rfl ?_
    refine e_getI iX7_digest_64 fX7_61 rfl ?_
    refine z_icmp_ge iX7_digest_67 (fun c67 => ?_) (fun c67 => ?_)
    · exact absurd c67 (up_in (x := F 2 7) (by omega))
    · refine z_iload iX7_digest_70 rfl ?_
      refine z_aload iX7_digest_71 rfl ?_
      refine e_getR iX7_digest_72 fX7_57 rfl ?_
      refine z_iload iX7_digest_75 rfl ?_
      refine e_aald iX7_digest_77 (vin_mk (n := 8) (by omega)) ?_
      rw [ez]
      refine e_getI iX7_digest_78 fX7_189 (scI5 a (by omega)) ?_
      refine z_iadd iX7_digest_81 ?_
      refine z_istore iX7_digest_82 rfl ?_
      dsimp only [List.set_cons_zero, List.set_cons_succ]
      refine z_iinc (v := 1) iX7_digest_83 (by decide) (by decide) rfl rfl ?_
      dsimp only [List.set_cons_zero, List.set_cons_succ]
      refine z_goto iX7_digest_86 ?_
      rw [nI_1]
      exact ih (a + 1) (by omega)

def pDigest (F : zFt) : Int64 := zdg (zdg (zfl64 (gD4 F) (zfl64 (gD3 F) (zfl64 (gD2 F) 37 (zn (F 3 9))) (zn (F 11 6))) (zn (F 3 7))) (F 2 7)) (zfold (gD5 F) 0 (zn (F 2 7)))

set_option maxRecDepth 100000 in
theorem tX7_digest {L : Nat} (F : zFt) (h : CI F) : zFn mX7_digest 2 [.ref 2] L F (some (.long (pDigest F))) F := by
  refine e_of (lo := [some (.ref 2), none, none, none, none]) (by decide +kernel) (Nat.le_of_ble_eq_true rfl) rfl ?_
  refine z_aload iX7_digest_0 rfl ?_
  refine z_aload iX7_digest_1 rfl ?_
  refine z_pushl iX7_digest_2 ?_
  refine e_callV iX7_digest_5 kX7_294 (tX7_digestOfEntries F 37 (vin_0 h.1.2.2.1) (vin_le1 h.1.2.2.1) (fun e he => sh_okC h.1 he)) rfl rfl rfl ⟨Nat.le_of_ble_eq_true rfl, Nat.le_of_ble_eq_true rfl⟩ ⟨Nat.le_of_ble_eq_true rfl, Nat.le_of_ble_eq_true rfl⟩ (Nat.le_of_ble_eq_true rfl) ?_
  dsimp only [Option.toList, List.cons_append, List.nil_append]
  refine e_callV iX7_digest_8 kX7_298 (tX7_digestOfEvents F _ (CI_okV h).1 (CI_okV h).2.1) rfl rfl rfl ⟨Nat.le_of_ble_eq_true rfl, Nat.le_of_ble_eq_true rfl⟩ ⟨Nat.le_of_ble_eq_true rfl, Nat.le_of_ble_eq_true rfl⟩ (Nat.le_of_ble_eq_true rfl) ?_
  dsimp only [Option.toList, List.cons_append, List.nil_append]
  refine z_lstore iX7_digest_11 rfl ?_
  dsimp only [List.set_cons_zero, List.set_cons_succ]
  refine z_push iX7_digest_12 ?_
  refine z_istore iX7_digest_13 rfl ?_
  dsimp only [List.set_cons_zero, List.set_cons_succ]
  refine lpX7_digest F _ (vin_0 h.1.1) (vin_le1 h.1.1) ?_ _ 0 (Nat.zero_add _)
  refine z_push iX7_digest_56 ?_
  refine z_istore iX7_digest_57 rfl ?_
  dsimp only [List.set_cons_zero, List.set_cons_succ]
  refine z_push iX7_digest_58 ?_
  refine z_istore iX7_digest_59 rfl ?_
  dsimp only [List.set_cons_zero, List.set_cons_succ]
  refine lqX7_digest F _ (vin_0 h.2.2.2.2.2.2.1) (vin_le1 h.2.2.2.2.2.2.1) ?_ _ 0 (Nat.zero_add _)
  refine z_pushl iX7_digest_89 ?_
  refine z_lload iX7_digest_92 rfl ?_
  refine z_lmul iX7_digest_93 ?_
  refine z_aload iX7_digest_94 rfl ?_
  refine e_getI iX7_digest_95 fX7_61 rfl ?_
  refine z_i2l iX7_digest_98 ?_
  refine z_ladd iX7_digest_99 ?_
  refine z_lstore iX7_digest_100 rfl ?_
  dsimp only [List.set_cons_zero, List.set_cons_succ]
  refine z_pushl iX7_digest_101 ?_
  refine z_lload iX7_digest_104 rfl ?_
  refine z_lmul iX7_digest_105 ?_
  refine z_iload iX7_digest_106 rfl ?_
  refine z_i2l iX7_digest_107 ?_
  refine z_ladd iX7_digest_108 ?_
  exact e_lret iX7_digest_109 rfl ⟨rfl, rfl⟩
