set_option maxRecDepth 100000 in
theorem liX8_totalOf {L : Nat} {R : Room} {Z : zZt} (F : zFt) (e c x s y m : Int32) : ∀ (k : Nat) (g : Nat → Int32), k < 5 → (∀ z, zEV mX8_totalOf R Z 100 [some (.ref 75), some (.int e), some (.int c), some (.int x), some (.int s), some (.int y), some (.int m), some (.int z)] [] 111 (zE L (zrow F 109 (zins m k g))) 0 0) → zEV mX8_totalOf R Z 50 [some (.ref 75), some (.int e), some (.int c), some (.int x), some (.int s), some (.int y), some (.int m), some (.int (nI k))] [] 111 (zE L (zrow F 109 g)) 0 0 := by
  intro k
  induction k with
  | zero =>
    intro g hk kk
    refine z_iload iX8_totalOf_50 rfl ?_
    refine z_if_le iX8_totalOf_52 (fun c52 => ?_) (fun c52 => ?_)
    · refine z_aload iX8_totalOf_91 rfl ?_
      refine e_getR iX8_totalOf_92 fX8_110 rfl ?_
      refine z_iload iX8_totalOf_95 rfl ?_
      refine z_iload iX8_totalOf_97 rfl ?_
      refine e_iast iX8_totalOf_99 rfl (vin_mk (n := 5) (a := 0) (by omega)) ?_
      rw [zrow_up]
      exact kk _
    · exact absurd (by decide) c52
  | succ k ih =>
    intro g hk kk
    have e1 : nI (k + 1) - 1 = nI k := nI_pred k
    refine z_iload iX8_totalOf_50 rfl ?_
    refine z_if_le iX8_totalOf_52 (fun c52 => ?_) (fun c52 => ?_)
    · exact absurd c52 (nI_nle (by omega) (by omega))
    · refine z_aload iX8_totalOf_55 rfl ?_
      refine e_getR iX8_totalOf_56 fX8_110 rfl ?_
      refine z_iload iX8_totalOf_59 rfl ?_
      refine z_push iX8_totalOf_61 ?_
      refine z_isub iX8_totalOf_62 ?_
      refine e_iald iX8_totalOf_63 rfl (by rw [e1]; exact vin_mk (n := 5) (by omega)) ?_
      try simp only [zrow_ap, Nat.reduceEqDiff, ↓reduceIte]
      rw [e1, zn_nI (by omega)]
      refine z_iload iX8_totalOf_64 rfl ?_
      refine z_icmp_le iX8_totalOf_66 (fun c66 => ?_) (fun c66 => ?_)
      · rw [zins, if_pos c66] at kk
        refine z_aload iX8_totalOf_91 rfl ?_
        refine e_getR iX8_totalOf_92 fX8_110 rfl ?_
        refine z_iload iX8_totalOf_95 rfl ?_
        refine z_iload iX8_totalOf_97 rfl ?_
        refine e_iast iX8_totalOf_99 rfl (vin_mk (n := 5) (by omega)) ?_
        rw [zn_nI (by omega), zrow_up]
        exact kk _
      · rw [zins, if_neg c66] at kk
        refine z_aload iX8_totalOf_69 rfl ?_
        refine e_getR iX8_totalOf_70 fX8_110 rfl ?_
        refine z_iload iX8_totalOf_73 rfl ?_
        refine z_aload iX8_totalOf_75 rfl ?_
        refine e_getR iX8_totalOf_76 fX8_110 rfl ?_
        refine z_iload iX8_totalOf_79 rfl ?_
        refine z_push iX8_totalOf_81 ?_
        refine z_isub iX8_totalOf_82 ?_
        refine e_iald iX8_totalOf_83 rfl (by rw [e1]; exact vin_mk (n := 5) (by omega)) ?_
        try simp only [zrow_ap, Nat.reduceEqDiff, ↓reduceIte]
        rw [e1, zn_nI (by omega)]
        refine e_iast iX8_totalOf_84 rfl (vin_mk (n := 5) (by omega)) ?_
        rw [zn_nI (by omega), zrow_up]
        refine z_iinc (v := (-1)) iX8_totalOf_85 (by decide) (by decide) rfl rfl ?_
        dsimp only [List.set_cons_zero, List.set_cons_succ]
        refine z_goto iX8_totalOf_88 ?_
        exact z_to (by rw [pk_m1]) rfl (ih _ (by omega) kk)

abbrev gNs (F : zFt) (e : Int32) : Nat → Int32 → Int32 := fun k a => a + nMa F e k
abbrev nSu (F : zFt) (e : Int32) : Int32 := zfold (gNs F e) 0 (zn (nSe F e))
abbrev nSo (F : zFt) (e : Int32) : Nat → Int32 := zsrt (F 109) (nMa F e) (zn (nSe F e))
abbrev nSh' (F : zFt) (e : Int32) : Int32 := F 76 (zn (F 83 (zn e)))
def nGa (F : zFt) (e : Int32) : Int32 := if ¬ nSh' F e = 1 then (if ¬ nSh' F e = 2 then (if ¬ nSh' F e = 3 then nSu F e else if nSe F e < 3 then nSu F e else nSu F e - nSo F e 0 - nSo F e (zn (nSe F e - 1))) else if ¬ nSe F e &&& 1 = 1 then nrd (nSo F e (zn (nSe F e / 2 - 1)) + nSo F e (zn (nSe F e / 2))) 2 else nSo F e (zn (nSe F e / 2))) else nrd (nSu F e) (nSe F e)
def nTv (F : zFt) (e : Int32) : Int32 := if F 95 (zn e) ≤ nGa F e then nGa F e - F 95 (zn e) else 0
def nTF (F : zFt) (e : Int32) : zFt := zrow F 109 (nSo F e)
theorem ixn {x : Int32} (h0 : 0 ≤ x.toInt) (h1 : 0 < zn x) (h5 : zn x ≤ 5) : vp_in (x / 2) 5 ∧ (¬ x &&& 1 = 1 → vp_in (x / 2 - 1) 5) ∧ vp_in (x - 1) 5 ∧ ¬ x = 0 := by
  have e := nI_zn h0
  rcases (show zn x = 1 ∨ zn x = 2 ∨ zn x = 3 ∨ zn x = 4 ∨ zn x = 5 by omega) with q | q | q | q | q <;> rw [q] at e <;> subst e <;> simp only [vin] <;> decide

set_option maxRecDepth 100000 in
theorem lpX8_totalOf {L : Nat} {Z : zZt} (F : zFt) (e c x : Int32) (he : vp_in e 60) (h0 : 0 ≤ x.toInt) (h5 : zn x ≤ 5) (kk : ∀ u v, zEV mX8_totalOf (zrm 1 0 0) Z 106 [some (.ref 75), some (.int e), some (.int c), some (.int x), some (.int (zfold (gNs F e) 0 (zn x))), some (.int (nI (zn x))), u, v] [] 111 (zE L (zrow F 109 (zsrt (F 109) (nMa F e) (zn x)))) 0 0) : ∀ (n a : Nat) (u v : Option Value), a + n = zn x → zEV mX8_totalOf (zrm 1 0 0) Z 20 [some (.ref 75), some (.int e), some (.int c), some (.int x), some (.int (zfold (gNs F e) 0 a)), some (.int (nI a)), u, v] [] 111 (zE L (zrow F 109 (zsrt (F 109) (nMa F e) a))) 0 0 := by
  intro n
  induction n with
  | zero =>
    intro a u v ha
    obtain rfl : a = zn x := by omega
    refine z_iload iX8_totalOf_20 rfl ?_
    refine z_iload iX8_totalOf_22 rfl ?_
    refine z_icmp_ge iX8_totalOf_23 (fun c23 => ?_) (fun c23 => ?_)
    · exact kk _ _
    · exact absurd (up_end h0 rfl) c23
  | succ n ih =>
    intro a u v ha
    have hw : zkp [some (.ref 75), some (.int e), some (.int c), some (.int x), some (.int (zfold (gNs F e) 0 a)), some (.int (nI a)), u, v] 6 = true := rfl
    refine z_iload iX8_totalOf_20 rfl ?_
    refine z_iload iX8_totalOf_22 rfl ?_
    refine z_icmp_ge iX8_totalOf_23 (fun c23 => ?_) (fun c23 => ?_)
    · exact absurd c23 (up_in (x := x) (by omega))
    · refine z_aload iX8_totalOf_26 rfl ?_
      refine e_getR iX8_totalOf_27 fX8_65 rfl ?_
      refine z_push iX8_totalOf_30 ?_
      refine z_iload iX8_totalOf_31 rfl ?_
      refine z_imul iX8_totalOf_32 ?_
      refine z_iload iX8_totalOf_33 rfl ?_
      refine z_iadd iX8_totalOf_35 ?_
      refine e_iald iX8_totalOf_36 rfl (ix5m he (by omega)) ?_
      try simp only [zrow_ap, Nat.reduceEqDiff, ↓reduceIte]
      refine z_istore iX8_totalOf_37 rfl ?_
      dsimp only [List.set_cons_zero, List.set_cons_succ]
      refine z_iload iX8_totalOf_39 rfl ?_
      refine z_iload iX8_totalOf_41 rfl ?_
      refine z_iadd iX8_totalOf_43 ?_
      refine z_istore iX8_totalOf_44 rfl ?_
      dsimp only [List.set_cons_zero, List.set_cons_succ]
      refine z_iload iX8_totalOf_46 rfl ?_
      refine z_istore iX8_totalOf_48 rfl ?_
      dsimp only [List.set_cons_zero, List.set_cons_succ]
      refine liX8_totalOf F e c x _ (nI a) _ a _ (by omega) (fun z => ?_)
      refine z_iinc (v := 1) iX8_totalOf_100 (by decide) (by decide) rfl rfl ?_
      dsimp only [List.set_cons_zero, List.set_cons_succ]
      refine z_goto iX8_totalOf_103 ?_
      rw [nI_1]
      exact ih (a + 1) _ _ (by omega)

set_option maxRecDepth 100000 in
theorem lqX8_totalOf {L : Nat} (F : zFt) (e : Int32) (he : vp_in e 60) (u v : Option Value) : zEV mX8_totalOf (zrm 1 0 0) (zZf L (some (.int (nTv F e))) (nTF F e)) 222 [some (.ref 75), some (.int e), some (.int (F 83 (zn e))), some (.int (nSe F e)), some (.int (nSu F e)), some (.int (nGa F e)), u, v] [] 111 (zE L (nTF F e)) 0 0 := by
  refine z_iload iX8_totalOf_222 rfl ?_
  refine z_aload iX8_totalOf_224 rfl ?_
  refine e_getR iX8_totalOf_225 fX8_68 rfl ?_
  refine z_iload iX8_totalOf_228 rfl ?_
  refine e_iald iX8_totalOf_229 rfl (by assumption) ?_
  rw [nTF, zrow_ap, if_neg (by decide)]
  refine z_icmp_ge iX8_totalOf_230 (fun c230 => ?_) (fun c230 => ?_)
  · refine z_iload iX8_totalOf_237 rfl ?_
    refine z_aload iX8_totalOf_239 rfl ?_
    refine e_getR iX8_totalOf_240 fX8_68 rfl ?_
    refine z_iload iX8_totalOf_243 rfl ?_
    refine e_iald iX8_totalOf_244 rfl (by assumption) ?_
    rw [zrow_ap, if_neg (by decide)]
    refine z_isub iX8_totalOf_245 ?_
    exact e_iret iX8_totalOf_246 rfl ⟨by rw [nTv, if_pos c230], rfl⟩
  · refine z_push iX8_totalOf_233 ?_
    refine z_goto iX8_totalOf_234 ?_
    exact e_iret iX8_totalOf_246 rfl ⟨by rw [nTv, if_neg c230], rfl⟩

set_option maxRecDepth 100000 in
theorem tX8_totalOf {L : Nat} (F : zFt) (e : Int32) (he : vp_in e 60) (hc : vp_in (F 83 (zn e)) 12) (hs : zn (nSe F e) ≤ 5) (h0 : 0 ≤ (nSe F e).toInt) (h1 : 0 < zn (nSe F e)) : zFn mX8_totalOf 1 [.ref 75, .int e] L F (some (.int (nTv F e))) (nTF F e) := by
  refine e_of (lo := [some (.ref 75), some (.int e), none, none, none, none, none, none]) (by decide +kernel) (Nat.le_of_ble_eq_true rfl) rfl ?_
  refine z_aload iX8_totalOf_0 rfl ?_
  refine e_getR iX8_totalOf_1 fX8_32 rfl ?_
  refine z_iload iX8_totalOf_4 rfl ?_
  refine e_iald iX8_totalOf_5 rfl (by assumption) ?_
  refine z_istore iX8_totalOf_6 rfl ?_
  dsimp only [List.set_cons_zero, List.set_cons_succ]
  refine z_aload iX8_totalOf_7 rfl ?_
  refine e_getR iX8_totalOf_8 fX8_16 rfl ?_
  refine z_iload iX8_totalOf_11 rfl ?_
  refine e_iald iX8_totalOf_12 rfl (by assumption) ?_
  refine z_istore iX8_totalOf_13 rfl ?_
  dsimp only [List.set_cons_zero, List.set_cons_succ]
  refine z_push iX8_totalOf_14 ?_
  refine z_istore iX8_totalOf_15 rfl ?_
  dsimp only [List.set_cons_zero, List.set_cons_succ]
  refine z_push iX8_totalOf_17 ?_
  refine z_istore iX8_totalOf_18 rfl ?_
  dsimp only [List.set_cons_zero, List.set_cons_succ]
  obtain ⟨x1, x2, x3, x4⟩ := ixn h0 h1 hs
  refine z_to rfl (zrow_self F 109).symm ?_
  refine lpX8_totalOf F e (F 83 (zn e)) (nSe F e) he h0 hs (fun u v => ?_) _ 0 none none (Nat.zero_add _)
  refine z_iload iX8_totalOf_106 rfl ?_
  refine z_istore iX8_totalOf_108 rfl ?_
  dsimp only [List.set_cons_zero, List.set_cons_succ]
  refine z_aload iX8_totalOf_110 rfl ?_
  refine e_getR iX8_totalOf_111 fX8_7 rfl ?_
  refine z_iload iX8_totalOf_114 rfl ?_
  refine e_iald iX8_totalOf_115 rfl (by assumption) ?_
  rw [zrow_ap, if_neg (by decide)]
  refine z_push iX8_totalOf_116 ?_
  refine z_icmp_ne iX8_totalOf_117 (fun c117 => ?_) (fun c117 => ?_)
  · refine z_aload iX8_totalOf_131 rfl ?_
    refine e_getR iX8_totalOf_132 fX8_7 rfl ?_
    refine z_iload iX8_totalOf_135 rfl ?_
    refine e_iald iX8_totalOf_136 rfl (by assumption) ?_
    rw [zrow_ap, if_neg (by decide)]
    refine z_push iX8_totalOf_137 ?_
    refine z_icmp_ne iX8_totalOf_138 (fun c138 => ?_) (fun c138 => ?_)
    · refine z_aload iX8_totalOf_187 rfl ?_
      refine e_getR iX8_totalOf_188 fX8_7 rfl ?_
      refine z_iload iX8_totalOf_191 rfl ?_
      refine e_iald iX8_totalOf_192 rfl (by assumption) ?_
      rw [zrow_ap, if_neg (by decide)]
      refine z_push iX8_totalOf_193 ?_
      refine z_icmp_ne iX8_totalOf_194 (fun c194 => ?_) (fun c194 => ?_)
      · refine z_to (by rw [show nGa F e = nSu F e by rw [nGa, if_pos c117, if_pos c138, if_pos c194]]) rfl (lqX8_totalOf F e he _ _)
      · refine z_iload iX8_totalOf_197 rfl ?_
        refine z_push iX8_totalOf_198 ?_
        refine z_icmp_lt iX8_totalOf_199 (fun c199 => ?_) (fun c199 => ?_)
        · refine z_to (by rw [show nGa F e = nSu F e by rw [nGa, if_pos c117, if_pos c138, if_neg (not_not_intro c194), if_pos c199]]) rfl (lqX8_totalOf F e he _ _)
        · refine z_iload iX8_totalOf_202 rfl ?_
          refine z_aload iX8_totalOf_204 rfl ?_
          refine e_getR iX8_totalOf_205 fX8_110 rfl ?_
          refine z_push iX8_totalOf_208 ?_
          refine e_iald iX8_totalOf_209 rfl (vin_mk (n := 5) (a := 0) (by omega)) ?_
          rw [zrow_ap, if_pos rfl]
          refine z_isub iX8_totalOf_210 ?_
          refine z_aload iX8_totalOf_211 rfl ?_
          refine e_getR iX8_totalOf_212 fX8_110 rfl ?_
          refine z_iload iX8_totalOf_215 rfl ?_
          refine z_push iX8_totalOf_216 ?_
          refine z_isub iX8_totalOf_217 ?_
          refine e_iald iX8_totalOf_218 rfl x3 ?_
          rw [zrow_ap, if_pos rfl]
          refine z_isub iX8_totalOf_219 ?_
          refine z_istore iX8_totalOf_220 rfl ?_
          dsimp only [List.set_cons_zero, List.set_cons_succ]
          refine z_to (by rw [show nGa F e = nSu F e - nSo F e 0 - nSo F e (zn (nSe F e - 1)) by rw [nGa, if_pos c117, if_pos c138, if_neg (not_not_intro c194), if_neg c199]]; rfl) rfl (lqX8_totalOf F e he _ _)
    · refine z_iload iX8_totalOf_141 rfl ?_
      refine z_push iX8_totalOf_142 ?_
      refine z_iand iX8_totalOf_143 ?_
      refine z_push iX8_totalOf_144 ?_
      refine z_icmp_ne iX8_totalOf_145 (fun c145 => ?_) (fun c145 => ?_)
      · refine z_aload iX8_totalOf_159 rfl ?_
        refine e_getR iX8_totalOf_160 fX8_110 rfl ?_
        refine z_iload iX8_totalOf_163 rfl ?_
        refine z_push iX8_totalOf_164 ?_
        refine z_idiv iX8_totalOf_165 (by decide) ?_
        refine z_push iX8_totalOf_166 ?_
        refine z_isub iX8_totalOf_167 ?_
        refine e_iald iX8_totalOf_168 rfl (x2 c145) ?_
        rw [zrow_ap, if_pos rfl]
        refine z_aload iX8_totalOf_169 rfl ?_
        refine e_getR iX8_totalOf_170 fX8_110 rfl ?_
        refine z_iload iX8_totalOf_173 rfl ?_
        refine z_push iX8_totalOf_174 ?_
        refine z_idiv iX8_totalOf_175 (by decide) ?_
        refine e_iald iX8_totalOf_176 rfl x1 ?_
        rw [zrow_ap, if_pos rfl]
        refine z_iadd iX8_totalOf_177 ?_
        refine z_push iX8_totalOf_178 ?_
        refine e_callS iX8_totalOf_179 kX8_214 (tX8_rounded _ _ _ (by first | exact x4 | decide)) rfl rfl ⟨Nat.le_of_ble_eq_true rfl, Nat.le_of_ble_eq_true rfl⟩ ⟨Nat.le_of_ble_eq_true rfl, Nat.le_of_ble_eq_true rfl⟩ (Nat.le_of_ble_eq_true rfl) ?_
        dsimp only [Option.toList, List.cons_append, List.nil_append]
        refine z_istore iX8_totalOf_182 rfl ?_
        dsimp only [List.set_cons_zero, List.set_cons_succ]
        refine z_goto iX8_totalOf_184 ?_
        refine z_to (by rw [show nGa F e = nrd (nSo F e (zn (nSe F e / 2 - 1)) + nSo F e (zn (nSe F e / 2))) 2 by rw [nGa, if_pos c117, if_neg (not_not_intro c138), if_pos c145]]) rfl (lqX8_totalOf F e he _ _)
      · refine z_aload iX8_totalOf_148 rfl ?_
        refine e_getR iX8_totalOf_149 fX8_110 rfl ?_
        refine z_iload iX8_totalOf_152 rfl ?_
        refine z_push iX8_totalOf_153 ?_
        refine z_idiv iX8_totalOf_154 (by decide) ?_
        refine e_iald iX8_totalOf_155 rfl x1 ?_
        rw [zrow_ap, if_pos rfl]
        refine z_goto iX8_totalOf_156 ?_
        refine z_istore iX8_totalOf_182 rfl ?_
        dsimp only [List.set_cons_zero, List.set_cons_succ]
        refine z_goto iX8_totalOf_184 ?_
        refine z_to (by rw [show nGa F e = nSo F e (zn (nSe F e / 2)) by rw [nGa, if_pos c117, if_neg (not_not_intro c138), if_neg (not_not_intro c145)]]) rfl (lqX8_totalOf F e he _ _)
  · refine z_iload iX8_totalOf_120 rfl ?_
    refine z_iload iX8_totalOf_122 rfl ?_
    refine e_callS iX8_totalOf_123 kX8_214 (tX8_rounded _ _ _ (by first | exact x4 | decide)) rfl rfl ⟨Nat.le_of_ble_eq_true rfl, Nat.le_of_ble_eq_true rfl⟩ ⟨Nat.le_of_ble_eq_true rfl, Nat.le_of_ble_eq_true rfl⟩ (Nat.le_of_ble_eq_true rfl) ?_
    dsimp only [Option.toList, List.cons_append, List.nil_append]
    refine z_istore iX8_totalOf_126 rfl ?_
    dsimp only [List.set_cons_zero, List.set_cons_succ]
    refine z_goto iX8_totalOf_128 ?_
    refine z_to (by rw [show nGa F e = nrd (nSu F e) (nSe F e) by rw [nGa, if_neg (not_not_intro c117)]]) rfl (lqX8_totalOf F e he _ _)

abbrev gNa (F : zFt) (e : Int32) : Nat → Int32 → Int32 := fun k a => a + (if nMa F e k ≤ 0 then 0 else 1)
abbrev nAb (F : zFt) (e : Int32) : Int32 := zfold (gNa F e) 0 (zn (nSe F e))

set_option maxRecDepth 100000 in
theorem lpX8_above {L : Nat} {R : Room} {Z : zZt} (F : zFt) (e : Int32) (he : vp_in e 60) (hc : vp_in (F 83 (zn e)) 12) (hs : zn (nSe F e) ≤ 5) (h0 : 0 ≤ (nSe F e).toInt) (h1 : 0 < zn (nSe F e)) (kk : zEV mX8_above R Z 46 [some (.ref 75), some (.int e), some (.int (zfold (gNa F e) 0 (zn (nSe F e)))), some (.int (nI (zn (nSe F e))))] [] 111 (zE L (F)) 0 0) : ∀ (n a : Nat), a + n = zn (nSe F e) → zEV mX8_above R Z 4 [some (.ref 75), some (.int e), some (.int (zfold (gNa F e) 0 a)), some (.int (nI a))] [] 111 (zE L (F)) 0 0 := by
  intro n
  induction n with
  | zero =>
    intro a ha
    obtain rfl : a = zn (nSe F e) := by omega
    refine z_iload iX8_above_4 rfl ?_
    refine z_aload iX8_above_5 rfl ?_
    refine e_getR iX8_above_6 fX8_16 rfl ?_
    refine z_aload iX8_above_9 rfl ?_
    refine e_getR iX8_above_10 fX8_32 rfl ?_
    refine z_iload iX8_above_13 rfl ?_
    refine e_iald iX8_above_14 rfl (by assumption) ?_
    refine e_iald iX8_above_15 rfl (by assumption) ?_
    refine z_icmp_ge iX8_above_16 (fun c16 => ?_) (fun c16 => ?_)
    · exact kk
    · exact absurd (up_end h0 rfl) c16
  | succ n ih =>
    intro a ha
    refine z_iload iX8_above_4 rfl ?_
    refine z_aload iX8_above_5 rfl ?_
    refine e_getR iX8_above_6 fX8_16 rfl ?_
    refine z_aload iX8_above_9 rfl ?_
    refine e_getR iX8_above_10 fX8_32 rfl ?_
    refine z_iload iX8_above_13 rfl ?_
    refine e_iald iX8_above_14 rfl (by assumption) ?_
    refine e_iald iX8_above_15 rfl (by assumption) ?_
    refine z_icmp_ge iX8_above_16 (fun c16 => ?_) (fun c16 => ?_)
    · exact absurd c16 (up_in (x := (nSe F e)) (by omega))
    · refine z_iload iX8_above_19 rfl ?_
      refine z_aload iX8_above_20 rfl ?_
      refine e_getR iX8_above_21 fX8_65 rfl ?_
      refine z_push iX8_above_24 ?_
      refine z_iload iX8_above_25 rfl ?_
      refine z_imul iX8_above_26 ?_
      refine z_iload iX8_above_27 rfl ?_
      refine z_iadd iX8_above_28 ?_
      refine e_iald iX8_above_29 rfl (ix5m he (by omega)) ?_
      refine z_if_le iX8_above_30 (fun c30 => ?_) (fun c30 => ?_)
      · refine z_push iX8_above_37 ?_
        refine z_iadd iX8_above_38 ?_
        refine z_istore iX8_above_39 rfl ?_
        dsimp only [List.set_cons_zero, List.set_cons_succ]
        refine z_iinc (v := 1) iX8_above_40 (by decide) (by decide) rfl rfl ?_
        dsimp only [List.set_cons_zero, List.set_cons_succ]
        refine z_goto iX8_above_43 ?_
        exact z_to (by rw [nI_1, zfold_s, gNa, if_pos c30]) rfl (ih (a + 1) (by omega))
      · refine z_push iX8_above_33 ?_
        refine z_goto iX8_above_34 ?_
        refine z_iadd iX8_above_38 ?_
        refine z_istore iX8_above_39 rfl ?_
        dsimp only [List.set_cons_zero, List.set_cons_succ]
        refine z_iinc (v := 1) iX8_above_40 (by decide) (by decide) rfl rfl ?_
        dsimp only [List.set_cons_zero, List.set_cons_succ]
        refine z_goto iX8_above_43 ?_
        exact z_to (by rw [nI_1, zfold_s, gNa, if_neg c30]) rfl (ih (a + 1) (by omega))

set_option maxRecDepth 100000 in
theorem tX8_above {L : Nat} (F : zFt) (e : Int32) (he : vp_in e 60) (hc : vp_in (F 83 (zn e)) 12) (hs : zn (nSe F e) ≤ 5) (h0 : 0 ≤ (nSe F e).toInt) (h1 : 0 < zn (nSe F e)) : zFn mX8_above 0 [.ref 75, .int e] L F (some (.int (nAb F e))) F := by
  refine e_of (lo := [some (.ref 75), some (.int e), none, none]) (by decide +kernel) (Nat.le_of_ble_eq_true rfl) rfl ?_
  refine z_push iX8_above_0 ?_
  refine z_istore iX8_above_1 rfl ?_
  dsimp only [List.set_cons_zero, List.set_cons_succ]
  refine z_push iX8_above_2 ?_
  refine z_istore iX8_above_3 rfl ?_
  dsimp only [List.set_cons_zero, List.set_cons_succ]
  refine lpX8_above F e he hc hs h0 h1 ?_ _ 0 (Nat.zero_add _)
  refine z_iload iX8_above_46 rfl ?_
  exact e_iret iX8_above_47 rfl ⟨rfl, rfl⟩

def okD (F : zFt) (e : Nat) : Prop := vp_in (F 83 e) 12 ∧ zn (F 78 (zn (F 83 e))) ≤ 5 ∧ 0 ≤ (F 78 (zn (F 83 e))).toInt ∧ 0 < zn (F 78 (zn (F 83 e)))
theorem okD_eq {F G : zFt} {e : Nat} (h : okD F e) (h1 : ∀ j, G 83 j = F 83 j) (h2 : ∀ j, G 78 j = F 78 j) : okD G e := by
  simp only [okD, h1, h2]
  exact h
def nTt (F : zFt) : Nat → zFt
  | 0 => F
  | a + 1 => zup (nTF (nTt F a) (nI a)) 110 a (nTv (nTt F a) (nI a))
theorem nTt_ne (F : zFt) {k : Nat} (h1 : k ≠ 109) (h2 : k ≠ 110) (j : Nat) : ∀ a, nTt F a k j = F k j
  | 0 => rfl
  | a + 1 => by rw [nTt, zup_ap, if_neg (by omega), nTF, zrow_ap, if_neg h1, nTt_ne F h1 h2 j a]

set_option maxRecDepth 100000 in
theorem lpX8_total {L : Nat} {Z : zZt} (F : zFt)  (h0 : 0 ≤ (F 75 9).toInt) (h6 : zn (F 75 9) ≤ 60) (ho : ∀ e, e < zn (F 75 9) → okD F e) (kk : zEV mX8_total (zrm 2 0 0) Z 27 [some (.ref 75), some (.int (nI (zn (F 75 9))))] [] 111 (zE L (nTt F (zn (F 75 9)))) 0 0) : ∀ (n a : Nat), a + n = zn (F 75 9) → zEV mX8_total (zrm 2 0 0) Z 2 [some (.ref 75), some (.int (nI a))] [] 111 (zE L (nTt F a)) 0 0 := by
  intro n
  induction n with
  | zero =>
    intro a ha
    obtain rfl : a = zn (F 75 9) := by omega
    refine z_iload iX8_total_2 rfl ?_
    refine z_aload iX8_total_3 rfl ?_
    refine e_getI iX8_total_4 fX8_127 rfl ?_
    rw [nTt_ne F (by decide) (by decide)]
    refine z_icmp_ge iX8_total_7 (fun c7 => ?_) (fun c7 => ?_)
    · exact kk
    · exact absurd (up_end h0 rfl) c7
  | succ n ih =>
    intro a ha
    refine z_iload iX8_total_2 rfl ?_
    refine z_aload iX8_total_3 rfl ?_
    refine e_getI iX8_total_4 fX8_127 rfl ?_
    rw [nTt_ne F (by decide) (by decide)]
    refine z_icmp_ge iX8_total_7 (fun c7 => ?_) (fun c7 => ?_)
    · exact absurd c7 (up_in (x := (F 75 9)) (by omega))
    · have ez : zn (nI a) = a := zn_nI (by omega)
      have hk := okD_eq (ho a (by omega)) (fun j => nTt_ne F (k := 83) (by decide) (by decide) j a) (fun j => nTt_ne F (k := 78) (by decide) (by decide) j a)
      refine z_aload iX8_total_10 rfl ?_
      refine e_getR iX8_total_11 fX8_113 rfl ?_
      refine z_iload iX8_total_14 rfl ?_
      refine z_aload iX8_total_15 rfl ?_
      refine z_iload iX8_total_16 rfl ?_
      refine e_callV iX8_total_17 kX8_217 (tX8_totalOf (nTt F a) (nI a) (vin_mk (by omega)) (by rw [ez]; exact hk.1) (by rw [nSe, ez]; exact hk.2.1) (by rw [nSe, ez]; exact hk.2.2.1) (by rw [nSe, ez]; exact hk.2.2.2)) rfl rfl rfl ⟨Nat.le_of_ble_eq_true rfl, Nat.le_of_ble_eq_true rfl⟩ ⟨Nat.le_of_ble_eq_true rfl, Nat.le_of_ble_eq_true rfl⟩ (Nat.le_of_ble_eq_true rfl) ?_
      dsimp only [Option.toList, List.cons_append, List.nil_append]
      refine e_iast iX8_total_20 rfl (vin_mk (n := 60) (by omega)) ?_
      rw [ez]
      refine z_iinc (v := 1) iX8_total_21 (by decide) (by decide) rfl rfl ?_
      dsimp only [List.set_cons_zero, List.set_cons_succ]
      refine z_goto iX8_total_24 ?_
      exact z_to (by simp [nI_1]) rfl (ih (a + 1) (by omega))

set_option maxRecDepth 100000 in
theorem tX8_total {L : Nat} (F : zFt) (h0 : 0 ≤ (F 75 9).toInt) (h6 : zn (F 75 9) ≤ 60) (ho : ∀ e, e < zn (F 75 9) → okD F e) : zFn mX8_total 2 [.ref 75] L F none (nTt F (zn (F 75 9))) := by
  refine e_of (lo := [some (.ref 75), none]) (by decide +kernel) (Nat.le_of_ble_eq_true rfl) rfl ?_
  refine z_push iX8_total_0 ?_
  refine z_istore iX8_total_1 rfl ?_
  dsimp only [List.set_cons_zero, List.set_cons_succ]
  refine lpX8_total F h0 h6 ho ?_ _ 0 (Nat.zero_add _)
  exact e_vret iX8_total_27 rfl ⟨rfl, rfl⟩
