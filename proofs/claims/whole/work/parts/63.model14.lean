abbrev gM1 (F : zFt) (e : Nat) : Nat → Int64 → Int64 := fun k h => zdg h (nMa F (nI e) k)
abbrev gM2 (F : zFt) : Nat → Int64 → Int64 := fun e h => zdg (zdg (zfl64 (gM1 F e) h (zn (F 78 (zn (F 83 e))))) (F 95 e)) (F 96 e)
abbrev gM3 (F : zFt) : Nat → Int64 → Int64 := fun i h => zdg (zdg (zdg (zdg (zdg h (F 89 i)) (F 90 i)) (F 91 i)) (F 92 i)) (if F 93 i = 0 then 0 else 1)
abbrev gM4 (F : zFt) : Nat → Int64 → Int64 := fun c h => zdg h (if F 80 c = 0 then 0 else 1)
abbrev gM5 (F : zFt) : Nat → Int32 → Int32 := fun s a => a + F 100 s

set_option maxRecDepth 100000 in
theorem liX8_digest {L : Nat} {R : Room} {Z : zZt} (F : zFt) (x : Int64) (e : Nat) (he : e < 60) (hc : vp_in (F 83 e) 12) (h0 : 0 ≤ (F 78 (zn (F 83 e))).toInt) (h5 : zn (F 78 (zn (F 83 e))) ≤ 5) (kk : zEV mX8_digest R Z 58 [some (.ref 75), some (.long (zfl64 (gM1 F e) x (zn (F 78 (zn (F 83 e)))))), none, some (.int (nI e)), some (.int (nI (zn (F 78 (zn (F 83 e))))))] [] 111 (zE L F) 0 0) : ∀ (n a : Nat), a + n = zn (F 78 (zn (F 83 e))) → zEV mX8_digest R Z 17 [some (.ref 75), some (.long (zfl64 (gM1 F e) x a)), none, some (.int (nI e)), some (.int (nI a))] [] 111 (zE L F) 0 0 := by
  intro n
  induction n with
  | zero =>
    intro a ha
    obtain rfl : a = zn (F 78 (zn (F 83 e))) := by omega
    refine z_iload iX8_digest_17 rfl ?_
    refine z_aload iX8_digest_19 rfl ?_
    refine e_getR iX8_digest_20 fX8_16 rfl ?_
    refine z_aload iX8_digest_23 rfl ?_
    refine e_getR iX8_digest_24 fX8_32 rfl ?_
    refine z_iload iX8_digest_27 rfl ?_
    refine e_iald iX8_digest_28 rfl (vin_mk (n := 60) (by omega)) ?_
    refine e_iald iX8_digest_29 rfl (by rw [zn_nI (by omega)]; exact hc) ?_
    rw [zn_nI (by omega)]
    refine z_icmp_ge iX8_digest_30 (fun c30 => ?_) (fun c30 => ?_)
    · exact kk
    · exact absurd (up_end h0 rfl) c30
  | succ n ih =>
    intro a ha
    have ez : zn (nI a) = a := zn_nI (by omega)
    have ee : zn (nI e) = e := zn_nI (by omega)
    refine z_iload iX8_digest_17 rfl ?_
    refine z_aload iX8_digest_19 rfl ?_
    refine e_getR iX8_digest_20 fX8_16 rfl ?_
    refine z_aload iX8_digest_23 rfl ?_
    refine e_getR iX8_digest_24 fX8_32 rfl ?_
    refine z_iload iX8_digest_27 rfl ?_
    refine e_iald iX8_digest_28 rfl (vin_mk (n := 60) (by omega)) ?_
    refine e_iald iX8_digest_29 rfl (by rw [ee]; exact hc) ?_
    rw [ee]
    refine z_icmp_ge iX8_digest_30 (fun c30 => ?_) (fun c30 => ?_)
    · exact absurd c30 (up_in (x := F 78 (zn (F 83 e))) (by omega))
    · refine z_pushl iX8_digest_33 ?_
      refine z_lload iX8_digest_36 rfl ?_
      refine z_lmul iX8_digest_37 ?_
      refine z_aload iX8_digest_38 rfl ?_
      refine e_getR iX8_digest_39 fX8_65 rfl ?_
      refine z_push iX8_digest_42 ?_
      refine z_iload iX8_digest_43 rfl ?_
      refine z_imul iX8_digest_44 ?_
      refine z_iload iX8_digest_45 rfl ?_
      refine z_iadd iX8_digest_47 ?_
      refine e_iald iX8_digest_48 rfl (ix5m (vin_mk he) (by omega)) ?_
      refine z_i2l iX8_digest_49 ?_
      refine z_ladd iX8_digest_50 ?_
      refine z_lstore iX8_digest_51 rfl ?_
      dsimp only [List.set_cons_zero, List.set_cons_succ]
      refine z_iinc (v := 1) iX8_digest_52 (by decide) (by decide) rfl rfl ?_
      dsimp only [List.set_cons_zero, List.set_cons_succ]
      refine z_goto iX8_digest_55 ?_
      rw [nI_1]
      exact ih (a + 1) (by omega)

set_option maxRecDepth 100000 in
theorem lpX8_digest {L : Nat} {R : Room} {Z : zZt} (F : zFt) (x : Int64) (h0 : 0 ≤ (F 75 9).toInt) (h6 : zn (F 75 9) ≤ 60) (ho : ∀ e, e < zn (F 75 9) → okD F e) (kk : ∀ u, zEV mX8_digest R Z 92 [some (.ref 75), some (.long (zfl64 (gM2 F) x (zn (F 75 9)))), none, some (.int (nI (zn (F 75 9)))), u] [] 111 (zE L F) 0 0) : ∀ (n a : Nat) (u : Option Value), a + n = zn (F 75 9) → zEV mX8_digest R Z 6 [some (.ref 75), some (.long (zfl64 (gM2 F) x a)), none, some (.int (nI a)), u] [] 111 (zE L F) 0 0 := by
  intro n
  induction n with
  | zero =>
    intro a u ha
    obtain rfl : a = zn (F 75 9) := by omega
    refine z_iload iX8_digest_6 rfl ?_
    refine z_aload iX8_digest_7 rfl ?_
    refine e_getI iX8_digest_8 fX8_127 rfl ?_
    refine z_icmp_ge iX8_digest_11 (fun c11 => ?_) (fun c11 => ?_)
    · exact kk _
    · exact absurd (up_end h0 rfl) c11
  | succ n ih =>
    intro a u ha
    have ez : zn (nI a) = a := zn_nI (by omega)
    refine z_iload iX8_digest_6 rfl ?_
    refine z_aload iX8_digest_7 rfl ?_
    refine e_getI iX8_digest_8 fX8_127 rfl ?_
    refine z_icmp_ge iX8_digest_11 (fun c11 => ?_) (fun c11 => ?_)
    · exact absurd c11 (up_in (x := F 75 9) (by omega))
    · refine z_push iX8_digest_14 ?_
      refine z_istore iX8_digest_15 rfl ?_
      dsimp only [List.set_cons_zero, List.set_cons_succ]
      have hk := ho a (by omega)
      refine liX8_digest F _ a (by omega) hk.1 hk.2.2.1 hk.2.1 ?_ _ 0 (Nat.zero_add _)
      refine z_pushl iX8_digest_58 ?_
      refine z_lload iX8_digest_61 rfl ?_
      refine z_lmul iX8_digest_62 ?_
      refine z_aload iX8_digest_63 rfl ?_
      refine e_getR iX8_digest_64 fX8_68 rfl ?_
      refine z_iload iX8_digest_67 rfl ?_
      refine e_iald iX8_digest_68 rfl (vin_mk (n := 60) (by omega)) ?_
      rw [ez]
      refine z_i2l iX8_digest_69 ?_
      refine z_ladd iX8_digest_70 ?_
      refine z_lstore iX8_digest_71 rfl ?_
      dsimp only [List.set_cons_zero, List.set_cons_succ]
      refine z_pushl iX8_digest_72 ?_
      refine z_lload iX8_digest_75 rfl ?_
      refine z_lmul iX8_digest_76 ?_
      refine z_aload iX8_digest_77 rfl ?_
      refine e_getR iX8_digest_78 fX8_71 rfl ?_
      refine z_iload iX8_digest_81 rfl ?_
      refine e_iald iX8_digest_82 rfl (vin_mk (n := 60) (by omega)) ?_
      rw [ez]
      refine z_i2l iX8_digest_83 ?_
      refine z_ladd iX8_digest_84 ?_
      refine z_lstore iX8_digest_85 rfl ?_
      dsimp only [List.set_cons_zero, List.set_cons_succ]
      refine z_iinc (v := 1) iX8_digest_86 (by decide) (by decide) rfl rfl ?_
      dsimp only [List.set_cons_zero, List.set_cons_succ]
      refine z_goto iX8_digest_89 ?_
      rw [nI_1]
      exact ih (a + 1) _ (by omega)

set_option maxRecDepth 100000 in
theorem lqX8_digest {L : Nat} {R : Room} {Z : zZt} (F : zFt) (x : Int64) (h0 : 0 ≤ (F 75 19).toInt) (h4 : zn (F 75 19) ≤ 400) (kk : ∀ u, zEV mX8_digest R Z 186 [some (.ref 75), some (.long (zfl64 (gM3 F) x (zn (F 75 19)))), none, some (.int (nI (zn (F 75 19)))), u] [] 111 (zE L F) 0 0) : ∀ (n a : Nat) (u : Option Value), a + n = zn (F 75 19) → zEV mX8_digest R Z 94 [some (.ref 75), some (.long (zfl64 (gM3 F) x a)), none, some (.int (nI a)), u] [] 111 (zE L F) 0 0 := by
  intro n
  induction n with
  | zero =>
    intro a u ha
    obtain rfl : a = zn (F 75 19) := by omega
    refine z_iload iX8_digest_94 rfl ?_
    refine z_aload iX8_digest_95 rfl ?_
    refine e_getI iX8_digest_96 fX8_144 rfl ?_
    refine z_icmp_ge iX8_digest_99 (fun c99 => ?_) (fun c99 => ?_)
    · exact kk _
    · exact absurd (up_end h0 rfl) c99
  | succ n ih =>
    intro a u ha
    have ez : zn (nI a) = a := zn_nI (by omega)
    refine z_iload iX8_digest_94 rfl ?_
    refine z_aload iX8_digest_95 rfl ?_
    refine e_getI iX8_digest_96 fX8_144 rfl ?_
    refine z_icmp_ge iX8_digest_99 (fun c99 => ?_) (fun c99 => ?_)
    · exact absurd c99 (up_in (x := F 75 19) (by omega))
    · refine z_pushl iX8_digest_102 ?_
      refine z_lload iX8_digest_105 rfl ?_
      refine z_lmul iX8_digest_106 ?_
      refine z_aload iX8_digest_107 rfl ?_
      refine e_getR iX8_digest_108 fX8_50 rfl ?_
      refine z_iload iX8_digest_111 rfl ?_
      refine e_iald iX8_digest_112 rfl (vin_mk (n := 400) (by omega)) ?_
      rw [ez]
      refine z_i2l iX8_digest_113 ?_
      refine z_ladd iX8_digest_114 ?_
      refine z_lstore iX8_digest_115 rfl ?_
      dsimp only [List.set_cons_zero, List.set_cons_succ]
      refine z_pushl iX8_digest_116 ?_
      refine z_lload iX8_digest_119 rfl ?_
      refine z_lmul iX8_digest_120 ?_
      refine z_aload iX8_digest_121 rfl ?_
      refine e_getR iX8_digest_122 fX8_53 rfl ?_
      refine z_iload iX8_digest_125 rfl ?_
      refine e_iald iX8_digest_126 rfl (vin_mk (n := 400) (by omega)) ?_
      rw [ez]
      refine z_i2l iX8_digest_127 ?_
      refine z_ladd iX8_digest_128 ?_
      refine z_lstore iX8_digest_129 rfl ?_
      dsimp only [List.set_cons_zero, List.set_cons_succ]
      refine z_pushl iX8_digest_130 ?_
      refine z_lload iX8_digest_133 rfl ?_
      refine z_lmul iX8_digest_134 ?_
      refine z_aload iX8_digest_135 rfl ?_
      refine e_getR iX8_digest_136 fX8_56 rfl ?_
      refine z_iload iX8_digest_139 rfl ?_
      refine e_iald iX8_digest_140 rfl (vin_mk (n := 400) (by omega)) ?_
      rw [ez]
      refine z_i2l iX8_digest_141 ?_
      refine z_ladd iX8_digest_142 ?_
      refine z_lstore iX8_digest_143 rfl ?_
      dsimp only [List.set_cons_zero, List.set_cons_succ]
      refine z_pushl iX8_digest_144 ?_
      refine z_lload iX8_digest_147 rfl ?_
      refine z_lmul iX8_digest_148 ?_
      refine z_aload iX8_digest_149 rfl ?_
      refine e_getR iX8_digest_150 fX8_59 rfl ?_
      refine z_iload iX8_digest_153 rfl ?_
      refine e_iald iX8_digest_154 rfl (vin_mk (n := 400) (by omega)) ?_
      rw [ez]
      refine z_i2l iX8_digest_155 ?_
      refine z_ladd iX8_digest_156 ?_
      refine z_lstore iX8_digest_157 rfl ?_
      dsimp only [List.set_cons_zero, List.set_cons_succ]
      refine z_pushl iX8_digest_158 ?_
      refine z_lload iX8_digest_161 rfl ?_
      refine z_lmul iX8_digest_162 ?_
      refine z_aload iX8_digest_163 rfl ?_
      refine e_getR iX8_digest_164 fX8_62 rfl ?_
      refine z_iload iX8_digest_167 rfl ?_
      refine e_bald iX8_digest_168 rfl (vin_mk (n := 400) (by omega)) ?_
      rw [ez]
      refine z_if_eq iX8_digest_169 (fun c169 => ?_) (fun c169 => ?_)
      · refine z_push iX8_digest_176 ?_
        refine z_i2l iX8_digest_177 ?_
        refine z_ladd iX8_digest_178 ?_
        refine z_lstore iX8_digest_179 rfl ?_
        dsimp only [List.set_cons_zero, List.set_cons_succ]
        refine z_iinc (v := 1) iX8_digest_180 (by decide) (by decide) rfl rfl ?_
        dsimp only [List.set_cons_zero, List.set_cons_succ]
        refine z_goto iX8_digest_183 ?_
        rw [nI_1]
        exact z_to (by rw [zfl64, gM3, if_pos c169]; rfl) rfl (ih (a + 1) _ (by omega))
      · refine z_push iX8_digest_172 ?_
        refine z_goto iX8_digest_173 ?_
        refine z_i2l iX8_digest_177 ?_
        refine z_ladd iX8_digest_178 ?_
        refine z_lstore iX8_digest_179 rfl ?_
        dsimp only [List.set_cons_zero, List.set_cons_succ]
        refine z_iinc (v := 1) iX8_digest_180 (by decide) (by decide) rfl rfl ?_
        dsimp only [List.set_cons_zero, List.set_cons_succ]
        refine z_goto iX8_digest_183 ?_
        rw [nI_1]
        exact z_to (by rw [zfl64, gM3, if_neg c169]; rfl) rfl (ih (a + 1) _ (by omega))

set_option maxRecDepth 100000 in
theorem lrX8_digest {L : Nat} {R : Room} {Z : zZt} (F : zFt) (x : Int64) (y : Int32) (h0 : 0 ≤ (F 75 0).toInt) (h4 : zn (F 75 0) ≤ 12) (kk : zEV mX8_digest R Z 229 [some (.ref 75), some (.long (zfl64 (gM4 F) x (zn (F 75 0)))), none, some (.int y), some (.int (nI (zn (F 75 0))))] [] 111 (zE L F) 0 0) : ∀ (n a : Nat), a + n = zn (F 75 0) → zEV mX8_digest R Z 191 [some (.ref 75), some (.long (zfl64 (gM4 F) x a)), none, some (.int y), some (.int (nI a))] [] 111 (zE L F) 0 0 := by
  intro n
  induction n with
  | zero =>
    intro a ha
    obtain rfl : a = zn (F 75 0) := by omega
    refine z_iload iX8_digest_191 rfl ?_
    refine z_aload iX8_digest_193 rfl ?_
    refine e_getI iX8_digest_194 fX8_120 rfl ?_
    refine z_icmp_ge iX8_digest_197 (fun c197 => ?_) (fun c197 => ?_)
    · exact kk
    · exact absurd (up_end h0 rfl) c197
  | succ n ih =>
    intro a ha
    have ez : zn (nI a) = a := zn_nI (by omega)
    refine z_iload iX8_digest_191 rfl ?_
    refine z_aload iX8_digest_193 rfl ?_
    refine e_getI iX8_digest_194 fX8_120 rfl ?_
    refine z_icmp_ge iX8_digest_197 (fun c197 => ?_) (fun c197 => ?_)
    · exact absurd c197 (up_in (x := F 75 0) (by omega))
    · refine z_pushl iX8_digest_200 ?_
      refine z_lload iX8_digest_203 rfl ?_
      refine z_lmul iX8_digest_204 ?_
      refine z_aload iX8_digest_205 rfl ?_
      refine e_getR iX8_digest_206 fX8_22 rfl ?_
      refine z_iload iX8_digest_209 rfl ?_
      refine e_bald iX8_digest_211 rfl (vin_mk (n := 12) (by omega)) ?_
      rw [ez]
      refine z_if_eq iX8_digest_212 (fun c212 => ?_) (fun c212 => ?_)
      · refine z_push iX8_digest_219 ?_
        refine z_i2l iX8_digest_220 ?_
        refine z_ladd iX8_digest_221 ?_
        refine z_lstore iX8_digest_222 rfl ?_
        dsimp only [List.set_cons_zero, List.set_cons_succ]
        refine z_iinc (v := 1) iX8_digest_223 (by decide) (by decide) rfl rfl ?_
        dsimp only [List.set_cons_zero, List.set_cons_succ]
        refine z_goto iX8_digest_226 ?_
        rw [nI_1]
        exact z_to (by rw [zfl64, gM4, if_pos c212]; rfl) rfl (ih (a + 1) (by omega))
      · refine z_push iX8_digest_215 ?_
        refine z_goto iX8_digest_216 ?_
        refine z_i2l iX8_digest_220 ?_
        refine z_ladd iX8_digest_221 ?_
        refine z_lstore iX8_digest_222 rfl ?_
        dsimp only [List.set_cons_zero, List.set_cons_succ]
        refine z_iinc (v := 1) iX8_digest_223 (by decide) (by decide) rfl rfl ?_
        dsimp only [List.set_cons_zero, List.set_cons_succ]
        refine z_goto iX8_digest_226 ?_
        rw [nI_1]
        exact z_to (by rw [zfl64, gM4, if_neg c212]; rfl) rfl (ih (a + 1) (by omega))

set_option maxRecDepth 100000 in
theorem lsX8_digest {L : Nat} {R : Room} {Z : zZt} (F : zFt) (x : Int64) (h0 : 0 ≤ (F 75 28).toInt) (h4 : zn (F 75 28) ≤ 8) (kk : zEV mX8_digest R Z 257 [some (.ref 75), some (.long x), none, some (.int (zfold (gM5 F) 0 (zn (F 75 28)))), some (.int (nI (zn (F 75 28))))] [] 111 (zE L F) 0 0) : ∀ (n a : Nat), a + n = zn (F 75 28) → zEV mX8_digest R Z 232 [some (.ref 75), some (.long x), none, some (.int (zfold (gM5 F) 0 a)), some (.int (nI a))] [] 111 (zE L F) 0 0 := by
  intro n
  induction n with
  | zero =>
    intro a ha
    obtain rfl : a = zn (F 75 28) := by omega
    refine z_iload iX8_digest_232 rfl ?_
    refine z_aload iX8_digest_234 rfl ?_
    refine e_getI iX8_digest_235 fX8_116 rfl ?_
    refine z_icmp_ge iX8_digest_238 (fun c238 => ?_) (fun c238 => ?_)
    · exact kk
    · exact absurd (up_end h0 rfl) c238
  | succ n ih =>
    intro a ha
    have ez : zn (nI a) = a := zn_nI (by omega)
    refine z_iload iX8_digest_232 rfl ?_
    refine z_aload iX8_digest_234 rfl ?_
    refine e_getI iX8_digest_235 fX8_116 rfl ?_
    refine z_icmp_ge iX8_digest_238 (fun c238 => ?_) (fun c238 => ?_)
    · exact absurd c238 (up_in (x := F 75 28) (by omega))
    · refine z_iload iX8_digest_241 rfl ?_
      refine z_aload iX8_digest_242 rfl ?_
      refine e_getR iX8_digest_243 fX8_83 rfl ?_
      refine z_iload iX8_digest_246 rfl ?_
      refine e_iald iX8_digest_248 rfl (vin_mk (n := 8) (by omega)) ?_
      rw [ez]
      refine z_iadd iX8_digest_249 ?_
      refine z_istore iX8_digest_250 rfl ?_
      dsimp only [List.set_cons_zero, List.set_cons_succ]
      refine z_iinc (v := 1) iX8_digest_251 (by decide) (by decide) rfl rfl ?_
      dsimp only [List.set_cons_zero, List.set_cons_succ]
      refine z_goto iX8_digest_254 ?_
      rw [nI_1]
      exact ih (a + 1) (by omega)

def qDigest (F : zFt) : Int64 := zdg (zdg (zfl64 (gM4 F) (zfl64 (gM3 F) (zfl64 (gM2 F) 37 (zn (F 75 9))) (zn (F 75 19))) (zn (F 75 0))) (F 75 28)) (zfold (gM5 F) 0 (zn (F 75 28)))

set_option maxRecDepth 100000 in
theorem tX8_digest {L : Nat} (F : zFt) (h0 : 0 ≤ (F 75 9).toInt) (h6 : zn (F 75 9) ≤ 60) (ho : ∀ e, e < zn (F 75 9) → okD F e) (h1 : 0 ≤ (F 75 19).toInt ∧ zn (F 75 19) ≤ 400) (h2 : 0 ≤ (F 75 0).toInt ∧ zn (F 75 0) ≤ 12) (h3 : 0 ≤ (F 75 28).toInt ∧ zn (F 75 28) ≤ 8) : zFn mX8_digest 0 [.ref 75] L F (some (.long (qDigest F))) F := by
  refine e_of (lo := [some (.ref 75), none, none, none, none]) (by decide +kernel) (Nat.le_of_ble_eq_true rfl) rfl ?_
  refine z_pushl iX8_digest_0 ?_
  refine z_lstore iX8_digest_3 rfl ?_
  dsimp only [List.set_cons_zero, List.set_cons_succ]
  refine z_push iX8_digest_4 ?_
  refine z_istore iX8_digest_5 rfl ?_
  dsimp only [List.set_cons_zero, List.set_cons_succ]
  refine lpX8_digest F _ h0 h6 ho (fun u => ?_) _ 0 none (Nat.zero_add _)
  refine z_push iX8_digest_92 ?_
  refine z_istore iX8_digest_93 rfl ?_
  dsimp only [List.set_cons_zero, List.set_cons_succ]
  refine lqX8_digest F _ h1.1 h1.2 (fun u => ?_) _ 0 _ (Nat.zero_add _)
  refine z_push iX8_digest_186 ?_
  refine z_istore iX8_digest_187 rfl ?_
  dsimp only [List.set_cons_zero, List.set_cons_succ]
  refine z_push iX8_digest_188 ?_
  refine z_istore iX8_digest_189 rfl ?_
  dsimp only [List.set_cons_zero, List.set_cons_succ]
  refine lrX8_digest F _ _ h2.1 h2.2 ?_ _ 0 (Nat.zero_add _)
  refine z_push iX8_digest_229 ?_
  refine z_istore iX8_digest_230 rfl ?_
  dsimp only [List.set_cons_zero, List.set_cons_succ]
  refine lsX8_digest F _ h3.1 h3.2 ?_ _ 0 (Nat.zero_add _)
  refine z_pushl iX8_digest_257 ?_
  refine z_lload iX8_digest_260 rfl ?_
  refine z_lmul iX8_digest_261 ?_
  refine z_aload iX8_digest_262 rfl ?_
  refine e_getI iX8_digest_263 fX8_116 rfl ?_
  refine z_i2l iX8_digest_266 ?_
  refine z_ladd iX8_digest_267 ?_
  refine z_lstore iX8_digest_268 rfl ?_
  dsimp only [List.set_cons_zero, List.set_cons_succ]
  refine z_pushl iX8_digest_269 ?_
  refine z_lload iX8_digest_272 rfl ?_
  refine z_lmul iX8_digest_273 ?_
  refine z_iload iX8_digest_274 rfl ?_
  refine z_i2l iX8_digest_275 ?_
  refine z_ladd iX8_digest_276 ?_
  exact e_lret iX8_digest_277 rfl ⟨rfl, rfl⟩
