theorem nFl_s {n g : Nat} {F : zFt} {k q : Int32} (h : nLx F n k (zn (F 103 n)) = some g) : nFl (n + 1) F k q = (2, nCa F n g) := by rw [nFl, h]
theorem nFl_0 {n : Nat} {F : zFt} {k q : Int32} (h : nLx F n k (zn (F 103 n)) = none) (hn : n = 0) : nFl (n + 1) F k q = (1, nDr (nSp F q (zn (F 75 11))) n) := by
  rw [nFl, h]
  show (if n = 0 then _ else _) = _
  rw [if_pos hn]
theorem nFl_n {n : Nat} {F : zFt} {k q : Int32} (h : nLx F n k (zn (F 103 n)) = none) (hn : ¬ n = 0) : nFl (n + 1) F k q = nFl n (nNo (nDr (nSp F q (zn (F 75 11))) n) (nkf k) (-1) q (-1)) (nkf k) (nDr (nSp F q (zn (F 75 11))) n 75 38 + 1 - 1) := by
  rw [nFl, h]
  show (if n = 0 then _ else _) = _
  rw [if_neg hn]
theorem nCv_ok {F : zFt} {s g t : Nat} (h : okY F s t) (hs : s < 8) : (¬ nCk (nC1 F) s g = -1 → vp_in (16 * nI s + nCk (nC1 F) s g) 128) ∧ 0 ≤ (nCv F s g).toInt ∧ zn (nCv F s g) ≤ t := by
  have e : nCk (nC1 F) s g = nPl (nC1 F) s (nC1 F 105 (s * 8 + g)) (zn (F 100 s)) := rfl
  rcases nPl_in (nC1 F) s (nC1 F 105 (s * 8 + g)) (zn (F 100 s)) h.2.1.2 with q | ⟨j, hj, q⟩
  · rw [nCv, e, q]
    refine ⟨fun z => absurd rfl z, ?_⟩
    rw [if_neg (not_not_intro rfl)]
    exact h.2.2.2.1
  · have h16 := h.2.1.2
    rw [nCv, e, q, nI_16m, nI_add]
    refine ⟨fun _ => vin_mk (by omega), ?_⟩
    rw [if_pos (fun z => by
      have := congrArg Int32.toInt z
      rw [nI_int (by omega)] at this
      simp at this), zn_nI (by omega)]
    exact h.2.2.2.2 j hj

set_option maxRecDepth 100000 in
theorem lpX8_failed {L : Nat} (x y : Int32) : ∀ (N n : Nat), n < N → ∀ (F : zFt) (c q : Int32) (u1 u2 u3 u4 : Option Value), NI F (n + 1) (32 * (n + 1)) → zEV mX8_failed (zrm 3 0 0) (zZf L (some (.int (nFl (n + 1) F c q).1)) (nFl (n + 1) F c q).2) 12 [some (.ref 75), some (.int x), some (.int y), some (.int c), some (.int q), u1, u2, u3, u4] [] 111 (zE L F) 0 0 := by
  intro N
  induction N with
  | zero =>
    intro n hn
    omega
  | succ N ih =>
    intro n hnN F c q u1 u2 u3 u4 hF
    have hn8 : n < 8 := by have := hF.2.1; omega
    have hat := NI_at hF
    have hy := hat.2.2.1
    have ez : zn (nI n) = n := zn_nI (by omega)
    have hr24 := hF.2.2.2.1.2
    have hsp : NI (nSp F q (zn (F 75 11))) (n + 1) (32 * n + 8) := NI_sp q _ (NI_le hF (by omega))
    have hy2 := (NI_at hsp).2.2.1
    have hd : NI (nDr (nSp F q (zn (F 75 11))) n) n (32 * n + 1) := NI_le (NI_dr hsp) (by omega)
    refine z_aload iX8_failed_12 rfl ?_
    refine e_getI iX8_failed_13 fX8_116 rfl ?_
    refine z_push iX8_failed_16 ?_
    refine z_isub iX8_failed_17 ?_
    rw [hat.1]
    refine z_istore iX8_failed_18 rfl ?_
    dsimp only [List.set_cons_zero, List.set_cons_succ]
    refine z_aload iX8_failed_20 rfl ?_
    refine e_getR iX8_failed_21 fX8_92 rfl ?_
    refine z_iload iX8_failed_24 rfl ?_
    refine e_iald iX8_failed_26 rfl (vin_mk (n := 8) (by omega)) ?_
    rw [ez]
    refine z_push iX8_failed_27 ?_
    refine z_isub iX8_failed_28 ?_
    refine z_istore iX8_failed_29 rfl ?_
    dsimp only [List.set_cons_zero, List.set_cons_succ]
    refine z_to (lo' := [some (.ref 75), some (.int x), some (.int y), some (.int c), some (.int q), some (.int (nI n)), some (.int (nI (zn (F 103 n)) - 1)), u3, u4]) (by rw [nI_zn hy.2.2.1.1]) rfl (lgX8_failed F n hn8 x y c q u3 u4 _ hy.2.2.1.2 ⟨fun hg => ?_, fun g hg hg8 => ?_⟩)
    · refine z_push iX8_failed_142 ?_
      refine z_istore iX8_failed_143 rfl ?_
      dsimp only [List.set_cons_zero, List.set_cons_succ]
      refine lrX8_failed F n (32 * n + 8) (NI_le hF (by omega)) x y c q _ _ (fun u v => ?_) _ 0 _ (Nat.zero_add _)
      refine z_aload iX8_failed_198 rfl ?_
      refine z_dup iX8_failed_199 rfl ?_
      refine e_getI iX8_failed_200 fX8_116 rfl ?_
      rw [nSp_ne F q (by decide) (by decide)]
      refine z_push iX8_failed_203 ?_
      refine z_isub iX8_failed_204 ?_
      rw [hat.1]
      refine e_putI iX8_failed_205 fX8_116 fw8_28 rfl ?_
      refine z_aload iX8_failed_208 rfl ?_
      refine z_aload iX8_failed_209 rfl ?_
      refine e_getR iX8_failed_210 fX8_80 rfl ?_
      refine z_iload iX8_failed_213 rfl ?_
      refine e_iald iX8_failed_215 rfl (vin_mk (n := 8) (by omega)) ?_
      rw [ez]
      rw [show zup (nSp F q (zn (F 75 11))) 75 28 (nI n) 99 n = nSp F q (zn (F 75 11)) 99 n from rfl]
      refine e_callV iX8_failed_216 kX8_188 (tX8_goBack (zup (nSp F q (zn (F 75 11))) 75 28 (nI n)) (nSp F q (zn (F 75 11)) 99 n) hy2.2.2.2.1.1 (by have h1 := hy2.2.2.2.1.2; have h2 := hsp.2.2.1.2.1; omega) (fun i hi => okN_eq (hsp.2.2.1.2.2 i (by have h1 := hy2.2.2.2.1.2; omega)) (fun a b hab => by rw [zup_ap, if_neg (by omega)]))) rfl rfl rfl ⟨Nat.le_of_ble_eq_true rfl, Nat.le_of_ble_eq_true rfl⟩ ⟨Nat.le_of_ble_eq_true rfl, Nat.le_of_ble_eq_true rfl⟩ (Nat.le_of_ble_eq_true rfl) ?_
      dsimp only [Option.toList, List.cons_append, List.nil_append]
      refine z_aload iX8_failed_219 rfl ?_
      refine e_getI iX8_failed_220 fX8_116 rfl ?_
      rw [show nGo (zup (nSp F q (zn (F 75 11))) 75 28 (nI n)) (nSp F q (zn (F 75 11)) 99 n) 75 28 = nI n from hd.1]
      refine z_if_ne iX8_failed_223 (fun c223 => ?_) (fun c223 => ?_)
      · have hn0 : ¬ n = 0 := fun z => c223 (by rw [z]; rfl)
        rw [nFl_n hg hn0]
        refine z_iload iX8_failed_228 rfl ?_
        refine z_push iX8_failed_229 ?_
        refine e_callS iX8_failed_230 kX8_178 (tX8_isOf _ _ _) rfl rfl ⟨Nat.le_of_ble_eq_true rfl, Nat.le_of_ble_eq_true rfl⟩ ⟨Nat.le_of_ble_eq_true rfl, Nat.le_of_ble_eq_true rfl⟩ (Nat.le_of_ble_eq_true rfl) ?_
        dsimp only [Option.toList, List.cons_append, List.nil_append]
        refine z_if_eq iX8_failed_233 (fun c233 => ?_) (fun c233 => ?_)
        · rw [zb_0] at c233
          refine z_iload iX8_failed_240 rfl ?_
          refine z_push iX8_failed_241 ?_
          refine e_callS iX8_failed_242 kX8_178 (tX8_isOf _ _ _) rfl rfl ⟨Nat.le_of_ble_eq_true rfl, Nat.le_of_ble_eq_true rfl⟩ ⟨Nat.le_of_ble_eq_true rfl, Nat.le_of_ble_eq_true rfl⟩ (Nat.le_of_ble_eq_true rfl) ?_
          dsimp only [Option.toList, List.cons_append, List.nil_append]
          refine z_if_eq iX8_failed_245 (fun c245 => ?_) (fun c245 => ?_)
          · rw [zb_0] at c245
            refine z_push iX8_failed_253 ?_
            rw [show (9 : Int32) = nkf c by rw [nkf, if_pos c233, if_pos c245]]
            refine z_istore iX8_failed_255 rfl ?_
            dsimp only [List.set_cons_zero, List.set_cons_succ]
            refine z_aload iX8_failed_256 rfl ?_
            refine z_iload iX8_failed_257 rfl ?_
            refine z_push iX8_failed_258 ?_
            refine z_iload iX8_failed_259 rfl ?_
            refine z_push iX8_failed_261 ?_
            refine e_callV iX8_failed_262 kX8_174 (tX8_note (nDr (nSp F q (zn (F 75 11))) n) (nkf c) (-1) q (-1) hd.2.2.2.2.1.1) rfl rfl rfl ⟨Nat.le_of_ble_eq_true rfl, Nat.le_of_ble_eq_true rfl⟩ ⟨Nat.le_of_ble_eq_true rfl, Nat.le_of_ble_eq_true rfl⟩ (Nat.le_of_ble_eq_true rfl) ?_
            dsimp only [Option.toList, List.cons_append, List.nil_append]
            refine z_istore iX8_failed_265 rfl ?_
            dsimp only [List.set_cons_zero, List.set_cons_succ]
            refine z_goto iX8_failed_267 ?_
            obtain ⟨p, rfl⟩ : ∃ p, n = p + 1 := ⟨n - 1, by omega⟩
            exact ih p (by omega) _ _ _ _ _ _ _ (NI_le (NI_no hd _ _ _ _) (by omega))
          · rw [zb_n] at c245
            refine z_push iX8_failed_248 ?_
            refine z_goto iX8_failed_250 ?_
            rw [show (7 : Int32) = nkf c by rw [nkf, if_pos c233, if_neg (by rw [c245]; decide)]]
            refine z_istore iX8_failed_255 rfl ?_
            dsimp only [List.set_cons_zero, List.set_cons_succ]
            refine z_aload iX8_failed_256 rfl ?_
            refine z_iload iX8_failed_257 rfl ?_
            refine z_push iX8_failed_258 ?_
            refine z_iload iX8_failed_259 rfl ?_
            refine z_push iX8_failed_261 ?_
            refine e_callV iX8_failed_262 kX8_174 (tX8_note (nDr (nSp F q (zn (F 75 11))) n) (nkf c) (-1) q (-1) hd.2.2.2.2.1.1) rfl rfl rfl ⟨Nat.le_of_ble_eq_true rfl, Nat.le_of_ble_eq_true rfl⟩ ⟨Nat.le_of_ble_eq_true rfl, Nat.le_of_ble_eq_true rfl⟩ (Nat.le_of_ble_eq_true rfl) ?_
            dsimp only [Option.toList, List.cons_append, List.nil_append]
            refine z_istore iX8_failed_265 rfl ?_
            dsimp only [List.set_cons_zero, List.set_cons_succ]
            refine z_goto iX8_failed_267 ?_
            obtain ⟨p, rfl⟩ : ∃ p, n = p + 1 := ⟨n - 1, by omega⟩
            exact ih p (by omega) _ _ _ _ _ _ _ (NI_le (NI_no hd _ _ _ _) (by omega))
        · rw [zb_n] at c233
          refine z_push iX8_failed_236 ?_
          refine z_goto iX8_failed_237 ?_
          rw [show (4 : Int32) = nkf c by rw [nkf, if_neg (by rw [c233]; decide)]]
          refine z_istore iX8_failed_255 rfl ?_
          dsimp only [List.set_cons_zero, List.set_cons_succ]
          refine z_aload iX8_failed_256 rfl ?_
          refine z_iload iX8_failed_257 rfl ?_
          refine z_push iX8_failed_258 ?_
          refine z_iload iX8_failed_259 rfl ?_
          refine z_push iX8_failed_261 ?_
          refine e_callV iX8_failed_262 kX8_174 (tX8_note (nDr (nSp F q (zn (F 75 11))) n) (nkf c) (-1) q (-1) hd.2.2.2.2.1.1) rfl rfl rfl ⟨Nat.le_of_ble_eq_true rfl, Nat.le_of_ble_eq_true rfl⟩ ⟨Nat.le_of_ble_eq_true rfl, Nat.le_of_ble_eq_true rfl⟩ (Nat.le_of_ble_eq_true rfl) ?_
          dsimp only [Option.toList, List.cons_append, List.nil_append]
          refine z_istore iX8_failed_265 rfl ?_
          dsimp only [List.set_cons_zero, List.set_cons_succ]
          refine z_goto iX8_failed_267 ?_
          obtain ⟨p, rfl⟩ : ∃ p, n = p + 1 := ⟨n - 1, by omega⟩
          exact ih p (by omega) _ _ _ _ _ _ _ (NI_le (NI_no hd _ _ _ _) (by omega))
      · have hn0 : n = 0 := by
          rcases Nat.eq_zero_or_pos n with z | z
          · exact z
          · exact absurd c223 (nI_ne0 z (by omega))
        rw [nFl_0 hg hn0]
        refine z_push iX8_failed_226 ?_
        exact e_iret iX8_failed_227 rfl ⟨rfl, rfl⟩
    · have hcv := nCv_ok (g := g) hy hn8
      rw [nFl_s hg]
      refine z_aload iX8_failed_67 rfl ?_
      refine z_dup iX8_failed_68 rfl ?_
      refine e_getI iX8_failed_69 fX8_182 rfl ?_
      refine z_push iX8_failed_72 ?_
      refine z_iadd iX8_failed_73 ?_
      refine e_putI iX8_failed_74 fX8_182 fw8_39 rfl ?_
      refine z_aload iX8_failed_77 rfl ?_
      refine z_aload iX8_failed_78 rfl ?_
      refine e_getR iX8_failed_79 fX8_98 rfl ?_
      refine z_push iX8_failed_82 ?_
      refine z_iload iX8_failed_84 rfl ?_
      refine z_imul iX8_failed_86 ?_
      refine z_iload iX8_failed_87 rfl ?_
      refine z_iadd iX8_failed_89 ?_
      rw [nI_8m, nI_add]
      refine e_iald iX8_failed_90 rfl (vin_mk (n := 64) (by omega)) ?_
      rw [zn_nI (by omega)]
      refine e_callV iX8_failed_91 kX8_185 (tX8_placeOf (nC1 F) (F 105 (n * 8 + g)) n hn8 hF.1 hy.2.1) rfl rfl rfl ⟨Nat.le_of_ble_eq_true rfl, Nat.le_of_ble_eq_true rfl⟩ ⟨Nat.le_of_ble_eq_true rfl, Nat.le_of_ble_eq_true rfl⟩ (Nat.le_of_ble_eq_true rfl) ?_
      dsimp only [Option.toList, List.cons_append, List.nil_append]
      rw [show nPl (nC1 F) n (F 105 (n * 8 + g)) (zn (nC1 F 100 n)) = nCk (nC1 F) n g from rfl]
      refine z_istore iX8_failed_94 rfl ?_
      dsimp only [List.set_cons_zero, List.set_cons_succ]
      refine z_aload iX8_failed_96 rfl ?_
      refine e_getR iX8_failed_97 fX8_83 rfl ?_
      refine z_iload iX8_failed_100 rfl ?_
      refine z_iload iX8_failed_102 rfl ?_
      refine z_push iX8_failed_104 ?_
      refine z_iadd iX8_failed_105 ?_
      refine e_iast iX8_failed_106 rfl (vin_mk (n := 8) (by omega)) ?_
      rw [ez]
      refine z_aload iX8_failed_107 rfl ?_
      refine z_iload iX8_failed_108 rfl ?_
      refine z_push iX8_failed_110 ?_
      refine z_icmp_ne iX8_failed_111 (fun c111 => ?_) (fun c111 => ?_)
      · refine z_aload iX8_failed_124 rfl ?_
        refine e_getR iX8_failed_125 fX8_89 rfl ?_
        refine z_push iX8_failed_128 ?_
        refine z_iload iX8_failed_130 rfl ?_
        refine z_imul iX8_failed_132 ?_
        refine z_iload iX8_failed_133 rfl ?_
        refine z_iadd iX8_failed_135 ?_
        refine e_iald iX8_failed_136 rfl (hcv.1 c111) ?_
        rw [show zup (nC1 F) 100 n (nCk (nC1 F) n g + 1) 102 (zn (16 * nI n + nCk (nC1 F) n g)) = nCv F n g by rw [nCv, if_pos c111]; rfl]
        refine e_callV iX8_failed_137 kX8_188 (tX8_goBack (nC2 F n g) (nCv F n g) hcv.2.1 (by have := hF.2.2.1.2.1; omega) (fun i hi => okN_eq (hF.2.2.1.2.2 i (by omega)) (fun a b hab => by simp only [nC2, nC1, zup_ap]; rw [if_neg (by omega), if_neg (by omega)]))) rfl rfl rfl ⟨Nat.le_of_ble_eq_true rfl, Nat.le_of_ble_eq_true rfl⟩ ⟨Nat.le_of_ble_eq_true rfl, Nat.le_of_ble_eq_true rfl⟩ (Nat.le_of_ble_eq_true rfl) ?_
        dsimp only [Option.toList, List.cons_append, List.nil_append]
        refine z_push iX8_failed_140 ?_
        exact e_iret iX8_failed_141 rfl ⟨rfl, rfl⟩
      · refine z_aload iX8_failed_114 rfl ?_
        refine e_getR iX8_failed_115 fX8_80 rfl ?_
        refine z_iload iX8_failed_118 rfl ?_
        refine e_iald iX8_failed_120 rfl (vin_mk (n := 8) (by omega)) ?_
        rw [ez]
        rw [show zup (nC1 F) 100 n (nCk (nC1 F) n g + 1) 99 n = nCv F n g by rw [nCv, if_neg (not_not_intro c111)]; rfl]
        refine z_goto iX8_failed_121 ?_
        refine e_callV iX8_failed_137 kX8_188 (tX8_goBack (nC2 F n g) (nCv F n g) hcv.2.1 (by have := hF.2.2.1.2.1; omega) (fun i hi => okN_eq (hF.2.2.1.2.2 i (by omega)) (fun a b hab => by simp only [nC2, nC1, zup_ap]; rw [if_neg (by omega), if_neg (by omega)]))) rfl rfl rfl ⟨Nat.le_of_ble_eq_true rfl, Nat.le_of_ble_eq_true rfl⟩ ⟨Nat.le_of_ble_eq_true rfl, Nat.le_of_ble_eq_true rfl⟩ (Nat.le_of_ble_eq_true rfl) ?_
        dsimp only [Option.toList, List.cons_append, List.nil_append]
        refine z_push iX8_failed_140 ?_
        exact e_iret iX8_failed_141 rfl ⟨rfl, rfl⟩

set_option maxRecDepth 100000 in
theorem tX8_failed {L : Nat} (F : zFt) (x : Int32) (y : Int32) (n : Nat) (hF : NI F (n + 1) (32 * (n + 1) + 1)) : zFn mX8_failed 3 [.ref 75, .int x, .int y] L F (some (.int (nFl (n + 1) (nNo F x y (-1) (-1)) x (F 75 38 + 1 - 1)).1)) (nFl (n + 1) (nNo F x y (-1) (-1)) x (F 75 38 + 1 - 1)).2 := by
  refine e_of (lo := [some (.ref 75), some (.int x), some (.int y), none, none, none, none, none, none]) (by decide +kernel) (Nat.le_of_ble_eq_true rfl) rfl ?_
  refine z_iload iX8_failed_0 rfl ?_
  refine z_istore iX8_failed_1 rfl ?_
  dsimp only [List.set_cons_zero, List.set_cons_succ]
  refine z_aload iX8_failed_2 rfl ?_
  refine z_iload iX8_failed_3 rfl ?_
  refine z_iload iX8_failed_4 rfl ?_
  refine z_push iX8_failed_5 ?_
  refine z_push iX8_failed_6 ?_
  refine e_callV iX8_failed_7 kX8_174 (tX8_note F x y (-1) (-1) hF.2.2.2.2.1.1) rfl rfl rfl ⟨Nat.le_of_ble_eq_true rfl, Nat.le_of_ble_eq_true rfl⟩ ⟨Nat.le_of_ble_eq_true rfl, Nat.le_of_ble_eq_true rfl⟩ (Nat.le_of_ble_eq_true rfl) ?_
  dsimp only [Option.toList, List.cons_append, List.nil_append]
  refine z_istore iX8_failed_10 rfl ?_
  dsimp only [List.set_cons_zero, List.set_cons_succ]
  exact lpX8_failed x y (n + 1) n (by omega) _ _ _ _ _ _ _ (NI_no hF _ _ _ _)
