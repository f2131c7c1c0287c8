theorem zfold_up {g : Nat → Int32 → Int32} (hg : ∀ i a, g i a = a ∨ g i a = a + 1) : ∀ n : Nat, n < 2147483648 → ∃ j : Nat, j ≤ n ∧ zfold g 0 n = nI j
  | 0, _ => ⟨0, Nat.le_refl 0, rfl⟩
  | n + 1, h => by
    obtain ⟨j, hj, e⟩ := zfold_up hg n (by omega)
    rw [zfold_s]
    rcases hg n (zfold g 0 n) with q | q
    · exact ⟨j, by omega, by rw [q, e]⟩
    · exact ⟨j + 1, by omega, by rw [q, e, nI_1]⟩
theorem gBt_up (F : zFt) (e : Int32) (i : Nat) (a : Int32) : gBt F e i a = a ∨ gBt F e i a = a + 1 := by
  simp only [gBt]
  split
  · exact Or.inl rfl
  · split
    · exact Or.inl rfl
    · exact Or.inr rfl
theorem cR2_rk (F : zFt) (c : Int32) (h6 : zn (F 3 9) ≤ 60) : ∀ (a e : Nat), e < a → F 10 e = c → 1 ≤ (cR2 F c a 23 e).toInt
  | 0, e, h, _ => by omega
  | a + 1, e, h, hc => by
    have e10 : ∀ j, cR2 F c a 10 j = F 10 j := fun j => cR2_ne F c (by decide) j a
    have e39 : cR2 F c a 3 9 = F 3 9 := cR2_ne F c (by decide) 9 a
    by_cases hea : e = a
    · subst hea
      rw [cR2, if_pos (by rw [e10]; exact hc), zup_ap, if_pos ⟨rfl, rfl⟩, e39]
      obtain ⟨j, hj, ej⟩ := zfold_up (gBt_up (cR2 F c e) (nI e)) (zn (F 3 9)) (by omega)
      rw [ej, Int32.add_comm, nI_1, nI_int (by omega)]
      omega
    · rw [cR2]
      split
      · rw [zup_ap, if_neg (by omega)]
        exact cR2_rk F c h6 a e (by omega) hc
      · exact cR2_rk F c h6 a e (by omega) hc
theorem cRk_rk {F : zFt} {c : Int32} (h6 : zn (F 3 9) ≤ 60) {e : Nat} (he : e < zn (F 3 9)) (hc : F 10 e = c) : 1 ≤ (cRk F c 23 e).toInt := by
  have e9 : cR1 F c (zn (F 3 9)) 3 9 = F 3 9 := cR1_ne F c (by decide) (by decide) (by decide) 9 _
  refine cR2_rk _ c (by rw [e9]; exact h6) _ e he ?_
  rw [cR1_ne F c (by decide) (by decide) (by decide)]
  exact hc
theorem vin_lt {e x : Int32} (h : zin e x = true) : zn e < zn x := by
  rw [zin_t] at h
  have h1 := zn_int h.1
  have h2 := zn_int (x := x) (by omega)
  omega

set_option maxRecDepth 100000 in
theorem tX2_rankOf {L : Nat} (F : zFt) (e : Int32) (h0 : 0 ≤ (F 3 9).toInt) (h6 : zn (F 3 9) ≤ 60) (ho : ∀ e, e < zn (F 3 9) → okC F e) (hz : zin e (F 3 9) = true) : zFn mX2_rankOf 5 [.ref 20, .int e] L F (some (.int ((cRk F (F 10 (zn e))) 23 (zn e)))) (cRk F (F 10 (zn e))) := by
  refine e_of (lo := [some (.ref 20), some (.int e)]) (by decide +kernel) (Nat.le_of_ble_eq_true rfl) rfl ?_
  have hlt : zn e < zn (F 3 9) := vin_lt hz
  have he : vp_in e 60 := zin_vin hz (by have := zn_int h0; omega)
  have e39 : cRk F (F 10 (zn e)) 3 9 = F 3 9 := cRk_ne F _ (by decide) (by decide) (by decide) (by decide) 9
  have e10 : ∀ j, cRk F (F 10 (zn e)) 10 j = F 10 j := fun j => cRk_ne F _ (by decide) (by decide) (by decide) (by decide) j
  have hc := (ho _ hlt).1
  refine z_aload iX2_rankOf_0 rfl ?_
  refine z_aload iX2_rankOf_1 rfl ?_
  refine e_getR iX2_rankOf_2 fX2_24 rfl ?_
  refine e_getR iX2_rankOf_5 fX2_37 rfl ?_
  refine z_iload iX2_rankOf_8 rfl ?_
  refine e_iald iX2_rankOf_9 rfl (by assumption) ?_
  refine e_callV iX2_rankOf_10 kX2_83 (tX2_rankClass F (F 10 (zn e)) h0 h6 ho) rfl rfl rfl ⟨Nat.le_of_ble_eq_true rfl, Nat.le_of_ble_eq_true rfl⟩ ⟨Nat.le_of_ble_eq_true rfl, Nat.le_of_ble_eq_true rfl⟩ (Nat.le_of_ble_eq_true rfl) ?_
  dsimp only [Option.toList, List.cons_append, List.nil_append]
  refine z_aload iX2_rankOf_13 rfl ?_
  refine e_getR iX2_rankOf_14 fX2_18 rfl ?_
  refine z_iload iX2_rankOf_17 rfl ?_
  refine e_iald iX2_rankOf_18 rfl (by assumption) ?_
  exact e_iret iX2_rankOf_19 rfl ⟨rfl, rfl⟩

set_option maxRecDepth 100000 in
theorem tX2_sharersOf {L : Nat} (F : zFt) (e : Int32) (h0 : 0 ≤ (F 3 9).toInt) (h6 : zn (F 3 9) ≤ 60) (ho : ∀ e, e < zn (F 3 9) → okC F e) (hz : zin e (F 3 9) = true) : zFn mX2_sharersOf 5 [.ref 20, .int e] L F (some (.int (cTn (cRk F (F 10 (zn e))) e))) (cRk F (F 10 (zn e))) := by
  refine e_of (lo := [some (.ref 20), some (.int e)]) (by decide +kernel) (Nat.le_of_ble_eq_true rfl) rfl ?_
  have hlt : zn e < zn (F 3 9) := vin_lt hz
  have he : vp_in e 60 := zin_vin hz (by have := zn_int h0; omega)
  have e39 : cRk F (F 10 (zn e)) 3 9 = F 3 9 := cRk_ne F _ (by decide) (by decide) (by decide) (by decide) 9
  have e10 : ∀ j, cRk F (F 10 (zn e)) 10 j = F 10 j := fun j => cRk_ne F _ (by decide) (by decide) (by decide) (by decide) j
  have hc := (ho _ hlt).1
  refine z_aload iX2_sharersOf_0 rfl ?_
  refine z_aload iX2_sharersOf_1 rfl ?_
  refine e_getR iX2_sharersOf_2 fX2_24 rfl ?_
  refine e_getR iX2_sharersOf_5 fX2_37 rfl ?_
  refine z_iload iX2_sharersOf_8 rfl ?_
  refine e_iald iX2_sharersOf_9 rfl (by assumption) ?_
  refine e_callV iX2_sharersOf_10 kX2_83 (tX2_rankClass F (F 10 (zn e)) h0 h6 ho) rfl rfl rfl ⟨Nat.le_of_ble_eq_true rfl, Nat.le_of_ble_eq_true rfl⟩ ⟨Nat.le_of_ble_eq_true rfl, Nat.le_of_ble_eq_true rfl⟩ (Nat.le_of_ble_eq_true rfl) ?_
  dsimp only [Option.toList, List.cons_append, List.nil_append]
  refine z_aload iX2_sharersOf_13 rfl ?_
  refine z_iload iX2_sharersOf_14 rfl ?_
  refine e_callV iX2_sharersOf_15 kX2_87 (tX2_sharers (cRk F (F 10 (zn e))) e he (by rw [e39]; exact h0) (by rw [e39]; exact h6)) rfl rfl rfl ⟨Nat.le_of_ble_eq_true rfl, Nat.le_of_ble_eq_true rfl⟩ ⟨Nat.le_of_ble_eq_true rfl, Nat.le_of_ble_eq_true rfl⟩ (Nat.le_of_ble_eq_true rfl) ?_
  dsimp only [Option.toList, List.cons_append, List.nil_append]
  exact e_iret iX2_sharersOf_18 rfl ⟨rfl, rfl⟩

set_option maxRecDepth 100000 in
theorem tX2_prizeOf {L : Nat} (F : zFt) (e : Int32) (h0 : 0 ≤ (F 3 9).toInt) (h6 : zn (F 3 9) ≤ 60) (ho : ∀ e, e < zn (F 3 9) → okC F e) (hz : zin e (F 3 9) = true) : zFn mX2_prizeOf 5 [.ref 20, .int e] L F (some (.int (cSr (cRk F (F 10 (zn e))) e))) (cRk F (F 10 (zn e))) := by
  refine e_of (lo := [some (.ref 20), some (.int e)]) (by decide +kernel) (Nat.le_of_ble_eq_true rfl) rfl ?_
  have hlt : zn e < zn (F 3 9) := vin_lt hz
  have he : vp_in e 60 := zin_vin hz (by have := zn_int h0; omega)
  have e39 : cRk F (F 10 (zn e)) 3 9 = F 3 9 := cRk_ne F _ (by decide) (by decide) (by decide) (by decide) 9
  have e10 : ∀ j, cRk F (F 10 (zn e)) 10 j = F 10 j := fun j => cRk_ne F _ (by decide) (by decide) (by decide) (by decide) j
  have hc := (ho _ hlt).1
  refine z_aload iX2_prizeOf_0 rfl ?_
  refine z_aload iX2_prizeOf_1 rfl ?_
  refine e_getR iX2_prizeOf_2 fX2_24 rfl ?_
  refine e_getR iX2_prizeOf_5 fX2_37 rfl ?_
  refine z_iload iX2_prizeOf_8 rfl ?_
  refine e_iald iX2_prizeOf_9 rfl (by assumption) ?_
  refine e_callV iX2_prizeOf_10 kX2_83 (tX2_rankClass F (F 10 (zn e)) h0 h6 ho) rfl rfl rfl ⟨Nat.le_of_ble_eq_true rfl, Nat.le_of_ble_eq_true rfl⟩ ⟨Nat.le_of_ble_eq_true rfl, Nat.le_of_ble_eq_true rfl⟩ (Nat.le_of_ble_eq_true rfl) ?_
  dsimp only [Option.toList, List.cons_append, List.nil_append]
  refine z_aload iX2_prizeOf_13 rfl ?_
  refine z_iload iX2_prizeOf_14 rfl ?_
  refine e_callV iX2_prizeOf_15 kX2_90 (tX2_share (cRk F (F 10 (zn e))) e he (by rw [e39]; exact h0) (by rw [e39]; exact h6) (by rw [e10]; exact hc) (cRk_rk h6 hlt rfl)) rfl rfl rfl ⟨Nat.le_of_ble_eq_true rfl, Nat.le_of_ble_eq_true rfl⟩ ⟨Nat.le_of_ble_eq_true rfl, Nat.le_of_ble_eq_true rfl⟩ (Nat.le_of_ble_eq_true rfl) ?_
  dsimp only [Option.toList, List.cons_append, List.nil_append]
  exact e_iret iX2_prizeOf_18 rfl ⟨rfl, rfl⟩

abbrev gPl (F : zFt) (c : Int32) : Nat → Int32 → Int32 := fun i a => if ¬ F 10 i = c then a else a - cSr F (nI i)

set_option maxRecDepth 100000 in
theorem lpX2_prizesLeft {L : Nat} {Z : zZt} (G : zFt) (c x : Int32) (h0 : 0 ≤ (G 3 9).toInt) (h6 : zn (G 3 9) ≤ 60) (ho : ∀ e, e < zn (G 3 9) → vp_in (G 10 e) 12) (hr : ∀ e, e < zn (G 3 9) → G 10 e = c → 1 ≤ (G 23 e).toInt) (kk : zEV mX2_prizesLeft (zrm 5 0 0) Z 53 [some (.ref 20), some (.int c), some (.int (zfold (gPl G c) x (zn (G 3 9)))), some (.int (nI (zn (G 3 9))))] [] 111 (zE L (G)) 0 0) : ∀ (n a : Nat), a + n = zn (G 3 9) → zEV mX2_prizesLeft (zrm 5 0 0) Z 15 [some (.ref 20), some (.int c), some (.int (zfold (gPl G c) x a)), some (.int (nI a))] [] 111 (zE L (G)) 0 0 := by
  intro n
  induction n with
  | zero =>
    intro a ha
    obtain rfl : a = zn (G 3 9) := by omega
    refine z_iload iX2_prizesLeft_15 rfl ?_
    refine z_aload iX2_prizesLeft_16 rfl ?_
    refine e_getR iX2_prizesLeft_17 fX2_24 rfl ?_
    refine e_getI iX2_prizesLeft_20 fX2_97 rfl ?_
    refine z_icmp_ge iX2_prizesLeft_23 (fun c23 => ?_) (fun c23 => ?_)
    · exact kk
    · exact absurd (up_end h0 rfl) c23
  | succ n ih =>
    intro a ha
    refine z_iload iX2_prizesLeft_15 rfl ?_
    refine z_aload iX2_prizesLeft_16 rfl ?_
    refine e_getR iX2_prizesLeft_17 fX2_24 rfl ?_
    refine e_getI iX2_prizesLeft_20 fX2_97 rfl ?_
    refine z_icmp_ge iX2_prizesLeft_23 (fun c23 => ?_) (fun c23 => ?_)
    · exact absurd c23 (up_in (x := (G 3 9)) (by omega))
    · refine z_aload iX2_prizesLeft_26 rfl ?_
      refine e_getR iX2_prizesLeft_27 fX2_24 rfl ?_
      refine e_getR iX2_prizesLeft_30 fX2_37 rfl ?_
      refine z_iload iX2_prizesLeft_33 rfl ?_
      refine e_iald iX2_prizesLeft_34 rfl (vin_mk (n := 60) (by omega)) ?_
      rw [zn_nI (by omega)]
      refine z_iload iX2_prizesLeft_35 rfl ?_
      refine z_icmp_ne iX2_prizesLeft_36 (fun c36 => ?_) (fun c36 => ?_)
      · refine z_iinc (v := 1) iX2_prizesLeft_47 (by decide) (by decide) rfl rfl ?_
        dsimp only [List.set_cons_zero, List.set_cons_succ]
        refine z_goto iX2_prizesLeft_50 ?_
        exact z_to (by simp [zfold, nI_1, *]) rfl (ih (a + 1) (by omega))
      · refine z_iload iX2_prizesLeft_39 rfl ?_
        refine z_aload iX2_prizesLeft_40 rfl ?_
        refine z_iload iX2_prizesLeft_41 rfl ?_
        refine e_callV iX2_prizesLeft_42 kX2_90 (tX2_share G (nI a) (vin_mk (by omega)) h0 h6 (by rw [zn_nI (by omega)]; exact ho a (by omega)) (by rw [zn_nI (by omega)]; exact hr a (by omega) c36)) rfl rfl rfl ⟨Nat.le_of_ble_eq_true rfl, Nat.le_of_ble_eq_true rfl⟩ ⟨Nat.le_of_ble_eq_true rfl, Nat.le_of_ble_eq_true rfl⟩ (Nat.le_of_ble_eq_true rfl) ?_
        dsimp only [Option.toList, List.cons_append, List.nil_append]
        refine z_isub iX2_prizesLeft_45 ?_
        refine z_istore iX2_prizesLeft_46 rfl ?_
        dsimp only [List.set_cons_zero, List.set_cons_succ]
        refine z_iinc (v := 1) iX2_prizesLeft_47 (by decide) (by decide) rfl rfl ?_
        dsimp only [List.set_cons_zero, List.set_cons_succ]
        refine z_goto iX2_prizesLeft_50 ?_
        exact z_to (by simp [zfold, nI_1, *]) rfl (ih (a + 1) (by omega))

set_option maxRecDepth 100000 in
theorem lqX2_prizesLeft {L : Nat} (F G : zFt) (c x : Int32) (e39 : G 3 9 = F 3 9) (h0 : 0 ≤ (G 3 9).toInt) (h6 : zn (G 3 9) ≤ 60) (ho : ∀ e, e < zn (G 3 9) → vp_in (G 10 e) 12) (hr : ∀ e, e < zn (G 3 9) → G 10 e = c → 1 ≤ (G 23 e).toInt) : zEV mX2_prizesLeft (zrm 5 0 0) (zZf L (some (Value.int (zfold (gPl G c) x (zn (F 3 9))))) G) 15 [some (Value.ref 20), some (Value.int c), some (Value.int x), some (Value.int 0)] [] 111 (zE L G) 0 0 := by
  refine lpX2_prizesLeft G c x h0 h6 ho hr ?_ _ 0 (Nat.zero_add _)
  refine z_iload iX2_prizesLeft_53 rfl ?_
  exact e_iret iX2_prizesLeft_54 rfl ⟨by rw [e39], rfl⟩

set_option maxRecDepth 100000 in
theorem tX2_prizesLeft {L : Nat} (F : zFt) (c : Int32) (h0 : 0 ≤ (F 3 9).toInt) (h6 : zn (F 3 9) ≤ 60) (ho : ∀ e, e < zn (F 3 9) → okC F e) (hc : vp_in c 12) : zFn mX2_prizesLeft 5 [.ref 20, .int c] L F (some (.int (zfold (gPl (cRk F c) c) (zpf (cRk F c 8) c 3 4 1 0) (zn (F 3 9))))) (cRk F c) := by
  refine e_of (lo := [some (.ref 20), some (.int c), none, none]) (by decide +kernel) (Nat.le_of_ble_eq_true rfl) rfl ?_
  have e39 : cRk F c 3 9 = F 3 9 := cRk_ne F _ (by decide) (by decide) (by decide) (by decide) 9
  have e10 : ∀ j, cRk F c 10 j = F 10 j := fun j => cRk_ne F _ (by decide) (by decide) (by decide) (by decide) j
  refine z_aload iX2_prizesLeft_0 rfl ?_
  refine z_iload iX2_prizesLeft_1 rfl ?_
  refine e_callV iX2_prizesLeft_2 kX2_83 (tX2_rankClass F c h0 h6 ho) rfl rfl rfl ⟨Nat.le_of_ble_eq_true rfl, Nat.le_of_ble_eq_true rfl⟩ ⟨Nat.le_of_ble_eq_true rfl, Nat.le_of_ble_eq_true rfl⟩ (Nat.le_of_ble_eq_true rfl) ?_
  dsimp only [Option.toList, List.cons_append, List.nil_append]
  refine z_aload iX2_prizesLeft_5 rfl ?_
  refine z_iload iX2_prizesLeft_6 rfl ?_
  refine z_push iX2_prizesLeft_7 ?_
  refine z_push iX2_prizesLeft_8 ?_
  refine e_callV iX2_prizesLeft_9 kX2_93 (tX2_prizesFrom (cRk F c) c 1 3 hc (by decide)) rfl rfl rfl ⟨Nat.le_of_ble_eq_true rfl, Nat.le_of_ble_eq_true rfl⟩ ⟨Nat.le_of_ble_eq_true rfl, Nat.le_of_ble_eq_true rfl⟩ (Nat.le_of_ble_eq_true rfl) ?_
  dsimp only [Option.toList, List.cons_append, List.nil_append]
  refine z_istore iX2_prizesLeft_12 rfl ?_
  dsimp only [List.set_cons_zero, List.set_cons_succ]
  refine z_push iX2_prizesLeft_13 ?_
  refine z_istore iX2_prizesLeft_14 rfl ?_
  dsimp only [List.set_cons_zero, List.set_cons_succ]
  exact lqX2_prizesLeft F (cRk F c) c (zpf (cRk F c 8) c 3 4 1 0) e39 (by rw [e39]; exact h0) (by rw [e39]; exact h6) (fun e he => by rw [e10]; exact (ho e (by rw [e39] at he; exact he)).1) (fun e he hce => cRk_rk h6 (by rw [e39] at he; exact he) (by rw [← e10]; exact hce))

abbrev cPo (F : zFt) (e : Nat) : Int32 := F 23 e - 1 + zfold (gSa F (nI e)) 0 e
/-- the first entry of a kind that stands at place x, or -1 -/
def zea (F : zFt) (c x : Int32) : Nat → Nat → Int32
  | 0, _ => -1
  | n + 1, a => if ¬ F 10 a = c then zea F c x n (a + 1) else if ¬ cPo F a = x then zea F c x n (a + 1) else nI a

set_option maxRecDepth 100000 in
theorem lpX2_entryAt {L : Nat} (F : zFt) (c x : Int32) (h0 : 0 ≤ (F 3 9).toInt) (h6 : zn (F 3 9) ≤ 60) : ∀ (n a : Nat), a + n = zn (F 3 9) → zEV mX2_entryAt (zrm 5 0 0) (zZf L (some (.int (zea F c x n a))) F) 7 [some (.ref 20), some (.int c), some (.int x), some (.int (nI a))] [] 111 (zE L F) 0 0 := by
  intro n
  induction n with
  | zero =>
    intro a ha
    obtain rfl : a = zn (F 3 9) := by omega
    refine z_iload iX2_entryAt_7 rfl ?_
    refine z_aload iX2_entryAt_8 rfl ?_
    refine e_getR iX2_entryAt_9 fX2_24 rfl ?_
    refine e_getI iX2_entryAt_12 fX2_97 rfl ?_
    refine z_icmp_ge iX2_entryAt_15 (fun c15 => ?_) (fun c15 => ?_)
    · refine z_push iX2_entryAt_48 ?_
      exact e_iret iX2_entryAt_49 rfl ⟨rfl, rfl⟩
    · exact absurd (up_end h0 rfl) c15
  | succ n ih =>
    intro a ha
    refine z_iload iX2_entryAt_7 rfl ?_
    refine z_aload iX2_entryAt_8 rfl ?_
    refine e_getR iX2_entryAt_9 fX2_24 rfl ?_
    refine e_getI iX2_entryAt_12 fX2_97 rfl ?_
    refine z_icmp_ge iX2_entryAt_15 (fun c15 => ?_) (fun c15 => ?_)
    · exact absurd c15 (up_in (x := F 3 9) (by omega))
    · refine z_aload iX2_entryAt_18 rfl ?_
      refine e_getR iX2_entryAt_19 fX2_24 rfl ?_
      refine e_getR iX2_entryAt_22 fX2_37 rfl ?_
      refine z_iload iX2_entryAt_25 rfl ?_
      refine e_iald iX2_entryAt_26 rfl (vin_mk (n := 60) (by omega)) ?_
      rw [zn_nI (by omega)]
      refine z_iload iX2_entryAt_27 rfl ?_
      refine z_icmp_ne iX2_entryAt_28 (fun c28 => ?_) (fun c28 => ?_)
      · refine z_iinc (v := 1) iX2_entryAt_42 (by decide) (by decide) rfl rfl ?_
        dsimp only [List.set_cons_zero, List.set_cons_succ]
        refine z_goto iX2_entryAt_45 ?_
        rw [zea, if_pos c28]
        exact z_to (by simp [nI_1]) rfl (ih (a + 1) (by omega))
      · refine z_aload iX2_entryAt_31 rfl ?_
        refine z_iload iX2_entryAt_32 rfl ?_
        refine e_callV iX2_entryAt_33 kX2_101 (tX2_position F (nI a) (vin_mk (by omega))) rfl rfl rfl ⟨Nat.le_of_ble_eq_true rfl, Nat.le_of_ble_eq_true rfl⟩ ⟨Nat.le_of_ble_eq_true rfl, Nat.le_of_ble_eq_true rfl⟩ (Nat.le_of_ble_eq_true rfl) ?_
        dsimp only [Option.toList, List.cons_append, List.nil_append]
        rw [zn_nI (by omega)]
        refine z_iload iX2_entryAt_36 rfl ?_
        refine z_icmp_ne iX2_entryAt_37 (fun c37 => ?_) (fun c37 => ?_)
        · refine z_iinc (v := 1) iX2_entryAt_42 (by decide) (by decide) rfl rfl ?_
          dsimp only [List.set_cons_zero, List.set_cons_succ]
          refine z_goto iX2_entryAt_45 ?_
          rw [zea, if_neg (not_not_intro c28), if_pos c37]
          exact z_to (by simp [nI_1]) rfl (ih (a + 1) (by omega))
        · refine z_iload iX2_entryAt_40 rfl ?_
          exact e_iret iX2_entryAt_41 rfl ⟨by rw [zea, if_neg (not_not_intro c28), if_neg (not_not_intro c37)], rfl⟩

set_option maxRecDepth 100000 in
theorem tX2_entryAt {L : Nat} (F : zFt) (c : Int32) (x : Int32) (h0 : 0 ≤ (F 3 9).toInt) (h6 : zn (F 3 9) ≤ 60) (ho : ∀ e, e < zn (F 3 9) → okC F e) : zFn mX2_entryAt 5 [.ref 20, .int c, .int x] L F (some (.int (zea (cRk F c) c x (zn (F 3 9)) 0))) (cRk F c) := by
  refine e_of (lo := [some (.ref 20), some (.int c), some (.int x), none]) (by decide +kernel) (Nat.le_of_ble_eq_true rfl) rfl ?_
  have e39 : cRk F c 3 9 = F 3 9 := cRk_ne F _ (by decide) (by decide) (by decide) (by decide) 9
  have e10 : ∀ j, cRk F c 10 j = F 10 j := fun j => cRk_ne F _ (by decide) (by decide) (by decide) (by decide) j
  refine z_aload iX2_entryAt_0 rfl ?_
  refine z_iload iX2_entryAt_1 rfl ?_
  refine e_callV iX2_entryAt_2 kX2_83 (tX2_rankClass F c h0 h6 ho) rfl rfl rfl ⟨Nat.le_of_ble_eq_true rfl, Nat.le_of_ble_eq_true rfl⟩ ⟨Nat.le_of_ble_eq_true rfl, Nat.le_of_ble_eq_true rfl⟩ (Nat.le_of_ble_eq_true rfl) ?_
  dsimp only [Option.toList, List.cons_append, List.nil_append]
  refine z_push iX2_entryAt_5 ?_
  refine z_istore iX2_entryAt_6 rfl ?_
  dsimp only [List.set_cons_zero, List.set_cons_succ]
  rw [← e39]
  exact lpX2_entryAt (cRk F c) c x (by rw [e39]; exact h0) (by rw [e39]; exact h6) _ 0 (Nat.zero_add _)
