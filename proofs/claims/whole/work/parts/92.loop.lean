theorem z0k (xs : Nat → Int32) {k : Nat} (j : Nat) (h : k ≠ 0) : zF0 xs k j = 0 := if_neg h
theorem vin0 {n : Nat} (h : 0 < n) (hn : n < 2147483648 := by omega) : vp_in 0 n := vin_mk (a := 0) h hn
theorem CI_start (xs : Nat → Int32) : CI (zF0 xs) := by
  have n0 : zn (0 : Int32) = 0 := rfl
  have z : ∀ k j, k ≠ 0 → zF0 xs k j = 0 := fun k j h => z0k xs j h
  refine ⟨⟨?_, ⟨?_, ?_⟩, ?_, fun c => Or.inl (z 7 c (by omega)), fun c hc => ?_, fun j hj => ?_, fun e he => ?_⟩, ?_, ?_, fun r hr => ?_, ?_, fun i hi => ?_, ?_, fun s hs => ?_, ?_⟩
  · rw [z 3 7 (by omega)]
    exact vin0 (by omega)
  · rw [z 3 8 (by omega)]
    decide
  · rw [z 3 8 (by omega), n0]
    omega
  · rw [z 3 9 (by omega)]
    exact vin0 (by omega)
  · rw [z 3 7 (by omega), n0] at hc
    omega
  · rw [z 3 8 (by omega), n0] at hj
    omega
  · rw [z 3 9 (by omega), n0] at he
    omega
  · rw [z 31 2 (by omega)]
    exact vin0 (by omega)
  · rw [z 25 3 (by omega)]
    exact vin0 (by omega)
  · rw [z 25 3 (by omega), n0] at hr
    omega
  · rw [z 11 6 (by omega)]
    exact vin0 (by omega)
  · rw [z 11 6 (by omega), n0] at hi
    omega
  · rw [z 2 7 (by omega)]
    exact vin0 (by omega)
  · rw [z 2 7 (by omega), n0] at hs
    omega
  · rw [unOk, z 2 10 (by omega), z 2 12 (by omega)]
    exact ⟨Or.inl rfl, Or.inl rfl, fun h => absurd h (by decide), fun h => absurd h (by decide), fun h => absurd h (by decide)⟩
theorem RI_start (xs : Nat → Int32) : RI (zF0 xs) (zF0 xs) (400 * 512) := by
  have n0 : zn (0 : Int32) = 0 := rfl
  have z : ∀ k j, k ≠ 0 → zF0 xs k j = 0 := fun k j h => z0k xs j h
  have e : ∀ k k' j j', k ≠ 0 → k' ≠ 0 → zF0 xs k j = zF0 xs k' j' := fun k k' j j' h h' => by rw [z k j h, z k' j' h']
  have n116 : zn (zF0 xs 11 6) = 0 := by rw [z 11 6 (by omega)]; rfl
  have n39 : zn (zF0 xs 3 9) = 0 := by rw [z 3 9 (by omega)]; rfl
  have n27 : zn (zF0 xs 2 7) = 0 := by rw [z 2 7 (by omega)]; rfl
  have n253 : zn (zF0 xs 25 3) = 0 := by rw [z 25 3 (by omega)]; rfl
  refine ⟨CI_start xs, ⟨e _ _ _ _ (by omega) (by omega), e _ _ _ _ (by omega) (by omega), e _ _ _ _ (by omega) (by omega), fun j => ⟨e _ _ _ _ (by omega) (by omega), e _ _ _ _ (by omega) (by omega), e _ _ _ _ (by omega) (by omega), e _ _ _ _ (by omega) (by omega), e _ _ _ _ (by omega) (by omega), e _ _ _ _ (by omega) (by omega), e _ _ _ _ (by omega) (by omega)⟩, fun c hc => ?_⟩, ⟨e _ _ _ _ (by omega) (by omega), fun j => ⟨e _ _ _ _ (by omega) (by omega), e _ _ _ _ (by omega) (by omega), e _ _ _ _ (by omega) (by omega)⟩⟩, ⟨e _ _ _ _ (by omega) (by omega), e _ _ _ _ (by omega) (by omega), fun j => ⟨e _ _ _ _ (by omega) (by omega), e _ _ _ _ (by omega) (by omega)⟩, fun j _ => z _ _ (by omega)⟩, ⟨e _ _ _ _ (by omega) (by omega), fun j => ⟨e _ _ _ _ (by omega) (by omega), e _ _ _ _ (by omega) (by omega), e _ _ _ _ (by omega) (by omega), e _ _ _ _ (by omega) (by omega)⟩, fun i _ => e _ _ _ _ (by omega) (by omega), fun j _ => e _ _ _ _ (by omega) (by omega), fun j _ => ⟨e _ _ _ _ (by omega) (by omega), ?_⟩⟩, ⟨e _ _ _ _ (by omega) (by omega), fun s _ => ⟨e _ _ _ _ (by omega) (by omega), e _ _ _ _ (by omega) (by omega), e _ _ _ _ (by omega) (by omega), e _ _ _ _ (by omega) (by omega), e _ _ _ _ (by omega) (by omega), fun k _ => ⟨e _ _ _ _ (by omega) (by omega), e _ _ _ _ (by omega) (by omega)⟩, fun k _ => ⟨e _ _ _ _ (by omega) (by omega), e _ _ _ _ (by omega) (by omega)⟩⟩⟩, ⟨e _ _ _ _ (by omega) (by omega), fun j => e _ _ _ _ (by omega) (by omega)⟩, ⟨e _ _ _ _ (by omega) (by omega), e _ _ _ _ (by omega) (by omega)⟩, ⟨?_, fun h => absurd (z 2 10 (by omega)) h⟩, ⟨fun j => ?_, fun j => ?_, fun j => ?_, fun q _ => z _ _ (by omega)⟩, fun i hi => ?_, fun s hs => ?_, fun r hr => ?_, fun i => ⟨Or.inl (z _ _ (by omega)), Or.inl (z _ _ (by omega)), Or.inl (z _ _ (by omega)), Or.inl (z _ _ (by omega))⟩, ?_⟩
  · rw [n39, z 79 c (by omega)]
    rfl
  · rw [n116, z 96 j (by omega)]
    rfl
  · rw [z 75 41 (by omega), z 2 10 (by omega)]
  · rw [n116, z 18 j (by omega)]
    rfl
  · rw [n116, z 17 j (by omega)]
    rfl
  · rw [n116, z 19 j (by omega)]
    rfl
  · rw [n116] at hi
    omega
  · rw [n27] at hs
    omega
  · rw [n253] at hr
    omega
  · rw [mN, z 29 1 (by omega)]
    decide
theorem law_loop {L k n : Nat} (hL : L ≤ 2560) (hf : k ≤ room_1.cells ∧ n ≤ room_1.slots) : ∀ (t a : Nat) (F : zFt), a ≤ L + 5 → L < a + 5 * t + 5 → RI F F (400 * t) → zEV mL_law room_1 lZ 18 (lwL a) [] 111 (zE L F) k n := by
  intro t
  induction t with
  | zero =>
    intro a F h1 h2 h
    refine z_iload iL_law_18 rfl ?_
    refine z_aload iL_law_19 rfl ?_
    refine e_slen iL_law_20 ?_
    refine z_push iL_law_21 ?_
    refine z_isub iL_law_22 ?_
    refine z_icmp_gt iL_law_23 (fun _ => lw_end hf) (fun c => absurd ?_ c)
    rw [ilt, tI_sub, nI_int (by omega), nI_int (by omega), show (5 : Int32).toInt = 5 from rfl]
    omega
  | succ t ih =>
    intro a F h1 h2 h
    refine z_iload iL_law_18 rfl ?_
    refine z_aload iL_law_19 rfl ?_
    refine e_slen iL_law_20 ?_
    refine z_push iL_law_21 ?_
    refine z_isub iL_law_22 ?_
    refine z_icmp_gt iL_law_23 (fun _ => lw_end hf) (fun c => ?_)
    have ha : a + 5 ≤ L := by
      rw [ilt, tI_sub, nI_int (by omega), nI_int (by omega), show (5 : Int32).toInt = 5 from rfl] at c
      omega
    have h' : RI F F (400 + 400 * t) := by
      rw [show 400 + 400 * t = 400 * (t + 1) by omega]
      exact h
    have next : ∀ F', RI F' F' (400 * t) → zEV mL_law room_1 lZ 959 (lwL a) [] 111 (zE L F') k n := fun F' hF => by
      refine z_iinc (v := 5) iL_law_959 (by decide) (by decide) rfl rfl ?_
      dsimp only [List.set_cons_zero, List.set_cons_succ]
      refine z_goto iL_law_962 ?_
      rw [nI_p5]
      exact ih (a + 5) F' (by omega) (by omega) hF
    refine z_aload iL_law_26 rfl ?_
    refine z_iload iL_law_27 rfl ?_
    refine e_sld iL_law_28 (vin_mk (by omega) (by omega)) rfl ?_
    refine z_push iL_law_29 ?_
    refine z_iand iL_law_31 ?_
    refine z_tsw iL_law_32 (fun j u hj hx => ?_) (fun hx => next F (RI_le h' (by omega)))
    · match j, hj with
      | 0, hj =>
        cases hj
        exact wShow h' hL ha hf next
      | 1, hj =>
        cases hj
        exact wEntry h' hL ha hf next
      | 2, hj =>
        cases hj
        exact wPrizes h' hL ha hf next
      | 3, hj =>
        cases hj
        exact wRule h' hL ha hf next
      | 4, hj =>
        cases hj
        exact wClear h' hL ha hf next
      | 5, hj =>
        cases hj
        exact wObs h' hL ha hf next
      | 6, hj =>
        cases hj
        exact wBegin h' hL ha hf next
      | 7, hj =>
        cases hj
        exact wPoints h' hL ha hf next
      | 8, hj =>
        cases hj
        exact wDeduct h' hL ha hf next
      | 9, hj =>
        cases hj
        exact wRemark h' hL ha hf next
      | 10, hj =>
        cases hj
        exact wSave h' hL ha hf next
      | 11, hj =>
        cases hj
        exact wBack h' hL ha hf next
      | 12, hj =>
        cases hj
        exact wRelease h' hL ha hf next
      | 13, hj =>
        cases hj
        exact wGuard h' hL ha hf next
      | 14, hj =>
        cases hj
        exact wEnd h' hL ha hf next
      | 15, hj =>
        cases hj
        exact wDrop h' hL ha hf next
      | 16, hj =>
        cases hj
        exact wDepth h' hL ha hf next
      | 17, hj =>
        cases hj
        exact wScoring h' hL ha hf next
      | 18, hj =>
        cases hj
        exact wTold h' hL ha hf next
      | 19, hj =>
        cases hj
        exact wMark h' hL ha hf next
      | 20, hj =>
        cases hj
        exact wPlace h' hL ha hf next
      | 21, hj =>
        cases hj
        exact wClose h' hL ha hf next
      | 22, hj =>
        cases hj
        exact wAbout h' hL ha hf next
      | 23, hj =>
        cases hj
        exact wUphold h' hL ha hf next
      | 24, hj =>
        cases hj
        exact wEvent h' hL ha hf next
      | 25, hj =>
        cases hj
        exact wFailure h' hL ha hf next
      | 26, hj =>
        cases hj
        exact wIs h' hL ha hf next
      | 27, hj =>
        cases hj
        exact wUndo h' hL ha hf next
      | 28, hj =>
        cases hj
        exact wCount h' hL ha hf next
      | 29, hj =>
        cases hj
        exact wDigest h' hL ha hf next
      | j + 30, hj => simp at hj
theorem law_body {L : Nat} (xs : Nat → Int32) (hL : L ≤ 2560) : zEV mL_law room_1 lZ 0 [some (.ref 0), none, none, none] [] 2 (zP (fun _ _ => false) L (zF0 xs)) 0 0 := by
  refine p_new iL_law_0 nwL_7 rfl (fun i => rfl) (fun i => rfl) dfX7_2 ⟨Nat.le_of_ble_eq_true rfl, Nat.le_of_ble_eq_true rfl⟩ ?_
  refine z_dup iL_law_3 rfl ?_
  refine z_callI iL_law_4 kL_9 (tX7_init_2 xs) rfl rfl ⟨Nat.le_of_ble_eq_true rfl, Nat.le_of_ble_eq_true rfl⟩ ⟨Nat.le_of_ble_eq_true rfl, Nat.le_of_ble_eq_true rfl⟩ (Nat.le_of_ble_eq_true rfl) ?_
  rintro r N w ⟨rfl, rfl, rfl⟩
  dsimp only [Option.toList, List.cons_append, List.nil_append]
  refine z_astore iL_law_7 rfl ?_
  dsimp only [List.set_cons_zero, List.set_cons_succ]
  refine p_new iL_law_8 nwL_10 rfl (fun i => rfl) (fun i => rfl) dfX8_75 ⟨Nat.le_of_ble_eq_true rfl, Nat.le_of_ble_eq_true rfl⟩ ?_
  refine z_dup iL_law_11 rfl ?_
  refine z_callI iL_law_12 kL_12 (tX8_init_75 zb75 xs (fun k i hk => by
    show Nat.blt k 75 = false
    cases h : Nat.blt k 75
    · rfl
    · have h9 : Nat.blt k 75 = true := h
      simp at h9
      omega)) rfl rfl ⟨Nat.le_of_ble_eq_true rfl, Nat.le_of_ble_eq_true rfl⟩ ⟨Nat.le_of_ble_eq_true rfl, Nat.le_of_ble_eq_true rfl⟩ (Nat.le_of_ble_eq_true rfl) ?_
  rintro r N w ⟨rfl, rfl, rfl⟩
  dsimp only [Option.toList, List.cons_append, List.nil_append]
  refine z_astore iL_law_15 rfl ?_
  dsimp only [List.set_cons_zero, List.set_cons_succ]
  refine z_push iL_law_16 ?_
  refine z_istore iL_law_17 rfl ?_
  dsimp only [List.set_cons_zero, List.set_cons_succ]
  rw [zP_all]
  exact law_loop hL ⟨Nat.le_of_ble_eq_true rfl, Nat.le_of_ble_eq_true rfl⟩ 512 0 (zF0 xs) (by omega) (by omega) (RI_start xs)
