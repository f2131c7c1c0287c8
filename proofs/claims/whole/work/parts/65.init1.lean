theorem zP_dn {b b1 : Nat → Nat → Bool} {L a : Nat} {F : zFt} (h1 : ∀ i, zrr a i = none ∨ b1 a i = true) (h2 : ∀ k i, ¬ k = a → b1 k i = b k i) : zP b1 L F = zP (zbd b a) L F := by
  refine zP_eq fun k i => ?_
  by_cases hk : k = a
  · subst hk
    rcases h1 i with q | q
    · exact Or.inl q
    · refine Or.inr ?_
      rw [q, zbd, Nat.beq_refl k]
      rfl
  · refine Or.inr ?_
    rw [h2 k i hk, zbd, nbf hk]
    rfl
theorem p_of {M : zM} {d mc ms N : Nat} {As : List Value} {lo : List (Option Value)} {w : zH} {Q : zQ} (hy : plainFor M.1 = true) (hl : (zlo As).length ≤ M.2.2.1) (hlo : lo = zlo As ++ List.replicate (M.2.2.1 - (zlo As).length) none) (h : zEV M (zrm d mc ms) (zZ mc ms Q) 0 lo [] N w 0 0) : zMt M d mc ms As N w Q := by
  refine zMt_ofF hy hl (fun i v hv => ?_) h
  subst hlo
  by_cases hi : i < (zlo As).length
  · rwa [List.getElem?_append_left hi] at hv
  · rw [List.getElem?_append_right (by omega), List.getElem?_replicate] at hv
    split at hv <;> simp at hv

theorem dfX7_2 : ∀ j, j < 13 → defaultValue (tyX7 j) = zdf 2 j := fun j hj => match j, hj with
  | 0, _ => rfl
  | 1, _ => rfl
  | 2, _ => rfl
  | 3, _ => rfl
  | 4, _ => rfl
  | 5, _ => rfl
  | 6, _ => rfl
  | 7, _ => rfl
  | 8, _ => rfl
  | 9, _ => rfl
  | 10, _ => rfl
  | 11, _ => rfl
  | 12, _ => rfl
  | j + 13, h => absurd h (by omega)

theorem dfX6_3 : ∀ j, j < 10 → defaultValue (tyX6 j) = zdf 3 j := fun j hj => match j, hj with
  | 0, _ => rfl
  | 1, _ => rfl
  | 2, _ => rfl
  | 3, _ => rfl
  | 4, _ => rfl
  | 5, _ => rfl
  | 6, _ => rfl
  | 7, _ => rfl
  | 8, _ => rfl
  | 9, _ => rfl
  | j + 10, h => absurd h (by omega)

theorem dfX5_11 : ∀ j, j < 10 → defaultValue (tyX5 j) = zdf 11 j := fun j hj => match j, hj with
  | 0, _ => rfl
  | 1, _ => rfl
  | 2, _ => rfl
  | 3, _ => rfl
  | 4, _ => rfl
  | 5, _ => rfl
  | 6, _ => rfl
  | 7, _ => rfl
  | 8, _ => rfl
  | 9, _ => rfl
  | j + 10, h => absurd h (by omega)

theorem dfX2_20 : ∀ j, j < 6 → defaultValue (tyX2 j) = zdf 20 j := fun j hj => match j, hj with
  | 0, _ => rfl
  | 1, _ => rfl
  | 2, _ => rfl
  | 3, _ => rfl
  | 4, _ => rfl
  | 5, _ => rfl
  | j + 6, h => absurd h (by omega)

theorem dfX3_25 : ∀ j, j < 4 → defaultValue (tyX3 j) = zdf 25 j := fun j hj => match j, hj with
  | 0, _ => rfl
  | 1, _ => rfl
  | 2, _ => rfl
  | 3, _ => rfl
  | j + 4, h => absurd h (by omega)

theorem dfX0_29 : ∀ j, j < 2 → defaultValue (tyX0 j) = zdf 29 j := fun j hj => match j, hj with
  | 0, _ => rfl
  | 1, _ => rfl
  | j + 2, h => absurd h (by omega)

theorem dfX1_31 : ∀ j, j < 4 → defaultValue (tyX1 j) = zdf 31 j := fun j hj => match j, hj with
  | 0, _ => rfl
  | 1, _ => rfl
  | 2, _ => rfl
  | 3, _ => rfl
  | j + 4, h => absurd h (by omega)

theorem dfX4_35 : ∀ j, j < 9 → defaultValue (tyX4 j) = zdf 35 j := fun j hj => match j, hj with
  | 0, _ => rfl
  | 1, _ => rfl
  | 2, _ => rfl
  | 3, _ => rfl
  | 4, _ => rfl
  | 5, _ => rfl
  | 6, _ => rfl
  | 7, _ => rfl
  | 8, _ => rfl
  | j + 9, h => absurd h (by omega)

theorem dfX4_40 : ∀ j, j < 9 → defaultValue (tyX4 j) = zdf 40 j := fun j hj => match j, hj with
  | 0, _ => rfl
  | 1, _ => rfl
  | 2, _ => rfl
  | 3, _ => rfl
  | 4, _ => rfl
  | 5, _ => rfl
  | 6, _ => rfl
  | 7, _ => rfl
  | 8, _ => rfl
  | j + 9, h => absurd h (by omega)

theorem dfX4_45 : ∀ j, j < 9 → defaultValue (tyX4 j) = zdf 45 j := fun j hj => match j, hj with
  | 0, _ => rfl
  | 1, _ => rfl
  | 2, _ => rfl
  | 3, _ => rfl
  | 4, _ => rfl
  | 5, _ => rfl
  | 6, _ => rfl
  | 7, _ => rfl
  | 8, _ => rfl
  | j + 9, h => absurd h (by omega)

theorem dfX4_50 : ∀ j, j < 9 → defaultValue (tyX4 j) = zdf 50 j := fun j hj => match j, hj with
  | 0, _ => rfl
  | 1, _ => rfl
  | 2, _ => rfl
  | 3, _ => rfl
  | 4, _ => rfl
  | 5, _ => rfl
  | 6, _ => rfl
  | 7, _ => rfl
  | 8, _ => rfl
  | j + 9, h => absurd h (by omega)

theorem dfX4_55 : ∀ j, j < 9 → defaultValue (tyX4 j) = zdf 55 j := fun j hj => match j, hj with
  | 0, _ => rfl
  | 1, _ => rfl
  | 2, _ => rfl
  | 3, _ => rfl
  | 4, _ => rfl
  | 5, _ => rfl
  | 6, _ => rfl
  | 7, _ => rfl
  | 8, _ => rfl
  | j + 9, h => absurd h (by omega)

theorem dfX4_60 : ∀ j, j < 9 → defaultValue (tyX4 j) = zdf 60 j := fun j hj => match j, hj with
  | 0, _ => rfl
  | 1, _ => rfl
  | 2, _ => rfl
  | 3, _ => rfl
  | 4, _ => rfl
  | 5, _ => rfl
  | 6, _ => rfl
  | 7, _ => rfl
  | 8, _ => rfl
  | j + 9, h => absurd h (by omega)

theorem dfX4_65 : ∀ j, j < 9 → defaultValue (tyX4 j) = zdf 65 j := fun j hj => match j, hj with
  | 0, _ => rfl
  | 1, _ => rfl
  | 2, _ => rfl
  | 3, _ => rfl
  | 4, _ => rfl
  | 5, _ => rfl
  | 6, _ => rfl
  | 7, _ => rfl
  | 8, _ => rfl
  | j + 9, h => absurd h (by omega)

theorem dfX4_70 : ∀ j, j < 9 → defaultValue (tyX4 j) = zdf 70 j := fun j hj => match j, hj with
  | 0, _ => rfl
  | 1, _ => rfl
  | 2, _ => rfl
  | 3, _ => rfl
  | 4, _ => rfl
  | 5, _ => rfl
  | 6, _ => rfl
  | 7, _ => rfl
  | 8, _ => rfl
  | j + 9, h => absurd h (by omega)

theorem dfX8_75 : ∀ j, j < 48 → defaultValue (tyX8 j) = zdf 75 j := fun j hj => match j, hj with
  | 0, _ => rfl
  | 1, _ => rfl
  | 2, _ => rfl
  | 3, _ => rfl
  | 4, _ => rfl
  | 5, _ => rfl
  | 6, _ => rfl
  | 7, _ => rfl
  | 8, _ => rfl
  | 9, _ => rfl
  | 10, _ => rfl
  | 11, _ => rfl
  | 12, _ => rfl
  | 13, _ => rfl
  | 14, _ => rfl
  | 15, _ => rfl
  | 16, _ => rfl
  | 17, _ => rfl
  | 18, _ => rfl
  | 19, _ => rfl
  | 20, _ => rfl
  | 21, _ => rfl
  | 22, _ => rfl
  | 23, _ => rfl
  | 24, _ => rfl
  | 25, _ => rfl
  | 26, _ => rfl
  | 27, _ => rfl
  | 28, _ => rfl
  | 29, _ => rfl
  | 30, _ => rfl
  | 31, _ => rfl
  | 32, _ => rfl
  | 33, _ => rfl
  | 34, _ => rfl
  | 35, _ => rfl
  | 36, _ => rfl
  | 37, _ => rfl
  | 38, _ => rfl
  | 39, _ => rfl
  | 40, _ => rfl
  | 41, _ => rfl
  | 42, _ => rfl
  | 43, _ => rfl
  | 44, _ => rfl
  | 45, _ => rfl
  | 46, _ => rfl
  | 47, _ => rfl
  | j + 48, h => absurd h (by omega)

set_option maxRecDepth 100000 in
theorem tX6_init_3 {L : Nat} (b : Nat → Nat → Bool) (xs : Nat → Int32) (hb : ∀ k i, 3 ≤ k → b k i = false) : zMt mX6_init 1 7 204 [.ref 3] 4 (zP b L (zF0 xs)) (fun r N w => r = none ∧ N = 11 ∧ w = zP (zbd b 3) L (zF0 xs)) := by
  refine p_of (lo := [some (.ref 3)]) (by decide +kernel) (Nat.le_of_ble_eq_true rfl) rfl ?_
  refine z_aload iX6_init_0 rfl ?_
  refine z_objInit iX6_init_1 obX6 obI1 obI2 ⟨Nat.le_of_ble_eq_true rfl, Nat.le_of_ble_eq_true rfl⟩ ?_
  refine z_aload iX6_init_4 rfl ?_
  refine z_push iX6_init_5 ?_
  refine p_newa (len := 12) iX6_init_7 rfl (t := 0) rfl (Or.inl rfl) acI ⟨rfl, rfl⟩ (fun i => rfl) (fun i => rfl) (by decide) (by decide) (by decide) ⟨Nat.le_of_ble_eq_true rfl, Nat.le_of_ble_eq_true rfl⟩ ?_
  simp only [Nat.reduceAdd]
  refine p_putR iX6_init_9 fX6_9 ff6_0 rfl (fun x => rfl) (fun x => rfl) rfl rfl (by decide) (by decide) ?_
  refine z_aload iX6_init_12 rfl ?_
  refine z_push iX6_init_13 ?_
  refine p_newa (len := 12) iX6_init_15 rfl (t := 0) rfl (Or.inl rfl) acI ⟨rfl, rfl⟩ (fun i => rfl) (fun i => rfl) (by decide) (by decide) (by decide) ⟨Nat.le_of_ble_eq_true rfl, Nat.le_of_ble_eq_true rfl⟩ ?_
  simp only [Nat.reduceAdd]
  refine p_putR iX6_init_17 fX6_15 ff6_1 rfl (fun x => rfl) (fun x => rfl) rfl rfl (by decide) (by decide) ?_
  refine z_aload iX6_init_20 rfl ?_
  refine z_push iX6_init_21 ?_
  refine p_newa (len := 12) iX6_init_23 rfl (t := 0) rfl (Or.inl rfl) acI ⟨rfl, rfl⟩ (fun i => rfl) (fun i => rfl) (by decide) (by decide) (by decide) ⟨Nat.le_of_ble_eq_true rfl, Nat.le_of_ble_eq_true rfl⟩ ?_
  simp only [Nat.reduceAdd]
  refine p_putR iX6_init_25 fX6_18 ff6_2 rfl (fun x => rfl) (fun x => rfl) rfl rfl (by decide) (by decide) ?_
  refine z_aload iX6_init_28 rfl ?_
  refine z_push iX6_init_29 ?_
  refine p_newa (len := 12) iX6_init_31 rfl (t := 1) rfl (Or.inr rfl) acZ ⟨rfl, rfl⟩ (fun i => rfl) (fun i => rfl) (by decide) (by decide) (by decide) ⟨Nat.le_of_ble_eq_true rfl, Nat.le_of_ble_eq_true rfl⟩ ?_
  simp only [Nat.reduceAdd]
  refine p_putR iX6_init_33 fX6_21 ff6_3 rfl (fun x => rfl) (fun x => rfl) rfl rfl (by decide) (by decide) ?_
  refine z_aload iX6_init_36 rfl ?_
  refine z_push iX6_init_37 ?_
  refine p_newa (len := 36) iX6_init_39 rfl (t := 0) rfl (Or.inl rfl) acI ⟨rfl, rfl⟩ (fun i => rfl) (fun i => rfl) (by decide) (by decide) (by decide) ⟨Nat.le_of_ble_eq_true rfl, Nat.le_of_ble_eq_true rfl⟩ ?_
  simp only [Nat.reduceAdd]
  refine p_putR iX6_init_41 fX6_25 ff6_4 rfl (fun x => rfl) (fun x => rfl) rfl rfl (by decide) (by decide) ?_
  refine z_aload iX6_init_44 rfl ?_
  refine z_push iX6_init_45 ?_
  refine p_newa (len := 60) iX6_init_47 rfl (t := 0) rfl (Or.inl rfl) acI ⟨rfl, rfl⟩ (fun i => rfl) (fun i => rfl) (by decide) (by decide) (by decide) ⟨Nat.le_of_ble_eq_true rfl, Nat.le_of_ble_eq_true rfl⟩ ?_
  simp only [Nat.reduceAdd]
  refine p_putR iX6_init_49 fX6_28 ff6_5 rfl (fun x => rfl) (fun x => rfl) rfl rfl (by decide) (by decide) ?_
  refine z_aload iX6_init_52 rfl ?_
  refine z_push iX6_init_53 ?_
  refine p_newa (len := 60) iX6_init_55 rfl (t := 0) rfl (Or.inl rfl) acI ⟨rfl, rfl⟩ (fun i => rfl) (fun i => rfl) (by decide) (by decide) (by decide) ⟨Nat.le_of_ble_eq_true rfl, Nat.le_of_ble_eq_true rfl⟩ ?_
  simp only [Nat.reduceAdd]
  refine p_putR iX6_init_57 fX6_31 ff6_6 rfl (fun x => rfl) (fun x => rfl) rfl rfl (by decide) (by decide) ?_
  refine z_aload iX6_init_60 rfl ?_
  refine z_push iX6_init_61 ?_
  refine p_putI iX6_init_62 fX6_34 fw6_7 rfl rfl rfl rfl rfl (by decide) (by decide) ?_
  refine z_aload iX6_init_65 rfl ?_
  refine z_push iX6_init_66 ?_
  refine p_putI iX6_init_67 fX6_38 fw6_8 rfl rfl rfl rfl rfl (by decide) (by decide) ?_
  refine z_aload iX6_init_70 rfl ?_
  refine z_push iX6_init_71 ?_
  refine p_putI iX6_init_72 fX6_41 fw6_9 rfl rfl rfl rfl rfl (by decide) (by decide) ?_
  refine z_vret iX6_init_75 rfl ⟨rfl, rfl, zP_dn ?_ (fun k i hk => by simp only [zbs, nbf hk, Bool.false_and, Bool.false_or])⟩ (Nat.le_refl _) (Nat.le_refl _)
  exact fun i => match i with
    | 0 => Or.inr rfl
    | 1 => Or.inr rfl
    | 2 => Or.inr rfl
    | 3 => Or.inr rfl
    | 4 => Or.inr rfl
    | 5 => Or.inr rfl
    | 6 => Or.inr rfl
    | 7 => Or.inl rfl
    | 8 => Or.inl rfl
    | 9 => Or.inl rfl
    | j + 10 => Or.inl rfl

set_option maxRecDepth 100000 in
theorem tX5_init_11 {L : Nat} (b : Nat → Nat → Bool) (xs : Nat → Int32) (hb : ∀ k i, 11 ≤ k → b k i = false) : zMt mX5_init 1 8 2840 [.ref 11, .ref 3] 12 (zP b L (zF0 xs)) (fun r N w => r = none ∧ N = 20 ∧ w = zP (zbd b 11) L (zF0 xs)) := by
  refine p_of (lo := [some (.ref 11), some (.ref 3)]) (by decide +kernel) (Nat.le_of_ble_eq_true rfl) rfl ?_
  refine z_aload iX5_init_0 rfl ?_
  refine z_objInit iX5_init_1 obX5 obI1 obI2 ⟨Nat.le_of_ble_eq_true rfl, Nat.le_of_ble_eq_true rfl⟩ ?_
  refine z_aload iX5_init_4 rfl ?_
  refine z_push iX5_init_5 ?_
  refine p_newa (len := 400) iX5_init_8 rfl (t := 0) rfl (Or.inl rfl) acI ⟨rfl, rfl⟩ (fun i => rfl) (fun i => rfl) (by decide) (by decide) (by decide) ⟨Nat.le_of_ble_eq_true rfl, Nat.le_of_ble_eq_true rfl⟩ ?_
  simp only [Nat.reduceAdd]
  refine p_putR iX5_init_10 fX5_9 ff5_1 rfl (fun x => rfl) (fun x => rfl) rfl rfl (by decide) (by decide) ?_
  refine z_aload iX5_init_13 rfl ?_
  refine z_push iX5_init_14 ?_
  refine p_newa (len := 400) iX5_init_17 rfl (t := 0) rfl (Or.inl rfl) acI ⟨rfl, rfl⟩ (fun i => rfl) (fun i => rfl) (by decide) (by decide) (by decide) ⟨Nat.le_of_ble_eq_true rfl, Nat.le_of_ble_eq_true rfl⟩ ?_
  simp only [Nat.reduceAdd]
  refine p_putR iX5_init_19 fX5_15 ff5_2 rfl (fun x => rfl) (fun x => rfl) rfl rfl (by decide) (by decide) ?_
  refine z_aload iX5_init_22 rfl ?_
  refine z_push iX5_init_23 ?_
  refine p_newa (len := 400) iX5_init_26 rfl (t := 0) rfl (Or.inl rfl) acI ⟨rfl, rfl⟩ (fun i => rfl) (fun i => rfl) (by decide) (by decide) (by decide) ⟨Nat.le_of_ble_eq_true rfl, Nat.le_of_ble_eq_true rfl⟩ ?_
  simp only [Nat.reduceAdd]
  refine p_putR iX5_init_28 fX5_18 ff5_3 rfl (fun x => rfl) (fun x => rfl) rfl rfl (by decide) (by decide) ?_
  refine z_aload iX5_init_31 rfl ?_
  refine z_push iX5_init_32 ?_
  refine p_newa (len := 400) iX5_init_35 rfl (t := 0) rfl (Or.inl rfl) acI ⟨rfl, rfl⟩ (fun i => rfl) (fun i => rfl) (by decide) (by decide) (by decide) ⟨Nat.le_of_ble_eq_true rfl, Nat.le_of_ble_eq_true rfl⟩ ?_
  simp only [Nat.reduceAdd]
  refine p_putR iX5_init_37 fX5_21 ff5_4 rfl (fun x => rfl) (fun x => rfl) rfl rfl (by decide) (by decide) ?_
  refine z_aload iX5_init_40 rfl ?_
  refine z_push iX5_init_41 ?_
  refine p_newa (len := 400) iX5_init_44 rfl (t := 1) rfl (Or.inr rfl) acZ ⟨rfl, rfl⟩ (fun i => rfl) (fun i => rfl) (by decide) (by decide) (by decide) ⟨Nat.le_of_ble_eq_true rfl, Nat.le_of_ble_eq_true rfl⟩ ?_
  simp only [Nat.reduceAdd]
  refine p_putR iX5_init_46 fX5_24 ff5_5 rfl (fun x => rfl) (fun x => rfl) rfl rfl (by decide) (by decide) ?_
  refine z_aload iX5_init_49 rfl ?_
  refine z_push iX5_init_50 ?_
  refine p_putI iX5_init_51 fX5_28 fw5_6 rfl rfl rfl rfl rfl (by decide) (by decide) ?_
  refine z_aload iX5_init_54 rfl ?_
  refine z_push iX5_init_55 ?_
  refine p_newa (len := 60) iX5_init_57 rfl (t := 0) rfl (Or.inl rfl) acI ⟨rfl, rfl⟩ (fun i => rfl) (fun i => rfl) (by decide) (by decide) (by decide) ⟨Nat.le_of_ble_eq_true rfl, Nat.le_of_ble_eq_true rfl⟩ ?_
  simp only [Nat.reduceAdd]
  refine p_putR iX5_init_59 fX5_32 ff5_7 rfl (fun x => rfl) (fun x => rfl) rfl rfl (by decide) (by decide) ?_
  refine z_aload iX5_init_62 rfl ?_
  refine z_push iX5_init_63 ?_
  refine p_newa (len := 300) iX5_init_66 rfl (t := 0) rfl (Or.inl rfl) acI ⟨rfl, rfl⟩ (fun i => rfl) (fun i => rfl) (by decide) (by decide) (by decide) ⟨Nat.le_of_ble_eq_true rfl, Nat.le_of_ble_eq_true rfl⟩ ?_
  simp only [Nat.reduceAdd]
  refine p_putR iX5_init_68 fX5_35 ff5_8 rfl (fun x => rfl) (fun x => rfl) rfl rfl (by decide) (by decide) ?_
  refine z_aload iX5_init_71 rfl ?_
  refine z_push iX5_init_72 ?_
  refine p_newa (len := 480) iX5_init_75 rfl (t := 0) rfl (Or.inl rfl) acI ⟨rfl, rfl⟩ (fun i => rfl) (fun i => rfl) (by decide) (by decide) (by decide) ⟨Nat.le_of_ble_eq_true rfl, Nat.le_of_ble_eq_true rfl⟩ ?_
  simp only [Nat.reduceAdd]
  refine p_putR iX5_init_77 fX5_38 ff5_9 rfl (fun x => rfl) (fun x => rfl) rfl rfl (by decide) (by decide) ?_
  refine z_aload iX5_init_80 rfl ?_
  refine z_aload iX5_init_81 rfl ?_
  refine p_putR iX5_init_82 fX5_41 ff5_0 rfl (fun x => rfl) (fun x => rfl) rfl rfl (by decide) (by decide) ?_
  refine z_vret iX5_init_85 rfl ⟨rfl, rfl, zP_dn ?_ (fun k i hk => by simp only [zbs, nbf hk, Bool.false_and, Bool.false_or])⟩ (Nat.le_refl _) (Nat.le_refl _)
  exact fun i => match i with
    | 0 => Or.inr rfl
    | 1 => Or.inr rfl
    | 2 => Or.inr rfl
    | 3 => Or.inr rfl
    | 4 => Or.inr rfl
    | 5 => Or.inr rfl
    | 6 => Or.inl rfl
    | 7 => Or.inr rfl
    | 8 => Or.inr rfl
    | 9 => Or.inr rfl
    | j + 10 => Or.inl rfl

set_option maxRecDepth 100000 in
theorem tX2_init_20 {L : Nat} (b : Nat → Nat → Bool) (xs : Nat → Int32) (hb : ∀ k i, 20 ≤ k → b k i = false) : zMt mX2_init 1 4 185 [.ref 20, .ref 3, .ref 11] 21 (zP b L (zF0 xs)) (fun r N w => r = none ∧ N = 25 ∧ w = zP (zbd b 20) L (zF0 xs)) := by
  refine p_of (lo := [some (.ref 20), some (.ref 3), some (.ref 11)]) (by decide +kernel) (Nat.le_of_ble_eq_true rfl) rfl ?_
  refine z_aload iX2_init_0 rfl ?_
  refine z_objInit iX2_init_1 obX2 obI1 obI2 ⟨Nat.le_of_ble_eq_true rfl, Nat.le_of_ble_eq_true rfl⟩ ?_
  refine z_aload iX2_init_4 rfl ?_
  refine z_push iX2_init_5 ?_
  refine p_newa (len := 60) iX2_init_7 rfl (t := 0) rfl (Or.inl rfl) acI ⟨rfl, rfl⟩ (fun i => rfl) (fun i => rfl) (by decide) (by decide) (by decide) ⟨Nat.le_of_ble_eq_true rfl, Nat.le_of_ble_eq_true rfl⟩ ?_
  simp only [Nat.reduceAdd]
  refine p_putR iX2_init_9 fX2_9 ff2_2 rfl (fun x => rfl) (fun x => rfl) rfl rfl (by decide) (by decide) ?_
  refine z_aload iX2_init_12 rfl ?_
  refine z_push iX2_init_13 ?_
  refine p_newa (len := 60) iX2_init_15 rfl (t := 0) rfl (Or.inl rfl) acI ⟨rfl, rfl⟩ (fun i => rfl) (fun i => rfl) (by decide) (by decide) (by decide) ⟨Nat.le_of_ble_eq_true rfl, Nat.le_of_ble_eq_true rfl⟩ ?_
  simp only [Nat.reduceAdd]
  refine p_putR iX2_init_17 fX2_15 ff2_3 rfl (fun x => rfl) (fun x => rfl) rfl rfl (by decide) (by decide) ?_
  refine z_aload iX2_init_20 rfl ?_
  refine z_push iX2_init_21 ?_
  refine p_newa (len := 60) iX2_init_23 rfl (t := 0) rfl (Or.inl rfl) acI ⟨rfl, rfl⟩ (fun i => rfl) (fun i => rfl) (by decide) (by decide) (by decide) ⟨Nat.le_of_ble_eq_true rfl, Nat.le_of_ble_eq_true rfl⟩ ?_
  simp only [Nat.reduceAdd]
  refine p_putR iX2_init_25 fX2_18 ff2_4 rfl (fun x => rfl) (fun x => rfl) rfl rfl (by decide) (by decide) ?_
  refine z_aload iX2_init_28 rfl ?_
  refine z_push iX2_init_29 ?_
  refine p_newa (len := 5) iX2_init_30 rfl (t := 0) rfl (Or.inl rfl) acI ⟨rfl, rfl⟩ (fun i => rfl) (fun i => rfl) (by decide) (by decide) (by decide) ⟨Nat.le_of_ble_eq_true rfl, Nat.le_of_ble_eq_true rfl⟩ ?_
  simp only [Nat.reduceAdd]
  refine p_putR iX2_init_32 fX2_21 ff2_5 rfl (fun x => rfl) (fun x => rfl) rfl rfl (by decide) (by decide) ?_
  refine z_aload iX2_init_35 rfl ?_
  refine z_aload iX2_init_36 rfl ?_
  refine p_putR iX2_init_37 fX2_24 ff2_0 rfl (fun x => rfl) (fun x => rfl) rfl rfl (by decide) (by decide) ?_
  refine z_aload iX2_init_40 rfl ?_
  refine z_aload iX2_init_41 rfl ?_
  refine p_putR iX2_init_42 fX2_28 ff2_1 rfl (fun x => rfl) (fun x => rfl) rfl rfl (by decide) (by decide) ?_
  refine z_vret iX2_init_45 rfl ⟨rfl, rfl, zP_dn ?_ (fun k i hk => by simp only [zbs, nbf hk, Bool.false_and, Bool.false_or])⟩ (Nat.le_refl _) (Nat.le_refl _)
  exact fun i => match i with
    | 0 => Or.inr rfl
    | 1 => Or.inr rfl
    | 2 => Or.inr rfl
    | 3 => Or.inr rfl
    | 4 => Or.inr rfl
    | 5 => Or.inr rfl
    | j + 6 => Or.inl rfl

set_option maxRecDepth 100000 in
theorem tX3_init_25 {L : Nat} (b : Nat → Nat → Bool) (xs : Nat → Int32) (hb : ∀ k i, 25 ≤ k → b k i = false) : zMt mX3_init 1 3 72 [.ref 25] 26 (zP b L (zF0 xs)) (fun r N w => r = none ∧ N = 29 ∧ w = zP (zbd b 25) L (zF0 xs)) := by
  refine p_of (lo := [some (.ref 25)]) (by decide +kernel) (Nat.le_of_ble_eq_true rfl) rfl ?_
  refine z_aload iX3_init_0 rfl ?_
  refine z_objInit iX3_init_1 obX3 obI1 obI2 ⟨Nat.le_of_ble_eq_true rfl, Nat.le_of_ble_eq_true rfl⟩ ?_
  refine z_aload iX3_init_4 rfl ?_
  refine z_push iX3_init_5 ?_
  refine p_newa (len := 24) iX3_init_7 rfl (t := 0) rfl (Or.inl rfl) acI ⟨rfl, rfl⟩ (fun i => rfl) (fun i => rfl) (by decide) (by decide) (by decide) ⟨Nat.le_of_ble_eq_true rfl, Nat.le_of_ble_eq_true rfl⟩ ?_
  simp only [Nat.reduceAdd]
  refine p_putR iX3_init_9 fX3_9 ff3_0 rfl (fun x => rfl) (fun x => rfl) rfl rfl (by decide) (by decide) ?_
  refine z_aload iX3_init_12 rfl ?_
  refine z_push iX3_init_13 ?_
  refine p_newa (len := 24) iX3_init_15 rfl (t := 0) rfl (Or.inl rfl) acI ⟨rfl, rfl⟩ (fun i => rfl) (fun i => rfl) (by decide) (by decide) (by decide) ⟨Nat.le_of_ble_eq_true rfl, Nat.le_of_ble_eq_true rfl⟩ ?_
  simp only [Nat.reduceAdd]
  refine p_putR iX3_init_17 fX3_15 ff3_1 rfl (fun x => rfl) (fun x => rfl) rfl rfl (by decide) (by decide) ?_
  refine z_aload iX3_init_20 rfl ?_
  refine z_push iX3_init_21 ?_
  refine p_newa (len := 24) iX3_init_23 rfl (t := 0) rfl (Or.inl rfl) acI ⟨rfl, rfl⟩ (fun i => rfl) (fun i => rfl) (by decide) (by decide) (by decide) ⟨Nat.le_of_ble_eq_true rfl, Nat.le_of_ble_eq_true rfl⟩ ?_
  simp only [Nat.reduceAdd]
  refine p_putR iX3_init_25 fX3_18 ff3_2 rfl (fun x => rfl) (fun x => rfl) rfl rfl (by decide) (by decide) ?_
  refine z_aload iX3_init_28 rfl ?_
  refine z_push iX3_init_29 ?_
  refine p_putI iX3_init_30 fX3_21 fw3_3 rfl rfl rfl rfl rfl (by decide) (by decide) ?_
  refine z_vret iX3_init_33 rfl ⟨rfl, rfl, zP_dn ?_ (fun k i hk => by simp only [zbs, nbf hk, Bool.false_and, Bool.false_or])⟩ (Nat.le_refl _) (Nat.le_refl _)
  exact fun i => match i with
    | 0 => Or.inr rfl
    | 1 => Or.inr rfl
    | 2 => Or.inr rfl
    | 3 => Or.inl rfl
    | j + 4 => Or.inl rfl

set_option maxRecDepth 100000 in
theorem tX0_init_29 {L : Nat} (b : Nat → Nat → Bool) (xs : Nat → Int32) (hb : ∀ k i, 29 ≤ k → b k i = false) : zMt mX0_init 1 1 1200 [.ref 29] 30 (zP b L (zF0 xs)) (fun r N w => r = none ∧ N = 31 ∧ w = zP (zbd b 29) L (zF0 xs)) := by
  refine p_of (lo := [some (.ref 29)]) (by decide +kernel) (Nat.le_of_ble_eq_true rfl) rfl ?_
  refine z_aload iX0_init_0 rfl ?_
  refine z_objInit iX0_init_1 obX0 obI1 obI2 ⟨Nat.le_of_ble_eq_true rfl, Nat.le_of_ble_eq_true rfl⟩ ?_
  refine z_aload iX0_init_4 rfl ?_
  refine z_push iX0_init_5 ?_
  refine p_newa (len := 1200) iX0_init_8 rfl (t := 0) rfl (Or.inl rfl) acI ⟨rfl, rfl⟩ (fun i => rfl) (fun i => rfl) (by decide) (by decide) (by decide) ⟨Nat.le_of_ble_eq_true rfl, Nat.le_of_ble_eq_true rfl⟩ ?_
  simp only [Nat.reduceAdd]
  refine p_putR iX0_init_10 fX0_11 ff0_0 rfl (fun x => rfl) (fun x => rfl) rfl rfl (by decide) (by decide) ?_
  refine z_aload iX0_init_13 rfl ?_
  refine z_push iX0_init_14 ?_
  refine p_putI iX0_init_15 fX0_15 fw0_1 rfl rfl rfl rfl rfl (by decide) (by decide) ?_
  refine z_vret iX0_init_18 rfl ⟨rfl, rfl, zP_dn ?_ (fun k i hk => by simp only [zbs, nbf hk, Bool.false_and, Bool.false_or])⟩ (Nat.le_refl _) (Nat.le_refl _)
  exact fun i => match i with
    | 0 => Or.inr rfl
    | 1 => Or.inl rfl
    | j + 2 => Or.inl rfl

set_option maxRecDepth 100000 in
theorem tX1_init_31 {L : Nat} (b : Nat → Nat → Bool) (xs : Nat → Int32) (hb : ∀ k i, 31 ≤ k → b k i = false) : zMt mX1_init 1 2 12 [.ref 31] 32 (zP b L (zF0 xs)) (fun r N w => r = none ∧ N = 34 ∧ w = zP (zbd b 31) L (zF0 xs)) := by
  refine p_of (lo := [some (.ref 31)]) (by decide +kernel) (Nat.le_of_ble_eq_true rfl) rfl ?_
  refine z_aload iX1_init_0 rfl ?_
  refine z_objInit iX1_init_1 obX1 obI1 obI2 ⟨Nat.le_of_ble_eq_true rfl, Nat.le_of_ble_eq_true rfl⟩ ?_
  refine z_aload iX1_init_4 rfl ?_
  refine z_push iX1_init_5 ?_
  refine p_newa (len := 6) iX1_init_7 rfl (t := 0) rfl (Or.inl rfl) acI ⟨rfl, rfl⟩ (fun i => rfl) (fun i => rfl) (by decide) (by decide) (by decide) ⟨Nat.le_of_ble_eq_true rfl, Nat.le_of_ble_eq_true rfl⟩ ?_
  simp only [Nat.reduceAdd]
  refine p_putR iX1_init_9 fX1_9 ff1_0 rfl (fun x => rfl) (fun x => rfl) rfl rfl (by decide) (by decide) ?_
  refine z_aload iX1_init_12 rfl ?_
  refine z_push iX1_init_13 ?_
  refine p_newa (len := 6) iX1_init_15 rfl (t := 0) rfl (Or.inl rfl) acI ⟨rfl, rfl⟩ (fun i => rfl) (fun i => rfl) (by decide) (by decide) (by decide) ⟨Nat.le_of_ble_eq_true rfl, Nat.le_of_ble_eq_true rfl⟩ ?_
  simp only [Nat.reduceAdd]
  refine p_putR iX1_init_17 fX1_15 ff1_1 rfl (fun x => rfl) (fun x => rfl) rfl rfl (by decide) (by decide) ?_
  refine z_aload iX1_init_20 rfl ?_
  refine z_push iX1_init_21 ?_
  refine p_putI iX1_init_22 fX1_18 fw1_2 rfl rfl rfl rfl rfl (by decide) (by decide) ?_
  refine z_aload iX1_init_25 rfl ?_
  refine z_push iX1_init_26 ?_
  refine p_putI iX1_init_27 fX1_22 fw1_3 rfl rfl rfl rfl rfl (by decide) (by decide) ?_
  refine z_vret iX1_init_30 rfl ⟨rfl, rfl, zP_dn ?_ (fun k i hk => by simp only [zbs, nbf hk, Bool.false_and, Bool.false_or])⟩ (Nat.le_refl _) (Nat.le_refl _)
  exact fun i => match i with
    | 0 => Or.inr rfl
    | 1 => Or.inr rfl
    | 2 => Or.inl rfl
    | 3 => Or.inl rfl
    | j + 4 => Or.inl rfl

set_option maxRecDepth 100000 in
theorem tX4_init_35 {L : Nat} (b : Nat → Nat → Bool) (xs : Nat → Int32) (hb : ∀ k i, 35 ≤ k → b k i = false) : zMt mX4_init 1 4 48 [.ref 35] 36 (zP b L (zF0 xs)) (fun r N w => r = none ∧ N = 40 ∧ w = zP (zbd b 35) L (zF0 xs)) := by
  refine p_of (lo := [some (.ref 35)]) (by decide +kernel) (Nat.le_of_ble_eq_true rfl) rfl ?_
  refine z_aload iX4_init_0 rfl ?_
  refine z_objInit iX4_init_1 obX4 obI1 obI2 ⟨Nat.le_of_ble_eq_true rfl, Nat.le_of_ble_eq_true rfl⟩ ?_
  refine z_aload iX4_init_4 rfl ?_
  refine z_push iX4_init_5 ?_
  refine p_putI iX4_init_6 fX4_9 fw4_0 rfl rfl rfl rfl rfl (by decide) (by decide) ?_
  refine z_aload iX4_init_9 rfl ?_
  refine z_push iX4_init_10 ?_
  refine p_putI iX4_init_11 fX4_15 fw4_1 rfl rfl rfl rfl rfl (by decide) (by decide) ?_
  refine z_aload iX4_init_14 rfl ?_
  refine z_push iX4_init_15 ?_
  refine p_putI iX4_init_16 fX4_18 fw4_2 rfl rfl rfl rfl rfl (by decide) (by decide) ?_
  refine z_aload iX4_init_19 rfl ?_
  refine z_push iX4_init_20 ?_
  refine p_newa (len := 16) iX4_init_22 rfl (t := 0) rfl (Or.inl rfl) acI ⟨rfl, rfl⟩ (fun i => rfl) (fun i => rfl) (by decide) (by decide) (by decide) ⟨Nat.le_of_ble_eq_true rfl, Nat.le_of_ble_eq_true rfl⟩ ?_
  simp only [Nat.reduceAdd]
  refine p_putR iX4_init_24 fX4_21 ff4_3 rfl (fun x => rfl) (fun x => rfl) rfl rfl (by decide) (by decide) ?_
  refine z_aload iX4_init_27 rfl ?_
  refine z_push iX4_init_28 ?_
  refine p_newa (len := 16) iX4_init_30 rfl (t := 0) rfl (Or.inl rfl) acI ⟨rfl, rfl⟩ (fun i => rfl) (fun i => rfl) (by decide) (by decide) (by decide) ⟨Nat.le_of_ble_eq_true rfl, Nat.le_of_ble_eq_true rfl⟩ ?_
  simp only [Nat.reduceAdd]
  refine p_putR iX4_init_32 fX4_25 ff4_4 rfl (fun x => rfl) (fun x => rfl) rfl rfl (by decide) (by decide) ?_
  refine z_aload iX4_init_35 rfl ?_
  refine z_push iX4_init_36 ?_
  refine p_putI iX4_init_37 fX4_28 fw4_5 rfl rfl rfl rfl rfl (by decide) (by decide) ?_
  refine z_aload iX4_init_40 rfl ?_
  refine z_push iX4_init_41 ?_
  refine p_newa (len := 8) iX4_init_43 rfl (t := 0) rfl (Or.inl rfl) acI ⟨rfl, rfl⟩ (fun i => rfl) (fun i => rfl) (by decide) (by decide) (by decide) ⟨Nat.le_of_ble_eq_true rfl, Nat.le_of_ble_eq_true rfl⟩ ?_
  simp only [Nat.reduceAdd]
  refine p_putR iX4_init_45 fX4_31 ff4_6 rfl (fun x => rfl) (fun x => rfl) rfl rfl (by decide) (by decide) ?_
  refine z_aload iX4_init_48 rfl ?_
  refine z_push iX4_init_49 ?_
  refine p_newa (len := 8) iX4_init_51 rfl (t := 0) rfl (Or.inl rfl) acI ⟨rfl, rfl⟩ (fun i => rfl) (fun i => rfl) (by decide) (by decide) (by decide) ⟨Nat.le_of_ble_eq_true rfl, Nat.le_of_ble_eq_true rfl⟩ ?_
  simp only [Nat.reduceAdd]
  refine p_putR iX4_init_53 fX4_34 ff4_7 rfl (fun x => rfl) (fun x => rfl) rfl rfl (by decide) (by decide) ?_
  refine z_aload iX4_init_56 rfl ?_
  refine z_push iX4_init_57 ?_
  refine p_putI iX4_init_58 fX4_37 fw4_8 rfl rfl rfl rfl rfl (by decide) (by decide) ?_
  refine z_vret iX4_init_61 rfl ⟨rfl, rfl, zP_dn ?_ (fun k i hk => by simp only [zbs, nbf hk, Bool.false_and, Bool.false_or])⟩ (Nat.le_refl _) (Nat.le_refl _)
  exact fun i => match i with
    | 0 => Or.inl rfl
    | 1 => Or.inl rfl
    | 2 => Or.inl rfl
    | 3 => Or.inr rfl
    | 4 => Or.inr rfl
    | 5 => Or.inl rfl
    | 6 => Or.inr rfl
    | 7 => Or.inr rfl
    | 8 => Or.inl rfl
    | j + 9 => Or.inl rfl

set_option maxRecDepth 100000 in
theorem tX4_init_40 {L : Nat} (b : Nat → Nat → Bool) (xs : Nat → Int32) (hb : ∀ k i, 40 ≤ k → b k i = false) : zMt mX4_init 1 4 48 [.ref 40] 41 (zP b L (zF0 xs)) (fun r N w => r = none ∧ N = 45 ∧ w = zP (zbd b 40) L (zF0 xs)) := by
  refine p_of (lo := [some (.ref 40)]) (by decide +kernel) (Nat.le_of_ble_eq_true rfl) rfl ?_
  refine z_aload iX4_init_0 rfl ?_
  refine z_objInit iX4_init_1 obX4 obI1 obI2 ⟨Nat.le_of_ble_eq_true rfl, Nat.le_of_ble_eq_true rfl⟩ ?_
  refine z_aload iX4_init_4 rfl ?_
  refine z_push iX4_init_5 ?_
  refine p_putI iX4_init_6 fX4_9 fw4_0 rfl rfl rfl rfl rfl (by decide) (by decide) ?_
  refine z_aload iX4_init_9 rfl ?_
  refine z_push iX4_init_10 ?_
  refine p_putI iX4_init_11 fX4_15 fw4_1 rfl rfl rfl rfl rfl (by decide) (by decide) ?_
  refine z_aload iX4_init_14 rfl ?_
  refine z_push iX4_init_15 ?_
  refine p_putI iX4_init_16 fX4_18 fw4_2 rfl rfl rfl rfl rfl (by decide) (by decide) ?_
  refine z_aload iX4_init_19 rfl ?_
  refine z_push iX4_init_20 ?_
  refine p_newa (len := 16) iX4_init_22 rfl (t := 0) rfl (Or.inl rfl) acI ⟨rfl, rfl⟩ (fun i => rfl) (fun i => rfl) (by decide) (by decide) (by decide) ⟨Nat.le_of_ble_eq_true rfl, Nat.le_of_ble_eq_true rfl⟩ ?_
  simp only [Nat.reduceAdd]
  refine p_putR iX4_init_24 fX4_21 ff4_3 rfl (fun x => rfl) (fun x => rfl) rfl rfl (by decide) (by decide) ?_
  refine z_aload iX4_init_27 rfl ?_
  refine z_push iX4_init_28 ?_
  refine p_newa (len := 16) iX4_init_30 rfl (t := 0) rfl (Or.inl rfl) acI ⟨rfl, rfl⟩ (fun i => rfl) (fun i => rfl) (by decide) (by decide) (by decide) ⟨Nat.le_of_ble_eq_true rfl, Nat.le_of_ble_eq_true rfl⟩ ?_
  simp only [Nat.reduceAdd]
  refine p_putR iX4_init_32 fX4_25 ff4_4 rfl (fun x => rfl) (fun x => rfl) rfl rfl (by decide) (by decide) ?_
  refine z_aload iX4_init_35 rfl ?_
  refine z_push iX4_init_36 ?_
  refine p_putI iX4_init_37 fX4_28 fw4_5 rfl rfl rfl rfl rfl (by decide) (by decide) ?_
  refine z_aload iX4_init_40 rfl ?_
  refine z_push iX4_init_41 ?_
  refine p_newa (len := 8) iX4_init_43 rfl (t := 0) rfl (Or.inl rfl) acI ⟨rfl, rfl⟩ (fun i => rfl) (fun i => rfl) (by decide) (by decide) (by decide) ⟨Nat.le_of_ble_eq_true rfl, Nat.le_of_ble_eq_true rfl⟩ ?_
  simp only [Nat.reduceAdd]
  refine p_putR iX4_init_45 fX4_31 ff4_6 rfl (fun x => rfl) (fun x => rfl) rfl rfl (by decide) (by decide) ?_
  refine z_aload iX4_init_48 rfl ?_
  refine z_push iX4_init_49 ?_
  refine p_newa (len := 8) iX4_init_51 rfl (t := 0) rfl (Or.inl rfl) acI ⟨rfl, rfl⟩ (fun i => rfl) (fun i => rfl) (by decide) (by decide) (by decide) ⟨Nat.le_of_ble_eq_true rfl, Nat.le_of_ble_eq_true rfl⟩ ?_
  simp only [Nat.reduceAdd]
  refine p_putR iX4_init_53 fX4_34 ff4_7 rfl (fun x => rfl) (fun x => rfl) rfl rfl (by decide) (by decide) ?_
  refine z_aload iX4_init_56 rfl ?_
  refine z_push iX4_init_57 ?_
  refine p_putI iX4_init_58 fX4_37 fw4_8 rfl rfl rfl rfl rfl (by decide) (by decide) ?_
  refine z_vret iX4_init_61 rfl ⟨rfl, rfl, zP_dn ?_ (fun k i hk => by simp only [zbs, nbf hk, Bool.false_and, Bool.false_or])⟩ (Nat.le_refl _) (Nat.le_refl _)
  exact fun i => match i with
    | 0 => Or.inl rfl
    | 1 => Or.inl rfl
    | 2 => Or.inl rfl
    | 3 => Or.inr rfl
    | 4 => Or.inr rfl
    | 5 => Or.inl rfl
    | 6 => Or.inr rfl
    | 7 => Or.inr rfl
    | 8 => Or.inl rfl
    | j + 9 => Or.inl rfl

set_option maxRecDepth 100000 in
theorem tX4_init_45 {L : Nat} (b : Nat → Nat → Bool) (xs : Nat → Int32) (hb : ∀ k i, 45 ≤ k → b k i = false) : zMt mX4_init 1 4 48 [.ref 45] 46 (zP b L (zF0 xs)) (fun r N w => r = none ∧ N = 50 ∧ w = zP (zbd b 45) L (zF0 xs)) := by
  refine p_of (lo := [some (.ref 45)]) (by decide +kernel) (Nat.le_of_ble_eq_true rfl) rfl ?_
  refine z_aload iX4_init_0 rfl ?_
  refine z_objInit iX4_init_1 obX4 obI1 obI2 ⟨Nat.le_of_ble_eq_true rfl, Nat.le_of_ble_eq_true rfl⟩ ?_
  refine z_aload iX4_init_4 rfl ?_
  refine z_push iX4_init_5 ?_
  refine p_putI iX4_init_6 fX4_9 fw4_0 rfl rfl rfl rfl rfl (by decide) (by decide) ?_
  refine z_aload iX4_init_9 rfl ?_
  refine z_push iX4_init_10 ?_
  refine p_putI iX4_init_11 fX4_15 fw4_1 rfl rfl rfl rfl rfl (by decide) (by decide) ?_
  refine z_aload iX4_init_14 rfl ?_
  refine z_push iX4_init_15 ?_
  refine p_putI iX4_init_16 fX4_18 fw4_2 rfl rfl rfl rfl rfl (by decide) (by decide) ?_
  refine z_aload iX4_init_19 rfl ?_
  refine z_push iX4_init_20 ?_
  refine p_newa (len := 16) iX4_init_22 rfl (t := 0) rfl (Or.inl rfl) acI ⟨rfl, rfl⟩ (fun i => rfl) (fun i => rfl) (by decide) (by decide) (by decide) ⟨Nat.le_of_ble_eq_true rfl, Nat.le_of_ble_eq_true rfl⟩ ?_
  simp only [Nat.reduceAdd]
  refine p_putR iX4_init_24 fX4_21 ff4_3 rfl (fun x => rfl) (fun x => rfl) rfl rfl (by decide) (by decide) ?_
  refine z_aload iX4_init_27 rfl ?_
  refine z_push iX4_init_28 ?_
  refine p_newa (len := 16) iX4_init_30 rfl (t := 0) rfl (Or.inl rfl) acI ⟨rfl, rfl⟩ (fun i => rfl) (fun i => rfl) (by decide) (by decide) (by decide) ⟨Nat.le_of_ble_eq_true rfl, Nat.le_of_ble_eq_true rfl⟩ ?_
  simp only [Nat.reduceAdd]
  refine p_putR iX4_init_32 fX4_25 ff4_4 rfl (fun x => rfl) (fun x => rfl) rfl rfl (by decide) (by decide) ?_
  refine z_aload iX4_init_35 rfl ?_
  refine z_push iX4_init_36 ?_
  refine p_putI iX4_init_37 fX4_28 fw4_5 rfl rfl rfl rfl rfl (by decide) (by decide) ?_
  refine z_aload iX4_init_40 rfl ?_
  refine z_push iX4_init_41 ?_
  refine p_newa (len := 8) iX4_init_43 rfl (t := 0) rfl (Or.inl rfl) acI ⟨rfl, rfl⟩ (fun i => rfl) (fun i => rfl) (by decide) (by decide) (by decide) ⟨Nat.le_of_ble_eq_true rfl, Nat.le_of_ble_eq_true rfl⟩ ?_
  simp only [Nat.reduceAdd]
  refine p_putR iX4_init_45 fX4_31 ff4_6 rfl (fun x => rfl) (fun x => rfl) rfl rfl (by decide) (by decide) ?_
  refine z_aload iX4_init_48 rfl ?_
  refine z_push iX4_init_49 ?_
  refine p_newa (len := 8) iX4_init_51 rfl (t := 0) rfl (Or.inl rfl) acI ⟨rfl, rfl⟩ (fun i => rfl) (fun i => rfl) (by decide) (by decide) (by decide) ⟨Nat.le_of_ble_eq_true rfl, Nat.le_of_ble_eq_true rfl⟩ ?_
  simp only [Nat.reduceAdd]
  refine p_putR iX4_init_53 fX4_34 ff4_7 rfl (fun x => rfl) (fun x => rfl) rfl rfl (by decide) (by decide) ?_
  refine z_aload iX4_init_56 rfl ?_
  refine z_push iX4_init_57 ?_
  refine p_putI iX4_init_58 fX4_37 fw4_8 rfl rfl rfl rfl rfl (by decide) (by decide) ?_
  refine z_vret iX4_init_61 rfl ⟨rfl, rfl, zP_dn ?_ (fun k i hk => by simp only [zbs, nbf hk, Bool.false_and, Bool.false_or])⟩ (Nat.le_refl _) (Nat.le_refl _)
  exact fun i => match i with
    | 0 => Or.inl rfl
    | 1 => Or.inl rfl
    | 2 => Or.inl rfl
    | 3 => Or.inr rfl
    | 4 => Or.inr rfl
    | 5 => Or.inl rfl
    | 6 => Or.inr rfl
    | 7 => Or.inr rfl
    | 8 => Or.inl rfl
    | j + 9 => Or.inl rfl

set_option maxRecDepth 100000 in
theorem tX4_init_50 {L : Nat} (b : Nat → Nat → Bool) (xs : Nat → Int32) (hb : ∀ k i, 50 ≤ k → b k i = false) : zMt mX4_init 1 4 48 [.ref 50] 51 (zP b L (zF0 xs)) (fun r N w => r = none ∧ N = 55 ∧ w = zP (zbd b 50) L (zF0 xs)) := by
  refine p_of (lo := [some (.ref 50)]) (by decide +kernel) (Nat.le_of_ble_eq_true rfl) rfl ?_
  refine z_aload iX4_init_0 rfl ?_
  refine z_objInit iX4_init_1 obX4 obI1 obI2 ⟨Nat.le_of_ble_eq_true rfl, Nat.le_of_ble_eq_true rfl⟩ ?_
  refine z_aload iX4_init_4 rfl ?_
  refine z_push iX4_init_5 ?_
  refine p_putI iX4_init_6 fX4_9 fw4_0 rfl rfl rfl rfl rfl (by decide) (by decide) ?_
  refine z_aload iX4_init_9 rfl ?_
  refine z_push iX4_init_10 ?_
  refine p_putI iX4_init_11 fX4_15 fw4_1 rfl rfl rfl rfl rfl (by decide) (by decide) ?_
  refine z_aload iX4_init_14 rfl ?_
  refine z_push iX4_init_15 ?_
  refine p_putI iX4_init_16 fX4_18 fw4_2 rfl rfl rfl rfl rfl (by decide) (by decide) ?_
  refine z_aload iX4_init_19 rfl ?_
  refine z_push iX4_init_20 ?_
  refine p_newa (len := 16) iX4_init_22 rfl (t := 0) rfl (Or.inl rfl) acI ⟨rfl, rfl⟩ (fun i => rfl) (fun i => rfl) (by decide) (by decide) (by decide) ⟨Nat.le_of_ble_eq_true rfl, Nat.le_of_ble_eq_true rfl⟩ ?_
  simp only [Nat.reduceAdd]
  refine p_putR iX4_init_24 fX4_21 ff4_3 rfl (fun x => rfl) (fun x => rfl) rfl rfl (by decide) (by decide) ?_
  refine z_aload iX4_init_27 rfl ?_
  refine z_push iX4_init_28 ?_
  refine p_newa (len := 16) iX4_init_30 rfl (t := 0) rfl (Or.inl rfl) acI ⟨rfl, rfl⟩ (fun i => rfl) (fun i => rfl) (by decide) (by decide) (by decide) ⟨Nat.le_of_ble_eq_true rfl, Nat.le_of_ble_eq_true rfl⟩ ?_
  simp only [Nat.reduceAdd]
  refine p_putR iX4_init_32 fX4_25 ff4_4 rfl (fun x => rfl) (fun x => rfl) rfl rfl (by decide) (by decide) ?_
  refine z_aload iX4_init_35 rfl ?_
  refine z_push iX4_init_36 ?_
  refine p_putI iX4_init_37 fX4_28 fw4_5 rfl rfl rfl rfl rfl (by decide) (by decide) ?_
  refine z_aload iX4_init_40 rfl ?_
  refine z_push iX4_init_41 ?_
  refine p_newa (len := 8) iX4_init_43 rfl (t := 0) rfl (Or.inl rfl) acI ⟨rfl, rfl⟩ (fun i => rfl) (fun i => rfl) (by decide) (by decide) (by decide) ⟨Nat.le_of_ble_eq_true rfl, Nat.le_of_ble_eq_true rfl⟩ ?_
  simp only [Nat.reduceAdd]
  refine p_putR iX4_init_45 fX4_31 ff4_6 rfl (fun x => rfl) (fun x => rfl) rfl rfl (by decide) (by decide) ?_
  refine z_aload iX4_init_48 rfl ?_
  refine z_push iX4_init_49 ?_
  refine p_newa (len := 8) iX4_init_51 rfl (t := 0) rfl (Or.inl rfl) acI ⟨rfl, rfl⟩ (fun i => rfl) (fun i => rfl) (by decide) (by decide) (by decide) ⟨Nat.le_of_ble_eq_true rfl, Nat.le_of_ble_eq_true rfl⟩ ?_
  simp only [Nat.reduceAdd]
  refine p_putR iX4_init_53 fX4_34 ff4_7 rfl (fun x => rfl) (fun x => rfl) rfl rfl (by decide) (by decide) ?_
  refine z_aload iX4_init_56 rfl ?_
  refine z_push iX4_init_57 ?_
  refine p_putI iX4_init_58 fX4_37 fw4_8 rfl rfl rfl rfl rfl (by decide) (by decide) ?_
  refine z_vret iX4_init_61 rfl ⟨rfl, rfl, zP_dn ?_ (fun k i hk => by simp only [zbs, nbf hk, Bool.false_and, Bool.false_or])⟩ (Nat.le_refl _) (Nat.le_refl _)
  exact fun i => match i with
    | 0 => Or.inl rfl
    | 1 => Or.inl rfl
    | 2 => Or.inl rfl
    | 3 => Or.inr rfl
    | 4 => Or.inr rfl
    | 5 => Or.inl rfl
    | 6 => Or.inr rfl
    | 7 => Or.inr rfl
    | 8 => Or.inl rfl
    | j + 9 => Or.inl rfl

set_option maxRecDepth 100000 in
theorem tX4_init_55 {L : Nat} (b : Nat → Nat → Bool) (xs : Nat → Int32) (hb : ∀ k i, 55 ≤ k → b k i = false) : zMt mX4_init 1 4 48 [.ref 55] 56 (zP b L (zF0 xs)) (fun r N w => r = none ∧ N = 60 ∧ w = zP (zbd b 55) L (zF0 xs)) := by
  refine p_of (lo := [some (.ref 55)]) (by decide +kernel) (Nat.le_of_ble_eq_true rfl) rfl ?_
  refine z_aload iX4_init_0 rfl ?_
  refine z_objInit iX4_init_1 obX4 obI1 obI2 ⟨Nat.le_of_ble_eq_true rfl, Nat.le_of_ble_eq_true rfl⟩ ?_
  refine z_aload iX4_init_4 rfl ?_
  refine z_push iX4_init_5 ?_
  refine p_putI iX4_init_6 fX4_9 fw4_0 rfl rfl rfl rfl rfl (by decide) (by decide) ?_
  refine z_aload iX4_init_9 rfl ?_
  refine z_push iX4_init_10 ?_
  refine p_putI iX4_init_11 fX4_15 fw4_1 rfl rfl rfl rfl rfl (by decide) (by decide) ?_
  refine z_aload iX4_init_14 rfl ?_
  refine z_push iX4_init_15 ?_
  refine p_putI iX4_init_16 fX4_18 fw4_2 rfl rfl rfl rfl rfl (by decide) (by decide) ?_
  refine z_aload iX4_init_19 rfl ?_
  refine z_push iX4_init_20 ?_
  refine p_newa (len := 16) iX4_init_22 rfl (t := 0) rfl (Or.inl rfl) acI ⟨rfl, rfl⟩ (fun i => rfl) (fun i => rfl) (by decide) (by decide) (by decide) ⟨Nat.le_of_ble_eq_true rfl, Nat.le_of_ble_eq_true rfl⟩ ?_
  simp only [Nat.reduceAdd]
  refine p_putR iX4_init_24 fX4_21 ff4_3 rfl (fun x => rfl) (fun x => rfl) rfl rfl (by decide) (by decide) ?_
  refine z_aload iX4_init_27 rfl ?_
  refine z_push iX4_init_28 ?_
  refine p_newa (len := 16) iX4_init_30 rfl (t := 0) rfl (Or.inl rfl) acI ⟨rfl, rfl⟩ (fun i => rfl) (fun i => rfl) (by decide) (by decide) (by decide) ⟨Nat.le_of_ble_eq_true rfl, Nat.le_of_ble_eq_true rfl⟩ ?_
  simp only [Nat.reduceAdd]
  refine p_putR iX4_init_32 fX4_25 ff4_4 rfl (fun x => rfl) (fun x => rfl) rfl rfl (by decide) (by decide) ?_
  refine z_aload iX4_init_35 rfl ?_
  refine z_push iX4_init_36 ?_
  refine p_putI iX4_init_37 fX4_28 fw4_5 rfl rfl rfl rfl rfl (by decide) (by decide) ?_
  refine z_aload iX4_init_40 rfl ?_
  refine z_push iX4_init_41 ?_
  refine p_newa (len := 8) iX4_init_43 rfl (t := 0) rfl (Or.inl rfl) acI ⟨rfl, rfl⟩ (fun i => rfl) (fun i => rfl) (by decide) (by decide) (by decide) ⟨Nat.le_of_ble_eq_true rfl, Nat.le_of_ble_eq_true rfl⟩ ?_
  simp only [Nat.reduceAdd]
  refine p_putR iX4_init_45 fX4_31 ff4_6 rfl (fun x => rfl) (fun x => rfl) rfl rfl (by decide) (by decide) ?_
  refine z_aload iX4_init_48 rfl ?_
  refine z_push iX4_init_49 ?_
  refine p_newa (len := 8) iX4_init_51 rfl (t := 0) rfl (Or.inl rfl) acI ⟨rfl, rfl⟩ (fun i => rfl) (fun i => rfl) (by decide) (by decide) (by decide) ⟨Nat.le_of_ble_eq_true rfl, Nat.le_of_ble_eq_true rfl⟩ ?_
  simp only [Nat.reduceAdd]
  refine p_putR iX4_init_53 fX4_34 ff4_7 rfl (fun x => rfl) (fun x => rfl) rfl rfl (by decide) (by decide) ?_
  refine z_aload iX4_init_56 rfl ?_
  refine z_push iX4_init_57 ?_
  refine p_putI iX4_init_58 fX4_37 fw4_8 rfl rfl rfl rfl rfl (by decide) (by decide) ?_
  refine z_vret iX4_init_61 rfl ⟨rfl, rfl, zP_dn ?_ (fun k i hk => by simp only [zbs, nbf hk, Bool.false_and, Bool.false_or])⟩ (Nat.le_refl _) (Nat.le_refl _)
  exact fun i => match i with
    | 0 => Or.inl rfl
    | 1 => Or.inl rfl
    | 2 => Or.inl rfl
    | 3 => Or.inr rfl
    | 4 => Or.inr rfl
    | 5 => Or.inl rfl
    | 6 => Or.inr rfl
    | 7 => Or.inr rfl
    | 8 => Or.inl rfl
    | j + 9 => Or.inl rfl

set_option maxRecDepth 100000 in
theorem tX4_init_60 {L : Nat} (b : Nat → Nat → Bool) (xs : Nat → Int32) (hb : ∀ k i, 60 ≤ k → b k i = false) : zMt mX4_init 1 4 48 [.ref 60] 61 (zP b L (zF0 xs)) (fun r N w => r = none ∧ N = 65 ∧ w = zP (zbd b 60) L (zF0 xs)) := by
  refine p_of (lo := [some (.ref 60)]) (by decide +kernel) (Nat.le_of_ble_eq_true rfl) rfl ?_
  refine z_aload iX4_init_0 rfl ?_
  refine z_objInit iX4_init_1 obX4 obI1 obI2 ⟨Nat.le_of_ble_eq_true rfl, Nat.le_of_ble_eq_true rfl⟩ ?_
  refine z_aload iX4_init_4 rfl ?_
  refine z_push iX4_init_5 ?_
  refine p_putI iX4_init_6 fX4_9 fw4_0 rfl rfl rfl rfl rfl (by decide) (by decide) ?_
  refine z_aload iX4_init_9 rfl ?_
  refine z_push iX4_init_10 ?_
  refine p_putI iX4_init_11 fX4_15 fw4_1 rfl rfl rfl rfl rfl (by decide) (by decide) ?_
  refine z_aload iX4_init_14 rfl ?_
  refine z_push iX4_init_15 ?_
  refine p_putI iX4_init_16 fX4_18 fw4_2 rfl rfl rfl rfl rfl (by decide) (by decide) ?_
  refine z_aload iX4_init_19 rfl ?_
  refine z_push iX4_init_20 ?_
  refine p_newa (len := 16) iX4_init_22 rfl (t := 0) rfl (Or.inl rfl) acI ⟨rfl, rfl⟩ (fun i => rfl) (fun i => rfl) (by decide) (by decide) (by decide) ⟨Nat.le_of_ble_eq_true rfl, Nat.le_of_ble_eq_true rfl⟩ ?_
  simp only [Nat.reduceAdd]
  refine p_putR iX4_init_24 fX4_21 ff4_3 rfl (fun x => rfl) (fun x => rfl) rfl rfl (by decide) (by decide) ?_
  refine z_aload iX4_init_27 rfl ?_
  refine z_push iX4_init_28 ?_
  refine p_newa (len := 16) iX4_init_30 rfl (t := 0) rfl (Or.inl rfl) acI ⟨rfl, rfl⟩ (fun i => rfl) (fun i => rfl) (by decide) (by decide) (by decide) ⟨Nat.le_of_ble_eq_true rfl, Nat.le_of_ble_eq_true rfl⟩ ?_
  simp only [Nat.reduceAdd]
  refine p_putR iX4_init_32 fX4_25 ff4_4 rfl (fun x => rfl) (fun x => rfl) rfl rfl (by decide) (by decide) ?_
  refine z_aload iX4_init_35 rfl ?_
  refine z_push iX4_init_36 ?_
  refine p_putI iX4_init_37 fX4_28 fw4_5 rfl rfl rfl rfl rfl (by decide) (by decide) ?_
  refine z_aload iX4_init_40 rfl ?_
  refine z_push iX4_init_41 ?_
  refine p_newa (len := 8) iX4_init_43 rfl (t := 0) rfl (Or.inl rfl) acI ⟨rfl, rfl⟩ (fun i => rfl) (fun i => rfl) (by decide) (by decide) (by decide) ⟨Nat.le_of_ble_eq_true rfl, Nat.le_of_ble_eq_true rfl⟩ ?_
  simp only [Nat.reduceAdd]
  refine p_putR iX4_init_45 fX4_31 ff4_6 rfl (fun x => rfl) (fun x => rfl) rfl rfl (by decide) (by decide) ?_
  refine z_aload iX4_init_48 rfl ?_
  refine z_push iX4_init_49 ?_
  refine p_newa (len := 8) iX4_init_51 rfl (t := 0) rfl (Or.inl rfl) acI ⟨rfl, rfl⟩ (fun i => rfl) (fun i => rfl) (by decide) (by decide) (by decide) ⟨Nat.le_of_ble_eq_true rfl, Nat.le_of_ble_eq_true rfl⟩ ?_
  simp only [Nat.reduceAdd]
  refine p_putR iX4_init_53 fX4_34 ff4_7 rfl (fun x => rfl) (fun x => rfl) rfl rfl (by decide) (by decide) ?_
  refine z_aload iX4_init_56 rfl ?_
  refine z_push iX4_init_57 ?_
  refine p_putI iX4_init_58 fX4_37 fw4_8 rfl rfl rfl rfl rfl (by decide) (by decide) ?_
  refine z_vret iX4_init_61 rfl ⟨rfl, rfl, zP_dn ?_ (fun k i hk => by simp only [zbs, nbf hk, Bool.false_and, Bool.false_or])⟩ (Nat.le_refl _) (Nat.le_refl _)
  exact fun i => match i with
    | 0 => Or.inl rfl
    | 1 => Or.inl rfl
    | 2 => Or.inl rfl
    | 3 => Or.inr rfl
    | 4 => Or.inr rfl
    | 5 => Or.inl rfl
    | 6 => Or.inr rfl
    | 7 => Or.inr rfl
    | 8 => Or.inl rfl
    | j + 9 => Or.inl rfl

set_option maxRecDepth 100000 in
theorem tX4_init_65 {L : Nat} (b : Nat → Nat → Bool) (xs : Nat → Int32) (hb : ∀ k i, 65 ≤ k → b k i = false) : zMt mX4_init 1 4 48 [.ref 65] 66 (zP b L (zF0 xs)) (fun r N w => r = none ∧ N = 70 ∧ w = zP (zbd b 65) L (zF0 xs)) := by
  refine p_of (lo := [some (.ref 65)]) (by decide +kernel) (Nat.le_of_ble_eq_true rfl) rfl ?_
  refine z_aload iX4_init_0 rfl ?_
  refine z_objInit iX4_init_1 obX4 obI1 obI2 ⟨Nat.le_of_ble_eq_true rfl, Nat.le_of_ble_eq_true rfl⟩ ?_
  refine z_aload iX4_init_4 rfl ?_
  refine z_push iX4_init_5 ?_
  refine p_putI iX4_init_6 fX4_9 fw4_0 rfl rfl rfl rfl rfl (by decide) (by decide) ?_
  refine z_aload iX4_init_9 rfl ?_
  refine z_push iX4_init_10 ?_
  refine p_putI iX4_init_11 fX4_15 fw4_1 rfl rfl rfl rfl rfl (by decide) (by decide) ?_
  refine z_aload iX4_init_14 rfl ?_
  refine z_push iX4_init_15 ?_
  refine p_putI iX4_init_16 fX4_18 fw4_2 rfl rfl rfl rfl rfl (by decide) (by decide) ?_
  refine z_aload iX4_init_19 rfl ?_
  refine z_push iX4_init_20 ?_
  refine p_newa (len := 16) iX4_init_22 rfl (t := 0) rfl (Or.inl rfl) acI ⟨rfl, rfl⟩ (fun i => rfl) (fun i => rfl) (by decide) (by decide) (by decide) ⟨Nat.le_of_ble_eq_true rfl, Nat.le_of_ble_eq_true rfl⟩ ?_
  simp only [Nat.reduceAdd]
  refine p_putR iX4_init_24 fX4_21 ff4_3 rfl (fun x => rfl) (fun x => rfl) rfl rfl (by decide) (by decide) ?_
  refine z_aload iX4_init_27 rfl ?_
  refine z_push iX4_init_28 ?_
  refine p_newa (len := 16) iX4_init_30 rfl (t := 0) rfl (Or.inl rfl) acI ⟨rfl, rfl⟩ (fun i => rfl) (fun i => rfl) (by decide) (by decide) (by decide) ⟨Nat.le_of_ble_eq_true rfl, Nat.le_of_ble_eq_true rfl⟩ ?_
  simp only [Nat.reduceAdd]
  refine p_putR iX4_init_32 fX4_25 ff4_4 rfl (fun x => rfl) (fun x => rfl) rfl rfl (by decide) (by decide) ?_
  refine z_aload iX4_init_35 rfl ?_
  refine z_push iX4_init_36 ?_
  refine p_putI iX4_init_37 fX4_28 fw4_5 rfl rfl rfl rfl rfl (by decide) (by decide) ?_
  refine z_aload iX4_init_40 rfl ?_
  refine z_push iX4_init_41 ?_
  refine p_newa (len := 8) iX4_init_43 rfl (t := 0) rfl (Or.inl rfl) acI ⟨rfl, rfl⟩ (fun i => rfl) (fun i => rfl) (by decide) (by decide) (by decide) ⟨Nat.le_of_ble_eq_true rfl, Nat.le_of_ble_eq_true rfl⟩ ?_
  simp only [Nat.reduceAdd]
  refine p_putR iX4_init_45 fX4_31 ff4_6 rfl (fun x => rfl) (fun x => rfl) rfl rfl (by decide) (by decide) ?_
  refine z_aload iX4_init_48 rfl ?_
  refine z_push iX4_init_49 ?_
  refine p_newa (len := 8) iX4_init_51 rfl (t := 0) rfl (Or.inl rfl) acI ⟨rfl, rfl⟩ (fun i => rfl) (fun i => rfl) (by decide) (by decide) (by decide) ⟨Nat.le_of_ble_eq_true rfl, Nat.le_of_ble_eq_true rfl⟩ ?_
  simp only [Nat.reduceAdd]
  refine p_putR iX4_init_53 fX4_34 ff4_7 rfl (fun x => rfl) (fun x => rfl) rfl rfl (by decide) (by decide) ?_
  refine z_aload iX4_init_56 rfl ?_
  refine z_push iX4_init_57 ?_
  refine p_putI iX4_init_58 fX4_37 fw4_8 rfl rfl rfl rfl rfl (by decide) (by decide) ?_
  refine z_vret iX4_init_61 rfl ⟨rfl, rfl, zP_dn ?_ (fun k i hk => by simp only [zbs, nbf hk, Bool.false_and, Bool.false_or])⟩ (Nat.le_refl _) (Nat.le_refl _)
  exact fun i => match i with
    | 0 => Or.inl rfl
    | 1 => Or.inl rfl
    | 2 => Or.inl rfl
    | 3 => Or.inr rfl
    | 4 => Or.inr rfl
    | 5 => Or.inl rfl
    | 6 => Or.inr rfl
    | 7 => Or.inr rfl
    | 8 => Or.inl rfl
    | j + 9 => Or.inl rfl

set_option maxRecDepth 100000 in
theorem tX4_init_70 {L : Nat} (b : Nat → Nat → Bool) (xs : Nat → Int32) (hb : ∀ k i, 70 ≤ k → b k i = false) : zMt mX4_init 1 4 48 [.ref 70] 71 (zP b L (zF0 xs)) (fun r N w => r = none ∧ N = 75 ∧ w = zP (zbd b 70) L (zF0 xs)) := by
  refine p_of (lo := [some (.ref 70)]) (by decide +kernel) (Nat.le_of_ble_eq_true rfl) rfl ?_
  refine z_aload iX4_init_0 rfl ?_
  refine z_objInit iX4_init_1 obX4 obI1 obI2 ⟨Nat.le_of_ble_eq_true rfl, Nat.le_of_ble_eq_true rfl⟩ ?_
  refine z_aload iX4_init_4 rfl ?_
  refine z_push iX4_init_5 ?_
  refine p_putI iX4_init_6 fX4_9 fw4_0 rfl rfl rfl rfl rfl (by decide) (by decide) ?_
  refine z_aload iX4_init_9 rfl ?_
  refine z_push iX4_init_10 ?_
  refine p_putI iX4_init_11 fX4_15 fw4_1 rfl rfl rfl rfl rfl (by decide) (by decide) ?_
  refine z_aload iX4_init_14 rfl ?_
  refine z_push iX4_init_15 ?_
  refine p_putI iX4_init_16 fX4_18 fw4_2 rfl rfl rfl rfl rfl (by decide) (by decide) ?_
  refine z_aload iX4_init_19 rfl ?_
  refine z_push iX4_init_20 ?_
  refine p_newa (len := 16) iX4_init_22 rfl (t := 0) rfl (Or.inl rfl) acI ⟨rfl, rfl⟩ (fun i => rfl) (fun i => rfl) (by decide) (by decide) (by decide) ⟨Nat.le_of_ble_eq_true rfl, Nat.le_of_ble_eq_true rfl⟩ ?_
  simp only [Nat.reduceAdd]
  refine p_putR iX4_init_24 fX4_21 ff4_3 rfl (fun x => rfl) (fun x => rfl) rfl rfl (by decide) (by decide) ?_
  refine z_aload iX4_init_27 rfl ?_
  refine z_push iX4_init_28 ?_
  refine p_newa (len := 16) iX4_init_30 rfl (t := 0) rfl (Or.inl rfl) acI ⟨rfl, rfl⟩ (fun i => rfl) (fun i => rfl) (by decide) (by decide) (by decide) ⟨Nat.le_of_ble_eq_true rfl, Nat.le_of_ble_eq_true rfl⟩ ?_
  simp only [Nat.reduceAdd]
  refine p_putR iX4_init_32 fX4_25 ff4_4 rfl (fun x => rfl) (fun x => rfl) rfl rfl (by decide) (by decide) ?_
  refine z_aload iX4_init_35 rfl ?_
  refine z_push iX4_init_36 ?_
  refine p_putI iX4_init_37 fX4_28 fw4_5 rfl rfl rfl rfl rfl (by decide) (by decide) ?_
  refine z_aload iX4_init_40 rfl ?_
  refine z_push iX4_init_41 ?_
  refine p_newa (len := 8) iX4_init_43 rfl (t := 0) rfl (Or.inl rfl) acI ⟨rfl, rfl⟩ (fun i => rfl) (fun i => rfl) (by decide) (by decide) (by decide) ⟨Nat.le_of_ble_eq_true rfl, Nat.le_of_ble_eq_true rfl⟩ ?_
  simp only [Nat.reduceAdd]
  refine p_putR iX4_init_45 fX4_31 ff4_6 rfl (fun x => rfl) (fun x => rfl) rfl rfl (by decide) (by decide) ?_
  refine z_aload iX4_init_48 rfl ?_
  refine z_push iX4_init_49 ?_
  refine p_newa (len := 8) iX4_init_51 rfl (t := 0) rfl (Or.inl rfl) acI ⟨rfl, rfl⟩ (fun i => rfl) (fun i => rfl) (by decide) (by decide) (by decide) ⟨Nat.le_of_ble_eq_true rfl, Nat.le_of_ble_eq_true rfl⟩ ?_
  simp only [Nat.reduceAdd]
  refine p_putR iX4_init_53 fX4_34 ff4_7 rfl (fun x => rfl) (fun x => rfl) rfl rfl (by decide) (by decide) ?_
  refine z_aload iX4_init_56 rfl ?_
  refine z_push iX4_init_57 ?_
  refine p_putI iX4_init_58 fX4_37 fw4_8 rfl rfl rfl rfl rfl (by decide) (by decide) ?_
  refine z_vret iX4_init_61 rfl ⟨rfl, rfl, zP_dn ?_ (fun k i hk => by simp only [zbs, nbf hk, Bool.false_and, Bool.false_or])⟩ (Nat.le_refl _) (Nat.le_refl _)
  exact fun i => match i with
    | 0 => Or.inl rfl
    | 1 => Or.inl rfl
    | 2 => Or.inl rfl
    | 3 => Or.inr rfl
    | 4 => Or.inr rfl
    | 5 => Or.inl rfl
    | 6 => Or.inr rfl
    | 7 => Or.inr rfl
    | 8 => Or.inl rfl
    | j + 9 => Or.inl rfl

set_option maxRecDepth 100000 in
theorem tX8_init_75 {L : Nat} (b : Nat → Nat → Bool) (xs : Nat → Int32) (hb : ∀ k i, 75 ≤ k → b k i = false) : zMt mX8_init 1 35 4821 [.ref 75] 76 (zP b L (zF0 xs)) (fun r N w => r = none ∧ N = 111 ∧ w = zP (zbd b 75) L (zF0 xs)) := by
  refine p_of (lo := [some (.ref 75)]) (by decide +kernel) (Nat.le_of_ble_eq_true rfl) rfl ?_
  refine z_aload iX8_init_0 rfl ?_
  refine z_objInit iX8_init_1 obX8 obI1 obI2 ⟨Nat.le_of_ble_eq_true rfl, Nat.le_of_ble_eq_true rfl⟩ ?_
  refine z_aload iX8_init_4 rfl ?_
  refine z_push iX8_init_5 ?_
  refine p_newa (len := 12) iX8_init_7 rfl (t := 0) rfl (Or.inl rfl) acI ⟨rfl, rfl⟩ (fun i => rfl) (fun i => rfl) (by decide) (by decide) (by decide) ⟨Nat.le_of_ble_eq_true rfl, Nat.le_of_ble_eq_true rfl⟩ ?_
  simp only [Nat.reduceAdd]
  refine p_putR iX8_init_9 fX8_7 ff8_1 rfl (fun x => rfl) (fun x => rfl) rfl rfl (by decide) (by decide) ?_
  refine z_aload iX8_init_12 rfl ?_
  refine z_push iX8_init_13 ?_
  refine p_newa (len := 12) iX8_init_15 rfl (t := 0) rfl (Or.inl rfl) acI ⟨rfl, rfl⟩ (fun i => rfl) (fun i => rfl) (by decide) (by decide) (by decide) ⟨Nat.le_of_ble_eq_true rfl, Nat.le_of_ble_eq_true rfl⟩ ?_
  simp only [Nat.reduceAdd]
  refine p_putR iX8_init_17 fX8_13 ff8_2 rfl (fun x => rfl) (fun x => rfl) rfl rfl (by decide) (by decide) ?_
  refine z_aload iX8_init_20 rfl ?_
  refine z_push iX8_init_21 ?_
  refine p_newa (len := 12) iX8_init_23 rfl (t := 0) rfl (Or.inl rfl) acI ⟨rfl, rfl⟩ (fun i => rfl) (fun i => rfl) (by decide) (by decide) (by decide) ⟨Nat.le_of_ble_eq_true rfl, Nat.le_of_ble_eq_true rfl⟩ ?_
  simp only [Nat.reduceAdd]
  refine p_putR iX8_init_25 fX8_16 ff8_3 rfl (fun x => rfl) (fun x => rfl) rfl rfl (by decide) (by decide) ?_
  refine z_aload iX8_init_28 rfl ?_
  refine z_push iX8_init_29 ?_
  refine p_newa (len := 12) iX8_init_31 rfl (t := 0) rfl (Or.inl rfl) acI ⟨rfl, rfl⟩ (fun i => rfl) (fun i => rfl) (by decide) (by decide) (by decide) ⟨Nat.le_of_ble_eq_true rfl, Nat.le_of_ble_eq_true rfl⟩ ?_
  simp only [Nat.reduceAdd]
  refine p_putR iX8_init_33 fX8_19 ff8_4 rfl (fun x => rfl) (fun x => rfl) rfl rfl (by decide) (by decide) ?_
  refine z_aload iX8_init_36 rfl ?_
  refine z_push iX8_init_37 ?_
  refine p_newa (len := 12) iX8_init_39 rfl (t := 1) rfl (Or.inr rfl) acZ ⟨rfl, rfl⟩ (fun i => rfl) (fun i => rfl) (by decide) (by decide) (by decide) ⟨Nat.le_of_ble_eq_true rfl, Nat.le_of_ble_eq_true rfl⟩ ?_
  simp only [Nat.reduceAdd]
  refine p_putR iX8_init_41 fX8_22 ff8_5 rfl (fun x => rfl) (fun x => rfl) rfl rfl (by decide) (by decide) ?_
  refine z_aload iX8_init_44 rfl ?_
  refine z_push iX8_init_45 ?_
  refine p_newa (len := 36) iX8_init_47 rfl (t := 0) rfl (Or.inl rfl) acI ⟨rfl, rfl⟩ (fun i => rfl) (fun i => rfl) (by decide) (by decide) (by decide) ⟨Nat.le_of_ble_eq_true rfl, Nat.le_of_ble_eq_true rfl⟩ ?_
  simp only [Nat.reduceAdd]
  refine p_putR iX8_init_49 fX8_26 ff8_6 rfl (fun x => rfl) (fun x => rfl) rfl rfl (by decide) (by decide) ?_
  refine z_aload iX8_init_52 rfl ?_
  refine z_push iX8_init_53 ?_
  refine p_newa (len := 60) iX8_init_55 rfl (t := 0) rfl (Or.inl rfl) acI ⟨rfl, rfl⟩ (fun i => rfl) (fun i => rfl) (by decide) (by decide) (by decide) ⟨Nat.le_of_ble_eq_true rfl, Nat.le_of_ble_eq_true rfl⟩ ?_
  simp only [Nat.reduceAdd]
  refine p_putR iX8_init_57 fX8_29 ff8_8 rfl (fun x => rfl) (fun x => rfl) rfl rfl (by decide) (by decide) ?_
  refine z_aload iX8_init_60 rfl ?_
  refine z_push iX8_init_61 ?_
  refine p_newa (len := 60) iX8_init_63 rfl (t := 0) rfl (Or.inl rfl) acI ⟨rfl, rfl⟩ (fun i => rfl) (fun i => rfl) (by decide) (by decide) (by decide) ⟨Nat.le_of_ble_eq_true rfl, Nat.le_of_ble_eq_true rfl⟩ ?_
  simp only [Nat.reduceAdd]
  refine p_putR iX8_init_65 fX8_32 ff8_10 rfl (fun x => rfl) (fun x => rfl) rfl rfl (by decide) (by decide) ?_
  refine z_aload iX8_init_68 rfl ?_
  refine z_push iX8_init_69 ?_
  refine p_newa (len := 24) iX8_init_71 rfl (t := 0) rfl (Or.inl rfl) acI ⟨rfl, rfl⟩ (fun i => rfl) (fun i => rfl) (by decide) (by decide) (by decide) ⟨Nat.le_of_ble_eq_true rfl, Nat.le_of_ble_eq_true rfl⟩ ?_
  simp only [Nat.reduceAdd]
  refine p_putR iX8_init_73 fX8_35 ff8_12 rfl (fun x => rfl) (fun x => rfl) rfl rfl (by decide) (by decide) ?_
  refine z_aload iX8_init_76 rfl ?_
  refine z_push iX8_init_77 ?_
  refine p_newa (len := 24) iX8_init_79 rfl (t := 0) rfl (Or.inl rfl) acI ⟨rfl, rfl⟩ (fun i => rfl) (fun i => rfl) (by decide) (by decide) (by decide) ⟨Nat.le_of_ble_eq_true rfl, Nat.le_of_ble_eq_true rfl⟩ ?_
  simp only [Nat.reduceAdd]
  refine p_putR iX8_init_81 fX8_38 ff8_13 rfl (fun x => rfl) (fun x => rfl) rfl rfl (by decide) (by decide) ?_
  refine z_aload iX8_init_84 rfl ?_
  refine z_push iX8_init_85 ?_
  refine p_newa (len := 24) iX8_init_87 rfl (t := 0) rfl (Or.inl rfl) acI ⟨rfl, rfl⟩ (fun i => rfl) (fun i => rfl) (by decide) (by decide) (by decide) ⟨Nat.le_of_ble_eq_true rfl, Nat.le_of_ble_eq_true rfl⟩ ?_
  simp only [Nat.reduceAdd]
  refine p_putR iX8_init_89 fX8_41 ff8_14 rfl (fun x => rfl) (fun x => rfl) rfl rfl (by decide) (by decide) ?_
  refine z_aload iX8_init_92 rfl ?_
  refine z_push iX8_init_93 ?_
  refine p_newa (len := 6) iX8_init_95 rfl (t := 0) rfl (Or.inl rfl) acI ⟨rfl, rfl⟩ (fun i => rfl) (fun i => rfl) (by decide) (by decide) (by decide) ⟨Nat.le_of_ble_eq_true rfl, Nat.le_of_ble_eq_true rfl⟩ ?_
  simp only [Nat.reduceAdd]
  refine p_putR iX8_init_97 fX8_44 ff8_16 rfl (fun x => rfl) (fun x => rfl) rfl rfl (by decide) (by decide) ?_
  refine z_aload iX8_init_100 rfl ?_
  refine z_push iX8_init_101 ?_
  refine p_newa (len := 6) iX8_init_103 rfl (t := 0) rfl (Or.inl rfl) acI ⟨rfl, rfl⟩ (fun i => rfl) (fun i => rfl) (by decide) (by decide) (by decide) ⟨Nat.le_of_ble_eq_true rfl, Nat.le_of_ble_eq_true rfl⟩ ?_
  simp only [Nat.reduceAdd]
  refine p_putR iX8_init_105 fX8_47 ff8_17 rfl (fun x => rfl) (fun x => rfl) rfl rfl (by decide) (by decide) ?_
  refine z_aload iX8_init_108 rfl ?_
  refine z_push iX8_init_109 ?_
  refine p_newa (len := 400) iX8_init_112 rfl (t := 0) rfl (Or.inl rfl) acI ⟨rfl, rfl⟩ (fun i => rfl) (fun i => rfl) (by decide) (by decide) (by decide) ⟨Nat.le_of_ble_eq_true rfl, Nat.le_of_ble_eq_true rfl⟩ ?_
  simp only [Nat.reduceAdd]
  refine p_putR iX8_init_114 fX8_50 ff8_20 rfl (fun x => rfl) (fun x => rfl) rfl rfl (by decide) (by decide) ?_
  refine z_aload iX8_init_117 rfl ?_
  refine z_push iX8_init_118 ?_
  refine p_newa (len := 400) iX8_init_121 rfl (t := 0) rfl (Or.inl rfl) acI ⟨rfl, rfl⟩ (fun i => rfl) (fun i => rfl) (by decide) (by decide) (by decide) ⟨Nat.le_of_ble_eq_true rfl, Nat.le_of_ble_eq_true rfl⟩ ?_
  simp only [Nat.reduceAdd]
  refine p_putR iX8_init_123 fX8_53 ff8_21 rfl (fun x => rfl) (fun x => rfl) rfl rfl (by decide) (by decide) ?_
  refine z_aload iX8_init_126 rfl ?_
  refine z_push iX8_init_127 ?_
  refine p_newa (len := 400) iX8_init_130 rfl (t := 0) rfl (Or.inl rfl) acI ⟨rfl, rfl⟩ (fun i => rfl) (fun i => rfl) (by decide) (by decide) (by decide) ⟨Nat.le_of_ble_eq_true rfl, Nat.le_of_ble_eq_true rfl⟩ ?_
  simp only [Nat.reduceAdd]
  refine p_putR iX8_init_132 fX8_56 ff8_22 rfl (fun x => rfl) (fun x => rfl) rfl rfl (by decide) (by decide) ?_
  refine z_aload iX8_init_135 rfl ?_
  refine z_push iX8_init_136 ?_
  refine p_newa (len := 400) iX8_init_139 rfl (t := 0) rfl (Or.inl rfl) acI ⟨rfl, rfl⟩ (fun i => rfl) (fun i => rfl) (by decide) (by decide) (by decide) ⟨Nat.le_of_ble_eq_true rfl, Nat.le_of_ble_eq_true rfl⟩ ?_
  simp only [Nat.reduceAdd]
  refine p_putR iX8_init_141 fX8_59 ff8_23 rfl (fun x => rfl) (fun x => rfl) rfl rfl (by decide) (by decide) ?_
  refine z_aload iX8_init_144 rfl ?_
  refine z_push iX8_init_145 ?_
  refine p_newa (len := 400) iX8_init_148 rfl (t := 1) rfl (Or.inr rfl) acZ ⟨rfl, rfl⟩ (fun i => rfl) (fun i => rfl) (by decide) (by decide) (by decide) ⟨Nat.le_of_ble_eq_true rfl, Nat.le_of_ble_eq_true rfl⟩ ?_
  simp only [Nat.reduceAdd]
  refine p_putR iX8_init_150 fX8_62 ff8_24 rfl (fun x => rfl) (fun x => rfl) rfl rfl (by decide) (by decide) ?_
  refine z_aload iX8_init_153 rfl ?_
  refine z_push iX8_init_154 ?_
  refine p_newa (len := 300) iX8_init_157 rfl (t := 0) rfl (Or.inl rfl) acI ⟨rfl, rfl⟩ (fun i => rfl) (fun i => rfl) (by decide) (by decide) (by decide) ⟨Nat.le_of_ble_eq_true rfl, Nat.le_of_ble_eq_true rfl⟩ ?_
  simp only [Nat.reduceAdd]
  refine p_putR iX8_init_159 fX8_65 ff8_25 rfl (fun x => rfl) (fun x => rfl) rfl rfl (by decide) (by decide) ?_
  refine z_aload iX8_init_162 rfl ?_
  refine z_push iX8_init_163 ?_
  refine p_newa (len := 60) iX8_init_165 rfl (t := 0) rfl (Or.inl rfl) acI ⟨rfl, rfl⟩ (fun i => rfl) (fun i => rfl) (by decide) (by decide) (by decide) ⟨Nat.le_of_ble_eq_true rfl, Nat.le_of_ble_eq_true rfl⟩ ?_
  simp only [Nat.reduceAdd]
  refine p_putR iX8_init_167 fX8_68 ff8_26 rfl (fun x => rfl) (fun x => rfl) rfl rfl (by decide) (by decide) ?_
  refine z_aload iX8_init_170 rfl ?_
  refine z_push iX8_init_171 ?_
  refine p_newa (len := 60) iX8_init_173 rfl (t := 0) rfl (Or.inl rfl) acI ⟨rfl, rfl⟩ (fun i => rfl) (fun i => rfl) (by decide) (by decide) (by decide) ⟨Nat.le_of_ble_eq_true rfl, Nat.le_of_ble_eq_true rfl⟩ ?_
  simp only [Nat.reduceAdd]
  refine p_putR iX8_init_175 fX8_71 ff8_27 rfl (fun x => rfl) (fun x => rfl) rfl rfl (by decide) (by decide) ?_
  refine z_aload iX8_init_178 rfl ?_
  refine z_push iX8_init_179 ?_
  refine p_newa (len := 8) iX8_init_181 rfl (t := 0) rfl (Or.inl rfl) acI ⟨rfl, rfl⟩ (fun i => rfl) (fun i => rfl) (by decide) (by decide) (by decide) ⟨Nat.le_of_ble_eq_true rfl, Nat.le_of_ble_eq_true rfl⟩ ?_
  simp only [Nat.reduceAdd]
  refine p_putR iX8_init_183 fX8_74 ff8_29 rfl (fun x => rfl) (fun x => rfl) rfl rfl (by decide) (by decide) ?_
  refine z_aload iX8_init_186 rfl ?_
  refine z_push iX8_init_187 ?_
  refine p_newa (len := 8) iX8_init_189 rfl (t := 0) rfl (Or.inl rfl) acI ⟨rfl, rfl⟩ (fun i => rfl) (fun i => rfl) (by decide) (by decide) (by decide) ⟨Nat.le_of_ble_eq_true rfl, Nat.le_of_ble_eq_true rfl⟩ ?_
  simp only [Nat.reduceAdd]
  refine p_putR iX8_init_191 fX8_77 ff8_30 rfl (fun x => rfl) (fun x => rfl) rfl rfl (by decide) (by decide) ?_
  refine z_aload iX8_init_194 rfl ?_
  refine z_push iX8_init_195 ?_
  refine p_newa (len := 8) iX8_init_197 rfl (t := 0) rfl (Or.inl rfl) acI ⟨rfl, rfl⟩ (fun i => rfl) (fun i => rfl) (by decide) (by decide) (by decide) ⟨Nat.le_of_ble_eq_true rfl, Nat.le_of_ble_eq_true rfl⟩ ?_
  simp only [Nat.reduceAdd]
  refine p_putR iX8_init_199 fX8_80 ff8_31 rfl (fun x => rfl) (fun x => rfl) rfl rfl (by decide) (by decide) ?_
  refine z_aload iX8_init_202 rfl ?_
  refine z_push iX8_init_203 ?_
  refine p_newa (len := 8) iX8_init_205 rfl (t := 0) rfl (Or.inl rfl) acI ⟨rfl, rfl⟩ (fun i => rfl) (fun i => rfl) (by decide) (by decide) (by decide) ⟨Nat.le_of_ble_eq_true rfl, Nat.le_of_ble_eq_true rfl⟩ ?_
  simp only [Nat.reduceAdd]
  refine p_putR iX8_init_207 fX8_83 ff8_32 rfl (fun x => rfl) (fun x => rfl) rfl rfl (by decide) (by decide) ?_
  refine z_aload iX8_init_210 rfl ?_
  refine z_push iX8_init_211 ?_
  refine p_newa (len := 128) iX8_init_214 rfl (t := 0) rfl (Or.inl rfl) acI ⟨rfl, rfl⟩ (fun i => rfl) (fun i => rfl) (by decide) (by decide) (by decide) ⟨Nat.le_of_ble_eq_true rfl, Nat.le_of_ble_eq_true rfl⟩ ?_
  simp only [Nat.reduceAdd]
  refine p_putR iX8_init_216 fX8_86 ff8_33 rfl (fun x => rfl) (fun x => rfl) rfl rfl (by decide) (by decide) ?_
  refine z_aload iX8_init_219 rfl ?_
  refine z_push iX8_init_220 ?_
  refine p_newa (len := 128) iX8_init_223 rfl (t := 0) rfl (Or.inl rfl) acI ⟨rfl, rfl⟩ (fun i => rfl) (fun i => rfl) (by decide) (by decide) (by decide) ⟨Nat.le_of_ble_eq_true rfl, Nat.le_of_ble_eq_true rfl⟩ ?_
  simp only [Nat.reduceAdd]
  refine p_putR iX8_init_225 fX8_89 ff8_34 rfl (fun x => rfl) (fun x => rfl) rfl rfl (by decide) (by decide) ?_
  refine z_aload iX8_init_228 rfl ?_
  refine z_push iX8_init_229 ?_
  refine p_newa (len := 8) iX8_init_231 rfl (t := 0) rfl (Or.inl rfl) acI ⟨rfl, rfl⟩ (fun i => rfl) (fun i => rfl) (by decide) (by decide) (by decide) ⟨Nat.le_of_ble_eq_true rfl, Nat.le_of_ble_eq_true rfl⟩ ?_
  simp only [Nat.reduceAdd]
  refine p_putR iX8_init_233 fX8_92 ff8_35 rfl (fun x => rfl) (fun x => rfl) rfl rfl (by decide) (by decide) ?_
  refine z_aload iX8_init_236 rfl ?_
  refine z_push iX8_init_237 ?_
  refine p_newa (len := 64) iX8_init_239 rfl (t := 0) rfl (Or.inl rfl) acI ⟨rfl, rfl⟩ (fun i => rfl) (fun i => rfl) (by decide) (by decide) (by decide) ⟨Nat.le_of_ble_eq_true rfl, Nat.le_of_ble_eq_true rfl⟩ ?_
  simp only [Nat.reduceAdd]
  refine p_putR iX8_init_241 fX8_95 ff8_36 rfl (fun x => rfl) (fun x => rfl) rfl rfl (by decide) (by decide) ?_
  refine z_aload iX8_init_244 rfl ?_
  refine z_push iX8_init_245 ?_
  refine p_newa (len := 64) iX8_init_247 rfl (t := 0) rfl (Or.inl rfl) acI ⟨rfl, rfl⟩ (fun i => rfl) (fun i => rfl) (by decide) (by decide) (by decide) ⟨Nat.le_of_ble_eq_true rfl, Nat.le_of_ble_eq_true rfl⟩ ?_
  simp only [Nat.reduceAdd]
  refine p_putR iX8_init_249 fX8_98 ff8_37 rfl (fun x => rfl) (fun x => rfl) rfl rfl (by decide) (by decide) ?_
  refine z_aload iX8_init_252 rfl ?_
  refine z_push iX8_init_253 ?_
  refine p_newa (len := 1200) iX8_init_256 rfl (t := 0) rfl (Or.inl rfl) acI ⟨rfl, rfl⟩ (fun i => rfl) (fun i => rfl) (by decide) (by decide) (by decide) ⟨Nat.le_of_ble_eq_true rfl, Nat.le_of_ble_eq_true rfl⟩ ?_
  simp only [Nat.reduceAdd]
  refine p_putR iX8_init_258 fX8_101 ff8_40 rfl (fun x => rfl) (fun x => rfl) rfl rfl (by decide) (by decide) ?_
  refine z_aload iX8_init_261 rfl ?_
  refine z_push iX8_init_262 ?_
  refine p_newa (len := 400) iX8_init_265 rfl (t := 1) rfl (Or.inr rfl) acZ ⟨rfl, rfl⟩ (fun i => rfl) (fun i => rfl) (by decide) (by decide) (by decide) ⟨Nat.le_of_ble_eq_true rfl, Nat.le_of_ble_eq_true rfl⟩ ?_
  simp only [Nat.reduceAdd]
  refine p_putR iX8_init_267 fX8_104 ff8_44 rfl (fun x => rfl) (fun x => rfl) rfl rfl (by decide) (by decide) ?_
  refine z_aload iX8_init_270 rfl ?_
  refine z_push iX8_init_271 ?_
  refine p_newa (len := 12) iX8_init_273 rfl (t := 1) rfl (Or.inr rfl) acZ ⟨rfl, rfl⟩ (fun i => rfl) (fun i => rfl) (by decide) (by decide) (by decide) ⟨Nat.le_of_ble_eq_true rfl, Nat.le_of_ble_eq_true rfl⟩ ?_
  simp only [Nat.reduceAdd]
  refine p_putR iX8_init_275 fX8_107 ff8_45 rfl (fun x => rfl) (fun x => rfl) rfl rfl (by decide) (by decide) ?_
  refine z_aload iX8_init_278 rfl ?_
  refine z_push iX8_init_279 ?_
  refine p_newa (len := 5) iX8_init_280 rfl (t := 0) rfl (Or.inl rfl) acI ⟨rfl, rfl⟩ (fun i => rfl) (fun i => rfl) (by decide) (by decide) (by decide) ⟨Nat.le_of_ble_eq_true rfl, Nat.le_of_ble_eq_true rfl⟩ ?_
  simp only [Nat.reduceAdd]
  refine p_putR iX8_init_282 fX8_110 ff8_46 rfl (fun x => rfl) (fun x => rfl) rfl rfl (by decide) (by decide) ?_
  refine z_aload iX8_init_285 rfl ?_
  refine z_push iX8_init_286 ?_
  refine p_newa (len := 60) iX8_init_288 rfl (t := 0) rfl (Or.inl rfl) acI ⟨rfl, rfl⟩ (fun i => rfl) (fun i => rfl) (by decide) (by decide) (by decide) ⟨Nat.le_of_ble_eq_true rfl, Nat.le_of_ble_eq_true rfl⟩ ?_
  simp only [Nat.reduceAdd]
  refine p_putR iX8_init_290 fX8_113 ff8_47 rfl (fun x => rfl) (fun x => rfl) rfl rfl (by decide) (by decide) ?_
  refine z_aload iX8_init_293 rfl ?_
  refine z_push iX8_init_294 ?_
  refine p_putI iX8_init_295 fX8_116 fw8_28 rfl rfl rfl rfl rfl (by decide) (by decide) ?_
  refine z_vret iX8_init_298 rfl ⟨rfl, rfl, zP_dn ?_ (fun k i hk => by simp only [zbs, nbf hk, Bool.false_and, Bool.false_or])⟩ (Nat.le_refl _) (Nat.le_refl _)
  exact fun i => match i with
    | 0 => Or.inl rfl
    | 1 => Or.inr rfl
    | 2 => Or.inr rfl
    | 3 => Or.inr rfl
    | 4 => Or.inr rfl
    | 5 => Or.inr rfl
    | 6 => Or.inr rfl
    | 7 => Or.inl rfl
    | 8 => Or.inr rfl
    | 9 => Or.inl rfl
    | 10 => Or.inr rfl
    | 11 => Or.inl rfl
    | 12 => Or.inr rfl
    | 13 => Or.inr rfl
    | 14 => Or.inr rfl
    | 15 => Or.inl rfl
    | 16 => Or.inr rfl
    | 17 => Or.inr rfl
    | 18 => Or.inl rfl
    | 19 => Or.inl rfl
    | 20 => Or.inr rfl
    | 21 => Or.inr rfl
    | 22 => Or.inr rfl
    | 23 => Or.inr rfl
    | 24 => Or.inr rfl
    | 25 => Or.inr rfl
    | 26 => Or.inr rfl
    | 27 => Or.inr rfl
    | 28 => Or.inl rfl
    | 29 => Or.inr rfl
    | 30 => Or.inr rfl
    | 31 => Or.inr rfl
    | 32 => Or.inr rfl
    | 33 => Or.inr rfl
    | 34 => Or.inr rfl
    | 35 => Or.inr rfl
    | 36 => Or.inr rfl
    | 37 => Or.inr rfl
    | 38 => Or.inl rfl
    | 39 => Or.inl rfl
    | 40 => Or.inr rfl
    | 41 => Or.inl rfl
    | 42 => Or.inl rfl
    | 43 => Or.inl rfl
    | 44 => Or.inr rfl
    | 45 => Or.inr rfl
    | 46 => Or.inr rfl
    | 47 => Or.inr rfl
    | j + 48 => Or.inl rfl
