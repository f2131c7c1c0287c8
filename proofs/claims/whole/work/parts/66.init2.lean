theorem zrr_in {k i : Nat} (h : ¬ zrr k i = none) : k < 111 ∧ i < 48 := by
  have hl : ∀ k, k < 111 → (zrf.getD k []).length ≤ 48 := by decide +kernel
  have h1 : k < 111 := by
    refine Nat.not_le.mp fun q => h ?_
    unfold zrr
    rw [show zrf.getD k [] = [] by rw [List.getD_eq_getElem?_getD, List.getElem?_eq_none (by show 111 ≤ k; exact q)]; rfl]
    rfl
  refine ⟨h1, Nat.not_le.mp fun q => h ?_⟩
  unfold zrr
  rw [List.getD_eq_getElem?_getD, List.getElem?_eq_none (Nat.le_trans (hl k h1) q)]
  rfl
abbrev zb75 : Nat → Nat → Bool := fun k _ => Nat.blt k 75

def zbL : Nat → Nat → Bool := (zbs (zbd (zbs (zbd (zbs (zbd (zbs (zbd (zbs (zbd (zbs (zbd (zbs (zbd (zbs (zbd (zbs (zbs (zbd (zbs (zbd (zbs (zbd (zbs (zbd (zbs (zbd (zbs (zbd (fun _ _ => false) 3) 2 0) 11) 2 1) 20) 2 2) 25) 2 3) 29) 2 4) 31) 2 5) 2 6) 35) 34 0) 40) 34 1) 45) 34 2) 50) 34 3) 55) 34 4) 60) 34 5) 65) 34 6) 70) 34 7)
theorem zbL_ok : ∀ k i, zrr k i = none ∨ zbL k i = zb75 k i := by
  intro k i
  by_cases h : zrr k i = none
  · exact Or.inl h
  · have hx : ∀ k, k < 111 → ∀ i, i < 48 → (zrr k i).isNone = true ∨ zbL k i = zb75 k i := by decide +kernel
    obtain ⟨h1, h2⟩ := zrr_in h
    rcases hx k h1 i h2 with q | q
    · exact Or.inl (by simpa using q)
    · exact Or.inr q

set_option maxRecDepth 100000 in
theorem tX7_init_2 {L : Nat} (xs : Nat → Int32) : zMt mX7_init 2 72 5013 [.ref 2] 3 (zP (fun _ _ => false) L (zF0 xs)) (fun r N w => r = none ∧ N = 75 ∧ w = zP zb75 L (zF0 xs)) := by
  refine p_of (lo := [some (.ref 2), none]) (by decide +kernel) (Nat.le_of_ble_eq_true rfl) rfl ?_
  refine z_aload iX7_init_0 rfl ?_
  refine z_objInit iX7_init_1 obX7 obI1 obI2 ⟨Nat.le_of_ble_eq_true rfl, Nat.le_of_ble_eq_true rfl⟩ ?_
  refine z_aload iX7_init_4 rfl ?_
  refine p_new iX7_init_5 nwX7_9 rfl (fun i => rfl) (fun i => rfl) dfX6_3 ⟨Nat.le_of_ble_eq_true rfl, Nat.le_of_ble_eq_true rfl⟩ ?_
  simp only [Nat.reduceAdd]
  refine z_dup iX7_init_8 rfl ?_
  refine z_callJ iX7_init_9 kX7_11 (tX6_init_3 (fun _ _ => false) xs (fun k i hk => rfl)) rfl rfl ⟨Nat.le_of_ble_eq_true rfl, Nat.le_of_ble_eq_true rfl⟩ ⟨Nat.le_of_ble_eq_true rfl, Nat.le_of_ble_eq_true rfl⟩ (Nat.le_of_ble_eq_true rfl) ?_
  rintro r N w ⟨rfl, rfl, rfl⟩
  simp only [Nat.reduceAdd, Option.toList, List.nil_append]
  refine p_putR iX7_init_12 fX7_12 ff7_0 rfl (fun x => rfl) (fun x => rfl) rfl rfl (by decide) (by decide) ?_
  refine z_aload iX7_init_15 rfl ?_
  refine p_new iX7_init_16 nwX7_16 rfl (fun i => rfl) (fun i => rfl) dfX5_11 ⟨Nat.le_of_ble_eq_true rfl, Nat.le_of_ble_eq_true rfl⟩ ?_
  simp only [Nat.reduceAdd]
  refine z_dup iX7_init_19 rfl ?_
  refine z_aload iX7_init_20 rfl ?_
  refine p_getR iX7_init_21 fX7_12 rfl rfl rfl (by decide) (by decide) ?_
  refine z_callI iX7_init_24 kX7_18 (tX5_init_11 (zbs (zbd (fun _ _ => false) 3) 2 0) xs (fun k i hk => by simp only [zbs, zbd, nbf (show ¬ k = 3 by omega), nbf (show ¬ k = 2 by omega), Bool.false_and, Bool.false_or])) rfl rfl ⟨Nat.le_of_ble_eq_true rfl, Nat.le_of_ble_eq_true rfl⟩ ⟨Nat.le_of_ble_eq_true rfl, Nat.le_of_ble_eq_true rfl⟩ (Nat.le_of_ble_eq_true rfl) ?_
  rintro r N w ⟨rfl, rfl, rfl⟩
  simp only [Nat.reduceAdd, Option.toList, List.nil_append]
  refine p_putR iX7_init_27 fX7_21 ff7_1 rfl (fun x => rfl) (fun x => rfl) rfl rfl (by decide) (by decide) ?_
  refine z_aload iX7_init_30 rfl ?_
  refine p_new iX7_init_31 nwX7_25 rfl (fun i => rfl) (fun i => rfl) dfX2_20 ⟨Nat.le_of_ble_eq_true rfl, Nat.le_of_ble_eq_true rfl⟩ ?_
  simp only [Nat.reduceAdd]
  refine z_dup iX7_init_34 rfl ?_
  refine z_aload iX7_init_35 rfl ?_
  refine p_getR iX7_init_36 fX7_12 rfl rfl rfl (by decide) (by decide) ?_
  refine z_aload iX7_init_39 rfl ?_
  refine p_getR iX7_init_40 fX7_21 rfl rfl rfl (by decide) (by decide) ?_
  refine z_callI iX7_init_43 kX7_27 (tX2_init_20 (zbs (zbd (zbs (zbd (fun _ _ => false) 3) 2 0) 11) 2 1) xs (fun k i hk => by simp only [zbs, zbd, nbf (show ¬ k = 3 by omega), nbf (show ¬ k = 2 by omega), nbf (show ¬ k = 11 by omega), Bool.false_and, Bool.false_or])) rfl rfl ⟨Nat.le_of_ble_eq_true rfl, Nat.le_of_ble_eq_true rfl⟩ ⟨Nat.le_of_ble_eq_true rfl, Nat.le_of_ble_eq_true rfl⟩ (Nat.le_of_ble_eq_true rfl) ?_
  rintro r N w ⟨rfl, rfl, rfl⟩
  simp only [Nat.reduceAdd, Option.toList, List.nil_append]
  refine p_putR iX7_init_46 fX7_30 ff7_2 rfl (fun x => rfl) (fun x => rfl) rfl rfl (by decide) (by decide) ?_
  refine z_aload iX7_init_49 rfl ?_
  refine p_new iX7_init_50 nwX7_34 rfl (fun i => rfl) (fun i => rfl) dfX3_25 ⟨Nat.le_of_ble_eq_true rfl, Nat.le_of_ble_eq_true rfl⟩ ?_
  simp only [Nat.reduceAdd]
  refine z_dup iX7_init_53 rfl ?_
  refine z_callJ iX7_init_54 kX7_36 (tX3_init_25 (zbs (zbd (zbs (zbd (zbs (zbd (fun _ _ => false) 3) 2 0) 11) 2 1) 20) 2 2) xs (fun k i hk => by simp only [zbs, zbd, nbf (show ¬ k = 3 by omega), nbf (show ¬ k = 2 by omega), nbf (show ¬ k = 11 by omega), nbf (show ¬ k = 20 by omega), Bool.false_and, Bool.false_or])) rfl rfl ⟨Nat.le_of_ble_eq_true rfl, Nat.le_of_ble_eq_true rfl⟩ ⟨Nat.le_of_ble_eq_true rfl, Nat.le_of_ble_eq_true rfl⟩ (Nat.le_of_ble_eq_true rfl) ?_
  rintro r N w ⟨rfl, rfl, rfl⟩
  simp only [Nat.reduceAdd, Option.toList, List.nil_append]
  refine p_putR iX7_init_57 fX7_37 ff7_3 rfl (fun x => rfl) (fun x => rfl) rfl rfl (by decide) (by decide) ?_
  refine z_aload iX7_init_60 rfl ?_
  refine p_new iX7_init_61 nwX7_41 rfl (fun i => rfl) (fun i => rfl) dfX0_29 ⟨Nat.le_of_ble_eq_true rfl, Nat.le_of_ble_eq_true rfl⟩ ?_
  simp only [Nat.reduceAdd]
  refine z_dup iX7_init_64 rfl ?_
  refine z_callJ iX7_init_65 kX7_43 (tX0_init_29 (zbs (zbd (zbs (zbd (zbs (zbd (zbs (zbd (fun _ _ => false) 3) 2 0) 11) 2 1) 20) 2 2) 25) 2 3) xs (fun k i hk => by simp only [zbs, zbd, nbf (show ¬ k = 3 by omega), nbf (show ¬ k = 2 by omega), nbf (show ¬ k = 11 by omega), nbf (show ¬ k = 20 by omega), nbf (show ¬ k = 25 by omega), Bool.false_and, Bool.false_or])) rfl rfl ⟨Nat.le_of_ble_eq_true rfl, Nat.le_of_ble_eq_true rfl⟩ ⟨Nat.le_of_ble_eq_true rfl, Nat.le_of_ble_eq_true rfl⟩ (Nat.le_of_ble_eq_true rfl) ?_
  rintro r N w ⟨rfl, rfl, rfl⟩
  simp only [Nat.reduceAdd, Option.toList, List.nil_append]
  refine p_putR iX7_init_68 fX7_44 ff7_4 rfl (fun x => rfl) (fun x => rfl) rfl rfl (by decide) (by decide) ?_
  refine z_aload iX7_init_71 rfl ?_
  refine p_new iX7_init_72 nwX7_48 rfl (fun i => rfl) (fun i => rfl) dfX1_31 ⟨Nat.le_of_ble_eq_true rfl, Nat.le_of_ble_eq_true rfl⟩ ?_
  simp only [Nat.reduceAdd]
  refine z_dup iX7_init_75 rfl ?_
  refine z_callJ iX7_init_76 kX7_50 (tX1_init_31 (zbs (zbd (zbs (zbd (zbs (zbd (zbs (zbd (zbs (zbd (fun _ _ => false) 3) 2 0) 11) 2 1) 20) 2 2) 25) 2 3) 29) 2 4) xs (fun k i hk => by simp only [zbs, zbd, nbf (show ¬ k = 3 by omega), nbf (show ¬ k = 2 by omega), nbf (show ¬ k = 11 by omega), nbf (show ¬ k = 20 by omega), nbf (show ¬ k = 25 by omega), nbf (show ¬ k = 29 by omega), Bool.false_and, Bool.false_or])) rfl rfl ⟨Nat.le_of_ble_eq_true rfl, Nat.le_of_ble_eq_true rfl⟩ ⟨Nat.le_of_ble_eq_true rfl, Nat.le_of_ble_eq_true rfl⟩ (Nat.le_of_ble_eq_true rfl) ?_
  rintro r N w ⟨rfl, rfl, rfl⟩
  simp only [Nat.reduceAdd, Option.toList, List.nil_append]
  refine p_putR iX7_init_79 fX7_51 ff7_5 rfl (fun x => rfl) (fun x => rfl) rfl rfl (by decide) (by decide) ?_
  refine z_aload iX7_init_82 rfl ?_
  refine z_push iX7_init_83 ?_
  refine p_anew (len := 8) iX7_init_85 (zT_mem 254 (by decide +kernel) rfl) ⟨rfl, rfl⟩ (fun i => rfl) (fun i => rfl) (fun j hj => match j, hj with | 0, _ => rfl | 1, _ => rfl | 2, _ => rfl | 3, _ => rfl | 4, _ => rfl | 5, _ => rfl | 6, _ => rfl | 7, _ => rfl | j + 8, h => absurd h (by omega)) (by decide) (by decide) (by decide) ⟨Nat.le_of_ble_eq_true rfl, Nat.le_of_ble_eq_true rfl⟩ ?_
  simp only [Nat.reduceAdd]
  refine p_putR iX7_init_88 fX7_57 ff7_6 rfl (fun x => rfl) (fun x => rfl) rfl rfl (by decide) (by decide) ?_
  refine z_aload iX7_init_91 rfl ?_
  refine z_push iX7_init_92 ?_
  refine p_putI iX7_init_93 fX7_61 fw7_7 rfl rfl rfl rfl rfl (by decide) (by decide) ?_
  refine z_aload iX7_init_96 rfl ?_
  refine z_push iX7_init_97 ?_
  refine p_putI iX7_init_98 fX7_65 fw7_8 rfl rfl rfl rfl rfl (by decide) (by decide) ?_
  refine z_aload iX7_init_101 rfl ?_
  refine z_push iX7_init_102 ?_
  refine p_putI iX7_init_103 fX7_68 fw7_9 rfl rfl rfl rfl rfl (by decide) (by decide) ?_
  refine z_aload iX7_init_106 rfl ?_
  refine z_push iX7_init_107 ?_
  refine p_putI iX7_init_108 fX7_71 fw7_10 rfl rfl rfl rfl rfl (by decide) (by decide) ?_
  refine z_aload iX7_init_111 rfl ?_
  refine z_push iX7_init_112 ?_
  refine p_putI iX7_init_113 fX7_74 fw7_11 rfl rfl rfl rfl rfl (by decide) (by decide) ?_
  refine z_aload iX7_init_116 rfl ?_
  refine z_push iX7_init_117 ?_
  refine p_putI iX7_init_118 fX7_77 fw7_12 rfl rfl rfl rfl rfl (by decide) (by decide) ?_
  refine z_push iX7_init_121 ?_
  refine z_istore iX7_init_122 rfl ?_
  dsimp only [List.set_cons_zero, List.set_cons_succ]
  refine z_iload iX7_init_123 rfl ?_
  refine z_push iX7_init_124 ?_
  refine z_icmp_ge iX7_init_126 (fun h => absurd h (by decide)) (fun h => ?_)
  refine z_aload iX7_init_129 rfl ?_
  refine p_getR iX7_init_130 fX7_57 rfl rfl rfl (by decide) (by decide) ?_
  refine z_iload iX7_init_133 rfl ?_
  refine p_new iX7_init_134 nwX7_55 rfl (fun i => rfl) (fun i => rfl) dfX4_35 ⟨Nat.le_of_ble_eq_true rfl, Nat.le_of_ble_eq_true rfl⟩ ?_
  simp only [Nat.reduceAdd]
  refine z_dup iX7_init_137 rfl ?_
  refine z_callJ iX7_init_138 kX7_81 (tX4_init_35 (zbs (zbs (zbd (zbs (zbd (zbs (zbd (zbs (zbd (zbs (zbd (zbs (zbd (fun _ _ => false) 3) 2 0) 11) 2 1) 20) 2 2) 25) 2 3) 29) 2 4) 31) 2 5) 2 6) xs (fun k i hk => by simp only [zbs, zbd, nbf (show ¬ k = 3 by omega), nbf (show ¬ k = 2 by omega), nbf (show ¬ k = 11 by omega), nbf (show ¬ k = 20 by omega), nbf (show ¬ k = 25 by omega), nbf (show ¬ k = 29 by omega), nbf (show ¬ k = 31 by omega), Bool.false_and, Bool.false_or])) rfl rfl ⟨Nat.le_of_ble_eq_true rfl, Nat.le_of_ble_eq_true rfl⟩ ⟨Nat.le_of_ble_eq_true rfl, Nat.le_of_ble_eq_true rfl⟩ (Nat.le_of_ble_eq_true rfl) ?_
  rintro r N w ⟨rfl, rfl, rfl⟩
  simp only [Nat.reduceAdd, Option.toList, List.nil_append]
  refine p_aast (r := 0) iX7_init_141 ⟨rfl, rfl⟩ (by decide) (by decide) rfl (by decide) (by decide) (vin_mk (n := 8) (a := 0) (by decide)) rfl ?_
  refine z_iinc (v := 1) iX7_init_142 (by decide) (by decide) rfl rfl ?_
  dsimp only [List.set_cons_zero, List.set_cons_succ]
  rw [show (0 : Int32) + 1 = 1 from rfl]
  refine z_goto iX7_init_145 ?_
  refine z_iload iX7_init_123 rfl ?_
  refine z_push iX7_init_124 ?_
  refine z_icmp_ge iX7_init_126 (fun h => absurd h (by decide)) (fun h => ?_)
  refine z_aload iX7_init_129 rfl ?_
  refine p_getR iX7_init_130 fX7_57 rfl rfl rfl (by decide) (by decide) ?_
  refine z_iload iX7_init_133 rfl ?_
  refine p_new iX7_init_134 nwX7_55 rfl (fun i => rfl) (fun i => rfl) dfX4_40 ⟨Nat.le_of_ble_eq_true rfl, Nat.le_of_ble_eq_true rfl⟩ ?_
  simp only [Nat.reduceAdd]
  refine z_dup iX7_init_137 rfl ?_
  refine z_callJ iX7_init_138 kX7_81 (tX4_init_40 (zbs (zbd (zbs (zbs (zbd (zbs (zbd (zbs (zbd (zbs (zbd (zbs (zbd (zbs (zbd (fun _ _ => false) 3) 2 0) 11) 2 1) 20) 2 2) 25) 2 3) 29) 2 4) 31) 2 5) 2 6) 35) 34 0) xs (fun k i hk => by simp only [zbs, zbd, nbf (show ¬ k = 3 by omega), nbf (show ¬ k = 2 by omega), nbf (show ¬ k = 11 by omega), nbf (show ¬ k = 20 by omega), nbf (show ¬ k = 25 by omega), nbf (show ¬ k = 29 by omega), nbf (show ¬ k = 31 by omega), nbf (show ¬ k = 35 by omega), nbf (show ¬ k = 34 by omega), Bool.false_and, Bool.false_or])) rfl rfl ⟨Nat.le_of_ble_eq_true rfl, Nat.le_of_ble_eq_true rfl⟩ ⟨Nat.le_of_ble_eq_true rfl, Nat.le_of_ble_eq_true rfl⟩ (Nat.le_of_ble_eq_true rfl) ?_
  rintro r N w ⟨rfl, rfl, rfl⟩
  simp only [Nat.reduceAdd, Option.toList, List.nil_append]
  refine p_aast (r := 0) iX7_init_141 ⟨rfl, rfl⟩ (by decide) (by decide) rfl (by decide) (by decide) (vin_mk (n := 8) (a := 1) (by decide)) rfl ?_
  refine z_iinc (v := 1) iX7_init_142 (by decide) (by decide) rfl rfl ?_
  dsimp only [List.set_cons_zero, List.set_cons_succ]
  rw [show (1 : Int32) + 1 = 2 from rfl]
  refine z_goto iX7_init_145 ?_
  refine z_iload iX7_init_123 rfl ?_
  refine z_push iX7_init_124 ?_
  refine z_icmp_ge iX7_init_126 (fun h => absurd h (by decide)) (fun h => ?_)
  refine z_aload iX7_init_129 rfl ?_
  refine p_getR iX7_init_130 fX7_57 rfl rfl rfl (by decide) (by decide) ?_
  refine z_iload iX7_init_133 rfl ?_
  refine p_new iX7_init_134 nwX7_55 rfl (fun i => rfl) (fun i => rfl) dfX4_45 ⟨Nat.le_of_ble_eq_true rfl, Nat.le_of_ble_eq_true rfl⟩ ?_
  simp only [Nat.reduceAdd]
  refine z_dup iX7_init_137 rfl ?_
  refine z_callJ iX7_init_138 kX7_81 (tX4_init_45 (zbs (zbd (zbs (zbd (zbs (zbs (zbd (zbs (zbd (zbs (zbd (zbs (zbd (zbs (zbd (zbs (zbd (fun _ _ => false) 3) 2 0) 11) 2 1) 20) 2 2) 25) 2 3) 29) 2 4) 31) 2 5) 2 6) 35) 34 0) 40) 34 1) xs (fun k i hk => by simp only [zbs, zbd, nbf (show ¬ k = 3 by omega), nbf (show ¬ k = 2 by omega), nbf (show ¬ k = 11 by omega), nbf (show ¬ k = 20 by omega), nbf (show ¬ k = 25 by omega), nbf (show ¬ k = 29 by omega), nbf (show ¬ k = 31 by omega), nbf (show ¬ k = 35 by omega), nbf (show ¬ k = 34 by omega), nbf (show ¬ k = 40 by omega), Bool.false_and, Bool.false_or])) rfl rfl ⟨Nat.le_of_ble_eq_true rfl, Nat.le_of_ble_eq_true rfl⟩ ⟨Nat.le_of_ble_eq_true rfl, Nat.le_of_ble_eq_true rfl⟩ (Nat.le_of_ble_eq_true rfl) ?_
  rintro r N w ⟨rfl, rfl, rfl⟩
  simp only [Nat.reduceAdd, Option.toList, List.nil_append]
  refine p_aast (r := 0) iX7_init_141 ⟨rfl, rfl⟩ (by decide) (by decide) rfl (by decide) (by decide) (vin_mk (n := 8) (a := 2) (by decide)) rfl ?_
  refine z_iinc (v := 1) iX7_init_142 (by decide) (by decide) rfl rfl ?_
  dsimp only [List.set_cons_zero, List.set_cons_succ]
  rw [show (2 : Int32) + 1 = 3 from rfl]
  refine z_goto iX7_init_145 ?_
  refine z_iload iX7_init_123 rfl ?_
  refine z_push iX7_init_124 ?_
  refine z_icmp_ge iX7_init_126 (fun h => absurd h (by decide)) (fun h => ?_)
  refine z_aload iX7_init_129 rfl ?_
  refine p_getR iX7_init_130 fX7_57 rfl rfl rfl (by decide) (by decide) ?_
  refine z_iload iX7_init_133 rfl ?_
  refine p_new iX7_init_134 nwX7_55 rfl (fun i => rfl) (fun i => rfl) dfX4_50 ⟨Nat.le_of_ble_eq_true rfl, Nat.le_of_ble_eq_true rfl⟩ ?_
  simp only [Nat.reduceAdd]
  refine z_dup iX7_init_137 rfl ?_
  refine z_callJ iX7_init_138 kX7_81 (tX4_init_50 (zbs (zbd (zbs (zbd (zbs (zbd (zbs (zbs (zbd (zbs (zbd (zbs (zbd (zbs (zbd (zbs (zbd (zbs (zbd (fun _ _ => false) 3) 2 0) 11) 2 1) 20) 2 2) 25) 2 3) 29) 2 4) 31) 2 5) 2 6) 35) 34 0) 40) 34 1) 45) 34 2) xs (fun k i hk => by simp only [zbs, zbd, nbf (show ¬ k = 3 by omega), nbf (show ¬ k = 2 by omega), nbf (show ¬ k = 11 by omega), nbf (show ¬ k = 20 by omega), nbf (show ¬ k = 25 by omega), nbf (show ¬ k = 29 by omega), nbf (show ¬ k = 31 by omega), nbf (show ¬ k = 35 by omega), nbf (show ¬ k = 34 by omega), nbf (show ¬ k = 40 by omega), nbf (show ¬ k = 45 by omega), Bool.false_and, Bool.false_or])) rfl rfl ⟨Nat.le_of_ble_eq_true rfl, Nat.le_of_ble_eq_true rfl⟩ ⟨Nat.le_of_ble_eq_true rfl, Nat.le_of_ble_eq_true rfl⟩ (Nat.le_of_ble_eq_true rfl) ?_
  rintro r N w ⟨rfl, rfl, rfl⟩
  simp only [Nat.reduceAdd, Option.toList, List.nil_append]
  refine p_aast (r := 0) iX7_init_141 ⟨rfl, rfl⟩ (by decide) (by decide) rfl (by decide) (by decide) (vin_mk (n := 8) (a := 3) (by decide)) rfl ?_
  refine z_iinc (v := 1) iX7_init_142 (by decide) (by decide) rfl rfl ?_
  dsimp only [List.set_cons_zero, List.set_cons_succ]
  rw [show (3 : Int32) + 1 = 4 from rfl]
  refine z_goto iX7_init_145 ?_
  refine z_iload iX7_init_123 rfl ?_
  refine z_push iX7_init_124 ?_
  refine z_icmp_ge iX7_init_126 (fun h => absurd h (by decide)) (fun h => ?_)
  refine z_aload iX7_init_129 rfl ?_
  refine p_getR iX7_init_130 fX7_57 rfl rfl rfl (by decide) (by decide) ?_
  refine z_iload iX7_init_133 rfl ?_
  refine p_new iX7_init_134 nwX7_55 rfl (fun i => rfl) (fun i => rfl) dfX4_55 ⟨Nat.le_of_ble_eq_true rfl, Nat.le_of_ble_eq_true rfl⟩ ?_
  simp only [Nat.reduceAdd]
  refine z_dup iX7_init_137 rfl ?_
  refine z_callJ iX7_init_138 kX7_81 (tX4_init_55 (zbs (zbd (zbs (zbd (zbs (zbd (zbs (zbd (zbs (zbs (zbd (zbs (zbd (zbs (zbd (zbs (zbd (zbs (zbd (zbs (zbd (fun _ _ => false) 3) 2 0) 11) 2 1) 20) 2 2) 25) 2 3) 29) 2 4) 31) 2 5) 2 6) 35) 34 0) 40) 34 1) 45) 34 2) 50) 34 3) xs (fun k i hk => by simp only [zbs, zbd, nbf (show ¬ k = 3 by omega), nbf (show ¬ k = 2 by omega), nbf (show ¬ k = 11 by omega), nbf (show ¬ k = 20 by omega), nbf (show ¬ k = 25 by omega), nbf (show ¬ k = 29 by omega), nbf (show ¬ k = 31 by omega), nbf (show ¬ k = 35 by omega), nbf (show ¬ k = 34 by omega), nbf (show ¬ k = 40 by omega), nbf (show ¬ k = 45 by omega), nbf (show ¬ k = 50 by omega), Bool.false_and, Bool.false_or])) rfl rfl ⟨Nat.le_of_ble_eq_true rfl, Nat.le_of_ble_eq_true rfl⟩ ⟨Nat.le_of_ble_eq_true rfl, Nat.le_of_ble_eq_true rfl⟩ (Nat.le_of_ble_eq_true rfl) ?_
  rintro r N w ⟨rfl, rfl, rfl⟩
  simp only [Nat.reduceAdd, Option.toList, List.nil_append]
  refine p_aast (r := 0) iX7_init_141 ⟨rfl, rfl⟩ (by decide) (by decide) rfl (by decide) (by decide) (vin_mk (n := 8) (a := 4) (by decide)) rfl ?_
  refine z_iinc (v := 1) iX7_init_142 (by decide) (by decide) rfl rfl ?_
  dsimp only [List.set_cons_zero, List.set_cons_succ]
  rw [show (4 : Int32) + 1 = 5 from rfl]
  refine z_goto iX7_init_145 ?_
  refine z_iload iX7_init_123 rfl ?_
  refine z_push iX7_init_124 ?_
  refine z_icmp_ge iX7_init_126 (fun h => absurd h (by decide)) (fun h => ?_)
  refine z_aload iX7_init_129 rfl ?_
  refine p_getR iX7_init_130 fX7_57 rfl rfl rfl (by decide) (by decide) ?_
  refine z_iload iX7_init_133 rfl ?_
  refine p_new iX7_init_134 nwX7_55 rfl (fun i => rfl) (fun i => rfl) dfX4_60 ⟨Nat.le_of_ble_eq_true rfl, Nat.le_of_ble_eq_true rfl⟩ ?_
  simp only [Nat.reduceAdd]
  refine z_dup iX7_init_137 rfl ?_
  refine z_callJ iX7_init_138 kX7_81 (tX4_init_60 (zbs (zbd (zbs (zbd (zbs (zbd (zbs (zbd (zbs (zbd (zbs (zbs (zbd (zbs (zbd (zbs (zbd (zbs (zbd (zbs (zbd (zbs (zbd (fun _ _ => false) 3) 2 0) 11) 2 1) 20) 2 2) 25) 2 3) 29) 2 4) 31) 2 5) 2 6) 35) 34 0) 40) 34 1) 45) 34 2) 50) 34 3) 55) 34 4) xs (fun k i hk => by simp only [zbs, zbd, nbf (show ¬ k = 3 by omega), nbf (show ¬ k = 2 by omega), nbf (show ¬ k = 11 by omega), nbf (show ¬ k = 20 by omega), nbf (show ¬ k = 25 by omega), nbf (show ¬ k = 29 by omega), nbf (show ¬ k = 31 by omega), nbf (show ¬ k = 35 by omega), nbf (show ¬ k = 34 by omega), nbf (show ¬ k = 40 by omega), nbf (show ¬ k = 45 by omega), nbf (show ¬ k = 50 by omega), nbf (show ¬ k = 55 by omega), Bool.false_and, Bool.false_or])) rfl rfl ⟨Nat.le_of_ble_eq_true rfl, Nat.le_of_ble_eq_true rfl⟩ ⟨Nat.le_of_ble_eq_true rfl, Nat.le_of_ble_eq_true rfl⟩ (Nat.le_of_ble_eq_true rfl) ?_
  rintro r N w ⟨rfl, rfl, rfl⟩
  simp only [Nat.reduceAdd, Option.toList, List.nil_append]
  refine p_aast (r := 0) iX7_init_141 ⟨rfl, rfl⟩ (by decide) (by decide) rfl (by decide) (by decide) (vin_mk (n := 8) (a := 5) (by decide)) rfl ?_
  refine z_iinc (v := 1) iX7_init_142 (by decide) (by decide) rfl rfl ?_
  dsimp only [List.set_cons_zero, List.set_cons_succ]
  rw [show (5 : Int32) + 1 = 6 from rfl]
  refine z_goto iX7_init_145 ?_
  refine z_iload iX7_init_123 rfl ?_
  refine z_push iX7_init_124 ?_
  refine z_icmp_ge iX7_init_126 (fun h => absurd h (by decide)) (fun h => ?_)
  refine z_aload iX7_init_129 rfl ?_
  refine p_getR iX7_init_130 fX7_57 rfl rfl rfl (by decide) (by decide) ?_
  refine z_iload iX7_init_133 rfl ?_
  refine p_new iX7_init_134 nwX7_55 rfl (fun i => rfl) (fun i => rfl) dfX4_65 ⟨Nat.le_of_ble_eq_true rfl, Nat.le_of_ble_eq_true rfl⟩ ?_
  simp only [Nat.reduceAdd]
  refine z_dup iX7_init_137 rfl ?_
  refine z_callJ iX7_init_138 kX7_81 (tX4_init_65 (zbs (zbd (zbs (zbd (zbs (zbd (zbs (zbd (zbs (zbd (zbs (zbd (zbs (zbs (zbd (zbs (zbd (zbs (zbd (zbs (zbd (zbs (zbd (zbs (zbd (fun _ _ => false) 3) 2 0) 11) 2 1) 20) 2 2) 25) 2 3) 29) 2 4) 31) 2 5) 2 6) 35) 34 0) 40) 34 1) 45) 34 2) 50) 34 3) 55) 34 4) 60) 34 5) xs (fun k i hk => by simp only [zbs, zbd, nbf (show ¬ k = 3 by omega), nbf (show ¬ k = 2 by omega), nbf (show ¬ k = 11 by omega), nbf (show ¬ k = 20 by omega), nbf (show ¬ k = 25 by omega), nbf (show ¬ k = 29 by omega), nbf (show ¬ k = 31 by omega), nbf (show ¬ k = 35 by omega), nbf (show ¬ k = 34 by omega), nbf (show ¬ k = 40 by omega), nbf (show ¬ k = 45 by omega), nbf (show ¬ k = 50 by omega), nbf (show ¬ k = 55 by omega), nbf (show ¬ k = 60 by omega), Bool.false_and, Bool.false_or])) rfl rfl ⟨Nat.le_of_ble_eq_true rfl, Nat.le_of_ble_eq_true rfl⟩ ⟨Nat.le_of_ble_eq_true rfl, Nat.le_of_ble_eq_true rfl⟩ (Nat.le_of_ble_eq_true rfl) ?_
  rintro r N w ⟨rfl, rfl, rfl⟩
  simp only [Nat.reduceAdd, Option.toList, List.nil_append]
  refine p_aast (r := 0) iX7_init_141 ⟨rfl, rfl⟩ (by decide) (by decide) rfl (by decide) (by decide) (vin_mk (n := 8) (a := 6) (by decide)) rfl ?_
  refine z_iinc (v := 1) iX7_init_142 (by decide) (by decide) rfl rfl ?_
  dsimp only [List.set_cons_zero, List.set_cons_succ]
  rw [show (6 : Int32) + 1 = 7 from rfl]
  refine z_goto iX7_init_145 ?_
  refine z_iload iX7_init_123 rfl ?_
  refine z_push iX7_init_124 ?_
  refine z_icmp_ge iX7_init_126 (fun h => absurd h (by decide)) (fun h => ?_)
  refine z_aload iX7_init_129 rfl ?_
  refine p_getR iX7_init_130 fX7_57 rfl rfl rfl (by decide) (by decide) ?_
  refine z_iload iX7_init_133 rfl ?_
  refine p_new iX7_init_134 nwX7_55 rfl (fun i => rfl) (fun i => rfl) dfX4_70 ⟨Nat.le_of_ble_eq_true rfl, Nat.le_of_ble_eq_true rfl⟩ ?_
  simp only [Nat.reduceAdd]
  refine z_dup iX7_init_137 rfl ?_
  refine z_callJ iX7_init_138 kX7_81 (tX4_init_70 (zbs (zbd (zbs (zbd (zbs (zbd (zbs (zbd (zbs (zbd (zbs (zbd (zbs (zbd (zbs (zbs (zbd (zbs (zbd (zbs (zbd (zbs (zbd (zbs (zbd (zbs (zbd (fun _ _ => false) 3) 2 0) 11) 2 1) 20) 2 2) 25) 2 3) 29) 2 4) 31) 2 5) 2 6) 35) 34 0) 40) 34 1) 45) 34 2) 50) 34 3) 55) 34 4) 60) 34 5) 65) 34 6) xs (fun k i hk => by simp only [zbs, zbd, nbf (show ¬ k = 3 by omega), nbf (show ¬ k = 2 by omega), nbf (show ¬ k = 11 by omega), nbf (show ¬ k = 20 by omega), nbf (show ¬ k = 25 by omega), nbf (show ¬ k = 29 by omega), nbf (show ¬ k = 31 by omega), nbf (show ¬ k = 35 by omega), nbf (show ¬ k = 34 by omega), nbf (show ¬ k = 40 by omega), nbf (show ¬ k = 45 by omega), nbf (show ¬ k = 50 by omega), nbf (show ¬ k = 55 by omega), nbf (show ¬ k = 60 by omega), nbf (show ¬ k = 65 by omega), Bool.false_and, Bool.false_or])) rfl rfl ⟨Nat.le_of_ble_eq_true rfl, Nat.le_of_ble_eq_true rfl⟩ ⟨Nat.le_of_ble_eq_true rfl, Nat.le_of_ble_eq_true rfl⟩ (Nat.le_of_ble_eq_true rfl) ?_
  rintro r N w ⟨rfl, rfl, rfl⟩
  simp only [Nat.reduceAdd, Option.toList, List.nil_append]
  refine p_aast (r := 0) iX7_init_141 ⟨rfl, rfl⟩ (by decide) (by decide) rfl (by decide) (by decide) (vin_mk (n := 8) (a := 7) (by decide)) rfl ?_
  refine z_iinc (v := 1) iX7_init_142 (by decide) (by decide) rfl rfl ?_
  dsimp only [List.set_cons_zero, List.set_cons_succ]
  rw [show (7 : Int32) + 1 = 8 from rfl]
  refine z_goto iX7_init_145 ?_
  refine z_iload iX7_init_123 rfl ?_
  refine z_push iX7_init_124 ?_
  refine z_icmp_ge iX7_init_126 (fun h => ?_) (fun h => absurd (by decide) h)
  exact z_vret iX7_init_148 rfl ⟨rfl, rfl, zP_eq zbL_ok⟩ (Nat.le_refl _) (Nat.le_refl _)
theorem zP_all {L : Nat} {F : zFt} : zP (zbd zb75 75) L F = zE L F := by
  funext k
  simp only [zP, zE]
  congr 2
  funext i
  simp only [zpv, zfv]
  by_cases h : zrr k i = none
  · rw [h]
  · have hx : ∀ k, k < 111 → ∀ i, i < 48 → (zrr k i).isNone = true ∨ zbd zb75 75 k i = true := by decide +kernel
    obtain ⟨h1, h2⟩ := zrr_in h
    rcases hx k h1 i h2 with q | q
    · exact absurd (by simpa using q) h
    · rw [q]
      cases zrr k i <;> rfl
