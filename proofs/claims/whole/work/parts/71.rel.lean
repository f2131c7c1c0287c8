/-! the model's sums -/
def vM (G : zFt) (j i : Nat) : Int32 := if G 89 i = 0 then (if zn (nMj G (G 91 i) (G 90 i)) = j then G 92 i else 0) else 0
def vO (G : zFt) (e i : Nat) : Int32 := if G 89 i = 0 then 0 else if G 89 i = 1 then (if zn (G 91 i) = e then G 92 i else 0) else 0
def vB (G : zFt) (e i : Nat) : Int32 := if G 89 i = 0 then 0 else if G 89 i = 1 then 0 else if zn (G 91 i) = e then 1 <<< (G 92 i &&& 31) else 0
theorem v_same {F G : zFt} {i : Nat} (e : ∀ k j, k = 77 ∨ k = 83 ∨ (k = 89 ∨ k = 90 ∨ k = 91 ∨ k = 92) ∧ j = i → G k j = F k j) : (∀ j, vM G j i = vM F j i) ∧ (∀ j, vO G j i = vO F j i) ∧ ∀ j, vB G j i = vB F j i := by
  have e5 : ∀ j, G 77 j = F 77 j := fun j => e 77 j (by omega)
  have e9 : ∀ j, G 83 j = F 83 j := fun j => e 83 j (by omega)
  have e12 := e 89 i (by omega)
  have e13 := e 90 i (by omega)
  have e14 := e 91 i (by omega)
  have e15 := e 92 i (by omega)
  simp only [vM, vO, vB, nMj, e5, e9, e12, e13, e14, e15]
  exact ⟨fun _ => trivial, fun _ => trivial, fun _ => trivial⟩
theorem nCo_v (G : zFt) (i : Nat) : (∀ j, nCo G i 94 j = G 94 j + vM G j i) ∧ (∀ j, nCo G i 95 j = G 95 j + vO G j i) ∧ ∀ j, nCo G i 96 j = G 96 j ||| vB G j i := by
  unfold nCo vM vO vB
  by_cases h0 : G 89 i = 0
  · simp only [if_pos h0]
    refine ⟨fun j => ?_, fun j => ?_, fun j => ?_⟩
    · rw [zup_ap]
      by_cases hj : j = zn (nMj G (G 91 i) (G 90 i))
      · rw [if_pos ⟨rfl, hj⟩, if_pos hj.symm, hj]
      · have hj2 : ¬ zn (nMj G (G 91 i) (G 90 i)) = j := fun q => hj q.symm
        rw [if_neg (by omega), if_neg hj2, Int32.add_zero]
    · rw [zup_ap, if_neg (by omega), Int32.add_zero]
    · rw [zup_ap, if_neg (by omega), Int32.or_zero]
  · simp only [if_neg h0]
    by_cases h1 : G 89 i = 1
    · simp only [if_pos h1]
      refine ⟨fun j => ?_, fun j => ?_, fun j => ?_⟩
      · rw [zup_ap, if_neg (by omega), Int32.add_zero]
      · rw [zup_ap]
        by_cases hj : j = zn (G 91 i)
        · rw [if_pos ⟨rfl, hj⟩, if_pos hj.symm, hj]
        · have hj2 : ¬ zn (G 91 i) = j := fun q => hj q.symm
          rw [if_neg (by omega), if_neg hj2, Int32.add_zero]
      · rw [zup_ap, if_neg (by omega), Int32.or_zero]
    · simp only [if_neg h1]
      refine ⟨fun j => ?_, fun j => ?_, fun j => ?_⟩
      · rw [zup_ap, if_neg (by omega), Int32.add_zero]
      · rw [zup_ap, if_neg (by omega), Int32.add_zero]
      · rw [zup_ap]
        by_cases hj : j = zn (G 91 i)
        · rw [if_pos ⟨rfl, hj⟩, if_pos hj.symm, hj]
        · have hj2 : ¬ zn (G 91 i) = j := fun q => hj q.symm
          rw [if_neg (by omega), if_neg hj2, Int32.or_zero]
abbrev wM (G : zFt) (j i : Nat) : Int32 := if G 93 i = 0 then 0 else vM G j i
abbrev wO (G : zFt) (j i : Nat) : Int32 := if G 93 i = 0 then 0 else vO G j i
abbrev wB (G : zFt) (j i : Nat) : Int32 := if G 93 i = 0 then 0 else vB G j i
theorem nGb_v (G : zFt) : ∀ a, (∀ j, nGb G a 94 j = G 94 j + zsm (wM G j) a) ∧ (∀ j, nGb G a 95 j = G 95 j + zsm (wO G j) a) ∧ ∀ j, G 96 j = 0 → nGb G a 96 j = zor (wB G j) a
  | 0 => ⟨fun j => (Int32.add_zero _).symm, fun j => (Int32.add_zero _).symm, fun j h => h⟩
  | a + 1 => by
    obtain ⟨i1, i2, i3⟩ := nGb_v G a
    have e93 : nGb G a 93 a = G 93 a := nGb_ne G (by decide) (by decide) (by decide) a a
    have vs := v_same (F := G) (G := nGb G a) (i := a) (fun k j hk => nGb_ne G (by omega) (by omega) (by omega) j a)
    rw [nGb, e93]
    by_cases h : G 93 a = 0
    · rw [if_pos h]
      refine ⟨fun j => ?_, fun j => ?_, fun j hj => ?_⟩
      · rw [i1, zsm, wM, if_pos h, Int32.add_zero]
      · rw [i2, zsm, wO, if_pos h, Int32.add_zero]
      · rw [i3 j hj, zor, wB, if_pos h, Int32.or_zero]
    · rw [if_neg h]
      obtain ⟨c1, c2, c3⟩ := nCo_v (nGb G a) a
      refine ⟨fun j => ?_, fun j => ?_, fun j hj => ?_⟩
      · rw [c1, i1, vs.1, zsm, wM, if_neg h, Int32.add_assoc]
      · rw [c2, i2, vs.2.1, zsm, wO, if_neg h, Int32.add_assoc]
      · rw [c3, i3 j hj, vs.2.2, zor, wB, if_neg h]
theorem nGo_v (G : zFt) (m : Int32) : (∀ j, j < 300 → nGo G m 94 j = zsm (wM G j) (zn m)) ∧ ∀ j, j < 60 → nGo G m 95 j = zsm (wO G j) (zn m) ∧ nGo G m 96 j = zor (wB G j) (zn m) := by
  obtain ⟨c1, c2, c3⟩ := nGb_v (nG0 G m) (zn m)
  have vs := fun q => v_same (F := G) (G := nG0 G m) (i := q) (fun k j hk => nG0_ne G m (by omega) (by omega) (by omega) (by omega) j)
  have e93 : ∀ q, nG0 G m 93 q = G 93 q := fun q => nG0_ne G m (by decide) (by decide) (by decide) (by decide) q
  have z94 : ∀ j, j < 300 → nG0 G m 94 j = 0 := fun j hj => by
    show zfl (zfl (zfl (zup G 75 19 m) 94 0 0 300) 95 0 0 60) 96 0 0 60 94 j = 0
    rw [zfl_ap, if_neg (by omega), zfl_ap, if_neg (by omega), zfl_ap, if_pos (by omega)]
  have z95 : ∀ j, j < 60 → nG0 G m 95 j = 0 := fun j hj => by
    show zfl (zfl (zfl (zup G 75 19 m) 94 0 0 300) 95 0 0 60) 96 0 0 60 95 j = 0
    rw [zfl_ap, if_neg (by omega), zfl_ap, if_pos (by omega)]
  have z96 : ∀ j, j < 60 → nG0 G m 96 j = 0 := fun j hj => by
    show zfl (zfl (zfl (zup G 75 19 m) 94 0 0 300) 95 0 0 60) 96 0 0 60 96 j = 0
    rw [zfl_ap, if_pos (by omega)]
  refine ⟨fun j hj => ?_, fun j hj => ⟨?_, ?_⟩⟩
  · rw [nGo, c1, z94 j hj, Int32.zero_add]
    exact zsm_congr _ (fun q _ => by simp only [wM, e93, (vs q).1])
  · rw [nGo, c2, z95 j hj, Int32.zero_add]
    exact zsm_congr _ (fun q _ => by simp only [wO, e93, (vs q).2.1])
  · rw [nGo, c3 j (z96 j hj)]
    exact zor_congr _ (fun q _ => by simp only [wB, e93, (vs q).2.2])
/-! the relation between the ledger's numbers (F) and the model's (G) -/
def mA (F G : zFt) : Prop := G 75 0 = F 3 7 ∧ G 75 7 = F 3 8 ∧ G 75 9 = F 3 9 ∧ (∀ j, G 76 j = F 4 j ∧ G 77 j = F 5 j ∧ G 78 j = F 6 j ∧ G 80 j = F 7 j ∧ G 81 j = F 8 j ∧ G 82 j = F 9 j ∧ G 83 j = F 10 j) ∧ ∀ c, c < 12 → G 79 c = zfold (gEo F 10 (nI c)) 0 (zn (F 3 9))
def mB (F G : zFt) : Prop := G 75 11 = F 25 3 ∧ ∀ j, G 84 j = F 26 j ∧ G 85 j = F 27 j ∧ G 86 j = F 28 j
def mC (F G : zFt) : Prop := G 75 15 = F 31 2 ∧ G 75 18 = F 31 3 ∧ (∀ j, G 87 j = F 32 j ∧ G 88 j = F 33 j) ∧ ∀ j, zn (F 31 2) ≤ j → F 33 j = 0
def mD (F G : zFt) : Prop := G 75 19 = F 11 6 ∧ (∀ j, G 89 j = F 12 j ∧ G 90 j = F 13 j ∧ G 91 j = F 14 j ∧ G 92 j = F 15 j) ∧ (∀ i, i < zn (F 11 6) → G 93 i = F 16 i) ∧ (∀ j, j < 300 → G 94 j = F 18 j) ∧ ∀ e, e < 60 → G 95 e = F 17 e ∧ G 96 e = zor (tB F e) (zn (F 11 6))
def mE1 (F G : zFt) (s : Nat) : Prop := G 97 s = F (5 * s + 35) 0 ∧ G 98 s = F (5 * s + 35) 1 ∧ G 99 s = F (5 * s + 35) 2 ∧ G 100 s = F (5 * s + 35) 5 ∧ G 103 s = F (5 * s + 35) 8 ∧ (∀ k, k < 16 → G 101 (s * 16 + k) = F (5 * s + 36) k ∧ G 102 (s * 16 + k) = F (5 * s + 37) k) ∧ ∀ k, k < 8 → G 104 (s * 8 + k) = F (5 * s + 38) k ∧ G 105 (s * 8 + k) = F (5 * s + 39) k
def mE (F G : zFt) : Prop := G 75 28 = F 2 7 ∧ ∀ s, s < 8 → mE1 F G s
def mF (F G : zFt) : Prop := G 75 38 = F 29 1 ∧ ∀ j, G 106 j = F 30 j
def mH (F G : zFt) : Prop := G 75 42 = F 2 8 ∧ G 75 39 = F 2 9
def uE (F : zFt) : Nat := if F 2 10 = 1 then zn (F 2 11) else bsE F
def uC (F : zFt) (c : Nat) : Prop := (F 2 10 = 2 ∧ c = zn (F 2 11)) ∨ (F 2 10 = 3 ∧ c = zn (F 10 (zn (F 14 (zn (F 2 11))))))
def mU (F G : zFt) : Prop := (G 75 41 = 0 ↔ F 2 10 = 0) ∧ (¬ F 2 10 = 0 → G 75 43 = nI (uE F) ∧ (∀ i, i < uE F → G 107 i = if F 2 10 = 3 ∧ i = zn (F 2 11) then 1 else F 16 i) ∧ ∀ c, c < 12 → (uC F c → G 108 c = F 2 12) ∧ (¬ uC F c → G 108 c = F 7 c))
def mV (F : zFt) : Prop := ∀ i, i < zn (F 11 6) → -6000 ≤ (F 15 i).toInt ∧ (F 15 i).toInt ≤ 6000
def mM (F : zFt) : Prop := ∀ s, s < zn (F 2 7) → ∀ a b, a < b → b < zn (F (5 * s + 35) 5) → zn (F (5 * s + 37) a) ≤ zn (F (5 * s + 37) b)
def mK (F : zFt) : Prop := ∀ r, r < zn (F 25 3) → zrk (F 27 r) = true
def mZ (G : zFt) : Prop := ∀ i, (G 93 i = 0 ∨ G 93 i = 1) ∧ (G 80 i = 0 ∨ G 80 i = 1) ∧ (G 107 i = 0 ∨ G 107 i = 1) ∧ (G 108 i = 0 ∨ G 108 i = 1)
def mN (F : zFt) (m : Nat) : Prop := 0 ≤ (F 29 1).toInt ∧ (F 29 1).toInt + m ≤ 2000000000
theorem mA_eq {F F' G G' : zFt} (h : mA F G) (eF : ∀ k j, k = 3 ∨ 4 ≤ k ∧ k ≤ 10 → F' k j = F k j) (eG : ∀ k j, k = 75 ∧ (j = 0 ∨ j = 7 ∨ j = 9) ∨ 76 ≤ k ∧ k ≤ 83 → G' k j = G k j) : mA F' G' := by
  have eg : ∀ c, gEo F' 10 c = gEo F 10 c := fun c => gEo_eq F F' 10 c (fun i => eF 10 i (by omega))
  simp only [mA, eg]
  simp (disch := omega) only [eF, eG]
  exact h
theorem mB_eq {F F' G G' : zFt} (h : mB F G) (eF : ∀ k j, k = 25 ∨ 26 ≤ k ∧ k ≤ 28 → F' k j = F k j) (eG : ∀ k j, k = 75 ∧ j = 11 ∨ 84 ≤ k ∧ k ≤ 86 → G' k j = G k j) : mB F' G' := by
  simp only [mB]
  simp (disch := omega) only [eF, eG]
  exact h
theorem mC_eq {F F' G G' : zFt} (h : mC F G) (eF : ∀ k j, k = 31 ∨ k = 32 ∨ k = 33 → F' k j = F k j) (eG : ∀ k j, k = 75 ∧ (j = 15 ∨ j = 18) ∨ k = 87 ∨ k = 88 → G' k j = G k j) : mC F' G' := by
  simp only [mC]
  simp (disch := omega) only [eF, eG]
  exact h
theorem mD_eq {F F' G G' : zFt} (h : mD F G) (eF : ∀ k j, k = 11 ∧ j = 6 ∨ 12 ≤ k ∧ k ≤ 18 → F' k j = F k j) (eG : ∀ k j, k = 75 ∧ j = 19 ∨ 89 ≤ k ∧ k ≤ 96 → G' k j = G k j) : mD F' G' := by
  have et : ∀ e, tB F' e = tB F e := fun e => by
    funext i
    simp only [tB]
    simp (disch := omega) only [eF]
  simp only [mD]
  simp (disch := omega) only [eF, eG, et]
  exact h
theorem mE_eq {F F' G G' : zFt} (h : mE F G) (eF : ∀ k j, k = 2 ∧ j = 7 ∨ 35 ≤ k ∧ k ≤ 74 → F' k j = F k j) (eG : ∀ k j, k = 75 ∧ j = 28 ∨ 97 ≤ k ∧ k ≤ 105 → G' k j = G k j) : mE F' G' := by
  refine ⟨by rw [eF 2 7 (by omega), eG 75 28 (by omega)]; exact h.1, fun s hs => ?_⟩
  simp only [mE1]
  simp (disch := omega) only [eF, eG]
  exact h.2 s hs
theorem mF_eq {F F' G G' : zFt} (h : mF F G) (eF : ∀ k j, k = 29 ∨ k = 30 → F' k j = F k j) (eG : ∀ k j, k = 75 ∧ j = 38 ∨ k = 106 → G' k j = G k j) : mF F' G' := by
  simp only [mF]
  simp (disch := omega) only [eF, eG]
  exact h
theorem mH_eq {F F' G G' : zFt} (h : mH F G) (eF : ∀ j, j = 8 ∨ j = 9 → F' 2 j = F 2 j) (eG : ∀ j, j = 39 ∨ j = 42 → G' 75 j = G 75 j) : mH F' G' := by
  simp only [mH]
  simp (disch := omega) only [eF, eG]
  exact h
theorem mS_eq {F F' : zFt} (h : mS F) (eF : ∀ k j, k = 5 ∨ k = 9 ∨ k = 11 ∨ 12 ≤ k ∧ k ≤ 19 → F' k j = F k j) : mS F' := by
  have ts : ∀ q, _ := fun q => t_same (F := F) (G := F') (i := q) (fun k j hk => eF k j (by omega))
  have e1 : ∀ j, tM F' j = tM F j := fun j => funext fun q => (ts q).1 j
  have e2 : ∀ j, tO F' j = tO F j := fun j => funext fun q => (ts q).2.1 j
  have e3 : ∀ j, tR F' j = tR F j := fun j => funext fun q => (ts q).2.2.1 j
  simp only [mS, e1, e2, e3]
  simp (disch := omega) only [eF]
  exact h
theorem mV_eq {F F' : zFt} (h : mV F) (e6 : F' 11 6 = F 11 6) (eF : ∀ j, j < zn (F 11 6) → F' 15 j = F 15 j) : mV F' := by
  intro i hi
  rw [e6] at hi
  rw [eF i hi]
  exact h i hi
theorem mM_eq {F F' : zFt} (h : mM F) (eF : ∀ k j, k = 2 ∧ j = 7 ∨ 35 ≤ k ∧ k ≤ 74 → F' k j = F k j) (h8 : zn (F 2 7) ≤ 8) : mM F' := by
  intro s hs a b hab hb
  rw [eF 2 7 (by omega)] at hs
  rw [eF _ _ (by omega)] at hb
  rw [eF _ _ (by omega), eF _ _ (by omega)]
  exact h s hs a b hab hb
theorem mK_eq {F F' : zFt} (h : mK F) (eF : ∀ k j, k = 25 ∨ k = 27 → F' k j = F k j) : mK F' := by
  simp only [mK]
  simp (disch := omega) only [eF]
  exact h
theorem mZ_eq {G G' : zFt} (h : mZ G) (eG : ∀ k j, k = 93 ∨ k = 80 ∨ k = 107 ∨ k = 108 → G' k j = G k j) : mZ G' := by
  simp only [mZ]
  simp (disch := omega) only [eG]
  exact h
theorem uE_le {F : zFt} (hU : unOk F) : uE F ≤ bsE F := by
  unfold uE
  split
  · rename_i q
    exact (hU.2.2.1 q).2
  · exact Nat.le_refl _
theorem mU_eq {F F' G G' : zFt} (h : mU F G) (hU : unOk F) (e2 : F' 2 10 = F 2 10 ∧ F' 2 11 = F 2 11 ∧ F' 2 12 = F 2 12) (eb : bsE F' = bsE F) (e16 : ∀ i, i < bsE F → F' 16 i = F 16 i ∧ F' 14 i = F 14 i) (e10 : F 2 10 = 3 → F' 10 (zn (F 14 (zn (F 2 11)))) = F 10 (zn (F 14 (zn (F 2 11))))) (e7 : ∀ c, F' 7 c = F 7 c) (eG : ∀ k j, k = 75 ∧ (j = 41 ∨ j = 43) ∨ k = 107 ∨ k = 108 → G' k j = G k j) : mU F' G' := by
  have hle := uE_le hU
  have eu : uE F' = uE F := by rw [uE, uE, e2.1, e2.2.1, eb]
  have ec : ∀ c, uC F' c ↔ uC F c := by
    intro c
    simp only [uC, e2.1, e2.2.1]
    by_cases h3 : F 2 10 = 3
    · have hlt := vin_zn (hU.2.2.2.2 h3)
      rw [(e16 _ hlt).2, e10 h3]
    · simp only [h3, false_and, or_false]
  refine ⟨by rw [eG 75 41 (by omega), e2.1]; exact h.1, fun h0 => ?_⟩
  rw [e2.1] at h0
  obtain ⟨a1, a2, a3⟩ := h.2 h0
  refine ⟨by rw [eG 75 43 (by omega), eu]; exact a1, fun i hi => ?_, fun c hc => ?_⟩
  · rw [eu] at hi
    rw [eG 107 i (by omega), e2.1, e2.2.1, (e16 i (by omega)).1]
    exact a2 i hi
  · rw [ec, e7, e2.2.2, eG 108 c (by omega)]
    exact a3 c hc
def RI (F G : zFt) (m : Nat) : Prop := CI F ∧ mA F G ∧ mB F G ∧ mC F G ∧ mD F G ∧ mE F G ∧ mF F G ∧ mH F G ∧ mU F G ∧ mS F ∧ mV F ∧ mM F ∧ mK F ∧ mZ G ∧ mN F m
theorem RI_le {F G : zFt} {m k : Nat} (h : RI F G m) (hk : k ≤ m) : RI F G k := by
  obtain ⟨a1, a2, a3, a4, a5, a6, a7, a8, a9, b1, b2, b3, b4, b5, b6⟩ := h
  exact ⟨a1, a2, a3, a4, a5, a6, a7, a8, a9, b1, b2, b3, b4, b5, b6.1, by have := b6.2; omega⟩
theorem mj_eq {F G : zFt} (hA : mA F G) {e j : Int32} (hc : F 9 (zn j) = F 10 (zn e)) : nMj G e j = cMi F e j := by
  simp only [nMj, cMi]
  rw [(hA.2.2.2.1 _).2.1, (hA.2.2.2.1 _).2.2.2.2.2.2, hc, Int32.mul_comm]
theorem w_eq {F G : zFt} (hA : mA F G) {i : Nat} (hr : G 89 i = F 12 i ∧ G 90 i = F 13 i ∧ G 91 i = F 14 i ∧ G 92 i = F 15 i) (h16 : G 93 i = F 16 i) (hc : F 9 (zn (F 13 i)) = F 10 (zn (F 14 i))) : (∀ j, wM G j i = tM F j i) ∧ (∀ j, wO G j i = tO F j i) ∧ ∀ j, wB G j i = tB F j i := by
  simp only [wM, wO, wB, tM, tO, tB, vM, vO, vB, hr.1, hr.2.1, hr.2.2.1, hr.2.2.2, h16, mj_eq hA hc]
  exact ⟨fun _ => trivial, fun _ => trivial, fun _ => trivial⟩
theorem cKt_ev {F : zFt} (h : CI F) {m : Int32} (hm : okM F m) : cKt F m 11 6 = m := cut_ev (CI_okV h) hm
theorem cKt_ne (F : zFt) (m : Int32) {k : Nat} (h0 : k ≠ 11) (h : k ≠ 16) (h2 : k ≠ 17) (h3 : k ≠ 18) (h4 : k ≠ 19) (j : Nat) : cKt F m k j = F k j := cCut_ne F _ h0 h h2 h3 h4 j _
theorem cKt_16 {F : zFt} {m : Int32} (hm : okM F m) {i : Nat} (hi : i < zn m) : cKt F m 16 i = F 16 i := cCut_16 F _ _ i (by have := hm.2; omega)
/-- going back -/
theorem mD_kt {F G : zFt} (h : CI F) (hA : mA F G) (hD : mD F G) (hS : mS F) {m : Int32} (hm : okM F m) : mD (cKt F m) (nGo G m) := by
  have e6 := cKt_ev h hm
  have hS2 := mS_kt h hS hm
  obtain ⟨v1, v2⟩ := nGo_v G m
  have hw : ∀ i, i < zn m → _ := fun i hi => w_eq (G := G) hA (hD.2.1 i) (hD.2.2.1 i (by have := hm.2; omega)) (h.2.2.2.2.2.1 i (by have := hm.2; omega)).2.2.1
  have ht : ∀ i, i < zn m → _ := fun i hi => t_same (F := F) (G := cKt F m) (i := i) (fun k j hk => by
    by_cases h16 : k = 16
    · subst h16
      have : j = i := by omega
      subst this
      exact cKt_16 hm hi
    · exact cKt_ne F m (by omega) (by omega) (by omega) (by omega) (by omega) j)
  refine ⟨by rw [nGo_ev, e6], fun j => ?_, fun i hi => ?_, fun j hj => ?_, fun e he => ⟨?_, ?_⟩⟩
  · rw [nGo_ne G m (by decide) (by decide) (by decide) _ (by omega), nGo_ne G m (by decide) (by decide) (by decide) _ (by omega), nGo_ne G m (by decide) (by decide) (by decide) _ (by omega), nGo_ne G m (by decide) (by decide) (by decide) _ (by omega), cKt_ne F m (by decide) (by decide) (by decide) (by decide) (by decide), cKt_ne F m (by decide) (by decide) (by decide) (by decide) (by decide), cKt_ne F m (by decide) (by decide) (by decide) (by decide) (by decide), cKt_ne F m (by decide) (by decide) (by decide) (by decide) (by decide)]
    exact hD.2.1 j
  · rw [e6] at hi
    rw [nGo_ne G m (by decide) (by decide) (by decide) _ (by omega), cKt_16 hm hi]
    exact hD.2.2.1 i (by have := hm.2; omega)
  · rw [v1 j hj, hS2.1, e6]
    exact zsm_congr _ (fun i hi => by rw [(hw i hi).1, (ht i hi).1])
  · rw [(v2 e he).1, hS2.2.1, e6]
    exact zsm_congr _ (fun i hi => by rw [(hw i hi).2.1, (ht i hi).2.1])
  · rw [(v2 e he).2, e6]
    exact zor_congr _ (fun i hi => by rw [(hw i hi).2.2, (ht i hi).2.2.2])
