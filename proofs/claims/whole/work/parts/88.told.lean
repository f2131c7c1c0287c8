theorem ta_scr {F G : zFt} {m : Nat} (h : RI F G (400 + m)) (F2 : zFt) (eF : ∀ k j, k ≠ 21 → k ≠ 22 → k ≠ 23 → k ≠ 24 → F2 k j = F k j) : RI F2 (nTa G) m := RI_le (RI_scr h eF (fun k j h1 h2 => nTa_ne G h1 h2 j)) (by omega)
theorem rTold {F G : zFt} {m : Nat} (e w : Int32) (h : RI F G (400 + m)) : (qTold G e w).1 = (pTold F e w).1 ∧ RI (pTold F e w).2 (qTold G e w).2 m := by
  have a2 := h.2.1
  have h60 := vin_le1 h.1.1.2.2.1
  unfold qTold pTold
  rw [a2.2.2.1]
  by_cases c1 : zin e (F 3 9) = false
  · rw [if_pos c1, if_pos c1]
    exact RI_no3 h _
  rw [if_neg c1, if_neg c1]
  have hv := zin_v (show zin e (F 3 9) = true by simpa using c1)
  have he := vin_zn hv
  have hv60 : vp_in e 60 := vin_le hv h60
  have ee : nI (zn e) = e := vin_nI hv
  have rkF : ∀ k j, k ≠ 21 → k ≠ 22 → k ≠ 23 → k ≠ 24 → cRk F (F 10 (zn e)) k j = F k j := fun k j h1 h2 h3 h4 => cRk_ne F _ h1 h2 h3 h4 j
  have z7 : zi3 w 0 6 = zin w 7 := zi3_zin (c := w) (x := 7) (by decide)
  rw [z7]
  by_cases c2 : zin w 7 = false
  · have hw : ¬ (0 ≤ w.toInt ∧ w.toInt < 7) := fun q => by
      have := (zin_t (c := w) (b := 7)).mpr q
      rw [this] at c2
      cases c2
    rw [if_pos c2, if_neg (show ¬ w.toInt = 0 by omega), if_neg (show ¬ w.toInt = 1 by omega), if_neg (show ¬ w.toInt = 2 by omega), if_neg (show ¬ w.toInt = 3 by omega), if_neg (show ¬ w.toInt = 4 by omega), if_neg (show ¬ w.toInt = 5 by omega), if_neg (show ¬ w.toInt = 6 by omega)]
    exact RI_no3 h _
  have hw : 0 ≤ w.toInt ∧ w.toInt < 7 := (zin_t (c := w) (b := 7)).mp (by simpa using c2)
  rw [if_neg c2]
  by_cases d0 : w.toInt = 0
  · rw [if_pos d0, if_pos d0]
    exact ⟨(a2.2.2.2.1 _).2.2.2.2.2.2, ta_scr h F (fun _ _ _ _ _ _ => rfl)⟩
  rw [if_neg d0, if_neg d0]
  by_cases d1 : w.toInt = 1
  · rw [if_pos d1, if_pos d1]
    refine ⟨?_, ta_scr h _ (fun k j _ _ _ h4 => cTF_ne F e h4 j)⟩
    show nTa G 110 (zn e) = cTv F e
    rw [nTa, a2.2.2.1, tT_v h _ he (Nat.le_refl _), ee]
  rw [if_neg d1, if_neg d1]
  by_cases d2 : w.toInt = 2
  · rw [if_pos d2, if_pos d2]
    exact ⟨(h.2.2.2.2.1.2.2.2.2 _ (by omega)).1, ta_scr h F (fun _ _ _ _ _ _ => rfl)⟩
  rw [if_neg d2, if_neg d2]
  by_cases d3 : w.toInt = 3
  · rw [if_pos d3, if_pos d3]
    exact ⟨r96 h.1 h.2.2.2.2.2.2.2.2.2.1 h.2.2.2.2.1 hv60, ta_scr h F (fun _ _ _ _ _ _ => rfl)⟩
  rw [if_neg d3, if_neg d3]
  by_cases d4 : w.toInt = 4
  · rw [if_pos d4, if_pos d4]
    refine ⟨?_, ta_scr h _ rkF⟩
    show nRk (nTa G) e = cRk F (F 10 (zn e)) 23 (zn e)
    rw [rk_n h he, rk_c h he rfl]
  rw [if_neg d4, if_neg d4]
  by_cases d5 : w.toInt = 5
  · rw [if_pos d5, if_pos d5]
    exact ⟨(tn_eq h he).symm, ta_scr h _ rkF⟩
  rw [if_neg d5, if_neg d5, if_pos (show w.toInt = 6 by omega)]
  exact ⟨(sr_eq h he rfl).symm, ta_scr h _ rkF⟩
theorem eo_cn {F : zFt} (c : Int32) : zfold (gEo F 10 c) 0 (zn (F 3 9)) = nI (zcn (inC F c) (zn (F 3 9))) := by
  have := zcn_fold (g := gEo F 10 c) (p := inC F c) 0 (zn (F 3 9)) (fun i hi b => by
    simp only [gEo, inC, decide_eq_true_eq])
  rw [Nat.zero_add] at this
  exact this
theorem rPlace {F G : zFt} {m : Nat} (c x : Int32) (h : RI F G (400 + m)) : (qPlace G c x).1 = (pPlace F c x).1 ∧ RI (pPlace F c x).2 (qPlace G c x).2 m := by
  have a2 := h.2.1
  have h60 := vin_le1 h.1.1.2.2.1
  unfold qPlace pPlace
  rw [a2.1, a2.2.2.1]
  by_cases c1 : zin c (F 3 7) = false
  · rw [if_pos c1, if_pos c1]
    exact RI_no3 h _
  have hv := zin_v (show zin c (F 3 7) = true by simpa using c1)
  have hc12 : vp_in c 12 := sh_cl h.1.1 hv
  have e79 : G 79 (zn c) = nI (zcn (inC F c) (zn (F 3 9))) := by
    rw [a2.2.2.2.2 _ (vin_zn hc12), vin_nI hc12, eo_cn]
  have b := zcn_le (inC F c) (zn (F 3 9))
  have rkF : ∀ k j, k ≠ 21 → k ≠ 22 → k ≠ 23 → k ≠ 24 → cRk F c k j = F k j := fun k j h1 h2 h3 h4 => cRk_ne F _ h1 h2 h3 h4 j
  rw [if_neg c1, if_neg c1, e79, zi3_zin (by rw [nI_int (by omega)]; omega)]
  by_cases c2 : zin x (nI (zcn (inC F c) (zn (F 3 9)))) = false
  · rw [if_pos c2]
    refine ⟨?_, RI_le (RI_scr h rkF (fun _ _ _ _ => rfl)) (by omega)⟩
    refine (ea_no h (fun p hp q => ?_) _ _ (Nat.zero_add _)).symm
    have w : zin x (nI (zcn (inC F c) (zn (F 3 9)))) = true := by
      rw [← q, zin_t, nI_int (by omega), nI_int (by omega)]
      omega
    rw [w] at c2
    cases c2
  · rw [if_neg c2]
    exact ⟨(ea_eq h c x _ _ (Nat.zero_add _)).symm, ta_scr h _ rkF⟩
theorem p3_eq (p : Nat → Int32) (c : Int32) : zpf p c 3 4 1 0 = p (zn (3 * c)) + p (zn (3 * c + 1)) + p (zn (3 * c + 2)) := by
  have e1 : c * 3 + 1 - 1 = 3 * c := by grind
  have e2 : c * 3 + (1 + 1) - 1 = 3 * c + 1 := by grind
  have e3 : c * 3 + (1 + 1 + 1) - 1 = 3 * c + 2 := by grind
  rw [zpf, if_neg (by decide), if_neg (by decide), zpf, if_neg (by decide), if_neg (by decide), zpf, if_neg (by decide), if_neg (by decide), zpf, if_pos (by decide), e1, e2, e3, Int32.zero_add]
theorem rAbout {F G : zFt} {m : Nat} (c w : Int32) (h : RI F G (400 + m)) : (qAbout G c w).1 = (pAbout F c w).1 ∧ RI (pAbout F c w).2 (qAbout G c w).2 m := by
  have a2 := h.2.1
  have h60 := vin_le1 h.1.1.2.2.1
  unfold qAbout pAbout
  rw [a2.1, a2.2.2.1]
  by_cases c1 : zin c (F 3 7) = false
  · rw [if_pos c1, if_pos c1]
    exact RI_no3 h _
  have hv := zin_v (show zin c (F 3 7) = true by simpa using c1)
  have hc12 : vp_in c 12 := sh_cl h.1.1 hv
  have e79 : G 79 (zn c) = zfold (gEo F 10 c) 0 (zn (F 3 9)) := by rw [a2.2.2.2.2 _ (vin_zn hc12), vin_nI hc12]
  have rkF : ∀ k j, k ≠ 21 → k ≠ 22 → k ≠ 23 → k ≠ 24 → cRk F c k j = F k j := fun k j h1 h2 h3 h4 => cRk_ne F _ h1 h2 h3 h4 j
  rw [if_neg c1, if_neg c1, (a2.2.2.2.1 (zn c)).1, (a2.2.2.2.1 (zn c)).2.1, (a2.2.2.2.1 (zn c)).2.2.1, (a2.2.2.2.1 (zn c)).2.2.2.1, e79]
  split
  · exact RI_no3 h _
  split
  · exact RI_no3 h _
  split
  · exact RI_no3 h _
  split
  · exact RI_no3 h _
  split
  · exact RI_no3 h _
  split
  · refine ⟨?_, ta_scr h _ rkF⟩
    show zfold (gNq (nTa G) c) (n3p (nTa G) c) (zn (F 3 9)) = zfold (gPl (cRk F c) c) (zpf (cRk F c 8) c 3 4 1 0) (zn (F 3 9))
    have e8 : cRk F c 8 = F 8 := funext (fun j => rkF 8 j (by decide) (by decide) (by decide) (by decide))
    have e81 : nTa G 81 = F 8 := funext (fun j => by rw [nTa_ne G (by decide) (by decide), (a2.2.2.2.1 j).2.2.2.2.1])
    rw [p3_eq, n3p, e8, e81]
    refine zfold_eq _ (fun i hi a => ?_)
    simp only [gNq, gPl]
    rw [nTa_83 h, rkF 10 i (by decide) (by decide) (by decide) (by decide)]
    have ez : zn (nI i) = i := zn_nI (by omega)
    by_cases ci : F 10 i = c
    · rw [if_neg (not_not_intro ci), if_neg (not_not_intro ci), sr_eq h (x := nI i) (by rw [ez]; exact hi) (by rw [ez]; exact ci)]
    · rw [if_pos ci, if_pos ci, Int32.sub_zero]
  · exact RI_no3 h _
