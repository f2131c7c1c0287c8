/-! what the relation gives the model's contracts -/
theorem RI_G {F G G' : zFt} {m : Nat} (h : RI F G m) (e : hi G G') : RI F G' m := by
  obtain ⟨a1, a2, a3, a4, a5, a6, a7, a8, a9, b1, b2, b3, b4, b5, b6⟩ := h
  exact ⟨a1, mA_eq a2 (fun _ _ _ => rfl) (fun k j q => e k j (by omega)), mB_eq a3 (fun _ _ _ => rfl) (fun k j q => e k j (by omega)), mC_eq a4 (fun _ _ _ => rfl) (fun k j q => e k j (by omega)), mD_eq a5 (fun _ _ _ => rfl) (fun k j q => e k j (by omega)), mE_eq a6 (fun _ _ _ => rfl) (fun k j q => e k j (by omega)), mF_eq a7 (fun _ _ _ => rfl) (fun k j q => e k j (by omega)), mH_eq a8 (fun _ _ => rfl) (fun j q => e 75 j (by omega)), mU_eq a9 a1.2.2.2.2.2.2.2.2 ⟨rfl, rfl, rfl⟩ rfl (fun _ _ => ⟨rfl, rfl⟩) (fun _ => rfl) (fun _ => rfl) (fun k j q => e k j (by omega)), b1, b2, b3, b4, mZ_eq b5 (fun k j q => e k j (by omega)), b6⟩
theorem RI_F {F F' G : zFt} {m : Nat} (h : RI F G m) (e : lo F F') : RI F' G m := by
  obtain ⟨a1, a2, a3, a4, a5, a6, a7, a8, a9, b1, b2, b3, b4, b5, b6⟩ := h
  have c : CI F' := CI_eq a1 (fun k j q => e k j (by omega))
  refine ⟨c, mA_eq a2 (fun k j q => e k j (by omega)) (fun _ _ _ => rfl), mB_eq a3 (fun k j q => e k j (by omega)) (fun _ _ _ => rfl), mC_eq a4 (fun k j q => e k j (by omega)) (fun _ _ _ => rfl), mD_eq a5 (fun k j q => e k j (by omega)) (fun _ _ _ => rfl), mE_eq a6 (fun k j q => e k j (by omega)) (fun _ _ _ => rfl), mF_eq a7 (fun k j q => e k j (by omega)) (fun _ _ _ => rfl), mH_eq a8 (fun j q => e 2 j (by omega)) (fun _ _ => rfl), mU_eq a9 a1.2.2.2.2.2.2.2.2 ⟨e 2 10 (by omega), e 2 11 (by omega), e 2 12 (by omega)⟩ ?_ (fun i _ => ⟨e 16 i (by omega), e 14 i (by omega)⟩) (fun _ => e 10 _ (by omega)) (fun c => e 7 c (by omega)) (fun _ _ _ => rfl), mS_eq b1 (fun k j q => e k j (by omega)), mV_eq b2 (e 11 6 (by omega)) (fun j _ => e 15 j (by omega)), mM_eq b3 (fun k j q => e k j (by omega)) (vin_le1 a1.2.2.2.2.2.2.1), mK_eq b4 (fun k j q => e k j (by omega)), b5, ?_⟩
  · rw [bsE, bsE, e 2 7 (by omega), e 11 6 (by omega), e 35 2 (by omega)]
  · rw [mN, e 29 1 (by omega)]
    exact b6
theorem okN_of {F G : zFt} (c : CI F) (hA : mA F G) (hD : mD F G) {i : Nat} (hi : i < zn (F 11 6)) : okN G i := by
  have ev := c.2.2.2.2.2.1 i hi
  have r := hD.2.1 i
  have en := sh_en c.1 ev.2.1
  refine ⟨by rw [r.2.2.1]; exact en, fun _ => ⟨?_, ?_⟩⟩
  · rw [r.2.2.1, (hA.2.2.2.1 _).2.2.2.2.2.2]
    exact sh_ec c.1 ev.2.1
  · rw [r.2.2.1, r.2.1, mj_eq hA ev.2.2.1]
    exact sh_mx c.1 ev.2.1 ev.1
theorem okW_of {F G : zFt} {m : Nat} (h : RI F G m) : okW G := by
  have h9 := RI_19 h
  have h4 := h.1.2.2.2.2.1
  refine ⟨by rw [h9]; exact vin_0 h4, by rw [h9]; exact vin_le1 h4, fun i hi => ?_⟩
  rw [h9] at hi
  exact okN_of h.1 h.2.1 h.2.2.2.2.1 hi
theorem okX_of {F G : zFt} {m : Nat} (h : RI F G m) {s t : Nat} (hs : s < 8) (o : scOk F s t) : okX G s := by
  have hA := h.2.1
  have r := h.2.2.2.2.2.1.2 s hs
  have n := half (se_15 h.1.1 (vin_zn o.2.1))
  have e1 : nSe G (G 98 s) = F 6 (zn (F 10 (zn (sE F s)))) := by rw [nSe, r.2.1, (hA.2.2.2.1 _).2.2.2.2.2.2, (hA.2.2.2.1 _).2.2.1]
  have ok := sh_okC h.1.1 (vin_zn o.2.1)
  refine ⟨by rw [r.2.1]; exact sh_en h.1.1 o.2.1, ?_, ?_, by rw [e1]; exact ok.2.2.1, by rw [e1]; exact ok.2.2.2, by rw [e1]; exact ok.2.1⟩
  · rw [r.2.1, (hA.2.2.2.1 _).2.2.2.2.2.2]
    exact sh_ec h.1.1 o.2.1
  · rw [r.2.1, r.1]
    show vp_in (nMj G (sE F s) (sJ F s)) 300
    rw [mj_eq hA o.2.2.1]
    exact sh_mx h.1.1 o.2.1 o.1
theorem RI_NI {F G : zFt} {m : Nat} (h : RI F G (400 + m)) : NI G (zn (F 2 7)) 400 := by
  have h7 := h.1.2.2.2.2.2.2.1
  have h8 := vin_le1 h7
  have hE := h.2.2.2.2.2.1
  have hN : mN F (400 + m) := h.2.2.2.2.2.2.2.2.2.2.2.2.2.2
  have hF := h.2.2.2.2.2.2.1
  refine ⟨by rw [RI_28 h]; exact (vin_nI h7).symm, h8, okW_of h, ⟨by rw [h.2.2.1.1]; exact vin_0 h.1.2.2.1, by rw [h.2.2.1.1]; exact vin_le1 h.1.2.2.1⟩, ⟨by rw [hF.1]; exact hN.1, by rw [hF.1]; have := hN.2; omega⟩, fun s hs => ?_⟩
  have o := h.1.2.2.2.2.2.2.2.1 s hs
  have r := hE.2 s (by omega)
  have et : tpN G (zn (F 2 7)) s = tpS F (zn (F 2 7)) s := by
    rw [tpN, tpS]
    by_cases c : s + 1 < zn (F 2 7)
    · rw [if_pos c, if_pos c, (hE.2 (s + 1) (by omega)).2.2.1]
    · rw [if_neg c, if_neg c, RI_19 h]
  rw [et]
  refine ⟨okX_of h (by omega) o, ⟨by rw [r.2.2.2.1]; exact vin_0 o.2.2.2.1, by rw [r.2.2.2.1]; exact vin_le1 o.2.2.2.1⟩, ⟨by rw [r.2.2.2.2.1]; exact vin_0 o.2.2.2.2.1, by rw [r.2.2.2.2.1]; exact vin_le1 o.2.2.2.2.1⟩, by rw [r.2.2.1]; exact o.2.2.2.2.2.1, fun k hk => ?_⟩
  rw [r.2.2.2.1] at hk
  have hk16 : k < 16 := by have := vin_le1 o.2.2.2.1; omega
  rw [(r.2.2.2.2.2.1 k hk16).2]
  exact (o.2.2.2.2.2.2.1 k hk).2
theorem RI_gn {F G : zFt} {m : Nat} (h : RI F G m) : 0 ≤ (G 75 9).toInt ∧ zn (G 75 9) ≤ 60 ∧ (∀ e, e < zn (G 75 9) → okD G e) ∧ vp_in (G 75 9) 61 ∧ vp_in (G 75 0) 13 ∧ (0 ≤ (G 75 7).toInt ∧ zn (G 75 7) ≤ 60) ∧ (∀ x, x < zn (G 75 9) → vp_in (G 83 x) 12) ∧ zn (G 75 7) ≤ 5 * zn (G 75 0) := by
  have a := h.2.1
  have s := h.1.1
  rw [a.2.2.1, a.1, a.2.1]
  refine ⟨vin_0 s.2.2.1, vin_le1 s.2.2.1, fun e he => ?_, s.2.2.1, s.1, ⟨s.2.1.1, sh_60 s⟩, fun x hx => ?_, s.2.1.2⟩
  · have o := sh_okC s he
    refine ⟨?_, ?_, ?_, ?_⟩
    · rw [(a.2.2.2.1 _).2.2.2.2.2.2]
      exact o.1
    · rw [(a.2.2.2.1 _).2.2.2.2.2.2, (a.2.2.2.1 _).2.2.1]
      exact o.2.1
    · rw [(a.2.2.2.1 _).2.2.2.2.2.2, (a.2.2.2.1 _).2.2.1]
      exact o.2.2.1
    · rw [(a.2.2.2.1 _).2.2.2.2.2.2, (a.2.2.2.1 _).2.2.1]
      exact o.2.2.2
  · rw [(a.2.2.2.1 _).2.2.2.2.2.2]
    exact (sh_okC s hx).1
theorem RI_z {F G : zFt} {m : Nat} (h : RI F G m) : (∀ i, G 93 i = 0 ∨ G 93 i = 1) ∧ (∀ i, G 80 i = 0 ∨ G 80 i = 1) ∧ (∀ i, G 107 i = 0 ∨ G 107 i = 1) ∧ (∀ i, G 108 i = 0 ∨ G 108 i = 1) := by
  have z : mZ G := h.2.2.2.2.2.2.2.2.2.2.2.2.2.1
  exact ⟨fun i => (z i).1, fun i => (z i).2.1, fun i => (z i).2.2.1, fun i => (z i).2.2.2⟩
section U
variable {L : Nat} {F G : zFt} {m : Nat}
theorem uShow (h : RI F G (400 + m)) (x y : Int32) : zFn mX8_show 1 [.ref 75, .int x, .int y] L G (some (.int (qShow G x y).1)) (qShow G x y).2 := tX8_show G x y (RI_gn h).2.2.2.2.1 (RI_gn h).2.2.2.2.2.1.1 (RI_gn h).2.2.2.2.2.2.2
theorem uEntry (h : RI F G (400 + m)) (x : Int32) : zFn mX8_entry 2 [.ref 75, .int x] L G (some (.int (qEntry G x).1)) (qEntry G x).2 := tX8_entry G x (RI_gn h).2.2.2.2.1 (RI_gn h).2.2.2.1
theorem uPrizes (h : RI F G (400 + m)) (c x y z : Int32) : zFn mX8_prizes 2 [.ref 75, .int c, .int x, .int y, .int z] L G (some (.int (qPrizes G c x y z).1)) (qPrizes G c x y z).2 := tX8_prizes G c x y z (RI_gn h).2.2.2.2.1
theorem uRule (h : RI F G (400 + m)) (x y z : Int32) : zFn mX8_rule 1 [.ref 75, .int x, .int y, .int z] L G (some (.int (qRule G x y z).1)) (qRule G x y z).2 := tX8_rule G x y z (by rw [h.2.2.1.1]; exact h.1.2.2.1)
theorem uClear (_ : RI F G (400 + m)) : zFn mX8_clearRules 0 [.ref 75] L G (some (.int (qClear G).1)) (qClear G).2 := tX8_clearRules G
theorem uObs (h : RI F G (400 + m)) (x : Int32) : zFn mX8_observe 0 [.ref 75, .int x] L G (some (.int (qObs G x).1)) (qObs G x).2 := tX8_observe G x (by rw [h.2.2.2.1.1]; exact h.1.2.1)
theorem uBegin (h : RI F G (400 + m)) (x y : Int32) : zFn mX8_begin 2 [.ref 75, .int x, .int y] L G (some (.int (qBegin G x y).1)) (qBegin G x y).2 := tX8_begin G x y (RI_gn h).2.2.2.2.2.1 (RI_gn h).2.2.2.1 (RI_gn h).2.2.2.2.2.2.1 (by rw [RI_28 h]; exact h.1.2.2.2.2.2.2.1)
theorem uPoints (h : RI F G (400 + m)) (x : Int32) : zFn mX8_points 5 [.ref 75, .int x] L G (some (.int (qPoints G x).1)) (qPoints G x).2 := tX8_points G x _ (RI_NI h)
theorem uDeduct (h : RI F G (400 + m)) (x : Int32) : zFn mX8_deduct 2 [.ref 75, .int x] L G (some (.int (qDeduct G x).1)) (qDeduct G x).2 := tX8_deduct G x _ (RI_NI h)
theorem uRemark (h : RI F G (400 + m)) (x : Int32) : zFn mX8_remark 2 [.ref 75, .int x] L G (some (.int (qRemark G x).1)) (qRemark G x).2 := tX8_remark G x _ (RI_NI h)
theorem uSave0 (x : Int32) (hx : zi3 x 0 15 = false) : zFn mX8_save 5 [.ref 75, .int x] L G (some (.int (qSave G x).1)) (qSave G x).2 := by
  refine e_of (lo := [some (.ref 75), some (.int x), none, none, none]) (by decide +kernel) (Nat.le_of_ble_eq_true rfl) rfl ?_
  refine z_iload iX8_save_0 rfl ?_
  refine z_push iX8_save_1 ?_
  refine z_push iX8_save_2 ?_
  refine e_callS iX8_save_4 kX8_123 (tX8_in G _ _ _) rfl rfl ⟨Nat.le_of_ble_eq_true rfl, Nat.le_of_ble_eq_true rfl⟩ ⟨Nat.le_of_ble_eq_true rfl, Nat.le_of_ble_eq_true rfl⟩ (Nat.le_of_ble_eq_true rfl) ?_
  dsimp only [Option.toList, List.cons_append, List.nil_append]
  refine z_if_ne iX8_save_7 (fun c7 => ?_) (fun c7 => ?_)
  · rw [zb_n, hx] at c7
    cases c7
  · rw [zb_0] at c7
    refine z_push iX8_save_10 ?_
    exact e_iret iX8_save_12 rfl ⟨by simp [qSave, c7], by simp [qSave, c7]⟩
theorem uSave (h : RI F G (400 + m)) (x : Int32) : zFn mX8_save 5 [.ref 75, .int x] L G (some (.int (qSave G x).1)) (qSave G x).2 := by
  by_cases hx : zi3 x 0 15 = false
  · exact uSave0 x hx
  · refine tX8_save G x _ (RI_NI h) (fun p hp => ?_)
    have hz : zin x 16 = true := by
      rw [zi15] at hx
      simpa using hx
    exact (RI_sv h hp (zin_16 (n := 16) hz (by decide))).2.1
theorem uBack (h : RI F G (400 + m)) (x : Int32) : zFn mX8_back 2 [.ref 75, .int x] L G (some (.int (qBack G x).1)) (qBack G x).2 := tX8_back G x _ (RI_NI h)
theorem uRelease (h : RI F G (400 + m)) (x : Int32) : zFn mX8_release 2 [.ref 75, .int x] L G (some (.int (qRelease G x).1)) (qRelease G x).2 := tX8_release G x _ (RI_NI h)
theorem uGuard (h : RI F G (400 + m)) (x y : Int32) : zFn mX8_guard 1 [.ref 75, .int x, .int y] L G (some (.int (qGuard G x y).1)) (qGuard G x y).2 := tX8_guard G x y _ (RI_NI h)
theorem uEnd (h : RI F G (400 + m)) : zFn mX8_end 5 [.ref 75] L G (some (.int (qEnd G).1)) (qEnd G).2 := tX8_end G _ (RI_NI h) (RI_z h).1 (RI_z h).2.1 (by rw [h.2.2.2.1.1]; exact h.1.2.1)
theorem uDrop (h : RI F G (400 + m)) : zFn mX8_drop 2 [.ref 75] L G (some (.int (qDrop G).1)) (qDrop G).2 := tX8_drop G _ (RI_NI h)
theorem uDepth (_ : RI F G (400 + m)) : zFn mX8_depth 0 [.ref 75] L G (some (.int (qDepth G).1)) (qDepth G).2 := tX8_depth G
theorem uScoring (h : RI F G (400 + m)) (x y : Int32) : zFn mX8_scoring 1 [.ref 75, .int x, .int y] L G (some (.int (qScoring G x y).1)) (qScoring G x y).2 := by
  have h7 := h.1.2.2.2.2.2.2.1
  have hz : zi3 x 0 (G 75 28 - 1) = true → nSi G x = nI (sIx F x) ∧ sIx F x < zn (F 2 7) ∧ sIx F x < 8 := fun q => by
    rw [RI_28 h, zi3_zin (vin_0 h7)] at q
    have q2 := zin_t.mp q
    exact si_v h (by rw [zlt0]; omega) (by rw [Int32.lt_iff_toInt_lt]; exact q2.2)
  refine tX8_scoring G x y (fun q => ?_) (fun q q4 qn => ?_)
  · rw [(hz q).1]
    exact vin_mk (hz q).2.2
  · obtain ⟨e1, e2, e3⟩ := hz q
    have zs : zn (nI (sIx F x)) = sIx F x := zn_nI (by omega)
    rw [e1, zs, (h.2.2.2.2.2.1.2 (sIx F x) e3).2.2.2.1] at qn
    have ht := h.1.2.2.2.2.2.2.2.1 _ e2
    have w4 : 4 ≤ y.toInt := by
      rw [Int32.le_iff_toInt_le] at q4
      exact q4
    have v := w4_in (vin_0 ht.2.2.2.1) (vin_le1 ht.2.2.2.1) w4 qn
    obtain ⟨k, hk, ek⟩ := vin_of v.1
    have e5 : 16 * nI (sIx F x) + y - 4 = nI (sIx F x * 16 + k) := by
      rw [← nI_add, ← ek, ← nI_16m]
      grind
    rw [e1, e5]
    exact vin_mk (by omega)
theorem uTold (h : RI F G (400 + m)) (x y : Int32) : zFn mX8_told 4 [.ref 75, .int x, .int y] L G (some (.int (qTold G x y).1)) (qTold G x y).2 := tX8_told G x y (RI_gn h).1 (RI_gn h).2.1 (RI_gn h).2.2.1
theorem uMark (h : RI F G (400 + m)) (x y : Int32) : zFn mX8_mark 2 [.ref 75, .int x, .int y] L G (some (.int (qMark G x y).1)) (qMark G x y).2 := by
  refine tX8_mark G x y (RI_gn h).1 (RI_gn h).2.1 (RI_gn h).2.2.1 (RI_gn h).2.2.2.2.2.1 (fun q1 q2 q3 => ?_)
  have a := h.2.1
  rw [a.2.2.1] at q1
  rw [a.2.1] at q2
  rw [(a.2.2.2.1 _).2.2.2.2.2.1, (a.2.2.2.1 (zn x)).2.2.2.2.2.2] at q3
  rw [mj_eq a q3]
  exact sh_mx h.1.1 (zin_v q1) (zin_v q2)
theorem uPlace (h : RI F G (400 + m)) (x y : Int32) : zFn mX8_place 3 [.ref 75, .int x, .int y] L G (some (.int (qPlace G x y).1)) (qPlace G x y).2 := tX8_place G x y (RI_gn h).1 (RI_gn h).2.1 (RI_gn h).2.2.1 (RI_gn h).2.2.2.2.1
theorem uClose (h : RI F G (400 + m)) (x : Int32) : zFn mX8_close 2 [.ref 75, .int x] L G (some (.int (qClose G x).1)) (qClose G x).2 := tX8_close G x (RI_gn h).2.2.2.2.1 (RI_z h).1 (RI_z h).2.1
theorem uAbout (h : RI F G (400 + m)) (x y : Int32) : zFn mX8_about 4 [.ref 75, .int x, .int y] L G (some (.int (qAbout G x y).1)) (qAbout G x y).2 := tX8_about G x y (RI_gn h).1 (RI_gn h).2.1 (RI_gn h).2.2.1 (RI_gn h).2.2.2.2.1
theorem uUphold (h : RI F G (400 + m)) (x : Int32) : zFn mX8_uphold 2 [.ref 75, .int x] L G (some (.int (qUphold G x).1)) (qUphold G x).2 := by
  refine tX8_uphold G x (okW_of h) (fun i hi => ?_) (RI_z h).1 (RI_z h).2.1
  rw [RI_19 h] at hi
  have ev := h.1.2.2.2.2.2.1 i hi
  rw [(h.2.2.2.2.1.2.1 i).2.2.1, (h.2.1.2.2.2.1 _).2.2.2.2.2.2]
  exact ⟨sh_en h.1.1 ev.2.1, sh_ec h.1.1 ev.2.1⟩
theorem uEvent (h : RI F G (400 + m)) (x y : Int32) : zFn mX8_event 1 [.ref 75, .int x, .int y] L G (some (.int (qEvent G x y).1)) (qEvent G x y).2 := tX8_event G x y ⟨(okW_of h).1, (okW_of h).2.1⟩
theorem uFailure (h : RI F G (400 + m)) (x y : Int32) : zFn mX8_failure 1 [.ref 75, .int x, .int y] L G (some (.int (qFailure G x y).1)) (qFailure G x y).2 := tX8_failure G x y (RI_NI h).2.2.2.2.1.1
theorem uIs (_ : RI F G (400 + m)) (x y : Int32) : zFn mX8_is 2 [.ref 75, .int x, .int y] L G (some (.int (qIs G x y).1)) (qIs G x y).2 := tX8_is G x y
theorem uUndo (h : RI F G (400 + m)) : zFn mX8_undo 2 [.ref 75] L G (some (.int (qUndo G).1)) (qUndo G).2 := by
  refine tX8_undo G (RI_z h).2.2.1 (RI_z h).2.2.2 (fun q => ?_)
  have u := h.2.2.2.2.2.2.2.2.1
  have n : ¬ F 2 10 = 0 := fun w => q (u.1.mpr w)
  have e43 := (u.2 n).1
  have h4 := vin_le1 h.1.2.2.2.2.1
  have hb : bsE F ≤ zn (F 11 6) := by
    rw [bsE]
    split
    · omega
    · rename_i hn
      have o := h.1.2.2.2.2.2.2.2.1 0 (by omega)
      have t := o.2.2.2.2.2.1.2
      have e35 : F (5 * 0 + 35) 2 = F 35 2 := rfl
      rw [e35] at t
      have tl : ∀ d s, s + d + 1 = zn (F 2 7) → tpS F (zn (F 2 7)) s ≤ zn (F 11 6) := by
        intro d
        induction d with
        | zero =>
          intro s hs
          rw [tpS, if_neg (by omega)]
          exact Nat.le_refl _
        | succ d ih =>
          intro s hs
          have o2 := h.1.2.2.2.2.2.2.2.1 (s + 1) (by omega)
          have i2 := ih (s + 1) (by omega)
          rw [tpS, if_pos (by omega)]
          have := o2.2.2.2.2.2.1.2
          omega
      have := tl (zn (F 2 7) - 1) 0 (by omega)
      omega
  have hu := uE_le h.1.2.2.2.2.2.2.2.2
  rw [e43, nI_int (by omega), zn_nI (by omega)]
  exact ⟨by omega, by omega, fun i hi => okN_of h.1 h.2.1 h.2.2.2.2.1 (by omega)⟩
theorem uCount (_ : RI F G (400 + m)) (x : Int32) : zFn mX8_count 0 [.ref 75, .int x] L G (some (.int (qCount G x).1)) (qCount G x).2 := tX8_count G x
theorem uDigest (h : RI F G (400 + m)) : zFn mX8_digest 0 [.ref 75] L G (some (.long (qDigest G))) G := tX8_digest G (RI_gn h).1 (RI_gn h).2.1 (RI_gn h).2.2.1 ⟨(okW_of h).1, (okW_of h).2.1⟩ ⟨vin_0 (RI_gn h).2.2.2.2.1, vin_le1 (RI_gn h).2.2.2.2.1⟩ (by rw [RI_28 h]; exact ⟨vin_0 h.1.2.2.2.2.2.2.1, vin_le1 h.1.2.2.2.2.2.2.1⟩)
end U
