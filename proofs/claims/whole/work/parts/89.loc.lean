/-! the class writes below cell 75, the model from there on -/
def hi (F F' : zFt) : Prop := ∀ k j, (75 ≤ k ∨ k = 0) → F' k j = F k j
def lo (F F' : zFt) : Prop := ∀ k j, k < 75 → F' k j = F k j
theorem hi_r (F : zFt) : hi F F := fun _ _ _ => rfl
theorem lo_r (F : zFt) : lo F F := fun _ _ _ => rfl
theorem hi_ne {F F' F2 : zFt} (h : hi F F') (e : ∀ k j, (75 ≤ k ∨ k = 0) → F2 k j = F' k j) : hi F F2 := fun k j hk => (e k j hk).trans (h k j hk)
theorem lo_ne {F F' F2 : zFt} (h : lo F F') (e : ∀ k j, k < 75 → F2 k j = F' k j) : lo F F2 := fun k j hk => (e k j hk).trans (h k j hk)
theorem hi_up {F F' : zFt} {a i : Nat} {x : Int32} (h : hi F F') (ha : a < 75 ∧ 0 < a) : hi F (zup F' a i x) := hi_ne h (fun k j hk => by rw [zup_ap, if_neg (by omega)])
theorem lo_up {F F' : zFt} {a i : Nat} {x : Int32} (h : lo F F') (ha : 75 ≤ a) : lo F (zup F' a i x) := lo_ne h (fun k j hk => by rw [zup_ap, if_neg (by omega)])
theorem hi_fl {F F' : zFt} {a i n : Nat} {x : Int32} (h : hi F F') (ha : a < 75 ∧ 0 < a) : hi F (zfl F' a i x n) := hi_ne h (fun k j hk => by rw [zfl_ap, if_neg (by omega)])
theorem lo_fl {F F' : zFt} {a i n : Nat} {x : Int32} (h : lo F F') (ha : 75 ≤ a) : lo F (zfl F' a i x n) := lo_ne h (fun k j hk => by rw [zfl_ap, if_neg (by omega)])
def hi2 (F : zFt) (p : Int32 × zFt) : Prop := hi F p.2
def lo2 (F : zFt) (p : Int32 × zFt) : Prop := lo F p.2
theorem hi2_mk {F F' : zFt} {x : Int32} (h : hi F F') : hi2 F (x, F') := h
theorem lo2_mk {F F' : zFt} {x : Int32} (h : lo F F') : lo2 F (x, F') := h
theorem hi2_if {F : zFt} {c : Prop} [Decidable c] {p q : Int32 × zFt} (h1 : c → hi2 F p) (h2 : ¬ c → hi2 F q) : hi2 F (if c then p else q) := by
  by_cases h : c
  · rw [if_pos h]
    exact h1 h
  · rw [if_neg h]
    exact h2 h
theorem lo2_if {F : zFt} {c : Prop} [Decidable c] {p q : Int32 × zFt} (h1 : c → lo2 F p) (h2 : ¬ c → lo2 F q) : lo2 F (if c then p else q) := by
  by_cases h : c
  · rw [if_pos h]
    exact h1 h
  · rw [if_neg h]
    exact h2 h
theorem hi_if {F : zFt} {c : Prop} [Decidable c] {p q : zFt} (h1 : hi F p) (h2 : hi F q) : hi F (if c then p else q) := by
  by_cases h : c
  · rw [if_pos h]
    exact h1
  · rw [if_neg h]
    exact h2
theorem lo_if {F : zFt} {c : Prop} [Decidable c] {p q : zFt} (h1 : lo F p) (h2 : lo F q) : lo F (if c then p else q) := by
  by_cases h : c
  · rw [if_pos h]
    exact h1
  · rw [if_neg h]
    exact h2
theorem hi_cSc {F F' : zFt} {i : Nat} {b : Int32} (h : hi F F') : hi F (cSc F' i b) := hi_ne h (fun k j hk => cSc_ne F' i b (by omega) (by omega) (by omega) (by omega) j)
theorem hi_cKt {F F' : zFt} {m : Int32} (h : hi F F') : hi F (cKt F' m) := hi_ne h (fun k j hk => cKt_ne F' m (by omega) (by omega) (by omega) (by omega) (by omega) j)
theorem hi_cDr {F F' : zFt} (h : hi F F') : hi F (cDr F') := hi_up (hi_cKt h) (by omega)
theorem hi_cAd {F F' : zFt} {a b c u v w : Int32} (h : hi F F') : hi F (cAd F' a b c u v w) := hi_ne h (fun k j hk => cAd_ne F' a b c u v w (by omega) (by omega) j)
theorem hi_cSp {F F' : zFt} {s : Nat} {m : Int32} {a : Nat} (h : hi F F') : hi F (cSp F' s m a) := hi_ne h (fun k j hk => cSp_ne F' s m (by omega) (by omega) j a)
theorem hi_cFa {F F' : zFt} {a : Nat} (h : hi F F') : hi2 F (cFa F' a) := hi_ne h (fun k j hk => cFa_ne F' (by omega) (by omega) (by omega) j (by omega) a)
theorem hi_cAe {F F' : zFt} {x y : Int32} (h : hi F F') : hi F (cAe F' x y) := hi_ne h (fun k j hk => cAe_ne F' x y (by omega) (by omega) (by omega) (by omega) (by omega) j (by omega))
theorem hi_cRk {F F' : zFt} {c : Int32} (h : hi F F') : hi F (cRk F' c) := hi_ne h (fun k j hk => cRk_ne F' c (by omega) (by omega) (by omega) (by omega) j)
theorem hi_cTF {F F' : zFt} {e : Int32} (h : hi F F') : hi F (cTF F' e) := hi_ne h (fun k j hk => cTF_ne F' e (by omega) j)
theorem hi_cAs0 {F F' : zFt} {s : Nat} {x : Int32} (h : hi F F') (hs : s < 8) : hi F (cAs0 F' s x) := by
  unfold cAs0
  refine hi_if h (hi_up (hi_ne h (fun k j hk => cRm_ne F' s _ (by omega) (by omega) j _)) (by omega))
theorem hi_cAs {F F' : zFt} {s : Nat} {x v : Int32} (h : hi F F') (hs : s < 8) : hi F (cAs F' s x v) := by
  unfold cAs
  exact hi_up (hi_up (hi_up (hi_cAs0 h hs) (by omega)) (by omega)) (by omega)
theorem hi_cCa {F F' : zFt} {s g : Nat} (h : hi F F') (hs : s < 8) : hi F (cCa F' s g) := hi_up (hi_cKt h) (by omega)
theorem hi_cFl {F : zFt} : ∀ (n : Nat) (F' : zFt) (k r c : Int32), hi F F' → F' 2 7 = nI n → n ≤ 8 → hi2 F (cFl n F' k r c)
  | 0, F', k, r, c, h, _, _ => by
    rw [cFl]
    exact h
  | n + 1, F', k, r, c, h, h7, h8 => by
    have e1 : cF1 F' k r c 2 7 = nI (n + 1) := by rw [cF1, cAd_ne F' k r c _ _ _ (by omega) (by omega), h7]
    have e2 : nI (n + 1) - 1 = nI n := nI_pred n
    have ec : cIn (cF1 F' k r c) = n := by rw [cIn, e1, e2, zn_nI (by omega)]
    rw [cFl]
    split
    · rw [ec]
      exact hi2_mk (hi_up (hi_cCa (hi_cAd h) (by omega)) (by omega))
    · refine hi_cFl n _ _ _ _ (hi_cDr (hi_cSp (hi_cAd h))) ?_ (by omega)
      rw [cFd, cDr, zup_ap, if_pos ⟨rfl, rfl⟩, cSp_ne _ _ _ (by omega) (by omega), e1, e2]
theorem hi_cOf {F F' : zFt} {s : Nat} {m : Int32} (h : hi F F') (h7 : F' 2 7 = nI (zn (F' 2 7))) (h8 : zn (F' 2 7) ≤ 8) : ∀ (n a : Nat), hi2 F (cOf F' s m n a)
  | 0, _ => h
  | n + 1, a => by
    rw [cOf]
    exact hi2_if (fun _ => hi_cOf h h7 h8 n (a + 1)) (fun _ => hi2_if (fun _ => hi_cOf h h7 h8 n (a + 1)) (fun _ => hi_cFl _ _ _ _ _ h h7 h8))
theorem hi_oCo {F F' : zFt} {m : Int32} (c : CI F) (h : hi F F') (e7 : F' 2 7 = F 2 7) : hi2 F (oCo F' m) := by
  have h7 := c.2.2.2.2.2.2.1
  exact hi_cOf h (by rw [e7]; exact (vin_nI h7).symm) (by rw [e7]; exact vin_le1 h7) _ _
theorem cIn8 {F : zFt} (c : CI F) (h0 : ¬ F 2 7 = 0) : cIn F < 8 := by
  obtain ⟨n, hn, -⟩ := CI_st c h0
  have := CI_n c hn
  omega
theorem cAs_27 {F : zFt} {s : Nat} {x v : Int32} : cAs F s x v 2 7 = F 2 7 := by
  rw [cAs, zup_ap, if_neg (by omega), zup_ap, if_neg (by omega), zup_ap, if_neg (by omega), cAs0]
  split
  · rfl
  · rw [zup_ap, if_neg (by omega), cRm_ne F s _ (by omega) (by omega)]
theorem lo_nCo {F F' : zFt} {i : Nat} (h : lo F F') : lo F (nCo F' i) := lo_ne h (fun k j hk => nCo_ne F' i (by omega) (by omega) (by omega) j)
theorem lo_nGo {F F' : zFt} {m : Int32} (h : lo F F') : lo F (nGo F' m) := lo_ne h (fun k j hk => nGo_ne F' m (by omega) (by omega) (by omega) j (by omega))
theorem lo_nNo {F F' : zFt} {a b c u : Int32} (h : lo F F') : lo F (nNo F' a b c u) := lo_ne h (fun k j hk => nNo_ne F' a b c u (by omega) (by omega))
theorem lo_nSp {F F' : zFt} {q : Int32} {a : Nat} (h : lo F F') : lo F (nSp F' q a) := lo_ne h (fun k j hk => nSp_ne F' q (by omega) (by omega) a)
theorem lo_nCm {F F' : zFt} {x y : Int32} (h : lo F F') : lo F (nCm F' x y) := lo_ne h (fun k j hk => nCm_ne F' x y (by omega) (by omega) (by omega) (by omega) (by omega))
theorem lo_nSv {F F' : zFt} {s : Nat} {x : Int32} (h : lo F F') : lo F (nSv F' s x) := lo_ne h (fun k j hk => nSv_ne F' s x (by omega) (by omega) (by omega) j)
theorem lo_nKp {F F' : zFt} {x : Int32} (h : lo F F') : lo F (nKp F' x) := lo_ne h (fun k j hk => nKp_ne F' x (by omega) (by omega) (by omega))
theorem lo_nEo {F F' : zFt} {a : Nat} (h : lo F F') : lo2 F (nEo F' a) := lo_ne h (fun k j hk => nEo_ne F' (by omega) (by omega) (by omega) a)
theorem lo_nTa {F F' : zFt} (h : lo F F') : lo F (nTa F') := lo_ne h (fun k j hk => nTa_ne F' (by omega) (by omega) j)
theorem lo_cp {F F' : zFt} {d s n : Nat} (h : lo F F') (hd : 75 ≤ d) : lo F (zcp F' d s n) := lo_ne h (fun k j hk => zcp_ne F' (by omega))
theorem lo_nSh {F F' : zFt} {c : Int32} {a : Nat} (h : lo F F') : lo F (nSh F' c a) := by
  unfold nSh
  exact lo_up (lo_fl h (by omega)) (by omega)
theorem lo_nDr {F F' : zFt} {n : Nat} (h : lo F F') : lo F (nDr F' n) := lo_nGo (lo_up h (by omega))
theorem lo_nCa {F F' : zFt} {s g : Nat} (h : lo F F') : lo F (nCa F' s g) := lo_nGo (lo_up (lo_up h (by omega)) (by omega))
theorem lo_nFl {F : zFt} : ∀ (n : Nat) (F' : zFt) (k q : Int32), lo F F' → lo2 F (nFl n F' k q)
  | 0, F', k, q, h => by
    rw [nFl]
    exact h
  | n + 1, F', k, q, h => by
    rw [nFl]
    split
    · exact lo2_mk (lo_nCa h)
    · exact lo2_if (fun _ => lo2_mk (lo_nDr (lo_nSp h))) (fun _ => lo_nFl n _ _ _ (lo_nNo (lo_nDr (lo_nSp h))))
theorem lo_nJg {F F' : zFt} {m : Int32} (h : lo F F') : ∀ (n a : Nat), lo2 F (nJg F' m n a)
  | 0, _ => h
  | n + 1, a => by
    rw [nJg]
    exact lo2_if (fun _ => lo_nJg h n (a + 1)) (fun _ => lo2_if (fun _ => lo_nJg h n (a + 1)) (fun _ => lo_nFl _ _ _ _ (lo_nNo h)))
/-! every call -/
theorem hPShow {F G : zFt} {m : Nat} (h : RI F G m) (s m : Int32) : hi2 F (pShow F s m) := by
  unfold pShow
  repeat' (first | with_reducible refine hi2_if (fun _ => ?_) (fun _ => ?_) | with_reducible refine hi2_mk ?_ | with_reducible exact hi_r _ | with_reducible refine hi_cSc ?_ | with_reducible refine hi_cRk ?_ | with_reducible refine hi_cTF ?_ | with_reducible refine hi_cDr ?_ | with_reducible refine hi_cAe ?_ | with_reducible refine hi_cKt ?_ | with_reducible refine hi_fl ?_ ?_ | with_reducible refine hi_if ?_ ?_ | with_reducible refine hi_up ?_ ?_ | omega)
theorem lQShow (F : zFt) (s m : Int32) : lo2 F (qShow F s m) := by
  unfold qShow
  repeat' (first | with_reducible refine lo2_if (fun _ => ?_) (fun _ => ?_) | with_reducible refine lo2_mk ?_ | with_reducible exact lo_r _ | with_reducible refine lo_nTa ?_ | with_reducible refine lo_nSh ?_ | with_reducible refine lo_nCm ?_ | with_reducible refine lo_nSv ?_ | with_reducible refine lo_nKp ?_ | with_reducible refine lo_nGo ?_ | with_reducible refine lo_cp ?_ ?_ | with_reducible refine lo_up ?_ ?_ | omega)
theorem hPEntry {F G : zFt} {m : Nat} (h : RI F G m) (c : Int32) : hi2 F (pEntry F c) := by
  unfold pEntry
  repeat' (first | with_reducible refine hi2_if (fun _ => ?_) (fun _ => ?_) | with_reducible refine hi2_mk ?_ | with_reducible exact hi_r _ | with_reducible refine hi_cSc ?_ | with_reducible refine hi_cRk ?_ | with_reducible refine hi_cTF ?_ | with_reducible refine hi_cDr ?_ | with_reducible refine hi_cAe ?_ | with_reducible refine hi_cKt ?_ | with_reducible refine hi_fl ?_ ?_ | with_reducible refine hi_if ?_ ?_ | with_reducible refine hi_up ?_ ?_ | omega)
theorem lQEntry (F : zFt) (c : Int32) : lo2 F (qEntry F c) := by
  unfold qEntry
  repeat' (first | with_reducible refine lo2_if (fun _ => ?_) (fun _ => ?_) | with_reducible refine lo2_mk ?_ | with_reducible exact lo_r _ | with_reducible refine lo_nTa ?_ | with_reducible refine lo_nSh ?_ | with_reducible refine lo_nCm ?_ | with_reducible refine lo_nSv ?_ | with_reducible refine lo_nKp ?_ | with_reducible refine lo_nGo ?_ | with_reducible refine lo_cp ?_ ?_ | with_reducible refine lo_up ?_ ?_ | omega)
theorem hPPrizes {F G : zFt} {m : Nat} (h : RI F G m) (c x y z : Int32) : hi2 F (pPrizes F c x y z) := by
  unfold pPrizes
  repeat' (first | with_reducible refine hi2_if (fun _ => ?_) (fun _ => ?_) | with_reducible refine hi2_mk ?_ | with_reducible exact hi_r _ | with_reducible refine hi_cSc ?_ | with_reducible refine hi_cRk ?_ | with_reducible refine hi_cTF ?_ | with_reducible refine hi_cDr ?_ | with_reducible refine hi_cAe ?_ | with_reducible refine hi_cKt ?_ | with_reducible refine hi_fl ?_ ?_ | with_reducible refine hi_if ?_ ?_ | with_reducible refine hi_up ?_ ?_ | omega)
theorem lQPrizes (F : zFt) (c x y z : Int32) : lo2 F (qPrizes F c x y z) := by
  unfold qPrizes
  repeat' (first | with_reducible refine lo2_if (fun _ => ?_) (fun _ => ?_) | with_reducible refine lo2_mk ?_ | with_reducible exact lo_r _ | with_reducible refine lo_nTa ?_ | with_reducible refine lo_nSh ?_ | with_reducible refine lo_nCm ?_ | with_reducible refine lo_nSv ?_ | with_reducible refine lo_nKp ?_ | with_reducible refine lo_nGo ?_ | with_reducible refine lo_cp ?_ ?_ | with_reducible refine lo_up ?_ ?_ | omega)
theorem hPRule {F G : zFt} {m : Nat} (h : RI F G m) (x y z : Int32) : hi2 F (pRule F x y z) := by
  unfold pRule
  repeat' (first | with_reducible refine hi2_if (fun _ => ?_) (fun _ => ?_) | with_reducible refine hi2_mk ?_ | with_reducible exact hi_r _ | with_reducible refine hi_cSc ?_ | with_reducible refine hi_cRk ?_ | with_reducible refine hi_cTF ?_ | with_reducible refine hi_cDr ?_ | with_reducible refine hi_cAe ?_ | with_reducible refine hi_cKt ?_ | with_reducible refine hi_fl ?_ ?_ | with_reducible refine hi_if ?_ ?_ | with_reducible refine hi_up ?_ ?_ | omega)
theorem lQRule (F : zFt) (x y z : Int32) : lo2 F (qRule F x y z) := by
  unfold qRule
  repeat' (first | with_reducible refine lo2_if (fun _ => ?_) (fun _ => ?_) | with_reducible refine lo2_mk ?_ | with_reducible exact lo_r _ | with_reducible refine lo_nTa ?_ | with_reducible refine lo_nSh ?_ | with_reducible refine lo_nCm ?_ | with_reducible refine lo_nSv ?_ | with_reducible refine lo_nKp ?_ | with_reducible refine lo_nGo ?_ | with_reducible refine lo_cp ?_ ?_ | with_reducible refine lo_up ?_ ?_ | omega)
theorem hPClear {F G : zFt} {m : Nat} (h : RI F G m) : hi2 F (pClear F) := by
  unfold pClear
  repeat' (first | with_reducible refine hi2_if (fun _ => ?_) (fun _ => ?_) | with_reducible refine hi2_mk ?_ | with_reducible exact hi_r _ | with_reducible refine hi_cSc ?_ | with_reducible refine hi_cRk ?_ | with_reducible refine hi_cTF ?_ | with_reducible refine hi_cDr ?_ | with_reducible refine hi_cAe ?_ | with_reducible refine hi_cKt ?_ | with_reducible refine hi_fl ?_ ?_ | with_reducible refine hi_if ?_ ?_ | with_reducible refine hi_up ?_ ?_ | omega)
theorem lQClear (F : zFt) : lo2 F (qClear F) := by
  unfold qClear
  repeat' (first | with_reducible refine lo2_if (fun _ => ?_) (fun _ => ?_) | with_reducible refine lo2_mk ?_ | with_reducible exact lo_r _ | with_reducible refine lo_nTa ?_ | with_reducible refine lo_nSh ?_ | with_reducible refine lo_nCm ?_ | with_reducible refine lo_nSv ?_ | with_reducible refine lo_nKp ?_ | with_reducible refine lo_nGo ?_ | with_reducible refine lo_cp ?_ ?_ | with_reducible refine lo_up ?_ ?_ | omega)
theorem hPObs {F G : zFt} {m : Nat} (h : RI F G m) (x : Int32) : hi2 F (pObs F x) := by
  unfold pObs
  repeat' (first | with_reducible refine hi2_if (fun _ => ?_) (fun _ => ?_) | with_reducible refine hi2_mk ?_ | with_reducible exact hi_r _ | with_reducible refine hi_cSc ?_ | with_reducible refine hi_cRk ?_ | with_reducible refine hi_cTF ?_ | with_reducible refine hi_cDr ?_ | with_reducible refine hi_cAe ?_ | with_reducible refine hi_cKt ?_ | with_reducible refine hi_fl ?_ ?_ | with_reducible refine hi_if ?_ ?_ | with_reducible refine hi_up ?_ ?_ | omega)
theorem lQObs (F : zFt) (x : Int32) : lo2 F (qObs F x) := by
  unfold qObs
  repeat' (first | with_reducible refine lo2_if (fun _ => ?_) (fun _ => ?_) | with_reducible refine lo2_mk ?_ | with_reducible exact lo_r _ | with_reducible refine lo_nTa ?_ | with_reducible refine lo_nSh ?_ | with_reducible refine lo_nCm ?_ | with_reducible refine lo_nSv ?_ | with_reducible refine lo_nKp ?_ | with_reducible refine lo_nGo ?_ | with_reducible refine lo_cp ?_ ?_ | with_reducible refine lo_up ?_ ?_ | omega)
theorem hPBegin {F G : zFt} {m : Nat} (h : RI F G m) (j e : Int32) : hi2 F (pBegin F j e) := by
  unfold pBegin
  refine hi2_if (fun _ => hi_r F) (fun _ => hi2_if (fun _ => hi_r F) (fun _ => hi2_if (fun _ => hi2_if (fun _ => hi2_if (fun q => hi2_mk ?_) (fun _ => hi_r F)) (fun _ => hi_r F)) (fun _ => hi_r F)))
  have h8 : zn (F 2 7) < 8 := vin_zn (lt_vin (vin_0 h.1.2.2.2.2.2.2.1) q (by decide))
  exact hi_up (hi_up (hi_up (hi_up (hi_up (hi_up (hi_r F) (by omega)) (by omega)) (by omega)) (by omega)) (by omega)) (by omega)
theorem lQBegin (F : zFt) (j e : Int32) : lo2 F (qBegin F j e) := by
  unfold qBegin
  repeat' (first | with_reducible refine lo2_if (fun _ => ?_) (fun _ => ?_) | with_reducible refine lo2_mk ?_ | with_reducible exact lo_r _ | with_reducible refine lo_nTa ?_ | with_reducible refine lo_nSh ?_ | with_reducible refine lo_nCm ?_ | with_reducible refine lo_nSv ?_ | with_reducible refine lo_nKp ?_ | with_reducible refine lo_nGo ?_ | with_reducible refine lo_cp ?_ ?_ | with_reducible refine lo_up ?_ ?_ | omega)
theorem hPPoints {F G : zFt} {m : Nat} (h : RI F G m) (x : Int32) : hi2 F (pPoints F x) := by
  unfold pPoints
  exact hi2_if (fun _ => hi_r F) (fun _ => hi2_if (fun _ => hi2_if (fun _ => hi_oCo h.1 (hi_cAe (hi_r F)) (cAe_ne F 0 x (by omega) (by omega) (by omega) (by omega) (by omega) 7 (by omega))) (fun _ => hi_r F)) (fun _ => hi_r F))
theorem lQPoints (F : zFt) (x : Int32) : lo2 F (qPoints F x) := by
  unfold qPoints
  exact lo2_if (fun _ => lo_r F) (fun _ => lo2_if (fun _ => lo_r F) (fun _ => lo2_if (fun _ => lo_r F) (fun _ => lo_nJg (lo_nCm (lo_r F)) _ _)))
theorem hPDeduct {F G : zFt} {m : Nat} (h : RI F G m) (x : Int32) : hi2 F (pDeduct F x) := by
  unfold pDeduct
  repeat' (first | with_reducible refine hi2_if (fun _ => ?_) (fun _ => ?_) | with_reducible refine hi2_mk ?_ | with_reducible exact hi_r _ | with_reducible refine hi_cSc ?_ | with_reducible refine hi_cRk ?_ | with_reducible refine hi_cTF ?_ | with_reducible refine hi_cDr ?_ | with_reducible refine hi_cAe ?_ | with_reducible refine hi_cKt ?_ | with_reducible refine hi_fl ?_ ?_ | with_reducible refine hi_if ?_ ?_ | with_reducible refine hi_up ?_ ?_ | omega)
theorem lQDeduct (F : zFt) (x : Int32) : lo2 F (qDeduct F x) := by
  unfold qDeduct
  repeat' (first | with_reducible refine lo2_if (fun _ => ?_) (fun _ => ?_) | with_reducible refine lo2_mk ?_ | with_reducible exact lo_r _ | with_reducible refine lo_nTa ?_ | with_reducible refine lo_nSh ?_ | with_reducible refine lo_nCm ?_ | with_reducible refine lo_nSv ?_ | with_reducible refine lo_nKp ?_ | with_reducible refine lo_nGo ?_ | with_reducible refine lo_cp ?_ ?_ | with_reducible refine lo_up ?_ ?_ | omega)
theorem hPRemark {F G : zFt} {m : Nat} (h : RI F G m) (x : Int32) : hi2 F (pRemark F x) := by
  unfold pRemark
  repeat' (first | with_reducible refine hi2_if (fun _ => ?_) (fun _ => ?_) | with_reducible refine hi2_mk ?_ | with_reducible exact hi_r _ | with_reducible refine hi_cSc ?_ | with_reducible refine hi_cRk ?_ | with_reducible refine hi_cTF ?_ | with_reducible refine hi_cDr ?_ | with_reducible refine hi_cAe ?_ | with_reducible refine hi_cKt ?_ | with_reducible refine hi_fl ?_ ?_ | with_reducible refine hi_if ?_ ?_ | with_reducible refine hi_up ?_ ?_ | omega)
theorem lQRemark (F : zFt) (x : Int32) : lo2 F (qRemark F x) := by
  unfold qRemark
  repeat' (first | with_reducible refine lo2_if (fun _ => ?_) (fun _ => ?_) | with_reducible refine lo2_mk ?_ | with_reducible exact lo_r _ | with_reducible refine lo_nTa ?_ | with_reducible refine lo_nSh ?_ | with_reducible refine lo_nCm ?_ | with_reducible refine lo_nSv ?_ | with_reducible refine lo_nKp ?_ | with_reducible refine lo_nGo ?_ | with_reducible refine lo_cp ?_ ?_ | with_reducible refine lo_up ?_ ?_ | omega)
theorem hPSave {F G : zFt} {m : Nat} (h : RI F G m) (x : Int32) : hi2 F (pSave F x) := by
  unfold pSave
  exact hi2_if (fun _ => hi_r F) (fun _ => hi2_if (fun q => hi_oCo h.1 (hi_cAs (hi_r F) (cIn8 h.1 q)) cAs_27) (fun _ => hi_r F))
theorem lQSave (F : zFt) (x : Int32) : lo2 F (qSave F x) := by
  unfold qSave
  exact lo2_if (fun _ => lo_r F) (fun _ => lo2_if (fun _ => lo_r F) (fun _ => lo_nJg (lo_nSv (lo_r F)) _ _))
theorem hPBack {F G : zFt} {m : Nat} (h : RI F G m) (x : Int32) : hi2 F (pBack F x) := by
  unfold pBack
  refine hi2_if (fun _ => hi_r F) (fun _ => hi2_if (fun q => hi2_mk ?_) (fun _ => hi_r F))
  have h8 : cIn F < 8 := cIn8 h.1 (fun w => by rw [(na_0 h w x).2] at q; exact absurd q (by decide))
  exact hi_up (hi_cKt (hi_r F)) (by omega)
theorem lQBack (F : zFt) (x : Int32) : lo2 F (qBack F x) := by
  unfold qBack
  exact lo2_if (fun _ => lo_r F) (fun _ => lo2_if (fun _ => lo_r F) (fun _ => lo2_mk (lo_nGo (lo_up (lo_r F) (by omega)))))
theorem hPRelease {F G : zFt} {m : Nat} (h : RI F G m) (x : Int32) : hi2 F (pRelease F x) := by
  unfold pRelease
  refine hi2_if (fun _ => hi_r F) (fun _ => hi2_if (fun q => hi2_mk ?_) (fun _ => hi_r F))
  have h8 : cIn F < 8 := cIn8 h.1 (fun w => by rw [(na_0 h w x).2] at q; exact absurd q (by decide))
  exact hi_up (hi_r F) (by omega)
theorem lQRelease (F : zFt) (x : Int32) : lo2 F (qRelease F x) := by
  unfold qRelease
  repeat' (first | with_reducible refine lo2_if (fun _ => ?_) (fun _ => ?_) | with_reducible refine lo2_mk ?_ | with_reducible exact lo_r _ | with_reducible refine lo_nTa ?_ | with_reducible refine lo_nSh ?_ | with_reducible refine lo_nCm ?_ | with_reducible refine lo_nSv ?_ | with_reducible refine lo_nKp ?_ | with_reducible refine lo_nGo ?_ | with_reducible refine lo_cp ?_ ?_ | with_reducible refine lo_up ?_ ?_ | omega)
theorem hPGuard {F G : zFt} {m : Nat} (h : RI F G m) (x y : Int32) : hi2 F (pGuard F x y) := by
  unfold pGuard
  refine hi2_if (fun _ => hi_r F) (fun _ => hi2_if (fun _ => hi_r F) (fun _ => hi2_if (fun q => hi2_if (fun _ => hi2_mk ?_) (fun _ => hi_r F)) (fun _ => hi_r F)))
  have h8 : cIn F < 8 := cIn8 h.1 q
  exact hi_up (hi_up (hi_up (hi_r F) (by omega)) (by omega)) (by omega)
theorem lQGuard (F : zFt) (x y : Int32) : lo2 F (qGuard F x y) := by
  unfold qGuard
  repeat' (first | with_reducible refine lo2_if (fun _ => ?_) (fun _ => ?_) | with_reducible refine lo2_mk ?_ | with_reducible exact lo_r _ | with_reducible refine lo_nTa ?_ | with_reducible refine lo_nSh ?_ | with_reducible refine lo_nCm ?_ | with_reducible refine lo_nSv ?_ | with_reducible refine lo_nKp ?_ | with_reducible refine lo_nGo ?_ | with_reducible refine lo_cp ?_ ?_ | with_reducible refine lo_up ?_ ?_ | omega)
theorem hPEnd {F G : zFt} {m : Nat} (h : RI F G m) : hi2 F (pEnd F) := by
  unfold pEnd
  exact hi2_if (fun _ => hi2_if (fun _ => hi2_if (fun _ => hi2_mk (hi_up (hi_r F) (by omega))) (fun _ => hi_cFa (hi_up (hi_up (hi_up (hi_up (hi_up (hi_r F) (by omega)) (by omega)) (by omega)) (by omega)) (by omega)))) (fun _ => hi_oCo h.1 (hi_r F) rfl)) (fun _ => hi_r F)
theorem lQEnd (F : zFt) : lo2 F (qEnd F) := by
  unfold qEnd
  exact lo2_if (fun _ => lo_r F) (fun _ => lo2_if (fun _ => lo2_if (fun _ => lo_nEo (lo_nKp (lo_up (lo_up (lo_r F) (by omega)) (by omega)))) (fun _ => lo2_mk (lo_up (lo_r F) (by omega)))) (fun _ => lo_nJg (lo_r F) _ _))
theorem hPDrop {F G : zFt} {m : Nat} (h : RI F G m) : hi2 F (pDrop F) := by
  unfold pDrop
  repeat' (first | with_reducible refine hi2_if (fun _ => ?_) (fun _ => ?_) | with_reducible refine hi2_mk ?_ | with_reducible exact hi_r _ | with_reducible refine hi_cSc ?_ | with_reducible refine hi_cRk ?_ | with_reducible refine hi_cTF ?_ | with_reducible refine hi_cDr ?_ | with_reducible refine hi_cAe ?_ | with_reducible refine hi_cKt ?_ | with_reducible refine hi_fl ?_ ?_ | with_reducible refine hi_if ?_ ?_ | with_reducible refine hi_up ?_ ?_ | omega)
theorem lQDrop (F : zFt) : lo2 F (qDrop F) := by
  unfold qDrop
  exact lo2_if (fun _ => lo_r F) (fun _ => lo2_mk (lo_nDr (lo_r F)))
theorem hPDepth {F G : zFt} {m : Nat} (h : RI F G m) : hi2 F (pDepth F) := by
  unfold pDepth
  repeat' (first | with_reducible refine hi2_if (fun _ => ?_) (fun _ => ?_) | with_reducible refine hi2_mk ?_ | with_reducible exact hi_r _ | with_reducible refine hi_cSc ?_ | with_reducible refine hi_cRk ?_ | with_reducible refine hi_cTF ?_ | with_reducible refine hi_cDr ?_ | with_reducible refine hi_cAe ?_ | with_reducible refine hi_cKt ?_ | with_reducible refine hi_fl ?_ ?_ | with_reducible refine hi_if ?_ ?_ | with_reducible refine hi_up ?_ ?_ | omega)
theorem lQDepth (F : zFt) : lo2 F (qDepth F) := by
  unfold qDepth
  repeat' (first | with_reducible refine lo2_if (fun _ => ?_) (fun _ => ?_) | with_reducible refine lo2_mk ?_ | with_reducible exact lo_r _ | with_reducible refine lo_nTa ?_ | with_reducible refine lo_nSh ?_ | with_reducible refine lo_nCm ?_ | with_reducible refine lo_nSv ?_ | with_reducible refine lo_nKp ?_ | with_reducible refine lo_nGo ?_ | with_reducible refine lo_cp ?_ ?_ | with_reducible refine lo_up ?_ ?_ | omega)
theorem hPScoring {F G : zFt} {m : Nat} (h : RI F G m) (i w : Int32) : hi2 F (pScoring F i w) := by
  unfold pScoring
  repeat' (first | with_reducible refine hi2_if (fun _ => ?_) (fun _ => ?_) | with_reducible refine hi2_mk ?_ | with_reducible exact hi_r _ | with_reducible refine hi_cSc ?_ | with_reducible refine hi_cRk ?_ | with_reducible refine hi_cTF ?_ | with_reducible refine hi_cDr ?_ | with_reducible refine hi_cAe ?_ | with_reducible refine hi_cKt ?_ | with_reducible refine hi_fl ?_ ?_ | with_reducible refine hi_if ?_ ?_ | with_reducible refine hi_up ?_ ?_ | omega)
theorem lQScoring (F : zFt) (i w : Int32) : lo2 F (qScoring F i w) := by
  unfold qScoring
  repeat' (first | with_reducible refine lo2_if (fun _ => ?_) (fun _ => ?_) | with_reducible refine lo2_mk ?_ | with_reducible exact lo_r _ | with_reducible refine lo_nTa ?_ | with_reducible refine lo_nSh ?_ | with_reducible refine lo_nCm ?_ | with_reducible refine lo_nSv ?_ | with_reducible refine lo_nKp ?_ | with_reducible refine lo_nGo ?_ | with_reducible refine lo_cp ?_ ?_ | with_reducible refine lo_up ?_ ?_ | omega)
theorem hPTold {F G : zFt} {m : Nat} (h : RI F G m) (e w : Int32) : hi2 F (pTold F e w) := by
  unfold pTold
  repeat' (first | with_reducible refine hi2_if (fun _ => ?_) (fun _ => ?_) | with_reducible refine hi2_mk ?_ | with_reducible exact hi_r _ | with_reducible refine hi_cSc ?_ | with_reducible refine hi_cRk ?_ | with_reducible refine hi_cTF ?_ | with_reducible refine hi_cDr ?_ | with_reducible refine hi_cAe ?_ | with_reducible refine hi_cKt ?_ | with_reducible refine hi_fl ?_ ?_ | with_reducible refine hi_if ?_ ?_ | with_reducible refine hi_up ?_ ?_ | omega)
theorem lQTold (F : zFt) (e w : Int32) : lo2 F (qTold F e w) := by
  unfold qTold
  repeat' (first | with_reducible refine lo2_if (fun _ => ?_) (fun _ => ?_) | with_reducible refine lo2_mk ?_ | with_reducible exact lo_r _ | with_reducible refine lo_nTa ?_ | with_reducible refine lo_nSh ?_ | with_reducible refine lo_nCm ?_ | with_reducible refine lo_nSv ?_ | with_reducible refine lo_nKp ?_ | with_reducible refine lo_nGo ?_ | with_reducible refine lo_cp ?_ ?_ | with_reducible refine lo_up ?_ ?_ | omega)
theorem hPMark {F G : zFt} {m : Nat} (h : RI F G m) (e j : Int32) : hi2 F (pMark F e j) := by
  unfold pMark
  repeat' (first | with_reducible refine hi2_if (fun _ => ?_) (fun _ => ?_) | with_reducible refine hi2_mk ?_ | with_reducible exact hi_r _ | with_reducible refine hi_cSc ?_ | with_reducible refine hi_cRk ?_ | with_reducible refine hi_cTF ?_ | with_reducible refine hi_cDr ?_ | with_reducible refine hi_cAe ?_ | with_reducible refine hi_cKt ?_ | with_reducible refine hi_fl ?_ ?_ | with_reducible refine hi_if ?_ ?_ | with_reducible refine hi_up ?_ ?_ | omega)
theorem lQMark (F : zFt) (e j : Int32) : lo2 F (qMark F e j) := by
  unfold qMark
  repeat' (first | with_reducible refine lo2_if (fun _ => ?_) (fun _ => ?_) | with_reducible refine lo2_mk ?_ | with_reducible exact lo_r _ | with_reducible refine lo_nTa ?_ | with_reducible refine lo_nSh ?_ | with_reducible refine lo_nCm ?_ | with_reducible refine lo_nSv ?_ | with_reducible refine lo_nKp ?_ | with_reducible refine lo_nGo ?_ | with_reducible refine lo_cp ?_ ?_ | with_reducible refine lo_up ?_ ?_ | omega)
theorem hPPlace {F G : zFt} {m : Nat} (h : RI F G m) (c x : Int32) : hi2 F (pPlace F c x) := by
  unfold pPlace
  repeat' (first | with_reducible refine hi2_if (fun _ => ?_) (fun _ => ?_) | with_reducible refine hi2_mk ?_ | with_reducible exact hi_r _ | with_reducible refine hi_cSc ?_ | with_reducible refine hi_cRk ?_ | with_reducible refine hi_cTF ?_ | with_reducible refine hi_cDr ?_ | with_reducible refine hi_cAe ?_ | with_reducible refine hi_cKt ?_ | with_reducible refine hi_fl ?_ ?_ | with_reducible refine hi_if ?_ ?_ | with_reducible refine hi_up ?_ ?_ | omega)
theorem lQPlace (F : zFt) (c x : Int32) : lo2 F (qPlace F c x) := by
  unfold qPlace
  repeat' (first | with_reducible refine lo2_if (fun _ => ?_) (fun _ => ?_) | with_reducible refine lo2_mk ?_ | with_reducible exact lo_r _ | with_reducible refine lo_nTa ?_ | with_reducible refine lo_nSh ?_ | with_reducible refine lo_nCm ?_ | with_reducible refine lo_nSv ?_ | with_reducible refine lo_nKp ?_ | with_reducible refine lo_nGo ?_ | with_reducible refine lo_cp ?_ ?_ | with_reducible refine lo_up ?_ ?_ | omega)
theorem hPClose {F G : zFt} {m : Nat} (h : RI F G m) (c : Int32) : hi2 F (pClose F c) := by
  unfold pClose
  repeat' (first | with_reducible refine hi2_if (fun _ => ?_) (fun _ => ?_) | with_reducible refine hi2_mk ?_ | with_reducible exact hi_r _ | with_reducible refine hi_cSc ?_ | with_reducible refine hi_cRk ?_ | with_reducible refine hi_cTF ?_ | with_reducible refine hi_cDr ?_ | with_reducible refine hi_cAe ?_ | with_reducible refine hi_cKt ?_ | with_reducible refine hi_fl ?_ ?_ | with_reducible refine hi_if ?_ ?_ | with_reducible refine hi_up ?_ ?_ | omega)
theorem lQClose (F : zFt) (c : Int32) : lo2 F (qClose F c) := by
  unfold qClose
  repeat' (first | with_reducible refine lo2_if (fun _ => ?_) (fun _ => ?_) | with_reducible refine lo2_mk ?_ | with_reducible exact lo_r _ | with_reducible refine lo_nTa ?_ | with_reducible refine lo_nSh ?_ | with_reducible refine lo_nCm ?_ | with_reducible refine lo_nSv ?_ | with_reducible refine lo_nKp ?_ | with_reducible refine lo_nGo ?_ | with_reducible refine lo_cp ?_ ?_ | with_reducible refine lo_up ?_ ?_ | omega)
theorem hPAbout {F G : zFt} {m : Nat} (h : RI F G m) (c w : Int32) : hi2 F (pAbout F c w) := by
  unfold pAbout
  repeat' (first | with_reducible refine hi2_if (fun _ => ?_) (fun _ => ?_) | with_reducible refine hi2_mk ?_ | with_reducible exact hi_r _ | with_reducible refine hi_cSc ?_ | with_reducible refine hi_cRk ?_ | with_reducible refine hi_cTF ?_ | with_reducible refine hi_cDr ?_ | with_reducible refine hi_cAe ?_ | with_reducible refine hi_cKt ?_ | with_reducible refine hi_fl ?_ ?_ | with_reducible refine hi_if ?_ ?_ | with_reducible refine hi_up ?_ ?_ | omega)
theorem lQAbout (F : zFt) (c w : Int32) : lo2 F (qAbout F c w) := by
  unfold qAbout
  repeat' (first | with_reducible refine lo2_if (fun _ => ?_) (fun _ => ?_) | with_reducible refine lo2_mk ?_ | with_reducible exact lo_r _ | with_reducible refine lo_nTa ?_ | with_reducible refine lo_nSh ?_ | with_reducible refine lo_nCm ?_ | with_reducible refine lo_nSv ?_ | with_reducible refine lo_nKp ?_ | with_reducible refine lo_nGo ?_ | with_reducible refine lo_cp ?_ ?_ | with_reducible refine lo_up ?_ ?_ | omega)
theorem hPUphold {F G : zFt} {m : Nat} (h : RI F G m) (i : Int32) : hi2 F (pUphold F i) := by
  unfold pUphold
  repeat' (first | with_reducible refine hi2_if (fun _ => ?_) (fun _ => ?_) | with_reducible refine hi2_mk ?_ | with_reducible exact hi_r _ | with_reducible refine hi_cSc ?_ | with_reducible refine hi_cRk ?_ | with_reducible refine hi_cTF ?_ | with_reducible refine hi_cDr ?_ | with_reducible refine hi_cAe ?_ | with_reducible refine hi_cKt ?_ | with_reducible refine hi_fl ?_ ?_ | with_reducible refine hi_if ?_ ?_ | with_reducible refine hi_up ?_ ?_ | omega)
theorem lQUphold (F : zFt) (i : Int32) : lo2 F (qUphold F i) := by
  unfold qUphold
  repeat' (first | with_reducible refine lo2_if (fun _ => ?_) (fun _ => ?_) | with_reducible refine lo2_mk ?_ | with_reducible exact lo_r _ | with_reducible refine lo_nTa ?_ | with_reducible refine lo_nSh ?_ | with_reducible refine lo_nCm ?_ | with_reducible refine lo_nSv ?_ | with_reducible refine lo_nKp ?_ | with_reducible refine lo_nGo ?_ | with_reducible refine lo_cp ?_ ?_ | with_reducible refine lo_up ?_ ?_ | omega)
theorem hPEvent {F G : zFt} {m : Nat} (h : RI F G m) (i w : Int32) : hi2 F (pEvent F i w) := by
  unfold pEvent
  repeat' (first | with_reducible refine hi2_if (fun _ => ?_) (fun _ => ?_) | with_reducible refine hi2_mk ?_ | with_reducible exact hi_r _ | with_reducible refine hi_cSc ?_ | with_reducible refine hi_cRk ?_ | with_reducible refine hi_cTF ?_ | with_reducible refine hi_cDr ?_ | with_reducible refine hi_cAe ?_ | with_reducible refine hi_cKt ?_ | with_reducible refine hi_fl ?_ ?_ | with_reducible refine hi_if ?_ ?_ | with_reducible refine hi_up ?_ ?_ | omega)
theorem lQEvent (F : zFt) (i w : Int32) : lo2 F (qEvent F i w) := by
  unfold qEvent
  repeat' (first | with_reducible refine lo2_if (fun _ => ?_) (fun _ => ?_) | with_reducible refine lo2_mk ?_ | with_reducible exact lo_r _ | with_reducible refine lo_nTa ?_ | with_reducible refine lo_nSh ?_ | with_reducible refine lo_nCm ?_ | with_reducible refine lo_nSv ?_ | with_reducible refine lo_nKp ?_ | with_reducible refine lo_nGo ?_ | with_reducible refine lo_cp ?_ ?_ | with_reducible refine lo_up ?_ ?_ | omega)
theorem hPFailure {F G : zFt} {m : Nat} (h : RI F G m) (i w : Int32) : hi2 F (pFailure F i w) := by
  unfold pFailure
  repeat' (first | with_reducible refine hi2_if (fun _ => ?_) (fun _ => ?_) | with_reducible refine hi2_mk ?_ | with_reducible exact hi_r _ | with_reducible refine hi_cSc ?_ | with_reducible refine hi_cRk ?_ | with_reducible refine hi_cTF ?_ | with_reducible refine hi_cDr ?_ | with_reducible refine hi_cAe ?_ | with_reducible refine hi_cKt ?_ | with_reducible refine hi_fl ?_ ?_ | with_reducible refine hi_if ?_ ?_ | with_reducible refine hi_up ?_ ?_ | omega)
theorem lQFailure (F : zFt) (i w : Int32) : lo2 F (qFailure F i w) := by
  unfold qFailure
  repeat' (first | with_reducible refine lo2_if (fun _ => ?_) (fun _ => ?_) | with_reducible refine lo2_mk ?_ | with_reducible exact lo_r _ | with_reducible refine lo_nTa ?_ | with_reducible refine lo_nSh ?_ | with_reducible refine lo_nCm ?_ | with_reducible refine lo_nSv ?_ | with_reducible refine lo_nKp ?_ | with_reducible refine lo_nGo ?_ | with_reducible refine lo_cp ?_ ?_ | with_reducible refine lo_up ?_ ?_ | omega)
theorem hPIs {F G : zFt} {m : Nat} (h : RI F G m) (a b : Int32) : hi2 F (pIs F a b) := by
  unfold pIs
  repeat' (first | with_reducible refine hi2_if (fun _ => ?_) (fun _ => ?_) | with_reducible refine hi2_mk ?_ | with_reducible exact hi_r _ | with_reducible refine hi_cSc ?_ | with_reducible refine hi_cRk ?_ | with_reducible refine hi_cTF ?_ | with_reducible refine hi_cDr ?_ | with_reducible refine hi_cAe ?_ | with_reducible refine hi_cKt ?_ | with_reducible refine hi_fl ?_ ?_ | with_reducible refine hi_if ?_ ?_ | with_reducible refine hi_up ?_ ?_ | omega)
theorem lQIs (F : zFt) (a b : Int32) : lo2 F (qIs F a b) := by
  unfold qIs
  repeat' (first | with_reducible refine lo2_if (fun _ => ?_) (fun _ => ?_) | with_reducible refine lo2_mk ?_ | with_reducible exact lo_r _ | with_reducible refine lo_nTa ?_ | with_reducible refine lo_nSh ?_ | with_reducible refine lo_nCm ?_ | with_reducible refine lo_nSv ?_ | with_reducible refine lo_nKp ?_ | with_reducible refine lo_nGo ?_ | with_reducible refine lo_cp ?_ ?_ | with_reducible refine lo_up ?_ ?_ | omega)
theorem hPUndo {F G : zFt} {m : Nat} (h : RI F G m) : hi2 F (pUndo F) := by
  unfold pUndo
  repeat' (first | with_reducible refine hi2_if (fun _ => ?_) (fun _ => ?_) | with_reducible refine hi2_mk ?_ | with_reducible exact hi_r _ | with_reducible refine hi_cSc ?_ | with_reducible refine hi_cRk ?_ | with_reducible refine hi_cTF ?_ | with_reducible refine hi_cDr ?_ | with_reducible refine hi_cAe ?_ | with_reducible refine hi_cKt ?_ | with_reducible refine hi_fl ?_ ?_ | with_reducible refine hi_if ?_ ?_ | with_reducible refine hi_up ?_ ?_ | omega)
theorem lQUndo (F : zFt) : lo2 F (qUndo F) := by
  unfold qUndo
  repeat' (first | with_reducible refine lo2_if (fun _ => ?_) (fun _ => ?_) | with_reducible refine lo2_mk ?_ | with_reducible exact lo_r _ | with_reducible refine lo_nTa ?_ | with_reducible refine lo_nSh ?_ | with_reducible refine lo_nCm ?_ | with_reducible refine lo_nSv ?_ | with_reducible refine lo_nKp ?_ | with_reducible refine lo_nGo ?_ | with_reducible refine lo_cp ?_ ?_ | with_reducible refine lo_up ?_ ?_ | omega)
theorem hPCount {F G : zFt} {m : Nat} (h : RI F G m) (w : Int32) : hi2 F (pCount F w) := by
  unfold pCount
  repeat' (first | with_reducible refine hi2_if (fun _ => ?_) (fun _ => ?_) | with_reducible refine hi2_mk ?_ | with_reducible exact hi_r _ | with_reducible refine hi_cSc ?_ | with_reducible refine hi_cRk ?_ | with_reducible refine hi_cTF ?_ | with_reducible refine hi_cDr ?_ | with_reducible refine hi_cAe ?_ | with_reducible refine hi_cKt ?_ | with_reducible refine hi_fl ?_ ?_ | with_reducible refine hi_if ?_ ?_ | with_reducible refine hi_up ?_ ?_ | omega)
theorem lQCount (F : zFt) (w : Int32) : lo2 F (qCount F w) := by
  unfold qCount
  repeat' (first | with_reducible refine lo2_if (fun _ => ?_) (fun _ => ?_) | with_reducible refine lo2_mk ?_ | with_reducible exact lo_r _ | with_reducible refine lo_nTa ?_ | with_reducible refine lo_nSh ?_ | with_reducible refine lo_nCm ?_ | with_reducible refine lo_nSv ?_ | with_reducible refine lo_nKp ?_ | with_reducible refine lo_nGo ?_ | with_reducible refine lo_cp ?_ ?_ | with_reducible refine lo_up ?_ ?_ | omega)
