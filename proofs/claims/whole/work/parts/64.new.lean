theorem nbf {a b : Nat} (h : ¬ a = b) : Nat.beq a b = false := by
  cases hx : Nat.beq a b
  · rfl
  · exact absurd (Nat.eq_of_beq_eq_true hx) h
section ZNW
variable {M : zM} {R : Room} {Z : zZt} {pc pc' : Nat} {lo : List (Option Value)} {st : List Value} {N : Nat} {w : zH} {k n : Nat}
theorem zW_new {D : zG} {q : Nat → Nat} {H0 H H1 : Heap} (hq : zqo q) (h : zW D q H0 N w H) (hx : zok D q (q N) (w N) H1) (hz : H1.size = q N + 1) (ho : ∀ b, b < q N → H1[b]? = H[b]?) : zW D q H0 (N + 1) w H1 := by
  obtain ⟨h1, h2, h3, h4, h5⟩ := h
  have eN := zqo_ge hq h1
  have eN1 := zqo_ge hq (show 2 ≤ N + 1 by omega)
  refine ⟨by omega, by omega, fun j hj hjN => ?_, fun b hb => ?_, h5⟩
  · by_cases hjn : j = N
    · subst hjn
      exact hx
    · have ej := zqo_ge hq hj
      exact (h3 j hj (by omega)).kept (ho _ (by omega))
  · rw [ho b (by omega)]
    exact h4 b hb
/-- a new object -/
def zNw (own : String) (idx ci nf : Nat) (ty : Nat → FieldType) : Prop := ∃ r : vw_C, vwCl[ci]? = some r ∧ r.2.2 = nf ∧ ci < 1000 ∧ Cond.classLink own idx r.1 ∈ zT ∧ Cond.instantiable r.1 r.2.2 ∈ zT ∧ Cond.initialized r.1 ∈ zT ∧ (∀ wd ∈ u_ws r.1 r.2.1 r.2.2, wd ∈ zT) ∧ ∀ j, j < r.2.2 → parseFieldDescriptor (r.2.1 j).2.2.1 = some (ty j)
theorem z_new {idx ci nf len : Nat} {g : Nat → Value} {ty : Nat → FieldType} (hi : zIs M pc (.new idx) 3 pc') (hn : zNw M.1.cls idx ci nf ty) (hw : w N = (ci, len, g)) (hg : ∀ q j, j < nf → defaultValue (ty j) = zv q (g j)) (hR : k + 1 ≤ R.cells ∧ n + nf ≤ R.slots) (kk : zEV M R Z pc' lo (.ref N :: st) (N + 1) w (k + 1) (n + nf)) : zEV M R Z pc lo st N w k n := by
  intro p l e s m args below meth c D q H0 C H locs ls HW HC HL
  obtain ⟨hd, rfl⟩ := hi
  obtain ⟨r, hr, rfl, hc1, hcl, hinst, hini, hin, hty⟩ := hn
  have hK := C.2.2.2.2.2.2.2.2
  have hKn := hK.1 ci _ hr
  have hts : ∀ wd ∈ zT, wd.before args s = true := fun wd h => zT_use C h
  refine W.newcK C.1 C.2.1 C.2.2.2.2.1 (zT_use C hcl) (zT_use C hinst) (zT_use C hini) rfl hd hR.1 hR.2 hKn.2.1 HW.2.1 fun H1 kC hkC e1 z1 o1 => ?_
  refine kk p l e s m args below meth c D q H0 C H1 locs ls (zW_new hK.2.2.1 HW ?_ z1 o1) HC HL
  rw [hw]
  refine ⟨fun _ => ⟨r, hr, ?_⟩, fun h9 => absurd h9 (by show ¬ 1000 ≤ ci; omega)⟩
  exact (u_born ty hts hin hKn hkC e1 hty).to (fun j hj => hg q j hj)
theorem arrV_congr (c : ClassId) (len : Nat) {f g : Nat → Value} (h : ∀ j, j < len → f j = g j) : arrV c len f = arrV c len g := by
  unfold arrV
  congr 2
  funext j
  exact h j.val j.isLt
/-- a new row of numbers -/
theorem z_newa {aty : ArrayType} {t len : Nat} {g : Nat → Value} {x : Int32} {ty : FieldType} (hi : zIs M pc (.newarray aty) 2 pc') (ht : newarray.typeOf aty = ty) (hz : zty[t]? = some ty) (hnm : ty = .int ∨ ty = .boolean) (hc : Cond.arrayClass ty ∈ zT) (hw : w N = (1000 + t, len, g)) (hg : ∀ q j, zv q (g j) = .int 0) (hx : ¬ x < 0) (hl : x.toNatClampNeg = len) (hb : len ≤ 100000) (hR : k + 1 ≤ R.cells ∧ n + len ≤ R.slots) (kk : zEV M R Z pc' lo (.ref N :: st) (N + 1) w (k + 1) (n + len)) : zEV M R Z pc lo (.int x :: st) N w k n := by
  intro p l e s m args below meth c D q H0 C H locs ls HW HC HL
  obtain ⟨hd, rfl⟩ := hi
  subst ht
  have hK := C.2.2.2.2.2.2.2.2
  have hA := hK.2.1 t _ hz
  refine va_newaK C.1 C.2.1 (zT_use C hc) rfl hd rfl hx hl (by
    have : componentBytes (newarray.typeOf aty) ≤ 8 := by cases aty <;> decide
    have := Nat.mul_le_mul hb this
    omega) hR.1 hR.2 HW.2.1 fun H1 cA e1 z1 o1 hAr hNm => ?_
  have ec : cA = D.2.2.1 t := by
    have h2 := hA.2
    rcases hnm with q | q <;> rw [q] at hNm h2 <;> exact Option.some.inj (hNm.symm.trans h2)
  subst ec
  refine kk p l e s m args below meth c D q H0 C H1 locs ls (zW_new hK.2.2.1 HW ?_ z1 o1) HC HL
  rw [hw]
  refine zok_arr ?_
  rw [e1]
  refine congrArg some (arrV_congr _ _ fun j _ => ?_)
  rw [hg q j]
  rcases hnm with q | q <;> rw [q] <;> rfl
theorem z_anew {idx len : Nat} {g : Nat → Value} {x : Int32} (hi : zIs M pc (.anewarray idx) 3 pc') (hcl : Cond.classLink M.1.cls idx RX4 ∈ zT) (hw : w N = (1000 + 2, len, g)) (hg : ∀ q j, j < len → zv q (g j) = .null) (hx : ¬ x < 0) (hl : x.toNatClampNeg = len) (hb : len ≤ 100000) (hR : k + 1 ≤ R.cells ∧ n + len ≤ R.slots) (kk : zEV M R Z pc' lo (.ref N :: st) (N + 1) w (k + 1) (n + len)) : zEV M R Z pc lo (.int x :: st) N w k n := by
  intro p l e s m args below meth c D q H0 C H locs ls HW HC HL
  obtain ⟨hd, rfl⟩ := hi
  have hK := C.2.2.2.2.2.2.2.2
  obtain ⟨kA2, comp2, r1, r2, r3, r4⟩ := (hK.2.1 2 (.object RX4) rfl).2
  subst hl
  refine W.anew C.1 C.2.1 C.2.2.2.2.1 (zT_use C hcl) (va_AO.use hK.2.2.2.2.2.2.2.2) rfl hd rfl hx (by omega) hR.1 hR.2 fun cA kA comp f1 f2 f3 f4 => ?_
  have ec : cA = D.2.2.1 2 := Option.some.inj (f1.symm.trans r4)
  subst ec
  generalize hH1 : H.push ({ cls := D.2.2.1 2, slots := Array.replicate x.toNatClampNeg .null, vm := .none } : Cell) = H1
  have e0 : H.size = q N := HW.2.1
  have z1 : H1.size = q N + 1 := by rw [← hH1, Array.size_push, e0]
  have e1 : H1[q N]? = some (arrV (D.2.2.1 2) x.toNatClampNeg (fun _ => .null)) := by rw [← hH1, ← e0, Array.getElem?_push_size, ← arrV_new]
  have o1 : ∀ b : Nat, b < q N → H1[b]? = H[b]? := fun b hb => by rw [← hH1, Array.getElem?_push, if_neg (by omega)]
  have K := kk p l e s m args below meth c D q H0 C H1 locs ls (zW_new hK.2.2.1 HW (by
    rw [hw]
    refine zok_arr ?_
    rw [e1]
    exact congrArg some (arrV_congr _ _ fun j hj => (hg q j hj).symm)) z1 o1) HC HL
  rw [e0]
  exact K
theorem z_aast {a b len len2 : Nat} {g g2 : Nat → Value} {i : Int32} (hi : zIs M pc .aastore 1 pc') (hw : w a = (1000 + 2, len, g)) (ha : 2 ≤ a) (haN : a < N) (hv : w b = (4, len2, g2)) (hb : 2 ≤ b) (hbN : b < N) (hin : vp_in i len) (kk : zEV M R Z pc' lo st N (va_up w a (1000 + 2, len, updV g i.toNatClampNeg (.ref b))) k n) : zEV M R Z pc lo (.ref b :: .int i :: .ref a :: st) N w k n := by
  intro p l e s m args below meth c D q H0 C H locs ls HW HC HL
  obtain ⟨hd, rfl⟩ := hi
  have hK := C.2.2.2.2.2.2.2.2
  have hlt : i.toNatClampNeg < len := Nat.not_le.mp fun q => hin (Or.inr q)
  have h0 : ¬ i < 0 := fun q => hin (Or.inl q)
  have hc := (HW.2.2.1 b hb hbN).1 (by rw [hv]; show 4 < 1000; decide)
  rw [hv] at hc
  obtain ⟨r', hr', cellV, g1, g2', g3, -⟩ := hc
  have er : r' = (RX4, TX4, 9) := Option.some.inj (hr'.symm.trans rfl)
  subst er
  have hcls := (hK.1 4 (RX4, TX4, 9) rfl).2
  obtain ⟨kA, comp, k1, k2, k3, -⟩ := (hK.2.1 2 (.object RX4) rfl).2
  have hcomp : comp = D.1 4 := Option.some.inj (k3.symm.trans hcls.1)
  subst hcomp
  obtain ⟨kC, hkC, -⟩ := hcls.2
  refine W.aast C.1 C.2.1 (z_arr HW hw ha haN) (fun q h => by cases h) (fun h => by cases h) k1 k2 rfl hkC ⟨h0, by rw [arrV_size]; exact hlt⟩ g1 (fun q h => by rw [g3] at h; cases h) (by rw [g2']; exact hkC) (by rw [g2']; exact va_assign hcls) rfl rfl hd fun H1 e1 z1 oq => ?_
  refine kk p l e s m args below meth c D q H0 C H1 _ ls (zW_set hK.2.2.1 HW ha (zok_arr ?_) z1 oq) (zLc_put hK.2.2.1 ha HC) HL
  rw [e1, arrV_store]
  refine congrArg some (arrV_congr _ _ fun j _ => ?_)
  simp only [updV]
  split <;> rfl
end ZNW
/-! the world while it is made: b says which references stand already -/
def zpv (b : Nat → Nat → Bool) (F : zFt) (k i : Nat) : Value := match zrr k i with
  | some r => bif b k i then .ref r else .null
  | none => .int (F k i)
def zP (b : Nat → Nat → Bool) (L : Nat) (F : zFt) : zH := fun k => (zkd.getD k 0, if k = 0 then L else zln.getD k 0, fun i => zpv b F k i)
def zF0 (xs : Nat → Int32) : zFt := fun k i => if k = 0 then xs i else 0
def zbs (b : Nat → Nat → Bool) (a f : Nat) : Nat → Nat → Bool := fun k i => (Nat.beq k a && Nat.beq i f) || b k i
def zbd (b : Nat → Nat → Bool) (a : Nat) : Nat → Nat → Bool := fun k i => Nat.beq k a || b k i
theorem zP_eq {b b' : Nat → Nat → Bool} {L : Nat} {F : zFt} (h : ∀ k i, zrr k i = none ∨ b k i = b' k i) : zP b L F = zP b' L F := by
  funext k
  simp only [zP]
  congr 2
  funext i
  simp only [zpv]
  rcases h k i with q | q
  · rw [q]
  · rw [q]
theorem zP_put {b : Nat → Nat → Bool} {L : Nat} {F : zFt} {a f r : Nat} (h : zrr a f = some r) : va_up (zP b L F) a ((zP b L F a).1, (zP b L F a).2.1, updV (zP b L F a).2.2 f (.ref r)) = zP (zbs b a f) L F := by
  funext k
  by_cases hk : k = a
  · subst hk
    simp only [va_up, if_true, zP]
    congr 2
    funext i
    simp only [updV, zpv]
    by_cases hi : i = f
    · subst hi
      rw [if_pos rfl, h]
      have e1 : Nat.beq k k = true := Nat.beq_refl k
      have e2 : Nat.beq i i = true := Nat.beq_refl i
      simp [zbs, e1, e2]
    · rw [if_neg hi]
      have e2 : Nat.beq i f = false := nbf hi
      simp [zbs, e2]
  · simp only [va_up, hk, if_false, zP]
    congr 2
    funext i
    have e1 : Nat.beq k a = false := nbf hk
    simp [zpv, zbs, e1]
theorem zP_int {b : Nat → Nat → Bool} {L : Nat} {F : zFt} {a f : Nat} {x : Int32} (h : zrr a f = none) (hx : F a f = x) : va_up (zP b L F) a ((zP b L F a).1, (zP b L F a).2.1, updV (zP b L F a).2.2 f (.int x)) = zP b L F := by
  funext k
  by_cases hk : k = a
  · subst hk
    simp only [va_up, if_true, zP]
    congr 2
    funext i
    simp only [updV, zpv]
    by_cases hi : i = f
    · subst hi
      rw [if_pos rfl, h, hx]
    · rw [if_neg hi]
  · simp only [va_up, hk, if_false]
section ZPR
variable {M : zM} {R : Room} {Z : zZt} {pc pc' : Nat} {lo : List (Option Value)} {st : List Value} {N L : Nat} {b : Nat → Nat → Bool} {F : zFt} {k n : Nat}
def zdf (a i : Nat) : Value := match zrr a i with
  | some _ => .null
  | none => .int 0
theorem zpv_df {a : Nat} (hb : ∀ i, b a i = false) (hF : ∀ i, F a i = 0) (i : Nat) : zpv b F a i = zdf a i := by
  simp only [zpv, zdf, hb, hF]
  cases zrr a i <;> rfl
theorem zdf_zv (q : Nat → Nat) (a i : Nat) : zv q (zdf a i) = zdf a i := by
  unfold zdf
  cases zrr a i <;> rfl
theorem p_new {idx ci nf : Nat} {ty : Nat → FieldType} (hi : zIs M pc (.new idx) 3 pc') (hn : zNw M.1.cls idx ci nf ty) (hk : zkd.getD N 0 = ci) (hb : ∀ i, b N i = false) (hF : ∀ i, F N i = 0) (hg : ∀ j, j < nf → defaultValue (ty j) = zdf N j) (hR : k + 1 ≤ R.cells ∧ n + nf ≤ R.slots) (kk : zEV M R Z pc' lo (.ref N :: st) (N + 1) (zP b L F) (k + 1) (n + nf)) : zEV M R Z pc lo st N (zP b L F) k n := by
  refine z_new (g := fun i => zpv b F N i) hi hn (by rw [← hk]; rfl) (fun q j hj => ?_) hR kk
  rw [zpv_df hb hF, zdf_zv]
  exact hg j hj
theorem p_newa {aty : ArrayType} {t len : Nat} {x : Int32} {ty : FieldType} (hi : zIs M pc (.newarray aty) 2 pc') (ht : newarray.typeOf aty = ty) (hz : zty[t]? = some ty) (hnm : ty = .int ∨ ty = .boolean) (hc : Cond.arrayClass ty ∈ zT) (hN : (zP b L F N).1 = 1000 + t ∧ (zP b L F N).2.1 = len) (hr : ∀ i, zrr N i = none) (hF : ∀ i, F N i = 0) (hx : ¬ x < 0) (hl : x.toNatClampNeg = len) (hb : len ≤ 100000) (hR : k + 1 ≤ R.cells ∧ n + len ≤ R.slots) (kk : zEV M R Z pc' lo (.ref N :: st) (N + 1) (zP b L F) (k + 1) (n + len)) : zEV M R Z pc lo (.int x :: st) N (zP b L F) k n := by
  refine z_newa (g := fun i => zpv b F N i) hi ht hz hnm hc (by rw [← hN.1, ← hN.2]; rfl) (fun q j => ?_) hx hl hb hR kk
  simp only [zpv, hr, hF]
  rfl
theorem p_anew {idx len : Nat} {x : Int32} (hi : zIs M pc (.anewarray idx) 3 pc') (hcl : Cond.classLink M.1.cls idx RX4 ∈ zT) (hN : (zP b L F N).1 = 1000 + 2 ∧ (zP b L F N).2.1 = len) (hb : ∀ i, b N i = false) (hF : ∀ i, F N i = 0) (hg : ∀ j, j < len → zdf N j = .null) (hx : ¬ x < 0) (hl : x.toNatClampNeg = len) (hbb : len ≤ 100000) (hR : k + 1 ≤ R.cells ∧ n + len ≤ R.slots) (kk : zEV M R Z pc' lo (.ref N :: st) (N + 1) (zP b L F) (k + 1) (n + len)) : zEV M R Z pc lo (.int x :: st) N (zP b L F) k n := by
  refine z_anew (g := fun i => zpv b F N i) hi hcl (by rw [← hN.1, ← hN.2]; rfl) (fun q j hj => ?_) hx hl hbb hR kk
  rw [zpv_df hb hF, zdf_zv]
  exact hg j hj
theorem p_putR {idx ci f a r : Nat} {ty : FieldType} (hi : zIs M pc (.putfield idx) 3 pc') (hf : zFl M.1.cls idx ci f) (hfw : zFf M.1.cls ci f ty) (hnm : M.1.name = "<init>") (hn : ∀ x, narrow ty (.ref x) = .ref x) (hfit : ∀ x, fits ty (.ref x) = true) (hk : zkd.getD a 0 = ci) (hr : zrr a f = some r) (ha : 2 ≤ a) (haN : a < N) (kk : zEV M R Z pc' lo st N (zP (zbs b a f) L F) k n) : zEV M R Z pc lo (.ref r :: .ref a :: st) N (zP b L F) k n := by
  subst hk
  refine z_putF (len := (zP b L F a).2.1) (g := fun i => zpv b F a i) hi hf hfw hnm (fun q => hn _) (fun q => hfit _) rfl ha haN ?_
  have e := zP_put (b := b) (L := L) (F := F) hr
  have e2 : va_up (zP b L F) a (zkd.getD a 0, (zP b L F a).2.1, updV (fun i => zpv b F a i) f (.ref r)) = zP (zbs b a f) L F := e
  rw [e2]
  exact kk
theorem p_putI {idx ci f a : Nat} {x : Int32} {ty : FieldType} (hi : zIs M pc (.putfield idx) 3 pc') (hf : zFl M.1.cls idx ci f) (hfw : zFw ci f ty) (hn : narrow ty (.int x) = .int x) (hfit : fits ty (.int x) = true) (hk : zkd.getD a 0 = ci) (hr : zrr a f = none) (hF : F a f = x) (ha : 2 ≤ a) (haN : a < N) (kk : zEV M R Z pc' lo st N (zP b L F) k n) : zEV M R Z pc lo (.int x :: .ref a :: st) N (zP b L F) k n := by
  subst hk
  refine z_put (len := (zP b L F a).2.1) (g := fun i => zpv b F a i) hi hf hfw (fun q => hn) (fun q => hfit) rfl ha haN ?_
  have e2 : va_up (zP b L F) a (zkd.getD a 0, (zP b L F a).2.1, updV (fun i => zpv b F a i) f (.int x)) = zP b L F := zP_int hr hF
  rw [e2]
  exact kk
theorem p_getR {idx ci f a r : Nat} (hi : zIs M pc (.getfield idx) 3 pc') (hf : zFl M.1.cls idx ci f) (hk : zkd.getD a 0 = ci) (hr : zrr a f = some r) (hb : b a f = true) (ha : 2 ≤ a) (haN : a < N) (kk : zEV M R Z pc' lo (.ref r :: st) N (zP b L F) k n) : zEV M R Z pc lo (.ref a :: st) N (zP b L F) k n := by
  subst hk
  refine z_get (len := (zP b L F a).2.1) (g := fun i => zpv b F a i) hi hf rfl ha haN ?_
  have e : zpv b F a f = .ref r := by simp only [zpv, hr, hb]; rfl
  rw [e]
  exact kk
theorem p_aast {a c len r : Nat} {i : Int32} (hi : zIs M pc .aastore 1 pc') (hN : (zP b L F a).1 = 1000 + 2 ∧ (zP b L F a).2.1 = len) (ha : 2 ≤ a) (haN : a < N) (hc : zkd.getD c 0 = 4) (hc2 : 2 ≤ c) (hcN : c < N) (hin : vp_in i len) (hr : zrr a (zn i) = some c) (kk : zEV M R Z pc' lo st N (zP (zbs b a (zn i)) L F) k n) : zEV M R Z pc lo (.ref c :: .int i :: .ref a :: st) N (zP b L F) k n := by
  refine z_aast (g := fun i => zpv b F a i) (g2 := fun i => zpv b F c i) (len2 := (zP b L F c).2.1) hi (by rw [← hN.1, ← hN.2]; rfl) ha haN (by rw [← hc]; rfl) hc2 hcN hin ?_
  have e := zP_put (b := b) (L := L) (F := F) hr
  have e2 : va_up (zP b L F) a (1000 + 2, len, updV (fun i => zpv b F a i) i.toNatClampNeg (.ref c)) = zP (zbs b a (zn i)) L F := by
    rw [← hN.1, ← hN.2]
    exact e
  rw [e2]
  exact kk
end ZPR
theorem acI : Cond.arrayClass .int ∈ zT := zT_mem 121 (by decide +kernel) rfl
theorem acZ : Cond.arrayClass .boolean ∈ zT := zT_mem 122 (by decide +kernel) rfl

theorem obI1 : Cond.instanceMethod objectInit ∈ zT := zT_mem 63 (by decide +kernel) rfl
theorem obI2 : Cond.code objectInit ⟨#[0xb1]⟩ 1 none ∈ zT := zT_mem 64 (by decide +kernel) rfl
theorem obX0 : Cond.methodLink RX0 3 objectInit ∈ zT := zT_mem 223 (by decide +kernel) rfl
theorem obX1 : Cond.methodLink RX1 3 objectInit ∈ zT := zT_mem 238 (by decide +kernel) rfl
theorem obX2 : Cond.methodLink RX2 3 objectInit ∈ zT := zT_mem 176 (by decide +kernel) rfl
theorem obX3 : Cond.methodLink RX3 3 objectInit ∈ zT := zT_mem 201 (by decide +kernel) rfl
theorem obX4 : Cond.methodLink RX4 3 objectInit ∈ zT := zT_mem 260 (by decide +kernel) rfl
theorem obX5 : Cond.methodLink RX5 3 objectInit ∈ zT := zT_mem 128 (by decide +kernel) rfl
theorem obX6 : Cond.methodLink RX6 3 objectInit ∈ zT := zT_mem 70 (by decide +kernel) rfl
theorem obX7 : Cond.methodLink RX7 3 objectInit ∈ zT := zT_mem 62 (by decide +kernel) rfl
theorem obX8 : Cond.methodLink RX8 1 objectInit ∈ zT := zT_mem 762 (by decide +kernel) rfl
theorem nwL_7 : zNw RL 7 7 13 tyX7 := ⟨(RX7, TX7, 13), rfl, rfl, by decide, zT_mem 57 (by decide +kernel) rfl, zT_mem 58 (by decide +kernel) rfl, iniX7, uX7, tyX7_ok⟩
theorem nwX7_9 : zNw RX7 9 6 10 tyX6 := ⟨(RX6, TX6, 10), rfl, rfl, by decide, zT_mem 65 (by decide +kernel) rfl, zT_mem 66 (by decide +kernel) rfl, iniX6, uX6, tyX6_ok⟩
theorem nwX7_16 : zNw RX7 16 5 10 tyX5 := ⟨(RX5, TX5, 10), rfl, rfl, by decide, zT_mem 123 (by decide +kernel) rfl, zT_mem 124 (by decide +kernel) rfl, iniX5, uX5, tyX5_ok⟩
theorem nwX7_25 : zNw RX7 25 2 6 tyX2 := ⟨(RX2, TX2, 6), rfl, rfl, by decide, zT_mem 171 (by decide +kernel) rfl, zT_mem 172 (by decide +kernel) rfl, iniX2, uX2, tyX2_ok⟩
theorem nwX7_34 : zNw RX7 34 3 4 tyX3 := ⟨(RX3, TX3, 4), rfl, rfl, by decide, zT_mem 196 (by decide +kernel) rfl, zT_mem 197 (by decide +kernel) rfl, iniX3, uX3, tyX3_ok⟩
theorem nwX7_41 : zNw RX7 41 0 2 tyX0 := ⟨(RX0, TX0, 2), rfl, rfl, by decide, zT_mem 218 (by decide +kernel) rfl, zT_mem 219 (by decide +kernel) rfl, iniX0, uX0, tyX0_ok⟩
theorem nwX7_48 : zNw RX7 48 1 4 tyX1 := ⟨(RX1, TX1, 4), rfl, rfl, by decide, zT_mem 233 (by decide +kernel) rfl, zT_mem 234 (by decide +kernel) rfl, iniX1, uX1, tyX1_ok⟩
theorem nwX7_55 : zNw RX7 55 4 9 tyX4 := ⟨(RX4, TX4, 9), rfl, rfl, by decide, zT_mem 254 (by decide +kernel) rfl, zT_mem 256 (by decide +kernel) rfl, iniX4, uX4, tyX4_ok⟩
theorem nwL_10 : zNw RL 10 8 48 tyX8 := ⟨(RX8, TX8, 48), rfl, rfl, by decide, zT_mem 757 (by decide +kernel) rfl, zT_mem 758 (by decide +kernel) rfl, iniX8, uX8, tyX8_ok⟩