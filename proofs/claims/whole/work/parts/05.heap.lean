section ZHP
variable {M : zM} {R : Room} {Z : zZt} {pc pc' tgt : Nat} {lo : List (Option Value)} {st : List Value} {N : Nat} {w : zH} {k n : Nat}
theorem zK_moved {D : zG} {q : Nat → Nat} {H0 : Heap} {s U : State} (hW : s.WarmedH U.vm) (h : zK D q H0 s) : zK D q H0 U := by
  obtain ⟨h1, h2, h3, h4, h5, h6, h7, h8, h9⟩ := h
  refine ⟨fun c r hr => u_Kn_moved hW.alike (h1 c r hr), fun t ty ht => ⟨arrOfT_moved hW.alike (h2 t ty ht).1, (h2 t ty ht).2.moved hW.alike⟩, h3, h4, h5.moved hW.alike, h6.moved hW.alike, h7.moved hW.alike, fun wd hwd => ?_, h9.moved hW.alike⟩
  have hz := h8 wd hwd
  simp only [zNest, List.mem_cons, List.not_mem_nil, or_false] at hwd
  rcases hwd with rfl | rfl | rfl | rfl | rfl <;> exact va_Nw.warmM hW hz
theorem zK_same {D : zG} {q : Nat → Nat} {H0 : Heap} {s U : State} (hv : s.vm = U.vm) (h : zK D q H0 s) : zK D q H0 U := by
  obtain ⟨h1, h2, h3, h4, h5, h6, h7, h8, h9⟩ := h
  have ha : s.vm.Alike U.vm := by rw [hv]; exact Vm.Alike.refl U.vm
  refine ⟨fun c r hr => u_Kn_moved ha (h1 c r hr), fun t ty ht => ⟨arrOfT_moved ha (h2 t ty ht).1, (h2 t ty ht).2.moved ha⟩, h3, h4, h5.moved ha, h6.moved ha, h7.moved ha, fun wd hwd => ?_, h9.moved ha⟩
  have hz := h8 wd hwd
  simp only [zNest, List.mem_cons, List.not_mem_nil, or_false] at hwd
  rcases hwd with rfl | rfl | rfl | rfl | rfl <;> exact va_Nw.same rfl hv hz
/-- a write to a cell of the world -/
theorem zW_set {D : zG} {q : Nat → Nat} {H0 H H1 : Heap} {a : Nat} {x : zc} (hq : zqo q) (h : zW D q H0 N w H) (ha : 2 ≤ a) (hx : zok D q (q a) x H1) (hz : H1.size = H.size) (ho : ∀ b, b ≠ q a → H1[b]? = H[b]?) : zW D q H0 N (va_up w a x) H1 := by
  obtain ⟨h1, h2, h3, h4, h5⟩ := h
  have ha0 : ¬ 0 = a := by omega
  refine ⟨h1, hz.trans h2, fun j hj hjN => ?_, fun b hb => ?_, by simp only [va_up, ha0, if_false]; exact h5⟩
  · by_cases hja : j = a
    · subst hja
      simpa [va_up] using hx
    · simp only [va_up, hja, if_false]
      exact (h3 j hj hjN).kept (ho _ (zqo_ne hq ha hja))
  · have := zqo_ge hq ha
    rw [ho b (by omega)]
    exact h4 b hb
theorem zLc_put {q : Nat → Nat} {locs : List Loc} {a f : Nat} (hq : zqo q) (ha : 2 ≤ a) (h : zLc q locs) : zLc q (locs ++ [⟨q a, f⟩]) := by
  intro x hx
  rcases List.mem_append.mp hx with hx | hx
  · exact h x hx
  · simp at hx
    subst hx
    have := zqo_ge hq ha
    show q 2 ≤ q a
    omega
/-- the field f of the kind ci, as own's pool names it at idx -/
def zFl (own : String) (idx ci f : Nat) : Prop := ∃ r : vw_C, vwCl[ci]? = some r ∧ f < r.2.2 ∧ ci < 1000 ∧ Cond.fieldLink own idx (r.2.1 f).1 (r.2.1 f).2.1 (r.2.1 f).2.2.1 ∈ zT ∧ ∀ wd ∈ u_ws r.1 r.2.1 r.2.2, wd ∈ zT
theorem z_get {idx ci f a len : Nat} {g : Nat → Value} (hi : zIs M pc (.getfield idx) 3 pc') (hf : zFl M.1.cls idx ci f) (hw : w a = (ci, len, g)) (ha : 2 ≤ a) (haN : a < N) (kk : zEV M R Z pc' lo (g f :: st) N w k n) : zEV M R Z pc lo (.ref a :: st) N w k n := by
  intro p l e s m args below meth c D q H0 C H locs ls HW HC HL
  obtain ⟨hd, rfl⟩ := hi
  obtain ⟨r, hr, hfN, hc1, hlink, hin⟩ := hf
  have hc := (HW.2.2.1 a ha haN).1 (by rw [hw]; exact hc1)
  rw [hw] at hc
  obtain ⟨r', hr', cell, q1, q2, q3, q4⟩ := hc
  have er : r' = r := Option.some.inj (hr'.symm.trans hr)
  subst er
  have hK := C.2.2.2.2.2.2.2.2
  obtain ⟨hS, hfc, kC, hkC, hkind⟩ := hK.1 ci _ hr
  obtain ⟨cf, kf, fi, fd, hfi, hsl⟩ := hS f hfN
  have hts : ∀ wd ∈ zT, wd.before args s = true := fun wd h => zT_use C h
  refine W.getf (v := zv q (g f)) C.1 C.2.1 C.2.2.2.2.1 (zT_use C hlink) hfi (u_facts hfc hkC (u_lays hts hin hfN) hfi).1 q1 (by rw [q3]; exact fun h => by cases h) ?_ rfl rfl hd (kk p l e s m args below meth c D q H0 C H locs ls HW HC HL)
  rw [hsl]
  exact q4 f hfN
/-- what the names of fields and their kinds say -/
theorem z_names : ∀ (ci : Nat) (r : vw_C), vwCl[ci]? = some r → (∃ ty0 : Nat → FieldType, ∀ j, j < r.2.2 → parseFieldDescriptor (r.2.1 j).2.2.1 = some (ty0 j)) ∧ ∀ a, a < r.2.2 → ∀ b, b < r.2.2 → a ≠ b → (r.2.1 a).2.1 ≠ (r.2.1 b).2.1 := by
  intro ci r h
  match ci, h with
  | 0, h => cases h; exact ⟨⟨tyX0, tyX0_ok⟩, nmX0⟩
  | 1, h => cases h; exact ⟨⟨tyX1, tyX1_ok⟩, nmX1⟩
  | 2, h => cases h; exact ⟨⟨tyX2, tyX2_ok⟩, nmX2⟩
  | 3, h => cases h; exact ⟨⟨tyX3, tyX3_ok⟩, nmX3⟩
  | 4, h => cases h; exact ⟨⟨tyX4, tyX4_ok⟩, nmX4⟩
  | 5, h => cases h; exact ⟨⟨tyX5, tyX5_ok⟩, nmX5⟩
  | 6, h => cases h; exact ⟨⟨tyX6, tyX6_ok⟩, nmX6⟩
  | 7, h => cases h; exact ⟨⟨tyX7, tyX7_ok⟩, nmX7⟩
  | 8, h => cases h; exact ⟨⟨tyX8, tyX8_ok⟩, nmX8⟩
  | j + 9, h => simp [vwCl] at h
theorem z_apart {args : Array Value} {s : State} {D : zG} {q : Nat → Nat} {H0 : Heap} (hts : ∀ wd ∈ zT, wd.before args s = true) (hK : zK D q H0 s) {ci : Nat} {r : vw_C} (hr : vwCl[ci]? = some r) (hin : ∀ wd ∈ u_ws r.1 r.2.1 r.2.2, wd ∈ zT) : ∀ a b, a < r.2.2 → b < r.2.2 → a ≠ b → D.2.1 ci a ≠ D.2.1 ci b := by
  obtain ⟨⟨ty0, hty⟩, hnm⟩ := z_names ci r hr
  intro x y hx hy hne
  obtain ⟨hS, -⟩ := hK.1 ci _ hr
  obtain ⟨_, _, _, fa, hia, ea⟩ := hS x hx
  obtain ⟨_, _, _, fb, hib, eb⟩ := hS y hy
  rw [← ea, ← eb]
  refine u_apart (u_lays hts hin hx) (u_lays hts hin hy) hia hib ?_
  rw [(State.fieldFound?_type hia (hty x hx)).1, (State.fieldFound?_type hib (hty y hy)).1]
  exact hnm x hx y hy hne
/-- the field may be written: its type, and that it isn't final -/
def zFw (ci f : Nat) (ty : FieldType) : Prop := ∃ r : vw_C, vwCl[ci]? = some r ∧ (r.2.1 f).2.2.2 = false ∧ parseFieldDescriptor (r.2.1 f).2.2.1 = some ty
def zFf (own : String) (ci f : Nat) (ty : FieldType) : Prop := ∃ r : vw_C, vwCl[ci]? = some r ∧ (r.2.1 f).2.2.2 = true ∧ (r.2.1 f).1 = own ∧ parseFieldDescriptor (r.2.1 f).2.2.1 = some ty
theorem updV_zv (q : Nat → Nat) (g : Nat → Value) (f : Nat) (v : Value) : updV (fun j => zv q (g j)) f (zv q v) = fun j => zv q (updV g f v j) := by
  funext j
  simp only [updV]
  split <;> rfl
theorem z_put {idx ci f a len : Nat} {g : Nat → Value} {v : Value} {ty : FieldType} (hi : zIs M pc (.putfield idx) 3 pc') (hf : zFl M.1.cls idx ci f) (hfw : zFw ci f ty) (hn : ∀ q, narrow ty (zv q v) = zv q v) (hfit : ∀ q, fits ty (zv q v) = true) (hw : w a = (ci, len, g)) (ha : 2 ≤ a) (haN : a < N) (kk : zEV M R Z pc' lo st N (va_up w a (ci, len, updV g f v)) k n) : zEV M R Z pc lo (v :: .ref a :: st) N w k n := by
  intro p l e s m args below meth c D q H0 C H locs ls HW HC HL
  obtain ⟨hd, rfl⟩ := hi
  obtain ⟨r, hr, hfN, hc1, hlink, hin⟩ := hf
  obtain ⟨r2, hr2, hfin, hdesc⟩ := hfw
  have er2 : r2 = r := Option.some.inj (hr2.symm.trans hr)
  subst er2
  have hc := (HW.2.2.1 a ha haN).1 (by rw [hw]; exact hc1)
  rw [hw] at hc
  obtain ⟨r', hr', cell, q1, q2, q3, q4⟩ := hc
  have er : r' = r2 := Option.some.inj (hr'.symm.trans hr)
  subst er
  have hK := C.2.2.2.2.2.2.2.2
  have hts : ∀ wd ∈ zT, wd.before args s = true := fun wd h => zT_use C h
  have hap := z_apart hts hK hr hin
  obtain ⟨hS, hfc, kC, hkC, hkind⟩ := hK.1 ci _ hr
  obtain ⟨cf, kf, fi, fd, hfi, hsl⟩ := hS f hfN
  have hlay := hts _ (hin _ (u_in_lay hfN))
  unfold u_lay at hlay
  rw [if_neg (by rw [hfin]; decide)] at hlay
  have hst := (u_facts hfc hkC (u_lays hts hin hfN) hfi).1
  have h6 := u_store hfc hkC hkind hlay hfi hdesc (hn q) (hfit q)
  refine W.putK C.1 C.2.1 (f := fd) ⟨C.2.2.2.2.1, zT_use C hlink, ⟨_, _, _, hfi⟩, hst⟩ (by rw [q2]; exact h6) q1 q3 (by rw [hsl]; exact k2_hasslot (q4 f hfN)) rfl rfl hd fun H' e1 e2 e3 => ?_
  refine kk p l e s m args below meth c D q H0 C H' _ ls (zW_set hK.2.2.1 HW ha ⟨fun _ => ⟨_, hr, ?_⟩, fun h9 => absurd h9 (by show ¬ 1000 ≤ ci; omega)⟩ e2 e3) (zLc_put hK.2.2.1 ha HC) HL
  show t_OB (q a) (D.1 ci) r'.2.2 (D.2.1 ci) H' (fun j => zv q (updV g f v j))
  rw [← updV_zv]
  rw [hsl] at e1
  exact ⟨_, e1, q2, q3, t_set q4 hap hfN (zv q v)⟩
theorem z_putF {idx ci f a len : Nat} {g : Nat → Value} {v : Value} {ty : FieldType} (hi : zIs M pc (.putfield idx) 3 pc') (hf : zFl M.1.cls idx ci f) (hfw : zFf M.1.cls ci f ty) (hnm : M.1.name = "<init>") (hn : ∀ q, narrow ty (zv q v) = zv q v) (hfit : ∀ q, fits ty (zv q v) = true) (hw : w a = (ci, len, g)) (ha : 2 ≤ a) (haN : a < N) (kk : zEV M R Z pc' lo st N (va_up w a (ci, len, updV g f v)) k n) : zEV M R Z pc lo (v :: .ref a :: st) N w k n := by
  intro p l e s m args below meth c D q H0 C H locs ls HW HC HL
  obtain ⟨hd, rfl⟩ := hi
  obtain ⟨r, hr, hfN, hc1, hlink, hin⟩ := hf
  obtain ⟨r2, hr2, hfin, hdecl, hdesc⟩ := hfw
  have er2 : r2 = r := Option.some.inj (hr2.symm.trans hr)
  subst er2
  have hc := (HW.2.2.1 a ha haN).1 (by rw [hw]; exact hc1)
  rw [hw] at hc
  obtain ⟨r', hr', cell, q1, q2, q3, q4⟩ := hc
  have er : r' = r2 := Option.some.inj (hr'.symm.trans hr)
  subst er
  have hK := C.2.2.2.2.2.2.2.2
  have hts : ∀ wd ∈ zT, wd.before args s = true := fun wd h => zT_use C h
  have hap := z_apart hts hK hr hin
  obtain ⟨hS, hfc, kC, hkC, hkind⟩ := hK.1 ci _ hr
  obtain ⟨cf, kf, fi, fd, hfi, hsl⟩ := hS f hfN
  have hlay := hts _ (hin _ (u_in_lay hfN))
  unfold u_lay at hlay
  rw [if_pos hfin] at hlay
  have hst := (u_facts hfc hkC (u_lays hts hin hfN) hfi).1
  have hcf : m.cls = cf := by
    obtain ⟨_, _, c', _, _, _, -, -, hf', -, -, -, hown2, -⟩ := Cond.laysFinal_spec hlay
    have e1 : c' = cf := by have := hfi.symm.trans hf'; simp at this; exact this.1.symm
    rw [hdecl] at hown2
    rw [← e1]; exact Option.some.inj (C.2.2.2.2.1.symm.trans hown2)
  have h6 := u_fits hfc hkC hkind (Or.inr hlay) hfi hdesc (hn q) (hfit q)
  refine W.putFinK C.1 C.2.1 C.2.2.2.2.1 (zT_use C hlink) hfi hst hcf (C.2.2.2.2.2.2.2.1.trans hnm) (by rw [q2]; exact h6) q1 q3 (by rw [hsl]; exact k2_hasslot (q4 f hfN)) rfl rfl hd fun H' e1 e2 e3 => ?_
  refine kk p l e s m args below meth c D q H0 C H' _ ls (zW_set hK.2.2.1 HW ha ⟨fun _ => ⟨_, hr, ?_⟩, fun h9 => absurd h9 (by show ¬ 1000 ≤ ci; omega)⟩ e2 e3) (zLc_put hK.2.2.1 ha HC) HL
  show t_OB (q a) (D.1 ci) r'.2.2 (D.2.1 ci) H' (fun j => zv q (updV g f v j))
  rw [← updV_zv]
  rw [hsl] at e1
  exact ⟨_, e1, q2, q3, t_set q4 hap hfN (zv q v)⟩
theorem z_arr {D : zG} {q : Nat → Nat} {H0 H : Heap} {a t len : Nat} {g : Nat → Value} (HW : zW D q H0 N w H) (hw : w a = (1000 + t, len, g)) (ha : 2 ≤ a) (haN : a < N) : H[q a]? = some (arrV (D.2.2.1 t) len (fun j => zv q (g j))) := by
  have hc := (HW.2.2.1 a ha haN).2 (by rw [hw]; exact Nat.le_add_right _ _)
  rw [hw] at hc
  simpa [Nat.add_sub_cancel_left] using hc
theorem zok_arr {D : zG} {q : Nat → Nat} {H : Heap} {a t len : Nat} {g : Nat → Value} (h : H[a]? = some (arrV (D.2.2.1 t) len (fun j => zv q (g j)))) : zok D q a (1000 + t, len, g) H := by
  refine ⟨fun h9 => absurd h9 (Nat.not_lt.mpr (Nat.le_add_right _ _)), fun _ => ?_⟩
  simp only [Nat.add_sub_cancel_left]
  exact h
theorem z_iald {a len : Nat} {g : Nat → Value} {i : Int32} (hi : zIs M pc .iaload 1 pc') (hw : w a = (1000 + 0, len, g)) (ha : 2 ≤ a) (haN : a < N) (hin : vp_in i len) (kk : zEV M R Z pc' lo (g i.toNatClampNeg :: st) N w k n) : zEV M R Z pc lo (.int i :: .ref a :: st) N w k n := by
  intro p l e s m args below meth c D q H0 C H locs ls HW HC HL
  obtain ⟨hd, rfl⟩ := hi
  have hlt : i.toNatClampNeg < len := Nat.not_le.mp fun q => hin (Or.inr q)
  have hA := (C.2.2.2.2.2.2.2.2).2.1 0 .int rfl
  exact W.iald (v := zv q (g i.toNatClampNeg)) C.1 C.2.1 (z_arr HW hw ha haN) (hA.1 _ _) (fun q => by cases q) (by rw [arrV_size]; exact hin) (by rw [arrV_read _ _ hlt]) rfl rfl hd (kk p l e s m args below meth c D q H0 C H locs ls HW HC HL)
theorem z_bald {a len : Nat} {g : Nat → Value} {i : Int32} (hi : zIs M pc .baload 1 pc') (hw : w a = (1000 + 1, len, g)) (ha : 2 ≤ a) (haN : a < N) (hin : vp_in i len) (kk : zEV M R Z pc' lo (g i.toNatClampNeg :: st) N w k n) : zEV M R Z pc lo (.int i :: .ref a :: st) N w k n := by
  intro p l e s m args below meth c D q H0 C H locs ls HW HC HL
  obtain ⟨hd, rfl⟩ := hi
  have hlt : i.toNatClampNeg < len := Nat.not_le.mp fun q => hin (Or.inr q)
  have hA := (C.2.2.2.2.2.2.2.2).2.1 1 .boolean rfl
  exact W.zald (v := zv q (g i.toNatClampNeg)) C.1 C.2.1 (z_arr HW hw ha haN) (hA.1 _ _) (fun q => by cases q) (by rw [arrV_size]; exact hin) (by rw [arrV_read _ _ hlt]) rfl rfl hd (kk p l e s m args below meth c D q H0 C H locs ls HW HC HL)
theorem z_aald {a len : Nat} {g : Nat → Value} {i : Int32} (hi : zIs M pc .aaload 1 pc') (hw : w a = (1000 + 2, len, g)) (ha : 2 ≤ a) (haN : a < N) (hin : vp_in i len) (kk : zEV M R Z pc' lo (g i.toNatClampNeg :: st) N w k n) : zEV M R Z pc lo (.int i :: .ref a :: st) N w k n := by
  intro p l e s m args below meth c D q H0 C H locs ls HW HC HL
  obtain ⟨hd, rfl⟩ := hi
  have hlt : i.toNatClampNeg < len := Nat.not_le.mp fun q => hin (Or.inr q)
  have hA := (C.2.2.2.2.2.2.2.2).2.1 2 (.object RX4) rfl
  exact W.aald (v := zv q (g i.toNatClampNeg)) C.1 C.2.1 (z_arr HW hw ha haN) (hA.1 _ _) rfl (fun q => by cases q) (by rw [arrV_size]; exact hin) (by rw [arrV_read _ _ hlt]) rfl rfl hd (kk p l e s m args below meth c D q H0 C H locs ls HW HC HL)
theorem z_iast {a len : Nat} {g : Nat → Value} {i x : Int32} (hi : zIs M pc .iastore 1 pc') (hw : w a = (1000 + 0, len, g)) (ha : 2 ≤ a) (haN : a < N) (hin : vp_in i len) (kk : zEV M R Z pc' lo st N (va_up w a (1000 + 0, len, updV g i.toNatClampNeg (.int x))) k n) : zEV M R Z pc lo (.int x :: .int i :: .ref a :: st) N w k n := by
  intro p l e s m args below meth c D q H0 C H locs ls HW HC HL
  obtain ⟨hd, rfl⟩ := hi
  have hK := C.2.2.2.2.2.2.2.2
  have hA := hK.2.1 0 .int rfl
  refine W.iast (x := x) C.1 C.2.1 (z_arr HW hw ha haN) (hA.1 _ _) (fun q => by cases q) (by rw [arrV_size]; exact hin) rfl rfl hd fun H1 e1 z1 oq => ?_
  refine kk p l e s m args below meth c D q H0 C H1 _ ls (zW_set hK.2.2.1 HW ha (zok_arr ?_) z1 oq) (zLc_put hK.2.2.1 ha HC) HL
  rw [← updV_zv, e1, arrV_store]
  rfl
theorem z_bast {a len : Nat} {g : Nat → Value} {i x : Int32} (hi : zIs M pc .bastore 1 pc') (hw : w a = (1000 + 1, len, g)) (ha : 2 ≤ a) (haN : a < N) (hin : vp_in i len) (hx : x = 0 ∨ x = 1) (kk : zEV M R Z pc' lo st N (va_up w a (1000 + 1, len, updV g i.toNatClampNeg (.int x))) k n) : zEV M R Z pc lo (.int x :: .int i :: .ref a :: st) N w k n := by
  intro p l e s m args below meth c D q H0 C H locs ls HW HC HL
  obtain ⟨hd, rfl⟩ := hi
  have hK := C.2.2.2.2.2.2.2.2
  have hA := hK.2.1 1 .boolean rfl
  refine W.zast (x := x) C.1 C.2.1 (z_arr HW hw ha haN) (hA.1 _ _) (fun q => by cases q) (by rw [arrV_size]; exact hin) rfl rfl hd fun H1 e1 z1 oq => ?_
  refine kk p l e s m args below meth c D q H0 C H1 _ ls (zW_set hK.2.2.1 HW ha (zok_arr ?_) z1 oq) (zLc_put hK.2.2.1 ha HC) HL
  have hnx : narrow .boolean (.int x) = .int x := by rcases hx with rfl | rfl <;> rfl
  rw [hnx] at e1
  rw [← updV_zv, e1, arrV_store]
  rfl
theorem z_kald {i : Int32} (hi : zIs M pc .iaload 1 pc') (hin : vp_in i 12) (kk : zEV M R Z pc' lo (.int (zka i.toNatClampNeg) :: st) N w k n) : zEV M R Z pc lo (.int i :: .ref 1 :: st) N w k n := by
  intro p l e s m args below meth c D q H0 C H locs ls HW HC HL
  obtain ⟨hd, rfl⟩ := hi
  obtain ⟨-, -, hq, hq2, -, -, hX, -, -⟩ := C.2.2.2.2.2.2.2.2
  have hS : va_S (fun a => q 2 ≤ a) H0 H locs := ⟨by
    have h1 := HW.2.1
    have h2 := zqo_ge hq HW.1
    omega, fun b hb _ => HW.2.2.2.1 b (by omega), fun x hx => HC x hx⟩
  exact va_sld C.1 C.2.1 hX (by have := hq.2.1; omega) (Nat.not_le.mpr hq.2.1) hS hin hd (kk p l e s m args below meth c D q H0 C H locs ls HW HC HL)
theorem z_gets {idx : Nat} (hi : zIs M pc (.getstatic idx) 3 pc') (hl : Cond.fieldLink M.1.cls idx RX7 "KIND_ABOVE" "[I" ∈ zT) (kk : zEV M R Z pc' lo (.ref 1 :: st) N w k n) : zEV M R Z pc lo st N w k n := by
  intro p l e s m args below meth c D q H0 C H locs ls HW HC HL
  obtain ⟨hd, rfl⟩ := hi
  obtain ⟨-, -, hq, hq2, hZ, -, -, -, -⟩ := C.2.2.2.2.2.2.2.2
  obtain ⟨cf, kf, fi, f, a, cell, h1, h2, h3, h4, h5, h6, h7, h8⟩ := hZ
  exact W.gets (v := .ref (q 1)) C.1 C.2.1 C.2.2.2.2.1 (zT_use C hl) h1 h2 h3 h4 (by rw [HW.2.2.2.1 a (Nat.not_le.mp h8)]; exact h5) (fun e => by rw [e] at h6; cases h6) h7 rfl hd (kk p l e s m args below meth c D q H0 C H locs ls HW HC HL)
theorem zS_of {D : zG} {q : Nat → Nat} {H0 H : Heap} {locs : List Loc} (hq : zqo q) (hq2 : q 2 = H0.size) (HW : zW D q H0 N w H) (HC : zLc q locs) : va_S (fun a => q 2 ≤ a) H0 H locs := ⟨by
    have h1 := HW.2.1
    have h2 := zqo_ge hq HW.1
    omega, fun b hb _ => HW.2.2.2.1 b (by omega), fun x hx => HC x hx⟩
theorem z_sld {len t : Nat} {g : Nat → Value} {i : Int32} (hi : zIs M pc .iaload 1 pc') (hw : w 0 = (t, len, g)) (hin : vp_in i len) (kk : zEV M R Z pc' lo (g i.toNatClampNeg :: st) N w k n) : zEV M R Z pc lo (.int i :: .ref 0 :: st) N w k n := by
  intro p l e s m args below meth c D q H0 C H locs ls HW HC HL
  obtain ⟨hd, rfl⟩ := hi
  obtain ⟨-, -, hq, hq2, -, hX, -, -, -⟩ := C.2.2.2.2.2.2.2.2
  have e1 := HW.2.2.2.2.1
  have e2 := HW.2.2.2.2.2 i.toNatClampNeg
  rw [hw] at e1 e2
  refine va_sld C.1 C.2.1 hX (by have := hq.1; omega) (Nat.not_le.mpr hq.1) (zS_of hq hq2 HW HC) (by rw [← e1]; exact hin) hd ?_
  have K := kk p l e s m args below meth c D q H0 C H locs ls HW HC HL
  have e3 : g i.toNatClampNeg = .int (D.2.2.2.2 i.toNatClampNeg) := e2
  rw [e3] at K
  exact K
theorem z_slen {len t : Nat} {g : Nat → Value} (hi : zIs M pc .arraylength 1 pc') (hw : w 0 = (t, len, g)) (kk : zEV M R Z pc' lo (.int (Int32.ofNat len) :: st) N w k n) : zEV M R Z pc lo (.ref 0 :: st) N w k n := by
  intro p l e s m args below meth c D q H0 C H locs ls HW HC HL
  obtain ⟨hd, rfl⟩ := hi
  obtain ⟨-, -, hq, hq2, -, hX, -, -, -⟩ := C.2.2.2.2.2.2.2.2
  have e1 := HW.2.2.2.2.1
  rw [hw] at e1
  refine va_slen C.1 C.2.1 hX (by have := hq.1; omega) (Nat.not_le.mpr hq.1) (zS_of hq hq2 HW HC) hd ?_
  have K := kk p l e s m args below meth c D q H0 C H locs ls HW HC HL
  have e3 : len = D.2.2.2.1 := e1
  rw [e3] at K
  exact K
end ZHP
