/-! The world when both systems stand: its shape is fixed, its numbers are F -/
abbrev zFt : Type := Nat → Nat → Int32
abbrev zn (x : Int32) : Nat := x.toNatClampNeg
def zkd : List Nat := [1000, 1000, 7, 6, 1000, 1000, 1000, 1001, 1000, 1000, 1000, 5, 1000, 1000, 1000, 1000, 1001, 1000, 1000, 1000, 2, 1000, 1000, 1000, 1000, 3, 1000, 1000, 1000, 0, 1000, 1, 1000, 1000, 1002, 4, 1000, 1000, 1000, 1000, 4, 1000, 1000, 1000, 1000, 4, 1000, 1000, 1000, 1000, 4, 1000, 1000, 1000, 1000, 4, 1000, 1000, 1000, 1000, 4, 1000, 1000, 1000, 1000, 4, 1000, 1000, 1000, 1000, 4, 1000, 1000, 1000, 1000, 8, 1000, 1000, 1000, 1000, 1001, 1000, 1000, 1000, 1000, 1000, 1000, 1000, 1000, 1000, 1000, 1000, 1000, 1001, 1000, 1000, 1000, 1000, 1000, 1000, 1000, 1000, 1000, 1000, 1000, 1000, 1000, 1001, 1001, 1000, 1000]
def zln : List Nat := [0, 12, 13, 10, 12, 12, 12, 12, 36, 60, 60, 10, 400, 400, 400, 400, 400, 60, 300, 480, 6, 60, 60, 60, 5, 4, 24, 24, 24, 2, 1200, 4, 6, 6, 8, 9, 16, 16, 8, 8, 9, 16, 16, 8, 8, 9, 16, 16, 8, 8, 9, 16, 16, 8, 8, 9, 16, 16, 8, 8, 9, 16, 16, 8, 8, 9, 16, 16, 8, 8, 9, 16, 16, 8, 8, 48, 12, 12, 12, 12, 12, 36, 60, 60, 24, 24, 24, 6, 6, 400, 400, 400, 400, 400, 300, 60, 60, 8, 8, 8, 8, 128, 128, 8, 64, 64, 1200, 400, 12, 5, 60]
def zrf : List (List (Option Nat)) := [[], [], [some 3, some 11, some 20, some 25, some 29, some 31, some 34, none, none, none, none, none, none], [some 4, some 5, some 6, some 7, some 8, some 9, some 10, none, none, none], [], [], [], [], [], [], [], [some 3, some 12, some 13, some 14, some 15, some 16, none, some 17, some 18, some 19], [], [], [], [], [], [], [], [], [some 3, some 11, some 21, some 22, some 23, some 24], [], [], [], [], [some 26, some 27, some 28, none], [], [], [], [some 30, none], [], [some 32, some 33, none, none], [], [], [some 35, some 40, some 45, some 50, some 55, some 60, some 65, some 70], [none, none, none, some 36, some 37, none, some 38, some 39, none], [], [], [], [], [none, none, none, some 41, some 42, none, some 43, some 44, none], [], [], [], [], [none, none, none, some 46, some 47, none, some 48, some 49, none], [], [], [], [], [none, none, none, some 51, some 52, none, some 53, some 54, none], [], [], [], [], [none, none, none, some 56, some 57, none, some 58, some 59, none], [], [], [], [], [none, none, none, some 61, some 62, none, some 63, some 64, none], [], [], [], [], [none, none, none, some 66, some 67, none, some 68, some 69, none], [], [], [], [], [none, none, none, some 71, some 72, none, some 73, some 74, none], [], [], [], [], [none, some 76, some 77, some 78, some 79, some 80, some 81, none, some 82, none, some 83, none, some 84, some 85, some 86, none, some 87, some 88, none, none, some 89, some 90, some 91, some 92, some 93, some 94, some 95, some 96, none, some 97, some 98, some 99, some 100, some 101, some 102, some 103, some 104, some 105, none, none, some 106, none, none, none, some 107, some 108, some 109, some 110], [], [], [], [], [], [], [], [], [], [], [], [], [], [], [], [], [], [], [], [], [], [], [], [], [], [], [], [], [], [], [], [], [], [], []]
def zrr (k i : Nat) : Option Nat := (zrf.getD k []).getD i none
def zfv (k i : Nat) (x : Int32) : Value := match zrr k i with
  | some r => .ref r
  | none => .int x
def zE (L : Nat) (F : zFt) : zH := fun k => (zkd.getD k 0, if k = 0 then L else zln.getD k 0, fun i => zfv k i (F k i))
def zup (F : zFt) (a i : Nat) (x : Int32) : zFt := fun k j => if k = a ∧ j = i then x else F k j
theorem zE_put {L : Nat} {F : zFt} {a i : Nat} {x : Int32} (h : zrr a i = none) : va_up (zE L F) a ((zE L F a).1, (zE L F a).2.1, updV (zE L F a).2.2 i (.int x)) = zE L (zup F a i x) := by
  funext k
  by_cases hk : k = a
  · subst hk
    simp only [va_up, if_true, zE]
    refine Prod.ext rfl (Prod.ext rfl ?_)
    funext j
    simp only [updV, zup, true_and]
    by_cases hj : j = i
    · subst hj
      simp [zfv, h]
    · simp [hj]
  · simp only [va_up, hk, if_false, zE, zup, false_and]
def zgI (a ci f : Nat) : Bool := Nat.beq (zkd.getD a 0) ci && (zrr a f).isNone && Nat.ble 2 a && Nat.blt a 111
def zgO (a ci : Nat) : Bool := Nat.beq (zkd.getD a 0) ci && Nat.ble 2 a && Nat.blt a 111
def zgR (a ci f : Nat) : Option Nat := bif Nat.beq (zkd.getD a 0) ci && Nat.ble 2 a && Nat.blt a 111 then zrr a f else none
def zgA (t a : Nat) : Option Nat := bif Nat.beq (zkd.getD a 0) (1000 + t) && Nat.ble 2 a && Nat.blt a 111 && (zrf.getD a []).isEmpty then some (zln.getD a 0) else none
theorem zgO_use {a ci : Nat} (h : zgO a ci = true) : zkd.getD a 0 = ci ∧ 2 ≤ a ∧ a < 111 := by
  simp only [zgO, Bool.and_eq_true] at h
  obtain ⟨⟨h1, h3⟩, h4⟩ := h
  exact ⟨Nat.eq_of_beq_eq_true h1, Nat.le_of_ble_eq_true h3, (by simp [Nat.blt] at h4; omega)⟩
theorem zgI_use {a ci f : Nat} (h : zgI a ci f = true) : zkd.getD a 0 = ci ∧ zrr a f = none ∧ 2 ≤ a ∧ a < 111 := by
  simp only [zgI, Bool.and_eq_true] at h
  obtain ⟨⟨⟨h1, h2⟩, h3⟩, h4⟩ := h
  exact ⟨Nat.eq_of_beq_eq_true h1, by simpa using h2, Nat.le_of_ble_eq_true h3, (by simp [Nat.blt] at h4; omega)⟩
theorem zgR_use {a ci f r : Nat} (h : zgR a ci f = some r) : zkd.getD a 0 = ci ∧ zrr a f = some r ∧ 2 ≤ a ∧ a < 111 := by
  unfold zgR at h
  cases hb : (Nat.beq (zkd.getD a 0) ci && Nat.ble 2 a && Nat.blt a 111) with
  | false => rw [hb] at h; cases h
  | true =>
    rw [hb] at h
    obtain ⟨h1, h2, h3⟩ := zgO_use (a := a) (ci := ci) hb
    exact ⟨h1, h, h2, h3⟩
theorem zgA_use {t a len : Nat} (h : zgA t a = some len) : zkd.getD a 0 = 1000 + t ∧ zln.getD a 0 = len ∧ 2 ≤ a ∧ a < 111 ∧ ∀ i, zrr a i = none := by
  unfold zgA at h
  cases hb : (Nat.beq (zkd.getD a 0) (1000 + t) && Nat.ble 2 a && Nat.blt a 111 && (zrf.getD a []).isEmpty) with
  | false => rw [hb] at h; cases h
  | true =>
    rw [hb] at h
    rw [Bool.and_eq_true] at hb
    obtain ⟨h1, h2, h3⟩ := zgO_use (a := a) (ci := 1000 + t) hb.1
    have h4 : zrf.getD a [] = [] := by simpa using hb.2
    exact ⟨h1, Option.some.inj h, h2, h3, fun i => by rw [zrr, h4]; rfl⟩
section ZMF
variable {M : zM} {lo : List (Option Value)} {As : List Value} {N : Nat} {w : zH} {mc ms d : Nat}
theorem zMet_ofW {l : Launch} {y : MethodName} {ws ws' : List Cond} {rm : Room} {Pc : Array Value → State → Prop} {Qc : Array Value → State → Outcome → State → Prop} {free : Addr → Prop} {cc : ByteArray} {maxL : Nat} {ret : Option FieldType}
    (hy : plainFor y = true) (hw : ws = Cond.code y cc maxL ret :: ws')
    (body : ∀ p e s m args below meth c s₁, BodyLoose p l y (headSpec ws rm) cc maxL ret e s m args below meth c s₁ → c.maxLocals = maxL → Pc args s →
      W p l e (headSpec ws rm).room s m args below meth c s.heap [] 0 0 (MQ below Qc args s mc ms free) (entryFrame m args maxL)) : Met l y ws rm Pc Qc mc ms free := by
  refine MetFree.of_bodySF (code := cc) (maxLocals := maxL) (ret := ret) hy ?_ ?_
  · intro args s m h hn
    obtain ⟨meth, c, h1, h2, h3, h4, h5, h6, -, -⟩ := Cond.code_spec hn (atoms_spec (ws := ws) h _ (by rw [hw]; exact List.mem_cons_self))
    exact ⟨meth, c, h1, h2, h3, h4, h5, h6⟩
  · intro p e s m args below meth c s₁ B hml hP _
    have hh0 : s₁.heap = s.heap := by rw [B.state]; rfl
    obtain ⟨t, a1, o, b1, b2, b3⟩ := body p e s m args below meth c s₁ B hml hP s₁ hh0 (Stand.of_body B)
    exact ⟨t, o, a1, b1, b2, ⟨b3.1, b3.2⟩⟩
theorem zMt_ofF {Q : zQ} (hy : plainFor M.1 = true) (hl : (zlo As).length ≤ M.2.2.1) (hlo : ∀ (i : Nat) (v : Value), lo[i]? = some (some v) → (zlo As)[i]? = some (some v)) (h : zEV M (zrm d mc ms) (zZ mc ms Q) 0 lo [] N w 0 0) : zMt M d mc ms As N w Q := by
  intro l D q H0
  refine zMet_ofW (cc := M.2.1) (maxL := M.2.2.1) (ret := M.2.2.2) hy rfl ?_
  intro p e s m args below meth c s₁ B hml hv
  obtain ⟨hargs, HW, hK⟩ := hv
  subst hargs
  have hts := atoms_spec (ws := zws M) B.pre
  have hnm : meth.name = M.1.name := (name_of_methodNamed B.named B.method).1
  have hle := lv_entry (As.map (zv q)) (n := M.2.2.1) (by rw [zlo_len]; exact hl)
  rw [lg_entry_eq]
  exact h p l e s m _ below meth c D q H0 ⟨B.exec, B.bytes, B.returns, hml, findClass_of_methodNamed B.named, hts, B.notSynchronized, hnm, hK⟩ s.heap [] _ HW (fun x hx => by cases hx) ⟨hle.1, hle.2.1, fun i v hv => hle.2.2 (i, zv q v) (by
    have := zlo_args As q 0 i v (hlo i v hv)
    simpa using this)⟩
end ZMF
section ZE
variable {M M' : zM} {R : Room} {Z : zZt} {pc pc' tgt : Nat} {lo : List (Option Value)} {st rest As : List Value} {L : Nat} {F F' : zFt} {k n d : Nat} {r : Option Value}
theorem e_getI {idx ci f a : Nat} (hi : zIs M pc (.getfield idx) 3 pc') (hf : zFl M.1.cls idx ci f) (hs : zgI a ci f = true) (kk : zEV M R Z pc' lo (.int (F a f) :: st) 111 (zE L F) k n) : zEV M R Z pc lo (.ref a :: st) 111 (zE L F) k n := by
  obtain ⟨h1, h2, h3, h4⟩ := zgI_use hs
  refine z_get (ci := ci) (f := f) (g := fun i => zfv a i (F a i)) hi hf (by rw [← h1]; rfl) h3 h4 ?_
  have e : zfv a f (F a f) = .int (F a f) := by simp [zfv, h2]
  rw [e]
  exact kk
theorem e_getR {idx ci f a b : Nat} (hi : zIs M pc (.getfield idx) 3 pc') (hf : zFl M.1.cls idx ci f) (hs : zgR a ci f = some b) (kk : zEV M R Z pc' lo (.ref b :: st) 111 (zE L F) k n) : zEV M R Z pc lo (.ref a :: st) 111 (zE L F) k n := by
  obtain ⟨h1, h2, h3, h4⟩ := zgR_use hs
  refine z_get (ci := ci) (f := f) (g := fun i => zfv a i (F a i)) hi hf (by rw [← h1]; rfl) h3 h4 ?_
  have e : zfv a f (F a f) = .ref b := by simp [zfv, h2]
  rw [e]
  exact kk
theorem e_putI {idx ci f a : Nat} {x : Int32} (hi : zIs M pc (.putfield idx) 3 pc') (hf : zFl M.1.cls idx ci f) (hw : zFw ci f .int) (hs : zgI a ci f = true) (kk : zEV M R Z pc' lo st 111 (zE L (zup F a f x)) k n) : zEV M R Z pc lo (.int x :: .ref a :: st) 111 (zE L F) k n := by
  obtain ⟨h1, h2, h3, h4⟩ := zgI_use hs
  refine z_put (ty := .int) hi hf hw (fun q => rfl) (fun q => rfl) (len := (zE L F a).2.1) (g := (zE L F a).2.2) (by rw [← h1]; rfl) h3 h4 ?_
  rw [← h1]
  exact (zE_put (L := L) (F := F) (x := x) h2) ▸ kk
theorem e_putZ {idx ci f a : Nat} {x : Int32} (hi : zIs M pc (.putfield idx) 3 pc') (hf : zFl M.1.cls idx ci f) (hw : zFw ci f .boolean) (hs : zgI a ci f = true) (hx : x = 0 ∨ x = 1) (kk : zEV M R Z pc' lo st 111 (zE L (zup F a f x)) k n) : zEV M R Z pc lo (.int x :: .ref a :: st) 111 (zE L F) k n := by
  obtain ⟨h1, h2, h3, h4⟩ := zgI_use hs
  refine z_put (ty := .boolean) hi hf hw (fun q => by rcases hx with rfl | rfl <;> rfl) (fun q => by rcases hx with rfl | rfl <;> rfl) (len := (zE L F a).2.1) (g := (zE L F a).2.2) (by rw [← h1]; rfl) h3 h4 ?_
  rw [← h1]
  exact (zE_put (L := L) (F := F) (x := x) h2) ▸ kk
theorem zE_arr {t a len : Nat} (h : zgA t a = some len) : zE L F a = (1000 + t, len, fun i => Value.int (F a i)) := by
  obtain ⟨h1, h2, h3, h4, h5⟩ := zgA_use h
  have h0 : ¬ a = 0 := by omega
  simp only [zE, h1, h2, h0, if_false]
  refine Prod.ext rfl (Prod.ext rfl ?_)
  funext i
  simp [zfv, h5]
theorem e_iald {a len : Nat} {i : Int32} (hi : zIs M pc .iaload 1 pc') (hs : zgA 0 a = some len) (hin : vp_in i len) (kk : zEV M R Z pc' lo (.int (F a (zn i)) :: st) 111 (zE L F) k n) : zEV M R Z pc lo (.int i :: .ref a :: st) 111 (zE L F) k n :=
  z_iald hi (zE_arr hs) (zgA_use hs).2.2.1 (zgA_use hs).2.2.2.1 hin kk
theorem e_bald {a len : Nat} {i : Int32} (hi : zIs M pc .baload 1 pc') (hs : zgA 1 a = some len) (hin : vp_in i len) (kk : zEV M R Z pc' lo (.int (F a (zn i)) :: st) 111 (zE L F) k n) : zEV M R Z pc lo (.int i :: .ref a :: st) 111 (zE L F) k n :=
  z_bald hi (zE_arr hs) (zgA_use hs).2.2.1 (zgA_use hs).2.2.2.1 hin kk
theorem zE_putA {t a len i : Nat} {x : Int32} (h : zgA t a = some len) : va_up (zE L F) a (1000 + t, len, updV (fun i => Value.int (F a i)) i (.int x)) = zE L (zup F a i x) := by
  have e := zE_put (L := L) (F := F) (a := a) (i := i) (x := x) ((zgA_use h).2.2.2.2 i)
  rw [zE_arr h] at e
  exact e
theorem e_iast {a len : Nat} {i x : Int32} (hi : zIs M pc .iastore 1 pc') (hs : zgA 0 a = some len) (hin : vp_in i len) (kk : zEV M R Z pc' lo st 111 (zE L (zup F a (zn i) x)) k n) : zEV M R Z pc lo (.int x :: .int i :: .ref a :: st) 111 (zE L F) k n := by
  refine z_iast hi (zE_arr hs) (zgA_use hs).2.2.1 (zgA_use hs).2.2.2.1 hin ?_
  rw [zE_putA hs]
  exact kk
theorem e_bast {a len : Nat} {i x : Int32} (hi : zIs M pc .bastore 1 pc') (hs : zgA 1 a = some len) (hin : vp_in i len) (hx : x = 0 ∨ x = 1) (kk : zEV M R Z pc' lo st 111 (zE L (zup F a (zn i) x)) k n) : zEV M R Z pc lo (.int x :: .int i :: .ref a :: st) 111 (zE L F) k n := by
  refine z_bast hi (zE_arr hs) (zgA_use hs).2.2.1 (zgA_use hs).2.2.2.1 hin hx ?_
  rw [zE_putA hs]
  exact kk
theorem e_aald {i : Int32} (hi : zIs M pc .aaload 1 pc') (hin : vp_in i 8) (kk : zEV M R Z pc' lo (.ref (5 * zn i + 35) :: st) 111 (zE L F) k n) : zEV M R Z pc lo (.int i :: .ref 34 :: st) 111 (zE L F) k n := by
  have hlt : i.toNatClampNeg < 8 := Nat.not_le.mp fun q => hin (Or.inr q)
  refine z_aald (a := 34) (len := 8) (g := fun i => zfv 34 i (F 34 i)) hi rfl (by decide) (by decide) hin ?_
  have e : ∀ j, j < 8 → zfv 34 j (F 34 j) = .ref (5 * j + 35) := by
    intro j hj
    rcases (show j = 0 ∨ j = 1 ∨ j = 2 ∨ j = 3 ∨ j = 4 ∨ j = 5 ∨ j = 6 ∨ j = 7 by omega) with rfl | rfl | rfl | rfl | rfl | rfl | rfl | rfl <;> rfl
  show zEV M R Z pc' lo (zfv 34 i.toNatClampNeg (F 34 i.toNatClampNeg) :: st) 111 (zE L F) k n
  rw [e _ hlt]
  exact kk
/-! contracts -/
def zFn (M : zM) (d : Nat) (As : List Value) (L : Nat) (F : zFt) (r : Option Value) (F' : zFt) : Prop := zMt M d 0 0 As 111 (zE L F) (fun r' N w => r' = r ∧ N = 111 ∧ w = zE L F')
abbrev zZf (L : Nat) (r : Option Value) (F' : zFt) : zZt := zZ 0 0 (fun r' N w => r' = r ∧ N = 111 ∧ w = zE L F')
theorem e_of (hy : plainFor M.1 = true) (hl : (zlo As).length ≤ M.2.2.1) (hlo : lo = zlo As ++ List.replicate (M.2.2.1 - (zlo As).length) none) (h : zEV M (zrm d 0 0) (zZf L r F') 0 lo [] 111 (zE L F) 0 0) : zFn M d As L F r F' := by
  refine zMt_ofF hy hl (fun i v hv => ?_) h
  subst hlo
  by_cases hi : i < (zlo As).length
  · rwa [List.getElem?_append_left hi] at hv
  · rw [List.getElem?_append_right (by omega), List.getElem?_replicate] at hv
    split at hv <;> simp at hv
theorem e_iret {v : Int32} (hi : zIs M pc .ireturn 1 pc') (hr : M.2.2.2 = some .int) (h : some (.int v) = r ∧ F = F') : zEV M R (zZf L r F') pc lo [.int v] 111 (zE L F) 0 0 :=
  z_iret hi hr ⟨h.1, rfl, by rw [h.2]⟩ (Nat.le_refl 0) (Nat.le_refl 0)
theorem e_bret {v : Int32} (hi : zIs M pc .ireturn 1 pc') (hr : M.2.2.2 = some .boolean) (hv : v = 0 ∨ v = 1) (h : some (.int v) = r ∧ F = F') : zEV M R (zZf L r F') pc lo [.int v] 111 (zE L F) 0 0 :=
  z_bret hi hr hv ⟨h.1, rfl, by rw [h.2]⟩ (Nat.le_refl 0) (Nat.le_refl 0)
theorem e_lret {v : Int64} (hi : zIs M pc .lreturn 1 pc') (hr : M.2.2.2 = some .long) (h : some (.long v) = r ∧ F = F') : zEV M R (zZf L r F') pc lo [.long v] 111 (zE L F) 0 0 :=
  z_lret hi hr ⟨h.1, rfl, by rw [h.2]⟩ (Nat.le_refl 0) (Nat.le_refl 0)
theorem e_vret (hi : zIs M pc .return_ 1 pc') (hr : M.2.2.2 = none) (h : none = r ∧ F = F') : zEV M R (zZf L r F') pc lo [] 111 (zE L F) 0 0 :=
  z_vret hi hr ⟨h.1, rfl, by rw [h.2]⟩ (Nat.le_refl 0) (Nat.le_refl 0)
theorem e_aret {a : Nat} {nm : String} (hi : zIs M pc .areturn 1 pc') (hr : M.2.2.2 = some (.object nm)) (h : some (.ref a) = r ∧ F = F') : zEV M R (zZf L r F') pc lo [.ref a] 111 (zE L F) 0 0 :=
  z_aret hi hr ⟨h.1, rfl, by rw [h.2]⟩ (Nat.le_refl 0) (Nat.le_refl 0)
theorem e_callV {idx ar ci b : Nat} (hi : zIs M pc (.invokevirtual idx) 3 pc') (hc : zCv M.1.cls idx M' ar ci) (hM : zFn M' d (.ref b :: As) L F r F') (hn : As.length = ar) (hst : As.reverse ++ .ref b :: rest = st) (hs : zgO b ci = true)
    (hR : d + 1 ≤ R.frames ∧ 8 + (M'.2.2.1 + 11) + 36 * d ≤ R.locals) (hf : k ≤ R.cells ∧ n ≤ R.slots) (hcat : (rest.map fun v => v.category).sum ≤ 8)
    (kk : zEV M R Z pc' lo (r.toList ++ rest) 111 (zE L F') k n) : zEV M R Z pc lo st 111 (zE L F) k n := by
  obtain ⟨h1, h2, h3⟩ := zgO_use hs
  refine z_callV (g := (zE L F b).2.2) (len := (zE L F b).2.1) hi hc hM hn hst (by rw [← h1]; rfl) h2 h3 hR hf hcat ?_
  rintro r' N' w' ⟨rfl, rfl, rfl⟩
  exact kk
theorem e_callS {idx ar : Nat} (hi : zIs M pc (.invokestatic idx) 3 pc') (hc : zCs M.1.cls idx M' ar) (hM : zFn M' d As L F r F') (hn : As.length = ar) (hst : As.reverse ++ rest = st)
    (hR : d + 1 ≤ R.frames ∧ 8 + (M'.2.2.1 + 11) + 36 * d ≤ R.locals) (hf : k ≤ R.cells ∧ n ≤ R.slots) (hcat : (rest.map fun v => v.category).sum ≤ 8)
    (kk : zEV M R Z pc' lo (r.toList ++ rest) 111 (zE L F') k n) : zEV M R Z pc lo st 111 (zE L F) k n := by
  refine z_callS hi hc hM hn hst hR hf hcat ?_
  rintro r' N' w' ⟨rfl, rfl, rfl⟩
  exact kk
end ZE
/-! numbers -/
theorem tI_add (a b : Int32) : (a + b).toInt = (a.toInt + b.toInt + 2147483648) % 4294967296 - 2147483648 := by
  rw [Int32.toInt_add, Int.bmod_def]
  omega
theorem tI_sub (a b : Int32) : (a - b).toInt = (a.toInt - b.toInt + 2147483648) % 4294967296 - 2147483648 := by
  rw [Int32.toInt_sub, Int.bmod_def]
  omega
theorem tI_mul (a b : Int32) : (a * b).toInt = (a.toInt * b.toInt + 2147483648) % 4294967296 - 2147483648 := by
  rw [Int32.toInt_mul, Int.bmod_def]
  omega
theorem tI_neg (a : Int32) : (-a).toInt = (-a.toInt + 2147483648) % 4294967296 - 2147483648 := by
  rw [Int32.toInt_neg, Int.bmod_def]
  omega
theorem tI_lo (a : Int32) : -2147483648 ≤ a.toInt := Int32.le_toInt a
theorem tI_hi (a : Int32) : a.toInt < 2147483648 := Int32.toInt_lt a
theorem tI_cl (a : Int32) : a.toNatClampNeg = a.toInt.toNat := rfl
theorem tI_eq {a b : Int32} : a = b ↔ a.toInt = b.toInt := Int32.toInt_inj.symm
def zb (p : Bool) : Int32 := bif p then 1 else 0
theorem zb_01 (p : Bool) : zb p = 0 ∨ zb p = 1 := by cases p <;> simp [zb]
theorem zb_0 {p : Bool} : zb p = 0 ↔ p = false := by cases p <;> simp [zb]
theorem zb_n {p : Bool} : ¬ zb p = 0 ↔ p = true := by cases p <;> simp [zb]
