section ZCL
variable {M M' : zM} {R : Room} {Z : zZt} {pc pc' tgt : Nat} {lo : List (Option Value)} {st rest As : List Value} {N : Nat} {w : zH} {k n mc ms d : Nat} {Q' : zQ}
theorem zT_good : GoodIn (zws M) zT := fun wd h => ⟨List.mem_cons_of_mem _ h, good_of_word (List.mem_filter.mp h).2⟩
/-- what the tables say of a call of M' -/
def zCn (M' : zM) (ar : Nat) : Prop := Cond.code M'.1 M'.2.1 M'.2.2.1 M'.2.2.2 ∈ zT ∧ Cond.initialized M'.1.cls ∈ zT ∧ M'.1.cls ≠ "java/lang/invoke/MethodHandle" ∧ M'.1.cls ≠ "java/lang/invoke/VarHandle" ∧ (parseMethodDescriptor M'.1.desc).map (fun x => x.parameters.length) = some ar
theorem zws_good (h : Cond.code M'.1 M'.2.1 M'.2.2.1 M'.2.2.2 ∈ zT) : GoodIn (zws M) (zws M') := fun wd hw => (List.mem_cons.mp hw).elim (fun e => by subst e; exact zT_good _ h) (fun h2 => zT_good wd h2)
theorem zB_of {p : Program} {s : State} {m : MethodId} {args : Array Value} {meth : Method} {c : Code} {D : zG} {q : Nat → Nat} {H0 : Heap} {ar idx : Nat} (C : zCx M p s m args meth c D q H0) (hc : zCn M' ar) (hl : Cond.methodLink M.1.cls idx M'.1 ∈ zT) (hR : d + 1 ≤ R.frames ∧ 8 + (M'.2.2.1 + 11) + 36 * d ≤ R.locals) :
    CallB R s args M.1.cls idx M'.1 M'.2.1 M'.2.2.1 M'.2.2.2 (zws M') (zrm d mc ms) mc ms ar :=
  callB_of ar C.2.2.2.2.2.1 (zws_good hc.1) rfl rfl rfl (zT_use C hc.2.1) (zT_use C hl) hc.2.2 hR
theorem zPc_pre {s : State} {D : zG} {q : Nat → Nat} {H0 H : Heap} (hK : zK D q H0 s) (HW : zW D q H0 N w H) :
    FrameBlind (va_Pc (As.map (zv q)) (fun U => zW D q H0 N w U.heap ∧ zK D q H0 U)) ∧ ∀ U : State, U.heap = H → s.WarmedH U.vm → va_Pc (As.map (zv q)) (fun U => zW D q H0 N w U.heap ∧ zK D q H0 U) (As.map (zv q)).toArray U := by
  refine ⟨fun a U g mk h => ⟨h.1, h.2.1, ?_⟩, fun U hU hWm => ⟨rfl, by rw [hU]; exact HW, zK_moved hWm hK⟩⟩
  exact zK_same (s := U) (U := U.calling g mk a) rfl h.2.2
/-- behind a call -/
theorem z_after {p : Program} {l : Launch} {e : Env} {s : State} {m : MethodId} {args : Array Value} {below : List Frame} {meth : Method} {c : Code} {D : zG} {q : Nat → Nat} {H0 : Heap} {H : Heap} {locs : List Loc} {ls : Array Slot} {a : Array Value}
    (C : zCx M p s m args meth c D q H0) (HC : zLc q locs) (HL : zL q M.2.2.1 lo ls)
    (hr : va_Run p l e R s m args below meth c H locs k n mc ms (F0 m pc ls (st.map (zv q))) (rest.map (zv q)) (zPo D q H0 Q' a) (fun x => q 2 ≤ x))
    (kk : ∀ (r : Option Value) (N' : Nat) (w' : zH), Q' r N' w' → zEV M R Z (pc + 3) lo (r.toList ++ rest) N' w' (k + mc) (n + ms)) :
    W p l e R s m args below meth c H locs k n (Z below args s D q H0) (F0 m pc ls (st.map (zv q))) := by
  intro T hT X
  obtain ⟨v, st₀, t, T', L, h0, X', hL, e1, e2, ⟨r, N', w', hQ, hv, hW'⟩, hgo⟩ := hr T hT X
  have hv2 : v = r.map (zv q) := by
    have := Outcome.returned.inj hv
    exact this
  subst hv2
  have K := kk r N' w' hQ p l e s m args below meth c D q H0 C t.heap (locs ++ L) ls hW' (fun x hx => (List.mem_append.mp hx).elim (HC x) (hL x)) HL
  obtain ⟨t2, a1, b1⟩ := K T' e1 X'
  refine ⟨t2, hgo t2 ?_, b1⟩
  have es : (Option.map (zv q) r).toList ++ rest.map (zv q) = (r.toList ++ rest).map (zv q) := by cases r <;> simp
  show Steps p.tables e below (T'.setTop { F0 m pc ls (st.map (zv q)) with pc := pc + 3, stack := (Option.map (zv q) r).toList ++ rest.map (zv q) }) t2
  rw [es]
  exact a1
theorem z_catsum {q : Nat → Nat} (h : (rest.map fun v => v.category).sum ≤ 8) : ((rest.map (zv q)).map fun v => v.category).sum ≤ 8 := by
  rw [List.map_map]
  have e : (fun v => Value.category v) ∘ zv q = fun v => v.category := by funext v; exact zv_cat q v
  rw [e]
  exact h
theorem z_recv {s : State} {D : zG} {q : Nat → Nat} {H0 H : Heap} {b ci len : Nat} {g : Nat → Value} {C : String} (hK : zK D q H0 s) (HW : zW D q H0 N w H) (hw : w b = (ci, len, g)) (hb : 2 ≤ b) (hbN : b < N) (hci : ci < 1000) (hC : ∃ r : vw_C, vwCl[ci]? = some r ∧ r.1 = C) :
    ∃ cellB : Cell, H[q b]? = some cellB ∧ cellB.vm.isStatics = false ∧ s.vm.findClass C = some cellB.cls := by
  obtain ⟨r, hr, rfl⟩ := hC
  have hc := (HW.2.2.1 b hb hbN).1 (by rw [hw]; exact hci)
  rw [hw] at hc
  obtain ⟨r', hr', cell, q1, q2, q3, q4⟩ := hc
  exact ⟨cell, q1, by rw [q3]; rfl, by rw [q2]; exact (hK.1 ci r hr).2.1⟩
/-- invokevirtual of a method of the receiver's own kind -/
def zCv (own : String) (idx : Nat) (M' : zM) (ar ci : Nat) : Prop := zCn M' ar ∧ Cond.methodLink own idx M'.1 ∈ zT ∧ Cond.instanceMethod M'.1 ∈ zT ∧ Cond.selects M'.1.cls M'.1 M'.1 ∈ zT ∧ ci < 1000 ∧ ∃ r : vw_C, vwCl[ci]? = some r ∧ r.1 = M'.1.cls
theorem z_callV {idx ar ci b len : Nat} {g : Nat → Value} (hi : zIs M pc (.invokevirtual idx) 3 pc') (hc : zCv M.1.cls idx M' ar ci) (hM : zMt M' d mc ms (.ref b :: As) N w Q') (hn : As.length = ar) (hst : As.reverse ++ .ref b :: rest = st) (hw : w b = (ci, len, g)) (hb : 2 ≤ b) (hbN : b < N)
    (hR : d + 1 ≤ R.frames ∧ 8 + (M'.2.2.1 + 11) + 36 * d ≤ R.locals) (hf : k + mc ≤ R.cells ∧ n + ms ≤ R.slots) (hcat : (rest.map fun v => v.category).sum ≤ 8)
    (kk : ∀ (r : Option Value) (N' : Nat) (w' : zH), Q' r N' w' → zEV M R Z pc' lo (r.toList ++ rest) N' w' (k + mc) (n + ms)) : zEV M R Z pc lo st N w k n := by
  intro p l e s m args below meth c D q H0 C H locs ls HW HC HL
  obtain ⟨hd, rfl⟩ := hi
  obtain ⟨hc1, hl, hin, hsel, hci, hC⟩ := hc
  have hK := C.2.2.2.2.2.2.2.2
  have hp := zPc_pre (As := .ref b :: As) hK HW
  subst hst
  refine z_after (rest := rest) C HC HL (va_runV (As := As.map (zv q)) (b := q b) ⟨C.1, C.2.1, C.2.2.2.1, C.2.2.2.2.1, C.2.2.2.2.2.1⟩ (hM l D q H0) ⟨zB_of C hc1 hl hR, zT_use C hin, zT_use C hsel⟩ ⟨hp.1, z_recv hK HW hw hb hbN hci hC, hp.2⟩ rfl (by rw [List.length_map]; exact hn) HL.1 ?_ (lv_room (z_catsum hcat)) hd hf) kk
  show List.map (zv q) (As.reverse ++ .ref b :: rest) = _
  simp [zv]
def zCs (own : String) (idx : Nat) (M' : zM) (ar : Nat) : Prop := zCn M' ar ∧ Cond.methodLink own idx M'.1 ∈ zT ∧ Cond.static M'.1 ∈ zT
theorem z_callS {idx ar : Nat} (hi : zIs M pc (.invokestatic idx) 3 pc') (hc : zCs M.1.cls idx M' ar) (hM : zMt M' d mc ms As N w Q') (hn : As.length = ar) (hst : As.reverse ++ rest = st)
    (hR : d + 1 ≤ R.frames ∧ 8 + (M'.2.2.1 + 11) + 36 * d ≤ R.locals) (hf : k + mc ≤ R.cells ∧ n + ms ≤ R.slots) (hcat : (rest.map fun v => v.category).sum ≤ 8)
    (kk : ∀ (r : Option Value) (N' : Nat) (w' : zH), Q' r N' w' → zEV M R Z pc' lo (r.toList ++ rest) N' w' (k + mc) (n + ms)) : zEV M R Z pc lo st N w k n := by
  intro p l e s m args below meth c D q H0 C H locs ls HW HC HL
  obtain ⟨hd, rfl⟩ := hi
  obtain ⟨hc1, hl, hin⟩ := hc
  have hK := C.2.2.2.2.2.2.2.2
  have hp := zPc_pre (As := As) hK HW
  subst hst
  refine z_after (rest := rest) C HC HL (va_runS (As := As.map (zv q)) ⟨C.1, C.2.1, C.2.2.2.1, C.2.2.2.2.1, C.2.2.2.2.2.1⟩ (hM l D q H0) ⟨zB_of C hc1 hl hR, zT_use C hin⟩ hp rfl (by rw [List.length_map]; exact hn) HL.1 ?_ (lv_room (z_catsum hcat)) hd hf) kk
  show List.map (zv q) (As.reverse ++ rest) = _
  simp
/-- a constructor's call -/
def zCi (own : String) (idx : Nat) (M' : zM) (ar : Nat) : Prop := zCn M' ar ∧ Cond.methodLink own idx M'.1 ∈ zT ∧ Cond.instanceMethod M'.1 ∈ zT ∧ M'.1.name = "<init>" ∧ M'.2.2.2 = none
theorem z_callI {idx ar b : Nat} (hi : zIs M pc (.invokespecial idx) 3 pc') (hc : zCi M.1.cls idx M' ar) (hM : zMt M' d mc ms (.ref b :: As) N w Q') (hn : As.length = ar) (hst : As.reverse ++ .ref b :: rest = st)
    (hR : d + 1 ≤ R.frames ∧ 8 + (M'.2.2.1 + 11) + 36 * d ≤ R.locals) (hf : k + mc ≤ R.cells ∧ n + ms ≤ R.slots) (hcat : (rest.map fun v => v.category).sum ≤ 8)
    (kk : ∀ (r : Option Value) (N' : Nat) (w' : zH), Q' r N' w' → zEV M R Z pc' lo (r.toList ++ rest) N' w' (k + mc) (n + ms)) : zEV M R Z pc lo st N w k n := by
  intro p l e s m args below meth c D q H0 C H locs ls HW HC HL
  obtain ⟨hd, rfl⟩ := hi
  obtain ⟨hc1, hl, hin, hnm, hret⟩ := hc
  have hK := C.2.2.2.2.2.2.2.2
  have hp := zPc_pre (As := .ref b :: As) hK HW
  have hB := zB_of (mc := mc) (ms := ms) C hc1 hl hR
  rw [hret] at hB
  subst hst
  refine z_after (rest := rest) C HC HL (va_runI (As := As.map (zv q)) (b := q b) ⟨C.1, C.2.1, C.2.2.2.1, C.2.2.2.2.1, C.2.2.2.2.2.1⟩ (hM l D q H0) ⟨hB, hnm, zT_use C hin⟩ hp rfl (by rw [List.length_map]; exact hn) HL.1 ?_ (lv_room (z_catsum hcat)) hd hf) kk
  show List.map (zv q) (As.reverse ++ .ref b :: rest) = _
  simp [zv]
/-- a constructor's call among nest mates -/
def zCj (own : String) (idx : Nat) (M' : zM) (ar : Nat) (host : String) : Prop := zCn M' ar ∧ Cond.methodLinkNest own idx M'.1 host ∈ zNest ∧ Cond.instanceMethod M'.1 ∈ zT ∧ M'.1.name = "<init>" ∧ M'.2.2.2 = none
theorem z_callJ {idx ar b : Nat} {host : String} (hi : zIs M pc (.invokespecial idx) 3 pc') (hc : zCj M.1.cls idx M' ar host) (hM : zMt M' d mc ms (.ref b :: As) N w Q') (hn : As.length = ar) (hst : As.reverse ++ .ref b :: rest = st)
    (hR : d + 1 ≤ R.frames ∧ 8 + (M'.2.2.1 + 11) + 36 * d ≤ R.locals) (hf : k + mc ≤ R.cells ∧ n + ms ≤ R.slots) (hcat : (rest.map fun v => v.category).sum ≤ 8)
    (kk : ∀ (r : Option Value) (N' : Nat) (w' : zH), Q' r N' w' → zEV M R Z pc' lo (r.toList ++ rest) N' w' (k + mc) (n + ms)) : zEV M R Z pc lo st N w k n := by
  intro p l e s m args below meth c D q H0 C H locs ls HW HC HL
  obtain ⟨hd, rfl⟩ := hi
  obtain ⟨hc1, hl, hin, hnm, hret⟩ := hc
  have hK := C.2.2.2.2.2.2.2.2
  have hp := zPc_pre (As := .ref b :: As) hK HW
  have hB := va_cnB (rm := zrm d mc ms) (R := R) (bytes := M'.2.1) (maxL := M'.2.2.1) (ret := M'.2.2.2) ar C.2.2.2.2.2.1 (zws_good hc1.1) rfl rfl rfl (hK.2.2.2.2.2.2.2.1 _ hl) (zT_use C hc1.2.1) hc1.2.2 hR
  rw [hret] at hB
  subst hst
  refine z_after (rest := rest) C HC HL (va_runIN (As := As.map (zv q)) (b := q b) ⟨C.1, C.2.1, C.2.2.2.1, C.2.2.2.2.1, C.2.2.2.2.2.1⟩ (hM l D q H0) ⟨hB, hnm, zT_use C hin⟩ hp rfl (by rw [List.length_map]; exact hn) HL.1 ?_ (lv_room (z_catsum hcat)) hd hf) kk
  show List.map (zv q) (As.reverse ++ .ref b :: rest) = _
  simp [zv]
theorem z_objInit {idx a : Nat} (hi : zIs M pc (.invokespecial idx) 3 pc') (hl : Cond.methodLink M.1.cls idx objectInit ∈ zT) (h1 : Cond.instanceMethod objectInit ∈ zT) (h2 : Cond.code objectInit ⟨#[0xb1]⟩ 1 none ∈ zT) (hR : 1 ≤ R.frames ∧ (rest.map fun v => v.category).sum + 12 ≤ R.locals) (kk : zEV M R Z pc' lo rest N w k n) : zEV M R Z pc lo (.ref a :: rest) N w k n := by
  intro p l e s m args below meth c D q H0 C H locs ls HW HC HL
  obtain ⟨hd, rfl⟩ := hi
  refine W.objInit (a := q a) (rest := rest.map (zv q)) C.1 C.2.1 C.2.2.2.2.1 (zT_use C hl) (zT_use C h1) (zT_use C h2) rfl (HL.1.trans C.2.2.2.1.symm) rfl hd hR.1 ?_ (kk p l e s m args below meth c D q H0 C H locs ls HW HC HL)
  have e : ((rest.map (zv q)).map fun v => v.category).sum = (rest.map fun v => v.category).sum := by
    rw [List.map_map]
    have e : (fun v => Value.category v) ∘ zv q = fun v => v.category := by funext v; exact zv_cat q v
    rw [e]
  show 2 * 0 + ((rest.map (zv q)).map fun v => v.category).sum + 12 ≤ R.locals
  rw [e]
  omega
/-! ends -/
theorem z_iret {Q : zQ} {v : Int32} (hi : zIs M pc .ireturn 1 pc') (hr : M.2.2.2 = some .int) (hQ : Q (some (.int v)) N w) (hk : k ≤ mc) (hn : n ≤ ms) : zEV M R (zZ mc ms Q) pc lo [.int v] N w k n := by
  intro p l e s m args below meth c D q H0 C H locs ls HW HC HL
  obtain ⟨hd, -⟩ := hi
  refine W.widen hk hn ?_
  exact W.iret C.1 C.2.1 (C.2.2.1.trans hr) (fun t ht _ => ⟨_, _, _, hQ, rfl, by rw [ht]; exact HW⟩) HC hd C.2.2.2.2.2.2.1
theorem z_bret {Q : zQ} {v : Int32} (hi : zIs M pc .ireturn 1 pc') (hr : M.2.2.2 = some .boolean) (hv : v = 0 ∨ v = 1) (hQ : Q (some (.int v)) N w) (hk : k ≤ mc) (hn : n ≤ ms) : zEV M R (zZ mc ms Q) pc lo [.int v] N w k n := by
  intro p l e s m args below meth c D q H0 C H locs ls HW HC HL
  obtain ⟨hd, -⟩ := hi
  refine W.widen hk hn ?_
  exact W.zret C.1 C.2.1 (C.2.2.1.trans hr) (by rcases hv with rfl | rfl <;> rfl) (fun t ht _ => ⟨_, _, _, hQ, rfl, by rw [ht]; exact HW⟩) HC hd C.2.2.2.2.2.2.1
theorem z_lret {Q : zQ} {v : Int64} (hi : zIs M pc .lreturn 1 pc') (hr : M.2.2.2 = some .long) (hQ : Q (some (.long v)) N w) (hk : k ≤ mc) (hn : n ≤ ms) : zEV M R (zZ mc ms Q) pc lo [.long v] N w k n := by
  intro p l e s m args below meth c D q H0 C H locs ls HW HC HL
  obtain ⟨hd, -⟩ := hi
  refine W.widen hk hn ?_
  exact W.lret C.1 C.2.1 (C.2.2.1.trans hr) (fun t ht _ => ⟨_, _, _, hQ, rfl, by rw [ht]; exact HW⟩) HC hd C.2.2.2.2.2.2.1
theorem z_vret {Q : zQ} (hi : zIs M pc .return_ 1 pc') (hr : M.2.2.2 = none) (hQ : Q none N w) (hk : k ≤ mc) (hn : n ≤ ms) : zEV M R (zZ mc ms Q) pc lo [] N w k n := by
  intro p l e s m args below meth c D q H0 C H locs ls HW HC HL
  obtain ⟨hd, -⟩ := hi
  refine W.widen hk hn ?_
  exact W.vret C.1 C.2.1 (C.2.2.1.trans hr) (fun t ht _ => ⟨_, _, _, hQ, rfl, by rw [ht]; exact HW⟩) HC hd C.2.2.2.2.2.2.1
theorem z_aret {Q : zQ} {a : Nat} {nm : String} (hi : zIs M pc .areturn 1 pc') (hr : M.2.2.2 = some (.object nm)) (hQ : Q (some (.ref a)) N w) (hk : k ≤ mc) (hn : n ≤ ms) : zEV M R (zZ mc ms Q) pc lo [.ref a] N w k n := by
  intro p l e s m args below meth c D q H0 C H locs ls HW HC HL
  obtain ⟨hd, -⟩ := hi
  refine W.widen hk hn ?_
  exact W.aret C.1 C.2.1 (C.2.2.1.trans hr) (Or.inl ⟨_, rfl⟩) (Or.inr ⟨_, rfl⟩) (fun t ht _ => ⟨_, _, _, hQ, rfl, by rw [ht]; exact HW⟩) HC hd C.2.2.2.2.2.2.1
/-! the entry -/
theorem zlo_args : ∀ (As : List Value) (q : Nat → Nat) (i j : Nat) (v : Value), (zlo As)[j]? = some (some v) → (i + j, zv q v) ∈ lv_args i (As.map (zv q))
  | [], q, i, j, v, h => by simp [zlo] at h
  | a :: r, q, i, j, v, h => by
    simp only [List.map_cons, lv_args, zv_cat]
    by_cases hc : a.category = 2
    · simp only [zlo, hc, if_true] at h ⊢
      match j, h with
      | 0, h => simp at h; subst h; exact List.mem_cons_self
      | 1, h => simp at h
      | j + 2, h =>
        simp at h
        have := zlo_args r q (i + 2) j v h
        rw [show i + 2 + j = i + (j + 2) by omega] at this
        exact List.mem_cons_of_mem _ this
    · simp only [zlo, hc, if_false] at h ⊢
      match j, h with
      | 0, h => simp at h; subst h; exact List.mem_cons_self
      | j + 1, h =>
        simp at h
        have := zlo_args r q (i + 1) j v h
        rw [show i + 1 + j = i + (j + 1) by omega] at this
        exact List.mem_cons_of_mem _ this
theorem zlo_len : ∀ (As : List Value) (q : Nat → Nat), (lg_sl (As.map (zv q))).length = (zlo As).length
  | [], q => rfl
  | a :: r, q => by
    have ih := zlo_len r q
    simp only [lg_sl, List.map_cons, List.flatMap_cons, List.length_append, zv_cat] at ih ⊢
    by_cases hc : a.category = 2
    · simp [hc, zlo, ih]; omega
    · simp [hc, zlo, ih]; omega
theorem zMt_of {Q : zQ} (hy : plainName M.1.cls = true) (hl : (zlo As).length ≤ M.2.2.1) (hlo : ∀ (i : Nat) (v : Value), lo[i]? = some (some v) → (zlo As)[i]? = some (some v)) (h : zEV M (zrm d mc ms) (zZ mc ms Q) 0 lo [] N w 0 0) : zMt M d mc ms As N w Q := by
  intro l D q H0
  refine Met.ofW (cc := M.2.1) (maxL := M.2.2.1) (ret := M.2.2.2) hy rfl ?_
  intro p e s m args below meth c s₁ B hml hv
  obtain ⟨hargs, HW, hK⟩ := hv
  subst hargs
  have hts := atoms_spec (ws := zws M) B.pre
  have hnm : meth.name = M.1.name := (name_of_methodNamed B.named B.method).1
  have hle := lv_entry (As.map (zv q)) (n := M.2.2.1) (by rw [zlo_len]; exact hl)
  rw [lg_entry_eq]
  exact h p l e s m _ below meth c D q H0 ⟨B.exec, B.bytes, B.returns, hml, findClass_of_methodNamed B.named, hts, B.notSynchronized, hnm, hK⟩ s.heap [] _ HW (fun x hx => by cases hx) ⟨hle.1, hle.2.1, fun i v hv => hle.2.2 (i, zv q v) (by
    have := zlo_args As q 0 i v (hlo i v hv)
    simpa using this)⟩
/-- a weaker end -/
theorem zMt_mono {Q Q2 : zQ} (h : zMt M d mc ms As N w Q) (hQ : ∀ r N w, Q r N w → Q2 r N w) : zMt M d mc ms As N w Q2 := by
  intro l D q H0 p e ha hc hk s m args below hf happ hP hfit
  obtain ⟨k, o, h1, h2, h3, h4⟩ := h l D q H0 p e ha hc hk s m args below hf happ hP hfit
  obtain ⟨⟨r, N', w', hq, h5, h6⟩, h7⟩ := h4
  exact ⟨k, o, h1, h2, h3, ⟨r, N', w', hQ r N' w' hq, h5, h6⟩, h7⟩
end ZCL
