/-! A calculus over the machine: states of a method are (place, locals, operands, cells by number). A reference is the number of its cell; q gives its address. Cell 0 is the script, cell 1 the constant row of the ledger; both are only read. -/
abbrev zc : Type := Nat × Nat × (Nat → Value)
abbrev zH : Type := Nat → zc
/-- class numbers, their slots, array kinds, the script's length, the script -/
abbrev zG : Type := (Nat → ClassId) × (Nat → Nat → Nat) × (Nat → ClassId) × Nat × (Nat → Int32)
abbrev zM : Type := MethodName × ByteArray × Nat × Option FieldType
abbrev zQ : Type := Option Value → Nat → zH → Prop
def zv (q : Nat → Nat) (v : Value) : Value := match v with
  | .ref k => .ref (q k)
  | v => v
theorem zv_cat (q : Nat → Nat) (v : Value) : (zv q v).category = v.category := by cases v <;> rfl
def zT : List Cond := lw_tbl.filter goodWord
def zws (M : zM) : List Cond := Cond.code M.1 M.2.1 M.2.2.1 M.2.2.2 :: zT
def zty : List FieldType := [.int, .boolean, .object RX4]
def zka : Nat → Int32 := fun k => ([0, 0, 1, 1, 0, 4, 4, 0, 7, 0, 9, 0] : List Int32).getD k 0
def zqo (q : Nat → Nat) : Prop := q 0 < q 2 ∧ q 1 < q 2 ∧ ∀ k, q (2 + k) = q 2 + k
theorem zqo_ge {q : Nat → Nat} (h : zqo q) {k : Nat} (hk : 2 ≤ k) : q k = q 2 + (k - 2) := by
  have e := h.2.2 (k - 2)
  rw [show 2 + (k - 2) = k by omega] at e
  exact e
theorem zqo_ne {q : Nat → Nat} (h : zqo q) {j k : Nat} (hk : 2 ≤ k) (hj : j ≠ k) : q j ≠ q k := by
  have e := zqo_ge h hk
  rcases Nat.lt_or_ge j 2 with hl | hl
  · have h0 := h.1
    have h1 := h.2.1
    rcases (show j = 0 ∨ j = 1 by omega) with rfl | rfl <;> omega
  · have e2 := zqo_ge h hl
    omega
def zok (D : zG) (q : Nat → Nat) (a : Nat) (x : zc) (H : Heap) : Prop :=
  (x.1 < 1000 → ∃ r : vw_C, vwCl[x.1]? = some r ∧ t_OB a (D.1 x.1) r.2.2 (D.2.1 x.1) H (fun j => zv q (x.2.2 j))) ∧
  (1000 ≤ x.1 → H[a]? = some (arrV (D.2.2.1 (x.1 - 1000)) x.2.1 (fun j => zv q (x.2.2 j))))
theorem zok.kept {D : zG} {q : Nat → Nat} {a : Nat} {x : zc} {H H1 : Heap} (h : zok D q a x H) (hq : H1[a]? = H[a]?) : zok D q a x H1 := by
  refine ⟨fun h1 => ?_, fun h1 => ?_⟩
  · obtain ⟨r, e1, e2⟩ := h.1 h1
    exact ⟨r, e1, e2.kept hq⟩
  · exact hq.trans (h.2 h1)
def zW (D : zG) (q : Nat → Nat) (H0 : Heap) (N : Nat) (w : zH) (H : Heap) : Prop :=
  2 ≤ N ∧ H.size = q N ∧ (∀ k, 2 ≤ k → k < N → zok D q (q k) (w k) H) ∧ (∀ a, a < q 2 → H[a]? = H0[a]?) ∧ (w 0).2.1 = D.2.2.2.1 ∧ ∀ i, (w 0).2.2 i = .int (D.2.2.2.2 i)
def zLc (q : Nat → Nat) (locs : List Loc) : Prop := ∀ x ∈ locs, q 2 ≤ x.base
def zNest : List Cond := [.methodLinkNest RX7 11 yX6_init RX7, .methodLinkNest RX7 36 yX3_init RX7, .methodLinkNest RX7 43 yX0_init RX7, .methodLinkNest RX7 50 yX1_init RX7, .methodLinkNest RX7 81 yX4_init RX7]
/-- what the tables, and the heap at the law's start, say -/
def zK (D : zG) (q : Nat → Nat) (H0 : Heap) (U : State) : Prop :=
  (∀ (c : Nat) (r : vw_C), vwCl[c]? = some r → u_Kn U r.1 r.2.1 r.2.2 (D.1 c) (D.2.1 c)) ∧
  (∀ (t : Nat) (ty : FieldType), zty[t]? = some ty → ArrOfT U (D.2.2.1 t) ty ∧ va_RA U (D.2.2.1 t) ty) ∧
  zqo q ∧ q 2 = H0.size ∧ va_Z RX7 "KIND_ABOVE" "[I" (.ref (q 1)) (fun a => q 2 ≤ a) U H0 ∧
  va_X (q 0) D.2.2.2.1 D.2.2.2.2 U H0 ∧ va_X (q 1) 12 zka U H0 ∧
  (∀ wd ∈ zNest, va_Nw wd U) ∧ va_AO RX4 U
def zCx (M : zM) (p : Program) (s : State) (m : MethodId) (args : Array Value) (meth : Method) (c : Code) (D : zG) (q : Nat → Nat) (H0 : Heap) : Prop :=
  p.tables.exec = Jvm.exec ∧ c.code = M.2.1 ∧ meth.sig.returnType = M.2.2.2 ∧ c.maxLocals = M.2.2.1 ∧ s.vm.findClass M.1.cls = some m.cls ∧ (∀ wd ∈ zws M, wd.before args s = true) ∧ meth.locks = false ∧ meth.name = M.1.name ∧ zK D q H0 s
def zL (q : Nat → Nat) (nL : Nat) (lo : List (Option Value)) (ls : Array Slot) : Prop :=
  ls.size = nL ∧ lv_wf ls ∧ ∀ (i : Nat) (v : Value), lo[i]? = some (some v) → ls[i]? = some (.val (zv q v))
abbrev zZt : Type := List Frame → Array Value → State → zG → (Nat → Nat) → Heap → State → Prop
/-- from here the method comes to its end: Z -/
def zEV (M : zM) (R : Room) (Z : zZt) (pc : Nat) (lo : List (Option Value)) (st : List Value) (N : Nat) (w : zH) (k n : Nat) : Prop :=
  ∀ (p : Program) (l : Launch) (e : Env) (s : State) (m : MethodId) (args : Array Value) (below : List Frame) (meth : Method) (c : Code) (D : zG) (q : Nat → Nat) (H0 : Heap), zCx M p s m args meth c D q H0 →
    ∀ (H : Heap) (locs : List Loc) (ls : Array Slot), zW D q H0 N w H → zLc q locs → zL q M.2.2.1 lo ls →
      W p l e R s m args below meth c H locs k n (Z below args s D q H0) (F0 m pc ls (st.map (zv q)))
def zPo (D : zG) (q : Nat → Nat) (H0 : Heap) (Q : zQ) : Array Value → State → Outcome → State → Prop := fun _ _ oc t =>
  ∃ (r : Option Value) (N : Nat) (w : zH), Q r N w ∧ oc = .returned (r.map (zv q)) ∧ zW D q H0 N w t.heap
def zZ (mc ms : Nat) (Q : zQ) : zZt := fun below args s D q H0 => MQ below (zPo D q H0 Q) args s mc ms (fun a => q 2 ≤ a)
def zrm (d mc ms : Nat) : Room := { frames := d, cells := mc, slots := ms, locals := 36 * d }
/-- a contract: with these arguments, from these cells, the method returns and Q holds of its answer and of the cells then -/
def zMt (M : zM) (d mc ms : Nat) (As : List Value) (N : Nat) (w : zH) (Q : zQ) : Prop :=
  ∀ (l : Launch) (D : zG) (q : Nat → Nat) (H0 : Heap), Met l M.1 (zws M) (zrm d mc ms) (va_Pc (As.map (zv q)) (fun U => zW D q H0 N w U.heap ∧ zK D q H0 U)) (zPo D q H0 Q) mc ms (fun a => q 2 ≤ a)
def zIs (M : zM) (pc : Nat) (i : ClassFile.Instr) (len pc' : Nat) : Prop := decode M.2.1 pc = .ok (i, len) ∧ pc + len = pc'
def zBr (M : zM) (pc : Nat) (mk : Int → ClassFile.Instr) (tgt pc' : Nat) : Prop := ∃ off : Int, decode M.2.1 pc = .ok (mk off, 3) ∧ (pc : Int) + off = (tgt : Int) ∧ pc + 3 = pc'
/-! locals -/
def zkp (lo : List (Option Value)) (i : Nat) : Bool := match i with
  | 0 => true
  | j + 1 => match lo[j]? with
    | some (some (.long _)) => false
    | some (some (.double _)) => false
    | _ => true
theorem zkp_use {lo : List (Option Value)} {i j : Nat} {v : Value} (h : zkp lo i = true) (hj : j + 1 = i) (hv : lo[j]? = some (some v)) : v.category = 1 := by
  subst hj
  simp only [zkp, hv] at h
  cases v <;> first | rfl | simp at h
theorem zL_store1 {q : Nat → Nat} {nL : Nat} {lo : List (Option Value)} {ls : Array Slot} {i : Nat} {v : Value} (h : zL q nL lo ls) (hi : i < nL) (hc : v.category = 1) (hk : zkp lo i = true) :
    ∃ ls', storeLocals ls i (zv q v) = some ls' ∧ zL q nL (lo.set i (some v)) ls' := by
  obtain ⟨h1, h2, h3⟩ := h
  obtain ⟨ls', e', h'⟩ := lv_store1 (l := []) (v := zv q v) ⟨h1, h2, fun x hx => by cases hx⟩ hi (by rw [zv_cat]; exact hc)
  refine ⟨ls', e', h'.1, h'.2.1, fun j u hj => ?_⟩
  by_cases hji : i = j
  · subst hji
    have hu : u = v := by
      by_cases hl : i < lo.length
      · rw [List.getElem?_set_self hl] at hj
        simp at hj
        exact hj.symm
      · rw [List.getElem?_eq_none (by simpa using hl)] at hj
        cases hj
    subst hu
    exact h'.2.2 (i, zv q u) (by simp)
  · rw [List.getElem?_set_ne hji] at hj
    obtain ⟨l2, e2, g2⟩ := lv_store1 (l := [(j, zv q u)]) (v := zv q v) ⟨h1, h2, fun x hx => by simp at hx; subst hx; exact h3 j u hj⟩ hi (by rw [zv_cat]; exact hc)
    have e3 : l2 = ls' := Option.some.inj (e2.symm.trans e')
    subst e3
    refine g2.2.2 (j, zv q u) ?_
    refine List.mem_cons_of_mem _ (List.mem_filter.mpr ⟨by simp, ?_⟩)
    have n1 : ¬ j = i := fun x => hji x.symm
    by_cases hj1 : j + 1 = i
    · have hcu := zkp_use hk hj1 hj
      simp [n1, zv_cat, hcu]
    · simp [n1, hj1]
theorem zL_store2 {q : Nat → Nat} {nL : Nat} {lo : List (Option Value)} {ls : Array Slot} {i : Nat} {v : Value} (h : zL q nL lo ls) (hi : i + 1 < nL) (hc : v.category = 2) (hk : zkp lo i = true) :
    ∃ ls', storeLocals ls i (zv q v) = some ls' ∧ zL q nL ((lo.set i (some v)).set (i + 1) none) ls' := by
  obtain ⟨h1, h2, h3⟩ := h
  obtain ⟨ls', e', h'⟩ := lv_store2 (l := []) (v := zv q v) ⟨h1, h2, fun x hx => by cases hx⟩ hi (by rw [zv_cat]; exact hc)
  refine ⟨ls', e', h'.1, h'.2.1, fun j u hj => ?_⟩
  by_cases hj2 : i + 1 = j
  · subst hj2
    by_cases hl : i + 1 < (lo.set i (some v)).length
    · rw [List.getElem?_set_self hl] at hj
      simp at hj
    · rw [List.getElem?_eq_none (by simpa using hl)] at hj
      cases hj
  · rw [List.getElem?_set_ne hj2] at hj
    by_cases hji : i = j
    · subst hji
      have hu : u = v := by
        by_cases hl : i < lo.length
        · rw [List.getElem?_set_self hl] at hj
          simp at hj
          exact hj.symm
        · rw [List.getElem?_eq_none (by simpa using hl)] at hj
          cases hj
      subst hu
      exact h'.2.2 (i, zv q u) (by simp)
    · rw [List.getElem?_set_ne hji] at hj
      obtain ⟨l2, e2, g2⟩ := lv_store2 (l := [(j, zv q u)]) (v := zv q v) ⟨h1, h2, fun x hx => by simp at hx; subst hx; exact h3 j u hj⟩ hi (by rw [zv_cat]; exact hc)
      have e3 : l2 = ls' := Option.some.inj (e2.symm.trans e')
      subst e3
      refine g2.2.2 (j, zv q u) ?_
      refine List.mem_cons_of_mem _ (List.mem_filter.mpr ⟨by simp, ?_⟩)
      have n1 : ¬ j = i := fun x => hji x.symm
      have n2 : ¬ j = i + 1 := fun x => hj2 x.symm
      by_cases hj1 : j + 1 = i
      · have hcu := zkp_use hk hj1 hj
        simp [n1, n2, zv_cat, hcu]
      · simp [n1, n2, hj1]
def zlo : List Value → List (Option Value)
  | [] => []
  | v :: r => if v.category = 2 then some v :: none :: zlo r else some v :: zlo r
