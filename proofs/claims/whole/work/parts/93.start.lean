theorem kn_of {own : String} {idx ci nf : Nat} {ty : Nat → FieldType} {s : State} {args : Array Value} (h : zNw own idx ci nf ty) (hz : ∀ w ∈ zT, w.before args s = true) : ∃ x : ClassId × (Nat → Nat), ∀ r : vw_C, vwCl[ci]? = some r → u_Kn s r.1 r.2.1 r.2.2 x.1 x.2 := by
  obtain ⟨r, h1, -, -, -, h2, -, h3, -⟩ := h
  obtain ⟨c, iS, hk⟩ := u_known (C := r.1) (T := r.2.1) (N := r.2.2) (n := r.2.2) hz h3 (hz _ h2)
  exact ⟨(c, iS), fun r' hr' => by rw [h1] at hr'; cases hr'; exact hk⟩
theorem kn_all {s : State} {args : Array Value} (hz : ∀ w ∈ zT, w.before args s = true) : ∃ (dC : Nat → ClassId) (dI : Nat → Nat → Nat), ∀ (c : Nat) (r : vw_C), vwCl[c]? = some r → u_Kn s r.1 r.2.1 r.2.2 (dC c) (dI c) := by
  have h : ∀ c : Nat, ∃ x : ClassId × (Nat → Nat), ∀ r : vw_C, vwCl[c]? = some r → u_Kn s r.1 r.2.1 r.2.2 x.1 x.2 := by
    intro c
    match c with
    | 0 => exact kn_of nwX7_41 hz
    | 1 => exact kn_of nwX7_48 hz
    | 2 => exact kn_of nwX7_25 hz
    | 3 => exact kn_of nwX7_34 hz
    | 4 => exact kn_of nwX7_55 hz
    | 5 => exact kn_of nwX7_16 hz
    | 6 => exact kn_of nwX7_9 hz
    | 7 => exact kn_of nwL_7 hz
    | 8 => exact kn_of nwL_10 hz
    | c + 9 =>
      obtain ⟨x, -⟩ := kn_of nwL_10 hz
      exact ⟨x, fun r hr => by simp [vwCl] at hr⟩
  exact ⟨fun c => (Classical.choose (h c)).1, fun c => (Classical.choose (h c)).2, fun c r hr => Classical.choose_spec (h c) r hr⟩
theorem ar_all {s : State} {args : Array Value} (hz : ∀ w ∈ zT, w.before args s = true) (ho : (Cond.arrayOver (.object RX4)).before args s = true) : ∃ dA : Nat → ClassId, ∀ (t : Nat) (ty : FieldType), zty[t]? = some ty → ArrOfT s (dA t) ty ∧ va_RA s (dA t) ty := by
  obtain ⟨c1, k1, p1, a1, a2, a3⟩ := Cond.arrayClass_spec (hz _ acI)
  obtain ⟨c2, k2, p2, b1, b2, b3⟩ := Cond.arrayClass_spec (hz _ acZ)
  obtain ⟨p3, c3, k3, d1, -, d2, d3, d4⟩ := Cond.arrayOver_spec ho
  refine ⟨fun t => if t = 0 then c1 else if t = 1 then c2 else c3, fun t ty ht => ?_⟩
  match t, ht with
  | 0, ht =>
    cases ht
    exact ⟨fun n z => ⟨fun k h => (by cases h), k1, a2, p1, a3⟩, a1⟩
  | 1, ht =>
    cases ht
    exact ⟨fun n z => ⟨fun k h => (by cases h), k2, b2, p2, b3⟩, b1⟩
  | 2, ht =>
    cases ht
    exact ⟨fun n z => ⟨fun k h => (by cases h), k3, d2, p3, d3⟩, k3, p3, d2, d3, d1, d4⟩
  | t + 3, ht => simp [zty] at ht
theorem len_sz {s : State} {args : Array Value} {tm : Term} {t : Nat} {cell : Cell} {v : Value} (hlen : (Term.length tm).eval args s none [] s = some v) (ht : tm.eval args s none [] s = some (.ref t)) (hat : s.arrayAt? t = some cell) : cell.slots.size < 2147483648 := by
  by_cases hn : cell.slots.size < 2147483648
  · exact hn
  · simp [Term.eval, ht, hat, hn] at hlen
theorem ka_all {s : State} {args : Array Value} (hg : (Jvm.Cond.and given_1 narrow_1).before args s = true) : ∃ t : Nat, (Term.static RX7 "KIND_ABOVE" "[I").eval args s none [] s = some (.ref t) ∧ va_X t 12 zka s s.heap ∧ t < s.heap.size := by
  have hs := flat_of_before _ hg
  have harr : (Cond.arrayOf (.static RX7 "KIND_ABOVE" "[I") .int).before args s = true := hs _ (by decide +kernel)
  have hlen : (Term.length (.static RX7 "KIND_ABOVE" "[I")).eval args s none [] s = some (.int (Int32.ofNat 12)) := va_eqt (hs _ (by decide +kernel))
  have hel : ∀ j : Nat, j < 12 → (Term.elem (.static RX7 "KIND_ABOVE" "[I") (.int (Int32.ofNat j))).eval args s none [] s = some (.int (zka j)) := by
    intro j hj
    match j, hj with
    | 0, _ => exact va_eqt (hs (Cond.eq (.elem (.static RX7 "KIND_ABOVE" "[I") (.int 0)) (.int 0)) (by decide +kernel))
    | 1, _ => exact va_eqt (hs (Cond.eq (.elem (.static RX7 "KIND_ABOVE" "[I") (.int 1)) (.int 0)) (by decide +kernel))
    | 2, _ => exact va_eqt (hs (Cond.eq (.elem (.static RX7 "KIND_ABOVE" "[I") (.int 2)) (.int 1)) (by decide +kernel))
    | 3, _ => exact va_eqt (hs (Cond.eq (.elem (.static RX7 "KIND_ABOVE" "[I") (.int 3)) (.int 1)) (by decide +kernel))
    | 4, _ => exact va_eqt (hs (Cond.eq (.elem (.static RX7 "KIND_ABOVE" "[I") (.int 4)) (.int 0)) (by decide +kernel))
    | 5, _ => exact va_eqt (hs (Cond.eq (.elem (.static RX7 "KIND_ABOVE" "[I") (.int 5)) (.int 4)) (by decide +kernel))
    | 6, _ => exact va_eqt (hs (Cond.eq (.elem (.static RX7 "KIND_ABOVE" "[I") (.int 6)) (.int 4)) (by decide +kernel))
    | 7, _ => exact va_eqt (hs (Cond.eq (.elem (.static RX7 "KIND_ABOVE" "[I") (.int 7)) (.int 0)) (by decide +kernel))
    | 8, _ => exact va_eqt (hs (Cond.eq (.elem (.static RX7 "KIND_ABOVE" "[I") (.int 8)) (.int 7)) (by decide +kernel))
    | 9, _ => exact va_eqt (hs (Cond.eq (.elem (.static RX7 "KIND_ABOVE" "[I") (.int 9)) (.int 0)) (by decide +kernel))
    | 10, _ => exact va_eqt (hs (Cond.eq (.elem (.static RX7 "KIND_ABOVE" "[I") (.int 10)) (.int 9)) (by decide +kernel))
    | 11, _ => exact va_eqt (hs (Cond.eq (.elem (.static RX7 "KIND_ABOVE" "[I") (.int 11)) (.int 0)) (by decide +kernel))
    | j + 12, hj => omega
  obtain ⟨t, ht, cell, h1, h2, h3, h4, h5, h6, -⟩ := va_Tof (A := fun _ => False) (f := fun j => .int (zka j)) (by decide) harr hlen hel (fun _ _ => id)
  obtain ⟨t', cell', ht', hat, -⟩ := Term.length_spec hlen
  have e1 : t' = t := by
    have := ht'.symm.trans ht
    cases this
    rfl
  subst e1
  have hc := (State.arrayAt?_spec hat).1
  have e2 : cell' = cell := by
    have := hc.symm.trans h1
    cases this
    rfl
  subst e2
  have hn : cell'.slots.size < 2147483648 := len_sz hlen ht hat
  have hsz : cell'.slots.size = 12 := by
    have e3 : Int32.ofNat cell'.slots.size = Int32.ofNat 12 := h5
    exact (nI_eq2 hn (by omega)).mp e3
  exact ⟨t', ht, ⟨cell', h1, h2, h3, hsz, h6⟩, (Array.getElem?_eq_some_iff.mp h1).1⟩
/-- what holds at the law's entry -/
def lw_At (p : Program) (s : State) (m : MethodId) (meth : Method) (c : Code) (b L : Nat) (xs : Nat → Int32) : Prop :=
  p.tables.exec = Jvm.exec ∧ c.code = code ∧ meth.sig.returnType = ret ∧ c.maxLocals = 4 ∧ s.vm.findClass R_law = some m.cls ∧ (∀ w ∈ lw_tbl, w.before #[Value.ref b] s = true) ∧ va_X b L xs s s.heap ∧ b < s.heap.size ∧ meth.locks = false ∧ (Jvm.Cond.and given_1 narrow_1).before #[Value.ref b] s = true ∧ (Jvm.Cond.code x code maxLocals ret).before #[Value.ref b] s = true ∧ meth.name = "law"
theorem whole_start {p : Program} {e : Env} {s : State} {m : MethodId} {below : List Frame} {meth : Method} {c : Code} (l : Launch) {b L : Nat} {xs : Nat → Int32} (hL : L ≤ 2560) (C0 : lw_At p s m meth c b L xs) : W p l e room_1 s m #[Value.ref b] below meth c s.heap [] 0 0 (lw_Z below #[Value.ref b] s) (entryFrame m ([Value.ref b] : List Value).toArray 4) := by
  obtain ⟨hx, hb, hr, hml, hown, hts, hX, hbl, hlocks, hgv, hcode, hname⟩ := C0
  have hz : ∀ w ∈ zT, w.before #[Value.ref b] s = true := fun w hw => hts w (List.mem_filter.mp hw).1
  have ho : (Cond.arrayOver (.object RX4)).before #[Value.ref b] s = true := hts _ (by decide +kernel)
  obtain ⟨dC, dI, hKc⟩ := kn_all hz
  obtain ⟨dA, hKa⟩ := ar_all hz ho
  obtain ⟨t, ht, htX, htl⟩ := ka_all hgv
  have hZ : va_Z RX7 "KIND_ABOVE" "[I" (.ref t) (fun a => s.heap.size ≤ a) s s.heap := va_Zref (hts _ (by decide +kernel)) (hts _ (by decide +kernel)) ht (fun a h1 h2 => by omega)
  have hle := lv_entry ([.ref b]) (n := 4) (Nat.le_of_ble_eq_true rfl)
  rw [lg_entry_eq]
  have body := law_body (L := L) xs hL p l e s m #[Value.ref b] below meth c (dC, dI, dA, L, xs) (fun k => if k = 0 then b else if k = 1 then t else s.heap.size + (k - 2)) s.heap
    ⟨hx, hb, hr, hml, hown, fun wd hw => (List.mem_cons.mp hw).elim (fun e => by rw [e]; exact hcode) (fun h2 => hz wd h2), hlocks, hname,
      hKc, hKa, ⟨hbl, htl, fun k => by
        show (if 2 + k = 0 then b else if 2 + k = 1 then t else s.heap.size + (2 + k - 2)) = s.heap.size + (2 - 2) + k
        rw [if_neg (by omega), if_neg (by omega)]
        omega⟩, rfl, hZ, hX, htX, fun wd hw => va_Nw.of (by revert wd; decide +kernel) (hts wd (by revert wd; decide +kernel)), va_AO.of ho⟩
    s.heap [] _ ⟨Nat.le_refl 2, rfl, fun k h1 h2 => by omega, fun a _ => rfl, rfl, fun i => rfl⟩ (fun y hy => by cases hy) ⟨hle.1, hle.2.1, fun i v hv => by
      match i, hv with
      | 0, hv =>
        cases hv
        exact hle.2.2 (0, .ref b) (List.mem_cons_self ..)
      | 1, hv => cases hv
      | 2, hv => cases hv
      | 3, hv => cases hv
      | i + 4, hv => simp at hv⟩
  intro T hT X
  obtain ⟨T', st, z⟩ := body T hT X
  exact ⟨T', st, z rfl⟩
