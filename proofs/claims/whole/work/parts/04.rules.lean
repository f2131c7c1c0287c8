section ZR
variable {M : zM} {R : Room} {Z : zZt} {pc pc' tgt : Nat} {lo : List (Option Value)} {st : List Value} {N : Nat} {w : zH} {k n : Nat}
/-- a number is pushed -/
def zPi (M : zM) (pc : Nat) (v : Int32) (pc' : Nat) : Prop :=
  (∃ i : Int, decode M.2.1 pc = .ok (.iconst i, 1) ∧ Int32.ofInt i = v ∧ pc + 1 = pc') ∨ (∃ i : Int, decode M.2.1 pc = .ok (.bipush i, 2) ∧ (Int8.ofInt i).toInt32 = v ∧ pc + 2 = pc') ∨ (∃ i : Int, decode M.2.1 pc = .ok (.sipush i, 3) ∧ (Int16.ofInt i).toInt32 = v ∧ pc + 3 = pc') ∨
  (∃ i : Nat, decode M.2.1 pc = .ok (.ldc i, 2) ∧ Cond.constant M.1.cls i v ∈ zT ∧ pc + 2 = pc') ∨ (∃ i : Nat, decode M.2.1 pc = .ok (.ldc_w i, 3) ∧ Cond.constant M.1.cls i v ∈ zT ∧ pc + 3 = pc')
theorem zT_use {M : zM} {p : Program} {s : State} {m : MethodId} {args : Array Value} {meth : Method} {c : Code} {D : zG} {q : Nat → Nat} {H0 : Heap} (C : zCx M p s m args meth c D q H0) {wd : Cond} (h : wd ∈ zT) : wd.before args s = true := C.2.2.2.2.2.1 wd (List.mem_cons_of_mem _ h)
theorem z_push {v : Int32} (hi : zPi M pc v pc') (kk : zEV M R Z pc' lo (.int v :: st) N w k n) : zEV M R Z pc lo st N w k n := by
  intro p l e s m args below meth c D q H0 C H locs ls HW HC HL
  have K := kk p l e s m args below meth c D q H0 C H locs ls HW HC HL
  rcases hi with ⟨i, hd, hv, rfl⟩ | ⟨i, hd, hv, rfl⟩ | ⟨i, hd, hv, rfl⟩ | ⟨i, hd, hv, rfl⟩ | ⟨i, hd, hv, rfl⟩
  · exact lv_iconst C.1 C.2.1 hd hv K
  · exact lv_bipush C.1 C.2.1 hd hv K
  · exact lv_sipush C.1 C.2.1 hd hv K
  · exact lv_ldc C.1 C.2.1 C.2.2.2.2.1 (zT_use C hv) hd K
  · exact lv_ldcw C.1 C.2.1 C.2.2.2.2.1 (zT_use C hv) hd K
def zPl (M : zM) (pc : Nat) (v : Int64) (pc' : Nat) : Prop := ∃ i : Nat, decode M.2.1 pc = .ok (.ldc2_w i, 3) ∧ Cond.constantLong M.1.cls i v ∈ zT ∧ pc + 3 = pc'
theorem z_pushl {v : Int64} (hi : zPl M pc v pc') (kk : zEV M R Z pc' lo (.long v :: st) N w k n) : zEV M R Z pc lo st N w k n := by
  intro p l e s m args below meth c D q H0 C H locs ls HW HC HL
  have K := kk p l e s m args below meth c D q H0 C H locs ls HW HC HL
  obtain ⟨i, hd, hv, rfl⟩ := hi
  exact lv_ldc2 C.1 C.2.1 C.2.2.2.2.1 (zT_use C hv) hd K
/-- drop a stale local -/
theorem z_sub {lo' : List (Option Value)} (h : ∀ (i : Nat) (v : Value), lo'[i]? = some (some v) → lo[i]? = some (some v)) (kk : zEV M R Z pc lo' st N w k n) : zEV M R Z pc lo st N w k n := by
  intro p l e s m args below meth c D q H0 C H locs ls HW HC HL
  exact kk p l e s m args below meth c D q H0 C H locs ls HW HC ⟨HL.1, HL.2.1, fun i v hv => HL.2.2 i v (h i v hv)⟩

def zLi (M : zM) (pc i pc' : Nat) : Prop := (∃ j : Fin 4, decode M.2.1 pc = .ok (.iload_n j, 1) ∧ (j : Nat) = i ∧ pc + 1 = pc') ∨ (decode M.2.1 pc = .ok (.iload i, 2) ∧ pc + 2 = pc')
theorem z_iload {i : Nat} {x : Int32} (hi : zLi M pc i pc') (hl : lo[i]? = some (some (.int x))) (kk : zEV M R Z pc' lo (.int x :: st) N w k n) : zEV M R Z pc lo st N w k n := by
  intro p l e s m args below meth c D q H0 C H locs ls HW HC HL
  have K := kk p l e s m args below meth c D q H0 C H locs ls HW HC HL
  rcases hi with ⟨j, hd, hj, rfl⟩ | ⟨hd, rfl⟩
  · exact lv_iload_n C.1 C.2.1 hd hj (HL.2.2 i _ hl) K
  · exact lv_iload C.1 C.2.1 hd (HL.2.2 i _ hl) K

def zSi (M : zM) (pc i pc' : Nat) : Prop := ((∃ j : Fin 4, decode M.2.1 pc = .ok (.istore_n j, 1) ∧ (j : Nat) = i ∧ pc + 1 = pc') ∨ (decode M.2.1 pc = .ok (.istore i, 2) ∧ pc + 2 = pc')) ∧ i < M.2.2.1
theorem z_istore {i : Nat} {x : Int32} (hi : zSi M pc i pc') (hk : zkp lo i = true) (kk : zEV M R Z pc' (lo.set i (some (.int x))) st N w k n) : zEV M R Z pc lo (.int x :: st) N w k n := by
  intro p l e s m args below meth c D q H0 C H locs ls HW HC HL
  obtain ⟨hi, hb⟩ := hi
  obtain ⟨ls', e', h'⟩ := zL_store1 (v := .int x) HL hb rfl hk
  have K := kk p l e s m args below meth c D q H0 C H locs ls' HW HC h'
  intro T hT X
  obtain ⟨t, a, b⟩ := K T hT X
  have hexec := C.1
  have hbb := C.2.1
  refine ⟨t, ?_, b⟩
  have e2 : storeLocals ls i (zv q (.int x)) = some ls' := e'
  simp only [zv] at e2
  rcases hi with ⟨j, hdg, hj, rfl⟩ | ⟨hdg, rfl⟩
  · subst hj
    simp only [List.map_cons, zv]
    jvm_step X.here [X.here.top, ↓top_set X.here.top, hexec, hbb, hdg, e2]
    exact a
  · simp only [List.map_cons, zv]
    jvm_step X.here [X.here.top, ↓top_set X.here.top, hexec, hbb, hdg, e2]
    exact a

def zLa (M : zM) (pc i pc' : Nat) : Prop := (∃ j : Fin 4, decode M.2.1 pc = .ok (.aload_n j, 1) ∧ (j : Nat) = i ∧ pc + 1 = pc') ∨ (decode M.2.1 pc = .ok (.aload i, 2) ∧ pc + 2 = pc')
theorem z_aload {i : Nat} {x : Nat} (hi : zLa M pc i pc') (hl : lo[i]? = some (some (.ref x))) (kk : zEV M R Z pc' lo (.ref x :: st) N w k n) : zEV M R Z pc lo st N w k n := by
  intro p l e s m args below meth c D q H0 C H locs ls HW HC HL
  have K := kk p l e s m args below meth c D q H0 C H locs ls HW HC HL
  rcases hi with ⟨j, hd, hj, rfl⟩ | ⟨hd, rfl⟩
  · exact lv_aload_n C.1 C.2.1 hd hj (HL.2.2 i _ hl) K
  · exact lv_aload C.1 C.2.1 hd (HL.2.2 i _ hl) K

def zSa (M : zM) (pc i pc' : Nat) : Prop := ((∃ j : Fin 4, decode M.2.1 pc = .ok (.astore_n j, 1) ∧ (j : Nat) = i ∧ pc + 1 = pc') ∨ (decode M.2.1 pc = .ok (.astore i, 2) ∧ pc + 2 = pc')) ∧ i < M.2.2.1
theorem z_astore {i : Nat} {x : Nat} (hi : zSa M pc i pc') (hk : zkp lo i = true) (kk : zEV M R Z pc' (lo.set i (some (.ref x))) st N w k n) : zEV M R Z pc lo (.ref x :: st) N w k n := by
  intro p l e s m args below meth c D q H0 C H locs ls HW HC HL
  obtain ⟨hi, hb⟩ := hi
  obtain ⟨ls', e', h'⟩ := zL_store1 (v := .ref x) HL hb rfl hk
  have K := kk p l e s m args below meth c D q H0 C H locs ls' HW HC h'
  intro T hT X
  obtain ⟨t, a, b⟩ := K T hT X
  have hexec := C.1
  have hbb := C.2.1
  refine ⟨t, ?_, b⟩
  have e2 : storeLocals ls i (zv q (.ref x)) = some ls' := e'
  simp only [zv] at e2
  rcases hi with ⟨j, hdg, hj, rfl⟩ | ⟨hdg, rfl⟩
  · subst hj
    simp only [List.map_cons, zv]
    jvm_step X.here [X.here.top, ↓top_set X.here.top, hexec, hbb, hdg, e2, Value.isRef]
    exact a
  · simp only [List.map_cons, zv]
    jvm_step X.here [X.here.top, ↓top_set X.here.top, hexec, hbb, hdg, e2, Value.isRef]
    exact a

def zLl (M : zM) (pc i pc' : Nat) : Prop := (∃ j : Fin 4, decode M.2.1 pc = .ok (.lload_n j, 1) ∧ (j : Nat) = i ∧ pc + 1 = pc') ∨ (decode M.2.1 pc = .ok (.lload i, 2) ∧ pc + 2 = pc')
theorem z_lload {i : Nat} {x : Int64} (hi : zLl M pc i pc') (hl : lo[i]? = some (some (.long x))) (kk : zEV M R Z pc' lo (.long x :: st) N w k n) : zEV M R Z pc lo st N w k n := by
  intro p l e s m args below meth c D q H0 C H locs ls HW HC HL
  have K := kk p l e s m args below meth c D q H0 C H locs ls HW HC HL
  rcases hi with ⟨j, hd, hj, rfl⟩ | ⟨hd, rfl⟩
  · exact lv_lload_n C.1 C.2.1 hd hj (HL.2.2 i _ hl) K
  · exact lv_lload C.1 C.2.1 hd (HL.2.2 i _ hl) K

def zSl (M : zM) (pc i pc' : Nat) : Prop := ((∃ j : Fin 4, decode M.2.1 pc = .ok (.lstore_n j, 1) ∧ (j : Nat) = i ∧ pc + 1 = pc') ∨ (decode M.2.1 pc = .ok (.lstore i, 2) ∧ pc + 2 = pc')) ∧ i + 1 < M.2.2.1
theorem z_lstore {i : Nat} {x : Int64} (hi : zSl M pc i pc') (hk : zkp lo i = true) (kk : zEV M R Z pc' ((lo.set i (some (.long x))).set (i + 1) none) st N w k n) : zEV M R Z pc lo (.long x :: st) N w k n := by
  intro p l e s m args below meth c D q H0 C H locs ls HW HC HL
  obtain ⟨hi, hb⟩ := hi
  obtain ⟨ls', e', h'⟩ := zL_store2 (v := .long x) HL hb rfl hk
  have K := kk p l e s m args below meth c D q H0 C H locs ls' HW HC h'
  intro T hT X
  obtain ⟨t, a, b⟩ := K T hT X
  have hexec := C.1
  have hbb := C.2.1
  refine ⟨t, ?_, b⟩
  have e2 : storeLocals ls i (zv q (.long x)) = some ls' := e'
  simp only [zv] at e2
  rcases hi with ⟨j, hdg, hj, rfl⟩ | ⟨hdg, rfl⟩
  · subst hj
    simp only [List.map_cons, zv]
    jvm_step X.here [X.here.top, ↓top_set X.here.top, hexec, hbb, hdg, e2]
    exact a
  · simp only [List.map_cons, zv]
    jvm_step X.here [X.here.top, ↓top_set X.here.top, hexec, hbb, hdg, e2]
    exact a

theorem z_iinc {i : Nat} {d : Int} {v x : Int32} (hi : zIs M pc (.iinc i d) 3 pc') (hv : Int32.ofInt d = v) (hb : i < M.2.2.1) (hl : lo[i]? = some (some (.int x))) (hk : zkp lo i = true) (kk : zEV M R Z pc' (lo.set i (some (.int (x + v)))) st N w k n) : zEV M R Z pc lo st N w k n := by
  intro p l e s m args below meth c D q H0 C H locs ls HW HC HL
  obtain ⟨hdg, rfl⟩ := hi
  subst hv
  obtain ⟨ls', e', h'⟩ := zL_store1 (v := .int (x + Int32.ofInt d)) HL hb rfl hk
  have K := kk p l e s m args below meth c D q H0 C H locs ls' HW HC h'
  have hg : ls[i]? = some (.val (.int x)) := HL.2.2 i _ hl
  intro T hT X
  obtain ⟨t, a, b⟩ := K T hT X
  have hexec := C.1
  have hbb := C.2.1
  refine ⟨t, ?_, b⟩
  have e2 : storeLocals ls i (.int (x + Int32.ofInt d)) = some ls' := e'
  jvm_step X.here [X.here.top, ↓top_set X.here.top, hexec, hbb, hdg, hg, e2]
  exact a

theorem z_iadd {x y : Int32} (hi : zIs M pc .iadd 1 pc')  (kk : zEV M R Z pc' lo (.int (x + y) :: st) N w k n) : zEV M R Z pc lo (.int y :: .int x :: st) N w k n := by
  intro p l e s m args below meth c D q H0 C H locs ls HW HC HL
  obtain ⟨hd, rfl⟩ := hi
  exact lv_iadd C.1 C.2.1 hd  (kk p l e s m args below meth c D q H0 C H locs ls HW HC HL)

theorem z_isub {x y : Int32} (hi : zIs M pc .isub 1 pc')  (kk : zEV M R Z pc' lo (.int (x - y) :: st) N w k n) : zEV M R Z pc lo (.int y :: .int x :: st) N w k n := by
  intro p l e s m args below meth c D q H0 C H locs ls HW HC HL
  obtain ⟨hd, rfl⟩ := hi
  exact lv_isub C.1 C.2.1 hd  (kk p l e s m args below meth c D q H0 C H locs ls HW HC HL)

theorem z_imul {x y : Int32} (hi : zIs M pc .imul 1 pc')  (kk : zEV M R Z pc' lo (.int (x * y) :: st) N w k n) : zEV M R Z pc lo (.int y :: .int x :: st) N w k n := by
  intro p l e s m args below meth c D q H0 C H locs ls HW HC HL
  obtain ⟨hd, rfl⟩ := hi
  exact lv_imul C.1 C.2.1 hd  (kk p l e s m args below meth c D q H0 C H locs ls HW HC HL)

theorem z_iand {x y : Int32} (hi : zIs M pc .iand 1 pc')  (kk : zEV M R Z pc' lo (.int (x &&& y) :: st) N w k n) : zEV M R Z pc lo (.int y :: .int x :: st) N w k n := by
  intro p l e s m args below meth c D q H0 C H locs ls HW HC HL
  obtain ⟨hd, rfl⟩ := hi
  exact lv_iand C.1 C.2.1 hd  (kk p l e s m args below meth c D q H0 C H locs ls HW HC HL)

theorem z_ior {x y : Int32} (hi : zIs M pc .ior 1 pc')  (kk : zEV M R Z pc' lo (.int (x ||| y) :: st) N w k n) : zEV M R Z pc lo (.int y :: .int x :: st) N w k n := by
  intro p l e s m args below meth c D q H0 C H locs ls HW HC HL
  obtain ⟨hd, rfl⟩ := hi
  exact lv_ior C.1 C.2.1 hd  (kk p l e s m args below meth c D q H0 C H locs ls HW HC HL)

theorem z_ixor {x y : Int32} (hi : zIs M pc .ixor 1 pc')  (kk : zEV M R Z pc' lo (.int (x ^^^ y) :: st) N w k n) : zEV M R Z pc lo (.int y :: .int x :: st) N w k n := by
  intro p l e s m args below meth c D q H0 C H locs ls HW HC HL
  obtain ⟨hd, rfl⟩ := hi
  exact lv_ixor C.1 C.2.1 hd  (kk p l e s m args below meth c D q H0 C H locs ls HW HC HL)

theorem z_ishl {x y : Int32} (hi : zIs M pc .ishl 1 pc')  (kk : zEV M R Z pc' lo (.int (x <<< (y &&& 31)) :: st) N w k n) : zEV M R Z pc lo (.int y :: .int x :: st) N w k n := by
  intro p l e s m args below meth c D q H0 C H locs ls HW HC HL
  obtain ⟨hd, rfl⟩ := hi
  exact lv_ishl C.1 C.2.1 hd  (kk p l e s m args below meth c D q H0 C H locs ls HW HC HL)

theorem z_ishr {x y : Int32} (hi : zIs M pc .ishr 1 pc')  (kk : zEV M R Z pc' lo (.int (x >>> (y &&& 31)) :: st) N w k n) : zEV M R Z pc lo (.int y :: .int x :: st) N w k n := by
  intro p l e s m args below meth c D q H0 C H locs ls HW HC HL
  obtain ⟨hd, rfl⟩ := hi
  exact lv_ishr C.1 C.2.1 hd  (kk p l e s m args below meth c D q H0 C H locs ls HW HC HL)

theorem z_iushr {x y : Int32} (hi : zIs M pc .iushr 1 pc')  (kk : zEV M R Z pc' lo (.int ((x.toUInt32 >>> (y.toUInt32 &&& Int32.toUInt32 31)).toInt32) :: st) N w k n) : zEV M R Z pc lo (.int y :: .int x :: st) N w k n := by
  intro p l e s m args below meth c D q H0 C H locs ls HW HC HL
  obtain ⟨hd, rfl⟩ := hi
  exact lv_iushr C.1 C.2.1 hd rfl (kk p l e s m args below meth c D q H0 C H locs ls HW HC HL)

theorem z_idiv {x y : Int32} (hi : zIs M pc .idiv 1 pc') (h0 : ¬ y = 0) (kk : zEV M R Z pc' lo (.int (x / y) :: st) N w k n) : zEV M R Z pc lo (.int y :: .int x :: st) N w k n := by
  intro p l e s m args below meth c D q H0 C H locs ls HW HC HL
  obtain ⟨hd, rfl⟩ := hi
  exact lv_idiv C.1 C.2.1 hd h0 (kk p l e s m args below meth c D q H0 C H locs ls HW HC HL)

theorem z_irem {x y : Int32} (hi : zIs M pc .irem 1 pc') (h0 : ¬ y = 0) (kk : zEV M R Z pc' lo (.int (x - x / y * y) :: st) N w k n) : zEV M R Z pc lo (.int y :: .int x :: st) N w k n := by
  intro p l e s m args below meth c D q H0 C H locs ls HW HC HL
  obtain ⟨hd, rfl⟩ := hi
  exact lv_irem C.1 C.2.1 hd h0 (kk p l e s m args below meth c D q H0 C H locs ls HW HC HL)

theorem z_ineg {x : Int32} (hi : zIs M pc .ineg 1 pc')  (kk : zEV M R Z pc' lo (.int (-x) :: st) N w k n) : zEV M R Z pc lo (.int x :: st) N w k n := by
  intro p l e s m args below meth c D q H0 C H locs ls HW HC HL
  obtain ⟨hd, rfl⟩ := hi
  exact lv_ineg C.1 C.2.1 hd  (kk p l e s m args below meth c D q H0 C H locs ls HW HC HL)

theorem z_i2l {x : Int32} (hi : zIs M pc .i2l 1 pc')  (kk : zEV M R Z pc' lo (.long x.toInt64 :: st) N w k n) : zEV M R Z pc lo (.int x :: st) N w k n := by
  intro p l e s m args below meth c D q H0 C H locs ls HW HC HL
  obtain ⟨hd, rfl⟩ := hi
  exact lv_i2l C.1 C.2.1 hd rfl (kk p l e s m args below meth c D q H0 C H locs ls HW HC HL)

theorem z_ladd {x y : Int64} (hi : zIs M pc .ladd 1 pc')  (kk : zEV M R Z pc' lo (.long (x + y) :: st) N w k n) : zEV M R Z pc lo (.long y :: .long x :: st) N w k n := by
  intro p l e s m args below meth c D q H0 C H locs ls HW HC HL
  obtain ⟨hd, rfl⟩ := hi
  exact lv_ladd C.1 C.2.1 hd  (kk p l e s m args below meth c D q H0 C H locs ls HW HC HL)

theorem z_lsub {x y : Int64} (hi : zIs M pc .lsub 1 pc')  (kk : zEV M R Z pc' lo (.long (x - y) :: st) N w k n) : zEV M R Z pc lo (.long y :: .long x :: st) N w k n := by
  intro p l e s m args below meth c D q H0 C H locs ls HW HC HL
  obtain ⟨hd, rfl⟩ := hi
  exact lv_lsub C.1 C.2.1 hd  (kk p l e s m args below meth c D q H0 C H locs ls HW HC HL)

theorem z_lmul {x y : Int64} (hi : zIs M pc .lmul 1 pc')  (kk : zEV M R Z pc' lo (.long (x * y) :: st) N w k n) : zEV M R Z pc lo (.long y :: .long x :: st) N w k n := by
  intro p l e s m args below meth c D q H0 C H locs ls HW HC HL
  obtain ⟨hd, rfl⟩ := hi
  exact lv_lmul C.1 C.2.1 hd  (kk p l e s m args below meth c D q H0 C H locs ls HW HC HL)

theorem z_lneg {x : Int64} (hi : zIs M pc .lneg 1 pc')  (kk : zEV M R Z pc' lo (.long (-x) :: st) N w k n) : zEV M R Z pc lo (.long x :: st) N w k n := by
  intro p l e s m args below meth c D q H0 C H locs ls HW HC HL
  obtain ⟨hd, rfl⟩ := hi
  exact lv_lneg C.1 C.2.1 hd  (kk p l e s m args below meth c D q H0 C H locs ls HW HC HL)

theorem z_lcmp {x y : Int64} (hi : zIs M pc .lcmp 1 pc')  (kk : zEV M R Z pc' lo (.int (lg_cmp x y) :: st) N w k n) : zEV M R Z pc lo (.long y :: .long x :: st) N w k n := by
  intro p l e s m args below meth c D q H0 C H locs ls HW HC HL
  obtain ⟨hd, rfl⟩ := hi
  exact W.lcmp C.1 C.2.1 hd  (kk p l e s m args below meth c D q H0 C H locs ls HW HC HL)

theorem z_dup {v : Value} (hi : zIs M pc .dup 1 pc') (hc : v.category = 1) (kk : zEV M R Z pc' lo (v :: v :: st) N w k n) : zEV M R Z pc lo (v :: st) N w k n := by
  intro p l e s m args below meth c D q H0 C H locs ls HW HC HL
  obtain ⟨hd, rfl⟩ := hi
  exact lv_dup C.1 C.2.1 hd (by rw [zv_cat]; exact hc) (kk p l e s m args below meth c D q H0 C H locs ls HW HC HL)

theorem z_pop {v : Value} (hi : zIs M pc .pop 1 pc') (hc : v.category = 1) (kk : zEV M R Z pc' lo (st) N w k n) : zEV M R Z pc lo (v :: st) N w k n := by
  intro p l e s m args below meth c D q H0 C H locs ls HW HC HL
  obtain ⟨hd, rfl⟩ := hi
  exact lv_pop C.1 C.2.1 hd (by rw [zv_cat]; exact hc) (kk p l e s m args below meth c D q H0 C H locs ls HW HC HL)

theorem z_dup2 {v u : Value} (hi : zIs M pc .dup2 1 pc') (hc : v.category = 1) (hc2 : u.category = 1) (kk : zEV M R Z pc' lo (v :: u :: v :: u :: st) N w k n) : zEV M R Z pc lo (v :: u :: st) N w k n := by
  intro p l e s m args below meth c D q H0 C H locs ls HW HC HL
  obtain ⟨hd, rfl⟩ := hi
  exact lv_dup2_11 C.1 C.2.1 hd (by rw [zv_cat]; exact hc) (by rw [zv_cat]; exact hc2) (kk p l e s m args below meth c D q H0 C H locs ls HW HC HL)

theorem z_goto (hi : zBr M pc .goto tgt pc') (kk : zEV M R Z tgt lo st N w k n) : zEV M R Z pc lo st N w k n := by
  intro p l e s m args below meth c D q H0 C H locs ls HW HC HL
  obtain ⟨off, hd, ht, -⟩ := hi
  exact lv_goto C.1 C.2.1 hd ht (kk p l e s m args below meth c D q H0 C H locs ls HW HC HL)

theorem z_icmp_eq {x y : Int32} (hi : zBr M pc (.if_icmp .eq) tgt pc') (kt : x = y → zEV M R Z tgt lo st N w k n) (kf : ¬ x = y → zEV M R Z pc' lo st N w k n) : zEV M R Z pc lo (.int y :: .int x :: st) N w k n := by
  intro p l e s m args below meth c D q H0 C H locs ls HW HC HL
  obtain ⟨off, hd, ht, rfl⟩ := hi
  exact lv_icmp_eq C.1 C.2.1 hd ht (fun h => kt h p l e s m args below meth c D q H0 C H locs ls HW HC HL) (fun h => kf h p l e s m args below meth c D q H0 C H locs ls HW HC HL)

theorem z_if_eq {x : Int32} (hi : zBr M pc (.ifCond .eq) tgt pc') (kt : x = 0 → zEV M R Z tgt lo st N w k n) (kf : ¬ x = 0 → zEV M R Z pc' lo st N w k n) : zEV M R Z pc lo (.int x :: st) N w k n := by
  intro p l e s m args below meth c D q H0 C H locs ls HW HC HL
  obtain ⟨off, hd, ht, rfl⟩ := hi
  exact lv_if_eq C.1 C.2.1 hd ht (fun h => kt h p l e s m args below meth c D q H0 C H locs ls HW HC HL) (fun h => kf h p l e s m args below meth c D q H0 C H locs ls HW HC HL)

theorem z_icmp_ne {x y : Int32} (hi : zBr M pc (.if_icmp .ne) tgt pc') (kt : ¬ x = y → zEV M R Z tgt lo st N w k n) (kf : x = y → zEV M R Z pc' lo st N w k n) : zEV M R Z pc lo (.int y :: .int x :: st) N w k n := by
  intro p l e s m args below meth c D q H0 C H locs ls HW HC HL
  obtain ⟨off, hd, ht, rfl⟩ := hi
  exact lv_icmp_ne C.1 C.2.1 hd ht (fun h => kt h p l e s m args below meth c D q H0 C H locs ls HW HC HL) (fun h => kf h p l e s m args below meth c D q H0 C H locs ls HW HC HL)

theorem z_if_ne {x : Int32} (hi : zBr M pc (.ifCond .ne) tgt pc') (kt : ¬ x = 0 → zEV M R Z tgt lo st N w k n) (kf : x = 0 → zEV M R Z pc' lo st N w k n) : zEV M R Z pc lo (.int x :: st) N w k n := by
  intro p l e s m args below meth c D q H0 C H locs ls HW HC HL
  obtain ⟨off, hd, ht, rfl⟩ := hi
  exact lv_if_ne C.1 C.2.1 hd ht (fun h => kt h p l e s m args below meth c D q H0 C H locs ls HW HC HL) (fun h => kf h p l e s m args below meth c D q H0 C H locs ls HW HC HL)

theorem z_icmp_lt {x y : Int32} (hi : zBr M pc (.if_icmp .lt) tgt pc') (kt : x < y → zEV M R Z tgt lo st N w k n) (kf : ¬ x < y → zEV M R Z pc' lo st N w k n) : zEV M R Z pc lo (.int y :: .int x :: st) N w k n := by
  intro p l e s m args below meth c D q H0 C H locs ls HW HC HL
  obtain ⟨off, hd, ht, rfl⟩ := hi
  exact lv_icmp_lt C.1 C.2.1 hd ht (fun h => kt h p l e s m args below meth c D q H0 C H locs ls HW HC HL) (fun h => kf h p l e s m args below meth c D q H0 C H locs ls HW HC HL)

theorem z_if_lt {x : Int32} (hi : zBr M pc (.ifCond .lt) tgt pc') (kt : x < 0 → zEV M R Z tgt lo st N w k n) (kf : ¬ x < 0 → zEV M R Z pc' lo st N w k n) : zEV M R Z pc lo (.int x :: st) N w k n := by
  intro p l e s m args below meth c D q H0 C H locs ls HW HC HL
  obtain ⟨off, hd, ht, rfl⟩ := hi
  exact lv_if_lt C.1 C.2.1 hd ht (fun h => kt h p l e s m args below meth c D q H0 C H locs ls HW HC HL) (fun h => kf h p l e s m args below meth c D q H0 C H locs ls HW HC HL)

theorem z_icmp_ge {x y : Int32} (hi : zBr M pc (.if_icmp .ge) tgt pc') (kt : y ≤ x → zEV M R Z tgt lo st N w k n) (kf : ¬ y ≤ x → zEV M R Z pc' lo st N w k n) : zEV M R Z pc lo (.int y :: .int x :: st) N w k n := by
  intro p l e s m args below meth c D q H0 C H locs ls HW HC HL
  obtain ⟨off, hd, ht, rfl⟩ := hi
  exact lv_icmp_ge C.1 C.2.1 hd ht (fun h => kt h p l e s m args below meth c D q H0 C H locs ls HW HC HL) (fun h => kf h p l e s m args below meth c D q H0 C H locs ls HW HC HL)

theorem z_if_ge {x : Int32} (hi : zBr M pc (.ifCond .ge) tgt pc') (kt : 0 ≤ x → zEV M R Z tgt lo st N w k n) (kf : ¬ 0 ≤ x → zEV M R Z pc' lo st N w k n) : zEV M R Z pc lo (.int x :: st) N w k n := by
  intro p l e s m args below meth c D q H0 C H locs ls HW HC HL
  obtain ⟨off, hd, ht, rfl⟩ := hi
  exact lv_if_ge C.1 C.2.1 hd ht (fun h => kt h p l e s m args below meth c D q H0 C H locs ls HW HC HL) (fun h => kf h p l e s m args below meth c D q H0 C H locs ls HW HC HL)

theorem z_icmp_gt {x y : Int32} (hi : zBr M pc (.if_icmp .gt) tgt pc') (kt : y < x → zEV M R Z tgt lo st N w k n) (kf : ¬ y < x → zEV M R Z pc' lo st N w k n) : zEV M R Z pc lo (.int y :: .int x :: st) N w k n := by
  intro p l e s m args below meth c D q H0 C H locs ls HW HC HL
  obtain ⟨off, hd, ht, rfl⟩ := hi
  exact lv_icmp_gt C.1 C.2.1 hd ht (fun h => kt h p l e s m args below meth c D q H0 C H locs ls HW HC HL) (fun h => kf h p l e s m args below meth c D q H0 C H locs ls HW HC HL)

theorem z_if_gt {x : Int32} (hi : zBr M pc (.ifCond .gt) tgt pc') (kt : 0 < x → zEV M R Z tgt lo st N w k n) (kf : ¬ 0 < x → zEV M R Z pc' lo st N w k n) : zEV M R Z pc lo (.int x :: st) N w k n := by
  intro p l e s m args below meth c D q H0 C H locs ls HW HC HL
  obtain ⟨off, hd, ht, rfl⟩ := hi
  exact lv_if_gt C.1 C.2.1 hd ht (fun h => kt h p l e s m args below meth c D q H0 C H locs ls HW HC HL) (fun h => kf h p l e s m args below meth c D q H0 C H locs ls HW HC HL)

theorem z_icmp_le {x y : Int32} (hi : zBr M pc (.if_icmp .le) tgt pc') (kt : x ≤ y → zEV M R Z tgt lo st N w k n) (kf : ¬ x ≤ y → zEV M R Z pc' lo st N w k n) : zEV M R Z pc lo (.int y :: .int x :: st) N w k n := by
  intro p l e s m args below meth c D q H0 C H locs ls HW HC HL
  obtain ⟨off, hd, ht, rfl⟩ := hi
  exact lv_icmp_le C.1 C.2.1 hd ht (fun h => kt h p l e s m args below meth c D q H0 C H locs ls HW HC HL) (fun h => kf h p l e s m args below meth c D q H0 C H locs ls HW HC HL)

theorem z_if_le {x : Int32} (hi : zBr M pc (.ifCond .le) tgt pc') (kt : x ≤ 0 → zEV M R Z tgt lo st N w k n) (kf : ¬ x ≤ 0 → zEV M R Z pc' lo st N w k n) : zEV M R Z pc lo (.int x :: st) N w k n := by
  intro p l e s m args below meth c D q H0 C H locs ls HW HC HL
  obtain ⟨off, hd, ht, rfl⟩ := hi
  exact lv_if_le C.1 C.2.1 hd ht (fun h => kt h p l e s m args below meth c D q H0 C H locs ls HW HC HL) (fun h => kf h p l e s m args below meth c D q H0 C H locs ls HW HC HL)

end ZR
