section ZSW
variable {M : zM} {R : Room} {Z : zZt} {pc : Nat} {lo : List (Option Value)} {st : List Value} {N : Nat} {w : zH} {k n : Nat}
/-- a table of targets from l on, and the other one -/
def zTs (M : zM) (pc : Nat) (l : Int) (tg : List Nat) (df : Nat) : Prop := ∃ (dflt h : Int) (offs : Array Int) (len : Nat), decode M.2.1 pc = .ok (.tableswitch dflt l h offs, len) ∧ (pc : Int) + dflt = (df : Int) ∧ h = l + tg.length - 1 ∧ offs.toList.map (fun o => (pc : Int) + o) = tg.map (fun (t : Nat) => (t : Int))
theorem z_tsw {x : Int32} {l : Int} {tg : List Nat} {df : Nat} (hi : zTs M pc l tg df) (kin : ∀ (j t : Nat), tg[j]? = some t → x.toInt = l + j → zEV M R Z t lo st N w k n) (kout : (x.toInt < l ∨ l + tg.length ≤ x.toInt) → zEV M R Z df lo st N w k n) : zEV M R Z pc lo (.int x :: st) N w k n := by
  intro p l' e s m args below meth c D q H0 C H locs ls HW HC HL
  obtain ⟨dflt, h, offs, len, hd, h1, h2, h3⟩ := hi
  by_cases hx : x.toInt < l ∨ h < x.toInt
  · exact lv_tableOut C.1 C.2.1 hd hx h1 (kout (hx.elim Or.inl (fun h9 => Or.inr (by omega))) p l' e s m args below meth c D q H0 C H locs ls HW HC HL)
  · have hx1 : ¬ x.toInt < l := fun h9 => hx (Or.inl h9)
    have hx2 : ¬ h < x.toInt := fun h9 => hx (Or.inr h9)
    have hj : (x.toInt - l).toNat < tg.length := by omega
    have hl : offs.toList.length = tg.length := by simpa using congrArg List.length h3
    have e1 : (offs.toList.map (fun o => (pc : Int) + o))[(x.toInt - l).toNat]? = (tg.map (fun (t : Nat) => (t : Int)))[(x.toInt - l).toNat]? := by rw [h3]
    simp only [List.getElem?_map, List.getElem?_eq_getElem hj, List.getElem?_eq_getElem (show (x.toInt - l).toNat < offs.toList.length by omega), Option.map_some] at e1
    have e2 := Option.some.inj e1
    refine lv_tableIn C.1 C.2.1 hd hx1 hx2 (off := offs.toList[(x.toInt - l).toNat]) (tgt := tg[(x.toInt - l).toNat]) ?_ e2 (kin _ _ (List.getElem?_eq_getElem hj) (by omega) p l' e s m args below meth c D q H0 C H locs ls HW HC HL)
    rw [← Array.getElem?_toList]
    exact List.getElem?_eq_getElem _
def zLs (M : zM) (pc : Nat) (a1 a2 : Int) (t1 t2 df : Nat) : Prop := ∃ (dflt o1 o2 : Int) (len : Nat), decode M.2.1 pc = .ok (.lookupswitch dflt #[(a1, o1), (a2, o2)], len) ∧ a1 < a2 ∧ (pc : Int) + dflt = (df : Int) ∧ (pc : Int) + o1 = (t1 : Int) ∧ (pc : Int) + o2 = (t2 : Int)
theorem z_lsw {x : Int32} {a1 a2 : Int} {t1 t2 df : Nat} (hi : zLs M pc a1 a2 t1 t2 df) (k1 : x.toInt = a1 → zEV M R Z t1 lo st N w k n) (k2 : x.toInt = a2 → zEV M R Z t2 lo st N w k n) (k3 : x.toInt ≠ a1 → x.toInt ≠ a2 → zEV M R Z df lo st N w k n) : zEV M R Z pc lo (.int x :: st) N w k n := by
  intro p l' e s m args below meth c D q H0 C H locs ls HW HC HL
  obtain ⟨dflt, o1, o2, len, hd, h0, h1, h2, h3⟩ := hi
  have hp : ((#[(a1, o1), (a2, o2)] : Array (Int × Int)).toList.zip ((#[(a1, o1), (a2, o2)] : Array (Int × Int)).toList.drop 1)).all (fun (a, next) => a.1 < next.1) = true := by simp [h0]
  by_cases e1 : x.toInt = a1
  · refine lv_lookup C.1 C.2.1 hd hp (off := o1) ?_ h2 (k1 e1 p l' e s m args below meth c D q H0 C H locs ls HW HC HL)
    simp [Op.lookupswitch.offset, e1]
  · by_cases e2 : x.toInt = a2
    · refine lv_lookup C.1 C.2.1 hd hp (off := o2) ?_ h3 (k2 e2 p l' e s m args below meth c D q H0 C H locs ls HW HC HL)
      simp [Op.lookupswitch.offset, e2, Int.ne_of_lt h0]
    · refine lv_lookup C.1 C.2.1 hd hp (off := dflt) ?_ h1 (k3 e1 e2 p l' e s m args below meth c D q H0 C H locs ls HW HC HL)
      have n1 : ¬ a1 = x.toInt := fun h => e1 h.symm
      have n2 : ¬ a2 = x.toInt := fun h => e2 h.symm
      simp [Op.lookupswitch.offset, n1, n2]
theorem zT_mem (i : Nat) {wd : Cond} (h : lw_tbl[i]? = some wd) (hg : goodWord wd = true) : wd ∈ zT := List.mem_filter.mpr ⟨List.mem_of_getElem? h, hg⟩
theorem zT_all (ps : List Nat) {ws : List Cond} (h : ws = ps.filterMap (fun i => lw_tbl[i]?)) (hg : ws.all goodWord = true) : ∀ wd ∈ ws, wd ∈ zT := by
  intro wd hw
  have h2 := List.all_eq_true.mp hg wd hw
  rw [h] at hw
  obtain ⟨i, -, hi⟩ := List.mem_filterMap.mp hw
  exact zT_mem i hi h2
end ZSW
