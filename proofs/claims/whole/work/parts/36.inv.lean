/-! What holds of the ledger's own numbers between calls -/
def jgOk (F : zFt) (j : Int32) : Prop := vp_in j (zn (F 3 8))
def enOk (F : zFt) (e : Int32) : Prop := vp_in e (zn (F 3 9))
def evOk (F : zFt) (i : Nat) : Prop := jgOk F (F 13 i) ∧ enOk F (F 14 i) ∧ F 9 (zn (F 13 i)) = F 10 (zn (F 14 i)) ∧ (F 12 i = 0 ∨ F 12 i = 1 ∨ F 12 i = 2) ∧ (F 12 i = 2 → vp_in (F 15 i) 8) ∧ (F 16 i = 0 ∨ F 16 i = 1)
/-- the show's own rows -/
def shOk (F : zFt) : Prop := vp_in (F 3 7) 13 ∧ (0 ≤ (F 3 8).toInt ∧ zn (F 3 8) ≤ 5 * zn (F 3 7)) ∧ vp_in (F 3 9) 61 ∧ (∀ c, F 7 c = 0 ∨ F 7 c = 1) ∧
  (∀ c, c < zn (F 3 7) → (0 ≤ (F 6 c).toInt ∧ 1 ≤ zn (F 6 c) ∧ zn (F 6 c) ≤ 5) ∧ 0 ≤ (F 5 c).toInt ∧ zn (F 5 c) + zn (F 6 c) ≤ zn (F 3 8)) ∧
  (∀ j, j < zn (F 3 8) → vp_in (F 9 j) (zn (F 3 7)) ∧ zn (F 5 (zn (F 9 j))) ≤ j ∧ j < zn (F 5 (zn (F 9 j))) + zn (F 6 (zn (F 9 j)))) ∧
  ∀ e, e < zn (F 3 9) → vp_in (F 10 e) (zn (F 3 7))
/-- a scoring's rows -/
def scOk (F : zFt) (s t : Nat) : Prop := jgOk F (sJ F s) ∧ enOk F (sE F s) ∧ F 9 (zn (sJ F s)) = F 10 (zn (sE F s)) ∧ vp_in (F (5 * s + 35) 5) 17 ∧ vp_in (F (5 * s + 35) 8) 9 ∧ (0 ≤ (F (5 * s + 35) 2).toInt ∧ zn (F (5 * s + 35) 2) ≤ t) ∧
  (∀ k, k < zn (F (5 * s + 35) 5) → vp_in (F (5 * s + 36) k) 16 ∧ 0 ≤ (F (5 * s + 37) k).toInt ∧ zn (F (5 * s + 37) k) ≤ t) ∧
  (∀ a b, a < b → b < zn (F (5 * s + 35) 5) → F (5 * s + 36) a ≠ F (5 * s + 36) b) ∧ ∀ k, k < zn (F (5 * s + 35) 5) → zn (F (5 * s + 35) 2) ≤ zn (F (5 * s + 37) k)
/-- how many events there were when nothing stood -/
def bsE (F : zFt) : Nat := if zn (F 2 7) = 0 then zn (F 11 6) else zn (F 35 2)
def unOk (F : zFt) : Prop := (F 2 10 = 0 ∨ F 2 10 = 1 ∨ F 2 10 = 2 ∨ F 2 10 = 3) ∧ (F 2 12 = 0 ∨ F 2 12 = 1) ∧ (F 2 10 = 1 → 0 ≤ (F 2 11).toInt ∧ zn (F 2 11) ≤ bsE F) ∧ (F 2 10 = 2 → vp_in (F 2 11) (zn (F 3 7))) ∧ (F 2 10 = 3 → vp_in (F 2 11) (bsE F))
def CI (F : zFt) : Prop := shOk F ∧ vp_in (F 31 2) 7 ∧ vp_in (F 25 3) 25 ∧ (∀ r, r < zn (F 25 3) → vp_in (F 27 r) 12) ∧ vp_in (F 11 6) 401 ∧ (∀ i, i < zn (F 11 6) → evOk F i) ∧ vp_in (F 2 7) 9 ∧ (∀ s, s < zn (F 2 7) → scOk F s (tpS F (zn (F 2 7)) s)) ∧ unOk F
theorem vin_0 {x : Int32} {n : Nat} (h : vp_in x n) : 0 ≤ x.toInt := (vin.mp h).1
theorem vin_le1 {x : Int32} {n : Nat} (h : vp_in x (n + 1)) : zn x ≤ n := Nat.le_of_lt_succ (vin_zn h)
theorem sh_60 {F : zFt} (h : shOk F) : zn (F 3 8) ≤ 60 := by
  have h1 := vin_le1 h.1
  have h2 := h.2.1.2
  omega
theorem sh_jg {F : zFt} (h : shOk F) {j : Int32} (hj : jgOk F j) : vp_in j 60 := vin_le hj (sh_60 h)
theorem sh_en {F : zFt} (h : shOk F) {e : Int32} (he : enOk F e) : vp_in e 60 := vin_le he (vin_le1 h.2.2.1)
theorem sh_cl {F : zFt} (h : shOk F) {c : Int32} (hc : vp_in c (zn (F 3 7))) : vp_in c 12 := vin_le hc (vin_le1 h.1)
theorem sh_jc {F : zFt} (h : shOk F) {j : Int32} (hj : jgOk F j) : vp_in (F 9 (zn j)) 12 := sh_cl h (h.2.2.2.2.2.1 _ (vin_zn hj)).1
theorem sh_ec {F : zFt} (h : shOk F) {e : Int32} (he : enOk F e) : vp_in (F 10 (zn e)) 12 := sh_cl h (h.2.2.2.2.2.2 _ (vin_zn he))
/-- where a mark stands -/
theorem sh_mi {F : zFt} (h : shOk F) {e j : Int32} (he : enOk F e) (hj : jgOk F j) : ∃ t, t < zn (F 6 (zn (F 9 (zn j)))) ∧ t < 5 ∧ cMi F e j = nI (zn e * 5 + t) ∧ zn j = zn (F 5 (zn (F 9 (zn j)))) + t := by
  have h1 := h.2.2.2.2.2.1 _ (vin_zn hj)
  have h2 := h.2.2.2.2.1 _ (vin_zn h1.1)
  refine ⟨zn j - zn (F 5 (zn (F 9 (zn j)))), by omega, by omega, ?_, by omega⟩
  have e1 := vin_nI hj
  have e2 := vin_nI he
  have e3 := nI_zn h2.2.1
  have l1 := vin_zn (sh_en h he)
  have l2 := vin_zn (sh_jg h hj)
  rw [cMi]
  generalize F 5 (zn (F 9 (zn j))) = f at *
  rw [← e1, ← e2, ← e3, nI_m5, nI_add, pk_sub (by omega)]
  rw [e1, e2, e3]
  congr 1
  omega
theorem sh_mx {F : zFt} (h : shOk F) {e j : Int32} (he : enOk F e) (hj : jgOk F j) : vp_in (cMi F e j) 300 := by
  obtain ⟨t, -, h2, h3, -⟩ := sh_mi h he hj
  have l1 := vin_zn (sh_en h he)
  rw [h3]
  exact vin_mk (by omega)
theorem sh_okC {F : zFt} (h : shOk F) {e : Nat} (he : e < zn (F 3 9)) : okC F e := by
  have h1 := h.2.2.2.2.2.2 e he
  have h2 := h.2.2.2.2.1 _ (vin_zn h1)
  exact ⟨sh_cl h h1, h2.1.2.2, h2.1.1, h2.1.2.1⟩
theorem ev_okE {F : zFt} (h : shOk F) {i : Nat} (hi : evOk F i) : okE F i := by
  obtain ⟨h1, h2, h3, h4, h5, h6⟩ := hi
  refine ⟨sh_en h h2, fun _ => ⟨sh_jg h h1, sh_jc h h1, sh_mx h h2 h1⟩, fun q1 q2 => ?_⟩
  have h7 : F 12 i = 2 := by
    rcases h4 with q | q | q
    · exact absurd q q1
    · exact absurd q q2
    · exact q
  obtain ⟨a, ha, ea⟩ := vin_of (sh_en h h2)
  obtain ⟨b, hb, eb⟩ := vin_of (h5 h7)
  rw [ea, eb, nI_m8, nI_add]
  exact vin_mk (by omega)
theorem sc_okS {F : zFt} (h : shOk F) {s : Nat} (h1 : jgOk F (sJ F s)) (h2 : enOk F (sE F s)) : okS F s := by
  have h3 := sh_okC h (vin_zn h2)
  exact ⟨sh_jg h h1, sh_jc h h1, sh_mx h h2 h1, sh_en h h2, h3.1, h3.2.1, h3.2.2.1, h3.2.2.2⟩
theorem sc_okT {F : zFt} (h : shOk F) {s t : Nat} (h1 : scOk F s t) : okT F s t := by
  obtain ⟨a1, a2, a3, a4, a5, a6, a7, a8⟩ := h1
  exact ⟨sc_okS h a1 a2, ⟨vin_0 a4, vin_le1 a4⟩, ⟨vin_0 a5, vin_le1 a5⟩, a6, fun k hk => (a7 k hk).2⟩
theorem CI_okV {F : zFt} (h : CI F) : okV F := ⟨vin_0 h.2.2.2.2.1, vin_le1 h.2.2.2.2.1, fun i hi => ev_okE h.1 (h.2.2.2.2.2.1 i hi)⟩
theorem CI_FI {F : zFt} (h : CI F) : FI F (zn (F 2 7)) := by
  have h7 := h.2.2.2.2.2.2.1
  exact ⟨(vin_nI h7).symm, vin_le1 h7, CI_okV h, ⟨vin_0 h.2.2.1, vin_le1 h.2.2.1⟩, h.2.2.2.1, fun s hs => sc_okT h.1 (h.2.2.2.2.2.2.2.1 s hs)⟩
theorem CI_st {F : zFt} (h : CI F) (h0 : ¬ F 2 7 = 0) : ∃ n, zn (F 2 7) = n + 1 ∧ FI F (n + 1) ∧ cIn F = n := by
  have h1 := CI_FI h
  have h2 : ¬ zn (F 2 7) = 0 := by
    intro z
    rw [z] at h1
    exact h0 (by rw [h1.1]; rfl)
  obtain ⟨n, hn⟩ : ∃ n, zn (F 2 7) = n + 1 := ⟨zn (F 2 7) - 1, by omega⟩
  rw [hn] at h1
  exact ⟨n, hn, h1, (FI_in h1).1⟩
