section TKG
variable {B : Nat → Nat} {n st : Nat} {t tb o bu : IV}
/-! ===== a setup's draft and what it has told already ===== -/
def pA (k : Nat) : Nat := [0, 0, 0, 1, 1, 1, 1, 2, 2, 2, 2, 2, 0, 3, 3, 3, 4, 4, 4, 0, 0, 0, 0, 0, 0, 0, 0, 0, 0].getD k 0
def pI (k : Nat) : Nat := [0, 1, 2, 0, 1, 2, 3, 0, 1, 2, 3, 4, 5, 0, 1, 2, 0, 1, 2, 8, 9, 10, 11, 12, 13, 14, 15, 16, 17].getD k 0
def pq (d0 d1 d2 d3 d4 : IV) (a i : Nat) : Int32 := if a = 0 then d0 i else if a = 1 then d1 i else if a = 2 then d2 i else if a = 3 then d3 i else d4 i
theorem pw_q (d0 d1 d2 d3 d4 : IV) : ∀ k, k < 29 → pw d0 d1 d2 d3 d4 k = pq d0 d1 d2 d3 d4 (pA k) (pI k)
  | 0, _ => rfl
  | 1, _ => rfl
  | 2, _ => rfl
  | 3, _ => rfl
  | 4, _ => rfl
  | 5, _ => rfl
  | 6, _ => rfl
  | 7, _ => rfl
  | 8, _ => rfl
  | 9, _ => rfl
  | 10, _ => rfl
  | 11, _ => rfl
  | 12, _ => rfl
  | 13, _ => rfl
  | 14, _ => rfl
  | 15, _ => rfl
  | 16, _ => rfl
  | 17, _ => rfl
  | 18, _ => rfl
  | 19, _ => rfl
  | 20, _ => rfl
  | 21, _ => rfl
  | 22, _ => rfl
  | 23, _ => rfl
  | 24, _ => rfl
  | 25, _ => rfl
  | 26, _ => rfl
  | 27, _ => rfl
  | 28, _ => rfl
  | k + 29, h => absurd h (by omega)
theorem pA_lt : ∀ k, k < 29 → pA k < 5 := by decide
theorem pq_inj : ∀ k, k < 29 → ∀ m, m < 29 → pA k = pA m → pI k = pI m → k = m := by decide
def DrX (X : Nat → Prop) (d0 d1 d2 d3 d4 : IV) (dr : LV) : Prop := (∀ k, k < 29 → ¬ X k → (pw d0 d1 d2 d3 d4 k).toInt = (dr k).toInt ∧ rLo k ≤ (dr k).toInt ∧ (dr k).toInt ≤ rHi 0 k) ∧ ∀ k, 29 ≤ k → k < 215 → dr k = if k = 32 then 2 else 0
theorem drx_mono {X Y : Nat → Prop} {d0 d1 d2 d3 d4 : IV} {dr : LV} (h : DrX X d0 d1 d2 d3 d4 dr) (e : ∀ k, k < 29 → X k → Y k) : DrX Y d0 d1 d2 d3 d4 dr := ⟨fun k hk hY => h.1 k hk (fun w => hY (e k hk w)), h.2⟩
theorem drx0 {X : Nat → Prop} {d0 d1 d2 d3 d4 : IV} {dr : LV} {k j : Nat} (h : DrX X d0 d1 d2 d3 d4 dr) (hk : k < 29) (ha : pA k = 0) (hj : pI k = j) {x : Int32} {y : Int64} (e : x.toInt = y.toInt) (hb : rLo k ≤ y.toInt ∧ y.toInt ≤ rHi 0 k) : DrX (fun m => X m ∧ m ≠ k) (upd d0 j x) d1 d2 d3 d4 (vp_updL dr k y) := by
  refine ⟨fun m hm hX => ?_, fun m hm hm2 => by rw [uLn (by omega)]; exact h.2 m hm hm2⟩
  by_cases q : m = k
  · subst q
    rw [pw_q _ _ _ _ _ m hm, uLs, ha, hj]
    refine ⟨?_, hb⟩
    show (upd d0 j x j).toInt = _
    rw [us]; exact e
  · have o := h.1 m hm (fun w => hX ⟨w, q⟩)
    rw [uLn q]
    rw [pw_q _ _ _ _ _ m hm] at o ⊢
    have z : pq (upd d0 j x) d1 d2 d3 d4 (pA m) (pI m) = pq d0 d1 d2 d3 d4 (pA m) (pI m) := by
      by_cases w : pA m = 0
      · have u : pI m ≠ j := fun v => q (pq_inj m hm k hk (w.trans ha.symm) (v.trans hj.symm))
        rw [w]
        show upd d0 j x (pI m) = d0 (pI m)
        exact un u
      · have w5 := pA_lt m hm
        unfold pq
        by_cases w0 : pA m = 0
        · exact absurd w0 w
        rw [if_neg w0, if_neg w0]
    rw [z]
    exact o
theorem drx1 {X : Nat → Prop} {d0 d1 d2 d3 d4 : IV} {dr : LV} {k j : Nat} (h : DrX X d0 d1 d2 d3 d4 dr) (hk : k < 29) (ha : pA k = 1) (hj : pI k = j) {x : Int32} {y : Int64} (e : x.toInt = y.toInt) (hb : rLo k ≤ y.toInt ∧ y.toInt ≤ rHi 0 k) : DrX (fun m => X m ∧ m ≠ k) d0 (upd d1 j x) d2 d3 d4 (vp_updL dr k y) := by
  refine ⟨fun m hm hX => ?_, fun m hm hm2 => by rw [uLn (by omega)]; exact h.2 m hm hm2⟩
  by_cases q : m = k
  · subst q
    rw [pw_q _ _ _ _ _ m hm, uLs, ha, hj]
    refine ⟨?_, hb⟩
    show (upd d1 j x j).toInt = _
    rw [us]; exact e
  · have o := h.1 m hm (fun w => hX ⟨w, q⟩)
    rw [uLn q]
    rw [pw_q _ _ _ _ _ m hm] at o ⊢
    have z : pq d0 (upd d1 j x) d2 d3 d4 (pA m) (pI m) = pq d0 d1 d2 d3 d4 (pA m) (pI m) := by
      by_cases w : pA m = 1
      · have u : pI m ≠ j := fun v => q (pq_inj m hm k hk (w.trans ha.symm) (v.trans hj.symm))
        rw [w]
        show upd d1 j x (pI m) = d1 (pI m)
        exact un u
      · have w5 := pA_lt m hm
        unfold pq
        by_cases w0 : pA m = 0
        · rw [if_pos w0, if_pos w0]
        rw [if_neg w0, if_neg w0]
        by_cases w1 : pA m = 1
        · exact absurd w1 w
        rw [if_neg w1, if_neg w1]
    rw [z]
    exact o
theorem drx2 {X : Nat → Prop} {d0 d1 d2 d3 d4 : IV} {dr : LV} {k j : Nat} (h : DrX X d0 d1 d2 d3 d4 dr) (hk : k < 29) (ha : pA k = 2) (hj : pI k = j) {x : Int32} {y : Int64} (e : x.toInt = y.toInt) (hb : rLo k ≤ y.toInt ∧ y.toInt ≤ rHi 0 k) : DrX (fun m => X m ∧ m ≠ k) d0 d1 (upd d2 j x) d3 d4 (vp_updL dr k y) := by
  refine ⟨fun m hm hX => ?_, fun m hm hm2 => by rw [uLn (by omega)]; exact h.2 m hm hm2⟩
  by_cases q : m = k
  · subst q
    rw [pw_q _ _ _ _ _ m hm, uLs, ha, hj]
    refine ⟨?_, hb⟩
    show (upd d2 j x j).toInt = _
    rw [us]; exact e
  · have o := h.1 m hm (fun w => hX ⟨w, q⟩)
    rw [uLn q]
    rw [pw_q _ _ _ _ _ m hm] at o ⊢
    have z : pq d0 d1 (upd d2 j x) d3 d4 (pA m) (pI m) = pq d0 d1 d2 d3 d4 (pA m) (pI m) := by
      by_cases w : pA m = 2
      · have u : pI m ≠ j := fun v => q (pq_inj m hm k hk (w.trans ha.symm) (v.trans hj.symm))
        rw [w]
        show upd d2 j x (pI m) = d2 (pI m)
        exact un u
      · have w5 := pA_lt m hm
        unfold pq
        by_cases w0 : pA m = 0
        · rw [if_pos w0, if_pos w0]
        rw [if_neg w0, if_neg w0]
        by_cases w1 : pA m = 1
        · rw [if_pos w1, if_pos w1]
        rw [if_neg w1, if_neg w1]
        by_cases w2 : pA m = 2
        · exact absurd w2 w
        rw [if_neg w2, if_neg w2]
    rw [z]
    exact o
theorem drx3 {X : Nat → Prop} {d0 d1 d2 d3 d4 : IV} {dr : LV} {k j : Nat} (h : DrX X d0 d1 d2 d3 d4 dr) (hk : k < 29) (ha : pA k = 3) (hj : pI k = j) {x : Int32} {y : Int64} (e : x.toInt = y.toInt) (hb : rLo k ≤ y.toInt ∧ y.toInt ≤ rHi 0 k) : DrX (fun m => X m ∧ m ≠ k) d0 d1 d2 (upd d3 j x) d4 (vp_updL dr k y) := by
  refine ⟨fun m hm hX => ?_, fun m hm hm2 => by rw [uLn (by omega)]; exact h.2 m hm hm2⟩
  by_cases q : m = k
  · subst q
    rw [pw_q _ _ _ _ _ m hm, uLs, ha, hj]
    refine ⟨?_, hb⟩
    show (upd d3 j x j).toInt = _
    rw [us]; exact e
  · have o := h.1 m hm (fun w => hX ⟨w, q⟩)
    rw [uLn q]
    rw [pw_q _ _ _ _ _ m hm] at o ⊢
    have z : pq d0 d1 d2 (upd d3 j x) d4 (pA m) (pI m) = pq d0 d1 d2 d3 d4 (pA m) (pI m) := by
      by_cases w : pA m = 3
      · have u : pI m ≠ j := fun v => q (pq_inj m hm k hk (w.trans ha.symm) (v.trans hj.symm))
        rw [w]
        show upd d3 j x (pI m) = d3 (pI m)
        exact un u
      · have w5 := pA_lt m hm
        unfold pq
        by_cases w0 : pA m = 0
        · rw [if_pos w0, if_pos w0]
        rw [if_neg w0, if_neg w0]
        by_cases w1 : pA m = 1
        · rw [if_pos w1, if_pos w1]
        rw [if_neg w1, if_neg w1]
        by_cases w2 : pA m = 2
        · rw [if_pos w2, if_pos w2]
        rw [if_neg w2, if_neg w2]
        by_cases w3 : pA m = 3
        · exact absurd w3 w
        rw [if_neg w3, if_neg w3]
    rw [z]
    exact o
theorem drx4 {X : Nat → Prop} {d0 d1 d2 d3 d4 : IV} {dr : LV} {k j : Nat} (h : DrX X d0 d1 d2 d3 d4 dr) (hk : k < 29) (ha : pA k = 4) (hj : pI k = j) {x : Int32} {y : Int64} (e : x.toInt = y.toInt) (hb : rLo k ≤ y.toInt ∧ y.toInt ≤ rHi 0 k) : DrX (fun m => X m ∧ m ≠ k) d0 d1 d2 d3 (upd d4 j x) (vp_updL dr k y) := by
  refine ⟨fun m hm hX => ?_, fun m hm hm2 => by rw [uLn (by omega)]; exact h.2 m hm hm2⟩
  by_cases q : m = k
  · subst q
    rw [pw_q _ _ _ _ _ m hm, uLs, ha, hj]
    refine ⟨?_, hb⟩
    show (upd d4 j x j).toInt = _
    rw [us]; exact e
  · have o := h.1 m hm (fun w => hX ⟨w, q⟩)
    rw [uLn q]
    rw [pw_q _ _ _ _ _ m hm] at o ⊢
    have z : pq d0 d1 d2 d3 (upd d4 j x) (pA m) (pI m) = pq d0 d1 d2 d3 d4 (pA m) (pI m) := by
      by_cases w : pA m = 4
      · have u : pI m ≠ j := fun v => q (pq_inj m hm k hk (w.trans ha.symm) (v.trans hj.symm))
        rw [w]
        show upd d4 j x (pI m) = d4 (pI m)
        exact un u
      · have w5 := pA_lt m hm
        unfold pq
        by_cases w0 : pA m = 0
        · rw [if_pos w0, if_pos w0]
        rw [if_neg w0, if_neg w0]
        by_cases w1 : pA m = 1
        · rw [if_pos w1, if_pos w1]
        rw [if_neg w1, if_neg w1]
        by_cases w2 : pA m = 2
        · rw [if_pos w2, if_pos w2]
        rw [if_neg w2, if_neg w2]
        by_cases w3 : pA m = 3
        · rw [if_pos w3, if_pos w3]
        rw [if_neg w3, if_neg w3]
        omega
    rw [z]
    exact o
/-! the flags -/
def mk (i : Nat) : Int32 := ([1, 2, 4, 8, 16, 32, 64, 128, 256, 512, 1024, 2048, 4096] : List Int32).getD i 0
def Fg (tq rT wT : IV) (i : Nat) : Int32 := if i < 6 then tq i else if i < 8 then wT (i - 6) else rT (i - 8)
def FlR (su tq rT wT : IV) : Prop := ∀ i, i < 13 → (su 2 &&& mk i = 0 ↔ Fg tq rT wT i = 0)
theorem fl_same (s m : Int32) : (s ||| m) &&& m = m := by
  apply Int32.toBitVec_inj.mp
  rw [Int32.toBitVec_and, Int32.toBitVec_or]
  apply BitVec.eq_of_getLsbD_eq
  intro i _
  rw [BitVec.getLsbD_and, BitVec.getLsbD_or]
  cases s.toBitVec.getLsbD i <;> cases m.toBitVec.getLsbD i <;> rfl
theorem fl_other (s m m' : Int32) (h : m &&& m' = 0) : (s ||| m) &&& m' = s &&& m' := by
  have h2 : ∀ i, (m.toBitVec.getLsbD i && m'.toBitVec.getLsbD i) = false := fun i => by
    have e : (m &&& m').toBitVec.getLsbD i = (0 : Int32).toBitVec.getLsbD i := by rw [h]
    rw [Int32.toBitVec_and, BitVec.getLsbD_and] at e
    rw [e]
    exact BitVec.getLsbD_zero
  apply Int32.toBitVec_inj.mp
  rw [Int32.toBitVec_and, Int32.toBitVec_or, Int32.toBitVec_and]
  apply BitVec.eq_of_getLsbD_eq
  intro i _
  have h3 := h2 i
  rw [BitVec.getLsbD_and, BitVec.getLsbD_or, BitVec.getLsbD_and]
  cases hs : s.toBitVec.getLsbD i <;> cases hm : m.toBitVec.getLsbD i <;> cases hm2 : m'.toBitVec.getLsbD i <;> simp_all
theorem mk_c : ∀ i, i < 13 → ¬ mk i = 0 ∧ ∀ j, j < 13 → j ≠ i → mk i &&& mk j = 0 := by decide +kernel
/-- a flag is raised -/
theorem flr_set {su tq rT wT tq' rT' wT' : IV} (h : FlR su tq rT wT) {i : Nat} (hi : i < 13) (h1 : ¬ Fg tq' rT' wT' i = 0) (h2 : ∀ j, j < 13 → j ≠ i → Fg tq' rT' wT' j = Fg tq rT wT j) : FlR (upd su 2 (su 2 ||| mk i)) tq' rT' wT' := by
  obtain ⟨m0, m1⟩ := mk_c i hi
  intro j hj
  rw [us]
  by_cases q : j = i
  · subst q
    rw [fl_same]
    exact ⟨fun w => absurd w m0, fun w => absurd w h1⟩
  · rw [fl_other _ _ _ (m1 j hj q), h2 j hj q]
    exact h j hj
theorem nar1 : vp_nar .boolean (1 : Int32) = 1 := by decide
theorem nar0 : vp_nar .boolean (0 : Int32) = 0 := by decide
/-- the first word of a statement that may stand but once -/
theorem once_TX {su tq rT wT : IV} (h : TX B n st t tb o bu) (hf : FlR su tq rT wT) {i : Nat} (hi : i < 6) {m c : Int32} (hm : m = mk i) (hc : c = nI i) : ok_Su_takeOnce m su t tb ∧ ok_Mo_once c o bu tq ∧ ∃ st', st ≤ st' ∧ TX B n st' (sp_Su_takeOnce m su t tb).2 tb (sp_Mo_once c o bu tq).1 bu ∧ FrT o (sp_Mo_once c o bu tq).1 ∧
    FlR (sp_Su_takeOnce m su t tb).1 (sp_Mo_once c o bu tq).2 rT wT ∧ (sp_Mo_once c o bu tq).2 = upd tq i 1 ∧ ((sp_Su_takeOnce m su t tb).2 5 = 0 → t 5 = 0) := by
  subst hm; subst hc
  have hfi : (su 2 &&& mk i = 0) ↔ tq i = 0 := by
    have := hf i (by omega)
    rw [show Fg tq rT wT i = tq i from if_pos hi] at this
    exact this
  have hset : FlR (upd su 2 (su 2 ||| mk i)) (upd tq i 1) rT wT := flr_set hf (by omega) (by rw [show Fg (upd tq i 1) rT wT i = upd tq i 1 i from if_pos hi, us]; decide) (fun j hj q => by
    unfold Fg
    by_cases w : j < 6
    · rw [if_pos w, if_pos w, un q]
    · rw [if_neg w, if_neg w])
  have hvi : vp_in (nI i) 6 := vp_nI hi (by decide)
  unfold sp_Su_takeOnce ok_Su_takeOnce sp_Su_takeOnce_17 ok_Su_takeOnce_17 sp_Mo_once ok_Mo_once sp_Mo_once_15 ok_Mo_once_15
  simp only [lettn]
  rw [cl_nI (by omega), nar1]
  by_cases q : tq i = 0
  · have qs := hfi.mpr q
    obtain ⟨g1, g2, st', g3, g4, g5, g6, g7⟩ := goOn_TX h
    rw [if_pos qs, if_pos q, must_1 (p := 1) (by decide)]
    exact ⟨⟨fun _ => ⟨g1, trivial⟩, fun w => absurd qs w⟩, ⟨hvi, fun _ => ⟨hvi, g2, trivial⟩, fun w => absurd q w⟩, st', g3, g4, g5, hset, rfl, fun w => Decidable.byContradiction fun z => z (by rw [(g7 z).1] at w; exact w)⟩
  · have qs : ¬ (su 2 &&& mk i = 0) := fun w => q (hfi.mp w)
    obtain ⟨f1, f2, f3, f4⟩ := fail_TX h (c := 3) (by decide)
    obtain ⟨g1, g2, st', g3, g4, g5, g6, g7⟩ := goOn_TX f1
    rw [if_neg qs, if_neg q]
    exact ⟨⟨fun w => absurd w qs, fun _ => ⟨g1, trivial⟩⟩, ⟨hvi, fun w => absurd w q, fun _ => ⟨hvi, g2, trivial⟩⟩, st', g3, g4, frt_tr f3 g5, hset, rfl, fun w => absurd (by rw [(g7 f2).1] at w; exact w) f2⟩
end TKG
