section CW1
variable {T : Int} {r r' : LV} {w0 w1 w2 w3 w4 : IV}
/-! ===== what would be: the answers of best, ideal, miss, better ===== -/
theorem l32 (h : RowOK T r) : E64 (r 32) (zr r 32) 2 3 := row_w h 32 2 3 rfl rfl
theorem best_D (hp : PR w0 w1 w2 w3 w4 r) (h : RowOK T r) {ca : IV} {cal : LV} (hc : CirR ca cal r) (cb : IV) (cbl : LV) (o : IV) :
    ok_Db_best w0 w1 w3 w4 ca cal cb cbl ∧ ok_Mo_best o r ∧ (sp_Db_best w0 w1 w3 w4 ca cal cb cbl).1 = (sp_Mo_best o r).1 ∧ (sp_Mo_best o r).2 = upd o 6 0 := by
  obtain ⟨g1, g2, -, -⟩ := circ_copy (ca := cb) (cal := cbl) (cbl := cal) hp h hc.1 (cir_isB h hc)
  obtain ⟨a1, a2, a3, a4⟩ := lN_of h
  obtain ⟨o1, o2, c, ca', S', -, k1, k2, -⟩ := best_both hp h (l32 h) a2 a4 g1
  unfold ok_Db_best sp_Db_best ok_Mo_best sp_Mo_best
  simp only [lettn]
  rw [a1, a3]
  exact ⟨⟨g2, o1, trivial⟩, ⟨o2, trivial⟩, by rw [k1]; exact k2.symm, trivial⟩
theorem ideal_D (hp : PR w0 w1 w2 w3 w4 r) (h : RowOK T r) {ca : IV} {cal : LV} (hc : CirR ca cal r) (cb : IV) (cbl : LV) (o : IV) :
    ok_Db_ideal w0 w1 w3 w4 ca cal cb cbl ∧ ok_Mo_ideal o r ∧ (sp_Db_ideal w0 w1 w3 w4 ca cal cb cbl).1 = (sp_Mo_ideal o r).1 ∧ (sp_Mo_ideal o r).2 = upd o 6 0 := by
  obtain ⟨g1, g2, -, -⟩ := circ_copy (ca := cb) (cal := cbl) (cbl := cal) hp h hc.1 (cir_isB h hc)
  obtain ⟨v, ca', S', k1, k2, k3, k4, k5⟩ := ideal_R hp h g1
  obtain ⟨j1, j2⟩ := k5 rfl rfl rfl
  unfold ok_Db_ideal sp_Db_ideal ok_Mo_ideal sp_Mo_ideal
  simp only [lettn]
  exact ⟨⟨g2, k4, trivial⟩, ⟨j2, trivial⟩, by rw [k3]; exact j1.symm, trivial⟩
theorem m_amtNow (h : RowOK T r) {s : Int32} {Z : Int} (hs : E32 s Z 0 9999) : E64 (sp_Mo_amount (sp_Mo_plainNow s r)) (zabs (zdefl r Z (zf r) (zg r) (zr r 32))) 0 20000000000000 ∧ ok_Mo_plainNow s r := by
  obtain ⟨p1, p2⟩ := m_plainNow h hs
  exact ⟨m_abs (e64_w (-20000000000000) 20000000000000 p1 (by decide) (by decide)), p2⟩
theorem miss_D (hp : PR w0 w1 w2 w3 w4 r) (h : RowOK T r) {ca : IV} {cal : LV} (hc : CirR ca cal r) (cb : IV) (cbl : LV) (o : IV) :
    ok_Db_miss w0 w1 w3 w4 ca cal cb cbl ∧ ok_Mo_miss o r ∧ (sp_Db_miss w0 w1 w3 w4 ca cal cb cbl).1 = (sp_Mo_miss o r).1 ∧ (sp_Mo_miss o r).2 = upd o 6 0 := by
  have hN := zN h
  obtain ⟨g1, g2, -, -⟩ := circ_copy (ca := cb) (cal := cbl) (cbl := cal) hp h hc.1 (cir_isB h hc)
  obtain ⟨a1, a2, a3, a4⟩ := lN_of h
  obtain ⟨v, ca', S', k1, k2, k3, k4, k5⟩ := ideal_R hp h g1
  obtain ⟨j1, j2⟩ := k5 rfl rfl rfl
  obtain ⟨b1, b2, b3⟩ := c_amt hp h k1 (sE (s := v) (by omega))
  obtain ⟨o1, o2, c, ca2, S2, hc9, l1, l2, l3⟩ := best_both hp h (l32 h) a2 a4 b2
  obtain ⟨d1, d2, d3⟩ := c_amt hp h l3 (sE (s := c) hc9)
  obtain ⟨p1, p2⟩ := m_amtNow h (sE (s := v) (by omega))
  obtain ⟨q1, q2⟩ := m_amtNow h (sE (s := c) hc9)
  unfold ok_Db_miss sp_Db_miss ok_Mo_miss sp_Mo_miss
  simp only [lettn]
  rw [k3, a1, a3, l2, j1]
  dsimp only
  rw [l1]
  dsimp only
  refine ⟨⟨g2, k4, b3, o1, d3, trivial⟩, ⟨j2, p2, o2, q2, trivial⟩, ?_, trivial⟩
  rw [e64_eq b1 p1, e64_eq d1 q1]
theorem better_D (hp : PR w0 w1 w2 w3 w4 r) (h : RowOK T r) {ca : IV} {cal : LV} (hc : CirR ca cal r) (cb : IV) (cbl : LV) (o : IV) :
    ok_Db_better w0 w1 w3 w4 ca cal cb cbl ∧ ok_Mo_better o r ∧ (sp_Db_better w0 w1 w3 w4 ca cal cb cbl).1 = (sp_Mo_better o r).1 ∧ (sp_Mo_better o r).2 = upd o 6 0 := by
  have hN := zN h
  obtain ⟨g1, g2, -, -⟩ := circ_copy (ca := cb) (cal := cbl) (cbl := cal) hp h hc.1 (cir_isB h hc)
  obtain ⟨s1, s2⟩ := c_settings hp h
  obtain ⟨m1, m2⟩ := m_setting h
  have e5 : ca 5 = sp_Mo_setting r := Int32.toInt_inj.mp (hc.1.1.trans m1.1.symm)
  obtain ⟨b1, b2, b3⟩ := c_amt hp h g1 m1
  obtain ⟨p1, p2⟩ := m_amtNow h m1
  obtain ⟨o1, ca2, S2, l1, l2⟩ := c_cnt_loop hp h (e64_w 0 20000000000001 b1 (by decide) (by decide)) (10 ^ zD r : Nat) big 0 _ _ (by omega) (by rw [big_eq]; omega) b2
  obtain ⟨n1, n2⟩ := m_cnt_loop h (upd o 6 0) p1.1 (10 ^ zD r : Nat) big 0 (by omega) (by rw [big_eq]; omega)
  unfold ok_Db_better sp_Db_better ok_Mo_better sp_Mo_better sp_Se_countBelow ok_Se_countBelow
  simp only [lettn]
  rw [e5, s1]
  refine ⟨⟨g2, b3, ⟨s2, o1⟩, trivial⟩, ⟨m2, p2, n1⟩, ?_, ?_⟩
  · exact (congrArg Prod.fst l1).trans (congrArg Prod.fst n2).symm
  · exact congrArg Prod.snd n2
/-! ===== foretold, steadyIn, cooledIn ===== -/
theorem lay_back (h : ∀ k, k ≠ 37 → k ≠ 38 → r' k = r k) (p : Int64) : sp_Mo_layBack (r 37) (r 38) p r' = (p, r) := by
  unfold sp_Mo_layBack
  simp only [lettn]
  refine congrArg (Prod.mk p) (funext fun k => ?_)
  by_cases q : k = 38
  · subst q; exact uLs
  · rw [uLn q]
    by_cases q2 : k = 37
    · subst q2; exact uLs
    · rw [uLn q2]; exact h k q2 q
end CW1
