section CW3
variable {T : Int} {r r' : LV} {w0 w1 w2 w3 w4 : IV}
theorem idx_ok {a b : Int32} (h : 0 ≤ a.toInt ∧ a.toInt < b.toInt) : ok_Db_checkIndex a b := by
  have n1 : ¬ a < 0 := by rw [Int32.lt_iff_toInt_lt]; show ¬ a.toInt < 0; omega
  have n2 : a < b := by rw [Int32.lt_iff_toInt_lt]; omega
  unfold ok_Db_checkIndex
  exact ⟨fun w => absurd w n1, fun _ => ⟨fun _ => trivial, fun w => absurd n2 w⟩⟩
theorem kind_in {p : Int32} : (0 ≤ p.toInt ∧ p.toInt < 5 → sp_Mo_isKind p.toInt64 = 1) ∧ (¬ (0 ≤ p.toInt ∧ p.toInt < 5) → sp_Mo_isKind p.toInt64 = 0) ∧ ok_Mo_isKind p.toInt64 := by
  obtain ⟨a, b⟩ := in_iff (v := p.toInt64) (a := 0) (b := 4) (A := 0) (B := 4) (Kit.i64_of_i32 p) rfl rfl
  unfold sp_Mo_isKind ok_Mo_isKind
  simp only [lettn]
  exact ⟨fun w => a (by omega), fun w => b (by omega), isB_in _ _ _, trivial⟩
theorem bestWith_D (hp : PR w0 w1 w2 w3 w4 r) (h : RowOK T r) {ca : IV} {cal : LV} (hc : CirR ca cal r) (cb : IV) (cbl : LV) (o : IV) (p1 p2 : Int32) :
    ok_Mo_bestWith p1 p2 o r ∧ (¬ ((0 ≤ p1.toInt ∧ p1.toInt < 5) ∧ (0 ≤ p2.toInt ∧ p2.toInt < 5)) → sp_Mo_bestWith p1 p2 o r = (0, upd o 6 1)) ∧
    ((0 ≤ p1.toInt ∧ p1.toInt < 5) ∧ (0 ≤ p2.toInt ∧ p2.toInt < 5) → ok_Db_bestWith p1 p2 w0 w1 w2 w3 w4 ca cal cb cbl ∧ (sp_Mo_bestWith p1 p2 o r).2 = upd o 6 0 ∧ (sp_Db_bestWith p1 p2 w0 w1 w2 w3 w4 ca cal cb cbl).1 = (sp_Mo_bestWith p1 p2 o r).1) := by
  obtain ⟨i1, i2, i3⟩ := kind_in (p := p1)
  obtain ⟨j1, j2, j3⟩ := kind_in (p := p2)
  have e22 : sp_Mo_bestWith_22 o p1 p2 r 1 = (0, upd o 6 1) := by
    unfold sp_Mo_bestWith_22; simp only [lettn]; rw [us, if_neg (by decide)]
  have o22 : ok_Mo_bestWith_22 o p1 p2 r 1 := by
    unfold ok_Mo_bestWith_22; simp only [lettn]; rw [us]; exact ⟨fun w => absurd w (by decide), fun _ => trivial⟩
  by_cases q1 : 0 ≤ p1.toInt ∧ p1.toInt < 5
  · have t1 := i1 q1
    by_cases q2 : 0 ≤ p2.toInt ∧ p2.toInt < 5
    · have t2 := j1 q2
      obtain ⟨g1, g2, -, -⟩ := circ_copy (ca := cb) (cal := cbl) (cbl := cal) hp h hc.1 (cir_isB h hc)
      have x1 := nzex q1.1
      have x2 := nzex q2.1
      have y1 : p1.toInt64 = lN p1.toInt.toNat := (congrArg Int32.toInt64 x1).trans (w_lit _ (by omega))
      have y2 : p2.toInt64 = lN p2.toInt.toNat := (congrArg Int32.toInt64 x2).trans (w_lit _ (by omega))
      obtain ⟨k1, -, -, -⟩ := c_choose (a := p1.toInt.toNat) (b := p2.toInt.toNat) hp h g1 (by omega) (by omega)
      rw [← x1, ← x2] at k1
      obtain ⟨o1, o2, c, ca', S', -, l1, l2, -⟩ := best_both hp h (l32 h) (f := p1.toInt.toNat) (g := p2.toInt.toNat) (by omega) (by omega) k1
      rw [← y1, ← y2] at o2 l2
      have em : sp_Mo_bestWith p1 p2 o r = (nI c, upd o 6 0) := by
        unfold sp_Mo_bestWith sp_Mo_bestWith_22; simp only [lettn]; rw [t1, if_neg (by decide), t2, if_neg (by decide), us, if_pos (by decide), l2]
      refine ⟨?_, fun w => absurd ⟨q1, q2⟩ w, fun _ => ⟨?_, by rw [em], ?_⟩⟩
      · unfold ok_Mo_bestWith; simp only [lettn]
        refine ⟨i3, fun w => absurd (t1.symm.trans w) (by decide), fun _ => ⟨j3, fun w => absurd (t2.symm.trans w) (by decide), fun _ => ?_⟩⟩
        unfold ok_Mo_bestWith_22; simp only [lettn]; rw [us]; exact ⟨fun _ => ⟨o2, trivial⟩, fun w => absurd (by decide) w⟩
      · unfold ok_Db_bestWith; simp only [lettn]
        exact ⟨idx_ok q1, idx_ok q2, g2, o1, trivial⟩
      · rw [em]; unfold sp_Db_bestWith; simp only [lettn]; rw [l1]
    · have t2 := j2 q2
      refine ⟨?_, fun _ => ?_, fun w => absurd w.2 q2⟩
      · unfold ok_Mo_bestWith ok_Mo_bestWith_21; simp only [lettn]
        exact ⟨i3, fun w => absurd (t1.symm.trans w) (by decide), fun _ => ⟨j3, fun _ => o22, fun w => absurd t2 w⟩⟩
      · unfold sp_Mo_bestWith sp_Mo_bestWith_21; simp only [lettn]; rw [t1, if_neg (by decide), t2, if_pos rfl]; exact e22
  · have t1 := i2 q1
    refine ⟨?_, fun _ => ?_, fun w => absurd w.1 q1⟩
    · unfold ok_Mo_bestWith ok_Mo_bestWith_21; simp only [lettn]
      exact ⟨i3, fun _ => o22, fun w => absurd t1 w⟩
    · unfold sp_Mo_bestWith sp_Mo_bestWith_21; simp only [lettn]; rw [t1, if_pos rfl]; exact e22
theorem apparent_D (hp : PR w0 w1 w2 w3 w4 r) (h : RowOK T r) {ca : IV} {cal : LV} (hc : CirR ca cal r) (cb : IV) (cbl : LV) (o : IV) (p : Int32) :
    ok_Mo_apparent p o r ∧ (¬ (2 ≤ p.toInt ∧ p.toInt ≤ 3) → sp_Mo_apparent p o r = (0, upd o 6 1)) ∧
    (2 ≤ p.toInt ∧ p.toInt ≤ 3 → ok_Db_apparent p w0 w1 w3 w4 ca cal cb cbl ∧ (sp_Mo_apparent p o r).2 = upd o 6 0 ∧ (sp_Db_apparent p w0 w1 w2 w3 w4 ca cal cb cbl).1 = (sp_Mo_apparent p o r).1) := by
  obtain ⟨i1, i2⟩ := in_iff (v := p.toInt64) (a := 2) (b := 3) (Kit.i64_of_i32 p) rfl rfl
  by_cases q : 2 ≤ p.toInt ∧ p.toInt ≤ 3
  · have t := i1 q
    obtain ⟨g1, g2, -, -⟩ := circ_copy (ca := cb) (cal := cbl) (cbl := cal) hp h hc.1 (cir_isB h hc)
    obtain ⟨k1, -, -⟩ := c_wire hp h g1 (l := p) (M := p.toInt) rfl (by omega)
    obtain ⟨a1, a2, a3, a4⟩ := lN_of h
    have hl : E64 p.toInt64 p.toInt 2 3 := ⟨Kit.i64_of_i32 p, q.1, q.2⟩
    obtain ⟨o1, o2, c, ca', S', hc9, l1, l2, l3⟩ := best_both hp h hl a2 a4 k1
    obtain ⟨d1, d2, -⟩ := c_dial hp h l3 (sE (s := c) hc9)
    have d14 : E64 ((sp_Ci_dial (nI c) ca' w0 w1 w3 w4 14).toInt64) (zcold r c) 0 400100998 := by
      obtain ⟨-, -, -, -, -, -, -, -, -, -, -, -, e14, -⟩ := d1
      have b := zcold_bd h (S := (c : Int)) (by omega)
      exact ⟨(Kit.i64_of_i32 _).trans e14, b.1, by omega⟩
    have z := c_scaled hp h d1 d14
    obtain ⟨m1, m2⟩ := m_cold h (sE (s := c) hc9)
    obtain ⟨f1, f2⟩ := m_ohm h a2
    obtain ⟨f3, f4⟩ := m_ohm h a4
    have z2 := corr_core (e64_w 0 400100998 m1 (by decide) (by decide)) f3 f1
    have em : sp_Mo_apparent p o r = ((sp_Mo_coldBy (nI c) r * sp_Mo_ohmsOf (lN (zg r)) r) / sp_Mo_ohmsOf (lN (zf r)) r, upd o 6 0) := by
      unfold sp_Mo_apparent sp_Mo_apparent_20; simp only [lettn]; rw [t, if_neg (by decide), us, if_pos (by decide), a1, a3, l2]
    refine ⟨?_, fun w => absurd q w, fun _ => ⟨?_, by rw [em], ?_⟩⟩
    · unfold ok_Mo_apparent; simp only [lettn]
      refine ⟨fun w => absurd (t.symm.trans w) (by decide), fun _ => ?_⟩
      unfold ok_Mo_apparent_20; simp only [lettn]; rw [us, a1, a3, l2]
      exact ⟨fun _ => ⟨o2, m2, f4, f2, e64_ne0 f1 (by decide), trivial⟩, fun w => absurd (by decide) w⟩
    · unfold ok_Db_apparent ok_Se_naiveValue; simp only [lettn]
      rw [l1]
      exact ⟨chk_ok q, g2, ⟨o1, d2, trivial⟩, trivial⟩
    · rw [em]; unfold sp_Db_apparent sp_Se_naiveValue; simp only [lettn]; rw [l1]
      exact e64_eq z z2
  · have t := i2 q
    refine ⟨?_, fun _ => ?_, fun w => absurd w q⟩
    · unfold ok_Mo_apparent ok_Mo_apparent_20; simp only [lettn]; rw [us, us]
      exact ⟨fun _ => ⟨fun w => absurd w (by decide), fun _ => trivial⟩, fun w => absurd t w⟩
    · unfold sp_Mo_apparent sp_Mo_apparent_20; simp only [lettn]; rw [t, if_pos rfl, us, if_neg (by decide)]
/-! ===== the best arms ===== -/
theorem k25 : ∀ f, f < 5 → ∀ g, g < 5 → nI (5 * f + g) / (5 : Int32) = nI f ∧ nI (5 * f + g) - nI (5 * f + g) / (5 : Int32) * (5 : Int32) = nI g ∧ (nI f).toInt64 = lN f ∧ (nI g).toInt64 = lN g ∧ ¬ (25 : Int32) ≤ nI (5 * f + g) := by decide +kernel
/-- both sides' best so far: after k pairs -/
def ArmR (k : Nat) (b1 b2 : Int32) (l1 l2 : Int64) : Prop := b1 = b2 ∧ (k = 0 → b1 = 0 ∧ l1 = 9223372036854775807 ∧ l2 = 0) ∧ (k ≠ 0 → l2 = l1)
theorem arms_inner (hp : PR w0 w1 w2 w3 w4 r) (h : RowOK T r) (o : IV) {f : Nat} (hf : f < 5) (r9 : Int32 → Int64 → Int32 → IV → (Int32 × IV)) (q9 : Int32 → Int64 → Int32 → IV → Prop) :
    ∀ (n u1 u2 g : Nat) (b1 b2 : Int32) (l1 l2 : Int64) (ca : IV) (S : Int) (a b : Nat), g + n = 5 → n < u1 → ArmR (5 * f + g) b1 b2 l1 l2 → CiR ca r S a b (zr r 32) →
    ∃ (c1 c2 : Int32) (m1 m2 : Int64) (ca' : IV) (S' : Int) (a' b' : Nat), ArmR (5 * f + 5) c1 c2 m1 m2 ∧ CiR ca' r S' a' b' (zr r 32) ∧
      sp_Se_armsOfBest_18 (nI f) w2 w0 w1 w3 w4 r9 u1 b1 l1 (nI g) ca = r9 c1 m1 (nI (f + 1)) ca' ∧ (q9 c1 m1 (nI (f + 1)) ca' → ok_Se_armsOfBest_18 (nI f) w2 w0 w1 w3 w4 r9 q9 u1 b1 l1 (nI g) ca) ∧
      sp_Mo_bestArms_12 o r (u2 + n) b2 l2 (nI (5 * f + g)) = sp_Mo_bestArms_12 o r u2 c2 m2 (nI (5 * f + 5)) ∧ (ok_Mo_bestArms_12 o r u2 c2 m2 (nI (5 * f + 5)) → ok_Mo_bestArms_12 o r (u2 + n) b2 l2 (nI (5 * f + g)))
  | n, 0, _, _, _, _, _, _, _, _, _, _, _, hf, _, _ => absurd hf (by omega)
  | 0, u1 + 1, u2, g, b1, b2, l1, l2, ca, S, a, b, hg, _, hR, hc => by
    obtain rfl : g = 5 := by omega
    have c : (5 : Int32) ≤ nI 5 := by decide
    refine ⟨b1, b2, l1, l2, ca, S, a, b, hR, hc, ?_, ?_, rfl, fun w => w⟩
    · show bd_Se_armsOfBest_18 _ _ _ _ _ _ _ _ _ _ _ _ = _
      unfold bd_Se_armsOfBest_18 sp_Se_armsOfBest_92; rw [if_pos c]; simp only [lettn]; rw [nzadd1 f (by omega)]
    · intro w
      show okb_Se_armsOfBest_18 _ _ _ _ _ _ _ _ _ _ _ _ _ _
      unfold okb_Se_armsOfBest_18 ok_Se_armsOfBest_92; simp only [lettn]; rw [nzadd1 f (by omega)]
      exact ⟨fun _ => w, fun z => absurd c z⟩
  | n + 1, u1 + 1, u2, g, b1, b2, l1, l2, ca, S, a, b, hg, hu, hR, hc => by
    have c : ¬ (5 : Int32) ≤ nI g := by rw [show (5 : Int32) = nI 5 from rfl, nzle (by omega) (by omega)]; omega
    obtain ⟨e1, e2, e3, e4, e5⟩ := k25 f hf g (by omega)
    obtain ⟨k1, -, -, -⟩ := c_choose (a := f) (b := g) hp h hc hf (by omega)
    obtain ⟨o1, o2, cb, ca1, S1, hcb, j1, j2, j3⟩ := best_both hp h (l32 h) hf (show g < 5 by omega) k1
    obtain ⟨d1, d2, -⟩ := c_dial hp h j3 (sE (s := cb) hcb)
    have v1 := c_corr hp h d1
    obtain ⟨v2, v3⟩ := m_corr h (sE (s := cb) hcb) (l32 h) hf (show g < 5 by omega)
    have x15 : E64 ((sp_Ci_dial (nI cb) ca1 w0 w1 w3 w4 15).toInt64) (zuw r) 200 180000000 := by
      obtain ⟨-, -, -, -, -, -, -, -, -, -, -, -, -, e15, -⟩ := d1
      exact ⟨(Kit.i64_of_i32 _).trans e15, zuw_bd h⟩
    have s1 := abs_E (e64_w (-20000000000000) 20000000000000 (e64_sub v1 x15 (by decide) (by decide)) (by decide) (by decide))
    have s2 := m_abs (e64_w (-20000000000000) 20000000000000 (e64_sub v2 (m_uw h) (by decide) (by decide)) (by decide) (by decide))
    have es := e64_eq s1 s2
    -- both go on with the same amount
    generalize hA : (if 0 < sp_Ci_correctedValue (sp_Ci_dial (nI cb) ca1 w0 w1 w3 w4) w0 w2 - (sp_Ci_dial (nI cb) ca1 w0 w1 w3 w4 15).toInt64 then sp_Ci_correctedValue (sp_Ci_dial (nI cb) ca1 w0 w1 w3 w4) w0 w2 - (sp_Ci_dial (nI cb) ca1 w0 w1 w3 w4 15).toInt64 else -(sp_Ci_correctedValue (sp_Ci_dial (nI cb) ca1 w0 w1 w3 w4) w0 w2 - (sp_Ci_dial (nI cb) ca1 w0 w1 w3 w4 15).toInt64)) = A at s1 es
    have go : ∀ (c1 c2 : Int32) (m1 m2 : Int64), ArmR (5 * f + (g + 1)) c1 c2 m1 m2 → sp_Se_armsOfBest_18 (nI f) w2 w0 w1 w3 w4 r9 (u1 + 1) b1 l1 (nI g) ca = sp_Se_armsOfBest_18 (nI f) w2 w0 w1 w3 w4 r9 u1 c1 m1 (nI (g + 1)) (sp_Ci_dial (nI cb) ca1 w0 w1 w3 w4) → (ok_Se_armsOfBest_18 (nI f) w2 w0 w1 w3 w4 r9 q9 u1 c1 m1 (nI (g + 1)) (sp_Ci_dial (nI cb) ca1 w0 w1 w3 w4) → ok_Se_armsOfBest_18 (nI f) w2 w0 w1 w3 w4 r9 q9 (u1 + 1) b1 l1 (nI g) ca) →
        sp_Mo_bestArms_12 o r (u2 + n + 1) b2 l2 (nI (5 * f + g)) = sp_Mo_bestArms_12 o r (u2 + n) c2 m2 (nI (5 * f + (g + 1))) → (ok_Mo_bestArms_12 o r (u2 + n) c2 m2 (nI (5 * f + (g + 1))) → ok_Mo_bestArms_12 o r (u2 + n + 1) b2 l2 (nI (5 * f + g))) →
        ∃ (c1 c2 : Int32) (m1 m2 : Int64) (ca' : IV) (S' : Int) (a' b' : Nat), ArmR (5 * f + 5) c1 c2 m1 m2 ∧ CiR ca' r S' a' b' (zr r 32) ∧
        sp_Se_armsOfBest_18 (nI f) w2 w0 w1 w3 w4 r9 (u1 + 1) b1 l1 (nI g) ca = r9 c1 m1 (nI (f + 1)) ca' ∧ (q9 c1 m1 (nI (f + 1)) ca' → ok_Se_armsOfBest_18 (nI f) w2 w0 w1 w3 w4 r9 q9 (u1 + 1) b1 l1 (nI g) ca) ∧
        sp_Mo_bestArms_12 o r (u2 + (n + 1)) b2 l2 (nI (5 * f + g)) = sp_Mo_bestArms_12 o r u2 c2 m2 (nI (5 * f + 5)) ∧ (ok_Mo_bestArms_12 o r u2 c2 m2 (nI (5 * f + 5)) → ok_Mo_bestArms_12 o r (u2 + (n + 1)) b2 l2 (nI (5 * f + g))) := by
      intro c1 c2 m1 m2 R' p1 p2 p3 p4
      obtain ⟨c1', c2', m1', m2', ca', S', a', b', t1, t2, t3, t4, t5, t6⟩ := arms_inner hp h o hf r9 q9 n u1 u2 (g + 1) c1 c2 m1 m2 _ _ f g (by omega) (by omega) R' d1
      exact ⟨c1', c2', m1', m2', ca', S', a', b', t1, t2, p1.trans t3, fun w => p2 (t4 w), p3.trans t5, fun w => p4 (t6 w)⟩
    -- the class's step
    have cs : ∀ (bb : Int32) (ll : Int64), sp_Se_armsOfBest_86 (nI g) (sp_Ci_dial (nI cb) ca1 w0 w1 w3 w4) r9 (sp_Se_armsOfBest_18 (nI f) w2 w0 w1 w3 w4 r9 u1) bb ll = sp_Se_armsOfBest_18 (nI f) w2 w0 w1 w3 w4 r9 u1 bb ll (nI (g + 1)) (sp_Ci_dial (nI cb) ca1 w0 w1 w3 w4) := fun bb ll => by
      unfold sp_Se_armsOfBest_86; simp only [lettn]; rw [nzadd1 g (by omega)]
    have co : ∀ (bb : Int32) (ll : Int64), ok_Se_armsOfBest_18 (nI f) w2 w0 w1 w3 w4 r9 q9 u1 bb ll (nI (g + 1)) (sp_Ci_dial (nI cb) ca1 w0 w1 w3 w4) → ok_Se_armsOfBest_86 (nI g) (sp_Ci_dial (nI cb) ca1 w0 w1 w3 w4) r9 (sp_Se_armsOfBest_18 (nI f) w2 w0 w1 w3 w4 r9 u1) q9 (ok_Se_armsOfBest_18 (nI f) w2 w0 w1 w3 w4 r9 q9 u1) bb ll := fun bb ll w => by
      unfold ok_Se_armsOfBest_86; simp only [lettn]; rw [nzadd1 g (by omega)]; exact w
    have cE : sp_Se_armsOfBest_18 (nI f) w2 w0 w1 w3 w4 r9 (u1 + 1) b1 l1 (nI g) ca = if l1 ≤ A then sp_Se_armsOfBest_18 (nI f) w2 w0 w1 w3 w4 r9 u1 b1 l1 (nI (g + 1)) (sp_Ci_dial (nI cb) ca1 w0 w1 w3 w4) else sp_Se_armsOfBest_18 (nI f) w2 w0 w1 w3 w4 r9 u1 ((10 : Int32) * nI f + nI g) A (nI (g + 1)) (sp_Ci_dial (nI cb) ca1 w0 w1 w3 w4) := by
      show bd_Se_armsOfBest_18 _ _ _ _ _ _ _ _ _ _ _ _ = _
      unfold bd_Se_armsOfBest_18; rw [if_neg c]; simp only [lettn]; rw [j1]; dsimp only; rw [hA, cs, cs]
    have cO : (l1 ≤ A → ok_Se_armsOfBest_18 (nI f) w2 w0 w1 w3 w4 r9 q9 u1 b1 l1 (nI (g + 1)) (sp_Ci_dial (nI cb) ca1 w0 w1 w3 w4)) → (¬ l1 ≤ A → ok_Se_armsOfBest_18 (nI f) w2 w0 w1 w3 w4 r9 q9 u1 ((10 : Int32) * nI f + nI g) A (nI (g + 1)) (sp_Ci_dial (nI cb) ca1 w0 w1 w3 w4)) → ok_Se_armsOfBest_18 (nI f) w2 w0 w1 w3 w4 r9 q9 (u1 + 1) b1 l1 (nI g) ca := by
      intro p1 p2
      show okb_Se_armsOfBest_18 _ _ _ _ _ _ _ _ _ _ _ _ _ _
      unfold okb_Se_armsOfBest_18; simp only [lettn]; rw [j1]; dsimp only; rw [hA]
      exact ⟨fun w => absurd w c, fun _ => ⟨o1, d2, fun w => co _ _ (p1 w), fun w => co _ _ (p2 w)⟩⟩
    -- the reference's step
    have en : nI (5 * f + g) + (1 : Int32) = nI (5 * f + (g + 1)) := nzadd1 _ (by omega)
    have mE : sp_Mo_bestArms_12 o r (u2 + n + 1) b2 l2 (nI (5 * f + g)) = if nI (5 * f + g) = 0 then sp_Mo_bestArms_12 o r (u2 + n) ((10 : Int32) * nI f + nI g) A (nI (5 * f + (g + 1))) else if l2 ≤ A then sp_Mo_bestArms_12 o r (u2 + n) b2 (if A < l2 then A else l2) (nI (5 * f + (g + 1))) else sp_Mo_bestArms_12 o r (u2 + n) ((10 : Int32) * nI f + nI g) (if A < l2 then A else l2) (nI (5 * f + (g + 1))) := by
      show bd_Mo_bestArms_12 _ _ _ _ _ _ = _
      unfold bd_Mo_bestArms_12; rw [if_neg e5]; simp only [lettn]; rw [e1, show nI (5 * f + g) - nI f * (5 : Int32) = nI g by rw [← e1]; exact e2, e3, e4, j2, ← es]
      unfold sp_Mo_bestArms_87 sp_Mo_bestArms_103 sp_Mo_bestArms_120; simp only [lettn]
      rw [e1, show nI (5 * f + g) - nI f * (5 : Int32) = nI g by rw [← e1]; exact e2, en]
      split
      · rfl
      · rfl
    have mO : (nI (5 * f + g) = 0 → ok_Mo_bestArms_12 o r (u2 + n) ((10 : Int32) * nI f + nI g) A (nI (5 * f + (g + 1)))) → (¬ nI (5 * f + g) = 0 → l2 ≤ A → ok_Mo_bestArms_12 o r (u2 + n) b2 (if A < l2 then A else l2) (nI (5 * f + (g + 1)))) → (¬ nI (5 * f + g) = 0 → ¬ l2 ≤ A → ok_Mo_bestArms_12 o r (u2 + n) ((10 : Int32) * nI f + nI g) (if A < l2 then A else l2) (nI (5 * f + (g + 1)))) → ok_Mo_bestArms_12 o r (u2 + n + 1) b2 l2 (nI (5 * f + g)) := by
      intro p1 p2 p3
      show okb_Mo_bestArms_12 _ _ _ _ _ _ _
      unfold okb_Mo_bestArms_12; simp only [lettn]; rw [e1, show nI (5 * f + g) - nI f * (5 : Int32) = nI g by rw [← e1]; exact e2, e3, e4, j2, ← es]
      unfold ok_Mo_bestArms_87 ok_Mo_bestArms_103 ok_Mo_bestArms_120; simp only [lettn]
      rw [e1, show nI (5 * f + g) - nI f * (5 : Int32) = nI g by rw [← e1]; exact e2, en]
      exact ⟨fun w => absurd w e5, fun _ => ⟨o2, v3, fun w => ⟨fun _ => p1 w, fun z => absurd w z⟩, fun w => ⟨fun z => ⟨fun y => absurd y w, fun _ => p2 w z⟩, fun z => ⟨fun y => absurd y w, fun _ => p3 w z⟩⟩⟩⟩
    obtain ⟨R1, R2, R3⟩ := hR
    have sA := s1.2
    by_cases k0 : 5 * f + g = 0
    · have kz : nI (5 * f + g) = 0 := by rw [k0]; rfl
      obtain ⟨z1, z2, z3⟩ := R2 k0
      have nl : ¬ l1 ≤ A := by
        rw [z2, Int64.le_iff_toInt_le, s1.1]
        show ¬ (9223372036854775807 : Int) ≤ _
        omega
      exact go _ _ A A ⟨rfl, fun w => absurd w (by omega), fun _ => rfl⟩ (by rw [cE, if_neg nl]) (fun w => cO (fun z => absurd z nl) (fun _ => w)) (by rw [mE, if_pos kz]) (fun w => mO (fun _ => w) (fun z => absurd kz z) (fun z => absurd kz z))
    · have kz : ¬ nI (5 * f + g) = 0 := by rw [show (0 : Int32) = nI 0 from rfl, nzinj (by omega) (by omega)]; omega
      have z2 := R3 k0
      subst R1 z2
      by_cases q : l2 ≤ A
      · have q2 : ¬ A < l2 := by rw [Int64.lt_iff_toInt_lt]; rw [Int64.le_iff_toInt_le] at q; omega
        rw [if_neg q2] at mE mO
        exact go b1 b1 l2 l2 ⟨rfl, fun w => absurd w (by omega), fun _ => rfl⟩ (by rw [cE, if_pos q]) (fun w => cO (fun _ => w) (fun z => absurd q z)) (by rw [mE, if_neg kz, if_pos q]) (fun w => mO (fun z => absurd z kz) (fun _ _ => w) (fun _ z => absurd q z))
      · have q2 : A < l2 := by rw [Int64.lt_iff_toInt_lt]; rw [Int64.le_iff_toInt_le] at q; omega
        rw [if_pos q2] at mE mO
        exact go _ _ A A ⟨rfl, fun w => absurd w (by omega), fun _ => rfl⟩ (by rw [cE, if_neg q]) (fun w => cO (fun z => absurd z q) (fun _ => w)) (by rw [mE, if_neg kz, if_neg q]) (fun w => mO (fun z => absurd z kz) (fun _ z => absurd z q) (fun _ _ => w))
theorem arms_outer (hp : PR w0 w1 w2 w3 w4 r) (h : RowOK T r) (o : IV) :
    ∀ (n u1 u2 f : Nat) (b1 b2 : Int32) (l1 l2 : Int64) (ca : IV) (S : Int) (a b : Nat), f + n = 5 → n < u1 → ArmR (5 * f) b1 b2 l1 l2 → CiR ca r S a b (zr r 32) →
    ok_Se_armsOfBest_9 w2 w0 w1 w3 w4 u1 b1 l1 (nI f) ca ∧ ok_Mo_bestArms_12 o r (u2 + 1 + 5 * n) b2 l2 (nI (5 * f)) ∧ (sp_Se_armsOfBest_9 w2 w0 w1 w3 w4 u1 b1 l1 (nI f) ca).1 = (sp_Mo_bestArms_12 o r (u2 + 1 + 5 * n) b2 l2 (nI (5 * f))).1 ∧ (sp_Mo_bestArms_12 o r (u2 + 1 + 5 * n) b2 l2 (nI (5 * f))).2 = o
  | n, 0, _, _, _, _, _, _, _, _, _, _, _, hf, _, _ => absurd hf (by omega)
  | 0, u1 + 1, u2, f, b1, b2, l1, l2, ca, S, a, b, hg, _, hR, hc => by
    obtain rfl : f = 5 := by omega
    have c : (5 : Int32) ≤ nI 5 := by decide
    have c2 : (25 : Int32) ≤ nI (5 * 5) := by decide
    have e1 : sp_Se_armsOfBest_9 w2 w0 w1 w3 w4 (u1 + 1) b1 l1 (nI 5) ca = (b1, ca) := by
      show bd_Se_armsOfBest_9 _ _ _ _ _ _ _ _ _ _ = _
      unfold bd_Se_armsOfBest_9; rw [if_pos c]
    have e2 : sp_Mo_bestArms_12 o r (u2 + 1 + 5 * 0) b2 l2 (nI (5 * 5)) = (b2, o) := by
      show bd_Mo_bestArms_12 _ _ _ _ _ _ = _
      unfold bd_Mo_bestArms_12; rw [if_pos c2]
    rw [e1, e2]
    refine ⟨?_, ?_, hR.1, rfl⟩
    · show okb_Se_armsOfBest_9 _ _ _ _ _ _ _ _ _ _ _
      unfold okb_Se_armsOfBest_9; exact ⟨fun _ => trivial, fun w => absurd c w⟩
    · show okb_Mo_bestArms_12 _ _ _ _ _ _ _
      unfold okb_Mo_bestArms_12; exact ⟨fun _ => trivial, fun w => absurd c2 w⟩
  | n + 1, u1 + 1, u2, f, b1, b2, l1, l2, ca, S, a, b, hg, hu, hR, hc => by
    have c : ¬ (5 : Int32) ≤ nI f := by rw [show (5 : Int32) = nI 5 from rfl, nzle (by omega) (by omega)]; omega
    obtain ⟨c1, c2, m1, m2, ca', S', a', b', t1, t2, t3, t4, t5, t6⟩ := arms_inner hp h o (f := f) (by omega) (sp_Se_armsOfBest_9 w2 w0 w1 w3 w4 u1) (ok_Se_armsOfBest_9 w2 w0 w1 w3 w4 u1) 5 big (u2 + 1 + 5 * n) 0 b1 b2 l1 l2 ca S a b (by omega) (by rw [big_eq]; decide) hR hc
    obtain ⟨j1, j2, j3, j4⟩ := arms_outer hp h o n u1 u2 (f + 1) c1 c2 m1 m2 ca' S' a' b' (by omega) (by omega) t1 t2
    have e1 : sp_Se_armsOfBest_9 w2 w0 w1 w3 w4 (u1 + 1) b1 l1 (nI f) ca = sp_Se_armsOfBest_9 w2 w0 w1 w3 w4 u1 c1 m1 (nI (f + 1)) ca' := by
      rw [← t3]
      show bd_Se_armsOfBest_9 _ _ _ _ _ _ _ _ _ _ = _
      unfold bd_Se_armsOfBest_9; rw [if_neg c]; rfl
    have eu : u2 + 1 + 5 * (n + 1) = u2 + 1 + 5 * n + 5 := by omega
    have e2 : sp_Mo_bestArms_12 o r (u2 + 1 + 5 * (n + 1)) b2 l2 (nI (5 * f)) = sp_Mo_bestArms_12 o r (u2 + 1 + 5 * n) c2 m2 (nI (5 * (f + 1))) := by rw [eu]; exact t5
    have o2 : ok_Mo_bestArms_12 o r (u2 + 1 + 5 * (n + 1)) b2 l2 (nI (5 * f)) := by rw [eu]; exact t6 j2
    refine ⟨?_, o2, by rw [e1, e2]; exact j3, by rw [e2]; exact j4⟩
    show okb_Se_armsOfBest_9 _ _ _ _ _ _ _ _ _ _ _
    unfold okb_Se_armsOfBest_9; exact ⟨fun w => absurd w c, fun _ => t4 j1⟩
theorem bestArms_D (hp : PR w0 w1 w2 w3 w4 r) (h : RowOK T r) {ca : IV} {cal : LV} (hc : CirR ca cal r) (cb : IV) (cbl : LV) (o : IV) :
    ok_Db_bestArms w0 w1 w2 w3 w4 ca cal cb cbl ∧ ok_Mo_bestArms o r ∧ (sp_Db_bestArms w0 w1 w2 w3 w4 ca cal cb cbl).1 = (sp_Mo_bestArms o r).1 ∧ (sp_Mo_bestArms o r).2 = upd o 6 0 := by
  obtain ⟨g1, g2, -, -⟩ := circ_copy (ca := cb) (cal := cbl) (cbl := cal) hp h hc.1 (cir_isB h hc)
  have eb : big = (big - 26) + 1 + 5 * 5 := by have := big_eq; omega
  obtain ⟨j1, j2, j3, j4⟩ := arms_outer hp h (upd o 6 0) 5 big (big - 26) 0 0 0 9223372036854775807 0 _ _ _ _ (by omega) (by rw [big_eq]; decide) ⟨rfl, fun _ => ⟨rfl, rfl, rfl⟩, fun w => absurd rfl w⟩ g1
  rw [← eb] at j2 j3 j4
  unfold ok_Db_bestArms sp_Db_bestArms ok_Mo_bestArms sp_Mo_bestArms sp_Se_armsOfBest ok_Se_armsOfBest
  simp only [lettn]
  exact ⟨⟨g2, j1, trivial⟩, j2, j3, j4⟩
end CW3
