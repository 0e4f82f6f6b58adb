section TKL0
variable {B : Nat → Nat} {n st : Nat} {t tb o bu : IV} {su d0 d1 d2 d3 d4 tq rT wT : IV} {dr : LV} {X : Nat → Prop}
/-- the reference goes on behind an error, for nothing -/
theorem m_bad (h : TX B n st t tb o bu) (h5 : ¬ t 5 = 0) : (ok_Mo_once 5 o bu tq ∧ ok_Mo_number 0 99999 (sp_Mo_once 5 o bu tq).1 bu) ∧ TX B n st t tb (sp_Mo_number 0 99999 (sp_Mo_once 5 o bu tq).1 bu).2 bu ∧ FrT o (sp_Mo_number 0 99999 (sp_Mo_once 5 o bu tq).1 bu).2 := by
  have hsame : ∀ p : Int32, sp_Mo_must p 3 o = o := fun p => by
    by_cases w : p = 0
    · rw [w]; exact tx_err_same h h5 3
    · exact must_1 w
  obtain ⟨g1, g2, s1, g3, g4, g5, g6, g7⟩ := goOn_TX h
  obtain ⟨g8, g9, g10⟩ := g7 h5
  have e1 : (sp_Mo_once 5 o bu tq).1 = o := by
    unfold sp_Mo_once sp_Mo_once_15
    simp only [lettn]
    rw [hsame, hsame, g9, ite_self]
  obtain ⟨b1, b2, s2, b3, b4, b5, -, b6⟩ := number_TX h (p1 := 0) (p2 := 99999) (q1 := 0) (q2 := 99999) (lo := 0) (hi := 99999) rfl rfl rfl rfl (by decide) (by decide)
  have e2 : (sp_Mo_number 0 99999 o bu).2 = o := by
    obtain ⟨a1, a2, hc⟩ := ahead_TX h (p1 := 0) (p2 := 99999) (q1 := 0) (q2 := 99999) (lo := 0) (hi := 99999) rfl rfl rfl rfl (by decide)
    unfold sp_Mo_number
    simp only [lettn]
    have g0 : ¬ o 12 = 0 := fun w => h5 ((tx_good h).1.mp w)
    have ea : (sp_Mo_numberAhead 0 99999 o bu).2 = o := by
      have u1 : sp_Mo_must 1 1 o = o := must_1 (by decide)
      have u2 : sp_Mo_must 1 2 o = o := must_1 (by decide)
      unfold sp_Mo_numberAhead sp_Mo_numberAhead_14 sp_Mo_numberAhead_38 sp_Mo_numberAhead_43
      simp only [lettn, u1, u2, tx_err_same h h5 1, tx_err_same h h5 2, good0 g0, reduceIte, ite_self]
    rw [ea]
    exact g9
  rw [e1]
  refine ⟨⟨?_, b2⟩, by rw [e2]; exact h, by rw [e2]; exact frt_rf o⟩
  unfold ok_Mo_once ok_Mo_once_15
  simp only [lettn]
  rw [hsame, hsame]
  have v : vp_in (5 : Int32) 6 := vp_nI (a := 5) (by decide) (by decide)
  exact ⟨v, fun _ => ⟨v, g2, trivial⟩, fun _ => ⟨v, g2, trivial⟩⟩
end TKL0
section TKL
variable {B : Nat → Nat} {n st : Nat} {t tb o bu : IV} {su d0 d1 d2 d3 d4 tq rT wT : IV} {dr : LV} {X : Nat → Prop}
/-! ===== a statement ===== -/
theorem statement_TX (h : SR B n st su t tb d0 d1 d2 d3 d4 o bu tq rT wT dr) :
    ok_Su_takeStatement su t tb d0 d1 d2 d3 d4 ∧ ok_Mo_readStatement o dr bu tq rT wT ∧ ∃ st', st ≤ st' ∧ TX B n st' (sp_Su_takeStatement su t tb d0 d1 d2 d3 d4).2.1 tb (sp_Mo_readStatement o dr bu tq rT wT).1 bu ∧ FrT o (sp_Mo_readStatement o dr bu tq rT wT).1 ∧
    ((sp_Su_takeStatement su t tb d0 d1 d2 d3 d4).2.1 5 = 0 → SR B n st' (sp_Su_takeStatement su t tb d0 d1 d2 d3 d4).1 (sp_Su_takeStatement su t tb d0 d1 d2 d3 d4).2.1 tb (sp_Su_takeStatement su t tb d0 d1 d2 d3 d4).2.2.1 (sp_Su_takeStatement su t tb d0 d1 d2 d3 d4).2.2.2.1 (sp_Su_takeStatement su t tb d0 d1 d2 d3 d4).2.2.2.2.1 (sp_Su_takeStatement su t tb d0 d1 d2 d3 d4).2.2.2.2.2.1 (sp_Su_takeStatement su t tb d0 d1 d2 d3 d4).2.2.2.2.2.2 (sp_Mo_readStatement o dr bu tq rT wT).1 bu (sp_Mo_readStatement o dr bu tq rT wT).2.2.1 (sp_Mo_readStatement o dr bu tq rT wT).2.2.2.1 (sp_Mo_readStatement o dr bu tq rT wT).2.2.2.2 (sp_Mo_readStatement o dr bu tq rT wT).2.1) := by
  obtain ⟨x0, z0, e0, b0, -⟩ := isWord_TX h.1 (w := 0) (by decide)
  obtain ⟨x1, z1, e1, b1, -⟩ := isWord_TX h.1 (w := 1) (by decide)
  obtain ⟨x2, z2, e2, b2, -⟩ := isWord_TX h.1 (w := 2) (by decide)
  obtain ⟨x3, z3, e3, b3, -⟩ := isWord_TX h.1 (w := 3) (by decide)
  obtain ⟨x4, z4, e4, b4, -⟩ := isWord_TX h.1 (w := 4) (by decide)
  obtain ⟨x5, z5, e5, b5, -⟩ := isWord_TX h.1 (w := 5) (by decide)
  obtain ⟨x6, z6, e6, b6, -⟩ := isWord_TX h.1 (w := 6) (by decide)
  obtain ⟨x7, z7, e7, b7, -⟩ := isWord_TX h.1 (w := 7) (by decide)
  unfold sp_Su_takeStatement ok_Su_takeStatement sp_Mo_readStatement ok_Mo_readStatement
  simp only [lettn]
  rw [e0, e1, e2, e3, e4, e5, e6, e7]
  by_cases q0 : sp_Te_isWord 0 t tb = 0
  · skip
    by_cases q1 : sp_Te_isWord 1 t tb = 0
    · skip
      by_cases q2 : sp_Te_isWord 2 t tb = 0
      · skip
        by_cases q3 : sp_Te_isWord 3 t tb = 0
        · skip
          by_cases q4 : sp_Te_isWord 4 t tb = 0
          · skip
            by_cases q5 : sp_Te_isWord 5 t tb = 0
            · skip
              by_cases q6 : sp_Te_isWord 6 t tb = 0
              · skip
                by_cases q7 : sp_Te_isWord 7 t tb = 0
                · skip
                  obtain ⟨f1, f2, f3, -⟩ := fail_TX h.1 (c := 1) (by decide)
                  obtain ⟨m1, m2, m3⟩ := m_bad (tq := tq) f1 f2
                  rw [if_pos q0, if_pos q1, if_pos q2, if_pos q3, if_pos q4, if_pos q5, if_pos q6, if_pos q7, if_pos q0, if_pos q1, if_pos q2, if_pos q3, if_pos q4, if_pos q5, if_pos q6, q7]
                  dsimp only
                  exact ⟨⟨z0, fun _ => ⟨z1, fun _ => ⟨z2, fun _ => ⟨z3, fun _ => ⟨z4, fun _ => ⟨z5, fun _ => ⟨z6, fun _ => ⟨z7, fun _ => trivial, fun w => absurd rfl w⟩, fun w => absurd q6 w⟩, fun w => absurd q5 w⟩, fun w => absurd q4 w⟩, fun w => absurd q3 w⟩, fun w => absurd q2 w⟩, fun w => absurd q1 w⟩, fun w => absurd q0 w⟩, ⟨x0, fun _ => ⟨x1, fun _ => ⟨x2, fun _ => ⟨x3, fun _ => ⟨x4, fun _ => ⟨x5, fun _ => ⟨x6, fun _ => ⟨x7, m1.1, m1.2, trivial⟩, fun w => absurd q6 w⟩, fun w => absurd q5 w⟩, fun w => absurd q4 w⟩, fun w => absurd q3 w⟩, fun w => absurd q2 w⟩, fun w => absurd q1 w⟩, fun w => absurd q0 w⟩, st, Nat.le_refl _, m2, frt_tr f3 m3, fun w => absurd w f2⟩
                · obtain ⟨r1, r2, s1, r3, r4, r5⟩ := st_seed h
                  rw [if_pos q0, if_pos q1, if_pos q2, if_pos q3, if_pos q4, if_pos q5, if_pos q6, if_neg q7, if_pos q0, if_pos q1, if_pos q2, if_pos q3, if_pos q4, if_pos q5, if_pos q6, must_1 q7]
                  dsimp only
                  exact ⟨⟨z0, fun _ => ⟨z1, fun _ => ⟨z2, fun _ => ⟨z3, fun _ => ⟨z4, fun _ => ⟨z5, fun _ => ⟨z6, fun _ => ⟨z7, fun w => absurd w q7, fun _ => ⟨r1.1, r1.2, trivial⟩⟩, fun w => absurd q6 w⟩, fun w => absurd q5 w⟩, fun w => absurd q4 w⟩, fun w => absurd q3 w⟩, fun w => absurd q2 w⟩, fun w => absurd q1 w⟩, fun w => absurd q0 w⟩, ⟨x0, fun _ => ⟨x1, fun _ => ⟨x2, fun _ => ⟨x3, fun _ => ⟨x4, fun _ => ⟨x5, fun _ => ⟨x6, fun _ => ⟨x7, r2.1, r2.2, trivial⟩, fun w => absurd q6 w⟩, fun w => absurd q5 w⟩, fun w => absurd q4 w⟩, fun w => absurd q3 w⟩, fun w => absurd q2 w⟩, fun w => absurd q1 w⟩, fun w => absurd q0 w⟩, s1, r3, r4.1, r5, fun _ => r4⟩
              · obtain ⟨r1, r2, s1, r3, r4, r5⟩ := st_detector h
                rw [if_pos q0, if_pos q1, if_pos q2, if_pos q3, if_pos q4, if_pos q5, if_neg q6, if_pos q0, if_pos q1, if_pos q2, if_pos q3, if_pos q4, if_pos q5, if_neg q6]
                dsimp only
                exact ⟨⟨z0, fun _ => ⟨z1, fun _ => ⟨z2, fun _ => ⟨z3, fun _ => ⟨z4, fun _ => ⟨z5, fun _ => ⟨z6, fun w => absurd w q6, fun _ => ⟨r1, trivial⟩⟩, fun w => absurd q5 w⟩, fun w => absurd q4 w⟩, fun w => absurd q3 w⟩, fun w => absurd q2 w⟩, fun w => absurd q1 w⟩, fun w => absurd q0 w⟩, ⟨x0, fun _ => ⟨x1, fun _ => ⟨x2, fun _ => ⟨x3, fun _ => ⟨x4, fun _ => ⟨x5, fun _ => ⟨x6, fun w => absurd w q6, fun _ => ⟨r2, trivial⟩⟩, fun w => absurd q5 w⟩, fun w => absurd q4 w⟩, fun w => absurd q3 w⟩, fun w => absurd q2 w⟩, fun w => absurd q1 w⟩, fun w => absurd q0 w⟩, s1, r3, r4.1, r5, fun _ => r4⟩
            · obtain ⟨r1, r2, s1, r3, r4, r5⟩ := st_supply h
              rw [if_pos q0, if_pos q1, if_pos q2, if_pos q3, if_pos q4, if_neg q5, if_pos q0, if_pos q1, if_pos q2, if_pos q3, if_pos q4, if_neg q5]
              dsimp only
              exact ⟨⟨z0, fun _ => ⟨z1, fun _ => ⟨z2, fun _ => ⟨z3, fun _ => ⟨z4, fun _ => ⟨z5, fun w => absurd w q5, fun _ => ⟨r1.1, r1.2.1, r1.2.2, trivial⟩⟩, fun w => absurd q4 w⟩, fun w => absurd q3 w⟩, fun w => absurd q2 w⟩, fun w => absurd q1 w⟩, fun w => absurd q0 w⟩, ⟨x0, fun _ => ⟨x1, fun _ => ⟨x2, fun _ => ⟨x3, fun _ => ⟨x4, fun _ => ⟨x5, fun w => absurd w q5, fun _ => ⟨r2, trivial⟩⟩, fun w => absurd q4 w⟩, fun w => absurd q3 w⟩, fun w => absurd q2 w⟩, fun w => absurd q1 w⟩, fun w => absurd q0 w⟩, s1, r3, r4.1, r5, fun _ => r4⟩
          · obtain ⟨r1, r2, s1, r3, r4, r5⟩ := st_leads h
            rw [if_pos q0, if_pos q1, if_pos q2, if_pos q3, if_neg q4, if_pos q0, if_pos q1, if_pos q2, if_pos q3, if_neg q4]
            dsimp only
            exact ⟨⟨z0, fun _ => ⟨z1, fun _ => ⟨z2, fun _ => ⟨z3, fun _ => ⟨z4, fun w => absurd w q4, fun _ => ⟨r1, trivial⟩⟩, fun w => absurd q3 w⟩, fun w => absurd q2 w⟩, fun w => absurd q1 w⟩, fun w => absurd q0 w⟩, ⟨x0, fun _ => ⟨x1, fun _ => ⟨x2, fun _ => ⟨x3, fun _ => ⟨x4, fun w => absurd w q4, fun _ => ⟨r2, trivial⟩⟩, fun w => absurd q3 w⟩, fun w => absurd q2 w⟩, fun w => absurd q1 w⟩, fun w => absurd q0 w⟩, s1, r3, r4.1, r5, fun _ => r4⟩
        · obtain ⟨r1, r2, s1, r3, r4, r5⟩ := st_warm h
          rw [if_pos q0, if_pos q1, if_pos q2, if_neg q3, if_pos q0, if_pos q1, if_pos q2, if_neg q3]
          dsimp only
          exact ⟨⟨z0, fun _ => ⟨z1, fun _ => ⟨z2, fun _ => ⟨z3, fun w => absurd w q3, fun _ => ⟨r1, trivial⟩⟩, fun w => absurd q2 w⟩, fun w => absurd q1 w⟩, fun w => absurd q0 w⟩, ⟨x0, fun _ => ⟨x1, fun _ => ⟨x2, fun _ => ⟨x3, fun w => absurd w q3, fun _ => ⟨r2, trivial⟩⟩, fun w => absurd q2 w⟩, fun w => absurd q1 w⟩, fun w => absurd q0 w⟩, s1, r3, r4.1, r5, fun _ => r4⟩
      · obtain ⟨r1, r2, s1, r3, r4, r5⟩ := st_unknown h
        rw [if_pos q0, if_pos q1, if_neg q2, if_pos q0, if_pos q1, if_neg q2]
        dsimp only
        exact ⟨⟨z0, fun _ => ⟨z1, fun _ => ⟨z2, fun w => absurd w q2, fun _ => ⟨r1.1, r1.2, trivial⟩⟩, fun w => absurd q1 w⟩, fun w => absurd q0 w⟩, ⟨x0, fun _ => ⟨x1, fun _ => ⟨x2, fun w => absurd w q2, fun _ => ⟨r2.1, r2.2, trivial⟩⟩, fun w => absurd q1 w⟩, fun w => absurd q0 w⟩, s1, r3, r4.1, r5, fun _ => r4⟩
    · obtain ⟨r1, r2, s1, r3, r4, r5⟩ := st_ratio h
      rw [if_pos q0, if_neg q1, if_pos q0, if_neg q1]
      dsimp only
      exact ⟨⟨z0, fun _ => ⟨z1, fun w => absurd w q1, fun _ => ⟨r1, trivial⟩⟩, fun w => absurd q0 w⟩, ⟨x0, fun _ => ⟨x1, fun w => absurd w q1, fun _ => ⟨r2, trivial⟩⟩, fun w => absurd q0 w⟩, s1, r3, r4.1, r5, fun _ => r4⟩
  · obtain ⟨r1, r2, s1, r3, r4, r5⟩ := st_box h
    rw [if_neg q0, if_neg q0]
    dsimp only
    exact ⟨⟨z0, fun w => absurd w q0, fun _ => ⟨r1, trivial⟩⟩, ⟨x0, fun w => absurd w q0, fun _ => ⟨r2, trivial⟩⟩, s1, r3, r4.1, r5, fun _ => r4⟩
end TKL
