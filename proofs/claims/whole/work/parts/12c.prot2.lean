section TPC
variable {B : Nat → Nat} {n st : Nat} {t tb o bu pi po pf ps pb pn sK sA sB sE oq : IV}
/-! ===== a protocol, step by step ===== -/
theorem tx_o {o' : IV} (h : TX B n st t tb o bu) (e : ∀ k, 8 ≤ k → k < 14 → o' k = o k) : TX B n st t tb o' bu := by
  obtain ⟨hb, en, kk, e9, e10, e11, ht, hh⟩ := h
  refine ⟨buf_o hb (e 8 (by omega) (by omega)), en, kk, (e 9 (by omega) (by omega)).trans e9, (e 10 (by omega) (by omega)).trans e10, (e 11 (by omega) (by omega)).trans e11, ht, ?_⟩
  rw [e 12 (by omega) (by omega), e 13 (by omega) (by omega)]
  exact hh
theorem tx_o22 (h : TX B n st t tb o bu) (x : Int32) : TX B n st t tb (upd o 22 x) bu := tx_o h (fun k _ h2 => un (by omega))
/-- the reference's step, once its order is known and there is a row for it -/
theorem m_step {w R : Nat} {p1 : Int32} (h12 : o 12 = 0) (hw : w < 10) (h22 : o 22 = nI R) (hR : R < 30) :
    sp_Mo_readStep_16 o sK sA sB sE bu (nI w) p1 1 = sp_Mo_readStep_125 sB (nI R) sE (nI w) bu p1 (upd sK R (nI w)) (upd sA R (mNum w (sp_Mo_goOn (upd o 22 (nI (R + 1))) bu) bu).1) (mNum w (sp_Mo_goOn (upd o 22 (nI (R + 1))) bu) bu).2.1 (mNum w (sp_Mo_goOn (upd o 22 (nI (R + 1))) bu) bu).2.2 ∧
    (ok_Mo_goOn (upd o 22 (nI (R + 1))) bu → mNumOk w (sp_Mo_goOn (upd o 22 (nI (R + 1))) bu) bu → ok_Mo_readStep_125 sB (nI R) sE (nI w) bu p1 (upd sK R (nI w)) (upd sA R (mNum w (sp_Mo_goOn (upd o 22 (nI (R + 1))) bu) bu).1) (mNum w (sp_Mo_goOn (upd o 22 (nI (R + 1))) bu) bu).2.1 (mNum w (sp_Mo_goOn (upd o 22 (nI (R + 1))) bu) bu).2.2 → ok_Mo_readStep_16 o sK sA sB sE bu (nI w) p1 1) := by
  have c30 : ¬ (30 : Int32) ≤ nI R := by rw [show (30 : Int32) = nI 30 from rfl, nzle (by omega) (by omega)]; omega
  have c9 : nI w = (9 : Int32) ↔ w = 9 := by rw [show (9 : Int32) = nI 9 from rfl, nzinj (by omega) (by omega)]
  have c0 : nI w = (0 : Int32) ↔ w = 0 := by rw [show (0 : Int32) = nI 0 from rfl, nzinj (by omega) (by omega)]
  have m1 : sp_Mo_must 1 1 o = o := must_1 (by decide)
  have m2 : sp_Mo_must 1 4 o = o := must_1 (by decide)
  have v : vp_in (nI R) 30 := vp_nI hR (by decide)
  generalize hz : sp_Mo_goOn (upd o 22 (nI (R + 1))) bu = z
  have e92 : ∀ x : IV, sp_Mo_readStep_92 (nI w) bu sA (nI R) sB sE p1 (upd sK R (nI w)) x = if w = 0 then sp_Mo_readStep_125 sB (nI R) sE (nI w) bu p1 (upd sK R (nI w)) (upd sA R (sp_Mo_first (nI w) x bu).1) (sp_Mo_number 0 4 (sp_Mo_first (nI w) x bu).2 bu).1.toInt32 (sp_Mo_number 0 4 (sp_Mo_first (nI w) x bu).2 bu).2 else sp_Mo_readStep_125 sB (nI R) sE (nI w) bu p1 (upd sK R (nI w)) (upd sA R (sp_Mo_first (nI w) x bu).1) 0 (sp_Mo_first (nI w) x bu).2 := fun x => by
    unfold sp_Mo_readStep_92
    simp only [lettn]
    rw [cl_nI (by omega)]
    by_cases q : w = 0
    · rw [if_pos (c0.mpr q), if_pos q]
    · rw [if_neg (fun u => q (c0.mp u)), if_neg q]
  constructor
  · unfold sp_Mo_readStep_16 sp_Mo_readStep_35
    simp only [lettn]
    rw [m1, h22, if_neg c30, m2, good1 h12, if_neg (by decide), h22, nzadd1 R (by omega), hz, cl_nI (by omega), e92, e92]
    unfold mNum mNul
    by_cases q9 : w = 9
    · rw [if_pos (c9.mpr q9), if_pos q9]
      rw [if_neg (by omega), if_neg (by omega)]
    · rw [if_neg (fun u => q9 (c9.mp u)), if_neg q9]
      by_cases q0 : w = 0
      · rw [if_pos q0, if_pos q0]
      · rw [if_neg q0, if_neg q0]
  · intro h1 h2 h3
    obtain ⟨n1, n2, n3⟩ := h2
    have o92 : ok_Mo_readStep_92 (nI w) bu sA (nI R) sB sE p1 (upd sK R (nI w)) (mNul w z bu) := by
      unfold ok_Mo_readStep_92
      simp only [lettn]
      rw [cl_nI (by omega)]
      refine ⟨n2, v, fun q => ?_, fun q => ?_⟩
      · have q' := c0.mp q
        have h3' := h3
        unfold mNum at h3'
        rw [if_pos q'] at h3'
        exact ⟨n3 q', h3'⟩
      · have q' : ¬ w = 0 := fun u => q (c0.mpr u)
        have h3' := h3
        unfold mNum at h3'
        rw [if_neg q'] at h3'
        exact h3'
    have o35 : ok_Mo_readStep_35 o sK sA sB sE bu (nI w) p1 1 := by
      unfold ok_Mo_readStep_35
      simp only [lettn]
      rw [m2, good1 h12, h22, nzadd1 R (by omega), hz, cl_nI (by omega)]
      refine ⟨fun u => absurd u (by decide), fun _ => ⟨h1, v, fun q => ?_, fun q => ?_⟩⟩
      · have q' := c9.mp q
        have o92' := o92
        unfold mNul at o92'
        rw [if_pos q'] at o92'
        exact ⟨n1 q', o92'⟩
      · have q' : ¬ w = 9 := fun u => q (c9.mpr u)
        have o92' := o92
        unfold mNul at o92'
        rw [if_neg q'] at o92'
        exact o92'
    unfold ok_Mo_readStep_16
    simp only [lettn]
    rw [m1, h22]
    exact ⟨fun u => absurd u c30, fun _ => o35⟩
/-- what the reference's loop makes of a step -/
noncomputable def mNext (D : Nat) (oq : IV) (bu : IV) (ym : Int32 × IV × IV × IV × IV × IV) : Int32 × IV × IV × IV × IV × IV × IV := if ym.1 = 0 then (nI D, sp_Mo_sign 59 ym.2.1 bu, ym.2.2.1, ym.2.2.2.1, ym.2.2.2.2.1, ym.2.2.2.2.2, oq) else (nI (D + 1), ym.2.1, ym.2.2.1, ym.2.2.2.1, ym.2.2.2.2.1, ym.2.2.2.2.2, upd oq D (ym.2.1 22 - (1 : Int32)))
/-- a step, on both sides -/
theorem step_TX {R D : Nat} {G : Nat → Nat} (h : TX B n st t tb o bu) (h5 : t 5 = 0) (hP : PrR R D G pi po pf ps pb pn o sK sA sB sE oq) :
    ok_Pr_takeStep pi po pf ps pn t tb ∧ ok_Mo_readStep (nI D) o bu sK sA sB sE ∧ ((sp_Mo_readStep (nI D) o bu sK sA sB sE).1 = 0 → ok_Mo_sign 59 (sp_Mo_readStep (nI D) o bu sK sA sB sE).2.1 bu) ∧ (¬ (sp_Mo_readStep (nI D) o bu sK sA sB sE).1 = 0 → D < 2) ∧
    ∃ st', st ≤ st' ∧ TX B n st' (sp_Pr_takeStep pi po pf ps pn t tb).2.2.2.2.2 tb (mNext D oq bu (sp_Mo_readStep (nI D) o bu sK sA sB sE)).2.1 bu ∧ (∀ k, (k < 9 ∨ 14 ≤ k) → k ≠ 22 → (mNext D oq bu (sp_Mo_readStep (nI D) o bu sK sA sB sE)).2.1 k = o k) ∧
    ((sp_Pr_takeStep pi po pf ps pn t tb).2.2.2.2.2 5 = 0 → st < st' ∧ ∃ (R' D' : Nat) (G' : Nat → Nat), (mNext D oq bu (sp_Mo_readStep (nI D) o bu sK sA sB sE)).1 = nI D' ∧
      PrR R' D' G' (sp_Pr_takeStep pi po pf ps pn t tb).1 (sp_Pr_takeStep pi po pf ps pn t tb).2.1 (sp_Pr_takeStep pi po pf ps pn t tb).2.2.1 (sp_Pr_takeStep pi po pf ps pn t tb).2.2.2.1 pb (sp_Pr_takeStep pi po pf ps pn t tb).2.2.2.2.1 (mNext D oq bu (sp_Mo_readStep (nI D) o bu sK sA sB sE)).2.1 (mNext D oq bu (sp_Mo_readStep (nI D) o bu sK sA sB sE)).2.2.1 (mNext D oq bu (sp_Mo_readStep (nI D) o bu sK sA sB sE)).2.2.2.1 (mNext D oq bu (sp_Mo_readStep (nI D) o bu sK sA sB sE)).2.2.2.2.1 (mNext D oq bu (sp_Mo_readStep (nI D) o bu sK sA sB sE)).2.2.2.2.2.1 (mNext D oq bu (sp_Mo_readStep (nI D) o bu sK sA sB sE)).2.2.2.2.2.2) := by
  obtain ⟨⟨a1, a2, a3, a4, a5⟩, -⟩ := id hP
  have h12 := (tx_good h).1.mpr h5
  obtain ⟨r1, r2, r3, r4⟩ := order_TX h
  -- a step that is an error at once
  have bad : ∀ (c : Int32) (ym : Int32 × IV × IV × IV × IV × IV), ¬ c = 0 → ym = (0, sp_Mo_must 0 c o, sK, sA, sB, sE) → sp_Pr_takeStep pi po pf ps pn t tb = (pi, po, pf, ps, pn, sp_Te_fail c t) →
      ((ym.1 = 0 → ok_Mo_sign 59 ym.2.1 bu) ∧ (¬ ym.1 = 0 → D < 2) ∧ ∃ st', st ≤ st' ∧ TX B n st' (sp_Pr_takeStep pi po pf ps pn t tb).2.2.2.2.2 tb (mNext D oq bu ym).2.1 bu ∧ (∀ k, (k < 9 ∨ 14 ≤ k) → k ≠ 22 → (mNext D oq bu ym).2.1 k = o k) ∧
    ((sp_Pr_takeStep pi po pf ps pn t tb).2.2.2.2.2 5 = 0 → st < st' ∧ ∃ (R' D' : Nat) (G' : Nat → Nat), (mNext D oq bu ym).1 = nI D' ∧
      PrR R' D' G' (sp_Pr_takeStep pi po pf ps pn t tb).1 (sp_Pr_takeStep pi po pf ps pn t tb).2.1 (sp_Pr_takeStep pi po pf ps pn t tb).2.2.1 (sp_Pr_takeStep pi po pf ps pn t tb).2.2.2.1 pb (sp_Pr_takeStep pi po pf ps pn t tb).2.2.2.2.1 (mNext D oq bu ym).2.1 (mNext D oq bu ym).2.2.1 (mNext D oq bu ym).2.2.2.1 (mNext D oq bu ym).2.2.2.2.1 (mNext D oq bu ym).2.2.2.2.2.1 (mNext D oq bu ym).2.2.2.2.2.2)) := fun c ym hc ey eC => by
    obtain ⟨f1, f2, f3, -⟩ := fail_TX h hc
    obtain ⟨g1, g2, s', g3, g4, g5, g6⟩ := sign_TX f1 (c := 59) (by omega)
    have e59 : sp_Te_takeSign (nI 59) (sp_Te_fail c t) tb = sp_Te_fail c t := by
      have q : ¬ (sp_Te_fail c t) 2 = nI 59 := by rw [tx_err f1 f2]; decide
      obtain ⟨-, -, -, j4⟩ := fail_TX f1 (c := 1) (by decide)
      obtain ⟨l1, l2, s2, l3, l4, l5, l6, l7⟩ := goOn_TX f1
      unfold sp_Te_takeSign sp_Te_takeSign_13
      simp only [lettn]
      rw [if_neg q, (j4 f2).1, (l7 f2).1]
    rw [e59] at g4
    rw [eC, ey]
    unfold mNext
    rw [if_pos rfl]
    dsimp only
    exact ⟨fun _ => g2, fun w => absurd rfl w, s', g3, g4, fun k hk _ => (g5 k hk).trans (f3 k hk), fun w => absurd w f2⟩
  rcases r4 with q | ⟨w, hw, q, -, q97⟩
  · -- no order
    have eC : sp_Pr_takeStep pi po pf ps pn t tb = (pi, po, pf, ps, pn, sp_Te_fail 1 t) := by
      unfold sp_Pr_takeStep
      simp only [lettn]
      rw [q, if_pos rfl]
    obtain ⟨f1, f2, f3, -⟩ := fail_TX h (c := 1) (by decide)
    have g0 : ¬ (sp_Mo_must 0 1 o) 12 = 0 := fun u => f2 ((tx_good f1).1.mp u)
    have em : ∀ x : Int32, sp_Mo_must x 4 (sp_Mo_must 0 1 o) = sp_Mo_must 0 1 o := fun x => by
      by_cases u : x = 0
      · rw [u]; exact tx_err_same f1 f2 4
      · exact must_1 u
    have e35 : ∀ x : Int32, sp_Mo_readStep_35 (sp_Mo_must 0 1 o) sK sA sB sE bu (-1) (nI D) x = (0, sp_Mo_must 0 1 o, sK, sA, sB, sE) ∧ ok_Mo_readStep_35 (sp_Mo_must 0 1 o) sK sA sB sE bu (-1) (nI D) x := fun x => by
      unfold sp_Mo_readStep_35 ok_Mo_readStep_35
      simp only [lettn]
      rw [em, good0 g0, if_pos rfl]
      exact ⟨rfl, fun _ => trivial, fun u => absurd rfl u⟩
    have eM : sp_Mo_readStep (nI D) o bu sK sA sB sE = (0, sp_Mo_must 0 1 o, sK, sA, sB, sE) := by
      unfold sp_Mo_readStep sp_Mo_readStep_16
      simp only [lettn]
      rw [r3, q, if_pos rfl, (e35 0).1, (e35 1).1, ite_self]
    have oM : ok_Mo_readStep (nI D) o bu sK sA sB sE := by
      unfold ok_Mo_readStep ok_Mo_readStep_16
      simp only [lettn]
      rw [r3, q]
      exact ⟨r2, fun _ => ⟨fun _ => (e35 0).2, fun _ => (e35 1).2⟩, fun u => absurd rfl u⟩
    have oC : ok_Pr_takeStep pi po pf ps pn t tb := by
      unfold ok_Pr_takeStep
      simp only [lettn]
      rw [q]
      exact ⟨r1, fun _ => trivial, fun u => absurd rfl u⟩
    exact ⟨oC, oM, bad 1 _ (by decide) eM eC⟩
  · have nw : ¬ nI w = (-1 : Int32) := fun u => by
      have := congrArg Int32.toInt u
      rw [nIz (by omega)] at this
      have e : (-1 : Int32).toInt = -1 := rfl
      omega
    by_cases qR : R < 30
    · -- a row for it
      have c30 : pi 7 < (30 : Int32) := by rw [a3, show (30 : Int32) = nI 30 from rfl, nzlt (by omega) (by omega)]; exact qR
      have v : vp_in (nI R) 30 := vp_nI qR (by decide)
      have h2 := tx_o22 h (nI (R + 1))
      obtain ⟨g1, g2, s1, g3, g4, g5, g6, g7⟩ := goOn_TX h2
      obtain ⟨-, -, -, glt⟩ := g6 h5
      have hlt := glt (by rw [q97]; decide)
      obtain ⟨n1, n2, s2, n3, n4, n5, n6, n7, n8, n9⟩ := nums_TX (pf := pf) (ps := ps) g4 hw qR
      obtain ⟨m1, m2⟩ := m_step (sK := sK) (sA := sA) (sB := sB) (sE := sE) (bu := bu) (p1 := nI D) h12 hw a5 qR
      have eM0 : sp_Mo_readStep (nI D) o bu sK sA sB sE = sp_Mo_readStep_125 sB (nI R) sE (nI w) bu (nI D) (upd sK R (nI w)) (upd sA R (mNum w (sp_Mo_goOn (upd o 22 (nI (R + 1))) bu) bu).1) (mNum w (sp_Mo_goOn (upd o 22 (nI (R + 1))) bu) bu).2.1 (mNum w (sp_Mo_goOn (upd o 22 (nI (R + 1))) bu) bu).2.2 := by
        unfold sp_Mo_readStep
        simp only [lettn]
        rw [r3, q, if_neg nw]
        exact m1
      have oM0 : ok_Mo_readStep_125 sB (nI R) sE (nI w) bu (nI D) (upd sK R (nI w)) (upd sA R (mNum w (sp_Mo_goOn (upd o 22 (nI (R + 1))) bu) bu).1) (mNum w (sp_Mo_goOn (upd o 22 (nI (R + 1))) bu) bu).2.1 (mNum w (sp_Mo_goOn (upd o 22 (nI (R + 1))) bu) bu).2.2 → ok_Mo_readStep (nI D) o bu sK sA sB sE := fun u => by
        unfold ok_Mo_readStep
        simp only [lettn]
        rw [r3, q]
        exact ⟨r2, fun u2 => absurd u2 nw, fun _ => m2 g2 n2 u⟩
      have o22 : (mNum w (sp_Mo_goOn (upd o 22 (nI (R + 1))) bu) bu).2.2 22 = nI (R + 1) := by
        rw [n8 22 (by omega), g5 22 (by omega), us]
      have frk : ∀ k, (k < 9 ∨ 14 ≤ k) → k ≠ 22 → (mNum w (sp_Mo_goOn (upd o 22 (nI (R + 1))) bu) bu).2.2 k = o k := fun k hk h22 => by
        rw [n8 k hk, g5 k hk, un h22]
      generalize mNum w (sp_Mo_goOn (upd o 22 (nI (R + 1))) bu) bu = M at *
      have h7u : upd pi 7 (nI (R + 1)) 7 = nI (R + 1) := us
      have h8u : upd pi 7 (nI (R + 1)) 8 = nI D := by rw [un (by decide)]; exact a4
      by_cases qb : 8 ≤ w
      · -- a bracket
        have hx : (D < 2 → ¬ (if (2 : Int32) ≤ nI D then (0 : Int32) else 1) = 0) ∧ (¬ D < 2 → (if (2 : Int32) ≤ nI D then (0 : Int32) else 1) = 0) := by
          have c : (2 : Int32) ≤ nI D ↔ ¬ D < 2 := by rw [show (2 : Int32) = nI 2 from rfl, nzle (by omega) (by omega)]; omega
          constructor
          · intro u
            rw [if_neg (fun z => (c.mp z) u)]; decide
          · intro u
            rw [if_pos (c.mpr u)]
        obtain ⟨p1, p2, p3, s3, p4, p5, p6, p7⟩ := open_TX (pi := upd pi 7 (nI (R + 1))) (pn := pn) (R := R) n7 a2 h8u hx
        have c8 : (8 : Int32) ≤ nI w := by rw [show (8 : Int32) = nI 8 from rfl, nzle (by omega) (by omega)]; exact qb
        have e166 : sp_Mo_readStep_125 sB (nI R) sE (nI w) bu (nI D) (upd sK R (nI w)) (upd sA R M.1) M.2.1 M.2.2 = (sp_Mo_good (sp_Mo_goOn (sp_Mo_must (if (2 : Int32) ≤ nI D then (0 : Int32) else 1) 3 (sp_Mo_must (sp_Mo_isSign (40 : Int32) M.2.2 bu) 1 M.2.2)) bu), sp_Mo_goOn (sp_Mo_must (if (2 : Int32) ≤ nI D then (0 : Int32) else 1) 3 (sp_Mo_must (sp_Mo_isSign (40 : Int32) M.2.2 bu) 1 M.2.2)) bu, upd sK R (nI w), upd sA R M.1, upd sB R M.2.1, upd sE R (nI (R + 1))) := by
          unfold sp_Mo_readStep_125 sp_Mo_readStep_166
          simp only [lettn]
          rw [if_pos c8, cl_nI (by omega), o22]
          by_cases u : (2 : Int32) ≤ nI D
          · rw [if_pos u, if_pos u]
          · rw [if_neg u, if_neg u]
        have o166 : ok_Mo_readStep_125 sB (nI R) sE (nI w) bu (nI D) (upd sK R (nI w)) (upd sA R M.1) M.2.1 M.2.2 := by
          have ib : ∀ z : IV, isB (sp_Mo_good z) := fun z => by
            unfold sp_Mo_good
            by_cases u : z 12 = 0
            · rw [if_pos u]; exact Or.inr rfl
            · rw [if_neg u]; exact Or.inl rfl
          unfold ok_Mo_readStep_125 ok_Mo_readStep_166
          simp only [lettn]
          refine ⟨v, fun _ => ⟨p2, fun u => ?_, fun u => ?_⟩, fun u => absurd c8 u⟩
          · rw [if_pos u] at p3
            exact ⟨p3, ib _, trivial⟩
          · rw [if_neg u] at p3
            exact ⟨p3, ib _, trivial⟩
        have oM := oM0 o166
        rw [e166] at eM0
        generalize hO : sp_Mo_goOn (sp_Mo_must (if (2 : Int32) ≤ nI D then (0 : Int32) else 1) 3 (sp_Mo_must (sp_Mo_isSign (40 : Int32) M.2.2 bu) 1 M.2.2)) bu = O at *
        have c89 : nI w = (8 : Int32) ∨ (¬ nI w = (8 : Int32) ∧ nI w = (9 : Int32)) := by
          rw [show (8 : Int32) = nI 8 from rfl, show (9 : Int32) = nI 9 from rfl, nzinj (by omega) (by omega), nzinj (by omega) (by omega)]
          omega
        have eC : sp_Pr_takeStep pi po pf ps pn t tb = ((sp_Pr_openBracket (nI R) (upd pi 7 (nI (R + 1))) pn (sp_Pr_takeNumbers (nI R) (nI w) pf ps (sp_Te_advance t tb) tb).2.2 tb).1, upd po R (nI w), (sp_Pr_takeNumbers (nI R) (nI w) pf ps (sp_Te_advance t tb) tb).1, (sp_Pr_takeNumbers (nI R) (nI w) pf ps (sp_Te_advance t tb) tb).2.1, (sp_Pr_openBracket (nI R) (upd pi 7 (nI (R + 1))) pn (sp_Pr_takeNumbers (nI R) (nI w) pf ps (sp_Te_advance t tb) tb).2.2 tb).2.1, (sp_Pr_openBracket (nI R) (upd pi 7 (nI (R + 1))) pn (sp_Pr_takeNumbers (nI R) (nI w) pf ps (sp_Te_advance t tb) tb).2.2 tb).2.2) := by
          unfold sp_Pr_takeStep sp_Pr_takeStep_84
          simp only [lettn]
          rw [q, if_neg nw, if_pos c30, a3, cl_nI (by omega), nzadd1 R (by omega)]
          rcases c89 with u | ⟨u, u2⟩
          · rw [if_pos u]
          · rw [if_neg u, if_pos u2]
        have oC : ok_Pr_takeStep pi po pf ps pn t tb := by
          unfold ok_Pr_takeStep ok_Pr_takeStep_84
          simp only [lettn]
          rw [q, a3, nzadd1 R (by omega)]
          refine ⟨r1, fun u => absurd u nw, fun _ => ⟨fun _ => ⟨v, g1, n1, fun _ => ⟨p1, trivial⟩, fun u => ⟨fun _ => ⟨p1, trivial⟩, fun u2 => ?_⟩⟩, fun u => ?_⟩⟩
          · rcases c89 with z | ⟨-, z⟩
            · exact absurd z u
            · exact absurd z u2
          · rw [a3] at c30; exact absurd c30 u
        generalize hN : sp_Pr_takeNumbers (nI R) (nI w) pf ps (sp_Te_advance t tb) tb = N at *
        generalize hQ : sp_Pr_openBracket (nI R) (upd pi 7 (nI (R + 1))) pn N.2.2 tb = Q at *
        rw [eC, eM0]
        unfold mNext
        dsimp only
        by_cases q5 : Q.2.2 5 = 0
        · obtain ⟨x1, x2, x3, x4, x5⟩ := p7 q5
          have o12 : O 12 = 0 := (tx_good p5).1.mpr q5
          have o22b : O 22 = nI (R + 1) := by rw [p6 22 (by omega)]; exact o22
          rw [good1 o12, if_neg (by decide)]
          dsimp only
          refine ⟨oC, oM, fun u => absurd u (by decide), fun _ => x2, s3, Nat.le_trans g3 (Nat.le_trans n3 p4), p5, fun k hk hk2 => (p6 k hk).trans (frk k hk hk2), fun _ => ⟨by omega, R + 1, D + 1, (fun k => if k = R + 1 then D + 1 else G k), rfl, ?_⟩⟩
          rw [o22b, show nI (R + 1) - (1 : Int32) = nI R from nzsub (R + 1) 1 (by omega) (by omega), n4, n5, x4, x5]
          exact prr_open hP qR x2 hw qb n6 (by rw [un (by decide)]; exact h7u) us o22b _
        · have o12 : ¬ O 12 = 0 := fun u => q5 ((tx_good p5).1.mp u)
          obtain ⟨y1, y2, s4, y3, y4, y5, y6⟩ := sign_TX p5 (c := 59) (by omega)
          have e59 : sp_Te_takeSign (nI 59) Q.2.2 tb = Q.2.2 := by
            have z : ¬ Q.2.2 2 = nI 59 := by rw [tx_err p5 q5]; decide
            obtain ⟨-, -, -, j4⟩ := fail_TX p5 (c := 1) (by decide)
            obtain ⟨l1, l2, s5, l3, l4, l5, l6, l7⟩ := goOn_TX p5
            unfold sp_Te_takeSign sp_Te_takeSign_13
            simp only [lettn]
            rw [if_neg z, (j4 q5).1, (l7 q5).1]
          rw [e59] at y4
          rw [good0 o12, if_pos rfl]
          dsimp only
          exact ⟨oC, oM, fun _ => y2, fun u => absurd rfl u, s4, Nat.le_trans g3 (Nat.le_trans n3 (Nat.le_trans p4 y3)), y4, fun k hk hk2 => (y5 k hk).trans ((p6 k hk).trans (frk k hk hk2)), fun u => absurd u q5⟩
      · -- a call
        have c8 : ¬ (8 : Int32) ≤ nI w := by rw [show (8 : Int32) = nI 8 from rfl, nzle (by omega) (by omega)]; exact qb
        have n8' : ¬ nI w = (8 : Int32) := by rw [show (8 : Int32) = nI 8 from rfl, nzinj (by omega) (by omega)]; omega
        have n9' : ¬ nI w = (9 : Int32) := by rw [show (9 : Int32) = nI 9 from rfl, nzinj (by omega) (by omega)]; omega
        obtain ⟨y1, y2, s4, y3, y4, y5, y6⟩ := sign_TX n7 (c := 59) (by omega)
        have e125 : sp_Mo_readStep_125 sB (nI R) sE (nI w) bu (nI D) (upd sK R (nI w)) (upd sA R M.1) M.2.1 M.2.2 = (0, M.2.2, upd sK R (nI w), upd sA R M.1, upd sB R M.2.1, upd sE R (nI (R + 1))) := by
          unfold sp_Mo_readStep_125
          simp only [lettn]
          rw [if_neg c8, cl_nI (by omega), o22]
        have o125 : ok_Mo_readStep_125 sB (nI R) sE (nI w) bu (nI D) (upd sK R (nI w)) (upd sA R M.1) M.2.1 M.2.2 := by
          unfold ok_Mo_readStep_125
          simp only [lettn]
          exact ⟨v, fun u => absurd u c8, fun _ => trivial⟩
        have oM := oM0 o125
        rw [e125] at eM0
        have eC : sp_Pr_takeStep pi po pf ps pn t tb = (upd pi 7 (nI (R + 1)), upd po R (nI w), (sp_Pr_takeNumbers (nI R) (nI w) pf ps (sp_Te_advance t tb) tb).1, (sp_Pr_takeNumbers (nI R) (nI w) pf ps (sp_Te_advance t tb) tb).2.1, pn, sp_Te_takeSign (nI 59) (sp_Pr_takeNumbers (nI R) (nI w) pf ps (sp_Te_advance t tb) tb).2.2 tb) := by
          unfold sp_Pr_takeStep
          simp only [lettn]
          rw [q, if_neg nw, if_pos c30, a3, cl_nI (by omega), nzadd1 R (by omega), if_neg n8', if_neg n9']
          rfl
        have oC : ok_Pr_takeStep pi po pf ps pn t tb := by
          unfold ok_Pr_takeStep
          simp only [lettn]
          rw [q, a3, cl_nI (by omega), nzadd1 R (by omega)]
          refine ⟨r1, fun u => absurd u nw, fun _ => ⟨fun _ => ⟨v, g1, n1, fun u => absurd u n8', fun _ => ⟨fun u => absurd u n9', fun _ => ⟨y1, trivial⟩⟩⟩, fun u => ?_⟩⟩
          rw [a3] at c30; exact absurd c30 u
        generalize hN : sp_Pr_takeNumbers (nI R) (nI w) pf ps (sp_Te_advance t tb) tb = N at *
        rw [eC, eM0]
        unfold mNext
        rw [if_pos rfl]
        dsimp only
        refine ⟨oC, oM, fun _ => y2, fun u => absurd rfl u, s4, Nat.le_trans g3 (Nat.le_trans n3 y3), y4, fun k hk hk2 => (y5 k hk).trans (frk k hk hk2), fun u => ⟨?_, R + 1, D, (fun k => if k = R + 1 then D else G k), rfl, ?_⟩⟩
        · have := (y6 u).2.2; omega
        · rw [n4, n5]
          exact prr_call hP qR (by omega) n6 us (un (by decide)) ((y5 22 (by omega)).trans o22) _
    · -- too many rows
      have c30 : ¬ pi 7 < (30 : Int32) := by rw [a3, show (30 : Int32) = nI 30 from rfl, nzlt (by omega) (by omega)]; omega
      have c30m : (30 : Int32) ≤ o 22 := by rw [a5, show (30 : Int32) = nI 30 from rfl, nzle (by omega) (by omega)]; omega
      obtain ⟨f1, f2, f3, -⟩ := fail_TX h (c := 4) (by decide)
      have g0 : ¬ (sp_Mo_must 0 4 o) 12 = 0 := fun u => f2 ((tx_good f1).1.mp u)
      have m1 : sp_Mo_must 1 1 o = o := must_1 (by decide)
      have eC : sp_Pr_takeStep pi po pf ps pn t tb = (pi, po, pf, ps, pn, sp_Te_fail 4 t) := by
        unfold sp_Pr_takeStep
        simp only [lettn]
        rw [q, if_neg nw, if_neg c30]
      have e35 : sp_Mo_readStep_35 o sK sA sB sE bu (nI w) (nI D) 0 = (0, sp_Mo_must 0 4 o, sK, sA, sB, sE) ∧ ok_Mo_readStep_35 o sK sA sB sE bu (nI w) (nI D) 0 := by
        unfold sp_Mo_readStep_35 ok_Mo_readStep_35
        simp only [lettn]
        rw [good0 g0, if_pos rfl]
        exact ⟨rfl, fun _ => trivial, fun u => absurd rfl u⟩
      have eM : sp_Mo_readStep (nI D) o bu sK sA sB sE = (0, sp_Mo_must 0 4 o, sK, sA, sB, sE) := by
        unfold sp_Mo_readStep sp_Mo_readStep_16
        simp only [lettn]
        rw [r3, q, if_neg nw, m1, if_pos c30m]
        exact e35.1
      have oM : ok_Mo_readStep (nI D) o bu sK sA sB sE := by
        unfold ok_Mo_readStep ok_Mo_readStep_16
        simp only [lettn]
        rw [r3, q, m1]
        exact ⟨r2, fun u => absurd u nw, fun _ => ⟨fun _ => e35.2, fun u => absurd c30m u⟩⟩
      have oC : ok_Pr_takeStep pi po pf ps pn t tb := by
        unfold ok_Pr_takeStep
        simp only [lettn]
        rw [q]
        exact ⟨r1, fun u => absurd u nw, fun _ => ⟨fun u => absurd u c30, fun _ => trivial⟩⟩
      exact ⟨oC, oM, bad 4 _ (by decide) eM eC⟩
end TPC
