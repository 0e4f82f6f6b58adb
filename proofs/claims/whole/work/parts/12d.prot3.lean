section TPD
variable {B : Nat → Nat} {n st : Nat} {t tb o bu pi po pf ps pb pn sK sA sB sE oq : IV}
/-! ===== a protocol from its begin to its end ===== -/
theorem inRow2_c {j : Nat} (hj : j < 2) (f : IV) : sp_Pr_inRow2 (nI j) f = f j := by
  unfold sp_Pr_inRow2
  rw [if_neg (by rw [show (0 : Int32) = nI 0 from rfl, nzlt (by omega) (by omega)]; omega), if_neg (by rw [show (2 : Int32) = nI 2 from rfl, nzle (by omega) (by omega)]; omega), cl_nI (by omega)]
/-- the reference goes on where no bracket closes -/
theorem m69 {D f : Nat} (hD : D ≤ 2) (hd : ¬ (sp_Mo_readStep (nI D) o bu sK sA sB sE).1 = 0 → D < 2) :
    sp_Mo_readProtocol_69 (nI D) o bu sK sA sB sE oq (sp_Mo_readProtocol_7 bu f) = sp_Mo_readProtocol_7 bu f (mNext D oq bu (sp_Mo_readStep (nI D) o bu sK sA sB sE)).1 (mNext D oq bu (sp_Mo_readStep (nI D) o bu sK sA sB sE)).2.1 (mNext D oq bu (sp_Mo_readStep (nI D) o bu sK sA sB sE)).2.2.1 (mNext D oq bu (sp_Mo_readStep (nI D) o bu sK sA sB sE)).2.2.2.1 (mNext D oq bu (sp_Mo_readStep (nI D) o bu sK sA sB sE)).2.2.2.2.1 (mNext D oq bu (sp_Mo_readStep (nI D) o bu sK sA sB sE)).2.2.2.2.2.1 (mNext D oq bu (sp_Mo_readStep (nI D) o bu sK sA sB sE)).2.2.2.2.2.2 ∧
    (ok_Mo_readStep (nI D) o bu sK sA sB sE → ((sp_Mo_readStep (nI D) o bu sK sA sB sE).1 = 0 → ok_Mo_sign 59 (sp_Mo_readStep (nI D) o bu sK sA sB sE).2.1 bu) → ok_Mo_readProtocol_7 bu f (mNext D oq bu (sp_Mo_readStep (nI D) o bu sK sA sB sE)).1 (mNext D oq bu (sp_Mo_readStep (nI D) o bu sK sA sB sE)).2.1 (mNext D oq bu (sp_Mo_readStep (nI D) o bu sK sA sB sE)).2.2.1 (mNext D oq bu (sp_Mo_readStep (nI D) o bu sK sA sB sE)).2.2.2.1 (mNext D oq bu (sp_Mo_readStep (nI D) o bu sK sA sB sE)).2.2.2.2.1 (mNext D oq bu (sp_Mo_readStep (nI D) o bu sK sA sB sE)).2.2.2.2.2.1 (mNext D oq bu (sp_Mo_readStep (nI D) o bu sK sA sB sE)).2.2.2.2.2.2 → ok_Mo_readProtocol_69 (nI D) o bu sK sA sB sE oq (sp_Mo_readProtocol_7 bu f) (ok_Mo_readProtocol_7 bu f)) := by
  generalize hy : sp_Mo_readStep (nI D) o bu sK sA sB sE = y at *
  unfold sp_Mo_readProtocol_69 ok_Mo_readProtocol_69 mNext
  simp only [lettn]
  rw [hy]
  by_cases q : y.1 = 0
  · rw [if_pos q, if_pos q]
    exact ⟨rfl, fun h1 h2 h3 => ⟨h1, fun _ => ⟨h2 q, h3⟩, fun w => absurd q w⟩⟩
  · have hD2 := hd q
    rw [if_neg q, if_neg q, cl_nI (by omega), nzadd1 D (by omega)]
    exact ⟨rfl, fun h1 h2 h3 => ⟨h1, fun w => absurd w q, fun _ => ⟨vp_nI hD2 (by decide), h3⟩⟩⟩
theorem e82 {x : IV} (h8 : pi 8 ≤ 0) : sp_Pr_understood_82 pi po pf ps pb pn x = ((if x 5 = 0 then 1 else 0), pi, po, pf, ps, pb, pn, x) := by
  unfold sp_Pr_understood_82 sp_Pr_understood_97
  rw [if_pos h8]
  by_cases q : x 5 = 0
  · rw [if_pos q, if_pos q]
  · rw [if_neg q, if_neg q]
theorem e82b {x : IV} (h5 : ¬ (sp_Te_fail 1 x) 5 = 0) (he : ¬ x 5 = 0 → sp_Te_fail 1 x = x) : ¬ x 5 = 0 ∨ ¬ pi 8 ≤ 0 → sp_Pr_understood_82 pi po pf ps pb pn x = (0, pi, po, pf, ps, pb, pn, sp_Te_fail 1 x) := fun h => by
  unfold sp_Pr_understood_82 sp_Pr_understood_97
  simp only [lettn]
  by_cases q : pi 8 ≤ 0
  · have h5' : ¬ x 5 = 0 := h.elim id (fun w => absurd q w)
    rw [if_pos q, if_neg h5', he h5']
  · rw [if_neg q, if_neg h5]
theorem prot_loop : ∀ (k f1 f2 i st : Nat) (x1 : Int32) (pi po pf ps pb pn t o sK sA sB sE oq : IV), i + k = 600 → k < f1 → k + 1 < f2 → TX B n st t tb o bu → (t 5 = 0 → i ≤ st ∧ ∃ (R D : Nat) (G : Nat → Nat), x1 = nI D ∧ PrR R D G pi po pf ps pb pn o sK sA sB sE oq) →
    ok_Pr_understood_19 tb f1 (nI i) pi po pf ps pb pn t ∧ ok_Mo_readProtocol_7 bu f2 x1 o sK sA sB sE oq ∧ ∃ (st' : Nat) (pi' po' pf' ps' pb' pn' t' o' sK' sA' sB' sE' oq' : IV),
      sp_Pr_understood_19 tb f1 (nI i) pi po pf ps pb pn t = ((if t' 5 = 0 then 1 else 0), pi', po', pf', ps', pb', pn', t') ∧ sp_Mo_readProtocol_7 bu f2 x1 o sK sA sB sE oq = (o', sK', sA', sB', sE', oq') ∧
      TX B n st' t' tb o' bu ∧ (∀ k, (k < 9 ∨ 14 ≤ k) → k ≠ 22 → o' k = o k) ∧ (t' 5 = 0 → ∃ (R : Nat) (G : Nat → Nat), PrR R 0 G pi' po' pf' ps' pb' pn' o' sK' sA' sB' sE' oq')
  | k, 0, _, _, _, _, _, _, _, _, _, _, _, _, _, _, _, _, _, _, hf, _, _, _ => absurd hf (by omega)
  | k, _, 0, _, _, _, _, _, _, _, _, _, _, _, _, _, _, _, _, _, _, hf, _, _ => absurd hf (by omega)
  | k, f1 + 1, f2 + 1, i, st, x1, pi, po, pf, ps, pb, pn, t, o, sK, sA, sB, sE, oq, hi, hf1, hf2, h, hd => by
    by_cases h5 : t 5 = 0
    · obtain ⟨hle, R, D, G, rfl, hP⟩ := hd h5
      have h12 := (tx_good h).1.mpr h5
      obtain ⟨k1, k2, k3, k4, k5⟩ := tx_kind h h5
      obtain ⟨⟨a1, a2, a3, a4, a5⟩, -⟩ := id hP
      have hn := h.1.1
      have c0 : pi 8 ≤ 0 ↔ D = 0 := by rw [a4, show (0 : Int32) = nI 0 from rfl, nzle (by omega) (by omega)]; omega
      have c0m : (0 : Int32) < nI D ↔ ¬ D = 0 := by rw [show (0 : Int32) = nI 0 from rfl, nzlt (by omega) (by omega)]; omega
      have c0n : nI D ≤ (0 : Int32) ↔ D = 0 := by rw [show (0 : Int32) = nI 0 from rfl, nzle (by omega) (by omega)]; omega
      obtain ⟨s1, s2, s3, s4⟩ := isSign_TX h (c := 41) (by omega)
      by_cases q0 : t 2 = 0
      · -- the end of the text
        have eC : sp_Pr_understood_19 tb (f1 + 1) (nI i) pi po pf ps pb pn t = sp_Pr_understood_82 pi po pf ps pb pn t := by
          show bd_Pr_understood_19 _ _ _ _ _ _ _ _ _ _ = _
          unfold bd_Pr_understood_19
          rw [if_pos h5, if_pos q0, ite_self]
        have oC : ok_Pr_understood_19 tb (f1 + 1) (nI i) pi po pf ps pb pn t := by
          show okb_Pr_understood_19 _ _ _ _ _ _ _ _ _ _ _
          unfold okb_Pr_understood_19
          exact ⟨fun _ => trivial, fun _ => ⟨fun _ => ⟨fun _ => trivial, fun w => absurd q0 w⟩, fun w => absurd h5 w⟩⟩
        by_cases qD : D = 0
        · subst qD
          have eM : sp_Mo_readProtocol_7 bu (f2 + 1) (nI 0) o sK sA sB sE oq = (o, sK, sA, sB, sE, oq) := by
            show bd_Mo_readProtocol_7 _ _ _ _ _ _ _ _ _ = _
            unfold bd_Mo_readProtocol_7
            simp only [lettn]
            rw [good1 h12, if_neg (by decide), if_neg (by decide), if_pos (k2.mpr q0)]
          have oM : ok_Mo_readProtocol_7 bu (f2 + 1) (nI 0) o sK sA sB sE oq := by
            show okb_Mo_readProtocol_7 _ _ _ _ _ _ _ _ _ _
            unfold okb_Mo_readProtocol_7
            simp only [lettn]
            rw [good1 h12]
            exact ⟨fun w => absurd w (by decide), fun _ => ⟨fun w => absurd w (by decide), fun _ => ⟨fun _ => trivial, fun w => absurd (k2.mpr q0) w⟩⟩⟩
          exact ⟨oC, oM, st, pi, po, pf, ps, pb, pn, t, o, sK, sA, sB, sE, oq, eC.trans (e82 (c0.mpr rfl)), eM, h, fun _ _ _ => rfl, fun _ => ⟨R, G, hP⟩⟩
        · -- a bracket is still open
          have hf3 : ∃ f3, f2 = f3 + 1 := ⟨f2 - 1, by omega⟩
          obtain ⟨f3, rfl⟩ := hf3
          obtain ⟨y1, y2, y3, y4, st', y5, y6, y7, y8⟩ := step_TX (pb := pb) h h5 hP
          obtain ⟨f1a, f1b, f1c, f1d⟩ := fail_TX h (c := 1) (by decide)
          have eS : (sp_Pr_takeStep pi po pf ps pn t tb).2.2.2.2.2 = sp_Te_fail 1 t := by
            obtain ⟨-, -, -, r4⟩ := order_TX h
            rcases r4 with q | ⟨w, -, -, -, z⟩
            · unfold sp_Pr_takeStep
              simp only [lettn]
              rw [q, if_pos rfl]
            · rw [q0] at z; exact absurd z (by decide)
          rw [eS] at y6 y8
          obtain ⟨m1, m2⟩ := m69 (oq := oq) (f := f3 + 1) a2 y4
          generalize mNext D oq bu (sp_Mo_readStep (nI D) o bu sK sA sB sE) = Z at *
          have z12 : ¬ Z.2.1 12 = 0 := fun w => f1b ((tx_good y6).1.mp w)
          have ns : sp_Mo_isSign (41 : Int32) o bu = 0 := s2.mpr (by rw [q0]; decide)
          have eE : sp_Mo_readProtocol_7 bu (f3 + 1) Z.1 Z.2.1 Z.2.2.1 Z.2.2.2.1 Z.2.2.2.2.1 Z.2.2.2.2.2.1 Z.2.2.2.2.2.2 = (Z.2.1, Z.2.2.1, Z.2.2.2.1, Z.2.2.2.2.1, Z.2.2.2.2.2.1, Z.2.2.2.2.2.2) ∧ ok_Mo_readProtocol_7 bu (f3 + 1) Z.1 Z.2.1 Z.2.2.1 Z.2.2.2.1 Z.2.2.2.2.1 Z.2.2.2.2.2.1 Z.2.2.2.2.2.2 := by
            constructor
            · show bd_Mo_readProtocol_7 _ _ _ _ _ _ _ _ _ = _
              unfold bd_Mo_readProtocol_7
              simp only [lettn]
              rw [good0 z12, if_pos rfl]
            · show okb_Mo_readProtocol_7 _ _ _ _ _ _ _ _ _ _
              unfold okb_Mo_readProtocol_7
              simp only [lettn]
              rw [good0 z12]
              exact ⟨fun _ => trivial, fun w => absurd rfl w⟩
          have eM : sp_Mo_readProtocol_7 bu (f3 + 1 + 1) (nI D) o sK sA sB sE oq = (Z.2.1, Z.2.2.1, Z.2.2.2.1, Z.2.2.2.2.1, Z.2.2.2.2.2.1, Z.2.2.2.2.2.2) := by
            show bd_Mo_readProtocol_7 _ _ _ _ _ _ _ _ _ = _
            unfold bd_Mo_readProtocol_7 sp_Mo_readProtocol_25
            simp only [lettn]
            rw [good1 h12, if_neg (by decide), if_pos (c0m.mpr qD), if_neg (fun w => qD (c0n.mp w)), ns, if_pos rfl, m1, eE.1]
          have oM : ok_Mo_readProtocol_7 bu (f3 + 1 + 1) (nI D) o sK sA sB sE oq := by
            show okb_Mo_readProtocol_7 _ _ _ _ _ _ _ _ _ _
            unfold okb_Mo_readProtocol_7 ok_Mo_readProtocol_25
            simp only [lettn]
            rw [good1 h12, ns]
            exact ⟨fun w => absurd w (by decide), fun _ => ⟨fun _ => ⟨fun w => absurd (c0n.mp w) qD, fun _ => ⟨s1, fun _ => m2 y2 y3 eE.2, fun w => absurd rfl w⟩⟩, fun w => absurd (c0m.mpr qD) w⟩⟩
          refine ⟨oC, oM, st', pi, po, pf, ps, pb, pn, sp_Te_fail 1 t, Z.2.1, Z.2.2.1, Z.2.2.2.1, Z.2.2.2.2.1, Z.2.2.2.2.2.1, Z.2.2.2.2.2.2, ?_, eM, y6, y7, fun w => absurd w f1b⟩
          rw [eC, e82b f1b (fun w => absurd h5 w) (Or.inr (fun w => qD (c0.mp w))), if_neg f1b]
      · -- a token
        have hst := k5 q0
        have hk : ∃ k', k = k' + 1 := ⟨k - 1, by omega⟩
        obtain ⟨k, rfl⟩ := hk
        have c6 : ¬ (600 : Int32) ≤ nI i := by rw [show (600 : Int32) = nI 600 from rfl, nzle (by omega) (by omega)]; omega
        by_cases qc : ¬ D = 0 ∧ t 2 = (41 : Int32)
        · -- a bracket closes
          obtain ⟨qD, q41⟩ := qc
          have hD' : ∃ D', D = D' + 1 := ⟨D - 1, by omega⟩
          obtain ⟨D', rfl⟩ := hD'
          have ns : ¬ sp_Mo_isSign (41 : Int32) o bu = 0 := fun w => (s2.mp w) q41
          obtain ⟨g1, g2, s1', g3, g4, g5, g6, g7⟩ := goOn_TX h
          obtain ⟨y1, y2, s2', y3, y4, y5, y6⟩ := sign_TX g4 (c := 59) (by omega)
          have hlt := (g6 h5).2.2.2 (by rw [q41]; decide)
          have e41 : sp_Te_takeSign (41 : Int32) t tb = sp_Te_advance t tb := by
            unfold sp_Te_takeSign sp_Te_takeSign_13
            simp only [lettn]
            rw [if_pos q41]
          have o41 := (sign_TX h (c := 41) (by omega)).1
          have e8 : pi 8 - (1 : Int32) = nI D' := by rw [a4]; exact nzsub (D' + 1) 1 (by omega) (by omega)
          have e8m : nI (D' + 1) + (-1 : Int32) = nI D' := by
            apply Int32.toInt_inj.mp
            rw [Kit.i32_add (by rw [nIz (by omega)]; show _ ≤ _ + (-1 : Int); omega) (by rw [nIz (by omega)]; show _ + (-1 : Int) < _; omega), nIz (by omega), nIz (by omega)]
            show ((D' + 1 : Nat) : Int) + (-1) = _; omega
          have hclose := prr_close (pi' := upd pi 8 (nI D')) (o' := sp_Mo_sign 59 (sp_Mo_goOn o bu) bu) hP (un (by decide)) us ((y5 22 (by omega)).trans (g5 22 (by omega)))
          obtain ⟨b, b1, b2, b3, b4⟩ := hclose
          have eC : sp_Pr_understood_19 tb (f1 + 1) (nI i) pi po pf ps pb pn t = sp_Pr_understood_19 tb f1 (nI (i + 1)) (upd pi 8 (nI D')) po pf ps (upd pb b (nI R)) pn (sp_Te_takeSign 59 (sp_Te_advance t tb) tb) := by
            show bd_Pr_understood_19 _ _ _ _ _ _ _ _ _ _ = _
            unfold bd_Pr_understood_19 sp_Pr_understood_76 sp_Pr_closeBracket sp_Pr_closeBracket_54
            simp only [lettn]
            rw [if_neg c6, if_pos h5, if_neg q0, if_neg (fun w => qD (c0.mp w)), if_pos q41, nzadd1 i (by omega), e41, e8, us, inRow2_c (by omega), b2, if_neg (by rw [show (0 : Int32) = nI 0 from rfl, nzlt (by omega) (by omega)]; omega), if_neg (by rw [show (30 : Int32) = nI 30 from rfl, nzle (by omega) (by omega)]; omega), cl_nI (by omega), un (show 7 ≠ 8 by decide), a3]
          have oC : ok_Pr_understood_19 tb f1 (nI (i + 1)) (upd pi 8 (nI D')) po pf ps (upd pb b (nI R)) pn (sp_Te_takeSign 59 (sp_Te_advance t tb) tb) → ok_Pr_understood_19 tb (f1 + 1) (nI i) pi po pf ps pb pn t := fun w => by
            show okb_Pr_understood_19 _ _ _ _ _ _ _ _ _ _ _
            unfold okb_Pr_understood_19 ok_Pr_understood_76 ok_Pr_closeBracket ok_Pr_closeBracket_54 sp_Pr_closeBracket sp_Pr_closeBracket_54
            simp only [lettn]
            rw [nzadd1 i (by omega), e41, e8, us, inRow2_c (by omega), b2, if_neg (by rw [show (0 : Int32) = nI 0 from rfl, nzlt (by omega) (by omega)]; omega), if_neg (by rw [show (30 : Int32) = nI 30 from rfl, nzle (by omega) (by omega)]; omega), cl_nI (by omega), un (show 7 ≠ 8 by decide), a3]
            exact ⟨fun z => absurd z c6, fun _ => ⟨fun _ => ⟨fun z => absurd z q0, fun _ => ⟨fun z => absurd (c0.mp z) qD, fun _ => ⟨fun _ => ⟨⟨o41, fun _ => ⟨y1, trivial⟩, fun _ => ⟨fun _ => ⟨y1, trivial⟩, fun _ => ⟨y1, trivial⟩⟩⟩, w⟩, fun z => absurd q41 z⟩⟩⟩, fun z => absurd h5 z⟩⟩
          have eM : sp_Mo_readProtocol_7 bu (f2 + 1) (nI (D' + 1)) o sK sA sB sE oq = sp_Mo_readProtocol_7 bu f2 (nI D') (sp_Mo_sign 59 (sp_Mo_goOn o bu) bu) sK sA sB (upd sE b (nI R)) oq := by
            show bd_Mo_readProtocol_7 _ _ _ _ _ _ _ _ _ = _
            unfold bd_Mo_readProtocol_7 sp_Mo_readProtocol_25
            simp only [lettn]
            rw [good1 h12, if_neg (by decide), if_pos (c0m.mpr qD), if_neg (fun w => qD (c0n.mp w)), if_neg ns, e8m, cl_nI (by omega), b3, cl_nI (by omega), a5]
          have oM : ok_Mo_readProtocol_7 bu f2 (nI D') (sp_Mo_sign 59 (sp_Mo_goOn o bu) bu) sK sA sB (upd sE b (nI R)) oq → ok_Mo_readProtocol_7 bu (f2 + 1) (nI (D' + 1)) o sK sA sB sE oq := fun w => by
            show okb_Mo_readProtocol_7 _ _ _ _ _ _ _ _ _ _
            unfold okb_Mo_readProtocol_7 ok_Mo_readProtocol_25
            simp only [lettn]
            rw [good1 h12, e8m, cl_nI (by omega), b3, cl_nI (by omega), a5]
            exact ⟨fun z => absurd z (by decide), fun _ => ⟨fun _ => ⟨fun z => absurd (c0n.mp z) qD, fun _ => ⟨s1, fun z => absurd z ns, fun _ => ⟨vp_nI (by omega) (by decide), vp_nI (by omega) (by decide), g2, y2, w⟩⟩⟩, fun z => absurd (c0m.mpr qD) z⟩⟩
          obtain ⟨i1, i2, st', pi', po', pf', ps', pb', pn', t', o', sK', sA', sB', sE', oq', i3, i4, i5, i6, i7⟩ := prot_loop k f1 f2 (i + 1) s2' (nI D') (upd pi 8 (nI D')) po pf ps (upd pb b (nI R)) pn (sp_Te_takeSign 59 (sp_Te_advance t tb) tb) (sp_Mo_sign 59 (sp_Mo_goOn o bu) bu) sK sA sB (upd sE b (nI R)) oq (by omega) (by omega) (by omega) y4 (fun _ => ⟨by omega, R, D', _, rfl, b4⟩)
          exact ⟨oC i1, oM i2, st', pi', po', pf', ps', pb', pn', t', o', sK', sA', sB', sE', oq', eC.trans i3, eM.trans i4, i5, fun k hk hk2 => (i6 k hk hk2).trans ((y5 k hk).trans (g5 k hk)), i7⟩
        · -- a step
          obtain ⟨y1, y2, y3, y4, st', y5, y6, y7, y8⟩ := step_TX (pb := pb) h h5 hP
          obtain ⟨m1, m2⟩ := m69 (oq := oq) (f := f2) a2 y4
          generalize mNext D oq bu (sp_Mo_readStep (nI D) o bu sK sA sB sE) = Z at *
          generalize hS : sp_Pr_takeStep pi po pf ps pn t tb = S at *
          have nq : D = 0 ∨ (¬ D = 0 ∧ ¬ t 2 = (41 : Int32) ∧ sp_Mo_isSign (41 : Int32) o bu = 0) := by
            by_cases u : D = 0
            · exact Or.inl u
            · exact Or.inr ⟨u, fun w => qc ⟨u, w⟩, s2.mpr (fun w => qc ⟨u, w⟩)⟩
          have nE : ¬ o 11 = 0 := fun w => q0 (k2.mp w)
          have eC : sp_Pr_understood_19 tb (f1 + 1) (nI i) pi po pf ps pb pn t = sp_Pr_understood_19 tb f1 (nI (i + 1)) S.1 S.2.1 S.2.2.1 S.2.2.2.1 pb S.2.2.2.2.1 S.2.2.2.2.2 := by
            show bd_Pr_understood_19 _ _ _ _ _ _ _ _ _ _ = _
            unfold bd_Pr_understood_19 sp_Pr_understood_72 sp_Pr_understood_76
            simp only [lettn]
            rw [if_neg c6, if_pos h5, if_neg q0, nzadd1 i (by omega), hS]
            rcases nq with u | ⟨u, u2, -⟩
            · rw [if_pos (c0.mpr u)]
            · rw [if_neg (fun w => u (c0.mp w)), if_neg u2]
          have oC : ok_Pr_understood_19 tb f1 (nI (i + 1)) S.1 S.2.1 S.2.2.1 S.2.2.2.1 pb S.2.2.2.2.1 S.2.2.2.2.2 → ok_Pr_understood_19 tb (f1 + 1) (nI i) pi po pf ps pb pn t := fun w => by
            show okb_Pr_understood_19 _ _ _ _ _ _ _ _ _ _ _
            unfold okb_Pr_understood_19 ok_Pr_understood_72 ok_Pr_understood_76
            simp only [lettn]
            rw [nzadd1 i (by omega), hS]
            refine ⟨fun z => absurd z c6, fun _ => ⟨fun _ => ⟨fun z => absurd z q0, fun _ => ⟨fun _ => ⟨y1, w⟩, fun z => ⟨fun z2 => ?_, fun _ => ⟨y1, w⟩⟩⟩⟩, fun z => absurd h5 z⟩⟩
            rcases nq with u | ⟨u, u2, -⟩
            · exact absurd (c0.mpr u) z
            · exact absurd z2 u2
          have eM : sp_Mo_readProtocol_7 bu (f2 + 1) (nI D) o sK sA sB sE oq = sp_Mo_readProtocol_7 bu f2 Z.1 Z.2.1 Z.2.2.1 Z.2.2.2.1 Z.2.2.2.2.1 Z.2.2.2.2.2.1 Z.2.2.2.2.2.2 := by
            show bd_Mo_readProtocol_7 _ _ _ _ _ _ _ _ _ = _
            unfold bd_Mo_readProtocol_7 sp_Mo_readProtocol_25
            simp only [lettn]
            rw [good1 h12, if_neg (by decide), m1, if_neg nE]
            rcases nq with u | ⟨u, -, u2⟩
            · rw [if_neg (fun w => (c0m.mp w) u), if_pos (c0n.mpr u)]
            · rw [if_pos (c0m.mpr u), if_neg (fun w => u (c0n.mp w)), u2, if_pos rfl]
          have oM : ok_Mo_readProtocol_7 bu f2 Z.1 Z.2.1 Z.2.2.1 Z.2.2.2.1 Z.2.2.2.2.1 Z.2.2.2.2.2.1 Z.2.2.2.2.2.2 → ok_Mo_readProtocol_7 bu (f2 + 1) (nI D) o sK sA sB sE oq := fun w => by
            have z69 := m2 y2 y3 w
            have z25 : ok_Mo_readProtocol_25 (nI D) o bu sK sA sB sE oq (sp_Mo_readProtocol_7 bu f2) (ok_Mo_readProtocol_7 bu f2) := by
              unfold ok_Mo_readProtocol_25
              simp only [lettn]
              refine ⟨fun _ => z69, fun z => ⟨s1, fun _ => z69, fun z2 => ?_⟩⟩
              rcases nq with u | ⟨u, -, u2⟩
              · exact absurd (c0n.mpr u) z
              · exact absurd u2 z2
            show okb_Mo_readProtocol_7 _ _ _ _ _ _ _ _ _ _
            unfold okb_Mo_readProtocol_7
            simp only [lettn]
            rw [good1 h12]
            exact ⟨fun z => absurd z (by decide), fun _ => ⟨fun _ => z25, fun _ => ⟨fun z => absurd z nE, fun _ => z25⟩⟩⟩
          obtain ⟨i1, i2, st2, pi', po', pf', ps', pb', pn', t', o', sK', sA', sB', sE', oq', i3, i4, i5, i6, i7⟩ := prot_loop k f1 f2 (i + 1) st' Z.1 S.1 S.2.1 S.2.2.1 S.2.2.2.1 pb S.2.2.2.2.1 S.2.2.2.2.2 Z.2.1 Z.2.2.1 Z.2.2.2.1 Z.2.2.2.2.1 Z.2.2.2.2.2.1 Z.2.2.2.2.2.2 (by omega) (by omega) (by omega) y6 (fun w => by
            obtain ⟨z1, R', D', G', z2, z3⟩ := y8 w
            exact ⟨by omega, R', D', G', z2, z3⟩)
          exact ⟨oC i1, oM i2, st2, pi', po', pf', ps', pb', pn', t', o', sK', sA', sB', sE', oq', eC.trans i3, eM.trans i4, i5, fun k hk hk2 => (i6 k hk hk2).trans (y7 k hk hk2), i7⟩
    · -- behind an error
      have h12 : ¬ o 12 = 0 := fun w => h5 ((tx_good h).1.mp w)
      obtain ⟨f1a, f1b, f1c, f1d⟩ := fail_TX h (c := 1) (by decide)
      obtain ⟨e1, e2⟩ := f1d h5
      have eC : sp_Pr_understood_19 tb (f1 + 1) (nI i) pi po pf ps pb pn t = (0, pi, po, pf, ps, pb, pn, t) := by
        show bd_Pr_understood_19 _ _ _ _ _ _ _ _ _ _ = _
        unfold bd_Pr_understood_19
        rw [if_neg h5, ite_self, e82b f1b (fun _ => e1) (Or.inl h5), e1]
      have oC : ok_Pr_understood_19 tb (f1 + 1) (nI i) pi po pf ps pb pn t := by
        show okb_Pr_understood_19 _ _ _ _ _ _ _ _ _ _ _
        unfold okb_Pr_understood_19
        exact ⟨fun _ => trivial, fun _ => ⟨fun z => absurd z h5, fun _ => trivial⟩⟩
      have eM : sp_Mo_readProtocol_7 bu (f2 + 1) x1 o sK sA sB sE oq = (o, sK, sA, sB, sE, oq) := by
        show bd_Mo_readProtocol_7 _ _ _ _ _ _ _ _ _ = _
        unfold bd_Mo_readProtocol_7
        simp only [lettn]
        rw [good0 h12, if_pos rfl]
      have oM : ok_Mo_readProtocol_7 bu (f2 + 1) x1 o sK sA sB sE oq := by
        show okb_Mo_readProtocol_7 _ _ _ _ _ _ _ _ _ _
        unfold okb_Mo_readProtocol_7
        simp only [lettn]
        rw [good0 h12]
        exact ⟨fun _ => trivial, fun w => absurd rfl w⟩
      refine ⟨oC, oM, st, pi, po, pf, ps, pb, pn, t, o, sK, sA, sB, sE, oq, ?_, eM, h, fun _ _ _ => rfl, fun w => absurd w h5⟩
      rw [eC, if_neg h5]
end TPD
