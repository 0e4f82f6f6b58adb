section TKN
variable {B : Nat → Nat} {n st : Nat} {t tb o bu : IV} {su d0 d1 d2 d3 d4 tq rT wT : IV} {dr now : LV} {iS : IV}
/-! ===== a setup from its begin to its end ===== -/
/-- the statements, one behind the other -/
theorem und_loop : ∀ (k f1 f2 i st : Nat) (su t d0 d1 d2 d3 d4 o tq rT wT : IV) (dr : LV), i + k = 600 → k < f1 → k < f2 → TX B n st t tb o bu → (t 5 = 0 → SR B n st su t tb d0 d1 d2 d3 d4 o bu tq rT wT dr ∧ i ≤ st) →
    ok_Su_understood_25 tb f1 (nI i) su t d0 d1 d2 d3 d4 ∧ ∃ (st' : Nat) (su' t' e0 e1 e2 e3 e4 o' tq' rT' wT' : IV) (dr' : LV),
      sp_Su_understood_25 tb f1 (nI i) su t d0 d1 d2 d3 d4 = sp_Su_understood_61 t' su' e0 e1 e2 e3 e4 ∧ sp_Mo_load_21 bu now iS f2 o dr tq rT wT = sp_Mo_load_41 o' tq' now dr' iS rT' wT' ∧ (ok_Mo_load_41 o' tq' now dr' iS rT' wT' → ok_Mo_load_21 bu now iS f2 o dr tq rT wT) ∧
      TX B n st' t' tb o' bu ∧ FrT o o' ∧ (t' 5 = 0 → SR B n st' su' t' tb e0 e1 e2 e3 e4 o' bu tq' rT' wT' dr')
  | k, 0, _, _, _, _, _, _, _, _, _, _, _, _, _, _, _, _, hf, _, _, _ => absurd hf (by omega)
  | k, _, 0, _, _, _, _, _, _, _, _, _, _, _, _, _, _, _, _, hf, _, _ => absurd hf (by omega)
  | k, f1 + 1, f2 + 1, i, st, su, t, d0, d1, d2, d3, d4, o, tq, rT, wT, dr, hi, hf1, hf2, h, hd => by
    obtain ⟨s1, s2, s3, s4⟩ := isSign_TX h (c := 59) (by omega)
    by_cases q : t 2 = (59 : Int32)
    · have h5 := s4 q
      obtain ⟨hS, hle⟩ := hd h5
      have hst := (tx_kind h h5).2.2.2.2 (by rw [q]; decide)
      have hn := h.1.1
      have ns : ¬ sp_Mo_isSign (59 : Int32) o bu = 0 := fun w => (s2.mp w) q
      have c : ¬ (600 : Int32) ≤ nI i := by rw [show (600 : Int32) = nI 600 from rfl, nzle (by omega) (by omega)]; omega
      have hk : ∃ k', k = k' + 1 := ⟨k - 1, by omega⟩
      obtain ⟨k, rfl⟩ := hk
      obtain ⟨g1, g2, a, g3, g4, g5, g6, g7⟩ := goOn_TX h
      obtain ⟨g8, g9, g10, g11⟩ := g6 h5
      have hlt := g11 (by rw [q]; decide)
      rw [g9] at g4 g5
      have hS2 : SR B n a su (sp_Te_advance t tb) tb d0 d1 d2 d3 d4 (sp_Mo_scan o bu) bu tq rT wT dr := ⟨g4, hS.2.1, fun _ => hS.2.2 h5⟩
      obtain ⟨r1, r2, b, r3, r4, r5, r6⟩ := statement_TX hS2
      have eC : sp_Su_understood_25 tb (f1 + 1) (nI i) su t d0 d1 d2 d3 d4 = sp_Su_understood_25 tb f1 (nI (i + 1)) (sp_Su_takeStatement su (sp_Te_advance t tb) tb d0 d1 d2 d3 d4).1 (sp_Su_takeStatement su (sp_Te_advance t tb) tb d0 d1 d2 d3 d4).2.1 (sp_Su_takeStatement su (sp_Te_advance t tb) tb d0 d1 d2 d3 d4).2.2.1 (sp_Su_takeStatement su (sp_Te_advance t tb) tb d0 d1 d2 d3 d4).2.2.2.1 (sp_Su_takeStatement su (sp_Te_advance t tb) tb d0 d1 d2 d3 d4).2.2.2.2.1 (sp_Su_takeStatement su (sp_Te_advance t tb) tb d0 d1 d2 d3 d4).2.2.2.2.2.1 (sp_Su_takeStatement su (sp_Te_advance t tb) tb d0 d1 d2 d3 d4).2.2.2.2.2.2 := by
        show bd_Su_understood_25 _ _ _ _ _ _ _ _ _ _ = _
        unfold bd_Su_understood_25
        simp only [lettn]
        rw [if_neg c, if_pos q, nzadd1 i (by omega)]
      have oC : ok_Su_understood_25 tb f1 (nI (i + 1)) (sp_Su_takeStatement su (sp_Te_advance t tb) tb d0 d1 d2 d3 d4).1 (sp_Su_takeStatement su (sp_Te_advance t tb) tb d0 d1 d2 d3 d4).2.1 (sp_Su_takeStatement su (sp_Te_advance t tb) tb d0 d1 d2 d3 d4).2.2.1 (sp_Su_takeStatement su (sp_Te_advance t tb) tb d0 d1 d2 d3 d4).2.2.2.1 (sp_Su_takeStatement su (sp_Te_advance t tb) tb d0 d1 d2 d3 d4).2.2.2.2.1 (sp_Su_takeStatement su (sp_Te_advance t tb) tb d0 d1 d2 d3 d4).2.2.2.2.2.1 (sp_Su_takeStatement su (sp_Te_advance t tb) tb d0 d1 d2 d3 d4).2.2.2.2.2.2 → ok_Su_understood_25 tb (f1 + 1) (nI i) su t d0 d1 d2 d3 d4 := fun w => by
        show okb_Su_understood_25 _ _ _ _ _ _ _ _ _ _ _
        unfold okb_Su_understood_25
        simp only [lettn]
        rw [nzadd1 i (by omega)]
        exact ⟨fun z => absurd z c, fun _ => ⟨fun _ => ⟨g1, r1, w⟩, fun z => absurd q z⟩⟩
      have eM : sp_Mo_load_21 bu now iS (f2 + 1) o dr tq rT wT = sp_Mo_load_21 bu now iS f2 (sp_Mo_readStatement (sp_Mo_scan o bu) dr bu tq rT wT).1 (sp_Mo_readStatement (sp_Mo_scan o bu) dr bu tq rT wT).2.1 (sp_Mo_readStatement (sp_Mo_scan o bu) dr bu tq rT wT).2.2.1 (sp_Mo_readStatement (sp_Mo_scan o bu) dr bu tq rT wT).2.2.2.1 (sp_Mo_readStatement (sp_Mo_scan o bu) dr bu tq rT wT).2.2.2.2 := by
        show bd_Mo_load_21 _ _ _ _ _ _ _ _ _ = _
        unfold bd_Mo_load_21
        simp only [lettn]
        rw [if_neg ns]
      have oM : ok_Mo_load_21 bu now iS f2 (sp_Mo_readStatement (sp_Mo_scan o bu) dr bu tq rT wT).1 (sp_Mo_readStatement (sp_Mo_scan o bu) dr bu tq rT wT).2.1 (sp_Mo_readStatement (sp_Mo_scan o bu) dr bu tq rT wT).2.2.1 (sp_Mo_readStatement (sp_Mo_scan o bu) dr bu tq rT wT).2.2.2.1 (sp_Mo_readStatement (sp_Mo_scan o bu) dr bu tq rT wT).2.2.2.2 → ok_Mo_load_21 bu now iS (f2 + 1) o dr tq rT wT := fun w => by
        show okb_Mo_load_21 _ _ _ _ _ _ _ _ _ _
        unfold okb_Mo_load_21
        simp only [lettn]
        exact ⟨s1, fun z => absurd z ns, fun _ => ⟨g10, r2, w⟩⟩
      generalize sp_Su_takeStatement su (sp_Te_advance t tb) tb d0 d1 d2 d3 d4 = Y at *
      generalize sp_Mo_readStatement (sp_Mo_scan o bu) dr bu tq rT wT = Z at *
      obtain ⟨i1, b', su', t', e0, e1, e2, e3, e4, o', tq', rT', wT', dr', i2, i3, i4, i5, i6, i7⟩ := und_loop k f1 f2 (i + 1) b Y.1 Y.2.1 Y.2.2.1 Y.2.2.2.1 Y.2.2.2.2.1 Y.2.2.2.2.2.1 Y.2.2.2.2.2.2 Z.1 Z.2.2.1 Z.2.2.2.1 Z.2.2.2.2 Z.2.1 (by omega) (by omega) (by omega) r4 (fun w => ⟨r6 w, by omega⟩)
      exact ⟨oC i1, b', su', t', e0, e1, e2, e3, e4, o', tq', rT', wT', dr', eC.trans i2, eM.trans i3, fun w => oM (i4 w), i5, frt_tr g5 (frt_tr r5 i6), i7⟩
    · have ns : sp_Mo_isSign (59 : Int32) o bu = 0 := s2.mpr q
      refine ⟨?_, st, su, t, d0, d1, d2, d3, d4, o, tq, rT, wT, dr, ?_, ?_, ?_, h, frt_rf o, fun w => (hd w).1⟩
      · show okb_Su_understood_25 _ _ _ _ _ _ _ _ _ _ _
        unfold okb_Su_understood_25
        exact ⟨fun _ => trivial, fun _ => ⟨fun z => absurd z q, fun _ => trivial⟩⟩
      · show bd_Su_understood_25 _ _ _ _ _ _ _ _ _ _ = _
        unfold bd_Su_understood_25
        rw [if_neg q, ite_self]
      · show bd_Mo_load_21 _ _ _ _ _ _ _ _ _ = _
        unfold bd_Mo_load_21
        simp only [lettn]
        rw [if_pos ns]
      · intro w
        show okb_Mo_load_21 _ _ _ _ _ _ _ _ _ _
        unfold okb_Mo_load_21
        simp only [lettn]
        exact ⟨s1, fun _ => w, fun z => absurd ns z⟩
/-- how the reference ends a setup -/
noncomputable def loadEnd (oE : IV) (now dr : LV) (iS tq rT wT : IV) : Int32 × IV × LV × LV × IV × IV × IV × IV := if oE 12 = 0 then (sp_Mo_decades (sp_Mo_takeDraft now dr), (upd (upd oE 8 0) 5 0, sp_Mo_takeDraft now dr, dr, upd (upd iS 0 0) 1 0, tq, rT, wT)) else ((-10 : Int32) - oE 12, (upd oE 8 0, now, dr, iS, tq, rT, wT))
theorem load82 (y : IV) (c : Int32) : sp_Mo_load_82 y now dr iS tq rT wT c = loadEnd (sp_Mo_must c 4 y) now dr iS tq rT wT ∧ ok_Mo_load_82 y now dr iS tq rT wT c := by
  unfold sp_Mo_load_82 ok_Mo_load_82 loadEnd
  simp only [lettn]
  rw [nar0]
  by_cases q : sp_Mo_must c 4 y 12 = 0
  · rw [good1 (o := upd (sp_Mo_must c 4 y) 8 0) (by rw [un (by decide)]; exact q), if_neg (by decide), if_pos q]
    exact ⟨rfl, fun w => absurd w (by decide), fun _ => ⟨(draft_R now dr).1, trivial⟩⟩
  · rw [good0 (o := upd (sp_Mo_must c 4 y) 8 0) (by rw [un (by decide)]; exact q), if_pos rfl, if_neg q, un (by decide)]
    exact ⟨rfl, fun _ => trivial, fun w => absurd rfl w⟩
theorem und_end (h : TX B n st t tb o bu) (hd : t 5 = 0 → SR B n st su t tb d0 d1 d2 d3 d4 o bu tq rT wT dr) :
    ok_Mo_load_41 o tq now dr iS rT wT ∧ ∃ t' o' : IV, sp_Su_understood_61 t su d0 d1 d2 d3 d4 = ((if t' 5 = 0 then 1 else 0), su, t', d0, d1, d2, d3, d4) ∧ sp_Mo_load_41 o tq now dr iS rT wT = loadEnd o' now dr iS tq rT wT ∧ TX B n st t' tb o' bu ∧ FrT o o' ∧ (t' 5 = 0 → DrX (fun _ => False) d0 d1 d2 d3 d4 dr) := by
  have e108 : ∀ x : IV, sp_Su_understood_108 su d0 d1 d2 d3 d4 x = ((if x 5 = 0 then 1 else 0), su, x, d0, d1, d2, d3, d4) := fun x => by
    unfold sp_Su_understood_108
    by_cases q : x 5 = 0
    · rw [if_pos q, if_pos q]
    · rw [if_neg q, if_neg q]
  have o41 : ok_Mo_load_41 o tq now dr iS rT wT := by
    unfold ok_Mo_load_41 ok_Mo_load_54 ok_Mo_load_81
    simp only [lettn]
    exact ⟨fun _ => ⟨fun _ => (load82 _ _).2, fun _ => ⟨fun _ => (load82 _ _).2, fun _ => (load82 _ _).2⟩⟩, fun _ => ⟨fun _ => (load82 _ _).2, fun _ => ⟨fun _ => (load82 _ _).2, fun _ => (load82 _ _).2⟩⟩⟩
  refine ⟨o41, ?_⟩
  -- where an error stands already, nothing more comes
  have bad : ∀ (x y : IV), TX B n st x tb y bu → ¬ x 5 = 0 → (∀ c : Int32, sp_Mo_must c 4 y = y) := fun x y hx hx5 c => by
    by_cases w : c = 0
    · rw [w]; exact tx_err_same hx hx5 4
    · exact must_1 w
  have e54 : ∀ (c : Int32) (y : IV), sp_Mo_must c 1 o = y → (∀ c : Int32, sp_Mo_must c 4 y = y) → sp_Mo_load_54 o tq now dr iS rT wT c = loadEnd y now dr iS tq rT wT := fun c y hy hm => by
    unfold sp_Mo_load_54 sp_Mo_load_81
    simp only [lettn]
    rw [hy, (load82 y 0).1, (load82 y 1).1, hm, hm, ite_self, ite_self]
  by_cases h5 : t 5 = 0
  · obtain ⟨hT, hF, hD⟩ := hd h5
    have k2 := (tx_kind h h5).2.1
    by_cases q : t 2 = 0
    · have f0 := hF 0 (by decide)
      have f1 := hF 1 (by decide)
      have m0 : mk 0 = 1 := rfl
      have m1 : mk 1 = 2 := rfl
      rw [m0, show Fg tq rT wT 0 = tq 0 from rfl] at f0
      rw [m1, show Fg tq rT wT 1 = tq 1 from rfl] at f1
      obtain ⟨x1, x2, x3, -⟩ := fail_TX h (c := 4) (by decide)
      unfold sp_Su_understood_61 sp_Su_understood_100 sp_Mo_load_41 sp_Mo_load_54 sp_Mo_load_81
      simp only [lettn]
      rw [if_pos q, if_pos (k2.mpr q), must_1 (p := 1) (by decide), (load82 o 0).1, (load82 o 1).1, must_1 (p := 1) (by decide), e108, e108]
      by_cases u0 : tq 0 = 0
      · rw [if_pos (f0.mpr u0), if_pos u0]
        exact ⟨_, _, rfl, rfl, x1, x3, fun w => absurd w x2⟩
      · rw [if_neg (fun w => u0 (f0.mp w)), if_neg u0]
        by_cases u1 : tq 1 = 0
        · rw [if_pos (f1.mpr u1), if_pos u1]
          exact ⟨_, _, rfl, rfl, x1, x3, fun w => absurd w x2⟩
        · rw [if_neg (fun w => u1 (f1.mp w)), if_neg u1]
          refine ⟨_, _, rfl, rfl, h, frt_rf o, fun w => drx_mono (hD w) fun k _ z => ?_⟩
          rcases z with ⟨-, z⟩ | ⟨-, z⟩
          · exact u0 z
          · exact u1 z
    · obtain ⟨x1, x2, x3, -⟩ := fail_TX h (c := 1) (by decide)
      unfold sp_Su_understood_61 sp_Mo_load_41
      simp only [lettn]
      rw [if_neg q, if_neg (fun w => q (k2.mp w)), e54 0 _ rfl (bad _ _ x1 x2), e108]
      exact ⟨_, _, rfl, rfl, x1, x3, fun w => absurd w x2⟩
  · obtain ⟨x1, x2, x3, x4⟩ := fail_TX h (c := 1) (by decide)
    obtain ⟨x5, x6⟩ := x4 h5
    have q : ¬ t 2 = 0 := by rw [tx_err h h5]; decide
    have em : ∀ c : Int32, sp_Mo_must c 1 o = o := fun c => by
      by_cases w : c = 0
      · rw [w]; exact x6
      · exact must_1 w
    unfold sp_Su_understood_61 sp_Mo_load_41
    simp only [lettn]
    rw [if_neg q, x5, e54 0 o (em 0) (bad _ _ h h5), e54 1 o (em 1) (bad _ _ h h5), ite_self, e108]
    exact ⟨_, _, rfl, rfl, h, frt_rf o, fun w => absurd w h5⟩
/-- both read a setup -/
theorem setup_R (h : BufR B n t tb o bu) : ok_Su_understood su t tb d0 d1 d2 d3 d4 ∧ ok_Mo_load o now dr iS bu tq rT wT ∧ ∃ (st' : Nat) (su' t' e0 e1 e2 e3 e4 o' tq' rT' wT' : IV) (dr' : LV),
    sp_Su_understood su t tb d0 d1 d2 d3 d4 = ((if t' 5 = 0 then 1 else 0), su', t', e0, e1, e2, e3, e4) ∧ sp_Mo_load o now dr iS bu tq rT wT = loadEnd o' now dr' iS tq' rT' wT' ∧ TX B n st' t' tb o' bu ∧ FrT (upd o 6 0) o' ∧ (t' 5 = 0 → DrX (fun _ => False) e0 e1 e2 e3 e4 dr') := by
  have hB : BufR B n t tb (upd o 6 0) bu := buf_o h (un (by decide))
  obtain ⟨a1, a2, s1, a3, a4, a5⟩ := begin_TX hB
  obtain ⟨b1, b2⟩ := clear_R (d0 := d0) (d1 := d1) (d2 := d2) (d3 := d3) (d4 := d4)
  obtain ⟨c1, c2⟩ := plain_R (dr := dr)
  obtain ⟨e1, e2, e3, e4⟩ := forget_R (su := su) (tq := tq) (rT := rT) (wT := wT)
  have pC : ∀ k, k < 29 → k ≠ 0 → k ≠ 1 → k ≠ 12 → (plC k).toInt = (plM k).toInt ∧ rLo k ≤ (plM k).toInt ∧ (plM k).toInt ≤ rHi 0 k := by decide +kernel
  generalize hY : sp_Pa_clear d0 d1 d2 d3 d4 = Y at b2
  generalize hZ : sp_Mo_forgetTold tq rT wT = Z at e2 e3 e4
  generalize hR : sp_Mo_setPlain dr = R at c2
  have hS : SR B n s1 (upd su 2 0) (sp_Te_begin t tb) tb Y.1 Y.2.1 Y.2.2.1 Y.2.2.2.1 Y.2.2.2.2 (sp_Mo_startText (upd o 6 0) bu) bu Z.1 Z.2.1 Z.2.2 R := ⟨a3, e2, fun _ => ⟨fun k hk hX => by
    rw [b2 k hk, c2 k (by omega)]
    refine pC k hk (fun w => hX (Or.inl ⟨Or.inl w, e3⟩)) (fun w => hX (Or.inl ⟨Or.inr w, e3⟩)) (fun w => hX (Or.inr ⟨w, e4⟩)), fun k h1 h2 => by
    rw [c2 k h2]
    unfold plM
    rw [if_neg (by omega), if_neg (by omega), if_neg (by omega), if_neg (by omega)]⟩⟩
  obtain ⟨r1, r2, s2, r3, r4, r5, r6⟩ := statement_TX hS
  generalize hP : sp_Su_takeStatement (upd su 2 0) (sp_Te_begin t tb) tb Y.1 Y.2.1 Y.2.2.1 Y.2.2.2.1 Y.2.2.2.2 = P at r4 r6
  generalize hQ : sp_Mo_readStatement (sp_Mo_startText (upd o 6 0) bu) R bu Z.1 Z.2.1 Z.2.2 = Q at r4 r5 r6
  obtain ⟨i1, s3, su', t', f0, f1, f2, f3, f4, o', tq', rT', wT', dr', i2, i3, i4, i5, i6, i7⟩ := und_loop (now := now) (iS := iS) 600 big big 0 s2 P.1 P.2.1 P.2.2.1 P.2.2.2.1 P.2.2.2.2.1 P.2.2.2.2.2.1 P.2.2.2.2.2.2 Q.1 Q.2.2.1 Q.2.2.2.1 Q.2.2.2.2 Q.2.1 (by decide) (by rw [big_eq]; decide) (by rw [big_eq]; decide) r4 (fun w => ⟨r6 w, Nat.zero_le _⟩)
  obtain ⟨j1, t2, o2, j2, j3, j4, j5, j6⟩ := und_end (now := now) (iS := iS) i5 i7
  have oC : ok_Su_understood su t tb d0 d1 d2 d3 d4 := by
    unfold ok_Su_understood
    simp only [lettn]
    rw [hY, hP]
    exact ⟨b1, a1, r1, i1⟩
  have oM : ok_Mo_load o now dr iS bu tq rT wT := by
    unfold ok_Mo_load
    simp only [lettn]
    rw [hR, hZ, hQ]
    exact ⟨a2, c1, e1, r2, i4 j1⟩
  refine ⟨oC, oM, s3, su', t2, f0, f1, f2, f3, f4, o2, tq', rT', wT', dr', ?_, ?_, j4, frt_tr a4 (frt_tr r5 (frt_tr i6 j5)), j6⟩
  · unfold sp_Su_understood
    simp only [lettn]
    rw [hY, hP]
    exact i2.trans j2
  · unfold sp_Mo_load
    simp only [lettn]
    rw [hR, hZ, hQ]
    exact i3.trans j3
end TKN
