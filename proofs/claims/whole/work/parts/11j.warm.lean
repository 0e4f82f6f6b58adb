section TKJ
variable {B : Nat → Nat} {n st : Nat} {t tb o bu : IV} {su d0 d1 d2 d3 d4 tq rT wT : IV} {dr : LV} {X : Nat → Prop}
/-! ===== warm, box ===== -/
theorem fg6 {i : Nat} (hi : i < 2) : Fg tq rT wT (6 + i) = wT i := by
  unfold Fg
  rw [if_neg (by omega), if_pos (by omega)]
  congr 1; omega
theorem fg6_set (hf : FlR su tq rT wT) {i : Nat} (hi : i < 2) : FlR (upd su 2 (su 2 ||| mk (6 + i))) tq rT (upd wT i 1) := flr_set hf (by omega) (by rw [fg6 hi, us]; decide) (fun j hj q => by
  unfold Fg
  by_cases w : j < 6
  · rw [if_pos w, if_pos w]
  · rw [if_neg w, if_neg w]
    by_cases w2 : j < 8
    · rw [if_pos w2, if_pos w2, un (by omega)]
    · rw [if_neg w2, if_neg w2])
/-- the part that is told but once -/
theorem onceW (h : TX B n st t tb o bu) (hf : FlR su tq rT wT) {i : Nat} (hi : i < 2) {m x : Int32} (hm : m = mk (6 + i)) (hx : (wT i = 0 ∧ ¬ x = 0) ∨ (¬ wT i = 0 ∧ x = 0)) : ok_Su_takeOnce m su t tb ∧ ok_Mo_goOn (sp_Mo_must x 3 o) bu ∧ ∃ st', st ≤ st' ∧ TX B n st' (sp_Su_takeOnce m su t tb).2 tb (sp_Mo_goOn (sp_Mo_must x 3 o) bu) bu ∧ FrT o (sp_Mo_goOn (sp_Mo_must x 3 o) bu) ∧
    FlR (sp_Su_takeOnce m su t tb).1 tq rT (upd wT i 1) ∧ ((sp_Su_takeOnce m su t tb).2 5 = 0 → t 5 = 0) := by
  subst hm
  have hfi : (su 2 &&& mk (6 + i) = 0) ↔ wT i = 0 := by
    have := hf (6 + i) (by omega)
    rw [fg6 hi] at this
    exact this
  have hset := fg6_set hf hi
  unfold sp_Su_takeOnce ok_Su_takeOnce sp_Su_takeOnce_17 ok_Su_takeOnce_17
  simp only [lettn]
  rcases hx with ⟨q, qx⟩ | ⟨q, qx⟩
  · have qs := hfi.mpr q
    obtain ⟨g1, g2, st', g3, g4, g5, g6, g7⟩ := goOn_TX h
    rw [if_pos qs, must_1 qx]
    exact ⟨⟨fun _ => ⟨g1, trivial⟩, fun w => absurd qs w⟩, g2, st', g3, g4, g5, hset, fun w => Decidable.byContradiction fun z => z (by rw [(g7 z).1] at w; exact w)⟩
  · have qs : ¬ (su 2 &&& mk (6 + i) = 0) := fun w => q (hfi.mp w)
    subst qx
    obtain ⟨f1, f2, f3, f4⟩ := fail_TX h (c := 3) (by decide)
    obtain ⟨g1, g2, st', g3, g4, g5, g6, g7⟩ := goOn_TX f1
    rw [if_neg qs]
    exact ⟨⟨fun w => absurd w qs, fun _ => ⟨g1, trivial⟩⟩, g2, st', g3, g4, frt_tr f3 g5, hset, fun w => absurd (by rw [(g7 f2).1] at w; exact w) f2⟩
theorem warm3 (h : TX B n st t tb o bu) (hd : t 5 = 0 → DrX X d0 d1 d2 d3 d4 dr) :
    (ok_Te_number (-4000) 4000 t tb ∧ ok_Te_number 0 999 (sp_Te_number (-4000) 4000 t tb).2 tb ∧ ok_Te_number 0 99 (sp_Te_number 0 999 (sp_Te_number (-4000) 4000 t tb).2 tb).2 tb) ∧ (∀ w, ok_Mo_readWarm_93 o bu dr w 13) ∧ ∃ st', st ≤ st' ∧
    (∀ w, (sp_Mo_readWarm_93 o bu dr w 13).2.2 = w) ∧ (∀ w, TX B n st' (sp_Te_number 0 99 (sp_Te_number 0 999 (sp_Te_number (-4000) 4000 t tb).2 tb).2 tb).2 tb (sp_Mo_readWarm_93 o bu dr w 13).1 bu ∧ FrT o (sp_Mo_readWarm_93 o bu dr w 13).1 ∧
      ((sp_Te_number 0 99 (sp_Te_number 0 999 (sp_Te_number (-4000) 4000 t tb).2 tb).2 tb).2 5 = 0 → DrX X d0 d1 d2 (upd (upd (upd d3 0 (sp_Te_number (-4000) 4000 t tb).1) 1 (sp_Te_number 0 999 (sp_Te_number (-4000) 4000 t tb).2 tb).1) 2 (sp_Te_number 0 99 (sp_Te_number 0 999 (sp_Te_number (-4000) 4000 t tb).2 tb).2 tb).1) d4 (sp_Mo_readWarm_93 o bu dr w 13).2.1)) := by
  obtain ⟨b1, b2, s2, b3, b4, b5, b6, b7⟩ := sgnset3 (d0 := d0) (d1 := d1) (d2 := d2) (d3 := d3) (d4 := d4) h hd (k := 13) (j := 0) (by decide) rfl rfl (p1 := -4000) (p2 := 4000) (q1 := -4000) (q2 := 4000) rfl rfl rfl rfl (by decide) (by decide) (by decide)
  obtain ⟨c1, c2, s3, c3, c4, c5, c6, c7⟩ := numset3 b4 b7 (k := 14) (j := 1) (by decide) rfl rfl (p1 := 0) (p2 := 999) (q1 := 0) (q2 := 999) rfl rfl rfl rfl (by decide) (by decide) (by decide)
  obtain ⟨e1, e2, s4, e3, e4, e5, e6, e7⟩ := numset3 c4 c7 (k := 15) (j := 2) (by decide) rfl rfl (p1 := 0) (p2 := 99) (q1 := 0) (q2 := 99) rfl rfl rfl rfl (by decide) (by decide) (by decide)
  have z0 : (13 : Int32) + (0 : Int32) = nI 13 := by decide
  have z1 : (13 : Int32) + (1 : Int32) = nI 14 := by decide
  have z2 : (13 : Int32) + (2 : Int32) = nI 15 := by decide
  unfold ok_Mo_readWarm_93 sp_Mo_readWarm_93
  simp only [lettn]
  rw [z0, z1, z2, cl_nI (by decide), cl_nI (by decide), cl_nI (by decide)]
  exact ⟨⟨b1, c1, e1⟩, fun w => ⟨b2, vp_nI (by decide) (by decide), c2, vp_nI (by decide) (by decide), e2, vp_nI (by decide) (by decide), trivial⟩, s4, Nat.le_trans b3 (Nat.le_trans c3 e3), fun w => trivial, fun w => ⟨e4, frt_tr b5 (frt_tr c5 e5), fun q => drx_mono (e7 q) fun k _ u => u.1.1.1⟩⟩
theorem warm4 (h : TX B n st t tb o bu) (hd : t 5 = 0 → DrX X d0 d1 d2 d3 d4 dr) :
    (ok_Te_number (-4000) 4000 t tb ∧ ok_Te_number 0 999 (sp_Te_number (-4000) 4000 t tb).2 tb ∧ ok_Te_number 0 99 (sp_Te_number 0 999 (sp_Te_number (-4000) 4000 t tb).2 tb).2 tb) ∧ (∀ w, ok_Mo_readWarm_93 o bu dr w 16) ∧ ∃ st', st ≤ st' ∧
    (∀ w, (sp_Mo_readWarm_93 o bu dr w 16).2.2 = w) ∧ (∀ w, TX B n st' (sp_Te_number 0 99 (sp_Te_number 0 999 (sp_Te_number (-4000) 4000 t tb).2 tb).2 tb).2 tb (sp_Mo_readWarm_93 o bu dr w 16).1 bu ∧ FrT o (sp_Mo_readWarm_93 o bu dr w 16).1 ∧
      ((sp_Te_number 0 99 (sp_Te_number 0 999 (sp_Te_number (-4000) 4000 t tb).2 tb).2 tb).2 5 = 0 → DrX X d0 d1 d2 d3 (upd (upd (upd d4 0 (sp_Te_number (-4000) 4000 t tb).1) 1 (sp_Te_number 0 999 (sp_Te_number (-4000) 4000 t tb).2 tb).1) 2 (sp_Te_number 0 99 (sp_Te_number 0 999 (sp_Te_number (-4000) 4000 t tb).2 tb).2 tb).1) (sp_Mo_readWarm_93 o bu dr w 16).2.1)) := by
  obtain ⟨b1, b2, s2, b3, b4, b5, b6, b7⟩ := sgnset4 (d0 := d0) (d1 := d1) (d2 := d2) (d3 := d3) (d4 := d4) h hd (k := 16) (j := 0) (by decide) rfl rfl (p1 := -4000) (p2 := 4000) (q1 := -4000) (q2 := 4000) rfl rfl rfl rfl (by decide) (by decide) (by decide)
  obtain ⟨c1, c2, s3, c3, c4, c5, c6, c7⟩ := numset4 b4 b7 (k := 17) (j := 1) (by decide) rfl rfl (p1 := 0) (p2 := 999) (q1 := 0) (q2 := 999) rfl rfl rfl rfl (by decide) (by decide) (by decide)
  obtain ⟨e1, e2, s4, e3, e4, e5, e6, e7⟩ := numset4 c4 c7 (k := 18) (j := 2) (by decide) rfl rfl (p1 := 0) (p2 := 99) (q1 := 0) (q2 := 99) rfl rfl rfl rfl (by decide) (by decide) (by decide)
  have z0 : (16 : Int32) + (0 : Int32) = nI 16 := by decide
  have z1 : (16 : Int32) + (1 : Int32) = nI 17 := by decide
  have z2 : (16 : Int32) + (2 : Int32) = nI 18 := by decide
  unfold ok_Mo_readWarm_93 sp_Mo_readWarm_93
  simp only [lettn]
  rw [z0, z1, z2, cl_nI (by decide), cl_nI (by decide), cl_nI (by decide)]
  exact ⟨⟨b1, c1, e1⟩, fun w => ⟨b2, vp_nI (by decide) (by decide), c2, vp_nI (by decide) (by decide), e2, vp_nI (by decide) (by decide), trivial⟩, s4, Nat.le_trans b3 (Nat.le_trans c3 e3), fun w => trivial, fun w => ⟨e4, frt_tr b5 (frt_tr c5 e5), fun q => drx_mono (e7 q) fun k _ u => u.1.1.1⟩⟩
/-- how a resistor warms up -/
theorem st_warm (h : SR B n st su t tb d0 d1 d2 d3 d4 o bu tq rT wT dr) :
    ok_Su_takeWarm su t tb d3 d4 ∧ ok_Mo_readWarm o dr bu wT ∧ ∃ st', st ≤ st' ∧
      SR B n st' (sp_Su_takeWarm su t tb d3 d4).1 (sp_Su_takeWarm su t tb d3 d4).2.1 tb d0 d1 d2 (sp_Su_takeWarm su t tb d3 d4).2.2.1 (sp_Su_takeWarm su t tb d3 d4).2.2.2 (sp_Mo_readWarm o dr bu wT).1 bu tq rT (sp_Mo_readWarm o dr bu wT).2.2 (sp_Mo_readWarm o dr bu wT).2.1 ∧ FrT o (sp_Mo_readWarm o dr bu wT).1 := by
  obtain ⟨h1, h2, h3⟩ := h
  obtain ⟨g1, g2, s1, g3, g4, g5, g6, g7⟩ := goOn_TX h1
  have hgood : sp_Te_advance t tb 5 = 0 → t 5 = 0 := fun w => Decidable.byContradiction fun z => z (by rw [(g7 z).1] at w; exact w)
  generalize ht2 : sp_Te_advance t tb = t2 at *
  generalize ho2 : sp_Mo_goOn o bu = o2 at *
  obtain ⟨w1, w2, w3, w4, w5⟩ := isWord_TX g4 (w := 0) (by decide)
  obtain ⟨v1, v2, v3, v4, v5⟩ := isWord_TX g4 (w := 2) (by decide)
  -- both behind the two words
  have tail : ∀ (s : Nat) (tp op : IV), TX B n s tp tb op bu → (tp 5 = 0 → t2 5 = 0) → ∀ y4 : Int32,
      ok_Su_takeWarm_41 y4 su tb d3 d4 tp ∧ ((y4 = 0 → ok_Mo_readWarm_50 wT op y4 bu dr 0) ∧ (¬ y4 = 0 → ok_Mo_readWarm_50 wT op y4 bu dr 1)) ∧ ∃ st', s ≤ st' ∧
      SR B n st' (sp_Su_takeWarm_41 y4 su tb d3 d4 tp).1 (sp_Su_takeWarm_41 y4 su tb d3 d4 tp).2.1 tb d0 d1 d2 (sp_Su_takeWarm_41 y4 su tb d3 d4 tp).2.2.1 (sp_Su_takeWarm_41 y4 su tb d3 d4 tp).2.2.2 (if y4 = 0 then sp_Mo_readWarm_50 wT op y4 bu dr 0 else sp_Mo_readWarm_50 wT op y4 bu dr 1).1 bu tq rT (if y4 = 0 then sp_Mo_readWarm_50 wT op y4 bu dr 0 else sp_Mo_readWarm_50 wT op y4 bu dr 1).2.2 (if y4 = 0 then sp_Mo_readWarm_50 wT op y4 bu dr 0 else sp_Mo_readWarm_50 wT op y4 bu dr 1).2.1 ∧ FrT op (if y4 = 0 then sp_Mo_readWarm_50 wT op y4 bu dr 0 else sp_Mo_readWarm_50 wT op y4 bu dr 1).1 := by
    intro s tp op hT hg y4
    by_cases q : y4 = 0
    · have hx : (wT 0 = 0 ∧ ¬ (if wT 0 = 0 then (1 : Int32) else 0) = 0) ∨ (¬ wT 0 = 0 ∧ (if wT 0 = 0 then (1 : Int32) else 0) = 0) := by
        by_cases u : wT 0 = 0
        · exact Or.inl ⟨u, by rw [if_pos u]; decide⟩
        · exact Or.inr ⟨u, if_neg u⟩
      obtain ⟨a1, a2, s2, a3, a4, a5, a6, a7⟩ := onceW hT h2 (i := 0) (by decide) (m := 64) rfl hx
      obtain ⟨b1, b2, s3, b3, b4, b5⟩ := warm3 (d0 := d0) (d1 := d1) (d2 := d2) (d3 := d3) (d4 := d4) (dr := dr) (X := XF tq) a4 (fun w => h3 (hgood (hg (a7 w))))
      have eM : sp_Mo_readWarm_50 wT op y4 bu dr 0 = sp_Mo_readWarm_93 (sp_Mo_goOn (sp_Mo_must (if wT 0 = 0 then (1 : Int32) else 0) 3 op) bu) bu dr (upd wT 0 1) 13 := by
        unfold sp_Mo_readWarm_50 sp_Mo_readWarm_59 sp_Mo_readWarm_76
        simp only [lettn]
        rw [show (0 : Int32).toNatClampNeg = 0 from rfl, nar1]
        by_cases u : wT 0 = 0
        · rw [if_pos u, if_pos u, if_pos q, if_pos q]
        · rw [if_neg u, if_neg u, if_pos q, if_pos q]
      have oM : ok_Mo_readWarm_50 wT op y4 bu dr 0 := by
        unfold ok_Mo_readWarm_50 ok_Mo_readWarm_59 ok_Mo_readWarm_76
        simp only [lettn]
        rw [show (0 : Int32).toNatClampNeg = 0 from rfl, nar1]
        refine ⟨vp_nI (a := 0) (by decide) (by decide), fun u => ⟨fun _ => ⟨vp_nI (a := 0) (by decide) (by decide), ?_, fun _ => ?_, fun w => absurd q w⟩, fun w => absurd q w⟩, fun u => ⟨fun _ => ⟨vp_nI (a := 0) (by decide) (by decide), ?_, fun _ => ?_, fun w => absurd q w⟩, fun w => absurd q w⟩⟩
        · rw [if_pos u] at a2; exact a2
        · have := b2 (upd wT 0 1); rw [if_pos u] at this; exact this
        · rw [if_neg u] at a2; exact a2
        · have := b2 (upd wT 0 1); rw [if_neg u] at this; exact this
      obtain ⟨c1, c2, c3⟩ := b5 (upd wT 0 1)
      rw [if_pos q, eM]
      unfold sp_Su_takeWarm_41 ok_Su_takeWarm_41 sp_Su_takeWarm_54 ok_Su_takeWarm_54
      simp only [lettn]
      rw [if_pos q, if_pos q, b4]
      dsimp only
      exact ⟨⟨fun _ => ⟨a1, fun _ => ⟨b1.1, b1.2.1, b1.2.2, trivial⟩, fun w => absurd q w⟩, fun w => absurd q w⟩, ⟨fun _ => oM, fun w => absurd q w⟩, s3, Nat.le_trans a3 b3, ⟨c1, a6, c3⟩, frt_tr a5 c2⟩
    · have hx : (wT 1 = 0 ∧ ¬ (if wT 1 = 0 then (1 : Int32) else 0) = 0) ∨ (¬ wT 1 = 0 ∧ (if wT 1 = 0 then (1 : Int32) else 0) = 0) := by
        by_cases u : wT 1 = 0
        · exact Or.inl ⟨u, by rw [if_pos u]; decide⟩
        · exact Or.inr ⟨u, if_neg u⟩
      obtain ⟨a1, a2, s2, a3, a4, a5, a6, a7⟩ := onceW hT h2 (i := 1) (by decide) (m := 128) rfl hx
      obtain ⟨b1, b2, s3, b3, b4, b5⟩ := warm4 (d0 := d0) (d1 := d1) (d2 := d2) (d3 := d3) (d4 := d4) (dr := dr) (X := XF tq) a4 (fun w => h3 (hgood (hg (a7 w))))
      have eM : sp_Mo_readWarm_50 wT op y4 bu dr 1 = sp_Mo_readWarm_93 (sp_Mo_goOn (sp_Mo_must (if wT 1 = 0 then (1 : Int32) else 0) 3 op) bu) bu dr (upd wT 1 1) 16 := by
        unfold sp_Mo_readWarm_50 sp_Mo_readWarm_59 sp_Mo_readWarm_76
        simp only [lettn]
        rw [show (1 : Int32).toNatClampNeg = 1 from rfl, nar1]
        by_cases u : wT 1 = 0
        · rw [if_pos u, if_pos u, if_neg q, if_neg q]
        · rw [if_neg u, if_neg u, if_neg q, if_neg q]
      have oM : ok_Mo_readWarm_50 wT op y4 bu dr 1 := by
        unfold ok_Mo_readWarm_50 ok_Mo_readWarm_59 ok_Mo_readWarm_76
        simp only [lettn]
        rw [show (1 : Int32).toNatClampNeg = 1 from rfl, nar1]
        refine ⟨vp_nI (a := 1) (by decide) (by decide), fun u => ⟨fun w => absurd w q, fun _ => ⟨vp_nI (a := 1) (by decide) (by decide), ?_, fun w => absurd w q, fun _ => ?_⟩⟩, fun u => ⟨fun w => absurd w q, fun _ => ⟨vp_nI (a := 1) (by decide) (by decide), ?_, fun w => absurd w q, fun _ => ?_⟩⟩⟩
        · rw [if_pos u] at a2; exact a2
        · have := b2 (upd wT 1 1); rw [if_pos u] at this; exact this
        · rw [if_neg u] at a2; exact a2
        · have := b2 (upd wT 1 1); rw [if_neg u] at this; exact this
      obtain ⟨c1, c2, c3⟩ := b5 (upd wT 1 1)
      rw [if_neg q, eM]
      unfold sp_Su_takeWarm_41 ok_Su_takeWarm_41 sp_Su_takeWarm_54 ok_Su_takeWarm_54
      simp only [lettn]
      rw [if_neg q, if_neg q, b4]
      dsimp only
      exact ⟨⟨fun w => absurd w q, fun _ => ⟨a1, fun w => absurd w q, fun _ => ⟨b1.1, b1.2.1, b1.2.2, trivial⟩⟩⟩, ⟨fun w => absurd w q, fun _ => oM⟩, s3, Nat.le_trans a3 b3, ⟨c1, a6, c3⟩, frt_tr a5 c2⟩
  unfold sp_Su_takeWarm ok_Su_takeWarm sp_Mo_readWarm ok_Mo_readWarm sp_Mo_readWarm_27 ok_Mo_readWarm_27 sp_Mo_readWarm_32 ok_Mo_readWarm_32
  simp only [lettn]
  rw [ht2, ho2, w3, v3]
  by_cases q : sp_Te_isWord 0 t2 tb = 0
  · by_cases q2 : sp_Te_isWord 2 t2 tb = 0
    · obtain ⟨f1, f2, f3, f4⟩ := fail_TX g4 (c := 1) (by decide)
      obtain ⟨r1, ⟨r2, -⟩, s2, r3, r4, r5⟩ := tail s1 _ _ f1 (fun w => absurd w f2) (sp_Te_isWord 0 t2 tb)
      rw [if_pos q, if_pos q, if_pos q2, if_pos q2]
      exact ⟨⟨g1, w2, fun _ => ⟨v2, fun _ => r1, fun w => absurd q2 w⟩, fun w => absurd q w⟩, ⟨g2, w1, fun _ => ⟨v1, fun _ => ⟨r2, fun w => absurd q w⟩, fun w => absurd q2 w⟩, fun w => absurd q w⟩, s2, Nat.le_trans g3 r3, r4, frt_tr g5 (frt_tr f3 r5)⟩
    · obtain ⟨r1, ⟨r2, -⟩, s2, r3, r4, r5⟩ := tail s1 _ _ g4 (fun w => w) (sp_Te_isWord 0 t2 tb)
      rw [if_pos q, if_pos q, if_neg q2, if_neg q2, must_1 (p := 1) (by decide)]
      exact ⟨⟨g1, w2, fun _ => ⟨v2, fun w => absurd w q2, fun _ => r1⟩, fun w => absurd q w⟩, ⟨g2, w1, fun _ => ⟨v1, fun w => absurd w q2, fun _ => ⟨r2, fun w => absurd q w⟩⟩, fun w => absurd q w⟩, s2, Nat.le_trans g3 r3, r4, frt_tr g5 r5⟩
  · obtain ⟨r1, ⟨-, r2⟩, s2, r3, r4, r5⟩ := tail s1 _ _ g4 (fun w => w) (sp_Te_isWord 0 t2 tb)
    rw [if_neg q, if_neg q, must_1 (p := 1) (by decide)]
    exact ⟨⟨g1, w2, fun w => absurd w q, fun _ => r1⟩, ⟨g2, w1, fun w => absurd w q, fun _ => ⟨fun w => absurd w q, r2⟩⟩, s2, Nat.le_trans g3 r3, r4, frt_tr g5 r5⟩
end TKJ
