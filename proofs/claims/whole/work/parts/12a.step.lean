section TPA
variable {B : Nat → Nat} {n st : Nat} {t tb o bu pf ps : IV}
/-! ===== a protocol's steps: the order and its numbers ===== -/
theorem wordOf_c : ∀ x, x < 10 → sp_Pr_wordOf (nI x) = x + 8 := by decide +kernel
theorem order_loop (h : TX B n st t tb o bu) : ∀ (m f1 f2 x : Nat), x + m = 10 → m < f1 → m < f2 → ok_Pr_orderHere_2 t tb f1 (nI x) ∧ ok_Mo_stepHere_2 o bu f2 (nI x) ∧ sp_Mo_stepHere_2 o bu f2 (nI x) = sp_Pr_orderHere_2 t tb f1 (nI x) ∧ (sp_Pr_orderHere_2 t tb f1 (nI x) = -1 ∨ ∃ w, w < 10 ∧ sp_Pr_orderHere_2 t tb f1 (nI x) = nI w ∧ t 5 = 0 ∧ t 2 = (97 : Int32))
  | m, 0, _, _, _, hf, _ => absurd hf (by omega)
  | m, _, 0, _, _, _, hf => absurd hf (by omega)
  | 0, f1 + 1, f2 + 1, x, hx, _, _ => by
    have c1 : (9 : Int32) < nI x := by rw [show (9 : Int32) = nI 9 from rfl, nzlt (by omega) (by omega)]; omega
    have c2 : (10 : Int32) ≤ nI x := by rw [show (10 : Int32) = nI 10 from rfl, nzle (by omega) (by omega)]; omega
    have e1 : sp_Pr_orderHere_2 t tb (f1 + 1) (nI x) = -1 := by
      show bd_Pr_orderHere_2 _ _ _ _ = _
      unfold bd_Pr_orderHere_2
      rw [if_pos c1]
    have e2 : sp_Mo_stepHere_2 o bu (f2 + 1) (nI x) = -1 := by
      show bd_Mo_stepHere_2 _ _ _ _ = _
      unfold bd_Mo_stepHere_2
      rw [if_pos c2]
    refine ⟨?_, ?_, by rw [e1, e2], Or.inl e1⟩
    · show okb_Pr_orderHere_2 _ _ _ _ _
      unfold okb_Pr_orderHere_2
      exact ⟨fun _ => trivial, fun w => absurd c1 w⟩
    · show okb_Mo_stepHere_2 _ _ _ _ _
      unfold okb_Mo_stepHere_2
      exact ⟨fun _ => trivial, fun w => absurd c2 w⟩
  | m + 1, f1 + 1, f2 + 1, x, hx, hf1, hf2 => by
    have c1 : ¬ (9 : Int32) < nI x := by rw [show (9 : Int32) = nI 9 from rfl, nzlt (by omega) (by omega)]; omega
    have c2 : ¬ (10 : Int32) ≤ nI x := by rw [show (10 : Int32) = nI 10 from rfl, nzle (by omega) (by omega)]; omega
    obtain ⟨w1, w2, w3, w4, w5⟩ := isWord_TX h (w := x + 8) (by omega)
    obtain ⟨i1, i2, i3, i4⟩ := order_loop h m f1 f2 (x + 1) (by omega) (by omega) (by omega)
    have ew := wordOf_c x (by omega)
    have e1 : sp_Pr_orderHere_2 t tb (f1 + 1) (nI x) = if sp_Te_isWord (x + 8) t tb = 0 then sp_Pr_orderHere_2 t tb f1 (nI (x + 1)) else nI x := by
      show bd_Pr_orderHere_2 _ _ _ _ = _
      unfold bd_Pr_orderHere_2
      simp only [lettn]
      rw [if_neg c1, ew, nzadd1 x (by omega)]
    have e2 : sp_Mo_stepHere_2 o bu (f2 + 1) (nI x) = if sp_Te_isWord (x + 8) t tb = 0 then sp_Mo_stepHere_2 o bu f2 (nI (x + 1)) else nI x := by
      show bd_Mo_stepHere_2 _ _ _ _ = _
      unfold bd_Mo_stepHere_2
      simp only [lettn]
      rw [if_neg c2, cl_nI (by omega), w3, nzadd1 x (by omega)]
    refine ⟨?_, ?_, by rw [e1, e2, i3], ?_⟩
    · show okb_Pr_orderHere_2 _ _ _ _ _
      unfold okb_Pr_orderHere_2
      simp only [lettn]
      rw [ew, nzadd1 x (by omega)]
      exact ⟨fun w => absurd w c1, fun _ => ⟨w2, fun _ => i1, fun _ => trivial⟩⟩
    · show okb_Mo_stepHere_2 _ _ _ _ _
      unfold okb_Mo_stepHere_2
      simp only [lettn]
      rw [cl_nI (by omega), nzadd1 x (by omega)]
      exact ⟨fun w => absurd w c2, fun _ => ⟨vp_nI (by omega) (by decide), w1, fun _ => i2, fun _ => trivial⟩⟩
    · rw [e1]
      by_cases q : sp_Te_isWord (x + 8) t tb = 0
      · rw [if_pos q]; exact i4
      · rw [if_neg q]; exact Or.inr ⟨x, by omega, rfl, w5 q⟩
theorem order_TX (h : TX B n st t tb o bu) : ok_Pr_orderHere t tb ∧ ok_Mo_stepHere o bu ∧ sp_Mo_stepHere o bu = sp_Pr_orderHere t tb ∧ (sp_Pr_orderHere t tb = -1 ∨ ∃ w, w < 10 ∧ sp_Pr_orderHere t tb = nI w ∧ t 5 = 0 ∧ t 2 = (97 : Int32)) :=
  order_loop h 10 big big 0 (by decide) (by rw [big_eq]; decide) (by rw [big_eq]; decide)
/-- a word that may stand here is taken -/
theorem takes_TX (h : TX B n st t tb o bu) {w : Nat} (hw : w < 20) : ok_Mo_takes w o bu ∧ sp_Mo_takes w o bu = if sp_Te_isWord w t tb = 0 then (0, o) else (1, sp_Mo_goOn o bu) := by
  obtain ⟨w1, w2, w3, w4, w5⟩ := isWord_TX h hw
  obtain ⟨g1, g2, s1, g3, g4, g5, g6, g7⟩ := goOn_TX h
  unfold ok_Mo_takes sp_Mo_takes
  simp only [lettn]
  rw [w3]
  by_cases q : sp_Te_isWord w t tb = 0
  · rw [if_pos q, if_pos q, q]
    exact ⟨⟨w1, fun _ => ⟨Or.inl rfl, trivial⟩, fun z => absurd rfl z⟩, rfl⟩
  · obtain ⟨h5, -⟩ := w5 q
    obtain ⟨g8, g9, g10, g11⟩ := g6 h5
    have q1 : sp_Te_isWord w t tb = 1 := w4.elim (fun z => absurd z q) id
    rw [if_neg q, if_neg q, q1, g9]
    exact ⟨⟨w1, fun z => absurd z (by decide), fun _ => ⟨g10, Or.inr rfl, trivial⟩⟩, rfl⟩
/-- a number, as an int on both sides -/
theorem num32_TX (h : TX B n st t tb o bu) {p1 p2 : Int32} {q1 q2 : Int64} {lo hi : Int} (hp1 : p1.toInt = lo) (hp2 : p2.toInt = hi) (hq1 : q1.toInt = lo) (hq2 : q2.toInt = hi) (h0 : 0 ≤ lo) (hlh : lo ≤ hi) (hb : hi < 2147483648) :
    ok_Te_number p1 p2 t tb ∧ ok_Mo_number q1 q2 o bu ∧ ∃ st', st ≤ st' ∧ TX B n st' (sp_Te_number p1 p2 t tb).2 tb (sp_Mo_number q1 q2 o bu).2 bu ∧ FrT o (sp_Mo_number q1 q2 o bu).2 ∧ (sp_Mo_number q1 q2 o bu).1.toInt32 = (sp_Te_number p1 p2 t tb).1 ∧ lo ≤ (sp_Te_number p1 p2 t tb).1.toInt ∧ (sp_Te_number p1 p2 t tb).1.toInt ≤ hi ∧ ((sp_Te_number p1 p2 t tb).2 5 = 0 → t 5 = 0) := by
  obtain ⟨a1, a2, s1, a3, a4, a5, ⟨V, v1, v2, v3, v4⟩, a6⟩ := number_TX h hp1 hp2 hq1 hq2 h0 hlh
  refine ⟨a1, a2, s1, a3, a4, a5, ?_, by omega, by omega, fun w => (a6 w).1⟩
  apply Int32.toInt_inj.mp
  rw [Kit.i32_of_i64 (by rw [v4]; omega) (by rw [v4]; omega), v4, v3]
/-- an order's numbers -/
def argR (w : Nat) (a b : Int) : Prop := (w = 0 → (0 ≤ a ∧ a ≤ 4) ∧ 0 ≤ b ∧ b ≤ 4) ∧ (w = 1 → 0 ≤ a ∧ a ≤ 20000) ∧ (w = 2 → 0 ≤ a ∧ a ≤ 9999) ∧ (w = 4 → 2 ≤ a ∧ a ≤ 3) ∧ (w = 5 → 1 ≤ a ∧ a ≤ 99) ∧ (w = 6 → 1 ≤ a ∧ a ≤ 20) ∧ (w = 7 → a = 0 ∨ a = 1) ∧ (w = 8 → 0 ≤ a ∧ a ≤ 20)
/-- how the reference goes on behind an order's word -/
noncomputable def mNul (w : Nat) (o bu : IV) : IV := if w = 9 then sp_Mo_must (sp_Mo_takes 19 o bu).1 1 (sp_Mo_takes 19 o bu).2 else o
noncomputable def mNum (w : Nat) (o bu : IV) : Int32 × Int32 × IV := if w = 0 then ((sp_Mo_first (nI w) (mNul w o bu) bu).1, (sp_Mo_number 0 4 (sp_Mo_first (nI w) (mNul w o bu) bu).2 bu).1.toInt32, (sp_Mo_number 0 4 (sp_Mo_first (nI w) (mNul w o bu) bu).2 bu).2) else ((sp_Mo_first (nI w) (mNul w o bu) bu).1, 0, (sp_Mo_first (nI w) (mNul w o bu) bu).2)
def mNumOk (w : Nat) (o bu : IV) : Prop := (w = 9 → ok_Mo_takes 19 o bu) ∧ ok_Mo_first (nI w) (mNul w o bu) bu ∧ (w = 0 → ok_Mo_number 0 4 (sp_Mo_first (nI w) (mNul w o bu) bu).2 bu)
theorem tn0 {k : Nat} (hk : k < 30) (x : Int32) : sp_Pr_takeNumbers (nI k) x pf ps t tb = sp_Pr_takeNumbers (nI k) x pf ps t tb ∧ ¬ nI k < 0 ∧ ¬ (30 : Int32) ≤ nI k ∧ nI k < (30 : Int32) ∧ (nI k).toNatClampNeg = k ∧ vp_in (nI k) 30 := ⟨rfl, by rw [show (0 : Int32) = nI 0 from rfl, nzlt (by omega) (by omega)]; omega, by rw [show (30 : Int32) = nI 30 from rfl, nzle (by omega) (by omega)]; omega, by rw [show (30 : Int32) = nI 30 from rfl, nzlt (by omega) (by omega)]; omega, cl_nI (by omega), vp_nI hk (by decide)⟩
set_option maxRecDepth 10000 in
theorem nums_0 (h : TX B n st t tb o bu) {k : Nat} (hk : k < 30) : ok_Pr_takeNumbers (nI k) (nI 0) pf ps t tb ∧ mNumOk 0 o bu ∧ ∃ st', st ≤ st' ∧ (sp_Pr_takeNumbers (nI k) (nI 0) pf ps t tb).1 = upd pf k (mNum 0 o bu).1 ∧ (sp_Pr_takeNumbers (nI k) (nI 0) pf ps t tb).2.1 = upd ps k (mNum 0 o bu).2.1 ∧
    argR 0 (mNum 0 o bu).1.toInt (mNum 0 o bu).2.1.toInt ∧ TX B n st' (sp_Pr_takeNumbers (nI k) (nI 0) pf ps t tb).2.2 tb (mNum 0 o bu).2.2 bu ∧ FrT o (mNum 0 o bu).2.2 ∧ ((sp_Pr_takeNumbers (nI k) (nI 0) pf ps t tb).2.2 5 = 0 → t 5 = 0) := by
  obtain ⟨-, c1, c2, c3, c4, c5⟩ := tn0 (pf := pf) (ps := ps) (t := t) (tb := tb) hk (nI 0)
  have e0 : mNul 0 o bu = o := if_neg (by decide)
  obtain ⟨a1, a2, s1, a3, a4, a5, a6, a7, a8, a9⟩ := num32_TX h (p1 := 0) (p2 := 4) (q1 := 0) (q2 := 4) (lo := 0) (hi := 4) rfl rfl rfl rfl (by decide) (by decide) (by decide)
  obtain ⟨b1, b2, s2, b3, b4, b5, b6, b7, b8, b9⟩ := num32_TX a4 (p1 := 0) (p2 := 4) (q1 := 0) (q2 := 4) (lo := 0) (hi := 4) rfl rfl rfl rfl (by decide) (by decide) (by decide)
  have eM : sp_Mo_first (nI 0) o bu = ((sp_Te_number 0 4 t tb).1, (sp_Mo_number 0 4 o bu).2) := by
    unfold sp_Mo_first
    simp only [lettn]
    rw [if_pos (show nI 0 = (0 : Int32) from rfl), a6]
  have eN : mNum 0 o bu = ((sp_Te_number 0 4 t tb).1, (sp_Te_number 0 4 (sp_Te_number 0 4 t tb).2 tb).1, (sp_Mo_number 0 4 (sp_Mo_number 0 4 o bu).2 bu).2) := by
    unfold mNum
    rw [if_pos rfl, e0, eM]
    dsimp only
    rw [b6]
  have eC : sp_Pr_takeNumbers (nI k) (nI 0) pf ps t tb = (upd pf k (sp_Te_number 0 4 t tb).1, upd ps k (sp_Te_number 0 4 (sp_Te_number 0 4 t tb).2 tb).1, (sp_Te_number 0 4 (sp_Te_number 0 4 t tb).2 tb).2) := by
    unfold sp_Pr_takeNumbers
    simp only [lettn]
    rw [if_neg c1, if_neg c2, if_pos c3, if_pos (show nI 0 = (0 : Int32) from rfl), c4, upd2, upd2]
  have oM : mNumOk 0 o bu := by
    unfold mNumOk ok_Mo_first
    rw [e0, eM]
    exact ⟨fun z => absurd z (by decide), ⟨fun _ => ⟨a2, trivial⟩, fun z => absurd rfl z⟩, fun _ => b2⟩
  have oC : ok_Pr_takeNumbers (nI k) (nI 0) pf ps t tb := by
    unfold ok_Pr_takeNumbers
    simp only [lettn]
    exact ⟨fun z => absurd z c1, fun _ => ⟨fun z => absurd z c2, fun _ => ⟨fun _ => ⟨fun _ => ⟨a1, b1, trivial⟩, fun z => absurd rfl z⟩, fun z => absurd c3 z⟩⟩⟩
  rw [eC, eN]
  dsimp only
  exact ⟨oC, oM, s2, Nat.le_trans a3 b3, rfl, rfl, ⟨fun _ => ⟨⟨a7, a8⟩, b7, b8⟩, fun z => absurd z (by decide), fun z => absurd z (by decide), fun z => absurd z (by decide), fun z => absurd z (by decide), fun z => absurd z (by decide), fun z => absurd z (by decide), fun z => absurd z (by decide)⟩, b4, frt_tr a5 b5, fun z => a9 (b9 z)⟩
set_option maxRecDepth 10000 in
theorem nums_1 (h : TX B n st t tb o bu) {k : Nat} (hk : k < 30) : ok_Pr_takeNumbers (nI k) (nI 1) pf ps t tb ∧ mNumOk 1 o bu ∧ ∃ st', st ≤ st' ∧ (sp_Pr_takeNumbers (nI k) (nI 1) pf ps t tb).1 = upd pf k (mNum 1 o bu).1 ∧ (sp_Pr_takeNumbers (nI k) (nI 1) pf ps t tb).2.1 = upd ps k (mNum 1 o bu).2.1 ∧
    argR 1 (mNum 1 o bu).1.toInt (mNum 1 o bu).2.1.toInt ∧ TX B n st' (sp_Pr_takeNumbers (nI k) (nI 1) pf ps t tb).2.2 tb (mNum 1 o bu).2.2 bu ∧ FrT o (mNum 1 o bu).2.2 ∧ ((sp_Pr_takeNumbers (nI k) (nI 1) pf ps t tb).2.2 5 = 0 → t 5 = 0) := by
  obtain ⟨-, c1, c2, c3, c4, c5⟩ := tn0 (pf := pf) (ps := ps) (t := t) (tb := tb) hk (nI 1)
  have e0 : mNul 1 o bu = o := if_neg (by decide)
  obtain ⟨a1, a2, s1, a3, a4, a5, a6, a7, a8, a9⟩ := num32_TX h (p1 := 0) (p2 := 20000) (q1 := 0) (q2 := 20000) (lo := 0) (hi := 20000) rfl rfl rfl rfl (by decide) (by decide) (by decide)
  have eM : sp_Mo_first (nI 1) o bu = ((sp_Te_number 0 20000 t tb).1, (sp_Mo_number 0 20000 o bu).2) := by
    unfold sp_Mo_first
    simp only [lettn]
    rw [if_neg (show ¬ nI 1 = (0 : Int32) by decide), if_pos (show nI 1 = (1 : Int32) from rfl), a6]
  have eN : mNum 1 o bu = ((sp_Te_number 0 20000 t tb).1, 0, (sp_Mo_number 0 20000 o bu).2) := by
    unfold mNum
    rw [if_neg (by decide), e0, eM]
  have eC : sp_Pr_takeNumbers (nI k) (nI 1) pf ps t tb = (upd pf k (sp_Te_number 0 20000 t tb).1, upd ps k 0, (sp_Te_number 0 20000 t tb).2) := by
    unfold sp_Pr_takeNumbers
    simp only [lettn]
    rw [if_neg c1, if_neg c2, if_pos c3, if_neg (show ¬ nI 1 = (0 : Int32) by decide), if_pos (show nI 1 = (1 : Int32) from rfl), c4, upd2]
  have oM : mNumOk 1 o bu := by
    unfold mNumOk ok_Mo_first
    rw [e0, eM]
    exact ⟨fun z => absurd z (by decide), ⟨fun z => absurd z (by decide), fun _ => ⟨fun _ => ⟨a2, trivial⟩, fun z => absurd rfl z⟩⟩, fun z => absurd z (by decide)⟩
  have oC : ok_Pr_takeNumbers (nI k) (nI 1) pf ps t tb := by
    unfold ok_Pr_takeNumbers
    simp only [lettn]
    exact ⟨fun z => absurd z c1, fun _ => ⟨fun z => absurd z c2, fun _ => ⟨fun _ => ⟨fun z => absurd z (by decide), fun _ => ⟨fun _ => ⟨a1, trivial⟩, fun z => absurd rfl z⟩⟩, fun z => absurd c3 z⟩⟩⟩
  rw [eC, eN]
  exact ⟨oC, oM, s1, a3, rfl, rfl, ⟨fun z => absurd z (by decide), fun _ => ⟨a7, a8⟩, fun z => absurd z (by decide), fun z => absurd z (by decide), fun z => absurd z (by decide), fun z => absurd z (by decide), fun z => absurd z (by decide), fun z => absurd z (by decide)⟩, a4, a5, a9⟩
set_option maxRecDepth 10000 in
theorem nums_2 (h : TX B n st t tb o bu) {k : Nat} (hk : k < 30) : ok_Pr_takeNumbers (nI k) (nI 2) pf ps t tb ∧ mNumOk 2 o bu ∧ ∃ st', st ≤ st' ∧ (sp_Pr_takeNumbers (nI k) (nI 2) pf ps t tb).1 = upd pf k (mNum 2 o bu).1 ∧ (sp_Pr_takeNumbers (nI k) (nI 2) pf ps t tb).2.1 = upd ps k (mNum 2 o bu).2.1 ∧
    argR 2 (mNum 2 o bu).1.toInt (mNum 2 o bu).2.1.toInt ∧ TX B n st' (sp_Pr_takeNumbers (nI k) (nI 2) pf ps t tb).2.2 tb (mNum 2 o bu).2.2 bu ∧ FrT o (mNum 2 o bu).2.2 ∧ ((sp_Pr_takeNumbers (nI k) (nI 2) pf ps t tb).2.2 5 = 0 → t 5 = 0) := by
  obtain ⟨-, c1, c2, c3, c4, c5⟩ := tn0 (pf := pf) (ps := ps) (t := t) (tb := tb) hk (nI 2)
  have e0 : mNul 2 o bu = o := if_neg (by decide)
  obtain ⟨a1, a2, s1, a3, a4, a5, a6, a7, a8, a9⟩ := num32_TX h (p1 := 0) (p2 := 9999) (q1 := 0) (q2 := 9999) (lo := 0) (hi := 9999) rfl rfl rfl rfl (by decide) (by decide) (by decide)
  have eM : sp_Mo_first (nI 2) o bu = ((sp_Te_number 0 9999 t tb).1, (sp_Mo_number 0 9999 o bu).2) := by
    unfold sp_Mo_first
    simp only [lettn]
    rw [if_neg (show ¬ nI 2 = (0 : Int32) by decide), if_neg (show ¬ nI 2 = (1 : Int32) by decide), if_pos (show nI 2 = (2 : Int32) from rfl), a6]
  have eN : mNum 2 o bu = ((sp_Te_number 0 9999 t tb).1, 0, (sp_Mo_number 0 9999 o bu).2) := by
    unfold mNum
    rw [if_neg (by decide), e0, eM]
  have eC : sp_Pr_takeNumbers (nI k) (nI 2) pf ps t tb = (upd pf k (sp_Te_number 0 9999 t tb).1, upd ps k 0, (sp_Te_number 0 9999 t tb).2) := by
    unfold sp_Pr_takeNumbers
    simp only [lettn]
    rw [if_neg c1, if_neg c2, if_pos c3, if_neg (show ¬ nI 2 = (0 : Int32) by decide), if_neg (show ¬ nI 2 = (1 : Int32) by decide), if_pos (show nI 2 = (2 : Int32) from rfl), c4, upd2]
  have oM : mNumOk 2 o bu := by
    unfold mNumOk ok_Mo_first
    rw [e0, eM]
    exact ⟨fun z => absurd z (by decide), ⟨fun z => absurd z (by decide), fun _ => ⟨fun z => absurd z (by decide), fun _ => ⟨fun _ => ⟨a2, trivial⟩, fun z => absurd rfl z⟩⟩⟩, fun z => absurd z (by decide)⟩
  have oC : ok_Pr_takeNumbers (nI k) (nI 2) pf ps t tb := by
    unfold ok_Pr_takeNumbers
    simp only [lettn]
    exact ⟨fun z => absurd z c1, fun _ => ⟨fun z => absurd z c2, fun _ => ⟨fun _ => ⟨fun z => absurd z (by decide), fun _ => ⟨fun z => absurd z (by decide), fun _ => ⟨fun _ => ⟨a1, trivial⟩, fun z => absurd rfl z⟩⟩⟩, fun z => absurd c3 z⟩⟩⟩
  rw [eC, eN]
  exact ⟨oC, oM, s1, a3, rfl, rfl, ⟨fun z => absurd z (by decide), fun z => absurd z (by decide), fun _ => ⟨a7, a8⟩, fun z => absurd z (by decide), fun z => absurd z (by decide), fun z => absurd z (by decide), fun z => absurd z (by decide), fun z => absurd z (by decide)⟩, a4, a5, a9⟩
set_option maxRecDepth 10000 in
theorem nums_3 (h : TX B n st t tb o bu) {k : Nat} (hk : k < 30) : ok_Pr_takeNumbers (nI k) (nI 3) pf ps t tb ∧ mNumOk 3 o bu ∧ ∃ st', st ≤ st' ∧ (sp_Pr_takeNumbers (nI k) (nI 3) pf ps t tb).1 = upd pf k (mNum 3 o bu).1 ∧ (sp_Pr_takeNumbers (nI k) (nI 3) pf ps t tb).2.1 = upd ps k (mNum 3 o bu).2.1 ∧
    argR 3 (mNum 3 o bu).1.toInt (mNum 3 o bu).2.1.toInt ∧ TX B n st' (sp_Pr_takeNumbers (nI k) (nI 3) pf ps t tb).2.2 tb (mNum 3 o bu).2.2 bu ∧ FrT o (mNum 3 o bu).2.2 ∧ ((sp_Pr_takeNumbers (nI k) (nI 3) pf ps t tb).2.2 5 = 0 → t 5 = 0) := by
  obtain ⟨-, c1, c2, c3, c4, c5⟩ := tn0 (pf := pf) (ps := ps) (t := t) (tb := tb) hk (nI 3)
  have e0 : mNul 3 o bu = o := if_neg (by decide)
  have eM : sp_Mo_first (nI 3) o bu = (0, o) := by
    unfold sp_Mo_first
    simp only [lettn]
    rw [if_neg (show ¬ nI 3 = (0 : Int32) by decide), if_neg (show ¬ nI 3 = (1 : Int32) by decide), if_neg (show ¬ nI 3 = (2 : Int32) by decide), if_pos (show nI 3 = (3 : Int32) from rfl)]
  have eN : mNum 3 o bu = (0, 0, o) := by
    unfold mNum
    rw [if_neg (by decide), e0, eM]
  have eC : sp_Pr_takeNumbers (nI k) (nI 3) pf ps t tb = (upd pf k 0, upd ps k 0, t) := by
    unfold sp_Pr_takeNumbers
    simp only [lettn]
    rw [if_neg c1, if_neg c2, if_pos c3, if_neg (show ¬ nI 3 = (0 : Int32) by decide), if_neg (show ¬ nI 3 = (1 : Int32) by decide), if_neg (show ¬ nI 3 = (2 : Int32) by decide), if_pos (show nI 3 = (3 : Int32) from rfl), c4]
  have oM : mNumOk 3 o bu := by
    unfold mNumOk ok_Mo_first
    rw [e0, eM]
    exact ⟨fun z => absurd z (by decide), ⟨fun z => absurd z (by decide), fun _ => ⟨fun z => absurd z (by decide), fun _ => ⟨fun z => absurd z (by decide), fun _ => ⟨fun _ => trivial, fun z => absurd rfl z⟩⟩⟩⟩, fun z => absurd z (by decide)⟩
  have oC : ok_Pr_takeNumbers (nI k) (nI 3) pf ps t tb := by
    unfold ok_Pr_takeNumbers
    simp only [lettn]
    exact ⟨fun z => absurd z c1, fun _ => ⟨fun z => absurd z c2, fun _ => ⟨fun _ => ⟨fun z => absurd z (by decide), fun _ => ⟨fun z => absurd z (by decide), fun _ => ⟨fun z => absurd z (by decide), fun _ => ⟨fun _ => trivial, fun z => absurd rfl z⟩⟩⟩⟩, fun z => absurd c3 z⟩⟩⟩
  rw [eC, eN]
  exact ⟨oC, oM, st, Nat.le_refl _, rfl, rfl, ⟨fun z => absurd z (by decide), fun z => absurd z (by decide), fun z => absurd z (by decide), fun z => absurd z (by decide), fun z => absurd z (by decide), fun z => absurd z (by decide), fun z => absurd z (by decide), fun z => absurd z (by decide)⟩, h, frt_rf o, fun z => z⟩
set_option maxRecDepth 10000 in
theorem nums_4 (h : TX B n st t tb o bu) {k : Nat} (hk : k < 30) : ok_Pr_takeNumbers (nI k) (nI 4) pf ps t tb ∧ mNumOk 4 o bu ∧ ∃ st', st ≤ st' ∧ (sp_Pr_takeNumbers (nI k) (nI 4) pf ps t tb).1 = upd pf k (mNum 4 o bu).1 ∧ (sp_Pr_takeNumbers (nI k) (nI 4) pf ps t tb).2.1 = upd ps k (mNum 4 o bu).2.1 ∧
    argR 4 (mNum 4 o bu).1.toInt (mNum 4 o bu).2.1.toInt ∧ TX B n st' (sp_Pr_takeNumbers (nI k) (nI 4) pf ps t tb).2.2 tb (mNum 4 o bu).2.2 bu ∧ FrT o (mNum 4 o bu).2.2 ∧ ((sp_Pr_takeNumbers (nI k) (nI 4) pf ps t tb).2.2 5 = 0 → t 5 = 0) := by
  obtain ⟨-, c1, c2, c3, c4, c5⟩ := tn0 (pf := pf) (ps := ps) (t := t) (tb := tb) hk (nI 4)
  have e0 : mNul 4 o bu = o := if_neg (by decide)
  obtain ⟨a1, a2, s1, a3, a4, a5, a6, a7, a8, a9⟩ := num32_TX h (p1 := 2) (p2 := 3) (q1 := 2) (q2 := 3) (lo := 2) (hi := 3) rfl rfl rfl rfl (by decide) (by decide) (by decide)
  have eM : sp_Mo_first (nI 4) o bu = ((sp_Te_number 2 3 t tb).1, (sp_Mo_number 2 3 o bu).2) := by
    unfold sp_Mo_first
    simp only [lettn]
    rw [if_neg (show ¬ nI 4 = (0 : Int32) by decide), if_neg (show ¬ nI 4 = (1 : Int32) by decide), if_neg (show ¬ nI 4 = (2 : Int32) by decide), if_neg (show ¬ nI 4 = (3 : Int32) by decide), if_pos (show nI 4 = (4 : Int32) from rfl), a6]
  have eN : mNum 4 o bu = ((sp_Te_number 2 3 t tb).1, 0, (sp_Mo_number 2 3 o bu).2) := by
    unfold mNum
    rw [if_neg (by decide), e0, eM]
  have eC : sp_Pr_takeNumbers (nI k) (nI 4) pf ps t tb = (upd pf k (sp_Te_number 2 3 t tb).1, upd ps k 0, (sp_Te_number 2 3 t tb).2) := by
    unfold sp_Pr_takeNumbers
    simp only [lettn]
    rw [if_neg c1, if_neg c2, if_pos c3, if_neg (show ¬ nI 4 = (0 : Int32) by decide), if_neg (show ¬ nI 4 = (1 : Int32) by decide), if_neg (show ¬ nI 4 = (2 : Int32) by decide), if_neg (show ¬ nI 4 = (3 : Int32) by decide), if_pos (show nI 4 = (4 : Int32) from rfl), c4, upd2]
  have oM : mNumOk 4 o bu := by
    unfold mNumOk ok_Mo_first
    rw [e0, eM]
    exact ⟨fun z => absurd z (by decide), ⟨fun z => absurd z (by decide), fun _ => ⟨fun z => absurd z (by decide), fun _ => ⟨fun z => absurd z (by decide), fun _ => ⟨fun z => absurd z (by decide), fun _ => ⟨fun _ => ⟨a2, trivial⟩, fun z => absurd rfl z⟩⟩⟩⟩⟩, fun z => absurd z (by decide)⟩
  have oC : ok_Pr_takeNumbers (nI k) (nI 4) pf ps t tb := by
    unfold ok_Pr_takeNumbers
    simp only [lettn]
    exact ⟨fun z => absurd z c1, fun _ => ⟨fun z => absurd z c2, fun _ => ⟨fun _ => ⟨fun z => absurd z (by decide), fun _ => ⟨fun z => absurd z (by decide), fun _ => ⟨fun z => absurd z (by decide), fun _ => ⟨fun z => absurd z (by decide), fun _ => ⟨fun _ => ⟨a1, trivial⟩, fun z => absurd rfl z⟩⟩⟩⟩⟩, fun z => absurd c3 z⟩⟩⟩
  rw [eC, eN]
  exact ⟨oC, oM, s1, a3, rfl, rfl, ⟨fun z => absurd z (by decide), fun z => absurd z (by decide), fun z => absurd z (by decide), fun _ => ⟨a7, a8⟩, fun z => absurd z (by decide), fun z => absurd z (by decide), fun z => absurd z (by decide), fun z => absurd z (by decide)⟩, a4, a5, a9⟩
set_option maxRecDepth 10000 in
theorem nums_5 (h : TX B n st t tb o bu) {k : Nat} (hk : k < 30) : ok_Pr_takeNumbers (nI k) (nI 5) pf ps t tb ∧ mNumOk 5 o bu ∧ ∃ st', st ≤ st' ∧ (sp_Pr_takeNumbers (nI k) (nI 5) pf ps t tb).1 = upd pf k (mNum 5 o bu).1 ∧ (sp_Pr_takeNumbers (nI k) (nI 5) pf ps t tb).2.1 = upd ps k (mNum 5 o bu).2.1 ∧
    argR 5 (mNum 5 o bu).1.toInt (mNum 5 o bu).2.1.toInt ∧ TX B n st' (sp_Pr_takeNumbers (nI k) (nI 5) pf ps t tb).2.2 tb (mNum 5 o bu).2.2 bu ∧ FrT o (mNum 5 o bu).2.2 ∧ ((sp_Pr_takeNumbers (nI k) (nI 5) pf ps t tb).2.2 5 = 0 → t 5 = 0) := by
  obtain ⟨-, c1, c2, c3, c4, c5⟩ := tn0 (pf := pf) (ps := ps) (t := t) (tb := tb) hk (nI 5)
  have e0 : mNul 5 o bu = o := if_neg (by decide)
  obtain ⟨a1, a2, s1, a3, a4, a5, a6, a7, a8, a9⟩ := num32_TX h (p1 := 1) (p2 := 99) (q1 := 1) (q2 := 99) (lo := 1) (hi := 99) rfl rfl rfl rfl (by decide) (by decide) (by decide)
  have eM : sp_Mo_first (nI 5) o bu = ((sp_Te_number 1 99 t tb).1, (sp_Mo_number 1 99 o bu).2) := by
    unfold sp_Mo_first
    simp only [lettn]
    rw [if_neg (show ¬ nI 5 = (0 : Int32) by decide), if_neg (show ¬ nI 5 = (1 : Int32) by decide), if_neg (show ¬ nI 5 = (2 : Int32) by decide), if_neg (show ¬ nI 5 = (3 : Int32) by decide), if_neg (show ¬ nI 5 = (4 : Int32) by decide), if_pos (show nI 5 = (5 : Int32) from rfl), a6]
  have eN : mNum 5 o bu = ((sp_Te_number 1 99 t tb).1, 0, (sp_Mo_number 1 99 o bu).2) := by
    unfold mNum
    rw [if_neg (by decide), e0, eM]
  have eC : sp_Pr_takeNumbers (nI k) (nI 5) pf ps t tb = (upd pf k (sp_Te_number 1 99 t tb).1, upd ps k 0, (sp_Te_number 1 99 t tb).2) := by
    unfold sp_Pr_takeNumbers
    simp only [lettn]
    rw [if_neg c1, if_neg c2, if_pos c3, if_neg (show ¬ nI 5 = (0 : Int32) by decide), if_neg (show ¬ nI 5 = (1 : Int32) by decide), if_neg (show ¬ nI 5 = (2 : Int32) by decide), if_neg (show ¬ nI 5 = (3 : Int32) by decide), if_neg (show ¬ nI 5 = (4 : Int32) by decide), if_pos (show nI 5 = (5 : Int32) from rfl), c4, upd2]
  have oM : mNumOk 5 o bu := by
    unfold mNumOk ok_Mo_first
    rw [e0, eM]
    exact ⟨fun z => absurd z (by decide), ⟨fun z => absurd z (by decide), fun _ => ⟨fun z => absurd z (by decide), fun _ => ⟨fun z => absurd z (by decide), fun _ => ⟨fun z => absurd z (by decide), fun _ => ⟨fun z => absurd z (by decide), fun _ => ⟨fun _ => ⟨a2, trivial⟩, fun z => absurd rfl z⟩⟩⟩⟩⟩⟩, fun z => absurd z (by decide)⟩
  have oC : ok_Pr_takeNumbers (nI k) (nI 5) pf ps t tb := by
    unfold ok_Pr_takeNumbers
    simp only [lettn]
    exact ⟨fun z => absurd z c1, fun _ => ⟨fun z => absurd z c2, fun _ => ⟨fun _ => ⟨fun z => absurd z (by decide), fun _ => ⟨fun z => absurd z (by decide), fun _ => ⟨fun z => absurd z (by decide), fun _ => ⟨fun z => absurd z (by decide), fun _ => ⟨fun z => absurd z (by decide), fun _ => ⟨fun _ => ⟨a1, trivial⟩, fun z => absurd rfl z⟩⟩⟩⟩⟩⟩, fun z => absurd c3 z⟩⟩⟩
  rw [eC, eN]
  exact ⟨oC, oM, s1, a3, rfl, rfl, ⟨fun z => absurd z (by decide), fun z => absurd z (by decide), fun z => absurd z (by decide), fun z => absurd z (by decide), fun _ => ⟨a7, a8⟩, fun z => absurd z (by decide), fun z => absurd z (by decide), fun z => absurd z (by decide)⟩, a4, a5, a9⟩
set_option maxRecDepth 10000 in
theorem nums_6 (h : TX B n st t tb o bu) {k : Nat} (hk : k < 30) : ok_Pr_takeNumbers (nI k) (nI 6) pf ps t tb ∧ mNumOk 6 o bu ∧ ∃ st', st ≤ st' ∧ (sp_Pr_takeNumbers (nI k) (nI 6) pf ps t tb).1 = upd pf k (mNum 6 o bu).1 ∧ (sp_Pr_takeNumbers (nI k) (nI 6) pf ps t tb).2.1 = upd ps k (mNum 6 o bu).2.1 ∧
    argR 6 (mNum 6 o bu).1.toInt (mNum 6 o bu).2.1.toInt ∧ TX B n st' (sp_Pr_takeNumbers (nI k) (nI 6) pf ps t tb).2.2 tb (mNum 6 o bu).2.2 bu ∧ FrT o (mNum 6 o bu).2.2 ∧ ((sp_Pr_takeNumbers (nI k) (nI 6) pf ps t tb).2.2 5 = 0 → t 5 = 0) := by
  obtain ⟨-, c1, c2, c3, c4, c5⟩ := tn0 (pf := pf) (ps := ps) (t := t) (tb := tb) hk (nI 6)
  have e0 : mNul 6 o bu = o := if_neg (by decide)
  obtain ⟨a1, a2, s1, a3, a4, a5, a6, a7, a8, a9⟩ := num32_TX h (p1 := 1) (p2 := 20) (q1 := 1) (q2 := 20) (lo := 1) (hi := 20) rfl rfl rfl rfl (by decide) (by decide) (by decide)
  have eM : sp_Mo_first (nI 6) o bu = ((sp_Te_number 1 20 t tb).1, (sp_Mo_number 1 20 o bu).2) := by
    unfold sp_Mo_first
    simp only [lettn]
    rw [if_neg (show ¬ nI 6 = (0 : Int32) by decide), if_neg (show ¬ nI 6 = (1 : Int32) by decide), if_neg (show ¬ nI 6 = (2 : Int32) by decide), if_neg (show ¬ nI 6 = (3 : Int32) by decide), if_neg (show ¬ nI 6 = (4 : Int32) by decide), if_neg (show ¬ nI 6 = (5 : Int32) by decide), if_pos (show nI 6 = (6 : Int32) from rfl), a6]
  have eN : mNum 6 o bu = ((sp_Te_number 1 20 t tb).1, 0, (sp_Mo_number 1 20 o bu).2) := by
    unfold mNum
    rw [if_neg (by decide), e0, eM]
  have eC : sp_Pr_takeNumbers (nI k) (nI 6) pf ps t tb = (upd pf k (sp_Te_number 1 20 t tb).1, upd ps k 0, (sp_Te_number 1 20 t tb).2) := by
    unfold sp_Pr_takeNumbers
    simp only [lettn]
    rw [if_neg c1, if_neg c2, if_pos c3, if_neg (show ¬ nI 6 = (0 : Int32) by decide), if_neg (show ¬ nI 6 = (1 : Int32) by decide), if_neg (show ¬ nI 6 = (2 : Int32) by decide), if_neg (show ¬ nI 6 = (3 : Int32) by decide), if_neg (show ¬ nI 6 = (4 : Int32) by decide), if_neg (show ¬ nI 6 = (5 : Int32) by decide), if_pos (show nI 6 = (6 : Int32) from rfl), c4, upd2]
  have oM : mNumOk 6 o bu := by
    unfold mNumOk ok_Mo_first
    rw [e0, eM]
    exact ⟨fun z => absurd z (by decide), ⟨fun z => absurd z (by decide), fun _ => ⟨fun z => absurd z (by decide), fun _ => ⟨fun z => absurd z (by decide), fun _ => ⟨fun z => absurd z (by decide), fun _ => ⟨fun z => absurd z (by decide), fun _ => ⟨fun z => absurd z (by decide), fun _ => ⟨fun _ => ⟨a2, trivial⟩, fun z => absurd rfl z⟩⟩⟩⟩⟩⟩⟩, fun z => absurd z (by decide)⟩
  have oC : ok_Pr_takeNumbers (nI k) (nI 6) pf ps t tb := by
    unfold ok_Pr_takeNumbers
    simp only [lettn]
    exact ⟨fun z => absurd z c1, fun _ => ⟨fun z => absurd z c2, fun _ => ⟨fun _ => ⟨fun z => absurd z (by decide), fun _ => ⟨fun z => absurd z (by decide), fun _ => ⟨fun z => absurd z (by decide), fun _ => ⟨fun z => absurd z (by decide), fun _ => ⟨fun z => absurd z (by decide), fun _ => ⟨fun z => absurd z (by decide), fun _ => ⟨fun _ => ⟨a1, trivial⟩, fun z => absurd rfl z⟩⟩⟩⟩⟩⟩⟩, fun z => absurd c3 z⟩⟩⟩
  rw [eC, eN]
  exact ⟨oC, oM, s1, a3, rfl, rfl, ⟨fun z => absurd z (by decide), fun z => absurd z (by decide), fun z => absurd z (by decide), fun z => absurd z (by decide), fun z => absurd z (by decide), fun _ => ⟨a7, a8⟩, fun z => absurd z (by decide), fun z => absurd z (by decide)⟩, a4, a5, a9⟩
set_option maxRecDepth 10000 in
theorem nums_7 (h : TX B n st t tb o bu) {k : Nat} (hk : k < 30) : ok_Pr_takeNumbers (nI k) (nI 7) pf ps t tb ∧ mNumOk 7 o bu ∧ ∃ st', st ≤ st' ∧ (sp_Pr_takeNumbers (nI k) (nI 7) pf ps t tb).1 = upd pf k (mNum 7 o bu).1 ∧ (sp_Pr_takeNumbers (nI k) (nI 7) pf ps t tb).2.1 = upd ps k (mNum 7 o bu).2.1 ∧
    argR 7 (mNum 7 o bu).1.toInt (mNum 7 o bu).2.1.toInt ∧ TX B n st' (sp_Pr_takeNumbers (nI k) (nI 7) pf ps t tb).2.2 tb (mNum 7 o bu).2.2 bu ∧ FrT o (mNum 7 o bu).2.2 ∧ ((sp_Pr_takeNumbers (nI k) (nI 7) pf ps t tb).2.2 5 = 0 → t 5 = 0) := by
  obtain ⟨-, c1, c2, c3, c4, c5⟩ := tn0 (pf := pf) (ps := ps) (t := t) (tb := tb) hk (nI 7)
  have e0 : mNul 7 o bu = o := if_neg (by decide)
  obtain ⟨t1, t2⟩ := takes_TX h (w := 18) (by decide)
  obtain ⟨w1, w2, w3, w4, w5⟩ := isWord_TX h (w := 18) (by decide)
  obtain ⟨g1, g2, s1, g3, g4, g5, g6, g7⟩ := goOn_TX h
  have eM : sp_Mo_first (nI 7) o bu = if sp_Te_isWord 18 t tb = 0 then (0, o) else (1, sp_Mo_goOn o bu) := by
    unfold sp_Mo_first
    simp only [lettn]
    rw [if_neg (show ¬ nI 7 = (0 : Int32) by decide), if_neg (show ¬ nI 7 = (1 : Int32) by decide), if_neg (show ¬ nI 7 = (2 : Int32) by decide), if_neg (show ¬ nI 7 = (3 : Int32) by decide), if_neg (show ¬ nI 7 = (4 : Int32) by decide), if_neg (show ¬ nI 7 = (5 : Int32) by decide), if_neg (show ¬ nI 7 = (6 : Int32) by decide), if_pos (show nI 7 = (7 : Int32) from rfl), t2]
    by_cases q : sp_Te_isWord 18 t tb = 0
    · rw [if_pos q]; exact if_pos rfl
    · rw [if_neg q]; exact if_neg (show ¬ (1 : Int32) = 0 by decide)
  have eN : mNum 7 o bu = if sp_Te_isWord 18 t tb = 0 then (0, 0, o) else (1, 0, sp_Mo_goOn o bu) := by
    unfold mNum
    rw [if_neg (by decide), e0, eM]
    by_cases q : sp_Te_isWord 18 t tb = 0
    · rw [if_pos q, if_pos q]
    · rw [if_neg q, if_neg q]
  have eC : sp_Pr_takeNumbers (nI k) (nI 7) pf ps t tb = if sp_Te_isWord 18 t tb = 0 then (upd pf k 0, upd ps k 0, t) else (upd pf k 1, upd ps k 0, sp_Te_advance t tb) := by
    unfold sp_Pr_takeNumbers
    simp only [lettn]
    rw [if_neg c1, if_neg c2, if_pos c3, if_neg (show ¬ nI 7 = (0 : Int32) by decide), if_neg (show ¬ nI 7 = (1 : Int32) by decide), if_neg (show ¬ nI 7 = (2 : Int32) by decide), if_neg (show ¬ nI 7 = (3 : Int32) by decide), if_neg (show ¬ nI 7 = (4 : Int32) by decide), if_neg (show ¬ nI 7 = (5 : Int32) by decide), if_neg (show ¬ nI 7 = (6 : Int32) by decide), if_pos (show nI 7 = (7 : Int32) from rfl), c4, upd2]
  have oM : mNumOk 7 o bu := by
    unfold mNumOk ok_Mo_first
    rw [e0]
    exact ⟨fun z => absurd z (by decide), ⟨fun z => absurd z (by decide), fun _ => ⟨fun z => absurd z (by decide), fun _ => ⟨fun z => absurd z (by decide), fun _ => ⟨fun z => absurd z (by decide), fun _ => ⟨fun z => absurd z (by decide), fun _ => ⟨fun z => absurd z (by decide), fun _ => ⟨fun z => absurd z (by decide), fun _ => ⟨fun _ => ⟨t1, trivial⟩, fun z => absurd rfl z⟩⟩⟩⟩⟩⟩⟩⟩, fun z => absurd z (by decide)⟩
  have oC : ok_Pr_takeNumbers (nI k) (nI 7) pf ps t tb := by
    unfold ok_Pr_takeNumbers
    simp only [lettn]
    exact ⟨fun z => absurd z c1, fun _ => ⟨fun z => absurd z c2, fun _ => ⟨fun _ => ⟨fun z => absurd z (by decide), fun _ => ⟨fun z => absurd z (by decide), fun _ => ⟨fun z => absurd z (by decide), fun _ => ⟨fun z => absurd z (by decide), fun _ => ⟨fun z => absurd z (by decide), fun _ => ⟨fun z => absurd z (by decide), fun _ => ⟨fun z => absurd z (by decide), fun _ => ⟨fun _ => ⟨w2, fun _ => trivial, fun _ => ⟨g1, trivial⟩⟩, fun z => absurd rfl z⟩⟩⟩⟩⟩⟩⟩⟩, fun z => absurd c3 z⟩⟩⟩
  rw [eC, eN]
  by_cases q : sp_Te_isWord 18 t tb = 0
  · rw [if_pos q, if_pos q]
    exact ⟨oC, oM, st, Nat.le_refl _, rfl, rfl, ⟨fun z => absurd z (by decide), fun z => absurd z (by decide), fun z => absurd z (by decide), fun z => absurd z (by decide), fun z => absurd z (by decide), fun z => absurd z (by decide), fun _ => Or.inl rfl, fun z => absurd z (by decide)⟩, h, frt_rf o, fun z => z⟩
  · rw [if_neg q, if_neg q]
    exact ⟨oC, oM, s1, g3, rfl, rfl, ⟨fun z => absurd z (by decide), fun z => absurd z (by decide), fun z => absurd z (by decide), fun z => absurd z (by decide), fun z => absurd z (by decide), fun z => absurd z (by decide), fun _ => Or.inr rfl, fun z => absurd z (by decide)⟩, g4, g5, fun _ => (w5 q).1⟩
set_option maxRecDepth 10000 in
theorem nums_8 (h : TX B n st t tb o bu) {k : Nat} (hk : k < 30) : ok_Pr_takeNumbers (nI k) (nI 8) pf ps t tb ∧ mNumOk 8 o bu ∧ ∃ st', st ≤ st' ∧ (sp_Pr_takeNumbers (nI k) (nI 8) pf ps t tb).1 = upd pf k (mNum 8 o bu).1 ∧ (sp_Pr_takeNumbers (nI k) (nI 8) pf ps t tb).2.1 = upd ps k (mNum 8 o bu).2.1 ∧
    argR 8 (mNum 8 o bu).1.toInt (mNum 8 o bu).2.1.toInt ∧ TX B n st' (sp_Pr_takeNumbers (nI k) (nI 8) pf ps t tb).2.2 tb (mNum 8 o bu).2.2 bu ∧ FrT o (mNum 8 o bu).2.2 ∧ ((sp_Pr_takeNumbers (nI k) (nI 8) pf ps t tb).2.2 5 = 0 → t 5 = 0) := by
  obtain ⟨-, c1, c2, c3, c4, c5⟩ := tn0 (pf := pf) (ps := ps) (t := t) (tb := tb) hk (nI 8)
  have e0 : mNul 8 o bu = o := if_neg (by decide)
  obtain ⟨a1, a2, s1, a3, a4, a5, a6, a7, a8, a9⟩ := num32_TX h (p1 := 0) (p2 := 20) (q1 := 0) (q2 := 20) (lo := 0) (hi := 20) rfl rfl rfl rfl (by decide) (by decide) (by decide)
  have eM : sp_Mo_first (nI 8) o bu = ((sp_Te_number 0 20 t tb).1, (sp_Mo_number 0 20 o bu).2) := by
    unfold sp_Mo_first
    simp only [lettn]
    rw [if_neg (show ¬ nI 8 = (0 : Int32) by decide), if_neg (show ¬ nI 8 = (1 : Int32) by decide), if_neg (show ¬ nI 8 = (2 : Int32) by decide), if_neg (show ¬ nI 8 = (3 : Int32) by decide), if_neg (show ¬ nI 8 = (4 : Int32) by decide), if_neg (show ¬ nI 8 = (5 : Int32) by decide), if_neg (show ¬ nI 8 = (6 : Int32) by decide), if_neg (show ¬ nI 8 = (7 : Int32) by decide), if_pos (show nI 8 = (8 : Int32) from rfl), a6]
  have eN : mNum 8 o bu = ((sp_Te_number 0 20 t tb).1, 0, (sp_Mo_number 0 20 o bu).2) := by
    unfold mNum
    rw [if_neg (by decide), e0, eM]
  have eC : sp_Pr_takeNumbers (nI k) (nI 8) pf ps t tb = (upd pf k (sp_Te_number 0 20 t tb).1, upd ps k 0, (sp_Te_number 0 20 t tb).2) := by
    unfold sp_Pr_takeNumbers
    simp only [lettn]
    rw [if_neg c1, if_neg c2, if_pos c3, if_neg (show ¬ nI 8 = (0 : Int32) by decide), if_neg (show ¬ nI 8 = (1 : Int32) by decide), if_neg (show ¬ nI 8 = (2 : Int32) by decide), if_neg (show ¬ nI 8 = (3 : Int32) by decide), if_neg (show ¬ nI 8 = (4 : Int32) by decide), if_neg (show ¬ nI 8 = (5 : Int32) by decide), if_neg (show ¬ nI 8 = (6 : Int32) by decide), if_neg (show ¬ nI 8 = (7 : Int32) by decide), if_pos (show nI 8 = (8 : Int32) from rfl), c4, upd2]
  have oM : mNumOk 8 o bu := by
    unfold mNumOk ok_Mo_first
    rw [e0, eM]
    exact ⟨fun z => absurd z (by decide), ⟨fun z => absurd z (by decide), fun _ => ⟨fun z => absurd z (by decide), fun _ => ⟨fun z => absurd z (by decide), fun _ => ⟨fun z => absurd z (by decide), fun _ => ⟨fun z => absurd z (by decide), fun _ => ⟨fun z => absurd z (by decide), fun _ => ⟨fun z => absurd z (by decide), fun _ => ⟨fun z => absurd z (by decide), fun _ => ⟨fun _ => ⟨a2, trivial⟩, fun z => absurd rfl z⟩⟩⟩⟩⟩⟩⟩⟩⟩, fun z => absurd z (by decide)⟩
  have oC : ok_Pr_takeNumbers (nI k) (nI 8) pf ps t tb := by
    unfold ok_Pr_takeNumbers
    simp only [lettn]
    exact ⟨fun z => absurd z c1, fun _ => ⟨fun z => absurd z c2, fun _ => ⟨fun _ => ⟨fun z => absurd z (by decide), fun _ => ⟨fun z => absurd z (by decide), fun _ => ⟨fun z => absurd z (by decide), fun _ => ⟨fun z => absurd z (by decide), fun _ => ⟨fun z => absurd z (by decide), fun _ => ⟨fun z => absurd z (by decide), fun _ => ⟨fun z => absurd z (by decide), fun _ => ⟨fun z => absurd z (by decide), fun _ => ⟨fun _ => ⟨a1, trivial⟩, fun z => absurd rfl z⟩⟩⟩⟩⟩⟩⟩⟩⟩, fun z => absurd c3 z⟩⟩⟩
  rw [eC, eN]
  exact ⟨oC, oM, s1, a3, rfl, rfl, ⟨fun z => absurd z (by decide), fun z => absurd z (by decide), fun z => absurd z (by decide), fun z => absurd z (by decide), fun z => absurd z (by decide), fun z => absurd z (by decide), fun z => absurd z (by decide), fun _ => ⟨a7, a8⟩⟩, a4, a5, a9⟩
set_option maxRecDepth 10000 in
theorem nums_9 (h : TX B n st t tb o bu) {k : Nat} (hk : k < 30) : ok_Pr_takeNumbers (nI k) (nI 9) pf ps t tb ∧ mNumOk 9 o bu ∧ ∃ st', st ≤ st' ∧ (sp_Pr_takeNumbers (nI k) (nI 9) pf ps t tb).1 = upd pf k (mNum 9 o bu).1 ∧ (sp_Pr_takeNumbers (nI k) (nI 9) pf ps t tb).2.1 = upd ps k (mNum 9 o bu).2.1 ∧
    argR 9 (mNum 9 o bu).1.toInt (mNum 9 o bu).2.1.toInt ∧ TX B n st' (sp_Pr_takeNumbers (nI k) (nI 9) pf ps t tb).2.2 tb (mNum 9 o bu).2.2 bu ∧ FrT o (mNum 9 o bu).2.2 ∧ ((sp_Pr_takeNumbers (nI k) (nI 9) pf ps t tb).2.2 5 = 0 → t 5 = 0) := by
  obtain ⟨-, c1, c2, c3, c4, c5⟩ := tn0 (pf := pf) (ps := ps) (t := t) (tb := tb) hk (nI 9)
  obtain ⟨t1, t2⟩ := takes_TX h (w := 19) (by decide)
  obtain ⟨w1, w2, w3, w4, w5⟩ := isWord_TX h (w := 19) (by decide)
  obtain ⟨g1, g2, s1, g3, g4, g5, g6, g7⟩ := goOn_TX h
  obtain ⟨f1, f2, f3, f4⟩ := fail_TX h (c := 1) (by decide)
  have e0 : mNul 9 o bu = if sp_Te_isWord 19 t tb = 0 then sp_Mo_must 0 1 o else sp_Mo_goOn o bu := by
    unfold mNul
    rw [if_pos rfl, t2]
    by_cases q : sp_Te_isWord 19 t tb = 0
    · rw [if_pos q, if_pos q]
    · rw [if_neg q, if_neg q]
      exact must_1 (show ¬ (1 : Int32) = 0 by decide)
  have eM : ∀ x, sp_Mo_first (nI 9) x bu = (0, x) := fun x => by
    unfold sp_Mo_first
    simp only [lettn]
    rw [if_neg (show ¬ nI 9 = (0 : Int32) by decide), if_neg (show ¬ nI 9 = (1 : Int32) by decide), if_neg (show ¬ nI 9 = (2 : Int32) by decide), if_neg (show ¬ nI 9 = (3 : Int32) by decide), if_neg (show ¬ nI 9 = (4 : Int32) by decide), if_neg (show ¬ nI 9 = (5 : Int32) by decide), if_neg (show ¬ nI 9 = (6 : Int32) by decide), if_neg (show ¬ nI 9 = (7 : Int32) by decide), if_neg (show ¬ nI 9 = (8 : Int32) by decide)]
  have eN : mNum 9 o bu = (0, 0, if sp_Te_isWord 19 t tb = 0 then sp_Mo_must 0 1 o else sp_Mo_goOn o bu) := by
    unfold mNum
    rw [if_neg (by decide), e0, eM]
  have eC : sp_Pr_takeNumbers (nI k) (nI 9) pf ps t tb = (upd pf k 0, upd ps k 0, sp_Te_advance (if sp_Te_isWord 19 t tb = 0 then sp_Te_fail 1 t else t) tb) := by
    unfold sp_Pr_takeNumbers sp_Pr_takeNumbers_289
    simp only [lettn]
    rw [if_neg c1, if_neg c2, if_pos c3, if_neg (show ¬ nI 9 = (0 : Int32) by decide), if_neg (show ¬ nI 9 = (1 : Int32) by decide), if_neg (show ¬ nI 9 = (2 : Int32) by decide), if_neg (show ¬ nI 9 = (3 : Int32) by decide), if_neg (show ¬ nI 9 = (4 : Int32) by decide), if_neg (show ¬ nI 9 = (5 : Int32) by decide), if_neg (show ¬ nI 9 = (6 : Int32) by decide), if_neg (show ¬ nI 9 = (7 : Int32) by decide), if_neg (show ¬ nI 9 = (8 : Int32) by decide), if_pos (show nI 9 = (9 : Int32) from rfl), c4]
    by_cases q : sp_Te_isWord 19 t tb = 0
    · rw [if_pos q, if_pos q]
    · rw [if_neg q, if_neg q]
  have oM : mNumOk 9 o bu := by
    unfold mNumOk ok_Mo_first
    exact ⟨fun _ => t1, ⟨fun z => absurd z (by decide), fun _ => ⟨fun z => absurd z (by decide), fun _ => ⟨fun z => absurd z (by decide), fun _ => ⟨fun z => absurd z (by decide), fun _ => ⟨fun z => absurd z (by decide), fun _ => ⟨fun z => absurd z (by decide), fun _ => ⟨fun z => absurd z (by decide), fun _ => ⟨fun z => absurd z (by decide), fun _ => ⟨fun z => absurd z (by decide), fun _ => trivial⟩⟩⟩⟩⟩⟩⟩⟩⟩, fun z => absurd z (by decide)⟩
  have oA : ok_Te_advance (sp_Te_fail 1 t) tb := (goOn_TX f1).1
  have oC : ok_Pr_takeNumbers (nI k) (nI 9) pf ps t tb := by
    unfold ok_Pr_takeNumbers ok_Pr_takeNumbers_289
    simp only [lettn]
    exact ⟨fun z => absurd z c1, fun _ => ⟨fun z => absurd z c2, fun _ => ⟨fun _ => ⟨fun z => absurd z (by decide), fun _ => ⟨fun z => absurd z (by decide), fun _ => ⟨fun z => absurd z (by decide), fun _ => ⟨fun z => absurd z (by decide), fun _ => ⟨fun z => absurd z (by decide), fun _ => ⟨fun z => absurd z (by decide), fun _ => ⟨fun z => absurd z (by decide), fun _ => ⟨fun z => absurd z (by decide), fun _ => ⟨fun z => absurd z (by decide), fun _ => ⟨fun _ => ⟨w2, fun _ => ⟨oA, trivial⟩, fun _ => ⟨g1, trivial⟩⟩, fun z => absurd rfl z⟩⟩⟩⟩⟩⟩⟩⟩⟩⟩, fun z => absurd c3 z⟩⟩⟩
  rw [eC, eN]
  by_cases q : sp_Te_isWord 19 t tb = 0
  · rw [if_pos q, if_pos q]
    obtain ⟨j1, j2, s2, j3, j4, j5, j6, j7⟩ := goOn_TX f1
    obtain ⟨l1, l2, l3⟩ := j7 f2
    dsimp only
    rw [l1]
    exact ⟨oC, oM, st, Nat.le_refl _, rfl, rfl, ⟨fun z => absurd z (by decide), fun z => absurd z (by decide), fun z => absurd z (by decide), fun z => absurd z (by decide), fun z => absurd z (by decide), fun z => absurd z (by decide), fun z => absurd z (by decide), fun z => absurd z (by decide)⟩, f1, f3, fun z => absurd z f2⟩
  · rw [if_neg q, if_neg q]
    exact ⟨oC, oM, s1, g3, rfl, rfl, ⟨fun z => absurd z (by decide), fun z => absurd z (by decide), fun z => absurd z (by decide), fun z => absurd z (by decide), fun z => absurd z (by decide), fun z => absurd z (by decide), fun z => absurd z (by decide), fun z => absurd z (by decide)⟩, g4, g5, fun _ => (w5 q).1⟩
theorem nums_TX (h : TX B n st t tb o bu) {w k : Nat} (hw : w < 10) (hk : k < 30) : ok_Pr_takeNumbers (nI k) (nI w) pf ps t tb ∧ mNumOk w o bu ∧ ∃ st', st ≤ st' ∧ (sp_Pr_takeNumbers (nI k) (nI w) pf ps t tb).1 = upd pf k (mNum w o bu).1 ∧ (sp_Pr_takeNumbers (nI k) (nI w) pf ps t tb).2.1 = upd ps k (mNum w o bu).2.1 ∧
    argR w (mNum w o bu).1.toInt (mNum w o bu).2.1.toInt ∧ TX B n st' (sp_Pr_takeNumbers (nI k) (nI w) pf ps t tb).2.2 tb (mNum w o bu).2.2 bu ∧ FrT o (mNum w o bu).2.2 ∧ ((sp_Pr_takeNumbers (nI k) (nI w) pf ps t tb).2.2 5 = 0 → t 5 = 0) := by
  match w, hw with
  | 0, _ => exact nums_0 h hk
  | 1, _ => exact nums_1 h hk
  | 2, _ => exact nums_2 h hk
  | 3, _ => exact nums_3 h hk
  | 4, _ => exact nums_4 h hk
  | 5, _ => exact nums_5 h hk
  | 6, _ => exact nums_6 h hk
  | 7, _ => exact nums_7 h hk
  | 8, _ => exact nums_8 h hk
  | 9, _ => exact nums_9 h hk
  | w + 10, z => exact absurd z (by omega)
end TPA
