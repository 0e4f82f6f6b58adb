section TKF
variable {B : Nat → Nat} {n st : Nat} {t tb o bu : IV}
theorem must_cells {p c : Int32} {k : Nat} (hk : k < 12 ∨ 14 ≤ k) : sp_Mo_must p c o k = o k := by
  unfold sp_Mo_must
  simp only [lettn]
  split
  · rfl
  · split
    · rw [un (by omega), un (by omega)]
    · rfl
/-- the class fails at what is no number -/
theorem c_num_no {ng p1 p2 : Int32} (h2 : ¬ t 2 = (48 : Int32)) : ok_Te_number_27 ng p1 p2 tb t ∧ sp_Te_number_27 ng p1 p2 tb t = (p1, sp_Te_fail 1 t) := by
  unfold sp_Te_number_27 ok_Te_number_27
  simp only [lettn]
  rw [if_neg h2]
  exact ⟨⟨fun w => absurd w h2, fun _ => trivial⟩, rfl⟩
theorem good1 (h : o 12 = 0) : sp_Mo_good o = 1 := by unfold sp_Mo_good; rw [if_pos h]
theorem good0 (h : ¬ o 12 = 0) : sp_Mo_good o = 0 := by unfold sp_Mo_good; rw [if_neg h]
/-- a number ahead: the class goes past it, the reference doesn't yet -/
theorem ahead_TX (h : TX B n st t tb o bu) {p1 p2 : Int32} {q1 q2 : Int64} {lo hi : Int} (hp1 : p1.toInt = lo) (hp2 : p2.toInt = hi) (hq1 : q1.toInt = lo) (hq2 : q2.toInt = hi) (h0 : 0 ≤ lo) :
    ok_Te_number p1 p2 t tb ∧ ok_Mo_numberAhead q1 q2 o bu ∧
    ((t 5 = 0 ∧ ¬ t 2 = 0 ∧ ∃ V : Int, lo ≤ V ∧ V ≤ hi ∧ (sp_Te_number p1 p2 t tb).1.toInt = V ∧ (sp_Te_number p1 p2 t tb).2 = sp_Te_advance t tb ∧ (sp_Mo_numberAhead q1 q2 o bu).1.toInt = V ∧ (sp_Mo_numberAhead q1 q2 o bu).2 = o) ∨
     ((sp_Te_number p1 p2 t tb).1 = p1 ∧ (sp_Mo_numberAhead q1 q2 o bu).1 = q1 ∧ TX B n st (sp_Te_number p1 p2 t tb).2 tb (sp_Mo_numberAhead q1 q2 o bu).2 bu ∧ ¬ (sp_Te_number p1 p2 t tb).2 5 = 0 ∧ FrT o (sp_Mo_numberAhead q1 q2 o bu).2)) := by
  have hp : (0 : Int32) ≤ p1 := by rw [Int32.le_iff_toInt_le, hp1]; exact h0
  have eT : sp_Te_number p1 p2 t tb = sp_Te_number_27 0 p1 p2 tb t := by
    unfold sp_Te_number sp_Te_number_17 sp_Te_number_18
    rw [if_pos hp, if_pos rfl]
  have oT : ok_Te_number_27 0 p1 p2 tb t → ok_Te_number p1 p2 t tb := fun q => by
    unfold ok_Te_number ok_Te_number_17 ok_Te_number_18
    exact ⟨fun _ => ⟨fun _ => q, fun w => absurd rfl w⟩, fun w => absurd hp w⟩
  obtain ⟨hb, en, kk, e9, e10, e11, ht, hh⟩ := id h
  have hn := hb.1
  have hle := ht.1
  have hen := ht.2.1
  have hbm : ∀ k, k < n → B k < 256 ∧ bu k = nI (B k) := fun k q => ⟨(hb.2.2.2 k q).2.1, (hb.2.2.2 k q).2.2.1⟩
  have hbc : ∀ k, k < n → B k < 256 ∧ tb k = sb (B k) := fun k q => ⟨(hb.2.2.2 k q).2.1, (hb.2.2.2 k q).2.2.2⟩
  have hok : ∀ o' : IV, o' 9 = o 9 → o' 10 = o 10 → ok_Mo_numberHere o' bu := fun o' a b => m_here_ok (a.trans e9) (b.trans e10) (by omega) (by omega)
  have hgo := (goOn_TX h).1
  -- the reference behind an error
  have r38 : ∀ o' : IV, ¬ o' 12 = 0 → sp_Mo_numberAhead_38 o' q1 bu = (q1, o') ∧ ok_Mo_numberAhead_38 o' q1 bu := fun o' q => by
    unfold sp_Mo_numberAhead_38 ok_Mo_numberAhead_38 sp_Mo_numberAhead_43 ok_Mo_numberAhead_43
    simp only [lettn]
    rw [must_1 (by decide), good0 q, if_pos rfl]
    exact ⟨rfl, fun _ => trivial, fun w => absurd rfl w⟩
  by_cases h5 : t 5 = 0
  · have h12 := (tx_good h).1.mpr h5
    obtain ⟨k1, k2, k3, k4, k5⟩ := tx_kind h h5
    by_cases u2 : t 2 = (48 : Int32)
    · rcases hh with hh | hh
      · obtain ⟨-, -, -, -, h3, h4, hck⟩ := hh
        have hk := tok_ck hb ht
        have hkk : kk = 2 := by
          rw [hck, show (48 : Int32) = nI 48 from rfl, nzinj (by omega) (by omega)] at u2
          omega
        have hd : ∀ k, st ≤ k → k < en → kc (B k) = 48 := by
          rcases ht.2.2 with ⟨e, -⟩ | ⟨e, -⟩ | ⟨-, -, w⟩ | ⟨e, -⟩
          · omega
          · omega
          · exact w
          · omega
        have q1' : o 11 = 2 := k1.mpr u2
        obtain ⟨v1, v2⟩ := m_here hn hbm e9 e10 hle hen hd
        obtain ⟨c1, c2, c3⟩ := c_num (ng := 0) (p1 := p1) (p2 := p2) hn hbc h4 h3 hle hen hd u2 hp1 hp2 hgo
        have inn := in_iff v1 hq1 hq2
        have hsg : sg 0 (dv B st (nL st en)) = dv B st (nL st en) := if_pos rfl
        rw [hsg] at c2 c3
        by_cases q : en - st ≤ 9 ∧ lo ≤ (dv B st (nL st en) : Int) ∧ (dv B st (nL st en) : Int) ≤ hi
        · obtain ⟨x, x1, x2⟩ := c2 q
          have env : nv B st en = dv B st (nL st en) := by unfold nv; rw [if_pos q.1]
          rw [env] at v1 inn
          have i1 := inn.1 q.2
          refine ⟨oT c1, ?_, Or.inl ⟨h5, by rw [u2]; decide, dv B st (nL st en), q.2.1, q.2.2, ?_, ?_, ?_, ?_⟩⟩
          · unfold ok_Mo_numberAhead ok_Mo_numberAhead_14 ok_Mo_numberAhead_38 ok_Mo_numberAhead_43
            simp only [lettn]
            rw [must_1 (p := 1) (by decide), must_1 (p := 1) (by decide), good1 h12, i1]
            exact ⟨fun _ => ⟨fun w => absurd w (by decide), fun _ => ⟨hok o rfl rfl, fun w => absurd w (by decide), fun _ => ⟨fun w => absurd w (by decide), fun _ => ⟨hok o rfl rfl, trivial⟩⟩⟩⟩, fun w => absurd q1' w⟩
          · rw [eT, x2]; exact x1
          · rw [eT, x2]
          · unfold sp_Mo_numberAhead sp_Mo_numberAhead_14 sp_Mo_numberAhead_38 sp_Mo_numberAhead_43
            simp only [lettn]
            rw [if_pos q1', must_1 (p := 1) (by decide), must_1 (p := 1) (by decide), good1 h12, i1, if_neg (by decide), if_neg (by decide), if_neg (by decide)]
            exact v1
          · unfold sp_Mo_numberAhead sp_Mo_numberAhead_14 sp_Mo_numberAhead_38 sp_Mo_numberAhead_43
            simp only [lettn]
            rw [if_pos q1', must_1 (p := 1) (by decide), must_1 (p := 1) (by decide), good1 h12, i1, if_neg (by decide), if_neg (by decide), if_neg (by decide)]
        · have ex := c3 q
          have i0 : sp_Mo_in (sp_Mo_numberHere o bu) q1 q2 = 0 := inn.2 (by
            unfold nv
            intro w
            by_cases q9 : en - st ≤ 9
            · rw [if_pos q9] at w; exact q ⟨q9, w⟩
            · rw [if_neg q9] at w; omega)
          obtain ⟨f1, f2, f3, -⟩ := fail_TX h (c := 2) (by decide)
          have g0 : ¬ (sp_Mo_must 0 2 o) 12 = 0 := fun w => f2 ((tx_good f1).1.mp w)
          have em : sp_Mo_numberAhead q1 q2 o bu = (q1, sp_Mo_must 0 2 o) := by
            unfold sp_Mo_numberAhead sp_Mo_numberAhead_14 sp_Mo_numberAhead_43
            simp only [lettn]
            rw [if_pos q1', must_1 (p := 1) (by decide), good1 h12, i0, if_neg (by decide), if_pos rfl, good0 g0, if_pos rfl]
          rw [em, eT, ex]
          refine ⟨oT c1, ?_, Or.inr ⟨rfl, rfl, f1, f2, f3⟩⟩
          unfold ok_Mo_numberAhead ok_Mo_numberAhead_14 ok_Mo_numberAhead_38 ok_Mo_numberAhead_43
          simp only [lettn]
          rw [must_1 (p := 1) (by decide), must_1 (p := 1) (by decide), good1 h12, i0, good0 g0]
          exact ⟨fun _ => ⟨fun w => absurd w (by decide), fun _ => ⟨hok o rfl rfl, fun _ => ⟨fun _ => trivial, fun w => absurd rfl w⟩, fun w => absurd rfl w⟩⟩, fun w => absurd q1' w⟩
      · exact absurd h5 hh.1
    · have q1' : ¬ o 11 = 2 := fun w => u2 (k1.mp w)
      obtain ⟨c1, c2⟩ := c_num_no (tb := tb) (ng := 0) (p1 := p1) (p2 := p2) u2
      obtain ⟨f1, f2, f3, -⟩ := fail_TX h (c := 1) (by decide)
      have g0 : ¬ (sp_Mo_must 0 1 o) 12 = 0 := fun w => f2 ((tx_good f1).1.mp w)
      obtain ⟨r1, r2⟩ := r38 _ g0
      have em : sp_Mo_numberAhead q1 q2 o bu = (q1, sp_Mo_must 0 1 o) := by
        unfold sp_Mo_numberAhead sp_Mo_numberAhead_14
        simp only [lettn]
        rw [if_neg q1', good0 g0, if_pos rfl, r1]
      rw [em, eT, c2]
      refine ⟨oT c1, ?_, Or.inr ⟨rfl, rfl, f1, f2, f3⟩⟩
      unfold ok_Mo_numberAhead ok_Mo_numberAhead_14
      simp only [lettn]
      rw [good0 g0]
      exact ⟨fun w => absurd w q1', fun _ => ⟨fun _ => r2, fun w => absurd rfl w⟩⟩
  · have h12 : ¬ o 12 = 0 := fun w => h5 ((tx_good h).1.mp w)
    have u2 : ¬ t 2 = (48 : Int32) := by rw [tx_err h h5]; decide
    obtain ⟨c1, c2⟩ := c_num_no (tb := tb) (ng := 0) (p1 := p1) (p2 := p2) u2
    obtain ⟨f1, f2, f3, f4⟩ := fail_TX h (c := 1) (by decide)
    obtain ⟨e1, e2⟩ := f4 h5
    obtain ⟨r1, r2⟩ := r38 o h12
    have em : sp_Mo_numberAhead q1 q2 o bu = (q1, o) := by
      unfold sp_Mo_numberAhead sp_Mo_numberAhead_14
      simp only [lettn]
      rw [must_1 (p := 1) (by decide), e2, good0 h12, if_pos rfl, r1, ite_self]
    rw [em, eT, c2, e1]
    refine ⟨oT c1, ?_, Or.inr ⟨rfl, rfl, h, h5, frt_rf o⟩⟩
    unfold ok_Mo_numberAhead ok_Mo_numberAhead_14
    simp only [lettn]
    rw [must_1 (p := 1) (by decide), e2, good0 h12]
    exact ⟨fun _ => ⟨fun _ => r2, fun w => absurd rfl w⟩, fun _ => ⟨fun _ => r2, fun w => absurd rfl w⟩⟩
/-- a number within its range -/
theorem number_TX (h : TX B n st t tb o bu) {p1 p2 : Int32} {q1 q2 : Int64} {lo hi : Int} (hp1 : p1.toInt = lo) (hp2 : p2.toInt = hi) (hq1 : q1.toInt = lo) (hq2 : q2.toInt = hi) (h0 : 0 ≤ lo) (hlh : lo ≤ hi) :
    ok_Te_number p1 p2 t tb ∧ ok_Mo_number q1 q2 o bu ∧ ∃ st', st ≤ st' ∧ TX B n st' (sp_Te_number p1 p2 t tb).2 tb (sp_Mo_number q1 q2 o bu).2 bu ∧ FrT o (sp_Mo_number q1 q2 o bu).2 ∧
      (∃ V : Int, lo ≤ V ∧ V ≤ hi ∧ (sp_Te_number p1 p2 t tb).1.toInt = V ∧ (sp_Mo_number q1 q2 o bu).1.toInt = V) ∧ ((sp_Te_number p1 p2 t tb).2 5 = 0 → t 5 = 0 ∧ st < st') := by
  obtain ⟨a1, a2, ⟨h5, k, V, v1, v2, v3, v4, v5, v6⟩ | ⟨v1, v2, v3, v4, v5⟩⟩ := ahead_TX h hp1 hp2 hq1 hq2 h0
  · obtain ⟨g1, g2, st', g3, g4, g5, g6, g7⟩ := goOn_TX h
    unfold sp_Mo_number ok_Mo_number
    simp only [lettn]
    rw [v6, v4]
    exact ⟨a1, ⟨a2, g2, trivial⟩, st', g3, g4, g5, ⟨V, v1, v2, v3, v5⟩, fun _ => ⟨h5, (g6 h5).2.2.2 k⟩⟩
  · obtain ⟨g1, g2, st', g3, g4, g5, g6, g7⟩ := goOn_TX v3
    obtain ⟨e1, e2, e3⟩ := g7 v4
    rw [e1] at g4
    unfold sp_Mo_number ok_Mo_number
    simp only [lettn]
    exact ⟨a1, ⟨a2, g2, trivial⟩, st', g3, g4, frt_tr v5 g5, ⟨lo, Int.le_refl _, hlh, by rw [v1]; exact hp1, by rw [v2]; exact hq1⟩, fun w => absurd w v4⟩
/-- a number behind a sign or none -/
theorem s17 (h : TX B n st t tb o bu) {y2 ng p1 p2 : Int32} {q1 q2 : Int64} {lo hi : Int} (hg : (y2 = 0 ∧ ng = 0) ∨ (¬ y2 = 0 ∧ ¬ ng = 0)) (hp1 : p1.toInt = lo) (hp2 : p2.toInt = hi) (hq1 : q1.toInt = lo) (hq2 : q2.toInt = hi) (h0 : -2000000000 < lo) :
    ok_Te_number_27 ng p1 p2 tb t ∧ ok_Mo_signed_17 y2 bu q1 q2 o ∧ ∃ st', st ≤ st' ∧ TX B n st' (sp_Te_number_27 ng p1 p2 tb t).2 tb (sp_Mo_signed_17 y2 bu q1 q2 o).2 bu ∧ FrT o (sp_Mo_signed_17 y2 bu q1 q2 o).2 ∧
      ((sp_Te_number_27 ng p1 p2 tb t).2 5 = 0 → t 5 = 0 ∧ st < st' ∧ ∃ V : Int, lo ≤ V ∧ V ≤ hi ∧ (sp_Te_number_27 ng p1 p2 tb t).1.toInt = V ∧ (sp_Mo_signed_17 y2 bu q1 q2 o).1.toInt = V) := by
  obtain ⟨hb, en, kk, e9, e10, e11, ht, hh⟩ := id h
  have hn := hb.1
  have hle := ht.1
  have hen := ht.2.1
  have hbm : ∀ k, k < n → B k < 256 ∧ bu k = nI (B k) := fun k q => ⟨(hb.2.2.2 k q).2.1, (hb.2.2.2 k q).2.2.1⟩
  have hbc : ∀ k, k < n → B k < 256 ∧ tb k = sb (B k) := fun k q => ⟨(hb.2.2.2 k q).2.1, (hb.2.2.2 k q).2.2.2⟩
  have hok : ∀ o' : IV, o' 9 = o 9 → o' 10 = o 10 → ok_Mo_numberHere o' bu := fun o' a b => m_here_ok (a.trans e9) (b.trans e10) (by omega) (by omega)
  have hgo := (goOn_TX h).1
  -- behind an error nothing more is read
  have bad : ∀ (o' : IV), TX B n st (sp_Te_number_27 ng p1 p2 tb t).2 tb o' bu → ¬ (sp_Te_number_27 ng p1 p2 tb t).2 5 = 0 → FrT o o' → o' 9 = o 9 → o' 10 = o 10 → ∀ v : Int64, ok_Mo_signed_61 o' bu q1 q2 v ∧ (sp_Mo_signed_61 o' bu q1 q2 v).2 = o' := fun o' w1 w2 w3 w4 w5 v => by
    have g0 : ¬ o' 12 = 0 := fun w => w2 ((tx_good w1).1.mp w)
    obtain ⟨g1, g2, st', g3, g4, g5, g6, g7⟩ := goOn_TX w1
    unfold sp_Mo_signed_61 ok_Mo_signed_61 sp_Mo_signed_81 ok_Mo_signed_81 sp_Mo_signed_86 ok_Mo_signed_86
    simp only [lettn]
    rw [good0 g0, if_pos rfl, must_1 (p := 1) (by decide)]
    exact ⟨⟨fun _ => ⟨g2, trivial⟩, fun w => absurd rfl w⟩, (g7 w2).2.1⟩
  -- the reference's number, whatever it is
  have s57 : ∀ (o' : IV) (y : Int32), o' 9 = o 9 → o' 10 = o 10 → (∀ v : Int64, ok_Mo_signed_61 o' bu q1 q2 v) → (((y = 0 → ok_Mo_signed_57 o' bu q1 q2) ∧ (¬ y = 0 → ok_Mo_numberHere o' bu ∧ ((sp_Mo_numberHere o' bu < 0 → ok_Mo_signed_57 o' bu q1 q2) ∧ (¬ sp_Mo_numberHere o' bu < 0 → ok_Mo_signed_61 o' bu q1 q2 (-sp_Mo_numberHere o' bu)))))) := fun o' y a b w => by
    have k := hok o' a b
    have z : ok_Mo_signed_57 o' bu q1 q2 := by
      unfold ok_Mo_signed_57
      simp only [lettn]
      exact ⟨k, w _⟩
    exact ⟨fun _ => z, fun _ => ⟨k, fun _ => z, fun _ => w _⟩⟩
  have s31 : ∀ (o' : IV), (∀ v : Int64, (sp_Mo_signed_61 o' bu q1 q2 v).2 = o') → (if y2 = 0 then sp_Mo_signed_57 o' bu q1 q2 else (if sp_Mo_numberHere o' bu < 0 then sp_Mo_signed_57 o' bu q1 q2 else sp_Mo_signed_61 o' bu q1 q2 (-sp_Mo_numberHere o' bu))).2 = o' := fun o' w => by
    have z : (sp_Mo_signed_57 o' bu q1 q2).2 = o' := by unfold sp_Mo_signed_57; simp only [lettn]; exact w _
    split
    · exact z
    · split
      · exact z
      · exact w _
  by_cases h5 : t 5 = 0
  · have h12 := (tx_good h).1.mpr h5
    obtain ⟨k1, k2, k3, k4, k5⟩ := tx_kind h h5
    by_cases u2 : t 2 = (48 : Int32)
    · rcases hh with hh | hh
      · obtain ⟨-, -, -, -, h3, h4, hck⟩ := hh
        have hk := tok_ck hb ht
        have hkk : kk = 2 := by
          rw [hck, show (48 : Int32) = nI 48 from rfl, nzinj (by omega) (by omega)] at u2
          omega
        have hd : ∀ k, st ≤ k → k < en → kc (B k) = 48 := by
          rcases ht.2.2 with ⟨e, -⟩ | ⟨e, -⟩ | ⟨-, -, w⟩ | ⟨e, -⟩
          · omega
          · omega
          · exact w
          · omega
        have q1' : o 11 = 2 := k1.mpr u2
        obtain ⟨v1, v2⟩ := m_here hn hbm e9 e10 hle hen hd
        obtain ⟨c1, c2, c3⟩ := c_num (ng := ng) (p1 := p1) (p2 := p2) hn hbc h4 h3 hle hen hd u2 hp1 hp2 hgo
        -- the reference's value
        have hv : ∃ v : Int64, v.toInt = (if en - st ≤ 9 then sg ng (dv B st (nL st en)) else -2000000000) ∧ (if y2 = 0 then sp_Mo_signed_57 o bu q1 q2 else (if sp_Mo_numberHere o bu < 0 then sp_Mo_signed_57 o bu q1 q2 else sp_Mo_signed_61 o bu q1 q2 (-sp_Mo_numberHere o bu))) = sp_Mo_signed_61 o bu q1 q2 v := by
          have z : sp_Mo_signed_57 o bu q1 q2 = sp_Mo_signed_61 o bu q1 q2 (sp_Mo_numberHere o bu) := by unfold sp_Mo_signed_57; rfl
          unfold nv at v1
          rcases hg with ⟨g1, g2⟩ | ⟨g1, g2⟩
          · rw [if_pos g1]
            refine ⟨_, ?_, z⟩
            rw [v1]; unfold sg; rw [if_pos g2]
          · rw [if_neg g1]
            have z0 : (0 : Int64).toInt = 0 := rfl
            by_cases q9 : en - st ≤ 9
            · rw [if_pos q9] at v1
              have cN : ¬ sp_Mo_numberHere o bu < 0 := by rw [Int64.lt_iff_toInt_lt, v1, z0]; omega
              refine ⟨-sp_Mo_numberHere o bu, ?_, if_neg cN⟩
              rw [if_pos q9, Kit.i64_neg (by rw [v1]; omega), v1]
              unfold sg; rw [if_neg g2]
            · rw [if_neg q9] at v1
              have cN : sp_Mo_numberHere o bu < 0 := by rw [Int64.lt_iff_toInt_lt, v1, z0]; decide
              refine ⟨sp_Mo_numberHere o bu, ?_, (if_pos cN).trans z⟩
              rw [v1, if_neg q9]
        obtain ⟨v, hv1, hv2⟩ := hv
        have inn := in_iff hv1 hq1 hq2
        have e31 : sp_Mo_signed_17 y2 bu q1 q2 o = sp_Mo_signed_61 o bu q1 q2 v := by
          unfold sp_Mo_signed_17 sp_Mo_signed_31
          simp only [lettn]
          rw [if_pos q1', must_1 (p := 1) (by decide)]
          exact hv2
        obtain ⟨g1, g2, st', g3, g4, g5, g6, g7⟩ := goOn_TX h
        obtain ⟨f1, f2, f3, -⟩ := fail_TX h (c := 2) (by decide)
        obtain ⟨j1, j2, st2, j3, j4, j5, j6, j7⟩ := goOn_TX f1
        have o61 : ∀ v : Int64, ok_Mo_signed_61 o bu q1 q2 v := fun v => by
          unfold ok_Mo_signed_61 ok_Mo_signed_81 ok_Mo_signed_86
          simp only [lettn]
          rw [good1 h12, must_1 (p := 1) (by decide)]
          exact ⟨fun w => absurd w (by decide), fun _ => ⟨fun _ => ⟨j2, trivial⟩, fun _ => ⟨g2, trivial⟩⟩⟩
        have o17 : ok_Mo_signed_17 y2 bu q1 q2 o := by
          unfold ok_Mo_signed_17 ok_Mo_signed_31
          simp only [lettn]
          rw [must_1 (p := 1) (by decide)]
          exact ⟨fun _ => s57 o y2 rfl rfl o61, fun w => absurd q1' w⟩
        rw [e31]
        by_cases q : en - st ≤ 9 ∧ lo ≤ sg ng (dv B st (nL st en)) ∧ sg ng (dv B st (nL st en)) ≤ hi
        · obtain ⟨x, x1, x2⟩ := c2 q
          rw [if_pos q.1] at hv1 inn
          have i1 := inn.1 q.2
          have e61 : sp_Mo_signed_61 o bu q1 q2 v = (v, sp_Mo_goOn o bu) := by
            unfold sp_Mo_signed_61 sp_Mo_signed_81 sp_Mo_signed_86
            simp only [lettn]
            rw [good1 h12, i1, if_neg (by decide), if_neg (by decide), must_1 (p := 1) (by decide)]
          rw [e61, x2]
          exact ⟨c1, o17, st', g3, g4, g5, fun _ => ⟨h5, (g6 h5).2.2.2 (by rw [u2]; decide), _, q.2.1, q.2.2, x1, hv1⟩⟩
        · have ex := c3 q
          have i0 : sp_Mo_in v q1 q2 = 0 := inn.2 (by
            intro w
            by_cases q9 : en - st ≤ 9
            · rw [if_pos q9] at w; exact q ⟨q9, w⟩
            · rw [if_neg q9] at w; omega)
          have e61 : sp_Mo_signed_61 o bu q1 q2 v = (v, sp_Mo_goOn (sp_Mo_must 0 2 o) bu) := by
            unfold sp_Mo_signed_61 sp_Mo_signed_86
            simp only [lettn]
            rw [good1 h12, i0, if_neg (by decide), if_pos rfl]
          rw [e61, ex]
          obtain ⟨w1, w2, w3⟩ := j7 f2
          rw [w1] at j4
          exact ⟨c1, o17, st2, j3, j4, frt_tr f3 j5, fun w => absurd w f2⟩
      · exact absurd h5 hh.1
    · have q1' : ¬ o 11 = 2 := fun w => u2 (k1.mp w)
      obtain ⟨c1, c2⟩ := c_num_no (tb := tb) (ng := ng) (p1 := p1) (p2 := p2) u2
      obtain ⟨f1, f2, f3, -⟩ := fail_TX h (c := 1) (by decide)
      have hbad := bad (sp_Mo_must 0 1 o) (by rw [c2]; exact f1) (by rw [c2]; exact f2) f3 (must_cells (by omega)) (must_cells (by omega))
      have e17 : (sp_Mo_signed_17 y2 bu q1 q2 o).2 = sp_Mo_must 0 1 o := by
        unfold sp_Mo_signed_17 sp_Mo_signed_31
        simp only [lettn]
        rw [if_neg q1']
        exact s31 _ (fun v => (hbad v).2)
      refine ⟨c1, ?_, st, Nat.le_refl _, by rw [e17, c2]; exact f1, by rw [e17]; exact f3, fun w => absurd w (by rw [c2]; exact f2)⟩
      unfold ok_Mo_signed_17 ok_Mo_signed_31
      simp only [lettn]
      exact ⟨fun w => absurd w q1', fun _ => s57 _ y2 (must_cells (by omega)) (must_cells (by omega)) (fun v => (hbad v).1)⟩
  · have u2 : ¬ t 2 = (48 : Int32) := by rw [tx_err h h5]; decide
    obtain ⟨c1, c2⟩ := c_num_no (tb := tb) (ng := ng) (p1 := p1) (p2 := p2) u2
    obtain ⟨f1, f2, f3, f4⟩ := fail_TX h (c := 1) (by decide)
    obtain ⟨e1, e2⟩ := f4 h5
    have hbad := bad o (by rw [c2, e1]; exact h) (by rw [c2, e1]; exact h5) (frt_rf o) rfl rfl
    have em : ∀ p : Int32, sp_Mo_must p 1 o = o := fun p => by
      by_cases w : p = 0
      · rw [w]; exact e2
      · exact must_1 w
    have e17 : (sp_Mo_signed_17 y2 bu q1 q2 o).2 = o := by
      unfold sp_Mo_signed_17 sp_Mo_signed_31
      simp only [lettn]
      rw [em, em, ite_self]
      exact s31 _ (fun v => (hbad v).2)
    refine ⟨c1, ?_, st, Nat.le_refl _, by rw [e17, c2, e1]; exact h, by rw [e17]; exact frt_rf o, fun w => absurd w (by rw [c2, e1]; exact h5)⟩
    unfold ok_Mo_signed_17 ok_Mo_signed_31
    simp only [lettn]
    rw [em, em]
    exact ⟨fun _ => s57 _ y2 rfl rfl (fun v => (hbad v).1), fun _ => s57 _ y2 rfl rfl (fun v => (hbad v).1)⟩
/-- a number that may have a sign -/
theorem signed_TX (h : TX B n st t tb o bu) {p1 p2 : Int32} {q1 q2 : Int64} {lo hi : Int} (hp1 : p1.toInt = lo) (hp2 : p2.toInt = hi) (hq1 : q1.toInt = lo) (hq2 : q2.toInt = hi) (h0 : -2000000000 < lo) (h1 : lo < 0) :
    ok_Te_number p1 p2 t tb ∧ ok_Mo_signed q1 q2 o bu ∧ ∃ st', st ≤ st' ∧ TX B n st' (sp_Te_number p1 p2 t tb).2 tb (sp_Mo_signed q1 q2 o bu).2 bu ∧ FrT o (sp_Mo_signed q1 q2 o bu).2 ∧
      ((sp_Te_number p1 p2 t tb).2 5 = 0 → t 5 = 0 ∧ st < st' ∧ ∃ V : Int, lo ≤ V ∧ V ≤ hi ∧ (sp_Te_number p1 p2 t tb).1.toInt = V ∧ (sp_Mo_signed q1 q2 o bu).1.toInt = V) := by
  have hp : ¬ (0 : Int32) ≤ p1 := by rw [Int32.le_iff_toInt_le, hp1]; exact Int.not_le.mpr h1
  obtain ⟨s1, s2, s3, s4⟩ := isSign_TX h (c := 45) (by omega)
  unfold sp_Te_number ok_Te_number sp_Te_number_17 ok_Te_number_17 sp_Te_number_18 ok_Te_number_18 sp_Mo_signed ok_Mo_signed
  simp only [lettn]
  rw [if_neg hp, if_neg (show ¬ (1 : Int32) = 0 by decide), if_pos trivial]
  by_cases q : t 2 = (45 : Int32)
  · have ns : ¬ sp_Mo_isSign (45 : Int32) o bu = 0 := fun w => (s2.mp w) q
    obtain ⟨g1, g2, st', g3, g4, g5, g6, g7⟩ := goOn_TX h
    obtain ⟨g8, g9, g10, g11⟩ := g6 (s4 q)
    rw [g9] at g4 g5
    obtain ⟨r1, r2, st2, r3, r4, r5, r6⟩ := s17 g4 (y2 := sp_Mo_isSign (45 : Int32) o bu) (ng := 1) (Or.inr ⟨ns, by decide⟩) hp1 hp2 hq1 hq2 h0
    rw [if_pos q, if_neg ns]
    exact ⟨⟨fun w => absurd w hp, fun _ => ⟨fun _ => ⟨fun w => absurd w (by decide), fun _ => ⟨g1, r1⟩⟩, fun w => absurd q w⟩⟩, ⟨s1, fun w => absurd w ns, fun _ => ⟨g10, r2⟩⟩, st2, by omega, r4, frt_tr g5 r5, fun w => ⟨s4 q, by have := (r6 w).2.1; omega, (r6 w).2.2⟩⟩
  · have ns : sp_Mo_isSign (45 : Int32) o bu = 0 := s2.mpr q
    obtain ⟨r1, r2, st2, r3, r4, r5, r6⟩ := s17 h (y2 := sp_Mo_isSign (45 : Int32) o bu) (ng := 0) (Or.inl ⟨ns, rfl⟩) hp1 hp2 hq1 hq2 h0
    rw [if_neg q, if_pos ns]
    exact ⟨⟨fun w => absurd w hp, fun _ => ⟨fun w => absurd w q, fun _ => ⟨fun _ => r1, fun w => absurd trivial w⟩⟩⟩, ⟨s1, fun _ => r2, fun w => absurd ns w⟩, st2, r3, r4, r5, r6⟩
end TKF
