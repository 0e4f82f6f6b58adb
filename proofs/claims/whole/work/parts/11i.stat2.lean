section TKI
variable {B : Nat → Nat} {n st : Nat} {t tb o bu : IV} {su d0 d1 d2 d3 d4 tq rT wT : IV} {dr : LV} {X : Nat → Prop}
theorem tx_err_same (h : TX B n st t tb o bu) (h5 : ¬ t 5 = 0) (c : Int32) : sp_Mo_must 0 c o = o := by
  have g0 : ¬ o 12 = 0 := fun w => h5 ((tx_good h).1.mp w)
  unfold sp_Mo_must
  simp only [lettn]
  rw [good0 g0, if_pos rfl]
/-- the ratio's second half -/
theorem ratio_tail (h : TX B n st t tb o bu) (hd : t 5 = 0 → DrX X d0 d1 d2 d3 d4 dr) {k : Nat} (hk : k < 5) :
    ok_Te_number (-50000) 50000 t tb ∧ ok_Mo_signed (-50000) 50000 o bu ∧ ∃ st', st ≤ st' ∧ TX B n st' (sp_Te_number (-50000) 50000 t tb).2 tb (sp_Mo_signed (-50000) 50000 o bu).2 bu ∧ FrT o (sp_Mo_signed (-50000) 50000 o bu).2 ∧
      ((sp_Te_number (-50000) 50000 t tb).2 5 = 0 → DrX X d0 d1 (sp_Pa_setErrorOfKind (nI k) (sp_Te_number (-50000) 50000 t tb).1 d2) d3 d4 (vp_updL dr (7 + k) (sp_Mo_signed (-50000) 50000 o bu).1)) := by
  have eA : ∀ k, k < 5 → pA (7 + k) = 2 ∧ pI (7 + k) = k ∧ rLo (7 + k) = -50000 ∧ rHi 0 (7 + k) = 50000 := by decide
  obtain ⟨e1, e2, e3, e4⟩ := eA k hk
  obtain ⟨a1, a2, s1, a3, a4, a5, a6, a7⟩ := sgnset2 (d0 := d0) (d1 := d1) (d2 := d2) (d3 := d3) (d4 := d4) h hd (k := 7 + k) (j := k) (by omega) e1 e2 (p1 := -50000) (p2 := 50000) (q1 := -50000) (q2 := 50000) rfl rfl rfl rfl (by decide) (by decide) (by rw [e3, e4]; decide)
  refine ⟨a1, a2, s1, a3, a4, a5, fun w => ?_⟩
  have z := drx_mono (a7 w) (Y := X) (fun k _ q => q.1)
  have eS : sp_Pa_setErrorOfKind (nI k) (sp_Te_number (-50000) 50000 t tb).1 d2 = upd d2 k (sp_Te_number (-50000) 50000 t tb).1 := by
    unfold sp_Pa_setErrorOfKind
    simp only [lettn]
    rw [if_neg (by rw [show (0 : Int32) = nI 0 from rfl, nzlt (by omega) (by omega)]; omega), if_neg (by rw [show (5 : Int32) = nI 5 from rfl, nzle (by omega) (by omega)]; omega), cl_nI (by omega)]
  rw [eS]
  exact z
theorem mk8 : ∀ k, k < 5 → (256 : Int32) <<< (nI k &&& 31) = mk (8 + k) := by decide +kernel
theorem fg8 (k : Nat) : Fg tq rT wT (8 + k) = rT k := by
  unfold Fg
  rw [if_neg (by omega), if_neg (by omega)]
  congr 1; omega
theorem fg8_set (hf : FlR su tq rT wT) {k : Nat} (hk : k < 5) : FlR (upd su 2 (su 2 ||| mk (8 + k))) tq (upd rT k 1) wT := flr_set hf (by omega) (by rw [fg8, us]; decide) (fun j hj q => by
  unfold Fg
  by_cases w : j < 6
  · rw [if_pos w, if_pos w]
  · rw [if_neg w, if_neg w]
    by_cases w2 : j < 8
    · rw [if_pos w2, if_pos w2]
    · rw [if_neg w2, if_neg w2, un (by omega)])
/-- the ratio's resistors -/
theorem st_ratio (h : SR B n st su t tb d0 d1 d2 d3 d4 o bu tq rT wT dr) :
    ok_Su_takeRatio su t tb d2 ∧ ok_Mo_readRatio o dr bu rT ∧ ∃ st', st ≤ st' ∧
      SR B n st' (sp_Su_takeRatio su t tb d2).1 (sp_Su_takeRatio su t tb d2).2.1 tb d0 d1 (sp_Su_takeRatio su t tb d2).2.2 d3 d4 (sp_Mo_readRatio o dr bu rT).1 bu tq (sp_Mo_readRatio o dr bu rT).2.2 wT (sp_Mo_readRatio o dr bu rT).2.1 ∧ FrT o (sp_Mo_readRatio o dr bu rT).1 := by
  obtain ⟨h1, h2, h3⟩ := h
  obtain ⟨g1, g2, s1, g3, g4, g5, g6, g7⟩ := goOn_TX h1
  have hgood : sp_Te_advance t tb 5 = 0 → t 5 = 0 := fun w => Decidable.byContradiction fun z => z (by rw [(g7 z).1] at w; exact w)
  generalize ht2 : sp_Te_advance t tb = t2 at *
  generalize ho2 : sp_Mo_goOn o bu = o2 at *
  obtain ⟨a1, a2, hc⟩ := ahead_TX g4 (p1 := 0) (p2 := 4) (q1 := 0) (q2 := 4) (lo := 0) (hi := 4) rfl rfl rfl rfl (by decide)
  unfold sp_Su_takeRatio ok_Su_takeRatio sp_Su_takeRatio_49 ok_Su_takeRatio_49 sp_Mo_readRatio ok_Mo_readRatio sp_Mo_readRatio_29 ok_Mo_readRatio_29
  simp only [lettn]
  rw [ht2, ho2, nar1]
  generalize hy5 : sp_Te_number 0 4 t2 tb = y5 at *
  generalize hy4 : sp_Mo_numberAhead 0 4 o2 bu = y4 at *
  -- what both go on with
  have key : ∃ k, k < 5 ∧ y5.1 = nI k ∧ y4.1 = lN k ∧
      (rT k = 0 → ok_Mo_goOn y4.2 bu ∧ ∃ s2, s1 ≤ s2 ∧ TX B n s2 y5.2 tb (sp_Mo_goOn y4.2 bu) bu ∧ FrT o2 (sp_Mo_goOn y4.2 bu) ∧ (y5.2 5 = 0 → t2 5 = 0)) ∧
      (¬ rT k = 0 → ok_Mo_goOn (sp_Mo_must 0 3 y4.2) bu ∧ ∃ s2, s1 ≤ s2 ∧ TX B n s2 (sp_Te_failAt 3 (t2 3) y5.2) tb (sp_Mo_goOn (sp_Mo_must 0 3 y4.2) bu) bu ∧ FrT o2 (sp_Mo_goOn (sp_Mo_must 0 3 y4.2) bu) ∧ (sp_Te_failAt 3 (t2 3) y5.2 5 = 0 → t2 5 = 0)) := by
    rcases hc with ⟨c1, c2, V, v1, v2, v3, v4, v5, v6⟩ | ⟨v1, v2, v3, v4, v5⟩
    · have eV : ∃ k : Nat, V = k := ⟨V.toNat, by omega⟩
      obtain ⟨k, rfl⟩ := eV
      obtain ⟨j1, j2, s2, j3, j4, j5, j6, j7⟩ := goOn_TX g4
      refine ⟨k, by omega, nIo v3, Int64.toInt_inj.mp (by rw [v5, lNz (by omega)]), fun _ => ?_, fun _ => ?_⟩
      · rw [v4, v6]
        exact ⟨j2, s2, j3, j4, j5, fun _ => c1⟩
      · have e3 : t2 3 = nI s1 := by
          obtain ⟨-, en, kk, -, -, -, -, q | q⟩ := g4
          · exact q.2.2.2.2.1
          · exact absurd c1 q.1
        have f := failAt_TX g4 (t1 := y5.2) (by rw [v4]; exact (j4.1.2.2.1).trans g4.1.2.2.1.symm) c1 (by rw [v4]; exact (j6 c1).1) (c := 3) (by decide)
        obtain ⟨f1, f2, f3⟩ := f
        rw [e3, v6]
        obtain ⟨l1, l2, s3, l3, l4, l5, l6, l7⟩ := goOn_TX f1
        obtain ⟨w1, w2, w3⟩ := l7 f2
        rw [w1] at l4
        exact ⟨l2, s3, l3, l4, frt_tr f3 l5, fun _ => c1⟩
    · obtain ⟨l1, l2, s3, l3, l4, l5, l6, l7⟩ := goOn_TX v3
      obtain ⟨w1, w2, w3⟩ := l7 v4
      rw [w1] at l4
      refine ⟨0, by decide, v1, v2, fun _ => ⟨l2, s3, l3, l4, frt_tr v5 l5, fun w => absurd w v4⟩, fun _ => ?_⟩
      have eF : sp_Te_failAt 3 (t2 3) y5.2 = y5.2 := by
        unfold sp_Te_failAt
        simp only [lettn]
        rw [if_neg v4]
      rw [tx_err_same v3 v4, eF]
      exact ⟨l2, s3, l3, l4, frt_tr v5 l5, fun w => absurd w v4⟩
  obtain ⟨k, k5, k1, k2, k3, k4⟩ := key
  have ek : y4.1.toInt32 = nI k := by rw [k2, ← w_lit k (by omega), wn_id]
  have e7 : (7 : Int32) + nI k = nI (7 + k) := nzadd 7 k (by omega)
  have hfk : (su 2 &&& mk (8 + k) = 0) ↔ rT k = 0 := by
    have := h2 (8 + k) (by omega)
    rw [fg8] at this
    exact this
  rw [ek, k1, mk8 k k5, e7, cl_nI (by omega), cl_nI (by omega)]
  have hset := fg8_set h2 k5
  have v5 : vp_in (nI k) 5 := vp_nI k5 (by decide)
  have v215 : vp_in (nI (7 + k)) 215 := vp_nI (by omega) (by decide)
  by_cases q : rT k = 0
  · have qs := hfk.mpr q
    obtain ⟨r1, s2, r2, r3, r4, r5⟩ := k3 q
    obtain ⟨u1, u2, s3, u3, u4, u5, u6⟩ := ratio_tail r3 (fun w => h3 (hgood (r5 w))) k5
    rw [if_pos qs, if_pos q, must_1 (p := 1) (by decide)]
    dsimp only
    exact ⟨⟨g1, a1, fun _ => ⟨u1, trivial⟩, fun w => absurd qs w⟩, ⟨g2, a2, v5, fun _ => ⟨r1, v5, u2, v215, trivial⟩, fun w => absurd q w⟩, s3, Nat.le_trans g3 (Nat.le_trans r2 u3), ⟨u4, hset, u6⟩, frt_tr g5 (frt_tr r4 u5)⟩
  · have qs : ¬ su 2 &&& mk (8 + k) = 0 := fun w => q (hfk.mp w)
    obtain ⟨r1, s2, r2, r3, r4, r5⟩ := k4 q
    obtain ⟨u1, u2, s3, u3, u4, u5, u6⟩ := ratio_tail r3 (fun w => h3 (hgood (r5 w))) k5
    rw [if_neg qs, if_neg q]
    dsimp only
    refine ⟨⟨g1, a1, fun w => absurd w qs, fun _ => ⟨u1, trivial⟩⟩, ⟨g2, a2, v5, fun w => absurd w q, fun _ => ⟨r1, v5, u2, v215, trivial⟩⟩, s3, Nat.le_trans g3 (Nat.le_trans r2 u3), ⟨?_, ?_, ?_⟩, ?_⟩
    · exact u4
    · exact hset
    · exact u6
    · exact frt_tr g5 (frt_tr r4 u5)
end TKI
