section CW2
variable {T : Int} {r r' : LV} {w0 w1 w2 w3 w4 : IV}
/-- the imbalance -/
theorem imb_both (h : RowOK T r) {ca : IV} (hc : CiR ca r (zS r) (zf r) (zg r) (zr r 32)) (h6 : (ca 6).toInt = zr r 31) : sp_Ci_imbalance ca = sp_Mo_deflectionNow r ∧ ok_Mo_deflectionNow r := by
  have a := c_imb h hc
  obtain ⟨b, b2⟩ := m_deflNow h
  refine ⟨e64_eq (c := -20000000000) (d := 20000000000) a ?_, b2⟩
  have e0 := z32 h6 0 0 rfl
  rcases b31 h with q | q
  · rw [if_neg (show ¬ zr r 31 = 1 by show ¬ (r 31).toInt = 1; omega)] at b
    rw [if_pos (e0.mpr q)]; exact b
  · rw [if_pos (show zr r 31 = 1 from q)] at b
    rw [if_neg (fun w => by have : (r 31).toInt = 0 := e0.mp w; omega)]; exact b
/-- one step of heating on both sides -/
theorem heat_step (hp : PR w0 w1 w2 w3 w4 r) (h : RowOK T r) {ca : IV} (hc : CiR ca r (zS r) (zf r) (zg r) (zr r 32)) (cal : LV) (on : Int32) :
    RowOK T (sp_Mo_heats on r).2 ∧ (∀ k, k ≠ 37 → k ≠ 38 → (sp_Mo_heats on r).2 k = r k) ∧ ok_Mo_heats on r ∧ ok_Ci_tick on ca cal w0 w3 w4 ∧
    CiR (sp_Ci_tick on ca cal w0 w3 w4).1 (sp_Mo_heats on r).2 (zS (sp_Mo_heats on r).2) (zf (sp_Mo_heats on r).2) (zg (sp_Mo_heats on r).2) (zr (sp_Mo_heats on r).2 32) ∧
    (sp_Ci_tick on ca cal w0 w3 w4).1 6 = ca 6 ∧ ((sp_Mo_heats on r).1 = 0 ↔ ((sp_Ci_tick on ca cal w0 w3 w4).1 7 = ca 7 ∧ (sp_Ci_tick on ca cal w0 w3 w4).1 8 = ca 8)) := by
  have hD := (zD_bd h).2.1
  obtain ⟨H1, H2, a1, a2, a3, a4, a5⟩ := m_heats h on
  obtain ⟨c1, c2, c3, -, -, -, -, c7, c8⟩ := c_tick (cal := cal) hp h hc on
  have fr : ∀ k, k ≠ 37 → k ≠ 38 → (sp_Mo_heats on r).2 k = r k := fun k h1 h2 => by rw [a3, uLn h2, uLn h1]
  have r37 : (sp_Mo_heats on r).2 37 = H1 := by rw [a3, uLn (by decide), uLs]
  have r38 : (sp_Mo_heats on r).2 38 = H2 := by rw [a3, uLs]
  have ok2 : RowOK T (sp_Mo_heats on r).2 := by
    rw [a3]; exact row_upd (row_upd h 37 _ (fun _ => by rw [a1.1]; exact a1.2) (by decide)) 38 _ (fun _ => by rw [a2.1]; exact a2.2) (by decide)
  have eS : zS (sp_Mo_heats on r).2 = zS r := zS_cong (fr 0 (by decide) (by decide)) (fun d hd => fr (33 + d) (by omega) (by omega)) hD
  have ci := c2 T (sp_Mo_heats on r).2 ok2 (fun k hk _ => fr k (by omega) (by omega)) (fr 22 (by decide) (by decide)) (by rw [zr, r37]; exact a1.1) (by rw [zr, r38]; exact a2.1)
  refine ⟨ok2, fr, a5, c1, ?_, c3, ?_⟩
  · rw [eS, show zf (sp_Mo_heats on r).2 = zf r by unfold zf zr; rw [fr 29 (by decide) (by decide)], show zg (sp_Mo_heats on r).2 = zg r by unfold zg zr; rw [fr 30 (by decide) (by decide)], zr, fr 32 (by decide) (by decide)]; exact ci
  · obtain ⟨-, -, -, -, -, -, -, -, -, d7, d8, -⟩ := hc
    have e1 : (sp_Ci_tick on ca cal w0 w3 w4).1 7 = ca 7 ↔ H1 = r 37 := by
      rw [← Int32.toInt_inj, ← Int64.toInt_inj, c7, d7, a1.1]
    have e2 : (sp_Ci_tick on ca cal w0 w3 w4).1 8 = ca 8 ↔ H2 = r 38 := by
      rw [← Int32.toInt_inj, ← Int64.toInt_inj, c8, d8, a2.1]
    rw [a4, e1, e2]
    split
    · next q => exact ⟨fun _ => q, fun _ => rfl⟩
    · next q => exact ⟨fun w => absurd w (by decide), fun w => absurd w q⟩
theorem fore_loop (r0 : LV) (o : IV) (p2 : Int32) {N : Nat} (hN : N ≤ 300) :
    ∀ (n f1 f2 i : Nat) (r : LV) (ca : IV) (cal : LV), i + n = N → n < f1 → n < f2 → PR w0 w1 w2 w3 w4 r → RowOK T r → (∀ k, k ≠ 37 → k ≠ 38 → r k = r0 k) → CiR ca r (zS r) (zf r) (zg r) (zr r 32) → (ca 6).toInt = zr r 31 →
    ok_Db_foretold_36 (nI N) p2 w0 w3 w4 f1 (nI i) ca cal ∧ ok_Mo_foretold_62 (nI N) p2 (r0 37) (r0 38) o f2 (nI i) r ∧ (sp_Mo_foretold_62 (nI N) p2 (r0 37) (r0 38) o f2 (nI i) r).2 = (o, r0) ∧ (sp_Db_foretold_36 (nI N) p2 w0 w3 w4 f1 (nI i) ca cal).1 = (sp_Mo_foretold_62 (nI N) p2 (r0 37) (r0 38) o f2 (nI i) r).1
  | n, 0, _, _, _, _, _, _, hf, _, _, _, _, _, _ => absurd hf (by omega)
  | n, f1 + 1, 0, _, _, _, _, _, _, hf, _, _, _, _, _ => absurd hf (by omega)
  | 0, f1 + 1, f2 + 1, i, r, ca, cal, hi, _, _, hp, h, hr, hc, h6 => by
    have c : nI N ≤ nI i := by rw [nzle (by omega) (by omega)]; omega
    obtain ⟨im, im2⟩ := imb_both h hc h6
    obtain ⟨-, -, -, -, -, -, -, -, -, d7, d8, -⟩ := hc
    have x7 : (ca 7).toInt64 = r 37 := Int64.toInt_inj.mp ((Kit.i64_of_i32 _).trans d7)
    have x8 : (ca 8).toInt64 = r 38 := Int64.toInt_inj.mp ((Kit.i64_of_i32 _).trans d8)
    have e1 : sp_Db_foretold_36 (nI N) p2 w0 w3 w4 (f1 + 1) (nI i) ca cal = sp_Db_foretold_53 p2 ca cal := by
      show bd_Db_foretold_36 _ _ _ _ _ _ _ _ _ = _
      unfold bd_Db_foretold_36; rw [if_pos c]
    have e2 : sp_Mo_foretold_62 (nI N) p2 (r0 37) (r0 38) o (f2 + 1) (nI i) r = sp_Mo_foretold_81 p2 (r0 37) (r0 38) r o := by
      show bd_Mo_foretold_62 _ _ _ _ _ _ _ _ = _
      unfold bd_Mo_foretold_62; rw [if_pos c]
    have e118 : ∀ t, sp_Mo_foretold_118 (r0 37) (r0 38) r o t = (t, o, r0) := fun t => by
      unfold sp_Mo_foretold_118; simp only [lettn]; rw [lay_back hr]
    rw [e1, e2]
    refine ⟨?_, ?_, ?_⟩
    · show okb_Db_foretold_36 _ _ _ _ _ _ _ _ _ _
      unfold okb_Db_foretold_36; exact ⟨fun _ => trivial, fun w => absurd c w⟩
    · show okb_Mo_foretold_62 _ _ _ _ _ _ _ _ _
      unfold okb_Mo_foretold_62 ok_Mo_foretold_81; exact ⟨fun _ => ⟨fun _ => trivial, fun _ => ⟨fun _ => trivial, fun _ => ⟨im2, trivial⟩⟩⟩, fun w => absurd c w⟩
    · unfold sp_Db_foretold_53 sp_Mo_foretold_81
      simp only [lettn, e118]
      by_cases q : p2 = 0
      · rw [if_pos q, if_pos q]; exact ⟨rfl, x7⟩
      · rw [if_neg q, if_neg q]
        by_cases q2 : p2 = 1
        · rw [if_pos q2, if_pos q2]; exact ⟨rfl, x8⟩
        · rw [if_neg q2, if_neg q2]; exact ⟨rfl, im⟩
  | n + 1, f1 + 1, f2 + 1, i, r, ca, cal, hi, h1, h2, hp, h, hr, hc, h6 => by
    have c : ¬ nI N ≤ nI i := by rw [nzle (by omega) (by omega)]; omega
    obtain ⟨s1, s2, s3, s4, s5, s6, -⟩ := heat_step hp h hc cal 1
    obtain ⟨j1, j2, j3⟩ := fore_loop r0 o p2 hN n f1 f2 (i + 1) (sp_Mo_heats 1 r).2 (sp_Ci_tick 1 ca cal w0 w3 w4).1 (sp_Ci_tick 1 ca cal w0 w3 w4).2 (by omega) (by omega) (by omega) (ps_PR (fun k hk _ => s2 k (by omega) (by omega)) hp) s1 (fun k a b => (s2 k a b).trans (hr k a b)) s5 (by rw [s6, h6, zr, zr, s2 31 (by decide) (by decide)])
    have e1 : sp_Db_foretold_36 (nI N) p2 w0 w3 w4 (f1 + 1) (nI i) ca cal = sp_Db_foretold_36 (nI N) p2 w0 w3 w4 f1 (nI (i + 1)) (sp_Ci_tick 1 ca cal w0 w3 w4).1 (sp_Ci_tick 1 ca cal w0 w3 w4).2 := by
      show bd_Db_foretold_36 _ _ _ _ _ _ _ _ _ = _
      unfold bd_Db_foretold_36; rw [if_neg c]; simp only [lettn]; rw [nzadd1 i (by omega)]
    have e2 : sp_Mo_foretold_62 (nI N) p2 (r0 37) (r0 38) o (f2 + 1) (nI i) r = sp_Mo_foretold_62 (nI N) p2 (r0 37) (r0 38) o f2 (nI (i + 1)) (sp_Mo_heats 1 r).2 := by
      show bd_Mo_foretold_62 _ _ _ _ _ _ _ _ = _
      unfold bd_Mo_foretold_62; rw [if_neg c]; simp only [lettn]; rw [nzadd1 i (by omega)]
    rw [e1, e2]
    refine ⟨?_, ?_, j3⟩
    · show okb_Db_foretold_36 _ _ _ _ _ _ _ _ _ _
      unfold okb_Db_foretold_36; simp only [lettn]; rw [nzadd1 i (by omega)]; exact ⟨fun w => absurd w c, fun _ => ⟨s4, j1⟩⟩
    · show okb_Mo_foretold_62 _ _ _ _ _ _ _ _ _
      unfold okb_Mo_foretold_62; simp only [lettn]; rw [nzadd1 i (by omega)]; exact ⟨fun w => absurd w c, fun _ => ⟨s3, j2⟩⟩
theorem fore_D (hp : PR w0 w1 w2 w3 w4 r) (h : RowOK T r) {ca : IV} {cal : LV} (hc : CirR ca cal r) (cb : IV) (cbl : LV) (o : IV) (p1 p2 : Int32) :
    ok_Mo_foretold p1 p2 o r ∧ (¬ ((0 ≤ p1.toInt ∧ p1.toInt ≤ 300) ∧ (0 ≤ p2.toInt ∧ p2.toInt ≤ 2)) → sp_Mo_foretold p1 p2 o r = (0, upd o 6 1, r)) ∧
    ((0 ≤ p1.toInt ∧ p1.toInt ≤ 300) ∧ (0 ≤ p2.toInt ∧ p2.toInt ≤ 2) → ok_Db_foretold p1 p2 w0 w3 w4 ca cal cb cbl ∧ (sp_Mo_foretold p1 p2 o r).2 = (upd o 6 0, r) ∧ (sp_Db_foretold p1 p2 w0 w3 w4 ca cal cb cbl).1 = (sp_Mo_foretold p1 p2 o r).1) := by
  obtain ⟨i1, i2⟩ := in_iff (v := p1.toInt64) (a := 0) (b := 300) (Kit.i64_of_i32 p1) rfl rfl
  obtain ⟨i3, i4⟩ := in_iff (v := p2.toInt64) (a := 0) (b := 2) (Kit.i64_of_i32 p2) rfl rfl
  have e30 : sp_Mo_foretold_30 o r p1 p2 1 = (0, upd o 6 1, r) := by
    unfold sp_Mo_foretold_30; simp only [lettn]; rw [us, if_neg (by decide)]
  have o30 : ok_Mo_foretold_30 o r p1 p2 1 := by
    unfold ok_Mo_foretold_30; simp only [lettn]; rw [us]; exact ⟨fun w => absurd w (by decide), fun _ => trivial⟩
  by_cases q1 : 0 ≤ p1.toInt ∧ p1.toInt ≤ 300
  · have t1 := i1 q1
    by_cases q2 : 0 ≤ p2.toInt ∧ p2.toInt ≤ 2
    · have t2 := i3 q2
      obtain ⟨g1, g2, g3, -⟩ := circ_copy (ca := cb) (cal := cbl) (cbl := cal) hp h hc.1 (cir_isB h hc)
      have hx := nzex q1.1
      obtain ⟨j1, j2, j3, j4⟩ := fore_loop r (upd o 6 0) p2 (N := p1.toInt.toNat) (by omega) p1.toInt.toNat big big 0 r (sp_Ci_copy cb cbl ca cal w0 w3 w4).1 (sp_Ci_copy cb cbl ca cal w0 w3 w4).2 (by omega) (by rw [big_eq]; omega) (by rw [big_eq]; omega) hp h (fun _ _ _ => rfl) g1 (by rw [g3 6 (by decide) (by decide)]; exact hc.2.1)
      rw [← hx] at j1 j2 j3 j4
      have em : sp_Mo_foretold p1 p2 o r = sp_Mo_foretold_62 p1 p2 (r 37) (r 38) (upd o 6 0) big (nI 0) r := by
        unfold sp_Mo_foretold sp_Mo_foretold_30; simp only [lettn]; rw [t1, if_neg (by decide), t2, if_neg (by decide), us, if_pos (by decide)]; rfl
      refine ⟨?_, fun w => absurd ⟨q1, q2⟩ w, fun _ => ⟨?_, ?_, ?_⟩⟩
      · unfold ok_Mo_foretold; simp only [lettn]; rw [t1, t2]
        refine ⟨fun w => absurd w (by decide), fun _ => ⟨fun w => absurd w (by decide), fun _ => ?_⟩⟩
        unfold ok_Mo_foretold_30; simp only [lettn]; rw [us]; exact ⟨fun _ => j2, fun w => absurd (by decide) w⟩
      · unfold ok_Db_foretold; simp only [lettn]
        exact ⟨chk_ok q1, chk_ok q2, g2, j1⟩
      · rw [em]; exact j3
      · rw [em]; unfold sp_Db_foretold; simp only [lettn]; exact j4
    · have t2 := i4 q2
      refine ⟨?_, fun _ => ?_, fun w => absurd w.2 q2⟩
      · unfold ok_Mo_foretold ok_Mo_foretold_29; simp only [lettn]; rw [t1, t2]
        exact ⟨fun w => absurd w (by decide), fun _ => ⟨fun _ => o30, fun w => absurd rfl w⟩⟩
      · unfold sp_Mo_foretold sp_Mo_foretold_29; simp only [lettn]; rw [t1, if_neg (by decide), t2, if_pos rfl]; exact e30
  · have t1 := i2 q1
    refine ⟨?_, fun _ => ?_, fun w => absurd w.1 q1⟩
    · unfold ok_Mo_foretold ok_Mo_foretold_29; simp only [lettn]; rw [t1]
      exact ⟨fun _ => o30, fun w => absurd rfl w⟩
    · unfold sp_Mo_foretold sp_Mo_foretold_29; simp only [lettn]; rw [t1, if_pos rfl]; exact e30
/-! ===== until the temperatures stay ===== -/
theorem still_loop (r0 : LV) (on : Int32) :
    ∀ (n f1 f2 i : Nat) (r : LV) (ca : IV) (cal : LV), i + n = 301 → n < f1 → n < f2 → PR w0 w1 w2 w3 w4 r → RowOK T r → (∀ k, k ≠ 37 → k ≠ 38 → r k = r0 k) → CiR ca r (zS r) (zf r) (zg r) (zr r 32) →
    ok_Se_ticksToSteady_2 on w0 w3 w4 f1 (nI i) ca cal ∧ ok_Mo_stillIn_20 (r0 37) (r0 38) on f2 (nI i) r ∧ (sp_Mo_stillIn_20 (r0 37) (r0 38) on f2 (nI i) r).2 = r0 ∧ (sp_Se_ticksToSteady_2 on w0 w3 w4 f1 (nI i) ca cal).1 = (sp_Mo_stillIn_20 (r0 37) (r0 38) on f2 (nI i) r).1
  | n, 0, _, _, _, _, _, _, hf, _, _, _, _, _ => absurd hf (by omega)
  | n, f1 + 1, 0, _, _, _, _, _, _, hf, _, _, _, _ => absurd hf (by omega)
  | 0, f1 + 1, f2 + 1, i, r, ca, cal, hi, _, _, hp, h, hr, hc => by
    have c : (300 : Int32) < nI i := by rw [show (300 : Int32) = nI 300 from rfl, nzlt (by omega) (by omega)]; omega
    have e1 : sp_Se_ticksToSteady_2 on w0 w3 w4 (f1 + 1) (nI i) ca cal = (-1, ca, cal) := by
      show bd_Se_ticksToSteady_2 _ _ _ _ _ _ _ _ = _
      unfold bd_Se_ticksToSteady_2; rw [if_pos c]
    have e2 : sp_Mo_stillIn_20 (r0 37) (r0 38) on (f2 + 1) (nI i) r = ((-1 : Int64).toInt32, r0) := by
      show bd_Mo_stillIn_20 _ _ _ _ _ _ = _
      unfold bd_Mo_stillIn_20 sp_Mo_stillIn_42 sp_Mo_stillIn_63; rw [if_pos c, if_pos c]; simp only [lettn]; rw [lay_back hr]
    rw [e1, e2]
    refine ⟨?_, ?_, rfl, rfl⟩
    · show okb_Se_ticksToSteady_2 _ _ _ _ _ _ _ _ _
      unfold okb_Se_ticksToSteady_2; exact ⟨fun _ => trivial, fun w => absurd c w⟩
    · show okb_Mo_stillIn_20 _ _ _ _ _ _ _
      unfold okb_Mo_stillIn_20; exact ⟨fun _ => trivial, fun w => absurd c w⟩
  | n + 1, f1 + 1, f2 + 1, i, r, ca, cal, hi, h1, h2, hp, h, hr, hc => by
    have c : ¬ (300 : Int32) < nI i := by rw [show (300 : Int32) = nI 300 from rfl, nzlt (by omega) (by omega)]; omega
    obtain ⟨s1, s2, s3, s4, s5, s6, s7⟩ := heat_step hp h hc cal on
    have hr2 : ∀ k, k ≠ 37 → k ≠ 38 → (sp_Mo_heats on r).2 k = r0 k := fun k a b => (s2 k a b).trans (hr k a b)
    obtain ⟨j1, j2, j3, j4⟩ := still_loop r0 on n f1 f2 (i + 1) (sp_Mo_heats on r).2 (sp_Ci_tick on ca cal w0 w3 w4).1 (sp_Ci_tick on ca cal w0 w3 w4).2 (by omega) (by omega) (by omega) (ps_PR (fun k hk _ => s2 k (by omega) (by omega)) hp) s1 hr2 s5
    have e59 : sp_Se_ticksToSteady_59 (nI i) (sp_Ci_tick on ca cal w0 w3 w4) (sp_Se_ticksToSteady_2 on w0 w3 w4 f1) = sp_Se_ticksToSteady_2 on w0 w3 w4 f1 (nI (i + 1)) (sp_Ci_tick on ca cal w0 w3 w4).1 (sp_Ci_tick on ca cal w0 w3 w4).2 := by
      unfold sp_Se_ticksToSteady_59; simp only [lettn]; rw [nzadd1 i (by omega)]
    have o59 : ok_Se_ticksToSteady_59 (nI i) (sp_Ci_tick on ca cal w0 w3 w4) (sp_Se_ticksToSteady_2 on w0 w3 w4 f1) (ok_Se_ticksToSteady_2 on w0 w3 w4 f1) := by
      unfold ok_Se_ticksToSteady_59; simp only [lettn]; rw [nzadd1 i (by omega)]; exact j1
    have oc : ok_Se_ticksToSteady_2 on w0 w3 w4 (f1 + 1) (nI i) ca cal := by
      show okb_Se_ticksToSteady_2 _ _ _ _ _ _ _ _ _
      unfold okb_Se_ticksToSteady_2; simp only [lettn]
      exact ⟨fun w => absurd w c, fun _ => ⟨s4, fun _ => ⟨fun _ => trivial, fun _ => o59⟩, fun _ => o59⟩⟩
    have om : ok_Mo_stillIn_20 (r0 37) (r0 38) on (f2 + 1) (nI i) r := by
      show okb_Mo_stillIn_20 _ _ _ _ _ _ _
      unfold okb_Mo_stillIn_20; simp only [lettn]; rw [nzadd1 i (by omega)]
      exact ⟨fun w => absurd w c, fun _ => ⟨s3, fun _ => trivial, fun _ => j2⟩⟩
    by_cases q : (sp_Mo_heats on r).1 = 0
    · obtain ⟨q1, q2⟩ := s7.mp q
      have e1 : sp_Se_ticksToSteady_2 on w0 w3 w4 (f1 + 1) (nI i) ca cal = (nI i, (sp_Ci_tick on ca cal w0 w3 w4).1, (sp_Ci_tick on ca cal w0 w3 w4).2) := by
        show bd_Se_ticksToSteady_2 _ _ _ _ _ _ _ _ = _
        unfold bd_Se_ticksToSteady_2; rw [if_neg c]; simp only [lettn]; rw [if_pos q1, if_pos q2]
      have e2 : sp_Mo_stillIn_20 (r0 37) (r0 38) on (f2 + 1) (nI i) r = ((nI i).toInt64.toInt32, r0) := by
        show bd_Mo_stillIn_20 _ _ _ _ _ _ = _
        unfold bd_Mo_stillIn_20 sp_Mo_stillIn_42 sp_Mo_stillIn_63; rw [if_neg c]; simp only [lettn]; rw [if_pos q, if_neg c, lay_back hr2]
      rw [e1, e2]
      exact ⟨oc, om, rfl, (wn_id _).symm⟩
    · have nq : ¬ ((sp_Ci_tick on ca cal w0 w3 w4).1 7 = ca 7 ∧ (sp_Ci_tick on ca cal w0 w3 w4).1 8 = ca 8) := fun w => q (s7.mpr w)
      have e1 : sp_Se_ticksToSteady_2 on w0 w3 w4 (f1 + 1) (nI i) ca cal = sp_Se_ticksToSteady_2 on w0 w3 w4 f1 (nI (i + 1)) (sp_Ci_tick on ca cal w0 w3 w4).1 (sp_Ci_tick on ca cal w0 w3 w4).2 := by
        rw [← e59]
        show bd_Se_ticksToSteady_2 _ _ _ _ _ _ _ _ = _
        unfold bd_Se_ticksToSteady_2; rw [if_neg c]; simp only [lettn]
        split
        · next z1 =>
          split
          · next z2 => exact absurd ⟨z1, z2⟩ nq
          · rfl
        · rfl
      have e2 : sp_Mo_stillIn_20 (r0 37) (r0 38) on (f2 + 1) (nI i) r = sp_Mo_stillIn_20 (r0 37) (r0 38) on f2 (nI (i + 1)) (sp_Mo_heats on r).2 := by
        show bd_Mo_stillIn_20 _ _ _ _ _ _ = _
        unfold bd_Mo_stillIn_20; rw [if_neg c]; simp only [lettn]; rw [if_neg q, nzadd1 i (by omega)]
      refine ⟨oc, om, ?_, ?_⟩
      · rw [e2]; exact j3
      · rw [e1, e2]; exact j4
theorem still_both (hp : PR w0 w1 w2 w3 w4 r) (h : RowOK T r) {ca : IV} {cal : LV} (hc : CirR ca cal r) (cb : IV) (cbl : LV) (on : Int32) :
    ok_Ci_copy cb ca ∧ ok_Se_ticksToSteady on (sp_Ci_copy cb cbl ca cal w0 w3 w4).1 (sp_Ci_copy cb cbl ca cal w0 w3 w4).2 w0 w3 w4 ∧ ok_Mo_stillIn on r ∧ (sp_Mo_stillIn on r).2 = r ∧ (sp_Se_ticksToSteady on (sp_Ci_copy cb cbl ca cal w0 w3 w4).1 (sp_Ci_copy cb cbl ca cal w0 w3 w4).2 w0 w3 w4).1 = (sp_Mo_stillIn on r).1 := by
  obtain ⟨g1, g2, g3, -⟩ := circ_copy (ca := cb) (cal := cbl) (cbl := cal) hp h hc.1 (cir_isB h hc)
  obtain ⟨j1, j2, j3, j4⟩ := still_loop r on 301 big big 0 r (sp_Ci_copy cb cbl ca cal w0 w3 w4).1 (sp_Ci_copy cb cbl ca cal w0 w3 w4).2 (by omega) (by rw [big_eq]; decide) (by rw [big_eq]; decide) hp h (fun _ _ _ => rfl) g1
  unfold ok_Se_ticksToSteady ok_Mo_stillIn sp_Mo_stillIn sp_Se_ticksToSteady
  simp only [lettn]
  exact ⟨g2, j1, j2, j3, j4⟩
theorem steady_D (hp : PR w0 w1 w2 w3 w4 r) (h : RowOK T r) {ca : IV} {cal : LV} (hc : CirR ca cal r) (cb : IV) (cbl : LV) (o : IV) :
    ok_Db_steadyIn w0 w3 w4 ca cal cb cbl ∧ ok_Mo_steadyIn o r ∧ (sp_Mo_steadyIn o r).2 = (upd o 6 0, r) ∧ (sp_Db_steadyIn w0 w3 w4 ca cal cb cbl).1 = (sp_Mo_steadyIn o r).1 := by
  obtain ⟨j1, j2, j3, j4, j5⟩ := still_both hp h hc cb cbl 1
  unfold ok_Db_steadyIn sp_Db_steadyIn ok_Mo_steadyIn sp_Mo_steadyIn
  simp only [lettn]
  exact ⟨⟨j1, j2, trivial⟩, ⟨j3, trivial⟩, by rw [j4], j5⟩
theorem cooled_D (hp : PR w0 w1 w2 w3 w4 r) (h : RowOK T r) {ca : IV} {cal : LV} (hc : CirR ca cal r) (cb : IV) (cbl : LV) (o : IV) :
    ok_Db_cooledIn w0 w3 w4 ca cal cb cbl ∧ ok_Mo_cooledIn o r ∧ (sp_Mo_cooledIn o r).2 = (upd o 6 0, r) ∧ (sp_Db_cooledIn w0 w3 w4 ca cal cb cbl).1 = (sp_Mo_cooledIn o r).1 := by
  obtain ⟨j1, j2, j3, j4, j5⟩ := still_both hp h hc cb cbl 0
  unfold ok_Db_cooledIn sp_Db_cooledIn ok_Mo_cooledIn sp_Mo_cooledIn
  simp only [lettn]
  exact ⟨⟨j1, j2, trivial⟩, ⟨j3, trivial⟩, by rw [j4], j5⟩
end CW2
