section TPI
variable {T : Int} {R d x : Nat} {G b e c : Nat → Nat} {t tb bu pi po pf ps pb pn pt o sK sA sB sE oq bS bE bL w0 w1 w2 w3 w4 ba ca da ea dv rev rb fl iS rp : IV} {now pa sa cal : LV} {rar xb xc xd xe yb yc yd ye : NI} {ral xcl ycl : NL} {xr yr : NNI} {xrl yrl : NNL}
/-! ===== a protocol runs ===== -/
theorem lat_R (hp : PR w0 w1 w2 w3 w4 now) (h : RowOK T now) (hb : BC ba ca cal da now) : sp_Be_latestIsNull ba da w0 = lat now := by
  have b43 := row_w h 43 0 10 rfl rfl
  have e3 := hb.2.1
  have cn : now 43 ≤ (0 : Int64) ↔ zr now 43 ≤ 0 := by rw [Int64.le_iff_toInt_le]; exact Iff.rfl
  have cb : ba 3 ≤ 0 ↔ zr now 43 ≤ 0 := by rw [Int32.le_iff_toInt_le, e3]; exact Iff.rfl
  unfold sp_Be_latestIsNull sp_Be_latestIsNull_23 lat
  simp only [lettn]
  by_cases q : zr now 43 ≤ 0
  · rw [if_pos (cb.mpr q), if_pos (cn.mpr q)]
  · rw [if_neg (fun w => q (cb.mp w)), if_neg (fun w => q (cn.mp w))]
    have hk := hb.2.2.2.2 0 (by decide) (by omega)
    have er : sp_Be_readingAt 0 ba da = da 0 := by
      unfold sp_Be_readingAt
      rw [if_neg (by decide), if_neg (fun w => q (cb.mp w)), if_neg (by decide)]
      rfl
    have r44 := row_rd h (d := 0) (by decide)
    have n1 := c_null hp h hk
    have n2 := m_null h (v := now 44) (V := zr now 44) (b := 9999999) r44 (by decide)
    rw [er]
    by_cases q2 : znull now (zr now 44)
    · rw [if_neg (fun w => (n1.1.mp w) q2), if_neg (fun w => (n2.1.mp w) q2)]
    · rw [if_pos (n1.1.mpr q2), if_pos (n2.1.mpr q2)]
theorem run_loop {y6 : IV × NI × NI × NL × NI × NI × NNI × NNL} {y3 : IV} {y2 : Int32 × IV × IV × IV × IV × IV × IV × IV} (hP : ProR R G y2.2.2.1 y2.2.2.2.1 y2.2.2.2.2.1 y2.2.2.2.2.2.1 sK sA sB sE) (h22 : o 22 = nI R) : ∀ (k f1 f2 i d x : Nat) (b e c : Nat → Nat) (T : Int) (pi pn pt bS bE bL ba ca : IV) (cal : LV) (da ea : IV) (rar : NI) (ral : NL) (now : LV), i + k = 60 → k < f1 → Phi R d x b e c < f2 → Phi R d x b e c < 900000 → RunI R G y2.2.2.2.2.2.1 sE d x b e c → RunS R d x b e c pi pn pt bS bE bL → PR w0 w1 w2 w3 w4 now → RowOK T now → T + 150 * k ≤ 400000000 → BR ba ca cal da ea rar ral now →
    ok_Db_run_45 y6 y3 y2 w0 w1 w2 w3 w4 f1 (nI i) (nI i) pi pn pt ba ca cal da ea rar ral ∧ ok_Mo_doSteps_6 sK sA sB sE o f2 (nI i) (nI d) (nI x) now bS bE bL ∧ ∃ (v : Int32) (pi' pn' pt' ba' ca' : IV) (cal' : LV) (da' ea' : IV) (rar' : NI) (ral' : NL) (now' : LV) (bS' bE' bL' : IV),
      sp_Db_run_45 y6 y3 y2 w0 w1 w2 w3 w4 f1 (nI i) (nI i) pi pn pt ba ca cal da ea rar ral = (v, (y6.1, y3, pi', y2.2.2.1, y2.2.2.2.1, y2.2.2.2.2.1, y2.2.2.2.2.2.1, pn', pt', ba', ca', cal', da', ea', rar', ral', y6.2.1, y6.2.2.1, y6.2.2.2.1, y6.2.2.2.2.1, y6.2.2.2.2.2.1, y6.2.2.2.2.2.2.1, y6.2.2.2.2.2.2.2)) ∧
      sp_Mo_doSteps_6 sK sA sB sE o f2 (nI i) (nI d) (nI x) now bS bE bL = (v, (now', bS', bE', bL')) ∧ BR ba' ca' cal' da' ea' rar' ral' now' ∧ RowOK (T + 150 * k) now' ∧ PSame now now'
  | k, 0, _, _, _, _, _, _, _, _, _, _, _, _, _, _, _, _, _, _, _, _, _, _, _, hf, _, _, _, _, _, _, _, _ => absurd hf (by omega)
  | k, _, 0, _, _, _, _, _, _, _, _, _, _, _, _, _, _, _, _, _, _, _, _, _, _, _, hf, _, _, _, _, _, _, _ => absurd hf (by omega)
  | 0, f1 + 1, f2 + 1, i, d, x, b, e, c, T, pi, pn, pt, bS, bE, bL, ba, ca, cal, da, ea, rar, ral, now, hi, _, _, _, hI, hS, hp, h, hT, hb => by
    have c6 : (60 : Int32) ≤ nI i := by rw [show (60 : Int32) = nI 60 from rfl, nzle (by omega) (by omega)]; omega
    refine ⟨?_, ?_, nI i, pi, pn, pt, ba, ca, cal, da, ea, rar, ral, now, bS, bE, bL, ?_, ?_, hb, row_mono h (by omega), ps_rf now⟩
    · show okb_Db_run_45 _ _ _ _ _ _ _ _ _ _ _ _ _ _ _ _ _ _ _ _ _ _
      unfold okb_Db_run_45
      exact ⟨fun _ => trivial, fun w => absurd c6 w⟩
    · show okb_Mo_doSteps_6 _ _ _ _ _ _ _ _ _ _ _ _ _ _
      unfold okb_Mo_doSteps_6
      exact ⟨fun _ => trivial, fun w => absurd c6 w⟩
    · show bd_Db_run_45 _ _ _ _ _ _ _ _ _ _ _ _ _ _ _ _ _ _ _ _ _ = _
      unfold bd_Db_run_45
      rw [if_pos c6]
    · show bd_Mo_doSteps_6 _ _ _ _ _ _ _ _ _ _ _ _ _ = _
      unfold bd_Mo_doSteps_6
      rw [if_pos c6]
  | k + 1, f1 + 1, f2 + 1, i, d, x, b, e, c, T, pi, pn, pt, bS, bE, bL, ba, ca, cal, da, ea, rar, ral, now, hi, hf1, hf2, hP9, hI, hS, hp, h, hT, hb => by
    have c6 : ¬ (60 : Int32) ≤ nI i := by rw [show (60 : Int32) = nI 60 from rfl, nzle (by omega) (by omega)]; omega
    have hl := lat_R hp h hb.1
    obtain ⟨a1, d', x', b', e', c', pi', pn', pt', bS', bE', bL', f2', a2, a3, a4, a5, a6, a7, a8⟩ := next_R (o := o) (now := now) hP h22 hl (n1 := i) (by omega) (Phi R d x b e c) 0 big (f2 + 1) d x b e c pi pn pt bS bE bL (Nat.le_refl _) hI hS (by omega) (by rw [big_eq]; omega) hf2
    have oN : ok_Pr_next (sp_Be_latestIsNull ba da w0) pi y2.2.2.1 y2.2.2.2.1 y2.2.2.2.2.2.1 pn pt := a1
    rcases a8 with ⟨rfl, rfl, a9⟩ | ⟨hm, h8, a9⟩
    · -- the end
      have eN : sp_Pr_next (sp_Be_latestIsNull ba da w0) pi y2.2.2.1 y2.2.2.2.1 y2.2.2.2.2.2.1 pn pt = (-1, pi', pn', pt') := a9
      obtain ⟨f3, rfl⟩ : ∃ f3, f2' = f3 + 1 := ⟨f2' - 1, by omega⟩
      obtain ⟨m1, m2⟩ := m_done (sK := sK) (sA := sA) (sB := sB) (sE := sE) (now := now) (bS := bS') (bE := bE') (bL := bL') (n := i) (f := f3) hP.1 h22
      refine ⟨?_, a7 m2, nI i, pi', pn', pt', ba, ca, cal, da, ea, rar, ral, now, bS', bE', bL', ?_, a6.trans m1, hb, row_mono h (by omega), ps_rf now⟩
      · show okb_Db_run_45 _ _ _ _ _ _ _ _ _ _ _ _ _ _ _ _ _ _ _ _ _ _
        unfold okb_Db_run_45
        simp only [lettn]
        rw [eN]
        exact ⟨fun w => absurd w c6, fun _ => ⟨oN, fun _ => trivial, fun w => absurd rfl w⟩⟩
      · show bd_Db_run_45 _ _ _ _ _ _ _ _ _ _ _ _ _ _ _ _ _ _ _ _ _ = _
        unfold bd_Db_run_45
        simp only [lettn]
        rw [if_neg c6, eN, if_pos rfl]
    · -- a call
      have eN : sp_Pr_next (sp_Be_latestIsNull ba da w0) pi y2.2.2.1 y2.2.2.2.1 y2.2.2.2.2.2.1 pn pt = (nI x', upd pi' 9 (nI (x' + 1)), pn', pt') := a9
      have hR := hP.1
      have hx := hm.1
      have nx : ¬ nI x' = (-1 : Int32) := fun w => by
        have := congrArg Int32.toInt w
        rw [nIz (by omega)] at this
        have z : (-1 : Int32).toInt = -1 := rfl
        omega
      obtain ⟨f3, rfl⟩ : ∃ f3, f2' = f3 + 1 := ⟨f2' - 1, by omega⟩
      obtain ⟨m1, m2⟩ := m_to98 (f := f3) (now := now) hP a2 a3 h22 (n := i) (by omega) hm
      obtain ⟨w, w1, w2, w3, w4, w5, w6⟩ := hP.2.1 x' hx
      have pw : (y2.2.2.1 x').toInt = w := by rw [w2, nIz (by omega)]
      obtain ⟨p1, p2, v, ba1, ca1, cal1, da1, ea1, rar1, ral1, now1, p3, p4, p5, p6, p7⟩ := perf_R (T := T) hp h (by omega) hb (k := x') (by omega) (w := w) (by omega) w2 w3 w4 w5 w6
      have c8 : sK x' < (8 : Int32) := by rw [w3, show (8 : Int32) = nI 8 from rfl, nzlt (by omega) (by omega)]; omega
      have v30 : vp_in (nI x') 30 := vp_nI (by omega) (by decide)
      by_cases qv : 0 ≤ v
      · rw [if_pos qv] at p3
        obtain ⟨r1, r2⟩ := runI_call hP a2 hm h8
        obtain ⟨s1, s2, s3, s4⟩ := a3
        have hS' : RunS R d' (x' + 1) b' e' c' (upd pi' 9 (nI (x' + 1))) pn' pt' bS' bE' bL' := ⟨by rw [un (by decide)]; exact s1, by rw [un (by decide)]; exact s2, us, s4⟩
        obtain ⟨i1, i2, v', pi2, pn2, pt2, ba2, ca2, cal2, da2, ea2, rar2, ral2, now2, bS2, bE2, bL2, i3, i4, i5, i6, i7⟩ := run_loop (y6 := y6) (y3 := y3) (y2 := y2) hP h22 k f1 f3 (i + 1) d' (x' + 1) b' e' c' (T + 150) (upd pi' 9 (nI (x' + 1))) pn' pt' bS' bE' bL' ba1 ca1 cal1 da1 ea1 rar1 ral1 now1 (by omega) (by omega) (by omega) (by omega) r1 hS' (ps_PR p7 hp) p6 (by omega) p5
        have e98 : sp_Mo_doSteps_98 sK (nI x') now sA sB (nI i) (nI d') bS' bE' bL' sE (sp_Mo_doSteps_6 sK sA sB sE o f3) = sp_Mo_doSteps_6 sK sA sB sE o f3 (nI (i + 1)) (nI d') (nI (x' + 1)) now1 bS' bE' bL' := by
          unfold sp_Mo_doSteps_98
          simp only [lettn]
          rw [cl_nI (by omega), if_pos c8, p4, if_pos qv, nzadd1 i (by omega), nzadd1 x' (by omega)]
        have o98 : ok_Mo_doSteps_98 sK (nI x') now sA sB (nI i) (nI d') bS' bE' bL' sE (sp_Mo_doSteps_6 sK sA sB sE o f3) (ok_Mo_doSteps_6 sK sA sB sE o f3) := by
          unfold ok_Mo_doSteps_98
          simp only [lettn]
          rw [cl_nI (by omega), p4, nzadd1 i (by omega), nzadd1 x' (by omega)]
          exact ⟨v30, fun _ => ⟨p2, fun _ => i2, fun z => absurd qv z⟩, fun z => absurd c8 z⟩
        refine ⟨?_, a7 (m2 o98), v', pi2, pn2, pt2, ba2, ca2, cal2, da2, ea2, rar2, ral2, now2, bS2, bE2, bL2, ?_, a6.trans (m1.trans (e98.trans i4)), i5, row_mono i6 (by omega), ps_trans p7 i7⟩
        · show okb_Db_run_45 _ _ _ _ _ _ _ _ _ _ _ _ _ _ _ _ _ _ _ _ _ _
          unfold okb_Db_run_45
          simp only [lettn]
          rw [eN]
          dsimp only
          rw [p3, nzadd1 i (by omega)]
          exact ⟨fun z => absurd z c6, fun _ => ⟨oN, fun z => absurd z nx, fun _ => ⟨p1, fun z => absurd z (show ¬ (1 : Int32) = 0 by decide), fun _ => i1⟩⟩⟩
        · show bd_Db_run_45 _ _ _ _ _ _ _ _ _ _ _ _ _ _ _ _ _ _ _ _ _ = _
          unfold bd_Db_run_45
          simp only [lettn]
          rw [if_neg c6, eN]
          dsimp only
          rw [if_neg nx, p3, nzadd1 i (by omega)]
          exact i3
      · rw [if_neg qv] at p3
        have e98 : sp_Mo_doSteps_98 sK (nI x') now sA sB (nI i) (nI d') bS' bE' bL' sE (sp_Mo_doSteps_6 sK sA sB sE o f3) = (nI i, (now1, bS', bE', bL')) := by
          unfold sp_Mo_doSteps_98
          simp only [lettn]
          rw [cl_nI (by omega), if_pos c8, p4, if_neg qv]
        have o98 : ok_Mo_doSteps_98 sK (nI x') now sA sB (nI i) (nI d') bS' bE' bL' sE (sp_Mo_doSteps_6 sK sA sB sE o f3) (ok_Mo_doSteps_6 sK sA sB sE o f3) := by
          unfold ok_Mo_doSteps_98
          simp only [lettn]
          rw [cl_nI (by omega), p4]
          exact ⟨v30, fun _ => ⟨p2, fun z => absurd z qv, fun _ => trivial⟩, fun z => absurd c8 z⟩
        refine ⟨?_, a7 (m2 o98), nI i, upd pi' 9 (nI (x' + 1)), pn', pt', ba1, ca1, cal1, da1, ea1, rar1, ral1, now1, bS', bE', bL', ?_, a6.trans (m1.trans e98), p5, row_mono p6 (by omega), p7⟩
        · show okb_Db_run_45 _ _ _ _ _ _ _ _ _ _ _ _ _ _ _ _ _ _ _ _ _ _
          unfold okb_Db_run_45
          simp only [lettn]
          rw [eN]
          dsimp only
          rw [p3]
          exact ⟨fun z => absurd z c6, fun _ => ⟨oN, fun z => absurd z nx, fun _ => ⟨p1, fun _ => trivial, fun z => absurd rfl z⟩⟩⟩
        · show bd_Db_run_45 _ _ _ _ _ _ _ _ _ _ _ _ _ _ _ _ _ _ _ _ _ = _
          unfold bd_Db_run_45
          simp only [lettn]
          rw [if_neg c6, eN]
          dsimp only
          rw [if_neg nx, p3, if_pos rfl]
/-- a protocol is read and runs, on both sides -/
theorem run_D (h : Inv T dv t tb w0 w1 w2 w3 w4 ba ca cal da ea rar ral rev rb fl xb xc xcl xd xe xr xrl yb yc ycl yd ye yr yrl o now pa sa iS bu rp) (hT : T ≤ 300000000) :
    ok_Db_run dv t tb w0 w1 w2 w3 w4 pi po pf ps pb pn pt ba ca cal da ea rar ral xb xc xcl xd xe xr xrl ∧ ok_Mo_run o now pa bu sK sA sB sE oq bS bE bL ∧ ∃ (a : Int32) (dv' t' pi' po' pf' ps' pb' pn' pt' ba' ca' : IV) (cal' : LV) (da' ea' : IV) (rar' : NI) (ral' : NL) (xb' xc' : NI) (xcl' : NL) (xd' xe' : NI) (xr' : NNI) (xrl' : NNL) (o' : IV) (now' pa' : LV) (sK' sA' sB' sE' oq' bS' bE' bL' : IV),
      sp_Db_run dv t tb w0 w1 w2 w3 w4 pi po pf ps pb pn pt ba ca cal da ea rar ral xb xc xcl xd xe xr xrl = (a, (dv', t', pi', po', pf', ps', pb', pn', pt', ba', ca', cal', da', ea', rar', ral', xb', xc', xcl', xd', xe', xr', xrl')) ∧ sp_Mo_run o now pa bu sK sA sB sE oq bS bE bL = (a, (o', now', pa', sK', sA', sB', sE', oq', bS', bE', bL')) ∧
      Inv (T + 9000) dv' t' tb w0 w1 w2 w3 w4 ba' ca' cal' da' ea' rar' ral' rev rb fl xb' xc' xcl' xd' xe' xr' xrl' yb yc ycl yd ye yr yrl o' now' pa' sa iS bu rp := by
  obtain ⟨⟨B, n, hB, h613⟩, hp, hr, hb, hpa, hsa, hre⟩ := h
  have hB6 : BufR B n t tb (upd o 6 0) bu := buf_o hB (un (by decide))
  obtain ⟨a1, a2, s1, a3, a4, a5⟩ := begin_TX hB6
  have hP0 : PrR 0 0 (fun _ => 0) (upd (upd pi 7 0) 8 0) po pf ps pb pn (upd (sp_Mo_startText (upd o 6 0) bu) 22 0) sK sA sB sE oq := ⟨⟨by decide, by decide, by rw [un (by decide), us]; rfl, us, us⟩, fun k hk => absurd hk (by omega), fun j hj => absurd hj (by omega), fun k hk => absurd hk (by omega), fun _ _ => Nat.zero_le _, rfl, rfl, fun k hk => absurd hk (by omega), fun k hk => absurd hk (by omega)⟩
  obtain ⟨b1, b2, s2, pi', po', pf', ps', pb', pn', t', o', sK', sA', sB', sE', oq', b3, b4, b5, b6, b7⟩ := prot_loop 600 big big 0 s1 0 (upd (upd pi 7 0) 8 0) po pf ps pb pn (sp_Te_begin t tb) (upd (sp_Mo_startText (upd o 6 0) bu) 22 0) sK sA sB sE oq (by decide) (by rw [big_eq]; decide) (by rw [big_eq]; decide) (tx_o22 a3 0) (fun _ => ⟨Nat.zero_le _, 0, 0, _, rfl, hP0⟩)
  obtain ⟨g1, g2, g3⟩ := tx_good b5
  have oU : ok_Pr_understood pi po pf ps pb pn t tb := by
    unfold ok_Pr_understood
    simp only [lettn]
    exact ⟨a1, b1⟩
  have eU : sp_Pr_understood pi po pf ps pb pn t tb = ((if t' 5 = 0 then 1 else 0), pi', po', pf', ps', pb', pn', t') := by
    unfold sp_Pr_understood
    simp only [lettn]
    exact b3
  have eQ : sp_Mo_readProtocol (sp_Mo_startText (upd o 6 0) bu) bu sK sA sB sE oq = (o', sK', sA', sB', sE', oq') := by
    unfold sp_Mo_readProtocol
    simp only [lettn]
    exact b4
  have oQ : ok_Mo_readProtocol (sp_Mo_startText (upd o 6 0) bu) bu sK sA sB sE oq := by
    unfold ok_Mo_readProtocol
    simp only [lettn]
    exact b2
  have fr : ∀ k, (k < 9 ∨ 14 ≤ k) → k ≠ 22 → k ≠ 6 → o' k = o k := fun k hk h22 h6 => by
    rw [b6 k hk h22, un h22, a4 k hk, un h6]
  unfold sp_Db_run ok_Db_run sp_Mo_run ok_Mo_run sp_Te_empty
  simp only [lettn]
  rw [eU, eQ]
  dsimp only
  by_cases q : t' 5 = 0
  · obtain ⟨R, G, hPR⟩ := b7 q
    have hPro := prr_pro hPR
    have h22 : o' 22 = nI R := hPR.1.2.2.2.2
    have h7 : pi' 7 = nI R := hPR.1.2.2.1
    have o12 : upd o' 8 0 12 = 0 := by rw [un (by decide)]; exact g1.mpr q
    obtain ⟨r1, r2, ⟨dv', xb', xc', xcl', xd', xe', xr', xrl', r3, r4⟩, r5⟩ := remember_R hp hr hb (past_cells hpa (dv' := dv) (o' := upd o' 8 0) rfl rfl (by rw [un (by decide)]; exact fr 5 (by omega) (by omega) (by omega)))
    generalize hW : sp_Mo_record (upd o' 8 0) now pa = W at r4 r5
    have hRI : RunI R G pb' sE' 0 0 (fun _ => 0) (fun _ => 0) (fun _ => 0) := ⟨by decide, Nat.zero_le _, by have := hPro.2.2.2.1; omega, fun j hj => absurd hj (by omega), fun z => absurd z (by decide)⟩
    have hRS : RunS R 0 0 (fun _ => 0) (fun _ => 0) (fun _ => 0) (sp_Pr_start pi') pn' pt bS bE bL := by
      unfold sp_Pr_start
      exact ⟨by show upd (upd pi' 9 0) 8 0 7 = _; rw [un (by decide), un (by decide)]; exact h7, by show upd (upd pi' 9 0) 8 0 8 = _; rw [us]; rfl, by show upd (upd pi' 9 0) 8 0 9 = _; rw [un (by decide), us]; rfl, fun j hj => absurd hj (by omega)⟩
    have hPhi : Phi R 0 0 (fun _ => 0) (fun _ => 0) (fun _ => 0) < 900000 := by
      have := hPro.1
      show 421 * (R - 0) < 900000
      omega
    obtain ⟨c1, c2, v, pi2, pn2, pt2, ba2, ca2, cal2, da2, ea2, rar2, ral2, now2, bS2, bE2, bL2, c3, c4, c5, c6, c7⟩ := run_loop (y6 := (dv', xb', xc', xcl', xd', xe', xr', xrl')) (y3 := upd t' 1 0) (y2 := ((if t' 5 = 0 then 1 else 0), pi', po', pf', ps', pb', pn', t')) (o := W.1) hPro (by rw [r5 22 (by decide), un (by decide)]; exact h22) 60 big big 0 0 0 (fun _ => 0) (fun _ => 0) (fun _ => 0) T (sp_Pr_start pi') pn' pt bS bE bL ba ca cal da ea rar ral now (by decide) (by rw [big_eq]; decide) (by rw [big_eq]; omega) hPhi hRI hRS hp hr (by omega) hb
    have oS : ok_Mo_doSteps W.1 now sK' sA' sB' sE' bS bE bL := c2
    have eS : sp_Mo_doSteps W.1 now sK' sA' sB' sE' bS bE bL = (v, (now2, bS2, bE2, bL2)) := c4
    rw [if_pos q, if_neg (show ¬ (1 : Int32) = 0 by decide), good1 o12, if_neg (show ¬ (1 : Int32) = 0 by decide), r3, eS]
    rw [if_pos q] at c1 c3
    refine ⟨⟨oU, fun z => absurd z (by decide), fun _ => ⟨r1, c1⟩⟩, ⟨a2, oQ, fun z => absurd z (by decide), fun _ => ⟨r2, oS, trivial⟩⟩, v, _, _, _, _, _, _, _, _, _, _, _, _, _, _, _, _, _, _, _, _, _, _, _, _, _, _, _, _, _, _, _, _, _, _, c3, rfl, ?_⟩
    refine ⟨tx_empty us (by rw [r5 8 (by decide), us]) ?_, ps_PR c7 hp, row_mono c6 (by omega), c5, past_mono r4 (by omega) c7, sav_mono hsa (by omega) c7, rep_o hre ?_⟩
    · rw [un (by decide), r5 13 (by decide), un (by decide)]; exact g3.symm
    · rw [r5 28 (by decide), un (by decide)]; exact fr 28 (by omega) (by omega) (by omega)
  · have o12 : ¬ upd o' 8 0 12 = 0 := by rw [un (by decide)]; exact fun w => q (g1.mp w)
    rw [if_neg q, if_pos (show (0 : Int32) = 0 from rfl), good0 o12, if_pos (show (0 : Int32) = 0 from rfl)]
    have ea2 : upd t' 1 0 5 = upd o' 8 0 12 := by rw [un (by decide), un (by decide), g2]
    rw [ea2]
    refine ⟨⟨oU, fun _ => trivial, fun z => absurd rfl z⟩, ⟨a2, oQ, fun _ => trivial, fun z => absurd rfl z⟩, _, _, _, _, _, _, _, _, _, _, _, _, _, _, _, _, _, _, _, _, _, _, _, _, _, _, _, _, _, _, _, _, _, _, _, rfl, rfl, ?_⟩
    refine ⟨tx_empty us us ?_, hp, row_mono hr (by omega), hb, past_mono (past_cells hpa rfl rfl ?_) (by omega) (ps_rf now), sav_mono hsa (by omega) (ps_rf now), rep_o hre ?_⟩
    · rw [un (by decide), un (by decide)]; exact g3.symm
    · rw [un (by decide)]; exact fr 5 (by omega) (by omega) (by omega)
    · rw [un (by decide)]; exact fr 28 (by omega) (by omega) (by omega)
end TPI
