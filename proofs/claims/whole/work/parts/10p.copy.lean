section CS1
variable {T : Int} {r r' : LV} {w0 w1 w2 w3 w4 : IV}
/-! ===== ticks and readings in rows ===== -/
theorem tick_BC (hp : PR w0 w1 w2 w3 w4 r) (h : RowOK T r) (hT : T ≤ 1000000000) {ba ca : IV} {cal : LV} {da : IV} (hb : BC ba ca cal da r) (on : Int32) :
    BC ba (sp_Ci_tick on ca cal w0 w3 w4).1 (sp_Ci_tick on ca cal w0 w3 w4).2 da (sp_Mo_tick on r) ∧ RowOK (T + 1) (sp_Mo_tick on r) ∧ ok_Ci_tick on ca cal w0 w3 w4 ∧ ok_Mo_tick on r ∧ Fr r (sp_Mo_tick on r) := by
  obtain ⟨hc, b3, b4, b5, bd⟩ := hb
  obtain ⟨q1, q2, q3, q4, q5⟩ := tick_CR hp h hT hc on
  have e : ∀ k, 41 ≤ k → sp_Mo_tick on r k = r k := fun k hk => q5.1 k (by omega) (by omega) (by omega) (by omega) (by omega) (by omega)
  refine ⟨⟨q1, ?_, ?_, ?_, fun k hk hz => ?_⟩, q2, q3, q4, fr_of_tick q5⟩
  · rw [b3, zr, zr, e 43 (by decide)]
  · rw [b4, zr, zr, e 41 (by decide)]
  · rw [b5, zr, zr, e 42 (by decide)]
  · rw [zr, e 43 (by decide)] at hz
    rw [bd k hk hz, zr, zr, e (44 + k) (by omega)]
theorem rest_BC {N : Nat} (hN : N < 1000) : ∀ (n f1 f2 i : Nat) (T : Int) (r : LV) (ba ca : IV) (cal : LV) (da : IV), i + n = N → n < f1 → n < f2 → PR w0 w1 w2 w3 w4 r → RowOK T r → T + n ≤ 1000000000 → BC ba ca cal da r →
    ok_Be_passTime_2 (nI N) w0 w3 w4 f1 (nI i) ca cal ∧ ok_Mo_restNow_2 (nI N) f2 (nI i) r ∧ BC ba (sp_Be_passTime_2 (nI N) w0 w3 w4 f1 (nI i) ca cal).1 (sp_Be_passTime_2 (nI N) w0 w3 w4 f1 (nI i) ca cal).2 da (sp_Mo_restNow_2 (nI N) f2 (nI i) r).2 ∧ RowOK (T + n) (sp_Mo_restNow_2 (nI N) f2 (nI i) r).2 ∧ Fr r (sp_Mo_restNow_2 (nI N) f2 (nI i) r).2 ∧ (sp_Mo_restNow_2 (nI N) f2 (nI i) r).1 = ((sp_Mo_restNow_2 (nI N) f2 (nI i) r).2 39).toInt32
  | n, 0, _, _, _, _, _, _, _, _, _, hf, _, _, _, _, _ => absurd hf (by omega)
  | n, f1 + 1, 0, _, _, _, _, _, _, _, _, _, hf, _, _, _, _ => absurd hf (by omega)
  | 0, f1 + 1, f2 + 1, i, T, r, ba, ca, cal, da, hi, _, _, hp, h, hT, hb => by
    have c : nI N ≤ nI i := by rw [nzle (by omega) (by omega)]; omega
    have e1 : sp_Be_passTime_2 (nI N) w0 w3 w4 (f1 + 1) (nI i) ca cal = (ca, cal) := by
      show bd_Be_passTime_2 _ _ _ _ _ _ _ _ = _
      unfold bd_Be_passTime_2; rw [if_pos c]
    have e2 : sp_Mo_restNow_2 (nI N) (f2 + 1) (nI i) r = ((r 39).toInt32, r) := by
      show bd_Mo_restNow_2 _ _ _ _ = _
      unfold bd_Mo_restNow_2 sp_Mo_restNow_18; rw [if_pos c]
    rw [e1, e2]
    refine ⟨?_, ?_, hb, row_mono h (by omega), fr_rf r, rfl⟩
    · show okb_Be_passTime_2 _ _ _ _ _ _ _ _ _
      unfold okb_Be_passTime_2; exact ⟨fun _ => trivial, fun w => absurd c w⟩
    · show okb_Mo_restNow_2 _ _ _ _ _
      unfold okb_Mo_restNow_2; exact ⟨fun _ => trivial, fun w => absurd c w⟩
  | n + 1, f1 + 1, f2 + 1, i, T, r, ba, ca, cal, da, hi, h1, h2, hp, h, hT, hb => by
    have c : ¬ nI N ≤ nI i := by rw [nzle (by omega) (by omega)]; omega
    obtain ⟨q1, q2, q3, q4, q5⟩ := tick_BC hp h (by omega) hb 0
    obtain ⟨j1, j2, j3, j4, j5, j6⟩ := rest_BC hN n f1 f2 (i + 1) (T + 1) (sp_Mo_tick 0 r) ba _ _ da (by omega) (by omega) (by omega) (ps_PR (fr_ps q5) hp) q2 (by omega) q1
    have e1 : sp_Be_passTime_2 (nI N) w0 w3 w4 (f1 + 1) (nI i) ca cal = sp_Be_passTime_2 (nI N) w0 w3 w4 f1 (nI (i + 1)) (sp_Ci_tick 0 ca cal w0 w3 w4).1 (sp_Ci_tick 0 ca cal w0 w3 w4).2 := by
      show bd_Be_passTime_2 _ _ _ _ _ _ _ _ = _
      unfold bd_Be_passTime_2; rw [if_neg c]; simp only [lettn]; rw [nzadd1 i (by omega)]
    have e2 : sp_Mo_restNow_2 (nI N) (f2 + 1) (nI i) r = sp_Mo_restNow_2 (nI N) f2 (nI (i + 1)) (sp_Mo_tick 0 r) := by
      show bd_Mo_restNow_2 _ _ _ _ = _
      unfold bd_Mo_restNow_2; rw [if_neg c]; simp only [lettn]; rw [nzadd1 i (by omega)]
    rw [e1, e2]
    refine ⟨?_, ?_, j3, row_mono j4 (by omega), fr_tr q5 j5, j6⟩
    · show okb_Be_passTime_2 _ _ _ _ _ _ _ _ _
      unfold okb_Be_passTime_2; simp only [lettn]; rw [nzadd1 i (by omega)]; exact ⟨fun w => absurd w c, fun _ => ⟨q3, j1⟩⟩
    · show okb_Mo_restNow_2 _ _ _ _ _
      unfold okb_Mo_restNow_2; simp only [lettn]; rw [nzadd1 i (by omega)]; exact ⟨fun w => absurd w c, fun _ => ⟨q4, j2⟩⟩
theorem m_whyNot (h : RowOK T r) : (sp_Mo_whyNotRead r).toInt = (if zwhy r (zS r) (zr r 32) = 0 then 0 else -1 - zwhy r (zS r) (zr r 32)) ∧ ok_Mo_whyNotRead r := by
  obtain ⟨c1, c2⟩ := m_can h
  have e := z64 (show (r 22).toInt = zr r 22 from rfl) 0 0 rfl
  unfold sp_Mo_whyNotRead ok_Mo_whyNotRead
  simp only [lettn]
  refine ⟨?_, fun _ => trivial, fun _ => ⟨c2, trivial⟩⟩
  by_cases q : r 22 = 0
  · have z : zwhy r (zS r) (zr r 32) = 1 := by unfold zwhy; rw [if_pos (e.mp q)]
    rw [if_pos q, z]; rfl
  · rw [if_neg q]
    by_cases q2 : sp_Mo_canRead r = 0
    · have n0 := c1.mp q2
      have z : zwhy r (zS r) (zr r 32) = 2 := by
        unfold zwhy at n0 ⊢
        rw [if_neg (fun w => q (e.mpr w))] at n0 ⊢
        by_cases q3 : zamp r (zS r) (zr r 32) ≤ zr r 23
        · rw [if_pos q3] at n0; exact absurd rfl n0
        · rw [if_neg q3]
      rw [if_pos q2, z]; rfl
    · have z : zwhy r (zS r) (zr r 32) = 0 := Decidable.byContradiction fun w => q2 (c1.mpr w)
      rw [if_neg q2, if_pos z]; rfl
theorem reads_BC {N : Nat} (hN : N < 1000) : ∀ (n f1 f2 i : Nat) (T : Int) (r : LV) (ba ca : IV) (cal : LV) (da : IV), i + n = N → n < f1 → n < f2 → PR w0 w1 w2 w3 w4 r → RowOK T r → T + 2 * n ≤ 900000000 → BC ba ca cal da r →
    ok_Be_makeReadings_2 (nI N) w0 w3 w4 f1 (nI i) ba ca cal da ∧ ok_Mo_readsNow_2 (nI N) f2 (nI i) r ∧
    (∃ (v : Int32) (ba' ca' : IV) (cal' : LV) (da' : IV), sp_Be_makeReadings_2 (nI N) w0 w3 w4 f1 (nI i) ba ca cal da = (v, ba', ca', cal', da') ∧ BC ba' ca' cal' da' (sp_Mo_readsNow_2 (nI N) f2 (nI i) r).2 ∧ ((v = 1 ∧ (sp_Mo_readsNow_2 (nI N) f2 (nI i) r).1 = 0) ∨ (v = 0 ∧ (sp_Mo_readsNow_2 (nI N) f2 (nI i) r).1.toInt < 0))) ∧
    RowOK (T + 2 * n) (sp_Mo_readsNow_2 (nI N) f2 (nI i) r).2 ∧ Fr r (sp_Mo_readsNow_2 (nI N) f2 (nI i) r).2
  | n, 0, _, _, _, _, _, _, _, _, _, hf, _, _, _, _, _ => absurd hf (by omega)
  | n, f1 + 1, 0, _, _, _, _, _, _, _, _, _, hf, _, _, _, _ => absurd hf (by omega)
  | 0, f1 + 1, f2 + 1, i, T, r, ba, ca, cal, da, hi, _, _, hp, h, hT, hb => by
    have c : nI N ≤ nI i := by rw [nzle (by omega) (by omega)]; omega
    have e1 : sp_Be_makeReadings_2 (nI N) w0 w3 w4 (f1 + 1) (nI i) ba ca cal da = (1, ba, ca, cal, da) := by
      show bd_Be_makeReadings_2 _ _ _ _ _ _ _ _ _ _ = _
      unfold bd_Be_makeReadings_2; rw [if_pos c]
    have e2 : sp_Mo_readsNow_2 (nI N) (f2 + 1) (nI i) r = (0, r) := by
      show bd_Mo_readsNow_2 _ _ _ _ = _
      unfold bd_Mo_readsNow_2; rw [if_pos c]
    rw [e1, e2]
    refine ⟨?_, ?_, ⟨1, ba, ca, cal, da, rfl, hb, Or.inl ⟨rfl, rfl⟩⟩, row_mono h (by omega), fr_rf r⟩
    · show okb_Be_makeReadings_2 _ _ _ _ _ _ _ _ _ _ _
      unfold okb_Be_makeReadings_2; exact ⟨fun _ => trivial, fun w => absurd c w⟩
    · show okb_Mo_readsNow_2 _ _ _ _ _
      unfold okb_Mo_readsNow_2; exact ⟨fun _ => trivial, fun w => absurd c w⟩
  | n + 1, f1 + 1, f2 + 1, i, T, r, ba, ca, cal, da, hi, h1, h2, hp, h, hT, hb => by
    have c : ¬ nI N ≤ nI i := by rw [nzle (by omega) (by omega)]; omega
    have hw := c_why hp h hb.1.1
    obtain ⟨m1, m2⟩ := m_whyNot h
    have e0 := z32 hw 0 0 rfl
    have hz := zwhy_bd r (zS r) (zr r 32)
    have e3 : (0 : Int32) ≤ sp_Mo_whyNotRead r ↔ zwhy r (zS r) (zr r 32) = 0 := by
      rw [Int32.le_iff_toInt_le, m1]
      by_cases q : zwhy r (zS r) (zr r 32) = 0
      · rw [if_pos q]; exact ⟨fun _ => q, fun _ => by decide⟩
      · rw [if_neg q]; exact ⟨fun w => by have : (0 : Int) ≤ -1 - zwhy r (zS r) (zr r 32) := w; omega, fun w => absurd w q⟩
    by_cases q : sp_Ci_whyBlocked ca w0 = 0
    · have q2 : (0 : Int32) ≤ sp_Mo_whyNotRead r := e3.mpr (e0.mp q)
      obtain ⟨o1, o2, v1, v2, b1, k1, f1', -, -⟩ := read_BC hp h (by omega) hb
      obtain ⟨j1, j2, ⟨v, ba', ca', cal', da', j3, j4, j5⟩, j6, j7⟩ := reads_BC hN n f1 f2 (i + 1) (T + 2) _ _ _ _ _ (by omega) (by omega) (by omega) (ps_PR (fr_ps f1') hp) k1 (by omega) b1
      have e1 : sp_Be_makeReadings_2 (nI N) w0 w3 w4 (f1 + 1) (nI i) ba ca cal da = (v, ba', ca', cal', da') := by
        rw [← j3]
        show bd_Be_makeReadings_2 _ _ _ _ _ _ _ _ _ _ = _
        unfold bd_Be_makeReadings_2; rw [if_neg c]; simp only [lettn]; rw [if_pos q, nzadd1 i (by omega)]
      have e2 : sp_Mo_readsNow_2 (nI N) (f2 + 1) (nI i) r = sp_Mo_readsNow_2 (nI N) f2 (nI (i + 1)) (sp_Mo_makeReading r).2 := by
        show bd_Mo_readsNow_2 _ _ _ _ = _
        unfold bd_Mo_readsNow_2; rw [if_neg c]; simp only [lettn]; rw [if_pos q2, nzadd1 i (by omega)]
      rw [e1, e2]
      refine ⟨?_, ?_, ⟨v, ba', ca', cal', da', rfl, j4, j5⟩, row_mono j6 (by omega), fr_tr f1' j7⟩
      · show okb_Be_makeReadings_2 _ _ _ _ _ _ _ _ _ _ _
        unfold okb_Be_makeReadings_2; simp only [lettn]; rw [nzadd1 i (by omega)]
        exact ⟨fun w => absurd w c, fun _ => ⟨fun _ => ⟨o1, j1⟩, fun w => absurd q w⟩⟩
      · show okb_Mo_readsNow_2 _ _ _ _ _
        unfold okb_Mo_readsNow_2; simp only [lettn]; rw [nzadd1 i (by omega)]
        exact ⟨fun w => absurd w c, fun _ => ⟨m2, fun _ => ⟨o2, j2⟩, fun w => absurd q2 w⟩⟩
    · have n0 : ¬ zwhy r (zS r) (zr r 32) = 0 := fun w => q (e0.mpr w)
      have q2 : ¬ (0 : Int32) ≤ sp_Mo_whyNotRead r := fun w => n0 (e3.mp w)
      have e1 : sp_Be_makeReadings_2 (nI N) w0 w3 w4 (f1 + 1) (nI i) ba ca cal da = (0, ba, ca, cal, da) := by
        show bd_Be_makeReadings_2 _ _ _ _ _ _ _ _ _ _ = _
        unfold bd_Be_makeReadings_2; rw [if_neg c]; simp only [lettn]; rw [if_neg q]
      have e2 : sp_Mo_readsNow_2 (nI N) (f2 + 1) (nI i) r = (sp_Mo_whyNotRead r, r) := by
        show bd_Mo_readsNow_2 _ _ _ _ = _
        unfold bd_Mo_readsNow_2 sp_Mo_readsNow_14; rw [if_neg c]; simp only [lettn]; rw [if_neg q2]
      rw [e1, e2]
      refine ⟨?_, ?_, ⟨0, ba, ca, cal, da, rfl, hb, Or.inr ⟨rfl, ?_⟩⟩, row_mono h (by omega), fr_rf r⟩
      · show okb_Be_makeReadings_2 _ _ _ _ _ _ _ _ _ _ _
        unfold okb_Be_makeReadings_2; simp only [lettn]
        exact ⟨fun w => absurd w c, fun _ => ⟨fun w => absurd w q, fun _ => trivial⟩⟩
      · show okb_Mo_readsNow_2 _ _ _ _ _
        unfold okb_Mo_readsNow_2 ok_Mo_readsNow_14; simp only [lettn]
        exact ⟨fun w => absurd w c, fun _ => ⟨m2, fun w => absurd w q2, fun _ => ⟨m2, trivial⟩⟩⟩
      · show (sp_Mo_whyNotRead r).toInt < 0
        rw [m1, if_neg n0]; omega
/-! ===== a copy of a bench ===== -/
theorem circ_copy (hp : PR w0 w1 w2 w3 w4 r) (h : RowOK T r) {ca cb : IV} {cal cbl : LV} {S L : Int} {f g : Nat} (hc : CiR cb r S f g L) (h6 : isB (cb 6)) :
    CiR (sp_Ci_copy ca cal cb cbl w0 w3 w4).1 r S f g L ∧ ok_Ci_copy ca cb ∧ (∀ j, 1 ≤ j → j ≤ 11 → (sp_Ci_copy ca cal cb cbl w0 w3 w4).1 j = cb j) ∧ (sp_Ci_copy ca cal cb cbl w0 w3 w4).2 12 = cbl 12 := by
  obtain ⟨c1, c2, c3, c4, c5, c6, c7, c8, c9, c10, c11, c12, c13, c14, c15, c16, c17⟩ := hc
  unfold sp_Ci_copy ok_Ci_copy
  simp only [lettn]
  generalize hx : upd (upd (upd (upd (upd (upd (upd (upd (upd (upd (upd (upd (upd ca 1 (cb 1)) 2 (cb 2)) 3 (cb 3)) 4 (cb 4)) 5 (cb 5)) 6 (cb 6)) 7 (cb 7)) 8 (cb 8)) 9 (cb 9)) 10 (cb 10)) 11 (cb 11)) 13 (cb 13)) 14 (cb 14) = x
  have e : ∀ j, 1 ≤ j → j ≤ 14 → j ≠ 12 → x j = cb j := by
    intro j h1 h2 h3
    rw [← hx]
    match j, h1, h2, h3 with
    | 1, _, _, _ => rfl
    | 2, _, _, _ => rfl
    | 3, _, _, _ => rfl
    | 4, _, _, _ => rfl
    | 5, _, _, _ => rfl
    | 6, _, _, _ => rfl
    | 7, _, _, _ => rfl
    | 8, _, _, _ => rfl
    | 9, _, _, _ => rfl
    | 10, _, _, _ => rfl
    | 11, _, _, _ => rfl
    | 12, _, _, q => exact absurd rfl q
    | 13, _, _, _ => rfl
    | 14, _, _, _ => rfl
    | j + 15, _, q, _ => exact absurd q (by omega)
    | 0, q, _, _ => exact absurd q (by omega)
  obtain ⟨s1, s2, s3, s4, s5⟩ := c_survey (ca := x) hp h (S := S) (L := L) c2 c8 (by rw [e 4 (by decide) (by decide) (by decide)]; exact c7) (by rw [e 7 (by decide) (by decide) (by decide)]; exact c10) (by rw [e 8 (by decide) (by decide) (by decide)]; exact c11) (by rw [e 14 (by decide) (by decide) (by decide)]; exact c13)
  have s : ∀ j, 1 ≤ j → j ≤ 14 → j ≠ 12 → sp_Ci_survey x w0 w3 w4 j = cb j := fun j h1 h2 h3 => by rw [s1 j (by omega), e j h1 h2 h3]
  refine ⟨⟨?_, c2, ?_, c4, ?_, c6, ?_, c8, ?_, ?_, ?_, ?_, ?_, s2, s3, s4, s5⟩, ⟨h6, trivial⟩, fun j h1 h2 => s j h1 (by omega) (by omega), uLs⟩
  · rw [s 5 (by decide) (by decide) (by decide)]; exact c1
  · rw [s 1 (by decide) (by decide) (by decide)]; exact c3
  · rw [s 2 (by decide) (by decide) (by decide)]; exact c5
  · rw [s 4 (by decide) (by decide) (by decide)]; exact c7
  · rw [s 3 (by decide) (by decide) (by decide)]; exact c9
  · rw [s 7 (by decide) (by decide) (by decide)]; exact c10
  · rw [s 8 (by decide) (by decide) (by decide)]; exact c11
  · rw [s 13 (by decide) (by decide) (by decide)]; exact c12
  · rw [s 14 (by decide) (by decide) (by decide)]; exact c13
theorem cir_isB (h : RowOK T r) {ca : IV} {cal : LV} (hc : CirR ca cal r) : isB (ca 6) := by
  have t := b31 h
  rcases t with q | q
  · exact Or.inl ((z32 hc.2.1 0 0 rfl).mpr q)
  · exact Or.inr ((z32 hc.2.1 1 1 rfl).mpr q)
theorem rescopy_loop {ra ta : IV} {tr : NI} {tl : NL} {n : Nat} (h1 : ra 1 = nI n) (h2 : ta 1 = nI n) (hn : n ≤ 20) : ∀ (k f i : Nat) (rr : NI) (rl : NL), i + k = n → k < f →
    ok_Rs_copy_10 ra ta tr tl f (nI i) rr rl ∧ (sp_Rs_copy_10 ra ta tr tl f (nI i) rr rl).1 = ra ∧
    (∀ a, (i ≤ a ∧ a < n → (∀ j, j < 6 → (sp_Rs_copy_10 ra ta tr tl f (nI i) rr rl).2.1 a j = tr a j) ∧ (∀ j, 6 ≤ j → j < 8 → (sp_Rs_copy_10 ra ta tr tl f (nI i) rr rl).2.2 a j = tl a j)) ∧ (a < i → (sp_Rs_copy_10 ra ta tr tl f (nI i) rr rl).2.1 a = rr a ∧ (sp_Rs_copy_10 ra ta tr tl f (nI i) rr rl).2.2 a = rl a))
  | k, 0, _, _, _, _, hf => absurd hf (by omega)
  | 0, f + 1, i, rr, rl, hi, _ => by
    have c : ra 1 ≤ nI i := by rw [h1, nzle (by omega) (by omega)]; omega
    have e : sp_Rs_copy_10 ra ta tr tl (f + 1) (nI i) rr rl = (ra, rr, rl) := by
      show bd_Rs_copy_10 _ _ _ _ _ _ _ _ = _
      unfold bd_Rs_copy_10; rw [if_pos c]
    rw [e]
    refine ⟨?_, rfl, fun a => ⟨fun w => absurd w (by omega), fun _ => ⟨rfl, rfl⟩⟩⟩
    show okb_Rs_copy_10 _ _ _ _ _ _ _ _ _
    unfold okb_Rs_copy_10; exact ⟨fun _ => trivial, fun w => absurd c w⟩
  | k + 1, f + 1, i, rr, rl, hi, hf => by
    have c : ¬ ra 1 ≤ nI i := by rw [h1, nzle (by omega) (by omega)]; omega
    have e1 : sp_Rs_at (nI i) ta = some i := at_some h2 hn (by omega)
    have e0 : sp_Rs_at (nI i) ra = some i := at_some h1 hn (by omega)
    obtain ⟨rr1, rl1, hcp, k1, k2, k3⟩ : ∃ (rr1 : NI) (rl1 : NL), sp_Rs_copyRow (some i) (nI i) ra rr rl tr tl = (rr1, rl1) ∧ (∀ j, j < 6 → rr1 i j = tr i j) ∧ (∀ j, 6 ≤ j → j < 8 → rl1 i j = tl i j) ∧ (∀ a, a ≠ i → rr1 a = rr a ∧ rl1 a = rl a) := by
      unfold sp_Rs_copyRow sp_Rt_copy
      simp only [lettn, e0, optt]
      refine ⟨_, _, rfl, fun j hj => ?_, fun j h6 h8 => ?_, fun a ha => ?_⟩
      · simp only [fs_s]
        match j, hj with
        | 0, _ => rfl
        | 1, _ => rfl
        | 2, _ => rfl
        | 3, _ => rfl
        | 4, _ => rfl
        | 5, _ => rfl
        | j + 6, q => exact absurd q (by omega)
      · simp only [fs_s]
        match j, h6, h8 with
        | 6, _, _ => rfl
        | 7, _, _ => rfl
        | j + 8, _, q => exact absurd q (by omega)
      · constructor
        · simp only [fs_n ha]
        · simp only [fs_n ha]
    obtain ⟨g1, g2, g3⟩ := rescopy_loop h1 h2 hn k f (i + 1) rr1 rl1 (by omega) (by omega)
    have e : sp_Rs_copy_10 ra ta tr tl (f + 1) (nI i) rr rl = sp_Rs_copy_10 ra ta tr tl f (nI (i + 1)) rr1 rl1 := by
      show bd_Rs_copy_10 _ _ _ _ _ _ _ _ = _
      unfold bd_Rs_copy_10; rw [if_neg c]; simp only [lettn]; rw [nzadd1 i (by omega), e1, hcp]
    rw [e]
    refine ⟨?_, g2, fun a => ⟨fun ha => ?_, fun ha => ?_⟩⟩
    · show okb_Rs_copy_10 _ _ _ _ _ _ _ _ _
      unfold okb_Rs_copy_10; simp only [lettn]; rw [nzadd1 i (by omega), e1, hcp]
      refine ⟨fun w => absurd w c, fun _ => ⟨?_, g1⟩⟩
      unfold ok_Rs_copyRow ok_Rt_copy
      simp only [lettn, e0]
      refine ⟨fun w => (nomatch w), fun k2 hk2 => ⟨fun w => (nomatch w), fun k3 hk3 => ?_⟩⟩
      cases hk2; cases hk3
      exact ⟨⟨by omega, by omega, trivial⟩, by omega, trivial⟩
    · by_cases q : a = i
      · subst q
        obtain ⟨x1, x2⟩ := (g3 a).2 (by omega)
        rw [x1, x2]
        exact ⟨k1, k2⟩
      · exact (g3 a).1 (by omega)
    · obtain ⟨x1, x2⟩ := (g3 a).2 (by omega)
      rw [x1, x2]
      exact k3 a (by omega)
theorem dacopy_loop {ea : IV} {rar : NI} {ral : NL} {eb : IV} {rbr : NI} {rbl : NL} {b5 : IV} {y2 : IV × LV} {db : IV} : ∀ (k f i : Nat) (da : IV), i + k = 10 → k < f → ∃ d2 : IV, sp_Be_copy_37 ea rar ral eb rbr rbl b5 y2 db f (nI i) da = sp_Be_copy_73 ea rar ral eb rbr rbl b5 y2 d2 ∧ (∀ a, (i ≤ a ∧ a < 10 → d2 a = db a) ∧ (a < i → d2 a = da a)) ∧ (ok_Be_copy_73 ea rar ral eb rbr rbl b5 y2 d2 → ok_Be_copy_37 ea rar ral eb rbr rbl b5 y2 db f (nI i) da)
  | k, 0, _, _, _, hf => absurd hf (by omega)
  | 0, f + 1, i, da, hi, _ => by
    have c : (10 : Int32) ≤ nI i := by rw [show (10 : Int32) = nI 10 from rfl, nzle (by omega) (by omega)]; omega
    refine ⟨da, ?_, fun a => ⟨fun w => absurd w (by omega), fun _ => rfl⟩, fun o => ?_⟩
    · show bd_Be_copy_37 _ _ _ _ _ _ _ _ _ _ _ _ = _
      unfold bd_Be_copy_37; rw [if_pos c]
    · show okb_Be_copy_37 _ _ _ _ _ _ _ _ _ _ _ _ _
      unfold okb_Be_copy_37; exact ⟨fun _ => o, fun w => absurd c w⟩
  | k + 1, f + 1, i, da, hi, hf => by
    have c : ¬ (10 : Int32) ≤ nI i := by rw [show (10 : Int32) = nI 10 from rfl, nzle (by omega) (by omega)]; omega
    obtain ⟨d2, g1, g2, g3⟩ := dacopy_loop k f (i + 1) (upd da i (db i)) (by omega) (by omega)
    refine ⟨d2, ?_, fun a => ⟨fun w => ?_, fun w => ?_⟩, fun o => ?_⟩
    · show bd_Be_copy_37 _ _ _ _ _ _ _ _ _ _ _ _ = _
      unfold bd_Be_copy_37; rw [if_neg c, if_neg c]; simp only [lettn]; rw [cl_nI (by omega), nzadd1 i (by omega)]; exact g1
    · by_cases q : a = i
      · subst q; rw [(g2 a).2 (by omega), us]
      · exact (g2 a).1 (by omega)
    · rw [(g2 a).2 (by omega), un (by omega)]
    · show okb_Be_copy_37 _ _ _ _ _ _ _ _ _ _ _ _ _
      unfold okb_Be_copy_37; simp only [lettn]; rw [cl_nI (by omega), nzadd1 i (by omega)]
      exact ⟨fun w => absurd w c, fun _ => ⟨fun w => absurd w c, fun _ => ⟨vp_nI (by omega) (by decide), g3 o⟩⟩⟩
/-- a copy is the same bench -/
theorem copy_BR (hp : PR w0 w1 w2 w3 w4 r) (h : RowOK T r) {ba ca : IV} {cal : LV} {da ea : IV} {rar : NI} {ral : NL} {bb cb : IV} {cbl : LV} {db eb : IV} {rbr : NI} {rbl : NL} (hb : BR bb cb cbl db eb rbr rbl r) :
    ok_Be_copy ba ca cal da ea rar ral bb cb cbl db eb rbr rbl w0 w3 w4 ∧ ∃ (ba' ca' : IV) (cal' : LV) (da' ea' : IV) (rar' : NI) (ral' : NL), sp_Be_copy ba ca cal da ea rar ral bb cb cbl db eb rbr rbl w0 w3 w4 = (ba', ca', cal', da', ea', rar', ral') ∧ BR ba' ca' cal' da' ea' rar' ral' r := by
  obtain ⟨⟨hc, b3, b4, b5, bd⟩, hr⟩ := hb
  obtain ⟨x1, x2, x3, x4⟩ := circ_copy (ca := ca) (cal := cal) (cbl := cbl) hp h hc.1 (cir_isB h hc)
  have b54 := (row_w h 54 0 20 rfl rfl).2
  have he : eb 1 = nI (zr r 54).toNat := nIo (by rw [hr.1]; omega)
  obtain ⟨d2, g1, g2, g3⟩ := dacopy_loop (ea := ea) (rar := rar) (ral := ral) (eb := eb) (rbr := rbr) (rbl := rbl) (b5 := upd (upd (upd ba 3 (bb 3)) 4 (bb 4)) 5 (bb 5)) (y2 := sp_Ci_copy ca cal cb cbl w0 w3 w4) (db := db) 10 big 0 da (by omega) (by rw [big_eq]; decide)
  obtain ⟨k1, k2, k3⟩ := rescopy_loop (ra := upd ea 1 (eb 1)) (ta := eb) (tr := rbr) (tl := rbl) (n := (zr r 54).toNat) (by rw [us]; exact he) he (by omega) (zr r 54).toNat big 0 rar ral (by omega) (by rw [big_eq]; omega)
  have e : sp_Be_copy ba ca cal da ea rar ral bb cb cbl db eb rbr rbl w0 w3 w4 = (upd (upd (upd ba 3 (bb 3)) 4 (bb 4)) 5 (bb 5), (sp_Ci_copy ca cal cb cbl w0 w3 w4).1, (sp_Ci_copy ca cal cb cbl w0 w3 w4).2, d2, (sp_Rs_copy ea rar ral eb rbr rbl).1, (sp_Rs_copy ea rar ral eb rbr rbl).2.1, (sp_Rs_copy ea rar ral eb rbr rbl).2.2) := by
    unfold sp_Be_copy
    simp only [lettn]
    rw [show (0 : Int32) = nI 0 from rfl, g1]
    unfold sp_Be_copy_73
    simp only [lettn]
  have er : sp_Rs_copy ea rar ral eb rbr rbl = sp_Rs_copy_10 (upd ea 1 (eb 1)) eb rbr rbl big (nI 0) rar ral := by unfold sp_Rs_copy; simp only [lettn]; rfl
  refine ⟨?_, _, _, _, _, _, _, _, e, ⟨⟨⟨x1, ?_, ?_, ?_, ?_, ?_⟩, ?_, ?_, ?_, fun k hk hz => ?_⟩, ?_, fun i hi hz => ?_⟩⟩
  · unfold ok_Be_copy
    simp only [lettn]
    refine ⟨x2, ?_⟩
    rw [show (0 : Int32) = nI 0 from rfl]
    refine g3 ?_
    unfold ok_Be_copy_73 ok_Rs_copy
    simp only [lettn]
    exact ⟨k1, trivial⟩
  · rw [x3 6 (by decide) (by decide)]; exact hc.2.1
  · rw [x3 9 (by decide) (by decide)]; exact hc.2.2.1
  · rw [x3 10 (by decide) (by decide)]; exact hc.2.2.2.1
  · rw [x3 11 (by decide) (by decide)]; exact hc.2.2.2.2.1
  · rw [x4]; exact hc.2.2.2.2.2
  · exact b3
  · exact b4
  · exact b5
  · rw [(g2 k).1 (by omega)]; exact bd k hk hz
  · rw [er, k2, us]; exact hr.1
  · rw [er]
    obtain ⟨y1, y2⟩ := (k3 i).1 (by omega)
    obtain ⟨z1, z2⟩ := hr.2 i hi hz
    exact ⟨fun j hj => by rw [y1 j hj]; exact z1 j hj, fun j j6 j8 => by rw [y2 j j6 j8]; exact z2 j j6 j8⟩
end CS1
