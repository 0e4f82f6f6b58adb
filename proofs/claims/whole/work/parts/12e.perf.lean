section TPE
variable {T : Int} {w0 w1 w2 w3 w4 ba ca da ea po pf ps pb sK sA sB : IV} {now cal : LV} {rar : NI} {ral : NL}
/-! ===== a step is done ===== -/
theorem inRow30_c {k : Nat} (hk : k < 30) (f : IV) : sp_Pr_inRow30 (nI k) f = f k := by
  unfold sp_Pr_inRow30
  rw [if_neg (by rw [show (0 : Int32) = nI 0 from rfl, nzlt (by omega) (by omega)]; omega), if_neg (by rw [show (30 : Int32) = nI 30 from rfl, nzle (by omega) (by omega)]; omega), cl_nI (by omega)]
theorem firstOf_c {k : Nat} (hk : k < 30) (f : IV) : sp_Pr_firstOf (nI k) f = f k := by unfold sp_Pr_firstOf; simp only [lettn]; exact inRow30_c hk f
theorem secondOf_c {k : Nat} (hk : k < 30) (f : IV) : sp_Pr_secondOf (nI k) f = f k := by unfold sp_Pr_secondOf; simp only [lettn]; exact inRow30_c hk f
theorem orderOf_c {k : Nat} (hk : k < 30) (f : IV) : sp_Pr_orderOf (nI k) f = f k := by unfold sp_Pr_orderOf; simp only [lettn]; exact inRow30_c hk f
/-- what a step leaves, on both sides -/
def StepR (T : Int) (w0 w1 w2 w3 w4 ba ca : IV) (cal : LV) (da ea : IV) (rar : NI) (ral : NL) (now : LV) (po pf ps sK sA sB : IV) (k : Nat) : Prop :=
  ok_Db_perform (nI k) w0 w1 w2 w3 w4 po pf ps ba ca cal da ea rar ral ∧ ok_Mo_doStep (nI k) now sK sA sB ∧ ∃ (v : Int32) (ba' ca' : IV) (cal' : LV) (da' ea' : IV) (rar' : NI) (ral' : NL) (now' : LV),
    sp_Db_perform (nI k) w0 w1 w2 w3 w4 po pf ps ba ca cal da ea rar ral = ((if 0 ≤ v then 1 else 0), ba', ca', cal', da', ea', rar', ral') ∧ sp_Mo_doStep (nI k) now sK sA sB = (v, now') ∧
    BR ba' ca' cal' da' ea' rar' ral' now' ∧ RowOK (T + 150) now' ∧ PSame now now'
theorem ge0 {v : Int32} (h : 0 ≤ v.toInt) : (0 : Int32) ≤ v := by rw [Int32.le_iff_toInt_le]; exact h
theorem nge0 {v : Int32} (h : v.toInt < 0) : ¬ (0 : Int32) ≤ v := by rw [Int32.le_iff_toInt_le]; exact fun w => absurd (show (0 : Int) ≤ v.toInt from w) (by omega)
set_option maxRecDepth 10000 in
theorem perf_0 (hp : PR w0 w1 w2 w3 w4 now) (h : RowOK T now) (hT : T ≤ 400000000) (hb : BR ba ca cal da ea rar ral now) {k : Nat} (hk : k < 30) (h1 : po k = nI 0) (h2 : sK k = nI 0) (h3 : sA k = pf k) (h4 : sB k = ps k) (h5 : argR 0 (pf k).toInt (ps k).toInt) : StepR T w0 w1 w2 w3 w4 ba ca cal da ea rar ral now po pf ps sK sA sB k := by
  have v30 : vp_in (nI k) 30 := vp_nI hk (by decide)
  obtain ⟨⟨a0, a4⟩, b0, b4⟩ := h5.1 rfl
  have eaq : pf k = nI (pf k).toInt.toNat := nzex a0
  have ebq : ps k = nI (ps k).toInt.toNat := nzex b0
  obtain ⟨c1, c2, c3, c4, c5, c6⟩ := op_arms hp h hb (a := (pf k).toInt.toNat) (b := (ps k).toInt.toNat) (by omega) (by omega)
  have la : (pf k).toInt64 = lN (pf k).toInt.toNat := by conv => lhs; rw [eaq]
                                                         exact w_lit _ (by omega)
  have lb : (ps k).toInt64 = lN (ps k).toInt.toNat := by conv => lhs; rw [ebq]
                                                         exact w_lit _ (by omega)
  have eC : sp_Db_perform (nI k) w0 w1 w2 w3 w4 po pf ps ba ca cal da ea rar ral = (1, ba, sp_Ci_choose (nI (pf k).toInt.toNat) (nI (ps k).toInt.toNat) ca w2, cal, da, ea, rar, ral) := by
    unfold sp_Db_perform
    simp only [lettn]
    rw [firstOf_c hk, secondOf_c hk, orderOf_c hk, h1, if_pos (show nI 0 = (0 : Int32) from rfl), ← eaq, ← ebq]
  have eM : sp_Mo_doStep (nI k) now sK sA sB = sp_Mo_armsNow (lN (pf k).toInt.toNat) (lN (ps k).toInt.toNat) now := by
    unfold sp_Mo_doStep
    simp only [lettn]
    rw [cl_nI (by omega), h2, if_pos (show nI 0 = (0 : Int32) from rfl), h3, h4, la, lb]
  have oC : ok_Db_perform (nI k) w0 w1 w2 w3 w4 po pf ps ba ca cal da ea rar ral := by
    unfold ok_Db_perform ok_Db_perform_150 ok_Db_perform_216
    simp only [lettn]
    rw [firstOf_c hk, orderOf_c hk, h1]
    exact ⟨fun _ => trivial, fun z => absurd rfl z⟩
  have oM : ok_Mo_doStep (nI k) now sK sA sB := by
    unfold ok_Mo_doStep ok_Mo_doStep_149
    rw [cl_nI (by omega), h2, h3, h4]
    exact ⟨v30, ⟨fun _ => ⟨by rw [la, lb]; exact c4, trivial⟩, fun z => absurd rfl z⟩⟩
  exact ⟨oC, oM, (sp_Mo_armsNow (lN (pf k).toInt.toNat) (lN (ps k).toInt.toNat) now).1, _, _, _, _, _, _, _, (sp_Mo_armsNow (lN (pf k).toInt.toNat) (lN (ps k).toInt.toNat) now).2, by rw [eC, if_pos (ge0 c6)], eM, c1, row_mono c2 (by omega), fre_ps c3⟩
set_option maxRecDepth 10000 in
theorem perf_1 (hp : PR w0 w1 w2 w3 w4 now) (h : RowOK T now) (hT : T ≤ 400000000) (hb : BR ba ca cal da ea rar ral now) {k : Nat} (hk : k < 30) (h1 : po k = nI 1) (h2 : sK k = nI 1) (h3 : sA k = pf k) (h4 : sB k = ps k) (h5 : argR 1 (pf k).toInt (ps k).toInt) : StepR T w0 w1 w2 w3 w4 ba ca cal da ea rar ral now po pf ps sK sA sB k := by
  have v30 : vp_in (nI k) 30 := vp_nI hk (by decide)
  obtain ⟨c1, c2, c3, c4, c5, c6⟩ := op_volts h hb (h5.2.1 rfl)
  have eC : sp_Db_perform (nI k) w0 w1 w2 w3 w4 po pf ps ba ca cal da ea rar ral = (1, ba, upd ca 3 (pf k), cal, da, ea, rar, ral) := by
    unfold sp_Db_perform
    simp only [lettn]
    rw [firstOf_c hk, secondOf_c hk, orderOf_c hk, h1, if_neg (show ¬ nI 1 = (0 : Int32) by decide), if_pos (show nI 1 = (1 : Int32) from rfl)]
  have eM : sp_Mo_doStep (nI k) now sK sA sB = sp_Mo_change 22 (pf k).toInt64 now := by
    unfold sp_Mo_doStep
    simp only [lettn]
    rw [cl_nI (by omega), h2, if_neg (show ¬ nI 1 = (0 : Int32) by decide), if_pos (show nI 1 = (1 : Int32) from rfl), h3]
  have oC : ok_Db_perform (nI k) w0 w1 w2 w3 w4 po pf ps ba ca cal da ea rar ral := by
    unfold ok_Db_perform ok_Db_perform_150 ok_Db_perform_216
    simp only [lettn]
    rw [firstOf_c hk, orderOf_c hk, h1]
    exact ⟨fun z => absurd z (by decide), fun _ => ⟨fun _ => trivial, fun z => absurd rfl z⟩⟩
  have oM : ok_Mo_doStep (nI k) now sK sA sB := by
    unfold ok_Mo_doStep ok_Mo_doStep_149
    rw [cl_nI (by omega), h2, h3]
    exact ⟨v30, ⟨fun z => absurd z (by decide), fun _ => ⟨fun _ => ⟨c4, trivial⟩, fun z => absurd rfl z⟩⟩⟩
  exact ⟨oC, oM, (sp_Mo_change 22 (pf k).toInt64 now).1, _, _, _, _, _, _, _, (sp_Mo_change 22 (pf k).toInt64 now).2, by rw [eC, if_pos (ge0 (by rw [c5]; exact c6))], eM, c1, row_mono c2 (by omega), c3⟩
set_option maxRecDepth 10000 in
theorem perf_2 (hp : PR w0 w1 w2 w3 w4 now) (h : RowOK T now) (hT : T ≤ 400000000) (hb : BR ba ca cal da ea rar ral now) {k : Nat} (hk : k < 30) (h1 : po k = nI 2) (h2 : sK k = nI 2) (h3 : sA k = pf k) (h4 : sB k = ps k) (h5 : argR 2 (pf k).toInt (ps k).toInt) : StepR T w0 w1 w2 w3 w4 ba ca cal da ea rar ral now po pf ps sK sA sB k := by
  have v30 : vp_in (nI k) 30 := vp_nI hk (by decide)
  obtain ⟨a0, a9⟩ := h5.2.2.1 rfl
  obtain ⟨c1, c2, c3, c4⟩ := op_set hp h hb a0
  obtain ⟨s1, s2⟩ := c_settings hp h
  have hN := zN h
  have cs : pf k < sp_Pa_settings w0 ↔ (pf k).toInt < (10 ^ zD now : Nat) := by rw [s1, Int32.lt_iff_toInt_lt, nIz (by omega)]
  have eM : sp_Mo_doStep (nI k) now sK sA sB = sp_Mo_setNow (pf k) now := by
    unfold sp_Mo_doStep
    simp only [lettn]
    rw [cl_nI (by omega), h2, if_neg (show ¬ nI 2 = (0 : Int32) by decide), if_neg (show ¬ nI 2 = (1 : Int32) by decide), if_pos (show nI 2 = (2 : Int32) from rfl), h3]
  have oM : ok_Mo_doStep (nI k) now sK sA sB := by
    unfold ok_Mo_doStep ok_Mo_doStep_149
    rw [cl_nI (by omega), h2, h3]
    exact ⟨v30, ⟨fun z => absurd z (by decide), fun _ => ⟨fun z => absurd z (by decide), fun _ => ⟨fun _ => ⟨c1, trivial⟩, fun z => absurd rfl z⟩⟩⟩⟩
  by_cases q : (pf k).toInt < (10 ^ zD now : Nat)
  · obtain ⟨e1, e2, e3, e4, e5, e6, e7⟩ := c3 q
    have eC : sp_Db_perform (nI k) w0 w1 w2 w3 w4 po pf ps ba ca cal da ea rar ral = (1, ba, sp_Ci_dial (pf k) ca w0 w1 w3 w4, cal, da, ea, rar, ral) := by
      unfold sp_Db_perform
      simp only [lettn]
      rw [firstOf_c hk, secondOf_c hk, orderOf_c hk, h1, if_neg (show ¬ nI 2 = (0 : Int32) by decide), if_neg (show ¬ nI 2 = (1 : Int32) by decide), if_pos (show nI 2 = (2 : Int32) from rfl), if_pos (cs.mpr q)]
    have oC : ok_Db_perform (nI k) w0 w1 w2 w3 w4 po pf ps ba ca cal da ea rar ral := by
      unfold ok_Db_perform ok_Db_perform_150 ok_Db_perform_216
      simp only [lettn]
      rw [firstOf_c hk, orderOf_c hk, h1]
      exact ⟨fun z => absurd z (by decide), fun _ => ⟨fun z => absurd z (by decide), fun _ => ⟨fun _ => ⟨s2, fun _ => ⟨e3, trivial⟩, fun z => absurd (cs.mpr q) z⟩, fun z => absurd rfl z⟩⟩⟩
    exact ⟨oC, oM, (sp_Mo_setNow (pf k) now).1, _, _, _, _, _, _, _, (sp_Mo_setNow (pf k) now).2, by rw [eC, if_pos (ge0 (by rw [e6]; exact e7))], eM, e2, row_mono e4 (by omega), fre_ps e5⟩
  · obtain ⟨e1, e2⟩ := c4 q
    have eC : sp_Db_perform (nI k) w0 w1 w2 w3 w4 po pf ps ba ca cal da ea rar ral = (0, ba, ca, cal, da, ea, rar, ral) := by
      unfold sp_Db_perform
      simp only [lettn]
      rw [firstOf_c hk, secondOf_c hk, orderOf_c hk, h1, if_neg (show ¬ nI 2 = (0 : Int32) by decide), if_neg (show ¬ nI 2 = (1 : Int32) by decide), if_pos (show nI 2 = (2 : Int32) from rfl), if_neg (fun z => q (cs.mp z))]
    have oC : ok_Db_perform (nI k) w0 w1 w2 w3 w4 po pf ps ba ca cal da ea rar ral := by
      unfold ok_Db_perform ok_Db_perform_150 ok_Db_perform_216
      simp only [lettn]
      rw [firstOf_c hk, orderOf_c hk, h1]
      exact ⟨fun z => absurd z (by decide), fun _ => ⟨fun z => absurd z (by decide), fun _ => ⟨fun _ => ⟨s2, fun z => absurd (cs.mp z) q, fun _ => trivial⟩, fun z => absurd rfl z⟩⟩⟩
    exact ⟨oC, oM, (-2 : Int32), _, _, _, _, _, _, _, now, by rw [eC, if_neg (by decide)], eM.trans e2, hb, row_mono h (by omega), ps_rf now⟩
set_option maxRecDepth 10000 in
theorem perf_3 (hp : PR w0 w1 w2 w3 w4 now) (h : RowOK T now) (hT : T ≤ 400000000) (hb : BR ba ca cal da ea rar ral now) {k : Nat} (hk : k < 30) (h1 : po k = nI 3) (h2 : sK k = nI 3) (h3 : sA k = pf k) (h4 : sB k = ps k) (h5 : argR 3 (pf k).toInt (ps k).toInt) : StepR T w0 w1 w2 w3 w4 ba ca cal da ea rar ral now po pf ps sK sA sB k := by
  have v30 : vp_in (nI k) 30 := vp_nI hk (by decide)
  obtain ⟨c1, c2, c3, c4⟩ := op_turn h hb
  have eC : sp_Db_perform (nI k) w0 w1 w2 w3 w4 po pf ps ba ca cal da ea rar ral = (1, ba, upd ca 6 (if ca 6 = 0 then 1 else 0), cal, da, ea, rar, ral) := by
    unfold sp_Db_perform sp_Db_perform_150
    simp only [lettn]
    rw [firstOf_c hk, secondOf_c hk, orderOf_c hk, h1, if_neg (show ¬ nI 3 = (0 : Int32) by decide), if_neg (show ¬ nI 3 = (1 : Int32) by decide), if_neg (show ¬ nI 3 = (2 : Int32) by decide), if_pos (show nI 3 = (3 : Int32) from rfl)]
    by_cases q : ca 6 = 0
    · rw [if_pos q, if_pos q]
    · rw [if_neg q, if_neg q]
  have eM : sp_Mo_doStep (nI k) now sK sA sB = sp_Mo_turnNow now := by
    unfold sp_Mo_doStep
    simp only [lettn]
    rw [cl_nI (by omega), h2, if_neg (show ¬ nI 3 = (0 : Int32) by decide), if_neg (show ¬ nI 3 = (1 : Int32) by decide), if_neg (show ¬ nI 3 = (2 : Int32) by decide), if_pos (show nI 3 = (3 : Int32) from rfl)]
  have oC : ok_Db_perform (nI k) w0 w1 w2 w3 w4 po pf ps ba ca cal da ea rar ral := by
    unfold ok_Db_perform ok_Db_perform_150 ok_Db_perform_216
    simp only [lettn]
    rw [firstOf_c hk, orderOf_c hk, h1]
    exact ⟨fun z => absurd z (by decide), fun _ => ⟨fun z => absurd z (by decide), fun _ => ⟨fun z => absurd z (by decide), fun _ => ⟨fun _ => ⟨fun _ => ⟨Or.inr rfl, trivial⟩, fun _ => ⟨Or.inl rfl, trivial⟩⟩, fun z => absurd rfl z⟩⟩⟩⟩
  have oM : ok_Mo_doStep (nI k) now sK sA sB := by
    unfold ok_Mo_doStep ok_Mo_doStep_149
    rw [cl_nI (by omega), h2, h3]
    exact ⟨v30, ⟨fun z => absurd z (by decide), fun _ => ⟨fun z => absurd z (by decide), fun _ => ⟨fun z => absurd z (by decide), fun _ => ⟨fun _ => trivial, fun z => absurd rfl z⟩⟩⟩⟩⟩
  exact ⟨oC, oM, (sp_Mo_turnNow now).1, _, _, _, _, _, _, _, (sp_Mo_turnNow now).2, by rw [eC, if_pos (ge0 (by rw [c4]; split <;> decide))], eM, c1, row_mono c2 (by omega), fre_ps c3⟩
set_option maxRecDepth 10000 in
theorem perf_4 (hp : PR w0 w1 w2 w3 w4 now) (h : RowOK T now) (hT : T ≤ 400000000) (hb : BR ba ca cal da ea rar ral now) {k : Nat} (hk : k < 30) (h1 : po k = nI 4) (h2 : sK k = nI 4) (h3 : sA k = pf k) (h4 : sB k = ps k) (h5 : argR 4 (pf k).toInt (ps k).toInt) : StepR T w0 w1 w2 w3 w4 ba ca cal da ea rar ral now po pf ps sK sA sB k := by
  have v30 : vp_in (nI k) 30 := vp_nI hk (by decide)
  have ha := h5.2.2.2.1 rfl
  obtain ⟨c1, c2, c3, c4, c5, c6⟩ := op_wire hp h hb (l := pf k) (by omega)
  have eC : sp_Db_perform (nI k) w0 w1 w2 w3 w4 po pf ps ba ca cal da ea rar ral = (1, ba, sp_Ci_wire (pf k) ca w0 w3 w4, cal, da, ea, rar, ral) := by
    unfold sp_Db_perform
    simp only [lettn]
    rw [firstOf_c hk, secondOf_c hk, orderOf_c hk, h1, if_neg (show ¬ nI 4 = (0 : Int32) by decide), if_neg (show ¬ nI 4 = (1 : Int32) by decide), if_neg (show ¬ nI 4 = (2 : Int32) by decide), if_neg (show ¬ nI 4 = (3 : Int32) by decide), if_pos (show nI 4 = (4 : Int32) from rfl)]
  have eM : sp_Mo_doStep (nI k) now sK sA sB = sp_Mo_change 32 (pf k).toInt64 now := by
    unfold sp_Mo_doStep
    simp only [lettn]
    rw [cl_nI (by omega), h2, if_neg (show ¬ nI 4 = (0 : Int32) by decide), if_neg (show ¬ nI 4 = (1 : Int32) by decide), if_neg (show ¬ nI 4 = (2 : Int32) by decide), if_neg (show ¬ nI 4 = (3 : Int32) by decide), if_pos (show nI 4 = (4 : Int32) from rfl), h3]
  have oC : ok_Db_perform (nI k) w0 w1 w2 w3 w4 po pf ps ba ca cal da ea rar ral := by
    unfold ok_Db_perform ok_Db_perform_150 ok_Db_perform_216
    simp only [lettn]
    rw [firstOf_c hk, orderOf_c hk, h1]
    exact ⟨fun z => absurd z (by decide), fun _ => ⟨fun z => absurd z (by decide), fun _ => ⟨fun z => absurd z (by decide), fun _ => ⟨fun z => absurd z (by decide), fun _ => ⟨fun _ => trivial, fun z => absurd rfl z⟩⟩⟩⟩⟩
  have oM : ok_Mo_doStep (nI k) now sK sA sB := by
    unfold ok_Mo_doStep ok_Mo_doStep_149
    rw [cl_nI (by omega), h2, h3]
    exact ⟨v30, ⟨fun z => absurd z (by decide), fun _ => ⟨fun z => absurd z (by decide), fun _ => ⟨fun z => absurd z (by decide), fun _ => ⟨fun z => absurd z (by decide), fun _ => ⟨fun _ => ⟨c4, trivial⟩, fun z => absurd rfl z⟩⟩⟩⟩⟩⟩
  exact ⟨oC, oM, (sp_Mo_change 32 (pf k).toInt64 now).1, _, _, _, _, _, _, _, (sp_Mo_change 32 (pf k).toInt64 now).2, by rw [eC, if_pos (ge0 (by rw [c5]; exact c6))], eM, c1, row_mono c2 (by omega), fre_ps c3⟩
set_option maxRecDepth 10000 in
theorem perf_5 (hp : PR w0 w1 w2 w3 w4 now) (h : RowOK T now) (hT : T ≤ 400000000) (hb : BR ba ca cal da ea rar ral now) {k : Nat} (hk : k < 30) (h1 : po k = nI 5) (h2 : sK k = nI 5) (h3 : sA k = pf k) (h4 : sB k = ps k) (h5 : argR 5 (pf k).toInt (ps k).toInt) : StepR T w0 w1 w2 w3 w4 ba ca cal da ea rar ral now po pf ps sK sA sB k := by
  have v30 : vp_in (nI k) 30 := vp_nI hk (by decide)
  have ha := h5.2.2.2.2.1 rfl
  have eaq : pf k = nI (pf k).toInt.toNat := nzex (by omega)
  have hN : (pf k).toInt.toNat ≤ 99 := by omega
  generalize (pf k).toInt.toNat = N at eaq hN
  obtain ⟨c1, c2, c3, c4, c5, c6⟩ := rest_BC (N := N) (by omega) N big big 0 T now ba ca cal da (by omega) (by rw [big_eq]; omega) (by rw [big_eq]; omega) hp h (by omega) hb.1
  have r39 := (row_w c4 39 0 (T + N) rfl rfl).2
  have hv : 0 ≤ (sp_Mo_restNow (nI N) now).1.toInt := by
    unfold sp_Mo_restNow
    rw [show (0 : Int32) = nI 0 from rfl, c6, Kit.i32_of_i64 (by have := r39.1; show _ ≤ zr _ 39; omega) (by have := r39.2; show zr _ 39 < _; omega)]
    exact r39.1
  have eC : sp_Db_perform (nI k) w0 w1 w2 w3 w4 po pf ps ba ca cal da ea rar ral = (1, ba, (sp_Be_passTime (nI N) ca cal w0 w3 w4).1, (sp_Be_passTime (nI N) ca cal w0 w3 w4).2, da, ea, rar, ral) := by
    unfold sp_Db_perform
    simp only [lettn]
    rw [firstOf_c hk, secondOf_c hk, orderOf_c hk, h1, if_neg (show ¬ nI 5 = (0 : Int32) by decide), if_neg (show ¬ nI 5 = (1 : Int32) by decide), if_neg (show ¬ nI 5 = (2 : Int32) by decide), if_neg (show ¬ nI 5 = (3 : Int32) by decide), if_neg (show ¬ nI 5 = (4 : Int32) by decide), if_pos (show nI 5 = (5 : Int32) from rfl), eaq]
  have eM : sp_Mo_doStep (nI k) now sK sA sB = sp_Mo_restNow (nI N) now := by
    unfold sp_Mo_doStep
    simp only [lettn]
    rw [cl_nI (by omega), h2, if_neg (show ¬ nI 5 = (0 : Int32) by decide), if_neg (show ¬ nI 5 = (1 : Int32) by decide), if_neg (show ¬ nI 5 = (2 : Int32) by decide), if_neg (show ¬ nI 5 = (3 : Int32) by decide), if_neg (show ¬ nI 5 = (4 : Int32) by decide), if_pos (show nI 5 = (5 : Int32) from rfl), h3, eaq]
  have oC : ok_Db_perform (nI k) w0 w1 w2 w3 w4 po pf ps ba ca cal da ea rar ral := by
    unfold ok_Db_perform ok_Db_perform_150 ok_Db_perform_216
    simp only [lettn]
    rw [firstOf_c hk, orderOf_c hk, h1]
    exact ⟨fun z => absurd z (by decide), fun _ => ⟨fun z => absurd z (by decide), fun _ => ⟨fun z => absurd z (by decide), fun _ => ⟨fun z => absurd z (by decide), fun _ => ⟨fun z => absurd z (by decide), fun _ => ⟨fun _ => ⟨by rw [eaq]; exact c1, trivial⟩, fun z => absurd rfl z⟩⟩⟩⟩⟩⟩
  have oM : ok_Mo_doStep (nI k) now sK sA sB := by
    unfold ok_Mo_doStep ok_Mo_doStep_149
    rw [cl_nI (by omega), h2, h3]
    exact ⟨v30, ⟨fun z => absurd z (by decide), fun _ => ⟨fun z => absurd z (by decide), fun _ => ⟨fun z => absurd z (by decide), fun _ => ⟨fun z => absurd z (by decide), fun _ => ⟨fun z => absurd z (by decide), fun _ => ⟨fun _ => ⟨by rw [eaq]; exact c2, trivial⟩, fun z => absurd rfl z⟩⟩⟩⟩⟩⟩⟩
  exact ⟨oC, oM, (sp_Mo_restNow (nI N) now).1, _, _, _, _, _, _, _, (sp_Mo_restNow (nI N) now).2, by rw [eC, if_pos (ge0 hv)]; rfl, eM, ⟨c3, rr_same hb.2 (fun j hj => c5 j (by omega))⟩, row_mono c4 (by omega), fr_ps c5⟩
set_option maxRecDepth 10000 in
theorem perf_6 (hp : PR w0 w1 w2 w3 w4 now) (h : RowOK T now) (hT : T ≤ 400000000) (hb : BR ba ca cal da ea rar ral now) {k : Nat} (hk : k < 30) (h1 : po k = nI 6) (h2 : sK k = nI 6) (h3 : sA k = pf k) (h4 : sB k = ps k) (h5 : argR 6 (pf k).toInt (ps k).toInt) : StepR T w0 w1 w2 w3 w4 ba ca cal da ea rar ral now po pf ps sK sA sB k := by
  have v30 : vp_in (nI k) 30 := vp_nI hk (by decide)
  have ha := h5.2.2.2.2.2.1 rfl
  have eaq : pf k = nI (pf k).toInt.toNat := nzex (by omega)
  have hN : (pf k).toInt.toNat ≤ 20 := by omega
  generalize (pf k).toInt.toNat = N at eaq hN
  obtain ⟨c1, c2, ⟨v, ba', ca', cal', da', c3, c4, c5⟩, c6, c7⟩ := reads_BC (N := N) (by omega) N big big 0 T now ba ca cal da (by omega) (by rw [big_eq]; omega) (by rw [big_eq]; omega) hp h (by omega) hb.1
  have eC : sp_Db_perform (nI k) w0 w1 w2 w3 w4 po pf ps ba ca cal da ea rar ral = (v, ba', ca', cal', da', ea, rar, ral) := by
    unfold sp_Db_perform
    simp only [lettn]
    rw [firstOf_c hk, secondOf_c hk, orderOf_c hk, h1, if_neg (show ¬ nI 6 = (0 : Int32) by decide), if_neg (show ¬ nI 6 = (1 : Int32) by decide), if_neg (show ¬ nI 6 = (2 : Int32) by decide), if_neg (show ¬ nI 6 = (3 : Int32) by decide), if_neg (show ¬ nI 6 = (4 : Int32) by decide), if_neg (show ¬ nI 6 = (5 : Int32) by decide), if_pos (show nI 6 = (6 : Int32) from rfl), eaq]
    unfold sp_Be_makeReadings
    rw [show (0 : Int32) = nI 0 from rfl, c3]
  have eM : sp_Mo_doStep (nI k) now sK sA sB = sp_Mo_readsNow (nI N) now := by
    unfold sp_Mo_doStep
    simp only [lettn]
    rw [cl_nI (by omega), h2, if_neg (show ¬ nI 6 = (0 : Int32) by decide), if_neg (show ¬ nI 6 = (1 : Int32) by decide), if_neg (show ¬ nI 6 = (2 : Int32) by decide), if_neg (show ¬ nI 6 = (3 : Int32) by decide), if_neg (show ¬ nI 6 = (4 : Int32) by decide), if_neg (show ¬ nI 6 = (5 : Int32) by decide), if_pos (show nI 6 = (6 : Int32) from rfl), h3, eaq]
  have vB : isB v := by rcases c5 with ⟨z, -⟩ | ⟨z, -⟩ <;> (rw [z]; first | exact Or.inr rfl | exact Or.inl rfl)
  have oC : ok_Db_perform (nI k) w0 w1 w2 w3 w4 po pf ps ba ca cal da ea rar ral := by
    unfold ok_Db_perform ok_Db_perform_150 ok_Db_perform_216
    simp only [lettn]
    rw [firstOf_c hk, orderOf_c hk, h1]
    exact ⟨fun z => absurd z (by decide), fun _ => ⟨fun z => absurd z (by decide), fun _ => ⟨fun z => absurd z (by decide), fun _ => ⟨fun z => absurd z (by decide), fun _ => ⟨fun z => absurd z (by decide), fun _ => ⟨fun z => absurd z (by decide), fun _ => ⟨fun _ => ⟨by rw [eaq]; exact c1, by rw [eaq]; unfold sp_Be_makeReadings; rw [show (0 : Int32) = nI 0 from rfl, c3]; exact vB, trivial⟩, fun z => absurd rfl z⟩⟩⟩⟩⟩⟩⟩
  have oM : ok_Mo_doStep (nI k) now sK sA sB := by
    unfold ok_Mo_doStep ok_Mo_doStep_149
    rw [cl_nI (by omega), h2, h3]
    exact ⟨v30, ⟨fun z => absurd z (by decide), fun _ => ⟨fun z => absurd z (by decide), fun _ => ⟨fun z => absurd z (by decide), fun _ => ⟨fun z => absurd z (by decide), fun _ => ⟨fun z => absurd z (by decide), fun _ => ⟨fun z => absurd z (by decide), fun _ => ⟨fun _ => ⟨by rw [eaq]; exact c2, trivial⟩, fun z => absurd rfl z⟩⟩⟩⟩⟩⟩⟩⟩
  refine ⟨oC, oM, (sp_Mo_readsNow (nI N) now).1, _, _, _, _, _, _, _, (sp_Mo_readsNow (nI N) now).2, ?_, eM, ⟨c4, rr_same hb.2 (fun j hj => c7 j (by omega))⟩, row_mono c6 (by omega), fr_ps c7⟩
  rw [eC]
  have c5' : (v = 1 ∧ (sp_Mo_readsNow (nI N) now).1 = 0) ∨ (v = 0 ∧ (sp_Mo_readsNow (nI N) now).1.toInt < 0) := c5
  rcases c5' with ⟨z1, z2⟩ | ⟨z1, z2⟩
  · rw [z1, z2, if_pos (show (0 : Int32) ≤ 0 by decide)]
  · rw [z1, if_neg (fun z => nge0 z2 z)]
set_option maxRecDepth 10000 in
theorem perf_7 (hp : PR w0 w1 w2 w3 w4 now) (h : RowOK T now) (hT : T ≤ 400000000) (hb : BR ba ca cal da ea rar ral now) {k : Nat} (hk : k < 30) (h1 : po k = nI 7) (h2 : sK k = nI 7) (h3 : sA k = pf k) (h4 : sB k = ps k) (h5 : argR 7 (pf k).toInt (ps k).toInt) : StepR T w0 w1 w2 w3 w4 ba ca cal da ea rar ral now po pf ps sK sA sB k := by
  have v30 : vp_in (nI k) 30 := vp_nI hk (by decide)
  have ca3 : (ca 3).toInt = zr now 22 := hb.1.1.1.2.2.2.2.2.2.2.2.1
  have q22 : ca 3 = 0 ↔ zr now 22 = 0 := z32 ca3 0 0 rfl
  have q22m : now 22 = (0 : Int64) ↔ zr now 22 = 0 := z64 (show (now 22).toInt = zr now 22 from rfl) 0 0 rfl
  by_cases q : zr now 22 = 0
  · have eC : sp_Db_perform (nI k) w0 w1 w2 w3 w4 po pf ps ba ca cal da ea rar ral = (0, ba, ca, cal, da, ea, rar, ral) := by
      unfold sp_Db_perform
      simp only [lettn]
      rw [firstOf_c hk, secondOf_c hk, orderOf_c hk, h1, if_neg (show ¬ nI 7 = (0 : Int32) by decide), if_neg (show ¬ nI 7 = (1 : Int32) by decide), if_neg (show ¬ nI 7 = (2 : Int32) by decide), if_neg (show ¬ nI 7 = (3 : Int32) by decide), if_neg (show ¬ nI 7 = (4 : Int32) by decide), if_neg (show ¬ nI 7 = (5 : Int32) by decide), if_neg (show ¬ nI 7 = (6 : Int32) by decide), if_pos (show nI 7 = (7 : Int32) from rfl), if_pos (q22.mpr q)]
    have e149 : ∀ x : Int32, sp_Mo_doStep_149 now x = (-2, now) ∧ ok_Mo_doStep_149 now x := fun x => by
      unfold sp_Mo_doStep_149 ok_Mo_doStep_149 sp_Mo_balanceNow ok_Mo_balanceNow
      simp only [lettn]
      rw [if_pos (q22m.mpr q)]
      exact ⟨rfl, ⟨fun _ => trivial, fun z => absurd (q22m.mpr q) z⟩, trivial⟩
    have eM : sp_Mo_doStep (nI k) now sK sA sB = (-2, now) := by
      unfold sp_Mo_doStep
      simp only [lettn]
      rw [cl_nI (by omega), h2, if_neg (show ¬ nI 7 = (0 : Int32) by decide), if_neg (show ¬ nI 7 = (1 : Int32) by decide), if_neg (show ¬ nI 7 = (2 : Int32) by decide), if_neg (show ¬ nI 7 = (3 : Int32) by decide), if_neg (show ¬ nI 7 = (4 : Int32) by decide), if_neg (show ¬ nI 7 = (5 : Int32) by decide), if_neg (show ¬ nI 7 = (6 : Int32) by decide), (e149 1).1, (e149 0).1, ite_self]
    have oC : ok_Db_perform (nI k) w0 w1 w2 w3 w4 po pf ps ba ca cal da ea rar ral := by
      unfold ok_Db_perform
      simp only [lettn]
      rw [firstOf_c hk, orderOf_c hk, h1]
      exact ⟨fun z => absurd z (by decide), fun _ => ⟨fun z => absurd z (by decide), fun _ => ⟨fun z => absurd z (by decide), fun _ => ⟨fun z => absurd z (by decide), fun _ => ⟨fun z => absurd z (by decide), fun _ => ⟨fun z => absurd z (by decide), fun _ => ⟨fun z => absurd z (by decide), fun _ => ⟨fun _ => ⟨fun _ => trivial, fun z => absurd (q22.mpr q) z⟩, fun z => absurd rfl z⟩⟩⟩⟩⟩⟩⟩⟩
    have oM : ok_Mo_doStep (nI k) now sK sA sB := by
      unfold ok_Mo_doStep
      rw [cl_nI (by omega), h2]
      exact ⟨v30, ⟨fun z => absurd z (by decide), fun _ => ⟨fun z => absurd z (by decide), fun _ => ⟨fun z => absurd z (by decide), fun _ => ⟨fun z => absurd z (by decide), fun _ => ⟨fun z => absurd z (by decide), fun _ => ⟨fun z => absurd z (by decide), fun _ => ⟨fun z => absurd z (by decide), fun _ => ⟨fun _ => (e149 1).2, fun _ => (e149 0).2⟩⟩⟩⟩⟩⟩⟩⟩⟩
    exact ⟨oC, oM, (-2 : Int32), _, _, _, _, _, _, _, now, by rw [eC, if_neg (by decide)], eM, hb, row_mono h (by omega), ps_rf now⟩
  · have hx : ∃ x : Int32, sp_Db_perform (nI k) w0 w1 w2 w3 w4 po pf ps ba ca cal da ea rar ral = sp_Db_perform_216 ba ca cal da ea rar ral w0 w1 w2 w3 w4 x ∧ sp_Mo_doStep (nI k) now sK sA sB = sp_Mo_doStep_149 now x := by
      by_cases u : pf k = (1 : Int32)
      · refine ⟨1, ?_, ?_⟩
        · unfold sp_Db_perform
          simp only [lettn]
          rw [firstOf_c hk, secondOf_c hk, orderOf_c hk, h1, if_neg (show ¬ nI 7 = (0 : Int32) by decide), if_neg (show ¬ nI 7 = (1 : Int32) by decide), if_neg (show ¬ nI 7 = (2 : Int32) by decide), if_neg (show ¬ nI 7 = (3 : Int32) by decide), if_neg (show ¬ nI 7 = (4 : Int32) by decide), if_neg (show ¬ nI 7 = (5 : Int32) by decide), if_neg (show ¬ nI 7 = (6 : Int32) by decide), if_pos (show nI 7 = (7 : Int32) from rfl), if_neg (fun z => q (q22.mp z)), if_pos u]
        · unfold sp_Mo_doStep
          simp only [lettn]
          rw [cl_nI (by omega), h2, if_neg (show ¬ nI 7 = (0 : Int32) by decide), if_neg (show ¬ nI 7 = (1 : Int32) by decide), if_neg (show ¬ nI 7 = (2 : Int32) by decide), if_neg (show ¬ nI 7 = (3 : Int32) by decide), if_neg (show ¬ nI 7 = (4 : Int32) by decide), if_neg (show ¬ nI 7 = (5 : Int32) by decide), if_neg (show ¬ nI 7 = (6 : Int32) by decide), h3, if_pos u]
      · refine ⟨0, ?_, ?_⟩
        · unfold sp_Db_perform
          simp only [lettn]
          rw [firstOf_c hk, secondOf_c hk, orderOf_c hk, h1, if_neg (show ¬ nI 7 = (0 : Int32) by decide), if_neg (show ¬ nI 7 = (1 : Int32) by decide), if_neg (show ¬ nI 7 = (2 : Int32) by decide), if_neg (show ¬ nI 7 = (3 : Int32) by decide), if_neg (show ¬ nI 7 = (4 : Int32) by decide), if_neg (show ¬ nI 7 = (5 : Int32) by decide), if_neg (show ¬ nI 7 = (6 : Int32) by decide), if_pos (show nI 7 = (7 : Int32) from rfl), if_neg (fun z => q (q22.mp z)), if_neg u]
        · unfold sp_Mo_doStep
          simp only [lettn]
          rw [cl_nI (by omega), h2, if_neg (show ¬ nI 7 = (0 : Int32) by decide), if_neg (show ¬ nI 7 = (1 : Int32) by decide), if_neg (show ¬ nI 7 = (2 : Int32) by decide), if_neg (show ¬ nI 7 = (3 : Int32) by decide), if_neg (show ¬ nI 7 = (4 : Int32) by decide), if_neg (show ¬ nI 7 = (5 : Int32) by decide), if_neg (show ¬ nI 7 = (6 : Int32) by decide), h3, if_neg u]
    have B := fun x : Int32 => bal_BR hp h (by omega) hb q x
    have oC : ok_Db_perform (nI k) w0 w1 w2 w3 w4 po pf ps ba ca cal da ea rar ral := by
      unfold ok_Db_perform ok_Db_perform_216
      simp only [lettn]
      rw [firstOf_c hk, orderOf_c hk, h1]
      exact ⟨fun z => absurd z (by decide), fun _ => ⟨fun z => absurd z (by decide), fun _ => ⟨fun z => absurd z (by decide), fun _ => ⟨fun z => absurd z (by decide), fun _ => ⟨fun z => absurd z (by decide), fun _ => ⟨fun z => absurd z (by decide), fun _ => ⟨fun z => absurd z (by decide), fun _ => ⟨fun _ => ⟨fun z => absurd (q22.mp z) q, fun _ => ⟨fun _ => ⟨(B 1).1, trivial⟩, fun _ => ⟨(B 0).1, trivial⟩⟩⟩, fun z => absurd rfl z⟩⟩⟩⟩⟩⟩⟩⟩
    have oM : ok_Mo_doStep (nI k) now sK sA sB := by
      unfold ok_Mo_doStep ok_Mo_doStep_149
      rw [cl_nI (by omega), h2]
      exact ⟨v30, ⟨fun z => absurd z (by decide), fun _ => ⟨fun z => absurd z (by decide), fun _ => ⟨fun z => absurd z (by decide), fun _ => ⟨fun z => absurd z (by decide), fun _ => ⟨fun z => absurd z (by decide), fun _ => ⟨fun z => absurd z (by decide), fun _ => ⟨fun z => absurd z (by decide), fun _ => ⟨fun _ => ⟨(B 1).2.1, trivial⟩, fun _ => ⟨(B 0).2.1, trivial⟩⟩⟩⟩⟩⟩⟩⟩⟩⟩
    obtain ⟨x, x1, x2⟩ := hx
    obtain ⟨b1, b2, b3, b4, ⟨b5, -⟩, b6, ba', ca', cal', da', ea', rar', ral', b7, b8⟩ := B x
    have eC : sp_Db_perform_216 ba ca cal da ea rar ral w0 w1 w2 w3 w4 x = (1, ba', ca', cal', da', ea', rar', ral') := by
      unfold sp_Db_perform_216
      simp only [lettn]
      rw [b7]
    have eM : sp_Mo_doStep_149 now x = sp_Mo_balanceNow x now := by
      unfold sp_Mo_doStep_149
      rfl
    exact ⟨oC, oM, (sp_Mo_balanceNow x now).1, _, _, _, _, _, _, _, (sp_Mo_balanceNow x now).2, by rw [x1, eC, if_pos (ge0 (by omega))], x2.trans eM, b8, row_mono b3 (by omega), fre_ps b4⟩
theorem perf_R (hp : PR w0 w1 w2 w3 w4 now) (h : RowOK T now) (hT : T ≤ 400000000) (hb : BR ba ca cal da ea rar ral now) {k : Nat} (hk : k < 30) {w : Nat} (hw : w < 8) (h1 : po k = nI w) (h2 : sK k = nI w) (h3 : sA k = pf k) (h4 : sB k = ps k) (h5 : argR w (pf k).toInt (ps k).toInt) : StepR T w0 w1 w2 w3 w4 ba ca cal da ea rar ral now po pf ps sK sA sB k := by
  match w, hw, h1, h2, h5 with
  | 0, _, h1, h2, h5 => exact perf_0 hp h hT hb hk h1 h2 h3 h4 h5
  | 1, _, h1, h2, h5 => exact perf_1 hp h hT hb hk h1 h2 h3 h4 h5
  | 2, _, h1, h2, h5 => exact perf_2 hp h hT hb hk h1 h2 h3 h4 h5
  | 3, _, h1, h2, h5 => exact perf_3 hp h hT hb hk h1 h2 h3 h4 h5
  | 4, _, h1, h2, h5 => exact perf_4 hp h hT hb hk h1 h2 h3 h4 h5
  | 5, _, h1, h2, h5 => exact perf_5 hp h hT hb hk h1 h2 h3 h4 h5
  | 6, _, h1, h2, h5 => exact perf_6 hp h hT hb hk h1 h2 h3 h4 h5
  | 7, _, h1, h2, h5 => exact perf_7 hp h hT hb hk h1 h2 h3 h4 h5
  | w + 8, z, _, _, _ => exact absurd z (by omega)
end TPE
