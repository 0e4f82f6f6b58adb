section TSA
variable {T : Int} {dv t tb w0 w1 w2 w3 w4 ba ca da ea rev rb fl : IV} {cal : LV} {rar : NI} {ral : NL} {xb xc : NI} {xcl : NL} {xd xe : NI} {xr : NNI} {xrl : NNL} {yb yc : NI} {ycl : NL} {yd ye : NI} {yr : NNI} {yrl : NNL} {o : IV} {now pa sa : LV} {iS bu rp : IV} {p q : Int32}
/-! ===== the operations keep what holds between two calls ===== -/
theorem inv_o {o' : IV} (h : Inv T dv t tb w0 w1 w2 w3 w4 ba ca cal da ea rar ral rev rb fl xb xc xcl xd xe xr xrl yb yc ycl yd ye yr yrl o now pa sa iS bu rp) (h5 : o' 5 = o 5) (h8 : o' 8 = o 8) (h13 : o' 13 = o 13) (h28 : o' 28 = o 28) : Inv T dv t tb w0 w1 w2 w3 w4 ba ca cal da ea rar ral rev rb fl xb xc xcl xd xe xr xrl yb yc ycl yd ye yr yrl o' now pa sa iS bu rp := by
  obtain ⟨⟨B, n, hB, h613⟩, hp, hr, hb, hpa, hsa, hre⟩ := h
  exact ⟨⟨B, n, buf_o hB h8, by rw [h13]; exact h613⟩, hp, hr, hb, past_cells hpa rfl rfl h5, hsa, rep_o hre h28⟩
theorem inv_6 (h : Inv T dv t tb w0 w1 w2 w3 w4 ba ca cal da ea rar ral rev rb fl xb xc xcl xd xe xr xrl yb yc ycl yd ye yr yrl o now pa sa iS bu rp) (c : Int32) : Inv T dv t tb w0 w1 w2 w3 w4 ba ca cal da ea rar ral rev rb fl xb xc xcl xd xe xr xrl yb yc ycl yd ye yr yrl (upd o 6 c) now pa sa iS bu rp := inv_o h (un (by decide)) (un (by decide)) (un (by decide)) (un (by decide))
theorem inv_ea {ea' : IV} (h : Inv T dv t tb w0 w1 w2 w3 w4 ba ca cal da ea rar ral rev rb fl xb xc xcl xd xe xr xrl yb yc ycl yd ye yr yrl o now pa sa iS bu rp) (e : ea' 1 = ea 1) : Inv T dv t tb w0 w1 w2 w3 w4 ba ca cal da ea' rar ral rev rb fl xb xc xcl xd xe xr xrl yb yc ycl yd ye yr yrl o now pa sa iS bu rp := by
  obtain ⟨ht, hp, hr, hb, hpa, hsa, hre⟩ := h
  exact ⟨ht, hp, hr, ⟨hb.1, rr_ea hb.2 e⟩, hpa, hsa, hre⟩
theorem inv_T {U : Int} (h : Inv T dv t tb w0 w1 w2 w3 w4 ba ca cal da ea rar ral rev rb fl xb xc xcl xd xe xr xrl yb yc ycl yd ye yr yrl o now pa sa iS bu rp) (e : T ≤ U) : Inv U dv t tb w0 w1 w2 w3 w4 ba ca cal da ea rar ral rev rb fl xb xc xcl xd xe xr xrl yb yc ycl yd ye yr yrl o now pa sa iS bu rp := by
  obtain ⟨ht, hp, hr, hb, hpa, hsa, hre⟩ := h
  exact ⟨ht, hp, row_mono hr e, hb, past_mono hpa e (ps_rf now), sav_mono hsa e (ps_rf now), hre⟩
theorem inv_op (h : Inv T dv t tb w0 w1 w2 w3 w4 ba ca cal da ea rar ral rev rb fl xb xc xcl xd xe xr xrl yb yc ycl yd ye yr yrl o now pa sa iS bu rp) : ok_Db_remember dv w0 w3 w4 ba ca cal da ea rar ral xb xc xcl xd xe xr xrl ∧ ok_Mo_record (upd o 6 0) now pa ∧ ∃ (dv' : IV) (xb' : NI) (xc' : NI) (xcl' : NL) (xd' : NI) (xe' : NI) (xr' : NNI) (xrl' : NNL) (o' : IV) (pa' : LV), sp_Db_remember dv w0 w3 w4 ba ca cal da ea rar ral xb xc xcl xd xe xr xrl = (dv', xb', xc', xcl', xd', xe', xr', xrl') ∧ sp_Mo_record (upd o 6 0) now pa = (o', pa') ∧ o' 6 = 0 ∧ ∀ (U : Int) (ba' : IV) (ca' : IV) (cal' : LV) (da' : IV) (ea' : IV) (rar' : NI) (ral' : NL) (now' : LV), T ≤ U → PSame now now' → RowOK U now' → BR ba' ca' cal' da' ea' rar' ral' now' → Inv U dv' t tb w0 w1 w2 w3 w4 ba' ca' cal' da' ea' rar' ral' rev rb fl xb' xc' xcl' xd' xe' xr' xrl' yb yc ycl yd ye yr yrl o' now' pa' sa iS bu rp := by
  obtain ⟨ht, hp, hr, hb, hpa, hsa, hre⟩ := h
  have hpa6 := past_cells hpa (dv' := dv) (o' := upd o 6 0) rfl rfl (un (by decide))
  obtain ⟨r1, r2, ⟨dv', xb', xc', xcl', xd', xe', xr', xrl', r3, r4⟩, r5⟩ := remember_R hp hr hb hpa6
  refine ⟨r1, r2, dv', xb', xc', xcl', xd', xe', xr', xrl', (sp_Mo_record (upd o 6 0) now pa).1, (sp_Mo_record (upd o 6 0) now pa).2, r3, rfl, by rw [r5 6 (by decide), us], fun U ba' ca' cal' da' ea' rar' ral' now' hU hs hr' hb' => ?_⟩
  obtain ⟨B, n, hB, h613⟩ := ht
  exact ⟨⟨B, n, buf_o hB (by rw [r5 8 (by decide), un (by decide)]), by rw [r5 13 (by decide), un (by decide)]; exact h613⟩, ps_PR hs hp, hr', hb', past_mono r4 hU hs, sav_mono hsa hU hs, rep_o hre (by rw [r5 28 (by decide), un (by decide)])⟩
/-- setArms -/
theorem setArms_D (h : Inv T dv t tb w0 w1 w2 w3 w4 ba ca cal da ea rar ral rev rb fl xb xc xcl xd xe xr xrl yb yc ycl yd ye yr yrl o now pa sa iS bu rp) : ok_Mo_setArms p q o now pa ∧ (
    (∃ (v : Int32) (dv' ca' : IV) (xb' : NI) (xc' : NI) (xcl' : NL) (xd' : NI) (xe' : NI) (xr' : NNI) (xrl' : NNL) (o' : IV) (now' pa' : LV), ok_Db_setArms p q dv w0 w3 w4 ba ca cal da ea rar ral xb xc xcl xd xe xr xrl ∧ sp_Db_setArms p q dv w0 w2 w3 w4 ba ca cal da ea rar ral xb xc xcl xd xe xr xrl = (v, dv', ca', xb', xc', xcl', xd', xe', xr', xrl') ∧ sp_Mo_setArms p q o now pa = (v, o', now', pa') ∧ o' 6 = 0 ∧ Inv T dv' t tb w0 w1 w2 w3 w4 ba ca' cal da ea rar ral rev rb fl xb' xc' xcl' xd' xe' xr' xrl' yb yc ycl yd ye yr yrl o' now' pa' sa iS bu rp) ∨
    (¬ ok_Db_checkIndex p 5 ∧ sp_Mo_setArms p q o now pa = (0, upd o 6 1, now, pa)) ∨
    (ok_Db_checkIndex p 5 ∧ ¬ ok_Db_checkIndex q 5 ∧ sp_Mo_setArms p q o now pa = (0, upd o 6 1, now, pa))) := by
  obtain ⟨hK, oK⟩ := m_isK (p := p)
  obtain ⟨hQ, oQ⟩ := m_isK (p := q)
  obtain ⟨i1, i2, dv', xb', xc', xcl', xd', xe', xr', xrl', o', pa', i3, i4, i5, i6⟩ := inv_op h
  obtain ⟨ht, hp, hr, hb, hpa, hsa, hre⟩ := h
  unfold ok_Mo_setArms ok_Mo_setArms_21 ok_Mo_setArms_22 sp_Mo_setArms sp_Mo_setArms_21 sp_Mo_setArms_22
  simp only [lettn, o6a]
  rcases hK with ⟨⟨a, rfl, ha⟩, hz⟩ | ⟨hz, hz2⟩
  · have cI : ok_Db_checkIndex (nI a) 5 := chkI.mpr ⟨by rw [nIz (by omega)]; omega, by rw [lI5, nIz (by omega)]; omega⟩
    rcases hQ with ⟨⟨b, rfl, hb5⟩, hq⟩ | ⟨hq, hq2⟩
    · have cJ : ok_Db_checkIndex (nI b) 5 := chkI.mpr ⟨by rw [nIz (by omega)]; omega, by rw [lI5, nIz (by omega)]; omega⟩
      obtain ⟨c1, c2, c3, c4, c5, c6⟩ := op_arms hp hr hb ha hb5
      have la : (nI a).toInt64 = lN a := w_lit a (by omega)
      have lb : (nI b).toInt64 = lN b := w_lit b (by omega)
      rw [if_neg hz, if_neg hq, if_pos (show (0 : Int32) ≤ 0 by decide), la, lb, i4]
      rw [la] at oK
      rw [lb] at oQ
      rw [la] at hz
      rw [lb] at hq
      refine ⟨⟨oK, fun w => absurd w hz, fun _ => ⟨oQ, fun w => absurd w hq, fun _ => ⟨fun _ => ⟨i2, c4, trivial⟩, fun w => absurd (by decide) w⟩⟩⟩, Or.inl ⟨(sp_Mo_armsNow (lN a) (lN b) now).1, dv', sp_Ci_choose (nI a) (nI b) ca w2, xb', xc', xcl', xd', xe', xr', xrl', o', (sp_Mo_armsNow (lN a) (lN b) now).2, pa', ?_, ?_, rfl, i5, i6 T ba _ cal da ea rar ral _ (Int.le_refl _) (fre_ps c3) c2 c1⟩⟩
      · unfold ok_Db_setArms
        simp only [lettn]
        exact ⟨cI, cJ, i1, trivial⟩
      · unfold sp_Db_setArms
        simp only [lettn]
        rw [i3, c5]
    · rw [if_neg hz, if_pos hq2, if_neg (show ¬ (1 : Int32) ≤ 0 by decide)]
      exact ⟨⟨oK, fun w => absurd w hz, fun _ => ⟨oQ, fun _ => ⟨fun w => absurd w (by decide), fun _ => trivial⟩, fun w => absurd hq2 w⟩⟩, Or.inr (Or.inr ⟨cI, fun w => hq (by have := chkI.mp w; rw [lI5] at this; exact this), rfl⟩)⟩
  · rw [if_pos hz2, if_neg (show ¬ (1 : Int32) ≤ 0 by decide)]
    exact ⟨⟨oK, fun _ => ⟨fun w => absurd w (by decide), fun _ => trivial⟩, fun w => absurd hz2 w⟩, Or.inr (Or.inl ⟨fun w => hz (by have := chkI.mp w; rw [lI5] at this; exact this), rfl⟩)⟩
/-- setVolts -/
theorem setVolts_D (h : Inv T dv t tb w0 w1 w2 w3 w4 ba ca cal da ea rar ral rev rb fl xb xc xcl xd xe xr xrl yb yc ycl yd ye yr yrl o now pa sa iS bu rp) : ok_Mo_setVolts p o now pa ∧ (
    (∃ (v : Int32) (dv' ca' : IV) (xb' : NI) (xc' : NI) (xcl' : NL) (xd' : NI) (xe' : NI) (xr' : NNI) (xrl' : NNL) (o' : IV) (now' pa' : LV), ok_Db_setVolts p dv w0 w3 w4 ba ca cal da ea rar ral xb xc xcl xd xe xr xrl ∧ sp_Db_setVolts p dv w0 w3 w4 ba ca cal da ea rar ral xb xc xcl xd xe xr xrl = (v, dv', ca', xb', xc', xcl', xd', xe', xr', xrl') ∧ sp_Mo_setVolts p o now pa = (v, o', now', pa') ∧ o' 6 = 0 ∧ Inv T dv' t tb w0 w1 w2 w3 w4 ba ca' cal da ea rar ral rev rb fl xb' xc' xcl' xd' xe' xr' xrl' yb yc ycl yd ye yr yrl o' now' pa' sa iS bu rp) ∨
    (¬ ok_Db_checkRange p 0 20000 ∧ sp_Mo_setVolts p o now pa = (0, upd o 6 1, now, pa))) := by
  obtain ⟨i1, i2, dv', xb', xc', xcl', xd', xe', xr', xrl', o', pa', i3, i4, i5, i6⟩ := inv_op h
  obtain ⟨ht, hp, hr, hb, hpa, hsa, hre⟩ := h
  unfold ok_Mo_setVolts ok_Mo_setVolts_18 sp_Mo_setVolts sp_Mo_setVolts_18
  simp only [lettn, o6a]
  rcases in32 (p := p) 0 20000 (a := 0) (b := 20000) rfl rfl with ⟨a, b, c⟩ | ⟨a, b⟩
  · have cR : ok_Db_checkRange p 0 20000 := chkR.mpr ⟨a, b⟩
    obtain ⟨c1, c2, c3, c4, c5, c6⟩ := op_volts hr hb (v := p) ⟨a, b⟩
    rw [if_neg c, if_pos (show (0 : Int32) ≤ 0 by decide), i4]
    refine ⟨⟨fun w => absurd w c, fun _ => ⟨fun _ => ⟨i2, c4, trivial⟩, fun w => absurd (by decide) w⟩⟩, Or.inl ⟨(sp_Mo_change 22 p.toInt64 now).1, dv', upd ca 3 p, xb', xc', xcl', xd', xe', xr', xrl', o', (sp_Mo_change 22 p.toInt64 now).2, pa', ?_, ?_, rfl, i5, i6 T ba _ cal da ea rar ral _ (Int.le_refl _) c3 c2 c1⟩⟩
    · unfold ok_Db_setVolts
      simp only [lettn]
      exact ⟨cR, i1, trivial⟩
    · unfold sp_Db_setVolts
      simp only [lettn]
      rw [i3, c5]
  · rw [if_pos b, if_neg (show ¬ (1 : Int32) ≤ 0 by decide)]
    exact ⟨⟨fun _ => ⟨fun w => absurd w (by decide), fun _ => trivial⟩, fun w => absurd b w⟩, Or.inr ⟨fun w => a (chkR.mp w), rfl⟩⟩
/-- connect -/
theorem connect_D (h : Inv T dv t tb w0 w1 w2 w3 w4 ba ca cal da ea rar ral rev rb fl xb xc xcl xd xe xr xrl yb yc ycl yd ye yr yrl o now pa sa iS bu rp) : ok_Mo_connect p o now pa ∧ (
    (∃ (v : Int32) (dv' ca' : IV) (xb' : NI) (xc' : NI) (xcl' : NL) (xd' : NI) (xe' : NI) (xr' : NNI) (xrl' : NNL) (o' : IV) (now' pa' : LV), ok_Db_connect p dv w0 w3 w4 ba ca cal da ea rar ral xb xc xcl xd xe xr xrl ∧ sp_Db_connect p dv w0 w3 w4 ba ca cal da ea rar ral xb xc xcl xd xe xr xrl = (v, dv', ca', xb', xc', xcl', xd', xe', xr', xrl') ∧ sp_Mo_connect p o now pa = (v, o', now', pa') ∧ o' 6 = 0 ∧ Inv T dv' t tb w0 w1 w2 w3 w4 ba ca' cal da ea rar ral rev rb fl xb' xc' xcl' xd' xe' xr' xrl' yb yc ycl yd ye yr yrl o' now' pa' sa iS bu rp) ∨
    (¬ ok_Db_checkRange p 2 3 ∧ sp_Mo_connect p o now pa = (0, upd o 6 1, now, pa))) := by
  obtain ⟨i1, i2, dv', xb', xc', xcl', xd', xe', xr', xrl', o', pa', i3, i4, i5, i6⟩ := inv_op h
  obtain ⟨ht, hp, hr, hb, hpa, hsa, hre⟩ := h
  unfold ok_Mo_connect ok_Mo_connect_20 sp_Mo_connect sp_Mo_connect_20
  simp only [lettn, o6a]
  rcases in32 (p := p) 2 3 (a := 2) (b := 3) rfl rfl with ⟨a, b, c⟩ | ⟨a, b⟩
  · have cR : ok_Db_checkRange p 2 3 := chkR.mpr ⟨a, b⟩
    obtain ⟨c1, c2, c3, c4, c5, c6⟩ := op_wire hp hr hb (l := p) (by omega)
    rw [if_neg c, if_pos (show (0 : Int32) ≤ 0 by decide), i4]
    refine ⟨⟨fun w => absurd w c, fun _ => ⟨fun _ => ⟨i2, c4, trivial⟩, fun w => absurd (by decide) w⟩⟩, Or.inl ⟨(sp_Mo_change 32 p.toInt64 now).1, dv', sp_Ci_wire p ca w0 w3 w4, xb', xc', xcl', xd', xe', xr', xrl', o', (sp_Mo_change 32 p.toInt64 now).2, pa', ?_, ?_, rfl, i5, i6 T ba _ cal da ea rar ral _ (Int.le_refl _) (fre_ps c3) c2 c1⟩⟩
    · unfold ok_Db_connect
      simp only [lettn]
      exact ⟨cR, i1, trivial⟩
    · unfold sp_Db_connect
      simp only [lettn]
      rw [i3, c5]
  · rw [if_pos b, if_neg (show ¬ (1 : Int32) ≤ 0 by decide)]
    exact ⟨⟨fun _ => ⟨fun w => absurd w (by decide), fun _ => trivial⟩, fun w => absurd b w⟩, Or.inr ⟨fun w => a (chkR.mp w), rfl⟩⟩
/-- setTo -/
theorem setTo_D (h : Inv T dv t tb w0 w1 w2 w3 w4 ba ca cal da ea rar ral rev rb fl xb xc xcl xd xe xr xrl yb yc ycl yd ye yr yrl o now pa sa iS bu rp) : ok_Mo_setTo p o now pa ∧ (
    (∃ (v : Int32) (dv' ca' : IV) (xb' : NI) (xc' : NI) (xcl' : NL) (xd' : NI) (xe' : NI) (xr' : NNI) (xrl' : NNL) (o' : IV) (now' pa' : LV), ok_Db_setTo p dv w0 w1 w3 w4 ba ca cal da ea rar ral xb xc xcl xd xe xr xrl ∧ sp_Db_setTo p dv w0 w1 w3 w4 ba ca cal da ea rar ral xb xc xcl xd xe xr xrl = (v, dv', ca', xb', xc', xcl', xd', xe', xr', xrl') ∧ sp_Mo_setTo p o now pa = (v, o', now', pa') ∧ o' 6 = 0 ∧ Inv T dv' t tb w0 w1 w2 w3 w4 ba ca' cal da ea rar ral rev rb fl xb' xc' xcl' xd' xe' xr' xrl' yb yc ycl yd ye yr yrl o' now' pa' sa iS bu rp) ∨
    (¬ 0 ≤ p ∧ sp_Mo_setTo p o now pa = (0, upd o 6 1, now, pa))) := by
  obtain ⟨i1, i2, dv', xb', xc', xcl', xd', xe', xr', xrl', o', pa', i3, i4, i5, i6⟩ := inv_op h
  have h0 := inv_6 h 0
  obtain ⟨ht, hp, hr, hb, hpa, hsa, hre⟩ := h
  obtain ⟨s1, s2⟩ := c_settings hp hr
  have hD := zD_bd hr
  have hk := p10 (zD now) (by omega)
  have z0 : p < 0 ↔ p.toInt < 0 := Int32.lt_iff_toInt_lt
  have z1 : (0 : Int32) ≤ p ↔ 0 ≤ p.toInt := Int32.le_iff_toInt_le
  have zs : p < nI (10 ^ zD now) ↔ p.toInt < (10 ^ zD now : Nat) := by rw [Int32.lt_iff_toInt_lt, nIz (by omega)]
  unfold ok_Mo_setTo ok_Mo_setTo_10 sp_Mo_setTo sp_Mo_setTo_10
  simp only [lettn, o6a]
  by_cases c : p < 0
  · rw [if_pos c, if_neg (show ¬ (1 : Int32) ≤ 0 by decide)]
    exact ⟨⟨fun _ => ⟨fun w => absurd w (by decide), fun _ => trivial⟩, fun w => absurd c w⟩, Or.inr ⟨fun w => by have := z0.mp c; have := z1.mp w; omega, rfl⟩⟩
  · have hs : 0 ≤ p.toInt := by have := mt z0.mpr c; omega
    have c0 : (0 : Int32) ≤ p := z1.mpr hs
    obtain ⟨o1, o2, o3, o4⟩ := op_set hp hr hb hs
    rw [if_neg c, if_pos (show (0 : Int32) ≤ 0 by decide)]
    by_cases c2 : p.toInt < (10 ^ zD now : Nat)
    · obtain ⟨n1, b1, b2, b3, b4, b5, b6⟩ := o3 c2
      rw [if_neg n1, i4]
      refine ⟨⟨fun w => absurd w c, fun _ => ⟨fun _ => ⟨o2, fun w => absurd w n1, fun _ => ⟨i2, o1, trivial⟩⟩, fun w => absurd (by decide) w⟩⟩, Or.inl ⟨(sp_Mo_setNow p now).1, dv', sp_Ci_dial p ca w0 w1 w3 w4, xb', xc', xcl', xd', xe', xr', xrl', o', (sp_Mo_setNow p now).2, pa', ?_, ?_, rfl, i5, i6 T ba _ cal da ea rar ral _ (Int.le_refl _) (fre_ps b4) b3 b1⟩⟩
      · unfold ok_Db_setTo
        simp only [lettn]
        rw [s1]
        exact ⟨fun _ => ⟨s2, fun _ => ⟨i1, b2, trivial⟩, fun w => absurd (zs.mpr c2) w⟩, fun w => absurd c0 w⟩
      · unfold sp_Db_setTo
        simp only [lettn]
        rw [if_pos c0, s1, if_pos (zs.mpr c2), i3, b5]
    · obtain ⟨n1, n2⟩ := o4 c2
      rw [if_pos n1]
      refine ⟨⟨fun w => absurd w c, fun _ => ⟨fun _ => ⟨o2, fun _ => trivial, fun w => absurd n1 w⟩, fun w => absurd (by decide) w⟩⟩, Or.inl ⟨-2, dv, ca, xb, xc, xcl, xd, xe, xr, xrl, upd o 6 0, now, pa, ?_, ?_, rfl, us, h0⟩⟩
      · unfold ok_Db_setTo
        simp only [lettn]
        rw [s1]
        exact ⟨fun _ => ⟨s2, fun w => absurd (zs.mp w) c2, fun _ => trivial⟩, fun w => absurd c0 w⟩
      · unfold sp_Db_setTo
        simp only [lettn]
        rw [if_pos c0, s1, if_neg (fun w => c2 (zs.mp w))]
/-- setDigit -/
theorem setDigit_D (h : Inv T dv t tb w0 w1 w2 w3 w4 ba ca cal da ea rar ral rev rb fl xb xc xcl xd xe xr xrl yb yc ycl yd ye yr yrl o now pa sa iS bu rp) : ok_Mo_setDigit p q o now pa ∧ (
    (∃ (v : Int32) (dv' ca' : IV) (xb' : NI) (xc' : NI) (xcl' : NL) (xd' : NI) (xe' : NI) (xr' : NNI) (xrl' : NNL) (o' : IV) (now' pa' : LV), ok_Db_setDigit p q dv w0 w1 w3 w4 ba ca cal da ea rar ral xb xc xcl xd xe xr xrl ∧ sp_Db_setDigit p q dv w0 w1 w3 w4 ba ca cal da ea rar ral xb xc xcl xd xe xr xrl = (v, dv', ca', xb', xc', xcl', xd', xe', xr', xrl') ∧ sp_Mo_setDigit p q o now pa = (v, o', now', pa') ∧ o' 6 = 0 ∧ Inv T dv' t tb w0 w1 w2 w3 w4 ba ca' cal da ea rar ral rev rb fl xb' xc' xcl' xd' xe' xr' xrl' yb yc ycl yd ye yr yrl o' now' pa' sa iS bu rp) ∨
    (¬ ok_Db_checkIndex p (w0 0) ∧ sp_Mo_setDigit p q o now pa = (0, upd o 6 1, now, pa)) ∨
    (ok_Db_checkIndex p (w0 0) ∧ ¬ ok_Db_checkRange q 0 9 ∧ sp_Mo_setDigit p q o now pa = (0, upd o 6 2, now, pa))) := by
  obtain ⟨i1, i2, dv', xb', xc', xcl', xd', xe', xr', xrl', o', pa', i3, i4, i5, i6⟩ := inv_op h
  obtain ⟨ht, hp, hr, hb, hpa, hsa, hre⟩ := h
  have hD := zD_bd hr
  have eD : (w0 0).toInt = (zD now : Int) := by rw [c_dec hp hr, nIz (by omega)]
  unfold sp_Mo_setDigit ok_Mo_setDigit sp_Mo_setDigit_38 ok_Mo_setDigit_38
  simp only [lettn, o6a]
  rcases m_isD (p := p) hr with ⟨⟨d, rfl, hd⟩, hz⟩ | ⟨hz, hz2⟩
  · have cI : ok_Db_checkIndex (nI d) (w0 0) := chkI.mpr ⟨by rw [nIz (by omega)]; omega, by rw [eD, nIz (by omega)]; omega⟩
    rcases in32 (p := q) 0 9 (a := 0) (b := 9) rfl rfl with ⟨a, b, c⟩ | ⟨a, b⟩
    · have cR : ok_Db_checkRange q 0 9 := chkR.mpr ⟨a, b⟩
      have a33 : (33 : Int32) + nI d = nI (33 + d) := nzadd 33 d (by omega)
      obtain ⟨g1, g2⟩ := c_digit hp hr hb.1.1.1.1 hd
      obtain ⟨wt, wo⟩ := c_weight hp hr hd
      have bd := (row_dig hr (d := d) (by omega)).2
      have hpw := p10 (zD now - 1 - d) (by omega)
      have q64 : q.toInt64.toInt = q.toInt := Kit.i64_of_i32 q
      have rl : rLo (33 + d) = 0 ∧ rHi T (33 + d) = 9 := ⟨(rLo_err d (by omega)).2, (rHi_err T d (by omega)).2⟩
      have hr' : RowOK T (vp_updL now (33 + d) q.toInt64) := row_upd hr (33 + d) q.toInt64 (fun _ => by rw [rl.1, rl.2, q64]; exact ⟨a, b⟩) (by omega)
      have zi := zset_inc (r := now) (d := d) (x := q.toInt64) (zD now) hd
      rw [q64] at zi
      have hk : ∀ k, (k < 33 ∨ 37 ≤ k) → vp_updL now (33 + d) q.toInt64 k = now k := fun k hk => uLn (by omega)
      have eDD : zD (vp_updL now (33 + d) q.toInt64) = zD now := by unfold zD zr; rw [hk 0 (by omega)]
      have bz := zset_all hr'
      rw [eDD] at bz
      have b0 := zset_all hr
      have S0 : E32 (ca 5) (zset now (zD now)) 0 9999 := ⟨hb.1.1.1.1, b0.1, b0.2.1⟩
      have D0 : E32 (sp_Pa_digitOf (ca 5) (nI d) w0) (zr now (33 + d)) 0 9 := ⟨g1, bd⟩
      have k1 := e32_sub (show E32 q q.toInt 0 9 from ⟨rfl, a, b⟩) D0 (by decide) (by decide)
      have k2 := e32_mul (-90000) 90000 k1 (pow_nI (zD now - 1 - d) (by omega)) (by decide) (by decide) (by decide)
      have k3 := e32_add S0 k2 (by decide) (by decide)
      have S1 : E32 (ca 5 + (q - sp_Pa_digitOf (ca 5) (nI d) w0) * nI (10 ^ (zD now - 1 - d))) (zset (vp_updL now (33 + d) q.toInt64) (zD now)) 0 9999 := ⟨by rw [k3.1, zi], bz.1, bz.2.1⟩
      obtain ⟨d1, d2⟩ := bc_dial hp hr hb.1 hk S1
      obtain ⟨s1, s2⟩ := m_setting hr'
      have ev : sp_Mo_setting (vp_updL now (33 + d) q.toInt64) = sp_Ci_dial (ca 5 + (q - sp_Pa_digitOf (ca 5) (nI d) w0) * nI (10 ^ (zD now - 1 - d))) ca w0 w1 w3 w4 5 := Int32.toInt_inj.mp (s1.1.trans d1.1.1.1.symm)
      rw [if_neg hz, if_neg c, if_pos (show (0 : Int32) ≤ 0 by decide), a33, cl_nI (by omega), i4]
      refine ⟨⟨fun w => absurd w hz, fun _ => ⟨fun w => absurd w c, fun _ => ⟨fun _ => ⟨i2, vp_nI (by omega) (by decide), s2, trivial⟩, fun w => absurd (by decide) w⟩⟩⟩, Or.inl ⟨sp_Mo_setting (vp_updL now (33 + d) q.toInt64), dv', sp_Ci_dial (ca 5 + (q - sp_Pa_digitOf (ca 5) (nI d) w0) * nI (10 ^ (zD now - 1 - d))) ca w0 w1 w3 w4, xb', xc', xcl', xd', xe', xr', xrl', o', vp_updL now (33 + d) q.toInt64, pa', ?_, ?_, rfl, i5, i6 T ba _ cal da ea rar ral _ (Int.le_refl _) (ps_upd _ _ (by omega)) hr' ⟨d1, rr_54 hb.2 _ _ (by omega)⟩⟩⟩
      · unfold ok_Db_setDigit
        simp only [lettn]
        rw [wt]
        exact ⟨cI, cR, i1, g2, wo, d2, trivial⟩
      · unfold sp_Db_setDigit
        simp only [lettn]
        rw [wt, i3, ev]
    · rw [if_neg hz, if_pos b, if_neg (show ¬ (2 : Int32) ≤ 0 by decide)]
      exact ⟨⟨fun w => absurd w hz, fun _ => ⟨fun _ => ⟨fun w => absurd w (by decide), fun _ => trivial⟩, fun w => absurd b w⟩⟩, Or.inr (Or.inr ⟨cI, fun w => a (chkR.mp w), rfl⟩)⟩
  · rw [if_pos hz2, if_neg (show ¬ (1 : Int32) ≤ 0 by decide)]
    exact ⟨⟨fun _ => ⟨fun w => absurd w (by decide), fun _ => trivial⟩, fun w => absurd hz2 w⟩, Or.inr (Or.inl ⟨fun w => hz (by have := chkI.mp w; rw [eD] at this; exact this), rfl⟩)⟩
/-- turn -/
theorem turn_D (h : Inv T dv t tb w0 w1 w2 w3 w4 ba ca cal da ea rar ral rev rb fl xb xc xcl xd xe xr xrl yb yc ycl yd ye yr yrl o now pa sa iS bu rp) : ok_Mo_turn o now pa ∧ ok_Db_turn dv w0 w3 w4 ba ca cal da ea rar ral xb xc xcl xd xe xr xrl ∧ ∃ (v : Int32) (dv' ca' : IV) (xb' : NI) (xc' : NI) (xcl' : NL) (xd' : NI) (xe' : NI) (xr' : NNI) (xrl' : NNL) (o' : IV) (now' pa' : LV), sp_Db_turn dv w0 w3 w4 ba ca cal da ea rar ral xb xc xcl xd xe xr xrl = (v, dv', ca', xb', xc', xcl', xd', xe', xr', xrl') ∧ sp_Mo_turn o now pa = (v, o', now', pa') ∧ Inv T dv' t tb w0 w1 w2 w3 w4 ba ca' cal da ea rar ral rev rb fl xb' xc' xcl' xd' xe' xr' xrl' yb yc ycl yd ye yr yrl o' now' pa' sa iS bu rp := by
  obtain ⟨i1, i2, dv', xb', xc', xcl', xd', xe', xr', xrl', o', pa', i3, i4, i5, i6⟩ := inv_op h
  obtain ⟨ht, hp, hr, hb, hpa, hsa, hre⟩ := h
  obtain ⟨c1, c2, c3, c4⟩ := op_turn hr hb
  unfold ok_Mo_turn ok_Db_turn ok_Db_turn_29 sp_Db_turn sp_Db_turn_29 sp_Mo_turn
  simp only [lettn]
  rw [i3, i4]
  dsimp only
  refine ⟨⟨i2, trivial⟩, ⟨i1, fun _ => ⟨isB1, trivial⟩, fun _ => ⟨isB0, trivial⟩⟩, (sp_Mo_turnNow now).1, dv', upd ca 6 (if ca 6 = 0 then 1 else 0), xb', xc', xcl', xd', xe', xr', xrl', o', (sp_Mo_turnNow now).2, pa', ?_, rfl, i6 T ba _ cal da ea rar ral _ (Int.le_refl _) (fre_ps c3) c2 c1⟩
  rw [c4]
  by_cases c : ca 6 = 0
  · rw [if_pos c, if_pos c, if_neg (by rw [us]; decide)]
  · rw [if_neg c, if_neg c, if_pos us]
/-- rest -/
theorem rest_D (h : Inv T dv t tb w0 w1 w2 w3 w4 ba ca cal da ea rar ral rev rb fl xb xc xcl xd xe xr xrl yb yc ycl yd ye yr yrl o now pa sa iS bu rp) (hT : T ≤ 900000000) : ok_Mo_rest p o now pa ∧ (
    (∃ (v : Int32) (dv' ca' : IV) (cal' : LV) (xb' : NI) (xc' : NI) (xcl' : NL) (xd' : NI) (xe' : NI) (xr' : NNI) (xrl' : NNL) (o' : IV) (now' pa' : LV), ok_Db_rest p dv w0 w3 w4 ba ca cal da ea rar ral xb xc xcl xd xe xr xrl ∧ sp_Db_rest p dv w0 w3 w4 ba ca cal da ea rar ral xb xc xcl xd xe xr xrl = (v, dv', ca', cal', xb', xc', xcl', xd', xe', xr', xrl') ∧ sp_Mo_rest p o now pa = (v, o', now', pa') ∧ o' 6 = 0 ∧ Inv (T + 99) dv' t tb w0 w1 w2 w3 w4 ba ca' cal' da ea rar ral rev rb fl xb' xc' xcl' xd' xe' xr' xrl' yb yc ycl yd ye yr yrl o' now' pa' sa iS bu rp) ∨
    (¬ ok_Db_checkRange p 1 99 ∧ sp_Mo_rest p o now pa = (0, upd o 6 1, now, pa))) := by
  obtain ⟨i1, i2, dv', xb', xc', xcl', xd', xe', xr', xrl', o', pa', i3, i4, i5, i6⟩ := inv_op h
  obtain ⟨ht, hp, hr, hb, hpa, hsa, hre⟩ := h
  unfold ok_Mo_rest ok_Mo_rest_18 sp_Mo_rest sp_Mo_rest_18
  simp only [lettn, o6a]
  rcases in32 (p := p) 1 99 (a := 1) (b := 99) rfl rfl with ⟨a, b, c⟩ | ⟨a, b⟩
  · have cR : ok_Db_checkRange p 1 99 := chkR.mpr ⟨a, b⟩
    obtain ⟨N, rfl, hN⟩ := pex (p := p) (by omega) (m := 100) (by omega)
    obtain ⟨c1, c2, c3, c4, c5, c6⟩ := rest_BC (N := N) (by omega) N big big 0 T now ba ca cal da (Nat.zero_add N) (by rw [big_eq]; omega) (by rw [big_eq]; omega) hp hr (by omega) hb.1
    have c1' : ok_Be_passTime (nI N) ca cal w0 w3 w4 := c1
    have c2' : ok_Mo_restNow (nI N) now := c2
    have e1 : sp_Mo_restNow (nI N) now = sp_Mo_restNow_2 (nI N) big (nI 0) now := rfl
    have e2 : sp_Be_passTime (nI N) ca cal w0 w3 w4 = sp_Be_passTime_2 (nI N) w0 w3 w4 big (nI 0) ca cal := rfl
    rw [← e1] at c3 c4 c5 c6
    rw [← e2] at c3
    have e39 : (sp_Be_passTime (nI N) ca cal w0 w3 w4).1 10 = (sp_Mo_restNow (nI N) now).1 := by rw [c6]; exact (row39 c4 (by omega) c3.1.2.2.2.1).symm
    rw [if_neg c, if_pos (show (0 : Int32) ≤ 0 by decide), i4]
    refine ⟨⟨fun w => absurd w c, fun _ => ⟨fun _ => ⟨i2, c2', trivial⟩, fun w => absurd (by decide) w⟩⟩, Or.inl ⟨(sp_Mo_restNow (nI N) now).1, dv', (sp_Be_passTime (nI N) ca cal w0 w3 w4).1, (sp_Be_passTime (nI N) ca cal w0 w3 w4).2, xb', xc', xcl', xd', xe', xr', xrl', o', (sp_Mo_restNow (nI N) now).2, pa', ?_, ?_, rfl, i5, i6 (T + 99) ba _ _ da ea rar ral _ (by omega) (fr_ps c5) (row_mono c4 (by omega)) ⟨c3, rr_same hb.2 (fun k hk => c5 k (by omega))⟩⟩⟩
    · unfold ok_Db_rest
      simp only [lettn]
      exact ⟨cR, i1, c1', trivial⟩
    · unfold sp_Db_rest
      simp only [lettn]
      rw [i3, e39]
  · rw [if_pos b, if_neg (show ¬ (1 : Int32) ≤ 0 by decide)]
    exact ⟨⟨fun _ => ⟨fun w => absurd w (by decide), fun _ => trivial⟩, fun w => absurd b w⟩, Or.inr ⟨fun w => a (chkR.mp w), rfl⟩⟩
/-- read -/
theorem read_D (h : Inv T dv t tb w0 w1 w2 w3 w4 ba ca cal da ea rar ral rev rb fl xb xc xcl xd xe xr xrl yb yc ycl yd ye yr yrl o now pa sa iS bu rp) (hT : T ≤ 900000000) : ok_Mo_read o now pa ∧ ok_Db_read dv w0 w3 w4 ba ca cal da ea rar ral xb xc xcl xd xe xr xrl ∧ ∃ (v : Int32) (dv' ba' ca' : IV) (cal' : LV) (da' : IV) (xb' : NI) (xc' : NI) (xcl' : NL) (xd' : NI) (xe' : NI) (xr' : NNI) (xrl' : NNL) (o' : IV) (now' pa' : LV), sp_Db_read dv w0 w3 w4 ba ca cal da ea rar ral xb xc xcl xd xe xr xrl = (v, dv', ba', ca', cal', da', xb', xc', xcl', xd', xe', xr', xrl') ∧ sp_Mo_read o now pa = (v, o', now', pa') ∧ Inv (T + 2) dv' t tb w0 w1 w2 w3 w4 ba' ca' cal' da' ea rar ral rev rb fl xb' xc' xcl' xd' xe' xr' xrl' yb yc ycl yd ye yr yrl o' now' pa' sa iS bu rp := by
  obtain ⟨i1, i2, dv', xb', xc', xcl', xd', xe', xr', xrl', o', pa', i3, i4, i5, i6⟩ := inv_op h
  have h0 := inv_T (inv_6 h 0) (show T ≤ T + 2 by omega)
  obtain ⟨ht, hp, hr, hb, hpa, hsa, hre⟩ := h
  obtain ⟨m1, m2⟩ := m_whyNot hr
  have k := c_why hp hr hb.1.1.1
  have zb := zwhy_bd now (zS now) (zr now 32)
  unfold ok_Mo_read ok_Db_read sp_Mo_read sp_Db_read
  simp only [lettn]
  by_cases c : zwhy now (zS now) (zr now 32) = 0
  · rw [if_pos c] at m1
    have y0 : (0 : Int32) ≤ sp_Mo_whyNotRead now := ge0 (by omega)
    have y1 : sp_Ci_whyBlocked ca w0 = 0 := (z32 k 0 0 rfl).mpr c
    obtain ⟨r1, r2, r3, r4, r5, r6, r7, r8, r9⟩ := read_BC hp hr hT hb.1
    have ev : (sp_Be_makeReading ba ca cal da w0 w3 w4).2.1 3 = ((sp_Mo_makeReading now).2 43).toInt32 := (nrw r5.2.1).symm
    rw [if_pos y0, if_pos y1, i3, i4]
    dsimp only
    refine ⟨⟨m2, fun _ => ⟨i2, r2, trivial⟩, fun w => absurd y0 w⟩, ⟨fun _ => ⟨i1, r1, trivial⟩, fun w => absurd y1 w⟩, ((sp_Mo_makeReading now).2 43).toInt32, dv', (sp_Be_makeReading ba ca cal da w0 w3 w4).2.1, (sp_Be_makeReading ba ca cal da w0 w3 w4).2.2.1, (sp_Be_makeReading ba ca cal da w0 w3 w4).2.2.2.1, (sp_Be_makeReading ba ca cal da w0 w3 w4).2.2.2.2, xb', xc', xcl', xd', xe', xr', xrl', o', (sp_Mo_makeReading now).2, pa', by rw [ev], rfl, i6 (T + 2) _ _ _ _ ea rar ral _ (by omega) (fr_ps r7) r6 ⟨r5, rr_same hb.2 (fun k hk => r7 k (by omega))⟩⟩
  · rw [if_neg c] at m1
    have y0 : ¬ (0 : Int32) ≤ sp_Mo_whyNotRead now := fun w => by rw [Int32.le_iff_toInt_le] at w; have z : (0 : Int32).toInt = 0 := rfl; omega
    have y1 : ¬ sp_Ci_whyBlocked ca w0 = 0 := fun w => c ((z32 k 0 0 rfl).mp w)
    have ev : (-1 : Int32) - sp_Ci_whyBlocked ca w0 = sp_Mo_whyNotRead now := Int32.toInt_inj.mp (by
      have z : (-1 : Int32).toInt = -1 := rfl
      rw [Kit.i32_sub (by rw [z, k]; omega) (by rw [z, k]; omega), z, k, m1])
    rw [if_neg y0, if_neg y1]
    exact ⟨⟨m2, fun w => absurd w y0, fun _ => trivial⟩, ⟨fun w => absurd w y1, fun _ => trivial⟩, sp_Mo_whyNotRead now, dv, ba, ca, cal, da, xb, xc, xcl, xd, xe, xr, xrl, upd o 6 0, now, pa, by rw [ev], rfl, h0⟩
/-- balance -/
theorem balance_D (h : Inv T dv t tb w0 w1 w2 w3 w4 ba ca cal da ea rar ral rev rb fl xb xc xcl xd xe xr xrl yb yc ycl yd ye yr yrl o now pa sa iS bu rp) (hT : T ≤ 500000000) : ok_Mo_balance p o now pa ∧ ok_Db_balance p dv w0 w1 w2 w3 w4 ba ca cal da ea rar ral xb xc xcl xd xe xr xrl ∧ ∃ (v : Int32) (dv' : IV) (ba' : IV) (ca' : IV) (cal' : LV) (da' : IV) (ea' : IV) (rar' : NI) (ral' : NL) (xb' : NI) (xc' : NI) (xcl' : NL) (xd' : NI) (xe' : NI) (xr' : NNI) (xrl' : NNL) (o' : IV) (now' pa' : LV), sp_Db_balance p dv w0 w1 w2 w3 w4 ba ca cal da ea rar ral xb xc xcl xd xe xr xrl = (v, dv', ba', ca', cal', da', ea', rar', ral', xb', xc', xcl', xd', xe', xr', xrl') ∧ sp_Mo_balance p o now pa = (v, o', now', pa') ∧ Inv (T + 144) dv' t tb w0 w1 w2 w3 w4 ba' ca' cal' da' ea' rar' ral' rev rb fl xb' xc' xcl' xd' xe' xr' xrl' yb yc ycl yd ye yr yrl o' now' pa' sa iS bu rp := by
  obtain ⟨i1, i2, dv', xb', xc', xcl', xd', xe', xr', xrl', o', pa', i3, i4, i5, i6⟩ := inv_op h
  have h0 := inv_T (inv_6 h 0) (show T ≤ T + 144 by omega)
  obtain ⟨ht, hp, hr, hb, hpa, hsa, hre⟩ := h
  have d3 := hb.1.1.1.2.2.2.2.2.2.2.2.1
  have z3 := z32 d3 0 0 rfl
  have z22 := z64 (show (now 22).toInt = zr now 22 from rfl) 0 0 rfl
  unfold ok_Mo_balance ok_Db_balance sp_Mo_balance sp_Db_balance
  simp only [lettn]
  by_cases c : zr now 22 = 0
  · rw [if_pos (z3.mpr c), if_pos (z22.mpr c)]
    exact ⟨⟨fun _ => trivial, fun w => absurd (z22.mpr c) w⟩, ⟨fun _ => trivial, fun w => absurd (z3.mpr c) w⟩, -2, dv, ba, ca, cal, da, ea, rar, ral, xb, xc, xcl, xd, xe, xr, xrl, upd o 6 0, now, pa, rfl, rfl, h0⟩
  · have c3 : ¬ ca 3 = 0 := fun w => c (z3.mp w)
    have c22 : ¬ now 22 = 0 := fun w => c (z22.mp w)
    obtain ⟨b1, b2, b3, b4, b5, b6, ba', ca', cal', da', ea', rar', ral', b7, b8⟩ := bal_BR hp hr hT hb c p
    have eB : sp_Be_seekBalance p ba ca cal da ea rar ral w0 w1 w2 w3 w4 = ((sp_Mo_balanceNow p now).1, ba', ca', cal', da', ea', rar', ral') := Prod.ext b6 b7
    rw [if_neg c3, if_neg c22, i3, i4, eB]
    dsimp only
    exact ⟨⟨fun w => absurd w c22, fun _ => ⟨i2, b2, trivial⟩⟩, ⟨fun w => absurd w c3, fun _ => ⟨i1, b1, trivial⟩⟩, (sp_Mo_balanceNow p now).1, dv', ba', ca', cal', da', ea', rar', ral', xb', xc', xcl', xd', xe', xr', xrl', o', (sp_Mo_balanceNow p now).2, pa', rfl, rfl, i6 (T + 144) _ _ _ _ _ _ _ _ (by omega) (fre_ps b4) b3 b8⟩
/-- undo -/
theorem undo_D (h : Inv T dv t tb w0 w1 w2 w3 w4 ba ca cal da ea rar ral rev rb fl xb xc xcl xd xe xr xrl yb yc ycl yd ye yr yrl o now pa sa iS bu rp) : ok_Mo_undo o now pa ∧ ok_Db_undo dv w0 w3 w4 ba ca cal da ea rar ral xb xc xcl xd xe xr xrl ∧ ∃ (v : Int32) (dv' : IV) (ba' : IV) (ca' : IV) (cal' : LV) (da' : IV) (ea' : IV) (rar' : NI) (ral' : NL) (o' : IV) (now' : LV), sp_Db_undo dv w0 w3 w4 ba ca cal da ea rar ral xb xc xcl xd xe xr xrl = (v, dv', ba', ca', cal', da', ea', rar', ral') ∧ sp_Mo_undo o now pa = (v, o', now') ∧ Inv T dv' t tb w0 w1 w2 w3 w4 ba' ca' cal' da' ea' rar' ral' rev rb fl xb xc xcl xd xe xr xrl yb yc ycl yd ye yr yrl o' now' pa sa iS bu rp := by
  obtain ⟨⟨B, n, hB, h613⟩, hp, hr, hb, hpa, hsa, hre⟩ := h
  obtain ⟨a1, a2, v, dv', ba', ca', cal', da', ea', rar', ral', o', now', a3, a4, a5, a6, a7, a8, a9⟩ := undo_R hp hr hb hpa
  exact ⟨a2, a1, v, dv', ba', ca', cal', da', ea', rar', ral', o', now', a3, a4, ⟨B, n, buf_o hB (a9 8 (by decide) (by decide)), by rw [a9 13 (by decide) (by decide)]; exact h613⟩, ps_PR a5 hp, a6, a7, a8, sav_mono hsa (Int.le_refl _) a5, rep_o hre (a9 28 (by decide) (by decide))⟩
/-- save -/
theorem save_D (h : Inv T dv t tb w0 w1 w2 w3 w4 ba ca cal da ea rar ral rev rb fl xb xc xcl xd xe xr xrl yb yc ycl yd ye yr yrl o now pa sa iS bu rp) (hT : T ≤ 1000000000) : ok_Mo_save p o now sa iS ∧ (
    (∃ (v : Int32) (fl' : IV) (yb' : NI) (yc' : NI) (ycl' : NL) (yd' : NI) (ye' : NI) (yr' : NNI) (yrl' : NNL) (sa' : LV) (iS' : IV), ok_Db_save p w0 w3 w4 ba ca cal da ea rar ral yb yc ycl yd ye yr yrl ∧ sp_Db_save p w0 w3 w4 ba ca cal da ea rar ral fl yb yc ycl yd ye yr yrl = (v, fl', yb', yc', ycl', yd', ye', yr', yrl') ∧ sp_Mo_save p o now sa iS = (v, upd o 6 0, sa', iS') ∧ Inv T dv t tb w0 w1 w2 w3 w4 ba ca cal da ea rar ral rev rb fl' xb xc xcl xd xe xr xrl yb' yc' ycl' yd' ye' yr' yrl' (upd o 6 0) now pa sa' iS' bu rp) ∨
    (¬ ok_Db_checkRange p 0 1 ∧ sp_Mo_save p o now sa iS = (0, upd o 6 1, sa, iS))) := by
  have h0 := inv_6 h 0
  obtain ⟨ht, hp, hr, hb, hpa, hsa, hre⟩ := h
  obtain ⟨a1, a2, a3⟩ := save_R hp hr hT hb hsa o p
  refine ⟨a1, ?_⟩
  by_cases c : ok_Db_checkRange p 0 1
  · obtain ⟨k1, v, fl', yb', yc', ycl', yd', ye', yr', yrl', sa', iS', k2, k3, k4⟩ := a3 (chkR.mp c)
    obtain ⟨ht, hp, hr, hb, hpa, hsa, hre⟩ := h0
    exact Or.inl ⟨v, fl', yb', yc', ycl', yd', ye', yr', yrl', sa', iS', k1, k2, k3, ht, hp, hr, hb, hpa, k4, hre⟩
  · exact Or.inr ⟨c, a2 (fun w => c (chkR.mpr w))⟩
/-- restore -/
theorem restore_D (h : Inv T dv t tb w0 w1 w2 w3 w4 ba ca cal da ea rar ral rev rb fl xb xc xcl xd xe xr xrl yb yc ycl yd ye yr yrl o now pa sa iS bu rp) (hT : T ≤ 1000000000) : ok_Mo_restore p o now sa iS ∧ (
    (∃ (v : Int32) (dv' : IV) (ba' : IV) (ca' : IV) (cal' : LV) (da' : IV) (ea' : IV) (rar' : NI) (ral' : NL) (o' : IV) (now' : LV), ok_Db_restore p w0 w3 w4 ba ca cal da ea rar ral fl yb yc ycl yd ye yr yrl ∧ sp_Db_restore p dv w0 w3 w4 ba ca cal da ea rar ral fl yb yc ycl yd ye yr yrl = (v, dv', ba', ca', cal', da', ea', rar', ral') ∧ sp_Mo_restore p o now sa iS = (v, o', now') ∧ o' 6 = 0 ∧ Inv T dv' t tb w0 w1 w2 w3 w4 ba' ca' cal' da' ea' rar' ral' rev rb fl xb xc xcl xd xe xr xrl yb yc ycl yd ye yr yrl o' now' pa sa iS bu rp) ∨
    (¬ ok_Db_checkRange p 0 1 ∧ sp_Mo_restore p o now sa iS = (0, upd o 6 1, now))) := by
  obtain ⟨⟨B, n, hB, h613⟩, hp, hr, hb, hpa, hsa, hre⟩ := h
  obtain ⟨a1, a2, a3⟩ := restore_R hp hr hT hb hsa hpa p
  refine ⟨a1, ?_⟩
  by_cases c : ok_Db_checkRange p 0 1
  · obtain ⟨k1, v, dv', ba', ca', cal', da', ea', rar', ral', o', now', k2, k3, k4, k5, k6, k7, k8, k9⟩ := a3 (chkR.mp c)
    exact Or.inl ⟨v, dv', ba', ca', cal', da', ea', rar', ral', o', now', k1, k2, k3, k4, ⟨B, n, buf_o hB (k9 8 (by decide) (by decide)), by rw [k9 13 (by decide) (by decide)]; exact h613⟩, ps_PR k5 hp, k6, k7, k8, sav_mono hsa (Int.le_refl _) k5, rep_o hre (k9 28 (by decide) (by decide))⟩
  · exact Or.inr ⟨c, a2 (fun w => c (chkR.mpr w))⟩
/-- feed, report -/
theorem feed_D {v1 v2 v3 v4 v5 : Int32} (h : Inv T dv t tb w0 w1 w2 w3 w4 ba ca cal da ea rar ral rev rb fl xb xc xcl xd xe xr xrl yb yc ycl yd ye yr yrl o now pa sa iS bu rp) : ok_Db_feed v1 v2 v3 v4 v5 t tb ∧ ok_Mo_feed v1 v2 v3 v4 v5 o bu ∧ ∃ (v : Int32) (t' tb' o' bu' : IV), sp_Db_feed v1 v2 v3 v4 v5 t tb = (v, t', tb') ∧ sp_Mo_feed v1 v2 v3 v4 v5 o bu = (v, o', bu') ∧ Inv T dv t' tb' w0 w1 w2 w3 w4 ba ca cal da ea rar ral rev rb fl xb xc xcl xd xe xr xrl yb yc ycl yd ye yr yrl o' now pa sa iS bu' rp := by
  obtain ⟨ht, hp, hr, hb, hpa, hsa, hre⟩ := h
  obtain ⟨a1, a2, v, t', tb', o', bu', a3, a4, a5, a6⟩ := feed_Q (v1 := v1) (v2 := v2) (v3 := v3) (v4 := v4) (v5 := v5) ht
  exact ⟨a1, a2, v, t', tb', o', bu', a3, a4, a5, hp, hr, hb, past_cells hpa rfl rfl (a6 5 (by decide) (by decide)), hsa, rep_o hre (a6 28 (by decide) (by decide))⟩
theorem report_D (h : Inv T dv t tb w0 w1 w2 w3 w4 ba ca cal da ea rar ral rev rb fl xb xc xcl xd xe xr xrl yb yc ycl yd ye yr yrl o now pa sa iS bu rp) : ok_Db_report w0 ea rar ral rev rb ∧ ok_Mo_report o now rp ∧ ∃ (v : Int32) (rev' rb' o' rp' : IV), sp_Db_report w0 ea rar ral rev rb = (v, rev', rb') ∧ sp_Mo_report o now rp = (v, o', rp') ∧ Inv T dv t tb w0 w1 w2 w3 w4 ba ca cal da ea rar ral rev' rb' fl xb xc xcl xd xe xr xrl yb yc ycl yd ye yr yrl o' now pa sa iS bu rp' := by
  obtain ⟨⟨B, n, hB, h613⟩, hp, hr, hb, hpa, hsa, hre⟩ := h
  obtain ⟨a1, a2, v, rev', rb', o', rp', a3, a4, a5, a6⟩ := report_Q (rev := rev) (rb := rb) (o := o) (rp := rp) hp hb.2 hr
  exact ⟨a1, a2, v, rev', rb', o', rp', a3, a4, ⟨B, n, buf_o hB (a6 8 (by decide) (by decide)), by rw [a6 13 (by decide) (by decide)]; exact h613⟩, hp, hr, hb, past_cells hpa rfl rfl (a6 5 (by decide) (by decide)), hsa, a5⟩
end TSA
