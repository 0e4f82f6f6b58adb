section CR3
variable {T : Int} {r r' : LV} {w0 w1 w2 w3 w4 : IV}
theorem upd_ne_row {r : LV} {k : Nat} {x : Int64} : ∀ j, j ≠ k → vp_updL r k x j = r j := fun _ h => uLn h
/-- the bench by another row that has the same numbers but for FIRST, SECOND, VOLTS, the leads or TURNED -/
theorem bc_circ {ba ca ca' : IV} {cal : LV} {da : IV} (h : RowOK T r) (hb : BC ba ca cal da r) (hk : ∀ k, k ≠ 22 → k ≠ 29 → k ≠ 30 → k ≠ 31 → k ≠ 32 → r' k = r k) (hci : CiR ca' r' (zS r) (zf r') (zg r') (zr r' 32)) (h6 : (ca' 6).toInt = zr r' 31) (h9 : ca' 9 = ca 9) (h10 : ca' 10 = ca 10) (h11 : ca' 11 = ca 11) : BC ba ca' cal da r' := by
  have hD := (zD_bd h).2.1
  obtain ⟨⟨-, -, g9, g10, g11, g12⟩, b3, b4, b5, bd⟩ := hb
  have eS : zset r' (zD r') = zset r (zD r) := zS_cong (hk 0 (by decide) (by decide) (by decide) (by decide) (by decide)) (fun d hd => hk (33 + d) (by omega) (by omega) (by omega) (by omega) (by omega)) hD
  refine ⟨⟨?_, h6, ?_, ?_, ?_, ?_⟩, ?_, ?_, ?_, fun k hk1 hk2 => ?_⟩
  · show CiR ca' r' (zset r' (zD r')) _ _ _
    rw [eS]; exact hci
  · rw [h9, g9, zr, zr, hk 27 (by decide) (by decide) (by decide) (by decide) (by decide)]
  · rw [h10, g10, zr, zr, hk 39 (by decide) (by decide) (by decide) (by decide) (by decide)]
  · rw [h11, g11, zr, zr, hk 28 (by decide) (by decide) (by decide) (by decide) (by decide)]
  · rw [g12, hk 40 (by decide) (by decide) (by decide) (by decide) (by decide)]
  · rw [b3, zr, zr, hk 43 (by decide) (by decide) (by decide) (by decide) (by decide)]
  · rw [b4, zr, zr, hk 41 (by decide) (by decide) (by decide) (by decide) (by decide)]
  · rw [b5, zr, zr, hk 42 (by decide) (by decide) (by decide) (by decide) (by decide)]
  · rw [zr, hk 43 (by decide) (by decide) (by decide) (by decide) (by decide)] at hk2
    rw [bd k hk1 hk2, zr, zr, hk (44 + k) (by omega) (by omega) (by omega) (by omega) (by omega)]
theorem rr_54 {ea : IV} {rar : NI} {ral : NL} (h : RR ea rar ral r) (k : Nat) (x : Int64) (hk : k < 54) : RR ea rar ral (vp_updL r k x) := rr_same h (fun j hj => uLn (by omega))
/-- the arms -/
theorem op_arms (hp : PR w0 w1 w2 w3 w4 r) (h : RowOK T r) {ba ca : IV} {cal : LV} {da ea : IV} {rar : NI} {ral : NL} (hb : BR ba ca cal da ea rar ral r) {a b : Nat} (ha : a < 5) (hb2 : b < 5) :
    BR ba (sp_Ci_choose (nI a) (nI b) ca w2) cal da ea rar ral (sp_Mo_armsNow (lN a) (lN b) r).2 ∧ RowOK T (sp_Mo_armsNow (lN a) (lN b) r).2 ∧ FrE r (sp_Mo_armsNow (lN a) (lN b) r).2 ∧ ok_Mo_armsNow (lN a) (lN b) r ∧ (sp_Mo_armsNow (lN a) (lN b) r).1 = (10 : Int32) * ca 1 + ca 2 ∧ 0 ≤ (sp_Mo_armsNow (lN a) (lN b) r).1.toInt := by
  have hD := (zD_bd h).2.1
  obtain ⟨f1, f2, f3, f4⟩ := lN_of h
  obtain ⟨c, c9, e1, e2⟩ := c_choose hp h hb.1.1.1 ha hb2
  have e : sp_Mo_armsNow (lN a) (lN b) r = ((10 : Int32) * (r 29).toInt32 + (r 30).toInt32, vp_updL (vp_updL r 29 (lN a)) 30 (lN b)) := by
    unfold sp_Mo_armsNow sp_Mo_change
    simp only [lettn]
    have k1 : (29 : Int32).toNatClampNeg = 29 := by decide
    have k2 : (30 : Int32).toNatClampNeg = 30 := by decide
    rw [k1, k2, uLn (show 30 ≠ 29 by decide)]
  rw [e]; dsimp only
  have x29 : (r 29).toInt32 = nI (zf r) := by rw [f1]; exact nIo (by rw [Kit.i32_of_i64 (by rw [lNz (by omega)]; omega) (by rw [lNz (by omega)]; omega), lNz (by omega)])
  have x30 : (r 30).toInt32 = nI (zg r) := by rw [f3]; exact nIo (by rw [Kit.i32_of_i64 (by rw [lNz (by omega)]; omega) (by rw [lNz (by omega)]; omega), lNz (by omega)])
  have y1 : ca 1 = nI (zf r) := hb.1.1.1.2.2.1
  have y2 : ca 2 = nI (zg r) := hb.1.1.1.2.2.2.2.1
  have hr1 := row_upd h 29 (lN a) (fun _ => by rw [lNz (by omega)]; show (0 : Int) ≤ _ ∧ _ ≤ (4 : Int); omega) (by decide)
  have hr2 := row_upd hr1 30 (lN b) (fun _ => by rw [lNz (by omega)]; show (0 : Int) ≤ _ ∧ _ ≤ (4 : Int); omega) (by decide)
  have z29 : zf (vp_updL (vp_updL r 29 (lN a)) 30 (lN b)) = a := by unfold zf zr; rw [uLn (by decide), uLs, lNz (by omega)]; rfl
  have z30 : zg (vp_updL (vp_updL r 29 (lN a)) 30 (lN b)) = b := by unfold zg zr; rw [uLs, lNz (by omega)]; rfl
  refine ⟨⟨bc_circ h hb.1 (fun k _ k1 k2 _ _ => by rw [uLn k2, uLn k1]) ?_ ?_ (c9 9 (by decide) (by decide) (by decide)) (c9 10 (by decide) (by decide) (by decide)) (c9 11 (by decide) (by decide) (by decide)), rr_54 (rr_54 hb.2 29 _ (by decide)) 30 _ (by decide)⟩, hr2, fun k hk => by rw [uLn (by omega), uLn (by omega)], ?_, by rw [x29, x30, y1, y2], ?_⟩
  · rw [z29, z30]
    show CiR _ _ _ a b (vp_updL (vp_updL r 29 (lN a)) 30 (lN b) 32).toInt
    rw [uLn (by decide), uLn (by decide)]
    exact ci_ps c (ps_trans (ps_upd 29 _ (by omega)) (ps_upd 30 _ (by omega))) hD (by rw [uLn (by decide), uLn (by decide)]) (by rw [uLn (by decide), uLn (by decide)]) (by rw [uLn (by decide), uLn (by decide)])
  · rw [c9 6 (by decide) (by decide) (by decide), hb.1.1.2.1, zr, zr, uLn (by decide), uLn (by decide)]
  · unfold ok_Mo_armsNow ok_Mo_change
    simp only [lettn]
    exact ⟨⟨vp_of (by decide) (by decide), trivial⟩, ⟨vp_of (by decide) (by decide), trivial⟩, trivial⟩
  · rw [x29, x30]
    have q1 : E32 (nI (zf r)) (zf r) 0 4 := ⟨nIz (by omega), by omega, by omega⟩
    have q2 : E32 (nI (zg r)) (zg r) 0 4 := ⟨nIz (by omega), by omega, by omega⟩
    have q3 := e32_add (e32_mul 0 40 (e32_lit 10 (10 : Int32) rfl) q1 (by decide) (by decide) (by decide)) q2 (by decide) (by decide)
    rw [q3.1]; exact Int.le_trans (by decide) q3.2.1
/-- the supply -/
theorem op_volts (h : RowOK T r) {ba ca : IV} {cal : LV} {da ea : IV} {rar : NI} {ral : NL} (hb : BR ba ca cal da ea rar ral r) {v : Int32} (hv : 0 ≤ v.toInt ∧ v.toInt ≤ 20000) :
    BR ba (upd ca 3 v) cal da ea rar ral (sp_Mo_change 22 v.toInt64 r).2 ∧ RowOK T (sp_Mo_change 22 v.toInt64 r).2 ∧ PSame r (sp_Mo_change 22 v.toInt64 r).2 ∧ ok_Mo_change 22 v.toInt64 ∧ (sp_Mo_change 22 v.toInt64 r).1 = ca 3 ∧ 0 ≤ (ca 3).toInt := by
  have hD := (zD_bd h).2.1
  have e : sp_Mo_change 22 v.toInt64 r = ((r 22).toInt32, vp_updL r 22 v.toInt64) := by
    unfold sp_Mo_change
    simp only [lettn]
    rw [show (22 : Int32).toNatClampNeg = 22 by decide]
  rw [e]; dsimp only
  obtain ⟨c1, c2, c3, c4, c5, c6, c7, c8, c9, c10, c11, c12, c13, c14, c15, c16, c17⟩ := hb.1.1.1
  have b22 := row_w h 22 0 20000 rfl rfl
  have hr := row_upd h 22 v.toInt64 (fun _ => by rw [Kit.i64_of_i32]; exact hv) (by decide)
  refine ⟨⟨bc_circ h hb.1 (fun k k1 _ _ _ _ => uLn k1) ?_ ?_ (un (by decide)) (un (by decide)) (un (by decide)), rr_54 hb.2 22 _ (by decide)⟩, hr, ps_upd 22 _ (by omega), ⟨vp_of (by decide) (by decide), trivial⟩, ?_, by rw [c9]; exact b22.2.1⟩
  · have ps := ps_upd (r := r) 22 v.toInt64 (by omega)
    refine ⟨?_, c2, ?_, c4, ?_, c6, ?_, c8, ?_, ?_, ?_, ?_, ?_, ?_, ?_, ?_, ?_⟩
    · rw [un (by decide)]; exact c1
    · rw [un (by decide)]; exact c3
    · rw [un (by decide)]; exact c5
    · rw [un (by decide)]; exact c7
    · rw [us, zr, uLs, Kit.i64_of_i32]
    · rw [un (by decide)]; exact c10
    · rw [un (by decide)]; exact c11
    · rw [un (by decide)]; exact c12.trans (ps_ash ps c4 c6).symm
    · rw [un (by decide), ps_cold ps hD]; exact c13
    · rw [un (by decide), ps_uw ps (uLn (by decide))]; exact c14
    · rw [un (by decide), ps_bw ps hD (uLn (by decide))]; exact c15
    · rw [un (by decide), ps_us ps (uLn (by decide))]; exact c16
    · rw [un (by decide), ps_bs ps hD (uLn (by decide))]; exact c17
  · rw [un (by decide), hb.1.1.2.1, zr, zr, uLn (by decide)]
  · apply Int32.toInt_inj.mp
    rw [c9, Kit.i32_of_i64 (by show -2 ^ 31 ≤ zr r 22; have := b22.2; omega) (by show zr r 22 < 2 ^ 31; have := b22.2; omega)]
/-- the leads -/
theorem op_wire (hp : PR w0 w1 w2 w3 w4 r) (h : RowOK T r) {ba ca : IV} {cal : LV} {da ea : IV} {rar : NI} {ral : NL} (hb : BR ba ca cal da ea rar ral r) {l : Int32} (hl : l.toInt = 2 ∨ l.toInt = 3) :
    BR ba (sp_Ci_wire l ca w0 w3 w4) cal da ea rar ral (sp_Mo_change 32 l.toInt64 r).2 ∧ RowOK T (sp_Mo_change 32 l.toInt64 r).2 ∧ FrE r (sp_Mo_change 32 l.toInt64 r).2 ∧ ok_Mo_change 32 l.toInt64 ∧ (sp_Mo_change 32 l.toInt64 r).1 = ca 4 ∧ 0 ≤ (ca 4).toInt := by
  have hD := (zD_bd h).2.1
  have e : sp_Mo_change 32 l.toInt64 r = ((r 32).toInt32, vp_updL r 32 l.toInt64) := by
    unfold sp_Mo_change
    simp only [lettn]
    rw [show (32 : Int32).toNatClampNeg = 32 by decide]
  rw [e]; dsimp only
  have b32 := row_w h 32 2 3 rfl rfl
  have c7 := hb.1.1.1.2.2.2.2.2.2.1
  obtain ⟨c, c9, c4⟩ := c_wire hp h hb.1.1.1 (l := l) rfl hl
  have hr := row_upd h 32 l.toInt64 (fun _ => by rw [Kit.i64_of_i32]; show (2 : Int) ≤ _ ∧ _ ≤ (3 : Int); omega) (by decide)
  refine ⟨⟨bc_circ h hb.1 (fun k _ _ _ _ k1 => uLn k1) ?_ ?_ (c9 9 (by decide) (by decide)) (c9 10 (by decide) (by decide)) (c9 11 (by decide) (by decide)), rr_54 hb.2 32 _ (by decide)⟩, hr, fun k hk => uLn (by omega), ⟨vp_of (by decide) (by decide), trivial⟩, ?_, by rw [c7]; have := b32.2; omega⟩
  · show CiR _ _ _ _ _ (vp_updL r 32 l.toInt64 32).toInt
    rw [uLs, Kit.i64_of_i32]
    exact ci_ps c (ps_upd 32 _ (by omega)) hD (uLn (by decide)) (uLn (by decide)) (uLn (by decide))
  · rw [c9 6 (by decide) (by decide), hb.1.1.2.1, zr, zr, uLn (by decide)]
  · apply Int32.toInt_inj.mp
    rw [c7, Kit.i32_of_i64 (by show -2 ^ 31 ≤ zr r 32; have := b32.2; omega) (by show zr r 32 < 2 ^ 31; have := b32.2; omega)]
/-- the supply turned -/
theorem op_turn (h : RowOK T r) {ba ca : IV} {cal : LV} {da ea : IV} {rar : NI} {ral : NL} (hb : BR ba ca cal da ea rar ral r) :
    BR ba (upd ca 6 (if ca 6 = 0 then 1 else 0)) cal da ea rar ral (sp_Mo_turnNow r).2 ∧ RowOK T (sp_Mo_turnNow r).2 ∧ FrE r (sp_Mo_turnNow r).2 ∧ (sp_Mo_turnNow r).1 = (if ca 6 = 0 then 1 else 0) := by
  have t0 := b31 h
  obtain ⟨t1, t2⟩ := flip1 t0
  have h6 := hb.1.1.2.1
  have e6 := z32 h6 0 0 rfl
  have e : sp_Mo_turnNow r = (((1 : Int64) - r 31).toInt32, vp_updL r 31 ((1 : Int64) - r 31)) := by
    unfold sp_Mo_turnNow
    simp only [lettn]
    rw [uLs]
  have hn : (if ca 6 = 0 then (1 : Int32) else 0).toInt = ((1 : Int64) - r 31).toInt := by
    rw [t1]
    by_cases q : ca 6 = 0
    · rw [if_pos q]; have := e6.mp q; show (1 : Int) = 1 - zr r 31; omega
    · have : ¬ zr r 31 = 0 := fun w => q (e6.mpr w)
      have t0' : zr r 31 = 0 ∨ zr r 31 = 1 := t0
      rw [if_neg q]; show (0 : Int) = 1 - zr r 31; omega
  rw [e]; dsimp only
  refine ⟨⟨bc_turn h hb.1 hn, rr_54 hb.2 31 _ (by decide)⟩, turn_ok h (by rw [t1]; omega), fun k hk => uLn (by omega), ?_⟩
  apply Int32.toInt_inj.mp
  rw [hn, Kit.i32_of_i64 (by rw [t1]; omega) (by rw [t1]; omega)]
/-- the box set -/
theorem op_set (hp : PR w0 w1 w2 w3 w4 r) (h : RowOK T r) {ba ca : IV} {cal : LV} {da ea : IV} {rar : NI} {ral : NL} (hb : BR ba ca cal da ea rar ral r) {s : Int32} (hs : 0 ≤ s.toInt) :
    ok_Mo_setNow s r ∧ ok_Mo_isSetting s r ∧ (s.toInt < (10 ^ zD r : Nat) → ¬ sp_Mo_isSetting s r = 0 ∧ BR ba (sp_Ci_dial s ca w0 w1 w3 w4) cal da ea rar ral (sp_Mo_setNow s r).2 ∧ ok_Ci_dial s ca w0 w1 ∧ RowOK T (sp_Mo_setNow s r).2 ∧ FrE r (sp_Mo_setNow s r).2 ∧ (sp_Mo_setNow s r).1 = ca 5 ∧ 0 ≤ (ca 5).toInt) ∧
    (¬ s.toInt < (10 ^ zD r : Nat) → sp_Mo_isSetting s r = 0 ∧ sp_Mo_setNow s r = (-2, r)) := by
  have hD := zD_bd h
  have hpw := p10 (zD r) (by omega)
  obtain ⟨s1, s2⟩ := m_settings h
  obtain ⟨m1, m2⟩ := m_setting h
  have e1 : ((nI (10 ^ zD r)).toInt64 - (1 : Int64)).toInt = (10 ^ zD r : Nat) - 1 := by
    have k := e64_sub (e64_of32 (pow_nI (zD r) (by omega))) (e64_lit 1 (1 : Int64) rfl) (by decide) (by decide)
    exact k.1
  have ei : (s.toInt < (10 ^ zD r : Nat) → sp_Mo_in s.toInt64 0 ((nI (10 ^ zD r)).toInt64 - (1 : Int64)) = 1) ∧ (¬ s.toInt < (10 ^ zD r : Nat) → sp_Mo_in s.toInt64 0 ((nI (10 ^ zD r)).toInt64 - (1 : Int64)) = 0) := by
    have n0 : ¬ s.toInt64 < (0 : Int64) := by rw [Int64.lt_iff_toInt_lt, Kit.i64_of_i32]; show ¬ s.toInt < 0; omega
    have n1 : (nI (10 ^ zD r)).toInt64 - (1 : Int64) < s.toInt64 ↔ ¬ s.toInt < (10 ^ zD r : Nat) := by rw [Int64.lt_iff_toInt_lt, e1, Kit.i64_of_i32]; omega
    unfold sp_Mo_in sp_Mo_in_17
    rw [if_neg n0]
    exact ⟨fun q => if_neg (fun w => (n1.mp w) q), fun q => if_pos (n1.mpr q)⟩
  have es : sp_Mo_isSetting s r = sp_Mo_in s.toInt64 0 ((nI (10 ^ zD r)).toInt64 - (1 : Int64)) := by
    unfold sp_Mo_isSetting; simp only [lettn]; rw [s1]
  have os : ok_Mo_isSetting s r := by
    unfold ok_Mo_isSetting; simp only [lettn]; rw [s1]
    refine ⟨s2, ?_, trivial⟩
    by_cases q : s.toInt < (10 ^ zD r : Nat)
    · rw [ei.1 q]; exact isB1
    · rw [ei.2 q]; exact isB0
  refine ⟨?_, os, fun q => ?_, fun q => ?_⟩
  · unfold ok_Mo_setNow; simp only [lettn]
    refine ⟨os, fun _ => trivial, fun w => ⟨m2, ?_, trivial⟩⟩
    have q : s.toInt < (10 ^ zD r : Nat) := Decidable.byContradiction fun q => w (by rw [es]; exact ei.2 q)
    exact (m_lay h (s := s) (S := s.toInt) ⟨rfl, hs, by omega⟩ q).1
  · have ne : ¬ sp_Mo_isSetting s r = 0 := by rw [es, ei.1 q]; decide
    obtain ⟨l1, l2, l3, l4, l5⟩ := m_lay h (s := s) (S := s.toInt) ⟨rfl, hs, by omega⟩ q
    obtain ⟨d1, d2⟩ := bc_dial hp h hb.1 (r' := sp_Mo_laySetting s r) l2 (s := s) ⟨l5.symm, by rw [l5]; exact hs, by rw [l5]; omega⟩
    have e : sp_Mo_setNow s r = (sp_Mo_setting r, sp_Mo_laySetting s r) := by unfold sp_Mo_setNow; simp only [lettn]; rw [if_neg ne]
    rw [e]; dsimp only
    have c1 : (ca 5).toInt = zset r (zD r) := hb.1.1.1.1
    exact ⟨ne, ⟨d1, rr_same hb.2 (fun k hk => l2 k (by omega))⟩, d2, l3, fun k hk => l2 k (by omega), Int32.toInt_inj.mp (m1.1.trans c1.symm), by rw [c1]; exact (zset_all h).1⟩
  · have eq : sp_Mo_isSetting s r = 0 := by rw [es, ei.2 q]
    refine ⟨eq, ?_⟩
    unfold sp_Mo_setNow; simp only [lettn]; rw [if_pos eq]
end CR3
