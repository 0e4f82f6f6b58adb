section CT3
variable {T : Int} {now now' : LV} {w0 w1 w2 w3 w4 : IV}
/-- the saved states -/
def SavR (T : Int) (fl : IV) (yb yc : NI) (ycl : NL) (yd ye : NI) (yr : NNI) (yrl : NNL) (iS : IV) (sa now : LV) : Prop :=
  ∀ s : Nat, s < 2 → fl s = iS s ∧ isB (iS s) ∧ (¬ iS s = 0 → RowOK T (rowAt sa s) ∧ PSame now (rowAt sa s) ∧ BR (yb s) (yc s) (ycl s) (yd s) (ye s) (yr s) (yrl s) (rowAt sa s))
theorem sav_mono {U : Int} {fl : IV} {yb yc : NI} {ycl : NL} {yd ye : NI} {yr : NNI} {yrl : NNL} {iS : IV} {sa : LV} (h : SavR T fl yb yc ycl yd ye yr yrl iS sa now) (hT : T ≤ U) (hs : PSame now now') : SavR U fl yb yc ycl yd ye yr yrl iS sa now' := fun s h2 => by
  obtain ⟨a, b, c⟩ := h s h2
  exact ⟨a, b, fun w => ⟨row_mono (c w).1 hT, ps_trans (ps_symm hs) (c w).2.1, (c w).2.2⟩⟩
theorem isB_in (v a b : Int64) : isB (sp_Mo_in v a b) := by
  unfold sp_Mo_in sp_Mo_in_17
  split
  · exact isB0
  · split
    · exact isB0
    · exact isB1
/-- in: within two numbers -/
theorem in_iff {v a b : Int64} {V A B : Int} (hv : v.toInt = V) (ha : a.toInt = A) (hb : b.toInt = B) : (A ≤ V ∧ V ≤ B → sp_Mo_in v a b = 1) ∧ (¬ (A ≤ V ∧ V ≤ B) → sp_Mo_in v a b = 0) := by
  have e1 : v < a ↔ V < A := by rw [Int64.lt_iff_toInt_lt, hv, ha]
  have e2 : b < v ↔ B < V := by rw [Int64.lt_iff_toInt_lt, hv, hb]
  unfold sp_Mo_in sp_Mo_in_17
  constructor
  · intro h
    rw [if_neg (fun w => by have := e1.mp w; omega), if_neg (fun w => by have := e2.mp w; omega)]
  · intro h
    by_cases q : v < a
    · rw [if_pos q]
    · have q' : ¬ V < A := fun w => q (e1.mpr w)
      rw [if_neg q, if_pos (e2.mpr (by omega))]
theorem slot_in {p : Int32} : (0 ≤ p.toInt ∧ p.toInt ≤ 1 → sp_Mo_isSlot p = 1) ∧ (¬ (0 ≤ p.toInt ∧ p.toInt ≤ 1) → sp_Mo_isSlot p = 0) ∧ ok_Mo_isSlot p := by
  have h := in_iff (v := p.toInt64) (a := 0) (b := 1) (Kit.i64_of_i32 p) rfl rfl
  unfold sp_Mo_isSlot ok_Mo_isSlot
  simp only [lettn]
  exact ⟨h.1, h.2, isB_in _ _ _, trivial⟩
theorem chk_ok {a b c : Int32} (h : b.toInt ≤ a.toInt ∧ a.toInt ≤ c.toInt) : ok_Db_checkRange a b c := by
  unfold ok_Db_checkRange
  refine ⟨fun w => ?_, fun _ => ⟨fun _ => trivial, fun w => ?_⟩⟩
  · rw [Int32.lt_iff_toInt_lt] at w; omega
  · rw [Int32.le_iff_toInt_le] at w; omega
theorem at2 {s : Nat} (hs : s < 2) : sp_Db_benchAt2 (nI s) = some s := by
  unfold sp_Db_benchAt2
  rw [if_neg (by rw [Int32.lt_iff_toInt_lt, nIz (by omega)]; show ¬ (s : Int) < 0; omega), if_neg (by rw [show (2 : Int32) = nI 2 from rfl, nzle (by omega) (by omega)]; omega), cl_nI (by omega)]
theorem row39 {now : LV} {ca : IV} (h : RowOK T now) (hT : T ≤ 1000000000) (hc : (ca 10).toInt = zr now 39) : (now 39).toInt32 = ca 10 := by
  have b := (row_w h 39 0 T rfl rfl).2
  apply Int32.toInt_inj.mp
  rw [hc, Kit.i32_of_i64 (by show -2 ^ 31 ≤ zr now 39; omega) (by show zr now 39 < 2 ^ 31; omega)]
/-- a state is saved -/
theorem save_R (hp : PR w0 w1 w2 w3 w4 now) (h : RowOK T now) (hT : T ≤ 1000000000) {ba ca : IV} {cal : LV} {da ea : IV} {rar : NI} {ral : NL} (hb : BR ba ca cal da ea rar ral now) {fl : IV} {yb yc : NI} {ycl : NL} {yd ye : NI} {yr : NNI} {yrl : NNL} {iS : IV} {sa : LV} (hs : SavR T fl yb yc ycl yd ye yr yrl iS sa now) (o : IV) (p : Int32) :
    ok_Mo_save p o now sa iS ∧ (¬ (0 ≤ p.toInt ∧ p.toInt ≤ 1) → sp_Mo_save p o now sa iS = (0, upd o 6 1, sa, iS)) ∧
    (0 ≤ p.toInt ∧ p.toInt ≤ 1 → ok_Db_save p w0 w3 w4 ba ca cal da ea rar ral yb yc ycl yd ye yr yrl ∧
      ∃ (v : Int32) (fl' : IV) (yb' yc' : NI) (ycl' : NL) (yd' ye' : NI) (yr' : NNI) (yrl' : NNL) (sa' : LV) (iS' : IV), sp_Db_save p w0 w3 w4 ba ca cal da ea rar ral fl yb yc ycl yd ye yr yrl = (v, fl', yb', yc', ycl', yd', ye', yr', yrl') ∧ sp_Mo_save p o now sa iS = (v, upd o 6 0, sa', iS') ∧ SavR T fl' yb' yc' ycl' yd' ye' yr' yrl' iS' sa' now) := by
  obtain ⟨i1, i2, i3⟩ := slot_in (p := p)
  by_cases q : 0 ≤ p.toInt ∧ p.toInt ≤ 1
  · have j : ¬ sp_Mo_isSlot p = 0 := by rw [i1 q]; decide
    obtain ⟨s, hs2, rfl⟩ : ∃ s : Nat, s < 2 ∧ p = nI s := ⟨p.toInt.toNat, by omega, nIo (by omega)⟩
    have c0 : upd o 6 0 6 ≤ 0 := by rw [us]; decide
    obtain ⟨g1, g2⟩ := cp_ns_l now (a := 0) (b := s) (by decide) (by omega) 215 big 0 sa (by omega) (by rw [big_eq]; decide)
    obtain ⟨oc, ba', ca', cal', da', ea', rar', ral', ec, hbr⟩ := copy_BR (ba := yb s) (ca := yc s) (cal := ycl s) (da := yd s) (ea := ye s) (rar := yr s) (ral := yrl s) hp h hb
    have c2 : ¬ (2 : Int32) ≤ nI s := by rw [show (2 : Int32) = nI 2 from rfl, nzle (by omega) (by omega)]; omega
    have em : sp_Mo_save (nI s) o now sa iS = ((now 39).toInt32, upd o 6 0, sp_Mo_copy_ns_3 (nI s) now (nI 0) big (nI 0) sa, upd iS s 1) := by
      unfold sp_Mo_save sp_Mo_save_13 sp_Mo_copy_ns; simp only [lettn]; rw [if_neg j, if_pos c0, cl_nI (by omega)]; rfl
    have ed : sp_Db_save (nI s) w0 w3 w4 ba ca cal da ea rar ral fl yb yc ycl yd ye yr yrl = (ca 10, upd fl s 1, fset yb s ba', fset yc s ca', fset ycl s cal', fset yd s da', fset ye s ea', fset yr s rar', fset yrl s ral') := by
      unfold sp_Db_save sp_Db_save_43; simp only [lettn, at2 hs2, optt]; rw [if_neg c2, ec, cl_nI (by omega)]; rfl
    refine ⟨?_, fun w => absurd q w, fun _ => ⟨?_, ca 10, _, _, _, _, _, _, _, _, sp_Mo_copy_ns_3 (nI s) now (nI 0) big (nI 0) sa, upd iS s 1, ed, ?_, fun a ha => ?_⟩⟩
    · unfold ok_Mo_save ok_Mo_save_13 ok_Mo_copy_ns; simp only [lettn]
      refine ⟨i3, fun w => absurd w j, fun _ => ⟨fun _ => ⟨g1, vp_nI (by omega) (by decide), trivial⟩, fun _ => trivial⟩⟩
    · unfold ok_Db_save; simp only [lettn, at2 hs2]
      refine ⟨chk_ok (by have : (0 : Int32).toInt = 0 := rfl; have : (1 : Int32).toInt = 1 := rfl; omega), fun w => (nomatch w), fun k4 hk4 => ?_⟩
      cases hk4
      exact ⟨fun w => absurd w c2, fun _ => ⟨hs2, oc, vp_nI (by omega) (by decide), trivial⟩⟩
    · rw [em, row39 h hT hb.1.1.2.2.2.1]
    · by_cases qa : a = s
      · subst qa
        have hsm : Same now (rowAt (sp_Mo_copy_ns_3 (nI a) now (nI 0) big (nI 0) sa) a) := fun k hk => by
          show sp_Mo_copy_ns_3 (nI a) now (nI 0) big (nI 0) sa (215 * a + k) = now k
          rw [(g2 _).1 (by omega)]; congr 1; omega
        rw [us, us, fs_s, fs_s, fs_s, fs_s, fs_s, fs_s, fs_s]
        exact ⟨rfl, isB1, fun _ => ⟨row_same h hsm, fun k h1 h2 => hsm k (by omega), br_same h hbr hsm⟩⟩
      · obtain ⟨x1, x2, x3⟩ := hs a ha
        have hsm : Same (rowAt sa a) (rowAt (sp_Mo_copy_ns_3 (nI s) now (nI 0) big (nI 0) sa) a) := fun k hk => by
          show sp_Mo_copy_ns_3 (nI s) now (nI 0) big (nI 0) sa (215 * a + k) = sa (215 * a + k)
          exact (g2 _).2 (by omega)
        rw [un qa, un qa, fs_n qa, fs_n qa, fs_n qa, fs_n qa, fs_n qa, fs_n qa, fs_n qa]
        exact ⟨x1, x2, fun w => ⟨row_same (x3 w).1 hsm, fun k h1 h2 => by rw [hsm k (by omega)]; exact (x3 w).2.1 k h1 h2, br_same (x3 w).1 (x3 w).2.2 hsm⟩⟩
  · have j : sp_Mo_isSlot p = 0 := i2 q
    have c0 : ¬ upd o 6 1 6 ≤ 0 := by rw [us]; decide
    refine ⟨?_, fun _ => ?_, fun w => absurd w q⟩
    · unfold ok_Mo_save ok_Mo_save_13; simp only [lettn]
      exact ⟨i3, fun _ => ⟨fun w => absurd w c0, fun _ => trivial⟩, fun w => absurd j w⟩
    · unfold sp_Mo_save sp_Mo_save_13; simp only [lettn]; rw [if_pos j, if_neg c0]
/-- a state is brought back -/
theorem restore_R (hp : PR w0 w1 w2 w3 w4 now) (h : RowOK T now) (hT : T ≤ 1000000000) {ba ca : IV} {cal : LV} {da ea : IV} {rar : NI} {ral : NL} (hb : BR ba ca cal da ea rar ral now) {fl : IV} {yb yc : NI} {ycl : NL} {yd ye : NI} {yr : NNI} {yrl : NNL} {iS : IV} {sa : LV} (hs : SavR T fl yb yc ycl yd ye yr yrl iS sa now) {dv : IV} {xb xc : NI} {xcl : NL} {xd xe : NI} {xr : NNI} {xrl : NNL} {o : IV} {pa : LV} (hpa : PastR T dv xb xc xcl xd xe xr xrl o pa now) (p : Int32) :
    ok_Mo_restore p o now sa iS ∧ (¬ (0 ≤ p.toInt ∧ p.toInt ≤ 1) → sp_Mo_restore p o now sa iS = (0, upd o 6 1, now)) ∧
    (0 ≤ p.toInt ∧ p.toInt ≤ 1 → ok_Db_restore p w0 w3 w4 ba ca cal da ea rar ral fl yb yc ycl yd ye yr yrl ∧
      ∃ (v : Int32) (dv' ba' ca' : IV) (cal' : LV) (da' ea' : IV) (rar' : NI) (ral' : NL) (o' : IV) (now' : LV), sp_Db_restore p dv w0 w3 w4 ba ca cal da ea rar ral fl yb yc ycl yd ye yr yrl = (v, dv', ba', ca', cal', da', ea', rar', ral') ∧ sp_Mo_restore p o now sa iS = (v, o', now') ∧ o' 6 = 0 ∧
      PSame now now' ∧ RowOK T now' ∧ BR ba' ca' cal' da' ea' rar' ral' now' ∧ PastR T dv' xb xc xcl xd xe xr xrl o' pa now' ∧ (∀ j, j ≠ 5 → j ≠ 6 → o' j = o j)) := by
  obtain ⟨i1, i2, i3⟩ := slot_in (p := p)
  by_cases q : 0 ≤ p.toInt ∧ p.toInt ≤ 1
  · have j : ¬ sp_Mo_isSlot p = 0 := by rw [i1 q]; decide
    obtain ⟨s, hs2, rfl⟩ : ∃ s : Nat, s < 2 ∧ p = nI s := ⟨p.toInt.toNat, by omega, nIo (by omega)⟩
    have c0 : upd o 6 0 6 ≤ 0 := by rw [us]; decide
    have c2 : ¬ (2 : Int32) ≤ nI s := by rw [show (2 : Int32) = nI 2 from rfl, nzle (by omega) (by omega)]; omega
    have cr : ok_Db_checkRange (nI s) 0 1 := chk_ok (by have : (0 : Int32).toInt = 0 := rfl; have : (1 : Int32).toInt = 1 := rfl; omega)
    obtain ⟨x1, x2, x3⟩ := hs s hs2
    obtain ⟨p', n', y1, y2, y3, y4, y5, y6⟩ := hpa
    by_cases qi : iS s = 0
    · refine ⟨?_, fun w => absurd q w, fun _ => ⟨?_, -1, dv, ba, ca, cal, da, ea, rar, ral, upd o 6 0, now, ?_, ?_, us, ps_rf now, h, hb, ⟨p', n', y1, y2, y3, y4, by rw [un (by decide)]; exact y5, y6⟩, fun k h5 h6 => un h6⟩⟩
      · unfold ok_Mo_restore ok_Mo_restore_13; simp only [lettn]; rw [cl_nI (by omega)]
        exact ⟨i3, fun w => absurd w j, fun _ => ⟨fun _ => ⟨vp_nI (by omega) (by decide), fun _ => trivial, fun w => absurd qi w⟩, fun _ => trivial⟩⟩
      · unfold ok_Db_restore; simp only [lettn]; rw [cl_nI (by omega), x1]
        exact ⟨cr, fun w => absurd w c2, fun _ => ⟨vp_nI (by omega) (by decide), fun _ => trivial, fun w => absurd qi w⟩⟩
      · unfold sp_Db_restore sp_Db_restore_35; simp only [lettn]; rw [if_neg c2, cl_nI (by omega), x1, if_pos qi]
      · unfold sp_Mo_restore sp_Mo_restore_13; simp only [lettn]; rw [if_neg j, if_pos c0, cl_nI (by omega), if_pos qi]
    · obtain ⟨a1, a2, a3⟩ := x3 qi
      obtain ⟨oc, ba', ca', cal', da', ea', rar', ral', ec, hbr⟩ := copy_BR (ba := ba) (ca := ca) (cal := cal) (da := da) (ea := ea) (rar := rar) (ral := ral) (ps_PR a2 hp) a1 a3
      obtain ⟨g1, g2⟩ := cp_sn_l sa (a := s) (b := 0) (by omega) (by decide) 215 big 0 now (by omega) (by rw [big_eq]; decide)
      have hsm : Same (rowAt sa s) (sp_Mo_copy_sn_3 (nI 0) sa (nI s) big (nI 0) now) := fun k hk => by
        rw [(g2 k).1 (by omega)]; show sa _ = sa _; congr 1
      have a1' := row_same a1 hsm
      have hbr' := br_same a1 hbr hsm
      refine ⟨?_, fun w => absurd q w, fun _ => ⟨?_, ca' 10, upd (upd dv 10 0) 11 0, ba', ca', cal', da', ea', rar', ral', upd (upd o 6 0) 5 0, sp_Mo_copy_sn_3 (nI 0) sa (nI s) big (nI 0) now, ?_, ?_, by rw [un (by decide), us], fun k h1 h2 => by rw [hsm k (by omega)]; exact a2 k h1 h2, a1', hbr', ⟨0, 0, by omega, by omega, by rw [un (by decide), us]; rfl, us, us, fun i hi => absurd hi (by omega)⟩, fun k h5 h6 => by rw [un h5, un h6]⟩⟩
      · unfold ok_Mo_restore ok_Mo_restore_13 ok_Mo_copy_sn; simp only [lettn]; rw [cl_nI (by omega)]
        exact ⟨i3, fun w => absurd w j, fun _ => ⟨fun _ => ⟨vp_nI (by omega) (by decide), fun w => absurd w qi, fun _ => ⟨g1, trivial⟩⟩, fun _ => trivial⟩⟩
      · unfold ok_Db_restore; simp only [lettn, at2 hs2]; rw [cl_nI (by omega), x1]
        refine ⟨cr, fun w => absurd w c2, fun _ => ⟨vp_nI (by omega) (by decide), fun w => absurd w qi, fun _ => ⟨fun w => (nomatch w), fun k7 hk7 => ?_⟩⟩⟩
        cases hk7
        exact ⟨hs2, oc, trivial⟩
      · unfold sp_Db_restore sp_Db_forgetPast; simp only [lettn, at2 hs2, optt]; rw [if_neg c2, cl_nI (by omega), x1, if_neg qi, ec]
      · have e39 := row39 a1' hT hbr'.1.1.2.2.2.1
        unfold sp_Mo_restore sp_Mo_restore_13 sp_Mo_copy_sn; simp only [lettn]; rw [if_neg j, if_pos c0, cl_nI (by omega), if_neg qi, ← e39]; rfl
  · have j : sp_Mo_isSlot p = 0 := i2 q
    have c0 : ¬ upd o 6 1 6 ≤ 0 := by rw [us]; decide
    refine ⟨?_, fun _ => ?_, fun w => absurd w q⟩
    · unfold ok_Mo_restore ok_Mo_restore_13; simp only [lettn]
      exact ⟨i3, fun _ => ⟨fun w => absurd w c0, fun _ => trivial⟩, fun w => absurd j w⟩
    · unfold sp_Mo_restore sp_Mo_restore_13; simp only [lettn]; rw [if_pos j, if_neg c0]
end CT3
