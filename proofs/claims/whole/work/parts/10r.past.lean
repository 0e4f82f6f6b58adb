section CT2
variable {T : Int} {now now' : LV} {w0 w1 w2 w3 w4 : IV}
/-- what can be undone -/
def PastR (T : Int) (dv : IV) (xb xc : NI) (xcl : NL) (xd xe : NI) (xr : NNI) (xrl : NNL) (o : IV) (pa now : LV) : Prop :=
  ∃ p n : Nat, p < 8 ∧ n ≤ 8 ∧ dv 10 = nI p ∧ dv 11 = nI n ∧ o 5 = nI n ∧ ∀ i, i < n → RowOK T (rowAt pa i) ∧ PSame now (rowAt pa i) ∧ BR (xb ((p + 8 - (n - 1 - i)) % 8)) (xc ((p + 8 - (n - 1 - i)) % 8)) (xcl ((p + 8 - (n - 1 - i)) % 8)) (xd ((p + 8 - (n - 1 - i)) % 8)) (xe ((p + 8 - (n - 1 - i)) % 8)) (xr ((p + 8 - (n - 1 - i)) % 8)) (xrl ((p + 8 - (n - 1 - i)) % 8)) (rowAt pa i)
theorem ps_symm {a b : LV} (h : PSame a b) : PSame b a := fun k h1 h2 => (h k h1 h2).symm
theorem past_mono {U : Int} {dv : IV} {xb xc : NI} {xcl : NL} {xd xe : NI} {xr : NNI} {xrl : NNL} {o : IV} {pa : LV} (h : PastR T dv xb xc xcl xd xe xr xrl o pa now) (hT : T ≤ U) (hs : PSame now now') : PastR U dv xb xc xcl xd xe xr xrl o pa now' := by
  obtain ⟨p, n, h1, h2, h3, h4, h5, h6⟩ := h
  exact ⟨p, n, h1, h2, h3, h4, h5, fun i hi => ⟨row_mono (h6 i hi).1 hT, ps_trans (ps_symm hs) (h6 i hi).2.1, (h6 i hi).2.2⟩⟩
theorem past_cells {dv dv' : IV} {xb xc : NI} {xcl : NL} {xd xe : NI} {xr : NNI} {xrl : NNL} {o o' : IV} {pa : LV} (h : PastR T dv xb xc xcl xd xe xr xrl o pa now) (h1 : dv' 10 = dv 10) (h2 : dv' 11 = dv 11) (h3 : o' 5 = o 5) : PastR T dv' xb xc xcl xd xe xr xrl o' pa now := by
  obtain ⟨p, n, a1, a2, a3, a4, a5, a6⟩ := h
  exact ⟨p, n, a1, a2, h1.trans a3, h2.trans a4, h3.trans a5, a6⟩
theorem rec_loop (o : IV) (now : LV) : ∀ (m f x : Nat) (pa : LV), x + m = 8 → 1 ≤ x → m < f → ∃ pa' : LV, sp_Mo_record_11 o now f (nI x) pa = sp_Mo_record_38 o now pa' ∧ (∀ i k, i < 8 → k < 215 → pa' (215 * i + k) = if x - 1 ≤ i ∧ i < 7 then pa (215 * (i + 1) + k) else pa (215 * i + k)) ∧ (ok_Mo_record_38 o now pa' → ok_Mo_record_11 o now f (nI x) pa)
  | m, 0, _, _, _, _, hf => absurd hf (by omega)
  | 0, f + 1, x, pa, hx, _, _ => by
    have c : (8 : Int32) ≤ nI x := by rw [show (8 : Int32) = nI 8 from rfl, nzle (by omega) (by omega)]; omega
    refine ⟨pa, ?_, fun i k hi hk => by rw [if_neg (by omega)], fun ho => ?_⟩
    · show bd_Mo_record_11 _ _ _ _ _ = _
      unfold bd_Mo_record_11; rw [if_pos c]
    · show okb_Mo_record_11 _ _ _ _ _ _
      unfold okb_Mo_record_11; exact ⟨fun _ => ho, fun w => absurd c w⟩
  | m + 1, f + 1, x, pa, hx, h1, hf => by
    have c : ¬ (8 : Int32) ≤ nI x := by rw [show (8 : Int32) = nI 8 from rfl, nzle (by omega) (by omega)]; omega
    have em : nI x - (1 : Int32) = nI (x - 1) := nzsub x 1 h1 (by omega)
    obtain ⟨g1, g2⟩ := cp_pp_l (a := x) (b := x - 1) (by omega) (by omega) (by omega) 215 big 0 pa (by omega) (by rw [big_eq]; decide)
    obtain ⟨pa', k1, k2, k3⟩ := rec_loop o now m f (x + 1) (sp_Mo_copy_pp_3 (nI (x - 1)) (nI x) big (nI 0) pa) (by omega) (by omega) (by omega)
    refine ⟨pa', ?_, fun i k hi hk => ?_, fun ho => ?_⟩
    · show bd_Mo_record_11 _ _ _ _ _ = _
      unfold bd_Mo_record_11 sp_Mo_copy_pp; rw [if_neg c]; simp only [lettn]; rw [em, nzadd1 x (by omega)]; exact k1
    · rw [k2 i k hi hk]
      by_cases q1 : x + 1 - 1 ≤ i ∧ i < 7
      · rw [if_pos q1, if_pos (by omega), (g2 (215 * (i + 1) + k)).2 (by omega)]
      · rw [if_neg q1]
        by_cases q2 : i = x - 1
        · subst q2
          rw [if_pos (by omega), (g2 (215 * (x - 1) + k)).1 (by omega)]
          congr 1; omega
        · rw [if_neg (by omega), (g2 (215 * i + k)).2 (by omega)]
    · show okb_Mo_record_11 _ _ _ _ _ _
      unfold okb_Mo_record_11 ok_Mo_copy_pp sp_Mo_copy_pp; simp only [lettn]; rw [em, nzadd1 x (by omega)]
      exact ⟨fun w => absurd w c, fun _ => ⟨g1, k3 ho⟩⟩
theorem rec48 (o : IV) (now pa : LV) {n : Nat} (hn : n < 8) (ho : o 5 = nI n) : ok_Mo_record_48 now o pa ∧ (sp_Mo_record_48 now o pa).1 = upd o 5 (nI (n + 1)) ∧ Same now (rowAt (sp_Mo_record_48 now o pa).2 n) ∧ (∀ i, i < 8 → i ≠ n → Same (rowAt pa i) (rowAt (sp_Mo_record_48 now o pa).2 i)) := by
  obtain ⟨g1, g2⟩ := cp_np_l now (a := 0) (b := n) (by decide) hn 215 big 0 pa (by omega) (by rw [big_eq]; decide)
  unfold sp_Mo_record_48 ok_Mo_record_48 sp_Mo_copy_np ok_Mo_copy_np
  simp only [lettn]
  rw [ho, nzadd1 n (by omega)]
  refine ⟨⟨g1, trivial⟩, rfl, fun k hk => ?_, fun i hi hne k hk => ?_⟩
  · show sp_Mo_copy_np_3 (nI n) now (nI 0) big (nI 0) pa (215 * n + k) = now k
    rw [(g2 (215 * n + k)).1 (by omega)]; congr 1; omega
  · show sp_Mo_copy_np_3 (nI n) now (nI 0) big (nI 0) pa (215 * i + k) = pa (215 * i + k)
    rw [(g2 (215 * i + k)).2 (by omega)]
/-- an operation is recorded, on both sides -/
theorem remember_R (hp : PR w0 w1 w2 w3 w4 now) (h : RowOK T now) {ba ca : IV} {cal : LV} {da ea : IV} {rar : NI} {ral : NL} (hb : BR ba ca cal da ea rar ral now) {dv : IV} {xb xc : NI} {xcl : NL} {xd xe : NI} {xr : NNI} {xrl : NNL} {o : IV} {pa : LV} (hpa : PastR T dv xb xc xcl xd xe xr xrl o pa now) :
    ok_Db_remember dv w0 w3 w4 ba ca cal da ea rar ral xb xc xcl xd xe xr xrl ∧ ok_Mo_record o now pa ∧
    (∃ (dv' : IV) (xb' xc' : NI) (xcl' : NL) (xd' xe' : NI) (xr' : NNI) (xrl' : NNL), sp_Db_remember dv w0 w3 w4 ba ca cal da ea rar ral xb xc xcl xd xe xr xrl = (dv', xb', xc', xcl', xd', xe', xr', xrl') ∧ PastR T dv' xb' xc' xcl' xd' xe' xr' xrl' (sp_Mo_record o now pa).1 (sp_Mo_record o now pa).2 now) ∧
    (∀ j, j ≠ 5 → (sp_Mo_record o now pa).1 j = o j) := by
  obtain ⟨p, n, hp8, hn8, hd10, hd11, ho5, hrows⟩ := hpa
  -- the class's part
  have hpp : (if dv 10 < (7 : Int32) then dv 10 + 1 else 0) = nI ((p + 1) % 8) := by
    by_cases q : p < 7
    · rw [if_pos (by rw [hd10, show (7 : Int32) = nI 7 from rfl, nzlt (by omega) (by omega)]; exact q), hd10, nzadd1 p (by omega)]; congr 1; omega
    · rw [if_neg (by rw [hd10, show (7 : Int32) = nI 7 from rfl, nzlt (by omega) (by omega)]; exact q), show (p + 1) % 8 = 0 by omega]; rfl
  obtain ⟨oc, ba', ca', cal', da', ea', rar', ral', ec, hbr⟩ := copy_BR (ba := xb ((p + 1) % 8)) (ca := xc ((p + 1) % 8)) (cal := xcl ((p + 1) % 8)) (da := xd ((p + 1) % 8)) (ea := xe ((p + 1) % 8)) (rar := xr ((p + 1) % 8)) (ral := xrl ((p + 1) % 8)) hp h hb
  have e1 : sp_Db_remember dv w0 w3 w4 ba ca cal da ea rar ral xb xc xcl xd xe xr xrl = sp_Db_remember_20 dv xb xc xcl xd xe xr xrl ba ca cal da ea rar ral w0 w3 w4 (nI ((p + 1) % 8)) := by
    unfold sp_Db_remember
    rw [← hpp]
    split <;> rfl
  have o1 : ok_Db_remember_20 dv xb xc xcl xd xe xr xrl ba ca cal da ea rar ral w0 w3 w4 (nI ((p + 1) % 8)) → ok_Db_remember dv w0 w3 w4 ba ca cal da ea rar ral xb xc xcl xd xe xr xrl := fun o => by
    unfold ok_Db_remember
    rw [← hpp] at o
    refine ⟨fun w => ?_, fun w => ?_⟩
    · rw [if_pos w] at o; exact o
    · rw [if_neg w] at o; exact o
  have eat : sp_Db_benchAt (nI ((p + 1) % 8)) = some ((p + 1) % 8) := by
    unfold sp_Db_benchAt
    rw [if_neg (by rw [Int32.lt_iff_toInt_lt, nIz (by omega)]; show ¬ ((p + 1) % 8 : Nat) < (0 : Int); omega), if_neg (by rw [show (8 : Int32) = nI 8 from rfl, nzle (by omega) (by omega)]; omega), cl_nI (by omega)]
  have e2 : sp_Db_remember dv w0 w3 w4 ba ca cal da ea rar ral xb xc xcl xd xe xr xrl = (upd (upd dv 10 (nI ((p + 1) % 8))) 11 (nI (if n = 8 then 8 else n + 1)), fset xb ((p + 1) % 8) ba', fset xc ((p + 1) % 8) ca', fset xcl ((p + 1) % 8) cal', fset xd ((p + 1) % 8) da', fset xe ((p + 1) % 8) ea', fset xr ((p + 1) % 8) rar', fset xrl ((p + 1) % 8) ral') := by
    rw [e1]
    unfold sp_Db_remember_20
    simp only [lettn, us, eat, optt, ec]
    unfold sp_Db_remember_47 sp_Db_remember_68
    simp only [lettn]
    rw [show upd dv 10 (nI ((p + 1) % 8)) 11 = nI n by rw [un (by decide)]; exact hd11]
    by_cases q : n = 8
    · rw [if_pos (by rw [show (8 : Int32) = nI 8 from rfl, nzle (by omega) (by omega)]; omega), if_pos q]; rfl
    · rw [if_neg (by rw [show (8 : Int32) = nI 8 from rfl, nzle (by omega) (by omega)]; omega), if_neg q, nzadd1 n (by omega)]
  have o2 : ok_Db_remember dv w0 w3 w4 ba ca cal da ea rar ral xb xc xcl xd xe xr xrl := o1 (by
    unfold ok_Db_remember_20
    simp only [lettn, us, eat]
    refine ⟨fun w => (nomatch w), fun k4 hk4 => ?_⟩
    cases hk4
    exact ⟨by omega, oc, trivial⟩)
  -- a row of the past that stays, at its bench
  have keep : ∀ (i i' n' : Nat) (pa' : LV), i < n → i' < n' → n' = (if n = 8 then 8 else n + 1) → (p + 8 - (n - 1 - i)) % 8 = ((p + 1) % 8 + 8 - (n' - 1 - i')) % 8 → (p + 8 - (n - 1 - i)) % 8 ≠ (p + 1) % 8 → Same (rowAt pa i) (rowAt pa' i') →
      RowOK T (rowAt pa' i') ∧ PSame now (rowAt pa' i') ∧ BR (fset xb ((p + 1) % 8) ba' (((p + 1) % 8 + 8 - (n' - 1 - i')) % 8)) (fset xc ((p + 1) % 8) ca' (((p + 1) % 8 + 8 - (n' - 1 - i')) % 8)) (fset xcl ((p + 1) % 8) cal' (((p + 1) % 8 + 8 - (n' - 1 - i')) % 8)) (fset xd ((p + 1) % 8) da' (((p + 1) % 8 + 8 - (n' - 1 - i')) % 8)) (fset xe ((p + 1) % 8) ea' (((p + 1) % 8 + 8 - (n' - 1 - i')) % 8)) (fset xr ((p + 1) % 8) rar' (((p + 1) % 8 + 8 - (n' - 1 - i')) % 8)) (fset xrl ((p + 1) % 8) ral' (((p + 1) % 8 + 8 - (n' - 1 - i')) % 8)) (rowAt pa' i') := by
    intro i i' n' pa' hi hi' hn' hidx hne hs
    obtain ⟨a1, a2, a3⟩ := hrows i hi
    rw [← hidx, fs_n hne, fs_n hne, fs_n hne, fs_n hne, fs_n hne, fs_n hne, fs_n hne]
    exact ⟨row_same a1 hs, fun k h1 h2 => by rw [hs k (by omega)]; exact a2 k h1 h2, br_same a1 a3 hs⟩
  have fresh : ∀ (i' n' : Nat) (pa' : LV), i' < n' → n' - 1 - i' = 0 → Same now (rowAt pa' i') →
      RowOK T (rowAt pa' i') ∧ PSame now (rowAt pa' i') ∧ BR (fset xb ((p + 1) % 8) ba' (((p + 1) % 8 + 8 - (n' - 1 - i')) % 8)) (fset xc ((p + 1) % 8) ca' (((p + 1) % 8 + 8 - (n' - 1 - i')) % 8)) (fset xcl ((p + 1) % 8) cal' (((p + 1) % 8 + 8 - (n' - 1 - i')) % 8)) (fset xd ((p + 1) % 8) da' (((p + 1) % 8 + 8 - (n' - 1 - i')) % 8)) (fset xe ((p + 1) % 8) ea' (((p + 1) % 8 + 8 - (n' - 1 - i')) % 8)) (fset xr ((p + 1) % 8) rar' (((p + 1) % 8 + 8 - (n' - 1 - i')) % 8)) (fset xrl ((p + 1) % 8) ral' (((p + 1) % 8 + 8 - (n' - 1 - i')) % 8)) (rowAt pa' i') := by
    intro i' n' pa' hi' h0 hs
    have hi : ((p + 1) % 8 + 8 - (n' - 1 - i')) % 8 = (p + 1) % 8 := by omega
    rw [hi, fs_s, fs_s, fs_s, fs_s, fs_s, fs_s, fs_s]
    exact ⟨row_same h hs, fun k h1 h2 => hs k (by omega), br_same h hbr hs⟩
  by_cases q : n = 8
  · obtain ⟨pa', k1, k2, k3⟩ := rec_loop o now 7 big 1 pa (by omega) (by omega) (by rw [big_eq]; decide)
    have e8 : o 5 = 8 := by rw [ho5, q]; rfl
    have e7 : upd o 5 (o 5 - (1 : Int32)) 5 = nI 7 := by rw [us, e8]; rfl
    obtain ⟨r1, r2, r3, r4⟩ := rec48 (upd o 5 (o 5 - (1 : Int32))) now pa' (n := 7) (by decide) e7
    have em : sp_Mo_record o now pa = sp_Mo_record_48 now (upd o 5 (o 5 - (1 : Int32))) pa' := by
      unfold sp_Mo_record
      rw [if_pos e8, show (1 : Int32) = nI 1 from rfl, k1]
      unfold sp_Mo_record_38; simp only [lettn]; rfl
    have om : ok_Mo_record o now pa := by
      unfold ok_Mo_record
      refine ⟨fun _ => k3 ?_, fun w => absurd e8 w⟩
      unfold ok_Mo_record_38; simp only [lettn]; exact r1
    rw [em]
    refine ⟨o2, om, ⟨_, _, _, _, _, _, _, _, e2, (p + 1) % 8, 8, by omega, by omega, ?_, ?_, ?_, fun i hi => ?_⟩, fun j hj => by rw [r2, un hj, un hj]⟩
    · rw [un (by decide), us]
    · rw [us, if_pos q]
    · rw [r2, us]
    · by_cases q2 : i = 7
      · subst q2; exact fresh 7 8 _ (by decide) (by decide) r3
      · refine keep (i + 1) i 8 _ (by omega) hi (by rw [if_pos q]) (by omega) (by omega) (fun k hk => ?_)
        rw [r4 i hi q2 k hk]
        show pa' (215 * i + k) = pa (215 * (i + 1) + k)
        rw [k2 i k hi hk, if_pos (by omega)]
  · have e8 : ¬ o 5 = 8 := by rw [ho5, show (8 : Int32) = nI 8 from rfl, nzinj (by omega) (by omega)]; exact q
    obtain ⟨r1, r2, r3, r4⟩ := rec48 o now pa (n := n) (by omega) ho5
    have em : sp_Mo_record o now pa = sp_Mo_record_48 now o pa := by unfold sp_Mo_record; rw [if_neg e8]
    have om : ok_Mo_record o now pa := by unfold ok_Mo_record; exact ⟨fun w => absurd w e8, fun _ => r1⟩
    rw [em]
    refine ⟨o2, om, ⟨_, _, _, _, _, _, _, _, e2, (p + 1) % 8, n + 1, by omega, by omega, ?_, ?_, ?_, fun i hi => ?_⟩, fun j hj => by rw [r2, un hj]⟩
    · rw [un (by decide), us]
    · rw [us, if_neg q]
    · rw [r2, us]
    · by_cases q2 : i = n
      · subst q2; exact fresh i (i + 1) _ (by omega) (by omega) r3
      · exact keep i i (n + 1) _ (by omega) hi (by rw [if_neg q]) (by omega) (by omega) (r4 i (by omega) q2)
/-- the most recent operation is undone, on both sides -/
theorem undo_R (hp : PR w0 w1 w2 w3 w4 now) (h : RowOK T now) {ba ca : IV} {cal : LV} {da ea : IV} {rar : NI} {ral : NL} (hb : BR ba ca cal da ea rar ral now) {dv : IV} {xb xc : NI} {xcl : NL} {xd xe : NI} {xr : NNI} {xrl : NNL} {o : IV} {pa : LV} (hpa : PastR T dv xb xc xcl xd xe xr xrl o pa now) :
    ok_Db_undo dv w0 w3 w4 ba ca cal da ea rar ral xb xc xcl xd xe xr xrl ∧ ok_Mo_undo o now pa ∧
    ∃ (v : Int32) (dv' ba' ca' : IV) (cal' : LV) (da' ea' : IV) (rar' : NI) (ral' : NL) (o' : IV) (now' : LV), sp_Db_undo dv w0 w3 w4 ba ca cal da ea rar ral xb xc xcl xd xe xr xrl = (v, dv', ba', ca', cal', da', ea', rar', ral') ∧ sp_Mo_undo o now pa = (v, o', now') ∧
      PSame now now' ∧ RowOK T now' ∧ BR ba' ca' cal' da' ea' rar' ral' now' ∧ PastR T dv' xb xc xcl xd xe xr xrl o' pa now' ∧ (∀ j, j ≠ 5 → j ≠ 6 → o' j = o j) := by
  obtain ⟨p, n, hp8, hn8, hd10, hd11, ho5, hrows⟩ := hpa
  have ho : upd o 6 0 5 = nI n := by rw [un (by decide)]; exact ho5
  by_cases q : n = 0
  · have c1 : dv 11 ≤ 0 := by rw [hd11, q]; decide
    have c2 : upd o 6 0 5 = 0 := by rw [ho, q]; rfl
    refine ⟨?_, ?_, -1, dv, ba, ca, cal, da, ea, rar, ral, upd o 6 0, now, ?_, ?_, ps_rf now, h, hb, ⟨p, n, hp8, hn8, hd10, hd11, ho, hrows⟩, fun j h5 h6 => un h6⟩
    · unfold ok_Db_undo; exact ⟨fun _ => trivial, fun w => absurd c1 w⟩
    · unfold ok_Mo_undo; simp only [lettn]; exact ⟨fun _ => trivial, fun w => absurd c2 w⟩
    · unfold sp_Db_undo; rw [if_pos c1]
    · unfold sp_Mo_undo; simp only [lettn]; rw [if_pos c2]
  · have c1 : ¬ dv 11 ≤ 0 := by rw [hd11, show (0 : Int32) = nI 0 from rfl, nzle (by omega) (by omega)]; omega
    have c2 : ¬ upd o 6 0 5 = 0 := by rw [ho, show (0 : Int32) = nI 0 from rfl, nzinj (by omega) (by omega)]; exact q
    obtain ⟨a1, a2, a3⟩ := hrows (n - 1) (by omega)
    have hidx : (p + 8 - (n - 1 - (n - 1))) % 8 = p := by omega
    rw [hidx] at a3
    have hp2 : PR w0 w1 w2 w3 w4 (rowAt pa (n - 1)) := ps_PR a2 hp
    obtain ⟨oc, ba', ca', cal', da', ea', rar', ral', ec, hbr⟩ := copy_BR (ba := ba) (ca := ca) (cal := cal) (da := da) (ea := ea) (rar := rar) (ral := ral) hp2 a1 a3
    have eat : sp_Db_benchAt (nI p) = some p := by
      unfold sp_Db_benchAt
      rw [if_neg (by rw [Int32.lt_iff_toInt_lt, nIz (by omega)]; show ¬ (p : Int) < 0; omega), if_neg (by rw [show (8 : Int32) = nI 8 from rfl, nzle (by omega) (by omega)]; omega), cl_nI (by omega)]
    have em1 : nI n - (1 : Int32) = nI (n - 1) := nzsub n 1 (by omega) (by omega)
    have hq : (if dv 10 = 0 then (7 : Int32) else dv 10 - 1) = nI ((p + 7) % 8) := by
      by_cases q0 : p = 0
      · subst q0; rw [if_pos (show dv 10 = 0 from hd10)]; rfl
      · rw [if_neg (by rw [hd10, show (0 : Int32) = nI 0 from rfl, nzinj (by omega) (by omega)]; exact q0), hd10, show (1 : Int32) = nI 1 from rfl, nzsub p 1 (by omega) (by omega)]; congr 1; omega
    obtain ⟨g1, g2⟩ := cp_pn_l pa (a := n - 1) (b := 0) (by omega) (by decide) 215 big 0 now (by omega) (by rw [big_eq]; decide)
    have hs : Same (rowAt pa (n - 1)) (sp_Mo_copy_pn_3 (nI 0) pa (nI (n - 1)) big (nI 0) now) := fun k hk => by
      rw [(g2 k).1 (by omega)]; show pa _ = pa _; congr 1
    refine ⟨?_, ?_, nI (n - 1), upd (upd dv 10 (nI ((p + 7) % 8))) 11 (nI (n - 1)), ba', ca', cal', da', ea', rar', ral', upd (upd o 6 0) 5 (nI (n - 1)), sp_Mo_copy_pn_3 (nI 0) pa (nI (n - 1)) big (nI 0) now, ?_, ?_, fun k h1 h2 => by rw [hs k (by omega)]; exact a2 k h1 h2, row_same a1 hs, br_same a1 hbr hs, ⟨(p + 7) % 8, n - 1, by omega, by omega, by rw [un (by decide), us], us, us, fun i hi => ?_⟩, fun j h5 h6 => by rw [un h5, un h6]⟩
    · unfold ok_Db_undo; simp only [lettn]; rw [hd10, eat]
      refine ⟨fun w => absurd w c1, fun _ => ⟨fun w => (nomatch w), fun k3 hk3 => ?_⟩⟩
      cases hk3
      exact ⟨hp8, oc, trivial⟩
    · unfold ok_Mo_undo ok_Mo_copy_pn; simp only [lettn]
      refine ⟨fun w => absurd w c2, fun _ => ⟨?_, trivial⟩⟩
      rw [us, ho, em1]; exact g1
    · unfold sp_Db_undo; rw [if_neg c1]; simp only [lettn]; rw [hd10, eat]; simp only [optt]; rw [ec]
      unfold sp_Db_undo_56; simp only [lettn]
      rw [← hd10]
      have e11 : ∀ v, upd dv 10 v 11 = nI n := fun v => by rw [un (by decide)]; exact hd11
      have goal : ∀ t : Int32, t = nI ((p + 7) % 8) → (upd (upd dv 10 t) 11 (upd dv 10 t 11 - (1 : Int32)) 11, upd (upd dv 10 t) 11 (upd dv 10 t 11 - (1 : Int32)), ba', ca', cal', da', ea', rar', ral') = (nI (n - 1), upd (upd dv 10 (nI ((p + 7) % 8))) 11 (nI (n - 1)), ba', ca', cal', da', ea', rar', ral') := fun t ht => by rw [us, e11, em1, ht]
      by_cases q0 : dv 10 = 0
      · rw [if_pos q0] at hq ⊢; exact goal 7 hq
      · rw [if_neg q0] at hq ⊢; exact goal _ hq
    · unfold sp_Mo_undo sp_Mo_copy_pn; simp only [lettn]; rw [if_neg c2, us, ho, em1]; rfl
    · obtain ⟨b1, b2, b3⟩ := hrows i (by omega)
      have hi2 : ((p + 7) % 8 + 8 - (n - 1 - 1 - i)) % 8 = (p + 8 - (n - 1 - i)) % 8 := by omega
      rw [hi2]
      exact ⟨b1, fun k h1 h2 => by rw [b2 k h1 h2, hs k (by omega)]; exact (a2 k h1 h2).symm, b3⟩
end CT2
