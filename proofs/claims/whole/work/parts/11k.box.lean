section TKK
variable {B : Nat → Nat} {n st : Nat} {t tb o bu : IV} {su d0 d1 d2 d3 d4 tq rT wT : IV} {dr : LV} {X : Nat → Prop}
/-! ===== box ===== -/
theorem drx_c0 (h : DrX X d0 d1 d2 d3 d4 dr) (h0 : X 0) (v : Int32) : DrX X (upd d0 0 v) d1 d2 d3 d4 dr := by
  refine ⟨fun k hk hX => ?_, h.2⟩
  have ne : k ≠ 0 := fun w => hX (by rw [w]; exact h0)
  have o := h.1 k hk hX
  rw [pw_q _ _ _ _ _ k hk] at o ⊢
  have z : pq (upd d0 0 v) d1 d2 d3 d4 (pA k) (pI k) = pq d0 d1 d2 d3 d4 (pA k) (pI k) := by
    by_cases w : pA k = 0
    · have u : pI k ≠ 0 := fun q => ne (pq_inj k hk 0 (by decide) w q)
      rw [w]
      show upd d0 0 v (pI k) = d0 (pI k)
      exact un u
    · unfold pq
      rw [if_neg w, if_neg w]
  rw [z]
  exact o
theorem atS (t : IV) : (sp_Te_atSigned t = 0 ↔ ¬ (t 2 = (48 : Int32) ∨ t 2 = (45 : Int32))) := by
  unfold sp_Te_atSigned sp_Te_atSigned_18
  by_cases q : t 2 = (48 : Int32)
  · rw [if_pos q]
    exact ⟨fun w => absurd w (by decide), fun w => absurd (Or.inl q) w⟩
  · rw [if_neg q]
    by_cases q2 : t 2 = (45 : Int32)
    · rw [if_pos q2]
      exact ⟨fun w => absurd w (by decide), fun w => absurd (Or.inr q2) w⟩
    · rw [if_neg q2]
      exact ⟨fun _ w => w.elim q q2, fun _ => rfl⟩
/-- no more errors of decades -/
theorem box_stop {y2 : IV × IV} (hs : sp_Te_atSigned t = 0) : ∀ m f x, x + m = 4 → 2 ≤ x → m < f → sp_Su_takeBox_44 y2 tb f (nI x) t d0 d1 = (y2.1, t, d0, d1) ∧ ok_Su_takeBox_44 y2 tb f (nI x) t d0 d1
  | m, 0, _, _, _, hf => absurd hf (by omega)
  | 0, f + 1, x, hx, _, _ => by
    have c : (4 : Int32) ≤ nI x := by rw [show (4 : Int32) = nI 4 from rfl, nzle (by omega) (by omega)]; omega
    constructor
    · show bd_Su_takeBox_44 _ _ _ _ _ _ _ = _
      unfold bd_Su_takeBox_44
      rw [if_pos c]
    · show okb_Su_takeBox_44 _ _ _ _ _ _ _ _
      unfold okb_Su_takeBox_44
      exact ⟨fun _ => trivial, fun w => absurd c w⟩
  | m + 1, f + 1, x, hx, h2, hf => by
    have c : ¬ (4 : Int32) ≤ nI x := by rw [show (4 : Int32) = nI 4 from rfl, nzle (by omega) (by omega)]; omega
    have c2 : ¬ nI x < (2 : Int32) := by rw [show (2 : Int32) = nI 2 from rfl, nzlt (by omega) (by omega)]; omega
    obtain ⟨i1, i2⟩ := box_stop (y2 := y2) hs m f (x + 1) (by omega) (by omega) (by omega)
    constructor
    · show bd_Su_takeBox_44 _ _ _ _ _ _ _ = _
      unfold bd_Su_takeBox_44 sp_Su_takeBox_93
      simp only [lettn]
      rw [if_neg c, if_neg c2, hs, if_pos rfl, nzadd1 x (by omega)]
      exact i1
    · show okb_Su_takeBox_44 _ _ _ _ _ _ _ _
      unfold okb_Su_takeBox_44 ok_Su_takeBox_93
      simp only [lettn]
      rw [hs, nzadd1 x (by omega)]
      exact ⟨fun w => absurd w c, fun _ => ⟨fun w => absurd w c2, fun _ => ⟨fun _ => i2, fun w => absurd rfl w⟩⟩⟩
theorem eErr : ∀ k, k < 4 → pA (3 + k) = 1 ∧ pI (3 + k) = k ∧ rLo (3 + k) = -50000 ∧ rHi 0 (3 + k) = 50000 := by decide
theorem setErr {x : Nat} (hx : x < 4) (v : Int32) : sp_Pa_setErrorOfDecade (nI x) v d1 = upd d1 x v := by
  unfold sp_Pa_setErrorOfDecade
  simp only [lettn]
  rw [if_neg (by rw [show (0 : Int32) = nI 0 from rfl, nzlt (by omega) (by omega)]; omega), if_neg (by rw [show (4 : Int32) = nI 4 from rfl, nzle (by omega) (by omega)]; omega), cl_nI (by omega)]
/-- the errors of decades behind the second -/
theorem box_tail (y2c y2m : IV × IV) : ∀ (m f1 f2 x st : Nat) (t o d0 d1 : IV) (dr : LV), x + m = 4 → 2 ≤ x → m < f1 → m < f2 → TX B n st t tb o bu → (t 5 = 0 → DrX X d0 d1 d2 d3 d4 dr) → X 0 → d0 0 = nI x →
    ok_Su_takeBox_44 y2c tb f1 (nI x) t d0 d1 ∧ ok_Mo_readBox_71 y2m bu f2 (nI x) o dr ∧ ∃ st', st ≤ st' ∧ TX B n st' (sp_Su_takeBox_44 y2c tb f1 (nI x) t d0 d1).2.1 tb (sp_Mo_readBox_71 y2m bu f2 (nI x) o dr).1 bu ∧ FrT o (sp_Mo_readBox_71 y2m bu f2 (nI x) o dr).1 ∧
    (sp_Su_takeBox_44 y2c tb f1 (nI x) t d0 d1).1 = y2c.1 ∧ (sp_Mo_readBox_71 y2m bu f2 (nI x) o dr).2.2 = y2m.2 ∧
    ((sp_Su_takeBox_44 y2c tb f1 (nI x) t d0 d1).2.1 5 = 0 → DrX (fun m => X m ∧ m ≠ 0) (sp_Su_takeBox_44 y2c tb f1 (nI x) t d0 d1).2.2.1 (sp_Su_takeBox_44 y2c tb f1 (nI x) t d0 d1).2.2.2 d2 d3 d4 (sp_Mo_readBox_71 y2m bu f2 (nI x) o dr).2.1)
  | m, 0, _, _, _, _, _, _, _, _, _, _, hf, _, _, _, _, _ => absurd hf (by omega)
  | m, _, 0, _, _, _, _, _, _, _, _, _, _, hf, _, _, _, _ => absurd hf (by omega)
  | m, f1 + 1, f2 + 1, x, st, t, o, d0, d1, dr, hx, h2, hf1, hf2, h, hd, hX, h0 => by
    have fin : (t 5 = 0 → DrX (fun m => X m ∧ m ≠ 0) d0 d1 d2 d3 d4 (vp_updL dr 0 (nI x).toInt64)) := fun w => by
      have z := drx0 (hd w) (k := 0) (j := 0) (by decide) rfl rfl (x := nI x) (y := (nI x).toInt64) (Kit.i64_of_i32 _).symm (by
        rw [Kit.i64_of_i32, nIz (by omega)]
        show (2 : Int) ≤ _ ∧ _ ≤ (4 : Int)
        omega)
      rw [upd_at h0] at z
      exact z
    -- the reference stops
    have mstop : (¬ t 5 = 0 ∨ m = 0 ∨ sp_Te_atSigned t = 0) → sp_Mo_readBox_71 y2m bu (f2 + 1) (nI x) o dr = (o, vp_updL dr 0 (nI x).toInt64, y2m.2) ∧ ok_Mo_readBox_71 y2m bu (f2 + 1) (nI x) o dr := fun q => by
      have hz : sp_Mo_good o = 0 ∨ (4 : Int32) ≤ nI x ∨ (t 5 = 0 ∧ ¬ o 11 = 2 ∧ sp_Mo_isSign (45 : Int32) o bu = 0) := by
        by_cases h5 : t 5 = 0
        · rcases q with q | q | q
          · exact absurd h5 q
          · refine Or.inr (Or.inl ?_)
            rw [show (4 : Int32) = nI 4 from rfl, nzle (by omega) (by omega)]; omega
          · have nn := (atS t).mp q
            have k1 := (tx_kind h h5).1
            exact Or.inr (Or.inr ⟨h5, fun w => nn (Or.inl (k1.mp w)), (isSign_TX h (c := 45) (by omega)).2.1.mpr (fun w => nn (Or.inr w))⟩)
        · exact Or.inl (good0 (fun w => h5 ((tx_good h).1.mp w)))
      constructor
      · show bd_Mo_readBox_71 _ _ _ _ _ _ = _
        unfold bd_Mo_readBox_71 sp_Mo_readBox_124
        simp only [lettn]
        rcases hz with z | z | ⟨-, z, z2⟩
        · rw [if_pos z]
        · rw [if_pos z, ite_self]
        · rw [if_neg z, z2, if_pos rfl, ite_self, ite_self]
      · show okb_Mo_readBox_71 _ _ _ _ _ _ _
        unfold okb_Mo_readBox_71
        simp only [lettn]
        refine ⟨fun _ => trivial, fun w => ⟨fun _ => trivial, fun w2 => ⟨fun w3 => ?_, fun w3 => ⟨(isSign_TX h (c := 45) (by omega)).1, fun _ => trivial, fun w4 => ?_⟩⟩⟩⟩
        · rcases hz with z | z | ⟨-, z, z2⟩
          · exact absurd z w
          · exact absurd z w2
          · exact absurd w3 z
        · rcases hz with z | z | ⟨-, z, z2⟩
          · exact absurd z w
          · exact absurd z w2
          · exact absurd z2 w4
    by_cases q : sp_Te_atSigned t = 0
    · obtain ⟨m1, m2⟩ := mstop (Or.inr (Or.inr q))
      obtain ⟨c1, c2⟩ := box_stop (tb := tb) (y2 := y2c) (d0 := d0) (d1 := d1) q m (f1 + 1) x hx h2 hf1
      rw [m1, c1]
      exact ⟨c2, m2, st, Nat.le_refl _, h, frt_rf o, rfl, rfl, fin⟩
    · cases m with
      | zero =>
        obtain ⟨m1, m2⟩ := mstop (Or.inr (Or.inl rfl))
        have c : (4 : Int32) ≤ nI x := by rw [show (4 : Int32) = nI 4 from rfl, nzle (by omega) (by omega)]; omega
        have c1 : sp_Su_takeBox_44 y2c tb (f1 + 1) (nI x) t d0 d1 = (y2c.1, t, d0, d1) := by
          show bd_Su_takeBox_44 _ _ _ _ _ _ _ = _
          unfold bd_Su_takeBox_44
          rw [if_pos c]
        have c2 : ok_Su_takeBox_44 y2c tb (f1 + 1) (nI x) t d0 d1 := by
          show okb_Su_takeBox_44 _ _ _ _ _ _ _ _
          unfold okb_Su_takeBox_44
          exact ⟨fun _ => trivial, fun w => absurd c w⟩
        rw [m1, c1]
        exact ⟨c2, m2, st, Nat.le_refl _, h, frt_rf o, rfl, rfl, fin⟩
      | succ m =>
        have sg : t 2 = (48 : Int32) ∨ t 2 = (45 : Int32) := Decidable.byContradiction fun w => q ((atS t).mpr w)
        have h5 : t 5 = 0 := Decidable.byContradiction fun w => by
          have := tx_err h w
          rw [this] at sg
          exact absurd sg (by decide)
        obtain ⟨e1, e2, e3, e4⟩ := eErr x (by omega)
        obtain ⟨a1, a2, s1, a3, a4, a5, a6, a7⟩ := sgnset1 (d0 := d0) (d1 := d1) (d2 := d2) (d3 := d3) (d4 := d4) h hd (k := 3 + x) (j := x) (by omega) e1 e2 (p1 := -50000) (p2 := 50000) (q1 := -50000) (q2 := 50000) rfl rfl rfl rfl (by decide) (by decide) (by rw [e3, e4]; decide)
        obtain ⟨i1, i2, s2, i3, i4, i5, i6, i7, i8⟩ := box_tail y2c y2m m f1 f2 (x + 1) s1 (sp_Te_number (-50000) 50000 t tb).2 (sp_Mo_signed (-50000) 50000 o bu).2 (upd d0 0 (nI (x + 1))) (upd d1 x (sp_Te_number (-50000) 50000 t tb).1) (vp_updL dr (3 + x) (sp_Mo_signed (-50000) 50000 o bu).1) (by omega) (by omega) (by omega) (by omega) a4 (fun w => drx_c0 (drx_mono (a7 w) fun k _ u => u.1) hX _) hX us
        have c : ¬ (4 : Int32) ≤ nI x := by rw [show (4 : Int32) = nI 4 from rfl, nzle (by omega) (by omega)]; omega
        have c2 : ¬ nI x < (2 : Int32) := by rw [show (2 : Int32) = nI 2 from rfl, nzlt (by omega) (by omega)]; omega
        have e3x : (3 : Int32) + nI x = nI (3 + x) := nzadd 3 x (by omega)
        have eC : sp_Su_takeBox_44 y2c tb (f1 + 1) (nI x) t d0 d1 = sp_Su_takeBox_44 y2c tb f1 (nI (x + 1)) (sp_Te_number (-50000) 50000 t tb).2 (upd d0 0 (nI (x + 1))) (upd d1 x (sp_Te_number (-50000) 50000 t tb).1) := by
          show bd_Su_takeBox_44 _ _ _ _ _ _ _ = _
          unfold bd_Su_takeBox_44 sp_Su_takeBox_64 sp_Su_takeBox_93
          simp only [lettn]
          rw [if_neg c, if_neg c2, if_neg q, nzadd1 x (by omega), setErr (by omega)]
        have oC : ok_Su_takeBox_44 y2c tb (f1 + 1) (nI x) t d0 d1 := by
          show okb_Su_takeBox_44 _ _ _ _ _ _ _ _
          unfold okb_Su_takeBox_44 ok_Su_takeBox_64 ok_Su_takeBox_93
          simp only [lettn]
          rw [nzadd1 x (by omega), setErr (by omega)]
          exact ⟨fun w => absurd w c, fun _ => ⟨fun w => absurd w c2, fun _ => ⟨fun w => absurd w q, fun _ => ⟨a1, i1⟩⟩⟩⟩
        have g1 : ¬ sp_Mo_good o = 0 := by rw [good1 ((tx_good h).1.mpr h5)]; decide
        have k1 := (tx_kind h h5).1
        have s45 := isSign_TX h (c := 45) (by omega)
        have sm : o 11 = 2 ∨ (¬ o 11 = 2 ∧ ¬ sp_Mo_isSign (45 : Int32) o bu = 0) := by
          by_cases w : o 11 = 2
          · exact Or.inl w
          · refine Or.inr ⟨w, fun w2 => ?_⟩
            rcases sg with u | u
            · exact w (k1.mpr u)
            · exact (s45.2.1.mp w2) u
        have eM : sp_Mo_readBox_71 y2m bu (f2 + 1) (nI x) o dr = sp_Mo_readBox_71 y2m bu f2 (nI (x + 1)) (sp_Mo_signed (-50000) 50000 o bu).2 (vp_updL dr (3 + x) (sp_Mo_signed (-50000) 50000 o bu).1) := by
          show bd_Mo_readBox_71 _ _ _ _ _ _ = _
          unfold bd_Mo_readBox_71 sp_Mo_readBox_100
          simp only [lettn]
          rw [if_neg g1, if_neg c, e3x, cl_nI (by omega), nzadd1 x (by omega)]
          rcases sm with u | ⟨u, u2⟩
          · rw [if_pos u]
          · rw [if_neg u, if_neg u2]
        have oM : ok_Mo_readBox_71 y2m bu (f2 + 1) (nI x) o dr := by
          show okb_Mo_readBox_71 _ _ _ _ _ _ _
          unfold okb_Mo_readBox_71 ok_Mo_readBox_100
          simp only [lettn]
          rw [e3x, cl_nI (by omega), nzadd1 x (by omega)]
          exact ⟨fun _ => trivial, fun _ => ⟨fun _ => trivial, fun _ => ⟨fun _ => ⟨a2, vp_nI (by omega) (by decide), i2⟩, fun _ => ⟨s45.1, fun _ => trivial, fun _ => ⟨a2, vp_nI (by omega) (by decide), i2⟩⟩⟩⟩⟩
        rw [eC, eM]
        exact ⟨oC, oM, s2, Nat.le_trans a3 i3, i4, frt_tr a5 i5, i6, i7, i8⟩
/-- one forced error of a decade, in the class's loop -/
theorem box_two {y2 : IV × IV} {f x : Nat} (hx : x < 2) : sp_Su_takeBox_44 y2 tb (f + 1) (nI x) t d0 d1 = sp_Su_takeBox_44 y2 tb f (nI (x + 1)) (sp_Te_number (-50000) 50000 t tb).2 (upd d0 0 (nI (x + 1))) (upd d1 x (sp_Te_number (-50000) 50000 t tb).1) ∧ (ok_Te_number (-50000) 50000 t tb → ok_Su_takeBox_44 y2 tb f (nI (x + 1)) (sp_Te_number (-50000) 50000 t tb).2 (upd d0 0 (nI (x + 1))) (upd d1 x (sp_Te_number (-50000) 50000 t tb).1) → ok_Su_takeBox_44 y2 tb (f + 1) (nI x) t d0 d1) := by
  have c : ¬ (4 : Int32) ≤ nI x := by rw [show (4 : Int32) = nI 4 from rfl, nzle (by omega) (by omega)]; omega
  have c2 : nI x < (2 : Int32) := by rw [show (2 : Int32) = nI 2 from rfl, nzlt (by omega) (by omega)]; omega
  constructor
  · show bd_Su_takeBox_44 _ _ _ _ _ _ _ = _
    unfold bd_Su_takeBox_44 sp_Su_takeBox_64 sp_Su_takeBox_93
    simp only [lettn]
    rw [if_neg c, if_pos c2, nzadd1 x (by omega), setErr (by omega)]
  · intro h1 h2
    show okb_Su_takeBox_44 _ _ _ _ _ _ _ _
    unfold okb_Su_takeBox_44 ok_Su_takeBox_64 ok_Su_takeBox_93
    simp only [lettn]
    rw [nzadd1 x (by omega), setErr (by omega)]
    exact ⟨fun w => absurd w c, fun _ => ⟨fun _ => ⟨h1, h2⟩, fun w => absurd c2 w⟩⟩
theorem st_box (h : SR B n st su t tb d0 d1 d2 d3 d4 o bu tq rT wT dr) :
    ok_Su_takeBox su t tb d0 d1 ∧ ok_Mo_readBox o dr bu tq ∧ ∃ st', st ≤ st' ∧
      SR B n st' (sp_Su_takeBox su t tb d0 d1).1 (sp_Su_takeBox su t tb d0 d1).2.1 tb (sp_Su_takeBox su t tb d0 d1).2.2.1 (sp_Su_takeBox su t tb d0 d1).2.2.2 d2 d3 d4 (sp_Mo_readBox o dr bu tq).1 bu (sp_Mo_readBox o dr bu tq).2.2 rT wT (sp_Mo_readBox o dr bu tq).2.1 ∧ FrT o (sp_Mo_readBox o dr bu tq).1 := by
  obtain ⟨h1, h2, h3⟩ := h
  obtain ⟨a1, a2, s1, a3, a4, a5, a6, a7, a8⟩ := once_TX h1 h2 (i := 0) (by decide) (m := 1) (c := 0) rfl rfl
  have eC0 : sp_Su_takeBox su t tb d0 d1 = sp_Su_takeBox su t tb d0 d1 := rfl
  have eM0 : sp_Mo_readBox o dr bu tq = sp_Mo_readBox o dr bu tq := rfl
  have oC0 : ok_Su_takeBox su t tb d0 d1 ↔ ok_Su_takeBox su t tb d0 d1 := Iff.rfl
  have oM0 : ok_Mo_readBox o dr bu tq ↔ ok_Mo_readBox o dr bu tq := Iff.rfl
  conv at eC0 => rhs; unfold sp_Su_takeBox; simp only [lettn]
  conv at eM0 => rhs; unfold sp_Mo_readBox; simp only [lettn]
  conv at oC0 => rhs; unfold ok_Su_takeBox; simp only [lettn]
  conv at oM0 => rhs; unfold ok_Mo_readBox; simp only [lettn]
  generalize hA : sp_Su_takeOnce 1 su t tb = A at a4 a6 a8 eC0 oC0
  generalize hA' : sp_Mo_once 0 o bu tq = A' at a4 a5 a6 a7 eM0 oM0
  -- LOW
  obtain ⟨b1, b2, s2, b3, b4, b5, ⟨V, v1, v2, v3, v4⟩, b6⟩ := number_TX a4 (p1 := 0) (p2 := 4) (q1 := 0) (q2 := 4) (lo := 0) (hi := 4) rfl rfl rfl rfl (by decide) (by decide)
  have eV : ∃ k : Nat, V = k := ⟨V.toNat, by omega⟩
  obtain ⟨k, rfl⟩ := eV
  generalize hN : sp_Te_number 0 4 A.2 tb = N1 at b4 b6 v3 eC0 oC0
  generalize hN' : sp_Mo_number 0 4 A'.1 bu = N1' at b4 b5 v4 eM0 oM0
  have ek : N1.1 = nI k := nIo v3
  have el : N1'.1.toInt32 = nI k := by
    rw [show N1'.1 = lN k from Int64.toInt_inj.mp (by rw [v4, lNz (by omega)]), ← w_lit k (by omega), wn_id]
  have p1 := p10 k (by omega)
  rw [ek, pa_ten (by omega)] at eC0
  rw [ek, pa_ten (by omega)] at oC0
  rw [el, mo_ten (by omega)] at eM0
  rw [el, mo_ten (by omega)] at oM0
  have hL : N1.2 5 = 0 → DrX (fun m => m = 0 ∨ (m = 12 ∧ tq 1 = 0)) (upd d0 1 (nI (10 ^ k))) d1 d2 d3 d4 (vp_updL dr 1 (lN (10 ^ k))) := fun w => drx_mono (drx0 (h3 (a8 (b6 w).1)) (k := 1) (j := 1) (by decide) rfl rfl (x := nI (10 ^ k)) (y := lN (10 ^ k)) (by rw [nIz (by omega), lNz (by omega)]) (by
    rw [lNz (by omega)]
    show (1 : Int) ≤ _ ∧ _ ≤ (10000 : Int)
    omega)) (fun m _ q => by
    rcases q.1 with ⟨u, -⟩ | u
    · rcases u with u | u
      · exact Or.inl u
      · exact absurd u q.2
    · exact Or.inr u)
  generalize hd1 : upd d0 1 (nI (10 ^ k)) = e0 at hL eC0 oC0
  generalize hdr1 : vp_updL dr 1 (lN (10 ^ k)) = r1 at hL eM0 oM0
  obtain ⟨c1, c2, s3, c3, c4, c5, c6, c7⟩ := numset0 (d1 := d1) (d2 := d2) (d3 := d3) (d4 := d4) b4 hL (k := 2) (j := 2) (by decide) rfl rfl (p1 := 0) (p2 := 999) (q1 := 0) (q2 := 999) rfl rfl rfl rfl (by decide) (by decide) (by decide)
  generalize hN2 : sp_Te_number 0 999 N1.2 tb = N2 at c4 c6 c7 eC0 oC0
  generalize hN2' : sp_Mo_number 0 999 N1'.2 bu = N2' at c4 c5 c7 eM0 oM0
  have hM2 : N2.2 5 = 0 → DrX (fun m => m = 0 ∨ (m = 12 ∧ tq 1 = 0)) (upd (upd e0 2 N2.1) 0 (nI (0 + 1))) d1 d2 d3 d4 (vp_updL r1 2 N2'.1) := fun w => drx_c0 (drx_mono (c7 w) (Y := fun m => m = 0 ∨ (m = 12 ∧ tq 1 = 0)) fun m _ u => u.1) (Or.inl rfl) (nI (0 + 1))
  generalize hdr2 : vp_updL r1 2 N2'.1 = r2 at hM2 eM0 oM0
  generalize hd2 : upd e0 2 N2.1 = e2 at hM2 eC0 oC0
  obtain ⟨f1, f2, s4, f3, f4, f5, f6, f7⟩ := sgnset1 c4 hM2 (k := 3) (j := 0) (by decide) rfl rfl (p1 := -50000) (p2 := 50000) (q1 := -50000) (q2 := 50000) rfl rfl rfl rfl (by decide) (by decide) (by decide)
  have q1 := box_two (tb := tb) (t := N2.2) (d0 := e2) (d1 := d1) (y2 := A) (f := 999999) (x := 0) (by decide)
  generalize hN3 : sp_Te_number (-50000) 50000 N2.2 tb = N3 at f4 f6 f7 q1
  generalize hN3' : sp_Mo_signed (-50000) 50000 N2'.2 bu = N3' at f4 f5 f7 eM0 oM0
  have hM3 : N3.2 5 = 0 → DrX (fun m => m = 0 ∨ (m = 12 ∧ tq 1 = 0)) (upd (upd e2 0 (nI (0 + 1))) 0 (nI (1 + 1))) (upd d1 0 N3.1) d2 d3 d4 (vp_updL r2 3 N3'.1) := fun w => drx_c0 (drx_mono (f7 w) (Y := fun m => m = 0 ∨ (m = 12 ∧ tq 1 = 0)) fun m _ u => u.1) (Or.inl rfl) (nI (1 + 1))
  generalize hdr3 : vp_updL r2 3 N3'.1 = r3 at hM3 eM0 oM0
  obtain ⟨g1, g2, s5, g3, g4, g5, g6, g7⟩ := sgnset1 f4 hM3 (k := 4) (j := 1) (by decide) rfl rfl (p1 := -50000) (p2 := 50000) (q1 := -50000) (q2 := 50000) rfl rfl rfl rfl (by decide) (by decide) (by decide)
  have q2 := box_two (tb := tb) (t := N3.2) (d0 := upd e2 0 (nI (0 + 1))) (d1 := upd d1 0 N3.1) (y2 := A) (f := 999998) (x := 1) (by decide)
  generalize hN4 : sp_Te_number (-50000) 50000 N3.2 tb = N4 at g4 g6 g7 q2
  generalize hN4' : sp_Mo_signed (-50000) 50000 N3'.2 bu = N4' at g4 g5 g7 eM0 oM0
  generalize hdr4 : vp_updL r3 4 N4'.1 = r4 at g7 eM0 oM0
  obtain ⟨j1, j2, s6, j3, j4, j5, j6, j7, j8⟩ := box_tail (X := fun m => m = 0 ∨ (m = 12 ∧ tq 1 = 0)) A A' 2 999998 1000000 2 s5 N4.2 N4'.2 (upd (upd e2 0 (nI (0 + 1))) 0 (nI (1 + 1))) (upd (upd d1 0 N3.1) 1 N4.1) r4 (by decide) (by decide) (by decide) (by decide) g4 (fun w => drx_mono (g7 w) fun m _ u => u.1) (Or.inl rfl) us
  rw [show upd (upd e2 0 (nI (0 + 1))) 0 (nI (1 + 1)) = upd (upd e2 0 (nI (0 + 1))) 0 (nI (1 + 1)) from rfl] at j1
  have oC := q1.2 f1 (q2.2 g1 j1)
  rw [big_eq] at eC0 oC0 eM0 oM0
  have eC := eC0.trans (q1.1.trans q2.1)
  have oC9 := oC0.mpr ⟨a1, b1, pa_ten_o (by omega), c1, oC⟩
  have oM9 := oM0.mpr ⟨a2, b2, mo_ten_o (by omega), c2, f2, g2, j2⟩
  generalize hYc : sp_Su_takeBox_44 A tb 999998 (nI 2) N4.2 (upd (upd e2 0 (nI (0 + 1))) 0 (nI (1 + 1))) (upd (upd d1 0 N3.1) 1 N4.1) = Yc at j4 j6 j8
  generalize hYm : sp_Mo_readBox_71 A' bu 1000000 (nI 2) N4'.2 r4 = Ym at j4 j5 j7 j8
  have eC2 : sp_Su_takeBox su t tb d0 d1 = Yc := eC.trans hYc
  have eM2 : sp_Mo_readBox o dr bu tq = Ym := eM0.trans hYm
  rw [eC2, eM2]
  refine ⟨oC9, oM9, s6, Nat.le_trans a3 (Nat.le_trans b3 (Nat.le_trans c3 (Nat.le_trans f3 (Nat.le_trans g3 j3)))), ⟨j4, ?_, fun w => ?_⟩, frt_tr a5 (frt_tr b5 (frt_tr c5 (frt_tr f5 (frt_tr g5 j5))))⟩
  · rw [j6, j7]; exact a6
  · refine drx_mono (j8 w) fun m _ q => ?_
    rcases q.1 with u | ⟨u, u2⟩
    · exact absurd u q.2
    · exact Or.inr ⟨u, by rw [j7, a7, un (by decide)]; exact u2⟩
end TKK
