section TRG
variable {T : Int} {r : LV} {o w0 w1 w2 w3 w4 ba ca da ea dv : IV} {cal : LV} {rar : NI} {ral : NL} {n : Nat} {p q : Int32}
/-! ===== the small answers ===== -/
theorem nrw {x : Int64} {y : Int32} (h : y.toInt = x.toInt) : x.toInt32 = y := by
  have rg := rg32 y
  exact Int32.toInt_inj.mp (by rw [Kit.i32_of_i64 (by omega) (by omega)]; exact h.symm)
theorem e_n32 {x : Int64} {y : Int32} {X a b c d : Int} (h1 : E64 x X a b) (h2 : E32 y X c d) : x.toInt32 = y := nrw (h2.1.trans h1.1.symm)
theorem errorPosition_Q {t : IV} (h : t 6 = o 13) : sp_Mo_errorPosition o = (sp_Db_errorPosition t, upd o 6 0) := by
  unfold sp_Mo_errorPosition sp_Db_errorPosition
  simp only [lettn]
  rw [un (by decide), h]
/-- size -/
theorem size_v (hp : PR w0 w1 w2 w3 w4 r) (h : RowOK T r) (hb : BC ba ca cal da r) (hr : RR ea rar ral r) (hn : RN r n) (h5 : dv 11 = o 5) : ∀ j, j < 20 → sp_Mo_size (nI j) o r = (sp_Db_size (nI j) dv w0 ba ca ea rar, upd o 6 0) := by
  obtain ⟨hc, hb3, hb4, hb5, _⟩ := hb
  obtain ⟨hci, c6, c9, c10, c11, c12⟩ := hc
  obtain ⟨d1, d2, d3, d4, d5, d6, d7, d8, d9, _⟩ := hci
  have P : ∀ k, k < 27 → k ≠ 22 → (r k).toInt32 = pw w0 w1 w2 w3 w4 k := fun k h1 h2 => nrw (hp k h1 h2)
  obtain ⟨f1, f2, f3, f4, f5⟩ := row_f h
  have ss := (m_setting h).1
  have z31 : (r 31).toInt32 = (if ca 6 = 0 then (0 : Int32) else 1) := by
    refine nrw ?_
    by_cases q : ca 6 = 0
    · rw [if_pos q]
      have := (z32 c6 0 0 rfl).mp q
      show (0 : Int) = zr r 31
      omega
    · rw [if_neg q]
      have b := row_w h 31 0 1 rfl rfl
      have : ¬ zr r 31 = 0 := fun w => q ((z32 c6 0 0 rfl).mpr w)
      show (1 : Int) = zr r 31
      have := b.2
      omega
  obtain ⟨m1, m2⟩ := m_mann hn
  obtain ⟨k1, k2⟩ := c_mann hr hn
  intro j hj
  match j, hj with
  | 0, _ => show (sp_Mo_decades r, upd o 6 0) = (w0 0, upd o 6 0); rw [m_decades h, c_dec hp h]
  | 1, _ => show ((r 1).toInt32, upd o 6 0) = (w0 1, upd o 6 0); rw [P 1 (by decide) (by decide)]; rfl
  | 2, _ => show ((r 2).toInt32, upd o 6 0) = (w0 2, upd o 6 0); rw [P 2 (by decide) (by decide)]; rfl
  | 3, _ => show ((r 22).toInt32, upd o 6 0) = (ca 3, upd o 6 0); rw [nrw d9]
  | 4, _ => show ((r 23).toInt32, upd o 6 0) = (w0 12, upd o 6 0); rw [P 23 (by decide) (by decide)]; rfl
  | 5, _ => show ((r 24).toInt32, upd o 6 0) = (w0 13, upd o 6 0); rw [P 24 (by decide) (by decide)]; rfl
  | 6, _ => show ((r 25).toInt32, upd o 6 0) = (w0 14, upd o 6 0); rw [P 25 (by decide) (by decide)]; rfl
  | 7, _ => show ((r 26).toInt32, upd o 6 0) = (w0 15, upd o 6 0); rw [P 26 (by decide) (by decide)]; rfl
  | 8, _ => show ((r 27).toInt32, upd o 6 0) = (ca 9, upd o 6 0); rw [nrw c9]
  | 9, _ => show ((r 39).toInt32, upd o 6 0) = (ca 10, upd o 6 0); rw [nrw c10]
  | 10, _ => show ((r 29).toInt32, upd o 6 0) = (ca 1, upd o 6 0); rw [nrw (y := ca 1) (by rw [d3, nIz (by omega), f1, lNz (by omega)])]
  | 11, _ => show ((r 30).toInt32, upd o 6 0) = (ca 2, upd o 6 0); rw [nrw (y := ca 2) (by rw [d5, nIz (by omega), f3, lNz (by omega)])]
  | 12, _ => show ((r 31).toInt32, upd o 6 0) = ((if ca 6 = 0 then (0 : Int32) else 1), upd o 6 0); rw [z31]
  | 13, _ => show ((r 32).toInt32, upd o 6 0) = (ca 4, upd o 6 0); rw [nrw d7]
  | 14, _ => show (sp_Mo_setting r, upd o 6 0) = (ca 5, upd o 6 0); rw [Int32.toInt_inj.mp (ss.1.trans d1.symm)]
  | 15, _ => show ((r 41).toInt32, upd o 6 0) = (ba 4, upd o 6 0); rw [nrw hb4]
  | 16, _ => show ((r 42).toInt32, upd o 6 0) = (ba 5, upd o 6 0); rw [nrw hb5]
  | 17, _ => show ((r 54).toInt32, upd o 6 0) = (ea 1, upd o 6 0); rw [nrw hr.1]
  | 18, _ => show (sp_Mo_manners r, upd o 6 0) = (sp_Rs_manners ea rar, upd o 6 0); rw [m1, k1]
  | 19, _ => show (upd o 6 0 5, upd o 6 0) = (dv 11, upd o 6 0); rw [un (by decide), h5]
  | j + 20, hj => exact absurd hj (by omega)
theorem size_om (os : ok_Mo_setting r) (om : ok_Mo_manners r) : ok_Mo_size p o r := by
  unfold ok_Mo_size
  simp only [lettn]
  exact ⟨fun _ => trivial, fun _ => ⟨fun _ => trivial, fun _ => ⟨fun _ => trivial, fun _ => ⟨fun w => by subst w; exact ⟨vp_of (by decide) (by decide), trivial⟩, fun _ => ⟨fun w => by subst w; exact ⟨vp_of (by decide) (by decide), trivial⟩, fun _ => ⟨fun w => by subst w; exact ⟨vp_of (by decide) (by decide), trivial⟩, fun _ => ⟨fun w => by subst w; exact ⟨vp_of (by decide) (by decide), trivial⟩, fun _ => ⟨fun w => by subst w; exact ⟨vp_of (by decide) (by decide), trivial⟩, fun _ => ⟨fun w => by subst w; exact ⟨vp_of (by decide) (by decide), trivial⟩, fun _ => ⟨fun _ => trivial, fun _ => ⟨fun _ => trivial, fun _ => ⟨fun _ => trivial, fun _ => ⟨fun _ => trivial, fun _ => ⟨fun _ => trivial, fun _ => ⟨fun _ => ⟨os, trivial⟩, fun _ => ⟨fun _ => trivial, fun _ => ⟨fun _ => trivial, fun _ => ⟨fun _ => trivial, fun _ => ⟨fun _ => ⟨om, trivial⟩, fun _ => ⟨fun _ => trivial, fun _ => trivial⟩⟩⟩⟩⟩⟩⟩⟩⟩⟩⟩⟩⟩⟩⟩⟩⟩⟩⟩⟩
theorem size_od (om : ok_Rs_manners ea rar) (hc : ok_Db_checkRange p 0 19) : ok_Db_size p ea rar := by
  unfold ok_Db_size
  simp only [lettn]
  exact ⟨hc, ⟨fun _ => trivial, fun _ => ⟨fun _ => trivial, fun _ => ⟨fun _ => trivial, fun _ => ⟨fun _ => trivial, fun _ => ⟨fun _ => trivial, fun _ => ⟨fun _ => trivial, fun _ => ⟨fun _ => trivial, fun _ => ⟨fun _ => trivial, fun _ => ⟨fun _ => trivial, fun _ => ⟨fun _ => trivial, fun _ => ⟨fun _ => trivial, fun _ => ⟨fun _ => trivial, fun _ => ⟨fun _ => trivial, fun _ => ⟨fun _ => trivial, fun _ => ⟨fun _ => trivial, fun _ => ⟨fun _ => trivial, fun _ => ⟨fun _ => trivial, fun _ => ⟨fun _ => trivial, fun _ => ⟨fun _ => ⟨om, trivial⟩, fun _ => trivial⟩⟩⟩⟩⟩⟩⟩⟩⟩⟩⟩⟩⟩⟩⟩⟩⟩⟩⟩⟩
theorem size_Q (hp : PR w0 w1 w2 w3 w4 r) (h : RowOK T r) (hb : BC ba ca cal da r) (hr : RR ea rar ral r) (h5 : dv 11 = o 5) : ok_Mo_size p o r ∧ (
    (ok_Db_checkRange p 0 19 ∧ ok_Db_size p ea rar ∧ sp_Mo_size p o r = (sp_Db_size p dv w0 ba ca ea rar, upd o 6 0)) ∨
    (¬ ok_Db_checkRange p 0 19 ∧ sp_Mo_size p o r = (0, upd o 6 1))) := by
  obtain ⟨n, hn⟩ := row_RN h
  refine ⟨size_om (m_setting h).2 (m_mann hn).2, ?_⟩
  by_cases c : ok_Db_checkRange p 0 19
  · refine Or.inl ⟨c, size_od (c_mann hr hn).2 c, ?_⟩
    obtain ⟨a, b⟩ := chkR.mp c
    obtain ⟨j, rfl, hj⟩ := pex (m := 20) a (by have z : (19 : Int32).toInt = 19 := rfl; omega)
    exact size_v hp h hb hr hn h5 j hj
  · refine Or.inr ⟨c, ?_⟩
    have ne : ∀ j : Nat, j < 20 → ¬ p = nI j := fun j hj w => c (chkR.mpr (by
      rw [w, nIz (by omega)]
      have z : (0 : Int32).toInt = 0 := rfl
      have z2 : (19 : Int32).toInt = 19 := rfl
      omega))
    unfold sp_Mo_size sp_Mo_raise
    simp only [lettn]
    rw [if_neg (show ¬ p = (0 : Int32) from ne 0 (by decide)), if_neg (show ¬ p = (1 : Int32) from ne 1 (by decide)), if_neg (show ¬ p = (2 : Int32) from ne 2 (by decide)), if_neg (show ¬ p = (3 : Int32) from ne 3 (by decide)), if_neg (show ¬ p = (4 : Int32) from ne 4 (by decide)), if_neg (show ¬ p = (5 : Int32) from ne 5 (by decide)), if_neg (show ¬ p = (6 : Int32) from ne 6 (by decide)), if_neg (show ¬ p = (7 : Int32) from ne 7 (by decide)), if_neg (show ¬ p = (8 : Int32) from ne 8 (by decide)), if_neg (show ¬ p = (9 : Int32) from ne 9 (by decide)), if_neg (show ¬ p = (10 : Int32) from ne 10 (by decide)), if_neg (show ¬ p = (11 : Int32) from ne 11 (by decide)), if_neg (show ¬ p = (12 : Int32) from ne 12 (by decide)), if_neg (show ¬ p = (13 : Int32) from ne 13 (by decide)), if_neg (show ¬ p = (14 : Int32) from ne 14 (by decide)), if_neg (show ¬ p = (15 : Int32) from ne 15 (by decide)), if_neg (show ¬ p = (16 : Int32) from ne 16 (by decide)), if_neg (show ¬ p = (17 : Int32) from ne 17 (by decide)), if_neg (show ¬ p = (18 : Int32) from ne 18 (by decide)), if_neg (show ¬ p = (19 : Int32) from ne 19 (by decide)), upd2]
/-- ratio -/
theorem lz32 (k : Nat) (hk : k < 2147483648) : (lN k).toInt32 = nI k := nrw (by rw [nIz hk, lNz (by omega)])
theorem c_errk {k : Nat} (hk : k < 5) : sp_Pa_errorOfKind (nI k) w2 = w2 k := by
  unfold sp_Pa_errorOfKind
  rw [if_neg (by rw [Int32.lt_iff_toInt_lt, nIz (by omega)]; show ¬ (k : Int) < 0; omega), if_neg (by rw [show (5 : Int32) = nI 5 from rfl, nzle (by omega) (by omega)]; omega), cl_nI (by omega)]
theorem c_errd {k : Nat} (hk : k < 4) : sp_Pa_errorOfDecade (nI k) w1 = w1 k := by
  unfold sp_Pa_errorOfDecade
  rw [if_neg (by rw [Int32.lt_iff_toInt_lt, nIz (by omega)]; show ¬ (k : Int) < 0; omega), if_neg (by rw [show (4 : Int32) = nI 4 from rfl, nzle (by omega) (by omega)]; omega), cl_nI (by omega)]
theorem m_isK : ((∃ k : Nat, p = nI k ∧ k < 5) ∧ ¬ sp_Mo_isKind p.toInt64 = 0 ∨ ¬ (0 ≤ p.toInt ∧ p.toInt < 5) ∧ sp_Mo_isKind p.toInt64 = 0) ∧ ok_Mo_isKind p.toInt64 := by
  unfold sp_Mo_isKind ok_Mo_isKind
  simp only [lettn]
  refine ⟨?_, isB_in _ _ _, trivial⟩
  rcases in32 (p := p) 0 4 (a := 0) (b := 4) rfl rfl with ⟨a, b, c⟩ | ⟨a, b⟩
  · exact Or.inl ⟨pex a (m := 5) (by omega), c⟩
  · exact Or.inr ⟨fun w => a ⟨w.1, by omega⟩, b⟩
theorem lI5 : (5 : Int32).toInt = 5 := rfl
theorem ratio_Q (hp : PR w0 w1 w2 w3 w4 r) (h : RowOK T r) : ok_Mo_ratio p q o r ∧ (
    (∃ v, sp_Mo_ratio p q o r = (v, upd o 6 0) ∧ ok_Db_ratio p q ∧ sp_Db_ratio p q w2 = v) ∨
    (¬ ok_Db_checkIndex p 5 ∧ sp_Mo_ratio p q o r = (0, upd o 6 1)) ∨
    (ok_Db_checkIndex p 5 ∧ ¬ ok_Db_checkRange q 0 2 ∧ sp_Mo_ratio p q o r = (0, upd o 6 2))) := by
  obtain ⟨hK, oK⟩ := m_isK (p := p)
  unfold sp_Mo_ratio ok_Mo_ratio sp_Mo_ratio_30 ok_Mo_ratio_30 sp_Mo_ratio_77
  simp only [lettn, o6a]
  rcases hK with ⟨⟨k, rfl, hk⟩, hz⟩ | ⟨hz, hz2⟩
  · have cI : ok_Db_checkIndex (nI k) 5 := chkI.mpr ⟨by rw [nIz (by omega)]; omega, by rw [lI5, nIz (by omega)]; omega⟩
    rcases in32 (p := q) 0 2 (a := 0) (b := 2) rfl rfl with ⟨a, b, c⟩ | ⟨a, b⟩
    · have cR : ok_Db_checkRange q 0 2 := chkR.mpr ⟨a, b⟩
      have nb := nom_bd k hk
      have e1 : (nI k).toInt64 = lN k := w_lit k (by omega)
      have a7 : (7 : Int32) + nI k = nI (7 + k) := nzadd 7 k (by omega)
      obtain ⟨n1, n2⟩ := m_nom hk
      obtain ⟨g1, g2⟩ := m_ohm h hk
      have v2 := (pr_rat hp h k hk).1
      rw [if_neg hz, if_neg c, if_pos (show (0 : Int32) ≤ 0 by decide), e1, n1, a7, cl_nI (by omega), lz32 _ (by omega), e_n32 g1 (c_val hp h hk), nrw (y := w2 k) v2]
      refine ⟨⟨by rw [← e1]; exact oK, fun w => absurd w (by rw [← e1]; exact hz), fun _ => ⟨fun w => absurd w c, fun _ => ⟨fun _ => ⟨fun _ => ⟨n2, trivial⟩, fun _ => ⟨fun _ => ⟨vp_nI (by omega) (by decide), trivial⟩, fun _ => ⟨g2, trivial⟩⟩⟩, fun w => absurd (by decide) w⟩⟩⟩, Or.inl ⟨sp_Db_ratio (nI k) q w2, ?_, ⟨cI, cR, trivial⟩, rfl⟩⟩
      unfold sp_Db_ratio
      simp only [lettn]
      rw [c_nom k hk, c_errk hk]
      by_cases q0 : q = 0
      · rw [if_pos q0, if_pos q0]
      · rw [if_neg q0, if_neg q0]
        by_cases q1 : q = 1
        · rw [if_pos q1, if_pos q1]
        · rw [if_neg q1, if_neg q1]
    · rw [if_neg hz, if_pos b, if_neg (show ¬ (2 : Int32) ≤ 0 by decide)]
      exact ⟨⟨oK, fun w => absurd w hz, fun _ => ⟨fun _ => ⟨fun w => absurd w (by decide), fun _ => trivial⟩, fun w => absurd b w⟩⟩, Or.inr (Or.inr ⟨cI, fun w => a (chkR.mp w), rfl⟩)⟩
  · rw [if_pos hz2, if_neg (show ¬ (1 : Int32) ≤ 0 by decide)]
    exact ⟨⟨oK, fun _ => ⟨fun w => absurd w (by decide), fun _ => trivial⟩, fun w => absurd hz2 w⟩, Or.inr (Or.inl ⟨fun w => hz (by have := chkI.mp w; rw [lI5] at this; exact this), rfl⟩)⟩
/-- one digit of a setting -/
theorem zset_dig (h : RowOK T r) : ∀ k d, d + 1 + k ≤ 4 → (zset r (d + 1 + k) / ((10 ^ k : Nat) : Int)) % 10 = zr r (33 + d)
  | 0, d, hd => by
    have b := (row_dig h (d := d) (by omega)).2
    show (10 * zset r d + zr r (33 + d)) / ((1 : Nat) : Int) % 10 = _
    omega
  | k + 1, d, hd => by
    have b := (row_dig h (d := d + 1 + k) (by omega)).2
    have ih := zset_dig h k d (by omega)
    show (10 * zset r (d + 1 + k) + zr r (33 + (d + 1 + k))) / ((10 ^ k * 10 : Nat) : Int) % 10 = _
    have e : ((10 ^ k * 10 : Nat) : Int) = 10 * ((10 ^ k : Nat) : Int) := by omega
    rw [e, ← Int.ediv_ediv_of_nonneg (by decide), show (10 * zset r (d + 1 + k) + zr r (33 + (d + 1 + k))) / 10 = zset r (d + 1 + k) by omega]
    exact ih
theorem c_digit (hp : PR w0 w1 w2 w3 w4 r) (h : RowOK T r) (h5 : (ca 5).toInt = zS r) {d : Nat} (hd : d < zD r) : (sp_Pa_digitOf (ca 5) (nI d) w0).toInt = zr r (33 + d) ∧ ok_Pa_digitOf (ca 5) (nI d) w0 := by
  have hD := zD_bd h
  have hS := zset_all h
  obtain ⟨w, wo⟩ := c_weight hp h hd
  have hk := p10 (zD r - 1 - d) (by omega)
  have dg := zset_dig h (zD r - 1 - d) d (by omega)
  rw [show d + 1 + (zD r - 1 - d) = zD r by omega] at dg
  have q0 : E32 (nI (10 ^ (zD r - 1 - d))) ((10 ^ (zD r - 1 - d) : Nat) : Int) 1 10000 := pow_nI _ (by omega)
  have n0 : ¬ nI (10 ^ (zD r - 1 - d)) = 0 := fun w => by
    have := (nzinj (b := 0) (by omega) (by omega)).mp w; omega
  have n1 : (1 : Int32) ≤ nI (10 ^ (zD r - 1 - d)) := (nzle (a := 1) (by omega) (by omega)).mpr (by omega)
  unfold sp_Pa_digitOf ok_Pa_digitOf
  simp only [lettn]
  rw [w, if_pos n1]
  have hq : E32 (ca 5 / nI (10 ^ (zD r - 1 - d))) (zS r / ((10 ^ (zD r - 1 - d) : Nat) : Int)) 0 9999 := by
    have d0 : (ca 5 / nI (10 ^ (zD r - 1 - d))).toInt = (zS r).tdiv ((10 ^ (zD r - 1 - d) : Nat) : Int) := by
      rw [Int32.toInt_div_of_ne_right _ _ (by intro w; have := congrArg Int32.toInt w; rw [q0.1] at this; have z : (-1 : Int32).toInt = -1 := rfl; omega), h5, q0.1]
    rw [Int.tdiv_eq_ediv_of_nonneg hS.1] at d0
    refine ⟨d0, Int.ediv_nonneg hS.1 (by omega), ?_⟩
    exact Int.le_trans (Int.ediv_le_self _ hS.1) hS.2.1
  exact ⟨(rem10 hq).1.1.trans dg, wo, fun _ => ⟨n0, trivial⟩, fun w => absurd n1 w⟩
/-- decade -/
theorem m_isD (h : RowOK T r) : (∃ d : Nat, p = nI d ∧ d < zD r) ∧ ¬ sp_Mo_in p.toInt64 0 ((sp_Mo_decades r).toInt64 - (1 : Int64)) = 0 ∨ ¬ (0 ≤ p.toInt ∧ p.toInt < (zD r : Int)) ∧ sp_Mo_in p.toInt64 0 ((sp_Mo_decades r).toInt64 - (1 : Int64)) = 0 := by
  have hD := zD_bd h
  rw [m_decades h]
  have k0 := e64_of32 (show E32 (nI (zD r)) (zD r) 0 20 from ⟨nIz (by omega), by omega, by omega⟩)
  have k := e64_sub k0 (e64_lit 1 (1 : Int64) rfl) (by decide) (by decide)
  rcases in32 (p := p) 0 ((zD r : Int) - 1) (a := 0) rfl k.1 with ⟨a, b, c⟩ | ⟨a, b⟩
  · exact Or.inl ⟨pex a (m := zD r) (by omega), c⟩
  · exact Or.inr ⟨fun w => a ⟨w.1, by omega⟩, b⟩
theorem decade_Q (hp : PR w0 w1 w2 w3 w4 r) (h : RowOK T r) (hc : CirR ca cal r) : ok_Mo_decade p q o r ∧ (
    (∃ v, sp_Mo_decade p q o r = (v, upd o 6 0) ∧ ok_Db_decade p q w0 ca ∧ sp_Db_decade p q w0 w1 ca = v) ∨
    (¬ ok_Db_checkIndex p (w0 0) ∧ sp_Mo_decade p q o r = (0, upd o 6 1)) ∨
    (ok_Db_checkIndex p (w0 0) ∧ ¬ ok_Db_checkRange q 0 2 ∧ sp_Mo_decade p q o r = (0, upd o 6 2))) := by
  have hD := zD_bd h
  have eD : (w0 0).toInt = (zD r : Int) := by rw [c_dec hp h, nIz (by omega)]
  unfold sp_Mo_decade ok_Mo_decade sp_Mo_decade_38 ok_Mo_decade_38 sp_Mo_decade_87
  simp only [lettn, o6a]
  rcases m_isD (p := p) h with ⟨⟨k, rfl, hk⟩, hz⟩ | ⟨hz, hz2⟩
  · have cI : ok_Db_checkIndex (nI k) (w0 0) := chkI.mpr ⟨by rw [nIz (by omega)]; omega, by rw [eD, nIz (by omega)]; omega⟩
    rcases in32 (p := q) 0 2 (a := 0) (b := 2) rfl rfl with ⟨a, b, c⟩ | ⟨a, b⟩
    · have cR : ok_Db_checkRange q 0 2 := chkR.mpr ⟨a, b⟩
      have a3 : (3 : Int32) + nI k = nI (3 + k) := nzadd 3 k (by omega)
      have a33 : (33 : Int32) + nI k = nI (33 + k) := nzadd 33 k (by omega)
      obtain ⟨s1, s2⟩ := m_stepOf h hk
      obtain ⟨t1, t2⟩ := c_stepOf hp h hk
      obtain ⟨g1, g2⟩ := c_digit hp h hc.1.1 hk
      have v1 := (pr_err hp h k (by omega)).1
      rw [if_neg hz, if_neg c, if_pos (show (0 : Int32) ≤ 0 by decide), a3, a33, cl_nI (by omega), cl_nI (by omega), e_n32 s1 t1, nrw (y := w1 k) v1, nrw (y := sp_Pa_digitOf (ca 5) (nI k) w0) g1]
      refine ⟨⟨fun w => absurd w hz, fun _ => ⟨fun w => absurd w c, fun _ => ⟨fun _ => ⟨fun _ => ⟨s2, trivial⟩, fun _ => ⟨fun _ => ⟨vp_nI (by omega) (by decide), trivial⟩, fun _ => ⟨vp_nI (by omega) (by decide), trivial⟩⟩⟩, fun w => absurd (by decide) w⟩⟩⟩, Or.inl ⟨sp_Db_decade (nI k) q w0 w1 ca, ?_, ?_, rfl⟩⟩
      · unfold sp_Db_decade
        simp only [lettn]
        rw [c_errd (by omega)]
        by_cases q0 : q = 0
        · rw [if_pos q0, if_pos q0]
        · rw [if_neg q0, if_neg q0]
          by_cases q1 : q = 1
          · rw [if_pos q1, if_pos q1]
          · rw [if_neg q1, if_neg q1]
      · unfold ok_Db_decade
        simp only [lettn]
        exact ⟨cI, cR, fun _ => ⟨t2, trivial⟩, fun _ => ⟨fun _ => trivial, fun _ => ⟨g2, trivial⟩⟩⟩
    · rw [if_neg hz, if_pos b, if_neg (show ¬ (2 : Int32) ≤ 0 by decide)]
      exact ⟨⟨fun w => absurd w hz, fun _ => ⟨fun _ => ⟨fun w => absurd w (by decide), fun _ => trivial⟩, fun w => absurd b w⟩⟩, Or.inr (Or.inr ⟨cI, fun w => a (chkR.mp w), rfl⟩)⟩
  · rw [if_pos hz2, if_neg (show ¬ (1 : Int32) ≤ 0 by decide)]
    exact ⟨⟨fun _ => ⟨fun w => absurd w (by decide), fun _ => trivial⟩, fun w => absurd hz2 w⟩, Or.inr (Or.inl ⟨fun w => hz (by have := chkI.mp w; rw [eD] at this; exact this), rfl⟩)⟩
/-- lead -/
theorem lead_Q (hp : PR w0 w1 w2 w3 w4 r) : ok_Mo_lead p o r ∧ (
    (∃ v, sp_Mo_lead p o r = (v, upd o 6 0) ∧ ok_Db_lead p ∧ sp_Db_lead p w0 = v) ∨
    (¬ ok_Db_checkIndex p 3 ∧ sp_Mo_lead p o r = (0, upd o 6 1))) := by
  have P : ∀ k, k < 27 → k ≠ 22 → (r k).toInt32 = pw w0 w1 w2 w3 w4 k := fun k h1 h2 => nrw (hp k h1 h2)
  have z3 : (3 : Int32).toInt = 3 := rfl
  unfold sp_Mo_lead ok_Mo_lead sp_Mo_lead_18 ok_Mo_lead_18
  simp only [lettn, o6a]
  rcases in32 (p := p) 0 2 (a := 0) (b := 2) rfl rfl with ⟨a, b, c⟩ | ⟨a, b⟩
  · obtain ⟨k, rfl, hk⟩ := pex a (m := 3) (by omega)
    have cI : ok_Db_checkIndex (nI k) 3 := chkI.mpr ⟨a, by rw [z3]; omega⟩
    have a19 : (19 : Int32) + nI k = nI (19 + k) := nzadd 19 k (by omega)
    rw [if_neg c, if_pos (show (0 : Int32) ≤ 0 by decide), a19, cl_nI (by omega), P (19 + k) (by omega) (by omega)]
    refine ⟨⟨fun w => absurd w c, fun _ => ⟨fun _ => ⟨vp_nI (by omega) (by decide), trivial⟩, fun w => absurd (by decide) w⟩⟩, Or.inl ⟨sp_Db_lead (nI k) w0, ?_, ⟨cI, trivial⟩, rfl⟩⟩
    match k, hk with
    | 0, _ => rfl
    | 1, _ => rfl
    | 2, _ => rfl
  · rw [if_pos b, if_neg (show ¬ (1 : Int32) ≤ 0 by decide)]
    exact ⟨⟨fun _ => ⟨fun w => absurd w (by decide), fun _ => trivial⟩, fun w => absurd b w⟩, Or.inr ⟨fun w => a (by have := chkI.mp w; rw [z3] at this; omega), rfl⟩⟩
/-- coldOf -/
theorem m_isS (h : RowOK T r) : ((0 ≤ p.toInt ∧ p.toInt < ((10 ^ zD r : Nat) : Int)) ∧ ¬ sp_Mo_isSetting p r = 0 ∨ ¬ (0 ≤ p.toInt ∧ p.toInt < ((10 ^ zD r : Nat) : Int)) ∧ sp_Mo_isSetting p r = 0) ∧ ok_Mo_isSetting p r := by
  have hD := zD_bd h
  have hk := p10 (zD r) (by omega)
  obtain ⟨s1, s2⟩ := m_settings h
  unfold sp_Mo_isSetting ok_Mo_isSetting
  simp only [lettn]
  rw [s1]
  refine ⟨?_, s2, isB_in _ _ _, trivial⟩
  have k0 := e64_of32 (pow_nI (zD r) (by omega))
  have k := e64_sub k0 (e64_lit 1 (1 : Int64) rfl) (by decide) (by decide)
  rcases in32 (p := p) 0 (((10 ^ zD r : Nat) : Int) - 1) (a := 0) rfl k.1 with ⟨a, b, c⟩ | ⟨a, b⟩
  · exact Or.inl ⟨⟨a, by omega⟩, c⟩
  · exact Or.inr ⟨fun w => a ⟨w.1, by omega⟩, b⟩
theorem coldOf_Q (hp : PR w0 w1 w2 w3 w4 r) (h : RowOK T r) : ok_Mo_coldOf p o r ∧ ok_Pa_settings w0 ∧ (
    (∃ v, sp_Mo_coldOf p o r = (v, upd o 6 0) ∧ ok_Db_coldOf p w0 w1 ∧ sp_Db_coldOf p w0 w1 = v) ∨
    (¬ ok_Db_checkRange p 0 (sp_Pa_settings w0 - 1) ∧ sp_Mo_coldOf p o r = (0, upd o 6 1))) := by
  have hD := zD_bd h
  have hk := p10 (zD r) (by omega)
  obtain ⟨hS, oS⟩ := m_isS (p := p) h
  obtain ⟨t1, t2⟩ := c_settings hp h
  have t3 : sp_Pa_settings w0 - 1 = nI (10 ^ zD r - 1) := by rw [t1]; exact nzsub _ 1 (by omega) (by omega)
  have t4 : (sp_Pa_settings w0 - 1).toInt = ((10 ^ zD r : Nat) : Int) - 1 := by rw [t3, nIz (by omega)]; omega
  have z0 : (0 : Int32).toInt = 0 := rfl
  have cc : ok_Db_checkRange p 0 (sp_Pa_settings w0 - 1) ↔ 0 ≤ p.toInt ∧ p.toInt < ((10 ^ zD r : Nat) : Int) := by
    rw [chkR, t4, z0]; omega
  unfold sp_Mo_coldOf ok_Mo_coldOf sp_Mo_coldOf_14 ok_Mo_coldOf_14
  simp only [lettn, o6a]
  rcases hS with ⟨a, b⟩ | ⟨a, b⟩
  · have hs : E32 p p.toInt 0 9999 := ⟨rfl, a.1, by omega⟩
    obtain ⟨g1, g2⟩ := m_cold h hs
    obtain ⟨k1, k2⟩ := c_cold hp h hs
    rw [if_neg b, if_pos (show (0 : Int32) ≤ 0 by decide), e_n32 g1 k1]
    refine ⟨⟨oS, fun w => absurd w b, fun _ => ⟨fun _ => ⟨g2, trivial⟩, fun w => absurd (by decide) w⟩⟩, t2, Or.inl ⟨_, rfl, ?_, ?_⟩⟩
    · unfold ok_Db_coldOf
      simp only [lettn]
      exact ⟨t2, cc.mpr a, k2, trivial⟩
    · unfold sp_Db_coldOf
      simp only [lettn]
  · rw [if_pos b, if_neg (show ¬ (1 : Int32) ≤ 0 by decide)]
    exact ⟨⟨oS, fun _ => ⟨fun w => absurd w (by decide), fun _ => trivial⟩, fun w => absurd b w⟩, t2, Or.inr ⟨fun w => a (cc.mp w), rfl⟩⟩
/-- share, deflection, current, power, whyNot, energy -/
theorem share_Q (h : RowOK T r) (hc : CirR ca cal r) : ok_Mo_share p o r ∧ sp_Mo_share p o r = (sp_Db_share p ca, upd o 6 0) := by
  obtain ⟨f1, f2, f3, f4, f5⟩ := row_f h
  obtain ⟨s1, s2⟩ := m_setting h
  obtain ⟨u1, u2⟩ := m_ush h (row_w h 32 2 3 rfl rfl) s1
  have a := m_ash h f2 f4
  rw [← f1, ← f3] at a
  obtain ⟨d1, d2, d3, d4, d5, d6, d7, d8, d9, d10, d11, d12, d13⟩ := hc.1
  unfold sp_Mo_share ok_Mo_share sp_Mo_share_45 sp_Db_share
  simp only [lettn]
  refine ⟨⟨fun _ => ⟨s2, u2, trivial⟩, fun _ => ⟨a.2, trivial⟩⟩, ?_⟩
  by_cases c : p = 0
  · rw [if_pos c, if_pos c, e_n32 u1 (c_share h hc.1)]
  · rw [if_neg c, if_neg c, nrw (y := ca 13) (d12.trans a.1.1.symm)]
theorem deflection_Q (h : RowOK T r) (hc : CirR ca cal r) : ok_Mo_deflection o r ∧ sp_Mo_deflection o r = (sp_Db_deflection ca, upd o 6 0) := by
  obtain ⟨m1, m2⟩ := m_deflNow h
  have k := c_imb h hc.1
  have c6 := hc.2.1
  have t : zr r 31 = 0 ∨ zr r 31 = 1 := b31 h
  have q0 := z32 c6 0 0 rfl
  unfold sp_Mo_deflection ok_Mo_deflection sp_Db_deflection
  simp only [lettn]
  refine ⟨⟨m2, trivial⟩, ?_⟩
  have e : sp_Mo_deflectionNow r = sp_Ci_imbalance ca := by
    refine Int64.toInt_inj.mp ?_
    rw [m1.1, k.1]
    by_cases c : ca 6 = 0
    · have := q0.mp c
      rw [if_pos c, if_neg (by omega)]
    · have : ¬ zr r 31 = 0 := fun w => c (q0.mpr w)
      rw [if_neg c, if_pos (by omega)]
  rw [e]
theorem current_Q (h : RowOK T r) (hc : CirR ca cal r) : ok_Mo_current o r ∧ sp_Mo_current o r = (sp_Db_current ca, upd o 6 0) := by
  obtain ⟨m1, m2⟩ := m_cur h
  have k := c_amp h hc.1
  unfold sp_Mo_current ok_Mo_current sp_Db_current
  simp only [lettn]
  refine ⟨⟨m2, trivial⟩, ?_⟩
  rw [e64_eq m1 k]
theorem power_Q (h : RowOK T r) (hc : CirR ca cal r) : ok_Mo_power p o r ∧ sp_Mo_power p o r = (sp_Db_power p ca, upd o 6 0) := by
  obtain ⟨m1, m2⟩ := m_pow h p
  have k := c_amp h hc.1
  have hS := zset_all h
  have b1 := zuw_bd h
  have b2 := zbw_bd h (S := zS r) ⟨hS.1, hS.2.1⟩
  obtain ⟨d1, d2, d3, d4, d5, d6, d7, d8, d9, d10, d11, d12, d13, d14, d15, d16, d17⟩ := hc.1
  have v1 : E32 (ca 15) (zuw r) 0 720001798 := ⟨d14, by omega, by omega⟩
  have v2 : E32 (ca 16) (zbw r (zS r)) 0 720001798 := ⟨d15, by omega, by omega⟩
  have p1 := c_pw k v1
  have p2 := c_pw k v2
  unfold sp_Mo_power ok_Mo_power sp_Db_power sp_Db_power_27
  simp only [lettn]
  refine ⟨⟨m2, trivial⟩, ?_⟩
  by_cases c : p = 0
  · rw [if_pos c]
    rw [if_pos c] at m1
    rw [e64_eq m1 p1]
  · rw [if_neg c]
    rw [if_neg c] at m1
    rw [e64_eq m1 p2]
theorem whyNot_Q (hp : PR w0 w1 w2 w3 w4 r) (h : RowOK T r) (hc : CirR ca cal r) : ok_Mo_whyNot o r ∧ sp_Mo_whyNot o r = (sp_Db_whyNot w0 ca, upd o 6 0) := by
  obtain ⟨m1, m2⟩ := m_can h
  have k := c_why hp h hc.1
  have b := zwhy_bd r (zS r) (zr r 32)
  have z := z64 (show (r 22).toInt = zr r 22 from rfl) 0 0 rfl
  unfold sp_Mo_whyNot ok_Mo_whyNot sp_Db_whyNot
  simp only [lettn]
  refine ⟨⟨fun _ => trivial, fun _ => ⟨m2, trivial⟩⟩, ?_⟩
  by_cases c : r 22 = 0
  · have e : sp_Ci_whyBlocked ca w0 = 1 := Int32.toInt_inj.mp (by rw [k]; unfold zwhy; rw [if_pos (z.mp c)]; rfl)
    rw [if_pos c, e]
  · have nz : ¬ zr r 22 = 0 := fun w => c (z.mpr w)
    rw [if_neg c]
    by_cases c2 : sp_Mo_canRead r = 0
    · have e : sp_Ci_whyBlocked ca w0 = 2 := Int32.toInt_inj.mp (by
        rw [k]
        have w := m1.mp c2
        unfold zwhy at w ⊢
        rw [if_neg nz] at w ⊢
        by_cases c3 : zamp r (zS r) (zr r 32) ≤ zr r 23
        · rw [if_pos c3] at w; exact absurd rfl w
        · rw [if_neg c3]; rfl)
      rw [if_pos c2, e]
    · have e : sp_Ci_whyBlocked ca w0 = 0 := Int32.toInt_inj.mp (by
        rw [k]
        exact Classical.not_not.mp (fun w => c2 (m1.mpr w)))
      rw [if_neg c2, e]
theorem energy_Q (hc : CirR ca cal r) : sp_Mo_energy o r = (sp_Db_energy cal, upd o 6 0) := by
  obtain ⟨hci, c6, c9, c10, c11, c12⟩ := hc
  unfold sp_Mo_energy sp_Db_energy
  simp only [lettn]
  rw [c12]
/-- part -/
theorem part_Q (hp : PR w0 w1 w2 w3 w4 r) (h : RowOK T r) (hc : CirR ca cal r) : ok_Mo_part p q o r ∧ (
    (∃ v, sp_Mo_part p q o r = (v, upd o 6 0) ∧ ok_Db_part p q ∧ sp_Db_part p q w0 w3 w4 ca = v) ∨
    (¬ ok_Db_checkRange q 0 6 ∧ sp_Mo_part p q o r = (0, upd o 6 1))) := by
  have P : ∀ k, k < 27 → k ≠ 22 → (r k).toInt32 = pw w0 w1 w2 w3 w4 k := fun k h1 h2 => nrw (hp k h1 h2)
  obtain ⟨s1, os⟩ := m_setting h
  obtain ⟨c1, co⟩ := m_cold h s1
  obtain ⟨w1', bw⟩ := m_bw h s1
  have uw := m_uw h
  have us := m_us h (row_w h 32 2 3 rfl rfl)
  obtain ⟨b1, bs⟩ := m_bs h (row_w h 32 2 3 rfl rfl) s1
  obtain ⟨d1, d2, d3, d4, d5, d6, d7, d8, d9, d10, d11, d12, d13, d14, d15, d16, d17⟩ := hc.1
  have e12 : (r 12).toInt32 = w0 5 := P 12 (by decide) (by decide)
  have e13 : (r 13).toInt32 = w3 0 := P 13 (by decide) (by decide)
  have e14 : (r 14).toInt32 = w3 1 := P 14 (by decide) (by decide)
  have e15 : (r 15).toInt32 = w3 2 := P 15 (by decide) (by decide)
  have e16 : (r 16).toInt32 = w4 0 := P 16 (by decide) (by decide)
  have e17 : (r 17).toInt32 = w4 1 := P 17 (by decide) (by decide)
  have e18 : (r 18).toInt32 = w4 2 := P 18 (by decide) (by decide)
  have x14 := nrw (d13.trans c1.1.symm)
  have x15 := nrw (d14.trans uw.1.symm)
  have x16 := nrw (d15.trans w1'.1.symm)
  have x17 := nrw (d16.trans us.1.symm)
  have x18 := nrw (d17.trans b1.1.symm)
  have x7 := nrw d10
  have x8 := nrw d11
  have O : ∀ t : Int32, (t = 13 ∨ t = 16) → ok_Mo_part_16 q p (upd o 6 0) r t := by
    intro t ht
    unfold ok_Mo_part_16 ok_Mo_part_132
    simp only [lettn]
    rcases ht with rfl | rfl
    · exact ⟨fun _ => ⟨fun _ => trivial, fun _ => ⟨os, co, trivial⟩⟩, fun _ => ⟨fun _ => ⟨fun _ => trivial, fun _ => ⟨os, bw, trivial⟩⟩, fun _ => ⟨fun w => by subst w; exact ⟨vp_of (by decide) (by decide), trivial⟩, fun _ => ⟨fun w => by subst w; exact ⟨vp_of (by decide) (by decide), trivial⟩, fun _ => ⟨fun w => by subst w; exact ⟨vp_of (by decide) (by decide), trivial⟩, fun _ => ⟨fun _ => ⟨fun _ => ⟨vp_of (by decide) (by decide), trivial⟩, fun _ => ⟨vp_of (by decide) (by decide), trivial⟩⟩, fun _ => ⟨fun _ => ⟨fun _ => trivial, fun _ => ⟨os, bs, trivial⟩⟩, fun _ => trivial⟩⟩⟩⟩⟩⟩⟩
    · exact ⟨fun _ => ⟨fun _ => trivial, fun _ => ⟨os, co, trivial⟩⟩, fun _ => ⟨fun _ => ⟨fun _ => trivial, fun _ => ⟨os, bw, trivial⟩⟩, fun _ => ⟨fun w => by subst w; exact ⟨vp_of (by decide) (by decide), trivial⟩, fun _ => ⟨fun w => by subst w; exact ⟨vp_of (by decide) (by decide), trivial⟩, fun _ => ⟨fun w => by subst w; exact ⟨vp_of (by decide) (by decide), trivial⟩, fun _ => ⟨fun _ => ⟨fun _ => ⟨vp_of (by decide) (by decide), trivial⟩, fun _ => ⟨vp_of (by decide) (by decide), trivial⟩⟩, fun _ => ⟨fun _ => ⟨fun _ => trivial, fun _ => ⟨os, bs, trivial⟩⟩, fun _ => trivial⟩⟩⟩⟩⟩⟩⟩
  refine ⟨?_, ?_⟩
  · unfold ok_Mo_part
    simp only [lettn]
    exact ⟨fun _ => O 13 (Or.inl rfl), fun _ => O 16 (Or.inr rfl)⟩
  by_cases cR : ok_Db_checkRange q 0 6
  · refine Or.inl ⟨sp_Db_part p q w0 w3 w4 ca, ?_, ⟨cR, trivial⟩, rfl⟩
    obtain ⟨a, b⟩ := chkR.mp cR
    obtain ⟨j, rfl, hj⟩ := pex (m := 7) a (by have z : (6 : Int32).toInt = 6 := rfl; omega)
    unfold sp_Mo_part
    simp only [lettn]
    by_cases c : p = 0
    · rw [if_pos c]
      subst c
      match j, hj with
      | 0, _ => show ((r 12).toInt32, upd o 6 0) = (w0 5, upd o 6 0); rw [e12]
      | 1, _ => show ((sp_Mo_unknownWarm r).toInt32, upd o 6 0) = (ca 15, upd o 6 0); rw [x15]
      | 2, _ => show ((r 13).toInt32, upd o 6 0) = (w3 0, upd o 6 0); rw [e13]
      | 3, _ => show ((r 14).toInt32, upd o 6 0) = (w3 1, upd o 6 0); rw [e14]
      | 4, _ => show ((r 15).toInt32, upd o 6 0) = (w3 2, upd o 6 0); rw [e15]
      | 5, _ => show ((r 37).toInt32, upd o 6 0) = (ca 7, upd o 6 0); rw [x7]
      | 6, _ => show ((sp_Mo_unknownSide (r 32) r).toInt32, upd o 6 0) = (ca 17, upd o 6 0); rw [x17]
    · rw [if_neg c]
      unfold sp_Mo_part_16 sp_Mo_part_82 sp_Mo_part_103 sp_Mo_part_132 sp_Mo_part_168 sp_Db_part sp_Db_part_76 sp_Db_part_95 sp_Db_part_129 sp_Db_part_145
      simp only [lettn, if_neg c]
      match j, hj with
      | 0, _ => show ((sp_Mo_coldBy (sp_Mo_setting r) r).toInt32, upd o 6 0) = (ca 14, upd o 6 0); rw [x14]
      | 1, _ => show ((sp_Mo_boxWarm (sp_Mo_setting r) r).toInt32, upd o 6 0) = (ca 16, upd o 6 0); rw [x16]
      | 2, _ => show ((r 16).toInt32, upd o 6 0) = (w4 0, upd o 6 0); rw [e16]
      | 3, _ => show ((r 17).toInt32, upd o 6 0) = (w4 1, upd o 6 0); rw [e17]
      | 4, _ => show ((r 18).toInt32, upd o 6 0) = (w4 2, upd o 6 0); rw [e18]
      | 5, _ => show ((r 38).toInt32, upd o 6 0) = (ca 8, upd o 6 0); rw [x8]
      | 6, _ => show ((sp_Mo_boxSide (sp_Mo_setting r) (r 32) r).toInt32, upd o 6 0) = (ca 18, upd o 6 0); rw [x18]
  · refine Or.inr ⟨cR, ?_⟩
    have ne : ∀ j : Nat, j < 7 → ¬ q = nI j := fun j hj w => cR (chkR.mpr (by
      rw [w, nIz (by omega)]
      have z : (0 : Int32).toInt = 0 := rfl
      have z2 : (6 : Int32).toInt = 6 := rfl
      omega))
    have N : ∀ t, sp_Mo_part_16 q p (upd o 6 0) r t = (0, upd o 6 1) := by
      intro t
      unfold sp_Mo_part_16 sp_Mo_raise
      simp only [lettn]
      rw [if_neg (show ¬ q = (0 : Int32) from ne 0 (by decide)), if_neg (show ¬ q = (1 : Int32) from ne 1 (by decide)), if_neg (show ¬ q = (2 : Int32) from ne 2 (by decide)), if_neg (show ¬ q = (3 : Int32) from ne 3 (by decide)), if_neg (show ¬ q = (4 : Int32) from ne 4 (by decide)), if_neg (show ¬ q = (5 : Int32) from ne 5 (by decide)), if_neg (show ¬ q = (6 : Int32) from ne 6 (by decide)), upd2]
    unfold sp_Mo_part
    simp only [lettn]
    rw [N, N, ite_self]
end TRG
