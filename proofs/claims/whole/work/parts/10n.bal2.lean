section CQ2
variable {T : Int} {r r' : LV} {w0 w1 w2 w3 w4 : IV}
/-- the bench, by the row -/
def BR (ba ca : IV) (cal : LV) (da ea : IV) (rar : NI) (ral : NL) (r : LV) : Prop := BC ba ca cal da r ∧ RR ea rar ral r
/-- what no operation changes -/
def FrE (r r' : LV) : Prop := ∀ k, (k < 22 ∨ (23 ≤ k ∧ k < 27)) → r' k = r k
theorem fre_ps (h : FrE r r') : PSame r r' := fun k h1 h2 => h k (by omega)
theorem fre_tr {a b c : LV} (h : FrE a b) (h2 : FrE b c) : FrE a c := fun k hk => (h2 k hk).trans (h k hk)
theorem frd_e (h : FrD r r') : FrE r r' := fun k hk => h k (by omega)
/-- how a balance ends, once the reference's loop knows -/
theorem m_end (p : Int32) (f : Nat) (code x : Int32) (r : LV) (hc : ¬ code = 0) : sp_Mo_balanceNow_24 p (f + 1) code x r = sp_Mo_balanceNow_83 r code ∧ (ok_Mo_balanceNow_83 r code → ok_Mo_balanceNow_24 p (f + 1) code x r) := by
  have e49 : sp_Mo_balanceNow_49 code r = sp_Mo_balanceNow_83 r code := by unfold sp_Mo_balanceNow_49; rw [if_neg hc]
  have o49 : ok_Mo_balanceNow_83 r code → ok_Mo_balanceNow_49 code r := fun o => by unfold ok_Mo_balanceNow_49; exact ⟨fun w => absurd w hc, fun _ => o⟩
  constructor
  · show bd_Mo_balanceNow_24 _ _ _ _ _ = _
    unfold bd_Mo_balanceNow_24
    simp only [lettn]
    rw [if_neg hc, e49]
    split <;> rfl
  · intro o
    show okb_Mo_balanceNow_24 _ _ _ _ _ _
    unfold okb_Mo_balanceNow_24
    simp only [lettn]
    exact ⟨fun _ => o49 o, fun _ => ⟨fun w => absurd w hc, fun _ => o49 o⟩⟩
theorem m_83 (r : LV) (code : Int32) {c : Int} (hc : code.toInt = c) : (2 < c → sp_Mo_balanceNow_83 r code = (code, r) ∧ ok_Mo_balanceNow_83 r code) ∧ (c ≤ 2 → sp_Mo_balanceNow_83 r code = (code, sp_Mo_addResult code r) ∧ (ok_Mo_addResult code r → ok_Mo_balanceNow_83 r code)) := by
  have e : (2 : Int32) < code ↔ 2 < c := by rw [Int32.lt_iff_toInt_lt, hc]; exact Iff.rfl
  unfold sp_Mo_balanceNow_83 ok_Mo_balanceNow_83
  simp only [lettn]
  refine ⟨fun h => ?_, fun h => ?_⟩
  · rw [if_pos (e.mpr h)]; exact ⟨rfl, fun _ => trivial, fun w => absurd (e.mpr h) w⟩
  · have n : ¬ (2 : Int32) < code := fun w => by have := e.mp w; omega
    rw [if_neg n]; exact ⟨rfl, fun o => ⟨fun w => absurd w n, fun _ => ⟨o, trivial⟩⟩⟩
theorem bal_outer {p : Int32} {ea : IV} {rar : NI} {ral : NL} :
    ∀ (n f1 f2 d : Nat) (T : Int) (r : LV) (ba ca : IV) (cal : LV) (da : IV), PR w0 w1 w2 w3 w4 r → RowOK T r → T + 36 * n ≤ 600000000 → d + n = zD r → (∀ e, d ≤ e → e < zD r → zr r (33 + e) = 0) → n < f1 → n + 1 < f2 → BR ba ca cal da ea rar ral r →
    ok_Be_seekBalance_10 w0 ea rar ral w2 w1 w3 w4 p f1 (nI d) ba ca cal da ∧ ok_Mo_balanceNow_24 p f2 0 (nI d) r ∧ RowOK (T + 36 * n) (sp_Mo_balanceNow_24 p f2 0 (nI d) r).2 ∧ FrE r (sp_Mo_balanceNow_24 p f2 0 (nI d) r).2 ∧ (sp_Mo_balanceNow_24 p f2 0 (nI d) r).2 22 = r 22 ∧
    (1 ≤ (sp_Mo_balanceNow_24 p f2 0 (nI d) r).1.toInt ∧ (sp_Mo_balanceNow_24 p f2 0 (nI d) r).1.toInt ≤ 5) ∧ (sp_Be_seekBalance_10 w0 ea rar ral w2 w1 w3 w4 p f1 (nI d) ba ca cal da).1 = (sp_Mo_balanceNow_24 p f2 0 (nI d) r).1 ∧
    ∃ (ba' ca' : IV) (cal' : LV) (da' ea' : IV) (rar' : NI) (ral' : NL), (sp_Be_seekBalance_10 w0 ea rar ral w2 w1 w3 w4 p f1 (nI d) ba ca cal da).2 = (ba', ca', cal', da', ea', rar', ral') ∧ BR ba' ca' cal' da' ea' rar' ral' (sp_Mo_balanceNow_24 p f2 0 (nI d) r).2
  | n, 0, _, _, _, _, _, _, _, _, _, _, _, _, _, hf, _, _ => absurd hf (by omega)
  | n, f1 + 1, 0, _, _, _, _, _, _, _, _, _, _, _, _, _, hf, _ => absurd hf (by omega)
  | 0, f1 + 1, f2 + 1, d, T, r, ba, ca, cal, da, hp, h, hT, hd, hz, _, _, hb => by
    have hD := zD_bd h
    have c1 : w0 0 ≤ nI d := by rw [c_dec hp h, nzle (by omega) (by omega)]; omega
    have c2 : sp_Mo_decades r ≤ nI d := by rw [m_decades h, nzle (by omega) (by omega)]; omega
    obtain ⟨s1, s2⟩ := c_settings hp h
    obtain ⟨s3, s4⟩ := m_settings h
    obtain ⟨m1, m2⟩ := m_setting h
    have hpw : (10 : Nat) ^ zD r ≤ 10000 ∧ 100 ≤ (10 : Nat) ^ zD r := (show ∀ k, k < 3 → (10 : Nat) ^ (k + 2) ≤ 10000 ∧ 100 ≤ (10 : Nat) ^ (k + 2) by decide) (zD r - 2) (by omega) |> fun w => by rw [show zD r - 2 + 2 = zD r by omega] at w; exact w
    have es : nI (10 ^ zD r) - (1 : Int32) = nI (10 ^ zD r - 1) := by rw [show (1 : Int32) = nI 1 from rfl, nzsub _ _ (by omega) (by omega)]
    have hS := hb.1.1.1.1
    have x1 : ca 5 = nI (10 ^ zD r - 1) ↔ zset r (zD r) = (10 ^ zD r - 1 : Nat) := z32 hS _ _ (nIz (by omega))
    have x2 : ca 5 = 0 ↔ zset r (zD r) = 0 := z32 hS 0 0 rfl
    have x3 : sp_Mo_setting r = nI (10 ^ zD r - 1) ↔ zset r (zD r) = (10 ^ zD r - 1 : Nat) := z32 m1.1 _ _ (nIz (by omega))
    have x4 : sp_Mo_setting r = 0 ↔ zset r (zD r) = 0 := z32 m1.1 0 0 rfl
    -- the reference's end
    have mend : ∀ c : Int32, (zset r (zD r) = 0 ∧ c = 4 ∨ ¬ zset r (zD r) = 0 ∧ zset r (zD r) = (10 ^ zD r - 1 : Nat) ∧ c = 3 ∨ ¬ zset r (zD r) = 0 ∧ ¬ zset r (zD r) = (10 ^ zD r - 1 : Nat) ∧ c = 2) → sp_Mo_balanceNow_24 p (f2 + 1) 0 (nI d) r = sp_Mo_balanceNow_83 r c ∧ (ok_Mo_balanceNow_83 r c → ok_Mo_balanceNow_24 p (f2 + 1) 0 (nI d) r) := by
      intro c hc
      show bd_Mo_balanceNow_24 _ _ _ _ _ = _ ∧ (_ → okb_Mo_balanceNow_24 _ _ _ _ _ _)
      unfold bd_Mo_balanceNow_24 okb_Mo_balanceNow_24 sp_Mo_balanceNow_49 ok_Mo_balanceNow_49 sp_Mo_balanceNow_82 ok_Mo_balanceNow_82
      simp only [lettn]
      rw [if_pos c2, if_pos trivial, s3, es]
      rcases hc with ⟨q, rfl⟩ | ⟨q, q2, rfl⟩ | ⟨q, q2, rfl⟩
      · rw [if_pos (x4.mpr q)]
        exact ⟨rfl, fun o => ⟨fun _ => ⟨fun _ => ⟨m2, fun _ => o, fun w => absurd (x4.mpr q) w⟩, fun w => absurd trivial w⟩, fun w => absurd c2 w⟩⟩
      · have n1 : ¬ sp_Mo_setting r = 0 := fun w => q (x4.mp w)
        rw [if_neg n1, if_pos (x3.mpr q2)]
        exact ⟨rfl, fun o => ⟨fun _ => ⟨fun _ => ⟨m2, fun w => absurd w n1, fun _ => ⟨s4, fun _ => o, fun w => absurd (x3.mpr q2) w⟩⟩, fun w => absurd trivial w⟩, fun w => absurd c2 w⟩⟩
      · have n1 : ¬ sp_Mo_setting r = 0 := fun w => q (x4.mp w)
        have n2 : ¬ sp_Mo_setting r = nI (10 ^ zD r - 1) := fun w => q2 (x3.mp w)
        rw [if_neg n1, if_neg n2]
        exact ⟨rfl, fun o => ⟨fun _ => ⟨fun _ => ⟨m2, fun w => absurd w n1, fun _ => ⟨s4, fun w => absurd w n2, fun _ => o⟩⟩, fun w => absurd trivial w⟩, fun w => absurd c2 w⟩⟩
    have ec : sp_Be_seekBalance_10 w0 ea rar ral w2 w1 w3 w4 p (f1 + 1) (nI d) ba ca cal da = sp_Be_seekBalance_149 w0 ca ba cal da ea rar ral w2 := by
      show bd_Be_seekBalance_10 _ _ _ _ _ _ _ _ _ _ _ _ _ _ _ = _
      unfold bd_Be_seekBalance_10
      rw [if_pos c1]
    have oc : ok_Be_seekBalance_149 w0 ca ba cal da ea rar ral w2 → ok_Be_seekBalance_10 w0 ea rar ral w2 w1 w3 w4 p (f1 + 1) (nI d) ba ca cal da := fun o => by
      show okb_Be_seekBalance_10 _ _ _ _ _ _ _ _ _ _ _ _ _ _ _ _
      unfold okb_Be_seekBalance_10
      exact ⟨fun _ => o, fun w => absurd c1 w⟩
    rw [ec]
    by_cases q : zset r (zD r) = 0
    · obtain ⟨e1, e2⟩ := mend 4 (Or.inl ⟨q, rfl⟩)
      obtain ⟨e3, e4⟩ := (m_83 r 4 (c := 4) rfl).1 (by decide)
      rw [e1, e3]
      have n1 : ¬ ca 5 = nI (10 ^ zD r - 1) := fun w => by have := x1.mp w; omega
      refine ⟨oc ?_, e2 e4, row_mono h (by omega), fun _ _ => rfl, rfl, (by first | exact (show (1 : Int) ≤ 4 ∧ (4 : Int) ≤ 5 by decide) | exact (show (1 : Int) ≤ 3 ∧ (3 : Int) ≤ 5 by decide)), ?_, ba, ca, cal, da, ea, rar, ral, ?_, hb⟩
      · unfold ok_Be_seekBalance_149
        simp only [lettn]
        rw [s1, es]
        exact ⟨s2, fun w => absurd w n1, fun _ => ⟨fun _ => trivial, fun w => absurd (x2.mpr q) w⟩⟩
      · unfold sp_Be_seekBalance_149
        simp only [lettn]
        rw [s1, es, if_neg n1, if_pos (x2.mpr q)]
      · unfold sp_Be_seekBalance_149
        simp only [lettn]
        rw [s1, es, if_neg n1, if_pos (x2.mpr q)]
    · have nn : ¬ ca 5 = 0 := fun w => q (x2.mp w)
      by_cases q2 : zset r (zD r) = (10 ^ zD r - 1 : Nat)
      · obtain ⟨e1, e2⟩ := mend 3 (Or.inr (Or.inl ⟨q, q2, rfl⟩))
        obtain ⟨e3, e4⟩ := (m_83 r 3 (c := 3) rfl).1 (by decide)
        rw [e1, e3]
        refine ⟨oc ?_, e2 e4, row_mono h (by omega), fun _ _ => rfl, rfl, (by first | exact (show (1 : Int) ≤ 4 ∧ (4 : Int) ≤ 5 by decide) | exact (show (1 : Int) ≤ 3 ∧ (3 : Int) ≤ 5 by decide)), ?_, ba, ca, cal, da, ea, rar, ral, ?_, hb⟩
        · unfold ok_Be_seekBalance_149
          simp only [lettn]
          rw [s1, es]
          exact ⟨s2, fun _ => trivial, fun w => absurd (x1.mpr q2) w⟩
        · unfold sp_Be_seekBalance_149
          simp only [lettn]
          rw [s1, es, if_pos (x1.mpr q2)]
        · unfold sp_Be_seekBalance_149
          simp only [lettn]
          rw [s1, es, if_pos (x1.mpr q2)]
      · obtain ⟨e1, e2⟩ := mend 2 (Or.inr (Or.inr ⟨q, q2, rfl⟩))
        obtain ⟨e3, e4⟩ := (m_83 r 2 (c := 2) rfl).2 (by decide)
        have n1 : ¬ ca 5 = nI (10 ^ zD r - 1) := fun w => q2 (x1.mp w)
        obtain ⟨a1, a2, a3, a4, a5⟩ := add_RR hp h hb.1.1 hb.2 (p := 2) (how := 2) rfl (Or.inr rfl)
        rw [e1, e3]
        have bc : BC ba ca cal da (sp_Mo_addResult 2 r) := by
          obtain ⟨⟨hci, h6, h9, h10, h11, h12⟩, b3, b4, b5, bd⟩ := hb.1
          have ps : PSame r (sp_Mo_addResult 2 r) := fun k hk _ => a5 k (by omega)
          have e := ci_ps hci ps hD.2.1 (a5 22 (by decide)) (a5 37 (by decide)) (a5 38 (by decide))
          have eS : zset (sp_Mo_addResult 2 r) (zD (sp_Mo_addResult 2 r)) = zset r (zD r) := zS_cong (a5 0 (by decide)) (fun d hd => a5 (33 + d) (by omega)) hD.2.1
          have ef : zf (sp_Mo_addResult 2 r) = zf r := by unfold zf zr; rw [a5 29 (by decide)]
          have eg : zg (sp_Mo_addResult 2 r) = zg r := by unfold zg zr; rw [a5 30 (by decide)]
          refine ⟨⟨?_, ?_, ?_, ?_, ?_, ?_⟩, ?_, ?_, ?_, fun k hk hk2 => ?_⟩
          · show CiR ca _ (zset _ (zD _)) _ _ _
            rw [eS, ef, eg, zr, a5 32 (by decide)]; exact e
          · rw [h6, zr, zr, a5 31 (by decide)]
          · rw [h9, zr, zr, a5 27 (by decide)]
          · rw [h10, zr, zr, a5 39 (by decide)]
          · rw [h11, zr, zr, a5 28 (by decide)]
          · rw [h12, a5 40 (by decide)]
          · rw [b3, zr, zr, a5 43 (by decide)]
          · rw [b4, zr, zr, a5 41 (by decide)]
          · rw [b5, zr, zr, a5 42 (by decide)]
          · rw [zr, a5 43 (by decide)] at hk2
            rw [bd k hk hk2, zr, zr, a5 (44 + k) (by omega)]
        refine ⟨oc ?_, e2 (e4 a2), row_mono a4 (by omega), fun k hk => a5 k (by omega), a5 22 (by decide), (show (1 : Int) ≤ 2 ∧ (2 : Int) ≤ 5 by decide), ?_, ba, ca, cal, da, (sp_Rs_add 2 ea rar ral ca w0 w2).1, (sp_Rs_add 2 ea rar ral ca w0 w2).2.1, (sp_Rs_add 2 ea rar ral ca w0 w2).2.2, ?_, bc, a3⟩
        · unfold ok_Be_seekBalance_149
          simp only [lettn]
          rw [s1, es]
          exact ⟨s2, fun w => absurd w n1, fun _ => ⟨fun w => absurd w nn, fun _ => ⟨a1, trivial⟩⟩⟩
        · unfold sp_Be_seekBalance_149
          simp only [lettn]
          rw [s1, es, if_neg n1, if_neg nn]
        · unfold sp_Be_seekBalance_149
          simp only [lettn]
          rw [s1, es, if_neg n1, if_neg nn]
  | n + 1, f1 + 1, f2 + 1, d, T, r, ba, ca, cal, da, hp, h, hT, hd, hz, hf1, hf2, hb => by
    have hD := zD_bd h
    have c1 : ¬ w0 0 ≤ nI d := by rw [c_dec hp h, nzle (by omega) (by omega)]; omega
    have c2 : ¬ sp_Mo_decades r ≤ nI d := by rw [m_decades h, nzle (by omega) (by omega)]; omega
    obtain ⟨t1, t2⟩ := c_weight hp h (d := d) (by omega)
    obtain ⟨i1, i2, i3, i4, ba', ca', cal', da', i5, i6⟩ := bal_inner (w1 := w1) (w2 := w2) (p := p) (ea := ea) (rar := rar) (ral := ral) (y5 := sp_Pa_weightOf (nI d) w0) (d := d) (sp_Be_seekBalance_10 w0 ea rar ral w2 w1 w3 w4 p f1) (ok_Be_seekBalance_10 w0 ea rar ral w2 w1 w3 w4 p f1) 9 big big T r ba ca cal da hp h (by omega) (by omega) t1 (by rw [hz d (by omega) (by omega)]; rfl) (by omega) (by rw [big_eq]; decide) (by rw [big_eq]; decide) hb.1
    rw [show nI (10 - 9) = (1 : Int32) from rfl] at i6
    have ec : sp_Be_seekBalance_10 w0 ea rar ral w2 w1 w3 w4 p (f1 + 1) (nI d) ba ca cal da = sp_Be_seekBalance_33 (nI d) (sp_Pa_weightOf (nI d) w0) w0 w1 w3 w4 p ea rar ral w2 (sp_Be_seekBalance_10 w0 ea rar ral w2 w1 w3 w4 p f1) big 1 ba ca cal da := by
      show bd_Be_seekBalance_10 _ _ _ _ _ _ _ _ _ _ _ _ _ _ _ = _
      unfold bd_Be_seekBalance_10
      rw [if_neg c1]
      simp only [lettn]
    have oc : ok_Be_seekBalance_33 (nI d) (sp_Pa_weightOf (nI d) w0) w0 w1 w3 w4 p ea rar ral w2 (sp_Be_seekBalance_10 w0 ea rar ral w2 w1 w3 w4 p f1) (ok_Be_seekBalance_10 w0 ea rar ral w2 w1 w3 w4 p f1) big 1 ba ca cal da → ok_Be_seekBalance_10 w0 ea rar ral w2 w1 w3 w4 p (f1 + 1) (nI d) ba ca cal da := fun o => by
      show okb_Be_seekBalance_10 _ _ _ _ _ _ _ _ _ _ _ _ _ _ _ _
      unfold okb_Be_seekBalance_10
      simp only [lettn]
      exact ⟨fun w => absurd w c1, fun _ => ⟨t2, o⟩⟩
    have em : sp_Mo_balanceNow_24 p (f2 + 1) 0 (nI d) r = sp_Mo_balanceNow_24 p f2 (sp_Mo_balanceDecade_0 (nI d) p big r).1 (nI (d + 1)) (sp_Mo_balanceDecade_0 (nI d) p big r).2 := by
      show bd_Mo_balanceNow_24 _ _ _ _ _ = _
      unfold bd_Mo_balanceNow_24 sp_Mo_balanceDecade
      simp only [lettn]
      rw [if_neg c2, if_pos trivial, nzadd1 d (by omega)]
    have om : ok_Mo_balanceNow_24 p f2 (sp_Mo_balanceDecade_0 (nI d) p big r).1 (nI (d + 1)) (sp_Mo_balanceDecade_0 (nI d) p big r).2 → ok_Mo_balanceNow_24 p (f2 + 1) 0 (nI d) r := fun o => by
      show okb_Mo_balanceNow_24 _ _ _ _ _ _
      unfold okb_Mo_balanceNow_24 ok_Mo_balanceDecade sp_Mo_balanceDecade
      simp only [lettn]
      rw [nzadd1 d (by omega)]
      exact ⟨fun w => absurd w c2, fun _ => ⟨fun _ => ⟨i1, o⟩, fun w => absurd trivial w⟩⟩
    generalize hR : sp_Mo_balanceDecade_0 (nI d) p big r = R at i2 i3 i4 i5 i6 em om
    have hp' := ps_PR (frd_ps i3) hp
    have rr' := rr_same hb.2 (fun k hk => i3 k (by omega))
    obtain ⟨g2, rfl⟩ : ∃ g2, f2 = g2 + 1 := ⟨f2 - 1, by omega⟩
    rw [ec, em]
    rcases i6 with ⟨a, b, c⟩ | ⟨a, b, c⟩ | ⟨a, v, b, c⟩
    · rw [b, a]
      rw [a] at om
      have D' : zD R.2 = zD r := frd_D i3
      obtain ⟨j1, j2, j3, j4, j5, j6, j7, j8⟩ := bal_outer n f1 (g2 + 1) (d + 1) (T + 36) R.2 ba' ca' cal' da' hp' i2 (by omega) (by rw [D']; omega) (fun e h1 h2 => by
        rw [zr, i4 e (by rw [D'] at h2; omega) (by omega)]; exact hz e (by omega) (by rw [D'] at h2; omega)) (by omega) (by omega) ⟨i5, rr'⟩
      have e143 : sp_Be_seekBalance_143 (nI d) (sp_Be_seekBalance_10 w0 ea rar ral w2 w1 w3 w4 p f1) ba' ca' cal' da' = sp_Be_seekBalance_10 w0 ea rar ral w2 w1 w3 w4 p f1 (nI (d + 1)) ba' ca' cal' da' := by
        unfold sp_Be_seekBalance_143; simp only [lettn]; rw [nzadd1 d (by omega)]
      rw [e143]
      refine ⟨oc (c ?_), om j2, row_mono j3 (by omega), fre_tr (frd_e i3) j4, by rw [j5, i3 22 (by omega)], j6, j7, j8⟩
      unfold ok_Be_seekBalance_143
      simp only [lettn]
      rw [nzadd1 d (by omega)]
      exact j1
    · obtain ⟨e1, e2⟩ := m_end p g2 5 (nI (d + 1)) R.2 (by decide)
      obtain ⟨e3, e4⟩ := (m_83 R.2 5 (c := 5) rfl).1 (by decide)
      rw [a] at om ⊢
      rw [e1, e3, b]
      exact ⟨oc c, om (e2 e4), row_mono i2 (by omega), frd_e i3, i3 22 (by omega), (show (1 : Int) ≤ 5 ∧ (5 : Int) ≤ 5 by decide), rfl, ba', ca', cal', da', ea, rar, ral, rfl, i5, rr'⟩
    · obtain ⟨e1, e2⟩ := m_end p g2 1 (nI (d + 1)) R.2 (by decide)
      obtain ⟨e3, e4⟩ := (m_83 R.2 1 (c := 1) rfl).2 (by decide)
      obtain ⟨a1, a2, a3, a4, a5⟩ := add_RR hp' i2 i5.1 rr' (p := 1) (how := 1) rfl (Or.inl rfl)
      rw [a] at om ⊢
      rw [e1, e3, b]
      have hD' := (zD_bd i2).2.1
      have bc : BC ba' ca' cal' da' (sp_Mo_addResult 1 R.2) := by
        obtain ⟨⟨hci, h6, h9, h10, h11, h12⟩, b3, b4, b5, bd⟩ := i5
        have ps : PSame R.2 (sp_Mo_addResult 1 R.2) := fun k hk _ => a5 k (by omega)
        have e := ci_ps hci ps hD' (a5 22 (by decide)) (a5 37 (by decide)) (a5 38 (by decide))
        have eS : zset (sp_Mo_addResult 1 R.2) (zD (sp_Mo_addResult 1 R.2)) = zset R.2 (zD R.2) := zS_cong (a5 0 (by decide)) (fun d hd => a5 (33 + d) (by omega)) hD'
        have ef : zf (sp_Mo_addResult 1 R.2) = zf R.2 := by unfold zf zr; rw [a5 29 (by decide)]
        have eg : zg (sp_Mo_addResult 1 R.2) = zg R.2 := by unfold zg zr; rw [a5 30 (by decide)]
        refine ⟨⟨?_, ?_, ?_, ?_, ?_, ?_⟩, ?_, ?_, ?_, fun k hk hk2 => ?_⟩
        · show CiR ca' _ (zset _ (zD _)) _ _ _
          rw [eS, ef, eg, zr, a5 32 (by decide)]; exact e
        · rw [h6, zr, zr, a5 31 (by decide)]
        · rw [h9, zr, zr, a5 27 (by decide)]
        · rw [h10, zr, zr, a5 39 (by decide)]
        · rw [h11, zr, zr, a5 28 (by decide)]
        · rw [h12, a5 40 (by decide)]
        · rw [b3, zr, zr, a5 43 (by decide)]
        · rw [b4, zr, zr, a5 41 (by decide)]
        · rw [b5, zr, zr, a5 42 (by decide)]
        · rw [zr, a5 43 (by decide)] at hk2
          rw [bd k hk hk2, zr, zr, a5 (44 + k) (by omega)]
      have e84 : sp_Be_seekBalance_84 ea rar ral (v, ba', ca', cal', da') w0 w2 = (1, ba', ca', cal', da', (sp_Rs_add 1 ea rar ral ca' w0 w2).1, (sp_Rs_add 1 ea rar ral ca' w0 w2).2.1, (sp_Rs_add 1 ea rar ral ca' w0 w2).2.2) := by
        unfold sp_Be_seekBalance_84; simp only [lettn]
      rw [e84]
      refine ⟨oc (c ?_), om (e2 (e4 a2)), row_mono a4 (by omega), fre_tr (frd_e i3) (fun k hk => a5 k (by omega)), (a5 22 (by decide)).trans (i3 22 (by omega)), (show (1 : Int) ≤ 1 ∧ (1 : Int) ≤ 5 by decide), rfl, _, _, _, _, _, _, _, rfl, bc, a3⟩
      unfold ok_Be_seekBalance_84
      exact ⟨a1, trivial⟩
/-- a balance -/
theorem bal_BR (hp : PR w0 w1 w2 w3 w4 r) (h : RowOK T r) (hT : T ≤ 500000000) {ba ca : IV} {cal : LV} {da ea : IV} {rar : NI} {ral : NL} (hb : BR ba ca cal da ea rar ral r) (h22 : ¬ zr r 22 = 0) (p : Int32) :
    ok_Be_seekBalance p ba ca cal da ea rar ral w0 w1 w2 w3 w4 ∧ ok_Mo_balanceNow p r ∧ RowOK (T + 144) (sp_Mo_balanceNow p r).2 ∧ FrE r (sp_Mo_balanceNow p r).2 ∧
    (1 ≤ (sp_Mo_balanceNow p r).1.toInt ∧ (sp_Mo_balanceNow p r).1.toInt ≤ 5) ∧ (sp_Be_seekBalance p ba ca cal da ea rar ral w0 w1 w2 w3 w4).1 = (sp_Mo_balanceNow p r).1 ∧
    ∃ (ba' ca' : IV) (cal' : LV) (da' ea' : IV) (rar' : NI) (ral' : NL), (sp_Be_seekBalance p ba ca cal da ea rar ral w0 w1 w2 w3 w4).2 = (ba', ca', cal', da', ea', rar', ral') ∧ BR ba' ca' cal' da' ea' rar' ral' (sp_Mo_balanceNow p r).2 := by
  have hD := zD_bd h
  have hne : ¬ r 22 = 0 := fun w => h22 ((z64 (show (r 22).toInt = zr r 22 from rfl) 0 0 rfl).mp w)
  obtain ⟨l1, l2, l3, l4, l5⟩ := m_lay h (s := 0) (S := 0) ⟨rfl, by decide, by decide⟩ (by have := p10 (zD r) (by omega); omega)
  obtain ⟨d1, d2⟩ := bc_dial hp h hb.1 (r' := sp_Mo_laySetting 0 r) l2 (s := 0) ⟨by rw [l5]; rfl, by rw [l5]; decide, by rw [l5]; decide⟩
  have D' : zD (sp_Mo_laySetting 0 r) = zD r := ps_D l4
  -- all digits are 0
  have zero : ∀ n, n ≤ 4 → zset (sp_Mo_laySetting 0 r) n = 0 → ∀ e, e < n → zr (sp_Mo_laySetting 0 r) (33 + e) = 0 := by
    intro n
    induction n with
    | zero => intro _ _ e he; exact absurd he (by omega)
    | succ n ih =>
      intro hn hz e he
      have b1 := zset_bd l3 n (by omega)
      have b2 := (row_dig l3 (d := n) (by omega)).2
      simp only [zset] at hz
      by_cases q : e = n
      · subst q; omega
      · exact ih (by omega) (by omega) e (by omega)
  obtain ⟨j1, j2, j3, j4, j5, j6, j7, j8⟩ := bal_outer (w1 := w1) (w2 := w2) (p := p) (zD r) big big 0 T (sp_Mo_laySetting 0 r) ba _ cal da (ps_PR l4 hp) l3 (by omega) (by rw [D']; omega) (fun e _ h2 => zero (zD r) hD.2.1 l5 e (by rw [D'] at h2; exact h2)) (by rw [big_eq]; omega) (by rw [big_eq]; omega) ⟨d1, rr_same hb.2 (fun k hk => l2 k (by omega))⟩
  unfold sp_Be_seekBalance ok_Be_seekBalance sp_Mo_balanceNow ok_Mo_balanceNow
  simp only [lettn]
  rw [if_neg hne]
  refine ⟨⟨d2, j1⟩, ⟨fun w => absurd w hne, fun _ => ⟨l1, j2⟩⟩, row_mono j3 (by omega), fre_tr (fun k hk => l2 k (by omega)) j4, j6, j7, j8⟩
end CQ2
