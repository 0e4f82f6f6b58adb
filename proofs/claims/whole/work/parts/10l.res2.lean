section CP2
variable {T : Int} {r r' : LV} {w0 w1 w2 w3 w4 : IV}
/-- the results of a bench, by the row -/
def RR (ea : IV) (rar : NI) (ral : NL) (r : LV) : Prop := (ea 1).toInt = zr r 54 ∧ ∀ i : Nat, i < 20 → (i : Int) < zr r 54 → (∀ j : Nat, j < 6 → (rar i j).toInt = zr r (55 + 8 * i + j)) ∧ (∀ j : Nat, 6 ≤ j → j < 8 → ral i j = r (55 + 8 * i + j))
theorem rr_same {ea : IV} {rar : NI} {ral : NL} (h : RR ea rar ral r) (h2 : ∀ k, 54 ≤ k → r' k = r k) : RR ea rar ral r' := by
  refine ⟨by rw [h.1, zr, zr, h2 54 (by omega)], fun i hi hz => ?_⟩
  rw [zr, h2 54 (by omega)] at hz
  obtain ⟨a, b⟩ := h.2 i hi hz
  exact ⟨fun j hj => by rw [a j hj, zr, zr, h2 _ (by omega)], fun j h6 h8 => by rw [b j h6 h8, h2 _ (by omega)]⟩
theorem at_some {ea : IV} {n i : Nat} (h : ea 1 = nI n) (hn : n ≤ 20) (hi : i < n) : sp_Rs_at (nI i) ea = some i := by
  unfold sp_Rs_at
  rw [if_neg (by rw [Int32.lt_iff_toInt_lt, nIz (by omega)]; show ¬ (i : Int) < 0; omega), if_neg (by rw [h, nzle (by omega) (by omega)]; omega), if_neg (by rw [show (20 : Int32) = nI 20 from rfl, nzle (by omega) (by omega)]; omega), cl_nI (by omega)]
theorem c_add52 {ca ea : IV} {p : Int32} {rr : NI} {rl : NL} {i : Nat} (h : ea 1 = nI (i + 1)) (hi : i < 20) :
    ∃ (rr' : NI) (rl' : NL), sp_Rs_add_52 ca p w0 w2 ea rr rl = (ea, rr', rl') ∧ (∀ j, j ≠ i → rr' j = rr j ∧ rl' j = rl j) ∧ rr' i 0 = ca 1 ∧ rr' i 1 = ca 2 ∧ rr' i 2 = ca 4 ∧ rr' i 3 = ca 5 ∧ rr' i 4 = ca 10 ∧ rr' i 5 = p ∧ rl' i 6 = sp_Ci_toldValue ca w0 ∧ rl' i 7 = sp_Ci_correctedValue ca w0 w2 ∧ ok_Rs_add_52 ca p w0 w2 ea rr rl := by
  have e : ea 1 - (1 : Int32) = nI i := by rw [h, show (1 : Int32) = nI 1 from rfl, nzsub _ _ (by omega) (by omega)]; congr 1
  unfold sp_Rs_add_52 ok_Rs_add_52
  simp only [lettn]
  rw [e, at_some h (by omega) (by omega)]
  refine ⟨_, _, rfl, fun j hj => ?_, ?_, ?_, ?_, ?_, ?_, ?_, ?_, ?_, fun w => ?_, fun k hk => ?_⟩
  · constructor
    · simp only [fs_n hj]
    · simp only [fs_n hj]
  · simp only [fs_s]; rfl
  · simp only [fs_s]; rfl
  · simp only [fs_s]; rfl
  · simp only [fs_s]; rfl
  · simp only [fs_s]; rfl
  · simp only [fs_s]; rfl
  · simp only [fs_s]; rfl
  · simp only [fs_s]; rfl
  · cases w
  · cases hk; exact ⟨hi, trivial⟩
/-- both rows are shifted -/
theorem c_shiftR {ca ea : IV} {p : Int32} (h : ea 1 = nI 20) : ∀ (n f x : Nat) (rr : NI) (rl : NL), x + n = 19 → n < f → ∃ (rr' : NI) (rl' : NL), sp_Rs_add_24 ea ca p w0 w2 f (nI x) rr rl = sp_Rs_add_52 ca p w0 w2 ea rr' rl' ∧ (∀ i j, x ≤ i → i < 19 → j < 6 → rr' i j = rr (i + 1) j) ∧ (∀ i j, x ≤ i → i < 19 → 6 ≤ j → j < 8 → rl' i j = rl (i + 1) j) ∧ (∀ i, i < x ∨ 19 ≤ i → rr' i = rr i ∧ rl' i = rl i) ∧ (ok_Rs_add_52 ca p w0 w2 ea rr' rl' → ok_Rs_add_24 ea ca p w0 w2 f (nI x) rr rl)
  | n, 0, _, _, _, _, hf => absurd hf (by omega)
  | 0, f + 1, x, rr, rl, hx, _ => by
    have hc : ea 1 ≤ nI x + (1 : Int32) := by rw [h, nzadd1 x (by omega), nzle (by omega) (by omega)]; omega
    refine ⟨rr, rl, ?_, fun i j h1 h2 _ => absurd h2 (by omega), fun i j h1 h2 _ _ => absurd h2 (by omega), fun i _ => ⟨rfl, rfl⟩, fun o => ?_⟩
    · show bd_Rs_add_24 _ _ _ _ _ _ _ _ _ = _
      unfold bd_Rs_add_24
      rw [if_pos hc]
    · show okb_Rs_add_24 _ _ _ _ _ _ _ _ _ _
      unfold okb_Rs_add_24
      exact ⟨fun _ => o, fun w => absurd hc w⟩
  | n + 1, f + 1, x, rr, rl, hx, hf => by
    have hc : ¬ ea 1 ≤ nI x + (1 : Int32) := by rw [h, nzadd1 x (by omega), nzle (by omega) (by omega)]; omega
    have e1 : sp_Rs_at (nI (x + 1)) ea = some (x + 1) := at_some h (by omega) (by omega)
    have e0 : sp_Rs_at (nI x) ea = some x := at_some h (by omega) (by omega)
    have ne : x + 1 ≠ x := by omega
    -- the row copied
    obtain ⟨rr1, rl1, hcp, k1, k2, k3⟩ : ∃ (rr1 : NI) (rl1 : NL), sp_Rs_copyRow1 (some (x + 1)) (nI x) ea rr rl = (rr1, rl1) ∧ (∀ j, j < 6 → rr1 x j = rr (x + 1) j) ∧ (∀ j, 6 ≤ j → j < 8 → rl1 x j = rl (x + 1) j) ∧ (∀ i, i ≠ x → rr1 i = rr i ∧ rl1 i = rl i) := by
      unfold sp_Rs_copyRow1 sp_Rt_copy1
      simp only [lettn, e0, optt]
      refine ⟨_, _, rfl, fun j hj => ?_, fun j h6 h8 => ?_, fun i hi => ?_⟩
      · simp only [fs_s, fs_n ne]
        match j, hj with
        | 0, _ => rfl
        | 1, _ => rfl
        | 2, _ => rfl
        | 3, _ => rfl
        | 4, _ => rfl
        | 5, _ => rfl
        | j + 6, q => exact absurd q (by omega)
      · simp only [fs_s, fs_n ne]
        match j, h6, h8 with
        | 6, _, _ => rfl
        | 7, _, _ => rfl
        | j + 8, _, q => exact absurd q (by omega)
      · constructor
        · simp only [fs_n hi]
        · simp only [fs_n hi]
    obtain ⟨rr2, rl2, g1, g2, g3, g4, g5⟩ := c_shiftR h n f (x + 1) rr1 rl1 (by omega) (by omega)
    refine ⟨rr2, rl2, ?_, fun i j h1 h2 h3 => ?_, fun i j h1 h2 h3 h4 => ?_, fun i hi => ?_, fun o => ?_⟩
    · show bd_Rs_add_24 _ _ _ _ _ _ _ _ _ = _
      unfold bd_Rs_add_24
      rw [if_neg hc]
      simp only [lettn]
      rw [nzadd1 x (by omega), e1, hcp]
      exact g1
    · by_cases q : i = x
      · subst q; rw [(g4 i (by omega)).1, k1 j h3]
      · rw [g2 i j (by omega) h2 h3, (k3 (i + 1) (by omega)).1]
    · by_cases q : i = x
      · subst q; rw [(g4 i (by omega)).2, k2 j h3 h4]
      · rw [g3 i j (by omega) h2 h3 h4, (k3 (i + 1) (by omega)).2]
    · rw [(g4 i (by omega)).1, (g4 i (by omega)).2]; exact k3 i (by omega)
    · show okb_Rs_add_24 _ _ _ _ _ _ _ _ _ _
      unfold okb_Rs_add_24
      refine ⟨fun w => absurd w hc, fun _ => ?_⟩
      simp only [lettn]
      rw [nzadd1 x (by omega), e1, hcp]
      refine ⟨?_, g5 o⟩
      unfold ok_Rs_copyRow1 ok_Rt_copy1
      simp only [lettn, e0]
      refine ⟨fun w => (nomatch w), fun k2 hk2 => ⟨fun w => (nomatch w), fun k3 hk3 => ?_⟩⟩
      cases hk2; cases hk3
      exact ⟨⟨by omega, by omega, trivial⟩, by omega, trivial⟩
theorem m_shiftR {p : Int32} : ∀ (n f x : Nat) (r : LV), x + n = 207 → 55 ≤ x → n < f → ∃ r' : LV, sp_Mo_addResult_17 p f (nI x) r = sp_Mo_addResult_45 r' p ∧ (∀ k, r' k = if x ≤ k ∧ k < 207 then r (k + 8) else r k) ∧ (ok_Mo_addResult_45 r' p → ok_Mo_addResult_17 p f (nI x) r)
  | n, 0, _, _, _, _, hf => absurd hf (by omega)
  | 0, f + 1, x, r, hx, _, _ => by
    have hc : (207 : Int32) ≤ nI x := by rw [show (207 : Int32) = nI 207 from rfl, nzle (by omega) (by omega)]; omega
    refine ⟨r, ?_, fun k => by rw [if_neg (by omega)], fun o => ?_⟩
    · show bd_Mo_addResult_17 _ _ _ _ = _
      unfold bd_Mo_addResult_17
      rw [if_pos hc]
    · show okb_Mo_addResult_17 _ _ _ _ _
      unfold okb_Mo_addResult_17
      exact ⟨fun _ => o, fun w => absurd hc w⟩
  | n + 1, f + 1, x, r, hx, h55, hf => by
    have hc : ¬ (207 : Int32) ≤ nI x := by rw [show (207 : Int32) = nI 207 from rfl, nzle (by omega) (by omega)]; omega
    have e8 : nI x + (8 : Int32) = nI (x + 8) := nzadd x 8 (by omega)
    obtain ⟨r2, g1, g2, g3⟩ := m_shiftR (p := p) n f (x + 1) (vp_updL r x (r (x + 8))) (by omega) (by omega) (by omega)
    refine ⟨r2, ?_, fun k => ?_, fun o => ?_⟩
    · show bd_Mo_addResult_17 _ _ _ _ = _
      unfold bd_Mo_addResult_17
      rw [if_neg hc]
      simp only [lettn]
      rw [e8, cl_nI (by omega), cl_nI (by omega), nzadd1 x (by omega)]
      exact g1
    · rw [g2 k]
      by_cases q : k = x
      · subst q; rw [if_neg (by omega), if_pos (by omega), uLs]
      · by_cases q2 : x + 1 ≤ k ∧ k < 207
        · rw [if_pos q2, if_pos (by omega), uLn (by omega)]
        · rw [if_neg q2, if_neg (by omega), uLn q]
    · show okb_Mo_addResult_17 _ _ _ _ _
      unfold okb_Mo_addResult_17
      refine ⟨fun w => absurd w hc, fun _ => ?_⟩
      simp only [lettn]
      rw [e8, cl_nI (by omega), cl_nI (by omega), nzadd1 x (by omega)]
      exact ⟨vp_nI (by omega) (by decide), vp_nI (by omega) (by decide), g3 o⟩
/-- a result comes, on both sides -/
theorem add_RR (hp : PR w0 w1 w2 w3 w4 r) (h : RowOK T r) {ca : IV} {cal : LV} (hc : CirR ca cal r) {ea : IV} {rar : NI} {ral : NL} (hr : RR ea rar ral r) {p : Int32} {how : Int} (hp2 : p.toInt = how) (hh : how = 1 ∨ how = 2) :
    ok_Rs_add p ea rar ral ca w0 w2 ∧ ok_Mo_addResult p r ∧ RR (sp_Rs_add p ea rar ral ca w0 w2).1 (sp_Rs_add p ea rar ral ca w0 w2).2.1 (sp_Rs_add p ea rar ral ca w0 w2).2.2 (sp_Mo_addResult p r) ∧ RowOK T (sp_Mo_addResult p r) ∧ (∀ k, k < 54 → sp_Mo_addResult p r k = r k) := by
  have b54 := row_w h 54 0 20 rfl rfl
  obtain ⟨hci, h6, h9, h10, h11, h12⟩ := hc
  have hcc := hci
  obtain ⟨c1, c2, c3, c4, c5, c6, c7, c8, c9, c10, c11, c12, c13, c14, c15, c16, c17⟩ := hci
  -- what the new row is, on both sides
  have new : ∀ (i : Nat) (s : LV) (ea' : IV) (rr : NI) (rl : NL), i < 20 → RowOK T s → zr s 54 = i → (∀ k, k < 54 → s k = r k) → ea' 1 = nI (i + 1) →
      (∀ a : Nat, a < i → (∀ j : Nat, j < 6 → (rr a j).toInt = zr s (55 + 8 * a + j)) ∧ (∀ j : Nat, 6 ≤ j → j < 8 → rl a j = s (55 + 8 * a + j))) →
      ok_Rs_add_52 ca p w0 w2 ea' rr rl ∧ ok_Mo_addResult_56 p s ∧ RR (sp_Rs_add_52 ca p w0 w2 ea' rr rl).1 (sp_Rs_add_52 ca p w0 w2 ea' rr rl).2.1 (sp_Rs_add_52 ca p w0 w2 ea' rr rl).2.2 (sp_Mo_addResult_56 p s) ∧ RowOK T (sp_Mo_addResult_56 p s) ∧ (∀ k, k < 54 → sp_Mo_addResult_56 p s k = r k) := by
    intro i s ea' rr rl hi hs hz hsr he hold
    obtain ⟨rr', rl', g0, g1, g2, g3, g4, g5, g6, g7, g8, g9, g10⟩ := c_add52 (w0 := w0) (w2 := w2) (ca := ca) (p := p) (rr := rr) (rl := rl) he hi
    obtain ⟨⟨m1, m2, m3, m4, m5, m6, m7, m8, m9, m10⟩, mk, mo⟩ := m_add56 hs hz hi hp2 hh
    have hD := (zD_bd h).2.1
    have ps : PSame r s := fun k hk _ => hsr k (by omega)
    have eS : zset s (zD s) = zset r (zD r) := zS_cong (hsr 0 (by omega)) (fun d hd => hsr (33 + d) (by omega)) hD
    have ef : zf s = zf r := by unfold zf zr; rw [hsr 29 (by omega)]
    have eg : zg s = zg r := by unfold zg zr; rw [hsr 30 (by omega)]
    rw [g0]
    refine ⟨g10, mo, ⟨?_, fun a ha hza => ?_⟩, mk, fun k hk => by rw [m1 k (by omega) (by omega), hsr k hk]⟩
    · show (ea' 1).toInt = _; rw [m2, he, nIz (by omega)]; rfl
    · rw [m2] at hza
      by_cases q : a = i
      · subst q
        refine ⟨fun j hj => ?_, fun j j6 j8 => ?_⟩
        · match j, hj with
          | 0, _ => show (rr' a 0).toInt = _; rw [zr, g2, m3, c3, nIz (by omega), hsr 29 (by omega)]; have := (row_w h 29 0 4 rfl rfl).2; show ((zr r 29).toNat : Int) = zr r 29; omega
          | 1, _ => show (rr' a 1).toInt = _; rw [zr, g3, m4, c5, nIz (by omega), hsr 30 (by omega)]; have := (row_w h 30 0 4 rfl rfl).2; show ((zr r 30).toNat : Int) = zr r 30; omega
          | 2, _ => show (rr' a 2).toInt = _; rw [zr, g4, m5, c7, hsr 32 (by omega)]
          | 3, _ => exact (show (rr' a 3).toInt = zr (sp_Mo_addResult_56 p s) (55 + 8 * a + 3) by rw [g5, m6, c1]; exact eS.symm)
          | 4, _ => show (rr' a 4).toInt = _; rw [zr, g6, m7, h10, hsr 39 (by omega)]
          | 5, _ => exact (show (rr' a 5).toInt = zr (sp_Mo_addResult_56 p s) (55 + 8 * a + 5) by rw [g7, m8, hp2])
          | j + 6, q => exact absurd q (by omega)
        · match j, j6, j8 with
          | 6, _, _ =>
            apply Int64.toInt_inj.mp
            show (rl' a 6).toInt = zr (sp_Mo_addResult_56 p s) (55 + 8 * a + 6)
            rw [g8, m9, (c_told hp h hcc).1, ef, eg]
            show ztold r (zset r (zD r)) _ _ = ztold s (zset s (zD s)) _ _
            rw [eS]; unfold ztold zr; rw [hsr 1 (by omega)]
          | 7, _, _ =>
            apply Int64.toInt_inj.mp
            show (rl' a 7).toInt = zr (sp_Mo_addResult_56 p s) (55 + 8 * a + 7)
            rw [g9, m10, (c_corr hp h hcc).1, ef, eg]
            show zcorr r (zset r (zD r)) _ _ _ = zcorr s (zset s (zD s)) _ _ _
            rw [eS, ps_corr ps hD _ _ c4 c6, zr, zr, hsr 32 (by omega)]
          | j + 8, _, q => exact absurd q (by omega)
      · have hai : a < i := by omega
        obtain ⟨x1, x2⟩ := hold a hai
        have g1a := g1 a q
        refine ⟨fun j hj => ?_, fun j j6 j8 => ?_⟩
        · show (rr' a j).toInt = _
          rw [g1a.1, x1 j hj, zr, zr, m1 (55 + 8 * a + j) (by omega) (by omega)]
        · show rl' a j = _
          rw [g1a.2, x2 j j6 j8, m1 (55 + 8 * a + j) (by omega) (by omega)]
  unfold sp_Rs_add ok_Rs_add sp_Mo_addResult ok_Mo_addResult
  simp only [lettn]
  have e20 : r 54 = 20 ↔ zr r 54 = 20 := z64 rfl 20 20 rfl
  have f20 : (20 : Int32) ≤ ea 1 ↔ 20 ≤ zr r 54 := by rw [Int32.le_iff_toInt_le, hr.1]; exact Iff.rfl
  by_cases q : zr r 54 = 20
  · have q1 : r 54 = 20 := e20.mpr q
    have q2 : (20 : Int32) ≤ ea 1 := f20.mpr (by omega)
    have he : ea 1 = nI 20 := nIo (by rw [hr.1, q]; rfl)
    rw [if_pos q1, if_pos q2]
    obtain ⟨rr1, rl1, a1, a2, a3, a4, a5⟩ := c_shiftR (w0 := w0) (w2 := w2) (ca := ca) (p := p) he 19 big 0 rar ral (by omega) (by rw [big_eq]; decide)
    obtain ⟨r1, d1, d2, d3⟩ := m_shiftR (p := p) 152 big 55 r (by omega) (by omega) (by rw [big_eq]; decide)
    rw [show nI 0 = (0 : Int32) from rfl] at a1 a5
    rw [show nI 55 = (55 : Int32) from rfl] at d1 d3
    rw [a1, d1]
    have k1 : ∀ k, k < 55 → r1 k = r k := fun k hk => by rw [d2 k, if_neg (by omega)]
    have e54 : (r1 54 - (1 : Int64)).toInt = 19 := by
      have := e64_sub (show E64 (r1 54) 20 20 20 from ⟨by rw [k1 54 (by omega)]; exact q, by decide, by decide⟩) (e64_lit 1 (1 : Int64) rfl) (by decide) (by decide)
      exact this.1
    have hs : RowOK T (vp_updL r1 54 (r1 54 - (1 : Int64))) := by
      refine ⟨fun k hk => ?_, fun a j ha hz hj => ?_⟩
      · by_cases q9 : k = 54
        · subst q9; rw [zr, uLs, e54]; show (0 : Int) ≤ 19 ∧ (19 : Int) ≤ 20; decide
        · rw [zr, uLn q9, k1 k hk]; exact h.1 k hk
      · rw [zr, uLs, e54] at hz
        rw [zr, uLn (by omega), d2, if_pos (by omega)]
        have := h.2 (a + 1) j (by omega) (by omega) hj
        rw [zr, show 55 + 8 * (a + 1) + j = 55 + 8 * a + j + 8 by omega] at this
        exact this
    obtain ⟨n1, n2, n3, n4, n5⟩ := new 19 (vp_updL r1 54 (r1 54 - (1 : Int64))) ea rr1 rl1 (by decide) hs (by rw [zr, uLs, e54]; rfl) (fun k hk => by rw [uLn (by omega), k1 k (by omega)]) he (fun a ha => by
      obtain ⟨x1, x2⟩ := hr.2 (a + 1) (by omega) (by omega)
      refine ⟨fun j hj => ?_, fun j j6 j8 => ?_⟩
      · rw [a2 a j (by omega) ha hj, x1 j hj, zr, zr, uLn (by omega), d2, if_pos (by omega), show 55 + 8 * (a + 1) + j = 55 + 8 * a + j + 8 by omega]
      · rw [a3 a j (by omega) ha j6 j8, x2 j j6 j8, uLn (by omega), d2, if_pos (by omega), show 55 + 8 * (a + 1) + j = 55 + 8 * a + j + 8 by omega])
    have u45 : sp_Mo_addResult_45 r1 p = sp_Mo_addResult_56 p (vp_updL r1 54 (r1 54 - (1 : Int64))) := by unfold sp_Mo_addResult_45; simp only [lettn]
    have o45 : ok_Mo_addResult_56 p (vp_updL r1 54 (r1 54 - (1 : Int64))) → ok_Mo_addResult_45 r1 p := fun o => by unfold ok_Mo_addResult_45; simp only [lettn]; exact o
    rw [u45]
    exact ⟨⟨fun _ => a5 n1, fun w => absurd q2 w⟩, ⟨fun _ => d3 (o45 n2), fun w => absurd q1 w⟩, n3, n4, n5⟩
  · have q1 : ¬ r 54 = 20 := fun w => q (e20.mp w)
    have q2 : ¬ (20 : Int32) ≤ ea 1 := fun w => by have := f20.mp w; have := b54.2; omega
    rw [if_neg q1, if_neg q2]
    have hb := b54.2
    have hn : (zr r 54).toNat < 20 := by omega
    have he : ea 1 = nI (zr r 54).toNat := nIo (by rw [hr.1]; omega)
    obtain ⟨n1, n2, n3, n4, n5⟩ := new (zr r 54).toNat r (upd ea 1 (ea 1 + (1 : Int32))) rar ral hn h (by omega) (fun _ _ => rfl) (by rw [us, he, nzadd1 _ (by omega)]) (fun a ha => hr.2 a (by omega) (by omega))
    exact ⟨⟨fun w => absurd w q2, fun _ => n1⟩, ⟨fun w => absurd w q1, fun _ => n2⟩, n3, n4, n5⟩
end CP2
