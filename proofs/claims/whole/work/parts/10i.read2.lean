section CN
variable {T : Int} {r r' : LV} {w0 w1 w2 w3 w4 : IV}
theorem row_ext {T U : Int} {r r' : LV} (h : RowOK T r) (hT : T ≤ U) (h1 : ∀ k, k < 54 → rLo k ≤ zr r' k ∧ zr r' k ≤ rHi U k) (h2 : ∀ k, 54 ≤ k → r' k = r k) : RowOK U r' := by
  refine ⟨fun k hk => ?_, fun i j hi hz hj => ?_⟩
  · by_cases q : k < 54
    · exact h1 k q
    · rw [zr, h2 k (by omega)]; exact (row_mono h hT).1 k hk
  · rw [zr, h2 54 (by omega)] at hz
    rw [zr, h2 (55 + 8 * i + j) (by omega)]; exact (row_mono h hT).2 i j hi hz hj
/-! ===== a reading ===== -/
def zlim (F v : Int) : Int := if -F ≤ v then (if v ≤ F then v else F) else -F
theorem zlim_bd {F : Int} (hF : 1 ≤ F) (v : Int) : -F ≤ zlim F v ∧ zlim F v ≤ F := by
  unfold zlim
  split
  · split <;> omega
  · omega
theorem m_shift (y6 : Int64) : ∀ (n f : Nat) (r : LV), n ≤ 9 → n < f → ∃ r2 : LV, sp_Mo_makeReading_63 y6 f (nI n) r = sp_Mo_makeReading_96 r2 y6 ∧ (∀ k, r2 k = if 45 ≤ k ∧ k ≤ 44 + n then r (k - 1) else r k) ∧ (ok_Mo_makeReading_96 r2 y6 → ok_Mo_makeReading_63 y6 f (nI n) r)
  | n, 0, _, _, hf => absurd hf (by omega)
  | 0, f + 1, r, _, _ => by
    refine ⟨r, ?_, fun k => by rw [if_neg (by omega)], fun ho => ?_⟩
    · show bd_Mo_makeReading_63 _ _ _ _ = _
      unfold bd_Mo_makeReading_63
      rw [if_pos (by decide)]
    · show okb_Mo_makeReading_63 _ _ _ _ _
      unfold okb_Mo_makeReading_63
      exact ⟨fun _ => ho, fun q => absurd (show nI 0 ≤ 0 by decide) q⟩
  | n + 1, f + 1, r, hn, hf => by
    have hc : ¬ nI (n + 1) ≤ 0 := by rw [show (0 : Int32) = nI 0 from rfl, nzle (by omega) (by omega)]; omega
    have e1 : (44 : Int32) + nI (n + 1) = nI (45 + n) := by rw [show (44 : Int32) = nI 44 from rfl, nzadd _ _ (by omega)]; congr 1; omega
    have e2 : nI (45 + n) - (1 : Int32) = nI (44 + n) := by rw [show (1 : Int32) = nI 1 from rfl, nzsub _ _ (by omega) (by omega)]; congr 1; omega
    have e3 : nI (n + 1) + (-1 : Int32) = nI n := by
      apply Int32.toInt_inj.mp
      rw [Kit.i32_add (by rw [nIz (by omega)]; show _ ≤ _ + (-1 : Int); omega) (by rw [nIz (by omega)]; show _ + (-1 : Int) < _; omega), nIz (by omega), nIz (by omega)]
      show ((n + 1 : Nat) : Int) + (-1) = _; omega
    obtain ⟨r2, g1, g2, g3⟩ := m_shift y6 n f (vp_updL r (45 + n) (r (44 + n))) (by omega) (by omega)
    refine ⟨r2, ?_, fun k => ?_, fun ho => ?_⟩
    · show bd_Mo_makeReading_63 _ _ _ _ = _
      unfold bd_Mo_makeReading_63
      rw [if_neg hc]
      simp only [lettn]
      rw [e1, e2, cl_nI (by omega), cl_nI (by omega), e3]
      exact g1
    · rw [g2 k]
      by_cases q1 : 45 ≤ k ∧ k ≤ 44 + n
      · rw [if_pos q1, if_pos (by omega), uLn (by omega)]
      · rw [if_neg q1]
        by_cases q2 : k = 45 + n
        · subst q2; rw [uLs, if_pos (by omega)]; congr 1; omega
        · rw [uLn q2, if_neg (by omega)]
    · show okb_Mo_makeReading_63 _ _ _ _ _
      unfold okb_Mo_makeReading_63
      refine ⟨fun q => absurd q hc, fun _ => ?_⟩
      simp only [lettn]
      rw [e1, e2, cl_nI (by omega), cl_nI (by omega), e3]
      exact ⟨vp_nI (by omega) (by decide), vp_nI (by omega) (by decide), g3 ho⟩
theorem c_shift (x : Int64) (ba w0 : IV) (y3 : Int32 × IV) (cal : LV) (w3 w4 : IV) : ∀ (n f : Nat) (da : IV), n ≤ 9 → n < f → ∃ d2 : IV, sp_Be_makeReading_104 x ba w0 y3 cal w3 w4 f (nI n) da = sp_Be_makeReading_131 d2 x ba w0 y3 cal w3 w4 ∧ (∀ k, d2 k = if 1 ≤ k ∧ k ≤ n then da (k - 1) else da k) ∧ (ok_Be_makeReading_131 d2 x ba w0 y3 cal w3 w4 → ok_Be_makeReading_104 x ba w0 y3 cal w3 w4 f (nI n) da)
  | n, 0, _, _, hf => absurd hf (by omega)
  | 0, f + 1, da, _, _ => by
    refine ⟨da, ?_, fun k => by rw [if_neg (by omega)], fun ho => ?_⟩
    · show bd_Be_makeReading_104 _ _ _ _ _ _ _ _ _ _ = _
      unfold bd_Be_makeReading_104
      rw [if_pos (by decide)]
    · show okb_Be_makeReading_104 _ _ _ _ _ _ _ _ _ _ _
      unfold okb_Be_makeReading_104
      exact ⟨fun _ => ho, fun q => absurd (show nI 0 ≤ 0 by decide) q⟩
  | n + 1, f + 1, da, hn, hf => by
    have hc : ¬ nI (n + 1) ≤ 0 := by rw [show (0 : Int32) = nI 0 from rfl, nzle (by omega) (by omega)]; omega
    have e2 : nI (n + 1) - (1 : Int32) = nI n := by rw [show (1 : Int32) = nI 1 from rfl, nzsub _ _ (by omega) (by omega)]; congr 1
    have e3 : nI (n + 1) + (-1 : Int32) = nI n := by
      apply Int32.toInt_inj.mp
      rw [Kit.i32_add (by rw [nIz (by omega)]; show _ ≤ _ + (-1 : Int); omega) (by rw [nIz (by omega)]; show _ + (-1 : Int) < _; omega), nIz (by omega), nIz (by omega)]
      show ((n + 1 : Nat) : Int) + (-1) = _; omega
    obtain ⟨d2, g1, g2, g3⟩ := c_shift x ba w0 y3 cal w3 w4 n f (upd da (n + 1) (da n)) (by omega) (by omega)
    refine ⟨d2, ?_, fun k => ?_, fun ho => ?_⟩
    · show bd_Be_makeReading_104 _ _ _ _ _ _ _ _ _ _ = _
      unfold bd_Be_makeReading_104
      rw [if_neg hc]
      simp only [lettn]
      rw [e2, cl_nI (by omega), cl_nI (by omega), e3]
      exact g1
    · rw [g2 k]
      by_cases q1 : 1 ≤ k ∧ k ≤ n
      · rw [if_pos q1, if_pos (by omega), un (by omega)]
      · rw [if_neg q1]
        by_cases q2 : k = n + 1
        · subst q2; rw [us, if_pos (by omega)]; congr 1
        · rw [un q2, if_neg (by omega)]
    · show okb_Be_makeReading_104 _ _ _ _ _ _ _ _ _ _ _
      unfold okb_Be_makeReading_104
      refine ⟨fun q => absurd q hc, fun _ => ?_⟩
      simp only [lettn]
      rw [e2, cl_nI (by omega), cl_nI (by omega), e3]
      exact ⟨vp_nI (by omega) (by decide), vp_nI (by omega) (by decide), g3 ho⟩
theorem upd_id {f : Nat → Int32} {k : Nat} : upd f k (f k) = f := by
  funext j
  by_cases q : j = k
  · rw [q, us]
  · rw [un q]
theorem c_read_end (x : Int64) (ba w0 : IV) (y3 : Int32 × IV) (cal : LV) (w3 w4 da2 : IV) (B : Int32) (hB : (sp_Be_isNull x.toInt32 w0 = 0 ∧ B = ba 5) ∨ (¬ sp_Be_isNull x.toInt32 w0 = 0 ∧ B = ba 5 + 1)) :
    sp_Be_makeReading_131 da2 x ba w0 y3 cal w3 w4 = (x.toInt32, upd (upd (upd ba 3 (if (10 : Int32) ≤ ba 3 then 10 else ba 3 + 1)) 4 (ba 4 + 1)) 5 B, (sp_Ci_tick 1 y3.2 cal w0 w3 w4).1, (sp_Ci_tick 1 y3.2 cal w0 w3 w4).2, upd da2 0 x.toInt32) ∧
    (ok_Ci_tick 1 y3.2 cal w0 w3 w4 → ok_Be_makeReading_131 da2 x ba w0 y3 cal w3 w4) := by
  have key : ∀ t : Int32, sp_Be_makeReading_159 ba x w0 y3 cal w3 w4 (upd da2 0 x.toInt32) t = (x.toInt32, upd (upd (upd ba 3 t) 4 (ba 4 + 1)) 5 B, (sp_Ci_tick 1 y3.2 cal w0 w3 w4).1, (sp_Ci_tick 1 y3.2 cal w0 w3 w4).2, upd da2 0 x.toInt32) ∧ (ok_Ci_tick 1 y3.2 cal w0 w3 w4 → ok_Be_makeReading_159 ba x w0 y3 cal w3 w4 (upd da2 0 x.toInt32) t) := by
    intro t
    have e5 : upd (upd ba 3 t) 4 (ba 4 + 1) 5 = ba 5 := by rw [un (by decide), un (by decide)]
    unfold sp_Be_makeReading_159 ok_Be_makeReading_159 sp_Be_makeReading_190 ok_Be_makeReading_190
    simp only [lettn]
    rw [show upd ba 3 t 4 = ba 4 from un (by decide), e5]
    rcases hB with ⟨h1, h2⟩ | ⟨h1, h2⟩
    · rw [if_pos h1, h2]
      refine ⟨?_, fun o => ⟨fun _ => ⟨o, trivial⟩, fun _ => ⟨o, trivial⟩⟩⟩
      rw [← e5, upd_id]
    · rw [if_neg h1, h2]
      exact ⟨rfl, fun o => ⟨fun _ => ⟨o, trivial⟩, fun _ => ⟨o, trivial⟩⟩⟩
  unfold sp_Be_makeReading_131 ok_Be_makeReading_131
  simp only [lettn]
  by_cases q : (10 : Int32) ≤ ba 3
  · rw [if_pos q, if_pos q]
    exact ⟨(key 10).1, fun o => ⟨fun _ => (key 10).2 o, fun _ => (key _).2 o⟩⟩
  · rw [if_neg q, if_neg q]
    exact ⟨(key _).1, fun o => ⟨fun _ => (key 10).2 o, fun _ => (key _).2 o⟩⟩
theorem m_read_end (r2 : LV) (Y A : Int64) (hA : (sp_Mo_isNull Y (vp_updL (vp_updL (vp_updL r2 44 Y) 43 (if (r2 43 + (1 : Int64)) < (10 : Int64) then (r2 43 + (1 : Int64)) else (10 : Int64))) 41 (r2 41 + 1)) = 0 ∧ A = 0) ∨ (¬ sp_Mo_isNull Y (vp_updL (vp_updL (vp_updL r2 44 Y) 43 (if (r2 43 + (1 : Int64)) < (10 : Int64) then (r2 43 + (1 : Int64)) else (10 : Int64))) 41 (r2 41 + 1)) = 0 ∧ A = 1)) :
    sp_Mo_makeReading_96 r2 Y = (Y, sp_Mo_tick 1 (vp_updL (vp_updL (vp_updL (vp_updL r2 44 Y) 43 (if (r2 43 + (1 : Int64)) < (10 : Int64) then (r2 43 + (1 : Int64)) else (10 : Int64))) 41 (r2 41 + 1)) 42 (r2 42 + A))) ∧
    (ok_Mo_tick 1 (vp_updL (vp_updL (vp_updL (vp_updL r2 44 Y) 43 (if (r2 43 + (1 : Int64)) < (10 : Int64) then (r2 43 + (1 : Int64)) else (10 : Int64))) 41 (r2 41 + 1)) 42 (r2 42 + A)) → ok_Mo_makeReading_96 r2 Y) := by
  have e43 : vp_updL r2 44 Y 43 = r2 43 := uLn (by decide)
  have e41 : ∀ v, vp_updL (vp_updL r2 44 Y) 43 v 41 = r2 41 := fun v => by rw [uLn (by decide), uLn (by decide)]
  have e42 : ∀ v w, vp_updL (vp_updL (vp_updL r2 44 Y) 43 v) 41 w 42 = r2 42 := fun v w => by rw [uLn (by decide), uLn (by decide), uLn (by decide)]
  unfold sp_Mo_makeReading_96 ok_Mo_makeReading_96 sp_Mo_makeReading_158 ok_Mo_makeReading_158
  simp only [lettn, e43, e41, e42]
  rcases hA with ⟨h1, h2⟩ | ⟨h1, h2⟩
  · rw [if_pos h1, h2]
    exact ⟨rfl, fun o => ⟨fun _ => ⟨o, trivial⟩, fun w => absurd h1 w⟩⟩
  · rw [if_neg h1, h2]
    exact ⟨rfl, fun o => ⟨fun w => absurd w h1, fun _ => ⟨o, trivial⟩⟩⟩
/-- the bench without its results, by the row -/
def BC (ba ca : IV) (cal : LV) (da : IV) (r : LV) : Prop := CirR ca cal r ∧ (ba 3).toInt = zr r 43 ∧ (ba 4).toInt = zr r 41 ∧ (ba 5).toInt = zr r 42 ∧ ∀ k : Nat, k < 10 → (k : Int) < zr r 43 → (da k).toInt = zr r (44 + k)
/-- a reading's value on the row -/
def zread (r : LV) : Int := zlim (zr r 24) ((if zr r 31 = 1 then -zdefl r (zS r) (zf r) (zg r) (zr r 32) else zdefl r (zS r) (zf r) (zg r) (zr r 32)) + zr r 27 + zsh (nxt (r 28).toInt32) % (2 * zr r 25 + 1) - zr r 25)
theorem read_BC (hp : PR w0 w1 w2 w3 w4 r) (h : RowOK T r) (hT : T ≤ 900000000) {ba ca : IV} {cal : LV} {da : IV} (hb : BC ba ca cal da r) :
    ok_Be_makeReading ba ca cal da w0 w3 w4 ∧ ok_Mo_makeReading r ∧ (sp_Be_makeReading ba ca cal da w0 w3 w4).1.toInt = zread r ∧ E64 (sp_Mo_makeReading r).1 (zread r) (-9999999) 9999999 ∧
    BC (sp_Be_makeReading ba ca cal da w0 w3 w4).2.1 (sp_Be_makeReading ba ca cal da w0 w3 w4).2.2.1 (sp_Be_makeReading ba ca cal da w0 w3 w4).2.2.2.1 (sp_Be_makeReading ba ca cal da w0 w3 w4).2.2.2.2 (sp_Mo_makeReading r).2 ∧
    RowOK (T + 2) (sp_Mo_makeReading r).2 ∧ Fr r (sp_Mo_makeReading r).2 ∧ 1 ≤ zr (sp_Mo_makeReading r).2 43 ∧ zr (sp_Mo_makeReading r).2 44 = zread r := by
  obtain ⟨⟨hci, h6, h9, h10, h11, h12⟩, hk, hm, hn, hd⟩ := hb
  have hD := (zD_bd h).2.1
  have b31 := row_w h 31 0 1 rfl rfl
  have b27 := row_w h 27 (-99999) 99999 rfl rfl
  have b24 := row_w h 24 1 9999999 rfl rfl
  have b25 := row_w h 25 0 9999 rfl rfl
  have b43 := row_w h 43 0 10 rfl rfl
  have b41 := row_w h 41 0 T rfl rfl
  have b42 := row_w h 42 0 T rfl rfl
  have w24 := pr_e hp h 24 1 9999999 (rfl : w0 13 = _) rfl rfl
  have w25 := pr_e hp h 25 0 9999 (rfl : w0 14 = _) rfl rfl
  have e28 : (r 28).toInt32 = ca 11 := by
    apply Int32.toInt_inj.mp
    have b := rg32 (ca 11)
    rw [h11] at b
    rw [Kit.i32_of_i64 (by show -2 ^ 31 ≤ zr r 28; omega) (by show zr r 28 < 2 ^ 31; omega)]
    exact h11.symm
  -- the deflection of both
  obtain ⟨d1, d2⟩ := m_deflNow h
  have d3 := c_imb h hci
  have e6 : ca 6 = 0 ↔ ¬ zr r 31 = 1 := by rw [z32 h6 0 0 rfl]; have := b31.2; omega
  have d3' : E64 (sp_Ci_imbalance ca) (if zr r 31 = 1 then -zdefl r (zS r) (zf r) (zg r) (zr r 32) else zdefl r (zS r) (zf r) (zg r) (zr r 32)) (-20000000000) 20000000000 := by
    by_cases q : zr r 31 = 1
    · rw [if_pos q]; rw [if_neg (fun w => (e6.mp w) q)] at d3; exact d3
    · rw [if_neg q]; rw [if_pos (e6.mpr q)] at d3; exact d3
  -- the draws
  have kn := e64_w 1 19999 (e64_add (e64_mul 0 19998 (e64_lit 2 (2 : Int64) rfl) b25 (by decide) (by decide) (by decide)) (e64_lit 1 (1 : Int64) rfl) (by decide) (by decide)) (by decide) (by decide)
  have kn2 := e32_w 1 19999 (e32_add (e32_mul 0 19998 (e32_lit 2 (2 : Int32) rfl) w25 (by decide) (by decide) (by decide)) (e32_lit 1 (1 : Int32) rfl) (by decide) (by decide)) (by decide) (by decide)
  obtain ⟨g1, g2, g3⟩ := m_draw kn r
  obtain ⟨g4, g5, g6⟩ := c_draw kn2 ca
  rw [← e28] at g4
  -- the value, before its limits
  have v1 := e64_sub (e64_add (e64_add d1 b27 (by decide) (by decide)) g1 (by decide) (by decide)) (show E64 ((sp_Mo_draw ((2 : Int64) * r 25 + 1) r).2 25) (zr r 25) 0 9999 by rw [g2, uLn (by decide)]; exact b25) (by decide) (by decide)
  have q9 : E32 (ca 9) (zr r 27) (-99999) 99999 := ⟨h9, b27.2⟩
  have v2 := e64_sub (e64_add (e64_add d3' (e64_of32 q9) (by decide) (by decide)) (e64_of32 g4) (by decide) (by decide)) (e64_of32 w25) (by decide) (by decide)
  have hF := b24.2
  have v3 := m_bound v1 (show (-((sp_Mo_draw ((2 : Int64) * r 25 + 1) r).2 24)).toInt = -zr r 24 by rw [g2, uLn (by decide)]; exact (e64_neg b24 (by decide)).1) (show ((sp_Mo_draw ((2 : Int64) * r 25 + 1) r).2 24).toInt = zr r 24 by rw [g2, uLn (by decide)]) (by omega)
  have ez : (if -zr r 24 ≤ (if zr r 31 = 1 then -zdefl r (zS r) (zf r) (zg r) (zr r 32) else zdefl r (zS r) (zf r) (zg r) (zr r 32)) + zr r 27 + zsh ((r 28).toInt32 * 1103515245 + 12345) % (2 * zr r 25 + 1) - zr r 25 then (if (if zr r 31 = 1 then -zdefl r (zS r) (zf r) (zg r) (zr r 32) else zdefl r (zS r) (zf r) (zg r) (zr r 32)) + zr r 27 + zsh ((r 28).toInt32 * 1103515245 + 12345) % (2 * zr r 25 + 1) - zr r 25 ≤ zr r 24 then (if zr r 31 = 1 then -zdefl r (zS r) (zf r) (zg r) (zr r 32) else zdefl r (zS r) (zf r) (zg r) (zr r 32)) + zr r 27 + zsh ((r 28).toInt32 * 1103515245 + 12345) % (2 * zr r 25 + 1) - zr r 25 else zr r 24) else -zr r 24) = zread r := rfl
  rw [ez] at v3
  have hz := zlim_bd hF.1 ((if zr r 31 = 1 then -zdefl r (zS r) (zf r) (zg r) (zr r 32) else zdefl r (zS r) (zf r) (zg r) (zr r 32)) + zr r 27 + zsh (nxt (r 28).toInt32) % (2 * zr r 25 + 1) - zr r 25)
  have hz2 : -9999999 ≤ zread r ∧ zread r ≤ 9999999 := by unfold zread; omega
  -- the class's value
  have wF := e64_of32 w24
  have wFn : E64 ((-(w0 13)).toInt64) (-zr r 24) (-9999999) (-1) := e64_of32 (e32_neg w24 (by decide))
  have pick : ∃ x : Int64, x.toInt = zread r ∧ sp_Be_makeReading ba ca cal da w0 w3 w4 = sp_Be_makeReading_92 ba w0 (sp_Ci_draw ((2 : Int32) * w0 14 + 1) ca) cal w3 w4 da x ∧ (ok_Be_makeReading_92 ba w0 (sp_Ci_draw ((2 : Int32) * w0 14 + 1) ca) cal w3 w4 da x → ok_Be_makeReading ba ca cal da w0 w3 w4) := by
    unfold sp_Be_makeReading ok_Be_makeReading sp_Be_makeReading_68 ok_Be_makeReading_68
    simp only [lettn]
    generalize hX : sp_Ci_imbalance ca + (ca 9).toInt64 + (sp_Ci_draw ((2 : Int32) * w0 14 + 1) ca).1.toInt64 - (w0 14).toInt64 = X at v2 ⊢
    have c1 : X ≤ (w0 13).toInt64 ↔ X.toInt ≤ zr r 24 := by rw [Int64.le_iff_toInt_le, wF.1]
    have c2 : (-(w0 13)).toInt64 ≤ X ↔ -zr r 24 ≤ X.toInt := by rw [Int64.le_iff_toInt_le, wFn.1]
    have c3 : (-(w0 13)).toInt64 ≤ (w0 13).toInt64 := by rw [Int64.le_iff_toInt_le, wF.1, wFn.1]; omega
    have e0 : zread r = zlim (zr r 24) X.toInt := by rw [v2.1]; rfl
    rw [e0]
    unfold zlim
    by_cases q1 : X ≤ (w0 13).toInt64
    · have q1' := c1.mp q1
      rw [if_pos q1]
      by_cases q2 : (-(w0 13)).toInt64 ≤ X
      · have q2' := c2.mp q2
        rw [if_pos q2, if_pos q2', if_pos q1']
        exact ⟨X, rfl, rfl, fun o => ⟨g6, fun _ => ⟨fun _ => o, fun w => absurd q2 w⟩, fun w => absurd q1 w⟩⟩
      · have q2' : ¬ -zr r 24 ≤ X.toInt := fun w => q2 (c2.mpr w)
        rw [if_neg q2, if_neg q2']
        exact ⟨_, wFn.1, rfl, fun o => ⟨g6, fun _ => ⟨fun w => absurd w q2, fun _ => o⟩, fun w => absurd q1 w⟩⟩
    · have q1' : ¬ X.toInt ≤ zr r 24 := fun w => q1 (c1.mpr w)
      rw [if_neg q1, if_pos c3, if_pos (by omega), if_neg q1']
      exact ⟨_, wF.1, rfl, fun o => ⟨g6, fun w => absurd w q1, fun _ => ⟨fun _ => o, fun w => absurd c3 w⟩⟩⟩
  obtain ⟨x, hx, ex, ox⟩ := pick
  have x32 : E32 x.toInt32 (zread r) (-9999999) 9999999 := e32_of64 ⟨hx, hz2⟩ (by decide) (by decide)
  -- the class's rows go on
  obtain ⟨da2, s1, s2, s3⟩ := c_shift x ba w0 (sp_Ci_draw ((2 : Int32) * w0 14 + 1) ca) cal w3 w4 9 big da (by omega) (by rw [big_eq]; decide)
  obtain ⟨r2, t1, t2, t3⟩ := m_shift (sp_Mo_bound (sp_Mo_deflectionNow r + r 27 + (sp_Mo_draw ((2 : Int64) * r 25 + 1) r).1 - (sp_Mo_draw ((2 : Int64) * r 25 + 1) r).2 25) (-((sp_Mo_draw ((2 : Int64) * r 25 + 1) r).2 24)) ((sp_Mo_draw ((2 : Int64) * r 25 + 1) r).2 24)) 9 big (sp_Mo_draw ((2 : Int64) * r 25 + 1) r).2 (by omega) (by rw [big_eq]; decide)
  generalize hY : sp_Mo_bound (sp_Mo_deflectionNow r + r 27 + (sp_Mo_draw ((2 : Int64) * r 25 + 1) r).1 - (sp_Mo_draw ((2 : Int64) * r 25 + 1) r).2 25) (-((sp_Mo_draw ((2 : Int64) * r 25 + 1) r).2 24)) ((sp_Mo_draw ((2 : Int64) * r 25 + 1) r).2 24) = Y at v3 t1 t3
  have vY : E64 Y (zread r) (-9999999) 9999999 := ⟨v3.1, hz2⟩
  have r2o : ∀ k, k < 45 ∨ 54 ≤ k → k ≠ 28 → r2 k = r k := fun k hk h28 => by rw [t2 k, if_neg (by omega), g2, uLn h28]
  have r2s : ∀ k, 45 ≤ k → k ≤ 53 → r2 k = r (k - 1) := fun k h1 h2 => by rw [t2 k, if_pos (by omega), g2, uLn (by omega)]
  have r228 : r2 28 = (nxt (r 28).toInt32).toInt64 := by rw [t2 28, if_neg (by omega), g2, uLs]; rfl
  have hr2 : RowOK T r2 := by
    refine row_ext h (Int.le_refl _) (fun k hk => ?_) (fun k hk => r2o k (Or.inr hk) (by omega))
    by_cases q : k = 28
    · subst q; rw [zr, r228, Kit.i64_of_i32]; exact r28_ok _ _
    · by_cases q2 : k < 45
      · rw [zr, r2o k (Or.inl q2) q]; exact h.1 k (by omega)
      · have e1 : k = 44 + (k - 44) := by omega
        have e2 : k - 1 = 44 + (k - 45) := by omega
        have b := row_rd h (d := k - 45) (by omega)
        rw [zr, r2s k (by omega) (by omega), e2, e1, rLo_rd (k - 44) (by omega), rHi_rd T (k - 44) (by omega)]
        have e3 : 44 + (44 + (k - 44) - 45) = 44 + (k - 45) := by omega
        rw [e3]; exact b.2
  -- the counts
  have em : (sp_Mo_makeReading r) = sp_Mo_makeReading_96 r2 Y := by
    rw [← t1, ← hY]; unfold sp_Mo_makeReading; simp only [lettn]; rfl
  have ec : sp_Be_makeReading ba ca cal da w0 w3 w4 = sp_Be_makeReading_131 da2 x ba w0 (sp_Ci_draw ((2 : Int32) * w0 14 + 1) ca) cal w3 w4 := by
    rw [ex, ← s1]; unfold sp_Be_makeReading_92; simp only [lettn]; rfl
  have om : ok_Mo_makeReading_96 r2 Y → ok_Mo_makeReading r := fun o => by
    unfold ok_Mo_makeReading
    simp only [lettn]
    rw [hY]
    exact ⟨d2, g3, t3 o⟩
  have oc : ok_Be_makeReading_131 da2 x ba w0 (sp_Ci_draw ((2 : Int32) * w0 14 + 1) ca) cal w3 w4 → ok_Be_makeReading ba ca cal da w0 w3 w4 := fun o => ox (by
    unfold ok_Be_makeReading_92
    simp only [lettn]
    exact s3 o)
  -- the reference's row ahead of its tick
  have n43 : r2 43 = r 43 := r2o 43 (by omega) (by decide)
  have n41 : r2 41 = r 41 := r2o 41 (by omega) (by decide)
  have n42 : r2 42 = r 42 := r2o 42 (by omega) (by decide)
  have k43 : E64 (if (r 43 + (1 : Int64)) < (10 : Int64) then (r 43 + (1 : Int64)) else (10 : Int64)) (if zr r 43 < 10 then zr r 43 + 1 else 10) 1 10 := by
    have k1 := e64_add b43 (e64_lit 1 (1 : Int64) rfl) (by decide) (by decide)
    have e := ltc k1 (10 : Int64) 10 rfl
    by_cases q : r 43 + (1 : Int64) < (10 : Int64)
    · have := e.mp q
      rw [if_pos q, if_pos (by omega)]; exact ⟨k1.1, by have := b43.2; omega, by omega⟩
    · have q' : ¬ zr r 43 + 1 < 10 := fun w => q (e.mpr w)
      rw [if_neg q]
      by_cases q3 : zr r 43 < 10
      · rw [if_pos q3, show zr r 43 + 1 = 10 by omega]; exact ⟨rfl, by decide, by decide⟩
      · rw [if_neg q3]; exact ⟨rfl, by decide, by decide⟩
  have k41 := e64_add b41 (e64_lit 1 (1 : Int64) rfl) (by decide) (by omega)
  -- nulls of both
  have nc := c_null hp h x32.1
  have nullr : ∀ q : LV, q 25 = r 25 → ∀ V, znull q V ↔ znull r V := fun q hq V => by unfold znull zr; rw [hq]
  have fin : ∀ (A : Int64) (B : Int32), (A.toInt = 0 ∨ A.toInt = 1) → B.toInt = zr r 42 + A.toInt →
      let rq := vp_updL (vp_updL (vp_updL (vp_updL r2 44 Y) 43 (if (r 43 + (1 : Int64)) < (10 : Int64) then (r 43 + (1 : Int64)) else (10 : Int64))) 41 (r 41 + 1)) 42 (r 42 + A)
      let bq := upd (upd (upd ba 3 (if (10 : Int32) ≤ ba 3 then 10 else ba 3 + 1)) 4 (ba 4 + 1)) 5 B
      ok_Ci_tick 1 (sp_Ci_draw ((2 : Int32) * w0 14 + 1) ca).2 cal w0 w3 w4 ∧ ok_Mo_tick 1 rq ∧
      BC bq (sp_Ci_tick 1 (sp_Ci_draw ((2 : Int32) * w0 14 + 1) ca).2 cal w0 w3 w4).1 (sp_Ci_tick 1 (sp_Ci_draw ((2 : Int32) * w0 14 + 1) ca).2 cal w0 w3 w4).2 (upd da2 0 x.toInt32) (sp_Mo_tick 1 rq) ∧ RowOK (T + 2) (sp_Mo_tick 1 rq) ∧ Fr r (sp_Mo_tick 1 rq) ∧ 1 ≤ zr (sp_Mo_tick 1 rq) 43 ∧ zr (sp_Mo_tick 1 rq) 44 = zread r := by
    intro A B hA hB rq bq
    have k42 : E64 (r 42 + A) (zr r 42 + A.toInt) 0 (T + 1) := e64_add (c := 0) (d := 1) b42 ⟨rfl, by omega, by omega⟩ (by decide) (by omega)
    have e44 : rq 44 = Y := by show vp_updL _ 42 _ 44 = Y; rw [uLn (by decide), uLn (by decide), uLn (by decide), uLs]
    have e43 : rq 43 = (if (r 43 + (1 : Int64)) < (10 : Int64) then (r 43 + (1 : Int64)) else (10 : Int64)) := by show vp_updL _ 42 _ 43 = _; rw [uLn (by decide), uLn (by decide), uLs]
    have e41 : rq 41 = r 41 + 1 := by show vp_updL _ 42 _ 41 = _; rw [uLn (by decide), uLs]
    have e42 : rq 42 = r 42 + A := by show vp_updL _ 42 _ 42 = _; rw [uLs]
    have eo : ∀ k, k ≠ 44 → k ≠ 43 → k ≠ 41 → k ≠ 42 → rq k = r2 k := fun k a b c d => by show vp_updL _ 42 _ k = _; rw [uLn d, uLn c, uLn b, uLn a]
    have hq : RowOK (T + 1) rq := by
      have a1 := row_upd (row_mono hr2 (show T ≤ T + 1 by omega)) 44 Y (fun _ => by rw [vY.1]; exact hz2) (by decide)
      have a2 := row_upd a1 43 (if (r 43 + (1 : Int64)) < (10 : Int64) then (r 43 + (1 : Int64)) else (10 : Int64)) (fun _ => by rw [k43.1]; show (0 : Int) ≤ _ ∧ _ ≤ (10 : Int); have := k43.2; omega) (by decide)
      have a3 := row_upd a2 41 (r 41 + 1) (fun _ => by rw [k41.1]; show (0 : Int) ≤ _ ∧ _ ≤ T + 1; have := k41.2; omega) (by decide)
      exact row_upd a3 42 (r 42 + A) (fun _ => by rw [k42.1]; exact k42.2) (by decide)
    have frq : Fr r rq := fun k hk => by rw [eo k (by omega) (by omega) (by omega) (by omega), r2o k (by omega) (by omega)]
    have eS : zS rq = zS r := fr_S frq hD
    have same37 : rq 37 = r 37 := by rw [eo 37 (by decide) (by decide) (by decide) (by decide), r2o 37 (by omega) (by decide)]
    have same38 : rq 38 = r 38 := by rw [eo 38 (by decide) (by decide) (by decide) (by decide), r2o 38 (by omega) (by decide)]
    have hcr : CirR (sp_Ci_draw ((2 : Int32) * w0 14 + 1) ca).2 cal rq := by
      rw [g5]
      have e1 := ci_ps hci (fr_ps frq) hD (frq 22 (by omega)) same37 same38
      obtain ⟨c1, c2, c3, c4, c5, c6, c7, c8, c9, c10, c11, c12, c13, c14, c15, c16, c17⟩ := e1
      have i1 : ∀ j, j ≠ 11 → upd ca 11 (ca 11 * 1103515245 + 12345) j = ca j := fun j hj => un hj
      refine ⟨⟨?_, ?_, ?_, ?_, ?_, ?_, ?_, ?_, ?_, ?_, ?_, ?_, ?_, ?_, ?_, ?_, ?_⟩, ?_, ?_, ?_, ?_, ?_⟩
      · rw [i1 5 (by decide), eS]; exact c1
      · rw [eS]; exact c2
      · rw [i1 1 (by decide), c3]; unfold zf zr; rw [frq 29 (by omega)]
      · unfold zf zr; rw [frq 29 (by omega)]; exact c4
      · rw [i1 2 (by decide), c5]; unfold zg zr; rw [frq 30 (by omega)]
      · unfold zg zr; rw [frq 30 (by omega)]; exact c6
      · rw [i1 4 (by decide), c7, zr, zr, frq 32 (by omega)]
      · rw [zr, frq 32 (by omega)]; exact c8
      · rw [i1 3 (by decide)]; exact c9
      · rw [i1 7 (by decide)]; exact c10
      · rw [i1 8 (by decide)]; exact c11
      · rw [i1 13 (by decide), c12]; congr 1
        · unfold zf zr; rw [frq 29 (by omega)]
        · unfold zg zr; rw [frq 30 (by omega)]
      · rw [i1 14 (by decide), eS]; exact c13
      · rw [i1 15 (by decide)]; exact c14
      · rw [i1 16 (by decide), eS]; exact c15
      · rw [i1 17 (by decide), c16]; unfold zr; rw [frq 32 (by omega)]
      · rw [i1 18 (by decide), c17, eS]; unfold zr; rw [frq 32 (by omega)]
      · rw [i1 6 (by decide), h6, zr, zr, frq 31 (by omega)]
      · rw [i1 9 (by decide), h9, zr, zr, eo 27 (by decide) (by decide) (by decide) (by decide), r2o 27 (by omega) (by decide)]
      · rw [i1 10 (by decide), h10, zr, zr, eo 39 (by decide) (by decide) (by decide) (by decide), r2o 39 (by omega) (by decide)]
      · rw [us, zr, eo 28 (by decide) (by decide) (by decide) (by decide), r228, Kit.i64_of_i32, e28]; rfl
      · rw [h12, eo 40 (by decide) (by decide) (by decide) (by decide), r2o 40 (by omega) (by decide)]
    obtain ⟨q1, q2, q3, q4, q5⟩ := tick_CR (ps_PR (fr_ps frq) hp) hq (by omega) hcr 1
    have u43 := q5.1 43 (by decide) (by decide) (by decide) (by decide) (by decide) (by decide)
    have u41 := q5.1 41 (by decide) (by decide) (by decide) (by decide) (by decide) (by decide)
    have u42 := q5.1 42 (by decide) (by decide) (by decide) (by decide) (by decide) (by decide)
    have z43 : zr (sp_Mo_tick 1 rq) 43 = if zr r 43 < 10 then zr r 43 + 1 else 10 := by rw [zr, u43, e43, k43.1]
    have B3 : E32 (ba 3) (zr r 43) 0 10 := ⟨hk, b43.2⟩
    refine ⟨q3, q4, ⟨q1, ?_, ?_, ?_, ?_⟩, row_mono q2 (by omega), fr_tr frq (fr_of_tick q5), ?_, ?_⟩
    · show (upd (upd (upd ba 3 _) 4 _) 5 B 3).toInt = _
      rw [un (by decide), un (by decide), us, z43]
      have e : (10 : Int32) ≤ ba 3 ↔ 10 ≤ zr r 43 := by rw [Int32.le_iff_toInt_le, hk]; exact Iff.rfl
      by_cases q : (10 : Int32) ≤ ba 3
      · have := e.mp q
        rw [if_pos q, if_neg (by omega)]; rfl
      · have q' : ¬ 10 ≤ zr r 43 := fun w => q (e.mpr w)
        rw [if_neg q, if_pos (by omega)]
        exact (e32_add B3 (e32_lit 1 (1 : Int32) rfl) (by decide) (by decide)).1
    · show (upd (upd (upd ba 3 _) 4 _) 5 B 4).toInt = _
      rw [un (by decide), us, zr, u41, e41, k41.1]
      exact (e32_add (X := zr r 41) (a := 0) (b := T) ⟨hm, b41.2⟩ (e32_lit 1 (1 : Int32) rfl) (by decide) (by omega)).1
    · show (upd (upd (upd ba 3 _) 4 _) 5 B 5).toInt = _
      rw [us, zr, u42, e42, k42.1, hB]
    · intro k hk10 hkz
      rw [z43] at hkz
      have uk := q5.1 (44 + k) (by omega) (by omega) (by omega) (by omega) (by omega) (by omega)
      rw [zr, uk]
      by_cases q0 : k = 0
      · subst q0
        rw [us, show 44 + 0 = 44 from rfl, e44, vY.1]; exact x32.1
      · have hlt : ((k - 1 : Nat) : Int) < zr r 43 := by
          by_cases q9 : zr r 43 < 10
          · rw [if_pos q9] at hkz; omega
          · rw [if_neg q9] at hkz; omega
        rw [un q0, s2 k, if_pos (by omega), eo (44 + k) (by omega) (by omega) (by omega) (by omega), r2s (44 + k) (by omega) (by omega), hd (k - 1) (by omega) hlt]
        have : 44 + k - 1 = 44 + (k - 1) := by omega
        rw [this]
    · rw [z43]; have := b43.2; split <;> omega
    · have u44 := q5.1 44 (by decide) (by decide) (by decide) (by decide) (by decide) (by decide)
      rw [zr, u44, e44]; exact vY.1
  -- both ends
  have hq25 : vp_updL (vp_updL (vp_updL r2 44 Y) 43 (if (r2 43 + (1 : Int64)) < (10 : Int64) then (r2 43 + (1 : Int64)) else (10 : Int64))) 41 (r2 41 + 1) 25 = r 25 := by rw [uLn (by decide), uLn (by decide), uLn (by decide), r2o 25 (by omega) (by decide)]
  have hrow14 : RowOK (T + 1) (vp_updL (vp_updL (vp_updL r2 44 Y) 43 (if (r2 43 + (1 : Int64)) < (10 : Int64) then (r2 43 + (1 : Int64)) else (10 : Int64))) 41 (r2 41 + 1)) := by
    have a1 := row_upd (row_mono hr2 (show T ≤ T + 1 by omega)) 44 Y (fun _ => by rw [vY.1]; exact hz2) (by decide)
    have a2 := row_upd a1 43 (if (r2 43 + (1 : Int64)) < (10 : Int64) then (r2 43 + (1 : Int64)) else (10 : Int64)) (fun _ => by rw [n43, k43.1]; show (0 : Int) ≤ _ ∧ _ ≤ (10 : Int); have := k43.2; omega) (by decide)
    exact row_upd a2 41 (r2 41 + 1) (fun _ => by rw [n41, k41.1]; show (0 : Int) ≤ _ ∧ _ ≤ T + 1; have := k41.2; omega) (by decide)
  have nm := m_null hrow14 (V := zread r) (b := 9999999) vY (by decide)
  rw [nullr _ hq25] at nm
  have fin2 : ∀ (A : Int64) (B : Int32), (A.toInt = 0 ∨ A.toInt = 1) → B.toInt = zr r 42 + A.toInt → ((sp_Be_isNull x.toInt32 w0 = 0 ∧ B = ba 5) ∨ (¬ sp_Be_isNull x.toInt32 w0 = 0 ∧ B = ba 5 + 1)) → ((sp_Mo_isNull Y (vp_updL (vp_updL (vp_updL r2 44 Y) 43 (if (r2 43 + (1 : Int64)) < (10 : Int64) then (r2 43 + (1 : Int64)) else (10 : Int64))) 41 (r2 41 + 1)) = 0 ∧ A = 0) ∨ (¬ sp_Mo_isNull Y (vp_updL (vp_updL (vp_updL r2 44 Y) 43 (if (r2 43 + (1 : Int64)) < (10 : Int64) then (r2 43 + (1 : Int64)) else (10 : Int64))) 41 (r2 41 + 1)) = 0 ∧ A = 1)) →
    ok_Be_makeReading ba ca cal da w0 w3 w4 ∧ ok_Mo_makeReading r ∧ (sp_Be_makeReading ba ca cal da w0 w3 w4).1.toInt = zread r ∧ E64 (sp_Mo_makeReading r).1 (zread r) (-9999999) 9999999 ∧
    BC (sp_Be_makeReading ba ca cal da w0 w3 w4).2.1 (sp_Be_makeReading ba ca cal da w0 w3 w4).2.2.1 (sp_Be_makeReading ba ca cal da w0 w3 w4).2.2.2.1 (sp_Be_makeReading ba ca cal da w0 w3 w4).2.2.2.2 (sp_Mo_makeReading r).2 ∧
    RowOK (T + 2) (sp_Mo_makeReading r).2 ∧ Fr r (sp_Mo_makeReading r).2 ∧ 1 ≤ zr (sp_Mo_makeReading r).2 43 ∧ zr (sp_Mo_makeReading r).2 44 = zread r := by
    intro A B hA hB h1 h2
    obtain ⟨f1, f2, f3, f4, f5, f6, f7⟩ := fin A B hA hB
    obtain ⟨p1, p2⟩ := c_read_end x ba w0 (sp_Ci_draw ((2 : Int32) * w0 14 + 1) ca) cal w3 w4 da2 B h1
    obtain ⟨p3, p4⟩ := m_read_end r2 Y A h2
    rw [n43, n41, n42] at p3 p4
    rw [← em] at p3
    rw [← ec] at p1
    refine ⟨oc (p2 f1), om (p4 f2), ?_, ?_, ?_, ?_, ?_, ?_, ?_⟩
    · rw [p1]; exact x32.1
    · rw [p3]; exact vY
    · rw [p1, p3]; exact f3
    · rw [p3]; exact f4
    · rw [p3]; exact f5
    · rw [p3]; exact f6
    · rw [p3]; exact f7
  by_cases q : znull r (zread r)
  · refine fin2 1 (ba 5 + 1) (Or.inr rfl) ?_ (Or.inr ⟨fun w => (nc.1.mp w) q, rfl⟩) (Or.inr ⟨fun w => (nm.1.mp w) q, rfl⟩)
    exact (e32_add (X := zr r 42) (a := 0) (b := T) ⟨hn, b42.2⟩ (e32_lit 1 (1 : Int32) rfl) (by decide) (by omega)).1
  · refine fin2 0 (ba 5) (Or.inl rfl) ?_ (Or.inl ⟨nc.1.mpr q, rfl⟩) (Or.inl ⟨nm.1.mpr q, rfl⟩)
    rw [hn]; exact (Int.add_zero _).symm
end CN
