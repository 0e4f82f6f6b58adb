section CO
variable {T : Int} {r r' : LV} {w0 w1 w2 w3 w4 : IV}
theorem isB0 : isB 0 := Or.inl rfl
theorem isB1 : isB 1 := Or.inr rfl
theorem e32_divc {x y : Int32} {X a b : Int} (Y lo hi : Int) (h1 : E32 x X a b) (h2 : y.toInt = Y) (hc : 0 < Y) (hl : lo = a.tdiv Y) (hu : hi = b.tdiv Y) : E32 (x / y) (X.tdiv Y) lo hi := by
  obtain ⟨rfl, h3, h4⟩ := h1
  subst h2; subst hl; subst hu
  exact ⟨Kit.i32_div (by omega), Int.tdiv_le_tdiv hc h3, Int.tdiv_le_tdiv hc h4⟩
theorem updL_id {f : Nat → Int64} {k : Nat} {x : Int64} (h : f k = x) : vp_updL f k x = f := by
  funext j
  by_cases q : j = k
  · rw [q, uLs, h]
  · rw [uLn q]
theorem updL_2 {f : Nat → Int64} {k : Nat} {x y : Int64} : vp_updL (vp_updL f k x) k y = vp_updL f k y := by
  funext j
  by_cases q : j = k
  · rw [q, uLs, uLs]
  · rw [uLn q, uLn q, uLn q]
/-- the supply turned -/
theorem cir_turn {ca : IV} {cal : LV} (h : RowOK T r) (hc : CirR ca cal r) {t : Int32} {x : Int64} (ht : t.toInt = x.toInt) : CirR (upd ca 6 t) cal (vp_updL r 31 x) := by
  have hD := (zD_bd h).2.1
  obtain ⟨hci, h6, h9, h10, h11, h12⟩ := hc
  have e := ci_ps hci (ps_upd 31 x (by omega)) hD (uLn (by decide)) (uLn (by decide)) (uLn (by decide))
  have eS : zS (vp_updL r 31 x) = zS r := zS_cong (uLn (by decide)) (fun d hd => uLn (by omega)) hD
  obtain ⟨c1, c2, c3, c4, c5, c6, c7, c8, c9, c10, c11, c12, c13, c14, c15, c16, c17⟩ := e
  refine ⟨⟨?_, ?_, ?_, c4, ?_, c6, ?_, c8, ?_, ?_, ?_, ?_, ?_, ?_, ?_, ?_, ?_⟩, ?_, ?_, ?_, ?_, ?_⟩
  · rw [un (by decide), eS]; exact c1
  · rw [eS]; exact c2
  · rw [un (by decide)]; exact c3
  · rw [un (by decide)]; exact c5
  · rw [un (by decide)]; exact c7
  · rw [un (by decide)]; exact c9
  · rw [un (by decide)]; exact c10
  · rw [un (by decide)]; exact c11
  · rw [un (by decide)]; exact c12
  · rw [un (by decide), eS]; exact c13
  · rw [un (by decide)]; exact c14
  · rw [un (by decide), eS]; exact c15
  · rw [un (by decide)]; exact c16
  · rw [un (by decide), eS]; exact c17
  · rw [us, zr, uLs]; exact ht
  · rw [un (by decide)]; exact h9
  · rw [un (by decide)]; exact h10
  · rw [un (by decide)]; exact h11
  · exact h12
theorem bc_turn {ba ca : IV} {cal : LV} {da : IV} (h : RowOK T r) (hb : BC ba ca cal da r) {t : Int32} {x : Int64} (ht : t.toInt = x.toInt) : BC ba (upd ca 6 t) cal da (vp_updL r 31 x) :=
  ⟨cir_turn h hb.1 ht, hb.2.1, hb.2.2.1, hb.2.2.2.1, fun k hk hz => by rw [zr, uLn (by omega)]; exact hb.2.2.2.2 k hk hz⟩
theorem turn_ok (h : RowOK T r) {x : Int64} (hx : x.toInt = 0 ∨ x.toInt = 1) : RowOK T (vp_updL r 31 x) := row_upd h 31 x (fun _ => by show (0 : Int) ≤ _ ∧ _ ≤ (1 : Int); omega) (by decide)
theorem zwhy_cong (h : PSame r r') (hD : zD r ≤ 4) (h0 : r' 22 = r 22) (h1 : r' 37 = r 37) (h2 : r' 38 = r 38) (S L : Int) : zwhy r' S L = zwhy r S L := by
  unfold zwhy zamp; rw [ps_bs h hD h2, ps_us h h1, zr, zr, zr, zr, h0, h 23 (by decide) (by decide)]
theorem flip1 {x : Int64} (hx : x.toInt = 0 ∨ x.toInt = 1) : ((1 : Int64) - x).toInt = 1 - x.toInt ∧ (1 : Int64) - ((1 : Int64) - x) = x := by
  rcases hx with q | q
  · have e : x = 0 := (z64 q 0 0 rfl).mpr rfl
    subst e; decide
  · have e : x = 1 := (z64 q 1 1 rfl).mpr rfl
    subst e; decide
theorem b31 (h : RowOK T r) : (r 31).toInt = 0 ∨ (r 31).toInt = 1 := by have := (row_w h 31 0 1 rfl rfl).2; show zr r 31 = 0 ∨ zr r 31 = 1; omega
/-- a look -/
theorem look_BC (hp : PR w0 w1 w2 w3 w4 r) (h : RowOK T r) (hT : T ≤ 800000000) {ba ca : IV} {cal : LV} {da : IV} (hb : BC ba ca cal da r) (p : Int32) :
    ok_Be_takeLook p ba ca cal da w0 w3 w4 ∧ ok_Mo_look p r ∧ (∃ V : Int, (sp_Be_takeLook p ba ca cal da w0 w3 w4).1.toInt = V ∧ E64 (sp_Mo_look p r).1 V (-9999999) 9999999) ∧
    BC (sp_Be_takeLook p ba ca cal da w0 w3 w4).2.1 (sp_Be_takeLook p ba ca cal da w0 w3 w4).2.2.1 (sp_Be_takeLook p ba ca cal da w0 w3 w4).2.2.2.1 (sp_Be_takeLook p ba ca cal da w0 w3 w4).2.2.2.2 (sp_Mo_look p r).2 ∧
    RowOK (T + 4) (sp_Mo_look p r).2 ∧ Fr r (sp_Mo_look p r).2 := by
  obtain ⟨o1, o2, v1, v2, b1, k1, f1, -, -⟩ := read_BC hp h (by omega) hb
  generalize hy : sp_Be_makeReading ba ca cal da w0 w3 w4 = y at v1 b1
  generalize hm : sp_Mo_makeReading r = m at v2 b1 k1 f1
  have hD1 := (zD_bd k1).2.1
  unfold sp_Be_takeLook ok_Be_takeLook sp_Mo_look ok_Mo_look
  simp only [lettn]
  rw [hy, hm]
  by_cases q : p = 0
  · rw [if_pos q, if_pos q]
    exact ⟨⟨o1, fun _ => trivial, fun w => absurd q w⟩, ⟨o2, fun _ => trivial, fun w => absurd q w⟩, ⟨_, v1, v2⟩, b1, row_mono k1 (by omega), f1⟩
  · rw [if_neg q, if_neg q]
    have t0 := b31 k1
    obtain ⟨t1, t2⟩ := flip1 t0
    have hp1 := ps_PR (fr_ps f1) hp
    have k2 : RowOK (T + 2) (vp_updL m.2 31 ((1 : Int64) - m.2 31)) := turn_ok k1 (by rw [t1]; omega)
    have hw := c_why hp1 k1 b1.1.1
    have hcan := m_can k2
    have eS : zS (vp_updL m.2 31 ((1 : Int64) - m.2 31)) = zS m.2 := zS_cong (uLn (by decide)) (fun d hd => uLn (by omega)) hD1
    have ew : zwhy (vp_updL m.2 31 ((1 : Int64) - m.2 31)) (zS (vp_updL m.2 31 ((1 : Int64) - m.2 31))) (zr (vp_updL m.2 31 ((1 : Int64) - m.2 31)) 32) = zwhy m.2 (zS m.2) (zr m.2 32) := by
      rw [eS, zwhy_cong (ps_upd 31 _ (by omega)) hD1 (uLn (by decide)) (uLn (by decide)) (uLn (by decide))]; rfl
    rw [ew] at hcan
    have hz := z32 hw 0 0 rfl
    by_cases c : sp_Ci_whyBlocked y.2.2.1 w0 = 0
    · have hc := hz.mp c
      have c2 : ¬ sp_Mo_canRead (vp_updL m.2 31 ((1 : Int64) - m.2 31)) = 0 := fun w => (hcan.1.mp w) hc
      rw [if_pos c, if_neg c2]
      -- the second reading
      have key : ∀ t : Int32, t.toInt = 1 - zr m.2 31 → isB t →
          (ok_Be_takeLook_40 y w0 w3 w4 t) ∧ ok_Mo_makeReading (vp_updL m.2 31 ((1 : Int64) - m.2 31)) ∧ (∃ V : Int, (sp_Be_takeLook_40 y w0 w3 w4 t).1.toInt = V ∧ E64 (sp_Mo_look_48 ((m.1 - (sp_Mo_makeReading (vp_updL m.2 31 ((1 : Int64) - m.2 31))).1) / (2 : Int64)) (sp_Mo_makeReading (vp_updL m.2 31 ((1 : Int64) - m.2 31))).2).1 V (-9999999) 9999999) ∧
          BC (sp_Be_takeLook_40 y w0 w3 w4 t).2.1 (sp_Be_takeLook_40 y w0 w3 w4 t).2.2.1 (sp_Be_takeLook_40 y w0 w3 w4 t).2.2.2.1 (sp_Be_takeLook_40 y w0 w3 w4 t).2.2.2.2 (sp_Mo_look_48 ((m.1 - (sp_Mo_makeReading (vp_updL m.2 31 ((1 : Int64) - m.2 31))).1) / (2 : Int64)) (sp_Mo_makeReading (vp_updL m.2 31 ((1 : Int64) - m.2 31))).2).2 ∧
          RowOK (T + 4) (sp_Mo_look_48 ((m.1 - (sp_Mo_makeReading (vp_updL m.2 31 ((1 : Int64) - m.2 31))).1) / (2 : Int64)) (sp_Mo_makeReading (vp_updL m.2 31 ((1 : Int64) - m.2 31))).2).2 ∧ Fr r (sp_Mo_look_48 ((m.1 - (sp_Mo_makeReading (vp_updL m.2 31 ((1 : Int64) - m.2 31))).1) / (2 : Int64)) (sp_Mo_makeReading (vp_updL m.2 31 ((1 : Int64) - m.2 31))).2).2 := by
        intro t ht hB
        have b2 := bc_turn (t := t) (x := (1 : Int64) - m.2 31) k1 b1 (by rw [ht, t1])
        obtain ⟨o3, o4, v3, v4, b3, k3, f3, -, -⟩ := read_BC (ps_PR (ps_upd 31 _ (by omega)) hp1) k2 (by omega) b2
        unfold sp_Be_takeLook_40 ok_Be_takeLook_40 sp_Be_takeLook_67 ok_Be_takeLook_67 sp_Mo_look_48
        simp only [lettn]
        generalize hz9 : sp_Be_makeReading y.2.1 (upd y.2.2.1 6 t) y.2.2.2.1 y.2.2.2.2 w0 w3 w4 = z at v3 b3
        generalize hn9 : sp_Mo_makeReading (vp_updL m.2 31 ((1 : Int64) - m.2 31)) = n at v4 b3 k3 f3
        have n31 : n.2 31 = (1 : Int64) - m.2 31 := by rw [f3 31 (by omega), uLs]
        have z6 : (z.2.2.1 6).toInt = 1 - zr m.2 31 := by rw [b3.1.2.1, zr, n31, t1]
        have back : (1 : Int64) - n.2 31 = m.2 31 := by rw [n31, t2]
        have ff : Fr r (vp_updL n.2 31 ((1 : Int64) - n.2 31)) := by
          intro k hk
          by_cases q3 : k = 31
          · subst q3; rw [uLs, back, f1 31 (by omega)]
          · rw [uLn q3, f3 k hk, uLn q3, f1 k hk]
        have kk : RowOK (T + 4) (vp_updL n.2 31 ((1 : Int64) - n.2 31)) := row_mono (turn_ok k3 (by rw [back]; exact t0)) (by omega)
        have w1 := e64_divc 2 (-9999999) 9999999 (e64_sub v2 v4 (by decide) (by decide)) (show (2 : Int64).toInt = 2 from rfl) (by decide) (by decide) (by decide)
        have w2 := e32_divc 2 (-9999999) 9999999 (e32_sub (a := -9999999) (b := 9999999) (c := -9999999) (d := 9999999) ⟨v1, v2.2⟩ ⟨v3, v4.2⟩ (by decide) (by decide)) (show (2 : Int32).toInt = 2 from rfl) (by decide) (by decide) (by decide)
        have e6 : z.2.2.1 6 = 0 ↔ 1 - zr m.2 31 = 0 := z32 z6 0 0 rfl
        have t0' : zr m.2 31 = 0 ∨ zr m.2 31 = 1 := t0
        by_cases c6 : z.2.2.1 6 = 0
        · rw [if_pos c6]
          exact ⟨⟨hB, o3, fun _ => ⟨isB1, trivial⟩, fun w => absurd c6 w⟩, o4, ⟨_, w2.1, w1⟩, bc_turn k3 b3 (by rw [back]; show (1 : Int) = zr m.2 31; have := e6.mp c6; omega), kk, ff⟩
        · rw [if_neg c6]
          exact ⟨⟨hB, o3, fun w => absurd w c6, fun _ => ⟨isB0, trivial⟩⟩, o4, ⟨_, w2.1, w1⟩, bc_turn k3 b3 (by rw [back]; show (0 : Int) = zr m.2 31; have : ¬ (1 - zr m.2 31 = 0) := fun w => c6 (e6.mpr w); omega), kk, ff⟩
      have e6 : y.2.2.1 6 = 0 ↔ zr m.2 31 = 0 := z32 b1.1.2.1 0 0 rfl
      have t0' : zr m.2 31 = 0 ∨ zr m.2 31 = 1 := t0
      by_cases c6 : y.2.2.1 6 = 0
      · rw [if_pos c6]
        obtain ⟨a1, a2, a3⟩ := key 1 (by have := e6.mp c6; rw [this]; rfl) isB1
        exact ⟨⟨o1, fun w => absurd w q, fun _ => ⟨fun _ => ⟨fun _ => a1, fun w => absurd c6 w⟩, fun w => absurd c w⟩⟩, ⟨o2, fun w => absurd w q, fun _ => ⟨hcan.2, fun w => absurd w c2, fun _ => ⟨a2, trivial⟩⟩⟩, a3⟩
      · rw [if_neg c6]
        obtain ⟨a1, a2, a3⟩ := key 0 (by have : ¬ zr m.2 31 = 0 := fun w => c6 (e6.mpr w); show (0 : Int) = _; omega) isB0
        exact ⟨⟨o1, fun w => absurd w q, fun _ => ⟨fun _ => ⟨fun w => absurd w c6, fun _ => a1⟩, fun w => absurd c w⟩⟩, ⟨o2, fun w => absurd w q, fun _ => ⟨hcan.2, fun w => absurd w c2, fun _ => ⟨a2, trivial⟩⟩⟩, a3⟩
    · have hc : ¬ zwhy m.2 (zS m.2) (zr m.2 32) = 0 := fun w => c (hz.mpr w)
      have c2 : sp_Mo_canRead (vp_updL m.2 31 ((1 : Int64) - m.2 31)) = 0 := hcan.1.mpr hc
      rw [if_neg c, if_pos c2]
      unfold sp_Mo_look_48
      simp only [lettn]
      rw [uLs, t2, updL_2, updL_id rfl]
      exact ⟨⟨o1, fun w => absurd w q, fun _ => ⟨fun w => absurd w c, fun _ => trivial⟩⟩, ⟨o2, fun w => absurd w q, fun _ => ⟨hcan.2, fun _ => trivial, fun w => absurd c2 w⟩⟩, ⟨_, v1, v2⟩, b1, row_mono k1 (by omega), f1⟩
end CO
