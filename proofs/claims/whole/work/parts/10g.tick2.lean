section CL
variable {T : Int} {r r' : LV} {w0 w1 w2 w3 w4 : IV}
theorem m_heats27 (h : RowOK T r) {p q : Int64} {P Q : Int} (hp : E64 p P 0 720001798000) (hq : E64 q Q 0 720001798000) :
    ∃ H1 H2 : Int64, E64 H1 (zheat (zr r 37) P (zr r 14) (zr r 15)) 0 200000 ∧ E64 H2 (zheat (zr r 38) Q (zr r 17) (zr r 18)) 0 200000 ∧ (sp_Mo_heats_27 r p q).2 = vp_updL (vp_updL r 37 H1) 38 H2 ∧
    (sp_Mo_heats_27 r p q).1 = (if H1 = r 37 ∧ H2 = r 38 then 0 else 1) ∧ ok_Mo_heats_27 r p q := by
  have h37 := row_w h 37 0 200000 rfl rfl
  have h38 := row_w h 38 0 200000 rfl rfl
  obtain ⟨k1, -, k2, -⟩ := m_heated h h37 hp
  have h2 : RowOK T (vp_updL r 37 (sp_Mo_heated 13 (r 37) p r)) := row_upd h 37 _ (fun _ => by rw [k1.1]; exact k1.2) (by decide)
  obtain ⟨-, k3, -, k4⟩ := m_heated h2 h38 hq
  have h9 := row_w h 40 (-9223372036854775808) 9223372036854775807 rfl rfl
  refine ⟨_, _, k1, k3, ?_⟩
  unfold sp_Mo_heats_27 ok_Mo_heats_27 sp_Mo_heats_106
  simp only [lettn]
  have e1 : vp_updL (vp_updL r 37 (sp_Mo_heated 13 (r 37) p r)) 38 (sp_Mo_heated 16 (r 38) q (vp_updL r 37 (sp_Mo_heated 13 (r 37) p r))) 37 = sp_Mo_heated 13 (r 37) p r := rfl
  have e2 : vp_updL (vp_updL r 37 (sp_Mo_heated 13 (r 37) p r)) 38 (sp_Mo_heated 16 (r 38) q (vp_updL r 37 (sp_Mo_heated 13 (r 37) p r))) 38 = sp_Mo_heated 16 (r 38) q (vp_updL r 37 (sp_Mo_heated 13 (r 37) p r)) := rfl
  rw [e1, e2]
  by_cases c1 : sp_Mo_heated 13 (r 37) p r = r 37
  · rw [if_pos c1]
    by_cases c2 : sp_Mo_heated 16 (r 38) q (vp_updL r 37 (sp_Mo_heated 13 (r 37) p r)) = r 38
    · rw [if_pos c2, if_pos ⟨c1, c2⟩]; exact ⟨rfl, rfl, k2, k4, trivial⟩
    · rw [if_neg c2, if_neg (fun w => c2 w.2)]; exact ⟨rfl, rfl, k2, k4, trivial⟩
  · rw [if_neg c1, if_neg (fun w => c1 w.1)]; exact ⟨rfl, rfl, k2, k4, trivial⟩
theorem zpw_0 (w : Int) : zpw 0 w = 0 := by unfold zpw; simp
theorem m_heats (h : RowOK T r) (on : Int32) :
    ∃ H1 H2 : Int64, E64 H1 (zH1 r on (zS r) (zr r 32)) 0 200000 ∧ E64 H2 (zH2 r on (zS r) (zr r 32)) 0 200000 ∧ (sp_Mo_heats on r).2 = vp_updL (vp_updL r 37 H1) 38 H2 ∧
    (sp_Mo_heats on r).1 = (if H1 = r 37 ∧ H2 = r 38 then 0 else 1) ∧ ok_Mo_heats on r := by
  unfold sp_Mo_heats ok_Mo_heats sp_Mo_heats_13 ok_Mo_heats_13 zH1 zH2
  simp only [lettn]
  have z0 : E64 (0 : Int64) 0 0 720001798000 := ⟨rfl, by decide, by decide⟩
  by_cases q : on = 0
  · rw [if_pos q, if_pos q, if_pos q, if_pos q]
    obtain ⟨H1, H2, a, b, c, d, e⟩ := m_heats27 h z0 z0
    exact ⟨H1, H2, a, b, c, d, fun _ => ⟨fun _ => e, fun w => absurd q w⟩, fun w => absurd q w⟩
  · rw [if_neg q, if_neg q, if_neg q, if_neg q]
    obtain ⟨p1, o1⟩ := m_pow h 0
    obtain ⟨p2, o2⟩ := m_pow h 1
    rw [if_pos rfl] at p1
    rw [if_neg (by decide)] at p2
    obtain ⟨H1, H2, a, b, c, d, e⟩ := m_heats27 h p1 p2
    exact ⟨H1, H2, a, b, c, d, fun w => absurd w q, fun _ => ⟨o1, fun w => absurd w q, fun _ => ⟨o2, e⟩⟩⟩
def zclamp (v : Int) : Int := if -99999 ≤ v then (if v ≤ 99999 then v else 99999) else -99999
theorem zclamp_hi {v : Int} (h : ¬ v ≤ 99999) : zclamp v = 99999 := by unfold zclamp; rw [if_pos (by omega), if_neg h]
theorem zclamp_lo {v : Int} (h : ¬ -99999 ≤ v) : zclamp v = -99999 := by unfold zclamp; rw [if_neg h]
theorem zclamp_in {v : Int} (h : -99999 ≤ v) (h2 : v ≤ 99999) : zclamp v = v := by unfold zclamp; rw [if_pos h, if_pos h2]
theorem zclamp_bd (v : Int) : -99999 ≤ zclamp v ∧ zclamp v ≤ 99999 := by
  unfold zclamp
  by_cases q : -99999 ≤ v
  · rw [if_pos q]
    by_cases q2 : v ≤ 99999
    · rw [if_pos q2]; omega
    · rw [if_neg q2]; omega
  · rw [if_neg q]; omega
/-- the next number of the draws -/
def nxt (v : Int32) : Int32 := v * 1103515245 + 12345
/-- what a tick makes of the row -/
def TickR (r r' : LV) (on : Int32) : Prop :=
  (∀ k, k ≠ 27 → k ≠ 28 → k ≠ 37 → k ≠ 38 → k ≠ 39 → k ≠ 40 → r' k = r k) ∧ zr r' 37 = zH1 r on (zS r) (zr r 32) ∧ zr r' 38 = zH2 r on (zS r) (zr r 32) ∧
  (∃ P : Int64, P.toInt = (if on = 0 then 0 else zpw (zamp r (zS r) (zr r 32)) (zuw r)) ∧ r' 40 = r 40 + P) ∧ r' 28 = (nxt (r 28).toInt32).toInt64 ∧
  zr r' 27 = zclamp (zr r 27 + zsh (nxt (r 28).toInt32) % (2 * zr r 26 + 1) - zr r 26) ∧ zr r' 39 = zr r 39 + 1
theorem zS_cong (h : r' 0 = r 0) (h2 : ∀ d, d < 4 → r' (33 + d) = r (33 + d)) (hD : zD r ≤ 4) : zS r' = zS r := by
  have e : zD r' = zD r := by unfold zD zr; rw [h]
  unfold zS
  rw [e]
  exact zset_cong _ (fun d hd => h2 d (by omega))
theorem r28_ok (T : Int) (v : Int32) : rLo 28 ≤ v.toInt ∧ v.toInt ≤ rHi T 28 := by
  have h := rg32 v
  have e1 : rLo 28 = -2147483648 := rfl
  have e2 : rHi T 28 = 2147483647 := rfl
  omega
theorem m_tick (h : RowOK T r) (hT : T ≤ 1000000000) (on : Int32) : TickR r (sp_Mo_tick on r) on ∧ RowOK (T + 1) (sp_Mo_tick on r) ∧ ok_Mo_tick on r := by
  have hD := (zD_bd h).2.1
  have key : ∀ P : Int64, P.toInt = (if on = 0 then 0 else zpw (zamp r (zS r) (zr r 32)) (zuw r)) → TickR r (sp_Mo_tick_21 r on P) on ∧ RowOK (T + 1) (sp_Mo_tick_21 r on P) ∧ ok_Mo_tick_21 r on P := by
    intro P hP
    unfold sp_Mo_tick_21 ok_Mo_tick_21
    simp only [lettn]
    have ha : RowOK T (vp_updL r 40 (r 40 + P)) := row_upd h 40 _ (fun _ => by have := rg64 (r 40 + P); show (-9223372036854775808 : Int) ≤ _ ∧ _ ≤ (9223372036854775807 : Int); omega) (by decide)
    generalize hra : vp_updL r 40 (r 40 + P) = ra at ha ⊢
    have era : ∀ k, k ≠ 40 → ra k = r k := fun k hk => by rw [← hra]; exact uLn hk
    have era40 : ra 40 = r 40 + P := by rw [← hra]; exact uLs
    have psa : PSame r ra := fun k h1 _ => era k (by omega)
    obtain ⟨H1, H2, k1, k2, k3, k4, k5⟩ := m_heats ha on
    have eS : zS ra = zS r := zS_cong (era 0 (by decide)) (fun d hd => era (33 + d) (by omega)) hD
    have eb : ∀ S L, zbs ra S L = zbs r S L := fun S L => ps_bs psa hD (era 38 (by decide)) S L
    have eu : ∀ L, zus ra L = zus r L := fun L => ps_us psa (era 37 (by decide)) L
    have eam : ∀ S L, zamp ra S L = zamp r S L := fun S L => by unfold zamp; rw [eb, eu, zr, zr, era 22 (by decide)]
    have e1 : zH1 ra on (zS ra) (zr ra 32) = zH1 r on (zS r) (zr r 32) := by
      unfold zH1; rw [eS, eam, ps_uw psa (era 37 (by decide))]; unfold zr; rw [era 37 (by decide), era 14 (by decide), era 15 (by decide), era 32 (by decide)]
    have e2 : zH2 ra on (zS ra) (zr ra 32) = zH2 r on (zS r) (zr r 32) := by
      unfold zH2; rw [eS, eam, ps_bw psa hD (era 38 (by decide))]; unfold zr; rw [era 38 (by decide), era 17 (by decide), era 18 (by decide), era 32 (by decide)]
    rw [e1] at k1; rw [e2] at k2
    have hb : RowOK T (vp_updL (vp_updL ra 37 H1) 38 H2) := row_upd (row_upd ha 37 _ (fun _ => by rw [k1.1]; exact k1.2) (by decide)) 38 _ (fun _ => by rw [k2.1]; exact k2.2) (by decide)
    rw [← k3] at hb
    have erb : ∀ k, k ≠ 37 → k ≠ 38 → (sp_Mo_heats on ra).2 k = ra k := fun k h1 h2 => by rw [k3, uLn h2, uLn h1]
    have erb37 : (sp_Mo_heats on ra).2 37 = H1 := by rw [k3, uLn (by decide), uLs]
    have erb38 : (sp_Mo_heats on ra).2 38 = H2 := by rw [k3, uLs]
    generalize hrb : (sp_Mo_heats on ra).2 = rb at hb erb erb37 erb38 ⊢
    have d26 := row_w hb 26 0 999 rfl rfl
    have kn := e64_add (e64_mul 0 1998 (e64_lit 2 (2 : Int64) rfl) d26 (by decide) (by decide) (by decide)) (e64_lit 1 (1 : Int64) rfl) (by decide) (by decide)
    obtain ⟨g1, g2, g3⟩ := m_draw (e64_w 1 1999 (X := 2 * zr rb 26 + 1) kn (by decide) (by decide) |> fun w => w) rb
    have hd : E64 ((sp_Mo_draw ((2 : Int64) * rb 26 + 1) rb).2 26) (zr rb 26) 0 999 := by rw [g2, uLn (by decide)]; exact d26
    have kz := e64_sub (e64_add (row_w hb 27 (-99999) 99999 rfl rfl) g1 (by decide) (by decide)) hd (by decide) (by decide)
    have kb := m_bound kz (show (-99999 : Int64).toInt = -99999 from rfl) (show (99999 : Int64).toInt = 99999 from rfl) (by decide)
    have e28 : rb 28 = r 28 := by rw [erb 28 (by decide) (by decide), era 28 (by decide)]
    have hc : RowOK T (sp_Mo_draw ((2 : Int64) * rb 26 + 1) rb).2 := by
      rw [g2]
      exact row_upd hb 28 _ (fun _ => by rw [Kit.i64_of_i32]; exact r28_ok _ _) (by decide)
    have hd9 := row_upd hc 27 _ (fun _ => by rw [kb.1]; exact kb.2) (by decide)
    have e39 : zr (vp_updL (sp_Mo_draw ((2 : Int64) * rb 26 + 1) rb).2 27 (sp_Mo_bound (rb 27 + (sp_Mo_draw ((2 : Int64) * rb 26 + 1) rb).1 - (sp_Mo_draw ((2 : Int64) * rb 26 + 1) rb).2 26) (-99999) 99999)) 39 = zr r 39 := by
      unfold zr; rw [uLn (by decide), g2, uLn (by decide), erb 39 (by decide) (by decide), era 39 (by decide)]
    have b39 := row_w h 39 0 T rfl rfl
    have k39 := e64_add (X := zr r 39) (a := 0) (b := T) ⟨e39, b39.2⟩ (e64_lit 1 (1 : Int64) rfl) (by decide) (by omega)
    have hz := row_upd (row_mono hd9 (show T ≤ T + 1 by omega)) 39 _ (fun _ => by rw [k39.1]; show (0 : Int) ≤ _ ∧ _ ≤ T + 1; have := k39.2; omega) (by decide)
    refine ⟨⟨fun k a1 a2 a3 a4 a5 a6 => ?_, ?_, ?_, ⟨P, hP, ?_⟩, ?_, ?_, ?_⟩, hz, k5, g3, trivial⟩
    · rw [uLn a5, uLn a1, g2, uLn a2, erb k a3 a4, era k a6]
    · unfold zr; rw [uLn (by decide), uLn (by decide), g2, uLn (by decide), erb37]; exact k1.1
    · unfold zr; rw [uLn (by decide), uLn (by decide), g2, uLn (by decide), erb38]; exact k2.1
    · rw [uLn (by decide), uLn (by decide), g2, uLn (by decide), erb 40 (by decide) (by decide), era40]
    · rw [uLn (by decide), uLn (by decide), g2, uLs, e28]; rfl
    · unfold zr; rw [uLn (by decide), uLs, kb.1, e28]
      unfold zr; rw [erb 27 (by decide) (by decide), erb 26 (by decide) (by decide), era 27 (by decide), era 26 (by decide)]; rfl
    · unfold zr; rw [uLs]; exact k39.1
  unfold sp_Mo_tick ok_Mo_tick
  simp only [lettn]
  by_cases q : on = 0
  · rw [if_pos q]
    obtain ⟨a, b, c⟩ := key 0 (by rw [if_pos q]; rfl)
    exact ⟨a, b, fun _ => c, fun w => absurd q w⟩
  · rw [if_neg q]
    obtain ⟨p1, o1⟩ := m_pow h 0
    rw [if_pos rfl] at p1
    obtain ⟨a, b, c⟩ := key (sp_Mo_powerOf 0 r) (by rw [if_neg q]; exact p1.1)
    exact ⟨a, b, fun w => absurd w q, fun _ => ⟨o1, c⟩⟩
/-! ===== the class's tick ===== -/
/-- what a tick makes of the class's circuit, by the row ahead of it and any row behind it -/
theorem c_tick (hp : PR w0 w1 w2 w3 w4 r) (h : RowOK T r) {ca : IV} {cal : LV} {S L : Int} {f g : Nat} (hc : CiR ca r S f g L) (on : Int32) :
    ok_Ci_tick on ca cal w0 w3 w4 ∧
    (∀ (U : Int) (r' : LV), RowOK U r' → PSame r r' → r' 22 = r 22 → zr r' 37 = zH1 r on S L → zr r' 38 = zH2 r on S L → CiR (sp_Ci_tick on ca cal w0 w3 w4).1 r' S f g L) ∧
    (sp_Ci_tick on ca cal w0 w3 w4).1 6 = ca 6 ∧ (sp_Ci_tick on ca cal w0 w3 w4).1 11 = nxt (ca 11) ∧ (sp_Ci_tick on ca cal w0 w3 w4).1 10 = ca 10 + 1 ∧
    ((-99999 ≤ (ca 9).toInt ∧ (ca 9).toInt ≤ 99999) → ((sp_Ci_tick on ca cal w0 w3 w4).1 9).toInt = zclamp ((ca 9).toInt + zsh (nxt (ca 11)) % (2 * zr r 26 + 1) - zr r 26)) ∧
    (∃ P : Int64, P.toInt = (if on = 0 then 0 else zpw (zamp r S L) (zuw r)) ∧ (sp_Ci_tick on ca cal w0 w3 w4).2 12 = cal 12 + P) ∧
    ((sp_Ci_tick on ca cal w0 w3 w4).1 7).toInt = zH1 r on S L ∧ ((sp_Ci_tick on ca cal w0 w3 w4).1 8).toInt = zH2 r on S L := by
  have hD := (zD_bd h).2.1
  have hcc := hc
  obtain ⟨c1, c2, c3, c4, c5, c6, c7, c8, c9, c10, c11, c12, c13, c14, c15, c16, c17⟩ := hc
  have q15 : E32 (ca 15) (zuw r) 0 720001798 := ⟨c14, by have := zuw_bd h; omega⟩
  have q16 : E32 (ca 16) (zbw r S) 0 720001798 := ⟨c15, zbw_bd h c2⟩
  have q7 : E32 (ca 7) (zr r 37) 0 200000 := ⟨c10, (row_w h 37 0 200000 rfl rfl).2⟩
  have q8 : E32 (ca 8) (zr r 38) 0 200000 := ⟨c11, (row_w h 38 0 200000 rfl rfl).2⟩
  have key : ∀ (P1 P2 t : Int64) (Z1 Z2 : Int), Z1 = (if on = 0 then 0 else zpw (zamp r S L) (zuw r)) → Z2 = (if on = 0 then 0 else zpw (zamp r S L) (zbw r S)) → E64 (sp_Ci_powerBy t (ca 15)) Z1 0 720001798000 → E64 (sp_Ci_powerBy t (ca 16)) Z2 0 720001798000 →
    ok_Ci_tick_12 ca w3 w4 cal w0 t ∧
    (∀ (U : Int) (r' : LV), RowOK U r' → PSame r r' → r' 22 = r 22 → zr r' 37 = zH1 r on S L → zr r' 38 = zH2 r on S L → CiR (sp_Ci_tick_12 ca w3 w4 cal w0 t).1 r' S f g L) ∧
    (sp_Ci_tick_12 ca w3 w4 cal w0 t).1 6 = ca 6 ∧ (sp_Ci_tick_12 ca w3 w4 cal w0 t).1 11 = nxt (ca 11) ∧ (sp_Ci_tick_12 ca w3 w4 cal w0 t).1 10 = ca 10 + 1 ∧
    ((-99999 ≤ (ca 9).toInt ∧ (ca 9).toInt ≤ 99999) → ((sp_Ci_tick_12 ca w3 w4 cal w0 t).1 9).toInt = zclamp ((ca 9).toInt + zsh (nxt (ca 11)) % (2 * zr r 26 + 1) - zr r 26)) ∧
    (∃ P : Int64, P.toInt = (if on = 0 then 0 else zpw (zamp r S L) (zuw r)) ∧ (sp_Ci_tick_12 ca w3 w4 cal w0 t).2 12 = cal 12 + P) ∧
    ((sp_Ci_tick_12 ca w3 w4 cal w0 t).1 7).toInt = zH1 r on S L ∧ ((sp_Ci_tick_12 ca w3 w4 cal w0 t).1 8).toInt = zH2 r on S L := by
    intro P1 P2 t Z1 Z2 hZ1 hZ2 b1 b2
    have H1 := c_heat (hw := w3) q7 b1 (pr_e hp h 14 0 999 (rfl : w3 1 = _) rfl rfl) (pr_e hp h 15 0 99 (rfl : w3 2 = _) rfl rfl)
    have H2 := c_heat (hw := w4) q8 b2 (pr_e hp h 17 0 999 (rfl : w4 1 = _) rfl rfl) (pr_e hp h 18 0 99 (rfl : w4 2 = _) rfl rfl)
    rw [hZ1] at H1
    rw [hZ2] at H2
    have d26 := pr_e hp h 26 0 999 (rfl : w0 15 = _) rfl rfl
    have kn := e32_add (e32_mul 0 1998 (e32_lit 2 (2 : Int32) rfl) d26 (by decide) (by decide) (by decide)) (e32_lit 1 (1 : Int32) rfl) (by decide) (by decide)
    unfold sp_Ci_tick_12 ok_Ci_tick_12
    simp only [lettn]
    -- the circuit ahead of the draw
    generalize hcb : upd (upd ca 7 (sp_He_behindTick (ca 7) (sp_Ci_powerBy t (ca 15)) w3)) 8 (sp_He_behindTick (upd ca 7 (sp_He_behindTick (ca 7) (sp_Ci_powerBy t (ca 15)) w3) 8) (sp_Ci_powerBy t (ca 16)) w4) = cb
    have ecb : ∀ k, k ≠ 7 → k ≠ 8 → cb k = ca k := fun k h1 h2 => by rw [← hcb, un h2, un h1]
    have ecb7 : cb 7 = sp_He_behindTick (ca 7) (sp_Ci_powerBy t (ca 15)) w3 := by rw [← hcb, un (by decide), us]
    have ecb8 : cb 8 = sp_He_behindTick (ca 8) (sp_Ci_powerBy t (ca 16)) w4 := by rw [← hcb, us, un (by decide)]
    obtain ⟨g1, g2, g3⟩ := c_draw (e32_w 1 1999 kn (by decide) (by decide)) cb
    have e11 : cb 11 = ca 11 := ecb 11 (by decide) (by decide)
    -- behind the draw: zero, time, survey
    have tail : ∀ z9 : Int32, (sp_Ci_tick_140 (sp_Ci_draw ((2 : Int32) * w0 15 + 1) cb) w0 w3 w4 (vp_updL cal 12 (cal 12 + sp_Ci_powerBy t (ca 15))) z9).2 = vp_updL cal 12 (cal 12 + sp_Ci_powerBy t (ca 15)) ∧ (∀ j, j < 15 → j ≠ 9 → j ≠ 10 → (sp_Ci_tick_140 (sp_Ci_draw ((2 : Int32) * w0 15 + 1) cb) w0 w3 w4 (vp_updL cal 12 (cal 12 + sp_Ci_powerBy t (ca 15))) z9).1 j = (upd cb 11 (nxt (ca 11))) j) ∧ (sp_Ci_tick_140 (sp_Ci_draw ((2 : Int32) * w0 15 + 1) cb) w0 w3 w4 (vp_updL cal 12 (cal 12 + sp_Ci_powerBy t (ca 15))) z9).1 9 = z9 ∧ (sp_Ci_tick_140 (sp_Ci_draw ((2 : Int32) * w0 15 + 1) cb) w0 w3 w4 (vp_updL cal 12 (cal 12 + sp_Ci_powerBy t (ca 15))) z9).1 10 = ca 10 + 1 ∧ (∀ (U : Int) (r' : LV), RowOK U r' → PSame r r' → r' 22 = r 22 → zr r' 37 = zH1 r on S L → zr r' 38 = zH2 r on S L → CiR (sp_Ci_tick_140 (sp_Ci_draw ((2 : Int32) * w0 15 + 1) cb) w0 w3 w4 (vp_updL cal 12 (cal 12 + sp_Ci_powerBy t (ca 15))) z9).1 r' S f g L) := by
      intro z9
      unfold sp_Ci_tick_140
      simp only [lettn]
      rw [g2, e11]
      show _ ∧ (∀ j, j < 15 → j ≠ 9 → j ≠ 10 → _ = upd cb 11 (nxt (ca 11)) j) ∧ _
      generalize hcd : upd cb 11 (ca 11 * 1103515245 + 12345) = cd
      have ecd : ∀ k, k ≠ 11 → cd k = cb k := fun k h1 => by rw [← hcd, un h1]
      have hcd2 : upd cb 11 (nxt (ca 11)) = cd := hcd
      have sv : ∀ (U : Int) (r' : LV), RowOK U r' → PSame r r' → r' 22 = r 22 → zr r' 37 = zH1 r on S L → zr r' 38 = zH2 r on S L → _ := fun U r' hU hs h22 h37 h38 => c_survey (ca := upd (upd cd 9 z9) 10 (upd cd 9 z9 10 + 1)) (ps_PR hs hp) hU (S := S) (L := L) c2 c8 (by rw [un (by decide), un (by decide), ecd 4 (by decide), ecb 4 (by decide) (by decide)]; exact c7) (by rw [un (by decide), un (by decide), ecd 7 (by decide), ecb7, H1.1]; exact h37.symm) (by rw [un (by decide), un (by decide), ecd 8 (by decide), ecb8, H2.1]; exact h38.symm) (by rw [un (by decide), un (by decide), ecd 14 (by decide), ecb 14 (by decide) (by decide), ps_cold hs hD]; exact c13)
      have fr : ∀ j, j < 15 → sp_Ci_survey (upd (upd cd 9 z9) 10 (upd cd 9 z9 10 + 1)) w0 w3 w4 j = upd (upd cd 9 z9) 10 (upd cd 9 z9 10 + 1) j := by
        intro j hj
        unfold sp_Ci_survey sp_Ci_survey_92 sp_Ci_survey_123 sp_Ci_survey_148
        simp only [lettn]
        have n1 : j ≠ 18 := by omega
        have n2 : j ≠ 17 := by omega
        have n3 : j ≠ 16 := by omega
        have n4 : j ≠ 15 := by omega
        split <;> simp [un n1, un n2, un n3, un n4]
      rw [hcd2]
      refine ⟨trivial, fun j hj h9 h10 => by rw [fr j hj, un h10, un h9], ?_, ?_, fun U r' hU hs h22 h37 h38 => ?_⟩
      · rw [fr 9 (by decide), un (by decide), us]
      · rw [fr 10 (by decide), us, un (by decide), ecd 10 (by decide), ecb 10 (by decide) (by decide)]
      · obtain ⟨s1, s2, s3, s4, s5⟩ := sv U r' hU hs h22 h37 h38
        refine ⟨?_, c2, ?_, c4, ?_, c6, ?_, c8, ?_, ?_, ?_, ?_, ?_, s2, s3, s4, s5⟩
        · rw [s1 5 (by decide), un (by decide), un (by decide), ecd 5 (by decide), ecb 5 (by decide) (by decide)]; exact c1
        · rw [s1 1 (by decide), un (by decide), un (by decide), ecd 1 (by decide), ecb 1 (by decide) (by decide)]; exact c3
        · rw [s1 2 (by decide), un (by decide), un (by decide), ecd 2 (by decide), ecb 2 (by decide) (by decide)]; exact c5
        · rw [s1 4 (by decide), un (by decide), un (by decide), ecd 4 (by decide), ecb 4 (by decide) (by decide)]; exact c7
        · rw [s1 3 (by decide), un (by decide), un (by decide), ecd 3 (by decide), ecb 3 (by decide) (by decide), zr, h22]; exact c9
        · rw [s1 7 (by decide), un (by decide), un (by decide), ecd 7 (by decide), ecb7, H1.1]; exact h37.symm
        · rw [s1 8 (by decide), un (by decide), un (by decide), ecd 8 (by decide), ecb8, H2.1]; exact h38.symm
        · rw [s1 13 (by decide), un (by decide), un (by decide), ecd 13 (by decide), ecb 13 (by decide) (by decide), ps_ash hs c4 c6]; exact c12
        · rw [s1 14 (by decide), un (by decide), un (by decide), ecd 14 (by decide), ecb 14 (by decide) (by decide), ps_cold hs hD]; exact c13
    -- whatever the zero is
    have pick : ∃ z9 : Int32, (if cb 9 + (sp_Ci_draw ((2 : Int32) * w0 15 + 1) cb).1 - w0 15 ≤ (99999 : Int32) then sp_Ci_tick_125 (sp_Ci_draw ((2 : Int32) * w0 15 + 1) cb) w0 w3 w4 (vp_updL cal 12 (cal 12 + sp_Ci_powerBy t (ca 15))) (cb 9 + (sp_Ci_draw ((2 : Int32) * w0 15 + 1) cb).1 - w0 15) else sp_Ci_tick_125 (sp_Ci_draw ((2 : Int32) * w0 15 + 1) cb) w0 w3 w4 (vp_updL cal 12 (cal 12 + sp_Ci_powerBy t (ca 15))) (99999 : Int32)) = sp_Ci_tick_140 (sp_Ci_draw ((2 : Int32) * w0 15 + 1) cb) w0 w3 w4 (vp_updL cal 12 (cal 12 + sp_Ci_powerBy t (ca 15))) z9 ∧ ((-99999 ≤ (ca 9).toInt ∧ (ca 9).toInt ≤ 99999) → z9.toInt = zclamp ((ca 9).toInt + zsh (nxt (ca 11)) % (2 * zr r 26 + 1) - zr r 26)) := by
      unfold sp_Ci_tick_125
      have g1' : E32 (sp_Ci_draw ((2 : Int32) * w0 15 + 1) cb).1 (zsh (nxt (ca 11)) % (2 * zr r 26 + 1)) 0 65535 := by rw [e11] at g1; exact g1
      have e9 : cb 9 = ca 9 := ecb 9 (by decide) (by decide)
      rw [e9]
      have num : (-99999 ≤ (ca 9).toInt ∧ (ca 9).toInt ≤ 99999) → E32 (ca 9 + (sp_Ci_draw ((2 : Int32) * w0 15 + 1) cb).1 - w0 15) ((ca 9).toInt + zsh (nxt (ca 11)) % (2 * zr r 26 + 1) - zr r 26) (-100998) 165534 := fun q => e32_w _ _ (e32_sub (e32_add (a := -99999) (b := 99999) ⟨rfl, q⟩ g1' (by decide) (by decide)) d26 (by decide) (by decide)) (by decide) (by decide)
      by_cases q1 : ca 9 + (sp_Ci_draw ((2 : Int32) * w0 15 + 1) cb).1 - w0 15 ≤ (99999 : Int32)
      · rw [if_pos q1]
        by_cases q2 : (-99999 : Int32) ≤ ca 9 + (sp_Ci_draw ((2 : Int32) * w0 15 + 1) cb).1 - w0 15
        · rw [if_pos q2]
          refine ⟨_, rfl, fun q => ?_⟩
          have n := num q
          rw [Int32.le_iff_toInt_le, n.1, show (99999 : Int32).toInt = 99999 from rfl] at q1
          rw [Int32.le_iff_toInt_le, n.1, show (-99999 : Int32).toInt = -99999 from rfl] at q2
          rw [zclamp_in q2 q1]; exact n.1
        · rw [if_neg q2]
          refine ⟨_, rfl, fun q => ?_⟩
          have n := num q
          rw [Int32.le_iff_toInt_le, n.1, show (99999 : Int32).toInt = 99999 from rfl] at q1
          rw [Int32.le_iff_toInt_le, n.1, show (-99999 : Int32).toInt = -99999 from rfl] at q2
          rw [zclamp_lo q2]; rfl
      · rw [if_neg q1, if_pos (by decide)]
        refine ⟨_, rfl, fun q => ?_⟩
        have n := num q
        rw [Int32.le_iff_toInt_le, n.1, show (99999 : Int32).toInt = 99999 from rfl] at q1
        rw [zclamp_hi q1]; rfl
    obtain ⟨z9, ez, hz9⟩ := pick
    rw [ez]
    obtain ⟨t1, t2, t3, t4, t5⟩ := tail z9
    refine ⟨⟨g3, trivial⟩, t5, ?_, ?_, t4, fun q => by rw [t3]; exact hz9 q, ⟨sp_Ci_powerBy t (ca 15), by rw [b1.1, hZ1], by rw [t1, uLs]⟩, ?_, ?_⟩
    · rw [t2 6 (by decide) (by decide) (by decide), un (by decide), ecb 6 (by decide) (by decide)]
    · rw [t2 11 (by decide) (by decide) (by decide), us]
    · rw [t2 7 (by decide) (by decide) (by decide), un (by decide), ecb7]; exact H1.1
    · rw [t2 8 (by decide) (by decide) (by decide), un (by decide), ecb8]; exact H2.1
  unfold sp_Ci_tick ok_Ci_tick
  simp only [lettn]
  by_cases q : on = 0
  · rw [if_pos q]
    have z0 : E64 (0 : Int64) 0 0 20000000000 := ⟨rfl, by decide, by decide⟩
    have b1 := c_pw z0 q15
    have b2 := c_pw z0 q16
    rw [zpw_0] at b1 b2
    obtain ⟨k0, k1⟩ := key 0 0 0 0 0 (by rw [if_pos q]) (by rw [if_pos q]) b1 b2
    exact ⟨⟨fun _ => k0, fun w => absurd q w⟩, k1⟩
  · rw [if_neg q]
    have ba := c_amp h hcc
    obtain ⟨k0, k1⟩ := key 0 0 (sp_Ci_amperes ca) _ _ (by rw [if_neg q]) (by rw [if_neg q]) (c_pw ba q15) (c_pw ba q16)
    exact ⟨⟨fun w => absurd w q, fun _ => k0⟩, k1⟩
end CL
