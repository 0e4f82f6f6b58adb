section CM
variable {T : Int} {r r' : LV} {w0 w1 w2 w3 w4 : IV}
/-! ===== the class's circuit set anew ===== -/
theorem sv_fr (ca : IV) (w0 w3 w4 : IV) : ∀ j, j < 15 → sp_Ci_survey ca w0 w3 w4 j = ca j := by
  intro j hj
  unfold sp_Ci_survey sp_Ci_survey_92 sp_Ci_survey_123 sp_Ci_survey_148
  simp only [lettn]
  have n1 : j ≠ 18 := by omega
  have n2 : j ≠ 17 := by omega
  have n3 : j ≠ 16 := by omega
  have n4 : j ≠ 15 := by omega
  split <;> simp [un n1, un n2, un n3, un n4]
theorem c_dial (hp : PR w0 w1 w2 w3 w4 r) (h : RowOK T r) {ca : IV} {S L : Int} {f g : Nat} (hc : CiR ca r S f g L) {s : Int32} {Z : Int} (hs : E32 s Z 0 9999) :
    CiR (sp_Ci_dial s ca w0 w1 w3 w4) r Z f g L ∧ ok_Ci_dial s ca w0 w1 ∧ (∀ j, j < 15 → j ≠ 5 → j ≠ 14 → sp_Ci_dial s ca w0 w1 w3 w4 j = ca j) := by
  obtain ⟨c1, c2, c3, c4, c5, c6, c7, c8, c9, c10, c11, c12, c13, c14, c15, c16, c17⟩ := hc
  obtain ⟨k1, k2⟩ := c_cold hp h hs
  unfold sp_Ci_dial ok_Ci_dial
  simp only [lettn]
  obtain ⟨s1, s2, s3, s4, s5⟩ := c_survey (ca := upd (upd ca 5 s) 14 (sp_Pa_coldAt s w0 w1)) hp h (S := Z) (L := L) hs.2 c8 c7 c10 c11 k1.1
  refine ⟨⟨?_, hs.2, ?_, c4, ?_, c6, ?_, c8, ?_, ?_, ?_, ?_, ?_, s2, s3, s4, s5⟩, ⟨k2, trivial⟩, fun j hj h5 h14 => ?_⟩
  · rw [s1 5 (by decide), un (by decide), us]; exact hs.1
  · rw [s1 1 (by decide), un (by decide), un (by decide)]; exact c3
  · rw [s1 2 (by decide), un (by decide), un (by decide)]; exact c5
  · rw [s1 4 (by decide), un (by decide), un (by decide)]; exact c7
  · rw [s1 3 (by decide), un (by decide), un (by decide)]; exact c9
  · rw [s1 7 (by decide), un (by decide), un (by decide)]; exact c10
  · rw [s1 8 (by decide), un (by decide), un (by decide)]; exact c11
  · rw [s1 13 (by decide), un (by decide), un (by decide)]; exact c12
  · rw [s1 14 (by decide), us]; exact k1.1
  · rw [s1 j hj, un h14, un h5]
theorem c_wire (hp : PR w0 w1 w2 w3 w4 r) (h : RowOK T r) {ca : IV} {S L : Int} {f g : Nat} (hc : CiR ca r S f g L) {l : Int32} {M : Int} (hl : l.toInt = M) (hM : M = 2 ∨ M = 3) :
    CiR (sp_Ci_wire l ca w0 w3 w4) r S f g M ∧ (∀ j, j < 15 → j ≠ 4 → sp_Ci_wire l ca w0 w3 w4 j = ca j) ∧ sp_Ci_wire l ca w0 w3 w4 4 = l := by
  obtain ⟨c1, c2, c3, c4, c5, c6, c7, c8, c9, c10, c11, c12, c13, c14, c15, c16, c17⟩ := hc
  unfold sp_Ci_wire
  simp only [lettn]
  obtain ⟨s1, s2, s3, s4, s5⟩ := c_survey (ca := upd ca 4 l) hp h (S := S) (L := M) c2 hM hl c10 c11 c13
  refine ⟨⟨?_, c2, ?_, c4, ?_, c6, ?_, hM, ?_, ?_, ?_, ?_, ?_, s2, s3, s4, s5⟩, fun j hj h4 => by rw [s1 j hj, un h4], by rw [s1 4 (by decide), us]⟩
  · rw [s1 5 (by decide), un (by decide)]; exact c1
  · rw [s1 1 (by decide), un (by decide)]; exact c3
  · rw [s1 2 (by decide), un (by decide)]; exact c5
  · rw [s1 4 (by decide), us]; exact hl
  · rw [s1 3 (by decide), un (by decide)]; exact c9
  · rw [s1 7 (by decide), un (by decide)]; exact c10
  · rw [s1 8 (by decide), un (by decide)]; exact c11
  · rw [s1 13 (by decide), un (by decide)]; exact c12
  · rw [s1 14 (by decide), un (by decide)]; exact c13
theorem c_choose (hp : PR w0 w1 w2 w3 w4 r) (h : RowOK T r) {ca : IV} {S L : Int} {f g : Nat} (hc : CiR ca r S f g L) {a b : Nat} (ha : a < 5) (hb : b < 5) :
    CiR (sp_Ci_choose (nI a) (nI b) ca w2) r S a b L ∧ (∀ j, j ≠ 1 → j ≠ 2 → j ≠ 13 → sp_Ci_choose (nI a) (nI b) ca w2 j = ca j) ∧ sp_Ci_choose (nI a) (nI b) ca w2 1 = nI a ∧ sp_Ci_choose (nI a) (nI b) ca w2 2 = nI b := by
  obtain ⟨c1, c2, c3, c4, c5, c6, c7, c8, c9, c10, c11, c12, c13, c14, c15, c16, c17⟩ := hc
  have k1 := e64_of32 (c_val hp h ha)
  have k2 := e64_of32 (c_val hp h hb)
  have k3 := e64_add k1 k2 (by decide) (by decide)
  have k4 := e64_mul 0 10500000000000000 (e64_lit 1000000000 (1000000000 : Int64) rfl) k2 (by decide) (by decide) (by decide)
  have k5 := e64_div 0 10500000000000000 k4 k3 (by decide) (by decide) (by decide) (by decide) (by decide)
  have k6 : E32 (((1000000000 : Int64) * (sp_Pa_valueOfKind (nI b) w2).toInt64) / ((sp_Pa_valueOfKind (nI a) w2).toInt64 + (sp_Pa_valueOfKind (nI b) w2).toInt64)).toInt32 (zash r a b) 0 1000000000 := e32_of64 ⟨k5.1, zash_bd h ha hb⟩ (by decide) (by decide)
  have e2 : upd (upd ca 1 (nI a)) 2 (nI b) 2 = nI b := us
  have e1 : upd (upd ca 1 (nI a)) 2 (nI b) 1 = nI a := by rw [un (by decide), us]
  have ev : sp_Ci_choose (nI a) (nI b) ca w2 = upd (upd (upd ca 1 (nI a)) 2 (nI b)) 13 (((1000000000 : Int64) * (sp_Pa_valueOfKind (nI b) w2).toInt64) / ((sp_Pa_valueOfKind (nI a) w2).toInt64 + (sp_Pa_valueOfKind (nI b) w2).toInt64)).toInt32 := by
    unfold sp_Ci_choose sp_Ci_choose_60
    simp only [lettn]
    rw [e2, e1, if_neg (e64_ne0 k3 (by decide))]
  rw [ev]
  refine ⟨⟨?_, c2, ?_, ha, ?_, hb, ?_, c8, ?_, ?_, ?_, ?_, ?_, ?_, ?_, ?_, ?_⟩, fun j h1 h2 h3 => by rw [un h3, un h2, un h1], ?_, ?_⟩
  · rw [un (by decide), un (by decide), un (by decide)]; exact c1
  · rw [un (by decide), un (by decide), us]
  · rw [un (by decide), us]
  · rw [un (by decide), un (by decide), un (by decide)]; exact c7
  · rw [un (by decide), un (by decide), un (by decide)]; exact c9
  · rw [un (by decide), un (by decide), un (by decide)]; exact c10
  · rw [un (by decide), un (by decide), un (by decide)]; exact c11
  · rw [us]; exact k6.1
  · rw [un (by decide), un (by decide), un (by decide)]; exact c13
  · rw [un (by decide), un (by decide), un (by decide)]; exact c14
  · rw [un (by decide), un (by decide), un (by decide)]; exact c15
  · rw [un (by decide), un (by decide), un (by decide)]; exact c16
  · rw [un (by decide), un (by decide), un (by decide)]; exact c17
  · rw [un (by decide), un (by decide), us]
  · rw [un (by decide), us]
theorem z32 {x : Int32} {X : Int} (h : x.toInt = X) (n : Int32) (N : Int) (hn : n.toInt = N) : x = n ↔ X = N := by rw [← Int32.toInt_inj, h, hn]
theorem z64 {x : Int64} {X : Int} (h : x.toInt = X) (n : Int64) (N : Int) (hn : n.toInt = N) : x = n ↔ X = N := by rw [← Int64.toInt_inj, h, hn]
/-- why no reading can be made -/
def zwhy (r : LV) (S L : Int) : Int := if zr r 22 = 0 then 1 else if zamp r S L ≤ zr r 23 then 0 else 2
theorem c_why (hp : PR w0 w1 w2 w3 w4 r) (h : RowOK T r) {ca : IV} {S L : Int} {f g : Nat} (hc : CiR ca r S f g L) : (sp_Ci_whyBlocked ca w0).toInt = zwhy r S L := by
  have k := c_amp h hc
  obtain ⟨c1, c2, c3, c4, c5, c6, c7, c8, c9, c10, c11, c12, c13, c14, c15, c16, c17⟩ := hc
  have e := z32 c9 0 0 rfl
  have m := e64_of32 (pr_e hp h 23 1 1000000 (rfl : w0 12 = _) rfl rfl)
  have e2 : sp_Ci_amperes ca ≤ (w0 12).toInt64 ↔ zamp r S L ≤ zr r 23 := by rw [Int64.le_iff_toInt_le, k.1, m.1]
  unfold sp_Ci_whyBlocked zwhy
  simp only [lettn]
  by_cases q : ca 3 = 0
  · rw [if_pos q, if_pos (e.mp q)]; rfl
  · rw [if_neg q, if_neg (fun w => q (e.mpr w))]
    by_cases q2 : sp_Ci_amperes ca ≤ (w0 12).toInt64
    · rw [if_pos q2, if_pos (e2.mp q2)]; rfl
    · rw [if_neg q2, if_neg (fun w => q2 (e2.mpr w))]; rfl
theorem zwhy_bd (r : LV) (S L : Int) : 0 ≤ zwhy r S L ∧ zwhy r S L ≤ 2 := by
  unfold zwhy
  split
  · decide
  · split <;> decide
theorem m_can (h : RowOK T r) : (sp_Mo_canRead r = 0 ↔ ¬ zwhy r (zS r) (zr r 32) = 0) ∧ ok_Mo_canRead r := by
  obtain ⟨k, o⟩ := m_cur h
  have e := z64 (show (r 22).toInt = zr r 22 from rfl) 0 0 rfl
  have e2 : r 23 < sp_Mo_currentNow r ↔ zr r 23 < zamp r (zS r) (zr r 32) := by rw [Int64.lt_iff_toInt_lt, k.1]
  unfold sp_Mo_canRead ok_Mo_canRead sp_Mo_canRead_31 zwhy
  simp only [lettn]
  refine ⟨?_, fun _ => trivial, fun _ => ⟨o, trivial⟩⟩
  by_cases q : r 22 = 0
  · rw [if_pos q, if_pos (e.mp q)]; exact ⟨fun _ => by decide, fun _ => rfl⟩
  · rw [if_neg q, if_neg (fun w => q (e.mpr w))]
    by_cases q2 : r 23 < sp_Mo_currentNow r
    · rw [if_pos q2, if_neg (by have := e2.mp q2; omega)]; exact ⟨fun _ => by decide, fun _ => rfl⟩
    · rw [if_neg q2, if_pos (by have : ¬ zr r 23 < zamp r (zS r) (zr r 32) := fun w => q2 (e2.mpr w); omega)]; exact ⟨fun w => absurd w (by decide), fun w => absurd rfl w⟩
/-- a reading that is a null -/
def znull (r : LV) (v : Int) : Prop := v ≤ zr r 25 ∧ -zr r 25 ≤ v
theorem c_null (hp : PR w0 w1 w2 w3 w4 r) (h : RowOK T r) {v : Int32} {V : Int} (hv : v.toInt = V) : (sp_Be_isNull v w0 = 0 ↔ ¬ znull r V) ∧ (sp_Be_isNull v w0 = 0 ∨ sp_Be_isNull v w0 = 1) := by
  have n := pr_e hp h 25 0 9999 (rfl : w0 14 = _) rfl rfl
  have n2 := e32_neg n (by decide)
  have e1 : w0 14 < v ↔ zr r 25 < V := by rw [Int32.lt_iff_toInt_lt, n.1, hv]
  have e2 : v < -w0 14 ↔ V < -zr r 25 := by rw [Int32.lt_iff_toInt_lt, n2.1, hv]
  unfold sp_Be_isNull sp_Be_isNull_27 znull
  by_cases q : w0 14 < v
  · rw [if_pos q]; have := e1.mp q; exact ⟨⟨fun _ => by omega, fun _ => rfl⟩, Or.inl rfl⟩
  · rw [if_neg q]
    have q' : ¬ zr r 25 < V := fun w => q (e1.mpr w)
    by_cases q2 : v < -w0 14
    · rw [if_pos q2]; have := e2.mp q2; exact ⟨⟨fun _ => by omega, fun _ => rfl⟩, Or.inl rfl⟩
    · rw [if_neg q2]
      have q2' : ¬ V < -zr r 25 := fun w => q2 (e2.mpr w)
      exact ⟨⟨fun w => absurd w (by decide), fun w => absurd ⟨by omega, by omega⟩ w⟩, Or.inr rfl⟩
theorem m_null (h : RowOK T r) {v : Int64} {V b : Int} (hv : E64 v V (-b) b) (hb : b < 9223372036854775807) : (sp_Mo_isNull v r = 0 ↔ ¬ znull r V) ∧ (sp_Mo_isNull v r = 0 ∨ sp_Mo_isNull v r = 1) := by
  have n := row_w h 25 0 9999 rfl rfl
  have e0 := cle hv 0 0 rfl
  have hn := e64_neg hv (by omega)
  unfold sp_Mo_isNull sp_Mo_amount znull
  simp only [lettn]
  by_cases q : (0 : Int64) ≤ v
  · rw [if_pos q]
    have hq := e0.mp q
    have e1 : r 25 < v ↔ zr r 25 < V := by rw [Int64.lt_iff_toInt_lt, hv.1]
    by_cases q2 : r 25 < v
    · rw [if_pos q2]; have := e1.mp q2; exact ⟨⟨fun _ => by omega, fun _ => rfl⟩, Or.inl rfl⟩
    · rw [if_neg q2]; have q2' : ¬ zr r 25 < V := fun w => q2 (e1.mpr w)
      exact ⟨⟨fun w => absurd w (by decide), fun w => absurd ⟨by omega, by have := n.2; omega⟩ w⟩, Or.inr rfl⟩
  · rw [if_neg q]
    have hq : ¬ 0 ≤ V := fun w => q (e0.mpr w)
    have e1 : r 25 < -v ↔ zr r 25 < -V := by rw [Int64.lt_iff_toInt_lt, hn.1]
    by_cases q2 : r 25 < -v
    · rw [if_pos q2]; have := e1.mp q2; exact ⟨⟨fun _ => by omega, fun _ => rfl⟩, Or.inl rfl⟩
    · rw [if_neg q2]; have q2' : ¬ zr r 25 < -V := fun w => q2 (e1.mpr w)
      exact ⟨⟨fun w => absurd w (by decide), fun w => absurd ⟨by have := n.2; omega, by omega⟩ w⟩, Or.inr rfl⟩
/-! ===== the circuit of a row ===== -/
def CirR (ca : IV) (cal : LV) (r : LV) : Prop := CiR ca r (zS r) (zf r) (zg r) (zr r 32) ∧ (ca 6).toInt = zr r 31 ∧ (ca 9).toInt = zr r 27 ∧ (ca 10).toInt = zr r 39 ∧ (ca 11).toInt = zr r 28 ∧ cal 12 = r 40
/-- readings and ticks leave these places as they are -/
def Fr (r r' : LV) : Prop := ∀ k, (k < 27 ∨ (29 ≤ k ∧ k ≤ 36) ∨ 54 ≤ k) → r' k = r k
theorem fr_rf (r : LV) : Fr r r := fun _ _ => rfl
theorem fr_tr {a b c : LV} (h : Fr a b) (h2 : Fr b c) : Fr a c := fun k hk => (h2 k hk).trans (h k hk)
theorem fr_ps (h : Fr r r') : PSame r r' := fun k h1 _ => h k (Or.inl h1)
theorem fr_S (h : Fr r r') (hD : zD r ≤ 4) : zS r' = zS r := zS_cong (h 0 (by omega)) (fun d hd => h (33 + d) (by omega)) hD
theorem fr_of_tick {on : Int32} (h : TickR r r' on) : Fr r r' := fun k hk => h.1 k (by omega) (by omega) (by omega) (by omega) (by omega) (by omega)
theorem tick_CR (hp : PR w0 w1 w2 w3 w4 r) (h : RowOK T r) (hT : T ≤ 1000000000) {ca : IV} {cal : LV} (hc : CirR ca cal r) (on : Int32) :
    CirR (sp_Ci_tick on ca cal w0 w3 w4).1 (sp_Ci_tick on ca cal w0 w3 w4).2 (sp_Mo_tick on r) ∧ RowOK (T + 1) (sp_Mo_tick on r) ∧ ok_Ci_tick on ca cal w0 w3 w4 ∧ ok_Mo_tick on r ∧ TickR r (sp_Mo_tick on r) on := by
  obtain ⟨hci, h6, h9, h10, h11, h12⟩ := hc
  obtain ⟨t0, t1, t2⟩ := m_tick h hT on
  have fr := fr_of_tick t0
  have tt := t0
  obtain ⟨a0, a1, a2, ⟨P, hP, hP2⟩, a4, a5, a6⟩ := t0
  obtain ⟨k0, k1, k2, k3, k4, k5, ⟨P', hP', hP2'⟩, -, -⟩ := c_tick (cal := cal) hp h hci on
  have hD := (zD_bd h).2.1
  have e28 : (r 28).toInt32 = ca 11 := by
    apply Int32.toInt_inj.mp
    have b := rg32 (ca 11)
    rw [h11] at b
    rw [Kit.i32_of_i64 (by show -2 ^ 31 ≤ zr r 28; omega) (by show zr r 28 < 2 ^ 31; omega)]
    exact h11.symm
  refine ⟨⟨?_, ?_, ?_, ?_, ?_, ?_⟩, t1, k0, t2, tt⟩
  · have := k1 _ _ t1 (fr_ps fr) (fr 22 (by omega)) a1 a2
    rw [fr_S fr hD]
    have e29 : zf (sp_Mo_tick on r) = zf r := by unfold zf zr; rw [fr 29 (by omega)]
    have e30 : zg (sp_Mo_tick on r) = zg r := by unfold zg zr; rw [fr 30 (by omega)]
    rw [e29, e30, zr, fr 32 (by omega)]
    exact this
  · rw [k2, h6, zr, zr, fr 31 (by omega)]
  · rw [k5 (by rw [h9]; exact (row_w h 27 (-99999) 99999 rfl rfl).2), a5, h9, e28]
  · rw [k4, a6, ← h10]
    have b := row_w h 39 0 T rfl rfl
    exact Kit.i32_add (by rw [h10]; show -2 ^ 31 ≤ zr r 39 + 1; have := b.2; omega) (by rw [h10]; show zr r 39 + 1 < 2 ^ 31; have := b.2; omega)
  · rw [k3, ← e28, zr, a4, Kit.i64_of_i32]
  · rw [hP2', hP2, h12, show P' = P from Int64.toInt_inj.mp (hP'.trans hP.symm)]
end CM
