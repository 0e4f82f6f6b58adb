section TKO
variable {T : Int} {B : Nat → Nat} {n st : Nat} {t tb o bu : IV} {su d0 d1 d2 d3 d4 tq rT wT w0 w1 w2 w3 w4 : IV} {dr now r : LV} {iS : IV}
/-! ===== a setup is taken ===== -/
theorem pcopy5 {a0 a3 a4 a1 : IV} : ∀ (m f x : Nat) (w : IV), x + m = 5 → m < f → sp_Pa_copy_54 a0 d0 a3 d3 a4 d4 a1 d2 f (nI x) w = sp_Pa_copy_80 a0 d0 a3 d3 a4 d4 a1 (fun k => if x ≤ k ∧ k < 5 then d2 k else w k) ∧ ok_Pa_copy_54 a0 d0 a3 d3 a4 d4 a1 d2 f (nI x) w
  | m, 0, _, _, _, hf => absurd hf (by omega)
  | 0, f + 1, x, w, hx, _ => by
    have c : (5 : Int32) ≤ nI x := by rw [show (5 : Int32) = nI 5 from rfl, nzle (by omega) (by omega)]; omega
    have e : (fun k => if x ≤ k ∧ k < 5 then d2 k else w k) = w := by
      funext k; rw [if_neg (by omega)]
    rw [e]
    constructor
    · show bd_Pa_copy_54 _ _ _ _ _ _ _ _ _ _ _ = _
      unfold bd_Pa_copy_54
      rw [if_pos c]
    · show okb_Pa_copy_54 _ _ _ _ _ _ _ _ _ _ _ _
      unfold okb_Pa_copy_54
      exact ⟨fun _ => trivial, fun w => absurd c w⟩
  | m + 1, f + 1, x, w, hx, hf => by
    have c : ¬ (5 : Int32) ≤ nI x := by rw [show (5 : Int32) = nI 5 from rfl, nzle (by omega) (by omega)]; omega
    have ee : sp_Pa_errorOfKind (nI x) d2 = d2 x := by
      unfold sp_Pa_errorOfKind sp_Pa_errorOfKind_22
      rw [if_neg (by rw [show (0 : Int32) = nI 0 from rfl, nzlt (by omega) (by omega)]; omega), if_neg c, cl_nI (by omega)]
    obtain ⟨i1, i2⟩ := pcopy5 (a0 := a0) (a3 := a3) (a4 := a4) (a1 := a1) m f (x + 1) (upd w x (d2 x)) (by omega) (by omega)
    have e : (fun k => if x + 1 ≤ k ∧ k < 5 then d2 k else upd w x (d2 x) k) = (fun k => if x ≤ k ∧ k < 5 then d2 k else w k) := by
      funext k
      by_cases q : k = x
      · rw [q, us, if_neg (by omega), if_pos (by omega)]
      · rw [un q]
        by_cases q2 : x ≤ k ∧ k < 5
        · rw [if_pos q2, if_pos (by omega)]
        · rw [if_neg q2, if_neg (by omega)]
    rw [e] at i1
    constructor
    · show bd_Pa_copy_54 _ _ _ _ _ _ _ _ _ _ _ = _
      unfold bd_Pa_copy_54
      simp only [lettn]
      rw [if_neg c, ee, cl_nI (by omega), nzadd1 x (by omega)]
      exact i1
    · show okb_Pa_copy_54 _ _ _ _ _ _ _ _ _ _ _ _
      unfold okb_Pa_copy_54
      simp only [lettn]
      rw [ee, cl_nI (by omega), nzadd1 x (by omega)]
      exact ⟨fun w => absurd w c, fun _ => ⟨vp_nI (by omega) (by decide), i2⟩⟩
theorem pcopy4 {a0 a3 a4 a2 : IV} : ∀ (m f x : Nat) (w : IV), x + m = 4 → m < f → sp_Pa_copy_26 a0 d0 a3 d3 a4 d4 d2 a2 d1 f (nI x) w = sp_Pa_copy_52 a0 d0 a3 d3 a4 d4 (fun k => if x ≤ k ∧ k < 4 then d1 k else w k) d2 a2 ∧ ok_Pa_copy_26 a0 d0 a3 d3 a4 d4 d2 a2 d1 f (nI x) w
  | m, 0, _, _, _, hf => absurd hf (by omega)
  | 0, f + 1, x, w, hx, _ => by
    have c : (4 : Int32) ≤ nI x := by rw [show (4 : Int32) = nI 4 from rfl, nzle (by omega) (by omega)]; omega
    have e : (fun k => if x ≤ k ∧ k < 4 then d1 k else w k) = w := by
      funext k; rw [if_neg (by omega)]
    rw [e]
    constructor
    · show bd_Pa_copy_26 _ _ _ _ _ _ _ _ _ _ _ _ = _
      unfold bd_Pa_copy_26
      rw [if_pos c]
    · show okb_Pa_copy_26 _ _ _ _ _ _ _ _ _ _ _ _ _
      unfold okb_Pa_copy_26 ok_Pa_copy_52
      exact ⟨fun _ => (pcopy5 5 big 0 a2 (by decide) (by rw [big_eq]; decide)).2, fun w => absurd c w⟩
  | m + 1, f + 1, x, w, hx, hf => by
    have c : ¬ (4 : Int32) ≤ nI x := by rw [show (4 : Int32) = nI 4 from rfl, nzle (by omega) (by omega)]; omega
    have ee : sp_Pa_errorOfDecade (nI x) d1 = d1 x := by
      unfold sp_Pa_errorOfDecade sp_Pa_errorOfDecade_22
      rw [if_neg (by rw [show (0 : Int32) = nI 0 from rfl, nzlt (by omega) (by omega)]; omega), if_neg c, cl_nI (by omega)]
    obtain ⟨i1, i2⟩ := pcopy4 (a0 := a0) (a3 := a3) (a4 := a4) (a2 := a2) m f (x + 1) (upd w x (d1 x)) (by omega) (by omega)
    have e : (fun k => if x + 1 ≤ k ∧ k < 4 then d1 k else upd w x (d1 x) k) = (fun k => if x ≤ k ∧ k < 4 then d1 k else w k) := by
      funext k
      by_cases q : k = x
      · rw [q, us, if_neg (by omega), if_pos (by omega)]
      · rw [un q]
        by_cases q2 : x ≤ k ∧ k < 4
        · rw [if_pos q2, if_pos (by omega)]
        · rw [if_neg q2, if_neg (by omega)]
    rw [e] at i1
    constructor
    · show bd_Pa_copy_26 _ _ _ _ _ _ _ _ _ _ _ _ = _
      unfold bd_Pa_copy_26
      simp only [lettn]
      rw [if_neg c, ee, cl_nI (by omega), nzadd1 x (by omega)]
      exact i1
    · show okb_Pa_copy_26 _ _ _ _ _ _ _ _ _ _ _ _ _
      unfold okb_Pa_copy_26
      simp only [lettn]
      rw [ee, cl_nI (by omega), nzadd1 x (by omega)]
      exact ⟨fun w => absurd w c, fun _ => ⟨vp_nI (by omega) (by decide), i2⟩⟩
theorem pcopy_R : ok_Pa_copy w0 w1 w2 w3 w4 d0 d1 d2 d3 d4 ∧ ∀ k, k < 29 → pw (sp_Pa_copy w0 w1 w2 w3 w4 d0 d1 d2 d3 d4).1 (sp_Pa_copy w0 w1 w2 w3 w4 d0 d1 d2 d3 d4).2.1 (sp_Pa_copy w0 w1 w2 w3 w4 d0 d1 d2 d3 d4).2.2.1 (sp_Pa_copy w0 w1 w2 w3 w4 d0 d1 d2 d3 d4).2.2.2.1 (sp_Pa_copy w0 w1 w2 w3 w4 d0 d1 d2 d3 d4).2.2.2.2 k = pw d0 d1 d2 d3 d4 k := by
  obtain ⟨a1, a2⟩ := pcopy4 (d0 := d0) (d1 := d1) (d2 := d2) (d3 := d3) (d4 := d4) (a0 := upd (upd (upd w0 0 (d0 0)) 1 (d0 1)) 2 (d0 2)) (a3 := w3) (a4 := w4) (a2 := w2) 4 big 0 w1 (by decide) (by rw [big_eq]; decide)
  obtain ⟨b1, b2⟩ := pcopy5 (d0 := d0) (d2 := d2) (d3 := d3) (d4 := d4) (a0 := upd (upd (upd w0 0 (d0 0)) 1 (d0 1)) 2 (d0 2)) (a3 := w3) (a4 := w4) (a1 := fun k => if 0 ≤ k ∧ k < 4 then d1 k else w1 k) 5 big 0 w2 (by decide) (by rw [big_eq]; decide)
  have e : sp_Pa_copy w0 w1 w2 w3 w4 d0 d1 d2 d3 d4 = sp_Pa_copy_80 (upd (upd (upd w0 0 (d0 0)) 1 (d0 1)) 2 (d0 2)) d0 w3 d3 w4 d4 (fun k => if 0 ≤ k ∧ k < 4 then d1 k else w1 k) (fun k => if 0 ≤ k ∧ k < 5 then d2 k else w2 k) := by
    unfold sp_Pa_copy
    simp only [lettn]
    exact a1.trans (by unfold sp_Pa_copy_52; exact b1)
  constructor
  · unfold ok_Pa_copy
    simp only [lettn]
    exact a2
  · rw [e]
    intro k hk
    match k, hk with
    | 0, _ => rfl
    | 1, _ => rfl
    | 2, _ => rfl
    | 3, _ => rfl
    | 4, _ => rfl
    | 5, _ => rfl
    | 6, _ => rfl
    | 7, _ => rfl
    | 8, _ => rfl
    | 9, _ => rfl
    | 10, _ => rfl
    | 11, _ => rfl
    | 12, _ => rfl
    | 13, _ => rfl
    | 14, _ => rfl
    | 15, _ => rfl
    | 16, _ => rfl
    | 17, _ => rfl
    | 18, _ => rfl
    | 19, _ => rfl
    | 20, _ => rfl
    | 21, _ => rfl
    | 22, _ => rfl
    | 23, _ => rfl
    | 24, _ => rfl
    | 25, _ => rfl
    | 26, _ => rfl
    | 27, _ => rfl
    | 28, _ => rfl
    | k + 29, h => exact absurd h (by omega)
/-- a row as a setup leaves it -/
def Fresh (r : LV) : Prop := ∀ k, 29 ≤ k → k < 215 → r k = if k = 32 then 2 else 0
theorem fresh_0 (hf : Fresh r) {k : Nat} (h1 : 29 ≤ k) (h2 : k < 215) (h3 : k ≠ 32) : zr r k = 0 := by
  rw [zr, hf k h1 h2, if_neg h3]; rfl
theorem fresh_S (hf : Fresh r) : ∀ n, n ≤ 4 → zset r n = 0
  | 0, _ => rfl
  | n + 1, h => by
    show 10 * zset r n + zr r (33 + n) = 0
    rw [fresh_S hf n (by omega), fresh_0 hf (k := 33 + n) (by omega) (by omega) (by omega)]; rfl
theorem fresh_row (hf : Fresh r) (hb : ∀ k, k < 29 → rLo k ≤ zr r k ∧ zr r k ≤ rHi 0 k) : RowOK 0 r := by
  have c : ∀ k, k < 55 → 29 ≤ k → k ≠ 32 → rLo k ≤ 0 ∧ 0 ≤ rHi 0 k := by decide +kernel
  refine ⟨fun k hk => ?_, fun i j hi hz _ => ?_⟩
  · by_cases q : k < 29
    · exact hb k q
    · by_cases q2 : k = 32
      · subst q2
        rw [zr, hf 32 (by decide) (by decide), if_pos rfl]
        show (2 : Int) ≤ 2 ∧ (2 : Int) ≤ 3
        decide
      · rw [fresh_0 hf (by omega) (by omega) q2]
        exact c k hk (by omega) q2
  · rw [fresh_0 hf (k := 54) (by decide) (by decide) (by decide)] at hz
    omega
/-- the class's circuit is reset -/
theorem creset_R (hp : PR w0 w1 w2 w3 w4 r) (h : RowOK T r) (hf : Fresh r) (hv : (w0 11).toInt = zr r 22) (hz : (w0 16).toInt = zr r 27) (hs : (w0 17).toInt = zr r 28) (ca : IV) (cal : LV) :
    ok_Ci_reset ca cal w0 w1 w2 ∧ CirR (sp_Ci_reset ca cal w0 w1 w2 w3 w4).1 (sp_Ci_reset ca cal w0 w1 w2 w3 w4).2 r := by
  have hD := (zD_bd h).2.1
  have eS : zS r = 0 := fresh_S hf _ hD
  have e29 : zf r = 0 := by show (zr r 29).toNat = 0; rw [fresh_0 hf (k := 29) (by decide) (by decide) (by decide)]; rfl
  have e30 : zg r = 0 := by show (zr r 30).toNat = 0; rw [fresh_0 hf (k := 30) (by decide) (by decide) (by decide)]; rfl
  have e32 : zr r 32 = 2 := by rw [zr, hf 32 (by decide) (by decide), if_pos rfl]; rfl
  have e37 := fresh_0 hf (k := 37) (by decide) (by decide) (by decide)
  have e38 := fresh_0 hf (k := 38) (by decide) (by decide) (by decide)
  have k1 : E64 (sp_Pa_valueOfKind (0 : Int32) w2).toInt64 (zohm r 0) 950 10500000 := e64_of32 (c_val hp h (k := 0) (by decide))
  have k3 := e64_add k1 k1 (by decide) (by decide)
  have k4 := e64_mul 0 10500000000000000 (e64_lit 1000000000 (1000000000 : Int64) rfl) k1 (by decide) (by decide) (by decide)
  have k5 := e64_div 0 10500000000000000 k4 k3 (by decide) (by decide) (by decide) (by decide) (by decide)
  have k6 : E32 (((1000000000 : Int64) * (sp_Pa_valueOfKind (0 : Int32) w2).toInt64) / ((sp_Pa_valueOfKind (0 : Int32) w2).toInt64 + (sp_Pa_valueOfKind (0 : Int32) w2).toInt64)).toInt32 (zash r 0 0) 0 1000000000 := e32_of64 ⟨k5.1, zash_bd h (by decide) (by decide)⟩ (by decide) (by decide)
  generalize hX : (((1000000000 : Int64) * (sp_Pa_valueOfKind (0 : Int32) w2).toInt64) / ((sp_Pa_valueOfKind (0 : Int32) w2).toInt64 + (sp_Pa_valueOfKind (0 : Int32) w2).toInt64)).toInt32 = X at k6
  obtain ⟨q1, q2⟩ := c_cold hp h (s := 0) (S := 0) ⟨rfl, by decide, by decide⟩
  have ec : ∀ x : IV, sp_Ci_choose 0 0 x w2 = upd (upd (upd x 1 0) 2 0) 13 X := fun x => by
    unfold sp_Ci_choose sp_Ci_choose_60
    simp only [lettn]
    rw [us, un (show 1 ≠ 2 by decide), us, if_neg (e64_ne0 k3 (by decide)), hX]
  unfold ok_Ci_reset sp_Ci_reset ok_Ci_dial sp_Ci_dial
  simp only [lettn]
  rw [ec]
  generalize hy : upd (upd (upd (upd (upd (upd (upd (upd (upd (upd (upd (upd (upd ca 3 (w0 11)) 6 0) 7 0) 8 0) 9 (w0 16)) 10 0) 11 (w0 17)) 4 2) 1 0) 2 0) 13 X) 5 0) 14 (sp_Pa_coldAt 0 w0 w1) = y
  have y1 : y 1 = 0 := by rw [← hy]; rfl
  have y2 : y 2 = 0 := by rw [← hy]; rfl
  have y3 : y 3 = w0 11 := by rw [← hy]; rfl
  have y4 : y 4 = 2 := by rw [← hy]; rfl
  have y5 : y 5 = 0 := by rw [← hy]; rfl
  have y6 : y 6 = 0 := by rw [← hy]; rfl
  have y7 : y 7 = 0 := by rw [← hy]; rfl
  have y8 : y 8 = 0 := by rw [← hy]; rfl
  have y9 : y 9 = w0 16 := by rw [← hy]; rfl
  have y10 : y 10 = 0 := by rw [← hy]; rfl
  have y11 : y 11 = w0 17 := by rw [← hy]; rfl
  have y13 : y 13 = X := by rw [← hy]; rfl
  have y14 : y 14 = sp_Pa_coldAt 0 w0 w1 := by rw [← hy]; rfl
  obtain ⟨s1, s2, s3, s4, s5⟩ := c_survey (ca := y) hp h (S := 0) (L := 2) (by decide) (Or.inl rfl) (by rw [y4]; rfl) (by rw [y7, e37]; rfl) (by rw [y8, e38]; rfl) (by rw [y14]; exact q1.1)
  refine ⟨⟨⟨q2, trivial⟩, trivial⟩, ?_, ?_, ?_, ?_, ?_, ?_⟩
  · rw [eS, e29, e30, e32]
    refine ⟨?_, by decide, ?_, by decide, ?_, by decide, ?_, Or.inl rfl, ?_, ?_, ?_, ?_, ?_, s2, s3, s4, s5⟩
    · rw [s1 5 (by decide), y5]; rfl
    · rw [s1 1 (by decide), y1]; rfl
    · rw [s1 2 (by decide), y2]; rfl
    · rw [s1 4 (by decide), y4]; rfl
    · rw [s1 3 (by decide), y3]; exact hv
    · rw [s1 7 (by decide), y7, e37]; rfl
    · rw [s1 8 (by decide), y8, e38]; rfl
    · rw [s1 13 (by decide), y13]; exact k6.1
    · rw [s1 14 (by decide), y14]; exact q1.1
  · rw [s1 6 (by decide), y6, fresh_0 hf (k := 31) (by decide) (by decide) (by decide)]; rfl
  · rw [s1 9 (by decide), y9]; exact hz
  · rw [s1 10 (by decide), y10, fresh_0 hf (k := 39) (by decide) (by decide) (by decide)]; rfl
  · rw [s1 11 (by decide), y11]; exact hs
  · rw [uLs, hf 40 (by decide) (by decide), if_neg (by decide)]
/-- the class's bench is reset -/
theorem breset_R (hp : PR w0 w1 w2 w3 w4 r) (h : RowOK T r) (hf : Fresh r) (hv : (w0 11).toInt = zr r 22) (hz : (w0 16).toInt = zr r 27) (hs : (w0 17).toInt = zr r 28) (ba ca : IV) (cal : LV) (ea da : IV) (rar : NI) (ral : NL) :
    ok_Be_reset ca cal w0 w1 w2 ∧ BR (sp_Be_reset ba ca cal ea w0 w1 w2 w3 w4).1 (sp_Be_reset ba ca cal ea w0 w1 w2 w3 w4).2.1 (sp_Be_reset ba ca cal ea w0 w1 w2 w3 w4).2.2.1 da (sp_Be_reset ba ca cal ea w0 w1 w2 w3 w4).2.2.2 rar ral r := by
  obtain ⟨a1, a2⟩ := creset_R hp h hf hv hz hs ca cal
  have e43 := fresh_0 hf (k := 43) (by decide) (by decide) (by decide)
  have e54 := fresh_0 hf (k := 54) (by decide) (by decide) (by decide)
  unfold ok_Be_reset sp_Be_reset
  simp only [lettn]
  refine ⟨⟨a1, trivial⟩, ⟨a2, ?_, ?_, ?_, fun k _ hk => ?_⟩, ?_, fun i _ hi => ?_⟩
  · rw [un (by decide), un (by decide), us, e43]; rfl
  · rw [un (by decide), us, fresh_0 hf (k := 41) (by decide) (by decide) (by decide)]; rfl
  · rw [us, fresh_0 hf (k := 42) (by decide) (by decide) (by decide)]; rfl
  · rw [e43] at hk; omega
  · rw [us, e54]; rfl
  · rw [e54] at hi; omega
end TKO
