section TKM
variable {B : Nat → Nat} {n st : Nat} {t tb o bu : IV} {su d0 d1 d2 d3 d4 tq rT wT : IV} {dr now : LV} {X : Nat → Prop}
/-! ===== a setup begins ===== -/
theorem clear5 {w3 h3 h4 w1 : IV} : ∀ (m f x : Nat) (w2 : IV), x + m = 5 → m < f → sp_Pa_clear_41 w3 h3 h4 w1 f (nI x) w2 = sp_Pa_clear_63 w3 h3 h4 w1 (fun k => if x ≤ k ∧ k < 5 then 0 else w2 k) ∧ ok_Pa_clear_41 w3 h3 h4 w1 f (nI x) w2
  | m, 0, _, _, _, hf => absurd hf (by omega)
  | 0, f + 1, x, w2, hx, _ => by
    have c : (5 : Int32) ≤ nI x := by rw [show (5 : Int32) = nI 5 from rfl, nzle (by omega) (by omega)]; omega
    have e : (fun k => if x ≤ k ∧ k < 5 then 0 else w2 k) = w2 := by
      funext k; rw [if_neg (by omega)]
    rw [e]
    constructor
    · show bd_Pa_clear_41 _ _ _ _ _ _ _ = _
      unfold bd_Pa_clear_41
      rw [if_pos c]
    · show okb_Pa_clear_41 _ _ _ _ _ _ _ _
      unfold okb_Pa_clear_41
      exact ⟨fun _ => trivial, fun w => absurd c w⟩
  | m + 1, f + 1, x, w2, hx, hf => by
    have c : ¬ (5 : Int32) ≤ nI x := by rw [show (5 : Int32) = nI 5 from rfl, nzle (by omega) (by omega)]; omega
    obtain ⟨i1, i2⟩ := clear5 (w3 := w3) (h3 := h3) (h4 := h4) (w1 := w1) m f (x + 1) (upd w2 x 0) (by omega) (by omega)
    have e : (fun k => if x + 1 ≤ k ∧ k < 5 then 0 else upd w2 x 0 k) = (fun k => if x ≤ k ∧ k < 5 then 0 else w2 k) := by
      funext k
      by_cases q : k = x
      · rw [q, us, if_neg (by omega), if_pos (by omega)]
      · rw [un q]
        by_cases q2 : x ≤ k ∧ k < 5
        · rw [if_pos q2, if_pos (by omega)]
        · rw [if_neg q2, if_neg (by omega)]
    rw [e] at i1
    constructor
    · show bd_Pa_clear_41 _ _ _ _ _ _ _ = _
      unfold bd_Pa_clear_41
      simp only [lettn]
      rw [if_neg c, cl_nI (by omega), nzadd1 x (by omega)]
      exact i1
    · show okb_Pa_clear_41 _ _ _ _ _ _ _ _
      unfold okb_Pa_clear_41
      simp only [lettn]
      rw [cl_nI (by omega), nzadd1 x (by omega)]
      exact ⟨fun w => absurd w c, fun _ => ⟨vp_nI (by omega) (by decide), i2⟩⟩
theorem clear4 {w3 h3 h4 w2 : IV} : ∀ (m f x : Nat) (w1 : IV), x + m = 4 → m < f → sp_Pa_clear_17 w3 h3 h4 w2 f (nI x) w1 = sp_Pa_clear_39 w3 h3 h4 (fun k => if x ≤ k ∧ k < 4 then 0 else w1 k) w2 ∧ ok_Pa_clear_17 w3 h3 h4 w2 f (nI x) w1
  | m, 0, _, _, _, hf => absurd hf (by omega)
  | 0, f + 1, x, w1, hx, _ => by
    have c : (4 : Int32) ≤ nI x := by rw [show (4 : Int32) = nI 4 from rfl, nzle (by omega) (by omega)]; omega
    have e : (fun k => if x ≤ k ∧ k < 4 then 0 else w1 k) = w1 := by
      funext k; rw [if_neg (by omega)]
    rw [e]
    constructor
    · show bd_Pa_clear_17 _ _ _ _ _ _ _ = _
      unfold bd_Pa_clear_17
      rw [if_pos c]
    · show okb_Pa_clear_17 _ _ _ _ _ _ _ _
      unfold okb_Pa_clear_17 ok_Pa_clear_39
      exact ⟨fun _ => (clear5 5 big 0 w2 (by decide) (by rw [big_eq]; decide)).2, fun w => absurd c w⟩
  | m + 1, f + 1, x, w1, hx, hf => by
    have c : ¬ (4 : Int32) ≤ nI x := by rw [show (4 : Int32) = nI 4 from rfl, nzle (by omega) (by omega)]; omega
    obtain ⟨i1, i2⟩ := clear4 (w3 := w3) (h3 := h3) (h4 := h4) (w2 := w2) m f (x + 1) (upd w1 x 0) (by omega) (by omega)
    have e : (fun k => if x + 1 ≤ k ∧ k < 4 then 0 else upd w1 x 0 k) = (fun k => if x ≤ k ∧ k < 4 then 0 else w1 k) := by
      funext k
      by_cases q : k = x
      · rw [q, us, if_neg (by omega), if_pos (by omega)]
      · rw [un q]
        by_cases q2 : x ≤ k ∧ k < 4
        · rw [if_pos q2, if_pos (by omega)]
        · rw [if_neg q2, if_neg (by omega)]
    rw [e] at i1
    constructor
    · show bd_Pa_clear_17 _ _ _ _ _ _ _ = _
      unfold bd_Pa_clear_17
      simp only [lettn]
      rw [if_neg c, cl_nI (by omega), nzadd1 x (by omega)]
      exact i1
    · show okb_Pa_clear_17 _ _ _ _ _ _ _ _
      unfold okb_Pa_clear_17
      simp only [lettn]
      rw [cl_nI (by omega), nzadd1 x (by omega)]
      exact ⟨fun w => absurd w c, fun _ => ⟨vp_nI (by omega) (by decide), i2⟩⟩
/-- the plain parts -/
def plC (k : Nat) : Int32 := ([2, 1, 0, 0, 0, 0, 0, 0, 0, 0, 0, 0, 1000, 0, 0, 0, 0, 0, 0, 0, 0, 0, 1000, 1000000, 9999999, 0, 0, 0, 1] : List Int32).getD k 0
theorem clear_R : ok_Pa_clear d0 d1 d2 d3 d4 ∧ ∀ k, k < 29 → pw (sp_Pa_clear d0 d1 d2 d3 d4).1 (sp_Pa_clear d0 d1 d2 d3 d4).2.1 (sp_Pa_clear d0 d1 d2 d3 d4).2.2.1 (sp_Pa_clear d0 d1 d2 d3 d4).2.2.2.1 (sp_Pa_clear d0 d1 d2 d3 d4).2.2.2.2 k = plC k := by
  obtain ⟨a1, a2⟩ := clear4 (w3 := upd (upd (upd d0 0 2) 1 1) 2 0) (h3 := d3) (h4 := d4) (w2 := d2) 4 big 0 d1 (by decide) (by rw [big_eq]; decide)
  obtain ⟨b1, b2⟩ := clear5 (w3 := upd (upd (upd d0 0 2) 1 1) 2 0) (h3 := d3) (h4 := d4) (w1 := fun k => if 0 ≤ k ∧ k < 4 then 0 else d1 k) 5 big 0 d2 (by decide) (by rw [big_eq]; decide)
  have e : sp_Pa_clear d0 d1 d2 d3 d4 = sp_Pa_clear_63 (upd (upd (upd d0 0 2) 1 1) 2 0) d3 d4 (fun k => if 0 ≤ k ∧ k < 4 then 0 else d1 k) (fun k => if 0 ≤ k ∧ k < 5 then 0 else d2 k) := by
    unfold sp_Pa_clear
    simp only [lettn]
    exact a1.trans (by unfold sp_Pa_clear_39; exact b1)
  constructor
  · unfold ok_Pa_clear
    simp only [lettn]
    exact a2
  · rw [e]
    intro k hk
    match k, hk with
    | 0, _ => rfl
    | 1, _ => rfl
    | 2, _ => rfl
    | 3, _ => rfl
    | 4, _ => rfl
    | 5, _ => rfl
    | 6, _ => rfl
    | 7, _ => rfl
    | 8, _ => rfl
    | 9, _ => rfl
    | 10, _ => rfl
    | 11, _ => rfl
    | 12, _ => rfl
    | 13, _ => rfl
    | 14, _ => rfl
    | 15, _ => rfl
    | 16, _ => rfl
    | 17, _ => rfl
    | 18, _ => rfl
    | 19, _ => rfl
    | 20, _ => rfl
    | 21, _ => rfl
    | 22, _ => rfl
    | 23, _ => rfl
    | 24, _ => rfl
    | 25, _ => rfl
    | 26, _ => rfl
    | 27, _ => rfl
    | 28, _ => rfl
    | k + 29, h => exact absurd h (by omega)
theorem plain2 : ∀ (m f x : Nat) (r : LV), x + m = 215 → m < f → sp_Mo_setPlain_2 f (nI x) r = sp_Mo_setPlain_22 (fun k => if x ≤ k ∧ k < 215 then 0 else r k) ∧ ok_Mo_setPlain_2 f (nI x) r
  | m, 0, _, _, _, hf => absurd hf (by omega)
  | 0, f + 1, x, r, hx, _ => by
    have c : (215 : Int32) ≤ nI x := by rw [show (215 : Int32) = nI 215 from rfl, nzle (by omega) (by omega)]; omega
    have e : (fun k => if x ≤ k ∧ k < 215 then 0 else r k) = r := by
      funext k; rw [if_neg (by omega)]
    rw [e]
    constructor
    · show bd_Mo_setPlain_2 _ _ _ = _
      unfold bd_Mo_setPlain_2
      rw [if_pos c]
    · show okb_Mo_setPlain_2 _ _ _ _
      unfold okb_Mo_setPlain_2
      exact ⟨fun _ => trivial, fun w => absurd c w⟩
  | m + 1, f + 1, x, r, hx, hf => by
    have c : ¬ (215 : Int32) ≤ nI x := by rw [show (215 : Int32) = nI 215 from rfl, nzle (by omega) (by omega)]; omega
    obtain ⟨i1, i2⟩ := plain2 m f (x + 1) (vp_updL r x 0) (by omega) (by omega)
    have e : (fun k => if x + 1 ≤ k ∧ k < 215 then 0 else vp_updL r x 0 k) = (fun k => if x ≤ k ∧ k < 215 then 0 else r k) := by
      funext k
      by_cases q : k = x
      · rw [q, uLs, if_neg (by omega), if_pos (by omega)]
      · rw [uLn q]
        by_cases q2 : x ≤ k ∧ k < 215
        · rw [if_pos q2, if_pos (by omega)]
        · rw [if_neg q2, if_neg (by omega)]
    rw [e] at i1
    constructor
    · show bd_Mo_setPlain_2 _ _ _ = _
      unfold bd_Mo_setPlain_2
      simp only [lettn]
      rw [if_neg c, cl_nI (by omega), nzadd1 x (by omega)]
      exact i1
    · show okb_Mo_setPlain_2 _ _ _ _
      unfold okb_Mo_setPlain_2
      simp only [lettn]
      rw [cl_nI (by omega), nzadd1 x (by omega)]
      exact ⟨fun w => absurd w c, fun _ => ⟨vp_nI (by omega) (by decide), i2⟩⟩
def plM (k : Nat) : Int64 := if k = 22 then 1000 else if k = 23 then 1000000 else if k = 24 then 9999999 else if k = 28 then 1 else if k = 32 then 2 else 0
theorem plain_R : ok_Mo_setPlain dr ∧ ∀ k, k < 215 → sp_Mo_setPlain dr k = plM k := by
  obtain ⟨a1, a2⟩ := plain2 215 big 0 dr (by decide) (by rw [big_eq]; decide)
  constructor
  · unfold ok_Mo_setPlain; exact a2
  · intro k hk
    unfold sp_Mo_setPlain
    rw [show (0 : Int32) = nI 0 from rfl, a1]
    unfold sp_Mo_setPlain_22 plM
    simp only [lettn]
    by_cases q5 : k = 32
    · subst q5; rw [uLs]; rfl
    · rw [uLn q5]
      by_cases q4 : k = 28
      · subst q4; rw [uLs]; rfl
      · rw [uLn q4]
        by_cases q3 : k = 24
        · subst q3; rw [uLs]; rfl
        · rw [uLn q3]
          by_cases q2 : k = 23
          · subst q2; rw [uLs]; rfl
          · rw [uLn q2]
            by_cases q1 : k = 22
            · subst q1; rw [uLs]; rfl
            · rw [uLn q1, if_neg q1, if_neg q2, if_neg q3, if_neg q4, if_neg q5, if_pos (by omega)]
theorem forget5 {w : IV} {q : IV} : ∀ (m f x : Nat) (r : IV), x + m = 5 → m < f → sp_Mo_forgetTold_23 w q f (nI x) r = sp_Mo_forgetTold_41 w q (fun k => if x ≤ k ∧ k < 5 then 0 else r k) ∧ ok_Mo_forgetTold_23 w q f (nI x) r
  | m, 0, _, _, _, hf => absurd hf (by omega)
  | 0, f + 1, x, r, hx, _ => by
    have c : (5 : Int32) ≤ nI x := by rw [show (5 : Int32) = nI 5 from rfl, nzle (by omega) (by omega)]; omega
    have e : (fun k => if x ≤ k ∧ k < 5 then 0 else r k) = r := by
      funext k; rw [if_neg (by omega)]
    rw [e]
    constructor
    · show bd_Mo_forgetTold_23 _ _ _ _ _ = _
      unfold bd_Mo_forgetTold_23
      rw [if_pos c]
    · show okb_Mo_forgetTold_23 _ _ _ _ _ _
      unfold okb_Mo_forgetTold_23
      exact ⟨fun _ => trivial, fun w => absurd c w⟩
  | m + 1, f + 1, x, r, hx, hf => by
    have c : ¬ (5 : Int32) ≤ nI x := by rw [show (5 : Int32) = nI 5 from rfl, nzle (by omega) (by omega)]; omega
    obtain ⟨i1, i2⟩ := forget5 (w := w) (q := q) m f (x + 1) (upd r x 0) (by omega) (by omega)
    have e : (fun k => if x + 1 ≤ k ∧ k < 5 then 0 else upd r x 0 k) = (fun k => if x ≤ k ∧ k < 5 then 0 else r k) := by
      funext k
      by_cases q : k = x
      · rw [q, us, if_neg (by omega), if_pos (by omega)]
      · rw [un q]
        by_cases q2 : x ≤ k ∧ k < 5
        · rw [if_pos q2, if_pos (by omega)]
        · rw [if_neg q2, if_neg (by omega)]
    rw [e] at i1
    constructor
    · show bd_Mo_forgetTold_23 _ _ _ _ _ = _
      unfold bd_Mo_forgetTold_23
      simp only [lettn]
      rw [if_neg c, cl_nI (by omega), nzadd1 x (by omega), nar0]
      exact i1
    · show okb_Mo_forgetTold_23 _ _ _ _ _ _
      unfold okb_Mo_forgetTold_23
      simp only [lettn]
      rw [cl_nI (by omega), nzadd1 x (by omega), nar0]
      exact ⟨fun w => absurd w c, fun _ => ⟨vp_nI (by omega) (by decide), i2⟩⟩
theorem forget6 {w r : IV} : ∀ (m f x : Nat) (q : IV), x + m = 6 → m < f → sp_Mo_forgetTold_2 w r f (nI x) q = sp_Mo_forgetTold_21 w (fun k => if x ≤ k ∧ k < 6 then 0 else q k) r ∧ ok_Mo_forgetTold_2 w r f (nI x) q
  | m, 0, _, _, _, hf => absurd hf (by omega)
  | 0, f + 1, x, q, hx, _ => by
    have c : (6 : Int32) ≤ nI x := by rw [show (6 : Int32) = nI 6 from rfl, nzle (by omega) (by omega)]; omega
    have e : (fun k => if x ≤ k ∧ k < 6 then 0 else q k) = q := by
      funext k; rw [if_neg (by omega)]
    rw [e]
    constructor
    · show bd_Mo_forgetTold_2 _ _ _ _ _ = _
      unfold bd_Mo_forgetTold_2
      rw [if_pos c]
    · show okb_Mo_forgetTold_2 _ _ _ _ _ _
      unfold okb_Mo_forgetTold_2 ok_Mo_forgetTold_21
      exact ⟨fun _ => (forget5 5 big 0 r (by decide) (by rw [big_eq]; decide)).2, fun w => absurd c w⟩
  | m + 1, f + 1, x, q, hx, hf => by
    have c : ¬ (6 : Int32) ≤ nI x := by rw [show (6 : Int32) = nI 6 from rfl, nzle (by omega) (by omega)]; omega
    obtain ⟨i1, i2⟩ := forget6 (w := w) (r := r) m f (x + 1) (upd q x 0) (by omega) (by omega)
    have e : (fun k => if x + 1 ≤ k ∧ k < 6 then 0 else upd q x 0 k) = (fun k => if x ≤ k ∧ k < 6 then 0 else q k) := by
      funext k
      by_cases q : k = x
      · rw [q, us, if_neg (by omega), if_pos (by omega)]
      · rw [un q]
        by_cases q2 : x ≤ k ∧ k < 6
        · rw [if_pos q2, if_pos (by omega)]
        · rw [if_neg q2, if_neg (by omega)]
    rw [e] at i1
    constructor
    · show bd_Mo_forgetTold_2 _ _ _ _ _ = _
      unfold bd_Mo_forgetTold_2
      simp only [lettn]
      rw [if_neg c, cl_nI (by omega), nzadd1 x (by omega), nar0]
      exact i1
    · show okb_Mo_forgetTold_2 _ _ _ _ _ _
      unfold okb_Mo_forgetTold_2
      simp only [lettn]
      rw [cl_nI (by omega), nzadd1 x (by omega), nar0]
      exact ⟨fun w => absurd w c, fun _ => ⟨vp_nI (by omega) (by decide), i2⟩⟩
theorem forget_R : ok_Mo_forgetTold tq rT wT ∧ FlR (upd su 2 0) (sp_Mo_forgetTold tq rT wT).1 (sp_Mo_forgetTold tq rT wT).2.1 (sp_Mo_forgetTold tq rT wT).2.2 ∧ (sp_Mo_forgetTold tq rT wT).1 0 = 0 ∧ (sp_Mo_forgetTold tq rT wT).1 1 = 0 := by
  obtain ⟨a1, a2⟩ := forget6 (w := wT) (r := rT) 6 big 0 tq (by decide) (by rw [big_eq]; decide)
  obtain ⟨b1, b2⟩ := forget5 (w := wT) (q := fun k => if 0 ≤ k ∧ k < 6 then 0 else tq k) 5 big 0 rT (by decide) (by rw [big_eq]; decide)
  have e : sp_Mo_forgetTold tq rT wT = ((fun k => if 0 ≤ k ∧ k < 6 then 0 else tq k), (fun k => if 0 ≤ k ∧ k < 5 then 0 else rT k), upd (upd wT 0 0) 1 0) := by
    unfold sp_Mo_forgetTold
    refine a1.trans ?_
    unfold sp_Mo_forgetTold_21
    refine b1.trans ?_
    unfold sp_Mo_forgetTold_41
    simp only [lettn]
    rw [nar0]
  rw [e]
  refine ⟨by unfold ok_Mo_forgetTold; exact a2, fun i hi => ?_, rfl, rfl⟩
  rw [us]
  have z : (0 : Int32) &&& mk i = 0 := Int32.zero_and
  rw [z]
  refine ⟨fun _ => ?_, fun _ => rfl⟩
  unfold Fg
  by_cases q : i < 6
  · rw [if_pos q]; exact if_pos ⟨by omega, q⟩
  · rw [if_neg q]
    by_cases q2 : i < 8
    · rw [if_pos q2]
      show upd (upd wT 0 0) 1 0 (i - 6) = 0
      by_cases q3 : i - 6 = 1
      · rw [q3, us]
      · rw [un q3, show i - 6 = 0 by omega, us]
    · rw [if_neg q2]; exact if_pos ⟨by omega, by omega⟩
theorem draft2 (src : LV) : ∀ (m f x : Nat) (r : LV), x + m = 215 → m < f → (∀ k, sp_Mo_takeDraft_2 src f (nI x) r k = if x ≤ k ∧ k < 215 then src k else r k) ∧ ok_Mo_takeDraft_2 src f (nI x) r
  | m, 0, _, _, _, hf => absurd hf (by omega)
  | 0, f + 1, x, r, hx, _ => by
    have c : (215 : Int32) ≤ nI x := by rw [show (215 : Int32) = nI 215 from rfl, nzle (by omega) (by omega)]; omega
    constructor
    · intro k
      show bd_Mo_takeDraft_2 _ _ _ _ k = _
      unfold bd_Mo_takeDraft_2
      rw [if_pos c, if_neg (by omega)]
    · show okb_Mo_takeDraft_2 _ _ _ _ _
      unfold okb_Mo_takeDraft_2
      exact ⟨fun _ => trivial, fun w => absurd c w⟩
  | m + 1, f + 1, x, r, hx, hf => by
    have c : ¬ (215 : Int32) ≤ nI x := by rw [show (215 : Int32) = nI 215 from rfl, nzle (by omega) (by omega)]; omega
    obtain ⟨i1, i2⟩ := draft2 src m f (x + 1) (vp_updL r x (src x)) (by omega) (by omega)
    constructor
    · intro k
      show bd_Mo_takeDraft_2 _ _ _ _ k = _
      unfold bd_Mo_takeDraft_2
      simp only [lettn]
      rw [if_neg c, cl_nI (by omega), nzadd1 x (by omega), i1]
      by_cases q : k = x
      · rw [q, uLs, if_neg (by omega), if_pos (by omega)]
      · rw [uLn q]
        by_cases q2 : x ≤ k ∧ k < 215
        · rw [if_pos q2, if_pos (by omega)]
        · rw [if_neg q2, if_neg (by omega)]
    · show okb_Mo_takeDraft_2 _ _ _ _ _
      unfold okb_Mo_takeDraft_2
      simp only [lettn]
      rw [cl_nI (by omega), nzadd1 x (by omega)]
      exact ⟨fun w => absurd w c, fun _ => ⟨vp_nI (by omega) (by decide), i2⟩⟩
theorem draft_R (now dr : LV) : ok_Mo_takeDraft now dr ∧ ∀ k, k < 215 → sp_Mo_takeDraft now dr k = dr k := by
  obtain ⟨a1, a2⟩ := draft2 dr 215 big 0 now (by decide) (by rw [big_eq]; decide)
  exact ⟨a2, fun k hk => (a1 k).trans (if_pos ⟨by omega, hk⟩)⟩
/-- both begin a text -/
theorem begin_TX (h : BufR B n t tb o bu) : ok_Te_begin t tb ∧ ok_Mo_startText o bu ∧ ∃ st', TX B n st' (sp_Te_begin t tb) tb (sp_Mo_startText o bu) bu ∧ FrT o (sp_Mo_startText o bu) ∧ sp_Te_begin t tb 5 = 0 := by
  have hB : BufR B n (upd (upd (upd t 5 0) 6 (-1)) 4 0) tb (upd (upd (upd o 12 0) 13 (-1)) 9 0) bu := buf_o (buf_t h (by rw [un (by decide), un (by decide), un (by decide)])) (by rw [un (by decide), un (by decide), un (by decide)])
  obtain ⟨a1, a2, p, p1, p2, p3, p4, p5, p6⟩ := scan_both hB (s := 0) (by omega) us us (by rw [un (by decide), un (by decide), us])
  unfold sp_Te_begin ok_Te_begin sp_Mo_startText ok_Mo_startText
  simp only [lettn]
  rw [p5, p6]
  refine ⟨⟨a2, trivial⟩, ⟨a1, trivial⟩, p, ⟨buf_o (buf_t hB ?_) ?_, tEn B n p, tKk B n p, us, ?_, ?_, p3, Or.inl ⟨?_, ?_, ?_, ?_, ?_, us, ?_⟩⟩, fun k hk => ?_, ?_⟩
  · rw [un (by decide), un (by decide), un (by decide)]
  · rw [un (by decide), un (by decide), un (by decide)]
  · rw [un (by decide), un (by decide), us]
  · rw [un (by decide), us]
  · rw [un (by decide), un (by decide), un (by decide), un (by decide), un (by decide), us]
  · rw [un (by decide), un (by decide), un (by decide), un (by decide), un (by decide), us]
  · rw [un (by decide), un (by decide), un (by decide), un (by decide), us]
  · rw [un (by decide), un (by decide), un (by decide), un (by decide), us]
  · rw [un (by decide), un (by decide), us]
  · rw [un (by decide), us]
  · rw [un (by omega), un (by omega), un (by omega), un (by omega), un (by omega), un (by omega)]
  · rw [un (by decide), un (by decide), un (by decide), un (by decide), un (by decide), us]
end TKM
