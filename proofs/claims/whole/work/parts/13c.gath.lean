section TRC
variable {T : Int} {r : LV} {ea : IV} {eal : LV} {rar : NI} {ral : NL} {n e : Nat}
/-! ===== the results of a manner gathered ===== -/
def gN (r : LV) (e : Nat) : Nat → Nat
  | 0 => 0
  | i + 1 => if alb r e i = true then gN r e i + 1 else gN r e i
def gL (r : LV) (e : Nat) : Nat → Nat
  | 0 => 0
  | i + 1 => if alb r e i = true then i else gL r e i
def gS (r : LV) (e : Nat) : Nat → Int64
  | 0 => 0
  | i + 1 => if alb r e i = true then gS r e i + r (55 + 8 * i + 7) else gS r e i
def gMn (r : LV) (e : Nat) : Nat → Int64
  | 0 => r (55 + 8 * e + 7)
  | i + 1 => if alb r e i = true then (if r (55 + 8 * i + 7) < gMn r e i then r (55 + 8 * i + 7) else gMn r e i) else gMn r e i
def gMx (r : LV) (e : Nat) : Nat → Int64
  | 0 => r (55 + 8 * e + 7)
  | i + 1 => if alb r e i = true then (if r (55 + 8 * i + 7) < gMx r e i then gMx r e i else r (55 + 8 * i + 7)) else gMx r e i
theorem g_step0 {i : Nat} (h : ¬ alb r e i = true) : gN r e (i + 1) = gN r e i ∧ gL r e (i + 1) = gL r e i ∧ gS r e (i + 1) = gS r e i ∧ gMn r e (i + 1) = gMn r e i ∧ gMx r e (i + 1) = gMx r e i :=
  ⟨if_neg h, if_neg h, if_neg h, if_neg h, if_neg h⟩
theorem g_step1 {i : Nat} (h : alb r e i = true) : gN r e (i + 1) = gN r e i + 1 ∧ gL r e (i + 1) = i ∧ gS r e (i + 1) = gS r e i + r (55 + 8 * i + 7) ∧ gMn r e (i + 1) = (if r (55 + 8 * i + 7) < gMn r e i then r (55 + 8 * i + 7) else gMn r e i) ∧ gMx r e (i + 1) = (if r (55 + 8 * i + 7) < gMx r e i then gMx r e i else r (55 + 8 * i + 7)) :=
  ⟨if_pos h, if_pos h, if_pos h, if_pos h, if_pos h⟩
theorem g_before (he : fa r e = e) : ∀ i, i ≤ e → gN r e i = 0 ∧ gS r e i = 0 ∧ gMn r e i = r (55 + 8 * e + 7) ∧ gMx r e i = r (55 + 8 * e + 7)
  | 0, _ => ⟨rfl, rfl, rfl, rfl⟩
  | i + 1, h => by
    have q : ¬ alb r e i = true := by
      rw [alb_cm, fa_lt (r := r) e i (by omega)]; exact fun w => Bool.noConfusion w
    obtain ⟨a, b, c, d⟩ := g_before he i (by omega)
    obtain ⟨s1, _, s3, s4, s5⟩ := g_step0 q
    exact ⟨s1.trans a, s3.trans b, s4.trans c, s5.trans d⟩
theorem gN_le (i : Nat) : gN r e i ≤ i := by
  induction i with
  | zero => exact Nat.le_refl _
  | succ i ih =>
    by_cases q : alb r e i = true
    · rw [(g_step1 q).1]; omega
    · rw [(g_step0 q).1]; omega
theorem gN_mono {i j : Nat} (h : i ≤ j) : gN r e i ≤ gN r e j := by
  induction h with
  | refl => exact Nat.le_refl _
  | @step j _ ih =>
    by_cases q : alb r e j = true
    · rw [(g_step1 q).1]; omega
    · rw [(g_step0 q).1]; omega
theorem gN_pos {i : Nat} (h : e < i) : 0 < gN r e i := by
  have := gN_mono (r := r) (e := e) (show e + 1 ≤ i from h)
  rw [(g_step1 (alb_rf e)).1] at this
  omega
/-- what stands gathered after i rows -/
def GaR (r : LV) (n e i : Nat) (ra : IV) (al : LV) : Prop := ra 1 = nI n ∧ ra 4 = nI (gN r e i) ∧ al 5 = gS r e i ∧ (e < i → ra 2 = nI e ∧ ra 3 = nI (gL r e i) ∧ al 6 = gMn r e i ∧ al 7 = gMx r e i)
theorem rr_ea {ea' : IV} (h : RR ea rar ral r) (e1 : ea' 1 = ea 1) : RR ea' rar ral r := ⟨by rw [e1]; exact h.1, h.2⟩
theorem gath_one (he : fa r e = e) {i : Nat} (h20 : i < 20) (hi : e ≤ i) (ha : alb r e i = true) {ra : IV} {al : LV} (h : GaR r n e i ra al) : GaR r n e (i + 1) (sp_Rs_gatherOne (nI i) (r (55 + 8 * i + 7)) ra al).1 (sp_Rs_gatherOne (nI i) (r (55 + 8 * i + 7)) ra al).2 := by
  obtain ⟨h1, h4, h5, h6⟩ := h
  obtain ⟨s1, s2, s3, s4, s5⟩ := g_step1 ha
  unfold GaR
  rw [s1, s2, s3, s4, s5]
  unfold sp_Rs_gatherOne sp_Rs_gatherOne_22
  simp only [lettn]
  have gl := gN_le (r := r) (e := e) i
  have z : ra 4 = 0 ↔ gN r e i = 0 := by
    rw [h4, show (0 : Int32) = nI 0 from rfl, nzinj (by omega) (by omega)]
  by_cases q : e < i
  · have p := gN_pos (r := r) q
    obtain ⟨k2, k3, k6, k7⟩ := h6 q
    rw [if_neg (fun w => by have := z.mp w; omega)]
    dsimp only
    refine ⟨?_, ?_, ?_, fun _ => ⟨?_, ?_, ?_, ?_⟩⟩
    · rw [un (by decide), un (by decide)]; exact h1
    · rw [us, un (by decide), h4, nzadd1 _ (by omega)]
    · rw [uLn (by decide), uLn (by decide), uLs, h5]
    · rw [un (by decide), un (by decide)]; exact k2
    · rw [un (by decide), us]
    · rw [uLn (by decide), uLs, uLn (by decide), k6]
    · rw [uLs, uLn (by decide), uLn (by decide), k7]
  · have ei : i = e := by omega
    subst ei
    obtain ⟨b1, b2, b3, b4⟩ := g_before he i (Nat.le_refl _)
    rw [if_pos (z.mpr b1)]
    dsimp only
    rw [b3, b4]
    refine ⟨?_, ?_, ?_, fun _ => ⟨?_, ?_, ?_, ?_⟩⟩
    · rw [un (by decide), un (by decide), un (by decide)]; exact h1
    · rw [us, un (by decide), un (by decide), h4, nzadd1 _ (by omega)]
    · rw [uLn (by decide), uLn (by decide), uLs, uLn (by decide), uLn (by decide), h5]
    · rw [un (by decide), un (by decide), us]
    · rw [un (by decide), us]
    · rw [uLn (by decide), uLs, uLn (by decide), uLn (by decide), uLs]
    · rw [uLs, uLn (by decide), uLn (by decide), uLs]
theorem c_gath12 (h : RR ea rar ral r) (hn : RN r n) (he : fa r e = e) (hen : e < n) : ∀ k f i ra al, i + k = n → k < f → GaR r n e i ra al → ∃ ra' al', sp_Rs_gather_12 rar (nI (ah r e)) ral f (nI i) ra al = (1, ra', al') ∧ ok_Rs_gather_12 rar (nI (ah r e)) ral f (nI i) ra al ∧ GaR r n e n ra' al'
  | k, 0, _, _, _, _, hf, _ => absurd hf (Nat.not_lt_zero k)
  | 0, f + 1, i, ra, al, hi, _, hg => by
    have h20 := hn.1
    have hin : i = n := by omega
    have c : ra 1 ≤ nI i := by rw [hg.1]; exact (nzle (by omega) (by omega)).mpr (by omega)
    refine ⟨ra, al, ?_, ?_, by rw [← hin]; rw [hin] at hg ⊢; exact hg⟩
    · show bd_Rs_gather_12 _ _ _ _ _ _ _ = _
      unfold bd_Rs_gather_12 sp_Rs_gather_54
      have p := gN_pos (r := r) (show e < i by omega)
      have gl := gN_le (r := r) (e := e) i
      rw [if_pos c, if_neg (fun w => by
        rw [hg.2.1, show (0 : Int32) = nI 0 from rfl, nzle (by omega) (by omega)] at w; omega)]
    · show okb_Rs_gather_12 _ _ _ _ _ _ _ _
      unfold okb_Rs_gather_12
      exact ⟨fun _ => trivial, fun w => absurd c w⟩
  | k + 1, f + 1, i, ra, al, hi, hf, hg => by
    have h20 := hn.1
    have c : ¬ ra 1 ≤ nI i := by rw [hg.1, nzle (by omega) (by omega)]; omega
    have hR : RR ra rar ral r := rr_ea h (hg.1.trans (rr_n h hn).symm)
    have at1 := at_some hg.1 hn.1 (show i < n by omega)
    obtain ⟨m1, m2⟩ := c_mof hR hn (show i < n by omega)
    have la := ah_le (r := r) (fa r i)
    have lf := fa_le (r := r) i
    have lb := ah_le (r := r) e
    have hz : nI (ah r (fa r i)) = nI (ah r e) ↔ alb r e i = true := (nzinj (by omega) (by omega)).trans (ah_of he)
    have vi : ral i 7 = r (55 + 8 * i + 7) := (h.2 i (by omega) (by rw [hn.2]; omega)).2 7 (by decide) (by decide)
    by_cases q : alb r e i = true
    · have ei : e ≤ i := by
        rcases Nat.lt_or_ge i e with w | w
        · have := fa_lt (r := r) e i (by omega)
          rw [alb_cm, q] at this; cases this
        · exact w
      have hg2 := gath_one he (show i < 20 by omega) ei q hg
      obtain ⟨ra', al', x1, x2, x3⟩ := c_gath12 h hn he hen k f (i + 1) _ _ (by omega) (by omega) hg2
      refine ⟨ra', al', ?_, ?_, x3⟩
      · show bd_Rs_gather_12 _ _ _ _ _ _ _ = _
        unfold bd_Rs_gather_12 sp_Rs_gather_48
        simp only [lettn]
        rw [if_neg c, at1, nzadd1 i (by omega), m1]
        show (if nI (ah r (fa r i)) = nI (ah r e) then _ else _) = _
        rw [if_pos (hz.mpr q), vi]
        exact x1
      · show okb_Rs_gather_12 _ _ _ _ _ _ _ _
        unfold okb_Rs_gather_12 ok_Rs_gather_48
        simp only [lettn]
        rw [at1, nzadd1 i (by omega), m1]
        refine ⟨fun w => absurd w c, fun _ => ⟨fun w => absurd w (by simp), fun k5 h5 => ?_⟩⟩
        cases h5
        rw [vi]
        exact ⟨m2, fun _ => ⟨by omega, x2⟩, fun w => absurd (hz.mpr q) w⟩
    · obtain ⟨s1, s2, s3, s4, s5⟩ := g_step0 q
      have hg2 : GaR r n e (i + 1) ra al := by
        unfold GaR
        rw [s1, s2, s3, s4, s5]
        refine ⟨hg.1, hg.2.1, hg.2.2.1, fun w => hg.2.2.2 ?_⟩
        rcases Nat.lt_or_ge e i with w2 | w2
        · exact w2
        · exact absurd (show alb r e i = true by rw [show i = e by omega]; exact alb_rf e) q
      obtain ⟨ra', al', x1, x2, x3⟩ := c_gath12 h hn he hen k f (i + 1) _ _ (by omega) (by omega) hg2
      refine ⟨ra', al', ?_, ?_, x3⟩
      · show bd_Rs_gather_12 _ _ _ _ _ _ _ = _
        unfold bd_Rs_gather_12 sp_Rs_gather_48
        simp only [lettn]
        rw [if_neg c, at1, nzadd1 i (by omega), m1]
        show (if nI (ah r (fa r i)) = nI (ah r e) then _ else _) = _
        rw [if_neg (fun w => q (hz.mp w))]
        exact x1
      · show okb_Rs_gather_12 _ _ _ _ _ _ _ _
        unfold okb_Rs_gather_12 ok_Rs_gather_48
        simp only [lettn]
        rw [at1, nzadd1 i (by omega), m1]
        refine ⟨fun w => absurd w c, fun _ => ⟨fun w => absurd w (by simp), fun k5 h5 => ?_⟩⟩
        cases h5
        exact ⟨m2, fun w => absurd (hz.mp w) q, fun _ => x2⟩
/-- a manner that is: gathered -/
theorem c_gath (h : RR ea rar ral r) (hn : RN r n) (he : fa r e = e) (hen : e < n) : ∃ ra' al', sp_Rs_gather (nI (ah r e)) ea eal rar ral = (1, ra', al') ∧ ok_Rs_gather (nI (ah r e)) ea eal rar ral ∧ GaR r n e n ra' al' := by
  have h20 := hn.1
  unfold sp_Rs_gather ok_Rs_gather
  simp only [lettn]
  refine c_gath12 h hn he hen n big 0 _ _ (Nat.zero_add n) (by rw [big_eq]; omega) ⟨?_, us, uLs, fun w => absurd w (Nat.not_lt_zero e)⟩
  rw [un (by decide)]; exact rr_n h hn
/-- a manner that is not: nothing gathered -/
theorem c_ungath12 (h : RR ea rar ral r) (hn : RN r n) {p : Int32} (hp : ∀ m, m < ah r n → p ≠ nI m) {al : LV} : ∀ k f i ra, i + k = n → k < f → ra 1 = nI n → ra 4 = 0 → sp_Rs_gather_12 rar p ral f (nI i) ra al = (0, ra, al) ∧ ok_Rs_gather_12 rar p ral f (nI i) ra al
  | k, 0, _, _, _, hf, _, _ => absurd hf (Nat.not_lt_zero k)
  | 0, f + 1, i, ra, hi, _, h1, h4 => by
    have h20 := hn.1
    have c : ra 1 ≤ nI i := by rw [h1]; exact (nzle (by omega) (by omega)).mpr (by omega)
    constructor
    · show bd_Rs_gather_12 _ _ _ _ _ _ _ = _
      unfold bd_Rs_gather_12 sp_Rs_gather_54
      rw [if_pos c, if_pos (by rw [h4]; decide)]
    · show okb_Rs_gather_12 _ _ _ _ _ _ _ _
      unfold okb_Rs_gather_12
      exact ⟨fun _ => trivial, fun w => absurd c w⟩
  | k + 1, f + 1, i, ra, hi, hf, h1, h4 => by
    have h20 := hn.1
    have c : ¬ ra 1 ≤ nI i := by rw [h1, nzle (by omega) (by omega)]; omega
    have hR : RR ra rar ral r := rr_ea h (h1.trans (rr_n h hn).symm)
    have at1 := at_some h1 hn.1 (show i < n by omega)
    obtain ⟨m1, m2⟩ := c_mof hR hn (show i < n by omega)
    have lf := fa_le (r := r) i
    have hne : ¬ nI (ah r (fa r i)) = p := fun w => hp _ (ah_lt (fa_fa i) (show fa r i < n by omega)) w.symm
    obtain ⟨x1, x2⟩ := c_ungath12 h hn hp (al := al) k f (i + 1) ra (by omega) (by omega) h1 h4
    constructor
    · show bd_Rs_gather_12 _ _ _ _ _ _ _ = _
      unfold bd_Rs_gather_12 sp_Rs_gather_48
      simp only [lettn]
      rw [if_neg c, at1, nzadd1 i (by omega), m1]
      show (if nI (ah r (fa r i)) = p then _ else _) = _
      rw [if_neg hne]
      exact x1
    · show okb_Rs_gather_12 _ _ _ _ _ _ _ _
      unfold okb_Rs_gather_12 ok_Rs_gather_48
      simp only [lettn]
      rw [at1, nzadd1 i (by omega), m1]
      refine ⟨fun w => absurd w c, fun _ => ⟨fun w => absurd w (by simp), fun k5 h5 => ?_⟩⟩
      cases h5
      exact ⟨m2, fun w => absurd w hne, fun _ => x2⟩
theorem c_ungath (h : RR ea rar ral r) (hn : RN r n) {p : Int32} (hp : ∀ m, m < ah r n → p ≠ nI m) : ∃ ra' al', sp_Rs_gather p ea eal rar ral = (0, ra', al') ∧ ok_Rs_gather p ea eal rar ral ∧ ra' 1 = ea 1 := by
  have h20 := hn.1
  unfold sp_Rs_gather ok_Rs_gather
  simp only [lettn]
  obtain ⟨a, b⟩ := c_ungath12 h hn hp (al := vp_updL eal 5 0) n big 0 (upd ea 4 0) (Nat.zero_add n) (by rw [big_eq]; omega) (by rw [un (by decide)]; exact rr_n h hn) us
  exact ⟨_, _, a, b, un (by decide)⟩
/-! the reference's side -/
theorem m_resOf4 (hn : RN r n) (hen : e < n) : ∀ k f i, i + k = n → k < f → sp_Mo_resultsOf_4 r (nI e) f (nI (gN r e i)) (nI i) = nI (gN r e n) ∧ ok_Mo_resultsOf_4 r (nI e) f (nI (gN r e i)) (nI i)
  | k, 0, _, _, hf => absurd hf (Nat.not_lt_zero k)
  | 0, f + 1, i, hi, _ => by
    have h20 := hn.1
    have hin : i = n := by omega
    have c : r 54 ≤ (nI i).toInt64 := (m_lt54 hn (by omega)).mpr (by omega)
    constructor
    · show bd_Mo_resultsOf_4 _ _ _ _ _ = _
      unfold bd_Mo_resultsOf_4
      rw [if_pos c, hin]
    · show okb_Mo_resultsOf_4 _ _ _ _ _ _
      unfold okb_Mo_resultsOf_4
      exact ⟨fun _ => trivial, fun w => absurd c w⟩
  | k + 1, f + 1, i, hi, hf => by
    have h20 := hn.1
    have c : ¬ r 54 ≤ (nI i).toInt64 := fun w => by have := (m_lt54 hn (by omega)).mp w; omega
    obtain ⟨x1, x2⟩ := m_resOf4 hn hen k f (i + 1) (by omega) (by omega)
    have gl := gN_le (r := r) (e := e) i
    have z := m_alk0 (r := r) (show e < 20 by omega) (show i < 20 by omega)
    have zo := (m_alike (r := r) (show e < 20 by omega) (show i < 20 by omega)).2
    constructor
    · show bd_Mo_resultsOf_4 _ _ _ _ _ = _
      unfold bd_Mo_resultsOf_4 sp_Mo_resultsOf_32
      simp only [lettn]
      rw [if_neg c, nzadd1 i (by omega), nadd0, nzadd1 (gN r e i) (by omega)]
      by_cases q : alb r e i = true
      · rw [(g_step1 q).1] at x1
        rw [if_neg (fun w => z.mp w q)]; exact x1
      · rw [(g_step0 q).1] at x1
        rw [if_pos (z.mpr q)]; exact x1
    · show okb_Mo_resultsOf_4 _ _ _ _ _ _
      unfold okb_Mo_resultsOf_4 ok_Mo_resultsOf_32
      simp only [lettn]
      rw [nzadd1 i (by omega), nadd0, nzadd1 (gN r e i) (by omega)]
      refine ⟨fun w => absurd w c, fun _ => ⟨zo, fun w => ?_, fun w => ?_⟩⟩
      · rw [(g_step0 (z.mp w)).1] at x2; exact x2
      · rw [(g_step1 (Classical.not_not.mp (fun w2 => w (z.mpr w2)))).1] at x2; exact x2
theorem m_resOf (hn : RN r n) (he : fa r e = e) (hen : e < n) : sp_Mo_resultsOf (nI e) r = nI (gN r e n) ∧ ok_Mo_resultsOf (nI e) r := by
  have h20 := hn.1
  have a := m_resOf4 hn hen (n - e) big e (by omega) (by rw [big_eq]; omega)
  rw [(g_before he e (Nat.le_refl e)).1] at a
  exact a
theorem m_lat11 (hn : RN r n) (hen : e < n) : ∀ f i, i < f → e ≤ i → i < n → gL r e n = gL r e (i + 1) → sp_Mo_latest_11 (nI e) r f (nI i) = nI (gL r e n) ∧ ok_Mo_latest_11 (nI e) r f (nI i)
  | 0, _, hf, _, _, _ => absurd hf (Nat.not_lt_zero _)
  | f + 1, i, hf, hei, hin, hg => by
    have h20 := hn.1
    have z := m_alk0 (r := r) (show e < 20 by omega) (show i < 20 by omega)
    have zo := (m_alike (r := r) (show e < 20 by omega) (show i < 20 by omega)).2
    by_cases q : alb r e i = true
    · constructor
      · show bd_Mo_latest_11 _ _ _ _ = _
        unfold bd_Mo_latest_11
        simp only [lettn]
        rw [if_neg (fun w => z.mp w q), hg, (g_step1 q).2.1]
      · show okb_Mo_latest_11 _ _ _ _ _
        unfold okb_Mo_latest_11
        simp only [lettn]
        exact ⟨zo, fun w => absurd q (z.mp w), fun _ => trivial⟩
    · obtain ⟨j, rfl⟩ : ∃ j, i = j + 1 := ⟨i - 1, by
        have : i ≠ e := fun w => q (by rw [w]; exact alb_rf e)
        omega⟩
      have ej : e ≤ j := by
        have : j + 1 ≠ e := fun w => q (by rw [w]; exact alb_rf e)
        omega
      have es : nI (j + 1) + (-1 : Int32) = nI j := nIo (by
        rw [Kit.i32_add (by rw [nIz (by omega)]; show -2147483648 ≤ ((j + 1 : Nat) : Int) + -1; omega) (by rw [nIz (by omega)]; show ((j + 1 : Nat) : Int) + -1 < 2147483648; omega), nIz (by omega)]
        show ((j + 1 : Nat) : Int) + -1 = j
        omega)
      obtain ⟨x1, x2⟩ := m_lat11 hn hen f j (by omega) ej (by omega) (hg.trans (g_step0 q).2.1)
      constructor
      · show bd_Mo_latest_11 _ _ _ _ = _
        unfold bd_Mo_latest_11
        simp only [lettn]
        rw [if_pos (z.mpr q), es]
        exact x1
      · show okb_Mo_latest_11 _ _ _ _ _
        unfold okb_Mo_latest_11
        simp only [lettn]
        rw [es]
        exact ⟨zo, fun _ => x2, fun _ => trivial⟩
theorem r54n (hn : RN r n) : (r 54).toInt32 = nI n := nIo (by
  have h20 := hn.1
  have h2 := hn.2
  rw [Kit.i32_of_i64 (by show -2 ^ 31 ≤ zr r 54; omega) (by show zr r 54 < 2 ^ 31; omega)]; exact h2)
theorem m_latest (hn : RN r n) (hen : e < n) : sp_Mo_latest (nI e) r = nI (gL r e n) ∧ ok_Mo_latest (nI e) r := by
  have h20 := hn.1
  unfold sp_Mo_latest ok_Mo_latest
  simp only [lettn]
  rw [r54n hn, show (1 : Int32) = nI 1 from rfl, nzsub n 1 (by omega) (by omega)]
  exact m_lat11 hn hen big (n - 1) (by rw [big_eq]; omega) (by omega) (by omega) (by rw [show n - 1 + 1 = n by omega])
theorem m_spr14 (hn : RN r n) (hen : e < n) : ∀ k f i, i + k = n → k < f → sp_Mo_spreadFrom_14 r (nI e) f (gMx r e i) (gMn r e i) (nI i) = gMx r e n - gMn r e n ∧ ok_Mo_spreadFrom_14 r (nI e) f (gMx r e i) (gMn r e i) (nI i)
  | k, 0, _, _, hf => absurd hf (Nat.not_lt_zero k)
  | 0, f + 1, i, hi, _ => by
    have h20 := hn.1
    have hin : i = n := by omega
    have c : r 54 ≤ (nI i).toInt64 := (m_lt54 hn (by omega)).mpr (by omega)
    constructor
    · show bd_Mo_spreadFrom_14 _ _ _ _ _ _ = _
      unfold bd_Mo_spreadFrom_14 sp_Mo_spreadFrom_72
      rw [if_pos c, hin]
    · show okb_Mo_spreadFrom_14 _ _ _ _ _ _ _
      unfold okb_Mo_spreadFrom_14
      exact ⟨fun _ => trivial, fun w => absurd c w⟩
  | k + 1, f + 1, i, hi, hf => by
    have h20 := hn.1
    have c : ¬ r 54 ≤ (nI i).toInt64 := fun w => by have := (m_lt54 hn (by omega)).mp w; omega
    obtain ⟨x1, x2⟩ := m_spr14 hn hen k f (i + 1) (by omega) (by omega)
    have z := m_alk0 (r := r) (show e < 20 by omega) (show i < 20 by omega)
    have zo := (m_alike (r := r) (show e < 20 by omega) (show i < 20 by omega)).2
    obtain ⟨v, vo⟩ := m_of (r := r) (show i < 20 by omega) (show 7 < 8 by decide)
    have f7 : sp_Mo_ofResult (nI i) (7 : Int32) r = r (55 + 8 * i + 7) := v
    constructor
    · show bd_Mo_spreadFrom_14 _ _ _ _ _ _ = _
      unfold bd_Mo_spreadFrom_14 sp_Mo_spreadFrom_66
      simp only [lettn]
      rw [if_neg c, nzadd1 i (by omega), f7]
      by_cases q : alb r e i = true
      · rw [(g_step1 q).2.2.2.1, (g_step1 q).2.2.2.2] at x1
        rw [if_neg (fun w => z.mp w q)]; exact x1
      · rw [(g_step0 q).2.2.2.1, (g_step0 q).2.2.2.2] at x1
        rw [if_pos (z.mpr q)]; exact x1
    · show okb_Mo_spreadFrom_14 _ _ _ _ _ _ _
      unfold okb_Mo_spreadFrom_14 ok_Mo_spreadFrom_66
      simp only [lettn]
      rw [nzadd1 i (by omega), f7]
      refine ⟨fun w => absurd w c, fun _ => ⟨zo, fun w => ?_, fun w => ⟨vo, ?_⟩⟩⟩
      · rw [(g_step0 (z.mp w)).2.2.2.1, (g_step0 (z.mp w)).2.2.2.2] at x2; exact x2
      · have q : alb r e i = true := Classical.not_not.mp (fun w2 => w (z.mpr w2))
        rw [(g_step1 q).2.2.2.1, (g_step1 q).2.2.2.2] at x2; exact x2
theorem m_spr (hn : RN r n) (he : fa r e = e) (hen : e < n) : sp_Mo_spreadFrom (nI e) r = gMx r e n - gMn r e n ∧ ok_Mo_spreadFrom (nI e) r := by
  have h20 := hn.1
  obtain ⟨v, vo⟩ := m_of (r := r) (show e < 20 by omega) (show 7 < 8 by decide)
  have f7 : sp_Mo_ofResult (nI e) (7 : Int32) r = r (55 + 8 * e + 7) := v
  have a := m_spr14 hn hen (n - e) big e (by omega) (by rw [big_eq]; omega)
  obtain ⟨_, _, b3, b4⟩ := g_before he e (Nat.le_refl e)
  rw [b3, b4] at a
  unfold sp_Mo_spreadFrom ok_Mo_spreadFrom
  simp only [lettn]
  rw [f7]
  exact ⟨a.1, vo, a.2⟩
/-- the mean of the reference -/
theorem m_mean37 (hn : RN r n) (he : fa r e = e) (hen : e < n) {oo : IV} : ∀ k f i, i + k = n → k < f → sp_Mo_meanOf_37 r (nI e) oo f (gS r e i) (nI i) = (FP.ddiv (FP.l2d (gS r e n)) (FP.i2d (nI (gN r e n))), oo) ∧ (vf_n64 (FP.ddiv (FP.l2d (gS r e n)) (FP.i2d (nI (gN r e n)))) → ok_Mo_meanOf_37 r (nI e) oo f (gS r e i) (nI i))
  | k, 0, _, _, hf => absurd hf (Nat.not_lt_zero k)
  | 0, f + 1, i, hi, _ => by
    have h20 := hn.1
    have hin : i = n := by omega
    have c : r 54 ≤ (nI i).toInt64 := (m_lt54 hn (by omega)).mpr (by omega)
    obtain ⟨y1, y2⟩ := m_resOf hn he hen
    constructor
    · show bd_Mo_meanOf_37 _ _ _ _ _ _ = _
      unfold bd_Mo_meanOf_37 sp_Mo_meanOf_82
      simp only [lettn]
      rw [if_pos c, hin, y1]
    · intro nn
      show okb_Mo_meanOf_37 _ _ _ _ _ _ _
      unfold okb_Mo_meanOf_37 ok_Mo_meanOf_82
      simp only [lettn]
      rw [hin, y1]
      exact ⟨fun _ => ⟨y2, nn, trivial⟩, fun w => absurd (by rw [← hin]; exact c) w⟩
  | k + 1, f + 1, i, hi, hf => by
    have h20 := hn.1
    have c : ¬ r 54 ≤ (nI i).toInt64 := fun w => by have := (m_lt54 hn (by omega)).mp w; omega
    obtain ⟨x1, x2⟩ := m_mean37 hn he hen (oo := oo) k f (i + 1) (by omega) (by omega)
    have z := m_alk0 (r := r) (show e < 20 by omega) (show i < 20 by omega)
    have zo := (m_alike (r := r) (show e < 20 by omega) (show i < 20 by omega)).2
    obtain ⟨v, vo⟩ := m_of (r := r) (show i < 20 by omega) (show 7 < 8 by decide)
    have f7 : sp_Mo_ofResult (nI i) (7 : Int32) r = r (55 + 8 * i + 7) := v
    constructor
    · show bd_Mo_meanOf_37 _ _ _ _ _ _ = _
      unfold bd_Mo_meanOf_37 sp_Mo_meanOf_74
      simp only [lettn]
      rw [if_neg c, nzadd1 i (by omega), f7, Int64.add_zero]
      by_cases q : alb r e i = true
      · rw [(g_step1 q).2.2.1] at x1
        rw [if_neg (fun w => z.mp w q)]; exact x1
      · rw [(g_step0 q).2.2.1] at x1
        rw [if_pos (z.mpr q)]; exact x1
    · intro nn
      have x2 := x2 nn
      show okb_Mo_meanOf_37 _ _ _ _ _ _ _
      unfold okb_Mo_meanOf_37 ok_Mo_meanOf_74
      simp only [lettn]
      rw [nzadd1 i (by omega), f7, Int64.add_zero]
      refine ⟨fun w => absurd w c, fun _ => ⟨zo, fun w => ?_, fun w => ⟨vo, ?_⟩⟩⟩
      · rw [(g_step0 (z.mp w)).2.2.1] at x2; exact x2
      · have q : alb r e i = true := Classical.not_not.mp (fun w2 => w (z.mpr w2))
        rw [(g_step1 q).2.2.1] at x2; exact x2
end TRC
