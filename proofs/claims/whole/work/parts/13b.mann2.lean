section TRB
variable {T : Int} {r : LV} {ea : IV} {eal : LV} {rar : NI} {ral : NL} {n : Nat}
/-! ===== manners: both sides count alike ===== -/
theorem m_alike {i j : Nat} (hi : i < 20) (hj : j < 20) : sp_Mo_isAlike (nI i) (nI j) r = (if alb r i j = true then 1 else 0) ∧ ok_Mo_isAlike (nI i) (nI j) r := by
  have a0 := m_of (r := r) hi (show 0 < 8 by decide)
  have a1 := m_of (r := r) hi (show 1 < 8 by decide)
  have a2 := m_of (r := r) hi (show 2 < 8 by decide)
  have b0 := m_of (r := r) hj (show 0 < 8 by decide)
  have b1 := m_of (r := r) hj (show 1 < 8 by decide)
  have b2 := m_of (r := r) hj (show 2 < 8 by decide)
  have f0 : ∀ x, sp_Mo_ofResult x (0 : Int32) r = sp_Mo_ofResult x (nI 0) r := fun _ => rfl
  have f1 : ∀ x, sp_Mo_ofResult x (1 : Int32) r = sp_Mo_ofResult x (nI 1) r := fun _ => rfl
  have f2 : ∀ x, sp_Mo_ofResult x (2 : Int32) r = sp_Mo_ofResult x (nI 2) r := fun _ => rfl
  unfold sp_Mo_isAlike ok_Mo_isAlike sp_Mo_isAlike_52
  simp only [lettn]
  rw [f0, f0, f1, f1, f2, f2, a0.1, a1.1, a2.1, b0.1, b1.1, b2.1]
  refine ⟨?_, a0.2, b0.2, fun _ => ⟨a1.2, b1.2, fun _ => ⟨a2.2, b2.2, trivial⟩, fun _ => trivial⟩, fun _ => trivial⟩
  by_cases q0 : r (55 + 8 * i) = r (55 + 8 * j)
  · rw [if_pos (show r (55 + 8 * i + 0) = r (55 + 8 * j + 0) from q0)]
    by_cases q1 : r (55 + 8 * i + 1) = r (55 + 8 * j + 1)
    · rw [if_pos q1]
      by_cases q2 : r (55 + 8 * i + 2) = r (55 + 8 * j + 2)
      · rw [if_pos q2, if_pos (alb_iff.mpr ⟨q0, q1, q2⟩)]
      · rw [if_neg q2, if_neg (fun w => q2 (alb_iff.mp w).2.2)]
    · rw [if_neg q1, if_neg (fun w => q1 (alb_iff.mp w).2.1)]
  · rw [if_neg (show ¬ r (55 + 8 * i + 0) = r (55 + 8 * j + 0) from q0), if_neg (fun w => q0 (alb_iff.mp w).1)]
theorem m_alk0 {i j : Nat} (hi : i < 20) (hj : j < 20) : sp_Mo_isAlike (nI i) (nI j) r = 0 ↔ ¬ alb r i j = true := by
  rw [(m_alike hi hj).1]
  by_cases q : alb r i j = true
  · rw [if_pos q]; exact ⟨fun w => absurd w (by decide), fun w => absurd q w⟩
  · rw [if_neg q]; exact ⟨fun _ => q, fun _ => rfl⟩
theorem m_earl2 {i : Nat} (hi : i < 20) : ∀ k f j, j + k = i → k < f → sp_Mo_earliest_2 (nI i) r f (nI j) = nI (fi r i k j) ∧ ok_Mo_earliest_2 (nI i) r f (nI j)
  | k, 0, _, _, hf => absurd hf (Nat.not_lt_zero k)
  | 0, f + 1, j, h, _ => by
    have hji : j = i := by omega
    have n0 : ¬ sp_Mo_isAlike (nI j) (nI i) r = 0 := fun w => (m_alk0 (by omega) hi).mp w (by rw [hji]; exact alb_rf i)
    constructor
    · show bd_Mo_earliest_2 _ _ _ _ = _
      unfold bd_Mo_earliest_2
      simp only [lettn]
      rw [if_neg n0]; rfl
    · show okb_Mo_earliest_2 _ _ _ _ _
      unfold okb_Mo_earliest_2
      simp only [lettn]
      exact ⟨(m_alike (by omega) hi).2, fun w => absurd w n0, fun _ => trivial⟩
  | k + 1, f + 1, j, h, hf => by
    obtain ⟨e, o⟩ := m_earl2 hi k f (j + 1) (by omega) (by omega)
    have z := m_alk0 (r := r) (show j < 20 by omega) hi
    constructor
    · show bd_Mo_earliest_2 _ _ _ _ = nI (if alb r j i = true then j else fi r i k (j + 1))
      unfold bd_Mo_earliest_2
      simp only [lettn]
      rw [nzadd1 j (by omega), e]
      by_cases q : alb r j i = true
      · rw [if_neg (fun w => z.mp w q), if_pos q]
      · rw [if_pos (z.mpr q), if_neg q]
    · show okb_Mo_earliest_2 _ _ _ _ _
      unfold okb_Mo_earliest_2
      simp only [lettn]
      rw [nzadd1 j (by omega)]
      exact ⟨(m_alike (by omega) hi).2, fun _ => o, fun _ => trivial⟩
theorem m_earl {i : Nat} (hi : i < 20) : sp_Mo_earliest (nI i) r = nI (fa r i) ∧ ok_Mo_earliest (nI i) r := m_earl2 hi i big 0 (Nat.zero_add i) (by rw [big_eq]; omega)
theorem m_isE {i : Nat} (hi : i < 20) : sp_Mo_isEarliest (nI i) r = (if fa r i = i then 1 else 0) ∧ ok_Mo_isEarliest (nI i) r := by
  have l := fa_le (r := r) i
  unfold sp_Mo_isEarliest ok_Mo_isEarliest
  simp only [lettn]
  rw [(m_earl hi).1]
  refine ⟨?_, (m_earl hi).2, trivial⟩
  by_cases q : fa r i = i
  · rw [if_pos q, if_pos (by rw [q])]
  · rw [if_neg q, if_neg (fun w => q ((nzinj (by omega) (by omega)).mp w))]
theorem m_isE0 {i : Nat} (hi : i < 20) : sp_Mo_isEarliest (nI i) r = 0 ↔ ¬ fa r i = i := by
  rw [(m_isE hi).1]
  by_cases q : fa r i = i
  · rw [if_pos q]; exact ⟨fun w => absurd w (by decide), fun w => absurd q w⟩
  · rw [if_neg q]; exact ⟨fun _ => q, fun _ => rfl⟩
theorem nadd0 (a : Nat) : nI a + (0 : Int32) = nI a := Int32.toInt_inj.mp (by rw [Int32.add_zero])
theorem r54 (hn : RN r n) : r 54 = lN n := Int64.toInt_inj.mp (by rw [lNz (by have := hn.1; omega)]; exact hn.2)
theorem m_lt54 (hn : RN r n) {i : Nat} (hi : i < 2147483648) : r 54 ≤ (nI i).toInt64 ↔ n ≤ i := by
  rw [Int64.le_iff_toInt_le, Kit.i64_of_i32, nIz hi]
  show zr r 54 ≤ (i : Int) ↔ _
  rw [hn.2]; omega
/-- how many manners there are -/
theorem m_mann4 (hn : RN r n) : ∀ k f i, i + k = n → k < f → sp_Mo_manners_4 r f (nI (ah r i)) (nI i) = nI (ah r n) ∧ ok_Mo_manners_4 r f (nI (ah r i)) (nI i)
  | k, 0, _, _, hf => absurd hf (Nat.not_lt_zero k)
  | 0, f + 1, i, h, _ => by
    have hin : i = n := by omega
    have c : r 54 ≤ (nI i).toInt64 := (m_lt54 hn (by have := hn.1; omega)).mpr (by omega)
    constructor
    · show bd_Mo_manners_4 _ _ _ _ = _
      unfold bd_Mo_manners_4
      rw [if_pos c, hin]
    · show okb_Mo_manners_4 _ _ _ _ _
      unfold okb_Mo_manners_4
      exact ⟨fun _ => trivial, fun w => absurd c w⟩
  | k + 1, f + 1, i, h, hf => by
    have h20 := hn.1
    have c : ¬ r 54 ≤ (nI i).toInt64 := fun w => by have := (m_lt54 hn (by omega)).mp w; omega
    obtain ⟨e, o⟩ := m_mann4 hn k f (i + 1) (by omega) (by omega)
    have la := ah_le (r := r) i
    have z := m_isE0 (r := r) (show i < 20 by omega)
    rw [ah_s] at e o
    constructor
    · show bd_Mo_manners_4 _ _ _ _ = _
      unfold bd_Mo_manners_4 sp_Mo_manners_31
      simp only [lettn]
      rw [if_neg c, nzadd1 i (by omega), nadd0, nzadd1 (ah r i) (by omega)]
      by_cases q : fa r i = i
      · rw [if_pos q] at e
        rw [if_neg (fun w => z.mp w q)]; exact e
      · rw [if_neg q] at e
        rw [if_pos (z.mpr q)]; exact e
    · show okb_Mo_manners_4 _ _ _ _ _
      unfold okb_Mo_manners_4 ok_Mo_manners_31
      simp only [lettn]
      rw [nzadd1 i (by omega), nadd0, nzadd1 (ah r i) (by omega)]
      refine ⟨fun w => absurd w c, fun _ => ⟨(m_isE (by omega)).2, fun w => ?_, fun w => ?_⟩⟩
      · rw [if_neg (z.mp w)] at o; exact o
      · have q : fa r i = i := Classical.not_not.mp (fun w2 => w (z.mpr w2))
        rw [if_pos q] at o; exact o
theorem m_mann (hn : RN r n) : sp_Mo_manners r = nI (ah r n) ∧ ok_Mo_manners r := m_mann4 hn n big 0 (Nat.zero_add n) (by rw [big_eq]; have := hn.1; omega)
/-- which manner a result is of -/
theorem m_mof4 {p : Nat} (hp : p < 20) : ∀ k f i, i + k = fa r p → k < f → sp_Mo_mannerOf_4 (nI p) r f (nI (ah r i)) (nI i) = nI (ah r (fa r p)) ∧ ok_Mo_mannerOf_4 (nI p) r f (nI (ah r i)) (nI i)
  | k, 0, _, _, hf => absurd hf (Nat.not_lt_zero k)
  | 0, f + 1, i, h, _ => by
    have l := fa_le (r := r) p
    have hin : i = fa r p := by omega
    have c : nI (fa r p) ≤ nI i := (nzle (by omega) (by omega)).mpr (by omega)
    constructor
    · show bd_Mo_mannerOf_4 _ _ _ _ _ = _
      unfold bd_Mo_mannerOf_4
      simp only [lettn]
      rw [(m_earl hp).1, if_pos c, hin]
    · show okb_Mo_mannerOf_4 _ _ _ _ _ _
      unfold okb_Mo_mannerOf_4
      simp only [lettn]
      rw [(m_earl hp).1]
      exact ⟨(m_earl hp).2, fun _ => trivial, fun w => absurd c w⟩
  | k + 1, f + 1, i, h, hf => by
    have l := fa_le (r := r) p
    have c : ¬ nI (fa r p) ≤ nI i := fun w => by have := (nzle (by omega) (by omega)).mp w; omega
    obtain ⟨e, o⟩ := m_mof4 hp k f (i + 1) (by omega) (by omega)
    have la := ah_le (r := r) i
    have z := m_isE0 (r := r) (show i < 20 by omega)
    rw [ah_s] at e o
    constructor
    · show bd_Mo_mannerOf_4 _ _ _ _ _ = _
      unfold bd_Mo_mannerOf_4 sp_Mo_mannerOf_27
      simp only [lettn]
      rw [(m_earl hp).1, if_neg c, nzadd1 i (by omega), nadd0, nzadd1 (ah r i) (by omega)]
      by_cases q : fa r i = i
      · rw [if_pos q] at e
        rw [if_neg (fun w => z.mp w q)]; exact e
      · rw [if_neg q] at e
        rw [if_pos (z.mpr q)]; exact e
    · show okb_Mo_mannerOf_4 _ _ _ _ _ _
      unfold okb_Mo_mannerOf_4 ok_Mo_mannerOf_27
      simp only [lettn]
      rw [(m_earl hp).1, nzadd1 i (by omega), nadd0, nzadd1 (ah r i) (by omega)]
      refine ⟨(m_earl hp).2, fun w => absurd w c, fun _ => ⟨(m_isE (by omega)).2, fun w => ?_, fun w => ?_⟩⟩
      · rw [if_neg (z.mp w)] at o; exact o
      · have q : fa r i = i := Classical.not_not.mp (fun w2 => w (z.mpr w2))
        rw [if_pos q] at o; exact o
theorem m_mof {p : Nat} (hp : p < 20) : sp_Mo_mannerOf (nI p) r = nI (ah r (fa r p)) ∧ ok_Mo_mannerOf (nI p) r := m_mof4 hp (fa r p) big 0 (Nat.zero_add _) (by rw [big_eq]; have := fa_le (r := r) p; omega)
/-- the earliest one of a manner -/
theorem m_eo4 {e : Nat} (he : fa r e = e) (h20 : e < 20) : ∀ k f i, i + k = e + 1 → k < f → sp_Mo_earliestOf_4 (nI (ah r e)) r f (nI i) (nI (ah r i)) = nI e ∧ ok_Mo_earliestOf_4 (nI (ah r e)) r f (nI i) (nI (ah r i))
  | k, 0, _, _, hf => absurd hf (Nat.not_lt_zero k)
  | 0, f + 1, i, h, _ => by
    have hi : i = e + 1 := by omega
    subst hi
    have la := ah_le (r := r) (e + 1)
    have lb := ah_le (r := r) e
    have c : nI (ah r e) < nI (ah r (e + 1)) := (nzlt (by omega) (by omega)).mpr (ah_lt he (Nat.lt_succ_self e))
    constructor
    · show bd_Mo_earliestOf_4 _ _ _ _ _ = _
      unfold bd_Mo_earliestOf_4 sp_Mo_earliestOf_31
      rw [if_pos c]
      exact nzsub (e + 1) 1 (by omega) (by omega)
    · show okb_Mo_earliestOf_4 _ _ _ _ _ _
      unfold okb_Mo_earliestOf_4
      exact ⟨fun _ => trivial, fun w => absurd c w⟩
  | k + 1, f + 1, i, h, hf => by
    have la := ah_le (r := r) i
    have lb := ah_le (r := r) e
    have lm := ah_mono (r := r) (show i ≤ e by omega)
    have c : ¬ nI (ah r e) < nI (ah r i) := fun w => by have := (nzlt (by omega) (by omega)).mp w; omega
    obtain ⟨e1, o⟩ := m_eo4 he h20 k f (i + 1) (by omega) (by omega)
    have z := m_isE0 (r := r) (show i < 20 by omega)
    rw [ah_s] at e1 o
    constructor
    · show bd_Mo_earliestOf_4 _ _ _ _ _ = _
      unfold bd_Mo_earliestOf_4 sp_Mo_earliestOf_23
      simp only [lettn]
      rw [if_neg c, nzadd1 i (by omega), nadd0, nzadd1 (ah r i) (by omega)]
      by_cases q : fa r i = i
      · rw [if_pos q] at e1
        rw [if_neg (fun w => z.mp w q)]; exact e1
      · rw [if_neg q] at e1
        rw [if_pos (z.mpr q)]; exact e1
    · show okb_Mo_earliestOf_4 _ _ _ _ _ _
      unfold okb_Mo_earliestOf_4 ok_Mo_earliestOf_23
      simp only [lettn]
      rw [nzadd1 i (by omega), nadd0, nzadd1 (ah r i) (by omega)]
      refine ⟨fun w => absurd w c, fun _ => ⟨(m_isE (by omega)).2, fun w => ?_, fun w => ?_⟩⟩
      · rw [if_neg (z.mp w)] at o; exact o
      · have q : fa r i = i := Classical.not_not.mp (fun w2 => w (z.mpr w2))
        rw [if_pos q] at o; exact o
theorem m_eo {e m : Nat} (he : fa r e = e) (h20 : e < 20) (hm : ah r e = m) : sp_Mo_earliestOf (nI m) r = nI e ∧ ok_Mo_earliestOf (nI m) r := by
  subst hm
  exact m_eo4 he h20 (e + 1) big 0 (Nat.zero_add _) (by rw [big_eq]; omega)
/-! the class's side -/
theorem c_rtalike (h : RR ea rar ral r) (hn : RN r n) {i j : Nat} (hi : i < n) (hj : j < n) : (sp_Rt_isAlike i j rar = 0 ↔ ¬ alb r j i = true) ∧ ok_Rt_isAlike i j := by
  have h20 := hn.1
  have a := (h.2 i (by omega) (by rw [hn.2]; omega)).1
  have b := (h.2 j (by omega) (by rw [hn.2]; omega)).1
  have q : ∀ k, k < 6 → (rar i k = rar j k ↔ r (55 + 8 * j + k) = r (55 + 8 * i + k)) := fun k hk => by
    rw [← Int32.toInt_inj, a k hk, b k hk, ← Int64.toInt_inj]
    exact ⟨fun w => w.symm, fun w => w.symm⟩
  have q0 := q 0 (by decide)
  have q1 := q 1 (by decide)
  have q2 := q 2 (by decide)
  refine ⟨?_, by omega, by omega, trivial⟩
  unfold sp_Rt_isAlike sp_Rt_isAlike_37
  rw [alb_iff]
  by_cases c0 : rar i 0 = rar j 0
  · rw [if_pos c0]
    by_cases c1 : rar i 1 = rar j 1
    · rw [if_pos c1]
      by_cases c2 : rar i 2 = rar j 2
      · rw [if_pos c2]
        exact ⟨fun w => absurd w (by decide), fun w => absurd ⟨q0.mp c0, q1.mp c1, q2.mp c2⟩ w⟩
      · rw [if_neg c2]
        exact ⟨fun _ w => c2 (q2.mpr w.2.2), fun _ => rfl⟩
    · rw [if_neg c1]
      exact ⟨fun _ w => c1 (q1.mpr w.2.1), fun _ => rfl⟩
  · rw [if_neg c0]
    exact ⟨fun _ w => c0 (q0.mpr w.1), fun _ => rfl⟩
theorem c_first8 (h : RR ea rar ral r) (hn : RN r n) {i : Nat} (hi : i < n) : ∀ k f j, j + k = i → k < f → sp_Rs_firstAlike_8 (nI i) ea (some i) rar f (nI j) = nI (fi r i k j) ∧ ok_Rs_firstAlike_8 (nI i) ea (some i) rar f (nI j)
  | k, 0, _, _, hf => absurd hf (Nat.not_lt_zero k)
  | 0, f + 1, j, hj, _ => by
    have h20 := hn.1
    have c : nI i ≤ nI j := (nzle (by omega) (by omega)).mpr (by omega)
    constructor
    · show bd_Rs_firstAlike_8 _ _ _ _ _ _ = nI j
      unfold bd_Rs_firstAlike_8
      rw [if_pos c, show j = i by omega]
    · show okb_Rs_firstAlike_8 _ _ _ _ _ _ _
      unfold okb_Rs_firstAlike_8
      exact ⟨fun _ => trivial, fun w => absurd c w⟩
  | k + 1, f + 1, j, hj, hf => by
    have h20 := hn.1
    have c : ¬ nI i ≤ nI j := fun w => by have := (nzle (by omega) (by omega)).mp w; omega
    obtain ⟨e, o⟩ := c_first8 h hn hi k f (j + 1) (by omega) (by omega)
    obtain ⟨z, zo⟩ := c_rtalike h hn hi (show j < n by omega)
    have ea1 := at_some (rr_n h hn) hn.1 (show j < n by omega)
    constructor
    · show bd_Rs_firstAlike_8 _ _ _ _ _ _ = nI (if alb r j i = true then j else fi r i k (j + 1))
      unfold bd_Rs_firstAlike_8 sp_Rs_firstAlike_40
      simp only [lettn]
      rw [if_neg c, ea1, nzadd1 j (by omega), e]
      show (if sp_Rt_isAlike i j rar = 0 then _ else _) = _
      by_cases q : alb r j i = true
      · rw [if_neg (fun w => z.mp w q), if_pos q]
      · rw [if_pos (z.mpr q), if_neg q]
    · show okb_Rs_firstAlike_8 _ _ _ _ _ _ _
      unfold okb_Rs_firstAlike_8 ok_Rs_firstAlike_40
      simp only [lettn]
      rw [ea1, nzadd1 j (by omega)]
      refine ⟨fun w => absurd w c, fun _ => ⟨fun w => absurd w (by simp), fun k4 h4 => ⟨fun w => absurd w (by simp), fun k5 h5 => ?_⟩⟩⟩
      cases h4; cases h5
      exact ⟨zo, by omega, fun _ => o, fun _ => trivial⟩
theorem c_first (h : RR ea rar ral r) (hn : RN r n) {i : Nat} (hi : i < n) : sp_Rs_firstAlike (nI i) ea rar = nI (fa r i) ∧ ok_Rs_firstAlike (nI i) ea rar := by
  have h20 := hn.1
  unfold sp_Rs_firstAlike ok_Rs_firstAlike
  simp only [lettn]
  rw [at_some (rr_n h hn) hn.1 hi]
  exact c_first8 h hn hi i big 0 (Nat.zero_add i) (by rw [big_eq]; omega)
theorem c_ahead4 (h : RR ea rar ral r) (hn : RN r n) {i : Nat} (hi : i ≤ n) : ∀ k f j, j + k = i → k < f → sp_Rs_mannersAhead_4 (nI i) ea rar f (nI (ah r j)) (nI j) = nI (ah r i) ∧ ok_Rs_mannersAhead_4 (nI i) ea rar f (nI (ah r j)) (nI j)
  | k, 0, _, _, hf => absurd hf (Nat.not_lt_zero k)
  | 0, f + 1, j, hj, _ => by
    have h20 := hn.1
    have c : nI i ≤ nI j := (nzle (by omega) (by omega)).mpr (by omega)
    constructor
    · show bd_Rs_mannersAhead_4 _ _ _ _ _ _ = _
      unfold bd_Rs_mannersAhead_4
      rw [if_pos c, show j = i by omega]
    · show okb_Rs_mannersAhead_4 _ _ _ _ _ _ _
      unfold okb_Rs_mannersAhead_4
      exact ⟨fun _ => trivial, fun w => absurd c w⟩
  | k + 1, f + 1, j, hj, hf => by
    have h20 := hn.1
    have c : ¬ nI i ≤ nI j := fun w => by have := (nzle (by omega) (by omega)).mp w; omega
    obtain ⟨e, o⟩ := c_ahead4 h hn hi k f (j + 1) (by omega) (by omega)
    have la := ah_le (r := r) j
    have lf := fa_le (r := r) j
    obtain ⟨z1, z2⟩ := c_first h hn (show j < n by omega)
    rw [ah_s] at e o
    have zz : nI (fa r j) = nI j ↔ fa r j = j := nzinj (by omega) (by omega)
    constructor
    · show bd_Rs_mannersAhead_4 _ _ _ _ _ _ = _
      unfold bd_Rs_mannersAhead_4 sp_Rs_mannersAhead_21
      simp only [lettn]
      rw [if_neg c, z1, nzadd1 j (by omega), nzadd1 (ah r j) (by omega)]
      by_cases q : fa r j = j
      · rw [if_pos q] at e
        rw [if_pos (zz.mpr q)]; exact e
      · rw [if_neg q] at e
        rw [if_neg (fun w => q (zz.mp w))]; exact e
    · show okb_Rs_mannersAhead_4 _ _ _ _ _ _ _
      unfold okb_Rs_mannersAhead_4 ok_Rs_mannersAhead_21
      simp only [lettn]
      rw [z1, nzadd1 j (by omega), nzadd1 (ah r j) (by omega)]
      refine ⟨fun w => absurd w c, fun _ => ⟨z2, fun w => ?_, fun w => ?_⟩⟩
      · rw [if_pos (zz.mp w)] at o; exact o
      · rw [if_neg (fun q => w (zz.mpr q))] at o; exact o
theorem c_ahead (h : RR ea rar ral r) (hn : RN r n) {i : Nat} (hi : i ≤ n) : sp_Rs_mannersAhead (nI i) ea rar = nI (ah r i) ∧ ok_Rs_mannersAhead (nI i) ea rar :=
  c_ahead4 h hn hi i big 0 (Nat.zero_add i) (by rw [big_eq]; have := hn.1; omega)
theorem c_mann (h : RR ea rar ral r) (hn : RN r n) : sp_Rs_manners ea rar = nI (ah r n) ∧ ok_Rs_manners ea rar := by
  obtain ⟨a, b⟩ := c_ahead h hn (Nat.le_refl n)
  unfold sp_Rs_manners ok_Rs_manners
  simp only [lettn]
  rw [rr_n h hn]
  exact ⟨a, b, trivial⟩
theorem c_mof (h : RR ea rar ral r) (hn : RN r n) {i : Nat} (hi : i < n) : sp_Rs_mannerOf (nI i) ea rar = nI (ah r (fa r i)) ∧ ok_Rs_mannerOf (nI i) ea rar := by
  obtain ⟨a, b⟩ := c_first h hn hi
  have l := fa_le (r := r) i
  obtain ⟨c, d⟩ := c_ahead h hn (show fa r i ≤ n by omega)
  unfold sp_Rs_mannerOf ok_Rs_mannerOf
  simp only [lettn]
  rw [a]
  exact ⟨c, b, d, trivial⟩
end TRB
