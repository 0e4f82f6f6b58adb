section TRA
variable {T : Int} {r : LV} {ea : IV} {eal : LV} {rar : NI} {ral : NL} {n : Nat}
/-! ===== results in their manners ===== -/
def alk (r : LV) (i j : Nat) : Prop := r (55 + 8 * i) = r (55 + 8 * j) ∧ r (55 + 8 * i + 1) = r (55 + 8 * j + 1) ∧ r (55 + 8 * i + 2) = r (55 + 8 * j + 2)
def alb (r : LV) (i j : Nat) : Bool := decide (r (55 + 8 * i) = r (55 + 8 * j)) && (decide (r (55 + 8 * i + 1) = r (55 + 8 * j + 1)) && decide (r (55 + 8 * i + 2) = r (55 + 8 * j + 2)))
theorem alb_iff {i j : Nat} : alb r i j = true ↔ alk r i j := by
  unfold alb alk
  rw [Bool.and_eq_true, Bool.and_eq_true, decide_eq_true_eq, decide_eq_true_eq, decide_eq_true_eq]
theorem alb_rf (i : Nat) : alb r i i = true := alb_iff.mpr ⟨rfl, rfl, rfl⟩
theorem alb_sm {i j : Nat} (h : alb r i j = true) : alb r j i = true := by
  obtain ⟨a, b, c⟩ := alb_iff.mp h
  exact alb_iff.mpr ⟨a.symm, b.symm, c.symm⟩
theorem alb_tr {i j k : Nat} (h : alb r i j = true) (g : alb r j k = true) : alb r i k = true := by
  obtain ⟨a, b, c⟩ := alb_iff.mp h
  obtain ⟨d, e, f⟩ := alb_iff.mp g
  exact alb_iff.mpr ⟨a.trans d, b.trans e, c.trans f⟩
theorem alb_cm (i j : Nat) : alb r i j = alb r j i := by
  cases q : alb r j i
  · cases q2 : alb r i j
    · rfl
    · rw [alb_sm q2] at q; cases q
  · exact alb_sm q
/-- the first one alike -/
def fi (r : LV) (i : Nat) : Nat → Nat → Nat
  | 0, j => j
  | k + 1, j => if alb r j i = true then j else fi r i k (j + 1)
def fa (r : LV) (i : Nat) : Nat := fi r i i 0
theorem fi_spec {i : Nat} : ∀ k j, j + k = i → j ≤ fi r i k j ∧ fi r i k j ≤ i ∧ alb r (fi r i k j) i = true ∧ ∀ m, j ≤ m → m < fi r i k j → alb r m i = false
  | 0, j, h => by
    have : j = i := by omega
    subst this
    exact ⟨Nat.le_refl _, Nat.le_refl _, alb_rf _, fun m h1 h2 => absurd h2 (Nat.not_lt.mpr h1)⟩
  | k + 1, j, h => by
    show j ≤ (if alb r j i = true then j else fi r i k (j + 1)) ∧ (if alb r j i = true then j else fi r i k (j + 1)) ≤ i ∧ alb r (if alb r j i = true then j else fi r i k (j + 1)) i = true ∧ ∀ m, j ≤ m → m < (if alb r j i = true then j else fi r i k (j + 1)) → alb r m i = false
    by_cases q : alb r j i = true
    · rw [if_pos q]
      exact ⟨Nat.le_refl _, by omega, q, fun m h1 h2 => absurd h2 (Nat.not_lt.mpr h1)⟩
    · rw [if_neg q]
      obtain ⟨a, b, c, d⟩ := fi_spec (i := i) k (j + 1) (by omega)
      refine ⟨by omega, b, c, fun m h1 h2 => ?_⟩
      by_cases q2 : m = j
      · subst q2; exact Bool.eq_false_iff.mpr q
      · exact d m (by omega) h2
theorem fa_le (i : Nat) : fa r i ≤ i := (fi_spec i 0 (Nat.zero_add i)).2.1
theorem fa_al (i : Nat) : alb r (fa r i) i = true := (fi_spec i 0 (Nat.zero_add i)).2.2.1
theorem fa_lt (i m : Nat) (h : m < fa r i) : alb r m i = false := (fi_spec i 0 (Nat.zero_add i)).2.2.2 m (Nat.zero_le m) h
theorem fa_uq {i f : Nat} (h1 : alb r f i = true) (h2 : ∀ m, m < f → alb r m i = false) : fa r i = f := by
  by_cases q : fa r i < f
  · have := h2 _ q; rw [fa_al] at this; cases this
  · by_cases q2 : f < fa r i
    · have := fa_lt (r := r) i f q2; rw [h1] at this; cases this
    · omega
theorem fa_eq {i j : Nat} (h : alb r i j = true) : fa r i = fa r j := by
  refine fa_uq (alb_tr (fa_al j) (alb_sm h)) fun m hm => ?_
  cases q : alb r m i
  · rfl
  · have := fa_lt (r := r) j m hm; rw [alb_tr q h] at this; cases this
theorem fa_fa (i : Nat) : fa r (fa r i) = fa r i := fa_eq (fa_al i)
theorem fa_inj {i j : Nat} (h : fa r i = fa r j) : alb r i j = true := by
  have a := fa_al (r := r) i
  rw [h] at a
  exact alb_tr (alb_sm a) (fa_al j)
/-- how many manners have their earliest one ahead -/
def ah (r : LV) : Nat → Nat
  | 0 => 0
  | i + 1 => ah r i + (if fa r i = i then 1 else 0)
theorem ah_s (i : Nat) : ah r (i + 1) = ah r i + (if fa r i = i then 1 else 0) := rfl
theorem ah_mono {i j : Nat} (h : i ≤ j) : ah r i ≤ ah r j := by
  induction h with
  | refl => exact Nat.le_refl _
  | step _ ih => rw [ah_s]; omega
theorem ah_lt {i j : Nat} (h : fa r i = i) (hj : i < j) : ah r i < ah r j := by
  have := ah_mono (r := r) (show i + 1 ≤ j from hj)
  rw [ah_s, if_pos h] at this
  omega
theorem ah_le (i : Nat) : ah r i ≤ i := by
  induction i with
  | zero => exact Nat.le_refl _
  | succ i ih => rw [ah_s]; split <;> omega
theorem ah_inj {i j : Nat} (h1 : fa r i = i) (h2 : fa r j = j) (h : ah r i = ah r j) : i = j := by
  by_cases q : i < j
  · have := ah_lt h1 q; omega
  · by_cases q2 : j < i
    · have := ah_lt h2 q2; omega
    · omega
/-- every manner has its earliest one -/
theorem ah_ex : ∀ n m, m < ah r n → ∃ e, e < n ∧ fa r e = e ∧ ah r e = m
  | 0, m, h => absurd h (Nat.not_lt_zero m)
  | n + 1, m, h => by
    by_cases q : m < ah r n
    · obtain ⟨e, a, b, c⟩ := ah_ex n m q
      exact ⟨e, by omega, b, c⟩
    · rw [ah_s] at h
      by_cases q2 : fa r n = n
      · rw [if_pos q2] at h
        exact ⟨n, by omega, q2, by omega⟩
      · rw [if_neg q2] at h; omega
/-- of a manner: the first one is of it, exactly those alike with it are -/
theorem ah_of {e i : Nat} (he : fa r e = e) : ah r (fa r i) = ah r e ↔ alb r e i = true := by
  constructor
  · intro h
    have h2 := ah_inj (fa_fa i) he h
    have := fa_al (r := r) i
    rw [h2] at this
    exact this
  · intro h
    rw [← fa_eq h, he]
/-! the rows of both sides -/
def RN (r : LV) (n : Nat) : Prop := n ≤ 20 ∧ zr r 54 = (n : Int)
theorem row_RN (h : RowOK T r) : ∃ n, RN r n := by
  obtain ⟨_, b1, b2⟩ := row_w h 54 0 20 rfl rfl
  exact ⟨(zr r 54).toNat, by omega, by omega⟩
theorem rr_n (h : RR ea rar ral r) (hn : RN r n) : ea 1 = nI n := nIo (by rw [h.1, hn.2])
theorem m_of {i j : Nat} (hi : i < 20) (hj : j < 8) : sp_Mo_ofResult (nI i) (nI j) r = r (55 + 8 * i + j) ∧ ok_Mo_ofResult (nI i) (nI j) := by
  have k0 : E32 (nI i) i 0 19 := ⟨nIz (by omega), by omega, by omega⟩
  have k1 := e32_mul 0 152 (e32_lit 8 (8 : Int32) rfl) k0 (by decide) (by decide) (by decide)
  have k2 := e32_add (e32_lit 55 (55 : Int32) rfl) k1 (by decide) (by decide)
  have k3 := e32_add k2 (⟨nIz (by omega), by omega, by omega⟩ : E32 (nI j) j 0 7) (by decide) (by decide)
  have e : ((55 : Int32) + (8 : Int32) * nI i) + nI j = nI (55 + 8 * i + j) := nIo (by rw [k3.1]; omega)
  unfold sp_Mo_ofResult ok_Mo_ofResult
  rw [e, cl_nI (by omega)]
  exact ⟨rfl, vp_nI (by omega) (by decide), trivial⟩
end TRA
