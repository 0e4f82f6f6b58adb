section CU1
variable {T : Int} {r r' : LV} {w0 w1 w2 w3 w4 : IV}
/-! ===== settings with the same upper digits ===== -/
theorem zcs_block (h : RowOK T r) : ∀ (k n : Nat) (q t : Int), k ≤ n → n ≤ 4 → 0 ≤ q → 0 ≤ t → t < (10 ^ k : Nat) → zcs r n (q * (10 ^ k : Nat)) ≤ zcs r n (q * (10 ^ k : Nat) + t) ∧ zcs r n (q * (10 ^ k : Nat) + t) ≤ zcs r n (q * (10 ^ k : Nat) + ((10 ^ k : Nat) - 1))
  | 0, n, q, t, _, _, _, h0, h1 => by
    have : t = 0 := by have : ((10 ^ 0 : Nat) : Int) = 1 := rfl; omega
    subst this
    show zcs r n (q * 1) ≤ zcs r n (q * 1 + 0) ∧ zcs r n (q * 1 + 0) ≤ zcs r n (q * 1 + (1 - 1))
    simp
  | k + 1, 0, _, _, hk, _, _, _, _ => absurd hk (by omega)
  | k + 1, n + 1, q, t, hk, hn, hq, h0, h1 => by
    have e : ((10 ^ (k + 1) : Nat) : Int) = (10 ^ k : Nat) * 10 := by rw [Nat.pow_succ]; exact Int.natCast_mul _ _
    rw [e] at h1 ⊢
    have hp : (1 : Int) ≤ (10 ^ k : Nat) := by have := Nat.one_le_pow k 10 (by decide); omega
    obtain ⟨i1, i2⟩ := zcs_block h k n q (t / 10) (by omega) (by omega) hq (by omega) (by omega)
    have m0 : q * ((10 ^ k : Nat) * 10) = q * (10 ^ k : Nat) * 10 := by rw [Int.mul_assoc]
    rw [m0]
    generalize hQ : q * ((10 ^ k : Nat) : Int) = Q at i1 i2 ⊢
    generalize hP : ((10 ^ k : Nat) : Int) = P at i1 i2 hp h1 ⊢
    simp only [zcs]
    rw [show Q * 10 % 10 = 0 by omega, show Q * 10 / 10 = Q by omega, show (Q * 10 + t) % 10 = t % 10 by omega, show (Q * 10 + t) / 10 = Q + t / 10 by omega, show (Q * 10 + (P * 10 - 1)) % 10 = 9 by omega, show (Q * 10 + (P * 10 - 1)) / 10 = Q + (P - 1) by omega]
    have z1 := (zterm_bd h (n := n) (by omega) (x := t % 10) (by omega) (by omega)).2.1
    -- a digit counts at most as a 9
    have z2 : t % 10 * zstep r n * (1000000 + zr r (3 + n)) ≤ 9 * zstep r n * (1000000 + zr r (3 + n)) := by
      have a := (zstep_bd h n).1
      have b := (row_err h (d := n) (by omega)).2
      refine Int.mul_le_mul_of_nonneg_right (Int.mul_le_mul_of_nonneg_right (by omega) (by omega)) (by omega)
    constructor
    · rw [Int.zero_mul, Int.zero_mul]; omega
    · omega
theorem tdiv_anti {a b c : Int} (ha : 0 ≤ a) (hb : 0 < b) (hc : b ≤ c) : a.tdiv c ≤ a.tdiv b := by
  rw [Int.tdiv_eq_ediv_of_nonneg ha, Int.tdiv_eq_ediv_of_nonneg ha]
  have h1 : a / c * b ≤ a := by
    have x := Int.ediv_mul_le a (show c ≠ 0 by omega)
    have y : 0 ≤ a / c := Int.ediv_nonneg ha (by omega)
    have z := Int.mul_le_mul_of_nonneg_left hc y
    omega
  exact (Int.le_ediv_iff_mul_le hb).mpr h1
/-- a greater cold value of the box, a lesser deflection -/
theorem zdefl_anti (h : RowOK T r) {s t L : Int} {f g : Nat} (hs : 0 ≤ s ∧ s ≤ 9999) (ht : 0 ≤ t ∧ t ≤ 9999) (hL : L = 2 ∨ L = 3) (hc : zcs r (zD r) s ≤ zcs r (zD r) t) : zdefl r t f g L ≤ zdefl r s f g L := by
  have b0 := zcold_bd h hs
  have b1 := zcold_bd h ht
  have c1 : zcold r s ≤ zcold r t := by unfold zcold; have := Int.tdiv_le_tdiv (c := 1000000) (by decide) hc; omega
  have c2 : zbw r s ≤ zbw r t := by
    unfold zbw
    refine Int.tdiv_le_tdiv (by decide) (Int.mul_le_mul_of_nonneg_right c1 ?_)
    have k := mul_box (-800000000) 800000000 (row_w h 16 (-4000) 4000 rfl rfl).2.1 (row_w h 16 (-4000) 4000 rfl rfl).2.2 (row_w h 38 0 200000 rfl rfl).2.1 (row_w h 38 0 200000 rfl rfl).2.2 (by omega)
    omega
  have c3 : zbs r s L ≤ zbs r t L := by unfold zbs; omega
  have u := zus_bd h hL
  have b2 := zbs_bd h hs hL
  have c4 : zush r t L ≤ zush r s L := by unfold zush; exact tdiv_anti (by omega) (by omega) (by omega)
  unfold zdefl
  have v := (row_w h 22 0 20000 rfl rfl).2
  exact Int.tdiv_le_tdiv (by decide) (Int.mul_le_mul_of_nonneg_left (by omega) v.1)
/-- the settings of a block have deflections between those of its ends -/
theorem zdefl_block (h : RowOK T r) {L : Int} {f g : Nat} (hL : L = 2 ∨ L = 3) {k : Nat} (hk : k ≤ zD r) {a s : Int} (ha : 0 ≤ a) (hd : a % (10 ^ k : Nat) = 0) (h1 : a ≤ s) (h2 : s < a + (10 ^ k : Nat)) (h9 : a + (10 ^ k : Nat) ≤ 10000) :
    zdefl r s f g L ≤ zdefl r a f g L ∧ zdefl r (a + (10 ^ k : Nat) - 1) f g L ≤ zdefl r s f g L := by
  have hD := zD_bd h
  have hp : (1 : Int) ≤ (10 ^ k : Nat) := by have := Nat.one_le_pow k 10 (by decide); omega
  have e : a = a / (10 ^ k : Nat) * (10 ^ k : Nat) := by have := Int.emod_add_mul_ediv a (10 ^ k : Nat); rw [Int.mul_comm] at this; omega
  obtain ⟨i1, i2⟩ := zcs_block h k (zD r) (a / (10 ^ k : Nat)) (s - a) hk hD.2.1 (Int.ediv_nonneg ha (by omega)) (by omega) (by omega)
  rw [← e, show a + (s - a) = s by omega] at i1
  rw [← e, show a + (s - a) = s by omega, show a + (((10 ^ k : Nat) : Int) - 1) = a + (10 ^ k : Nat) - 1 by omega] at i2
  exact ⟨zdefl_anti h ⟨ha, by omega⟩ ⟨by omega, by omega⟩ hL i1, zdefl_anti h ⟨by omega, by omega⟩ ⟨by omega, by omega⟩ hL i2⟩
/-! ===== the class's tries ===== -/
theorem ci_6 {ca : IV} {S L : Int} {f g : Nat} (hc : CiR ca r S f g L) (x : Int32) : CiR (upd ca 6 x) r S f g L := by
  obtain ⟨c1, c2, c3, c4, c5, c6, c7, c8, c9, c10, c11, c12, c13, c14, c15, c16, c17⟩ := hc
  refine ⟨?_, c2, ?_, c4, ?_, c6, ?_, c8, ?_, ?_, ?_, ?_, ?_, ?_, ?_, ?_, ?_⟩ <;> rw [un (by decide)] <;> assumption
theorem c_deflAt (hp : PR w0 w1 w2 w3 w4 r) (h : RowOK T r) {ca : IV} {S L : Int} {f g : Nat} (hc : CiR ca r S f g L) {s : Int32} {Z : Int} (hs : E32 s Z 0 9999) :
    E64 (sp_Se_deflectionAt s ca w0 w1 w3 w4).1 (zdefl r Z f g L) (-20000000000) 20000000000 ∧ CiR (sp_Se_deflectionAt s ca w0 w1 w3 w4).2 r Z f g L ∧ ok_Se_deflectionAt s ca w0 w1 := by
  obtain ⟨d1, d2, d3⟩ := c_dial hp h (ci_6 hc 0) hs
  have i := c_imb h d1
  rw [if_pos (by rw [d3 6 (by decide) (by decide) (by decide), us])] at i
  unfold sp_Se_deflectionAt ok_Se_deflectionAt
  simp only [lettn]
  exact ⟨i, d1, d2, trivial⟩
def zabs (x : Int) : Int := if 0 ≤ x then x else -x
theorem zabs_nn (x : Int) : 0 ≤ zabs x := by unfold zabs; split <;> omega
theorem abs_E {x : Int64} {X : Int} (h : E64 x X (-20000000000000) 20000000000000) : E64 (if 0 < x then x else -x) (zabs X) 0 20000000000000 := by
  have e := clt h 0 0 rfl
  have n := e64_neg h (by decide)
  unfold zabs
  by_cases q : 0 < x
  · have := e.mp q
    rw [if_pos q, if_pos (by omega)]; exact ⟨h.1, by omega, h.2.2⟩
  · have q' : ¬ 0 < X := fun w => q (e.mpr w)
    rw [if_neg q]
    by_cases q2 : 0 ≤ X
    · rw [if_pos q2]; exact ⟨by rw [n.1]; omega, q2, h.2.2⟩
    · rw [if_neg q2]; exact ⟨n.1, by omega, by have := n.2; omega⟩
theorem m_abs {x : Int64} {X : Int} (h : E64 x X (-20000000000000) 20000000000000) : E64 (sp_Mo_amount x) (zabs X) 0 20000000000000 := by
  have e := cle h 0 0 rfl
  have n := e64_neg h (by decide)
  unfold sp_Mo_amount zabs
  by_cases q : 0 ≤ x
  · rw [if_pos q, if_pos (e.mp q)]; exact ⟨h.1, e.mp q, h.2.2⟩
  · have q' : ¬ 0 ≤ X := fun w => q (e.mpr w)
    rw [if_neg q, if_neg q']; exact ⟨n.1, by omega, by have := n.2; omega⟩
theorem c_amt (hp : PR w0 w1 w2 w3 w4 r) (h : RowOK T r) {ca : IV} {S L : Int} {f g : Nat} (hc : CiR ca r S f g L) {s : Int32} {Z : Int} (hs : E32 s Z 0 9999) :
    E64 (sp_Se_amountAt s ca w0 w1 w3 w4).1 (zabs (zdefl r Z f g L)) 0 20000000000000 ∧ CiR (sp_Se_amountAt s ca w0 w1 w3 w4).2 r Z f g L ∧ ok_Se_amountAt s ca w0 w1 := by
  obtain ⟨d1, d2, d3⟩ := c_deflAt hp h hc hs
  unfold sp_Se_amountAt ok_Se_amountAt
  simp only [lettn]
  exact ⟨abs_E (e64_w _ _ d1 (by decide) (by decide)), d2, d3, trivial⟩
end CU1
