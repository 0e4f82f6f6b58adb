section TKE
variable {B : Nat → Nat} {n st : Nat} {t tb o bu : IV}
/-! ===== numbers ===== -/
/-- the number of so many digits -/
def dv (B : Nat → Nat) (st : Nat) : Nat → Nat
  | 0 => 0
  | k + 1 => 10 * dv B st k + (B (st + k) - 48)
theorem kc_dig : ∀ b, b < 256 → kc b = 48 → 48 ≤ b ∧ b ≤ 57 := by decide +kernel
theorem dv_lt (hb : ∀ k, k < n → B k < 256) {en : Nat} (hen : en ≤ n) (hd : ∀ k, st ≤ k → k < en → kc (B k) = 48) : ∀ k, st + k ≤ en → dv B st k < 10 ^ k
  | 0, _ => by show 0 < 1; decide
  | k + 1, h => by
    have i := dv_lt hb hen hd k (by omega)
    have d := kc_dig _ (hb (st + k) (by omega)) (hd (st + k) (by omega) (by omega))
    show 10 * dv B st k + (B (st + k) - 48) < 10 ^ (k + 1)
    rw [Nat.pow_succ]; omega
theorem p9 : ∀ k, k ≤ 9 → (10 : Nat) ^ k ≤ 1000000000 := by decide
def nL (st en : Nat) : Nat := if en - st ≤ 9 then en - st else 9
theorem nL_p (st en : Nat) : nL st en ≤ 9 ∧ nL st en ≤ en - st ∧ (nL st en = 9 ∨ nL st en = en - st) := by unfold nL; split <;> omega
theorem sub48 : ∀ b, b < 128 → 48 ≤ b → sb b - (48 : Int32) = nI (b - 48) := by decide +kernel
/-- the reference reads a number -/
theorem m_num_loop {en : Nat} (hn : n ≤ 600) (hb : ∀ k, k < n → B k < 256 ∧ bu k = nI (B k)) (e9 : o 9 = nI en) (e10 : o 10 = nI st) (hle : st ≤ en) (hen : en ≤ n) (hd : ∀ k, st ≤ k → k < en → kc (B k) = 48) : ∀ (m f i : Nat) (acc : Int64), i + m = nL st en → m < f → acc.toInt = dv B st i → sp_Mo_numberHere_7 o bu f acc (nI (st + i)) = sp_Mo_numberHere_50 o (lN (dv B st (nL st en)))
  | m, 0, _, _, _, hf, _ => absurd hf (by omega)
  | 0, f + 1, i, acc, hi, _, ha => by
    have ea : acc = lN (dv B st i) := Int64.toInt_inj.mp (by
      rw [ha, lNz]
      have := dv_lt (fun k h => (hb k h).1) hen hd i (by have := nL_p st en; omega)
      have := p9 i (by have := nL_p st en; omega)
      omega)
    have hl := nL_p st en
    rw [show i = nL st en by omega] at ea ⊢
    rw [ea]
    show bd_Mo_numberHere_7 _ _ _ _ _ = _
    unfold bd_Mo_numberHere_7
    simp only [lettn]
    rw [e9, e10, show (9 : Int32) = nI 9 from rfl, nzadd _ _ (by omega)]
    by_cases q : nI en ≤ nI (st + nL st en)
    · rw [if_pos q]
    · rw [if_neg q, if_pos]
      rw [nzle (by omega) (by omega)]
      rw [nzle (by omega) (by omega)] at q
      omega
  | m + 1, f + 1, i, acc, hi, hf, ha => by
    have hl := nL_p st en
    have c1 : ¬ nI en ≤ nI (st + i) := by rw [nzle (by omega) (by omega)]; omega
    have c2 : ¬ nI (st + 9) ≤ nI (st + i) := by rw [nzle (by omega) (by omega)]; omega
    obtain ⟨b1, b2⟩ := hb (st + i) (by omega)
    have d := kc_dig _ b1 (hd (st + i) (by omega) (by omega))
    have dl := dv_lt (fun k h => (hb k h).1) hen hd i (by omega)
    have d9 := p9 i (by omega)
    have ev : ((10 : Int64) * acc + (bu (st + i)).toInt64 - (48 : Int64)).toInt = dv B st (i + 1) := by
      have h1 : ((10 : Int64) * acc).toInt = 10 * (dv B st i : Int) := by rw [Kit.i64_mul (by rw [ha]; show _ ≤ (10 : Int) * _; omega) (by rw [ha]; show (10 : Int) * _ < _; omega), ha]; rfl
      have h2 : ((bu (st + i)).toInt64).toInt = (B (st + i) : Int) := by rw [Kit.i64_of_i32, b2, nIz (by omega)]
      have h3 : ((10 : Int64) * acc + (bu (st + i)).toInt64).toInt = 10 * (dv B st i : Int) + B (st + i) := by rw [Kit.i64_add (by rw [h1, h2]; omega) (by rw [h1, h2]; omega), h1, h2]
      have h4 : (48 : Int64).toInt = 48 := rfl
      rw [Kit.i64_sub (by rw [h3, h4]; omega) (by rw [h3, h4]; omega), h3, h4]
      show _ = ((10 * dv B st i + (B (st + i) - 48) : Nat) : Int)
      omega
    have i1 := m_num_loop hn hb e9 e10 hle hen hd m f (i + 1) _ (by omega) (by omega) ev
    show bd_Mo_numberHere_7 _ _ _ _ _ = _
    unfold bd_Mo_numberHere_7
    simp only [lettn]
    rw [e9, e10, show (9 : Int32) = nI 9 from rfl, nzadd _ _ (by omega), if_neg c1, if_neg c2, cl_nI (by omega), nzadd1 _ (by omega)]
    exact i1
theorem m_num_ok {en : Nat} (e9 : o 9 = nI en) (e10 : o 10 = nI st) (hst : st ≤ 600) (hen : en ≤ 600) : ∀ (m f i : Nat) (acc : Int64), en ≤ i + m → i ≤ 600 → m < f → ok_Mo_numberHere_7 o bu f acc (nI i)
  | m, 0, _, _, _, _, hf => absurd hf (by omega)
  | 0, f + 1, i, acc, hi, h6, _ => by
    have c1 : nI en ≤ nI i := by rw [nzle (by omega) (by omega)]; omega
    show okb_Mo_numberHere_7 _ _ _ _ _ _
    unfold okb_Mo_numberHere_7
    rw [e9]
    exact ⟨fun _ => trivial, fun q => absurd c1 q⟩
  | m + 1, f + 1, i, acc, hi, h6, hf => by
    show okb_Mo_numberHere_7 _ _ _ _ _ _
    unfold okb_Mo_numberHere_7
    simp only [lettn]
    rw [e9]
    refine ⟨fun _ => trivial, fun q => ⟨fun _ => trivial, fun _ => ?_⟩⟩
    rw [nzle (by omega) (by omega)] at q
    refine ⟨vp_nI (by omega) (by decide), ?_⟩
    rw [nzadd1 _ (by omega)]
    exact m_num_ok e9 e10 hst hen m f (i + 1) _ (by omega) (by omega) (by omega)
theorem m_here_ok {en : Nat} (e9 : o 9 = nI en) (e10 : o 10 = nI st) (hst : st ≤ 600) (hen : en ≤ 600) : ok_Mo_numberHere o bu := by
  unfold ok_Mo_numberHere
  simp only [lettn]
  rw [e10]
  exact m_num_ok e9 e10 hst hen en big st 0 (by omega) hst (by rw [big_eq]; omega)
/-- what a number token says: below each range if it is too long -/
def nv (B : Nat → Nat) (st en : Nat) : Int := if en - st ≤ 9 then (dv B st (nL st en) : Int) else -2000000000
theorem m_here {en : Nat} (hn : n ≤ 600) (hb : ∀ k, k < n → B k < 256 ∧ bu k = nI (B k)) (e9 : o 9 = nI en) (e10 : o 10 = nI st) (hle : st ≤ en) (hen : en ≤ n) (hd : ∀ k, st ≤ k → k < en → kc (B k) = 48) : (sp_Mo_numberHere o bu).toInt = nv B st en ∧ (dv B st (nL st en) : Int) < 1000000000 := by
  have hl := nL_p st en
  have dl := dv_lt (fun k h => (hb k h).1) hen hd (nL st en) (by omega)
  have d9 := p9 (nL st en) (by omega)
  refine ⟨?_, by omega⟩
  unfold sp_Mo_numberHere
  simp only [lettn]
  have e := m_num_loop hn hb e9 e10 hle hen hd (nL st en) big 0 0 (by omega) (by rw [big_eq]; omega) rfl
  rw [Nat.add_zero] at e
  rw [e10, e]
  unfold sp_Mo_numberHere_50 nv
  rw [e9, e10, nzsub _ _ hle (by omega), show (9 : Int32) = nI 9 from rfl]
  by_cases q : en - st ≤ 9
  · rw [if_pos q, if_pos ((nzle (by omega) (by omega)).mpr q), lNz (by omega)]
  · rw [if_neg q, if_neg (fun w => q ((nzle (by omega) (by omega)).mp w))]; rfl
/-- the class reads a number -/
theorem c_num_loop {en : Nat} {ng p1 p2 : Int32} (hn : n ≤ 600) (hb : ∀ k, k < n → B k < 256 ∧ tb k = sb (B k)) (e4 : t 4 = nI en) (e3 : t 3 = nI st) (hle : st ≤ en) (hen : en ≤ n) (hd : ∀ k, st ≤ k → k < en → kc (B k) = 48) : ∀ (m f i : Nat) (acc : Int32), i + m = nL st en → m < f → acc.toInt = dv B st i → sp_Te_number_52 t ng p1 p2 tb f acc (nI (st + i)) = sp_Te_number_96 ng t p1 p2 tb (nI (dv B st (nL st en))) ∧ (ok_Te_number_96 ng t p1 p2 tb (nI (dv B st (nL st en))) → ok_Te_number_52 t ng p1 p2 tb f acc (nI (st + i)))
  | m, 0, _, _, _, hf, _ => absurd hf (by omega)
  | 0, f + 1, i, acc, hi, _, ha => by
    have ea : acc = nI (dv B st i) := nIo ha
    have hl := nL_p st en
    rw [show i = nL st en by omega] at ea ⊢
    rw [ea]
    constructor
    · show bd_Te_number_52 _ _ _ _ _ _ _ _ = _
      unfold bd_Te_number_52
      simp only [lettn]
      rw [e4, e3, show (9 : Int32) = nI 9 from rfl, nzadd _ _ (by omega)]
      by_cases q : nI en ≤ nI (st + nL st en)
      · rw [if_pos q]
      · rw [if_neg q, if_pos]
        rw [nzle (by omega) (by omega)]
        rw [nzle (by omega) (by omega)] at q
        omega
    · intro ho
      show okb_Te_number_52 _ _ _ _ _ _ _ _ _
      unfold okb_Te_number_52
      simp only [lettn]
      rw [e4, e3, show (9 : Int32) = nI 9 from rfl, nzadd _ _ (by omega)]
      refine ⟨fun _ => ho, fun q => ⟨fun _ => ho, fun q2 => ?_⟩⟩
      rw [nzle (by omega) (by omega)] at q q2
      omega
  | m + 1, f + 1, i, acc, hi, hf, ha => by
    have hl := nL_p st en
    have c1 : ¬ nI en ≤ nI (st + i) := by rw [nzle (by omega) (by omega)]; omega
    have c2 : ¬ nI (st + 9) ≤ nI (st + i) := by rw [nzle (by omega) (by omega)]; omega
    obtain ⟨b1, b2⟩ := hb (st + i) (by omega)
    have d := kc_dig _ b1 (hd (st + i) (by omega) (by omega))
    have dl := dv_lt (fun k h => (hb k h).1) hen hd (i + 1) (by omega)
    have d9 := p9 (i + 1) (by omega)
    have dn : dv B st (i + 1) = 10 * dv B st i + (B (st + i) - 48) := rfl
    have ey : sp_Te_byteAt (nI (st + i)) tb = sb (B (st + i)) := by
      unfold sp_Te_byteAt
      rw [if_neg (by rw [show (0 : Int32) = nI 0 from rfl, nzlt (by omega) (by omega)]; omega), if_neg (by rw [show (600 : Int32) = nI 600 from rfl, nzle (by omega) (by omega)]; omega), cl_nI (by omega), b2]
    have ev : ((10 : Int32) * acc + (sb (B (st + i)) - (48 : Int32))).toInt = dv B st (i + 1) := by
      have h1 : ((10 : Int32) * acc).toInt = 10 * (dv B st i : Int) := by rw [Kit.i32_mul (by rw [ha]; show _ ≤ (10 : Int) * _; omega) (by rw [ha]; show (10 : Int) * _ < _; omega), ha]; rfl
      have h2 : (sb (B (st + i)) - (48 : Int32)).toInt = ((B (st + i) - 48 : Nat) : Int) := by rw [sub48 _ (by omega) d.1, nIz (by omega)]
      rw [Kit.i32_add (by rw [h1, h2]; omega) (by rw [h1, h2]; omega), h1, h2]
      omega
    obtain ⟨i1, i2⟩ := c_num_loop (ng := ng) (p1 := p1) (p2 := p2) hn hb e4 e3 hle hen hd m f (i + 1) _ (by omega) (by omega) ev
    constructor
    · show bd_Te_number_52 _ _ _ _ _ _ _ _ = _
      unfold bd_Te_number_52
      simp only [lettn]
      rw [e4, e3, show (9 : Int32) = nI 9 from rfl, nzadd _ _ (by omega), if_neg c1, if_neg c2, ey, nzadd1 _ (by omega)]
      exact i1
    · intro ho
      show okb_Te_number_52 _ _ _ _ _ _ _ _ _
      unfold okb_Te_number_52
      simp only [lettn]
      rw [e4, e3, show (9 : Int32) = nI 9 from rfl, nzadd _ _ (by omega), ey, nzadd1 _ (by omega)]
      exact ⟨fun q => absurd q c1, fun _ => ⟨fun q => absurd q c2, fun _ => i2 ho⟩⟩
/-- the number with its sign -/
def sg (ng : Int32) (x : Int) : Int := if ng = 0 then x else -x
/-- the class's number at a number token -/
theorem c_num {en : Nat} {ng p1 p2 : Int32} {lo hi : Int} (hn : n ≤ 600) (hb : ∀ k, k < n → B k < 256 ∧ tb k = sb (B k)) (e4 : t 4 = nI en) (e3 : t 3 = nI st) (hle : st ≤ en) (hen : en ≤ n) (hd : ∀ k, st ≤ k → k < en → kc (B k) = 48) (h2 : t 2 = (48 : Int32)) (hp1 : p1.toInt = lo) (hp2 : p2.toInt = hi) (ha : ok_Te_advance t tb) :
    ok_Te_number_27 ng p1 p2 tb t ∧ ((en - st ≤ 9 ∧ lo ≤ sg ng (dv B st (nL st en)) ∧ sg ng (dv B st (nL st en)) ≤ hi) → ∃ x : Int32, x.toInt = sg ng (dv B st (nL st en)) ∧ sp_Te_number_27 ng p1 p2 tb t = (x, sp_Te_advance t tb)) ∧ (¬ (en - st ≤ 9 ∧ lo ≤ sg ng (dv B st (nL st en)) ∧ sg ng (dv B st (nL st en)) ≤ hi) → sp_Te_number_27 ng p1 p2 tb t = (p1, sp_Te_fail 2 t)) := by
  have hl := nL_p st en
  have dl := dv_lt (fun k h => (hb k h).1) hen hd (nL st en) (by omega)
  have d9 := p9 (nL st en) (by omega)
  obtain ⟨i1, i2⟩ := c_num_loop (ng := ng) (p1 := p1) (p2 := p2) hn hb e4 e3 hle hen hd (nL st en) big 0 0 (by omega) (by rw [big_eq]; omega) rfl
  rw [Nat.add_zero] at i1 i2
  -- the two signs
  have key : ∃ x : Int32, x.toInt = sg ng (dv B st (nL st en)) ∧ sp_Te_number_96 ng t p1 p2 tb (nI (dv B st (nL st en))) = sp_Te_number_108 t p1 p2 tb x ∧ (ok_Te_number_108 t p1 p2 tb x → ok_Te_number_96 ng t p1 p2 tb (nI (dv B st (nL st en)))) := by
    unfold sp_Te_number_96 ok_Te_number_96 sg
    by_cases q : ng = 0
    · rw [if_pos q, if_pos q]
      exact ⟨_, nIz (by omega), rfl, fun h => ⟨fun _ => h, fun w => absurd q w⟩⟩
    · rw [if_neg q, if_neg q]
      exact ⟨-nI (dv B st (nL st en)), by rw [Kit.i32_neg (by rw [nIz (by omega)]; omega), nIz (by omega)], rfl, fun h => ⟨fun w => absurd w q, fun _ => h⟩⟩
  obtain ⟨x, x1, x2, x3⟩ := key
  have eT : t 4 - t 3 = nI (en - st) := by rw [e4, e3, nzsub _ _ hle (by omega)]
  have cT : (9 : Int32) < nI (en - st) ↔ ¬ en - st ≤ 9 := by rw [show (9 : Int32) = nI 9 from rfl, nzlt (by omega) (by omega)]; omega
  have cl : x < p1 ↔ ¬ lo ≤ sg ng (dv B st (nL st en)) := by rw [Int32.lt_iff_toInt_lt, x1, hp1]; omega
  have ch : x ≤ p2 ↔ sg ng (dv B st (nL st en)) ≤ hi := by rw [Int32.le_iff_toInt_le, x1, hp2]
  have o108 : ok_Te_number_108 t p1 p2 tb x := by
    unfold ok_Te_number_108
    exact ⟨fun _ => trivial, fun _ => ⟨fun _ => trivial, fun _ => ⟨fun _ => ⟨ha, trivial⟩, fun _ => trivial⟩⟩⟩
  unfold sp_Te_number_27 ok_Te_number_27
  simp only [lettn]
  rw [if_pos h2, e3, i1, x2]
  refine ⟨⟨fun _ => i2 (x3 o108), fun w => absurd h2 w⟩, fun q => ⟨x, x1, ?_⟩, fun q => ?_⟩
  · unfold sp_Te_number_108
    simp only [lettn]
    rw [eT, if_neg (fun w => cT.mp w q.1), if_neg (fun w => cl.mp w q.2.1), if_pos (ch.mpr q.2.2)]
  · unfold sp_Te_number_108 sp_Te_number_136
    simp only [lettn]
    rw [eT]
    by_cases c1 : (9 : Int32) < nI (en - st)
    · rw [if_pos c1]
    · rw [if_neg c1]
      by_cases c2 : x < p1
      · rw [if_pos c2]
      · rw [if_neg c2, if_neg]
        intro c3
        refine q ⟨?_, ?_, ch.mp c3⟩
        · exact Decidable.byContradiction fun w => c1 (cT.mpr w)
        · exact Decidable.byContradiction fun w => c2 (cl.mpr w)
end TKE
