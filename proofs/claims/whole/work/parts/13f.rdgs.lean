section TRF
variable {T : Int} {r : LV} {o ba ca da : IV} {cal : LV} {n : Nat} {p : Int32}
/-! ===== the answers on readings ===== -/
theorem bc_n (h : RowOK T r) (hb : BC ba ca cal da r) : ∃ n : Nat, n ≤ 10 ∧ zr r 43 = (n : Int) ∧ ba 3 = nI n ∧ ∀ k : Nat, k < n → (da k).toInt = zr r (44 + k) := by
  obtain ⟨_, b1, b2⟩ := row_w h 43 0 10 rfl rfl
  refine ⟨(zr r 43).toNat, by omega, by omega, nIo (by rw [hb.2.1]; omega), fun k hk => hb.2.2.2.2 k (by omega) (by omega)⟩
theorem m_le43 (hn : zr r 43 = (n : Int)) {i : Nat} (hi : i < 2147483648) : r 43 ≤ (nI i).toInt64 ↔ n ≤ i := by
  rw [Int64.le_iff_toInt_le, Kit.i64_of_i32, nIz hi]
  show zr r 43 ≤ (i : Int) ↔ _
  rw [hn]; omega
theorem n43 (hn : zr r 43 = (n : Int)) (h10 : n ≤ 10) : (r 43 - (1 : Int64)).toInt = (n : Int) - 1 := by
  have k := e64_sub (show E64 (r 43) (zr r 43) 0 20 from ⟨rfl, by omega, by omega⟩) (e64_lit 1 (1 : Int64) rfl) (by decide) (by decide)
  rw [k.1, hn]
theorem r44 {i : Nat} (hi : i < 11) : (44 : Int32) + nI i = nI (44 + i) := nzadd 44 i (by omega)
theorem c_rd (hn3 : ba 3 = nI n) (h10 : n ≤ 10) {i : Nat} (hi : i < n) : sp_Be_readingAt (nI i) ba da = da i := by
  unfold sp_Be_readingAt
  rw [if_neg (by rw [Int32.lt_iff_toInt_lt, nIz (by omega)]; show ¬ (i : Int) < 0; omega), if_neg (by rw [hn3, nzle (by omega) (by omega)]; omega), if_neg (by rw [show (10 : Int32) = nI 10 from rfl, nzle (by omega) (by omega)]; omega), cl_nI (by omega)]
theorem reading_Q (h : RowOK T r) (hb : BC ba ca cal da r) : ok_Mo_reading p o r ∧ sp_Mo_reading p o r = (sp_Db_reading p ba da, upd o 6 0) := by
  obtain ⟨n, h10, hz, h3, hd⟩ := bc_n h hb
  unfold sp_Mo_reading ok_Mo_reading sp_Db_reading
  simp only [lettn]
  rcases in32 (p := p) 0 ((n : Int) - 1) (a := 0) rfl (n43 hz h10) with ⟨a, b, c⟩ | ⟨a, b⟩
  · obtain ⟨i, rfl, hi⟩ := pex a (m := n) (by omega)
    rw [if_neg c, c_rd h3 h10 hi, r44 (by omega), cl_nI (by omega)]
    have f := hd i hi
    have rg := rg32 (da i)
    have ev : da i = (r (44 + i)).toInt32 := Int32.toInt_inj.mp (by
      rw [Kit.i32_of_i64 (by show -2 ^ 31 ≤ zr r (44 + i); omega) (by show zr r (44 + i) < 2 ^ 31; omega)]; exact f)
    rw [← ev]
    exact ⟨⟨fun w => absurd w c, fun _ => ⟨vp_nI (by omega) (by decide), trivial⟩⟩, rfl⟩
  · rw [if_pos b]
    refine ⟨⟨fun _ => trivial, fun w => absurd b w⟩, ?_⟩
    unfold sp_Be_readingAt sp_Be_readingAt_30
    by_cases c : p < 0
    · rw [if_pos c]
    · have c' : 0 ≤ p.toInt := by
        have : ¬ p.toInt < 0 := fun w => c (Int32.lt_iff_toInt_lt.mpr w)
        omega
      rw [if_neg c, if_pos (by rw [h3, Int32.le_iff_toInt_le, nIz (by omega)]; omega)]
def rS (r : LV) : Nat → Int64
  | 0 => 0
  | i + 1 => rS r i + r (44 + i)
def rMx (r : LV) : Nat → Int64
  | 0 => r 44
  | i + 1 => if r (44 + i) < rMx r i then rMx r i else r (44 + i)
def rMn (r : LV) : Nat → Int64
  | 0 => r 44
  | i + 1 => if r (44 + i) < rMn r i then r (44 + i) else rMn r i
theorem c_sumR (hn3 : ba 3 = nI n) (h10 : n ≤ 10) (hd : ∀ k : Nat, k < n → (da k).toInt = zr r (44 + k)) : ∀ k f i, i + k = n → k < f → sp_Be_sumOfReadings_4 ba da f (rS r i) (nI i) = rS r n ∧ ok_Be_sumOfReadings_4 ba da f (rS r i) (nI i)
  | k, 0, _, _, hf => absurd hf (Nat.not_lt_zero k)
  | 0, f + 1, i, hi, _ => by
    have c : ba 3 ≤ nI i := by rw [hn3]; exact (nzle (by omega) (by omega)).mpr (by omega)
    constructor
    · show bd_Be_sumOfReadings_4 _ _ _ _ _ = _
      unfold bd_Be_sumOfReadings_4
      rw [if_pos c, show i = n by omega]
    · show okb_Be_sumOfReadings_4 _ _ _ _ _ _
      unfold okb_Be_sumOfReadings_4
      exact ⟨fun _ => trivial, fun w => absurd c w⟩
  | k + 1, f + 1, i, hi, hf => by
    have c : ¬ ba 3 ≤ nI i := by rw [hn3, nzle (by omega) (by omega)]; omega
    obtain ⟨x1, x2⟩ := c_sumR hn3 h10 hd k f (i + 1) (by omega) (by omega)
    have ev : (da i).toInt64 = r (44 + i) := Int64.toInt_inj.mp (by rw [Kit.i64_of_i32]; exact hd i (by omega))
    constructor
    · show bd_Be_sumOfReadings_4 _ _ _ _ _ = _
      unfold bd_Be_sumOfReadings_4
      simp only [lettn]
      rw [if_neg c, c_rd hn3 h10 (by omega), nzadd1 i (by omega), ev]
      exact x1
    · show okb_Be_sumOfReadings_4 _ _ _ _ _ _
      unfold okb_Be_sumOfReadings_4
      simp only [lettn]
      rw [c_rd hn3 h10 (by omega), nzadd1 i (by omega), ev]
      exact ⟨fun w => absurd w c, fun _ => x2⟩
theorem m_sumR (hz : zr r 43 = (n : Int)) (h10 : n ≤ 10) {oo : IV} : ∀ k f i, i + k = n → k < f → sp_Mo_meanReading_9 r oo f (rS r i) (nI i) = sp_Mo_meanReading_40 r oo (rS r n) ∧ (ok_Mo_meanReading_40 r oo (rS r n) → ok_Mo_meanReading_9 r oo f (rS r i) (nI i))
  | k, 0, _, _, hf => absurd hf (Nat.not_lt_zero k)
  | 0, f + 1, i, hi, _ => by
    have c : r 43 ≤ (nI i).toInt64 := (m_le43 hz (by omega)).mpr (by omega)
    constructor
    · show bd_Mo_meanReading_9 _ _ _ _ _ = _
      unfold bd_Mo_meanReading_9
      rw [if_pos c, show i = n by omega]
    · intro w
      show okb_Mo_meanReading_9 _ _ _ _ _ _
      unfold okb_Mo_meanReading_9
      rw [show i = n by omega]
      rw [show i = n by omega] at c
      exact ⟨fun _ => w, fun w => absurd c w⟩
  | k + 1, f + 1, i, hi, hf => by
    have c : ¬ r 43 ≤ (nI i).toInt64 := fun w => by have := (m_le43 hz (by omega)).mp w; omega
    obtain ⟨x1, x2⟩ := m_sumR hz h10 (oo := oo) k f (i + 1) (by omega) (by omega)
    constructor
    · show bd_Mo_meanReading_9 _ _ _ _ _ = _
      unfold bd_Mo_meanReading_9
      simp only [lettn]
      rw [if_neg c, r44 (by omega), cl_nI (by omega), nzadd1 i (by omega)]
      exact x1
    · intro w
      show okb_Mo_meanReading_9 _ _ _ _ _ _
      unfold okb_Mo_meanReading_9
      simp only [lettn]
      rw [r44 (by omega), cl_nI (by omega), nzadd1 i (by omega)]
      exact ⟨fun w => absurd w c, fun _ => ⟨vp_nI (by omega) (by decide), x2 w⟩⟩
theorem b_0n : vf_n64 FP.dconst0 := by unfold vf_n64; decide
theorem meanReading_Q (h : RowOK T r) (hb : BC ba ca cal da r) : ok_Mo_meanReading o r ∧ ok_Db_meanReading ba da ∧ sp_Mo_meanReading o r = (sp_Db_meanReading ba da, upd o 6 0) ∧ vf_n64 (sp_Db_meanReading ba da) := by
  obtain ⟨n, h10, hz, h3, hd⟩ := bc_n h hb
  have c := c_sumR h3 h10 hd n big 0 (Nat.zero_add n) (by rw [big_eq]; omega)
  have m := m_sumR hz h10 (oo := upd o 6 0) n big 0 (Nat.zero_add n) (by rw [big_eq]; omega)
  have c1 : sp_Be_sumOfReadings ba da = rS r n := c.1
  have c2 : ok_Be_sumOfReadings ba da := c.2
  have m1 : sp_Mo_meanReading o r = sp_Mo_meanReading_40 r (upd o 6 0) (rS r n) := m.1
  have m2 : ok_Mo_meanReading_40 r (upd o 6 0) (rS r n) → ok_Mo_meanReading o r := m.2
  have z1 : ba 3 = 0 ↔ n = 0 := by rw [h3]; exact nzinj (b := 0) (by omega) (by omega)
  have z2 : r 43 = 0 ↔ n = 0 := by
    rw [← Int64.toInt_inj]
    show zr r 43 = 0 ↔ _
    rw [hz]; omega
  rw [m1]
  unfold ok_Db_meanReading sp_Db_meanReading sp_Mo_meanReading_40
  unfold ok_Mo_meanReading_40 at m2
  simp only [lettn]
  rw [c1]
  by_cases q : n = 0
  · rw [if_pos (z1.mpr q), if_pos (z2.mpr q)]
    exact ⟨m2 ⟨fun _ => trivial, fun w => absurd (z2.mpr q) w⟩, ⟨fun _ => trivial, fun w => absurd (z1.mpr q) w⟩, rfl, b_0n⟩
  · have e1 : FP.i2d (ba 3) = UInt64.ofNat (FP.Core.fromInt FP.Core.b64 (n : Nat)) := by rw [h3]; exact b_i2dn (by omega)
    have e2 : FP.l2d (r 43) = UInt64.ofNat (FP.Core.fromInt FP.Core.b64 (n : Nat)) := b_l2dn hz
    have nn : vf_n64 (FP.ddiv (FP.l2d (rS r n)) (FP.i2d (ba 3))) := b_mean _ (k := n) (by omega) (by omega) e1
    rw [if_neg (fun w => q (z1.mp w)), if_neg (fun w => q (z2.mp w)), e2, ← e1]
    refine ⟨m2 ⟨fun w => absurd (z2.mp w) q, fun _ => ⟨?_, trivial⟩⟩, ⟨fun w => absurd (z1.mp w) q, fun _ => ⟨c2, nn, trivial⟩⟩, rfl, nn⟩
    rw [e2, ← e1]; exact nn
/-- greatest and least reading -/
theorem rX_bd (h : RowOK T r) : ∀ i, i ≤ 10 → (-9999999 ≤ (rMx r i).toInt ∧ (rMx r i).toInt ≤ 9999999) ∧ -9999999 ≤ (rMn r i).toInt ∧ (rMn r i).toInt ≤ 9999999
  | 0, _ => by
    have a := row_rd h (d := 0) (by decide)
    exact ⟨a.2, a.2⟩
  | i + 1, hi => by
    have a := (row_rd h (d := i) (by omega)).2
    obtain ⟨b, c⟩ := rX_bd h i (by omega)
    constructor
    · show -9999999 ≤ (if r (44 + i) < rMx r i then rMx r i else r (44 + i)).toInt ∧ (if r (44 + i) < rMx r i then rMx r i else r (44 + i)).toInt ≤ 9999999
      split
      · exact b
      · exact a
    · show -9999999 ≤ (if r (44 + i) < rMn r i then r (44 + i) else rMn r i).toInt ∧ (if r (44 + i) < rMn r i then r (44 + i) else rMn r i).toInt ≤ 9999999
      split
      · exact a
      · exact c
theorem m_sprR (hz : zr r 43 = (n : Int)) (h10 : n ≤ 10) {oo : IV} : ∀ k f i, i + k = n → k < f → sp_Mo_spread_24 r oo f (rMx r i) (rMn r i) (nI i) = sp_Mo_spread_74 r oo (rMx r n) (rMn r n) ∧ ok_Mo_spread_24 r oo f (rMx r i) (rMn r i) (nI i)
  | k, 0, _, _, hf => absurd hf (Nat.not_lt_zero k)
  | 0, f + 1, i, hi, _ => by
    have c : r 43 ≤ (nI i).toInt64 := (m_le43 hz (by omega)).mpr (by omega)
    constructor
    · show bd_Mo_spread_24 _ _ _ _ _ _ = _
      unfold bd_Mo_spread_24
      rw [if_pos c, show i = n by omega]
    · show okb_Mo_spread_24 _ _ _ _ _ _ _
      unfold okb_Mo_spread_24
      exact ⟨fun _ => trivial, fun w => absurd c w⟩
  | k + 1, f + 1, i, hi, hf => by
    have c : ¬ r 43 ≤ (nI i).toInt64 := fun w => by have := (m_le43 hz (by omega)).mp w; omega
    obtain ⟨x1, x2⟩ := m_sprR hz h10 (oo := oo) k f (i + 1) (by omega) (by omega)
    constructor
    · show bd_Mo_spread_24 _ _ _ _ _ _ = _
      unfold bd_Mo_spread_24
      simp only [lettn]
      rw [if_neg c, r44 (by omega), cl_nI (by omega), nzadd1 i (by omega)]
      exact x1
    · show okb_Mo_spread_24 _ _ _ _ _ _ _
      unfold okb_Mo_spread_24
      simp only [lettn]
      rw [r44 (by omega), cl_nI (by omega), nzadd1 i (by omega)]
      exact ⟨fun w => absurd w c, fun _ => ⟨vp_nI (by omega) (by decide), x2⟩⟩
theorem c_sprR (hn3 : ba 3 = nI n) (h10 : n ≤ 10) (hd : ∀ k : Nat, k < n → (da k).toInt = zr r (44 + k)) : ∀ k f i (x y : Int32), i + k = n → k < f → x.toInt = (rMn r i).toInt → y.toInt = (rMx r i).toInt → ∃ x' y' : Int32, sp_Be_spreadOfReadings_19 ba da f x y (nI i) = y' - x' ∧ ok_Be_spreadOfReadings_19 ba da f x y (nI i) ∧ x'.toInt = (rMn r n).toInt ∧ y'.toInt = (rMx r n).toInt
  | k, 0, _, _, _, _, hf, _, _ => absurd hf (Nat.not_lt_zero k)
  | 0, f + 1, i, x, y, hi, _, hx, hy => by
    have c : ba 3 ≤ nI i := by rw [hn3]; exact (nzle (by omega) (by omega)).mpr (by omega)
    have hin : i = n := by omega
    refine ⟨x, y, ?_, ?_, by rw [← hin]; exact hx, by rw [← hin]; exact hy⟩
    · show bd_Be_spreadOfReadings_19 _ _ _ _ _ _ = _
      unfold bd_Be_spreadOfReadings_19 sp_Be_spreadOfReadings_53
      rw [if_pos c]
    · show okb_Be_spreadOfReadings_19 _ _ _ _ _ _ _
      unfold okb_Be_spreadOfReadings_19
      exact ⟨fun _ => trivial, fun w => absurd c w⟩
  | k + 1, f + 1, i, x, y, hi, hf, hx, hy => by
    have c : ¬ ba 3 ≤ nI i := by rw [hn3, nzle (by omega) (by omega)]; omega
    have d := hd i (by omega)
    have dv : (da i).toInt = (r (44 + i)).toInt := d
    have q1 : da i < x ↔ r (44 + i) < rMn r i := by rw [Int32.lt_iff_toInt_lt, Int64.lt_iff_toInt_lt, dv, hx]
    have q2 : y < da i ↔ (rMx r i).toInt < (r (44 + i)).toInt := by rw [Int32.lt_iff_toInt_lt, dv, hy]
    obtain ⟨x', y', z1, z2, z3⟩ := c_sprR hn3 h10 hd k f (i + 1) (if da i < x then da i else x) (if y < da i then da i else y) (by omega) (by omega) (by
      show _ = (if r (44 + i) < rMn r i then r (44 + i) else rMn r i).toInt
      by_cases q : r (44 + i) < rMn r i
      · rw [if_pos q, if_pos (q1.mpr q)]; exact dv
      · rw [if_neg q, if_neg (fun w => q (q1.mp w))]; exact hx) (by
      show _ = (if r (44 + i) < rMx r i then rMx r i else r (44 + i)).toInt
      by_cases q : y < da i
      · have q' := q2.mp q
        rw [if_pos q, if_neg (fun w => by rw [Int64.lt_iff_toInt_lt] at w; omega)]; exact dv
      · have q' := mt q2.mpr q
        rw [if_neg q]
        split
        · exact hy
        · next w => rw [Int64.lt_iff_toInt_lt] at w; omega)
    refine ⟨x', y', ?_, ?_, z3⟩
    · show bd_Be_spreadOfReadings_19 _ _ _ _ _ _ = _
      unfold bd_Be_spreadOfReadings_19
      simp only [lettn]
      rw [if_neg c, c_rd hn3 h10 (by omega), nzadd1 i (by omega)]
      exact z1
    · show okb_Be_spreadOfReadings_19 _ _ _ _ _ _ _
      unfold okb_Be_spreadOfReadings_19
      simp only [lettn]
      rw [c_rd hn3 h10 (by omega), nzadd1 i (by omega)]
      exact ⟨fun w => absurd w c, fun _ => z2⟩
theorem f_0 : FP.i2f 0 = FP.fconst0 := by decide +kernel
theorem f_eq {x : Int32} {y : Int64} (h : x.toInt = y.toInt) : FP.i2f x = FP.l2f y := by
  show UInt32.ofNat (FP.Core.fromInt FP.Core.b32 x.toInt) = UInt32.ofNat (FP.Core.fromInt FP.Core.b32 y.toInt)
  rw [h]
theorem spread_Q (h : RowOK T r) (hb : BC ba ca cal da r) : ok_Mo_spread o r ∧ ok_Db_spread ba da ∧ sp_Mo_spread o r = (sp_Db_spread ba da, upd o 6 0) := by
  obtain ⟨n, h10, hz, h3, hd⟩ := bc_n h hb
  have m := m_sprR hz h10 (oo := upd o 6 0) n big 0 (Nat.zero_add n) (by rw [big_eq]; omega)
  have m1 : sp_Mo_spread o r = sp_Mo_spread_74 r (upd o 6 0) (rMx r n) (rMn r n) := m.1
  have m2 : ok_Mo_spread o r := m.2
  have z1 : ba 3 = 0 ↔ n = 0 := by rw [h3]; exact nzinj (b := 0) (by omega) (by omega)
  have z2 : r 43 = 0 ↔ n = 0 := by
    rw [← Int64.toInt_inj]
    show zr r 43 = 0 ↔ _
    rw [hz]; omega
  rw [m1]
  unfold ok_Db_spread sp_Db_spread sp_Mo_spread_74 sp_Be_spreadOfReadings ok_Be_spreadOfReadings
  simp only [lettn]
  by_cases q : n = 0
  · rw [if_pos (z1.mpr q), if_pos (z2.mpr q), f_0]
    exact ⟨m2, ⟨⟨fun _ => trivial, fun w => absurd (z1.mpr q) w⟩, trivial⟩, rfl⟩
  · have d0 : sp_Be_readingAt 0 ba da = da 0 := c_rd h3 h10 (i := 0) (by omega)
    have dv : (da 0).toInt = (r 44).toInt := hd 0 (by omega)
    have b1 : rMx r 1 = r 44 := ite_self _
    have b2 : rMn r 1 = r 44 := ite_self _
    obtain ⟨x', y', y1, y2, y3, y4⟩ := c_sprR h3 h10 hd (n - 1) big 1 (da 0) (da 0) (by omega) (by rw [big_eq]; omega) (by rw [b2]; exact dv) (by rw [b1]; exact dv)
    obtain ⟨⟨k1, k2⟩, k3, k4⟩ := rX_bd h n h10
    have ev : (y' - x').toInt = (rMx r n - rMn r n).toInt := by
      rw [Kit.i32_sub (by omega) (by omega), Kit.i64_sub (by omega) (by omega), y3, y4]
    rw [if_neg (fun w => q (z1.mp w)), if_neg (fun w => q (z2.mp w)), d0]
    have y1' : sp_Be_spreadOfReadings_19 ba da big (da 0) (da 0) 1 = y' - x' := y1
    rw [y1', f_eq ev]
    exact ⟨m2, ⟨⟨fun w => absurd (z1.mp w) q, fun _ => y2⟩, trivial⟩, rfl⟩
end TRF
