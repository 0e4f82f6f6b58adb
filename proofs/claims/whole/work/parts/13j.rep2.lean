section TRJ
variable {T : Int} {r : LV} {o o' w0 w1 w2 w3 w4 ea rev rev' rb rb' rp rp' : IV} {rar : NI} {ral : NL} {n L : Nat} {p q : Int32} {v u : Int64} {V : Int}
/-! ===== a line of the report ===== -/
theorem rep123 (h : RB L rev rb o rp) (hl : L < 1000) : ok_Re_addLine_123 rev rb ∧ ok_Mo_writeResult_132 o rp ∧ ∃ rev' rb' o' rp', sp_Re_addLine_123 rev rb = (rev', rb') ∧ sp_Mo_writeResult_132 o rp = (o', rp') ∧ RB (L + 1) rev' rb' o' rp' ∧ (∀ k, k ≠ 28 → o' k = o k) := by
  obtain ⟨a1, a2, r1, b1, o1, q1, a3, a4, a5, a6⟩ := sig_R 10 h hl
  unfold ok_Re_addLine_123 ok_Mo_writeResult_132 sp_Re_addLine_123 sp_Mo_writeResult_132
  simp only [lettn]
  rw [a3, a4]
  exact ⟨⟨a1, trivial⟩, ⟨a2, trivial⟩, _, _, _, _, rfl, rfl, a5, a6⟩
theorem rep97 (hr : RR ea rar ral r) (h0 : RowOK T r) (hn : RN r n) {i : Nat} (hi : i < n) (h : RB L rev rb o rp) (hl : L + 20 ≤ 1000) : ok_Re_addLine_97 ral i rar rev rb ∧ ok_Mo_writeResult_106 (r (55 + 8 * i + 7)) (nI i) r o rp ∧ ∃ L' rev' rb' o' rp', sp_Re_addLine_97 ral i rar rev rb = (rev', rb') ∧ sp_Mo_writeResult_106 (r (55 + 8 * i + 7)) (nI i) r o rp = (o', rp') ∧ L' ≤ L + 16 ∧ RB L' rev' rb' o' rp' ∧ (∀ k, k ≠ 28 → o' k = o k) := by
  have h20 := hn.1
  obtain ⟨c1, c2⟩ := hr.2 i (by omega) (by rw [hn.2]; omega)
  have v7 : ral i 7 = r (55 + 8 * i + 7) := c2 7 (by decide) (by decide)
  have z5 : (rar i 5).toInt = zr r (55 + 8 * i + 5) := c1 5 (by decide)
  have hv : -10000000000000 ≤ zr r (55 + 8 * i + 7) ∧ zr r (55 + 8 * i + 7) ≤ 10000000000000 := h0.2 i 7 (by omega) (by rw [hn.2]; omega) (by decide)
  have f5 := m_of (r := r) (show i < 20 by omega) (show 5 < 8 by decide)
  have f5' : sp_Mo_ofResult (nI i) (5 : Int32) r = r (55 + 8 * i + 5) := f5.1
  have q5 : rar i 5 = (1 : Int32) ↔ r (55 + 8 * i + 5) = (1 : Int64) := by
    rw [z32 z5 1 1 rfl, ← Int64.toInt_inj]; exact Iff.rfl
  have hE : E64 (r (55 + 8 * i + 7)) (zr r (55 + 8 * i + 7)) (-10000000000000) 10000000000000 := ⟨rfl, hv⟩
  have ea0 : (if 0 < r (55 + 8 * i + 7) then r (55 + 8 * i + 7) else -r (55 + 8 * i + 7)) = sp_Mo_amount (r (55 + 8 * i + 7)) := by
    unfold sp_Mo_amount
    by_cases c : 0 < r (55 + 8 * i + 7)
    · rw [if_pos c, if_pos (by rw [Int64.lt_iff_toInt_lt] at c; rw [Int64.le_iff_toInt_le]; have z : (0 : Int64).toInt = 0 := rfl; omega)]
    · rw [if_neg c]
      by_cases c2 : (0 : Int64) ≤ r (55 + 8 * i + 7)
      · rw [if_pos c2]
        have e : r (55 + 8 * i + 7) = 0 := Int64.toInt_inj.mp (by
          rw [Int64.lt_iff_toInt_lt] at c; rw [Int64.le_iff_toInt_le] at c2
          have z : (0 : Int64).toInt = 0 := rfl
          omega)
        rw [e]; decide
      · rw [if_neg c2]
  have am : E64 (sp_Mo_amount (r (55 + 8 * i + 7))) (if 0 ≤ zr r (55 + 8 * i + 7) then zr r (55 + 8 * i + 7) else -zr r (55 + 8 * i + 7)) 0 10000000000000 := by
    unfold sp_Mo_amount
    have c := cle hE 0 0 rfl
    by_cases q : (0 : Int64) ≤ r (55 + 8 * i + 7)
    · have := c.mp q
      rw [if_pos q, if_pos this]; exact ⟨rfl, by omega, by omega⟩
    · have : ¬ 0 ≤ zr r (55 + 8 * i + 7) := fun w => q (c.mpr w)
      rw [if_neg q, if_neg this]
      have k := e64_neg hE (by decide)
      exact ⟨k.1, by omega, by omega⟩
  obtain ⟨a1, a2, L1, r1, b1, o1, q1, a3, a4, aL, a5, a6⟩ := num_R am (g := 1) (b0 := 14) (by decide) (by decide) (by decide) (by
    rw [Int64.lt_iff_toInt_lt, am.1]
    have := am.2.2
    show _ < (100000000000000 : Int)
    omega) h (by omega)
  have a1' : ok_Re_addNumber (sp_Mo_amount (r (55 + 8 * i + 7))) (1 : Int64) rev rb := a1
  have a2' : ok_Mo_writeNumber (sp_Mo_amount (r (55 + 8 * i + 7))) (1 : Int32) o rp := a2
  have a3' : sp_Re_addNumber (sp_Mo_amount (r (55 + 8 * i + 7))) (1 : Int64) rev rb = (r1, b1) := a3
  have a4' : sp_Mo_writeNumber (sp_Mo_amount (r (55 + 8 * i + 7))) (1 : Int32) o rp = (o1, q1) := a4
  unfold ok_Re_addLine_97 ok_Mo_writeResult_106 sp_Re_addLine_97 sp_Mo_writeResult_106
  simp only [lettn]
  rw [v7, ea0, a3', a4', f5']
  dsimp only
  by_cases c : rar i 5 = (1 : Int32)
  · obtain ⟨g1, g2, r2, b2, o2, q2, g3, g4, g5, g6⟩ := sig_R 42 a5 (by omega)
    obtain ⟨k1, k2, r3, b3, o3, q3, k3, k4, k5, k6⟩ := rep123 g5 (by omega)
    rw [if_pos c, if_pos (q5.mp c), g3, g4]
    exact ⟨⟨by omega, a1', fun _ => ⟨g1, k1⟩, fun w => absurd c w⟩, ⟨a2', f5.2, fun _ => ⟨g2, k2⟩, fun w => absurd (q5.mp c) w⟩, L1 + 1 + 1, r3, b3, o3, q3, k3, k4, by omega, k5, fun k hk => (k6 k hk).trans ((g6 k hk).trans (a6 k hk))⟩
  · obtain ⟨k1, k2, r3, b3, o3, q3, k3, k4, k5, k6⟩ := rep123 a5 (by omega)
    rw [if_neg c, if_neg (fun w => c (q5.mpr w))]
    exact ⟨⟨by omega, a1', fun w => absurd w c, fun _ => k1⟩, ⟨a2', f5.2, fun w => absurd (q5.mpr w) c, fun _ => k2⟩, L1 + 1, r3, b3, o3, q3, k3, k4, by omega, k5, fun k hk => (k6 k hk).trans (a6 k hk)⟩
theorem rep76 (hr : RR ea rar ral r) (h0 : RowOK T r) (hn : RN r n) {i : Nat} (hi : i < n) (h : RB L rev rb o rp) (hl : L + 22 ≤ 1000) : ok_Re_addLine_76 rev rb ral i rar ∧ ok_Mo_writeResult_80 o rp (nI i) r ∧ ∃ L' rev' rb' o' rp', sp_Re_addLine_76 rev rb ral i rar = (rev', rb') ∧ sp_Mo_writeResult_80 o rp (nI i) r = (o', rp') ∧ L' ≤ L + 18 ∧ RB L' rev' rb' o' rp' ∧ (∀ k, k ≠ 28 → o' k = o k) := by
  have h20 := hn.1
  obtain ⟨c1, c2⟩ := hr.2 i (by omega) (by rw [hn.2]; omega)
  have v7 : ral i 7 = r (55 + 8 * i + 7) := c2 7 (by decide) (by decide)
  have f7 := m_of (r := r) (show i < 20 by omega) (show 7 < 8 by decide)
  have f7' : sp_Mo_ofResult (nI i) (7 : Int32) r = r (55 + 8 * i + 7) := f7.1
  obtain ⟨a1, a2, r1, b1, o1, q1, a3, a4, a5, a6⟩ := sig_R 32 h (by omega)
  unfold ok_Re_addLine_76 ok_Mo_writeResult_80 sp_Re_addLine_76 sp_Mo_writeResult_80
  simp only [lettn]
  rw [a3, a4, f7', v7]
  dsimp only
  by_cases c : (0 : Int64) ≤ r (55 + 8 * i + 7)
  · obtain ⟨k1, k2, L2, r2, b2, o2, q2, k3, k4, k5, k6, k7⟩ := rep97 hr h0 hn hi a5 (by omega)
    rw [if_pos c, if_pos c]
    exact ⟨⟨a1, by omega, fun _ => k1, fun w => absurd c w⟩, ⟨a2, f7.2, fun _ => k2, fun w => absurd c w⟩, L2, r2, b2, o2, q2, k3, k4, by omega, k6, fun k hk => (k7 k hk).trans (a6 k hk)⟩
  · obtain ⟨g1, g2, r2, b2, o2, q2, g3, g4, g5, g6⟩ := sig_R 45 a5 (by omega)
    obtain ⟨k1, k2, L3, r3, b3, o3, q3, k3, k4, k5, k6, k7⟩ := rep97 hr h0 hn hi g5 (by omega)
    rw [if_neg c, if_neg c, g3, g4]
    exact ⟨⟨a1, by omega, fun w => absurd w c, fun _ => ⟨g1, k1⟩⟩, ⟨a2, f7.2, fun w => absurd w c, fun _ => ⟨g2, k2⟩⟩, L3, r3, b3, o3, q3, k3, k4, by omega, k6, fun k hk => (k7 k hk).trans ((g6 k hk).trans (a6 k hk))⟩
theorem rep56 (hr : RR ea rar ral r) (h0 : RowOK T r) (hn : RN r n) {i : Nat} (hi : i < n) {ld : Nat} (h3 : ld ≤ 3) (hld : zr r (55 + 8 * i + 2) = (ld : Int)) : ∀ m f1 f2 x L (rev rb o rp : IV), x + m = ld → m < f1 → m < f2 → RB L rev rb o rp → L + m + 22 ≤ 1000 → ok_Re_addLine_56 rar i ral f1 (nI x) rev rb ∧ ok_Mo_writeResult_56 (nI i) r f2 (nI x) o rp ∧ ∃ L' rev' rb' o' rp', sp_Re_addLine_56 rar i ral f1 (nI x) rev rb = (rev', rb') ∧ sp_Mo_writeResult_56 (nI i) r f2 (nI x) o rp = (o', rp') ∧ L' ≤ L + m + 18 ∧ RB L' rev' rb' o' rp' ∧ (∀ k, k ≠ 28 → o' k = o k)
  | m, 0, _, _, _, _, _, _, _, _, hf, _, _, _ => absurd hf (Nat.not_lt_zero m)
  | m, _, 0, _, _, _, _, _, _, _, _, hf, _, _ => absurd hf (Nat.not_lt_zero m)
  | 0, f1 + 1, f2 + 1, x, L, rev, rb, o, rp, hx, _, _, h, hl => by
    have h20 := hn.1
    have z2 := (hr.2 i (by omega) (by rw [hn.2]; omega)).1 2 (by decide)
    have f2' := m_of (r := r) (show i < 20 by omega) (show 2 < 8 by decide)
    have f2v : sp_Mo_ofResult (nI i) (2 : Int32) r = r (55 + 8 * i + 2) := f2'.1
    have cc : rar i 2 ≤ nI x := by rw [Int32.le_iff_toInt_le, z2, hld, nIz (by omega)]; omega
    have cm : r (55 + 8 * i + 2) ≤ (nI x).toInt64 := by
      rw [Int64.le_iff_toInt_le, Kit.i64_of_i32, nIz (by omega)]
      show zr r (55 + 8 * i + 2) ≤ (x : Int)
      omega
    obtain ⟨k1, k2, L2, r2, b2, o2, q2, k3, k4, k5, k6, k7⟩ := rep76 hr h0 hn hi h (by omega)
    refine ⟨?_, ?_, L2, r2, b2, o2, q2, ?_, ?_, by omega, k6, k7⟩
    · show okb_Re_addLine_56 _ _ _ _ _ _ _ _
      unfold okb_Re_addLine_56
      exact ⟨by omega, fun _ => k1, fun w => absurd cc w⟩
    · show okb_Mo_writeResult_56 _ _ _ _ _ _ _
      unfold okb_Mo_writeResult_56
      simp only [lettn]
      rw [f2v]
      exact ⟨f2'.2, fun _ => k2, fun w => absurd cm w⟩
    · show bd_Re_addLine_56 _ _ _ _ _ _ _ = _
      unfold bd_Re_addLine_56
      rw [if_pos cc]; exact k3
    · show bd_Mo_writeResult_56 _ _ _ _ _ _ = _
      unfold bd_Mo_writeResult_56
      simp only [lettn]
      rw [f2v, if_pos cm]; exact k4
  | m + 1, f1 + 1, f2 + 1, x, L, rev, rb, o, rp, hx, hf1, hf2, h, hl => by
    have h20 := hn.1
    have z2 := (hr.2 i (by omega) (by rw [hn.2]; omega)).1 2 (by decide)
    have f2' := m_of (r := r) (show i < 20 by omega) (show 2 < 8 by decide)
    have f2v : sp_Mo_ofResult (nI i) (2 : Int32) r = r (55 + 8 * i + 2) := f2'.1
    have cc : ¬ rar i 2 ≤ nI x := by rw [Int32.le_iff_toInt_le, z2, hld, nIz (by omega)]; omega
    have cm : ¬ r (55 + 8 * i + 2) ≤ (nI x).toInt64 := by
      rw [Int64.le_iff_toInt_le, Kit.i64_of_i32, nIz (by omega)]
      show ¬ zr r (55 + 8 * i + 2) ≤ (x : Int)
      omega
    obtain ⟨g1, g2, r1, b1, o1, q1, g3, g4, g5, g6⟩ := sig_R 119 h (by omega)
    obtain ⟨k1, k2, L2, r2, b2, o2, q2, k3, k4, k5, k6, k7⟩ := rep56 hr h0 hn hi h3 hld m f1 f2 (x + 1) (L + 1) r1 b1 o1 q1 (by omega) (by omega) (by omega) g5 (by omega)
    refine ⟨?_, ?_, L2, r2, b2, o2, q2, ?_, ?_, by omega, k6, fun k hk => (k7 k hk).trans (g6 k hk)⟩
    · show okb_Re_addLine_56 _ _ _ _ _ _ _ _
      unfold okb_Re_addLine_56
      simp only [lettn]
      rw [g3, nzadd1 x (by omega)]
      exact ⟨by omega, fun w => absurd w cc, fun _ => ⟨g1, k1⟩⟩
    · show okb_Mo_writeResult_56 _ _ _ _ _ _ _
      unfold okb_Mo_writeResult_56
      simp only [lettn]
      rw [f2v, g4, nzadd1 x (by omega)]
      exact ⟨f2'.2, fun w => absurd w cm, fun _ => ⟨g2, k2⟩⟩
    · show bd_Re_addLine_56 _ _ _ _ _ _ _ = _
      unfold bd_Re_addLine_56
      simp only [lettn]
      rw [if_neg cc, g3, nzadd1 x (by omega)]
      exact k3
    · show bd_Mo_writeResult_56 _ _ _ _ _ _ = _
      unfold bd_Mo_writeResult_56
      simp only [lettn]
      rw [f2v, if_neg cm, g4, nzadd1 x (by omega)]
      exact k4
theorem line_R (hp : PR w0 w1 w2 w3 w4 r) (hr : RR ea rar ral r) (h0 : RowOK T r) (hn : RN r n) {i : Nat} (hi : i < n) (h : RB L rev rb o rp) (hl : L + 40 ≤ 1000) : ok_Re_addLine i (w0 0) rev rb rar ral ∧ ok_Mo_writeResult (nI i) o r rp ∧ ∃ L' rev' rb' o' rp', sp_Re_addLine i (w0 0) rev rb rar ral = (rev', rb') ∧ sp_Mo_writeResult (nI i) o r rp = (o', rp') ∧ L' ≤ L + 30 ∧ RB L' rev' rb' o' rp' ∧ (∀ k, k ≠ 28 → o' k = o k) := by
  have h20 := hn.1
  have hD := zD_bd h0
  have hz : (i : Int) < zr r 54 := by rw [hn.2]; omega
  obtain ⟨c1, c2⟩ := hr.2 i (by omega) hz
  have b0 : 0 ≤ zr r (55 + 8 * i + 0) ∧ zr r (55 + 8 * i + 0) ≤ 4 := h0.2 i 0 (by omega) hz (by decide)
  have b1 : 0 ≤ zr r (55 + 8 * i + 1) ∧ zr r (55 + 8 * i + 1) ≤ 4 := h0.2 i 1 (by omega) hz (by decide)
  have b2 : 2 ≤ zr r (55 + 8 * i + 2) ∧ zr r (55 + 8 * i + 2) ≤ 3 := h0.2 i 2 (by omega) hz (by decide)
  have b3 : 0 ≤ zr r (55 + 8 * i + 3) ∧ zr r (55 + 8 * i + 3) ≤ 9999 := h0.2 i 3 (by omega) hz (by decide)
  have ev : ∀ j, j < 6 → (rar i j).toInt64 = r (55 + 8 * i + j) := fun j hj => Int64.toInt_inj.mp (by rw [Kit.i64_of_i32]; exact c1 j hj)
  have f0 := m_of (r := r) (show i < 20 by omega) (show 0 < 8 by decide)
  have f1 := m_of (r := r) (show i < 20 by omega) (show 1 < 8 by decide)
  have f3 := m_of (r := r) (show i < 20 by omega) (show 3 < 8 by decide)
  have f0' : sp_Mo_ofResult (nI i) (0 : Int32) r = r (55 + 8 * i + 0) := f0.1
  have f1' : sp_Mo_ofResult (nI i) (1 : Int32) r = r (55 + 8 * i + 1) := f1.1
  have f3' : sp_Mo_ofResult (nI i) (3 : Int32) r = r (55 + 8 * i + 3) := f3.1
  have eD : w0 0 = nI (zD r) := c_dec hp h0
  have e1 : w0 0 - (1 : Int32) = nI (zD r - 1) := by rw [eD]; exact nzsub _ 1 (by omega) (by omega)
  have et : (sp_Pa_tenTo (nI (zD r - 1))).toInt64 = pl (zD r) := by
    have hk := p10 (zD r - 1) (by omega)
    rw [pa_ten (by omega), w_lit _ (by omega)]
    obtain ⟨d, hd⟩ : ∃ d, zD r = d + 1 := ⟨zD r - 1, by omega⟩
    rw [hd]
    rfl
  have ot := pa_ten_o (n := zD r - 1) (by omega)
  have E0 : E64 (r (55 + 8 * i + 0)) (zr r (55 + 8 * i + 0)) 0 10000000000000 := ⟨rfl, by omega, by omega⟩
  have E1 : E64 (r (55 + 8 * i + 1)) (zr r (55 + 8 * i + 1)) 0 10000000000000 := ⟨rfl, by omega, by omega⟩
  have E3 : E64 (r (55 + 8 * i + 3)) (zr r (55 + 8 * i + 3)) 0 10000000000000 := ⟨rfl, by omega, by omega⟩
  obtain ⟨A1, A2, L1, r1, b1', o1, q1, A3, A4, A5, A6, A7⟩ := num_R E3 (g := zD r) (b0 := 4) (by omega) (by omega) (by omega) (by
    rw [Int64.lt_iff_toInt_lt]; show zr r (55 + 8 * i + 3) < 10000; omega) h (by omega)
  obtain ⟨B1, B2, r2, b2', o2, q2, B3, B4, B5, B6⟩ := sig_R 32 A6 (by omega)
  obtain ⟨C1, C2, L3, r3, b3', o3, q3, C3, C4, C5, C6, C7⟩ := num_R E0 (g := 1) (b0 := 1) (by decide) (by decide) (by decide) (by
    rw [Int64.lt_iff_toInt_lt]; show zr r (55 + 8 * i + 0) < 10; omega) B5 (by omega)
  obtain ⟨D1, D2, r4, b4', o4, q4, D3, D4, D5, D6⟩ := sig_R 47 C6 (by omega)
  obtain ⟨G1, G2, L5, r5, b5', o5, q5, G3, G4, G5, G6, G7⟩ := num_R E1 (g := 1) (b0 := 1) (by decide) (by decide) (by decide) (by
    rw [Int64.lt_iff_toInt_lt]; show zr r (55 + 8 * i + 1) < 10; omega) D5 (by omega)
  obtain ⟨H1, H2, r6, b6', o6, q6, H3, H4, H5, H6⟩ := sig_R 32 G6 (by omega)
  obtain ⟨I1, I2, L7, r7, b7', o7, q7, I3, I4, I5, I6, I7⟩ := rep56 hr h0 hn hi (ld := (zr r (55 + 8 * i + 2)).toNat) (by omega) (by omega) (zr r (55 + 8 * i + 2)).toNat big big 0 (L5 + 1) r6 b6' o6 q6 (Nat.zero_add _) (by rw [big_eq]; omega) (by rw [big_eq]; omega) H5 (by omega)
  have C1' : ok_Re_addNumber (r (55 + 8 * i + 0)) (1 : Int64) r2 b2' := C1
  have C2' : ok_Mo_writeNumber (r (55 + 8 * i + 0)) (1 : Int32) o2 q2 := C2
  have C3' : sp_Re_addNumber (r (55 + 8 * i + 0)) (1 : Int64) r2 b2' = (r3, b3') := C3
  have C4' : sp_Mo_writeNumber (r (55 + 8 * i + 0)) (1 : Int32) o2 q2 = (o3, q3) := C4
  have G1' : ok_Re_addNumber (r (55 + 8 * i + 1)) (1 : Int64) r4 b4' := G1
  have G2' : ok_Mo_writeNumber (r (55 + 8 * i + 1)) (1 : Int32) o4 q4 := G2
  have G3' : sp_Re_addNumber (r (55 + 8 * i + 1)) (1 : Int64) r4 b4' = (r5, b5') := G3
  have G4' : sp_Mo_writeNumber (r (55 + 8 * i + 1)) (1 : Int32) o4 q4 = (o5, q5) := G4
  have I1' : ok_Re_addLine_56 rar i ral big 0 r6 b6' := I1
  have I2' : ok_Mo_writeResult_56 (nI i) r big 0 o6 q6 := I2
  have I3' : sp_Re_addLine_56 rar i ral big 0 r6 b6' = (r7, b7') := I3
  have I4' : sp_Mo_writeResult_56 (nI i) r big 0 o6 q6 = (o7, q7) := I4
  have v0 := ev 0 (by decide)
  have v1 := ev 1 (by decide)
  have v3 := ev 3 (by decide)
  unfold ok_Re_addLine ok_Mo_writeResult sp_Re_addLine sp_Mo_writeResult
  simp only [lettn]
  rw [e1, et, v0, v1, v3, f0', f1', f3', m_decades h0, A3, A4]
  dsimp only
  rw [B3, B4]
  dsimp only
  rw [C3', C4']
  dsimp only
  rw [D3, D4]
  dsimp only
  rw [G3', G4']
  dsimp only
  rw [H3, H4]
  dsimp only
  refine ⟨⟨by omega, ot, A1, B1, C1', D1, G1', H1, I1'⟩, ⟨f3.2, A2, B2, f0.2, C2', D2, f1.2, G2', H2, I2'⟩, L7, r7, b7', o7, q7, I3', I4', by omega, I6, fun k hk => ?_⟩
  rw [I7 k hk, H6 k hk, G7 k hk, D6 k hk, C7 k hk, B6 k hk, A7 k hk]
/-- report -/
theorem rep_loop (hp : PR w0 w1 w2 w3 w4 r) (hr : RR ea rar ral r) (h0 : RowOK T r) (hn : RN r n) : ∀ k f1 f2 i L (rev rb o rp : IV), i + k = n → k < f1 → k < f2 → L ≤ 30 * i → RB L rev rb o rp →
    ok_Re_write_7 ea (w0 0) rar ral f1 (nI i) rev rb ∧ ok_Mo_report_12 r f2 (nI i) o rp ∧ ∃ L' rev' rb' o' rp', sp_Re_write_7 ea (w0 0) rar ral f1 (nI i) rev rb = (rev', rb') ∧ sp_Mo_report_12 r f2 (nI i) o rp = (nI L', o', rp') ∧ L' ≤ 600 ∧ RB L' rev' rb' o' rp' ∧ (∀ k, k ≠ 28 → o' k = o k)
  | k, 0, _, _, _, _, _, _, _, _, hf, _, _, _ => absurd hf (Nat.not_lt_zero k)
  | k, _, 0, _, _, _, _, _, _, _, _, hf, _, _ => absurd hf (Nat.not_lt_zero k)
  | 0, f1 + 1, f2 + 1, i, L, rev, rb, o, rp, hi, _, _, hL, h => by
    have h20 := hn.1
    have cc : ea 1 ≤ nI i := by rw [rr_n hr hn, nzle (by omega) (by omega)]; omega
    have cm : r 54 ≤ (nI i).toInt64 := (m_lt54 hn (by omega)).mpr (by omega)
    refine ⟨?_, ?_, L, rev, rb, o, rp, ?_, ?_, by omega, h, fun _ _ => rfl⟩
    · show okb_Re_write_7 _ _ _ _ _ _ _ _ _
      unfold okb_Re_write_7
      exact ⟨fun _ => trivial, fun w => absurd cc w⟩
    · show okb_Mo_report_12 _ _ _ _ _ _
      unfold okb_Mo_report_12
      exact ⟨fun _ => trivial, fun w => absurd cm w⟩
    · show bd_Re_write_7 _ _ _ _ _ _ _ _ = _
      unfold bd_Re_write_7
      rw [if_pos cc]
    · show bd_Mo_report_12 _ _ _ _ _ = _
      unfold bd_Mo_report_12 sp_Mo_report_36
      rw [if_pos cm, h.2.1]
  | k + 1, f1 + 1, f2 + 1, i, L, rev, rb, o, rp, hi, hf1, hf2, hL, h => by
    have h20 := hn.1
    have cc : ¬ ea 1 ≤ nI i := by rw [rr_n hr hn, nzle (by omega) (by omega)]; omega
    have cm : ¬ r 54 ≤ (nI i).toInt64 := fun w => by have := (m_lt54 hn (by omega)).mp w; omega
    have at1 := at_some (rr_n hr hn) hn.1 (show i < n by omega)
    obtain ⟨a1, a2, L1, r1, b1, o1, q1, a3, a4, a5, a6, a7⟩ := line_R hp hr h0 hn (show i < n by omega) h (by omega)
    obtain ⟨k1, k2, L2, r2, b2, o2, q2, k3, k4, k5, k6, k7⟩ := rep_loop hp hr h0 hn k f1 f2 (i + 1) L1 r1 b1 o1 q1 (by omega) (by omega) (by omega) (by omega) a6
    refine ⟨?_, ?_, L2, r2, b2, o2, q2, ?_, ?_, k5, k6, fun k hk => (k7 k hk).trans (a7 k hk)⟩
    · show okb_Re_write_7 _ _ _ _ _ _ _ _ _
      unfold okb_Re_write_7 ok_Re_write_34
      simp only [lettn]
      rw [at1, nzadd1 i (by omega)]
      refine ⟨fun w => absurd w cc, fun _ => ⟨fun w => absurd w (by simp), fun k4 hk => ?_⟩⟩
      cases hk
      rw [a3]
      exact ⟨a1, k1⟩
    · show okb_Mo_report_12 _ _ _ _ _ _
      unfold okb_Mo_report_12
      simp only [lettn]
      rw [a4, nzadd1 i (by omega)]
      exact ⟨fun w => absurd w cm, fun _ => ⟨a2, k2⟩⟩
    · show bd_Re_write_7 _ _ _ _ _ _ _ _ = _
      unfold bd_Re_write_7 sp_Re_write_34
      simp only [lettn]
      rw [if_neg cc, at1, nzadd1 i (by omega)]
      show sp_Re_write_7 ea (w0 0) rar ral f1 (nI (i + 1)) (sp_Re_addLine i (w0 0) rev rb rar ral).1 (sp_Re_addLine i (w0 0) rev rb rar ral).2 = _
      rw [a3]
      exact k3
    · show bd_Mo_report_12 _ _ _ _ _ = _
      unfold bd_Mo_report_12
      simp only [lettn]
      rw [if_neg cm, a4, nzadd1 i (by omega)]
      exact k4
theorem report_Q (hp : PR w0 w1 w2 w3 w4 r) (hr : RR ea rar ral r) (h0 : RowOK T r) : ok_Db_report w0 ea rar ral rev rb ∧ ok_Mo_report o r rp ∧ ∃ v rev' rb' o' rp', sp_Db_report w0 ea rar ral rev rb = (v, rev', rb') ∧ sp_Mo_report o r rp = (v, o', rp') ∧ RepR rev' rb' o' rp' ∧ (∀ k, k ≠ 6 → k ≠ 28 → o' k = o k) := by
  obtain ⟨n, hn⟩ := row_RN h0
  have h20 := hn.1
  obtain ⟨a1, a2, L, r1, b1, o1, q1, a3, a4, a5, a6, a7⟩ := rep_loop hp hr h0 hn n big big 0 0 (upd rev 1 0) rb (upd (upd o 6 0) 28 0) rp (Nat.zero_add n) (by rw [big_eq]; omega) (by rw [big_eq]; omega) (Nat.zero_le _) ⟨us, us, fun k hk => absurd hk (Nat.not_lt_zero k)⟩
  unfold ok_Db_report ok_Mo_report sp_Db_report sp_Mo_report ok_Re_write sp_Re_write
  simp only [lettn]
  have a3' : sp_Re_write_7 ea (w0 0) rar ral big 0 (upd rev 1 0) rb = (r1, b1) := a3
  rw [a3']
  refine ⟨⟨a1, trivial⟩, a2, nI L, r1, b1, o1, q1, by dsimp only; rw [a6.1], a4, ⟨L, by omega, a6⟩, fun k h6 h28 => (a7 k h28).trans ((un h28).trans (un h6))⟩
theorem reportByte_Q (h : RepR rev rb o rp) : ok_Mo_reportByte p o ∧ sp_Mo_reportByte p o rp = (sp_Db_reportByte p rev rb, upd o 6 0) := by
  obtain ⟨L, hL, h1, h2, h3⟩ := h
  unfold ok_Mo_reportByte sp_Mo_reportByte sp_Db_reportByte sp_Re_byteAt sp_Re_byteAt_30
  simp only [lettn]
  have e28 : upd o 6 0 28 = nI L := by rw [un (by decide)]; exact h2
  have k0 := e64_of32 (show E32 (upd o 6 0 28) (L : Int) 0 1000 from ⟨by rw [e28, nIz (by omega)], by omega, by omega⟩)
  have k := e64_sub k0 (e64_lit 1 (1 : Int64) rfl) (by decide) (by decide)
  rcases in32 (p := p) 0 ((L : Int) - 1) (a := 0) rfl k.1 with ⟨a, b, c⟩ | ⟨a, b⟩
  · obtain ⟨i, rfl, hi⟩ := pex a (m := L) (by omega)
    refine ⟨⟨fun w => absurd w c, fun _ => ⟨vp_nI (by omega) (by decide), trivial⟩⟩, ?_⟩
    rw [if_neg c, if_neg (by rw [Int32.lt_iff_toInt_lt, nIz (by omega)]; show ¬ (i : Int) < 0; omega), if_neg (by rw [h1, nzle (by omega) (by omega)]; omega), if_neg (by rw [show (1000 : Int32) = nI 1000 from rfl, nzle (by omega) (by omega)]; omega), cl_nI (by omega), h3 i hi]
  · refine ⟨⟨fun _ => trivial, fun w => absurd b w⟩, ?_⟩
    rw [if_pos b]
    by_cases c : p < 0
    · rw [if_pos c]
    · have c' : 0 ≤ p.toInt := by
        have : ¬ p.toInt < 0 := fun w => c (Int32.lt_iff_toInt_lt.mpr w)
        omega
      rw [if_neg c, if_pos (by rw [h1, Int32.le_iff_toInt_le, nIz (by omega)]; omega)]
end TRJ
