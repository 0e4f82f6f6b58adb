section TRH
/-! ===== Int32 by its bits: bt x i ===== -/
def bt (x : Int32) (i : Nat) : Bool := x.toBitVec.getLsbD i
theorem b_ext {x y : Int32} (h : ∀ i, i < 32 → bt x i = bt y i) : x = y := Int32.toBitVec_inj.mp (BitVec.eq_of_getLsbD_eq (fun i hi => h i hi))
theorem b_or (x y : Int32) (i : Nat) : bt (x ||| y) i = (bt x i || bt y i) := by unfold bt; rw [Int32.toBitVec_or, BitVec.getLsbD_or]
theorem b_and (x y : Int32) (i : Nat) : bt (x &&& y) i = (bt x i && bt y i) := by unfold bt; rw [Int32.toBitVec_and, BitVec.getLsbD_and]
theorem b_xor (x y : Int32) (i : Nat) : bt (x ^^^ y) i = (bt x i ^^ bt y i) := by unfold bt; rw [Int32.toBitVec_xor, BitVec.getLsbD_xor]
theorem b_big {x : Int32} {i : Nat} (h : 32 ≤ i) : bt x i = false := BitVec.getLsbD_of_ge _ _ h
theorem b_255 (i : Nat) : bt 255 i = decide (i < 8) := by
  rcases Nat.lt_or_ge i 32 with h | h
  · exact (by decide +kernel : ∀ i, i < 32 → bt 255 i = decide (i < 8)) i h
  · rw [b_big h, decide_eq_false (by omega)]
theorem b_65535 (i : Nat) : bt 65535 i = decide (i < 16) := by
  rcases Nat.lt_or_ge i 32 with h | h
  · exact (by decide +kernel : ∀ i, i < 32 → bt 65535 i = decide (i < 16)) i h
  · rw [b_big h, decide_eq_false (by omega)]
theorem b_m1 : ∀ i, i < 32 → bt (-1) i = true := by decide +kernel
theorem b_0 (i : Nat) : bt 0 i = false := BitVec.getLsbD_zero
theorem s_l : ∀ n, n < 32 → ((nI n &&& 31).toBitVec.smod 32).toNat = n := by decide +kernel
theorem s_u : ∀ n, n < 32 → (((nI n).toUInt32 &&& Int32.toUInt32 31).toBitVec % 32).toNat = n := by decide +kernel
theorem b_shl (n : Nat) (hn : n < 32) (x : Int32) {i : Nat} (hi : i < 32) : bt (x <<< (nI n &&& 31)) i = (decide (n ≤ i) && bt x (i - n)) := by
  unfold bt
  rw [Int32.toBitVec_shiftLeft]
  show (x.toBitVec <<< ((nI n &&& 31).toBitVec.smod 32).toNat).getLsbD i = _
  rw [s_l n hn, BitVec.getLsbD_shiftLeft]
  rcases Nat.lt_or_ge i n with h | h
  · simp [h, Nat.not_le.mpr h]
  · simp [hi, h, Nat.not_lt.mpr h]
theorem b_ushr (n : Nat) (hn : n < 32) (x : Int32) (i : Nat) : bt ((x.toUInt32 >>> ((nI n).toUInt32 &&& Int32.toUInt32 31)).toInt32) i = bt x (n + i) := by
  show (x.toUInt32 >>> ((nI n).toUInt32 &&& Int32.toUInt32 31)).toBitVec.getLsbD i = x.toUInt32.toBitVec.getLsbD (n + i)
  rw [UInt32.toBitVec_shiftRight]
  show (x.toUInt32.toBitVec >>> (((nI n).toUInt32 &&& Int32.toUInt32 31).toBitVec % 32).toNat).getLsbD i = _
  rw [s_u n hn, BitVec.getLsbD_ushiftRight]
theorem b_sshr (n : Nat) (hn : n < 32) (x : Int32) {i : Nat} (hi : i < 32) : bt (x >>> (nI n &&& 31)) i = if n + i < 32 then bt x (n + i) else bt x 31 := by
  unfold bt
  rw [Int32.toBitVec_shiftRight]
  show (x.toBitVec.sshiftRight ((nI n &&& 31).toBitVec.smod 32).toNat).getLsbD i = _
  rw [s_l n hn, BitVec.getLsbD_sshiftRight, BitVec.msb_eq_getLsbD_last]
  simp [hi]
theorem b_shl8 (x : Int32) {i : Nat} (hi : i < 32) : bt (x <<< ((8 : Int32) &&& 31)) i = (decide (8 ≤ i) && bt x (i - 8)) := b_shl 8 (by omega) x hi
theorem b_shl16 (x : Int32) {i : Nat} (hi : i < 32) : bt (x <<< ((16 : Int32) &&& 31)) i = (decide (16 ≤ i) && bt x (i - 16)) := b_shl 16 (by omega) x hi
theorem b_shl24 (x : Int32) {i : Nat} (hi : i < 32) : bt (x <<< ((24 : Int32) &&& 31)) i = (decide (24 ≤ i) && bt x (i - 24)) := b_shl 24 (by omega) x hi
theorem b_sshr8 (x : Int32) {i : Nat} (hi : i < 32) : bt (x >>> ((8 : Int32) &&& 31)) i = if 8 + i < 32 then bt x (8 + i) else bt x 31 := b_sshr 8 (by omega) x hi
/-! ===== four bytes fed ===== -/
def by8 (v : Int32) (s : Nat) : Nat := (v.toBitVec >>> s).toNat % 2 ^ 8
theorem by8_lt (v : Int32) (s : Nat) : by8 v s < 256 := Nat.mod_lt _ (by decide)
theorem bt_nI (m i : Nat) (hi : i < 32) : bt (nI m) i = m.testBit i := by
  show (BitVec.ofNat 32 m).getLsbD i = _
  rw [BitVec.getLsbD_ofNat, decide_eq_true hi, Bool.true_and]
theorem by8_bt (v : Int32) (s i : Nat) (hi : i < 32) : bt (nI (by8 v s)) i = (decide (i < 8) && bt v (s + i)) := by
  rw [bt_nI _ i hi]
  unfold by8
  rw [Nat.testBit_mod_two_pow, BitVec.testBit_toNat, BitVec.getLsbD_ushiftRight]
  rfl
theorem by8_c (v : Int32) {s : Nat} (hs : s + 8 ≤ 32) : ((v.toUInt32 >>> ((nI s).toUInt32 &&& Int32.toUInt32 31)).toInt32 &&& (255 : Int32)) = nI (by8 v s) := by
  refine b_ext fun i hi => ?_
  rw [b_and, b_255, b_ushr s (by omega), by8_bt v s i hi, Bool.and_comm]
theorem by8_m (v : Int32) {s : Nat} (hs : s + 8 ≤ 32) : ((v >>> (nI s &&& 31)) &&& (255 : Int32)) = nI (by8 v s) := by
  refine b_ext fun i hi => ?_
  rw [b_and, b_255, b_sshr s (by omega) v hi, by8_bt v s i hi, Bool.and_comm]
  rcases Nat.lt_or_ge i 8 with h | h
  · rw [if_pos (by omega)]
  · rw [decide_eq_false (by omega), Bool.false_and, Bool.false_and]
theorem nar_sb : ∀ b, b < 256 → vp_nar .byte (nI b).toInt8.toInt32 = sb b := by decide +kernel
def nbk (v : Int32) : Nat → Nat
  | 0 => 0
  | m + 1 => (if by8 v (8 * m) = 0 then 0 else 1) + nbk v m
theorem nbk_le (v : Int32) : ∀ m, nbk v m ≤ m
  | 0 => Nat.le_refl _
  | m + 1 => by
    have := nbk_le v m
    show (if by8 v (8 * m) = 0 then 0 else 1) + nbk v m ≤ m + 1
    split <;> omega
variable {B : Nat → Nat} {n : Nat} {t tb o bu : IV} {v : Int32}
theorem z_by (m : Nat) : nI (by8 v (8 * m)) = 0 ↔ by8 v (8 * m) = 0 := by
  have := by8_lt v (8 * m)
  exact nzinj (b := 0) (by omega) (by omega)
/-- the shift behind one -/
def xsh : Nat → Int32
  | 0 => -8
  | m + 1 => nI (8 * m)
theorem xsh_p (m : Nat) (hm : m < 4) : nI (8 * m) + (-8 : Int32) = xsh m := by
  match m, hm with
  | 0, _ => rfl
  | 1, _ => rfl
  | 2, _ => rfl
  | 3, _ => rfl
theorem xsh_n (m : Nat) (hm : m < 4) : ¬ nI (8 * m) < 0 := by
  rw [Int32.lt_iff_toInt_lt, nIz (by omega)]
  show ¬ ((8 * m : Nat) : Int) < 0
  omega
theorem c_bytes : ∀ m f a, a + m ≤ 4 → m < f → sp_Te_bytesOf_5 v f (nI a) (xsh m) = nI (a + nbk v m) ∧ ok_Te_bytesOf_5 v f (nI a) (xsh m)
  | m, 0, _, _, hf => absurd hf (Nat.not_lt_zero m)
  | 0, f + 1, a, _, _ => by
    constructor
    · show bd_Te_bytesOf_5 _ _ _ _ = _
      unfold bd_Te_bytesOf_5
      rw [if_pos (show xsh 0 < 0 by decide)]
      rfl
    · show okb_Te_bytesOf_5 _ _ _ _ _
      unfold okb_Te_bytesOf_5
      exact ⟨fun _ => trivial, fun w => absurd (show xsh 0 < 0 by decide) w⟩
  | m + 1, f + 1, a, hm, hf => by
    have c := xsh_n m (by omega)
    have z := z_by (v := v) m
    have e := by8_c v (s := 8 * m) (by omega)
    have x := xsh_p m (by omega)
    obtain ⟨y1, y2⟩ := c_bytes m f a (by omega) (by omega)
    by_cases q : by8 v (8 * m) = 0
    · have eb : nbk v (m + 1) = nbk v m := by
        show (if by8 v (8 * m) = 0 then 0 else 1) + nbk v m = _
        rw [if_pos q, Nat.zero_add]
      rw [eb]
      constructor
      · show bd_Te_bytesOf_5 _ _ _ (nI (8 * m)) = _
        unfold bd_Te_bytesOf_5 sp_Te_bytesOf_22
        simp only [lettn]
        rw [if_neg c, e, if_pos (z.mpr q), x]
        exact y1
      · show okb_Te_bytesOf_5 _ _ _ _ (nI (8 * m))
        unfold okb_Te_bytesOf_5 ok_Te_bytesOf_22
        simp only [lettn]
        rw [e, x]
        exact ⟨fun w => absurd w c, fun _ => ⟨fun _ => y2, fun w => absurd (z.mpr q) w⟩⟩
    · have eb : nbk v (m + 1) = 1 + nbk v m := by
        show (if by8 v (8 * m) = 0 then 0 else 1) + nbk v m = _
        rw [if_neg q]
      rw [eb]
      have hq := nbk_le v m
      obtain ⟨y1, y2⟩ := c_bytes m f (a + 1) (by omega) (by omega)
      constructor
      · show bd_Te_bytesOf_5 _ _ _ (nI (8 * m)) = _
        unfold bd_Te_bytesOf_5 sp_Te_bytesOf_22
        simp only [lettn]
        rw [if_neg c, e, if_neg (fun w => q (z.mp w)), x, nzadd1 a (by omega), ← Nat.add_assoc]
        exact y1
      · show okb_Te_bytesOf_5 _ _ _ _ (nI (8 * m))
        unfold okb_Te_bytesOf_5 ok_Te_bytesOf_22
        simp only [lettn]
        rw [e, x, nzadd1 a (by omega)]
        exact ⟨fun w => absurd w c, fun _ => ⟨fun w => absurd (z.mp w) q, fun _ => y2⟩⟩
theorem c_bytesOf (v : Int32) : sp_Te_bytesOf v = nI (nbk v 4) ∧ ok_Te_bytesOf v := by
  have := c_bytes (v := v) 4 big 0 (by omega) (by rw [big_eq]; omega)
  rw [Nat.zero_add] at this
  exact this
theorem m_zero4 : ∀ k f m, m + k = 4 → k < f → sp_Mo_zeros_4 v f (nI (m - nbk v m)) (nI (8 * m)) = nI (4 - nbk v 4) ∧ ok_Mo_zeros_4 v f (nI (m - nbk v m)) (nI (8 * m))
  | k, 0, _, _, hf => absurd hf (Nat.not_lt_zero k)
  | 0, f + 1, m, hm, _ => by
    have h4 : m = 4 := by omega
    subst h4
    constructor
    · show bd_Mo_zeros_4 _ _ _ _ = _
      unfold bd_Mo_zeros_4
      rw [if_pos (show (32 : Int32) ≤ nI (8 * 4) by decide)]
    · show okb_Mo_zeros_4 _ _ _ _ _
      unfold okb_Mo_zeros_4
      exact ⟨fun _ => trivial, fun w => absurd (show (32 : Int32) ≤ nI (8 * 4) by decide) w⟩
  | k + 1, f + 1, m, hm, hf => by
    have c : ¬ (32 : Int32) ≤ nI (8 * m) := by
      rw [show (32 : Int32) = nI 32 from rfl, nzle (by omega) (by omega)]; omega
    have z := z_by (v := v) m
    have e := by8_m v (s := 8 * m) (by omega)
    have hq := nbk_le v m
    have e8 : nI (8 * m) + (8 : Int32) = nI (8 * (m + 1)) := (nzadd (8 * m) 8 (by omega))
    obtain ⟨y1, y2⟩ := m_zero4 k f (m + 1) (by omega) (by omega)
    have eb : nbk v (m + 1) = (if by8 v (8 * m) = 0 then 0 else 1) + nbk v m := rfl
    by_cases q : by8 v (8 * m) = 0
    · rw [if_pos q, Nat.zero_add] at eb
      rw [eb, show m + 1 - nbk v m = m - nbk v m + 1 by omega] at y1 y2
      constructor
      · show bd_Mo_zeros_4 _ _ _ _ = _
        unfold bd_Mo_zeros_4 sp_Mo_zeros_26
        simp only [lettn]
        rw [if_neg c, e, if_pos (z.mpr q), e8, nzadd1 _ (by omega)]
        exact y1
      · show okb_Mo_zeros_4 _ _ _ _ _
        unfold okb_Mo_zeros_4 ok_Mo_zeros_26
        simp only [lettn]
        rw [e, e8, nzadd1 _ (by omega)]
        exact ⟨fun w => absurd w c, fun _ => ⟨fun _ => y2, fun w => absurd (z.mpr q) w⟩⟩
    · rw [if_neg q] at eb
      rw [eb, show m + 1 - (1 + nbk v m) = m - nbk v m by omega] at y1 y2
      constructor
      · show bd_Mo_zeros_4 _ _ _ _ = _
        unfold bd_Mo_zeros_4 sp_Mo_zeros_26
        simp only [lettn]
        rw [if_neg c, e, if_neg (fun w => q (z.mp w)), e8, nadd0]
        exact y1
      · show okb_Mo_zeros_4 _ _ _ _ _
        unfold okb_Mo_zeros_4 ok_Mo_zeros_26
        simp only [lettn]
        rw [e, e8, nadd0]
        exact ⟨fun w => absurd w c, fun _ => ⟨fun w => absurd (z.mp w) q, fun _ => y2⟩⟩
theorem m_zeros (v : Int32) : sp_Mo_zeros v = nI (4 - nbk v 4) ∧ ok_Mo_zeros v := m_zero4 (v := v) 4 big 0 (by omega) (by rw [big_eq]; omega)
/-- the bytes appended on both sides -/
theorem app_loop : ∀ m f1 f2 n (B : Nat → Nat) (t tb o bu : IV), m ≤ 4 → m < f1 → m < f2 → BufR B n t tb o bu → n + nbk v m ≤ 600 →
    ok_Te_append_3 v f1 (xsh m) t tb ∧ ok_Mo_feedFour_3 v f2 (xsh m) o bu ∧ ∃ (B' : Nat → Nat) (t' tb' o' bu' : IV), sp_Te_append_3 v f1 (xsh m) t tb = (t', tb') ∧ sp_Mo_feedFour_3 v f2 (xsh m) o bu = (o', bu') ∧ BufR B' (n + nbk v m) t' tb' o' bu' ∧ (∀ k, k ≠ 1 → t' k = t k) ∧ (∀ k, k ≠ 8 → o' k = o k)
  | m, 0, _, _, _, _, _, _, _, _, hf, _, _, _ => absurd hf (Nat.not_lt_zero m)
  | m, _, 0, _, _, _, _, _, _, _, _, hf, _, _ => absurd hf (Nat.not_lt_zero m)
  | 0, f1 + 1, f2 + 1, n, B, t, tb, o, bu, _, _, _, hB, _ => by
    refine ⟨?_, ?_, B, t, tb, o, bu, ?_, ?_, hB, fun _ _ => rfl, fun _ _ => rfl⟩
    · show okb_Te_append_3 _ _ _ _ _ _
      unfold okb_Te_append_3
      exact ⟨fun _ => trivial, fun w => absurd (show xsh 0 < 0 by decide) w⟩
    · show okb_Mo_feedFour_3 _ _ _ _ _ _
      unfold okb_Mo_feedFour_3
      exact ⟨fun _ => trivial, fun w => absurd (show xsh 0 < 0 by decide) w⟩
    · show bd_Te_append_3 _ _ _ _ _ = _
      unfold bd_Te_append_3
      rw [if_pos (show xsh 0 < 0 by decide)]
    · show bd_Mo_feedFour_3 _ _ _ _ _ = _
      unfold bd_Mo_feedFour_3
      rw [if_pos (show xsh 0 < 0 by decide)]
  | m + 1, f1 + 1, f2 + 1, n, B, t, tb, o, bu, hm, hf1, hf2, hB, hn => by
    have c := xsh_n m (by omega)
    have z := z_by (v := v) m
    have ec := by8_c v (s := 8 * m) (by omega)
    have em := by8_m v (s := 8 * m) (by omega)
    have x := xsh_p m (by omega)
    have bl := by8_lt v (8 * m)
    have eb : nbk v (m + 1) = (if by8 v (8 * m) = 0 then 0 else 1) + nbk v m := rfl
    by_cases q : by8 v (8 * m) = 0
    · rw [if_pos q, Nat.zero_add] at eb
      rw [eb] at hn ⊢
      obtain ⟨a1, a2, B', t', tb', o', bu', a3, a4, a5⟩ := app_loop m f1 f2 n B t tb o bu (by omega) (by omega) (by omega) hB hn
      refine ⟨?_, ?_, B', t', tb', o', bu', ?_, ?_, a5⟩
      · show okb_Te_append_3 _ _ _ (nI (8 * m)) _ _
        unfold okb_Te_append_3 ok_Te_append_52
        simp only [lettn]
        rw [ec, x]
        exact ⟨fun w => absurd w c, fun _ => ⟨fun _ => a1, fun w => absurd (z.mpr q) w⟩⟩
      · show okb_Mo_feedFour_3 _ _ _ (nI (8 * m)) _ _
        unfold okb_Mo_feedFour_3 ok_Mo_feedFour_43
        simp only [lettn]
        rw [em, x]
        exact ⟨fun w => absurd w c, fun _ => ⟨fun _ => a2, fun w => absurd (z.mpr q) w⟩⟩
      · show bd_Te_append_3 _ _ (nI (8 * m)) _ _ = _
        unfold bd_Te_append_3 sp_Te_append_52
        simp only [lettn]
        rw [if_neg c, ec, if_pos (z.mpr q), x]
        exact a3
      · show bd_Mo_feedFour_3 _ _ (nI (8 * m)) _ _ = _
        unfold bd_Mo_feedFour_3 sp_Mo_feedFour_43
        simp only [lettn]
        rw [if_neg c, em, if_pos (z.mpr q), x]
        exact a4
    · rw [if_neg q] at eb
      rw [eb] at hn ⊢
      have nz : ¬ nI (by8 v (8 * m)) = 0 := fun w => q (z.mp w)
      obtain ⟨h600, h8, h1, hk⟩ := hB
      have v6 : ¬ (600 : Int32) ≤ t 1 := by
        rw [h1, show (600 : Int32) = nI 600 from rfl, nzle (by omega) (by omega)]; omega
      have hB2 : BufR (fun k => if k = n then by8 v (8 * m) else B k) (n + 1) (upd t 1 (nI n + 1)) (upd tb n (sb (by8 v (8 * m)))) (upd o 8 (nI n + 1)) (upd bu n (nI (by8 v (8 * m)))) := by
        refine ⟨by omega, by rw [us, nzadd1 n (by omega)], by rw [us, nzadd1 n (by omega)], fun k hk2 => ?_⟩
        by_cases qk : k = n
        · subst qk
          rw [us, us]
          simp only [if_true]
          exact ⟨by omega, bl, trivial, trivial⟩
        · rw [un qk, un qk]
          simp only [if_neg qk]
          exact hk k (by omega)
      obtain ⟨a1, a2, B', t', tb', o', bu', a3, a4, a5, a6, a7⟩ := app_loop m f1 f2 (n + 1) _ _ _ _ _ (by omega) (by omega) (by omega) hB2 (by omega)
      rw [show n + 1 + nbk v m = n + (1 + nbk v m) by omega] at a5
      refine ⟨?_, ?_, B', t', tb', o', bu', ?_, ?_, a5, fun k hk => (a6 k hk).trans (un hk), fun k hk => (a7 k hk).trans (un hk)⟩
      · show okb_Te_append_3 _ _ _ (nI (8 * m)) _ _
        unfold okb_Te_append_3 ok_Te_append_52
        simp only [lettn]
        rw [ec, x, nar_sb _ bl]
        refine ⟨fun w => absurd w c, fun _ => ⟨fun w => absurd w nz, fun _ => ⟨fun w => absurd w v6, fun _ => ?_⟩⟩⟩
        rw [h1, cl_nI (by omega)]
        exact ⟨vp_nI (by omega) (by decide), a1⟩
      · show okb_Mo_feedFour_3 _ _ _ (nI (8 * m)) _ _
        unfold okb_Mo_feedFour_3 ok_Mo_feedFour_43
        simp only [lettn]
        rw [em, x, h8, cl_nI (by omega)]
        exact ⟨fun w => absurd w c, fun _ => ⟨fun w => absurd w nz, fun _ => ⟨vp_nI (by omega) (by decide), a2⟩⟩⟩
      · show bd_Te_append_3 _ _ (nI (8 * m)) _ _ = _
        unfold bd_Te_append_3 sp_Te_append_52
        simp only [lettn]
        rw [if_neg c, ec, if_neg nz, if_neg v6, x, nar_sb _ bl, h1, cl_nI (by omega)]
        exact a3
      · show bd_Mo_feedFour_3 _ _ (nI (8 * m)) _ _ = _
        unfold bd_Mo_feedFour_3 sp_Mo_feedFour_43
        simp only [lettn]
        rw [if_neg c, em, if_neg nz, x, h8, cl_nI (by omega)]
        exact a4
theorem app_R (v : Int32) (hB : BufR B n t tb o bu) (hn : n + nbk v 4 ≤ 600) : ok_Te_append v t tb ∧ ok_Mo_feedFour v o bu ∧ ∃ (B' : Nat → Nat) (t' tb' o' bu' : IV), sp_Te_append v t tb = (t', tb') ∧ sp_Mo_feedFour v o bu = (o', bu') ∧ BufR B' (n + nbk v 4) t' tb' o' bu' ∧ (∀ k, k ≠ 1 → t' k = t k) ∧ (∀ k, k ≠ 8 → o' k = o k) :=
  app_loop (v := v) 4 big big n B t tb o bu (by omega) (by rw [big_eq]; omega) (by rw [big_eq]; omega) hB hn
/-- feed -/
theorem feed_Q {v1 v2 v3 v4 v5 : Int32} (h : TxR t tb o bu) : ok_Db_feed v1 v2 v3 v4 v5 t tb ∧ ok_Mo_feed v1 v2 v3 v4 v5 o bu ∧ ∃ (v : Int32) (t' tb' o' bu' : IV), sp_Db_feed v1 v2 v3 v4 v5 t tb = (v, t', tb') ∧ sp_Mo_feed v1 v2 v3 v4 v5 o bu = (v, o', bu') ∧ TxR t' tb' o' bu' ∧ (∀ k, k ≠ 6 → k ≠ 8 → o' k = o k) := by
  obtain ⟨B, n, hB, h613⟩ := h
  have h600 := hB.1
  have l1 := nbk_le v1 4
  have l2 := nbk_le v2 4
  have l3 := nbk_le v3 4
  have l4 := nbk_le v4 4
  have l5 := nbk_le v5 4
  obtain ⟨c1, k1⟩ := c_bytesOf v1
  obtain ⟨c2, k2⟩ := c_bytesOf v2
  obtain ⟨c3, k3⟩ := c_bytesOf v3
  obtain ⟨c4, k4⟩ := c_bytesOf v4
  obtain ⟨c5, k5⟩ := c_bytesOf v5
  obtain ⟨m1, z1⟩ := m_zeros v1
  obtain ⟨m2, z2⟩ := m_zeros v2
  obtain ⟨m3, z3⟩ := m_zeros v3
  obtain ⟨m4, z4⟩ := m_zeros v4
  obtain ⟨m5, z5⟩ := m_zeros v5
  have ec : t 1 + (nI (nbk v1 4) + nI (nbk v2 4) + nI (nbk v3 4) + nI (nbk v4 4) + nI (nbk v5 4)) = nI (n + (nbk v1 4 + nbk v2 4 + nbk v3 4 + nbk v4 4 + nbk v5 4)) := by
    rw [hB.2.2.1, nzadd _ _ (by omega), nzadd _ _ (by omega), nzadd _ _ (by omega), nzadd _ _ (by omega), nzadd _ _ (by omega)]
  have em : upd o 6 0 8 + (20 : Int32) - nI (4 - nbk v1 4) - nI (4 - nbk v2 4) - nI (4 - nbk v3 4) - nI (4 - nbk v4 4) - nI (4 - nbk v5 4) = nI (n + (nbk v1 4 + nbk v2 4 + nbk v3 4 + nbk v4 4 + nbk v5 4)) := by
    rw [un (by decide), hB.2.1, show (20 : Int32) = nI 20 from rfl, nzadd _ _ (by omega), nzsub _ _ (by omega) (by omega), nzsub _ _ (by omega) (by omega), nzsub _ _ (by omega) (by omega), nzsub _ _ (by omega) (by omega), nzsub _ _ (by omega) (by omega)]
    congr 1
    omega
  unfold ok_Db_feed ok_Mo_feed sp_Db_feed sp_Mo_feed
  simp only [lettn]
  rw [c1, c2, c3, c4, c5, m1, m2, m3, m4, m5, ec, em]
  have hB6 : BufR B n t tb (upd o 6 0) bu := ⟨hB.1, by rw [un (by decide)]; exact hB.2.1, hB.2.2⟩
  by_cases q : n + (nbk v1 4 + nbk v2 4 + nbk v3 4 + nbk v4 4 + nbk v5 4) ≤ 600
  · have q' : nI (n + (nbk v1 4 + nbk v2 4 + nbk v3 4 + nbk v4 4 + nbk v5 4)) ≤ (600 : Int32) := (nzle (b := 600) (by omega) (by omega)).mpr q
    obtain ⟨a1, b1, B1, t1, tb1, o1, bu1, e1, f1, g1, i1, j1⟩ := app_R v1 hB6 (by omega)
    obtain ⟨a2, b2, B2, t2, tb2, o2, bu2, e2, f2, g2, i2, j2⟩ := app_R v2 g1 (by omega)
    obtain ⟨a3, b3, B3, t3, tb3, o3, bu3, e3, f3, g3, i3, j3⟩ := app_R v3 g2 (by omega)
    obtain ⟨a4, b4, B4, t4, tb4, o4, bu4, e4, f4, g4, i4, j4⟩ := app_R v4 g3 (by omega)
    obtain ⟨a5, b5, B5, t5, tb5, o5, bu5, e5, f5, g5, i5, j5⟩ := app_R v5 g4 (by omega)
    rw [if_pos q', if_pos q', e1, f1]
    dsimp only
    rw [e2, f2]
    dsimp only
    rw [e3, f3]
    dsimp only
    rw [e4, f4]
    dsimp only
    rw [e5, f5]
    dsimp only
    refine ⟨⟨k1, k2, k3, k4, k5, fun _ => ⟨a1, a2, a3, a4, a5, trivial⟩, fun w => absurd q' w⟩, ⟨z1, z2, z3, z4, z5, fun _ => ⟨b1, b2, b3, b4, b5, trivial⟩, fun w => absurd q' w⟩, t5 1, t5, tb5, o5, bu5, rfl, by rw [g5.2.2.1, g5.2.1], ⟨B5, _, g5, ?_⟩, fun k h6 h8 => ?_⟩
    · rw [i5 6 (by decide), i4 6 (by decide), i3 6 (by decide), i2 6 (by decide), i1 6 (by decide), j5 13 (by decide), j4 13 (by decide), j3 13 (by decide), j2 13 (by decide), j1 13 (by decide), un (by decide)]; exact h613
    · rw [j5 k h8, j4 k h8, j3 k h8, j2 k h8, j1 k h8, un h6]
  · have q' : ¬ nI (n + (nbk v1 4 + nbk v2 4 + nbk v3 4 + nbk v4 4 + nbk v5 4)) ≤ (600 : Int32) := fun w => q ((nzle (b := 600) (by omega) (by omega)).mp w)
    rw [if_neg q', if_neg q']
    exact ⟨⟨k1, k2, k3, k4, k5, fun w => absurd w q', fun _ => trivial⟩, ⟨z1, z2, z3, z4, z5, fun w => absurd w q', fun _ => trivial⟩, -1, t, tb, upd o 6 0, bu, rfl, rfl, ⟨B, n, hB6, by rw [un (by decide)]; exact h613⟩, fun k h6 _ => un h6⟩
end TRH
