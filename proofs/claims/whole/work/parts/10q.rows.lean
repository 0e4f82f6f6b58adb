section CT1
variable {T : Int} {r r' : LV} {w0 w1 w2 w3 w4 : IV}
/-! ===== rows by their numbers below 215 ===== -/
def Same (r r' : LV) : Prop := ∀ k, k < 215 → r' k = r k
theorem row_same (h : RowOK T r) (e : Same r r') : RowOK T r' := by
  refine ⟨fun k hk => by rw [zr, e k (by omega)]; exact h.1 k hk, fun i j hi hz hj => ?_⟩
  rw [zr, e 54 (by decide)] at hz
  rw [zr, e (55 + 8 * i + j) (by omega)]
  exact h.2 i j hi hz hj
theorem br_same (h : RowOK T r) {ba ca : IV} {cal : LV} {da ea : IV} {rar : NI} {ral : NL} (hb : BR ba ca cal da ea rar ral r) (e : Same r r') : BR ba ca cal da ea rar ral r' := by
  have hD := (zD_bd h).2.1
  obtain ⟨⟨⟨hci, h6, h9, h10, h11, h12⟩, b3, b4, b5, bd⟩, hr1, hr2⟩ := hb
  have ps : PSame r r' := fun k hk _ => e k (by omega)
  have c := ci_ps hci ps hD (e 22 (by decide)) (e 37 (by decide)) (e 38 (by decide))
  have eS : zset r' (zD r') = zset r (zD r) := zS_cong (e 0 (by decide)) (fun d hd => e (33 + d) (by omega)) hD
  have ef : zf r' = zf r := by unfold zf zr; rw [e 29 (by decide)]
  have eg : zg r' = zg r := by unfold zg zr; rw [e 30 (by decide)]
  refine ⟨⟨⟨?_, ?_, ?_, ?_, ?_, ?_⟩, ?_, ?_, ?_, fun k hk hz => ?_⟩, ?_, fun i hi hz => ?_⟩
  · show CiR ca r' (zset r' (zD r')) _ _ _
    rw [eS, ef, eg, zr, e 32 (by decide)]; exact c
  · rw [h6, zr, zr, e 31 (by decide)]
  · rw [h9, zr, zr, e 27 (by decide)]
  · rw [h10, zr, zr, e 39 (by decide)]
  · rw [h11, zr, zr, e 28 (by decide)]
  · rw [h12, e 40 (by decide)]
  · rw [b3, zr, zr, e 43 (by decide)]
  · rw [b4, zr, zr, e 41 (by decide)]
  · rw [b5, zr, zr, e 42 (by decide)]
  · rw [zr, e 43 (by decide)] at hz
    rw [bd k hk hz, zr, zr, e (44 + k) (by omega)]
  · rw [hr1, zr, zr, e 54 (by decide)]
  · rw [zr, e 54 (by decide)] at hz
    obtain ⟨a, b⟩ := hr2 i hi hz
    exact ⟨fun j hj => by rw [a j hj, zr, zr, e (55 + 8 * i + j) (by omega)], fun j j6 j8 => by rw [b j j6 j8, e (55 + 8 * i + j) (by omega)]⟩
/-- a row of a long array -/
def rowAt (a : LV) (i : Nat) : LV := fun k => a (215 * i + k)
theorem n215 {a k : Nat} (ha : a < 9) (hk : k < 216) : (215 : Int32) * nI a + nI k = nI (215 * a + k) := by
  have k1 := e32_mul 0 1720 (e32_lit 215 (215 : Int32) rfl) (show E32 (nI a) a 0 8 from ⟨nIz (by omega), by omega, by omega⟩) (by decide) (by decide) (by decide)
  have k2 := e32_add k1 (show E32 (nI k) k 0 215 from ⟨nIz (by omega), by omega, by omega⟩) (by decide) (by decide)
  exact nIo (by rw [k2.1]; omega)
theorem cp_pp_l {a b : Nat} (ha : a < 8) (hb : b < 8) (hne : a ≠ b) : ∀ (n f i : Nat) (d : LV), i + n = 215 → n < f →
    ok_Mo_copy_pp_3 (nI b) (nI a) f (nI i) d ∧ (∀ k, (215 * b + i ≤ k ∧ k < 215 * b + 215 → sp_Mo_copy_pp_3 (nI b) (nI a) f (nI i) d k = d (215 * a + (k - 215 * b))) ∧ (k < 215 * b + i ∨ 215 * b + 215 ≤ k → sp_Mo_copy_pp_3 (nI b) (nI a) f (nI i) d k = d k))
  | n, 0, _, _, _, hf => absurd hf (by omega)
  | 0, f + 1, i, d, hi, _ => by
    have c : (215 : Int32) ≤ nI i := by rw [show (215 : Int32) = nI 215 from rfl, nzle (by omega) (by omega)]; omega
    have e : sp_Mo_copy_pp_3 (nI b) (nI a) (f + 1) (nI i) d = d := by
      show bd_Mo_copy_pp_3 _ _ _ _ _ = _
      unfold bd_Mo_copy_pp_3; rw [if_pos c]
    rw [e]
    refine ⟨?_, fun k => ⟨fun w => absurd w (by omega), fun _ => rfl⟩⟩
    show okb_Mo_copy_pp_3 _ _ _ _ _ _
    unfold okb_Mo_copy_pp_3; exact ⟨fun _ => trivial, fun w => absurd c w⟩
  | n + 1, f + 1, i, d, hi, hf => by
    have c : ¬ (215 : Int32) ≤ nI i := by rw [show (215 : Int32) = nI 215 from rfl, nzle (by omega) (by omega)]; omega
    have ea : ((215 : Int32) * nI a + nI i).toNatClampNeg = 215 * a + i := by rw [n215 (by omega) (by omega), cl_nI (by omega)]
    have eb : ((215 : Int32) * nI b + nI i).toNatClampNeg = 215 * b + i := by rw [n215 (by omega) (by omega), cl_nI (by omega)]
    obtain ⟨g1, g2⟩ := cp_pp_l ha hb hne n f (i + 1) (vp_updL d (215 * b + i) (d (215 * a + i))) (by omega) (by omega)
    have e : sp_Mo_copy_pp_3 (nI b) (nI a) (f + 1) (nI i) d = sp_Mo_copy_pp_3 (nI b) (nI a) f (nI (i + 1)) (vp_updL d (215 * b + i) (d (215 * a + i))) := by
      show bd_Mo_copy_pp_3 _ _ _ _ _ = _
      unfold bd_Mo_copy_pp_3; rw [if_neg c]; simp only [lettn]; rw [ea, eb, nzadd1 i (by omega)]
    rw [e]
    refine ⟨?_, fun k => ⟨fun w => ?_, fun w => ?_⟩⟩
    · show okb_Mo_copy_pp_3 _ _ _ _ _ _
      unfold okb_Mo_copy_pp_3; simp only [lettn]; rw [ea, eb, nzadd1 i (by omega)]
      refine ⟨fun w => absurd w c, fun _ => ⟨?_, ?_, g1⟩⟩
      · rw [n215 (by omega) (by omega)]; exact vp_nI (by omega) (by decide)
      · rw [n215 (by omega) (by omega)]; exact vp_nI (by omega) (by decide)
    · by_cases q : k = 215 * b + i
      · subst q; rw [(g2 _).2 (by omega), uLs, show 215 * a + (215 * b + i - 215 * b) = 215 * a + i by omega]
      · rw [(g2 k).1 (by omega)]; exact uLn (by omega)
    · rw [(g2 k).2 (by omega), uLn (by omega)]
theorem cp_np_l (src : LV) {a b : Nat} (ha : a < 1) (hb : b < 8) : ∀ (n f i : Nat) (d : LV), i + n = 215 → n < f →
    ok_Mo_copy_np_3 (nI b) src (nI a) f (nI i) d ∧ (∀ k, (215 * b + i ≤ k ∧ k < 215 * b + 215 → sp_Mo_copy_np_3 (nI b) src (nI a) f (nI i) d k = src (215 * a + (k - 215 * b))) ∧ (k < 215 * b + i ∨ 215 * b + 215 ≤ k → sp_Mo_copy_np_3 (nI b) src (nI a) f (nI i) d k = d k))
  | n, 0, _, _, _, hf => absurd hf (by omega)
  | 0, f + 1, i, d, hi, _ => by
    have c : (215 : Int32) ≤ nI i := by rw [show (215 : Int32) = nI 215 from rfl, nzle (by omega) (by omega)]; omega
    have e : sp_Mo_copy_np_3 (nI b) src (nI a) (f + 1) (nI i) d = d := by
      show bd_Mo_copy_np_3 _ _ _ _ _ _ = _
      unfold bd_Mo_copy_np_3; rw [if_pos c]
    rw [e]
    refine ⟨?_, fun k => ⟨fun w => absurd w (by omega), fun _ => rfl⟩⟩
    show okb_Mo_copy_np_3 _ _ _ _ _ _ _
    unfold okb_Mo_copy_np_3; exact ⟨fun _ => trivial, fun w => absurd c w⟩
  | n + 1, f + 1, i, d, hi, hf => by
    have c : ¬ (215 : Int32) ≤ nI i := by rw [show (215 : Int32) = nI 215 from rfl, nzle (by omega) (by omega)]; omega
    have ea : ((215 : Int32) * nI a + nI i).toNatClampNeg = 215 * a + i := by rw [n215 (by omega) (by omega), cl_nI (by omega)]
    have eb : ((215 : Int32) * nI b + nI i).toNatClampNeg = 215 * b + i := by rw [n215 (by omega) (by omega), cl_nI (by omega)]
    obtain ⟨g1, g2⟩ := cp_np_l src ha hb n f (i + 1) (vp_updL d (215 * b + i) (src (215 * a + i))) (by omega) (by omega)
    have e : sp_Mo_copy_np_3 (nI b) src (nI a) (f + 1) (nI i) d = sp_Mo_copy_np_3 (nI b) src (nI a) f (nI (i + 1)) (vp_updL d (215 * b + i) (src (215 * a + i))) := by
      show bd_Mo_copy_np_3 _ _ _ _ _ _ = _
      unfold bd_Mo_copy_np_3; rw [if_neg c]; simp only [lettn]; rw [ea, eb, nzadd1 i (by omega)]
    rw [e]
    refine ⟨?_, fun k => ⟨fun w => ?_, fun w => ?_⟩⟩
    · show okb_Mo_copy_np_3 _ _ _ _ _ _ _
      unfold okb_Mo_copy_np_3; simp only [lettn]; rw [ea, eb, nzadd1 i (by omega)]
      refine ⟨fun w => absurd w c, fun _ => ⟨?_, ?_, g1⟩⟩
      · rw [n215 (by omega) (by omega)]; exact vp_nI (by omega) (by decide)
      · rw [n215 (by omega) (by omega)]; exact vp_nI (by omega) (by decide)
    · by_cases q : k = 215 * b + i
      · subst q; rw [(g2 _).2 (by omega), uLs, show 215 * a + (215 * b + i - 215 * b) = 215 * a + i by omega]
      · rw [(g2 k).1 (by omega)]
    · rw [(g2 k).2 (by omega), uLn (by omega)]
theorem cp_pn_l (src : LV) {a b : Nat} (ha : a < 8) (hb : b < 1) : ∀ (n f i : Nat) (d : LV), i + n = 215 → n < f →
    ok_Mo_copy_pn_3 (nI b) src (nI a) f (nI i) d ∧ (∀ k, (215 * b + i ≤ k ∧ k < 215 * b + 215 → sp_Mo_copy_pn_3 (nI b) src (nI a) f (nI i) d k = src (215 * a + (k - 215 * b))) ∧ (k < 215 * b + i ∨ 215 * b + 215 ≤ k → sp_Mo_copy_pn_3 (nI b) src (nI a) f (nI i) d k = d k))
  | n, 0, _, _, _, hf => absurd hf (by omega)
  | 0, f + 1, i, d, hi, _ => by
    have c : (215 : Int32) ≤ nI i := by rw [show (215 : Int32) = nI 215 from rfl, nzle (by omega) (by omega)]; omega
    have e : sp_Mo_copy_pn_3 (nI b) src (nI a) (f + 1) (nI i) d = d := by
      show bd_Mo_copy_pn_3 _ _ _ _ _ _ = _
      unfold bd_Mo_copy_pn_3; rw [if_pos c]
    rw [e]
    refine ⟨?_, fun k => ⟨fun w => absurd w (by omega), fun _ => rfl⟩⟩
    show okb_Mo_copy_pn_3 _ _ _ _ _ _ _
    unfold okb_Mo_copy_pn_3; exact ⟨fun _ => trivial, fun w => absurd c w⟩
  | n + 1, f + 1, i, d, hi, hf => by
    have c : ¬ (215 : Int32) ≤ nI i := by rw [show (215 : Int32) = nI 215 from rfl, nzle (by omega) (by omega)]; omega
    have ea : ((215 : Int32) * nI a + nI i).toNatClampNeg = 215 * a + i := by rw [n215 (by omega) (by omega), cl_nI (by omega)]
    have eb : ((215 : Int32) * nI b + nI i).toNatClampNeg = 215 * b + i := by rw [n215 (by omega) (by omega), cl_nI (by omega)]
    obtain ⟨g1, g2⟩ := cp_pn_l src ha hb n f (i + 1) (vp_updL d (215 * b + i) (src (215 * a + i))) (by omega) (by omega)
    have e : sp_Mo_copy_pn_3 (nI b) src (nI a) (f + 1) (nI i) d = sp_Mo_copy_pn_3 (nI b) src (nI a) f (nI (i + 1)) (vp_updL d (215 * b + i) (src (215 * a + i))) := by
      show bd_Mo_copy_pn_3 _ _ _ _ _ _ = _
      unfold bd_Mo_copy_pn_3; rw [if_neg c]; simp only [lettn]; rw [ea, eb, nzadd1 i (by omega)]
    rw [e]
    refine ⟨?_, fun k => ⟨fun w => ?_, fun w => ?_⟩⟩
    · show okb_Mo_copy_pn_3 _ _ _ _ _ _ _
      unfold okb_Mo_copy_pn_3; simp only [lettn]; rw [ea, eb, nzadd1 i (by omega)]
      refine ⟨fun w => absurd w c, fun _ => ⟨?_, ?_, g1⟩⟩
      · rw [n215 (by omega) (by omega)]; exact vp_nI (by omega) (by decide)
      · rw [n215 (by omega) (by omega)]; exact vp_nI (by omega) (by decide)
    · by_cases q : k = 215 * b + i
      · subst q; rw [(g2 _).2 (by omega), uLs, show 215 * a + (215 * b + i - 215 * b) = 215 * a + i by omega]
      · rw [(g2 k).1 (by omega)]
    · rw [(g2 k).2 (by omega), uLn (by omega)]
theorem cp_ns_l (src : LV) {a b : Nat} (ha : a < 1) (hb : b < 2) : ∀ (n f i : Nat) (d : LV), i + n = 215 → n < f →
    ok_Mo_copy_ns_3 (nI b) src (nI a) f (nI i) d ∧ (∀ k, (215 * b + i ≤ k ∧ k < 215 * b + 215 → sp_Mo_copy_ns_3 (nI b) src (nI a) f (nI i) d k = src (215 * a + (k - 215 * b))) ∧ (k < 215 * b + i ∨ 215 * b + 215 ≤ k → sp_Mo_copy_ns_3 (nI b) src (nI a) f (nI i) d k = d k))
  | n, 0, _, _, _, hf => absurd hf (by omega)
  | 0, f + 1, i, d, hi, _ => by
    have c : (215 : Int32) ≤ nI i := by rw [show (215 : Int32) = nI 215 from rfl, nzle (by omega) (by omega)]; omega
    have e : sp_Mo_copy_ns_3 (nI b) src (nI a) (f + 1) (nI i) d = d := by
      show bd_Mo_copy_ns_3 _ _ _ _ _ _ = _
      unfold bd_Mo_copy_ns_3; rw [if_pos c]
    rw [e]
    refine ⟨?_, fun k => ⟨fun w => absurd w (by omega), fun _ => rfl⟩⟩
    show okb_Mo_copy_ns_3 _ _ _ _ _ _ _
    unfold okb_Mo_copy_ns_3; exact ⟨fun _ => trivial, fun w => absurd c w⟩
  | n + 1, f + 1, i, d, hi, hf => by
    have c : ¬ (215 : Int32) ≤ nI i := by rw [show (215 : Int32) = nI 215 from rfl, nzle (by omega) (by omega)]; omega
    have ea : ((215 : Int32) * nI a + nI i).toNatClampNeg = 215 * a + i := by rw [n215 (by omega) (by omega), cl_nI (by omega)]
    have eb : ((215 : Int32) * nI b + nI i).toNatClampNeg = 215 * b + i := by rw [n215 (by omega) (by omega), cl_nI (by omega)]
    obtain ⟨g1, g2⟩ := cp_ns_l src ha hb n f (i + 1) (vp_updL d (215 * b + i) (src (215 * a + i))) (by omega) (by omega)
    have e : sp_Mo_copy_ns_3 (nI b) src (nI a) (f + 1) (nI i) d = sp_Mo_copy_ns_3 (nI b) src (nI a) f (nI (i + 1)) (vp_updL d (215 * b + i) (src (215 * a + i))) := by
      show bd_Mo_copy_ns_3 _ _ _ _ _ _ = _
      unfold bd_Mo_copy_ns_3; rw [if_neg c]; simp only [lettn]; rw [ea, eb, nzadd1 i (by omega)]
    rw [e]
    refine ⟨?_, fun k => ⟨fun w => ?_, fun w => ?_⟩⟩
    · show okb_Mo_copy_ns_3 _ _ _ _ _ _ _
      unfold okb_Mo_copy_ns_3; simp only [lettn]; rw [ea, eb, nzadd1 i (by omega)]
      refine ⟨fun w => absurd w c, fun _ => ⟨?_, ?_, g1⟩⟩
      · rw [n215 (by omega) (by omega)]; exact vp_nI (by omega) (by decide)
      · rw [n215 (by omega) (by omega)]; exact vp_nI (by omega) (by decide)
    · by_cases q : k = 215 * b + i
      · subst q; rw [(g2 _).2 (by omega), uLs, show 215 * a + (215 * b + i - 215 * b) = 215 * a + i by omega]
      · rw [(g2 k).1 (by omega)]
    · rw [(g2 k).2 (by omega), uLn (by omega)]
theorem cp_sn_l (src : LV) {a b : Nat} (ha : a < 2) (hb : b < 1) : ∀ (n f i : Nat) (d : LV), i + n = 215 → n < f →
    ok_Mo_copy_sn_3 (nI b) src (nI a) f (nI i) d ∧ (∀ k, (215 * b + i ≤ k ∧ k < 215 * b + 215 → sp_Mo_copy_sn_3 (nI b) src (nI a) f (nI i) d k = src (215 * a + (k - 215 * b))) ∧ (k < 215 * b + i ∨ 215 * b + 215 ≤ k → sp_Mo_copy_sn_3 (nI b) src (nI a) f (nI i) d k = d k))
  | n, 0, _, _, _, hf => absurd hf (by omega)
  | 0, f + 1, i, d, hi, _ => by
    have c : (215 : Int32) ≤ nI i := by rw [show (215 : Int32) = nI 215 from rfl, nzle (by omega) (by omega)]; omega
    have e : sp_Mo_copy_sn_3 (nI b) src (nI a) (f + 1) (nI i) d = d := by
      show bd_Mo_copy_sn_3 _ _ _ _ _ _ = _
      unfold bd_Mo_copy_sn_3; rw [if_pos c]
    rw [e]
    refine ⟨?_, fun k => ⟨fun w => absurd w (by omega), fun _ => rfl⟩⟩
    show okb_Mo_copy_sn_3 _ _ _ _ _ _ _
    unfold okb_Mo_copy_sn_3; exact ⟨fun _ => trivial, fun w => absurd c w⟩
  | n + 1, f + 1, i, d, hi, hf => by
    have c : ¬ (215 : Int32) ≤ nI i := by rw [show (215 : Int32) = nI 215 from rfl, nzle (by omega) (by omega)]; omega
    have ea : ((215 : Int32) * nI a + nI i).toNatClampNeg = 215 * a + i := by rw [n215 (by omega) (by omega), cl_nI (by omega)]
    have eb : ((215 : Int32) * nI b + nI i).toNatClampNeg = 215 * b + i := by rw [n215 (by omega) (by omega), cl_nI (by omega)]
    obtain ⟨g1, g2⟩ := cp_sn_l src ha hb n f (i + 1) (vp_updL d (215 * b + i) (src (215 * a + i))) (by omega) (by omega)
    have e : sp_Mo_copy_sn_3 (nI b) src (nI a) (f + 1) (nI i) d = sp_Mo_copy_sn_3 (nI b) src (nI a) f (nI (i + 1)) (vp_updL d (215 * b + i) (src (215 * a + i))) := by
      show bd_Mo_copy_sn_3 _ _ _ _ _ _ = _
      unfold bd_Mo_copy_sn_3; rw [if_neg c]; simp only [lettn]; rw [ea, eb, nzadd1 i (by omega)]
    rw [e]
    refine ⟨?_, fun k => ⟨fun w => ?_, fun w => ?_⟩⟩
    · show okb_Mo_copy_sn_3 _ _ _ _ _ _ _
      unfold okb_Mo_copy_sn_3; simp only [lettn]; rw [ea, eb, nzadd1 i (by omega)]
      refine ⟨fun w => absurd w c, fun _ => ⟨?_, ?_, g1⟩⟩
      · rw [n215 (by omega) (by omega)]; exact vp_nI (by omega) (by decide)
      · rw [n215 (by omega) (by omega)]; exact vp_nI (by omega) (by decide)
    · by_cases q : k = 215 * b + i
      · subst q; rw [(g2 _).2 (by omega), uLs, show 215 * a + (215 * b + i - 215 * b) = 215 * a + i by omega]
      · rw [(g2 k).1 (by omega)]
    · rw [(g2 k).2 (by omega), uLn (by omega)]
end CT1
