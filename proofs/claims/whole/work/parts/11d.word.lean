section TKD
variable {B : Nat → Nat} {n st : Nat} {t tb o bu : IV}
/-! ===== words ===== -/
theorem js_len : ∀ w, w < 20 → sp_JS_length w = nI (sLen.getD w 0) ∧ sLen.getD w 0 < 9 ∧ 1 ≤ sLen.getD w 0 := by decide +kernel
theorem js_lok : ∀ w, w < 20 → ok_JS_length w := fun w h => by
  unfold ok_JS_length ok_JS_coder
  exact ⟨h, ⟨fun q => absurd q (by decide), fun _ => ⟨h, trivial⟩⟩, trivial⟩
/-- a word's letter -/
def wl (w k : Nat) : Nat := ((sByt.getD w []).getD k 0).toInt.toNat
theorem js_at : ∀ w, w < 20 → ∀ k, k < sLen.getD w 0 → sp_JS_charAt w (nI k) = nI (wl w k) ∧ wl w k < 123 ∧ 97 ≤ wl w k := by decide +kernel
theorem js_ok0 : ∀ w, w < 20 → ∀ k, k < sLen.getD w 0 → (¬ sp_JS_isLatin1 w = 0) ∧ (¬ nI k < 0) ∧ nI k < nI (sLen.getD w 0) ∧ narrow .char (.int (nI (wl w k))) = .int (nI (wl w k)) ∧ sp_JL_charAt w (nI k) = nI (wl w k) := by decide +kernel
theorem js_ok {w k : Nat} (hw : w < 20) (hk : k < sLen.getD w 0) : ok_JS_charAt w (nI k) := by
  obtain ⟨a1, a2, a3, a4, a5⟩ := js_ok0 w hw k hk
  have hl := (js_len w hw).2.1
  have a6 : (((((sByt.getD w []).getD (nI k).toNatClampNeg 0) &&& (255 : Int32)).toUInt32 % 65536).toInt32) = nI (wl w k) := by
    have := a5
    unfold sp_JL_charAt at this
    simp only [lettn] at this
    exact this
  unfold ok_JS_charAt ok_JS_isLatin1 ok_JL_charAt ok_JS_checkIndex
  simp only [lettn]
  refine ⟨⟨fun q => absurd q (by decide), fun _ => ⟨hw, trivial⟩⟩, hw, fun q => absurd q a1, fun _ => ⟨⟨hw, ⟨a2, a3⟩, vp_nI hk (by omega), ?_, trivial⟩, ?_, trivial⟩⟩
  · rw [a6]; exact a4
  · rw [a5]; exact a4
theorem sb_eq : ∀ b, b < 256 → ∀ c, c < 123 → (sb b = nI c ↔ b = c) := by decide +kernel
/-- the two comparisons, letter by letter -/
theorem word_loop {w en : Nat} (hw : w < 20) (hb : BufR B n t tb o bu) (e10 : o 10 = nI st) (e3 : t 3 = nI st) (hen : st + sLen.getD w 0 = en) (hn : en ≤ n) : ∀ (m f1 f2 k : Nat), k + m = sLen.getD w 0 → m + 1 < f1 → m < f2 →
    ok_Mo_isWord_39 w bu o f1 1 (nI k) ∧ ok_Te_isWord_29 w t tb f2 (nI k) ∧ sp_Mo_isWord_39 w bu o f1 1 (nI k) = sp_Te_isWord_29 w t tb f2 (nI k) ∧ isB (sp_Te_isWord_29 w t tb f2 (nI k))
  | m, 0, _, _, _, hf, _ => absurd hf (by omega)
  | m, _, 0, _, _, _, hf => absurd hf (by omega)
  | 0, f1 + 1, f2 + 1, k, hk, _, _ => by
    obtain ⟨l1, l2, -⟩ := js_len w hw
    have c : nI (sLen.getD w 0) ≤ nI k := by rw [nzle (by omega) (by omega)]; omega
    have e2 : sp_Te_isWord_29 w t tb (f2 + 1) (nI k) = 1 := by
      show bd_Te_isWord_29 _ _ _ _ _ = _
      unfold bd_Te_isWord_29
      simp only [lettn]
      rw [l1, if_pos c]
    have e1 : sp_Mo_isWord_39 w bu o (f1 + 1) 1 (nI k) = 1 := by
      show bd_Mo_isWord_39 _ _ _ _ _ _ = _
      unfold bd_Mo_isWord_39
      simp only [lettn]
      rw [if_neg (by decide), l1, if_pos c]
    refine ⟨?_, ?_, by rw [e1, e2], by rw [e2]; exact Or.inr rfl⟩
    · show okb_Mo_isWord_39 _ _ _ _ _ _ _
      unfold okb_Mo_isWord_39
      simp only [lettn]
      rw [l1]
      exact ⟨fun q => absurd q (by decide), fun _ => ⟨js_lok w hw, hw, fun _ => ⟨Or.inr rfl, trivial⟩, fun q => absurd c q⟩⟩
    · show okb_Te_isWord_29 _ _ _ _ _ _
      unfold okb_Te_isWord_29
      simp only [lettn]
      rw [l1]
      exact ⟨js_lok w hw, hw, fun _ => trivial, fun q => absurd c q⟩
  | m + 1, f1 + 1, f2 + 1, k, hk, hf1, hf2 => by
    obtain ⟨l1, l2, -⟩ := js_len w hw
    have hn6 := hb.1
    have hkl : k < sLen.getD w 0 := by omega
    obtain ⟨i1, i2, i3, i4⟩ := word_loop hw hb e10 e3 hen hn m f1 f2 (k + 1) (by omega) (by omega) (by omega)
    have c : ¬ nI (sLen.getD w 0) ≤ nI k := by rw [nzle (by omega) (by omega)]; omega
    obtain ⟨c1, c2, c3⟩ := js_at w hw k hkl
    obtain ⟨-, b2, b3, b4⟩ := hb.2.2.2 (st + k) (by omega)
    have ea : o 10 + nI k = nI (st + k) := by rw [e10, nzadd _ _ (by omega)]
    have eb : t 3 + nI k = nI (st + k) := by rw [e3, nzadd _ _ (by omega)]
    have ey : sp_Te_byteAt (nI (st + k)) tb = sb (B (st + k)) := by
      unfold sp_Te_byteAt
      rw [if_neg (by rw [show (0 : Int32) = nI 0 from rfl, nzlt (by omega) (by omega)]; omega), if_neg (by rw [show (600 : Int32) = nI 600 from rfl, nzle (by omega) (by omega)]; omega), cl_nI (by omega), b4]
    have hs := sb_eq _ b2 _ c2
    have hm : bu (o 10 + nI k).toNatClampNeg = nI (B (st + k)) := by rw [ea, cl_nI (by omega), b3]
    have e1k : nI k + (1 : Int32) = nI (k + 1) := nzadd1 k (by omega)
    by_cases q : B (st + k) = wl w k
    · have y1 : nI (B (st + k)) = nI (wl w k) := by rw [q]
      have y2 : sb (B (st + k)) = nI (wl w k) := hs.mpr q
      have e1 : sp_Mo_isWord_39 w bu o (f1 + 1) 1 (nI k) = sp_Mo_isWord_39 w bu o f1 1 (nI (k + 1)) := by
        show bd_Mo_isWord_39 _ _ _ _ _ _ = _
        unfold bd_Mo_isWord_39 sp_Mo_isWord_75
        simp only [lettn]
        rw [if_neg (by decide), l1, if_neg c, c1, hm, if_pos y1, e1k]
      have e2 : sp_Te_isWord_29 w t tb (f2 + 1) (nI k) = sp_Te_isWord_29 w t tb f2 (nI (k + 1)) := by
        show bd_Te_isWord_29 _ _ _ _ _ = _
        unfold bd_Te_isWord_29
        simp only [lettn]
        rw [l1, if_neg c, c1, eb, ey, if_pos y2, e1k]
      refine ⟨?_, ?_, by rw [e1, e2]; exact i3, by rw [e2]; exact i4⟩
      · show okb_Mo_isWord_39 _ _ _ _ _ _ _
        unfold okb_Mo_isWord_39 ok_Mo_isWord_75
        simp only [lettn]
        rw [l1, c1, hm, e1k, ea]
        exact ⟨fun q => absurd q (by decide), fun _ => ⟨js_lok w hw, hw, fun q => absurd q c, fun _ => ⟨vp_nI (by omega) (by decide), js_ok hw hkl, fun _ => i1, fun q => absurd y1 q⟩⟩⟩
      · show okb_Te_isWord_29 _ _ _ _ _ _
        unfold okb_Te_isWord_29
        simp only [lettn]
        rw [l1, c1, eb, ey, e1k]
        exact ⟨js_lok w hw, hw, fun q => absurd q c, fun _ => ⟨js_ok hw hkl, fun _ => i2, fun q => absurd y2 q⟩⟩
    · have y1 : ¬ nI (B (st + k)) = nI (wl w k) := by rw [nzinj (by omega) (by omega)]; exact q
      have y2 : ¬ sb (B (st + k)) = nI (wl w k) := fun q2 => q (hs.mp q2)
      have e2 : sp_Te_isWord_29 w t tb (f2 + 1) (nI k) = 0 := by
        show bd_Te_isWord_29 _ _ _ _ _ = _
        unfold bd_Te_isWord_29
        simp only [lettn]
        rw [l1, if_neg c, c1, eb, ey, if_neg y2]
      have hf : ∃ f3, f1 = f3 + 1 := ⟨f1 - 1, by omega⟩
      obtain ⟨f3, rfl⟩ := hf
      have e1 : sp_Mo_isWord_39 w bu o (f3 + 1 + 1) 1 (nI k) = 0 := by
        show bd_Mo_isWord_39 _ _ _ _ _ _ = _
        unfold bd_Mo_isWord_39 sp_Mo_isWord_75
        simp only [lettn]
        rw [if_neg (by decide), l1, if_neg c, c1, hm, if_neg y1]
        show bd_Mo_isWord_39 _ _ _ _ _ _ = _
        unfold bd_Mo_isWord_39
        rw [if_pos rfl]
      refine ⟨?_, ?_, by rw [e1, e2], by rw [e2]; exact Or.inl rfl⟩
      · show okb_Mo_isWord_39 _ _ _ _ _ _ _
        unfold okb_Mo_isWord_39 ok_Mo_isWord_75
        simp only [lettn]
        rw [l1, c1, hm, e1k, ea]
        refine ⟨fun q => absurd q (by decide), fun _ => ⟨js_lok w hw, hw, fun q => absurd q c, fun _ => ⟨vp_nI (by omega) (by decide), js_ok hw hkl, fun q => absurd q y1, fun _ => ?_⟩⟩⟩
        show okb_Mo_isWord_39 _ _ _ _ _ _ _
        unfold okb_Mo_isWord_39
        exact ⟨fun _ => ⟨Or.inl rfl, trivial⟩, fun q => absurd rfl q⟩
      · show okb_Te_isWord_29 _ _ _ _ _ _
        unfold okb_Te_isWord_29
        simp only [lettn]
        rw [l1, c1, eb, ey, e1k]
        exact ⟨js_lok w hw, hw, fun q => absurd q c, fun _ => ⟨js_ok hw hkl, fun q => absurd q y2, fun _ => trivial⟩⟩
/-- no word stands here: the reference's way out -/
theorem word_no (w : Nat) : sp_Mo_isWord_35 w bu o = 0 ∧ ok_Mo_isWord_35 w bu o := by
  unfold sp_Mo_isWord_35 ok_Mo_isWord_35 sp_Mo_isWord_36 ok_Mo_isWord_36
  rw [big_eq]
  constructor
  · show bd_Mo_isWord_39 _ _ _ _ _ _ = _
    unfold bd_Mo_isWord_39
    rw [if_pos rfl]
  · show okb_Mo_isWord_39 _ _ _ _ _ _ _
    unfold okb_Mo_isWord_39
    exact ⟨fun _ => ⟨Or.inl rfl, trivial⟩, fun q => absurd rfl q⟩
/-- a word, on both sides -/
theorem isWord_TX (h : TX B n st t tb o bu) {w : Nat} (hw : w < 20) : ok_Mo_isWord w o bu ∧ ok_Te_isWord w t tb ∧ sp_Mo_isWord w o bu = sp_Te_isWord w t tb ∧ isB (sp_Te_isWord w t tb) ∧ (¬ sp_Te_isWord w t tb = 0 → t 5 = 0 ∧ t 2 = (97 : Int32)) := by
  obtain ⟨l1, l2, l3⟩ := js_len w hw
  obtain ⟨n1, n2⟩ := word_no (o := o) (bu := bu) w
  obtain ⟨hb, en, kk, e9, e10, e11, ht, hh⟩ := id h
  by_cases h5 : t 5 = 0
  · obtain ⟨k1, k2, k3, k4, k5⟩ := tx_kind h h5
    have h12 := (tx_good h).1.mpr h5
    have g : sp_Mo_good o = 1 := by unfold sp_Mo_good; rw [if_pos h12]
    rcases hh with hh | hh
    · obtain ⟨-, -, -, -, h3, h4, h2⟩ := hh
      have hn := hb.1
      have hle := ht.1
      have hen := ht.2.1
      by_cases q : t 2 = (97 : Int32)
      · have q1 := k3.mpr q
        have eL : o 9 - o 10 = nI (en - st) := by rw [e9, e10, nzsub _ _ (by omega) (by omega)]
        have eT : t 4 - t 3 = nI (en - st) := by rw [h4, h3, nzsub _ _ (by omega) (by omega)]
        unfold sp_Mo_isWord ok_Mo_isWord sp_Te_isWord ok_Te_isWord
        simp only [lettn]
        rw [g, if_neg (by decide), if_pos q1, if_pos q, eL, eT, l1]
        by_cases ql : nI (en - st) = nI (sLen.getD w 0)
        · have ql2 : en - st = sLen.getD w 0 := (nzinj (by omega) (by omega)).mp ql
          obtain ⟨i1, i2, i3, i4⟩ := word_loop hw hb e10 h3 (en := en) (by omega) hen (sLen.getD w 0) big big 0 (by omega) (by rw [big_eq]; omega) (by rw [big_eq]; omega)
          rw [if_pos ql, if_pos ql]
          unfold sp_Mo_isWord_36 ok_Mo_isWord_36
          exact ⟨⟨fun w => absurd w (by decide), fun _ => ⟨fun _ => ⟨js_lok w hw, hw, fun _ => i1, fun w => absurd ql w⟩, fun w => absurd q1 w⟩⟩, ⟨fun _ => ⟨js_lok w hw, hw, fun _ => i2, fun w => absurd ql w⟩, fun w => absurd q w⟩, i3, i4, fun _ => ⟨h5, q⟩⟩
        · rw [if_neg ql, if_neg ql, n1]
          exact ⟨⟨fun w => absurd w (by decide), fun _ => ⟨fun _ => ⟨js_lok w hw, hw, fun w => absurd w ql, fun _ => n2⟩, fun w => absurd q1 w⟩⟩, ⟨fun _ => ⟨js_lok w hw, hw, fun w => absurd w ql, fun _ => trivial⟩, fun w => absurd q w⟩, rfl, Or.inl rfl, fun w => absurd rfl w⟩
      · have q1 : ¬ o 11 = 1 := fun w => q (k3.mp w)
        unfold sp_Mo_isWord ok_Mo_isWord sp_Te_isWord ok_Te_isWord
        simp only [lettn]
        rw [g, if_neg (by decide), if_neg q1, if_neg q, n1]
        exact ⟨⟨fun w => absurd w (by decide), fun _ => ⟨fun w => absurd w q1, fun _ => n2⟩⟩, ⟨fun w => absurd w q, fun _ => trivial⟩, rfl, Or.inl rfl, fun w => absurd rfl w⟩
    · exact absurd h5 hh.1
  · have g : sp_Mo_good o = 0 := by unfold sp_Mo_good; rw [if_neg (fun w => h5 ((tx_good h).1.mp w))]
    have q : ¬ t 2 = (97 : Int32) := by rw [tx_err h h5]; decide
    unfold sp_Mo_isWord ok_Mo_isWord sp_Te_isWord ok_Te_isWord
    simp only [lettn]
    rw [g, if_pos rfl, if_neg q, n1]
    exact ⟨⟨fun _ => n2, fun w => absurd rfl w⟩, ⟨fun w => absurd w q, fun _ => trivial⟩, rfl, Or.inl rfl, fun w => absurd rfl w⟩
end TKD
