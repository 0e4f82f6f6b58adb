section TKA
/-! ===== tokens: the two scanners ===== -/
/-- a byte as the class keeps it -/
def sb (b : Nat) : Int32 := Int32.ofInt (if b < 128 then (b : Int) else (b : Int) - 256)
/-- the class of a byte: a letter, a digit, a blank, a sign, any other -/
def kc (b : Nat) : Nat := if 97 ≤ b ∧ b ≤ 122 then 97 else if 48 ≤ b ∧ b ≤ 57 then 48 else if b = 32 ∨ b = 10 then 32 else if b = 59 ∨ b = 40 ∨ b = 41 ∨ b = 45 then b else 1
theorem kc_c : ∀ b, b < 256 → sp_Te_kindAt_23 (sb b) = nI (kc b) ∧ (sp_Mo_isLetter (nI b) = 0 ↔ ¬ kc b = 97) ∧ (sp_Mo_isDigit (nI b) = 0 ↔ ¬ kc b = 48) ∧ ((nI b = (32 : Int32) ∨ nI b = (10 : Int32)) ↔ kc b = 32) ∧ ¬ nI b = (-1 : Int32) ∧ kc b < 256 ∧ kc b ≠ 0 := by decide +kernel
theorem kc_s : ∀ b, b < 256 → (nI b = (59 : Int32) ↔ kc b = 59) ∧ (nI b = (40 : Int32) ↔ kc b = 40) ∧ (nI b = (41 : Int32) ↔ kc b = 41) ∧ (nI b = (45 : Int32) ↔ kc b = 45) := by decide +kernel
/-- both buffers hold the bytes B -/
def BufR (B : Nat → Nat) (n : Nat) (t tb o bu : IV) : Prop := n ≤ 600 ∧ o 8 = nI n ∧ t 1 = nI n ∧ ∀ k, k < n → 1 ≤ B k ∧ B k < 256 ∧ bu k = nI (B k) ∧ tb k = sb (B k)
variable {B : Nat → Nat} {n : Nat} {t tb o bu : IV}
theorem kindAt_B (h : BufR B n t tb o bu) {k : Nat} (hk : k < n) : sp_Te_kindAt (nI k) tb = nI (kc (B k)) := by
  obtain ⟨h1, -, -, h4⟩ := h
  obtain ⟨-, b2, -, b4⟩ := h4 k hk
  unfold sp_Te_kindAt
  rw [if_neg (by rw [show (0 : Int32) = nI 0 from rfl, nzlt (by omega) (by omega)]; omega), if_neg (by rw [show (600 : Int32) = nI 600 from rfl, nzle (by omega) (by omega)]; omega), cl_nI (by omega), b4]
  exact (kc_c _ b2).1
theorem byteAt_B (h8 : o 8 = nI n) (hn : n ≤ 600) {k : Nat} (hk : k ≤ n) : sp_Mo_byteAt (nI k) o bu = (if k < n then bu k else -1) ∧ ok_Mo_byteAt (nI k) o := by
  unfold sp_Mo_byteAt ok_Mo_byteAt
  rw [h8]
  by_cases q : k < n
  · have c : ¬ nI n ≤ nI k := by rw [nzle (by omega) (by omega)]; omega
    rw [if_neg c, if_pos q, cl_nI (by omega)]
    exact ⟨rfl, fun w => absurd w c, fun _ => ⟨vp_nI (by omega) (by decide), trivial⟩⟩
  · have c : nI n ≤ nI k := by rw [nzle (by omega) (by omega)]; omega
    rw [if_pos c, if_neg q]
    exact ⟨rfl, fun _ => trivial, fun w => absurd c w⟩
/-- a run of bytes of one class -/
def rnF (B : Nat → Nat) (c : Nat) : Nat → Nat → Nat
  | 0, s => s
  | m + 1, s => if kc (B s) = c then rnF B c m (s + 1) else s
theorem rnF_p (B : Nat → Nat) (c : Nat) : ∀ (m s : Nat), s ≤ rnF B c m s ∧ rnF B c m s ≤ s + m ∧ (∀ k, s ≤ k → k < rnF B c m s → kc (B k) = c) ∧ (rnF B c m s < s + m → ¬ kc (B (rnF B c m s)) = c)
  | 0, s => ⟨Nat.le_refl _, Nat.le_refl _, fun k h1 h2 => absurd h2 (by show ¬ k < s; omega), fun h => absurd h (by show ¬ s < s + 0; omega)⟩
  | m + 1, s => by
    show s ≤ (if kc (B s) = c then rnF B c m (s + 1) else s) ∧ (if kc (B s) = c then rnF B c m (s + 1) else s) ≤ s + (m + 1) ∧ (∀ k, s ≤ k → k < (if kc (B s) = c then rnF B c m (s + 1) else s) → kc (B k) = c) ∧ ((if kc (B s) = c then rnF B c m (s + 1) else s) < s + (m + 1) → ¬ kc (B (if kc (B s) = c then rnF B c m (s + 1) else s)) = c)
    by_cases q : kc (B s) = c
    · rw [if_pos q]
      obtain ⟨h1, h2, h3, h4⟩ := rnF_p B c m (s + 1)
      refine ⟨by omega, by omega, fun k k1 k2 => ?_, fun w => h4 (by omega)⟩
      by_cases e : k = s
      · rw [e]; exact q
      · exact h3 k (by omega) k2
    · rw [if_neg q]
      exact ⟨by omega, by omega, fun k k1 k2 => absurd k2 (by omega), fun _ => q⟩
theorem upd2 {f : Nat → Int32} {k : Nat} {x y : Int32} : upd (upd f k x) k y = upd f k y := by
  funext j
  by_cases q : j = k
  · rw [q, us, us]
  · rw [un q, un q, un q]
theorem upd_at {f : Nat → Int32} {k : Nat} {x : Int32} (h : f k = x) : upd f k x = f := by rw [← h]; exact upd_id
/-- blanks are passed over: the reference -/
theorem m_blank : ∀ (m f s : Nat) (o : IV), s + m = n → m < f → n ≤ 600 → o 8 = nI n → o 9 = nI s → (∀ k, k < n → B k < 256 ∧ bu k = nI (B k)) → sp_Mo_scan_0 bu f o = sp_Mo_scan_39 (upd o 9 (nI (rnF B 32 m s))) bu ∧ (ok_Mo_scan_39 (upd o 9 (nI (rnF B 32 m s))) bu → ok_Mo_scan_0 bu f o)
  | m, 0, _, _, _, hf, _, _, _, _ => absurd hf (by omega)
  | 0, f + 1, s, o, hs, _, hn, h8, h9, hb => by
    obtain ⟨e1, e2⟩ := byteAt_B (o := o) (bu := bu) h8 hn (k := s) (by omega)
    rw [if_neg (by omega)] at e1
    have eu : upd o 9 (nI (rnF B 32 0 s)) = o := upd_at h9
    rw [eu]
    refine ⟨?_, fun ho => ?_⟩
    · show bd_Mo_scan_0 _ _ _ = _
      unfold bd_Mo_scan_0
      simp only [lettn]
      rw [h9, e1, if_neg (by decide), if_neg (by decide)]
    · show okb_Mo_scan_0 _ _ _ _
      unfold okb_Mo_scan_0
      simp only [lettn]
      rw [h9, e1]
      exact ⟨e2, fun w => absurd w (by decide), fun _ => ⟨fun w => absurd w (by decide), fun _ => ho⟩⟩
  | m + 1, f + 1, s, o, hs, hf, hn, h8, h9, hb => by
    obtain ⟨e1, e2⟩ := byteAt_B (o := o) (bu := bu) h8 hn (k := s) (by omega)
    rw [if_pos (by omega)] at e1
    obtain ⟨b1, b2⟩ := hb s (by omega)
    rw [b2] at e1
    have kb := (kc_c _ b1).2.2.2.1
    have er : rnF B 32 (m + 1) s = if kc (B s) = 32 then rnF B 32 m (s + 1) else s := rfl
    by_cases q : kc (B s) = 32
    · rw [if_pos q] at er
      rw [er]
      obtain ⟨i1, i2⟩ := m_blank m f (s + 1) (upd o 9 (nI (s + 1))) (by omega) (by omega) hn (by rw [un (by decide)]; exact h8) us hb
      rw [upd2] at i1 i2
      have ea : upd o 9 (o 9 + (1 : Int32)) = upd o 9 (nI (s + 1)) := by rw [h9, nzadd1 s (by omega)]
      refine ⟨?_, fun ho => ?_⟩
      · show bd_Mo_scan_0 _ _ _ = _
        unfold bd_Mo_scan_0 sp_Mo_scan_26
        simp only [lettn]
        rw [ea, h9, e1]
        rcases kb.mpr q with c | c
        · rw [if_pos c]; exact i1
        · rw [if_neg (by rw [c]; decide), if_pos c]; exact i1
      · show okb_Mo_scan_0 _ _ _ _
        unfold okb_Mo_scan_0 ok_Mo_scan_26
        simp only [lettn]
        rw [ea, h9, e1]
        exact ⟨e2, fun _ => i2 ho, fun w1 => ⟨fun _ => i2 ho, fun w2 => by
          rcases kb.mpr q with c | c
          · exact absurd c w1
          · exact absurd c w2⟩⟩
    · rw [if_neg q] at er
      rw [er]
      have eu : upd o 9 (nI s) = o := upd_at h9
      rw [eu]
      have n1 : ¬ nI (B s) = (32 : Int32) := fun w => q (kb.mp (Or.inl w))
      have n2 : ¬ nI (B s) = (10 : Int32) := fun w => q (kb.mp (Or.inr w))
      refine ⟨?_, fun ho => ?_⟩
      · show bd_Mo_scan_0 _ _ _ = _
        unfold bd_Mo_scan_0
        simp only [lettn]
        rw [h9, e1, if_neg n1, if_neg n2]
      · show okb_Mo_scan_0 _ _ _ _
        unfold okb_Mo_scan_0
        simp only [lettn]
        rw [h9, e1]
        exact ⟨e2, fun w => absurd w n1, fun _ => ⟨fun w => absurd w n2, fun _ => ho⟩⟩
/-- .. the class -/
theorem c_blank (h : BufR B n t tb o bu) : ∀ (m f s : Nat), s + m = n → m < f → sp_Te_advance_13 t tb f (nI s) = sp_Te_advance_37 t (nI (rnF B 32 m s)) tb ∧ (ok_Te_advance_37 t (nI (rnF B 32 m s)) tb → ok_Te_advance_13 t tb f (nI s))
  | m, 0, _, _, hf => absurd hf (by omega)
  | 0, f + 1, s, hs, _ => by
    have c : t 1 ≤ nI s := by rw [h.2.2.1, nzle (by have := h.1; omega) (by have := h.1; omega)]; omega
    refine ⟨?_, fun ho => ?_⟩
    · show bd_Te_advance_13 _ _ _ _ = _
      unfold bd_Te_advance_13
      rw [if_pos c]; rfl
    · show okb_Te_advance_13 _ _ _ _ _
      unfold okb_Te_advance_13
      exact ⟨fun _ => ho, fun w => absurd c w⟩
  | m + 1, f + 1, s, hs, hf => by
    have hn := h.1
    have c : ¬ t 1 ≤ nI s := by rw [h.2.2.1, nzle (by omega) (by omega)]; omega
    have ek := kindAt_B h (k := s) (by omega)
    have b2 := (h.2.2.2 s (by omega)).2.1
    have kl := (kc_c _ b2).2.2.2.2.2.1
    have er : rnF B 32 (m + 1) s = if kc (B s) = 32 then rnF B 32 m (s + 1) else s := rfl
    obtain ⟨i1, i2⟩ := c_blank h m f (s + 1) (by omega) (by omega)
    by_cases q : kc (B s) = 32
    · rw [if_pos q] at er
      rw [er]
      have c2 : nI (kc (B s)) = (32 : Int32) := by rw [q]; rfl
      refine ⟨?_, fun ho => ?_⟩
      · show bd_Te_advance_13 _ _ _ _ = _
        unfold bd_Te_advance_13
        simp only [lettn]
        rw [if_neg c, ek, if_pos c2, nzadd1 s (by omega)]
        exact i1
      · show okb_Te_advance_13 _ _ _ _ _
        unfold okb_Te_advance_13
        simp only [lettn]
        rw [ek, nzadd1 s (by omega)]
        exact ⟨fun w => absurd w c, fun _ => ⟨fun _ => i2 ho, fun w => absurd c2 w⟩⟩
    · rw [if_neg q] at er
      rw [er]
      have c2 : ¬ nI (kc (B s)) = (32 : Int32) := by rw [show (32 : Int32) = nI 32 from rfl, nzinj (by omega) (by omega)]; exact q
      refine ⟨?_, fun ho => ?_⟩
      · show bd_Te_advance_13 _ _ _ _ = _
        unfold bd_Te_advance_13
        simp only [lettn]
        rw [if_neg c, ek, if_neg c2]
      · show okb_Te_advance_13 _ _ _ _ _
        unfold okb_Te_advance_13
        simp only [lettn]
        rw [ek]
        exact ⟨fun w => absurd w c, fun _ => ⟨fun w => absurd w c2, fun _ => ho⟩⟩
/-- a run of letters: the reference -/
theorem m_letters : ∀ (m f s : Nat) (o : IV), s + m = n → m < f → n ≤ 600 → o 8 = nI n → o 9 = nI s → o 11 = 1 → (∀ k, k < n → B k < 256 ∧ bu k = nI (B k)) → sp_Mo_scan_92 bu f o = sp_Mo_scan_127 bu big (upd o 9 (nI (rnF B 97 m s))) ∧ (ok_Mo_scan_127 bu big (upd o 9 (nI (rnF B 97 m s))) → ok_Mo_scan_92 bu f o)
  | m, 0, _, _, _, hf, _, _, _, _, _ => absurd hf (by omega)
  | 0, f + 1, s, o, hs, _, hn, h8, h9, h11, hb => by
    obtain ⟨e1, e2⟩ := byteAt_B (o := o) (bu := bu) h8 hn (k := s) (by omega)
    rw [if_neg (by omega)] at e1
    have eu : upd o 9 (nI (rnF B 97 0 s)) = o := upd_at h9
    rw [eu]
    refine ⟨?_, fun ho => ?_⟩
    · show bd_Mo_scan_92 _ _ _ = _
      unfold bd_Mo_scan_92
      simp only [lettn]
      rw [if_pos h11, h9, e1, if_pos (by decide +kernel)]
    · show okb_Mo_scan_92 _ _ _ _
      unfold okb_Mo_scan_92
      simp only [lettn]
      rw [h9, e1]
      exact ⟨fun _ => ⟨e2, fun _ => ho, fun w => absurd (by decide +kernel) w⟩, fun w => absurd h11 w⟩
  | m + 1, f + 1, s, o, hs, hf, hn, h8, h9, h11, hb => by
    obtain ⟨e1, e2⟩ := byteAt_B (o := o) (bu := bu) h8 hn (k := s) (by omega)
    rw [if_pos (by omega)] at e1
    obtain ⟨b1, b2⟩ := hb s (by omega)
    rw [b2] at e1
    have kb := (kc_c _ b1).2.1
    have er : rnF B 97 (m + 1) s = if kc (B s) = 97 then rnF B 97 m (s + 1) else s := rfl
    by_cases q : kc (B s) = 97
    · rw [if_pos q] at er
      rw [er]
      obtain ⟨i1, i2⟩ := m_letters m f (s + 1) (upd o 9 (nI (s + 1))) (by omega) (by omega) hn (by rw [un (by decide)]; exact h8) us (by rw [un (by decide)]; exact h11) hb
      rw [upd2] at i1 i2
      have ea : upd o 9 (o 9 + (1 : Int32)) = upd o 9 (nI (s + 1)) := by rw [h9, nzadd1 s (by omega)]
      have nk : ¬ sp_Mo_isLetter (nI (B s)) = 0 := fun w => kb.mp w q
      refine ⟨?_, fun ho => ?_⟩
      · show bd_Mo_scan_92 _ _ _ = _
        unfold bd_Mo_scan_92
        simp only [lettn]
        rw [if_pos h11, ea, h9, e1, if_neg nk]; exact i1
      · show okb_Mo_scan_92 _ _ _ _
        unfold okb_Mo_scan_92
        simp only [lettn]
        rw [ea, h9, e1]
        exact ⟨fun _ => ⟨e2, fun w => absurd w nk, fun _ => i2 ho⟩, fun w => absurd h11 w⟩
    · rw [if_neg q] at er
      rw [er]
      have eu : upd o 9 (nI s) = o := upd_at h9
      rw [eu]
      have nk : sp_Mo_isLetter (nI (B s)) = 0 := kb.mpr q
      refine ⟨?_, fun ho => ?_⟩
      · show bd_Mo_scan_92 _ _ _ = _
        unfold bd_Mo_scan_92
        simp only [lettn]
        rw [if_pos h11, h9, e1, if_pos nk]
      · show okb_Mo_scan_92 _ _ _ _
        unfold okb_Mo_scan_92
        simp only [lettn]
        rw [h9, e1]
        exact ⟨fun _ => ⟨e2, fun _ => ho, fun w => absurd nk w⟩, fun w => absurd h11 w⟩
/-- a run of digits: the reference -/
theorem m_digits : ∀ (m f s : Nat) (o : IV), s + m = n → m < f → n ≤ 600 → o 8 = nI n → o 9 = nI s → o 11 = 2 → (∀ k, k < n → B k < 256 ∧ bu k = nI (B k)) → sp_Mo_scan_127 bu f o = sp_Mo_scan_162 (upd o 9 (nI (rnF B 48 m s))) ∧ ok_Mo_scan_127 bu f o
  | m, 0, _, _, _, hf, _, _, _, _, _ => absurd hf (by omega)
  | 0, f + 1, s, o, hs, _, hn, h8, h9, h11, hb => by
    obtain ⟨e1, e2⟩ := byteAt_B (o := o) (bu := bu) h8 hn (k := s) (by omega)
    rw [if_neg (by omega)] at e1
    have eu : upd o 9 (nI (rnF B 48 0 s)) = o := upd_at h9
    rw [eu]
    refine ⟨?_, ?_⟩
    · show bd_Mo_scan_127 _ _ _ = _
      unfold bd_Mo_scan_127
      simp only [lettn]
      rw [if_pos h11, h9, e1, if_pos (by decide +kernel)]
    · show okb_Mo_scan_127 _ _ _ _
      unfold okb_Mo_scan_127
      simp only [lettn]
      rw [h9, e1]
      exact ⟨fun _ => ⟨e2, fun _ => trivial, fun w => absurd (by decide +kernel) w⟩, fun w => absurd h11 w⟩
  | m + 1, f + 1, s, o, hs, hf, hn, h8, h9, h11, hb => by
    obtain ⟨e1, e2⟩ := byteAt_B (o := o) (bu := bu) h8 hn (k := s) (by omega)
    rw [if_pos (by omega)] at e1
    obtain ⟨b1, b2⟩ := hb s (by omega)
    rw [b2] at e1
    have kb := (kc_c _ b1).2.2.1
    have er : rnF B 48 (m + 1) s = if kc (B s) = 48 then rnF B 48 m (s + 1) else s := rfl
    by_cases q : kc (B s) = 48
    · rw [if_pos q] at er
      rw [er]
      obtain ⟨i1, i2⟩ := m_digits m f (s + 1) (upd o 9 (nI (s + 1))) (by omega) (by omega) hn (by rw [un (by decide)]; exact h8) us (by rw [un (by decide)]; exact h11) hb
      rw [upd2] at i1
      have ea : upd o 9 (o 9 + (1 : Int32)) = upd o 9 (nI (s + 1)) := by rw [h9, nzadd1 s (by omega)]
      have nk : ¬ sp_Mo_isDigit (nI (B s)) = 0 := fun w => kb.mp w q
      refine ⟨?_, ?_⟩
      · show bd_Mo_scan_127 _ _ _ = _
        unfold bd_Mo_scan_127
        simp only [lettn]
        rw [if_pos h11, ea, h9, e1, if_neg nk]; exact i1
      · show okb_Mo_scan_127 _ _ _ _
        unfold okb_Mo_scan_127
        simp only [lettn]
        rw [ea, h9, e1]
        exact ⟨fun _ => ⟨e2, fun w => absurd w nk, fun _ => i2⟩, fun w => absurd h11 w⟩
    · rw [if_neg q] at er
      rw [er]
      have eu : upd o 9 (nI s) = o := upd_at h9
      rw [eu]
      have nk : sp_Mo_isDigit (nI (B s)) = 0 := kb.mpr q
      refine ⟨?_, ?_⟩
      · show bd_Mo_scan_127 _ _ _ = _
        unfold bd_Mo_scan_127
        simp only [lettn]
        rw [if_pos h11, h9, e1, if_pos nk]
      · show okb_Mo_scan_127 _ _ _ _
        unfold okb_Mo_scan_127
        simp only [lettn]
        rw [h9, e1]
        exact ⟨fun _ => ⟨e2, fun _ => trivial, fun w => absurd nk w⟩, fun w => absurd h11 w⟩
/-- a run of one kind: the class -/
theorem c_run {c : Nat} (hc : c = 97 ∨ c = 48) (h : BufR B n t tb o bu) (h2 : t 2 = nI c) : ∀ (m f s : Nat), s + m = n → m < f → sp_Te_advance_74 t tb f (nI s) = upd t 4 (nI (rnF B c m s)) ∧ ok_Te_advance_74 t tb f (nI s)
  | m, 0, _, _, hf => absurd hf (by omega)
  | 0, f + 1, s, hs, _ => by
    have q : t 1 ≤ nI s := by rw [h.2.2.1, nzle (by have := h.1; omega) (by have := h.1; omega)]; omega
    refine ⟨?_, ?_⟩
    · show bd_Te_advance_74 _ _ _ _ = _
      unfold bd_Te_advance_74 sp_Te_advance_118
      rw [if_pos q]; rfl
    · show okb_Te_advance_74 _ _ _ _ _
      unfold okb_Te_advance_74
      exact ⟨fun _ => trivial, fun w => absurd q w⟩
  | m + 1, f + 1, s, hs, hf => by
    have hn := h.1
    have q0 : ¬ t 1 ≤ nI s := by rw [h.2.2.1, nzle (by omega) (by omega)]; omega
    have ek := kindAt_B h (k := s) (by omega)
    have b2 := (h.2.2.2 s (by omega)).2.1
    have kl := (kc_c _ b2).2.2.2.2.2.1
    have er : rnF B c (m + 1) s = if kc (B s) = c then rnF B c m (s + 1) else s := rfl
    obtain ⟨i1, i2⟩ := c_run hc h h2 m f (s + 1) (by omega) (by omega)
    have key : sp_Te_advance_100 (nI s) tb t (sp_Te_advance_74 t tb f) = upd t 4 (nI (rnF B c (m + 1) s)) ∧ ok_Te_advance_100 (nI s) tb t (sp_Te_advance_74 t tb f) (ok_Te_advance_74 t tb f) := by
      unfold sp_Te_advance_100 ok_Te_advance_100 sp_Te_advance_118
      simp only [lettn]
      rw [ek, h2, nzadd1 s (by omega), er]
      by_cases q : kc (B s) = c
      · rw [if_pos (by rw [q]), if_pos q]
        exact ⟨i1, fun _ => i2, fun w => absurd (by rw [q]) w⟩
      · have nq : ¬ nI (kc (B s)) = nI c := by rw [nzinj (by omega) (by omega)]; exact q
        rw [if_neg nq, if_neg q]
        exact ⟨rfl, fun w => absurd w nq, fun _ => trivial⟩
    have two : t 2 = (97 : Int32) ∨ (¬ t 2 = (97 : Int32) ∧ t 2 = (48 : Int32)) := by
      rw [h2]
      rcases hc with e | e
      · subst e; exact Or.inl rfl
      · subst e; exact Or.inr ⟨by decide, rfl⟩
    refine ⟨?_, ?_⟩
    · show bd_Te_advance_74 _ _ _ _ = _
      unfold bd_Te_advance_74
      rw [if_neg q0]
      rcases two with w | ⟨w1, w2⟩
      · rw [if_pos w]; exact key.1
      · rw [if_neg w1, if_pos w2]; exact key.1
    · show okb_Te_advance_74 _ _ _ _ _
      unfold okb_Te_advance_74
      refine ⟨fun w => absurd w q0, fun _ => ⟨fun _ => key.2, fun w1 => ⟨fun _ => key.2, fun w2 => ?_⟩⟩⟩
      rcases two with w | ⟨-, w⟩
      · exact absurd w w1
      · exact absurd w w2
end TKA
