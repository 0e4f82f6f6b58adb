section TKC
variable {B : Nat → Nat} {n st : Nat} {t tb o bu : IV}
/-! ===== both texts at one token, or behind one error ===== -/
def TX (B : Nat → Nat) (n st : Nat) (t tb o bu : IV) : Prop := BufR B n t tb o bu ∧ ∃ en kk, o 9 = nI en ∧ o 10 = nI st ∧ o 11 = nI kk ∧ TokI B n st en kk ∧
  ((t 5 = 0 ∧ o 12 = 0 ∧ t 6 = -1 ∧ o 13 = -1 ∧ t 3 = nI st ∧ t 4 = nI en ∧ t 2 = nI (ck B n st)) ∨ (¬ t 5 = 0 ∧ o 12 = t 5 ∧ o 13 = t 6 ∧ t 2 = 1))
/-- what the text's methods leave alone in the reference -/
def FrT (o o' : IV) : Prop := ∀ k, (k < 9 ∨ 14 ≤ k) → o' k = o k
theorem frt_rf (o : IV) : FrT o o := fun _ _ => rfl
theorem frt_tr {a b c : IV} (h : FrT a b) (h2 : FrT b c) : FrT a c := fun k hk => (h2 k hk).trans (h k hk)
theorem tx_good (h : TX B n st t tb o bu) : (o 12 = 0 ↔ t 5 = 0) ∧ o 12 = t 5 ∧ o 13 = t 6 := by
  obtain ⟨-, en, kk, -, -, -, -, h | h⟩ := h
  · obtain ⟨a, b, c, d, -⟩ := h
    exact ⟨⟨fun _ => a, fun _ => b⟩, b.trans a.symm, d.trans c.symm⟩
  · obtain ⟨a, b, c, d⟩ := h
    exact ⟨by rw [b], b, c⟩
theorem tx_err (h : TX B n st t tb o bu) (h5 : ¬ t 5 = 0) : t 2 = 1 := by
  obtain ⟨-, en, kk, -, -, -, -, h | h⟩ := h
  · exact absurd h.1 h5
  · exact h.2.2.2
/-- what a token's kinds say -/
theorem tok_ck (hb : BufR B n t tb o bu) {en kk : Nat} (h : TokI B n st en kk) : (kk = 0 ∧ ck B n st = 0 ∧ st = n ∧ en = n) ∨ (kk = 1 ∧ ck B n st = 97 ∧ st < n) ∨ (kk = 2 ∧ ck B n st = 48 ∧ st < n) ∨ (kk = 3 ∧ st < n ∧ en = st + 1 ∧ ck B n st = kc (B st) ∧ ck B n st ≠ 0 ∧ ck B n st ≠ 97 ∧ ck B n st ≠ 48 ∧ ck B n st ≠ 32 ∧ ck B n st < 256) := by
  obtain ⟨h1, h2, h3⟩ := h
  unfold ck
  rcases h3 with ⟨e, q⟩ | ⟨e, q, w⟩ | ⟨e, q, w⟩ | ⟨e, q, w1, w2, w3⟩
  · exact Or.inl ⟨e, by rw [if_neg (by omega)], q, by omega⟩
  · exact Or.inr (Or.inl ⟨e, by rw [if_pos (by omega)]; exact w st (Nat.le_refl _) q, by omega⟩)
  · exact Or.inr (Or.inr (Or.inl ⟨e, by rw [if_pos (by omega)]; exact w st (Nat.le_refl _) q, by omega⟩))
  · have hs : st < n := by omega
    have k := kc_c _ (hb.2.2.2 st hs).2.1
    rw [if_pos hs]
    exact Or.inr (Or.inr (Or.inr ⟨e, hs, q, rfl, k.2.2.2.2.2.2, w1, w2, w3, k.2.2.2.2.2.1⟩))
theorem tx_kind (h : TX B n st t tb o bu) (h5 : t 5 = 0) : (o 11 = 2 ↔ t 2 = (48 : Int32)) ∧ (o 11 = 0 ↔ t 2 = 0) ∧ (o 11 = 1 ↔ t 2 = (97 : Int32)) ∧ (t 2 = 0 → st = n) ∧ (¬ t 2 = 0 → st < n) := by
  obtain ⟨hb, en, kk, -, -, e11, ht, h | h⟩ := h
  · rw [e11, h.2.2.2.2.2.2]
    have hc := tok_ck hb ht
    have c0 : ck B n st < 256 ∧ kk < 4 := by omega
    rw [show (2 : Int32) = nI 2 from rfl, show (48 : Int32) = nI 48 from rfl, show (0 : Int32) = nI 0 from rfl, show (1 : Int32) = nI 1 from rfl, show (97 : Int32) = nI 97 from rfl, nzinj (by omega) (by omega), nzinj (by omega) (by omega), nzinj (by omega) (by omega), nzinj (by omega) (by omega), nzinj (by omega) (by omega), nzinj (by omega) (by omega)]
    have hs := ht.2.1
    have hs1 := ht.1
    refine ⟨by omega, by omega, by omega, fun _ => by omega, fun _ => by omega⟩
  · exact absurd h5 h.1
/-- on to the next token -/
theorem goOn_TX (h : TX B n st t tb o bu) : ok_Te_advance t tb ∧ ok_Mo_goOn o bu ∧ ∃ st', st ≤ st' ∧ TX B n st' (sp_Te_advance t tb) tb (sp_Mo_goOn o bu) bu ∧ FrT o (sp_Mo_goOn o bu) ∧
    (t 5 = 0 → sp_Te_advance t tb 5 = 0 ∧ sp_Mo_goOn o bu = sp_Mo_scan o bu ∧ ok_Mo_scan o bu ∧ (¬ t 2 = 0 → st < st')) ∧ (¬ t 5 = 0 → sp_Te_advance t tb = t ∧ sp_Mo_goOn o bu = o ∧ st' = st) := by
  obtain ⟨hb, en, kk, e9, e10, e11, ht, hc⟩ := id h
  by_cases h5 : t 5 = 0
  · rcases hc with hc | hc
    · obtain ⟨-, h12, h6, h13, h3, h4, h2⟩ := hc
      obtain ⟨a1, a2, p, p1, p2, p3, p4, p5, p6⟩ := scan_both hb (s := en) ht.2.1 e9 h4 h5
      have g : sp_Mo_good o = 1 := by unfold sp_Mo_good; rw [if_pos h12]
      have eg : sp_Mo_goOn o bu = sp_Mo_scan o bu := by unfold sp_Mo_goOn; simp only [lettn]; rw [g, if_neg (by decide)]
      have og : ok_Mo_goOn o bu := by unfold ok_Mo_goOn; simp only [lettn]; rw [g]; exact ⟨fun w => absurd w (by decide), fun _ => ⟨a1, trivial⟩⟩
      have hk := (tx_kind h h5)
      have lt : ¬ t 2 = 0 → st < en := fun w => by
        have hs := hk.2.2.2.2 w
        rcases ht.2.2 with ⟨e, q⟩ | ⟨e, q, w⟩ | ⟨e, q, w⟩ | ⟨e, q, w1⟩ <;> omega
      refine ⟨a2, og, p, by have := ht.1; omega, ?_, ?_, fun _ => ⟨?_, eg, a1, fun w => by have := lt w; omega⟩, fun w => absurd h5 w⟩
      · rw [eg, p5, p6]
        refine ⟨buf_o (buf_t hb (by rw [un (by decide), un (by decide), un (by decide)])) (by rw [un (by decide), un (by decide), un (by decide)]), tEn B n p, tKk B n p, us, ?_, ?_, p3, Or.inl ⟨?_, ?_, ?_, ?_, ?_, us, ?_⟩⟩
        · rw [un (by decide), un (by decide), us]
        · rw [un (by decide), us]
        · rw [un (by decide), un (by decide), un (by decide)]; exact h5
        · rw [un (by decide), un (by decide), un (by decide)]; exact h12
        · rw [un (by decide), un (by decide), un (by decide)]; exact h6
        · rw [un (by decide), un (by decide), un (by decide)]; exact h13
        · rw [un (by decide), un (by decide), us]
        · rw [un (by decide), us]
      · intro k hk
        rw [eg, p5, un (by omega), un (by omega), un (by omega)]
      · rw [p6, un (by decide), un (by decide), un (by decide)]; exact h5
    · exact absurd h5 hc.1
  · have h12 : ¬ o 12 = 0 := fun w => h5 ((tx_good h).1.mp w)
    have g : sp_Mo_good o = 0 := by unfold sp_Mo_good; rw [if_neg h12]
    have eg : sp_Mo_goOn o bu = o := by unfold sp_Mo_goOn; simp only [lettn]; rw [g, if_pos rfl]
    have ea : sp_Te_advance t tb = t := by unfold sp_Te_advance; rw [if_neg h5]
    refine ⟨?_, ?_, st, Nat.le_refl _, by rw [eg, ea]; exact h, by rw [eg]; exact frt_rf o, fun w => absurd w h5, fun _ => ⟨ea, eg, rfl⟩⟩
    · unfold ok_Te_advance; exact ⟨fun w => absurd w h5, fun _ => trivial⟩
    · unfold ok_Mo_goOn; simp only [lettn]; rw [g]; exact ⟨fun _ => trivial, fun w => absurd rfl w⟩
theorem must_1 {p c : Int32} (hp : ¬ p = 0) : sp_Mo_must p c o = o := by
  unfold sp_Mo_must
  simp only [lettn]
  rw [if_neg hp, ite_self]
/-- an error, on both sides, at the token -/
theorem failAt_TX (h : TX B n st t tb o bu) {t1 : IV} (h1 : t1 1 = t 1) (h5 : t 5 = 0) (h51 : t1 5 = 0) {c : Int32} (hc : ¬ c = 0) : TX B n st (sp_Te_failAt c (nI st) t1) tb (sp_Mo_must 0 c o) bu ∧ ¬ (sp_Te_failAt c (nI st) t1) 5 = 0 ∧ FrT o (sp_Mo_must 0 c o) := by
  have h12 := (tx_good h).1.mpr h5
  obtain ⟨hb, en, kk, e9, e10, e11, ht, -⟩ := h
  have g : sp_Mo_good o = 1 := by unfold sp_Mo_good; rw [if_pos h12]
  have em : sp_Mo_must 0 c o = upd (upd o 12 c) 13 (nI st) := by
    unfold sp_Mo_must
    simp only [lettn]
    rw [g, if_neg (by decide), if_pos trivial, un (by decide), e10]
  have ef : sp_Te_failAt c (nI st) t1 = upd (upd (upd t1 5 c) 6 (nI st)) 2 1 := by
    unfold sp_Te_failAt
    simp only [lettn]
    rw [if_pos h51]
  rw [em, ef]
  refine ⟨⟨buf_o (buf_t hb (by rw [un (by decide), un (by decide), un (by decide)]; exact h1)) (by rw [un (by decide), un (by decide)]), en, kk, ?_, ?_, ?_, ht, Or.inr ⟨?_, ?_, ?_, us⟩⟩, ?_, fun k hk => by rw [un (by omega), un (by omega)]⟩
  · rw [un (by decide), un (by decide)]; exact e9
  · rw [un (by decide), un (by decide)]; exact e10
  · rw [un (by decide), un (by decide)]; exact e11
  · rw [un (by decide), un (by decide), us]; exact hc
  · rw [un (by decide), us, un (by decide), un (by decide), us]
  · rw [us, un (by decide), us]
  · rw [un (by decide), un (by decide), us]; exact hc
theorem fail_TX (h : TX B n st t tb o bu) {c : Int32} (hc : ¬ c = 0) : TX B n st (sp_Te_fail c t) tb (sp_Mo_must 0 c o) bu ∧ ¬ (sp_Te_fail c t) 5 = 0 ∧ FrT o (sp_Mo_must 0 c o) ∧ (¬ t 5 = 0 → sp_Te_fail c t = t ∧ sp_Mo_must 0 c o = o) := by
  by_cases h5 : t 5 = 0
  · have h3 : t 3 = nI st := by
      obtain ⟨-, en, kk, -, -, -, -, q | q⟩ := id h
      · exact q.2.2.2.2.1
      · exact absurd h5 q.1
    have e : sp_Te_fail c t = sp_Te_failAt c (nI st) t := by unfold sp_Te_fail; simp only [lettn]; rw [h3]
    rw [e]
    obtain ⟨a, b, d⟩ := failAt_TX h rfl h5 h5 hc
    exact ⟨a, b, d, fun w => absurd h5 w⟩
  · have h12 : ¬ o 12 = 0 := fun w => h5 ((tx_good h).1.mp w)
    have g : sp_Mo_good o = 0 := by unfold sp_Mo_good; rw [if_neg h12]
    have em : sp_Mo_must 0 c o = o := by unfold sp_Mo_must; simp only [lettn]; rw [g, if_pos rfl]
    have ef : sp_Te_fail c t = t := by unfold sp_Te_fail sp_Te_failAt; simp only [lettn]; rw [if_neg h5]
    rw [em, ef]
    exact ⟨h, h5, frt_rf o, fun _ => ⟨rfl, rfl⟩⟩
/-- a sign that may stand here -/
theorem isSign_TX (h : TX B n st t tb o bu) {c : Nat} (hc : c = 59 ∨ c = 40 ∨ c = 41 ∨ c = 45) : ok_Mo_isSign (nI c) o ∧ (sp_Mo_isSign (nI c) o bu = 0 ↔ ¬ t 2 = nI c) ∧ isB (sp_Mo_isSign (nI c) o bu) ∧ (t 2 = nI c → t 5 = 0) := by
  obtain ⟨hb, en, kk, e9, e10, e11, ht, hh⟩ := id h
  unfold sp_Mo_isSign ok_Mo_isSign sp_Mo_isSign_32
  simp only [lettn]
  rcases hh with ⟨h5, h12, -, -, -, -, h2⟩ | ⟨h5, h12, -, h2⟩
  · have g : sp_Mo_good o = 1 := by unfold sp_Mo_good; rw [if_pos h12]
    rw [g, if_neg (by decide), h2]
    rcases tok_ck hb ht with q | q | q | q
    · have n3 : ¬ o 11 = 3 := by rw [e11, show (3 : Int32) = nI 3 from rfl, nzinj (by omega) (by omega)]; omega
      rw [if_neg n3]
      exact ⟨⟨fun w => absurd w (by decide), fun _ => ⟨fun w => absurd w n3, fun _ => trivial⟩⟩, ⟨fun _ => by rw [nzinj (by omega) (by omega)]; omega, fun _ => rfl⟩, Or.inl rfl, fun _ => h5⟩
    · have n3 : ¬ o 11 = 3 := by rw [e11, show (3 : Int32) = nI 3 from rfl, nzinj (by omega) (by omega)]; omega
      rw [if_neg n3]
      exact ⟨⟨fun w => absurd w (by decide), fun _ => ⟨fun w => absurd w n3, fun _ => trivial⟩⟩, ⟨fun _ => by rw [nzinj (by omega) (by omega)]; omega, fun _ => rfl⟩, Or.inl rfl, fun _ => h5⟩
    · have n3 : ¬ o 11 = 3 := by rw [e11, show (3 : Int32) = nI 3 from rfl, nzinj (by omega) (by omega)]; omega
      rw [if_neg n3]
      exact ⟨⟨fun w => absurd w (by decide), fun _ => ⟨fun w => absurd w n3, fun _ => trivial⟩⟩, ⟨fun _ => by rw [nzinj (by omega) (by omega)]; omega, fun _ => rfl⟩, Or.inl rfl, fun _ => h5⟩
    · obtain ⟨qk, qs, qe, qc, -, -, -, -, ql⟩ := q
      have y3 : o 11 = 3 := by rw [e11, qk]; rfl
      have hn := hb.1
      rw [if_pos y3, e10, cl_nI (by omega)]
      obtain ⟨-, b2, b3, -⟩ := hb.2.2.2 st qs
      obtain ⟨k1, k2, k3, k4⟩ := kc_s _ b2
      have key : nI (B st) = nI c ↔ nI (ck B n st) = nI c := by
        rw [nzinj (a := ck B n st) (by omega) (by omega), qc]
        rcases hc with e | e | e | e
        · subst e; exact k1
        · subst e; exact k2
        · subst e; exact k3
        · subst e; exact k4
      rw [b3]
      by_cases q : nI (B st) = nI c
      · rw [if_pos q]
        exact ⟨⟨fun w => absurd w (by decide), fun _ => ⟨fun _ => ⟨vp_nI (by omega) (by decide), trivial⟩, fun w => absurd y3 w⟩⟩, ⟨fun w => absurd w (by decide), fun w => absurd (key.mp q) w⟩, Or.inr rfl, fun _ => h5⟩
      · rw [if_neg q]
        exact ⟨⟨fun w => absurd w (by decide), fun _ => ⟨fun _ => ⟨vp_nI (by omega) (by decide), trivial⟩, fun w => absurd y3 w⟩⟩, ⟨fun _ w => q (key.mpr w), fun _ => rfl⟩, Or.inl rfl, fun _ => h5⟩
  · have g : sp_Mo_good o = 0 := by unfold sp_Mo_good; rw [if_neg (by rw [h12]; exact h5)]
    have n1 : ¬ (1 : Int32) = nI c := by rcases hc with e | e | e | e <;> (subst e; decide)
    rw [g, if_pos rfl, h2]
    exact ⟨⟨fun _ => trivial, fun w => absurd rfl w⟩, ⟨fun _ => n1, fun _ => rfl⟩, Or.inl rfl, fun w => absurd w n1⟩
/-- a sign that must stand here -/
theorem sign_TX (h : TX B n st t tb o bu) {c : Nat} (hc : c = 59 ∨ c = 40 ∨ c = 41 ∨ c = 45) : ok_Te_takeSign (nI c) t tb ∧ ok_Mo_sign (nI c) o bu ∧ ∃ st', st ≤ st' ∧ TX B n st' (sp_Te_takeSign (nI c) t tb) tb (sp_Mo_sign (nI c) o bu) bu ∧ FrT o (sp_Mo_sign (nI c) o bu) ∧ (sp_Te_takeSign (nI c) t tb 5 = 0 → t 5 = 0 ∧ t 2 = nI c ∧ st < st') := by
  obtain ⟨s1, s2, s3, s4⟩ := isSign_TX h hc
  have cne : ¬ nI c = 0 := by rcases hc with e | e | e | e <;> (subst e; decide)
  unfold sp_Te_takeSign ok_Te_takeSign sp_Te_takeSign_13 ok_Te_takeSign_13 sp_Mo_sign ok_Mo_sign
  simp only [lettn]
  by_cases q : t 2 = nI c
  · have ns : ¬ sp_Mo_isSign (nI c) o bu = 0 := fun w => (s2.mp w) q
    rw [if_pos q, must_1 ns]
    obtain ⟨g1, g2, st', g3, g4, g5, g6, g7⟩ := goOn_TX h
    have h5 := s4 q
    exact ⟨⟨fun _ => ⟨g1, trivial⟩, fun w => absurd q w⟩, ⟨s1, g2, trivial⟩, st', g3, g4, g5, fun _ => ⟨h5, q, (g6 h5).2.2.2 (by rw [q]; exact cne)⟩⟩
  · have ns : sp_Mo_isSign (nI c) o bu = 0 := s2.mpr q
    rw [if_neg q, ns]
    obtain ⟨f1, f2, f3, -⟩ := fail_TX h (c := 1) (by decide)
    obtain ⟨g1, g2, st', g3, g4, g5, g6, g7⟩ := goOn_TX f1
    obtain ⟨e1, e2, e3⟩ := g7 f2
    exact ⟨⟨fun w => absurd w q, fun _ => ⟨g1, trivial⟩⟩, ⟨s1, g2, trivial⟩, st', g3, g4, frt_tr f3 g5, fun w => absurd (by rw [e1] at w; exact w) f2⟩
end TKC
