section TKB
variable {B : Nat → Nat} {n : Nat} {t tb o bu : IV}
/-! ===== a token, on both sides ===== -/
def TokI (B : Nat → Nat) (n st en kk : Nat) : Prop := st ≤ en ∧ en ≤ n ∧ ((kk = 0 ∧ st = n) ∨ (kk = 1 ∧ st < en ∧ ∀ k, st ≤ k → k < en → kc (B k) = 97) ∨ (kk = 2 ∧ st < en ∧ ∀ k, st ≤ k → k < en → kc (B k) = 48) ∨ (kk = 3 ∧ en = st + 1 ∧ kc (B st) ≠ 97 ∧ kc (B st) ≠ 48 ∧ kc (B st) ≠ 32))
def tKk (B : Nat → Nat) (n p : Nat) : Nat := if p < n then (if kc (B p) = 97 then 1 else if kc (B p) = 48 then 2 else 3) else 0
def tEn (B : Nat → Nat) (n p : Nat) : Nat := if p < n then (if kc (B p) = 97 then rnF B 97 (n - p) p else if kc (B p) = 48 then rnF B 48 (n - p) p else p + 1) else n
/-- the class's kind of the token at a place -/
def ck (B : Nat → Nat) (n p : Nat) : Nat := if p < n then kc (B p) else 0
theorem rnF_1 {c m p : Nat} (h : kc (B p) = c) (hm : 0 < m) : rnF B c m p = rnF B c (m - 1) (p + 1) := by
  cases m with
  | zero => omega
  | succ m => show (if kc (B p) = c then rnF B c m (p + 1) else p) = _; rw [if_pos h]; rfl
theorem tok_I {p : Nat} (hp : p ≤ n) (hb : p < n → ¬ kc (B p) = 32) : TokI B n p (tEn B n p) (tKk B n p) ∧ (p < n → p < tEn B n p) := by
  unfold TokI tEn tKk
  by_cases h0 : p < n
  · rw [if_pos h0, if_pos h0]
    by_cases h1 : kc (B p) = 97
    · rw [if_pos h1, if_pos h1]
      have e := rnF_1 (m := n - p) h1 (by omega)
      obtain ⟨a1, a2, a3, a4⟩ := rnF_p B 97 (n - p) p
      obtain ⟨b1, -, -, -⟩ := rnF_p B 97 (n - p - 1) (p + 1)
      rw [← e] at b1
      exact ⟨⟨a1, by omega, Or.inr (Or.inl ⟨rfl, by omega, a3⟩)⟩, fun _ => by omega⟩
    · rw [if_neg h1, if_neg h1]
      by_cases h2 : kc (B p) = 48
      · rw [if_pos h2, if_pos h2]
        have e := rnF_1 (m := n - p) h2 (by omega)
        obtain ⟨a1, a2, a3, a4⟩ := rnF_p B 48 (n - p) p
        obtain ⟨b1, -, -, -⟩ := rnF_p B 48 (n - p - 1) (p + 1)
        rw [← e] at b1
        exact ⟨⟨a1, by omega, Or.inr (Or.inr (Or.inl ⟨rfl, by omega, a3⟩))⟩, fun _ => by omega⟩
      · rw [if_neg h2, if_neg h2]
        exact ⟨⟨by omega, by omega, Or.inr (Or.inr (Or.inr ⟨rfl, rfl, h1, h2, hb h0⟩))⟩, fun _ => by omega⟩
  · rw [if_neg h0, if_neg h0]
    exact ⟨⟨hp, Nat.le_refl _, Or.inl ⟨rfl, by omega⟩⟩, fun w => absurd w h0⟩
theorem buf_t {t' : IV} (h : BufR B n t tb o bu) (e : t' 1 = t 1) : BufR B n t' tb o bu := ⟨h.1, h.2.1, e.trans h.2.2.1, h.2.2.2⟩
theorem buf_o {o' : IV} (h : BufR B n t tb o bu) (e : o' 8 = o 8) : BufR B n t tb o' bu := ⟨h.1, e.trans h.2.1, h.2.2.1, h.2.2.2⟩
theorem add0 (x : Int32) : x + (0 : Int32) = x := by
  apply Int32.toInt_inj.mp
  have e : (0 : Int32).toInt = 0 := rfl
  have := rg32 x
  rw [Kit.i32_add (by rw [e]; omega) (by rw [e]; omega), e]; omega
/-- what is left of a scan behind the blanks: the reference -/
theorem m_39 (h : BufR B n t tb o bu) {p : Nat} (hp : p ≤ n) (h9 : o 9 = nI p) :
    ok_Mo_scan_39 o bu ∧ sp_Mo_scan_39 o bu = upd (upd (upd o 10 (nI p)) 11 (nI (tKk B n p))) 9 (nI (tEn B n p)) := by
  obtain ⟨hn, h8, -, hk⟩ := h
  have hb : ∀ k, k < n → B k < 256 ∧ bu k = nI (B k) := fun k q => ⟨(hk k q).2.1, (hk k q).2.2.1⟩
  have e10 : upd o 10 (o 9) = upd o 10 (nI p) := by rw [h9]
  obtain ⟨y1, y2⟩ := byteAt_B (o := upd o 10 (nI p)) (bu := bu) (n := n) (by rw [un (by decide)]; exact h8) hn hp
  -- the two last runs, for a kind
  have fin : ∀ (q : IV), q 9 = q 9 → ¬ q 11 = (2 : Int32) → ¬ q 11 = (3 : Int32) → sp_Mo_scan_127 bu big q = q ∧ ok_Mo_scan_127 bu big q := fun q _ n2 n3 => by
    rw [big_eq]
    constructor
    · show bd_Mo_scan_127 _ _ _ = _
      unfold bd_Mo_scan_127 sp_Mo_scan_162 sp_Mo_scan_180
      simp only [lettn]
      rw [if_neg n2, if_neg n3, add0]
      exact upd_id
    · show okb_Mo_scan_127 _ _ _ _
      unfold okb_Mo_scan_127
      exact ⟨fun w => absurd w n2, fun _ => trivial⟩
  have fin2 : ∀ (q : IV), ¬ q 11 = (1 : Int32) → sp_Mo_scan_92 bu big q = sp_Mo_scan_127 bu big q ∧ (ok_Mo_scan_127 bu big q → ok_Mo_scan_92 bu big q) := fun q n1 => by
    have e : ∃ m, big = m + 1 := ⟨999999, big_eq⟩
    obtain ⟨m, e⟩ := e
    constructor
    · conv => lhs; rw [e]
      show bd_Mo_scan_92 _ _ _ = _
      unfold bd_Mo_scan_92
      rw [if_neg n1]
    · intro ho
      rw [e]
      show okb_Mo_scan_92 _ _ _ _
      unfold okb_Mo_scan_92
      exact ⟨fun w => absurd w n1, fun _ => ho⟩
  unfold sp_Mo_scan_39 ok_Mo_scan_39 sp_Mo_scan_89 ok_Mo_scan_89
  simp only [lettn]
  rw [e10, us, y1]
  by_cases q0 : p < n
  · rw [if_pos q0]
    obtain ⟨b1, b2⟩ := hb p q0
    obtain ⟨-, kl, kd, -, km, -, -⟩ := kc_c _ b1
    rw [b2, if_neg km]
    have eK : tKk B n p = if kc (B p) = 97 then 1 else if kc (B p) = 48 then 2 else 3 := by unfold tKk; rw [if_pos q0]
    have eE : tEn B n p = if kc (B p) = 97 then rnF B 97 (n - p) p else if kc (B p) = 48 then rnF B 48 (n - p) p else p + 1 := by unfold tEn; rw [if_pos q0]
    by_cases q1 : kc (B p) = 97
    · have nl : ¬ sp_Mo_isLetter (nI (B p)) = 0 := fun w => kl.mp w q1
      rw [if_neg nl, eK, eE, if_pos q1, if_pos q1]
      obtain ⟨i1, i2⟩ := m_letters (n := n) (B := B) (bu := bu) (n - p) big p (upd (upd o 10 (nI p)) 11 (1 : Int32)) (by omega) (by rw [big_eq]; omega) hn (by rw [un (by decide), un (by decide)]; exact h8) (by rw [un (by decide), un (by decide)]; exact h9) us hb
      obtain ⟨f1, f2⟩ := fin (upd (upd (upd o 10 (nI p)) 11 (1 : Int32)) 9 (nI (rnF B 97 (n - p) p))) rfl (by rw [un (by decide), us]; decide) (by rw [un (by decide), us]; decide)
      exact ⟨⟨y2, fun w => absurd w km, fun _ => ⟨fun w => absurd w nl, fun _ => i2 f2⟩⟩, i1.trans f1⟩
    · have nl : sp_Mo_isLetter (nI (B p)) = 0 := kl.mpr q1
      rw [if_pos nl, eK, eE, if_neg q1, if_neg q1]
      by_cases q2 : kc (B p) = 48
      · have nd : ¬ sp_Mo_isDigit (nI (B p)) = 0 := fun w => kd.mp w q2
        rw [if_neg nd, if_pos q2, if_pos q2]
        obtain ⟨i1, i2⟩ := m_digits (n := n) (B := B) (bu := bu) (n - p) big p (upd (upd o 10 (nI p)) 11 (2 : Int32)) (by omega) (by rw [big_eq]; omega) hn (by rw [un (by decide), un (by decide)]; exact h8) (by rw [un (by decide), un (by decide)]; exact h9) us hb
        obtain ⟨g1, g2⟩ := fin2 (upd (upd o 10 (nI p)) 11 (2 : Int32)) (by rw [us]; decide)
        have e3 : sp_Mo_scan_162 (upd (upd (upd o 10 (nI p)) 11 (2 : Int32)) 9 (nI (rnF B 48 (n - p) p))) = upd (upd (upd o 10 (nI p)) 11 (2 : Int32)) 9 (nI (rnF B 48 (n - p) p)) := by
          unfold sp_Mo_scan_162 sp_Mo_scan_180
          simp only [lettn]
          rw [if_neg (by rw [un (by decide), us]; decide), add0]
          exact upd_id
        exact ⟨⟨y2, fun w => absurd w km, fun _ => ⟨fun _ => ⟨fun w => absurd w nd, fun _ => g2 i2⟩, fun w => absurd nl w⟩⟩, (g1.trans i1).trans e3⟩
      · have nd : sp_Mo_isDigit (nI (B p)) = 0 := kd.mpr q2
        rw [if_pos nd, if_neg q2, if_neg q2]
        obtain ⟨g1, g2⟩ := fin2 (upd (upd o 10 (nI p)) 11 (3 : Int32)) (by rw [us]; decide)
        have e3 : sp_Mo_scan_127 bu big (upd (upd o 10 (nI p)) 11 (3 : Int32)) = upd (upd (upd o 10 (nI p)) 11 (3 : Int32)) 9 (nI (p + 1)) ∧ ok_Mo_scan_127 bu big (upd (upd o 10 (nI p)) 11 (3 : Int32)) := by
          rw [big_eq]
          constructor
          · show bd_Mo_scan_127 _ _ _ = _
            unfold bd_Mo_scan_127 sp_Mo_scan_162 sp_Mo_scan_180
            simp only [lettn]
            rw [if_neg (by rw [us]; decide), if_pos us, un (by decide), un (by decide), h9, nzadd1 p (by omega)]
          · show okb_Mo_scan_127 _ _ _ _
            unfold okb_Mo_scan_127
            exact ⟨fun w => absurd w (by rw [us]; decide), fun _ => trivial⟩
        exact ⟨⟨y2, fun w => absurd w km, fun _ => ⟨fun _ => ⟨fun _ => g2 e3.2, fun w => absurd nd w⟩, fun w => absurd nl w⟩⟩, g1.trans e3.1⟩
  · rw [if_neg q0, if_pos rfl]
    have eK : tKk B n p = 0 := by unfold tKk; rw [if_neg q0]
    have eE : tEn B n p = p := by unfold tEn; rw [if_neg q0]; omega
    rw [eK, eE]
    obtain ⟨g1, g2⟩ := fin2 (upd (upd o 10 (nI p)) 11 (0 : Int32)) (by rw [us]; decide)
    obtain ⟨f1, f2⟩ := fin (upd (upd o 10 (nI p)) 11 (0 : Int32)) rfl (by rw [us]; decide) (by rw [us]; decide)
    refine ⟨⟨y2, fun _ => g2 f2, fun w => absurd rfl w⟩, (g1.trans f1).trans ?_⟩
    exact (upd_at (by rw [un (by decide), un (by decide)]; exact h9)).symm
/-- .. the class -/
theorem c_37 (h : BufR B n t tb o bu) {p : Nat} (hp : p ≤ n) :
    ok_Te_advance_37 t (nI p) tb ∧ sp_Te_advance_37 t (nI p) tb = upd (upd (upd t 3 (nI p)) 2 (nI (ck B n p))) 4 (nI (tEn B n p)) := by
  have hn := h.1
  have h1 := h.2.2.1
  have e1 : (upd t 3 (nI p)) 1 = nI n := by rw [un (by decide)]; exact h1
  unfold sp_Te_advance_37 ok_Te_advance_37 sp_Te_advance_60 ok_Te_advance_60
  simp only [lettn]
  rw [e1, un (show 1 ≠ 2 by decide), e1, un (show 1 ≠ 2 by decide), e1]
  by_cases q0 : p < n
  · have c : ¬ nI n ≤ nI p := by rw [nzle (by omega) (by omega)]; omega
    rw [if_neg c, if_neg c, kindAt_B h q0, nzadd1 p (by omega)]
    have b2 := (h.2.2.2 p q0).2.1
    have kl := (kc_c _ b2).2.2.2.2.2.1
    have eK : ck B n p = kc (B p) := by unfold ck; rw [if_pos q0]
    have eE : tEn B n p = if kc (B p) = 97 then rnF B 97 (n - p) p else if kc (B p) = 48 then rnF B 48 (n - p) p else p + 1 := by unfold tEn; rw [if_pos q0]
    have hB : BufR B n (upd (upd t 3 (nI p)) 2 (nI (kc (B p)))) tb o bu := buf_t h (by rw [un (by decide), un (by decide)])
    rw [eK, eE]
    have key : ok_Te_advance_74 (upd (upd t 3 (nI p)) 2 (nI (kc (B p)))) tb big (nI (p + 1)) ∧ sp_Te_advance_74 (upd (upd t 3 (nI p)) 2 (nI (kc (B p)))) tb big (nI (p + 1)) = upd (upd (upd t 3 (nI p)) 2 (nI (kc (B p)))) 4 (nI (if kc (B p) = 97 then rnF B 97 (n - p) p else if kc (B p) = 48 then rnF B 48 (n - p) p else p + 1)) := by
      by_cases q1 : kc (B p) = 97
      · rw [if_pos q1, rnF_1 q1 (by omega)]
        obtain ⟨i1, i2⟩ := c_run (c := 97) (Or.inl rfl) hB (by rw [us, q1]) (n - p - 1) big (p + 1) (by omega) (by rw [big_eq]; omega)
        exact ⟨i2, i1⟩
      · rw [if_neg q1]
        by_cases q2 : kc (B p) = 48
        · rw [if_pos q2, rnF_1 q2 (by omega)]
          obtain ⟨i1, i2⟩ := c_run (c := 48) (Or.inr rfl) hB (by rw [us, q2]) (n - p - 1) big (p + 1) (by omega) (by rw [big_eq]; omega)
          exact ⟨i2, i1⟩
        · rw [if_neg q2]
          have n1 : ¬ (upd (upd t 3 (nI p)) 2 (nI (kc (B p)))) 2 = (97 : Int32) := by rw [us, show (97 : Int32) = nI 97 from rfl, nzinj (by omega) (by omega)]; exact q1
          have n2 : ¬ (upd (upd t 3 (nI p)) 2 (nI (kc (B p)))) 2 = (48 : Int32) := by rw [us, show (48 : Int32) = nI 48 from rfl, nzinj (by omega) (by omega)]; exact q2
          rw [big_eq]
          constructor
          · show okb_Te_advance_74 _ _ _ _ _
            unfold okb_Te_advance_74
            exact ⟨fun _ => trivial, fun _ => ⟨fun w => absurd w n1, fun _ => ⟨fun w => absurd w n2, fun _ => trivial⟩⟩⟩
          · show bd_Te_advance_74 _ _ _ _ = _
            unfold bd_Te_advance_74 sp_Te_advance_118
            simp only [lettn]
            rw [if_neg n1, if_neg n2]
            exact ite_self _
    exact ⟨⟨fun w => absurd w c, fun _ => ⟨fun w => absurd w c, fun _ => key.1⟩⟩, key.2⟩
  · have c : nI n ≤ nI p := by rw [nzle (by omega) (by omega)]; omega
    rw [if_pos c, if_pos c]
    have eK : ck B n p = 0 := by unfold ck; rw [if_neg q0]
    have eE : tEn B n p = p := by unfold tEn; rw [if_neg q0]; omega
    rw [eK, eE]
    have c3 : (upd (upd t 3 (nI p)) 2 (0 : Int32)) 1 ≤ nI p := by rw [un (by decide), e1]; exact c
    have key : ok_Te_advance_74 (upd (upd t 3 (nI p)) 2 (0 : Int32)) tb big (nI p) ∧ sp_Te_advance_74 (upd (upd t 3 (nI p)) 2 (0 : Int32)) tb big (nI p) = upd (upd (upd t 3 (nI p)) 2 (nI 0)) 4 (nI p) := by
      rw [big_eq]
      constructor
      · show okb_Te_advance_74 _ _ _ _ _
        unfold okb_Te_advance_74
        exact ⟨fun _ => trivial, fun w => absurd c3 w⟩
      · show bd_Te_advance_74 _ _ _ _ = _
        unfold bd_Te_advance_74 sp_Te_advance_118
        rw [if_pos c3]; rfl
    exact ⟨⟨fun _ => ⟨fun _ => key.1, fun w => absurd c w⟩, fun w => absurd c w⟩, key.2⟩
/-- both scanners, from the end of a token to the next one -/
theorem scan_both (h : BufR B n t tb o bu) {s : Nat} (hs : s ≤ n) (h9 : o 9 = nI s) (h4 : t 4 = nI s) (h5 : t 5 = 0) :
    ok_Mo_scan o bu ∧ ok_Te_advance t tb ∧ ∃ p, s ≤ p ∧ p ≤ n ∧ TokI B n p (tEn B n p) (tKk B n p) ∧ (p < n → p < tEn B n p) ∧
      sp_Mo_scan o bu = upd (upd (upd o 10 (nI p)) 11 (nI (tKk B n p))) 9 (nI (tEn B n p)) ∧ sp_Te_advance t tb = upd (upd (upd t 3 (nI p)) 2 (nI (ck B n p))) 4 (nI (tEn B n p)) := by
  have hn := h.1
  have hb : ∀ k, k < n → B k < 256 ∧ bu k = nI (B k) := fun k q => ⟨(h.2.2.2 k q).2.1, (h.2.2.2 k q).2.2.1⟩
  obtain ⟨r1, r2, r3, r4⟩ := rnF_p B 32 (n - s) s
  obtain ⟨a1, a2⟩ := m_blank (B := B) (bu := bu) (n := n) (n - s) big s o (by omega) (by rw [big_eq]; omega) hn h.2.1 h9 hb
  obtain ⟨b1, b2⟩ := c_blank h (n - s) big s (by omega) (by rw [big_eq]; omega)
  generalize hp : rnF B 32 (n - s) s = p at r1 r2 r3 r4 a1 a2 b1 b2
  obtain ⟨i1, i2⟩ := tok_I (B := B) (n := n) (p := p) (by omega) (fun q => r4 (by omega))
  obtain ⟨c1, c2⟩ := m_39 (o := upd o 9 (nI p)) (buf_o h (by rw [un (by decide)])) (p := p) (by omega) us
  obtain ⟨d1, d2⟩ := c_37 h (p := p) (by omega)
  refine ⟨a2 c1, ?_, p, by omega, by omega, i1, i2, ?_, ?_⟩
  · unfold ok_Te_advance
    simp only [lettn]
    rw [h4]
    exact ⟨fun _ => b2 d1, fun w => absurd h5 w⟩
  · unfold sp_Mo_scan
    rw [a1, c2]
    funext j
    by_cases q : j = 9
    · rw [q, us, us]
    · rw [un q, un q]
      by_cases q2 : j = 11
      · rw [q2, us, us]
      · rw [un q2, un q2]
        by_cases q3 : j = 10
        · rw [q3, us, us]
        · rw [un q3, un q3, un q]
  · unfold sp_Te_advance
    simp only [lettn]
    rw [if_pos h5, h4, b1, d2]
end TKB
