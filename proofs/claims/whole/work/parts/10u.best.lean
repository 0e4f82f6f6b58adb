section CU2
variable {T : Int} {r r' : LV} {w0 w1 w2 w3 w4 : IV}
/-- the amount of the deflection at a setting -/
abbrev zam (r : LV) (f g : Nat) (L : Int) (s : Nat) : Int := zabs (zdefl r s f g L)
/-- the first setting with the least amount -/
def IsBest (A : Nat → Int) (N b : Nat) : Prop := b < N ∧ (∀ s, s < N → A b ≤ A s) ∧ ∀ s, s < b → A b < A s
theorem best_one {A : Nat → Int} {N b c : Nat} (h1 : IsBest A N b) (h2 : IsBest A N c) : b = c := by
  rcases Nat.lt_trichotomy b c with q | q | q
  · have := h2.2.2 b q; have := h1.2.1 c h2.1; omega
  · exact q
  · have := h1.2.2 c q; have := h2.2.1 b h1.1; omega
theorem zN (h : RowOK T r) : (10 ^ zD r : Nat) ≤ 10000 ∧ 100 ≤ (10 ^ zD r : Nat) := by
  have hD := zD_bd h
  have w := (show ∀ k, k < 3 → (10 : Nat) ^ (k + 2) ≤ 10000 ∧ 100 ≤ (10 : Nat) ^ (k + 2) by decide) (zD r - 2) (by omega)
  rw [show zD r - 2 + 2 = zD r by omega] at w; exact w
theorem sE {s : Nat} (h : s ≤ 9999) : E32 (nI s) (s : Int) 0 9999 := ⟨nIz (by omega), by omega, by omega⟩
theorem defl_E (h : RowOK T r) {ld : Int64} {L : Int} (hl : E64 ld L 2 3) {f g s : Nat} (hf : f < 5) (hg : g < 5) (hs : s ≤ 9999) : E64 (sp_Mo_amount (sp_Mo_plainDeflection (nI s) (lN f) (lN g) ld r)) (zam r f g L s) 0 20000000000000 ∧ ok_Mo_plainDeflection (nI s) (lN f) (lN g) ld r := by
  obtain ⟨a, b⟩ := m_defl h hl (sE hs) hf hg
  exact ⟨m_abs (e64_w _ _ a (by decide) (by decide)), b⟩
/-- the reference looks at every setting -/
theorem m_best_loop (h : RowOK T r) {ld : Int64} {L : Int} (hl : E64 ld L 2 3) {f g : Nat} (hf : f < 5) (hg : g < 5) : ∀ (n u x b : Nat) (lim : Int64), x + n = (10 ^ zD r : Nat) → n < u → b < x → lim.toInt = zam r f g L b → (∀ s, s < x → zam r f g L b ≤ zam r f g L s) → (∀ s, s < b → zam r f g L b < zam r f g L s) →
    ok_Mo_bestOf_20 r (lN f) (lN g) ld u (nI b) lim (nI x) ∧ ∃ c : Nat, sp_Mo_bestOf_20 r (lN f) (lN g) ld u (nI b) lim (nI x) = nI c ∧ IsBest (zam r f g L) (10 ^ zD r) c
  | n, 0, _, _, _, _, hu, _, _, _, _ => absurd hu (by omega)
  | 0, u + 1, x, b, lim, hx, _, hb, hlim, h1, h2 => by
    have hN := zN h
    obtain ⟨s1, s2⟩ := m_settings h
    have c : nI (10 ^ zD r) ≤ nI x := by rw [nzle (by omega) (by omega)]; omega
    constructor
    · show okb_Mo_bestOf_20 _ _ _ _ _ _ _ _ _
      unfold okb_Mo_bestOf_20; simp only [lettn]; rw [s1]
      exact ⟨s2, fun _ => trivial, fun w => absurd c w⟩
    · refine ⟨b, ?_, by omega, fun s hs => h1 s (by omega), h2⟩
      show bd_Mo_bestOf_20 _ _ _ _ _ _ _ _ = _
      unfold bd_Mo_bestOf_20; simp only [lettn]; rw [s1, if_pos c]
  | n + 1, u + 1, x, b, lim, hx, hu, hb, hlim, h1, h2 => by
    have hN := zN h
    obtain ⟨s1, s2⟩ := m_settings h
    have c : ¬ nI (10 ^ zD r) ≤ nI x := by rw [nzle (by omega) (by omega)]; omega
    obtain ⟨d1, d2⟩ := defl_E h hl hf hg (s := x) (by omega)
    have e : lim ≤ sp_Mo_amount (sp_Mo_plainDeflection (nI x) (lN f) (lN g) ld r) ↔ zam r f g L b ≤ zam r f g L x := by rw [Int64.le_iff_toInt_le, hlim, d1.1]
    have e2 : sp_Mo_amount (sp_Mo_plainDeflection (nI x) (lN f) (lN g) ld r) < lim ↔ zam r f g L x < zam r f g L b := by rw [Int64.lt_iff_toInt_lt, hlim, d1.1]
    by_cases q : zam r f g L b ≤ zam r f g L x
    · have n2 : ¬ sp_Mo_amount (sp_Mo_plainDeflection (nI x) (lN f) (lN g) ld r) < lim := fun w => by have := e2.mp w; omega
      obtain ⟨k1, c', k2, k3⟩ := m_best_loop h hl hf hg n u (x + 1) b lim (by omega) (by omega) (by omega) hlim (fun s hs => by
        by_cases qs : s = x
        · subst qs; exact q
        · exact h1 s (by omega)) h2
      constructor
      · show okb_Mo_bestOf_20 _ _ _ _ _ _ _ _ _
        unfold okb_Mo_bestOf_20 ok_Mo_bestOf_59; simp only [lettn]; rw [s1, if_neg n2, nzadd1 x (by omega)]
        exact ⟨s2, fun w => absurd w c, fun _ => ⟨d2, fun _ => k1, fun w => absurd (e.mpr q) w⟩⟩
      · refine ⟨c', ?_, k3⟩
        show bd_Mo_bestOf_20 _ _ _ _ _ _ _ _ = _
        unfold bd_Mo_bestOf_20 sp_Mo_bestOf_59; simp only [lettn]; rw [s1, if_neg c, if_pos (e.mpr q), if_neg n2, nzadd1 x (by omega)]
        exact k2
    · have n1 : ¬ lim ≤ sp_Mo_amount (sp_Mo_plainDeflection (nI x) (lN f) (lN g) ld r) := fun w => q (e.mp w)
      have n2 : sp_Mo_amount (sp_Mo_plainDeflection (nI x) (lN f) (lN g) ld r) < lim := e2.mpr (by omega)
      obtain ⟨k1, c', k2, k3⟩ := m_best_loop h hl hf hg n u (x + 1) x (sp_Mo_amount (sp_Mo_plainDeflection (nI x) (lN f) (lN g) ld r)) (by omega) (by omega) (by omega) d1.1 (fun s hs => by
        by_cases qs : s = x
        · subst qs; exact Int.le_refl _
        · have := h1 s (by omega); omega) (fun s hs => by have := h1 s hs; omega)
      constructor
      · show okb_Mo_bestOf_20 _ _ _ _ _ _ _ _ _
        unfold okb_Mo_bestOf_20 ok_Mo_bestOf_59; simp only [lettn]; rw [s1, if_pos n2, nzadd1 x (by omega)]
        exact ⟨s2, fun w => absurd w c, fun _ => ⟨d2, fun w => absurd w n1, fun _ => k1⟩⟩
      · refine ⟨c', ?_, k3⟩
        show bd_Mo_bestOf_20 _ _ _ _ _ _ _ _ = _
        unfold bd_Mo_bestOf_20 sp_Mo_bestOf_59; simp only [lettn]; rw [s1, if_neg c, if_neg n1, if_pos n2, nzadd1 x (by omega)]
        exact k2
theorem m_best (h : RowOK T r) {ld : Int64} {L : Int} (hl : E64 ld L 2 3) {f g : Nat} (hf : f < 5) (hg : g < 5) : ok_Mo_bestOf (lN f) (lN g) ld r ∧ ∃ c : Nat, sp_Mo_bestOf (lN f) (lN g) ld r = nI c ∧ IsBest (zam r f g L) (10 ^ zD r) c := by
  have hN := zN h
  obtain ⟨d1, d2⟩ := defl_E h hl hf hg (s := 0) (by omega)
  obtain ⟨k1, k2⟩ := m_best_loop h hl hf hg ((10 ^ zD r : Nat) - 1) big 1 0 (sp_Mo_amount (sp_Mo_plainDeflection (nI 0) (lN f) (lN g) ld r)) (by omega) (by rw [big_eq]; omega) (by omega) d1.1 (fun s hs => by rw [show s = 0 by omega]; exact Int.le_refl _) (fun s hs => absurd hs (by omega))
  constructor
  · unfold ok_Mo_bestOf; simp only [lettn]; exact ⟨d2, k1⟩
  · unfold sp_Mo_bestOf; simp only [lettn]; exact k2
/-! ===== the class passes over settings that need no look ===== -/
theorem c_side {x y : Int64} {X Y : Int} (hx : E64 x X (-20000000000000) 20000000000000) (hy : E64 y Y 0 20000000000001) : (sp_Se_sideOf x y).toInt = (if Y ≤ X then 1 else if X ≤ -Y then -1 else 0) := by
  have n := e64_neg hy (by decide)
  have e1 : x < y ↔ X < Y := by rw [Int64.lt_iff_toInt_lt, hx.1, hy.1]
  have e2 : -y < x ↔ -Y < X := by rw [Int64.lt_iff_toInt_lt, hx.1, n.1]
  unfold sp_Se_sideOf
  by_cases q : x < y
  · have := e1.mp q
    rw [if_pos q, if_neg (show ¬ Y ≤ X by omega)]
    by_cases q2 : -y < x
    · have := e2.mp q2
      rw [if_pos q2, if_neg (by omega)]; rfl
    · have : ¬ -Y < X := fun w => q2 (e2.mpr w)
      rw [if_neg q2, if_pos (by omega)]; rfl
  · have : ¬ X < Y := fun w => q (e1.mpr w)
    rw [if_neg q, if_pos (by omega)]; rfl
theorem c_alike_loop (hp : PR w0 w1 w2 w3 w4 r) (h : RowOK T r) {L : Int} {f g : Nat} {y1 : Int32} {at_ : Nat} {lim : Int64} {Lim : Int} (hy : E64 lim Lim 0 20000000000001) (hat : at_ < (10 ^ zD r : Nat)) (hside : (0 < y1.toInt → Lim ≤ zdefl r at_ f g L) ∧ (y1.toInt < 0 → zdefl r at_ f g L ≤ -Lim)) :
    ∀ (k u : Nat) (ca : IV) (S : Int), k ≤ zD r → k < u → CiR ca r S f g L → ok_Se_alikeBehind_17 y1 (nI at_) w0 w1 w3 w4 lim u (nI (10 ^ k)) ca ∧ ∃ (m : Nat) (ca' : IV) (S' : Int), sp_Se_alikeBehind_17 y1 (nI at_) w0 w1 w3 w4 lim u (nI (10 ^ k)) ca = (nI m, ca') ∧ CiR ca' r S' f g L ∧ at_ + m < (10 ^ zD r : Nat) ∧ ∀ s : Nat, at_ < s → s ≤ at_ + m → Lim ≤ zam r f g L s
  | k, 0, _, _, _, hu, _ => absurd hu (by omega)
  | 0, u + 1, ca, S, _, _, hc => by
    have c : nI (10 ^ 0) ≤ (1 : Int32) := by decide
    constructor
    · show okb_Se_alikeBehind_17 _ _ _ _ _ _ _ _ _ _ _
      unfold okb_Se_alikeBehind_17; exact ⟨fun _ => trivial, fun w => absurd c w⟩
    · refine ⟨0, ca, S, ?_, hc, hat, fun s h1 h2 => absurd h1 (by omega)⟩
      show bd_Se_alikeBehind_17 _ _ _ _ _ _ _ _ _ _ = _
      unfold bd_Se_alikeBehind_17; rw [if_pos c]; rfl
  | k + 1, u + 1, ca, S, hk, hu, hc => by
    have hN := zN h
    have hD := zD_bd h
    have hL := hc.2.2.2.2.2.2.2.1
    have hpk := (show ∀ k, k < 4 → 10 ≤ (10 : Nat) ^ (k + 1) ∧ (10 : Nat) ^ (k + 1) ≤ 10000 by decide) k (by omega)
    have hpk0 : (10 : Nat) ^ (k + 1) = 10 ^ k * 10 := Nat.pow_succ 10 k
    have hdvd : (10 : Nat) ^ (k + 1) ∣ 10 ^ zD r := Nat.pow_dvd_pow 10 hk
    have c : ¬ nI (10 ^ (k + 1)) ≤ (1 : Int32) := by rw [show (1 : Int32) = nI 1 from rfl, nzle (by omega) (by omega)]; omega
    have ediv : nI (10 ^ (k + 1)) / (10 : Int32) = nI (10 ^ k) := by
      have e := (rem10 (s := nI (10 ^ (k + 1))) (S := ((10 ^ (k + 1) : Nat) : Int)) (b := 10000) ⟨nIz (by omega), by omega, by omega⟩).2
      exact nIo (by rw [e.1]; omega)
    have E10 : E32 (nI (10 ^ (k + 1))) ((10 ^ (k + 1) : Nat) : Int) 1 10000 := ⟨nIz (by omega), by omega, by omega⟩
    have Ea : E32 (nI at_) (at_ : Int) 0 9999 := sE (by omega)
    have em := rem_32 Ea E10
    have cm : (nI at_ - nI at_ / nI (10 ^ (k + 1)) * nI (10 ^ (k + 1))) = 0 ↔ (at_ : Int) % (10 ^ (k + 1) : Nat) = 0 := z32 em.1 0 0 rfl
    have ne0 : ¬ nI (10 ^ (k + 1)) = 0 := by rw [show (0 : Int32) = nI 0 from rfl, nzinj (by omega) (by omega)]; omega
    -- whatever comes of the smaller blocks
    have rec_ : ∀ (ca2 : IV) (S2 : Int), CiR ca2 r S2 f g L → ok_Se_alikeBehind_63 (nI (10 ^ (k + 1))) (sp_Se_alikeBehind_17 y1 (nI at_) w0 w1 w3 w4 lim u) (ok_Se_alikeBehind_17 y1 (nI at_) w0 w1 w3 w4 lim u) ca2 ∧ ∃ (m : Nat) (ca' : IV) (S' : Int), sp_Se_alikeBehind_63 (nI (10 ^ (k + 1))) (sp_Se_alikeBehind_17 y1 (nI at_) w0 w1 w3 w4 lim u) ca2 = (nI m, ca') ∧ CiR ca' r S' f g L ∧ at_ + m < (10 ^ zD r : Nat) ∧ ∀ s : Nat, at_ < s → s ≤ at_ + m → Lim ≤ zam r f g L s := by
      intro ca2 S2 hc2
      unfold ok_Se_alikeBehind_63 sp_Se_alikeBehind_63
      simp only [lettn]
      rw [ediv]
      exact c_alike_loop hp h hy hat hside k u ca2 S2 (by omega) (by omega) hc2
    by_cases q0 : y1 = 0
    · constructor
      · show okb_Se_alikeBehind_17 _ _ _ _ _ _ _ _ _ _ _
        unfold okb_Se_alikeBehind_17; exact ⟨fun w => absurd w c, fun _ => ⟨fun _ => trivial, fun w => absurd q0 w⟩⟩
      · refine ⟨0, ca, S, ?_, hc, hat, fun s h1 h2 => absurd h1 (by omega)⟩
        show bd_Se_alikeBehind_17 _ _ _ _ _ _ _ _ _ _ = _
        unfold bd_Se_alikeBehind_17; rw [if_neg c, if_pos q0]; rfl
    · have y0 : ¬ y1.toInt = 0 := fun w => q0 (Int32.toInt_inj.mp (w.trans rfl))
      by_cases q1 : (at_ : Int) % (10 ^ (k + 1) : Nat) = 0
      · have q1' := cm.mpr q1
        -- the block lies within the settings
        have hblk : at_ + 10 ^ (k + 1) ≤ 10 ^ zD r := by
          obtain ⟨z, hz⟩ := hdvd
          have q1n : at_ % 10 ^ (k + 1) = 0 := by have := q1; omega
          obtain ⟨z2, hz2⟩ := Nat.dvd_of_mod_eq_zero q1n
          rw [hz] at hat ⊢
          rw [hz2] at hat ⊢
          have : z2 < z := Nat.lt_of_mul_lt_mul_left hat
          calc 10 ^ (k + 1) * z2 + 10 ^ (k + 1) = 10 ^ (k + 1) * (z2 + 1) := by rw [Nat.mul_succ]
            _ ≤ 10 ^ (k + 1) * z := Nat.mul_le_mul_left _ this
        have blk : ∀ s : Nat, at_ ≤ s → s < at_ + 10 ^ (k + 1) → zdefl r s f g L ≤ zdefl r at_ f g L ∧ zdefl r ((at_ : Int) + (10 ^ (k + 1) : Nat) - 1) f g L ≤ zdefl r s f g L := fun s h1 h2 => zdefl_block h hL (k := k + 1) hk (a := at_) (by omega) q1 (by omega) (by omega) (by omega)
        have e58 : ∀ ca2 : IV, sp_Se_alikeBehind_58 (nI (10 ^ (k + 1))) ca2 = (nI (10 ^ (k + 1) - 1), ca2) := fun ca2 => by
          unfold sp_Se_alikeBehind_58; rw [show (1 : Int32) = nI 1 from rfl, nzsub _ _ (by omega) (by omega)]
        by_cases q2 : y1 < 0
        · have q2' : y1.toInt < 0 := by rw [Int32.lt_iff_toInt_lt] at q2; exact q2
          have hs := hside.2 q2'
          constructor
          · show okb_Se_alikeBehind_17 _ _ _ _ _ _ _ _ _ _ _
            unfold okb_Se_alikeBehind_17; exact ⟨fun w => absurd w c, fun _ => ⟨fun w => absurd w q0, fun _ => ⟨ne0, fun _ => ⟨fun _ => trivial, fun w => absurd q2 w⟩, fun w => absurd q1' w⟩⟩⟩
          · refine ⟨10 ^ (k + 1) - 1, ca, S, ?_, hc, by omega, fun s h1 h2 => ?_⟩
            · show bd_Se_alikeBehind_17 _ _ _ _ _ _ _ _ _ _ = _
              unfold bd_Se_alikeBehind_17; rw [if_neg c, if_neg q0, if_pos q1', if_pos q2]; exact e58 ca
            · have b := (blk s (by omega) (by omega)).1
              have := hy.2.1
              unfold zam zabs
              split <;> omega
        · have q2' : 0 < y1.toInt := by
            have : ¬ y1.toInt < 0 := fun w => q2 (by rw [Int32.lt_iff_toInt_lt]; exact w)
            omega
          have Es : E32 (nI at_ + nI (10 ^ (k + 1)) - (1 : Int32)) ((at_ : Int) + (10 ^ (k + 1) : Nat) - 1) 0 9999 := by
            have a := e32_sub (e32_add Ea E10 (by decide) (by decide)) (e32_lit 1 (1 : Int32) rfl) (by decide) (by decide)
            exact ⟨a.1, by omega, by omega⟩
          obtain ⟨d1, d2, d3⟩ := c_deflAt hp h hc Es
          have sd := c_side (e64_w _ _ d1 (by decide) (by decide)) hy
          have c4 : sp_Se_sideOf (sp_Se_deflectionAt (nI at_ + nI (10 ^ (k + 1)) - (1 : Int32)) ca w0 w1 w3 w4).1 lim ≤ 0 ↔ ¬ Lim ≤ zdefl r ((at_ : Int) + (10 ^ (k + 1) : Nat) - 1) f g L := by
            rw [Int32.le_iff_toInt_le, sd]
            by_cases z : Lim ≤ zdefl r ((at_ : Int) + (10 ^ (k + 1) : Nat) - 1) f g L
            · rw [if_pos z]; exact ⟨fun w => absurd w (by decide), fun w => absurd z w⟩
            · rw [if_neg z]; exact ⟨fun _ => z, fun _ => by split <;> decide⟩
          by_cases q3 : Lim ≤ zdefl r ((at_ : Int) + (10 ^ (k + 1) : Nat) - 1) f g L
          · have n4 : ¬ sp_Se_sideOf (sp_Se_deflectionAt (nI at_ + nI (10 ^ (k + 1)) - (1 : Int32)) ca w0 w1 w3 w4).1 lim ≤ 0 := fun w => (c4.mp w) q3
            constructor
            · show okb_Se_alikeBehind_17 _ _ _ _ _ _ _ _ _ _ _
              unfold okb_Se_alikeBehind_17; simp only [lettn]
              exact ⟨fun w => absurd w c, fun _ => ⟨fun w => absurd w q0, fun _ => ⟨ne0, fun _ => ⟨fun w => absurd w q2, fun _ => ⟨d3, fun w => absurd w n4, fun _ => trivial⟩⟩, fun w => absurd q1' w⟩⟩⟩
            · refine ⟨10 ^ (k + 1) - 1, _, _, ?_, d2, by omega, fun s h1 h2 => ?_⟩
              · show bd_Se_alikeBehind_17 _ _ _ _ _ _ _ _ _ _ = _
                unfold bd_Se_alikeBehind_17; simp only [lettn]; rw [if_neg c, if_neg q0, if_pos q1', if_neg q2, if_neg n4]; exact e58 _
              · have b := (blk s (by omega) (by omega)).2
                have := hy.2.1
                unfold zam zabs
                split <;> omega
          · have p4 := c4.mpr q3
            obtain ⟨o1, m, ca', S', k1, k2, k3, k4⟩ := rec_ _ _ d2
            constructor
            · show okb_Se_alikeBehind_17 _ _ _ _ _ _ _ _ _ _ _
              unfold okb_Se_alikeBehind_17; simp only [lettn]
              exact ⟨fun w => absurd w c, fun _ => ⟨fun w => absurd w q0, fun _ => ⟨ne0, fun _ => ⟨fun w => absurd w q2, fun _ => ⟨d3, fun _ => o1, fun w => absurd p4 w⟩⟩, fun w => absurd q1' w⟩⟩⟩
            · refine ⟨m, ca', S', ?_, k2, k3, k4⟩
              show bd_Se_alikeBehind_17 _ _ _ _ _ _ _ _ _ _ = _
              unfold bd_Se_alikeBehind_17; simp only [lettn]; rw [if_neg c, if_neg q0, if_pos q1', if_neg q2, if_pos p4]; exact k1
      · have n1 : ¬ (nI at_ - nI at_ / nI (10 ^ (k + 1)) * nI (10 ^ (k + 1))) = 0 := fun w => q1 (cm.mp w)
        obtain ⟨o1, m, ca', S', k1, k2, k3, k4⟩ := rec_ ca S hc
        constructor
        · show okb_Se_alikeBehind_17 _ _ _ _ _ _ _ _ _ _ _
          unfold okb_Se_alikeBehind_17; simp only [lettn]
          exact ⟨fun w => absurd w c, fun _ => ⟨fun w => absurd w q0, fun _ => ⟨ne0, fun w => absurd w n1, fun _ => o1⟩⟩⟩
        · refine ⟨m, ca', S', ?_, k2, k3, k4⟩
          show bd_Se_alikeBehind_17 _ _ _ _ _ _ _ _ _ _ = _
          unfold bd_Se_alikeBehind_17; rw [if_neg c, if_neg q0, if_neg n1]; exact k1
theorem c_alike (hp : PR w0 w1 w2 w3 w4 r) (h : RowOK T r) {L : Int} {f g : Nat} {at_ : Nat} {here lim : Int64} {Lim : Int} (hx : E64 here (zdefl r at_ f g L) (-20000000000000) 20000000000000) (hy : E64 lim Lim 0 20000000000001) (hat : at_ < (10 ^ zD r : Nat)) {ca : IV} {S : Int} (hc : CiR ca r S f g L) :
    ok_Se_alikeBehind (nI at_) here lim ca w0 w1 w3 w4 ∧ ∃ (m : Nat) (ca' : IV) (S' : Int), sp_Se_alikeBehind (nI at_) here lim ca w0 w1 w3 w4 = (nI m, ca') ∧ CiR ca' r S' f g L ∧ at_ + m < (10 ^ zD r : Nat) ∧ ∀ s : Nat, at_ < s → s ≤ at_ + m → Lim ≤ zam r f g L s := by
  obtain ⟨s1, s2⟩ := c_settings hp h
  have sd := c_side hx hy
  have hyb := hy.2.1
  have k := c_alike_loop (y1 := sp_Se_sideOf here lim) hp h hy hat ⟨fun w => by
    rw [sd] at w
    by_cases z : Lim ≤ zdefl r at_ f g L
    · exact z
    · rw [if_neg z] at w; split at w <;> omega, fun w => by
    rw [sd] at w
    by_cases z : Lim ≤ zdefl r at_ f g L
    · rw [if_pos z] at w; omega
    · rw [if_neg z] at w
      by_cases z2 : zdefl r at_ f g L ≤ -Lim
      · exact z2
      · rw [if_neg z2] at w; omega⟩ (zD r) big ca S (Nat.le_refl _) (by have := zD_bd h; rw [big_eq]; omega) hc
  unfold sp_Se_alikeBehind ok_Se_alikeBehind
  simp only [lettn]
  rw [s1]
  exact ⟨⟨s2, k.1⟩, k.2⟩
end CU2
