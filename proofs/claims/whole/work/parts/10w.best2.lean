/-- a step's width is no number below 0 -/
theorem nzmax0 (m : Nat) (h : m < 2147483648) : (if (0 : Int32) < nI m then nI m else (0 : Int32)) = nI m := by
  by_cases q : m = 0
  · subst q; exact ite_self _
  · exact if_pos ((nzlt (a := 0) (by omega) h).mpr (by omega))
section CU4
variable {T : Int} {r r' : LV} {w0 w1 w2 w3 w4 : IV}
theorem c_best_loop (hp : PR w0 w1 w2 w3 w4 r) (h : RowOK T r) {L : Int} {f g : Nat} {v0 : Nat} (hv0 : v0 < (10 ^ zD r : Nat)) :
    ∀ (n u x b : Nat) (lim : Int64) (Lim : Int) (ca : IV) (S : Int), x + n = (10 ^ zD r : Nat) → n < u → b < (10 ^ zD r : Nat) → E64 lim Lim 0 20000000000001 → (∀ s, s < x → Lim ≤ zam r f g L s) → (Lim = zam r f g L v0 + 1 ∨ (b < x ∧ zam r f g L b = Lim ∧ ∀ s, s < b → Lim < zam r f g L s)) → CiR ca r S f g L →
    ok_Se_bestSetting_24 (nI (10 ^ zD r)) w0 w1 w3 w4 u (nI b) lim (nI x) ca ∧ ∃ (c : Nat) (ca' : IV) (S' : Int), sp_Se_bestSetting_24 (nI (10 ^ zD r)) w0 w1 w3 w4 u (nI b) lim (nI x) ca = (nI c, ca') ∧ IsBest (zam r f g L) (10 ^ zD r) c ∧ CiR ca' r S' f g L
  | n, 0, _, _, _, _, _, _, _, hf, _, _, _, _, _ => absurd hf (by omega)
  | n, u + 1, x, b, lim, Lim, ca, S, hx, hu, hb, hl, h1, h2, hc => by
    have hN := zN h
    by_cases qx : x = 10 ^ zD r
    · have c : nI (10 ^ zD r) ≤ nI x := by rw [nzle (by omega) (by omega)]; omega
      refine ⟨?_, b, ca, S, ?_, ?_, hc⟩
      · show okb_Se_bestSetting_24 _ _ _ _ _ _ _ _ _ _ _
        unfold okb_Se_bestSetting_24; exact ⟨fun _ => trivial, fun w => absurd c w⟩
      · show bd_Se_bestSetting_24 _ _ _ _ _ _ _ _ _ _ = _
        unfold bd_Se_bestSetting_24; rw [if_pos c]
      · rcases h2 with q | ⟨q1, q2, q3⟩
        · have := h1 v0 (by omega); omega
        · exact ⟨hb, fun s hs => by rw [q2]; exact h1 s (by omega), fun s hs => by rw [q2]; exact q3 s hs⟩
    · have c : ¬ nI (10 ^ zD r) ≤ nI x := by rw [nzle (by omega) (by omega)]; omega
      have e0 := lec hl 0 0 rfl
      by_cases q0 : Lim ≤ 0
      · refine ⟨?_, b, ca, S, ?_, ?_, hc⟩
        · show okb_Se_bestSetting_24 _ _ _ _ _ _ _ _ _ _ _
          unfold okb_Se_bestSetting_24; exact ⟨fun w => absurd w c, fun _ => ⟨fun _ => trivial, fun w => absurd (e0.mpr q0) w⟩⟩
        · show bd_Se_bestSetting_24 _ _ _ _ _ _ _ _ _ _ = _
          unfold bd_Se_bestSetting_24; rw [if_neg c, if_pos (e0.mpr q0)]
        · rcases h2 with q | ⟨q1, q2, q3⟩
          · have := zabs_nn (zdefl r v0 f g L); unfold zam at q; omega
          · exact ⟨hb, fun s hs => by rw [q2]; have := zabs_nn (zdefl r s f g L); unfold zam; omega, fun s hs => by rw [q2]; exact q3 s hs⟩
      · have n0 : ¬ lim ≤ (0 : Int64) := fun w => q0 (e0.mp w)
        obtain ⟨d1, d2, d3⟩ := c_deflAt hp h hc (sE (s := x) (by omega))
        have d1w := e64_w (-20000000000000) 20000000000000 d1 (by decide) (by decide)
        have ab := abs_E d1w
        have e1 : lim ≤ (if 0 < (sp_Se_deflectionAt (nI x) ca w0 w1 w3 w4).1 then (sp_Se_deflectionAt (nI x) ca w0 w1 w3 w4).1 else -(sp_Se_deflectionAt (nI x) ca w0 w1 w3 w4).1) ↔ Lim ≤ zam r f g L x := by rw [Int64.le_iff_toInt_le, hl.1, ab.1]
        -- on with some best and some limit
        have go : ∀ (b2 : Nat) (l2 : Int64) (L2 : Int), b2 < (10 ^ zD r : Nat) → E64 l2 L2 0 20000000000001 → (∀ s, s < x + 1 → L2 ≤ zam r f g L s) → (L2 = zam r f g L v0 + 1 ∨ (b2 < x + 1 ∧ zam r f g L b2 = L2 ∧ ∀ s, s < b2 → L2 < zam r f g L s)) →
            ok_Se_bestSetting_63 (nI x) (sp_Se_deflectionAt (nI x) ca w0 w1 w3 w4) w0 w1 w3 w4 (sp_Se_bestSetting_24 (nI (10 ^ zD r)) w0 w1 w3 w4 u) (ok_Se_bestSetting_24 (nI (10 ^ zD r)) w0 w1 w3 w4 u) (nI b2) l2 ∧ ∃ (c : Nat) (ca' : IV) (S' : Int), sp_Se_bestSetting_63 (nI x) (sp_Se_deflectionAt (nI x) ca w0 w1 w3 w4) w0 w1 w3 w4 (sp_Se_bestSetting_24 (nI (10 ^ zD r)) w0 w1 w3 w4 u) (nI b2) l2 = (nI c, ca') ∧ IsBest (zam r f g L) (10 ^ zD r) c ∧ CiR ca' r S' f g L := by
          intro b2 l2 L2 hb2 hl2 k1 k2
          obtain ⟨o1, m, ca3, S3, a1, a2, a3, a4⟩ := c_alike hp h d1w hl2 (at_ := x) (by omega) d2
          obtain ⟨o2, c', ca4, S4, b1, b3, b4⟩ := c_best_loop hp h hv0 ((10 ^ zD r : Nat) - (x + m + 1)) u (x + m + 1) b2 l2 L2 ca3 S3 (by omega) (by omega) hb2 hl2 (fun s hs => by
            by_cases z : s < x + 1
            · exact k1 s z
            · exact a4 s (by omega) (by omega)) (by
            rcases k2 with z | ⟨z1, z2, z3⟩
            · exact Or.inl z
            · exact Or.inr ⟨by omega, z2, z3⟩) a2
          have en : nI x + (if (0 : Int32) < nI m then nI m else (0 : Int32)) + (1 : Int32) = nI (x + m + 1) := by rw [nzmax0 m (by omega), nzadd x m (by omega), nzadd1 _ (by omega)]
          unfold ok_Se_bestSetting_63 sp_Se_bestSetting_63
          simp only [lettn]
          rw [a1]
          dsimp only
          rw [en]
          exact ⟨⟨o1, o2⟩, c', ca4, S4, b1, b3, b4⟩
        by_cases q1 : Lim ≤ zam r f g L x
        · obtain ⟨o, c', ca', S', k1, k2, k3⟩ := go b lim Lim hb hl (fun s hs => by
            by_cases z : s = x
            · subst z; exact q1
            · exact h1 s (by omega)) (by
            rcases h2 with z | ⟨z1, z2, z3⟩
            · exact Or.inl z
            · exact Or.inr ⟨by omega, z2, z3⟩)
          refine ⟨?_, c', ca', S', ?_, k2, k3⟩
          · show okb_Se_bestSetting_24 _ _ _ _ _ _ _ _ _ _ _
            unfold okb_Se_bestSetting_24; simp only [lettn]
            exact ⟨fun w => absurd w c, fun _ => ⟨fun w => absurd w n0, fun _ => ⟨d3, fun _ => o, fun w => absurd (e1.mpr q1) w⟩⟩⟩
          · show bd_Se_bestSetting_24 _ _ _ _ _ _ _ _ _ _ = _
            unfold bd_Se_bestSetting_24; simp only [lettn]; rw [if_neg c, if_neg n0, if_pos (e1.mpr q1)]; exact k1
        · have n1 : ¬ lim ≤ (if 0 < (sp_Se_deflectionAt (nI x) ca w0 w1 w3 w4).1 then (sp_Se_deflectionAt (nI x) ca w0 w1 w3 w4).1 else -(sp_Se_deflectionAt (nI x) ca w0 w1 w3 w4).1) := fun w => q1 (e1.mp w)
          obtain ⟨o, c', ca', S', k1, k2, k3⟩ := go x _ (zam r f g L x) (by omega) (e64_w 0 20000000000001 ab (by decide) (by decide)) (fun s hs => by
            by_cases z : s = x
            · subst z; exact Int.le_refl _
            · have := h1 s (by omega); omega) (Or.inr ⟨by omega, rfl, fun s hs => by have := h1 s hs; omega⟩)
          refine ⟨?_, c', ca', S', ?_, k2, k3⟩
          · show okb_Se_bestSetting_24 _ _ _ _ _ _ _ _ _ _ _
            unfold okb_Se_bestSetting_24; simp only [lettn]
            exact ⟨fun w => absurd w c, fun _ => ⟨fun w => absurd w n0, fun _ => ⟨d3, fun w => absurd w n1, fun _ => o⟩⟩⟩
          · show bd_Se_bestSetting_24 _ _ _ _ _ _ _ _ _ _ = _
            unfold bd_Se_bestSetting_24; simp only [lettn]; rw [if_neg c, if_neg n0, if_neg n1]; exact k1
theorem best_R (hp : PR w0 w1 w2 w3 w4 r) (h : RowOK T r) {L : Int} {f g : Nat} {ca : IV} {S : Int} (hc : CiR ca r S f g L) :
    ok_Se_bestSetting ca w0 w1 w3 w4 ∧ ∃ (c : Nat) (ca' : IV) (S' : Int), sp_Se_bestSetting ca w0 w1 w3 w4 = (nI c, ca') ∧ IsBest (zam r f g L) (10 ^ zD r) c ∧ CiR ca' r S' f g L := by
  have hN := zN h
  obtain ⟨s1, s2⟩ := c_settings hp h
  obtain ⟨v, ca1, S1, a1, a2, a3, a4, -⟩ := ideal_R hp h hc
  obtain ⟨b1, b2, b3⟩ := c_amt hp h a1 (sE (s := v) (by omega))
  have l1 := e64_w 0 20000000000001 (e64_add b1 (e64_lit 1 (1 : Int64) rfl) (by decide) (by decide)) (by decide) (by decide)
  obtain ⟨o, c', ca', S', k1, k2, k3⟩ := c_best_loop hp h a2 (10 ^ zD r : Nat) big 0 0 _ _ _ _ (by omega) (by rw [big_eq]; omega) (by omega) l1 (fun s hs => absurd hs (by omega)) (Or.inl rfl) b2
  unfold ok_Se_bestSetting sp_Se_bestSetting
  simp only [lettn]
  rw [s1, a3]
  exact ⟨⟨s2, a4, b3, o⟩, c', ca', S', k1, k2, k3⟩
/-- both find the same setting -/
theorem best_both (hp : PR w0 w1 w2 w3 w4 r) (h : RowOK T r) {ld : Int64} {L : Int} (hl : E64 ld L 2 3) {f g : Nat} (hf : f < 5) (hg : g < 5) {ca : IV} {S : Int} (hc : CiR ca r S f g L) :
    ok_Se_bestSetting ca w0 w1 w3 w4 ∧ ok_Mo_bestOf (lN f) (lN g) ld r ∧ ∃ (c : Nat) (ca' : IV) (S' : Int), c ≤ 9999 ∧ sp_Se_bestSetting ca w0 w1 w3 w4 = (nI c, ca') ∧ sp_Mo_bestOf (lN f) (lN g) ld r = nI c ∧ CiR ca' r S' f g L := by
  have hN := zN h
  obtain ⟨o1, c, ca', S', k1, k2, k3⟩ := best_R hp h hc
  obtain ⟨o2, d, j1, j2⟩ := m_best h hl hf hg
  have := best_one k2 j2
  subst this
  exact ⟨o1, o2, c, ca', S', by have := k2.1; omega, k1, j1, k3⟩
/-! ===== how many are better ===== -/
def zcnt (A : Nat → Int) (l : Int) : Nat → Nat
  | 0 => 0
  | n + 1 => zcnt A l n + (if A n < l then 1 else 0)
theorem zcnt_skip {A : Nat → Int} {l : Int} (x : Nat) : ∀ m, (∀ s, x < s → s ≤ x + m → l ≤ A s) → zcnt A l (x + m + 1) = zcnt A l (x + 1)
  | 0, _ => rfl
  | m + 1, h => by
    show zcnt A l (x + m + 1) + (if A (x + m + 1) < l then 1 else 0) = _
    rw [zcnt_skip x m (fun s h1 h2 => h s h1 (by omega)), if_neg (by have := h (x + m + 1) (by omega) (by omega); omega)]; rfl
theorem zcnt_le (A : Nat → Int) (l : Int) : ∀ n, zcnt A l n ≤ n
  | 0 => Nat.le_refl _
  | n + 1 => by have := zcnt_le A l n; simp only [zcnt]; split <;> omega
theorem zcnt_0 {A : Nat → Int} {l : Int} (hA : ∀ s, 0 ≤ A s) (hl : l ≤ 0) : ∀ n, zcnt A l n = 0
  | 0 => rfl
  | n + 1 => by simp only [zcnt]; rw [zcnt_0 hA hl n, if_neg (by have := hA n; omega)]
theorem c_cnt_loop (hp : PR w0 w1 w2 w3 w4 r) (h : RowOK T r) {L : Int} {f g : Nat} {lim : Int64} {Lim : Int} (hl : E64 lim Lim 0 20000000000001) :
    ∀ (n u x : Nat) (ca : IV) (S : Int), x + n = (10 ^ zD r : Nat) → n < u → CiR ca r S f g L →
    ok_Se_countBelow_14 (nI (10 ^ zD r)) lim w0 w1 w3 w4 u (nI (zcnt (zam r f g L) Lim x)) (nI x) ca ∧ ∃ (ca' : IV) (S' : Int), sp_Se_countBelow_14 (nI (10 ^ zD r)) lim w0 w1 w3 w4 u (nI (zcnt (zam r f g L) Lim x)) (nI x) ca = (nI (zcnt (zam r f g L) Lim (10 ^ zD r)), ca') ∧ CiR ca' r S' f g L
  | n, 0, _, _, _, _, hf, _ => absurd hf (by omega)
  | n, u + 1, x, ca, S, hx, hu, hc => by
    have hN := zN h
    have hnn : ∀ s, 0 ≤ zam r f g L s := fun s => zabs_nn _
    by_cases qx : x = 10 ^ zD r
    · have c : nI (10 ^ zD r) ≤ nI x := by rw [nzle (by omega) (by omega)]; omega
      refine ⟨?_, ca, S, ?_, hc⟩
      · show okb_Se_countBelow_14 _ _ _ _ _ _ _ _ _ _ _
        unfold okb_Se_countBelow_14; exact ⟨fun _ => trivial, fun w => absurd c w⟩
      · show bd_Se_countBelow_14 _ _ _ _ _ _ _ _ _ _ = _
        unfold bd_Se_countBelow_14; rw [if_pos c, qx]
    · have c : ¬ nI (10 ^ zD r) ≤ nI x := by rw [nzle (by omega) (by omega)]; omega
      have e0 := lec hl 0 0 rfl
      by_cases q0 : Lim ≤ 0
      · refine ⟨?_, ca, S, ?_, hc⟩
        · show okb_Se_countBelow_14 _ _ _ _ _ _ _ _ _ _ _
          unfold okb_Se_countBelow_14; exact ⟨fun w => absurd w c, fun _ => ⟨fun _ => trivial, fun w => absurd (e0.mpr q0) w⟩⟩
        · show bd_Se_countBelow_14 _ _ _ _ _ _ _ _ _ _ = _
          unfold bd_Se_countBelow_14; rw [if_neg c, if_pos (e0.mpr q0), zcnt_0 hnn q0, zcnt_0 hnn q0]
      · have n0 : ¬ lim ≤ (0 : Int64) := fun w => q0 (e0.mp w)
        obtain ⟨d1, d2, d3⟩ := c_deflAt hp h hc (sE (s := x) (by omega))
        have d1w := e64_w (-20000000000000) 20000000000000 d1 (by decide) (by decide)
        have ab := abs_E d1w
        have e1 : lim ≤ (if 0 < (sp_Se_deflectionAt (nI x) ca w0 w1 w3 w4).1 then (sp_Se_deflectionAt (nI x) ca w0 w1 w3 w4).1 else -(sp_Se_deflectionAt (nI x) ca w0 w1 w3 w4).1) ↔ Lim ≤ zam r f g L x := by rw [Int64.le_iff_toInt_le, hl.1, ab.1]
        obtain ⟨o1, m, ca3, S3, a1, a2, a3, a4⟩ := c_alike hp h d1w hl (at_ := x) (by omega) d2
        obtain ⟨o2, ca4, S4, b1, b2⟩ := c_cnt_loop hp h hl ((10 ^ zD r : Nat) - (x + m + 1)) u (x + m + 1) ca3 S3 (by omega) (by omega) a2
        have en : nI x + (if (0 : Int32) < nI m then nI m else (0 : Int32)) + (1 : Int32) = nI (x + m + 1) := by rw [nzmax0 m (by omega), nzadd x m (by omega), nzadd1 _ (by omega)]
        have ek : zcnt (zam r f g L) Lim (x + m + 1) = zcnt (zam r f g L) Lim x + (if zam r f g L x < Lim then 1 else 0) := zcnt_skip x m a4
        have hle := zcnt_le (zam r f g L) Lim x
        have k47 : ∀ t : Int32, t = nI (zcnt (zam r f g L) Lim (x + m + 1)) → ok_Se_countBelow_47 (nI x) (sp_Se_deflectionAt (nI x) ca w0 w1 w3 w4) lim w0 w1 w3 w4 (sp_Se_countBelow_14 (nI (10 ^ zD r)) lim w0 w1 w3 w4 u) (ok_Se_countBelow_14 (nI (10 ^ zD r)) lim w0 w1 w3 w4 u) t ∧ sp_Se_countBelow_47 (nI x) (sp_Se_deflectionAt (nI x) ca w0 w1 w3 w4) lim w0 w1 w3 w4 (sp_Se_countBelow_14 (nI (10 ^ zD r)) lim w0 w1 w3 w4 u) t = (nI (zcnt (zam r f g L) Lim (10 ^ zD r)), ca4) := by
          intro t ht
          unfold ok_Se_countBelow_47 sp_Se_countBelow_47
          simp only [lettn]
          rw [a1, ht]
          dsimp only
          rw [en]
          exact ⟨⟨o1, o2⟩, b1⟩
        by_cases q1 : Lim ≤ zam r f g L x
        · obtain ⟨j1, j2⟩ := k47 (nI (zcnt (zam r f g L) Lim x)) (by rw [ek, if_neg (by omega)]; rfl)
          refine ⟨?_, ca4, S4, ?_, b2⟩
          · show okb_Se_countBelow_14 _ _ _ _ _ _ _ _ _ _ _
            unfold okb_Se_countBelow_14; simp only [lettn]
            exact ⟨fun w => absurd w c, fun _ => ⟨fun w => absurd w n0, fun _ => ⟨d3, fun _ => j1, fun w => absurd (e1.mpr q1) w⟩⟩⟩
          · show bd_Se_countBelow_14 _ _ _ _ _ _ _ _ _ _ = _
            unfold bd_Se_countBelow_14; simp only [lettn]; rw [if_neg c, if_neg n0, if_pos (e1.mpr q1)]; exact j2
        · have n1 : ¬ lim ≤ (if 0 < (sp_Se_deflectionAt (nI x) ca w0 w1 w3 w4).1 then (sp_Se_deflectionAt (nI x) ca w0 w1 w3 w4).1 else -(sp_Se_deflectionAt (nI x) ca w0 w1 w3 w4).1) := fun w => q1 (e1.mp w)
          obtain ⟨j1, j2⟩ := k47 (nI (zcnt (zam r f g L) Lim x) + 1) (by rw [ek, if_pos (by omega), nzadd1 _ (by omega)])
          refine ⟨?_, ca4, S4, ?_, b2⟩
          · show okb_Se_countBelow_14 _ _ _ _ _ _ _ _ _ _ _
            unfold okb_Se_countBelow_14; simp only [lettn]
            exact ⟨fun w => absurd w c, fun _ => ⟨fun w => absurd w n0, fun _ => ⟨d3, fun w => absurd w n1, fun _ => j1⟩⟩⟩
          · show bd_Se_countBelow_14 _ _ _ _ _ _ _ _ _ _ = _
            unfold bd_Se_countBelow_14; simp only [lettn]; rw [if_neg c, if_neg n0, if_neg n1]; exact j2
theorem m_cnt_loop (h : RowOK T r) (o : IV) {lim : Int64} {Lim : Int} (hl : lim.toInt = Lim) :
    ∀ (n u x : Nat), x + n = (10 ^ zD r : Nat) → n < u → ok_Mo_better_22 r o lim u (nI (zcnt (zam r (zf r) (zg r) (zr r 32)) Lim x)) (nI x) ∧ sp_Mo_better_22 r o lim u (nI (zcnt (zam r (zf r) (zg r) (zr r 32)) Lim x)) (nI x) = (nI (zcnt (zam r (zf r) (zg r) (zr r 32)) Lim (10 ^ zD r)), o)
  | n, 0, _, _, hf => absurd hf (by omega)
  | 0, u + 1, x, hx, _ => by
    have hN := zN h
    obtain ⟨s1, s2⟩ := m_settings h
    have c : nI (10 ^ zD r) ≤ nI x := by rw [nzle (by omega) (by omega)]; omega
    constructor
    · show okb_Mo_better_22 _ _ _ _ _ _ _
      unfold okb_Mo_better_22; simp only [lettn]; rw [s1]; exact ⟨s2, fun _ => trivial, fun w => absurd c w⟩
    · show bd_Mo_better_22 _ _ _ _ _ _ = _
      unfold bd_Mo_better_22; simp only [lettn]; rw [s1, if_pos c, show x = 10 ^ zD r by omega]
  | n + 1, u + 1, x, hx, hu => by
    have hN := zN h
    obtain ⟨s1, s2⟩ := m_settings h
    have c : ¬ nI (10 ^ zD r) ≤ nI x := by rw [nzle (by omega) (by omega)]; omega
    obtain ⟨p1, p2⟩ := m_plainNow h (sE (s := x) (by omega))
    have ab := m_abs (e64_w (-20000000000000) 20000000000000 p1 (by decide) (by decide))
    have e1 : lim ≤ sp_Mo_amount (sp_Mo_plainNow (nI x) r) ↔ Lim ≤ zam r (zf r) (zg r) (zr r 32) x := by rw [Int64.le_iff_toInt_le, hl, ab.1]
    obtain ⟨j1, j2⟩ := m_cnt_loop h o hl n u (x + 1) (by omega) (by omega)
    have hle := zcnt_le (zam r (zf r) (zg r) (zr r 32)) Lim x
    by_cases q : Lim ≤ zam r (zf r) (zg r) (zr r 32) x
    · have ek : nI (zcnt (zam r (zf r) (zg r) (zr r 32)) Lim x) + (0 : Int32) = nI (zcnt (zam r (zf r) (zg r) (zr r 32)) Lim (x + 1)) := by
        rw [show (0 : Int32) = nI 0 from rfl, nzadd _ _ (by omega)]; simp only [zcnt]; rw [if_neg (by omega)]
      constructor
      · show okb_Mo_better_22 _ _ _ _ _ _ _
        unfold okb_Mo_better_22 ok_Mo_better_51; simp only [lettn]; rw [s1, ek, nzadd1 x (by omega)]
        exact ⟨s2, fun w => absurd w c, fun _ => ⟨p2, fun _ => j1, fun w => absurd (e1.mpr q) w⟩⟩
      · show bd_Mo_better_22 _ _ _ _ _ _ = _
        unfold bd_Mo_better_22 sp_Mo_better_51; simp only [lettn]; rw [s1, if_neg c, if_pos (e1.mpr q), ek, nzadd1 x (by omega)]; exact j2
    · have n1 : ¬ lim ≤ sp_Mo_amount (sp_Mo_plainNow (nI x) r) := fun w => q (e1.mp w)
      have ek : nI (zcnt (zam r (zf r) (zg r) (zr r 32)) Lim x) + (1 : Int32) = nI (zcnt (zam r (zf r) (zg r) (zr r 32)) Lim (x + 1)) := by
        rw [nzadd1 _ (by omega)]; simp only [zcnt]; rw [if_pos (by omega)]
      constructor
      · show okb_Mo_better_22 _ _ _ _ _ _ _
        unfold okb_Mo_better_22 ok_Mo_better_51; simp only [lettn]; rw [s1, ek, nzadd1 x (by omega)]
        exact ⟨s2, fun w => absurd w c, fun _ => ⟨p2, fun w => absurd w n1, fun _ => j1⟩⟩
      · show bd_Mo_better_22 _ _ _ _ _ _ = _
        unfold bd_Mo_better_22 sp_Mo_better_51; simp only [lettn]; rw [s1, if_neg c, if_neg n1, ek, nzadd1 x (by omega)]; exact j2
end CU4
