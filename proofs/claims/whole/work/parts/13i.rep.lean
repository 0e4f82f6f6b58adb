section TRI
variable {T : Int} {r : LV} {o o' w0 w1 w2 w3 w4 ea rev rev' rb rb' rp rp' : IV} {rar : NI} {ral : NL} {n L : Nat} {p q : Int32} {v u : Int64} {V : Int}
/-! ===== the report ===== -/
def RB (L : Nat) (rev rb o rp : IV) : Prop := rev 1 = nI L ∧ o 28 = nI L ∧ ∀ k, k < L → rb k = rp k
/-- one sign on both sides -/
theorem sig_R (p : Int32) (h : RB L rev rb o rp) (hl : L < 1000) : ok_Re_addSign p rev ∧ ok_Mo_write p o ∧ ∃ rev' rb' o' rp', sp_Re_addSign p rev rb = (rev', rb') ∧ sp_Mo_write p o rp = (o', rp') ∧ RB (L + 1) rev' rb' o' rp' ∧ (∀ k, k ≠ 28 → o' k = o k) := by
  obtain ⟨h1, h2, h3⟩ := h
  have c : ¬ (1000 : Int32) ≤ rev 1 := by rw [h1, show (1000 : Int32) = nI 1000 from rfl, nzle (by omega) (by omega)]; omega
  unfold ok_Re_addSign ok_Mo_write sp_Re_addSign sp_Mo_write
  simp only [lettn]
  rw [if_neg c, h1, h2, cl_nI (by omega), nzadd1 L (by omega)]
  refine ⟨⟨fun w => absurd w (by rw [← h1]; exact c), fun _ => ⟨vp_nI (by omega) (by decide), trivial⟩⟩, ⟨vp_nI (by omega) (by decide), trivial⟩, _, _, _, _, rfl, rfl, ⟨us, us, fun k hk => ?_⟩, fun k hk => un hk⟩
  by_cases qk : k = L
  · subst qk; rw [us, us]
  · rw [un qk, un qk]; exact h3 k (by omega)
def pl : Nat → Int64
  | 0 => 0
  | m + 1 => lN (10 ^ m)
theorem pl_div : ∀ m, m < 18 → pl (m + 1) / (10 : Int64) = pl m := by decide +kernel
theorem pl_z : ∀ m, m < 18 → (pl (m + 1)).toInt = ((10 ^ m : Nat) : Int) ∧ (1 : Int) ≤ ((10 ^ m : Nat) : Int) ∧ ((10 ^ m : Nat) : Int) ≤ 100000000000000000 := by decide +kernel
theorem sig_c : ∀ d, d < 10 → (((((48 : Int64) + lN d).toInt32).toUInt32 % 65536).toInt32) = nI (48 + d) ∧ (48 : Int32) + (lN d).toInt32 = nI (48 + d) := by decide +kernel
theorem p10m {a b : Nat} (h : a ≤ b) : (10 : Nat) ^ a ≤ 10 ^ b := Nat.pow_le_pow_right (by decide) h
theorem num_dig (hv : E64 v V 0 10000000000000) {m : Nat} (hm : m < 18) : ∃ d, d < 10 ∧ v / pl (m + 1) - v / pl (m + 1) / (10 : Int64) * (10 : Int64) = lN d := by
  obtain ⟨p1, p2, p3⟩ := pl_z m hm
  have k := e64_div 0 10000000000000 hv (⟨p1, p2, p3⟩ : E64 (pl (m + 1)) ((10 ^ m : Nat) : Int) 1 100000000000000000) (by decide) (by decide) (by decide) (by decide) (by decide)
  have k2 := rem_64 k (e64_lit 10 (10 : Int64) rfl |> fun h => (⟨h.1, by decide, by decide⟩ : E64 (10 : Int64) 10 1 10))
  refine ⟨(V.tdiv ((10 ^ m : Nat) : Int) % 10).toNat, by omega, ?_⟩
  exact Int64.toInt_inj.mp (by rw [k2.1, lNz (by omega)]; omega)
/-- the digits from one place on -/
theorem dig_R (hv : E64 v V 0 10000000000000) : ∀ m f1 f2 L (rev rb o rp : IV), m ≤ 18 → m < f1 → m < f2 → L + m ≤ 1000 → (∀ k, k < m → pl (k + 1) ≤ u ∨ ¬ v < pl (k + 1)) → RB L rev rb o rp →
    ok_Re_addNumber_5 u v f1 (pl m) rev rb ∧ ok_Mo_writeNumber_31 v f2 (nI m - 1) o rp ∧ ∃ rev' rb' o' rp', sp_Re_addNumber_5 u v f1 (pl m) rev rb = (rev', rb') ∧ sp_Mo_writeNumber_31 v f2 (nI m - 1) o rp = (o', rp') ∧ RB (L + m) rev' rb' o' rp' ∧ (∀ k, k ≠ 28 → o' k = o k)
  | m, 0, _, _, _, _, _, _, _, hf, _, _, _, _ => absurd hf (Nat.not_lt_zero m)
  | m, _, 0, _, _, _, _, _, _, _, hf, _, _, _ => absurd hf (Nat.not_lt_zero m)
  | 0, f1 + 1, f2 + 1, L, rev, rb, o, rp, _, _, _, _, _, h => by
    refine ⟨?_, ?_, rev, rb, o, rp, ?_, ?_, h, fun _ _ => rfl⟩
    · show okb_Re_addNumber_5 _ _ _ _ _ _ _
      unfold okb_Re_addNumber_5
      exact ⟨fun _ => trivial, fun w => absurd (show pl 0 ≤ 0 by decide) w⟩
    · show okb_Mo_writeNumber_31 _ _ _ _ _ _
      unfold okb_Mo_writeNumber_31
      exact ⟨fun _ => trivial, fun w => absurd (show nI 0 - 1 < 0 by decide) w⟩
    · show bd_Re_addNumber_5 _ _ _ _ _ _ = _
      unfold bd_Re_addNumber_5
      rw [if_pos (show pl 0 ≤ 0 by decide)]
    · show bd_Mo_writeNumber_31 _ _ _ _ _ = _
      unfold bd_Mo_writeNumber_31
      rw [if_pos (show nI 0 - 1 < 0 by decide)]
  | m + 1, f1 + 1, f2 + 1, L, rev, rb, o, rp, hm, hf1, hf2, hL, hc, h => by
    obtain ⟨p1, p2, p3⟩ := pl_z m (by omega)
    obtain ⟨d, d1, d2⟩ := num_dig hv (show m < 18 by omega)
    obtain ⟨s1, s2⟩ := sig_c d d1
    have n0 : ¬ pl (m + 1) ≤ 0 := by rw [Int64.le_iff_toInt_le, p1]; show ¬ ((10 ^ m : Nat) : Int) ≤ 0; omega
    have n1 : ¬ pl (m + 1) = 0 := fun w => n0 (by rw [w]; decide)
    have em : nI (m + 1) - 1 = nI m := nzsub (m + 1) 1 (by omega) (by omega)
    have nm : ¬ nI m < 0 := by rw [Int32.lt_iff_toInt_lt, nIz (by omega)]; show ¬ (m : Int) < 0; omega
    have et : sp_Mo_tenTo (nI m) = pl (m + 1) := mo_ten (by omega)
    have ot := mo_ten_o (n := m) (by omega)
    have ed : nI m + (-1 : Int32) = nI m - 1 := by
      refine Int32.toInt_inj.mp ?_
      have z : (-1 : Int32).toInt = -1 := rfl
      have z2 : (1 : Int32).toInt = 1 := rfl
      rw [Kit.i32_add (by rw [nIz (by omega), z]; omega) (by rw [nIz (by omega), z]; omega), Kit.i32_sub (by rw [nIz (by omega), z2]; omega) (by rw [nIz (by omega), z2]; omega), z, z2]
      omega
    obtain ⟨g1, g2, r1, b1, o1, q1, g3, g4, g5, g6⟩ := sig_R (nI (48 + d)) h (by omega)
    obtain ⟨i1, i2, r2, b2, o2, q2, i3, i4, i5, i6⟩ := dig_R hv m f1 f2 (L + 1) r1 b1 o1 q1 (by omega) (by omega) (by omega) (by omega) (fun k hk => hc k (by omega)) g5
    rw [show L + 1 + m = L + (m + 1) by omega] at i5
    have uC : sp_Re_addNumber_26 v (pl (m + 1)) rev rb (sp_Re_addNumber_5 u v f1) = (r2, b2) := by
      unfold sp_Re_addNumber_26 sp_Re_addNumber_44
      simp only [lettn]
      rw [d2, s1, g3, pl_div m (by omega)]
      exact i3
    have uO : ok_Re_addNumber_26 v (pl (m + 1)) rev rb (sp_Re_addNumber_5 u v f1) (ok_Re_addNumber_5 u v f1) := by
      unfold ok_Re_addNumber_26 ok_Re_addNumber_44
      simp only [lettn]
      rw [d2, s1, g3, pl_div m (by omega)]
      exact ⟨n1, g1, i1⟩
    refine ⟨?_, ?_, r2, b2, o2, q2, ?_, ?_, i5, fun k hk => (i6 k hk).trans (g6 k hk)⟩
    · show okb_Re_addNumber_5 _ _ _ _ _ _ _
      unfold okb_Re_addNumber_5
      refine ⟨fun w => absurd w n0, fun _ => ⟨fun _ => uO, fun c1 => ⟨fun c2 => ?_, fun _ => uO⟩⟩⟩
      exact absurd c2 ((hc m (by omega)).resolve_left c1)
    · show okb_Mo_writeNumber_31 _ _ _ _ _ _
      unfold okb_Mo_writeNumber_31
      simp only [lettn]
      rw [em, et, d2, s2, g4, ed]
      exact ⟨fun w => absurd w nm, fun _ => ⟨ot, n1, g2, i2⟩⟩
    · show bd_Re_addNumber_5 _ _ _ _ _ _ = _
      unfold bd_Re_addNumber_5
      rw [if_neg n0, uC]
      by_cases c1 : pl (m + 1) ≤ u
      · rw [if_pos c1]
      · rw [if_neg c1, if_neg ((hc m (by omega)).resolve_left c1)]
    · show bd_Mo_writeNumber_31 _ _ _ _ _ = _
      unfold bd_Mo_writeNumber_31
      simp only [lettn]
      rw [em, if_neg nm, et, d2, s2, g4, ed]
      exact i4
/-- the places ahead of the first digit -/
theorem skip_R (D : Nat) : ∀ k f, k + D ≤ 18 → k + D < f → 1 ≤ D → (∀ j, D ≤ j → j < 18 → ¬ pl (j + 1) ≤ u ∧ v < pl (j + 1)) → ∃ f', D < f' ∧ sp_Re_addNumber_5 u v f (pl (k + D)) rev rb = sp_Re_addNumber_5 u v f' (pl D) rev rb ∧ (ok_Re_addNumber_5 u v f' (pl D) rev rb → ok_Re_addNumber_5 u v f (pl (k + D)) rev rb)
  | k, 0, _, hf, _, _ => absurd hf (Nat.not_lt_zero _)
  | 0, f + 1, _, hf, _, _ => ⟨f + 1, by omega, by rw [Nat.zero_add], fun w => by rw [Nat.zero_add]; exact w⟩
  | k + 1, f + 1, hk, hf, h1, hc => by
    obtain ⟨f', a, b, c⟩ := skip_R D k f (by omega) (by omega) h1 hc
    obtain ⟨c1, c2⟩ := hc (k + D) (by omega) (by omega)
    obtain ⟨p1, p2, p3⟩ := pl_z (k + D) (by omega)
    have n0 : ¬ pl (k + D + 1) ≤ 0 := by rw [Int64.le_iff_toInt_le, p1]; show ¬ ((10 ^ (k + D) : Nat) : Int) ≤ 0; omega
    rw [show k + 1 + D = k + D + 1 by omega]
    refine ⟨f', a, ?_, fun w => ?_⟩
    · show bd_Re_addNumber_5 _ _ _ _ _ _ = _
      unfold bd_Re_addNumber_5 sp_Re_addNumber_44
      simp only [lettn]
      rw [if_neg n0, if_neg c1, if_pos c2, pl_div _ (by omega)]
      exact b
    · show okb_Re_addNumber_5 _ _ _ _ _ _ _
      unfold okb_Re_addNumber_5 ok_Re_addNumber_44
      simp only [lettn]
      rw [pl_div _ (by omega)]
      exact ⟨fun w => absurd w n0, fun _ => ⟨fun w => absurd w c1, fun _ => ⟨fun _ => c w, fun w => absurd c2 w⟩⟩⟩
/-- how many digits there are -/
theorem many_R (hv : E64 v V 0 10000000000000) {g : Nat} (hg : g ≤ 4) {o rp : IV} : ∀ m f x, x + m = 14 → m < f → 1 ≤ x → (∀ k, 1 ≤ k → k < x → k < g ∨ ¬ v < pl (k + 1)) →
    ∃ D, x ≤ D ∧ D ≤ 14 ∧ g ≤ D ∧ v < pl (D + 1) ∧ (∀ k, 1 ≤ k → k < D → k < g ∨ ¬ v < pl (k + 1)) ∧ sp_Mo_writeNumber_3 (nI g) v o rp f (nI x) = sp_Mo_writeNumber_25 (nI D) v o rp ∧ (ok_Mo_writeNumber_25 (nI D) v o rp → ok_Mo_writeNumber_3 (nI g) v o rp f (nI x))
  | m, 0, _, _, hf, _, _ => absurd hf (Nat.not_lt_zero m)
  | m, f + 1, x, hx, hf, h1, hc => by
    have et : sp_Mo_tenTo (nI x) = pl (x + 1) := mo_ten (by omega)
    have ot := mo_ten_o (n := x) (by omega)
    have ex := nzadd1 x (by omega)
    have cg : nI x < nI g ↔ x < g := nzlt (by omega) (by omega)
    by_cases q : x < g ∨ ¬ v < pl (x + 1)
    · -- one more
      obtain ⟨m', rfl⟩ : ∃ m', m = m' + 1 := by
        refine ⟨m - 1, ?_⟩
        by_cases w : m = 0
        · have x14 : x = 14 := by omega
          subst x14
          rcases q with q | q
          · omega
          · exfalso; apply q
            rw [Int64.lt_iff_toInt_lt, hv.1]
            have := hv.2.2
            show V < 100000000000000
            omega
        · omega
      obtain ⟨D, a, b, c, d, e, i, j⟩ := many_R hv hg (o := o) (rp := rp) m' f (x + 1) (by omega) (by omega) (by omega) (fun k k1 k2 => by
        by_cases w : k = x
        · rw [w]; exact q
        · exact hc k k1 (by omega))
      refine ⟨D, by omega, b, c, d, e, ?_, fun w => ?_⟩
      · show bd_Mo_writeNumber_3 _ _ _ _ _ _ = _
        unfold bd_Mo_writeNumber_3 sp_Mo_writeNumber_19
        simp only [lettn]
        rw [et, ex]
        by_cases c1 : x < g
        · rw [if_pos (cg.mpr c1)]; exact i
        · rw [if_neg (fun w => c1 (cg.mp w)), if_neg (q.resolve_left c1)]; exact i
      · show okb_Mo_writeNumber_3 _ _ _ _ _ _ _
        unfold okb_Mo_writeNumber_3 ok_Mo_writeNumber_19
        simp only [lettn]
        rw [et, ex]
        exact ⟨fun _ => j w, fun c1 => ⟨ot, fun c2 => absurd c2 (q.resolve_left (fun y => c1 (cg.mpr y))), fun _ => j w⟩⟩
    · have q1 : ¬ x < g := fun w => q (Or.inl w)
      have q2 : v < pl (x + 1) := Classical.not_not.mp (fun w => q (Or.inr w))
      refine ⟨x, Nat.le_refl _, by omega, by omega, q2, hc, ?_, fun w => ?_⟩
      · show bd_Mo_writeNumber_3 _ _ _ _ _ _ = _
        unfold bd_Mo_writeNumber_3
        simp only [lettn]
        rw [et, if_neg (fun w => q1 (cg.mp w)), if_pos q2]
      · show okb_Mo_writeNumber_3 _ _ _ _ _ _ _
        unfold okb_Mo_writeNumber_3
        simp only [lettn]
        rw [et]
        exact ⟨fun c1 => absurd (cg.mp c1) q1, fun _ => ⟨ot, fun _ => w, fun c2 => absurd q2 c2⟩⟩
/-- a number on both sides -/
theorem num_R (hv : E64 v V 0 10000000000000) {g b0 : Nat} (h1 : 1 ≤ g) (hg : g ≤ 4) (hgb : g ≤ b0) (hvb : v < pl (b0 + 1)) (h : RB L rev rb o rp) (hl : L + b0 ≤ 1000) : ok_Re_addNumber v (pl g) rev rb ∧ ok_Mo_writeNumber v (nI g) o rp ∧ ∃ L' rev' rb' o' rp', sp_Re_addNumber v (pl g) rev rb = (rev', rb') ∧ sp_Mo_writeNumber v (nI g) o rp = (o', rp') ∧ L' ≤ L + b0 ∧ RB L' rev' rb' o' rp' ∧ (∀ k, k ≠ 28 → o' k = o k) := by
  obtain ⟨D, a, b, c, d, e, i, j⟩ := many_R hv hg (o := o) (rp := rp) 13 big 1 rfl (by rw [big_eq]; omega) (Nat.le_refl _) (fun k k1 k2 => by omega)
  have hD : D ≤ b0 := by
    rcases Nat.lt_or_ge b0 D with w | w
    · rcases e b0 (by omega) w with w2 | w2
      · omega
      · exact absurd hvb w2
    · exact w
  have pm0 : ∀ x, x < 18 → ∀ y, y < 18 → (pl (x + 1) ≤ pl (y + 1) ↔ x ≤ y) := by decide +kernel
  have pm : ∀ x y, x < 18 → y < 18 → (pl (x + 1) ≤ pl (y + 1) ↔ x ≤ y) := fun x y a b => pm0 x a y b
  obtain ⟨g', rfl⟩ : ∃ g', g = g' + 1 := ⟨g - 1, by omega⟩
  obtain ⟨f', s1, s2, s3⟩ := skip_R (u := pl (g' + 1)) (v := v) (rev := rev) (rb := rb) D (18 - D) big (by omega) (by rw [big_eq]; omega) (by omega) (fun k k1 k2 => ⟨fun w => by have := (pm k g' k2 (by omega)).mp w; omega, by
    have w := (pm D k (by omega) k2).mpr k1
    rw [Int64.le_iff_toInt_le] at w
    rw [Int64.lt_iff_toInt_lt] at d ⊢
    omega⟩)
  rw [show 18 - D + D = 18 by omega] at s2 s3
  obtain ⟨t1, t2, r2, b2, o2, q2, t3, t4, t5, t6⟩ := dig_R (u := pl (g' + 1)) hv D f' big L rev rb o rp (by omega) s1 (by rw [big_eq]; omega) (by omega) (fun k hk => by
    by_cases k0 : k < g' + 1
    · exact Or.inl ((pm k g' (by omega) (by omega)).mpr (by omega))
    · exact Or.inr ((e k (by omega) hk).resolve_left k0)) h
  refine ⟨s3 t1, j ?_, L + D, r2, b2, o2, q2, s2.trans t3, i.trans ?_, by omega, t5, t6⟩
  · unfold ok_Mo_writeNumber_25
    simp only [lettn]
    exact t2
  · unfold sp_Mo_writeNumber_25
    simp only [lettn]
    exact t4
end TRI
