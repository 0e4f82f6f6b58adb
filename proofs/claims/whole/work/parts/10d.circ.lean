/-! ===== the class's parts and circuit, by the row ===== -/
/-- what the class's parts have for the row's places 0 to 28 -/
def pw (w0 w1 w2 w3 w4 : IV) (k : Nat) : Int32 := ([w0 0, w0 1, w0 2, w1 0, w1 1, w1 2, w1 3, w2 0, w2 1, w2 2, w2 3, w2 4, w0 5, w3 0, w3 1, w3 2, w4 0, w4 1, w4 2, w0 8, w0 9, w0 10, w0 11, w0 12, w0 13, w0 14, w0 15, w0 16, w0 17] : List Int32).getD k 0
def PR (w0 w1 w2 w3 w4 : IV) (r : LV) : Prop := ∀ k, k < 27 → k ≠ 22 → (pw w0 w1 w2 w3 w4 k).toInt = zr r k
section CI
variable {T : Int} {r : LV} {w0 w1 w2 w3 w4 : IV}
theorem pr_e {x : Int32} (hp : PR w0 w1 w2 w3 w4 r) (h : RowOK T r) (k : Nat) (a b : Int) (hx : x = pw w0 w1 w2 w3 w4 k) (ha : a = rLo k) (hb : b = rHi T k) (hk : k < 27 := by decide) (hk2 : k ≠ 22 := by decide) : E32 x (zr r k) a b := by
  subst hx
  have := row_w h k a b ha hb (by omega)
  exact ⟨hp k hk hk2, this.2⟩
theorem pr_err (hp : PR w0 w1 w2 w3 w4 r) (h : RowOK T r) : ∀ d, d < 4 → E32 (w1 d) (zr r (3 + d)) (-50000) 50000
  | 0, _ => pr_e hp h 3 _ _ rfl rfl rfl
  | 1, _ => pr_e hp h 4 _ _ rfl rfl rfl
  | 2, _ => pr_e hp h 5 _ _ rfl rfl rfl
  | 3, _ => pr_e hp h 6 _ _ rfl rfl rfl
  | d + 4, q => absurd q (by omega)
theorem pr_rat (hp : PR w0 w1 w2 w3 w4 r) (h : RowOK T r) : ∀ d, d < 5 → E32 (w2 d) (zr r (7 + d)) (-50000) 50000
  | 0, _ => pr_e hp h 7 _ _ rfl rfl rfl
  | 1, _ => pr_e hp h 8 _ _ rfl rfl rfl
  | 2, _ => pr_e hp h 9 _ _ rfl rfl rfl
  | 3, _ => pr_e hp h 10 _ _ rfl rfl rfl
  | 4, _ => pr_e hp h 11 _ _ rfl rfl rfl
  | d + 5, q => absurd q (by omega)
theorem c_dec (hp : PR w0 w1 w2 w3 w4 r) (h : RowOK T r) : w0 0 = nI (zD r) := nIo ((hp 0 (by decide) (by decide)).trans (zD_bd h).2.2.symm)
theorem pow_nI : ∀ k, k < 5 → E32 (nI (10 ^ k)) ((10 ^ k : Nat) : Int) 1 10000 := fun k hk => by
  have := p10 k hk
  exact ⟨nIz (by omega), by omega, by omega⟩
theorem c_settings (hp : PR w0 w1 w2 w3 w4 r) (h : RowOK T r) : sp_Pa_settings w0 = nI (10 ^ zD r) ∧ ok_Pa_settings w0 := by
  have hD := zD_bd h
  unfold sp_Pa_settings ok_Pa_settings
  simp only [lett]
  rw [c_dec hp h, pa_ten (by omega)]
  exact ⟨rfl, pa_ten_o (by omega), trivial⟩
theorem m_settings (h : RowOK T r) : sp_Mo_settings r = nI (10 ^ zD r) ∧ ok_Mo_settings r := by
  have hD := zD_bd h
  have hb := p10 (zD r) (by omega)
  unfold sp_Mo_settings ok_Mo_settings
  simp only [lett]
  rw [m_decades h, mo_ten (by omega)]
  exact ⟨nIo (by rw [Kit.i32_of_i64 (by rw [lNz (by omega)]; omega) (by rw [lNz (by omega)]; omega), lNz (by omega)]), mo_ten_o (by omega), trivial⟩
theorem c_weight (hp : PR w0 w1 w2 w3 w4 r) (h : RowOK T r) {d : Nat} (hd : d < zD r) : sp_Pa_weightOf (nI d) w0 = nI (10 ^ (zD r - 1 - d)) ∧ ok_Pa_weightOf (nI d) w0 := by
  have hD := zD_bd h
  unfold sp_Pa_weightOf ok_Pa_weightOf
  simp only [lett]
  rw [c_dec hp h, show (1 : Int32) = nI 1 from rfl, nzsub _ _ (by omega) (by omega), nzsub _ _ (by omega) (by omega), pa_ten (by omega)]
  exact ⟨rfl, pa_ten_o (by omega), trivial⟩
theorem c_stepOf (hp : PR w0 w1 w2 w3 w4 r) (h : RowOK T r) {d : Nat} (hd : d < zD r) : E32 (sp_Pa_stepOf (nI d) w0) (zstep r d) 1 10000000 ∧ ok_Pa_stepOf (nI d) w0 := by
  have hD := zD_bd h
  obtain ⟨h1, h2⟩ := c_weight hp h hd
  unfold sp_Pa_stepOf ok_Pa_stepOf
  simp only [lett]
  rw [h1]
  have hp3 : (10 : Nat) ^ (zD r - 1 - d) ≤ 1000 ∧ 1 ≤ (10 : Nat) ^ (zD r - 1 - d) := (show ∀ k, k < 4 → (10 : Nat) ^ k ≤ 1000 ∧ 1 ≤ (10 : Nat) ^ k by decide) _ (by omega)
  have k1 : E32 (nI (10 ^ (zD r - 1 - d))) ((10 ^ (zD r - 1 - d) : Nat) : Int) 1 1000 := ⟨nIz (by omega), by omega, by omega⟩
  exact ⟨e32_mul 1 10000000 (pr_e hp h 1 1 10000 rfl rfl rfl : E32 (w0 1) _ _ _) k1 (by decide) (by decide) (by decide), h2, trivial⟩
theorem c_cold_loop (hp : PR w0 w1 w2 w3 w4 r) (h : RowOK T r) : ∀ (n f : Nat) (acc st : Int64) (A : Int) (s x : Int32) (S : Int), n ≤ zD r → n < f → E64 acc A 0 ((4 - n) * 100000000000000) → st.toInt = zr r 1 * (10 ^ (zD r - n) : Nat) → E32 s S 0 9999 → x.toInt = n - 1 →
    ok_Pa_coldAt_20 w0 w1 f acc st s x ∧ E32 (sp_Pa_coldAt_20 w0 w1 f acc st s x) ((A + zcs r n S).tdiv 1000000 + zr r 2) 0 400000999
  | n, 0, _, _, _, _, _, _, _, hf, _, _, _, _ => absurd hf (by omega)
  | 0, f + 1, acc, st, A, s, x, S, hn, hf, ha, hst, hs, hx => by
    have hx0 : x < 0 := by rw [Int32.lt_iff_toInt_lt, hx]; decide
    show okb_Pa_coldAt_20 _ _ _ _ _ _ _ _ ∧ E32 (bd_Pa_coldAt_20 _ _ _ _ _ _ _) _ _ _
    unfold okb_Pa_coldAt_20 bd_Pa_coldAt_20
    rw [if_pos hx0]
    refine ⟨⟨fun _ => trivial, fun q => absurd hx0 q⟩, ?_⟩
    unfold sp_Pa_coldAt_88
    simp only [zcs, Int.add_zero]
    exact e32_add (e32_of64 (e64_divc 1000000 0 400000000 (e64_w 0 400000000000000 ha (Int.le_refl _) (by simp)) rfl (by decide) rfl rfl) (by decide) (by decide)) (pr_e hp h 2 0 999 rfl rfl rfl : E32 (w0 2) _ _ _) (by decide) (by decide)
  | n + 1, f + 1, acc, st, A, s, x, S, hn, hf, ha, hst, hs, hx => by
    have hD := zD_bd h
    have hx0 : ¬ x < 0 := by rw [Int32.lt_iff_toInt_lt, hx]; show ¬ ((n + 1 : Nat) : Int) - 1 < 0; omega
    have hxn : x = nI n := nIo (by rw [hx]; omega)
    have hx4 : ¬ (4 : Int32) ≤ x := by rw [hxn, show (4 : Int32) = nI 4 from rfl, nzle (by omega) (by omega)]; omega
    show okb_Pa_coldAt_20 _ _ _ _ _ _ _ _ ∧ E32 (bd_Pa_coldAt_20 _ _ _ _ _ _ _) _ _ _
    unfold okb_Pa_coldAt_20 bd_Pa_coldAt_20 ok_Pa_coldAt_46 sp_Pa_coldAt_46
    rw [if_neg hx0, if_neg hx4]
    simp only [lett]
    have e0 : zD r - (n + 1) = zD r - 1 - n := by omega
    rw [e0] at hst
    have hst2 : E64 st (zstep r n) 1 10000000 := ⟨hst, zstep_bd h n⟩
    obtain ⟨h3, h4⟩ := rem10 hs
    have h5 : E32 (w1 x.toNatClampNeg) (zr r (3 + n)) (-50000) 50000 := by rw [hxn, cl_nI (by omega)]; exact pr_err hp h n (by omega)
    have hx1 : (x + (-1 : Int32)).toInt = n - 1 := by
      rw [Kit.i32_add (by rw [hx]; show -2147483648 ≤ _ + (-1 : Int); omega) (by rw [hx]; show _ + (-1 : Int) < 2147483648; omega), hx]; show ((n + 1 : Nat) : Int) - 1 + (-1) = _; omega
    have k1 := e64_mul 0 90000000 (e64_of32 h3) hst2 (by decide) (by decide) (by decide)
    have k2 := e64_mul 0 100000000000000 k1 (e64_of32 (e32_add (e32_lit 1000000 (1000000 : Int32) rfl) h5 (by decide) (by decide))) (by decide) (by decide) (by decide)
    have k3 := e64_add ha k2 (by omega) (by omega)
    have k4 := e64_mul 10 100000000 hst2 (e64_lit 10 (10 : Int64) rfl) (by decide) (by decide) (by decide)
    have k5 : (st * (10 : Int64)).toInt = zr r 1 * (10 ^ (zD r - n) : Nat) := by
      rw [k4.1, zstep, show zD r - n = zD r - 1 - n + 1 by omega, Nat.pow_succ, Int.natCast_mul, ← Int.mul_assoc]; rfl
    have := c_cold_loop hp h n f _ _ _ _ _ _ (by omega) (by omega) (e64_w 0 ((4 - n) * 100000000000000) k3 (by omega) (by omega)) k5 h4 hx1
    refine ⟨⟨fun q => absurd q hx0, fun _ => ⟨fun q => absurd q hx4, fun _ => this.1⟩⟩, ?_⟩
    have e : A + zcs r (n + 1) S = A + S % 10 * zstep r n * (1000000 + zr r (3 + n)) + zcs r n (S / 10) := by simp only [zcs]; omega
    rw [e]
    exact this.2
theorem c_cold (hp : PR w0 w1 w2 w3 w4 r) (h : RowOK T r) {s : Int32} {S : Int} (hs : E32 s S 0 9999) : E32 (sp_Pa_coldAt s w0 w1) (zcold r S) 0 400000999 ∧ ok_Pa_coldAt s w0 w1 := by
  have hD := zD_bd h
  have := c_cold_loop hp h (zD r) big 0 (w0 1).toInt64 0 s (w0 0 - 1) S (Nat.le_refl _) (by rw [big_eq]; omega) ⟨rfl, Int.le_refl _, by omega⟩ (by
    rw [Kit.i64_of_i32, Nat.sub_self]; show (w0 1).toInt = zr r 1 * 1; rw [Int.mul_one]; exact hp 1 (by decide) (by decide)) hs (by
    rw [c_dec hp h, Kit.i32_sub (by rw [nIz (by omega)]; show -2147483648 ≤ _ - (1 : Int); omega) (by rw [nIz (by omega)]; show _ - (1 : Int) < 2147483648; omega), nIz (by omega)]; rfl)
  rw [Int.zero_add] at this
  exact ⟨this.2, this.1⟩
theorem c_nom : ∀ k, k < 5 → sp_Pa_nominalOf (nI k) = nI (1000 * 10 ^ k) := by decide +kernel
theorem c_val (hp : PR w0 w1 w2 w3 w4 r) (h : RowOK T r) {k : Nat} (hk : k < 5) : E32 (sp_Pa_valueOfKind (nI k) w2) (zohm r k) 950 10500000 := by
  have h1 : ¬ nI k < 0 := by rw [Int32.lt_iff_toInt_lt, nIz (by omega)]; show ¬ (k : Int) < 0; omega
  have h2 : nI k < (5 : Int32) := by rw [show (5 : Int32) = nI 5 from rfl, nzlt (by omega) (by omega)]; exact hk
  have h3 : ¬ (5 : Int32) ≤ nI k := by rw [show (5 : Int32) = nI 5 from rfl, nzle (by omega) (by omega)]; omega
  unfold sp_Pa_valueOfKind
  rw [if_neg h1, if_neg h3, if_pos h2, cl_nI (by omega)]
  simp only [lett]
  have hb := nom_bd k hk
  have hn : nomF k = nI (1000 * 10 ^ k) := (show ∀ k, k < 5 → nomF k = nI (1000 * 10 ^ k) by decide +kernel) k hk
  rw [hn]
  have k0 : E64 (nI (1000 * 10 ^ k)).toInt64 ((1000 * 10 ^ k : Nat) : Int) 1000 10000000 := e64_of32 ⟨nIz (by omega), by omega, by omega⟩
  have hr := e64_of32 (pr_rat hp h k hk)
  have k1 := e64_mul (-500000000000) 500000000000 k0 hr (by decide) (by decide) (by decide)
  have k2 := e64_divc 1000000 (-500000) 500000 k1 (show (1000000 : Int64).toInt = 1000000 from rfl) (by decide) (by decide) (by decide)
  have k3 := e32_of64 (e64_add k0 k2 (by decide) (by decide)) (by decide) (by decide)
  have k4 := (m_ohm h hk).1.2
  exact ⟨k3.1, k4⟩
/-- the circuit's numbers, by the row, a setting, two arms, the leads -/
def CiR (ca : IV) (r : LV) (S : Int) (f g : Nat) (L : Int) : Prop :=
  (ca 5).toInt = S ∧ (0 ≤ S ∧ S ≤ 9999) ∧ ca 1 = nI f ∧ f < 5 ∧ ca 2 = nI g ∧ g < 5 ∧ (ca 4).toInt = L ∧ (L = 2 ∨ L = 3) ∧ (ca 3).toInt = zr r 22 ∧ (ca 7).toInt = zr r 37 ∧ (ca 8).toInt = zr r 38 ∧
  (ca 13).toInt = zash r f g ∧ (ca 14).toInt = zcold r S ∧ (ca 15).toInt = zuw r ∧ (ca 16).toInt = zbw r S ∧ (ca 17).toInt = zus r L ∧ (ca 18).toInt = zbs r S L
theorem c_survey (hp : PR w0 w1 w2 w3 w4 r) (h : RowOK T r) {ca : IV} {S L : Int} (hS : 0 ≤ S ∧ S ≤ 9999) (hL : L = 2 ∨ L = 3) (h4 : (ca 4).toInt = L) (h7 : (ca 7).toInt = zr r 37) (h8 : (ca 8).toInt = zr r 38) (h14 : (ca 14).toInt = zcold r S) :
    (∀ j, j < 15 → sp_Ci_survey ca w0 w3 w4 j = ca j) ∧ (sp_Ci_survey ca w0 w3 w4 15).toInt = zuw r ∧ (sp_Ci_survey ca w0 w3 w4 16).toInt = zbw r S ∧ (sp_Ci_survey ca w0 w3 w4 17).toInt = zus r L ∧ (sp_Ci_survey ca w0 w3 w4 18).toInt = zbs r S L := by
  have b37 := row_w h 37 0 200000 rfl rfl
  have b38 := row_w h 38 0 200000 rfl rfl
  have q7 : E32 (ca 7) (zr r 37) 0 200000 := ⟨h7, b37.2⟩
  have q8 : E32 (ca 8) (zr r 38) 0 200000 := ⟨h8, b38.2⟩
  have qc : E32 (ca 14) (zcold r S) 0 400000999 := ⟨h14, (m_cold h (s := nI S.toNat) ⟨by rw [nIz (by omega)]; omega, hS⟩).1.2⟩
  have u1 := e64_mul (-800000000) 800000000 (e64_of32 (pr_e hp h 13 (-4000) 4000 rfl rfl rfl : E32 (w3 0) _ _ _)) (e64_of32 q7) (by decide) (by decide) (by decide)
  have u2 := e64_add (e64_lit 1000000000 (1000000000 : Int64) rfl) u1 (by decide) (by decide)
  have u3 := e64_mul 200000000000 180000000000000000 (e64_of32 (pr_e hp h 12 1000 100000000 rfl rfl rfl : E32 (w0 5) _ _ _)) u2 (by decide) (by decide) (by decide)
  have u4 := e32_of64 (e64_divc 1000000000 200 180000000 u3 (show (1000000000 : Int64).toInt = _ from rfl) (by decide) rfl rfl) (by decide) (by decide)
  have v1 := e64_mul (-800000000) 800000000 (e64_of32 (pr_e hp h 16 (-4000) 4000 rfl rfl rfl : E32 (w4 0) _ _ _)) (e64_of32 q8) (by decide) (by decide) (by decide)
  have v2 := e64_add (e64_lit 1000000000 (1000000000 : Int64) rfl) v1 (by decide) (by decide)
  have v3 := e64_mul 0 720001798200000000 (e64_of32 qc) v2 (by decide) (by decide) (by decide)
  have v4 := e32_of64 (e64_divc 1000000000 0 720001798 v3 (show (1000000000 : Int64).toInt = _ from rfl) (by decide) rfl rfl) (by decide) (by decide)
  have hc : ca 4 = (3 : Int32) ↔ L = 3 := by rw [← Int32.toInt_inj, h4]; exact Iff.rfl
  have l0 := pr_e hp h 19 0 99999 (rfl : w0 8 = _) rfl rfl
  have l1 := pr_e hp h 20 0 99999 (rfl : w0 9 = _) rfl rfl
  have t1 := e32_add u4 l0 (by decide) (by decide)
  unfold sp_Ci_survey sp_Ci_survey_92 sp_Ci_survey_123 sp_Ci_survey_148
  simp only [lett]
  have e4 : upd (upd ca 15 ((w0 5).toInt64 * ((1000000000 : Int64) + (w3 0).toInt64 * (ca 7).toInt64) / (1000000000 : Int64)).toInt32) 16 (((upd ca 15 ((w0 5).toInt64 * ((1000000000 : Int64) + (w3 0).toInt64 * (ca 7).toInt64) / (1000000000 : Int64)).toInt32 14).toInt64 * ((1000000000 : Int64) + (w4 0).toInt64 * (ca 8).toInt64)) / (1000000000 : Int64)).toInt32 4 = ca 4 := rfl
  rw [e4]
  by_cases q : ca 4 = (3 : Int32)
  · have hL3 := hc.mp q
    rw [if_pos q]
    refine ⟨fun j hj => ?_, u4.1, v4.1, ?_, ?_⟩
    · show upd _ 18 _ j = _; rw [un (by omega)]; show upd _ 17 _ j = _; rw [un (by omega)]; show upd _ 16 _ j = _; rw [un (by omega), un (by omega)]
    · show (_ + (0 : Int32)).toInt = _
      rw [zus, if_neg (by omega)]
      exact (e32_add t1 (e32_lit 0 0 rfl) (by decide) (by decide)).1
    · show (_ + w0 9).toInt = _
      rw [zbs, if_pos hL3]
      exact (e32_add v4 l1 (by decide) (by decide)).1
  · have hL2 : ¬ L = 3 := fun w => q (hc.mpr w)
    rw [if_neg q]
    refine ⟨fun j hj => ?_, u4.1, v4.1, ?_, ?_⟩
    · show upd _ 18 _ j = _; rw [un (by omega)]; show upd _ 17 _ j = _; rw [un (by omega)]; show upd _ 16 _ j = _; rw [un (by omega), un (by omega)]
    · show (_ + w0 9).toInt = _
      rw [zus, if_pos (by omega)]
      exact (e32_add t1 l1 (by decide) (by decide)).1
    · show (_ + (0 : Int32)).toInt = _
      rw [zbs, if_neg hL2]
      exact (e32_add v4 (e32_lit 0 0 rfl) (by decide) (by decide)).1
end CI
