/-! ===== the reference's numbers are the document's ===== -/
section PH
variable {T : Int} {r : LV}
theorem m_decades (h : RowOK T r) : sp_Mo_decades r = nI (zD r) := by
  have h1 := zD_bd h
  exact nIo ((e32_of64 (row_e h 0 (by decide)) (by decide) (show (4 : Int) < _ by decide)).1.trans h1.2.2.symm)
theorem m_stepOf (h : RowOK T r) {d : Nat} (hd : d < zD r) : E64 (sp_Mo_stepOf (nI d) r) (zstep r d) 1 10000000 ∧ ok_Mo_stepOf (nI d) r := by
  have h1 := zD_bd h
  have e : sp_Mo_decades r - (1 : Int32) - nI d = nI (zD r - 1 - d) := by
    rw [m_decades h, show (1 : Int32) = nI 1 from rfl, nzsub _ _ (by omega) (by omega), nzsub _ _ (by omega) (by omega)]
  have hp : (10 : Nat) ^ (zD r - 1 - d) ≤ 1000 ∧ 1 ≤ (10 : Nat) ^ (zD r - 1 - d) := (show ∀ k, k < 4 → (10 : Nat) ^ k ≤ 1000 ∧ 1 ≤ (10 : Nat) ^ k by decide) _ (by omega)
  unfold sp_Mo_stepOf ok_Mo_stepOf
  simp only [lett]
  rw [e, mo_ten (by omega)]
  refine ⟨?_, mo_ten_o (by omega), trivial⟩
  have h2 := row_w h 1 1 10000 rfl rfl
  have h3 : E64 (lN (10 ^ (zD r - 1 - d))) ((10 ^ (zD r - 1 - d) : Nat) : Int) 1 1000 := ⟨lNz (by omega), by omega, by omega⟩
  exact e64_mul 1 10000000 h2 h3 (by decide) (by decide) (by decide)
theorem rem10 {s : Int32} {S : Int} {b : Int} (h : E32 s S 0 b) : E32 (s - s / (10 : Int32) * (10 : Int32)) (S % 10) 0 9 ∧ E32 (s / (10 : Int32)) (S / 10) 0 b := by
  obtain ⟨rfl, h1, h2⟩ := h
  have hr := rg32 s
  have d1 : (s / (10 : Int32)).toInt = s.toInt / 10 := by
    rw [Kit.i32_div (by omega), Int.tdiv_eq_ediv_of_nonneg h1]; rfl
  have t : (10 : Int32).toInt = 10 := rfl
  have d2 : (s / (10 : Int32) * (10 : Int32)).toInt = s.toInt / 10 * 10 := by
    rw [Kit.i32_mul (by rw [d1, t]; omega) (by rw [d1, t]; omega), d1, t]
  refine ⟨⟨?_, by omega, by omega⟩, d1, by omega, by omega⟩
  rw [Kit.i32_sub (by rw [d2]; omega) (by rw [d2]; omega), d2]; omega
theorem m_cold_loop (h : RowOK T r) : ∀ (n f : Nat) (acc : Int64) (A : Int) (s x : Int32) (S : Int), n ≤ zD r → n < f → E64 acc A 0 ((4 - n) * 100000000000000) → E32 s S 0 9999 → x.toInt = n - 1 →
    ok_Mo_coldBy_13 r f acc s x ∧ E64 (sp_Mo_coldBy_13 r f acc s x) ((A + zcs r n S).tdiv 1000000 + zr r 2) 0 400000999
  | n, 0, _, _, _, _, _, _, hf, _, _, _ => absurd hf (by omega)
  | 0, f + 1, acc, A, s, x, S, hn, hf, ha, hs, hx => by
    have hx0 : x < 0 := by rw [Int32.lt_iff_toInt_lt, hx]; decide
    show okb_Mo_coldBy_13 _ _ _ _ _ _ ∧ E64 (bd_Mo_coldBy_13 _ _ _ _ _) _ _ _
    unfold okb_Mo_coldBy_13 bd_Mo_coldBy_13
    rw [if_pos hx0]
    refine ⟨⟨fun _ => trivial, fun q => absurd hx0 q⟩, ?_⟩
    unfold sp_Mo_coldBy_61
    simp only [zcs, Int.add_zero]
    exact e64_add (e64_divc 1000000 0 400000000 (e64_w 0 400000000000000 ha (Int.le_refl _) (by simp)) rfl (by decide) rfl rfl) (row_w h 2 0 999 rfl rfl) (by decide) (by decide)
  | n + 1, f + 1, acc, A, s, x, S, hn, hf, ha, hs, hx => by
    have hD := zD_bd h
    have hx0 : ¬ x < 0 := by rw [Int32.lt_iff_toInt_lt, hx]; show ¬ ((n + 1 : Nat) : Int) - 1 < 0; omega
    have hxn : x = nI n := nIo (by rw [hx]; omega)
    show okb_Mo_coldBy_13 _ _ _ _ _ _ ∧ E64 (bd_Mo_coldBy_13 _ _ _ _ _) _ _ _
    unfold okb_Mo_coldBy_13 bd_Mo_coldBy_13
    rw [if_neg hx0]
    simp only [lett]
    obtain ⟨h1, h2⟩ := m_stepOf h (d := n) (by omega)
    obtain ⟨h3, h4⟩ := rem10 hs
    have e3 : ((3 : Int32) + x) = nI (3 + n) := by rw [hxn, show (3 : Int32) = nI 3 from rfl, nzadd _ _ (by omega)]
    have h5 : E64 (r (nI (3 + n)).toNatClampNeg) (zr r (3 + n)) (-50000) 50000 := by rw [cl_nI (by omega)]; exact row_err h (by omega)
    have hx1 : (x + (-1 : Int32)).toInt = n - 1 := by
      rw [Kit.i32_add (by rw [hx]; show -2147483648 ≤ _ + (-1 : Int); omega) (by rw [hx]; show _ + (-1 : Int) < 2147483648; omega), hx]; show ((n + 1 : Nat) : Int) - 1 + (-1) = _; omega
    have k1 := e64_mul 0 90000000 (e64_of32 h3) h1 (by decide) (by decide) (by decide)
    have k2 := e64_mul 0 100000000000000 k1 (e64_add (e64_lit 1000000 1000000 rfl) h5 (by decide) (by decide)) (by decide) (by decide) (by decide)
    have k3 := e64_add ha k2 (by omega) (by omega)
    rw [← hxn] at k3
    rw [e3]
    have := m_cold_loop h n f _ _ _ _ _ (by omega) (by omega) (e64_w 0 ((4 - n) * 100000000000000) k3 (by omega) (by omega)) h4 hx1
    rw [hxn] at this ⊢
    refine ⟨⟨fun q => absurd q (by rw [← hxn]; exact hx0), fun _ => ⟨h2, vp_nI (by omega) (by decide), this.1⟩⟩, ?_⟩
    have e : A + zcs r (n + 1) S = A + S % 10 * zstep r n * (1000000 + zr r (3 + n)) + zcs r n (S / 10) := by simp only [zcs]; omega
    rw [e]
    exact this.2
theorem m_cold (h : RowOK T r) {s : Int32} {S : Int} (hs : E32 s S 0 9999) : E64 (sp_Mo_coldBy s r) (zcold r S) 0 400000999 ∧ ok_Mo_coldBy s r := by
  have hD := zD_bd h
  have := m_cold_loop h (zD r) big 0 0 s (sp_Mo_decades r - 1) S (Nat.le_refl _) (by rw [big_eq]; omega) ⟨rfl, Int.le_refl _, by omega⟩ hs (by
    rw [m_decades h, Kit.i32_sub (by rw [nIz (by omega)]; show -2147483648 ≤ _ - (1 : Int); omega) (by rw [nIz (by omega)]; show _ - (1 : Int) < 2147483648; omega), nIz (by omega)]; rfl)
  rw [Int.zero_add] at this
  exact ⟨this.2, this.1⟩
theorem m_warm {c k t : Int64} {C K X b : Int} (hc : E64 c C 0 b) (hb : b ≤ 400000999) (hk : E64 k K (-4000) 4000) (ht : E64 t X 0 200000) : E64 (sp_Mo_warm c k t) ((C * (1000000000 + K * X)).tdiv 1000000000) 0 720001798 := by
  unfold sp_Mo_warm
  have k1 := e64_mul (-800000000) 800000000 hk ht (by decide) (by decide) (by decide)
  have k2 := e64_add (e64_lit 1000000000 1000000000 rfl) k1 (by decide) (by decide)
  have k3 := e64_mul 0 720001798200000000 (e64_w 0 400000999 hc (Int.le_refl _) hb) k2 (by decide) (by decide) (by decide)
  exact e64_divc 1000000000 0 720001798 k3 rfl (by decide) rfl rfl
theorem m_uw (h : RowOK T r) : E64 (sp_Mo_unknownWarm r) (zuw r) 200 180000000 := by
  unfold sp_Mo_unknownWarm sp_Mo_warm
  simp only [lett]
  have k1 := e64_mul (-800000000) 800000000 (row_w h 13 (-4000) 4000 rfl rfl) (row_w h 37 0 200000 rfl rfl) (by decide) (by decide) (by decide)
  have k2 := e64_add (e64_lit 1000000000 1000000000 rfl) k1 (by decide) (by decide)
  have k3 := e64_mul 200000000000 180000000000000000 (row_w h 12 1000 100000000 rfl rfl) k2 (by decide) (by decide) (by decide)
  exact e64_divc 1000000000 200 180000000 k3 rfl (by decide) rfl rfl
theorem m_bw (h : RowOK T r) {s : Int32} {S : Int} (hs : E32 s S 0 9999) : E64 (sp_Mo_boxWarm s r) (zbw r S) 0 720001798 ∧ ok_Mo_boxWarm s r := by
  unfold sp_Mo_boxWarm ok_Mo_boxWarm
  simp only [lett]
  obtain ⟨h1, h2⟩ := m_cold h hs
  exact ⟨m_warm h1 (Int.le_refl _) (row_w h 16 (-4000) 4000 rfl rfl) (row_w h 38 0 200000 rfl rfl), h2, trivial⟩
theorem m_us (h : RowOK T r) {ld : Int64} {L : Int} (hl : E64 ld L 2 3) : E64 (sp_Mo_unknownSide ld r) (zus r L) 200 180199998 := by
  unfold sp_Mo_unknownSide zus
  simp only [lett]
  have h1 := m_uw h
  have h2 := e64_add h1 (row_w h 19 0 99999 rfl rfl) (by decide) (by decide)
  have hc : ld = (2 : Int64) ↔ L = 2 := by rw [← Int64.toInt_inj, hl.1]; exact Iff.rfl
  by_cases q : ld = 2
  · rw [if_pos q, if_pos (hc.mp q)]
    exact e64_w _ _ (e64_add h2 (row_w h 20 0 99999 rfl rfl) (by decide) (by decide)) (by decide) (by decide)
  · rw [if_neg q, if_neg (fun w => q (hc.mpr w))]
    exact e64_w _ _ (e64_add h2 (e64_lit 0 0 rfl) (by decide) (by decide)) (by decide) (by decide)
theorem m_bs (h : RowOK T r) {ld : Int64} {L : Int} (hl : E64 ld L 2 3) {s : Int32} {S : Int} (hs : E32 s S 0 9999) : E64 (sp_Mo_boxSide s ld r) (zbs r S L) 0 720101797 ∧ ok_Mo_boxSide s ld r := by
  unfold sp_Mo_boxSide zbs ok_Mo_boxSide
  simp only [lett]
  obtain ⟨h1, h3⟩ := m_bw h hs
  refine ⟨?_, h3, trivial⟩
  have hc : ld = (3 : Int64) ↔ L = 3 := by rw [← Int64.toInt_inj, hl.1]; exact Iff.rfl
  by_cases q : ld = 3
  · rw [if_pos q, if_pos (hc.mp q)]
    exact e64_w _ _ (e64_add h1 (row_w h 20 0 99999 rfl rfl) (by decide) (by decide)) (by decide) (by decide)
  · rw [if_neg q, if_neg (fun w => q (hc.mpr w))]
    exact e64_w _ _ (e64_add h1 (e64_lit 0 0 rfl) (by decide) (by decide)) (by decide) (by decide)
theorem e64_ne0 {x : Int64} {X a b : Int} (h : E64 x X a b) (h0 : 0 < a) : ¬ x = 0 := by
  intro q; rw [q] at h
  have := h.1
  have h2 : (0 : Int64).toInt = 0 := rfl
  have := h.2.1
  omega
/-- a share: a part of the whole, in thousand millionths -/
theorem share_bd {u b : Int} (hu : 0 ≤ u) (hb : 0 ≤ b) : 0 ≤ (1000000000 * u).tdiv (b + u) ∧ (1000000000 * u).tdiv (b + u) ≤ 1000000000 := by
  refine ⟨Int.tdiv_nonneg (by omega) (by omega), ?_⟩
  rw [Int.tdiv_eq_ediv_of_nonneg (by omega)]
  rcases Int.lt_or_eq_of_le (show 0 ≤ b + u by omega) with q | q
  · exact Int.ediv_le_of_le_mul q (by rw [Int.mul_add]; omega)
  · rw [← q, Int.ediv_zero]; decide
theorem m_ush (h : RowOK T r) {ld : Int64} {L : Int} (hl : E64 ld L 2 3) {s : Int32} {S : Int} (hs : E32 s S 0 9999) : E64 (sp_Mo_unknownShare s ld r) (zush r S L) 0 1000000000 ∧ ok_Mo_unknownShare s ld r := by
  unfold sp_Mo_unknownShare zush ok_Mo_unknownShare
  simp only [lett]
  have h1 := m_us h hl
  obtain ⟨h2, h3⟩ := m_bs h hl hs
  have k1 := e64_mul 0 180199998000000000 (e64_lit 1000000000 1000000000 rfl) h1 (by decide) (by decide) (by decide)
  have k2 := e64_add h2 h1 (by decide) (by decide)
  have k3 := e64_div 0 180199998000000000 k1 k2 (by decide) (by decide) (by decide) (by decide) (by decide)
  have k4 := share_bd (u := zus r L) (b := zbs r S L) (by have := h1.2; omega) h2.2.1
  exact ⟨⟨k3.1, k4⟩, h3, e64_ne0 k2 (by decide), trivial⟩
theorem m_nom {k : Nat} (hk : k < 5) : sp_Mo_nominal (lN k) = lN (1000 * 10 ^ k) ∧ ok_Mo_nominal (lN k) := by
  have e : (lN k).toInt32 = nI k := nIo (by rw [Kit.i32_of_i64 (by rw [lNz (by omega)]; omega) (by rw [lNz (by omega)]; omega), lNz (by omega)])
  unfold sp_Mo_nominal ok_Mo_nominal
  simp only [lett]
  rw [e, mo_ten (by omega)]
  refine ⟨?_, mo_ten_o (by omega), trivial⟩
  match k, hk with
  | 0, _ => rfl
  | 1, _ => rfl
  | 2, _ => rfl
  | 3, _ => rfl
  | 4, _ => rfl
  | k + 5, q => exact absurd q (by omega)
theorem nom_bd : ∀ k, k < 5 → 1000 ≤ 1000 * 10 ^ k ∧ 1000 * 10 ^ k ≤ 10000000 := by decide
theorem m_ohm (h : RowOK T r) {k : Nat} (hk : k < 5) : E64 (sp_Mo_ohmsOf (lN k) r) (zohm r k) 950 10500000 ∧ ok_Mo_ohmsOf (lN k) := by
  have e : (lN k).toInt32 = nI k := nIo (by rw [Kit.i32_of_i64 (by rw [lNz (by omega)]; omega) (by rw [lNz (by omega)]; omega), lNz (by omega)])
  obtain ⟨h1, h2⟩ := m_nom hk
  have e2 : (7 : Int32) + nI k = nI (7 + k) := by rw [show (7 : Int32) = nI 7 from rfl, nzadd _ _ (by omega)]
  unfold sp_Mo_ohmsOf ok_Mo_ohmsOf zohm
  simp only [lett]
  rw [h1, e, e2, cl_nI (by omega)]
  refine ⟨?_, h2, vp_nI (by omega) (by decide), trivial⟩
  have hb := nom_bd k hk
  have k0 : E64 (lN (1000 * 10 ^ k)) ((1000 * 10 ^ k : Nat) : Int) 1000 10000000 := ⟨lNz (by omega), by omega, by omega⟩
  have hr := row_rat h hk
  have k1 := e64_mul (-500000000000) 500000000000 k0 hr (by decide) (by decide) (by decide)
  have k2 := e64_divc 1000000 (-500000) 500000 k1 (show (1000000 : Int64).toInt = 1000000 from rfl) (by decide) (by decide) (by decide)
  have k3 := e64_add k0 k2 (by decide) (by decide)
  refine ⟨k3.1, ?_, k3.2.2⟩
  have k5 := k1.2
  have k6 := hr.2
  -- nominal + nominal * error / 1000000 is at least 95 hundredths of the nominal one
  match k, hk with
  | 0, _ => have := Int.tdiv_le_tdiv (a := -50000000) (b := (1000 * 10 ^ 0 : Nat) * zr r (7 + 0)) (c := 1000000) (by decide) (by omega); rw [show (-50000000 : Int).tdiv 1000000 = -50 by decide] at this; omega
  | 1, _ => have := Int.tdiv_le_tdiv (a := -500000000) (b := (1000 * 10 ^ 1 : Nat) * zr r (7 + 1)) (c := 1000000) (by decide) (by omega); rw [show (-500000000 : Int).tdiv 1000000 = -500 by decide] at this; omega
  | 2, _ => have := Int.tdiv_le_tdiv (a := -5000000000) (b := (1000 * 10 ^ 2 : Nat) * zr r (7 + 2)) (c := 1000000) (by decide) (by omega); rw [show (-5000000000 : Int).tdiv 1000000 = -5000 by decide] at this; omega
  | 3, _ => have := Int.tdiv_le_tdiv (a := -50000000000) (b := (1000 * 10 ^ 3 : Nat) * zr r (7 + 3)) (c := 1000000) (by decide) (by omega); rw [show (-50000000000 : Int).tdiv 1000000 = -50000 by decide] at this; omega
  | 4, _ => have := Int.tdiv_le_tdiv (a := -500000000000) (b := (1000 * 10 ^ 4 : Nat) * zr r (7 + 4)) (c := 1000000) (by decide) (by omega); rw [show (-500000000000 : Int).tdiv 1000000 = -500000 by decide] at this; omega
  | k + 5, q => exact absurd q (by omega)
theorem m_ash (h : RowOK T r) {f g : Nat} (hf : f < 5) (hg : g < 5) : E64 (sp_Mo_armsShare (lN f) (lN g) r) (zash r f g) 0 1000000000 ∧ ok_Mo_armsShare (lN f) (lN g) r := by
  unfold sp_Mo_armsShare ok_Mo_armsShare zash
  simp only [lett]
  obtain ⟨h1, h2⟩ := m_ohm h hf
  obtain ⟨h3, h4⟩ := m_ohm h hg
  have k1 := e64_mul 0 10500000000000000 (e64_lit 1000000000 1000000000 rfl) h3 (by decide) (by decide) (by decide)
  have k2 := e64_add h1 h3 (by decide) (by decide)
  have k3 := e64_div 0 10500000000000000 k1 k2 (by decide) (by decide) (by decide) (by decide) (by decide)
  exact ⟨⟨k3.1, share_bd (u := zohm r g) (b := zohm r f) (by have := h3.2; omega) (by have := h1.2; omega)⟩, h4, h2, e64_ne0 k2 (by decide), trivial⟩
theorem m_defl (h : RowOK T r) {ld : Int64} {L : Int} (hl : E64 ld L 2 3) {s : Int32} {S : Int} (hs : E32 s S 0 9999) {f g : Nat} (hf : f < 5) (hg : g < 5) : E64 (sp_Mo_plainDeflection s (lN f) (lN g) ld r) (zdefl r S f g L) (-20000000000) 20000000000 ∧ ok_Mo_plainDeflection s (lN f) (lN g) ld r := by
  unfold sp_Mo_plainDeflection ok_Mo_plainDeflection zdefl
  simp only [lett]
  obtain ⟨h1, h2⟩ := m_ush h hl hs
  obtain ⟨h3, h4⟩ := m_ash h hf hg
  have k1 := e64_sub h1 h3 (by decide) (by decide)
  have k2 := e64_mul (-20000000000000) 20000000000000 (row_w h 22 0 20000 rfl rfl) k1 (by decide) (by decide) (by decide)
  exact ⟨e64_divc 1000 (-20000000000) 20000000000 k2 rfl (by decide) rfl rfl, h2, h4, trivial⟩
end PH
