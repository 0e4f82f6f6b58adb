section CP1
variable {T : Int} {r r' : LV} {w0 w1 w2 w3 w4 : IV}
/-- a quotient's bound by the least divisor -/
theorem e64_divb {x y : Int64} {X Y a b c d : Int} (hi : Int) (h1 : E64 x X a b) (h2 : E64 y Y c d) (ha : 0 ≤ a) (hc : 0 < c) (hb : b < (hi + 1) * c) (h9 : 0 ≤ hi) : E64 (x / y) (X.tdiv Y) 0 hi := by
  have k := e64_div 0 b h1 h2 hc (by omega) (Int.le_refl _) (Int.le_refl _) (by have := h1.2; omega)
  refine ⟨k.1, k.2.1, ?_⟩
  have h3 := h1.2
  have h4 := h2.2
  rw [Int.tdiv_eq_ediv_of_nonneg (by omega)]
  by_cases q : hi < X / Y
  · exfalso
    have e1 : X / Y * Y ≤ X := Int.ediv_mul_le X (by omega)
    have e2 : (hi + 1) * c ≤ X / Y * Y := Int.mul_le_mul (by omega) h4.1 (by omega) (by omega)
    omega
  · omega
/-- the corrected value, and the told one -/
def zcorr (r : LV) (S : Int) (f g : Nat) (L : Int) : Int := ((zcold r S + (if L = 3 then zr r 20 else 0)) * zohm r g).tdiv (zohm r f) - zr r 19 - (if L = 2 then zr r 20 else 0)
def ztold (r : LV) (S : Int) (f g : Nat) : Int := (S * zr r 1 * (1000 * 10 ^ g : Nat)).tdiv (1000 * 10 ^ f : Nat)
theorem corr_core {c p q : Int64} {C P Q : Int} (hc : E64 c C 0 400100998) (hp : E64 p P 950 10500000) (hq : E64 q Q 950 10500000) : E64 ((c * p) / q) ((C * P).tdiv Q) 0 9000000000000 := by
  have k1 := e64_mul 0 4201060479000000 hc hp (by decide) (by decide) (by decide)
  exact e64_divb 9000000000000 k1 hq (by decide) (by decide) (by decide) (by decide)
theorem m_corr (h : RowOK T r) {s : Int32} {S : Int} (hs : E32 s S 0 9999) {ld : Int64} {L : Int} (hl : E64 ld L 2 3) {f g : Nat} (hf : f < 5) (hg : g < 5) : E64 (sp_Mo_correctedBy s (lN f) (lN g) ld r) (zcorr r S f g L) (-10000000000000) 10000000000000 ∧ ok_Mo_correctedBy s (lN f) (lN g) ld r := by
  obtain ⟨a1, a2⟩ := m_cold h hs
  obtain ⟨b1, b2⟩ := m_ohm h hf
  obtain ⟨c1, c2⟩ := m_ohm h hg
  have l0 := row_w h 19 0 99999 rfl rfl
  have l1 := row_w h 20 0 99999 rfl rfl
  have hL := hl.2
  have e3 := z64 hl.1 3 3 rfl
  have e2 := z64 hl.1 2 2 rfl
  unfold sp_Mo_correctedBy ok_Mo_correctedBy sp_Mo_correctedBy_25 ok_Mo_correctedBy_25 sp_Mo_correctedBy_71 zcorr
  simp only [lettn]
  by_cases q : ld = 3
  · have q3 := e3.mp q
    have q2 : ¬ ld = 2 := fun w => by have := e2.mp w; omega
    rw [if_pos q, if_neg q2, if_pos q3, if_neg (by omega)]
    have k := e64_sub (e64_sub (corr_core (e64_w 0 400100998 (e64_add a1 l1 (by decide) (by decide)) (by decide) (by decide)) c1 b1) l0 (by decide) (by decide)) (e64_lit 0 (0 : Int64) rfl) (by decide) (by decide)
    exact ⟨e64_w _ _ k (by decide) (by decide), a2, fun _ => ⟨c2, b2, e64_ne0 b1 (by decide), trivial⟩, fun w => absurd q w⟩
  · have q3 : ¬ L = 3 := fun w => q (e3.mpr w)
    have q2 : ld = 2 := e2.mpr (by omega)
    rw [if_neg q, if_pos q2, if_neg q3, if_pos (by omega)]
    have k := e64_sub (e64_sub (corr_core (e64_w 0 400100998 (e64_add a1 (e64_lit 0 (0 : Int64) rfl) (by decide) (by decide)) (by decide) (by decide)) c1 b1) l0 (by decide) (by decide)) l1 (by decide) (by decide)
    exact ⟨e64_w _ _ k (by decide) (by decide), a2, fun w => absurd w q, fun _ => ⟨c2, b2, e64_ne0 b1 (by decide), trivial⟩⟩
theorem zcorr_bd (h : RowOK T r) {S L : Int} (hS : 0 ≤ S ∧ S ≤ 9999) (hL : L = 2 ∨ L = 3) {f g : Nat} (hf : f < 5) (hg : g < 5) : -10000000000000 ≤ zcorr r S f g L ∧ zcorr r S f g L ≤ 10000000000000 := (m_corr h (nI_S hS) (el_of hL) hf hg).1.2
/-- the arms' quotient -/
theorem c_scaled (hp : PR w0 w1 w2 w3 w4 r) (h : RowOK T r) {ca : IV} {S L : Int} {f g : Nat} (hc : CiR ca r S f g L) {c : Int64} {C : Int} (hC : E64 c C 0 400100998) : E64 (sp_Ci_scaled c ca w2) ((C * zohm r g).tdiv (zohm r f)) 0 9000000000000 := by
  obtain ⟨c1, c2, c3, c4, c5, c6, c7, c8, c9, c10, c11, c12, c13, c14, c15, c16, c17⟩ := hc
  have k1 := e64_of32 (c_val hp h c4)
  have k2 := e64_of32 (c_val hp h c6)
  unfold sp_Ci_scaled
  simp only [lettn]
  rw [c3, c5, if_neg (e64_ne0 k1 (by decide))]
  exact corr_core hC k2 k1
theorem c_corr (hp : PR w0 w1 w2 w3 w4 r) (h : RowOK T r) {ca : IV} {S L : Int} {f g : Nat} (hc : CiR ca r S f g L) : E64 (sp_Ci_correctedValue ca w0 w2) (zcorr r S f g L) (-10000000000000) 10000000000000 := by
  have hcc := hc
  obtain ⟨c1, c2, c3, c4, c5, c6, c7, c8, c9, c10, c11, c12, c13, c14, c15, c16, c17⟩ := hc
  have l0 := e64_of32 (pr_e hp h 19 0 99999 (rfl : w0 8 = _) rfl rfl)
  have l1 := e64_of32 (pr_e hp h 20 0 99999 (rfl : w0 9 = _) rfl rfl)
  have a1 : E64 (ca 14).toInt64 (zcold r S) 0 400000999 := e64_of32 ⟨c13, zcold_bd h c2⟩
  have e3 := z32 c7 3 3 rfl
  unfold sp_Ci_correctedValue zcorr
  simp only [lettn]
  by_cases q : ca 4 = 3
  · have q3 := e3.mp q
    rw [if_pos q, if_pos q3, if_neg (by omega)]
    have k := e64_sub (c_scaled hp h hcc (e64_w 0 400100998 (e64_add a1 l1 (by decide) (by decide)) (by decide) (by decide))) l0 (by decide) (by decide)
    rw [Int.sub_zero]
    exact e64_w _ _ k (by decide) (by decide)
  · have q3 : ¬ L = 3 := fun w => q (e3.mpr w)
    rw [if_neg q, if_neg q3, if_pos (by omega)]
    have k := e64_sub (e64_sub (c_scaled hp h hcc (e64_w 0 400100998 a1 (by decide) (by decide))) l0 (by decide) (by decide)) l1 (by decide) (by decide)
    rw [Int.add_zero]
    exact e64_w _ _ k (by decide) (by decide)
theorem told_core {s l p q : Int64} {S A P Q : Int} (hs : E64 s S 0 9999) (hl : E64 l A 1 10000) (hp : E64 p P 1000 10000000) (hq : E64 q Q 1000 10000000) : E64 (((s * l) * p) / q) ((S * A * P).tdiv Q) 0 10000000000000 := by
  have k1 := e64_mul 0 99990000 hs hl (by decide) (by decide) (by decide)
  have k2 := e64_mul 0 999900000000000 k1 hp (by decide) (by decide) (by decide)
  exact e64_divb 10000000000000 k2 hq (by decide) (by decide) (by decide) (by decide)
theorem nom_E {k : Nat} (hk : k < 5) : E64 (lN (1000 * 10 ^ k)) ((1000 * 10 ^ k : Nat) : Int) 1000 10000000 ∧ E32 (nI (1000 * 10 ^ k)) ((1000 * 10 ^ k : Nat) : Int) 1000 10000000 := by
  have hb := nom_bd k hk
  exact ⟨⟨lNz (by omega), by omega, by omega⟩, ⟨nIz (by omega), by omega, by omega⟩⟩
theorem c_told (hp : PR w0 w1 w2 w3 w4 r) (h : RowOK T r) {ca : IV} {S L : Int} {f g : Nat} (hc : CiR ca r S f g L) : E64 (sp_Ci_toldValue ca w0) (ztold r S f g) 0 10000000000000 := by
  obtain ⟨c1, c2, c3, c4, c5, c6, c7, c8, c9, c10, c11, c12, c13, c14, c15, c16, c17⟩ := hc
  have n1 := e64_of32 (nom_E c4).2
  have n2 := e64_of32 (nom_E c6).2
  unfold sp_Ci_toldValue ztold
  simp only [lettn]
  rw [c3, c5, c_nom f c4, c_nom g c6, if_neg (e64_ne0 n1 (by decide))]
  exact told_core (e64_of32 ⟨c1, c2⟩) (e64_of32 (pr_e hp h 1 1 10000 (rfl : w0 1 = _) rfl rfl)) n2 n1
/-! ===== a result comes ===== -/
theorem row_updR (h : RowOK T r) {i : Nat} (hi : zr r 54 = i) (k : Nat) (x : Int64) (hk : 55 + 8 * i ≤ k) : RowOK T (vp_updL r k x) := by
  refine ⟨fun j hj => ?_, fun a j ha hz hj => ?_⟩
  · rw [zr, uLn (by omega)]; exact h.1 j hj
  · rw [zr, uLn (by omega)] at hz
    have : (a : Int) < i := by rw [← hi]; exact hz
    rw [zr, uLn (by omega)]; exact h.2 a j ha hz hj
theorem lN_of (h : RowOK T r) : r 29 = lN (zf r) ∧ zf r < 5 ∧ r 30 = lN (zg r) ∧ zg r < 5 := by
  obtain ⟨h1, h2, h3, h4, -⟩ := row_f h
  exact ⟨h1, h2, h3, h4⟩
/-- what the row of a result is -/
def ResAt (r r' : LV) (i : Nat) (how : Int) : Prop :=
  (∀ k, k ≠ 54 → (k < 55 + 8 * i ∨ 63 + 8 * i ≤ k) → r' k = r k) ∧ zr r' 54 = i + 1 ∧
  r' (55 + 8 * i + 0) = r 29 ∧ r' (55 + 8 * i + 1) = r 30 ∧ r' (55 + 8 * i + 2) = r 32 ∧ zr r' (55 + 8 * i + 3) = zS r ∧ r' (55 + 8 * i + 4) = r 39 ∧ zr r' (55 + 8 * i + 5) = how ∧
  zr r' (55 + 8 * i + 6) = ztold r (zS r) (zf r) (zg r) ∧ zr r' (55 + 8 * i + 7) = zcorr r (zS r) (zf r) (zg r) (zr r 32)
theorem ps_corr (h : PSame r r') (hD : zD r ≤ 4) (S L : Int) {f g : Nat} (hf : f < 5) (hg : g < 5) : zcorr r' S f g L = zcorr r S f g L := by
  unfold zcorr; rw [ps_cold h hD, ps_ohm h hf, ps_ohm h hg, zr, zr, zr, zr, h 19 (by decide) (by decide), h 20 (by decide) (by decide)]
theorem m_add56 (h : RowOK T r) {i : Nat} (hi : zr r 54 = i) (hi2 : i < 20) {p : Int32} {how : Int} (hp : p.toInt = how) (hh : how = 1 ∨ how = 2) :
    ResAt r (sp_Mo_addResult_56 p r) i how ∧ RowOK T (sp_Mo_addResult_56 p r) ∧ ok_Mo_addResult_56 p r := by
  have hD := (zD_bd h).2.1
  obtain ⟨f1, f2, f3, f4⟩ := lN_of h
  have e54 : (r 54).toInt32 = nI i := nIo (by rw [Kit.i32_of_i64 (by show -2 ^ 31 ≤ zr r 54; omega) (by show zr r 54 < 2 ^ 31; omega)]; exact hi)
  have ev : (55 : Int32) + (8 : Int32) * (r 54).toInt32 = nI (55 + 8 * i) := by
    rw [e54]
    have k1 := e32_mul 0 152 (e32_lit 8 (8 : Int32) rfl) (show E32 (nI i) i 0 19 from ⟨nIz (by omega), by omega, by omega⟩) (by decide) (by decide) (by decide)
    have k2 := e32_add (e32_lit 55 (55 : Int32) rfl) k1 (by decide) (by decide)
    exact nIo (by rw [k2.1]; omega)
  have ej : ∀ j : Nat, j < 8 → nI (55 + 8 * i) + nI j = nI (55 + 8 * i + j) := fun j hj => nzadd _ _ (by omega)
  have vj : ∀ j : Nat, j < 8 → vp_in (nI (55 + 8 * i + j)) 215 := fun j hj => vp_nI (by omega) (by decide)
  have cj : ∀ j : Nat, j < 8 → (nI (55 + 8 * i + j)).toNatClampNeg = 55 + 8 * i + j := fun j hj => cl_nI (by omega)
  have e0 : nI (55 + 8 * i) + (0 : Int32) = nI (55 + 8 * i + 0) := ej 0 (by decide)
  have e1 : nI (55 + 8 * i) + (1 : Int32) = nI (55 + 8 * i + 1) := ej 1 (by decide)
  have e2 : nI (55 + 8 * i) + (2 : Int32) = nI (55 + 8 * i + 2) := ej 2 (by decide)
  have e3 : nI (55 + 8 * i) + (3 : Int32) = nI (55 + 8 * i + 3) := ej 3 (by decide)
  have e4 : nI (55 + 8 * i) + (4 : Int32) = nI (55 + 8 * i + 4) := ej 4 (by decide)
  have e5 : nI (55 + 8 * i) + (5 : Int32) = nI (55 + 8 * i + 5) := ej 5 (by decide)
  have e6 : nI (55 + 8 * i) + (6 : Int32) = nI (55 + 8 * i + 6) := ej 6 (by decide)
  have e7 : nI (55 + 8 * i) + (7 : Int32) = nI (55 + 8 * i + 7) := ej 7 (by decide)
  unfold sp_Mo_addResult_56 ok_Mo_addResult_56
  simp only [lettn, ev, e0, e1, e2, e3, e4, e5, e6, e7, cj 0 (by decide), cj 1 (by decide), cj 2 (by decide), cj 3 (by decide), cj 4 (by decide), cj 5 (by decide), cj 6 (by decide), cj 7 (by decide)]
  -- the rows, one after the other
  generalize ha0 : vp_updL r (55 + 8 * i + 0) (r 29) = a0
  have o0 : ∀ k, k < 55 + 8 * i ∨ 55 + 8 * i + 0 < k → a0 k = r k := fun k hk => by rw [← ha0]; exact uLn (by omega)
  have s0 : a0 (55 + 8 * i + 0) = r 29 := by rw [← ha0]; exact uLs
  have K0 : RowOK T a0 := by rw [← ha0]; exact row_updR h hi _ _ (by omega)
  generalize ha1 : vp_updL a0 (55 + 8 * i + 1) (a0 30) = a1
  have o1 : ∀ k, k < 55 + 8 * i ∨ 55 + 8 * i + 1 < k → a1 k = r k := fun k hk => by rw [← ha1, uLn (by omega), o0 k (by omega)]
  have s1 : a1 (55 + 8 * i + 1) = r 30 := by rw [← ha1, uLs, o0 30 (by omega)]
  have K1 : RowOK T a1 := by rw [← ha1]; exact row_updR K0 (by rw [zr, o0 54 (by omega)]; exact hi) _ _ (by omega)
  generalize ha2 : vp_updL a1 (55 + 8 * i + 2) (a1 32) = a2
  have o2 : ∀ k, k < 55 + 8 * i ∨ 55 + 8 * i + 2 < k → a2 k = r k := fun k hk => by rw [← ha2, uLn (by omega), o1 k (by omega)]
  have s2 : a2 (55 + 8 * i + 2) = r 32 := by rw [← ha2, uLs, o1 32 (by omega)]
  have K2 : RowOK T a2 := by rw [← ha2]; exact row_updR K1 (by rw [zr, o1 54 (by omega)]; exact hi) _ _ (by omega)
  obtain ⟨m2, n2⟩ := m_setting K2
  have z2 : zset a2 (zD a2) = zset r (zD r) := zS_cong (o2 0 (by omega)) (fun d hd => o2 (33 + d) (by omega)) hD
  rw [z2] at m2
  generalize ha3 : vp_updL a2 (55 + 8 * i + 3) (sp_Mo_setting a2).toInt64 = a3
  have o3 : ∀ k, k < 55 + 8 * i ∨ 55 + 8 * i + 3 < k → a3 k = r k := fun k hk => by rw [← ha3, uLn (by omega), o2 k (by omega)]
  have s3 : zr a3 (55 + 8 * i + 3) = zS r := by rw [zr, ← ha3, uLs, Kit.i64_of_i32]; exact m2.1
  have K3 : RowOK T a3 := by rw [← ha3]; exact row_updR K2 (by rw [zr, o2 54 (by omega)]; exact hi) _ _ (by omega)
  generalize ha4 : vp_updL a3 (55 + 8 * i + 4) (a3 39) = a4
  have o4 : ∀ k, k < 55 + 8 * i ∨ 55 + 8 * i + 4 < k → a4 k = r k := fun k hk => by rw [← ha4, uLn (by omega), o3 k (by omega)]
  have s4 : a4 (55 + 8 * i + 4) = r 39 := by rw [← ha4, uLs, o3 39 (by omega)]
  have K4 : RowOK T a4 := by rw [← ha4]; exact row_updR K3 (by rw [zr, o3 54 (by omega)]; exact hi) _ _ (by omega)
  generalize ha5 : vp_updL a4 (55 + 8 * i + 5) p.toInt64 = a5
  have o5 : ∀ k, k < 55 + 8 * i ∨ 55 + 8 * i + 5 < k → a5 k = r k := fun k hk => by rw [← ha5, uLn (by omega), o4 k (by omega)]
  have s5 : zr a5 (55 + 8 * i + 5) = how := by rw [zr, ← ha5, uLs, Kit.i64_of_i32]; exact hp
  have K5 : RowOK T a5 := by rw [← ha5]; exact row_updR K4 (by rw [zr, o4 54 (by omega)]; exact hi) _ _ (by omega)
  obtain ⟨m5, n5⟩ := m_setting K5
  have z5 : zset a5 (zD a5) = zset r (zD r) := zS_cong (o5 0 (by omega)) (fun d hd => o5 (33 + d) (by omega)) hD
  rw [z5] at m5
  have x30 : a5 30 = lN (zg r) := by rw [o5 30 (by omega)]; exact f3
  have x29 : a5 29 = lN (zf r) := by rw [o5 29 (by omega)]; exact f1
  have x1 : a5 1 = r 1 := o5 1 (by omega)
  rw [x30, x29, x1, (m_nom f4).1, (m_nom f2).1]
  have t6 := told_core (e64_of32 m5) (row_w h 1 1 10000 rfl rfl) (nom_E f4).1 (nom_E f2).1
  generalize ha6 : vp_updL a5 (55 + 8 * i + 6) (((sp_Mo_setting a5).toInt64 * r 1) * lN (1000 * 10 ^ zg r) / lN (1000 * 10 ^ zf r)) = a6
  have o6 : ∀ k, k < 55 + 8 * i ∨ 55 + 8 * i + 6 < k → a6 k = r k := fun k hk => by rw [← ha6, uLn (by omega), o5 k (by omega)]
  have s6 : zr a6 (55 + 8 * i + 6) = ztold r (zS r) (zf r) (zg r) := by rw [zr, ← ha6, uLs]; exact t6.1
  have K6 : RowOK T a6 := by rw [← ha6]; exact row_updR K5 (by rw [zr, o5 54 (by omega)]; exact hi) _ _ (by omega)
  obtain ⟨m6, n6⟩ := m_setting K6
  have z6 : zset a6 (zD a6) = zset r (zD r) := zS_cong (o6 0 (by omega)) (fun d hd => o6 (33 + d) (by omega)) hD
  rw [z6] at m6
  have y29 : a6 29 = lN (zf r) := by rw [o6 29 (by omega)]; exact f1
  have y30 : a6 30 = lN (zg r) := by rw [o6 30 (by omega)]; exact f3
  have y32 : a6 32 = r 32 := o6 32 (by omega)
  have p6 : PSame r a6 := fun k hk _ => o6 k (by omega)
  rw [y29, y30, y32]
  obtain ⟨c6, k6⟩ := m_corr K6 m6 (row_w h 32 2 3 rfl rfl) f2 f4
  rw [ps_corr p6 hD _ _ f2 f4] at c6
  generalize ha7 : vp_updL a6 (55 + 8 * i + 7) (sp_Mo_correctedBy (sp_Mo_setting a6) (lN (zf r)) (lN (zg r)) (r 32) a6) = a7
  have o7 : ∀ k, k < 55 + 8 * i ∨ 55 + 8 * i + 7 < k → a7 k = r k := fun k hk => by rw [← ha7, uLn (by omega), o6 k (by omega)]
  have s7 : zr a7 (55 + 8 * i + 7) = zcorr r (zS r) (zf r) (zg r) (zr r 32) := by rw [zr, ← ha7, uLs]; exact c6.1
  have x54 : a7 54 = r 54 := o7 54 (by omega)
  have k54 : E64 (a7 54 + 1) ((i : Int) + 1) 1 20 := by
    have := e64_add (X := (i : Int)) (a := 0) (b := 19) (show E64 (a7 54) _ _ _ from ⟨by rw [x54]; exact hi, by omega, by omega⟩) (e64_lit 1 (1 : Int64) rfl) (by decide) (by decide)
    exact this
  have q0 : a7 (55 + 8 * i + 0) = r 29 := by rw [← ha7, uLn (by omega), ← ha6, uLn (by omega), ← ha5, uLn (by omega), ← ha4, uLn (by omega), ← ha3, uLn (by omega), ← ha2, uLn (by omega), ← ha1, uLn (by omega), s0]
  have q1 : a7 (55 + 8 * i + 1) = r 30 := by rw [← ha7, uLn (by omega), ← ha6, uLn (by omega), ← ha5, uLn (by omega), ← ha4, uLn (by omega), ← ha3, uLn (by omega), ← ha2, uLn (by omega), s1]
  have q2 : a7 (55 + 8 * i + 2) = r 32 := by rw [← ha7, uLn (by omega), ← ha6, uLn (by omega), ← ha5, uLn (by omega), ← ha4, uLn (by omega), ← ha3, uLn (by omega), s2]
  have q3 : zr a7 (55 + 8 * i + 3) = zS r := by rw [zr, ← ha7, uLn (by omega), ← ha6, uLn (by omega), ← ha5, uLn (by omega), ← ha4, uLn (by omega)]; exact s3
  have q4 : a7 (55 + 8 * i + 4) = r 39 := by rw [← ha7, uLn (by omega), ← ha6, uLn (by omega), ← ha5, uLn (by omega), s4]
  have q5 : zr a7 (55 + 8 * i + 5) = how := by rw [zr, ← ha7, uLn (by omega), ← ha6, uLn (by omega)]; exact s5
  have q6 : zr a7 (55 + 8 * i + 6) = ztold r (zS r) (zf r) (zg r) := by rw [zr, ← ha7, uLn (by omega)]; exact s6
  have b29 := (row_w h 29 0 4 rfl rfl).2
  have b30 := (row_w h 30 0 4 rfl rfl).2
  have b32 := (row_w h 32 2 3 rfl rfl).2
  have b39 := (row_w h 39 0 T rfl rfl).2
  have bS := zset_all h
  refine ⟨⟨fun k hk hk2 => by rw [uLn hk, o7 k (by omega)], by rw [zr, uLs]; exact k54.1, by rw [uLn (by omega)]; exact q0, by rw [uLn (by omega)]; exact q1, by rw [uLn (by omega)]; exact q2, by rw [zr, uLn (by omega)]; exact q3, by rw [uLn (by omega)]; exact q4, by rw [zr, uLn (by omega)]; exact q5, by rw [zr, uLn (by omega)]; exact q6, by rw [zr, uLn (by omega)]; exact s7⟩, ⟨fun k hk => ?_, fun a j ha hz hj => ?_⟩, ?_⟩
  · by_cases q : k = 54
    · subst q; rw [zr, uLs, k54.1]; show (0 : Int) ≤ _ ∧ _ ≤ (20 : Int); omega
    · rw [zr, uLn q, o7 k (by omega)]; exact h.1 k hk
  · rw [zr, uLs, k54.1] at hz
    rw [zr, uLn (by omega)]
    by_cases q : a = i
    · subst q
      match j, hj with
      | 0, _ => rw [q0]; exact b29
      | 1, _ => rw [q1]; exact b30
      | 2, _ => rw [q2]; exact b32
      | 3, _ => exact (show sLo 3 ≤ zr a7 (55 + 8 * a + 3) ∧ zr a7 (55 + 8 * a + 3) ≤ sHi T 3 by rw [q3]; exact ⟨bS.1, bS.2.1⟩)
      | 4, _ => rw [q4]; exact b39
      | 5, _ => exact (show sLo 5 ≤ zr a7 (55 + 8 * a + 5) ∧ zr a7 (55 + 8 * a + 5) ≤ sHi T 5 by rw [q5]; show (1 : Int) ≤ how ∧ how ≤ (2 : Int); omega)
      | 6, _ => exact (show sLo 6 ≤ zr a7 (55 + 8 * a + 6) ∧ zr a7 (55 + 8 * a + 6) ≤ sHi T 6 by rw [q6]; exact t6.2)
      | 7, _ => exact (show sLo 7 ≤ zr a7 (55 + 8 * a + 7) ∧ zr a7 (55 + 8 * a + 7) ≤ sHi T 7 by rw [s7]; exact c6.2)
      | j + 8, q => exact absurd q (by omega)
    · rw [o7 (55 + 8 * a + j) (by omega)]
      exact h.2 a j ha (by rw [hi]; omega) hj
  · exact ⟨vj 0 (by decide), vj 1 (by decide), vj 2 (by decide), n2, vj 3 (by decide), vj 4 (by decide), vj 5 (by decide), n5, (m_nom f4).2, (m_nom f2).2, e64_ne0 (nom_E f2).1 (by decide), vj 6 (by decide), n6, k6, vj 7 (by decide), trivial⟩
end CP1
