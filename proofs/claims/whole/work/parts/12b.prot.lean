section TPB
variable {B : Nat → Nat} {n st : Nat} {t tb o bu pi po pf ps pb pn sK sA sB sE oq : IV}
/-! ===== a protocol's rows ===== -/
/-- the rows so far, with the brackets that are open, and how deep each row stands -/
def PrR (R D : Nat) (G : Nat → Nat) (pi po pf ps pb pn o sK sA sB sE oq : IV) : Prop :=
  (R ≤ 30 ∧ D ≤ 2 ∧ pi 7 = nI R ∧ pi 8 = nI D ∧ o 22 = nI R) ∧
  (∀ k, k < R → ∃ w, w < 10 ∧ po k = nI w ∧ sK k = nI w ∧ sA k = pf k ∧ sB k = ps k ∧ argR w (pf k).toInt (ps k).toInt) ∧
  (∀ j, j < D → ∃ b, b < R ∧ pn j = nI b ∧ oq j = nI b ∧ 8 ≤ (po b).toInt ∧ G b = j ∧ ∀ m, b < m → m ≤ R → j < G m) ∧
  (∀ k, k < R → 8 ≤ (po k).toInt → (∀ j, j < D → pn j ≠ nI k) → ∃ e, k < e ∧ e ≤ R ∧ pb k = nI e ∧ sE k = nI e ∧ (∀ m, k < m → m < e → G k < G m) ∧ G e ≤ G k) ∧
  (∀ k, k ≤ R → G k ≤ 2) ∧ G 0 = 0 ∧ G R = D ∧ (∀ k, k < R → 8 ≤ (po k).toInt → G k < 2) ∧ (∀ k, k < R → G (k + 1) ≤ G k + 1 ∧ ((po k).toInt < 8 → G (k + 1) ≤ G k))
theorem prr_o {R D : Nat} {G : Nat → Nat} {o' : IV} (h : PrR R D G pi po pf ps pb pn o sK sA sB sE oq) (e : o' 22 = o 22) : PrR R D G pi po pf ps pb pn o' sK sA sB sE oq := by
  obtain ⟨⟨a1, a2, a3, a4, a5⟩, h⟩ := h
  exact ⟨⟨a1, a2, a3, a4, e.trans a5⟩, h⟩
theorem nI_ne {a b : Nat} (ha : a < 2147483648) (hb : b < 2147483648) (h : a ≠ b) : ¬ nI a = nI b := fun w => h ((nzinj ha hb).mp w)
/-- a row that is a call -/
theorem prr_call {R D : Nat} {G : Nat → Nat} {w : Nat} {A C : Int32} {pi' o' : IV} (h : PrR R D G pi po pf ps pb pn o sK sA sB sE oq) (hR : R < 30) (hw : w < 8) (ha : argR w A.toInt C.toInt) (h7 : pi' 7 = nI (R + 1)) (h8 : pi' 8 = pi 8) (ho : o' 22 = nI (R + 1)) (x : Int32) :
    PrR (R + 1) D (fun k => if k = R + 1 then D else G k) pi' (upd po R (nI w)) (upd pf R A) (upd ps R C) pb pn o' (upd sK R (nI w)) (upd sA R A) (upd sB R C) (upd sE R x) oq := by
  obtain ⟨⟨a1, a2, a3, a4, a5⟩, b, c, d, e1, e2, e3, e4, e5⟩ := h
  have g : ∀ k, k ≤ R → (if k = R + 1 then D else G k) = G k := fun k hk => if_neg (by omega)
  have gR : (if R + 1 = R + 1 then D else G (R + 1)) = D := if_pos rfl
  refine ⟨⟨by omega, a2, h7, h8.trans a4, ho⟩, fun k hk => ?_, fun j hj => ?_, fun k hk hb hj => ?_, fun k hk => ?_, ?_, gR, fun k hk hb => ?_, fun k hk => ?_⟩
  · by_cases q : k = R
    · subst q
      exact ⟨w, by omega, us, us, by rw [us, us], by rw [us, us], by rw [us, us]; exact ha⟩
    · obtain ⟨v, v1, v2, v3, v4, v5, v6⟩ := b k (by omega)
      exact ⟨v, v1, by rw [un q]; exact v2, by rw [un q]; exact v3, by rw [un q, un q]; exact v4, by rw [un q, un q]; exact v5, by rw [un q, un q]; exact v6⟩
  · obtain ⟨v, v1, v2, v3, v4, v5, v6⟩ := c j hj
    refine ⟨v, by omega, v2, v3, by rw [un (by omega)]; exact v4, by dsimp only; rw [g v (by omega)]; exact v5, fun m m1 m2 => ?_⟩
    dsimp only
    by_cases q : m = R + 1
    · rw [if_pos q]; exact hj
    · rw [if_neg q]; exact v6 m m1 (by omega)
  · by_cases q : k = R
    · subst q
      rw [us, nIz (by omega)] at hb
      omega
    · rw [un q] at hb
      obtain ⟨v, v1, v2, v3, v4, v5, v6⟩ := d k (by omega) hb hj
      refine ⟨v, v1, by omega, v3, by rw [un q]; exact v4, fun m m1 m2 => ?_, ?_⟩
      · dsimp only; rw [g k (by omega), g m (by omega)]; exact v5 m m1 m2
      · dsimp only; rw [g k (by omega), g v (by omega)]; exact v6
  · dsimp only
    by_cases q : k = R + 1
    · rw [if_pos q]; exact a2
    · rw [if_neg q]; exact e1 k (by omega)
  · dsimp only; rw [g 0 (by omega)]; exact e2
  · dsimp only
    rw [g k (by omega)]
    by_cases q : k = R
    · subst q
      rw [us, nIz (by omega)] at hb
      omega
    · rw [un q] at hb
      exact e4 k (by omega) hb
  · dsimp only
    rw [g k (by omega)]
    by_cases q : k = R
    · subst q
      rw [gR]
      exact ⟨by omega, fun _ => by omega⟩
    · rw [g (k + 1) (by omega), un q]
      exact e5 k (by omega)
/-- a row that opens a bracket -/
theorem prr_open {R D : Nat} {G : Nat → Nat} {w : Nat} {A C : Int32} {pi' o' : IV} (h : PrR R D G pi po pf ps pb pn o sK sA sB sE oq) (hR : R < 30) (hD : D < 2) (hw : w < 10) (hw8 : 8 ≤ w) (ha : argR w A.toInt C.toInt) (h7 : pi' 7 = nI (R + 1)) (h8 : pi' 8 = nI (D + 1)) (ho : o' 22 = nI (R + 1)) (x : Int32) :
    PrR (R + 1) (D + 1) (fun k => if k = R + 1 then D + 1 else G k) pi' (upd po R (nI w)) (upd pf R A) (upd ps R C) pb (upd pn D (nI R)) o' (upd sK R (nI w)) (upd sA R A) (upd sB R C) (upd sE R x) (upd oq D (nI R)) := by
  obtain ⟨⟨a1, a2, a3, a4, a5⟩, b, c, d, e1, e2, e3, e4, e5⟩ := h
  have g : ∀ k, k ≤ R → (if k = R + 1 then D + 1 else G k) = G k := fun k hk => if_neg (by omega)
  have gR : (if R + 1 = R + 1 then D + 1 else G (R + 1)) = D + 1 := if_pos rfl
  refine ⟨⟨by omega, by omega, h7, h8, ho⟩, fun k hk => ?_, fun j hj => ?_, fun k hk hb hj => ?_, fun k hk => ?_, ?_, gR, fun k hk hb => ?_, fun k hk => ?_⟩
  · by_cases q : k = R
    · subst q
      exact ⟨w, hw, us, us, by rw [us, us], by rw [us, us], by rw [us, us]; exact ha⟩
    · obtain ⟨v, v1, v2, v3, v4, v5, v6⟩ := b k (by omega)
      exact ⟨v, v1, by rw [un q]; exact v2, by rw [un q]; exact v3, by rw [un q, un q]; exact v4, by rw [un q, un q]; exact v5, by rw [un q, un q]; exact v6⟩
  · by_cases qj : j = D
    · subst qj
      refine ⟨R, by omega, us, us, by rw [us, nIz (by omega)]; omega, by dsimp only; rw [g R (by omega)]; exact e3, fun m m1 m2 => ?_⟩
      dsimp only
      rw [show m = R + 1 by omega, gR]; omega
    · obtain ⟨v, v1, v2, v3, v4, v5, v6⟩ := c j (by omega)
      refine ⟨v, by omega, by rw [un qj]; exact v2, by rw [un qj]; exact v3, by rw [un (by omega)]; exact v4, by dsimp only; rw [g v (by omega)]; exact v5, fun m m1 m2 => ?_⟩
      dsimp only
      by_cases q : m = R + 1
      · rw [if_pos q]; omega
      · rw [if_neg q]; exact v6 m m1 (by omega)
  · by_cases q : k = R
    · subst q
      exact absurd us (hj D (by omega))
    · rw [un q] at hb
      obtain ⟨v, v1, v2, v3, v4, v5, v6⟩ := d k (by omega) hb (fun j hj2 => by
        have := hj j (by omega)
        rw [un (by omega)] at this
        exact this)
      refine ⟨v, v1, by omega, v3, by rw [un q]; exact v4, fun m m1 m2 => ?_, ?_⟩
      · dsimp only; rw [g k (by omega), g m (by omega)]; exact v5 m m1 m2
      · dsimp only; rw [g k (by omega), g v (by omega)]; exact v6
  · dsimp only
    by_cases q : k = R + 1
    · rw [if_pos q]; omega
    · rw [if_neg q]; exact e1 k (by omega)
  · dsimp only; rw [g 0 (by omega)]; exact e2
  · dsimp only
    rw [g k (by omega)]
    by_cases q : k = R
    · subst q; omega
    · rw [un q] at hb
      exact e4 k (by omega) hb
  · dsimp only
    rw [g k (by omega)]
    by_cases q : k = R
    · subst q
      rw [gR]
      refine ⟨by omega, fun z => ?_⟩
      rw [us, nIz (by omega)] at z
      omega
    · rw [g (k + 1) (by omega), un q]
      exact e5 k (by omega)
/-- a bracket is closed -/
theorem prr_close {R D : Nat} {G : Nat → Nat} {pi' o' : IV} (h : PrR R (D + 1) G pi po pf ps pb pn o sK sA sB sE oq) (h7 : pi' 7 = pi 7) (h8 : pi' 8 = nI D) (ho : o' 22 = o 22) :
    ∃ b, b < R ∧ pn D = nI b ∧ oq D = nI b ∧ PrR R D (fun k => if k = R then D else G k) pi' po pf ps (upd pb b (nI R)) pn o' sK sA sB (upd sE b (nI R)) oq := by
  obtain ⟨⟨a1, a2, a3, a4, a5⟩, b, c, d, e1, e2, e3, e4, e5⟩ := h
  obtain ⟨v, v1, v2, v3, v4, v5, v6⟩ := c D (by omega)
  have g : ∀ k, k < R → (if k = R then D else G k) = G k := fun k hk => if_neg (by omega)
  have gR : (if R = R then D else G R) = D := if_pos rfl
  refine ⟨v, v1, v2, v3, ⟨a1, by omega, h7.trans a3, h8, ho.trans a5⟩, b, fun j hj => ?_, fun k hk hb hj => ?_, fun k hk => ?_, ?_, gR, fun k hk hb => ?_, fun k hk => ?_⟩
  · obtain ⟨y, y1, y2, y3, y4, y5, y6⟩ := c j (by omega)
    refine ⟨y, y1, y2, y3, y4, by dsimp only; rw [g y y1]; exact y5, fun m m1 m2 => ?_⟩
    dsimp only
    by_cases q : m = R
    · rw [if_pos q]; exact hj
    · rw [if_neg q]; exact y6 m m1 m2
  · by_cases q : k = v
    · subst q
      refine ⟨R, hk, Nat.le_refl _, us, us, fun m m1 m2 => ?_, ?_⟩
      · dsimp only; rw [g k hk, g m m2, v5]; exact v6 m m1 (by omega)
      · dsimp only; rw [gR, g k hk, v5]; omega
    · obtain ⟨y, y1, y2, y3, y4, y5, y6⟩ := d k hk hb (fun j hj2 => by
        by_cases qj : j = D
        · rw [qj, v2]; exact nI_ne (by omega) (by omega) (fun w => q w.symm)
        · exact hj j (by omega))
      refine ⟨y, y1, y2, by rw [un q]; exact y3, by rw [un q]; exact y4, fun m m1 m2 => ?_, ?_⟩
      · dsimp only; rw [g k hk, g m (by omega)]; exact y5 m m1 m2
      · dsimp only
        rw [g k hk]
        by_cases qy : y = R
        · rw [if_pos qy]
          rw [qy] at y6
          omega
        · rw [if_neg qy]; exact y6
  · dsimp only
    by_cases q : k = R
    · rw [if_pos q]; omega
    · rw [if_neg q]; exact e1 k hk
  · dsimp only
    rw [g 0 (by omega)]; exact e2
  · dsimp only; rw [g k hk]; exact e4 k hk hb
  · dsimp only
    rw [g k hk]
    obtain ⟨z1, z2⟩ := e5 k hk
    by_cases q : k + 1 = R
    · rw [if_pos q]
      rw [q] at z1 z2
      exact ⟨by omega, fun z => by have := z2 z; omega⟩
    · rw [if_neg q]; exact ⟨z1, z2⟩
/-- a bracket that must stand here -/
theorem open_TX (h : TX B n st t tb o bu) {R D : Nat} (hD : D ≤ 2) (h8 : pi 8 = nI D) {x : Int32} (hx : (D < 2 → ¬ x = 0) ∧ (¬ D < 2 → x = 0)) : ok_Pr_openBracket (nI R) pi pn t tb ∧ ok_Mo_isSign (40 : Int32) o ∧ ok_Mo_goOn (sp_Mo_must x 3 (sp_Mo_must (sp_Mo_isSign (40 : Int32) o bu) 1 o)) bu ∧ ∃ st', st ≤ st' ∧
    TX B n st' (sp_Pr_openBracket (nI R) pi pn t tb).2.2 tb (sp_Mo_goOn (sp_Mo_must x 3 (sp_Mo_must (sp_Mo_isSign (40 : Int32) o bu) 1 o)) bu) bu ∧ FrT o (sp_Mo_goOn (sp_Mo_must x 3 (sp_Mo_must (sp_Mo_isSign (40 : Int32) o bu) 1 o)) bu) ∧
    ((sp_Pr_openBracket (nI R) pi pn t tb).2.2 5 = 0 → t 5 = 0 ∧ D < 2 ∧ st < st' ∧ (sp_Pr_openBracket (nI R) pi pn t tb).1 = upd pi 8 (nI (D + 1)) ∧ (sp_Pr_openBracket (nI R) pi pn t tb).2.1 = upd pn D (nI R)) := by
  obtain ⟨s1, s2, s3, s4⟩ := isSign_TX h (c := 40) (by omega)
  have cN : ¬ pi 8 < 0 := by rw [h8, show (0 : Int32) = nI 0 from rfl, nzlt (by omega) (by omega)]; omega
  have c2 : pi 8 < (2 : Int32) ↔ D < 2 := by rw [h8, show (2 : Int32) = nI 2 from rfl, nzlt (by omega) (by omega)]
  have c3 : (2 : Int32) ≤ pi 8 ↔ ¬ D < 2 := by rw [h8, show (2 : Int32) = nI 2 from rfl, nzle (by omega) (by omega)]; omega
  -- what the class leaves behind the sign
  have e28 : ∀ u : IV, sp_Pr_openBracket_28 tb pi pn (nI R) u = if D < 2 then (upd pi 8 (nI (D + 1)), upd pn D (nI R), sp_Te_takeSign (40 : Int32) u tb) else (pi, pn, sp_Te_takeSign (40 : Int32) u tb) := fun u => by
    unfold sp_Pr_openBracket_28
    simp only [lettn]
    rw [if_neg cN]
    by_cases q : D < 2
    · rw [if_neg (fun w => (c3.mp w) q), if_pos q, h8, cl_nI (by omega), nzadd1 D (by omega)]
    · rw [if_pos (c3.mpr q), if_neg q]
  have t28 : ∀ u : IV, (sp_Pr_openBracket_28 tb pi pn (nI R) u).2.2 = sp_Te_takeSign (40 : Int32) u tb := fun u => by
    rw [e28]
    split <;> rfl
  have oT : ∀ (u v : IV) (s : Nat), TX B n s u tb v bu → ok_Pr_openBracket_28 tb pi pn (nI R) u := fun u v s hu => by
    unfold ok_Pr_openBracket_28
    exact ⟨(sign_TX hu (c := 40) (by omega)).1, trivial⟩
  obtain ⟨f3a, f3b, f3c, -⟩ := fail_TX h (c := 3) (by decide)
  have oC : ok_Pr_openBracket (nI R) pi pn t tb := by
    unfold ok_Pr_openBracket
    simp only [lettn]
    exact ⟨fun _ => ⟨fun _ => oT _ _ _ h, fun _ => oT _ _ _ f3a⟩, fun _ => oT _ _ _ h⟩
  refine ⟨oC, s1, ?_⟩
  -- the sign at an error: nothing moves
  have tErr : ∀ (u v : IV) (s : Nat), TX B n s u tb v bu → ¬ u 5 = 0 → sp_Te_takeSign (40 : Int32) u tb = u := fun u v s hu h5 => by
    have q : ¬ u 2 = (40 : Int32) := by rw [tx_err hu h5]; decide
    obtain ⟨-, -, -, f4⟩ := fail_TX hu (c := 1) (by decide)
    obtain ⟨g1, g2, s', g3, g4, g5, g6, g7⟩ := goOn_TX hu
    unfold sp_Te_takeSign sp_Te_takeSign_13
    simp only [lettn]
    rw [if_neg q, (f4 h5).1, (g7 h5).1]
  by_cases q : t 2 = (40 : Int32)
  · have ns : ¬ sp_Mo_isSign (40 : Int32) o bu = 0 := fun w => (s2.mp w) q
    have h5 := s4 q
    by_cases qd : D < 2
    · obtain ⟨g1, g2, s', g3, g4, g5, g6, g7⟩ := goOn_TX h
      have eC : sp_Pr_openBracket (nI R) pi pn t tb = (upd pi 8 (nI (D + 1)), upd pn D (nI R), sp_Te_advance t tb) := by
        unfold sp_Pr_openBracket
        simp only [lettn]
        rw [if_pos q, if_pos (c2.mpr qd), e28, if_pos qd]
        unfold sp_Te_takeSign sp_Te_takeSign_13
        simp only [lettn]
        rw [if_pos q]
      rw [eC, must_1 ns, must_1 (hx.1 qd)]
      exact ⟨g2, s', g3, g4, g5, fun _ => ⟨h5, qd, (g6 h5).2.2.2 (by rw [q]; decide), rfl, rfl⟩⟩
    · obtain ⟨g1, g2, s', g3, g4, g5, g6, g7⟩ := goOn_TX f3a
      obtain ⟨g8, g9, g10⟩ := g7 f3b
      have eC : (sp_Pr_openBracket (nI R) pi pn t tb).2.2 = sp_Te_fail 3 t := by
        unfold sp_Pr_openBracket
        simp only [lettn]
        rw [if_pos q, if_neg (fun w => qd (c2.mp w)), t28]
        exact tErr _ _ _ f3a f3b
      rw [eC, must_1 ns, hx.2 qd, g9]
      exact ⟨g2, st, Nat.le_refl _, f3a, f3c, fun w => absurd w f3b⟩
  · have ns : sp_Mo_isSign (40 : Int32) o bu = 0 := s2.mpr q
    obtain ⟨f1, f2, f3, f4⟩ := fail_TX h (c := 1) (by decide)
    obtain ⟨g1, g2, s', g3, g4, g5, g6, g7⟩ := goOn_TX f1
    obtain ⟨g8, g9, g10⟩ := g7 f2
    have eC : (sp_Pr_openBracket (nI R) pi pn t tb).2.2 = sp_Te_fail 1 t := by
      unfold sp_Pr_openBracket
      simp only [lettn]
      rw [if_neg q, t28]
      unfold sp_Te_takeSign sp_Te_takeSign_13
      simp only [lettn]
      rw [if_neg q]
      exact g8
    have em : sp_Mo_must x 3 (sp_Mo_must 0 1 o) = sp_Mo_must 0 1 o := by
      by_cases w : x = 0
      · rw [w]; exact tx_err_same f1 f2 3
      · exact must_1 w
    rw [eC, ns, em, g9]
    exact ⟨g2, st, Nat.le_refl _, f1, f3, fun w => absurd w f2⟩
end TPB
