section TPF
variable {T : Int} {R d x : Nat} {G b e c : Nat → Nat} {pi po pf ps pb pn pt o sK sA sB sE oq bS bE bL : IV} {now : LV}
/-! ===== a protocol runs: where both stand ===== -/
/-- the rows of a protocol that was understood -/
def ProR (R : Nat) (G : Nat → Nat) (po pf ps pb sK sA sB sE : IV) : Prop :=
  R ≤ 30 ∧ (∀ k, k < R → ∃ w, w < 10 ∧ po k = nI w ∧ sK k = nI w ∧ sA k = pf k ∧ sB k = ps k ∧ argR w (pf k).toInt (ps k).toInt) ∧
  (∀ k, k < R → 8 ≤ (po k).toInt → ∃ v, k < v ∧ v ≤ R ∧ pb k = nI v ∧ sE k = nI v ∧ (∀ m, k < m → m < v → G k < G m) ∧ G v ≤ G k) ∧
  G 0 = 0 ∧ G R = 0 ∧ (∀ k, k < R → 8 ≤ (po k).toInt → G k < 2) ∧ (∀ k, k < R → G (k + 1) ≤ G k + 1 ∧ ((po k).toInt < 8 → G (k + 1) ≤ G k))
theorem prr_pro (h : PrR R 0 G pi po pf ps pb pn o sK sA sB sE oq) : ProR R G po pf ps pb sK sA sB sE := by
  obtain ⟨⟨a1, a2, a3, a4, a5⟩, b, c, d, e1, e2, e3, e4, e5⟩ := h
  exact ⟨a1, b, fun k hk h8 => d k hk h8 (fun j hj => absurd hj (by omega)), e2, e3, e4, e5⟩
/-- one open bracket while it runs -/
def BrI (R : Nat) (G : Nat → Nat) (pb sE : IV) (x j b e c : Nat) : Prop := b < x ∧ x ≤ e ∧ e ≤ R ∧ G b = j ∧ pb b = nI e ∧ sE b = nI e ∧ 1 ≤ c ∧ c ≤ 20 ∧ (∀ m, b < m → m < e → j < G m) ∧ G e ≤ j
def RunI (R : Nat) (G : Nat → Nat) (pb sE : IV) (d x : Nat) (b e c : Nat → Nat) : Prop :=
  d ≤ 2 ∧ x ≤ R ∧ G x ≤ d ∧ (∀ j, j < d → BrI R G pb sE x j (b j) (e j) (c j)) ∧ (d = 2 → e 1 ≤ e 0)
def RunS (R d x : Nat) (b e c : Nat → Nat) (pi pn pt bS bE bL : IV) : Prop :=
  pi 7 = nI R ∧ pi 8 = nI d ∧ pi 9 = nI x ∧ ∀ j, j < d → pn j = nI (b j) ∧ pt j = nI (c j) ∧ bS j = nI (b j + 1) ∧ bE j = nI (e j) ∧ bL j = nI (c j)
/-- how many turns are left at most -/
def Phi (R d x : Nat) (b e c : Nat → Nat) : Nat := match d with
  | 0 => 421 * (R - x)
  | 1 => 421 * (R - e 0) + (21 * (e 0 - x) + 1) + (c 0 - 1) * (21 * (e 0 - b 0 - 1) + 1)
  | _ => 421 * (R - e 0) + (21 * (e 0 - e 1) + 1) + (c 0 - 1) * (21 * (e 0 - b 0 - 1) + 1) + ((e 1 - x) + 1) + (c 1 - 1) * (e 1 - b 1)
/-- no bracket ends here, and the protocol doesn't -/
def Mid (R d x : Nat) (e : Nat → Nat) : Prop := x < R ∧ (∀ j, d = j + 1 → x ≠ e j)
theorem sub1 (a : Nat) (h : a < 2147483647) : nI (a + 1) - (1 : Int32) = nI a := nzsub (a + 1) 1 (by omega) (by omega)
/-- the class, where no bracket ends -/
theorem c_to61 {n f : Nat} {nl : Int32} (hP : ProR R G po pf ps pb sK sA sB sE) (hI : RunI R G pb sE d x b e c) (hS : RunS R d x b e c pi pn pt bS bE bL) (hn : n < 1000000) (hm : ∀ j, d = j + 1 → x ≠ e j) :
    sp_Pr_next_2 po pf pb nl (f + 1) (nI n) pi pn pt = sp_Pr_next_61 pi pn pt po pf pb (nI n) nl (sp_Pr_next_2 po pf pb nl f) ∧ (ok_Pr_next_61 pi pn pt po pf pb (nI n) nl (sp_Pr_next_2 po pf pb nl f) (ok_Pr_next_2 po pf pb nl f) → ok_Pr_next_2 po pf pb nl (f + 1) (nI n) pi pn pt) := by
  obtain ⟨i1, i2, i3, i4, i5⟩ := hI
  obtain ⟨s1, s2, s3, s4⟩ := hS
  have hR := hP.1
  have c6 : ¬ (1000000 : Int32) ≤ nI n := by rw [show (1000000 : Int32) = nI 1000000 from rfl, nzle (by omega) (by omega)]; omega
  cases d with
  | zero =>
    have c0 : pi 8 ≤ 0 := by rw [s2]; decide
    constructor
    · show bd_Pr_next_2 _ _ _ _ _ _ _ _ _ = _
      unfold bd_Pr_next_2 sp_Pr_next_32
      simp only [lettn]
      rw [if_neg c6, if_pos c0, if_pos trivial]
    · intro h
      show okb_Pr_next_2 _ _ _ _ _ _ _ _ _ _
      unfold okb_Pr_next_2 ok_Pr_next_32
      simp only [lettn]
      exact ⟨fun w => absurd w c6, fun _ => ⟨fun _ => ⟨fun _ => h, fun w => absurd trivial w⟩, fun w => absurd c0 w⟩⟩
  | succ D =>
    have c0 : ¬ pi 8 ≤ 0 := by rw [s2, show (0 : Int32) = nI 0 from rfl, nzle (by omega) (by omega)]; omega
    obtain ⟨t1, t2, t3, t4, t5⟩ := s4 D (by omega)
    obtain ⟨u1, u2, u3, u4, u5, u6, u7, u8, u9, u10⟩ := i4 D (by omega)
    have e8 : pi 8 - (1 : Int32) = nI D := by rw [s2]; exact sub1 D (by omega)
    have eb : ¬ nI (b D) = (-1 : Int32) := fun w => by
      have := congrArg Int32.toInt w
      rw [nIz (by omega)] at this
      have z : (-1 : Int32).toInt = -1 := rfl
      omega
    have en : ¬ pi 9 = nI (e D) := by rw [s3, nzinj (by omega) (by omega)]; exact hm D rfl
    constructor
    · show bd_Pr_next_2 _ _ _ _ _ _ _ _ _ = _
      unfold bd_Pr_next_2 sp_Pr_next_32
      simp only [lettn]
      rw [if_neg c6, if_neg c0, e8, inRow2_c (by omega), t1, if_neg eb, inRow30_c (by omega), u5, if_neg en]
    · intro h
      show okb_Pr_next_2 _ _ _ _ _ _ _ _ _ _
      unfold okb_Pr_next_2 ok_Pr_next_32
      simp only [lettn]
      rw [e8, inRow2_c (by omega), t1, inRow30_c (by omega), u5]
      exact ⟨fun w => absurd w c6, fun _ => ⟨fun w => absurd w c0, fun _ => ⟨fun w => absurd w eb, fun _ => ⟨fun w => absurd w en, fun _ => h⟩⟩⟩⟩
/-- the reference there -/
theorem m_to98 {n f : Nat} (hP : ProR R G po pf ps pb sK sA sB sE) (hI : RunI R G pb sE d x b e c) (hS : RunS R d x b e c pi pn pt bS bE bL) (h22 : o 22 = nI R) (hn : n < 60) (hm : Mid R d x e) :
    sp_Mo_doSteps_6 sK sA sB sE o (f + 1) (nI n) (nI d) (nI x) now bS bE bL = sp_Mo_doSteps_98 sK (nI x) now sA sB (nI n) (nI d) bS bE bL sE (sp_Mo_doSteps_6 sK sA sB sE o f) ∧ (ok_Mo_doSteps_98 sK (nI x) now sA sB (nI n) (nI d) bS bE bL sE (sp_Mo_doSteps_6 sK sA sB sE o f) (ok_Mo_doSteps_6 sK sA sB sE o f) → ok_Mo_doSteps_6 sK sA sB sE o (f + 1) (nI n) (nI d) (nI x) now bS bE bL) := by
  obtain ⟨i1, i2, i3, i4, i5⟩ := hI
  obtain ⟨s1, s2, s3, s4⟩ := hS
  obtain ⟨m1, m2⟩ := hm
  have hR := hP.1
  have c6 : ¬ (60 : Int32) ≤ nI n := by rw [show (60 : Int32) = nI 60 from rfl, nzle (by omega) (by omega)]; omega
  have c22 : ¬ o 22 ≤ nI x := by rw [h22, nzle (by omega) (by omega)]; omega
  have e24 : sp_Mo_doSteps_24 (nI d) sK (nI x) now sA sB (nI n) bS bE bL sE (sp_Mo_doSteps_6 sK sA sB sE o f) = sp_Mo_doSteps_98 sK (nI x) now sA sB (nI n) (nI d) bS bE bL sE (sp_Mo_doSteps_6 sK sA sB sE o f) ∧ (ok_Mo_doSteps_98 sK (nI x) now sA sB (nI n) (nI d) bS bE bL sE (sp_Mo_doSteps_6 sK sA sB sE o f) (ok_Mo_doSteps_6 sK sA sB sE o f) → ok_Mo_doSteps_24 (nI d) sK (nI x) now sA sB (nI n) bS bE bL sE (sp_Mo_doSteps_6 sK sA sB sE o f) (ok_Mo_doSteps_6 sK sA sB sE o f)) := by
    unfold sp_Mo_doSteps_24 ok_Mo_doSteps_24
    simp only [lettn]
    cases d with
    | zero =>
      rw [if_pos (show nI 0 ≤ (0 : Int32) by decide)]
      exact ⟨rfl, fun h => ⟨fun _ => h, fun w => absurd (show nI 0 ≤ (0 : Int32) by decide) w⟩⟩
    | succ D =>
      have c0 : ¬ nI (D + 1) ≤ (0 : Int32) := by rw [show (0 : Int32) = nI 0 from rfl, nzle (by omega) (by omega)]; omega
      obtain ⟨t1, t2, t3, t4, t5⟩ := s4 D (by omega)
      obtain ⟨u1, u2, u3, -⟩ := i4 D (by omega)
      have en : ¬ nI x = nI (e D) := by rw [nzinj (by omega) (by omega)]; exact m2 D rfl
      rw [if_neg c0, sub1 D (by omega), cl_nI (by omega), t4, if_neg en]
      exact ⟨rfl, fun h => ⟨fun w => absurd w c0, fun _ => ⟨vp_nI (by omega) (by decide), fun w => absurd w en, fun _ => h⟩⟩⟩
  constructor
  · show bd_Mo_doSteps_6 _ _ _ _ _ _ _ _ _ _ _ _ _ = _
    unfold bd_Mo_doSteps_6
    rw [if_neg c6, if_neg c22, ite_self]
    exact e24.1
  · intro h
    show okb_Mo_doSteps_6 _ _ _ _ _ _ _ _ _ _ _ _ _ _
    unfold okb_Mo_doSteps_6
    exact ⟨fun w => absurd w c6, fun _ => ⟨fun _ => e24.2 h, fun _ => ⟨fun w => absurd w c22, fun _ => e24.2 h⟩⟩⟩
/-- a bracket's turn ends: the class -/
theorem c_end {D n f : Nat} {nl : Int32} (hP : ProR R G po pf ps pb sK sA sB sE) (hI : RunI R G pb sE (D + 1) x b e c) (hS : RunS R (D + 1) x b e c pi pn pt bS bE bL) (hn : n < 1000000) (hx : x = e D) :
    sp_Pr_next_2 po pf pb nl (f + 1) (nI n) pi pn pt = (if c D = 1 then sp_Pr_next_2 po pf pb nl f (nI (n + 1)) (upd pi 8 (nI D)) pn pt else sp_Pr_next_2 po pf pb nl f (nI (n + 1)) (upd pi 9 (nI (b D + 1))) pn (upd pt D (nI (c D - 1)))) ∧
    ((c D = 1 → ok_Pr_next_2 po pf pb nl f (nI (n + 1)) (upd pi 8 (nI D)) pn pt) → (¬ c D = 1 → ok_Pr_next_2 po pf pb nl f (nI (n + 1)) (upd pi 9 (nI (b D + 1))) pn (upd pt D (nI (c D - 1)))) → ok_Pr_next_2 po pf pb nl (f + 1) (nI n) pi pn pt) := by
  obtain ⟨i1, i2, i3, i4, i5⟩ := hI
  obtain ⟨s1, s2, s3, s4⟩ := hS
  have hR := hP.1
  have c6 : ¬ (1000000 : Int32) ≤ nI n := by rw [show (1000000 : Int32) = nI 1000000 from rfl, nzle (by omega) (by omega)]; omega
  have c0 : ¬ pi 8 ≤ 0 := by rw [s2, show (0 : Int32) = nI 0 from rfl, nzle (by omega) (by omega)]; omega
  obtain ⟨t1, t2, t3, t4, t5⟩ := s4 D (by omega)
  obtain ⟨u1, u2, u3, u4, u5, u6, u7, u8, u9, u10⟩ := i4 D (by omega)
  have e8 : pi 8 - (1 : Int32) = nI D := by rw [s2]; exact sub1 D (by omega)
  have eb : ¬ nI (b D) = (-1 : Int32) := fun w => by
    have := congrArg Int32.toInt w
    rw [nIz (by omega)] at this
    have z : (-1 : Int32).toInt = -1 := rfl
    omega
  have en : pi 9 = nI (e D) := by rw [s3, hx]
  have cD0 : ¬ nI D < (0 : Int32) := by rw [show (0 : Int32) = nI 0 from rfl, nzlt (by omega) (by omega)]; omega
  have cD2 : ¬ (2 : Int32) ≤ nI D := by rw [show (2 : Int32) = nI 2 from rfl, nzle (by omega) (by omega)]; omega
  have c1 : nI (c D) ≤ (1 : Int32) ↔ c D = 1 := by rw [show (1 : Int32) = nI 1 from rfl, nzle (by omega) (by omega)]; omega
  have eT : sp_Pr_endTurn (nI (b D)) pi pt = if c D = 1 then (upd pi 8 (nI D), pt) else (upd pi 9 (nI (b D + 1)), upd pt D (nI (c D - 1))) := by
    unfold sp_Pr_endTurn sp_Pr_endTurn_50
    simp only [lettn]
    rw [e8, if_neg cD0, if_neg cD2, cl_nI (by omega), t2]
    by_cases q : c D = 1
    · rw [if_pos (c1.mpr q), if_pos q]
    · rw [if_neg (fun w => q (c1.mp w)), if_neg q, nzadd1 _ (by omega), show nI (c D) - (1 : Int32) = nI (c D - 1) from nzsub (c D) 1 (by omega) (by omega)]
  constructor
  · show bd_Pr_next_2 _ _ _ _ _ _ _ _ _ = _
    unfold bd_Pr_next_2 sp_Pr_next_32 sp_Pr_next_164
    simp only [lettn]
    rw [if_neg c6, if_neg c0, e8, inRow2_c (by omega), t1, if_neg eb, inRow30_c (by omega), u5, if_pos en, eT, nzadd1 n (by omega)]
    by_cases q : c D = 1
    · rw [if_pos q, if_pos q]
    · rw [if_neg q, if_neg q]
  · intro h1 h2
    show okb_Pr_next_2 _ _ _ _ _ _ _ _ _ _
    unfold okb_Pr_next_2 ok_Pr_next_32 ok_Pr_next_164
    simp only [lettn]
    rw [e8, inRow2_c (by omega), t1, inRow30_c (by omega), u5, eT, nzadd1 n (by omega)]
    refine ⟨fun w => absurd w c6, fun _ => ⟨fun w => absurd w c0, fun _ => ⟨fun w => absurd w eb, fun _ => ⟨fun _ => ?_, fun w => absurd en w⟩⟩⟩⟩
    by_cases q : c D = 1
    · rw [if_pos q]; exact h1 q
    · rw [if_neg q]; exact h2 q
/-- .. the reference -/
theorem m_endT {D n f : Nat} (hP : ProR R G po pf ps pb sK sA sB sE) (hI : RunI R G pb sE (D + 1) x b e c) (hS : RunS R (D + 1) x b e c pi pn pt bS bE bL) (hn : n < 60) (hx : x = e D) :
    sp_Mo_doSteps_6 sK sA sB sE o (f + 1) (nI n) (nI (D + 1)) (nI x) now bS bE bL = (if c D = 1 then sp_Mo_doSteps_6 sK sA sB sE o f (nI n) (nI D) (nI x) now bS bE (upd bL D (nI (c D - 1))) else sp_Mo_doSteps_6 sK sA sB sE o f (nI n) (nI (D + 1)) (nI (b D + 1)) now bS bE (upd bL D (nI (c D - 1)))) ∧
    ((c D = 1 → ok_Mo_doSteps_6 sK sA sB sE o f (nI n) (nI D) (nI x) now bS bE (upd bL D (nI (c D - 1)))) → (¬ c D = 1 → ok_Mo_doSteps_6 sK sA sB sE o f (nI n) (nI (D + 1)) (nI (b D + 1)) now bS bE (upd bL D (nI (c D - 1)))) → ok_Mo_doSteps_6 sK sA sB sE o (f + 1) (nI n) (nI (D + 1)) (nI x) now bS bE bL) := by
  obtain ⟨i1, i2, i3, i4, i5⟩ := hI
  obtain ⟨s1, s2, s3, s4⟩ := hS
  have hR := hP.1
  have c6 : ¬ (60 : Int32) ≤ nI n := by rw [show (60 : Int32) = nI 60 from rfl, nzle (by omega) (by omega)]; omega
  have cp : (0 : Int32) < nI (D + 1) := by rw [show (0 : Int32) = nI 0 from rfl, nzlt (by omega) (by omega)]; omega
  have c0 : ¬ nI (D + 1) ≤ (0 : Int32) := by rw [show (0 : Int32) = nI 0 from rfl, nzle (by omega) (by omega)]; omega
  obtain ⟨t1, t2, t3, t4, t5⟩ := s4 D (by omega)
  obtain ⟨u1, u2, u3, u4, u5, u6, u7, u8, u9, u10⟩ := i4 D (by omega)
  have eB : bL D - (1 : Int32) = nI (c D - 1) := by rw [t5]; exact nzsub (c D) 1 (by omega) (by omega)
  have c1 : nI (c D - 1) ≤ (0 : Int32) ↔ c D = 1 := by rw [show (0 : Int32) = nI 0 from rfl, nzle (by omega) (by omega)]; omega
  have s0 : nI (D + 1) - (0 : Int32) = nI (D + 1) := nzsub (D + 1) 0 (by omega) (by omega)
  have v : vp_in (nI D) 2 := vp_nI (by omega) (by decide)
  have en : nI x = bE D := by rw [t4, hx]
  constructor
  · show bd_Mo_doSteps_6 _ _ _ _ _ _ _ _ _ _ _ _ _ = _
    unfold bd_Mo_doSteps_6 sp_Mo_doSteps_24 sp_Mo_doSteps_75 sp_Mo_doSteps_93
    simp only [lettn]
    rw [if_neg c6, if_pos cp, if_neg c0, sub1 D (by omega), cl_nI (by omega), if_pos en, us, eB, s0, t3]
    by_cases q : c D = 1
    · rw [if_pos (c1.mpr q), if_pos (c1.mpr q), if_pos q]
    · rw [if_neg (fun w => q (c1.mp w)), if_neg (fun w => q (c1.mp w)), if_neg q]
  · intro h1 h2
    show okb_Mo_doSteps_6 _ _ _ _ _ _ _ _ _ _ _ _ _ _
    unfold okb_Mo_doSteps_6 ok_Mo_doSteps_24 ok_Mo_doSteps_75 ok_Mo_doSteps_93
    simp only [lettn]
    rw [sub1 D (by omega), cl_nI (by omega), us, eB, s0, t3]
    refine ⟨fun w => absurd w c6, fun _ => ⟨fun _ => ⟨fun w => absurd w c0, fun _ => ⟨v, fun _ => ⟨fun w => ⟨v, fun _ => h1 (c1.mp w), fun w2 => absurd w w2⟩, fun w => ⟨v, fun w2 => absurd w2 w, fun _ => h2 (fun q => w (c1.mpr q))⟩⟩, fun w => absurd en w⟩⟩, fun w => absurd cp w⟩⟩
end TPF
