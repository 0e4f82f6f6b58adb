section TPG
variable {T : Int} {R d x : Nat} {G b e c : Nat → Nat} {pi po pf ps pb pn pt o sK sA sB sE oq bS bE bL : IV} {now : LV}
/-- the latest reading is a null: the reference's words -/
noncomputable def lat (now : LV) : Int32 := if now 43 ≤ (0 : Int64) then 0 else if sp_Mo_isNull (now 44) now = 0 then 0 else 1
/-- how often a bracket is done -/
def tn (w : Nat) (A nl : Int32) : Nat := if w = 8 then A.toInt.toNat else if nl = 0 then 1 else 0
theorem tn_le {w : Nat} {A nl : Int32} (h : w = 8 → 0 ≤ A.toInt ∧ A.toInt ≤ 20) : tn w A nl ≤ 20 := by
  unfold tn
  by_cases q : w = 8
  · rw [if_pos q]; have := h q; omega
  · rw [if_neg q]; split <;> decide
theorem timesOf_R {w k : Nat} (hk : k < 30) (hw : w = 8 ∨ w = 9) (h1 : sK k = nI w) (h2 : w = 8 → 0 ≤ (sA k).toInt) : sp_Mo_timesOf (nI k) now sK sA = nI (tn w (sA k) (lat now)) ∧ ok_Mo_timesOf (nI k) now sK sA := by
  have v : vp_in (nI k) 30 := vp_nI hk (by decide)
  have e31 : ∀ z : Int32, sp_Mo_timesOf_31 sK (nI k) sA z = nI (tn w (sA k) z) ∧ ok_Mo_timesOf_31 sK (nI k) sA z := fun z => by
    unfold sp_Mo_timesOf_31 ok_Mo_timesOf_31 tn
    rw [cl_nI (by omega), h1]
    refine ⟨?_, v, trivial⟩
    by_cases q : w = 8
    · rw [if_pos (by rw [q]; rfl), if_pos q]
      exact nzex (h2 q)
    · rw [if_neg (by rw [show (8 : Int32) = nI 8 from rfl, nzinj (by omega) (by omega)]; exact q), if_neg q]
      by_cases q2 : z = 0
      · rw [if_pos q2, if_pos q2]; rfl
      · rw [if_neg q2, if_neg q2]; rfl
  constructor
  · unfold sp_Mo_timesOf sp_Mo_timesOf_30 lat
    simp only [lettn]
    by_cases q : now 43 ≤ (0 : Int64)
    · rw [if_pos q, if_pos q]; exact (e31 0).1
    · rw [if_neg q, if_neg q]
      by_cases q2 : sp_Mo_isNull (now 44) now = 0
      · rw [if_pos q2, if_pos q2]; exact (e31 0).1
      · rw [if_neg q2, if_neg q2]; exact (e31 1).1
  · unfold ok_Mo_timesOf ok_Mo_timesOf_30
    simp only [lettn]
    exact ⟨fun _ => (e31 0).2, fun _ => ⟨fun _ => (e31 0).2, fun _ => (e31 1).2⟩⟩
/-- a bracket begins: the class -/
theorem c_block {n f w v : Nat} {nl : Int32} (hR : R ≤ 30) (hS : RunS R d x b e c pi pn pt bS bE bL) (hx : x < R) (hd : d < 2) (hw : w = 8 ∨ w = 9) (h1 : po x = nI w) (h2 : w = 8 → 0 ≤ (pf x).toInt ∧ (pf x).toInt ≤ 20) (h3 : pb x = nI v) (hn : n < 1000000) :
    sp_Pr_next_61 pi pn pt po pf pb (nI n) nl (sp_Pr_next_2 po pf pb nl f) = (if tn w (pf x) nl = 0 then sp_Pr_next_2 po pf pb nl f (nI (n + 1)) (upd pi 9 (nI v)) pn pt else sp_Pr_next_2 po pf pb nl f (nI (n + 1)) (upd (upd pi 8 (nI (d + 1))) 9 (nI (x + 1))) (upd pn d (nI x)) (upd pt d (nI (tn w (pf x) nl)))) ∧
    ((tn w (pf x) nl = 0 → ok_Pr_next_2 po pf pb nl f (nI (n + 1)) (upd pi 9 (nI v)) pn pt) → (¬ tn w (pf x) nl = 0 → ok_Pr_next_2 po pf pb nl f (nI (n + 1)) (upd (upd pi 8 (nI (d + 1))) 9 (nI (x + 1))) (upd pn d (nI x)) (upd pt d (nI (tn w (pf x) nl)))) → ok_Pr_next_61 pi pn pt po pf pb (nI n) nl (sp_Pr_next_2 po pf pb nl f) (ok_Pr_next_2 po pf pb nl f)) := by
  obtain ⟨s1, s2, s3, s4⟩ := hS
  have hT := tn_le (nl := nl) h2
  have c9 : ¬ pi 9 < 0 := by rw [s3, show (0 : Int32) = nI 0 from rfl, nzlt (by omega) (by omega)]; omega
  have c97 : pi 9 < pi 7 := by rw [s3, s1, nzlt (by omega) (by omega)]; exact hx
  have d0 : ¬ pi 8 < 0 := by rw [s2, show (0 : Int32) = nI 0 from rfl, nzlt (by omega) (by omega)]; omega
  have d2 : ¬ (2 : Int32) ≤ pi 8 := by rw [s2, show (2 : Int32) = nI 2 from rfl, nzle (by omega) (by omega)]; omega
  have eE : ∀ t : Nat, t ≤ 20 → sp_Pr_enter (nI t) pi pb pn pt = if t = 0 then (upd pi 9 (nI v), pn, pt) else (upd (upd pi 8 (nI (d + 1))) 9 (nI (x + 1)), upd pn d (nI x), upd pt d (nI t)) := fun t ht => by
    have ct : nI t ≤ (0 : Int32) ↔ t = 0 := by rw [show (0 : Int32) = nI 0 from rfl, nzle (by omega) (by omega)]; omega
    unfold sp_Pr_enter sp_Pr_enter_81
    simp only [lettn]
    by_cases q : t = 0
    · rw [if_pos (ct.mpr q), if_pos q, s3, inRow30_c (by omega), h3]
    · rw [if_neg (fun u => q (ct.mp u)), if_neg q, if_neg d0, if_neg d2, if_neg d2, s2, cl_nI (by omega), s3, nzadd1 d (by omega), un (show 9 ≠ 8 by decide), s3, nzadd1 x (by omega)]
  have e10 : sp_Pr_inRow30 (pi 9) po = nI w := by rw [s3, inRow30_c (by omega), h1]
  have e15 : sp_Pr_inRow30 (pi 9) pf = pf x := by rw [s3, inRow30_c (by omega)]
  -- the times, as the class has them
  have key : ∃ y : Int32, y = nI (tn w (pf x) nl) ∧ ((w = 8 ∧ y = pf x) ∨ (w = 9 ∧ nl = 0 ∧ y = 1) ∨ (w = 9 ∧ ¬ nl = 0 ∧ y = 0)) := by
    rcases hw with q | q
    · refine ⟨pf x, ?_, Or.inl ⟨q, rfl⟩⟩
      unfold tn
      rw [if_pos q]
      exact nzex (h2 q).1
    · by_cases q2 : nl = 0
      · refine ⟨1, ?_, Or.inr (Or.inl ⟨q, q2, rfl⟩)⟩
        unfold tn
        rw [if_neg (by omega), if_pos q2]; rfl
      · refine ⟨0, ?_, Or.inr (Or.inr ⟨q, q2, rfl⟩)⟩
        unfold tn
        rw [if_neg (by omega), if_neg q2]; rfl
  obtain ⟨y, y1, y2⟩ := key
  have eY : sp_Pr_enter y pi pb pn pt = if tn w (pf x) nl = 0 then (upd pi 9 (nI v), pn, pt) else (upd (upd pi 8 (nI (d + 1))) 9 (nI (x + 1)), upd pn d (nI x), upd pt d (nI (tn w (pf x) nl))) := by
    rw [y1]; exact eE _ hT
  constructor
  · have z : sp_Pr_next_61 pi pn pt po pf pb (nI n) nl (sp_Pr_next_2 po pf pb nl f) = sp_Pr_next_2 po pf pb nl f (nI (n + 1)) (sp_Pr_enter y pi pb pn pt).1 (sp_Pr_enter y pi pb pn pt).2.1 (sp_Pr_enter y pi pb pn pt).2.2 := by
      unfold sp_Pr_next_61 sp_Pr_next_141 sp_Pr_next_164
      simp only [lettn]
      rw [if_neg c9, if_pos c97, e10, e15, nzadd1 n (by omega)]
      rcases y2 with ⟨q, q2⟩ | ⟨q, q2, q3⟩ | ⟨q, q2, q3⟩
      · rw [if_pos (by rw [q]; rfl), q2]
      · rw [if_neg (by rw [q]; decide), if_pos (by rw [q]; rfl), if_pos q2, q3]
      · rw [if_neg (by rw [q]; decide), if_pos (by rw [q]; rfl), if_neg q2, q3]
    rw [z, eY]
    by_cases q : tn w (pf x) nl = 0
    · rw [if_pos q, if_pos q]
    · rw [if_neg q, if_neg q]
  · intro g1 g2
    have z : ok_Pr_next_2 po pf pb nl f (nI (n + 1)) (sp_Pr_enter y pi pb pn pt).1 (sp_Pr_enter y pi pb pn pt).2.1 (sp_Pr_enter y pi pb pn pt).2.2 := by
      rw [eY]
      by_cases q : tn w (pf x) nl = 0
      · rw [if_pos q]; exact g1 q
      · rw [if_neg q]; exact g2 q
    unfold ok_Pr_next_61 ok_Pr_next_141 ok_Pr_next_164
    simp only [lettn]
    rw [e10, e15, nzadd1 n (by omega)]
    refine ⟨fun u => absurd u c9, fun _ => ⟨fun _ => ⟨fun u => ?_, fun u => ⟨fun u2 => ⟨fun u3 => ?_, fun u3 => ?_⟩, fun _ => trivial⟩⟩, fun u => absurd c97 u⟩⟩
    · rcases y2 with ⟨q, q2⟩ | ⟨q, q2, q3⟩ | ⟨q, q2, q3⟩
      · rw [q2] at z; exact z
      · rw [q] at u; exact absurd u (by decide)
      · rw [q] at u; exact absurd u (by decide)
    · rcases y2 with ⟨q, q2⟩ | ⟨q, q2, q3⟩ | ⟨q, q2, q3⟩
      · rw [q] at u2; exact absurd u2 (by decide)
      · rw [q3] at z; exact z
      · exact absurd u3 q2
    · rcases y2 with ⟨q, q2⟩ | ⟨q, q2, q3⟩ | ⟨q, q2, q3⟩
      · rw [q] at u2; exact absurd u2 (by decide)
      · exact absurd q2 u3
      · rw [q3] at z; exact z
/-- .. the reference -/
theorem m_block {n f w v : Nat} (hR : R ≤ 30) (hx : x < R) (hd : d < 2) (hw : w = 8 ∨ w = 9) (h1 : sK x = nI w) (h2 : w = 8 → 0 ≤ (sA x).toInt ∧ (sA x).toInt ≤ 20) (h3 : sE x = nI v) :
    sp_Mo_doSteps_98 sK (nI x) now sA sB (nI n) (nI d) bS bE bL sE (sp_Mo_doSteps_6 sK sA sB sE o f) = (if tn w (sA x) (lat now) = 0 then sp_Mo_doSteps_6 sK sA sB sE o f (nI n) (nI d) (nI v) now bS bE bL else sp_Mo_doSteps_6 sK sA sB sE o f (nI n) (nI (d + 1)) (nI (x + 1)) now (upd bS d (nI (x + 1))) (upd bE d (nI v)) (upd bL d (nI (tn w (sA x) (lat now))))) ∧
    ((tn w (sA x) (lat now) = 0 → ok_Mo_doSteps_6 sK sA sB sE o f (nI n) (nI d) (nI v) now bS bE bL) → (¬ tn w (sA x) (lat now) = 0 → ok_Mo_doSteps_6 sK sA sB sE o f (nI n) (nI (d + 1)) (nI (x + 1)) now (upd bS d (nI (x + 1))) (upd bE d (nI v)) (upd bL d (nI (tn w (sA x) (lat now))))) → ok_Mo_doSteps_98 sK (nI x) now sA sB (nI n) (nI d) bS bE bL sE (sp_Mo_doSteps_6 sK sA sB sE o f) (ok_Mo_doSteps_6 sK sA sB sE o f)) := by
  obtain ⟨t1, t2⟩ := timesOf_R (now := now) (sA := sA) (by omega : x < 30) hw h1 (fun q => (h2 q).1)
  have hT := tn_le (nl := lat now) h2
  have v30 : vp_in (nI x) 30 := vp_nI (by omega) (by decide)
  have v2 : vp_in (nI d) 2 := vp_nI hd (by decide)
  have c8 : ¬ sK x < (8 : Int32) := by rw [h1, show (8 : Int32) = nI 8 from rfl, nzlt (by omega) (by omega)]; omega
  generalize tn w (sA x) (lat now) = t at *
  have ct : nI t ≤ (0 : Int32) ↔ t = 0 := by rw [show (0 : Int32) = nI 0 from rfl, nzle (by omega) (by omega)]; omega
  unfold sp_Mo_doSteps_98 ok_Mo_doSteps_98 sp_Mo_doSteps_153 ok_Mo_doSteps_153 sp_Mo_doSteps_170 ok_Mo_doSteps_170
  simp only [lettn]
  rw [cl_nI (by omega), t1, cl_nI (by omega), nzadd1 x (by omega), nzadd1 d (by omega), h3, if_neg c8]
  refine ⟨?_, fun g1 g2 => ⟨v30, fun u => absurd u c8, fun _ => ⟨t2, fun u => ⟨fun _ => ⟨v30, g1 (ct.mp u)⟩, fun u2 => absurd u u2⟩, fun u => ?_⟩⟩⟩
  · by_cases q : t = 0
    · rw [if_pos (ct.mpr q), if_pos (ct.mpr q), if_pos q]
    · rw [if_neg (fun u => q (ct.mp u)), if_neg (fun u => q (ct.mp u)), if_neg q]
  · have q : ¬ t = 0 := fun q => u (ct.mpr q)
    first
      | exact ⟨v2, fun u2 => absurd u2 u, fun _ => g2 q⟩
      | exact ⟨v2, v30, fun u2 => absurd u2 u, fun _ => g2 q⟩
      | exact ⟨v2, v2, v2, fun u2 => absurd u2 u, fun _ => g2 q⟩
/-- a call comes: the class -/
theorem c_call {n f w : Nat} {nl : Int32} (hR : R ≤ 30) (hS : RunS R d x b e c pi pn pt bS bE bL) (hx : x < R) (hw : w < 8) (h1 : po x = nI w) : sp_Pr_next_61 pi pn pt po pf pb (nI n) nl (sp_Pr_next_2 po pf pb nl f) = (nI x, upd pi 9 (nI (x + 1)), pn, pt) ∧ ok_Pr_next_61 pi pn pt po pf pb (nI n) nl (sp_Pr_next_2 po pf pb nl f) (ok_Pr_next_2 po pf pb nl f) := by
  obtain ⟨s1, s2, s3, s4⟩ := hS
  have c9 : ¬ pi 9 < 0 := by rw [s3, show (0 : Int32) = nI 0 from rfl, nzlt (by omega) (by omega)]; omega
  have c97 : pi 9 < pi 7 := by rw [s3, s1, nzlt (by omega) (by omega)]; exact hx
  have e10 : sp_Pr_inRow30 (pi 9) po = nI w := by rw [s3, inRow30_c (by omega), h1]
  have n8 : ¬ nI w = (8 : Int32) := by rw [show (8 : Int32) = nI 8 from rfl, nzinj (by omega) (by omega)]; omega
  have n9 : ¬ nI w = (9 : Int32) := by rw [show (9 : Int32) = nI 9 from rfl, nzinj (by omega) (by omega)]; omega
  unfold sp_Pr_next_61 ok_Pr_next_61 sp_Pr_next_147
  simp only [lettn]
  rw [if_neg c9, if_pos c97, e10, if_neg n8, if_neg n9, us, s3, nzadd1 x (by omega), sub1 x (by omega)]
  exact ⟨rfl, fun u => absurd (by rw [s3]; exact u) c9, fun _ => ⟨fun _ => ⟨fun u => absurd u n8, fun _ => ⟨fun u => absurd u n9, fun _ => trivial⟩⟩, fun _ => trivial⟩⟩
/-- the protocol is over -/
theorem c_done {n f : Nat} {nl : Int32} (hR : R ≤ 30) (hS : RunS R 0 R b e c pi pn pt bS bE bL) (hn : n < 1000000) : sp_Pr_next_2 po pf pb nl (f + 1) (nI n) pi pn pt = (-1, pi, pn, pt) ∧ ok_Pr_next_2 po pf pb nl (f + 1) (nI n) pi pn pt := by
  obtain ⟨s1, s2, s3, s4⟩ := hS
  have c6 : ¬ (1000000 : Int32) ≤ nI n := by rw [show (1000000 : Int32) = nI 1000000 from rfl, nzle (by omega) (by omega)]; omega
  have c0 : pi 8 ≤ 0 := by rw [s2]; decide
  have c9 : ¬ pi 9 < 0 := by rw [s3, show (0 : Int32) = nI 0 from rfl, nzlt (by omega) (by omega)]; omega
  have c97 : ¬ pi 9 < pi 7 := by rw [s3, s1, nzlt (by omega) (by omega)]; omega
  constructor
  · show bd_Pr_next_2 _ _ _ _ _ _ _ _ _ = _
    unfold bd_Pr_next_2 sp_Pr_next_32 sp_Pr_next_61
    simp only [lettn]
    rw [if_neg c6, if_pos c0, if_pos trivial, if_neg c9, if_neg c97]
  · show okb_Pr_next_2 _ _ _ _ _ _ _ _ _ _
    unfold okb_Pr_next_2 ok_Pr_next_32 ok_Pr_next_61
    simp only [lettn]
    exact ⟨fun w => absurd w c6, fun _ => ⟨fun _ => ⟨fun _ => ⟨fun u => absurd u c9, fun _ => ⟨fun u => absurd u c97, fun _ => trivial⟩⟩, fun w => absurd trivial w⟩, fun w => absurd c0 w⟩⟩
theorem m_done {n f : Nat} (hR : R ≤ 30) (h22 : o 22 = nI R) : sp_Mo_doSteps_6 sK sA sB sE o (f + 1) (nI n) (nI 0) (nI R) now bS bE bL = (nI n, now, bS, bE, bL) ∧ ok_Mo_doSteps_6 sK sA sB sE o (f + 1) (nI n) (nI 0) (nI R) now bS bE bL := by
  have c22 : o 22 ≤ nI R := by rw [h22]; exact Int32.le_refl _
  constructor
  · show bd_Mo_doSteps_6 _ _ _ _ _ _ _ _ _ _ _ _ _ = _
    unfold bd_Mo_doSteps_6
    rw [if_pos c22, if_neg (show ¬ (0 : Int32) < nI 0 by decide), ite_self]
  · show okb_Mo_doSteps_6 _ _ _ _ _ _ _ _ _ _ _ _ _ _
    unfold okb_Mo_doSteps_6
    exact ⟨fun _ => trivial, fun _ => ⟨fun w => absurd w (by decide), fun _ => ⟨fun _ => trivial, fun w => absurd c22 w⟩⟩⟩
end TPG
