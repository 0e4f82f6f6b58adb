section TRE
variable {T : Int} {r : LV} {o ea : IV} {eal : LV} {rar : NI} {ral : NL} {n e : Nat} {p q : Int32}
/-! ===== the answers on results and manners ===== -/
theorem chkI {a b : Int32} : ok_Db_checkIndex a b ↔ 0 ≤ a.toInt ∧ a.toInt < b.toInt := by
  have c0 : a < 0 ↔ a.toInt < 0 := Int32.lt_iff_toInt_lt
  have c1 : a < b ↔ a.toInt < b.toInt := Int32.lt_iff_toInt_lt
  unfold ok_Db_checkIndex ok_Db_checkIndex_9
  constructor
  · intro h
    by_cases q0 : a < 0
    · exact (h.1 q0).1.elim
    · by_cases q1 : a < b
      · exact ⟨by have := mt c0.mpr q0; omega, c1.mp q1⟩
      · exact ((h.2 q0).2 q1).1.elim
  · intro h
    exact ⟨fun w => by have := c0.mp w; omega, fun _ => ⟨fun _ => trivial, fun w => absurd (c1.mpr h.2) w⟩⟩
theorem chkR {a b c : Int32} : ok_Db_checkRange a b c ↔ b.toInt ≤ a.toInt ∧ a.toInt ≤ c.toInt := by
  have c0 : a < b ↔ a.toInt < b.toInt := Int32.lt_iff_toInt_lt
  have c1 : a ≤ c ↔ a.toInt ≤ c.toInt := Int32.le_iff_toInt_le
  unfold ok_Db_checkRange ok_Db_checkRange_10
  constructor
  · intro h
    by_cases q0 : a < b
    · exact (h.1 q0).1.elim
    · by_cases q1 : a ≤ c
      · exact ⟨by have := mt c0.mpr q0; omega, c1.mp q1⟩
      · exact ((h.2 q0).2 q1).1.elim
  · intro h
    exact ⟨fun w => by have := c0.mp w; omega, fun _ => ⟨fun _ => trivial, fun w => absurd (c1.mpr h.2) w⟩⟩
/-- in, of an int within two numbers -/
theorem in32 {a b : Int64} (A B : Int) (ha : a.toInt = A) (hb : b.toInt = B) : (A ≤ p.toInt ∧ p.toInt ≤ B ∧ ¬ sp_Mo_in p.toInt64 a b = 0) ∨ (¬ (A ≤ p.toInt ∧ p.toInt ≤ B) ∧ sp_Mo_in p.toInt64 a b = 0) := by
  have h := in_iff (v := p.toInt64) (Kit.i64_of_i32 p) ha hb
  by_cases c : A ≤ p.toInt ∧ p.toInt ≤ B
  · exact Or.inl ⟨c.1, c.2, by rw [h.1 c]; decide⟩
  · exact Or.inr ⟨c, h.2 c⟩
theorem pex (h0 : 0 ≤ p.toInt) {m : Nat} (h1 : p.toInt < (m : Int)) : ∃ i : Nat, p = nI i ∧ i < m := ⟨p.toInt.toNat, nzex h0, by omega⟩
theorem n54 (hn : RN r n) : (r 54 - (1 : Int64)).toInt = (n : Int) - 1 := by
  have h20 := hn.1
  have h2 := hn.2
  have k := e64_sub (show E64 (r 54) (zr r 54) 0 20 from ⟨rfl, by omega, by omega⟩) (e64_lit 1 (1 : Int64) rfl) (by decide) (by decide)
  rw [k.1, h2]
theorem m_isR (hn : RN r n) : ((∃ i : Nat, p = nI i ∧ i < n) ∧ ¬ sp_Mo_isResult p r = 0 ∨ ¬ (0 ≤ p.toInt ∧ p.toInt < (n : Int)) ∧ sp_Mo_isResult p r = 0) ∧ ok_Mo_isResult p r := by
  unfold sp_Mo_isResult ok_Mo_isResult
  simp only [lettn]
  refine ⟨?_, isB_in _ _ _, trivial⟩
  rcases in32 (p := p) 0 ((n : Int) - 1) (a := 0) rfl (n54 hn) with ⟨a, b, c⟩ | ⟨a, b⟩
  · exact Or.inl ⟨pex a (by omega), c⟩
  · exact Or.inr ⟨fun w => a ⟨w.1, by omega⟩, b⟩
theorem o6a (o : IV) (c : Int32) : upd o 6 c 6 = c := us
/-- result -/
theorem result_Q (h : RR ea rar ral r) (hn : RN r n) : ok_Mo_result p q o r ∧ (
    (∃ v, sp_Mo_result p q o r = (v, upd o 6 0) ∧ ok_Db_result p q ea rar ∧ sp_Db_result p q ea rar = v) ∨
    (¬ ok_Db_checkIndex p (ea 1) ∧ sp_Mo_result p q o r = (0, upd o 6 1)) ∨
    (ok_Db_checkIndex p (ea 1) ∧ ¬ ok_Db_checkRange q 0 6 ∧ sp_Mo_result p q o r = (0, upd o 6 2))) := by
  have h20 := hn.1
  have en := rr_n h hn
  have eni : (ea 1).toInt = (n : Int) := by rw [en, nIz (by omega)]
  obtain ⟨hR, oR⟩ := m_isR (p := p) hn
  unfold sp_Mo_result ok_Mo_result sp_Mo_result_30 ok_Mo_result_30
  simp only [lettn, o6a]
  rcases hR with ⟨⟨i, rfl, hi⟩, hz⟩ | ⟨hz, hz2⟩
  · rcases in32 (p := q) 0 6 (a := 0) (b := 6) rfl rfl with ⟨a, b, c⟩ | ⟨a, b⟩
    · obtain ⟨j, rfl, hj⟩ := pex a (m := 7) (by omega)
      have cI : ok_Db_checkIndex (nI i) (ea 1) := chkI.mpr ⟨by rw [nIz (by omega)]; omega, by rw [eni, nIz (by omega)]; omega⟩
      have cR : ok_Db_checkRange (nI j) 0 6 := chkR.mpr ⟨a, b⟩
      have at1 := at_some en h20 hi
      obtain ⟨m1, m2⟩ := m_mof (r := r) (p := i) (by omega)
      obtain ⟨k1, k2⟩ := c_mof h hn hi
      rw [if_neg hz, if_neg c, if_pos (show (0 : Int32) ≤ 0 by decide)]
      refine ⟨⟨oR, fun w => absurd w hz, fun _ => ⟨fun w => absurd w c, fun _ => ⟨fun _ => ⟨fun _ => ⟨m2, trivial⟩, fun _ => ⟨(m_of (r := r) (by omega) (show j < 8 by omega)).2, trivial⟩⟩, fun w => absurd (by decide) w⟩⟩⟩, Or.inl ?_⟩
      unfold sp_Db_result ok_Db_result
      simp only [lettn]
      rw [at1]
      show ∃ v, _ ∧ _ ∧ (if nI j = 0 then rar i 0 else _) = v
      by_cases j6 : j = 6
      · subst j6
        rw [if_pos (show nI 6 = (6 : Int32) from rfl), m1, if_neg (show ¬ nI 6 = (0 : Int32) by decide), if_neg (show ¬ nI 6 = (1 : Int32) by decide), if_neg (show ¬ nI 6 = (2 : Int32) by decide), if_neg (show ¬ nI 6 = (3 : Int32) by decide), if_neg (show ¬ nI 6 = (4 : Int32) by decide), if_neg (show ¬ nI 6 = (5 : Int32) by decide)]
        refine ⟨_, rfl, ⟨cI, cR, fun w => absurd w (by simp), fun k6 hk => ?_⟩, k1⟩
        cases hk
        exact ⟨fun _ => ⟨by omega, trivial⟩, fun _ => ⟨fun _ => ⟨by omega, trivial⟩, fun _ => ⟨fun _ => ⟨by omega, trivial⟩, fun _ => ⟨fun _ => ⟨by omega, trivial⟩, fun _ => ⟨fun _ => ⟨by omega, trivial⟩, fun _ => ⟨fun _ => ⟨by omega, trivial⟩, fun _ => ⟨k2, trivial⟩⟩⟩⟩⟩⟩⟩
      · have j6' : ¬ nI j = (6 : Int32) := fun w => j6 ((nzinj (b := 6) (by omega) (by omega)).mp w)
        have f := (h.2 i (by omega) (by rw [hn.2]; omega)).1 j (by omega)
        have rg := rg32 (rar i j)
        have ev : rar i j = (r (55 + 8 * i + j)).toInt32 := Int32.toInt_inj.mp (by
          rw [Kit.i32_of_i64 (by show -2 ^ 31 ≤ zr r (55 + 8 * i + j); omega) (by show zr r (55 + 8 * i + j) < 2 ^ 31; omega)]; exact f)
        rw [if_neg j6', (m_of (by omega) (show j < 8 by omega)).1, ← ev]
        refine ⟨_, rfl, ⟨cI, cR, fun w => absurd w (by simp), fun k6 hk => ?_⟩, ?_⟩
        · cases hk
          exact ⟨fun _ => ⟨by omega, trivial⟩, fun _ => ⟨fun _ => ⟨by omega, trivial⟩, fun _ => ⟨fun _ => ⟨by omega, trivial⟩, fun _ => ⟨fun _ => ⟨by omega, trivial⟩, fun _ => ⟨fun _ => ⟨by omega, trivial⟩, fun _ => ⟨fun _ => ⟨by omega, trivial⟩, fun _ => ⟨k2, trivial⟩⟩⟩⟩⟩⟩⟩
        · match j, hj, j6 with
          | 0, _, _ => rfl
          | 1, _, _ => rfl
          | 2, _, _ => rfl
          | 3, _, _ => rfl
          | 4, _, _ => rfl
          | 5, _, _ => rfl
          | 6, _, w => exact absurd rfl w
    · have cI : ok_Db_checkIndex (nI i) (ea 1) := chkI.mpr ⟨by rw [nIz (by omega)]; omega, by rw [eni, nIz (by omega)]; omega⟩
      rw [if_neg hz, if_pos b, if_neg (show ¬ (2 : Int32) ≤ 0 by decide)]
      exact ⟨⟨oR, fun w => absurd w hz, fun _ => ⟨fun _ => ⟨fun w => absurd w (by decide), fun _ => trivial⟩, fun w => absurd b w⟩⟩, Or.inr (Or.inr ⟨cI, fun w => a (chkR.mp w), rfl⟩)⟩
  · rw [if_pos hz2, if_neg (show ¬ (1 : Int32) ≤ 0 by decide)]
    exact ⟨⟨oR, fun _ => ⟨fun w => absurd w (by decide), fun _ => trivial⟩, fun w => absurd hz2 w⟩, Or.inr (Or.inl ⟨fun w => hz (by have := chkI.mp w; rw [eni] at this; exact this), rfl⟩)⟩
/-- valueOf -/
theorem valueOf_Q (h : RR ea rar ral r) (hn : RN r n) : ok_Mo_valueOf p q o r ∧ (
    (∃ v, sp_Mo_valueOf p q o r = (v, upd o 6 0) ∧ ok_Db_valueOf p q ea ∧ sp_Db_valueOf p q ea ral = v) ∨
    (¬ ok_Db_checkIndex p (ea 1) ∧ sp_Mo_valueOf p q o r = (0, upd o 6 1))) := by
  have h20 := hn.1
  have en := rr_n h hn
  have eni : (ea 1).toInt = (n : Int) := by rw [en, nIz (by omega)]
  obtain ⟨hR, oR⟩ := m_isR (p := p) hn
  unfold sp_Mo_valueOf ok_Mo_valueOf sp_Mo_valueOf_14 ok_Mo_valueOf_14 sp_Mo_valueOf_41 ok_Mo_valueOf_41
  simp only [lettn, o6a]
  rcases hR with ⟨⟨i, rfl, hi⟩, hz⟩ | ⟨hz, hz2⟩
  · have cI : ok_Db_checkIndex (nI i) (ea 1) := chkI.mpr ⟨by rw [nIz (by omega)]; omega, by rw [eni, nIz (by omega)]; omega⟩
    have at1 := at_some en h20 hi
    have g := (h.2 i (by omega) (by rw [hn.2]; omega)).2
    have v6 := m_of (r := r) (show i < 20 by omega) (show 6 < 8 by decide)
    have v7 := m_of (r := r) (show i < 20 by omega) (show 7 < 8 by decide)
    have f6 : sp_Mo_ofResult (nI i) (6 : Int32) r = ral i 6 := v6.1.trans (g 6 (by decide) (by decide)).symm
    have f7 : sp_Mo_ofResult (nI i) (7 : Int32) r = ral i 7 := v7.1.trans (g 7 (by decide) (by decide)).symm
    rw [if_neg hz, if_pos (show (0 : Int32) ≤ 0 by decide), f6, f7]
    refine ⟨⟨oR, fun w => absurd w hz, fun _ => ⟨fun _ => ⟨fun _ => ⟨v6.2, trivial⟩, fun _ => ⟨v7.2, trivial⟩⟩, fun w => absurd (by decide) w⟩⟩, Or.inl ?_⟩
    unfold sp_Db_valueOf ok_Db_valueOf
    simp only [lettn]
    rw [at1]
    refine ⟨if q = 0 then ral i 6 else ral i 7, ?_, ⟨cI, fun w => absurd w (by simp), fun k4 hk => ?_⟩, rfl⟩
    · by_cases c : q = 0
      · rw [if_pos c, if_pos c]
      · rw [if_neg c, if_neg c]
    · cases hk
      exact ⟨fun _ => ⟨by omega, trivial⟩, fun _ => ⟨by omega, trivial⟩⟩
  · rw [if_pos hz2, if_neg (show ¬ (1 : Int32) ≤ 0 by decide)]
    exact ⟨⟨oR, fun _ => ⟨fun w => absurd w (by decide), fun _ => trivial⟩, fun w => absurd hz2 w⟩, Or.inr ⟨fun w => hz (by have := chkI.mp w; rw [eni] at this; exact this), rfl⟩⟩
/-- a manner: it is, or it is not -/
theorem m_isM (hn : RN r n) : ((∃ e : Nat, p = nI (ah r e) ∧ e < n ∧ fa r e = e) ∧ ¬ sp_Mo_isManner p r = 0 ∨ (∀ m, m < ah r n → p ≠ nI m) ∧ sp_Mo_isManner p r = 0) ∧ ok_Mo_isManner p r := by
  have h20 := hn.1
  have la := ah_le (r := r) n
  obtain ⟨m1, m2⟩ := m_mann hn
  unfold sp_Mo_isManner ok_Mo_isManner
  simp only [lettn]
  rw [m1]
  refine ⟨?_, m2, isB_in _ _ _, trivial⟩
  have k0 := e64_of32 (show E32 (nI (ah r n)) (ah r n) 0 20 from ⟨nIz (by omega), by omega, by omega⟩)
  have k := e64_sub k0 (e64_lit 1 (1 : Int64) rfl) (by decide) (by decide)
  rcases in32 (p := p) 0 ((ah r n : Int) - 1) (a := 0) rfl k.1 with ⟨a, b, c⟩ | ⟨a, b⟩
  · obtain ⟨m, rfl, hm⟩ := pex a (m := ah r n) (by omega)
    obtain ⟨e, e1, e2, e3⟩ := ah_ex n m hm
    exact Or.inl ⟨⟨e, by rw [e3], e1, e2⟩, c⟩
  · refine Or.inr ⟨fun m hm w => a ?_, b⟩
    rw [w, nIz (by omega)]; omega
theorem chkM (hr : RR ea rar ral r) (hn : RN r n) (he : fa r e = e) (hen : e < n) : ∃ ra' al', sp_Db_checkManner (nI (ah r e)) ea eal rar ral = (ra', al') ∧ ok_Db_checkManner (nI (ah r e)) ea eal rar ral ∧ GaR r n e n ra' al' := by
  obtain ⟨ra', al', x1, x2, x3⟩ := c_gath (eal := eal) hr hn he hen
  refine ⟨ra', al', ?_, ?_, x3⟩
  · unfold sp_Db_checkManner
    simp only [lettn]
    rw [x1]
    exact if_neg (show ¬ (1 : Int32) = 0 by decide)
  · unfold ok_Db_checkManner
    simp only [lettn]
    rw [x1]
    exact ⟨x2, fun w => absurd w (show ¬ (1 : Int32) = 0 by decide), fun _ => trivial⟩
/-- manner -/
theorem manner_Q (h : RR ea rar ral r) (hn : RN r n) : ok_Mo_manner p q o r ∧ (
    (∃ v ra' al', sp_Mo_manner p q o r = (v, upd o 6 0) ∧ ok_Db_manner p q ea eal rar ral ∧ sp_Db_manner p q ea eal rar ral = (v, ra', al') ∧ ra' 1 = ea 1) ∨
    (∃ ra' al', sp_Mo_manner p q o r = (0, upd o 6 1) ∧ ok_Rs_gather p ea eal rar ral ∧ sp_Rs_gather p ea eal rar ral = (0, ra', al') ∧ ra' 1 = ea 1) ∨
    (∃ ra' al', ok_Db_checkManner p ea eal rar ral ∧ sp_Db_checkManner p ea eal rar ral = (ra', al') ∧ ra' 1 = ea 1 ∧ ¬ ok_Db_checkRange q 0 5 ∧ sp_Mo_manner p q o r = (0, upd o 6 2))) := by
  have h20 := hn.1
  have en := rr_n h hn
  obtain ⟨hR, oR⟩ := m_isM (p := p) hn
  unfold sp_Mo_manner ok_Mo_manner sp_Mo_manner_30 ok_Mo_manner_30
  simp only [lettn, o6a]
  rcases hR with ⟨⟨e, rfl, hen, he⟩, hz⟩ | ⟨hz, hz2⟩
  · obtain ⟨ra', al', x1, x2, x3⟩ := chkM (eal := eal) h hn he hen
    have e1 : ra' 1 = ea 1 := x3.1.trans en.symm
    rcases in32 (p := q) 0 5 (a := 0) (b := 5) rfl rfl with ⟨a, b, c⟩ | ⟨a, b⟩
    · obtain ⟨j, rfl, hj⟩ := pex a (m := 6) (by omega)
      have cR : ok_Db_checkRange (nI j) 0 5 := chkR.mpr ⟨a, b⟩
      obtain ⟨g1, g4, g5, g6⟩ := x3
      obtain ⟨k2, k3, k6, k7⟩ := g6 hen
      have at1 : sp_Rs_at (ra' 2) ra' = some e := by rw [k2]; exact at_some g1 h20 hen
      obtain ⟨m1, m2⟩ := m_eo (r := r) he (by omega) rfl
      obtain ⟨p1, p2⟩ := m_resOf hn he hen
      obtain ⟨l1, l2⟩ := m_latest hn hen
      have v := m_of (r := r) (show e < 20 by omega) (show j < 8 by omega)
      rw [if_neg hz, if_neg c, if_pos (show (0 : Int32) ≤ 0 by decide), m1, p1, l1, v.1]
      refine ⟨⟨oR, fun w => absurd w hz, fun _ => ⟨fun w => absurd w c, fun _ => ⟨fun _ => ⟨m2, fun _ => ⟨p2, trivial⟩, fun _ => ⟨fun _ => trivial, fun _ => ⟨fun _ => ⟨l2, trivial⟩, fun _ => ⟨v.2, trivial⟩⟩⟩⟩, fun w => absurd (by decide) w⟩⟩⟩, Or.inl ?_⟩
      unfold sp_Db_manner ok_Db_manner
      simp only [lettn]
      rw [x1]
      dsimp only
      rw [at1, g4, k2, k3]
      have f := (h.2 e (by omega) (by rw [hn.2]; omega)).1
      have ev : ∀ j, j < 6 → (r (55 + 8 * e + j)).toInt32 = rar e j := fun j hj => by
        have fj := f j hj
        have rg := rg32 (rar e j)
        exact Int32.toInt_inj.mp (by
          rw [Kit.i32_of_i64 (by show -2 ^ 31 ≤ zr r (55 + 8 * e + j); omega) (by show zr r (55 + 8 * e + j) < 2 ^ 31; omega)]; exact fj.symm)
      rw [ev j (by omega)]
      refine ⟨if nI j = 3 then nI (gN r e n) else if nI j = 4 then nI e else if nI j = 5 then nI (gL r e n) else rar e j, ra', al', ?_, ⟨x2, cR, fun w => absurd w (by simp), fun k6 hk => ?_⟩, ?_, e1⟩
      · split
        · rfl
        · split
          · rfl
          · split <;> rfl
      · cases hk
        exact ⟨fun _ => ⟨by omega, trivial⟩, fun _ => ⟨fun _ => ⟨by omega, trivial⟩, fun _ => ⟨fun _ => ⟨by omega, trivial⟩, fun _ => ⟨fun _ => trivial, fun _ => ⟨fun _ => trivial, fun _ => trivial⟩⟩⟩⟩⟩
      · match j, hj with
        | 0, _ => rfl
        | 1, _ => rfl
        | 2, _ => rfl
        | 3, _ => rfl
        | 4, _ => rfl
        | 5, _ => rfl
    · rw [if_neg hz, if_pos b, if_neg (show ¬ (2 : Int32) ≤ 0 by decide)]
      exact ⟨⟨oR, fun w => absurd w hz, fun _ => ⟨fun _ => ⟨fun w => absurd w (by decide), fun _ => trivial⟩, fun w => absurd b w⟩⟩, Or.inr (Or.inr ⟨ra', al', x2, x1, e1, fun w => a (chkR.mp w), rfl⟩)⟩
  · obtain ⟨ra', al', x1, x2, x3⟩ := c_ungath (eal := eal) h hn hz
    rw [if_pos hz2, if_neg (show ¬ (1 : Int32) ≤ 0 by decide)]
    exact ⟨⟨oR, fun _ => ⟨fun w => absurd w (by decide), fun _ => trivial⟩, fun w => absurd hz2 w⟩, Or.inr (Or.inl ⟨ra', al', rfl, x2, x1, x3⟩)⟩
/-- meanOf -/
theorem meanOf_Q (h : RR ea rar ral r) (hn : RN r n) : ok_Mo_meanOf p o r ∧ (
    (∃ v ra' al', sp_Mo_meanOf p o r = (v, upd o 6 0) ∧ ok_Db_meanOf p ea eal rar ral ∧ sp_Db_meanOf p ea eal rar ral = (v, ra', al') ∧ ra' 1 = ea 1 ∧ vf_n64 v) ∨
    (∃ ra' al', sp_Mo_meanOf p o r = (FP.dconst0, upd o 6 1) ∧ ok_Rs_gather p ea eal rar ral ∧ sp_Rs_gather p ea eal rar ral = (0, ra', al') ∧ ra' 1 = ea 1)) := by
  have h20 := hn.1
  have en := rr_n h hn
  obtain ⟨hR, oR⟩ := m_isM (p := p) hn
  unfold sp_Mo_meanOf ok_Mo_meanOf sp_Mo_meanOf_14 ok_Mo_meanOf_14
  simp only [lettn, o6a]
  rcases hR with ⟨⟨e, rfl, hen, he⟩, hz⟩ | ⟨hz, hz2⟩
  · obtain ⟨ra', al', x1, x2, x3⟩ := chkM (eal := eal) h hn he hen
    obtain ⟨m1, m2⟩ := m_eo (r := r) he (by omega) rfl
    obtain ⟨g1, g4, g5, g6⟩ := x3
    have gl := gN_le (r := r) (e := e) n
    have gp := gN_pos (r := r) hen
    have nn : vf_n64 (FP.ddiv (FP.l2d (gS r e n)) (FP.i2d (nI (gN r e n)))) := b_mean _ (k := gN r e n) (by omega) gp (b_i2dn (by omega))
    have mm := m_mean37 hn he hen (oo := upd o 6 0) (n - e) big e (by omega) (by rw [big_eq]; omega)
    rw [(g_before he e (Nat.le_refl e)).2.1] at mm
    have n0 : ¬ nI (gN r e n) = (0 : Int32) := fun w => by have := (nzinj (b := 0) (by omega) (by omega)).mp w; omega
    rw [if_neg hz, if_pos (show (0 : Int32) ≤ 0 by decide), m1]
    refine ⟨⟨oR, fun w => absurd w hz, fun _ => ⟨fun _ => ⟨m2, mm.2 nn⟩, fun w => absurd (by decide) w⟩⟩, Or.inl ⟨_, ra', al', mm.1, ?_, ?_, g1.trans en.symm, nn⟩⟩
    · unfold ok_Db_meanOf
      simp only [lettn]
      rw [x1]
      dsimp only
      rw [g4, g5]
      exact ⟨x2, fun _ => trivial, fun _ => ⟨nn, trivial⟩⟩
    · unfold sp_Db_meanOf
      simp only [lettn]
      rw [x1]
      dsimp only
      rw [if_neg (by rw [g4]; exact n0), g4, g5]
  · obtain ⟨ra', al', x1, x2, x3⟩ := c_ungath (eal := eal) h hn hz
    rw [if_pos hz2, if_neg (show ¬ (1 : Int32) ≤ 0 by decide)]
    exact ⟨⟨oR, fun _ => ⟨fun w => absurd w (by decide), fun _ => trivial⟩, fun w => absurd hz2 w⟩, Or.inr ⟨ra', al', rfl, x2, x1, x3⟩⟩
/-- spreadOf -/
theorem spreadOf_Q (h : RR ea rar ral r) (hn : RN r n) : ok_Mo_spreadOf p o r ∧ (
    (∃ v ra' al', sp_Mo_spreadOf p o r = (v, upd o 6 0) ∧ ok_Db_spreadOf p ea eal rar ral ∧ sp_Db_spreadOf p ea eal rar ral = (v, ra', al') ∧ ra' 1 = ea 1) ∨
    (∃ ra' al', sp_Mo_spreadOf p o r = (0, upd o 6 1) ∧ ok_Rs_gather p ea eal rar ral ∧ sp_Rs_gather p ea eal rar ral = (0, ra', al') ∧ ra' 1 = ea 1)) := by
  have h20 := hn.1
  have en := rr_n h hn
  obtain ⟨hR, oR⟩ := m_isM (p := p) hn
  unfold sp_Mo_spreadOf ok_Mo_spreadOf sp_Mo_spreadOf_14 ok_Mo_spreadOf_14
  simp only [lettn, o6a]
  rcases hR with ⟨⟨e, rfl, hen, he⟩, hz⟩ | ⟨hz, hz2⟩
  · obtain ⟨ra', al', x1, x2, x3⟩ := chkM (eal := eal) h hn he hen
    obtain ⟨m1, m2⟩ := m_eo (r := r) he (by omega) rfl
    obtain ⟨s1, s2⟩ := m_spr hn he hen
    obtain ⟨g1, g4, g5, g6⟩ := x3
    obtain ⟨k2, k3, k6, k7⟩ := g6 hen
    rw [if_neg hz, if_pos (show (0 : Int32) ≤ 0 by decide), m1, s1]
    refine ⟨⟨oR, fun w => absurd w hz, fun _ => ⟨fun _ => ⟨m2, s2, trivial⟩, fun w => absurd (by decide) w⟩⟩, Or.inl ⟨_, ra', al', rfl, ⟨x2, trivial⟩, ?_, g1.trans en.symm⟩⟩
    unfold sp_Db_spreadOf
    simp only [lettn]
    rw [x1]
    dsimp only
    rw [k6, k7]
  · obtain ⟨ra', al', x1, x2, x3⟩ := c_ungath (eal := eal) h hn hz
    rw [if_pos hz2, if_neg (show ¬ (1 : Int32) ≤ 0 by decide)]
    exact ⟨⟨oR, fun _ => ⟨fun w => absurd w (by decide), fun _ => trivial⟩, fun w => absurd hz2 w⟩, Or.inr ⟨ra', al', rfl, x2, x1, x3⟩⟩
/-- steadiest: both sides look at every manner -/
theorem stead_loop (h : RR ea rar ral r) (hn : RN r n) {oo : IV} : ∀ k f1 f2 m (s : Int32) (x : Int64) ra al, m + k = ah r n → k < f1 → k < f2 → ra 1 = nI n → (s = -1 ∨ ∃ e, fa r e = e ∧ e < n ∧ s = nI (ah r e) ∧ x = gMx r e n - gMn r e n) →
    ok_Rs_steadiestManner_13 (nI (ah r n)) rar ral f1 s x (nI m) ra al ∧ ok_Mo_steadiest_9 r oo f2 s (nI m) ∧ ∃ v ra' al', sp_Rs_steadiestManner_13 (nI (ah r n)) rar ral f1 s x (nI m) ra al = (v, ra', al') ∧ sp_Mo_steadiest_9 r oo f2 s (nI m) = (v, oo) ∧ ra' 1 = nI n
  | k, 0, _, _, _, _, _, _, _, hf, _, _, _ => absurd hf (Nat.not_lt_zero k)
  | k, _, 0, _, _, _, _, _, _, _, hf, _, _ => absurd hf (Nat.not_lt_zero k)
  | 0, f1 + 1, f2 + 1, m, s, x, ra, al, hm, _, _, h1, hs => by
    have h20 := hn.1
    have la := ah_le (r := r) n
    obtain ⟨m1, m2⟩ := m_mann hn
    have c : nI (ah r n) ≤ nI m := (nzle (by omega) (by omega)).mpr (by omega)
    refine ⟨?_, ?_, s, ra, al, ?_, ?_, h1⟩
    · show okb_Rs_steadiestManner_13 _ _ _ _ _ _ _ _ _ _
      unfold okb_Rs_steadiestManner_13
      exact ⟨fun _ => trivial, fun w => absurd c w⟩
    · show okb_Mo_steadiest_9 _ _ _ _ _ _
      unfold okb_Mo_steadiest_9
      simp only [lettn]
      rw [m1]
      exact ⟨m2, fun _ => trivial, fun w => absurd c w⟩
    · show bd_Rs_steadiestManner_13 _ _ _ _ _ _ _ _ _ = _
      unfold bd_Rs_steadiestManner_13
      rw [if_pos c]
    · show bd_Mo_steadiest_9 _ _ _ _ _ = _
      unfold bd_Mo_steadiest_9
      simp only [lettn]
      rw [m1, if_pos c]
  | k + 1, f1 + 1, f2 + 1, m, s, x, ra, al, hm, hf1, hf2, h1, hs => by
    have h20 := hn.1
    have la := ah_le (r := r) n
    obtain ⟨m1, m2⟩ := m_mann hn
    have c : ¬ nI (ah r n) ≤ nI m := fun w => by have := (nzle (by omega) (by omega)).mp w; omega
    obtain ⟨e, hen, he, hem⟩ := ah_ex (r := r) n m (by omega)
    have hR : RR ra rar ral r := rr_ea h (h1.trans (rr_n h hn).symm)
    obtain ⟨ra1, al1, x1, x2, g1, g4, g5, g6⟩ := c_gath (eal := al) hR hn he hen
    obtain ⟨k2, k3, k6, k7⟩ := g6 hen
    rw [hem] at x1 x2
    obtain ⟨e1, e2⟩ := m_eo (r := r) he (by omega) hem
    obtain ⟨p1, p2⟩ := m_resOf hn he hen
    obtain ⟨s1, s2⟩ := m_spr hn he hen
    have gl := gN_le (r := r) (e := e) n
    have n1 : ¬ (1 : Int32) = 0 := by decide
    have ne1 : ∀ j : Nat, j < 21 → ¬ nI j = (-1 : Int32) := fun j hj w => by
      have := congrArg Int32.toInt w
      rw [nIz (by omega)] at this
      have z : (-1 : Int32).toInt = -1 := rfl
      omega
    have hlt : ah r e ≤ 20 := by have := ah_le (r := r) e; omega
    -- what is done next, with one that is kept or one that is taken
    have K := stead_loop h hn (oo := oo) k f1 f2 (m + 1) s x ra1 al1 (by omega) (by omega) (by omega) g1 hs
    have Q := stead_loop h hn (oo := oo) k f1 f2 (m + 1) (nI m) (gMx r e n - gMn r e n) ra1 al1 (by omega) (by omega) (by omega) g1 (Or.inr ⟨e, he, hen, by rw [hem], rfl⟩)
    have uC : bd_Rs_steadiestManner_13 (nI (ah r n)) rar ral (sp_Rs_steadiestManner_13 (nI (ah r n)) rar ral f1) s x (nI m) ra al = if nI (gN r e n) < 2 then sp_Rs_steadiestManner_13 (nI (ah r n)) rar ral f1 s x (nI (m + 1)) ra1 al1 else if s = -1 then sp_Rs_steadiestManner_13 (nI (ah r n)) rar ral f1 (nI m) (gMx r e n - gMn r e n) (nI (m + 1)) ra1 al1 else if x ≤ gMx r e n - gMn r e n then sp_Rs_steadiestManner_13 (nI (ah r n)) rar ral f1 s x (nI (m + 1)) ra1 al1 else sp_Rs_steadiestManner_13 (nI (ah r n)) rar ral f1 (nI m) (gMx r e n - gMn r e n) (nI (m + 1)) ra1 al1 := by
      unfold bd_Rs_steadiestManner_13 sp_Rs_steadiestManner_69 sp_Rs_steadiestManner_56 sp_Rs_steadiestManner_69
      simp only [lettn]
      rw [if_neg c, x1]
      dsimp only
      rw [if_neg n1]
      simp only [g4, k6, k7, nzadd1 m (show m + 1 < 2147483648 by omega)]
    have uO : (nI (gN r e n) < 2 ∨ ¬ s = -1 ∧ x ≤ gMx r e n - gMn r e n → ok_Rs_steadiestManner_13 (nI (ah r n)) rar ral f1 s x (nI (m + 1)) ra1 al1) → (¬ nI (gN r e n) < 2 ∧ (s = -1 ∨ ¬ x ≤ gMx r e n - gMn r e n) → ok_Rs_steadiestManner_13 (nI (ah r n)) rar ral f1 (nI m) (gMx r e n - gMn r e n) (nI (m + 1)) ra1 al1) → okb_Rs_steadiestManner_13 (nI (ah r n)) rar ral (sp_Rs_steadiestManner_13 (nI (ah r n)) rar ral f1) (ok_Rs_steadiestManner_13 (nI (ah r n)) rar ral f1) s x (nI m) ra al := by
      intro w1 w2
      unfold okb_Rs_steadiestManner_13 ok_Rs_steadiestManner_69 ok_Rs_steadiestManner_56 ok_Rs_steadiestManner_69
      simp only [lettn]
      rw [x1]
      dsimp only
      rw [g4, k6, k7, nzadd1 m (by omega)]
      exact ⟨fun w => absurd w c, fun _ => ⟨x2, fun w => absurd w n1, fun _ => ⟨fun w => w1 (Or.inl w), fun y => ⟨fun w => w2 ⟨y, Or.inl w⟩, fun y2 => ⟨fun w => w1 (Or.inr ⟨y2, w⟩), fun w => w2 ⟨y, Or.inr w⟩⟩⟩⟩⟩⟩
    have c2 : nI (gN r e n) < 2 ↔ nI (gN r e n) ≤ 1 := by
      rw [show (2 : Int32) = nI 2 from rfl, show (1 : Int32) = nI 1 from rfl, nzlt (by omega) (by omega), nzle (by omega) (by omega)]; omega
    have uM : ∀ es, (s = -1 ∨ (sp_Mo_earliestOf s r = nI es ∧ sp_Mo_spreadFrom (nI es) r = x)) → bd_Mo_steadiest_9 r oo (sp_Mo_steadiest_9 r oo f2) s (nI m) = if nI (gN r e n) < 2 then sp_Mo_steadiest_9 r oo f2 s (nI (m + 1)) else if s = -1 then sp_Mo_steadiest_9 r oo f2 (nI m) (nI (m + 1)) else if x ≤ gMx r e n - gMn r e n then sp_Mo_steadiest_9 r oo f2 s (nI (m + 1)) else sp_Mo_steadiest_9 r oo f2 (nI m) (nI (m + 1)) := by
      intro es hes
      unfold bd_Mo_steadiest_9 sp_Mo_steadiest_35 sp_Mo_steadiest_71 sp_Mo_steadiest_67 sp_Mo_steadiest_72
      simp only [lettn]
      rw [m1, if_neg c, e1, p1, s1, nzadd1 m (by omega)]
      by_cases y : nI (gN r e n) ≤ 1
      · rw [if_pos y, if_pos (c2.mpr y), if_pos trivial]
      · rw [if_neg y, if_neg (fun w => y (c2.mp w)), if_neg n1]
        rcases hes with w | ⟨w1, w2⟩
        · rw [if_pos w, if_pos w]
        · rw [w1, w2]
    have uN : ∀ es, (s = -1 ∨ (sp_Mo_earliestOf s r = nI es ∧ sp_Mo_spreadFrom (nI es) r = x ∧ ok_Mo_earliestOf s r ∧ ok_Mo_spreadFrom (nI es) r)) → (nI (gN r e n) ≤ 1 ∨ ¬ s = -1 ∧ x ≤ gMx r e n - gMn r e n → ok_Mo_steadiest_9 r oo f2 s (nI (m + 1))) → (¬ nI (gN r e n) ≤ 1 ∧ (s = -1 ∨ ¬ x ≤ gMx r e n - gMn r e n) → ok_Mo_steadiest_9 r oo f2 (nI m) (nI (m + 1))) → okb_Mo_steadiest_9 r oo (sp_Mo_steadiest_9 r oo f2) (ok_Mo_steadiest_9 r oo f2) s (nI m) := by
      intro es hes w1 w2
      unfold okb_Mo_steadiest_9 ok_Mo_steadiest_35 ok_Mo_steadiest_71 ok_Mo_steadiest_67 ok_Mo_steadiest_72
      simp only [lettn]
      rw [m1, e1, p1, s1, nzadd1 m (by omega)]
      refine ⟨m2, fun w => absurd w c, fun _ => ⟨e2, p2, fun y => ⟨fun _ => w1 (Or.inl y), fun w => absurd trivial w⟩, fun y => ⟨fun w => absurd w n1, fun _ => ⟨fun w => w2 ⟨y, Or.inl w⟩, fun y2 => ?_⟩⟩⟩⟩
      rcases hes with w | ⟨v1, v2, v3, v4⟩
      · exact absurd w y2
      · rw [v1, v2]
        exact ⟨e2, s2, v3, v4, fun w => w1 (Or.inr ⟨y2, w⟩), fun w => w2 ⟨y, Or.inr w⟩⟩
    have hes : ∃ es, (s = -1 ∨ (sp_Mo_earliestOf s r = nI es ∧ sp_Mo_spreadFrom (nI es) r = x ∧ ok_Mo_earliestOf s r ∧ ok_Mo_spreadFrom (nI es) r)) := by
      rcases hs with w | ⟨es, y1, y2, y3, y4⟩
      · exact ⟨0, Or.inl w⟩
      · obtain ⟨z1, z2⟩ := m_eo (r := r) y1 (by omega) rfl
        obtain ⟨z3, z4⟩ := m_spr hn y1 y2
        exact ⟨es, Or.inr ⟨by rw [y3]; exact z1, by rw [y4]; exact z3, by rw [y3]; exact z2, z4⟩⟩
    obtain ⟨es, hes⟩ := hes
    have uM := uM es (by
      rcases hes with w | w
      · exact Or.inl w
      · exact Or.inr ⟨w.1, w.2.1⟩)
    have uN := uN es hes
    rw [← propext c2] at uN
    by_cases y : nI (gN r e n) < 2 ∨ ¬ s = -1 ∧ x ≤ gMx r e n - gMn r e n
    · obtain ⟨K1, K2, v, ra', al', K3, K4, K5⟩ := K
      have y' : ¬ (¬ nI (gN r e n) < 2 ∧ (s = -1 ∨ ¬ x ≤ gMx r e n - gMn r e n)) := fun ⟨a, b⟩ => y.elim a (fun ⟨c1, c2⟩ => b.elim c1 (fun d => d c2))
      refine ⟨uO (fun _ => K1) (fun w => absurd w y'), uN (fun _ => K2) (fun w => absurd w y'), v, ra', al', ?_, ?_, K5⟩
      · show bd_Rs_steadiestManner_13 _ _ _ _ _ _ _ _ _ = _
        rw [uC]
        rcases y with y | ⟨y1, y2⟩
        · rw [if_pos y]; exact K3
        · rw [if_neg y1, if_pos y2, ite_self]; exact K3
      · show bd_Mo_steadiest_9 _ _ _ _ _ = _
        rw [uM]
        rcases y with y | ⟨y1, y2⟩
        · rw [if_pos y]; exact K4
        · rw [if_neg y1, if_pos y2, ite_self]; exact K4
    · obtain ⟨K1, K2, v, ra', al', K3, K4, K5⟩ := Q
      have ya : ¬ nI (gN r e n) < 2 := fun w => y (Or.inl w)
      have yb : s = -1 ∨ ¬ x ≤ gMx r e n - gMn r e n := by
        by_cases w : s = -1
        · exact Or.inl w
        · exact Or.inr fun w2 => y (Or.inr ⟨w, w2⟩)
      refine ⟨uO (fun w => absurd w y) (fun _ => K1), uN (fun w => absurd w y) (fun _ => K2), v, ra', al', ?_, ?_, K5⟩
      · show bd_Rs_steadiestManner_13 _ _ _ _ _ _ _ _ _ = _
        rw [uC, if_neg ya]
        by_cases w : s = -1
        · rw [if_pos w]; exact K3
        · rw [if_neg w, if_neg (yb.resolve_left w)]; exact K3
      · show bd_Mo_steadiest_9 _ _ _ _ _ = _
        rw [uM, if_neg ya]
        by_cases w : s = -1
        · rw [if_pos w]; exact K4
        · rw [if_neg w, if_neg (yb.resolve_left w)]; exact K4
theorem steadiest_Q (h : RR ea rar ral r) (hn : RN r n) : ok_Mo_steadiest o r ∧ ok_Db_steadiest ea eal rar ral ∧ ∃ v ra' al', sp_Mo_steadiest o r = (v, upd o 6 0) ∧ sp_Db_steadiest ea eal rar ral = (v, ra', al') ∧ ra' 1 = ea 1 := by
  have h20 := hn.1
  have la := ah_le (r := r) n
  obtain ⟨c1, c2⟩ := c_mann h hn
  obtain ⟨a, b, v, ra', al', x1, x2, x3⟩ := stead_loop h hn (oo := upd o 6 0) (ah r n) big big 0 (-1) 0 ea eal (Nat.zero_add _) (by rw [big_eq]; omega) (by rw [big_eq]; omega) (rr_n h hn) (Or.inl rfl)
  unfold ok_Mo_steadiest ok_Db_steadiest ok_Rs_steadiestManner sp_Mo_steadiest sp_Db_steadiest sp_Rs_steadiestManner
  simp only [lettn]
  rw [c1]
  refine ⟨b, ⟨⟨c2, a⟩, trivial⟩, v, ra', al', x2, ?_, x3.trans (rr_n h hn).symm⟩
  have x1' : sp_Rs_steadiestManner_13 (nI (ah r n)) rar ral big (-1) 0 0 ea eal = (v, ra', al') := x1
  rw [x1']
end TRE
