section TKH
variable {B : Nat → Nat} {n st : Nat} {t tb o bu : IV} {su d0 d1 d2 d3 d4 tq rT wT : IV} {dr : LV} {X : Nat → Prop}
/-! ===== a setup's statements ===== -/
theorem numset0 (h : TX B n st t tb o bu) (hd : t 5 = 0 → DrX X d0 d1 d2 d3 d4 dr) {k j : Nat} (hk : k < 29) (ha : pA k = 0) (hj : pI k = j) {p1 p2 : Int32} {q1 q2 : Int64} {lo hi : Int} (hp1 : p1.toInt = lo) (hp2 : p2.toInt = hi) (hq1 : q1.toInt = lo) (hq2 : q2.toInt = hi) (h0 : 0 ≤ lo) (hlh : lo ≤ hi) (hr : rLo k ≤ lo ∧ hi ≤ rHi 0 k) :
    ok_Te_number p1 p2 t tb ∧ ok_Mo_number q1 q2 o bu ∧ ∃ st', st ≤ st' ∧ TX B n st' (sp_Te_number p1 p2 t tb).2 tb (sp_Mo_number q1 q2 o bu).2 bu ∧ FrT o (sp_Mo_number q1 q2 o bu).2 ∧
      ((sp_Te_number p1 p2 t tb).2 5 = 0 → t 5 = 0) ∧ ((sp_Te_number p1 p2 t tb).2 5 = 0 → DrX (fun m => X m ∧ m ≠ k) (upd d0 j (sp_Te_number p1 p2 t tb).1) d1 d2 d3 d4 (vp_updL dr k (sp_Mo_number q1 q2 o bu).1)) := by
  obtain ⟨a1, a2, st', a3, a4, a5, ⟨V, v1, v2, v3, v4⟩, a6⟩ := number_TX h hp1 hp2 hq1 hq2 h0 hlh
  exact ⟨a1, a2, st', a3, a4, a5, fun w => (a6 w).1, fun w => drx0 (hd (a6 w).1) hk ha hj (v3.trans v4.symm) (by rw [v4]; omega)⟩
theorem sgnset0 (h : TX B n st t tb o bu) (hd : t 5 = 0 → DrX X d0 d1 d2 d3 d4 dr) {k j : Nat} (hk : k < 29) (ha : pA k = 0) (hj : pI k = j) {p1 p2 : Int32} {q1 q2 : Int64} {lo hi : Int} (hp1 : p1.toInt = lo) (hp2 : p2.toInt = hi) (hq1 : q1.toInt = lo) (hq2 : q2.toInt = hi) (h0 : -2000000000 < lo) (h1 : lo < 0) (hr : rLo k ≤ lo ∧ hi ≤ rHi 0 k) :
    ok_Te_number p1 p2 t tb ∧ ok_Mo_signed q1 q2 o bu ∧ ∃ st', st ≤ st' ∧ TX B n st' (sp_Te_number p1 p2 t tb).2 tb (sp_Mo_signed q1 q2 o bu).2 bu ∧ FrT o (sp_Mo_signed q1 q2 o bu).2 ∧
      ((sp_Te_number p1 p2 t tb).2 5 = 0 → t 5 = 0) ∧ ((sp_Te_number p1 p2 t tb).2 5 = 0 → DrX (fun m => X m ∧ m ≠ k) (upd d0 j (sp_Te_number p1 p2 t tb).1) d1 d2 d3 d4 (vp_updL dr k (sp_Mo_signed q1 q2 o bu).1)) := by
  obtain ⟨a1, a2, st', a3, a4, a5, a6⟩ := signed_TX h hp1 hp2 hq1 hq2 h0 h1
  refine ⟨a1, a2, st', a3, a4, a5, fun w => (a6 w).1, fun w => ?_⟩
  obtain ⟨w1, w2, V, v1, v2, v3, v4⟩ := a6 w
  exact drx0 (hd w1) hk ha hj (v3.trans v4.symm) (by rw [v4]; omega)
theorem numset1 (h : TX B n st t tb o bu) (hd : t 5 = 0 → DrX X d0 d1 d2 d3 d4 dr) {k j : Nat} (hk : k < 29) (ha : pA k = 1) (hj : pI k = j) {p1 p2 : Int32} {q1 q2 : Int64} {lo hi : Int} (hp1 : p1.toInt = lo) (hp2 : p2.toInt = hi) (hq1 : q1.toInt = lo) (hq2 : q2.toInt = hi) (h0 : 0 ≤ lo) (hlh : lo ≤ hi) (hr : rLo k ≤ lo ∧ hi ≤ rHi 0 k) :
    ok_Te_number p1 p2 t tb ∧ ok_Mo_number q1 q2 o bu ∧ ∃ st', st ≤ st' ∧ TX B n st' (sp_Te_number p1 p2 t tb).2 tb (sp_Mo_number q1 q2 o bu).2 bu ∧ FrT o (sp_Mo_number q1 q2 o bu).2 ∧
      ((sp_Te_number p1 p2 t tb).2 5 = 0 → t 5 = 0) ∧ ((sp_Te_number p1 p2 t tb).2 5 = 0 → DrX (fun m => X m ∧ m ≠ k) d0 (upd d1 j (sp_Te_number p1 p2 t tb).1) d2 d3 d4 (vp_updL dr k (sp_Mo_number q1 q2 o bu).1)) := by
  obtain ⟨a1, a2, st', a3, a4, a5, ⟨V, v1, v2, v3, v4⟩, a6⟩ := number_TX h hp1 hp2 hq1 hq2 h0 hlh
  exact ⟨a1, a2, st', a3, a4, a5, fun w => (a6 w).1, fun w => drx1 (hd (a6 w).1) hk ha hj (v3.trans v4.symm) (by rw [v4]; omega)⟩
theorem sgnset1 (h : TX B n st t tb o bu) (hd : t 5 = 0 → DrX X d0 d1 d2 d3 d4 dr) {k j : Nat} (hk : k < 29) (ha : pA k = 1) (hj : pI k = j) {p1 p2 : Int32} {q1 q2 : Int64} {lo hi : Int} (hp1 : p1.toInt = lo) (hp2 : p2.toInt = hi) (hq1 : q1.toInt = lo) (hq2 : q2.toInt = hi) (h0 : -2000000000 < lo) (h1 : lo < 0) (hr : rLo k ≤ lo ∧ hi ≤ rHi 0 k) :
    ok_Te_number p1 p2 t tb ∧ ok_Mo_signed q1 q2 o bu ∧ ∃ st', st ≤ st' ∧ TX B n st' (sp_Te_number p1 p2 t tb).2 tb (sp_Mo_signed q1 q2 o bu).2 bu ∧ FrT o (sp_Mo_signed q1 q2 o bu).2 ∧
      ((sp_Te_number p1 p2 t tb).2 5 = 0 → t 5 = 0) ∧ ((sp_Te_number p1 p2 t tb).2 5 = 0 → DrX (fun m => X m ∧ m ≠ k) d0 (upd d1 j (sp_Te_number p1 p2 t tb).1) d2 d3 d4 (vp_updL dr k (sp_Mo_signed q1 q2 o bu).1)) := by
  obtain ⟨a1, a2, st', a3, a4, a5, a6⟩ := signed_TX h hp1 hp2 hq1 hq2 h0 h1
  refine ⟨a1, a2, st', a3, a4, a5, fun w => (a6 w).1, fun w => ?_⟩
  obtain ⟨w1, w2, V, v1, v2, v3, v4⟩ := a6 w
  exact drx1 (hd w1) hk ha hj (v3.trans v4.symm) (by rw [v4]; omega)
theorem numset2 (h : TX B n st t tb o bu) (hd : t 5 = 0 → DrX X d0 d1 d2 d3 d4 dr) {k j : Nat} (hk : k < 29) (ha : pA k = 2) (hj : pI k = j) {p1 p2 : Int32} {q1 q2 : Int64} {lo hi : Int} (hp1 : p1.toInt = lo) (hp2 : p2.toInt = hi) (hq1 : q1.toInt = lo) (hq2 : q2.toInt = hi) (h0 : 0 ≤ lo) (hlh : lo ≤ hi) (hr : rLo k ≤ lo ∧ hi ≤ rHi 0 k) :
    ok_Te_number p1 p2 t tb ∧ ok_Mo_number q1 q2 o bu ∧ ∃ st', st ≤ st' ∧ TX B n st' (sp_Te_number p1 p2 t tb).2 tb (sp_Mo_number q1 q2 o bu).2 bu ∧ FrT o (sp_Mo_number q1 q2 o bu).2 ∧
      ((sp_Te_number p1 p2 t tb).2 5 = 0 → t 5 = 0) ∧ ((sp_Te_number p1 p2 t tb).2 5 = 0 → DrX (fun m => X m ∧ m ≠ k) d0 d1 (upd d2 j (sp_Te_number p1 p2 t tb).1) d3 d4 (vp_updL dr k (sp_Mo_number q1 q2 o bu).1)) := by
  obtain ⟨a1, a2, st', a3, a4, a5, ⟨V, v1, v2, v3, v4⟩, a6⟩ := number_TX h hp1 hp2 hq1 hq2 h0 hlh
  exact ⟨a1, a2, st', a3, a4, a5, fun w => (a6 w).1, fun w => drx2 (hd (a6 w).1) hk ha hj (v3.trans v4.symm) (by rw [v4]; omega)⟩
theorem sgnset2 (h : TX B n st t tb o bu) (hd : t 5 = 0 → DrX X d0 d1 d2 d3 d4 dr) {k j : Nat} (hk : k < 29) (ha : pA k = 2) (hj : pI k = j) {p1 p2 : Int32} {q1 q2 : Int64} {lo hi : Int} (hp1 : p1.toInt = lo) (hp2 : p2.toInt = hi) (hq1 : q1.toInt = lo) (hq2 : q2.toInt = hi) (h0 : -2000000000 < lo) (h1 : lo < 0) (hr : rLo k ≤ lo ∧ hi ≤ rHi 0 k) :
    ok_Te_number p1 p2 t tb ∧ ok_Mo_signed q1 q2 o bu ∧ ∃ st', st ≤ st' ∧ TX B n st' (sp_Te_number p1 p2 t tb).2 tb (sp_Mo_signed q1 q2 o bu).2 bu ∧ FrT o (sp_Mo_signed q1 q2 o bu).2 ∧
      ((sp_Te_number p1 p2 t tb).2 5 = 0 → t 5 = 0) ∧ ((sp_Te_number p1 p2 t tb).2 5 = 0 → DrX (fun m => X m ∧ m ≠ k) d0 d1 (upd d2 j (sp_Te_number p1 p2 t tb).1) d3 d4 (vp_updL dr k (sp_Mo_signed q1 q2 o bu).1)) := by
  obtain ⟨a1, a2, st', a3, a4, a5, a6⟩ := signed_TX h hp1 hp2 hq1 hq2 h0 h1
  refine ⟨a1, a2, st', a3, a4, a5, fun w => (a6 w).1, fun w => ?_⟩
  obtain ⟨w1, w2, V, v1, v2, v3, v4⟩ := a6 w
  exact drx2 (hd w1) hk ha hj (v3.trans v4.symm) (by rw [v4]; omega)
theorem numset3 (h : TX B n st t tb o bu) (hd : t 5 = 0 → DrX X d0 d1 d2 d3 d4 dr) {k j : Nat} (hk : k < 29) (ha : pA k = 3) (hj : pI k = j) {p1 p2 : Int32} {q1 q2 : Int64} {lo hi : Int} (hp1 : p1.toInt = lo) (hp2 : p2.toInt = hi) (hq1 : q1.toInt = lo) (hq2 : q2.toInt = hi) (h0 : 0 ≤ lo) (hlh : lo ≤ hi) (hr : rLo k ≤ lo ∧ hi ≤ rHi 0 k) :
    ok_Te_number p1 p2 t tb ∧ ok_Mo_number q1 q2 o bu ∧ ∃ st', st ≤ st' ∧ TX B n st' (sp_Te_number p1 p2 t tb).2 tb (sp_Mo_number q1 q2 o bu).2 bu ∧ FrT o (sp_Mo_number q1 q2 o bu).2 ∧
      ((sp_Te_number p1 p2 t tb).2 5 = 0 → t 5 = 0) ∧ ((sp_Te_number p1 p2 t tb).2 5 = 0 → DrX (fun m => X m ∧ m ≠ k) d0 d1 d2 (upd d3 j (sp_Te_number p1 p2 t tb).1) d4 (vp_updL dr k (sp_Mo_number q1 q2 o bu).1)) := by
  obtain ⟨a1, a2, st', a3, a4, a5, ⟨V, v1, v2, v3, v4⟩, a6⟩ := number_TX h hp1 hp2 hq1 hq2 h0 hlh
  exact ⟨a1, a2, st', a3, a4, a5, fun w => (a6 w).1, fun w => drx3 (hd (a6 w).1) hk ha hj (v3.trans v4.symm) (by rw [v4]; omega)⟩
theorem sgnset3 (h : TX B n st t tb o bu) (hd : t 5 = 0 → DrX X d0 d1 d2 d3 d4 dr) {k j : Nat} (hk : k < 29) (ha : pA k = 3) (hj : pI k = j) {p1 p2 : Int32} {q1 q2 : Int64} {lo hi : Int} (hp1 : p1.toInt = lo) (hp2 : p2.toInt = hi) (hq1 : q1.toInt = lo) (hq2 : q2.toInt = hi) (h0 : -2000000000 < lo) (h1 : lo < 0) (hr : rLo k ≤ lo ∧ hi ≤ rHi 0 k) :
    ok_Te_number p1 p2 t tb ∧ ok_Mo_signed q1 q2 o bu ∧ ∃ st', st ≤ st' ∧ TX B n st' (sp_Te_number p1 p2 t tb).2 tb (sp_Mo_signed q1 q2 o bu).2 bu ∧ FrT o (sp_Mo_signed q1 q2 o bu).2 ∧
      ((sp_Te_number p1 p2 t tb).2 5 = 0 → t 5 = 0) ∧ ((sp_Te_number p1 p2 t tb).2 5 = 0 → DrX (fun m => X m ∧ m ≠ k) d0 d1 d2 (upd d3 j (sp_Te_number p1 p2 t tb).1) d4 (vp_updL dr k (sp_Mo_signed q1 q2 o bu).1)) := by
  obtain ⟨a1, a2, st', a3, a4, a5, a6⟩ := signed_TX h hp1 hp2 hq1 hq2 h0 h1
  refine ⟨a1, a2, st', a3, a4, a5, fun w => (a6 w).1, fun w => ?_⟩
  obtain ⟨w1, w2, V, v1, v2, v3, v4⟩ := a6 w
  exact drx3 (hd w1) hk ha hj (v3.trans v4.symm) (by rw [v4]; omega)
theorem numset4 (h : TX B n st t tb o bu) (hd : t 5 = 0 → DrX X d0 d1 d2 d3 d4 dr) {k j : Nat} (hk : k < 29) (ha : pA k = 4) (hj : pI k = j) {p1 p2 : Int32} {q1 q2 : Int64} {lo hi : Int} (hp1 : p1.toInt = lo) (hp2 : p2.toInt = hi) (hq1 : q1.toInt = lo) (hq2 : q2.toInt = hi) (h0 : 0 ≤ lo) (hlh : lo ≤ hi) (hr : rLo k ≤ lo ∧ hi ≤ rHi 0 k) :
    ok_Te_number p1 p2 t tb ∧ ok_Mo_number q1 q2 o bu ∧ ∃ st', st ≤ st' ∧ TX B n st' (sp_Te_number p1 p2 t tb).2 tb (sp_Mo_number q1 q2 o bu).2 bu ∧ FrT o (sp_Mo_number q1 q2 o bu).2 ∧
      ((sp_Te_number p1 p2 t tb).2 5 = 0 → t 5 = 0) ∧ ((sp_Te_number p1 p2 t tb).2 5 = 0 → DrX (fun m => X m ∧ m ≠ k) d0 d1 d2 d3 (upd d4 j (sp_Te_number p1 p2 t tb).1) (vp_updL dr k (sp_Mo_number q1 q2 o bu).1)) := by
  obtain ⟨a1, a2, st', a3, a4, a5, ⟨V, v1, v2, v3, v4⟩, a6⟩ := number_TX h hp1 hp2 hq1 hq2 h0 hlh
  exact ⟨a1, a2, st', a3, a4, a5, fun w => (a6 w).1, fun w => drx4 (hd (a6 w).1) hk ha hj (v3.trans v4.symm) (by rw [v4]; omega)⟩
theorem sgnset4 (h : TX B n st t tb o bu) (hd : t 5 = 0 → DrX X d0 d1 d2 d3 d4 dr) {k j : Nat} (hk : k < 29) (ha : pA k = 4) (hj : pI k = j) {p1 p2 : Int32} {q1 q2 : Int64} {lo hi : Int} (hp1 : p1.toInt = lo) (hp2 : p2.toInt = hi) (hq1 : q1.toInt = lo) (hq2 : q2.toInt = hi) (h0 : -2000000000 < lo) (h1 : lo < 0) (hr : rLo k ≤ lo ∧ hi ≤ rHi 0 k) :
    ok_Te_number p1 p2 t tb ∧ ok_Mo_signed q1 q2 o bu ∧ ∃ st', st ≤ st' ∧ TX B n st' (sp_Te_number p1 p2 t tb).2 tb (sp_Mo_signed q1 q2 o bu).2 bu ∧ FrT o (sp_Mo_signed q1 q2 o bu).2 ∧
      ((sp_Te_number p1 p2 t tb).2 5 = 0 → t 5 = 0) ∧ ((sp_Te_number p1 p2 t tb).2 5 = 0 → DrX (fun m => X m ∧ m ≠ k) d0 d1 d2 d3 (upd d4 j (sp_Te_number p1 p2 t tb).1) (vp_updL dr k (sp_Mo_signed q1 q2 o bu).1)) := by
  obtain ⟨a1, a2, st', a3, a4, a5, a6⟩ := signed_TX h hp1 hp2 hq1 hq2 h0 h1
  refine ⟨a1, a2, st', a3, a4, a5, fun w => (a6 w).1, fun w => ?_⟩
  obtain ⟨w1, w2, V, v1, v2, v3, v4⟩ := a6 w
  exact drx4 (hd w1) hk ha hj (v3.trans v4.symm) (by rw [v4]; omega)
/-- the draft's places that nothing has told -/
def XF (tq : IV) (k : Nat) : Prop := ((k = 0 ∨ k = 1) ∧ tq 0 = 0) ∨ (k = 12 ∧ tq 1 = 0)
theorem XF_mono {tq' : IV} (h0 : tq 0 = 0 → tq' 0 = 0) (h1 : tq 1 = 0 → tq' 1 = 0) : ∀ k, k < 29 → XF tq k → XF tq' k := fun k _ h => by
  rcases h with ⟨a, b⟩ | ⟨a, b⟩
  · exact Or.inl ⟨a, h0 b⟩
  · exact Or.inr ⟨a, h1 b⟩
def SR (B : Nat → Nat) (n st : Nat) (su t tb d0 d1 d2 d3 d4 o bu tq rT wT : IV) (dr : LV) : Prop := TX B n st t tb o bu ∧ FlR su tq rT wT ∧ (t 5 = 0 → DrX (XF tq) d0 d1 d2 d3 d4 dr)
/-- the unknown -/
theorem st_unknown (h : SR B n st su t tb d0 d1 d2 d3 d4 o bu tq rT wT dr) :
    (ok_Su_takeOnce 2 su t tb ∧ ok_Te_number 1000 100000000 (sp_Su_takeOnce 2 su t tb).2 tb) ∧ (ok_Mo_once 1 o bu tq ∧ ok_Mo_number 1000 100000000 (sp_Mo_once 1 o bu tq).1 bu) ∧ ∃ st', st ≤ st' ∧
      SR B n st' (sp_Su_takeOnce 2 su t tb).1 (sp_Te_number 1000 100000000 (sp_Su_takeOnce 2 su t tb).2 tb).2 tb (upd d0 5 (sp_Te_number 1000 100000000 (sp_Su_takeOnce 2 su t tb).2 tb).1) d1 d2 d3 d4 (sp_Mo_number 1000 100000000 (sp_Mo_once 1 o bu tq).1 bu).2 bu (sp_Mo_once 1 o bu tq).2 rT wT (vp_updL dr 12 (sp_Mo_number 1000 100000000 (sp_Mo_once 1 o bu tq).1 bu).1) ∧ FrT o (sp_Mo_number 1000 100000000 (sp_Mo_once 1 o bu tq).1 bu).2 := by
  obtain ⟨h1, h2, h3⟩ := h
  obtain ⟨a1, a2, s1, a3, a4, a5, a6, a7, a8⟩ := once_TX h1 h2 (i := 1) (by decide) (m := 2) (c := 1) rfl rfl
  obtain ⟨b1, b2, s2, b3, b4, b5, b6, b7⟩ := numset0 (d1 := d1) (d2 := d2) (d3 := d3) (d4 := d4) a4 (fun w => h3 (a8 w)) (k := 12) (j := 5) (by decide) rfl rfl (p1 := 1000) (p2 := 100000000) (q1 := 1000) (q2 := 100000000) rfl rfl rfl rfl (by decide) (by decide) (by decide)
  refine ⟨⟨a1, b1⟩, ⟨a2, b2⟩, s2, by omega, ⟨b4, a6, fun w => drx_mono (b7 w) fun k hk q => ?_⟩, frt_tr a5 b5⟩
  rcases q.1 with ⟨u, v⟩ | ⟨u, v⟩
  · exact Or.inl ⟨u, by rw [a7, un (by decide)]; exact v⟩
  · exact absurd u q.2
/-- the supply -/
theorem st_supply (h : SR B n st su t tb d0 d1 d2 d3 d4 o bu tq rT wT dr) :
    (ok_Su_takeOnce 8 su t tb ∧ ok_Te_number 0 20000 (sp_Su_takeOnce 8 su t tb).2 tb ∧ ok_Te_number 1 1000000 (sp_Te_number 0 20000 (sp_Su_takeOnce 8 su t tb).2 tb).2 tb) ∧ ok_Mo_readSupply o dr bu tq ∧ ∃ st', st ≤ st' ∧
      SR B n st' (sp_Su_takeOnce 8 su t tb).1 (sp_Te_number 1 1000000 (sp_Te_number 0 20000 (sp_Su_takeOnce 8 su t tb).2 tb).2 tb).2 tb (upd (upd d0 11 (sp_Te_number 0 20000 (sp_Su_takeOnce 8 su t tb).2 tb).1) 12 (sp_Te_number 1 1000000 (sp_Te_number 0 20000 (sp_Su_takeOnce 8 su t tb).2 tb).2 tb).1) d1 d2 d3 d4 (sp_Mo_readSupply o dr bu tq).1 bu (sp_Mo_readSupply o dr bu tq).2.2 rT wT (sp_Mo_readSupply o dr bu tq).2.1 ∧ FrT o (sp_Mo_readSupply o dr bu tq).1 := by
  obtain ⟨h1, h2, h3⟩ := h
  obtain ⟨a1, a2, s1, a3, a4, a5, a6, a7, a8⟩ := once_TX h1 h2 (i := 3) (by decide) (m := 8) (c := 3) rfl rfl
  obtain ⟨b1, b2, s2, b3, b4, b5, b6, b7⟩ := numset0 (d1 := d1) (d2 := d2) (d3 := d3) (d4 := d4) a4 (fun w => h3 (a8 w)) (k := 22) (j := 11) (by decide) rfl rfl (p1 := 0) (p2 := 20000) (q1 := 0) (q2 := 20000) rfl rfl rfl rfl (by decide) (by decide) (by decide)
  obtain ⟨c1, c2, s3, c3, c4, c5, c6, c7⟩ := numset0 (d1 := d1) (d2 := d2) (d3 := d3) (d4 := d4) b4 b7 (k := 23) (j := 12) (by decide) rfl rfl (p1 := 1) (p2 := 1000000) (q1 := 1) (q2 := 1000000) rfl rfl rfl rfl (by decide) (by decide) (by decide)
  unfold sp_Mo_readSupply ok_Mo_readSupply
  simp only [lettn]
  exact ⟨⟨a1, b1, c1⟩, ⟨a2, b2, c2, trivial⟩, s3, by omega, ⟨c4, a6, fun w => drx_mono (c7 w) fun k hk q => XF_mono (by rw [a7, un (by decide)]; exact id) (by rw [a7, un (by decide)]; exact id) k hk q.1.1⟩, frt_tr a5 (frt_tr b5 c5)⟩
/-- the detector -/
theorem st_detector (h : SR B n st su t tb d0 d1 d2 d3 d4 o bu tq rT wT dr) :
    ok_Su_takeDetector su t tb d0 ∧ ok_Mo_readDetector o dr bu tq ∧ ∃ st', st ≤ st' ∧
      SR B n st' (sp_Su_takeDetector su t tb d0).1 (sp_Su_takeDetector su t tb d0).2.1 tb (sp_Su_takeDetector su t tb d0).2.2 d1 d2 d3 d4 (sp_Mo_readDetector o dr bu tq).1 bu (sp_Mo_readDetector o dr bu tq).2.2 rT wT (sp_Mo_readDetector o dr bu tq).2.1 ∧ FrT o (sp_Mo_readDetector o dr bu tq).1 := by
  obtain ⟨h1, h2, h3⟩ := h
  obtain ⟨a1, a2, s1, a3, a4, a5, a6, a7, a8⟩ := once_TX h1 h2 (i := 4) (by decide) (m := 16) (c := 4) rfl rfl
  obtain ⟨b1, b2, s2, b3, b4, b5, b6, b7⟩ := numset0 (d1 := d1) (d2 := d2) (d3 := d3) (d4 := d4) a4 (fun w => h3 (a8 w)) (k := 24) (j := 13) (by decide) rfl rfl (p1 := 1) (p2 := 9999999) (q1 := 1) (q2 := 9999999) rfl rfl rfl rfl (by decide) (by decide) (by decide)
  obtain ⟨c1, c2, s3, c3, c4, c5, c6, c7⟩ := numset0 (d1 := d1) (d2 := d2) (d3 := d3) (d4 := d4) b4 b7 (k := 25) (j := 14) (by decide) rfl rfl (p1 := 0) (p2 := 9999) (q1 := 0) (q2 := 9999) rfl rfl rfl rfl (by decide) (by decide) (by decide)
  obtain ⟨e1, e2, s4, e3, e4, e5, e6, e7⟩ := numset0 (d1 := d1) (d2 := d2) (d3 := d3) (d4 := d4) c4 c7 (k := 26) (j := 15) (by decide) rfl rfl (p1 := 0) (p2 := 999) (q1 := 0) (q2 := 999) rfl rfl rfl rfl (by decide) (by decide) (by decide)
  obtain ⟨f1, f2, s5, f3, f4, f5, f6, f7⟩ := sgnset0 (d1 := d1) (d2 := d2) (d3 := d3) (d4 := d4) e4 e7 (k := 27) (j := 16) (by decide) rfl rfl (p1 := -99999) (p2 := 99999) (q1 := -99999) (q2 := 99999) rfl rfl rfl rfl (by decide) (by decide) (by decide)
  unfold sp_Mo_readDetector ok_Mo_readDetector sp_Su_takeDetector ok_Su_takeDetector
  simp only [lettn]
  exact ⟨⟨a1, b1, c1, e1, f1, trivial⟩, ⟨a2, b2, c2, e2, f2, trivial⟩, s5, by omega, ⟨f4, a6, fun w => drx_mono (f7 w) fun k hk q => XF_mono (by rw [a7, un (by decide)]; exact id) (by rw [a7, un (by decide)]; exact id) k hk q.1.1.1.1⟩, frt_tr a5 (frt_tr b5 (frt_tr c5 (frt_tr e5 f5)))⟩
/-- the seed -/
theorem st_seed (h : SR B n st su t tb d0 d1 d2 d3 d4 o bu tq rT wT dr) :
    (ok_Su_takeOnce 32 su t tb ∧ ok_Te_number 0 99999 (sp_Su_takeOnce 32 su t tb).2 tb) ∧ (ok_Mo_once 5 o bu tq ∧ ok_Mo_number 0 99999 (sp_Mo_once 5 o bu tq).1 bu) ∧ ∃ st', st ≤ st' ∧
      SR B n st' (sp_Su_takeOnce 32 su t tb).1 (sp_Te_number 0 99999 (sp_Su_takeOnce 32 su t tb).2 tb).2 tb (upd d0 17 (sp_Te_number 0 99999 (sp_Su_takeOnce 32 su t tb).2 tb).1) d1 d2 d3 d4 (sp_Mo_number 0 99999 (sp_Mo_once 5 o bu tq).1 bu).2 bu (sp_Mo_once 5 o bu tq).2 rT wT (vp_updL dr 28 (sp_Mo_number 0 99999 (sp_Mo_once 5 o bu tq).1 bu).1) ∧ FrT o (sp_Mo_number 0 99999 (sp_Mo_once 5 o bu tq).1 bu).2 := by
  obtain ⟨h1, h2, h3⟩ := h
  obtain ⟨a1, a2, s1, a3, a4, a5, a6, a7, a8⟩ := once_TX h1 h2 (i := 5) (by decide) (m := 32) (c := 5) rfl rfl
  obtain ⟨b1, b2, s2, b3, b4, b5, b6, b7⟩ := numset0 (d1 := d1) (d2 := d2) (d3 := d3) (d4 := d4) a4 (fun w => h3 (a8 w)) (k := 28) (j := 17) (by decide) rfl rfl (p1 := 0) (p2 := 99999) (q1 := 0) (q2 := 99999) rfl rfl rfl rfl (by decide) (by decide) (by decide)
  exact ⟨⟨a1, b1⟩, ⟨a2, b2⟩, s2, by omega, ⟨b4, a6, fun w => drx_mono (b7 w) fun k hk q => XF_mono (by rw [a7, un (by decide)]; exact id) (by rw [a7, un (by decide)]; exact id) k hk q.1⟩, frt_tr a5 b5⟩
/-- the leads -/
theorem rl_step {y2 : IV × IV} {k f : Nat} (hk : k < 3) : sp_Mo_readLeads_7 y2 bu (f + 1) (nI k) o dr = sp_Mo_readLeads_7 y2 bu f (nI (k + 1)) (sp_Mo_number 0 99999 o bu).2 (vp_updL dr (19 + k) (sp_Mo_number 0 99999 o bu).1) ∧ (ok_Mo_number 0 99999 o bu → ok_Mo_readLeads_7 y2 bu f (nI (k + 1)) (sp_Mo_number 0 99999 o bu).2 (vp_updL dr (19 + k) (sp_Mo_number 0 99999 o bu).1) → ok_Mo_readLeads_7 y2 bu (f + 1) (nI k) o dr) := by
  have c : ¬ (3 : Int32) ≤ nI k := by rw [show (3 : Int32) = nI 3 from rfl, nzle (by omega) (by omega)]; omega
  have e : (19 : Int32) + nI k = nI (19 + k) := nzadd 19 k (by omega)
  constructor
  · show bd_Mo_readLeads_7 _ _ _ _ _ _ = _
    unfold bd_Mo_readLeads_7
    simp only [lettn]
    rw [if_neg c, e, cl_nI (by omega), nzadd1 k (by omega)]
  · intro h1 h2
    show okb_Mo_readLeads_7 _ _ _ _ _ _ _
    unfold okb_Mo_readLeads_7
    simp only [lettn]
    rw [e, cl_nI (by omega), nzadd1 k (by omega)]
    exact ⟨fun w => absurd w c, fun _ => ⟨h1, vp_nI (by omega) (by decide), h2⟩⟩
theorem rl_end {y2 : IV × IV} {f : Nat} : sp_Mo_readLeads_7 y2 bu (f + 1) (nI 3) o dr = (o, dr, y2.2) ∧ ok_Mo_readLeads_7 y2 bu (f + 1) (nI 3) o dr := by
  constructor
  · show bd_Mo_readLeads_7 _ _ _ _ _ _ = _
    unfold bd_Mo_readLeads_7
    rw [if_pos (by decide)]
  · show okb_Mo_readLeads_7 _ _ _ _ _ _ _
    unfold okb_Mo_readLeads_7
    exact ⟨fun _ => trivial, fun w => absurd (by decide) w⟩
theorem st_leads (h : SR B n st su t tb d0 d1 d2 d3 d4 o bu tq rT wT dr) :
    ok_Su_takeLeads su t tb d0 ∧ ok_Mo_readLeads o dr bu tq ∧ ∃ st', st ≤ st' ∧
      SR B n st' (sp_Su_takeLeads su t tb d0).1 (sp_Su_takeLeads su t tb d0).2.1 tb (sp_Su_takeLeads su t tb d0).2.2 d1 d2 d3 d4 (sp_Mo_readLeads o dr bu tq).1 bu (sp_Mo_readLeads o dr bu tq).2.2 rT wT (sp_Mo_readLeads o dr bu tq).2.1 ∧ FrT o (sp_Mo_readLeads o dr bu tq).1 := by
  obtain ⟨h1, h2, h3⟩ := h
  obtain ⟨a1, a2, s1, a3, a4, a5, a6, a7, a8⟩ := once_TX h1 h2 (i := 2) (by decide) (m := 4) (c := 2) rfl rfl
  obtain ⟨b1, b2, s2, b3, b4, b5, b6, b7⟩ := numset0 (d1 := d1) (d2 := d2) (d3 := d3) (d4 := d4) a4 (fun w => h3 (a8 w)) (k := 19) (j := 8) (by decide) rfl rfl (p1 := 0) (p2 := 99999) (q1 := 0) (q2 := 99999) rfl rfl rfl rfl (by decide) (by decide) (by decide)
  obtain ⟨c1, c2, s3, c3, c4, c5, c6, c7⟩ := numset0 (d1 := d1) (d2 := d2) (d3 := d3) (d4 := d4) b4 b7 (k := 20) (j := 9) (by decide) rfl rfl (p1 := 0) (p2 := 99999) (q1 := 0) (q2 := 99999) rfl rfl rfl rfl (by decide) (by decide) (by decide)
  obtain ⟨e1, e2, s4, e3, e4, e5, e6, e7⟩ := numset0 (d1 := d1) (d2 := d2) (d3 := d3) (d4 := d4) c4 c7 (k := 21) (j := 10) (by decide) rfl rfl (p1 := 0) (p2 := 99999) (q1 := 0) (q2 := 99999) rfl rfl rfl rfl (by decide) (by decide) (by decide)
  have eR : sp_Mo_readLeads o dr bu tq = ((sp_Mo_number 0 99999 (sp_Mo_number 0 99999 (sp_Mo_number 0 99999 (sp_Mo_once 2 o bu tq).1 bu).2 bu).2 bu).2, vp_updL (vp_updL (vp_updL dr 19 (sp_Mo_number 0 99999 (sp_Mo_once 2 o bu tq).1 bu).1) 20 (sp_Mo_number 0 99999 (sp_Mo_number 0 99999 (sp_Mo_once 2 o bu tq).1 bu).2 bu).1) 21 (sp_Mo_number 0 99999 (sp_Mo_number 0 99999 (sp_Mo_number 0 99999 (sp_Mo_once 2 o bu tq).1 bu).2 bu).2 bu).1, (sp_Mo_once 2 o bu tq).2) := by
    unfold sp_Mo_readLeads
    simp only [lettn]
    rw [big_eq]
    exact (rl_step (k := 0) (f := 999999) (by decide)).1.trans ((rl_step (k := 1) (f := 999998) (by decide)).1.trans ((rl_step (k := 2) (f := 999997) (by decide)).1.trans (rl_end (f := 999996)).1))
  have oR : ok_Mo_readLeads o dr bu tq := by
    unfold ok_Mo_readLeads
    simp only [lettn]
    rw [big_eq]
    exact ⟨a2, (rl_step (k := 0) (f := 999999) (by decide)).2 b2 ((rl_step (k := 1) (f := 999998) (by decide)).2 c2 ((rl_step (k := 2) (f := 999997) (by decide)).2 e2 (rl_end (f := 999996)).2))⟩
  rw [eR]
  unfold sp_Su_takeLeads ok_Su_takeLeads
  simp only [lettn]
  exact ⟨⟨a1, b1, c1, e1, trivial⟩, oR, s4, by omega, ⟨e4, a6, fun w => drx_mono (e7 w) fun k hk q => XF_mono (by rw [a7, un (by decide)]; exact id) (by rw [a7, un (by decide)]; exact id) k hk q.1.1.1⟩, frt_tr a5 (frt_tr b5 (frt_tr c5 e5))⟩
end TKH
