section TKP
variable {T : Int} {B : Nat → Nat} {n st : Nat} {t tb o bu : IV} {su d0 d1 d2 d3 d4 tq rT wT w0 w1 w2 w3 w4 dv ba ca da ea rev rb fl : IV} {dr now pa sa cal : LV} {iS rp : IV} {rar xb xc xd xe yb yc yd ye : NI} {ral xcl ycl : NL} {xr yr : NNI} {xrl yrl : NNL}
/-! ===== what holds between two calls ===== -/
def TxR (t tb o bu : IV) : Prop := ∃ (B : Nat → Nat) (n : Nat), BufR B n t tb o bu ∧ t 6 = o 13
def RepR (rev rb o rp : IV) : Prop := ∃ L : Nat, L ≤ 1000 ∧ rev 1 = nI L ∧ o 28 = nI L ∧ ∀ k, k < L → rb k = rp k
def Inv (T : Int) (dv t tb w0 w1 w2 w3 w4 ba ca : IV) (cal : LV) (da ea : IV) (rar : NI) (ral : NL) (rev rb fl : IV) (xb xc : NI) (xcl : NL) (xd xe : NI) (xr : NNI) (xrl : NNL) (yb yc : NI) (ycl : NL) (yd ye : NI) (yr : NNI) (yrl : NNL) (o : IV) (now pa sa : LV) (iS bu rp : IV) : Prop :=
  TxR t tb o bu ∧ PR w0 w1 w2 w3 w4 now ∧ RowOK T now ∧ BR ba ca cal da ea rar ral now ∧ PastR T dv xb xc xcl xd xe xr xrl o pa now ∧ SavR T fl yb yc ycl yd ye yr yrl iS sa now ∧ RepR rev rb o rp
theorem rep_o {o' : IV} (h : RepR rev rb o rp) (e : o' 28 = o 28) : RepR rev rb o' rp := by
  obtain ⟨L, h1, h2, h3, h4⟩ := h
  exact ⟨L, h1, h2, e.trans h3, h4⟩
/-- the buffer emptied -/
theorem tx_empty {t' o' : IV} (h1 : t' 1 = 0) (h8 : o' 8 = 0) (h6 : t' 6 = o' 13) : TxR t' tb o' bu := ⟨fun _ => 0, 0, ⟨by omega, h8, h1, fun k hk => absurd hk (by omega)⟩, h6⟩
theorem fl_loop {y6 : IV × IV × IV × IV × IV} {y9 y3 : IV} {y2 : Int32 × IV × IV × IV × IV × IV × IV × IV} {y8 : IV × IV × LV × IV} : sp_Db_load_57 y6 y9 y3 y2 y8 big 0 fl = sp_Db_load_79 y6 y9 y3 y2 y8 (upd (upd fl 0 0) 1 0) ∧ ok_Db_load_57 y6 y9 y3 y2 y8 big 0 fl := by
  rw [big_eq]
  have s0 : ∀ f g, sp_Db_load_57 y6 y9 y3 y2 y8 (f + 1) 0 g = sp_Db_load_57 y6 y9 y3 y2 y8 f 1 (upd g 0 0) ∧ (ok_Db_load_57 y6 y9 y3 y2 y8 f 1 (upd g 0 0) → ok_Db_load_57 y6 y9 y3 y2 y8 (f + 1) 0 g) := fun f g => by
    constructor
    · show bd_Db_load_57 _ _ _ _ _ _ _ _ = _
      unfold bd_Db_load_57
      simp only [lettn]
      rw [if_neg (by decide), nar0]; rfl
    · intro h
      show okb_Db_load_57 _ _ _ _ _ _ _ _ _
      unfold okb_Db_load_57
      simp only [lettn]
      rw [nar0]
      exact ⟨fun w => absurd w (by decide), fun _ => ⟨vp_nI (a := 0) (by decide) (by decide), h⟩⟩
  have s1 : ∀ f g, sp_Db_load_57 y6 y9 y3 y2 y8 (f + 1) 1 g = sp_Db_load_57 y6 y9 y3 y2 y8 f 2 (upd g 1 0) ∧ (ok_Db_load_57 y6 y9 y3 y2 y8 f 2 (upd g 1 0) → ok_Db_load_57 y6 y9 y3 y2 y8 (f + 1) 1 g) := fun f g => by
    constructor
    · show bd_Db_load_57 _ _ _ _ _ _ _ _ = _
      unfold bd_Db_load_57
      simp only [lettn]
      rw [if_neg (by decide), nar0]; rfl
    · intro h
      show okb_Db_load_57 _ _ _ _ _ _ _ _ _
      unfold okb_Db_load_57
      simp only [lettn]
      rw [nar0]
      exact ⟨fun w => absurd w (by decide), fun _ => ⟨vp_nI (a := 1) (by decide) (by decide), h⟩⟩
  have s2 : ∀ f g, sp_Db_load_57 y6 y9 y3 y2 y8 (f + 1) 2 g = sp_Db_load_79 y6 y9 y3 y2 y8 g ∧ ok_Db_load_57 y6 y9 y3 y2 y8 (f + 1) 2 g := fun f g => by
    constructor
    · show bd_Db_load_57 _ _ _ _ _ _ _ _ = _
      unfold bd_Db_load_57
      rw [if_pos (by decide)]
    · show okb_Db_load_57 _ _ _ _ _ _ _ _ _
      unfold okb_Db_load_57
      exact ⟨fun _ => trivial, fun w => absurd (by decide) w⟩
  exact ⟨(s0 999999 fl).1.trans ((s1 999998 _).1.trans (s2 999997 _).1), (s0 999999 fl).2 ((s1 999998 _).2 (s2 999997 _).2)⟩
theorem load_D (h : Inv T dv t tb w0 w1 w2 w3 w4 ba ca cal da ea rar ral rev rb fl xb xc xcl xd xe xr xrl yb yc ycl yd ye yr yrl o now pa sa iS bu rp) (hT : 0 ≤ T) :
    ok_Db_load dv t tb w0 w1 w2 w3 w4 su d0 d1 d2 d3 d4 ba ca cal ea fl ∧ ok_Mo_load o now dr iS bu tq rT wT ∧ ∃ (a : Int32) (dv' t' v0 v1 v2 v3 v4 su' e0 e1 e2 e3 e4 ba' ca' : IV) (cal' : LV) (ea' fl' o' : IV) (now' dr' : LV) (iS' tq' rT' wT' : IV),
      sp_Db_load dv t tb w0 w1 w2 w3 w4 su d0 d1 d2 d3 d4 ba ca cal ea fl = (a, dv', t', v0, v1, v2, v3, v4, su', e0, e1, e2, e3, e4, ba', ca', cal', ea', fl') ∧ sp_Mo_load o now dr iS bu tq rT wT = (a, o', now', dr', iS', tq', rT', wT') ∧
      Inv T dv' t' tb v0 v1 v2 v3 v4 ba' ca' cal' da ea' rar ral rev rb fl' xb xc xcl xd xe xr xrl yb yc ycl yd ye yr yrl o' now' pa sa iS' bu rp := by
  obtain ⟨⟨B, n, hB, h613⟩, hp, hr, hb, hpa, hsa, hre⟩ := h
  obtain ⟨a1, a2, st', su', t', e0, e1, e2, e3, e4, o', tq', rT', wT', dr', a3, a4, a5, a6, a7⟩ := setup_R (su := su) (d0 := d0) (d1 := d1) (d2 := d2) (d3 := d3) (d4 := d4) (tq := tq) (rT := rT) (wT := wT) (dr := dr) (now := now) (iS := iS) hB
  obtain ⟨g1, g2, g3⟩ := tx_good a5
  have o5 : o' 5 = o 5 := (a6 5 (by omega)).trans (un (by decide))
  have o28 : o' 28 = o 28 := (a6 28 (by omega)).trans (un (by decide))
  unfold sp_Db_load ok_Db_load sp_Te_empty
  simp only [lettn]
  rw [a3, a4]
  unfold loadEnd
  by_cases q : t' 5 = 0
  · obtain ⟨x1, x2⟩ := a7 q
    rw [if_pos q, if_pos (g1.mpr q), if_neg (show ¬ (1 : Int32) = 0 by decide)]
    obtain ⟨b1, b2⟩ := pcopy_R (w0 := w0) (w1 := w1) (w2 := w2) (w3 := w3) (w4 := w4) (d0 := e0) (d1 := e1) (d2 := e2) (d3 := e3) (d4 := e4)
    obtain ⟨c1, c2⟩ := draft_R now dr'
    dsimp only
    generalize hY : sp_Pa_copy w0 w1 w2 w3 w4 e0 e1 e2 e3 e4 = Y at b2
    generalize hR : sp_Mo_takeDraft now dr' = R at c2
    have hk : ∀ k, k < 29 → (pw Y.1 Y.2.1 Y.2.2.1 Y.2.2.2.1 Y.2.2.2.2 k).toInt = zr R k ∧ rLo k ≤ zr R k ∧ zr R k ≤ rHi 0 k := fun k hk => by
      rw [b2 k hk, zr, c2 k (by omega)]
      exact x1 k hk (fun w => w)
    have hF : Fresh R := fun k k1 k2 => by rw [c2 k k2]; exact x2 k k1 k2
    have hPR : PR Y.1 Y.2.1 Y.2.2.1 Y.2.2.2.1 Y.2.2.2.2 R := fun k k1 _ => (hk k (by omega)).1
    have hRow : RowOK 0 R := fresh_row hF (fun k k1 => (hk k k1).2)
    obtain ⟨r1, r2⟩ := breset_R hPR hRow hF (hk 22 (by decide)).1 (hk 27 (by decide)).1 (hk 28 (by decide)).1 ba ca cal ea da rar ral
    rw [fl_loop.1]
    unfold sp_Db_load_79 sp_Db_forgetPast
    simp only [lettn]
    first | rw [hR] | skip
    have hm := row_mono hRow hT
    have ea : Y.1 0 = sp_Mo_decades R := by rw [m_decades hm, c_dec hPR hm]
    rw [ea]
    refine ⟨⟨a1, fun w => absurd w (by decide), fun _ => ⟨b1, r1, fl_loop.2⟩⟩, a2, _, _, _, _, _, _, _, _, _, _, _, _, _, _, _, _, _, _, _, _, _, _, _, _, _, _, rfl, rfl, ?_⟩
    · refine ⟨tx_empty us ?_ ?_, hPR, hm, r2, ⟨0, 0, by decide, by decide, ?_, ?_, ?_, fun i hi => absurd hi (by omega)⟩, fun s hs => ?_, rep_o hre ?_⟩
      · rw [un (by decide), us]
      · rw [un (by decide), un (by decide), un (by decide)]; exact g3.symm
      · rw [un (by decide), us]; rfl
      · rw [us]; rfl
      · rw [us]; rfl
      · have e0 : ∀ f : IV, upd (upd f 0 0) 1 0 s = 0 := fun f => by
          match s, hs with
          | 0, _ => rfl
          | 1, _ => rfl
        rw [e0, e0]
        exact ⟨rfl, Or.inl rfl, fun w => absurd rfl w⟩
      · rw [un (by decide), un (by decide)]; exact o28
  · rw [if_neg q, if_neg (fun w => q (g1.mp w)), if_pos (show (0 : Int32) = 0 from rfl)]
    have ea : upd t' 1 0 5 = o' 12 := by rw [un (by decide), g2]
    dsimp only
    rw [ea]
    refine ⟨⟨a1, fun _ => trivial, fun w => absurd rfl w⟩, a2, _, _, _, _, _, _, _, _, _, _, _, _, _, _, _, _, _, _, _, _, _, _, _, _, _, _, rfl, rfl, ?_⟩
    · refine ⟨tx_empty us us ?_, hp, hr, hb, past_cells hpa rfl rfl ?_, hsa, rep_o hre ?_⟩
      · rw [un (by decide), un (by decide)]; exact g3.symm
      · rw [un (by decide)]; exact o5
      · rw [un (by decide)]; exact o28
end TKP
