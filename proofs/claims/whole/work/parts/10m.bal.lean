section CQ1
variable {T : Int} {r r' : LV} {w0 w1 w2 w3 w4 : IV}
theorem zset_inc {d : Nat} {x : Int64} : ∀ n, d < n → zset (vp_updL r (33 + d) x) n = zset r n + (x.toInt - zr r (33 + d)) * (10 ^ (n - 1 - d) : Nat)
  | 0, h => absurd h (by omega)
  | n + 1, h => by
    simp only [zset]
    by_cases q : d = n
    · subst q
      rw [zset_cong (r := r) (r' := vp_updL r (33 + d) x) d (fun e he => uLn (by omega))]
      show 10 * zset r d + (vp_updL r (33 + d) x (33 + d)).toInt = _
      rw [uLs, show d + 1 - 1 - d = 0 by omega]
      show _ = _ + (x.toInt - zr r (33 + d)) * 1
      omega
    · rw [zset_inc n (by omega)]
      show 10 * _ + (vp_updL r (33 + d) x (33 + n)).toInt = _
      rw [uLn (by omega), show n + 1 - 1 - d = n - 1 - d + 1 by omega, Nat.pow_succ, Int.natCast_mul, ← Int.mul_assoc]
      show 10 * (zset r n + _) + zr r (33 + n) = 10 * zset r n + zr r (33 + n) + _ * 10
      omega
/-- what a balance leaves as it is -/
def FrD (r r' : LV) : Prop := ∀ k, (k < 27 ∨ (29 ≤ k ∧ k ≤ 32) ∨ 54 ≤ k) → r' k = r k
theorem frd_of (h : Fr r r') : FrD r r' := fun k hk => h k (by omega)
theorem frd_tr {a b c : LV} (h : FrD a b) (h2 : FrD b c) : FrD a c := fun k hk => (h2 k hk).trans (h k hk)
theorem frd_ps (h : FrD r r') : PSame r r' := fun k h1 _ => h k (Or.inl h1)
theorem frd_D (h : FrD r r') : zD r' = zD r := ps_D (frd_ps h)
theorem frd_dig {d : Nat} (hd : d < 4) (x : Int64) : FrD r (vp_updL r (33 + d) x) := fun k hk => uLn (by omega)
/-- the class's circuit dialled to the row's digits -/
theorem bc_dial (hp : PR w0 w1 w2 w3 w4 r) (h : RowOK T r) {ba ca : IV} {cal : LV} {da : IV} (hb : BC ba ca cal da r) (hk : ∀ k, (k < 33 ∨ 37 ≤ k) → r' k = r k) {s : Int32} (hs : E32 s (zset r' (zD r)) 0 9999) :
    BC ba (sp_Ci_dial s ca w0 w1 w3 w4) cal da r' ∧ ok_Ci_dial s ca w0 w1 := by
  have hD := (zD_bd h).2.1
  obtain ⟨⟨hci, h6, h9, h10, h11, h12⟩, b3, b4, b5, bd⟩ := hb
  obtain ⟨d1, d2, d3⟩ := c_dial hp h hci hs
  have ps : PSame r r' := fun k h1 _ => hk k (by omega)
  have e := ci_ps d1 ps hD (hk 22 (by omega)) (hk 37 (by omega)) (hk 38 (by omega))
  have eD : zD r' = zD r := ps_D ps
  have eS : zset r' (zD r) = zS r' := by unfold zS; rw [eD]
  have ef : zf r' = zf r := by unfold zf zr; rw [hk 29 (by omega)]
  have eg : zg r' = zg r := by unfold zg zr; rw [hk 30 (by omega)]
  refine ⟨⟨⟨?_, ?_, ?_, ?_, ?_, ?_⟩, ?_, ?_, ?_, fun k hk1 hk2 => ?_⟩, d2⟩
  · rw [ef, eg, ← eS, zr, hk 32 (by omega)]; exact e
  · rw [d3 6 (by decide) (by decide) (by decide), h6, zr, zr, hk 31 (by omega)]
  · rw [d3 9 (by decide) (by decide) (by decide), h9, zr, zr, hk 27 (by omega)]
  · rw [d3 10 (by decide) (by decide) (by decide), h10, zr, zr, hk 39 (by omega)]
  · rw [d3 11 (by decide) (by decide) (by decide), h11, zr, zr, hk 28 (by omega)]
  · rw [h12, hk 40 (by omega)]
  · rw [b3, zr, zr, hk 43 (by omega)]
  · rw [b4, zr, zr, hk 41 (by omega)]
  · rw [b5, zr, zr, hk 42 (by omega)]
  · rw [zr, hk 43 (by omega)] at hk2
    rw [bd k hk1 hk2, zr, zr, hk (44 + k) (by omega)]
theorem dig_ok (h : RowOK T r) {d : Nat} (hd : d < 4) {x : Int64} (hx : 0 ≤ x.toInt ∧ x.toInt ≤ 9) : RowOK T (vp_updL r (33 + d) x) :=
  row_upd h (33 + d) x (fun _ => by rw [(rLo_err d hd).2, (rHi_err T d hd).2]; exact hx) (by omega)
theorem bal_inner {d : Nat} {y5 p : Int32} {ea : IV} {rar : NI} {ral : NL} (r10 : Int32 → IV → IV → LV → IV → (Int32 × IV × IV × LV × IV × IV × NI × NL)) (q10 : Int32 → IV → IV → LV → IV → Prop) :
    ∀ (n f1 f2 : Nat) (T : Int) (r : LV) (ba ca : IV) (cal : LV) (da : IV), PR w0 w1 w2 w3 w4 r → RowOK T r → T + 4 * n ≤ 700000000 → d < zD r → y5 = nI (10 ^ (zD r - 1 - d)) → zr r (33 + d) = 9 - n → n ≤ 9 → n < f1 → n < f2 → BC ba ca cal da r →
    ok_Mo_balanceDecade_0 (nI d) p f2 r ∧ RowOK (T + 4 * n) (sp_Mo_balanceDecade_0 (nI d) p f2 r).2 ∧ FrD r (sp_Mo_balanceDecade_0 (nI d) p f2 r).2 ∧ (∀ e, e < 4 → e ≠ d → (sp_Mo_balanceDecade_0 (nI d) p f2 r).2 (33 + e) = r (33 + e)) ∧
    ∃ (ba' ca' : IV) (cal' : LV) (da' : IV), BC ba' ca' cal' da' (sp_Mo_balanceDecade_0 (nI d) p f2 r).2 ∧
      (((sp_Mo_balanceDecade_0 (nI d) p f2 r).1 = 0 ∧ sp_Be_seekBalance_33 (nI d) y5 w0 w1 w3 w4 p ea rar ral w2 r10 f1 (nI (10 - n)) ba ca cal da = sp_Be_seekBalance_143 (nI d) r10 ba' ca' cal' da' ∧ (ok_Be_seekBalance_143 (nI d) r10 q10 ba' ca' cal' da' → ok_Be_seekBalance_33 (nI d) y5 w0 w1 w3 w4 p ea rar ral w2 r10 q10 f1 (nI (10 - n)) ba ca cal da)) ∨
       ((sp_Mo_balanceDecade_0 (nI d) p f2 r).1 = 5 ∧ sp_Be_seekBalance_33 (nI d) y5 w0 w1 w3 w4 p ea rar ral w2 r10 f1 (nI (10 - n)) ba ca cal da = (5, ba', ca', cal', da', ea, rar, ral) ∧ ok_Be_seekBalance_33 (nI d) y5 w0 w1 w3 w4 p ea rar ral w2 r10 q10 f1 (nI (10 - n)) ba ca cal da) ∨
       ((sp_Mo_balanceDecade_0 (nI d) p f2 r).1 = 1 ∧ ∃ v : Int32, sp_Be_seekBalance_33 (nI d) y5 w0 w1 w3 w4 p ea rar ral w2 r10 f1 (nI (10 - n)) ba ca cal da = sp_Be_seekBalance_84 ea rar ral (v, ba', ca', cal', da') w0 w2 ∧ (ok_Be_seekBalance_84 ea rar ral (v, ba', ca', cal', da') w0 w2 → ok_Be_seekBalance_33 (nI d) y5 w0 w1 w3 w4 p ea rar ral w2 r10 q10 f1 (nI (10 - n)) ba ca cal da)))
  | n, 0, _, _, _, _, _, _, _, _, _, _, _, _, _, _, hf, _, _ => absurd hf (by omega)
  | n, f1 + 1, 0, _, _, _, _, _, _, _, _, _, _, _, _, _, _, hf, _ => absurd hf (by omega)
  | 0, f1 + 1, f2 + 1, T, r, ba, ca, cal, da, hp, h, hT, hd, hy, hz, _, _, _, hb => by
    have hD := zD_bd h
    have ei : (33 : Int32) + nI d = nI (33 + d) := by rw [show (33 : Int32) = nI 33 from rfl, nzadd _ _ (by omega)]
    have c1 : (9 : Int64) ≤ r (33 + d) := by rw [Int64.le_iff_toInt_le]; show (9 : Int) ≤ zr r (33 + d); omega
    show okb_Mo_balanceDecade_0 _ _ _ _ _ ∧ RowOK (T + 4 * (0 : Nat)) (bd_Mo_balanceDecade_0 _ _ _ _).2 ∧ FrD r (bd_Mo_balanceDecade_0 _ _ _ _).2 ∧ (∀ e, e < 4 → e ≠ d → (bd_Mo_balanceDecade_0 _ _ _ _).2 (33 + e) = r (33 + e)) ∧ ∃ (ba' ca' : IV) (cal' : LV) (da' : IV), BC ba' ca' cal' da' (bd_Mo_balanceDecade_0 _ _ _ _).2 ∧ (((bd_Mo_balanceDecade_0 _ _ _ _).1 = 0 ∧ bd_Be_seekBalance_33 _ _ _ _ _ _ _ _ _ _ _ _ _ _ _ _ _ _ = _ ∧ (_ → okb_Be_seekBalance_33 _ _ _ _ _ _ _ _ _ _ _ _ _ _ _ _ _ _ _ _)) ∨ _)
    have eb : bd_Mo_balanceDecade_0 (nI d) p (sp_Mo_balanceDecade_0 (nI d) p f2) r = (0, r) := by
      unfold bd_Mo_balanceDecade_0
      rw [ei, cl_nI (by omega), if_pos c1]
    rw [eb]
    refine ⟨?_, row_mono h (by omega), fun _ _ => rfl, fun _ _ _ => rfl, ba, ca, cal, da, hb, Or.inl ⟨rfl, ?_, fun o => ?_⟩⟩
    · unfold okb_Mo_balanceDecade_0
      rw [ei, cl_nI (by omega)]
      exact ⟨vp_nI (by omega) (by decide), fun _ => trivial, fun w => absurd c1 w⟩
    · unfold bd_Be_seekBalance_33
      rw [if_pos (by decide)]
    · unfold okb_Be_seekBalance_33
      exact ⟨fun _ => o, fun w => absurd (show (9 : Int32) < nI (10 - 0) by decide) w⟩
  | n + 1, f1 + 1, f2 + 1, T, r, ba, ca, cal, da, hp, h, hT, hd, hy, hz, hn9, hf1, hf2, hb => by
    have hD := zD_bd h
    have ei : (33 : Int32) + nI d = nI (33 + d) := by rw [show (33 : Int32) = nI 33 from rfl, nzadd _ _ (by omega)]
    have c1 : ¬ (9 : Int64) ≤ r (33 + d) := by rw [Int64.le_iff_toInt_le]; show ¬ (9 : Int) ≤ zr r (33 + d); omega
    have c2 : ¬ (9 : Int32) < nI (10 - (n + 1)) := by rw [show (9 : Int32) = nI 9 from rfl, nzlt (by omega) (by omega)]; omega
    have hpw : (10 : Nat) ^ (zD r - 1 - d) ≤ 1000 ∧ 1 ≤ (10 : Nat) ^ (zD r - 1 - d) := (show ∀ k, k < 4 → (10 : Nat) ^ k ≤ 1000 ∧ 1 ≤ (10 : Nat) ^ k by decide) _ (by omega)
    have Y5 : E32 y5 ((10 ^ (zD r - 1 - d) : Nat) : Int) 1 1000 := by rw [hy]; exact ⟨nIz (by omega), by omega, by omega⟩
    -- the digit goes up
    have k1 : E64 (r (33 + d) + (1 : Int64)) (9 - n) 0 9 := by
      have a := e64_add (row_dig h (d := d) (by omega)) (e64_lit 1 (1 : Int64) rfl) (by decide) (by decide)
      exact ⟨by rw [a.1, hz]; omega, by omega, by omega⟩
    have h3 : RowOK T (vp_updL r (33 + d) (r (33 + d) + (1 : Int64))) := dig_ok h (by omega) (by rw [k1.1]; exact k1.2)
    have f3 : FrD r (vp_updL r (33 + d) (r (33 + d) + (1 : Int64))) := frd_dig (by omega) _
    have D3 : zD (vp_updL r (33 + d) (r (33 + d) + (1 : Int64))) = zD r := frd_D f3
    have z3 : zset (vp_updL r (33 + d) (r (33 + d) + (1 : Int64))) (zD r) = zset r (zD r) + (10 ^ (zD r - 1 - d) : Nat) := by
      rw [zset_inc (zD r) hd, k1.1, hz]
      rw [show (9 - (n : Int) - (9 - ((n + 1 : Nat) : Int))) = 1 by omega, Int.one_mul]
    have b3 := zset_all h3
    rw [D3, z3] at b3
    have S0 : E32 (ca 5) (zset r (zD r)) 0 9999 := ⟨hb.1.1.1, (zset_all h).1, (zset_all h).2.1⟩
    have S1 : E32 (ca 5 + y5) (zset (vp_updL r (33 + d) (r (33 + d) + (1 : Int64))) (zD r)) 0 9999 := by
      have a := e32_add S0 Y5 (by decide) (by decide)
      exact ⟨by rw [a.1, z3], by rw [z3]; exact ⟨b3.1, b3.2.1⟩⟩
    obtain ⟨bd1, od1⟩ := bc_dial hp h hb (r' := vp_updL r (33 + d) (r (33 + d) + (1 : Int64))) (fun k hk => uLn (by omega)) S1
    generalize hr3 : vp_updL r (33 + d) (r (33 + d) + (1 : Int64)) = r3 at h3 f3 D3 z3 bd1 S1
    have r3d : zr r3 (33 + d) = 9 - n := by rw [zr, ← hr3, uLs]; exact k1.1
    have r3e : ∀ e, e < 4 → e ≠ d → r3 (33 + e) = r (33 + e) := fun e _ he => by rw [← hr3]; exact uLn (by omega)
    have hp3 := ps_PR (frd_ps f3) hp
    generalize hc3 : sp_Ci_dial (ca 5 + y5) ca w0 w1 w3 w4 = ca3 at bd1
    have hw := c_why hp3 h3 bd1.1.1
    have hcan := m_can h3
    have hzz := z32 hw 0 0 rfl
    show okb_Mo_balanceDecade_0 _ _ _ _ _ ∧ RowOK (T + 4 * ((n + 1 : Nat) : Int)) (bd_Mo_balanceDecade_0 _ _ _ _).2 ∧ FrD r (bd_Mo_balanceDecade_0 _ _ _ _).2 ∧ (∀ e, e < 4 → e ≠ d → (bd_Mo_balanceDecade_0 _ _ _ _).2 (33 + e) = r (33 + e)) ∧ ∃ (ba' ca' : IV) (cal' : LV) (da' : IV), BC ba' ca' cal' da' (bd_Mo_balanceDecade_0 _ _ _ _).2 ∧ (((bd_Mo_balanceDecade_0 _ _ _ _).1 = 0 ∧ bd_Be_seekBalance_33 _ _ _ _ _ _ _ _ _ _ _ _ _ _ _ _ _ _ = _ ∧ (_ → okb_Be_seekBalance_33 _ _ _ _ _ _ _ _ _ _ _ _ _ _ _ _ _ _ _ _)) ∨ ((bd_Mo_balanceDecade_0 _ _ _ _).1 = 5 ∧ bd_Be_seekBalance_33 _ _ _ _ _ _ _ _ _ _ _ _ _ _ _ _ _ _ = _ ∧ okb_Be_seekBalance_33 _ _ _ _ _ _ _ _ _ _ _ _ _ _ _ _ _ _ _ _) ∨ ((bd_Mo_balanceDecade_0 _ _ _ _).1 = 1 ∧ ∃ v : Int32, bd_Be_seekBalance_33 _ _ _ _ _ _ _ _ _ _ _ _ _ _ _ _ _ _ = _ ∧ (_ → okb_Be_seekBalance_33 _ _ _ _ _ _ _ _ _ _ _ _ _ _ _ _ _ _ _ _)))
    unfold okb_Mo_balanceDecade_0 bd_Mo_balanceDecade_0 okb_Be_seekBalance_33 bd_Be_seekBalance_33
    simp only [lettn]
    rw [ei, cl_nI (by omega), if_neg c1, if_neg c2, hr3, hc3]
    by_cases w : sp_Ci_whyBlocked ca3 w0 = 0
    · have wn : ¬ sp_Mo_canRead r3 = 0 := fun q => (hcan.1.mp q) (hzz.mp w)
      rw [if_pos w, if_neg wn]
      -- the look
      obtain ⟨l1, l2, ⟨V, l3, l4⟩, l5, l6, l7⟩ := look_BC hp3 h3 (by omega) bd1 p
      generalize hlc : sp_Be_takeLook p ba ca3 cal da w0 w3 w4 = yc at l3 l5
      generalize hlm : sp_Mo_look p r3 = ym at l4 l5 l6 l7
      have f4 := frd_tr f3 (frd_of l7)
      have hp4 := ps_PR (frd_ps f4) hp
      have D4 : zD ym.2 = zD r := frd_D f4
      have nc := c_null hp4 l6 l3
      have nm := m_null l6 l4 (by decide)
      have y4e : ∀ e, e < 4 → e ≠ d → ym.2 (33 + e) = r (33 + e) := fun e h1 h2 => by rw [l7 (33 + e) (by omega), r3e e h1 h2]
      have y4d : zr ym.2 (33 + d) = 9 - n := by rw [zr, l7 (33 + d) (by omega)]; exact r3d
      by_cases nu : znull ym.2 V
      · have n1 : ¬ sp_Be_isNull yc.1 w0 = 0 := fun q => (nc.1.mp q) nu
        have n2 : ¬ sp_Mo_isNull ym.1 ym.2 = 0 := fun q => (nm.1.mp q) nu
        rw [if_neg n1, if_neg n2]
        refine ⟨⟨vp_nI (by omega) (by decide), fun q => absurd q c1, fun _ => ⟨hcan.2, fun q => absurd q wn, fun _ => ⟨l2, fun q => absurd q n2, fun _ => trivial⟩⟩⟩, row_mono l6 (by omega), f4, y4e, yc.2.1, yc.2.2.1, yc.2.2.2.1, yc.2.2.2.2, l5, Or.inr (Or.inr ⟨rfl, yc.1, rfl, fun o => ⟨fun q => absurd q c2, fun _ => ⟨od1, fun _ => ⟨l1, fun q => absurd q n1, fun _ => o⟩, fun q => absurd w q⟩⟩⟩)⟩
      · have n1 : sp_Be_isNull yc.1 w0 = 0 := nc.1.mpr nu
        have n2 : sp_Mo_isNull ym.1 ym.2 = 0 := nm.1.mpr nu
        rw [if_pos n1, if_pos n2]
        have e1 : yc.1 ≤ 0 ↔ V ≤ 0 := by rw [Int32.le_iff_toInt_le, l3]; exact Iff.rfl
        have e2 : ym.1 ≤ (0 : Int64) ↔ V ≤ 0 := lec l4 0 0 rfl
        have t1 := b31 l6
        have t2 := l5.1.2.1
        -- what follows by whether the box is too great
        have key : ∀ t : Int32, (t = 0 ∨ t = 1) →
            ok_Mo_balanceDecade_65 ym (nI d) (sp_Mo_balanceDecade_0 (nI d) p f2) (ok_Mo_balanceDecade_0 (nI d) p f2) t ∧ RowOK (T + 4 * ((n + 1 : Nat) : Int)) (sp_Mo_balanceDecade_65 ym (nI d) (sp_Mo_balanceDecade_0 (nI d) p f2) t).2 ∧ FrD r (sp_Mo_balanceDecade_65 ym (nI d) (sp_Mo_balanceDecade_0 (nI d) p f2) t).2 ∧ (∀ e, e < 4 → e ≠ d → (sp_Mo_balanceDecade_65 ym (nI d) (sp_Mo_balanceDecade_0 (nI d) p f2) t).2 (33 + e) = r (33 + e)) ∧
            ∃ (ba' ca' : IV) (cal' : LV) (da' : IV), BC ba' ca' cal' da' (sp_Mo_balanceDecade_65 ym (nI d) (sp_Mo_balanceDecade_0 (nI d) p f2) t).2 ∧
            (((sp_Mo_balanceDecade_65 ym (nI d) (sp_Mo_balanceDecade_0 (nI d) p f2) t).1 = 0 ∧ sp_Be_seekBalance_108 yc y5 w0 w1 w3 w4 (nI d) (nI (10 - (n + 1))) r10 (sp_Be_seekBalance_33 (nI d) y5 w0 w1 w3 w4 p ea rar ral w2 r10 f1) t = sp_Be_seekBalance_143 (nI d) r10 ba' ca' cal' da' ∧ (ok_Be_seekBalance_143 (nI d) r10 q10 ba' ca' cal' da' → ok_Be_seekBalance_108 yc y5 w0 w1 w3 w4 (nI d) (nI (10 - (n + 1))) r10 (sp_Be_seekBalance_33 (nI d) y5 w0 w1 w3 w4 p ea rar ral w2 r10 f1) q10 (ok_Be_seekBalance_33 (nI d) y5 w0 w1 w3 w4 p ea rar ral w2 r10 q10 f1) t)) ∨
             ((sp_Mo_balanceDecade_65 ym (nI d) (sp_Mo_balanceDecade_0 (nI d) p f2) t).1 = 5 ∧ sp_Be_seekBalance_108 yc y5 w0 w1 w3 w4 (nI d) (nI (10 - (n + 1))) r10 (sp_Be_seekBalance_33 (nI d) y5 w0 w1 w3 w4 p ea rar ral w2 r10 f1) t = (5, ba', ca', cal', da', ea, rar, ral) ∧ ok_Be_seekBalance_108 yc y5 w0 w1 w3 w4 (nI d) (nI (10 - (n + 1))) r10 (sp_Be_seekBalance_33 (nI d) y5 w0 w1 w3 w4 p ea rar ral w2 r10 f1) q10 (ok_Be_seekBalance_33 (nI d) y5 w0 w1 w3 w4 p ea rar ral w2 r10 q10 f1) t) ∨
             ((sp_Mo_balanceDecade_65 ym (nI d) (sp_Mo_balanceDecade_0 (nI d) p f2) t).1 = 1 ∧ ∃ v : Int32, sp_Be_seekBalance_108 yc y5 w0 w1 w3 w4 (nI d) (nI (10 - (n + 1))) r10 (sp_Be_seekBalance_33 (nI d) y5 w0 w1 w3 w4 p ea rar ral w2 r10 f1) t = sp_Be_seekBalance_84 ea rar ral (v, ba', ca', cal', da') w0 w2 ∧ (ok_Be_seekBalance_84 ea rar ral (v, ba', ca', cal', da') w0 w2 → ok_Be_seekBalance_108 yc y5 w0 w1 w3 w4 (nI d) (nI (10 - (n + 1))) r10 (sp_Be_seekBalance_33 (nI d) y5 w0 w1 w3 w4 p ea rar ral w2 r10 f1) q10 (ok_Be_seekBalance_33 (nI d) y5 w0 w1 w3 w4 p ea rar ral w2 r10 q10 f1) t))) := by
          intro t ht
          -- one condition
          obtain ⟨u, hu1, hu2, hu3⟩ : ∃ u : Int32, yc.2.2.1 6 = u ∧ sp_Mo_balanceDecade_65 ym (nI d) (sp_Mo_balanceDecade_0 (nI d) p f2) t = sp_Mo_balanceDecade_82 t ym (nI d) (sp_Mo_balanceDecade_0 (nI d) p f2) u ∧ (ok_Mo_balanceDecade_82 t ym (nI d) (sp_Mo_balanceDecade_0 (nI d) p f2) (ok_Mo_balanceDecade_0 (nI d) p f2) u → ok_Mo_balanceDecade_65 ym (nI d) (sp_Mo_balanceDecade_0 (nI d) p f2) (ok_Mo_balanceDecade_0 (nI d) p f2) t) := by
            unfold sp_Mo_balanceDecade_65 ok_Mo_balanceDecade_65
            have c3 : ym.2 31 = (1 : Int64) ↔ (ym.2 31).toInt = 1 := z64 rfl 1 1 rfl
            by_cases q : ym.2 31 = (1 : Int64)
            · refine ⟨1, (z32 t2 1 1 rfl).mpr (c3.mp q), by rw [if_pos q], fun o => ⟨fun _ => o, fun z => absurd q z⟩⟩
            · have : (ym.2 31).toInt = 0 := by
                rcases t1 with z | z
                · exact z
                · exact absurd (c3.mpr z) q
              refine ⟨0, (z32 t2 0 0 rfl).mpr this, by rw [if_neg q], fun o => ⟨fun z => absurd z q, fun _ => o⟩⟩
          rw [hu2]
          unfold sp_Mo_balanceDecade_82 sp_Be_seekBalance_108 ok_Be_seekBalance_108
          rw [hu1]
          by_cases q : t = u
          · -- the digit goes down again
            rw [if_pos q, if_pos q]
            unfold sp_Mo_balanceDecade_85 sp_Be_seekBalance_118 ok_Be_seekBalance_118
            simp only [lettn]
            rw [ei, cl_nI (by omega)]
            have kk : E64 (ym.2 (33 + d) - (1 : Int64)) (8 - n) (-1) 8 := by
              have a := e64_sub (row_dig l6 (d := d) (by omega)) (e64_lit 1 (1 : Int64) rfl) (by decide) (by decide)
              exact ⟨by rw [a.1, y4d]; omega, by omega, by omega⟩
            have h5 : RowOK (T + 4) (vp_updL ym.2 (33 + d) (ym.2 (33 + d) - (1 : Int64))) := dig_ok l6 (by omega) (by rw [kk.1]; omega)
            have z5 : zset (vp_updL ym.2 (33 + d) (ym.2 (33 + d) - (1 : Int64))) (zD ym.2) = zset ym.2 (zD ym.2) - (10 ^ (zD r - 1 - d) : Nat) := by
              rw [zset_inc _ (by rw [D4]; exact hd), kk.1, y4d, D4]
              rw [show (8 - (n : Int) - (9 - (n : Int))) = -1 by omega]; omega
            have b5 := zset_all h5
            have D5 : zD (vp_updL ym.2 (33 + d) (ym.2 (33 + d) - (1 : Int64))) = zD ym.2 := frd_D (frd_dig (by omega) _)
            rw [D5, z5] at b5
            have S5 : E32 (yc.2.2.1 5) (zset ym.2 (zD ym.2)) 0 9999 := ⟨l5.1.1.1, (zset_all l6).1, (zset_all l6).2.1⟩
            have S6 : E32 (yc.2.2.1 5 - y5) (zset (vp_updL ym.2 (33 + d) (ym.2 (33 + d) - (1 : Int64))) (zD ym.2)) 0 9999 := by
              have a := e32_sub S5 Y5 (by decide) (by decide)
              exact ⟨by rw [a.1, z5], by rw [z5]; exact ⟨b5.1, b5.2.1⟩⟩
            obtain ⟨bd5, od5⟩ := bc_dial hp4 l6 l5 (r' := vp_updL ym.2 (33 + d) (ym.2 (33 + d) - (1 : Int64))) (fun k hk => uLn (by omega)) S6
            refine ⟨hu3 ?_, row_mono h5 (by omega), frd_tr f4 (frd_dig (by omega) _), fun e h1 h2 => by rw [uLn (by omega)]; exact y4e e h1 h2, yc.2.1, _, yc.2.2.2.1, yc.2.2.2.2, bd5, Or.inl ⟨trivial, rfl, fun o => ⟨fun _ => ⟨od5, o⟩, fun z => absurd q z⟩⟩⟩
            unfold ok_Mo_balanceDecade_82 ok_Mo_balanceDecade_85
            rw [ei]
            exact ⟨fun _ => ⟨vp_nI (by omega) (by decide), trivial⟩, fun z => absurd q z⟩
          · -- on with the digit
            rw [if_neg q, if_neg q]
            simp only [lettn]
            have e11 : nI (10 - (n + 1)) + (1 : Int32) = nI (10 - n) := by rw [nzadd1 _ (by omega)]; congr 1; omega
            rw [e11]
            obtain ⟨i1, i2, i3, i4, ba', ca', cal', da', i5, i6⟩ := bal_inner (p := p) (ea := ea) (rar := rar) (ral := ral) (y5 := y5) (d := d) r10 q10 n f1 f2 (T + 4) ym.2 yc.2.1 yc.2.2.1 yc.2.2.2.1 yc.2.2.2.2 hp4 l6 (by omega) (by rw [D4]; exact hd) (by rw [D4]; exact hy) y4d (by omega) (by omega) (by omega) l5
            refine ⟨hu3 ?_, row_mono i2 (by omega), frd_tr f4 i3, fun e h1 h2 => by rw [i4 e h1 h2]; exact y4e e h1 h2, ba', ca', cal', da', i5, ?_⟩
            · unfold ok_Mo_balanceDecade_82
              exact ⟨fun z => absurd z q, fun _ => i1⟩
            · rcases i6 with ⟨a, b, c⟩ | ⟨a, b, c⟩ | ⟨a, v, b, c⟩
              · exact Or.inl ⟨a, b, fun o => ⟨fun z => absurd z q, fun _ => c o⟩⟩
              · exact Or.inr (Or.inl ⟨a, b, fun z => absurd z q, fun _ => c⟩)
              · exact Or.inr (Or.inr ⟨a, v, b, fun o => ⟨fun z => absurd z q, fun _ => c o⟩⟩)
        by_cases q : V ≤ 0
        · rw [if_pos (e1.mpr q), if_pos (e2.mpr q)]
          obtain ⟨a1, a2, a3, a4, ba', ca', cal', da', a5, a6⟩ := key 0 (Or.inl rfl)
          refine ⟨⟨vp_nI (by omega) (by decide), fun z => absurd z c1, fun _ => ⟨hcan.2, fun z => absurd z wn, fun _ => ⟨l2, fun _ => ⟨fun _ => a1, fun z => absurd (e2.mpr q) z⟩, fun z => absurd n2 z⟩⟩⟩, a2, a3, a4, ba', ca', cal', da', a5, ?_⟩
          rcases a6 with ⟨a, b, c⟩ | ⟨a, b, c⟩ | ⟨a, v, b, c⟩
          · exact Or.inl ⟨a, b, fun o => ⟨fun z => absurd z c2, fun _ => ⟨od1, fun _ => ⟨l1, fun _ => ⟨fun _ => c o, fun z => absurd (e1.mpr q) z⟩, fun z => absurd n1 z⟩, fun z => absurd w z⟩⟩⟩
          · exact Or.inr (Or.inl ⟨a, b, fun z => absurd z c2, fun _ => ⟨od1, fun _ => ⟨l1, fun _ => ⟨fun _ => c, fun z => absurd (e1.mpr q) z⟩, fun z => absurd n1 z⟩, fun z => absurd w z⟩⟩)
          · exact Or.inr (Or.inr ⟨a, v, b, fun o => ⟨fun z => absurd z c2, fun _ => ⟨od1, fun _ => ⟨l1, fun _ => ⟨fun _ => c o, fun z => absurd (e1.mpr q) z⟩, fun z => absurd n1 z⟩, fun z => absurd w z⟩⟩⟩)
        · have q1 : ¬ yc.1 ≤ 0 := fun z => q (e1.mp z)
          have q2 : ¬ ym.1 ≤ (0 : Int64) := fun z => q (e2.mp z)
          rw [if_neg q1, if_neg q2]
          obtain ⟨a1, a2, a3, a4, ba', ca', cal', da', a5, a6⟩ := key 1 (Or.inr rfl)
          refine ⟨⟨vp_nI (by omega) (by decide), fun z => absurd z c1, fun _ => ⟨hcan.2, fun z => absurd z wn, fun _ => ⟨l2, fun _ => ⟨fun z => absurd z q2, fun _ => a1⟩, fun z => absurd n2 z⟩⟩⟩, a2, a3, a4, ba', ca', cal', da', a5, ?_⟩
          rcases a6 with ⟨a, b, c⟩ | ⟨a, b, c⟩ | ⟨a, v, b, c⟩
          · exact Or.inl ⟨a, b, fun o => ⟨fun z => absurd z c2, fun _ => ⟨od1, fun _ => ⟨l1, fun _ => ⟨fun z => absurd z q1, fun _ => c o⟩, fun z => absurd n1 z⟩, fun z => absurd w z⟩⟩⟩
          · exact Or.inr (Or.inl ⟨a, b, fun z => absurd z c2, fun _ => ⟨od1, fun _ => ⟨l1, fun _ => ⟨fun z => absurd z q1, fun _ => c⟩, fun z => absurd n1 z⟩, fun z => absurd w z⟩⟩)
          · exact Or.inr (Or.inr ⟨a, v, b, fun o => ⟨fun z => absurd z c2, fun _ => ⟨od1, fun _ => ⟨l1, fun _ => ⟨fun z => absurd z q1, fun _ => c o⟩, fun z => absurd n1 z⟩, fun z => absurd w z⟩⟩⟩)
    · have wn : sp_Mo_canRead r3 = 0 := hcan.1.mpr (fun q => w (hzz.mpr q))
      rw [if_neg w, if_pos wn]
      exact ⟨⟨vp_nI (by omega) (by decide), fun q => absurd q c1, fun _ => ⟨hcan.2, fun _ => trivial, fun q => absurd wn q⟩⟩, row_mono h3 (by omega), f3, r3e, ba, ca3, cal, da, bd1, Or.inr (Or.inl ⟨rfl, rfl, fun q => absurd q c2, fun _ => ⟨od1, fun q => absurd q w, fun _ => trivial⟩⟩)⟩
end CQ1
