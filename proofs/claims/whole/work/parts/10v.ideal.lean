section CU3
variable {T : Int} {r r' : LV} {w0 w1 w2 w3 w4 : IV}
theorem ideal_inner (hp : PR w0 w1 w2 w3 w4 r) (h : RowOK T r) {L : Int} {f g d w : Nat} {y3 : Int32} {y5 : Int64} (hy3 : y3 = nI w) (hy5 : y5.toInt32 = nI w) (hw1 : 1 ≤ w) (hw9 : w ≤ 1000)
    (r4 : Int32 → Int32 → IV → (Int32 × IV)) (q4 : Int32 → Int32 → IV → Prop) (r4m : Int32 → Int32 → Int32) (q4m : Int32 → Int32 → Prop) :
    ∀ (n u1 u2 v : Nat) (ca : IV) (S : Int), n ≤ 9 → v + (n + 1) * w ≤ (10 ^ zD r : Nat) → n < u1 → n + 1 < u2 → CiR ca r S f g L →
    ∃ (v' : Nat) (ca' : IV) (S' : Int), CiR ca' r S' f g L ∧ v' < (10 ^ zD r : Nat) ∧
      ((sp_Se_idealSetting_27 (nI d) y3 w0 w1 w3 w4 r4 u1 (nI v) (nI (10 - n)) ca = (nI v', ca') ∧ ok_Se_idealSetting_27 (nI d) y3 w0 w1 w3 w4 r4 q4 u1 (nI v) (nI (10 - n)) ca ∧
        (f = zf r → g = zg r → L = zr r 32 → sp_Mo_idealNow_31 (nI d) y5 r r4m u2 (nI v) 1 (nI (9 - n)) = nI v' ∧ ok_Mo_idealNow_31 (nI d) y5 r r4m q4m u2 (nI v) 1 (nI (9 - n)))) ∨
       (v' + w ≤ (10 ^ zD r : Nat) ∧ sp_Se_idealSetting_27 (nI d) y3 w0 w1 w3 w4 r4 u1 (nI v) (nI (10 - n)) ca = r4 (nI v') (nI d + 1) ca' ∧ (q4 (nI v') (nI d + 1) ca' → ok_Se_idealSetting_27 (nI d) y3 w0 w1 w3 w4 r4 q4 u1 (nI v) (nI (10 - n)) ca) ∧
        (f = zf r → g = zg r → L = zr r 32 → sp_Mo_idealNow_31 (nI d) y5 r r4m u2 (nI v) 1 (nI (9 - n)) = r4m (nI v') (nI d + 1) ∧ (q4m (nI v') (nI d + 1) → ok_Mo_idealNow_31 (nI d) y5 r r4m q4m u2 (nI v) 1 (nI (9 - n))))))
  | n, 0, _, _, _, _, _, _, hf, _, _ => absurd hf (by omega)
  | n, u1 + 1, 0, _, _, _, _, _, _, hf, _ => absurd hf (by omega)
  | 0, u1 + 1, u2 + 1, v, ca, S, _, hv, _, _, hc => by
    have hN := zN h
    have c1 : (9 : Int32) < nI (10 - 0) := by decide
    have c2 : (9 : Int32) ≤ nI (9 - 0) := by decide
    refine ⟨v, ca, S, hc, by omega, Or.inr ⟨by omega, ?_, fun o => ?_, fun _ _ _ => ⟨?_, fun o => ?_⟩⟩⟩
    · show bd_Se_idealSetting_27 _ _ _ _ _ _ _ _ _ _ _ = _
      unfold bd_Se_idealSetting_27 sp_Se_idealSetting_72; rw [if_pos c1]; simp only [lettn]
    · show okb_Se_idealSetting_27 _ _ _ _ _ _ _ _ _ _ _ _ _
      unfold okb_Se_idealSetting_27 ok_Se_idealSetting_72; simp only [lettn]
      exact ⟨fun _ => o, fun z => absurd c1 z⟩
    · show bd_Mo_idealNow_31 _ _ _ _ _ _ _ _ = _
      unfold bd_Mo_idealNow_31 sp_Mo_idealNow_83 sp_Mo_idealNow_94; rw [if_pos c2, if_neg (by decide)]; simp only [lettn]
      rw [show nI v - (0 : Int32) = nI v by rw [show (0 : Int32) = nI 0 from rfl, nzsub v 0 (by omega) (by omega)]; rfl]
    · show okb_Mo_idealNow_31 _ _ _ _ _ _ _ _ _ _
      unfold okb_Mo_idealNow_31 ok_Mo_idealNow_83 ok_Mo_idealNow_94; simp only [lettn]
      refine ⟨fun _ => ⟨fun z => absurd z (by decide), fun _ => ?_⟩, fun z => absurd c2 z⟩
      rw [show nI v - (0 : Int32) = nI v by rw [show (0 : Int32) = nI 0 from rfl, nzsub v 0 (by omega) (by omega)]; rfl]
      exact o
  | n + 1, u1 + 1, u2 + 1, v, ca, S, hn, hv, hu1, hu2, hc => by
    have hN := zN h
    have e0 : (n + 1 + 1) * w = (n + 1) * w + w := Nat.succ_mul _ _
    have e1 : (n + 1) * w = n * w + w := Nat.succ_mul _ _
    rw [e0, e1] at hv
    have c1 : ¬ (9 : Int32) < nI (10 - (n + 1)) := by rw [show (9 : Int32) = nI 9 from rfl, nzlt (by omega) (by omega)]; omega
    have c2 : ¬ (9 : Int32) ≤ nI (9 - (n + 1)) := by rw [show (9 : Int32) = nI 9 from rfl, nzle (by omega) (by omega)]; omega
    have ev : nI v + y3 = nI (v + w) := by rw [hy3]; exact nzadd _ _ (by omega)
    have ev5 : nI v + y5.toInt32 = nI (v + w) := by rw [hy5]; exact nzadd _ _ (by omega)
    have eback : nI (v + w) - y5.toInt32 = nI v := by rw [hy5, nzsub _ _ (by omega) (by omega)]; congr 1; omega
    obtain ⟨d1, d2, d3⟩ := c_deflAt hp h hc (sE (s := v + w) (by omega))
    have m := fun (hf : f = zf r) (hg : g = zg r) (hl : L = zr r 32) => m_plainNow h (sE (s := v + w) (by omega))
    have x1 : nI (10 - (n + 1)) + (1 : Int32) = nI (10 - n) := by rw [nzadd1 _ (by omega)]; congr 1; omega
    have x2 : nI (9 - (n + 1)) + (1 : Int32) = nI (9 - n) := by rw [nzadd1 _ (by omega)]; congr 1; omega
    have k1 := cle d1 0 0 rfl
    have k2 := z64 d1.1 0 0 rfl
    by_cases q1 : 0 ≤ zdefl r ((v + w : Nat) : Int) f g L
    · by_cases q2 : zdefl r ((v + w : Nat) : Int) f g L = 0
      · refine ⟨v + w, _, _, d2, by omega, Or.inl ⟨?_, ?_, fun hf hg hl => ?_⟩⟩
        · show bd_Se_idealSetting_27 _ _ _ _ _ _ _ _ _ _ _ = _
          unfold bd_Se_idealSetting_27; rw [if_neg c1]; simp only [lettn]; rw [ev, if_pos (k1.mpr q1), if_pos (k2.mpr q2)]
        · show okb_Se_idealSetting_27 _ _ _ _ _ _ _ _ _ _ _ _ _
          unfold okb_Se_idealSetting_27; simp only [lettn]; rw [ev]
          exact ⟨fun z => absurd z c1, fun _ => ⟨d3, fun _ => ⟨fun _ => trivial, fun z => absurd (k2.mpr q2) z⟩, fun z => absurd (k1.mpr q1) z⟩⟩
        · obtain ⟨a1, a2⟩ := m hf hg hl
          rw [← hf, ← hg, ← hl] at a1
          have b2 := (z64 a1.1 0 0 rfl).mpr q2
          constructor
          · show bd_Mo_idealNow_31 _ _ _ _ _ _ _ _ = _
            unfold bd_Mo_idealNow_31; rw [if_neg c2, if_neg (by decide)]; simp only [lettn]; rw [ev5, if_pos b2]
          · show okb_Mo_idealNow_31 _ _ _ _ _ _ _ _ _ _
            unfold okb_Mo_idealNow_31; simp only [lettn]; rw [ev5]
            exact ⟨fun z => absurd z c2, fun _ => ⟨fun z => absurd z (by decide), fun _ => ⟨a2, fun _ => trivial, fun z => absurd b2 z⟩⟩⟩
      · obtain ⟨v', ca', S', j1, j2, j3⟩ := ideal_inner hp h hy3 hy5 hw1 hw9 r4 q4 r4m q4m n u1 u2 (v + w) _ _ (by omega) (by rw [e1]; omega) (by omega) (by omega) d2
        have ec : sp_Se_idealSetting_27 (nI d) y3 w0 w1 w3 w4 r4 (u1 + 1) (nI v) (nI (10 - (n + 1))) ca = sp_Se_idealSetting_27 (nI d) y3 w0 w1 w3 w4 r4 u1 (nI (v + w)) (nI (10 - n)) (sp_Se_deflectionAt (nI (v + w)) ca w0 w1 w3 w4).2 := by
          show bd_Se_idealSetting_27 _ _ _ _ _ _ _ _ _ _ _ = _
          unfold bd_Se_idealSetting_27; rw [if_neg c1]; simp only [lettn]; rw [ev, if_pos (k1.mpr q1), if_neg (fun z => q2 (k2.mp z)), x1]
        have oc : ok_Se_idealSetting_27 (nI d) y3 w0 w1 w3 w4 r4 q4 u1 (nI (v + w)) (nI (10 - n)) (sp_Se_deflectionAt (nI (v + w)) ca w0 w1 w3 w4).2 → ok_Se_idealSetting_27 (nI d) y3 w0 w1 w3 w4 r4 q4 (u1 + 1) (nI v) (nI (10 - (n + 1))) ca := fun o => by
          show okb_Se_idealSetting_27 _ _ _ _ _ _ _ _ _ _ _ _ _
          unfold okb_Se_idealSetting_27; simp only [lettn]; rw [ev, x1]
          exact ⟨fun z => absurd z c1, fun _ => ⟨d3, fun _ => ⟨fun z => absurd (k2.mp z) q2, fun _ => o⟩, fun z => absurd (k1.mpr q1) z⟩⟩
        have em : f = zf r → g = zg r → L = zr r 32 → sp_Mo_idealNow_31 (nI d) y5 r r4m (u2 + 1) (nI v) 1 (nI (9 - (n + 1))) = sp_Mo_idealNow_31 (nI d) y5 r r4m u2 (nI (v + w)) 1 (nI (9 - n)) ∧ (ok_Mo_idealNow_31 (nI d) y5 r r4m q4m u2 (nI (v + w)) 1 (nI (9 - n)) → ok_Mo_idealNow_31 (nI d) y5 r r4m q4m (u2 + 1) (nI v) 1 (nI (9 - (n + 1)))) := fun hf hg hl => by
          obtain ⟨a1, a2⟩ := m hf hg hl
          rw [← hf, ← hg, ← hl] at a1
          have b2 : ¬ sp_Mo_plainNow (nI (v + w)) r = 0 := fun z => q2 ((z64 a1.1 0 0 rfl).mp z)
          have b3 : ¬ sp_Mo_plainNow (nI (v + w)) r ≤ 0 := fun z => by have := (lec a1 0 0 rfl).mp z; omega
          constructor
          · show bd_Mo_idealNow_31 _ _ _ _ _ _ _ _ = _
            unfold bd_Mo_idealNow_31 sp_Mo_idealNow_75; rw [if_neg c2, if_neg (by decide)]; simp only [lettn]; rw [ev5, if_neg b2, if_neg b3, x2]
          · intro o
            show okb_Mo_idealNow_31 _ _ _ _ _ _ _ _ _ _
            unfold okb_Mo_idealNow_31 ok_Mo_idealNow_75; simp only [lettn]; rw [ev5, x2]
            exact ⟨fun z => absurd z c2, fun _ => ⟨fun z => absurd z (by decide), fun _ => ⟨a2, fun z => absurd z b2, fun _ => ⟨fun z => absurd z b3, fun _ => o⟩⟩⟩⟩
        refine ⟨v', ca', S', j1, j2, ?_⟩
        rcases j3 with ⟨k3, k4, k5⟩ | ⟨k3, k4, k5, k6⟩
        · exact Or.inl ⟨ec.trans k3, oc k4, fun hf hg hl => ⟨(em hf hg hl).1.trans (k5 hf hg hl).1, (em hf hg hl).2 (k5 hf hg hl).2⟩⟩
        · exact Or.inr ⟨k3, ec.trans k4, fun o => oc (k5 o), fun hf hg hl => ⟨(em hf hg hl).1.trans (k6 hf hg hl).1, fun o => (em hf hg hl).2 ((k6 hf hg hl).2 o)⟩⟩
    · have n1 : ¬ (0 : Int64) ≤ (sp_Se_deflectionAt (nI (v + w)) ca w0 w1 w3 w4).1 := fun z => q1 (k1.mp z)
      obtain ⟨u3, rfl⟩ : ∃ u3, u2 = u3 + 1 := ⟨u2 - 1, by omega⟩
      refine ⟨v, _, _, d2, by omega, Or.inr ⟨by omega, ?_, fun o => ?_, fun hf hg hl => ?_⟩⟩
      · show bd_Se_idealSetting_27 _ _ _ _ _ _ _ _ _ _ _ = _
        unfold bd_Se_idealSetting_27 sp_Se_idealSetting_50 sp_Se_idealSetting_72; rw [if_neg c1]; simp only [lettn]; rw [ev, if_neg n1]
      · show okb_Se_idealSetting_27 _ _ _ _ _ _ _ _ _ _ _ _ _
        unfold okb_Se_idealSetting_27 ok_Se_idealSetting_50 ok_Se_idealSetting_72; simp only [lettn]; rw [ev]
        exact ⟨fun z => absurd z c1, fun _ => ⟨d3, fun z => absurd z n1, fun _ => o⟩⟩
      · obtain ⟨a1, a2⟩ := m hf hg hl
        rw [← hf, ← hg, ← hl] at a1
        have b2 : ¬ sp_Mo_plainNow (nI (v + w)) r = 0 := fun z => q1 (by rw [(z64 a1.1 0 0 rfl).mp z]; decide)
        have b3 : sp_Mo_plainNow (nI (v + w)) r ≤ 0 := (lec a1 0 0 rfl).mpr (by omega)
        -- the next round ends the loop
        have nx : sp_Mo_idealNow_31 (nI d) y5 r r4m (u3 + 1) (nI (v + w)) 0 (nI (9 - n)) = r4m (nI v) (nI d + 1) ∧ (q4m (nI v) (nI d + 1) → ok_Mo_idealNow_31 (nI d) y5 r r4m q4m (u3 + 1) (nI (v + w)) 0 (nI (9 - n))) := by
          have e83 : sp_Mo_idealNow_83 0 (nI (v + w)) (nI d) y5 r4m = r4m (nI v) (nI d + 1) := by
            unfold sp_Mo_idealNow_83 sp_Mo_idealNow_94; rw [if_pos rfl]; simp only [lettn]; rw [eback]
          have o83 : q4m (nI v) (nI d + 1) → ok_Mo_idealNow_83 0 (nI (v + w)) (nI d) y5 r4m q4m := fun o => by
            unfold ok_Mo_idealNow_83 ok_Mo_idealNow_94; simp only [lettn]; rw [eback]
            exact ⟨fun _ => o, fun z => absurd trivial z⟩
          constructor
          · show bd_Mo_idealNow_31 _ _ _ _ _ _ _ _ = _
            unfold bd_Mo_idealNow_31
            rw [e83]
            split
            · rfl
            · rw [if_pos rfl]
          · intro o
            show okb_Mo_idealNow_31 _ _ _ _ _ _ _ _ _ _
            unfold okb_Mo_idealNow_31
            exact ⟨fun _ => o83 o, fun _ => ⟨fun _ => o83 o, fun z => absurd rfl z⟩⟩
        constructor
        · rw [← nx.1]
          show bd_Mo_idealNow_31 _ _ _ _ _ _ _ _ = _
          unfold bd_Mo_idealNow_31 sp_Mo_idealNow_75; rw [if_neg c2, if_neg (by decide)]; simp only [lettn]; rw [ev5, if_neg b2, if_pos b3, x2]
        · intro o
          show okb_Mo_idealNow_31 _ _ _ _ _ _ _ _ _ _
          unfold okb_Mo_idealNow_31 ok_Mo_idealNow_75; simp only [lettn]; rw [ev5, x2]
          exact ⟨fun z => absurd z c2, fun _ => ⟨fun z => absurd z (by decide), fun _ => ⟨a2, fun z => absurd z b2, fun _ => ⟨fun _ => nx.2 o, fun z => absurd b3 z⟩⟩⟩⟩
theorem ideal_outer (hp : PR w0 w1 w2 w3 w4 r) (h : RowOK T r) {L : Int} {f g : Nat} :
    ∀ (n u1 u2 d v : Nat) (ca : IV) (S : Int), d + n = zD r → v + 10 ^ n ≤ (10 ^ zD r : Nat) → n < u1 → n < u2 → CiR ca r S f g L →
    ∃ (v' : Nat) (ca' : IV) (S' : Int), CiR ca' r S' f g L ∧ v' < (10 ^ zD r : Nat) ∧ sp_Se_idealSetting_4 w0 w1 w3 w4 u1 (nI v) (nI d) ca = (nI v', ca') ∧ ok_Se_idealSetting_4 w0 w1 w3 w4 u1 (nI v) (nI d) ca ∧
      (f = zf r → g = zg r → L = zr r 32 → sp_Mo_idealNow_4 r u2 (nI v) (nI d) = nI v' ∧ ok_Mo_idealNow_4 r u2 (nI v) (nI d))
  | n, 0, _, _, _, _, _, _, _, hf, _, _ => absurd hf (by omega)
  | n, u1 + 1, 0, _, _, _, _, _, _, _, hf, _ => absurd hf (by omega)
  | 0, u1 + 1, u2 + 1, d, v, ca, S, hd, hv, _, _, hc => by
    have hD := zD_bd h
    have c1 : w0 0 ≤ nI d := by rw [c_dec hp h, nzle (by omega) (by omega)]; omega
    have c2 : sp_Mo_decades r ≤ nI d := by rw [m_decades h, nzle (by omega) (by omega)]; omega
    refine ⟨v, ca, S, hc, by rw [Nat.pow_zero] at hv; omega, ?_, ?_, fun _ _ _ => ⟨?_, ?_⟩⟩
    · show bd_Se_idealSetting_4 _ _ _ _ _ _ _ _ = _
      unfold bd_Se_idealSetting_4; rw [if_pos c1]
    · show okb_Se_idealSetting_4 _ _ _ _ _ _ _ _ _
      unfold okb_Se_idealSetting_4; exact ⟨fun _ => trivial, fun z => absurd c1 z⟩
    · show bd_Mo_idealNow_4 _ _ _ _ = _
      unfold bd_Mo_idealNow_4; simp only [lettn]; rw [if_pos c2]
    · show okb_Mo_idealNow_4 _ _ _ _ _
      unfold okb_Mo_idealNow_4; simp only [lettn]; exact ⟨fun _ => trivial, fun z => absurd c2 z⟩
  | n + 1, u1 + 1, u2 + 1, d, v, ca, S, hd, hv, hu1, hu2, hc => by
    have hD := zD_bd h
    have hN := zN h
    have c1 : ¬ w0 0 ≤ nI d := by rw [c_dec hp h, nzle (by omega) (by omega)]; omega
    have c2 : ¬ sp_Mo_decades r ≤ nI d := by rw [m_decades h, nzle (by omega) (by omega)]; omega
    obtain ⟨t1, t2⟩ := c_weight hp h (d := d) (by omega)
    rw [show zD r - 1 - d = n by omega] at t1
    have et : sp_Mo_decades r - (1 : Int32) - nI d = nI n := by
      rw [m_decades h, show (1 : Int32) = nI 1 from rfl, nzsub _ _ (by omega) (by omega), nzsub _ _ (by omega) (by omega)]; congr 1; omega
    have hpk := (show ∀ k, k < 4 → 1 ≤ (10 : Nat) ^ k ∧ (10 : Nat) ^ k ≤ 1000 by decide) n (by omega)
    have e5 : (lN (10 ^ n)).toInt32 = nI (10 ^ n) := nIo (by rw [Kit.i32_of_i64 (by rw [lNz (by omega)]; omega) (by rw [lNz (by omega)]; omega), lNz (by omega)])
    have ep : (10 : Nat) ^ (n + 1) = 10 ^ n * 10 := Nat.pow_succ 10 n
    obtain ⟨v', ca', S', j1, j2, j3⟩ := ideal_inner (d := d) (w := 10 ^ n) (y3 := sp_Pa_weightOf (nI d) w0) (y5 := lN (10 ^ n)) hp h t1 e5 hpk.1 hpk.2 (sp_Se_idealSetting_4 w0 w1 w3 w4 u1) (ok_Se_idealSetting_4 w0 w1 w3 w4 u1) (sp_Mo_idealNow_4 r u2) (ok_Mo_idealNow_4 r u2) 9 big big v ca S (by omega) (by omega) (by rw [big_eq]; decide) (by rw [big_eq]; decide) hc
    have ec : sp_Se_idealSetting_4 w0 w1 w3 w4 (u1 + 1) (nI v) (nI d) ca = sp_Se_idealSetting_27 (nI d) (sp_Pa_weightOf (nI d) w0) w0 w1 w3 w4 (sp_Se_idealSetting_4 w0 w1 w3 w4 u1) big (nI v) (nI (10 - 9)) ca := by
      show bd_Se_idealSetting_4 _ _ _ _ _ _ _ _ = _
      unfold bd_Se_idealSetting_4; rw [if_neg c1]; simp only [lettn]; rfl
    have oc : ok_Se_idealSetting_27 (nI d) (sp_Pa_weightOf (nI d) w0) w0 w1 w3 w4 (sp_Se_idealSetting_4 w0 w1 w3 w4 u1) (ok_Se_idealSetting_4 w0 w1 w3 w4 u1) big (nI v) (nI (10 - 9)) ca → ok_Se_idealSetting_4 w0 w1 w3 w4 (u1 + 1) (nI v) (nI d) ca := fun o => by
      show okb_Se_idealSetting_4 _ _ _ _ _ _ _ _ _
      unfold okb_Se_idealSetting_4; simp only [lettn]; exact ⟨fun z => absurd z c1, fun _ => ⟨t2, o⟩⟩
    have em : sp_Mo_idealNow_4 r (u2 + 1) (nI v) (nI d) = sp_Mo_idealNow_31 (nI d) (lN (10 ^ n)) r (sp_Mo_idealNow_4 r u2) big (nI v) 1 (nI (9 - 9)) := by
      show bd_Mo_idealNow_4 _ _ _ _ = _
      unfold bd_Mo_idealNow_4; simp only [lettn]; rw [if_neg c2, et, mo_ten (by omega)]; rfl
    have om : ok_Mo_idealNow_31 (nI d) (lN (10 ^ n)) r (sp_Mo_idealNow_4 r u2) (ok_Mo_idealNow_4 r u2) big (nI v) 1 (nI (9 - 9)) → ok_Mo_idealNow_4 r (u2 + 1) (nI v) (nI d) := fun o => by
      show okb_Mo_idealNow_4 _ _ _ _ _
      unfold okb_Mo_idealNow_4; simp only [lettn]; rw [et, mo_ten (by omega)]
      exact ⟨fun z => absurd z c2, fun _ => ⟨mo_ten_o (by omega), o⟩⟩
    rcases j3 with ⟨k3, k4, k5⟩ | ⟨k3, k4, k5, k6⟩
    · exact ⟨v', ca', S', j1, j2, ec.trans k3, oc k4, fun hf hg hl => ⟨em.trans (k5 hf hg hl).1, om (k5 hf hg hl).2⟩⟩
    · rw [nzadd1 d (by omega)] at k4 k5 k6
      obtain ⟨v2, ca2, S2, l1, l2, l3, l4, l5⟩ := ideal_outer hp h n u1 u2 (d + 1) v' ca' S' (by omega) k3 (by omega) (by omega) j1
      exact ⟨v2, ca2, S2, l1, l2, (ec.trans k4).trans l3, oc (k5 l4), fun hf hg hl => ⟨(em.trans (k6 hf hg hl).1).trans (l5 hf hg hl).1, om ((k6 hf hg hl).2 (l5 hf hg hl).2)⟩⟩
theorem ideal_R (hp : PR w0 w1 w2 w3 w4 r) (h : RowOK T r) {L : Int} {f g : Nat} {ca : IV} {S : Int} (hc : CiR ca r S f g L) :
    ∃ (v' : Nat) (ca' : IV) (S' : Int), CiR ca' r S' f g L ∧ v' < (10 ^ zD r : Nat) ∧ sp_Se_idealSetting ca w0 w1 w3 w4 = (nI v', ca') ∧ ok_Se_idealSetting ca w0 w1 w3 w4 ∧ (f = zf r → g = zg r → L = zr r 32 → sp_Mo_idealNow r = nI v' ∧ ok_Mo_idealNow r) := by
  have hD := zD_bd h
  exact ideal_outer hp h (zD r) big big 0 0 ca S (by omega) (by omega) (by rw [big_eq]; omega) (by rw [big_eq]; omega) hc
end CU3
