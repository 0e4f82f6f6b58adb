section TPH
variable {T : Int} {R d x : Nat} {G b e c : Nat → Nat} {pi po pf ps pb pn pt o sK sA sB sE oq bS bE bL : IV} {now : LV}
def fu (f : Nat → Nat) (k v : Nat) : Nat → Nat := fun j => if j = k then v else f j
theorem fus (f : Nat → Nat) (k v : Nat) : fu f k v k = v := if_pos rfl
theorem fun_ {f : Nat → Nat} {k v j : Nat} (h : j ≠ k) : fu f k v j = f j := if_neg h
/-- between a bracket's ends all stands deeper -/
theorem mid_G (hI : RunI R G pb sE d x b e c) (hm : Mid R d x e) : G x = d := by
  obtain ⟨i1, i2, i3, i4, i5⟩ := hI
  obtain ⟨m1, m2⟩ := hm
  cases d with
  | zero => omega
  | succ D =>
    obtain ⟨u1, u2, u3, u4, u5, u6, u7, u8, u9, u10⟩ := i4 D (by omega)
    have := u9 x u1 (by have := m2 D rfl; omega)
    omega
/-- a bracket that begins here ends ahead of those around it -/
theorem nest (hP : ProR R G po pf ps pb sK sA sB sE) (hI : RunI R G pb sE d x b e c) (hm : Mid R d x e) {v : Nat} (h1 : x < v) (h2 : v ≤ R) (h3 : ∀ m, x < m → m < v → G x < G m) : ∀ j, j < d → v ≤ e j := by
  have hG := mid_G hI hm
  obtain ⟨i1, i2, i3, i4, i5⟩ := hI
  obtain ⟨m1, m2⟩ := hm
  intro j hj
  obtain ⟨u1, u2, u3, u4, u5, u6, u7, u8, u9, u10⟩ := i4 j hj
  have hxe : x < e j := by
    by_cases q : d = j + 1
    · have := m2 j q; omega
    · obtain ⟨z1, z2, -⟩ := i4 1 (by omega)
      have := i5 (by omega)
      have := m2 1 (by omega)
      have hj0 : j = 0 := by omega
      rw [hj0]; omega
  rcases Nat.lt_or_ge (e j) v with q | q
  · have := h3 (e j) hxe q
    omega
  · exact q
theorem mulc {t K : Nat} (h : t ≤ 20) : t * K ≤ 20 * K := Nat.mul_le_mul_right K h
/-- the class's and the reference's numbers of the brackets stay -/
theorem runI_skip (hP : ProR R G po pf ps pb sK sA sB sE) (hI : RunI R G pb sE d x b e c) (hm : Mid R d x e) {v : Nat} (h1 : x < v) (h2 : v ≤ R) (h3 : ∀ m, x < m → m < v → G x < G m) (h4 : G v ≤ G x) : RunI R G pb sE d v b e c ∧ Phi R d v b e c < Phi R d x b e c := by
  have hN := nest hP hI hm h1 h2 h3
  obtain ⟨i1, i2, i3, i4, i5⟩ := hI
  obtain ⟨m1, m2⟩ := hm
  refine ⟨⟨i1, h2, by omega, fun j hj => ?_, i5⟩, ?_⟩
  · obtain ⟨u1, u2, u3, u4, u5, u6, u7, u8, u9, u10⟩ := i4 j hj
    exact ⟨by omega, hN j hj, u3, u4, u5, u6, u7, u8, u9, u10⟩
  · match d, i1 with
    | 0, _ => show 421 * (R - v) < 421 * (R - x); omega
    | 1, _ =>
      have z := hN 0 (by omega)
      show 421 * (R - e 0) + (21 * (e 0 - v) + 1) + (c 0 - 1) * (21 * (e 0 - b 0 - 1) + 1) < 421 * (R - e 0) + (21 * (e 0 - x) + 1) + (c 0 - 1) * (21 * (e 0 - b 0 - 1) + 1)
      omega
    | 2, _ =>
      have z := hN 1 (by omega)
      show 421 * (R - e 0) + (21 * (e 0 - e 1) + 1) + (c 0 - 1) * (21 * (e 0 - b 0 - 1) + 1) + ((e 1 - v) + 1) + (c 1 - 1) * (e 1 - b 1) < 421 * (R - e 0) + (21 * (e 0 - e 1) + 1) + (c 0 - 1) * (21 * (e 0 - b 0 - 1) + 1) + ((e 1 - x) + 1) + (c 1 - 1) * (e 1 - b 1)
      omega
    | d + 3, z => omega
theorem runI_call (hP : ProR R G po pf ps pb sK sA sB sE) (hI : RunI R G pb sE d x b e c) (hm : Mid R d x e) (h8 : (po x).toInt < 8) : RunI R G pb sE d (x + 1) b e c ∧ Phi R d (x + 1) b e c < Phi R d x b e c := by
  have hx := hm.1
  have hg := (hP.2.2.2.2.2.2 x hx).2 h8
  refine runI_skip hP hI hm (by omega) (by omega) (fun m a b => by omega) hg
theorem runI_push (hP : ProR R G po pf ps pb sK sA sB sE) (hI : RunI R G pb sE d x b e c) (hm : Mid R d x e) (hd : d < 2) {v t : Nat} (h1 : x < v) (h2 : v ≤ R) (h3 : ∀ m, x < m → m < v → G x < G m) (h4 : G v ≤ G x) (h5 : pb x = nI v) (h6 : sE x = nI v) (ht : t ≤ 20) (ht0 : ¬ t = 0) :
    RunI R G pb sE (d + 1) (x + 1) (fu b d x) (fu e d v) (fu c d t) ∧ Phi R (d + 1) (x + 1) (fu b d x) (fu e d v) (fu c d t) < Phi R d x b e c := by
  have hN := nest hP hI hm h1 h2 h3
  have hG := mid_G hI hm
  have hg := (hP.2.2.2.2.2.2 x hm.1).1
  obtain ⟨i1, i2, i3, i4, i5⟩ := hI
  obtain ⟨m1, m2⟩ := hm
  refine ⟨⟨by omega, by omega, by omega, fun j hj => ?_, fun q => ?_⟩, ?_⟩
  · by_cases q : j = d
    · subst q
      rw [fus, fus, fus]
      exact ⟨by omega, by omega, h2, hG, h5, h6, by omega, ht, fun m a b => by have := h3 m a b; omega, by omega⟩
    · rw [fun_ q, fun_ q, fun_ q]
      obtain ⟨u1, u2, u3, u4, u5, u6, u7, u8, u9, u10⟩ := i4 j (by omega)
      exact ⟨by omega, by have := hN j (by omega); omega, u3, u4, u5, u6, u7, u8, u9, u10⟩
  · have d1 : d = 1 := by omega
    subst d1
    rw [fus, fun_ (by decide)]
    exact hN 0 (by omega)
  · obtain ⟨t', rfl⟩ : ∃ t', t = t' + 1 := ⟨t - 1, by omega⟩
    match d, hd with
    | 0, _ =>
      show 421 * (R - v) + (21 * (v - (x + 1)) + 1) + (t' + 1 - 1) * (21 * (v - x - 1) + 1) < 421 * (R - x)
      rw [Nat.add_sub_cancel]
      have k := mulc (K := 21 * (v - x - 1) + 1) (by omega : t' ≤ 20)
      have k2 : t' * (21 * (v - x - 1) + 1) ≤ 19 * (21 * (v - x - 1) + 1) := Nat.mul_le_mul_right _ (by omega)
      omega
    | 1, _ =>
      have z := hN 0 (by omega)
      show 421 * (R - e 0) + (21 * (e 0 - v) + 1) + (c 0 - 1) * (21 * (e 0 - b 0 - 1) + 1) + ((v - (x + 1)) + 1) + (t' + 1 - 1) * (v - x) < 421 * (R - e 0) + (21 * (e 0 - x) + 1) + (c 0 - 1) * (21 * (e 0 - b 0 - 1) + 1)
      rw [Nat.add_sub_cancel]
      have k2 : t' * (v - x) ≤ 19 * (v - x) := Nat.mul_le_mul_right _ (by omega)
      omega
theorem runI_pop {D : Nat} (hI : RunI R G pb sE (D + 1) x b e c) (hx : x = e D) : RunI R G pb sE D x b e c ∧ (c D = 1 → Phi R D x b e c < Phi R (D + 1) x b e c) := by
  obtain ⟨i1, i2, i3, i4, i5⟩ := hI
  obtain ⟨u1, u2, u3, u4, u5, u6, u7, u8, u9, u10⟩ := i4 D (by omega)
  refine ⟨⟨by omega, i2, by rw [hx]; exact u10, fun j hj => i4 j (by omega), fun q => by omega⟩, fun hc => ?_⟩
  match D, i1 with
  | 0, _ =>
    show 421 * (R - x) < 421 * (R - e 0) + (21 * (e 0 - x) + 1) + (c 0 - 1) * (21 * (e 0 - b 0 - 1) + 1)
    rw [hx]; omega
  | 1, _ =>
    show 421 * (R - e 0) + (21 * (e 0 - x) + 1) + (c 0 - 1) * (21 * (e 0 - b 0 - 1) + 1) < 421 * (R - e 0) + (21 * (e 0 - e 1) + 1) + (c 0 - 1) * (21 * (e 0 - b 0 - 1) + 1) + ((e 1 - x) + 1) + (c 1 - 1) * (e 1 - b 1)
    rw [hx]; omega
theorem runI_again {D : Nat} (hP : ProR R G po pf ps pb sK sA sB sE) (hI : RunI R G pb sE (D + 1) x b e c) (hx : x = e D) (hc : ¬ c D = 1) : RunI R G pb sE (D + 1) (b D + 1) b e (fu c D (c D - 1)) ∧ Phi R (D + 1) (b D + 1) b e (fu c D (c D - 1)) < Phi R (D + 1) x b e c := by
  obtain ⟨i1, i2, i3, i4, i5⟩ := hI
  obtain ⟨u1, u2, u3, u4, u5, u6, u7, u8, u9, u10⟩ := i4 D (by omega)
  have hbR : b D < R := by omega
  have hg := (hP.2.2.2.2.2.2 (b D) hbR).1
  refine ⟨⟨i1, by omega, by omega, fun j hj => ?_, i5⟩, ?_⟩
  · by_cases q : j = D
    · subst q
      rw [fus]
      exact ⟨by omega, by omega, u3, u4, u5, u6, by omega, by omega, u9, u10⟩
    · rw [fun_ q]
      obtain ⟨z1, z2, z3, z4, z5, z6, z7, z8, z9, z10⟩ := i4 j (by omega)
      have j0 : j = 0 := by omega
      have D1 : D = 1 := by omega
      subst j0; subst D1
      -- the inner bracket began behind the outer one
      have hb : b 0 < b 1 := by
        rcases Nat.lt_or_ge (b 0) (b 1) with w | w
        · exact w
        · rcases Nat.lt_or_ge (b 1) (b 0) with w2 | w2
          · have := u9 (b 0) w2 (by omega); omega
          · have e01 : b 0 = b 1 := by omega
            rw [e01] at z4; omega
      have := i5 rfl
      exact ⟨by omega, by omega, z3, z4, z5, z6, z7, z8, z9, z10⟩
  · match D, i1 with
    | 0, _ =>
      obtain ⟨k, hk⟩ : ∃ k, c 0 = k + 2 := ⟨c 0 - 2, by omega⟩
      show 421 * (R - e 0) + (21 * (e 0 - (b 0 + 1)) + 1) + (fu c 0 (c 0 - 1) 0 - 1) * (21 * (e 0 - b 0 - 1) + 1) < 421 * (R - e 0) + (21 * (e 0 - x) + 1) + (c 0 - 1) * (21 * (e 0 - b 0 - 1) + 1)
      rw [fus, hk, hx, show k + 2 - 1 - 1 = k by omega, show k + 2 - 1 = k + 1 by omega, Nat.succ_mul k]
      omega
    | 1, _ =>
      obtain ⟨k, hk⟩ : ∃ k, c 1 = k + 2 := ⟨c 1 - 2, by omega⟩
      show 421 * (R - e 0) + (21 * (e 0 - e 1) + 1) + (fu c 1 (c 1 - 1) 0 - 1) * (21 * (e 0 - b 0 - 1) + 1) + ((e 1 - (b 1 + 1)) + 1) + (fu c 1 (c 1 - 1) 1 - 1) * (e 1 - b 1) < 421 * (R - e 0) + (21 * (e 0 - e 1) + 1) + (c 0 - 1) * (21 * (e 0 - b 0 - 1) + 1) + ((e 1 - x) + 1) + (c 1 - 1) * (e 1 - b 1)
      rw [fus, fun_ (show (0 : Nat) ≠ 1 by decide), hk, hx, show k + 2 - 1 - 1 = k by omega, show k + 2 - 1 = k + 1 by omega, Nat.succ_mul k]
      omega
/-- both come to the next call, or to the end -/
theorem next_R {nl : Int32} {n1 : Nat} (hP : ProR R G po pf ps pb sK sA sB sE) (h22 : o 22 = nI R) (hnl : nl = lat now) (hn1 : n1 < 60) : ∀ (M n f1 f2 d x : Nat) (b e c : Nat → Nat) (pi pn pt bS bE bL : IV), Phi R d x b e c ≤ M → RunI R G pb sE d x b e c → RunS R d x b e c pi pn pt bS bE bL → n + M < 1000000 → M < f1 → M < f2 →
    ok_Pr_next_2 po pf pb nl f1 (nI n) pi pn pt ∧ ∃ (d' x' : Nat) (b' e' c' : Nat → Nat) (pi' pn' pt' bS' bE' bL' : IV) (f2' : Nat), RunI R G pb sE d' x' b' e' c' ∧ RunS R d' x' b' e' c' pi' pn' pt' bS' bE' bL' ∧ Phi R d' x' b' e' c' ≤ Phi R d x b e c ∧ f2 + Phi R d' x' b' e' c' ≤ f2' + Phi R d x b e c ∧
      sp_Mo_doSteps_6 sK sA sB sE o f2 (nI n1) (nI d) (nI x) now bS bE bL = sp_Mo_doSteps_6 sK sA sB sE o f2' (nI n1) (nI d') (nI x') now bS' bE' bL' ∧ (ok_Mo_doSteps_6 sK sA sB sE o f2' (nI n1) (nI d') (nI x') now bS' bE' bL' → ok_Mo_doSteps_6 sK sA sB sE o f2 (nI n1) (nI d) (nI x) now bS bE bL) ∧
      ((d' = 0 ∧ x' = R ∧ sp_Pr_next_2 po pf pb nl f1 (nI n) pi pn pt = (-1, pi', pn', pt')) ∨ (Mid R d' x' e' ∧ (po x').toInt < 8 ∧ sp_Pr_next_2 po pf pb nl f1 (nI n) pi pn pt = (nI x', upd pi' 9 (nI (x' + 1)), pn', pt')))
  | M, n, 0, _, _, _, _, _, _, _, _, _, _, _, _, _, _, _, _, hf, _ => absurd hf (by omega)
  | M, n, _, 0, _, _, _, _, _, _, _, _, _, _, _, _, _, _, _, _, hf => absurd hf (by omega)
  | M, n, f1 + 1, f2 + 1, d, x, b, e, c, pi, pn, pt, bS, bE, bL, hM, hI, hS, hn, hf1, hf2 => by
    have hR := hP.1
    -- where a bracket's turn ends
    have endCase : ∀ D, d = D + 1 → x = e D → ok_Pr_next_2 po pf pb nl (f1 + 1) (nI n) pi pn pt ∧ ∃ (d' x' : Nat) (b' e' c' : Nat → Nat) (pi' pn' pt' bS' bE' bL' : IV) (f2' : Nat), RunI R G pb sE d' x' b' e' c' ∧ RunS R d' x' b' e' c' pi' pn' pt' bS' bE' bL' ∧ Phi R d' x' b' e' c' ≤ Phi R d x b e c ∧ f2 + 1 + Phi R d' x' b' e' c' ≤ f2' + Phi R d x b e c ∧
      sp_Mo_doSteps_6 sK sA sB sE o (f2 + 1) (nI n1) (nI d) (nI x) now bS bE bL = sp_Mo_doSteps_6 sK sA sB sE o f2' (nI n1) (nI d') (nI x') now bS' bE' bL' ∧ (ok_Mo_doSteps_6 sK sA sB sE o f2' (nI n1) (nI d') (nI x') now bS' bE' bL' → ok_Mo_doSteps_6 sK sA sB sE o (f2 + 1) (nI n1) (nI d) (nI x) now bS bE bL) ∧
      ((d' = 0 ∧ x' = R ∧ sp_Pr_next_2 po pf pb nl (f1 + 1) (nI n) pi pn pt = (-1, pi', pn', pt')) ∨ (Mid R d' x' e' ∧ (po x').toInt < 8 ∧ sp_Pr_next_2 po pf pb nl (f1 + 1) (nI n) pi pn pt = (nI x', upd pi' 9 (nI (x' + 1)), pn', pt'))) := by
      intro D hD hx
      subst hD
      obtain ⟨a1, a2⟩ := c_end (f := f1) (nl := nl) hP hI hS (n := n) (by omega) hx
      obtain ⟨m1, m2⟩ := m_endT (o := o) (now := now) (f := f2) hP hI hS hn1 hx
      obtain ⟨s1, s2, s3, s4⟩ := id hS
      by_cases q : c D = 1
      · obtain ⟨r1, r2⟩ := runI_pop hI hx
        have r3 := r2 q
        have hS' : RunS R D x b e c (upd pi 8 (nI D)) pn pt bS bE (upd bL D (nI (c D - 1))) := ⟨by rw [un (by decide)]; exact s1, us, by rw [un (by decide)]; exact s3, fun j hj => by
          obtain ⟨t1, t2, t3, t4, t5⟩ := s4 j (by omega)
          exact ⟨t1, t2, t3, t4, by rw [un (by omega)]; exact t5⟩⟩
        obtain ⟨i1, d', x', b', e', c', pi', pn', pt', bS', bE', bL', f2', j1, j2, j3, j4, j5, j6, j7⟩ := next_R hP h22 hnl hn1 (M - 1) (n + 1) f1 f2 D x b e c (upd pi 8 (nI D)) pn pt bS bE (upd bL D (nI (c D - 1))) (by omega) r1 hS' (by omega) (by omega) (by omega)
        rw [if_pos q] at a1 m1
        exact ⟨a2 (fun _ => i1) (fun w => absurd q w), d', x', b', e', c', pi', pn', pt', bS', bE', bL', f2', j1, j2, by omega, by omega, m1.trans j5, fun w => m2 (fun _ => j6 w) (fun w2 => absurd q w2), by rw [a1]; exact j7⟩
      · obtain ⟨r1, r3⟩ := runI_again hP hI hx q
        have hS' : RunS R (D + 1) (b D + 1) b e (fu c D (c D - 1)) (upd pi 9 (nI (b D + 1))) pn (upd pt D (nI (c D - 1))) bS bE (upd bL D (nI (c D - 1))) := ⟨by rw [un (by decide)]; exact s1, by rw [un (by decide)]; exact s2, us, fun j hj => by
          obtain ⟨t1, t2, t3, t4, t5⟩ := s4 j hj
          by_cases w : j = D
          · subst w
            rw [fus, us, us]
            exact ⟨t1, rfl, t3, t4, rfl⟩
          · rw [fun_ w, un w, un w]
            exact ⟨t1, t2, t3, t4, t5⟩⟩
        obtain ⟨i1, d', x', b', e', c', pi', pn', pt', bS', bE', bL', f2', j1, j2, j3, j4, j5, j6, j7⟩ := next_R hP h22 hnl hn1 (M - 1) (n + 1) f1 f2 (D + 1) (b D + 1) b e (fu c D (c D - 1)) (upd pi 9 (nI (b D + 1))) pn (upd pt D (nI (c D - 1))) bS bE (upd bL D (nI (c D - 1))) (by omega) r1 hS' (by omega) (by omega) (by omega)
        rw [if_neg q] at a1 m1
        exact ⟨a2 (fun w => absurd w q) (fun _ => i1), d', x', b', e', c', pi', pn', pt', bS', bE', bL', f2', j1, j2, by omega, by omega, m1.trans j5, fun w => m2 (fun w2 => absurd w2 q) (fun _ => j6 w), by rw [a1]; exact j7⟩
    by_cases qe : ∃ D, d = D + 1 ∧ x = e D
    · obtain ⟨D, h1, h2⟩ := qe
      exact endCase D h1 h2
    · have hne : ∀ j, d = j + 1 → x ≠ e j := fun j hj w => qe ⟨j, hj, w⟩
      by_cases qR : x < R
      · have hm : Mid R d x e := ⟨qR, hne⟩
        obtain ⟨a1, a2⟩ := c_to61 (f := f1) (nl := nl) hP hI hS (n := n) (by omega) hne
        obtain ⟨m1, m2⟩ := m_to98 (f := f2) (now := now) hP hI hS h22 hn1 hm
        obtain ⟨w, w1, w2, w3, w4, w5, w6⟩ := hP.2.1 x qR
        have pw : (po x).toInt = w := by rw [w2, nIz (by omega)]
        by_cases q8 : 8 ≤ w
        · -- a bracket
          obtain ⟨v, v1, v2, v3, v4, v5, v6⟩ := hP.2.2.1 x qR (by omega)
          have hG := mid_G hI hm
          have hd : d < 2 := by have := hP.2.2.2.2.2.1 x qR (by omega); omega
          have h89 : w = 8 ∨ w = 9 := by omega
          have hA : w = 8 → 0 ≤ (pf x).toInt ∧ (pf x).toInt ≤ 20 := fun q => w6.2.2.2.2.2.2.2 q
          obtain ⟨b1, b2⟩ := c_block (f := f1) (nl := nl) hR hS qR hd h89 w2 hA v3 (n := n) (by omega)
          obtain ⟨n1', n2'⟩ := m_block (f := f2) (n := n1) (now := now) (sA := sA) (sB := sB) (o := o) (bS := bS) (bE := bE) (bL := bL) hR qR hd h89 w3 (by rw [w4]; exact hA) v4
          rw [w4, ← hnl] at n1' n2'
          have hT := tn_le (nl := nl) hA
          obtain ⟨s1, s2, s3, s4⟩ := id hS
          generalize tn w (pf x) nl = t at b1 b2 n1' n2' hT
          by_cases q : t = 0
          · obtain ⟨r1, r3⟩ := runI_skip hP hI hm v1 v2 v5 v6
            have hS' : RunS R d v b e c (upd pi 9 (nI v)) pn pt bS bE bL := ⟨by rw [un (by decide)]; exact s1, by rw [un (by decide)]; exact s2, us, s4⟩
            obtain ⟨i1, d', x', b', e', c', pi', pn', pt', bS', bE', bL', f2', j1, j2, j3, j4, j5, j6, j7⟩ := next_R hP h22 hnl hn1 (M - 1) (n + 1) f1 f2 d v b e c (upd pi 9 (nI v)) pn pt bS bE bL (by omega) r1 hS' (by omega) (by omega) (by omega)
            rw [if_pos q] at b1 n1'
            exact ⟨a2 (b2 (fun _ => i1) (fun z => absurd q z)), d', x', b', e', c', pi', pn', pt', bS', bE', bL', f2', j1, j2, by omega, by omega, m1.trans (n1'.trans j5), fun z => m2 (n2' (fun _ => j6 z) (fun z2 => absurd q z2)), by rw [a1, b1]; exact j7⟩
          · obtain ⟨r1, r3⟩ := runI_push hP hI hm hd v1 v2 v5 v6 v3 v4 hT q
            have hS' : RunS R (d + 1) (x + 1) (fu b d x) (fu e d v) (fu c d t) (upd (upd pi 8 (nI (d + 1))) 9 (nI (x + 1))) (upd pn d (nI x)) (upd pt d (nI t)) (upd bS d (nI (x + 1))) (upd bE d (nI v)) (upd bL d (nI t)) := ⟨by rw [un (by decide), un (by decide)]; exact s1, by rw [un (by decide), us], us, fun j hj => by
              by_cases z : j = d
              · subst z
                rw [fus, fus, fus, us, us, us, us, us]
                exact ⟨rfl, rfl, rfl, rfl, rfl⟩
              · rw [fun_ z, fun_ z, fun_ z, un z, un z, un z, un z, un z]
                exact s4 j (by omega)⟩
            obtain ⟨i1, d', x', b', e', c', pi', pn', pt', bS', bE', bL', f2', j1, j2, j3, j4, j5, j6, j7⟩ := next_R hP h22 hnl hn1 (M - 1) (n + 1) f1 f2 (d + 1) (x + 1) (fu b d x) (fu e d v) (fu c d t) (upd (upd pi 8 (nI (d + 1))) 9 (nI (x + 1))) (upd pn d (nI x)) (upd pt d (nI t)) (upd bS d (nI (x + 1))) (upd bE d (nI v)) (upd bL d (nI t)) (by omega) r1 hS' (by omega) (by omega) (by omega)
            rw [if_neg q] at b1 n1'
            exact ⟨a2 (b2 (fun z => absurd z q) (fun _ => i1)), d', x', b', e', c', pi', pn', pt', bS', bE', bL', f2', j1, j2, by omega, by omega, m1.trans (n1'.trans j5), fun z => m2 (n2' (fun z2 => absurd z2 q) (fun _ => j6 z)), by rw [a1, b1]; exact j7⟩
        · -- a call
          obtain ⟨b1, b2⟩ := c_call (f := f1) (n := n) (nl := nl) (pf := pf) (pb := pb) hR hS qR (by omega : w < 8) w2
          exact ⟨a2 b2, d, x, b, e, c, pi, pn, pt, bS, bE, bL, f2 + 1, hI, hS, Nat.le_refl _, Nat.le_refl _, rfl, id, Or.inr ⟨hm, by omega, by rw [a1, b1]⟩⟩
      · -- the end
        obtain ⟨i1, i2, i3, i4, i5⟩ := id hI
        have hd0 : d = 0 := by
          rcases Nat.eq_zero_or_pos d with z | z
          · exact z
          · obtain ⟨D, rfl⟩ : ∃ D, d = D + 1 := ⟨d - 1, by omega⟩
            obtain ⟨u1, u2, u3, -⟩ := i4 D (by omega)
            exact absurd (by omega : x = e D) (hne D rfl)
        have hxR : x = R := by omega
        subst hd0; subst hxR
        obtain ⟨a1, a2⟩ := c_done (po := po) (pf := pf) (pb := pb) (f := f1) (nl := nl) hR hS (n := n) (by omega)
        exact ⟨a2, 0, x, b, e, c, pi, pn, pt, bS, bE, bL, f2 + 1, hI, hS, Nat.le_refl _, Nat.le_refl _, rfl, id, Or.inl ⟨rfl, rfl, a1⟩⟩
end TPH
