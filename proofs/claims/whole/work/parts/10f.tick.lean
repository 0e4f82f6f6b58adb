section CK
variable {T : Int} {r r' : LV} {w0 w1 w2 w3 w4 : IV}
theorem rem_64 {x p : Int64} {X P b c : Int} (hx : E64 x X 0 b) (hp : E64 p P 1 c) : E64 (x - x / p * p) (X % P) 0 b := by
  obtain ⟨rfl, h1, h2⟩ := hx
  obtain ⟨rfl, h3, h4⟩ := hp
  refine ⟨Kit.i64_rem_nonneg h1, Int.emod_nonneg _ (by omega), ?_⟩
  have := Int.emod_lt_of_pos x.toInt (show 0 < p.toInt by omega)
  have h5 := Int.emod_add_mul_ediv x.toInt p.toInt
  have h6 : 0 ≤ p.toInt * (x.toInt / p.toInt) := Int.mul_nonneg (by omega) (Int.ediv_nonneg h1 (by omega))
  omega
theorem rem_32 {x p : Int32} {X P b c : Int} (hx : E32 x X 0 b) (hp : E32 p P 1 c) : E32 (x - x / p * p) (X % P) 0 b := by
  obtain ⟨rfl, h1, h2⟩ := hx
  obtain ⟨rfl, h3, h4⟩ := hp
  have hr := rg32 x
  have h5 := Int.emod_add_mul_ediv x.toInt p.toInt
  have h6 : 0 ≤ p.toInt * (x.toInt / p.toInt) := Int.mul_nonneg (by omega) (Int.ediv_nonneg h1 (by omega))
  have h7 := Int.emod_nonneg x.toInt (show p.toInt ≠ 0 by omega)
  have d1 : (x / p).toInt = x.toInt / p.toInt := by rw [Kit.i32_div (by omega), Int.tdiv_eq_ediv_of_nonneg h1]
  have d2 : (x / p * p).toInt = p.toInt * (x.toInt / p.toInt) := by
    rw [Kit.i32_mul (by rw [d1, Int.mul_comm]; omega) (by rw [d1, Int.mul_comm]; omega), d1, Int.mul_comm]
  refine ⟨?_, h7, by omega⟩
  rw [Kit.i32_sub (by rw [d2]; omega) (by rw [d2]; omega), d2]; omega
/-- a draw's number ahead of the remainder -/
def zsh (v : Int32) : Int := ((v.toUInt32 >>> ((16 : Int32).toUInt32 &&& Int32.toUInt32 31)).toInt32).toInt
theorem zsh_bd (v : Int32) : 0 ≤ zsh v ∧ zsh v ≤ 65535 := by
  have e : ((16 : Int32).toUInt32 &&& Int32.toUInt32 31) = 16 := by decide
  unfold zsh
  rw [e]
  have h1 : (v.toUInt32 >>> 16).toNat < 65536 := by
    rw [UInt32.toNat_shiftRight, Nat.shiftRight_eq_div_pow]
    have := v.toUInt32.toNat_lt
    show v.toUInt32.toNat / 2 ^ 16 < _
    omega
  generalize v.toUInt32 >>> 16 = u at h1
  have h2 : u.toInt32.toInt = (u.toNat : Int) := by
    show u.toBitVec.toInt = u.toBitVec.toNat
    rw [BitVec.toInt_eq_toNat_cond, if_pos (by show 2 * u.toNat < 2 ^ 32; omega)]
  omega
theorem m_draw {p : Int64} {P c : Int} (hp : E64 p P 1 c) (r : LV) : E64 (sp_Mo_draw p r).1 (zsh ((r 28).toInt32 * 1103515245 + 12345) % P) 0 65535 ∧ (sp_Mo_draw p r).2 = vp_updL r 28 ((r 28).toInt32 * 1103515245 + 12345).toInt64 ∧ ok_Mo_draw p r := by
  unfold sp_Mo_draw ok_Mo_draw
  simp only [lett]
  exact ⟨rem_64 (e64_of32 ⟨rfl, zsh_bd _⟩) hp, trivial, e64_ne0 hp (by decide), trivial⟩
theorem c_draw {p : Int32} {P c : Int} (hp : E32 p P 1 c) (ca : IV) : E32 (sp_Ci_draw p ca).1 (zsh (ca 11 * 1103515245 + 12345) % P) 0 65535 ∧ (sp_Ci_draw p ca).2 = upd ca 11 (ca 11 * 1103515245 + 12345) ∧ ok_Ci_draw p ca := by
  have h1 : (1 : Int32) ≤ p := by rw [Int32.le_iff_toInt_le, hp.1]; exact hp.2.1
  have h0 : ¬ p = 0 := by
    intro q; rw [q] at hp
    have h2 := hp.1
    have h3 := hp.2.1
    have : (0 : Int32).toInt = 0 := rfl
    omega
  unfold sp_Ci_draw ok_Ci_draw
  simp only [lett]
  rw [if_pos h1]
  exact ⟨rem_32 ⟨rfl, zsh_bd _⟩ hp, rfl, fun _ => ⟨h0, trivial⟩, fun q => absurd h1 q⟩
/-! ===== the setting ===== -/
theorem zset_bd (h : RowOK T r) : ∀ n, n ≤ 4 → 0 ≤ zset r n ∧ zset r n < (10 ^ n : Nat)
  | 0, _ => by simp [zset]
  | n + 1, hn => by
    have h1 := zset_bd h n (by omega)
    have h2 := (row_dig h (d := n) (by omega)).2
    simp only [zset]
    rw [Nat.pow_succ]
    omega
theorem zset_all (h : RowOK T r) : 0 ≤ zset r (zD r) ∧ zset r (zD r) ≤ 9999 ∧ zset r (zD r) < (10 ^ zD r : Nat) := by
  have hD := zD_bd h
  have h1 := zset_bd h (zD r) hD.2.1
  have h2 := p10 (zD r) (by omega)
  omega
theorem m_setting_loop (h : RowOK T r) : ∀ (k f i : Nat) (acc : Int32), i + k = zD r → k < f → acc.toInt = zset r i → ok_Mo_setting_4 r f acc (nI i) ∧ (sp_Mo_setting_4 r f acc (nI i)).toInt = zset r (zD r)
  | k, 0, _, _, _, hf, _ => absurd hf (by omega)
  | 0, f + 1, i, acc, hk, _, ha => by
    have hD := zD_bd h
    show okb_Mo_setting_4 _ _ _ _ _ ∧ (bd_Mo_setting_4 _ _ _ _).toInt = _
    unfold okb_Mo_setting_4 bd_Mo_setting_4
    simp only [lett]
    have hc : sp_Mo_decades r ≤ nI i := by rw [m_decades h, nzle (by omega) (by omega)]; omega
    rw [if_pos hc]
    exact ⟨⟨fun _ => trivial, fun q => absurd hc q⟩, by rw [ha]; congr 1⟩
  | k + 1, f + 1, i, acc, hk, hf, ha => by
    have hD := zD_bd h
    show okb_Mo_setting_4 _ _ _ _ _ ∧ (bd_Mo_setting_4 _ _ _ _).toInt = _
    unfold okb_Mo_setting_4 bd_Mo_setting_4
    simp only [lett]
    have hc : ¬ sp_Mo_decades r ≤ nI i := by rw [m_decades h, nzle (by omega) (by omega)]; omega
    rw [if_neg hc, show (33 : Int32) + nI i = nI (33 + i) from by rw [show (33 : Int32) = nI 33 from rfl, nzadd _ _ (by omega)], cl_nI (by omega), nzadd1 i (by omega)]
    have hb := zset_bd h i (by omega)
    have hb2 : (10 : Nat) ^ i ≤ 1000 := (show ∀ k, k < 4 → (10 : Nat) ^ k ≤ 1000 by decide) i (by omega)
    have k1 : E32 acc (zset r i) 0 999 := ⟨ha, hb.1, by omega⟩
    have k2 := e32_mul 0 9990 (e32_lit 10 (10 : Int32) rfl) k1 (by decide) (by decide) (by decide)
    have k3 := e32_add k2 (e32_of64 (row_dig h (d := i) (by omega)) (by decide) (by decide)) (by decide) (by decide)
    have := m_setting_loop h k f (i + 1) ((10 : Int32) * acc + (r (33 + i)).toInt32) (by omega) (by omega) (by rw [k3.1]; rfl)
    exact ⟨⟨fun q => absurd q hc, fun _ => ⟨vp_nI (by omega) (by decide), this.1⟩⟩, this.2⟩
theorem m_setting (h : RowOK T r) : E32 (sp_Mo_setting r) (zset r (zD r)) 0 9999 ∧ ok_Mo_setting r := by
  have := m_setting_loop h (zD r) big 0 0 (by omega) (by have := zD_bd h; rw [big_eq]; omega) rfl
  have hb := zset_all h
  exact ⟨⟨this.2, hb.1, hb.2.1⟩, this.1⟩
theorem zset_cong : ∀ n, (∀ d, d < n → r' (33 + d) = r (33 + d)) → zset r' n = zset r n
  | 0, _ => rfl
  | n + 1, h => by simp only [zset]; rw [zset_cong n (fun d hd => h d (by omega)), zr, zr, h n (by omega)]
theorem m_lay_loop : ∀ (n f : Nat) (s x : Int32) (S : Int) (r : LV), n ≤ 4 → n < f → E32 s S 0 9999 → S < (10 ^ n : Nat) → x.toInt = n - 1 →
    ok_Mo_laySetting_9 f s x r ∧ (∀ k, (k < 33 ∨ 33 + n ≤ k) → sp_Mo_laySetting_9 f s x r k = r k) ∧ (∀ d, d < n → 0 ≤ zr (sp_Mo_laySetting_9 f s x r) (33 + d) ∧ zr (sp_Mo_laySetting_9 f s x r) (33 + d) ≤ 9) ∧ zset (sp_Mo_laySetting_9 f s x r) n = S
  | n, 0, _, _, _, _, _, hf, _, _, _ => absurd hf (by omega)
  | 0, f + 1, s, x, S, r, _, _, hs, hS, hx => by
    have hx0 : x < 0 := by rw [Int32.lt_iff_toInt_lt, hx]; decide
    show okb_Mo_laySetting_9 _ _ _ _ _ ∧ (∀ k, _ → bd_Mo_laySetting_9 _ _ _ _ k = r k) ∧ (∀ d, d < 0 → _) ∧ zset (bd_Mo_laySetting_9 _ _ _ _) 0 = S
    unfold okb_Mo_laySetting_9 bd_Mo_laySetting_9
    rw [if_pos hx0]
    refine ⟨⟨fun _ => trivial, fun q => absurd hx0 q⟩, fun _ _ => rfl, fun d hd => absurd hd (by omega), ?_⟩
    have := hs.2.1
    have : ((10 ^ 0 : Nat) : Int) = 1 := rfl
    show (0 : Int) = S
    omega
  | n + 1, f + 1, s, x, S, r, hn, hf, hs, hS, hx => by
    have hx0 : ¬ x < 0 := by rw [Int32.lt_iff_toInt_lt, hx]; show ¬ ((n + 1 : Nat) : Int) - 1 < 0; omega
    have hxn : x = nI n := nIo (by rw [hx]; omega)
    show okb_Mo_laySetting_9 _ _ _ _ _ ∧ (∀ k, _ → bd_Mo_laySetting_9 _ _ _ _ k = r k) ∧ (∀ d, d < n + 1 → 0 ≤ zr (bd_Mo_laySetting_9 _ _ _ _) (33 + d) ∧ zr (bd_Mo_laySetting_9 _ _ _ _) (33 + d) ≤ 9) ∧ zset (bd_Mo_laySetting_9 _ _ _ _) (n + 1) = S
    unfold okb_Mo_laySetting_9 bd_Mo_laySetting_9
    rw [if_neg hx0]
    simp only [lett]
    have e3 : (33 : Int32) + x = nI (33 + n) := by rw [hxn, show (33 : Int32) = nI 33 from rfl, nzadd _ _ (by omega)]
    rw [e3, cl_nI (by omega)]
    obtain ⟨h3, h4⟩ := rem10 hs
    have hx1 : (x + (-1 : Int32)).toInt = n - 1 := by
      rw [Kit.i32_add (by rw [hx]; show -2147483648 ≤ _ + (-1 : Int); omega) (by rw [hx]; show _ + (-1 : Int) < 2147483648; omega), hx]; show ((n + 1 : Nat) : Int) - 1 + (-1) = _; omega
    rw [Nat.pow_succ] at hS
    obtain ⟨g1, g2, g3, g4⟩ := m_lay_loop n f (s / (10 : Int32)) (x + (-1 : Int32)) (S / 10) (vp_updL r (33 + n) (s - s / (10 : Int32) * (10 : Int32)).toInt64) (by omega) (by omega) h4 (by omega) hx1
    have en : zr (sp_Mo_laySetting_9 f (s / (10 : Int32)) (x + (-1 : Int32)) (vp_updL r (33 + n) (s - s / (10 : Int32) * (10 : Int32)).toInt64)) (33 + n) = S % 10 := by
      show (sp_Mo_laySetting_9 f (s / (10 : Int32)) (x + (-1 : Int32)) (vp_updL r (33 + n) (s - s / (10 : Int32) * (10 : Int32)).toInt64) (33 + n)).toInt = _
      rw [g2 (33 + n) (by omega), uLs, Kit.i64_of_i32, h3.1]
    refine ⟨⟨fun q => absurd q hx0, fun _ => ⟨vp_nI (by omega) (by decide), g1⟩⟩, fun k hk => ?_, fun d hd => ?_, ?_⟩
    · rw [g2 k (by omega), uLn (by omega)]
    · rcases Nat.lt_or_eq_of_le (show d ≤ n by omega) with q | q
      · exact g3 d q
      · subst q; rw [en]; omega
    · simp only [zset]; rw [g4, en]; omega
/-- the digits are laid -/
theorem m_lay (h : RowOK T r) {s : Int32} {S : Int} (hs : E32 s S 0 9999) (hS : S < (10 ^ zD r : Nat)) : ok_Mo_laySetting s r ∧ (∀ k, (k < 33 ∨ 37 ≤ k) → sp_Mo_laySetting s r k = r k) ∧ RowOK T (sp_Mo_laySetting s r) ∧ PSame r (sp_Mo_laySetting s r) ∧ zset (sp_Mo_laySetting s r) (zD r) = S := by
  have hD := zD_bd h
  obtain ⟨g1, g2, g3, g4⟩ := m_lay_loop (zD r) big s (sp_Mo_decades r - 1) S r hD.2.1 (by rw [big_eq]; omega) hs hS (by
    rw [m_decades h, Kit.i32_sub (by rw [nIz (by omega)]; show -2147483648 ≤ _ - (1 : Int); omega) (by rw [nIz (by omega)]; show _ - (1 : Int) < 2147483648; omega), nIz (by omega)]; rfl)
  have hk : ∀ k, (k < 33 ∨ 37 ≤ k) → sp_Mo_laySetting s r k = r k := fun k hk => g2 k (by omega)
  refine ⟨g1, hk, ⟨fun k hk2 => ?_, fun i j hi hz hj => ?_⟩, fun k h1 _ => hk k (by omega), g4⟩
  · by_cases q : k < 33 ∨ 33 + zD r ≤ k
    · show rLo k ≤ (sp_Mo_laySetting s r k).toInt ∧ (sp_Mo_laySetting s r k).toInt ≤ _
      rw [show sp_Mo_laySetting s r k = r k from g2 k q]; exact h.1 k hk2
    · have e : k = 33 + (k - 33) := by omega
      rw [e, (rLo_err (k - 33) (by omega)).2, (rHi_err T (k - 33) (by omega)).2]
      exact g3 (k - 33) (by omega)
  · rw [zr, hk 54 (by omega)] at hz
    rw [zr, hk (55 + 8 * i + j) (by omega)]
    exact h.2 i j hi hz hj
/-! ===== the row's own deflection, current, power ===== -/
theorem row_f (h : RowOK T r) : r 29 = lN (zr r 29).toNat ∧ (zr r 29).toNat < 5 ∧ r 30 = lN (zr r 30).toNat ∧ (zr r 30).toNat < 5 ∧ (zr r 32 = 2 ∨ zr r 32 = 3) := by
  have h1 := (row_w h 29 0 4 rfl rfl).2
  have h2 := (row_w h 30 0 4 rfl rfl).2
  have h3 := (row_w h 32 2 3 rfl rfl).2
  refine ⟨Int64.toInt_inj.mp (by rw [lNz (by omega)]; show zr r 29 = _; omega), by omega, Int64.toInt_inj.mp (by rw [lNz (by omega)]; show zr r 30 = _; omega), by omega, by omega⟩
abbrev zS (r : LV) : Int := zset r (zD r)
abbrev zf (r : LV) : Nat := (zr r 29).toNat
abbrev zg (r : LV) : Nat := (zr r 30).toNat
theorem m_plainNow (h : RowOK T r) {s : Int32} {S : Int} (hs : E32 s S 0 9999) : E64 (sp_Mo_plainNow s r) (zdefl r S (zf r) (zg r) (zr r 32)) (-20000000000) 20000000000 ∧ ok_Mo_plainNow s r := by
  obtain ⟨h1, h2, h3, h4, h5⟩ := row_f h
  unfold sp_Mo_plainNow ok_Mo_plainNow
  simp only [lett]
  have := m_defl h (ld := r 32) (L := zr r 32) (row_w h 32 2 3 rfl rfl) hs h2 h4
  rw [← h1, ← h3] at this
  exact ⟨this.1, this.2, trivial⟩
theorem m_deflNow (h : RowOK T r) : E64 (sp_Mo_deflectionNow r) (if zr r 31 = 1 then -zdefl r (zS r) (zf r) (zg r) (zr r 32) else zdefl r (zS r) (zf r) (zg r) (zr r 32)) (-20000000000) 20000000000 ∧ ok_Mo_deflectionNow r := by
  obtain ⟨h1, h2⟩ := m_setting h
  obtain ⟨h3, h4⟩ := m_plainNow h h1
  unfold sp_Mo_deflectionNow ok_Mo_deflectionNow
  simp only [lett]
  refine ⟨?_, h2, h4, trivial⟩
  have hc : r 31 = (1 : Int64) ↔ zr r 31 = 1 := by rw [← Int64.toInt_inj]; exact Iff.rfl
  by_cases q : r 31 = (1 : Int64)
  · rw [if_pos q, if_pos (hc.mp q)]; exact e64_neg h3 (by decide)
  · rw [if_neg q, if_neg (fun w => q (hc.mpr w))]; exact h3
theorem m_cur (h : RowOK T r) : E64 (sp_Mo_currentNow r) (zamp r (zS r) (zr r 32)) 0 20000000000 ∧ ok_Mo_currentNow r := by
  obtain ⟨h1, h2⟩ := m_setting h
  have hl := row_w h 32 2 3 rfl rfl
  obtain ⟨h3, h4⟩ := m_bs h hl h1
  have h5 := m_us h hl
  unfold sp_Mo_currentNow ok_Mo_currentNow
  simp only [lett]
  have k2 := e64_add h3 h5 (by decide) (by decide)
  have k4 := e64_mul 0 20000000000 (e64_lit 1000000 (1000000 : Int64) rfl) (row_w h 22 0 20000 rfl rfl) (by decide) (by decide) (by decide)
  exact ⟨e64_div 0 20000000000 k4 k2 (by decide) (by decide) (by decide) (by decide) (by decide), h2, h4, e64_ne0 k2 (by decide), trivial⟩
theorem m_pow (h : RowOK T r) (p : Int32) : E64 (sp_Mo_powerOf p r) (zpw (zamp r (zS r) (zr r 32)) (if p = 0 then zuw r else zbw r (zS r))) 0 720001798000 ∧ ok_Mo_powerOf p r := by
  obtain ⟨h1, h2⟩ := m_cur h
  obtain ⟨h3, h4⟩ := m_setting h
  obtain ⟨h5, h6⟩ := m_bw h h3
  have h7 := m_uw h
  unfold sp_Mo_powerOf ok_Mo_powerOf sp_Mo_powerOf_37 zpw
  simp only [lett]
  have k0 : E64 (if sp_Mo_currentNow r < (1000000 : Int64) then sp_Mo_currentNow r else (1000000 : Int64)) (if zamp r (zS r) (zr r 32) ≤ 1000000 then zamp r (zS r) (zr r 32) else 1000000) 0 1000000 := by
    have e := ltc h1 (1000000 : Int64) 1000000 rfl
    by_cases q : sp_Mo_currentNow r < (1000000 : Int64)
    · have := e.mp q
      rw [if_pos q, if_pos (by omega)]; exact ⟨h1.1, h1.2.1, by omega⟩
    · rw [if_neg q]
      by_cases q2 : zamp r (zS r) (zr r 32) ≤ 1000000
      · have : ¬ zamp r (zS r) (zr r 32) < 1000000 := fun w => q (e.mpr w)
        rw [if_pos q2, show zamp r (zS r) (zr r 32) = 1000000 by omega]; exact ⟨rfl, by decide, by decide⟩
      · rw [if_neg q2]; exact ⟨rfl, by decide, by decide⟩
  by_cases q : p = 0
  · rw [if_pos q, if_pos q]
    exact ⟨pw_core k0 (e64_w 0 720001798 h7 (by decide) (by decide)), h2, fun _ => trivial, fun w => absurd q w⟩
  · rw [if_neg q, if_neg q]
    exact ⟨pw_core k0 h5, h2, fun w => absurd w q, fun _ => ⟨h4, h6, trivial⟩⟩
/-- the two temperatures behind a tick -/
def zH1 (r : LV) (on : Int32) (S L : Int) : Int := zheat (zr r 37) (if on = 0 then 0 else zpw (zamp r S L) (zuw r)) (zr r 14) (zr r 15)
def zH2 (r : LV) (on : Int32) (S L : Int) : Int := zheat (zr r 38) (if on = 0 then 0 else zpw (zamp r S L) (zbw r S)) (zr r 17) (zr r 18)
theorem m_heated (h : RowOK T r) {p t : Int64} {X P : Int} (ht : E64 t X 0 200000) (hp : E64 p P 0 720001798000) : E64 (sp_Mo_heated 13 t p r) (zheat X P (zr r 14) (zr r 15)) 0 200000 ∧ E64 (sp_Mo_heated 16 t p r) (zheat X P (zr r 17) (zr r 18)) 0 200000 ∧ ok_Mo_heated 13 t p ∧ ok_Mo_heated 16 t p := by
  have k1 := m_bound (heat_core ht hp (row_w h 14 0 999 rfl rfl) (row_w h 15 0 99 rfl rfl)) (show (0 : Int64).toInt = 0 from rfl) (show (200000 : Int64).toInt = 200000 from rfl) (by decide)
  have k2 := m_bound (heat_core ht hp (row_w h 17 0 999 rfl rfl) (row_w h 18 0 99 rfl rfl)) (show (0 : Int64).toInt = 0 from rfl) (show (200000 : Int64).toInt = 200000 from rfl) (by decide)
  refine ⟨k1, k2, ⟨?_, ?_, trivial⟩, ⟨?_, ?_, trivial⟩⟩ <;> exact vp_of (by decide) (by decide)
end CK
