section CJ
variable {T : Int} {r r' : LV} {w0 w1 w2 w3 w4 : IV}
/-! ===== what depends on the parts alone ===== -/
def PSame (r r' : LV) : Prop := ∀ k, k < 27 → k ≠ 22 → r' k = r k
theorem ps_upd {r : LV} (k : Nat) (x : Int64) (hk : 27 ≤ k ∨ k = 22) : PSame r (vp_updL r k x) := fun j h1 h2 => uLn (by omega)
theorem ps_trans {a b c : LV} (h : PSame a b) (h2 : PSame b c) : PSame a c := fun k h3 h4 => (h2 k h3 h4).trans (h k h3 h4)
theorem ps_rf (a : LV) : PSame a a := fun _ _ _ => rfl
theorem ps_D (h : PSame r r') : zD r' = zD r := by unfold zD zr; rw [h 0 (by decide) (by decide)]
theorem ps_step (h : PSame r r') (d : Nat) : zstep r' d = zstep r d := by unfold zstep zr; rw [ps_D h, h 1 (by decide) (by decide)]
theorem ps_cs (h : PSame r r') : ∀ n, n ≤ 4 → ∀ s, zcs r' n s = zcs r n s
  | 0, _, _ => rfl
  | n + 1, hn, s => by simp only [zcs]; rw [ps_step h, ps_cs h n (by omega), zr, zr, h (3 + n) (by omega) (by omega)]
theorem ps_cold (h : PSame r r') (hD : zD r ≤ 4) (s : Int) : zcold r' s = zcold r s := by unfold zcold; rw [ps_D h, ps_cs h _ hD, zr, zr, h 2 (by decide) (by decide)]
theorem ps_ohm (h : PSame r r') {k : Nat} (hk : k < 5) : zohm r' k = zohm r k := by unfold zohm zr; rw [h (7 + k) (by omega) (by omega)]
theorem ps_ash (h : PSame r r') {f g : Nat} (hf : f < 5) (hg : g < 5) : zash r' f g = zash r f g := by unfold zash; rw [ps_ohm h hf, ps_ohm h hg]
theorem ps_PR (h : PSame r r') (hp : PR w0 w1 w2 w3 w4 r) : PR w0 w1 w2 w3 w4 r' := fun k h1 h2 => by rw [zr, h k h1 h2]; exact hp k h1 h2
theorem ps_uw (h : PSame r r') (h2 : r' 37 = r 37) : zuw r' = zuw r := by unfold zuw zr; rw [h 12 (by decide) (by decide), h 13 (by decide) (by decide), h2]
theorem ps_bw (h : PSame r r') (hD : zD r ≤ 4) (h2 : r' 38 = r 38) (s : Int) : zbw r' s = zbw r s := by unfold zbw; rw [ps_cold h hD, zr, zr, h 16 (by decide) (by decide), h2]
theorem ps_us (h : PSame r r') (h2 : r' 37 = r 37) (L : Int) : zus r' L = zus r L := by unfold zus; rw [ps_uw h h2, zr, zr, zr, zr, h 19 (by decide) (by decide), h 20 (by decide) (by decide)]
theorem ps_bs (h : PSame r r') (hD : zD r ≤ 4) (h2 : r' 38 = r 38) (s L : Int) : zbs r' s L = zbs r s L := by unfold zbs; rw [ps_bw h hD h2, zr, zr, h 20 (by decide) (by decide)]
theorem ps_ush (h : PSame r r') (hD : zD r ≤ 4) (h1 : r' 37 = r 37) (h2 : r' 38 = r 38) (s L : Int) : zush r' s L = zush r s L := by unfold zush; rw [ps_us h h1, ps_bs h hD h2]
theorem ps_defl (h : PSame r r') (hD : zD r ≤ 4) (h0 : r' 22 = r 22) (h1 : r' 37 = r 37) (h2 : r' 38 = r 38) (s L : Int) {f g : Nat} (hf : f < 5) (hg : g < 5) : zdefl r' s f g L = zdefl r s f g L := by unfold zdefl; rw [ps_ush h hD h1 h2, ps_ash h hf hg, zr, zr, h0]
/-- the same circuit by another row -/
theorem ci_ps {ca : IV} {S L : Int} {f g : Nat} (hc : CiR ca r S f g L) (h : PSame r r') (hD : zD r ≤ 4) (h0 : r' 22 = r 22) (h1 : r' 37 = r 37) (h2 : r' 38 = r 38) : CiR ca r' S f g L := by
  obtain ⟨c1, c2, c3, c4, c5, c6, c7, c8, c9, c10, c11, c12, c13, c14, c15, c16, c17⟩ := hc
  refine ⟨c1, c2, c3, c4, c5, c6, c7, c8, ?_, ?_, ?_, ?_, ?_, ?_, ?_, ?_, ?_⟩
  · rw [zr, h0]; exact c9
  · rw [zr, h1]; exact c10
  · rw [zr, h2]; exact c11
  · rw [ps_ash h c4 c6]; exact c12
  · rw [ps_cold h hD]; exact c13
  · rw [ps_uw h h1]; exact c14
  · rw [ps_bw h hD h2]; exact c15
  · rw [ps_us h h1]; exact c16
  · rw [ps_bs h hD h2]; exact c17
/-! ===== deflection, current, power ===== -/
def zamp (r : LV) (S L : Int) : Int := (1000000 * zr r 22).tdiv (zbs r S L + zus r L)
def zpw (c w : Int) : Int := (((if c ≤ 1000000 then c else 1000000) * (if c ≤ 1000000 then c else 1000000)).tdiv 1000 * w).tdiv 1000000
theorem nI_S {S : Int} (hS : 0 ≤ S ∧ S ≤ 9999) : E32 (nI S.toNat) S 0 9999 := ⟨by rw [nIz (by omega)]; omega, hS⟩
theorem el_of {L : Int} (hL : L = 2 ∨ L = 3) : E64 (lN L.toNat) L 2 3 := ⟨by rw [lNz (by omega)]; omega, by omega, by omega⟩
theorem zbs_bd (h : RowOK T r) {S L : Int} (hS : 0 ≤ S ∧ S ≤ 9999) (hL : L = 2 ∨ L = 3) : 0 ≤ zbs r S L ∧ zbs r S L ≤ 720101797 := (m_bs h (el_of hL) (nI_S hS)).1.2
theorem zus_bd (h : RowOK T r) {L : Int} (hL : L = 2 ∨ L = 3) : 200 ≤ zus r L ∧ zus r L ≤ 180199998 := (m_us h (el_of hL)).2
theorem zbw_bd (h : RowOK T r) {S : Int} (hS : 0 ≤ S ∧ S ≤ 9999) : 0 ≤ zbw r S ∧ zbw r S ≤ 720001798 := (m_bw h (nI_S hS)).1.2
theorem zuw_bd (h : RowOK T r) : 200 ≤ zuw r ∧ zuw r ≤ 180000000 := (m_uw h).2
theorem zcold_bd (h : RowOK T r) {S : Int} (hS : 0 ≤ S ∧ S ≤ 9999) : 0 ≤ zcold r S ∧ zcold r S ≤ 400000999 := (m_cold h (nI_S hS)).1.2
theorem zash_bd (h : RowOK T r) {f g : Nat} (hf : f < 5) (hg : g < 5) : 0 ≤ zash r f g ∧ zash r f g ≤ 1000000000 := (m_ash h hf hg).1.2
theorem zohm_bd (h : RowOK T r) {k : Nat} (hk : k < 5) : 950 ≤ zohm r k ∧ zohm r k ≤ 10500000 := (m_ohm h hk).1.2
theorem c_share (h : RowOK T r) {ca : IV} {S L : Int} {f g : Nat} (hc : CiR ca r S f g L) : E32 (sp_Ci_unknownShare ca) (zush r S L) 0 1000000000 := by
  obtain ⟨c1, c2, c3, c4, c5, c6, c7, c8, c9, c10, c11, c12, c13, c14, c15, c16, c17⟩ := hc
  have k0 : E64 (ca 18).toInt64 (zbs r S L) 0 720101797 := e64_of32 ⟨c17, zbs_bd h c2 c8⟩
  have k1 : E64 (ca 17).toInt64 (zus r L) 200 180199998 := e64_of32 ⟨c16, zus_bd h c8⟩
  have k2 := e64_add k0 k1 (by decide) (by decide)
  unfold sp_Ci_unknownShare zush
  simp only [lett]
  rw [if_neg (e64_ne0 k2 (by decide))]
  have k3 := e64_mul 0 180199998000000000 (e64_lit 1000000000 (1000000000 : Int64) rfl) k1 (by decide) (by decide) (by decide)
  have k4 := e64_div 0 180199998000000000 k3 k2 (by decide) (by decide) (by decide) (by decide) (by decide)
  have k5 := share_bd (u := zus r L) (b := zbs r S L) (by have := k1.2; omega) k0.2.1
  exact e32_of64 ⟨k4.1, k5⟩ (by decide) (by decide)
theorem c_imb (h : RowOK T r) {ca : IV} {S L : Int} {f g : Nat} (hc : CiR ca r S f g L) : E64 (sp_Ci_imbalance ca) (if ca 6 = 0 then zdefl r S f g L else -zdefl r S f g L) (-20000000000) 20000000000 := by
  have k0 := c_share h hc
  obtain ⟨c1, c2, c3, c4, c5, c6, c7, c8, c9, c10, c11, c12, c13, c14, c15, c16, c17⟩ := hc
  have k1 : E32 (ca 13) (zash r f g) 0 1000000000 := ⟨c12, zash_bd h c4 c6⟩
  have k2 := e64_of32 (e32_sub k0 k1 (by decide) (by decide))
  have k3 : E64 (ca 3).toInt64 (zr r 22) 0 20000 := e64_of32 ⟨c9, (row_w h 22 0 20000 rfl rfl).2⟩
  have k4 := e64_mul (-20000000000000) 20000000000000 k3 k2 (by decide) (by decide) (by decide)
  have k5 := e64_divc 1000 (-20000000000) 20000000000 k4 (show (1000 : Int64).toInt = _ from rfl) (by decide) rfl rfl
  unfold sp_Ci_imbalance
  simp only [lett]
  by_cases q : ca 6 = 0
  · rw [if_pos q, if_pos q]; exact k5
  · rw [if_neg q, if_neg q]; exact e64_neg k5 (by decide)
theorem zamp_bd (h : RowOK T r) {S L : Int} (hS : 0 ≤ S ∧ S ≤ 9999) (hL : L = 2 ∨ L = 3) : 0 ≤ zamp r S L ∧ zamp r S L ≤ 20000000000 := by
  have h1 := zbs_bd h hS hL
  have h2 := zus_bd h hL
  have h3 := (row_w h 22 0 20000 rfl rfl).2
  unfold zamp
  refine ⟨Int.tdiv_nonneg (by omega) (by omega), Int.le_trans (Int.tdiv_le_self _ (by omega)) (by omega)⟩
theorem c_amp (h : RowOK T r) {ca : IV} {S L : Int} {f g : Nat} (hc : CiR ca r S f g L) : E64 (sp_Ci_amperes ca) (zamp r S L) 0 20000000000 := by
  obtain ⟨c1, c2, c3, c4, c5, c6, c7, c8, c9, c10, c11, c12, c13, c14, c15, c16, c17⟩ := hc
  have k0 : E64 (ca 18).toInt64 (zbs r S L) 0 720101797 := e64_of32 ⟨c17, zbs_bd h c2 c8⟩
  have k1 : E64 (ca 17).toInt64 (zus r L) 200 180199998 := e64_of32 ⟨c16, zus_bd h c8⟩
  have k2 := e64_add k0 k1 (by decide) (by decide)
  have k3 : E64 (ca 3).toInt64 (zr r 22) 0 20000 := e64_of32 ⟨c9, (row_w h 22 0 20000 rfl rfl).2⟩
  unfold sp_Ci_amperes
  simp only [lett]
  rw [if_neg (e64_ne0 k2 (by decide))]
  have k4 := e64_mul 0 20000000000 (e64_lit 1000000 (1000000 : Int64) rfl) k3 (by decide) (by decide) (by decide)
  exact e64_div 0 20000000000 k4 k2 (by decide) (by decide) (by decide) (by decide) (by decide)
/-- the power by a current, once the current is within its bounds -/
theorem pw_core {c w : Int64} {C W : Int} (hc : E64 c C 0 1000000) (hw : E64 w W 0 720001798) : E64 ((((c * c) / (1000 : Int64)) * w) / (1000000 : Int64)) (((C * C).tdiv 1000 * W).tdiv 1000000) 0 720001798000 := by
  have k1 := e64_mul 0 1000000000000 hc hc (by decide) (by decide) (by decide)
  have k2 := e64_divc 1000 0 1000000000 k1 (show (1000 : Int64).toInt = _ from rfl) (by decide) rfl rfl
  have k3 := e64_mul 0 720001798000000000 k2 hw (by decide) (by decide) (by decide)
  exact e64_divc 1000000 0 720001798000 k3 (show (1000000 : Int64).toInt = _ from rfl) (by decide) rfl rfl
theorem lec {c : Int64} {C a b : Int} (h : E64 c C a b) (n : Int64) (N : Int) (hn : n.toInt = N) : c ≤ n ↔ C ≤ N := by rw [Int64.le_iff_toInt_le, h.1, hn]
theorem ltc {c : Int64} {C a b : Int} (h : E64 c C a b) (n : Int64) (N : Int) (hn : n.toInt = N) : c < n ↔ C < N := by rw [Int64.lt_iff_toInt_lt, h.1, hn]
theorem cle {c : Int64} {C a b : Int} (h : E64 c C a b) (n : Int64) (N : Int) (hn : n.toInt = N) : n ≤ c ↔ N ≤ C := by rw [Int64.le_iff_toInt_le, h.1, hn]
theorem clt {c : Int64} {C a b : Int} (h : E64 c C a b) (n : Int64) (N : Int) (hn : n.toInt = N) : n < c ↔ N < C := by rw [Int64.lt_iff_toInt_lt, h.1, hn]
theorem c_pw {c : Int64} {w : Int32} {C W : Int} (hc : E64 c C 0 20000000000) (hw : E32 w W 0 720001798) : E64 (sp_Ci_powerBy c w) (zpw C W) 0 720001798000 := by
  unfold sp_Ci_powerBy sp_Ci_powerBy_15 zpw
  have e := lec hc (1000000 : Int64) 1000000 rfl
  by_cases q : c ≤ (1000000 : Int64)
  · rw [if_pos q, if_pos (e.mp q)]
    exact pw_core ⟨hc.1, hc.2.1, e.mp q⟩ (e64_of32 hw)
  · rw [if_neg q, if_neg (fun w => q (e.mpr w))]
    exact pw_core ⟨rfl, by decide, by decide⟩ (e64_of32 hw)
def zheat (t p wm cl : Int) : Int := if 0 ≤ t + (p * wm).tdiv 1000 - (t * cl).tdiv 100 then (if t + (p * wm).tdiv 1000 - (t * cl).tdiv 100 ≤ 200000 then t + (p * wm).tdiv 1000 - (t * cl).tdiv 100 else 200000) else 0
theorem heat_core {t p wm cl : Int64} {X P M N : Int} (ht : E64 t X 0 200000) (hp : E64 p P 0 720001798000) (hm : E64 wm M 0 999) (hn : E64 cl N 0 99) : E64 ((t + ((p * wm) / (1000 : Int64))) - ((t * cl) / (100 : Int64))) (X + (P * M).tdiv 1000 - (X * N).tdiv 100) (-1000000) 1000000000000 := by
  have k1 := e64_mul 0 720000000000000 hp hm (by decide) (by decide) (by decide)
  have k2 := e64_divc 1000 0 720000000000 k1 (show (1000 : Int64).toInt = _ from rfl) (by decide) rfl rfl
  have k3 := e64_mul 0 19800000 ht hn (by decide) (by decide) (by decide)
  have k4 := e64_divc 100 0 198000 k3 (show (100 : Int64).toInt = _ from rfl) (by decide) rfl rfl
  exact e64_w _ _ (e64_sub (e64_add ht k2 (by decide) (by decide)) k4 (by decide) (by decide)) (by decide) (by decide)
theorem zheat_bd (t p wm cl : Int) : 0 ≤ zheat t p wm cl ∧ zheat t p wm cl ≤ 200000 := by
  unfold zheat
  by_cases q : 0 ≤ t + (p * wm).tdiv 1000 - (t * cl).tdiv 100
  · rw [if_pos q]
    by_cases q2 : t + (p * wm).tdiv 1000 - (t * cl).tdiv 100 ≤ 200000
    · rw [if_pos q2]; exact ⟨q, q2⟩
    · rw [if_neg q2]; decide
  · rw [if_neg q]; decide
theorem c_heat {t : Int32} {p : Int64} {hw : IV} {X P M N : Int} (ht : E32 t X 0 200000) (hp : E64 p P 0 720001798000) (hm : E32 (hw 1) M 0 999) (hn : E32 (hw 2) N 0 99) : E32 (sp_He_behindTick t p hw) (zheat X P M N) 0 200000 := by
  have k := heat_core (e64_of32 ht) hp (e64_of32 hm) (e64_of32 hn)
  unfold sp_He_behindTick
  simp only [lett]
  refine ⟨?_, zheat_bd X P M N⟩
  unfold zheat
  have e1 := cle k (0 : Int64) 0 rfl
  have e2 := lec k (200000 : Int64) 200000 rfl
  by_cases q : 0 ≤ X + (P * M).tdiv 1000 - (X * N).tdiv 100
  · rw [if_pos q, if_pos (e1.mpr q)]
    by_cases q2 : X + (P * M).tdiv 1000 - (X * N).tdiv 100 ≤ 200000
    · rw [if_pos q2, if_pos (e2.mpr q2)]
      exact (e32_of64 (X := X + (P * M).tdiv 1000 - (X * N).tdiv 100) (a := 0) (b := 200000) ⟨k.1, q, q2⟩ (by decide) (by decide)).1
    · rw [if_neg q2, if_neg (fun w => q2 (e2.mp w))]; rfl
  · rw [if_neg q, if_neg (fun w => q (e1.mp w))]; rfl
theorem m_bound {v a b : Int64} {V A B x y : Int} (hv : E64 v V x y) (ha : a.toInt = A) (hb : b.toInt = B) (hab : A ≤ B) : E64 (sp_Mo_bound v a b) (if A ≤ V then (if V ≤ B then V else B) else A) A B := by
  unfold sp_Mo_bound
  have e1 := cle hv a A ha
  have e2 := lec hv b B hb
  by_cases q : A ≤ V
  · rw [if_pos q, if_pos (e1.mpr q)]
    by_cases q2 : V ≤ B
    · rw [if_pos q2, if_pos (e2.mpr q2)]; exact ⟨hv.1, q, q2⟩
    · rw [if_neg q2, if_neg (fun w => q2 (e2.mp w))]; exact ⟨hb, hab, Int.le_refl _⟩
  · rw [if_neg q, if_neg (fun w => q (e1.mp w))]; exact ⟨ha, Int.le_refl _, hab⟩
end CJ
