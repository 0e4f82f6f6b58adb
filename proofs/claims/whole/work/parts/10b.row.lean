/-! ===== pure: the row of a bridge, its bounds ===== -/
abbrev zr (r : LV) (k : Nat) : Int := (r k).toInt
/-- least values of the row's places 0 to 54 -/
def rLo (k : Nat) : Int := ([2, 1, 0, -50000, -50000, -50000, -50000, -50000, -50000, -50000, -50000, -50000, 1000, -4000, 0, 0, -4000, 0, 0, 0, 0, 0, 0, 1, 1, 0, 0, -99999, -2147483648, 0, 0, 0, 2, 0, 0, 0, 0, 0, 0, 0, -9223372036854775808, 0, 0, 0, -9999999, -9999999, -9999999, -9999999, -9999999, -9999999, -9999999, -9999999, -9999999, -9999999, 0] : List Int).getD k 0
/-- greatest ones; T: of the time and the counts -/
def rHi (T : Int) (k : Nat) : Int := ([4, 10000, 999, 50000, 50000, 50000, 50000, 50000, 50000, 50000, 50000, 50000, 100000000, 4000, 999, 99, 4000, 999, 99, 99999, 99999, 99999, 20000, 1000000, 9999999, 9999, 999, 99999, 2147483647, 4, 4, 1, 3, 9, 9, 9, 9, 200000, 200000, T, 9223372036854775807, T, T, 10, 9999999, 9999999, 9999999, 9999999, 9999999, 9999999, 9999999, 9999999, 9999999, 9999999, 20] : List Int).getD k 0
def sLo (j : Nat) : Int := ([0, 0, 2, 0, 0, 1, 0, -10000000000000] : List Int).getD j 0
def sHi (T : Int) (j : Nat) : Int := ([4, 4, 3, 9999, T, 2, 10000000000000, 10000000000000] : List Int).getD j 0
def RowOK (T : Int) (r : LV) : Prop := (∀ k, k < 55 → rLo k ≤ zr r k ∧ zr r k ≤ rHi T k) ∧ (∀ i j : Nat, i < 20 → (i : Int) < zr r 54 → j < 8 → sLo j ≤ zr r (55 + 8 * i + j) ∧ zr r (55 + 8 * i + j) ≤ sHi T j)
theorem row_e {T : Int} {r : LV} (h : RowOK T r) (k : Nat) (hk : k < 55) : E64 (r k) (zr r k) (rLo k) (rHi T k) := ⟨rfl, h.1 k hk⟩
theorem row_w {T : Int} {r : LV} (h : RowOK T r) (k : Nat) (a b : Int) (ha : a = rLo k) (hb : b = rHi T k) (hk : k < 55 := by decide) : E64 (r k) (zr r k) a b := by subst ha; subst hb; exact row_e h k hk
theorem rLo_err : ∀ d, d < 4 → rLo (3 + d) = -50000 ∧ rLo (33 + d) = 0 := by decide
theorem rHi_err (T : Int) : ∀ d, d < 4 → rHi T (3 + d) = 50000 ∧ rHi T (33 + d) = 9
  | 0, _ => ⟨rfl, rfl⟩ | 1, _ => ⟨rfl, rfl⟩ | 2, _ => ⟨rfl, rfl⟩ | 3, _ => ⟨rfl, rfl⟩ | d + 4, h => absurd h (by omega)
theorem rLo_rat : ∀ d, d < 5 → rLo (7 + d) = -50000 := by decide
theorem rHi_rat (T : Int) : ∀ d, d < 5 → rHi T (7 + d) = 50000
  | 0, _ => rfl | 1, _ => rfl | 2, _ => rfl | 3, _ => rfl | 4, _ => rfl | d + 5, h => absurd h (by omega)
theorem rLo_rd : ∀ d, d < 10 → rLo (44 + d) = -9999999 := by decide
theorem rHi_rd (T : Int) : ∀ d, d < 10 → rHi T (44 + d) = 9999999
  | 0, _ => rfl | 1, _ => rfl | 2, _ => rfl | 3, _ => rfl | 4, _ => rfl | 5, _ => rfl | 6, _ => rfl | 7, _ => rfl | 8, _ => rfl | 9, _ => rfl | d + 10, h => absurd h (by omega)
theorem row_err {T : Int} {r : LV} (h : RowOK T r) {d : Nat} (hd : d < 4) : E64 (r (3 + d)) (zr r (3 + d)) (-50000) 50000 := by
  have := row_e h (3 + d) (by omega)
  rwa [(rLo_err d hd).1, (rHi_err T d hd).1] at this
theorem row_dig {T : Int} {r : LV} (h : RowOK T r) {d : Nat} (hd : d < 4) : E64 (r (33 + d)) (zr r (33 + d)) 0 9 := by
  have := row_e h (33 + d) (by omega)
  rwa [(rLo_err d hd).2, (rHi_err T d hd).2] at this
theorem row_rat {T : Int} {r : LV} (h : RowOK T r) {d : Nat} (hd : d < 5) : E64 (r (7 + d)) (zr r (7 + d)) (-50000) 50000 := by
  have := row_e h (7 + d) (by omega)
  rwa [rLo_rat d hd, rHi_rat T d hd] at this
theorem row_rd {T : Int} {r : LV} (h : RowOK T r) {d : Nat} (hd : d < 10) : E64 (r (44 + d)) (zr r (44 + d)) (-9999999) 9999999 := by
  have := row_e h (44 + d) (by omega)
  rwa [rLo_rd d hd, rHi_rd T d hd] at this
/-- another number in the row -/
theorem row_upd {T : Int} {r : LV} (h : RowOK T r) (k : Nat) (x : Int64) (hx : k < 55 → rLo k ≤ x.toInt ∧ x.toInt ≤ rHi T k) (hk : k < 54) : RowOK T (vp_updL r k x) := by
  refine ⟨fun j hj => ?_, fun i j hi hz hj => ?_⟩
  · by_cases q : j = k
    · subst q; show rLo j ≤ (vp_updL r j x j).toInt ∧ (vp_updL r j x j).toInt ≤ _; rw [uLs]; exact hx hj
    · show rLo j ≤ (vp_updL r k x j).toInt ∧ (vp_updL r k x j).toInt ≤ _; rw [uLn q]; exact h.1 j hj
  · have e : vp_updL r k x 54 = r 54 := uLn (by omega)
    have e2 : vp_updL r k x (55 + 8 * i + j) = r (55 + 8 * i + j) := uLn (by omega)
    rw [zr, e] at hz
    rw [zr, e2]
    exact h.2 i j hi hz hj
theorem rHi_mono {T U : Int} (h : T ≤ U) (k : Nat) (hk : k < 55) : rHi T k ≤ rHi U k := by
  have key : ∀ k, k < 55 → k ≠ 39 → k ≠ 41 → k ≠ 42 → ∀ T U : Int, rHi T k = rHi U k := by
    intro k hk h1 h2 h3 T U
    match k, hk with
    | 0, _ | 1, _ | 2, _ | 3, _ | 4, _ | 5, _ | 6, _ | 7, _ | 8, _ | 9, _ | 10, _ | 11, _ | 12, _ | 13, _ | 14, _ | 15, _ | 16, _ | 17, _ | 18, _ | 19, _ | 20, _ | 21, _ | 22, _ | 23, _ | 24, _ | 25, _ | 26, _ | 27, _ | 28, _ | 29, _ | 30, _ | 31, _ | 32, _ | 33, _ | 34, _ | 35, _ | 36, _ | 37, _ | 38, _ | 40, _ | 43, _ | 44, _ | 45, _ | 46, _ | 47, _ | 48, _ | 49, _ | 50, _ | 51, _ | 52, _ | 53, _ | 54, _ => rfl
    | 39, _ => exact absurd rfl h1
    | 41, _ => exact absurd rfl h2
    | 42, _ => exact absurd rfl h3
    | k + 55, q => exact absurd q (by omega)
  by_cases h1 : k = 39
  · subst h1; exact h
  · by_cases h2 : k = 41
    · subst h2; exact h
    · by_cases h3 : k = 42
      · subst h3; exact h
      · rw [key k hk h1 h2 h3 T U]; exact Int.le_refl _
theorem sHi_mono {T U : Int} (h : T ≤ U) : ∀ j, j < 8 → sHi T j ≤ sHi U j
  | 0, _ => Int.le_refl _ | 1, _ => Int.le_refl _ | 2, _ => Int.le_refl _ | 3, _ => Int.le_refl _ | 4, _ => h | 5, _ => Int.le_refl _ | 6, _ => Int.le_refl _ | 7, _ => Int.le_refl _ | j + 8, q => absurd q (by omega)
theorem row_mono {T U : Int} {r : LV} (h : RowOK T r) (hT : T ≤ U) : RowOK U r :=
  ⟨fun k hk => ⟨(h.1 k hk).1, Int.le_trans (h.1 k hk).2 (rHi_mono hT k hk)⟩, fun i j hi hz hj => ⟨(h.2 i j hi hz hj).1, Int.le_trans (h.2 i j hi hz hj).2 (sHi_mono hT j hj)⟩⟩
/-! ===== powers of ten ===== -/
theorem mo_ten_c : ∀ k, k < 19 → sp_Mo_tenTo_4 (nI k) 1000000 1 0 = lN (10 ^ k) := by decide +kernel
theorem pa_ten_c : ∀ k, k < 10 → sp_Pa_tenTo_4 (nI k) 1000000 1 0 = nI (10 ^ k) := by decide +kernel
theorem mo_ten {k : Nat} (h : k < 19) : sp_Mo_tenTo (nI k) = lN (10 ^ k) := by
  unfold sp_Mo_tenTo; rw [big_eq]; exact mo_ten_c k h
theorem pa_ten {k : Nat} (h : k < 10) : sp_Pa_tenTo (nI k) = nI (10 ^ k) := by
  unfold sp_Pa_tenTo; rw [big_eq]; exact pa_ten_c k h
theorem nzle {a b : Nat} (ha : a < 2147483648) (hb : b < 2147483648) : nI a ≤ nI b ↔ a ≤ b := by
  rw [Int32.le_iff_toInt_le, nIz ha, nIz hb]; omega
theorem nzlt {a b : Nat} (ha : a < 2147483648) (hb : b < 2147483648) : nI a < nI b ↔ a < b := by
  rw [Int32.lt_iff_toInt_lt, nIz ha, nIz hb]; omega
theorem nzinj {a b : Nat} (ha : a < 2147483648) (hb : b < 2147483648) : nI a = nI b ↔ a = b := by
  constructor
  · intro h
    have := congrArg Int32.toInt h
    rw [nIz ha, nIz hb] at this; omega
  · intro h; rw [h]
theorem nzadd1 (a : Nat) (h : a + 1 < 2147483648) : nI a + 1 = nI (a + 1) := nIo (by rw [Kit.i32_add (by rw [nIz (by omega)]; show -2147483648 ≤ (a : Int) + 1; omega) (by rw [nIz (by omega)]; show (a : Int) + 1 < 2147483648; omega), nIz (by omega)]; rfl)
theorem nzadd (a b : Nat) (h : a + b < 2147483648) : nI a + nI b = nI (a + b) := nIo (by rw [Kit.i32_add (by rw [nIz (by omega), nIz (by omega)]; omega) (by rw [nIz (by omega), nIz (by omega)]; omega), nIz (by omega), nIz (by omega)]; omega)
theorem nzsub (a b : Nat) (h : b ≤ a) (ha : a < 2147483648) : nI a - nI b = nI (a - b) := nIo (by rw [Kit.i32_sub (by rw [nIz (by omega), nIz (by omega)]; omega) (by rw [nIz (by omega), nIz (by omega)]; omega), nIz (by omega), nIz (by omega)]; omega)
theorem cl_nI {a : Nat} (h : a < 2147483648) : (nI a).toNatClampNeg = a := cl_of (nIz h)
theorem vp_nI {a n : Nat} (h : a < n) (hn : n < 2147483648) : vp_in (nI a) n := vp_of (by rw [nIz (by omega)]; omega) (by rw [nIz (by omega)]; omega)
/-- an int at or above 0, by its number -/
theorem nzex {x : Int32} (h : 0 ≤ x.toInt) : x = nI x.toInt.toNat := nIo (by omega)
theorem mo_ten_ok : ∀ (n f i : Nat) (acc : Int64), i ≤ n → n - i < f → n < 2147483648 → ok_Mo_tenTo_4 (nI n) f acc (nI i)
  | n, 0, i, acc, h1, h2, _ => absurd h2 (by omega)
  | n, f + 1, i, acc, h1, h2, h3 => by
    show okb_Mo_tenTo_4 _ _ _ _ _
    unfold okb_Mo_tenTo_4
    refine ⟨fun _ => trivial, fun hc => ?_⟩
    rw [nzle h3 (by omega)] at hc
    show ok_Mo_tenTo_4 (nI n) f _ (nI i + 1)
    rw [nzadd1 i (by omega)]
    exact mo_ten_ok n f (i + 1) _ (by omega) (by omega) h3
theorem pa_ten_ok : ∀ (n f i : Nat) (acc : Int32), i ≤ n → n - i < f → n < 2147483648 → ok_Pa_tenTo_4 (nI n) f acc (nI i)
  | n, 0, i, acc, h1, h2, _ => absurd h2 (by omega)
  | n, f + 1, i, acc, h1, h2, h3 => by
    show okb_Pa_tenTo_4 _ _ _ _ _
    unfold okb_Pa_tenTo_4
    refine ⟨fun _ => trivial, fun hc => ⟨fun _ => trivial, fun _ => ?_⟩⟩
    rw [nzle h3 (by omega)] at hc
    show ok_Pa_tenTo_4 (nI n) f _ (nI i + 1)
    rw [nzadd1 i (by omega)]
    exact pa_ten_ok n f (i + 1) _ (by omega) (by omega) h3
theorem mo_ten_o {n : Nat} (h : n < 1000000) : ok_Mo_tenTo (nI n) := mo_ten_ok n big 0 1 (by omega) (by rw [big_eq]; omega) (by omega)
theorem pa_ten_o {n : Nat} (h : n < 1000000) : ok_Pa_tenTo (nI n) := pa_ten_ok n big 0 1 (by omega) (by rw [big_eq]; omega) (by omega)
theorem p10 : ∀ k, k < 5 → 1 ≤ (10 : Nat) ^ k ∧ (10 : Nat) ^ k ≤ 10000 := by decide
/-! ===== Z: the document's numbers, of a row ===== -/
def zD (r : LV) : Nat := (zr r 0).toNat
def zstep (r : LV) (d : Nat) : Int := zr r 1 * (10 ^ (zD r - 1 - d) : Nat)
def zcs (r : LV) : Nat → Int → Int
  | 0, _ => 0
  | n + 1, s => (s % 10) * zstep r n * (1000000 + zr r (3 + n)) + zcs r n (s / 10)
def zcold (r : LV) (s : Int) : Int := (zcs r (zD r) s).tdiv 1000000 + zr r 2
def zuw (r : LV) : Int := (zr r 12 * (1000000000 + zr r 13 * zr r 37)).tdiv 1000000000
def zbw (r : LV) (s : Int) : Int := (zcold r s * (1000000000 + zr r 16 * zr r 38)).tdiv 1000000000
def zus (r : LV) (ld : Int) : Int := zuw r + zr r 19 + (if ld = 2 then zr r 20 else 0)
def zbs (r : LV) (s ld : Int) : Int := zbw r s + (if ld = 3 then zr r 20 else 0)
def zush (r : LV) (s ld : Int) : Int := (1000000000 * zus r ld).tdiv (zbs r s ld + zus r ld)
def zohm (r : LV) (k : Nat) : Int := (1000 * 10 ^ k : Nat) + ((1000 * 10 ^ k : Nat) * zr r (7 + k)).tdiv 1000000
def zash (r : LV) (f g : Nat) : Int := (1000000000 * zohm r g).tdiv (zohm r f + zohm r g)
def zdefl (r : LV) (s : Int) (f g : Nat) (ld : Int) : Int := (zr r 22 * (zush r s ld - zash r f g)).tdiv 1000
def zset (r : LV) : Nat → Int
  | 0 => 0
  | n + 1 => 10 * zset r n + zr r (33 + n)
section ZB
variable {T : Int} {r : LV} (h : RowOK T r)
theorem zD_bd (h : RowOK T r) : 2 ≤ zD r ∧ zD r ≤ 4 ∧ (zD r : Int) = zr r 0 := by
  have := h.1 0 (by decide)
  have h2 : rLo 0 = 2 := rfl
  have h4 : rHi T 0 = 4 := rfl
  unfold zD; omega
theorem zstep_bd (h : RowOK T r) (d : Nat) : 1 ≤ zstep r d ∧ zstep r d ≤ 10000000 := by
  have h1 := h.1 1 (by decide)
  have h2 := zD_bd h
  have h3 : (10 : Nat) ^ (zD r - 1 - d) ≤ 1000 ∧ 1 ≤ (10 : Nat) ^ (zD r - 1 - d) := by
    have : zD r - 1 - d < 4 := by omega
    exact (show ∀ k, k < 4 → (10 : Nat) ^ k ≤ 1000 ∧ 1 ≤ (10 : Nat) ^ k by decide) _ this
  have h5 : rLo 1 = 1 := rfl
  have h6 : rHi T 1 = 10000 := rfl
  exact mul_box 1 10000000 (a := 1) (b := 10000) (c := 1) (d := 1000) (by omega) (by omega) (by omega) (by omega) (by omega)
theorem zterm_bd (h : RowOK T r) {n : Nat} (hn : n < 4) {x : Int} (h0 : 0 ≤ x) (h9 : x ≤ 9) : (0 ≤ x * zstep r n ∧ x * zstep r n ≤ 90000000) ∧ 0 ≤ x * zstep r n * (1000000 + zr r (3 + n)) ∧ x * zstep r n * (1000000 + zr r (3 + n)) ≤ 100000000000000 := by
  have h1 := zstep_bd h n
  have h2 := (row_err h hn).2
  have h3 := mul_box 0 90000000 (X := x) (Y := zstep r n) (a := 0) (b := 9) (c := 1) (d := 10000000) h0 h9 h1.1 h1.2 (by omega)
  exact ⟨h3, mul_box 0 100000000000000 (a := 0) (b := 90000000) (c := 950000) (d := 1050000) h3.1 h3.2 (by omega) (by omega) (by omega)⟩
theorem zcs_bd (h : RowOK T r) : ∀ (n : Nat) (s : Int), n ≤ 4 → 0 ≤ zcs r n s ∧ zcs r n s ≤ n * 100000000000000
  | 0, s, _ => by simp [zcs]
  | n + 1, s, hn => by
    have h1 := (zterm_bd h (n := n) (by omega) (x := s % 10) (by omega) (by omega)).2
    have h2 := zcs_bd h n (s / 10) (by omega)
    simp only [zcs]
    omega
end ZB
