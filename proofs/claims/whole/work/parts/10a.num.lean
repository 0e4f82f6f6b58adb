/-! ===== pure: numbers with their bounds ===== -/
def E64 (x : Int64) (X a b : Int) : Prop := x.toInt = X ∧ a ≤ X ∧ X ≤ b
def E32 (x : Int32) (X a b : Int) : Prop := x.toInt = X ∧ a ≤ X ∧ X ≤ b
theorem e64_w {x : Int64} {X a b : Int} (c d : Int) (h : E64 x X a b) (h1 : c ≤ a) (h2 : b ≤ d) : E64 x X c d := ⟨h.1, Int.le_trans h1 h.2.1, Int.le_trans h.2.2 h2⟩
theorem e32_w {x : Int32} {X a b : Int} (c d : Int) (h : E32 x X a b) (h1 : c ≤ a) (h2 : b ≤ d) : E32 x X c d := ⟨h.1, Int.le_trans h1 h.2.1, Int.le_trans h.2.2 h2⟩
theorem e64_add {x y : Int64} {X Y a b c d : Int} (h1 : E64 x X a b) (h2 : E64 y Y c d) (l : -9223372036854775808 ≤ a + c) (u : b + d < 9223372036854775808) : E64 (x + y) (X + Y) (a + c) (b + d) := by
  obtain ⟨rfl, h3, h4⟩ := h1
  obtain ⟨rfl, h5, h6⟩ := h2
  exact ⟨Kit.i64_add (by omega) (by omega), by omega, by omega⟩
theorem e64_sub {x y : Int64} {X Y a b c d : Int} (h1 : E64 x X a b) (h2 : E64 y Y c d) (l : -9223372036854775808 ≤ a - d) (u : b - c < 9223372036854775808) : E64 (x - y) (X - Y) (a - d) (b - c) := by
  obtain ⟨rfl, h3, h4⟩ := h1
  obtain ⟨rfl, h5, h6⟩ := h2
  exact ⟨Kit.i64_sub (by omega) (by omega), by omega, by omega⟩
theorem e64_neg {x : Int64} {X a b : Int} (h1 : E64 x X a b) (l : -9223372036854775808 < a) : E64 (-x) (-X) (-b) (-a) := by
  obtain ⟨rfl, h3, h4⟩ := h1
  exact ⟨Kit.i64_neg (by omega), by omega, by omega⟩
theorem e32_add {x y : Int32} {X Y a b c d : Int} (h1 : E32 x X a b) (h2 : E32 y Y c d) (l : -2147483648 ≤ a + c) (u : b + d < 2147483648) : E32 (x + y) (X + Y) (a + c) (b + d) := by
  obtain ⟨rfl, h3, h4⟩ := h1
  obtain ⟨rfl, h5, h6⟩ := h2
  exact ⟨Kit.i32_add (by omega) (by omega), by omega, by omega⟩
theorem e32_sub {x y : Int32} {X Y a b c d : Int} (h1 : E32 x X a b) (h2 : E32 y Y c d) (l : -2147483648 ≤ a - d) (u : b - c < 2147483648) : E32 (x - y) (X - Y) (a - d) (b - c) := by
  obtain ⟨rfl, h3, h4⟩ := h1
  obtain ⟨rfl, h5, h6⟩ := h2
  exact ⟨Kit.i32_sub (by omega) (by omega), by omega, by omega⟩
theorem e32_neg {x : Int32} {X a b : Int} (h1 : E32 x X a b) (l : -2147483648 < a) : E32 (-x) (-X) (-b) (-a) := by
  obtain ⟨rfl, h3, h4⟩ := h1
  exact ⟨Kit.i32_neg (by omega), by omega, by omega⟩
/-- a product lies between the corners -/
theorem mul_lin {X a b Y : Int} (h1 : a ≤ X) (h2 : X ≤ b) : (a * Y ≤ X * Y ∧ X * Y ≤ b * Y) ∨ (b * Y ≤ X * Y ∧ X * Y ≤ a * Y) := by
  rcases Int.le_total 0 Y with h | h
  · exact Or.inl ⟨Int.mul_le_mul_of_nonneg_right h1 h, Int.mul_le_mul_of_nonneg_right h2 h⟩
  · exact Or.inr ⟨Int.mul_le_mul_of_nonpos_right h2 h, Int.mul_le_mul_of_nonpos_right h1 h⟩
theorem mul_box {X Y a b c d : Int} (lo hi : Int) (h1 : a ≤ X) (h2 : X ≤ b) (h3 : c ≤ Y) (h4 : Y ≤ d) (h : (lo ≤ a * c ∧ lo ≤ a * d ∧ lo ≤ b * c ∧ lo ≤ b * d) ∧ a * c ≤ hi ∧ a * d ≤ hi ∧ b * c ≤ hi ∧ b * d ≤ hi) : lo ≤ X * Y ∧ X * Y ≤ hi := by
  have k1 := mul_lin (Y := Y) h1 h2
  have k2 := mul_lin (Y := a) h3 h4
  have k3 := mul_lin (Y := b) h3 h4
  rw [Int.mul_comm c a, Int.mul_comm Y a, Int.mul_comm d a] at k2
  rw [Int.mul_comm c b, Int.mul_comm Y b, Int.mul_comm d b] at k3
  omega
theorem e64_mul {x y : Int64} {X Y a b c d : Int} (lo hi : Int) (h1 : E64 x X a b) (h2 : E64 y Y c d) (h : (lo ≤ a * c ∧ lo ≤ a * d ∧ lo ≤ b * c ∧ lo ≤ b * d) ∧ a * c ≤ hi ∧ a * d ≤ hi ∧ b * c ≤ hi ∧ b * d ≤ hi) (l : -9223372036854775808 ≤ lo) (u : hi < 9223372036854775808) : E64 (x * y) (X * Y) lo hi := by
  obtain ⟨rfl, h3, h4⟩ := h1
  obtain ⟨rfl, h5, h6⟩ := h2
  have k := mul_box lo hi h3 h4 h5 h6 h
  exact ⟨Kit.i64_mul (by omega) (by omega), k⟩
theorem e32_mul {x y : Int32} {X Y a b c d : Int} (lo hi : Int) (h1 : E32 x X a b) (h2 : E32 y Y c d) (h : (lo ≤ a * c ∧ lo ≤ a * d ∧ lo ≤ b * c ∧ lo ≤ b * d) ∧ a * c ≤ hi ∧ a * d ≤ hi ∧ b * c ≤ hi ∧ b * d ≤ hi) (l : -2147483648 ≤ lo) (u : hi < 2147483648) : E32 (x * y) (X * Y) lo hi := by
  obtain ⟨rfl, h3, h4⟩ := h1
  obtain ⟨rfl, h5, h6⟩ := h2
  have k := mul_box lo hi h3 h4 h5 h6 h
  exact ⟨Kit.i32_mul (by omega) (by omega), k⟩
/-- a quotient by a number above 0 -/
theorem e64_div {x y : Int64} {X Y a b c d : Int} (lo hi : Int) (h1 : E64 x X a b) (h2 : E64 y Y c d) (hc : 0 < c) (hl : lo ≤ a) (hu : b ≤ hi) (h0 : lo ≤ 0) (h9 : 0 ≤ hi) : E64 (x / y) (X.tdiv Y) lo hi := by
  obtain ⟨rfl, h3, h4⟩ := h1
  obtain ⟨rfl, h5, h6⟩ := h2
  refine ⟨Kit.i64_div (by omega), ?_, ?_⟩
  · rcases Int.le_total 0 x.toInt with q | q
    · have := Int.tdiv_nonneg q (show 0 ≤ y.toInt by omega); omega
    · have h := Int.tdiv_le_self (a := -x.toInt) y.toInt (by omega)
      rw [Int.neg_tdiv] at h
      omega
  · rcases Int.le_total 0 x.toInt with q | q
    · have h := Int.tdiv_le_self (a := x.toInt) y.toInt q
      omega
    · have h := Int.tdiv_nonneg (a := -x.toInt) (b := y.toInt) (by omega) (by omega)
      rw [Int.neg_tdiv] at h
      omega
/-- the same by a written number, with the bounds divided too -/
theorem e64_divc {x y : Int64} {X a b : Int} (Y lo hi : Int) (h1 : E64 x X a b) (h2 : y.toInt = Y) (hc : 0 < Y) (hl : lo = a.tdiv Y) (hu : hi = b.tdiv Y) : E64 (x / y) (X.tdiv Y) lo hi := by
  obtain ⟨rfl, h3, h4⟩ := h1
  subst h2; subst hl; subst hu
  exact ⟨Kit.i64_div (by omega), Int.tdiv_le_tdiv hc h3, Int.tdiv_le_tdiv hc h4⟩
theorem e64_of32 {x : Int32} {X a b : Int} (h : E32 x X a b) : E64 x.toInt64 X a b := ⟨(Kit.i64_of_i32 x).trans h.1, h.2⟩
theorem e32_of64 {x : Int64} {X a b : Int} (h : E64 x X a b) (l : -2147483648 ≤ a) (u : b < 2147483648) : E32 x.toInt32 X a b := by
  obtain ⟨rfl, h3, h4⟩ := h
  exact ⟨Kit.i32_of_i64 (by omega) (by omega), h3, h4⟩
theorem e64_lit (n : Int) (x : Int64) (h : x.toInt = n) : E64 x n n n := ⟨h, Int.le_refl _, Int.le_refl _⟩
theorem e32_lit (n : Int) (x : Int32) (h : x.toInt = n) : E32 x n n n := ⟨h, Int.le_refl _, Int.le_refl _⟩
theorem e64_eq {x y : Int64} {X a b c d : Int} (h1 : E64 x X a b) (h2 : E64 y X c d) : x = y := Int64.toInt_inj.mp (h1.1.trans h2.1.symm)
theorem e32_eq {x y : Int32} {X a b c d : Int} (h1 : E32 x X a b) (h2 : E32 y X c d) : x = y := Int32.toInt_inj.mp (h1.1.trans h2.1.symm)
/-- a long that is an int -/
theorem e_mix {x : Int64} {y : Int32} {X a b c d : Int} (h1 : E64 x X a b) (h2 : E32 y X c d) : x = y.toInt64 := e64_eq h1 (e64_of32 h2)
/-- narrowed and widened again, a number that fits is itself -/
theorem e_nw {x : Int64} {X a b : Int} (h : E64 x X a b) (l : -2147483648 ≤ a) (u : b < 2147483648) : x.toInt32.toInt64 = x := e64_eq (e64_of32 (e32_of64 h l u)) h
theorem nw_id {x : Int64} (l : -2147483648 ≤ x.toInt) (u : x.toInt < 2147483648) : x.toInt32.toInt64 = x := e_nw ⟨rfl, Int.le_refl _, Int.le_refl _⟩ l u
theorem wn_id (x : Int32) : x.toInt64.toInt32 = x := Int32.toInt_inj.mp (Kit.i32_of_i64 (x := x.toInt64) (by rw [Kit.i64_of_i32]; have := Int32.le_toInt x; omega) (by rw [Kit.i64_of_i32]; have := Int32.toInt_lt x; omega) |>.trans (Kit.i64_of_i32 x))
theorem w_inj {x y : Int32} (h : x.toInt64 = y.toInt64) : x = y := by rw [← wn_id x, ← wn_id y, h]
theorem w_add (x y : Int32) (l : -2147483648 ≤ x.toInt + y.toInt) (u : x.toInt + y.toInt < 2147483648) : (x + y).toInt64 = x.toInt64 + y.toInt64 := by
  apply Int64.toInt_inj.mp
  rw [Kit.i64_of_i32, Kit.i32_add l u, Kit.i64_add (by rw [Kit.i64_of_i32, Kit.i64_of_i32]; omega) (by rw [Kit.i64_of_i32, Kit.i64_of_i32]; omega), Kit.i64_of_i32, Kit.i64_of_i32]
theorem w_sub (x y : Int32) (l : -2147483648 ≤ x.toInt - y.toInt) (u : x.toInt - y.toInt < 2147483648) : (x - y).toInt64 = x.toInt64 - y.toInt64 := by
  apply Int64.toInt_inj.mp
  rw [Kit.i64_of_i32, Kit.i32_sub l u, Kit.i64_sub (by rw [Kit.i64_of_i32, Kit.i64_of_i32]; omega) (by rw [Kit.i64_of_i32, Kit.i64_of_i32]; omega), Kit.i64_of_i32, Kit.i64_of_i32]
theorem w_neg (x : Int32) (l : x.toInt ≠ -2147483648) : (-x).toInt64 = -x.toInt64 := by
  apply Int64.toInt_inj.mp
  rw [Kit.i64_of_i32, Kit.i32_neg l, Kit.i64_neg (by rw [Kit.i64_of_i32]; have := Int32.le_toInt x; omega), Kit.i64_of_i32]
theorem w_lit (n : Nat) (h : n < 2147483648) : (nI n).toInt64 = lN n := by
  apply Int64.toInt_inj.mp
  rw [Kit.i64_of_i32]
  show (Int32.ofNat n).toInt = (Int64.ofNat n).toInt
  rw [Int32.toInt_ofNat_of_lt (by omega), Int64.toInt_ofNat_of_lt (by omega)]
theorem w_lt (a b : Int32) : a.toInt64 < b.toInt64 ↔ a < b := by rw [Int64.lt_iff_toInt_lt, Int32.lt_iff_toInt_lt, Kit.i64_of_i32, Kit.i64_of_i32]
theorem w_le (a b : Int32) : a.toInt64 ≤ b.toInt64 ↔ a ≤ b := by rw [Int64.le_iff_toInt_le, Int32.le_iff_toInt_le, Kit.i64_of_i32, Kit.i64_of_i32]
theorem w_eq (a b : Int32) : a.toInt64 = b.toInt64 ↔ a = b := ⟨w_inj, fun h => by rw [h]⟩
theorem rg32 (x : Int32) : -2147483648 ≤ x.toInt ∧ x.toInt < 2147483648 := ⟨Int32.le_toInt x, Int32.toInt_lt x⟩
theorem rg64 (x : Int64) : -9223372036854775808 ≤ x.toInt ∧ x.toInt < 9223372036854775808 := ⟨Int64.le_toInt x, Int64.toInt_lt x⟩
/-- cells -/
theorem us {f : Nat → Int32} {k : Nat} {x : Int32} : upd f k x k = x := if_pos rfl
theorem un {f : Nat → Int32} {k j : Nat} {x : Int32} (h : j ≠ k) : upd f k x j = f j := if_neg h
theorem uLs {f : Nat → Int64} {k : Nat} {x : Int64} : vp_updL f k x k = x := if_pos rfl
theorem uLn {f : Nat → Int64} {k j : Nat} {x : Int64} (h : j ≠ k) : vp_updL f k x j = f j := if_neg h
theorem fs_s {α : Type} {f : Nat → α} {k : Nat} {x : α} : fset f k x k = x := if_pos rfl
theorem fs_n {α : Type} {f : Nat → α} {k j : Nat} {x : α} (h : j ≠ k) : fset f k x j = f j := if_neg h
theorem lettn {α : Type} {β : Sort _} (e : α) (f : α → β) : lett e f = f e := (congrFun (rfl : (fun x => lett x f) = f) e)
theorem lett_eq {α : Type} {β : Sort _} (e : α) (f : α → β) : lett e f = f e := rfl
theorem nIz {n : Nat} (h : n < 2147483648) : (nI n).toInt = n := Int32.toInt_ofNat_of_lt (by omega)
theorem lNz {n : Nat} (h : n < 9223372036854775808) : (lN n).toInt = n := Int64.toInt_ofNat_of_lt (by omega)
theorem nIo {x : Int32} {n : Nat} (h : x.toInt = n) : x = nI n := Int32.toInt_inj.mp (by rw [nIz (by have := (rg32 x).2; omega), h])
/-- an index -/
theorem cl_of {x : Int32} {n : Nat} (h : x.toInt = n) : x.toNatClampNeg = n := by
  show x.toInt.toNat = n
  rw [h]; rfl
theorem vp_of {x : Int32} {n : Nat} (h0 : 0 ≤ x.toInt) (h1 : x.toInt < n) : vp_in x n := by
  rintro (h | h)
  · rw [Int32.lt_iff_toInt_lt] at h
    have : (0 : Int32).toInt = 0 := rfl
    omega
  · have : x.toNatClampNeg = x.toInt.toNat := rfl
    omega
theorem bigP : 0 < big := by rw [big_eq]; decide
