section TRD
/-! ===== no mean is a NaN ===== -/
theorem b_tails : FP.Core.Fmt.tails FP.Core.b64 = 4503599627370496 := rfl
theorem b_exps : FP.Core.Fmt.exps FP.Core.b64 = 2048 := rfl
theorem b_qmin : FP.Core.Fmt.qmin FP.Core.b64 = -1074 := rfl
theorem b_qmax : FP.Core.Fmt.qmax FP.Core.b64 = 971 := rfl
def DbOK (N : Nat) : Prop := ∃ s m : Nat, N = s * 9223372036854775808 + m ∧ s ≤ 1 ∧ m ≤ 9218868437227405312
theorem b_asm (s : Bool) (e t : Nat) (he : e < 2047) (ht : t < 4503599627370496) : DbOK (FP.Core.assemble FP.Core.b64 s e t) := by
  refine ⟨s.toNat, e * 4503599627370496 + t, ?_, by cases s <;> decide, by omega⟩
  unfold FP.Core.assemble
  rw [b_tails, b_exps]
  omega
theorem b_asmi (s : Bool) : DbOK (FP.Core.assemble FP.Core.b64 s (FP.Core.Fmt.exps FP.Core.b64 - 1) 0) := by
  refine ⟨s.toNat, 9218868437227405312, ?_, by cases s <;> decide, Nat.le_refl _⟩
  unfold FP.Core.assemble
  rw [b_tails, b_exps]
  omega
theorem b_fin (s : Bool) (c : Nat) (q : Int) (hc : c < 9007199254740992) (hq : q ≤ 971) : DbOK (FP.Core.encode FP.Core.b64 (.fin s c q)) := by
  show DbOK (if c < FP.Core.Fmt.tails FP.Core.b64 then FP.Core.assemble FP.Core.b64 s 0 c else FP.Core.assemble FP.Core.b64 s ((q - FP.Core.Fmt.qmin FP.Core.b64).toNat + 1) (c - FP.Core.Fmt.tails FP.Core.b64))
  rw [b_tails, b_qmin]
  by_cases h : c < 4503599627370496
  · rw [if_pos h]; exact b_asm s 0 c (by decide) h
  · rw [if_neg h]
    exact b_asm s _ _ (by omega) (by omega)
theorem b_bound (s : Bool) (c : Nat) (q : Int) (hc : c < 9007199254740992) : DbOK (FP.Core.encode FP.Core.b64 (FP.Core.bound FP.Core.b64 s c q)) := by
  unfold FP.Core.bound
  rw [b_qmax]
  by_cases h : q ≤ 971
  · rw [if_pos h]; exact b_fin s c q hc h
  · rw [if_neg h]; exact b_asmi s
theorem b_ratio (s : Bool) (num den : Nat) (e : Int) : DbOK (FP.Core.encode FP.Core.b64 (FP.Core.roundRatio FP.Core.b64 s num den e)) := by
  unfold FP.Core.roundRatio
  by_cases h : num = 0
  · rw [if_pos h, b_qmin]; exact b_fin s 0 _ (by decide) (by decide)
  · rw [if_neg h]
    unfold FP.Core.roundAt FP.Core.settle
    split
    · next h2 => exact b_bound s _ _ h2
    · exact b_bound s _ _ (by rw [b_tails]; decide)
theorem b_lt {N : Nat} (h : DbOK N) : N < 18446744073709551616 := by
  obtain ⟨s, m, e, hs, hm⟩ := h
  omega
theorem b_dec {N : Nat} (h : DbOK N) : FP.Core.decode FP.Core.b64 N ≠ .nan := by
  obtain ⟨s, m, e, hs, hm⟩ := h
  have e1 : N / 4503599627370496 = s * 2048 + m / 4503599627370496 := by omega
  have e2 : FP.Core.fieldE FP.Core.b64 N = m / 4503599627370496 := by
    unfold FP.Core.fieldE
    rw [b_tails, b_exps, e1]; omega
  have e3 : FP.Core.fieldT FP.Core.b64 N = m % 4503599627370496 := by
    unfold FP.Core.fieldT
    rw [b_tails]; omega
  unfold FP.Core.decode
  rw [e2, e3, b_exps]
  by_cases c1 : m / 4503599627370496 = 2048 - 1
  · rw [if_pos c1, if_pos (by omega)]
    exact fun w => FP.Core.Datum.noConfusion w
  · rw [if_neg c1]
    by_cases c2 : m / 4503599627370496 = 0
    · rw [if_pos c2]; exact fun w => FP.Core.Datum.noConfusion w
    · rw [if_neg c2]; exact fun w => FP.Core.Datum.noConfusion w
theorem b_n64 {N : Nat} (h : DbOK N) : vf_n64 (UInt64.ofNat N) := by
  have hl := b_lt h
  obtain ⟨s, m, e, hs, hm⟩ := h
  unfold vf_n64
  rw [UInt64.le_iff_toNat_le, UInt64.toNat_and]
  have e1 : (UInt64.ofNat N).toNat = N := UInt64.toNat_ofNat_of_lt' hl
  rw [e1]
  show N &&& (2 ^ 63 - 1) ≤ 9218868437227405312
  rw [Nat.and_two_pow_sub_one_eq_mod]
  omega
theorem b_l2d (x : Int64) : FP.Core.decode FP.Core.b64 (FP.l2d x).toNat ≠ .nan := by
  have h : DbOK (FP.Core.encode FP.Core.b64 (FP.Core.roundRatio FP.Core.b64 (decide (x.toInt < 0)) x.toInt.natAbs 1 0)) := b_ratio _ _ _ _
  have e1 : (FP.l2d x).toNat = FP.Core.encode FP.Core.b64 (FP.Core.roundRatio FP.Core.b64 (decide (x.toInt < 0)) x.toInt.natAbs 1 0) := UInt64.toNat_ofNat_of_lt' (b_lt h)
  rw [e1]
  exact b_dec h
def finN (d : FP.Core.Datum) : Bool := match d with
  | .fin _ c _ => decide (c ≠ 0)
  | _ => false
theorem finN_h {d : FP.Core.Datum} (h : finN d = true) : ∃ s c q, d = .fin s c q ∧ c ≠ 0 := by
  cases d with
  | nan => cases h
  | inf s => cases h
  | fin s c q => exact ⟨s, c, q, rfl, of_decide_eq_true h⟩
theorem b_i2d : ∀ k, k < 21 → 0 < k → finN (FP.Core.decode FP.Core.b64 (FP.Core.fromInt FP.Core.b64 (k : Nat))) = true := by decide +kernel
theorem b_fromlt (i : Int) : FP.Core.fromInt FP.Core.b64 i < 18446744073709551616 := b_lt (b_ratio (decide (i < 0)) i.natAbs 1 0)
/-- the FP.Core.quotient of a sum and a number of things is no NaN -/
theorem b_mean (x : Int64) {y : UInt64} {k : Nat} (hk : k < 21) (h0 : 0 < k) (hy : y = UInt64.ofNat (FP.Core.fromInt FP.Core.b64 (k : Nat))) : vf_n64 (FP.ddiv (FP.l2d x) y) := by
  refine b_n64 ?_
  have e1 : y.toNat = FP.Core.fromInt FP.Core.b64 (k : Nat) := by rw [hy]; exact UInt64.toNat_ofNat_of_lt' (b_fromlt _)
  show DbOK (FP.Core.encode FP.Core.b64 (FP.Core.quotient FP.Core.b64 (FP.Core.decode FP.Core.b64 (FP.l2d x).toNat) (FP.Core.decode FP.Core.b64 y.toNat)))
  rw [e1]
  obtain ⟨s, c, q, h1, h2⟩ := finN_h (b_i2d k hk h0)
  rw [h1]
  have h3 := b_l2d x
  revert h3
  cases FP.Core.decode FP.Core.b64 (FP.l2d x).toNat with
  | nan => exact fun w => absurd rfl w
  | inf t => exact fun _ => b_asmi _
  | fin t d p =>
    intro _
    show DbOK (FP.Core.encode FP.Core.b64 (if c = 0 then _ else FP.Core.roundRatio FP.Core.b64 (t != s) d c (p - q)))
    rw [if_neg h2]
    exact b_ratio _ _ _ _
theorem b_i2dn {k : Nat} (hk : k < 21) : FP.i2d (nI k) = UInt64.ofNat (FP.Core.fromInt FP.Core.b64 (k : Nat)) := by
  show UInt64.ofNat (FP.Core.fromInt FP.Core.b64 (nI k).toInt) = _
  rw [nIz (by omega)]
theorem b_l2dn {x : Int64} {k : Nat} (hk : x.toInt = (k : Int)) : FP.l2d x = UInt64.ofNat (FP.Core.fromInt FP.Core.b64 (k : Nat)) := by
  show UInt64.ofNat (FP.Core.fromInt FP.Core.b64 x.toInt) = _
  rw [hk]
end TRD
