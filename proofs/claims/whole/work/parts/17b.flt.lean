section TZB
/-! ===== no spread is a NaN ===== -/
theorem e_tails : FP.Core.Fmt.tails FP.Core.b32 = 8388608 := rfl
theorem e_exps : FP.Core.Fmt.exps FP.Core.b32 = 256 := rfl
theorem e_qmin : FP.Core.Fmt.qmin FP.Core.b32 = -149 := rfl
theorem e_qmax : FP.Core.Fmt.qmax FP.Core.b32 = 104 := rfl
def FlOK (N : Nat) : Prop := ∃ s m : Nat, N = s * 2147483648 + m ∧ s ≤ 1 ∧ m ≤ 2139095040
theorem e_asm (s : Bool) (e t : Nat) (he : e < 255) (ht : t < 8388608) : FlOK (FP.Core.assemble FP.Core.b32 s e t) := by
  refine ⟨s.toNat, e * 8388608 + t, ?_, by cases s <;> decide, by omega⟩
  unfold FP.Core.assemble
  rw [e_tails, e_exps]
  omega
theorem e_asmi (s : Bool) : FlOK (FP.Core.assemble FP.Core.b32 s (FP.Core.Fmt.exps FP.Core.b32 - 1) 0) := by
  refine ⟨s.toNat, 2139095040, ?_, by cases s <;> decide, Nat.le_refl _⟩
  unfold FP.Core.assemble
  rw [e_tails, e_exps]
  omega
theorem e_fin (s : Bool) (c : Nat) (q : Int) (hc : c < 16777216) (hq : q ≤ 104) : FlOK (FP.Core.encode FP.Core.b32 (.fin s c q)) := by
  show FlOK (if c < FP.Core.Fmt.tails FP.Core.b32 then FP.Core.assemble FP.Core.b32 s 0 c else FP.Core.assemble FP.Core.b32 s ((q - FP.Core.Fmt.qmin FP.Core.b32).toNat + 1) (c - FP.Core.Fmt.tails FP.Core.b32))
  rw [e_tails, e_qmin]
  by_cases h : c < 8388608
  · rw [if_pos h]; exact e_asm s 0 c (by decide) h
  · rw [if_neg h]
    exact e_asm s _ _ (by omega) (by omega)
theorem e_bound (s : Bool) (c : Nat) (q : Int) (hc : c < 16777216) : FlOK (FP.Core.encode FP.Core.b32 (FP.Core.bound FP.Core.b32 s c q)) := by
  unfold FP.Core.bound
  rw [e_qmax]
  by_cases h : q ≤ 104
  · rw [if_pos h]; exact e_fin s c q hc h
  · rw [if_neg h]; exact e_asmi s
theorem e_ratio (s : Bool) (num den : Nat) (e : Int) : FlOK (FP.Core.encode FP.Core.b32 (FP.Core.roundRatio FP.Core.b32 s num den e)) := by
  unfold FP.Core.roundRatio
  by_cases h : num = 0
  · rw [if_pos h, e_qmin]; exact e_fin s 0 _ (by decide) (by decide)
  · rw [if_neg h]
    unfold FP.Core.roundAt FP.Core.settle
    split
    · next h2 => exact e_bound s _ _ h2
    · exact e_bound s _ _ (by rw [e_tails]; decide)
theorem e_lt {N : Nat} (h : FlOK N) : N < 4294967296 := by
  obtain ⟨s, m, e, hs, hm⟩ := h
  omega
theorem e_dec {N : Nat} (h : FlOK N) : FP.Core.decode FP.Core.b32 N ≠ .nan := by
  obtain ⟨s, m, e, hs, hm⟩ := h
  have e1 : N / 8388608 = s * 256 + m / 8388608 := by omega
  have e2 : FP.Core.fieldE FP.Core.b32 N = m / 8388608 := by
    unfold FP.Core.fieldE
    rw [e_tails, e_exps, e1]; omega
  have e3 : FP.Core.fieldT FP.Core.b32 N = m % 8388608 := by
    unfold FP.Core.fieldT
    rw [e_tails]; omega
  unfold FP.Core.decode
  rw [e2, e3, e_exps]
  by_cases c1 : m / 8388608 = 256 - 1
  · rw [if_pos c1, if_pos (by omega)]
    exact fun w => FP.Core.Datum.noConfusion w
  · rw [if_neg c1]
    by_cases c2 : m / 8388608 = 0
    · rw [if_pos c2]; exact fun w => FP.Core.Datum.noConfusion w
    · rw [if_neg c2]; exact fun w => FP.Core.Datum.noConfusion w
theorem e_i2f (x : Int32) : FP.Core.decode FP.Core.b32 (FP.i2f x).toNat ≠ .nan := by
  have h : FlOK (FP.Core.encode FP.Core.b32 (FP.Core.roundRatio FP.Core.b32 (decide (x.toInt < 0)) x.toInt.natAbs 1 0)) := e_ratio _ _ _ _
  have e1 : (FP.i2f x).toNat = FP.Core.encode FP.Core.b32 (FP.Core.roundRatio FP.Core.b32 (decide (x.toInt < 0)) x.toInt.natAbs 1 0) := UInt32.toNat_ofNat_of_lt' (e_lt h)
  rw [e1]
  exact e_dec h
theorem f2d_n64 (x : Int32) : vf_n64 (FP.f2d (FP.i2f x)) := by
  have h := e_i2f x
  have h0 : FP.Core.fIsNaN (FP.i2f x) = false := by
    show decide _ = false
    exact decide_eq_false h
  have e : FP.f2d (FP.i2f x) = FP.Core.f2d (FP.i2f x) := by
    show (if FP.Core.fIsNaN (FP.i2f x) then _ else _) = _
    rw [h0]; rfl
  rw [e]
  refine b_n64 ?_
  show DbOK (FP.Core.encode FP.Core.b64 (FP.Core.round FP.Core.b64 (FP.Core.decode FP.Core.b32 (FP.i2f x).toNat)))
  revert h
  cases FP.Core.decode FP.Core.b32 (FP.i2f x).toNat with
  | nan => exact fun w => absurd rfl w
  | inf t => exact fun _ => b_asmi _
  | fin t d p => exact fun _ => b_ratio _ _ _ _
theorem spread_n64 (ba da : IV) : vf_n64 (FP.f2d (sp_Db_spread ba da)) := by
  unfold sp_Db_spread
  exact f2d_n64 _
end TZB
