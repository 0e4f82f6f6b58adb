section TZA
/-! ===== what the start gives ===== -/
def FLA : List Cond := flatC (Jvm.Cond.and given_1 narrow_1)
def ZZ (ad : Nat → Nat) : ZP := fun A U H => (va_Z "DecadeBridge$Parts" "NOMINALS" "[I" (.ref (ad 0)) A U H ∧ va_T .int (ad 0) 5 (fun j => .int (nomF j)) A U H) ∧ vk_S 20 sLen sByt (fun n => ad (n + 1)) (fun n => ad (n + 31)) A U H ∧ va_Z "java/lang/String" "COMPACT_STRINGS" "Z" (.int 1) A U H ∧ (∀ q ∈ sRefs, vk_R q.1 q.2.1 (sTxt.getD q.2.2 "") (ad (q.2.2 + 1)) U) ∧ (vx_Zq Bundle.tN "UNASSIGNED_STACK" Bundle.steD A U H ∧ vx_Zq Bundle.tN "SUPPRESSED_SENTINEL" Bundle.listD A U H) ∧ va_Zq "jdk/internal/util/Preconditions" "SIOOBE_FORMATTER" "Ljava/util/function/BiFunction;" A U H
theorem zz_ok (D : va_G) (ay : Nat → ClassId) (ad : Nat → Nat) : ZOk (D, ay, ZZ ad, ad) := by
  refine ⟨fun A u U H hW h => ?_, fun A u U H hv h => ?_, fun A U H H1 h hq => ?_, fun A B U H h hAB => ?_, fun A U H h => h.1, fun A U H h => h.2.1, fun A U H h => h.2.2.1, fun A U H h => h.2.2.2.1, fun A U H h => h.2.2.2.2.1, fun A U H h => h.2.2.2.2.2⟩
  · obtain ⟨⟨a1, a2⟩, a3, a4, a5, ⟨a6, a7⟩, a8⟩ := h
    exact ⟨⟨a1.moved hW.alike, a2.moved hW.alike⟩, a3.moved hW.alike, a4.moved hW.alike, fun q hq => (a5 q hq).warm hW, ⟨a6.moved hW.alike, a7.moved hW.alike⟩, a8.moved hW.alike⟩
  · have hA : u.vm.Alike U.vm := by rw [hv]; exact Vm.Alike.refl _
    obtain ⟨⟨a1, a2⟩, a3, a4, a5, ⟨a6, a7⟩, a8⟩ := h
    exact ⟨⟨a1.moved hA, a2.moved hA⟩, a3.moved hA, a4.moved hA, fun q hq => (a5 q hq).same hv, ⟨a6.moved hA, a7.moved hA⟩, a8.moved hA⟩
  · obtain ⟨⟨a1, a2⟩, a3, a4, a5, ⟨a6, a7⟩, a8⟩ := h
    exact ⟨⟨a1.kept hq, a2.kept hq⟩, a3.kept hq, a4.kept hq, a5, ⟨a6.kept hq, a7.kept hq⟩, a8.kept hq⟩
  · obtain ⟨⟨a1, a2⟩, a3, a4, a5, ⟨a6, a7⟩, a8⟩ := h
    exact ⟨⟨a1.narrow hAB, a2.narrow hAB⟩, a3.narrow hAB, a4.narrow hAB, a5, ⟨a6.narrow hAB, a7.narrow hAB⟩, a8.narrow hAB⟩
def tmS (i : Nat) : Term := .string ((sRefs.getD i ("", 0, 0)).1) ((sRefs.getD i ("", 0, 0)).2.1)
def zqX : List Nat := [47, 54, 63, 74, 82, 91, 101, 113, 121, 129, 138, 145, 153, 162, 170, 178, 189, 199, 209, 219, 227, 236, 246, 254, 263, 273, 282, 291, 303, 314, 325, 333, 343, 355, 364, 374, 385, 398, 407, 416]
def zqC : List Nat := [48, 55, 64, 75, 83, 92, 102, 114, 122, 130, 139, 146, 154, 163, 171, 179, 190, 200, 210, 220]
def zqA : List Nat := [49, 56, 65, 76, 84, 93, 103, 115, 123, 131, 140, 147, 155, 164, 172, 180, 191, 201, 211, 221]
def zqL : List Nat := [50, 57, 66, 77, 85, 94, 104, 116, 124, 132, 141, 148, 156, 165, 173, 181, 192, 202, 212, 222]
def zqB : List Nat := [51, 58, 67, 78, 86, 95, 105, 117, 125, 133, 142, 149, 157, 166, 174, 182, 193, 203, 213, 223]
def zqE : List Nat := [235, 245, 253, 262, 272, 281, 290, 302, 313, 324, 332, 342, 354, 363, 373, 384, 397, 406, 415, 426]
def zqS : List Nat := [619, 711, 721, 723, 728, 734, 736, 743, 804, 805, 806, 807, 808, 809, 810, 811, 812, 813, 822, 823, 1511, 1512, 1513, 1514, 1515, 1516, 1517, 1518, 1519, 1520, 1667, 1727, 1732, 1734, 1742, 1748, 1754, 1761, 2198, 2207]
theorem fX : ∀ i, i < 40 → FLA[zqX.getD i 0]? = some (Cond.exactly (tmS i) "java/lang/String") := by decide +kernel
theorem fC : ∀ i, i < 20 → FLA[zqC.getD i 0]? = some (Cond.eq (.field (tmS i) "java/lang/String" "coder" "B") (.int 0)) := by decide +kernel
theorem fA : ∀ i, i < 20 → FLA[zqA.getD i 0]? = some (Cond.arrayOf (.field (tmS i) "java/lang/String" "value" "[B") .byte) := by decide +kernel
theorem fL : ∀ i, i < 20 → FLA[zqL.getD i 0]? = some (Cond.eq (.length (.field (tmS i) "java/lang/String" "value" "[B")) (.int (Int32.ofNat (sLen.getD i 0)))) := by decide +kernel
theorem fB : ∀ i, i < 20 → ∀ j, j < sLen.getD i 0 → FLA[zqB.getD i 0 + j]? = some (Cond.eq (.elem (.field (tmS i) "java/lang/String" "value" "[B") (.int (Int32.ofNat j))) (.int ((sByt.getD i []).getD j 0))) := by decide +kernel
theorem fE : ∀ i, i < 20 → FLA[zqE.getD i 0]? = some (Cond.eq (tmS ((sRefs.getD (20 + i) ("", 0, 0)).2.2)) (tmS (20 + i))) := by decide +kernel
theorem fSt : ∀ i, i < 40 → tables_1[zqS.getD i 0]? = some (Cond.stringRef ((sRefs.getD i ("", 0, 0)).1) ((sRefs.getD i ("", 0, 0)).2.1) (sTxt.getD ((sRefs.getD i ("", 0, 0)).2.2) "")) := by decide +kernel
theorem fI : ∀ i, i < 20 → (sRefs.getD i ("", 0, 0)).2.2 = i ∧ (sRefs.getD (20 + i) ("", 0, 0)).2.2 < 20 := by decide +kernel
theorem fN : ∀ i, i < 20 → ∀ j, j < 20 → Int32.ofNat (sLen.getD i 0) = Int32.ofNat (sLen.getD j 0) → sLen.getD i 0 = sLen.getD j 0 := by decide +kernel
theorem fD : ∀ i, i < 20 → ∀ j, j < 20 → sLen.getD i 0 = sLen.getD j 0 → (∀ k, k < sLen.getD i 0 → (sByt.getD i []).getD k 0 = (sByt.getD j []).getD k 0) → i = j := by decide +kernel
theorem fZ : ∀ i, i < 20 → sLen.getD i 0 < 2 ^ 31 := by decide +kernel
section
variable {args : Array Value} {s : State} {A : Nat → Prop}
theorem str_of (hs : ∀ w ∈ FLA, w.before args s = true) (hA : ∀ a : Nat, a < s.heap.size → ¬ A a) : ∃ adK adV : Nat → Nat, vk_S 20 sLen sByt adK adV A s s.heap ∧ ∀ i : Nat, i < 20 → (tmS i).eval args s none [] s = some (.ref (adK i)) := by
  have mm : ∀ {w : Cond} {k : Nat}, FLA[k]? = some w → w.before args s = true := fun h => hs _ (List.mem_of_getElem? h)
  have h0 : ∀ i : Nat, ∃ q : Nat × Nat, i < 20 → (tmS i).eval args s none [] s = some (.ref q.1) ∧ va_O "java/lang/String" q.1 A s s.heap ∧ va_OF "java/lang/String" "coder" "B" (.int 0) q.1 A s s.heap ∧ va_OF "java/lang/String" "value" "[B" (.ref q.2) q.1 A s s.heap ∧ va_T .byte q.2 (sLen.getD i 0) (fun j => .int ((sByt.getD i []).getD j 0)) A s s.heap := by
    intro i
    by_cases hi : i < 20
    · obtain ⟨a, c, cA, kA, q1, q2, q3, q4, q5, q6, -⟩ := Cond.exactly_spec (args := args) (first := s) (o := none) (s := s) (idx := []) (t := tmS i) (cls := "java/lang/String") (mm (fX i (by omega)))
      obtain ⟨t, ht, hT⟩ := va_Tof (f := fun j => .int ((sByt.getD i []).getD j 0)) (A := A) (fZ i hi) (mm (fA i hi)) (va_eqt (mm (fL i hi))) (fun j hj => va_eqt (mm (fB i hi j hj))) hA
      exact ⟨(a, t), fun _ => ⟨q1, ⟨cA, q3, q5, by rw [q6]; exact q2, hA a (Array.getElem?_eq_some_iff.mp q3).1⟩, vk_OFof q1 (va_eqt (mm (fC i hi))) hA, vk_OFof q1 ht hA, hT⟩⟩
    · exact ⟨(0, 0), fun h => absurd h hi⟩
  obtain ⟨ad, had⟩ := Classical.axiomOfChoice h0
  refine ⟨fun i => (ad i).1, fun i => (ad i).2, ⟨fun i hi => (had i hi).2, fun i j hi hj e => ?_⟩, fun i hi => (had i hi).1⟩
  obtain ⟨-, -, -, ⟨c1, k1, i1, f1, cl1, a1, a2, a3, a4, a5, -⟩, ⟨t1, b1, -, -, -, b5, b6, -⟩⟩ := had i hi
  obtain ⟨-, -, -, ⟨c2, k2, i2, f2, cl2, d1, d2, d3, d4, d5, -⟩, ⟨t2, g1, -, -, -, g5, g6, -⟩⟩ := had j hj
  dsimp only at e
  rw [e] at a3
  cases a3.symm.trans d3
  cases a1.symm.trans d1
  have e2 : (ad i).2 = (ad j).2 := by
    have := a5.symm.trans d5
    injection this with h
    injection h
  rw [e2] at b1
  cases b1.symm.trans g1
  have e3 := fN i hi j hj (b5.symm.trans g5)
  refine fD i hi j hj e3 fun k hk => ?_
  have e4 := (b6 k hk).symm.trans (g6 k (by rw [← e3]; exact hk))
  dsimp only at e4
  injection e4 with h
  injection h
theorem arr_i (h : (Cond.arrayClass .int).before args s = true) : ∃ cA, ArrOfT s cA .int ∧ va_RA s cA .int := by
  obtain ⟨c, k, comp, h1, h2, h3⟩ := Cond.arrayClass_spec h
  exact ⟨c, fun n z => ⟨fun k h => (by cases h), k, h2, comp, h3⟩, h1⟩
theorem arr_l (h : (Cond.arrayClass .long).before args s = true) : ∃ cA, ArrOfT s cA .long ∧ va_RA s cA .long := by
  obtain ⟨c, k, comp, h1, h2, h3⟩ := Cond.arrayClass_spec h
  exact ⟨c, fun n z => ⟨fun k h => (by cases h), k, h2, comp, h3⟩, h1⟩
theorem arr_b (h : (Cond.arrayClass .byte).before args s = true) : ∃ cA, ArrOfT s cA .byte ∧ va_RA s cA .byte := by
  obtain ⟨c, k, comp, h1, h2, h3⟩ := Cond.arrayClass_spec h
  exact ⟨c, fun n z => ⟨fun k h => (by cases h), k, h2, comp, h3⟩, h1⟩
theorem arr_z (h : (Cond.arrayClass .boolean).before args s = true) : ∃ cA, ArrOfT s cA .boolean ∧ va_RA s cA .boolean := by
  obtain ⟨c, k, comp, h1, h2, h3⟩ := Cond.arrayClass_spec h
  exact ⟨c, fun n z => ⟨fun k h => (by cases h), k, h2, comp, h3⟩, h1⟩
theorem arr_d (h : (Cond.arrayClass .double).before args s = true) : ∃ cA, ArrOfT s cA .double ∧ va_RA s cA .double := by
  obtain ⟨c, k, comp, h1, h2, h3⟩ := Cond.arrayClass_spec h
  exact ⟨c, fun n z => ⟨fun k h => (by cases h), k, h2, comp, h3⟩, h1⟩
theorem arr_o {C : String} (h : (Cond.arrayOver (.object C)).before args s = true) : ∃ cA, ArrOfT s cA (.object C) ∧ va_RA s cA (.object C) := by
  obtain ⟨comp, c, k, h1, -, h3, h4, h5⟩ := Cond.arrayOver_spec h
  exact ⟨c, fun n z => ⟨fun k h => (by cases h), k, h3, comp, h4⟩, k, comp, h3, h4, h1, h5⟩
end
/-- the law's start: its context, what is thrown, what arrays there are -/
theorem start_ok {p : Program} {s : State} {m : MethodId} {meth : Method} {c : Code} {b L : Nat} {xs : Nat → Int32} (C0 : lw_At p s m meth c b L xs) : ∃ g : GX, Cx p s m #[Value.ref b] meth c (fun q : Nat => s.heap.size ≤ q) g "DecadeBridgeLaw" code ret 10 ∧ XW s ∧ AOW s := by
  obtain ⟨hx, hb, hr, hml, hown, hts, hX, hbl, hlocks, hgv⟩ := C0
  have hs : ∀ w ∈ FLA, w.before #[Value.ref b] s = true := flat_of_before _ hgv
  have ht : ∀ w ∈ tables_1, w.before #[Value.ref b] s = true := fun w hw => hts w (List.mem_append_right _ hw)
  have htb : ∀ w ∈ TB, w.before #[Value.ref b] s = true := fun w hw => hts w (List.mem_filter.mp hw).1
  have hA : ∀ a : Nat, a < s.heap.size → ¬ (fun q : Nat => s.heap.size ≤ q) a := fun a h q => absurd h (Nat.not_lt.mpr q)
  have hk : ∀ c : Nat, ∃ x : ClassId × (Nat → Nat), ∀ q, vwCl[c]? = some q → u_Kn s q.1 q.2.1 q.2.2 x.1 x.2 := by
    intro c
    match c with
    | 0 => obtain ⟨a, i, h⟩ := u_known (C := RX0) (T := TX0) (N := 7) (n := 7) htb inX0 (htb _ it_Be); exact ⟨(a, i), fun q hq => by cases hq; exact h⟩
    | 1 => obtain ⟨a, i, h⟩ := u_known (C := RX1) (T := TX1) (N := 19) (n := 19) htb inX1 (htb _ it_Ci); exact ⟨(a, i), fun q hq => by cases hq; exact h⟩
    | 2 => obtain ⟨a, i, h⟩ := u_known (C := RX2) (T := TX2) (N := 3) (n := 3) htb inX2 (htb _ it_He); exact ⟨(a, i), fun q hq => by cases hq; exact h⟩
    | 3 => obtain ⟨a, i, h⟩ := u_known (C := RX3) (T := TX3) (N := 18) (n := 18) htb inX3 (htb _ it_Pa); exact ⟨(a, i), fun q hq => by cases hq; exact h⟩
    | 4 => obtain ⟨a, i, h⟩ := u_known (C := RX4) (T := TX4) (N := 10) (n := 10) htb inX4 (htb _ it_Pr); exact ⟨(a, i), fun q hq => by cases hq; exact h⟩
    | 5 => obtain ⟨a, i, h⟩ := u_known (C := RX5) (T := TX5) (N := 2) (n := 2) htb inX5 (htb _ it_Re); exact ⟨(a, i), fun q hq => by cases hq; exact h⟩
    | 6 => obtain ⟨a, i, h⟩ := u_known (C := RX6) (T := TX6) (N := 8) (n := 8) htb inX6 (htb _ it_Rt); exact ⟨(a, i), fun q hq => by cases hq; exact h⟩
    | 7 => obtain ⟨a, i, h⟩ := u_known (C := RX7) (T := TX7) (N := 8) (n := 8) htb inX7 (htb _ it_Rs); exact ⟨(a, i), fun q hq => by cases hq; exact h⟩
    | 8 => obtain ⟨a, i, h⟩ := u_known (C := RX8) (T := TX8) (N := 2) (n := 2) htb inX8 (htb _ it_Se); exact ⟨(a, i), fun q hq => by cases hq; exact h⟩
    | 9 => obtain ⟨a, i, h⟩ := u_known (C := RX9) (T := TX9) (N := 3) (n := 3) htb inX9 (htb _ it_Su); exact ⟨(a, i), fun q hq => by cases hq; exact h⟩
    | 10 => obtain ⟨a, i, h⟩ := u_known (C := RX10) (T := TX10) (N := 7) (n := 7) htb inX10 (htb _ it_Te); exact ⟨(a, i), fun q hq => by cases hq; exact h⟩
    | 11 => obtain ⟨a, i, h⟩ := u_known (C := RX11) (T := TX11) (N := 12) (n := 12) htb inX11 (htb _ it_Db); exact ⟨(a, i), fun q hq => by cases hq; exact h⟩
    | 12 => obtain ⟨a, i, h⟩ := u_known (C := RX12) (T := TX12) (N := 29) (n := 29) htb inX12 (htb _ it_Mo); exact ⟨(a, i), fun q hq => by cases hq; exact h⟩
    | c + 13 =>
      refine ⟨(m.cls, fun _ => 0), fun q hq => ?_⟩
      have h2 : c + 13 < 13 := (List.getElem?_eq_some_iff.mp hq).1
      omega
  obtain ⟨fk, hfk⟩ := Classical.axiomOfChoice hk
  have hay : ∀ k : Nat, ∃ x : ClassId, ∀ q : FieldType, [.int, .long, .byte, .boolean, .object "DecadeBridge$Bench", .object "DecadeBridge$Result", .object "java/lang/String", .double][k]? = some q → ArrOfT s x q ∧ va_RA s x q := by
    intro k
    match k with
    | 0 => obtain ⟨a, h⟩ := arr_i (htb _ ac_I); exact ⟨a, fun q hq => by cases hq; exact h⟩
    | 1 => obtain ⟨a, h⟩ := arr_l (htb _ ac_L); exact ⟨a, fun q hq => by cases hq; exact h⟩
    | 2 => obtain ⟨a, h⟩ := arr_b (htb _ ac_B); exact ⟨a, fun q hq => by cases hq; exact h⟩
    | 3 => obtain ⟨a, h⟩ := arr_z (htb _ ac_Z); exact ⟨a, fun q hq => by cases hq; exact h⟩
    | 4 => obtain ⟨a, h⟩ := arr_o (C := "DecadeBridge$Bench") (ht _ (List.mem_of_getElem? (i := 544) (by decide +kernel))); exact ⟨a, fun q hq => by cases hq; exact h⟩
    | 5 => obtain ⟨a, h⟩ := arr_o (C := "DecadeBridge$Result") (ht _ (List.mem_of_getElem? (i := 277) (by decide +kernel))); exact ⟨a, fun q hq => by cases hq; exact h⟩
    | 6 => obtain ⟨a, h⟩ := arr_o (C := "java/lang/String") (ht _ (List.mem_of_getElem? (i := 1510) (by decide +kernel))); exact ⟨a, fun q hq => by cases hq; exact h⟩
    | 7 => obtain ⟨a, h⟩ := arr_d (ht _ (List.mem_of_getElem? (i := 2259) (by decide +kernel))); exact ⟨a, fun q hq => by cases hq; exact h⟩
    | k + 8 =>
      refine ⟨m.cls, fun q hq => ?_⟩
      have h2 : k + 8 < 8 := (List.getElem?_eq_some_iff.mp hq).1
      omega
  obtain ⟨ay, hay⟩ := Classical.axiomOfChoice hay
  obtain ⟨adK, adV, hS, hE⟩ := str_of (A := fun q : Nat => s.heap.size ≤ q) hs hA
  obtain ⟨tn, hn1, hn2⟩ := va_Tof (args := #[Value.ref b]) (s := s) (tm := .static "DecadeBridge$Parts" "NOMINALS" "[I") (ty := .int) (N := 5) (f := fun j => .int (nomF j)) (A := fun q : Nat => s.heap.size ≤ q) (by decide) (hs _ (List.mem_of_getElem? (i := 5) (by decide +kernel))) (va_eqt (hs _ (List.mem_of_getElem? (i := 6) (by decide +kernel)))) (fun j hj => by
    match j, hj with
    | 0, _ => exact va_eqt (hs _ (List.mem_of_getElem? (i := 7) (by decide +kernel)))
    | 1, _ => exact va_eqt (hs _ (List.mem_of_getElem? (i := 8) (by decide +kernel)))
    | 2, _ => exact va_eqt (hs _ (List.mem_of_getElem? (i := 9) (by decide +kernel)))
    | 3, _ => exact va_eqt (hs _ (List.mem_of_getElem? (i := 10) (by decide +kernel)))
    | 4, _ => exact va_eqt (hs _ (List.mem_of_getElem? (i := 11) (by decide +kernel)))
    | j + 5, h => exact absurd h (by omega)) hA
  obtain ⟨ad, had0, hadK, hadV⟩ : ∃ ad : Nat → Nat, ad 0 = tn ∧ (∀ n, n < 20 → ad (n + 1) = adK n) ∧ (∀ n, n < 20 → ad (n + 31) = adV n) := by
    refine ⟨fun k => if k = 0 then tn else if k < 31 then adK (k - 1) else adV (k - 31), rfl, fun n hn => ?_, fun n hn => ?_⟩
    · show (if n + 1 = 0 then tn else if n + 1 < 31 then adK (n + 1 - 1) else adV (n + 1 - 31)) = _
      rw [if_neg (by omega), if_pos (by omega), Nat.add_sub_cancel]
    · show (if n + 31 = 0 then tn else if n + 31 < 31 then adK (n + 31 - 1) else adV (n + 31 - 31)) = _
      rw [if_neg (by omega), if_neg (by omega), Nat.add_sub_cancel]
  have hS2 : vk_S 20 sLen sByt (fun n => ad (n + 1)) (fun n => ad (n + 31)) (fun q : Nat => s.heap.size ≤ q) s s.heap := by
    refine ⟨fun i hi => ?_, fun i j hi hj e => ?_⟩
    · have := hS.1 i hi
      dsimp only
      rw [hadK i hi, hadV i hi]
      exact this
    · dsimp only at e
      rw [hadK i hi, hadK j hj] at e
      exact hS.2 i j hi hj e
  have hRq : ∀ i, i < 40 → (tmS i).eval #[Value.ref b] s none [] s = some (.ref (ad ((sRefs.getD i ("", 0, 0)).2.2 + 1))) := by
    intro i hi
    by_cases h20 : i < 20
    · rw [(fI i h20).1, hadK i h20]
      exact hE i h20
    · obtain ⟨j, rfl⟩ : ∃ j, i = 20 + j := ⟨i - 20, by omega⟩
      have hj : j < 20 := by omega
      have hlt := (fI j hj).2
      rw [hadK _ hlt]
      exact va_eqR (hs _ (List.mem_of_getElem? (fE j hj))) (hE _ hlt)
  have hRf : ∀ q ∈ sRefs, vk_R q.1 q.2.1 (sTxt.getD q.2.2 "") (ad (q.2.2 + 1)) s := by
    intro q hq
    obtain ⟨i, hi, hqi⟩ := List.getElem_of_mem hq
    have hi40 : i < 40 := hi
    have e : sRefs.getD i ("", 0, 0) = q := by rw [List.getD_eq_getElem?_getD, List.getElem?_eq_getElem hi, hqi]; rfl
    have h1 := ht _ (List.mem_of_getElem? (fSt i hi40))
    have h2 := hRq i hi40
    unfold tmS at h2
    rw [e] at h1 h2
    exact vk_R.of (A := #[Value.ref b]) h1 h2
  refine ⟨((fun c => (fk c).1, fun c => (fk c).2), ay, ZZ ad, ad), ⟨hx, hb, hr, hml, hown, hlocks, htb, ⟨fun c q hq => hfk c q hq, fun k q hq => ?_⟩, zz_ok _ _ _, ⟨⟨?_, ?_⟩, hS2, ?_, hRf, ⟨?_, ?_⟩, ?_⟩⟩, ⟨?_, ?_⟩, ⟨⟨?_, ?_, ?_⟩, ?_, ?_, ?_, ?_⟩⟩
  · match k, hq with
    | 0, hq => cases hq; exact hay 0 _ rfl
    | 1, hq => cases hq; exact hay 1 _ rfl
    | 2, hq => cases hq; exact hay 2 _ rfl
    | 3, hq => cases hq; exact hay 3 _ rfl
    | 4, hq => cases hq; exact hay 4 _ rfl
    | 5, hq => cases hq; exact hay 5 _ rfl
    | 6, hq => cases hq; exact hay 6 _ rfl
    | 7, hq => cases hq; exact hay 7 _ rfl
    | k + 8, hq =>
      have h2 : k + 8 < 8 := (List.getElem?_eq_some_iff.mp hq).1
      omega
  · show va_Z "DecadeBridge$Parts" "NOMINALS" "[I" (.ref (ad 0)) _ s s.heap
    rw [had0]
    exact va_Zof (ht _ (List.mem_of_getElem? (i := 383) (by decide +kernel))) (ht _ (List.mem_of_getElem? (i := 3) (by decide +kernel))) hn1 hA
  · show va_T .int (ad 0) 5 _ _ s s.heap
    rw [had0]
    exact hn2
  · exact va_Zof (ht _ (List.mem_of_getElem? (i := 633) (by decide +kernel))) (ht _ (List.mem_of_getElem? (i := 14) (by decide +kernel))) (va_eqi (hs _ (List.mem_of_getElem? (i := 12) (by decide +kernel)))) hA
  · exact vx_Zqof (ht _ (List.mem_of_getElem? (i := 1272) (by decide +kernel))) (ht _ (List.mem_of_getElem? (i := 19) (by decide +kernel))) (hs _ (List.mem_of_getElem? (i := 17) (by decide +kernel))) hA
  · exact vx_Zqof (ht _ (List.mem_of_getElem? (i := 1274) (by decide +kernel))) (ht _ (List.mem_of_getElem? (i := 19) (by decide +kernel))) (hs _ (List.mem_of_getElem? (i := 18) (by decide +kernel))) hA
  · exact va_Zqof (ht _ (List.mem_of_getElem? (i := 653) (by decide +kernel))) (ht _ (List.mem_of_getElem? (i := 16) (by decide +kernel))) (hs _ (List.mem_of_getElem? (i := 13) (by decide +kernel))) hA
  · intro w hw
    unfold xws at hw
    rcases List.mem_cons.mp hw with rfl | hw
    · exact va_any rfl (ht _ (List.mem_of_getElem? (i := 1248) (by decide +kernel)))
    rcases List.mem_cons.mp hw with rfl | hw
    · exact va_any rfl (ht _ (List.mem_of_getElem? (i := 1250) (by decide +kernel)))
    rcases List.mem_cons.mp hw with rfl | hw
    · exact va_any rfl (ht _ (List.mem_of_getElem? (i := 1252) (by decide +kernel)))
    rcases List.mem_cons.mp hw with rfl | hw
    · exact va_any rfl (ht _ (List.mem_of_getElem? (i := 1321) (by decide +kernel)))
    rcases List.mem_cons.mp hw with rfl | hw
    · exact va_any rfl (ht _ (List.mem_of_getElem? (i := 1247) (by decide +kernel)))
    · cases hw
  · exact va_Nc.of (hs _ (List.mem_of_getElem? (i := 46) (by decide +kernel)))
  · exact va_AO.of (ht _ (List.mem_of_getElem? (i := 277) (by decide +kernel)))
  · exact va_AO.of (ht _ (List.mem_of_getElem? (i := 544) (by decide +kernel)))
  · exact va_AO.of (ht _ (List.mem_of_getElem? (i := 1510) (by decide +kernel)))
  · exact va_Nw.of rfl (ht _ (List.mem_of_getElem? (i := 34) (by decide +kernel)))
  · exact va_Nw.of rfl (ht _ (List.mem_of_getElem? (i := 77) (by decide +kernel)))
  · exact va_Nw.of rfl (ht _ (List.mem_of_getElem? (i := 279) (by decide +kernel)))
  · exact va_Nw.of rfl (ht _ (List.mem_of_getElem? (i := 532) (by decide +kernel)))
end TZA
