section TYF
/-! ===== the constructor of the reference ===== -/
theorem kc_Mo_43 : Cond.classLink "DecadeBridgeModel" 43 "java/lang/String" ∈ TB := tb_all (by decide +kernel) rfl
section
variable {p : Program} {l : Launch} {e : Env} {R : Room} {s : State} {m : MethodId} {args : Array Value} {below : List Frame} {meth : Method} {c : Code} {H : Heap} {locs : List Loc} {cells slots : Nat} {Q : State → Prop} {g : GX} {pc : Nat} {ls : Array Slot} {rest : List Value} {cc : ByteArray} {nL : Nat} {ret : Option FieldType} {ws : va_W} {A : Nat → Prop} {own : String}
/-- a text laid into the row of words -/
theorem stS {q0 n a j : Nat} {f : Nat → Option Nat} {i : Int32} (k : Nat) (hk : k < 20) (C : Cx p s m args meth c A g own cc ret nL) (hP : va_P g.1 vwCl ws H) (hD : va_D A ws) (hS : va_S A s.heap H locs) (ha : ws[q0]? = some (a, aR g 6 n f)) (hin : vp_in i n) (hi : i.toNatClampNeg = j) (hdg : decode cc pc = .ok (.aastore, 1))
    (kk : ∀ (H1 : Heap) (locs1 : List Loc), va_P g.1 vwCl (ws.set q0 (a, aR g 6 n (va_up f j (some (g.2.2.2 (k + 1)))))) H1 → va_D A (ws.set q0 (a, aR g 6 n (va_up f j (some (g.2.2.2 (k + 1)))))) → va_S A s.heap H1 locs1 → W p l e R s m args below meth c H1 locs1 cells slots Q (F0 m (pc + 1) ls rest)) : W p l e R s m args below meth c H locs cells slots Q (F0 m pc ls (.ref (g.2.2.2 (k + 1)) :: .int i :: .ref a :: rest)) := by
  obtain ⟨hx, hb, hr, hml, hown, hlk, hts, hK, hZo, hZ⟩ := C
  subst hi
  exact vb_astq (E := "java/lang/String") (C := "java/lang/String") hx hb hK hP hD hS q0 6 ha rfl (zRecv hZo hZ hk hS) vb_asgS hin hdg kk
end
def aMo (L : List Nat) (k : Nat) : Nat := L.getD k 0
def o0 : IV := fun k => if k = 13 then -1 else 0
abbrev rn_Mo : Room := { frames := 2, cells := 19, slots := 5333, locals := 90 }
set_option maxRecDepth 100000 in
set_option maxHeartbeats 4000000 in
theorem n_Mo (l : Launch) (g : GX) (q : Nat) (sz : Nat) : NMet l y_Mo_init b_Mo_init 1 rn_Mo g [.ref q] [(q, .inr (12, f0Mo))] sz (fun w => ∃ (a : Nat → Nat) (now dr : LV), w = wMo g q a o0 now dr (fun _ => 0) (fun _ => 0) (fun _ => 0) (fun _ => 0) (fun _ => 0) (fun _ => 0) (fun _ => 0) (fun _ => 0) (fun _ => 0) (fun _ => 0) (fun _ => 0) (fun _ => 0) (fun _ => 0) (fun _ => 0) (fun _ => 0) (fun _ => 0) ∧ ∀ k, k < 215 → now k = r0 k) 19 5333 := by
  refine Met.ofW (cc := b_Mo_init) (maxL := 1) (ret := none) pn_Mo rfl ?_
  intro p e s m args below meth c s₁ B hml hv
  obtain ⟨hsz, rfl, C, hin, hAO, hP, hD, hS, hA⟩ := enterN "DecadeBridgeModel" rfl rfl B hml hv
  obtain ⟨hx, hb, hr, hml, hown, hlk, hts, hK, hZo, hZ⟩ := id C
  refine entryW (lv := [(0, .ref q)]) rfl (Nat.le_of_ble_eq_true rfl) (fun ls hl => ?_)
  refine lv_aload_n hx hb d_Mo_init_0 rfl (lv_at hl 0 rfl) ?_
  refine objI C ob_Mo hl d_Mo_init_1 ⟨Nat.le_of_ble_eq_true rfl, Nat.le_of_ble_eq_true rfl⟩ ?_
  refine lv_aload_n hx hb d_Mo_init_4 rfl (lv_at hl 0 rfl) ?_
  refine lv_sipush (v := 215) hx hb d_Mo_init_5 (by decide) ?_
  refine newL C hP hD hS hA ac_L (by decide) rfl (by decide) (Nat.le_of_ble_eq_true rfl) (Nat.le_of_ble_eq_true rfl) d_Mo_init_8 (fun qnow H hP hD hS => ?_)
  refine pfF C hin hP hD hS 0 0 fkMo rfl (by decide) rfl rfl qf_Mo_7 rfl rfl rfl (Nat.le_of_ble_eq_true rfl) d_Mo_init_10 (fun H locs hP hD hS => ?_)
  refine lv_aload_n hx hb d_Mo_init_13 rfl (lv_at hl 0 rfl) ?_
  refine lv_sipush (v := 215) hx hb d_Mo_init_14 (by decide) ?_
  refine newL C hP hD hS hA ac_L (by decide) rfl (by decide) (Nat.le_of_ble_eq_true rfl) (Nat.le_of_ble_eq_true rfl) d_Mo_init_17 (fun qdr H hP hD hS => ?_)
  refine pfF C hin hP hD hS 0 1 fkMo rfl (by decide) rfl rfl qf_Mo_13 rfl rfl rfl (Nat.le_of_ble_eq_true rfl) d_Mo_init_19 (fun H locs hP hD hS => ?_)
  refine lv_aload_n hx hb d_Mo_init_22 rfl (lv_at hl 0 rfl) ?_
  refine lv_sipush (v := 1720) hx hb d_Mo_init_23 (by decide) ?_
  refine newL C hP hD hS hA ac_L (by decide) rfl (by decide) (Nat.le_of_ble_eq_true rfl) (Nat.le_of_ble_eq_true rfl) d_Mo_init_26 (fun qpa H hP hD hS => ?_)
  refine pfF C hin hP hD hS 0 2 fkMo rfl (by decide) rfl rfl qf_Mo_16 rfl rfl rfl (Nat.le_of_ble_eq_true rfl) d_Mo_init_28 (fun H locs hP hD hS => ?_)
  refine lv_aload_n hx hb d_Mo_init_31 rfl (lv_at hl 0 rfl) ?_
  refine lv_sipush (v := 430) hx hb d_Mo_init_32 (by decide) ?_
  refine newL C hP hD hS hA ac_L (by decide) rfl (by decide) (Nat.le_of_ble_eq_true rfl) (Nat.le_of_ble_eq_true rfl) d_Mo_init_35 (fun qsa H hP hD hS => ?_)
  refine pfF C hin hP hD hS 0 3 fkMo rfl (by decide) rfl rfl qf_Mo_19 rfl rfl rfl (Nat.le_of_ble_eq_true rfl) d_Mo_init_37 (fun H locs hP hD hS => ?_)
  obtain ⟨hP, hD⟩ : va_P g.1 vwCl ([(q, .inr (12, [.ref qnow, .ref qdr, .ref qpa, .ref qsa, .null, .int 0, .int 0, .null, .int 0, .int 0, .int 0, .int 0, .int 0, .int 0, .null, .null, .null, .null, .null, .null, .null, .null, .int 0, .null, .null, .null, .null, .null, .int 0])), (qnow, aL g 215 (fun _ => 0)), (qdr, aL g 215 (fun _ => 0)), (qpa, aL g 1720 (fun _ => 0)), (qsa, aL g 430 (fun _ => 0))]) H ∧ va_D (va_A [(q, .inr (12, f0Mo))] s.heap.size) ([(q, .inr (12, [.ref qnow, .ref qdr, .ref qpa, .ref qsa, .null, .int 0, .int 0, .null, .int 0, .int 0, .int 0, .int 0, .int 0, .int 0, .null, .null, .null, .null, .null, .null, .null, .null, .int 0, .null, .null, .null, .null, .null, .int 0])), (qnow, aL g 215 (fun _ => 0)), (qdr, aL g 215 (fun _ => 0)), (qpa, aL g 1720 (fun _ => 0)), (qsa, aL g 430 (fun _ => 0))]) := ⟨hP, hD⟩
  refine lv_aload_n hx hb d_Mo_init_40 rfl (lv_at hl 0 rfl) ?_
  refine lv_iconst (v := 2) hx hb d_Mo_init_41 (by decide) ?_
  refine newZ C hP hD hS hA ac_Z (by decide) rfl (by decide) (Nat.le_of_ble_eq_true rfl) (Nat.le_of_ble_eq_true rfl) d_Mo_init_42 (fun qis H hP hD hS => ?_)
  refine pfF C hin hP hD hS 0 4 fkMo rfl (by decide) rfl rfl qf_Mo_22 rfl rfl rfl (Nat.le_of_ble_eq_true rfl) d_Mo_init_44 (fun H locs hP hD hS => ?_)
  refine lv_aload_n hx hb d_Mo_init_47 rfl (lv_at hl 0 rfl) ?_
  refine lv_sipush (v := 600) hx hb d_Mo_init_48 (by decide) ?_
  refine newI C hP hD hS hA ac_I (by decide) rfl (by decide) (Nat.le_of_ble_eq_true rfl) (Nat.le_of_ble_eq_true rfl) d_Mo_init_51 (fun qbu H hP hD hS => ?_)
  refine pfF C hin hP hD hS 0 7 fkMo rfl (by decide) rfl rfl qf_Mo_26 rfl rfl rfl (Nat.le_of_ble_eq_true rfl) d_Mo_init_53 (fun H locs hP hD hS => ?_)
  refine lv_aload_n hx hb d_Mo_init_56 rfl (lv_at hl 0 rfl) ?_
  refine lv_iconst (v := -1) hx hb d_Mo_init_57 (by decide) ?_
  refine pfI C hP hD hS 0 13 (ff := fun o : IV => [.ref qnow, .ref qdr, .ref qpa, .ref qsa, .ref qis, .int (o 5), .int (o 6), .ref qbu, .int (o 8), .int (o 9), .int (o 10), .int (o 11), .int (o 12), .int (o 13), .null, .null, .null, .null, .null, .null, .null, .null, .int (o 22), .null, .null, .null, .null, .null, .int (o 28)]) (o := fun _ => 0) fkMo rfl (by decide) rfl qf_Mo_30 rfl rfl rfl (Nat.le_of_ble_eq_true rfl) rfl d_Mo_init_58 (fun o1 eo H locs hP hD hS => ?_)
  subst eo
  obtain ⟨hP, hD⟩ : va_P g.1 vwCl ([(q, .inr (12, [.ref qnow, .ref qdr, .ref qpa, .ref qsa, .ref qis, .int 0, .int 0, .ref qbu, .int 0, .int 0, .int 0, .int 0, .int 0, .int (-1), .null, .null, .null, .null, .null, .null, .null, .null, .int 0, .null, .null, .null, .null, .null, .int 0])), (qnow, aL g 215 (fun _ => 0)), (qdr, aL g 215 (fun _ => 0)), (qpa, aL g 1720 (fun _ => 0)), (qsa, aL g 430 (fun _ => 0)), (qis, aZ g 2 (fun _ => 0)), (qbu, aI g 600 (fun _ => 0))]) H ∧ va_D (va_A [(q, .inr (12, f0Mo))] s.heap.size) ([(q, .inr (12, [.ref qnow, .ref qdr, .ref qpa, .ref qsa, .ref qis, .int 0, .int 0, .ref qbu, .int 0, .int 0, .int 0, .int 0, .int 0, .int (-1), .null, .null, .null, .null, .null, .null, .null, .null, .int 0, .null, .null, .null, .null, .null, .int 0])), (qnow, aL g 215 (fun _ => 0)), (qdr, aL g 215 (fun _ => 0)), (qpa, aL g 1720 (fun _ => 0)), (qsa, aL g 430 (fun _ => 0)), (qis, aZ g 2 (fun _ => 0)), (qbu, aI g 600 (fun _ => 0))]) := ⟨hP, hD⟩
  refine lv_aload_n hx hb d_Mo_init_61 rfl (lv_at hl 0 rfl) ?_
  refine lv_bipush (v := 6) hx hb d_Mo_init_62 (by decide) ?_
  refine newZ C hP hD hS hA ac_Z (by decide) rfl (by decide) (Nat.le_of_ble_eq_true rfl) (Nat.le_of_ble_eq_true rfl) d_Mo_init_64 (fun qtq H hP hD hS => ?_)
  refine pfF C hin hP hD hS 0 14 fkMo rfl (by decide) rfl rfl qf_Mo_34 rfl rfl rfl (Nat.le_of_ble_eq_true rfl) d_Mo_init_66 (fun H locs hP hD hS => ?_)
  refine lv_aload_n hx hb d_Mo_init_69 rfl (lv_at hl 0 rfl) ?_
  refine lv_iconst (v := 5) hx hb d_Mo_init_70 (by decide) ?_
  refine newZ C hP hD hS hA ac_Z (by decide) rfl (by decide) (Nat.le_of_ble_eq_true rfl) (Nat.le_of_ble_eq_true rfl) d_Mo_init_71 (fun qrT H hP hD hS => ?_)
  refine pfF C hin hP hD hS 0 15 fkMo rfl (by decide) rfl rfl qf_Mo_37 rfl rfl rfl (Nat.le_of_ble_eq_true rfl) d_Mo_init_73 (fun H locs hP hD hS => ?_)
  obtain ⟨hP, hD⟩ : va_P g.1 vwCl ([(q, .inr (12, [.ref qnow, .ref qdr, .ref qpa, .ref qsa, .ref qis, .int 0, .int 0, .ref qbu, .int 0, .int 0, .int 0, .int 0, .int 0, .int (-1), .ref qtq, .ref qrT, .null, .null, .null, .null, .null, .null, .int 0, .null, .null, .null, .null, .null, .int 0])), (qnow, aL g 215 (fun _ => 0)), (qdr, aL g 215 (fun _ => 0)), (qpa, aL g 1720 (fun _ => 0)), (qsa, aL g 430 (fun _ => 0)), (qis, aZ g 2 (fun _ => 0)), (qbu, aI g 600 (fun _ => 0)), (qtq, aZ g 6 (fun _ => 0)), (qrT, aZ g 5 (fun _ => 0))]) H ∧ va_D (va_A [(q, .inr (12, f0Mo))] s.heap.size) ([(q, .inr (12, [.ref qnow, .ref qdr, .ref qpa, .ref qsa, .ref qis, .int 0, .int 0, .ref qbu, .int 0, .int 0, .int 0, .int 0, .int 0, .int (-1), .ref qtq, .ref qrT, .null, .null, .null, .null, .null, .null, .int 0, .null, .null, .null, .null, .null, .int 0])), (qnow, aL g 215 (fun _ => 0)), (qdr, aL g 215 (fun _ => 0)), (qpa, aL g 1720 (fun _ => 0)), (qsa, aL g 430 (fun _ => 0)), (qis, aZ g 2 (fun _ => 0)), (qbu, aI g 600 (fun _ => 0)), (qtq, aZ g 6 (fun _ => 0)), (qrT, aZ g 5 (fun _ => 0))]) := ⟨hP, hD⟩
  refine lv_aload_n hx hb d_Mo_init_76 rfl (lv_at hl 0 rfl) ?_
  refine lv_iconst (v := 2) hx hb d_Mo_init_77 (by decide) ?_
  refine newZ C hP hD hS hA ac_Z (by decide) rfl (by decide) (Nat.le_of_ble_eq_true rfl) (Nat.le_of_ble_eq_true rfl) d_Mo_init_78 (fun qwT H hP hD hS => ?_)
  refine pfF C hin hP hD hS 0 16 fkMo rfl (by decide) rfl rfl qf_Mo_40 rfl rfl rfl (Nat.le_of_ble_eq_true rfl) d_Mo_init_80 (fun H locs hP hD hS => ?_)
  refine lv_aload_n hx hb d_Mo_init_83 rfl (lv_at hl 0 rfl) ?_
  refine lv_bipush (v := 10) hx hb d_Mo_init_84 (by decide) ?_
  refine newQ (k := 6) C hP hD hS hA kc_Mo_43 hAO.1.2.2 rfl (by decide) rfl (by decide) (Nat.le_of_ble_eq_true rfl) (Nat.le_of_ble_eq_true rfl) d_Mo_init_86 (fun qwd H hP hD hS => ?_)
  obtain ⟨hP, hD⟩ : va_P g.1 vwCl ([(q, .inr (12, [.ref qnow, .ref qdr, .ref qpa, .ref qsa, .ref qis, .int 0, .int 0, .ref qbu, .int 0, .int 0, .int 0, .int 0, .int 0, .int (-1), .ref qtq, .ref qrT, .ref qwT, .null, .null, .null, .null, .null, .int 0, .null, .null, .null, .null, .null, .int 0])), (qnow, aL g 215 (fun _ => 0)), (qdr, aL g 215 (fun _ => 0)), (qpa, aL g 1720 (fun _ => 0)), (qsa, aL g 430 (fun _ => 0)), (qis, aZ g 2 (fun _ => 0)), (qbu, aI g 600 (fun _ => 0)), (qtq, aZ g 6 (fun _ => 0)), (qrT, aZ g 5 (fun _ => 0)), (qwT, aZ g 2 (fun _ => 0)), (qwd, aR g 6 10 (fun _ => none))]) H ∧ va_D (va_A [(q, .inr (12, f0Mo))] s.heap.size) ([(q, .inr (12, [.ref qnow, .ref qdr, .ref qpa, .ref qsa, .ref qis, .int 0, .int 0, .ref qbu, .int 0, .int 0, .int 0, .int 0, .int 0, .int (-1), .ref qtq, .ref qrT, .ref qwT, .null, .null, .null, .null, .null, .int 0, .null, .null, .null, .null, .null, .int 0])), (qnow, aL g 215 (fun _ => 0)), (qdr, aL g 215 (fun _ => 0)), (qpa, aL g 1720 (fun _ => 0)), (qsa, aL g 430 (fun _ => 0)), (qis, aZ g 2 (fun _ => 0)), (qbu, aI g 600 (fun _ => 0)), (qtq, aZ g 6 (fun _ => 0)), (qrT, aZ g 5 (fun _ => 0)), (qwT, aZ g 2 (fun _ => 0)), (qwd, aR g 6 10 (fun _ => none))]) := ⟨hP, hD⟩
  refine lv_dup hx hb d_Mo_init_89 rfl ?_
  refine lv_iconst (v := 0) hx hb d_Mo_init_90 (by decide) ?_
  refine va_ldcS hx hb hown (zRef hZo hZ ("DecadeBridgeModel", 45, 8) (by decide +kernel)) d_Mo_init_91 ?_
  refine stS 8 (by decide) (q0 := 10) (j := 0) C hP hD hS rfl (vi (k := 0) (by decide) rfl (by decide)) rfl d_Mo_init_93 (fun H locs hP hD hS => ?_)
  refine lv_dup hx hb d_Mo_init_94 rfl ?_
  refine lv_iconst (v := 1) hx hb d_Mo_init_95 (by decide) ?_
  refine va_ldcS hx hb hown (zRef hZo hZ ("DecadeBridgeModel", 47, 9) (by decide +kernel)) d_Mo_init_96 ?_
  refine stS 9 (by decide) (q0 := 10) (j := 1) C hP hD hS rfl (vi (k := 1) (by decide) rfl (by decide)) rfl d_Mo_init_98 (fun H locs hP hD hS => ?_)
  refine lv_dup hx hb d_Mo_init_99 rfl ?_
  refine lv_iconst (v := 2) hx hb d_Mo_init_100 (by decide) ?_
  refine va_ldcS hx hb hown (zRef hZo hZ ("DecadeBridgeModel", 49, 10) (by decide +kernel)) d_Mo_init_101 ?_
  refine stS 10 (by decide) (q0 := 10) (j := 2) C hP hD hS rfl (vi (k := 2) (by decide) rfl (by decide)) rfl d_Mo_init_103 (fun H locs hP hD hS => ?_)
  refine lv_dup hx hb d_Mo_init_104 rfl ?_
  refine lv_iconst (v := 3) hx hb d_Mo_init_105 (by decide) ?_
  refine va_ldcS hx hb hown (zRef hZo hZ ("DecadeBridgeModel", 51, 11) (by decide +kernel)) d_Mo_init_106 ?_
  refine stS 11 (by decide) (q0 := 10) (j := 3) C hP hD hS rfl (vi (k := 3) (by decide) rfl (by decide)) rfl d_Mo_init_108 (fun H locs hP hD hS => ?_)
  refine lv_dup hx hb d_Mo_init_109 rfl ?_
  refine lv_iconst (v := 4) hx hb d_Mo_init_110 (by decide) ?_
  refine va_ldcS hx hb hown (zRef hZo hZ ("DecadeBridgeModel", 53, 12) (by decide +kernel)) d_Mo_init_111 ?_
  refine stS 12 (by decide) (q0 := 10) (j := 4) C hP hD hS rfl (vi (k := 4) (by decide) rfl (by decide)) rfl d_Mo_init_113 (fun H locs hP hD hS => ?_)
  refine lv_dup hx hb d_Mo_init_114 rfl ?_
  refine lv_iconst (v := 5) hx hb d_Mo_init_115 (by decide) ?_
  refine va_ldcS hx hb hown (zRef hZo hZ ("DecadeBridgeModel", 55, 13) (by decide +kernel)) d_Mo_init_116 ?_
  refine stS 13 (by decide) (q0 := 10) (j := 5) C hP hD hS rfl (vi (k := 5) (by decide) rfl (by decide)) rfl d_Mo_init_118 (fun H locs hP hD hS => ?_)
  refine lv_dup hx hb d_Mo_init_119 rfl ?_
  refine lv_bipush (v := 6) hx hb d_Mo_init_120 (by decide) ?_
  refine va_ldcS hx hb hown (zRef hZo hZ ("DecadeBridgeModel", 57, 14) (by decide +kernel)) d_Mo_init_122 ?_
  refine stS 14 (by decide) (q0 := 10) (j := 6) C hP hD hS rfl (vi (k := 6) (by decide) rfl (by decide)) rfl d_Mo_init_124 (fun H locs hP hD hS => ?_)
  refine lv_dup hx hb d_Mo_init_125 rfl ?_
  refine lv_bipush (v := 7) hx hb d_Mo_init_126 (by decide) ?_
  refine va_ldcS hx hb hown (zRef hZo hZ ("DecadeBridgeModel", 59, 15) (by decide +kernel)) d_Mo_init_128 ?_
  refine stS 15 (by decide) (q0 := 10) (j := 7) C hP hD hS rfl (vi (k := 7) (by decide) rfl (by decide)) rfl d_Mo_init_130 (fun H locs hP hD hS => ?_)
  refine lv_dup hx hb d_Mo_init_131 rfl ?_
  refine lv_bipush (v := 8) hx hb d_Mo_init_132 (by decide) ?_
  refine va_ldcS hx hb hown (zRef hZo hZ ("DecadeBridgeModel", 61, 16) (by decide +kernel)) d_Mo_init_134 ?_
  refine stS 16 (by decide) (q0 := 10) (j := 8) C hP hD hS rfl (vi (k := 8) (by decide) rfl (by decide)) rfl d_Mo_init_136 (fun H locs hP hD hS => ?_)
  refine lv_dup hx hb d_Mo_init_137 rfl ?_
  refine lv_bipush (v := 9) hx hb d_Mo_init_138 (by decide) ?_
  refine va_ldcS hx hb hown (zRef hZo hZ ("DecadeBridgeModel", 63, 17) (by decide +kernel)) d_Mo_init_140 ?_
  refine stS 17 (by decide) (q0 := 10) (j := 9) C hP hD hS rfl (vi (k := 9) (by decide) rfl (by decide)) rfl d_Mo_init_142 (fun H locs hP hD hS => ?_)
  refine pfF C hin hP hD hS 0 17 fkMo rfl (by decide) rfl rfl qf_Mo_65 rfl rfl rfl (Nat.le_of_ble_eq_true rfl) d_Mo_init_143 (fun H locs hP hD hS => ?_)
  obtain ⟨hP, hD⟩ := va_setf hP hD 10 rfl (aR_at (f' := fun j => some (g.2.2.2 (j + 9))) (fun j hj => by
    match j, hj with
    | 0, _ => rfl
    | 1, _ => rfl
    | 2, _ => rfl
    | 3, _ => rfl
    | 4, _ => rfl
    | 5, _ => rfl
    | 6, _ => rfl
    | 7, _ => rfl
    | 8, _ => rfl
    | 9, _ => rfl
    | j + 10, h => exact absurd h (by omega)))
  obtain ⟨hP, hD⟩ : va_P g.1 vwCl ([(q, .inr (12, [.ref qnow, .ref qdr, .ref qpa, .ref qsa, .ref qis, .int 0, .int 0, .ref qbu, .int 0, .int 0, .int 0, .int 0, .int 0, .int (-1), .ref qtq, .ref qrT, .ref qwT, .ref qwd, .null, .null, .null, .null, .int 0, .null, .null, .null, .null, .null, .int 0])), (qnow, aL g 215 (fun _ => 0)), (qdr, aL g 215 (fun _ => 0)), (qpa, aL g 1720 (fun _ => 0)), (qsa, aL g 430 (fun _ => 0)), (qis, aZ g 2 (fun _ => 0)), (qbu, aI g 600 (fun _ => 0)), (qtq, aZ g 6 (fun _ => 0)), (qrT, aZ g 5 (fun _ => 0)), (qwT, aZ g 2 (fun _ => 0)), (qwd, aR g 6 10 (fun j => some (g.2.2.2 (j + 9))))]) H ∧ va_D (va_A [(q, .inr (12, f0Mo))] s.heap.size) ([(q, .inr (12, [.ref qnow, .ref qdr, .ref qpa, .ref qsa, .ref qis, .int 0, .int 0, .ref qbu, .int 0, .int 0, .int 0, .int 0, .int 0, .int (-1), .ref qtq, .ref qrT, .ref qwT, .ref qwd, .null, .null, .null, .null, .int 0, .null, .null, .null, .null, .null, .int 0])), (qnow, aL g 215 (fun _ => 0)), (qdr, aL g 215 (fun _ => 0)), (qpa, aL g 1720 (fun _ => 0)), (qsa, aL g 430 (fun _ => 0)), (qis, aZ g 2 (fun _ => 0)), (qbu, aI g 600 (fun _ => 0)), (qtq, aZ g 6 (fun _ => 0)), (qrT, aZ g 5 (fun _ => 0)), (qwT, aZ g 2 (fun _ => 0)), (qwd, aR g 6 10 (fun j => some (g.2.2.2 (j + 9))))]) := ⟨hP, hD⟩
  refine lv_aload_n hx hb d_Mo_init_146 rfl (lv_at hl 0 rfl) ?_
  refine lv_bipush (v := 30) hx hb d_Mo_init_147 (by decide) ?_
  refine newI C hP hD hS hA ac_I (by decide) rfl (by decide) (Nat.le_of_ble_eq_true rfl) (Nat.le_of_ble_eq_true rfl) d_Mo_init_149 (fun qsK H hP hD hS => ?_)
  refine pfF C hin hP hD hS 0 18 fkMo rfl (by decide) rfl rfl qf_Mo_69 rfl rfl rfl (Nat.le_of_ble_eq_true rfl) d_Mo_init_151 (fun H locs hP hD hS => ?_)
  refine lv_aload_n hx hb d_Mo_init_154 rfl (lv_at hl 0 rfl) ?_
  refine lv_bipush (v := 30) hx hb d_Mo_init_155 (by decide) ?_
  refine newI C hP hD hS hA ac_I (by decide) rfl (by decide) (Nat.le_of_ble_eq_true rfl) (Nat.le_of_ble_eq_true rfl) d_Mo_init_157 (fun qsA H hP hD hS => ?_)
  refine pfF C hin hP hD hS 0 19 fkMo rfl (by decide) rfl rfl qf_Mo_72 rfl rfl rfl (Nat.le_of_ble_eq_true rfl) d_Mo_init_159 (fun H locs hP hD hS => ?_)
  refine lv_aload_n hx hb d_Mo_init_162 rfl (lv_at hl 0 rfl) ?_
  refine lv_bipush (v := 30) hx hb d_Mo_init_163 (by decide) ?_
  refine newI C hP hD hS hA ac_I (by decide) rfl (by decide) (Nat.le_of_ble_eq_true rfl) (Nat.le_of_ble_eq_true rfl) d_Mo_init_165 (fun qsB H hP hD hS => ?_)
  refine pfF C hin hP hD hS 0 20 fkMo rfl (by decide) rfl rfl qf_Mo_75 rfl rfl rfl (Nat.le_of_ble_eq_true rfl) d_Mo_init_167 (fun H locs hP hD hS => ?_)
  obtain ⟨hP, hD⟩ : va_P g.1 vwCl ([(q, .inr (12, [.ref qnow, .ref qdr, .ref qpa, .ref qsa, .ref qis, .int 0, .int 0, .ref qbu, .int 0, .int 0, .int 0, .int 0, .int 0, .int (-1), .ref qtq, .ref qrT, .ref qwT, .ref qwd, .ref qsK, .ref qsA, .ref qsB, .null, .int 0, .null, .null, .null, .null, .null, .int 0])), (qnow, aL g 215 (fun _ => 0)), (qdr, aL g 215 (fun _ => 0)), (qpa, aL g 1720 (fun _ => 0)), (qsa, aL g 430 (fun _ => 0)), (qis, aZ g 2 (fun _ => 0)), (qbu, aI g 600 (fun _ => 0)), (qtq, aZ g 6 (fun _ => 0)), (qrT, aZ g 5 (fun _ => 0)), (qwT, aZ g 2 (fun _ => 0)), (qwd, aR g 6 10 (fun j => some (g.2.2.2 (j + 9)))), (qsK, aI g 30 (fun _ => 0)), (qsA, aI g 30 (fun _ => 0)), (qsB, aI g 30 (fun _ => 0))]) H ∧ va_D (va_A [(q, .inr (12, f0Mo))] s.heap.size) ([(q, .inr (12, [.ref qnow, .ref qdr, .ref qpa, .ref qsa, .ref qis, .int 0, .int 0, .ref qbu, .int 0, .int 0, .int 0, .int 0, .int 0, .int (-1), .ref qtq, .ref qrT, .ref qwT, .ref qwd, .ref qsK, .ref qsA, .ref qsB, .null, .int 0, .null, .null, .null, .null, .null, .int 0])), (qnow, aL g 215 (fun _ => 0)), (qdr, aL g 215 (fun _ => 0)), (qpa, aL g 1720 (fun _ => 0)), (qsa, aL g 430 (fun _ => 0)), (qis, aZ g 2 (fun _ => 0)), (qbu, aI g 600 (fun _ => 0)), (qtq, aZ g 6 (fun _ => 0)), (qrT, aZ g 5 (fun _ => 0)), (qwT, aZ g 2 (fun _ => 0)), (qwd, aR g 6 10 (fun j => some (g.2.2.2 (j + 9)))), (qsK, aI g 30 (fun _ => 0)), (qsA, aI g 30 (fun _ => 0)), (qsB, aI g 30 (fun _ => 0))]) := ⟨hP, hD⟩
  refine lv_aload_n hx hb d_Mo_init_170 rfl (lv_at hl 0 rfl) ?_
  refine lv_bipush (v := 30) hx hb d_Mo_init_171 (by decide) ?_
  refine newI C hP hD hS hA ac_I (by decide) rfl (by decide) (Nat.le_of_ble_eq_true rfl) (Nat.le_of_ble_eq_true rfl) d_Mo_init_173 (fun qsE H hP hD hS => ?_)
  refine pfF C hin hP hD hS 0 21 fkMo rfl (by decide) rfl rfl qf_Mo_78 rfl rfl rfl (Nat.le_of_ble_eq_true rfl) d_Mo_init_175 (fun H locs hP hD hS => ?_)
  refine lv_aload_n hx hb d_Mo_init_178 rfl (lv_at hl 0 rfl) ?_
  refine lv_iconst (v := 2) hx hb d_Mo_init_179 (by decide) ?_
  refine newI C hP hD hS hA ac_I (by decide) rfl (by decide) (Nat.le_of_ble_eq_true rfl) (Nat.le_of_ble_eq_true rfl) d_Mo_init_180 (fun qoq H hP hD hS => ?_)
  refine pfF C hin hP hD hS 0 23 fkMo rfl (by decide) rfl rfl qf_Mo_81 rfl rfl rfl (Nat.le_of_ble_eq_true rfl) d_Mo_init_182 (fun H locs hP hD hS => ?_)
  refine lv_aload_n hx hb d_Mo_init_185 rfl (lv_at hl 0 rfl) ?_
  refine lv_iconst (v := 2) hx hb d_Mo_init_186 (by decide) ?_
  refine newI C hP hD hS hA ac_I (by decide) rfl (by decide) (Nat.le_of_ble_eq_true rfl) (Nat.le_of_ble_eq_true rfl) d_Mo_init_187 (fun qbS H hP hD hS => ?_)
  refine pfF C hin hP hD hS 0 24 fkMo rfl (by decide) rfl rfl qf_Mo_84 rfl rfl rfl (Nat.le_of_ble_eq_true rfl) d_Mo_init_189 (fun H locs hP hD hS => ?_)
  refine lv_aload_n hx hb d_Mo_init_192 rfl (lv_at hl 0 rfl) ?_
  refine lv_iconst (v := 2) hx hb d_Mo_init_193 (by decide) ?_
  refine newI C hP hD hS hA ac_I (by decide) rfl (by decide) (Nat.le_of_ble_eq_true rfl) (Nat.le_of_ble_eq_true rfl) d_Mo_init_194 (fun qbE H hP hD hS => ?_)
  refine pfF C hin hP hD hS 0 25 fkMo rfl (by decide) rfl rfl qf_Mo_87 rfl rfl rfl (Nat.le_of_ble_eq_true rfl) d_Mo_init_196 (fun H locs hP hD hS => ?_)
  obtain ⟨hP, hD⟩ : va_P g.1 vwCl ([(q, .inr (12, [.ref qnow, .ref qdr, .ref qpa, .ref qsa, .ref qis, .int 0, .int 0, .ref qbu, .int 0, .int 0, .int 0, .int 0, .int 0, .int (-1), .ref qtq, .ref qrT, .ref qwT, .ref qwd, .ref qsK, .ref qsA, .ref qsB, .ref qsE, .int 0, .ref qoq, .ref qbS, .ref qbE, .null, .null, .int 0])), (qnow, aL g 215 (fun _ => 0)), (qdr, aL g 215 (fun _ => 0)), (qpa, aL g 1720 (fun _ => 0)), (qsa, aL g 430 (fun _ => 0)), (qis, aZ g 2 (fun _ => 0)), (qbu, aI g 600 (fun _ => 0)), (qtq, aZ g 6 (fun _ => 0)), (qrT, aZ g 5 (fun _ => 0)), (qwT, aZ g 2 (fun _ => 0)), (qwd, aR g 6 10 (fun j => some (g.2.2.2 (j + 9)))), (qsK, aI g 30 (fun _ => 0)), (qsA, aI g 30 (fun _ => 0)), (qsB, aI g 30 (fun _ => 0)), (qsE, aI g 30 (fun _ => 0)), (qoq, aI g 2 (fun _ => 0)), (qbS, aI g 2 (fun _ => 0)), (qbE, aI g 2 (fun _ => 0))]) H ∧ va_D (va_A [(q, .inr (12, f0Mo))] s.heap.size) ([(q, .inr (12, [.ref qnow, .ref qdr, .ref qpa, .ref qsa, .ref qis, .int 0, .int 0, .ref qbu, .int 0, .int 0, .int 0, .int 0, .int 0, .int (-1), .ref qtq, .ref qrT, .ref qwT, .ref qwd, .ref qsK, .ref qsA, .ref qsB, .ref qsE, .int 0, .ref qoq, .ref qbS, .ref qbE, .null, .null, .int 0])), (qnow, aL g 215 (fun _ => 0)), (qdr, aL g 215 (fun _ => 0)), (qpa, aL g 1720 (fun _ => 0)), (qsa, aL g 430 (fun _ => 0)), (qis, aZ g 2 (fun _ => 0)), (qbu, aI g 600 (fun _ => 0)), (qtq, aZ g 6 (fun _ => 0)), (qrT, aZ g 5 (fun _ => 0)), (qwT, aZ g 2 (fun _ => 0)), (qwd, aR g 6 10 (fun j => some (g.2.2.2 (j + 9)))), (qsK, aI g 30 (fun _ => 0)), (qsA, aI g 30 (fun _ => 0)), (qsB, aI g 30 (fun _ => 0)), (qsE, aI g 30 (fun _ => 0)), (qoq, aI g 2 (fun _ => 0)), (qbS, aI g 2 (fun _ => 0)), (qbE, aI g 2 (fun _ => 0))]) := ⟨hP, hD⟩
  refine lv_aload_n hx hb d_Mo_init_199 rfl (lv_at hl 0 rfl) ?_
  refine lv_iconst (v := 2) hx hb d_Mo_init_200 (by decide) ?_
  refine newI C hP hD hS hA ac_I (by decide) rfl (by decide) (Nat.le_of_ble_eq_true rfl) (Nat.le_of_ble_eq_true rfl) d_Mo_init_201 (fun qbL H hP hD hS => ?_)
  refine pfF C hin hP hD hS 0 26 fkMo rfl (by decide) rfl rfl qf_Mo_90 rfl rfl rfl (Nat.le_of_ble_eq_true rfl) d_Mo_init_203 (fun H locs hP hD hS => ?_)
  refine lv_aload_n hx hb d_Mo_init_206 rfl (lv_at hl 0 rfl) ?_
  refine lv_sipush (v := 2000) hx hb d_Mo_init_207 (by decide) ?_
  refine newB C hP hD hS hA ac_B (by decide) rfl (by decide) (Nat.le_of_ble_eq_true rfl) (Nat.le_of_ble_eq_true rfl) d_Mo_init_210 (fun qrp H hP hD hS => ?_)
  refine pfF C hin hP hD hS 0 27 fkMo rfl (by decide) rfl rfl qf_Mo_93 rfl rfl rfl (Nat.le_of_ble_eq_true rfl) d_Mo_init_212 (fun H locs hP hD hS => ?_)
  obtain ⟨hP, hD⟩ : va_P g.1 vwCl ([(q, .inr (12, [.ref qnow, .ref qdr, .ref qpa, .ref qsa, .ref qis, .int 0, .int 0, .ref qbu, .int 0, .int 0, .int 0, .int 0, .int 0, .int (-1), .ref qtq, .ref qrT, .ref qwT, .ref qwd, .ref qsK, .ref qsA, .ref qsB, .ref qsE, .int 0, .ref qoq, .ref qbS, .ref qbE, .ref qbL, .ref qrp, .int 0])), (qnow, aL g 215 (fun _ => 0)), (qdr, aL g 215 (fun _ => 0)), (qpa, aL g 1720 (fun _ => 0)), (qsa, aL g 430 (fun _ => 0)), (qis, aZ g 2 (fun _ => 0)), (qbu, aI g 600 (fun _ => 0)), (qtq, aZ g 6 (fun _ => 0)), (qrT, aZ g 5 (fun _ => 0)), (qwT, aZ g 2 (fun _ => 0)), (qwd, aR g 6 10 (fun j => some (g.2.2.2 (j + 9)))), (qsK, aI g 30 (fun _ => 0)), (qsA, aI g 30 (fun _ => 0)), (qsB, aI g 30 (fun _ => 0)), (qsE, aI g 30 (fun _ => 0)), (qoq, aI g 2 (fun _ => 0)), (qbS, aI g 2 (fun _ => 0)), (qbE, aI g 2 (fun _ => 0)), (qbL, aI g 2 (fun _ => 0)), (qrp, aB g 2000 (fun _ => 0))]) H ∧ va_D (va_A [(q, .inr (12, f0Mo))] s.heap.size) ([(q, .inr (12, [.ref qnow, .ref qdr, .ref qpa, .ref qsa, .ref qis, .int 0, .int 0, .ref qbu, .int 0, .int 0, .int 0, .int 0, .int 0, .int (-1), .ref qtq, .ref qrT, .ref qwT, .ref qwd, .ref qsK, .ref qsA, .ref qsB, .ref qsE, .int 0, .ref qoq, .ref qbS, .ref qbE, .ref qbL, .ref qrp, .int 0])), (qnow, aL g 215 (fun _ => 0)), (qdr, aL g 215 (fun _ => 0)), (qpa, aL g 1720 (fun _ => 0)), (qsa, aL g 430 (fun _ => 0)), (qis, aZ g 2 (fun _ => 0)), (qbu, aI g 600 (fun _ => 0)), (qtq, aZ g 6 (fun _ => 0)), (qrT, aZ g 5 (fun _ => 0)), (qwT, aZ g 2 (fun _ => 0)), (qwd, aR g 6 10 (fun j => some (g.2.2.2 (j + 9)))), (qsK, aI g 30 (fun _ => 0)), (qsA, aI g 30 (fun _ => 0)), (qsB, aI g 30 (fun _ => 0)), (qsE, aI g 30 (fun _ => 0)), (qoq, aI g 2 (fun _ => 0)), (qbS, aI g 2 (fun _ => 0)), (qbE, aI g 2 (fun _ => 0)), (qbL, aI g 2 (fun _ => 0)), (qrp, aB g 2000 (fun _ => 0))]) := ⟨hP, hD⟩
  obtain ⟨hP, hD⟩ : va_P g.1 vwCl (wMo g q (aMo [qnow, qdr, qpa, qsa, qis, 0, 0, qbu, 0, 0, 0, 0, 0, 0, qtq, qrT, qwT, qwd, qsK, qsA, qsB, qsE, 0, qoq, qbS, qbE, qbL, qrp]) o0 (fun _ => 0) (fun _ => 0) (fun _ => 0) (fun _ => 0) (fun _ => 0) (fun _ => 0) (fun _ => 0) (fun _ => 0) (fun _ => 0) (fun _ => 0) (fun _ => 0) (fun _ => 0) (fun _ => 0) (fun _ => 0) (fun _ => 0) (fun _ => 0) (fun _ => 0) (fun _ => 0)) H ∧ va_D (va_A [(q, .inr (12, f0Mo))] s.heap.size) (wMo g q (aMo [qnow, qdr, qpa, qsa, qis, 0, 0, qbu, 0, 0, 0, 0, 0, 0, qtq, qrT, qwT, qwd, qsK, qsA, qsB, qsE, 0, qoq, qbS, qbE, qbL, qrp]) o0 (fun _ => 0) (fun _ => 0) (fun _ => 0) (fun _ => 0) (fun _ => 0) (fun _ => 0) (fun _ => 0) (fun _ => 0) (fun _ => 0) (fun _ => 0) (fun _ => 0) (fun _ => 0) (fun _ => 0) (fun _ => 0) (fun _ => 0) (fun _ => 0) (fun _ => 0) (fun _ => 0)) := ⟨hP, hD⟩
  refine lv_aload_n hx hb d_Mo_init_215 rfl (lv_at hl 0 rfl) ?_
  refine ocall (wx := wMo g q (aMo [qnow, qdr, qpa, qsa, qis, 0, 0, qbu, 0, 0, 0, 0, 0, 0, qtq, qrT, qwT, qwd, qsK, qsA, qsB, qsE, 0, qoq, qbS, qbE, qbL, qrp]) o0 (fun _ => 0) (fun _ => 0) (fun _ => 0) (fun _ => 0) (fun _ => 0) (fun _ => 0) (fun _ => 0) (fun _ => 0) (fun _ => 0) (fun _ => 0) (fun _ => 0) (fun _ => 0) (fun _ => 0) (fun _ => 0) (fun _ => 0) (fun _ => 0) (fun _ => 0) (fun _ => 0)) (r := []) C mf_Mo_setPlain qm_Mo_97 (c_Mo_setPlain l g q (aMo [qnow, qdr, qpa, qsa, qis, 0, 0, qbu, 0, 0, 0, 0, 0, 0, qtq, qrT, qwT, qwd, qsK, qsA, qsB, qsE, 0, qoq, qbS, qbE, qbL, qrp]) o0 (fun _ => 0) (fun _ => 0) (fun _ => 0) (fun _ => 0) (fun _ => 0) (fun _ => 0) (fun _ => 0) (fun _ => 0) (fun _ => 0) (fun _ => 0) (fun _ => 0) (fun _ => 0) (fun _ => 0) (fun _ => 0) (fun _ => 0) (fun _ => 0) (fun _ => 0) (fun _ => 0) plain_R.1) rfl rfl ⟨Nat.le_of_ble_eq_true rfl, Nat.le_of_ble_eq_true rfl⟩ ⟨Nat.le_of_ble_eq_true rfl, Nat.le_of_ble_eq_true rfl⟩ (by rw [List.append_nil]; exact hP) (by rw [List.append_nil]; exact hD) hS rfl rfl rfl hl rfl rfl (Nat.le_of_ble_eq_true rfl) d_Mo_init_216 (fun H locs hP hD hS => ?_)
  rw [List.append_nil] at hP hD
  obtain ⟨dr, hdr⟩ : ∃ dr, dr = sp_Mo_setPlain (fun _ => 0) := ⟨_, rfl⟩
  obtain ⟨hP, hD⟩ : va_P g.1 vwCl (wMo g q (aMo [qnow, qdr, qpa, qsa, qis, 0, 0, qbu, 0, 0, 0, 0, 0, 0, qtq, qrT, qwT, qwd, qsK, qsA, qsB, qsE, 0, qoq, qbS, qbE, qbL, qrp]) o0 (fun _ => 0) dr (fun _ => 0) (fun _ => 0) (fun _ => 0) (fun _ => 0) (fun _ => 0) (fun _ => 0) (fun _ => 0) (fun _ => 0) (fun _ => 0) (fun _ => 0) (fun _ => 0) (fun _ => 0) (fun _ => 0) (fun _ => 0) (fun _ => 0) (fun _ => 0)) H ∧ va_D (va_A [(q, .inr (12, f0Mo))] s.heap.size) (wMo g q (aMo [qnow, qdr, qpa, qsa, qis, 0, 0, qbu, 0, 0, 0, 0, 0, 0, qtq, qrT, qwT, qwd, qsK, qsA, qsB, qsE, 0, qoq, qbS, qbE, qbL, qrp]) o0 (fun _ => 0) dr (fun _ => 0) (fun _ => 0) (fun _ => 0) (fun _ => 0) (fun _ => 0) (fun _ => 0) (fun _ => 0) (fun _ => 0) (fun _ => 0) (fun _ => 0) (fun _ => 0) (fun _ => 0) (fun _ => 0) (fun _ => 0) (fun _ => 0) (fun _ => 0)) := by rw [hdr]; exact ⟨hP, hD⟩
  refine lv_aload_n hx hb d_Mo_init_219 rfl (lv_at hl 0 rfl) ?_
  refine gf C hP 0 1 fkMo rfl (by decide) rfl qf_Mo_13 (gMo_1 _ _) d_Mo_init_220 ?_
  refine lv_iconst (v := 0) hx hb d_Mo_init_223 (by decide) ?_
  refine lv_ldc2 hx hb hown (hts _ qk_Mo_100) d_Mo_init_224 ?_
  refine stL C hP hD hS 2 rfl (vi (k := 0) (by decide) rfl (by decide)) rfl d_Mo_init_227 (fun dr1 ed1 H locs hP hD hS => ?_)
  obtain ⟨hP, hD⟩ : va_P g.1 vwCl (wMo g q (aMo [qnow, qdr, qpa, qsa, qis, 0, 0, qbu, 0, 0, 0, 0, 0, 0, qtq, qrT, qwT, qwd, qsK, qsA, qsB, qsE, 0, qoq, qbS, qbE, qbL, qrp]) o0 (fun _ => 0) dr1 (fun _ => 0) (fun _ => 0) (fun _ => 0) (fun _ => 0) (fun _ => 0) (fun _ => 0) (fun _ => 0) (fun _ => 0) (fun _ => 0) (fun _ => 0) (fun _ => 0) (fun _ => 0) (fun _ => 0) (fun _ => 0) (fun _ => 0) (fun _ => 0)) H ∧ va_D (va_A [(q, .inr (12, f0Mo))] s.heap.size) (wMo g q (aMo [qnow, qdr, qpa, qsa, qis, 0, 0, qbu, 0, 0, 0, 0, 0, 0, qtq, qrT, qwT, qwd, qsK, qsA, qsB, qsE, 0, qoq, qbS, qbE, qbL, qrp]) o0 (fun _ => 0) dr1 (fun _ => 0) (fun _ => 0) (fun _ => 0) (fun _ => 0) (fun _ => 0) (fun _ => 0) (fun _ => 0) (fun _ => 0) (fun _ => 0) (fun _ => 0) (fun _ => 0) (fun _ => 0) (fun _ => 0) (fun _ => 0) (fun _ => 0) (fun _ => 0)) := ⟨hP, hD⟩
  refine lv_aload_n hx hb d_Mo_init_228 rfl (lv_at hl 0 rfl) ?_
  refine gf C hP 0 1 fkMo rfl (by decide) rfl qf_Mo_13 (gMo_1 _ _) d_Mo_init_229 ?_
  refine lv_iconst (v := 1) hx hb d_Mo_init_232 (by decide) ?_
  refine lv_lconst (v := 1) hx hb d_Mo_init_233 (by decide) ?_
  refine stL C hP hD hS 2 rfl (vi (k := 1) (by decide) rfl (by decide)) rfl d_Mo_init_234 (fun dr2 ed2 H locs hP hD hS => ?_)
  obtain ⟨hP, hD⟩ : va_P g.1 vwCl (wMo g q (aMo [qnow, qdr, qpa, qsa, qis, 0, 0, qbu, 0, 0, 0, 0, 0, 0, qtq, qrT, qwT, qwd, qsK, qsA, qsB, qsE, 0, qoq, qbS, qbE, qbL, qrp]) o0 (fun _ => 0) dr2 (fun _ => 0) (fun _ => 0) (fun _ => 0) (fun _ => 0) (fun _ => 0) (fun _ => 0) (fun _ => 0) (fun _ => 0) (fun _ => 0) (fun _ => 0) (fun _ => 0) (fun _ => 0) (fun _ => 0) (fun _ => 0) (fun _ => 0) (fun _ => 0)) H ∧ va_D (va_A [(q, .inr (12, f0Mo))] s.heap.size) (wMo g q (aMo [qnow, qdr, qpa, qsa, qis, 0, 0, qbu, 0, 0, 0, 0, 0, 0, qtq, qrT, qwT, qwd, qsK, qsA, qsB, qsE, 0, qoq, qbS, qbE, qbL, qrp]) o0 (fun _ => 0) dr2 (fun _ => 0) (fun _ => 0) (fun _ => 0) (fun _ => 0) (fun _ => 0) (fun _ => 0) (fun _ => 0) (fun _ => 0) (fun _ => 0) (fun _ => 0) (fun _ => 0) (fun _ => 0) (fun _ => 0) (fun _ => 0) (fun _ => 0) (fun _ => 0)) := ⟨hP, hD⟩
  refine lv_aload_n hx hb d_Mo_init_235 rfl (lv_at hl 0 rfl) ?_
  refine gf C hP 0 1 fkMo rfl (by decide) rfl qf_Mo_13 (gMo_1 _ _) d_Mo_init_236 ?_
  refine lv_bipush (v := 12) hx hb d_Mo_init_239 (by decide) ?_
  refine lv_ldc2 hx hb hown (hts _ qk_Mo_102) d_Mo_init_241 ?_
  refine stL C hP hD hS 2 rfl (vi (k := 12) (by decide) rfl (by decide)) rfl d_Mo_init_244 (fun dr3 ed3 H locs hP hD hS => ?_)
  obtain ⟨hP, hD⟩ : va_P g.1 vwCl (wMo g q (aMo [qnow, qdr, qpa, qsa, qis, 0, 0, qbu, 0, 0, 0, 0, 0, 0, qtq, qrT, qwT, qwd, qsK, qsA, qsB, qsE, 0, qoq, qbS, qbE, qbL, qrp]) o0 (fun _ => 0) dr3 (fun _ => 0) (fun _ => 0) (fun _ => 0) (fun _ => 0) (fun _ => 0) (fun _ => 0) (fun _ => 0) (fun _ => 0) (fun _ => 0) (fun _ => 0) (fun _ => 0) (fun _ => 0) (fun _ => 0) (fun _ => 0) (fun _ => 0) (fun _ => 0)) H ∧ va_D (va_A [(q, .inr (12, f0Mo))] s.heap.size) (wMo g q (aMo [qnow, qdr, qpa, qsa, qis, 0, 0, qbu, 0, 0, 0, 0, 0, 0, qtq, qrT, qwT, qwd, qsK, qsA, qsB, qsE, 0, qoq, qbS, qbE, qbL, qrp]) o0 (fun _ => 0) dr3 (fun _ => 0) (fun _ => 0) (fun _ => 0) (fun _ => 0) (fun _ => 0) (fun _ => 0) (fun _ => 0) (fun _ => 0) (fun _ => 0) (fun _ => 0) (fun _ => 0) (fun _ => 0) (fun _ => 0) (fun _ => 0) (fun _ => 0) (fun _ => 0)) := ⟨hP, hD⟩
  refine lv_aload_n hx hb d_Mo_init_245 rfl (lv_at hl 0 rfl) ?_
  refine ocall (wx := wMo g q (aMo [qnow, qdr, qpa, qsa, qis, 0, 0, qbu, 0, 0, 0, 0, 0, 0, qtq, qrT, qwT, qwd, qsK, qsA, qsB, qsE, 0, qoq, qbS, qbE, qbL, qrp]) o0 (fun _ => 0) dr3 (fun _ => 0) (fun _ => 0) (fun _ => 0) (fun _ => 0) (fun _ => 0) (fun _ => 0) (fun _ => 0) (fun _ => 0) (fun _ => 0) (fun _ => 0) (fun _ => 0) (fun _ => 0) (fun _ => 0) (fun _ => 0) (fun _ => 0) (fun _ => 0)) (r := []) C mf_Mo_takeDraft qm_Mo_104 (c_Mo_takeDraft l g q (aMo [qnow, qdr, qpa, qsa, qis, 0, 0, qbu, 0, 0, 0, 0, 0, 0, qtq, qrT, qwT, qwd, qsK, qsA, qsB, qsE, 0, qoq, qbS, qbE, qbL, qrp]) o0 (fun _ => 0) dr3 (fun _ => 0) (fun _ => 0) (fun _ => 0) (fun _ => 0) (fun _ => 0) (fun _ => 0) (fun _ => 0) (fun _ => 0) (fun _ => 0) (fun _ => 0) (fun _ => 0) (fun _ => 0) (fun _ => 0) (fun _ => 0) (fun _ => 0) (fun _ => 0) (draft_R _ _).1) rfl rfl ⟨Nat.le_of_ble_eq_true rfl, Nat.le_of_ble_eq_true rfl⟩ ⟨Nat.le_of_ble_eq_true rfl, Nat.le_of_ble_eq_true rfl⟩ (by rw [List.append_nil]; exact hP) (by rw [List.append_nil]; exact hD) hS rfl rfl rfl hl rfl rfl (Nat.le_of_ble_eq_true rfl) d_Mo_init_246 (fun H locs hP hD hS => ?_)
  rw [List.append_nil] at hP hD
  refine endN hsz C ⟨_, _, _, rfl, fun k hk => ?_⟩ hP hD hS d_Mo_init_249
  rw [(draft_R _ dr3).2 k hk, ed3, ed2, ed1]
  show (if k = 12 then (1000 : Int64) else if k = 1 then 1 else if k = 0 then 2 else dr k) = r0 k
  unfold r0
  by_cases h0 : k = 0
  · subst h0; rfl
  by_cases h1 : k = 1
  · subst h1; rfl
  by_cases h2 : k = 12
  · subst h2; rfl
  rw [if_neg h0, if_neg h1, if_neg h2, if_neg h0, if_neg h1, if_neg h2, hdr]
  exact plain_R.2 k hk
end TYF
