section TYC
/-! ===== constructors, class by class ===== -/
variable {g : GX}
abbrev f0Te : List Value := [.null, .int 0, .int 0, .int 0, .int 0, .int 0, .int 0]
theorem df_Te : ∀ j, j < 7 → defaultValue (tyX10 j) = vp_V f0Te j
  | 0, _ => rfl
  | 1, _ => rfl
  | 2, _ => rfl
  | 3, _ => rfl
  | 4, _ => rfl
  | 5, _ => rfl
  | 6, _ => rfl
  | j + 7, h => absurd h (by omega)
abbrev f0Pa : List Value := [.int 0, .int 0, .int 0, .null, .null, .int 0, .null, .null, .int 0, .int 0, .int 0, .int 0, .int 0, .int 0, .int 0, .int 0, .int 0, .int 0]
theorem df_Pa : ∀ j, j < 18 → defaultValue (tyX3 j) = vp_V f0Pa j
  | 0, _ => rfl
  | 1, _ => rfl
  | 2, _ => rfl
  | 3, _ => rfl
  | 4, _ => rfl
  | 5, _ => rfl
  | 6, _ => rfl
  | 7, _ => rfl
  | 8, _ => rfl
  | 9, _ => rfl
  | 10, _ => rfl
  | 11, _ => rfl
  | 12, _ => rfl
  | 13, _ => rfl
  | 14, _ => rfl
  | 15, _ => rfl
  | 16, _ => rfl
  | 17, _ => rfl
  | j + 18, h => absurd h (by omega)
abbrev f0He : List Value := [.int 0, .int 0, .int 0]
theorem df_He : ∀ j, j < 3 → defaultValue (tyX2 j) = vp_V f0He j
  | 0, _ => rfl
  | 1, _ => rfl
  | 2, _ => rfl
  | j + 3, h => absurd h (by omega)
abbrev f0Su : List Value := [.null, .null, .int 0]
theorem df_Su : ∀ j, j < 3 → defaultValue (tyX9 j) = vp_V f0Su j
  | 0, _ => rfl
  | 1, _ => rfl
  | 2, _ => rfl
  | j + 3, h => absurd h (by omega)
abbrev f0Pr : List Value := [.null, .null, .null, .null, .null, .null, .null, .int 0, .int 0, .int 0]
theorem df_Pr : ∀ j, j < 10 → defaultValue (tyX4 j) = vp_V f0Pr j
  | 0, _ => rfl
  | 1, _ => rfl
  | 2, _ => rfl
  | 3, _ => rfl
  | 4, _ => rfl
  | 5, _ => rfl
  | 6, _ => rfl
  | 7, _ => rfl
  | 8, _ => rfl
  | 9, _ => rfl
  | j + 10, h => absurd h (by omega)
abbrev f0Be : List Value := [.null, .null, .null, .int 0, .int 0, .int 0, .null]
theorem df_Be : ∀ j, j < 7 → defaultValue (tyX0 j) = vp_V f0Be j
  | 0, _ => rfl
  | 1, _ => rfl
  | 2, _ => rfl
  | 3, _ => rfl
  | 4, _ => rfl
  | 5, _ => rfl
  | 6, _ => rfl
  | j + 7, h => absurd h (by omega)
abbrev f0Rs : List Value := [.null, .int 0, .int 0, .int 0, .int 0, .long 0, .long 0, .long 0]
theorem df_Rs : ∀ j, j < 8 → defaultValue (tyX7 j) = vp_V f0Rs j
  | 0, _ => rfl
  | 1, _ => rfl
  | 2, _ => rfl
  | 3, _ => rfl
  | 4, _ => rfl
  | 5, _ => rfl
  | 6, _ => rfl
  | 7, _ => rfl
  | j + 8, h => absurd h (by omega)
abbrev f0Rt : List Value := [.int 0, .int 0, .int 0, .int 0, .int 0, .int 0, .long 0, .long 0]
theorem df_Rt : ∀ j, j < 8 → defaultValue (tyX6 j) = vp_V f0Rt j
  | 0, _ => rfl
  | 1, _ => rfl
  | 2, _ => rfl
  | 3, _ => rfl
  | 4, _ => rfl
  | 5, _ => rfl
  | 6, _ => rfl
  | 7, _ => rfl
  | j + 8, h => absurd h (by omega)
abbrev f0Ci : List Value := [.null, .int 0, .int 0, .int 0, .int 0, .int 0, .int 0, .int 0, .int 0, .int 0, .int 0, .int 0, .long 0, .int 0, .int 0, .int 0, .int 0, .int 0, .int 0]
theorem df_Ci : ∀ j, j < 19 → defaultValue (tyX1 j) = vp_V f0Ci j
  | 0, _ => rfl
  | 1, _ => rfl
  | 2, _ => rfl
  | 3, _ => rfl
  | 4, _ => rfl
  | 5, _ => rfl
  | 6, _ => rfl
  | 7, _ => rfl
  | 8, _ => rfl
  | 9, _ => rfl
  | 10, _ => rfl
  | 11, _ => rfl
  | 12, _ => rfl
  | 13, _ => rfl
  | 14, _ => rfl
  | 15, _ => rfl
  | 16, _ => rfl
  | 17, _ => rfl
  | 18, _ => rfl
  | j + 19, h => absurd h (by omega)
abbrev f0Se : List Value := [.null, .null]
theorem df_Se : ∀ j, j < 2 → defaultValue (tyX8 j) = vp_V f0Se j
  | 0, _ => rfl
  | 1, _ => rfl
  | j + 2, h => absurd h (by omega)
abbrev f0Re : List Value := [.null, .int 0]
theorem df_Re : ∀ j, j < 2 → defaultValue (tyX5 j) = vp_V f0Re j
  | 0, _ => rfl
  | 1, _ => rfl
  | j + 2, h => absurd h (by omega)
abbrev f0Db : List Value := [.null, .null, .null, .null, .null, .null, .null, .null, .null, .null, .int 0, .int 0]
theorem df_Db : ∀ j, j < 12 → defaultValue (tyX11 j) = vp_V f0Db j
  | 0, _ => rfl
  | 1, _ => rfl
  | 2, _ => rfl
  | 3, _ => rfl
  | 4, _ => rfl
  | 5, _ => rfl
  | 6, _ => rfl
  | 7, _ => rfl
  | 8, _ => rfl
  | 9, _ => rfl
  | 10, _ => rfl
  | 11, _ => rfl
  | j + 12, h => absurd h (by omega)
abbrev f0Mo : List Value := [.null, .null, .null, .null, .null, .int 0, .int 0, .null, .int 0, .int 0, .int 0, .int 0, .int 0, .int 0, .null, .null, .null, .null, .null, .null, .null, .null, .int 0, .null, .null, .null, .null, .null, .int 0]
theorem df_Mo : ∀ j, j < 29 → defaultValue (tyX12 j) = vp_V f0Mo j
  | 0, _ => rfl
  | 1, _ => rfl
  | 2, _ => rfl
  | 3, _ => rfl
  | 4, _ => rfl
  | 5, _ => rfl
  | 6, _ => rfl
  | 7, _ => rfl
  | 8, _ => rfl
  | 9, _ => rfl
  | 10, _ => rfl
  | 11, _ => rfl
  | 12, _ => rfl
  | 13, _ => rfl
  | 14, _ => rfl
  | 15, _ => rfl
  | 16, _ => rfl
  | 17, _ => rfl
  | 18, _ => rfl
  | 19, _ => rfl
  | 20, _ => rfl
  | 21, _ => rfl
  | 22, _ => rfl
  | 23, _ => rfl
  | 24, _ => rfl
  | 25, _ => rfl
  | 26, _ => rfl
  | 27, _ => rfl
  | 28, _ => rfl
  | j + 29, h => absurd h (by omega)
theorem ob_Te : Cond.methodLink "DecadeBridge$Text" 3 Lib.objectInit ∈ TB := tb_all (by decide +kernel) rfl
theorem ob_Pa : Cond.methodLink "DecadeBridge$Parts" 3 Lib.objectInit ∈ TB := tb_all (by decide +kernel) rfl
theorem ob_He : Cond.methodLink "DecadeBridge$Heating" 1 Lib.objectInit ∈ TB := tb_all (by decide +kernel) rfl
theorem ob_Su : Cond.methodLink "DecadeBridge$SetupReader" 3 Lib.objectInit ∈ TB := tb_all (by decide +kernel) rfl
theorem ob_Pr : Cond.methodLink "DecadeBridge$Protocol" 3 Lib.objectInit ∈ TB := tb_all (by decide +kernel) rfl
theorem ob_Be : Cond.methodLink "DecadeBridge$Bench" 3 Lib.objectInit ∈ TB := tb_all (by decide +kernel) rfl
theorem ob_Rs : Cond.methodLink "DecadeBridge$Results" 3 Lib.objectInit ∈ TB := tb_all (by decide +kernel) rfl
theorem ob_Rt : Cond.methodLink "DecadeBridge$Result" 1 Lib.objectInit ∈ TB := tb_all (by decide +kernel) rfl
theorem ob_Ci : Cond.methodLink "DecadeBridge$Circuit" 1 Lib.objectInit ∈ TB := tb_all (by decide +kernel) rfl
theorem ob_Se : Cond.methodLink "DecadeBridge$Search" 3 Lib.objectInit ∈ TB := tb_all (by decide +kernel) rfl
theorem ob_Re : Cond.methodLink "DecadeBridge$Report" 3 Lib.objectInit ∈ TB := tb_all (by decide +kernel) rfl
theorem ob_Db : Cond.methodLink "DecadeBridge" 1 Lib.objectInit ∈ TB := tb_all (by decide +kernel) rfl
theorem ob_Mo : Cond.methodLink "DecadeBridgeModel" 1 Lib.objectInit ∈ TB := tb_all (by decide +kernel) rfl
theorem it_Te : Cond.instantiable "DecadeBridge$Text" 7 ∈ TB := tb_all (by decide +kernel) rfl
theorem in_Te : Cond.initialized "DecadeBridge$Text" ∈ TB := tb_all (by decide +kernel) rfl
theorem im_Te : Cond.instanceMethod y_Te_init ∈ TB := tb_all (by decide +kernel) rfl
theorem it_Pa : Cond.instantiable "DecadeBridge$Parts" 18 ∈ TB := tb_all (by decide +kernel) rfl
theorem in_Pa : Cond.initialized "DecadeBridge$Parts" ∈ TB := tb_all (by decide +kernel) rfl
theorem im_Pa : Cond.instanceMethod y_Pa_init ∈ TB := tb_all (by decide +kernel) rfl
theorem it_He : Cond.instantiable "DecadeBridge$Heating" 3 ∈ TB := tb_all (by decide +kernel) rfl
theorem in_He : Cond.initialized "DecadeBridge$Heating" ∈ TB := tb_all (by decide +kernel) rfl
theorem im_He : Cond.instanceMethod y_He_init ∈ TB := tb_all (by decide +kernel) rfl
theorem it_Su : Cond.instantiable "DecadeBridge$SetupReader" 3 ∈ TB := tb_all (by decide +kernel) rfl
theorem in_Su : Cond.initialized "DecadeBridge$SetupReader" ∈ TB := tb_all (by decide +kernel) rfl
theorem im_Su : Cond.instanceMethod y_Su_init ∈ TB := tb_all (by decide +kernel) rfl
theorem it_Pr : Cond.instantiable "DecadeBridge$Protocol" 10 ∈ TB := tb_all (by decide +kernel) rfl
theorem in_Pr : Cond.initialized "DecadeBridge$Protocol" ∈ TB := tb_all (by decide +kernel) rfl
theorem im_Pr : Cond.instanceMethod y_Pr_init ∈ TB := tb_all (by decide +kernel) rfl
theorem it_Be : Cond.instantiable "DecadeBridge$Bench" 7 ∈ TB := tb_all (by decide +kernel) rfl
theorem in_Be : Cond.initialized "DecadeBridge$Bench" ∈ TB := tb_all (by decide +kernel) rfl
theorem im_Be : Cond.instanceMethod y_Be_init ∈ TB := tb_all (by decide +kernel) rfl
theorem it_Rs : Cond.instantiable "DecadeBridge$Results" 8 ∈ TB := tb_all (by decide +kernel) rfl
theorem in_Rs : Cond.initialized "DecadeBridge$Results" ∈ TB := tb_all (by decide +kernel) rfl
theorem im_Rs : Cond.instanceMethod y_Rs_init ∈ TB := tb_all (by decide +kernel) rfl
theorem it_Rt : Cond.instantiable "DecadeBridge$Result" 8 ∈ TB := tb_all (by decide +kernel) rfl
theorem in_Rt : Cond.initialized "DecadeBridge$Result" ∈ TB := tb_all (by decide +kernel) rfl
theorem im_Rt : Cond.instanceMethod y_Rt_init ∈ TB := tb_all (by decide +kernel) rfl
theorem it_Ci : Cond.instantiable "DecadeBridge$Circuit" 19 ∈ TB := tb_all (by decide +kernel) rfl
theorem in_Ci : Cond.initialized "DecadeBridge$Circuit" ∈ TB := tb_all (by decide +kernel) rfl
theorem im_Ci : Cond.instanceMethod y_Ci_init ∈ TB := tb_all (by decide +kernel) rfl
theorem it_Se : Cond.instantiable "DecadeBridge$Search" 2 ∈ TB := tb_all (by decide +kernel) rfl
theorem in_Se : Cond.initialized "DecadeBridge$Search" ∈ TB := tb_all (by decide +kernel) rfl
theorem im_Se : Cond.instanceMethod y_Se_init ∈ TB := tb_all (by decide +kernel) rfl
theorem it_Re : Cond.instantiable "DecadeBridge$Report" 2 ∈ TB := tb_all (by decide +kernel) rfl
theorem in_Re : Cond.initialized "DecadeBridge$Report" ∈ TB := tb_all (by decide +kernel) rfl
theorem im_Re : Cond.instanceMethod y_Re_init ∈ TB := tb_all (by decide +kernel) rfl
theorem it_Db : Cond.instantiable "DecadeBridge" 12 ∈ TB := tb_all (by decide +kernel) rfl
theorem in_Db : Cond.initialized "DecadeBridge" ∈ TB := tb_all (by decide +kernel) rfl
theorem im_Db : Cond.instanceMethod y_Db_init ∈ TB := tb_all (by decide +kernel) rfl
theorem it_Mo : Cond.instantiable "DecadeBridgeModel" 29 ∈ TB := tb_all (by decide +kernel) rfl
theorem in_Mo : Cond.initialized "DecadeBridgeModel" ∈ TB := tb_all (by decide +kernel) rfl
theorem im_Mo : Cond.instanceMethod y_Mo_init ∈ TB := tb_all (by decide +kernel) rfl
theorem kc_Db_7 : Cond.classLink "DecadeBridge" 7 "DecadeBridge$Text" ∈ TB := tb_all (by decide +kernel) rfl
theorem kc_Db_16 : Cond.classLink "DecadeBridge" 16 "DecadeBridge$Parts" ∈ TB := tb_all (by decide +kernel) rfl
theorem kc_Pa_18 : Cond.classLink "DecadeBridge$Parts" 18 "DecadeBridge$Heating" ∈ TB := tb_all (by decide +kernel) rfl
theorem kc_Db_23 : Cond.classLink "DecadeBridge" 23 "DecadeBridge$SetupReader" ∈ TB := tb_all (by decide +kernel) rfl
theorem kc_Su_9 : Cond.classLink "DecadeBridge$SetupReader" 9 "DecadeBridge$Parts" ∈ TB := tb_all (by decide +kernel) rfl
theorem kc_Db_32 : Cond.classLink "DecadeBridge" 32 "DecadeBridge$Protocol" ∈ TB := tb_all (by decide +kernel) rfl
theorem kc_Db_39 : Cond.classLink "DecadeBridge" 39 "DecadeBridge$Bench" ∈ TB := tb_all (by decide +kernel) rfl
theorem kc_Be_15 : Cond.classLink "DecadeBridge$Bench" 15 "DecadeBridge$Results" ∈ TB := tb_all (by decide +kernel) rfl
theorem kc_Rs_11 : Cond.classLink "DecadeBridge$Results" 11 "DecadeBridge$Result" ∈ TB := tb_all (by decide +kernel) rfl
theorem kc_Be_26 : Cond.classLink "DecadeBridge$Bench" 26 "DecadeBridge$Circuit" ∈ TB := tb_all (by decide +kernel) rfl
theorem kc_Db_48 : Cond.classLink "DecadeBridge" 48 "DecadeBridge$Search" ∈ TB := tb_all (by decide +kernel) rfl
theorem kc_Se_15 : Cond.classLink "DecadeBridge$Search" 15 "DecadeBridge$Circuit" ∈ TB := tb_all (by decide +kernel) rfl
theorem kc_Db_55 : Cond.classLink "DecadeBridge" 55 "DecadeBridge$Report" ∈ TB := tb_all (by decide +kernel) rfl
theorem kn_Db_18 : Cond.methodLink "DecadeBridge" 18 y_Pa_init ∈ TB := tb_all (by decide +kernel) rfl
theorem kn_Db_25 : Cond.methodLink "DecadeBridge" 25 y_Su_init ∈ TB := tb_all (by decide +kernel) rfl
theorem kn_Su_11 : Cond.methodLink "DecadeBridge$SetupReader" 11 y_Pa_init ∈ TB := tb_all (by decide +kernel) rfl
theorem kn_Db_34 : Cond.methodLink "DecadeBridge" 34 y_Pr_init ∈ TB := tb_all (by decide +kernel) rfl
theorem kn_Db_41 : Cond.methodLink "DecadeBridge" 41 y_Be_init ∈ TB := tb_all (by decide +kernel) rfl
theorem kn_Be_17 : Cond.methodLink "DecadeBridge$Bench" 17 y_Rs_init ∈ TB := tb_all (by decide +kernel) rfl
theorem kn_Be_28 : Cond.methodLink "DecadeBridge$Bench" 28 y_Ci_init ∈ TB := tb_all (by decide +kernel) rfl
theorem kn_Db_50 : Cond.methodLink "DecadeBridge" 50 y_Se_init ∈ TB := tb_all (by decide +kernel) rfl
theorem kn_Se_17 : Cond.methodLink "DecadeBridge$Search" 17 y_Ci_init ∈ TB := tb_all (by decide +kernel) rfl
theorem ac_I : Cond.arrayClass .int ∈ TB := tb_all (by decide +kernel) rfl
theorem ac_L : Cond.arrayClass .long ∈ TB := tb_all (by decide +kernel) rfl
theorem ac_B : Cond.arrayClass .byte ∈ TB := tb_all (by decide +kernel) rfl
theorem ac_Z : Cond.arrayClass .boolean ∈ TB := tb_all (by decide +kernel) rfl
abbrev rn_He : Room := { frames := 1, cells := 0, slots := 0, locals := 20 }
theorem n_He (l : Launch) (g : GX) (q : Nat) (sz : Nat) : NMet l y_He_init b_He_init 1 rn_He g [.ref q] [(q, .inr (2, f0He))] sz (fun w => w = [(q, .inr (2, f0He))]) 0 0 := by
  refine Met.ofW (cc := b_He_init) (maxL := 1) (ret := none) pn_He rfl ?_
  intro p e s m args below meth c s₁ B hml hv
  obtain ⟨hsz, rfl, C, hin, hAO, hP, hD, hS, hA⟩ := enterN "DecadeBridge$Heating" rfl rfl B hml hv
  obtain ⟨hx, hb, hr, hml, hown, hlk, hts, hK, hZo, hZ⟩ := id C
  refine entryW (lv := [(0, .ref q)]) rfl (Nat.le_of_ble_eq_true rfl) (fun ls hl => ?_)
  refine lv_aload_n hx hb d_He_init_0 rfl (lv_at hl 0 rfl) ?_
  refine objI C ob_He hl d_He_init_1 ⟨Nat.le_of_ble_eq_true rfl, Nat.le_of_ble_eq_true rfl⟩ ?_
  exact endN hsz C rfl hP hD hS d_He_init_4

abbrev rn_Rt : Room := { frames := 1, cells := 0, slots := 0, locals := 20 }
theorem n_Rt (l : Launch) (g : GX) (q : Nat) (sz : Nat) : NMet l y_Rt_init b_Rt_init 1 rn_Rt g [.ref q] [(q, .inr (6, f0Rt))] sz (fun w => w = [(q, .inr (6, f0Rt))]) 0 0 := by
  refine Met.ofW (cc := b_Rt_init) (maxL := 1) (ret := none) pn_Rt rfl ?_
  intro p e s m args below meth c s₁ B hml hv
  obtain ⟨hsz, rfl, C, hin, hAO, hP, hD, hS, hA⟩ := enterN "DecadeBridge$Result" rfl rfl B hml hv
  obtain ⟨hx, hb, hr, hml, hown, hlk, hts, hK, hZo, hZ⟩ := id C
  refine entryW (lv := [(0, .ref q)]) rfl (Nat.le_of_ble_eq_true rfl) (fun ls hl => ?_)
  refine lv_aload_n hx hb d_Rt_init_0 rfl (lv_at hl 0 rfl) ?_
  refine objI C ob_Rt hl d_Rt_init_1 ⟨Nat.le_of_ble_eq_true rfl, Nat.le_of_ble_eq_true rfl⟩ ?_
  exact endN hsz C rfl hP hD hS d_Rt_init_4

abbrev rn_Te : Room := { frames := 1, cells := 1, slots := 600, locals := 20 }
theorem n_Te (l : Launch) (g : GX) (q : Nat) (sz : Nat) : NMet l y_Te_init b_Te_init 1 rn_Te g [.ref q] [(q, .inr (10, f0Te))] sz (fun w => ∃ qb, w = [(q, .inr (10, [.ref qb, .int 0, .int 0, .int 0, .int 0, .int 0, .int (-1)])), (qb, aB g 600 (fun _ => 0))]) 1 600 := by
  refine Met.ofW (cc := b_Te_init) (maxL := 1) (ret := none) pn_Te rfl ?_
  intro p e s m args below meth c s₁ B hml hv
  obtain ⟨hsz, rfl, C, hin, hAO, hP, hD, hS, hA⟩ := enterN "DecadeBridge$Text" rfl rfl B hml hv
  obtain ⟨hx, hb, hr, hml, hown, hlk, hts, hK, hZo, hZ⟩ := id C
  refine entryW (lv := [(0, .ref q)]) rfl (Nat.le_of_ble_eq_true rfl) (fun ls hl => ?_)
  refine lv_aload_n hx hb d_Te_init_0 rfl (lv_at hl 0 rfl) ?_
  refine objI C ob_Te hl d_Te_init_1 ⟨Nat.le_of_ble_eq_true rfl, Nat.le_of_ble_eq_true rfl⟩ ?_
  refine lv_aload_n hx hb d_Te_init_4 rfl (lv_at hl 0 rfl) ?_
  refine lv_sipush (v := 600) hx hb d_Te_init_5 (by decide) ?_
  refine newB C hP hD hS hA ac_B (by decide) rfl (by decide) (Nat.le_of_ble_eq_true rfl) (Nat.le_of_ble_eq_true rfl) d_Te_init_8 (fun qb H hP hD hS => ?_)
  refine pfF C hin hP hD hS 0 0 fkTe rfl (by decide) rfl rfl qf_Te_11 rfl rfl rfl (Nat.le_of_ble_eq_true rfl) d_Te_init_10 (fun H locs hP hD hS => ?_)
  refine lv_aload_n hx hb d_Te_init_13 rfl (lv_at hl 0 rfl) ?_
  refine lv_iconst (v := -1) hx hb d_Te_init_14 (by decide) ?_
  refine pfI C hP hD hS 0 6 (ff := fTe qb) (o := fun _ => 0) fkTe rfl (by decide) rfl qf_Te_15 rfl rfl rfl (Nat.le_of_ble_eq_true rfl) rfl d_Te_init_15 (fun o1 eo H locs hP hD hS => ?_)
  subst eo
  exact endN hsz C ⟨qb, rfl⟩ hP hD hS d_Te_init_18

abbrev rn_Re : Room := { frames := 1, cells := 1, slots := 1000, locals := 20 }
theorem n_Re (l : Launch) (g : GX) (q : Nat) (sz : Nat) : NMet l y_Re_init b_Re_init 1 rn_Re g [.ref q] [(q, .inr (5, f0Re))] sz (fun w => ∃ qb, w = [(q, .inr (5, [.ref qb, .int 0])), (qb, aB g 1000 (fun _ => 0))]) 1 1000 := by
  refine Met.ofW (cc := b_Re_init) (maxL := 1) (ret := none) pn_Re rfl ?_
  intro p e s m args below meth c s₁ B hml hv
  obtain ⟨hsz, rfl, C, hin, hAO, hP, hD, hS, hA⟩ := enterN "DecadeBridge$Report" rfl rfl B hml hv
  obtain ⟨hx, hb, hr, hml, hown, hlk, hts, hK, hZo, hZ⟩ := id C
  refine entryW (lv := [(0, .ref q)]) rfl (Nat.le_of_ble_eq_true rfl) (fun ls hl => ?_)
  refine lv_aload_n hx hb d_Re_init_0 rfl (lv_at hl 0 rfl) ?_
  refine objI C ob_Re hl d_Re_init_1 ⟨Nat.le_of_ble_eq_true rfl, Nat.le_of_ble_eq_true rfl⟩ ?_
  refine lv_aload_n hx hb d_Re_init_4 rfl (lv_at hl 0 rfl) ?_
  refine lv_sipush (v := 1000) hx hb d_Re_init_5 (by decide) ?_
  refine newB C hP hD hS hA ac_B (by decide) rfl (by decide) (Nat.le_of_ble_eq_true rfl) (Nat.le_of_ble_eq_true rfl) d_Re_init_8 (fun qb H hP hD hS => ?_)
  refine pfF C hin hP hD hS 0 0 fkRe rfl (by decide) rfl rfl qf_Re_11 rfl rfl rfl (Nat.le_of_ble_eq_true rfl) d_Re_init_10 (fun H locs hP hD hS => ?_)
  exact endN hsz C ⟨qb, rfl⟩ hP hD hS d_Re_init_13

abbrev rn_Pa : Room := { frames := 3, cells := 4, slots := 15, locals := 60 }
theorem n_Pa (l : Launch) (g : GX) (q : Nat) (sz : Nat) : NMet l y_Pa_init b_Pa_init 1 rn_Pa g [.ref q] [(q, .inr (3, f0Pa))] sz (fun w => ∃ qe qr qu qb, w = (fun u : IV × IV × IV × IV × IV => wPa g q qe qr qu qb u.1 u.2.1 u.2.2.1 u.2.2.2.1 u.2.2.2.2) (sp_Pa_clear (fun _ => 0) (fun _ => 0) (fun _ => 0) (fun _ => 0) (fun _ => 0))) 4 15 := by
  refine Met.ofW (cc := b_Pa_init) (maxL := 1) (ret := none) pn_Pa rfl ?_
  intro p e s m args below meth c s₁ B hml hv
  obtain ⟨hsz, rfl, C, hin, hAO, hP, hD, hS, hA⟩ := enterN "DecadeBridge$Parts" rfl rfl B hml hv
  obtain ⟨hx, hb, hr, hml, hown, hlk, hts, hK, hZo, hZ⟩ := id C
  refine entryW (lv := [(0, .ref q)]) rfl (Nat.le_of_ble_eq_true rfl) (fun ls hl => ?_)
  refine lv_aload_n hx hb d_Pa_init_0 rfl (lv_at hl 0 rfl) ?_
  refine objI C ob_Pa hl d_Pa_init_1 ⟨Nat.le_of_ble_eq_true rfl, Nat.le_of_ble_eq_true rfl⟩ ?_
  refine lv_aload_n hx hb d_Pa_init_4 rfl (lv_at hl 0 rfl) ?_
  refine lv_iconst (v := 4) hx hb d_Pa_init_5 (by decide) ?_
  refine newI C hP hD hS hA ac_I (by decide) rfl (by decide) (Nat.le_of_ble_eq_true rfl) (Nat.le_of_ble_eq_true rfl) d_Pa_init_6 (fun qe H hP hD hS => ?_)
  refine pfF C hin hP hD hS 0 3 fkPa rfl (by decide) rfl rfl qf_Pa_9 rfl rfl rfl (Nat.le_of_ble_eq_true rfl) d_Pa_init_8 (fun H locs hP hD hS => ?_)
  refine lv_aload_n hx hb d_Pa_init_11 rfl (lv_at hl 0 rfl) ?_
  refine lv_iconst (v := 5) hx hb d_Pa_init_12 (by decide) ?_
  refine newI C hP hD hS hA ac_I (by decide) rfl (by decide) (Nat.le_of_ble_eq_true rfl) (Nat.le_of_ble_eq_true rfl) d_Pa_init_13 (fun qr H hP hD hS => ?_)
  refine pfF C hin hP hD hS 0 4 fkPa rfl (by decide) rfl rfl qf_Pa_15 rfl rfl rfl (Nat.le_of_ble_eq_true rfl) d_Pa_init_15 (fun H locs hP hD hS => ?_)
  refine lv_aload_n hx hb d_Pa_init_18 rfl (lv_at hl 0 rfl) ?_
  refine newO C fkHe hP hD hS hA kc_Pa_18 it_He in_He df_He (Nat.le_of_ble_eq_true rfl) (Nat.le_of_ble_eq_true rfl) d_Pa_init_19 (fun qu H hP hD hS => ?_)
  refine lv_dup hx hb d_Pa_init_22 rfl ?_
  obtain ⟨hP, hD⟩ := va_perm (w' := [(qu, .inr (2, f0He))] ++ _) List.perm_append_comm hP hD
  refine ncallN C hAO hA mf_He_init hAO.2.2.1 im_He rfl (fun sz => n_He l g qu sz) rfl rfl ⟨Nat.le_of_ble_eq_true rfl, Nat.le_of_ble_eq_true rfl⟩ ⟨Nat.le_of_ble_eq_true rfl, Nat.le_of_ble_eq_true rfl⟩ hP hD hS hl rfl rfl (Nat.le_of_ble_eq_true rfl) d_Pa_init_23 (fun wn H locs ho hP hD hS => ?_)
  subst ho
  refine pfF C hin hP hD hS 1 6 fkPa rfl (by decide) rfl rfl qf_Pa_21 rfl rfl rfl (Nat.le_of_ble_eq_true rfl) d_Pa_init_26 (fun H locs hP hD hS => ?_)
  obtain ⟨hP, hD⟩ := va_perm (w := [(qu, .inr (2, f0He))] ++ _) List.perm_append_comm hP hD
  refine lv_aload_n hx hb d_Pa_init_29 rfl (lv_at hl 0 rfl) ?_
  refine newO C fkHe hP hD hS hA kc_Pa_18 it_He in_He df_He (Nat.le_of_ble_eq_true rfl) (Nat.le_of_ble_eq_true rfl) d_Pa_init_30 (fun qb H hP hD hS => ?_)
  refine lv_dup hx hb d_Pa_init_33 rfl ?_
  obtain ⟨hP, hD⟩ := va_perm (w' := [(qb, .inr (2, f0He))] ++ _) List.perm_append_comm hP hD
  refine ncallN C hAO hA mf_He_init hAO.2.2.1 im_He rfl (fun sz => n_He l g qb sz) rfl rfl ⟨Nat.le_of_ble_eq_true rfl, Nat.le_of_ble_eq_true rfl⟩ ⟨Nat.le_of_ble_eq_true rfl, Nat.le_of_ble_eq_true rfl⟩ hP hD hS hl rfl rfl (Nat.le_of_ble_eq_true rfl) d_Pa_init_34 (fun wn H locs ho hP hD hS => ?_)
  subst ho
  refine pfF C hin hP hD hS 1 7 fkPa rfl (by decide) rfl rfl qf_Pa_25 rfl rfl rfl (Nat.le_of_ble_eq_true rfl) d_Pa_init_37 (fun H locs hP hD hS => ?_)
  obtain ⟨hP, hD⟩ := va_perm (w := [(qb, .inr (2, f0He))] ++ _) List.perm_append_comm hP hD
  refine lv_aload_n hx hb d_Pa_init_40 rfl (lv_at hl 0 rfl) ?_
  refine ocall (wx := wPa g q qe qr qu qb (fun _ => 0) (fun _ => 0) (fun _ => 0) (fun _ => 0) (fun _ => 0)) (r := []) C mf_Pa_clear qm_Pa_28 (c_Pa_clear l g q qe qr qu qb _ _ _ _ _ clear_R.1) rfl rfl ⟨Nat.le_of_ble_eq_true rfl, Nat.le_of_ble_eq_true rfl⟩ ⟨Nat.le_of_ble_eq_true rfl, Nat.le_of_ble_eq_true rfl⟩ hP hD hS rfl rfl rfl hl rfl rfl (Nat.le_of_ble_eq_true rfl) d_Pa_init_41 (fun H locs hP hD hS => ?_)
  rw [List.append_nil] at hP hD
  exact endN hsz C ⟨qe, qr, qu, qb, rfl⟩ hP hD hS d_Pa_init_44

end TYC
