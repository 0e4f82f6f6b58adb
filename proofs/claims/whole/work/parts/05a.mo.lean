def fMo (a : Nat → Nat) (i : IV) : List Value := [.ref (a 0), .ref (a 1), .ref (a 2), .ref (a 3), .ref (a 4), .int (i 5), .int (i 6), .ref (a 7), .int (i 8), .int (i 9), .int (i 10), .int (i 11), .int (i 12), .int (i 13), .ref (a 14), .ref (a 15), .ref (a 16), .ref (a 17), .ref (a 18), .ref (a 19), .ref (a 20), .ref (a 21), .int (i 22), .ref (a 23), .ref (a 24), .ref (a 25), .ref (a 26), .ref (a 27), .int (i 28)]
abbrev oMo (a : Nat → Nat) (i : IV) : va_E := .inr (12, fMo a i)
theorem gMo_0 (a : Nat → Nat) (i : IV) : (fMo a i)[0]? = some (.ref (a 0)) := rfl
theorem gMo_1 (a : Nat → Nat) (i : IV) : (fMo a i)[1]? = some (.ref (a 1)) := rfl
theorem gMo_2 (a : Nat → Nat) (i : IV) : (fMo a i)[2]? = some (.ref (a 2)) := rfl
theorem gMo_3 (a : Nat → Nat) (i : IV) : (fMo a i)[3]? = some (.ref (a 3)) := rfl
theorem gMo_4 (a : Nat → Nat) (i : IV) : (fMo a i)[4]? = some (.ref (a 4)) := rfl
theorem gMo_5 (a : Nat → Nat) (i : IV) : (fMo a i)[5]? = some (.int (i 5)) := rfl
theorem sMo_5 (a : Nat → Nat) (i : IV) (x : Int32) : (fMo a i).set 5 (.int x) = fMo a (upd i 5 x) := rfl
theorem gMo_6 (a : Nat → Nat) (i : IV) : (fMo a i)[6]? = some (.int (i 6)) := rfl
theorem sMo_6 (a : Nat → Nat) (i : IV) (x : Int32) : (fMo a i).set 6 (.int x) = fMo a (upd i 6 x) := rfl
theorem gMo_7 (a : Nat → Nat) (i : IV) : (fMo a i)[7]? = some (.ref (a 7)) := rfl
theorem gMo_8 (a : Nat → Nat) (i : IV) : (fMo a i)[8]? = some (.int (i 8)) := rfl
theorem sMo_8 (a : Nat → Nat) (i : IV) (x : Int32) : (fMo a i).set 8 (.int x) = fMo a (upd i 8 x) := rfl
theorem gMo_9 (a : Nat → Nat) (i : IV) : (fMo a i)[9]? = some (.int (i 9)) := rfl
theorem sMo_9 (a : Nat → Nat) (i : IV) (x : Int32) : (fMo a i).set 9 (.int x) = fMo a (upd i 9 x) := rfl
theorem gMo_10 (a : Nat → Nat) (i : IV) : (fMo a i)[10]? = some (.int (i 10)) := rfl
theorem sMo_10 (a : Nat → Nat) (i : IV) (x : Int32) : (fMo a i).set 10 (.int x) = fMo a (upd i 10 x) := rfl
theorem gMo_11 (a : Nat → Nat) (i : IV) : (fMo a i)[11]? = some (.int (i 11)) := rfl
theorem sMo_11 (a : Nat → Nat) (i : IV) (x : Int32) : (fMo a i).set 11 (.int x) = fMo a (upd i 11 x) := rfl
theorem gMo_12 (a : Nat → Nat) (i : IV) : (fMo a i)[12]? = some (.int (i 12)) := rfl
theorem sMo_12 (a : Nat → Nat) (i : IV) (x : Int32) : (fMo a i).set 12 (.int x) = fMo a (upd i 12 x) := rfl
theorem gMo_13 (a : Nat → Nat) (i : IV) : (fMo a i)[13]? = some (.int (i 13)) := rfl
theorem sMo_13 (a : Nat → Nat) (i : IV) (x : Int32) : (fMo a i).set 13 (.int x) = fMo a (upd i 13 x) := rfl
theorem gMo_14 (a : Nat → Nat) (i : IV) : (fMo a i)[14]? = some (.ref (a 14)) := rfl
theorem gMo_15 (a : Nat → Nat) (i : IV) : (fMo a i)[15]? = some (.ref (a 15)) := rfl
theorem gMo_16 (a : Nat → Nat) (i : IV) : (fMo a i)[16]? = some (.ref (a 16)) := rfl
theorem gMo_17 (a : Nat → Nat) (i : IV) : (fMo a i)[17]? = some (.ref (a 17)) := rfl
theorem gMo_18 (a : Nat → Nat) (i : IV) : (fMo a i)[18]? = some (.ref (a 18)) := rfl
theorem gMo_19 (a : Nat → Nat) (i : IV) : (fMo a i)[19]? = some (.ref (a 19)) := rfl
theorem gMo_20 (a : Nat → Nat) (i : IV) : (fMo a i)[20]? = some (.ref (a 20)) := rfl
theorem gMo_21 (a : Nat → Nat) (i : IV) : (fMo a i)[21]? = some (.ref (a 21)) := rfl
theorem gMo_22 (a : Nat → Nat) (i : IV) : (fMo a i)[22]? = some (.int (i 22)) := rfl
theorem sMo_22 (a : Nat → Nat) (i : IV) (x : Int32) : (fMo a i).set 22 (.int x) = fMo a (upd i 22 x) := rfl
theorem gMo_23 (a : Nat → Nat) (i : IV) : (fMo a i)[23]? = some (.ref (a 23)) := rfl
theorem gMo_24 (a : Nat → Nat) (i : IV) : (fMo a i)[24]? = some (.ref (a 24)) := rfl
theorem gMo_25 (a : Nat → Nat) (i : IV) : (fMo a i)[25]? = some (.ref (a 25)) := rfl
theorem gMo_26 (a : Nat → Nat) (i : IV) : (fMo a i)[26]? = some (.ref (a 26)) := rfl
theorem gMo_27 (a : Nat → Nat) (i : IV) : (fMo a i)[27]? = some (.ref (a 27)) := rfl
theorem gMo_28 (a : Nat → Nat) (i : IV) : (fMo a i)[28]? = some (.int (i 28)) := rfl
theorem sMo_28 (a : Nat → Nat) (i : IV) (x : Int32) : (fMo a i).set 28 (.int x) = fMo a (upd i 28 x) := rfl
theorem fkMo : FKt 12 RX12 TX12 29 tyX12 := ⟨rfl, inX12, tyX12_ok, nmX12⟩
abbrev wNil (_ : GX) : va_W := []
abbrev wMo (g : GX) (mo : Nat) (a : Nat → Nat) (o : IV) (now : LV) (dr : LV) (pa : LV) (sa : LV) (iS : IV) (bu : IV) (tq : IV) (rT : IV) (wT : IV) (wo : Nat → Option Nat) (sK : IV) (sA : IV) (sB : IV) (sE : IV) (oq : IV) (bS : IV) (bE : IV) (bL : IV) (rp : IV) : va_W := [(mo, oMo a o), ((a 0), aL g 215 now), ((a 1), aL g 215 dr), ((a 2), aL g 1720 pa), ((a 3), aL g 430 sa), ((a 4), aZ g 2 iS), ((a 7), aI g 600 bu), ((a 14), aZ g 6 tq), ((a 15), aZ g 5 rT), ((a 16), aZ g 2 wT), ((a 17), aR g 6 10 wo), ((a 18), aI g 30 sK), ((a 19), aI g 30 sA), ((a 20), aI g 30 sB), ((a 21), aI g 30 sE), ((a 23), aI g 2 oq), ((a 24), aI g 2 bS), ((a 25), aI g 2 bE), ((a 26), aI g 2 bL), ((a 27), aB g 2000 rp)]
theorem cn_0 : (0 : Int32).toNatClampNeg = 0 := by decide +kernel
theorem cn_1 : (1 : Int32).toNatClampNeg = 1 := by decide +kernel
theorem cn_2 : (2 : Int32).toNatClampNeg = 2 := by decide +kernel
theorem cn_3 : (3 : Int32).toNatClampNeg = 3 := by decide +kernel
theorem cn_4 : (4 : Int32).toNatClampNeg = 4 := by decide +kernel
theorem cn_12 : (12 : Int32).toNatClampNeg = 12 := by decide +kernel
theorem cn_13 : (13 : Int32).toNatClampNeg = 13 := by decide +kernel
theorem cn_16 : (16 : Int32).toNatClampNeg = 16 := by decide +kernel
theorem cn_19 : (19 : Int32).toNatClampNeg = 19 := by decide +kernel
theorem cn_20 : (20 : Int32).toNatClampNeg = 20 := by decide +kernel
theorem cn_22 : (22 : Int32).toNatClampNeg = 22 := by decide +kernel
theorem cn_23 : (23 : Int32).toNatClampNeg = 23 := by decide +kernel
theorem cn_24 : (24 : Int32).toNatClampNeg = 24 := by decide +kernel
theorem cn_25 : (25 : Int32).toNatClampNeg = 25 := by decide +kernel
theorem cn_26 : (26 : Int32).toNatClampNeg = 26 := by decide +kernel
theorem cn_27 : (27 : Int32).toNatClampNeg = 27 := by decide +kernel
theorem cn_28 : (28 : Int32).toNatClampNeg = 28 := by decide +kernel
theorem cn_29 : (29 : Int32).toNatClampNeg = 29 := by decide +kernel
theorem cn_30 : (30 : Int32).toNatClampNeg = 30 := by decide +kernel
theorem cn_31 : (31 : Int32).toNatClampNeg = 31 := by decide +kernel
theorem cn_32 : (32 : Int32).toNatClampNeg = 32 := by decide +kernel
theorem cn_37 : (37 : Int32).toNatClampNeg = 37 := by decide +kernel
theorem cn_38 : (38 : Int32).toNatClampNeg = 38 := by decide +kernel
theorem cn_39 : (39 : Int32).toNatClampNeg = 39 := by decide +kernel
theorem cn_40 : (40 : Int32).toNatClampNeg = 40 := by decide +kernel
theorem cn_41 : (41 : Int32).toNatClampNeg = 41 := by decide +kernel
theorem cn_42 : (42 : Int32).toNatClampNeg = 42 := by decide +kernel
theorem cn_43 : (43 : Int32).toNatClampNeg = 43 := by decide +kernel
theorem cn_44 : (44 : Int32).toNatClampNeg = 44 := by decide +kernel
theorem cn_54 : (54 : Int32).toNatClampNeg = 54 := by decide +kernel
theorem vi_0_2 : vp_in (0 : Int32) 2 := vi (by decide +kernel) cn_0 (Nat.le_of_ble_eq_true rfl)
theorem vi_0_215 : vp_in (0 : Int32) 215 := vi (by decide +kernel) cn_0 (Nat.le_of_ble_eq_true rfl)
theorem vi_1_2 : vp_in (1 : Int32) 2 := vi (by decide +kernel) cn_1 (Nat.le_of_ble_eq_true rfl)
theorem vi_1_215 : vp_in (1 : Int32) 215 := vi (by decide +kernel) cn_1 (Nat.le_of_ble_eq_true rfl)
theorem vi_2_215 : vp_in (2 : Int32) 215 := vi (by decide +kernel) cn_2 (Nat.le_of_ble_eq_true rfl)
theorem vi_3_215 : vp_in (3 : Int32) 215 := vi (by decide +kernel) cn_3 (Nat.le_of_ble_eq_true rfl)
theorem vi_4_215 : vp_in (4 : Int32) 215 := vi (by decide +kernel) cn_4 (Nat.le_of_ble_eq_true rfl)
theorem vi_12_215 : vp_in (12 : Int32) 215 := vi (by decide +kernel) cn_12 (Nat.le_of_ble_eq_true rfl)
theorem vi_13_215 : vp_in (13 : Int32) 215 := vi (by decide +kernel) cn_13 (Nat.le_of_ble_eq_true rfl)
theorem vi_16_215 : vp_in (16 : Int32) 215 := vi (by decide +kernel) cn_16 (Nat.le_of_ble_eq_true rfl)
theorem vi_19_215 : vp_in (19 : Int32) 215 := vi (by decide +kernel) cn_19 (Nat.le_of_ble_eq_true rfl)
theorem vi_20_215 : vp_in (20 : Int32) 215 := vi (by decide +kernel) cn_20 (Nat.le_of_ble_eq_true rfl)
theorem vi_22_215 : vp_in (22 : Int32) 215 := vi (by decide +kernel) cn_22 (Nat.le_of_ble_eq_true rfl)
theorem vi_23_215 : vp_in (23 : Int32) 215 := vi (by decide +kernel) cn_23 (Nat.le_of_ble_eq_true rfl)
theorem vi_24_215 : vp_in (24 : Int32) 215 := vi (by decide +kernel) cn_24 (Nat.le_of_ble_eq_true rfl)
theorem vi_25_215 : vp_in (25 : Int32) 215 := vi (by decide +kernel) cn_25 (Nat.le_of_ble_eq_true rfl)
theorem vi_26_215 : vp_in (26 : Int32) 215 := vi (by decide +kernel) cn_26 (Nat.le_of_ble_eq_true rfl)
theorem vi_27_215 : vp_in (27 : Int32) 215 := vi (by decide +kernel) cn_27 (Nat.le_of_ble_eq_true rfl)
theorem vi_28_215 : vp_in (28 : Int32) 215 := vi (by decide +kernel) cn_28 (Nat.le_of_ble_eq_true rfl)
theorem vi_29_215 : vp_in (29 : Int32) 215 := vi (by decide +kernel) cn_29 (Nat.le_of_ble_eq_true rfl)
theorem vi_30_215 : vp_in (30 : Int32) 215 := vi (by decide +kernel) cn_30 (Nat.le_of_ble_eq_true rfl)
theorem vi_31_215 : vp_in (31 : Int32) 215 := vi (by decide +kernel) cn_31 (Nat.le_of_ble_eq_true rfl)
theorem vi_32_215 : vp_in (32 : Int32) 215 := vi (by decide +kernel) cn_32 (Nat.le_of_ble_eq_true rfl)
theorem vi_37_215 : vp_in (37 : Int32) 215 := vi (by decide +kernel) cn_37 (Nat.le_of_ble_eq_true rfl)
theorem vi_38_215 : vp_in (38 : Int32) 215 := vi (by decide +kernel) cn_38 (Nat.le_of_ble_eq_true rfl)
theorem vi_39_215 : vp_in (39 : Int32) 215 := vi (by decide +kernel) cn_39 (Nat.le_of_ble_eq_true rfl)
theorem vi_40_215 : vp_in (40 : Int32) 215 := vi (by decide +kernel) cn_40 (Nat.le_of_ble_eq_true rfl)
theorem vi_41_215 : vp_in (41 : Int32) 215 := vi (by decide +kernel) cn_41 (Nat.le_of_ble_eq_true rfl)
theorem vi_42_215 : vp_in (42 : Int32) 215 := vi (by decide +kernel) cn_42 (Nat.le_of_ble_eq_true rfl)
theorem vi_43_215 : vp_in (43 : Int32) 215 := vi (by decide +kernel) cn_43 (Nat.le_of_ble_eq_true rfl)
theorem vi_44_215 : vp_in (44 : Int32) 215 := vi (by decide +kernel) cn_44 (Nat.le_of_ble_eq_true rfl)
theorem vi_54_215 : vp_in (54 : Int32) 215 := vi (by decide +kernel) cn_54 (Nat.le_of_ble_eq_true rfl)
abbrev rm_Mo_thrown : Room := { frames := 0, cells := 0, slots := 0, locals := 0 }
noncomputable def sp_Mo_thrown (o : IV) : Int32 := o 6
set_option maxRecDepth 100000 in
set_option maxHeartbeats 4000000 in
theorem c_Mo_thrown (l : Launch) (g : GX) (mo : Nat) (a : Nat → Nat) (o : IV) (now : LV) (dr : LV) (pa : LV) (sa : LV) (iS : IV) (bu : IV) (tq : IV) (rT : IV) (wT : IV) (wo : Nat → Option Nat) (sK : IV) (sA : IV) (sB : IV) (sE : IV) (oq : IV) (bS : IV) (bE : IV) (bL : IV) (rp : IV)  : Met l y_Mo_thrown (wsY y_Mo_thrown b_Mo_thrown 1 (some .int)) rm_Mo_thrown (CP g [.ref mo] (wMo g mo a o now dr pa sa iS bu tq rT wT wo sK sA sB sE oq bS bE bL rp)) (CI0 g (wMo g mo a o now dr pa sa iS bu tq rT wT wo sK sA sB sE oq bS bE bL rp) (sp_Mo_thrown o)) 0 0 (inW (wMo g mo a o now dr pa sa iS bu tq rT wT wo sK sA sB sE oq bS bE bL rp)) := by
  refine Met.ofW (cc := b_Mo_thrown) (maxL := 1) (ret := (some .int)) pn_Mo rfl ?_
  intro p e s m args below meth c s₁ B hml hv
  obtain ⟨rfl, C, hP, hD, hS⟩ := enter "DecadeBridgeModel" rfl B hml hv
  obtain ⟨hx, hb, hr, hml, hown, hlk, hts, hK, hZo, hZ⟩ := id C
  refine entryW (lv := [(0, .ref mo)]) rfl (Nat.le_of_ble_eq_true rfl) (fun ls hl => ?_)
  obtain ⟨z, hz⟩ : ∃ z, z = sp_Mo_thrown o := ⟨_, rfl⟩
  rw [← hz]
  unfold sp_Mo_thrown at hz
  refine lv_aload_n hx hb d_Mo_thrown_0 rfl (lv_at hl 0 rfl) ?_
  refine gf C hP 0 6 fkMo rfl (by decide) rfl qf_Mo_107 (gMo_6 _ _) d_Mo_thrown_1 ?_
  exact endI0 C hz hP hS d_Mo_thrown_4
abbrev rm_Mo_raise : Room := { frames := 0, cells := 0, slots := 0, locals := 0 }
noncomputable def sp_Mo_raise (p1 : Int32) (o : IV) : Int32 × IV := lett (upd o 6 p1) fun (o_1 : IV) => ((0 : Int32), o_1)
set_option maxRecDepth 100000 in
set_option maxHeartbeats 4000000 in
theorem c_Mo_raise (l : Launch) (g : GX) (mo : Nat) (a : Nat → Nat) (o : IV) (now : LV) (dr : LV) (pa : LV) (sa : LV) (iS : IV) (bu : IV) (tq : IV) (rT : IV) (wT : IV) (wo : Nat → Option Nat) (sK : IV) (sA : IV) (sB : IV) (sE : IV) (oq : IV) (bS : IV) (bE : IV) (bL : IV) (rp : IV) (p1 : Int32) : Met l y_Mo_raise (wsY y_Mo_raise b_Mo_raise 2 (some .int)) rm_Mo_raise (CP g [.ref mo, .int p1] (wMo g mo a o now dr pa sa iS bu tq rT wT wo sK sA sB sE oq bS bE bL rp)) (CI g (wMo g mo a o now dr pa sa iS bu tq rT wT wo sK sA sB sE oq bS bE bL rp) (fun u : IV => wMo g mo a u now dr pa sa iS bu tq rT wT wo sK sA sB sE oq bS bE bL rp) (sp_Mo_raise p1 o)) 0 0 (inW (wMo g mo a o now dr pa sa iS bu tq rT wT wo sK sA sB sE oq bS bE bL rp)) := by
  refine Met.ofW (cc := b_Mo_raise) (maxL := 2) (ret := (some .int)) pn_Mo rfl ?_
  intro p e s m args below meth c s₁ B hml hv
  obtain ⟨rfl, C, hP, hD, hS⟩ := enter "DecadeBridgeModel" rfl B hml hv
  obtain ⟨hx, hb, hr, hml, hown, hlk, hts, hK, hZo, hZ⟩ := id C
  refine entryW (lv := [(0, .ref mo), (1, .int p1)]) rfl (Nat.le_of_ble_eq_true rfl) (fun ls hl => ?_)
  obtain ⟨z, hz⟩ : ∃ z, z = sp_Mo_raise p1 o := ⟨_, rfl⟩
  rw [← hz]
  unfold sp_Mo_raise at hz
  refine lv_aload_n hx hb d_Mo_raise_0 rfl (lv_at hl 0 rfl) ?_
  refine lv_iload_n hx hb d_Mo_raise_1 rfl (lv_at hl 1 rfl) ?_
  refine pfI C hP hD hS 0 6 fkMo rfl (by decide) rfl qf_Mo_107 rfl rfl rfl (Nat.le_of_ble_eq_true rfl) (ff := fun o => fMo a o) (sMo_6 _ _ _) d_Mo_raise_2 (fun o_1 eo_1 H locs hP hD hS => ?_)
  have hP : va_P g.1 vwCl (wMo g mo a o_1 now dr pa sa iS bu tq rT wT wo sK sA sB sE oq bS bE bL rp) H := hP
  have hD : va_D (inW (wMo g mo a o now dr pa sa iS bu tq rT wT wo sK sA sB sE oq bS bE bL rp)) (wMo g mo a o_1 now dr pa sa iS bu tq rT wT wo sK sA sB sE oq bS bE bL rp) := hD
  have hz := lett_z hz eo_1
  refine lv_iconst (v := 0) hx hb d_Mo_raise_5 (by decide) ?_
  exact endI1 C hz hP hS d_Mo_raise_6
abbrev rm_Mo_in : Room := { frames := 0, cells := 0, slots := 0, locals := 0 }
def HL_Mo_in_17 (p : Program) (l : Launch) (e : Env) (s : State) (m : MethodId) (args : Array Value) (below : List Frame) (meth : Method) (c : Code) (g : GX) (mo : Nat) (a : Nat → Nat) (o : IV) (now : LV) (dr : LV) (pa : LV) (sa : LV) (iS : IV) (bu : IV) (tq : IV) (rT : IV) (wT : IV) (wo : Nat → Option Nat) (sK : IV) (sA : IV) (sB : IV) (sE : IV) (oq : IV) (bS : IV) (bE : IV) (bL : IV) (rp : IV) (sp : Int32) (ok : Prop) : Prop := ∀ (_ : Unit), ok → ∀ z : Int32, z = sp → ∀ (H : Heap) (locs : List Loc) (ls : Array Slot), va_P g.1 vwCl (wMo g mo a o now dr pa sa iS bu tq rT wT wo sK sA sB sE oq bS bE bL rp) H → va_D (inW (wMo g mo a o now dr pa sa iS bu tq rT wT wo sK sA sB sE oq bS bE bL rp)) (wMo g mo a o now dr pa sa iS bu tq rT wT wo sK sA sB sE oq bS bE bL rp) → va_S (inW (wMo g mo a o now dr pa sa iS bu tq rT wT wo sK sA sB sE oq bS bE bL rp)) s.heap H locs → lv_has ls 6 [] → W p l e rm_Mo_in s m args below meth c H locs 0 0 (MQ below (CI0 g (wMo g mo a o now dr pa sa iS bu tq rT wT wo sK sA sB sE oq bS bE bL rp) z) args s 0 0 (inW (wMo g mo a o now dr pa sa iS bu tq rT wT wo sK sA sB sE oq bS bE bL rp))) (F0 m 17 ls [])
noncomputable def sp_Mo_in_17    : Int32 := (0 : Int32)
def ok_Mo_in_17     : Prop := True
set_option maxRecDepth 100000 in
set_option maxHeartbeats 4000000 in
theorem k_Mo_in_17 {p : Program} {l : Launch} {e : Env} {s : State} {m : MethodId} {args : Array Value} {below : List Frame} {meth : Method} {c : Code} {g : GX} {mo : Nat} {a : Nat → Nat} {o : IV} {now : LV} {dr : LV} {pa : LV} {sa : LV} {iS : IV} {bu : IV} {tq : IV} {rT : IV} {wT : IV} {wo : Nat → Option Nat} {sK : IV} {sA : IV} {sB : IV} {sE : IV} {oq : IV} {bS : IV} {bE : IV} {bL : IV} {rp : IV}  (C : Cx p s m args meth c (inW (wMo g mo a o now dr pa sa iS bu tq rT wT wo sK sA sB sE oq bS bE bL rp)) g "DecadeBridgeModel" b_Mo_in (some .boolean) 6)  : HL_Mo_in_17 p l e s m args below meth c g mo a o now dr pa sa iS bu tq rT wT wo sK sA sB sE oq bS bE bL rp (sp_Mo_in_17  ) (ok_Mo_in_17   ) := by
  intro _ hok z hz H locs ls hP hD hS hl
  obtain ⟨hx, hb, hr, hml, hown, hlk, hts, hK, hZo, hZ⟩ := id C
  unfold sp_Mo_in_17 at hz
  refine lv_iconst (v := 0) hx hb d_Mo_in_17 (by decide) ?_
  exact endZ0 C hz hP hS rfl d_Mo_in_18
noncomputable def sp_Mo_in (p1 : Int64) (p2 : Int64) (p3 : Int64) : Int32 := if p1 < p2 then (sp_Mo_in_17) else (if p3 < p1 then (sp_Mo_in_17) else ((1 : Int32)))
set_option maxRecDepth 100000 in
set_option maxHeartbeats 4000000 in
theorem c_Mo_in (l : Launch) (g : GX) (mo : Nat) (a : Nat → Nat) (o : IV) (now : LV) (dr : LV) (pa : LV) (sa : LV) (iS : IV) (bu : IV) (tq : IV) (rT : IV) (wT : IV) (wo : Nat → Option Nat) (sK : IV) (sA : IV) (sB : IV) (sE : IV) (oq : IV) (bS : IV) (bE : IV) (bL : IV) (rp : IV) (p1 : Int64) (p2 : Int64) (p3 : Int64) : Met l y_Mo_in (wsY y_Mo_in b_Mo_in 6 (some .boolean)) rm_Mo_in (CP g [.long p1, .long p2, .long p3] (wMo g mo a o now dr pa sa iS bu tq rT wT wo sK sA sB sE oq bS bE bL rp)) (CI0 g (wMo g mo a o now dr pa sa iS bu tq rT wT wo sK sA sB sE oq bS bE bL rp) (sp_Mo_in p1 p2 p3)) 0 0 (inW (wMo g mo a o now dr pa sa iS bu tq rT wT wo sK sA sB sE oq bS bE bL rp)) := by
  refine Met.ofW (cc := b_Mo_in) (maxL := 6) (ret := (some .boolean)) pn_Mo rfl ?_
  intro p e s m args below meth c s₁ B hml hv
  obtain ⟨rfl, C, hP, hD, hS⟩ := enter "DecadeBridgeModel" rfl B hml hv
  obtain ⟨hx, hb, hr, hml, hown, hlk, hts, hK, hZo, hZ⟩ := id C
  refine entryW (lv := [(0, .long p1), (2, .long p2), (4, .long p3)]) rfl (Nat.le_of_ble_eq_true rfl) (fun ls hl => ?_)
  obtain ⟨z, hz⟩ : ∃ z, z = sp_Mo_in p1 p2 p3 := ⟨_, rfl⟩
  rw [← hz]
  unfold sp_Mo_in at hz
  refine lv_lload_n hx hb d_Mo_in_0 rfl (lv_at hl 0 rfl) ?_
  refine lv_lload_n hx hb d_Mo_in_1 rfl (lv_at hl 1 rfl) ?_
  refine lc_lt (tgt := 17) hx hb d_Mo_in_2 d_Mo_in_3 (by decide) (fun c1 => ?_) (fun c1 => ?_)
  · have hz := hz.trans (if_pos c1)
    exact k_Mo_in_17 C () trivial _ hz _ _ ls hP hD hS (lv_sub hl [] rfl)
  · have hz := hz.trans (if_neg c1)
    refine lv_lload_n hx hb d_Mo_in_6 rfl (lv_at hl 0 rfl) ?_
    refine lv_lload hx hb d_Mo_in_7 (lv_at hl 2 rfl) ?_
    refine lc_gt (tgt := 17) hx hb d_Mo_in_9 d_Mo_in_10 (by decide) (fun c2 => ?_) (fun c2 => ?_)
    · have hz := hz.trans (if_pos c2)
      exact k_Mo_in_17 C () trivial _ hz _ _ ls hP hD hS (lv_sub hl [] rfl)
    · have hz := hz.trans (if_neg c2)
      refine lv_iconst (v := 1) hx hb d_Mo_in_13 (by decide) ?_
      refine lv_goto (tgt := 18) hx hb d_Mo_in_14 (by decide) ?_
      exact endZ0 C hz hP hS rfl d_Mo_in_18
abbrev rm_Mo_amount : Room := { frames := 0, cells := 0, slots := 0, locals := 0 }
noncomputable def sp_Mo_amount (p1 : Int64) : Int64 := if (0 : Int64) ≤ p1 then (p1) else (-p1)
set_option maxRecDepth 100000 in
set_option maxHeartbeats 4000000 in
theorem c_Mo_amount (l : Launch) (g : GX) (mo : Nat) (a : Nat → Nat) (o : IV) (now : LV) (dr : LV) (pa : LV) (sa : LV) (iS : IV) (bu : IV) (tq : IV) (rT : IV) (wT : IV) (wo : Nat → Option Nat) (sK : IV) (sA : IV) (sB : IV) (sE : IV) (oq : IV) (bS : IV) (bE : IV) (bL : IV) (rp : IV) (p1 : Int64) : Met l y_Mo_amount (wsY y_Mo_amount b_Mo_amount 2 (some .long)) rm_Mo_amount (CP g [.long p1] (wMo g mo a o now dr pa sa iS bu tq rT wT wo sK sA sB sE oq bS bE bL rp)) (CL0 g (wMo g mo a o now dr pa sa iS bu tq rT wT wo sK sA sB sE oq bS bE bL rp) (sp_Mo_amount p1)) 0 0 (inW (wMo g mo a o now dr pa sa iS bu tq rT wT wo sK sA sB sE oq bS bE bL rp)) := by
  refine Met.ofW (cc := b_Mo_amount) (maxL := 2) (ret := (some .long)) pn_Mo rfl ?_
  intro p e s m args below meth c s₁ B hml hv
  obtain ⟨rfl, C, hP, hD, hS⟩ := enter "DecadeBridgeModel" rfl B hml hv
  obtain ⟨hx, hb, hr, hml, hown, hlk, hts, hK, hZo, hZ⟩ := id C
  refine entryW (lv := [(0, .long p1)]) rfl (Nat.le_of_ble_eq_true rfl) (fun ls hl => ?_)
  obtain ⟨z, hz⟩ : ∃ z, z = sp_Mo_amount p1 := ⟨_, rfl⟩
  rw [← hz]
  unfold sp_Mo_amount at hz
  refine lv_lload_n hx hb d_Mo_amount_0 rfl (lv_at hl 0 rfl) ?_
  refine lv_lconst (v := 0) hx hb d_Mo_amount_1 (by decide) ?_
  refine lc_ge (tgt := 11) hx hb d_Mo_amount_2 d_Mo_amount_3 (by decide) (fun c1 => ?_) (fun c1 => ?_)
  · have hz := hz.trans (if_pos c1)
    refine lv_lload_n hx hb d_Mo_amount_11 rfl (lv_at hl 0 rfl) ?_
    exact endL0 C hz hP hS d_Mo_amount_12
  · have hz := hz.trans (if_neg c1)
    refine lv_lload_n hx hb d_Mo_amount_6 rfl (lv_at hl 0 rfl) ?_
    refine lv_lneg hx hb d_Mo_amount_7 ?_
    refine lv_goto (tgt := 12) hx hb d_Mo_amount_8 (by decide) ?_
    exact endL0 C hz hP hS d_Mo_amount_12
abbrev rm_Mo_bound : Room := { frames := 0, cells := 0, slots := 0, locals := 0 }
noncomputable def sp_Mo_bound (p1 : Int64) (p2 : Int64) (p3 : Int64) : Int64 := if p2 ≤ p1 then (if p1 ≤ p3 then (p1) else (p3)) else (p2)
set_option maxRecDepth 100000 in
set_option maxHeartbeats 4000000 in
theorem c_Mo_bound (l : Launch) (g : GX) (mo : Nat) (a : Nat → Nat) (o : IV) (now : LV) (dr : LV) (pa : LV) (sa : LV) (iS : IV) (bu : IV) (tq : IV) (rT : IV) (wT : IV) (wo : Nat → Option Nat) (sK : IV) (sA : IV) (sB : IV) (sE : IV) (oq : IV) (bS : IV) (bE : IV) (bL : IV) (rp : IV) (p1 : Int64) (p2 : Int64) (p3 : Int64) : Met l y_Mo_bound (wsY y_Mo_bound b_Mo_bound 6 (some .long)) rm_Mo_bound (CP g [.long p1, .long p2, .long p3] (wMo g mo a o now dr pa sa iS bu tq rT wT wo sK sA sB sE oq bS bE bL rp)) (CL0 g (wMo g mo a o now dr pa sa iS bu tq rT wT wo sK sA sB sE oq bS bE bL rp) (sp_Mo_bound p1 p2 p3)) 0 0 (inW (wMo g mo a o now dr pa sa iS bu tq rT wT wo sK sA sB sE oq bS bE bL rp)) := by
  refine Met.ofW (cc := b_Mo_bound) (maxL := 6) (ret := (some .long)) pn_Mo rfl ?_
  intro p e s m args below meth c s₁ B hml hv
  obtain ⟨rfl, C, hP, hD, hS⟩ := enter "DecadeBridgeModel" rfl B hml hv
  obtain ⟨hx, hb, hr, hml, hown, hlk, hts, hK, hZo, hZ⟩ := id C
  refine entryW (lv := [(0, .long p1), (2, .long p2), (4, .long p3)]) rfl (Nat.le_of_ble_eq_true rfl) (fun ls hl => ?_)
  obtain ⟨z, hz⟩ : ∃ z, z = sp_Mo_bound p1 p2 p3 := ⟨_, rfl⟩
  rw [← hz]
  unfold sp_Mo_bound at hz
  refine lv_lload_n hx hb d_Mo_bound_0 rfl (lv_at hl 0 rfl) ?_
  refine lv_lload_n hx hb d_Mo_bound_1 rfl (lv_at hl 1 rfl) ?_
  refine lc_ge (tgt := 10) hx hb d_Mo_bound_2 d_Mo_bound_3 (by decide) (fun c1 => ?_) (fun c1 => ?_)
  · have hz := hz.trans (if_pos c1)
    refine lv_lload_n hx hb d_Mo_bound_10 rfl (lv_at hl 0 rfl) ?_
    refine lv_lload hx hb d_Mo_bound_11 (lv_at hl 2 rfl) ?_
    refine lc_le (tgt := 22) hx hb d_Mo_bound_13 d_Mo_bound_14 (by decide) (fun c2 => ?_) (fun c2 => ?_)
    · have hz := hz.trans (if_pos c2)
      refine lv_lload_n hx hb d_Mo_bound_22 rfl (lv_at hl 0 rfl) ?_
      exact endL0 C hz hP hS d_Mo_bound_23
    · have hz := hz.trans (if_neg c2)
      refine lv_lload hx hb d_Mo_bound_17 (lv_at hl 2 rfl) ?_
      refine lv_goto (tgt := 23) hx hb d_Mo_bound_19 (by decide) ?_
      exact endL0 C hz hP hS d_Mo_bound_23
  · have hz := hz.trans (if_neg c1)
    refine lv_lload_n hx hb d_Mo_bound_6 rfl (lv_at hl 1 rfl) ?_
    refine lv_goto (tgt := 23) hx hb d_Mo_bound_7 (by decide) ?_
    exact endL0 C hz hP hS d_Mo_bound_23
abbrev rm_Mo_tenTo : Room := { frames := 0, cells := 0, slots := 0, locals := 0 }
def HL_Mo_tenTo_4 (p : Program) (l : Launch) (e : Env) (s : State) (m : MethodId) (args : Array Value) (below : List Frame) (meth : Method) (c : Code) (g : GX) (mo : Nat) (a : Nat → Nat) (o : IV) (now : LV) (dr : LV) (pa : LV) (sa : LV) (iS : IV) (bu : IV) (tq : IV) (rT : IV) (wT : IV) (wo : Nat → Option Nat) (sK : IV) (sA : IV) (sB : IV) (sE : IV) (oq : IV) (bS : IV) (bE : IV) (bL : IV) (rp : IV) (p1 : Int32) (sp : Int64 → Int32 → Int64) (ok : Int64 → Int32 → Prop) : Prop := ∀ (x1p4 : Int64) (x3p4 : Int32), ok x1p4 x3p4 → ∀ z : Int64, z = sp x1p4 x3p4 → ∀ (H : Heap) (locs : List Loc) (ls : Array Slot), va_P g.1 vwCl (wMo g mo a o now dr pa sa iS bu tq rT wT wo sK sA sB sE oq bS bE bL rp) H → va_D (inW (wMo g mo a o now dr pa sa iS bu tq rT wT wo sK sA sB sE oq bS bE bL rp)) (wMo g mo a o now dr pa sa iS bu tq rT wT wo sK sA sB sE oq bS bE bL rp) → va_S (inW (wMo g mo a o now dr pa sa iS bu tq rT wT wo sK sA sB sE oq bS bE bL rp)) s.heap H locs → lv_has ls 4 [(0, .int p1), (1, .long x1p4), (3, .int x3p4)] → W p l e rm_Mo_tenTo s m args below meth c H locs 0 0 (MQ below (CL0 g (wMo g mo a o now dr pa sa iS bu tq rT wT wo sK sA sB sE oq bS bE bL rp) z) args s 0 0 (inW (wMo g mo a o now dr pa sa iS bu tq rT wT wo sK sA sB sE oq bS bE bL rp))) (F0 m 4 ls [])
noncomputable def bd_Mo_tenTo_4 (p1 : Int32) (r4 : Int64 → Int32 → Int64) (x1p4 : Int64) (x3p4 : Int32) : Int64 := if p1 ≤ x3p4 then (x1p4) else (lett (x1p4 * (10 : Int64)) fun (v2 : Int64) => lett (x3p4 + (1 : Int32)) fun (v3 : Int32) => r4 v2 v3)
def okb_Mo_tenTo_4 (p1 : Int32) (r4 : Int64 → Int32 → Int64) (q4 : Int64 → Int32 → Prop) (x1p4 : Int64) (x3p4 : Int32) : Prop := ((p1 ≤ x3p4 → True) ∧ (¬ (p1 ≤ x3p4) → lett (x1p4 * (10 : Int64)) fun (v2 : Int64) => lett (x3p4 + (1 : Int32)) fun (v3 : Int32) => q4 v2 v3))
noncomputable def sp_Mo_tenTo_4 (p1 : Int32)  : Nat → Int64 → Int32 → Int64
  | 0 => fun _ _ => default
  | f + 1 => bd_Mo_tenTo_4 p1  (sp_Mo_tenTo_4 p1  f)
def ok_Mo_tenTo_4 (p1 : Int32)   : Nat → Int64 → Int32 → Prop
  | 0 => fun _ _ => False
  | f + 1 => okb_Mo_tenTo_4 p1  (sp_Mo_tenTo_4 p1  f)  (ok_Mo_tenTo_4 p1   f)
set_option maxRecDepth 100000 in
set_option maxHeartbeats 4000000 in
theorem kb_Mo_tenTo_4 {p : Program} {l : Launch} {e : Env} {s : State} {m : MethodId} {args : Array Value} {below : List Frame} {meth : Method} {c : Code} {g : GX} {mo : Nat} {a : Nat → Nat} {o : IV} {now : LV} {dr : LV} {pa : LV} {sa : LV} {iS : IV} {bu : IV} {tq : IV} {rT : IV} {wT : IV} {wo : Nat → Option Nat} {sK : IV} {sA : IV} {sB : IV} {sE : IV} {oq : IV} {bS : IV} {bE : IV} {bL : IV} {rp : IV} {p1 : Int32}  (C : Cx p s m args meth c (inW (wMo g mo a o now dr pa sa iS bu tq rT wT wo sK sA sB sE oq bS bE bL rp)) g "DecadeBridgeModel" b_Mo_tenTo (some .long) 4) {r4 : Int64 → Int32 → Int64} {q4 : Int64 → Int32 → Prop}  (ih4 : HL_Mo_tenTo_4 p l e s m args below meth c g mo a o now dr pa sa iS bu tq rT wT wo sK sA sB sE oq bS bE bL rp p1 r4 q4) : HL_Mo_tenTo_4 p l e s m args below meth c g mo a o now dr pa sa iS bu tq rT wT wo sK sA sB sE oq bS bE bL rp p1 (bd_Mo_tenTo_4 p1  r4) (okb_Mo_tenTo_4 p1  r4  q4) := by
  intro x1p4 x3p4 hok z hz H locs ls hP hD hS hl
  obtain ⟨hx, hb, hr, hml, hown, hlk, hts, hK, hZo, hZ⟩ := id C
  unfold bd_Mo_tenTo_4 at hz
  unfold okb_Mo_tenTo_4 at hok
  refine lv_iload_n hx hb d_Mo_tenTo_4 rfl (lv_at hl 2 rfl) ?_
  refine lv_iload_n hx hb d_Mo_tenTo_5 rfl (lv_at hl 0 rfl) ?_
  refine lv_icmp_ge (tgt := 21) hx hb d_Mo_tenTo_6 (by decide) (fun c1 => ?_) (fun c1 => ?_)
  · have hz := hz.trans (if_pos c1)
    refine lv_lload_n hx hb d_Mo_tenTo_21 rfl (lv_at hl 1 rfl) ?_
    exact endL0 C hz hP hS d_Mo_tenTo_22
  · have hz := hz.trans (if_neg c1)
    have hok := hok.2 c1
    refine lv_lload_n hx hb d_Mo_tenTo_9 rfl (lv_at hl 1 rfl) ?_
    refine lv_ldc2 hx hb hown (hts _ qk_Mo_110) d_Mo_tenTo_10 ?_
    refine lv_lmul hx hb d_Mo_tenTo_13 ?_
    refine lv_topl (fun v2 ev2 => ?_)
    have hz := lett_z hz ev2
    have hok := lett_o hok ev2
    refine lv_lstore_n (lv' := [(1, .long v2), (0, .int p1), (3, .int x3p4)]) hx hb d_Mo_tenTo_14 rfl hl (by decide) rfl (fun ls hl => ?_)
    obtain ⟨v3, ev3⟩ : ∃ y : Int32, y = x3p4 + (1 : Int32) := ⟨_, rfl⟩
    have hz := lett_z hz ev3
    have hok := lett_o hok ev3
    refine lv_iinc (v := v3) (lv' := [(3, .int v3), (1, .long v2), (0, .int p1)]) hx hb d_Mo_tenTo_15 hl (k := 2) rfl (by rw [ev3]; rfl) (by decide) rfl (fun ls hl => ?_)
    refine lv_goto (tgt := 4) hx hb d_Mo_tenTo_18 (by decide) ?_
    exact ih4 v2 v3 hok _ hz _ _ ls hP hD hS (lv_sub hl [2, 1, 0] rfl)
theorem k_Mo_tenTo_4 {p : Program} {l : Launch} {e : Env} {s : State} {m : MethodId} {args : Array Value} {below : List Frame} {meth : Method} {c : Code} {g : GX} {mo : Nat} {a : Nat → Nat} {o : IV} {now : LV} {dr : LV} {pa : LV} {sa : LV} {iS : IV} {bu : IV} {tq : IV} {rT : IV} {wT : IV} {wo : Nat → Option Nat} {sK : IV} {sA : IV} {sB : IV} {sE : IV} {oq : IV} {bS : IV} {bE : IV} {bL : IV} {rp : IV} {p1 : Int32}  (C : Cx p s m args meth c (inW (wMo g mo a o now dr pa sa iS bu tq rT wT wo sK sA sB sE oq bS bE bL rp)) g "DecadeBridgeModel" b_Mo_tenTo (some .long) 4) (f : Nat)  : HL_Mo_tenTo_4 p l e s m args below meth c g mo a o now dr pa sa iS bu tq rT wT wo sK sA sB sE oq bS bE bL rp p1 (sp_Mo_tenTo_4 p1  f) (ok_Mo_tenTo_4 p1   f) := by
  induction f with
  | zero => intro x1p4 x3p4 hok; exact False.elim hok
  | succ f ih => exact kb_Mo_tenTo_4 C  ih
noncomputable def sp_Mo_tenTo (p1 : Int32) : Int64 := sp_Mo_tenTo_4 p1 big (1 : Int64) (0 : Int32)
def ok_Mo_tenTo (p1 : Int32) : Prop := ok_Mo_tenTo_4 p1 big (1 : Int64) (0 : Int32)
set_option maxRecDepth 100000 in
set_option maxHeartbeats 4000000 in
theorem c_Mo_tenTo (l : Launch) (g : GX) (mo : Nat) (a : Nat → Nat) (o : IV) (now : LV) (dr : LV) (pa : LV) (sa : LV) (iS : IV) (bu : IV) (tq : IV) (rT : IV) (wT : IV) (wo : Nat → Option Nat) (sK : IV) (sA : IV) (sB : IV) (sE : IV) (oq : IV) (bS : IV) (bE : IV) (bL : IV) (rp : IV) (p1 : Int32) (hok : ok_Mo_tenTo p1) : Met l y_Mo_tenTo (wsY y_Mo_tenTo b_Mo_tenTo 4 (some .long)) rm_Mo_tenTo (CP g [.int p1] (wMo g mo a o now dr pa sa iS bu tq rT wT wo sK sA sB sE oq bS bE bL rp)) (CL0 g (wMo g mo a o now dr pa sa iS bu tq rT wT wo sK sA sB sE oq bS bE bL rp) (sp_Mo_tenTo p1)) 0 0 (inW (wMo g mo a o now dr pa sa iS bu tq rT wT wo sK sA sB sE oq bS bE bL rp)) := by
  refine Met.ofW (cc := b_Mo_tenTo) (maxL := 4) (ret := (some .long)) pn_Mo rfl ?_
  intro p e s m args below meth c s₁ B hml hv
  obtain ⟨rfl, C, hP, hD, hS⟩ := enter "DecadeBridgeModel" rfl B hml hv
  obtain ⟨hx, hb, hr, hml, hown, hlk, hts, hK, hZo, hZ⟩ := id C
  refine entryW (lv := [(0, .int p1)]) rfl (Nat.le_of_ble_eq_true rfl) (fun ls hl => ?_)
  obtain ⟨z, hz⟩ : ∃ z, z = sp_Mo_tenTo p1 := ⟨_, rfl⟩
  rw [← hz]
  unfold sp_Mo_tenTo at hz
  unfold ok_Mo_tenTo at hok
  refine lv_lconst (v := 1) hx hb d_Mo_tenTo_0 (by decide) ?_
  refine lv_lstore_n (lv' := [(1, .long (1 : Int64)), (0, .int p1)]) hx hb d_Mo_tenTo_1 rfl hl (by decide) rfl (fun ls hl => ?_)
  refine lv_iconst (v := 0) hx hb d_Mo_tenTo_2 (by decide) ?_
  refine lv_istore_n (lv' := [(3, .int (0 : Int32)), (1, .long (1 : Int64)), (0, .int p1)]) hx hb d_Mo_tenTo_3 rfl hl (by decide) rfl (fun ls hl => ?_)
  exact k_Mo_tenTo_4 C big (1 : Int64) (0 : Int32) hok _ hz _ _ ls hP hD hS (lv_sub hl [2, 1, 0] rfl)
abbrev rm_Mo_setPlain : Room := { frames := 0, cells := 0, slots := 0, locals := 0 }
def HL_Mo_setPlain_2 (p : Program) (l : Launch) (e : Env) (s : State) (m : MethodId) (args : Array Value) (below : List Frame) (meth : Method) (c : Code) (g : GX) (mo : Nat) (a : Nat → Nat) (ws0 : va_W) (o : IV) (now : LV) (pa : LV) (sa : LV) (iS : IV) (bu : IV) (tq : IV) (rT : IV) (wT : IV) (wo : Nat → Option Nat) (sK : IV) (sA : IV) (sB : IV) (sE : IV) (oq : IV) (bS : IV) (bE : IV) (bL : IV) (rp : IV) (sp : Int32 → LV → LV) (ok : Int32 → LV → Prop) : Prop := ∀ (x1p2 : Int32) (drp2 : LV), ok x1p2 drp2 → ∀ z : LV, z = sp x1p2 drp2 → ∀ (H : Heap) (locs : List Loc) (ls : Array Slot), va_P g.1 vwCl (wMo g mo a o now drp2 pa sa iS bu tq rT wT wo sK sA sB sE oq bS bE bL rp) H → va_D (inW ws0) (wMo g mo a o now drp2 pa sa iS bu tq rT wT wo sK sA sB sE oq bS bE bL rp) → va_S (inW ws0) s.heap H locs → lv_has ls 2 [(0, .ref mo), (1, .int x1p2)] → W p l e rm_Mo_setPlain s m args below meth c H locs 0 0 (MQ below (CV g ws0 (fun u : LV => wMo g mo a o now u pa sa iS bu tq rT wT wo sK sA sB sE oq bS bE bL rp) z) args s 0 0 (inW ws0)) (F0 m 2 ls [])
def HL_Mo_setPlain_22 (p : Program) (l : Launch) (e : Env) (s : State) (m : MethodId) (args : Array Value) (below : List Frame) (meth : Method) (c : Code) (g : GX) (mo : Nat) (a : Nat → Nat) (ws0 : va_W) (o : IV) (now : LV) (drp2 : LV) (pa : LV) (sa : LV) (iS : IV) (bu : IV) (tq : IV) (rT : IV) (wT : IV) (wo : Nat → Option Nat) (sK : IV) (sA : IV) (sB : IV) (sE : IV) (oq : IV) (bS : IV) (bE : IV) (bL : IV) (rp : IV) (sp : LV) (ok : Prop) : Prop := ∀ (_ : Unit), ok → ∀ z : LV, z = sp → ∀ (H : Heap) (locs : List Loc) (ls : Array Slot), va_P g.1 vwCl (wMo g mo a o now drp2 pa sa iS bu tq rT wT wo sK sA sB sE oq bS bE bL rp) H → va_D (inW ws0) (wMo g mo a o now drp2 pa sa iS bu tq rT wT wo sK sA sB sE oq bS bE bL rp) → va_S (inW ws0) s.heap H locs → lv_has ls 2 [(0, .ref mo)] → W p l e rm_Mo_setPlain s m args below meth c H locs 0 0 (MQ below (CV g ws0 (fun u : LV => wMo g mo a o now u pa sa iS bu tq rT wT wo sK sA sB sE oq bS bE bL rp) z) args s 0 0 (inW ws0)) (F0 m 22 ls [])
noncomputable def sp_Mo_setPlain_22 (drp2 : LV)   : LV := lett (vp_updL drp2 22 (1000 : Int64)) fun (dr_5 : LV) => lett (vp_updL dr_5 23 (1000000 : Int64)) fun (dr_6 : LV) => lett (vp_updL dr_6 24 (9999999 : Int64)) fun (dr_7 : LV) => lett (vp_updL dr_7 28 (1 : Int64)) fun (dr_8 : LV) => lett (vp_updL dr_8 32 (2 : Int64)) fun (dr_9 : LV) => dr_9
def ok_Mo_setPlain_22 (drp2 : LV)    : Prop := True
set_option maxRecDepth 100000 in
set_option maxHeartbeats 4000000 in
theorem k_Mo_setPlain_22 {p : Program} {l : Launch} {e : Env} {s : State} {m : MethodId} {args : Array Value} {below : List Frame} {meth : Method} {c : Code} {g : GX} {mo : Nat} {a : Nat → Nat} {ws0 : va_W} {o : IV} {now : LV} {drp2 : LV} {pa : LV} {sa : LV} {iS : IV} {bu : IV} {tq : IV} {rT : IV} {wT : IV} {wo : Nat → Option Nat} {sK : IV} {sA : IV} {sB : IV} {sE : IV} {oq : IV} {bS : IV} {bE : IV} {bL : IV} {rp : IV}  (C : Cx p s m args meth c (inW ws0) g "DecadeBridgeModel" b_Mo_setPlain none 2)  : HL_Mo_setPlain_22 p l e s m args below meth c g mo a ws0 o now drp2 pa sa iS bu tq rT wT wo sK sA sB sE oq bS bE bL rp (sp_Mo_setPlain_22 drp2 ) (ok_Mo_setPlain_22 drp2  ) := by
  intro _ hok z hz H locs ls hP hD hS hl
  obtain ⟨hx, hb, hr, hml, hown, hlk, hts, hK, hZo, hZ⟩ := id C
  unfold sp_Mo_setPlain_22 at hz
  refine lv_aload_n hx hb d_Mo_setPlain_22 rfl (lv_at hl 0 rfl) ?_
  refine gf C hP 0 1 fkMo rfl (by decide) rfl qf_Mo_13 (gMo_1 _ _) d_Mo_setPlain_23 ?_
  refine lv_bipush (v := 22) hx hb d_Mo_setPlain_26 (by decide) ?_
  refine lv_ldc2 hx hb hown (hts _ qk_Mo_102) d_Mo_setPlain_28 ?_
  refine stL C hP hD hS 2 rfl vi_22_215 cn_22 d_Mo_setPlain_31 (fun dr_5 edr_5 H locs hP hD hS => ?_)
  have hP : va_P g.1 vwCl (wMo g mo a o now dr_5 pa sa iS bu tq rT wT wo sK sA sB sE oq bS bE bL rp) H := hP
  have hD : va_D (inW ws0) (wMo g mo a o now dr_5 pa sa iS bu tq rT wT wo sK sA sB sE oq bS bE bL rp) := hD
  have hz := lett_z hz edr_5
  refine lv_aload_n hx hb d_Mo_setPlain_32 rfl (lv_at hl 0 rfl) ?_
  refine gf C hP 0 1 fkMo rfl (by decide) rfl qf_Mo_13 (gMo_1 _ _) d_Mo_setPlain_33 ?_
  refine lv_bipush (v := 23) hx hb d_Mo_setPlain_36 (by decide) ?_
  refine lv_ldc2 hx hb hown (hts _ qk_Mo_112) d_Mo_setPlain_38 ?_
  refine stL C hP hD hS 2 rfl vi_23_215 cn_23 d_Mo_setPlain_41 (fun dr_6 edr_6 H locs hP hD hS => ?_)
  have hP : va_P g.1 vwCl (wMo g mo a o now dr_6 pa sa iS bu tq rT wT wo sK sA sB sE oq bS bE bL rp) H := hP
  have hD : va_D (inW ws0) (wMo g mo a o now dr_6 pa sa iS bu tq rT wT wo sK sA sB sE oq bS bE bL rp) := hD
  have hz := lett_z hz edr_6
  refine lv_aload_n hx hb d_Mo_setPlain_42 rfl (lv_at hl 0 rfl) ?_
  refine gf C hP 0 1 fkMo rfl (by decide) rfl qf_Mo_13 (gMo_1 _ _) d_Mo_setPlain_43 ?_
  refine lv_bipush (v := 24) hx hb d_Mo_setPlain_46 (by decide) ?_
  refine lv_ldc2 hx hb hown (hts _ qk_Mo_114) d_Mo_setPlain_48 ?_
  refine stL C hP hD hS 2 rfl vi_24_215 cn_24 d_Mo_setPlain_51 (fun dr_7 edr_7 H locs hP hD hS => ?_)
  have hP : va_P g.1 vwCl (wMo g mo a o now dr_7 pa sa iS bu tq rT wT wo sK sA sB sE oq bS bE bL rp) H := hP
  have hD : va_D (inW ws0) (wMo g mo a o now dr_7 pa sa iS bu tq rT wT wo sK sA sB sE oq bS bE bL rp) := hD
  have hz := lett_z hz edr_7
  refine lv_aload_n hx hb d_Mo_setPlain_52 rfl (lv_at hl 0 rfl) ?_
  refine gf C hP 0 1 fkMo rfl (by decide) rfl qf_Mo_13 (gMo_1 _ _) d_Mo_setPlain_53 ?_
  refine lv_bipush (v := 28) hx hb d_Mo_setPlain_56 (by decide) ?_
  refine lv_lconst (v := 1) hx hb d_Mo_setPlain_58 (by decide) ?_
  refine stL C hP hD hS 2 rfl vi_28_215 cn_28 d_Mo_setPlain_59 (fun dr_8 edr_8 H locs hP hD hS => ?_)
  have hP : va_P g.1 vwCl (wMo g mo a o now dr_8 pa sa iS bu tq rT wT wo sK sA sB sE oq bS bE bL rp) H := hP
  have hD : va_D (inW ws0) (wMo g mo a o now dr_8 pa sa iS bu tq rT wT wo sK sA sB sE oq bS bE bL rp) := hD
  have hz := lett_z hz edr_8
  refine lv_aload_n hx hb d_Mo_setPlain_60 rfl (lv_at hl 0 rfl) ?_
  refine gf C hP 0 1 fkMo rfl (by decide) rfl qf_Mo_13 (gMo_1 _ _) d_Mo_setPlain_61 ?_
  refine lv_bipush (v := 32) hx hb d_Mo_setPlain_64 (by decide) ?_
  refine lv_ldc2 hx hb hown (hts _ qk_Mo_100) d_Mo_setPlain_66 ?_
  refine stL C hP hD hS 2 rfl vi_32_215 cn_32 d_Mo_setPlain_69 (fun dr_9 edr_9 H locs hP hD hS => ?_)
  have hP : va_P g.1 vwCl (wMo g mo a o now dr_9 pa sa iS bu tq rT wT wo sK sA sB sE oq bS bE bL rp) H := hP
  have hD : va_D (inW ws0) (wMo g mo a o now dr_9 pa sa iS bu tq rT wT wo sK sA sB sE oq bS bE bL rp) := hD
  have hz := lett_z hz edr_9
  exact endV C hz hP hS d_Mo_setPlain_70
noncomputable def bd_Mo_setPlain_2  (r2 : Int32 → LV → LV) (x1p2 : Int32) (drp2 : LV) : LV := if (215 : Int32) ≤ x1p2 then (sp_Mo_setPlain_22 drp2) else (lett (vp_updL drp2 x1p2.toNatClampNeg (0 : Int64)) fun (dr_3 : LV) => lett (x1p2 + (1 : Int32)) fun (v4 : Int32) => r2 v4 dr_3)
def okb_Mo_setPlain_2  (r2 : Int32 → LV → LV) (q2 : Int32 → LV → Prop) (x1p2 : Int32) (drp2 : LV) : Prop := (((215 : Int32) ≤ x1p2 → True) ∧ (¬ ((215 : Int32) ≤ x1p2) → (vp_in x1p2 215) ∧ lett (vp_updL drp2 x1p2.toNatClampNeg (0 : Int64)) fun (dr_3 : LV) => lett (x1p2 + (1 : Int32)) fun (v4 : Int32) => q2 v4 dr_3))
noncomputable def sp_Mo_setPlain_2   : Nat → Int32 → LV → LV
  | 0 => fun _ _ => default
  | f + 1 => bd_Mo_setPlain_2   (sp_Mo_setPlain_2   f)
def ok_Mo_setPlain_2    : Nat → Int32 → LV → Prop
  | 0 => fun _ _ => False
  | f + 1 => okb_Mo_setPlain_2   (sp_Mo_setPlain_2   f)  (ok_Mo_setPlain_2    f)
set_option maxRecDepth 100000 in
set_option maxHeartbeats 4000000 in
theorem kb_Mo_setPlain_2 {p : Program} {l : Launch} {e : Env} {s : State} {m : MethodId} {args : Array Value} {below : List Frame} {meth : Method} {c : Code} {g : GX} {mo : Nat} {a : Nat → Nat} {ws0 : va_W} {o : IV} {now : LV} {pa : LV} {sa : LV} {iS : IV} {bu : IV} {tq : IV} {rT : IV} {wT : IV} {wo : Nat → Option Nat} {sK : IV} {sA : IV} {sB : IV} {sE : IV} {oq : IV} {bS : IV} {bE : IV} {bL : IV} {rp : IV}  (C : Cx p s m args meth c (inW ws0) g "DecadeBridgeModel" b_Mo_setPlain none 2) {r2 : Int32 → LV → LV} {q2 : Int32 → LV → Prop}  (ih2 : HL_Mo_setPlain_2 p l e s m args below meth c g mo a ws0 o now pa sa iS bu tq rT wT wo sK sA sB sE oq bS bE bL rp r2 q2) : HL_Mo_setPlain_2 p l e s m args below meth c g mo a ws0 o now pa sa iS bu tq rT wT wo sK sA sB sE oq bS bE bL rp (bd_Mo_setPlain_2   r2) (okb_Mo_setPlain_2   r2  q2) := by
  intro x1p2 drp2 hok z hz H locs ls hP hD hS hl
  obtain ⟨hx, hb, hr, hml, hown, hlk, hts, hK, hZo, hZ⟩ := id C
  unfold bd_Mo_setPlain_2 at hz
  unfold okb_Mo_setPlain_2 at hok
  refine lv_iload_n hx hb d_Mo_setPlain_2 rfl (lv_at hl 1 rfl) ?_
  refine lv_sipush (v := 215) hx hb d_Mo_setPlain_3 (by decide) ?_
  refine lv_icmp_ge (tgt := 22) hx hb d_Mo_setPlain_6 (by decide) (fun c1 => ?_) (fun c1 => ?_)
  · have hz := hz.trans (if_pos c1)
    exact k_Mo_setPlain_22 C () trivial _ hz _ _ ls hP hD hS (lv_sub hl [0] rfl)
  · have hz := hz.trans (if_neg c1)
    have hok := hok.2 c1
    refine lv_aload_n hx hb d_Mo_setPlain_9 rfl (lv_at hl 0 rfl) ?_
    refine gf C hP 0 1 fkMo rfl (by decide) rfl qf_Mo_13 (gMo_1 _ _) d_Mo_setPlain_10 ?_
    refine lv_iload_n hx hb d_Mo_setPlain_13 rfl (lv_at hl 1 rfl) ?_
    refine lv_lconst (v := 0) hx hb d_Mo_setPlain_14 (by decide) ?_
    have hs2 := hok.1
    have hok := hok.2
    refine stL C hP hD hS 2 rfl hs2 rfl d_Mo_setPlain_15 (fun dr_3 edr_3 H locs hP hD hS => ?_)
    have hP : va_P g.1 vwCl (wMo g mo a o now dr_3 pa sa iS bu tq rT wT wo sK sA sB sE oq bS bE bL rp) H := hP
    have hD : va_D (inW ws0) (wMo g mo a o now dr_3 pa sa iS bu tq rT wT wo sK sA sB sE oq bS bE bL rp) := hD
    have hz := lett_z hz edr_3
    have hok := lett_o hok edr_3
    obtain ⟨v4, ev4⟩ : ∃ y : Int32, y = x1p2 + (1 : Int32) := ⟨_, rfl⟩
    have hz := lett_z hz ev4
    have hok := lett_o hok ev4
    refine lv_iinc (v := v4) (lv' := [(1, .int v4), (0, .ref mo)]) hx hb d_Mo_setPlain_16 hl (k := 1) rfl (by rw [ev4]; rfl) (by decide) rfl (fun ls hl => ?_)
    refine lv_goto (tgt := 2) hx hb d_Mo_setPlain_19 (by decide) ?_
    exact ih2 v4 dr_3 hok _ hz _ _ ls hP hD hS (lv_sub hl [1, 0] rfl)
theorem k_Mo_setPlain_2 {p : Program} {l : Launch} {e : Env} {s : State} {m : MethodId} {args : Array Value} {below : List Frame} {meth : Method} {c : Code} {g : GX} {mo : Nat} {a : Nat → Nat} {ws0 : va_W} {o : IV} {now : LV} {pa : LV} {sa : LV} {iS : IV} {bu : IV} {tq : IV} {rT : IV} {wT : IV} {wo : Nat → Option Nat} {sK : IV} {sA : IV} {sB : IV} {sE : IV} {oq : IV} {bS : IV} {bE : IV} {bL : IV} {rp : IV}  (C : Cx p s m args meth c (inW ws0) g "DecadeBridgeModel" b_Mo_setPlain none 2) (f : Nat)  : HL_Mo_setPlain_2 p l e s m args below meth c g mo a ws0 o now pa sa iS bu tq rT wT wo sK sA sB sE oq bS bE bL rp (sp_Mo_setPlain_2   f) (ok_Mo_setPlain_2    f) := by
  induction f with
  | zero => intro x1p2 drp2 hok; exact False.elim hok
  | succ f ih => exact kb_Mo_setPlain_2 C  ih
noncomputable def sp_Mo_setPlain (dr : LV) : LV := sp_Mo_setPlain_2 big (0 : Int32) dr
def ok_Mo_setPlain (dr : LV) : Prop := ok_Mo_setPlain_2 big (0 : Int32) dr
set_option maxRecDepth 100000 in
set_option maxHeartbeats 4000000 in
theorem c_Mo_setPlain (l : Launch) (g : GX) (mo : Nat) (a : Nat → Nat) (o : IV) (now : LV) (dr : LV) (pa : LV) (sa : LV) (iS : IV) (bu : IV) (tq : IV) (rT : IV) (wT : IV) (wo : Nat → Option Nat) (sK : IV) (sA : IV) (sB : IV) (sE : IV) (oq : IV) (bS : IV) (bE : IV) (bL : IV) (rp : IV)  (hok : ok_Mo_setPlain dr) : Met l y_Mo_setPlain (wsY y_Mo_setPlain b_Mo_setPlain 2 none) rm_Mo_setPlain (CP g [.ref mo] (wMo g mo a o now dr pa sa iS bu tq rT wT wo sK sA sB sE oq bS bE bL rp)) (CV g (wMo g mo a o now dr pa sa iS bu tq rT wT wo sK sA sB sE oq bS bE bL rp) (fun u : LV => wMo g mo a o now u pa sa iS bu tq rT wT wo sK sA sB sE oq bS bE bL rp) (sp_Mo_setPlain dr)) 0 0 (inW (wMo g mo a o now dr pa sa iS bu tq rT wT wo sK sA sB sE oq bS bE bL rp)) := by
  refine Met.ofW (cc := b_Mo_setPlain) (maxL := 2) (ret := none) pn_Mo rfl ?_
  intro p e s m args below meth c s₁ B hml hv
  obtain ⟨rfl, C, hP, hD, hS⟩ := enter "DecadeBridgeModel" rfl B hml hv
  obtain ⟨hx, hb, hr, hml, hown, hlk, hts, hK, hZo, hZ⟩ := id C
  refine entryW (lv := [(0, .ref mo)]) rfl (Nat.le_of_ble_eq_true rfl) (fun ls hl => ?_)
  obtain ⟨z, hz⟩ : ∃ z, z = sp_Mo_setPlain dr := ⟨_, rfl⟩
  rw [← hz]
  unfold sp_Mo_setPlain at hz
  unfold ok_Mo_setPlain at hok
  refine lv_iconst (v := 0) hx hb d_Mo_setPlain_0 (by decide) ?_
  refine lv_istore_n (lv' := [(1, .int (0 : Int32)), (0, .ref mo)]) hx hb d_Mo_setPlain_1 rfl hl (by decide) rfl (fun ls hl => ?_)
  exact k_Mo_setPlain_2 C big (0 : Int32) dr hok _ hz _ _ ls hP hD hS (lv_sub hl [1, 0] rfl)
abbrev rm_Mo_takeDraft : Room := { frames := 0, cells := 0, slots := 0, locals := 0 }
def HL_Mo_takeDraft_2 (p : Program) (l : Launch) (e : Env) (s : State) (m : MethodId) (args : Array Value) (below : List Frame) (meth : Method) (c : Code) (g : GX) (mo : Nat) (a : Nat → Nat) (ws0 : va_W) (o : IV) (dr : LV) (pa : LV) (sa : LV) (iS : IV) (bu : IV) (tq : IV) (rT : IV) (wT : IV) (wo : Nat → Option Nat) (sK : IV) (sA : IV) (sB : IV) (sE : IV) (oq : IV) (bS : IV) (bE : IV) (bL : IV) (rp : IV) (sp : Int32 → LV → LV) (ok : Int32 → LV → Prop) : Prop := ∀ (x1p2 : Int32) (nowp2 : LV), ok x1p2 nowp2 → ∀ z : LV, z = sp x1p2 nowp2 → ∀ (H : Heap) (locs : List Loc) (ls : Array Slot), va_P g.1 vwCl (wMo g mo a o nowp2 dr pa sa iS bu tq rT wT wo sK sA sB sE oq bS bE bL rp) H → va_D (inW ws0) (wMo g mo a o nowp2 dr pa sa iS bu tq rT wT wo sK sA sB sE oq bS bE bL rp) → va_S (inW ws0) s.heap H locs → lv_has ls 2 [(0, .ref mo), (1, .int x1p2)] → W p l e rm_Mo_takeDraft s m args below meth c H locs 0 0 (MQ below (CV g ws0 (fun u : LV => wMo g mo a o u dr pa sa iS bu tq rT wT wo sK sA sB sE oq bS bE bL rp) z) args s 0 0 (inW ws0)) (F0 m 2 ls [])
noncomputable def bd_Mo_takeDraft_2 (dr : LV) (r2 : Int32 → LV → LV) (x1p2 : Int32) (nowp2 : LV) : LV := if (215 : Int32) ≤ x1p2 then (nowp2) else (lett (vp_updL nowp2 x1p2.toNatClampNeg (dr x1p2.toNatClampNeg)) fun (now_3 : LV) => lett (x1p2 + (1 : Int32)) fun (v4 : Int32) => r2 v4 now_3)
def okb_Mo_takeDraft_2 (dr : LV) (r2 : Int32 → LV → LV) (q2 : Int32 → LV → Prop) (x1p2 : Int32) (nowp2 : LV) : Prop := (((215 : Int32) ≤ x1p2 → True) ∧ (¬ ((215 : Int32) ≤ x1p2) → (vp_in x1p2 215) ∧ lett (vp_updL nowp2 x1p2.toNatClampNeg (dr x1p2.toNatClampNeg)) fun (now_3 : LV) => lett (x1p2 + (1 : Int32)) fun (v4 : Int32) => q2 v4 now_3))
noncomputable def sp_Mo_takeDraft_2 (dr : LV)  : Nat → Int32 → LV → LV
  | 0 => fun _ _ => default
  | f + 1 => bd_Mo_takeDraft_2 dr  (sp_Mo_takeDraft_2 dr  f)
def ok_Mo_takeDraft_2 (dr : LV)   : Nat → Int32 → LV → Prop
  | 0 => fun _ _ => False
  | f + 1 => okb_Mo_takeDraft_2 dr  (sp_Mo_takeDraft_2 dr  f)  (ok_Mo_takeDraft_2 dr   f)
set_option maxRecDepth 100000 in
set_option maxHeartbeats 4000000 in
theorem kb_Mo_takeDraft_2 {p : Program} {l : Launch} {e : Env} {s : State} {m : MethodId} {args : Array Value} {below : List Frame} {meth : Method} {c : Code} {g : GX} {mo : Nat} {a : Nat → Nat} {ws0 : va_W} {o : IV} {dr : LV} {pa : LV} {sa : LV} {iS : IV} {bu : IV} {tq : IV} {rT : IV} {wT : IV} {wo : Nat → Option Nat} {sK : IV} {sA : IV} {sB : IV} {sE : IV} {oq : IV} {bS : IV} {bE : IV} {bL : IV} {rp : IV}  (C : Cx p s m args meth c (inW ws0) g "DecadeBridgeModel" b_Mo_takeDraft none 2) {r2 : Int32 → LV → LV} {q2 : Int32 → LV → Prop}  (ih2 : HL_Mo_takeDraft_2 p l e s m args below meth c g mo a ws0 o dr pa sa iS bu tq rT wT wo sK sA sB sE oq bS bE bL rp r2 q2) : HL_Mo_takeDraft_2 p l e s m args below meth c g mo a ws0 o dr pa sa iS bu tq rT wT wo sK sA sB sE oq bS bE bL rp (bd_Mo_takeDraft_2 dr  r2) (okb_Mo_takeDraft_2 dr  r2  q2) := by
  intro x1p2 nowp2 hok z hz H locs ls hP hD hS hl
  obtain ⟨hx, hb, hr, hml, hown, hlk, hts, hK, hZo, hZ⟩ := id C
  unfold bd_Mo_takeDraft_2 at hz
  unfold okb_Mo_takeDraft_2 at hok
  refine lv_iload_n hx hb d_Mo_takeDraft_2 rfl (lv_at hl 1 rfl) ?_
  refine lv_sipush (v := 215) hx hb d_Mo_takeDraft_3 (by decide) ?_
  refine lv_icmp_ge (tgt := 27) hx hb d_Mo_takeDraft_6 (by decide) (fun c1 => ?_) (fun c1 => ?_)
  · have hz := hz.trans (if_pos c1)
    exact endV C hz hP hS d_Mo_takeDraft_27
  · have hz := hz.trans (if_neg c1)
    have hok := hok.2 c1
    refine lv_aload_n hx hb d_Mo_takeDraft_9 rfl (lv_at hl 0 rfl) ?_
    refine gf C hP 0 0 fkMo rfl (by decide) rfl qf_Mo_7 (gMo_0 _ _) d_Mo_takeDraft_10 ?_
    refine lv_iload_n hx hb d_Mo_takeDraft_13 rfl (lv_at hl 1 rfl) ?_
    refine lv_aload_n hx hb d_Mo_takeDraft_14 rfl (lv_at hl 0 rfl) ?_
    refine gf C hP 0 1 fkMo rfl (by decide) rfl qf_Mo_13 (gMo_1 _ _) d_Mo_takeDraft_15 ?_
    refine lv_iload_n hx hb d_Mo_takeDraft_18 rfl (lv_at hl 1 rfl) ?_
    have hs2 := hok.1
    have hok := hok.2
    refine ldL C hP 2 rfl hs2 rfl d_Mo_takeDraft_19 ?_
    refine stL C hP hD hS 1 rfl hs2 rfl d_Mo_takeDraft_20 (fun now_3 enow_3 H locs hP hD hS => ?_)
    have hP : va_P g.1 vwCl (wMo g mo a o now_3 dr pa sa iS bu tq rT wT wo sK sA sB sE oq bS bE bL rp) H := hP
    have hD : va_D (inW ws0) (wMo g mo a o now_3 dr pa sa iS bu tq rT wT wo sK sA sB sE oq bS bE bL rp) := hD
    have hz := lett_z hz enow_3
    have hok := lett_o hok enow_3
    obtain ⟨v4, ev4⟩ : ∃ y : Int32, y = x1p2 + (1 : Int32) := ⟨_, rfl⟩
    have hz := lett_z hz ev4
    have hok := lett_o hok ev4
    refine lv_iinc (v := v4) (lv' := [(1, .int v4), (0, .ref mo)]) hx hb d_Mo_takeDraft_21 hl (k := 1) rfl (by rw [ev4]; rfl) (by decide) rfl (fun ls hl => ?_)
    refine lv_goto (tgt := 2) hx hb d_Mo_takeDraft_24 (by decide) ?_
    exact ih2 v4 now_3 hok _ hz _ _ ls hP hD hS (lv_sub hl [1, 0] rfl)
theorem k_Mo_takeDraft_2 {p : Program} {l : Launch} {e : Env} {s : State} {m : MethodId} {args : Array Value} {below : List Frame} {meth : Method} {c : Code} {g : GX} {mo : Nat} {a : Nat → Nat} {ws0 : va_W} {o : IV} {dr : LV} {pa : LV} {sa : LV} {iS : IV} {bu : IV} {tq : IV} {rT : IV} {wT : IV} {wo : Nat → Option Nat} {sK : IV} {sA : IV} {sB : IV} {sE : IV} {oq : IV} {bS : IV} {bE : IV} {bL : IV} {rp : IV}  (C : Cx p s m args meth c (inW ws0) g "DecadeBridgeModel" b_Mo_takeDraft none 2) (f : Nat)  : HL_Mo_takeDraft_2 p l e s m args below meth c g mo a ws0 o dr pa sa iS bu tq rT wT wo sK sA sB sE oq bS bE bL rp (sp_Mo_takeDraft_2 dr  f) (ok_Mo_takeDraft_2 dr   f) := by
  induction f with
  | zero => intro x1p2 nowp2 hok; exact False.elim hok
  | succ f ih => exact kb_Mo_takeDraft_2 C  ih
noncomputable def sp_Mo_takeDraft (now : LV) (dr : LV) : LV := sp_Mo_takeDraft_2 dr big (0 : Int32) now
def ok_Mo_takeDraft (now : LV) (dr : LV) : Prop := ok_Mo_takeDraft_2 dr big (0 : Int32) now
set_option maxRecDepth 100000 in
set_option maxHeartbeats 4000000 in
theorem c_Mo_takeDraft (l : Launch) (g : GX) (mo : Nat) (a : Nat → Nat) (o : IV) (now : LV) (dr : LV) (pa : LV) (sa : LV) (iS : IV) (bu : IV) (tq : IV) (rT : IV) (wT : IV) (wo : Nat → Option Nat) (sK : IV) (sA : IV) (sB : IV) (sE : IV) (oq : IV) (bS : IV) (bE : IV) (bL : IV) (rp : IV)  (hok : ok_Mo_takeDraft now dr) : Met l y_Mo_takeDraft (wsY y_Mo_takeDraft b_Mo_takeDraft 2 none) rm_Mo_takeDraft (CP g [.ref mo] (wMo g mo a o now dr pa sa iS bu tq rT wT wo sK sA sB sE oq bS bE bL rp)) (CV g (wMo g mo a o now dr pa sa iS bu tq rT wT wo sK sA sB sE oq bS bE bL rp) (fun u : LV => wMo g mo a o u dr pa sa iS bu tq rT wT wo sK sA sB sE oq bS bE bL rp) (sp_Mo_takeDraft now dr)) 0 0 (inW (wMo g mo a o now dr pa sa iS bu tq rT wT wo sK sA sB sE oq bS bE bL rp)) := by
  refine Met.ofW (cc := b_Mo_takeDraft) (maxL := 2) (ret := none) pn_Mo rfl ?_
  intro p e s m args below meth c s₁ B hml hv
  obtain ⟨rfl, C, hP, hD, hS⟩ := enter "DecadeBridgeModel" rfl B hml hv
  obtain ⟨hx, hb, hr, hml, hown, hlk, hts, hK, hZo, hZ⟩ := id C
  refine entryW (lv := [(0, .ref mo)]) rfl (Nat.le_of_ble_eq_true rfl) (fun ls hl => ?_)
  obtain ⟨z, hz⟩ : ∃ z, z = sp_Mo_takeDraft now dr := ⟨_, rfl⟩
  rw [← hz]
  unfold sp_Mo_takeDraft at hz
  unfold ok_Mo_takeDraft at hok
  refine lv_iconst (v := 0) hx hb d_Mo_takeDraft_0 (by decide) ?_
  refine lv_istore_n (lv' := [(1, .int (0 : Int32)), (0, .ref mo)]) hx hb d_Mo_takeDraft_1 rfl hl (by decide) rfl (fun ls hl => ?_)
  exact k_Mo_takeDraft_2 C big (0 : Int32) now hok _ hz _ _ ls hP hD hS (lv_sub hl [1, 0] rfl)
abbrev rm_Mo_isKind : Room := { frames := 1, cells := 0, slots := 0, locals := 25 }
noncomputable def sp_Mo_isKind (p1 : Int64) : Int32 := lett (sp_Mo_in p1 (0 : Int64) (4 : Int64)) fun (y1 : Int32) => y1
def ok_Mo_isKind (p1 : Int64) : Prop := lett (sp_Mo_in p1 (0 : Int64) (4 : Int64)) fun (y1 : Int32) => (isB y1) ∧ True
set_option maxRecDepth 100000 in
set_option maxHeartbeats 4000000 in
theorem c_Mo_isKind (l : Launch) (g : GX) (mo : Nat) (a : Nat → Nat) (o : IV) (now : LV) (dr : LV) (pa : LV) (sa : LV) (iS : IV) (bu : IV) (tq : IV) (rT : IV) (wT : IV) (wo : Nat → Option Nat) (sK : IV) (sA : IV) (sB : IV) (sE : IV) (oq : IV) (bS : IV) (bE : IV) (bL : IV) (rp : IV) (p1 : Int64) (hok : ok_Mo_isKind p1) : Met l y_Mo_isKind (wsY y_Mo_isKind b_Mo_isKind 2 (some .boolean)) rm_Mo_isKind (CP g [.long p1] (wMo g mo a o now dr pa sa iS bu tq rT wT wo sK sA sB sE oq bS bE bL rp)) (CI0 g (wMo g mo a o now dr pa sa iS bu tq rT wT wo sK sA sB sE oq bS bE bL rp) (sp_Mo_isKind p1)) 0 0 (inW (wMo g mo a o now dr pa sa iS bu tq rT wT wo sK sA sB sE oq bS bE bL rp)) := by
  refine Met.ofW (cc := b_Mo_isKind) (maxL := 2) (ret := (some .boolean)) pn_Mo rfl ?_
  intro p e s m args below meth c s₁ B hml hv
  obtain ⟨rfl, C, hP, hD, hS⟩ := enter "DecadeBridgeModel" rfl B hml hv
  obtain ⟨hx, hb, hr, hml, hown, hlk, hts, hK, hZo, hZ⟩ := id C
  refine entryW (lv := [(0, .long p1)]) rfl (Nat.le_of_ble_eq_true rfl) (fun ls hl => ?_)
  obtain ⟨z, hz⟩ : ∃ z, z = sp_Mo_isKind p1 := ⟨_, rfl⟩
  rw [← hz]
  unfold sp_Mo_isKind at hz
  unfold ok_Mo_isKind at hok
  refine lv_lload_n hx hb d_Mo_isKind_0 rfl (lv_at hl 0 rfl) ?_
  refine lv_lconst (v := 0) hx hb d_Mo_isKind_1 (by decide) ?_
  refine lv_ldc2 hx hb hown (hts _ qk_Mo_116) d_Mo_isKind_2 ?_
  have hB : SubW g (inW (wMo g mo a o now dr pa sa iS bu tq rT wT wo sK sA sB sE oq bS bE bL rp)) s (wMo g mo a o now dr pa sa iS bu tq rT wT wo sK sA sB sE oq bS bE bL rp) _ (List.range _) _ _ := (subF hP hD hS)
  refine goI0 hB (run_s C mf_Mo_in qm_Mo_118 (c_Mo_in l g mo a o now dr pa sa iS bu tq rT wT wo sK sA sB sE oq bS bE bL rp p1 (0 : Int64) (4 : Int64)) rfl rfl ⟨Nat.le_of_ble_eq_true rfl, Nat.le_of_ble_eq_true rfl⟩ ⟨Nat.le_of_ble_eq_true rfl, Nat.le_of_ble_eq_true rfl⟩ hB hl rfl rfl (Nat.le_of_ble_eq_true rfl) d_Mo_isKind_5) (fun y1 ey1 H locs hP hS => ?_)
  have hz := lett_z hz ey1
  have hok := lett_o hok ey1
  have hs2 := hok.1
  have hok := hok.2
  exact endZ0 C hz hP hS (isB_nar hs2) d_Mo_isKind_8
abbrev rm_Mo_nominal : Room := { frames := 1, cells := 0, slots := 0, locals := 23 }
noncomputable def sp_Mo_nominal (p1 : Int64) : Int64 := lett (sp_Mo_tenTo p1.toInt32) fun (y2 : Int64) => (1000 : Int64) * y2
def ok_Mo_nominal (p1 : Int64) : Prop := (ok_Mo_tenTo p1.toInt32) ∧ True
set_option maxRecDepth 100000 in
set_option maxHeartbeats 4000000 in
theorem c_Mo_nominal (l : Launch) (g : GX) (mo : Nat) (a : Nat → Nat) (o : IV) (now : LV) (dr : LV) (pa : LV) (sa : LV) (iS : IV) (bu : IV) (tq : IV) (rT : IV) (wT : IV) (wo : Nat → Option Nat) (sK : IV) (sA : IV) (sB : IV) (sE : IV) (oq : IV) (bS : IV) (bE : IV) (bL : IV) (rp : IV) (p1 : Int64) (hok : ok_Mo_nominal p1) : Met l y_Mo_nominal (wsY y_Mo_nominal b_Mo_nominal 2 (some .long)) rm_Mo_nominal (CP g [.long p1] (wMo g mo a o now dr pa sa iS bu tq rT wT wo sK sA sB sE oq bS bE bL rp)) (CL0 g (wMo g mo a o now dr pa sa iS bu tq rT wT wo sK sA sB sE oq bS bE bL rp) (sp_Mo_nominal p1)) 0 0 (inW (wMo g mo a o now dr pa sa iS bu tq rT wT wo sK sA sB sE oq bS bE bL rp)) := by
  refine Met.ofW (cc := b_Mo_nominal) (maxL := 2) (ret := (some .long)) pn_Mo rfl ?_
  intro p e s m args below meth c s₁ B hml hv
  obtain ⟨rfl, C, hP, hD, hS⟩ := enter "DecadeBridgeModel" rfl B hml hv
  obtain ⟨hx, hb, hr, hml, hown, hlk, hts, hK, hZo, hZ⟩ := id C
  refine entryW (lv := [(0, .long p1)]) rfl (Nat.le_of_ble_eq_true rfl) (fun ls hl => ?_)
  obtain ⟨z, hz⟩ : ∃ z, z = sp_Mo_nominal p1 := ⟨_, rfl⟩
  rw [← hz]
  unfold sp_Mo_nominal at hz
  unfold ok_Mo_nominal at hok
  refine lv_ldc2 hx hb hown (hts _ qk_Mo_102) d_Mo_nominal_0 ?_
  refine lv_lload_n hx hb d_Mo_nominal_3 rfl (lv_at hl 0 rfl) ?_
  refine lv_l2i hx hb d_Mo_nominal_4 rfl ?_
  have hs1 := hok.1
  have hok := hok.2
  have hB : SubW g (inW (wMo g mo a o now dr pa sa iS bu tq rT wT wo sK sA sB sE oq bS bE bL rp)) s (wMo g mo a o now dr pa sa iS bu tq rT wT wo sK sA sB sE oq bS bE bL rp) _ (List.range _) _ _ := (subF hP hD hS)
  refine goL0 hB (run_s C mf_Mo_tenTo qm_Mo_122 (c_Mo_tenTo l g mo a o now dr pa sa iS bu tq rT wT wo sK sA sB sE oq bS bE bL rp p1.toInt32 hs1) rfl rfl ⟨Nat.le_of_ble_eq_true rfl, Nat.le_of_ble_eq_true rfl⟩ ⟨Nat.le_of_ble_eq_true rfl, Nat.le_of_ble_eq_true rfl⟩ hB hl rfl rfl (Nat.le_of_ble_eq_true rfl) d_Mo_nominal_5) (fun y2 ey2 H locs hP hS => ?_)
  have hz := lett_z hz ey2
  refine lv_lmul hx hb d_Mo_nominal_8 ?_
  exact endL0 C hz hP hS d_Mo_nominal_9
abbrev rm_Mo_ohmsOf : Room := { frames := 2, cells := 0, slots := 0, locals := 44 }
noncomputable def sp_Mo_ohmsOf (p1 : Int64) (now : LV) : Int64 := lett (sp_Mo_nominal p1) fun (y2 : Int64) => lett (sp_Mo_nominal p1) fun (y3 : Int64) => y2 + ((y3 * (now ((7 : Int32) + p1.toInt32).toNatClampNeg)) / (1000000 : Int64))
def ok_Mo_ohmsOf (p1 : Int64) : Prop := (ok_Mo_nominal p1) ∧ lett (sp_Mo_nominal p1) fun (y2 : Int64) => lett (sp_Mo_nominal p1) fun (y3 : Int64) => (vp_in ((7 : Int32) + p1.toInt32) 215) ∧ True
set_option maxRecDepth 100000 in
set_option maxHeartbeats 4000000 in
theorem c_Mo_ohmsOf (l : Launch) (g : GX) (mo : Nat) (a : Nat → Nat) (o : IV) (now : LV) (dr : LV) (pa : LV) (sa : LV) (iS : IV) (bu : IV) (tq : IV) (rT : IV) (wT : IV) (wo : Nat → Option Nat) (sK : IV) (sA : IV) (sB : IV) (sE : IV) (oq : IV) (bS : IV) (bE : IV) (bL : IV) (rp : IV) (p1 : Int64) (hok : ok_Mo_ohmsOf p1) : Met l y_Mo_ohmsOf (wsY y_Mo_ohmsOf b_Mo_ohmsOf 3 (some .long)) rm_Mo_ohmsOf (CP g [.ref mo, .long p1] (wMo g mo a o now dr pa sa iS bu tq rT wT wo sK sA sB sE oq bS bE bL rp)) (CL0 g (wMo g mo a o now dr pa sa iS bu tq rT wT wo sK sA sB sE oq bS bE bL rp) (sp_Mo_ohmsOf p1 now)) 0 0 (inW (wMo g mo a o now dr pa sa iS bu tq rT wT wo sK sA sB sE oq bS bE bL rp)) := by
  refine Met.ofW (cc := b_Mo_ohmsOf) (maxL := 3) (ret := (some .long)) pn_Mo rfl ?_
  intro p e s m args below meth c s₁ B hml hv
  obtain ⟨rfl, C, hP, hD, hS⟩ := enter "DecadeBridgeModel" rfl B hml hv
  obtain ⟨hx, hb, hr, hml, hown, hlk, hts, hK, hZo, hZ⟩ := id C
  refine entryW (lv := [(0, .ref mo), (1, .long p1)]) rfl (Nat.le_of_ble_eq_true rfl) (fun ls hl => ?_)
  obtain ⟨z, hz⟩ : ∃ z, z = sp_Mo_ohmsOf p1 now := ⟨_, rfl⟩
  rw [← hz]
  unfold sp_Mo_ohmsOf at hz
  unfold ok_Mo_ohmsOf at hok
  refine lv_lload_n hx hb d_Mo_ohmsOf_0 rfl (lv_at hl 1 rfl) ?_
  have hs1 := hok.1
  have hok := hok.2
  have hB : SubW g (inW (wMo g mo a o now dr pa sa iS bu tq rT wT wo sK sA sB sE oq bS bE bL rp)) s (wMo g mo a o now dr pa sa iS bu tq rT wT wo sK sA sB sE oq bS bE bL rp) _ (List.range _) _ _ := (subF hP hD hS)
  refine goL0 hB (run_s C mf_Mo_nominal qm_Mo_126 (c_Mo_nominal l g mo a o now dr pa sa iS bu tq rT wT wo sK sA sB sE oq bS bE bL rp p1 hs1) rfl rfl ⟨Nat.le_of_ble_eq_true rfl, Nat.le_of_ble_eq_true rfl⟩ ⟨Nat.le_of_ble_eq_true rfl, Nat.le_of_ble_eq_true rfl⟩ hB hl rfl rfl (Nat.le_of_ble_eq_true rfl) d_Mo_ohmsOf_1) (fun y2 ey2 H locs hP hS => ?_)
  have hz := lett_z hz ey2
  have hok := lett_o hok ey2
  refine lv_lload_n hx hb d_Mo_ohmsOf_4 rfl (lv_at hl 1 rfl) ?_
  have hB : SubW g (inW (wMo g mo a o now dr pa sa iS bu tq rT wT wo sK sA sB sE oq bS bE bL rp)) s (wMo g mo a o now dr pa sa iS bu tq rT wT wo sK sA sB sE oq bS bE bL rp) _ (List.range _) _ _ := (subF hP hD hS)
  refine goL0 hB (run_s C mf_Mo_nominal qm_Mo_126 (c_Mo_nominal l g mo a o now dr pa sa iS bu tq rT wT wo sK sA sB sE oq bS bE bL rp p1 hs1) rfl rfl ⟨Nat.le_of_ble_eq_true rfl, Nat.le_of_ble_eq_true rfl⟩ ⟨Nat.le_of_ble_eq_true rfl, Nat.le_of_ble_eq_true rfl⟩ hB hl rfl rfl (Nat.le_of_ble_eq_true rfl) d_Mo_ohmsOf_5) (fun y3 ey3 H locs hP hS => ?_)
  have hz := lett_z hz ey3
  have hok := lett_o hok ey3
  refine lv_aload_n hx hb d_Mo_ohmsOf_8 rfl (lv_at hl 0 rfl) ?_
  refine gf C hP 0 0 fkMo rfl (by decide) rfl qf_Mo_7 (gMo_0 _ _) d_Mo_ohmsOf_9 ?_
  refine lv_bipush (v := 7) hx hb d_Mo_ohmsOf_12 (by decide) ?_
  refine lv_lload_n hx hb d_Mo_ohmsOf_14 rfl (lv_at hl 1 rfl) ?_
  refine lv_l2i hx hb d_Mo_ohmsOf_15 rfl ?_
  refine lv_iadd hx hb d_Mo_ohmsOf_16 ?_
  have hs4 := hok.1
  have hok := hok.2
  refine ldL C hP 1 rfl hs4 rfl d_Mo_ohmsOf_17 ?_
  refine lv_lmul hx hb d_Mo_ohmsOf_18 ?_
  refine lv_ldc2 hx hb hown (hts _ qk_Mo_112) d_Mo_ohmsOf_19 ?_
  refine lv_ldiv hx hb d_Mo_ohmsOf_22 (by decide) ?_
  refine lv_ladd hx hb d_Mo_ohmsOf_23 ?_
  exact endL0 C hz hP hS d_Mo_ohmsOf_24
abbrev rm_Mo_decades : Room := { frames := 0, cells := 0, slots := 0, locals := 0 }
noncomputable def sp_Mo_decades (now : LV) : Int32 := (now 0).toInt32
set_option maxRecDepth 100000 in
set_option maxHeartbeats 4000000 in
theorem c_Mo_decades (l : Launch) (g : GX) (mo : Nat) (a : Nat → Nat) (o : IV) (now : LV) (dr : LV) (pa : LV) (sa : LV) (iS : IV) (bu : IV) (tq : IV) (rT : IV) (wT : IV) (wo : Nat → Option Nat) (sK : IV) (sA : IV) (sB : IV) (sE : IV) (oq : IV) (bS : IV) (bE : IV) (bL : IV) (rp : IV)  : Met l y_Mo_decades (wsY y_Mo_decades b_Mo_decades 1 (some .int)) rm_Mo_decades (CP g [.ref mo] (wMo g mo a o now dr pa sa iS bu tq rT wT wo sK sA sB sE oq bS bE bL rp)) (CI0 g (wMo g mo a o now dr pa sa iS bu tq rT wT wo sK sA sB sE oq bS bE bL rp) (sp_Mo_decades now)) 0 0 (inW (wMo g mo a o now dr pa sa iS bu tq rT wT wo sK sA sB sE oq bS bE bL rp)) := by
  refine Met.ofW (cc := b_Mo_decades) (maxL := 1) (ret := (some .int)) pn_Mo rfl ?_
  intro p e s m args below meth c s₁ B hml hv
  obtain ⟨rfl, C, hP, hD, hS⟩ := enter "DecadeBridgeModel" rfl B hml hv
  obtain ⟨hx, hb, hr, hml, hown, hlk, hts, hK, hZo, hZ⟩ := id C
  refine entryW (lv := [(0, .ref mo)]) rfl (Nat.le_of_ble_eq_true rfl) (fun ls hl => ?_)
  obtain ⟨z, hz⟩ : ∃ z, z = sp_Mo_decades now := ⟨_, rfl⟩
  rw [← hz]
  unfold sp_Mo_decades at hz
  refine lv_aload_n hx hb d_Mo_decades_0 rfl (lv_at hl 0 rfl) ?_
  refine gf C hP 0 0 fkMo rfl (by decide) rfl qf_Mo_7 (gMo_0 _ _) d_Mo_decades_1 ?_
  refine lv_iconst (v := 0) hx hb d_Mo_decades_4 (by decide) ?_
  refine ldL C hP 1 rfl vi_0_215 cn_0 d_Mo_decades_5 ?_
  refine lv_l2i hx hb d_Mo_decades_6 rfl ?_
  exact endI0 C hz hP hS d_Mo_decades_7
abbrev rm_Mo_settings : Room := { frames := 1, cells := 0, slots := 0, locals := 23 }
noncomputable def sp_Mo_settings (now : LV) : Int32 := lett (sp_Mo_decades now) fun (y1 : Int32) => lett (sp_Mo_tenTo y1) fun (y3 : Int64) => y3.toInt32
def ok_Mo_settings (now : LV) : Prop := lett (sp_Mo_decades now) fun (y1 : Int32) => (ok_Mo_tenTo y1) ∧ True
set_option maxRecDepth 100000 in
set_option maxHeartbeats 4000000 in
theorem c_Mo_settings (l : Launch) (g : GX) (mo : Nat) (a : Nat → Nat) (o : IV) (now : LV) (dr : LV) (pa : LV) (sa : LV) (iS : IV) (bu : IV) (tq : IV) (rT : IV) (wT : IV) (wo : Nat → Option Nat) (sK : IV) (sA : IV) (sB : IV) (sE : IV) (oq : IV) (bS : IV) (bE : IV) (bL : IV) (rp : IV)  (hok : ok_Mo_settings now) : Met l y_Mo_settings (wsY y_Mo_settings b_Mo_settings 1 (some .int)) rm_Mo_settings (CP g [.ref mo] (wMo g mo a o now dr pa sa iS bu tq rT wT wo sK sA sB sE oq bS bE bL rp)) (CI0 g (wMo g mo a o now dr pa sa iS bu tq rT wT wo sK sA sB sE oq bS bE bL rp) (sp_Mo_settings now)) 0 0 (inW (wMo g mo a o now dr pa sa iS bu tq rT wT wo sK sA sB sE oq bS bE bL rp)) := by
  refine Met.ofW (cc := b_Mo_settings) (maxL := 1) (ret := (some .int)) pn_Mo rfl ?_
  intro p e s m args below meth c s₁ B hml hv
  obtain ⟨rfl, C, hP, hD, hS⟩ := enter "DecadeBridgeModel" rfl B hml hv
  obtain ⟨hx, hb, hr, hml, hown, hlk, hts, hK, hZo, hZ⟩ := id C
  refine entryW (lv := [(0, .ref mo)]) rfl (Nat.le_of_ble_eq_true rfl) (fun ls hl => ?_)
  obtain ⟨z, hz⟩ : ∃ z, z = sp_Mo_settings now := ⟨_, rfl⟩
  rw [← hz]
  unfold sp_Mo_settings at hz
  unfold ok_Mo_settings at hok
  refine lv_aload_n hx hb d_Mo_settings_0 rfl (lv_at hl 0 rfl) ?_
  have hB : SubW g (inW (wMo g mo a o now dr pa sa iS bu tq rT wT wo sK sA sB sE oq bS bE bL rp)) s (wMo g mo a o now dr pa sa iS bu tq rT wT wo sK sA sB sE oq bS bE bL rp) _ (List.range _) _ _ := (subF hP hD hS)
  refine goI0 hB (run_v C mf_Mo_decades qm_Mo_130 (c_Mo_decades l g mo a o now dr pa sa iS bu tq rT wT wo sK sA sB sE oq bS bE bL rp) rfl rfl ⟨Nat.le_of_ble_eq_true rfl, Nat.le_of_ble_eq_true rfl⟩ ⟨Nat.le_of_ble_eq_true rfl, Nat.le_of_ble_eq_true rfl⟩ hB rfl rfl hl rfl rfl (Nat.le_of_ble_eq_true rfl) d_Mo_settings_1) (fun y1 ey1 H locs hP hS => ?_)
  have hz := lett_z hz ey1
  have hok := lett_o hok ey1
  have hs2 := hok.1
  have hok := hok.2
  have hB : SubW g (inW (wMo g mo a o now dr pa sa iS bu tq rT wT wo sK sA sB sE oq bS bE bL rp)) s (wMo g mo a o now dr pa sa iS bu tq rT wT wo sK sA sB sE oq bS bE bL rp) _ (List.range _) _ _ := (subF hP hD hS)
  refine goL0 hB (run_s C mf_Mo_tenTo qm_Mo_122 (c_Mo_tenTo l g mo a o now dr pa sa iS bu tq rT wT wo sK sA sB sE oq bS bE bL rp y1 hs2) rfl rfl ⟨Nat.le_of_ble_eq_true rfl, Nat.le_of_ble_eq_true rfl⟩ ⟨Nat.le_of_ble_eq_true rfl, Nat.le_of_ble_eq_true rfl⟩ hB hl rfl rfl (Nat.le_of_ble_eq_true rfl) d_Mo_settings_4) (fun y3 ey3 H locs hP hS => ?_)
  have hz := lett_z hz ey3
  refine lv_l2i hx hb d_Mo_settings_7 rfl ?_
  exact endI0 C hz hP hS d_Mo_settings_8
abbrev rm_Mo_stepOf : Room := { frames := 1, cells := 0, slots := 0, locals := 23 }
noncomputable def sp_Mo_stepOf (p1 : Int32) (now : LV) : Int64 := lett (sp_Mo_decades now) fun (y1 : Int32) => lett (sp_Mo_tenTo ((y1 - (1 : Int32)) - p1)) fun (y3 : Int64) => (now 1) * y3
def ok_Mo_stepOf (p1 : Int32) (now : LV) : Prop := lett (sp_Mo_decades now) fun (y1 : Int32) => (ok_Mo_tenTo ((y1 - (1 : Int32)) - p1)) ∧ True
set_option maxRecDepth 100000 in
set_option maxHeartbeats 4000000 in
theorem c_Mo_stepOf (l : Launch) (g : GX) (mo : Nat) (a : Nat → Nat) (o : IV) (now : LV) (dr : LV) (pa : LV) (sa : LV) (iS : IV) (bu : IV) (tq : IV) (rT : IV) (wT : IV) (wo : Nat → Option Nat) (sK : IV) (sA : IV) (sB : IV) (sE : IV) (oq : IV) (bS : IV) (bE : IV) (bL : IV) (rp : IV) (p1 : Int32) (hok : ok_Mo_stepOf p1 now) : Met l y_Mo_stepOf (wsY y_Mo_stepOf b_Mo_stepOf 2 (some .long)) rm_Mo_stepOf (CP g [.ref mo, .int p1] (wMo g mo a o now dr pa sa iS bu tq rT wT wo sK sA sB sE oq bS bE bL rp)) (CL0 g (wMo g mo a o now dr pa sa iS bu tq rT wT wo sK sA sB sE oq bS bE bL rp) (sp_Mo_stepOf p1 now)) 0 0 (inW (wMo g mo a o now dr pa sa iS bu tq rT wT wo sK sA sB sE oq bS bE bL rp)) := by
  refine Met.ofW (cc := b_Mo_stepOf) (maxL := 2) (ret := (some .long)) pn_Mo rfl ?_
  intro p e s m args below meth c s₁ B hml hv
  obtain ⟨rfl, C, hP, hD, hS⟩ := enter "DecadeBridgeModel" rfl B hml hv
  obtain ⟨hx, hb, hr, hml, hown, hlk, hts, hK, hZo, hZ⟩ := id C
  refine entryW (lv := [(0, .ref mo), (1, .int p1)]) rfl (Nat.le_of_ble_eq_true rfl) (fun ls hl => ?_)
  obtain ⟨z, hz⟩ : ∃ z, z = sp_Mo_stepOf p1 now := ⟨_, rfl⟩
  rw [← hz]
  unfold sp_Mo_stepOf at hz
  unfold ok_Mo_stepOf at hok
  refine lv_aload_n hx hb d_Mo_stepOf_0 rfl (lv_at hl 0 rfl) ?_
  refine gf C hP 0 0 fkMo rfl (by decide) rfl qf_Mo_7 (gMo_0 _ _) d_Mo_stepOf_1 ?_
  refine lv_iconst (v := 1) hx hb d_Mo_stepOf_4 (by decide) ?_
  refine ldL C hP 1 rfl vi_1_215 cn_1 d_Mo_stepOf_5 ?_
  refine lv_aload_n hx hb d_Mo_stepOf_6 rfl (lv_at hl 0 rfl) ?_
  have hB : SubW g (inW (wMo g mo a o now dr pa sa iS bu tq rT wT wo sK sA sB sE oq bS bE bL rp)) s (wMo g mo a o now dr pa sa iS bu tq rT wT wo sK sA sB sE oq bS bE bL rp) _ (List.range _) _ _ := (subF hP hD hS)
  refine goI0 hB (run_v C mf_Mo_decades qm_Mo_130 (c_Mo_decades l g mo a o now dr pa sa iS bu tq rT wT wo sK sA sB sE oq bS bE bL rp) rfl rfl ⟨Nat.le_of_ble_eq_true rfl, Nat.le_of_ble_eq_true rfl⟩ ⟨Nat.le_of_ble_eq_true rfl, Nat.le_of_ble_eq_true rfl⟩ hB rfl rfl hl rfl rfl (Nat.le_of_ble_eq_true rfl) d_Mo_stepOf_7) (fun y1 ey1 H locs hP hS => ?_)
  have hz := lett_z hz ey1
  have hok := lett_o hok ey1
  refine lv_iconst (v := 1) hx hb d_Mo_stepOf_10 (by decide) ?_
  refine lv_isub hx hb d_Mo_stepOf_11 ?_
  refine lv_iload_n hx hb d_Mo_stepOf_12 rfl (lv_at hl 1 rfl) ?_
  refine lv_isub hx hb d_Mo_stepOf_13 ?_
  have hs2 := hok.1
  have hok := hok.2
  have hB : SubW g (inW (wMo g mo a o now dr pa sa iS bu tq rT wT wo sK sA sB sE oq bS bE bL rp)) s (wMo g mo a o now dr pa sa iS bu tq rT wT wo sK sA sB sE oq bS bE bL rp) _ (List.range _) _ _ := (subF hP hD hS)
  refine goL0 hB (run_s C mf_Mo_tenTo qm_Mo_122 (c_Mo_tenTo l g mo a o now dr pa sa iS bu tq rT wT wo sK sA sB sE oq bS bE bL rp ((y1 - (1 : Int32)) - p1) hs2) rfl rfl ⟨Nat.le_of_ble_eq_true rfl, Nat.le_of_ble_eq_true rfl⟩ ⟨Nat.le_of_ble_eq_true rfl, Nat.le_of_ble_eq_true rfl⟩ hB hl rfl rfl (Nat.le_of_ble_eq_true rfl) d_Mo_stepOf_14) (fun y3 ey3 H locs hP hS => ?_)
  have hz := lett_z hz ey3
  refine lv_lmul hx hb d_Mo_stepOf_17 ?_
  exact endL0 C hz hP hS d_Mo_stepOf_18
abbrev rm_Mo_setting : Room := { frames := 1, cells := 0, slots := 0, locals := 20 }
def HL_Mo_setting_4 (p : Program) (l : Launch) (e : Env) (s : State) (m : MethodId) (args : Array Value) (below : List Frame) (meth : Method) (c : Code) (g : GX) (mo : Nat) (a : Nat → Nat) (o : IV) (now : LV) (dr : LV) (pa : LV) (sa : LV) (iS : IV) (bu : IV) (tq : IV) (rT : IV) (wT : IV) (wo : Nat → Option Nat) (sK : IV) (sA : IV) (sB : IV) (sE : IV) (oq : IV) (bS : IV) (bE : IV) (bL : IV) (rp : IV) (sp : Int32 → Int32 → Int32) (ok : Int32 → Int32 → Prop) : Prop := ∀ (x1p4 : Int32) (x2p4 : Int32), ok x1p4 x2p4 → ∀ z : Int32, z = sp x1p4 x2p4 → ∀ (H : Heap) (locs : List Loc) (ls : Array Slot), va_P g.1 vwCl (wMo g mo a o now dr pa sa iS bu tq rT wT wo sK sA sB sE oq bS bE bL rp) H → va_D (inW (wMo g mo a o now dr pa sa iS bu tq rT wT wo sK sA sB sE oq bS bE bL rp)) (wMo g mo a o now dr pa sa iS bu tq rT wT wo sK sA sB sE oq bS bE bL rp) → va_S (inW (wMo g mo a o now dr pa sa iS bu tq rT wT wo sK sA sB sE oq bS bE bL rp)) s.heap H locs → lv_has ls 3 [(0, .ref mo), (1, .int x1p4), (2, .int x2p4)] → W p l e rm_Mo_setting s m args below meth c H locs 0 0 (MQ below (CI0 g (wMo g mo a o now dr pa sa iS bu tq rT wT wo sK sA sB sE oq bS bE bL rp) z) args s 0 0 (inW (wMo g mo a o now dr pa sa iS bu tq rT wT wo sK sA sB sE oq bS bE bL rp))) (F0 m 4 ls [])
noncomputable def bd_Mo_setting_4 (now : LV) (r4 : Int32 → Int32 → Int32) (x1p4 : Int32) (x2p4 : Int32) : Int32 := lett (sp_Mo_decades now) fun (y1 : Int32) => if y1 ≤ x2p4 then (x1p4) else (lett (((10 : Int32) * x1p4) + ((now ((33 : Int32) + x2p4).toNatClampNeg).toInt32)) fun (v4 : Int32) => lett (x2p4 + (1 : Int32)) fun (v5 : Int32) => r4 v4 v5)
def okb_Mo_setting_4 (now : LV) (r4 : Int32 → Int32 → Int32) (q4 : Int32 → Int32 → Prop) (x1p4 : Int32) (x2p4 : Int32) : Prop := lett (sp_Mo_decades now) fun (y1 : Int32) => ((y1 ≤ x2p4 → True) ∧ (¬ (y1 ≤ x2p4) → (vp_in ((33 : Int32) + x2p4) 215) ∧ lett (((10 : Int32) * x1p4) + ((now ((33 : Int32) + x2p4).toNatClampNeg).toInt32)) fun (v4 : Int32) => lett (x2p4 + (1 : Int32)) fun (v5 : Int32) => q4 v4 v5))
noncomputable def sp_Mo_setting_4 (now : LV)  : Nat → Int32 → Int32 → Int32
  | 0 => fun _ _ => default
  | f + 1 => bd_Mo_setting_4 now  (sp_Mo_setting_4 now  f)
def ok_Mo_setting_4 (now : LV)   : Nat → Int32 → Int32 → Prop
  | 0 => fun _ _ => False
  | f + 1 => okb_Mo_setting_4 now  (sp_Mo_setting_4 now  f)  (ok_Mo_setting_4 now   f)
set_option maxRecDepth 100000 in
set_option maxHeartbeats 4000000 in
theorem kb_Mo_setting_4 {p : Program} {l : Launch} {e : Env} {s : State} {m : MethodId} {args : Array Value} {below : List Frame} {meth : Method} {c : Code} {g : GX} {mo : Nat} {a : Nat → Nat} {o : IV} {now : LV} {dr : LV} {pa : LV} {sa : LV} {iS : IV} {bu : IV} {tq : IV} {rT : IV} {wT : IV} {wo : Nat → Option Nat} {sK : IV} {sA : IV} {sB : IV} {sE : IV} {oq : IV} {bS : IV} {bE : IV} {bL : IV} {rp : IV}  (C : Cx p s m args meth c (inW (wMo g mo a o now dr pa sa iS bu tq rT wT wo sK sA sB sE oq bS bE bL rp)) g "DecadeBridgeModel" b_Mo_setting (some .int) 3) {r4 : Int32 → Int32 → Int32} {q4 : Int32 → Int32 → Prop}  (ih4 : HL_Mo_setting_4 p l e s m args below meth c g mo a o now dr pa sa iS bu tq rT wT wo sK sA sB sE oq bS bE bL rp r4 q4) : HL_Mo_setting_4 p l e s m args below meth c g mo a o now dr pa sa iS bu tq rT wT wo sK sA sB sE oq bS bE bL rp (bd_Mo_setting_4 now  r4) (okb_Mo_setting_4 now  r4  q4) := by
  intro x1p4 x2p4 hok z hz H locs ls hP hD hS hl
  obtain ⟨hx, hb, hr, hml, hown, hlk, hts, hK, hZo, hZ⟩ := id C
  unfold bd_Mo_setting_4 at hz
  unfold okb_Mo_setting_4 at hok
  refine lv_iload_n hx hb d_Mo_setting_4 rfl (lv_at hl 2 rfl) ?_
  refine lv_aload_n hx hb d_Mo_setting_5 rfl (lv_at hl 0 rfl) ?_
  have hB : SubW g (inW (wMo g mo a o now dr pa sa iS bu tq rT wT wo sK sA sB sE oq bS bE bL rp)) s (wMo g mo a o now dr pa sa iS bu tq rT wT wo sK sA sB sE oq bS bE bL rp) _ (List.range _) _ _ := (subF hP hD hS)
  refine goI0 hB (run_v C mf_Mo_decades qm_Mo_130 (c_Mo_decades l g mo a o now dr pa sa iS bu tq rT wT wo sK sA sB sE oq bS bE bL rp) rfl rfl ⟨Nat.le_of_ble_eq_true rfl, Nat.le_of_ble_eq_true rfl⟩ ⟨Nat.le_of_ble_eq_true rfl, Nat.le_of_ble_eq_true rfl⟩ hB rfl rfl hl rfl rfl (Nat.le_of_ble_eq_true rfl) d_Mo_setting_6) (fun y1 ey1 H locs hP hS => ?_)
  have hz := lett_z hz ey1
  have hok := lett_o hok ey1
  refine lv_icmp_ge (tgt := 34) hx hb d_Mo_setting_9 (by decide) (fun c2 => ?_) (fun c2 => ?_)
  · have hz := hz.trans (if_pos c2)
    refine lv_iload_n hx hb d_Mo_setting_34 rfl (lv_at hl 1 rfl) ?_
    exact endI0 C hz hP hS d_Mo_setting_35
  · have hz := hz.trans (if_neg c2)
    have hok := hok.2 c2
    refine lv_bipush (v := 10) hx hb d_Mo_setting_12 (by decide) ?_
    refine lv_iload_n hx hb d_Mo_setting_14 rfl (lv_at hl 1 rfl) ?_
    refine lv_imul hx hb d_Mo_setting_15 ?_
    refine lv_aload_n hx hb d_Mo_setting_16 rfl (lv_at hl 0 rfl) ?_
    refine gf C hP 0 0 fkMo rfl (by decide) rfl qf_Mo_7 (gMo_0 _ _) d_Mo_setting_17 ?_
    refine lv_bipush (v := 33) hx hb d_Mo_setting_20 (by decide) ?_
    refine lv_iload_n hx hb d_Mo_setting_22 rfl (lv_at hl 2 rfl) ?_
    refine lv_iadd hx hb d_Mo_setting_23 ?_
    have hs3 := hok.1
    have hok := hok.2
    refine ldL C hP 1 rfl hs3 rfl d_Mo_setting_24 ?_
    refine lv_l2i hx hb d_Mo_setting_25 rfl ?_
    refine lv_iadd hx hb d_Mo_setting_26 ?_
    refine lv_topi (fun v4 ev4 => ?_)
    have hz := lett_z hz ev4
    have hok := lett_o hok ev4
    refine lv_istore_n (lv' := [(1, .int v4), (0, .ref mo), (2, .int x2p4)]) hx hb d_Mo_setting_27 rfl hl (by decide) rfl (fun ls hl => ?_)
    obtain ⟨v5, ev5⟩ : ∃ y : Int32, y = x2p4 + (1 : Int32) := ⟨_, rfl⟩
    have hz := lett_z hz ev5
    have hok := lett_o hok ev5
    refine lv_iinc (v := v5) (lv' := [(2, .int v5), (1, .int v4), (0, .ref mo)]) hx hb d_Mo_setting_28 hl (k := 2) rfl (by rw [ev5]; rfl) (by decide) rfl (fun ls hl => ?_)
    refine lv_goto (tgt := 4) hx hb d_Mo_setting_31 (by decide) ?_
    exact ih4 v4 v5 hok _ hz _ _ ls hP hD hS (lv_sub hl [2, 1, 0] rfl)
theorem k_Mo_setting_4 {p : Program} {l : Launch} {e : Env} {s : State} {m : MethodId} {args : Array Value} {below : List Frame} {meth : Method} {c : Code} {g : GX} {mo : Nat} {a : Nat → Nat} {o : IV} {now : LV} {dr : LV} {pa : LV} {sa : LV} {iS : IV} {bu : IV} {tq : IV} {rT : IV} {wT : IV} {wo : Nat → Option Nat} {sK : IV} {sA : IV} {sB : IV} {sE : IV} {oq : IV} {bS : IV} {bE : IV} {bL : IV} {rp : IV}  (C : Cx p s m args meth c (inW (wMo g mo a o now dr pa sa iS bu tq rT wT wo sK sA sB sE oq bS bE bL rp)) g "DecadeBridgeModel" b_Mo_setting (some .int) 3) (f : Nat)  : HL_Mo_setting_4 p l e s m args below meth c g mo a o now dr pa sa iS bu tq rT wT wo sK sA sB sE oq bS bE bL rp (sp_Mo_setting_4 now  f) (ok_Mo_setting_4 now   f) := by
  induction f with
  | zero => intro x1p4 x2p4 hok; exact False.elim hok
  | succ f ih => exact kb_Mo_setting_4 C  ih
noncomputable def sp_Mo_setting (now : LV) : Int32 := sp_Mo_setting_4 now big (0 : Int32) (0 : Int32)
def ok_Mo_setting (now : LV) : Prop := ok_Mo_setting_4 now big (0 : Int32) (0 : Int32)
set_option maxRecDepth 100000 in
set_option maxHeartbeats 4000000 in
theorem c_Mo_setting (l : Launch) (g : GX) (mo : Nat) (a : Nat → Nat) (o : IV) (now : LV) (dr : LV) (pa : LV) (sa : LV) (iS : IV) (bu : IV) (tq : IV) (rT : IV) (wT : IV) (wo : Nat → Option Nat) (sK : IV) (sA : IV) (sB : IV) (sE : IV) (oq : IV) (bS : IV) (bE : IV) (bL : IV) (rp : IV)  (hok : ok_Mo_setting now) : Met l y_Mo_setting (wsY y_Mo_setting b_Mo_setting 3 (some .int)) rm_Mo_setting (CP g [.ref mo] (wMo g mo a o now dr pa sa iS bu tq rT wT wo sK sA sB sE oq bS bE bL rp)) (CI0 g (wMo g mo a o now dr pa sa iS bu tq rT wT wo sK sA sB sE oq bS bE bL rp) (sp_Mo_setting now)) 0 0 (inW (wMo g mo a o now dr pa sa iS bu tq rT wT wo sK sA sB sE oq bS bE bL rp)) := by
  refine Met.ofW (cc := b_Mo_setting) (maxL := 3) (ret := (some .int)) pn_Mo rfl ?_
  intro p e s m args below meth c s₁ B hml hv
  obtain ⟨rfl, C, hP, hD, hS⟩ := enter "DecadeBridgeModel" rfl B hml hv
  obtain ⟨hx, hb, hr, hml, hown, hlk, hts, hK, hZo, hZ⟩ := id C
  refine entryW (lv := [(0, .ref mo)]) rfl (Nat.le_of_ble_eq_true rfl) (fun ls hl => ?_)
  obtain ⟨z, hz⟩ : ∃ z, z = sp_Mo_setting now := ⟨_, rfl⟩
  rw [← hz]
  unfold sp_Mo_setting at hz
  unfold ok_Mo_setting at hok
  refine lv_iconst (v := 0) hx hb d_Mo_setting_0 (by decide) ?_
  refine lv_istore_n (lv' := [(1, .int (0 : Int32)), (0, .ref mo)]) hx hb d_Mo_setting_1 rfl hl (by decide) rfl (fun ls hl => ?_)
  refine lv_iconst (v := 0) hx hb d_Mo_setting_2 (by decide) ?_
  refine lv_istore_n (lv' := [(2, .int (0 : Int32)), (1, .int (0 : Int32)), (0, .ref mo)]) hx hb d_Mo_setting_3 rfl hl (by decide) rfl (fun ls hl => ?_)
  exact k_Mo_setting_4 C big (0 : Int32) (0 : Int32) hok _ hz _ _ ls hP hD hS (lv_sub hl [2, 1, 0] rfl)
abbrev rm_Mo_laySetting : Room := { frames := 1, cells := 0, slots := 0, locals := 20 }
def HL_Mo_laySetting_9 (p : Program) (l : Launch) (e : Env) (s : State) (m : MethodId) (args : Array Value) (below : List Frame) (meth : Method) (c : Code) (g : GX) (mo : Nat) (a : Nat → Nat) (ws0 : va_W) (o : IV) (dr : LV) (pa : LV) (sa : LV) (iS : IV) (bu : IV) (tq : IV) (rT : IV) (wT : IV) (wo : Nat → Option Nat) (sK : IV) (sA : IV) (sB : IV) (sE : IV) (oq : IV) (bS : IV) (bE : IV) (bL : IV) (rp : IV) (sp : Int32 → Int32 → LV → LV) (ok : Int32 → Int32 → LV → Prop) : Prop := ∀ (x2p9 : Int32) (x3p9 : Int32) (nowp9 : LV), ok x2p9 x3p9 nowp9 → ∀ z : LV, z = sp x2p9 x3p9 nowp9 → ∀ (H : Heap) (locs : List Loc) (ls : Array Slot), va_P g.1 vwCl (wMo g mo a o nowp9 dr pa sa iS bu tq rT wT wo sK sA sB sE oq bS bE bL rp) H → va_D (inW ws0) (wMo g mo a o nowp9 dr pa sa iS bu tq rT wT wo sK sA sB sE oq bS bE bL rp) → va_S (inW ws0) s.heap H locs → lv_has ls 4 [(0, .ref mo), (2, .int x2p9), (3, .int x3p9)] → W p l e rm_Mo_laySetting s m args below meth c H locs 0 0 (MQ below (CV g ws0 (fun u : LV => wMo g mo a o u dr pa sa iS bu tq rT wT wo sK sA sB sE oq bS bE bL rp) z) args s 0 0 (inW ws0)) (F0 m 9 ls [])
noncomputable def bd_Mo_laySetting_9  (r9 : Int32 → Int32 → LV → LV) (x2p9 : Int32) (x3p9 : Int32) (nowp9 : LV) : LV := if x3p9 < 0 then (nowp9) else (lett (vp_updL nowp9 ((33 : Int32) + x3p9).toNatClampNeg ((x2p9 - x2p9 / (10 : Int32) * (10 : Int32)).toInt64)) fun (now_5 : LV) => lett (x2p9 / (10 : Int32)) fun (v6 : Int32) => lett (x3p9 + (-1 : Int32)) fun (v7 : Int32) => r9 v6 v7 now_5)
def okb_Mo_laySetting_9  (r9 : Int32 → Int32 → LV → LV) (q9 : Int32 → Int32 → LV → Prop) (x2p9 : Int32) (x3p9 : Int32) (nowp9 : LV) : Prop := ((x3p9 < 0 → True) ∧ (¬ (x3p9 < 0) → (vp_in ((33 : Int32) + x3p9) 215) ∧ lett (vp_updL nowp9 ((33 : Int32) + x3p9).toNatClampNeg ((x2p9 - x2p9 / (10 : Int32) * (10 : Int32)).toInt64)) fun (now_5 : LV) => lett (x2p9 / (10 : Int32)) fun (v6 : Int32) => lett (x3p9 + (-1 : Int32)) fun (v7 : Int32) => q9 v6 v7 now_5))
noncomputable def sp_Mo_laySetting_9   : Nat → Int32 → Int32 → LV → LV
  | 0 => fun _ _ _ => default
  | f + 1 => bd_Mo_laySetting_9   (sp_Mo_laySetting_9   f)
def ok_Mo_laySetting_9    : Nat → Int32 → Int32 → LV → Prop
  | 0 => fun _ _ _ => False
  | f + 1 => okb_Mo_laySetting_9   (sp_Mo_laySetting_9   f)  (ok_Mo_laySetting_9    f)
set_option maxRecDepth 100000 in
set_option maxHeartbeats 4000000 in
theorem kb_Mo_laySetting_9 {p : Program} {l : Launch} {e : Env} {s : State} {m : MethodId} {args : Array Value} {below : List Frame} {meth : Method} {c : Code} {g : GX} {mo : Nat} {a : Nat → Nat} {ws0 : va_W} {o : IV} {dr : LV} {pa : LV} {sa : LV} {iS : IV} {bu : IV} {tq : IV} {rT : IV} {wT : IV} {wo : Nat → Option Nat} {sK : IV} {sA : IV} {sB : IV} {sE : IV} {oq : IV} {bS : IV} {bE : IV} {bL : IV} {rp : IV}  (C : Cx p s m args meth c (inW ws0) g "DecadeBridgeModel" b_Mo_laySetting none 4) {r9 : Int32 → Int32 → LV → LV} {q9 : Int32 → Int32 → LV → Prop}  (ih9 : HL_Mo_laySetting_9 p l e s m args below meth c g mo a ws0 o dr pa sa iS bu tq rT wT wo sK sA sB sE oq bS bE bL rp r9 q9) : HL_Mo_laySetting_9 p l e s m args below meth c g mo a ws0 o dr pa sa iS bu tq rT wT wo sK sA sB sE oq bS bE bL rp (bd_Mo_laySetting_9   r9) (okb_Mo_laySetting_9   r9  q9) := by
  intro x2p9 x3p9 nowp9 hok z hz H locs ls hP hD hS hl
  obtain ⟨hx, hb, hr, hml, hown, hlk, hts, hK, hZo, hZ⟩ := id C
  unfold bd_Mo_laySetting_9 at hz
  unfold okb_Mo_laySetting_9 at hok
  refine lv_iload_n hx hb d_Mo_laySetting_9 rfl (lv_at hl 2 rfl) ?_
  refine lv_if_lt (tgt := 38) hx hb d_Mo_laySetting_10 (by decide) (fun c3 => ?_) (fun c3 => ?_)
  · have hz := hz.trans (if_pos c3)
    exact endV C hz hP hS d_Mo_laySetting_38
  · have hz := hz.trans (if_neg c3)
    have hok := hok.2 c3
    refine lv_aload_n hx hb d_Mo_laySetting_13 rfl (lv_at hl 0 rfl) ?_
    refine gf C hP 0 0 fkMo rfl (by decide) rfl qf_Mo_7 (gMo_0 _ _) d_Mo_laySetting_14 ?_
    refine lv_bipush (v := 33) hx hb d_Mo_laySetting_17 (by decide) ?_
    refine lv_iload_n hx hb d_Mo_laySetting_19 rfl (lv_at hl 2 rfl) ?_
    refine lv_iadd hx hb d_Mo_laySetting_20 ?_
    refine lv_iload_n hx hb d_Mo_laySetting_21 rfl (lv_at hl 1 rfl) ?_
    refine lv_bipush (v := 10) hx hb d_Mo_laySetting_22 (by decide) ?_
    refine lv_irem hx hb d_Mo_laySetting_24 (by decide) ?_
    refine lv_i2l hx hb d_Mo_laySetting_25 rfl ?_
    have hs4 := hok.1
    have hok := hok.2
    refine stL C hP hD hS 1 rfl hs4 rfl d_Mo_laySetting_26 (fun now_5 enow_5 H locs hP hD hS => ?_)
    have hP : va_P g.1 vwCl (wMo g mo a o now_5 dr pa sa iS bu tq rT wT wo sK sA sB sE oq bS bE bL rp) H := hP
    have hD : va_D (inW ws0) (wMo g mo a o now_5 dr pa sa iS bu tq rT wT wo sK sA sB sE oq bS bE bL rp) := hD
    have hz := lett_z hz enow_5
    have hok := lett_o hok enow_5
    refine lv_iload_n hx hb d_Mo_laySetting_27 rfl (lv_at hl 1 rfl) ?_
    refine lv_bipush (v := 10) hx hb d_Mo_laySetting_28 (by decide) ?_
    refine lv_idiv hx hb d_Mo_laySetting_30 (by decide) ?_
    refine lv_topi (fun v6 ev6 => ?_)
    have hz := lett_z hz ev6
    have hok := lett_o hok ev6
    refine lv_istore_n (lv' := [(2, .int v6), (0, .ref mo), (3, .int x3p9)]) hx hb d_Mo_laySetting_31 rfl hl (by decide) rfl (fun ls hl => ?_)
    obtain ⟨v7, ev7⟩ : ∃ y : Int32, y = x3p9 + (-1 : Int32) := ⟨_, rfl⟩
    have hz := lett_z hz ev7
    have hok := lett_o hok ev7
    refine lv_iinc (v := v7) (lv' := [(3, .int v7), (2, .int v6), (0, .ref mo)]) hx hb d_Mo_laySetting_32 hl (k := 2) rfl (by rw [ev7]; rfl) (by decide) rfl (fun ls hl => ?_)
    refine lv_goto (tgt := 9) hx hb d_Mo_laySetting_35 (by decide) ?_
    exact ih9 v6 v7 now_5 hok _ hz _ _ ls hP hD hS (lv_sub hl [2, 1, 0] rfl)
theorem k_Mo_laySetting_9 {p : Program} {l : Launch} {e : Env} {s : State} {m : MethodId} {args : Array Value} {below : List Frame} {meth : Method} {c : Code} {g : GX} {mo : Nat} {a : Nat → Nat} {ws0 : va_W} {o : IV} {dr : LV} {pa : LV} {sa : LV} {iS : IV} {bu : IV} {tq : IV} {rT : IV} {wT : IV} {wo : Nat → Option Nat} {sK : IV} {sA : IV} {sB : IV} {sE : IV} {oq : IV} {bS : IV} {bE : IV} {bL : IV} {rp : IV}  (C : Cx p s m args meth c (inW ws0) g "DecadeBridgeModel" b_Mo_laySetting none 4) (f : Nat)  : HL_Mo_laySetting_9 p l e s m args below meth c g mo a ws0 o dr pa sa iS bu tq rT wT wo sK sA sB sE oq bS bE bL rp (sp_Mo_laySetting_9   f) (ok_Mo_laySetting_9    f) := by
  induction f with
  | zero => intro x2p9 x3p9 nowp9 hok; exact False.elim hok
  | succ f ih => exact kb_Mo_laySetting_9 C  ih
noncomputable def sp_Mo_laySetting (p1 : Int32) (now : LV) : LV := lett (sp_Mo_decades now) fun (y1 : Int32) => lett (y1 - (1 : Int32)) fun (v2 : Int32) => sp_Mo_laySetting_9 big p1 v2 now
def ok_Mo_laySetting (p1 : Int32) (now : LV) : Prop := lett (sp_Mo_decades now) fun (y1 : Int32) => lett (y1 - (1 : Int32)) fun (v2 : Int32) => ok_Mo_laySetting_9 big p1 v2 now
set_option maxRecDepth 100000 in
set_option maxHeartbeats 4000000 in
theorem c_Mo_laySetting (l : Launch) (g : GX) (mo : Nat) (a : Nat → Nat) (o : IV) (now : LV) (dr : LV) (pa : LV) (sa : LV) (iS : IV) (bu : IV) (tq : IV) (rT : IV) (wT : IV) (wo : Nat → Option Nat) (sK : IV) (sA : IV) (sB : IV) (sE : IV) (oq : IV) (bS : IV) (bE : IV) (bL : IV) (rp : IV) (p1 : Int32) (hok : ok_Mo_laySetting p1 now) : Met l y_Mo_laySetting (wsY y_Mo_laySetting b_Mo_laySetting 4 none) rm_Mo_laySetting (CP g [.ref mo, .int p1] (wMo g mo a o now dr pa sa iS bu tq rT wT wo sK sA sB sE oq bS bE bL rp)) (CV g (wMo g mo a o now dr pa sa iS bu tq rT wT wo sK sA sB sE oq bS bE bL rp) (fun u : LV => wMo g mo a o u dr pa sa iS bu tq rT wT wo sK sA sB sE oq bS bE bL rp) (sp_Mo_laySetting p1 now)) 0 0 (inW (wMo g mo a o now dr pa sa iS bu tq rT wT wo sK sA sB sE oq bS bE bL rp)) := by
  refine Met.ofW (cc := b_Mo_laySetting) (maxL := 4) (ret := none) pn_Mo rfl ?_
  intro p e s m args below meth c s₁ B hml hv
  obtain ⟨rfl, C, hP, hD, hS⟩ := enter "DecadeBridgeModel" rfl B hml hv
  obtain ⟨hx, hb, hr, hml, hown, hlk, hts, hK, hZo, hZ⟩ := id C
  refine entryW (lv := [(0, .ref mo), (1, .int p1)]) rfl (Nat.le_of_ble_eq_true rfl) (fun ls hl => ?_)
  obtain ⟨z, hz⟩ : ∃ z, z = sp_Mo_laySetting p1 now := ⟨_, rfl⟩
  rw [← hz]
  unfold sp_Mo_laySetting at hz
  unfold ok_Mo_laySetting at hok
  refine lv_iload_n hx hb d_Mo_laySetting_0 rfl (lv_at hl 1 rfl) ?_
  refine lv_istore_n (lv' := [(2, .int p1), (0, .ref mo), (1, .int p1)]) hx hb d_Mo_laySetting_1 rfl hl (by decide) rfl (fun ls hl => ?_)
  refine lv_aload_n hx hb d_Mo_laySetting_2 rfl (lv_at hl 1 rfl) ?_
  have hB : SubW g (inW (wMo g mo a o now dr pa sa iS bu tq rT wT wo sK sA sB sE oq bS bE bL rp)) s (wMo g mo a o now dr pa sa iS bu tq rT wT wo sK sA sB sE oq bS bE bL rp) _ (List.range _) _ _ := (subF hP hD hS)
  refine goI0 hB (run_v C mf_Mo_decades qm_Mo_130 (c_Mo_decades l g mo a o now dr pa sa iS bu tq rT wT wo sK sA sB sE oq bS bE bL rp) rfl rfl ⟨Nat.le_of_ble_eq_true rfl, Nat.le_of_ble_eq_true rfl⟩ ⟨Nat.le_of_ble_eq_true rfl, Nat.le_of_ble_eq_true rfl⟩ hB rfl rfl hl rfl rfl (Nat.le_of_ble_eq_true rfl) d_Mo_laySetting_3) (fun y1 ey1 H locs hP hS => ?_)
  have hz := lett_z hz ey1
  have hok := lett_o hok ey1
  refine lv_iconst (v := 1) hx hb d_Mo_laySetting_6 (by decide) ?_
  refine lv_isub hx hb d_Mo_laySetting_7 ?_
  refine lv_topi (fun v2 ev2 => ?_)
  have hz := lett_z hz ev2
  have hok := lett_o hok ev2
  refine lv_istore_n (lv' := [(3, .int v2), (2, .int p1), (0, .ref mo), (1, .int p1)]) hx hb d_Mo_laySetting_8 rfl hl (by decide) rfl (fun ls hl => ?_)
  exact k_Mo_laySetting_9 C big p1 v2 now hok _ hz _ _ ls hP hD hS (lv_sub hl [2, 1, 0] rfl)
abbrev rm_Mo_coldBy : Room := { frames := 2, cells := 0, slots := 0, locals := 44 }
def HL_Mo_coldBy_13 (p : Program) (l : Launch) (e : Env) (s : State) (m : MethodId) (args : Array Value) (below : List Frame) (meth : Method) (c : Code) (g : GX) (mo : Nat) (a : Nat → Nat) (o : IV) (now : LV) (dr : LV) (pa : LV) (sa : LV) (iS : IV) (bu : IV) (tq : IV) (rT : IV) (wT : IV) (wo : Nat → Option Nat) (sK : IV) (sA : IV) (sB : IV) (sE : IV) (oq : IV) (bS : IV) (bE : IV) (bL : IV) (rp : IV) (sp : Int64 → Int32 → Int32 → Int64) (ok : Int64 → Int32 → Int32 → Prop) : Prop := ∀ (x2p13 : Int64) (x4p13 : Int32) (x5p13 : Int32), ok x2p13 x4p13 x5p13 → ∀ z : Int64, z = sp x2p13 x4p13 x5p13 → ∀ (H : Heap) (locs : List Loc) (ls : Array Slot), va_P g.1 vwCl (wMo g mo a o now dr pa sa iS bu tq rT wT wo sK sA sB sE oq bS bE bL rp) H → va_D (inW (wMo g mo a o now dr pa sa iS bu tq rT wT wo sK sA sB sE oq bS bE bL rp)) (wMo g mo a o now dr pa sa iS bu tq rT wT wo sK sA sB sE oq bS bE bL rp) → va_S (inW (wMo g mo a o now dr pa sa iS bu tq rT wT wo sK sA sB sE oq bS bE bL rp)) s.heap H locs → lv_has ls 6 [(0, .ref mo), (2, .long x2p13), (4, .int x4p13), (5, .int x5p13)] → W p l e rm_Mo_coldBy s m args below meth c H locs 0 0 (MQ below (CL0 g (wMo g mo a o now dr pa sa iS bu tq rT wT wo sK sA sB sE oq bS bE bL rp) z) args s 0 0 (inW (wMo g mo a o now dr pa sa iS bu tq rT wT wo sK sA sB sE oq bS bE bL rp))) (F0 m 13 ls [])
def HL_Mo_coldBy_61 (p : Program) (l : Launch) (e : Env) (s : State) (m : MethodId) (args : Array Value) (below : List Frame) (meth : Method) (c : Code) (g : GX) (mo : Nat) (a : Nat → Nat) (o : IV) (now : LV) (dr : LV) (pa : LV) (sa : LV) (iS : IV) (bu : IV) (tq : IV) (rT : IV) (wT : IV) (wo : Nat → Option Nat) (sK : IV) (sA : IV) (sB : IV) (sE : IV) (oq : IV) (bS : IV) (bE : IV) (bL : IV) (rp : IV) (x2p13 : Int64) (sp : Int64) (ok : Prop) : Prop := ∀ (_ : Unit), ok → ∀ z : Int64, z = sp → ∀ (H : Heap) (locs : List Loc) (ls : Array Slot), va_P g.1 vwCl (wMo g mo a o now dr pa sa iS bu tq rT wT wo sK sA sB sE oq bS bE bL rp) H → va_D (inW (wMo g mo a o now dr pa sa iS bu tq rT wT wo sK sA sB sE oq bS bE bL rp)) (wMo g mo a o now dr pa sa iS bu tq rT wT wo sK sA sB sE oq bS bE bL rp) → va_S (inW (wMo g mo a o now dr pa sa iS bu tq rT wT wo sK sA sB sE oq bS bE bL rp)) s.heap H locs → lv_has ls 6 [(0, .ref mo), (2, .long x2p13)] → W p l e rm_Mo_coldBy s m args below meth c H locs 0 0 (MQ below (CL0 g (wMo g mo a o now dr pa sa iS bu tq rT wT wo sK sA sB sE oq bS bE bL rp) z) args s 0 0 (inW (wMo g mo a o now dr pa sa iS bu tq rT wT wo sK sA sB sE oq bS bE bL rp))) (F0 m 61 ls [])
noncomputable def sp_Mo_coldBy_61 (x2p13 : Int64) (now : LV)   : Int64 := (x2p13 / (1000000 : Int64)) + (now 2)
def ok_Mo_coldBy_61 (x2p13 : Int64) (now : LV)    : Prop := True
set_option maxRecDepth 100000 in
set_option maxHeartbeats 4000000 in
theorem k_Mo_coldBy_61 {p : Program} {l : Launch} {e : Env} {s : State} {m : MethodId} {args : Array Value} {below : List Frame} {meth : Method} {c : Code} {g : GX} {mo : Nat} {a : Nat → Nat} {o : IV} {now : LV} {dr : LV} {pa : LV} {sa : LV} {iS : IV} {bu : IV} {tq : IV} {rT : IV} {wT : IV} {wo : Nat → Option Nat} {sK : IV} {sA : IV} {sB : IV} {sE : IV} {oq : IV} {bS : IV} {bE : IV} {bL : IV} {rp : IV} {x2p13 : Int64}  (C : Cx p s m args meth c (inW (wMo g mo a o now dr pa sa iS bu tq rT wT wo sK sA sB sE oq bS bE bL rp)) g "DecadeBridgeModel" b_Mo_coldBy (some .long) 6)  : HL_Mo_coldBy_61 p l e s m args below meth c g mo a o now dr pa sa iS bu tq rT wT wo sK sA sB sE oq bS bE bL rp x2p13 (sp_Mo_coldBy_61 x2p13 now ) (ok_Mo_coldBy_61 x2p13 now  ) := by
  intro _ hok z hz H locs ls hP hD hS hl
  obtain ⟨hx, hb, hr, hml, hown, hlk, hts, hK, hZo, hZ⟩ := id C
  unfold sp_Mo_coldBy_61 at hz
  refine lv_lload_n hx hb d_Mo_coldBy_61 rfl (lv_at hl 1 rfl) ?_
  refine lv_ldc2 hx hb hown (hts _ qk_Mo_112) d_Mo_coldBy_62 ?_
  refine lv_ldiv hx hb d_Mo_coldBy_65 (by decide) ?_
  refine lv_aload_n hx hb d_Mo_coldBy_66 rfl (lv_at hl 0 rfl) ?_
  refine gf C hP 0 0 fkMo rfl (by decide) rfl qf_Mo_7 (gMo_0 _ _) d_Mo_coldBy_67 ?_
  refine lv_iconst (v := 2) hx hb d_Mo_coldBy_70 (by decide) ?_
  refine ldL C hP 1 rfl vi_2_215 cn_2 d_Mo_coldBy_71 ?_
  refine lv_ladd hx hb d_Mo_coldBy_72 ?_
  exact endL0 C hz hP hS d_Mo_coldBy_73
noncomputable def bd_Mo_coldBy_13 (now : LV) (r13 : Int64 → Int32 → Int32 → Int64) (x2p13 : Int64) (x4p13 : Int32) (x5p13 : Int32) : Int64 := if x5p13 < 0 then (sp_Mo_coldBy_61 x2p13 now) else (lett (sp_Mo_stepOf x5p13 now) fun (y5 : Int64) => lett (x2p13 + ((((x4p13 - x4p13 / (10 : Int32) * (10 : Int32)).toInt64) * y5) * ((1000000 : Int64) + (now ((3 : Int32) + x5p13).toNatClampNeg)))) fun (v7 : Int64) => lett (x4p13 / (10 : Int32)) fun (v8 : Int32) => lett (x5p13 + (-1 : Int32)) fun (v9 : Int32) => r13 v7 v8 v9)
def okb_Mo_coldBy_13 (now : LV) (r13 : Int64 → Int32 → Int32 → Int64) (q13 : Int64 → Int32 → Int32 → Prop) (x2p13 : Int64) (x4p13 : Int32) (x5p13 : Int32) : Prop := ((x5p13 < 0 → True) ∧ (¬ (x5p13 < 0) → (ok_Mo_stepOf x5p13 now) ∧ lett (sp_Mo_stepOf x5p13 now) fun (y5 : Int64) => (vp_in ((3 : Int32) + x5p13) 215) ∧ lett (x2p13 + ((((x4p13 - x4p13 / (10 : Int32) * (10 : Int32)).toInt64) * y5) * ((1000000 : Int64) + (now ((3 : Int32) + x5p13).toNatClampNeg)))) fun (v7 : Int64) => lett (x4p13 / (10 : Int32)) fun (v8 : Int32) => lett (x5p13 + (-1 : Int32)) fun (v9 : Int32) => q13 v7 v8 v9))
noncomputable def sp_Mo_coldBy_13 (now : LV)  : Nat → Int64 → Int32 → Int32 → Int64
  | 0 => fun _ _ _ => default
  | f + 1 => bd_Mo_coldBy_13 now  (sp_Mo_coldBy_13 now  f)
def ok_Mo_coldBy_13 (now : LV)   : Nat → Int64 → Int32 → Int32 → Prop
  | 0 => fun _ _ _ => False
  | f + 1 => okb_Mo_coldBy_13 now  (sp_Mo_coldBy_13 now  f)  (ok_Mo_coldBy_13 now   f)
set_option maxRecDepth 100000 in
set_option maxHeartbeats 4000000 in
theorem kb_Mo_coldBy_13 {p : Program} {l : Launch} {e : Env} {s : State} {m : MethodId} {args : Array Value} {below : List Frame} {meth : Method} {c : Code} {g : GX} {mo : Nat} {a : Nat → Nat} {o : IV} {now : LV} {dr : LV} {pa : LV} {sa : LV} {iS : IV} {bu : IV} {tq : IV} {rT : IV} {wT : IV} {wo : Nat → Option Nat} {sK : IV} {sA : IV} {sB : IV} {sE : IV} {oq : IV} {bS : IV} {bE : IV} {bL : IV} {rp : IV}  (C : Cx p s m args meth c (inW (wMo g mo a o now dr pa sa iS bu tq rT wT wo sK sA sB sE oq bS bE bL rp)) g "DecadeBridgeModel" b_Mo_coldBy (some .long) 6) {r13 : Int64 → Int32 → Int32 → Int64} {q13 : Int64 → Int32 → Int32 → Prop}  (ih13 : HL_Mo_coldBy_13 p l e s m args below meth c g mo a o now dr pa sa iS bu tq rT wT wo sK sA sB sE oq bS bE bL rp r13 q13) : HL_Mo_coldBy_13 p l e s m args below meth c g mo a o now dr pa sa iS bu tq rT wT wo sK sA sB sE oq bS bE bL rp (bd_Mo_coldBy_13 now  r13) (okb_Mo_coldBy_13 now  r13  q13) := by
  intro x2p13 x4p13 x5p13 hok z hz H locs ls hP hD hS hl
  obtain ⟨hx, hb, hr, hml, hown, hlk, hts, hK, hZo, hZ⟩ := id C
  unfold bd_Mo_coldBy_13 at hz
  unfold okb_Mo_coldBy_13 at hok
  refine lv_iload hx hb d_Mo_coldBy_13 (lv_at hl 3 rfl) ?_
  refine lv_if_lt (tgt := 61) hx hb d_Mo_coldBy_15 (by decide) (fun c3 => ?_) (fun c3 => ?_)
  · have hz := hz.trans (if_pos c3)
    exact k_Mo_coldBy_61 C () trivial _ hz _ _ ls hP hD hS (lv_sub hl [0, 1] rfl)
  · have hz := hz.trans (if_neg c3)
    have hok := hok.2 c3
    refine lv_lload_n hx hb d_Mo_coldBy_18 rfl (lv_at hl 1 rfl) ?_
    refine lv_iload hx hb d_Mo_coldBy_19 (lv_at hl 2 rfl) ?_
    refine lv_bipush (v := 10) hx hb d_Mo_coldBy_21 (by decide) ?_
    refine lv_irem hx hb d_Mo_coldBy_23 (by decide) ?_
    refine lv_i2l hx hb d_Mo_coldBy_24 rfl ?_
    refine lv_aload_n hx hb d_Mo_coldBy_25 rfl (lv_at hl 0 rfl) ?_
    refine lv_iload hx hb d_Mo_coldBy_26 (lv_at hl 3 rfl) ?_
    have hs4 := hok.1
    have hok := hok.2
    have hB : SubW g (inW (wMo g mo a o now dr pa sa iS bu tq rT wT wo sK sA sB sE oq bS bE bL rp)) s (wMo g mo a o now dr pa sa iS bu tq rT wT wo sK sA sB sE oq bS bE bL rp) _ (List.range _) _ _ := (subF hP hD hS)
    refine goL0 hB (run_v C mf_Mo_stepOf qm_Mo_134 (c_Mo_stepOf l g mo a o now dr pa sa iS bu tq rT wT wo sK sA sB sE oq bS bE bL rp x5p13 hs4) rfl rfl ⟨Nat.le_of_ble_eq_true rfl, Nat.le_of_ble_eq_true rfl⟩ ⟨Nat.le_of_ble_eq_true rfl, Nat.le_of_ble_eq_true rfl⟩ hB rfl rfl hl rfl rfl (Nat.le_of_ble_eq_true rfl) d_Mo_coldBy_28) (fun y5 ey5 H locs hP hS => ?_)
    have hz := lett_z hz ey5
    have hok := lett_o hok ey5
    refine lv_lmul hx hb d_Mo_coldBy_31 ?_
    refine lv_ldc2 hx hb hown (hts _ qk_Mo_112) d_Mo_coldBy_32 ?_
    refine lv_aload_n hx hb d_Mo_coldBy_35 rfl (lv_at hl 0 rfl) ?_
    refine gf C hP 0 0 fkMo rfl (by decide) rfl qf_Mo_7 (gMo_0 _ _) d_Mo_coldBy_36 ?_
    refine lv_iconst (v := 3) hx hb d_Mo_coldBy_39 (by decide) ?_
    refine lv_iload hx hb d_Mo_coldBy_40 (lv_at hl 3 rfl) ?_
    refine lv_iadd hx hb d_Mo_coldBy_42 ?_
    have hs6 := hok.1
    have hok := hok.2
    refine ldL C hP 1 rfl hs6 rfl d_Mo_coldBy_43 ?_
    refine lv_ladd hx hb d_Mo_coldBy_44 ?_
    refine lv_lmul hx hb d_Mo_coldBy_45 ?_
    refine lv_ladd hx hb d_Mo_coldBy_46 ?_
    refine lv_topl (fun v7 ev7 => ?_)
    have hz := lett_z hz ev7
    have hok := lett_o hok ev7
    refine lv_lstore_n (lv' := [(2, .long v7), (0, .ref mo), (4, .int x4p13), (5, .int x5p13)]) hx hb d_Mo_coldBy_47 rfl hl (by decide) rfl (fun ls hl => ?_)
    refine lv_iload hx hb d_Mo_coldBy_48 (lv_at hl 2 rfl) ?_
    refine lv_bipush (v := 10) hx hb d_Mo_coldBy_50 (by decide) ?_
    refine lv_idiv hx hb d_Mo_coldBy_52 (by decide) ?_
    refine lv_topi (fun v8 ev8 => ?_)
    have hz := lett_z hz ev8
    have hok := lett_o hok ev8
    refine lv_istore (lv' := [(4, .int v8), (2, .long v7), (0, .ref mo), (5, .int x5p13)]) hx hb d_Mo_coldBy_53 hl (by decide) rfl (fun ls hl => ?_)
    obtain ⟨v9, ev9⟩ : ∃ y : Int32, y = x5p13 + (-1 : Int32) := ⟨_, rfl⟩
    have hz := lett_z hz ev9
    have hok := lett_o hok ev9
    refine lv_iinc (v := v9) (lv' := [(5, .int v9), (4, .int v8), (2, .long v7), (0, .ref mo)]) hx hb d_Mo_coldBy_55 hl (k := 3) rfl (by rw [ev9]; rfl) (by decide) rfl (fun ls hl => ?_)
    refine lv_goto (tgt := 13) hx hb d_Mo_coldBy_58 (by decide) ?_
    exact ih13 v7 v8 v9 hok _ hz _ _ ls hP hD hS (lv_sub hl [3, 2, 1, 0] rfl)
theorem k_Mo_coldBy_13 {p : Program} {l : Launch} {e : Env} {s : State} {m : MethodId} {args : Array Value} {below : List Frame} {meth : Method} {c : Code} {g : GX} {mo : Nat} {a : Nat → Nat} {o : IV} {now : LV} {dr : LV} {pa : LV} {sa : LV} {iS : IV} {bu : IV} {tq : IV} {rT : IV} {wT : IV} {wo : Nat → Option Nat} {sK : IV} {sA : IV} {sB : IV} {sE : IV} {oq : IV} {bS : IV} {bE : IV} {bL : IV} {rp : IV}  (C : Cx p s m args meth c (inW (wMo g mo a o now dr pa sa iS bu tq rT wT wo sK sA sB sE oq bS bE bL rp)) g "DecadeBridgeModel" b_Mo_coldBy (some .long) 6) (f : Nat)  : HL_Mo_coldBy_13 p l e s m args below meth c g mo a o now dr pa sa iS bu tq rT wT wo sK sA sB sE oq bS bE bL rp (sp_Mo_coldBy_13 now  f) (ok_Mo_coldBy_13 now   f) := by
  induction f with
  | zero => intro x2p13 x4p13 x5p13 hok; exact False.elim hok
  | succ f ih => exact kb_Mo_coldBy_13 C  ih
noncomputable def sp_Mo_coldBy (p1 : Int32) (now : LV) : Int64 := lett (sp_Mo_decades now) fun (y1 : Int32) => lett (y1 - (1 : Int32)) fun (v2 : Int32) => sp_Mo_coldBy_13 now big (0 : Int64) p1 v2
def ok_Mo_coldBy (p1 : Int32) (now : LV) : Prop := lett (sp_Mo_decades now) fun (y1 : Int32) => lett (y1 - (1 : Int32)) fun (v2 : Int32) => ok_Mo_coldBy_13 now big (0 : Int64) p1 v2
set_option maxRecDepth 100000 in
set_option maxHeartbeats 4000000 in
theorem c_Mo_coldBy (l : Launch) (g : GX) (mo : Nat) (a : Nat → Nat) (o : IV) (now : LV) (dr : LV) (pa : LV) (sa : LV) (iS : IV) (bu : IV) (tq : IV) (rT : IV) (wT : IV) (wo : Nat → Option Nat) (sK : IV) (sA : IV) (sB : IV) (sE : IV) (oq : IV) (bS : IV) (bE : IV) (bL : IV) (rp : IV) (p1 : Int32) (hok : ok_Mo_coldBy p1 now) : Met l y_Mo_coldBy (wsY y_Mo_coldBy b_Mo_coldBy 6 (some .long)) rm_Mo_coldBy (CP g [.ref mo, .int p1] (wMo g mo a o now dr pa sa iS bu tq rT wT wo sK sA sB sE oq bS bE bL rp)) (CL0 g (wMo g mo a o now dr pa sa iS bu tq rT wT wo sK sA sB sE oq bS bE bL rp) (sp_Mo_coldBy p1 now)) 0 0 (inW (wMo g mo a o now dr pa sa iS bu tq rT wT wo sK sA sB sE oq bS bE bL rp)) := by
  refine Met.ofW (cc := b_Mo_coldBy) (maxL := 6) (ret := (some .long)) pn_Mo rfl ?_
  intro p e s m args below meth c s₁ B hml hv
  obtain ⟨rfl, C, hP, hD, hS⟩ := enter "DecadeBridgeModel" rfl B hml hv
  obtain ⟨hx, hb, hr, hml, hown, hlk, hts, hK, hZo, hZ⟩ := id C
  refine entryW (lv := [(0, .ref mo), (1, .int p1)]) rfl (Nat.le_of_ble_eq_true rfl) (fun ls hl => ?_)
  obtain ⟨z, hz⟩ : ∃ z, z = sp_Mo_coldBy p1 now := ⟨_, rfl⟩
  rw [← hz]
  unfold sp_Mo_coldBy at hz
  unfold ok_Mo_coldBy at hok
  refine lv_lconst (v := 0) hx hb d_Mo_coldBy_0 (by decide) ?_
  refine lv_lstore_n (lv' := [(2, .long (0 : Int64)), (0, .ref mo), (1, .int p1)]) hx hb d_Mo_coldBy_1 rfl hl (by decide) rfl (fun ls hl => ?_)
  refine lv_iload_n hx hb d_Mo_coldBy_2 rfl (lv_at hl 2 rfl) ?_
  refine lv_istore (lv' := [(4, .int p1), (2, .long (0 : Int64)), (0, .ref mo), (1, .int p1)]) hx hb d_Mo_coldBy_3 hl (by decide) rfl (fun ls hl => ?_)
  refine lv_aload_n hx hb d_Mo_coldBy_5 rfl (lv_at hl 2 rfl) ?_
  have hB : SubW g (inW (wMo g mo a o now dr pa sa iS bu tq rT wT wo sK sA sB sE oq bS bE bL rp)) s (wMo g mo a o now dr pa sa iS bu tq rT wT wo sK sA sB sE oq bS bE bL rp) _ (List.range _) _ _ := (subF hP hD hS)
  refine goI0 hB (run_v C mf_Mo_decades qm_Mo_130 (c_Mo_decades l g mo a o now dr pa sa iS bu tq rT wT wo sK sA sB sE oq bS bE bL rp) rfl rfl ⟨Nat.le_of_ble_eq_true rfl, Nat.le_of_ble_eq_true rfl⟩ ⟨Nat.le_of_ble_eq_true rfl, Nat.le_of_ble_eq_true rfl⟩ hB rfl rfl hl rfl rfl (Nat.le_of_ble_eq_true rfl) d_Mo_coldBy_6) (fun y1 ey1 H locs hP hS => ?_)
  have hz := lett_z hz ey1
  have hok := lett_o hok ey1
  refine lv_iconst (v := 1) hx hb d_Mo_coldBy_9 (by decide) ?_
  refine lv_isub hx hb d_Mo_coldBy_10 ?_
  refine lv_topi (fun v2 ev2 => ?_)
  have hz := lett_z hz ev2
  have hok := lett_o hok ev2
  refine lv_istore (lv' := [(5, .int v2), (4, .int p1), (2, .long (0 : Int64)), (0, .ref mo), (1, .int p1)]) hx hb d_Mo_coldBy_11 hl (by decide) rfl (fun ls hl => ?_)
  exact k_Mo_coldBy_13 C big (0 : Int64) p1 v2 hok _ hz _ _ ls hP hD hS (lv_sub hl [3, 2, 1, 0] rfl)
abbrev rm_Mo_warm : Room := { frames := 0, cells := 0, slots := 0, locals := 0 }
noncomputable def sp_Mo_warm (p1 : Int64) (p2 : Int64) (p3 : Int64) : Int64 := (p1 * ((1000000000 : Int64) + (p2 * p3))) / (1000000000 : Int64)
set_option maxRecDepth 100000 in
set_option maxHeartbeats 4000000 in
theorem c_Mo_warm (l : Launch) (g : GX) (mo : Nat) (a : Nat → Nat) (o : IV) (now : LV) (dr : LV) (pa : LV) (sa : LV) (iS : IV) (bu : IV) (tq : IV) (rT : IV) (wT : IV) (wo : Nat → Option Nat) (sK : IV) (sA : IV) (sB : IV) (sE : IV) (oq : IV) (bS : IV) (bE : IV) (bL : IV) (rp : IV) (p1 : Int64) (p2 : Int64) (p3 : Int64) : Met l y_Mo_warm (wsY y_Mo_warm b_Mo_warm 6 (some .long)) rm_Mo_warm (CP g [.long p1, .long p2, .long p3] (wMo g mo a o now dr pa sa iS bu tq rT wT wo sK sA sB sE oq bS bE bL rp)) (CL0 g (wMo g mo a o now dr pa sa iS bu tq rT wT wo sK sA sB sE oq bS bE bL rp) (sp_Mo_warm p1 p2 p3)) 0 0 (inW (wMo g mo a o now dr pa sa iS bu tq rT wT wo sK sA sB sE oq bS bE bL rp)) := by
  refine Met.ofW (cc := b_Mo_warm) (maxL := 6) (ret := (some .long)) pn_Mo rfl ?_
  intro p e s m args below meth c s₁ B hml hv
  obtain ⟨rfl, C, hP, hD, hS⟩ := enter "DecadeBridgeModel" rfl B hml hv
  obtain ⟨hx, hb, hr, hml, hown, hlk, hts, hK, hZo, hZ⟩ := id C
  refine entryW (lv := [(0, .long p1), (2, .long p2), (4, .long p3)]) rfl (Nat.le_of_ble_eq_true rfl) (fun ls hl => ?_)
  obtain ⟨z, hz⟩ : ∃ z, z = sp_Mo_warm p1 p2 p3 := ⟨_, rfl⟩
  rw [← hz]
  unfold sp_Mo_warm at hz
  refine lv_lload_n hx hb d_Mo_warm_0 rfl (lv_at hl 0 rfl) ?_
  refine lv_ldc2 hx hb hown (hts _ qk_Mo_137) d_Mo_warm_1 ?_
  refine lv_lload_n hx hb d_Mo_warm_4 rfl (lv_at hl 1 rfl) ?_
  refine lv_lload hx hb d_Mo_warm_5 (lv_at hl 2 rfl) ?_
  refine lv_lmul hx hb d_Mo_warm_7 ?_
  refine lv_ladd hx hb d_Mo_warm_8 ?_
  refine lv_lmul hx hb d_Mo_warm_9 ?_
  refine lv_ldc2 hx hb hown (hts _ qk_Mo_137) d_Mo_warm_10 ?_
  refine lv_ldiv hx hb d_Mo_warm_13 (by decide) ?_
  exact endL0 C hz hP hS d_Mo_warm_14
abbrev rm_Mo_unknownWarm : Room := { frames := 1, cells := 0, slots := 0, locals := 25 }
noncomputable def sp_Mo_unknownWarm (now : LV) : Int64 := lett (sp_Mo_warm (now 12) (now 13) (now 37)) fun (y1 : Int64) => y1
set_option maxRecDepth 100000 in
set_option maxHeartbeats 4000000 in
theorem c_Mo_unknownWarm (l : Launch) (g : GX) (mo : Nat) (a : Nat → Nat) (o : IV) (now : LV) (dr : LV) (pa : LV) (sa : LV) (iS : IV) (bu : IV) (tq : IV) (rT : IV) (wT : IV) (wo : Nat → Option Nat) (sK : IV) (sA : IV) (sB : IV) (sE : IV) (oq : IV) (bS : IV) (bE : IV) (bL : IV) (rp : IV)  : Met l y_Mo_unknownWarm (wsY y_Mo_unknownWarm b_Mo_unknownWarm 1 (some .long)) rm_Mo_unknownWarm (CP g [.ref mo] (wMo g mo a o now dr pa sa iS bu tq rT wT wo sK sA sB sE oq bS bE bL rp)) (CL0 g (wMo g mo a o now dr pa sa iS bu tq rT wT wo sK sA sB sE oq bS bE bL rp) (sp_Mo_unknownWarm now)) 0 0 (inW (wMo g mo a o now dr pa sa iS bu tq rT wT wo sK sA sB sE oq bS bE bL rp)) := by
  refine Met.ofW (cc := b_Mo_unknownWarm) (maxL := 1) (ret := (some .long)) pn_Mo rfl ?_
  intro p e s m args below meth c s₁ B hml hv
  obtain ⟨rfl, C, hP, hD, hS⟩ := enter "DecadeBridgeModel" rfl B hml hv
  obtain ⟨hx, hb, hr, hml, hown, hlk, hts, hK, hZo, hZ⟩ := id C
  refine entryW (lv := [(0, .ref mo)]) rfl (Nat.le_of_ble_eq_true rfl) (fun ls hl => ?_)
  obtain ⟨z, hz⟩ : ∃ z, z = sp_Mo_unknownWarm now := ⟨_, rfl⟩
  rw [← hz]
  unfold sp_Mo_unknownWarm at hz
  refine lv_aload_n hx hb d_Mo_unknownWarm_0 rfl (lv_at hl 0 rfl) ?_
  refine gf C hP 0 0 fkMo rfl (by decide) rfl qf_Mo_7 (gMo_0 _ _) d_Mo_unknownWarm_1 ?_
  refine lv_bipush (v := 12) hx hb d_Mo_unknownWarm_4 (by decide) ?_
  refine ldL C hP 1 rfl vi_12_215 cn_12 d_Mo_unknownWarm_6 ?_
  refine lv_aload_n hx hb d_Mo_unknownWarm_7 rfl (lv_at hl 0 rfl) ?_
  refine gf C hP 0 0 fkMo rfl (by decide) rfl qf_Mo_7 (gMo_0 _ _) d_Mo_unknownWarm_8 ?_
  refine lv_bipush (v := 13) hx hb d_Mo_unknownWarm_11 (by decide) ?_
  refine ldL C hP 1 rfl vi_13_215 cn_13 d_Mo_unknownWarm_13 ?_
  refine lv_aload_n hx hb d_Mo_unknownWarm_14 rfl (lv_at hl 0 rfl) ?_
  refine gf C hP 0 0 fkMo rfl (by decide) rfl qf_Mo_7 (gMo_0 _ _) d_Mo_unknownWarm_15 ?_
  refine lv_bipush (v := 37) hx hb d_Mo_unknownWarm_18 (by decide) ?_
  refine ldL C hP 1 rfl vi_37_215 cn_37 d_Mo_unknownWarm_20 ?_
  have hB : SubW g (inW (wMo g mo a o now dr pa sa iS bu tq rT wT wo sK sA sB sE oq bS bE bL rp)) s (wMo g mo a o now dr pa sa iS bu tq rT wT wo sK sA sB sE oq bS bE bL rp) _ (List.range _) _ _ := (subF hP hD hS)
  refine goL0 hB (run_s C mf_Mo_warm qm_Mo_139 (c_Mo_warm l g mo a o now dr pa sa iS bu tq rT wT wo sK sA sB sE oq bS bE bL rp (now 12) (now 13) (now 37)) rfl rfl ⟨Nat.le_of_ble_eq_true rfl, Nat.le_of_ble_eq_true rfl⟩ ⟨Nat.le_of_ble_eq_true rfl, Nat.le_of_ble_eq_true rfl⟩ hB hl rfl rfl (Nat.le_of_ble_eq_true rfl) d_Mo_unknownWarm_21) (fun y1 ey1 H locs hP hS => ?_)
  have hz := lett_z hz ey1
  exact endL0 C hz hP hS d_Mo_unknownWarm_24
abbrev rm_Mo_boxWarm : Room := { frames := 3, cells := 0, slots := 0, locals := 69 }
noncomputable def sp_Mo_boxWarm (p1 : Int32) (now : LV) : Int64 := lett (sp_Mo_coldBy p1 now) fun (y2 : Int64) => lett (sp_Mo_warm y2 (now 16) (now 38)) fun (y3 : Int64) => y3
def ok_Mo_boxWarm (p1 : Int32) (now : LV) : Prop := (ok_Mo_coldBy p1 now) ∧ True
set_option maxRecDepth 100000 in
set_option maxHeartbeats 4000000 in
theorem c_Mo_boxWarm (l : Launch) (g : GX) (mo : Nat) (a : Nat → Nat) (o : IV) (now : LV) (dr : LV) (pa : LV) (sa : LV) (iS : IV) (bu : IV) (tq : IV) (rT : IV) (wT : IV) (wo : Nat → Option Nat) (sK : IV) (sA : IV) (sB : IV) (sE : IV) (oq : IV) (bS : IV) (bE : IV) (bL : IV) (rp : IV) (p1 : Int32) (hok : ok_Mo_boxWarm p1 now) : Met l y_Mo_boxWarm (wsY y_Mo_boxWarm b_Mo_boxWarm 2 (some .long)) rm_Mo_boxWarm (CP g [.ref mo, .int p1] (wMo g mo a o now dr pa sa iS bu tq rT wT wo sK sA sB sE oq bS bE bL rp)) (CL0 g (wMo g mo a o now dr pa sa iS bu tq rT wT wo sK sA sB sE oq bS bE bL rp) (sp_Mo_boxWarm p1 now)) 0 0 (inW (wMo g mo a o now dr pa sa iS bu tq rT wT wo sK sA sB sE oq bS bE bL rp)) := by
  refine Met.ofW (cc := b_Mo_boxWarm) (maxL := 2) (ret := (some .long)) pn_Mo rfl ?_
  intro p e s m args below meth c s₁ B hml hv
  obtain ⟨rfl, C, hP, hD, hS⟩ := enter "DecadeBridgeModel" rfl B hml hv
  obtain ⟨hx, hb, hr, hml, hown, hlk, hts, hK, hZo, hZ⟩ := id C
  refine entryW (lv := [(0, .ref mo), (1, .int p1)]) rfl (Nat.le_of_ble_eq_true rfl) (fun ls hl => ?_)
  obtain ⟨z, hz⟩ : ∃ z, z = sp_Mo_boxWarm p1 now := ⟨_, rfl⟩
  rw [← hz]
  unfold sp_Mo_boxWarm at hz
  unfold ok_Mo_boxWarm at hok
  refine lv_aload_n hx hb d_Mo_boxWarm_0 rfl (lv_at hl 0 rfl) ?_
  refine lv_iload_n hx hb d_Mo_boxWarm_1 rfl (lv_at hl 1 rfl) ?_
  have hs1 := hok.1
  have hok := hok.2
  have hB : SubW g (inW (wMo g mo a o now dr pa sa iS bu tq rT wT wo sK sA sB sE oq bS bE bL rp)) s (wMo g mo a o now dr pa sa iS bu tq rT wT wo sK sA sB sE oq bS bE bL rp) _ (List.range _) _ _ := (subF hP hD hS)
  refine goL0 hB (run_v C mf_Mo_coldBy qm_Mo_143 (c_Mo_coldBy l g mo a o now dr pa sa iS bu tq rT wT wo sK sA sB sE oq bS bE bL rp p1 hs1) rfl rfl ⟨Nat.le_of_ble_eq_true rfl, Nat.le_of_ble_eq_true rfl⟩ ⟨Nat.le_of_ble_eq_true rfl, Nat.le_of_ble_eq_true rfl⟩ hB rfl rfl hl rfl rfl (Nat.le_of_ble_eq_true rfl) d_Mo_boxWarm_2) (fun y2 ey2 H locs hP hS => ?_)
  have hz := lett_z hz ey2
  refine lv_aload_n hx hb d_Mo_boxWarm_5 rfl (lv_at hl 0 rfl) ?_
  refine gf C hP 0 0 fkMo rfl (by decide) rfl qf_Mo_7 (gMo_0 _ _) d_Mo_boxWarm_6 ?_
  refine lv_bipush (v := 16) hx hb d_Mo_boxWarm_9 (by decide) ?_
  refine ldL C hP 1 rfl vi_16_215 cn_16 d_Mo_boxWarm_11 ?_
  refine lv_aload_n hx hb d_Mo_boxWarm_12 rfl (lv_at hl 0 rfl) ?_
  refine gf C hP 0 0 fkMo rfl (by decide) rfl qf_Mo_7 (gMo_0 _ _) d_Mo_boxWarm_13 ?_
  refine lv_bipush (v := 38) hx hb d_Mo_boxWarm_16 (by decide) ?_
  refine ldL C hP 1 rfl vi_38_215 cn_38 d_Mo_boxWarm_18 ?_
  have hB : SubW g (inW (wMo g mo a o now dr pa sa iS bu tq rT wT wo sK sA sB sE oq bS bE bL rp)) s (wMo g mo a o now dr pa sa iS bu tq rT wT wo sK sA sB sE oq bS bE bL rp) _ (List.range _) _ _ := (subF hP hD hS)
  refine goL0 hB (run_s C mf_Mo_warm qm_Mo_139 (c_Mo_warm l g mo a o now dr pa sa iS bu tq rT wT wo sK sA sB sE oq bS bE bL rp y2 (now 16) (now 38)) rfl rfl ⟨Nat.le_of_ble_eq_true rfl, Nat.le_of_ble_eq_true rfl⟩ ⟨Nat.le_of_ble_eq_true rfl, Nat.le_of_ble_eq_true rfl⟩ hB hl rfl rfl (Nat.le_of_ble_eq_true rfl) d_Mo_boxWarm_19) (fun y3 ey3 H locs hP hS => ?_)
  have hz := lett_z hz ey3
  exact endL0 C hz hP hS d_Mo_boxWarm_22
