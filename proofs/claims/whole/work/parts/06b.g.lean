abbrev rm_Mo_addResult : Room := { frames := 4, cells := 0, slots := 0, locals := 98 }
def HL_Mo_addResult_17 (p : Program) (l : Launch) (e : Env) (s : State) (m : MethodId) (args : Array Value) (below : List Frame) (meth : Method) (c : Code) (g : GX) (mo : Nat) (a : Nat → Nat) (ws0 : va_W) (o : IV) (dr : LV) (pa : LV) (sa : LV) (iS : IV) (bu : IV) (tq : IV) (rT : IV) (wT : IV) (sK : IV) (sA : IV) (sB : IV) (sE : IV) (oq : IV) (bS : IV) (bE : IV) (bL : IV) (rp : IV) (p1 : Int32) (sp : Int32 → LV → LV) (ok : Int32 → LV → Prop) : Prop := ∀ (x2p17 : Int32) (nowp17 : LV), ok x2p17 nowp17 → ∀ z : LV, z = sp x2p17 nowp17 → ∀ (H : Heap) (locs : List Loc) (ls : Array Slot), va_P g.1 vwCl (wMo g mo a o nowp17 dr pa sa iS bu tq rT wT sK sA sB sE oq bS bE bL rp) H → va_D (inW ws0) (wMo g mo a o nowp17 dr pa sa iS bu tq rT wT sK sA sB sE oq bS bE bL rp) → va_S (inW ws0) s.heap H locs → lv_has ls 3 [(0, .ref mo), (1, .int p1), (2, .int x2p17)] → W p l e rm_Mo_addResult s m args below meth c H locs 0 0 (MQ below (CV g ws0 (fun u : LV => wMo g mo a o u dr pa sa iS bu tq rT wT sK sA sB sE oq bS bE bL rp) z) args s 0 0 (inW ws0)) (F0 m 17 ls [])
def HL_Mo_addResult_45 (p : Program) (l : Launch) (e : Env) (s : State) (m : MethodId) (args : Array Value) (below : List Frame) (meth : Method) (c : Code) (g : GX) (mo : Nat) (a : Nat → Nat) (ws0 : va_W) (o : IV) (nowp17 : LV) (dr : LV) (pa : LV) (sa : LV) (iS : IV) (bu : IV) (tq : IV) (rT : IV) (wT : IV) (sK : IV) (sA : IV) (sB : IV) (sE : IV) (oq : IV) (bS : IV) (bE : IV) (bL : IV) (rp : IV) (p1 : Int32) (sp : LV) (ok : Prop) : Prop := ∀ (_ : Unit), ok → ∀ z : LV, z = sp → ∀ (H : Heap) (locs : List Loc) (ls : Array Slot), va_P g.1 vwCl (wMo g mo a o nowp17 dr pa sa iS bu tq rT wT sK sA sB sE oq bS bE bL rp) H → va_D (inW ws0) (wMo g mo a o nowp17 dr pa sa iS bu tq rT wT sK sA sB sE oq bS bE bL rp) → va_S (inW ws0) s.heap H locs → lv_has ls 3 [(0, .ref mo), (1, .int p1)] → W p l e rm_Mo_addResult s m args below meth c H locs 0 0 (MQ below (CV g ws0 (fun u : LV => wMo g mo a o u dr pa sa iS bu tq rT wT sK sA sB sE oq bS bE bL rp) z) args s 0 0 (inW ws0)) (F0 m 45 ls [])
def HL_Mo_addResult_56 (p : Program) (l : Launch) (e : Env) (s : State) (m : MethodId) (args : Array Value) (below : List Frame) (meth : Method) (c : Code) (g : GX) (mo : Nat) (a : Nat → Nat) (ws0 : va_W) (o : IV) (dr : LV) (pa : LV) (sa : LV) (iS : IV) (bu : IV) (tq : IV) (rT : IV) (wT : IV) (sK : IV) (sA : IV) (sB : IV) (sE : IV) (oq : IV) (bS : IV) (bE : IV) (bL : IV) (rp : IV) (p1 : Int32) (sp : LV → LV) (ok : LV → Prop) : Prop := ∀ (nowp56 : LV), ok nowp56 → ∀ z : LV, z = sp nowp56 → ∀ (H : Heap) (locs : List Loc) (ls : Array Slot), va_P g.1 vwCl (wMo g mo a o nowp56 dr pa sa iS bu tq rT wT sK sA sB sE oq bS bE bL rp) H → va_D (inW ws0) (wMo g mo a o nowp56 dr pa sa iS bu tq rT wT sK sA sB sE oq bS bE bL rp) → va_S (inW ws0) s.heap H locs → lv_has ls 3 [(0, .ref mo), (1, .int p1)] → W p l e rm_Mo_addResult s m args below meth c H locs 0 0 (MQ below (CV g ws0 (fun u : LV => wMo g mo a o u dr pa sa iS bu tq rT wT sK sA sB sE oq bS bE bL rp) z) args s 0 0 (inW ws0)) (F0 m 56 ls [])
noncomputable def sp_Mo_addResult_56 (p1 : Int32)  (nowp56 : LV) : LV := lett ((55 : Int32) + ((8 : Int32) * ((nowp56 54).toInt32))) fun (v8 : Int32) => lett (vp_updL nowp56 (v8 + (0 : Int32)).toNatClampNeg (nowp56 29)) fun (now_10 : LV) => lett (vp_updL now_10 (v8 + (1 : Int32)).toNatClampNeg (now_10 30)) fun (now_12 : LV) => lett (vp_updL now_12 (v8 + (2 : Int32)).toNatClampNeg (now_12 32)) fun (now_14 : LV) => lett (sp_Mo_setting now_14) fun (y16 : Int32) => lett (vp_updL now_14 (v8 + (3 : Int32)).toNatClampNeg y16.toInt64) fun (now_18 : LV) => lett (vp_updL now_18 (v8 + (4 : Int32)).toNatClampNeg (now_18 39)) fun (now_20 : LV) => lett (vp_updL now_20 (v8 + (5 : Int32)).toNatClampNeg p1.toInt64) fun (now_22 : LV) => lett (sp_Mo_setting now_22) fun (y24 : Int32) => lett (sp_Mo_nominal (now_22 30)) fun (y26 : Int64) => lett (sp_Mo_nominal (now_22 29)) fun (y28 : Int64) => lett (vp_updL now_22 (v8 + (6 : Int32)).toNatClampNeg (((y24.toInt64 * (now_22 1)) * y26) / y28)) fun (now_31 : LV) => lett (sp_Mo_setting now_31) fun (y33 : Int32) => lett (sp_Mo_correctedBy y33 (now_31 29) (now_31 30) (now_31 32) now_31) fun (y35 : Int64) => lett (vp_updL now_31 (v8 + (7 : Int32)).toNatClampNeg y35) fun (now_37 : LV) => lett (vp_updL now_37 54 ((now_37 54) + (1 : Int64))) fun (now_38 : LV) => now_38
def ok_Mo_addResult_56 (p1 : Int32)   (nowp56 : LV) : Prop := lett ((55 : Int32) + ((8 : Int32) * ((nowp56 54).toInt32))) fun (v8 : Int32) => (vp_in (v8 + (0 : Int32)) 215) ∧ lett (vp_updL nowp56 (v8 + (0 : Int32)).toNatClampNeg (nowp56 29)) fun (now_10 : LV) => (vp_in (v8 + (1 : Int32)) 215) ∧ lett (vp_updL now_10 (v8 + (1 : Int32)).toNatClampNeg (now_10 30)) fun (now_12 : LV) => (vp_in (v8 + (2 : Int32)) 215) ∧ lett (vp_updL now_12 (v8 + (2 : Int32)).toNatClampNeg (now_12 32)) fun (now_14 : LV) => (ok_Mo_setting now_14) ∧ lett (sp_Mo_setting now_14) fun (y16 : Int32) => (vp_in (v8 + (3 : Int32)) 215) ∧ lett (vp_updL now_14 (v8 + (3 : Int32)).toNatClampNeg y16.toInt64) fun (now_18 : LV) => (vp_in (v8 + (4 : Int32)) 215) ∧ lett (vp_updL now_18 (v8 + (4 : Int32)).toNatClampNeg (now_18 39)) fun (now_20 : LV) => (vp_in (v8 + (5 : Int32)) 215) ∧ lett (vp_updL now_20 (v8 + (5 : Int32)).toNatClampNeg p1.toInt64) fun (now_22 : LV) => (ok_Mo_setting now_22) ∧ lett (sp_Mo_setting now_22) fun (y24 : Int32) => (ok_Mo_nominal (now_22 30)) ∧ lett (sp_Mo_nominal (now_22 30)) fun (y26 : Int64) => (ok_Mo_nominal (now_22 29)) ∧ lett (sp_Mo_nominal (now_22 29)) fun (y28 : Int64) => (¬ y28 = 0) ∧ (vp_in (v8 + (6 : Int32)) 215) ∧ lett (vp_updL now_22 (v8 + (6 : Int32)).toNatClampNeg (((y24.toInt64 * (now_22 1)) * y26) / y28)) fun (now_31 : LV) => (ok_Mo_setting now_31) ∧ lett (sp_Mo_setting now_31) fun (y33 : Int32) => (ok_Mo_correctedBy y33 (now_31 29) (now_31 30) (now_31 32) now_31) ∧ lett (sp_Mo_correctedBy y33 (now_31 29) (now_31 30) (now_31 32) now_31) fun (y35 : Int64) => (vp_in (v8 + (7 : Int32)) 215) ∧ True
set_option maxRecDepth 100000 in
set_option maxHeartbeats 4000000 in
theorem k_Mo_addResult_56 {p : Program} {l : Launch} {e : Env} {s : State} {m : MethodId} {args : Array Value} {below : List Frame} {meth : Method} {c : Code} {g : GX} {mo : Nat} {a : Nat → Nat} {ws0 : va_W} {o : IV} {dr : LV} {pa : LV} {sa : LV} {iS : IV} {bu : IV} {tq : IV} {rT : IV} {wT : IV} {sK : IV} {sA : IV} {sB : IV} {sE : IV} {oq : IV} {bS : IV} {bE : IV} {bL : IV} {rp : IV} {p1 : Int32}  (C : Cx p s m args meth c (inW ws0) g "DecadeBridgeModel" b_Mo_addResult none 3)  : HL_Mo_addResult_56 p l e s m args below meth c g mo a ws0 o dr pa sa iS bu tq rT wT sK sA sB sE oq bS bE bL rp p1 (sp_Mo_addResult_56 p1 ) (ok_Mo_addResult_56 p1  ) := by
  intro nowp56 hok z hz H locs ls hP hD hS hl
  obtain ⟨hx, hb, hr, hml, hown, hlk, hts, hK, hZo, hZ⟩ := id C
  unfold sp_Mo_addResult_56 at hz
  unfold ok_Mo_addResult_56 at hok
  refine lv_bipush (v := 55) hx hb d_Mo_addResult_56 (by decide) ?_
  refine lv_bipush (v := 8) hx hb d_Mo_addResult_58 (by decide) ?_
  refine lv_aload_n hx hb d_Mo_addResult_60 rfl (lv_at hl 0 rfl) ?_
  refine gf C hP 0 0 fkMo rfl (by decide) rfl qf_Mo_7 (gMo_0 _ _) d_Mo_addResult_61 ?_
  refine lv_bipush (v := 54) hx hb d_Mo_addResult_64 (by decide) ?_
  refine ldL C hP 1 rfl vi_54_215 cn_54 d_Mo_addResult_66 ?_
  refine lv_l2i hx hb d_Mo_addResult_67 rfl ?_
  refine lv_imul hx hb d_Mo_addResult_68 ?_
  refine lv_iadd hx hb d_Mo_addResult_69 ?_
  refine lv_topi (fun v8 ev8 => ?_)
  have hz := lett_z hz ev8
  have hok := lett_o hok ev8
  refine lv_istore_n (lv' := [(2, .int v8), (0, .ref mo), (1, .int p1)]) hx hb d_Mo_addResult_70 rfl hl (by decide) rfl (fun ls hl => ?_)
  refine lv_aload_n hx hb d_Mo_addResult_71 rfl (lv_at hl 1 rfl) ?_
  refine gf C hP 0 0 fkMo rfl (by decide) rfl qf_Mo_7 (gMo_0 _ _) d_Mo_addResult_72 ?_
  refine lv_iload_n hx hb d_Mo_addResult_75 rfl (lv_at hl 0 rfl) ?_
  refine lv_iconst (v := 0) hx hb d_Mo_addResult_76 (by decide) ?_
  refine lv_iadd hx hb d_Mo_addResult_77 ?_
  refine lv_aload_n hx hb d_Mo_addResult_78 rfl (lv_at hl 1 rfl) ?_
  refine gf C hP 0 0 fkMo rfl (by decide) rfl qf_Mo_7 (gMo_0 _ _) d_Mo_addResult_79 ?_
  refine lv_bipush (v := 29) hx hb d_Mo_addResult_82 (by decide) ?_
  refine ldL C hP 1 rfl vi_29_215 cn_29 d_Mo_addResult_84 ?_
  have hs9 := hok.1
  have hok := hok.2
  refine stL C hP hD hS 1 rfl hs9 rfl d_Mo_addResult_85 (fun now_10 enow_10 H locs hP hD hS => ?_)
  have hP : va_P g.1 vwCl (wMo g mo a o now_10 dr pa sa iS bu tq rT wT sK sA sB sE oq bS bE bL rp) H := hP
  have hD : va_D (inW ws0) (wMo g mo a o now_10 dr pa sa iS bu tq rT wT sK sA sB sE oq bS bE bL rp) := hD
  have hz := lett_z hz enow_10
  have hok := lett_o hok enow_10
  refine lv_aload_n hx hb d_Mo_addResult_86 rfl (lv_at hl 1 rfl) ?_
  refine gf C hP 0 0 fkMo rfl (by decide) rfl qf_Mo_7 (gMo_0 _ _) d_Mo_addResult_87 ?_
  refine lv_iload_n hx hb d_Mo_addResult_90 rfl (lv_at hl 0 rfl) ?_
  refine lv_iconst (v := 1) hx hb d_Mo_addResult_91 (by decide) ?_
  refine lv_iadd hx hb d_Mo_addResult_92 ?_
  refine lv_aload_n hx hb d_Mo_addResult_93 rfl (lv_at hl 1 rfl) ?_
  refine gf C hP 0 0 fkMo rfl (by decide) rfl qf_Mo_7 (gMo_0 _ _) d_Mo_addResult_94 ?_
  refine lv_bipush (v := 30) hx hb d_Mo_addResult_97 (by decide) ?_
  refine ldL C hP 1 rfl vi_30_215 cn_30 d_Mo_addResult_99 ?_
  have hs11 := hok.1
  have hok := hok.2
  refine stL C hP hD hS 1 rfl hs11 rfl d_Mo_addResult_100 (fun now_12 enow_12 H locs hP hD hS => ?_)
  have hP : va_P g.1 vwCl (wMo g mo a o now_12 dr pa sa iS bu tq rT wT sK sA sB sE oq bS bE bL rp) H := hP
  have hD : va_D (inW ws0) (wMo g mo a o now_12 dr pa sa iS bu tq rT wT sK sA sB sE oq bS bE bL rp) := hD
  have hz := lett_z hz enow_12
  have hok := lett_o hok enow_12
  refine lv_aload_n hx hb d_Mo_addResult_101 rfl (lv_at hl 1 rfl) ?_
  refine gf C hP 0 0 fkMo rfl (by decide) rfl qf_Mo_7 (gMo_0 _ _) d_Mo_addResult_102 ?_
  refine lv_iload_n hx hb d_Mo_addResult_105 rfl (lv_at hl 0 rfl) ?_
  refine lv_iconst (v := 2) hx hb d_Mo_addResult_106 (by decide) ?_
  refine lv_iadd hx hb d_Mo_addResult_107 ?_
  refine lv_aload_n hx hb d_Mo_addResult_108 rfl (lv_at hl 1 rfl) ?_
  refine gf C hP 0 0 fkMo rfl (by decide) rfl qf_Mo_7 (gMo_0 _ _) d_Mo_addResult_109 ?_
  refine lv_bipush (v := 32) hx hb d_Mo_addResult_112 (by decide) ?_
  refine ldL C hP 1 rfl vi_32_215 cn_32 d_Mo_addResult_114 ?_
  have hs13 := hok.1
  have hok := hok.2
  refine stL C hP hD hS 1 rfl hs13 rfl d_Mo_addResult_115 (fun now_14 enow_14 H locs hP hD hS => ?_)
  have hP : va_P g.1 vwCl (wMo g mo a o now_14 dr pa sa iS bu tq rT wT sK sA sB sE oq bS bE bL rp) H := hP
  have hD : va_D (inW ws0) (wMo g mo a o now_14 dr pa sa iS bu tq rT wT sK sA sB sE oq bS bE bL rp) := hD
  have hz := lett_z hz enow_14
  have hok := lett_o hok enow_14
  refine lv_aload_n hx hb d_Mo_addResult_116 rfl (lv_at hl 1 rfl) ?_
  refine gf C hP 0 0 fkMo rfl (by decide) rfl qf_Mo_7 (gMo_0 _ _) d_Mo_addResult_117 ?_
  refine lv_iload_n hx hb d_Mo_addResult_120 rfl (lv_at hl 0 rfl) ?_
  refine lv_iconst (v := 3) hx hb d_Mo_addResult_121 (by decide) ?_
  refine lv_iadd hx hb d_Mo_addResult_122 ?_
  refine lv_aload_n hx hb d_Mo_addResult_123 rfl (lv_at hl 1 rfl) ?_
  have hs15 := hok.1
  have hok := hok.2
  have hB : SubW g (inW ws0) s (wMo g mo a o now_14 dr pa sa iS bu tq rT wT sK sA sB sE oq bS bE bL rp) _ (List.range _) _ _ := (subF hP hD hS)
  refine goI0 hB (run_v C mf_Mo_setting qm_Mo_176 (c_Mo_setting l g mo a o now_14 dr pa sa iS bu tq rT wT sK sA sB sE oq bS bE bL rp hs15) rfl rfl ⟨Nat.le_of_ble_eq_true rfl, Nat.le_of_ble_eq_true rfl⟩ ⟨Nat.le_of_ble_eq_true rfl, Nat.le_of_ble_eq_true rfl⟩ hB rfl rfl hl rfl rfl (Nat.le_of_ble_eq_true rfl) d_Mo_addResult_124) (fun y16 ey16 H locs hP hS => ?_)
  have hz := lett_z hz ey16
  have hok := lett_o hok ey16
  refine lv_i2l hx hb d_Mo_addResult_127 rfl ?_
  have hs17 := hok.1
  have hok := hok.2
  refine stL C hP hD hS 1 rfl hs17 rfl d_Mo_addResult_128 (fun now_18 enow_18 H locs hP hD hS => ?_)
  have hP : va_P g.1 vwCl (wMo g mo a o now_18 dr pa sa iS bu tq rT wT sK sA sB sE oq bS bE bL rp) H := hP
  have hD : va_D (inW ws0) (wMo g mo a o now_18 dr pa sa iS bu tq rT wT sK sA sB sE oq bS bE bL rp) := hD
  have hz := lett_z hz enow_18
  have hok := lett_o hok enow_18
  refine lv_aload_n hx hb d_Mo_addResult_129 rfl (lv_at hl 1 rfl) ?_
  refine gf C hP 0 0 fkMo rfl (by decide) rfl qf_Mo_7 (gMo_0 _ _) d_Mo_addResult_130 ?_
  refine lv_iload_n hx hb d_Mo_addResult_133 rfl (lv_at hl 0 rfl) ?_
  refine lv_iconst (v := 4) hx hb d_Mo_addResult_134 (by decide) ?_
  refine lv_iadd hx hb d_Mo_addResult_135 ?_
  refine lv_aload_n hx hb d_Mo_addResult_136 rfl (lv_at hl 1 rfl) ?_
  refine gf C hP 0 0 fkMo rfl (by decide) rfl qf_Mo_7 (gMo_0 _ _) d_Mo_addResult_137 ?_
  refine lv_bipush (v := 39) hx hb d_Mo_addResult_140 (by decide) ?_
  refine ldL C hP 1 rfl vi_39_215 cn_39 d_Mo_addResult_142 ?_
  have hs19 := hok.1
  have hok := hok.2
  refine stL C hP hD hS 1 rfl hs19 rfl d_Mo_addResult_143 (fun now_20 enow_20 H locs hP hD hS => ?_)
  have hP : va_P g.1 vwCl (wMo g mo a o now_20 dr pa sa iS bu tq rT wT sK sA sB sE oq bS bE bL rp) H := hP
  have hD : va_D (inW ws0) (wMo g mo a o now_20 dr pa sa iS bu tq rT wT sK sA sB sE oq bS bE bL rp) := hD
  have hz := lett_z hz enow_20
  have hok := lett_o hok enow_20
  refine lv_aload_n hx hb d_Mo_addResult_144 rfl (lv_at hl 1 rfl) ?_
  refine gf C hP 0 0 fkMo rfl (by decide) rfl qf_Mo_7 (gMo_0 _ _) d_Mo_addResult_145 ?_
  refine lv_iload_n hx hb d_Mo_addResult_148 rfl (lv_at hl 0 rfl) ?_
  refine lv_iconst (v := 5) hx hb d_Mo_addResult_149 (by decide) ?_
  refine lv_iadd hx hb d_Mo_addResult_150 ?_
  refine lv_iload_n hx hb d_Mo_addResult_151 rfl (lv_at hl 2 rfl) ?_
  refine lv_i2l hx hb d_Mo_addResult_152 rfl ?_
  have hs21 := hok.1
  have hok := hok.2
  refine stL C hP hD hS 1 rfl hs21 rfl d_Mo_addResult_153 (fun now_22 enow_22 H locs hP hD hS => ?_)
  have hP : va_P g.1 vwCl (wMo g mo a o now_22 dr pa sa iS bu tq rT wT sK sA sB sE oq bS bE bL rp) H := hP
  have hD : va_D (inW ws0) (wMo g mo a o now_22 dr pa sa iS bu tq rT wT sK sA sB sE oq bS bE bL rp) := hD
  have hz := lett_z hz enow_22
  have hok := lett_o hok enow_22
  refine lv_aload_n hx hb d_Mo_addResult_154 rfl (lv_at hl 1 rfl) ?_
  refine gf C hP 0 0 fkMo rfl (by decide) rfl qf_Mo_7 (gMo_0 _ _) d_Mo_addResult_155 ?_
  refine lv_iload_n hx hb d_Mo_addResult_158 rfl (lv_at hl 0 rfl) ?_
  refine lv_bipush (v := 6) hx hb d_Mo_addResult_159 (by decide) ?_
  refine lv_iadd hx hb d_Mo_addResult_161 ?_
  refine lv_aload_n hx hb d_Mo_addResult_162 rfl (lv_at hl 1 rfl) ?_
  have hs23 := hok.1
  have hok := hok.2
  have hB : SubW g (inW ws0) s (wMo g mo a o now_22 dr pa sa iS bu tq rT wT sK sA sB sE oq bS bE bL rp) _ (List.range _) _ _ := (subF hP hD hS)
  refine goI0 hB (run_v C mf_Mo_setting qm_Mo_176 (c_Mo_setting l g mo a o now_22 dr pa sa iS bu tq rT wT sK sA sB sE oq bS bE bL rp hs23) rfl rfl ⟨Nat.le_of_ble_eq_true rfl, Nat.le_of_ble_eq_true rfl⟩ ⟨Nat.le_of_ble_eq_true rfl, Nat.le_of_ble_eq_true rfl⟩ hB rfl rfl hl rfl rfl (Nat.le_of_ble_eq_true rfl) d_Mo_addResult_163) (fun y24 ey24 H locs hP hS => ?_)
  have hz := lett_z hz ey24
  have hok := lett_o hok ey24
  refine lv_i2l hx hb d_Mo_addResult_166 rfl ?_
  refine lv_aload_n hx hb d_Mo_addResult_167 rfl (lv_at hl 1 rfl) ?_
  refine gf C hP 0 0 fkMo rfl (by decide) rfl qf_Mo_7 (gMo_0 _ _) d_Mo_addResult_168 ?_
  refine lv_iconst (v := 1) hx hb d_Mo_addResult_171 (by decide) ?_
  refine ldL C hP 1 rfl vi_1_215 cn_1 d_Mo_addResult_172 ?_
  refine lv_lmul hx hb d_Mo_addResult_173 ?_
  refine lv_aload_n hx hb d_Mo_addResult_174 rfl (lv_at hl 1 rfl) ?_
  refine gf C hP 0 0 fkMo rfl (by decide) rfl qf_Mo_7 (gMo_0 _ _) d_Mo_addResult_175 ?_
  refine lv_bipush (v := 30) hx hb d_Mo_addResult_178 (by decide) ?_
  refine ldL C hP 1 rfl vi_30_215 cn_30 d_Mo_addResult_180 ?_
  have hs25 := hok.1
  have hok := hok.2
  have hB : SubW g (inW ws0) s (wMo g mo a o now_22 dr pa sa iS bu tq rT wT sK sA sB sE oq bS bE bL rp) _ (List.range _) _ _ := (subF hP hD hS)
  refine goL0 hB (run_s C mf_Mo_nominal qm_Mo_126 (c_Mo_nominal l g mo a o now_22 dr pa sa iS bu tq rT wT sK sA sB sE oq bS bE bL rp (now_22 30) hs25) rfl rfl ⟨Nat.le_of_ble_eq_true rfl, Nat.le_of_ble_eq_true rfl⟩ ⟨Nat.le_of_ble_eq_true rfl, Nat.le_of_ble_eq_true rfl⟩ hB hl rfl rfl (Nat.le_of_ble_eq_true rfl) d_Mo_addResult_181) (fun y26 ey26 H locs hP hS => ?_)
  have hz := lett_z hz ey26
  have hok := lett_o hok ey26
  refine lv_lmul hx hb d_Mo_addResult_184 ?_
  refine lv_aload_n hx hb d_Mo_addResult_185 rfl (lv_at hl 1 rfl) ?_
  refine gf C hP 0 0 fkMo rfl (by decide) rfl qf_Mo_7 (gMo_0 _ _) d_Mo_addResult_186 ?_
  refine lv_bipush (v := 29) hx hb d_Mo_addResult_189 (by decide) ?_
  refine ldL C hP 1 rfl vi_29_215 cn_29 d_Mo_addResult_191 ?_
  have hs27 := hok.1
  have hok := hok.2
  have hB : SubW g (inW ws0) s (wMo g mo a o now_22 dr pa sa iS bu tq rT wT sK sA sB sE oq bS bE bL rp) _ (List.range _) _ _ := (subF hP hD hS)
  refine goL0 hB (run_s C mf_Mo_nominal qm_Mo_126 (c_Mo_nominal l g mo a o now_22 dr pa sa iS bu tq rT wT sK sA sB sE oq bS bE bL rp (now_22 29) hs27) rfl rfl ⟨Nat.le_of_ble_eq_true rfl, Nat.le_of_ble_eq_true rfl⟩ ⟨Nat.le_of_ble_eq_true rfl, Nat.le_of_ble_eq_true rfl⟩ hB hl rfl rfl (Nat.le_of_ble_eq_true rfl) d_Mo_addResult_192) (fun y28 ey28 H locs hP hS => ?_)
  have hz := lett_z hz ey28
  have hok := lett_o hok ey28
  have hs29 := hok.1
  have hok := hok.2
  refine lv_ldiv hx hb d_Mo_addResult_195 hs29 ?_
  have hs30 := hok.1
  have hok := hok.2
  refine stL C hP hD hS 1 rfl hs30 rfl d_Mo_addResult_196 (fun now_31 enow_31 H locs hP hD hS => ?_)
  have hP : va_P g.1 vwCl (wMo g mo a o now_31 dr pa sa iS bu tq rT wT sK sA sB sE oq bS bE bL rp) H := hP
  have hD : va_D (inW ws0) (wMo g mo a o now_31 dr pa sa iS bu tq rT wT sK sA sB sE oq bS bE bL rp) := hD
  have hz := lett_z hz enow_31
  have hok := lett_o hok enow_31
  refine lv_aload_n hx hb d_Mo_addResult_197 rfl (lv_at hl 1 rfl) ?_
  refine gf C hP 0 0 fkMo rfl (by decide) rfl qf_Mo_7 (gMo_0 _ _) d_Mo_addResult_198 ?_
  refine lv_iload_n hx hb d_Mo_addResult_201 rfl (lv_at hl 0 rfl) ?_
  refine lv_bipush (v := 7) hx hb d_Mo_addResult_202 (by decide) ?_
  refine lv_iadd hx hb d_Mo_addResult_204 ?_
  refine lv_aload_n hx hb d_Mo_addResult_205 rfl (lv_at hl 1 rfl) ?_
  refine lv_aload_n hx hb d_Mo_addResult_206 rfl (lv_at hl 1 rfl) ?_
  have hs32 := hok.1
  have hok := hok.2
  have hB : SubW g (inW ws0) s (wMo g mo a o now_31 dr pa sa iS bu tq rT wT sK sA sB sE oq bS bE bL rp) _ (List.range _) _ _ := (subF hP hD hS)
  refine goI0 hB (run_v C mf_Mo_setting qm_Mo_176 (c_Mo_setting l g mo a o now_31 dr pa sa iS bu tq rT wT sK sA sB sE oq bS bE bL rp hs32) rfl rfl ⟨Nat.le_of_ble_eq_true rfl, Nat.le_of_ble_eq_true rfl⟩ ⟨Nat.le_of_ble_eq_true rfl, Nat.le_of_ble_eq_true rfl⟩ hB rfl rfl hl rfl rfl (Nat.le_of_ble_eq_true rfl) d_Mo_addResult_207) (fun y33 ey33 H locs hP hS => ?_)
  have hz := lett_z hz ey33
  have hok := lett_o hok ey33
  refine lv_aload_n hx hb d_Mo_addResult_210 rfl (lv_at hl 1 rfl) ?_
  refine gf C hP 0 0 fkMo rfl (by decide) rfl qf_Mo_7 (gMo_0 _ _) d_Mo_addResult_211 ?_
  refine lv_bipush (v := 29) hx hb d_Mo_addResult_214 (by decide) ?_
  refine ldL C hP 1 rfl vi_29_215 cn_29 d_Mo_addResult_216 ?_
  refine lv_aload_n hx hb d_Mo_addResult_217 rfl (lv_at hl 1 rfl) ?_
  refine gf C hP 0 0 fkMo rfl (by decide) rfl qf_Mo_7 (gMo_0 _ _) d_Mo_addResult_218 ?_
  refine lv_bipush (v := 30) hx hb d_Mo_addResult_221 (by decide) ?_
  refine ldL C hP 1 rfl vi_30_215 cn_30 d_Mo_addResult_223 ?_
  refine lv_aload_n hx hb d_Mo_addResult_224 rfl (lv_at hl 1 rfl) ?_
  refine gf C hP 0 0 fkMo rfl (by decide) rfl qf_Mo_7 (gMo_0 _ _) d_Mo_addResult_225 ?_
  refine lv_bipush (v := 32) hx hb d_Mo_addResult_228 (by decide) ?_
  refine ldL C hP 1 rfl vi_32_215 cn_32 d_Mo_addResult_230 ?_
  have hs34 := hok.1
  have hok := hok.2
  have hB : SubW g (inW ws0) s (wMo g mo a o now_31 dr pa sa iS bu tq rT wT sK sA sB sE oq bS bE bL rp) _ (List.range _) _ _ := (subF hP hD hS)
  refine goL0 hB (run_v C mf_Mo_correctedBy qm_Mo_245 (c_Mo_correctedBy l g mo a o now_31 dr pa sa iS bu tq rT wT sK sA sB sE oq bS bE bL rp y33 (now_31 29) (now_31 30) (now_31 32) hs34) rfl rfl ⟨Nat.le_of_ble_eq_true rfl, Nat.le_of_ble_eq_true rfl⟩ ⟨Nat.le_of_ble_eq_true rfl, Nat.le_of_ble_eq_true rfl⟩ hB rfl rfl hl rfl rfl (Nat.le_of_ble_eq_true rfl) d_Mo_addResult_231) (fun y35 ey35 H locs hP hS => ?_)
  have hz := lett_z hz ey35
  have hok := lett_o hok ey35
  have hs36 := hok.1
  have hok := hok.2
  refine stL C hP hD hS 1 rfl hs36 rfl d_Mo_addResult_234 (fun now_37 enow_37 H locs hP hD hS => ?_)
  have hP : va_P g.1 vwCl (wMo g mo a o now_37 dr pa sa iS bu tq rT wT sK sA sB sE oq bS bE bL rp) H := hP
  have hD : va_D (inW ws0) (wMo g mo a o now_37 dr pa sa iS bu tq rT wT sK sA sB sE oq bS bE bL rp) := hD
  have hz := lett_z hz enow_37
  refine lv_aload_n hx hb d_Mo_addResult_235 rfl (lv_at hl 1 rfl) ?_
  refine gf C hP 0 0 fkMo rfl (by decide) rfl qf_Mo_7 (gMo_0 _ _) d_Mo_addResult_236 ?_
  refine lv_bipush (v := 54) hx hb d_Mo_addResult_239 (by decide) ?_
  refine lv_dup2_11 hx hb d_Mo_addResult_241 rfl rfl ?_
  refine ldL C hP 1 rfl vi_54_215 cn_54 d_Mo_addResult_242 ?_
  refine lv_lconst (v := 1) hx hb d_Mo_addResult_243 (by decide) ?_
  refine lv_ladd hx hb d_Mo_addResult_244 ?_
  refine stL C hP hD hS 1 rfl vi_54_215 cn_54 d_Mo_addResult_245 (fun now_38 enow_38 H locs hP hD hS => ?_)
  have hP : va_P g.1 vwCl (wMo g mo a o now_38 dr pa sa iS bu tq rT wT sK sA sB sE oq bS bE bL rp) H := hP
  have hD : va_D (inW ws0) (wMo g mo a o now_38 dr pa sa iS bu tq rT wT sK sA sB sE oq bS bE bL rp) := hD
  have hz := lett_z hz enow_38
  exact endV C hz hP hS d_Mo_addResult_246
noncomputable def sp_Mo_addResult_45 (nowp17 : LV) (p1 : Int32)   : LV := lett (vp_updL nowp17 54 ((nowp17 54) - (1 : Int64))) fun (now_7 : LV) => sp_Mo_addResult_56 p1 now_7
def ok_Mo_addResult_45 (nowp17 : LV) (p1 : Int32)    : Prop := lett (vp_updL nowp17 54 ((nowp17 54) - (1 : Int64))) fun (now_7 : LV) => ok_Mo_addResult_56 p1 now_7
set_option maxRecDepth 100000 in
set_option maxHeartbeats 4000000 in
theorem k_Mo_addResult_45 {p : Program} {l : Launch} {e : Env} {s : State} {m : MethodId} {args : Array Value} {below : List Frame} {meth : Method} {c : Code} {g : GX} {mo : Nat} {a : Nat → Nat} {ws0 : va_W} {o : IV} {nowp17 : LV} {dr : LV} {pa : LV} {sa : LV} {iS : IV} {bu : IV} {tq : IV} {rT : IV} {wT : IV} {sK : IV} {sA : IV} {sB : IV} {sE : IV} {oq : IV} {bS : IV} {bE : IV} {bL : IV} {rp : IV} {p1 : Int32}  (C : Cx p s m args meth c (inW ws0) g "DecadeBridgeModel" b_Mo_addResult none 3)  : HL_Mo_addResult_45 p l e s m args below meth c g mo a ws0 o nowp17 dr pa sa iS bu tq rT wT sK sA sB sE oq bS bE bL rp p1 (sp_Mo_addResult_45 nowp17 p1 ) (ok_Mo_addResult_45 nowp17 p1  ) := by
  intro _ hok z hz H locs ls hP hD hS hl
  obtain ⟨hx, hb, hr, hml, hown, hlk, hts, hK, hZo, hZ⟩ := id C
  unfold sp_Mo_addResult_45 at hz
  unfold ok_Mo_addResult_45 at hok
  refine lv_aload_n hx hb d_Mo_addResult_45 rfl (lv_at hl 0 rfl) ?_
  refine gf C hP 0 0 fkMo rfl (by decide) rfl qf_Mo_7 (gMo_0 _ _) d_Mo_addResult_46 ?_
  refine lv_bipush (v := 54) hx hb d_Mo_addResult_49 (by decide) ?_
  refine lv_dup2_11 hx hb d_Mo_addResult_51 rfl rfl ?_
  refine ldL C hP 1 rfl vi_54_215 cn_54 d_Mo_addResult_52 ?_
  refine lv_lconst (v := 1) hx hb d_Mo_addResult_53 (by decide) ?_
  refine lv_lsub hx hb d_Mo_addResult_54 ?_
  refine stL C hP hD hS 1 rfl vi_54_215 cn_54 d_Mo_addResult_55 (fun now_7 enow_7 H locs hP hD hS => ?_)
  have hP : va_P g.1 vwCl (wMo g mo a o now_7 dr pa sa iS bu tq rT wT sK sA sB sE oq bS bE bL rp) H := hP
  have hD : va_D (inW ws0) (wMo g mo a o now_7 dr pa sa iS bu tq rT wT sK sA sB sE oq bS bE bL rp) := hD
  have hz := lett_z hz enow_7
  have hok := lett_o hok enow_7
  exact k_Mo_addResult_56 C now_7 hok _ hz _ _ ls hP hD hS hl
noncomputable def bd_Mo_addResult_17 (p1 : Int32) (r17 : Int32 → LV → LV) (x2p17 : Int32) (nowp17 : LV) : LV := if (207 : Int32) ≤ x2p17 then (sp_Mo_addResult_45 nowp17 p1) else (lett (vp_updL nowp17 x2p17.toNatClampNeg (nowp17 (x2p17 + (8 : Int32)).toNatClampNeg)) fun (now_5 : LV) => lett (x2p17 + (1 : Int32)) fun (v6 : Int32) => r17 v6 now_5)
def okb_Mo_addResult_17 (p1 : Int32) (r17 : Int32 → LV → LV) (q17 : Int32 → LV → Prop) (x2p17 : Int32) (nowp17 : LV) : Prop := (((207 : Int32) ≤ x2p17 → ok_Mo_addResult_45 nowp17 p1) ∧ (¬ ((207 : Int32) ≤ x2p17) → (vp_in (x2p17 + (8 : Int32)) 215) ∧ (vp_in x2p17 215) ∧ lett (vp_updL nowp17 x2p17.toNatClampNeg (nowp17 (x2p17 + (8 : Int32)).toNatClampNeg)) fun (now_5 : LV) => lett (x2p17 + (1 : Int32)) fun (v6 : Int32) => q17 v6 now_5))
noncomputable def sp_Mo_addResult_17 (p1 : Int32)  : Nat → Int32 → LV → LV
  | 0 => fun _ _ => default
  | f + 1 => bd_Mo_addResult_17 p1  (sp_Mo_addResult_17 p1  f)
def ok_Mo_addResult_17 (p1 : Int32)   : Nat → Int32 → LV → Prop
  | 0 => fun _ _ => False
  | f + 1 => okb_Mo_addResult_17 p1  (sp_Mo_addResult_17 p1  f)  (ok_Mo_addResult_17 p1   f)
set_option maxRecDepth 100000 in
set_option maxHeartbeats 4000000 in
theorem kb_Mo_addResult_17 {p : Program} {l : Launch} {e : Env} {s : State} {m : MethodId} {args : Array Value} {below : List Frame} {meth : Method} {c : Code} {g : GX} {mo : Nat} {a : Nat → Nat} {ws0 : va_W} {o : IV} {dr : LV} {pa : LV} {sa : LV} {iS : IV} {bu : IV} {tq : IV} {rT : IV} {wT : IV} {sK : IV} {sA : IV} {sB : IV} {sE : IV} {oq : IV} {bS : IV} {bE : IV} {bL : IV} {rp : IV} {p1 : Int32}  (C : Cx p s m args meth c (inW ws0) g "DecadeBridgeModel" b_Mo_addResult none 3) {r17 : Int32 → LV → LV} {q17 : Int32 → LV → Prop}  (ih17 : HL_Mo_addResult_17 p l e s m args below meth c g mo a ws0 o dr pa sa iS bu tq rT wT sK sA sB sE oq bS bE bL rp p1 r17 q17) : HL_Mo_addResult_17 p l e s m args below meth c g mo a ws0 o dr pa sa iS bu tq rT wT sK sA sB sE oq bS bE bL rp p1 (bd_Mo_addResult_17 p1  r17) (okb_Mo_addResult_17 p1  r17  q17) := by
  intro x2p17 nowp17 hok z hz H locs ls hP hD hS hl
  obtain ⟨hx, hb, hr, hml, hown, hlk, hts, hK, hZo, hZ⟩ := id C
  unfold bd_Mo_addResult_17 at hz
  unfold okb_Mo_addResult_17 at hok
  refine lv_iload_n hx hb d_Mo_addResult_17 rfl (lv_at hl 2 rfl) ?_
  refine lv_sipush (v := 207) hx hb d_Mo_addResult_18 (by decide) ?_
  refine lv_icmp_ge (tgt := 45) hx hb d_Mo_addResult_21 (by decide) (fun c2 => ?_) (fun c2 => ?_)
  · have hz := hz.trans (if_pos c2)
    have hok := hok.1 c2
    exact k_Mo_addResult_45 C () hok _ hz _ _ ls hP hD hS (lv_sub hl [0, 1] rfl)
  · have hz := hz.trans (if_neg c2)
    have hok := hok.2 c2
    refine lv_aload_n hx hb d_Mo_addResult_24 rfl (lv_at hl 0 rfl) ?_
    refine gf C hP 0 0 fkMo rfl (by decide) rfl qf_Mo_7 (gMo_0 _ _) d_Mo_addResult_25 ?_
    refine lv_iload_n hx hb d_Mo_addResult_28 rfl (lv_at hl 2 rfl) ?_
    refine lv_aload_n hx hb d_Mo_addResult_29 rfl (lv_at hl 0 rfl) ?_
    refine gf C hP 0 0 fkMo rfl (by decide) rfl qf_Mo_7 (gMo_0 _ _) d_Mo_addResult_30 ?_
    refine lv_iload_n hx hb d_Mo_addResult_33 rfl (lv_at hl 2 rfl) ?_
    refine lv_bipush (v := 8) hx hb d_Mo_addResult_34 (by decide) ?_
    refine lv_iadd hx hb d_Mo_addResult_36 ?_
    have hs3 := hok.1
    have hok := hok.2
    refine ldL C hP 1 rfl hs3 rfl d_Mo_addResult_37 ?_
    have hs4 := hok.1
    have hok := hok.2
    refine stL C hP hD hS 1 rfl hs4 rfl d_Mo_addResult_38 (fun now_5 enow_5 H locs hP hD hS => ?_)
    have hP : va_P g.1 vwCl (wMo g mo a o now_5 dr pa sa iS bu tq rT wT sK sA sB sE oq bS bE bL rp) H := hP
    have hD : va_D (inW ws0) (wMo g mo a o now_5 dr pa sa iS bu tq rT wT sK sA sB sE oq bS bE bL rp) := hD
    have hz := lett_z hz enow_5
    have hok := lett_o hok enow_5
    obtain ⟨v6, ev6⟩ : ∃ y : Int32, y = x2p17 + (1 : Int32) := ⟨_, rfl⟩
    have hz := lett_z hz ev6
    have hok := lett_o hok ev6
    refine lv_iinc (v := v6) (lv' := [(2, .int v6), (0, .ref mo), (1, .int p1)]) hx hb d_Mo_addResult_39 hl (k := 2) rfl (by rw [ev6]; rfl) (by decide) rfl (fun ls hl => ?_)
    refine lv_goto (tgt := 17) hx hb d_Mo_addResult_42 (by decide) ?_
    exact ih17 v6 now_5 hok _ hz _ _ ls hP hD hS (lv_sub hl [1, 2, 0] rfl)
theorem k_Mo_addResult_17 {p : Program} {l : Launch} {e : Env} {s : State} {m : MethodId} {args : Array Value} {below : List Frame} {meth : Method} {c : Code} {g : GX} {mo : Nat} {a : Nat → Nat} {ws0 : va_W} {o : IV} {dr : LV} {pa : LV} {sa : LV} {iS : IV} {bu : IV} {tq : IV} {rT : IV} {wT : IV} {sK : IV} {sA : IV} {sB : IV} {sE : IV} {oq : IV} {bS : IV} {bE : IV} {bL : IV} {rp : IV} {p1 : Int32}  (C : Cx p s m args meth c (inW ws0) g "DecadeBridgeModel" b_Mo_addResult none 3) (f : Nat)  : HL_Mo_addResult_17 p l e s m args below meth c g mo a ws0 o dr pa sa iS bu tq rT wT sK sA sB sE oq bS bE bL rp p1 (sp_Mo_addResult_17 p1  f) (ok_Mo_addResult_17 p1   f) := by
  induction f with
  | zero => intro x2p17 nowp17 hok; exact False.elim hok
  | succ f ih => exact kb_Mo_addResult_17 C  ih
noncomputable def sp_Mo_addResult (p1 : Int32) (now : LV) : LV := if (now 54) = (20 : Int64) then (sp_Mo_addResult_17 p1 big (55 : Int32) now) else (sp_Mo_addResult_56 p1 now)
def ok_Mo_addResult (p1 : Int32) (now : LV) : Prop := (((now 54) = (20 : Int64) → ok_Mo_addResult_17 p1 big (55 : Int32) now) ∧ (¬ ((now 54) = (20 : Int64)) → ok_Mo_addResult_56 p1 now))
set_option maxRecDepth 100000 in
set_option maxHeartbeats 4000000 in
theorem c_Mo_addResult (l : Launch) (g : GX) (mo : Nat) (a : Nat → Nat) (o : IV) (now : LV) (dr : LV) (pa : LV) (sa : LV) (iS : IV) (bu : IV) (tq : IV) (rT : IV) (wT : IV) (sK : IV) (sA : IV) (sB : IV) (sE : IV) (oq : IV) (bS : IV) (bE : IV) (bL : IV) (rp : IV) (p1 : Int32) (hok : ok_Mo_addResult p1 now) : Met l y_Mo_addResult (wsY y_Mo_addResult b_Mo_addResult 3 none) rm_Mo_addResult (CP g [.ref mo, .int p1] (wMo g mo a o now dr pa sa iS bu tq rT wT sK sA sB sE oq bS bE bL rp)) (CV g (wMo g mo a o now dr pa sa iS bu tq rT wT sK sA sB sE oq bS bE bL rp) (fun u : LV => wMo g mo a o u dr pa sa iS bu tq rT wT sK sA sB sE oq bS bE bL rp) (sp_Mo_addResult p1 now)) 0 0 (inW (wMo g mo a o now dr pa sa iS bu tq rT wT sK sA sB sE oq bS bE bL rp)) := by
  refine Met.ofW (cc := b_Mo_addResult) (maxL := 3) (ret := none) pn_Mo rfl ?_
  intro p e s m args below meth c s₁ B hml hv
  obtain ⟨rfl, C, hP, hD, hS⟩ := enter "DecadeBridgeModel" rfl B hml hv
  obtain ⟨hx, hb, hr, hml, hown, hlk, hts, hK, hZo, hZ⟩ := id C
  refine entryW (lv := [(0, .ref mo), (1, .int p1)]) rfl (Nat.le_of_ble_eq_true rfl) (fun ls hl => ?_)
  obtain ⟨z, hz⟩ : ∃ z, z = sp_Mo_addResult p1 now := ⟨_, rfl⟩
  rw [← hz]
  unfold sp_Mo_addResult at hz
  unfold ok_Mo_addResult at hok
  refine lv_aload_n hx hb d_Mo_addResult_0 rfl (lv_at hl 0 rfl) ?_
  refine gf C hP 0 0 fkMo rfl (by decide) rfl qf_Mo_7 (gMo_0 _ _) d_Mo_addResult_1 ?_
  refine lv_bipush (v := 54) hx hb d_Mo_addResult_4 (by decide) ?_
  refine ldL C hP 1 rfl vi_54_215 cn_54 d_Mo_addResult_6 ?_
  refine lv_ldc2 hx hb hown (hts _ qk_Mo_243) d_Mo_addResult_7 ?_
  refine lc_ne (tgt := 56) hx hb d_Mo_addResult_10 d_Mo_addResult_11 (by decide) (fun c1 => ?_) (fun c1 => ?_)
  · have hz := hz.trans (if_neg c1)
    have hok := hok.2 c1
    exact k_Mo_addResult_56 C now hok _ hz _ _ ls hP hD hS hl
  · have hz := hz.trans (if_pos c1)
    have hok := hok.1 c1
    refine lv_bipush (v := 55) hx hb d_Mo_addResult_14 (by decide) ?_
    refine lv_istore_n (lv' := [(2, .int (55 : Int32)), (0, .ref mo), (1, .int p1)]) hx hb d_Mo_addResult_16 rfl hl (by decide) rfl (fun ls hl => ?_)
    exact k_Mo_addResult_17 C big (55 : Int32) now hok _ hz _ _ ls hP hD hS (lv_sub hl [1, 2, 0] rfl)
abbrev rm_Mo_balanceNow : Room := { frames := 12, cells := 0, slots := 0, locals := 282 }
def HL_Mo_balanceNow_24 (p : Program) (l : Launch) (e : Env) (s : State) (m : MethodId) (args : Array Value) (below : List Frame) (meth : Method) (c : Code) (g : GX) (mo : Nat) (a : Nat → Nat) (ws0 : va_W) (o : IV) (dr : LV) (pa : LV) (sa : LV) (iS : IV) (bu : IV) (tq : IV) (rT : IV) (wT : IV) (sK : IV) (sA : IV) (sB : IV) (sE : IV) (oq : IV) (bS : IV) (bE : IV) (bL : IV) (rp : IV) (p1 : Int32) (sp : Int32 → Int32 → LV → (Int32 × LV)) (ok : Int32 → Int32 → LV → Prop) : Prop := ∀ (x2p24 : Int32) (x3p24 : Int32) (nowp24 : LV), ok x2p24 x3p24 nowp24 → ∀ z : (Int32 × LV), z = sp x2p24 x3p24 nowp24 → ∀ (H : Heap) (locs : List Loc) (ls : Array Slot), va_P g.1 vwCl (wMo g mo a o nowp24 dr pa sa iS bu tq rT wT sK sA sB sE oq bS bE bL rp) H → va_D (inW ws0) (wMo g mo a o nowp24 dr pa sa iS bu tq rT wT sK sA sB sE oq bS bE bL rp) → va_S (inW ws0) s.heap H locs → lv_has ls 4 [(0, .ref mo), (1, .int p1), (2, .int x2p24), (3, .int x3p24)] → W p l e rm_Mo_balanceNow s m args below meth c H locs 0 0 (MQ below (CI g ws0 (fun u : LV => wMo g mo a o u dr pa sa iS bu tq rT wT sK sA sB sE oq bS bE bL rp) z) args s 0 0 (inW ws0)) (F0 m 24 ls [])
def HL_Mo_balanceNow_49 (p : Program) (l : Launch) (e : Env) (s : State) (m : MethodId) (args : Array Value) (below : List Frame) (meth : Method) (c : Code) (g : GX) (mo : Nat) (a : Nat → Nat) (ws0 : va_W) (o : IV) (nowp24 : LV) (dr : LV) (pa : LV) (sa : LV) (iS : IV) (bu : IV) (tq : IV) (rT : IV) (wT : IV) (sK : IV) (sA : IV) (sB : IV) (sE : IV) (oq : IV) (bS : IV) (bE : IV) (bL : IV) (rp : IV) (x2p24 : Int32) (sp : (Int32 × LV)) (ok : Prop) : Prop := ∀ (_ : Unit), ok → ∀ z : (Int32 × LV), z = sp → ∀ (H : Heap) (locs : List Loc) (ls : Array Slot), va_P g.1 vwCl (wMo g mo a o nowp24 dr pa sa iS bu tq rT wT sK sA sB sE oq bS bE bL rp) H → va_D (inW ws0) (wMo g mo a o nowp24 dr pa sa iS bu tq rT wT sK sA sB sE oq bS bE bL rp) → va_S (inW ws0) s.heap H locs → lv_has ls 4 [(0, .ref mo), (2, .int x2p24)] → W p l e rm_Mo_balanceNow s m args below meth c H locs 0 0 (MQ below (CI g ws0 (fun u : LV => wMo g mo a o u dr pa sa iS bu tq rT wT sK sA sB sE oq bS bE bL rp) z) args s 0 0 (inW ws0)) (F0 m 49 ls [])
def HL_Mo_balanceNow_82 (p : Program) (l : Launch) (e : Env) (s : State) (m : MethodId) (args : Array Value) (below : List Frame) (meth : Method) (c : Code) (g : GX) (mo : Nat) (a : Nat → Nat) (ws0 : va_W) (o : IV) (nowp24 : LV) (dr : LV) (pa : LV) (sa : LV) (iS : IV) (bu : IV) (tq : IV) (rT : IV) (wT : IV) (sK : IV) (sA : IV) (sB : IV) (sE : IV) (oq : IV) (bS : IV) (bE : IV) (bL : IV) (rp : IV) (sp : Int32 → (Int32 × LV)) (ok : Int32 → Prop) : Prop := ∀ (t0p82 : Int32), ok t0p82 → ∀ z : (Int32 × LV), z = sp t0p82 → ∀ (H : Heap) (locs : List Loc) (ls : Array Slot), va_P g.1 vwCl (wMo g mo a o nowp24 dr pa sa iS bu tq rT wT sK sA sB sE oq bS bE bL rp) H → va_D (inW ws0) (wMo g mo a o nowp24 dr pa sa iS bu tq rT wT sK sA sB sE oq bS bE bL rp) → va_S (inW ws0) s.heap H locs → lv_has ls 4 [(0, .ref mo)] → W p l e rm_Mo_balanceNow s m args below meth c H locs 0 0 (MQ below (CI g ws0 (fun u : LV => wMo g mo a o u dr pa sa iS bu tq rT wT sK sA sB sE oq bS bE bL rp) z) args s 0 0 (inW ws0)) (F0 m 82 ls [.int t0p82])
def HL_Mo_balanceNow_83 (p : Program) (l : Launch) (e : Env) (s : State) (m : MethodId) (args : Array Value) (below : List Frame) (meth : Method) (c : Code) (g : GX) (mo : Nat) (a : Nat → Nat) (ws0 : va_W) (o : IV) (nowp24 : LV) (dr : LV) (pa : LV) (sa : LV) (iS : IV) (bu : IV) (tq : IV) (rT : IV) (wT : IV) (sK : IV) (sA : IV) (sB : IV) (sE : IV) (oq : IV) (bS : IV) (bE : IV) (bL : IV) (rp : IV) (sp : Int32 → (Int32 × LV)) (ok : Int32 → Prop) : Prop := ∀ (x2p83 : Int32), ok x2p83 → ∀ z : (Int32 × LV), z = sp x2p83 → ∀ (H : Heap) (locs : List Loc) (ls : Array Slot), va_P g.1 vwCl (wMo g mo a o nowp24 dr pa sa iS bu tq rT wT sK sA sB sE oq bS bE bL rp) H → va_D (inW ws0) (wMo g mo a o nowp24 dr pa sa iS bu tq rT wT sK sA sB sE oq bS bE bL rp) → va_S (inW ws0) s.heap H locs → lv_has ls 4 [(0, .ref mo), (2, .int x2p83)] → W p l e rm_Mo_balanceNow s m args below meth c H locs 0 0 (MQ below (CI g ws0 (fun u : LV => wMo g mo a o u dr pa sa iS bu tq rT wT sK sA sB sE oq bS bE bL rp) z) args s 0 0 (inW ws0)) (F0 m 83 ls [])
noncomputable def sp_Mo_balanceNow_83 (nowp24 : LV)  (x2p83 : Int32) : Int32 × LV := if (2 : Int32) < x2p83 then ((x2p83, nowp24)) else (lett (sp_Mo_addResult x2p83 nowp24) fun (y20 : LV) => (x2p83, y20))
def ok_Mo_balanceNow_83 (nowp24 : LV)   (x2p83 : Int32) : Prop := (((2 : Int32) < x2p83 → True) ∧ (¬ ((2 : Int32) < x2p83) → (ok_Mo_addResult x2p83 nowp24) ∧ True))
set_option maxRecDepth 100000 in
set_option maxHeartbeats 4000000 in
theorem k_Mo_balanceNow_83 {p : Program} {l : Launch} {e : Env} {s : State} {m : MethodId} {args : Array Value} {below : List Frame} {meth : Method} {c : Code} {g : GX} {mo : Nat} {a : Nat → Nat} {ws0 : va_W} {o : IV} {nowp24 : LV} {dr : LV} {pa : LV} {sa : LV} {iS : IV} {bu : IV} {tq : IV} {rT : IV} {wT : IV} {sK : IV} {sA : IV} {sB : IV} {sE : IV} {oq : IV} {bS : IV} {bE : IV} {bL : IV} {rp : IV}  (C : Cx p s m args meth c (inW ws0) g "DecadeBridgeModel" b_Mo_balanceNow (some .int) 4)  : HL_Mo_balanceNow_83 p l e s m args below meth c g mo a ws0 o nowp24 dr pa sa iS bu tq rT wT sK sA sB sE oq bS bE bL rp (sp_Mo_balanceNow_83 nowp24 ) (ok_Mo_balanceNow_83 nowp24  ) := by
  intro x2p83 hok z hz H locs ls hP hD hS hl
  obtain ⟨hx, hb, hr, hml, hown, hlk, hts, hK, hZo, hZ⟩ := id C
  unfold sp_Mo_balanceNow_83 at hz
  unfold ok_Mo_balanceNow_83 at hok
  refine lv_iload_n hx hb d_Mo_balanceNow_83 rfl (lv_at hl 1 rfl) ?_
  refine lv_iconst (v := 2) hx hb d_Mo_balanceNow_84 (by decide) ?_
  refine lv_icmp_gt (tgt := 93) hx hb d_Mo_balanceNow_85 (by decide) (fun c18 => ?_) (fun c18 => ?_)
  · have hz := hz.trans (if_pos c18)
    refine lv_iload_n hx hb d_Mo_balanceNow_93 rfl (lv_at hl 1 rfl) ?_
    exact endI1 C hz hP hS d_Mo_balanceNow_94
  · have hz := hz.trans (if_neg c18)
    have hok := hok.2 c18
    refine lv_aload_n hx hb d_Mo_balanceNow_88 rfl (lv_at hl 0 rfl) ?_
    refine lv_iload_n hx hb d_Mo_balanceNow_89 rfl (lv_at hl 1 rfl) ?_
    have hs19 := hok.1
    have hok := hok.2
    have hB : SubW g (inW ws0) s (wMo g mo a o nowp24 dr pa sa iS bu tq rT wT sK sA sB sE oq bS bE bL rp) _ (List.range _) _ _ := (subF hP hD hS)
    refine goVF hB (run_v C mf_Mo_addResult qm_Mo_259 (c_Mo_addResult l g mo a o nowp24 dr pa sa iS bu tq rT wT sK sA sB sE oq bS bE bL rp x2p83 hs19) rfl rfl ⟨Nat.le_of_ble_eq_true rfl, Nat.le_of_ble_eq_true rfl⟩ ⟨Nat.le_of_ble_eq_true rfl, Nat.le_of_ble_eq_true rfl⟩ hB rfl rfl hl rfl rfl (Nat.le_of_ble_eq_true rfl) d_Mo_balanceNow_90) (fun _ => rfl) (fun y20 ey20 H locs hP hD hS => ?_)
    have hP : va_P g.1 vwCl (wMo g mo a o y20 dr pa sa iS bu tq rT wT sK sA sB sE oq bS bE bL rp) H := hP
    have hD : va_D (inW ws0) (wMo g mo a o y20 dr pa sa iS bu tq rT wT sK sA sB sE oq bS bE bL rp) := hD
    have hz := lett_z hz ey20
    refine lv_iload_n hx hb d_Mo_balanceNow_93 rfl (lv_at hl 1 rfl) ?_
    exact endI1 C hz hP hS d_Mo_balanceNow_94
noncomputable def sp_Mo_balanceNow_82 (nowp24 : LV)  (t0p82 : Int32) : Int32 × LV := sp_Mo_balanceNow_83 nowp24 t0p82
def ok_Mo_balanceNow_82 (nowp24 : LV)   (t0p82 : Int32) : Prop := ok_Mo_balanceNow_83 nowp24 t0p82
set_option maxRecDepth 100000 in
set_option maxHeartbeats 4000000 in
theorem k_Mo_balanceNow_82 {p : Program} {l : Launch} {e : Env} {s : State} {m : MethodId} {args : Array Value} {below : List Frame} {meth : Method} {c : Code} {g : GX} {mo : Nat} {a : Nat → Nat} {ws0 : va_W} {o : IV} {nowp24 : LV} {dr : LV} {pa : LV} {sa : LV} {iS : IV} {bu : IV} {tq : IV} {rT : IV} {wT : IV} {sK : IV} {sA : IV} {sB : IV} {sE : IV} {oq : IV} {bS : IV} {bE : IV} {bL : IV} {rp : IV}  (C : Cx p s m args meth c (inW ws0) g "DecadeBridgeModel" b_Mo_balanceNow (some .int) 4)  : HL_Mo_balanceNow_82 p l e s m args below meth c g mo a ws0 o nowp24 dr pa sa iS bu tq rT wT sK sA sB sE oq bS bE bL rp (sp_Mo_balanceNow_82 nowp24 ) (ok_Mo_balanceNow_82 nowp24  ) := by
  intro t0p82 hok z hz H locs ls hP hD hS hl
  obtain ⟨hx, hb, hr, hml, hown, hlk, hts, hK, hZo, hZ⟩ := id C
  unfold sp_Mo_balanceNow_82 at hz
  unfold ok_Mo_balanceNow_82 at hok
  refine lv_istore_n (lv' := [(2, .int t0p82), (0, .ref mo)]) hx hb d_Mo_balanceNow_82 rfl hl (by decide) rfl (fun ls hl => ?_)
  exact k_Mo_balanceNow_83 C t0p82 hok _ hz _ _ ls hP hD hS (lv_sub hl [1, 0] rfl)
noncomputable def sp_Mo_balanceNow_49 (x2p24 : Int32) (nowp24 : LV)   : Int32 × LV := if x2p24 = 0 then (lett (sp_Mo_setting nowp24) fun (y12 : Int32) => if y12 = 0 then (sp_Mo_balanceNow_82 nowp24 (4 : Int32)) else (lett (sp_Mo_setting nowp24) fun (y14 : Int32) => lett (sp_Mo_settings nowp24) fun (y16 : Int32) => if y14 = (y16 - (1 : Int32)) then (sp_Mo_balanceNow_82 nowp24 (3 : Int32)) else (sp_Mo_balanceNow_82 nowp24 (2 : Int32)))) else (sp_Mo_balanceNow_83 nowp24 x2p24)
def ok_Mo_balanceNow_49 (x2p24 : Int32) (nowp24 : LV)    : Prop := ((x2p24 = 0 → (ok_Mo_setting nowp24) ∧ lett (sp_Mo_setting nowp24) fun (y12 : Int32) => ((y12 = 0 → ok_Mo_balanceNow_82 nowp24 (4 : Int32)) ∧ (¬ (y12 = 0) → lett (sp_Mo_setting nowp24) fun (y14 : Int32) => (ok_Mo_settings nowp24) ∧ lett (sp_Mo_settings nowp24) fun (y16 : Int32) => ((y14 = (y16 - (1 : Int32)) → ok_Mo_balanceNow_82 nowp24 (3 : Int32)) ∧ (¬ (y14 = (y16 - (1 : Int32))) → ok_Mo_balanceNow_82 nowp24 (2 : Int32)))))) ∧ (¬ (x2p24 = 0) → ok_Mo_balanceNow_83 nowp24 x2p24))
set_option maxRecDepth 100000 in
set_option maxHeartbeats 4000000 in
theorem k_Mo_balanceNow_49 {p : Program} {l : Launch} {e : Env} {s : State} {m : MethodId} {args : Array Value} {below : List Frame} {meth : Method} {c : Code} {g : GX} {mo : Nat} {a : Nat → Nat} {ws0 : va_W} {o : IV} {nowp24 : LV} {dr : LV} {pa : LV} {sa : LV} {iS : IV} {bu : IV} {tq : IV} {rT : IV} {wT : IV} {sK : IV} {sA : IV} {sB : IV} {sE : IV} {oq : IV} {bS : IV} {bE : IV} {bL : IV} {rp : IV} {x2p24 : Int32}  (C : Cx p s m args meth c (inW ws0) g "DecadeBridgeModel" b_Mo_balanceNow (some .int) 4)  : HL_Mo_balanceNow_49 p l e s m args below meth c g mo a ws0 o nowp24 dr pa sa iS bu tq rT wT sK sA sB sE oq bS bE bL rp x2p24 (sp_Mo_balanceNow_49 x2p24 nowp24 ) (ok_Mo_balanceNow_49 x2p24 nowp24  ) := by
  intro _ hok z hz H locs ls hP hD hS hl
  obtain ⟨hx, hb, hr, hml, hown, hlk, hts, hK, hZo, hZ⟩ := id C
  unfold sp_Mo_balanceNow_49 at hz
  unfold ok_Mo_balanceNow_49 at hok
  refine lv_iload_n hx hb d_Mo_balanceNow_49 rfl (lv_at hl 1 rfl) ?_
  refine lv_if_ne (tgt := 83) hx hb d_Mo_balanceNow_50 (by decide) (fun c10 => ?_) (fun c10 => ?_)
  · have hz := hz.trans (if_neg c10)
    have hok := hok.2 c10
    exact k_Mo_balanceNow_83 C x2p24 hok _ hz _ _ ls hP hD hS hl
  · have hz := hz.trans (if_pos c10)
    have hok := hok.1 c10
    refine lv_aload_n hx hb d_Mo_balanceNow_53 rfl (lv_at hl 0 rfl) ?_
    have hs11 := hok.1
    have hok := hok.2
    have hB : SubW g (inW ws0) s (wMo g mo a o nowp24 dr pa sa iS bu tq rT wT sK sA sB sE oq bS bE bL rp) _ (List.range _) _ _ := (subF hP hD hS)
    refine goI0 hB (run_v C mf_Mo_setting qm_Mo_176 (c_Mo_setting l g mo a o nowp24 dr pa sa iS bu tq rT wT sK sA sB sE oq bS bE bL rp hs11) rfl rfl ⟨Nat.le_of_ble_eq_true rfl, Nat.le_of_ble_eq_true rfl⟩ ⟨Nat.le_of_ble_eq_true rfl, Nat.le_of_ble_eq_true rfl⟩ hB rfl rfl hl rfl rfl (Nat.le_of_ble_eq_true rfl) d_Mo_balanceNow_54) (fun y12 ey12 H locs hP hS => ?_)
    have hz := lett_z hz ey12
    have hok := lett_o hok ey12
    refine lv_if_ne (tgt := 64) hx hb d_Mo_balanceNow_57 (by decide) (fun c13 => ?_) (fun c13 => ?_)
    · have hz := hz.trans (if_neg c13)
      have hok := hok.2 c13
      refine lv_aload_n hx hb d_Mo_balanceNow_64 rfl (lv_at hl 0 rfl) ?_
      have hB : SubW g (inW ws0) s (wMo g mo a o nowp24 dr pa sa iS bu tq rT wT sK sA sB sE oq bS bE bL rp) _ (List.range _) _ _ := (subF hP hD hS)
      refine goI0 hB (run_v C mf_Mo_setting qm_Mo_176 (c_Mo_setting l g mo a o nowp24 dr pa sa iS bu tq rT wT sK sA sB sE oq bS bE bL rp hs11) rfl rfl ⟨Nat.le_of_ble_eq_true rfl, Nat.le_of_ble_eq_true rfl⟩ ⟨Nat.le_of_ble_eq_true rfl, Nat.le_of_ble_eq_true rfl⟩ hB rfl rfl hl rfl rfl (Nat.le_of_ble_eq_true rfl) d_Mo_balanceNow_65) (fun y14 ey14 H locs hP hS => ?_)
      have hz := lett_z hz ey14
      have hok := lett_o hok ey14
      refine lv_aload_n hx hb d_Mo_balanceNow_68 rfl (lv_at hl 0 rfl) ?_
      have hs15 := hok.1
      have hok := hok.2
      have hB : SubW g (inW ws0) s (wMo g mo a o nowp24 dr pa sa iS bu tq rT wT sK sA sB sE oq bS bE bL rp) _ (List.range _) _ _ := (subF hP hD hS)
      refine goI0 hB (run_v C mf_Mo_settings qm_Mo_256 (c_Mo_settings l g mo a o nowp24 dr pa sa iS bu tq rT wT sK sA sB sE oq bS bE bL rp hs15) rfl rfl ⟨Nat.le_of_ble_eq_true rfl, Nat.le_of_ble_eq_true rfl⟩ ⟨Nat.le_of_ble_eq_true rfl, Nat.le_of_ble_eq_true rfl⟩ hB rfl rfl hl rfl rfl (Nat.le_of_ble_eq_true rfl) d_Mo_balanceNow_69) (fun y16 ey16 H locs hP hS => ?_)
      have hz := lett_z hz ey16
      have hok := lett_o hok ey16
      refine lv_iconst (v := 1) hx hb d_Mo_balanceNow_72 (by decide) ?_
      refine lv_isub hx hb d_Mo_balanceNow_73 ?_
      refine lv_icmp_ne (tgt := 81) hx hb d_Mo_balanceNow_74 (by decide) (fun c17 => ?_) (fun c17 => ?_)
      · have hz := hz.trans (if_neg c17)
        have hok := hok.2 c17
        refine lv_iconst (v := 2) hx hb d_Mo_balanceNow_81 (by decide) ?_
        exact k_Mo_balanceNow_82 C (2 : Int32) hok _ hz _ _ ls hP hD hS (lv_sub hl [0] rfl)
      · have hz := hz.trans (if_pos c17)
        have hok := hok.1 c17
        refine lv_iconst (v := 3) hx hb d_Mo_balanceNow_77 (by decide) ?_
        refine lv_goto (tgt := 82) hx hb d_Mo_balanceNow_78 (by decide) ?_
        exact k_Mo_balanceNow_82 C (3 : Int32) hok _ hz _ _ ls hP hD hS (lv_sub hl [0] rfl)
    · have hz := hz.trans (if_pos c13)
      have hok := hok.1 c13
      refine lv_iconst (v := 4) hx hb d_Mo_balanceNow_60 (by decide) ?_
      refine lv_goto (tgt := 82) hx hb d_Mo_balanceNow_61 (by decide) ?_
      exact k_Mo_balanceNow_82 C (4 : Int32) hok _ hz _ _ ls hP hD hS (lv_sub hl [0] rfl)
noncomputable def bd_Mo_balanceNow_24 (p1 : Int32) (r24 : Int32 → Int32 → LV → (Int32 × LV)) (x2p24 : Int32) (x3p24 : Int32) (nowp24 : LV) : Int32 × LV := lett (sp_Mo_decades nowp24) fun (y4 : Int32) => if y4 ≤ x3p24 then (sp_Mo_balanceNow_49 x2p24 nowp24) else (if x2p24 = 0 then (lett (sp_Mo_balanceDecade x3p24 p1 nowp24) fun (y8 : Int32 × LV) => lett (x3p24 + (1 : Int32)) fun (v9 : Int32) => r24 y8.1 v9 y8.2) else (sp_Mo_balanceNow_49 x2p24 nowp24))
def okb_Mo_balanceNow_24 (p1 : Int32) (r24 : Int32 → Int32 → LV → (Int32 × LV)) (q24 : Int32 → Int32 → LV → Prop) (x2p24 : Int32) (x3p24 : Int32) (nowp24 : LV) : Prop := lett (sp_Mo_decades nowp24) fun (y4 : Int32) => ((y4 ≤ x3p24 → ok_Mo_balanceNow_49 x2p24 nowp24) ∧ (¬ (y4 ≤ x3p24) → ((x2p24 = 0 → (ok_Mo_balanceDecade x3p24 p1 nowp24) ∧ lett (sp_Mo_balanceDecade x3p24 p1 nowp24) fun (y8 : Int32 × LV) => lett (x3p24 + (1 : Int32)) fun (v9 : Int32) => q24 y8.1 v9 y8.2) ∧ (¬ (x2p24 = 0) → ok_Mo_balanceNow_49 x2p24 nowp24))))
noncomputable def sp_Mo_balanceNow_24 (p1 : Int32)  : Nat → Int32 → Int32 → LV → (Int32 × LV)
  | 0 => fun _ _ _ => default
  | f + 1 => bd_Mo_balanceNow_24 p1  (sp_Mo_balanceNow_24 p1  f)
def ok_Mo_balanceNow_24 (p1 : Int32)   : Nat → Int32 → Int32 → LV → Prop
  | 0 => fun _ _ _ => False
  | f + 1 => okb_Mo_balanceNow_24 p1  (sp_Mo_balanceNow_24 p1  f)  (ok_Mo_balanceNow_24 p1   f)
set_option maxRecDepth 100000 in
set_option maxHeartbeats 4000000 in
theorem kb_Mo_balanceNow_24 {p : Program} {l : Launch} {e : Env} {s : State} {m : MethodId} {args : Array Value} {below : List Frame} {meth : Method} {c : Code} {g : GX} {mo : Nat} {a : Nat → Nat} {ws0 : va_W} {o : IV} {dr : LV} {pa : LV} {sa : LV} {iS : IV} {bu : IV} {tq : IV} {rT : IV} {wT : IV} {sK : IV} {sA : IV} {sB : IV} {sE : IV} {oq : IV} {bS : IV} {bE : IV} {bL : IV} {rp : IV} {p1 : Int32}  (C : Cx p s m args meth c (inW ws0) g "DecadeBridgeModel" b_Mo_balanceNow (some .int) 4) {r24 : Int32 → Int32 → LV → (Int32 × LV)} {q24 : Int32 → Int32 → LV → Prop}  (ih24 : HL_Mo_balanceNow_24 p l e s m args below meth c g mo a ws0 o dr pa sa iS bu tq rT wT sK sA sB sE oq bS bE bL rp p1 r24 q24) : HL_Mo_balanceNow_24 p l e s m args below meth c g mo a ws0 o dr pa sa iS bu tq rT wT sK sA sB sE oq bS bE bL rp p1 (bd_Mo_balanceNow_24 p1  r24) (okb_Mo_balanceNow_24 p1  r24  q24) := by
  intro x2p24 x3p24 nowp24 hok z hz H locs ls hP hD hS hl
  obtain ⟨hx, hb, hr, hml, hown, hlk, hts, hK, hZo, hZ⟩ := id C
  unfold bd_Mo_balanceNow_24 at hz
  unfold okb_Mo_balanceNow_24 at hok
  refine lv_iload_n hx hb d_Mo_balanceNow_24 rfl (lv_at hl 3 rfl) ?_
  refine lv_aload_n hx hb d_Mo_balanceNow_25 rfl (lv_at hl 0 rfl) ?_
  have hB : SubW g (inW ws0) s (wMo g mo a o nowp24 dr pa sa iS bu tq rT wT sK sA sB sE oq bS bE bL rp) _ (List.range _) _ _ := (subF hP hD hS)
  refine goI0 hB (run_v C mf_Mo_decades qm_Mo_130 (c_Mo_decades l g mo a o nowp24 dr pa sa iS bu tq rT wT sK sA sB sE oq bS bE bL rp) rfl rfl ⟨Nat.le_of_ble_eq_true rfl, Nat.le_of_ble_eq_true rfl⟩ ⟨Nat.le_of_ble_eq_true rfl, Nat.le_of_ble_eq_true rfl⟩ hB rfl rfl hl rfl rfl (Nat.le_of_ble_eq_true rfl) d_Mo_balanceNow_26) (fun y4 ey4 H locs hP hS => ?_)
  have hz := lett_z hz ey4
  have hok := lett_o hok ey4
  refine lv_icmp_ge (tgt := 49) hx hb d_Mo_balanceNow_29 (by decide) (fun c5 => ?_) (fun c5 => ?_)
  · have hz := hz.trans (if_pos c5)
    have hok := hok.1 c5
    exact k_Mo_balanceNow_49 C () hok _ hz _ _ ls hP hD hS (lv_sub hl [0, 2] rfl)
  · have hz := hz.trans (if_neg c5)
    have hok := hok.2 c5
    refine lv_iload_n hx hb d_Mo_balanceNow_32 rfl (lv_at hl 2 rfl) ?_
    refine lv_if_ne (tgt := 49) hx hb d_Mo_balanceNow_33 (by decide) (fun c6 => ?_) (fun c6 => ?_)
    · have hz := hz.trans (if_neg c6)
      have hok := hok.2 c6
      exact k_Mo_balanceNow_49 C () hok _ hz _ _ ls hP hD hS (lv_sub hl [0, 2] rfl)
    · have hz := hz.trans (if_pos c6)
      have hok := hok.1 c6
      refine lv_aload_n hx hb d_Mo_balanceNow_36 rfl (lv_at hl 0 rfl) ?_
      refine lv_iload_n hx hb d_Mo_balanceNow_37 rfl (lv_at hl 3 rfl) ?_
      refine lv_iload_n hx hb d_Mo_balanceNow_38 rfl (lv_at hl 1 rfl) ?_
      have hs7 := hok.1
      have hok := hok.2
      have hB : SubW g (inW ws0) s (wMo g mo a o nowp24 dr pa sa iS bu tq rT wT sK sA sB sE oq bS bE bL rp) _ (List.range _) _ _ := (subF hP hD hS)
      refine goIF hB (run_v C mf_Mo_balanceDecade qm_Mo_252 (c_Mo_balanceDecade l g mo a o nowp24 dr pa sa iS bu tq rT wT sK sA sB sE oq bS bE bL rp x3p24 p1 hs7) rfl rfl ⟨Nat.le_of_ble_eq_true rfl, Nat.le_of_ble_eq_true rfl⟩ ⟨Nat.le_of_ble_eq_true rfl, Nat.le_of_ble_eq_true rfl⟩ hB rfl rfl hl rfl rfl (Nat.le_of_ble_eq_true rfl) d_Mo_balanceNow_39) (fun _ => rfl) (fun y8 ey8 H locs hP hD hS => ?_)
      have hP : va_P g.1 vwCl (wMo g mo a o y8.2 dr pa sa iS bu tq rT wT sK sA sB sE oq bS bE bL rp) H := hP
      have hD : va_D (inW ws0) (wMo g mo a o y8.2 dr pa sa iS bu tq rT wT sK sA sB sE oq bS bE bL rp) := hD
      have hz := lett_z hz ey8
      have hok := lett_o hok ey8
      refine lv_istore_n (lv' := [(2, .int y8.1), (0, .ref mo), (1, .int p1), (3, .int x3p24)]) hx hb d_Mo_balanceNow_42 rfl hl (by decide) rfl (fun ls hl => ?_)
      obtain ⟨v9, ev9⟩ : ∃ y : Int32, y = x3p24 + (1 : Int32) := ⟨_, rfl⟩
      have hz := lett_z hz ev9
      have hok := lett_o hok ev9
      refine lv_iinc (v := v9) (lv' := [(3, .int v9), (2, .int y8.1), (0, .ref mo), (1, .int p1)]) hx hb d_Mo_balanceNow_43 hl (k := 3) rfl (by rw [ev9]; rfl) (by decide) rfl (fun ls hl => ?_)
      refine lv_goto (tgt := 24) hx hb d_Mo_balanceNow_46 (by decide) ?_
      exact ih24 y8.1 v9 y8.2 hok _ hz _ _ ls hP hD hS (lv_sub hl [2, 3, 1, 0] rfl)
theorem k_Mo_balanceNow_24 {p : Program} {l : Launch} {e : Env} {s : State} {m : MethodId} {args : Array Value} {below : List Frame} {meth : Method} {c : Code} {g : GX} {mo : Nat} {a : Nat → Nat} {ws0 : va_W} {o : IV} {dr : LV} {pa : LV} {sa : LV} {iS : IV} {bu : IV} {tq : IV} {rT : IV} {wT : IV} {sK : IV} {sA : IV} {sB : IV} {sE : IV} {oq : IV} {bS : IV} {bE : IV} {bL : IV} {rp : IV} {p1 : Int32}  (C : Cx p s m args meth c (inW ws0) g "DecadeBridgeModel" b_Mo_balanceNow (some .int) 4) (f : Nat)  : HL_Mo_balanceNow_24 p l e s m args below meth c g mo a ws0 o dr pa sa iS bu tq rT wT sK sA sB sE oq bS bE bL rp p1 (sp_Mo_balanceNow_24 p1  f) (ok_Mo_balanceNow_24 p1   f) := by
  induction f with
  | zero => intro x2p24 x3p24 nowp24 hok; exact False.elim hok
  | succ f ih => exact kb_Mo_balanceNow_24 C  ih
noncomputable def sp_Mo_balanceNow (p1 : Int32) (now : LV) : Int32 × LV := if (now 22) = (0 : Int64) then (((-2 : Int32), now)) else (lett (sp_Mo_laySetting (0 : Int32) now) fun (y3 : LV) => sp_Mo_balanceNow_24 p1 big (0 : Int32) (0 : Int32) y3)
def ok_Mo_balanceNow (p1 : Int32) (now : LV) : Prop := (((now 22) = (0 : Int64) → True) ∧ (¬ ((now 22) = (0 : Int64)) → (ok_Mo_laySetting (0 : Int32) now) ∧ lett (sp_Mo_laySetting (0 : Int32) now) fun (y3 : LV) => ok_Mo_balanceNow_24 p1 big (0 : Int32) (0 : Int32) y3))
set_option maxRecDepth 100000 in
set_option maxHeartbeats 4000000 in
theorem c_Mo_balanceNow (l : Launch) (g : GX) (mo : Nat) (a : Nat → Nat) (o : IV) (now : LV) (dr : LV) (pa : LV) (sa : LV) (iS : IV) (bu : IV) (tq : IV) (rT : IV) (wT : IV) (sK : IV) (sA : IV) (sB : IV) (sE : IV) (oq : IV) (bS : IV) (bE : IV) (bL : IV) (rp : IV) (p1 : Int32) (hok : ok_Mo_balanceNow p1 now) : Met l y_Mo_balanceNow (wsY y_Mo_balanceNow b_Mo_balanceNow 4 (some .int)) rm_Mo_balanceNow (CP g [.ref mo, .int p1] (wMo g mo a o now dr pa sa iS bu tq rT wT sK sA sB sE oq bS bE bL rp)) (CI g (wMo g mo a o now dr pa sa iS bu tq rT wT sK sA sB sE oq bS bE bL rp) (fun u : LV => wMo g mo a o u dr pa sa iS bu tq rT wT sK sA sB sE oq bS bE bL rp) (sp_Mo_balanceNow p1 now)) 0 0 (inW (wMo g mo a o now dr pa sa iS bu tq rT wT sK sA sB sE oq bS bE bL rp)) := by
  refine Met.ofW (cc := b_Mo_balanceNow) (maxL := 4) (ret := (some .int)) pn_Mo rfl ?_
  intro p e s m args below meth c s₁ B hml hv
  obtain ⟨rfl, C, hP, hD, hS⟩ := enter "DecadeBridgeModel" rfl B hml hv
  obtain ⟨hx, hb, hr, hml, hown, hlk, hts, hK, hZo, hZ⟩ := id C
  refine entryW (lv := [(0, .ref mo), (1, .int p1)]) rfl (Nat.le_of_ble_eq_true rfl) (fun ls hl => ?_)
  obtain ⟨z, hz⟩ : ∃ z, z = sp_Mo_balanceNow p1 now := ⟨_, rfl⟩
  rw [← hz]
  unfold sp_Mo_balanceNow at hz
  unfold ok_Mo_balanceNow at hok
  refine lv_aload_n hx hb d_Mo_balanceNow_0 rfl (lv_at hl 0 rfl) ?_
  refine gf C hP 0 0 fkMo rfl (by decide) rfl qf_Mo_7 (gMo_0 _ _) d_Mo_balanceNow_1 ?_
  refine lv_bipush (v := 22) hx hb d_Mo_balanceNow_4 (by decide) ?_
  refine ldL C hP 1 rfl vi_22_215 cn_22 d_Mo_balanceNow_6 ?_
  refine lv_lconst (v := 0) hx hb d_Mo_balanceNow_7 (by decide) ?_
  refine lc_ne (tgt := 15) hx hb d_Mo_balanceNow_8 d_Mo_balanceNow_9 (by decide) (fun c1 => ?_) (fun c1 => ?_)
  · have hz := hz.trans (if_neg c1)
    have hok := hok.2 c1
    refine lv_aload_n hx hb d_Mo_balanceNow_15 rfl (lv_at hl 0 rfl) ?_
    refine lv_iconst (v := 0) hx hb d_Mo_balanceNow_16 (by decide) ?_
    have hs2 := hok.1
    have hok := hok.2
    have hB : SubW g (inW (wMo g mo a o now dr pa sa iS bu tq rT wT sK sA sB sE oq bS bE bL rp)) s (wMo g mo a o now dr pa sa iS bu tq rT wT sK sA sB sE oq bS bE bL rp) _ (List.range _) _ _ := (subF hP hD hS)
    refine goVF hB (run_v C mf_Mo_laySetting qm_Mo_248 (c_Mo_laySetting l g mo a o now dr pa sa iS bu tq rT wT sK sA sB sE oq bS bE bL rp (0 : Int32) hs2) rfl rfl ⟨Nat.le_of_ble_eq_true rfl, Nat.le_of_ble_eq_true rfl⟩ ⟨Nat.le_of_ble_eq_true rfl, Nat.le_of_ble_eq_true rfl⟩ hB rfl rfl hl rfl rfl (Nat.le_of_ble_eq_true rfl) d_Mo_balanceNow_17) (fun _ => rfl) (fun y3 ey3 H locs hP hD hS => ?_)
    have hP : va_P g.1 vwCl (wMo g mo a o y3 dr pa sa iS bu tq rT wT sK sA sB sE oq bS bE bL rp) H := hP
    have hD : va_D (inW (wMo g mo a o now dr pa sa iS bu tq rT wT sK sA sB sE oq bS bE bL rp)) (wMo g mo a o y3 dr pa sa iS bu tq rT wT sK sA sB sE oq bS bE bL rp) := hD
    have hz := lett_z hz ey3
    have hok := lett_o hok ey3
    refine lv_iconst (v := 0) hx hb d_Mo_balanceNow_20 (by decide) ?_
    refine lv_istore_n (lv' := [(2, .int (0 : Int32)), (0, .ref mo), (1, .int p1)]) hx hb d_Mo_balanceNow_21 rfl hl (by decide) rfl (fun ls hl => ?_)
    refine lv_iconst (v := 0) hx hb d_Mo_balanceNow_22 (by decide) ?_
    refine lv_istore_n (lv' := [(3, .int (0 : Int32)), (2, .int (0 : Int32)), (0, .ref mo), (1, .int p1)]) hx hb d_Mo_balanceNow_23 rfl hl (by decide) rfl (fun ls hl => ?_)
    exact k_Mo_balanceNow_24 C big (0 : Int32) (0 : Int32) y3 hok _ hz _ _ ls hP hD hS (lv_sub hl [2, 3, 1, 0] rfl)
  · have hz := hz.trans (if_pos c1)
    refine lv_bipush (v := -2) hx hb d_Mo_balanceNow_12 (by decide) ?_
    exact endI1 C hz hP hS d_Mo_balanceNow_14
abbrev rm_Mo_zeros : Room := { frames := 0, cells := 0, slots := 0, locals := 0 }
def HL_Mo_zeros_4 (p : Program) (l : Launch) (e : Env) (s : State) (m : MethodId) (args : Array Value) (below : List Frame) (meth : Method) (c : Code) (g : GX) (mo : Nat) (a : Nat → Nat) (o : IV) (now : LV) (dr : LV) (pa : LV) (sa : LV) (iS : IV) (bu : IV) (tq : IV) (rT : IV) (wT : IV) (sK : IV) (sA : IV) (sB : IV) (sE : IV) (oq : IV) (bS : IV) (bE : IV) (bL : IV) (rp : IV) (p1 : Int32) (sp : Int32 → Int32 → Int32) (ok : Int32 → Int32 → Prop) : Prop := ∀ (x1p4 : Int32) (x2p4 : Int32), ok x1p4 x2p4 → ∀ z : Int32, z = sp x1p4 x2p4 → ∀ (H : Heap) (locs : List Loc) (ls : Array Slot), va_P g.1 vwCl (wMo g mo a o now dr pa sa iS bu tq rT wT sK sA sB sE oq bS bE bL rp) H → va_D (inW (wMo g mo a o now dr pa sa iS bu tq rT wT sK sA sB sE oq bS bE bL rp)) (wMo g mo a o now dr pa sa iS bu tq rT wT sK sA sB sE oq bS bE bL rp) → va_S (inW (wMo g mo a o now dr pa sa iS bu tq rT wT sK sA sB sE oq bS bE bL rp)) s.heap H locs → lv_has ls 3 [(0, .int p1), (1, .int x1p4), (2, .int x2p4)] → W p l e rm_Mo_zeros s m args below meth c H locs 0 0 (MQ below (CI0 g (wMo g mo a o now dr pa sa iS bu tq rT wT sK sA sB sE oq bS bE bL rp) z) args s 0 0 (inW (wMo g mo a o now dr pa sa iS bu tq rT wT sK sA sB sE oq bS bE bL rp))) (F0 m 4 ls [])
def HL_Mo_zeros_26 (p : Program) (l : Launch) (e : Env) (s : State) (m : MethodId) (args : Array Value) (below : List Frame) (meth : Method) (c : Code) (g : GX) (mo : Nat) (a : Nat → Nat) (o : IV) (now : LV) (dr : LV) (pa : LV) (sa : LV) (iS : IV) (bu : IV) (tq : IV) (rT : IV) (wT : IV) (sK : IV) (sA : IV) (sB : IV) (sE : IV) (oq : IV) (bS : IV) (bE : IV) (bL : IV) (rp : IV) (p1 : Int32) (x2p4 : Int32) (x1p4 : Int32) (sp : Int32 → Int32) (ok : Int32 → Prop) : Prop := ∀ (t1p26 : Int32), ok t1p26 → ∀ z : Int32, z = sp t1p26 → ∀ (H : Heap) (locs : List Loc) (ls : Array Slot), va_P g.1 vwCl (wMo g mo a o now dr pa sa iS bu tq rT wT sK sA sB sE oq bS bE bL rp) H → va_D (inW (wMo g mo a o now dr pa sa iS bu tq rT wT sK sA sB sE oq bS bE bL rp)) (wMo g mo a o now dr pa sa iS bu tq rT wT sK sA sB sE oq bS bE bL rp) → va_S (inW (wMo g mo a o now dr pa sa iS bu tq rT wT sK sA sB sE oq bS bE bL rp)) s.heap H locs → lv_has ls 3 [(0, .int p1), (2, .int x2p4)] → W p l e rm_Mo_zeros s m args below meth c H locs 0 0 (MQ below (CI0 g (wMo g mo a o now dr pa sa iS bu tq rT wT sK sA sB sE oq bS bE bL rp) z) args s 0 0 (inW (wMo g mo a o now dr pa sa iS bu tq rT wT sK sA sB sE oq bS bE bL rp))) (F0 m 26 ls [.int t1p26, .int x1p4])
noncomputable def sp_Mo_zeros_26 (x1p4 : Int32) (x2p4 : Int32) (r4 : Int32 → Int32 → Int32) (t1p26 : Int32) : Int32 := lett (x1p4 + t1p26) fun (v3 : Int32) => lett (x2p4 + (8 : Int32)) fun (v4 : Int32) => r4 v3 v4
def ok_Mo_zeros_26 (x1p4 : Int32) (x2p4 : Int32) (r4 : Int32 → Int32 → Int32) (q4 : Int32 → Int32 → Prop) (t1p26 : Int32) : Prop := lett (x1p4 + t1p26) fun (v3 : Int32) => lett (x2p4 + (8 : Int32)) fun (v4 : Int32) => q4 v3 v4
set_option maxRecDepth 100000 in
set_option maxHeartbeats 4000000 in
theorem k_Mo_zeros_26 {p : Program} {l : Launch} {e : Env} {s : State} {m : MethodId} {args : Array Value} {below : List Frame} {meth : Method} {c : Code} {g : GX} {mo : Nat} {a : Nat → Nat} {o : IV} {now : LV} {dr : LV} {pa : LV} {sa : LV} {iS : IV} {bu : IV} {tq : IV} {rT : IV} {wT : IV} {sK : IV} {sA : IV} {sB : IV} {sE : IV} {oq : IV} {bS : IV} {bE : IV} {bL : IV} {rp : IV} {p1 : Int32} {x2p4 : Int32} {x1p4 : Int32} {r4 : Int32 → Int32 → Int32} {q4 : Int32 → Int32 → Prop} (C : Cx p s m args meth c (inW (wMo g mo a o now dr pa sa iS bu tq rT wT sK sA sB sE oq bS bE bL rp)) g "DecadeBridgeModel" b_Mo_zeros (some .int) 3) (ih4 : HL_Mo_zeros_4 p l e s m args below meth c g mo a o now dr pa sa iS bu tq rT wT sK sA sB sE oq bS bE bL rp p1 r4 q4) : HL_Mo_zeros_26 p l e s m args below meth c g mo a o now dr pa sa iS bu tq rT wT sK sA sB sE oq bS bE bL rp p1 x2p4 x1p4 (sp_Mo_zeros_26 x1p4 x2p4 r4) (ok_Mo_zeros_26 x1p4 x2p4 r4 q4) := by
  intro t1p26 hok z hz H locs ls hP hD hS hl
  obtain ⟨hx, hb, hr, hml, hown, hlk, hts, hK, hZo, hZ⟩ := id C
  unfold sp_Mo_zeros_26 at hz
  unfold ok_Mo_zeros_26 at hok
  refine lv_iadd hx hb d_Mo_zeros_26 ?_
  refine lv_topi (fun v3 ev3 => ?_)
  have hz := lett_z hz ev3
  have hok := lett_o hok ev3
  refine lv_istore_n (lv' := [(1, .int v3), (0, .int p1), (2, .int x2p4)]) hx hb d_Mo_zeros_27 rfl hl (by decide) rfl (fun ls hl => ?_)
  obtain ⟨v4, ev4⟩ : ∃ y : Int32, y = x2p4 + (8 : Int32) := ⟨_, rfl⟩
  have hz := lett_z hz ev4
  have hok := lett_o hok ev4
  refine lv_iinc (v := v4) (lv' := [(2, .int v4), (1, .int v3), (0, .int p1)]) hx hb d_Mo_zeros_28 hl (k := 2) rfl (by rw [ev4]; rfl) (by decide) rfl (fun ls hl => ?_)
  refine lv_goto (tgt := 4) hx hb d_Mo_zeros_31 (by decide) ?_
  exact ih4 v3 v4 hok _ hz _ _ ls hP hD hS (lv_sub hl [2, 1, 0] rfl)
noncomputable def bd_Mo_zeros_4 (p1 : Int32) (r4 : Int32 → Int32 → Int32) (x1p4 : Int32) (x2p4 : Int32) : Int32 := if (32 : Int32) ≤ x2p4 then (x1p4) else (if ((p1 >>> (x2p4 &&& 31)) &&& (255 : Int32)) = 0 then (sp_Mo_zeros_26 x1p4 x2p4 r4 (1 : Int32)) else (sp_Mo_zeros_26 x1p4 x2p4 r4 (0 : Int32)))
def okb_Mo_zeros_4 (p1 : Int32) (r4 : Int32 → Int32 → Int32) (q4 : Int32 → Int32 → Prop) (x1p4 : Int32) (x2p4 : Int32) : Prop := (((32 : Int32) ≤ x2p4 → True) ∧ (¬ ((32 : Int32) ≤ x2p4) → ((((p1 >>> (x2p4 &&& 31)) &&& (255 : Int32)) = 0 → ok_Mo_zeros_26 x1p4 x2p4 r4 q4 (1 : Int32)) ∧ (¬ (((p1 >>> (x2p4 &&& 31)) &&& (255 : Int32)) = 0) → ok_Mo_zeros_26 x1p4 x2p4 r4 q4 (0 : Int32)))))
noncomputable def sp_Mo_zeros_4 (p1 : Int32)  : Nat → Int32 → Int32 → Int32
  | 0 => fun _ _ => default
  | f + 1 => bd_Mo_zeros_4 p1  (sp_Mo_zeros_4 p1  f)
def ok_Mo_zeros_4 (p1 : Int32)   : Nat → Int32 → Int32 → Prop
  | 0 => fun _ _ => False
  | f + 1 => okb_Mo_zeros_4 p1  (sp_Mo_zeros_4 p1  f)  (ok_Mo_zeros_4 p1   f)
set_option maxRecDepth 100000 in
set_option maxHeartbeats 4000000 in
theorem kb_Mo_zeros_4 {p : Program} {l : Launch} {e : Env} {s : State} {m : MethodId} {args : Array Value} {below : List Frame} {meth : Method} {c : Code} {g : GX} {mo : Nat} {a : Nat → Nat} {o : IV} {now : LV} {dr : LV} {pa : LV} {sa : LV} {iS : IV} {bu : IV} {tq : IV} {rT : IV} {wT : IV} {sK : IV} {sA : IV} {sB : IV} {sE : IV} {oq : IV} {bS : IV} {bE : IV} {bL : IV} {rp : IV} {p1 : Int32}  (C : Cx p s m args meth c (inW (wMo g mo a o now dr pa sa iS bu tq rT wT sK sA sB sE oq bS bE bL rp)) g "DecadeBridgeModel" b_Mo_zeros (some .int) 3) {r4 : Int32 → Int32 → Int32} {q4 : Int32 → Int32 → Prop}  (ih4 : HL_Mo_zeros_4 p l e s m args below meth c g mo a o now dr pa sa iS bu tq rT wT sK sA sB sE oq bS bE bL rp p1 r4 q4) : HL_Mo_zeros_4 p l e s m args below meth c g mo a o now dr pa sa iS bu tq rT wT sK sA sB sE oq bS bE bL rp p1 (bd_Mo_zeros_4 p1  r4) (okb_Mo_zeros_4 p1  r4  q4) := by
  intro x1p4 x2p4 hok z hz H locs ls hP hD hS hl
  obtain ⟨hx, hb, hr, hml, hown, hlk, hts, hK, hZo, hZ⟩ := id C
  unfold bd_Mo_zeros_4 at hz
  unfold okb_Mo_zeros_4 at hok
  refine lv_iload_n hx hb d_Mo_zeros_4 rfl (lv_at hl 2 rfl) ?_
  refine lv_bipush (v := 32) hx hb d_Mo_zeros_5 (by decide) ?_
  refine lv_icmp_ge (tgt := 34) hx hb d_Mo_zeros_7 (by decide) (fun c1 => ?_) (fun c1 => ?_)
  · have hz := hz.trans (if_pos c1)
    refine lv_iload_n hx hb d_Mo_zeros_34 rfl (lv_at hl 1 rfl) ?_
    exact endI0 C hz hP hS d_Mo_zeros_35
  · have hz := hz.trans (if_neg c1)
    have hok := hok.2 c1
    refine lv_iload_n hx hb d_Mo_zeros_10 rfl (lv_at hl 1 rfl) ?_
    refine lv_iload_n hx hb d_Mo_zeros_11 rfl (lv_at hl 0 rfl) ?_
    refine lv_iload_n hx hb d_Mo_zeros_12 rfl (lv_at hl 2 rfl) ?_
    refine lv_ishr hx hb d_Mo_zeros_13 ?_
    refine lv_sipush (v := 255) hx hb d_Mo_zeros_14 (by decide) ?_
    refine lv_iand hx hb d_Mo_zeros_17 ?_
    refine lv_if_ne (tgt := 25) hx hb d_Mo_zeros_18 (by decide) (fun c2 => ?_) (fun c2 => ?_)
    · have hz := hz.trans (if_neg c2)
      have hok := hok.2 c2
      refine lv_iconst (v := 0) hx hb d_Mo_zeros_25 (by decide) ?_
      exact k_Mo_zeros_26 C ih4 (0 : Int32) hok _ hz _ _ ls hP hD hS (lv_sub hl [0, 2] rfl)
    · have hz := hz.trans (if_pos c2)
      have hok := hok.1 c2
      refine lv_iconst (v := 1) hx hb d_Mo_zeros_21 (by decide) ?_
      refine lv_goto (tgt := 26) hx hb d_Mo_zeros_22 (by decide) ?_
      exact k_Mo_zeros_26 C ih4 (1 : Int32) hok _ hz _ _ ls hP hD hS (lv_sub hl [0, 2] rfl)
theorem k_Mo_zeros_4 {p : Program} {l : Launch} {e : Env} {s : State} {m : MethodId} {args : Array Value} {below : List Frame} {meth : Method} {c : Code} {g : GX} {mo : Nat} {a : Nat → Nat} {o : IV} {now : LV} {dr : LV} {pa : LV} {sa : LV} {iS : IV} {bu : IV} {tq : IV} {rT : IV} {wT : IV} {sK : IV} {sA : IV} {sB : IV} {sE : IV} {oq : IV} {bS : IV} {bE : IV} {bL : IV} {rp : IV} {p1 : Int32}  (C : Cx p s m args meth c (inW (wMo g mo a o now dr pa sa iS bu tq rT wT sK sA sB sE oq bS bE bL rp)) g "DecadeBridgeModel" b_Mo_zeros (some .int) 3) (f : Nat)  : HL_Mo_zeros_4 p l e s m args below meth c g mo a o now dr pa sa iS bu tq rT wT sK sA sB sE oq bS bE bL rp p1 (sp_Mo_zeros_4 p1  f) (ok_Mo_zeros_4 p1   f) := by
  induction f with
  | zero => intro x1p4 x2p4 hok; exact False.elim hok
  | succ f ih => exact kb_Mo_zeros_4 C  ih
noncomputable def sp_Mo_zeros (p1 : Int32) : Int32 := sp_Mo_zeros_4 p1 big (0 : Int32) (0 : Int32)
def ok_Mo_zeros (p1 : Int32) : Prop := ok_Mo_zeros_4 p1 big (0 : Int32) (0 : Int32)
set_option maxRecDepth 100000 in
set_option maxHeartbeats 4000000 in
theorem c_Mo_zeros (l : Launch) (g : GX) (mo : Nat) (a : Nat → Nat) (o : IV) (now : LV) (dr : LV) (pa : LV) (sa : LV) (iS : IV) (bu : IV) (tq : IV) (rT : IV) (wT : IV) (sK : IV) (sA : IV) (sB : IV) (sE : IV) (oq : IV) (bS : IV) (bE : IV) (bL : IV) (rp : IV) (p1 : Int32) (hok : ok_Mo_zeros p1) : Met l y_Mo_zeros (wsY y_Mo_zeros b_Mo_zeros 3 (some .int)) rm_Mo_zeros (CP g [.int p1] (wMo g mo a o now dr pa sa iS bu tq rT wT sK sA sB sE oq bS bE bL rp)) (CI0 g (wMo g mo a o now dr pa sa iS bu tq rT wT sK sA sB sE oq bS bE bL rp) (sp_Mo_zeros p1)) 0 0 (inW (wMo g mo a o now dr pa sa iS bu tq rT wT sK sA sB sE oq bS bE bL rp)) := by
  refine Met.ofW (cc := b_Mo_zeros) (maxL := 3) (ret := (some .int)) pn_Mo rfl ?_
  intro p e s m args below meth c s₁ B hml hv
  obtain ⟨rfl, C, hP, hD, hS⟩ := enter "DecadeBridgeModel" rfl B hml hv
  obtain ⟨hx, hb, hr, hml, hown, hlk, hts, hK, hZo, hZ⟩ := id C
  refine entryW (lv := [(0, .int p1)]) rfl (Nat.le_of_ble_eq_true rfl) (fun ls hl => ?_)
  obtain ⟨z, hz⟩ : ∃ z, z = sp_Mo_zeros p1 := ⟨_, rfl⟩
  rw [← hz]
  unfold sp_Mo_zeros at hz
  unfold ok_Mo_zeros at hok
  refine lv_iconst (v := 0) hx hb d_Mo_zeros_0 (by decide) ?_
  refine lv_istore_n (lv' := [(1, .int (0 : Int32)), (0, .int p1)]) hx hb d_Mo_zeros_1 rfl hl (by decide) rfl (fun ls hl => ?_)
  refine lv_iconst (v := 0) hx hb d_Mo_zeros_2 (by decide) ?_
  refine lv_istore_n (lv' := [(2, .int (0 : Int32)), (1, .int (0 : Int32)), (0, .int p1)]) hx hb d_Mo_zeros_3 rfl hl (by decide) rfl (fun ls hl => ?_)
  exact k_Mo_zeros_4 C big (0 : Int32) (0 : Int32) hok _ hz _ _ ls hP hD hS (lv_sub hl [2, 1, 0] rfl)
abbrev rm_Mo_feedFour : Room := { frames := 0, cells := 0, slots := 0, locals := 0 }
def HL_Mo_feedFour_3 (p : Program) (l : Launch) (e : Env) (s : State) (m : MethodId) (args : Array Value) (below : List Frame) (meth : Method) (c : Code) (g : GX) (mo : Nat) (a : Nat → Nat) (ws0 : va_W) (now : LV) (dr : LV) (pa : LV) (sa : LV) (iS : IV) (tq : IV) (rT : IV) (wT : IV) (sK : IV) (sA : IV) (sB : IV) (sE : IV) (oq : IV) (bS : IV) (bE : IV) (bL : IV) (rp : IV) (p1 : Int32) (sp : Int32 → IV → IV → (IV × IV)) (ok : Int32 → IV → IV → Prop) : Prop := ∀ (x2p3 : Int32) (op3 : IV) (bup3 : IV), ok x2p3 op3 bup3 → ∀ z : (IV × IV), z = sp x2p3 op3 bup3 → ∀ (H : Heap) (locs : List Loc) (ls : Array Slot), va_P g.1 vwCl (wMo g mo a op3 now dr pa sa iS bup3 tq rT wT sK sA sB sE oq bS bE bL rp) H → va_D (inW ws0) (wMo g mo a op3 now dr pa sa iS bup3 tq rT wT sK sA sB sE oq bS bE bL rp) → va_S (inW ws0) s.heap H locs → lv_has ls 3 [(0, .ref mo), (1, .int p1), (2, .int x2p3)] → W p l e rm_Mo_feedFour s m args below meth c H locs 0 0 (MQ below (CV g ws0 (fun u : IV × IV => wMo g mo a u.1 now dr pa sa iS u.2 tq rT wT sK sA sB sE oq bS bE bL rp) z) args s 0 0 (inW ws0)) (F0 m 3 ls [])
def HL_Mo_feedFour_43 (p : Program) (l : Launch) (e : Env) (s : State) (m : MethodId) (args : Array Value) (below : List Frame) (meth : Method) (c : Code) (g : GX) (mo : Nat) (a : Nat → Nat) (ws0 : va_W) (now : LV) (dr : LV) (pa : LV) (sa : LV) (iS : IV) (tq : IV) (rT : IV) (wT : IV) (sK : IV) (sA : IV) (sB : IV) (sE : IV) (oq : IV) (bS : IV) (bE : IV) (bL : IV) (rp : IV) (p1 : Int32) (x2p3 : Int32) (sp : IV → IV → (IV × IV)) (ok : IV → IV → Prop) : Prop := ∀ (op43 : IV) (bup43 : IV), ok op43 bup43 → ∀ z : (IV × IV), z = sp op43 bup43 → ∀ (H : Heap) (locs : List Loc) (ls : Array Slot), va_P g.1 vwCl (wMo g mo a op43 now dr pa sa iS bup43 tq rT wT sK sA sB sE oq bS bE bL rp) H → va_D (inW ws0) (wMo g mo a op43 now dr pa sa iS bup43 tq rT wT sK sA sB sE oq bS bE bL rp) → va_S (inW ws0) s.heap H locs → lv_has ls 3 [(0, .ref mo), (1, .int p1), (2, .int x2p3)] → W p l e rm_Mo_feedFour s m args below meth c H locs 0 0 (MQ below (CV g ws0 (fun u : IV × IV => wMo g mo a u.1 now dr pa sa iS u.2 tq rT wT sK sA sB sE oq bS bE bL rp) z) args s 0 0 (inW ws0)) (F0 m 43 ls [])
noncomputable def sp_Mo_feedFour_43 (x2p3 : Int32) (r3 : Int32 → IV → IV → (IV × IV)) (op43 : IV) (bup43 : IV) : IV × IV := lett (x2p3 + (-8 : Int32)) fun (v6 : Int32) => r3 v6 op43 bup43
def ok_Mo_feedFour_43 (x2p3 : Int32) (r3 : Int32 → IV → IV → (IV × IV)) (q3 : Int32 → IV → IV → Prop) (op43 : IV) (bup43 : IV) : Prop := lett (x2p3 + (-8 : Int32)) fun (v6 : Int32) => q3 v6 op43 bup43
set_option maxRecDepth 100000 in
set_option maxHeartbeats 4000000 in
theorem k_Mo_feedFour_43 {p : Program} {l : Launch} {e : Env} {s : State} {m : MethodId} {args : Array Value} {below : List Frame} {meth : Method} {c : Code} {g : GX} {mo : Nat} {a : Nat → Nat} {ws0 : va_W} {now : LV} {dr : LV} {pa : LV} {sa : LV} {iS : IV} {tq : IV} {rT : IV} {wT : IV} {sK : IV} {sA : IV} {sB : IV} {sE : IV} {oq : IV} {bS : IV} {bE : IV} {bL : IV} {rp : IV} {p1 : Int32} {x2p3 : Int32} {r3 : Int32 → IV → IV → (IV × IV)} {q3 : Int32 → IV → IV → Prop} (C : Cx p s m args meth c (inW ws0) g "DecadeBridgeModel" b_Mo_feedFour none 3) (ih3 : HL_Mo_feedFour_3 p l e s m args below meth c g mo a ws0 now dr pa sa iS tq rT wT sK sA sB sE oq bS bE bL rp p1 r3 q3) : HL_Mo_feedFour_43 p l e s m args below meth c g mo a ws0 now dr pa sa iS tq rT wT sK sA sB sE oq bS bE bL rp p1 x2p3 (sp_Mo_feedFour_43 x2p3 r3) (ok_Mo_feedFour_43 x2p3 r3 q3) := by
  intro op43 bup43 hok z hz H locs ls hP hD hS hl
  obtain ⟨hx, hb, hr, hml, hown, hlk, hts, hK, hZo, hZ⟩ := id C
  unfold sp_Mo_feedFour_43 at hz
  unfold ok_Mo_feedFour_43 at hok
  obtain ⟨v6, ev6⟩ : ∃ y : Int32, y = x2p3 + (-8 : Int32) := ⟨_, rfl⟩
  have hz := lett_z hz ev6
  have hok := lett_o hok ev6
  refine lv_iinc (v := v6) (lv' := [(2, .int v6), (0, .ref mo), (1, .int p1)]) hx hb d_Mo_feedFour_43 hl (k := 2) rfl (by rw [ev6]; rfl) (by decide) rfl (fun ls hl => ?_)
  refine lv_goto (tgt := 3) hx hb d_Mo_feedFour_46 (by decide) ?_
  exact ih3 v6 op43 bup43 hok _ hz _ _ ls hP hD hS (lv_sub hl [1, 2, 0] rfl)
noncomputable def bd_Mo_feedFour_3 (p1 : Int32) (r3 : Int32 → IV → IV → (IV × IV)) (x2p3 : Int32) (op3 : IV) (bup3 : IV) : IV × IV := if x2p3 < 0 then ((op3, bup3)) else (if ((p1 >>> (x2p3 &&& 31)) &&& (255 : Int32)) = 0 then (sp_Mo_feedFour_43 x2p3 r3 op3 bup3) else (lett (upd bup3 (op3 8).toNatClampNeg ((p1 >>> (x2p3 &&& 31)) &&& (255 : Int32))) fun (bu_4 : IV) => lett (upd op3 8 ((op3 8) + (1 : Int32))) fun (o_5 : IV) => sp_Mo_feedFour_43 x2p3 r3 o_5 bu_4))
def okb_Mo_feedFour_3 (p1 : Int32) (r3 : Int32 → IV → IV → (IV × IV)) (q3 : Int32 → IV → IV → Prop) (x2p3 : Int32) (op3 : IV) (bup3 : IV) : Prop := ((x2p3 < 0 → True) ∧ (¬ (x2p3 < 0) → ((((p1 >>> (x2p3 &&& 31)) &&& (255 : Int32)) = 0 → ok_Mo_feedFour_43 x2p3 r3 q3 op3 bup3) ∧ (¬ (((p1 >>> (x2p3 &&& 31)) &&& (255 : Int32)) = 0) → (vp_in (op3 8) 600) ∧ lett (upd bup3 (op3 8).toNatClampNeg ((p1 >>> (x2p3 &&& 31)) &&& (255 : Int32))) fun (bu_4 : IV) => lett (upd op3 8 ((op3 8) + (1 : Int32))) fun (o_5 : IV) => ok_Mo_feedFour_43 x2p3 r3 q3 o_5 bu_4))))
noncomputable def sp_Mo_feedFour_3 (p1 : Int32)  : Nat → Int32 → IV → IV → (IV × IV)
  | 0 => fun _ _ _ => default
  | f + 1 => bd_Mo_feedFour_3 p1  (sp_Mo_feedFour_3 p1  f)
def ok_Mo_feedFour_3 (p1 : Int32)   : Nat → Int32 → IV → IV → Prop
  | 0 => fun _ _ _ => False
  | f + 1 => okb_Mo_feedFour_3 p1  (sp_Mo_feedFour_3 p1  f)  (ok_Mo_feedFour_3 p1   f)
set_option maxRecDepth 100000 in
set_option maxHeartbeats 4000000 in
theorem kb_Mo_feedFour_3 {p : Program} {l : Launch} {e : Env} {s : State} {m : MethodId} {args : Array Value} {below : List Frame} {meth : Method} {c : Code} {g : GX} {mo : Nat} {a : Nat → Nat} {ws0 : va_W} {now : LV} {dr : LV} {pa : LV} {sa : LV} {iS : IV} {tq : IV} {rT : IV} {wT : IV} {sK : IV} {sA : IV} {sB : IV} {sE : IV} {oq : IV} {bS : IV} {bE : IV} {bL : IV} {rp : IV} {p1 : Int32}  (C : Cx p s m args meth c (inW ws0) g "DecadeBridgeModel" b_Mo_feedFour none 3) {r3 : Int32 → IV → IV → (IV × IV)} {q3 : Int32 → IV → IV → Prop}  (ih3 : HL_Mo_feedFour_3 p l e s m args below meth c g mo a ws0 now dr pa sa iS tq rT wT sK sA sB sE oq bS bE bL rp p1 r3 q3) : HL_Mo_feedFour_3 p l e s m args below meth c g mo a ws0 now dr pa sa iS tq rT wT sK sA sB sE oq bS bE bL rp p1 (bd_Mo_feedFour_3 p1  r3) (okb_Mo_feedFour_3 p1  r3  q3) := by
  intro x2p3 op3 bup3 hok z hz H locs ls hP hD hS hl
  obtain ⟨hx, hb, hr, hml, hown, hlk, hts, hK, hZo, hZ⟩ := id C
  unfold bd_Mo_feedFour_3 at hz
  unfold okb_Mo_feedFour_3 at hok
  refine lv_iload_n hx hb d_Mo_feedFour_3 rfl (lv_at hl 2 rfl) ?_
  refine lv_if_lt (tgt := 49) hx hb d_Mo_feedFour_4 (by decide) (fun c1 => ?_) (fun c1 => ?_)
  · have hz := hz.trans (if_pos c1)
    exact endV C hz hP hS d_Mo_feedFour_49
  · have hz := hz.trans (if_neg c1)
    have hok := hok.2 c1
    refine lv_iload_n hx hb d_Mo_feedFour_7 rfl (lv_at hl 1 rfl) ?_
    refine lv_iload_n hx hb d_Mo_feedFour_8 rfl (lv_at hl 2 rfl) ?_
    refine lv_ishr hx hb d_Mo_feedFour_9 ?_
    refine lv_sipush (v := 255) hx hb d_Mo_feedFour_10 (by decide) ?_
    refine lv_iand hx hb d_Mo_feedFour_13 ?_
    refine lv_if_eq (tgt := 43) hx hb d_Mo_feedFour_14 (by decide) (fun c2 => ?_) (fun c2 => ?_)
    · have hz := hz.trans (if_pos c2)
      have hok := hok.1 c2
      exact k_Mo_feedFour_43 C ih3 op3 bup3 hok _ hz _ _ ls hP hD hS hl
    · have hz := hz.trans (if_neg c2)
      have hok := hok.2 c2
      refine lv_aload_n hx hb d_Mo_feedFour_17 rfl (lv_at hl 0 rfl) ?_
      refine gf C hP 0 7 fkMo rfl (by decide) rfl qf_Mo_26 (gMo_7 _ _) d_Mo_feedFour_18 ?_
      refine lv_aload_n hx hb d_Mo_feedFour_21 rfl (lv_at hl 0 rfl) ?_
      refine gf C hP 0 8 fkMo rfl (by decide) rfl qf_Mo_262 (gMo_8 _ _) d_Mo_feedFour_22 ?_
      refine lv_iload_n hx hb d_Mo_feedFour_25 rfl (lv_at hl 1 rfl) ?_
      refine lv_iload_n hx hb d_Mo_feedFour_26 rfl (lv_at hl 2 rfl) ?_
      refine lv_ishr hx hb d_Mo_feedFour_27 ?_
      refine lv_sipush (v := 255) hx hb d_Mo_feedFour_28 (by decide) ?_
      refine lv_iand hx hb d_Mo_feedFour_31 ?_
      have hs3 := hok.1
      have hok := hok.2
      refine stI C hP hD hS 6 rfl hs3 rfl d_Mo_feedFour_32 (fun bu_4 ebu_4 H locs hP hD hS => ?_)
      have hP : va_P g.1 vwCl (wMo g mo a op3 now dr pa sa iS bu_4 tq rT wT sK sA sB sE oq bS bE bL rp) H := hP
      have hD : va_D (inW ws0) (wMo g mo a op3 now dr pa sa iS bu_4 tq rT wT sK sA sB sE oq bS bE bL rp) := hD
      have hz := lett_z hz ebu_4
      have hok := lett_o hok ebu_4
      refine lv_aload_n hx hb d_Mo_feedFour_33 rfl (lv_at hl 0 rfl) ?_
      refine lv_dup hx hb d_Mo_feedFour_34 rfl ?_
      refine gf C hP 0 8 fkMo rfl (by decide) rfl qf_Mo_262 (gMo_8 _ _) d_Mo_feedFour_35 ?_
      refine lv_iconst (v := 1) hx hb d_Mo_feedFour_38 (by decide) ?_
      refine lv_iadd hx hb d_Mo_feedFour_39 ?_
      refine pfI C hP hD hS 0 8 fkMo rfl (by decide) rfl qf_Mo_262 rfl rfl rfl (Nat.le_of_ble_eq_true rfl) (ff := fun o => fMo a o) (sMo_8 _ _ _) d_Mo_feedFour_40 (fun o_5 eo_5 H locs hP hD hS => ?_)
      have hP : va_P g.1 vwCl (wMo g mo a o_5 now dr pa sa iS bu_4 tq rT wT sK sA sB sE oq bS bE bL rp) H := hP
      have hD : va_D (inW ws0) (wMo g mo a o_5 now dr pa sa iS bu_4 tq rT wT sK sA sB sE oq bS bE bL rp) := hD
      have hz := lett_z hz eo_5
      have hok := lett_o hok eo_5
      exact k_Mo_feedFour_43 C ih3 o_5 bu_4 hok _ hz _ _ ls hP hD hS hl
theorem k_Mo_feedFour_3 {p : Program} {l : Launch} {e : Env} {s : State} {m : MethodId} {args : Array Value} {below : List Frame} {meth : Method} {c : Code} {g : GX} {mo : Nat} {a : Nat → Nat} {ws0 : va_W} {now : LV} {dr : LV} {pa : LV} {sa : LV} {iS : IV} {tq : IV} {rT : IV} {wT : IV} {sK : IV} {sA : IV} {sB : IV} {sE : IV} {oq : IV} {bS : IV} {bE : IV} {bL : IV} {rp : IV} {p1 : Int32}  (C : Cx p s m args meth c (inW ws0) g "DecadeBridgeModel" b_Mo_feedFour none 3) (f : Nat)  : HL_Mo_feedFour_3 p l e s m args below meth c g mo a ws0 now dr pa sa iS tq rT wT sK sA sB sE oq bS bE bL rp p1 (sp_Mo_feedFour_3 p1  f) (ok_Mo_feedFour_3 p1   f) := by
  induction f with
  | zero => intro x2p3 op3 bup3 hok; exact False.elim hok
  | succ f ih => exact kb_Mo_feedFour_3 C  ih
noncomputable def sp_Mo_feedFour (p1 : Int32) (o : IV) (bu : IV) : IV × IV := sp_Mo_feedFour_3 p1 big (24 : Int32) o bu
def ok_Mo_feedFour (p1 : Int32) (o : IV) (bu : IV) : Prop := ok_Mo_feedFour_3 p1 big (24 : Int32) o bu
set_option maxRecDepth 100000 in
set_option maxHeartbeats 4000000 in
theorem c_Mo_feedFour (l : Launch) (g : GX) (mo : Nat) (a : Nat → Nat) (o : IV) (now : LV) (dr : LV) (pa : LV) (sa : LV) (iS : IV) (bu : IV) (tq : IV) (rT : IV) (wT : IV) (sK : IV) (sA : IV) (sB : IV) (sE : IV) (oq : IV) (bS : IV) (bE : IV) (bL : IV) (rp : IV) (p1 : Int32) (hok : ok_Mo_feedFour p1 o bu) : Met l y_Mo_feedFour (wsY y_Mo_feedFour b_Mo_feedFour 3 none) rm_Mo_feedFour (CP g [.ref mo, .int p1] (wMo g mo a o now dr pa sa iS bu tq rT wT sK sA sB sE oq bS bE bL rp)) (CV g (wMo g mo a o now dr pa sa iS bu tq rT wT sK sA sB sE oq bS bE bL rp) (fun u : IV × IV => wMo g mo a u.1 now dr pa sa iS u.2 tq rT wT sK sA sB sE oq bS bE bL rp) (sp_Mo_feedFour p1 o bu)) 0 0 (inW (wMo g mo a o now dr pa sa iS bu tq rT wT sK sA sB sE oq bS bE bL rp)) := by
  refine Met.ofW (cc := b_Mo_feedFour) (maxL := 3) (ret := none) pn_Mo rfl ?_
  intro p e s m args below meth c s₁ B hml hv
  obtain ⟨rfl, C, hP, hD, hS⟩ := enter "DecadeBridgeModel" rfl B hml hv
  obtain ⟨hx, hb, hr, hml, hown, hlk, hts, hK, hZo, hZ⟩ := id C
  refine entryW (lv := [(0, .ref mo), (1, .int p1)]) rfl (Nat.le_of_ble_eq_true rfl) (fun ls hl => ?_)
  obtain ⟨z, hz⟩ : ∃ z, z = sp_Mo_feedFour p1 o bu := ⟨_, rfl⟩
  rw [← hz]
  unfold sp_Mo_feedFour at hz
  unfold ok_Mo_feedFour at hok
  refine lv_bipush (v := 24) hx hb d_Mo_feedFour_0 (by decide) ?_
  refine lv_istore_n (lv' := [(2, .int (24 : Int32)), (0, .ref mo), (1, .int p1)]) hx hb d_Mo_feedFour_2 rfl hl (by decide) rfl (fun ls hl => ?_)
  exact k_Mo_feedFour_3 C big (24 : Int32) o bu hok _ hz _ _ ls hP hD hS (lv_sub hl [1, 2, 0] rfl)
abbrev rm_Mo_feed : Room := { frames := 1, cells := 0, slots := 0, locals := 22 }
noncomputable def sp_Mo_feed (p1 : Int32) (p2 : Int32) (p3 : Int32) (p4 : Int32) (p5 : Int32) (o : IV) (bu : IV) : Int32 × IV × IV := lett (upd o 6 (0 : Int32)) fun (o_1 : IV) => lett (sp_Mo_zeros p1) fun (y3 : Int32) => lett (sp_Mo_zeros p2) fun (y5 : Int32) => lett (sp_Mo_zeros p3) fun (y7 : Int32) => lett (sp_Mo_zeros p4) fun (y9 : Int32) => lett (sp_Mo_zeros p5) fun (y11 : Int32) => if (((((((o_1 8) + (20 : Int32)) - y3) - y5) - y7) - y9) - y11) ≤ (600 : Int32) then (lett (sp_Mo_feedFour p1 o_1 bu) fun (y14 : IV × IV) => lett (sp_Mo_feedFour p2 y14.1 y14.2) fun (y16 : IV × IV) => lett (sp_Mo_feedFour p3 y16.1 y16.2) fun (y18 : IV × IV) => lett (sp_Mo_feedFour p4 y18.1 y18.2) fun (y20 : IV × IV) => lett (sp_Mo_feedFour p5 y20.1 y20.2) fun (y22 : IV × IV) => (y22.1 8, (y22.1, y22.2))) else (((-1 : Int32), (o_1, bu)))
def ok_Mo_feed (p1 : Int32) (p2 : Int32) (p3 : Int32) (p4 : Int32) (p5 : Int32) (o : IV) (bu : IV) : Prop := lett (upd o 6 (0 : Int32)) fun (o_1 : IV) => (ok_Mo_zeros p1) ∧ lett (sp_Mo_zeros p1) fun (y3 : Int32) => (ok_Mo_zeros p2) ∧ lett (sp_Mo_zeros p2) fun (y5 : Int32) => (ok_Mo_zeros p3) ∧ lett (sp_Mo_zeros p3) fun (y7 : Int32) => (ok_Mo_zeros p4) ∧ lett (sp_Mo_zeros p4) fun (y9 : Int32) => (ok_Mo_zeros p5) ∧ lett (sp_Mo_zeros p5) fun (y11 : Int32) => (((((((((o_1 8) + (20 : Int32)) - y3) - y5) - y7) - y9) - y11) ≤ (600 : Int32) → (ok_Mo_feedFour p1 o_1 bu) ∧ lett (sp_Mo_feedFour p1 o_1 bu) fun (y14 : IV × IV) => (ok_Mo_feedFour p2 y14.1 y14.2) ∧ lett (sp_Mo_feedFour p2 y14.1 y14.2) fun (y16 : IV × IV) => (ok_Mo_feedFour p3 y16.1 y16.2) ∧ lett (sp_Mo_feedFour p3 y16.1 y16.2) fun (y18 : IV × IV) => (ok_Mo_feedFour p4 y18.1 y18.2) ∧ lett (sp_Mo_feedFour p4 y18.1 y18.2) fun (y20 : IV × IV) => (ok_Mo_feedFour p5 y20.1 y20.2) ∧ True) ∧ (¬ ((((((((o_1 8) + (20 : Int32)) - y3) - y5) - y7) - y9) - y11) ≤ (600 : Int32)) → True))
set_option maxRecDepth 100000 in
set_option maxHeartbeats 4000000 in
theorem c_Mo_feed (l : Launch) (g : GX) (mo : Nat) (a : Nat → Nat) (o : IV) (now : LV) (dr : LV) (pa : LV) (sa : LV) (iS : IV) (bu : IV) (tq : IV) (rT : IV) (wT : IV) (sK : IV) (sA : IV) (sB : IV) (sE : IV) (oq : IV) (bS : IV) (bE : IV) (bL : IV) (rp : IV) (p1 : Int32) (p2 : Int32) (p3 : Int32) (p4 : Int32) (p5 : Int32) (hok : ok_Mo_feed p1 p2 p3 p4 p5 o bu) : Met l y_Mo_feed (wsY y_Mo_feed b_Mo_feed 6 (some .int)) rm_Mo_feed (CP g [.ref mo, .int p1, .int p2, .int p3, .int p4, .int p5] (wMo g mo a o now dr pa sa iS bu tq rT wT sK sA sB sE oq bS bE bL rp)) (CI g (wMo g mo a o now dr pa sa iS bu tq rT wT sK sA sB sE oq bS bE bL rp) (fun u : IV × IV => wMo g mo a u.1 now dr pa sa iS u.2 tq rT wT sK sA sB sE oq bS bE bL rp) (sp_Mo_feed p1 p2 p3 p4 p5 o bu)) 0 0 (inW (wMo g mo a o now dr pa sa iS bu tq rT wT sK sA sB sE oq bS bE bL rp)) := by
  refine Met.ofW (cc := b_Mo_feed) (maxL := 6) (ret := (some .int)) pn_Mo rfl ?_
  intro p e s m args below meth c s₁ B hml hv
  obtain ⟨rfl, C, hP, hD, hS⟩ := enter "DecadeBridgeModel" rfl B hml hv
  obtain ⟨hx, hb, hr, hml, hown, hlk, hts, hK, hZo, hZ⟩ := id C
  refine entryW (lv := [(0, .ref mo), (1, .int p1), (2, .int p2), (3, .int p3), (4, .int p4), (5, .int p5)]) rfl (Nat.le_of_ble_eq_true rfl) (fun ls hl => ?_)
  obtain ⟨z, hz⟩ : ∃ z, z = sp_Mo_feed p1 p2 p3 p4 p5 o bu := ⟨_, rfl⟩
  rw [← hz]
  unfold sp_Mo_feed at hz
  unfold ok_Mo_feed at hok
  refine lv_aload_n hx hb d_Mo_feed_0 rfl (lv_at hl 0 rfl) ?_
  refine lv_iconst (v := 0) hx hb d_Mo_feed_1 (by decide) ?_
  refine pfI C hP hD hS 0 6 fkMo rfl (by decide) rfl qf_Mo_107 rfl rfl rfl (Nat.le_of_ble_eq_true rfl) (ff := fun o => fMo a o) (sMo_6 _ _ _) d_Mo_feed_2 (fun o_1 eo_1 H locs hP hD hS => ?_)
  have hP : va_P g.1 vwCl (wMo g mo a o_1 now dr pa sa iS bu tq rT wT sK sA sB sE oq bS bE bL rp) H := hP
  have hD : va_D (inW (wMo g mo a o now dr pa sa iS bu tq rT wT sK sA sB sE oq bS bE bL rp)) (wMo g mo a o_1 now dr pa sa iS bu tq rT wT sK sA sB sE oq bS bE bL rp) := hD
  have hz := lett_z hz eo_1
  have hok := lett_o hok eo_1
  refine lv_aload_n hx hb d_Mo_feed_5 rfl (lv_at hl 0 rfl) ?_
  refine gf C hP 0 8 fkMo rfl (by decide) rfl qf_Mo_262 (gMo_8 _ _) d_Mo_feed_6 ?_
  refine lv_bipush (v := 20) hx hb d_Mo_feed_9 (by decide) ?_
  refine lv_iadd hx hb d_Mo_feed_11 ?_
  refine lv_iload_n hx hb d_Mo_feed_12 rfl (lv_at hl 1 rfl) ?_
  have hs2 := hok.1
  have hok := hok.2
  have hB : SubW g (inW (wMo g mo a o now dr pa sa iS bu tq rT wT sK sA sB sE oq bS bE bL rp)) s (wMo g mo a o_1 now dr pa sa iS bu tq rT wT sK sA sB sE oq bS bE bL rp) _ (List.range _) _ _ := (subF hP hD hS)
  refine goI0 hB (run_s C mf_Mo_zeros qm_Mo_265 (c_Mo_zeros l g mo a o_1 now dr pa sa iS bu tq rT wT sK sA sB sE oq bS bE bL rp p1 hs2) rfl rfl ⟨Nat.le_of_ble_eq_true rfl, Nat.le_of_ble_eq_true rfl⟩ ⟨Nat.le_of_ble_eq_true rfl, Nat.le_of_ble_eq_true rfl⟩ hB hl rfl rfl (Nat.le_of_ble_eq_true rfl) d_Mo_feed_13) (fun y3 ey3 H locs hP hS => ?_)
  have hz := lett_z hz ey3
  have hok := lett_o hok ey3
  refine lv_isub hx hb d_Mo_feed_16 ?_
  refine lv_iload_n hx hb d_Mo_feed_17 rfl (lv_at hl 2 rfl) ?_
  have hs4 := hok.1
  have hok := hok.2
  have hB : SubW g (inW (wMo g mo a o now dr pa sa iS bu tq rT wT sK sA sB sE oq bS bE bL rp)) s (wMo g mo a o_1 now dr pa sa iS bu tq rT wT sK sA sB sE oq bS bE bL rp) _ (List.range _) _ _ := (subF hP hD hS)
  refine goI0 hB (run_s C mf_Mo_zeros qm_Mo_265 (c_Mo_zeros l g mo a o_1 now dr pa sa iS bu tq rT wT sK sA sB sE oq bS bE bL rp p2 hs4) rfl rfl ⟨Nat.le_of_ble_eq_true rfl, Nat.le_of_ble_eq_true rfl⟩ ⟨Nat.le_of_ble_eq_true rfl, Nat.le_of_ble_eq_true rfl⟩ hB hl rfl rfl (Nat.le_of_ble_eq_true rfl) d_Mo_feed_18) (fun y5 ey5 H locs hP hS => ?_)
  have hz := lett_z hz ey5
  have hok := lett_o hok ey5
  refine lv_isub hx hb d_Mo_feed_21 ?_
  refine lv_iload_n hx hb d_Mo_feed_22 rfl (lv_at hl 3 rfl) ?_
  have hs6 := hok.1
  have hok := hok.2
  have hB : SubW g (inW (wMo g mo a o now dr pa sa iS bu tq rT wT sK sA sB sE oq bS bE bL rp)) s (wMo g mo a o_1 now dr pa sa iS bu tq rT wT sK sA sB sE oq bS bE bL rp) _ (List.range _) _ _ := (subF hP hD hS)
  refine goI0 hB (run_s C mf_Mo_zeros qm_Mo_265 (c_Mo_zeros l g mo a o_1 now dr pa sa iS bu tq rT wT sK sA sB sE oq bS bE bL rp p3 hs6) rfl rfl ⟨Nat.le_of_ble_eq_true rfl, Nat.le_of_ble_eq_true rfl⟩ ⟨Nat.le_of_ble_eq_true rfl, Nat.le_of_ble_eq_true rfl⟩ hB hl rfl rfl (Nat.le_of_ble_eq_true rfl) d_Mo_feed_23) (fun y7 ey7 H locs hP hS => ?_)
  have hz := lett_z hz ey7
  have hok := lett_o hok ey7
  refine lv_isub hx hb d_Mo_feed_26 ?_
  refine lv_iload hx hb d_Mo_feed_27 (lv_at hl 4 rfl) ?_
  have hs8 := hok.1
  have hok := hok.2
  have hB : SubW g (inW (wMo g mo a o now dr pa sa iS bu tq rT wT sK sA sB sE oq bS bE bL rp)) s (wMo g mo a o_1 now dr pa sa iS bu tq rT wT sK sA sB sE oq bS bE bL rp) _ (List.range _) _ _ := (subF hP hD hS)
  refine goI0 hB (run_s C mf_Mo_zeros qm_Mo_265 (c_Mo_zeros l g mo a o_1 now dr pa sa iS bu tq rT wT sK sA sB sE oq bS bE bL rp p4 hs8) rfl rfl ⟨Nat.le_of_ble_eq_true rfl, Nat.le_of_ble_eq_true rfl⟩ ⟨Nat.le_of_ble_eq_true rfl, Nat.le_of_ble_eq_true rfl⟩ hB hl rfl rfl (Nat.le_of_ble_eq_true rfl) d_Mo_feed_29) (fun y9 ey9 H locs hP hS => ?_)
  have hz := lett_z hz ey9
  have hok := lett_o hok ey9
  refine lv_isub hx hb d_Mo_feed_32 ?_
  refine lv_iload hx hb d_Mo_feed_33 (lv_at hl 5 rfl) ?_
  have hs10 := hok.1
  have hok := hok.2
  have hB : SubW g (inW (wMo g mo a o now dr pa sa iS bu tq rT wT sK sA sB sE oq bS bE bL rp)) s (wMo g mo a o_1 now dr pa sa iS bu tq rT wT sK sA sB sE oq bS bE bL rp) _ (List.range _) _ _ := (subF hP hD hS)
  refine goI0 hB (run_s C mf_Mo_zeros qm_Mo_265 (c_Mo_zeros l g mo a o_1 now dr pa sa iS bu tq rT wT sK sA sB sE oq bS bE bL rp p5 hs10) rfl rfl ⟨Nat.le_of_ble_eq_true rfl, Nat.le_of_ble_eq_true rfl⟩ ⟨Nat.le_of_ble_eq_true rfl, Nat.le_of_ble_eq_true rfl⟩ hB hl rfl rfl (Nat.le_of_ble_eq_true rfl) d_Mo_feed_35) (fun y11 ey11 H locs hP hS => ?_)
  have hz := lett_z hz ey11
  have hok := lett_o hok ey11
  refine lv_isub hx hb d_Mo_feed_38 ?_
  refine lv_sipush (v := 600) hx hb d_Mo_feed_39 (by decide) ?_
  refine lv_icmp_le (tgt := 47) hx hb d_Mo_feed_42 (by decide) (fun c12 => ?_) (fun c12 => ?_)
  · have hz := hz.trans (if_pos c12)
    have hok := hok.1 c12
    refine lv_aload_n hx hb d_Mo_feed_47 rfl (lv_at hl 0 rfl) ?_
    refine lv_iload_n hx hb d_Mo_feed_48 rfl (lv_at hl 1 rfl) ?_
    have hs13 := hok.1
    have hok := hok.2
    have hB : SubW g (inW (wMo g mo a o now dr pa sa iS bu tq rT wT sK sA sB sE oq bS bE bL rp)) s (wMo g mo a o_1 now dr pa sa iS bu tq rT wT sK sA sB sE oq bS bE bL rp) _ (List.range _) _ _ := (subF hP hD hS)
    refine goVF hB (run_v C mf_Mo_feedFour qm_Mo_269 (c_Mo_feedFour l g mo a o_1 now dr pa sa iS bu tq rT wT sK sA sB sE oq bS bE bL rp p1 hs13) rfl rfl ⟨Nat.le_of_ble_eq_true rfl, Nat.le_of_ble_eq_true rfl⟩ ⟨Nat.le_of_ble_eq_true rfl, Nat.le_of_ble_eq_true rfl⟩ hB rfl rfl hl rfl rfl (Nat.le_of_ble_eq_true rfl) d_Mo_feed_49) (fun _ => rfl) (fun y14 ey14 H locs hP hD hS => ?_)
    have hP : va_P g.1 vwCl (wMo g mo a y14.1 now dr pa sa iS y14.2 tq rT wT sK sA sB sE oq bS bE bL rp) H := hP
    have hD : va_D (inW (wMo g mo a o now dr pa sa iS bu tq rT wT sK sA sB sE oq bS bE bL rp)) (wMo g mo a y14.1 now dr pa sa iS y14.2 tq rT wT sK sA sB sE oq bS bE bL rp) := hD
    have hz := lett_z hz ey14
    have hok := lett_o hok ey14
    refine lv_aload_n hx hb d_Mo_feed_52 rfl (lv_at hl 0 rfl) ?_
    refine lv_iload_n hx hb d_Mo_feed_53 rfl (lv_at hl 2 rfl) ?_
    have hs15 := hok.1
    have hok := hok.2
    have hB : SubW g (inW (wMo g mo a o now dr pa sa iS bu tq rT wT sK sA sB sE oq bS bE bL rp)) s (wMo g mo a y14.1 now dr pa sa iS y14.2 tq rT wT sK sA sB sE oq bS bE bL rp) _ (List.range _) _ _ := (subF hP hD hS)
    refine goVF hB (run_v C mf_Mo_feedFour qm_Mo_269 (c_Mo_feedFour l g mo a y14.1 now dr pa sa iS y14.2 tq rT wT sK sA sB sE oq bS bE bL rp p2 hs15) rfl rfl ⟨Nat.le_of_ble_eq_true rfl, Nat.le_of_ble_eq_true rfl⟩ ⟨Nat.le_of_ble_eq_true rfl, Nat.le_of_ble_eq_true rfl⟩ hB rfl rfl hl rfl rfl (Nat.le_of_ble_eq_true rfl) d_Mo_feed_54) (fun _ => rfl) (fun y16 ey16 H locs hP hD hS => ?_)
    have hP : va_P g.1 vwCl (wMo g mo a y16.1 now dr pa sa iS y16.2 tq rT wT sK sA sB sE oq bS bE bL rp) H := hP
    have hD : va_D (inW (wMo g mo a o now dr pa sa iS bu tq rT wT sK sA sB sE oq bS bE bL rp)) (wMo g mo a y16.1 now dr pa sa iS y16.2 tq rT wT sK sA sB sE oq bS bE bL rp) := hD
    have hz := lett_z hz ey16
    have hok := lett_o hok ey16
    refine lv_aload_n hx hb d_Mo_feed_57 rfl (lv_at hl 0 rfl) ?_
    refine lv_iload_n hx hb d_Mo_feed_58 rfl (lv_at hl 3 rfl) ?_
    have hs17 := hok.1
    have hok := hok.2
    have hB : SubW g (inW (wMo g mo a o now dr pa sa iS bu tq rT wT sK sA sB sE oq bS bE bL rp)) s (wMo g mo a y16.1 now dr pa sa iS y16.2 tq rT wT sK sA sB sE oq bS bE bL rp) _ (List.range _) _ _ := (subF hP hD hS)
    refine goVF hB (run_v C mf_Mo_feedFour qm_Mo_269 (c_Mo_feedFour l g mo a y16.1 now dr pa sa iS y16.2 tq rT wT sK sA sB sE oq bS bE bL rp p3 hs17) rfl rfl ⟨Nat.le_of_ble_eq_true rfl, Nat.le_of_ble_eq_true rfl⟩ ⟨Nat.le_of_ble_eq_true rfl, Nat.le_of_ble_eq_true rfl⟩ hB rfl rfl hl rfl rfl (Nat.le_of_ble_eq_true rfl) d_Mo_feed_59) (fun _ => rfl) (fun y18 ey18 H locs hP hD hS => ?_)
    have hP : va_P g.1 vwCl (wMo g mo a y18.1 now dr pa sa iS y18.2 tq rT wT sK sA sB sE oq bS bE bL rp) H := hP
    have hD : va_D (inW (wMo g mo a o now dr pa sa iS bu tq rT wT sK sA sB sE oq bS bE bL rp)) (wMo g mo a y18.1 now dr pa sa iS y18.2 tq rT wT sK sA sB sE oq bS bE bL rp) := hD
    have hz := lett_z hz ey18
    have hok := lett_o hok ey18
    refine lv_aload_n hx hb d_Mo_feed_62 rfl (lv_at hl 0 rfl) ?_
    refine lv_iload hx hb d_Mo_feed_63 (lv_at hl 4 rfl) ?_
    have hs19 := hok.1
    have hok := hok.2
    have hB : SubW g (inW (wMo g mo a o now dr pa sa iS bu tq rT wT sK sA sB sE oq bS bE bL rp)) s (wMo g mo a y18.1 now dr pa sa iS y18.2 tq rT wT sK sA sB sE oq bS bE bL rp) _ (List.range _) _ _ := (subF hP hD hS)
    refine goVF hB (run_v C mf_Mo_feedFour qm_Mo_269 (c_Mo_feedFour l g mo a y18.1 now dr pa sa iS y18.2 tq rT wT sK sA sB sE oq bS bE bL rp p4 hs19) rfl rfl ⟨Nat.le_of_ble_eq_true rfl, Nat.le_of_ble_eq_true rfl⟩ ⟨Nat.le_of_ble_eq_true rfl, Nat.le_of_ble_eq_true rfl⟩ hB rfl rfl hl rfl rfl (Nat.le_of_ble_eq_true rfl) d_Mo_feed_65) (fun _ => rfl) (fun y20 ey20 H locs hP hD hS => ?_)
    have hP : va_P g.1 vwCl (wMo g mo a y20.1 now dr pa sa iS y20.2 tq rT wT sK sA sB sE oq bS bE bL rp) H := hP
    have hD : va_D (inW (wMo g mo a o now dr pa sa iS bu tq rT wT sK sA sB sE oq bS bE bL rp)) (wMo g mo a y20.1 now dr pa sa iS y20.2 tq rT wT sK sA sB sE oq bS bE bL rp) := hD
    have hz := lett_z hz ey20
    have hok := lett_o hok ey20
    refine lv_aload_n hx hb d_Mo_feed_68 rfl (lv_at hl 0 rfl) ?_
    refine lv_iload hx hb d_Mo_feed_69 (lv_at hl 5 rfl) ?_
    have hs21 := hok.1
    have hok := hok.2
    have hB : SubW g (inW (wMo g mo a o now dr pa sa iS bu tq rT wT sK sA sB sE oq bS bE bL rp)) s (wMo g mo a y20.1 now dr pa sa iS y20.2 tq rT wT sK sA sB sE oq bS bE bL rp) _ (List.range _) _ _ := (subF hP hD hS)
    refine goVF hB (run_v C mf_Mo_feedFour qm_Mo_269 (c_Mo_feedFour l g mo a y20.1 now dr pa sa iS y20.2 tq rT wT sK sA sB sE oq bS bE bL rp p5 hs21) rfl rfl ⟨Nat.le_of_ble_eq_true rfl, Nat.le_of_ble_eq_true rfl⟩ ⟨Nat.le_of_ble_eq_true rfl, Nat.le_of_ble_eq_true rfl⟩ hB rfl rfl hl rfl rfl (Nat.le_of_ble_eq_true rfl) d_Mo_feed_71) (fun _ => rfl) (fun y22 ey22 H locs hP hD hS => ?_)
    have hP : va_P g.1 vwCl (wMo g mo a y22.1 now dr pa sa iS y22.2 tq rT wT sK sA sB sE oq bS bE bL rp) H := hP
    have hD : va_D (inW (wMo g mo a o now dr pa sa iS bu tq rT wT sK sA sB sE oq bS bE bL rp)) (wMo g mo a y22.1 now dr pa sa iS y22.2 tq rT wT sK sA sB sE oq bS bE bL rp) := hD
    have hz := lett_z hz ey22
    refine lv_aload_n hx hb d_Mo_feed_74 rfl (lv_at hl 0 rfl) ?_
    refine gf C hP 0 8 fkMo rfl (by decide) rfl qf_Mo_262 (gMo_8 _ _) d_Mo_feed_75 ?_
    exact endI1 C hz hP hS d_Mo_feed_78
  · have hz := hz.trans (if_neg c12)
    refine lv_iconst (v := -1) hx hb d_Mo_feed_45 (by decide) ?_
    exact endI1 C hz hP hS d_Mo_feed_46
abbrev rm_Mo_byteAt : Room := { frames := 0, cells := 0, slots := 0, locals := 0 }
noncomputable def sp_Mo_byteAt (p1 : Int32) (o : IV) (bu : IV) : Int32 := if (o 8) ≤ p1 then ((-1 : Int32)) else (bu p1.toNatClampNeg)
def ok_Mo_byteAt (p1 : Int32) (o : IV) : Prop := (((o 8) ≤ p1 → True) ∧ (¬ ((o 8) ≤ p1) → (vp_in p1 600) ∧ True))
set_option maxRecDepth 100000 in
set_option maxHeartbeats 4000000 in
theorem c_Mo_byteAt (l : Launch) (g : GX) (mo : Nat) (a : Nat → Nat) (o : IV) (now : LV) (dr : LV) (pa : LV) (sa : LV) (iS : IV) (bu : IV) (tq : IV) (rT : IV) (wT : IV) (sK : IV) (sA : IV) (sB : IV) (sE : IV) (oq : IV) (bS : IV) (bE : IV) (bL : IV) (rp : IV) (p1 : Int32) (hok : ok_Mo_byteAt p1 o) : Met l y_Mo_byteAt (wsY y_Mo_byteAt b_Mo_byteAt 2 (some .int)) rm_Mo_byteAt (CP g [.ref mo, .int p1] (wMo g mo a o now dr pa sa iS bu tq rT wT sK sA sB sE oq bS bE bL rp)) (CI0 g (wMo g mo a o now dr pa sa iS bu tq rT wT sK sA sB sE oq bS bE bL rp) (sp_Mo_byteAt p1 o bu)) 0 0 (inW (wMo g mo a o now dr pa sa iS bu tq rT wT sK sA sB sE oq bS bE bL rp)) := by
  refine Met.ofW (cc := b_Mo_byteAt) (maxL := 2) (ret := (some .int)) pn_Mo rfl ?_
  intro p e s m args below meth c s₁ B hml hv
  obtain ⟨rfl, C, hP, hD, hS⟩ := enter "DecadeBridgeModel" rfl B hml hv
  obtain ⟨hx, hb, hr, hml, hown, hlk, hts, hK, hZo, hZ⟩ := id C
  refine entryW (lv := [(0, .ref mo), (1, .int p1)]) rfl (Nat.le_of_ble_eq_true rfl) (fun ls hl => ?_)
  obtain ⟨z, hz⟩ : ∃ z, z = sp_Mo_byteAt p1 o bu := ⟨_, rfl⟩
  rw [← hz]
  unfold sp_Mo_byteAt at hz
  unfold ok_Mo_byteAt at hok
  refine lv_iload_n hx hb d_Mo_byteAt_0 rfl (lv_at hl 1 rfl) ?_
  refine lv_aload_n hx hb d_Mo_byteAt_1 rfl (lv_at hl 0 rfl) ?_
  refine gf C hP 0 8 fkMo rfl (by decide) rfl qf_Mo_262 (gMo_8 _ _) d_Mo_byteAt_2 ?_
  refine lv_icmp_ge (tgt := 17) hx hb d_Mo_byteAt_5 (by decide) (fun c1 => ?_) (fun c1 => ?_)
  · have hz := hz.trans (if_pos c1)
    refine lv_iconst (v := -1) hx hb d_Mo_byteAt_17 (by decide) ?_
    exact endI0 C hz hP hS d_Mo_byteAt_18
  · have hz := hz.trans (if_neg c1)
    have hok := hok.2 c1
    refine lv_aload_n hx hb d_Mo_byteAt_8 rfl (lv_at hl 0 rfl) ?_
    refine gf C hP 0 7 fkMo rfl (by decide) rfl qf_Mo_26 (gMo_7 _ _) d_Mo_byteAt_9 ?_
    refine lv_iload_n hx hb d_Mo_byteAt_12 rfl (lv_at hl 1 rfl) ?_
    have hs2 := hok.1
    have hok := hok.2
    refine ldI C hP 6 rfl hs2 rfl d_Mo_byteAt_13 ?_
    refine lv_goto (tgt := 18) hx hb d_Mo_byteAt_14 (by decide) ?_
    exact endI0 C hz hP hS d_Mo_byteAt_18
abbrev rm_Mo_isLetter : Room := { frames := 0, cells := 0, slots := 0, locals := 0 }
def HL_Mo_isLetter_16 (p : Program) (l : Launch) (e : Env) (s : State) (m : MethodId) (args : Array Value) (below : List Frame) (meth : Method) (c : Code) (g : GX) (mo : Nat) (a : Nat → Nat) (o : IV) (now : LV) (dr : LV) (pa : LV) (sa : LV) (iS : IV) (bu : IV) (tq : IV) (rT : IV) (wT : IV) (sK : IV) (sA : IV) (sB : IV) (sE : IV) (oq : IV) (bS : IV) (bE : IV) (bL : IV) (rp : IV) (sp : Int32) (ok : Prop) : Prop := ∀ (_ : Unit), ok → ∀ z : Int32, z = sp → ∀ (H : Heap) (locs : List Loc) (ls : Array Slot), va_P g.1 vwCl (wMo g mo a o now dr pa sa iS bu tq rT wT sK sA sB sE oq bS bE bL rp) H → va_D (inW (wMo g mo a o now dr pa sa iS bu tq rT wT sK sA sB sE oq bS bE bL rp)) (wMo g mo a o now dr pa sa iS bu tq rT wT sK sA sB sE oq bS bE bL rp) → va_S (inW (wMo g mo a o now dr pa sa iS bu tq rT wT sK sA sB sE oq bS bE bL rp)) s.heap H locs → lv_has ls 1 [] → W p l e rm_Mo_isLetter s m args below meth c H locs 0 0 (MQ below (CI0 g (wMo g mo a o now dr pa sa iS bu tq rT wT sK sA sB sE oq bS bE bL rp) z) args s 0 0 (inW (wMo g mo a o now dr pa sa iS bu tq rT wT sK sA sB sE oq bS bE bL rp))) (F0 m 16 ls [])
noncomputable def sp_Mo_isLetter_16    : Int32 := (0 : Int32)
def ok_Mo_isLetter_16     : Prop := True
set_option maxRecDepth 100000 in
set_option maxHeartbeats 4000000 in
theorem k_Mo_isLetter_16 {p : Program} {l : Launch} {e : Env} {s : State} {m : MethodId} {args : Array Value} {below : List Frame} {meth : Method} {c : Code} {g : GX} {mo : Nat} {a : Nat → Nat} {o : IV} {now : LV} {dr : LV} {pa : LV} {sa : LV} {iS : IV} {bu : IV} {tq : IV} {rT : IV} {wT : IV} {sK : IV} {sA : IV} {sB : IV} {sE : IV} {oq : IV} {bS : IV} {bE : IV} {bL : IV} {rp : IV}  (C : Cx p s m args meth c (inW (wMo g mo a o now dr pa sa iS bu tq rT wT sK sA sB sE oq bS bE bL rp)) g "DecadeBridgeModel" b_Mo_isLetter (some .boolean) 1)  : HL_Mo_isLetter_16 p l e s m args below meth c g mo a o now dr pa sa iS bu tq rT wT sK sA sB sE oq bS bE bL rp (sp_Mo_isLetter_16  ) (ok_Mo_isLetter_16   ) := by
  intro _ hok z hz H locs ls hP hD hS hl
  obtain ⟨hx, hb, hr, hml, hown, hlk, hts, hK, hZo, hZ⟩ := id C
  unfold sp_Mo_isLetter_16 at hz
  refine lv_iconst (v := 0) hx hb d_Mo_isLetter_16 (by decide) ?_
  exact endZ0 C hz hP hS rfl d_Mo_isLetter_17
noncomputable def sp_Mo_isLetter (p1 : Int32) : Int32 := if p1 < (97 : Int32) then (sp_Mo_isLetter_16) else (if (122 : Int32) < p1 then (sp_Mo_isLetter_16) else ((1 : Int32)))
set_option maxRecDepth 100000 in
set_option maxHeartbeats 4000000 in
theorem c_Mo_isLetter (l : Launch) (g : GX) (mo : Nat) (a : Nat → Nat) (o : IV) (now : LV) (dr : LV) (pa : LV) (sa : LV) (iS : IV) (bu : IV) (tq : IV) (rT : IV) (wT : IV) (sK : IV) (sA : IV) (sB : IV) (sE : IV) (oq : IV) (bS : IV) (bE : IV) (bL : IV) (rp : IV) (p1 : Int32) : Met l y_Mo_isLetter (wsY y_Mo_isLetter b_Mo_isLetter 1 (some .boolean)) rm_Mo_isLetter (CP g [.int p1] (wMo g mo a o now dr pa sa iS bu tq rT wT sK sA sB sE oq bS bE bL rp)) (CI0 g (wMo g mo a o now dr pa sa iS bu tq rT wT sK sA sB sE oq bS bE bL rp) (sp_Mo_isLetter p1)) 0 0 (inW (wMo g mo a o now dr pa sa iS bu tq rT wT sK sA sB sE oq bS bE bL rp)) := by
  refine Met.ofW (cc := b_Mo_isLetter) (maxL := 1) (ret := (some .boolean)) pn_Mo rfl ?_
  intro p e s m args below meth c s₁ B hml hv
  obtain ⟨rfl, C, hP, hD, hS⟩ := enter "DecadeBridgeModel" rfl B hml hv
  obtain ⟨hx, hb, hr, hml, hown, hlk, hts, hK, hZo, hZ⟩ := id C
  refine entryW (lv := [(0, .int p1)]) rfl (Nat.le_of_ble_eq_true rfl) (fun ls hl => ?_)
  obtain ⟨z, hz⟩ : ∃ z, z = sp_Mo_isLetter p1 := ⟨_, rfl⟩
  rw [← hz]
  unfold sp_Mo_isLetter at hz
  refine lv_iload_n hx hb d_Mo_isLetter_0 rfl (lv_at hl 0 rfl) ?_
  refine lv_bipush (v := 97) hx hb d_Mo_isLetter_1 (by decide) ?_
  refine lv_icmp_lt (tgt := 16) hx hb d_Mo_isLetter_3 (by decide) (fun c1 => ?_) (fun c1 => ?_)
  · have hz := hz.trans (if_pos c1)
    exact k_Mo_isLetter_16 C () trivial _ hz _ _ ls hP hD hS (lv_sub hl [] rfl)
  · have hz := hz.trans (if_neg c1)
    refine lv_iload_n hx hb d_Mo_isLetter_6 rfl (lv_at hl 0 rfl) ?_
    refine lv_bipush (v := 122) hx hb d_Mo_isLetter_7 (by decide) ?_
    refine lv_icmp_gt (tgt := 16) hx hb d_Mo_isLetter_9 (by decide) (fun c2 => ?_) (fun c2 => ?_)
    · have hz := hz.trans (if_pos c2)
      exact k_Mo_isLetter_16 C () trivial _ hz _ _ ls hP hD hS (lv_sub hl [] rfl)
    · have hz := hz.trans (if_neg c2)
      refine lv_iconst (v := 1) hx hb d_Mo_isLetter_12 (by decide) ?_
      refine lv_goto (tgt := 17) hx hb d_Mo_isLetter_13 (by decide) ?_
      exact endZ0 C hz hP hS rfl d_Mo_isLetter_17
abbrev rm_Mo_isDigit : Room := { frames := 0, cells := 0, slots := 0, locals := 0 }
def HL_Mo_isDigit_16 (p : Program) (l : Launch) (e : Env) (s : State) (m : MethodId) (args : Array Value) (below : List Frame) (meth : Method) (c : Code) (g : GX) (mo : Nat) (a : Nat → Nat) (o : IV) (now : LV) (dr : LV) (pa : LV) (sa : LV) (iS : IV) (bu : IV) (tq : IV) (rT : IV) (wT : IV) (sK : IV) (sA : IV) (sB : IV) (sE : IV) (oq : IV) (bS : IV) (bE : IV) (bL : IV) (rp : IV) (sp : Int32) (ok : Prop) : Prop := ∀ (_ : Unit), ok → ∀ z : Int32, z = sp → ∀ (H : Heap) (locs : List Loc) (ls : Array Slot), va_P g.1 vwCl (wMo g mo a o now dr pa sa iS bu tq rT wT sK sA sB sE oq bS bE bL rp) H → va_D (inW (wMo g mo a o now dr pa sa iS bu tq rT wT sK sA sB sE oq bS bE bL rp)) (wMo g mo a o now dr pa sa iS bu tq rT wT sK sA sB sE oq bS bE bL rp) → va_S (inW (wMo g mo a o now dr pa sa iS bu tq rT wT sK sA sB sE oq bS bE bL rp)) s.heap H locs → lv_has ls 1 [] → W p l e rm_Mo_isDigit s m args below meth c H locs 0 0 (MQ below (CI0 g (wMo g mo a o now dr pa sa iS bu tq rT wT sK sA sB sE oq bS bE bL rp) z) args s 0 0 (inW (wMo g mo a o now dr pa sa iS bu tq rT wT sK sA sB sE oq bS bE bL rp))) (F0 m 16 ls [])
noncomputable def sp_Mo_isDigit_16    : Int32 := (0 : Int32)
def ok_Mo_isDigit_16     : Prop := True
set_option maxRecDepth 100000 in
set_option maxHeartbeats 4000000 in
theorem k_Mo_isDigit_16 {p : Program} {l : Launch} {e : Env} {s : State} {m : MethodId} {args : Array Value} {below : List Frame} {meth : Method} {c : Code} {g : GX} {mo : Nat} {a : Nat → Nat} {o : IV} {now : LV} {dr : LV} {pa : LV} {sa : LV} {iS : IV} {bu : IV} {tq : IV} {rT : IV} {wT : IV} {sK : IV} {sA : IV} {sB : IV} {sE : IV} {oq : IV} {bS : IV} {bE : IV} {bL : IV} {rp : IV}  (C : Cx p s m args meth c (inW (wMo g mo a o now dr pa sa iS bu tq rT wT sK sA sB sE oq bS bE bL rp)) g "DecadeBridgeModel" b_Mo_isDigit (some .boolean) 1)  : HL_Mo_isDigit_16 p l e s m args below meth c g mo a o now dr pa sa iS bu tq rT wT sK sA sB sE oq bS bE bL rp (sp_Mo_isDigit_16  ) (ok_Mo_isDigit_16   ) := by
  intro _ hok z hz H locs ls hP hD hS hl
  obtain ⟨hx, hb, hr, hml, hown, hlk, hts, hK, hZo, hZ⟩ := id C
  unfold sp_Mo_isDigit_16 at hz
  refine lv_iconst (v := 0) hx hb d_Mo_isDigit_16 (by decide) ?_
  exact endZ0 C hz hP hS rfl d_Mo_isDigit_17
noncomputable def sp_Mo_isDigit (p1 : Int32) : Int32 := if p1 < (48 : Int32) then (sp_Mo_isDigit_16) else (if (57 : Int32) < p1 then (sp_Mo_isDigit_16) else ((1 : Int32)))
set_option maxRecDepth 100000 in
set_option maxHeartbeats 4000000 in
theorem c_Mo_isDigit (l : Launch) (g : GX) (mo : Nat) (a : Nat → Nat) (o : IV) (now : LV) (dr : LV) (pa : LV) (sa : LV) (iS : IV) (bu : IV) (tq : IV) (rT : IV) (wT : IV) (sK : IV) (sA : IV) (sB : IV) (sE : IV) (oq : IV) (bS : IV) (bE : IV) (bL : IV) (rp : IV) (p1 : Int32) : Met l y_Mo_isDigit (wsY y_Mo_isDigit b_Mo_isDigit 1 (some .boolean)) rm_Mo_isDigit (CP g [.int p1] (wMo g mo a o now dr pa sa iS bu tq rT wT sK sA sB sE oq bS bE bL rp)) (CI0 g (wMo g mo a o now dr pa sa iS bu tq rT wT sK sA sB sE oq bS bE bL rp) (sp_Mo_isDigit p1)) 0 0 (inW (wMo g mo a o now dr pa sa iS bu tq rT wT sK sA sB sE oq bS bE bL rp)) := by
  refine Met.ofW (cc := b_Mo_isDigit) (maxL := 1) (ret := (some .boolean)) pn_Mo rfl ?_
  intro p e s m args below meth c s₁ B hml hv
  obtain ⟨rfl, C, hP, hD, hS⟩ := enter "DecadeBridgeModel" rfl B hml hv
  obtain ⟨hx, hb, hr, hml, hown, hlk, hts, hK, hZo, hZ⟩ := id C
  refine entryW (lv := [(0, .int p1)]) rfl (Nat.le_of_ble_eq_true rfl) (fun ls hl => ?_)
  obtain ⟨z, hz⟩ : ∃ z, z = sp_Mo_isDigit p1 := ⟨_, rfl⟩
  rw [← hz]
  unfold sp_Mo_isDigit at hz
  refine lv_iload_n hx hb d_Mo_isDigit_0 rfl (lv_at hl 0 rfl) ?_
  refine lv_bipush (v := 48) hx hb d_Mo_isDigit_1 (by decide) ?_
  refine lv_icmp_lt (tgt := 16) hx hb d_Mo_isDigit_3 (by decide) (fun c1 => ?_) (fun c1 => ?_)
  · have hz := hz.trans (if_pos c1)
    exact k_Mo_isDigit_16 C () trivial _ hz _ _ ls hP hD hS (lv_sub hl [] rfl)
  · have hz := hz.trans (if_neg c1)
    refine lv_iload_n hx hb d_Mo_isDigit_6 rfl (lv_at hl 0 rfl) ?_
    refine lv_bipush (v := 57) hx hb d_Mo_isDigit_7 (by decide) ?_
    refine lv_icmp_gt (tgt := 16) hx hb d_Mo_isDigit_9 (by decide) (fun c2 => ?_) (fun c2 => ?_)
    · have hz := hz.trans (if_pos c2)
      exact k_Mo_isDigit_16 C () trivial _ hz _ _ ls hP hD hS (lv_sub hl [] rfl)
    · have hz := hz.trans (if_neg c2)
      refine lv_iconst (v := 1) hx hb d_Mo_isDigit_12 (by decide) ?_
      refine lv_goto (tgt := 17) hx hb d_Mo_isDigit_13 (by decide) ?_
      exact endZ0 C hz hP hS rfl d_Mo_isDigit_17
abbrev rm_Mo_scan : Room := { frames := 1, cells := 0, slots := 0, locals := 21 }
def HL_Mo_scan_0 (p : Program) (l : Launch) (e : Env) (s : State) (m : MethodId) (args : Array Value) (below : List Frame) (meth : Method) (c : Code) (g : GX) (mo : Nat) (a : Nat → Nat) (ws0 : va_W) (now : LV) (dr : LV) (pa : LV) (sa : LV) (iS : IV) (bu : IV) (tq : IV) (rT : IV) (wT : IV) (sK : IV) (sA : IV) (sB : IV) (sE : IV) (oq : IV) (bS : IV) (bE : IV) (bL : IV) (rp : IV) (sp : IV → IV) (ok : IV → Prop) : Prop := ∀ (op0 : IV), ok op0 → ∀ z : IV, z = sp op0 → ∀ (H : Heap) (locs : List Loc) (ls : Array Slot), va_P g.1 vwCl (wMo g mo a op0 now dr pa sa iS bu tq rT wT sK sA sB sE oq bS bE bL rp) H → va_D (inW ws0) (wMo g mo a op0 now dr pa sa iS bu tq rT wT sK sA sB sE oq bS bE bL rp) → va_S (inW ws0) s.heap H locs → lv_has ls 2 [(0, .ref mo)] → W p l e rm_Mo_scan s m args below meth c H locs 0 0 (MQ below (CV g ws0 (fun u : IV => wMo g mo a u now dr pa sa iS bu tq rT wT sK sA sB sE oq bS bE bL rp) z) args s 0 0 (inW ws0)) (F0 m 0 ls [])
def HL_Mo_scan_39 (p : Program) (l : Launch) (e : Env) (s : State) (m : MethodId) (args : Array Value) (below : List Frame) (meth : Method) (c : Code) (g : GX) (mo : Nat) (a : Nat → Nat) (ws0 : va_W) (op0 : IV) (now : LV) (dr : LV) (pa : LV) (sa : LV) (iS : IV) (bu : IV) (tq : IV) (rT : IV) (wT : IV) (sK : IV) (sA : IV) (sB : IV) (sE : IV) (oq : IV) (bS : IV) (bE : IV) (bL : IV) (rp : IV) (sp : IV) (ok : Prop) : Prop := ∀ (_ : Unit), ok → ∀ z : IV, z = sp → ∀ (H : Heap) (locs : List Loc) (ls : Array Slot), va_P g.1 vwCl (wMo g mo a op0 now dr pa sa iS bu tq rT wT sK sA sB sE oq bS bE bL rp) H → va_D (inW ws0) (wMo g mo a op0 now dr pa sa iS bu tq rT wT sK sA sB sE oq bS bE bL rp) → va_S (inW ws0) s.heap H locs → lv_has ls 2 [(0, .ref mo)] → W p l e rm_Mo_scan s m args below meth c H locs 0 0 (MQ below (CV g ws0 (fun u : IV => wMo g mo a u now dr pa sa iS bu tq rT wT sK sA sB sE oq bS bE bL rp) z) args s 0 0 (inW ws0)) (F0 m 39 ls [])
def HL_Mo_scan_89 (p : Program) (l : Launch) (e : Env) (s : State) (m : MethodId) (args : Array Value) (below : List Frame) (meth : Method) (c : Code) (g : GX) (mo : Nat) (a : Nat → Nat) (ws0 : va_W) (o_6 : IV) (now : LV) (dr : LV) (pa : LV) (sa : LV) (iS : IV) (bu : IV) (tq : IV) (rT : IV) (wT : IV) (sK : IV) (sA : IV) (sB : IV) (sE : IV) (oq : IV) (bS : IV) (bE : IV) (bL : IV) (rp : IV) (sp : Int32 → IV) (ok : Int32 → Prop) : Prop := ∀ (t1p89 : Int32), ok t1p89 → ∀ z : IV, z = sp t1p89 → ∀ (H : Heap) (locs : List Loc) (ls : Array Slot), va_P g.1 vwCl (wMo g mo a o_6 now dr pa sa iS bu tq rT wT sK sA sB sE oq bS bE bL rp) H → va_D (inW ws0) (wMo g mo a o_6 now dr pa sa iS bu tq rT wT sK sA sB sE oq bS bE bL rp) → va_S (inW ws0) s.heap H locs → lv_has ls 2 [(0, .ref mo)] → W p l e rm_Mo_scan s m args below meth c H locs 0 0 (MQ below (CV g ws0 (fun u : IV => wMo g mo a u now dr pa sa iS bu tq rT wT sK sA sB sE oq bS bE bL rp) z) args s 0 0 (inW ws0)) (F0 m 89 ls [.int t1p89, .ref mo])
def HL_Mo_scan_92 (p : Program) (l : Launch) (e : Env) (s : State) (m : MethodId) (args : Array Value) (below : List Frame) (meth : Method) (c : Code) (g : GX) (mo : Nat) (a : Nat → Nat) (ws0 : va_W) (now : LV) (dr : LV) (pa : LV) (sa : LV) (iS : IV) (bu : IV) (tq : IV) (rT : IV) (wT : IV) (sK : IV) (sA : IV) (sB : IV) (sE : IV) (oq : IV) (bS : IV) (bE : IV) (bL : IV) (rp : IV) (sp : IV → IV) (ok : IV → Prop) : Prop := ∀ (op92 : IV), ok op92 → ∀ z : IV, z = sp op92 → ∀ (H : Heap) (locs : List Loc) (ls : Array Slot), va_P g.1 vwCl (wMo g mo a op92 now dr pa sa iS bu tq rT wT sK sA sB sE oq bS bE bL rp) H → va_D (inW ws0) (wMo g mo a op92 now dr pa sa iS bu tq rT wT sK sA sB sE oq bS bE bL rp) → va_S (inW ws0) s.heap H locs → lv_has ls 2 [(0, .ref mo)] → W p l e rm_Mo_scan s m args below meth c H locs 0 0 (MQ below (CV g ws0 (fun u : IV => wMo g mo a u now dr pa sa iS bu tq rT wT sK sA sB sE oq bS bE bL rp) z) args s 0 0 (inW ws0)) (F0 m 92 ls [])
def HL_Mo_scan_127 (p : Program) (l : Launch) (e : Env) (s : State) (m : MethodId) (args : Array Value) (below : List Frame) (meth : Method) (c : Code) (g : GX) (mo : Nat) (a : Nat → Nat) (ws0 : va_W) (now : LV) (dr : LV) (pa : LV) (sa : LV) (iS : IV) (bu : IV) (tq : IV) (rT : IV) (wT : IV) (sK : IV) (sA : IV) (sB : IV) (sE : IV) (oq : IV) (bS : IV) (bE : IV) (bL : IV) (rp : IV) (sp : IV → IV) (ok : IV → Prop) : Prop := ∀ (op127 : IV), ok op127 → ∀ z : IV, z = sp op127 → ∀ (H : Heap) (locs : List Loc) (ls : Array Slot), va_P g.1 vwCl (wMo g mo a op127 now dr pa sa iS bu tq rT wT sK sA sB sE oq bS bE bL rp) H → va_D (inW ws0) (wMo g mo a op127 now dr pa sa iS bu tq rT wT sK sA sB sE oq bS bE bL rp) → va_S (inW ws0) s.heap H locs → lv_has ls 2 [(0, .ref mo)] → W p l e rm_Mo_scan s m args below meth c H locs 0 0 (MQ below (CV g ws0 (fun u : IV => wMo g mo a u now dr pa sa iS bu tq rT wT sK sA sB sE oq bS bE bL rp) z) args s 0 0 (inW ws0)) (F0 m 127 ls [])
def HL_Mo_scan_162 (p : Program) (l : Launch) (e : Env) (s : State) (m : MethodId) (args : Array Value) (below : List Frame) (meth : Method) (c : Code) (g : GX) (mo : Nat) (a : Nat → Nat) (ws0 : va_W) (op127 : IV) (now : LV) (dr : LV) (pa : LV) (sa : LV) (iS : IV) (bu : IV) (tq : IV) (rT : IV) (wT : IV) (sK : IV) (sA : IV) (sB : IV) (sE : IV) (oq : IV) (bS : IV) (bE : IV) (bL : IV) (rp : IV) (sp : IV) (ok : Prop) : Prop := ∀ (_ : Unit), ok → ∀ z : IV, z = sp → ∀ (H : Heap) (locs : List Loc) (ls : Array Slot), va_P g.1 vwCl (wMo g mo a op127 now dr pa sa iS bu tq rT wT sK sA sB sE oq bS bE bL rp) H → va_D (inW ws0) (wMo g mo a op127 now dr pa sa iS bu tq rT wT sK sA sB sE oq bS bE bL rp) → va_S (inW ws0) s.heap H locs → lv_has ls 2 [(0, .ref mo)] → W p l e rm_Mo_scan s m args below meth c H locs 0 0 (MQ below (CV g ws0 (fun u : IV => wMo g mo a u now dr pa sa iS bu tq rT wT sK sA sB sE oq bS bE bL rp) z) args s 0 0 (inW ws0)) (F0 m 162 ls [])
def HL_Mo_scan_180 (p : Program) (l : Launch) (e : Env) (s : State) (m : MethodId) (args : Array Value) (below : List Frame) (meth : Method) (c : Code) (g : GX) (mo : Nat) (a : Nat → Nat) (ws0 : va_W) (op127 : IV) (now : LV) (dr : LV) (pa : LV) (sa : LV) (iS : IV) (bu : IV) (tq : IV) (rT : IV) (wT : IV) (sK : IV) (sA : IV) (sB : IV) (sE : IV) (oq : IV) (bS : IV) (bE : IV) (bL : IV) (rp : IV) (sp : Int32 → IV) (ok : Int32 → Prop) : Prop := ∀ (t2p180 : Int32), ok t2p180 → ∀ z : IV, z = sp t2p180 → ∀ (H : Heap) (locs : List Loc) (ls : Array Slot), va_P g.1 vwCl (wMo g mo a op127 now dr pa sa iS bu tq rT wT sK sA sB sE oq bS bE bL rp) H → va_D (inW ws0) (wMo g mo a op127 now dr pa sa iS bu tq rT wT sK sA sB sE oq bS bE bL rp) → va_S (inW ws0) s.heap H locs → lv_has ls 2 [] → W p l e rm_Mo_scan s m args below meth c H locs 0 0 (MQ below (CV g ws0 (fun u : IV => wMo g mo a u now dr pa sa iS bu tq rT wT sK sA sB sE oq bS bE bL rp) z) args s 0 0 (inW ws0)) (F0 m 180 ls [.int t2p180, .int (op127 9), .ref mo])
def HL_Mo_scan_26 (p : Program) (l : Launch) (e : Env) (s : State) (m : MethodId) (args : Array Value) (below : List Frame) (meth : Method) (c : Code) (g : GX) (mo : Nat) (a : Nat → Nat) (ws0 : va_W) (op0 : IV) (now : LV) (dr : LV) (pa : LV) (sa : LV) (iS : IV) (bu : IV) (tq : IV) (rT : IV) (wT : IV) (sK : IV) (sA : IV) (sB : IV) (sE : IV) (oq : IV) (bS : IV) (bE : IV) (bL : IV) (rp : IV) (sp : IV) (ok : Prop) : Prop := ∀ (_ : Unit), ok → ∀ z : IV, z = sp → ∀ (H : Heap) (locs : List Loc) (ls : Array Slot), va_P g.1 vwCl (wMo g mo a op0 now dr pa sa iS bu tq rT wT sK sA sB sE oq bS bE bL rp) H → va_D (inW ws0) (wMo g mo a op0 now dr pa sa iS bu tq rT wT sK sA sB sE oq bS bE bL rp) → va_S (inW ws0) s.heap H locs → lv_has ls 2 [(0, .ref mo)] → W p l e rm_Mo_scan s m args below meth c H locs 0 0 (MQ below (CV g ws0 (fun u : IV => wMo g mo a u now dr pa sa iS bu tq rT wT sK sA sB sE oq bS bE bL rp) z) args s 0 0 (inW ws0)) (F0 m 26 ls [])
noncomputable def sp_Mo_scan_26 (op0 : IV) (r0 : IV → IV)  : IV := lett (upd op0 9 ((op0 9) + (1 : Int32))) fun (o_29 : IV) => r0 o_29
def ok_Mo_scan_26 (op0 : IV) (r0 : IV → IV) (q0 : IV → Prop)  : Prop := lett (upd op0 9 ((op0 9) + (1 : Int32))) fun (o_29 : IV) => q0 o_29
set_option maxRecDepth 100000 in
set_option maxHeartbeats 4000000 in
theorem k_Mo_scan_26 {p : Program} {l : Launch} {e : Env} {s : State} {m : MethodId} {args : Array Value} {below : List Frame} {meth : Method} {c : Code} {g : GX} {mo : Nat} {a : Nat → Nat} {ws0 : va_W} {op0 : IV} {now : LV} {dr : LV} {pa : LV} {sa : LV} {iS : IV} {bu : IV} {tq : IV} {rT : IV} {wT : IV} {sK : IV} {sA : IV} {sB : IV} {sE : IV} {oq : IV} {bS : IV} {bE : IV} {bL : IV} {rp : IV} {r0 : IV → IV} {q0 : IV → Prop} (C : Cx p s m args meth c (inW ws0) g "DecadeBridgeModel" b_Mo_scan none 2) (ih0 : HL_Mo_scan_0 p l e s m args below meth c g mo a ws0 now dr pa sa iS bu tq rT wT sK sA sB sE oq bS bE bL rp r0 q0) : HL_Mo_scan_26 p l e s m args below meth c g mo a ws0 op0 now dr pa sa iS bu tq rT wT sK sA sB sE oq bS bE bL rp (sp_Mo_scan_26 op0 r0) (ok_Mo_scan_26 op0 r0 q0) := by
  intro _ hok z hz H locs ls hP hD hS hl
  obtain ⟨hx, hb, hr, hml, hown, hlk, hts, hK, hZo, hZ⟩ := id C
  unfold sp_Mo_scan_26 at hz
  unfold ok_Mo_scan_26 at hok
  refine lv_aload_n hx hb d_Mo_scan_26 rfl (lv_at hl 0 rfl) ?_
  refine lv_dup hx hb d_Mo_scan_27 rfl ?_
  refine gf C hP 0 9 fkMo rfl (by decide) rfl qf_Mo_272 (gMo_9 _ _) d_Mo_scan_28 ?_
  refine lv_iconst (v := 1) hx hb d_Mo_scan_31 (by decide) ?_
  refine lv_iadd hx hb d_Mo_scan_32 ?_
  refine pfI C hP hD hS 0 9 fkMo rfl (by decide) rfl qf_Mo_272 rfl rfl rfl (Nat.le_of_ble_eq_true rfl) (ff := fun o => fMo a o) (sMo_9 _ _ _) d_Mo_scan_33 (fun o_29 eo_29 H locs hP hD hS => ?_)
  have hP : va_P g.1 vwCl (wMo g mo a o_29 now dr pa sa iS bu tq rT wT sK sA sB sE oq bS bE bL rp) H := hP
  have hD : va_D (inW ws0) (wMo g mo a o_29 now dr pa sa iS bu tq rT wT sK sA sB sE oq bS bE bL rp) := hD
  have hz := lett_z hz eo_29
  have hok := lett_o hok eo_29
  refine lv_goto (tgt := 0) hx hb d_Mo_scan_36 (by decide) ?_
  exact ih0 o_29 hok _ hz _ _ ls hP hD hS hl
noncomputable def sp_Mo_scan_180 (op127 : IV)  (t2p180 : Int32) : IV := lett (upd op127 9 ((op127 9) + t2p180)) fun (o_28 : IV) => o_28
def ok_Mo_scan_180 (op127 : IV)   (t2p180 : Int32) : Prop := True
set_option maxRecDepth 100000 in
set_option maxHeartbeats 4000000 in
theorem k_Mo_scan_180 {p : Program} {l : Launch} {e : Env} {s : State} {m : MethodId} {args : Array Value} {below : List Frame} {meth : Method} {c : Code} {g : GX} {mo : Nat} {a : Nat → Nat} {ws0 : va_W} {op127 : IV} {now : LV} {dr : LV} {pa : LV} {sa : LV} {iS : IV} {bu : IV} {tq : IV} {rT : IV} {wT : IV} {sK : IV} {sA : IV} {sB : IV} {sE : IV} {oq : IV} {bS : IV} {bE : IV} {bL : IV} {rp : IV}  (C : Cx p s m args meth c (inW ws0) g "DecadeBridgeModel" b_Mo_scan none 2)  : HL_Mo_scan_180 p l e s m args below meth c g mo a ws0 op127 now dr pa sa iS bu tq rT wT sK sA sB sE oq bS bE bL rp (sp_Mo_scan_180 op127 ) (ok_Mo_scan_180 op127  ) := by
  intro t2p180 hok z hz H locs ls hP hD hS hl
  obtain ⟨hx, hb, hr, hml, hown, hlk, hts, hK, hZo, hZ⟩ := id C
  unfold sp_Mo_scan_180 at hz
  refine lv_iadd hx hb d_Mo_scan_180 ?_
  refine pfI C hP hD hS 0 9 fkMo rfl (by decide) rfl qf_Mo_272 rfl rfl rfl (Nat.le_of_ble_eq_true rfl) (ff := fun o => fMo a o) (sMo_9 _ _ _) d_Mo_scan_181 (fun o_28 eo_28 H locs hP hD hS => ?_)
  have hP : va_P g.1 vwCl (wMo g mo a o_28 now dr pa sa iS bu tq rT wT sK sA sB sE oq bS bE bL rp) H := hP
  have hD : va_D (inW ws0) (wMo g mo a o_28 now dr pa sa iS bu tq rT wT sK sA sB sE oq bS bE bL rp) := hD
  have hz := lett_z hz eo_28
  exact endV C hz hP hS d_Mo_scan_184
noncomputable def sp_Mo_scan_162 (op127 : IV)   : IV := if (op127 11) = (3 : Int32) then (sp_Mo_scan_180 op127 (1 : Int32)) else (sp_Mo_scan_180 op127 (0 : Int32))
def ok_Mo_scan_162 (op127 : IV)    : Prop := True
set_option maxRecDepth 100000 in
set_option maxHeartbeats 4000000 in
theorem k_Mo_scan_162 {p : Program} {l : Launch} {e : Env} {s : State} {m : MethodId} {args : Array Value} {below : List Frame} {meth : Method} {c : Code} {g : GX} {mo : Nat} {a : Nat → Nat} {ws0 : va_W} {op127 : IV} {now : LV} {dr : LV} {pa : LV} {sa : LV} {iS : IV} {bu : IV} {tq : IV} {rT : IV} {wT : IV} {sK : IV} {sA : IV} {sB : IV} {sE : IV} {oq : IV} {bS : IV} {bE : IV} {bL : IV} {rp : IV}  (C : Cx p s m args meth c (inW ws0) g "DecadeBridgeModel" b_Mo_scan none 2)  : HL_Mo_scan_162 p l e s m args below meth c g mo a ws0 op127 now dr pa sa iS bu tq rT wT sK sA sB sE oq bS bE bL rp (sp_Mo_scan_162 op127 ) (ok_Mo_scan_162 op127  ) := by
  intro _ hok z hz H locs ls hP hD hS hl
  obtain ⟨hx, hb, hr, hml, hown, hlk, hts, hK, hZo, hZ⟩ := id C
  unfold sp_Mo_scan_162 at hz
  refine lv_aload_n hx hb d_Mo_scan_162 rfl (lv_at hl 0 rfl) ?_
  refine lv_dup hx hb d_Mo_scan_163 rfl ?_
  refine gf C hP 0 9 fkMo rfl (by decide) rfl qf_Mo_272 (gMo_9 _ _) d_Mo_scan_164 ?_
  refine lv_aload_n hx hb d_Mo_scan_167 rfl (lv_at hl 0 rfl) ?_
  refine gf C hP 0 11 fkMo rfl (by decide) rfl qf_Mo_288 (gMo_11 _ _) d_Mo_scan_168 ?_
  refine lv_iconst (v := 3) hx hb d_Mo_scan_171 (by decide) ?_
  refine lv_icmp_ne (tgt := 179) hx hb d_Mo_scan_172 (by decide) (fun c27 => ?_) (fun c27 => ?_)
  · have hz := hz.trans (if_neg c27)
    refine lv_iconst (v := 0) hx hb d_Mo_scan_179 (by decide) ?_
    exact k_Mo_scan_180 C (0 : Int32) trivial _ hz _ _ ls hP hD hS (lv_sub hl [] rfl)
  · have hz := hz.trans (if_pos c27)
    refine lv_iconst (v := 1) hx hb d_Mo_scan_175 (by decide) ?_
    refine lv_goto (tgt := 180) hx hb d_Mo_scan_176 (by decide) ?_
    exact k_Mo_scan_180 C (1 : Int32) trivial _ hz _ _ ls hP hD hS (lv_sub hl [] rfl)
noncomputable def bd_Mo_scan_127 (bu : IV) (r127 : IV → IV) (op127 : IV) : IV := if (op127 11) = (2 : Int32) then (lett (sp_Mo_byteAt (op127 9) op127 bu) fun (y23 : Int32) => lett (sp_Mo_isDigit y23) fun (y24 : Int32) => if y24 = 0 then (sp_Mo_scan_162 op127) else (lett (upd op127 9 ((op127 9) + (1 : Int32))) fun (o_26 : IV) => r127 o_26)) else (sp_Mo_scan_162 op127)
def okb_Mo_scan_127 (bu : IV) (r127 : IV → IV) (q127 : IV → Prop) (op127 : IV) : Prop := (((op127 11) = (2 : Int32) → (ok_Mo_byteAt (op127 9) op127) ∧ lett (sp_Mo_byteAt (op127 9) op127 bu) fun (y23 : Int32) => lett (sp_Mo_isDigit y23) fun (y24 : Int32) => ((y24 = 0 → True) ∧ (¬ (y24 = 0) → lett (upd op127 9 ((op127 9) + (1 : Int32))) fun (o_26 : IV) => q127 o_26))) ∧ (¬ ((op127 11) = (2 : Int32)) → True))
noncomputable def sp_Mo_scan_127 (bu : IV)  : Nat → IV → IV
  | 0 => fun _ => default
  | f + 1 => bd_Mo_scan_127 bu  (sp_Mo_scan_127 bu  f)
def ok_Mo_scan_127 (bu : IV)   : Nat → IV → Prop
  | 0 => fun _ => False
  | f + 1 => okb_Mo_scan_127 bu  (sp_Mo_scan_127 bu  f)  (ok_Mo_scan_127 bu   f)
set_option maxRecDepth 100000 in
set_option maxHeartbeats 4000000 in
theorem kb_Mo_scan_127 {p : Program} {l : Launch} {e : Env} {s : State} {m : MethodId} {args : Array Value} {below : List Frame} {meth : Method} {c : Code} {g : GX} {mo : Nat} {a : Nat → Nat} {ws0 : va_W} {now : LV} {dr : LV} {pa : LV} {sa : LV} {iS : IV} {bu : IV} {tq : IV} {rT : IV} {wT : IV} {sK : IV} {sA : IV} {sB : IV} {sE : IV} {oq : IV} {bS : IV} {bE : IV} {bL : IV} {rp : IV}  (C : Cx p s m args meth c (inW ws0) g "DecadeBridgeModel" b_Mo_scan none 2) {r127 : IV → IV} {q127 : IV → Prop}  (ih127 : HL_Mo_scan_127 p l e s m args below meth c g mo a ws0 now dr pa sa iS bu tq rT wT sK sA sB sE oq bS bE bL rp r127 q127) : HL_Mo_scan_127 p l e s m args below meth c g mo a ws0 now dr pa sa iS bu tq rT wT sK sA sB sE oq bS bE bL rp (bd_Mo_scan_127 bu  r127) (okb_Mo_scan_127 bu  r127  q127) := by
  intro op127 hok z hz H locs ls hP hD hS hl
  obtain ⟨hx, hb, hr, hml, hown, hlk, hts, hK, hZo, hZ⟩ := id C
  unfold bd_Mo_scan_127 at hz
  unfold okb_Mo_scan_127 at hok
  refine lv_aload_n hx hb d_Mo_scan_127 rfl (lv_at hl 0 rfl) ?_
  refine gf C hP 0 11 fkMo rfl (by decide) rfl qf_Mo_288 (gMo_11 _ _) d_Mo_scan_128 ?_
  refine lv_iconst (v := 2) hx hb d_Mo_scan_131 (by decide) ?_
  refine lv_icmp_ne (tgt := 162) hx hb d_Mo_scan_132 (by decide) (fun c21 => ?_) (fun c21 => ?_)
  · have hz := hz.trans (if_neg c21)
    exact k_Mo_scan_162 C () trivial _ hz _ _ ls hP hD hS hl
  · have hz := hz.trans (if_pos c21)
    have hok := hok.1 c21
    refine lv_aload_n hx hb d_Mo_scan_135 rfl (lv_at hl 0 rfl) ?_
    refine lv_aload_n hx hb d_Mo_scan_136 rfl (lv_at hl 0 rfl) ?_
    refine gf C hP 0 9 fkMo rfl (by decide) rfl qf_Mo_272 (gMo_9 _ _) d_Mo_scan_137 ?_
    have hs22 := hok.1
    have hok := hok.2
    have hB : SubW g (inW ws0) s (wMo g mo a op127 now dr pa sa iS bu tq rT wT sK sA sB sE oq bS bE bL rp) _ (List.range _) _ _ := (subF hP hD hS)
    refine goI0 hB (run_v C mf_Mo_byteAt qm_Mo_275 (c_Mo_byteAt l g mo a op127 now dr pa sa iS bu tq rT wT sK sA sB sE oq bS bE bL rp (op127 9) hs22) rfl rfl ⟨Nat.le_of_ble_eq_true rfl, Nat.le_of_ble_eq_true rfl⟩ ⟨Nat.le_of_ble_eq_true rfl, Nat.le_of_ble_eq_true rfl⟩ hB rfl rfl hl rfl rfl (Nat.le_of_ble_eq_true rfl) d_Mo_scan_140) (fun y23 ey23 H locs hP hS => ?_)
    have hz := lett_z hz ey23
    have hok := lett_o hok ey23
    have hB : SubW g (inW ws0) s (wMo g mo a op127 now dr pa sa iS bu tq rT wT sK sA sB sE oq bS bE bL rp) _ (List.range _) _ _ := (subF hP hD hS)
    refine goI0 hB (run_s C mf_Mo_isDigit qm_Mo_285 (c_Mo_isDigit l g mo a op127 now dr pa sa iS bu tq rT wT sK sA sB sE oq bS bE bL rp y23) rfl rfl ⟨Nat.le_of_ble_eq_true rfl, Nat.le_of_ble_eq_true rfl⟩ ⟨Nat.le_of_ble_eq_true rfl, Nat.le_of_ble_eq_true rfl⟩ hB hl rfl rfl (Nat.le_of_ble_eq_true rfl) d_Mo_scan_143) (fun y24 ey24 H locs hP hS => ?_)
    have hz := lett_z hz ey24
    have hok := lett_o hok ey24
    refine lv_if_eq (tgt := 162) hx hb d_Mo_scan_146 (by decide) (fun c25 => ?_) (fun c25 => ?_)
    · have hz := hz.trans (if_pos c25)
      exact k_Mo_scan_162 C () trivial _ hz _ _ ls hP hD hS hl
    · have hz := hz.trans (if_neg c25)
      have hok := hok.2 c25
      refine lv_aload_n hx hb d_Mo_scan_149 rfl (lv_at hl 0 rfl) ?_
      refine lv_dup hx hb d_Mo_scan_150 rfl ?_
      refine gf C hP 0 9 fkMo rfl (by decide) rfl qf_Mo_272 (gMo_9 _ _) d_Mo_scan_151 ?_
      refine lv_iconst (v := 1) hx hb d_Mo_scan_154 (by decide) ?_
      refine lv_iadd hx hb d_Mo_scan_155 ?_
      refine pfI C hP hD hS 0 9 fkMo rfl (by decide) rfl qf_Mo_272 rfl rfl rfl (Nat.le_of_ble_eq_true rfl) (ff := fun o => fMo a o) (sMo_9 _ _ _) d_Mo_scan_156 (fun o_26 eo_26 H locs hP hD hS => ?_)
      have hP : va_P g.1 vwCl (wMo g mo a o_26 now dr pa sa iS bu tq rT wT sK sA sB sE oq bS bE bL rp) H := hP
      have hD : va_D (inW ws0) (wMo g mo a o_26 now dr pa sa iS bu tq rT wT sK sA sB sE oq bS bE bL rp) := hD
      have hz := lett_z hz eo_26
      have hok := lett_o hok eo_26
      refine lv_goto (tgt := 127) hx hb d_Mo_scan_159 (by decide) ?_
      exact ih127 o_26 hok _ hz _ _ ls hP hD hS hl
theorem k_Mo_scan_127 {p : Program} {l : Launch} {e : Env} {s : State} {m : MethodId} {args : Array Value} {below : List Frame} {meth : Method} {c : Code} {g : GX} {mo : Nat} {a : Nat → Nat} {ws0 : va_W} {now : LV} {dr : LV} {pa : LV} {sa : LV} {iS : IV} {bu : IV} {tq : IV} {rT : IV} {wT : IV} {sK : IV} {sA : IV} {sB : IV} {sE : IV} {oq : IV} {bS : IV} {bE : IV} {bL : IV} {rp : IV}  (C : Cx p s m args meth c (inW ws0) g "DecadeBridgeModel" b_Mo_scan none 2) (f : Nat)  : HL_Mo_scan_127 p l e s m args below meth c g mo a ws0 now dr pa sa iS bu tq rT wT sK sA sB sE oq bS bE bL rp (sp_Mo_scan_127 bu  f) (ok_Mo_scan_127 bu   f) := by
  induction f with
  | zero => intro op127 hok; exact False.elim hok
  | succ f ih => exact kb_Mo_scan_127 C  ih
noncomputable def bd_Mo_scan_92 (bu : IV) (r92 : IV → IV) (op92 : IV) : IV := if (op92 11) = (1 : Int32) then (lett (sp_Mo_byteAt (op92 9) op92 bu) fun (y17 : Int32) => lett (sp_Mo_isLetter y17) fun (y18 : Int32) => if y18 = 0 then (sp_Mo_scan_127 bu big op92) else (lett (upd op92 9 ((op92 9) + (1 : Int32))) fun (o_20 : IV) => r92 o_20)) else (sp_Mo_scan_127 bu big op92)
def okb_Mo_scan_92 (bu : IV) (r92 : IV → IV) (q92 : IV → Prop) (op92 : IV) : Prop := (((op92 11) = (1 : Int32) → (ok_Mo_byteAt (op92 9) op92) ∧ lett (sp_Mo_byteAt (op92 9) op92 bu) fun (y17 : Int32) => lett (sp_Mo_isLetter y17) fun (y18 : Int32) => ((y18 = 0 → ok_Mo_scan_127 bu big op92) ∧ (¬ (y18 = 0) → lett (upd op92 9 ((op92 9) + (1 : Int32))) fun (o_20 : IV) => q92 o_20))) ∧ (¬ ((op92 11) = (1 : Int32)) → ok_Mo_scan_127 bu big op92))
noncomputable def sp_Mo_scan_92 (bu : IV)  : Nat → IV → IV
  | 0 => fun _ => default
  | f + 1 => bd_Mo_scan_92 bu  (sp_Mo_scan_92 bu  f)
def ok_Mo_scan_92 (bu : IV)   : Nat → IV → Prop
  | 0 => fun _ => False
  | f + 1 => okb_Mo_scan_92 bu  (sp_Mo_scan_92 bu  f)  (ok_Mo_scan_92 bu   f)
set_option maxRecDepth 100000 in
set_option maxHeartbeats 4000000 in
theorem kb_Mo_scan_92 {p : Program} {l : Launch} {e : Env} {s : State} {m : MethodId} {args : Array Value} {below : List Frame} {meth : Method} {c : Code} {g : GX} {mo : Nat} {a : Nat → Nat} {ws0 : va_W} {now : LV} {dr : LV} {pa : LV} {sa : LV} {iS : IV} {bu : IV} {tq : IV} {rT : IV} {wT : IV} {sK : IV} {sA : IV} {sB : IV} {sE : IV} {oq : IV} {bS : IV} {bE : IV} {bL : IV} {rp : IV}  (C : Cx p s m args meth c (inW ws0) g "DecadeBridgeModel" b_Mo_scan none 2) {r92 : IV → IV} {q92 : IV → Prop}  (ih92 : HL_Mo_scan_92 p l e s m args below meth c g mo a ws0 now dr pa sa iS bu tq rT wT sK sA sB sE oq bS bE bL rp r92 q92) : HL_Mo_scan_92 p l e s m args below meth c g mo a ws0 now dr pa sa iS bu tq rT wT sK sA sB sE oq bS bE bL rp (bd_Mo_scan_92 bu  r92) (okb_Mo_scan_92 bu  r92  q92) := by
  intro op92 hok z hz H locs ls hP hD hS hl
  obtain ⟨hx, hb, hr, hml, hown, hlk, hts, hK, hZo, hZ⟩ := id C
  unfold bd_Mo_scan_92 at hz
  unfold okb_Mo_scan_92 at hok
  refine lv_aload_n hx hb d_Mo_scan_92 rfl (lv_at hl 0 rfl) ?_
  refine gf C hP 0 11 fkMo rfl (by decide) rfl qf_Mo_288 (gMo_11 _ _) d_Mo_scan_93 ?_
  refine lv_iconst (v := 1) hx hb d_Mo_scan_96 (by decide) ?_
  refine lv_icmp_ne (tgt := 127) hx hb d_Mo_scan_97 (by decide) (fun c15 => ?_) (fun c15 => ?_)
  · have hz := hz.trans (if_neg c15)
    have hok := hok.2 c15
    exact k_Mo_scan_127 C big op92 hok _ hz _ _ ls hP hD hS hl
  · have hz := hz.trans (if_pos c15)
    have hok := hok.1 c15
    refine lv_aload_n hx hb d_Mo_scan_100 rfl (lv_at hl 0 rfl) ?_
    refine lv_aload_n hx hb d_Mo_scan_101 rfl (lv_at hl 0 rfl) ?_
    refine gf C hP 0 9 fkMo rfl (by decide) rfl qf_Mo_272 (gMo_9 _ _) d_Mo_scan_102 ?_
    have hs16 := hok.1
    have hok := hok.2
    have hB : SubW g (inW ws0) s (wMo g mo a op92 now dr pa sa iS bu tq rT wT sK sA sB sE oq bS bE bL rp) _ (List.range _) _ _ := (subF hP hD hS)
    refine goI0 hB (run_v C mf_Mo_byteAt qm_Mo_275 (c_Mo_byteAt l g mo a op92 now dr pa sa iS bu tq rT wT sK sA sB sE oq bS bE bL rp (op92 9) hs16) rfl rfl ⟨Nat.le_of_ble_eq_true rfl, Nat.le_of_ble_eq_true rfl⟩ ⟨Nat.le_of_ble_eq_true rfl, Nat.le_of_ble_eq_true rfl⟩ hB rfl rfl hl rfl rfl (Nat.le_of_ble_eq_true rfl) d_Mo_scan_105) (fun y17 ey17 H locs hP hS => ?_)
    have hz := lett_z hz ey17
    have hok := lett_o hok ey17
    have hB : SubW g (inW ws0) s (wMo g mo a op92 now dr pa sa iS bu tq rT wT sK sA sB sE oq bS bE bL rp) _ (List.range _) _ _ := (subF hP hD hS)
    refine goI0 hB (run_s C mf_Mo_isLetter qm_Mo_281 (c_Mo_isLetter l g mo a op92 now dr pa sa iS bu tq rT wT sK sA sB sE oq bS bE bL rp y17) rfl rfl ⟨Nat.le_of_ble_eq_true rfl, Nat.le_of_ble_eq_true rfl⟩ ⟨Nat.le_of_ble_eq_true rfl, Nat.le_of_ble_eq_true rfl⟩ hB hl rfl rfl (Nat.le_of_ble_eq_true rfl) d_Mo_scan_108) (fun y18 ey18 H locs hP hS => ?_)
    have hz := lett_z hz ey18
    have hok := lett_o hok ey18
    refine lv_if_eq (tgt := 127) hx hb d_Mo_scan_111 (by decide) (fun c19 => ?_) (fun c19 => ?_)
    · have hz := hz.trans (if_pos c19)
      have hok := hok.1 c19
      exact k_Mo_scan_127 C big op92 hok _ hz _ _ ls hP hD hS hl
    · have hz := hz.trans (if_neg c19)
      have hok := hok.2 c19
      refine lv_aload_n hx hb d_Mo_scan_114 rfl (lv_at hl 0 rfl) ?_
      refine lv_dup hx hb d_Mo_scan_115 rfl ?_
      refine gf C hP 0 9 fkMo rfl (by decide) rfl qf_Mo_272 (gMo_9 _ _) d_Mo_scan_116 ?_
      refine lv_iconst (v := 1) hx hb d_Mo_scan_119 (by decide) ?_
      refine lv_iadd hx hb d_Mo_scan_120 ?_
      refine pfI C hP hD hS 0 9 fkMo rfl (by decide) rfl qf_Mo_272 rfl rfl rfl (Nat.le_of_ble_eq_true rfl) (ff := fun o => fMo a o) (sMo_9 _ _ _) d_Mo_scan_121 (fun o_20 eo_20 H locs hP hD hS => ?_)
      have hP : va_P g.1 vwCl (wMo g mo a o_20 now dr pa sa iS bu tq rT wT sK sA sB sE oq bS bE bL rp) H := hP
      have hD : va_D (inW ws0) (wMo g mo a o_20 now dr pa sa iS bu tq rT wT sK sA sB sE oq bS bE bL rp) := hD
      have hz := lett_z hz eo_20
      have hok := lett_o hok eo_20
      refine lv_goto (tgt := 92) hx hb d_Mo_scan_124 (by decide) ?_
      exact ih92 o_20 hok _ hz _ _ ls hP hD hS hl
theorem k_Mo_scan_92 {p : Program} {l : Launch} {e : Env} {s : State} {m : MethodId} {args : Array Value} {below : List Frame} {meth : Method} {c : Code} {g : GX} {mo : Nat} {a : Nat → Nat} {ws0 : va_W} {now : LV} {dr : LV} {pa : LV} {sa : LV} {iS : IV} {bu : IV} {tq : IV} {rT : IV} {wT : IV} {sK : IV} {sA : IV} {sB : IV} {sE : IV} {oq : IV} {bS : IV} {bE : IV} {bL : IV} {rp : IV}  (C : Cx p s m args meth c (inW ws0) g "DecadeBridgeModel" b_Mo_scan none 2) (f : Nat)  : HL_Mo_scan_92 p l e s m args below meth c g mo a ws0 now dr pa sa iS bu tq rT wT sK sA sB sE oq bS bE bL rp (sp_Mo_scan_92 bu  f) (ok_Mo_scan_92 bu   f) := by
  induction f with
  | zero => intro op92 hok; exact False.elim hok
  | succ f ih => exact kb_Mo_scan_92 C  ih
noncomputable def sp_Mo_scan_89 (o_6 : IV) (bu : IV)  (t1p89 : Int32) : IV := lett (upd o_6 11 t1p89) fun (o_14 : IV) => sp_Mo_scan_92 bu big o_14
def ok_Mo_scan_89 (o_6 : IV) (bu : IV)   (t1p89 : Int32) : Prop := lett (upd o_6 11 t1p89) fun (o_14 : IV) => ok_Mo_scan_92 bu big o_14
set_option maxRecDepth 100000 in
set_option maxHeartbeats 4000000 in
theorem k_Mo_scan_89 {p : Program} {l : Launch} {e : Env} {s : State} {m : MethodId} {args : Array Value} {below : List Frame} {meth : Method} {c : Code} {g : GX} {mo : Nat} {a : Nat → Nat} {ws0 : va_W} {o_6 : IV} {now : LV} {dr : LV} {pa : LV} {sa : LV} {iS : IV} {bu : IV} {tq : IV} {rT : IV} {wT : IV} {sK : IV} {sA : IV} {sB : IV} {sE : IV} {oq : IV} {bS : IV} {bE : IV} {bL : IV} {rp : IV}  (C : Cx p s m args meth c (inW ws0) g "DecadeBridgeModel" b_Mo_scan none 2)  : HL_Mo_scan_89 p l e s m args below meth c g mo a ws0 o_6 now dr pa sa iS bu tq rT wT sK sA sB sE oq bS bE bL rp (sp_Mo_scan_89 o_6 bu ) (ok_Mo_scan_89 o_6 bu  ) := by
  intro t1p89 hok z hz H locs ls hP hD hS hl
  obtain ⟨hx, hb, hr, hml, hown, hlk, hts, hK, hZo, hZ⟩ := id C
  unfold sp_Mo_scan_89 at hz
  unfold ok_Mo_scan_89 at hok
  refine pfI C hP hD hS 0 11 fkMo rfl (by decide) rfl qf_Mo_288 rfl rfl rfl (Nat.le_of_ble_eq_true rfl) (ff := fun o => fMo a o) (sMo_11 _ _ _) d_Mo_scan_89 (fun o_14 eo_14 H locs hP hD hS => ?_)
  have hP : va_P g.1 vwCl (wMo g mo a o_14 now dr pa sa iS bu tq rT wT sK sA sB sE oq bS bE bL rp) H := hP
  have hD : va_D (inW ws0) (wMo g mo a o_14 now dr pa sa iS bu tq rT wT sK sA sB sE oq bS bE bL rp) := hD
  have hz := lett_z hz eo_14
  have hok := lett_o hok eo_14
  exact k_Mo_scan_92 C big o_14 hok _ hz _ _ ls hP hD hS hl
noncomputable def sp_Mo_scan_39 (op0 : IV) (bu : IV)   : IV := lett (upd op0 10 (op0 9)) fun (o_6 : IV) => lett (sp_Mo_byteAt (o_6 10) o_6 bu) fun (y8 : Int32) => if y8 = (-1 : Int32) then (sp_Mo_scan_89 o_6 bu (0 : Int32)) else (lett (sp_Mo_isLetter y8) fun (y10 : Int32) => if y10 = 0 then (lett (sp_Mo_isDigit y8) fun (y12 : Int32) => if y12 = 0 then (sp_Mo_scan_89 o_6 bu (3 : Int32)) else (sp_Mo_scan_89 o_6 bu (2 : Int32))) else (sp_Mo_scan_89 o_6 bu (1 : Int32)))
def ok_Mo_scan_39 (op0 : IV) (bu : IV)    : Prop := lett (upd op0 10 (op0 9)) fun (o_6 : IV) => (ok_Mo_byteAt (o_6 10) o_6) ∧ lett (sp_Mo_byteAt (o_6 10) o_6 bu) fun (y8 : Int32) => ((y8 = (-1 : Int32) → ok_Mo_scan_89 o_6 bu (0 : Int32)) ∧ (¬ (y8 = (-1 : Int32)) → lett (sp_Mo_isLetter y8) fun (y10 : Int32) => ((y10 = 0 → lett (sp_Mo_isDigit y8) fun (y12 : Int32) => ((y12 = 0 → ok_Mo_scan_89 o_6 bu (3 : Int32)) ∧ (¬ (y12 = 0) → ok_Mo_scan_89 o_6 bu (2 : Int32)))) ∧ (¬ (y10 = 0) → ok_Mo_scan_89 o_6 bu (1 : Int32)))))
set_option maxRecDepth 100000 in
set_option maxHeartbeats 4000000 in
theorem k_Mo_scan_39 {p : Program} {l : Launch} {e : Env} {s : State} {m : MethodId} {args : Array Value} {below : List Frame} {meth : Method} {c : Code} {g : GX} {mo : Nat} {a : Nat → Nat} {ws0 : va_W} {op0 : IV} {now : LV} {dr : LV} {pa : LV} {sa : LV} {iS : IV} {bu : IV} {tq : IV} {rT : IV} {wT : IV} {sK : IV} {sA : IV} {sB : IV} {sE : IV} {oq : IV} {bS : IV} {bE : IV} {bL : IV} {rp : IV}  (C : Cx p s m args meth c (inW ws0) g "DecadeBridgeModel" b_Mo_scan none 2)  : HL_Mo_scan_39 p l e s m args below meth c g mo a ws0 op0 now dr pa sa iS bu tq rT wT sK sA sB sE oq bS bE bL rp (sp_Mo_scan_39 op0 bu ) (ok_Mo_scan_39 op0 bu  ) := by
  intro _ hok z hz H locs ls hP hD hS hl
  obtain ⟨hx, hb, hr, hml, hown, hlk, hts, hK, hZo, hZ⟩ := id C
  unfold sp_Mo_scan_39 at hz
  unfold ok_Mo_scan_39 at hok
  refine lv_aload_n hx hb d_Mo_scan_39 rfl (lv_at hl 0 rfl) ?_
  refine lv_aload_n hx hb d_Mo_scan_40 rfl (lv_at hl 0 rfl) ?_
  refine gf C hP 0 9 fkMo rfl (by decide) rfl qf_Mo_272 (gMo_9 _ _) d_Mo_scan_41 ?_
  refine pfI C hP hD hS 0 10 fkMo rfl (by decide) rfl qf_Mo_278 rfl rfl rfl (Nat.le_of_ble_eq_true rfl) (ff := fun o => fMo a o) (sMo_10 _ _ _) d_Mo_scan_44 (fun o_6 eo_6 H locs hP hD hS => ?_)
  have hP : va_P g.1 vwCl (wMo g mo a o_6 now dr pa sa iS bu tq rT wT sK sA sB sE oq bS bE bL rp) H := hP
  have hD : va_D (inW ws0) (wMo g mo a o_6 now dr pa sa iS bu tq rT wT sK sA sB sE oq bS bE bL rp) := hD
  have hz := lett_z hz eo_6
  have hok := lett_o hok eo_6
  refine lv_aload_n hx hb d_Mo_scan_47 rfl (lv_at hl 0 rfl) ?_
  refine lv_aload_n hx hb d_Mo_scan_48 rfl (lv_at hl 0 rfl) ?_
  refine gf C hP 0 10 fkMo rfl (by decide) rfl qf_Mo_278 (gMo_10 _ _) d_Mo_scan_49 ?_
  have hs7 := hok.1
  have hok := hok.2
  have hB : SubW g (inW ws0) s (wMo g mo a o_6 now dr pa sa iS bu tq rT wT sK sA sB sE oq bS bE bL rp) _ (List.range _) _ _ := (subF hP hD hS)
  refine goI0 hB (run_v C mf_Mo_byteAt qm_Mo_275 (c_Mo_byteAt l g mo a o_6 now dr pa sa iS bu tq rT wT sK sA sB sE oq bS bE bL rp (o_6 10) hs7) rfl rfl ⟨Nat.le_of_ble_eq_true rfl, Nat.le_of_ble_eq_true rfl⟩ ⟨Nat.le_of_ble_eq_true rfl, Nat.le_of_ble_eq_true rfl⟩ hB rfl rfl hl rfl rfl (Nat.le_of_ble_eq_true rfl) d_Mo_scan_52) (fun y8 ey8 H locs hP hS => ?_)
  have hz := lett_z hz ey8
  have hok := lett_o hok ey8
  refine lv_istore_n (lv' := [(1, .int y8), (0, .ref mo)]) hx hb d_Mo_scan_55 rfl hl (by decide) rfl (fun ls hl => ?_)
  refine lv_aload_n hx hb d_Mo_scan_56 rfl (lv_at hl 1 rfl) ?_
  refine lv_iload_n hx hb d_Mo_scan_57 rfl (lv_at hl 0 rfl) ?_
  refine lv_iconst (v := -1) hx hb d_Mo_scan_58 (by decide) ?_
  refine lv_icmp_ne (tgt := 66) hx hb d_Mo_scan_59 (by decide) (fun c9 => ?_) (fun c9 => ?_)
  · have hz := hz.trans (if_neg c9)
    have hok := hok.2 c9
    refine lv_iload_n hx hb d_Mo_scan_66 rfl (lv_at hl 0 rfl) ?_
    have hB : SubW g (inW ws0) s (wMo g mo a o_6 now dr pa sa iS bu tq rT wT sK sA sB sE oq bS bE bL rp) _ (List.range _) _ _ := (subF hP hD hS)
    refine goI0 hB (run_s C mf_Mo_isLetter qm_Mo_281 (c_Mo_isLetter l g mo a o_6 now dr pa sa iS bu tq rT wT sK sA sB sE oq bS bE bL rp y8) rfl rfl ⟨Nat.le_of_ble_eq_true rfl, Nat.le_of_ble_eq_true rfl⟩ ⟨Nat.le_of_ble_eq_true rfl, Nat.le_of_ble_eq_true rfl⟩ hB hl rfl rfl (Nat.le_of_ble_eq_true rfl) d_Mo_scan_67) (fun y10 ey10 H locs hP hS => ?_)
    have hz := lett_z hz ey10
    have hok := lett_o hok ey10
    refine lv_if_eq (tgt := 77) hx hb d_Mo_scan_70 (by decide) (fun c11 => ?_) (fun c11 => ?_)
    · have hz := hz.trans (if_pos c11)
      have hok := hok.1 c11
      refine lv_iload_n hx hb d_Mo_scan_77 rfl (lv_at hl 0 rfl) ?_
      have hB : SubW g (inW ws0) s (wMo g mo a o_6 now dr pa sa iS bu tq rT wT sK sA sB sE oq bS bE bL rp) _ (List.range _) _ _ := (subF hP hD hS)
      refine goI0 hB (run_s C mf_Mo_isDigit qm_Mo_285 (c_Mo_isDigit l g mo a o_6 now dr pa sa iS bu tq rT wT sK sA sB sE oq bS bE bL rp y8) rfl rfl ⟨Nat.le_of_ble_eq_true rfl, Nat.le_of_ble_eq_true rfl⟩ ⟨Nat.le_of_ble_eq_true rfl, Nat.le_of_ble_eq_true rfl⟩ hB hl rfl rfl (Nat.le_of_ble_eq_true rfl) d_Mo_scan_78) (fun y12 ey12 H locs hP hS => ?_)
      have hz := lett_z hz ey12
      have hok := lett_o hok ey12
      refine lv_if_eq (tgt := 88) hx hb d_Mo_scan_81 (by decide) (fun c13 => ?_) (fun c13 => ?_)
      · have hz := hz.trans (if_pos c13)
        have hok := hok.1 c13
        refine lv_iconst (v := 3) hx hb d_Mo_scan_88 (by decide) ?_
        exact k_Mo_scan_89 C (3 : Int32) hok _ hz _ _ ls hP hD hS (lv_sub hl [1] rfl)
      · have hz := hz.trans (if_neg c13)
        have hok := hok.2 c13
        refine lv_iconst (v := 2) hx hb d_Mo_scan_84 (by decide) ?_
        refine lv_goto (tgt := 89) hx hb d_Mo_scan_85 (by decide) ?_
        exact k_Mo_scan_89 C (2 : Int32) hok _ hz _ _ ls hP hD hS (lv_sub hl [1] rfl)
    · have hz := hz.trans (if_neg c11)
      have hok := hok.2 c11
      refine lv_iconst (v := 1) hx hb d_Mo_scan_73 (by decide) ?_
      refine lv_goto (tgt := 89) hx hb d_Mo_scan_74 (by decide) ?_
      exact k_Mo_scan_89 C (1 : Int32) hok _ hz _ _ ls hP hD hS (lv_sub hl [1] rfl)
  · have hz := hz.trans (if_pos c9)
    have hok := hok.1 c9
    refine lv_iconst (v := 0) hx hb d_Mo_scan_62 (by decide) ?_
    refine lv_goto (tgt := 89) hx hb d_Mo_scan_63 (by decide) ?_
    exact k_Mo_scan_89 C (0 : Int32) hok _ hz _ _ ls hP hD hS (lv_sub hl [1] rfl)
noncomputable def bd_Mo_scan_0 (bu : IV) (r0 : IV → IV) (op0 : IV) : IV := lett (sp_Mo_byteAt (op0 9) op0 bu) fun (y2 : Int32) => if y2 = (32 : Int32) then (sp_Mo_scan_26 op0 r0) else (lett (sp_Mo_byteAt (op0 9) op0 bu) fun (y4 : Int32) => if y4 = (10 : Int32) then (sp_Mo_scan_26 op0 r0) else (sp_Mo_scan_39 op0 bu))
def okb_Mo_scan_0 (bu : IV) (r0 : IV → IV) (q0 : IV → Prop) (op0 : IV) : Prop := (ok_Mo_byteAt (op0 9) op0) ∧ lett (sp_Mo_byteAt (op0 9) op0 bu) fun (y2 : Int32) => ((y2 = (32 : Int32) → ok_Mo_scan_26 op0 r0 q0) ∧ (¬ (y2 = (32 : Int32)) → lett (sp_Mo_byteAt (op0 9) op0 bu) fun (y4 : Int32) => ((y4 = (10 : Int32) → ok_Mo_scan_26 op0 r0 q0) ∧ (¬ (y4 = (10 : Int32)) → ok_Mo_scan_39 op0 bu))))
noncomputable def sp_Mo_scan_0 (bu : IV)  : Nat → IV → IV
  | 0 => fun _ => default
  | f + 1 => bd_Mo_scan_0 bu  (sp_Mo_scan_0 bu  f)
def ok_Mo_scan_0 (bu : IV)   : Nat → IV → Prop
  | 0 => fun _ => False
  | f + 1 => okb_Mo_scan_0 bu  (sp_Mo_scan_0 bu  f)  (ok_Mo_scan_0 bu   f)
set_option maxRecDepth 100000 in
set_option maxHeartbeats 4000000 in
theorem kb_Mo_scan_0 {p : Program} {l : Launch} {e : Env} {s : State} {m : MethodId} {args : Array Value} {below : List Frame} {meth : Method} {c : Code} {g : GX} {mo : Nat} {a : Nat → Nat} {ws0 : va_W} {now : LV} {dr : LV} {pa : LV} {sa : LV} {iS : IV} {bu : IV} {tq : IV} {rT : IV} {wT : IV} {sK : IV} {sA : IV} {sB : IV} {sE : IV} {oq : IV} {bS : IV} {bE : IV} {bL : IV} {rp : IV}  (C : Cx p s m args meth c (inW ws0) g "DecadeBridgeModel" b_Mo_scan none 2) {r0 : IV → IV} {q0 : IV → Prop}  (ih0 : HL_Mo_scan_0 p l e s m args below meth c g mo a ws0 now dr pa sa iS bu tq rT wT sK sA sB sE oq bS bE bL rp r0 q0) : HL_Mo_scan_0 p l e s m args below meth c g mo a ws0 now dr pa sa iS bu tq rT wT sK sA sB sE oq bS bE bL rp (bd_Mo_scan_0 bu  r0) (okb_Mo_scan_0 bu  r0  q0) := by
  intro op0 hok z hz H locs ls hP hD hS hl
  obtain ⟨hx, hb, hr, hml, hown, hlk, hts, hK, hZo, hZ⟩ := id C
  unfold bd_Mo_scan_0 at hz
  unfold okb_Mo_scan_0 at hok
  refine lv_aload_n hx hb d_Mo_scan_0 rfl (lv_at hl 0 rfl) ?_
  refine lv_aload_n hx hb d_Mo_scan_1 rfl (lv_at hl 0 rfl) ?_
  refine gf C hP 0 9 fkMo rfl (by decide) rfl qf_Mo_272 (gMo_9 _ _) d_Mo_scan_2 ?_
  have hs1 := hok.1
  have hok := hok.2
  have hB : SubW g (inW ws0) s (wMo g mo a op0 now dr pa sa iS bu tq rT wT sK sA sB sE oq bS bE bL rp) _ (List.range _) _ _ := (subF hP hD hS)
  refine goI0 hB (run_v C mf_Mo_byteAt qm_Mo_275 (c_Mo_byteAt l g mo a op0 now dr pa sa iS bu tq rT wT sK sA sB sE oq bS bE bL rp (op0 9) hs1) rfl rfl ⟨Nat.le_of_ble_eq_true rfl, Nat.le_of_ble_eq_true rfl⟩ ⟨Nat.le_of_ble_eq_true rfl, Nat.le_of_ble_eq_true rfl⟩ hB rfl rfl hl rfl rfl (Nat.le_of_ble_eq_true rfl) d_Mo_scan_5) (fun y2 ey2 H locs hP hS => ?_)
  have hz := lett_z hz ey2
  have hok := lett_o hok ey2
  refine lv_bipush (v := 32) hx hb d_Mo_scan_8 (by decide) ?_
  refine lv_icmp_eq (tgt := 26) hx hb d_Mo_scan_10 (by decide) (fun c3 => ?_) (fun c3 => ?_)
  · have hz := hz.trans (if_pos c3)
    have hok := hok.1 c3
    exact k_Mo_scan_26 C ih0 () hok _ hz _ _ ls hP hD hS hl
  · have hz := hz.trans (if_neg c3)
    have hok := hok.2 c3
    refine lv_aload_n hx hb d_Mo_scan_13 rfl (lv_at hl 0 rfl) ?_
    refine lv_aload_n hx hb d_Mo_scan_14 rfl (lv_at hl 0 rfl) ?_
    refine gf C hP 0 9 fkMo rfl (by decide) rfl qf_Mo_272 (gMo_9 _ _) d_Mo_scan_15 ?_
    have hB : SubW g (inW ws0) s (wMo g mo a op0 now dr pa sa iS bu tq rT wT sK sA sB sE oq bS bE bL rp) _ (List.range _) _ _ := (subF hP hD hS)
    refine goI0 hB (run_v C mf_Mo_byteAt qm_Mo_275 (c_Mo_byteAt l g mo a op0 now dr pa sa iS bu tq rT wT sK sA sB sE oq bS bE bL rp (op0 9) hs1) rfl rfl ⟨Nat.le_of_ble_eq_true rfl, Nat.le_of_ble_eq_true rfl⟩ ⟨Nat.le_of_ble_eq_true rfl, Nat.le_of_ble_eq_true rfl⟩ hB rfl rfl hl rfl rfl (Nat.le_of_ble_eq_true rfl) d_Mo_scan_18) (fun y4 ey4 H locs hP hS => ?_)
    have hz := lett_z hz ey4
    have hok := lett_o hok ey4
    refine lv_bipush (v := 10) hx hb d_Mo_scan_21 (by decide) ?_
    refine lv_icmp_ne (tgt := 39) hx hb d_Mo_scan_23 (by decide) (fun c5 => ?_) (fun c5 => ?_)
    · have hz := hz.trans (if_neg c5)
      have hok := hok.2 c5
      exact k_Mo_scan_39 C () hok _ hz _ _ ls hP hD hS hl
    · have hz := hz.trans (if_pos c5)
      have hok := hok.1 c5
      exact k_Mo_scan_26 C ih0 () hok _ hz _ _ ls hP hD hS hl
theorem k_Mo_scan_0 {p : Program} {l : Launch} {e : Env} {s : State} {m : MethodId} {args : Array Value} {below : List Frame} {meth : Method} {c : Code} {g : GX} {mo : Nat} {a : Nat → Nat} {ws0 : va_W} {now : LV} {dr : LV} {pa : LV} {sa : LV} {iS : IV} {bu : IV} {tq : IV} {rT : IV} {wT : IV} {sK : IV} {sA : IV} {sB : IV} {sE : IV} {oq : IV} {bS : IV} {bE : IV} {bL : IV} {rp : IV}  (C : Cx p s m args meth c (inW ws0) g "DecadeBridgeModel" b_Mo_scan none 2) (f : Nat)  : HL_Mo_scan_0 p l e s m args below meth c g mo a ws0 now dr pa sa iS bu tq rT wT sK sA sB sE oq bS bE bL rp (sp_Mo_scan_0 bu  f) (ok_Mo_scan_0 bu   f) := by
  induction f with
  | zero => intro op0 hok; exact False.elim hok
  | succ f ih => exact kb_Mo_scan_0 C  ih
noncomputable def sp_Mo_scan (o : IV) (bu : IV) : IV := sp_Mo_scan_0 bu big o
def ok_Mo_scan (o : IV) (bu : IV) : Prop := ok_Mo_scan_0 bu big o
set_option maxRecDepth 100000 in
set_option maxHeartbeats 4000000 in
theorem c_Mo_scan (l : Launch) (g : GX) (mo : Nat) (a : Nat → Nat) (o : IV) (now : LV) (dr : LV) (pa : LV) (sa : LV) (iS : IV) (bu : IV) (tq : IV) (rT : IV) (wT : IV) (sK : IV) (sA : IV) (sB : IV) (sE : IV) (oq : IV) (bS : IV) (bE : IV) (bL : IV) (rp : IV)  (hok : ok_Mo_scan o bu) : Met l y_Mo_scan (wsY y_Mo_scan b_Mo_scan 2 none) rm_Mo_scan (CP g [.ref mo] (wMo g mo a o now dr pa sa iS bu tq rT wT sK sA sB sE oq bS bE bL rp)) (CV g (wMo g mo a o now dr pa sa iS bu tq rT wT sK sA sB sE oq bS bE bL rp) (fun u : IV => wMo g mo a u now dr pa sa iS bu tq rT wT sK sA sB sE oq bS bE bL rp) (sp_Mo_scan o bu)) 0 0 (inW (wMo g mo a o now dr pa sa iS bu tq rT wT sK sA sB sE oq bS bE bL rp)) := by
  refine Met.ofW (cc := b_Mo_scan) (maxL := 2) (ret := none) pn_Mo rfl ?_
  intro p e s m args below meth c s₁ B hml hv
  obtain ⟨rfl, C, hP, hD, hS⟩ := enter "DecadeBridgeModel" rfl B hml hv
  obtain ⟨hx, hb, hr, hml, hown, hlk, hts, hK, hZo, hZ⟩ := id C
  refine entryW (lv := [(0, .ref mo)]) rfl (Nat.le_of_ble_eq_true rfl) (fun ls hl => ?_)
  obtain ⟨z, hz⟩ : ∃ z, z = sp_Mo_scan o bu := ⟨_, rfl⟩
  rw [← hz]
  unfold sp_Mo_scan at hz
  unfold ok_Mo_scan at hok
  exact k_Mo_scan_0 C big o hok _ hz _ _ ls hP hD hS hl
abbrev rm_Mo_startText : Room := { frames := 2, cells := 0, slots := 0, locals := 42 }
noncomputable def sp_Mo_startText (o : IV) (bu : IV) : IV := lett (upd o 12 (0 : Int32)) fun (o_1 : IV) => lett (upd o_1 13 (-1 : Int32)) fun (o_2 : IV) => lett (upd o_2 9 (0 : Int32)) fun (o_3 : IV) => lett (sp_Mo_scan o_3 bu) fun (y5 : IV) => y5
def ok_Mo_startText (o : IV) (bu : IV) : Prop := lett (upd o 12 (0 : Int32)) fun (o_1 : IV) => lett (upd o_1 13 (-1 : Int32)) fun (o_2 : IV) => lett (upd o_2 9 (0 : Int32)) fun (o_3 : IV) => (ok_Mo_scan o_3 bu) ∧ True
set_option maxRecDepth 100000 in
set_option maxHeartbeats 4000000 in
theorem c_Mo_startText (l : Launch) (g : GX) (mo : Nat) (a : Nat → Nat) (o : IV) (now : LV) (dr : LV) (pa : LV) (sa : LV) (iS : IV) (bu : IV) (tq : IV) (rT : IV) (wT : IV) (sK : IV) (sA : IV) (sB : IV) (sE : IV) (oq : IV) (bS : IV) (bE : IV) (bL : IV) (rp : IV)  (hok : ok_Mo_startText o bu) : Met l y_Mo_startText (wsY y_Mo_startText b_Mo_startText 1 none) rm_Mo_startText (CP g [.ref mo] (wMo g mo a o now dr pa sa iS bu tq rT wT sK sA sB sE oq bS bE bL rp)) (CV g (wMo g mo a o now dr pa sa iS bu tq rT wT sK sA sB sE oq bS bE bL rp) (fun u : IV => wMo g mo a u now dr pa sa iS bu tq rT wT sK sA sB sE oq bS bE bL rp) (sp_Mo_startText o bu)) 0 0 (inW (wMo g mo a o now dr pa sa iS bu tq rT wT sK sA sB sE oq bS bE bL rp)) := by
  refine Met.ofW (cc := b_Mo_startText) (maxL := 1) (ret := none) pn_Mo rfl ?_
  intro p e s m args below meth c s₁ B hml hv
  obtain ⟨rfl, C, hP, hD, hS⟩ := enter "DecadeBridgeModel" rfl B hml hv
  obtain ⟨hx, hb, hr, hml, hown, hlk, hts, hK, hZo, hZ⟩ := id C
  refine entryW (lv := [(0, .ref mo)]) rfl (Nat.le_of_ble_eq_true rfl) (fun ls hl => ?_)
  obtain ⟨z, hz⟩ : ∃ z, z = sp_Mo_startText o bu := ⟨_, rfl⟩
  rw [← hz]
  unfold sp_Mo_startText at hz
  unfold ok_Mo_startText at hok
  refine lv_aload_n hx hb d_Mo_startText_0 rfl (lv_at hl 0 rfl) ?_
  refine lv_iconst (v := 0) hx hb d_Mo_startText_1 (by decide) ?_
  refine pfI C hP hD hS 0 12 fkMo rfl (by decide) rfl qf_Mo_291 rfl rfl rfl (Nat.le_of_ble_eq_true rfl) (ff := fun o => fMo a o) (sMo_12 _ _ _) d_Mo_startText_2 (fun o_1 eo_1 H locs hP hD hS => ?_)
  have hP : va_P g.1 vwCl (wMo g mo a o_1 now dr pa sa iS bu tq rT wT sK sA sB sE oq bS bE bL rp) H := hP
  have hD : va_D (inW (wMo g mo a o now dr pa sa iS bu tq rT wT sK sA sB sE oq bS bE bL rp)) (wMo g mo a o_1 now dr pa sa iS bu tq rT wT sK sA sB sE oq bS bE bL rp) := hD
  have hz := lett_z hz eo_1
  have hok := lett_o hok eo_1
  refine lv_aload_n hx hb d_Mo_startText_5 rfl (lv_at hl 0 rfl) ?_
  refine lv_iconst (v := -1) hx hb d_Mo_startText_6 (by decide) ?_
  refine pfI C hP hD hS 0 13 fkMo rfl (by decide) rfl qf_Mo_30 rfl rfl rfl (Nat.le_of_ble_eq_true rfl) (ff := fun o => fMo a o) (sMo_13 _ _ _) d_Mo_startText_7 (fun o_2 eo_2 H locs hP hD hS => ?_)
  have hP : va_P g.1 vwCl (wMo g mo a o_2 now dr pa sa iS bu tq rT wT sK sA sB sE oq bS bE bL rp) H := hP
  have hD : va_D (inW (wMo g mo a o now dr pa sa iS bu tq rT wT sK sA sB sE oq bS bE bL rp)) (wMo g mo a o_2 now dr pa sa iS bu tq rT wT sK sA sB sE oq bS bE bL rp) := hD
  have hz := lett_z hz eo_2
  have hok := lett_o hok eo_2
  refine lv_aload_n hx hb d_Mo_startText_10 rfl (lv_at hl 0 rfl) ?_
  refine lv_iconst (v := 0) hx hb d_Mo_startText_11 (by decide) ?_
  refine pfI C hP hD hS 0 9 fkMo rfl (by decide) rfl qf_Mo_272 rfl rfl rfl (Nat.le_of_ble_eq_true rfl) (ff := fun o => fMo a o) (sMo_9 _ _ _) d_Mo_startText_12 (fun o_3 eo_3 H locs hP hD hS => ?_)
  have hP : va_P g.1 vwCl (wMo g mo a o_3 now dr pa sa iS bu tq rT wT sK sA sB sE oq bS bE bL rp) H := hP
  have hD : va_D (inW (wMo g mo a o now dr pa sa iS bu tq rT wT sK sA sB sE oq bS bE bL rp)) (wMo g mo a o_3 now dr pa sa iS bu tq rT wT sK sA sB sE oq bS bE bL rp) := hD
  have hz := lett_z hz eo_3
  have hok := lett_o hok eo_3
  refine lv_aload_n hx hb d_Mo_startText_15 rfl (lv_at hl 0 rfl) ?_
  have hs4 := hok.1
  have hok := hok.2
  have hB : SubW g (inW (wMo g mo a o now dr pa sa iS bu tq rT wT sK sA sB sE oq bS bE bL rp)) s (wMo g mo a o_3 now dr pa sa iS bu tq rT wT sK sA sB sE oq bS bE bL rp) _ (List.range _) _ _ := (subF hP hD hS)
  refine goVF hB (run_v C mf_Mo_scan qm_Mo_294 (c_Mo_scan l g mo a o_3 now dr pa sa iS bu tq rT wT sK sA sB sE oq bS bE bL rp hs4) rfl rfl ⟨Nat.le_of_ble_eq_true rfl, Nat.le_of_ble_eq_true rfl⟩ ⟨Nat.le_of_ble_eq_true rfl, Nat.le_of_ble_eq_true rfl⟩ hB rfl rfl hl rfl rfl (Nat.le_of_ble_eq_true rfl) d_Mo_startText_16) (fun _ => rfl) (fun y5 ey5 H locs hP hD hS => ?_)
  have hP : va_P g.1 vwCl (wMo g mo a y5 now dr pa sa iS bu tq rT wT sK sA sB sE oq bS bE bL rp) H := hP
  have hD : va_D (inW (wMo g mo a o now dr pa sa iS bu tq rT wT sK sA sB sE oq bS bE bL rp)) (wMo g mo a y5 now dr pa sa iS bu tq rT wT sK sA sB sE oq bS bE bL rp) := hD
  have hz := lett_z hz ey5
  exact endV C hz hP hS d_Mo_startText_19
abbrev rm_Mo_good : Room := { frames := 0, cells := 0, slots := 0, locals := 0 }
noncomputable def sp_Mo_good (o : IV) : Int32 := if (o 12) = 0 then ((1 : Int32)) else ((0 : Int32))
set_option maxRecDepth 100000 in
set_option maxHeartbeats 4000000 in
theorem c_Mo_good (l : Launch) (g : GX) (mo : Nat) (a : Nat → Nat) (o : IV) (now : LV) (dr : LV) (pa : LV) (sa : LV) (iS : IV) (bu : IV) (tq : IV) (rT : IV) (wT : IV) (sK : IV) (sA : IV) (sB : IV) (sE : IV) (oq : IV) (bS : IV) (bE : IV) (bL : IV) (rp : IV)  : Met l y_Mo_good (wsY y_Mo_good b_Mo_good 1 (some .boolean)) rm_Mo_good (CP g [.ref mo] (wMo g mo a o now dr pa sa iS bu tq rT wT sK sA sB sE oq bS bE bL rp)) (CI0 g (wMo g mo a o now dr pa sa iS bu tq rT wT sK sA sB sE oq bS bE bL rp) (sp_Mo_good o)) 0 0 (inW (wMo g mo a o now dr pa sa iS bu tq rT wT sK sA sB sE oq bS bE bL rp)) := by
  refine Met.ofW (cc := b_Mo_good) (maxL := 1) (ret := (some .boolean)) pn_Mo rfl ?_
  intro p e s m args below meth c s₁ B hml hv
  obtain ⟨rfl, C, hP, hD, hS⟩ := enter "DecadeBridgeModel" rfl B hml hv
  obtain ⟨hx, hb, hr, hml, hown, hlk, hts, hK, hZo, hZ⟩ := id C
  refine entryW (lv := [(0, .ref mo)]) rfl (Nat.le_of_ble_eq_true rfl) (fun ls hl => ?_)
  obtain ⟨z, hz⟩ : ∃ z, z = sp_Mo_good o := ⟨_, rfl⟩
  rw [← hz]
  unfold sp_Mo_good at hz
  refine lv_aload_n hx hb d_Mo_good_0 rfl (lv_at hl 0 rfl) ?_
  refine gf C hP 0 12 fkMo rfl (by decide) rfl qf_Mo_291 (gMo_12 _ _) d_Mo_good_1 ?_
  refine lv_if_ne (tgt := 11) hx hb d_Mo_good_4 (by decide) (fun c1 => ?_) (fun c1 => ?_)
  · have hz := hz.trans (if_neg c1)
    refine lv_iconst (v := 0) hx hb d_Mo_good_11 (by decide) ?_
    exact endZ0 C hz hP hS rfl d_Mo_good_12
  · have hz := hz.trans (if_pos c1)
    refine lv_iconst (v := 1) hx hb d_Mo_good_7 (by decide) ?_
    refine lv_goto (tgt := 12) hx hb d_Mo_good_8 (by decide) ?_
    exact endZ0 C hz hP hS rfl d_Mo_good_12
abbrev rm_Mo_must : Room := { frames := 1, cells := 0, slots := 0, locals := 20 }
noncomputable def sp_Mo_must (p1 : Int32) (p2 : Int32) (o : IV) : IV := lett (sp_Mo_good o) fun (y1 : Int32) => if y1 = 0 then (o) else (if p1 = 0 then (lett (upd o 12 p2) fun (o_4 : IV) => lett (upd o_4 13 (o_4 10)) fun (o_5 : IV) => o_5) else (o))
set_option maxRecDepth 100000 in
set_option maxHeartbeats 4000000 in
theorem c_Mo_must (l : Launch) (g : GX) (mo : Nat) (a : Nat → Nat) (o : IV) (now : LV) (dr : LV) (pa : LV) (sa : LV) (iS : IV) (bu : IV) (tq : IV) (rT : IV) (wT : IV) (sK : IV) (sA : IV) (sB : IV) (sE : IV) (oq : IV) (bS : IV) (bE : IV) (bL : IV) (rp : IV) (p1 : Int32) (p2 : Int32) : Met l y_Mo_must (wsY y_Mo_must b_Mo_must 3 none) rm_Mo_must (CP g [.ref mo, .int p1, .int p2] (wMo g mo a o now dr pa sa iS bu tq rT wT sK sA sB sE oq bS bE bL rp)) (CV g (wMo g mo a o now dr pa sa iS bu tq rT wT sK sA sB sE oq bS bE bL rp) (fun u : IV => wMo g mo a u now dr pa sa iS bu tq rT wT sK sA sB sE oq bS bE bL rp) (sp_Mo_must p1 p2 o)) 0 0 (inW (wMo g mo a o now dr pa sa iS bu tq rT wT sK sA sB sE oq bS bE bL rp)) := by
  refine Met.ofW (cc := b_Mo_must) (maxL := 3) (ret := none) pn_Mo rfl ?_
  intro p e s m args below meth c s₁ B hml hv
  obtain ⟨rfl, C, hP, hD, hS⟩ := enter "DecadeBridgeModel" rfl B hml hv
  obtain ⟨hx, hb, hr, hml, hown, hlk, hts, hK, hZo, hZ⟩ := id C
  refine entryW (lv := [(0, .ref mo), (1, .int p1), (2, .int p2)]) rfl (Nat.le_of_ble_eq_true rfl) (fun ls hl => ?_)
  obtain ⟨z, hz⟩ : ∃ z, z = sp_Mo_must p1 p2 o := ⟨_, rfl⟩
  rw [← hz]
  unfold sp_Mo_must at hz
  refine lv_aload_n hx hb d_Mo_must_0 rfl (lv_at hl 0 rfl) ?_
  have hB : SubW g (inW (wMo g mo a o now dr pa sa iS bu tq rT wT sK sA sB sE oq bS bE bL rp)) s (wMo g mo a o now dr pa sa iS bu tq rT wT sK sA sB sE oq bS bE bL rp) _ (List.range _) _ _ := (subF hP hD hS)
  refine goI0 hB (run_v C mf_Mo_good qm_Mo_297 (c_Mo_good l g mo a o now dr pa sa iS bu tq rT wT sK sA sB sE oq bS bE bL rp) rfl rfl ⟨Nat.le_of_ble_eq_true rfl, Nat.le_of_ble_eq_true rfl⟩ ⟨Nat.le_of_ble_eq_true rfl, Nat.le_of_ble_eq_true rfl⟩ hB rfl rfl hl rfl rfl (Nat.le_of_ble_eq_true rfl) d_Mo_must_1) (fun y1 ey1 H locs hP hS => ?_)
  have hz := lett_z hz ey1
  refine lv_if_eq (tgt := 24) hx hb d_Mo_must_4 (by decide) (fun c2 => ?_) (fun c2 => ?_)
  · have hz := hz.trans (if_pos c2)
    exact endV C hz hP hS d_Mo_must_24
  · have hz := hz.trans (if_neg c2)
    refine lv_iload_n hx hb d_Mo_must_7 rfl (lv_at hl 1 rfl) ?_
    refine lv_if_ne (tgt := 24) hx hb d_Mo_must_8 (by decide) (fun c3 => ?_) (fun c3 => ?_)
    · have hz := hz.trans (if_neg c3)
      exact endV C hz hP hS d_Mo_must_24
    · have hz := hz.trans (if_pos c3)
      refine lv_aload_n hx hb d_Mo_must_11 rfl (lv_at hl 0 rfl) ?_
      refine lv_iload_n hx hb d_Mo_must_12 rfl (lv_at hl 2 rfl) ?_
      refine pfI C hP hD hS 0 12 fkMo rfl (by decide) rfl qf_Mo_291 rfl rfl rfl (Nat.le_of_ble_eq_true rfl) (ff := fun o => fMo a o) (sMo_12 _ _ _) d_Mo_must_13 (fun o_4 eo_4 H locs hP hD hS => ?_)
      have hP : va_P g.1 vwCl (wMo g mo a o_4 now dr pa sa iS bu tq rT wT sK sA sB sE oq bS bE bL rp) H := hP
      have hD : va_D (inW (wMo g mo a o now dr pa sa iS bu tq rT wT sK sA sB sE oq bS bE bL rp)) (wMo g mo a o_4 now dr pa sa iS bu tq rT wT sK sA sB sE oq bS bE bL rp) := hD
      have hz := lett_z hz eo_4
      refine lv_aload_n hx hb d_Mo_must_16 rfl (lv_at hl 0 rfl) ?_
      refine lv_aload_n hx hb d_Mo_must_17 rfl (lv_at hl 0 rfl) ?_
      refine gf C hP 0 10 fkMo rfl (by decide) rfl qf_Mo_278 (gMo_10 _ _) d_Mo_must_18 ?_
      refine pfI C hP hD hS 0 13 fkMo rfl (by decide) rfl qf_Mo_30 rfl rfl rfl (Nat.le_of_ble_eq_true rfl) (ff := fun o => fMo a o) (sMo_13 _ _ _) d_Mo_must_21 (fun o_5 eo_5 H locs hP hD hS => ?_)
      have hP : va_P g.1 vwCl (wMo g mo a o_5 now dr pa sa iS bu tq rT wT sK sA sB sE oq bS bE bL rp) H := hP
      have hD : va_D (inW (wMo g mo a o now dr pa sa iS bu tq rT wT sK sA sB sE oq bS bE bL rp)) (wMo g mo a o_5 now dr pa sa iS bu tq rT wT sK sA sB sE oq bS bE bL rp) := hD
      have hz := lett_z hz eo_5
      exact endV C hz hP hS d_Mo_must_24
abbrev rm_Mo_goOn : Room := { frames := 2, cells := 0, slots := 0, locals := 42 }
noncomputable def sp_Mo_goOn (o : IV) (bu : IV) : IV := lett (sp_Mo_good o) fun (y1 : Int32) => if y1 = 0 then (o) else (lett (sp_Mo_scan o bu) fun (y4 : IV) => y4)
def ok_Mo_goOn (o : IV) (bu : IV) : Prop := lett (sp_Mo_good o) fun (y1 : Int32) => ((y1 = 0 → True) ∧ (¬ (y1 = 0) → (ok_Mo_scan o bu) ∧ True))
set_option maxRecDepth 100000 in
set_option maxHeartbeats 4000000 in
theorem c_Mo_goOn (l : Launch) (g : GX) (mo : Nat) (a : Nat → Nat) (o : IV) (now : LV) (dr : LV) (pa : LV) (sa : LV) (iS : IV) (bu : IV) (tq : IV) (rT : IV) (wT : IV) (sK : IV) (sA : IV) (sB : IV) (sE : IV) (oq : IV) (bS : IV) (bE : IV) (bL : IV) (rp : IV)  (hok : ok_Mo_goOn o bu) : Met l y_Mo_goOn (wsY y_Mo_goOn b_Mo_goOn 1 none) rm_Mo_goOn (CP g [.ref mo] (wMo g mo a o now dr pa sa iS bu tq rT wT sK sA sB sE oq bS bE bL rp)) (CV g (wMo g mo a o now dr pa sa iS bu tq rT wT sK sA sB sE oq bS bE bL rp) (fun u : IV => wMo g mo a u now dr pa sa iS bu tq rT wT sK sA sB sE oq bS bE bL rp) (sp_Mo_goOn o bu)) 0 0 (inW (wMo g mo a o now dr pa sa iS bu tq rT wT sK sA sB sE oq bS bE bL rp)) := by
  refine Met.ofW (cc := b_Mo_goOn) (maxL := 1) (ret := none) pn_Mo rfl ?_
  intro p e s m args below meth c s₁ B hml hv
  obtain ⟨rfl, C, hP, hD, hS⟩ := enter "DecadeBridgeModel" rfl B hml hv
  obtain ⟨hx, hb, hr, hml, hown, hlk, hts, hK, hZo, hZ⟩ := id C
  refine entryW (lv := [(0, .ref mo)]) rfl (Nat.le_of_ble_eq_true rfl) (fun ls hl => ?_)
  obtain ⟨z, hz⟩ : ∃ z, z = sp_Mo_goOn o bu := ⟨_, rfl⟩
  rw [← hz]
  unfold sp_Mo_goOn at hz
  unfold ok_Mo_goOn at hok
  refine lv_aload_n hx hb d_Mo_goOn_0 rfl (lv_at hl 0 rfl) ?_
  have hB : SubW g (inW (wMo g mo a o now dr pa sa iS bu tq rT wT sK sA sB sE oq bS bE bL rp)) s (wMo g mo a o now dr pa sa iS bu tq rT wT sK sA sB sE oq bS bE bL rp) _ (List.range _) _ _ := (subF hP hD hS)
  refine goI0 hB (run_v C mf_Mo_good qm_Mo_297 (c_Mo_good l g mo a o now dr pa sa iS bu tq rT wT sK sA sB sE oq bS bE bL rp) rfl rfl ⟨Nat.le_of_ble_eq_true rfl, Nat.le_of_ble_eq_true rfl⟩ ⟨Nat.le_of_ble_eq_true rfl, Nat.le_of_ble_eq_true rfl⟩ hB rfl rfl hl rfl rfl (Nat.le_of_ble_eq_true rfl) d_Mo_goOn_1) (fun y1 ey1 H locs hP hS => ?_)
  have hz := lett_z hz ey1
  have hok := lett_o hok ey1
  refine lv_if_eq (tgt := 11) hx hb d_Mo_goOn_4 (by decide) (fun c2 => ?_) (fun c2 => ?_)
  · have hz := hz.trans (if_pos c2)
    exact endV C hz hP hS d_Mo_goOn_11
  · have hz := hz.trans (if_neg c2)
    have hok := hok.2 c2
    refine lv_aload_n hx hb d_Mo_goOn_7 rfl (lv_at hl 0 rfl) ?_
    have hs3 := hok.1
    have hok := hok.2
    have hB : SubW g (inW (wMo g mo a o now dr pa sa iS bu tq rT wT sK sA sB sE oq bS bE bL rp)) s (wMo g mo a o now dr pa sa iS bu tq rT wT sK sA sB sE oq bS bE bL rp) _ (List.range _) _ _ := (subF hP hD hS)
    refine goVF hB (run_v C mf_Mo_scan qm_Mo_294 (c_Mo_scan l g mo a o now dr pa sa iS bu tq rT wT sK sA sB sE oq bS bE bL rp hs3) rfl rfl ⟨Nat.le_of_ble_eq_true rfl, Nat.le_of_ble_eq_true rfl⟩ ⟨Nat.le_of_ble_eq_true rfl, Nat.le_of_ble_eq_true rfl⟩ hB rfl rfl hl rfl rfl (Nat.le_of_ble_eq_true rfl) d_Mo_goOn_8) (fun _ => rfl) (fun y4 ey4 H locs hP hD hS => ?_)
    have hP : va_P g.1 vwCl (wMo g mo a y4 now dr pa sa iS bu tq rT wT sK sA sB sE oq bS bE bL rp) H := hP
    have hD : va_D (inW (wMo g mo a o now dr pa sa iS bu tq rT wT sK sA sB sE oq bS bE bL rp)) (wMo g mo a y4 now dr pa sa iS bu tq rT wT sK sA sB sE oq bS bE bL rp) := hD
    have hz := lett_z hz ey4
    exact endV C hz hP hS d_Mo_goOn_11
abbrev rm_Mo_isSign : Room := { frames := 1, cells := 0, slots := 0, locals := 20 }
def HL_Mo_isSign_32 (p : Program) (l : Launch) (e : Env) (s : State) (m : MethodId) (args : Array Value) (below : List Frame) (meth : Method) (c : Code) (g : GX) (mo : Nat) (a : Nat → Nat) (o : IV) (now : LV) (dr : LV) (pa : LV) (sa : LV) (iS : IV) (bu : IV) (tq : IV) (rT : IV) (wT : IV) (sK : IV) (sA : IV) (sB : IV) (sE : IV) (oq : IV) (bS : IV) (bE : IV) (bL : IV) (rp : IV) (sp : Int32) (ok : Prop) : Prop := ∀ (_ : Unit), ok → ∀ z : Int32, z = sp → ∀ (H : Heap) (locs : List Loc) (ls : Array Slot), va_P g.1 vwCl (wMo g mo a o now dr pa sa iS bu tq rT wT sK sA sB sE oq bS bE bL rp) H → va_D (inW (wMo g mo a o now dr pa sa iS bu tq rT wT sK sA sB sE oq bS bE bL rp)) (wMo g mo a o now dr pa sa iS bu tq rT wT sK sA sB sE oq bS bE bL rp) → va_S (inW (wMo g mo a o now dr pa sa iS bu tq rT wT sK sA sB sE oq bS bE bL rp)) s.heap H locs → lv_has ls 2 [] → W p l e rm_Mo_isSign s m args below meth c H locs 0 0 (MQ below (CI0 g (wMo g mo a o now dr pa sa iS bu tq rT wT sK sA sB sE oq bS bE bL rp) z) args s 0 0 (inW (wMo g mo a o now dr pa sa iS bu tq rT wT sK sA sB sE oq bS bE bL rp))) (F0 m 32 ls [])
noncomputable def sp_Mo_isSign_32    : Int32 := (0 : Int32)
def ok_Mo_isSign_32     : Prop := True
set_option maxRecDepth 100000 in
set_option maxHeartbeats 4000000 in
theorem k_Mo_isSign_32 {p : Program} {l : Launch} {e : Env} {s : State} {m : MethodId} {args : Array Value} {below : List Frame} {meth : Method} {c : Code} {g : GX} {mo : Nat} {a : Nat → Nat} {o : IV} {now : LV} {dr : LV} {pa : LV} {sa : LV} {iS : IV} {bu : IV} {tq : IV} {rT : IV} {wT : IV} {sK : IV} {sA : IV} {sB : IV} {sE : IV} {oq : IV} {bS : IV} {bE : IV} {bL : IV} {rp : IV}  (C : Cx p s m args meth c (inW (wMo g mo a o now dr pa sa iS bu tq rT wT sK sA sB sE oq bS bE bL rp)) g "DecadeBridgeModel" b_Mo_isSign (some .boolean) 2)  : HL_Mo_isSign_32 p l e s m args below meth c g mo a o now dr pa sa iS bu tq rT wT sK sA sB sE oq bS bE bL rp (sp_Mo_isSign_32  ) (ok_Mo_isSign_32   ) := by
  intro _ hok z hz H locs ls hP hD hS hl
  obtain ⟨hx, hb, hr, hml, hown, hlk, hts, hK, hZo, hZ⟩ := id C
  unfold sp_Mo_isSign_32 at hz
  refine lv_iconst (v := 0) hx hb d_Mo_isSign_32 (by decide) ?_
  exact endZ0 C hz hP hS rfl d_Mo_isSign_33
noncomputable def sp_Mo_isSign (p1 : Int32) (o : IV) (bu : IV) : Int32 := lett (sp_Mo_good o) fun (y1 : Int32) => if y1 = 0 then (sp_Mo_isSign_32) else (if (o 11) = (3 : Int32) then (if (bu (o 10).toNatClampNeg) = p1 then ((1 : Int32)) else (sp_Mo_isSign_32)) else (sp_Mo_isSign_32))
def ok_Mo_isSign (p1 : Int32) (o : IV) : Prop := lett (sp_Mo_good o) fun (y1 : Int32) => ((y1 = 0 → True) ∧ (¬ (y1 = 0) → (((o 11) = (3 : Int32) → (vp_in (o 10) 600) ∧ True) ∧ (¬ ((o 11) = (3 : Int32)) → True))))
set_option maxRecDepth 100000 in
set_option maxHeartbeats 4000000 in
theorem c_Mo_isSign (l : Launch) (g : GX) (mo : Nat) (a : Nat → Nat) (o : IV) (now : LV) (dr : LV) (pa : LV) (sa : LV) (iS : IV) (bu : IV) (tq : IV) (rT : IV) (wT : IV) (sK : IV) (sA : IV) (sB : IV) (sE : IV) (oq : IV) (bS : IV) (bE : IV) (bL : IV) (rp : IV) (p1 : Int32) (hok : ok_Mo_isSign p1 o) : Met l y_Mo_isSign (wsY y_Mo_isSign b_Mo_isSign 2 (some .boolean)) rm_Mo_isSign (CP g [.ref mo, .int p1] (wMo g mo a o now dr pa sa iS bu tq rT wT sK sA sB sE oq bS bE bL rp)) (CI0 g (wMo g mo a o now dr pa sa iS bu tq rT wT sK sA sB sE oq bS bE bL rp) (sp_Mo_isSign p1 o bu)) 0 0 (inW (wMo g mo a o now dr pa sa iS bu tq rT wT sK sA sB sE oq bS bE bL rp)) := by
  refine Met.ofW (cc := b_Mo_isSign) (maxL := 2) (ret := (some .boolean)) pn_Mo rfl ?_
  intro p e s m args below meth c s₁ B hml hv
  obtain ⟨rfl, C, hP, hD, hS⟩ := enter "DecadeBridgeModel" rfl B hml hv
  obtain ⟨hx, hb, hr, hml, hown, hlk, hts, hK, hZo, hZ⟩ := id C
  refine entryW (lv := [(0, .ref mo), (1, .int p1)]) rfl (Nat.le_of_ble_eq_true rfl) (fun ls hl => ?_)
  obtain ⟨z, hz⟩ : ∃ z, z = sp_Mo_isSign p1 o bu := ⟨_, rfl⟩
  rw [← hz]
  unfold sp_Mo_isSign at hz
  unfold ok_Mo_isSign at hok
  refine lv_aload_n hx hb d_Mo_isSign_0 rfl (lv_at hl 0 rfl) ?_
  have hB : SubW g (inW (wMo g mo a o now dr pa sa iS bu tq rT wT sK sA sB sE oq bS bE bL rp)) s (wMo g mo a o now dr pa sa iS bu tq rT wT sK sA sB sE oq bS bE bL rp) _ (List.range _) _ _ := (subF hP hD hS)
  refine goI0 hB (run_v C mf_Mo_good qm_Mo_297 (c_Mo_good l g mo a o now dr pa sa iS bu tq rT wT sK sA sB sE oq bS bE bL rp) rfl rfl ⟨Nat.le_of_ble_eq_true rfl, Nat.le_of_ble_eq_true rfl⟩ ⟨Nat.le_of_ble_eq_true rfl, Nat.le_of_ble_eq_true rfl⟩ hB rfl rfl hl rfl rfl (Nat.le_of_ble_eq_true rfl) d_Mo_isSign_1) (fun y1 ey1 H locs hP hS => ?_)
  have hz := lett_z hz ey1
  have hok := lett_o hok ey1
  refine lv_if_eq (tgt := 32) hx hb d_Mo_isSign_4 (by decide) (fun c2 => ?_) (fun c2 => ?_)
  · have hz := hz.trans (if_pos c2)
    exact k_Mo_isSign_32 C () trivial _ hz _ _ ls hP hD hS (lv_sub hl [] rfl)
  · have hz := hz.trans (if_neg c2)
    have hok := hok.2 c2
    refine lv_aload_n hx hb d_Mo_isSign_7 rfl (lv_at hl 0 rfl) ?_
    refine gf C hP 0 11 fkMo rfl (by decide) rfl qf_Mo_288 (gMo_11 _ _) d_Mo_isSign_8 ?_
    refine lv_iconst (v := 3) hx hb d_Mo_isSign_11 (by decide) ?_
    refine lv_icmp_ne (tgt := 32) hx hb d_Mo_isSign_12 (by decide) (fun c3 => ?_) (fun c3 => ?_)
    · have hz := hz.trans (if_neg c3)
      exact k_Mo_isSign_32 C () trivial _ hz _ _ ls hP hD hS (lv_sub hl [] rfl)
    · have hz := hz.trans (if_pos c3)
      have hok := hok.1 c3
      refine lv_aload_n hx hb d_Mo_isSign_15 rfl (lv_at hl 0 rfl) ?_
      refine gf C hP 0 7 fkMo rfl (by decide) rfl qf_Mo_26 (gMo_7 _ _) d_Mo_isSign_16 ?_
      refine lv_aload_n hx hb d_Mo_isSign_19 rfl (lv_at hl 0 rfl) ?_
      refine gf C hP 0 10 fkMo rfl (by decide) rfl qf_Mo_278 (gMo_10 _ _) d_Mo_isSign_20 ?_
      have hs4 := hok.1
      have hok := hok.2
      refine ldI C hP 6 rfl hs4 rfl d_Mo_isSign_23 ?_
      refine lv_iload_n hx hb d_Mo_isSign_24 rfl (lv_at hl 1 rfl) ?_
      refine lv_icmp_ne (tgt := 32) hx hb d_Mo_isSign_25 (by decide) (fun c5 => ?_) (fun c5 => ?_)
      · have hz := hz.trans (if_neg c5)
        exact k_Mo_isSign_32 C () trivial _ hz _ _ ls hP hD hS (lv_sub hl [] rfl)
      · have hz := hz.trans (if_pos c5)
        refine lv_iconst (v := 1) hx hb d_Mo_isSign_28 (by decide) ?_
        refine lv_goto (tgt := 33) hx hb d_Mo_isSign_29 (by decide) ?_
        exact endZ0 C hz hP hS rfl d_Mo_isSign_33
abbrev rm_Mo_isWord : Room := { frames := 4, cells := 0, slots := 0, locals := 85 }
def HL_Mo_isWord_35 (p : Program) (l : Launch) (e : Env) (s : State) (m : MethodId) (args : Array Value) (below : List Frame) (meth : Method) (c : Code) (g : GX) (mo : Nat) (a : Nat → Nat) (o : IV) (now : LV) (dr : LV) (pa : LV) (sa : LV) (iS : IV) (bu : IV) (tq : IV) (rT : IV) (wT : IV) (sK : IV) (sA : IV) (sB : IV) (sE : IV) (oq : IV) (bS : IV) (bE : IV) (bL : IV) (rp : IV) (n : Nat) (sp : Int32) (ok : Prop) : Prop := ∀ (_ : Unit), ok → ∀ z : Int32, z = sp → ∀ (H : Heap) (locs : List Loc) (ls : Array Slot), va_P g.1 vwCl (wMo g mo a o now dr pa sa iS bu tq rT wT sK sA sB sE oq bS bE bL rp) H → va_D (inW (wMo g mo a o now dr pa sa iS bu tq rT wT sK sA sB sE oq bS bE bL rp)) (wMo g mo a o now dr pa sa iS bu tq rT wT sK sA sB sE oq bS bE bL rp) → va_S (inW (wMo g mo a o now dr pa sa iS bu tq rT wT sK sA sB sE oq bS bE bL rp)) s.heap H locs → lv_has ls 4 [(0, .ref mo), (1, .ref (g.2.2.2 (n + 1)))] → W p l e rm_Mo_isWord s m args below meth c H locs 0 0 (MQ below (CI0 g (wMo g mo a o now dr pa sa iS bu tq rT wT sK sA sB sE oq bS bE bL rp) z) args s 0 0 (inW (wMo g mo a o now dr pa sa iS bu tq rT wT sK sA sB sE oq bS bE bL rp))) (F0 m 35 ls [])
def HL_Mo_isWord_36 (p : Program) (l : Launch) (e : Env) (s : State) (m : MethodId) (args : Array Value) (below : List Frame) (meth : Method) (c : Code) (g : GX) (mo : Nat) (a : Nat → Nat) (o : IV) (now : LV) (dr : LV) (pa : LV) (sa : LV) (iS : IV) (bu : IV) (tq : IV) (rT : IV) (wT : IV) (sK : IV) (sA : IV) (sB : IV) (sE : IV) (oq : IV) (bS : IV) (bE : IV) (bL : IV) (rp : IV) (n : Nat) (sp : Int32 → Int32) (ok : Int32 → Prop) : Prop := ∀ (t0p36 : Int32), ok t0p36 → ∀ z : Int32, z = sp t0p36 → ∀ (H : Heap) (locs : List Loc) (ls : Array Slot), va_P g.1 vwCl (wMo g mo a o now dr pa sa iS bu tq rT wT sK sA sB sE oq bS bE bL rp) H → va_D (inW (wMo g mo a o now dr pa sa iS bu tq rT wT sK sA sB sE oq bS bE bL rp)) (wMo g mo a o now dr pa sa iS bu tq rT wT sK sA sB sE oq bS bE bL rp) → va_S (inW (wMo g mo a o now dr pa sa iS bu tq rT wT sK sA sB sE oq bS bE bL rp)) s.heap H locs → lv_has ls 4 [(0, .ref mo), (1, .ref (g.2.2.2 (n + 1)))] → W p l e rm_Mo_isWord s m args below meth c H locs 0 0 (MQ below (CI0 g (wMo g mo a o now dr pa sa iS bu tq rT wT sK sA sB sE oq bS bE bL rp) z) args s 0 0 (inW (wMo g mo a o now dr pa sa iS bu tq rT wT sK sA sB sE oq bS bE bL rp))) (F0 m 36 ls [.int t0p36])
def HL_Mo_isWord_39 (p : Program) (l : Launch) (e : Env) (s : State) (m : MethodId) (args : Array Value) (below : List Frame) (meth : Method) (c : Code) (g : GX) (mo : Nat) (a : Nat → Nat) (o : IV) (now : LV) (dr : LV) (pa : LV) (sa : LV) (iS : IV) (bu : IV) (tq : IV) (rT : IV) (wT : IV) (sK : IV) (sA : IV) (sB : IV) (sE : IV) (oq : IV) (bS : IV) (bE : IV) (bL : IV) (rp : IV) (n : Nat) (sp : Int32 → Int32 → Int32) (ok : Int32 → Int32 → Prop) : Prop := ∀ (x2p39 : Int32) (x3p39 : Int32), ok x2p39 x3p39 → ∀ z : Int32, z = sp x2p39 x3p39 → ∀ (H : Heap) (locs : List Loc) (ls : Array Slot), va_P g.1 vwCl (wMo g mo a o now dr pa sa iS bu tq rT wT sK sA sB sE oq bS bE bL rp) H → va_D (inW (wMo g mo a o now dr pa sa iS bu tq rT wT sK sA sB sE oq bS bE bL rp)) (wMo g mo a o now dr pa sa iS bu tq rT wT sK sA sB sE oq bS bE bL rp) → va_S (inW (wMo g mo a o now dr pa sa iS bu tq rT wT sK sA sB sE oq bS bE bL rp)) s.heap H locs → lv_has ls 4 [(0, .ref mo), (1, .ref (g.2.2.2 (n + 1))), (2, .int x2p39), (3, .int x3p39)] → W p l e rm_Mo_isWord s m args below meth c H locs 0 0 (MQ below (CI0 g (wMo g mo a o now dr pa sa iS bu tq rT wT sK sA sB sE oq bS bE bL rp) z) args s 0 0 (inW (wMo g mo a o now dr pa sa iS bu tq rT wT sK sA sB sE oq bS bE bL rp))) (F0 m 39 ls [])
def HL_Mo_isWord_75 (p : Program) (l : Launch) (e : Env) (s : State) (m : MethodId) (args : Array Value) (below : List Frame) (meth : Method) (c : Code) (g : GX) (mo : Nat) (a : Nat → Nat) (o : IV) (now : LV) (dr : LV) (pa : LV) (sa : LV) (iS : IV) (bu : IV) (tq : IV) (rT : IV) (wT : IV) (sK : IV) (sA : IV) (sB : IV) (sE : IV) (oq : IV) (bS : IV) (bE : IV) (bL : IV) (rp : IV) (n : Nat) (x3p39 : Int32) (sp : Int32 → Int32) (ok : Int32 → Prop) : Prop := ∀ (t0p75 : Int32), ok t0p75 → ∀ z : Int32, z = sp t0p75 → ∀ (H : Heap) (locs : List Loc) (ls : Array Slot), va_P g.1 vwCl (wMo g mo a o now dr pa sa iS bu tq rT wT sK sA sB sE oq bS bE bL rp) H → va_D (inW (wMo g mo a o now dr pa sa iS bu tq rT wT sK sA sB sE oq bS bE bL rp)) (wMo g mo a o now dr pa sa iS bu tq rT wT sK sA sB sE oq bS bE bL rp) → va_S (inW (wMo g mo a o now dr pa sa iS bu tq rT wT sK sA sB sE oq bS bE bL rp)) s.heap H locs → lv_has ls 4 [(0, .ref mo), (1, .ref (g.2.2.2 (n + 1))), (3, .int x3p39)] → W p l e rm_Mo_isWord s m args below meth c H locs 0 0 (MQ below (CI0 g (wMo g mo a o now dr pa sa iS bu tq rT wT sK sA sB sE oq bS bE bL rp) z) args s 0 0 (inW (wMo g mo a o now dr pa sa iS bu tq rT wT sK sA sB sE oq bS bE bL rp))) (F0 m 75 ls [.int t0p75])
noncomputable def sp_Mo_isWord_75 (x3p39 : Int32) (r39 : Int32 → Int32 → Int32) (t0p75 : Int32) : Int32 := lett (x3p39 + (1 : Int32)) fun (v19 : Int32) => r39 t0p75 v19
def ok_Mo_isWord_75 (x3p39 : Int32) (r39 : Int32 → Int32 → Int32) (q39 : Int32 → Int32 → Prop) (t0p75 : Int32) : Prop := lett (x3p39 + (1 : Int32)) fun (v19 : Int32) => q39 t0p75 v19
set_option maxRecDepth 100000 in
set_option maxHeartbeats 4000000 in
theorem k_Mo_isWord_75 {p : Program} {l : Launch} {e : Env} {s : State} {m : MethodId} {args : Array Value} {below : List Frame} {meth : Method} {c : Code} {g : GX} {mo : Nat} {a : Nat → Nat} {o : IV} {now : LV} {dr : LV} {pa : LV} {sa : LV} {iS : IV} {bu : IV} {tq : IV} {rT : IV} {wT : IV} {sK : IV} {sA : IV} {sB : IV} {sE : IV} {oq : IV} {bS : IV} {bE : IV} {bL : IV} {rp : IV} {n : Nat} {x3p39 : Int32} {r39 : Int32 → Int32 → Int32} {q39 : Int32 → Int32 → Prop} (C : Cx p s m args meth c (inW (wMo g mo a o now dr pa sa iS bu tq rT wT sK sA sB sE oq bS bE bL rp)) g "DecadeBridgeModel" b_Mo_isWord (some .boolean) 4) (ih39 : HL_Mo_isWord_39 p l e s m args below meth c g mo a o now dr pa sa iS bu tq rT wT sK sA sB sE oq bS bE bL rp n r39 q39) : HL_Mo_isWord_75 p l e s m args below meth c g mo a o now dr pa sa iS bu tq rT wT sK sA sB sE oq bS bE bL rp n x3p39 (sp_Mo_isWord_75 x3p39 r39) (ok_Mo_isWord_75 x3p39 r39 q39) := by
  intro t0p75 hok z hz H locs ls hP hD hS hl
  obtain ⟨hx, hb, hr, hml, hown, hlk, hts, hK, hZo, hZ⟩ := id C
  unfold sp_Mo_isWord_75 at hz
  unfold ok_Mo_isWord_75 at hok
  refine lv_istore_n (lv' := [(2, .int t0p75), (0, .ref mo), (1, .ref (g.2.2.2 (n + 1))), (3, .int x3p39)]) hx hb d_Mo_isWord_75 rfl hl (by decide) rfl (fun ls hl => ?_)
  obtain ⟨v19, ev19⟩ : ∃ y : Int32, y = x3p39 + (1 : Int32) := ⟨_, rfl⟩
  have hz := lett_z hz ev19
  have hok := lett_o hok ev19
  refine lv_iinc (v := v19) (lv' := [(3, .int v19), (2, .int t0p75), (0, .ref mo), (1, .ref (g.2.2.2 (n + 1)))]) hx hb d_Mo_isWord_76 hl (k := 3) rfl (by rw [ev19]; rfl) (by decide) rfl (fun ls hl => ?_)
  refine lv_goto (tgt := 39) hx hb d_Mo_isWord_79 (by decide) ?_
  exact ih39 t0p75 v19 hok _ hz _ _ ls hP hD hS (lv_sub hl [2, 3, 1, 0] rfl)
noncomputable def bd_Mo_isWord_39 (n : Nat) (bu : IV) (o : IV) (r39 : Int32 → Int32 → Int32) (x2p39 : Int32) (x3p39 : Int32) : Int32 := if x2p39 = 0 then (x2p39) else (lett (sp_JS_length n) fun (y12 : Int32) => if y12 ≤ x3p39 then (x2p39) else (lett (sp_JS_charAt n x3p39) fun (y17 : Int32) => if (bu ((o 10) + x3p39).toNatClampNeg) = y17 then (sp_Mo_isWord_75 x3p39 r39 (1 : Int32)) else (sp_Mo_isWord_75 x3p39 r39 (0 : Int32))))
def okb_Mo_isWord_39 (n : Nat) (bu : IV) (o : IV) (r39 : Int32 → Int32 → Int32) (q39 : Int32 → Int32 → Prop) (x2p39 : Int32) (x3p39 : Int32) : Prop := ((x2p39 = 0 → (isB x2p39) ∧ True) ∧ (¬ (x2p39 = 0) → (ok_JS_length n) ∧ (n < 20) ∧ lett (sp_JS_length n) fun (y12 : Int32) => ((y12 ≤ x3p39 → (isB x2p39) ∧ True) ∧ (¬ (y12 ≤ x3p39) → (vp_in ((o 10) + x3p39) 600) ∧ (ok_JS_charAt n x3p39) ∧ lett (sp_JS_charAt n x3p39) fun (y17 : Int32) => (((bu ((o 10) + x3p39).toNatClampNeg) = y17 → ok_Mo_isWord_75 x3p39 r39 q39 (1 : Int32)) ∧ (¬ ((bu ((o 10) + x3p39).toNatClampNeg) = y17) → ok_Mo_isWord_75 x3p39 r39 q39 (0 : Int32)))))))
noncomputable def sp_Mo_isWord_39 (n : Nat) (bu : IV) (o : IV)  : Nat → Int32 → Int32 → Int32
  | 0 => fun _ _ => default
  | f + 1 => bd_Mo_isWord_39 n bu o  (sp_Mo_isWord_39 n bu o  f)
def ok_Mo_isWord_39 (n : Nat) (bu : IV) (o : IV)   : Nat → Int32 → Int32 → Prop
  | 0 => fun _ _ => False
  | f + 1 => okb_Mo_isWord_39 n bu o  (sp_Mo_isWord_39 n bu o  f)  (ok_Mo_isWord_39 n bu o   f)
set_option maxRecDepth 100000 in
set_option maxHeartbeats 4000000 in
theorem kb_Mo_isWord_39 {p : Program} {l : Launch} {e : Env} {s : State} {m : MethodId} {args : Array Value} {below : List Frame} {meth : Method} {c : Code} {g : GX} {mo : Nat} {a : Nat → Nat} {o : IV} {now : LV} {dr : LV} {pa : LV} {sa : LV} {iS : IV} {bu : IV} {tq : IV} {rT : IV} {wT : IV} {sK : IV} {sA : IV} {sB : IV} {sE : IV} {oq : IV} {bS : IV} {bE : IV} {bL : IV} {rp : IV} {n : Nat}  (C : Cx p s m args meth c (inW (wMo g mo a o now dr pa sa iS bu tq rT wT sK sA sB sE oq bS bE bL rp)) g "DecadeBridgeModel" b_Mo_isWord (some .boolean) 4) {r39 : Int32 → Int32 → Int32} {q39 : Int32 → Int32 → Prop}  (ih39 : HL_Mo_isWord_39 p l e s m args below meth c g mo a o now dr pa sa iS bu tq rT wT sK sA sB sE oq bS bE bL rp n r39 q39) : HL_Mo_isWord_39 p l e s m args below meth c g mo a o now dr pa sa iS bu tq rT wT sK sA sB sE oq bS bE bL rp n (bd_Mo_isWord_39 n bu o  r39) (okb_Mo_isWord_39 n bu o  r39  q39) := by
  intro x2p39 x3p39 hok z hz H locs ls hP hD hS hl
  obtain ⟨hx, hb, hr, hml, hown, hlk, hts, hK, hZo, hZ⟩ := id C
  unfold bd_Mo_isWord_39 at hz
  unfold okb_Mo_isWord_39 at hok
  refine lv_iload_n hx hb d_Mo_isWord_39 rfl (lv_at hl 2 rfl) ?_
  refine lv_if_eq (tgt := 82) hx hb d_Mo_isWord_40 (by decide) (fun c8 => ?_) (fun c8 => ?_)
  · have hz := hz.trans (if_pos c8)
    have hok := hok.1 c8
    refine lv_iload_n hx hb d_Mo_isWord_82 rfl (lv_at hl 2 rfl) ?_
    have hs9 := hok.1
    have hok := hok.2
    exact endZ0 C hz hP hS (isB_nar hs9) d_Mo_isWord_83
  · have hz := hz.trans (if_neg c8)
    have hok := hok.2 c8
    refine lv_iload_n hx hb d_Mo_isWord_43 rfl (lv_at hl 3 rfl) ?_
    refine lv_aload_n hx hb d_Mo_isWord_44 rfl (lv_at hl 1 rfl) ?_
    have hs10 := hok.1
    have hok := hok.2
    have hs11 := hok.1
    have hok := hok.2
    have hB : SubW g (inW (wMo g mo a o now dr pa sa iS bu tq rT wT sK sA sB sE oq bS bE bL rp)) s (wMo g mo a o now dr pa sa iS bu tq rT wT sK sA sB sE oq bS bE bL rp) (wNil g ) [] _ _ := ⟨rfl, rfl, hP, hD, hS⟩
    refine goI0 hB (run_q C mf_JS_length qm_Mo_300 (c_JS_length l g n hs10) rfl rfl ⟨Nat.le_of_ble_eq_true rfl, Nat.le_of_ble_eq_true rfl⟩ ⟨Nat.le_of_ble_eq_true rfl, Nat.le_of_ble_eq_true rfl⟩ hB (zRecv hZo hZ hs11 hS) hl rfl rfl (Nat.le_of_ble_eq_true rfl) d_Mo_isWord_45) (fun y12 ey12 H locs hP hS => ?_)
    have hz := lett_z hz ey12
    have hok := lett_o hok ey12
    refine lv_icmp_ge (tgt := 82) hx hb d_Mo_isWord_48 (by decide) (fun c13 => ?_) (fun c13 => ?_)
    · have hz := hz.trans (if_pos c13)
      have hok := hok.1 c13
      refine lv_iload_n hx hb d_Mo_isWord_82 rfl (lv_at hl 2 rfl) ?_
      have hs14 := hok.1
      have hok := hok.2
      exact endZ0 C hz hP hS (isB_nar hs14) d_Mo_isWord_83
    · have hz := hz.trans (if_neg c13)
      have hok := hok.2 c13
      refine lv_aload_n hx hb d_Mo_isWord_51 rfl (lv_at hl 0 rfl) ?_
      refine gf C hP 0 7 fkMo rfl (by decide) rfl qf_Mo_26 (gMo_7 _ _) d_Mo_isWord_52 ?_
      refine lv_aload_n hx hb d_Mo_isWord_55 rfl (lv_at hl 0 rfl) ?_
      refine gf C hP 0 10 fkMo rfl (by decide) rfl qf_Mo_278 (gMo_10 _ _) d_Mo_isWord_56 ?_
      refine lv_iload_n hx hb d_Mo_isWord_59 rfl (lv_at hl 3 rfl) ?_
      refine lv_iadd hx hb d_Mo_isWord_60 ?_
      have hs15 := hok.1
      have hok := hok.2
      refine ldI C hP 6 rfl hs15 rfl d_Mo_isWord_61 ?_
      refine lv_aload_n hx hb d_Mo_isWord_62 rfl (lv_at hl 1 rfl) ?_
      refine lv_iload_n hx hb d_Mo_isWord_63 rfl (lv_at hl 3 rfl) ?_
      have hs16 := hok.1
      have hok := hok.2
      have hB : SubW g (inW (wMo g mo a o now dr pa sa iS bu tq rT wT sK sA sB sE oq bS bE bL rp)) s (wMo g mo a o now dr pa sa iS bu tq rT wT sK sA sB sE oq bS bE bL rp) (wNil g ) [] _ _ := ⟨rfl, rfl, hP, hD, hS⟩
      refine goI0 hB (run_q C mf_JS_charAt qm_Mo_303 (c_JS_charAt l g n x3p39 hs16) rfl rfl ⟨Nat.le_of_ble_eq_true rfl, Nat.le_of_ble_eq_true rfl⟩ ⟨Nat.le_of_ble_eq_true rfl, Nat.le_of_ble_eq_true rfl⟩ hB (zRecv hZo hZ hs11 hS) hl rfl rfl (Nat.le_of_ble_eq_true rfl) d_Mo_isWord_64) (fun y17 ey17 H locs hP hS => ?_)
      have hz := lett_z hz ey17
      have hok := lett_o hok ey17
      refine lv_icmp_ne (tgt := 74) hx hb d_Mo_isWord_67 (by decide) (fun c18 => ?_) (fun c18 => ?_)
      · have hz := hz.trans (if_neg c18)
        have hok := hok.2 c18
        refine lv_iconst (v := 0) hx hb d_Mo_isWord_74 (by decide) ?_
        exact k_Mo_isWord_75 C ih39 (0 : Int32) hok _ hz _ _ ls hP hD hS (lv_sub hl [0, 1, 3] rfl)
      · have hz := hz.trans (if_pos c18)
        have hok := hok.1 c18
        refine lv_iconst (v := 1) hx hb d_Mo_isWord_70 (by decide) ?_
        refine lv_goto (tgt := 75) hx hb d_Mo_isWord_71 (by decide) ?_
        exact k_Mo_isWord_75 C ih39 (1 : Int32) hok _ hz _ _ ls hP hD hS (lv_sub hl [0, 1, 3] rfl)
theorem k_Mo_isWord_39 {p : Program} {l : Launch} {e : Env} {s : State} {m : MethodId} {args : Array Value} {below : List Frame} {meth : Method} {c : Code} {g : GX} {mo : Nat} {a : Nat → Nat} {o : IV} {now : LV} {dr : LV} {pa : LV} {sa : LV} {iS : IV} {bu : IV} {tq : IV} {rT : IV} {wT : IV} {sK : IV} {sA : IV} {sB : IV} {sE : IV} {oq : IV} {bS : IV} {bE : IV} {bL : IV} {rp : IV} {n : Nat}  (C : Cx p s m args meth c (inW (wMo g mo a o now dr pa sa iS bu tq rT wT sK sA sB sE oq bS bE bL rp)) g "DecadeBridgeModel" b_Mo_isWord (some .boolean) 4) (f : Nat)  : HL_Mo_isWord_39 p l e s m args below meth c g mo a o now dr pa sa iS bu tq rT wT sK sA sB sE oq bS bE bL rp n (sp_Mo_isWord_39 n bu o  f) (ok_Mo_isWord_39 n bu o   f) := by
  induction f with
  | zero => intro x2p39 x3p39 hok; exact False.elim hok
  | succ f ih => exact kb_Mo_isWord_39 C  ih
noncomputable def sp_Mo_isWord_36 (n : Nat) (bu : IV) (o : IV)  (t0p36 : Int32) : Int32 := sp_Mo_isWord_39 n bu o big t0p36 (0 : Int32)
def ok_Mo_isWord_36 (n : Nat) (bu : IV) (o : IV)   (t0p36 : Int32) : Prop := ok_Mo_isWord_39 n bu o big t0p36 (0 : Int32)
set_option maxRecDepth 100000 in
set_option maxHeartbeats 4000000 in
theorem k_Mo_isWord_36 {p : Program} {l : Launch} {e : Env} {s : State} {m : MethodId} {args : Array Value} {below : List Frame} {meth : Method} {c : Code} {g : GX} {mo : Nat} {a : Nat → Nat} {o : IV} {now : LV} {dr : LV} {pa : LV} {sa : LV} {iS : IV} {bu : IV} {tq : IV} {rT : IV} {wT : IV} {sK : IV} {sA : IV} {sB : IV} {sE : IV} {oq : IV} {bS : IV} {bE : IV} {bL : IV} {rp : IV} {n : Nat}  (C : Cx p s m args meth c (inW (wMo g mo a o now dr pa sa iS bu tq rT wT sK sA sB sE oq bS bE bL rp)) g "DecadeBridgeModel" b_Mo_isWord (some .boolean) 4)  : HL_Mo_isWord_36 p l e s m args below meth c g mo a o now dr pa sa iS bu tq rT wT sK sA sB sE oq bS bE bL rp n (sp_Mo_isWord_36 n bu o ) (ok_Mo_isWord_36 n bu o  ) := by
  intro t0p36 hok z hz H locs ls hP hD hS hl
  obtain ⟨hx, hb, hr, hml, hown, hlk, hts, hK, hZo, hZ⟩ := id C
  unfold sp_Mo_isWord_36 at hz
  unfold ok_Mo_isWord_36 at hok
  refine lv_istore_n (lv' := [(2, .int t0p36), (0, .ref mo), (1, .ref (g.2.2.2 (n + 1)))]) hx hb d_Mo_isWord_36 rfl hl (by decide) rfl (fun ls hl => ?_)
  refine lv_iconst (v := 0) hx hb d_Mo_isWord_37 (by decide) ?_
  refine lv_istore_n (lv' := [(3, .int (0 : Int32)), (2, .int t0p36), (0, .ref mo), (1, .ref (g.2.2.2 (n + 1)))]) hx hb d_Mo_isWord_38 rfl hl (by decide) rfl (fun ls hl => ?_)
  exact k_Mo_isWord_39 C big t0p36 (0 : Int32) hok _ hz _ _ ls hP hD hS (lv_sub hl [2, 3, 1, 0] rfl)
noncomputable def sp_Mo_isWord_35 (n : Nat) (bu : IV) (o : IV)   : Int32 := sp_Mo_isWord_36 n bu o (0 : Int32)
def ok_Mo_isWord_35 (n : Nat) (bu : IV) (o : IV)    : Prop := ok_Mo_isWord_36 n bu o (0 : Int32)
set_option maxRecDepth 100000 in
set_option maxHeartbeats 4000000 in
theorem k_Mo_isWord_35 {p : Program} {l : Launch} {e : Env} {s : State} {m : MethodId} {args : Array Value} {below : List Frame} {meth : Method} {c : Code} {g : GX} {mo : Nat} {a : Nat → Nat} {o : IV} {now : LV} {dr : LV} {pa : LV} {sa : LV} {iS : IV} {bu : IV} {tq : IV} {rT : IV} {wT : IV} {sK : IV} {sA : IV} {sB : IV} {sE : IV} {oq : IV} {bS : IV} {bE : IV} {bL : IV} {rp : IV} {n : Nat}  (C : Cx p s m args meth c (inW (wMo g mo a o now dr pa sa iS bu tq rT wT sK sA sB sE oq bS bE bL rp)) g "DecadeBridgeModel" b_Mo_isWord (some .boolean) 4)  : HL_Mo_isWord_35 p l e s m args below meth c g mo a o now dr pa sa iS bu tq rT wT sK sA sB sE oq bS bE bL rp n (sp_Mo_isWord_35 n bu o ) (ok_Mo_isWord_35 n bu o  ) := by
  intro _ hok z hz H locs ls hP hD hS hl
  obtain ⟨hx, hb, hr, hml, hown, hlk, hts, hK, hZo, hZ⟩ := id C
  unfold sp_Mo_isWord_35 at hz
  unfold ok_Mo_isWord_35 at hok
  refine lv_iconst (v := 0) hx hb d_Mo_isWord_35 (by decide) ?_
  exact k_Mo_isWord_36 C (0 : Int32) hok _ hz _ _ ls hP hD hS hl
noncomputable def sp_Mo_isWord (n : Nat) (o : IV) (bu : IV) : Int32 := lett (sp_Mo_good o) fun (y1 : Int32) => if y1 = 0 then (sp_Mo_isWord_35 n bu o) else (if (o 11) = (1 : Int32) then (lett (sp_JS_length n) fun (y6 : Int32) => if ((o 9) - (o 10)) = y6 then (sp_Mo_isWord_36 n bu o (1 : Int32)) else (sp_Mo_isWord_35 n bu o)) else (sp_Mo_isWord_35 n bu o))
def ok_Mo_isWord (n : Nat) (o : IV) (bu : IV) : Prop := lett (sp_Mo_good o) fun (y1 : Int32) => ((y1 = 0 → ok_Mo_isWord_35 n bu o) ∧ (¬ (y1 = 0) → (((o 11) = (1 : Int32) → (ok_JS_length n) ∧ (n < 20) ∧ lett (sp_JS_length n) fun (y6 : Int32) => ((((o 9) - (o 10)) = y6 → ok_Mo_isWord_36 n bu o (1 : Int32)) ∧ (¬ (((o 9) - (o 10)) = y6) → ok_Mo_isWord_35 n bu o))) ∧ (¬ ((o 11) = (1 : Int32)) → ok_Mo_isWord_35 n bu o))))
set_option maxRecDepth 100000 in
set_option maxHeartbeats 4000000 in
theorem c_Mo_isWord (l : Launch) (g : GX) (mo : Nat) (a : Nat → Nat) (o : IV) (now : LV) (dr : LV) (pa : LV) (sa : LV) (iS : IV) (bu : IV) (tq : IV) (rT : IV) (wT : IV) (sK : IV) (sA : IV) (sB : IV) (sE : IV) (oq : IV) (bS : IV) (bE : IV) (bL : IV) (rp : IV) (n : Nat) (hok : ok_Mo_isWord n o bu) : Met l y_Mo_isWord (wsY y_Mo_isWord b_Mo_isWord 4 (some .boolean)) rm_Mo_isWord (CP g [.ref mo, .ref (g.2.2.2 (n + 1))] (wMo g mo a o now dr pa sa iS bu tq rT wT sK sA sB sE oq bS bE bL rp)) (CI0 g (wMo g mo a o now dr pa sa iS bu tq rT wT sK sA sB sE oq bS bE bL rp) (sp_Mo_isWord n o bu)) 0 0 (inW (wMo g mo a o now dr pa sa iS bu tq rT wT sK sA sB sE oq bS bE bL rp)) := by
  refine Met.ofW (cc := b_Mo_isWord) (maxL := 4) (ret := (some .boolean)) pn_Mo rfl ?_
  intro p e s m args below meth c s₁ B hml hv
  obtain ⟨rfl, C, hP, hD, hS⟩ := enter "DecadeBridgeModel" rfl B hml hv
  obtain ⟨hx, hb, hr, hml, hown, hlk, hts, hK, hZo, hZ⟩ := id C
  refine entryW (lv := [(0, .ref mo), (1, .ref (g.2.2.2 (n + 1)))]) rfl (Nat.le_of_ble_eq_true rfl) (fun ls hl => ?_)
  obtain ⟨z, hz⟩ : ∃ z, z = sp_Mo_isWord n o bu := ⟨_, rfl⟩
  rw [← hz]
  unfold sp_Mo_isWord at hz
  unfold ok_Mo_isWord at hok
  refine lv_aload_n hx hb d_Mo_isWord_0 rfl (lv_at hl 0 rfl) ?_
  have hB : SubW g (inW (wMo g mo a o now dr pa sa iS bu tq rT wT sK sA sB sE oq bS bE bL rp)) s (wMo g mo a o now dr pa sa iS bu tq rT wT sK sA sB sE oq bS bE bL rp) _ (List.range _) _ _ := (subF hP hD hS)
  refine goI0 hB (run_v C mf_Mo_good qm_Mo_297 (c_Mo_good l g mo a o now dr pa sa iS bu tq rT wT sK sA sB sE oq bS bE bL rp) rfl rfl ⟨Nat.le_of_ble_eq_true rfl, Nat.le_of_ble_eq_true rfl⟩ ⟨Nat.le_of_ble_eq_true rfl, Nat.le_of_ble_eq_true rfl⟩ hB rfl rfl hl rfl rfl (Nat.le_of_ble_eq_true rfl) d_Mo_isWord_1) (fun y1 ey1 H locs hP hS => ?_)
  have hz := lett_z hz ey1
  have hok := lett_o hok ey1
  refine lv_if_eq (tgt := 35) hx hb d_Mo_isWord_4 (by decide) (fun c2 => ?_) (fun c2 => ?_)
  · have hz := hz.trans (if_pos c2)
    have hok := hok.1 c2
    exact k_Mo_isWord_35 C () hok _ hz _ _ ls hP hD hS hl
  · have hz := hz.trans (if_neg c2)
    have hok := hok.2 c2
    refine lv_aload_n hx hb d_Mo_isWord_7 rfl (lv_at hl 0 rfl) ?_
    refine gf C hP 0 11 fkMo rfl (by decide) rfl qf_Mo_288 (gMo_11 _ _) d_Mo_isWord_8 ?_
    refine lv_iconst (v := 1) hx hb d_Mo_isWord_11 (by decide) ?_
    refine lv_icmp_ne (tgt := 35) hx hb d_Mo_isWord_12 (by decide) (fun c3 => ?_) (fun c3 => ?_)
    · have hz := hz.trans (if_neg c3)
      have hok := hok.2 c3
      exact k_Mo_isWord_35 C () hok _ hz _ _ ls hP hD hS hl
    · have hz := hz.trans (if_pos c3)
      have hok := hok.1 c3
      refine lv_aload_n hx hb d_Mo_isWord_15 rfl (lv_at hl 0 rfl) ?_
      refine gf C hP 0 9 fkMo rfl (by decide) rfl qf_Mo_272 (gMo_9 _ _) d_Mo_isWord_16 ?_
      refine lv_aload_n hx hb d_Mo_isWord_19 rfl (lv_at hl 0 rfl) ?_
      refine gf C hP 0 10 fkMo rfl (by decide) rfl qf_Mo_278 (gMo_10 _ _) d_Mo_isWord_20 ?_
      refine lv_isub hx hb d_Mo_isWord_23 ?_
      refine lv_aload_n hx hb d_Mo_isWord_24 rfl (lv_at hl 1 rfl) ?_
      have hs4 := hok.1
      have hok := hok.2
      have hs5 := hok.1
      have hok := hok.2
      have hB : SubW g (inW (wMo g mo a o now dr pa sa iS bu tq rT wT sK sA sB sE oq bS bE bL rp)) s (wMo g mo a o now dr pa sa iS bu tq rT wT sK sA sB sE oq bS bE bL rp) (wNil g ) [] _ _ := ⟨rfl, rfl, hP, hD, hS⟩
      refine goI0 hB (run_q C mf_JS_length qm_Mo_300 (c_JS_length l g n hs4) rfl rfl ⟨Nat.le_of_ble_eq_true rfl, Nat.le_of_ble_eq_true rfl⟩ ⟨Nat.le_of_ble_eq_true rfl, Nat.le_of_ble_eq_true rfl⟩ hB (zRecv hZo hZ hs5 hS) hl rfl rfl (Nat.le_of_ble_eq_true rfl) d_Mo_isWord_25) (fun y6 ey6 H locs hP hS => ?_)
      have hz := lett_z hz ey6
      have hok := lett_o hok ey6
      refine lv_icmp_ne (tgt := 35) hx hb d_Mo_isWord_28 (by decide) (fun c7 => ?_) (fun c7 => ?_)
      · have hz := hz.trans (if_neg c7)
        have hok := hok.2 c7
        exact k_Mo_isWord_35 C () hok _ hz _ _ ls hP hD hS hl
      · have hz := hz.trans (if_pos c7)
        have hok := hok.1 c7
        refine lv_iconst (v := 1) hx hb d_Mo_isWord_31 (by decide) ?_
        refine lv_goto (tgt := 36) hx hb d_Mo_isWord_32 (by decide) ?_
        exact k_Mo_isWord_36 C (1 : Int32) hok _ hz _ _ ls hP hD hS hl
abbrev rm_Mo_takes : Room := { frames := 5, cells := 0, slots := 0, locals := 108 }
noncomputable def sp_Mo_takes (n : Nat) (o : IV) (bu : IV) : Int32 × IV := lett (sp_Mo_isWord n o bu) fun (y2 : Int32) => if y2 = 0 then ((y2, o)) else (lett (sp_Mo_scan o bu) fun (y6 : IV) => (y2, y6))
def ok_Mo_takes (n : Nat) (o : IV) (bu : IV) : Prop := (ok_Mo_isWord n o bu) ∧ lett (sp_Mo_isWord n o bu) fun (y2 : Int32) => ((y2 = 0 → (isB y2) ∧ True) ∧ (¬ (y2 = 0) → (ok_Mo_scan o bu) ∧ lett (sp_Mo_scan o bu) fun (y6 : IV) => (isB y2) ∧ True))
set_option maxRecDepth 100000 in
set_option maxHeartbeats 4000000 in
theorem c_Mo_takes (l : Launch) (g : GX) (mo : Nat) (a : Nat → Nat) (o : IV) (now : LV) (dr : LV) (pa : LV) (sa : LV) (iS : IV) (bu : IV) (tq : IV) (rT : IV) (wT : IV) (sK : IV) (sA : IV) (sB : IV) (sE : IV) (oq : IV) (bS : IV) (bE : IV) (bL : IV) (rp : IV) (n : Nat) (hok : ok_Mo_takes n o bu) : Met l y_Mo_takes (wsY y_Mo_takes b_Mo_takes 3 (some .boolean)) rm_Mo_takes (CP g [.ref mo, .ref (g.2.2.2 (n + 1))] (wMo g mo a o now dr pa sa iS bu tq rT wT sK sA sB sE oq bS bE bL rp)) (CI g (wMo g mo a o now dr pa sa iS bu tq rT wT sK sA sB sE oq bS bE bL rp) (fun u : IV => wMo g mo a u now dr pa sa iS bu tq rT wT sK sA sB sE oq bS bE bL rp) (sp_Mo_takes n o bu)) 0 0 (inW (wMo g mo a o now dr pa sa iS bu tq rT wT sK sA sB sE oq bS bE bL rp)) := by
  refine Met.ofW (cc := b_Mo_takes) (maxL := 3) (ret := (some .boolean)) pn_Mo rfl ?_
  intro p e s m args below meth c s₁ B hml hv
  obtain ⟨rfl, C, hP, hD, hS⟩ := enter "DecadeBridgeModel" rfl B hml hv
  obtain ⟨hx, hb, hr, hml, hown, hlk, hts, hK, hZo, hZ⟩ := id C
  refine entryW (lv := [(0, .ref mo), (1, .ref (g.2.2.2 (n + 1)))]) rfl (Nat.le_of_ble_eq_true rfl) (fun ls hl => ?_)
  obtain ⟨z, hz⟩ : ∃ z, z = sp_Mo_takes n o bu := ⟨_, rfl⟩
  rw [← hz]
  unfold sp_Mo_takes at hz
  unfold ok_Mo_takes at hok
  refine lv_aload_n hx hb d_Mo_takes_0 rfl (lv_at hl 0 rfl) ?_
  refine lv_aload_n hx hb d_Mo_takes_1 rfl (lv_at hl 1 rfl) ?_
  have hs1 := hok.1
  have hok := hok.2
  have hB : SubW g (inW (wMo g mo a o now dr pa sa iS bu tq rT wT sK sA sB sE oq bS bE bL rp)) s (wMo g mo a o now dr pa sa iS bu tq rT wT sK sA sB sE oq bS bE bL rp) _ (List.range _) _ _ := (subF hP hD hS)
  refine goI0 hB (run_v C mf_Mo_isWord qm_Mo_307 (c_Mo_isWord l g mo a o now dr pa sa iS bu tq rT wT sK sA sB sE oq bS bE bL rp n hs1) rfl rfl ⟨Nat.le_of_ble_eq_true rfl, Nat.le_of_ble_eq_true rfl⟩ ⟨Nat.le_of_ble_eq_true rfl, Nat.le_of_ble_eq_true rfl⟩ hB rfl rfl hl rfl rfl (Nat.le_of_ble_eq_true rfl) d_Mo_takes_2) (fun y2 ey2 H locs hP hS => ?_)
  have hz := lett_z hz ey2
  have hok := lett_o hok ey2
  refine lv_istore_n (lv' := [(2, .int y2), (0, .ref mo), (1, .ref (g.2.2.2 (n + 1)))]) hx hb d_Mo_takes_5 rfl hl (by decide) rfl (fun ls hl => ?_)
  refine lv_iload_n hx hb d_Mo_takes_6 rfl (lv_at hl 0 rfl) ?_
  refine lv_if_eq (tgt := 14) hx hb d_Mo_takes_7 (by decide) (fun c3 => ?_) (fun c3 => ?_)
  · have hz := hz.trans (if_pos c3)
    have hok := hok.1 c3
    refine lv_iload_n hx hb d_Mo_takes_14 rfl (lv_at hl 0 rfl) ?_
    have hs4 := hok.1
    have hok := hok.2
    exact endZ1 C hz hP hS (isB_nar hs4) d_Mo_takes_15
  · have hz := hz.trans (if_neg c3)
    have hok := hok.2 c3
    refine lv_aload_n hx hb d_Mo_takes_10 rfl (lv_at hl 1 rfl) ?_
    have hs5 := hok.1
    have hok := hok.2
    have hB : SubW g (inW (wMo g mo a o now dr pa sa iS bu tq rT wT sK sA sB sE oq bS bE bL rp)) s (wMo g mo a o now dr pa sa iS bu tq rT wT sK sA sB sE oq bS bE bL rp) _ (List.range _) _ _ := (subF hP hD hS)
    refine goVF hB (run_v C mf_Mo_scan qm_Mo_294 (c_Mo_scan l g mo a o now dr pa sa iS bu tq rT wT sK sA sB sE oq bS bE bL rp hs5) rfl rfl ⟨Nat.le_of_ble_eq_true rfl, Nat.le_of_ble_eq_true rfl⟩ ⟨Nat.le_of_ble_eq_true rfl, Nat.le_of_ble_eq_true rfl⟩ hB rfl rfl hl rfl rfl (Nat.le_of_ble_eq_true rfl) d_Mo_takes_11) (fun _ => rfl) (fun y6 ey6 H locs hP hD hS => ?_)
    have hP : va_P g.1 vwCl (wMo g mo a y6 now dr pa sa iS bu tq rT wT sK sA sB sE oq bS bE bL rp) H := hP
    have hD : va_D (inW (wMo g mo a o now dr pa sa iS bu tq rT wT sK sA sB sE oq bS bE bL rp)) (wMo g mo a y6 now dr pa sa iS bu tq rT wT sK sA sB sE oq bS bE bL rp) := hD
    have hz := lett_z hz ey6
    have hok := lett_o hok ey6
    refine lv_iload_n hx hb d_Mo_takes_14 rfl (lv_at hl 0 rfl) ?_
    have hs7 := hok.1
    have hok := hok.2
    exact endZ1 C hz hP hS (isB_nar hs7) d_Mo_takes_15
abbrev rm_Mo_sign : Room := { frames := 3, cells := 0, slots := 0, locals := 62 }
noncomputable def sp_Mo_sign (p1 : Int32) (o : IV) (bu : IV) : IV := lett (sp_Mo_isSign p1 o bu) fun (y2 : Int32) => lett (sp_Mo_must y2 (1 : Int32) o) fun (y3 : IV) => lett (sp_Mo_goOn y3 bu) fun (y5 : IV) => y5
def ok_Mo_sign (p1 : Int32) (o : IV) (bu : IV) : Prop := (ok_Mo_isSign p1 o) ∧ lett (sp_Mo_isSign p1 o bu) fun (y2 : Int32) => lett (sp_Mo_must y2 (1 : Int32) o) fun (y3 : IV) => (ok_Mo_goOn y3 bu) ∧ True
set_option maxRecDepth 100000 in
set_option maxHeartbeats 4000000 in
theorem c_Mo_sign (l : Launch) (g : GX) (mo : Nat) (a : Nat → Nat) (o : IV) (now : LV) (dr : LV) (pa : LV) (sa : LV) (iS : IV) (bu : IV) (tq : IV) (rT : IV) (wT : IV) (sK : IV) (sA : IV) (sB : IV) (sE : IV) (oq : IV) (bS : IV) (bE : IV) (bL : IV) (rp : IV) (p1 : Int32) (hok : ok_Mo_sign p1 o bu) : Met l y_Mo_sign (wsY y_Mo_sign b_Mo_sign 2 none) rm_Mo_sign (CP g [.ref mo, .int p1] (wMo g mo a o now dr pa sa iS bu tq rT wT sK sA sB sE oq bS bE bL rp)) (CV g (wMo g mo a o now dr pa sa iS bu tq rT wT sK sA sB sE oq bS bE bL rp) (fun u : IV => wMo g mo a u now dr pa sa iS bu tq rT wT sK sA sB sE oq bS bE bL rp) (sp_Mo_sign p1 o bu)) 0 0 (inW (wMo g mo a o now dr pa sa iS bu tq rT wT sK sA sB sE oq bS bE bL rp)) := by
  refine Met.ofW (cc := b_Mo_sign) (maxL := 2) (ret := none) pn_Mo rfl ?_
  intro p e s m args below meth c s₁ B hml hv
  obtain ⟨rfl, C, hP, hD, hS⟩ := enter "DecadeBridgeModel" rfl B hml hv
  obtain ⟨hx, hb, hr, hml, hown, hlk, hts, hK, hZo, hZ⟩ := id C
  refine entryW (lv := [(0, .ref mo), (1, .int p1)]) rfl (Nat.le_of_ble_eq_true rfl) (fun ls hl => ?_)
  obtain ⟨z, hz⟩ : ∃ z, z = sp_Mo_sign p1 o bu := ⟨_, rfl⟩
  rw [← hz]
  unfold sp_Mo_sign at hz
  unfold ok_Mo_sign at hok
  refine lv_aload_n hx hb d_Mo_sign_0 rfl (lv_at hl 0 rfl) ?_
  refine lv_aload_n hx hb d_Mo_sign_1 rfl (lv_at hl 0 rfl) ?_
  refine lv_iload_n hx hb d_Mo_sign_2 rfl (lv_at hl 1 rfl) ?_
  have hs1 := hok.1
  have hok := hok.2
  have hB : SubW g (inW (wMo g mo a o now dr pa sa iS bu tq rT wT sK sA sB sE oq bS bE bL rp)) s (wMo g mo a o now dr pa sa iS bu tq rT wT sK sA sB sE oq bS bE bL rp) _ (List.range _) _ _ := (subF hP hD hS)
  refine goI0 hB (run_v C mf_Mo_isSign qm_Mo_311 (c_Mo_isSign l g mo a o now dr pa sa iS bu tq rT wT sK sA sB sE oq bS bE bL rp p1 hs1) rfl rfl ⟨Nat.le_of_ble_eq_true rfl, Nat.le_of_ble_eq_true rfl⟩ ⟨Nat.le_of_ble_eq_true rfl, Nat.le_of_ble_eq_true rfl⟩ hB rfl rfl hl rfl rfl (Nat.le_of_ble_eq_true rfl) d_Mo_sign_3) (fun y2 ey2 H locs hP hS => ?_)
  have hz := lett_z hz ey2
  have hok := lett_o hok ey2
  refine lv_iconst (v := 1) hx hb d_Mo_sign_6 (by decide) ?_
  have hB : SubW g (inW (wMo g mo a o now dr pa sa iS bu tq rT wT sK sA sB sE oq bS bE bL rp)) s (wMo g mo a o now dr pa sa iS bu tq rT wT sK sA sB sE oq bS bE bL rp) _ (List.range _) _ _ := (subF hP hD hS)
  refine goVF hB (run_v C mf_Mo_must qm_Mo_314 (c_Mo_must l g mo a o now dr pa sa iS bu tq rT wT sK sA sB sE oq bS bE bL rp y2 (1 : Int32)) rfl rfl ⟨Nat.le_of_ble_eq_true rfl, Nat.le_of_ble_eq_true rfl⟩ ⟨Nat.le_of_ble_eq_true rfl, Nat.le_of_ble_eq_true rfl⟩ hB rfl rfl hl rfl rfl (Nat.le_of_ble_eq_true rfl) d_Mo_sign_7) (fun _ => rfl) (fun y3 ey3 H locs hP hD hS => ?_)
  have hP : va_P g.1 vwCl (wMo g mo a y3 now dr pa sa iS bu tq rT wT sK sA sB sE oq bS bE bL rp) H := hP
  have hD : va_D (inW (wMo g mo a o now dr pa sa iS bu tq rT wT sK sA sB sE oq bS bE bL rp)) (wMo g mo a y3 now dr pa sa iS bu tq rT wT sK sA sB sE oq bS bE bL rp) := hD
  have hz := lett_z hz ey3
  have hok := lett_o hok ey3
  refine lv_aload_n hx hb d_Mo_sign_10 rfl (lv_at hl 0 rfl) ?_
  have hs4 := hok.1
  have hok := hok.2
  have hB : SubW g (inW (wMo g mo a o now dr pa sa iS bu tq rT wT sK sA sB sE oq bS bE bL rp)) s (wMo g mo a y3 now dr pa sa iS bu tq rT wT sK sA sB sE oq bS bE bL rp) _ (List.range _) _ _ := (subF hP hD hS)
  refine goVF hB (run_v C mf_Mo_goOn qm_Mo_318 (c_Mo_goOn l g mo a y3 now dr pa sa iS bu tq rT wT sK sA sB sE oq bS bE bL rp hs4) rfl rfl ⟨Nat.le_of_ble_eq_true rfl, Nat.le_of_ble_eq_true rfl⟩ ⟨Nat.le_of_ble_eq_true rfl, Nat.le_of_ble_eq_true rfl⟩ hB rfl rfl hl rfl rfl (Nat.le_of_ble_eq_true rfl) d_Mo_sign_11) (fun _ => rfl) (fun y5 ey5 H locs hP hD hS => ?_)
  have hP : va_P g.1 vwCl (wMo g mo a y5 now dr pa sa iS bu tq rT wT sK sA sB sE oq bS bE bL rp) H := hP
  have hD : va_D (inW (wMo g mo a o now dr pa sa iS bu tq rT wT sK sA sB sE oq bS bE bL rp)) (wMo g mo a y5 now dr pa sa iS bu tq rT wT sK sA sB sE oq bS bE bL rp) := hD
  have hz := lett_z hz ey5
  exact endV C hz hP hS d_Mo_sign_14
abbrev rm_Mo_numberHere : Room := { frames := 0, cells := 0, slots := 0, locals := 0 }
def HL_Mo_numberHere_7 (p : Program) (l : Launch) (e : Env) (s : State) (m : MethodId) (args : Array Value) (below : List Frame) (meth : Method) (c : Code) (g : GX) (mo : Nat) (a : Nat → Nat) (o : IV) (now : LV) (dr : LV) (pa : LV) (sa : LV) (iS : IV) (bu : IV) (tq : IV) (rT : IV) (wT : IV) (sK : IV) (sA : IV) (sB : IV) (sE : IV) (oq : IV) (bS : IV) (bE : IV) (bL : IV) (rp : IV) (sp : Int64 → Int32 → Int64) (ok : Int64 → Int32 → Prop) : Prop := ∀ (x1p7 : Int64) (x3p7 : Int32), ok x1p7 x3p7 → ∀ z : Int64, z = sp x1p7 x3p7 → ∀ (H : Heap) (locs : List Loc) (ls : Array Slot), va_P g.1 vwCl (wMo g mo a o now dr pa sa iS bu tq rT wT sK sA sB sE oq bS bE bL rp) H → va_D (inW (wMo g mo a o now dr pa sa iS bu tq rT wT sK sA sB sE oq bS bE bL rp)) (wMo g mo a o now dr pa sa iS bu tq rT wT sK sA sB sE oq bS bE bL rp) → va_S (inW (wMo g mo a o now dr pa sa iS bu tq rT wT sK sA sB sE oq bS bE bL rp)) s.heap H locs → lv_has ls 4 [(0, .ref mo), (1, .long x1p7), (3, .int x3p7)] → W p l e rm_Mo_numberHere s m args below meth c H locs 0 0 (MQ below (CL0 g (wMo g mo a o now dr pa sa iS bu tq rT wT sK sA sB sE oq bS bE bL rp) z) args s 0 0 (inW (wMo g mo a o now dr pa sa iS bu tq rT wT sK sA sB sE oq bS bE bL rp))) (F0 m 7 ls [])
def HL_Mo_numberHere_50 (p : Program) (l : Launch) (e : Env) (s : State) (m : MethodId) (args : Array Value) (below : List Frame) (meth : Method) (c : Code) (g : GX) (mo : Nat) (a : Nat → Nat) (o : IV) (now : LV) (dr : LV) (pa : LV) (sa : LV) (iS : IV) (bu : IV) (tq : IV) (rT : IV) (wT : IV) (sK : IV) (sA : IV) (sB : IV) (sE : IV) (oq : IV) (bS : IV) (bE : IV) (bL : IV) (rp : IV) (x1p7 : Int64) (sp : Int64) (ok : Prop) : Prop := ∀ (_ : Unit), ok → ∀ z : Int64, z = sp → ∀ (H : Heap) (locs : List Loc) (ls : Array Slot), va_P g.1 vwCl (wMo g mo a o now dr pa sa iS bu tq rT wT sK sA sB sE oq bS bE bL rp) H → va_D (inW (wMo g mo a o now dr pa sa iS bu tq rT wT sK sA sB sE oq bS bE bL rp)) (wMo g mo a o now dr pa sa iS bu tq rT wT sK sA sB sE oq bS bE bL rp) → va_S (inW (wMo g mo a o now dr pa sa iS bu tq rT wT sK sA sB sE oq bS bE bL rp)) s.heap H locs → lv_has ls 4 [(0, .ref mo), (1, .long x1p7)] → W p l e rm_Mo_numberHere s m args below meth c H locs 0 0 (MQ below (CL0 g (wMo g mo a o now dr pa sa iS bu tq rT wT sK sA sB sE oq bS bE bL rp) z) args s 0 0 (inW (wMo g mo a o now dr pa sa iS bu tq rT wT sK sA sB sE oq bS bE bL rp))) (F0 m 50 ls [])
noncomputable def sp_Mo_numberHere_50 (o : IV) (x1p7 : Int64)   : Int64 := if ((o 9) - (o 10)) ≤ (9 : Int32) then (x1p7) else ((-2000000000 : Int64))
def ok_Mo_numberHere_50 (o : IV) (x1p7 : Int64)    : Prop := True
set_option maxRecDepth 100000 in
set_option maxHeartbeats 4000000 in
theorem k_Mo_numberHere_50 {p : Program} {l : Launch} {e : Env} {s : State} {m : MethodId} {args : Array Value} {below : List Frame} {meth : Method} {c : Code} {g : GX} {mo : Nat} {a : Nat → Nat} {o : IV} {now : LV} {dr : LV} {pa : LV} {sa : LV} {iS : IV} {bu : IV} {tq : IV} {rT : IV} {wT : IV} {sK : IV} {sA : IV} {sB : IV} {sE : IV} {oq : IV} {bS : IV} {bE : IV} {bL : IV} {rp : IV} {x1p7 : Int64}  (C : Cx p s m args meth c (inW (wMo g mo a o now dr pa sa iS bu tq rT wT sK sA sB sE oq bS bE bL rp)) g "DecadeBridgeModel" b_Mo_numberHere (some .long) 4)  : HL_Mo_numberHere_50 p l e s m args below meth c g mo a o now dr pa sa iS bu tq rT wT sK sA sB sE oq bS bE bL rp x1p7 (sp_Mo_numberHere_50 o x1p7 ) (ok_Mo_numberHere_50 o x1p7  ) := by
  intro _ hok z hz H locs ls hP hD hS hl
  obtain ⟨hx, hb, hr, hml, hown, hlk, hts, hK, hZo, hZ⟩ := id C
  unfold sp_Mo_numberHere_50 at hz
  refine lv_aload_n hx hb d_Mo_numberHere_50 rfl (lv_at hl 0 rfl) ?_
  refine gf C hP 0 9 fkMo rfl (by decide) rfl qf_Mo_272 (gMo_9 _ _) d_Mo_numberHere_51 ?_
  refine lv_aload_n hx hb d_Mo_numberHere_54 rfl (lv_at hl 0 rfl) ?_
  refine gf C hP 0 10 fkMo rfl (by decide) rfl qf_Mo_278 (gMo_10 _ _) d_Mo_numberHere_55 ?_
  refine lv_isub hx hb d_Mo_numberHere_58 ?_
  refine lv_bipush (v := 9) hx hb d_Mo_numberHere_59 (by decide) ?_
  refine lv_icmp_le (tgt := 70) hx hb d_Mo_numberHere_61 (by decide) (fun c7 => ?_) (fun c7 => ?_)
  · have hz := hz.trans (if_pos c7)
    refine lv_lload_n hx hb d_Mo_numberHere_70 rfl (lv_at hl 1 rfl) ?_
    exact endL0 C hz hP hS d_Mo_numberHere_71
  · have hz := hz.trans (if_neg c7)
    refine lv_ldc2 hx hb hown (hts _ qk_Mo_323) d_Mo_numberHere_64 ?_
    refine lv_goto (tgt := 71) hx hb d_Mo_numberHere_67 (by decide) ?_
    exact endL0 C hz hP hS d_Mo_numberHere_71
noncomputable def bd_Mo_numberHere_7 (o : IV) (bu : IV) (r7 : Int64 → Int32 → Int64) (x1p7 : Int64) (x3p7 : Int32) : Int64 := if (o 9) ≤ x3p7 then (sp_Mo_numberHere_50 o x1p7) else (if ((o 10) + (9 : Int32)) ≤ x3p7 then (sp_Mo_numberHere_50 o x1p7) else (lett ((((10 : Int64) * x1p7) + ((bu x3p7.toNatClampNeg).toInt64)) - (48 : Int64)) fun (v5 : Int64) => lett (x3p7 + (1 : Int32)) fun (v6 : Int32) => r7 v5 v6))
def okb_Mo_numberHere_7 (o : IV) (bu : IV) (r7 : Int64 → Int32 → Int64) (q7 : Int64 → Int32 → Prop) (x1p7 : Int64) (x3p7 : Int32) : Prop := (((o 9) ≤ x3p7 → True) ∧ (¬ ((o 9) ≤ x3p7) → ((((o 10) + (9 : Int32)) ≤ x3p7 → True) ∧ (¬ (((o 10) + (9 : Int32)) ≤ x3p7) → (vp_in x3p7 600) ∧ lett ((((10 : Int64) * x1p7) + ((bu x3p7.toNatClampNeg).toInt64)) - (48 : Int64)) fun (v5 : Int64) => lett (x3p7 + (1 : Int32)) fun (v6 : Int32) => q7 v5 v6))))
noncomputable def sp_Mo_numberHere_7 (o : IV) (bu : IV)  : Nat → Int64 → Int32 → Int64
  | 0 => fun _ _ => default
  | f + 1 => bd_Mo_numberHere_7 o bu  (sp_Mo_numberHere_7 o bu  f)
def ok_Mo_numberHere_7 (o : IV) (bu : IV)   : Nat → Int64 → Int32 → Prop
  | 0 => fun _ _ => False
  | f + 1 => okb_Mo_numberHere_7 o bu  (sp_Mo_numberHere_7 o bu  f)  (ok_Mo_numberHere_7 o bu   f)
set_option maxRecDepth 100000 in
set_option maxHeartbeats 4000000 in
theorem kb_Mo_numberHere_7 {p : Program} {l : Launch} {e : Env} {s : State} {m : MethodId} {args : Array Value} {below : List Frame} {meth : Method} {c : Code} {g : GX} {mo : Nat} {a : Nat → Nat} {o : IV} {now : LV} {dr : LV} {pa : LV} {sa : LV} {iS : IV} {bu : IV} {tq : IV} {rT : IV} {wT : IV} {sK : IV} {sA : IV} {sB : IV} {sE : IV} {oq : IV} {bS : IV} {bE : IV} {bL : IV} {rp : IV}  (C : Cx p s m args meth c (inW (wMo g mo a o now dr pa sa iS bu tq rT wT sK sA sB sE oq bS bE bL rp)) g "DecadeBridgeModel" b_Mo_numberHere (some .long) 4) {r7 : Int64 → Int32 → Int64} {q7 : Int64 → Int32 → Prop}  (ih7 : HL_Mo_numberHere_7 p l e s m args below meth c g mo a o now dr pa sa iS bu tq rT wT sK sA sB sE oq bS bE bL rp r7 q7) : HL_Mo_numberHere_7 p l e s m args below meth c g mo a o now dr pa sa iS bu tq rT wT sK sA sB sE oq bS bE bL rp (bd_Mo_numberHere_7 o bu  r7) (okb_Mo_numberHere_7 o bu  r7  q7) := by
  intro x1p7 x3p7 hok z hz H locs ls hP hD hS hl
  obtain ⟨hx, hb, hr, hml, hown, hlk, hts, hK, hZo, hZ⟩ := id C
  unfold bd_Mo_numberHere_7 at hz
  unfold okb_Mo_numberHere_7 at hok
  refine lv_iload_n hx hb d_Mo_numberHere_7 rfl (lv_at hl 2 rfl) ?_
  refine lv_aload_n hx hb d_Mo_numberHere_8 rfl (lv_at hl 0 rfl) ?_
  refine gf C hP 0 9 fkMo rfl (by decide) rfl qf_Mo_272 (gMo_9 _ _) d_Mo_numberHere_9 ?_
  refine lv_icmp_ge (tgt := 50) hx hb d_Mo_numberHere_12 (by decide) (fun c2 => ?_) (fun c2 => ?_)
  · have hz := hz.trans (if_pos c2)
    exact k_Mo_numberHere_50 C () trivial _ hz _ _ ls hP hD hS (lv_sub hl [0, 1] rfl)
  · have hz := hz.trans (if_neg c2)
    have hok := hok.2 c2
    refine lv_iload_n hx hb d_Mo_numberHere_15 rfl (lv_at hl 2 rfl) ?_
    refine lv_aload_n hx hb d_Mo_numberHere_16 rfl (lv_at hl 0 rfl) ?_
    refine gf C hP 0 10 fkMo rfl (by decide) rfl qf_Mo_278 (gMo_10 _ _) d_Mo_numberHere_17 ?_
    refine lv_bipush (v := 9) hx hb d_Mo_numberHere_20 (by decide) ?_
    refine lv_iadd hx hb d_Mo_numberHere_22 ?_
    refine lv_icmp_ge (tgt := 50) hx hb d_Mo_numberHere_23 (by decide) (fun c3 => ?_) (fun c3 => ?_)
    · have hz := hz.trans (if_pos c3)
      exact k_Mo_numberHere_50 C () trivial _ hz _ _ ls hP hD hS (lv_sub hl [0, 1] rfl)
    · have hz := hz.trans (if_neg c3)
      have hok := hok.2 c3
      refine lv_ldc2 hx hb hown (hts _ qk_Mo_110) d_Mo_numberHere_26 ?_
      refine lv_lload_n hx hb d_Mo_numberHere_29 rfl (lv_at hl 1 rfl) ?_
      refine lv_lmul hx hb d_Mo_numberHere_30 ?_
      refine lv_aload_n hx hb d_Mo_numberHere_31 rfl (lv_at hl 0 rfl) ?_
      refine gf C hP 0 7 fkMo rfl (by decide) rfl qf_Mo_26 (gMo_7 _ _) d_Mo_numberHere_32 ?_
      refine lv_iload_n hx hb d_Mo_numberHere_35 rfl (lv_at hl 2 rfl) ?_
      have hs4 := hok.1
      have hok := hok.2
      refine ldI C hP 6 rfl hs4 rfl d_Mo_numberHere_36 ?_
      refine lv_i2l hx hb d_Mo_numberHere_37 rfl ?_
      refine lv_ladd hx hb d_Mo_numberHere_38 ?_
      refine lv_ldc2 hx hb hown (hts _ qk_Mo_321) d_Mo_numberHere_39 ?_
      refine lv_lsub hx hb d_Mo_numberHere_42 ?_
      refine lv_topl (fun v5 ev5 => ?_)
      have hz := lett_z hz ev5
      have hok := lett_o hok ev5
      refine lv_lstore_n (lv' := [(1, .long v5), (0, .ref mo), (3, .int x3p7)]) hx hb d_Mo_numberHere_43 rfl hl (by decide) rfl (fun ls hl => ?_)
      obtain ⟨v6, ev6⟩ : ∃ y : Int32, y = x3p7 + (1 : Int32) := ⟨_, rfl⟩
      have hz := lett_z hz ev6
      have hok := lett_o hok ev6
      refine lv_iinc (v := v6) (lv' := [(3, .int v6), (1, .long v5), (0, .ref mo)]) hx hb d_Mo_numberHere_44 hl (k := 2) rfl (by rw [ev6]; rfl) (by decide) rfl (fun ls hl => ?_)
      refine lv_goto (tgt := 7) hx hb d_Mo_numberHere_47 (by decide) ?_
      exact ih7 v5 v6 hok _ hz _ _ ls hP hD hS (lv_sub hl [2, 1, 0] rfl)
theorem k_Mo_numberHere_7 {p : Program} {l : Launch} {e : Env} {s : State} {m : MethodId} {args : Array Value} {below : List Frame} {meth : Method} {c : Code} {g : GX} {mo : Nat} {a : Nat → Nat} {o : IV} {now : LV} {dr : LV} {pa : LV} {sa : LV} {iS : IV} {bu : IV} {tq : IV} {rT : IV} {wT : IV} {sK : IV} {sA : IV} {sB : IV} {sE : IV} {oq : IV} {bS : IV} {bE : IV} {bL : IV} {rp : IV}  (C : Cx p s m args meth c (inW (wMo g mo a o now dr pa sa iS bu tq rT wT sK sA sB sE oq bS bE bL rp)) g "DecadeBridgeModel" b_Mo_numberHere (some .long) 4) (f : Nat)  : HL_Mo_numberHere_7 p l e s m args below meth c g mo a o now dr pa sa iS bu tq rT wT sK sA sB sE oq bS bE bL rp (sp_Mo_numberHere_7 o bu  f) (ok_Mo_numberHere_7 o bu   f) := by
  induction f with
  | zero => intro x1p7 x3p7 hok; exact False.elim hok
  | succ f ih => exact kb_Mo_numberHere_7 C  ih
noncomputable def sp_Mo_numberHere (o : IV) (bu : IV) : Int64 := lett (o 10) fun (v1 : Int32) => sp_Mo_numberHere_7 o bu big (0 : Int64) v1
def ok_Mo_numberHere (o : IV) (bu : IV) : Prop := lett (o 10) fun (v1 : Int32) => ok_Mo_numberHere_7 o bu big (0 : Int64) v1
set_option maxRecDepth 100000 in
set_option maxHeartbeats 4000000 in
theorem c_Mo_numberHere (l : Launch) (g : GX) (mo : Nat) (a : Nat → Nat) (o : IV) (now : LV) (dr : LV) (pa : LV) (sa : LV) (iS : IV) (bu : IV) (tq : IV) (rT : IV) (wT : IV) (sK : IV) (sA : IV) (sB : IV) (sE : IV) (oq : IV) (bS : IV) (bE : IV) (bL : IV) (rp : IV)  (hok : ok_Mo_numberHere o bu) : Met l y_Mo_numberHere (wsY y_Mo_numberHere b_Mo_numberHere 4 (some .long)) rm_Mo_numberHere (CP g [.ref mo] (wMo g mo a o now dr pa sa iS bu tq rT wT sK sA sB sE oq bS bE bL rp)) (CL0 g (wMo g mo a o now dr pa sa iS bu tq rT wT sK sA sB sE oq bS bE bL rp) (sp_Mo_numberHere o bu)) 0 0 (inW (wMo g mo a o now dr pa sa iS bu tq rT wT sK sA sB sE oq bS bE bL rp)) := by
  refine Met.ofW (cc := b_Mo_numberHere) (maxL := 4) (ret := (some .long)) pn_Mo rfl ?_
  intro p e s m args below meth c s₁ B hml hv
  obtain ⟨rfl, C, hP, hD, hS⟩ := enter "DecadeBridgeModel" rfl B hml hv
  obtain ⟨hx, hb, hr, hml, hown, hlk, hts, hK, hZo, hZ⟩ := id C
  refine entryW (lv := [(0, .ref mo)]) rfl (Nat.le_of_ble_eq_true rfl) (fun ls hl => ?_)
  obtain ⟨z, hz⟩ : ∃ z, z = sp_Mo_numberHere o bu := ⟨_, rfl⟩
  rw [← hz]
  unfold sp_Mo_numberHere at hz
  unfold ok_Mo_numberHere at hok
  refine lv_lconst (v := 0) hx hb d_Mo_numberHere_0 (by decide) ?_
  refine lv_lstore_n (lv' := [(1, .long (0 : Int64)), (0, .ref mo)]) hx hb d_Mo_numberHere_1 rfl hl (by decide) rfl (fun ls hl => ?_)
  refine lv_aload_n hx hb d_Mo_numberHere_2 rfl (lv_at hl 1 rfl) ?_
  refine gf C hP 0 10 fkMo rfl (by decide) rfl qf_Mo_278 (gMo_10 _ _) d_Mo_numberHere_3 ?_
  refine lv_topi (fun v1 ev1 => ?_)
  have hz := lett_z hz ev1
  have hok := lett_o hok ev1
  refine lv_istore_n (lv' := [(3, .int v1), (1, .long (0 : Int64)), (0, .ref mo)]) hx hb d_Mo_numberHere_6 rfl hl (by decide) rfl (fun ls hl => ?_)
  exact k_Mo_numberHere_7 C big (0 : Int64) v1 hok _ hz _ _ ls hP hD hS (lv_sub hl [2, 1, 0] rfl)
abbrev rm_Mo_numberAhead : Room := { frames := 2, cells := 0, slots := 0, locals := 42 }
def HL_Mo_numberAhead_14 (p : Program) (l : Launch) (e : Env) (s : State) (m : MethodId) (args : Array Value) (below : List Frame) (meth : Method) (c : Code) (g : GX) (mo : Nat) (a : Nat → Nat) (ws0 : va_W) (o : IV) (now : LV) (dr : LV) (pa : LV) (sa : LV) (iS : IV) (bu : IV) (tq : IV) (rT : IV) (wT : IV) (sK : IV) (sA : IV) (sB : IV) (sE : IV) (oq : IV) (bS : IV) (bE : IV) (bL : IV) (rp : IV) (p1 : Int64) (p2 : Int64) (sp : Int32 → (Int64 × IV)) (ok : Int32 → Prop) : Prop := ∀ (t1p14 : Int32), ok t1p14 → ∀ z : (Int64 × IV), z = sp t1p14 → ∀ (H : Heap) (locs : List Loc) (ls : Array Slot), va_P g.1 vwCl (wMo g mo a o now dr pa sa iS bu tq rT wT sK sA sB sE oq bS bE bL rp) H → va_D (inW ws0) (wMo g mo a o now dr pa sa iS bu tq rT wT sK sA sB sE oq bS bE bL rp) → va_S (inW ws0) s.heap H locs → lv_has ls 5 [(0, .ref mo), (1, .long p1), (3, .long p2)] → W p l e rm_Mo_numberAhead s m args below meth c H locs 0 0 (MQ below (CL g ws0 (fun u : IV => wMo g mo a u now dr pa sa iS bu tq rT wT sK sA sB sE oq bS bE bL rp) z) args s 0 0 (inW ws0)) (F0 m 14 ls [.int t1p14, .ref mo])
def HL_Mo_numberAhead_38 (p : Program) (l : Launch) (e : Env) (s : State) (m : MethodId) (args : Array Value) (below : List Frame) (meth : Method) (c : Code) (g : GX) (mo : Nat) (a : Nat → Nat) (ws0 : va_W) (y2 : IV) (now : LV) (dr : LV) (pa : LV) (sa : LV) (iS : IV) (bu : IV) (tq : IV) (rT : IV) (wT : IV) (sK : IV) (sA : IV) (sB : IV) (sE : IV) (oq : IV) (bS : IV) (bE : IV) (bL : IV) (rp : IV) (p1 : Int64) (sp : (Int64 × IV)) (ok : Prop) : Prop := ∀ (_ : Unit), ok → ∀ z : (Int64 × IV), z = sp → ∀ (H : Heap) (locs : List Loc) (ls : Array Slot), va_P g.1 vwCl (wMo g mo a y2 now dr pa sa iS bu tq rT wT sK sA sB sE oq bS bE bL rp) H → va_D (inW ws0) (wMo g mo a y2 now dr pa sa iS bu tq rT wT sK sA sB sE oq bS bE bL rp) → va_S (inW ws0) s.heap H locs → lv_has ls 5 [(0, .ref mo), (1, .long p1)] → W p l e rm_Mo_numberAhead s m args below meth c H locs 0 0 (MQ below (CL g ws0 (fun u : IV => wMo g mo a u now dr pa sa iS bu tq rT wT sK sA sB sE oq bS bE bL rp) z) args s 0 0 (inW ws0)) (F0 m 38 ls [.ref mo])
def HL_Mo_numberAhead_43 (p : Program) (l : Launch) (e : Env) (s : State) (m : MethodId) (args : Array Value) (below : List Frame) (meth : Method) (c : Code) (g : GX) (mo : Nat) (a : Nat → Nat) (ws0 : va_W) (y2 : IV) (now : LV) (dr : LV) (pa : LV) (sa : LV) (iS : IV) (bu : IV) (tq : IV) (rT : IV) (wT : IV) (sK : IV) (sA : IV) (sB : IV) (sE : IV) (oq : IV) (bS : IV) (bE : IV) (bL : IV) (rp : IV) (p1 : Int64) (sp : Int32 → (Int64 × IV)) (ok : Int32 → Prop) : Prop := ∀ (t1p43 : Int32), ok t1p43 → ∀ z : (Int64 × IV), z = sp t1p43 → ∀ (H : Heap) (locs : List Loc) (ls : Array Slot), va_P g.1 vwCl (wMo g mo a y2 now dr pa sa iS bu tq rT wT sK sA sB sE oq bS bE bL rp) H → va_D (inW ws0) (wMo g mo a y2 now dr pa sa iS bu tq rT wT sK sA sB sE oq bS bE bL rp) → va_S (inW ws0) s.heap H locs → lv_has ls 5 [(0, .ref mo), (1, .long p1)] → W p l e rm_Mo_numberAhead s m args below meth c H locs 0 0 (MQ below (CL g ws0 (fun u : IV => wMo g mo a u now dr pa sa iS bu tq rT wT sK sA sB sE oq bS bE bL rp) z) args s 0 0 (inW ws0)) (F0 m 43 ls [.int t1p43, .ref mo])
noncomputable def sp_Mo_numberAhead_43 (y2 : IV) (p1 : Int64) (bu : IV)  (t1p43 : Int32) : Int64 × IV := lett (sp_Mo_must t1p43 (2 : Int32) y2) fun (y9 : IV) => lett (sp_Mo_good y9) fun (y10 : Int32) => if y10 = 0 then ((p1, y9)) else (lett (sp_Mo_numberHere y9 bu) fun (y13 : Int64) => (y13, y9))
def ok_Mo_numberAhead_43 (y2 : IV) (p1 : Int64) (bu : IV)   (t1p43 : Int32) : Prop := lett (sp_Mo_must t1p43 (2 : Int32) y2) fun (y9 : IV) => lett (sp_Mo_good y9) fun (y10 : Int32) => ((y10 = 0 → True) ∧ (¬ (y10 = 0) → (ok_Mo_numberHere y9 bu) ∧ True))
set_option maxRecDepth 100000 in
set_option maxHeartbeats 4000000 in
theorem k_Mo_numberAhead_43 {p : Program} {l : Launch} {e : Env} {s : State} {m : MethodId} {args : Array Value} {below : List Frame} {meth : Method} {c : Code} {g : GX} {mo : Nat} {a : Nat → Nat} {ws0 : va_W} {y2 : IV} {now : LV} {dr : LV} {pa : LV} {sa : LV} {iS : IV} {bu : IV} {tq : IV} {rT : IV} {wT : IV} {sK : IV} {sA : IV} {sB : IV} {sE : IV} {oq : IV} {bS : IV} {bE : IV} {bL : IV} {rp : IV} {p1 : Int64}  (C : Cx p s m args meth c (inW ws0) g "DecadeBridgeModel" b_Mo_numberAhead (some .long) 5)  : HL_Mo_numberAhead_43 p l e s m args below meth c g mo a ws0 y2 now dr pa sa iS bu tq rT wT sK sA sB sE oq bS bE bL rp p1 (sp_Mo_numberAhead_43 y2 p1 bu ) (ok_Mo_numberAhead_43 y2 p1 bu  ) := by
  intro t1p43 hok z hz H locs ls hP hD hS hl
  obtain ⟨hx, hb, hr, hml, hown, hlk, hts, hK, hZo, hZ⟩ := id C
  unfold sp_Mo_numberAhead_43 at hz
  unfold ok_Mo_numberAhead_43 at hok
  refine lv_iconst (v := 2) hx hb d_Mo_numberAhead_43 (by decide) ?_
  have hB : SubW g (inW ws0) s (wMo g mo a y2 now dr pa sa iS bu tq rT wT sK sA sB sE oq bS bE bL rp) _ (List.range _) _ _ := (subF hP hD hS)
  refine goVF hB (run_v C mf_Mo_must qm_Mo_314 (c_Mo_must l g mo a y2 now dr pa sa iS bu tq rT wT sK sA sB sE oq bS bE bL rp t1p43 (2 : Int32)) rfl rfl ⟨Nat.le_of_ble_eq_true rfl, Nat.le_of_ble_eq_true rfl⟩ ⟨Nat.le_of_ble_eq_true rfl, Nat.le_of_ble_eq_true rfl⟩ hB rfl rfl hl rfl rfl (Nat.le_of_ble_eq_true rfl) d_Mo_numberAhead_44) (fun _ => rfl) (fun y9 ey9 H locs hP hD hS => ?_)
  have hP : va_P g.1 vwCl (wMo g mo a y9 now dr pa sa iS bu tq rT wT sK sA sB sE oq bS bE bL rp) H := hP
  have hD : va_D (inW ws0) (wMo g mo a y9 now dr pa sa iS bu tq rT wT sK sA sB sE oq bS bE bL rp) := hD
  have hz := lett_z hz ey9
  have hok := lett_o hok ey9
  refine lv_aload_n hx hb d_Mo_numberAhead_47 rfl (lv_at hl 0 rfl) ?_
  have hB : SubW g (inW ws0) s (wMo g mo a y9 now dr pa sa iS bu tq rT wT sK sA sB sE oq bS bE bL rp) _ (List.range _) _ _ := (subF hP hD hS)
  refine goI0 hB (run_v C mf_Mo_good qm_Mo_297 (c_Mo_good l g mo a y9 now dr pa sa iS bu tq rT wT sK sA sB sE oq bS bE bL rp) rfl rfl ⟨Nat.le_of_ble_eq_true rfl, Nat.le_of_ble_eq_true rfl⟩ ⟨Nat.le_of_ble_eq_true rfl, Nat.le_of_ble_eq_true rfl⟩ hB rfl rfl hl rfl rfl (Nat.le_of_ble_eq_true rfl) d_Mo_numberAhead_48) (fun y10 ey10 H locs hP hS => ?_)
  have hz := lett_z hz ey10
  have hok := lett_o hok ey10
  refine lv_if_eq (tgt := 61) hx hb d_Mo_numberAhead_51 (by decide) (fun c11 => ?_) (fun c11 => ?_)
  · have hz := hz.trans (if_pos c11)
    refine lv_lload_n hx hb d_Mo_numberAhead_61 rfl (lv_at hl 1 rfl) ?_
    exact endL1 C hz hP hS d_Mo_numberAhead_62
  · have hz := hz.trans (if_neg c11)
    have hok := hok.2 c11
    refine lv_aload_n hx hb d_Mo_numberAhead_54 rfl (lv_at hl 0 rfl) ?_
    have hs12 := hok.1
    have hok := hok.2
    have hB : SubW g (inW ws0) s (wMo g mo a y9 now dr pa sa iS bu tq rT wT sK sA sB sE oq bS bE bL rp) _ (List.range _) _ _ := (subF hP hD hS)
    refine goL0 hB (run_v C mf_Mo_numberHere qm_Mo_325 (c_Mo_numberHere l g mo a y9 now dr pa sa iS bu tq rT wT sK sA sB sE oq bS bE bL rp hs12) rfl rfl ⟨Nat.le_of_ble_eq_true rfl, Nat.le_of_ble_eq_true rfl⟩ ⟨Nat.le_of_ble_eq_true rfl, Nat.le_of_ble_eq_true rfl⟩ hB rfl rfl hl rfl rfl (Nat.le_of_ble_eq_true rfl) d_Mo_numberAhead_55) (fun y13 ey13 H locs hP hS => ?_)
    have hz := lett_z hz ey13
    refine lv_goto (tgt := 62) hx hb d_Mo_numberAhead_58 (by decide) ?_
    exact endL1 C hz hP hS d_Mo_numberAhead_62
noncomputable def sp_Mo_numberAhead_38 (y2 : IV) (p1 : Int64) (bu : IV)   : Int64 × IV := sp_Mo_numberAhead_43 y2 p1 bu (1 : Int32)
def ok_Mo_numberAhead_38 (y2 : IV) (p1 : Int64) (bu : IV)    : Prop := ok_Mo_numberAhead_43 y2 p1 bu (1 : Int32)
set_option maxRecDepth 100000 in
set_option maxHeartbeats 4000000 in
theorem k_Mo_numberAhead_38 {p : Program} {l : Launch} {e : Env} {s : State} {m : MethodId} {args : Array Value} {below : List Frame} {meth : Method} {c : Code} {g : GX} {mo : Nat} {a : Nat → Nat} {ws0 : va_W} {y2 : IV} {now : LV} {dr : LV} {pa : LV} {sa : LV} {iS : IV} {bu : IV} {tq : IV} {rT : IV} {wT : IV} {sK : IV} {sA : IV} {sB : IV} {sE : IV} {oq : IV} {bS : IV} {bE : IV} {bL : IV} {rp : IV} {p1 : Int64}  (C : Cx p s m args meth c (inW ws0) g "DecadeBridgeModel" b_Mo_numberAhead (some .long) 5)  : HL_Mo_numberAhead_38 p l e s m args below meth c g mo a ws0 y2 now dr pa sa iS bu tq rT wT sK sA sB sE oq bS bE bL rp p1 (sp_Mo_numberAhead_38 y2 p1 bu ) (ok_Mo_numberAhead_38 y2 p1 bu  ) := by
  intro _ hok z hz H locs ls hP hD hS hl
  obtain ⟨hx, hb, hr, hml, hown, hlk, hts, hK, hZo, hZ⟩ := id C
  unfold sp_Mo_numberAhead_38 at hz
  unfold ok_Mo_numberAhead_38 at hok
  refine lv_iconst (v := 1) hx hb d_Mo_numberAhead_38 (by decide) ?_
  refine lv_goto (tgt := 43) hx hb d_Mo_numberAhead_39 (by decide) ?_
  exact k_Mo_numberAhead_43 C (1 : Int32) hok _ hz _ _ ls hP hD hS hl
noncomputable def sp_Mo_numberAhead_14 (o : IV) (p1 : Int64) (bu : IV) (p2 : Int64)  (t1p14 : Int32) : Int64 × IV := lett (sp_Mo_must t1p14 (1 : Int32) o) fun (y2 : IV) => lett (sp_Mo_good y2) fun (y3 : Int32) => if y3 = 0 then (sp_Mo_numberAhead_38 y2 p1 bu) else (lett (sp_Mo_numberHere y2 bu) fun (y6 : Int64) => lett (sp_Mo_in y6 p1 p2) fun (y7 : Int32) => if y7 = 0 then (sp_Mo_numberAhead_43 y2 p1 bu (0 : Int32)) else (sp_Mo_numberAhead_38 y2 p1 bu))
def ok_Mo_numberAhead_14 (o : IV) (p1 : Int64) (bu : IV) (p2 : Int64)   (t1p14 : Int32) : Prop := lett (sp_Mo_must t1p14 (1 : Int32) o) fun (y2 : IV) => lett (sp_Mo_good y2) fun (y3 : Int32) => ((y3 = 0 → ok_Mo_numberAhead_38 y2 p1 bu) ∧ (¬ (y3 = 0) → (ok_Mo_numberHere y2 bu) ∧ lett (sp_Mo_numberHere y2 bu) fun (y6 : Int64) => lett (sp_Mo_in y6 p1 p2) fun (y7 : Int32) => ((y7 = 0 → ok_Mo_numberAhead_43 y2 p1 bu (0 : Int32)) ∧ (¬ (y7 = 0) → ok_Mo_numberAhead_38 y2 p1 bu))))
set_option maxRecDepth 100000 in
set_option maxHeartbeats 4000000 in
theorem k_Mo_numberAhead_14 {p : Program} {l : Launch} {e : Env} {s : State} {m : MethodId} {args : Array Value} {below : List Frame} {meth : Method} {c : Code} {g : GX} {mo : Nat} {a : Nat → Nat} {ws0 : va_W} {o : IV} {now : LV} {dr : LV} {pa : LV} {sa : LV} {iS : IV} {bu : IV} {tq : IV} {rT : IV} {wT : IV} {sK : IV} {sA : IV} {sB : IV} {sE : IV} {oq : IV} {bS : IV} {bE : IV} {bL : IV} {rp : IV} {p1 : Int64} {p2 : Int64}  (C : Cx p s m args meth c (inW ws0) g "DecadeBridgeModel" b_Mo_numberAhead (some .long) 5)  : HL_Mo_numberAhead_14 p l e s m args below meth c g mo a ws0 o now dr pa sa iS bu tq rT wT sK sA sB sE oq bS bE bL rp p1 p2 (sp_Mo_numberAhead_14 o p1 bu p2 ) (ok_Mo_numberAhead_14 o p1 bu p2  ) := by
  intro t1p14 hok z hz H locs ls hP hD hS hl
  obtain ⟨hx, hb, hr, hml, hown, hlk, hts, hK, hZo, hZ⟩ := id C
  unfold sp_Mo_numberAhead_14 at hz
  unfold ok_Mo_numberAhead_14 at hok
  refine lv_iconst (v := 1) hx hb d_Mo_numberAhead_14 (by decide) ?_
  have hB : SubW g (inW ws0) s (wMo g mo a o now dr pa sa iS bu tq rT wT sK sA sB sE oq bS bE bL rp) _ (List.range _) _ _ := (subF hP hD hS)
  refine goVF hB (run_v C mf_Mo_must qm_Mo_314 (c_Mo_must l g mo a o now dr pa sa iS bu tq rT wT sK sA sB sE oq bS bE bL rp t1p14 (1 : Int32)) rfl rfl ⟨Nat.le_of_ble_eq_true rfl, Nat.le_of_ble_eq_true rfl⟩ ⟨Nat.le_of_ble_eq_true rfl, Nat.le_of_ble_eq_true rfl⟩ hB rfl rfl hl rfl rfl (Nat.le_of_ble_eq_true rfl) d_Mo_numberAhead_15) (fun _ => rfl) (fun y2 ey2 H locs hP hD hS => ?_)
  have hP : va_P g.1 vwCl (wMo g mo a y2 now dr pa sa iS bu tq rT wT sK sA sB sE oq bS bE bL rp) H := hP
  have hD : va_D (inW ws0) (wMo g mo a y2 now dr pa sa iS bu tq rT wT sK sA sB sE oq bS bE bL rp) := hD
  have hz := lett_z hz ey2
  have hok := lett_o hok ey2
  refine lv_aload_n hx hb d_Mo_numberAhead_18 rfl (lv_at hl 0 rfl) ?_
  refine lv_aload_n hx hb d_Mo_numberAhead_19 rfl (lv_at hl 0 rfl) ?_
  have hB : SubW g (inW ws0) s (wMo g mo a y2 now dr pa sa iS bu tq rT wT sK sA sB sE oq bS bE bL rp) _ (List.range _) _ _ := (subF hP hD hS)
  refine goI0 hB (run_v C mf_Mo_good qm_Mo_297 (c_Mo_good l g mo a y2 now dr pa sa iS bu tq rT wT sK sA sB sE oq bS bE bL rp) rfl rfl ⟨Nat.le_of_ble_eq_true rfl, Nat.le_of_ble_eq_true rfl⟩ ⟨Nat.le_of_ble_eq_true rfl, Nat.le_of_ble_eq_true rfl⟩ hB rfl rfl hl rfl rfl (Nat.le_of_ble_eq_true rfl) d_Mo_numberAhead_20) (fun y3 ey3 H locs hP hS => ?_)
  have hz := lett_z hz ey3
  have hok := lett_o hok ey3
  refine lv_if_eq (tgt := 38) hx hb d_Mo_numberAhead_23 (by decide) (fun c4 => ?_) (fun c4 => ?_)
  · have hz := hz.trans (if_pos c4)
    have hok := hok.1 c4
    exact k_Mo_numberAhead_38 C () hok _ hz _ _ ls hP hD hS (lv_sub hl [0, 1] rfl)
  · have hz := hz.trans (if_neg c4)
    have hok := hok.2 c4
    refine lv_aload_n hx hb d_Mo_numberAhead_26 rfl (lv_at hl 0 rfl) ?_
    have hs5 := hok.1
    have hok := hok.2
    have hB : SubW g (inW ws0) s (wMo g mo a y2 now dr pa sa iS bu tq rT wT sK sA sB sE oq bS bE bL rp) _ (List.range _) _ _ := (subF hP hD hS)
    refine goL0 hB (run_v C mf_Mo_numberHere qm_Mo_325 (c_Mo_numberHere l g mo a y2 now dr pa sa iS bu tq rT wT sK sA sB sE oq bS bE bL rp hs5) rfl rfl ⟨Nat.le_of_ble_eq_true rfl, Nat.le_of_ble_eq_true rfl⟩ ⟨Nat.le_of_ble_eq_true rfl, Nat.le_of_ble_eq_true rfl⟩ hB rfl rfl hl rfl rfl (Nat.le_of_ble_eq_true rfl) d_Mo_numberAhead_27) (fun y6 ey6 H locs hP hS => ?_)
    have hz := lett_z hz ey6
    have hok := lett_o hok ey6
    refine lv_lload_n hx hb d_Mo_numberAhead_30 rfl (lv_at hl 1 rfl) ?_
    refine lv_lload_n hx hb d_Mo_numberAhead_31 rfl (lv_at hl 2 rfl) ?_
    have hB : SubW g (inW ws0) s (wMo g mo a y2 now dr pa sa iS bu tq rT wT sK sA sB sE oq bS bE bL rp) _ (List.range _) _ _ := (subF hP hD hS)
    refine goI0 hB (run_s C mf_Mo_in qm_Mo_118 (c_Mo_in l g mo a y2 now dr pa sa iS bu tq rT wT sK sA sB sE oq bS bE bL rp y6 p1 p2) rfl rfl ⟨Nat.le_of_ble_eq_true rfl, Nat.le_of_ble_eq_true rfl⟩ ⟨Nat.le_of_ble_eq_true rfl, Nat.le_of_ble_eq_true rfl⟩ hB hl rfl rfl (Nat.le_of_ble_eq_true rfl) d_Mo_numberAhead_32) (fun y7 ey7 H locs hP hS => ?_)
    have hz := lett_z hz ey7
    have hok := lett_o hok ey7
    refine lv_if_eq (tgt := 42) hx hb d_Mo_numberAhead_35 (by decide) (fun c8 => ?_) (fun c8 => ?_)
    · have hz := hz.trans (if_pos c8)
      have hok := hok.1 c8
      refine lv_iconst (v := 0) hx hb d_Mo_numberAhead_42 (by decide) ?_
      exact k_Mo_numberAhead_43 C (0 : Int32) hok _ hz _ _ ls hP hD hS (lv_sub hl [0, 1] rfl)
    · have hz := hz.trans (if_neg c8)
      have hok := hok.2 c8
      exact k_Mo_numberAhead_38 C () hok _ hz _ _ ls hP hD hS (lv_sub hl [0, 1] rfl)
noncomputable def sp_Mo_numberAhead (p1 : Int64) (p2 : Int64) (o : IV) (bu : IV) : Int64 × IV := if (o 11) = (2 : Int32) then (sp_Mo_numberAhead_14 o p1 bu p2 (1 : Int32)) else (sp_Mo_numberAhead_14 o p1 bu p2 (0 : Int32))
def ok_Mo_numberAhead (p1 : Int64) (p2 : Int64) (o : IV) (bu : IV) : Prop := (((o 11) = (2 : Int32) → ok_Mo_numberAhead_14 o p1 bu p2 (1 : Int32)) ∧ (¬ ((o 11) = (2 : Int32)) → ok_Mo_numberAhead_14 o p1 bu p2 (0 : Int32)))
set_option maxRecDepth 100000 in
set_option maxHeartbeats 4000000 in
theorem c_Mo_numberAhead (l : Launch) (g : GX) (mo : Nat) (a : Nat → Nat) (o : IV) (now : LV) (dr : LV) (pa : LV) (sa : LV) (iS : IV) (bu : IV) (tq : IV) (rT : IV) (wT : IV) (sK : IV) (sA : IV) (sB : IV) (sE : IV) (oq : IV) (bS : IV) (bE : IV) (bL : IV) (rp : IV) (p1 : Int64) (p2 : Int64) (hok : ok_Mo_numberAhead p1 p2 o bu) : Met l y_Mo_numberAhead (wsY y_Mo_numberAhead b_Mo_numberAhead 5 (some .long)) rm_Mo_numberAhead (CP g [.ref mo, .long p1, .long p2] (wMo g mo a o now dr pa sa iS bu tq rT wT sK sA sB sE oq bS bE bL rp)) (CL g (wMo g mo a o now dr pa sa iS bu tq rT wT sK sA sB sE oq bS bE bL rp) (fun u : IV => wMo g mo a u now dr pa sa iS bu tq rT wT sK sA sB sE oq bS bE bL rp) (sp_Mo_numberAhead p1 p2 o bu)) 0 0 (inW (wMo g mo a o now dr pa sa iS bu tq rT wT sK sA sB sE oq bS bE bL rp)) := by
  refine Met.ofW (cc := b_Mo_numberAhead) (maxL := 5) (ret := (some .long)) pn_Mo rfl ?_
  intro p e s m args below meth c s₁ B hml hv
  obtain ⟨rfl, C, hP, hD, hS⟩ := enter "DecadeBridgeModel" rfl B hml hv
  obtain ⟨hx, hb, hr, hml, hown, hlk, hts, hK, hZo, hZ⟩ := id C
  refine entryW (lv := [(0, .ref mo), (1, .long p1), (3, .long p2)]) rfl (Nat.le_of_ble_eq_true rfl) (fun ls hl => ?_)
  obtain ⟨z, hz⟩ : ∃ z, z = sp_Mo_numberAhead p1 p2 o bu := ⟨_, rfl⟩
  rw [← hz]
  unfold sp_Mo_numberAhead at hz
  unfold ok_Mo_numberAhead at hok
  refine lv_aload_n hx hb d_Mo_numberAhead_0 rfl (lv_at hl 0 rfl) ?_
  refine lv_aload_n hx hb d_Mo_numberAhead_1 rfl (lv_at hl 0 rfl) ?_
  refine gf C hP 0 11 fkMo rfl (by decide) rfl qf_Mo_288 (gMo_11 _ _) d_Mo_numberAhead_2 ?_
  refine lv_iconst (v := 2) hx hb d_Mo_numberAhead_5 (by decide) ?_
  refine lv_icmp_ne (tgt := 13) hx hb d_Mo_numberAhead_6 (by decide) (fun c1 => ?_) (fun c1 => ?_)
  · have hz := hz.trans (if_neg c1)
    have hok := hok.2 c1
    refine lv_iconst (v := 0) hx hb d_Mo_numberAhead_13 (by decide) ?_
    exact k_Mo_numberAhead_14 C (0 : Int32) hok _ hz _ _ ls hP hD hS hl
  · have hz := hz.trans (if_pos c1)
    have hok := hok.1 c1
    refine lv_iconst (v := 1) hx hb d_Mo_numberAhead_9 (by decide) ?_
    refine lv_goto (tgt := 14) hx hb d_Mo_numberAhead_10 (by decide) ?_
    exact k_Mo_numberAhead_14 C (1 : Int32) hok _ hz _ _ ls hP hD hS hl
abbrev rm_Mo_number : Room := { frames := 3, cells := 0, slots := 0, locals := 66 }
noncomputable def sp_Mo_number (p1 : Int64) (p2 : Int64) (o : IV) (bu : IV) : Int64 × IV := lett (sp_Mo_numberAhead p1 p2 o bu) fun (y2 : Int64 × IV) => lett (sp_Mo_goOn y2.2 bu) fun (y4 : IV) => (y2.1, y4)
def ok_Mo_number (p1 : Int64) (p2 : Int64) (o : IV) (bu : IV) : Prop := (ok_Mo_numberAhead p1 p2 o bu) ∧ lett (sp_Mo_numberAhead p1 p2 o bu) fun (y2 : Int64 × IV) => (ok_Mo_goOn y2.2 bu) ∧ True
set_option maxRecDepth 100000 in
set_option maxHeartbeats 4000000 in
theorem c_Mo_number (l : Launch) (g : GX) (mo : Nat) (a : Nat → Nat) (o : IV) (now : LV) (dr : LV) (pa : LV) (sa : LV) (iS : IV) (bu : IV) (tq : IV) (rT : IV) (wT : IV) (sK : IV) (sA : IV) (sB : IV) (sE : IV) (oq : IV) (bS : IV) (bE : IV) (bL : IV) (rp : IV) (p1 : Int64) (p2 : Int64) (hok : ok_Mo_number p1 p2 o bu) : Met l y_Mo_number (wsY y_Mo_number b_Mo_number 7 (some .long)) rm_Mo_number (CP g [.ref mo, .long p1, .long p2] (wMo g mo a o now dr pa sa iS bu tq rT wT sK sA sB sE oq bS bE bL rp)) (CL g (wMo g mo a o now dr pa sa iS bu tq rT wT sK sA sB sE oq bS bE bL rp) (fun u : IV => wMo g mo a u now dr pa sa iS bu tq rT wT sK sA sB sE oq bS bE bL rp) (sp_Mo_number p1 p2 o bu)) 0 0 (inW (wMo g mo a o now dr pa sa iS bu tq rT wT sK sA sB sE oq bS bE bL rp)) := by
  refine Met.ofW (cc := b_Mo_number) (maxL := 7) (ret := (some .long)) pn_Mo rfl ?_
  intro p e s m args below meth c s₁ B hml hv
  obtain ⟨rfl, C, hP, hD, hS⟩ := enter "DecadeBridgeModel" rfl B hml hv
  obtain ⟨hx, hb, hr, hml, hown, hlk, hts, hK, hZo, hZ⟩ := id C
  refine entryW (lv := [(0, .ref mo), (1, .long p1), (3, .long p2)]) rfl (Nat.le_of_ble_eq_true rfl) (fun ls hl => ?_)
  obtain ⟨z, hz⟩ : ∃ z, z = sp_Mo_number p1 p2 o bu := ⟨_, rfl⟩
  rw [← hz]
  unfold sp_Mo_number at hz
  unfold ok_Mo_number at hok
  refine lv_aload_n hx hb d_Mo_number_0 rfl (lv_at hl 0 rfl) ?_
  refine lv_lload_n hx hb d_Mo_number_1 rfl (lv_at hl 1 rfl) ?_
  refine lv_lload_n hx hb d_Mo_number_2 rfl (lv_at hl 2 rfl) ?_
  have hs1 := hok.1
  have hok := hok.2
  have hB : SubW g (inW (wMo g mo a o now dr pa sa iS bu tq rT wT sK sA sB sE oq bS bE bL rp)) s (wMo g mo a o now dr pa sa iS bu tq rT wT sK sA sB sE oq bS bE bL rp) _ (List.range _) _ _ := (subF hP hD hS)
  refine goLF hB (run_v C mf_Mo_numberAhead qm_Mo_328 (c_Mo_numberAhead l g mo a o now dr pa sa iS bu tq rT wT sK sA sB sE oq bS bE bL rp p1 p2 hs1) rfl rfl ⟨Nat.le_of_ble_eq_true rfl, Nat.le_of_ble_eq_true rfl⟩ ⟨Nat.le_of_ble_eq_true rfl, Nat.le_of_ble_eq_true rfl⟩ hB rfl rfl hl rfl rfl (Nat.le_of_ble_eq_true rfl) d_Mo_number_3) (fun _ => rfl) (fun y2 ey2 H locs hP hD hS => ?_)
  have hP : va_P g.1 vwCl (wMo g mo a y2.2 now dr pa sa iS bu tq rT wT sK sA sB sE oq bS bE bL rp) H := hP
  have hD : va_D (inW (wMo g mo a o now dr pa sa iS bu tq rT wT sK sA sB sE oq bS bE bL rp)) (wMo g mo a y2.2 now dr pa sa iS bu tq rT wT sK sA sB sE oq bS bE bL rp) := hD
  have hz := lett_z hz ey2
  have hok := lett_o hok ey2
  refine lv_lstore (lv' := [(5, .long y2.1), (0, .ref mo), (1, .long p1), (3, .long p2)]) hx hb d_Mo_number_6 hl (by decide) rfl (fun ls hl => ?_)
  refine lv_aload_n hx hb d_Mo_number_8 rfl (lv_at hl 1 rfl) ?_
  have hs3 := hok.1
  have hok := hok.2
  have hB : SubW g (inW (wMo g mo a o now dr pa sa iS bu tq rT wT sK sA sB sE oq bS bE bL rp)) s (wMo g mo a y2.2 now dr pa sa iS bu tq rT wT sK sA sB sE oq bS bE bL rp) _ (List.range _) _ _ := (subF hP hD hS)
  refine goVF hB (run_v C mf_Mo_goOn qm_Mo_318 (c_Mo_goOn l g mo a y2.2 now dr pa sa iS bu tq rT wT sK sA sB sE oq bS bE bL rp hs3) rfl rfl ⟨Nat.le_of_ble_eq_true rfl, Nat.le_of_ble_eq_true rfl⟩ ⟨Nat.le_of_ble_eq_true rfl, Nat.le_of_ble_eq_true rfl⟩ hB rfl rfl hl rfl rfl (Nat.le_of_ble_eq_true rfl) d_Mo_number_9) (fun _ => rfl) (fun y4 ey4 H locs hP hD hS => ?_)
  have hP : va_P g.1 vwCl (wMo g mo a y4 now dr pa sa iS bu tq rT wT sK sA sB sE oq bS bE bL rp) H := hP
  have hD : va_D (inW (wMo g mo a o now dr pa sa iS bu tq rT wT sK sA sB sE oq bS bE bL rp)) (wMo g mo a y4 now dr pa sa iS bu tq rT wT sK sA sB sE oq bS bE bL rp) := hD
  have hz := lett_z hz ey4
  refine lv_lload hx hb d_Mo_number_12 (lv_at hl 0 rfl) ?_
  exact endL1 C hz hP hS d_Mo_number_14
abbrev rm_Mo_signed : Room := { frames := 3, cells := 0, slots := 0, locals := 62 }
def HL_Mo_signed_17 (p : Program) (l : Launch) (e : Env) (s : State) (m : MethodId) (args : Array Value) (below : List Frame) (meth : Method) (c : Code) (g : GX) (mo : Nat) (a : Nat → Nat) (ws0 : va_W) (now : LV) (dr : LV) (pa : LV) (sa : LV) (iS : IV) (bu : IV) (tq : IV) (rT : IV) (wT : IV) (sK : IV) (sA : IV) (sB : IV) (sE : IV) (oq : IV) (bS : IV) (bE : IV) (bL : IV) (rp : IV) (p1 : Int64) (p2 : Int64) (y2 : Int32) (sp : IV → (Int64 × IV)) (ok : IV → Prop) : Prop := ∀ (op17 : IV), ok op17 → ∀ z : (Int64 × IV), z = sp op17 → ∀ (H : Heap) (locs : List Loc) (ls : Array Slot), va_P g.1 vwCl (wMo g mo a op17 now dr pa sa iS bu tq rT wT sK sA sB sE oq bS bE bL rp) H → va_D (inW ws0) (wMo g mo a op17 now dr pa sa iS bu tq rT wT sK sA sB sE oq bS bE bL rp) → va_S (inW ws0) s.heap H locs → lv_has ls 8 [(0, .ref mo), (1, .long p1), (3, .long p2), (5, .int y2)] → W p l e rm_Mo_signed s m args below meth c H locs 0 0 (MQ below (CL g ws0 (fun u : IV => wMo g mo a u now dr pa sa iS bu tq rT wT sK sA sB sE oq bS bE bL rp) z) args s 0 0 (inW ws0)) (F0 m 17 ls [])
def HL_Mo_signed_31 (p : Program) (l : Launch) (e : Env) (s : State) (m : MethodId) (args : Array Value) (below : List Frame) (meth : Method) (c : Code) (g : GX) (mo : Nat) (a : Nat → Nat) (ws0 : va_W) (op17 : IV) (now : LV) (dr : LV) (pa : LV) (sa : LV) (iS : IV) (bu : IV) (tq : IV) (rT : IV) (wT : IV) (sK : IV) (sA : IV) (sB : IV) (sE : IV) (oq : IV) (bS : IV) (bE : IV) (bL : IV) (rp : IV) (p1 : Int64) (p2 : Int64) (y2 : Int32) (sp : Int32 → (Int64 × IV)) (ok : Int32 → Prop) : Prop := ∀ (t1p31 : Int32), ok t1p31 → ∀ z : (Int64 × IV), z = sp t1p31 → ∀ (H : Heap) (locs : List Loc) (ls : Array Slot), va_P g.1 vwCl (wMo g mo a op17 now dr pa sa iS bu tq rT wT sK sA sB sE oq bS bE bL rp) H → va_D (inW ws0) (wMo g mo a op17 now dr pa sa iS bu tq rT wT sK sA sB sE oq bS bE bL rp) → va_S (inW ws0) s.heap H locs → lv_has ls 8 [(0, .ref mo), (1, .long p1), (3, .long p2), (5, .int y2)] → W p l e rm_Mo_signed s m args below meth c H locs 0 0 (MQ below (CL g ws0 (fun u : IV => wMo g mo a u now dr pa sa iS bu tq rT wT sK sA sB sE oq bS bE bL rp) z) args s 0 0 (inW ws0)) (F0 m 31 ls [.int t1p31, .ref mo])
def HL_Mo_signed_57 (p : Program) (l : Launch) (e : Env) (s : State) (m : MethodId) (args : Array Value) (below : List Frame) (meth : Method) (c : Code) (g : GX) (mo : Nat) (a : Nat → Nat) (ws0 : va_W) (y7 : IV) (now : LV) (dr : LV) (pa : LV) (sa : LV) (iS : IV) (bu : IV) (tq : IV) (rT : IV) (wT : IV) (sK : IV) (sA : IV) (sB : IV) (sE : IV) (oq : IV) (bS : IV) (bE : IV) (bL : IV) (rp : IV) (p1 : Int64) (p2 : Int64) (sp : (Int64 × IV)) (ok : Prop) : Prop := ∀ (_ : Unit), ok → ∀ z : (Int64 × IV), z = sp → ∀ (H : Heap) (locs : List Loc) (ls : Array Slot), va_P g.1 vwCl (wMo g mo a y7 now dr pa sa iS bu tq rT wT sK sA sB sE oq bS bE bL rp) H → va_D (inW ws0) (wMo g mo a y7 now dr pa sa iS bu tq rT wT sK sA sB sE oq bS bE bL rp) → va_S (inW ws0) s.heap H locs → lv_has ls 8 [(0, .ref mo), (1, .long p1), (3, .long p2)] → W p l e rm_Mo_signed s m args below meth c H locs 0 0 (MQ below (CL g ws0 (fun u : IV => wMo g mo a u now dr pa sa iS bu tq rT wT sK sA sB sE oq bS bE bL rp) z) args s 0 0 (inW ws0)) (F0 m 57 ls [])
def HL_Mo_signed_61 (p : Program) (l : Launch) (e : Env) (s : State) (m : MethodId) (args : Array Value) (below : List Frame) (meth : Method) (c : Code) (g : GX) (mo : Nat) (a : Nat → Nat) (ws0 : va_W) (y7 : IV) (now : LV) (dr : LV) (pa : LV) (sa : LV) (iS : IV) (bu : IV) (tq : IV) (rT : IV) (wT : IV) (sK : IV) (sA : IV) (sB : IV) (sE : IV) (oq : IV) (bS : IV) (bE : IV) (bL : IV) (rp : IV) (p1 : Int64) (p2 : Int64) (sp : Int64 → (Int64 × IV)) (ok : Int64 → Prop) : Prop := ∀ (t0p61 : Int64), ok t0p61 → ∀ z : (Int64 × IV), z = sp t0p61 → ∀ (H : Heap) (locs : List Loc) (ls : Array Slot), va_P g.1 vwCl (wMo g mo a y7 now dr pa sa iS bu tq rT wT sK sA sB sE oq bS bE bL rp) H → va_D (inW ws0) (wMo g mo a y7 now dr pa sa iS bu tq rT wT sK sA sB sE oq bS bE bL rp) → va_S (inW ws0) s.heap H locs → lv_has ls 8 [(0, .ref mo), (1, .long p1), (3, .long p2)] → W p l e rm_Mo_signed s m args below meth c H locs 0 0 (MQ below (CL g ws0 (fun u : IV => wMo g mo a u now dr pa sa iS bu tq rT wT sK sA sB sE oq bS bE bL rp) z) args s 0 0 (inW ws0)) (F0 m 61 ls [.long t0p61])
def HL_Mo_signed_81 (p : Program) (l : Launch) (e : Env) (s : State) (m : MethodId) (args : Array Value) (below : List Frame) (meth : Method) (c : Code) (g : GX) (mo : Nat) (a : Nat → Nat) (ws0 : va_W) (y7 : IV) (now : LV) (dr : LV) (pa : LV) (sa : LV) (iS : IV) (bu : IV) (tq : IV) (rT : IV) (wT : IV) (sK : IV) (sA : IV) (sB : IV) (sE : IV) (oq : IV) (bS : IV) (bE : IV) (bL : IV) (rp : IV) (t0p61 : Int64) (sp : (Int64 × IV)) (ok : Prop) : Prop := ∀ (_ : Unit), ok → ∀ z : (Int64 × IV), z = sp → ∀ (H : Heap) (locs : List Loc) (ls : Array Slot), va_P g.1 vwCl (wMo g mo a y7 now dr pa sa iS bu tq rT wT sK sA sB sE oq bS bE bL rp) H → va_D (inW ws0) (wMo g mo a y7 now dr pa sa iS bu tq rT wT sK sA sB sE oq bS bE bL rp) → va_S (inW ws0) s.heap H locs → lv_has ls 8 [(0, .ref mo), (6, .long t0p61)] → W p l e rm_Mo_signed s m args below meth c H locs 0 0 (MQ below (CL g ws0 (fun u : IV => wMo g mo a u now dr pa sa iS bu tq rT wT sK sA sB sE oq bS bE bL rp) z) args s 0 0 (inW ws0)) (F0 m 81 ls [.ref mo])
def HL_Mo_signed_86 (p : Program) (l : Launch) (e : Env) (s : State) (m : MethodId) (args : Array Value) (below : List Frame) (meth : Method) (c : Code) (g : GX) (mo : Nat) (a : Nat → Nat) (ws0 : va_W) (y7 : IV) (now : LV) (dr : LV) (pa : LV) (sa : LV) (iS : IV) (bu : IV) (tq : IV) (rT : IV) (wT : IV) (sK : IV) (sA : IV) (sB : IV) (sE : IV) (oq : IV) (bS : IV) (bE : IV) (bL : IV) (rp : IV) (t0p61 : Int64) (sp : Int32 → (Int64 × IV)) (ok : Int32 → Prop) : Prop := ∀ (t1p86 : Int32), ok t1p86 → ∀ z : (Int64 × IV), z = sp t1p86 → ∀ (H : Heap) (locs : List Loc) (ls : Array Slot), va_P g.1 vwCl (wMo g mo a y7 now dr pa sa iS bu tq rT wT sK sA sB sE oq bS bE bL rp) H → va_D (inW ws0) (wMo g mo a y7 now dr pa sa iS bu tq rT wT sK sA sB sE oq bS bE bL rp) → va_S (inW ws0) s.heap H locs → lv_has ls 8 [(0, .ref mo), (6, .long t0p61)] → W p l e rm_Mo_signed s m args below meth c H locs 0 0 (MQ below (CL g ws0 (fun u : IV => wMo g mo a u now dr pa sa iS bu tq rT wT sK sA sB sE oq bS bE bL rp) z) args s 0 0 (inW ws0)) (F0 m 86 ls [.int t1p86, .ref mo])
noncomputable def sp_Mo_signed_86 (y7 : IV) (bu : IV) (t0p61 : Int64)  (t1p86 : Int32) : Int64 × IV := lett (sp_Mo_must t1p86 (2 : Int32) y7) fun (y19 : IV) => lett (sp_Mo_goOn y19 bu) fun (y21 : IV) => (t0p61, y21)
def ok_Mo_signed_86 (y7 : IV) (bu : IV) (t0p61 : Int64)   (t1p86 : Int32) : Prop := lett (sp_Mo_must t1p86 (2 : Int32) y7) fun (y19 : IV) => (ok_Mo_goOn y19 bu) ∧ True
set_option maxRecDepth 100000 in
set_option maxHeartbeats 4000000 in
theorem k_Mo_signed_86 {p : Program} {l : Launch} {e : Env} {s : State} {m : MethodId} {args : Array Value} {below : List Frame} {meth : Method} {c : Code} {g : GX} {mo : Nat} {a : Nat → Nat} {ws0 : va_W} {y7 : IV} {now : LV} {dr : LV} {pa : LV} {sa : LV} {iS : IV} {bu : IV} {tq : IV} {rT : IV} {wT : IV} {sK : IV} {sA : IV} {sB : IV} {sE : IV} {oq : IV} {bS : IV} {bE : IV} {bL : IV} {rp : IV} {t0p61 : Int64}  (C : Cx p s m args meth c (inW ws0) g "DecadeBridgeModel" b_Mo_signed (some .long) 8)  : HL_Mo_signed_86 p l e s m args below meth c g mo a ws0 y7 now dr pa sa iS bu tq rT wT sK sA sB sE oq bS bE bL rp t0p61 (sp_Mo_signed_86 y7 bu t0p61 ) (ok_Mo_signed_86 y7 bu t0p61  ) := by
  intro t1p86 hok z hz H locs ls hP hD hS hl
  obtain ⟨hx, hb, hr, hml, hown, hlk, hts, hK, hZo, hZ⟩ := id C
  unfold sp_Mo_signed_86 at hz
  unfold ok_Mo_signed_86 at hok
  refine lv_iconst (v := 2) hx hb d_Mo_signed_86 (by decide) ?_
  have hB : SubW g (inW ws0) s (wMo g mo a y7 now dr pa sa iS bu tq rT wT sK sA sB sE oq bS bE bL rp) _ (List.range _) _ _ := (subF hP hD hS)
  refine goVF hB (run_v C mf_Mo_must qm_Mo_314 (c_Mo_must l g mo a y7 now dr pa sa iS bu tq rT wT sK sA sB sE oq bS bE bL rp t1p86 (2 : Int32)) rfl rfl ⟨Nat.le_of_ble_eq_true rfl, Nat.le_of_ble_eq_true rfl⟩ ⟨Nat.le_of_ble_eq_true rfl, Nat.le_of_ble_eq_true rfl⟩ hB rfl rfl hl rfl rfl (Nat.le_of_ble_eq_true rfl) d_Mo_signed_87) (fun _ => rfl) (fun y19 ey19 H locs hP hD hS => ?_)
  have hP : va_P g.1 vwCl (wMo g mo a y19 now dr pa sa iS bu tq rT wT sK sA sB sE oq bS bE bL rp) H := hP
  have hD : va_D (inW ws0) (wMo g mo a y19 now dr pa sa iS bu tq rT wT sK sA sB sE oq bS bE bL rp) := hD
  have hz := lett_z hz ey19
  have hok := lett_o hok ey19
  refine lv_aload_n hx hb d_Mo_signed_90 rfl (lv_at hl 0 rfl) ?_
  have hs20 := hok.1
  have hok := hok.2
  have hB : SubW g (inW ws0) s (wMo g mo a y19 now dr pa sa iS bu tq rT wT sK sA sB sE oq bS bE bL rp) _ (List.range _) _ _ := (subF hP hD hS)
  refine goVF hB (run_v C mf_Mo_goOn qm_Mo_318 (c_Mo_goOn l g mo a y19 now dr pa sa iS bu tq rT wT sK sA sB sE oq bS bE bL rp hs20) rfl rfl ⟨Nat.le_of_ble_eq_true rfl, Nat.le_of_ble_eq_true rfl⟩ ⟨Nat.le_of_ble_eq_true rfl, Nat.le_of_ble_eq_true rfl⟩ hB rfl rfl hl rfl rfl (Nat.le_of_ble_eq_true rfl) d_Mo_signed_91) (fun _ => rfl) (fun y21 ey21 H locs hP hD hS => ?_)
  have hP : va_P g.1 vwCl (wMo g mo a y21 now dr pa sa iS bu tq rT wT sK sA sB sE oq bS bE bL rp) H := hP
  have hD : va_D (inW ws0) (wMo g mo a y21 now dr pa sa iS bu tq rT wT sK sA sB sE oq bS bE bL rp) := hD
  have hz := lett_z hz ey21
  refine lv_lload hx hb d_Mo_signed_94 (lv_at hl 1 rfl) ?_
  exact endL1 C hz hP hS d_Mo_signed_96
noncomputable def sp_Mo_signed_81 (y7 : IV) (bu : IV) (t0p61 : Int64)   : Int64 × IV := sp_Mo_signed_86 y7 bu t0p61 (1 : Int32)
def ok_Mo_signed_81 (y7 : IV) (bu : IV) (t0p61 : Int64)    : Prop := ok_Mo_signed_86 y7 bu t0p61 (1 : Int32)
set_option maxRecDepth 100000 in
set_option maxHeartbeats 4000000 in
theorem k_Mo_signed_81 {p : Program} {l : Launch} {e : Env} {s : State} {m : MethodId} {args : Array Value} {below : List Frame} {meth : Method} {c : Code} {g : GX} {mo : Nat} {a : Nat → Nat} {ws0 : va_W} {y7 : IV} {now : LV} {dr : LV} {pa : LV} {sa : LV} {iS : IV} {bu : IV} {tq : IV} {rT : IV} {wT : IV} {sK : IV} {sA : IV} {sB : IV} {sE : IV} {oq : IV} {bS : IV} {bE : IV} {bL : IV} {rp : IV} {t0p61 : Int64}  (C : Cx p s m args meth c (inW ws0) g "DecadeBridgeModel" b_Mo_signed (some .long) 8)  : HL_Mo_signed_81 p l e s m args below meth c g mo a ws0 y7 now dr pa sa iS bu tq rT wT sK sA sB sE oq bS bE bL rp t0p61 (sp_Mo_signed_81 y7 bu t0p61 ) (ok_Mo_signed_81 y7 bu t0p61  ) := by
  intro _ hok z hz H locs ls hP hD hS hl
  obtain ⟨hx, hb, hr, hml, hown, hlk, hts, hK, hZo, hZ⟩ := id C
  unfold sp_Mo_signed_81 at hz
  unfold ok_Mo_signed_81 at hok
  refine lv_iconst (v := 1) hx hb d_Mo_signed_81 (by decide) ?_
  refine lv_goto (tgt := 86) hx hb d_Mo_signed_82 (by decide) ?_
  exact k_Mo_signed_86 C (1 : Int32) hok _ hz _ _ ls hP hD hS hl
noncomputable def sp_Mo_signed_61 (y7 : IV) (bu : IV) (p1 : Int64) (p2 : Int64)  (t0p61 : Int64) : Int64 × IV := lett (sp_Mo_good y7) fun (y15 : Int32) => if y15 = 0 then (sp_Mo_signed_81 y7 bu t0p61) else (lett (sp_Mo_in t0p61 p1 p2) fun (y17 : Int32) => if y17 = 0 then (sp_Mo_signed_86 y7 bu t0p61 (0 : Int32)) else (sp_Mo_signed_81 y7 bu t0p61))
def ok_Mo_signed_61 (y7 : IV) (bu : IV) (p1 : Int64) (p2 : Int64)   (t0p61 : Int64) : Prop := lett (sp_Mo_good y7) fun (y15 : Int32) => ((y15 = 0 → ok_Mo_signed_81 y7 bu t0p61) ∧ (¬ (y15 = 0) → lett (sp_Mo_in t0p61 p1 p2) fun (y17 : Int32) => ((y17 = 0 → ok_Mo_signed_86 y7 bu t0p61 (0 : Int32)) ∧ (¬ (y17 = 0) → ok_Mo_signed_81 y7 bu t0p61))))
set_option maxRecDepth 100000 in
set_option maxHeartbeats 4000000 in
theorem k_Mo_signed_61 {p : Program} {l : Launch} {e : Env} {s : State} {m : MethodId} {args : Array Value} {below : List Frame} {meth : Method} {c : Code} {g : GX} {mo : Nat} {a : Nat → Nat} {ws0 : va_W} {y7 : IV} {now : LV} {dr : LV} {pa : LV} {sa : LV} {iS : IV} {bu : IV} {tq : IV} {rT : IV} {wT : IV} {sK : IV} {sA : IV} {sB : IV} {sE : IV} {oq : IV} {bS : IV} {bE : IV} {bL : IV} {rp : IV} {p1 : Int64} {p2 : Int64}  (C : Cx p s m args meth c (inW ws0) g "DecadeBridgeModel" b_Mo_signed (some .long) 8)  : HL_Mo_signed_61 p l e s m args below meth c g mo a ws0 y7 now dr pa sa iS bu tq rT wT sK sA sB sE oq bS bE bL rp p1 p2 (sp_Mo_signed_61 y7 bu p1 p2 ) (ok_Mo_signed_61 y7 bu p1 p2  ) := by
  intro t0p61 hok z hz H locs ls hP hD hS hl
  obtain ⟨hx, hb, hr, hml, hown, hlk, hts, hK, hZo, hZ⟩ := id C
  unfold sp_Mo_signed_61 at hz
  unfold ok_Mo_signed_61 at hok
  refine lv_lstore (lv' := [(6, .long t0p61), (0, .ref mo), (1, .long p1), (3, .long p2)]) hx hb d_Mo_signed_61 hl (by decide) rfl (fun ls hl => ?_)
  refine lv_aload_n hx hb d_Mo_signed_63 rfl (lv_at hl 1 rfl) ?_
  refine lv_aload_n hx hb d_Mo_signed_64 rfl (lv_at hl 1 rfl) ?_
  have hB : SubW g (inW ws0) s (wMo g mo a y7 now dr pa sa iS bu tq rT wT sK sA sB sE oq bS bE bL rp) _ (List.range _) _ _ := (subF hP hD hS)
  refine goI0 hB (run_v C mf_Mo_good qm_Mo_297 (c_Mo_good l g mo a y7 now dr pa sa iS bu tq rT wT sK sA sB sE oq bS bE bL rp) rfl rfl ⟨Nat.le_of_ble_eq_true rfl, Nat.le_of_ble_eq_true rfl⟩ ⟨Nat.le_of_ble_eq_true rfl, Nat.le_of_ble_eq_true rfl⟩ hB rfl rfl hl rfl rfl (Nat.le_of_ble_eq_true rfl) d_Mo_signed_65) (fun y15 ey15 H locs hP hS => ?_)
  have hz := lett_z hz ey15
  have hok := lett_o hok ey15
  refine lv_if_eq (tgt := 81) hx hb d_Mo_signed_68 (by decide) (fun c16 => ?_) (fun c16 => ?_)
  · have hz := hz.trans (if_pos c16)
    have hok := hok.1 c16
    exact k_Mo_signed_81 C () hok _ hz _ _ ls hP hD hS (lv_sub hl [1, 0] rfl)
  · have hz := hz.trans (if_neg c16)
    have hok := hok.2 c16
    refine lv_lload hx hb d_Mo_signed_71 (lv_at hl 0 rfl) ?_
    refine lv_lload_n hx hb d_Mo_signed_73 rfl (lv_at hl 2 rfl) ?_
    refine lv_lload_n hx hb d_Mo_signed_74 rfl (lv_at hl 3 rfl) ?_
    have hB : SubW g (inW ws0) s (wMo g mo a y7 now dr pa sa iS bu tq rT wT sK sA sB sE oq bS bE bL rp) _ (List.range _) _ _ := (subF hP hD hS)
    refine goI0 hB (run_s C mf_Mo_in qm_Mo_118 (c_Mo_in l g mo a y7 now dr pa sa iS bu tq rT wT sK sA sB sE oq bS bE bL rp t0p61 p1 p2) rfl rfl ⟨Nat.le_of_ble_eq_true rfl, Nat.le_of_ble_eq_true rfl⟩ ⟨Nat.le_of_ble_eq_true rfl, Nat.le_of_ble_eq_true rfl⟩ hB hl rfl rfl (Nat.le_of_ble_eq_true rfl) d_Mo_signed_75) (fun y17 ey17 H locs hP hS => ?_)
    have hz := lett_z hz ey17
    have hok := lett_o hok ey17
    refine lv_if_eq (tgt := 85) hx hb d_Mo_signed_78 (by decide) (fun c18 => ?_) (fun c18 => ?_)
    · have hz := hz.trans (if_pos c18)
      have hok := hok.1 c18
      refine lv_iconst (v := 0) hx hb d_Mo_signed_85 (by decide) ?_
      exact k_Mo_signed_86 C (0 : Int32) hok _ hz _ _ ls hP hD hS (lv_sub hl [1, 0] rfl)
    · have hz := hz.trans (if_neg c18)
      have hok := hok.2 c18
      exact k_Mo_signed_81 C () hok _ hz _ _ ls hP hD hS (lv_sub hl [1, 0] rfl)
noncomputable def sp_Mo_signed_57 (y7 : IV) (bu : IV) (p1 : Int64) (p2 : Int64)   : Int64 × IV := lett (sp_Mo_numberHere y7 bu) fun (y14 : Int64) => sp_Mo_signed_61 y7 bu p1 p2 y14
def ok_Mo_signed_57 (y7 : IV) (bu : IV) (p1 : Int64) (p2 : Int64)    : Prop := (ok_Mo_numberHere y7 bu) ∧ lett (sp_Mo_numberHere y7 bu) fun (y14 : Int64) => ok_Mo_signed_61 y7 bu p1 p2 y14
set_option maxRecDepth 100000 in
set_option maxHeartbeats 4000000 in
theorem k_Mo_signed_57 {p : Program} {l : Launch} {e : Env} {s : State} {m : MethodId} {args : Array Value} {below : List Frame} {meth : Method} {c : Code} {g : GX} {mo : Nat} {a : Nat → Nat} {ws0 : va_W} {y7 : IV} {now : LV} {dr : LV} {pa : LV} {sa : LV} {iS : IV} {bu : IV} {tq : IV} {rT : IV} {wT : IV} {sK : IV} {sA : IV} {sB : IV} {sE : IV} {oq : IV} {bS : IV} {bE : IV} {bL : IV} {rp : IV} {p1 : Int64} {p2 : Int64}  (C : Cx p s m args meth c (inW ws0) g "DecadeBridgeModel" b_Mo_signed (some .long) 8)  : HL_Mo_signed_57 p l e s m args below meth c g mo a ws0 y7 now dr pa sa iS bu tq rT wT sK sA sB sE oq bS bE bL rp p1 p2 (sp_Mo_signed_57 y7 bu p1 p2 ) (ok_Mo_signed_57 y7 bu p1 p2  ) := by
  intro _ hok z hz H locs ls hP hD hS hl
  obtain ⟨hx, hb, hr, hml, hown, hlk, hts, hK, hZo, hZ⟩ := id C
  unfold sp_Mo_signed_57 at hz
  unfold ok_Mo_signed_57 at hok
  refine lv_aload_n hx hb d_Mo_signed_57 rfl (lv_at hl 0 rfl) ?_
  have hs13 := hok.1
  have hok := hok.2
  have hB : SubW g (inW ws0) s (wMo g mo a y7 now dr pa sa iS bu tq rT wT sK sA sB sE oq bS bE bL rp) _ (List.range _) _ _ := (subF hP hD hS)
  refine goL0 hB (run_v C mf_Mo_numberHere qm_Mo_325 (c_Mo_numberHere l g mo a y7 now dr pa sa iS bu tq rT wT sK sA sB sE oq bS bE bL rp hs13) rfl rfl ⟨Nat.le_of_ble_eq_true rfl, Nat.le_of_ble_eq_true rfl⟩ ⟨Nat.le_of_ble_eq_true rfl, Nat.le_of_ble_eq_true rfl⟩ hB rfl rfl hl rfl rfl (Nat.le_of_ble_eq_true rfl) d_Mo_signed_58) (fun y14 ey14 H locs hP hS => ?_)
  have hz := lett_z hz ey14
  have hok := lett_o hok ey14
  exact k_Mo_signed_61 C y14 hok _ hz _ _ ls hP hD hS hl
noncomputable def sp_Mo_signed_31 (op17 : IV) (y2 : Int32) (bu : IV) (p1 : Int64) (p2 : Int64)  (t1p31 : Int32) : Int64 × IV := lett (sp_Mo_must t1p31 (1 : Int32) op17) fun (y7 : IV) => if y2 = 0 then (sp_Mo_signed_57 y7 bu p1 p2) else (lett (sp_Mo_numberHere y7 bu) fun (y10 : Int64) => if y10 < (0 : Int64) then (sp_Mo_signed_57 y7 bu p1 p2) else (lett (sp_Mo_numberHere y7 bu) fun (y12 : Int64) => sp_Mo_signed_61 y7 bu p1 p2 (-y12)))
def ok_Mo_signed_31 (op17 : IV) (y2 : Int32) (bu : IV) (p1 : Int64) (p2 : Int64)   (t1p31 : Int32) : Prop := lett (sp_Mo_must t1p31 (1 : Int32) op17) fun (y7 : IV) => ((y2 = 0 → ok_Mo_signed_57 y7 bu p1 p2) ∧ (¬ (y2 = 0) → (ok_Mo_numberHere y7 bu) ∧ lett (sp_Mo_numberHere y7 bu) fun (y10 : Int64) => ((y10 < (0 : Int64) → ok_Mo_signed_57 y7 bu p1 p2) ∧ (¬ (y10 < (0 : Int64)) → lett (sp_Mo_numberHere y7 bu) fun (y12 : Int64) => ok_Mo_signed_61 y7 bu p1 p2 (-y12)))))
set_option maxRecDepth 100000 in
set_option maxHeartbeats 4000000 in
theorem k_Mo_signed_31 {p : Program} {l : Launch} {e : Env} {s : State} {m : MethodId} {args : Array Value} {below : List Frame} {meth : Method} {c : Code} {g : GX} {mo : Nat} {a : Nat → Nat} {ws0 : va_W} {op17 : IV} {now : LV} {dr : LV} {pa : LV} {sa : LV} {iS : IV} {bu : IV} {tq : IV} {rT : IV} {wT : IV} {sK : IV} {sA : IV} {sB : IV} {sE : IV} {oq : IV} {bS : IV} {bE : IV} {bL : IV} {rp : IV} {p1 : Int64} {p2 : Int64} {y2 : Int32}  (C : Cx p s m args meth c (inW ws0) g "DecadeBridgeModel" b_Mo_signed (some .long) 8)  : HL_Mo_signed_31 p l e s m args below meth c g mo a ws0 op17 now dr pa sa iS bu tq rT wT sK sA sB sE oq bS bE bL rp p1 p2 y2 (sp_Mo_signed_31 op17 y2 bu p1 p2 ) (ok_Mo_signed_31 op17 y2 bu p1 p2  ) := by
  intro t1p31 hok z hz H locs ls hP hD hS hl
  obtain ⟨hx, hb, hr, hml, hown, hlk, hts, hK, hZo, hZ⟩ := id C
  unfold sp_Mo_signed_31 at hz
  unfold ok_Mo_signed_31 at hok
  refine lv_iconst (v := 1) hx hb d_Mo_signed_31 (by decide) ?_
  have hB : SubW g (inW ws0) s (wMo g mo a op17 now dr pa sa iS bu tq rT wT sK sA sB sE oq bS bE bL rp) _ (List.range _) _ _ := (subF hP hD hS)
  refine goVF hB (run_v C mf_Mo_must qm_Mo_314 (c_Mo_must l g mo a op17 now dr pa sa iS bu tq rT wT sK sA sB sE oq bS bE bL rp t1p31 (1 : Int32)) rfl rfl ⟨Nat.le_of_ble_eq_true rfl, Nat.le_of_ble_eq_true rfl⟩ ⟨Nat.le_of_ble_eq_true rfl, Nat.le_of_ble_eq_true rfl⟩ hB rfl rfl hl rfl rfl (Nat.le_of_ble_eq_true rfl) d_Mo_signed_32) (fun _ => rfl) (fun y7 ey7 H locs hP hD hS => ?_)
  have hP : va_P g.1 vwCl (wMo g mo a y7 now dr pa sa iS bu tq rT wT sK sA sB sE oq bS bE bL rp) H := hP
  have hD : va_D (inW ws0) (wMo g mo a y7 now dr pa sa iS bu tq rT wT sK sA sB sE oq bS bE bL rp) := hD
  have hz := lett_z hz ey7
  have hok := lett_o hok ey7
  refine lv_iload hx hb d_Mo_signed_35 (lv_at hl 3 rfl) ?_
  refine lv_if_eq (tgt := 57) hx hb d_Mo_signed_37 (by decide) (fun c8 => ?_) (fun c8 => ?_)
  · have hz := hz.trans (if_pos c8)
    have hok := hok.1 c8
    exact k_Mo_signed_57 C () hok _ hz _ _ ls hP hD hS (lv_sub hl [0, 1, 2] rfl)
  · have hz := hz.trans (if_neg c8)
    have hok := hok.2 c8
    refine lv_aload_n hx hb d_Mo_signed_40 rfl (lv_at hl 0 rfl) ?_
    have hs9 := hok.1
    have hok := hok.2
    have hB : SubW g (inW ws0) s (wMo g mo a y7 now dr pa sa iS bu tq rT wT sK sA sB sE oq bS bE bL rp) _ (List.range _) _ _ := (subF hP hD hS)
    refine goL0 hB (run_v C mf_Mo_numberHere qm_Mo_325 (c_Mo_numberHere l g mo a y7 now dr pa sa iS bu tq rT wT sK sA sB sE oq bS bE bL rp hs9) rfl rfl ⟨Nat.le_of_ble_eq_true rfl, Nat.le_of_ble_eq_true rfl⟩ ⟨Nat.le_of_ble_eq_true rfl, Nat.le_of_ble_eq_true rfl⟩ hB rfl rfl hl rfl rfl (Nat.le_of_ble_eq_true rfl) d_Mo_signed_41) (fun y10 ey10 H locs hP hS => ?_)
    have hz := lett_z hz ey10
    have hok := lett_o hok ey10
    refine lv_lconst (v := 0) hx hb d_Mo_signed_44 (by decide) ?_
    refine lc_lt (tgt := 57) hx hb d_Mo_signed_45 d_Mo_signed_46 (by decide) (fun c11 => ?_) (fun c11 => ?_)
    · have hz := hz.trans (if_pos c11)
      have hok := hok.1 c11
      exact k_Mo_signed_57 C () hok _ hz _ _ ls hP hD hS (lv_sub hl [0, 1, 2] rfl)
    · have hz := hz.trans (if_neg c11)
      have hok := hok.2 c11
      refine lv_aload_n hx hb d_Mo_signed_49 rfl (lv_at hl 0 rfl) ?_
      have hB : SubW g (inW ws0) s (wMo g mo a y7 now dr pa sa iS bu tq rT wT sK sA sB sE oq bS bE bL rp) _ (List.range _) _ _ := (subF hP hD hS)
      refine goL0 hB (run_v C mf_Mo_numberHere qm_Mo_325 (c_Mo_numberHere l g mo a y7 now dr pa sa iS bu tq rT wT sK sA sB sE oq bS bE bL rp hs9) rfl rfl ⟨Nat.le_of_ble_eq_true rfl, Nat.le_of_ble_eq_true rfl⟩ ⟨Nat.le_of_ble_eq_true rfl, Nat.le_of_ble_eq_true rfl⟩ hB rfl rfl hl rfl rfl (Nat.le_of_ble_eq_true rfl) d_Mo_signed_50) (fun y12 ey12 H locs hP hS => ?_)
      have hz := lett_z hz ey12
      have hok := lett_o hok ey12
      refine lv_lneg hx hb d_Mo_signed_53 ?_
      refine lv_goto (tgt := 61) hx hb d_Mo_signed_54 (by decide) ?_
      exact k_Mo_signed_61 C (-y12) hok _ hz _ _ ls hP hD hS (lv_sub hl [0, 1, 2] rfl)
noncomputable def sp_Mo_signed_17 (y2 : Int32) (bu : IV) (p1 : Int64) (p2 : Int64)  (op17 : IV) : Int64 × IV := if (op17 11) = (2 : Int32) then (sp_Mo_signed_31 op17 y2 bu p1 p2 (1 : Int32)) else (sp_Mo_signed_31 op17 y2 bu p1 p2 (0 : Int32))
def ok_Mo_signed_17 (y2 : Int32) (bu : IV) (p1 : Int64) (p2 : Int64)   (op17 : IV) : Prop := (((op17 11) = (2 : Int32) → ok_Mo_signed_31 op17 y2 bu p1 p2 (1 : Int32)) ∧ (¬ ((op17 11) = (2 : Int32)) → ok_Mo_signed_31 op17 y2 bu p1 p2 (0 : Int32)))
set_option maxRecDepth 100000 in
set_option maxHeartbeats 4000000 in
theorem k_Mo_signed_17 {p : Program} {l : Launch} {e : Env} {s : State} {m : MethodId} {args : Array Value} {below : List Frame} {meth : Method} {c : Code} {g : GX} {mo : Nat} {a : Nat → Nat} {ws0 : va_W} {now : LV} {dr : LV} {pa : LV} {sa : LV} {iS : IV} {bu : IV} {tq : IV} {rT : IV} {wT : IV} {sK : IV} {sA : IV} {sB : IV} {sE : IV} {oq : IV} {bS : IV} {bE : IV} {bL : IV} {rp : IV} {p1 : Int64} {p2 : Int64} {y2 : Int32}  (C : Cx p s m args meth c (inW ws0) g "DecadeBridgeModel" b_Mo_signed (some .long) 8)  : HL_Mo_signed_17 p l e s m args below meth c g mo a ws0 now dr pa sa iS bu tq rT wT sK sA sB sE oq bS bE bL rp p1 p2 y2 (sp_Mo_signed_17 y2 bu p1 p2 ) (ok_Mo_signed_17 y2 bu p1 p2  ) := by
  intro op17 hok z hz H locs ls hP hD hS hl
  obtain ⟨hx, hb, hr, hml, hown, hlk, hts, hK, hZo, hZ⟩ := id C
  unfold sp_Mo_signed_17 at hz
  unfold ok_Mo_signed_17 at hok
  refine lv_aload_n hx hb d_Mo_signed_17 rfl (lv_at hl 0 rfl) ?_
  refine lv_aload_n hx hb d_Mo_signed_18 rfl (lv_at hl 0 rfl) ?_
  refine gf C hP 0 11 fkMo rfl (by decide) rfl qf_Mo_288 (gMo_11 _ _) d_Mo_signed_19 ?_
  refine lv_iconst (v := 2) hx hb d_Mo_signed_22 (by decide) ?_
  refine lv_icmp_ne (tgt := 30) hx hb d_Mo_signed_23 (by decide) (fun c6 => ?_) (fun c6 => ?_)
  · have hz := hz.trans (if_neg c6)
    have hok := hok.2 c6
    refine lv_iconst (v := 0) hx hb d_Mo_signed_30 (by decide) ?_
    exact k_Mo_signed_31 C (0 : Int32) hok _ hz _ _ ls hP hD hS hl
  · have hz := hz.trans (if_pos c6)
    have hok := hok.1 c6
    refine lv_iconst (v := 1) hx hb d_Mo_signed_26 (by decide) ?_
    refine lv_goto (tgt := 31) hx hb d_Mo_signed_27 (by decide) ?_
    exact k_Mo_signed_31 C (1 : Int32) hok _ hz _ _ ls hP hD hS hl
noncomputable def sp_Mo_signed (p1 : Int64) (p2 : Int64) (o : IV) (bu : IV) : Int64 × IV := lett (sp_Mo_isSign (45 : Int32) o bu) fun (y2 : Int32) => if y2 = 0 then (sp_Mo_signed_17 y2 bu p1 p2 o) else (lett (sp_Mo_scan o bu) fun (y5 : IV) => sp_Mo_signed_17 y2 bu p1 p2 y5)
def ok_Mo_signed (p1 : Int64) (p2 : Int64) (o : IV) (bu : IV) : Prop := (ok_Mo_isSign (45 : Int32) o) ∧ lett (sp_Mo_isSign (45 : Int32) o bu) fun (y2 : Int32) => ((y2 = 0 → ok_Mo_signed_17 y2 bu p1 p2 o) ∧ (¬ (y2 = 0) → (ok_Mo_scan o bu) ∧ lett (sp_Mo_scan o bu) fun (y5 : IV) => ok_Mo_signed_17 y2 bu p1 p2 y5))
set_option maxRecDepth 100000 in
set_option maxHeartbeats 4000000 in
theorem c_Mo_signed (l : Launch) (g : GX) (mo : Nat) (a : Nat → Nat) (o : IV) (now : LV) (dr : LV) (pa : LV) (sa : LV) (iS : IV) (bu : IV) (tq : IV) (rT : IV) (wT : IV) (sK : IV) (sA : IV) (sB : IV) (sE : IV) (oq : IV) (bS : IV) (bE : IV) (bL : IV) (rp : IV) (p1 : Int64) (p2 : Int64) (hok : ok_Mo_signed p1 p2 o bu) : Met l y_Mo_signed (wsY y_Mo_signed b_Mo_signed 8 (some .long)) rm_Mo_signed (CP g [.ref mo, .long p1, .long p2] (wMo g mo a o now dr pa sa iS bu tq rT wT sK sA sB sE oq bS bE bL rp)) (CL g (wMo g mo a o now dr pa sa iS bu tq rT wT sK sA sB sE oq bS bE bL rp) (fun u : IV => wMo g mo a u now dr pa sa iS bu tq rT wT sK sA sB sE oq bS bE bL rp) (sp_Mo_signed p1 p2 o bu)) 0 0 (inW (wMo g mo a o now dr pa sa iS bu tq rT wT sK sA sB sE oq bS bE bL rp)) := by
  refine Met.ofW (cc := b_Mo_signed) (maxL := 8) (ret := (some .long)) pn_Mo rfl ?_
  intro p e s m args below meth c s₁ B hml hv
  obtain ⟨rfl, C, hP, hD, hS⟩ := enter "DecadeBridgeModel" rfl B hml hv
  obtain ⟨hx, hb, hr, hml, hown, hlk, hts, hK, hZo, hZ⟩ := id C
  refine entryW (lv := [(0, .ref mo), (1, .long p1), (3, .long p2)]) rfl (Nat.le_of_ble_eq_true rfl) (fun ls hl => ?_)
  obtain ⟨z, hz⟩ : ∃ z, z = sp_Mo_signed p1 p2 o bu := ⟨_, rfl⟩
  rw [← hz]
  unfold sp_Mo_signed at hz
  unfold ok_Mo_signed at hok
  refine lv_aload_n hx hb d_Mo_signed_0 rfl (lv_at hl 0 rfl) ?_
  refine lv_bipush (v := 45) hx hb d_Mo_signed_1 (by decide) ?_
  have hs1 := hok.1
  have hok := hok.2
  have hB : SubW g (inW (wMo g mo a o now dr pa sa iS bu tq rT wT sK sA sB sE oq bS bE bL rp)) s (wMo g mo a o now dr pa sa iS bu tq rT wT sK sA sB sE oq bS bE bL rp) _ (List.range _) _ _ := (subF hP hD hS)
  refine goI0 hB (run_v C mf_Mo_isSign qm_Mo_311 (c_Mo_isSign l g mo a o now dr pa sa iS bu tq rT wT sK sA sB sE oq bS bE bL rp (45 : Int32) hs1) rfl rfl ⟨Nat.le_of_ble_eq_true rfl, Nat.le_of_ble_eq_true rfl⟩ ⟨Nat.le_of_ble_eq_true rfl, Nat.le_of_ble_eq_true rfl⟩ hB rfl rfl hl rfl rfl (Nat.le_of_ble_eq_true rfl) d_Mo_signed_3) (fun y2 ey2 H locs hP hS => ?_)
  have hz := lett_z hz ey2
  have hok := lett_o hok ey2
  refine lv_istore (lv' := [(5, .int y2), (0, .ref mo), (1, .long p1), (3, .long p2)]) hx hb d_Mo_signed_6 hl (by decide) rfl (fun ls hl => ?_)
  refine lv_iload hx hb d_Mo_signed_8 (lv_at hl 0 rfl) ?_
  refine lv_if_eq (tgt := 17) hx hb d_Mo_signed_10 (by decide) (fun c3 => ?_) (fun c3 => ?_)
  · have hz := hz.trans (if_pos c3)
    have hok := hok.1 c3
    exact k_Mo_signed_17 C o hok _ hz _ _ ls hP hD hS (lv_sub hl [1, 2, 3, 0] rfl)
  · have hz := hz.trans (if_neg c3)
    have hok := hok.2 c3
    refine lv_aload_n hx hb d_Mo_signed_13 rfl (lv_at hl 1 rfl) ?_
    have hs4 := hok.1
    have hok := hok.2
    have hB : SubW g (inW (wMo g mo a o now dr pa sa iS bu tq rT wT sK sA sB sE oq bS bE bL rp)) s (wMo g mo a o now dr pa sa iS bu tq rT wT sK sA sB sE oq bS bE bL rp) _ (List.range _) _ _ := (subF hP hD hS)
    refine goVF hB (run_v C mf_Mo_scan qm_Mo_294 (c_Mo_scan l g mo a o now dr pa sa iS bu tq rT wT sK sA sB sE oq bS bE bL rp hs4) rfl rfl ⟨Nat.le_of_ble_eq_true rfl, Nat.le_of_ble_eq_true rfl⟩ ⟨Nat.le_of_ble_eq_true rfl, Nat.le_of_ble_eq_true rfl⟩ hB rfl rfl hl rfl rfl (Nat.le_of_ble_eq_true rfl) d_Mo_signed_14) (fun _ => rfl) (fun y5 ey5 H locs hP hD hS => ?_)
    have hP : va_P g.1 vwCl (wMo g mo a y5 now dr pa sa iS bu tq rT wT sK sA sB sE oq bS bE bL rp) H := hP
    have hD : va_D (inW (wMo g mo a o now dr pa sa iS bu tq rT wT sK sA sB sE oq bS bE bL rp)) (wMo g mo a y5 now dr pa sa iS bu tq rT wT sK sA sB sE oq bS bE bL rp) := hD
    have hz := lett_z hz ey5
    have hok := lett_o hok ey5
    exact k_Mo_signed_17 C y5 hok _ hz _ _ ls hP hD hS (lv_sub hl [1, 2, 3, 0] rfl)
abbrev rm_Mo_once : Room := { frames := 3, cells := 0, slots := 0, locals := 62 }
def HL_Mo_once_15 (p : Program) (l : Launch) (e : Env) (s : State) (m : MethodId) (args : Array Value) (below : List Frame) (meth : Method) (c : Code) (g : GX) (mo : Nat) (a : Nat → Nat) (ws0 : va_W) (o : IV) (now : LV) (dr : LV) (pa : LV) (sa : LV) (iS : IV) (bu : IV) (tq : IV) (rT : IV) (wT : IV) (sK : IV) (sA : IV) (sB : IV) (sE : IV) (oq : IV) (bS : IV) (bE : IV) (bL : IV) (rp : IV) (p1 : Int32) (sp : Int32 → (IV × IV)) (ok : Int32 → Prop) : Prop := ∀ (t1p15 : Int32), ok t1p15 → ∀ z : (IV × IV), z = sp t1p15 → ∀ (H : Heap) (locs : List Loc) (ls : Array Slot), va_P g.1 vwCl (wMo g mo a o now dr pa sa iS bu tq rT wT sK sA sB sE oq bS bE bL rp) H → va_D (inW ws0) (wMo g mo a o now dr pa sa iS bu tq rT wT sK sA sB sE oq bS bE bL rp) → va_S (inW ws0) s.heap H locs → lv_has ls 2 [(0, .ref mo), (1, .int p1)] → W p l e rm_Mo_once s m args below meth c H locs 0 0 (MQ below (CV g ws0 (fun u : IV × IV => wMo g mo a u.1 now dr pa sa iS bu u.2 rT wT sK sA sB sE oq bS bE bL rp) z) args s 0 0 (inW ws0)) (F0 m 15 ls [.int t1p15, .ref mo])
noncomputable def sp_Mo_once_15 (o : IV) (tq : IV) (p1 : Int32) (bu : IV)  (t1p15 : Int32) : IV × IV := lett (sp_Mo_must t1p15 (3 : Int32) o) fun (y3 : IV) => lett (upd tq p1.toNatClampNeg (vp_nar .boolean (1 : Int32))) fun (tq_5 : IV) => lett (sp_Mo_goOn y3 bu) fun (y7 : IV) => (y7, tq_5)
def ok_Mo_once_15 (o : IV) (tq : IV) (p1 : Int32) (bu : IV)   (t1p15 : Int32) : Prop := lett (sp_Mo_must t1p15 (3 : Int32) o) fun (y3 : IV) => (vp_in p1 6) ∧ lett (upd tq p1.toNatClampNeg (vp_nar .boolean (1 : Int32))) fun (tq_5 : IV) => (ok_Mo_goOn y3 bu) ∧ True
set_option maxRecDepth 100000 in
set_option maxHeartbeats 4000000 in
theorem k_Mo_once_15 {p : Program} {l : Launch} {e : Env} {s : State} {m : MethodId} {args : Array Value} {below : List Frame} {meth : Method} {c : Code} {g : GX} {mo : Nat} {a : Nat → Nat} {ws0 : va_W} {o : IV} {now : LV} {dr : LV} {pa : LV} {sa : LV} {iS : IV} {bu : IV} {tq : IV} {rT : IV} {wT : IV} {sK : IV} {sA : IV} {sB : IV} {sE : IV} {oq : IV} {bS : IV} {bE : IV} {bL : IV} {rp : IV} {p1 : Int32}  (C : Cx p s m args meth c (inW ws0) g "DecadeBridgeModel" b_Mo_once none 2)  : HL_Mo_once_15 p l e s m args below meth c g mo a ws0 o now dr pa sa iS bu tq rT wT sK sA sB sE oq bS bE bL rp p1 (sp_Mo_once_15 o tq p1 bu ) (ok_Mo_once_15 o tq p1 bu  ) := by
  intro t1p15 hok z hz H locs ls hP hD hS hl
  obtain ⟨hx, hb, hr, hml, hown, hlk, hts, hK, hZo, hZ⟩ := id C
  unfold sp_Mo_once_15 at hz
  unfold ok_Mo_once_15 at hok
  refine lv_iconst (v := 3) hx hb d_Mo_once_15 (by decide) ?_
  have hB : SubW g (inW ws0) s (wMo g mo a o now dr pa sa iS bu tq rT wT sK sA sB sE oq bS bE bL rp) _ (List.range _) _ _ := (subF hP hD hS)
  refine goVF hB (run_v C mf_Mo_must qm_Mo_314 (c_Mo_must l g mo a o now dr pa sa iS bu tq rT wT sK sA sB sE oq bS bE bL rp t1p15 (3 : Int32)) rfl rfl ⟨Nat.le_of_ble_eq_true rfl, Nat.le_of_ble_eq_true rfl⟩ ⟨Nat.le_of_ble_eq_true rfl, Nat.le_of_ble_eq_true rfl⟩ hB rfl rfl hl rfl rfl (Nat.le_of_ble_eq_true rfl) d_Mo_once_16) (fun _ => rfl) (fun y3 ey3 H locs hP hD hS => ?_)
  have hP : va_P g.1 vwCl (wMo g mo a y3 now dr pa sa iS bu tq rT wT sK sA sB sE oq bS bE bL rp) H := hP
  have hD : va_D (inW ws0) (wMo g mo a y3 now dr pa sa iS bu tq rT wT sK sA sB sE oq bS bE bL rp) := hD
  have hz := lett_z hz ey3
  have hok := lett_o hok ey3
  refine lv_aload_n hx hb d_Mo_once_19 rfl (lv_at hl 0 rfl) ?_
  refine gf C hP 0 14 fkMo rfl (by decide) rfl qf_Mo_34 (gMo_14 _ _) d_Mo_once_20 ?_
  refine lv_iload_n hx hb d_Mo_once_23 rfl (lv_at hl 1 rfl) ?_
  refine lv_iconst (v := 1) hx hb d_Mo_once_24 (by decide) ?_
  have hs4 := hok.1
  have hok := hok.2
  refine stZ C hP hD hS 7 rfl hs4 rfl d_Mo_once_25 (fun tq_5 etq_5 H locs hP hD hS => ?_)
  have hP : va_P g.1 vwCl (wMo g mo a y3 now dr pa sa iS bu tq_5 rT wT sK sA sB sE oq bS bE bL rp) H := hP
  have hD : va_D (inW ws0) (wMo g mo a y3 now dr pa sa iS bu tq_5 rT wT sK sA sB sE oq bS bE bL rp) := hD
  have hz := lett_z hz etq_5
  have hok := lett_o hok etq_5
  refine lv_aload_n hx hb d_Mo_once_26 rfl (lv_at hl 0 rfl) ?_
  have hs6 := hok.1
  have hok := hok.2
  have hB : SubW g (inW ws0) s (wMo g mo a y3 now dr pa sa iS bu tq_5 rT wT sK sA sB sE oq bS bE bL rp) _ (List.range _) _ _ := (subF hP hD hS)
  refine goVF hB (run_v C mf_Mo_goOn qm_Mo_318 (c_Mo_goOn l g mo a y3 now dr pa sa iS bu tq_5 rT wT sK sA sB sE oq bS bE bL rp hs6) rfl rfl ⟨Nat.le_of_ble_eq_true rfl, Nat.le_of_ble_eq_true rfl⟩ ⟨Nat.le_of_ble_eq_true rfl, Nat.le_of_ble_eq_true rfl⟩ hB rfl rfl hl rfl rfl (Nat.le_of_ble_eq_true rfl) d_Mo_once_27) (fun _ => rfl) (fun y7 ey7 H locs hP hD hS => ?_)
  have hP : va_P g.1 vwCl (wMo g mo a y7 now dr pa sa iS bu tq_5 rT wT sK sA sB sE oq bS bE bL rp) H := hP
  have hD : va_D (inW ws0) (wMo g mo a y7 now dr pa sa iS bu tq_5 rT wT sK sA sB sE oq bS bE bL rp) := hD
  have hz := lett_z hz ey7
  exact endV C hz hP hS d_Mo_once_30
noncomputable def sp_Mo_once (p1 : Int32) (o : IV) (bu : IV) (tq : IV) : IV × IV := if (tq p1.toNatClampNeg) = 0 then (sp_Mo_once_15 o tq p1 bu (1 : Int32)) else (sp_Mo_once_15 o tq p1 bu (0 : Int32))
def ok_Mo_once (p1 : Int32) (o : IV) (bu : IV) (tq : IV) : Prop := (vp_in p1 6) ∧ (((tq p1.toNatClampNeg) = 0 → ok_Mo_once_15 o tq p1 bu (1 : Int32)) ∧ (¬ ((tq p1.toNatClampNeg) = 0) → ok_Mo_once_15 o tq p1 bu (0 : Int32)))
set_option maxRecDepth 100000 in
set_option maxHeartbeats 4000000 in
theorem c_Mo_once (l : Launch) (g : GX) (mo : Nat) (a : Nat → Nat) (o : IV) (now : LV) (dr : LV) (pa : LV) (sa : LV) (iS : IV) (bu : IV) (tq : IV) (rT : IV) (wT : IV) (sK : IV) (sA : IV) (sB : IV) (sE : IV) (oq : IV) (bS : IV) (bE : IV) (bL : IV) (rp : IV) (p1 : Int32) (hok : ok_Mo_once p1 o bu tq) : Met l y_Mo_once (wsY y_Mo_once b_Mo_once 2 none) rm_Mo_once (CP g [.ref mo, .int p1] (wMo g mo a o now dr pa sa iS bu tq rT wT sK sA sB sE oq bS bE bL rp)) (CV g (wMo g mo a o now dr pa sa iS bu tq rT wT sK sA sB sE oq bS bE bL rp) (fun u : IV × IV => wMo g mo a u.1 now dr pa sa iS bu u.2 rT wT sK sA sB sE oq bS bE bL rp) (sp_Mo_once p1 o bu tq)) 0 0 (inW (wMo g mo a o now dr pa sa iS bu tq rT wT sK sA sB sE oq bS bE bL rp)) := by
  refine Met.ofW (cc := b_Mo_once) (maxL := 2) (ret := none) pn_Mo rfl ?_
  intro p e s m args below meth c s₁ B hml hv
  obtain ⟨rfl, C, hP, hD, hS⟩ := enter "DecadeBridgeModel" rfl B hml hv
  obtain ⟨hx, hb, hr, hml, hown, hlk, hts, hK, hZo, hZ⟩ := id C
  refine entryW (lv := [(0, .ref mo), (1, .int p1)]) rfl (Nat.le_of_ble_eq_true rfl) (fun ls hl => ?_)
  obtain ⟨z, hz⟩ : ∃ z, z = sp_Mo_once p1 o bu tq := ⟨_, rfl⟩
  rw [← hz]
  unfold sp_Mo_once at hz
  unfold ok_Mo_once at hok
  refine lv_aload_n hx hb d_Mo_once_0 rfl (lv_at hl 0 rfl) ?_
  refine lv_aload_n hx hb d_Mo_once_1 rfl (lv_at hl 0 rfl) ?_
  refine gf C hP 0 14 fkMo rfl (by decide) rfl qf_Mo_34 (gMo_14 _ _) d_Mo_once_2 ?_
  refine lv_iload_n hx hb d_Mo_once_5 rfl (lv_at hl 1 rfl) ?_
  have hs1 := hok.1
  have hok := hok.2
  refine ldZ C hP 7 rfl hs1 rfl d_Mo_once_6 ?_
  refine lv_if_ne (tgt := 14) hx hb d_Mo_once_7 (by decide) (fun c2 => ?_) (fun c2 => ?_)
  · have hz := hz.trans (if_neg c2)
    have hok := hok.2 c2
    refine lv_iconst (v := 0) hx hb d_Mo_once_14 (by decide) ?_
    exact k_Mo_once_15 C (0 : Int32) hok _ hz _ _ ls hP hD hS hl
  · have hz := hz.trans (if_pos c2)
    have hok := hok.1 c2
    refine lv_iconst (v := 1) hx hb d_Mo_once_10 (by decide) ?_
    refine lv_goto (tgt := 15) hx hb d_Mo_once_11 (by decide) ?_
    exact k_Mo_once_15 C (1 : Int32) hok _ hz _ _ ls hP hD hS hl
abbrev rm_Mo_readBox : Room := { frames := 4, cells := 0, slots := 0, locals := 92 }
def HL_Mo_readBox_71 (p : Program) (l : Launch) (e : Env) (s : State) (m : MethodId) (args : Array Value) (below : List Frame) (meth : Method) (c : Code) (g : GX) (mo : Nat) (a : Nat → Nat) (ws0 : va_W) (now : LV) (pa : LV) (sa : LV) (iS : IV) (bu : IV) (y2 : IV × IV) (rT : IV) (wT : IV) (sK : IV) (sA : IV) (sB : IV) (sE : IV) (oq : IV) (bS : IV) (bE : IV) (bL : IV) (rp : IV) (sp : Int32 → IV → LV → (IV × LV × IV)) (ok : Int32 → IV → LV → Prop) : Prop := ∀ (x1p71 : Int32) (op71 : IV) (drp71 : LV), ok x1p71 op71 drp71 → ∀ z : (IV × LV × IV), z = sp x1p71 op71 drp71 → ∀ (H : Heap) (locs : List Loc) (ls : Array Slot), va_P g.1 vwCl (wMo g mo a op71 now drp71 pa sa iS bu y2.2 rT wT sK sA sB sE oq bS bE bL rp) H → va_D (inW ws0) (wMo g mo a op71 now drp71 pa sa iS bu y2.2 rT wT sK sA sB sE oq bS bE bL rp) → va_S (inW ws0) s.heap H locs → lv_has ls 2 [(0, .ref mo), (1, .int x1p71)] → W p l e rm_Mo_readBox s m args below meth c H locs 0 0 (MQ below (CV g ws0 (fun u : IV × LV × IV => wMo g mo a u.1 now u.2.1 pa sa iS bu u.2.2 rT wT sK sA sB sE oq bS bE bL rp) z) args s 0 0 (inW ws0)) (F0 m 71 ls [])
def HL_Mo_readBox_100 (p : Program) (l : Launch) (e : Env) (s : State) (m : MethodId) (args : Array Value) (below : List Frame) (meth : Method) (c : Code) (g : GX) (mo : Nat) (a : Nat → Nat) (ws0 : va_W) (op71 : IV) (now : LV) (drp71 : LV) (pa : LV) (sa : LV) (iS : IV) (bu : IV) (y2 : IV × IV) (rT : IV) (wT : IV) (sK : IV) (sA : IV) (sB : IV) (sE : IV) (oq : IV) (bS : IV) (bE : IV) (bL : IV) (rp : IV) (x1p71 : Int32) (sp : (IV × LV × IV)) (ok : Prop) : Prop := ∀ (_ : Unit), ok → ∀ z : (IV × LV × IV), z = sp → ∀ (H : Heap) (locs : List Loc) (ls : Array Slot), va_P g.1 vwCl (wMo g mo a op71 now drp71 pa sa iS bu y2.2 rT wT sK sA sB sE oq bS bE bL rp) H → va_D (inW ws0) (wMo g mo a op71 now drp71 pa sa iS bu y2.2 rT wT sK sA sB sE oq bS bE bL rp) → va_S (inW ws0) s.heap H locs → lv_has ls 2 [(0, .ref mo), (1, .int x1p71)] → W p l e rm_Mo_readBox s m args below meth c H locs 0 0 (MQ below (CV g ws0 (fun u : IV × LV × IV => wMo g mo a u.1 now u.2.1 pa sa iS bu u.2.2 rT wT sK sA sB sE oq bS bE bL rp) z) args s 0 0 (inW ws0)) (F0 m 100 ls [])
def HL_Mo_readBox_124 (p : Program) (l : Launch) (e : Env) (s : State) (m : MethodId) (args : Array Value) (below : List Frame) (meth : Method) (c : Code) (g : GX) (mo : Nat) (a : Nat → Nat) (ws0 : va_W) (op71 : IV) (now : LV) (drp71 : LV) (pa : LV) (sa : LV) (iS : IV) (bu : IV) (y2 : IV × IV) (rT : IV) (wT : IV) (sK : IV) (sA : IV) (sB : IV) (sE : IV) (oq : IV) (bS : IV) (bE : IV) (bL : IV) (rp : IV) (x1p71 : Int32) (sp : (IV × LV × IV)) (ok : Prop) : Prop := ∀ (_ : Unit), ok → ∀ z : (IV × LV × IV), z = sp → ∀ (H : Heap) (locs : List Loc) (ls : Array Slot), va_P g.1 vwCl (wMo g mo a op71 now drp71 pa sa iS bu y2.2 rT wT sK sA sB sE oq bS bE bL rp) H → va_D (inW ws0) (wMo g mo a op71 now drp71 pa sa iS bu y2.2 rT wT sK sA sB sE oq bS bE bL rp) → va_S (inW ws0) s.heap H locs → lv_has ls 2 [(0, .ref mo), (1, .int x1p71)] → W p l e rm_Mo_readBox s m args below meth c H locs 0 0 (MQ below (CV g ws0 (fun u : IV × LV × IV => wMo g mo a u.1 now u.2.1 pa sa iS bu u.2.2 rT wT sK sA sB sE oq bS bE bL rp) z) args s 0 0 (inW ws0)) (F0 m 124 ls [])
noncomputable def sp_Mo_readBox_124 (drp71 : LV) (x1p71 : Int32) (op71 : IV) (y2 : IV × IV)   : IV × LV × IV := lett (vp_updL drp71 0 x1p71.toInt64) fun (dr_29 : LV) => (op71, dr_29, y2.2)
def ok_Mo_readBox_124 (drp71 : LV) (x1p71 : Int32) (op71 : IV) (y2 : IV × IV)    : Prop := True
set_option maxRecDepth 100000 in
set_option maxHeartbeats 4000000 in
theorem k_Mo_readBox_124 {p : Program} {l : Launch} {e : Env} {s : State} {m : MethodId} {args : Array Value} {below : List Frame} {meth : Method} {c : Code} {g : GX} {mo : Nat} {a : Nat → Nat} {ws0 : va_W} {op71 : IV} {now : LV} {drp71 : LV} {pa : LV} {sa : LV} {iS : IV} {bu : IV} {y2 : IV × IV} {rT : IV} {wT : IV} {sK : IV} {sA : IV} {sB : IV} {sE : IV} {oq : IV} {bS : IV} {bE : IV} {bL : IV} {rp : IV} {x1p71 : Int32}  (C : Cx p s m args meth c (inW ws0) g "DecadeBridgeModel" b_Mo_readBox none 2)  : HL_Mo_readBox_124 p l e s m args below meth c g mo a ws0 op71 now drp71 pa sa iS bu y2 rT wT sK sA sB sE oq bS bE bL rp x1p71 (sp_Mo_readBox_124 drp71 x1p71 op71 y2 ) (ok_Mo_readBox_124 drp71 x1p71 op71 y2  ) := by
  intro _ hok z hz H locs ls hP hD hS hl
  obtain ⟨hx, hb, hr, hml, hown, hlk, hts, hK, hZo, hZ⟩ := id C
  unfold sp_Mo_readBox_124 at hz
  refine lv_aload_n hx hb d_Mo_readBox_124 rfl (lv_at hl 0 rfl) ?_
  refine gf C hP 0 1 fkMo rfl (by decide) rfl qf_Mo_13 (gMo_1 _ _) d_Mo_readBox_125 ?_
  refine lv_iconst (v := 0) hx hb d_Mo_readBox_128 (by decide) ?_
  refine lv_iload_n hx hb d_Mo_readBox_129 rfl (lv_at hl 1 rfl) ?_
  refine lv_i2l hx hb d_Mo_readBox_130 rfl ?_
  refine stL C hP hD hS 2 rfl vi_0_215 cn_0 d_Mo_readBox_131 (fun dr_29 edr_29 H locs hP hD hS => ?_)
  have hP : va_P g.1 vwCl (wMo g mo a op71 now dr_29 pa sa iS bu y2.2 rT wT sK sA sB sE oq bS bE bL rp) H := hP
  have hD : va_D (inW ws0) (wMo g mo a op71 now dr_29 pa sa iS bu y2.2 rT wT sK sA sB sE oq bS bE bL rp) := hD
  have hz := lett_z hz edr_29
  exact endV C hz hP hS d_Mo_readBox_132
noncomputable def sp_Mo_readBox_100 (op71 : IV) (bu : IV) (drp71 : LV) (x1p71 : Int32) (r71 : Int32 → IV → LV → (IV × LV × IV))  : IV × LV × IV := lett (sp_Mo_signed (-50000 : Int64) (50000 : Int64) op71 bu) fun (y25 : Int64 × IV) => lett (vp_updL drp71 ((3 : Int32) + x1p71).toNatClampNeg y25.1) fun (dr_27 : LV) => lett (x1p71 + (1 : Int32)) fun (v28 : Int32) => r71 v28 y25.2 dr_27
def ok_Mo_readBox_100 (op71 : IV) (bu : IV) (drp71 : LV) (x1p71 : Int32) (r71 : Int32 → IV → LV → (IV × LV × IV)) (q71 : Int32 → IV → LV → Prop)  : Prop := (ok_Mo_signed (-50000 : Int64) (50000 : Int64) op71 bu) ∧ lett (sp_Mo_signed (-50000 : Int64) (50000 : Int64) op71 bu) fun (y25 : Int64 × IV) => (vp_in ((3 : Int32) + x1p71) 215) ∧ lett (vp_updL drp71 ((3 : Int32) + x1p71).toNatClampNeg y25.1) fun (dr_27 : LV) => lett (x1p71 + (1 : Int32)) fun (v28 : Int32) => q71 v28 y25.2 dr_27
set_option maxRecDepth 100000 in
set_option maxHeartbeats 4000000 in
theorem k_Mo_readBox_100 {p : Program} {l : Launch} {e : Env} {s : State} {m : MethodId} {args : Array Value} {below : List Frame} {meth : Method} {c : Code} {g : GX} {mo : Nat} {a : Nat → Nat} {ws0 : va_W} {op71 : IV} {now : LV} {drp71 : LV} {pa : LV} {sa : LV} {iS : IV} {bu : IV} {y2 : IV × IV} {rT : IV} {wT : IV} {sK : IV} {sA : IV} {sB : IV} {sE : IV} {oq : IV} {bS : IV} {bE : IV} {bL : IV} {rp : IV} {x1p71 : Int32} {r71 : Int32 → IV → LV → (IV × LV × IV)} {q71 : Int32 → IV → LV → Prop} (C : Cx p s m args meth c (inW ws0) g "DecadeBridgeModel" b_Mo_readBox none 2) (ih71 : HL_Mo_readBox_71 p l e s m args below meth c g mo a ws0 now pa sa iS bu y2 rT wT sK sA sB sE oq bS bE bL rp r71 q71) : HL_Mo_readBox_100 p l e s m args below meth c g mo a ws0 op71 now drp71 pa sa iS bu y2 rT wT sK sA sB sE oq bS bE bL rp x1p71 (sp_Mo_readBox_100 op71 bu drp71 x1p71 r71) (ok_Mo_readBox_100 op71 bu drp71 x1p71 r71 q71) := by
  intro _ hok z hz H locs ls hP hD hS hl
  obtain ⟨hx, hb, hr, hml, hown, hlk, hts, hK, hZo, hZ⟩ := id C
  unfold sp_Mo_readBox_100 at hz
  unfold ok_Mo_readBox_100 at hok
  refine lv_aload_n hx hb d_Mo_readBox_100 rfl (lv_at hl 0 rfl) ?_
  refine gf C hP 0 1 fkMo rfl (by decide) rfl qf_Mo_13 (gMo_1 _ _) d_Mo_readBox_101 ?_
  refine lv_iconst (v := 3) hx hb d_Mo_readBox_104 (by decide) ?_
  refine lv_iload_n hx hb d_Mo_readBox_105 rfl (lv_at hl 1 rfl) ?_
  refine lv_iadd hx hb d_Mo_readBox_106 ?_
  refine lv_aload_n hx hb d_Mo_readBox_107 rfl (lv_at hl 0 rfl) ?_
  refine lv_ldc2 hx hb hown (hts _ qk_Mo_339) d_Mo_readBox_108 ?_
  refine lv_ldc2 hx hb hown (hts _ qk_Mo_341) d_Mo_readBox_111 ?_
  have hs24 := hok.1
  have hok := hok.2
  have hB : SubW g (inW ws0) s (wMo g mo a op71 now drp71 pa sa iS bu y2.2 rT wT sK sA sB sE oq bS bE bL rp) _ (List.range _) _ _ := (subF hP hD hS)
  refine goLF hB (run_v C mf_Mo_signed qm_Mo_343 (c_Mo_signed l g mo a op71 now drp71 pa sa iS bu y2.2 rT wT sK sA sB sE oq bS bE bL rp (-50000 : Int64) (50000 : Int64) hs24) rfl rfl ⟨Nat.le_of_ble_eq_true rfl, Nat.le_of_ble_eq_true rfl⟩ ⟨Nat.le_of_ble_eq_true rfl, Nat.le_of_ble_eq_true rfl⟩ hB rfl rfl hl rfl rfl (Nat.le_of_ble_eq_true rfl) d_Mo_readBox_114) (fun _ => rfl) (fun y25 ey25 H locs hP hD hS => ?_)
  have hP : va_P g.1 vwCl (wMo g mo a y25.2 now drp71 pa sa iS bu y2.2 rT wT sK sA sB sE oq bS bE bL rp) H := hP
  have hD : va_D (inW ws0) (wMo g mo a y25.2 now drp71 pa sa iS bu y2.2 rT wT sK sA sB sE oq bS bE bL rp) := hD
  have hz := lett_z hz ey25
  have hok := lett_o hok ey25
  have hs26 := hok.1
  have hok := hok.2
  refine stL C hP hD hS 2 rfl hs26 rfl d_Mo_readBox_117 (fun dr_27 edr_27 H locs hP hD hS => ?_)
  have hP : va_P g.1 vwCl (wMo g mo a y25.2 now dr_27 pa sa iS bu y2.2 rT wT sK sA sB sE oq bS bE bL rp) H := hP
  have hD : va_D (inW ws0) (wMo g mo a y25.2 now dr_27 pa sa iS bu y2.2 rT wT sK sA sB sE oq bS bE bL rp) := hD
  have hz := lett_z hz edr_27
  have hok := lett_o hok edr_27
  obtain ⟨v28, ev28⟩ : ∃ y : Int32, y = x1p71 + (1 : Int32) := ⟨_, rfl⟩
  have hz := lett_z hz ev28
  have hok := lett_o hok ev28
  refine lv_iinc (v := v28) (lv' := [(1, .int v28), (0, .ref mo)]) hx hb d_Mo_readBox_118 hl (k := 1) rfl (by rw [ev28]; rfl) (by decide) rfl (fun ls hl => ?_)
  refine lv_goto (tgt := 71) hx hb d_Mo_readBox_121 (by decide) ?_
  exact ih71 v28 y25.2 dr_27 hok _ hz _ _ ls hP hD hS (lv_sub hl [1, 0] rfl)
noncomputable def bd_Mo_readBox_71 (y2 : IV × IV) (bu : IV) (r71 : Int32 → IV → LV → (IV × LV × IV)) (x1p71 : Int32) (op71 : IV) (drp71 : LV) : IV × LV × IV := lett (sp_Mo_good op71) fun (y17 : Int32) => if y17 = 0 then (sp_Mo_readBox_124 drp71 x1p71 op71 y2) else (if (4 : Int32) ≤ x1p71 then (sp_Mo_readBox_124 drp71 x1p71 op71 y2) else (if (op71 11) = (2 : Int32) then (sp_Mo_readBox_100 op71 bu drp71 x1p71 r71) else (lett (sp_Mo_isSign (45 : Int32) op71 bu) fun (y22 : Int32) => if y22 = 0 then (sp_Mo_readBox_124 drp71 x1p71 op71 y2) else (sp_Mo_readBox_100 op71 bu drp71 x1p71 r71))))
def okb_Mo_readBox_71 (y2 : IV × IV) (bu : IV) (r71 : Int32 → IV → LV → (IV × LV × IV)) (q71 : Int32 → IV → LV → Prop) (x1p71 : Int32) (op71 : IV) (drp71 : LV) : Prop := lett (sp_Mo_good op71) fun (y17 : Int32) => ((y17 = 0 → True) ∧ (¬ (y17 = 0) → (((4 : Int32) ≤ x1p71 → True) ∧ (¬ ((4 : Int32) ≤ x1p71) → (((op71 11) = (2 : Int32) → ok_Mo_readBox_100 op71 bu drp71 x1p71 r71 q71) ∧ (¬ ((op71 11) = (2 : Int32)) → (ok_Mo_isSign (45 : Int32) op71) ∧ lett (sp_Mo_isSign (45 : Int32) op71 bu) fun (y22 : Int32) => ((y22 = 0 → True) ∧ (¬ (y22 = 0) → ok_Mo_readBox_100 op71 bu drp71 x1p71 r71 q71))))))))
noncomputable def sp_Mo_readBox_71 (y2 : IV × IV) (bu : IV)  : Nat → Int32 → IV → LV → (IV × LV × IV)
  | 0 => fun _ _ _ => default
  | f + 1 => bd_Mo_readBox_71 y2 bu  (sp_Mo_readBox_71 y2 bu  f)
def ok_Mo_readBox_71 (y2 : IV × IV) (bu : IV)   : Nat → Int32 → IV → LV → Prop
  | 0 => fun _ _ _ => False
  | f + 1 => okb_Mo_readBox_71 y2 bu  (sp_Mo_readBox_71 y2 bu  f)  (ok_Mo_readBox_71 y2 bu   f)
set_option maxRecDepth 100000 in
set_option maxHeartbeats 4000000 in
theorem kb_Mo_readBox_71 {p : Program} {l : Launch} {e : Env} {s : State} {m : MethodId} {args : Array Value} {below : List Frame} {meth : Method} {c : Code} {g : GX} {mo : Nat} {a : Nat → Nat} {ws0 : va_W} {now : LV} {pa : LV} {sa : LV} {iS : IV} {bu : IV} {y2 : IV × IV} {rT : IV} {wT : IV} {sK : IV} {sA : IV} {sB : IV} {sE : IV} {oq : IV} {bS : IV} {bE : IV} {bL : IV} {rp : IV}  (C : Cx p s m args meth c (inW ws0) g "DecadeBridgeModel" b_Mo_readBox none 2) {r71 : Int32 → IV → LV → (IV × LV × IV)} {q71 : Int32 → IV → LV → Prop}  (ih71 : HL_Mo_readBox_71 p l e s m args below meth c g mo a ws0 now pa sa iS bu y2 rT wT sK sA sB sE oq bS bE bL rp r71 q71) : HL_Mo_readBox_71 p l e s m args below meth c g mo a ws0 now pa sa iS bu y2 rT wT sK sA sB sE oq bS bE bL rp (bd_Mo_readBox_71 y2 bu  r71) (okb_Mo_readBox_71 y2 bu  r71  q71) := by
  intro x1p71 op71 drp71 hok z hz H locs ls hP hD hS hl
  obtain ⟨hx, hb, hr, hml, hown, hlk, hts, hK, hZo, hZ⟩ := id C
  unfold bd_Mo_readBox_71 at hz
  unfold okb_Mo_readBox_71 at hok
  refine lv_aload_n hx hb d_Mo_readBox_71 rfl (lv_at hl 0 rfl) ?_
  have hB : SubW g (inW ws0) s (wMo g mo a op71 now drp71 pa sa iS bu y2.2 rT wT sK sA sB sE oq bS bE bL rp) _ (List.range _) _ _ := (subF hP hD hS)
  refine goI0 hB (run_v C mf_Mo_good qm_Mo_297 (c_Mo_good l g mo a op71 now drp71 pa sa iS bu y2.2 rT wT sK sA sB sE oq bS bE bL rp) rfl rfl ⟨Nat.le_of_ble_eq_true rfl, Nat.le_of_ble_eq_true rfl⟩ ⟨Nat.le_of_ble_eq_true rfl, Nat.le_of_ble_eq_true rfl⟩ hB rfl rfl hl rfl rfl (Nat.le_of_ble_eq_true rfl) d_Mo_readBox_72) (fun y17 ey17 H locs hP hS => ?_)
  have hz := lett_z hz ey17
  have hok := lett_o hok ey17
  refine lv_if_eq (tgt := 124) hx hb d_Mo_readBox_75 (by decide) (fun c18 => ?_) (fun c18 => ?_)
  · have hz := hz.trans (if_pos c18)
    exact k_Mo_readBox_124 C () trivial _ hz _ _ ls hP hD hS hl
  · have hz := hz.trans (if_neg c18)
    have hok := hok.2 c18
    refine lv_iload_n hx hb d_Mo_readBox_78 rfl (lv_at hl 1 rfl) ?_
    refine lv_iconst (v := 4) hx hb d_Mo_readBox_79 (by decide) ?_
    refine lv_icmp_ge (tgt := 124) hx hb d_Mo_readBox_80 (by decide) (fun c19 => ?_) (fun c19 => ?_)
    · have hz := hz.trans (if_pos c19)
      exact k_Mo_readBox_124 C () trivial _ hz _ _ ls hP hD hS hl
    · have hz := hz.trans (if_neg c19)
      have hok := hok.2 c19
      refine lv_aload_n hx hb d_Mo_readBox_83 rfl (lv_at hl 0 rfl) ?_
      refine gf C hP 0 11 fkMo rfl (by decide) rfl qf_Mo_288 (gMo_11 _ _) d_Mo_readBox_84 ?_
      refine lv_iconst (v := 2) hx hb d_Mo_readBox_87 (by decide) ?_
      refine lv_icmp_eq (tgt := 100) hx hb d_Mo_readBox_88 (by decide) (fun c20 => ?_) (fun c20 => ?_)
      · have hz := hz.trans (if_pos c20)
        have hok := hok.1 c20
        exact k_Mo_readBox_100 C ih71 () hok _ hz _ _ ls hP hD hS hl
      · have hz := hz.trans (if_neg c20)
        have hok := hok.2 c20
        refine lv_aload_n hx hb d_Mo_readBox_91 rfl (lv_at hl 0 rfl) ?_
        refine lv_bipush (v := 45) hx hb d_Mo_readBox_92 (by decide) ?_
        have hs21 := hok.1
        have hok := hok.2
        have hB : SubW g (inW ws0) s (wMo g mo a op71 now drp71 pa sa iS bu y2.2 rT wT sK sA sB sE oq bS bE bL rp) _ (List.range _) _ _ := (subF hP hD hS)
        refine goI0 hB (run_v C mf_Mo_isSign qm_Mo_311 (c_Mo_isSign l g mo a op71 now drp71 pa sa iS bu y2.2 rT wT sK sA sB sE oq bS bE bL rp (45 : Int32) hs21) rfl rfl ⟨Nat.le_of_ble_eq_true rfl, Nat.le_of_ble_eq_true rfl⟩ ⟨Nat.le_of_ble_eq_true rfl, Nat.le_of_ble_eq_true rfl⟩ hB rfl rfl hl rfl rfl (Nat.le_of_ble_eq_true rfl) d_Mo_readBox_94) (fun y22 ey22 H locs hP hS => ?_)
        have hz := lett_z hz ey22
        have hok := lett_o hok ey22
        refine lv_if_eq (tgt := 124) hx hb d_Mo_readBox_97 (by decide) (fun c23 => ?_) (fun c23 => ?_)
        · have hz := hz.trans (if_pos c23)
          exact k_Mo_readBox_124 C () trivial _ hz _ _ ls hP hD hS hl
        · have hz := hz.trans (if_neg c23)
          have hok := hok.2 c23
          exact k_Mo_readBox_100 C ih71 () hok _ hz _ _ ls hP hD hS hl
theorem k_Mo_readBox_71 {p : Program} {l : Launch} {e : Env} {s : State} {m : MethodId} {args : Array Value} {below : List Frame} {meth : Method} {c : Code} {g : GX} {mo : Nat} {a : Nat → Nat} {ws0 : va_W} {now : LV} {pa : LV} {sa : LV} {iS : IV} {bu : IV} {y2 : IV × IV} {rT : IV} {wT : IV} {sK : IV} {sA : IV} {sB : IV} {sE : IV} {oq : IV} {bS : IV} {bE : IV} {bL : IV} {rp : IV}  (C : Cx p s m args meth c (inW ws0) g "DecadeBridgeModel" b_Mo_readBox none 2) (f : Nat)  : HL_Mo_readBox_71 p l e s m args below meth c g mo a ws0 now pa sa iS bu y2 rT wT sK sA sB sE oq bS bE bL rp (sp_Mo_readBox_71 y2 bu  f) (ok_Mo_readBox_71 y2 bu   f) := by
  induction f with
  | zero => intro x1p71 op71 drp71 hok; exact False.elim hok
  | succ f ih => exact kb_Mo_readBox_71 C  ih
noncomputable def sp_Mo_readBox (o : IV) (dr : LV) (bu : IV) (tq : IV) : IV × LV × IV := lett (sp_Mo_once (0 : Int32) o bu tq) fun (y2 : IV × IV) => lett (sp_Mo_number (0 : Int64) (4 : Int64) y2.1 bu) fun (y4 : Int64 × IV) => lett (sp_Mo_tenTo y4.1.toInt32) fun (y6 : Int64) => lett (vp_updL dr 1 y6) fun (dr_7 : LV) => lett (sp_Mo_number (0 : Int64) (999 : Int64) y4.2 bu) fun (y9 : Int64 × IV) => lett (vp_updL dr_7 2 y9.1) fun (dr_10 : LV) => lett (sp_Mo_signed (-50000 : Int64) (50000 : Int64) y9.2 bu) fun (y12 : Int64 × IV) => lett (vp_updL dr_10 3 y12.1) fun (dr_13 : LV) => lett (sp_Mo_signed (-50000 : Int64) (50000 : Int64) y12.2 bu) fun (y15 : Int64 × IV) => lett (vp_updL dr_13 4 y15.1) fun (dr_16 : LV) => sp_Mo_readBox_71 y2 bu big (2 : Int32) y15.2 dr_16
def ok_Mo_readBox (o : IV) (dr : LV) (bu : IV) (tq : IV) : Prop := (ok_Mo_once (0 : Int32) o bu tq) ∧ lett (sp_Mo_once (0 : Int32) o bu tq) fun (y2 : IV × IV) => (ok_Mo_number (0 : Int64) (4 : Int64) y2.1 bu) ∧ lett (sp_Mo_number (0 : Int64) (4 : Int64) y2.1 bu) fun (y4 : Int64 × IV) => (ok_Mo_tenTo y4.1.toInt32) ∧ lett (sp_Mo_tenTo y4.1.toInt32) fun (y6 : Int64) => lett (vp_updL dr 1 y6) fun (dr_7 : LV) => (ok_Mo_number (0 : Int64) (999 : Int64) y4.2 bu) ∧ lett (sp_Mo_number (0 : Int64) (999 : Int64) y4.2 bu) fun (y9 : Int64 × IV) => lett (vp_updL dr_7 2 y9.1) fun (dr_10 : LV) => (ok_Mo_signed (-50000 : Int64) (50000 : Int64) y9.2 bu) ∧ lett (sp_Mo_signed (-50000 : Int64) (50000 : Int64) y9.2 bu) fun (y12 : Int64 × IV) => lett (vp_updL dr_10 3 y12.1) fun (dr_13 : LV) => (ok_Mo_signed (-50000 : Int64) (50000 : Int64) y12.2 bu) ∧ lett (sp_Mo_signed (-50000 : Int64) (50000 : Int64) y12.2 bu) fun (y15 : Int64 × IV) => lett (vp_updL dr_13 4 y15.1) fun (dr_16 : LV) => ok_Mo_readBox_71 y2 bu big (2 : Int32) y15.2 dr_16
set_option maxRecDepth 100000 in
set_option maxHeartbeats 4000000 in
theorem c_Mo_readBox (l : Launch) (g : GX) (mo : Nat) (a : Nat → Nat) (o : IV) (now : LV) (dr : LV) (pa : LV) (sa : LV) (iS : IV) (bu : IV) (tq : IV) (rT : IV) (wT : IV) (sK : IV) (sA : IV) (sB : IV) (sE : IV) (oq : IV) (bS : IV) (bE : IV) (bL : IV) (rp : IV)  (hok : ok_Mo_readBox o dr bu tq) : Met l y_Mo_readBox (wsY y_Mo_readBox b_Mo_readBox 2 none) rm_Mo_readBox (CP g [.ref mo] (wMo g mo a o now dr pa sa iS bu tq rT wT sK sA sB sE oq bS bE bL rp)) (CV g (wMo g mo a o now dr pa sa iS bu tq rT wT sK sA sB sE oq bS bE bL rp) (fun u : IV × LV × IV => wMo g mo a u.1 now u.2.1 pa sa iS bu u.2.2 rT wT sK sA sB sE oq bS bE bL rp) (sp_Mo_readBox o dr bu tq)) 0 0 (inW (wMo g mo a o now dr pa sa iS bu tq rT wT sK sA sB sE oq bS bE bL rp)) := by
  refine Met.ofW (cc := b_Mo_readBox) (maxL := 2) (ret := none) pn_Mo rfl ?_
  intro p e s m args below meth c s₁ B hml hv
  obtain ⟨rfl, C, hP, hD, hS⟩ := enter "DecadeBridgeModel" rfl B hml hv
  obtain ⟨hx, hb, hr, hml, hown, hlk, hts, hK, hZo, hZ⟩ := id C
  refine entryW (lv := [(0, .ref mo)]) rfl (Nat.le_of_ble_eq_true rfl) (fun ls hl => ?_)
  obtain ⟨z, hz⟩ : ∃ z, z = sp_Mo_readBox o dr bu tq := ⟨_, rfl⟩
  rw [← hz]
  unfold sp_Mo_readBox at hz
  unfold ok_Mo_readBox at hok
  refine lv_aload_n hx hb d_Mo_readBox_0 rfl (lv_at hl 0 rfl) ?_
  refine lv_iconst (v := 0) hx hb d_Mo_readBox_1 (by decide) ?_
  have hs1 := hok.1
  have hok := hok.2
  have hB : SubW g (inW (wMo g mo a o now dr pa sa iS bu tq rT wT sK sA sB sE oq bS bE bL rp)) s (wMo g mo a o now dr pa sa iS bu tq rT wT sK sA sB sE oq bS bE bL rp) _ (List.range _) _ _ := (subF hP hD hS)
  refine goVF hB (run_v C mf_Mo_once qm_Mo_331 (c_Mo_once l g mo a o now dr pa sa iS bu tq rT wT sK sA sB sE oq bS bE bL rp (0 : Int32) hs1) rfl rfl ⟨Nat.le_of_ble_eq_true rfl, Nat.le_of_ble_eq_true rfl⟩ ⟨Nat.le_of_ble_eq_true rfl, Nat.le_of_ble_eq_true rfl⟩ hB rfl rfl hl rfl rfl (Nat.le_of_ble_eq_true rfl) d_Mo_readBox_2) (fun _ => rfl) (fun y2 ey2 H locs hP hD hS => ?_)
  have hP : va_P g.1 vwCl (wMo g mo a y2.1 now dr pa sa iS bu y2.2 rT wT sK sA sB sE oq bS bE bL rp) H := hP
  have hD : va_D (inW (wMo g mo a o now dr pa sa iS bu tq rT wT sK sA sB sE oq bS bE bL rp)) (wMo g mo a y2.1 now dr pa sa iS bu y2.2 rT wT sK sA sB sE oq bS bE bL rp) := hD
  have hz := lett_z hz ey2
  have hok := lett_o hok ey2
  refine lv_aload_n hx hb d_Mo_readBox_5 rfl (lv_at hl 0 rfl) ?_
  refine gf C hP 0 1 fkMo rfl (by decide) rfl qf_Mo_13 (gMo_1 _ _) d_Mo_readBox_6 ?_
  refine lv_iconst (v := 1) hx hb d_Mo_readBox_9 (by decide) ?_
  refine lv_aload_n hx hb d_Mo_readBox_10 rfl (lv_at hl 0 rfl) ?_
  refine lv_lconst (v := 0) hx hb d_Mo_readBox_11 (by decide) ?_
  refine lv_ldc2 hx hb hown (hts _ qk_Mo_116) d_Mo_readBox_12 ?_
  have hs3 := hok.1
  have hok := hok.2
  have hB : SubW g (inW (wMo g mo a o now dr pa sa iS bu tq rT wT sK sA sB sE oq bS bE bL rp)) s (wMo g mo a y2.1 now dr pa sa iS bu y2.2 rT wT sK sA sB sE oq bS bE bL rp) _ (List.range _) _ _ := (subF hP hD hS)
  refine goLF hB (run_v C mf_Mo_number qm_Mo_334 (c_Mo_number l g mo a y2.1 now dr pa sa iS bu y2.2 rT wT sK sA sB sE oq bS bE bL rp (0 : Int64) (4 : Int64) hs3) rfl rfl ⟨Nat.le_of_ble_eq_true rfl, Nat.le_of_ble_eq_true rfl⟩ ⟨Nat.le_of_ble_eq_true rfl, Nat.le_of_ble_eq_true rfl⟩ hB rfl rfl hl rfl rfl (Nat.le_of_ble_eq_true rfl) d_Mo_readBox_15) (fun _ => rfl) (fun y4 ey4 H locs hP hD hS => ?_)
  have hP : va_P g.1 vwCl (wMo g mo a y4.2 now dr pa sa iS bu y2.2 rT wT sK sA sB sE oq bS bE bL rp) H := hP
  have hD : va_D (inW (wMo g mo a o now dr pa sa iS bu tq rT wT sK sA sB sE oq bS bE bL rp)) (wMo g mo a y4.2 now dr pa sa iS bu y2.2 rT wT sK sA sB sE oq bS bE bL rp) := hD
  have hz := lett_z hz ey4
  have hok := lett_o hok ey4
  refine lv_l2i hx hb d_Mo_readBox_18 rfl ?_
  have hs5 := hok.1
  have hok := hok.2
  have hB : SubW g (inW (wMo g mo a o now dr pa sa iS bu tq rT wT sK sA sB sE oq bS bE bL rp)) s (wMo g mo a y4.2 now dr pa sa iS bu y2.2 rT wT sK sA sB sE oq bS bE bL rp) _ (List.range _) _ _ := (subF hP hD hS)
  refine goL0 hB (run_s C mf_Mo_tenTo qm_Mo_122 (c_Mo_tenTo l g mo a y4.2 now dr pa sa iS bu y2.2 rT wT sK sA sB sE oq bS bE bL rp y4.1.toInt32 hs5) rfl rfl ⟨Nat.le_of_ble_eq_true rfl, Nat.le_of_ble_eq_true rfl⟩ ⟨Nat.le_of_ble_eq_true rfl, Nat.le_of_ble_eq_true rfl⟩ hB hl rfl rfl (Nat.le_of_ble_eq_true rfl) d_Mo_readBox_19) (fun y6 ey6 H locs hP hS => ?_)
  have hz := lett_z hz ey6
  have hok := lett_o hok ey6
  refine stL C hP hD hS 2 rfl vi_1_215 cn_1 d_Mo_readBox_22 (fun dr_7 edr_7 H locs hP hD hS => ?_)
  have hP : va_P g.1 vwCl (wMo g mo a y4.2 now dr_7 pa sa iS bu y2.2 rT wT sK sA sB sE oq bS bE bL rp) H := hP
  have hD : va_D (inW (wMo g mo a o now dr pa sa iS bu tq rT wT sK sA sB sE oq bS bE bL rp)) (wMo g mo a y4.2 now dr_7 pa sa iS bu y2.2 rT wT sK sA sB sE oq bS bE bL rp) := hD
  have hz := lett_z hz edr_7
  have hok := lett_o hok edr_7
  refine lv_aload_n hx hb d_Mo_readBox_23 rfl (lv_at hl 0 rfl) ?_
  refine gf C hP 0 1 fkMo rfl (by decide) rfl qf_Mo_13 (gMo_1 _ _) d_Mo_readBox_24 ?_
  refine lv_iconst (v := 2) hx hb d_Mo_readBox_27 (by decide) ?_
  refine lv_aload_n hx hb d_Mo_readBox_28 rfl (lv_at hl 0 rfl) ?_
  refine lv_lconst (v := 0) hx hb d_Mo_readBox_29 (by decide) ?_
  refine lv_ldc2 hx hb hown (hts _ qk_Mo_337) d_Mo_readBox_30 ?_
  have hs8 := hok.1
  have hok := hok.2
  have hB : SubW g (inW (wMo g mo a o now dr pa sa iS bu tq rT wT sK sA sB sE oq bS bE bL rp)) s (wMo g mo a y4.2 now dr_7 pa sa iS bu y2.2 rT wT sK sA sB sE oq bS bE bL rp) _ (List.range _) _ _ := (subF hP hD hS)
  refine goLF hB (run_v C mf_Mo_number qm_Mo_334 (c_Mo_number l g mo a y4.2 now dr_7 pa sa iS bu y2.2 rT wT sK sA sB sE oq bS bE bL rp (0 : Int64) (999 : Int64) hs8) rfl rfl ⟨Nat.le_of_ble_eq_true rfl, Nat.le_of_ble_eq_true rfl⟩ ⟨Nat.le_of_ble_eq_true rfl, Nat.le_of_ble_eq_true rfl⟩ hB rfl rfl hl rfl rfl (Nat.le_of_ble_eq_true rfl) d_Mo_readBox_33) (fun _ => rfl) (fun y9 ey9 H locs hP hD hS => ?_)
  have hP : va_P g.1 vwCl (wMo g mo a y9.2 now dr_7 pa sa iS bu y2.2 rT wT sK sA sB sE oq bS bE bL rp) H := hP
  have hD : va_D (inW (wMo g mo a o now dr pa sa iS bu tq rT wT sK sA sB sE oq bS bE bL rp)) (wMo g mo a y9.2 now dr_7 pa sa iS bu y2.2 rT wT sK sA sB sE oq bS bE bL rp) := hD
  have hz := lett_z hz ey9
  have hok := lett_o hok ey9
  refine stL C hP hD hS 2 rfl vi_2_215 cn_2 d_Mo_readBox_36 (fun dr_10 edr_10 H locs hP hD hS => ?_)
  have hP : va_P g.1 vwCl (wMo g mo a y9.2 now dr_10 pa sa iS bu y2.2 rT wT sK sA sB sE oq bS bE bL rp) H := hP
  have hD : va_D (inW (wMo g mo a o now dr pa sa iS bu tq rT wT sK sA sB sE oq bS bE bL rp)) (wMo g mo a y9.2 now dr_10 pa sa iS bu y2.2 rT wT sK sA sB sE oq bS bE bL rp) := hD
  have hz := lett_z hz edr_10
  have hok := lett_o hok edr_10
  refine lv_aload_n hx hb d_Mo_readBox_37 rfl (lv_at hl 0 rfl) ?_
  refine gf C hP 0 1 fkMo rfl (by decide) rfl qf_Mo_13 (gMo_1 _ _) d_Mo_readBox_38 ?_
  refine lv_iconst (v := 3) hx hb d_Mo_readBox_41 (by decide) ?_
  refine lv_aload_n hx hb d_Mo_readBox_42 rfl (lv_at hl 0 rfl) ?_
  refine lv_ldc2 hx hb hown (hts _ qk_Mo_339) d_Mo_readBox_43 ?_
  refine lv_ldc2 hx hb hown (hts _ qk_Mo_341) d_Mo_readBox_46 ?_
  have hs11 := hok.1
  have hok := hok.2
  have hB : SubW g (inW (wMo g mo a o now dr pa sa iS bu tq rT wT sK sA sB sE oq bS bE bL rp)) s (wMo g mo a y9.2 now dr_10 pa sa iS bu y2.2 rT wT sK sA sB sE oq bS bE bL rp) _ (List.range _) _ _ := (subF hP hD hS)
  refine goLF hB (run_v C mf_Mo_signed qm_Mo_343 (c_Mo_signed l g mo a y9.2 now dr_10 pa sa iS bu y2.2 rT wT sK sA sB sE oq bS bE bL rp (-50000 : Int64) (50000 : Int64) hs11) rfl rfl ⟨Nat.le_of_ble_eq_true rfl, Nat.le_of_ble_eq_true rfl⟩ ⟨Nat.le_of_ble_eq_true rfl, Nat.le_of_ble_eq_true rfl⟩ hB rfl rfl hl rfl rfl (Nat.le_of_ble_eq_true rfl) d_Mo_readBox_49) (fun _ => rfl) (fun y12 ey12 H locs hP hD hS => ?_)
  have hP : va_P g.1 vwCl (wMo g mo a y12.2 now dr_10 pa sa iS bu y2.2 rT wT sK sA sB sE oq bS bE bL rp) H := hP
  have hD : va_D (inW (wMo g mo a o now dr pa sa iS bu tq rT wT sK sA sB sE oq bS bE bL rp)) (wMo g mo a y12.2 now dr_10 pa sa iS bu y2.2 rT wT sK sA sB sE oq bS bE bL rp) := hD
  have hz := lett_z hz ey12
  have hok := lett_o hok ey12
  refine stL C hP hD hS 2 rfl vi_3_215 cn_3 d_Mo_readBox_52 (fun dr_13 edr_13 H locs hP hD hS => ?_)
  have hP : va_P g.1 vwCl (wMo g mo a y12.2 now dr_13 pa sa iS bu y2.2 rT wT sK sA sB sE oq bS bE bL rp) H := hP
  have hD : va_D (inW (wMo g mo a o now dr pa sa iS bu tq rT wT sK sA sB sE oq bS bE bL rp)) (wMo g mo a y12.2 now dr_13 pa sa iS bu y2.2 rT wT sK sA sB sE oq bS bE bL rp) := hD
  have hz := lett_z hz edr_13
  have hok := lett_o hok edr_13
  refine lv_aload_n hx hb d_Mo_readBox_53 rfl (lv_at hl 0 rfl) ?_
  refine gf C hP 0 1 fkMo rfl (by decide) rfl qf_Mo_13 (gMo_1 _ _) d_Mo_readBox_54 ?_
  refine lv_iconst (v := 4) hx hb d_Mo_readBox_57 (by decide) ?_
  refine lv_aload_n hx hb d_Mo_readBox_58 rfl (lv_at hl 0 rfl) ?_
  refine lv_ldc2 hx hb hown (hts _ qk_Mo_339) d_Mo_readBox_59 ?_
  refine lv_ldc2 hx hb hown (hts _ qk_Mo_341) d_Mo_readBox_62 ?_
  have hs14 := hok.1
  have hok := hok.2
  have hB : SubW g (inW (wMo g mo a o now dr pa sa iS bu tq rT wT sK sA sB sE oq bS bE bL rp)) s (wMo g mo a y12.2 now dr_13 pa sa iS bu y2.2 rT wT sK sA sB sE oq bS bE bL rp) _ (List.range _) _ _ := (subF hP hD hS)
  refine goLF hB (run_v C mf_Mo_signed qm_Mo_343 (c_Mo_signed l g mo a y12.2 now dr_13 pa sa iS bu y2.2 rT wT sK sA sB sE oq bS bE bL rp (-50000 : Int64) (50000 : Int64) hs14) rfl rfl ⟨Nat.le_of_ble_eq_true rfl, Nat.le_of_ble_eq_true rfl⟩ ⟨Nat.le_of_ble_eq_true rfl, Nat.le_of_ble_eq_true rfl⟩ hB rfl rfl hl rfl rfl (Nat.le_of_ble_eq_true rfl) d_Mo_readBox_65) (fun _ => rfl) (fun y15 ey15 H locs hP hD hS => ?_)
  have hP : va_P g.1 vwCl (wMo g mo a y15.2 now dr_13 pa sa iS bu y2.2 rT wT sK sA sB sE oq bS bE bL rp) H := hP
  have hD : va_D (inW (wMo g mo a o now dr pa sa iS bu tq rT wT sK sA sB sE oq bS bE bL rp)) (wMo g mo a y15.2 now dr_13 pa sa iS bu y2.2 rT wT sK sA sB sE oq bS bE bL rp) := hD
  have hz := lett_z hz ey15
  have hok := lett_o hok ey15
  refine stL C hP hD hS 2 rfl vi_4_215 cn_4 d_Mo_readBox_68 (fun dr_16 edr_16 H locs hP hD hS => ?_)
  have hP : va_P g.1 vwCl (wMo g mo a y15.2 now dr_16 pa sa iS bu y2.2 rT wT sK sA sB sE oq bS bE bL rp) H := hP
  have hD : va_D (inW (wMo g mo a o now dr pa sa iS bu tq rT wT sK sA sB sE oq bS bE bL rp)) (wMo g mo a y15.2 now dr_16 pa sa iS bu y2.2 rT wT sK sA sB sE oq bS bE bL rp) := hD
  have hz := lett_z hz edr_16
  have hok := lett_o hok edr_16
  refine lv_iconst (v := 2) hx hb d_Mo_readBox_69 (by decide) ?_
  refine lv_istore_n (lv' := [(1, .int (2 : Int32)), (0, .ref mo)]) hx hb d_Mo_readBox_70 rfl hl (by decide) rfl (fun ls hl => ?_)
  exact k_Mo_readBox_71 C big (2 : Int32) y15.2 dr_16 hok _ hz _ _ ls hP hD hS (lv_sub hl [1, 0] rfl)
abbrev rm_Mo_readRatio : Room := { frames := 4, cells := 0, slots := 0, locals := 89 }
def HL_Mo_readRatio_29 (p : Program) (l : Launch) (e : Env) (s : State) (m : MethodId) (args : Array Value) (below : List Frame) (meth : Method) (c : Code) (g : GX) (mo : Nat) (a : Nat → Nat) (ws0 : va_W) (y4 : Int64 × IV) (now : LV) (dr : LV) (pa : LV) (sa : LV) (iS : IV) (bu : IV) (tq : IV) (rT : IV) (wT : IV) (sK : IV) (sA : IV) (sB : IV) (sE : IV) (oq : IV) (bS : IV) (bE : IV) (bL : IV) (rp : IV) (sp : Int32 → (IV × LV × IV)) (ok : Int32 → Prop) : Prop := ∀ (t1p29 : Int32), ok t1p29 → ∀ z : (IV × LV × IV), z = sp t1p29 → ∀ (H : Heap) (locs : List Loc) (ls : Array Slot), va_P g.1 vwCl (wMo g mo a y4.2 now dr pa sa iS bu tq rT wT sK sA sB sE oq bS bE bL rp) H → va_D (inW ws0) (wMo g mo a y4.2 now dr pa sa iS bu tq rT wT sK sA sB sE oq bS bE bL rp) → va_S (inW ws0) s.heap H locs → lv_has ls 2 [(0, .ref mo), (1, .int y4.1.toInt32)] → W p l e rm_Mo_readRatio s m args below meth c H locs 0 0 (MQ below (CV g ws0 (fun u : IV × LV × IV => wMo g mo a u.1 now u.2.1 pa sa iS bu tq u.2.2 wT sK sA sB sE oq bS bE bL rp) z) args s 0 0 (inW ws0)) (F0 m 29 ls [.int t1p29, .ref mo])
noncomputable def sp_Mo_readRatio_29 (y4 : Int64 × IV) (bu : IV) (rT : IV) (dr : LV)  (t1p29 : Int32) : IV × LV × IV := lett (sp_Mo_must t1p29 (3 : Int32) y4.2) fun (y7 : IV) => lett (sp_Mo_goOn y7 bu) fun (y9 : IV) => lett (upd rT y4.1.toInt32.toNatClampNeg (vp_nar .boolean (1 : Int32))) fun (rT_11 : IV) => lett (sp_Mo_signed (-50000 : Int64) (50000 : Int64) y9 bu) fun (y13 : Int64 × IV) => lett (vp_updL dr ((7 : Int32) + y4.1.toInt32).toNatClampNeg y13.1) fun (dr_15 : LV) => (y13.2, dr_15, rT_11)
def ok_Mo_readRatio_29 (y4 : Int64 × IV) (bu : IV) (rT : IV) (dr : LV)   (t1p29 : Int32) : Prop := lett (sp_Mo_must t1p29 (3 : Int32) y4.2) fun (y7 : IV) => (ok_Mo_goOn y7 bu) ∧ lett (sp_Mo_goOn y7 bu) fun (y9 : IV) => (vp_in y4.1.toInt32 5) ∧ lett (upd rT y4.1.toInt32.toNatClampNeg (vp_nar .boolean (1 : Int32))) fun (rT_11 : IV) => (ok_Mo_signed (-50000 : Int64) (50000 : Int64) y9 bu) ∧ lett (sp_Mo_signed (-50000 : Int64) (50000 : Int64) y9 bu) fun (y13 : Int64 × IV) => (vp_in ((7 : Int32) + y4.1.toInt32) 215) ∧ True
set_option maxRecDepth 100000 in
set_option maxHeartbeats 4000000 in
theorem k_Mo_readRatio_29 {p : Program} {l : Launch} {e : Env} {s : State} {m : MethodId} {args : Array Value} {below : List Frame} {meth : Method} {c : Code} {g : GX} {mo : Nat} {a : Nat → Nat} {ws0 : va_W} {y4 : Int64 × IV} {now : LV} {dr : LV} {pa : LV} {sa : LV} {iS : IV} {bu : IV} {tq : IV} {rT : IV} {wT : IV} {sK : IV} {sA : IV} {sB : IV} {sE : IV} {oq : IV} {bS : IV} {bE : IV} {bL : IV} {rp : IV}  (C : Cx p s m args meth c (inW ws0) g "DecadeBridgeModel" b_Mo_readRatio none 2)  : HL_Mo_readRatio_29 p l e s m args below meth c g mo a ws0 y4 now dr pa sa iS bu tq rT wT sK sA sB sE oq bS bE bL rp (sp_Mo_readRatio_29 y4 bu rT dr ) (ok_Mo_readRatio_29 y4 bu rT dr  ) := by
  intro t1p29 hok z hz H locs ls hP hD hS hl
  obtain ⟨hx, hb, hr, hml, hown, hlk, hts, hK, hZo, hZ⟩ := id C
  unfold sp_Mo_readRatio_29 at hz
  unfold ok_Mo_readRatio_29 at hok
  refine lv_iconst (v := 3) hx hb d_Mo_readRatio_29 (by decide) ?_
  have hB : SubW g (inW ws0) s (wMo g mo a y4.2 now dr pa sa iS bu tq rT wT sK sA sB sE oq bS bE bL rp) _ (List.range _) _ _ := (subF hP hD hS)
  refine goVF hB (run_v C mf_Mo_must qm_Mo_314 (c_Mo_must l g mo a y4.2 now dr pa sa iS bu tq rT wT sK sA sB sE oq bS bE bL rp t1p29 (3 : Int32)) rfl rfl ⟨Nat.le_of_ble_eq_true rfl, Nat.le_of_ble_eq_true rfl⟩ ⟨Nat.le_of_ble_eq_true rfl, Nat.le_of_ble_eq_true rfl⟩ hB rfl rfl hl rfl rfl (Nat.le_of_ble_eq_true rfl) d_Mo_readRatio_30) (fun _ => rfl) (fun y7 ey7 H locs hP hD hS => ?_)
  have hP : va_P g.1 vwCl (wMo g mo a y7 now dr pa sa iS bu tq rT wT sK sA sB sE oq bS bE bL rp) H := hP
  have hD : va_D (inW ws0) (wMo g mo a y7 now dr pa sa iS bu tq rT wT sK sA sB sE oq bS bE bL rp) := hD
  have hz := lett_z hz ey7
  have hok := lett_o hok ey7
  refine lv_aload_n hx hb d_Mo_readRatio_33 rfl (lv_at hl 0 rfl) ?_
  have hs8 := hok.1
  have hok := hok.2
  have hB : SubW g (inW ws0) s (wMo g mo a y7 now dr pa sa iS bu tq rT wT sK sA sB sE oq bS bE bL rp) _ (List.range _) _ _ := (subF hP hD hS)
  refine goVF hB (run_v C mf_Mo_goOn qm_Mo_318 (c_Mo_goOn l g mo a y7 now dr pa sa iS bu tq rT wT sK sA sB sE oq bS bE bL rp hs8) rfl rfl ⟨Nat.le_of_ble_eq_true rfl, Nat.le_of_ble_eq_true rfl⟩ ⟨Nat.le_of_ble_eq_true rfl, Nat.le_of_ble_eq_true rfl⟩ hB rfl rfl hl rfl rfl (Nat.le_of_ble_eq_true rfl) d_Mo_readRatio_34) (fun _ => rfl) (fun y9 ey9 H locs hP hD hS => ?_)
  have hP : va_P g.1 vwCl (wMo g mo a y9 now dr pa sa iS bu tq rT wT sK sA sB sE oq bS bE bL rp) H := hP
  have hD : va_D (inW ws0) (wMo g mo a y9 now dr pa sa iS bu tq rT wT sK sA sB sE oq bS bE bL rp) := hD
  have hz := lett_z hz ey9
  have hok := lett_o hok ey9
  refine lv_aload_n hx hb d_Mo_readRatio_37 rfl (lv_at hl 0 rfl) ?_
  refine gf C hP 0 15 fkMo rfl (by decide) rfl qf_Mo_37 (gMo_15 _ _) d_Mo_readRatio_38 ?_
  refine lv_iload_n hx hb d_Mo_readRatio_41 rfl (lv_at hl 1 rfl) ?_
  refine lv_iconst (v := 1) hx hb d_Mo_readRatio_42 (by decide) ?_
  have hs10 := hok.1
  have hok := hok.2
  refine stZ C hP hD hS 8 rfl hs10 rfl d_Mo_readRatio_43 (fun rT_11 erT_11 H locs hP hD hS => ?_)
  have hP : va_P g.1 vwCl (wMo g mo a y9 now dr pa sa iS bu tq rT_11 wT sK sA sB sE oq bS bE bL rp) H := hP
  have hD : va_D (inW ws0) (wMo g mo a y9 now dr pa sa iS bu tq rT_11 wT sK sA sB sE oq bS bE bL rp) := hD
  have hz := lett_z hz erT_11
  have hok := lett_o hok erT_11
  refine lv_aload_n hx hb d_Mo_readRatio_44 rfl (lv_at hl 0 rfl) ?_
  refine gf C hP 0 1 fkMo rfl (by decide) rfl qf_Mo_13 (gMo_1 _ _) d_Mo_readRatio_45 ?_
  refine lv_bipush (v := 7) hx hb d_Mo_readRatio_48 (by decide) ?_
  refine lv_iload_n hx hb d_Mo_readRatio_50 rfl (lv_at hl 1 rfl) ?_
  refine lv_iadd hx hb d_Mo_readRatio_51 ?_
  refine lv_aload_n hx hb d_Mo_readRatio_52 rfl (lv_at hl 0 rfl) ?_
  refine lv_ldc2 hx hb hown (hts _ qk_Mo_339) d_Mo_readRatio_53 ?_
  refine lv_ldc2 hx hb hown (hts _ qk_Mo_341) d_Mo_readRatio_56 ?_
  have hs12 := hok.1
  have hok := hok.2
  have hB : SubW g (inW ws0) s (wMo g mo a y9 now dr pa sa iS bu tq rT_11 wT sK sA sB sE oq bS bE bL rp) _ (List.range _) _ _ := (subF hP hD hS)
  refine goLF hB (run_v C mf_Mo_signed qm_Mo_343 (c_Mo_signed l g mo a y9 now dr pa sa iS bu tq rT_11 wT sK sA sB sE oq bS bE bL rp (-50000 : Int64) (50000 : Int64) hs12) rfl rfl ⟨Nat.le_of_ble_eq_true rfl, Nat.le_of_ble_eq_true rfl⟩ ⟨Nat.le_of_ble_eq_true rfl, Nat.le_of_ble_eq_true rfl⟩ hB rfl rfl hl rfl rfl (Nat.le_of_ble_eq_true rfl) d_Mo_readRatio_59) (fun _ => rfl) (fun y13 ey13 H locs hP hD hS => ?_)
  have hP : va_P g.1 vwCl (wMo g mo a y13.2 now dr pa sa iS bu tq rT_11 wT sK sA sB sE oq bS bE bL rp) H := hP
  have hD : va_D (inW ws0) (wMo g mo a y13.2 now dr pa sa iS bu tq rT_11 wT sK sA sB sE oq bS bE bL rp) := hD
  have hz := lett_z hz ey13
  have hok := lett_o hok ey13
  have hs14 := hok.1
  have hok := hok.2
  refine stL C hP hD hS 2 rfl hs14 rfl d_Mo_readRatio_62 (fun dr_15 edr_15 H locs hP hD hS => ?_)
  have hP : va_P g.1 vwCl (wMo g mo a y13.2 now dr_15 pa sa iS bu tq rT_11 wT sK sA sB sE oq bS bE bL rp) H := hP
  have hD : va_D (inW ws0) (wMo g mo a y13.2 now dr_15 pa sa iS bu tq rT_11 wT sK sA sB sE oq bS bE bL rp) := hD
  have hz := lett_z hz edr_15
  exact endV C hz hP hS d_Mo_readRatio_63
noncomputable def sp_Mo_readRatio (o : IV) (dr : LV) (bu : IV) (rT : IV) : IV × LV × IV := lett (sp_Mo_goOn o bu) fun (y2 : IV) => lett (sp_Mo_numberAhead (0 : Int64) (4 : Int64) y2 bu) fun (y4 : Int64 × IV) => if (rT y4.1.toInt32.toNatClampNeg) = 0 then (sp_Mo_readRatio_29 y4 bu rT dr (1 : Int32)) else (sp_Mo_readRatio_29 y4 bu rT dr (0 : Int32))
def ok_Mo_readRatio (o : IV) (dr : LV) (bu : IV) (rT : IV) : Prop := (ok_Mo_goOn o bu) ∧ lett (sp_Mo_goOn o bu) fun (y2 : IV) => (ok_Mo_numberAhead (0 : Int64) (4 : Int64) y2 bu) ∧ lett (sp_Mo_numberAhead (0 : Int64) (4 : Int64) y2 bu) fun (y4 : Int64 × IV) => (vp_in y4.1.toInt32 5) ∧ (((rT y4.1.toInt32.toNatClampNeg) = 0 → ok_Mo_readRatio_29 y4 bu rT dr (1 : Int32)) ∧ (¬ ((rT y4.1.toInt32.toNatClampNeg) = 0) → ok_Mo_readRatio_29 y4 bu rT dr (0 : Int32)))
set_option maxRecDepth 100000 in
set_option maxHeartbeats 4000000 in
theorem c_Mo_readRatio (l : Launch) (g : GX) (mo : Nat) (a : Nat → Nat) (o : IV) (now : LV) (dr : LV) (pa : LV) (sa : LV) (iS : IV) (bu : IV) (tq : IV) (rT : IV) (wT : IV) (sK : IV) (sA : IV) (sB : IV) (sE : IV) (oq : IV) (bS : IV) (bE : IV) (bL : IV) (rp : IV)  (hok : ok_Mo_readRatio o dr bu rT) : Met l y_Mo_readRatio (wsY y_Mo_readRatio b_Mo_readRatio 2 none) rm_Mo_readRatio (CP g [.ref mo] (wMo g mo a o now dr pa sa iS bu tq rT wT sK sA sB sE oq bS bE bL rp)) (CV g (wMo g mo a o now dr pa sa iS bu tq rT wT sK sA sB sE oq bS bE bL rp) (fun u : IV × LV × IV => wMo g mo a u.1 now u.2.1 pa sa iS bu tq u.2.2 wT sK sA sB sE oq bS bE bL rp) (sp_Mo_readRatio o dr bu rT)) 0 0 (inW (wMo g mo a o now dr pa sa iS bu tq rT wT sK sA sB sE oq bS bE bL rp)) := by
  refine Met.ofW (cc := b_Mo_readRatio) (maxL := 2) (ret := none) pn_Mo rfl ?_
  intro p e s m args below meth c s₁ B hml hv
  obtain ⟨rfl, C, hP, hD, hS⟩ := enter "DecadeBridgeModel" rfl B hml hv
  obtain ⟨hx, hb, hr, hml, hown, hlk, hts, hK, hZo, hZ⟩ := id C
  refine entryW (lv := [(0, .ref mo)]) rfl (Nat.le_of_ble_eq_true rfl) (fun ls hl => ?_)
  obtain ⟨z, hz⟩ : ∃ z, z = sp_Mo_readRatio o dr bu rT := ⟨_, rfl⟩
  rw [← hz]
  unfold sp_Mo_readRatio at hz
  unfold ok_Mo_readRatio at hok
  refine lv_aload_n hx hb d_Mo_readRatio_0 rfl (lv_at hl 0 rfl) ?_
  have hs1 := hok.1
  have hok := hok.2
  have hB : SubW g (inW (wMo g mo a o now dr pa sa iS bu tq rT wT sK sA sB sE oq bS bE bL rp)) s (wMo g mo a o now dr pa sa iS bu tq rT wT sK sA sB sE oq bS bE bL rp) _ (List.range _) _ _ := (subF hP hD hS)
  refine goVF hB (run_v C mf_Mo_goOn qm_Mo_318 (c_Mo_goOn l g mo a o now dr pa sa iS bu tq rT wT sK sA sB sE oq bS bE bL rp hs1) rfl rfl ⟨Nat.le_of_ble_eq_true rfl, Nat.le_of_ble_eq_true rfl⟩ ⟨Nat.le_of_ble_eq_true rfl, Nat.le_of_ble_eq_true rfl⟩ hB rfl rfl hl rfl rfl (Nat.le_of_ble_eq_true rfl) d_Mo_readRatio_1) (fun _ => rfl) (fun y2 ey2 H locs hP hD hS => ?_)
  have hP : va_P g.1 vwCl (wMo g mo a y2 now dr pa sa iS bu tq rT wT sK sA sB sE oq bS bE bL rp) H := hP
  have hD : va_D (inW (wMo g mo a o now dr pa sa iS bu tq rT wT sK sA sB sE oq bS bE bL rp)) (wMo g mo a y2 now dr pa sa iS bu tq rT wT sK sA sB sE oq bS bE bL rp) := hD
  have hz := lett_z hz ey2
  have hok := lett_o hok ey2
  refine lv_aload_n hx hb d_Mo_readRatio_4 rfl (lv_at hl 0 rfl) ?_
  refine lv_lconst (v := 0) hx hb d_Mo_readRatio_5 (by decide) ?_
  refine lv_ldc2 hx hb hown (hts _ qk_Mo_116) d_Mo_readRatio_6 ?_
  have hs3 := hok.1
  have hok := hok.2
  have hB : SubW g (inW (wMo g mo a o now dr pa sa iS bu tq rT wT sK sA sB sE oq bS bE bL rp)) s (wMo g mo a y2 now dr pa sa iS bu tq rT wT sK sA sB sE oq bS bE bL rp) _ (List.range _) _ _ := (subF hP hD hS)
  refine goLF hB (run_v C mf_Mo_numberAhead qm_Mo_328 (c_Mo_numberAhead l g mo a y2 now dr pa sa iS bu tq rT wT sK sA sB sE oq bS bE bL rp (0 : Int64) (4 : Int64) hs3) rfl rfl ⟨Nat.le_of_ble_eq_true rfl, Nat.le_of_ble_eq_true rfl⟩ ⟨Nat.le_of_ble_eq_true rfl, Nat.le_of_ble_eq_true rfl⟩ hB rfl rfl hl rfl rfl (Nat.le_of_ble_eq_true rfl) d_Mo_readRatio_9) (fun _ => rfl) (fun y4 ey4 H locs hP hD hS => ?_)
  have hP : va_P g.1 vwCl (wMo g mo a y4.2 now dr pa sa iS bu tq rT wT sK sA sB sE oq bS bE bL rp) H := hP
  have hD : va_D (inW (wMo g mo a o now dr pa sa iS bu tq rT wT sK sA sB sE oq bS bE bL rp)) (wMo g mo a y4.2 now dr pa sa iS bu tq rT wT sK sA sB sE oq bS bE bL rp) := hD
  have hz := lett_z hz ey4
  have hok := lett_o hok ey4
  refine lv_l2i hx hb d_Mo_readRatio_12 rfl ?_
  refine lv_istore_n (lv' := [(1, .int y4.1.toInt32), (0, .ref mo)]) hx hb d_Mo_readRatio_13 rfl hl (by decide) rfl (fun ls hl => ?_)
  refine lv_aload_n hx hb d_Mo_readRatio_14 rfl (lv_at hl 1 rfl) ?_
  refine lv_aload_n hx hb d_Mo_readRatio_15 rfl (lv_at hl 1 rfl) ?_
  refine gf C hP 0 15 fkMo rfl (by decide) rfl qf_Mo_37 (gMo_15 _ _) d_Mo_readRatio_16 ?_
  refine lv_iload_n hx hb d_Mo_readRatio_19 rfl (lv_at hl 0 rfl) ?_
  have hs5 := hok.1
  have hok := hok.2
  refine ldZ C hP 8 rfl hs5 rfl d_Mo_readRatio_20 ?_
  refine lv_if_ne (tgt := 28) hx hb d_Mo_readRatio_21 (by decide) (fun c6 => ?_) (fun c6 => ?_)
  · have hz := hz.trans (if_neg c6)
    have hok := hok.2 c6
    refine lv_iconst (v := 0) hx hb d_Mo_readRatio_28 (by decide) ?_
    exact k_Mo_readRatio_29 C (0 : Int32) hok _ hz _ _ ls hP hD hS (lv_sub hl [1, 0] rfl)
  · have hz := hz.trans (if_pos c6)
    have hok := hok.1 c6
    refine lv_iconst (v := 1) hx hb d_Mo_readRatio_24 (by decide) ?_
    refine lv_goto (tgt := 29) hx hb d_Mo_readRatio_25 (by decide) ?_
    exact k_Mo_readRatio_29 C (1 : Int32) hok _ hz _ _ ls hP hD hS (lv_sub hl [1, 0] rfl)
abbrev rm_Mo_readWarm : Room := { frames := 5, cells := 0, slots := 0, locals := 108 }
def HL_Mo_readWarm_27 (p : Program) (l : Launch) (e : Env) (s : State) (m : MethodId) (args : Array Value) (below : List Frame) (meth : Method) (c : Code) (g : GX) (mo : Nat) (a : Nat → Nat) (ws0 : va_W) (y2 : IV) (now : LV) (dr : LV) (pa : LV) (sa : LV) (iS : IV) (bu : IV) (tq : IV) (rT : IV) (wT : IV) (sK : IV) (sA : IV) (sB : IV) (sE : IV) (oq : IV) (bS : IV) (bE : IV) (bL : IV) (rp : IV) (y4 : Int32) (sp : (IV × LV × IV)) (ok : Prop) : Prop := ∀ (_ : Unit), ok → ∀ z : (IV × LV × IV), z = sp → ∀ (H : Heap) (locs : List Loc) (ls : Array Slot), va_P g.1 vwCl (wMo g mo a y2 now dr pa sa iS bu tq rT wT sK sA sB sE oq bS bE bL rp) H → va_D (inW ws0) (wMo g mo a y2 now dr pa sa iS bu tq rT wT sK sA sB sE oq bS bE bL rp) → va_S (inW ws0) s.heap H locs → lv_has ls 3 [(0, .ref mo), (1, .int y4)] → W p l e rm_Mo_readWarm s m args below meth c H locs 0 0 (MQ below (CV g ws0 (fun u : IV × LV × IV => wMo g mo a u.1 now u.2.1 pa sa iS bu tq rT u.2.2 sK sA sB sE oq bS bE bL rp) z) args s 0 0 (inW ws0)) (F0 m 27 ls [.ref mo])
def HL_Mo_readWarm_32 (p : Program) (l : Launch) (e : Env) (s : State) (m : MethodId) (args : Array Value) (below : List Frame) (meth : Method) (c : Code) (g : GX) (mo : Nat) (a : Nat → Nat) (ws0 : va_W) (y2 : IV) (now : LV) (dr : LV) (pa : LV) (sa : LV) (iS : IV) (bu : IV) (tq : IV) (rT : IV) (wT : IV) (sK : IV) (sA : IV) (sB : IV) (sE : IV) (oq : IV) (bS : IV) (bE : IV) (bL : IV) (rp : IV) (y4 : Int32) (sp : Int32 → (IV × LV × IV)) (ok : Int32 → Prop) : Prop := ∀ (t1p32 : Int32), ok t1p32 → ∀ z : (IV × LV × IV), z = sp t1p32 → ∀ (H : Heap) (locs : List Loc) (ls : Array Slot), va_P g.1 vwCl (wMo g mo a y2 now dr pa sa iS bu tq rT wT sK sA sB sE oq bS bE bL rp) H → va_D (inW ws0) (wMo g mo a y2 now dr pa sa iS bu tq rT wT sK sA sB sE oq bS bE bL rp) → va_S (inW ws0) s.heap H locs → lv_has ls 3 [(0, .ref mo), (1, .int y4)] → W p l e rm_Mo_readWarm s m args below meth c H locs 0 0 (MQ below (CV g ws0 (fun u : IV × LV × IV => wMo g mo a u.1 now u.2.1 pa sa iS bu tq rT u.2.2 sK sA sB sE oq bS bE bL rp) z) args s 0 0 (inW ws0)) (F0 m 32 ls [.int t1p32, .ref mo])
def HL_Mo_readWarm_50 (p : Program) (l : Launch) (e : Env) (s : State) (m : MethodId) (args : Array Value) (below : List Frame) (meth : Method) (c : Code) (g : GX) (mo : Nat) (a : Nat → Nat) (ws0 : va_W) (y9 : IV) (now : LV) (dr : LV) (pa : LV) (sa : LV) (iS : IV) (bu : IV) (tq : IV) (rT : IV) (wT : IV) (sK : IV) (sA : IV) (sB : IV) (sE : IV) (oq : IV) (bS : IV) (bE : IV) (bL : IV) (rp : IV) (y4 : Int32) (sp : Int32 → (IV × LV × IV)) (ok : Int32 → Prop) : Prop := ∀ (t2p50 : Int32), ok t2p50 → ∀ z : (IV × LV × IV), z = sp t2p50 → ∀ (H : Heap) (locs : List Loc) (ls : Array Slot), va_P g.1 vwCl (wMo g mo a y9 now dr pa sa iS bu tq rT wT sK sA sB sE oq bS bE bL rp) H → va_D (inW ws0) (wMo g mo a y9 now dr pa sa iS bu tq rT wT sK sA sB sE oq bS bE bL rp) → va_S (inW ws0) s.heap H locs → lv_has ls 3 [(0, .ref mo), (1, .int y4)] → W p l e rm_Mo_readWarm s m args below meth c H locs 0 0 (MQ below (CV g ws0 (fun u : IV × LV × IV => wMo g mo a u.1 now u.2.1 pa sa iS bu tq rT u.2.2 sK sA sB sE oq bS bE bL rp) z) args s 0 0 (inW ws0)) (F0 m 50 ls [.int t2p50, .ref (a 16), .ref mo])
def HL_Mo_readWarm_59 (p : Program) (l : Launch) (e : Env) (s : State) (m : MethodId) (args : Array Value) (below : List Frame) (meth : Method) (c : Code) (g : GX) (mo : Nat) (a : Nat → Nat) (ws0 : va_W) (y9 : IV) (now : LV) (dr : LV) (pa : LV) (sa : LV) (iS : IV) (bu : IV) (tq : IV) (rT : IV) (wT : IV) (sK : IV) (sA : IV) (sB : IV) (sE : IV) (oq : IV) (bS : IV) (bE : IV) (bL : IV) (rp : IV) (y4 : Int32) (sp : Int32 → (IV × LV × IV)) (ok : Int32 → Prop) : Prop := ∀ (t1p59 : Int32), ok t1p59 → ∀ z : (IV × LV × IV), z = sp t1p59 → ∀ (H : Heap) (locs : List Loc) (ls : Array Slot), va_P g.1 vwCl (wMo g mo a y9 now dr pa sa iS bu tq rT wT sK sA sB sE oq bS bE bL rp) H → va_D (inW ws0) (wMo g mo a y9 now dr pa sa iS bu tq rT wT sK sA sB sE oq bS bE bL rp) → va_S (inW ws0) s.heap H locs → lv_has ls 3 [(0, .ref mo), (1, .int y4)] → W p l e rm_Mo_readWarm s m args below meth c H locs 0 0 (MQ below (CV g ws0 (fun u : IV × LV × IV => wMo g mo a u.1 now u.2.1 pa sa iS bu tq rT u.2.2 sK sA sB sE oq bS bE bL rp) z) args s 0 0 (inW ws0)) (F0 m 59 ls [.int t1p59, .ref mo])
def HL_Mo_readWarm_76 (p : Program) (l : Launch) (e : Env) (s : State) (m : MethodId) (args : Array Value) (below : List Frame) (meth : Method) (c : Code) (g : GX) (mo : Nat) (a : Nat → Nat) (ws0 : va_W) (y13 : IV) (now : LV) (dr : LV) (pa : LV) (sa : LV) (iS : IV) (bu : IV) (tq : IV) (rT : IV) (wT : IV) (sK : IV) (sA : IV) (sB : IV) (sE : IV) (oq : IV) (bS : IV) (bE : IV) (bL : IV) (rp : IV) (y4 : Int32) (sp : Int32 → (IV × LV × IV)) (ok : Int32 → Prop) : Prop := ∀ (t1p76 : Int32), ok t1p76 → ∀ z : (IV × LV × IV), z = sp t1p76 → ∀ (H : Heap) (locs : List Loc) (ls : Array Slot), va_P g.1 vwCl (wMo g mo a y13 now dr pa sa iS bu tq rT wT sK sA sB sE oq bS bE bL rp) H → va_D (inW ws0) (wMo g mo a y13 now dr pa sa iS bu tq rT wT sK sA sB sE oq bS bE bL rp) → va_S (inW ws0) s.heap H locs → lv_has ls 3 [(0, .ref mo), (1, .int y4)] → W p l e rm_Mo_readWarm s m args below meth c H locs 0 0 (MQ below (CV g ws0 (fun u : IV × LV × IV => wMo g mo a u.1 now u.2.1 pa sa iS bu tq rT u.2.2 sK sA sB sE oq bS bE bL rp) z) args s 0 0 (inW ws0)) (F0 m 76 ls [.int t1p76, .ref (a 16)])
def HL_Mo_readWarm_93 (p : Program) (l : Launch) (e : Env) (s : State) (m : MethodId) (args : Array Value) (below : List Frame) (meth : Method) (c : Code) (g : GX) (mo : Nat) (a : Nat → Nat) (ws0 : va_W) (y18 : IV) (now : LV) (dr : LV) (pa : LV) (sa : LV) (iS : IV) (bu : IV) (tq : IV) (rT : IV) (wT_16 : IV) (sK : IV) (sA : IV) (sB : IV) (sE : IV) (oq : IV) (bS : IV) (bE : IV) (bL : IV) (rp : IV) (sp : Int32 → (IV × LV × IV)) (ok : Int32 → Prop) : Prop := ∀ (t0p93 : Int32), ok t0p93 → ∀ z : (IV × LV × IV), z = sp t0p93 → ∀ (H : Heap) (locs : List Loc) (ls : Array Slot), va_P g.1 vwCl (wMo g mo a y18 now dr pa sa iS bu tq rT wT_16 sK sA sB sE oq bS bE bL rp) H → va_D (inW ws0) (wMo g mo a y18 now dr pa sa iS bu tq rT wT_16 sK sA sB sE oq bS bE bL rp) → va_S (inW ws0) s.heap H locs → lv_has ls 3 [(0, .ref mo)] → W p l e rm_Mo_readWarm s m args below meth c H locs 0 0 (MQ below (CV g ws0 (fun u : IV × LV × IV => wMo g mo a u.1 now u.2.1 pa sa iS bu tq rT u.2.2 sK sA sB sE oq bS bE bL rp) z) args s 0 0 (inW ws0)) (F0 m 93 ls [.int t0p93])
noncomputable def sp_Mo_readWarm_93 (y18 : IV) (bu : IV) (dr : LV) (wT_16 : IV)  (t0p93 : Int32) : IV × LV × IV := lett (sp_Mo_signed (-4000 : Int64) (4000 : Int64) y18 bu) fun (y21 : Int64 × IV) => lett (vp_updL dr (t0p93 + (0 : Int32)).toNatClampNeg y21.1) fun (dr_23 : LV) => lett (sp_Mo_number (0 : Int64) (999 : Int64) y21.2 bu) fun (y25 : Int64 × IV) => lett (vp_updL dr_23 (t0p93 + (1 : Int32)).toNatClampNeg y25.1) fun (dr_27 : LV) => lett (sp_Mo_number (0 : Int64) (99 : Int64) y25.2 bu) fun (y29 : Int64 × IV) => lett (vp_updL dr_27 (t0p93 + (2 : Int32)).toNatClampNeg y29.1) fun (dr_31 : LV) => (y29.2, dr_31, wT_16)
def ok_Mo_readWarm_93 (y18 : IV) (bu : IV) (dr : LV) (wT_16 : IV)   (t0p93 : Int32) : Prop := (ok_Mo_signed (-4000 : Int64) (4000 : Int64) y18 bu) ∧ lett (sp_Mo_signed (-4000 : Int64) (4000 : Int64) y18 bu) fun (y21 : Int64 × IV) => (vp_in (t0p93 + (0 : Int32)) 215) ∧ lett (vp_updL dr (t0p93 + (0 : Int32)).toNatClampNeg y21.1) fun (dr_23 : LV) => (ok_Mo_number (0 : Int64) (999 : Int64) y21.2 bu) ∧ lett (sp_Mo_number (0 : Int64) (999 : Int64) y21.2 bu) fun (y25 : Int64 × IV) => (vp_in (t0p93 + (1 : Int32)) 215) ∧ lett (vp_updL dr_23 (t0p93 + (1 : Int32)).toNatClampNeg y25.1) fun (dr_27 : LV) => (ok_Mo_number (0 : Int64) (99 : Int64) y25.2 bu) ∧ lett (sp_Mo_number (0 : Int64) (99 : Int64) y25.2 bu) fun (y29 : Int64 × IV) => (vp_in (t0p93 + (2 : Int32)) 215) ∧ True
set_option maxRecDepth 100000 in
set_option maxHeartbeats 4000000 in
theorem k_Mo_readWarm_93 {p : Program} {l : Launch} {e : Env} {s : State} {m : MethodId} {args : Array Value} {below : List Frame} {meth : Method} {c : Code} {g : GX} {mo : Nat} {a : Nat → Nat} {ws0 : va_W} {y18 : IV} {now : LV} {dr : LV} {pa : LV} {sa : LV} {iS : IV} {bu : IV} {tq : IV} {rT : IV} {wT_16 : IV} {sK : IV} {sA : IV} {sB : IV} {sE : IV} {oq : IV} {bS : IV} {bE : IV} {bL : IV} {rp : IV}  (C : Cx p s m args meth c (inW ws0) g "DecadeBridgeModel" b_Mo_readWarm none 3)  : HL_Mo_readWarm_93 p l e s m args below meth c g mo a ws0 y18 now dr pa sa iS bu tq rT wT_16 sK sA sB sE oq bS bE bL rp (sp_Mo_readWarm_93 y18 bu dr wT_16 ) (ok_Mo_readWarm_93 y18 bu dr wT_16  ) := by
  intro t0p93 hok z hz H locs ls hP hD hS hl
  obtain ⟨hx, hb, hr, hml, hown, hlk, hts, hK, hZo, hZ⟩ := id C
  unfold sp_Mo_readWarm_93 at hz
  unfold ok_Mo_readWarm_93 at hok
  refine lv_istore_n (lv' := [(2, .int t0p93), (0, .ref mo)]) hx hb d_Mo_readWarm_93 rfl hl (by decide) rfl (fun ls hl => ?_)
  refine lv_aload_n hx hb d_Mo_readWarm_94 rfl (lv_at hl 1 rfl) ?_
  refine gf C hP 0 1 fkMo rfl (by decide) rfl qf_Mo_13 (gMo_1 _ _) d_Mo_readWarm_95 ?_
  refine lv_iload_n hx hb d_Mo_readWarm_98 rfl (lv_at hl 0 rfl) ?_
  refine lv_iconst (v := 0) hx hb d_Mo_readWarm_99 (by decide) ?_
  refine lv_iadd hx hb d_Mo_readWarm_100 ?_
  refine lv_aload_n hx hb d_Mo_readWarm_101 rfl (lv_at hl 1 rfl) ?_
  refine lv_ldc2 hx hb hown (hts _ qk_Mo_350) d_Mo_readWarm_102 ?_
  refine lv_ldc2 hx hb hown (hts _ qk_Mo_352) d_Mo_readWarm_105 ?_
  have hs20 := hok.1
  have hok := hok.2
  have hB : SubW g (inW ws0) s (wMo g mo a y18 now dr pa sa iS bu tq rT wT_16 sK sA sB sE oq bS bE bL rp) _ (List.range _) _ _ := (subF hP hD hS)
  refine goLF hB (run_v C mf_Mo_signed qm_Mo_343 (c_Mo_signed l g mo a y18 now dr pa sa iS bu tq rT wT_16 sK sA sB sE oq bS bE bL rp (-4000 : Int64) (4000 : Int64) hs20) rfl rfl ⟨Nat.le_of_ble_eq_true rfl, Nat.le_of_ble_eq_true rfl⟩ ⟨Nat.le_of_ble_eq_true rfl, Nat.le_of_ble_eq_true rfl⟩ hB rfl rfl hl rfl rfl (Nat.le_of_ble_eq_true rfl) d_Mo_readWarm_108) (fun _ => rfl) (fun y21 ey21 H locs hP hD hS => ?_)
  have hP : va_P g.1 vwCl (wMo g mo a y21.2 now dr pa sa iS bu tq rT wT_16 sK sA sB sE oq bS bE bL rp) H := hP
  have hD : va_D (inW ws0) (wMo g mo a y21.2 now dr pa sa iS bu tq rT wT_16 sK sA sB sE oq bS bE bL rp) := hD
  have hz := lett_z hz ey21
  have hok := lett_o hok ey21
  have hs22 := hok.1
  have hok := hok.2
  refine stL C hP hD hS 2 rfl hs22 rfl d_Mo_readWarm_111 (fun dr_23 edr_23 H locs hP hD hS => ?_)
  have hP : va_P g.1 vwCl (wMo g mo a y21.2 now dr_23 pa sa iS bu tq rT wT_16 sK sA sB sE oq bS bE bL rp) H := hP
  have hD : va_D (inW ws0) (wMo g mo a y21.2 now dr_23 pa sa iS bu tq rT wT_16 sK sA sB sE oq bS bE bL rp) := hD
  have hz := lett_z hz edr_23
  have hok := lett_o hok edr_23
  refine lv_aload_n hx hb d_Mo_readWarm_112 rfl (lv_at hl 1 rfl) ?_
  refine gf C hP 0 1 fkMo rfl (by decide) rfl qf_Mo_13 (gMo_1 _ _) d_Mo_readWarm_113 ?_
  refine lv_iload_n hx hb d_Mo_readWarm_116 rfl (lv_at hl 0 rfl) ?_
  refine lv_iconst (v := 1) hx hb d_Mo_readWarm_117 (by decide) ?_
  refine lv_iadd hx hb d_Mo_readWarm_118 ?_
  refine lv_aload_n hx hb d_Mo_readWarm_119 rfl (lv_at hl 1 rfl) ?_
  refine lv_lconst (v := 0) hx hb d_Mo_readWarm_120 (by decide) ?_
  refine lv_ldc2 hx hb hown (hts _ qk_Mo_337) d_Mo_readWarm_121 ?_
  have hs24 := hok.1
  have hok := hok.2
  have hB : SubW g (inW ws0) s (wMo g mo a y21.2 now dr_23 pa sa iS bu tq rT wT_16 sK sA sB sE oq bS bE bL rp) _ (List.range _) _ _ := (subF hP hD hS)
  refine goLF hB (run_v C mf_Mo_number qm_Mo_334 (c_Mo_number l g mo a y21.2 now dr_23 pa sa iS bu tq rT wT_16 sK sA sB sE oq bS bE bL rp (0 : Int64) (999 : Int64) hs24) rfl rfl ⟨Nat.le_of_ble_eq_true rfl, Nat.le_of_ble_eq_true rfl⟩ ⟨Nat.le_of_ble_eq_true rfl, Nat.le_of_ble_eq_true rfl⟩ hB rfl rfl hl rfl rfl (Nat.le_of_ble_eq_true rfl) d_Mo_readWarm_124) (fun _ => rfl) (fun y25 ey25 H locs hP hD hS => ?_)
  have hP : va_P g.1 vwCl (wMo g mo a y25.2 now dr_23 pa sa iS bu tq rT wT_16 sK sA sB sE oq bS bE bL rp) H := hP
  have hD : va_D (inW ws0) (wMo g mo a y25.2 now dr_23 pa sa iS bu tq rT wT_16 sK sA sB sE oq bS bE bL rp) := hD
  have hz := lett_z hz ey25
  have hok := lett_o hok ey25
  have hs26 := hok.1
  have hok := hok.2
  refine stL C hP hD hS 2 rfl hs26 rfl d_Mo_readWarm_127 (fun dr_27 edr_27 H locs hP hD hS => ?_)
  have hP : va_P g.1 vwCl (wMo g mo a y25.2 now dr_27 pa sa iS bu tq rT wT_16 sK sA sB sE oq bS bE bL rp) H := hP
  have hD : va_D (inW ws0) (wMo g mo a y25.2 now dr_27 pa sa iS bu tq rT wT_16 sK sA sB sE oq bS bE bL rp) := hD
  have hz := lett_z hz edr_27
  have hok := lett_o hok edr_27
  refine lv_aload_n hx hb d_Mo_readWarm_128 rfl (lv_at hl 1 rfl) ?_
  refine gf C hP 0 1 fkMo rfl (by decide) rfl qf_Mo_13 (gMo_1 _ _) d_Mo_readWarm_129 ?_
  refine lv_iload_n hx hb d_Mo_readWarm_132 rfl (lv_at hl 0 rfl) ?_
  refine lv_iconst (v := 2) hx hb d_Mo_readWarm_133 (by decide) ?_
  refine lv_iadd hx hb d_Mo_readWarm_134 ?_
  refine lv_aload_n hx hb d_Mo_readWarm_135 rfl (lv_at hl 1 rfl) ?_
  refine lv_lconst (v := 0) hx hb d_Mo_readWarm_136 (by decide) ?_
  refine lv_ldc2 hx hb hown (hts _ qk_Mo_354) d_Mo_readWarm_137 ?_
  have hs28 := hok.1
  have hok := hok.2
  have hB : SubW g (inW ws0) s (wMo g mo a y25.2 now dr_27 pa sa iS bu tq rT wT_16 sK sA sB sE oq bS bE bL rp) _ (List.range _) _ _ := (subF hP hD hS)
  refine goLF hB (run_v C mf_Mo_number qm_Mo_334 (c_Mo_number l g mo a y25.2 now dr_27 pa sa iS bu tq rT wT_16 sK sA sB sE oq bS bE bL rp (0 : Int64) (99 : Int64) hs28) rfl rfl ⟨Nat.le_of_ble_eq_true rfl, Nat.le_of_ble_eq_true rfl⟩ ⟨Nat.le_of_ble_eq_true rfl, Nat.le_of_ble_eq_true rfl⟩ hB rfl rfl hl rfl rfl (Nat.le_of_ble_eq_true rfl) d_Mo_readWarm_140) (fun _ => rfl) (fun y29 ey29 H locs hP hD hS => ?_)
  have hP : va_P g.1 vwCl (wMo g mo a y29.2 now dr_27 pa sa iS bu tq rT wT_16 sK sA sB sE oq bS bE bL rp) H := hP
  have hD : va_D (inW ws0) (wMo g mo a y29.2 now dr_27 pa sa iS bu tq rT wT_16 sK sA sB sE oq bS bE bL rp) := hD
  have hz := lett_z hz ey29
  have hok := lett_o hok ey29
  have hs30 := hok.1
  have hok := hok.2
  refine stL C hP hD hS 2 rfl hs30 rfl d_Mo_readWarm_143 (fun dr_31 edr_31 H locs hP hD hS => ?_)
  have hP : va_P g.1 vwCl (wMo g mo a y29.2 now dr_31 pa sa iS bu tq rT wT_16 sK sA sB sE oq bS bE bL rp) H := hP
  have hD : va_D (inW ws0) (wMo g mo a y29.2 now dr_31 pa sa iS bu tq rT wT_16 sK sA sB sE oq bS bE bL rp) := hD
  have hz := lett_z hz edr_31
  exact endV C hz hP hS d_Mo_readWarm_144
noncomputable def sp_Mo_readWarm_76 (wT : IV) (y13 : IV) (bu : IV) (y4 : Int32) (dr : LV)  (t1p76 : Int32) : IV × LV × IV := lett (upd wT t1p76.toNatClampNeg (vp_nar .boolean (1 : Int32))) fun (wT_16 : IV) => lett (sp_Mo_goOn y13 bu) fun (y18 : IV) => if y4 = 0 then (sp_Mo_readWarm_93 y18 bu dr wT_16 (13 : Int32)) else (sp_Mo_readWarm_93 y18 bu dr wT_16 (16 : Int32))
def ok_Mo_readWarm_76 (wT : IV) (y13 : IV) (bu : IV) (y4 : Int32) (dr : LV)   (t1p76 : Int32) : Prop := (vp_in t1p76 2) ∧ lett (upd wT t1p76.toNatClampNeg (vp_nar .boolean (1 : Int32))) fun (wT_16 : IV) => (ok_Mo_goOn y13 bu) ∧ lett (sp_Mo_goOn y13 bu) fun (y18 : IV) => ((y4 = 0 → ok_Mo_readWarm_93 y18 bu dr wT_16 (13 : Int32)) ∧ (¬ (y4 = 0) → ok_Mo_readWarm_93 y18 bu dr wT_16 (16 : Int32)))
set_option maxRecDepth 100000 in
set_option maxHeartbeats 4000000 in
theorem k_Mo_readWarm_76 {p : Program} {l : Launch} {e : Env} {s : State} {m : MethodId} {args : Array Value} {below : List Frame} {meth : Method} {c : Code} {g : GX} {mo : Nat} {a : Nat → Nat} {ws0 : va_W} {y13 : IV} {now : LV} {dr : LV} {pa : LV} {sa : LV} {iS : IV} {bu : IV} {tq : IV} {rT : IV} {wT : IV} {sK : IV} {sA : IV} {sB : IV} {sE : IV} {oq : IV} {bS : IV} {bE : IV} {bL : IV} {rp : IV} {y4 : Int32}  (C : Cx p s m args meth c (inW ws0) g "DecadeBridgeModel" b_Mo_readWarm none 3)  : HL_Mo_readWarm_76 p l e s m args below meth c g mo a ws0 y13 now dr pa sa iS bu tq rT wT sK sA sB sE oq bS bE bL rp y4 (sp_Mo_readWarm_76 wT y13 bu y4 dr ) (ok_Mo_readWarm_76 wT y13 bu y4 dr  ) := by
  intro t1p76 hok z hz H locs ls hP hD hS hl
  obtain ⟨hx, hb, hr, hml, hown, hlk, hts, hK, hZo, hZ⟩ := id C
  unfold sp_Mo_readWarm_76 at hz
  unfold ok_Mo_readWarm_76 at hok
  refine lv_iconst (v := 1) hx hb d_Mo_readWarm_76 (by decide) ?_
  have hs15 := hok.1
  have hok := hok.2
  refine stZ C hP hD hS 9 rfl hs15 rfl d_Mo_readWarm_77 (fun wT_16 ewT_16 H locs hP hD hS => ?_)
  have hP : va_P g.1 vwCl (wMo g mo a y13 now dr pa sa iS bu tq rT wT_16 sK sA sB sE oq bS bE bL rp) H := hP
  have hD : va_D (inW ws0) (wMo g mo a y13 now dr pa sa iS bu tq rT wT_16 sK sA sB sE oq bS bE bL rp) := hD
  have hz := lett_z hz ewT_16
  have hok := lett_o hok ewT_16
  refine lv_aload_n hx hb d_Mo_readWarm_78 rfl (lv_at hl 0 rfl) ?_
  have hs17 := hok.1
  have hok := hok.2
  have hB : SubW g (inW ws0) s (wMo g mo a y13 now dr pa sa iS bu tq rT wT_16 sK sA sB sE oq bS bE bL rp) _ (List.range _) _ _ := (subF hP hD hS)
  refine goVF hB (run_v C mf_Mo_goOn qm_Mo_318 (c_Mo_goOn l g mo a y13 now dr pa sa iS bu tq rT wT_16 sK sA sB sE oq bS bE bL rp hs17) rfl rfl ⟨Nat.le_of_ble_eq_true rfl, Nat.le_of_ble_eq_true rfl⟩ ⟨Nat.le_of_ble_eq_true rfl, Nat.le_of_ble_eq_true rfl⟩ hB rfl rfl hl rfl rfl (Nat.le_of_ble_eq_true rfl) d_Mo_readWarm_79) (fun _ => rfl) (fun y18 ey18 H locs hP hD hS => ?_)
  have hP : va_P g.1 vwCl (wMo g mo a y18 now dr pa sa iS bu tq rT wT_16 sK sA sB sE oq bS bE bL rp) H := hP
  have hD : va_D (inW ws0) (wMo g mo a y18 now dr pa sa iS bu tq rT wT_16 sK sA sB sE oq bS bE bL rp) := hD
  have hz := lett_z hz ey18
  have hok := lett_o hok ey18
  refine lv_iload_n hx hb d_Mo_readWarm_82 rfl (lv_at hl 1 rfl) ?_
  refine lv_if_eq (tgt := 91) hx hb d_Mo_readWarm_83 (by decide) (fun c19 => ?_) (fun c19 => ?_)
  · have hz := hz.trans (if_pos c19)
    have hok := hok.1 c19
    refine lv_bipush (v := 13) hx hb d_Mo_readWarm_91 (by decide) ?_
    exact k_Mo_readWarm_93 C (13 : Int32) hok _ hz _ _ ls hP hD hS (lv_sub hl [0] rfl)
  · have hz := hz.trans (if_neg c19)
    have hok := hok.2 c19
    refine lv_bipush (v := 16) hx hb d_Mo_readWarm_86 (by decide) ?_
    refine lv_goto (tgt := 93) hx hb d_Mo_readWarm_88 (by decide) ?_
    exact k_Mo_readWarm_93 C (16 : Int32) hok _ hz _ _ ls hP hD hS (lv_sub hl [0] rfl)
noncomputable def sp_Mo_readWarm_59 (y9 : IV) (y4 : Int32) (wT : IV) (bu : IV) (dr : LV)  (t1p59 : Int32) : IV × LV × IV := lett (sp_Mo_must t1p59 (3 : Int32) y9) fun (y13 : IV) => if y4 = 0 then (sp_Mo_readWarm_76 wT y13 bu y4 dr (0 : Int32)) else (sp_Mo_readWarm_76 wT y13 bu y4 dr (1 : Int32))
def ok_Mo_readWarm_59 (y9 : IV) (y4 : Int32) (wT : IV) (bu : IV) (dr : LV)   (t1p59 : Int32) : Prop := lett (sp_Mo_must t1p59 (3 : Int32) y9) fun (y13 : IV) => ((y4 = 0 → ok_Mo_readWarm_76 wT y13 bu y4 dr (0 : Int32)) ∧ (¬ (y4 = 0) → ok_Mo_readWarm_76 wT y13 bu y4 dr (1 : Int32)))
set_option maxRecDepth 100000 in
set_option maxHeartbeats 4000000 in
theorem k_Mo_readWarm_59 {p : Program} {l : Launch} {e : Env} {s : State} {m : MethodId} {args : Array Value} {below : List Frame} {meth : Method} {c : Code} {g : GX} {mo : Nat} {a : Nat → Nat} {ws0 : va_W} {y9 : IV} {now : LV} {dr : LV} {pa : LV} {sa : LV} {iS : IV} {bu : IV} {tq : IV} {rT : IV} {wT : IV} {sK : IV} {sA : IV} {sB : IV} {sE : IV} {oq : IV} {bS : IV} {bE : IV} {bL : IV} {rp : IV} {y4 : Int32}  (C : Cx p s m args meth c (inW ws0) g "DecadeBridgeModel" b_Mo_readWarm none 3)  : HL_Mo_readWarm_59 p l e s m args below meth c g mo a ws0 y9 now dr pa sa iS bu tq rT wT sK sA sB sE oq bS bE bL rp y4 (sp_Mo_readWarm_59 y9 y4 wT bu dr ) (ok_Mo_readWarm_59 y9 y4 wT bu dr  ) := by
  intro t1p59 hok z hz H locs ls hP hD hS hl
  obtain ⟨hx, hb, hr, hml, hown, hlk, hts, hK, hZo, hZ⟩ := id C
  unfold sp_Mo_readWarm_59 at hz
  unfold ok_Mo_readWarm_59 at hok
  refine lv_iconst (v := 3) hx hb d_Mo_readWarm_59 (by decide) ?_
  have hB : SubW g (inW ws0) s (wMo g mo a y9 now dr pa sa iS bu tq rT wT sK sA sB sE oq bS bE bL rp) _ (List.range _) _ _ := (subF hP hD hS)
  refine goVF hB (run_v C mf_Mo_must qm_Mo_314 (c_Mo_must l g mo a y9 now dr pa sa iS bu tq rT wT sK sA sB sE oq bS bE bL rp t1p59 (3 : Int32)) rfl rfl ⟨Nat.le_of_ble_eq_true rfl, Nat.le_of_ble_eq_true rfl⟩ ⟨Nat.le_of_ble_eq_true rfl, Nat.le_of_ble_eq_true rfl⟩ hB rfl rfl hl rfl rfl (Nat.le_of_ble_eq_true rfl) d_Mo_readWarm_60) (fun _ => rfl) (fun y13 ey13 H locs hP hD hS => ?_)
  have hP : va_P g.1 vwCl (wMo g mo a y13 now dr pa sa iS bu tq rT wT sK sA sB sE oq bS bE bL rp) H := hP
  have hD : va_D (inW ws0) (wMo g mo a y13 now dr pa sa iS bu tq rT wT sK sA sB sE oq bS bE bL rp) := hD
  have hz := lett_z hz ey13
  have hok := lett_o hok ey13
  refine lv_aload_n hx hb d_Mo_readWarm_63 rfl (lv_at hl 0 rfl) ?_
  refine gf C hP 0 16 fkMo rfl (by decide) rfl qf_Mo_40 (gMo_16 _ _) d_Mo_readWarm_64 ?_
  refine lv_iload_n hx hb d_Mo_readWarm_67 rfl (lv_at hl 1 rfl) ?_
  refine lv_if_eq (tgt := 75) hx hb d_Mo_readWarm_68 (by decide) (fun c14 => ?_) (fun c14 => ?_)
  · have hz := hz.trans (if_pos c14)
    have hok := hok.1 c14
    refine lv_iconst (v := 0) hx hb d_Mo_readWarm_75 (by decide) ?_
    exact k_Mo_readWarm_76 C (0 : Int32) hok _ hz _ _ ls hP hD hS hl
  · have hz := hz.trans (if_neg c14)
    have hok := hok.2 c14
    refine lv_iconst (v := 1) hx hb d_Mo_readWarm_71 (by decide) ?_
    refine lv_goto (tgt := 76) hx hb d_Mo_readWarm_72 (by decide) ?_
    exact k_Mo_readWarm_76 C (1 : Int32) hok _ hz _ _ ls hP hD hS hl
noncomputable def sp_Mo_readWarm_50 (wT : IV) (y9 : IV) (y4 : Int32) (bu : IV) (dr : LV)  (t2p50 : Int32) : IV × LV × IV := if (wT t2p50.toNatClampNeg) = 0 then (sp_Mo_readWarm_59 y9 y4 wT bu dr (1 : Int32)) else (sp_Mo_readWarm_59 y9 y4 wT bu dr (0 : Int32))
def ok_Mo_readWarm_50 (wT : IV) (y9 : IV) (y4 : Int32) (bu : IV) (dr : LV)   (t2p50 : Int32) : Prop := (vp_in t2p50 2) ∧ (((wT t2p50.toNatClampNeg) = 0 → ok_Mo_readWarm_59 y9 y4 wT bu dr (1 : Int32)) ∧ (¬ ((wT t2p50.toNatClampNeg) = 0) → ok_Mo_readWarm_59 y9 y4 wT bu dr (0 : Int32)))
set_option maxRecDepth 100000 in
set_option maxHeartbeats 4000000 in
theorem k_Mo_readWarm_50 {p : Program} {l : Launch} {e : Env} {s : State} {m : MethodId} {args : Array Value} {below : List Frame} {meth : Method} {c : Code} {g : GX} {mo : Nat} {a : Nat → Nat} {ws0 : va_W} {y9 : IV} {now : LV} {dr : LV} {pa : LV} {sa : LV} {iS : IV} {bu : IV} {tq : IV} {rT : IV} {wT : IV} {sK : IV} {sA : IV} {sB : IV} {sE : IV} {oq : IV} {bS : IV} {bE : IV} {bL : IV} {rp : IV} {y4 : Int32}  (C : Cx p s m args meth c (inW ws0) g "DecadeBridgeModel" b_Mo_readWarm none 3)  : HL_Mo_readWarm_50 p l e s m args below meth c g mo a ws0 y9 now dr pa sa iS bu tq rT wT sK sA sB sE oq bS bE bL rp y4 (sp_Mo_readWarm_50 wT y9 y4 bu dr ) (ok_Mo_readWarm_50 wT y9 y4 bu dr  ) := by
  intro t2p50 hok z hz H locs ls hP hD hS hl
  obtain ⟨hx, hb, hr, hml, hown, hlk, hts, hK, hZo, hZ⟩ := id C
  unfold sp_Mo_readWarm_50 at hz
  unfold ok_Mo_readWarm_50 at hok
  have hs11 := hok.1
  have hok := hok.2
  refine ldZ C hP 9 rfl hs11 rfl d_Mo_readWarm_50 ?_
  refine lv_if_ne (tgt := 58) hx hb d_Mo_readWarm_51 (by decide) (fun c12 => ?_) (fun c12 => ?_)
  · have hz := hz.trans (if_neg c12)
    have hok := hok.2 c12
    refine lv_iconst (v := 0) hx hb d_Mo_readWarm_58 (by decide) ?_
    exact k_Mo_readWarm_59 C (0 : Int32) hok _ hz _ _ ls hP hD hS hl
  · have hz := hz.trans (if_pos c12)
    have hok := hok.1 c12
    refine lv_iconst (v := 1) hx hb d_Mo_readWarm_54 (by decide) ?_
    refine lv_goto (tgt := 59) hx hb d_Mo_readWarm_55 (by decide) ?_
    exact k_Mo_readWarm_59 C (1 : Int32) hok _ hz _ _ ls hP hD hS hl
noncomputable def sp_Mo_readWarm_32 (y2 : IV) (y4 : Int32) (wT : IV) (bu : IV) (dr : LV)  (t1p32 : Int32) : IV × LV × IV := lett (sp_Mo_must t1p32 (1 : Int32) y2) fun (y9 : IV) => if y4 = 0 then (sp_Mo_readWarm_50 wT y9 y4 bu dr (0 : Int32)) else (sp_Mo_readWarm_50 wT y9 y4 bu dr (1 : Int32))
def ok_Mo_readWarm_32 (y2 : IV) (y4 : Int32) (wT : IV) (bu : IV) (dr : LV)   (t1p32 : Int32) : Prop := lett (sp_Mo_must t1p32 (1 : Int32) y2) fun (y9 : IV) => ((y4 = 0 → ok_Mo_readWarm_50 wT y9 y4 bu dr (0 : Int32)) ∧ (¬ (y4 = 0) → ok_Mo_readWarm_50 wT y9 y4 bu dr (1 : Int32)))
set_option maxRecDepth 100000 in
set_option maxHeartbeats 4000000 in
theorem k_Mo_readWarm_32 {p : Program} {l : Launch} {e : Env} {s : State} {m : MethodId} {args : Array Value} {below : List Frame} {meth : Method} {c : Code} {g : GX} {mo : Nat} {a : Nat → Nat} {ws0 : va_W} {y2 : IV} {now : LV} {dr : LV} {pa : LV} {sa : LV} {iS : IV} {bu : IV} {tq : IV} {rT : IV} {wT : IV} {sK : IV} {sA : IV} {sB : IV} {sE : IV} {oq : IV} {bS : IV} {bE : IV} {bL : IV} {rp : IV} {y4 : Int32}  (C : Cx p s m args meth c (inW ws0) g "DecadeBridgeModel" b_Mo_readWarm none 3)  : HL_Mo_readWarm_32 p l e s m args below meth c g mo a ws0 y2 now dr pa sa iS bu tq rT wT sK sA sB sE oq bS bE bL rp y4 (sp_Mo_readWarm_32 y2 y4 wT bu dr ) (ok_Mo_readWarm_32 y2 y4 wT bu dr  ) := by
  intro t1p32 hok z hz H locs ls hP hD hS hl
  obtain ⟨hx, hb, hr, hml, hown, hlk, hts, hK, hZo, hZ⟩ := id C
  unfold sp_Mo_readWarm_32 at hz
  unfold ok_Mo_readWarm_32 at hok
  refine lv_iconst (v := 1) hx hb d_Mo_readWarm_32 (by decide) ?_
  have hB : SubW g (inW ws0) s (wMo g mo a y2 now dr pa sa iS bu tq rT wT sK sA sB sE oq bS bE bL rp) _ (List.range _) _ _ := (subF hP hD hS)
  refine goVF hB (run_v C mf_Mo_must qm_Mo_314 (c_Mo_must l g mo a y2 now dr pa sa iS bu tq rT wT sK sA sB sE oq bS bE bL rp t1p32 (1 : Int32)) rfl rfl ⟨Nat.le_of_ble_eq_true rfl, Nat.le_of_ble_eq_true rfl⟩ ⟨Nat.le_of_ble_eq_true rfl, Nat.le_of_ble_eq_true rfl⟩ hB rfl rfl hl rfl rfl (Nat.le_of_ble_eq_true rfl) d_Mo_readWarm_33) (fun _ => rfl) (fun y9 ey9 H locs hP hD hS => ?_)
  have hP : va_P g.1 vwCl (wMo g mo a y9 now dr pa sa iS bu tq rT wT sK sA sB sE oq bS bE bL rp) H := hP
  have hD : va_D (inW ws0) (wMo g mo a y9 now dr pa sa iS bu tq rT wT sK sA sB sE oq bS bE bL rp) := hD
  have hz := lett_z hz ey9
  have hok := lett_o hok ey9
  refine lv_aload_n hx hb d_Mo_readWarm_36 rfl (lv_at hl 0 rfl) ?_
  refine lv_aload_n hx hb d_Mo_readWarm_37 rfl (lv_at hl 0 rfl) ?_
  refine gf C hP 0 16 fkMo rfl (by decide) rfl qf_Mo_40 (gMo_16 _ _) d_Mo_readWarm_38 ?_
  refine lv_iload_n hx hb d_Mo_readWarm_41 rfl (lv_at hl 1 rfl) ?_
  refine lv_if_eq (tgt := 49) hx hb d_Mo_readWarm_42 (by decide) (fun c10 => ?_) (fun c10 => ?_)
  · have hz := hz.trans (if_pos c10)
    have hok := hok.1 c10
    refine lv_iconst (v := 0) hx hb d_Mo_readWarm_49 (by decide) ?_
    exact k_Mo_readWarm_50 C (0 : Int32) hok _ hz _ _ ls hP hD hS hl
  · have hz := hz.trans (if_neg c10)
    have hok := hok.2 c10
    refine lv_iconst (v := 1) hx hb d_Mo_readWarm_45 (by decide) ?_
    refine lv_goto (tgt := 50) hx hb d_Mo_readWarm_46 (by decide) ?_
    exact k_Mo_readWarm_50 C (1 : Int32) hok _ hz _ _ ls hP hD hS hl
noncomputable def sp_Mo_readWarm_27 (y2 : IV) (y4 : Int32) (wT : IV) (bu : IV) (dr : LV)   : IV × LV × IV := sp_Mo_readWarm_32 y2 y4 wT bu dr (1 : Int32)
def ok_Mo_readWarm_27 (y2 : IV) (y4 : Int32) (wT : IV) (bu : IV) (dr : LV)    : Prop := ok_Mo_readWarm_32 y2 y4 wT bu dr (1 : Int32)
set_option maxRecDepth 100000 in
set_option maxHeartbeats 4000000 in
theorem k_Mo_readWarm_27 {p : Program} {l : Launch} {e : Env} {s : State} {m : MethodId} {args : Array Value} {below : List Frame} {meth : Method} {c : Code} {g : GX} {mo : Nat} {a : Nat → Nat} {ws0 : va_W} {y2 : IV} {now : LV} {dr : LV} {pa : LV} {sa : LV} {iS : IV} {bu : IV} {tq : IV} {rT : IV} {wT : IV} {sK : IV} {sA : IV} {sB : IV} {sE : IV} {oq : IV} {bS : IV} {bE : IV} {bL : IV} {rp : IV} {y4 : Int32}  (C : Cx p s m args meth c (inW ws0) g "DecadeBridgeModel" b_Mo_readWarm none 3)  : HL_Mo_readWarm_27 p l e s m args below meth c g mo a ws0 y2 now dr pa sa iS bu tq rT wT sK sA sB sE oq bS bE bL rp y4 (sp_Mo_readWarm_27 y2 y4 wT bu dr ) (ok_Mo_readWarm_27 y2 y4 wT bu dr  ) := by
  intro _ hok z hz H locs ls hP hD hS hl
  obtain ⟨hx, hb, hr, hml, hown, hlk, hts, hK, hZo, hZ⟩ := id C
  unfold sp_Mo_readWarm_27 at hz
  unfold ok_Mo_readWarm_27 at hok
  refine lv_iconst (v := 1) hx hb d_Mo_readWarm_27 (by decide) ?_
  refine lv_goto (tgt := 32) hx hb d_Mo_readWarm_28 (by decide) ?_
  exact k_Mo_readWarm_32 C (1 : Int32) hok _ hz _ _ ls hP hD hS hl
noncomputable def sp_Mo_readWarm (o : IV) (dr : LV) (bu : IV) (wT : IV) : IV × LV × IV := lett (sp_Mo_goOn o bu) fun (y2 : IV) => lett (sp_Mo_isWord 0 y2 bu) fun (y4 : Int32) => if y4 = 0 then (lett (sp_Mo_isWord 2 y2 bu) fun (y7 : Int32) => if y7 = 0 then (sp_Mo_readWarm_32 y2 y4 wT bu dr (0 : Int32)) else (sp_Mo_readWarm_27 y2 y4 wT bu dr)) else (sp_Mo_readWarm_27 y2 y4 wT bu dr)
def ok_Mo_readWarm (o : IV) (dr : LV) (bu : IV) (wT : IV) : Prop := (ok_Mo_goOn o bu) ∧ lett (sp_Mo_goOn o bu) fun (y2 : IV) => (ok_Mo_isWord 0 y2 bu) ∧ lett (sp_Mo_isWord 0 y2 bu) fun (y4 : Int32) => ((y4 = 0 → (ok_Mo_isWord 2 y2 bu) ∧ lett (sp_Mo_isWord 2 y2 bu) fun (y7 : Int32) => ((y7 = 0 → ok_Mo_readWarm_32 y2 y4 wT bu dr (0 : Int32)) ∧ (¬ (y7 = 0) → ok_Mo_readWarm_27 y2 y4 wT bu dr))) ∧ (¬ (y4 = 0) → ok_Mo_readWarm_27 y2 y4 wT bu dr))
set_option maxRecDepth 100000 in
set_option maxHeartbeats 4000000 in
theorem c_Mo_readWarm (l : Launch) (g : GX) (mo : Nat) (a : Nat → Nat) (o : IV) (now : LV) (dr : LV) (pa : LV) (sa : LV) (iS : IV) (bu : IV) (tq : IV) (rT : IV) (wT : IV) (sK : IV) (sA : IV) (sB : IV) (sE : IV) (oq : IV) (bS : IV) (bE : IV) (bL : IV) (rp : IV)  (hok : ok_Mo_readWarm o dr bu wT) : Met l y_Mo_readWarm (wsY y_Mo_readWarm b_Mo_readWarm 3 none) rm_Mo_readWarm (CP g [.ref mo] (wMo g mo a o now dr pa sa iS bu tq rT wT sK sA sB sE oq bS bE bL rp)) (CV g (wMo g mo a o now dr pa sa iS bu tq rT wT sK sA sB sE oq bS bE bL rp) (fun u : IV × LV × IV => wMo g mo a u.1 now u.2.1 pa sa iS bu tq rT u.2.2 sK sA sB sE oq bS bE bL rp) (sp_Mo_readWarm o dr bu wT)) 0 0 (inW (wMo g mo a o now dr pa sa iS bu tq rT wT sK sA sB sE oq bS bE bL rp)) := by
  refine Met.ofW (cc := b_Mo_readWarm) (maxL := 3) (ret := none) pn_Mo rfl ?_
  intro p e s m args below meth c s₁ B hml hv
  obtain ⟨rfl, C, hP, hD, hS⟩ := enter "DecadeBridgeModel" rfl B hml hv
  obtain ⟨hx, hb, hr, hml, hown, hlk, hts, hK, hZo, hZ⟩ := id C
  refine entryW (lv := [(0, .ref mo)]) rfl (Nat.le_of_ble_eq_true rfl) (fun ls hl => ?_)
  obtain ⟨z, hz⟩ : ∃ z, z = sp_Mo_readWarm o dr bu wT := ⟨_, rfl⟩
  rw [← hz]
  unfold sp_Mo_readWarm at hz
  unfold ok_Mo_readWarm at hok
  refine lv_aload_n hx hb d_Mo_readWarm_0 rfl (lv_at hl 0 rfl) ?_
  have hs1 := hok.1
  have hok := hok.2
  have hB : SubW g (inW (wMo g mo a o now dr pa sa iS bu tq rT wT sK sA sB sE oq bS bE bL rp)) s (wMo g mo a o now dr pa sa iS bu tq rT wT sK sA sB sE oq bS bE bL rp) _ (List.range _) _ _ := (subF hP hD hS)
  refine goVF hB (run_v C mf_Mo_goOn qm_Mo_318 (c_Mo_goOn l g mo a o now dr pa sa iS bu tq rT wT sK sA sB sE oq bS bE bL rp hs1) rfl rfl ⟨Nat.le_of_ble_eq_true rfl, Nat.le_of_ble_eq_true rfl⟩ ⟨Nat.le_of_ble_eq_true rfl, Nat.le_of_ble_eq_true rfl⟩ hB rfl rfl hl rfl rfl (Nat.le_of_ble_eq_true rfl) d_Mo_readWarm_1) (fun _ => rfl) (fun y2 ey2 H locs hP hD hS => ?_)
  have hP : va_P g.1 vwCl (wMo g mo a y2 now dr pa sa iS bu tq rT wT sK sA sB sE oq bS bE bL rp) H := hP
  have hD : va_D (inW (wMo g mo a o now dr pa sa iS bu tq rT wT sK sA sB sE oq bS bE bL rp)) (wMo g mo a y2 now dr pa sa iS bu tq rT wT sK sA sB sE oq bS bE bL rp) := hD
  have hz := lett_z hz ey2
  have hok := lett_o hok ey2
  refine lv_aload_n hx hb d_Mo_readWarm_4 rfl (lv_at hl 0 rfl) ?_
  refine va_ldcwS hx hb hown (zRef hZo hZ ("DecadeBridgeModel", 346, 0) (by decide +kernel)) d_Mo_readWarm_5 ?_
  have hs3 := hok.1
  have hok := hok.2
  have hB : SubW g (inW (wMo g mo a o now dr pa sa iS bu tq rT wT sK sA sB sE oq bS bE bL rp)) s (wMo g mo a y2 now dr pa sa iS bu tq rT wT sK sA sB sE oq bS bE bL rp) _ (List.range _) _ _ := (subF hP hD hS)
  refine goI0 hB (run_v C mf_Mo_isWord qm_Mo_307 (c_Mo_isWord l g mo a y2 now dr pa sa iS bu tq rT wT sK sA sB sE oq bS bE bL rp 0 hs3) rfl rfl ⟨Nat.le_of_ble_eq_true rfl, Nat.le_of_ble_eq_true rfl⟩ ⟨Nat.le_of_ble_eq_true rfl, Nat.le_of_ble_eq_true rfl⟩ hB rfl rfl hl rfl rfl (Nat.le_of_ble_eq_true rfl) d_Mo_readWarm_8) (fun y4 ey4 H locs hP hS => ?_)
  have hz := lett_z hz ey4
  have hok := lett_o hok ey4
  refine lv_istore_n (lv' := [(1, .int y4), (0, .ref mo)]) hx hb d_Mo_readWarm_11 rfl hl (by decide) rfl (fun ls hl => ?_)
  refine lv_aload_n hx hb d_Mo_readWarm_12 rfl (lv_at hl 1 rfl) ?_
  refine lv_iload_n hx hb d_Mo_readWarm_13 rfl (lv_at hl 0 rfl) ?_
  refine lv_if_ne (tgt := 27) hx hb d_Mo_readWarm_14 (by decide) (fun c5 => ?_) (fun c5 => ?_)
  · have hz := hz.trans (if_neg c5)
    have hok := hok.2 c5
    exact k_Mo_readWarm_27 C () hok _ hz _ _ ls hP hD hS (lv_sub hl [1, 0] rfl)
  · have hz := hz.trans (if_pos c5)
    have hok := hok.1 c5
    refine lv_aload_n hx hb d_Mo_readWarm_17 rfl (lv_at hl 1 rfl) ?_
    refine va_ldcwS hx hb hown (zRef hZo hZ ("DecadeBridgeModel", 348, 2) (by decide +kernel)) d_Mo_readWarm_18 ?_
    have hs6 := hok.1
    have hok := hok.2
    have hB : SubW g (inW (wMo g mo a o now dr pa sa iS bu tq rT wT sK sA sB sE oq bS bE bL rp)) s (wMo g mo a y2 now dr pa sa iS bu tq rT wT sK sA sB sE oq bS bE bL rp) _ (List.range _) _ _ := (subF hP hD hS)
    refine goI0 hB (run_v C mf_Mo_isWord qm_Mo_307 (c_Mo_isWord l g mo a y2 now dr pa sa iS bu tq rT wT sK sA sB sE oq bS bE bL rp 2 hs6) rfl rfl ⟨Nat.le_of_ble_eq_true rfl, Nat.le_of_ble_eq_true rfl⟩ ⟨Nat.le_of_ble_eq_true rfl, Nat.le_of_ble_eq_true rfl⟩ hB rfl rfl hl rfl rfl (Nat.le_of_ble_eq_true rfl) d_Mo_readWarm_21) (fun y7 ey7 H locs hP hS => ?_)
    have hz := lett_z hz ey7
    have hok := lett_o hok ey7
    refine lv_if_eq (tgt := 31) hx hb d_Mo_readWarm_24 (by decide) (fun c8 => ?_) (fun c8 => ?_)
    · have hz := hz.trans (if_pos c8)
      have hok := hok.1 c8
      refine lv_iconst (v := 0) hx hb d_Mo_readWarm_31 (by decide) ?_
      exact k_Mo_readWarm_32 C (0 : Int32) hok _ hz _ _ ls hP hD hS (lv_sub hl [1, 0] rfl)
    · have hz := hz.trans (if_neg c8)
      have hok := hok.2 c8
      exact k_Mo_readWarm_27 C () hok _ hz _ _ ls hP hD hS (lv_sub hl [1, 0] rfl)
abbrev rm_Mo_readLeads : Room := { frames := 4, cells := 0, slots := 0, locals := 92 }
def HL_Mo_readLeads_7 (p : Program) (l : Launch) (e : Env) (s : State) (m : MethodId) (args : Array Value) (below : List Frame) (meth : Method) (c : Code) (g : GX) (mo : Nat) (a : Nat → Nat) (ws0 : va_W) (now : LV) (pa : LV) (sa : LV) (iS : IV) (bu : IV) (y2 : IV × IV) (rT : IV) (wT : IV) (sK : IV) (sA : IV) (sB : IV) (sE : IV) (oq : IV) (bS : IV) (bE : IV) (bL : IV) (rp : IV) (sp : Int32 → IV → LV → (IV × LV × IV)) (ok : Int32 → IV → LV → Prop) : Prop := ∀ (x1p7 : Int32) (op7 : IV) (drp7 : LV), ok x1p7 op7 drp7 → ∀ z : (IV × LV × IV), z = sp x1p7 op7 drp7 → ∀ (H : Heap) (locs : List Loc) (ls : Array Slot), va_P g.1 vwCl (wMo g mo a op7 now drp7 pa sa iS bu y2.2 rT wT sK sA sB sE oq bS bE bL rp) H → va_D (inW ws0) (wMo g mo a op7 now drp7 pa sa iS bu y2.2 rT wT sK sA sB sE oq bS bE bL rp) → va_S (inW ws0) s.heap H locs → lv_has ls 2 [(0, .ref mo), (1, .int x1p7)] → W p l e rm_Mo_readLeads s m args below meth c H locs 0 0 (MQ below (CV g ws0 (fun u : IV × LV × IV => wMo g mo a u.1 now u.2.1 pa sa iS bu u.2.2 rT wT sK sA sB sE oq bS bE bL rp) z) args s 0 0 (inW ws0)) (F0 m 7 ls [])
noncomputable def bd_Mo_readLeads_7 (y2 : IV × IV) (bu : IV) (r7 : Int32 → IV → LV → (IV × LV × IV)) (x1p7 : Int32) (op7 : IV) (drp7 : LV) : IV × LV × IV := if (3 : Int32) ≤ x1p7 then ((op7, drp7, y2.2)) else (lett (sp_Mo_number (0 : Int64) (99999 : Int64) op7 bu) fun (y5 : Int64 × IV) => lett (vp_updL drp7 ((19 : Int32) + x1p7).toNatClampNeg y5.1) fun (dr_7 : LV) => lett (x1p7 + (1 : Int32)) fun (v8 : Int32) => r7 v8 y5.2 dr_7)
def okb_Mo_readLeads_7 (y2 : IV × IV) (bu : IV) (r7 : Int32 → IV → LV → (IV × LV × IV)) (q7 : Int32 → IV → LV → Prop) (x1p7 : Int32) (op7 : IV) (drp7 : LV) : Prop := (((3 : Int32) ≤ x1p7 → True) ∧ (¬ ((3 : Int32) ≤ x1p7) → (ok_Mo_number (0 : Int64) (99999 : Int64) op7 bu) ∧ lett (sp_Mo_number (0 : Int64) (99999 : Int64) op7 bu) fun (y5 : Int64 × IV) => (vp_in ((19 : Int32) + x1p7) 215) ∧ lett (vp_updL drp7 ((19 : Int32) + x1p7).toNatClampNeg y5.1) fun (dr_7 : LV) => lett (x1p7 + (1 : Int32)) fun (v8 : Int32) => q7 v8 y5.2 dr_7))
noncomputable def sp_Mo_readLeads_7 (y2 : IV × IV) (bu : IV)  : Nat → Int32 → IV → LV → (IV × LV × IV)
  | 0 => fun _ _ _ => default
  | f + 1 => bd_Mo_readLeads_7 y2 bu  (sp_Mo_readLeads_7 y2 bu  f)
def ok_Mo_readLeads_7 (y2 : IV × IV) (bu : IV)   : Nat → Int32 → IV → LV → Prop
  | 0 => fun _ _ _ => False
  | f + 1 => okb_Mo_readLeads_7 y2 bu  (sp_Mo_readLeads_7 y2 bu  f)  (ok_Mo_readLeads_7 y2 bu   f)
set_option maxRecDepth 100000 in
set_option maxHeartbeats 4000000 in
theorem kb_Mo_readLeads_7 {p : Program} {l : Launch} {e : Env} {s : State} {m : MethodId} {args : Array Value} {below : List Frame} {meth : Method} {c : Code} {g : GX} {mo : Nat} {a : Nat → Nat} {ws0 : va_W} {now : LV} {pa : LV} {sa : LV} {iS : IV} {bu : IV} {y2 : IV × IV} {rT : IV} {wT : IV} {sK : IV} {sA : IV} {sB : IV} {sE : IV} {oq : IV} {bS : IV} {bE : IV} {bL : IV} {rp : IV}  (C : Cx p s m args meth c (inW ws0) g "DecadeBridgeModel" b_Mo_readLeads none 2) {r7 : Int32 → IV → LV → (IV × LV × IV)} {q7 : Int32 → IV → LV → Prop}  (ih7 : HL_Mo_readLeads_7 p l e s m args below meth c g mo a ws0 now pa sa iS bu y2 rT wT sK sA sB sE oq bS bE bL rp r7 q7) : HL_Mo_readLeads_7 p l e s m args below meth c g mo a ws0 now pa sa iS bu y2 rT wT sK sA sB sE oq bS bE bL rp (bd_Mo_readLeads_7 y2 bu  r7) (okb_Mo_readLeads_7 y2 bu  r7  q7) := by
  intro x1p7 op7 drp7 hok z hz H locs ls hP hD hS hl
  obtain ⟨hx, hb, hr, hml, hown, hlk, hts, hK, hZo, hZ⟩ := id C
  unfold bd_Mo_readLeads_7 at hz
  unfold okb_Mo_readLeads_7 at hok
  refine lv_iload_n hx hb d_Mo_readLeads_7 rfl (lv_at hl 1 rfl) ?_
  refine lv_iconst (v := 3) hx hb d_Mo_readLeads_8 (by decide) ?_
  refine lv_icmp_ge (tgt := 35) hx hb d_Mo_readLeads_9 (by decide) (fun c3 => ?_) (fun c3 => ?_)
  · have hz := hz.trans (if_pos c3)
    exact endV C hz hP hS d_Mo_readLeads_35
  · have hz := hz.trans (if_neg c3)
    have hok := hok.2 c3
    refine lv_aload_n hx hb d_Mo_readLeads_12 rfl (lv_at hl 0 rfl) ?_
    refine gf C hP 0 1 fkMo rfl (by decide) rfl qf_Mo_13 (gMo_1 _ _) d_Mo_readLeads_13 ?_
    refine lv_bipush (v := 19) hx hb d_Mo_readLeads_16 (by decide) ?_
    refine lv_iload_n hx hb d_Mo_readLeads_18 rfl (lv_at hl 1 rfl) ?_
    refine lv_iadd hx hb d_Mo_readLeads_19 ?_
    refine lv_aload_n hx hb d_Mo_readLeads_20 rfl (lv_at hl 0 rfl) ?_
    refine lv_lconst (v := 0) hx hb d_Mo_readLeads_21 (by decide) ?_
    refine lv_ldc2 hx hb hown (hts _ qk_Mo_215) d_Mo_readLeads_22 ?_
    have hs4 := hok.1
    have hok := hok.2
    have hB : SubW g (inW ws0) s (wMo g mo a op7 now drp7 pa sa iS bu y2.2 rT wT sK sA sB sE oq bS bE bL rp) _ (List.range _) _ _ := (subF hP hD hS)
    refine goLF hB (run_v C mf_Mo_number qm_Mo_334 (c_Mo_number l g mo a op7 now drp7 pa sa iS bu y2.2 rT wT sK sA sB sE oq bS bE bL rp (0 : Int64) (99999 : Int64) hs4) rfl rfl ⟨Nat.le_of_ble_eq_true rfl, Nat.le_of_ble_eq_true rfl⟩ ⟨Nat.le_of_ble_eq_true rfl, Nat.le_of_ble_eq_true rfl⟩ hB rfl rfl hl rfl rfl (Nat.le_of_ble_eq_true rfl) d_Mo_readLeads_25) (fun _ => rfl) (fun y5 ey5 H locs hP hD hS => ?_)
    have hP : va_P g.1 vwCl (wMo g mo a y5.2 now drp7 pa sa iS bu y2.2 rT wT sK sA sB sE oq bS bE bL rp) H := hP
    have hD : va_D (inW ws0) (wMo g mo a y5.2 now drp7 pa sa iS bu y2.2 rT wT sK sA sB sE oq bS bE bL rp) := hD
    have hz := lett_z hz ey5
    have hok := lett_o hok ey5
    have hs6 := hok.1
    have hok := hok.2
    refine stL C hP hD hS 2 rfl hs6 rfl d_Mo_readLeads_28 (fun dr_7 edr_7 H locs hP hD hS => ?_)
    have hP : va_P g.1 vwCl (wMo g mo a y5.2 now dr_7 pa sa iS bu y2.2 rT wT sK sA sB sE oq bS bE bL rp) H := hP
    have hD : va_D (inW ws0) (wMo g mo a y5.2 now dr_7 pa sa iS bu y2.2 rT wT sK sA sB sE oq bS bE bL rp) := hD
    have hz := lett_z hz edr_7
    have hok := lett_o hok edr_7
    obtain ⟨v8, ev8⟩ : ∃ y : Int32, y = x1p7 + (1 : Int32) := ⟨_, rfl⟩
    have hz := lett_z hz ev8
    have hok := lett_o hok ev8
    refine lv_iinc (v := v8) (lv' := [(1, .int v8), (0, .ref mo)]) hx hb d_Mo_readLeads_29 hl (k := 1) rfl (by rw [ev8]; rfl) (by decide) rfl (fun ls hl => ?_)
    refine lv_goto (tgt := 7) hx hb d_Mo_readLeads_32 (by decide) ?_
    exact ih7 v8 y5.2 dr_7 hok _ hz _ _ ls hP hD hS (lv_sub hl [1, 0] rfl)
theorem k_Mo_readLeads_7 {p : Program} {l : Launch} {e : Env} {s : State} {m : MethodId} {args : Array Value} {below : List Frame} {meth : Method} {c : Code} {g : GX} {mo : Nat} {a : Nat → Nat} {ws0 : va_W} {now : LV} {pa : LV} {sa : LV} {iS : IV} {bu : IV} {y2 : IV × IV} {rT : IV} {wT : IV} {sK : IV} {sA : IV} {sB : IV} {sE : IV} {oq : IV} {bS : IV} {bE : IV} {bL : IV} {rp : IV}  (C : Cx p s m args meth c (inW ws0) g "DecadeBridgeModel" b_Mo_readLeads none 2) (f : Nat)  : HL_Mo_readLeads_7 p l e s m args below meth c g mo a ws0 now pa sa iS bu y2 rT wT sK sA sB sE oq bS bE bL rp (sp_Mo_readLeads_7 y2 bu  f) (ok_Mo_readLeads_7 y2 bu   f) := by
  induction f with
  | zero => intro x1p7 op7 drp7 hok; exact False.elim hok
  | succ f ih => exact kb_Mo_readLeads_7 C  ih
noncomputable def sp_Mo_readLeads (o : IV) (dr : LV) (bu : IV) (tq : IV) : IV × LV × IV := lett (sp_Mo_once (2 : Int32) o bu tq) fun (y2 : IV × IV) => sp_Mo_readLeads_7 y2 bu big (0 : Int32) y2.1 dr
def ok_Mo_readLeads (o : IV) (dr : LV) (bu : IV) (tq : IV) : Prop := (ok_Mo_once (2 : Int32) o bu tq) ∧ lett (sp_Mo_once (2 : Int32) o bu tq) fun (y2 : IV × IV) => ok_Mo_readLeads_7 y2 bu big (0 : Int32) y2.1 dr
set_option maxRecDepth 100000 in
set_option maxHeartbeats 4000000 in
theorem c_Mo_readLeads (l : Launch) (g : GX) (mo : Nat) (a : Nat → Nat) (o : IV) (now : LV) (dr : LV) (pa : LV) (sa : LV) (iS : IV) (bu : IV) (tq : IV) (rT : IV) (wT : IV) (sK : IV) (sA : IV) (sB : IV) (sE : IV) (oq : IV) (bS : IV) (bE : IV) (bL : IV) (rp : IV)  (hok : ok_Mo_readLeads o dr bu tq) : Met l y_Mo_readLeads (wsY y_Mo_readLeads b_Mo_readLeads 2 none) rm_Mo_readLeads (CP g [.ref mo] (wMo g mo a o now dr pa sa iS bu tq rT wT sK sA sB sE oq bS bE bL rp)) (CV g (wMo g mo a o now dr pa sa iS bu tq rT wT sK sA sB sE oq bS bE bL rp) (fun u : IV × LV × IV => wMo g mo a u.1 now u.2.1 pa sa iS bu u.2.2 rT wT sK sA sB sE oq bS bE bL rp) (sp_Mo_readLeads o dr bu tq)) 0 0 (inW (wMo g mo a o now dr pa sa iS bu tq rT wT sK sA sB sE oq bS bE bL rp)) := by
  refine Met.ofW (cc := b_Mo_readLeads) (maxL := 2) (ret := none) pn_Mo rfl ?_
  intro p e s m args below meth c s₁ B hml hv
  obtain ⟨rfl, C, hP, hD, hS⟩ := enter "DecadeBridgeModel" rfl B hml hv
  obtain ⟨hx, hb, hr, hml, hown, hlk, hts, hK, hZo, hZ⟩ := id C
  refine entryW (lv := [(0, .ref mo)]) rfl (Nat.le_of_ble_eq_true rfl) (fun ls hl => ?_)
  obtain ⟨z, hz⟩ : ∃ z, z = sp_Mo_readLeads o dr bu tq := ⟨_, rfl⟩
  rw [← hz]
  unfold sp_Mo_readLeads at hz
  unfold ok_Mo_readLeads at hok
  refine lv_aload_n hx hb d_Mo_readLeads_0 rfl (lv_at hl 0 rfl) ?_
  refine lv_iconst (v := 2) hx hb d_Mo_readLeads_1 (by decide) ?_
  have hs1 := hok.1
  have hok := hok.2
  have hB : SubW g (inW (wMo g mo a o now dr pa sa iS bu tq rT wT sK sA sB sE oq bS bE bL rp)) s (wMo g mo a o now dr pa sa iS bu tq rT wT sK sA sB sE oq bS bE bL rp) _ (List.range _) _ _ := (subF hP hD hS)
  refine goVF hB (run_v C mf_Mo_once qm_Mo_331 (c_Mo_once l g mo a o now dr pa sa iS bu tq rT wT sK sA sB sE oq bS bE bL rp (2 : Int32) hs1) rfl rfl ⟨Nat.le_of_ble_eq_true rfl, Nat.le_of_ble_eq_true rfl⟩ ⟨Nat.le_of_ble_eq_true rfl, Nat.le_of_ble_eq_true rfl⟩ hB rfl rfl hl rfl rfl (Nat.le_of_ble_eq_true rfl) d_Mo_readLeads_2) (fun _ => rfl) (fun y2 ey2 H locs hP hD hS => ?_)
  have hP : va_P g.1 vwCl (wMo g mo a y2.1 now dr pa sa iS bu y2.2 rT wT sK sA sB sE oq bS bE bL rp) H := hP
  have hD : va_D (inW (wMo g mo a o now dr pa sa iS bu tq rT wT sK sA sB sE oq bS bE bL rp)) (wMo g mo a y2.1 now dr pa sa iS bu y2.2 rT wT sK sA sB sE oq bS bE bL rp) := hD
  have hz := lett_z hz ey2
  have hok := lett_o hok ey2
  refine lv_iconst (v := 0) hx hb d_Mo_readLeads_5 (by decide) ?_
  refine lv_istore_n (lv' := [(1, .int (0 : Int32)), (0, .ref mo)]) hx hb d_Mo_readLeads_6 rfl hl (by decide) rfl (fun ls hl => ?_)
  exact k_Mo_readLeads_7 C big (0 : Int32) y2.1 dr hok _ hz _ _ ls hP hD hS (lv_sub hl [1, 0] rfl)
abbrev rm_Mo_readSupply : Room := { frames := 4, cells := 0, slots := 0, locals := 92 }
noncomputable def sp_Mo_readSupply (o : IV) (dr : LV) (bu : IV) (tq : IV) : IV × LV × IV := lett (sp_Mo_once (3 : Int32) o bu tq) fun (y2 : IV × IV) => lett (sp_Mo_number (0 : Int64) (20000 : Int64) y2.1 bu) fun (y4 : Int64 × IV) => lett (vp_updL dr 22 y4.1) fun (dr_5 : LV) => lett (sp_Mo_number (1 : Int64) (1000000 : Int64) y4.2 bu) fun (y7 : Int64 × IV) => lett (vp_updL dr_5 23 y7.1) fun (dr_8 : LV) => (y7.2, dr_8, y2.2)
def ok_Mo_readSupply (o : IV) (dr : LV) (bu : IV) (tq : IV) : Prop := (ok_Mo_once (3 : Int32) o bu tq) ∧ lett (sp_Mo_once (3 : Int32) o bu tq) fun (y2 : IV × IV) => (ok_Mo_number (0 : Int64) (20000 : Int64) y2.1 bu) ∧ lett (sp_Mo_number (0 : Int64) (20000 : Int64) y2.1 bu) fun (y4 : Int64 × IV) => lett (vp_updL dr 22 y4.1) fun (dr_5 : LV) => (ok_Mo_number (1 : Int64) (1000000 : Int64) y4.2 bu) ∧ True
set_option maxRecDepth 100000 in
set_option maxHeartbeats 4000000 in
theorem c_Mo_readSupply (l : Launch) (g : GX) (mo : Nat) (a : Nat → Nat) (o : IV) (now : LV) (dr : LV) (pa : LV) (sa : LV) (iS : IV) (bu : IV) (tq : IV) (rT : IV) (wT : IV) (sK : IV) (sA : IV) (sB : IV) (sE : IV) (oq : IV) (bS : IV) (bE : IV) (bL : IV) (rp : IV)  (hok : ok_Mo_readSupply o dr bu tq) : Met l y_Mo_readSupply (wsY y_Mo_readSupply b_Mo_readSupply 1 none) rm_Mo_readSupply (CP g [.ref mo] (wMo g mo a o now dr pa sa iS bu tq rT wT sK sA sB sE oq bS bE bL rp)) (CV g (wMo g mo a o now dr pa sa iS bu tq rT wT sK sA sB sE oq bS bE bL rp) (fun u : IV × LV × IV => wMo g mo a u.1 now u.2.1 pa sa iS bu u.2.2 rT wT sK sA sB sE oq bS bE bL rp) (sp_Mo_readSupply o dr bu tq)) 0 0 (inW (wMo g mo a o now dr pa sa iS bu tq rT wT sK sA sB sE oq bS bE bL rp)) := by
  refine Met.ofW (cc := b_Mo_readSupply) (maxL := 1) (ret := none) pn_Mo rfl ?_
  intro p e s m args below meth c s₁ B hml hv
  obtain ⟨rfl, C, hP, hD, hS⟩ := enter "DecadeBridgeModel" rfl B hml hv
  obtain ⟨hx, hb, hr, hml, hown, hlk, hts, hK, hZo, hZ⟩ := id C
  refine entryW (lv := [(0, .ref mo)]) rfl (Nat.le_of_ble_eq_true rfl) (fun ls hl => ?_)
  obtain ⟨z, hz⟩ : ∃ z, z = sp_Mo_readSupply o dr bu tq := ⟨_, rfl⟩
  rw [← hz]
  unfold sp_Mo_readSupply at hz
  unfold ok_Mo_readSupply at hok
  refine lv_aload_n hx hb d_Mo_readSupply_0 rfl (lv_at hl 0 rfl) ?_
  refine lv_iconst (v := 3) hx hb d_Mo_readSupply_1 (by decide) ?_
  have hs1 := hok.1
  have hok := hok.2
  have hB : SubW g (inW (wMo g mo a o now dr pa sa iS bu tq rT wT sK sA sB sE oq bS bE bL rp)) s (wMo g mo a o now dr pa sa iS bu tq rT wT sK sA sB sE oq bS bE bL rp) _ (List.range _) _ _ := (subF hP hD hS)
  refine goVF hB (run_v C mf_Mo_once qm_Mo_331 (c_Mo_once l g mo a o now dr pa sa iS bu tq rT wT sK sA sB sE oq bS bE bL rp (3 : Int32) hs1) rfl rfl ⟨Nat.le_of_ble_eq_true rfl, Nat.le_of_ble_eq_true rfl⟩ ⟨Nat.le_of_ble_eq_true rfl, Nat.le_of_ble_eq_true rfl⟩ hB rfl rfl hl rfl rfl (Nat.le_of_ble_eq_true rfl) d_Mo_readSupply_2) (fun _ => rfl) (fun y2 ey2 H locs hP hD hS => ?_)
  have hP : va_P g.1 vwCl (wMo g mo a y2.1 now dr pa sa iS bu y2.2 rT wT sK sA sB sE oq bS bE bL rp) H := hP
  have hD : va_D (inW (wMo g mo a o now dr pa sa iS bu tq rT wT sK sA sB sE oq bS bE bL rp)) (wMo g mo a y2.1 now dr pa sa iS bu y2.2 rT wT sK sA sB sE oq bS bE bL rp) := hD
  have hz := lett_z hz ey2
  have hok := lett_o hok ey2
  refine lv_aload_n hx hb d_Mo_readSupply_5 rfl (lv_at hl 0 rfl) ?_
  refine gf C hP 0 1 fkMo rfl (by decide) rfl qf_Mo_13 (gMo_1 _ _) d_Mo_readSupply_6 ?_
  refine lv_bipush (v := 22) hx hb d_Mo_readSupply_9 (by decide) ?_
  refine lv_aload_n hx hb d_Mo_readSupply_11 rfl (lv_at hl 0 rfl) ?_
  refine lv_lconst (v := 0) hx hb d_Mo_readSupply_12 (by decide) ?_
  refine lv_ldc2 hx hb hown (hts _ qk_Mo_356) d_Mo_readSupply_13 ?_
  have hs3 := hok.1
  have hok := hok.2
  have hB : SubW g (inW (wMo g mo a o now dr pa sa iS bu tq rT wT sK sA sB sE oq bS bE bL rp)) s (wMo g mo a y2.1 now dr pa sa iS bu y2.2 rT wT sK sA sB sE oq bS bE bL rp) _ (List.range _) _ _ := (subF hP hD hS)
  refine goLF hB (run_v C mf_Mo_number qm_Mo_334 (c_Mo_number l g mo a y2.1 now dr pa sa iS bu y2.2 rT wT sK sA sB sE oq bS bE bL rp (0 : Int64) (20000 : Int64) hs3) rfl rfl ⟨Nat.le_of_ble_eq_true rfl, Nat.le_of_ble_eq_true rfl⟩ ⟨Nat.le_of_ble_eq_true rfl, Nat.le_of_ble_eq_true rfl⟩ hB rfl rfl hl rfl rfl (Nat.le_of_ble_eq_true rfl) d_Mo_readSupply_16) (fun _ => rfl) (fun y4 ey4 H locs hP hD hS => ?_)
  have hP : va_P g.1 vwCl (wMo g mo a y4.2 now dr pa sa iS bu y2.2 rT wT sK sA sB sE oq bS bE bL rp) H := hP
  have hD : va_D (inW (wMo g mo a o now dr pa sa iS bu tq rT wT sK sA sB sE oq bS bE bL rp)) (wMo g mo a y4.2 now dr pa sa iS bu y2.2 rT wT sK sA sB sE oq bS bE bL rp) := hD
  have hz := lett_z hz ey4
  have hok := lett_o hok ey4
  refine stL C hP hD hS 2 rfl vi_22_215 cn_22 d_Mo_readSupply_19 (fun dr_5 edr_5 H locs hP hD hS => ?_)
  have hP : va_P g.1 vwCl (wMo g mo a y4.2 now dr_5 pa sa iS bu y2.2 rT wT sK sA sB sE oq bS bE bL rp) H := hP
  have hD : va_D (inW (wMo g mo a o now dr pa sa iS bu tq rT wT sK sA sB sE oq bS bE bL rp)) (wMo g mo a y4.2 now dr_5 pa sa iS bu y2.2 rT wT sK sA sB sE oq bS bE bL rp) := hD
  have hz := lett_z hz edr_5
  have hok := lett_o hok edr_5
  refine lv_aload_n hx hb d_Mo_readSupply_20 rfl (lv_at hl 0 rfl) ?_
  refine gf C hP 0 1 fkMo rfl (by decide) rfl qf_Mo_13 (gMo_1 _ _) d_Mo_readSupply_21 ?_
  refine lv_bipush (v := 23) hx hb d_Mo_readSupply_24 (by decide) ?_
  refine lv_aload_n hx hb d_Mo_readSupply_26 rfl (lv_at hl 0 rfl) ?_
  refine lv_lconst (v := 1) hx hb d_Mo_readSupply_27 (by decide) ?_
  refine lv_ldc2 hx hb hown (hts _ qk_Mo_112) d_Mo_readSupply_28 ?_
  have hs6 := hok.1
  have hok := hok.2
  have hB : SubW g (inW (wMo g mo a o now dr pa sa iS bu tq rT wT sK sA sB sE oq bS bE bL rp)) s (wMo g mo a y4.2 now dr_5 pa sa iS bu y2.2 rT wT sK sA sB sE oq bS bE bL rp) _ (List.range _) _ _ := (subF hP hD hS)
  refine goLF hB (run_v C mf_Mo_number qm_Mo_334 (c_Mo_number l g mo a y4.2 now dr_5 pa sa iS bu y2.2 rT wT sK sA sB sE oq bS bE bL rp (1 : Int64) (1000000 : Int64) hs6) rfl rfl ⟨Nat.le_of_ble_eq_true rfl, Nat.le_of_ble_eq_true rfl⟩ ⟨Nat.le_of_ble_eq_true rfl, Nat.le_of_ble_eq_true rfl⟩ hB rfl rfl hl rfl rfl (Nat.le_of_ble_eq_true rfl) d_Mo_readSupply_31) (fun _ => rfl) (fun y7 ey7 H locs hP hD hS => ?_)
  have hP : va_P g.1 vwCl (wMo g mo a y7.2 now dr_5 pa sa iS bu y2.2 rT wT sK sA sB sE oq bS bE bL rp) H := hP
  have hD : va_D (inW (wMo g mo a o now dr pa sa iS bu tq rT wT sK sA sB sE oq bS bE bL rp)) (wMo g mo a y7.2 now dr_5 pa sa iS bu y2.2 rT wT sK sA sB sE oq bS bE bL rp) := hD
  have hz := lett_z hz ey7
  refine stL C hP hD hS 2 rfl vi_23_215 cn_23 d_Mo_readSupply_34 (fun dr_8 edr_8 H locs hP hD hS => ?_)
  have hP : va_P g.1 vwCl (wMo g mo a y7.2 now dr_8 pa sa iS bu y2.2 rT wT sK sA sB sE oq bS bE bL rp) H := hP
  have hD : va_D (inW (wMo g mo a o now dr pa sa iS bu tq rT wT sK sA sB sE oq bS bE bL rp)) (wMo g mo a y7.2 now dr_8 pa sa iS bu y2.2 rT wT sK sA sB sE oq bS bE bL rp) := hD
  have hz := lett_z hz edr_8
  exact endV C hz hP hS d_Mo_readSupply_35
abbrev rm_Mo_readDetector : Room := { frames := 4, cells := 0, slots := 0, locals := 92 }
noncomputable def sp_Mo_readDetector (o : IV) (dr : LV) (bu : IV) (tq : IV) : IV × LV × IV := lett (sp_Mo_once (4 : Int32) o bu tq) fun (y2 : IV × IV) => lett (sp_Mo_number (1 : Int64) (9999999 : Int64) y2.1 bu) fun (y4 : Int64 × IV) => lett (vp_updL dr 24 y4.1) fun (dr_5 : LV) => lett (sp_Mo_number (0 : Int64) (9999 : Int64) y4.2 bu) fun (y7 : Int64 × IV) => lett (vp_updL dr_5 25 y7.1) fun (dr_8 : LV) => lett (sp_Mo_number (0 : Int64) (999 : Int64) y7.2 bu) fun (y10 : Int64 × IV) => lett (vp_updL dr_8 26 y10.1) fun (dr_11 : LV) => lett (sp_Mo_signed (-99999 : Int64) (99999 : Int64) y10.2 bu) fun (y13 : Int64 × IV) => lett (vp_updL dr_11 27 y13.1) fun (dr_14 : LV) => (y13.2, dr_14, y2.2)
def ok_Mo_readDetector (o : IV) (dr : LV) (bu : IV) (tq : IV) : Prop := (ok_Mo_once (4 : Int32) o bu tq) ∧ lett (sp_Mo_once (4 : Int32) o bu tq) fun (y2 : IV × IV) => (ok_Mo_number (1 : Int64) (9999999 : Int64) y2.1 bu) ∧ lett (sp_Mo_number (1 : Int64) (9999999 : Int64) y2.1 bu) fun (y4 : Int64 × IV) => lett (vp_updL dr 24 y4.1) fun (dr_5 : LV) => (ok_Mo_number (0 : Int64) (9999 : Int64) y4.2 bu) ∧ lett (sp_Mo_number (0 : Int64) (9999 : Int64) y4.2 bu) fun (y7 : Int64 × IV) => lett (vp_updL dr_5 25 y7.1) fun (dr_8 : LV) => (ok_Mo_number (0 : Int64) (999 : Int64) y7.2 bu) ∧ lett (sp_Mo_number (0 : Int64) (999 : Int64) y7.2 bu) fun (y10 : Int64 × IV) => lett (vp_updL dr_8 26 y10.1) fun (dr_11 : LV) => (ok_Mo_signed (-99999 : Int64) (99999 : Int64) y10.2 bu) ∧ True
set_option maxRecDepth 100000 in
set_option maxHeartbeats 4000000 in
theorem c_Mo_readDetector (l : Launch) (g : GX) (mo : Nat) (a : Nat → Nat) (o : IV) (now : LV) (dr : LV) (pa : LV) (sa : LV) (iS : IV) (bu : IV) (tq : IV) (rT : IV) (wT : IV) (sK : IV) (sA : IV) (sB : IV) (sE : IV) (oq : IV) (bS : IV) (bE : IV) (bL : IV) (rp : IV)  (hok : ok_Mo_readDetector o dr bu tq) : Met l y_Mo_readDetector (wsY y_Mo_readDetector b_Mo_readDetector 1 none) rm_Mo_readDetector (CP g [.ref mo] (wMo g mo a o now dr pa sa iS bu tq rT wT sK sA sB sE oq bS bE bL rp)) (CV g (wMo g mo a o now dr pa sa iS bu tq rT wT sK sA sB sE oq bS bE bL rp) (fun u : IV × LV × IV => wMo g mo a u.1 now u.2.1 pa sa iS bu u.2.2 rT wT sK sA sB sE oq bS bE bL rp) (sp_Mo_readDetector o dr bu tq)) 0 0 (inW (wMo g mo a o now dr pa sa iS bu tq rT wT sK sA sB sE oq bS bE bL rp)) := by
  refine Met.ofW (cc := b_Mo_readDetector) (maxL := 1) (ret := none) pn_Mo rfl ?_
  intro p e s m args below meth c s₁ B hml hv
  obtain ⟨rfl, C, hP, hD, hS⟩ := enter "DecadeBridgeModel" rfl B hml hv
  obtain ⟨hx, hb, hr, hml, hown, hlk, hts, hK, hZo, hZ⟩ := id C
  refine entryW (lv := [(0, .ref mo)]) rfl (Nat.le_of_ble_eq_true rfl) (fun ls hl => ?_)
  obtain ⟨z, hz⟩ : ∃ z, z = sp_Mo_readDetector o dr bu tq := ⟨_, rfl⟩
  rw [← hz]
  unfold sp_Mo_readDetector at hz
  unfold ok_Mo_readDetector at hok
  refine lv_aload_n hx hb d_Mo_readDetector_0 rfl (lv_at hl 0 rfl) ?_
  refine lv_iconst (v := 4) hx hb d_Mo_readDetector_1 (by decide) ?_
  have hs1 := hok.1
  have hok := hok.2
  have hB : SubW g (inW (wMo g mo a o now dr pa sa iS bu tq rT wT sK sA sB sE oq bS bE bL rp)) s (wMo g mo a o now dr pa sa iS bu tq rT wT sK sA sB sE oq bS bE bL rp) _ (List.range _) _ _ := (subF hP hD hS)
  refine goVF hB (run_v C mf_Mo_once qm_Mo_331 (c_Mo_once l g mo a o now dr pa sa iS bu tq rT wT sK sA sB sE oq bS bE bL rp (4 : Int32) hs1) rfl rfl ⟨Nat.le_of_ble_eq_true rfl, Nat.le_of_ble_eq_true rfl⟩ ⟨Nat.le_of_ble_eq_true rfl, Nat.le_of_ble_eq_true rfl⟩ hB rfl rfl hl rfl rfl (Nat.le_of_ble_eq_true rfl) d_Mo_readDetector_2) (fun _ => rfl) (fun y2 ey2 H locs hP hD hS => ?_)
  have hP : va_P g.1 vwCl (wMo g mo a y2.1 now dr pa sa iS bu y2.2 rT wT sK sA sB sE oq bS bE bL rp) H := hP
  have hD : va_D (inW (wMo g mo a o now dr pa sa iS bu tq rT wT sK sA sB sE oq bS bE bL rp)) (wMo g mo a y2.1 now dr pa sa iS bu y2.2 rT wT sK sA sB sE oq bS bE bL rp) := hD
  have hz := lett_z hz ey2
  have hok := lett_o hok ey2
  refine lv_aload_n hx hb d_Mo_readDetector_5 rfl (lv_at hl 0 rfl) ?_
  refine gf C hP 0 1 fkMo rfl (by decide) rfl qf_Mo_13 (gMo_1 _ _) d_Mo_readDetector_6 ?_
  refine lv_bipush (v := 24) hx hb d_Mo_readDetector_9 (by decide) ?_
  refine lv_aload_n hx hb d_Mo_readDetector_11 rfl (lv_at hl 0 rfl) ?_
  refine lv_lconst (v := 1) hx hb d_Mo_readDetector_12 (by decide) ?_
  refine lv_ldc2 hx hb hown (hts _ qk_Mo_114) d_Mo_readDetector_13 ?_
  have hs3 := hok.1
  have hok := hok.2
  have hB : SubW g (inW (wMo g mo a o now dr pa sa iS bu tq rT wT sK sA sB sE oq bS bE bL rp)) s (wMo g mo a y2.1 now dr pa sa iS bu y2.2 rT wT sK sA sB sE oq bS bE bL rp) _ (List.range _) _ _ := (subF hP hD hS)
  refine goLF hB (run_v C mf_Mo_number qm_Mo_334 (c_Mo_number l g mo a y2.1 now dr pa sa iS bu y2.2 rT wT sK sA sB sE oq bS bE bL rp (1 : Int64) (9999999 : Int64) hs3) rfl rfl ⟨Nat.le_of_ble_eq_true rfl, Nat.le_of_ble_eq_true rfl⟩ ⟨Nat.le_of_ble_eq_true rfl, Nat.le_of_ble_eq_true rfl⟩ hB rfl rfl hl rfl rfl (Nat.le_of_ble_eq_true rfl) d_Mo_readDetector_16) (fun _ => rfl) (fun y4 ey4 H locs hP hD hS => ?_)
  have hP : va_P g.1 vwCl (wMo g mo a y4.2 now dr pa sa iS bu y2.2 rT wT sK sA sB sE oq bS bE bL rp) H := hP
  have hD : va_D (inW (wMo g mo a o now dr pa sa iS bu tq rT wT sK sA sB sE oq bS bE bL rp)) (wMo g mo a y4.2 now dr pa sa iS bu y2.2 rT wT sK sA sB sE oq bS bE bL rp) := hD
  have hz := lett_z hz ey4
  have hok := lett_o hok ey4
  refine stL C hP hD hS 2 rfl vi_24_215 cn_24 d_Mo_readDetector_19 (fun dr_5 edr_5 H locs hP hD hS => ?_)
  have hP : va_P g.1 vwCl (wMo g mo a y4.2 now dr_5 pa sa iS bu y2.2 rT wT sK sA sB sE oq bS bE bL rp) H := hP
  have hD : va_D (inW (wMo g mo a o now dr pa sa iS bu tq rT wT sK sA sB sE oq bS bE bL rp)) (wMo g mo a y4.2 now dr_5 pa sa iS bu y2.2 rT wT sK sA sB sE oq bS bE bL rp) := hD
  have hz := lett_z hz edr_5
  have hok := lett_o hok edr_5
  refine lv_aload_n hx hb d_Mo_readDetector_20 rfl (lv_at hl 0 rfl) ?_
  refine gf C hP 0 1 fkMo rfl (by decide) rfl qf_Mo_13 (gMo_1 _ _) d_Mo_readDetector_21 ?_
  refine lv_bipush (v := 25) hx hb d_Mo_readDetector_24 (by decide) ?_
  refine lv_aload_n hx hb d_Mo_readDetector_26 rfl (lv_at hl 0 rfl) ?_
  refine lv_lconst (v := 0) hx hb d_Mo_readDetector_27 (by decide) ?_
  refine lv_ldc2 hx hb hown (hts _ qk_Mo_358) d_Mo_readDetector_28 ?_
  have hs6 := hok.1
  have hok := hok.2
  have hB : SubW g (inW (wMo g mo a o now dr pa sa iS bu tq rT wT sK sA sB sE oq bS bE bL rp)) s (wMo g mo a y4.2 now dr_5 pa sa iS bu y2.2 rT wT sK sA sB sE oq bS bE bL rp) _ (List.range _) _ _ := (subF hP hD hS)
  refine goLF hB (run_v C mf_Mo_number qm_Mo_334 (c_Mo_number l g mo a y4.2 now dr_5 pa sa iS bu y2.2 rT wT sK sA sB sE oq bS bE bL rp (0 : Int64) (9999 : Int64) hs6) rfl rfl ⟨Nat.le_of_ble_eq_true rfl, Nat.le_of_ble_eq_true rfl⟩ ⟨Nat.le_of_ble_eq_true rfl, Nat.le_of_ble_eq_true rfl⟩ hB rfl rfl hl rfl rfl (Nat.le_of_ble_eq_true rfl) d_Mo_readDetector_31) (fun _ => rfl) (fun y7 ey7 H locs hP hD hS => ?_)
  have hP : va_P g.1 vwCl (wMo g mo a y7.2 now dr_5 pa sa iS bu y2.2 rT wT sK sA sB sE oq bS bE bL rp) H := hP
  have hD : va_D (inW (wMo g mo a o now dr pa sa iS bu tq rT wT sK sA sB sE oq bS bE bL rp)) (wMo g mo a y7.2 now dr_5 pa sa iS bu y2.2 rT wT sK sA sB sE oq bS bE bL rp) := hD
  have hz := lett_z hz ey7
  have hok := lett_o hok ey7
  refine stL C hP hD hS 2 rfl vi_25_215 cn_25 d_Mo_readDetector_34 (fun dr_8 edr_8 H locs hP hD hS => ?_)
  have hP : va_P g.1 vwCl (wMo g mo a y7.2 now dr_8 pa sa iS bu y2.2 rT wT sK sA sB sE oq bS bE bL rp) H := hP
  have hD : va_D (inW (wMo g mo a o now dr pa sa iS bu tq rT wT sK sA sB sE oq bS bE bL rp)) (wMo g mo a y7.2 now dr_8 pa sa iS bu y2.2 rT wT sK sA sB sE oq bS bE bL rp) := hD
  have hz := lett_z hz edr_8
  have hok := lett_o hok edr_8
  refine lv_aload_n hx hb d_Mo_readDetector_35 rfl (lv_at hl 0 rfl) ?_
  refine gf C hP 0 1 fkMo rfl (by decide) rfl qf_Mo_13 (gMo_1 _ _) d_Mo_readDetector_36 ?_
  refine lv_bipush (v := 26) hx hb d_Mo_readDetector_39 (by decide) ?_
  refine lv_aload_n hx hb d_Mo_readDetector_41 rfl (lv_at hl 0 rfl) ?_
  refine lv_lconst (v := 0) hx hb d_Mo_readDetector_42 (by decide) ?_
  refine lv_ldc2 hx hb hown (hts _ qk_Mo_337) d_Mo_readDetector_43 ?_
  have hs9 := hok.1
  have hok := hok.2
  have hB : SubW g (inW (wMo g mo a o now dr pa sa iS bu tq rT wT sK sA sB sE oq bS bE bL rp)) s (wMo g mo a y7.2 now dr_8 pa sa iS bu y2.2 rT wT sK sA sB sE oq bS bE bL rp) _ (List.range _) _ _ := (subF hP hD hS)
  refine goLF hB (run_v C mf_Mo_number qm_Mo_334 (c_Mo_number l g mo a y7.2 now dr_8 pa sa iS bu y2.2 rT wT sK sA sB sE oq bS bE bL rp (0 : Int64) (999 : Int64) hs9) rfl rfl ⟨Nat.le_of_ble_eq_true rfl, Nat.le_of_ble_eq_true rfl⟩ ⟨Nat.le_of_ble_eq_true rfl, Nat.le_of_ble_eq_true rfl⟩ hB rfl rfl hl rfl rfl (Nat.le_of_ble_eq_true rfl) d_Mo_readDetector_46) (fun _ => rfl) (fun y10 ey10 H locs hP hD hS => ?_)
  have hP : va_P g.1 vwCl (wMo g mo a y10.2 now dr_8 pa sa iS bu y2.2 rT wT sK sA sB sE oq bS bE bL rp) H := hP
  have hD : va_D (inW (wMo g mo a o now dr pa sa iS bu tq rT wT sK sA sB sE oq bS bE bL rp)) (wMo g mo a y10.2 now dr_8 pa sa iS bu y2.2 rT wT sK sA sB sE oq bS bE bL rp) := hD
  have hz := lett_z hz ey10
  have hok := lett_o hok ey10
  refine stL C hP hD hS 2 rfl vi_26_215 cn_26 d_Mo_readDetector_49 (fun dr_11 edr_11 H locs hP hD hS => ?_)
  have hP : va_P g.1 vwCl (wMo g mo a y10.2 now dr_11 pa sa iS bu y2.2 rT wT sK sA sB sE oq bS bE bL rp) H := hP
  have hD : va_D (inW (wMo g mo a o now dr pa sa iS bu tq rT wT sK sA sB sE oq bS bE bL rp)) (wMo g mo a y10.2 now dr_11 pa sa iS bu y2.2 rT wT sK sA sB sE oq bS bE bL rp) := hD
  have hz := lett_z hz edr_11
  have hok := lett_o hok edr_11
  refine lv_aload_n hx hb d_Mo_readDetector_50 rfl (lv_at hl 0 rfl) ?_
  refine gf C hP 0 1 fkMo rfl (by decide) rfl qf_Mo_13 (gMo_1 _ _) d_Mo_readDetector_51 ?_
  refine lv_bipush (v := 27) hx hb d_Mo_readDetector_54 (by decide) ?_
  refine lv_aload_n hx hb d_Mo_readDetector_56 rfl (lv_at hl 0 rfl) ?_
  refine lv_ldc2 hx hb hown (hts _ qk_Mo_213) d_Mo_readDetector_57 ?_
  refine lv_ldc2 hx hb hown (hts _ qk_Mo_215) d_Mo_readDetector_60 ?_
  have hs12 := hok.1
  have hok := hok.2
  have hB : SubW g (inW (wMo g mo a o now dr pa sa iS bu tq rT wT sK sA sB sE oq bS bE bL rp)) s (wMo g mo a y10.2 now dr_11 pa sa iS bu y2.2 rT wT sK sA sB sE oq bS bE bL rp) _ (List.range _) _ _ := (subF hP hD hS)
  refine goLF hB (run_v C mf_Mo_signed qm_Mo_343 (c_Mo_signed l g mo a y10.2 now dr_11 pa sa iS bu y2.2 rT wT sK sA sB sE oq bS bE bL rp (-99999 : Int64) (99999 : Int64) hs12) rfl rfl ⟨Nat.le_of_ble_eq_true rfl, Nat.le_of_ble_eq_true rfl⟩ ⟨Nat.le_of_ble_eq_true rfl, Nat.le_of_ble_eq_true rfl⟩ hB rfl rfl hl rfl rfl (Nat.le_of_ble_eq_true rfl) d_Mo_readDetector_63) (fun _ => rfl) (fun y13 ey13 H locs hP hD hS => ?_)
  have hP : va_P g.1 vwCl (wMo g mo a y13.2 now dr_11 pa sa iS bu y2.2 rT wT sK sA sB sE oq bS bE bL rp) H := hP
  have hD : va_D (inW (wMo g mo a o now dr pa sa iS bu tq rT wT sK sA sB sE oq bS bE bL rp)) (wMo g mo a y13.2 now dr_11 pa sa iS bu y2.2 rT wT sK sA sB sE oq bS bE bL rp) := hD
  have hz := lett_z hz ey13
  refine stL C hP hD hS 2 rfl vi_27_215 cn_27 d_Mo_readDetector_66 (fun dr_14 edr_14 H locs hP hD hS => ?_)
  have hP : va_P g.1 vwCl (wMo g mo a y13.2 now dr_14 pa sa iS bu y2.2 rT wT sK sA sB sE oq bS bE bL rp) H := hP
  have hD : va_D (inW (wMo g mo a o now dr pa sa iS bu tq rT wT sK sA sB sE oq bS bE bL rp)) (wMo g mo a y13.2 now dr_14 pa sa iS bu y2.2 rT wT sK sA sB sE oq bS bE bL rp) := hD
  have hz := lett_z hz edr_14
  exact endV C hz hP hS d_Mo_readDetector_67
abbrev rm_Mo_readStatement : Room := { frames := 6, cells := 0, slots := 0, locals := 130 }
noncomputable def sp_Mo_readStatement (o : IV) (dr : LV) (bu : IV) (tq : IV) (rT : IV) (wT : IV) : IV × LV × IV × IV × IV := lett (sp_Mo_isWord 0 o bu) fun (y2 : Int32) => if y2 = 0 then (lett (sp_Mo_isWord 1 o bu) fun (y5 : Int32) => if y5 = 0 then (lett (sp_Mo_isWord 2 o bu) fun (y8 : Int32) => if y8 = 0 then (lett (sp_Mo_isWord 3 o bu) fun (y11 : Int32) => if y11 = 0 then (lett (sp_Mo_isWord 4 o bu) fun (y14 : Int32) => if y14 = 0 then (lett (sp_Mo_isWord 5 o bu) fun (y17 : Int32) => if y17 = 0 then (lett (sp_Mo_isWord 6 o bu) fun (y20 : Int32) => if y20 = 0 then (lett (sp_Mo_isWord 7 o bu) fun (y23 : Int32) => lett (sp_Mo_must y23 (1 : Int32) o) fun (y24 : IV) => lett (sp_Mo_once (5 : Int32) y24 bu tq) fun (y26 : IV × IV) => lett (sp_Mo_number (0 : Int64) (99999 : Int64) y26.1 bu) fun (y28 : Int64 × IV) => lett (vp_updL dr 28 y28.1) fun (dr_29 : LV) => (y28.2, dr_29, y26.2, rT, wT)) else (lett (sp_Mo_readDetector o dr bu tq) fun (y31 : IV × LV × IV) => (y31.1, y31.2.1, y31.2.2, rT, wT))) else (lett (sp_Mo_readSupply o dr bu tq) fun (y33 : IV × LV × IV) => (y33.1, y33.2.1, y33.2.2, rT, wT))) else (lett (sp_Mo_readLeads o dr bu tq) fun (y35 : IV × LV × IV) => (y35.1, y35.2.1, y35.2.2, rT, wT))) else (lett (sp_Mo_readWarm o dr bu wT) fun (y37 : IV × LV × IV) => (y37.1, y37.2.1, tq, rT, y37.2.2))) else (lett (sp_Mo_once (1 : Int32) o bu tq) fun (y39 : IV × IV) => lett (sp_Mo_number (1000 : Int64) (100000000 : Int64) y39.1 bu) fun (y41 : Int64 × IV) => lett (vp_updL dr 12 y41.1) fun (dr_42 : LV) => (y41.2, dr_42, y39.2, rT, wT))) else (lett (sp_Mo_readRatio o dr bu rT) fun (y44 : IV × LV × IV) => (y44.1, y44.2.1, tq, y44.2.2, wT))) else (lett (sp_Mo_readBox o dr bu tq) fun (y46 : IV × LV × IV) => (y46.1, y46.2.1, y46.2.2, rT, wT))
def ok_Mo_readStatement (o : IV) (dr : LV) (bu : IV) (tq : IV) (rT : IV) (wT : IV) : Prop := (ok_Mo_isWord 0 o bu) ∧ lett (sp_Mo_isWord 0 o bu) fun (y2 : Int32) => ((y2 = 0 → (ok_Mo_isWord 1 o bu) ∧ lett (sp_Mo_isWord 1 o bu) fun (y5 : Int32) => ((y5 = 0 → (ok_Mo_isWord 2 o bu) ∧ lett (sp_Mo_isWord 2 o bu) fun (y8 : Int32) => ((y8 = 0 → (ok_Mo_isWord 3 o bu) ∧ lett (sp_Mo_isWord 3 o bu) fun (y11 : Int32) => ((y11 = 0 → (ok_Mo_isWord 4 o bu) ∧ lett (sp_Mo_isWord 4 o bu) fun (y14 : Int32) => ((y14 = 0 → (ok_Mo_isWord 5 o bu) ∧ lett (sp_Mo_isWord 5 o bu) fun (y17 : Int32) => ((y17 = 0 → (ok_Mo_isWord 6 o bu) ∧ lett (sp_Mo_isWord 6 o bu) fun (y20 : Int32) => ((y20 = 0 → (ok_Mo_isWord 7 o bu) ∧ lett (sp_Mo_isWord 7 o bu) fun (y23 : Int32) => lett (sp_Mo_must y23 (1 : Int32) o) fun (y24 : IV) => (ok_Mo_once (5 : Int32) y24 bu tq) ∧ lett (sp_Mo_once (5 : Int32) y24 bu tq) fun (y26 : IV × IV) => (ok_Mo_number (0 : Int64) (99999 : Int64) y26.1 bu) ∧ True) ∧ (¬ (y20 = 0) → (ok_Mo_readDetector o dr bu tq) ∧ True))) ∧ (¬ (y17 = 0) → (ok_Mo_readSupply o dr bu tq) ∧ True))) ∧ (¬ (y14 = 0) → (ok_Mo_readLeads o dr bu tq) ∧ True))) ∧ (¬ (y11 = 0) → (ok_Mo_readWarm o dr bu wT) ∧ True))) ∧ (¬ (y8 = 0) → (ok_Mo_once (1 : Int32) o bu tq) ∧ lett (sp_Mo_once (1 : Int32) o bu tq) fun (y39 : IV × IV) => (ok_Mo_number (1000 : Int64) (100000000 : Int64) y39.1 bu) ∧ True))) ∧ (¬ (y5 = 0) → (ok_Mo_readRatio o dr bu rT) ∧ True))) ∧ (¬ (y2 = 0) → (ok_Mo_readBox o dr bu tq) ∧ True))
set_option maxRecDepth 100000 in
set_option maxHeartbeats 4000000 in
theorem c_Mo_readStatement (l : Launch) (g : GX) (mo : Nat) (a : Nat → Nat) (o : IV) (now : LV) (dr : LV) (pa : LV) (sa : LV) (iS : IV) (bu : IV) (tq : IV) (rT : IV) (wT : IV) (sK : IV) (sA : IV) (sB : IV) (sE : IV) (oq : IV) (bS : IV) (bE : IV) (bL : IV) (rp : IV)  (hok : ok_Mo_readStatement o dr bu tq rT wT) : Met l y_Mo_readStatement (wsY y_Mo_readStatement b_Mo_readStatement 1 none) rm_Mo_readStatement (CP g [.ref mo] (wMo g mo a o now dr pa sa iS bu tq rT wT sK sA sB sE oq bS bE bL rp)) (CV g (wMo g mo a o now dr pa sa iS bu tq rT wT sK sA sB sE oq bS bE bL rp) (fun u : IV × LV × IV × IV × IV => wMo g mo a u.1 now u.2.1 pa sa iS bu u.2.2.1 u.2.2.2.1 u.2.2.2.2 sK sA sB sE oq bS bE bL rp) (sp_Mo_readStatement o dr bu tq rT wT)) 0 0 (inW (wMo g mo a o now dr pa sa iS bu tq rT wT sK sA sB sE oq bS bE bL rp)) := by
  refine Met.ofW (cc := b_Mo_readStatement) (maxL := 1) (ret := none) pn_Mo rfl ?_
  intro p e s m args below meth c s₁ B hml hv
  obtain ⟨rfl, C, hP, hD, hS⟩ := enter "DecadeBridgeModel" rfl B hml hv
  obtain ⟨hx, hb, hr, hml, hown, hlk, hts, hK, hZo, hZ⟩ := id C
  refine entryW (lv := [(0, .ref mo)]) rfl (Nat.le_of_ble_eq_true rfl) (fun ls hl => ?_)
  obtain ⟨z, hz⟩ : ∃ z, z = sp_Mo_readStatement o dr bu tq rT wT := ⟨_, rfl⟩
  rw [← hz]
  unfold sp_Mo_readStatement at hz
  unfold ok_Mo_readStatement at hok
  refine lv_aload_n hx hb d_Mo_readStatement_0 rfl (lv_at hl 0 rfl) ?_
  refine va_ldcwS hx hb hown (zRef hZo hZ ("DecadeBridgeModel", 346, 0) (by decide +kernel)) d_Mo_readStatement_1 ?_
  have hs1 := hok.1
  have hok := hok.2
  have hB : SubW g (inW (wMo g mo a o now dr pa sa iS bu tq rT wT sK sA sB sE oq bS bE bL rp)) s (wMo g mo a o now dr pa sa iS bu tq rT wT sK sA sB sE oq bS bE bL rp) _ (List.range _) _ _ := (subF hP hD hS)
  refine goI0 hB (run_v C mf_Mo_isWord qm_Mo_307 (c_Mo_isWord l g mo a o now dr pa sa iS bu tq rT wT sK sA sB sE oq bS bE bL rp 0 hs1) rfl rfl ⟨Nat.le_of_ble_eq_true rfl, Nat.le_of_ble_eq_true rfl⟩ ⟨Nat.le_of_ble_eq_true rfl, Nat.le_of_ble_eq_true rfl⟩ hB rfl rfl hl rfl rfl (Nat.le_of_ble_eq_true rfl) d_Mo_readStatement_4) (fun y2 ey2 H locs hP hS => ?_)
  have hz := lett_z hz ey2
  have hok := lett_o hok ey2
  refine lv_if_eq (tgt := 17) hx hb d_Mo_readStatement_7 (by decide) (fun c3 => ?_) (fun c3 => ?_)
  · have hz := hz.trans (if_pos c3)
    have hok := hok.1 c3
    refine lv_aload_n hx hb d_Mo_readStatement_17 rfl (lv_at hl 0 rfl) ?_
    refine va_ldcwS hx hb hown (zRef hZo hZ ("DecadeBridgeModel", 363, 1) (by decide +kernel)) d_Mo_readStatement_18 ?_
    have hs4 := hok.1
    have hok := hok.2
    have hB : SubW g (inW (wMo g mo a o now dr pa sa iS bu tq rT wT sK sA sB sE oq bS bE bL rp)) s (wMo g mo a o now dr pa sa iS bu tq rT wT sK sA sB sE oq bS bE bL rp) _ (List.range _) _ _ := (subF hP hD hS)
    refine goI0 hB (run_v C mf_Mo_isWord qm_Mo_307 (c_Mo_isWord l g mo a o now dr pa sa iS bu tq rT wT sK sA sB sE oq bS bE bL rp 1 hs4) rfl rfl ⟨Nat.le_of_ble_eq_true rfl, Nat.le_of_ble_eq_true rfl⟩ ⟨Nat.le_of_ble_eq_true rfl, Nat.le_of_ble_eq_true rfl⟩ hB rfl rfl hl rfl rfl (Nat.le_of_ble_eq_true rfl) d_Mo_readStatement_21) (fun y5 ey5 H locs hP hS => ?_)
    have hz := lett_z hz ey5
    have hok := lett_o hok ey5
    refine lv_if_eq (tgt := 34) hx hb d_Mo_readStatement_24 (by decide) (fun c6 => ?_) (fun c6 => ?_)
    · have hz := hz.trans (if_pos c6)
      have hok := hok.1 c6
      refine lv_aload_n hx hb d_Mo_readStatement_34 rfl (lv_at hl 0 rfl) ?_
      refine va_ldcwS hx hb hown (zRef hZo hZ ("DecadeBridgeModel", 348, 2) (by decide +kernel)) d_Mo_readStatement_35 ?_
      have hs7 := hok.1
      have hok := hok.2
      have hB : SubW g (inW (wMo g mo a o now dr pa sa iS bu tq rT wT sK sA sB sE oq bS bE bL rp)) s (wMo g mo a o now dr pa sa iS bu tq rT wT sK sA sB sE oq bS bE bL rp) _ (List.range _) _ _ := (subF hP hD hS)
      refine goI0 hB (run_v C mf_Mo_isWord qm_Mo_307 (c_Mo_isWord l g mo a o now dr pa sa iS bu tq rT wT sK sA sB sE oq bS bE bL rp 2 hs7) rfl rfl ⟨Nat.le_of_ble_eq_true rfl, Nat.le_of_ble_eq_true rfl⟩ ⟨Nat.le_of_ble_eq_true rfl, Nat.le_of_ble_eq_true rfl⟩ hB rfl rfl hl rfl rfl (Nat.le_of_ble_eq_true rfl) d_Mo_readStatement_38) (fun y8 ey8 H locs hP hS => ?_)
      have hz := lett_z hz ey8
      have hok := lett_o hok ey8
      refine lv_if_eq (tgt := 69) hx hb d_Mo_readStatement_41 (by decide) (fun c9 => ?_) (fun c9 => ?_)
      · have hz := hz.trans (if_pos c9)
        have hok := hok.1 c9
        refine lv_aload_n hx hb d_Mo_readStatement_69 rfl (lv_at hl 0 rfl) ?_
        refine va_ldcwS hx hb hown (zRef hZo hZ ("DecadeBridgeModel", 370, 3) (by decide +kernel)) d_Mo_readStatement_70 ?_
        have hs10 := hok.1
        have hok := hok.2
        have hB : SubW g (inW (wMo g mo a o now dr pa sa iS bu tq rT wT sK sA sB sE oq bS bE bL rp)) s (wMo g mo a o now dr pa sa iS bu tq rT wT sK sA sB sE oq bS bE bL rp) _ (List.range _) _ _ := (subF hP hD hS)
        refine goI0 hB (run_v C mf_Mo_isWord qm_Mo_307 (c_Mo_isWord l g mo a o now dr pa sa iS bu tq rT wT sK sA sB sE oq bS bE bL rp 3 hs10) rfl rfl ⟨Nat.le_of_ble_eq_true rfl, Nat.le_of_ble_eq_true rfl⟩ ⟨Nat.le_of_ble_eq_true rfl, Nat.le_of_ble_eq_true rfl⟩ hB rfl rfl hl rfl rfl (Nat.le_of_ble_eq_true rfl) d_Mo_readStatement_73) (fun y11 ey11 H locs hP hS => ?_)
        have hz := lett_z hz ey11
        have hok := lett_o hok ey11
        refine lv_if_eq (tgt := 86) hx hb d_Mo_readStatement_76 (by decide) (fun c12 => ?_) (fun c12 => ?_)
        · have hz := hz.trans (if_pos c12)
          have hok := hok.1 c12
          refine lv_aload_n hx hb d_Mo_readStatement_86 rfl (lv_at hl 0 rfl) ?_
          refine va_ldcwS hx hb hown (zRef hZo hZ ("DecadeBridgeModel", 374, 4) (by decide +kernel)) d_Mo_readStatement_87 ?_
          have hs13 := hok.1
          have hok := hok.2
          have hB : SubW g (inW (wMo g mo a o now dr pa sa iS bu tq rT wT sK sA sB sE oq bS bE bL rp)) s (wMo g mo a o now dr pa sa iS bu tq rT wT sK sA sB sE oq bS bE bL rp) _ (List.range _) _ _ := (subF hP hD hS)
          refine goI0 hB (run_v C mf_Mo_isWord qm_Mo_307 (c_Mo_isWord l g mo a o now dr pa sa iS bu tq rT wT sK sA sB sE oq bS bE bL rp 4 hs13) rfl rfl ⟨Nat.le_of_ble_eq_true rfl, Nat.le_of_ble_eq_true rfl⟩ ⟨Nat.le_of_ble_eq_true rfl, Nat.le_of_ble_eq_true rfl⟩ hB rfl rfl hl rfl rfl (Nat.le_of_ble_eq_true rfl) d_Mo_readStatement_90) (fun y14 ey14 H locs hP hS => ?_)
          have hz := lett_z hz ey14
          have hok := lett_o hok ey14
          refine lv_if_eq (tgt := 103) hx hb d_Mo_readStatement_93 (by decide) (fun c15 => ?_) (fun c15 => ?_)
          · have hz := hz.trans (if_pos c15)
            have hok := hok.1 c15
            refine lv_aload_n hx hb d_Mo_readStatement_103 rfl (lv_at hl 0 rfl) ?_
            refine va_ldcwS hx hb hown (zRef hZo hZ ("DecadeBridgeModel", 379, 5) (by decide +kernel)) d_Mo_readStatement_104 ?_
            have hs16 := hok.1
            have hok := hok.2
            have hB : SubW g (inW (wMo g mo a o now dr pa sa iS bu tq rT wT sK sA sB sE oq bS bE bL rp)) s (wMo g mo a o now dr pa sa iS bu tq rT wT sK sA sB sE oq bS bE bL rp) _ (List.range _) _ _ := (subF hP hD hS)
            refine goI0 hB (run_v C mf_Mo_isWord qm_Mo_307 (c_Mo_isWord l g mo a o now dr pa sa iS bu tq rT wT sK sA sB sE oq bS bE bL rp 5 hs16) rfl rfl ⟨Nat.le_of_ble_eq_true rfl, Nat.le_of_ble_eq_true rfl⟩ ⟨Nat.le_of_ble_eq_true rfl, Nat.le_of_ble_eq_true rfl⟩ hB rfl rfl hl rfl rfl (Nat.le_of_ble_eq_true rfl) d_Mo_readStatement_107) (fun y17 ey17 H locs hP hS => ?_)
            have hz := lett_z hz ey17
            have hok := lett_o hok ey17
            refine lv_if_eq (tgt := 120) hx hb d_Mo_readStatement_110 (by decide) (fun c18 => ?_) (fun c18 => ?_)
            · have hz := hz.trans (if_pos c18)
              have hok := hok.1 c18
              refine lv_aload_n hx hb d_Mo_readStatement_120 rfl (lv_at hl 0 rfl) ?_
              refine va_ldcwS hx hb hown (zRef hZo hZ ("DecadeBridgeModel", 384, 6) (by decide +kernel)) d_Mo_readStatement_121 ?_
              have hs19 := hok.1
              have hok := hok.2
              have hB : SubW g (inW (wMo g mo a o now dr pa sa iS bu tq rT wT sK sA sB sE oq bS bE bL rp)) s (wMo g mo a o now dr pa sa iS bu tq rT wT sK sA sB sE oq bS bE bL rp) _ (List.range _) _ _ := (subF hP hD hS)
              refine goI0 hB (run_v C mf_Mo_isWord qm_Mo_307 (c_Mo_isWord l g mo a o now dr pa sa iS bu tq rT wT sK sA sB sE oq bS bE bL rp 6 hs19) rfl rfl ⟨Nat.le_of_ble_eq_true rfl, Nat.le_of_ble_eq_true rfl⟩ ⟨Nat.le_of_ble_eq_true rfl, Nat.le_of_ble_eq_true rfl⟩ hB rfl rfl hl rfl rfl (Nat.le_of_ble_eq_true rfl) d_Mo_readStatement_124) (fun y20 ey20 H locs hP hS => ?_)
              have hz := lett_z hz ey20
              have hok := lett_o hok ey20
              refine lv_if_eq (tgt := 137) hx hb d_Mo_readStatement_127 (by decide) (fun c21 => ?_) (fun c21 => ?_)
              · have hz := hz.trans (if_pos c21)
                have hok := hok.1 c21
                refine lv_aload_n hx hb d_Mo_readStatement_137 rfl (lv_at hl 0 rfl) ?_
                refine lv_aload_n hx hb d_Mo_readStatement_138 rfl (lv_at hl 0 rfl) ?_
                refine va_ldcwS hx hb hown (zRef hZo hZ ("DecadeBridgeModel", 389, 7) (by decide +kernel)) d_Mo_readStatement_139 ?_
                have hs22 := hok.1
                have hok := hok.2
                have hB : SubW g (inW (wMo g mo a o now dr pa sa iS bu tq rT wT sK sA sB sE oq bS bE bL rp)) s (wMo g mo a o now dr pa sa iS bu tq rT wT sK sA sB sE oq bS bE bL rp) _ (List.range _) _ _ := (subF hP hD hS)
                refine goI0 hB (run_v C mf_Mo_isWord qm_Mo_307 (c_Mo_isWord l g mo a o now dr pa sa iS bu tq rT wT sK sA sB sE oq bS bE bL rp 7 hs22) rfl rfl ⟨Nat.le_of_ble_eq_true rfl, Nat.le_of_ble_eq_true rfl⟩ ⟨Nat.le_of_ble_eq_true rfl, Nat.le_of_ble_eq_true rfl⟩ hB rfl rfl hl rfl rfl (Nat.le_of_ble_eq_true rfl) d_Mo_readStatement_142) (fun y23 ey23 H locs hP hS => ?_)
                have hz := lett_z hz ey23
                have hok := lett_o hok ey23
                refine lv_iconst (v := 1) hx hb d_Mo_readStatement_145 (by decide) ?_
                have hB : SubW g (inW (wMo g mo a o now dr pa sa iS bu tq rT wT sK sA sB sE oq bS bE bL rp)) s (wMo g mo a o now dr pa sa iS bu tq rT wT sK sA sB sE oq bS bE bL rp) _ (List.range _) _ _ := (subF hP hD hS)
                refine goVF hB (run_v C mf_Mo_must qm_Mo_314 (c_Mo_must l g mo a o now dr pa sa iS bu tq rT wT sK sA sB sE oq bS bE bL rp y23 (1 : Int32)) rfl rfl ⟨Nat.le_of_ble_eq_true rfl, Nat.le_of_ble_eq_true rfl⟩ ⟨Nat.le_of_ble_eq_true rfl, Nat.le_of_ble_eq_true rfl⟩ hB rfl rfl hl rfl rfl (Nat.le_of_ble_eq_true rfl) d_Mo_readStatement_146) (fun _ => rfl) (fun y24 ey24 H locs hP hD hS => ?_)
                have hP : va_P g.1 vwCl (wMo g mo a y24 now dr pa sa iS bu tq rT wT sK sA sB sE oq bS bE bL rp) H := hP
                have hD : va_D (inW (wMo g mo a o now dr pa sa iS bu tq rT wT sK sA sB sE oq bS bE bL rp)) (wMo g mo a y24 now dr pa sa iS bu tq rT wT sK sA sB sE oq bS bE bL rp) := hD
                have hz := lett_z hz ey24
                have hok := lett_o hok ey24
                refine lv_aload_n hx hb d_Mo_readStatement_149 rfl (lv_at hl 0 rfl) ?_
                refine lv_iconst (v := 5) hx hb d_Mo_readStatement_150 (by decide) ?_
                have hs25 := hok.1
                have hok := hok.2
                have hB : SubW g (inW (wMo g mo a o now dr pa sa iS bu tq rT wT sK sA sB sE oq bS bE bL rp)) s (wMo g mo a y24 now dr pa sa iS bu tq rT wT sK sA sB sE oq bS bE bL rp) _ (List.range _) _ _ := (subF hP hD hS)
                refine goVF hB (run_v C mf_Mo_once qm_Mo_331 (c_Mo_once l g mo a y24 now dr pa sa iS bu tq rT wT sK sA sB sE oq bS bE bL rp (5 : Int32) hs25) rfl rfl ⟨Nat.le_of_ble_eq_true rfl, Nat.le_of_ble_eq_true rfl⟩ ⟨Nat.le_of_ble_eq_true rfl, Nat.le_of_ble_eq_true rfl⟩ hB rfl rfl hl rfl rfl (Nat.le_of_ble_eq_true rfl) d_Mo_readStatement_151) (fun _ => rfl) (fun y26 ey26 H locs hP hD hS => ?_)
                have hP : va_P g.1 vwCl (wMo g mo a y26.1 now dr pa sa iS bu y26.2 rT wT sK sA sB sE oq bS bE bL rp) H := hP
                have hD : va_D (inW (wMo g mo a o now dr pa sa iS bu tq rT wT sK sA sB sE oq bS bE bL rp)) (wMo g mo a y26.1 now dr pa sa iS bu y26.2 rT wT sK sA sB sE oq bS bE bL rp) := hD
                have hz := lett_z hz ey26
                have hok := lett_o hok ey26
                refine lv_aload_n hx hb d_Mo_readStatement_154 rfl (lv_at hl 0 rfl) ?_
                refine gf C hP 0 1 fkMo rfl (by decide) rfl qf_Mo_13 (gMo_1 _ _) d_Mo_readStatement_155 ?_
                refine lv_bipush (v := 28) hx hb d_Mo_readStatement_158 (by decide) ?_
                refine lv_aload_n hx hb d_Mo_readStatement_160 rfl (lv_at hl 0 rfl) ?_
                refine lv_lconst (v := 0) hx hb d_Mo_readStatement_161 (by decide) ?_
                refine lv_ldc2 hx hb hown (hts _ qk_Mo_215) d_Mo_readStatement_162 ?_
                have hs27 := hok.1
                have hok := hok.2
                have hB : SubW g (inW (wMo g mo a o now dr pa sa iS bu tq rT wT sK sA sB sE oq bS bE bL rp)) s (wMo g mo a y26.1 now dr pa sa iS bu y26.2 rT wT sK sA sB sE oq bS bE bL rp) _ (List.range _) _ _ := (subF hP hD hS)
                refine goLF hB (run_v C mf_Mo_number qm_Mo_334 (c_Mo_number l g mo a y26.1 now dr pa sa iS bu y26.2 rT wT sK sA sB sE oq bS bE bL rp (0 : Int64) (99999 : Int64) hs27) rfl rfl ⟨Nat.le_of_ble_eq_true rfl, Nat.le_of_ble_eq_true rfl⟩ ⟨Nat.le_of_ble_eq_true rfl, Nat.le_of_ble_eq_true rfl⟩ hB rfl rfl hl rfl rfl (Nat.le_of_ble_eq_true rfl) d_Mo_readStatement_165) (fun _ => rfl) (fun y28 ey28 H locs hP hD hS => ?_)
                have hP : va_P g.1 vwCl (wMo g mo a y28.2 now dr pa sa iS bu y26.2 rT wT sK sA sB sE oq bS bE bL rp) H := hP
                have hD : va_D (inW (wMo g mo a o now dr pa sa iS bu tq rT wT sK sA sB sE oq bS bE bL rp)) (wMo g mo a y28.2 now dr pa sa iS bu y26.2 rT wT sK sA sB sE oq bS bE bL rp) := hD
                have hz := lett_z hz ey28
                refine stL C hP hD hS 2 rfl vi_28_215 cn_28 d_Mo_readStatement_168 (fun dr_29 edr_29 H locs hP hD hS => ?_)
                have hP : va_P g.1 vwCl (wMo g mo a y28.2 now dr_29 pa sa iS bu y26.2 rT wT sK sA sB sE oq bS bE bL rp) H := hP
                have hD : va_D (inW (wMo g mo a o now dr pa sa iS bu tq rT wT sK sA sB sE oq bS bE bL rp)) (wMo g mo a y28.2 now dr_29 pa sa iS bu y26.2 rT wT sK sA sB sE oq bS bE bL rp) := hD
                have hz := lett_z hz edr_29
                exact endV C hz hP hS d_Mo_readStatement_169
              · have hz := hz.trans (if_neg c21)
                have hok := hok.2 c21
                refine lv_aload_n hx hb d_Mo_readStatement_130 rfl (lv_at hl 0 rfl) ?_
                have hs30 := hok.1
                have hok := hok.2
                have hB : SubW g (inW (wMo g mo a o now dr pa sa iS bu tq rT wT sK sA sB sE oq bS bE bL rp)) s (wMo g mo a o now dr pa sa iS bu tq rT wT sK sA sB sE oq bS bE bL rp) _ (List.range _) _ _ := (subF hP hD hS)
                refine goVF hB (run_v C mf_Mo_readDetector qm_Mo_386 (c_Mo_readDetector l g mo a o now dr pa sa iS bu tq rT wT sK sA sB sE oq bS bE bL rp hs30) rfl rfl ⟨Nat.le_of_ble_eq_true rfl, Nat.le_of_ble_eq_true rfl⟩ ⟨Nat.le_of_ble_eq_true rfl, Nat.le_of_ble_eq_true rfl⟩ hB rfl rfl hl rfl rfl (Nat.le_of_ble_eq_true rfl) d_Mo_readStatement_131) (fun _ => rfl) (fun y31 ey31 H locs hP hD hS => ?_)
                have hP : va_P g.1 vwCl (wMo g mo a y31.1 now y31.2.1 pa sa iS bu y31.2.2 rT wT sK sA sB sE oq bS bE bL rp) H := hP
                have hD : va_D (inW (wMo g mo a o now dr pa sa iS bu tq rT wT sK sA sB sE oq bS bE bL rp)) (wMo g mo a y31.1 now y31.2.1 pa sa iS bu y31.2.2 rT wT sK sA sB sE oq bS bE bL rp) := hD
                have hz := lett_z hz ey31
                refine lv_goto (tgt := 169) hx hb d_Mo_readStatement_134 (by decide) ?_
                exact endV C hz hP hS d_Mo_readStatement_169
            · have hz := hz.trans (if_neg c18)
              have hok := hok.2 c18
              refine lv_aload_n hx hb d_Mo_readStatement_113 rfl (lv_at hl 0 rfl) ?_
              have hs32 := hok.1
              have hok := hok.2
              have hB : SubW g (inW (wMo g mo a o now dr pa sa iS bu tq rT wT sK sA sB sE oq bS bE bL rp)) s (wMo g mo a o now dr pa sa iS bu tq rT wT sK sA sB sE oq bS bE bL rp) _ (List.range _) _ _ := (subF hP hD hS)
              refine goVF hB (run_v C mf_Mo_readSupply qm_Mo_381 (c_Mo_readSupply l g mo a o now dr pa sa iS bu tq rT wT sK sA sB sE oq bS bE bL rp hs32) rfl rfl ⟨Nat.le_of_ble_eq_true rfl, Nat.le_of_ble_eq_true rfl⟩ ⟨Nat.le_of_ble_eq_true rfl, Nat.le_of_ble_eq_true rfl⟩ hB rfl rfl hl rfl rfl (Nat.le_of_ble_eq_true rfl) d_Mo_readStatement_114) (fun _ => rfl) (fun y33 ey33 H locs hP hD hS => ?_)
              have hP : va_P g.1 vwCl (wMo g mo a y33.1 now y33.2.1 pa sa iS bu y33.2.2 rT wT sK sA sB sE oq bS bE bL rp) H := hP
              have hD : va_D (inW (wMo g mo a o now dr pa sa iS bu tq rT wT sK sA sB sE oq bS bE bL rp)) (wMo g mo a y33.1 now y33.2.1 pa sa iS bu y33.2.2 rT wT sK sA sB sE oq bS bE bL rp) := hD
              have hz := lett_z hz ey33
              refine lv_goto (tgt := 169) hx hb d_Mo_readStatement_117 (by decide) ?_
              exact endV C hz hP hS d_Mo_readStatement_169
          · have hz := hz.trans (if_neg c15)
            have hok := hok.2 c15
            refine lv_aload_n hx hb d_Mo_readStatement_96 rfl (lv_at hl 0 rfl) ?_
            have hs34 := hok.1
            have hok := hok.2
            have hB : SubW g (inW (wMo g mo a o now dr pa sa iS bu tq rT wT sK sA sB sE oq bS bE bL rp)) s (wMo g mo a o now dr pa sa iS bu tq rT wT sK sA sB sE oq bS bE bL rp) _ (List.range _) _ _ := (subF hP hD hS)
            refine goVF hB (run_v C mf_Mo_readLeads qm_Mo_376 (c_Mo_readLeads l g mo a o now dr pa sa iS bu tq rT wT sK sA sB sE oq bS bE bL rp hs34) rfl rfl ⟨Nat.le_of_ble_eq_true rfl, Nat.le_of_ble_eq_true rfl⟩ ⟨Nat.le_of_ble_eq_true rfl, Nat.le_of_ble_eq_true rfl⟩ hB rfl rfl hl rfl rfl (Nat.le_of_ble_eq_true rfl) d_Mo_readStatement_97) (fun _ => rfl) (fun y35 ey35 H locs hP hD hS => ?_)
            have hP : va_P g.1 vwCl (wMo g mo a y35.1 now y35.2.1 pa sa iS bu y35.2.2 rT wT sK sA sB sE oq bS bE bL rp) H := hP
            have hD : va_D (inW (wMo g mo a o now dr pa sa iS bu tq rT wT sK sA sB sE oq bS bE bL rp)) (wMo g mo a y35.1 now y35.2.1 pa sa iS bu y35.2.2 rT wT sK sA sB sE oq bS bE bL rp) := hD
            have hz := lett_z hz ey35
            refine lv_goto (tgt := 169) hx hb d_Mo_readStatement_100 (by decide) ?_
            exact endV C hz hP hS d_Mo_readStatement_169
        · have hz := hz.trans (if_neg c12)
          have hok := hok.2 c12
          refine lv_aload_n hx hb d_Mo_readStatement_79 rfl (lv_at hl 0 rfl) ?_
          have hs36 := hok.1
          have hok := hok.2
          have hB : SubW g (inW (wMo g mo a o now dr pa sa iS bu tq rT wT sK sA sB sE oq bS bE bL rp)) s (wMo g mo a o now dr pa sa iS bu tq rT wT sK sA sB sE oq bS bE bL rp) _ (List.range _) _ _ := (subF hP hD hS)
          refine goVF hB (run_v C mf_Mo_readWarm qm_Mo_371 (c_Mo_readWarm l g mo a o now dr pa sa iS bu tq rT wT sK sA sB sE oq bS bE bL rp hs36) rfl rfl ⟨Nat.le_of_ble_eq_true rfl, Nat.le_of_ble_eq_true rfl⟩ ⟨Nat.le_of_ble_eq_true rfl, Nat.le_of_ble_eq_true rfl⟩ hB rfl rfl hl rfl rfl (Nat.le_of_ble_eq_true rfl) d_Mo_readStatement_80) (fun _ => rfl) (fun y37 ey37 H locs hP hD hS => ?_)
          have hP : va_P g.1 vwCl (wMo g mo a y37.1 now y37.2.1 pa sa iS bu tq rT y37.2.2 sK sA sB sE oq bS bE bL rp) H := hP
          have hD : va_D (inW (wMo g mo a o now dr pa sa iS bu tq rT wT sK sA sB sE oq bS bE bL rp)) (wMo g mo a y37.1 now y37.2.1 pa sa iS bu tq rT y37.2.2 sK sA sB sE oq bS bE bL rp) := hD
          have hz := lett_z hz ey37
          refine lv_goto (tgt := 169) hx hb d_Mo_readStatement_83 (by decide) ?_
          exact endV C hz hP hS d_Mo_readStatement_169
      · have hz := hz.trans (if_neg c9)
        have hok := hok.2 c9
        refine lv_aload_n hx hb d_Mo_readStatement_44 rfl (lv_at hl 0 rfl) ?_
        refine lv_iconst (v := 1) hx hb d_Mo_readStatement_45 (by decide) ?_
        have hs38 := hok.1
        have hok := hok.2
        have hB : SubW g (inW (wMo g mo a o now dr pa sa iS bu tq rT wT sK sA sB sE oq bS bE bL rp)) s (wMo g mo a o now dr pa sa iS bu tq rT wT sK sA sB sE oq bS bE bL rp) _ (List.range _) _ _ := (subF hP hD hS)
        refine goVF hB (run_v C mf_Mo_once qm_Mo_331 (c_Mo_once l g mo a o now dr pa sa iS bu tq rT wT sK sA sB sE oq bS bE bL rp (1 : Int32) hs38) rfl rfl ⟨Nat.le_of_ble_eq_true rfl, Nat.le_of_ble_eq_true rfl⟩ ⟨Nat.le_of_ble_eq_true rfl, Nat.le_of_ble_eq_true rfl⟩ hB rfl rfl hl rfl rfl (Nat.le_of_ble_eq_true rfl) d_Mo_readStatement_46) (fun _ => rfl) (fun y39 ey39 H locs hP hD hS => ?_)
        have hP : va_P g.1 vwCl (wMo g mo a y39.1 now dr pa sa iS bu y39.2 rT wT sK sA sB sE oq bS bE bL rp) H := hP
        have hD : va_D (inW (wMo g mo a o now dr pa sa iS bu tq rT wT sK sA sB sE oq bS bE bL rp)) (wMo g mo a y39.1 now dr pa sa iS bu y39.2 rT wT sK sA sB sE oq bS bE bL rp) := hD
        have hz := lett_z hz ey39
        have hok := lett_o hok ey39
        refine lv_aload_n hx hb d_Mo_readStatement_49 rfl (lv_at hl 0 rfl) ?_
        refine gf C hP 0 1 fkMo rfl (by decide) rfl qf_Mo_13 (gMo_1 _ _) d_Mo_readStatement_50 ?_
        refine lv_bipush (v := 12) hx hb d_Mo_readStatement_53 (by decide) ?_
        refine lv_aload_n hx hb d_Mo_readStatement_55 rfl (lv_at hl 0 rfl) ?_
        refine lv_ldc2 hx hb hown (hts _ qk_Mo_102) d_Mo_readStatement_56 ?_
        refine lv_ldc2 hx hb hown (hts _ qk_Mo_368) d_Mo_readStatement_59 ?_
        have hs40 := hok.1
        have hok := hok.2
        have hB : SubW g (inW (wMo g mo a o now dr pa sa iS bu tq rT wT sK sA sB sE oq bS bE bL rp)) s (wMo g mo a y39.1 now dr pa sa iS bu y39.2 rT wT sK sA sB sE oq bS bE bL rp) _ (List.range _) _ _ := (subF hP hD hS)
        refine goLF hB (run_v C mf_Mo_number qm_Mo_334 (c_Mo_number l g mo a y39.1 now dr pa sa iS bu y39.2 rT wT sK sA sB sE oq bS bE bL rp (1000 : Int64) (100000000 : Int64) hs40) rfl rfl ⟨Nat.le_of_ble_eq_true rfl, Nat.le_of_ble_eq_true rfl⟩ ⟨Nat.le_of_ble_eq_true rfl, Nat.le_of_ble_eq_true rfl⟩ hB rfl rfl hl rfl rfl (Nat.le_of_ble_eq_true rfl) d_Mo_readStatement_62) (fun _ => rfl) (fun y41 ey41 H locs hP hD hS => ?_)
        have hP : va_P g.1 vwCl (wMo g mo a y41.2 now dr pa sa iS bu y39.2 rT wT sK sA sB sE oq bS bE bL rp) H := hP
        have hD : va_D (inW (wMo g mo a o now dr pa sa iS bu tq rT wT sK sA sB sE oq bS bE bL rp)) (wMo g mo a y41.2 now dr pa sa iS bu y39.2 rT wT sK sA sB sE oq bS bE bL rp) := hD
        have hz := lett_z hz ey41
        refine stL C hP hD hS 2 rfl vi_12_215 cn_12 d_Mo_readStatement_65 (fun dr_42 edr_42 H locs hP hD hS => ?_)
        have hP : va_P g.1 vwCl (wMo g mo a y41.2 now dr_42 pa sa iS bu y39.2 rT wT sK sA sB sE oq bS bE bL rp) H := hP
        have hD : va_D (inW (wMo g mo a o now dr pa sa iS bu tq rT wT sK sA sB sE oq bS bE bL rp)) (wMo g mo a y41.2 now dr_42 pa sa iS bu y39.2 rT wT sK sA sB sE oq bS bE bL rp) := hD
        have hz := lett_z hz edr_42
        refine lv_goto (tgt := 169) hx hb d_Mo_readStatement_66 (by decide) ?_
        exact endV C hz hP hS d_Mo_readStatement_169
    · have hz := hz.trans (if_neg c6)
      have hok := hok.2 c6
      refine lv_aload_n hx hb d_Mo_readStatement_27 rfl (lv_at hl 0 rfl) ?_
      have hs43 := hok.1
      have hok := hok.2
      have hB : SubW g (inW (wMo g mo a o now dr pa sa iS bu tq rT wT sK sA sB sE oq bS bE bL rp)) s (wMo g mo a o now dr pa sa iS bu tq rT wT sK sA sB sE oq bS bE bL rp) _ (List.range _) _ _ := (subF hP hD hS)
      refine goVF hB (run_v C mf_Mo_readRatio qm_Mo_365 (c_Mo_readRatio l g mo a o now dr pa sa iS bu tq rT wT sK sA sB sE oq bS bE bL rp hs43) rfl rfl ⟨Nat.le_of_ble_eq_true rfl, Nat.le_of_ble_eq_true rfl⟩ ⟨Nat.le_of_ble_eq_true rfl, Nat.le_of_ble_eq_true rfl⟩ hB rfl rfl hl rfl rfl (Nat.le_of_ble_eq_true rfl) d_Mo_readStatement_28) (fun _ => rfl) (fun y44 ey44 H locs hP hD hS => ?_)
      have hP : va_P g.1 vwCl (wMo g mo a y44.1 now y44.2.1 pa sa iS bu tq y44.2.2 wT sK sA sB sE oq bS bE bL rp) H := hP
      have hD : va_D (inW (wMo g mo a o now dr pa sa iS bu tq rT wT sK sA sB sE oq bS bE bL rp)) (wMo g mo a y44.1 now y44.2.1 pa sa iS bu tq y44.2.2 wT sK sA sB sE oq bS bE bL rp) := hD
      have hz := lett_z hz ey44
      refine lv_goto (tgt := 169) hx hb d_Mo_readStatement_31 (by decide) ?_
      exact endV C hz hP hS d_Mo_readStatement_169
  · have hz := hz.trans (if_neg c3)
    have hok := hok.2 c3
    refine lv_aload_n hx hb d_Mo_readStatement_10 rfl (lv_at hl 0 rfl) ?_
    have hs45 := hok.1
    have hok := hok.2
    have hB : SubW g (inW (wMo g mo a o now dr pa sa iS bu tq rT wT sK sA sB sE oq bS bE bL rp)) s (wMo g mo a o now dr pa sa iS bu tq rT wT sK sA sB sE oq bS bE bL rp) _ (List.range _) _ _ := (subF hP hD hS)
    refine goVF hB (run_v C mf_Mo_readBox qm_Mo_360 (c_Mo_readBox l g mo a o now dr pa sa iS bu tq rT wT sK sA sB sE oq bS bE bL rp hs45) rfl rfl ⟨Nat.le_of_ble_eq_true rfl, Nat.le_of_ble_eq_true rfl⟩ ⟨Nat.le_of_ble_eq_true rfl, Nat.le_of_ble_eq_true rfl⟩ hB rfl rfl hl rfl rfl (Nat.le_of_ble_eq_true rfl) d_Mo_readStatement_11) (fun _ => rfl) (fun y46 ey46 H locs hP hD hS => ?_)
    have hP : va_P g.1 vwCl (wMo g mo a y46.1 now y46.2.1 pa sa iS bu y46.2.2 rT wT sK sA sB sE oq bS bE bL rp) H := hP
    have hD : va_D (inW (wMo g mo a o now dr pa sa iS bu tq rT wT sK sA sB sE oq bS bE bL rp)) (wMo g mo a y46.1 now y46.2.1 pa sa iS bu y46.2.2 rT wT sK sA sB sE oq bS bE bL rp) := hD
    have hz := lett_z hz ey46
    refine lv_goto (tgt := 169) hx hb d_Mo_readStatement_14 (by decide) ?_
    exact endV C hz hP hS d_Mo_readStatement_169
abbrev rm_Mo_forgetTold : Room := { frames := 0, cells := 0, slots := 0, locals := 0 }
def HL_Mo_forgetTold_2 (p : Program) (l : Launch) (e : Env) (s : State) (m : MethodId) (args : Array Value) (below : List Frame) (meth : Method) (c : Code) (g : GX) (mo : Nat) (a : Nat → Nat) (ws0 : va_W) (o : IV) (now : LV) (dr : LV) (pa : LV) (sa : LV) (iS : IV) (bu : IV) (rT : IV) (wT : IV) (sK : IV) (sA : IV) (sB : IV) (sE : IV) (oq : IV) (bS : IV) (bE : IV) (bL : IV) (rp : IV) (sp : Int32 → IV → (IV × IV × IV)) (ok : Int32 → IV → Prop) : Prop := ∀ (x1p2 : Int32) (tqp2 : IV), ok x1p2 tqp2 → ∀ z : (IV × IV × IV), z = sp x1p2 tqp2 → ∀ (H : Heap) (locs : List Loc) (ls : Array Slot), va_P g.1 vwCl (wMo g mo a o now dr pa sa iS bu tqp2 rT wT sK sA sB sE oq bS bE bL rp) H → va_D (inW ws0) (wMo g mo a o now dr pa sa iS bu tqp2 rT wT sK sA sB sE oq bS bE bL rp) → va_S (inW ws0) s.heap H locs → lv_has ls 2 [(0, .ref mo), (1, .int x1p2)] → W p l e rm_Mo_forgetTold s m args below meth c H locs 0 0 (MQ below (CV g ws0 (fun u : IV × IV × IV => wMo g mo a o now dr pa sa iS bu u.1 u.2.1 u.2.2 sK sA sB sE oq bS bE bL rp) z) args s 0 0 (inW ws0)) (F0 m 2 ls [])
def HL_Mo_forgetTold_21 (p : Program) (l : Launch) (e : Env) (s : State) (m : MethodId) (args : Array Value) (below : List Frame) (meth : Method) (c : Code) (g : GX) (mo : Nat) (a : Nat → Nat) (ws0 : va_W) (o : IV) (now : LV) (dr : LV) (pa : LV) (sa : LV) (iS : IV) (bu : IV) (tqp2 : IV) (rT : IV) (wT : IV) (sK : IV) (sA : IV) (sB : IV) (sE : IV) (oq : IV) (bS : IV) (bE : IV) (bL : IV) (rp : IV) (sp : (IV × IV × IV)) (ok : Prop) : Prop := ∀ (_ : Unit), ok → ∀ z : (IV × IV × IV), z = sp → ∀ (H : Heap) (locs : List Loc) (ls : Array Slot), va_P g.1 vwCl (wMo g mo a o now dr pa sa iS bu tqp2 rT wT sK sA sB sE oq bS bE bL rp) H → va_D (inW ws0) (wMo g mo a o now dr pa sa iS bu tqp2 rT wT sK sA sB sE oq bS bE bL rp) → va_S (inW ws0) s.heap H locs → lv_has ls 2 [(0, .ref mo)] → W p l e rm_Mo_forgetTold s m args below meth c H locs 0 0 (MQ below (CV g ws0 (fun u : IV × IV × IV => wMo g mo a o now dr pa sa iS bu u.1 u.2.1 u.2.2 sK sA sB sE oq bS bE bL rp) z) args s 0 0 (inW ws0)) (F0 m 21 ls [])
def HL_Mo_forgetTold_23 (p : Program) (l : Launch) (e : Env) (s : State) (m : MethodId) (args : Array Value) (below : List Frame) (meth : Method) (c : Code) (g : GX) (mo : Nat) (a : Nat → Nat) (ws0 : va_W) (o : IV) (now : LV) (dr : LV) (pa : LV) (sa : LV) (iS : IV) (bu : IV) (tqp2 : IV) (wT : IV) (sK : IV) (sA : IV) (sB : IV) (sE : IV) (oq : IV) (bS : IV) (bE : IV) (bL : IV) (rp : IV) (sp : Int32 → IV → (IV × IV × IV)) (ok : Int32 → IV → Prop) : Prop := ∀ (x1p23 : Int32) (rTp23 : IV), ok x1p23 rTp23 → ∀ z : (IV × IV × IV), z = sp x1p23 rTp23 → ∀ (H : Heap) (locs : List Loc) (ls : Array Slot), va_P g.1 vwCl (wMo g mo a o now dr pa sa iS bu tqp2 rTp23 wT sK sA sB sE oq bS bE bL rp) H → va_D (inW ws0) (wMo g mo a o now dr pa sa iS bu tqp2 rTp23 wT sK sA sB sE oq bS bE bL rp) → va_S (inW ws0) s.heap H locs → lv_has ls 2 [(0, .ref mo), (1, .int x1p23)] → W p l e rm_Mo_forgetTold s m args below meth c H locs 0 0 (MQ below (CV g ws0 (fun u : IV × IV × IV => wMo g mo a o now dr pa sa iS bu u.1 u.2.1 u.2.2 sK sA sB sE oq bS bE bL rp) z) args s 0 0 (inW ws0)) (F0 m 23 ls [])
def HL_Mo_forgetTold_41 (p : Program) (l : Launch) (e : Env) (s : State) (m : MethodId) (args : Array Value) (below : List Frame) (meth : Method) (c : Code) (g : GX) (mo : Nat) (a : Nat → Nat) (ws0 : va_W) (o : IV) (now : LV) (dr : LV) (pa : LV) (sa : LV) (iS : IV) (bu : IV) (tqp2 : IV) (rTp23 : IV) (wT : IV) (sK : IV) (sA : IV) (sB : IV) (sE : IV) (oq : IV) (bS : IV) (bE : IV) (bL : IV) (rp : IV) (sp : (IV × IV × IV)) (ok : Prop) : Prop := ∀ (_ : Unit), ok → ∀ z : (IV × IV × IV), z = sp → ∀ (H : Heap) (locs : List Loc) (ls : Array Slot), va_P g.1 vwCl (wMo g mo a o now dr pa sa iS bu tqp2 rTp23 wT sK sA sB sE oq bS bE bL rp) H → va_D (inW ws0) (wMo g mo a o now dr pa sa iS bu tqp2 rTp23 wT sK sA sB sE oq bS bE bL rp) → va_S (inW ws0) s.heap H locs → lv_has ls 2 [(0, .ref mo)] → W p l e rm_Mo_forgetTold s m args below meth c H locs 0 0 (MQ below (CV g ws0 (fun u : IV × IV × IV => wMo g mo a o now dr pa sa iS bu u.1 u.2.1 u.2.2 sK sA sB sE oq bS bE bL rp) z) args s 0 0 (inW ws0)) (F0 m 41 ls [])
noncomputable def sp_Mo_forgetTold_41 (wT : IV) (tqp2 : IV) (rTp23 : IV)   : IV × IV × IV := lett (upd wT 0 (vp_nar .boolean (0 : Int32))) fun (wT_9 : IV) => lett (upd wT_9 1 (vp_nar .boolean (0 : Int32))) fun (wT_10 : IV) => (tqp2, rTp23, wT_10)
def ok_Mo_forgetTold_41 (wT : IV) (tqp2 : IV) (rTp23 : IV)    : Prop := True
set_option maxRecDepth 100000 in
set_option maxHeartbeats 4000000 in
theorem k_Mo_forgetTold_41 {p : Program} {l : Launch} {e : Env} {s : State} {m : MethodId} {args : Array Value} {below : List Frame} {meth : Method} {c : Code} {g : GX} {mo : Nat} {a : Nat → Nat} {ws0 : va_W} {o : IV} {now : LV} {dr : LV} {pa : LV} {sa : LV} {iS : IV} {bu : IV} {tqp2 : IV} {rTp23 : IV} {wT : IV} {sK : IV} {sA : IV} {sB : IV} {sE : IV} {oq : IV} {bS : IV} {bE : IV} {bL : IV} {rp : IV}  (C : Cx p s m args meth c (inW ws0) g "DecadeBridgeModel" b_Mo_forgetTold none 2)  : HL_Mo_forgetTold_41 p l e s m args below meth c g mo a ws0 o now dr pa sa iS bu tqp2 rTp23 wT sK sA sB sE oq bS bE bL rp (sp_Mo_forgetTold_41 wT tqp2 rTp23 ) (ok_Mo_forgetTold_41 wT tqp2 rTp23  ) := by
  intro _ hok z hz H locs ls hP hD hS hl
  obtain ⟨hx, hb, hr, hml, hown, hlk, hts, hK, hZo, hZ⟩ := id C
  unfold sp_Mo_forgetTold_41 at hz
  refine lv_aload_n hx hb d_Mo_forgetTold_41 rfl (lv_at hl 0 rfl) ?_
  refine gf C hP 0 16 fkMo rfl (by decide) rfl qf_Mo_40 (gMo_16 _ _) d_Mo_forgetTold_42 ?_
  refine lv_iconst (v := 0) hx hb d_Mo_forgetTold_45 (by decide) ?_
  refine lv_iconst (v := 0) hx hb d_Mo_forgetTold_46 (by decide) ?_
  refine stZ C hP hD hS 9 rfl vi_0_2 cn_0 d_Mo_forgetTold_47 (fun wT_9 ewT_9 H locs hP hD hS => ?_)
  have hP : va_P g.1 vwCl (wMo g mo a o now dr pa sa iS bu tqp2 rTp23 wT_9 sK sA sB sE oq bS bE bL rp) H := hP
  have hD : va_D (inW ws0) (wMo g mo a o now dr pa sa iS bu tqp2 rTp23 wT_9 sK sA sB sE oq bS bE bL rp) := hD
  have hz := lett_z hz ewT_9
  refine lv_aload_n hx hb d_Mo_forgetTold_48 rfl (lv_at hl 0 rfl) ?_
  refine gf C hP 0 16 fkMo rfl (by decide) rfl qf_Mo_40 (gMo_16 _ _) d_Mo_forgetTold_49 ?_
  refine lv_iconst (v := 1) hx hb d_Mo_forgetTold_52 (by decide) ?_
  refine lv_iconst (v := 0) hx hb d_Mo_forgetTold_53 (by decide) ?_
  refine stZ C hP hD hS 9 rfl vi_1_2 cn_1 d_Mo_forgetTold_54 (fun wT_10 ewT_10 H locs hP hD hS => ?_)
  have hP : va_P g.1 vwCl (wMo g mo a o now dr pa sa iS bu tqp2 rTp23 wT_10 sK sA sB sE oq bS bE bL rp) H := hP
  have hD : va_D (inW ws0) (wMo g mo a o now dr pa sa iS bu tqp2 rTp23 wT_10 sK sA sB sE oq bS bE bL rp) := hD
  have hz := lett_z hz ewT_10
  exact endV C hz hP hS d_Mo_forgetTold_55
noncomputable def bd_Mo_forgetTold_23 (wT : IV) (tqp2 : IV) (r23 : Int32 → IV → (IV × IV × IV)) (x1p23 : Int32) (rTp23 : IV) : IV × IV × IV := if (5 : Int32) ≤ x1p23 then (sp_Mo_forgetTold_41 wT tqp2 rTp23) else (lett (upd rTp23 x1p23.toNatClampNeg (vp_nar .boolean (0 : Int32))) fun (rT_7 : IV) => lett (x1p23 + (1 : Int32)) fun (v8 : Int32) => r23 v8 rT_7)
def okb_Mo_forgetTold_23 (wT : IV) (tqp2 : IV) (r23 : Int32 → IV → (IV × IV × IV)) (q23 : Int32 → IV → Prop) (x1p23 : Int32) (rTp23 : IV) : Prop := (((5 : Int32) ≤ x1p23 → True) ∧ (¬ ((5 : Int32) ≤ x1p23) → (vp_in x1p23 5) ∧ lett (upd rTp23 x1p23.toNatClampNeg (vp_nar .boolean (0 : Int32))) fun (rT_7 : IV) => lett (x1p23 + (1 : Int32)) fun (v8 : Int32) => q23 v8 rT_7))
noncomputable def sp_Mo_forgetTold_23 (wT : IV) (tqp2 : IV)  : Nat → Int32 → IV → (IV × IV × IV)
  | 0 => fun _ _ => default
  | f + 1 => bd_Mo_forgetTold_23 wT tqp2  (sp_Mo_forgetTold_23 wT tqp2  f)
def ok_Mo_forgetTold_23 (wT : IV) (tqp2 : IV)   : Nat → Int32 → IV → Prop
  | 0 => fun _ _ => False
  | f + 1 => okb_Mo_forgetTold_23 wT tqp2  (sp_Mo_forgetTold_23 wT tqp2  f)  (ok_Mo_forgetTold_23 wT tqp2   f)
set_option maxRecDepth 100000 in
set_option maxHeartbeats 4000000 in
theorem kb_Mo_forgetTold_23 {p : Program} {l : Launch} {e : Env} {s : State} {m : MethodId} {args : Array Value} {below : List Frame} {meth : Method} {c : Code} {g : GX} {mo : Nat} {a : Nat → Nat} {ws0 : va_W} {o : IV} {now : LV} {dr : LV} {pa : LV} {sa : LV} {iS : IV} {bu : IV} {tqp2 : IV} {wT : IV} {sK : IV} {sA : IV} {sB : IV} {sE : IV} {oq : IV} {bS : IV} {bE : IV} {bL : IV} {rp : IV}  (C : Cx p s m args meth c (inW ws0) g "DecadeBridgeModel" b_Mo_forgetTold none 2) {r23 : Int32 → IV → (IV × IV × IV)} {q23 : Int32 → IV → Prop}  (ih23 : HL_Mo_forgetTold_23 p l e s m args below meth c g mo a ws0 o now dr pa sa iS bu tqp2 wT sK sA sB sE oq bS bE bL rp r23 q23) : HL_Mo_forgetTold_23 p l e s m args below meth c g mo a ws0 o now dr pa sa iS bu tqp2 wT sK sA sB sE oq bS bE bL rp (bd_Mo_forgetTold_23 wT tqp2  r23) (okb_Mo_forgetTold_23 wT tqp2  r23  q23) := by
  intro x1p23 rTp23 hok z hz H locs ls hP hD hS hl
  obtain ⟨hx, hb, hr, hml, hown, hlk, hts, hK, hZo, hZ⟩ := id C
  unfold bd_Mo_forgetTold_23 at hz
  unfold okb_Mo_forgetTold_23 at hok
  refine lv_iload_n hx hb d_Mo_forgetTold_23 rfl (lv_at hl 1 rfl) ?_
  refine lv_iconst (v := 5) hx hb d_Mo_forgetTold_24 (by decide) ?_
  refine lv_icmp_ge (tgt := 41) hx hb d_Mo_forgetTold_25 (by decide) (fun c5 => ?_) (fun c5 => ?_)
  · have hz := hz.trans (if_pos c5)
    exact k_Mo_forgetTold_41 C () trivial _ hz _ _ ls hP hD hS (lv_sub hl [0] rfl)
  · have hz := hz.trans (if_neg c5)
    have hok := hok.2 c5
    refine lv_aload_n hx hb d_Mo_forgetTold_28 rfl (lv_at hl 0 rfl) ?_
    refine gf C hP 0 15 fkMo rfl (by decide) rfl qf_Mo_37 (gMo_15 _ _) d_Mo_forgetTold_29 ?_
    refine lv_iload_n hx hb d_Mo_forgetTold_32 rfl (lv_at hl 1 rfl) ?_
    refine lv_iconst (v := 0) hx hb d_Mo_forgetTold_33 (by decide) ?_
    have hs6 := hok.1
    have hok := hok.2
    refine stZ C hP hD hS 8 rfl hs6 rfl d_Mo_forgetTold_34 (fun rT_7 erT_7 H locs hP hD hS => ?_)
    have hP : va_P g.1 vwCl (wMo g mo a o now dr pa sa iS bu tqp2 rT_7 wT sK sA sB sE oq bS bE bL rp) H := hP
    have hD : va_D (inW ws0) (wMo g mo a o now dr pa sa iS bu tqp2 rT_7 wT sK sA sB sE oq bS bE bL rp) := hD
    have hz := lett_z hz erT_7
    have hok := lett_o hok erT_7
    obtain ⟨v8, ev8⟩ : ∃ y : Int32, y = x1p23 + (1 : Int32) := ⟨_, rfl⟩
    have hz := lett_z hz ev8
    have hok := lett_o hok ev8
    refine lv_iinc (v := v8) (lv' := [(1, .int v8), (0, .ref mo)]) hx hb d_Mo_forgetTold_35 hl (k := 1) rfl (by rw [ev8]; rfl) (by decide) rfl (fun ls hl => ?_)
    refine lv_goto (tgt := 23) hx hb d_Mo_forgetTold_38 (by decide) ?_
    exact ih23 v8 rT_7 hok _ hz _ _ ls hP hD hS (lv_sub hl [1, 0] rfl)
theorem k_Mo_forgetTold_23 {p : Program} {l : Launch} {e : Env} {s : State} {m : MethodId} {args : Array Value} {below : List Frame} {meth : Method} {c : Code} {g : GX} {mo : Nat} {a : Nat → Nat} {ws0 : va_W} {o : IV} {now : LV} {dr : LV} {pa : LV} {sa : LV} {iS : IV} {bu : IV} {tqp2 : IV} {wT : IV} {sK : IV} {sA : IV} {sB : IV} {sE : IV} {oq : IV} {bS : IV} {bE : IV} {bL : IV} {rp : IV}  (C : Cx p s m args meth c (inW ws0) g "DecadeBridgeModel" b_Mo_forgetTold none 2) (f : Nat)  : HL_Mo_forgetTold_23 p l e s m args below meth c g mo a ws0 o now dr pa sa iS bu tqp2 wT sK sA sB sE oq bS bE bL rp (sp_Mo_forgetTold_23 wT tqp2  f) (ok_Mo_forgetTold_23 wT tqp2   f) := by
  induction f with
  | zero => intro x1p23 rTp23 hok; exact False.elim hok
  | succ f ih => exact kb_Mo_forgetTold_23 C  ih
noncomputable def sp_Mo_forgetTold_21 (wT : IV) (tqp2 : IV) (rT : IV)   : IV × IV × IV := sp_Mo_forgetTold_23 wT tqp2 big (0 : Int32) rT
def ok_Mo_forgetTold_21 (wT : IV) (tqp2 : IV) (rT : IV)    : Prop := ok_Mo_forgetTold_23 wT tqp2 big (0 : Int32) rT
set_option maxRecDepth 100000 in
set_option maxHeartbeats 4000000 in
theorem k_Mo_forgetTold_21 {p : Program} {l : Launch} {e : Env} {s : State} {m : MethodId} {args : Array Value} {below : List Frame} {meth : Method} {c : Code} {g : GX} {mo : Nat} {a : Nat → Nat} {ws0 : va_W} {o : IV} {now : LV} {dr : LV} {pa : LV} {sa : LV} {iS : IV} {bu : IV} {tqp2 : IV} {rT : IV} {wT : IV} {sK : IV} {sA : IV} {sB : IV} {sE : IV} {oq : IV} {bS : IV} {bE : IV} {bL : IV} {rp : IV}  (C : Cx p s m args meth c (inW ws0) g "DecadeBridgeModel" b_Mo_forgetTold none 2)  : HL_Mo_forgetTold_21 p l e s m args below meth c g mo a ws0 o now dr pa sa iS bu tqp2 rT wT sK sA sB sE oq bS bE bL rp (sp_Mo_forgetTold_21 wT tqp2 rT ) (ok_Mo_forgetTold_21 wT tqp2 rT  ) := by
  intro _ hok z hz H locs ls hP hD hS hl
  obtain ⟨hx, hb, hr, hml, hown, hlk, hts, hK, hZo, hZ⟩ := id C
  unfold sp_Mo_forgetTold_21 at hz
  unfold ok_Mo_forgetTold_21 at hok
  refine lv_iconst (v := 0) hx hb d_Mo_forgetTold_21 (by decide) ?_
  refine lv_istore_n (lv' := [(1, .int (0 : Int32)), (0, .ref mo)]) hx hb d_Mo_forgetTold_22 rfl hl (by decide) rfl (fun ls hl => ?_)
  exact k_Mo_forgetTold_23 C big (0 : Int32) rT hok _ hz _ _ ls hP hD hS (lv_sub hl [1, 0] rfl)
noncomputable def bd_Mo_forgetTold_2 (wT : IV) (rT : IV) (r2 : Int32 → IV → (IV × IV × IV)) (x1p2 : Int32) (tqp2 : IV) : IV × IV × IV := if (6 : Int32) ≤ x1p2 then (sp_Mo_forgetTold_21 wT tqp2 rT) else (lett (upd tqp2 x1p2.toNatClampNeg (vp_nar .boolean (0 : Int32))) fun (tq_3 : IV) => lett (x1p2 + (1 : Int32)) fun (v4 : Int32) => r2 v4 tq_3)
def okb_Mo_forgetTold_2 (wT : IV) (rT : IV) (r2 : Int32 → IV → (IV × IV × IV)) (q2 : Int32 → IV → Prop) (x1p2 : Int32) (tqp2 : IV) : Prop := (((6 : Int32) ≤ x1p2 → ok_Mo_forgetTold_21 wT tqp2 rT) ∧ (¬ ((6 : Int32) ≤ x1p2) → (vp_in x1p2 6) ∧ lett (upd tqp2 x1p2.toNatClampNeg (vp_nar .boolean (0 : Int32))) fun (tq_3 : IV) => lett (x1p2 + (1 : Int32)) fun (v4 : Int32) => q2 v4 tq_3))
noncomputable def sp_Mo_forgetTold_2 (wT : IV) (rT : IV)  : Nat → Int32 → IV → (IV × IV × IV)
  | 0 => fun _ _ => default
  | f + 1 => bd_Mo_forgetTold_2 wT rT  (sp_Mo_forgetTold_2 wT rT  f)
def ok_Mo_forgetTold_2 (wT : IV) (rT : IV)   : Nat → Int32 → IV → Prop
  | 0 => fun _ _ => False
  | f + 1 => okb_Mo_forgetTold_2 wT rT  (sp_Mo_forgetTold_2 wT rT  f)  (ok_Mo_forgetTold_2 wT rT   f)
set_option maxRecDepth 100000 in
set_option maxHeartbeats 4000000 in
theorem kb_Mo_forgetTold_2 {p : Program} {l : Launch} {e : Env} {s : State} {m : MethodId} {args : Array Value} {below : List Frame} {meth : Method} {c : Code} {g : GX} {mo : Nat} {a : Nat → Nat} {ws0 : va_W} {o : IV} {now : LV} {dr : LV} {pa : LV} {sa : LV} {iS : IV} {bu : IV} {rT : IV} {wT : IV} {sK : IV} {sA : IV} {sB : IV} {sE : IV} {oq : IV} {bS : IV} {bE : IV} {bL : IV} {rp : IV}  (C : Cx p s m args meth c (inW ws0) g "DecadeBridgeModel" b_Mo_forgetTold none 2) {r2 : Int32 → IV → (IV × IV × IV)} {q2 : Int32 → IV → Prop}  (ih2 : HL_Mo_forgetTold_2 p l e s m args below meth c g mo a ws0 o now dr pa sa iS bu rT wT sK sA sB sE oq bS bE bL rp r2 q2) : HL_Mo_forgetTold_2 p l e s m args below meth c g mo a ws0 o now dr pa sa iS bu rT wT sK sA sB sE oq bS bE bL rp (bd_Mo_forgetTold_2 wT rT  r2) (okb_Mo_forgetTold_2 wT rT  r2  q2) := by
  intro x1p2 tqp2 hok z hz H locs ls hP hD hS hl
  obtain ⟨hx, hb, hr, hml, hown, hlk, hts, hK, hZo, hZ⟩ := id C
  unfold bd_Mo_forgetTold_2 at hz
  unfold okb_Mo_forgetTold_2 at hok
  refine lv_iload_n hx hb d_Mo_forgetTold_2 rfl (lv_at hl 1 rfl) ?_
  refine lv_bipush (v := 6) hx hb d_Mo_forgetTold_3 (by decide) ?_
  refine lv_icmp_ge (tgt := 21) hx hb d_Mo_forgetTold_5 (by decide) (fun c1 => ?_) (fun c1 => ?_)
  · have hz := hz.trans (if_pos c1)
    have hok := hok.1 c1
    exact k_Mo_forgetTold_21 C () hok _ hz _ _ ls hP hD hS (lv_sub hl [0] rfl)
  · have hz := hz.trans (if_neg c1)
    have hok := hok.2 c1
    refine lv_aload_n hx hb d_Mo_forgetTold_8 rfl (lv_at hl 0 rfl) ?_
    refine gf C hP 0 14 fkMo rfl (by decide) rfl qf_Mo_34 (gMo_14 _ _) d_Mo_forgetTold_9 ?_
    refine lv_iload_n hx hb d_Mo_forgetTold_12 rfl (lv_at hl 1 rfl) ?_
    refine lv_iconst (v := 0) hx hb d_Mo_forgetTold_13 (by decide) ?_
    have hs2 := hok.1
    have hok := hok.2
    refine stZ C hP hD hS 7 rfl hs2 rfl d_Mo_forgetTold_14 (fun tq_3 etq_3 H locs hP hD hS => ?_)
    have hP : va_P g.1 vwCl (wMo g mo a o now dr pa sa iS bu tq_3 rT wT sK sA sB sE oq bS bE bL rp) H := hP
    have hD : va_D (inW ws0) (wMo g mo a o now dr pa sa iS bu tq_3 rT wT sK sA sB sE oq bS bE bL rp) := hD
    have hz := lett_z hz etq_3
    have hok := lett_o hok etq_3
    obtain ⟨v4, ev4⟩ : ∃ y : Int32, y = x1p2 + (1 : Int32) := ⟨_, rfl⟩
    have hz := lett_z hz ev4
    have hok := lett_o hok ev4
    refine lv_iinc (v := v4) (lv' := [(1, .int v4), (0, .ref mo)]) hx hb d_Mo_forgetTold_15 hl (k := 1) rfl (by rw [ev4]; rfl) (by decide) rfl (fun ls hl => ?_)
    refine lv_goto (tgt := 2) hx hb d_Mo_forgetTold_18 (by decide) ?_
    exact ih2 v4 tq_3 hok _ hz _ _ ls hP hD hS (lv_sub hl [1, 0] rfl)
theorem k_Mo_forgetTold_2 {p : Program} {l : Launch} {e : Env} {s : State} {m : MethodId} {args : Array Value} {below : List Frame} {meth : Method} {c : Code} {g : GX} {mo : Nat} {a : Nat → Nat} {ws0 : va_W} {o : IV} {now : LV} {dr : LV} {pa : LV} {sa : LV} {iS : IV} {bu : IV} {rT : IV} {wT : IV} {sK : IV} {sA : IV} {sB : IV} {sE : IV} {oq : IV} {bS : IV} {bE : IV} {bL : IV} {rp : IV}  (C : Cx p s m args meth c (inW ws0) g "DecadeBridgeModel" b_Mo_forgetTold none 2) (f : Nat)  : HL_Mo_forgetTold_2 p l e s m args below meth c g mo a ws0 o now dr pa sa iS bu rT wT sK sA sB sE oq bS bE bL rp (sp_Mo_forgetTold_2 wT rT  f) (ok_Mo_forgetTold_2 wT rT   f) := by
  induction f with
  | zero => intro x1p2 tqp2 hok; exact False.elim hok
  | succ f ih => exact kb_Mo_forgetTold_2 C  ih
noncomputable def sp_Mo_forgetTold (tq : IV) (rT : IV) (wT : IV) : IV × IV × IV := sp_Mo_forgetTold_2 wT rT big (0 : Int32) tq
def ok_Mo_forgetTold (tq : IV) (rT : IV) (wT : IV) : Prop := ok_Mo_forgetTold_2 wT rT big (0 : Int32) tq
set_option maxRecDepth 100000 in
set_option maxHeartbeats 4000000 in
theorem c_Mo_forgetTold (l : Launch) (g : GX) (mo : Nat) (a : Nat → Nat) (o : IV) (now : LV) (dr : LV) (pa : LV) (sa : LV) (iS : IV) (bu : IV) (tq : IV) (rT : IV) (wT : IV) (sK : IV) (sA : IV) (sB : IV) (sE : IV) (oq : IV) (bS : IV) (bE : IV) (bL : IV) (rp : IV)  (hok : ok_Mo_forgetTold tq rT wT) : Met l y_Mo_forgetTold (wsY y_Mo_forgetTold b_Mo_forgetTold 2 none) rm_Mo_forgetTold (CP g [.ref mo] (wMo g mo a o now dr pa sa iS bu tq rT wT sK sA sB sE oq bS bE bL rp)) (CV g (wMo g mo a o now dr pa sa iS bu tq rT wT sK sA sB sE oq bS bE bL rp) (fun u : IV × IV × IV => wMo g mo a o now dr pa sa iS bu u.1 u.2.1 u.2.2 sK sA sB sE oq bS bE bL rp) (sp_Mo_forgetTold tq rT wT)) 0 0 (inW (wMo g mo a o now dr pa sa iS bu tq rT wT sK sA sB sE oq bS bE bL rp)) := by
  refine Met.ofW (cc := b_Mo_forgetTold) (maxL := 2) (ret := none) pn_Mo rfl ?_
  intro p e s m args below meth c s₁ B hml hv
  obtain ⟨rfl, C, hP, hD, hS⟩ := enter "DecadeBridgeModel" rfl B hml hv
  obtain ⟨hx, hb, hr, hml, hown, hlk, hts, hK, hZo, hZ⟩ := id C
  refine entryW (lv := [(0, .ref mo)]) rfl (Nat.le_of_ble_eq_true rfl) (fun ls hl => ?_)
  obtain ⟨z, hz⟩ : ∃ z, z = sp_Mo_forgetTold tq rT wT := ⟨_, rfl⟩
  rw [← hz]
  unfold sp_Mo_forgetTold at hz
  unfold ok_Mo_forgetTold at hok
  refine lv_iconst (v := 0) hx hb d_Mo_forgetTold_0 (by decide) ?_
  refine lv_istore_n (lv' := [(1, .int (0 : Int32)), (0, .ref mo)]) hx hb d_Mo_forgetTold_1 rfl hl (by decide) rfl (fun ls hl => ?_)
  exact k_Mo_forgetTold_2 C big (0 : Int32) tq hok _ hz _ _ ls hP hD hS (lv_sub hl [1, 0] rfl)
abbrev rm_Mo_load : Room := { frames := 7, cells := 0, slots := 0, locals := 150 }
def HL_Mo_load_21 (p : Program) (l : Launch) (e : Env) (s : State) (m : MethodId) (args : Array Value) (below : List Frame) (meth : Method) (c : Code) (g : GX) (mo : Nat) (a : Nat → Nat) (ws0 : va_W) (now : LV) (pa : LV) (sa : LV) (iS : IV) (bu : IV) (sK : IV) (sA : IV) (sB : IV) (sE : IV) (oq : IV) (bS : IV) (bE : IV) (bL : IV) (rp : IV) (sp : IV → LV → IV → IV → IV → (Int32 × IV × LV × LV × IV × IV × IV × IV)) (ok : IV → LV → IV → IV → IV → Prop) : Prop := ∀ (op21 : IV) (drp21 : LV) (tqp21 : IV) (rTp21 : IV) (wTp21 : IV), ok op21 drp21 tqp21 rTp21 wTp21 → ∀ z : (Int32 × IV × LV × LV × IV × IV × IV × IV), z = sp op21 drp21 tqp21 rTp21 wTp21 → ∀ (H : Heap) (locs : List Loc) (ls : Array Slot), va_P g.1 vwCl (wMo g mo a op21 now drp21 pa sa iS bu tqp21 rTp21 wTp21 sK sA sB sE oq bS bE bL rp) H → va_D (inW ws0) (wMo g mo a op21 now drp21 pa sa iS bu tqp21 rTp21 wTp21 sK sA sB sE oq bS bE bL rp) → va_S (inW ws0) s.heap H locs → lv_has ls 1 [(0, .ref mo)] → W p l e rm_Mo_load s m args below meth c H locs 0 0 (MQ below (CI g ws0 (fun u : IV × LV × LV × IV × IV × IV × IV => wMo g mo a u.1 u.2.1 u.2.2.1 pa sa u.2.2.2.1 bu u.2.2.2.2.1 u.2.2.2.2.2.1 u.2.2.2.2.2.2 sK sA sB sE oq bS bE bL rp) z) args s 0 0 (inW ws0)) (F0 m 21 ls [])
def HL_Mo_load_41 (p : Program) (l : Launch) (e : Env) (s : State) (m : MethodId) (args : Array Value) (below : List Frame) (meth : Method) (c : Code) (g : GX) (mo : Nat) (a : Nat → Nat) (ws0 : va_W) (op21 : IV) (now : LV) (drp21 : LV) (pa : LV) (sa : LV) (iS : IV) (bu : IV) (tqp21 : IV) (rTp21 : IV) (wTp21 : IV) (sK : IV) (sA : IV) (sB : IV) (sE : IV) (oq : IV) (bS : IV) (bE : IV) (bL : IV) (rp : IV) (sp : (Int32 × IV × LV × LV × IV × IV × IV × IV)) (ok : Prop) : Prop := ∀ (_ : Unit), ok → ∀ z : (Int32 × IV × LV × LV × IV × IV × IV × IV), z = sp → ∀ (H : Heap) (locs : List Loc) (ls : Array Slot), va_P g.1 vwCl (wMo g mo a op21 now drp21 pa sa iS bu tqp21 rTp21 wTp21 sK sA sB sE oq bS bE bL rp) H → va_D (inW ws0) (wMo g mo a op21 now drp21 pa sa iS bu tqp21 rTp21 wTp21 sK sA sB sE oq bS bE bL rp) → va_S (inW ws0) s.heap H locs → lv_has ls 1 [(0, .ref mo)] → W p l e rm_Mo_load s m args below meth c H locs 0 0 (MQ below (CI g ws0 (fun u : IV × LV × LV × IV × IV × IV × IV => wMo g mo a u.1 u.2.1 u.2.2.1 pa sa u.2.2.2.1 bu u.2.2.2.2.1 u.2.2.2.2.2.1 u.2.2.2.2.2.2 sK sA sB sE oq bS bE bL rp) z) args s 0 0 (inW ws0)) (F0 m 41 ls [])
def HL_Mo_load_54 (p : Program) (l : Launch) (e : Env) (s : State) (m : MethodId) (args : Array Value) (below : List Frame) (meth : Method) (c : Code) (g : GX) (mo : Nat) (a : Nat → Nat) (ws0 : va_W) (op21 : IV) (now : LV) (drp21 : LV) (pa : LV) (sa : LV) (iS : IV) (bu : IV) (tqp21 : IV) (rTp21 : IV) (wTp21 : IV) (sK : IV) (sA : IV) (sB : IV) (sE : IV) (oq : IV) (bS : IV) (bE : IV) (bL : IV) (rp : IV) (sp : Int32 → (Int32 × IV × LV × LV × IV × IV × IV × IV)) (ok : Int32 → Prop) : Prop := ∀ (t1p54 : Int32), ok t1p54 → ∀ z : (Int32 × IV × LV × LV × IV × IV × IV × IV), z = sp t1p54 → ∀ (H : Heap) (locs : List Loc) (ls : Array Slot), va_P g.1 vwCl (wMo g mo a op21 now drp21 pa sa iS bu tqp21 rTp21 wTp21 sK sA sB sE oq bS bE bL rp) H → va_D (inW ws0) (wMo g mo a op21 now drp21 pa sa iS bu tqp21 rTp21 wTp21 sK sA sB sE oq bS bE bL rp) → va_S (inW ws0) s.heap H locs → lv_has ls 1 [(0, .ref mo)] → W p l e rm_Mo_load s m args below meth c H locs 0 0 (MQ below (CI g ws0 (fun u : IV × LV × LV × IV × IV × IV × IV => wMo g mo a u.1 u.2.1 u.2.2.1 pa sa u.2.2.2.1 bu u.2.2.2.2.1 u.2.2.2.2.2.1 u.2.2.2.2.2.2 sK sA sB sE oq bS bE bL rp) z) args s 0 0 (inW ws0)) (F0 m 54 ls [.int t1p54, .ref mo])
def HL_Mo_load_81 (p : Program) (l : Launch) (e : Env) (s : State) (m : MethodId) (args : Array Value) (below : List Frame) (meth : Method) (c : Code) (g : GX) (mo : Nat) (a : Nat → Nat) (ws0 : va_W) (y18 : IV) (now : LV) (drp21 : LV) (pa : LV) (sa : LV) (iS : IV) (bu : IV) (tqp21 : IV) (rTp21 : IV) (wTp21 : IV) (sK : IV) (sA : IV) (sB : IV) (sE : IV) (oq : IV) (bS : IV) (bE : IV) (bL : IV) (rp : IV) (sp : (Int32 × IV × LV × LV × IV × IV × IV × IV)) (ok : Prop) : Prop := ∀ (_ : Unit), ok → ∀ z : (Int32 × IV × LV × LV × IV × IV × IV × IV), z = sp → ∀ (H : Heap) (locs : List Loc) (ls : Array Slot), va_P g.1 vwCl (wMo g mo a y18 now drp21 pa sa iS bu tqp21 rTp21 wTp21 sK sA sB sE oq bS bE bL rp) H → va_D (inW ws0) (wMo g mo a y18 now drp21 pa sa iS bu tqp21 rTp21 wTp21 sK sA sB sE oq bS bE bL rp) → va_S (inW ws0) s.heap H locs → lv_has ls 1 [(0, .ref mo)] → W p l e rm_Mo_load s m args below meth c H locs 0 0 (MQ below (CI g ws0 (fun u : IV × LV × LV × IV × IV × IV × IV => wMo g mo a u.1 u.2.1 u.2.2.1 pa sa u.2.2.2.1 bu u.2.2.2.2.1 u.2.2.2.2.2.1 u.2.2.2.2.2.2 sK sA sB sE oq bS bE bL rp) z) args s 0 0 (inW ws0)) (F0 m 81 ls [.ref mo])
def HL_Mo_load_82 (p : Program) (l : Launch) (e : Env) (s : State) (m : MethodId) (args : Array Value) (below : List Frame) (meth : Method) (c : Code) (g : GX) (mo : Nat) (a : Nat → Nat) (ws0 : va_W) (y18 : IV) (now : LV) (drp21 : LV) (pa : LV) (sa : LV) (iS : IV) (bu : IV) (tqp21 : IV) (rTp21 : IV) (wTp21 : IV) (sK : IV) (sA : IV) (sB : IV) (sE : IV) (oq : IV) (bS : IV) (bE : IV) (bL : IV) (rp : IV) (sp : Int32 → (Int32 × IV × LV × LV × IV × IV × IV × IV)) (ok : Int32 → Prop) : Prop := ∀ (t1p82 : Int32), ok t1p82 → ∀ z : (Int32 × IV × LV × LV × IV × IV × IV × IV), z = sp t1p82 → ∀ (H : Heap) (locs : List Loc) (ls : Array Slot), va_P g.1 vwCl (wMo g mo a y18 now drp21 pa sa iS bu tqp21 rTp21 wTp21 sK sA sB sE oq bS bE bL rp) H → va_D (inW ws0) (wMo g mo a y18 now drp21 pa sa iS bu tqp21 rTp21 wTp21 sK sA sB sE oq bS bE bL rp) → va_S (inW ws0) s.heap H locs → lv_has ls 1 [(0, .ref mo)] → W p l e rm_Mo_load s m args below meth c H locs 0 0 (MQ below (CI g ws0 (fun u : IV × LV × LV × IV × IV × IV × IV => wMo g mo a u.1 u.2.1 u.2.2.1 pa sa u.2.2.2.1 bu u.2.2.2.2.1 u.2.2.2.2.2.1 u.2.2.2.2.2.2 sK sA sB sE oq bS bE bL rp) z) args s 0 0 (inW ws0)) (F0 m 82 ls [.int t1p82, .ref mo])
noncomputable def sp_Mo_load_82 (y18 : IV) (now : LV) (drp21 : LV) (iS : IV) (tqp21 : IV) (rTp21 : IV) (wTp21 : IV)  (t1p82 : Int32) : Int32 × IV × LV × LV × IV × IV × IV × IV := lett (sp_Mo_must t1p82 (4 : Int32) y18) fun (y21 : IV) => lett (upd y21 8 (0 : Int32)) fun (o_22 : IV) => lett (sp_Mo_good o_22) fun (y23 : Int32) => if y23 = 0 then (((-10 : Int32) - (o_22 12), (o_22, now, drp21, iS, tqp21, rTp21, wTp21))) else (lett (sp_Mo_takeDraft now drp21) fun (y26 : LV) => lett (upd o_22 5 (0 : Int32)) fun (o_27 : IV) => lett (upd iS 0 (vp_nar .boolean (0 : Int32))) fun (iS_28 : IV) => lett (upd iS_28 1 (vp_nar .boolean (0 : Int32))) fun (iS_29 : IV) => lett (sp_Mo_decades y26) fun (y30 : Int32) => (y30, (o_27, y26, drp21, iS_29, tqp21, rTp21, wTp21)))
def ok_Mo_load_82 (y18 : IV) (now : LV) (drp21 : LV) (iS : IV) (tqp21 : IV) (rTp21 : IV) (wTp21 : IV)   (t1p82 : Int32) : Prop := lett (sp_Mo_must t1p82 (4 : Int32) y18) fun (y21 : IV) => lett (upd y21 8 (0 : Int32)) fun (o_22 : IV) => lett (sp_Mo_good o_22) fun (y23 : Int32) => ((y23 = 0 → True) ∧ (¬ (y23 = 0) → (ok_Mo_takeDraft now drp21) ∧ True))
set_option maxRecDepth 100000 in
set_option maxHeartbeats 4000000 in
theorem k_Mo_load_82 {p : Program} {l : Launch} {e : Env} {s : State} {m : MethodId} {args : Array Value} {below : List Frame} {meth : Method} {c : Code} {g : GX} {mo : Nat} {a : Nat → Nat} {ws0 : va_W} {y18 : IV} {now : LV} {drp21 : LV} {pa : LV} {sa : LV} {iS : IV} {bu : IV} {tqp21 : IV} {rTp21 : IV} {wTp21 : IV} {sK : IV} {sA : IV} {sB : IV} {sE : IV} {oq : IV} {bS : IV} {bE : IV} {bL : IV} {rp : IV}  (C : Cx p s m args meth c (inW ws0) g "DecadeBridgeModel" b_Mo_load (some .int) 1)  : HL_Mo_load_82 p l e s m args below meth c g mo a ws0 y18 now drp21 pa sa iS bu tqp21 rTp21 wTp21 sK sA sB sE oq bS bE bL rp (sp_Mo_load_82 y18 now drp21 iS tqp21 rTp21 wTp21 ) (ok_Mo_load_82 y18 now drp21 iS tqp21 rTp21 wTp21  ) := by
  intro t1p82 hok z hz H locs ls hP hD hS hl
  obtain ⟨hx, hb, hr, hml, hown, hlk, hts, hK, hZo, hZ⟩ := id C
  unfold sp_Mo_load_82 at hz
  unfold ok_Mo_load_82 at hok
  refine lv_iconst (v := 4) hx hb d_Mo_load_82 (by decide) ?_
  have hB : SubW g (inW ws0) s (wMo g mo a y18 now drp21 pa sa iS bu tqp21 rTp21 wTp21 sK sA sB sE oq bS bE bL rp) _ (List.range _) _ _ := (subF hP hD hS)
  refine goVF hB (run_v C mf_Mo_must qm_Mo_314 (c_Mo_must l g mo a y18 now drp21 pa sa iS bu tqp21 rTp21 wTp21 sK sA sB sE oq bS bE bL rp t1p82 (4 : Int32)) rfl rfl ⟨Nat.le_of_ble_eq_true rfl, Nat.le_of_ble_eq_true rfl⟩ ⟨Nat.le_of_ble_eq_true rfl, Nat.le_of_ble_eq_true rfl⟩ hB rfl rfl hl rfl rfl (Nat.le_of_ble_eq_true rfl) d_Mo_load_83) (fun _ => rfl) (fun y21 ey21 H locs hP hD hS => ?_)
  have hP : va_P g.1 vwCl (wMo g mo a y21 now drp21 pa sa iS bu tqp21 rTp21 wTp21 sK sA sB sE oq bS bE bL rp) H := hP
  have hD : va_D (inW ws0) (wMo g mo a y21 now drp21 pa sa iS bu tqp21 rTp21 wTp21 sK sA sB sE oq bS bE bL rp) := hD
  have hz := lett_z hz ey21
  have hok := lett_o hok ey21
  refine lv_aload_n hx hb d_Mo_load_86 rfl (lv_at hl 0 rfl) ?_
  refine lv_iconst (v := 0) hx hb d_Mo_load_87 (by decide) ?_
  refine pfI C hP hD hS 0 8 fkMo rfl (by decide) rfl qf_Mo_262 rfl rfl rfl (Nat.le_of_ble_eq_true rfl) (ff := fun o => fMo a o) (sMo_8 _ _ _) d_Mo_load_88 (fun o_22 eo_22 H locs hP hD hS => ?_)
  have hP : va_P g.1 vwCl (wMo g mo a o_22 now drp21 pa sa iS bu tqp21 rTp21 wTp21 sK sA sB sE oq bS bE bL rp) H := hP
  have hD : va_D (inW ws0) (wMo g mo a o_22 now drp21 pa sa iS bu tqp21 rTp21 wTp21 sK sA sB sE oq bS bE bL rp) := hD
  have hz := lett_z hz eo_22
  have hok := lett_o hok eo_22
  refine lv_aload_n hx hb d_Mo_load_91 rfl (lv_at hl 0 rfl) ?_
  have hB : SubW g (inW ws0) s (wMo g mo a o_22 now drp21 pa sa iS bu tqp21 rTp21 wTp21 sK sA sB sE oq bS bE bL rp) _ (List.range _) _ _ := (subF hP hD hS)
  refine goI0 hB (run_v C mf_Mo_good qm_Mo_297 (c_Mo_good l g mo a o_22 now drp21 pa sa iS bu tqp21 rTp21 wTp21 sK sA sB sE oq bS bE bL rp) rfl rfl ⟨Nat.le_of_ble_eq_true rfl, Nat.le_of_ble_eq_true rfl⟩ ⟨Nat.le_of_ble_eq_true rfl, Nat.le_of_ble_eq_true rfl⟩ hB rfl rfl hl rfl rfl (Nat.le_of_ble_eq_true rfl) d_Mo_load_92) (fun y23 ey23 H locs hP hS => ?_)
  have hz := lett_z hz ey23
  have hok := lett_o hok ey23
  refine lv_if_ne (tgt := 106) hx hb d_Mo_load_95 (by decide) (fun c24 => ?_) (fun c24 => ?_)
  · have hz := hz.trans (if_neg c24)
    have hok := hok.2 c24
    refine lv_aload_n hx hb d_Mo_load_106 rfl (lv_at hl 0 rfl) ?_
    have hs25 := hok.1
    have hok := hok.2
    have hB : SubW g (inW ws0) s (wMo g mo a o_22 now drp21 pa sa iS bu tqp21 rTp21 wTp21 sK sA sB sE oq bS bE bL rp) _ (List.range _) _ _ := (subF hP hD hS)
    refine goVF hB (run_v C mf_Mo_takeDraft qm_Mo_104 (c_Mo_takeDraft l g mo a o_22 now drp21 pa sa iS bu tqp21 rTp21 wTp21 sK sA sB sE oq bS bE bL rp hs25) rfl rfl ⟨Nat.le_of_ble_eq_true rfl, Nat.le_of_ble_eq_true rfl⟩ ⟨Nat.le_of_ble_eq_true rfl, Nat.le_of_ble_eq_true rfl⟩ hB rfl rfl hl rfl rfl (Nat.le_of_ble_eq_true rfl) d_Mo_load_107) (fun _ => rfl) (fun y26 ey26 H locs hP hD hS => ?_)
    have hP : va_P g.1 vwCl (wMo g mo a o_22 y26 drp21 pa sa iS bu tqp21 rTp21 wTp21 sK sA sB sE oq bS bE bL rp) H := hP
    have hD : va_D (inW ws0) (wMo g mo a o_22 y26 drp21 pa sa iS bu tqp21 rTp21 wTp21 sK sA sB sE oq bS bE bL rp) := hD
    have hz := lett_z hz ey26
    refine lv_aload_n hx hb d_Mo_load_110 rfl (lv_at hl 0 rfl) ?_
    refine lv_iconst (v := 0) hx hb d_Mo_load_111 (by decide) ?_
    refine pfI C hP hD hS 0 5 fkMo rfl (by decide) rfl qf_Mo_400 rfl rfl rfl (Nat.le_of_ble_eq_true rfl) (ff := fun o => fMo a o) (sMo_5 _ _ _) d_Mo_load_112 (fun o_27 eo_27 H locs hP hD hS => ?_)
    have hP : va_P g.1 vwCl (wMo g mo a o_27 y26 drp21 pa sa iS bu tqp21 rTp21 wTp21 sK sA sB sE oq bS bE bL rp) H := hP
    have hD : va_D (inW ws0) (wMo g mo a o_27 y26 drp21 pa sa iS bu tqp21 rTp21 wTp21 sK sA sB sE oq bS bE bL rp) := hD
    have hz := lett_z hz eo_27
    refine lv_aload_n hx hb d_Mo_load_115 rfl (lv_at hl 0 rfl) ?_
    refine gf C hP 0 4 fkMo rfl (by decide) rfl qf_Mo_22 (gMo_4 _ _) d_Mo_load_116 ?_
    refine lv_iconst (v := 0) hx hb d_Mo_load_119 (by decide) ?_
    refine lv_iconst (v := 0) hx hb d_Mo_load_120 (by decide) ?_
    refine stZ C hP hD hS 5 rfl vi_0_2 cn_0 d_Mo_load_121 (fun iS_28 eiS_28 H locs hP hD hS => ?_)
    have hP : va_P g.1 vwCl (wMo g mo a o_27 y26 drp21 pa sa iS_28 bu tqp21 rTp21 wTp21 sK sA sB sE oq bS bE bL rp) H := hP
    have hD : va_D (inW ws0) (wMo g mo a o_27 y26 drp21 pa sa iS_28 bu tqp21 rTp21 wTp21 sK sA sB sE oq bS bE bL rp) := hD
    have hz := lett_z hz eiS_28
    refine lv_aload_n hx hb d_Mo_load_122 rfl (lv_at hl 0 rfl) ?_
    refine gf C hP 0 4 fkMo rfl (by decide) rfl qf_Mo_22 (gMo_4 _ _) d_Mo_load_123 ?_
    refine lv_iconst (v := 1) hx hb d_Mo_load_126 (by decide) ?_
    refine lv_iconst (v := 0) hx hb d_Mo_load_127 (by decide) ?_
    refine stZ C hP hD hS 5 rfl vi_1_2 cn_1 d_Mo_load_128 (fun iS_29 eiS_29 H locs hP hD hS => ?_)
    have hP : va_P g.1 vwCl (wMo g mo a o_27 y26 drp21 pa sa iS_29 bu tqp21 rTp21 wTp21 sK sA sB sE oq bS bE bL rp) H := hP
    have hD : va_D (inW ws0) (wMo g mo a o_27 y26 drp21 pa sa iS_29 bu tqp21 rTp21 wTp21 sK sA sB sE oq bS bE bL rp) := hD
    have hz := lett_z hz eiS_29
    refine lv_aload_n hx hb d_Mo_load_129 rfl (lv_at hl 0 rfl) ?_
    have hB : SubW g (inW ws0) s (wMo g mo a o_27 y26 drp21 pa sa iS_29 bu tqp21 rTp21 wTp21 sK sA sB sE oq bS bE bL rp) _ (List.range _) _ _ := (subF hP hD hS)
    refine goI0 hB (run_v C mf_Mo_decades qm_Mo_130 (c_Mo_decades l g mo a o_27 y26 drp21 pa sa iS_29 bu tqp21 rTp21 wTp21 sK sA sB sE oq bS bE bL rp) rfl rfl ⟨Nat.le_of_ble_eq_true rfl, Nat.le_of_ble_eq_true rfl⟩ ⟨Nat.le_of_ble_eq_true rfl, Nat.le_of_ble_eq_true rfl⟩ hB rfl rfl hl rfl rfl (Nat.le_of_ble_eq_true rfl) d_Mo_load_130) (fun y30 ey30 H locs hP hS => ?_)
    have hz := lett_z hz ey30
    exact endI1 C hz hP hS d_Mo_load_133
  · have hz := hz.trans (if_pos c24)
    refine lv_bipush (v := -10) hx hb d_Mo_load_98 (by decide) ?_
    refine lv_aload_n hx hb d_Mo_load_100 rfl (lv_at hl 0 rfl) ?_
    refine gf C hP 0 12 fkMo rfl (by decide) rfl qf_Mo_291 (gMo_12 _ _) d_Mo_load_101 ?_
    refine lv_isub hx hb d_Mo_load_104 ?_
    exact endI1 C hz hP hS d_Mo_load_105
noncomputable def sp_Mo_load_81 (y18 : IV) (now : LV) (drp21 : LV) (iS : IV) (tqp21 : IV) (rTp21 : IV) (wTp21 : IV)   : Int32 × IV × LV × LV × IV × IV × IV × IV := sp_Mo_load_82 y18 now drp21 iS tqp21 rTp21 wTp21 (0 : Int32)
def ok_Mo_load_81 (y18 : IV) (now : LV) (drp21 : LV) (iS : IV) (tqp21 : IV) (rTp21 : IV) (wTp21 : IV)    : Prop := ok_Mo_load_82 y18 now drp21 iS tqp21 rTp21 wTp21 (0 : Int32)
set_option maxRecDepth 100000 in
set_option maxHeartbeats 4000000 in
theorem k_Mo_load_81 {p : Program} {l : Launch} {e : Env} {s : State} {m : MethodId} {args : Array Value} {below : List Frame} {meth : Method} {c : Code} {g : GX} {mo : Nat} {a : Nat → Nat} {ws0 : va_W} {y18 : IV} {now : LV} {drp21 : LV} {pa : LV} {sa : LV} {iS : IV} {bu : IV} {tqp21 : IV} {rTp21 : IV} {wTp21 : IV} {sK : IV} {sA : IV} {sB : IV} {sE : IV} {oq : IV} {bS : IV} {bE : IV} {bL : IV} {rp : IV}  (C : Cx p s m args meth c (inW ws0) g "DecadeBridgeModel" b_Mo_load (some .int) 1)  : HL_Mo_load_81 p l e s m args below meth c g mo a ws0 y18 now drp21 pa sa iS bu tqp21 rTp21 wTp21 sK sA sB sE oq bS bE bL rp (sp_Mo_load_81 y18 now drp21 iS tqp21 rTp21 wTp21 ) (ok_Mo_load_81 y18 now drp21 iS tqp21 rTp21 wTp21  ) := by
  intro _ hok z hz H locs ls hP hD hS hl
  obtain ⟨hx, hb, hr, hml, hown, hlk, hts, hK, hZo, hZ⟩ := id C
  unfold sp_Mo_load_81 at hz
  unfold ok_Mo_load_81 at hok
  refine lv_iconst (v := 0) hx hb d_Mo_load_81 (by decide) ?_
  exact k_Mo_load_82 C (0 : Int32) hok _ hz _ _ ls hP hD hS hl
noncomputable def sp_Mo_load_54 (op21 : IV) (tqp21 : IV) (now : LV) (drp21 : LV) (iS : IV) (rTp21 : IV) (wTp21 : IV)  (t1p54 : Int32) : Int32 × IV × LV × LV × IV × IV × IV × IV := lett (sp_Mo_must t1p54 (1 : Int32) op21) fun (y18 : IV) => if (tqp21 0) = 0 then (sp_Mo_load_81 y18 now drp21 iS tqp21 rTp21 wTp21) else (if (tqp21 1) = 0 then (sp_Mo_load_81 y18 now drp21 iS tqp21 rTp21 wTp21) else (sp_Mo_load_82 y18 now drp21 iS tqp21 rTp21 wTp21 (1 : Int32)))
def ok_Mo_load_54 (op21 : IV) (tqp21 : IV) (now : LV) (drp21 : LV) (iS : IV) (rTp21 : IV) (wTp21 : IV)   (t1p54 : Int32) : Prop := lett (sp_Mo_must t1p54 (1 : Int32) op21) fun (y18 : IV) => (((tqp21 0) = 0 → ok_Mo_load_81 y18 now drp21 iS tqp21 rTp21 wTp21) ∧ (¬ ((tqp21 0) = 0) → (((tqp21 1) = 0 → ok_Mo_load_81 y18 now drp21 iS tqp21 rTp21 wTp21) ∧ (¬ ((tqp21 1) = 0) → ok_Mo_load_82 y18 now drp21 iS tqp21 rTp21 wTp21 (1 : Int32)))))
set_option maxRecDepth 100000 in
set_option maxHeartbeats 4000000 in
theorem k_Mo_load_54 {p : Program} {l : Launch} {e : Env} {s : State} {m : MethodId} {args : Array Value} {below : List Frame} {meth : Method} {c : Code} {g : GX} {mo : Nat} {a : Nat → Nat} {ws0 : va_W} {op21 : IV} {now : LV} {drp21 : LV} {pa : LV} {sa : LV} {iS : IV} {bu : IV} {tqp21 : IV} {rTp21 : IV} {wTp21 : IV} {sK : IV} {sA : IV} {sB : IV} {sE : IV} {oq : IV} {bS : IV} {bE : IV} {bL : IV} {rp : IV}  (C : Cx p s m args meth c (inW ws0) g "DecadeBridgeModel" b_Mo_load (some .int) 1)  : HL_Mo_load_54 p l e s m args below meth c g mo a ws0 op21 now drp21 pa sa iS bu tqp21 rTp21 wTp21 sK sA sB sE oq bS bE bL rp (sp_Mo_load_54 op21 tqp21 now drp21 iS rTp21 wTp21 ) (ok_Mo_load_54 op21 tqp21 now drp21 iS rTp21 wTp21  ) := by
  intro t1p54 hok z hz H locs ls hP hD hS hl
  obtain ⟨hx, hb, hr, hml, hown, hlk, hts, hK, hZo, hZ⟩ := id C
  unfold sp_Mo_load_54 at hz
  unfold ok_Mo_load_54 at hok
  refine lv_iconst (v := 1) hx hb d_Mo_load_54 (by decide) ?_
  have hB : SubW g (inW ws0) s (wMo g mo a op21 now drp21 pa sa iS bu tqp21 rTp21 wTp21 sK sA sB sE oq bS bE bL rp) _ (List.range _) _ _ := (subF hP hD hS)
  refine goVF hB (run_v C mf_Mo_must qm_Mo_314 (c_Mo_must l g mo a op21 now drp21 pa sa iS bu tqp21 rTp21 wTp21 sK sA sB sE oq bS bE bL rp t1p54 (1 : Int32)) rfl rfl ⟨Nat.le_of_ble_eq_true rfl, Nat.le_of_ble_eq_true rfl⟩ ⟨Nat.le_of_ble_eq_true rfl, Nat.le_of_ble_eq_true rfl⟩ hB rfl rfl hl rfl rfl (Nat.le_of_ble_eq_true rfl) d_Mo_load_55) (fun _ => rfl) (fun y18 ey18 H locs hP hD hS => ?_)
  have hP : va_P g.1 vwCl (wMo g mo a y18 now drp21 pa sa iS bu tqp21 rTp21 wTp21 sK sA sB sE oq bS bE bL rp) H := hP
  have hD : va_D (inW ws0) (wMo g mo a y18 now drp21 pa sa iS bu tqp21 rTp21 wTp21 sK sA sB sE oq bS bE bL rp) := hD
  have hz := lett_z hz ey18
  have hok := lett_o hok ey18
  refine lv_aload_n hx hb d_Mo_load_58 rfl (lv_at hl 0 rfl) ?_
  refine lv_aload_n hx hb d_Mo_load_59 rfl (lv_at hl 0 rfl) ?_
  refine gf C hP 0 14 fkMo rfl (by decide) rfl qf_Mo_34 (gMo_14 _ _) d_Mo_load_60 ?_
  refine lv_iconst (v := 0) hx hb d_Mo_load_63 (by decide) ?_
  refine ldZ C hP 7 rfl vi_0_6 cn_0 d_Mo_load_64 ?_
  refine lv_if_eq (tgt := 81) hx hb d_Mo_load_65 (by decide) (fun c19 => ?_) (fun c19 => ?_)
  · have hz := hz.trans (if_pos c19)
    have hok := hok.1 c19
    exact k_Mo_load_81 C () hok _ hz _ _ ls hP hD hS hl
  · have hz := hz.trans (if_neg c19)
    have hok := hok.2 c19
    refine lv_aload_n hx hb d_Mo_load_68 rfl (lv_at hl 0 rfl) ?_
    refine gf C hP 0 14 fkMo rfl (by decide) rfl qf_Mo_34 (gMo_14 _ _) d_Mo_load_69 ?_
    refine lv_iconst (v := 1) hx hb d_Mo_load_72 (by decide) ?_
    refine ldZ C hP 7 rfl vi_1_6 cn_1 d_Mo_load_73 ?_
    refine lv_if_eq (tgt := 81) hx hb d_Mo_load_74 (by decide) (fun c20 => ?_) (fun c20 => ?_)
    · have hz := hz.trans (if_pos c20)
      have hok := hok.1 c20
      exact k_Mo_load_81 C () hok _ hz _ _ ls hP hD hS hl
    · have hz := hz.trans (if_neg c20)
      have hok := hok.2 c20
      refine lv_iconst (v := 1) hx hb d_Mo_load_77 (by decide) ?_
      refine lv_goto (tgt := 82) hx hb d_Mo_load_78 (by decide) ?_
      exact k_Mo_load_82 C (1 : Int32) hok _ hz _ _ ls hP hD hS hl
noncomputable def sp_Mo_load_41 (op21 : IV) (tqp21 : IV) (now : LV) (drp21 : LV) (iS : IV) (rTp21 : IV) (wTp21 : IV)   : Int32 × IV × LV × LV × IV × IV × IV × IV := if (op21 11) = 0 then (sp_Mo_load_54 op21 tqp21 now drp21 iS rTp21 wTp21 (1 : Int32)) else (sp_Mo_load_54 op21 tqp21 now drp21 iS rTp21 wTp21 (0 : Int32))
def ok_Mo_load_41 (op21 : IV) (tqp21 : IV) (now : LV) (drp21 : LV) (iS : IV) (rTp21 : IV) (wTp21 : IV)    : Prop := (((op21 11) = 0 → ok_Mo_load_54 op21 tqp21 now drp21 iS rTp21 wTp21 (1 : Int32)) ∧ (¬ ((op21 11) = 0) → ok_Mo_load_54 op21 tqp21 now drp21 iS rTp21 wTp21 (0 : Int32)))
set_option maxRecDepth 100000 in
set_option maxHeartbeats 4000000 in
theorem k_Mo_load_41 {p : Program} {l : Launch} {e : Env} {s : State} {m : MethodId} {args : Array Value} {below : List Frame} {meth : Method} {c : Code} {g : GX} {mo : Nat} {a : Nat → Nat} {ws0 : va_W} {op21 : IV} {now : LV} {drp21 : LV} {pa : LV} {sa : LV} {iS : IV} {bu : IV} {tqp21 : IV} {rTp21 : IV} {wTp21 : IV} {sK : IV} {sA : IV} {sB : IV} {sE : IV} {oq : IV} {bS : IV} {bE : IV} {bL : IV} {rp : IV}  (C : Cx p s m args meth c (inW ws0) g "DecadeBridgeModel" b_Mo_load (some .int) 1)  : HL_Mo_load_41 p l e s m args below meth c g mo a ws0 op21 now drp21 pa sa iS bu tqp21 rTp21 wTp21 sK sA sB sE oq bS bE bL rp (sp_Mo_load_41 op21 tqp21 now drp21 iS rTp21 wTp21 ) (ok_Mo_load_41 op21 tqp21 now drp21 iS rTp21 wTp21  ) := by
  intro _ hok z hz H locs ls hP hD hS hl
  obtain ⟨hx, hb, hr, hml, hown, hlk, hts, hK, hZo, hZ⟩ := id C
  unfold sp_Mo_load_41 at hz
  unfold ok_Mo_load_41 at hok
  refine lv_aload_n hx hb d_Mo_load_41 rfl (lv_at hl 0 rfl) ?_
  refine lv_aload_n hx hb d_Mo_load_42 rfl (lv_at hl 0 rfl) ?_
  refine gf C hP 0 11 fkMo rfl (by decide) rfl qf_Mo_288 (gMo_11 _ _) d_Mo_load_43 ?_
  refine lv_if_ne (tgt := 53) hx hb d_Mo_load_46 (by decide) (fun c17 => ?_) (fun c17 => ?_)
  · have hz := hz.trans (if_neg c17)
    have hok := hok.2 c17
    refine lv_iconst (v := 0) hx hb d_Mo_load_53 (by decide) ?_
    exact k_Mo_load_54 C (0 : Int32) hok _ hz _ _ ls hP hD hS hl
  · have hz := hz.trans (if_pos c17)
    have hok := hok.1 c17
    refine lv_iconst (v := 1) hx hb d_Mo_load_49 (by decide) ?_
    refine lv_goto (tgt := 54) hx hb d_Mo_load_50 (by decide) ?_
    exact k_Mo_load_54 C (1 : Int32) hok _ hz _ _ ls hP hD hS hl
noncomputable def bd_Mo_load_21 (bu : IV) (now : LV) (iS : IV) (r21 : IV → LV → IV → IV → IV → (Int32 × IV × LV × LV × IV × IV × IV × IV)) (op21 : IV) (drp21 : LV) (tqp21 : IV) (rTp21 : IV) (wTp21 : IV) : Int32 × IV × LV × LV × IV × IV × IV × IV := lett (sp_Mo_isSign (59 : Int32) op21 bu) fun (y11 : Int32) => if y11 = 0 then (sp_Mo_load_41 op21 tqp21 now drp21 iS rTp21 wTp21) else (lett (sp_Mo_scan op21 bu) fun (y14 : IV) => lett (sp_Mo_readStatement y14 drp21 bu tqp21 rTp21 wTp21) fun (y16 : IV × LV × IV × IV × IV) => r21 y16.1 y16.2.1 y16.2.2.1 y16.2.2.2.1 y16.2.2.2.2)
def okb_Mo_load_21 (bu : IV) (now : LV) (iS : IV) (r21 : IV → LV → IV → IV → IV → (Int32 × IV × LV × LV × IV × IV × IV × IV)) (q21 : IV → LV → IV → IV → IV → Prop) (op21 : IV) (drp21 : LV) (tqp21 : IV) (rTp21 : IV) (wTp21 : IV) : Prop := (ok_Mo_isSign (59 : Int32) op21) ∧ lett (sp_Mo_isSign (59 : Int32) op21 bu) fun (y11 : Int32) => ((y11 = 0 → ok_Mo_load_41 op21 tqp21 now drp21 iS rTp21 wTp21) ∧ (¬ (y11 = 0) → (ok_Mo_scan op21 bu) ∧ lett (sp_Mo_scan op21 bu) fun (y14 : IV) => (ok_Mo_readStatement y14 drp21 bu tqp21 rTp21 wTp21) ∧ lett (sp_Mo_readStatement y14 drp21 bu tqp21 rTp21 wTp21) fun (y16 : IV × LV × IV × IV × IV) => q21 y16.1 y16.2.1 y16.2.2.1 y16.2.2.2.1 y16.2.2.2.2))
noncomputable def sp_Mo_load_21 (bu : IV) (now : LV) (iS : IV)  : Nat → IV → LV → IV → IV → IV → (Int32 × IV × LV × LV × IV × IV × IV × IV)
  | 0 => fun _ _ _ _ _ => default
  | f + 1 => bd_Mo_load_21 bu now iS  (sp_Mo_load_21 bu now iS  f)
def ok_Mo_load_21 (bu : IV) (now : LV) (iS : IV)   : Nat → IV → LV → IV → IV → IV → Prop
  | 0 => fun _ _ _ _ _ => False
  | f + 1 => okb_Mo_load_21 bu now iS  (sp_Mo_load_21 bu now iS  f)  (ok_Mo_load_21 bu now iS   f)
set_option maxRecDepth 100000 in
set_option maxHeartbeats 4000000 in
theorem kb_Mo_load_21 {p : Program} {l : Launch} {e : Env} {s : State} {m : MethodId} {args : Array Value} {below : List Frame} {meth : Method} {c : Code} {g : GX} {mo : Nat} {a : Nat → Nat} {ws0 : va_W} {now : LV} {pa : LV} {sa : LV} {iS : IV} {bu : IV} {sK : IV} {sA : IV} {sB : IV} {sE : IV} {oq : IV} {bS : IV} {bE : IV} {bL : IV} {rp : IV}  (C : Cx p s m args meth c (inW ws0) g "DecadeBridgeModel" b_Mo_load (some .int) 1) {r21 : IV → LV → IV → IV → IV → (Int32 × IV × LV × LV × IV × IV × IV × IV)} {q21 : IV → LV → IV → IV → IV → Prop}  (ih21 : HL_Mo_load_21 p l e s m args below meth c g mo a ws0 now pa sa iS bu sK sA sB sE oq bS bE bL rp r21 q21) : HL_Mo_load_21 p l e s m args below meth c g mo a ws0 now pa sa iS bu sK sA sB sE oq bS bE bL rp (bd_Mo_load_21 bu now iS  r21) (okb_Mo_load_21 bu now iS  r21  q21) := by
  intro op21 drp21 tqp21 rTp21 wTp21 hok z hz H locs ls hP hD hS hl
  obtain ⟨hx, hb, hr, hml, hown, hlk, hts, hK, hZo, hZ⟩ := id C
  unfold bd_Mo_load_21 at hz
  unfold okb_Mo_load_21 at hok
  refine lv_aload_n hx hb d_Mo_load_21 rfl (lv_at hl 0 rfl) ?_
  refine lv_bipush (v := 59) hx hb d_Mo_load_22 (by decide) ?_
  have hs10 := hok.1
  have hok := hok.2
  have hB : SubW g (inW ws0) s (wMo g mo a op21 now drp21 pa sa iS bu tqp21 rTp21 wTp21 sK sA sB sE oq bS bE bL rp) _ (List.range _) _ _ := (subF hP hD hS)
  refine goI0 hB (run_v C mf_Mo_isSign qm_Mo_311 (c_Mo_isSign l g mo a op21 now drp21 pa sa iS bu tqp21 rTp21 wTp21 sK sA sB sE oq bS bE bL rp (59 : Int32) hs10) rfl rfl ⟨Nat.le_of_ble_eq_true rfl, Nat.le_of_ble_eq_true rfl⟩ ⟨Nat.le_of_ble_eq_true rfl, Nat.le_of_ble_eq_true rfl⟩ hB rfl rfl hl rfl rfl (Nat.le_of_ble_eq_true rfl) d_Mo_load_24) (fun y11 ey11 H locs hP hS => ?_)
  have hz := lett_z hz ey11
  have hok := lett_o hok ey11
  refine lv_if_eq (tgt := 41) hx hb d_Mo_load_27 (by decide) (fun c12 => ?_) (fun c12 => ?_)
  · have hz := hz.trans (if_pos c12)
    have hok := hok.1 c12
    exact k_Mo_load_41 C () hok _ hz _ _ ls hP hD hS hl
  · have hz := hz.trans (if_neg c12)
    have hok := hok.2 c12
    refine lv_aload_n hx hb d_Mo_load_30 rfl (lv_at hl 0 rfl) ?_
    have hs13 := hok.1
    have hok := hok.2
    have hB : SubW g (inW ws0) s (wMo g mo a op21 now drp21 pa sa iS bu tqp21 rTp21 wTp21 sK sA sB sE oq bS bE bL rp) _ (List.range _) _ _ := (subF hP hD hS)
    refine goVF hB (run_v C mf_Mo_scan qm_Mo_294 (c_Mo_scan l g mo a op21 now drp21 pa sa iS bu tqp21 rTp21 wTp21 sK sA sB sE oq bS bE bL rp hs13) rfl rfl ⟨Nat.le_of_ble_eq_true rfl, Nat.le_of_ble_eq_true rfl⟩ ⟨Nat.le_of_ble_eq_true rfl, Nat.le_of_ble_eq_true rfl⟩ hB rfl rfl hl rfl rfl (Nat.le_of_ble_eq_true rfl) d_Mo_load_31) (fun _ => rfl) (fun y14 ey14 H locs hP hD hS => ?_)
    have hP : va_P g.1 vwCl (wMo g mo a y14 now drp21 pa sa iS bu tqp21 rTp21 wTp21 sK sA sB sE oq bS bE bL rp) H := hP
    have hD : va_D (inW ws0) (wMo g mo a y14 now drp21 pa sa iS bu tqp21 rTp21 wTp21 sK sA sB sE oq bS bE bL rp) := hD
    have hz := lett_z hz ey14
    have hok := lett_o hok ey14
    refine lv_aload_n hx hb d_Mo_load_34 rfl (lv_at hl 0 rfl) ?_
    have hs15 := hok.1
    have hok := hok.2
    have hB : SubW g (inW ws0) s (wMo g mo a y14 now drp21 pa sa iS bu tqp21 rTp21 wTp21 sK sA sB sE oq bS bE bL rp) _ (List.range _) _ _ := (subF hP hD hS)
    refine goVF hB (run_v C mf_Mo_readStatement qm_Mo_397 (c_Mo_readStatement l g mo a y14 now drp21 pa sa iS bu tqp21 rTp21 wTp21 sK sA sB sE oq bS bE bL rp hs15) rfl rfl ⟨Nat.le_of_ble_eq_true rfl, Nat.le_of_ble_eq_true rfl⟩ ⟨Nat.le_of_ble_eq_true rfl, Nat.le_of_ble_eq_true rfl⟩ hB rfl rfl hl rfl rfl (Nat.le_of_ble_eq_true rfl) d_Mo_load_35) (fun _ => rfl) (fun y16 ey16 H locs hP hD hS => ?_)
    have hP : va_P g.1 vwCl (wMo g mo a y16.1 now y16.2.1 pa sa iS bu y16.2.2.1 y16.2.2.2.1 y16.2.2.2.2 sK sA sB sE oq bS bE bL rp) H := hP
    have hD : va_D (inW ws0) (wMo g mo a y16.1 now y16.2.1 pa sa iS bu y16.2.2.1 y16.2.2.2.1 y16.2.2.2.2 sK sA sB sE oq bS bE bL rp) := hD
    have hz := lett_z hz ey16
    have hok := lett_o hok ey16
    refine lv_goto (tgt := 21) hx hb d_Mo_load_38 (by decide) ?_
    exact ih21 y16.1 y16.2.1 y16.2.2.1 y16.2.2.2.1 y16.2.2.2.2 hok _ hz _ _ ls hP hD hS hl
theorem k_Mo_load_21 {p : Program} {l : Launch} {e : Env} {s : State} {m : MethodId} {args : Array Value} {below : List Frame} {meth : Method} {c : Code} {g : GX} {mo : Nat} {a : Nat → Nat} {ws0 : va_W} {now : LV} {pa : LV} {sa : LV} {iS : IV} {bu : IV} {sK : IV} {sA : IV} {sB : IV} {sE : IV} {oq : IV} {bS : IV} {bE : IV} {bL : IV} {rp : IV}  (C : Cx p s m args meth c (inW ws0) g "DecadeBridgeModel" b_Mo_load (some .int) 1) (f : Nat)  : HL_Mo_load_21 p l e s m args below meth c g mo a ws0 now pa sa iS bu sK sA sB sE oq bS bE bL rp (sp_Mo_load_21 bu now iS  f) (ok_Mo_load_21 bu now iS   f) := by
  induction f with
  | zero => intro op21 drp21 tqp21 rTp21 wTp21 hok; exact False.elim hok
  | succ f ih => exact kb_Mo_load_21 C  ih
noncomputable def sp_Mo_load (o : IV) (now : LV) (dr : LV) (iS : IV) (bu : IV) (tq : IV) (rT : IV) (wT : IV) : Int32 × IV × LV × LV × IV × IV × IV × IV := lett (upd o 6 (0 : Int32)) fun (o_1 : IV) => lett (sp_Mo_startText o_1 bu) fun (y3 : IV) => lett (sp_Mo_setPlain dr) fun (y5 : LV) => lett (sp_Mo_forgetTold tq rT wT) fun (y7 : IV × IV × IV) => lett (sp_Mo_readStatement y3 y5 bu y7.1 y7.2.1 y7.2.2) fun (y9 : IV × LV × IV × IV × IV) => sp_Mo_load_21 bu now iS big y9.1 y9.2.1 y9.2.2.1 y9.2.2.2.1 y9.2.2.2.2
def ok_Mo_load (o : IV) (now : LV) (dr : LV) (iS : IV) (bu : IV) (tq : IV) (rT : IV) (wT : IV) : Prop := lett (upd o 6 (0 : Int32)) fun (o_1 : IV) => (ok_Mo_startText o_1 bu) ∧ lett (sp_Mo_startText o_1 bu) fun (y3 : IV) => (ok_Mo_setPlain dr) ∧ lett (sp_Mo_setPlain dr) fun (y5 : LV) => (ok_Mo_forgetTold tq rT wT) ∧ lett (sp_Mo_forgetTold tq rT wT) fun (y7 : IV × IV × IV) => (ok_Mo_readStatement y3 y5 bu y7.1 y7.2.1 y7.2.2) ∧ lett (sp_Mo_readStatement y3 y5 bu y7.1 y7.2.1 y7.2.2) fun (y9 : IV × LV × IV × IV × IV) => ok_Mo_load_21 bu now iS big y9.1 y9.2.1 y9.2.2.1 y9.2.2.2.1 y9.2.2.2.2
set_option maxRecDepth 100000 in
set_option maxHeartbeats 4000000 in
theorem c_Mo_load (l : Launch) (g : GX) (mo : Nat) (a : Nat → Nat) (o : IV) (now : LV) (dr : LV) (pa : LV) (sa : LV) (iS : IV) (bu : IV) (tq : IV) (rT : IV) (wT : IV) (sK : IV) (sA : IV) (sB : IV) (sE : IV) (oq : IV) (bS : IV) (bE : IV) (bL : IV) (rp : IV)  (hok : ok_Mo_load o now dr iS bu tq rT wT) : Met l y_Mo_load (wsY y_Mo_load b_Mo_load 1 (some .int)) rm_Mo_load (CP g [.ref mo] (wMo g mo a o now dr pa sa iS bu tq rT wT sK sA sB sE oq bS bE bL rp)) (CI g (wMo g mo a o now dr pa sa iS bu tq rT wT sK sA sB sE oq bS bE bL rp) (fun u : IV × LV × LV × IV × IV × IV × IV => wMo g mo a u.1 u.2.1 u.2.2.1 pa sa u.2.2.2.1 bu u.2.2.2.2.1 u.2.2.2.2.2.1 u.2.2.2.2.2.2 sK sA sB sE oq bS bE bL rp) (sp_Mo_load o now dr iS bu tq rT wT)) 0 0 (inW (wMo g mo a o now dr pa sa iS bu tq rT wT sK sA sB sE oq bS bE bL rp)) := by
  refine Met.ofW (cc := b_Mo_load) (maxL := 1) (ret := (some .int)) pn_Mo rfl ?_
  intro p e s m args below meth c s₁ B hml hv
  obtain ⟨rfl, C, hP, hD, hS⟩ := enter "DecadeBridgeModel" rfl B hml hv
  obtain ⟨hx, hb, hr, hml, hown, hlk, hts, hK, hZo, hZ⟩ := id C
  refine entryW (lv := [(0, .ref mo)]) rfl (Nat.le_of_ble_eq_true rfl) (fun ls hl => ?_)
  obtain ⟨z, hz⟩ : ∃ z, z = sp_Mo_load o now dr iS bu tq rT wT := ⟨_, rfl⟩
  rw [← hz]
  unfold sp_Mo_load at hz
  unfold ok_Mo_load at hok
  refine lv_aload_n hx hb d_Mo_load_0 rfl (lv_at hl 0 rfl) ?_
  refine lv_iconst (v := 0) hx hb d_Mo_load_1 (by decide) ?_
  refine pfI C hP hD hS 0 6 fkMo rfl (by decide) rfl qf_Mo_107 rfl rfl rfl (Nat.le_of_ble_eq_true rfl) (ff := fun o => fMo a o) (sMo_6 _ _ _) d_Mo_load_2 (fun o_1 eo_1 H locs hP hD hS => ?_)
  have hP : va_P g.1 vwCl (wMo g mo a o_1 now dr pa sa iS bu tq rT wT sK sA sB sE oq bS bE bL rp) H := hP
  have hD : va_D (inW (wMo g mo a o now dr pa sa iS bu tq rT wT sK sA sB sE oq bS bE bL rp)) (wMo g mo a o_1 now dr pa sa iS bu tq rT wT sK sA sB sE oq bS bE bL rp) := hD
  have hz := lett_z hz eo_1
  have hok := lett_o hok eo_1
  refine lv_aload_n hx hb d_Mo_load_5 rfl (lv_at hl 0 rfl) ?_
  have hs2 := hok.1
  have hok := hok.2
  have hB : SubW g (inW (wMo g mo a o now dr pa sa iS bu tq rT wT sK sA sB sE oq bS bE bL rp)) s (wMo g mo a o_1 now dr pa sa iS bu tq rT wT sK sA sB sE oq bS bE bL rp) _ (List.range _) _ _ := (subF hP hD hS)
  refine goVF hB (run_v C mf_Mo_startText qm_Mo_391 (c_Mo_startText l g mo a o_1 now dr pa sa iS bu tq rT wT sK sA sB sE oq bS bE bL rp hs2) rfl rfl ⟨Nat.le_of_ble_eq_true rfl, Nat.le_of_ble_eq_true rfl⟩ ⟨Nat.le_of_ble_eq_true rfl, Nat.le_of_ble_eq_true rfl⟩ hB rfl rfl hl rfl rfl (Nat.le_of_ble_eq_true rfl) d_Mo_load_6) (fun _ => rfl) (fun y3 ey3 H locs hP hD hS => ?_)
  have hP : va_P g.1 vwCl (wMo g mo a y3 now dr pa sa iS bu tq rT wT sK sA sB sE oq bS bE bL rp) H := hP
  have hD : va_D (inW (wMo g mo a o now dr pa sa iS bu tq rT wT sK sA sB sE oq bS bE bL rp)) (wMo g mo a y3 now dr pa sa iS bu tq rT wT sK sA sB sE oq bS bE bL rp) := hD
  have hz := lett_z hz ey3
  have hok := lett_o hok ey3
  refine lv_aload_n hx hb d_Mo_load_9 rfl (lv_at hl 0 rfl) ?_
  have hs4 := hok.1
  have hok := hok.2
  have hB : SubW g (inW (wMo g mo a o now dr pa sa iS bu tq rT wT sK sA sB sE oq bS bE bL rp)) s (wMo g mo a y3 now dr pa sa iS bu tq rT wT sK sA sB sE oq bS bE bL rp) _ (List.range _) _ _ := (subF hP hD hS)
  refine goVF hB (run_v C mf_Mo_setPlain qm_Mo_97 (c_Mo_setPlain l g mo a y3 now dr pa sa iS bu tq rT wT sK sA sB sE oq bS bE bL rp hs4) rfl rfl ⟨Nat.le_of_ble_eq_true rfl, Nat.le_of_ble_eq_true rfl⟩ ⟨Nat.le_of_ble_eq_true rfl, Nat.le_of_ble_eq_true rfl⟩ hB rfl rfl hl rfl rfl (Nat.le_of_ble_eq_true rfl) d_Mo_load_10) (fun _ => rfl) (fun y5 ey5 H locs hP hD hS => ?_)
  have hP : va_P g.1 vwCl (wMo g mo a y3 now y5 pa sa iS bu tq rT wT sK sA sB sE oq bS bE bL rp) H := hP
  have hD : va_D (inW (wMo g mo a o now dr pa sa iS bu tq rT wT sK sA sB sE oq bS bE bL rp)) (wMo g mo a y3 now y5 pa sa iS bu tq rT wT sK sA sB sE oq bS bE bL rp) := hD
  have hz := lett_z hz ey5
  have hok := lett_o hok ey5
  refine lv_aload_n hx hb d_Mo_load_13 rfl (lv_at hl 0 rfl) ?_
  have hs6 := hok.1
  have hok := hok.2
  have hB : SubW g (inW (wMo g mo a o now dr pa sa iS bu tq rT wT sK sA sB sE oq bS bE bL rp)) s (wMo g mo a y3 now y5 pa sa iS bu tq rT wT sK sA sB sE oq bS bE bL rp) _ (List.range _) _ _ := (subF hP hD hS)
  refine goVF hB (run_v C mf_Mo_forgetTold qm_Mo_394 (c_Mo_forgetTold l g mo a y3 now y5 pa sa iS bu tq rT wT sK sA sB sE oq bS bE bL rp hs6) rfl rfl ⟨Nat.le_of_ble_eq_true rfl, Nat.le_of_ble_eq_true rfl⟩ ⟨Nat.le_of_ble_eq_true rfl, Nat.le_of_ble_eq_true rfl⟩ hB rfl rfl hl rfl rfl (Nat.le_of_ble_eq_true rfl) d_Mo_load_14) (fun _ => rfl) (fun y7 ey7 H locs hP hD hS => ?_)
  have hP : va_P g.1 vwCl (wMo g mo a y3 now y5 pa sa iS bu y7.1 y7.2.1 y7.2.2 sK sA sB sE oq bS bE bL rp) H := hP
  have hD : va_D (inW (wMo g mo a o now dr pa sa iS bu tq rT wT sK sA sB sE oq bS bE bL rp)) (wMo g mo a y3 now y5 pa sa iS bu y7.1 y7.2.1 y7.2.2 sK sA sB sE oq bS bE bL rp) := hD
  have hz := lett_z hz ey7
  have hok := lett_o hok ey7
  refine lv_aload_n hx hb d_Mo_load_17 rfl (lv_at hl 0 rfl) ?_
  have hs8 := hok.1
  have hok := hok.2
  have hB : SubW g (inW (wMo g mo a o now dr pa sa iS bu tq rT wT sK sA sB sE oq bS bE bL rp)) s (wMo g mo a y3 now y5 pa sa iS bu y7.1 y7.2.1 y7.2.2 sK sA sB sE oq bS bE bL rp) _ (List.range _) _ _ := (subF hP hD hS)
  refine goVF hB (run_v C mf_Mo_readStatement qm_Mo_397 (c_Mo_readStatement l g mo a y3 now y5 pa sa iS bu y7.1 y7.2.1 y7.2.2 sK sA sB sE oq bS bE bL rp hs8) rfl rfl ⟨Nat.le_of_ble_eq_true rfl, Nat.le_of_ble_eq_true rfl⟩ ⟨Nat.le_of_ble_eq_true rfl, Nat.le_of_ble_eq_true rfl⟩ hB rfl rfl hl rfl rfl (Nat.le_of_ble_eq_true rfl) d_Mo_load_18) (fun _ => rfl) (fun y9 ey9 H locs hP hD hS => ?_)
  have hP : va_P g.1 vwCl (wMo g mo a y9.1 now y9.2.1 pa sa iS bu y9.2.2.1 y9.2.2.2.1 y9.2.2.2.2 sK sA sB sE oq bS bE bL rp) H := hP
  have hD : va_D (inW (wMo g mo a o now dr pa sa iS bu tq rT wT sK sA sB sE oq bS bE bL rp)) (wMo g mo a y9.1 now y9.2.1 pa sa iS bu y9.2.2.1 y9.2.2.2.1 y9.2.2.2.2 sK sA sB sE oq bS bE bL rp) := hD
  have hz := lett_z hz ey9
  have hok := lett_o hok ey9
  exact k_Mo_load_21 C big y9.1 y9.2.1 y9.2.2.1 y9.2.2.2.1 y9.2.2.2.2 hok _ hz _ _ ls hP hD hS hl
abbrev rm_Mo_errorPosition : Room := { frames := 0, cells := 0, slots := 0, locals := 0 }
noncomputable def sp_Mo_errorPosition (o : IV) : Int32 × IV := lett (upd o 6 (0 : Int32)) fun (o_1 : IV) => (o_1 13, o_1)
set_option maxRecDepth 100000 in
set_option maxHeartbeats 4000000 in
theorem c_Mo_errorPosition (l : Launch) (g : GX) (mo : Nat) (a : Nat → Nat) (o : IV) (now : LV) (dr : LV) (pa : LV) (sa : LV) (iS : IV) (bu : IV) (tq : IV) (rT : IV) (wT : IV) (sK : IV) (sA : IV) (sB : IV) (sE : IV) (oq : IV) (bS : IV) (bE : IV) (bL : IV) (rp : IV)  : Met l y_Mo_errorPosition (wsY y_Mo_errorPosition b_Mo_errorPosition 1 (some .int)) rm_Mo_errorPosition (CP g [.ref mo] (wMo g mo a o now dr pa sa iS bu tq rT wT sK sA sB sE oq bS bE bL rp)) (CI g (wMo g mo a o now dr pa sa iS bu tq rT wT sK sA sB sE oq bS bE bL rp) (fun u : IV => wMo g mo a u now dr pa sa iS bu tq rT wT sK sA sB sE oq bS bE bL rp) (sp_Mo_errorPosition o)) 0 0 (inW (wMo g mo a o now dr pa sa iS bu tq rT wT sK sA sB sE oq bS bE bL rp)) := by
  refine Met.ofW (cc := b_Mo_errorPosition) (maxL := 1) (ret := (some .int)) pn_Mo rfl ?_
  intro p e s m args below meth c s₁ B hml hv
  obtain ⟨rfl, C, hP, hD, hS⟩ := enter "DecadeBridgeModel" rfl B hml hv
  obtain ⟨hx, hb, hr, hml, hown, hlk, hts, hK, hZo, hZ⟩ := id C
  refine entryW (lv := [(0, .ref mo)]) rfl (Nat.le_of_ble_eq_true rfl) (fun ls hl => ?_)
  obtain ⟨z, hz⟩ : ∃ z, z = sp_Mo_errorPosition o := ⟨_, rfl⟩
  rw [← hz]
  unfold sp_Mo_errorPosition at hz
  refine lv_aload_n hx hb d_Mo_errorPosition_0 rfl (lv_at hl 0 rfl) ?_
  refine lv_iconst (v := 0) hx hb d_Mo_errorPosition_1 (by decide) ?_
  refine pfI C hP hD hS 0 6 fkMo rfl (by decide) rfl qf_Mo_107 rfl rfl rfl (Nat.le_of_ble_eq_true rfl) (ff := fun o => fMo a o) (sMo_6 _ _ _) d_Mo_errorPosition_2 (fun o_1 eo_1 H locs hP hD hS => ?_)
  have hP : va_P g.1 vwCl (wMo g mo a o_1 now dr pa sa iS bu tq rT wT sK sA sB sE oq bS bE bL rp) H := hP
  have hD : va_D (inW (wMo g mo a o now dr pa sa iS bu tq rT wT sK sA sB sE oq bS bE bL rp)) (wMo g mo a o_1 now dr pa sa iS bu tq rT wT sK sA sB sE oq bS bE bL rp) := hD
  have hz := lett_z hz eo_1
  refine lv_aload_n hx hb d_Mo_errorPosition_5 rfl (lv_at hl 0 rfl) ?_
  refine gf C hP 0 13 fkMo rfl (by decide) rfl qf_Mo_30 (gMo_13 _ _) d_Mo_errorPosition_6 ?_
  exact endI1 C hz hP hS d_Mo_errorPosition_9
abbrev rm_Mo_isAlike : Room := { frames := 1, cells := 0, slots := 0, locals := 22 }
def HL_Mo_isAlike_52 (p : Program) (l : Launch) (e : Env) (s : State) (m : MethodId) (args : Array Value) (below : List Frame) (meth : Method) (c : Code) (g : GX) (mo : Nat) (a : Nat → Nat) (o : IV) (now : LV) (dr : LV) (pa : LV) (sa : LV) (iS : IV) (bu : IV) (tq : IV) (rT : IV) (wT : IV) (sK : IV) (sA : IV) (sB : IV) (sE : IV) (oq : IV) (bS : IV) (bE : IV) (bL : IV) (rp : IV) (sp : Int32) (ok : Prop) : Prop := ∀ (_ : Unit), ok → ∀ z : Int32, z = sp → ∀ (H : Heap) (locs : List Loc) (ls : Array Slot), va_P g.1 vwCl (wMo g mo a o now dr pa sa iS bu tq rT wT sK sA sB sE oq bS bE bL rp) H → va_D (inW (wMo g mo a o now dr pa sa iS bu tq rT wT sK sA sB sE oq bS bE bL rp)) (wMo g mo a o now dr pa sa iS bu tq rT wT sK sA sB sE oq bS bE bL rp) → va_S (inW (wMo g mo a o now dr pa sa iS bu tq rT wT sK sA sB sE oq bS bE bL rp)) s.heap H locs → lv_has ls 3 [] → W p l e rm_Mo_isAlike s m args below meth c H locs 0 0 (MQ below (CI0 g (wMo g mo a o now dr pa sa iS bu tq rT wT sK sA sB sE oq bS bE bL rp) z) args s 0 0 (inW (wMo g mo a o now dr pa sa iS bu tq rT wT sK sA sB sE oq bS bE bL rp))) (F0 m 52 ls [])
noncomputable def sp_Mo_isAlike_52    : Int32 := (0 : Int32)
def ok_Mo_isAlike_52     : Prop := True
set_option maxRecDepth 100000 in
set_option maxHeartbeats 4000000 in
theorem k_Mo_isAlike_52 {p : Program} {l : Launch} {e : Env} {s : State} {m : MethodId} {args : Array Value} {below : List Frame} {meth : Method} {c : Code} {g : GX} {mo : Nat} {a : Nat → Nat} {o : IV} {now : LV} {dr : LV} {pa : LV} {sa : LV} {iS : IV} {bu : IV} {tq : IV} {rT : IV} {wT : IV} {sK : IV} {sA : IV} {sB : IV} {sE : IV} {oq : IV} {bS : IV} {bE : IV} {bL : IV} {rp : IV}  (C : Cx p s m args meth c (inW (wMo g mo a o now dr pa sa iS bu tq rT wT sK sA sB sE oq bS bE bL rp)) g "DecadeBridgeModel" b_Mo_isAlike (some .boolean) 3)  : HL_Mo_isAlike_52 p l e s m args below meth c g mo a o now dr pa sa iS bu tq rT wT sK sA sB sE oq bS bE bL rp (sp_Mo_isAlike_52  ) (ok_Mo_isAlike_52   ) := by
  intro _ hok z hz H locs ls hP hD hS hl
  obtain ⟨hx, hb, hr, hml, hown, hlk, hts, hK, hZo, hZ⟩ := id C
  unfold sp_Mo_isAlike_52 at hz
  refine lv_iconst (v := 0) hx hb d_Mo_isAlike_52 (by decide) ?_
  exact endZ0 C hz hP hS rfl d_Mo_isAlike_53
noncomputable def sp_Mo_isAlike (p1 : Int32) (p2 : Int32) (now : LV) : Int32 := lett (sp_Mo_ofResult p1 (0 : Int32) now) fun (y2 : Int64) => lett (sp_Mo_ofResult p2 (0 : Int32) now) fun (y4 : Int64) => if y2 = y4 then (lett (sp_Mo_ofResult p1 (1 : Int32) now) fun (y7 : Int64) => lett (sp_Mo_ofResult p2 (1 : Int32) now) fun (y9 : Int64) => if y7 = y9 then (lett (sp_Mo_ofResult p1 (2 : Int32) now) fun (y12 : Int64) => lett (sp_Mo_ofResult p2 (2 : Int32) now) fun (y14 : Int64) => if y12 = y14 then ((1 : Int32)) else (sp_Mo_isAlike_52)) else (sp_Mo_isAlike_52)) else (sp_Mo_isAlike_52)
def ok_Mo_isAlike (p1 : Int32) (p2 : Int32) (now : LV) : Prop := (ok_Mo_ofResult p1 (0 : Int32)) ∧ lett (sp_Mo_ofResult p1 (0 : Int32) now) fun (y2 : Int64) => (ok_Mo_ofResult p2 (0 : Int32)) ∧ lett (sp_Mo_ofResult p2 (0 : Int32) now) fun (y4 : Int64) => ((y2 = y4 → (ok_Mo_ofResult p1 (1 : Int32)) ∧ lett (sp_Mo_ofResult p1 (1 : Int32) now) fun (y7 : Int64) => (ok_Mo_ofResult p2 (1 : Int32)) ∧ lett (sp_Mo_ofResult p2 (1 : Int32) now) fun (y9 : Int64) => ((y7 = y9 → (ok_Mo_ofResult p1 (2 : Int32)) ∧ lett (sp_Mo_ofResult p1 (2 : Int32) now) fun (y12 : Int64) => (ok_Mo_ofResult p2 (2 : Int32)) ∧ True) ∧ (¬ (y7 = y9) → True))) ∧ (¬ (y2 = y4) → True))
set_option maxRecDepth 100000 in
set_option maxHeartbeats 4000000 in
theorem c_Mo_isAlike (l : Launch) (g : GX) (mo : Nat) (a : Nat → Nat) (o : IV) (now : LV) (dr : LV) (pa : LV) (sa : LV) (iS : IV) (bu : IV) (tq : IV) (rT : IV) (wT : IV) (sK : IV) (sA : IV) (sB : IV) (sE : IV) (oq : IV) (bS : IV) (bE : IV) (bL : IV) (rp : IV) (p1 : Int32) (p2 : Int32) (hok : ok_Mo_isAlike p1 p2 now) : Met l y_Mo_isAlike (wsY y_Mo_isAlike b_Mo_isAlike 3 (some .boolean)) rm_Mo_isAlike (CP g [.ref mo, .int p1, .int p2] (wMo g mo a o now dr pa sa iS bu tq rT wT sK sA sB sE oq bS bE bL rp)) (CI0 g (wMo g mo a o now dr pa sa iS bu tq rT wT sK sA sB sE oq bS bE bL rp) (sp_Mo_isAlike p1 p2 now)) 0 0 (inW (wMo g mo a o now dr pa sa iS bu tq rT wT sK sA sB sE oq bS bE bL rp)) := by
  refine Met.ofW (cc := b_Mo_isAlike) (maxL := 3) (ret := (some .boolean)) pn_Mo rfl ?_
  intro p e s m args below meth c s₁ B hml hv
  obtain ⟨rfl, C, hP, hD, hS⟩ := enter "DecadeBridgeModel" rfl B hml hv
  obtain ⟨hx, hb, hr, hml, hown, hlk, hts, hK, hZo, hZ⟩ := id C
  refine entryW (lv := [(0, .ref mo), (1, .int p1), (2, .int p2)]) rfl (Nat.le_of_ble_eq_true rfl) (fun ls hl => ?_)
  obtain ⟨z, hz⟩ : ∃ z, z = sp_Mo_isAlike p1 p2 now := ⟨_, rfl⟩
  rw [← hz]
  unfold sp_Mo_isAlike at hz
  unfold ok_Mo_isAlike at hok
  refine lv_aload_n hx hb d_Mo_isAlike_0 rfl (lv_at hl 0 rfl) ?_
  refine lv_iload_n hx hb d_Mo_isAlike_1 rfl (lv_at hl 1 rfl) ?_
  refine lv_iconst (v := 0) hx hb d_Mo_isAlike_2 (by decide) ?_
  have hs1 := hok.1
  have hok := hok.2
  have hB : SubW g (inW (wMo g mo a o now dr pa sa iS bu tq rT wT sK sA sB sE oq bS bE bL rp)) s (wMo g mo a o now dr pa sa iS bu tq rT wT sK sA sB sE oq bS bE bL rp) _ (List.range _) _ _ := (subF hP hD hS)
  refine goL0 hB (run_v C mf_Mo_ofResult qm_Mo_406 (c_Mo_ofResult l g mo a o now dr pa sa iS bu tq rT wT sK sA sB sE oq bS bE bL rp p1 (0 : Int32) hs1) rfl rfl ⟨Nat.le_of_ble_eq_true rfl, Nat.le_of_ble_eq_true rfl⟩ ⟨Nat.le_of_ble_eq_true rfl, Nat.le_of_ble_eq_true rfl⟩ hB rfl rfl hl rfl rfl (Nat.le_of_ble_eq_true rfl) d_Mo_isAlike_3) (fun y2 ey2 H locs hP hS => ?_)
  have hz := lett_z hz ey2
  have hok := lett_o hok ey2
  refine lv_aload_n hx hb d_Mo_isAlike_6 rfl (lv_at hl 0 rfl) ?_
  refine lv_iload_n hx hb d_Mo_isAlike_7 rfl (lv_at hl 2 rfl) ?_
  refine lv_iconst (v := 0) hx hb d_Mo_isAlike_8 (by decide) ?_
  have hs3 := hok.1
  have hok := hok.2
  have hB : SubW g (inW (wMo g mo a o now dr pa sa iS bu tq rT wT sK sA sB sE oq bS bE bL rp)) s (wMo g mo a o now dr pa sa iS bu tq rT wT sK sA sB sE oq bS bE bL rp) _ (List.range _) _ _ := (subF hP hD hS)
  refine goL0 hB (run_v C mf_Mo_ofResult qm_Mo_406 (c_Mo_ofResult l g mo a o now dr pa sa iS bu tq rT wT sK sA sB sE oq bS bE bL rp p2 (0 : Int32) hs3) rfl rfl ⟨Nat.le_of_ble_eq_true rfl, Nat.le_of_ble_eq_true rfl⟩ ⟨Nat.le_of_ble_eq_true rfl, Nat.le_of_ble_eq_true rfl⟩ hB rfl rfl hl rfl rfl (Nat.le_of_ble_eq_true rfl) d_Mo_isAlike_9) (fun y4 ey4 H locs hP hS => ?_)
  have hz := lett_z hz ey4
  have hok := lett_o hok ey4
  refine lc_ne (tgt := 52) hx hb d_Mo_isAlike_12 d_Mo_isAlike_13 (by decide) (fun c5 => ?_) (fun c5 => ?_)
  · have hz := hz.trans (if_neg c5)
    exact k_Mo_isAlike_52 C () trivial _ hz _ _ ls hP hD hS (lv_sub hl [] rfl)
  · have hz := hz.trans (if_pos c5)
    have hok := hok.1 c5
    refine lv_aload_n hx hb d_Mo_isAlike_16 rfl (lv_at hl 0 rfl) ?_
    refine lv_iload_n hx hb d_Mo_isAlike_17 rfl (lv_at hl 1 rfl) ?_
    refine lv_iconst (v := 1) hx hb d_Mo_isAlike_18 (by decide) ?_
    have hs6 := hok.1
    have hok := hok.2
    have hB : SubW g (inW (wMo g mo a o now dr pa sa iS bu tq rT wT sK sA sB sE oq bS bE bL rp)) s (wMo g mo a o now dr pa sa iS bu tq rT wT sK sA sB sE oq bS bE bL rp) _ (List.range _) _ _ := (subF hP hD hS)
    refine goL0 hB (run_v C mf_Mo_ofResult qm_Mo_406 (c_Mo_ofResult l g mo a o now dr pa sa iS bu tq rT wT sK sA sB sE oq bS bE bL rp p1 (1 : Int32) hs6) rfl rfl ⟨Nat.le_of_ble_eq_true rfl, Nat.le_of_ble_eq_true rfl⟩ ⟨Nat.le_of_ble_eq_true rfl, Nat.le_of_ble_eq_true rfl⟩ hB rfl rfl hl rfl rfl (Nat.le_of_ble_eq_true rfl) d_Mo_isAlike_19) (fun y7 ey7 H locs hP hS => ?_)
    have hz := lett_z hz ey7
    have hok := lett_o hok ey7
    refine lv_aload_n hx hb d_Mo_isAlike_22 rfl (lv_at hl 0 rfl) ?_
    refine lv_iload_n hx hb d_Mo_isAlike_23 rfl (lv_at hl 2 rfl) ?_
    refine lv_iconst (v := 1) hx hb d_Mo_isAlike_24 (by decide) ?_
    have hs8 := hok.1
    have hok := hok.2
    have hB : SubW g (inW (wMo g mo a o now dr pa sa iS bu tq rT wT sK sA sB sE oq bS bE bL rp)) s (wMo g mo a o now dr pa sa iS bu tq rT wT sK sA sB sE oq bS bE bL rp) _ (List.range _) _ _ := (subF hP hD hS)
    refine goL0 hB (run_v C mf_Mo_ofResult qm_Mo_406 (c_Mo_ofResult l g mo a o now dr pa sa iS bu tq rT wT sK sA sB sE oq bS bE bL rp p2 (1 : Int32) hs8) rfl rfl ⟨Nat.le_of_ble_eq_true rfl, Nat.le_of_ble_eq_true rfl⟩ ⟨Nat.le_of_ble_eq_true rfl, Nat.le_of_ble_eq_true rfl⟩ hB rfl rfl hl rfl rfl (Nat.le_of_ble_eq_true rfl) d_Mo_isAlike_25) (fun y9 ey9 H locs hP hS => ?_)
    have hz := lett_z hz ey9
    have hok := lett_o hok ey9
    refine lc_ne (tgt := 52) hx hb d_Mo_isAlike_28 d_Mo_isAlike_29 (by decide) (fun c10 => ?_) (fun c10 => ?_)
    · have hz := hz.trans (if_neg c10)
      exact k_Mo_isAlike_52 C () trivial _ hz _ _ ls hP hD hS (lv_sub hl [] rfl)
    · have hz := hz.trans (if_pos c10)
      have hok := hok.1 c10
      refine lv_aload_n hx hb d_Mo_isAlike_32 rfl (lv_at hl 0 rfl) ?_
      refine lv_iload_n hx hb d_Mo_isAlike_33 rfl (lv_at hl 1 rfl) ?_
      refine lv_iconst (v := 2) hx hb d_Mo_isAlike_34 (by decide) ?_
      have hs11 := hok.1
      have hok := hok.2
      have hB : SubW g (inW (wMo g mo a o now dr pa sa iS bu tq rT wT sK sA sB sE oq bS bE bL rp)) s (wMo g mo a o now dr pa sa iS bu tq rT wT sK sA sB sE oq bS bE bL rp) _ (List.range _) _ _ := (subF hP hD hS)
      refine goL0 hB (run_v C mf_Mo_ofResult qm_Mo_406 (c_Mo_ofResult l g mo a o now dr pa sa iS bu tq rT wT sK sA sB sE oq bS bE bL rp p1 (2 : Int32) hs11) rfl rfl ⟨Nat.le_of_ble_eq_true rfl, Nat.le_of_ble_eq_true rfl⟩ ⟨Nat.le_of_ble_eq_true rfl, Nat.le_of_ble_eq_true rfl⟩ hB rfl rfl hl rfl rfl (Nat.le_of_ble_eq_true rfl) d_Mo_isAlike_35) (fun y12 ey12 H locs hP hS => ?_)
      have hz := lett_z hz ey12
      have hok := lett_o hok ey12
      refine lv_aload_n hx hb d_Mo_isAlike_38 rfl (lv_at hl 0 rfl) ?_
      refine lv_iload_n hx hb d_Mo_isAlike_39 rfl (lv_at hl 2 rfl) ?_
      refine lv_iconst (v := 2) hx hb d_Mo_isAlike_40 (by decide) ?_
      have hs13 := hok.1
      have hok := hok.2
      have hB : SubW g (inW (wMo g mo a o now dr pa sa iS bu tq rT wT sK sA sB sE oq bS bE bL rp)) s (wMo g mo a o now dr pa sa iS bu tq rT wT sK sA sB sE oq bS bE bL rp) _ (List.range _) _ _ := (subF hP hD hS)
      refine goL0 hB (run_v C mf_Mo_ofResult qm_Mo_406 (c_Mo_ofResult l g mo a o now dr pa sa iS bu tq rT wT sK sA sB sE oq bS bE bL rp p2 (2 : Int32) hs13) rfl rfl ⟨Nat.le_of_ble_eq_true rfl, Nat.le_of_ble_eq_true rfl⟩ ⟨Nat.le_of_ble_eq_true rfl, Nat.le_of_ble_eq_true rfl⟩ hB rfl rfl hl rfl rfl (Nat.le_of_ble_eq_true rfl) d_Mo_isAlike_41) (fun y14 ey14 H locs hP hS => ?_)
      have hz := lett_z hz ey14
      refine lc_ne (tgt := 52) hx hb d_Mo_isAlike_44 d_Mo_isAlike_45 (by decide) (fun c15 => ?_) (fun c15 => ?_)
      · have hz := hz.trans (if_neg c15)
        exact k_Mo_isAlike_52 C () trivial _ hz _ _ ls hP hD hS (lv_sub hl [] rfl)
      · have hz := hz.trans (if_pos c15)
        refine lv_iconst (v := 1) hx hb d_Mo_isAlike_48 (by decide) ?_
        refine lv_goto (tgt := 53) hx hb d_Mo_isAlike_49 (by decide) ?_
        exact endZ0 C hz hP hS rfl d_Mo_isAlike_53
abbrev rm_Mo_earliest : Room := { frames := 2, cells := 0, slots := 0, locals := 44 }
def HL_Mo_earliest_2 (p : Program) (l : Launch) (e : Env) (s : State) (m : MethodId) (args : Array Value) (below : List Frame) (meth : Method) (c : Code) (g : GX) (mo : Nat) (a : Nat → Nat) (o : IV) (now : LV) (dr : LV) (pa : LV) (sa : LV) (iS : IV) (bu : IV) (tq : IV) (rT : IV) (wT : IV) (sK : IV) (sA : IV) (sB : IV) (sE : IV) (oq : IV) (bS : IV) (bE : IV) (bL : IV) (rp : IV) (p1 : Int32) (sp : Int32 → Int32) (ok : Int32 → Prop) : Prop := ∀ (x2p2 : Int32), ok x2p2 → ∀ z : Int32, z = sp x2p2 → ∀ (H : Heap) (locs : List Loc) (ls : Array Slot), va_P g.1 vwCl (wMo g mo a o now dr pa sa iS bu tq rT wT sK sA sB sE oq bS bE bL rp) H → va_D (inW (wMo g mo a o now dr pa sa iS bu tq rT wT sK sA sB sE oq bS bE bL rp)) (wMo g mo a o now dr pa sa iS bu tq rT wT sK sA sB sE oq bS bE bL rp) → va_S (inW (wMo g mo a o now dr pa sa iS bu tq rT wT sK sA sB sE oq bS bE bL rp)) s.heap H locs → lv_has ls 3 [(0, .ref mo), (1, .int p1), (2, .int x2p2)] → W p l e rm_Mo_earliest s m args below meth c H locs 0 0 (MQ below (CI0 g (wMo g mo a o now dr pa sa iS bu tq rT wT sK sA sB sE oq bS bE bL rp) z) args s 0 0 (inW (wMo g mo a o now dr pa sa iS bu tq rT wT sK sA sB sE oq bS bE bL rp))) (F0 m 2 ls [])
noncomputable def bd_Mo_earliest_2 (p1 : Int32) (now : LV) (r2 : Int32 → Int32) (x2p2 : Int32) : Int32 := lett (sp_Mo_isAlike x2p2 p1 now) fun (y2 : Int32) => if y2 = 0 then (lett (x2p2 + (1 : Int32)) fun (v4 : Int32) => r2 v4) else (x2p2)
def okb_Mo_earliest_2 (p1 : Int32) (now : LV) (r2 : Int32 → Int32) (q2 : Int32 → Prop) (x2p2 : Int32) : Prop := (ok_Mo_isAlike x2p2 p1 now) ∧ lett (sp_Mo_isAlike x2p2 p1 now) fun (y2 : Int32) => ((y2 = 0 → lett (x2p2 + (1 : Int32)) fun (v4 : Int32) => q2 v4) ∧ (¬ (y2 = 0) → True))
noncomputable def sp_Mo_earliest_2 (p1 : Int32) (now : LV)  : Nat → Int32 → Int32
  | 0 => fun _ => default
  | f + 1 => bd_Mo_earliest_2 p1 now  (sp_Mo_earliest_2 p1 now  f)
def ok_Mo_earliest_2 (p1 : Int32) (now : LV)   : Nat → Int32 → Prop
  | 0 => fun _ => False
  | f + 1 => okb_Mo_earliest_2 p1 now  (sp_Mo_earliest_2 p1 now  f)  (ok_Mo_earliest_2 p1 now   f)
set_option maxRecDepth 100000 in
set_option maxHeartbeats 4000000 in
theorem kb_Mo_earliest_2 {p : Program} {l : Launch} {e : Env} {s : State} {m : MethodId} {args : Array Value} {below : List Frame} {meth : Method} {c : Code} {g : GX} {mo : Nat} {a : Nat → Nat} {o : IV} {now : LV} {dr : LV} {pa : LV} {sa : LV} {iS : IV} {bu : IV} {tq : IV} {rT : IV} {wT : IV} {sK : IV} {sA : IV} {sB : IV} {sE : IV} {oq : IV} {bS : IV} {bE : IV} {bL : IV} {rp : IV} {p1 : Int32}  (C : Cx p s m args meth c (inW (wMo g mo a o now dr pa sa iS bu tq rT wT sK sA sB sE oq bS bE bL rp)) g "DecadeBridgeModel" b_Mo_earliest (some .int) 3) {r2 : Int32 → Int32} {q2 : Int32 → Prop}  (ih2 : HL_Mo_earliest_2 p l e s m args below meth c g mo a o now dr pa sa iS bu tq rT wT sK sA sB sE oq bS bE bL rp p1 r2 q2) : HL_Mo_earliest_2 p l e s m args below meth c g mo a o now dr pa sa iS bu tq rT wT sK sA sB sE oq bS bE bL rp p1 (bd_Mo_earliest_2 p1 now  r2) (okb_Mo_earliest_2 p1 now  r2  q2) := by
  intro x2p2 hok z hz H locs ls hP hD hS hl
  obtain ⟨hx, hb, hr, hml, hown, hlk, hts, hK, hZo, hZ⟩ := id C
  unfold bd_Mo_earliest_2 at hz
  unfold okb_Mo_earliest_2 at hok
  refine lv_aload_n hx hb d_Mo_earliest_2 rfl (lv_at hl 0 rfl) ?_
  refine lv_iload_n hx hb d_Mo_earliest_3 rfl (lv_at hl 2 rfl) ?_
  refine lv_iload_n hx hb d_Mo_earliest_4 rfl (lv_at hl 1 rfl) ?_
  have hs1 := hok.1
  have hok := hok.2
  have hB : SubW g (inW (wMo g mo a o now dr pa sa iS bu tq rT wT sK sA sB sE oq bS bE bL rp)) s (wMo g mo a o now dr pa sa iS bu tq rT wT sK sA sB sE oq bS bE bL rp) _ (List.range _) _ _ := (subF hP hD hS)
  refine goI0 hB (run_v C mf_Mo_isAlike qm_Mo_410 (c_Mo_isAlike l g mo a o now dr pa sa iS bu tq rT wT sK sA sB sE oq bS bE bL rp x2p2 p1 hs1) rfl rfl ⟨Nat.le_of_ble_eq_true rfl, Nat.le_of_ble_eq_true rfl⟩ ⟨Nat.le_of_ble_eq_true rfl, Nat.le_of_ble_eq_true rfl⟩ hB rfl rfl hl rfl rfl (Nat.le_of_ble_eq_true rfl) d_Mo_earliest_5) (fun y2 ey2 H locs hP hS => ?_)
  have hz := lett_z hz ey2
  have hok := lett_o hok ey2
  refine lv_if_ne (tgt := 17) hx hb d_Mo_earliest_8 (by decide) (fun c3 => ?_) (fun c3 => ?_)
  · have hz := hz.trans (if_neg c3)
    refine lv_iload_n hx hb d_Mo_earliest_17 rfl (lv_at hl 2 rfl) ?_
    exact endI0 C hz hP hS d_Mo_earliest_18
  · have hz := hz.trans (if_pos c3)
    have hok := hok.1 c3
    obtain ⟨v4, ev4⟩ : ∃ y : Int32, y = x2p2 + (1 : Int32) := ⟨_, rfl⟩
    have hz := lett_z hz ev4
    have hok := lett_o hok ev4
    refine lv_iinc (v := v4) (lv' := [(2, .int v4), (0, .ref mo), (1, .int p1)]) hx hb d_Mo_earliest_11 hl (k := 2) rfl (by rw [ev4]; rfl) (by decide) rfl (fun ls hl => ?_)
    refine lv_goto (tgt := 2) hx hb d_Mo_earliest_14 (by decide) ?_
    exact ih2 v4 hok _ hz _ _ ls hP hD hS (lv_sub hl [1, 2, 0] rfl)
theorem k_Mo_earliest_2 {p : Program} {l : Launch} {e : Env} {s : State} {m : MethodId} {args : Array Value} {below : List Frame} {meth : Method} {c : Code} {g : GX} {mo : Nat} {a : Nat → Nat} {o : IV} {now : LV} {dr : LV} {pa : LV} {sa : LV} {iS : IV} {bu : IV} {tq : IV} {rT : IV} {wT : IV} {sK : IV} {sA : IV} {sB : IV} {sE : IV} {oq : IV} {bS : IV} {bE : IV} {bL : IV} {rp : IV} {p1 : Int32}  (C : Cx p s m args meth c (inW (wMo g mo a o now dr pa sa iS bu tq rT wT sK sA sB sE oq bS bE bL rp)) g "DecadeBridgeModel" b_Mo_earliest (some .int) 3) (f : Nat)  : HL_Mo_earliest_2 p l e s m args below meth c g mo a o now dr pa sa iS bu tq rT wT sK sA sB sE oq bS bE bL rp p1 (sp_Mo_earliest_2 p1 now  f) (ok_Mo_earliest_2 p1 now   f) := by
  induction f with
  | zero => intro x2p2 hok; exact False.elim hok
  | succ f ih => exact kb_Mo_earliest_2 C  ih
noncomputable def sp_Mo_earliest (p1 : Int32) (now : LV) : Int32 := sp_Mo_earliest_2 p1 now big (0 : Int32)
def ok_Mo_earliest (p1 : Int32) (now : LV) : Prop := ok_Mo_earliest_2 p1 now big (0 : Int32)
set_option maxRecDepth 100000 in
set_option maxHeartbeats 4000000 in
theorem c_Mo_earliest (l : Launch) (g : GX) (mo : Nat) (a : Nat → Nat) (o : IV) (now : LV) (dr : LV) (pa : LV) (sa : LV) (iS : IV) (bu : IV) (tq : IV) (rT : IV) (wT : IV) (sK : IV) (sA : IV) (sB : IV) (sE : IV) (oq : IV) (bS : IV) (bE : IV) (bL : IV) (rp : IV) (p1 : Int32) (hok : ok_Mo_earliest p1 now) : Met l y_Mo_earliest (wsY y_Mo_earliest b_Mo_earliest 3 (some .int)) rm_Mo_earliest (CP g [.ref mo, .int p1] (wMo g mo a o now dr pa sa iS bu tq rT wT sK sA sB sE oq bS bE bL rp)) (CI0 g (wMo g mo a o now dr pa sa iS bu tq rT wT sK sA sB sE oq bS bE bL rp) (sp_Mo_earliest p1 now)) 0 0 (inW (wMo g mo a o now dr pa sa iS bu tq rT wT sK sA sB sE oq bS bE bL rp)) := by
  refine Met.ofW (cc := b_Mo_earliest) (maxL := 3) (ret := (some .int)) pn_Mo rfl ?_
  intro p e s m args below meth c s₁ B hml hv
  obtain ⟨rfl, C, hP, hD, hS⟩ := enter "DecadeBridgeModel" rfl B hml hv
  obtain ⟨hx, hb, hr, hml, hown, hlk, hts, hK, hZo, hZ⟩ := id C
  refine entryW (lv := [(0, .ref mo), (1, .int p1)]) rfl (Nat.le_of_ble_eq_true rfl) (fun ls hl => ?_)
  obtain ⟨z, hz⟩ : ∃ z, z = sp_Mo_earliest p1 now := ⟨_, rfl⟩
  rw [← hz]
  unfold sp_Mo_earliest at hz
  unfold ok_Mo_earliest at hok
  refine lv_iconst (v := 0) hx hb d_Mo_earliest_0 (by decide) ?_
  refine lv_istore_n (lv' := [(2, .int (0 : Int32)), (0, .ref mo), (1, .int p1)]) hx hb d_Mo_earliest_1 rfl hl (by decide) rfl (fun ls hl => ?_)
  exact k_Mo_earliest_2 C big (0 : Int32) hok _ hz _ _ ls hP hD hS (lv_sub hl [1, 2, 0] rfl)
abbrev rm_Mo_isEarliest : Room := { frames := 3, cells := 0, slots := 0, locals := 66 }
noncomputable def sp_Mo_isEarliest (p1 : Int32) (now : LV) : Int32 := lett (sp_Mo_earliest p1 now) fun (y2 : Int32) => if y2 = p1 then ((1 : Int32)) else ((0 : Int32))
def ok_Mo_isEarliest (p1 : Int32) (now : LV) : Prop := (ok_Mo_earliest p1 now) ∧ True
set_option maxRecDepth 100000 in
set_option maxHeartbeats 4000000 in
theorem c_Mo_isEarliest (l : Launch) (g : GX) (mo : Nat) (a : Nat → Nat) (o : IV) (now : LV) (dr : LV) (pa : LV) (sa : LV) (iS : IV) (bu : IV) (tq : IV) (rT : IV) (wT : IV) (sK : IV) (sA : IV) (sB : IV) (sE : IV) (oq : IV) (bS : IV) (bE : IV) (bL : IV) (rp : IV) (p1 : Int32) (hok : ok_Mo_isEarliest p1 now) : Met l y_Mo_isEarliest (wsY y_Mo_isEarliest b_Mo_isEarliest 2 (some .boolean)) rm_Mo_isEarliest (CP g [.ref mo, .int p1] (wMo g mo a o now dr pa sa iS bu tq rT wT sK sA sB sE oq bS bE bL rp)) (CI0 g (wMo g mo a o now dr pa sa iS bu tq rT wT sK sA sB sE oq bS bE bL rp) (sp_Mo_isEarliest p1 now)) 0 0 (inW (wMo g mo a o now dr pa sa iS bu tq rT wT sK sA sB sE oq bS bE bL rp)) := by
  refine Met.ofW (cc := b_Mo_isEarliest) (maxL := 2) (ret := (some .boolean)) pn_Mo rfl ?_
  intro p e s m args below meth c s₁ B hml hv
  obtain ⟨rfl, C, hP, hD, hS⟩ := enter "DecadeBridgeModel" rfl B hml hv
  obtain ⟨hx, hb, hr, hml, hown, hlk, hts, hK, hZo, hZ⟩ := id C
  refine entryW (lv := [(0, .ref mo), (1, .int p1)]) rfl (Nat.le_of_ble_eq_true rfl) (fun ls hl => ?_)
  obtain ⟨z, hz⟩ : ∃ z, z = sp_Mo_isEarliest p1 now := ⟨_, rfl⟩
  rw [← hz]
  unfold sp_Mo_isEarliest at hz
  unfold ok_Mo_isEarliest at hok
  refine lv_aload_n hx hb d_Mo_isEarliest_0 rfl (lv_at hl 0 rfl) ?_
  refine lv_iload_n hx hb d_Mo_isEarliest_1 rfl (lv_at hl 1 rfl) ?_
  have hs1 := hok.1
  have hok := hok.2
  have hB : SubW g (inW (wMo g mo a o now dr pa sa iS bu tq rT wT sK sA sB sE oq bS bE bL rp)) s (wMo g mo a o now dr pa sa iS bu tq rT wT sK sA sB sE oq bS bE bL rp) _ (List.range _) _ _ := (subF hP hD hS)
  refine goI0 hB (run_v C mf_Mo_earliest qm_Mo_414 (c_Mo_earliest l g mo a o now dr pa sa iS bu tq rT wT sK sA sB sE oq bS bE bL rp p1 hs1) rfl rfl ⟨Nat.le_of_ble_eq_true rfl, Nat.le_of_ble_eq_true rfl⟩ ⟨Nat.le_of_ble_eq_true rfl, Nat.le_of_ble_eq_true rfl⟩ hB rfl rfl hl rfl rfl (Nat.le_of_ble_eq_true rfl) d_Mo_isEarliest_2) (fun y2 ey2 H locs hP hS => ?_)
  have hz := lett_z hz ey2
  refine lv_iload_n hx hb d_Mo_isEarliest_5 rfl (lv_at hl 1 rfl) ?_
  refine lv_icmp_ne (tgt := 13) hx hb d_Mo_isEarliest_6 (by decide) (fun c3 => ?_) (fun c3 => ?_)
  · have hz := hz.trans (if_neg c3)
    refine lv_iconst (v := 0) hx hb d_Mo_isEarliest_13 (by decide) ?_
    exact endZ0 C hz hP hS rfl d_Mo_isEarliest_14
  · have hz := hz.trans (if_pos c3)
    refine lv_iconst (v := 1) hx hb d_Mo_isEarliest_9 (by decide) ?_
    refine lv_goto (tgt := 14) hx hb d_Mo_isEarliest_10 (by decide) ?_
    exact endZ0 C hz hP hS rfl d_Mo_isEarliest_14
abbrev rm_Mo_earliestOf : Room := { frames := 4, cells := 0, slots := 0, locals := 87 }
def HL_Mo_earliestOf_4 (p : Program) (l : Launch) (e : Env) (s : State) (m : MethodId) (args : Array Value) (below : List Frame) (meth : Method) (c : Code) (g : GX) (mo : Nat) (a : Nat → Nat) (o : IV) (now : LV) (dr : LV) (pa : LV) (sa : LV) (iS : IV) (bu : IV) (tq : IV) (rT : IV) (wT : IV) (sK : IV) (sA : IV) (sB : IV) (sE : IV) (oq : IV) (bS : IV) (bE : IV) (bL : IV) (rp : IV) (p1 : Int32) (sp : Int32 → Int32 → Int32) (ok : Int32 → Int32 → Prop) : Prop := ∀ (x2p4 : Int32) (x3p4 : Int32), ok x2p4 x3p4 → ∀ z : Int32, z = sp x2p4 x3p4 → ∀ (H : Heap) (locs : List Loc) (ls : Array Slot), va_P g.1 vwCl (wMo g mo a o now dr pa sa iS bu tq rT wT sK sA sB sE oq bS bE bL rp) H → va_D (inW (wMo g mo a o now dr pa sa iS bu tq rT wT sK sA sB sE oq bS bE bL rp)) (wMo g mo a o now dr pa sa iS bu tq rT wT sK sA sB sE oq bS bE bL rp) → va_S (inW (wMo g mo a o now dr pa sa iS bu tq rT wT sK sA sB sE oq bS bE bL rp)) s.heap H locs → lv_has ls 4 [(0, .ref mo), (1, .int p1), (2, .int x2p4), (3, .int x3p4)] → W p l e rm_Mo_earliestOf s m args below meth c H locs 0 0 (MQ below (CI0 g (wMo g mo a o now dr pa sa iS bu tq rT wT sK sA sB sE oq bS bE bL rp) z) args s 0 0 (inW (wMo g mo a o now dr pa sa iS bu tq rT wT sK sA sB sE oq bS bE bL rp))) (F0 m 4 ls [])
def HL_Mo_earliestOf_23 (p : Program) (l : Launch) (e : Env) (s : State) (m : MethodId) (args : Array Value) (below : List Frame) (meth : Method) (c : Code) (g : GX) (mo : Nat) (a : Nat → Nat) (o : IV) (now : LV) (dr : LV) (pa : LV) (sa : LV) (iS : IV) (bu : IV) (tq : IV) (rT : IV) (wT : IV) (sK : IV) (sA : IV) (sB : IV) (sE : IV) (oq : IV) (bS : IV) (bE : IV) (bL : IV) (rp : IV) (p1 : Int32) (x2p4 : Int32) (x3p4 : Int32) (sp : Int32 → Int32) (ok : Int32 → Prop) : Prop := ∀ (t1p23 : Int32), ok t1p23 → ∀ z : Int32, z = sp t1p23 → ∀ (H : Heap) (locs : List Loc) (ls : Array Slot), va_P g.1 vwCl (wMo g mo a o now dr pa sa iS bu tq rT wT sK sA sB sE oq bS bE bL rp) H → va_D (inW (wMo g mo a o now dr pa sa iS bu tq rT wT sK sA sB sE oq bS bE bL rp)) (wMo g mo a o now dr pa sa iS bu tq rT wT sK sA sB sE oq bS bE bL rp) → va_S (inW (wMo g mo a o now dr pa sa iS bu tq rT wT sK sA sB sE oq bS bE bL rp)) s.heap H locs → lv_has ls 4 [(0, .ref mo), (1, .int p1), (2, .int x2p4)] → W p l e rm_Mo_earliestOf s m args below meth c H locs 0 0 (MQ below (CI0 g (wMo g mo a o now dr pa sa iS bu tq rT wT sK sA sB sE oq bS bE bL rp) z) args s 0 0 (inW (wMo g mo a o now dr pa sa iS bu tq rT wT sK sA sB sE oq bS bE bL rp))) (F0 m 23 ls [.int t1p23, .int x3p4])
def HL_Mo_earliestOf_31 (p : Program) (l : Launch) (e : Env) (s : State) (m : MethodId) (args : Array Value) (below : List Frame) (meth : Method) (c : Code) (g : GX) (mo : Nat) (a : Nat → Nat) (o : IV) (now : LV) (dr : LV) (pa : LV) (sa : LV) (iS : IV) (bu : IV) (tq : IV) (rT : IV) (wT : IV) (sK : IV) (sA : IV) (sB : IV) (sE : IV) (oq : IV) (bS : IV) (bE : IV) (bL : IV) (rp : IV) (x2p4 : Int32) (sp : Int32) (ok : Prop) : Prop := ∀ (_ : Unit), ok → ∀ z : Int32, z = sp → ∀ (H : Heap) (locs : List Loc) (ls : Array Slot), va_P g.1 vwCl (wMo g mo a o now dr pa sa iS bu tq rT wT sK sA sB sE oq bS bE bL rp) H → va_D (inW (wMo g mo a o now dr pa sa iS bu tq rT wT sK sA sB sE oq bS bE bL rp)) (wMo g mo a o now dr pa sa iS bu tq rT wT sK sA sB sE oq bS bE bL rp) → va_S (inW (wMo g mo a o now dr pa sa iS bu tq rT wT sK sA sB sE oq bS bE bL rp)) s.heap H locs → lv_has ls 4 [(2, .int x2p4)] → W p l e rm_Mo_earliestOf s m args below meth c H locs 0 0 (MQ below (CI0 g (wMo g mo a o now dr pa sa iS bu tq rT wT sK sA sB sE oq bS bE bL rp) z) args s 0 0 (inW (wMo g mo a o now dr pa sa iS bu tq rT wT sK sA sB sE oq bS bE bL rp))) (F0 m 31 ls [])
noncomputable def sp_Mo_earliestOf_31 (x2p4 : Int32)   : Int32 := x2p4 - (1 : Int32)
def ok_Mo_earliestOf_31 (x2p4 : Int32)    : Prop := True
set_option maxRecDepth 100000 in
set_option maxHeartbeats 4000000 in
theorem k_Mo_earliestOf_31 {p : Program} {l : Launch} {e : Env} {s : State} {m : MethodId} {args : Array Value} {below : List Frame} {meth : Method} {c : Code} {g : GX} {mo : Nat} {a : Nat → Nat} {o : IV} {now : LV} {dr : LV} {pa : LV} {sa : LV} {iS : IV} {bu : IV} {tq : IV} {rT : IV} {wT : IV} {sK : IV} {sA : IV} {sB : IV} {sE : IV} {oq : IV} {bS : IV} {bE : IV} {bL : IV} {rp : IV} {x2p4 : Int32}  (C : Cx p s m args meth c (inW (wMo g mo a o now dr pa sa iS bu tq rT wT sK sA sB sE oq bS bE bL rp)) g "DecadeBridgeModel" b_Mo_earliestOf (some .int) 4)  : HL_Mo_earliestOf_31 p l e s m args below meth c g mo a o now dr pa sa iS bu tq rT wT sK sA sB sE oq bS bE bL rp x2p4 (sp_Mo_earliestOf_31 x2p4 ) (ok_Mo_earliestOf_31 x2p4  ) := by
  intro _ hok z hz H locs ls hP hD hS hl
  obtain ⟨hx, hb, hr, hml, hown, hlk, hts, hK, hZo, hZ⟩ := id C
  unfold sp_Mo_earliestOf_31 at hz
  refine lv_iload_n hx hb d_Mo_earliestOf_31 rfl (lv_at hl 0 rfl) ?_
  refine lv_iconst (v := 1) hx hb d_Mo_earliestOf_32 (by decide) ?_
  refine lv_isub hx hb d_Mo_earliestOf_33 ?_
  exact endI0 C hz hP hS d_Mo_earliestOf_34
noncomputable def sp_Mo_earliestOf_23 (x3p4 : Int32) (x2p4 : Int32) (r4 : Int32 → Int32 → Int32) (t1p23 : Int32) : Int32 := lett (x3p4 + t1p23) fun (v5 : Int32) => lett (x2p4 + (1 : Int32)) fun (v6 : Int32) => r4 v6 v5
def ok_Mo_earliestOf_23 (x3p4 : Int32) (x2p4 : Int32) (r4 : Int32 → Int32 → Int32) (q4 : Int32 → Int32 → Prop) (t1p23 : Int32) : Prop := lett (x3p4 + t1p23) fun (v5 : Int32) => lett (x2p4 + (1 : Int32)) fun (v6 : Int32) => q4 v6 v5
set_option maxRecDepth 100000 in
set_option maxHeartbeats 4000000 in
theorem k_Mo_earliestOf_23 {p : Program} {l : Launch} {e : Env} {s : State} {m : MethodId} {args : Array Value} {below : List Frame} {meth : Method} {c : Code} {g : GX} {mo : Nat} {a : Nat → Nat} {o : IV} {now : LV} {dr : LV} {pa : LV} {sa : LV} {iS : IV} {bu : IV} {tq : IV} {rT : IV} {wT : IV} {sK : IV} {sA : IV} {sB : IV} {sE : IV} {oq : IV} {bS : IV} {bE : IV} {bL : IV} {rp : IV} {p1 : Int32} {x2p4 : Int32} {x3p4 : Int32} {r4 : Int32 → Int32 → Int32} {q4 : Int32 → Int32 → Prop} (C : Cx p s m args meth c (inW (wMo g mo a o now dr pa sa iS bu tq rT wT sK sA sB sE oq bS bE bL rp)) g "DecadeBridgeModel" b_Mo_earliestOf (some .int) 4) (ih4 : HL_Mo_earliestOf_4 p l e s m args below meth c g mo a o now dr pa sa iS bu tq rT wT sK sA sB sE oq bS bE bL rp p1 r4 q4) : HL_Mo_earliestOf_23 p l e s m args below meth c g mo a o now dr pa sa iS bu tq rT wT sK sA sB sE oq bS bE bL rp p1 x2p4 x3p4 (sp_Mo_earliestOf_23 x3p4 x2p4 r4) (ok_Mo_earliestOf_23 x3p4 x2p4 r4 q4) := by
  intro t1p23 hok z hz H locs ls hP hD hS hl
  obtain ⟨hx, hb, hr, hml, hown, hlk, hts, hK, hZo, hZ⟩ := id C
  unfold sp_Mo_earliestOf_23 at hz
  unfold ok_Mo_earliestOf_23 at hok
  refine lv_iadd hx hb d_Mo_earliestOf_23 ?_
  refine lv_topi (fun v5 ev5 => ?_)
  have hz := lett_z hz ev5
  have hok := lett_o hok ev5
  refine lv_istore_n (lv' := [(3, .int v5), (0, .ref mo), (1, .int p1), (2, .int x2p4)]) hx hb d_Mo_earliestOf_24 rfl hl (by decide) rfl (fun ls hl => ?_)
  obtain ⟨v6, ev6⟩ : ∃ y : Int32, y = x2p4 + (1 : Int32) := ⟨_, rfl⟩
  have hz := lett_z hz ev6
  have hok := lett_o hok ev6
  refine lv_iinc (v := v6) (lv' := [(2, .int v6), (3, .int v5), (0, .ref mo), (1, .int p1)]) hx hb d_Mo_earliestOf_25 hl (k := 3) rfl (by rw [ev6]; rfl) (by decide) rfl (fun ls hl => ?_)
  refine lv_goto (tgt := 4) hx hb d_Mo_earliestOf_28 (by decide) ?_
  exact ih4 v6 v5 hok _ hz _ _ ls hP hD hS (lv_sub hl [2, 3, 0, 1] rfl)
noncomputable def bd_Mo_earliestOf_4 (p1 : Int32) (now : LV) (r4 : Int32 → Int32 → Int32) (x2p4 : Int32) (x3p4 : Int32) : Int32 := if p1 < x3p4 then (sp_Mo_earliestOf_31 x2p4) else (lett (sp_Mo_isEarliest x2p4 now) fun (y3 : Int32) => if y3 = 0 then (sp_Mo_earliestOf_23 x3p4 x2p4 r4 (0 : Int32)) else (sp_Mo_earliestOf_23 x3p4 x2p4 r4 (1 : Int32)))
def okb_Mo_earliestOf_4 (p1 : Int32) (now : LV) (r4 : Int32 → Int32 → Int32) (q4 : Int32 → Int32 → Prop) (x2p4 : Int32) (x3p4 : Int32) : Prop := ((p1 < x3p4 → True) ∧ (¬ (p1 < x3p4) → (ok_Mo_isEarliest x2p4 now) ∧ lett (sp_Mo_isEarliest x2p4 now) fun (y3 : Int32) => ((y3 = 0 → ok_Mo_earliestOf_23 x3p4 x2p4 r4 q4 (0 : Int32)) ∧ (¬ (y3 = 0) → ok_Mo_earliestOf_23 x3p4 x2p4 r4 q4 (1 : Int32)))))
noncomputable def sp_Mo_earliestOf_4 (p1 : Int32) (now : LV)  : Nat → Int32 → Int32 → Int32
  | 0 => fun _ _ => default
  | f + 1 => bd_Mo_earliestOf_4 p1 now  (sp_Mo_earliestOf_4 p1 now  f)
def ok_Mo_earliestOf_4 (p1 : Int32) (now : LV)   : Nat → Int32 → Int32 → Prop
  | 0 => fun _ _ => False
  | f + 1 => okb_Mo_earliestOf_4 p1 now  (sp_Mo_earliestOf_4 p1 now  f)  (ok_Mo_earliestOf_4 p1 now   f)
set_option maxRecDepth 100000 in
set_option maxHeartbeats 4000000 in
theorem kb_Mo_earliestOf_4 {p : Program} {l : Launch} {e : Env} {s : State} {m : MethodId} {args : Array Value} {below : List Frame} {meth : Method} {c : Code} {g : GX} {mo : Nat} {a : Nat → Nat} {o : IV} {now : LV} {dr : LV} {pa : LV} {sa : LV} {iS : IV} {bu : IV} {tq : IV} {rT : IV} {wT : IV} {sK : IV} {sA : IV} {sB : IV} {sE : IV} {oq : IV} {bS : IV} {bE : IV} {bL : IV} {rp : IV} {p1 : Int32}  (C : Cx p s m args meth c (inW (wMo g mo a o now dr pa sa iS bu tq rT wT sK sA sB sE oq bS bE bL rp)) g "DecadeBridgeModel" b_Mo_earliestOf (some .int) 4) {r4 : Int32 → Int32 → Int32} {q4 : Int32 → Int32 → Prop}  (ih4 : HL_Mo_earliestOf_4 p l e s m args below meth c g mo a o now dr pa sa iS bu tq rT wT sK sA sB sE oq bS bE bL rp p1 r4 q4) : HL_Mo_earliestOf_4 p l e s m args below meth c g mo a o now dr pa sa iS bu tq rT wT sK sA sB sE oq bS bE bL rp p1 (bd_Mo_earliestOf_4 p1 now  r4) (okb_Mo_earliestOf_4 p1 now  r4  q4) := by
  intro x2p4 x3p4 hok z hz H locs ls hP hD hS hl
  obtain ⟨hx, hb, hr, hml, hown, hlk, hts, hK, hZo, hZ⟩ := id C
  unfold bd_Mo_earliestOf_4 at hz
  unfold okb_Mo_earliestOf_4 at hok
  refine lv_iload_n hx hb d_Mo_earliestOf_4 rfl (lv_at hl 3 rfl) ?_
  refine lv_iload_n hx hb d_Mo_earliestOf_5 rfl (lv_at hl 1 rfl) ?_
  refine lv_icmp_gt (tgt := 31) hx hb d_Mo_earliestOf_6 (by decide) (fun c1 => ?_) (fun c1 => ?_)
  · have hz := hz.trans (if_pos c1)
    exact k_Mo_earliestOf_31 C () trivial _ hz _ _ ls hP hD hS (lv_sub hl [2] rfl)
  · have hz := hz.trans (if_neg c1)
    have hok := hok.2 c1
    refine lv_iload_n hx hb d_Mo_earliestOf_9 rfl (lv_at hl 3 rfl) ?_
    refine lv_aload_n hx hb d_Mo_earliestOf_10 rfl (lv_at hl 0 rfl) ?_
    refine lv_iload_n hx hb d_Mo_earliestOf_11 rfl (lv_at hl 2 rfl) ?_
    have hs2 := hok.1
    have hok := hok.2
    have hB : SubW g (inW (wMo g mo a o now dr pa sa iS bu tq rT wT sK sA sB sE oq bS bE bL rp)) s (wMo g mo a o now dr pa sa iS bu tq rT wT sK sA sB sE oq bS bE bL rp) _ (List.range _) _ _ := (subF hP hD hS)
    refine goI0 hB (run_v C mf_Mo_isEarliest qm_Mo_403 (c_Mo_isEarliest l g mo a o now dr pa sa iS bu tq rT wT sK sA sB sE oq bS bE bL rp x2p4 hs2) rfl rfl ⟨Nat.le_of_ble_eq_true rfl, Nat.le_of_ble_eq_true rfl⟩ ⟨Nat.le_of_ble_eq_true rfl, Nat.le_of_ble_eq_true rfl⟩ hB rfl rfl hl rfl rfl (Nat.le_of_ble_eq_true rfl) d_Mo_earliestOf_12) (fun y3 ey3 H locs hP hS => ?_)
    have hz := lett_z hz ey3
    have hok := lett_o hok ey3
    refine lv_if_eq (tgt := 22) hx hb d_Mo_earliestOf_15 (by decide) (fun c4 => ?_) (fun c4 => ?_)
    · have hz := hz.trans (if_pos c4)
      have hok := hok.1 c4
      refine lv_iconst (v := 0) hx hb d_Mo_earliestOf_22 (by decide) ?_
      exact k_Mo_earliestOf_23 C ih4 (0 : Int32) hok _ hz _ _ ls hP hD hS (lv_sub hl [0, 1, 2] rfl)
    · have hz := hz.trans (if_neg c4)
      have hok := hok.2 c4
      refine lv_iconst (v := 1) hx hb d_Mo_earliestOf_18 (by decide) ?_
      refine lv_goto (tgt := 23) hx hb d_Mo_earliestOf_19 (by decide) ?_
      exact k_Mo_earliestOf_23 C ih4 (1 : Int32) hok _ hz _ _ ls hP hD hS (lv_sub hl [0, 1, 2] rfl)
theorem k_Mo_earliestOf_4 {p : Program} {l : Launch} {e : Env} {s : State} {m : MethodId} {args : Array Value} {below : List Frame} {meth : Method} {c : Code} {g : GX} {mo : Nat} {a : Nat → Nat} {o : IV} {now : LV} {dr : LV} {pa : LV} {sa : LV} {iS : IV} {bu : IV} {tq : IV} {rT : IV} {wT : IV} {sK : IV} {sA : IV} {sB : IV} {sE : IV} {oq : IV} {bS : IV} {bE : IV} {bL : IV} {rp : IV} {p1 : Int32}  (C : Cx p s m args meth c (inW (wMo g mo a o now dr pa sa iS bu tq rT wT sK sA sB sE oq bS bE bL rp)) g "DecadeBridgeModel" b_Mo_earliestOf (some .int) 4) (f : Nat)  : HL_Mo_earliestOf_4 p l e s m args below meth c g mo a o now dr pa sa iS bu tq rT wT sK sA sB sE oq bS bE bL rp p1 (sp_Mo_earliestOf_4 p1 now  f) (ok_Mo_earliestOf_4 p1 now   f) := by
  induction f with
  | zero => intro x2p4 x3p4 hok; exact False.elim hok
  | succ f ih => exact kb_Mo_earliestOf_4 C  ih
noncomputable def sp_Mo_earliestOf (p1 : Int32) (now : LV) : Int32 := sp_Mo_earliestOf_4 p1 now big (0 : Int32) (0 : Int32)
def ok_Mo_earliestOf (p1 : Int32) (now : LV) : Prop := ok_Mo_earliestOf_4 p1 now big (0 : Int32) (0 : Int32)
set_option maxRecDepth 100000 in
set_option maxHeartbeats 4000000 in
theorem c_Mo_earliestOf (l : Launch) (g : GX) (mo : Nat) (a : Nat → Nat) (o : IV) (now : LV) (dr : LV) (pa : LV) (sa : LV) (iS : IV) (bu : IV) (tq : IV) (rT : IV) (wT : IV) (sK : IV) (sA : IV) (sB : IV) (sE : IV) (oq : IV) (bS : IV) (bE : IV) (bL : IV) (rp : IV) (p1 : Int32) (hok : ok_Mo_earliestOf p1 now) : Met l y_Mo_earliestOf (wsY y_Mo_earliestOf b_Mo_earliestOf 4 (some .int)) rm_Mo_earliestOf (CP g [.ref mo, .int p1] (wMo g mo a o now dr pa sa iS bu tq rT wT sK sA sB sE oq bS bE bL rp)) (CI0 g (wMo g mo a o now dr pa sa iS bu tq rT wT sK sA sB sE oq bS bE bL rp) (sp_Mo_earliestOf p1 now)) 0 0 (inW (wMo g mo a o now dr pa sa iS bu tq rT wT sK sA sB sE oq bS bE bL rp)) := by
  refine Met.ofW (cc := b_Mo_earliestOf) (maxL := 4) (ret := (some .int)) pn_Mo rfl ?_
  intro p e s m args below meth c s₁ B hml hv
  obtain ⟨rfl, C, hP, hD, hS⟩ := enter "DecadeBridgeModel" rfl B hml hv
  obtain ⟨hx, hb, hr, hml, hown, hlk, hts, hK, hZo, hZ⟩ := id C
  refine entryW (lv := [(0, .ref mo), (1, .int p1)]) rfl (Nat.le_of_ble_eq_true rfl) (fun ls hl => ?_)
  obtain ⟨z, hz⟩ : ∃ z, z = sp_Mo_earliestOf p1 now := ⟨_, rfl⟩
  rw [← hz]
  unfold sp_Mo_earliestOf at hz
  unfold ok_Mo_earliestOf at hok
  refine lv_iconst (v := 0) hx hb d_Mo_earliestOf_0 (by decide) ?_
  refine lv_istore_n (lv' := [(2, .int (0 : Int32)), (0, .ref mo), (1, .int p1)]) hx hb d_Mo_earliestOf_1 rfl hl (by decide) rfl (fun ls hl => ?_)
  refine lv_iconst (v := 0) hx hb d_Mo_earliestOf_2 (by decide) ?_
  refine lv_istore_n (lv' := [(3, .int (0 : Int32)), (2, .int (0 : Int32)), (0, .ref mo), (1, .int p1)]) hx hb d_Mo_earliestOf_3 rfl hl (by decide) rfl (fun ls hl => ?_)
  exact k_Mo_earliestOf_4 C big (0 : Int32) (0 : Int32) hok _ hz _ _ ls hP hD hS (lv_sub hl [2, 3, 1, 0] rfl)
abbrev rm_Mo_mannerOf : Room := { frames := 4, cells := 0, slots := 0, locals := 87 }
def HL_Mo_mannerOf_4 (p : Program) (l : Launch) (e : Env) (s : State) (m : MethodId) (args : Array Value) (below : List Frame) (meth : Method) (c : Code) (g : GX) (mo : Nat) (a : Nat → Nat) (o : IV) (now : LV) (dr : LV) (pa : LV) (sa : LV) (iS : IV) (bu : IV) (tq : IV) (rT : IV) (wT : IV) (sK : IV) (sA : IV) (sB : IV) (sE : IV) (oq : IV) (bS : IV) (bE : IV) (bL : IV) (rp : IV) (p1 : Int32) (sp : Int32 → Int32 → Int32) (ok : Int32 → Int32 → Prop) : Prop := ∀ (x2p4 : Int32) (x3p4 : Int32), ok x2p4 x3p4 → ∀ z : Int32, z = sp x2p4 x3p4 → ∀ (H : Heap) (locs : List Loc) (ls : Array Slot), va_P g.1 vwCl (wMo g mo a o now dr pa sa iS bu tq rT wT sK sA sB sE oq bS bE bL rp) H → va_D (inW (wMo g mo a o now dr pa sa iS bu tq rT wT sK sA sB sE oq bS bE bL rp)) (wMo g mo a o now dr pa sa iS bu tq rT wT sK sA sB sE oq bS bE bL rp) → va_S (inW (wMo g mo a o now dr pa sa iS bu tq rT wT sK sA sB sE oq bS bE bL rp)) s.heap H locs → lv_has ls 4 [(0, .ref mo), (1, .int p1), (2, .int x2p4), (3, .int x3p4)] → W p l e rm_Mo_mannerOf s m args below meth c H locs 0 0 (MQ below (CI0 g (wMo g mo a o now dr pa sa iS bu tq rT wT sK sA sB sE oq bS bE bL rp) z) args s 0 0 (inW (wMo g mo a o now dr pa sa iS bu tq rT wT sK sA sB sE oq bS bE bL rp))) (F0 m 4 ls [])
def HL_Mo_mannerOf_27 (p : Program) (l : Launch) (e : Env) (s : State) (m : MethodId) (args : Array Value) (below : List Frame) (meth : Method) (c : Code) (g : GX) (mo : Nat) (a : Nat → Nat) (o : IV) (now : LV) (dr : LV) (pa : LV) (sa : LV) (iS : IV) (bu : IV) (tq : IV) (rT : IV) (wT : IV) (sK : IV) (sA : IV) (sB : IV) (sE : IV) (oq : IV) (bS : IV) (bE : IV) (bL : IV) (rp : IV) (p1 : Int32) (x3p4 : Int32) (x2p4 : Int32) (sp : Int32 → Int32) (ok : Int32 → Prop) : Prop := ∀ (t1p27 : Int32), ok t1p27 → ∀ z : Int32, z = sp t1p27 → ∀ (H : Heap) (locs : List Loc) (ls : Array Slot), va_P g.1 vwCl (wMo g mo a o now dr pa sa iS bu tq rT wT sK sA sB sE oq bS bE bL rp) H → va_D (inW (wMo g mo a o now dr pa sa iS bu tq rT wT sK sA sB sE oq bS bE bL rp)) (wMo g mo a o now dr pa sa iS bu tq rT wT sK sA sB sE oq bS bE bL rp) → va_S (inW (wMo g mo a o now dr pa sa iS bu tq rT wT sK sA sB sE oq bS bE bL rp)) s.heap H locs → lv_has ls 4 [(0, .ref mo), (1, .int p1), (3, .int x3p4)] → W p l e rm_Mo_mannerOf s m args below meth c H locs 0 0 (MQ below (CI0 g (wMo g mo a o now dr pa sa iS bu tq rT wT sK sA sB sE oq bS bE bL rp) z) args s 0 0 (inW (wMo g mo a o now dr pa sa iS bu tq rT wT sK sA sB sE oq bS bE bL rp))) (F0 m 27 ls [.int t1p27, .int x2p4])
noncomputable def sp_Mo_mannerOf_27 (x2p4 : Int32) (x3p4 : Int32) (r4 : Int32 → Int32 → Int32) (t1p27 : Int32) : Int32 := lett (x2p4 + t1p27) fun (v7 : Int32) => lett (x3p4 + (1 : Int32)) fun (v8 : Int32) => r4 v7 v8
def ok_Mo_mannerOf_27 (x2p4 : Int32) (x3p4 : Int32) (r4 : Int32 → Int32 → Int32) (q4 : Int32 → Int32 → Prop) (t1p27 : Int32) : Prop := lett (x2p4 + t1p27) fun (v7 : Int32) => lett (x3p4 + (1 : Int32)) fun (v8 : Int32) => q4 v7 v8
set_option maxRecDepth 100000 in
set_option maxHeartbeats 4000000 in
theorem k_Mo_mannerOf_27 {p : Program} {l : Launch} {e : Env} {s : State} {m : MethodId} {args : Array Value} {below : List Frame} {meth : Method} {c : Code} {g : GX} {mo : Nat} {a : Nat → Nat} {o : IV} {now : LV} {dr : LV} {pa : LV} {sa : LV} {iS : IV} {bu : IV} {tq : IV} {rT : IV} {wT : IV} {sK : IV} {sA : IV} {sB : IV} {sE : IV} {oq : IV} {bS : IV} {bE : IV} {bL : IV} {rp : IV} {p1 : Int32} {x3p4 : Int32} {x2p4 : Int32} {r4 : Int32 → Int32 → Int32} {q4 : Int32 → Int32 → Prop} (C : Cx p s m args meth c (inW (wMo g mo a o now dr pa sa iS bu tq rT wT sK sA sB sE oq bS bE bL rp)) g "DecadeBridgeModel" b_Mo_mannerOf (some .int) 4) (ih4 : HL_Mo_mannerOf_4 p l e s m args below meth c g mo a o now dr pa sa iS bu tq rT wT sK sA sB sE oq bS bE bL rp p1 r4 q4) : HL_Mo_mannerOf_27 p l e s m args below meth c g mo a o now dr pa sa iS bu tq rT wT sK sA sB sE oq bS bE bL rp p1 x3p4 x2p4 (sp_Mo_mannerOf_27 x2p4 x3p4 r4) (ok_Mo_mannerOf_27 x2p4 x3p4 r4 q4) := by
  intro t1p27 hok z hz H locs ls hP hD hS hl
  obtain ⟨hx, hb, hr, hml, hown, hlk, hts, hK, hZo, hZ⟩ := id C
  unfold sp_Mo_mannerOf_27 at hz
  unfold ok_Mo_mannerOf_27 at hok
  refine lv_iadd hx hb d_Mo_mannerOf_27 ?_
  refine lv_topi (fun v7 ev7 => ?_)
  have hz := lett_z hz ev7
  have hok := lett_o hok ev7
  refine lv_istore_n (lv' := [(2, .int v7), (0, .ref mo), (1, .int p1), (3, .int x3p4)]) hx hb d_Mo_mannerOf_28 rfl hl (by decide) rfl (fun ls hl => ?_)
  obtain ⟨v8, ev8⟩ : ∃ y : Int32, y = x3p4 + (1 : Int32) := ⟨_, rfl⟩
  have hz := lett_z hz ev8
  have hok := lett_o hok ev8
  refine lv_iinc (v := v8) (lv' := [(3, .int v8), (2, .int v7), (0, .ref mo), (1, .int p1)]) hx hb d_Mo_mannerOf_29 hl (k := 3) rfl (by rw [ev8]; rfl) (by decide) rfl (fun ls hl => ?_)
  refine lv_goto (tgt := 4) hx hb d_Mo_mannerOf_32 (by decide) ?_
  exact ih4 v7 v8 hok _ hz _ _ ls hP hD hS (lv_sub hl [2, 3, 1, 0] rfl)
noncomputable def bd_Mo_mannerOf_4 (p1 : Int32) (now : LV) (r4 : Int32 → Int32 → Int32) (x2p4 : Int32) (x3p4 : Int32) : Int32 := lett (sp_Mo_earliest p1 now) fun (y2 : Int32) => if y2 ≤ x3p4 then (x2p4) else (lett (sp_Mo_isEarliest x3p4 now) fun (y5 : Int32) => if y5 = 0 then (sp_Mo_mannerOf_27 x2p4 x3p4 r4 (0 : Int32)) else (sp_Mo_mannerOf_27 x2p4 x3p4 r4 (1 : Int32)))
def okb_Mo_mannerOf_4 (p1 : Int32) (now : LV) (r4 : Int32 → Int32 → Int32) (q4 : Int32 → Int32 → Prop) (x2p4 : Int32) (x3p4 : Int32) : Prop := (ok_Mo_earliest p1 now) ∧ lett (sp_Mo_earliest p1 now) fun (y2 : Int32) => ((y2 ≤ x3p4 → True) ∧ (¬ (y2 ≤ x3p4) → (ok_Mo_isEarliest x3p4 now) ∧ lett (sp_Mo_isEarliest x3p4 now) fun (y5 : Int32) => ((y5 = 0 → ok_Mo_mannerOf_27 x2p4 x3p4 r4 q4 (0 : Int32)) ∧ (¬ (y5 = 0) → ok_Mo_mannerOf_27 x2p4 x3p4 r4 q4 (1 : Int32)))))
noncomputable def sp_Mo_mannerOf_4 (p1 : Int32) (now : LV)  : Nat → Int32 → Int32 → Int32
  | 0 => fun _ _ => default
  | f + 1 => bd_Mo_mannerOf_4 p1 now  (sp_Mo_mannerOf_4 p1 now  f)
def ok_Mo_mannerOf_4 (p1 : Int32) (now : LV)   : Nat → Int32 → Int32 → Prop
  | 0 => fun _ _ => False
  | f + 1 => okb_Mo_mannerOf_4 p1 now  (sp_Mo_mannerOf_4 p1 now  f)  (ok_Mo_mannerOf_4 p1 now   f)
set_option maxRecDepth 100000 in
set_option maxHeartbeats 4000000 in
theorem kb_Mo_mannerOf_4 {p : Program} {l : Launch} {e : Env} {s : State} {m : MethodId} {args : Array Value} {below : List Frame} {meth : Method} {c : Code} {g : GX} {mo : Nat} {a : Nat → Nat} {o : IV} {now : LV} {dr : LV} {pa : LV} {sa : LV} {iS : IV} {bu : IV} {tq : IV} {rT : IV} {wT : IV} {sK : IV} {sA : IV} {sB : IV} {sE : IV} {oq : IV} {bS : IV} {bE : IV} {bL : IV} {rp : IV} {p1 : Int32}  (C : Cx p s m args meth c (inW (wMo g mo a o now dr pa sa iS bu tq rT wT sK sA sB sE oq bS bE bL rp)) g "DecadeBridgeModel" b_Mo_mannerOf (some .int) 4) {r4 : Int32 → Int32 → Int32} {q4 : Int32 → Int32 → Prop}  (ih4 : HL_Mo_mannerOf_4 p l e s m args below meth c g mo a o now dr pa sa iS bu tq rT wT sK sA sB sE oq bS bE bL rp p1 r4 q4) : HL_Mo_mannerOf_4 p l e s m args below meth c g mo a o now dr pa sa iS bu tq rT wT sK sA sB sE oq bS bE bL rp p1 (bd_Mo_mannerOf_4 p1 now  r4) (okb_Mo_mannerOf_4 p1 now  r4  q4) := by
  intro x2p4 x3p4 hok z hz H locs ls hP hD hS hl
  obtain ⟨hx, hb, hr, hml, hown, hlk, hts, hK, hZo, hZ⟩ := id C
  unfold bd_Mo_mannerOf_4 at hz
  unfold okb_Mo_mannerOf_4 at hok
  refine lv_iload_n hx hb d_Mo_mannerOf_4 rfl (lv_at hl 3 rfl) ?_
  refine lv_aload_n hx hb d_Mo_mannerOf_5 rfl (lv_at hl 0 rfl) ?_
  refine lv_iload_n hx hb d_Mo_mannerOf_6 rfl (lv_at hl 1 rfl) ?_
  have hs1 := hok.1
  have hok := hok.2
  have hB : SubW g (inW (wMo g mo a o now dr pa sa iS bu tq rT wT sK sA sB sE oq bS bE bL rp)) s (wMo g mo a o now dr pa sa iS bu tq rT wT sK sA sB sE oq bS bE bL rp) _ (List.range _) _ _ := (subF hP hD hS)
  refine goI0 hB (run_v C mf_Mo_earliest qm_Mo_414 (c_Mo_earliest l g mo a o now dr pa sa iS bu tq rT wT sK sA sB sE oq bS bE bL rp p1 hs1) rfl rfl ⟨Nat.le_of_ble_eq_true rfl, Nat.le_of_ble_eq_true rfl⟩ ⟨Nat.le_of_ble_eq_true rfl, Nat.le_of_ble_eq_true rfl⟩ hB rfl rfl hl rfl rfl (Nat.le_of_ble_eq_true rfl) d_Mo_mannerOf_7) (fun y2 ey2 H locs hP hS => ?_)
  have hz := lett_z hz ey2
  have hok := lett_o hok ey2
  refine lv_icmp_ge (tgt := 35) hx hb d_Mo_mannerOf_10 (by decide) (fun c3 => ?_) (fun c3 => ?_)
  · have hz := hz.trans (if_pos c3)
    refine lv_iload_n hx hb d_Mo_mannerOf_35 rfl (lv_at hl 2 rfl) ?_
    exact endI0 C hz hP hS d_Mo_mannerOf_36
  · have hz := hz.trans (if_neg c3)
    have hok := hok.2 c3
    refine lv_iload_n hx hb d_Mo_mannerOf_13 rfl (lv_at hl 2 rfl) ?_
    refine lv_aload_n hx hb d_Mo_mannerOf_14 rfl (lv_at hl 0 rfl) ?_
    refine lv_iload_n hx hb d_Mo_mannerOf_15 rfl (lv_at hl 3 rfl) ?_
    have hs4 := hok.1
    have hok := hok.2
    have hB : SubW g (inW (wMo g mo a o now dr pa sa iS bu tq rT wT sK sA sB sE oq bS bE bL rp)) s (wMo g mo a o now dr pa sa iS bu tq rT wT sK sA sB sE oq bS bE bL rp) _ (List.range _) _ _ := (subF hP hD hS)
    refine goI0 hB (run_v C mf_Mo_isEarliest qm_Mo_403 (c_Mo_isEarliest l g mo a o now dr pa sa iS bu tq rT wT sK sA sB sE oq bS bE bL rp x3p4 hs4) rfl rfl ⟨Nat.le_of_ble_eq_true rfl, Nat.le_of_ble_eq_true rfl⟩ ⟨Nat.le_of_ble_eq_true rfl, Nat.le_of_ble_eq_true rfl⟩ hB rfl rfl hl rfl rfl (Nat.le_of_ble_eq_true rfl) d_Mo_mannerOf_16) (fun y5 ey5 H locs hP hS => ?_)
    have hz := lett_z hz ey5
    have hok := lett_o hok ey5
    refine lv_if_eq (tgt := 26) hx hb d_Mo_mannerOf_19 (by decide) (fun c6 => ?_) (fun c6 => ?_)
    · have hz := hz.trans (if_pos c6)
      have hok := hok.1 c6
      refine lv_iconst (v := 0) hx hb d_Mo_mannerOf_26 (by decide) ?_
      exact k_Mo_mannerOf_27 C ih4 (0 : Int32) hok _ hz _ _ ls hP hD hS (lv_sub hl [0, 1, 3] rfl)
    · have hz := hz.trans (if_neg c6)
      have hok := hok.2 c6
      refine lv_iconst (v := 1) hx hb d_Mo_mannerOf_22 (by decide) ?_
      refine lv_goto (tgt := 27) hx hb d_Mo_mannerOf_23 (by decide) ?_
      exact k_Mo_mannerOf_27 C ih4 (1 : Int32) hok _ hz _ _ ls hP hD hS (lv_sub hl [0, 1, 3] rfl)
theorem k_Mo_mannerOf_4 {p : Program} {l : Launch} {e : Env} {s : State} {m : MethodId} {args : Array Value} {below : List Frame} {meth : Method} {c : Code} {g : GX} {mo : Nat} {a : Nat → Nat} {o : IV} {now : LV} {dr : LV} {pa : LV} {sa : LV} {iS : IV} {bu : IV} {tq : IV} {rT : IV} {wT : IV} {sK : IV} {sA : IV} {sB : IV} {sE : IV} {oq : IV} {bS : IV} {bE : IV} {bL : IV} {rp : IV} {p1 : Int32}  (C : Cx p s m args meth c (inW (wMo g mo a o now dr pa sa iS bu tq rT wT sK sA sB sE oq bS bE bL rp)) g "DecadeBridgeModel" b_Mo_mannerOf (some .int) 4) (f : Nat)  : HL_Mo_mannerOf_4 p l e s m args below meth c g mo a o now dr pa sa iS bu tq rT wT sK sA sB sE oq bS bE bL rp p1 (sp_Mo_mannerOf_4 p1 now  f) (ok_Mo_mannerOf_4 p1 now   f) := by
  induction f with
  | zero => intro x2p4 x3p4 hok; exact False.elim hok
  | succ f ih => exact kb_Mo_mannerOf_4 C  ih
noncomputable def sp_Mo_mannerOf (p1 : Int32) (now : LV) : Int32 := sp_Mo_mannerOf_4 p1 now big (0 : Int32) (0 : Int32)
def ok_Mo_mannerOf (p1 : Int32) (now : LV) : Prop := ok_Mo_mannerOf_4 p1 now big (0 : Int32) (0 : Int32)
set_option maxRecDepth 100000 in
set_option maxHeartbeats 4000000 in
theorem c_Mo_mannerOf (l : Launch) (g : GX) (mo : Nat) (a : Nat → Nat) (o : IV) (now : LV) (dr : LV) (pa : LV) (sa : LV) (iS : IV) (bu : IV) (tq : IV) (rT : IV) (wT : IV) (sK : IV) (sA : IV) (sB : IV) (sE : IV) (oq : IV) (bS : IV) (bE : IV) (bL : IV) (rp : IV) (p1 : Int32) (hok : ok_Mo_mannerOf p1 now) : Met l y_Mo_mannerOf (wsY y_Mo_mannerOf b_Mo_mannerOf 4 (some .int)) rm_Mo_mannerOf (CP g [.ref mo, .int p1] (wMo g mo a o now dr pa sa iS bu tq rT wT sK sA sB sE oq bS bE bL rp)) (CI0 g (wMo g mo a o now dr pa sa iS bu tq rT wT sK sA sB sE oq bS bE bL rp) (sp_Mo_mannerOf p1 now)) 0 0 (inW (wMo g mo a o now dr pa sa iS bu tq rT wT sK sA sB sE oq bS bE bL rp)) := by
  refine Met.ofW (cc := b_Mo_mannerOf) (maxL := 4) (ret := (some .int)) pn_Mo rfl ?_
  intro p e s m args below meth c s₁ B hml hv
  obtain ⟨rfl, C, hP, hD, hS⟩ := enter "DecadeBridgeModel" rfl B hml hv
  obtain ⟨hx, hb, hr, hml, hown, hlk, hts, hK, hZo, hZ⟩ := id C
  refine entryW (lv := [(0, .ref mo), (1, .int p1)]) rfl (Nat.le_of_ble_eq_true rfl) (fun ls hl => ?_)
  obtain ⟨z, hz⟩ : ∃ z, z = sp_Mo_mannerOf p1 now := ⟨_, rfl⟩
  rw [← hz]
  unfold sp_Mo_mannerOf at hz
  unfold ok_Mo_mannerOf at hok
  refine lv_iconst (v := 0) hx hb d_Mo_mannerOf_0 (by decide) ?_
  refine lv_istore_n (lv' := [(2, .int (0 : Int32)), (0, .ref mo), (1, .int p1)]) hx hb d_Mo_mannerOf_1 rfl hl (by decide) rfl (fun ls hl => ?_)
  refine lv_iconst (v := 0) hx hb d_Mo_mannerOf_2 (by decide) ?_
  refine lv_istore_n (lv' := [(3, .int (0 : Int32)), (2, .int (0 : Int32)), (0, .ref mo), (1, .int p1)]) hx hb d_Mo_mannerOf_3 rfl hl (by decide) rfl (fun ls hl => ?_)
  exact k_Mo_mannerOf_4 C big (0 : Int32) (0 : Int32) hok _ hz _ _ ls hP hD hS (lv_sub hl [2, 3, 1, 0] rfl)
abbrev rm_Mo_ratio : Room := { frames := 3, cells := 0, slots := 0, locals := 66 }
def HL_Mo_ratio_30 (p : Program) (l : Launch) (e : Env) (s : State) (m : MethodId) (args : Array Value) (below : List Frame) (meth : Method) (c : Code) (g : GX) (mo : Nat) (a : Nat → Nat) (ws0 : va_W) (o : IV) (now : LV) (dr : LV) (pa : LV) (sa : LV) (iS : IV) (bu : IV) (tq : IV) (rT : IV) (wT : IV) (sK : IV) (sA : IV) (sB : IV) (sE : IV) (oq : IV) (bS : IV) (bE : IV) (bL : IV) (rp : IV) (p1 : Int32) (p2 : Int32) (sp : Int32 → (Int32 × IV)) (ok : Int32 → Prop) : Prop := ∀ (t1p30 : Int32), ok t1p30 → ∀ z : (Int32 × IV), z = sp t1p30 → ∀ (H : Heap) (locs : List Loc) (ls : Array Slot), va_P g.1 vwCl (wMo g mo a o now dr pa sa iS bu tq rT wT sK sA sB sE oq bS bE bL rp) H → va_D (inW ws0) (wMo g mo a o now dr pa sa iS bu tq rT wT sK sA sB sE oq bS bE bL rp) → va_S (inW ws0) s.heap H locs → lv_has ls 3 [(0, .ref mo), (1, .int p1), (2, .int p2)] → W p l e rm_Mo_ratio s m args below meth c H locs 0 0 (MQ below (CI g ws0 (fun u : IV => wMo g mo a u now dr pa sa iS bu tq rT wT sK sA sB sE oq bS bE bL rp) z) args s 0 0 (inW ws0)) (F0 m 30 ls [.int t1p30, .ref mo])
def HL_Mo_ratio_77 (p : Program) (l : Launch) (e : Env) (s : State) (m : MethodId) (args : Array Value) (below : List Frame) (meth : Method) (c : Code) (g : GX) (mo : Nat) (a : Nat → Nat) (ws0 : va_W) (o_6 : IV) (now : LV) (dr : LV) (pa : LV) (sa : LV) (iS : IV) (bu : IV) (tq : IV) (rT : IV) (wT : IV) (sK : IV) (sA : IV) (sB : IV) (sE : IV) (oq : IV) (bS : IV) (bE : IV) (bL : IV) (rp : IV) (sp : Int64 → (Int32 × IV)) (ok : Int64 → Prop) : Prop := ∀ (t0p77 : Int64), ok t0p77 → ∀ z : (Int32 × IV), z = sp t0p77 → ∀ (H : Heap) (locs : List Loc) (ls : Array Slot), va_P g.1 vwCl (wMo g mo a o_6 now dr pa sa iS bu tq rT wT sK sA sB sE oq bS bE bL rp) H → va_D (inW ws0) (wMo g mo a o_6 now dr pa sa iS bu tq rT wT sK sA sB sE oq bS bE bL rp) → va_S (inW ws0) s.heap H locs → lv_has ls 3 [] → W p l e rm_Mo_ratio s m args below meth c H locs 0 0 (MQ below (CI g ws0 (fun u : IV => wMo g mo a u now dr pa sa iS bu tq rT wT sK sA sB sE oq bS bE bL rp) z) args s 0 0 (inW ws0)) (F0 m 77 ls [.long t0p77])
noncomputable def sp_Mo_ratio_77 (o_6 : IV)  (t0p77 : Int64) : Int32 × IV := (t0p77.toInt32, o_6)
def ok_Mo_ratio_77 (o_6 : IV)   (t0p77 : Int64) : Prop := True
set_option maxRecDepth 100000 in
set_option maxHeartbeats 4000000 in
theorem k_Mo_ratio_77 {p : Program} {l : Launch} {e : Env} {s : State} {m : MethodId} {args : Array Value} {below : List Frame} {meth : Method} {c : Code} {g : GX} {mo : Nat} {a : Nat → Nat} {ws0 : va_W} {o_6 : IV} {now : LV} {dr : LV} {pa : LV} {sa : LV} {iS : IV} {bu : IV} {tq : IV} {rT : IV} {wT : IV} {sK : IV} {sA : IV} {sB : IV} {sE : IV} {oq : IV} {bS : IV} {bE : IV} {bL : IV} {rp : IV}  (C : Cx p s m args meth c (inW ws0) g "DecadeBridgeModel" b_Mo_ratio (some .int) 3)  : HL_Mo_ratio_77 p l e s m args below meth c g mo a ws0 o_6 now dr pa sa iS bu tq rT wT sK sA sB sE oq bS bE bL rp (sp_Mo_ratio_77 o_6 ) (ok_Mo_ratio_77 o_6  ) := by
  intro t0p77 hok z hz H locs ls hP hD hS hl
  obtain ⟨hx, hb, hr, hml, hown, hlk, hts, hK, hZo, hZ⟩ := id C
  unfold sp_Mo_ratio_77 at hz
  refine lv_l2i hx hb d_Mo_ratio_77 rfl ?_
  exact endI1 C hz hP hS d_Mo_ratio_78
noncomputable def sp_Mo_ratio_30 (o : IV) (p2 : Int32) (p1 : Int32) (now : LV)  (t1p30 : Int32) : Int32 × IV := lett (upd o 6 t1p30) fun (o_6 : IV) => if (o_6 6) ≤ 0 then (if p2 = 0 then (lett (sp_Mo_nominal p1.toInt64) fun (y14 : Int64) => sp_Mo_ratio_77 o_6 y14) else (if p2 = (1 : Int32) then (sp_Mo_ratio_77 o_6 (now ((7 : Int32) + p1).toNatClampNeg)) else (lett (sp_Mo_ohmsOf p1.toInt64 now) fun (y11 : Int64) => sp_Mo_ratio_77 o_6 y11))) else (((0 : Int32), o_6))
def ok_Mo_ratio_30 (o : IV) (p2 : Int32) (p1 : Int32) (now : LV)   (t1p30 : Int32) : Prop := lett (upd o 6 t1p30) fun (o_6 : IV) => (((o_6 6) ≤ 0 → ((p2 = 0 → (ok_Mo_nominal p1.toInt64) ∧ True) ∧ (¬ (p2 = 0) → ((p2 = (1 : Int32) → (vp_in ((7 : Int32) + p1) 215) ∧ True) ∧ (¬ (p2 = (1 : Int32)) → (ok_Mo_ohmsOf p1.toInt64) ∧ True))))) ∧ (¬ ((o_6 6) ≤ 0) → True))
set_option maxRecDepth 100000 in
set_option maxHeartbeats 4000000 in
theorem k_Mo_ratio_30 {p : Program} {l : Launch} {e : Env} {s : State} {m : MethodId} {args : Array Value} {below : List Frame} {meth : Method} {c : Code} {g : GX} {mo : Nat} {a : Nat → Nat} {ws0 : va_W} {o : IV} {now : LV} {dr : LV} {pa : LV} {sa : LV} {iS : IV} {bu : IV} {tq : IV} {rT : IV} {wT : IV} {sK : IV} {sA : IV} {sB : IV} {sE : IV} {oq : IV} {bS : IV} {bE : IV} {bL : IV} {rp : IV} {p1 : Int32} {p2 : Int32}  (C : Cx p s m args meth c (inW ws0) g "DecadeBridgeModel" b_Mo_ratio (some .int) 3)  : HL_Mo_ratio_30 p l e s m args below meth c g mo a ws0 o now dr pa sa iS bu tq rT wT sK sA sB sE oq bS bE bL rp p1 p2 (sp_Mo_ratio_30 o p2 p1 now ) (ok_Mo_ratio_30 o p2 p1 now  ) := by
  intro t1p30 hok z hz H locs ls hP hD hS hl
  obtain ⟨hx, hb, hr, hml, hown, hlk, hts, hK, hZo, hZ⟩ := id C
  unfold sp_Mo_ratio_30 at hz
  unfold ok_Mo_ratio_30 at hok
  refine pfI C hP hD hS 0 6 fkMo rfl (by decide) rfl qf_Mo_107 rfl rfl rfl (Nat.le_of_ble_eq_true rfl) (ff := fun o => fMo a o) (sMo_6 _ _ _) d_Mo_ratio_30 (fun o_6 eo_6 H locs hP hD hS => ?_)
  have hP : va_P g.1 vwCl (wMo g mo a o_6 now dr pa sa iS bu tq rT wT sK sA sB sE oq bS bE bL rp) H := hP
  have hD : va_D (inW ws0) (wMo g mo a o_6 now dr pa sa iS bu tq rT wT sK sA sB sE oq bS bE bL rp) := hD
  have hz := lett_z hz eo_6
  have hok := lett_o hok eo_6
  refine lv_aload_n hx hb d_Mo_ratio_33 rfl (lv_at hl 0 rfl) ?_
  refine gf C hP 0 6 fkMo rfl (by decide) rfl qf_Mo_107 (gMo_6 _ _) d_Mo_ratio_34 ?_
  refine lv_if_le (tgt := 42) hx hb d_Mo_ratio_37 (by decide) (fun c7 => ?_) (fun c7 => ?_)
  · have hz := hz.trans (if_pos c7)
    have hok := hok.1 c7
    refine lv_iload_n hx hb d_Mo_ratio_42 rfl (lv_at hl 2 rfl) ?_
    refine lv_if_ne (tgt := 54) hx hb d_Mo_ratio_43 (by decide) (fun c8 => ?_) (fun c8 => ?_)
    · have hz := hz.trans (if_neg c8)
      have hok := hok.2 c8
      refine lv_iload_n hx hb d_Mo_ratio_54 rfl (lv_at hl 2 rfl) ?_
      refine lv_iconst (v := 1) hx hb d_Mo_ratio_55 (by decide) ?_
      refine lv_icmp_ne (tgt := 71) hx hb d_Mo_ratio_56 (by decide) (fun c9 => ?_) (fun c9 => ?_)
      · have hz := hz.trans (if_neg c9)
        have hok := hok.2 c9
        refine lv_aload_n hx hb d_Mo_ratio_71 rfl (lv_at hl 0 rfl) ?_
        refine lv_iload_n hx hb d_Mo_ratio_72 rfl (lv_at hl 1 rfl) ?_
        refine lv_i2l hx hb d_Mo_ratio_73 rfl ?_
        have hs10 := hok.1
        have hok := hok.2
        have hB : SubW g (inW ws0) s (wMo g mo a o_6 now dr pa sa iS bu tq rT wT sK sA sB sE oq bS bE bL rp) _ (List.range _) _ _ := (subF hP hD hS)
        refine goL0 hB (run_v C mf_Mo_ohmsOf qm_Mo_162 (c_Mo_ohmsOf l g mo a o_6 now dr pa sa iS bu tq rT wT sK sA sB sE oq bS bE bL rp p1.toInt64 hs10) rfl rfl ⟨Nat.le_of_ble_eq_true rfl, Nat.le_of_ble_eq_true rfl⟩ ⟨Nat.le_of_ble_eq_true rfl, Nat.le_of_ble_eq_true rfl⟩ hB rfl rfl hl rfl rfl (Nat.le_of_ble_eq_true rfl) d_Mo_ratio_74) (fun y11 ey11 H locs hP hS => ?_)
        have hz := lett_z hz ey11
        exact k_Mo_ratio_77 C y11 trivial _ hz _ _ ls hP hD hS (lv_sub hl [] rfl)
      · have hz := hz.trans (if_pos c9)
        have hok := hok.1 c9
        refine lv_aload_n hx hb d_Mo_ratio_59 rfl (lv_at hl 0 rfl) ?_
        refine gf C hP 0 0 fkMo rfl (by decide) rfl qf_Mo_7 (gMo_0 _ _) d_Mo_ratio_60 ?_
        refine lv_bipush (v := 7) hx hb d_Mo_ratio_63 (by decide) ?_
        refine lv_iload_n hx hb d_Mo_ratio_65 rfl (lv_at hl 1 rfl) ?_
        refine lv_iadd hx hb d_Mo_ratio_66 ?_
        have hs12 := hok.1
        have hok := hok.2
        refine ldL C hP 1 rfl hs12 rfl d_Mo_ratio_67 ?_
        refine lv_goto (tgt := 77) hx hb d_Mo_ratio_68 (by decide) ?_
        exact k_Mo_ratio_77 C (now ((7 : Int32) + p1).toNatClampNeg) trivial _ hz _ _ ls hP hD hS (lv_sub hl [] rfl)
    · have hz := hz.trans (if_pos c8)
      have hok := hok.1 c8
      refine lv_iload_n hx hb d_Mo_ratio_46 rfl (lv_at hl 1 rfl) ?_
      refine lv_i2l hx hb d_Mo_ratio_47 rfl ?_
      have hs13 := hok.1
      have hok := hok.2
      have hB : SubW g (inW ws0) s (wMo g mo a o_6 now dr pa sa iS bu tq rT wT sK sA sB sE oq bS bE bL rp) _ (List.range _) _ _ := (subF hP hD hS)
      refine goL0 hB (run_s C mf_Mo_nominal qm_Mo_126 (c_Mo_nominal l g mo a o_6 now dr pa sa iS bu tq rT wT sK sA sB sE oq bS bE bL rp p1.toInt64 hs13) rfl rfl ⟨Nat.le_of_ble_eq_true rfl, Nat.le_of_ble_eq_true rfl⟩ ⟨Nat.le_of_ble_eq_true rfl, Nat.le_of_ble_eq_true rfl⟩ hB hl rfl rfl (Nat.le_of_ble_eq_true rfl) d_Mo_ratio_48) (fun y14 ey14 H locs hP hS => ?_)
      have hz := lett_z hz ey14
      refine lv_goto (tgt := 77) hx hb d_Mo_ratio_51 (by decide) ?_
      exact k_Mo_ratio_77 C y14 trivial _ hz _ _ ls hP hD hS (lv_sub hl [] rfl)
  · have hz := hz.trans (if_neg c7)
    refine lv_iconst (v := 0) hx hb d_Mo_ratio_40 (by decide) ?_
    exact endI1 C hz hP hS d_Mo_ratio_41
noncomputable def sp_Mo_ratio (p1 : Int32) (p2 : Int32) (o : IV) (now : LV) : Int32 × IV := lett (sp_Mo_isKind p1.toInt64) fun (y2 : Int32) => if y2 = 0 then (sp_Mo_ratio_30 o p2 p1 now (1 : Int32)) else (lett (sp_Mo_in p2.toInt64 (0 : Int64) (2 : Int64)) fun (y4 : Int32) => if y4 = 0 then (sp_Mo_ratio_30 o p2 p1 now (2 : Int32)) else (sp_Mo_ratio_30 o p2 p1 now (0 : Int32)))
def ok_Mo_ratio (p1 : Int32) (p2 : Int32) (o : IV) (now : LV) : Prop := (ok_Mo_isKind p1.toInt64) ∧ lett (sp_Mo_isKind p1.toInt64) fun (y2 : Int32) => ((y2 = 0 → ok_Mo_ratio_30 o p2 p1 now (1 : Int32)) ∧ (¬ (y2 = 0) → lett (sp_Mo_in p2.toInt64 (0 : Int64) (2 : Int64)) fun (y4 : Int32) => ((y4 = 0 → ok_Mo_ratio_30 o p2 p1 now (2 : Int32)) ∧ (¬ (y4 = 0) → ok_Mo_ratio_30 o p2 p1 now (0 : Int32)))))
set_option maxRecDepth 100000 in
set_option maxHeartbeats 4000000 in
theorem c_Mo_ratio (l : Launch) (g : GX) (mo : Nat) (a : Nat → Nat) (o : IV) (now : LV) (dr : LV) (pa : LV) (sa : LV) (iS : IV) (bu : IV) (tq : IV) (rT : IV) (wT : IV) (sK : IV) (sA : IV) (sB : IV) (sE : IV) (oq : IV) (bS : IV) (bE : IV) (bL : IV) (rp : IV) (p1 : Int32) (p2 : Int32) (hok : ok_Mo_ratio p1 p2 o now) : Met l y_Mo_ratio (wsY y_Mo_ratio b_Mo_ratio 3 (some .int)) rm_Mo_ratio (CP g [.ref mo, .int p1, .int p2] (wMo g mo a o now dr pa sa iS bu tq rT wT sK sA sB sE oq bS bE bL rp)) (CI g (wMo g mo a o now dr pa sa iS bu tq rT wT sK sA sB sE oq bS bE bL rp) (fun u : IV => wMo g mo a u now dr pa sa iS bu tq rT wT sK sA sB sE oq bS bE bL rp) (sp_Mo_ratio p1 p2 o now)) 0 0 (inW (wMo g mo a o now dr pa sa iS bu tq rT wT sK sA sB sE oq bS bE bL rp)) := by
  refine Met.ofW (cc := b_Mo_ratio) (maxL := 3) (ret := (some .int)) pn_Mo rfl ?_
  intro p e s m args below meth c s₁ B hml hv
  obtain ⟨rfl, C, hP, hD, hS⟩ := enter "DecadeBridgeModel" rfl B hml hv
  obtain ⟨hx, hb, hr, hml, hown, hlk, hts, hK, hZo, hZ⟩ := id C
  refine entryW (lv := [(0, .ref mo), (1, .int p1), (2, .int p2)]) rfl (Nat.le_of_ble_eq_true rfl) (fun ls hl => ?_)
  obtain ⟨z, hz⟩ : ∃ z, z = sp_Mo_ratio p1 p2 o now := ⟨_, rfl⟩
  rw [← hz]
  unfold sp_Mo_ratio at hz
  unfold ok_Mo_ratio at hok
  refine lv_aload_n hx hb d_Mo_ratio_0 rfl (lv_at hl 0 rfl) ?_
  refine lv_iload_n hx hb d_Mo_ratio_1 rfl (lv_at hl 1 rfl) ?_
  refine lv_i2l hx hb d_Mo_ratio_2 rfl ?_
  have hs1 := hok.1
  have hok := hok.2
  have hB : SubW g (inW (wMo g mo a o now dr pa sa iS bu tq rT wT sK sA sB sE oq bS bE bL rp)) s (wMo g mo a o now dr pa sa iS bu tq rT wT sK sA sB sE oq bS bE bL rp) _ (List.range _) _ _ := (subF hP hD hS)
  refine goI0 hB (run_s C mf_Mo_isKind qm_Mo_423 (c_Mo_isKind l g mo a o now dr pa sa iS bu tq rT wT sK sA sB sE oq bS bE bL rp p1.toInt64 hs1) rfl rfl ⟨Nat.le_of_ble_eq_true rfl, Nat.le_of_ble_eq_true rfl⟩ ⟨Nat.le_of_ble_eq_true rfl, Nat.le_of_ble_eq_true rfl⟩ hB hl rfl rfl (Nat.le_of_ble_eq_true rfl) d_Mo_ratio_3) (fun y2 ey2 H locs hP hS => ?_)
  have hz := lett_z hz ey2
  have hok := lett_o hok ey2
  refine lv_if_ne (tgt := 13) hx hb d_Mo_ratio_6 (by decide) (fun c3 => ?_) (fun c3 => ?_)
  · have hz := hz.trans (if_neg c3)
    have hok := hok.2 c3
    refine lv_iload_n hx hb d_Mo_ratio_13 rfl (lv_at hl 2 rfl) ?_
    refine lv_i2l hx hb d_Mo_ratio_14 rfl ?_
    refine lv_lconst (v := 0) hx hb d_Mo_ratio_15 (by decide) ?_
    refine lv_ldc2 hx hb hown (hts _ qk_Mo_100) d_Mo_ratio_16 ?_
    have hB : SubW g (inW (wMo g mo a o now dr pa sa iS bu tq rT wT sK sA sB sE oq bS bE bL rp)) s (wMo g mo a o now dr pa sa iS bu tq rT wT sK sA sB sE oq bS bE bL rp) _ (List.range _) _ _ := (subF hP hD hS)
    refine goI0 hB (run_s C mf_Mo_in qm_Mo_118 (c_Mo_in l g mo a o now dr pa sa iS bu tq rT wT sK sA sB sE oq bS bE bL rp p2.toInt64 (0 : Int64) (2 : Int64)) rfl rfl ⟨Nat.le_of_ble_eq_true rfl, Nat.le_of_ble_eq_true rfl⟩ ⟨Nat.le_of_ble_eq_true rfl, Nat.le_of_ble_eq_true rfl⟩ hB hl rfl rfl (Nat.le_of_ble_eq_true rfl) d_Mo_ratio_19) (fun y4 ey4 H locs hP hS => ?_)
    have hz := lett_z hz ey4
    have hok := lett_o hok ey4
    refine lv_if_eq (tgt := 29) hx hb d_Mo_ratio_22 (by decide) (fun c5 => ?_) (fun c5 => ?_)
    · have hz := hz.trans (if_pos c5)
      have hok := hok.1 c5
      refine lv_iconst (v := 2) hx hb d_Mo_ratio_29 (by decide) ?_
      exact k_Mo_ratio_30 C (2 : Int32) hok _ hz _ _ ls hP hD hS hl
    · have hz := hz.trans (if_neg c5)
      have hok := hok.2 c5
      refine lv_iconst (v := 0) hx hb d_Mo_ratio_25 (by decide) ?_
      refine lv_goto (tgt := 30) hx hb d_Mo_ratio_26 (by decide) ?_
      exact k_Mo_ratio_30 C (0 : Int32) hok _ hz _ _ ls hP hD hS hl
  · have hz := hz.trans (if_pos c3)
    have hok := hok.1 c3
    refine lv_iconst (v := 1) hx hb d_Mo_ratio_9 (by decide) ?_
    refine lv_goto (tgt := 30) hx hb d_Mo_ratio_10 (by decide) ?_
    exact k_Mo_ratio_30 C (1 : Int32) hok _ hz _ _ ls hP hD hS hl
abbrev rm_Mo_decade : Room := { frames := 2, cells := 0, slots := 0, locals := 44 }
def HL_Mo_decade_38 (p : Program) (l : Launch) (e : Env) (s : State) (m : MethodId) (args : Array Value) (below : List Frame) (meth : Method) (c : Code) (g : GX) (mo : Nat) (a : Nat → Nat) (ws0 : va_W) (o : IV) (now : LV) (dr : LV) (pa : LV) (sa : LV) (iS : IV) (bu : IV) (tq : IV) (rT : IV) (wT : IV) (sK : IV) (sA : IV) (sB : IV) (sE : IV) (oq : IV) (bS : IV) (bE : IV) (bL : IV) (rp : IV) (p1 : Int32) (p2 : Int32) (sp : Int32 → (Int32 × IV)) (ok : Int32 → Prop) : Prop := ∀ (t1p38 : Int32), ok t1p38 → ∀ z : (Int32 × IV), z = sp t1p38 → ∀ (H : Heap) (locs : List Loc) (ls : Array Slot), va_P g.1 vwCl (wMo g mo a o now dr pa sa iS bu tq rT wT sK sA sB sE oq bS bE bL rp) H → va_D (inW ws0) (wMo g mo a o now dr pa sa iS bu tq rT wT sK sA sB sE oq bS bE bL rp) → va_S (inW ws0) s.heap H locs → lv_has ls 3 [(0, .ref mo), (1, .int p1), (2, .int p2)] → W p l e rm_Mo_decade s m args below meth c H locs 0 0 (MQ below (CI g ws0 (fun u : IV => wMo g mo a u now dr pa sa iS bu tq rT wT sK sA sB sE oq bS bE bL rp) z) args s 0 0 (inW ws0)) (F0 m 38 ls [.int t1p38, .ref mo])
def HL_Mo_decade_87 (p : Program) (l : Launch) (e : Env) (s : State) (m : MethodId) (args : Array Value) (below : List Frame) (meth : Method) (c : Code) (g : GX) (mo : Nat) (a : Nat → Nat) (ws0 : va_W) (o_6 : IV) (now : LV) (dr : LV) (pa : LV) (sa : LV) (iS : IV) (bu : IV) (tq : IV) (rT : IV) (wT : IV) (sK : IV) (sA : IV) (sB : IV) (sE : IV) (oq : IV) (bS : IV) (bE : IV) (bL : IV) (rp : IV) (sp : Int64 → (Int32 × IV)) (ok : Int64 → Prop) : Prop := ∀ (t0p87 : Int64), ok t0p87 → ∀ z : (Int32 × IV), z = sp t0p87 → ∀ (H : Heap) (locs : List Loc) (ls : Array Slot), va_P g.1 vwCl (wMo g mo a o_6 now dr pa sa iS bu tq rT wT sK sA sB sE oq bS bE bL rp) H → va_D (inW ws0) (wMo g mo a o_6 now dr pa sa iS bu tq rT wT sK sA sB sE oq bS bE bL rp) → va_S (inW ws0) s.heap H locs → lv_has ls 3 [] → W p l e rm_Mo_decade s m args below meth c H locs 0 0 (MQ below (CI g ws0 (fun u : IV => wMo g mo a u now dr pa sa iS bu tq rT wT sK sA sB sE oq bS bE bL rp) z) args s 0 0 (inW ws0)) (F0 m 87 ls [.long t0p87])
noncomputable def sp_Mo_decade_87 (o_6 : IV)  (t0p87 : Int64) : Int32 × IV := (t0p87.toInt32, o_6)
def ok_Mo_decade_87 (o_6 : IV)   (t0p87 : Int64) : Prop := True
set_option maxRecDepth 100000 in
set_option maxHeartbeats 4000000 in
theorem k_Mo_decade_87 {p : Program} {l : Launch} {e : Env} {s : State} {m : MethodId} {args : Array Value} {below : List Frame} {meth : Method} {c : Code} {g : GX} {mo : Nat} {a : Nat → Nat} {ws0 : va_W} {o_6 : IV} {now : LV} {dr : LV} {pa : LV} {sa : LV} {iS : IV} {bu : IV} {tq : IV} {rT : IV} {wT : IV} {sK : IV} {sA : IV} {sB : IV} {sE : IV} {oq : IV} {bS : IV} {bE : IV} {bL : IV} {rp : IV}  (C : Cx p s m args meth c (inW ws0) g "DecadeBridgeModel" b_Mo_decade (some .int) 3)  : HL_Mo_decade_87 p l e s m args below meth c g mo a ws0 o_6 now dr pa sa iS bu tq rT wT sK sA sB sE oq bS bE bL rp (sp_Mo_decade_87 o_6 ) (ok_Mo_decade_87 o_6  ) := by
  intro t0p87 hok z hz H locs ls hP hD hS hl
  obtain ⟨hx, hb, hr, hml, hown, hlk, hts, hK, hZo, hZ⟩ := id C
  unfold sp_Mo_decade_87 at hz
  refine lv_l2i hx hb d_Mo_decade_87 rfl ?_
  exact endI1 C hz hP hS d_Mo_decade_88
noncomputable def sp_Mo_decade_38 (o : IV) (p2 : Int32) (p1 : Int32) (now : LV)  (t1p38 : Int32) : Int32 × IV := lett (upd o 6 t1p38) fun (o_6 : IV) => if (o_6 6) ≤ 0 then (if p2 = 0 then (lett (sp_Mo_stepOf p1 now) fun (y13 : Int64) => sp_Mo_decade_87 o_6 y13) else (if p2 = (1 : Int32) then (sp_Mo_decade_87 o_6 (now ((3 : Int32) + p1).toNatClampNeg)) else (sp_Mo_decade_87 o_6 (now ((33 : Int32) + p1).toNatClampNeg)))) else (((0 : Int32), o_6))
def ok_Mo_decade_38 (o : IV) (p2 : Int32) (p1 : Int32) (now : LV)   (t1p38 : Int32) : Prop := lett (upd o 6 t1p38) fun (o_6 : IV) => (((o_6 6) ≤ 0 → ((p2 = 0 → (ok_Mo_stepOf p1 now) ∧ True) ∧ (¬ (p2 = 0) → ((p2 = (1 : Int32) → (vp_in ((3 : Int32) + p1) 215) ∧ True) ∧ (¬ (p2 = (1 : Int32)) → (vp_in ((33 : Int32) + p1) 215) ∧ True))))) ∧ (¬ ((o_6 6) ≤ 0) → True))
set_option maxRecDepth 100000 in
set_option maxHeartbeats 4000000 in
theorem k_Mo_decade_38 {p : Program} {l : Launch} {e : Env} {s : State} {m : MethodId} {args : Array Value} {below : List Frame} {meth : Method} {c : Code} {g : GX} {mo : Nat} {a : Nat → Nat} {ws0 : va_W} {o : IV} {now : LV} {dr : LV} {pa : LV} {sa : LV} {iS : IV} {bu : IV} {tq : IV} {rT : IV} {wT : IV} {sK : IV} {sA : IV} {sB : IV} {sE : IV} {oq : IV} {bS : IV} {bE : IV} {bL : IV} {rp : IV} {p1 : Int32} {p2 : Int32}  (C : Cx p s m args meth c (inW ws0) g "DecadeBridgeModel" b_Mo_decade (some .int) 3)  : HL_Mo_decade_38 p l e s m args below meth c g mo a ws0 o now dr pa sa iS bu tq rT wT sK sA sB sE oq bS bE bL rp p1 p2 (sp_Mo_decade_38 o p2 p1 now ) (ok_Mo_decade_38 o p2 p1 now  ) := by
  intro t1p38 hok z hz H locs ls hP hD hS hl
  obtain ⟨hx, hb, hr, hml, hown, hlk, hts, hK, hZo, hZ⟩ := id C
  unfold sp_Mo_decade_38 at hz
  unfold ok_Mo_decade_38 at hok
  refine pfI C hP hD hS 0 6 fkMo rfl (by decide) rfl qf_Mo_107 rfl rfl rfl (Nat.le_of_ble_eq_true rfl) (ff := fun o => fMo a o) (sMo_6 _ _ _) d_Mo_decade_38 (fun o_6 eo_6 H locs hP hD hS => ?_)
  have hP : va_P g.1 vwCl (wMo g mo a o_6 now dr pa sa iS bu tq rT wT sK sA sB sE oq bS bE bL rp) H := hP
  have hD : va_D (inW ws0) (wMo g mo a o_6 now dr pa sa iS bu tq rT wT sK sA sB sE oq bS bE bL rp) := hD
  have hz := lett_z hz eo_6
  have hok := lett_o hok eo_6
  refine lv_aload_n hx hb d_Mo_decade_41 rfl (lv_at hl 0 rfl) ?_
  refine gf C hP 0 6 fkMo rfl (by decide) rfl qf_Mo_107 (gMo_6 _ _) d_Mo_decade_42 ?_
  refine lv_if_le (tgt := 50) hx hb d_Mo_decade_45 (by decide) (fun c7 => ?_) (fun c7 => ?_)
  · have hz := hz.trans (if_pos c7)
    have hok := hok.1 c7
    refine lv_iload_n hx hb d_Mo_decade_50 rfl (lv_at hl 2 rfl) ?_
    refine lv_if_ne (tgt := 62) hx hb d_Mo_decade_51 (by decide) (fun c8 => ?_) (fun c8 => ?_)
    · have hz := hz.trans (if_neg c8)
      have hok := hok.2 c8
      refine lv_iload_n hx hb d_Mo_decade_62 rfl (lv_at hl 2 rfl) ?_
      refine lv_iconst (v := 1) hx hb d_Mo_decade_63 (by decide) ?_
      refine lv_icmp_ne (tgt := 78) hx hb d_Mo_decade_64 (by decide) (fun c9 => ?_) (fun c9 => ?_)
      · have hz := hz.trans (if_neg c9)
        have hok := hok.2 c9
        refine lv_aload_n hx hb d_Mo_decade_78 rfl (lv_at hl 0 rfl) ?_
        refine gf C hP 0 0 fkMo rfl (by decide) rfl qf_Mo_7 (gMo_0 _ _) d_Mo_decade_79 ?_
        refine lv_bipush (v := 33) hx hb d_Mo_decade_82 (by decide) ?_
        refine lv_iload_n hx hb d_Mo_decade_84 rfl (lv_at hl 1 rfl) ?_
        refine lv_iadd hx hb d_Mo_decade_85 ?_
        have hs10 := hok.1
        have hok := hok.2
        refine ldL C hP 1 rfl hs10 rfl d_Mo_decade_86 ?_
        exact k_Mo_decade_87 C (now ((33 : Int32) + p1).toNatClampNeg) trivial _ hz _ _ ls hP hD hS (lv_sub hl [] rfl)
      · have hz := hz.trans (if_pos c9)
        have hok := hok.1 c9
        refine lv_aload_n hx hb d_Mo_decade_67 rfl (lv_at hl 0 rfl) ?_
        refine gf C hP 0 0 fkMo rfl (by decide) rfl qf_Mo_7 (gMo_0 _ _) d_Mo_decade_68 ?_
        refine lv_iconst (v := 3) hx hb d_Mo_decade_71 (by decide) ?_
        refine lv_iload_n hx hb d_Mo_decade_72 rfl (lv_at hl 1 rfl) ?_
        refine lv_iadd hx hb d_Mo_decade_73 ?_
        have hs11 := hok.1
        have hok := hok.2
        refine ldL C hP 1 rfl hs11 rfl d_Mo_decade_74 ?_
        refine lv_goto (tgt := 87) hx hb d_Mo_decade_75 (by decide) ?_
        exact k_Mo_decade_87 C (now ((3 : Int32) + p1).toNatClampNeg) trivial _ hz _ _ ls hP hD hS (lv_sub hl [] rfl)
    · have hz := hz.trans (if_pos c8)
      have hok := hok.1 c8
      refine lv_aload_n hx hb d_Mo_decade_54 rfl (lv_at hl 0 rfl) ?_
      refine lv_iload_n hx hb d_Mo_decade_55 rfl (lv_at hl 1 rfl) ?_
      have hs12 := hok.1
      have hok := hok.2
      have hB : SubW g (inW ws0) s (wMo g mo a o_6 now dr pa sa iS bu tq rT wT sK sA sB sE oq bS bE bL rp) _ (List.range _) _ _ := (subF hP hD hS)
      refine goL0 hB (run_v C mf_Mo_stepOf qm_Mo_134 (c_Mo_stepOf l g mo a o_6 now dr pa sa iS bu tq rT wT sK sA sB sE oq bS bE bL rp p1 hs12) rfl rfl ⟨Nat.le_of_ble_eq_true rfl, Nat.le_of_ble_eq_true rfl⟩ ⟨Nat.le_of_ble_eq_true rfl, Nat.le_of_ble_eq_true rfl⟩ hB rfl rfl hl rfl rfl (Nat.le_of_ble_eq_true rfl) d_Mo_decade_56) (fun y13 ey13 H locs hP hS => ?_)
      have hz := lett_z hz ey13
      refine lv_goto (tgt := 87) hx hb d_Mo_decade_59 (by decide) ?_
      exact k_Mo_decade_87 C y13 trivial _ hz _ _ ls hP hD hS (lv_sub hl [] rfl)
  · have hz := hz.trans (if_neg c7)
    refine lv_iconst (v := 0) hx hb d_Mo_decade_48 (by decide) ?_
    exact endI1 C hz hP hS d_Mo_decade_49
noncomputable def sp_Mo_decade (p1 : Int32) (p2 : Int32) (o : IV) (now : LV) : Int32 × IV := lett (sp_Mo_decades now) fun (y1 : Int32) => lett (sp_Mo_in p1.toInt64 (0 : Int64) (y1.toInt64 - (1 : Int64))) fun (y2 : Int32) => if y2 = 0 then (sp_Mo_decade_38 o p2 p1 now (1 : Int32)) else (lett (sp_Mo_in p2.toInt64 (0 : Int64) (2 : Int64)) fun (y4 : Int32) => if y4 = 0 then (sp_Mo_decade_38 o p2 p1 now (2 : Int32)) else (sp_Mo_decade_38 o p2 p1 now (0 : Int32)))
def ok_Mo_decade (p1 : Int32) (p2 : Int32) (o : IV) (now : LV) : Prop := lett (sp_Mo_decades now) fun (y1 : Int32) => lett (sp_Mo_in p1.toInt64 (0 : Int64) (y1.toInt64 - (1 : Int64))) fun (y2 : Int32) => ((y2 = 0 → ok_Mo_decade_38 o p2 p1 now (1 : Int32)) ∧ (¬ (y2 = 0) → lett (sp_Mo_in p2.toInt64 (0 : Int64) (2 : Int64)) fun (y4 : Int32) => ((y4 = 0 → ok_Mo_decade_38 o p2 p1 now (2 : Int32)) ∧ (¬ (y4 = 0) → ok_Mo_decade_38 o p2 p1 now (0 : Int32)))))
set_option maxRecDepth 100000 in
set_option maxHeartbeats 4000000 in
theorem c_Mo_decade (l : Launch) (g : GX) (mo : Nat) (a : Nat → Nat) (o : IV) (now : LV) (dr : LV) (pa : LV) (sa : LV) (iS : IV) (bu : IV) (tq : IV) (rT : IV) (wT : IV) (sK : IV) (sA : IV) (sB : IV) (sE : IV) (oq : IV) (bS : IV) (bE : IV) (bL : IV) (rp : IV) (p1 : Int32) (p2 : Int32) (hok : ok_Mo_decade p1 p2 o now) : Met l y_Mo_decade (wsY y_Mo_decade b_Mo_decade 3 (some .int)) rm_Mo_decade (CP g [.ref mo, .int p1, .int p2] (wMo g mo a o now dr pa sa iS bu tq rT wT sK sA sB sE oq bS bE bL rp)) (CI g (wMo g mo a o now dr pa sa iS bu tq rT wT sK sA sB sE oq bS bE bL rp) (fun u : IV => wMo g mo a u now dr pa sa iS bu tq rT wT sK sA sB sE oq bS bE bL rp) (sp_Mo_decade p1 p2 o now)) 0 0 (inW (wMo g mo a o now dr pa sa iS bu tq rT wT sK sA sB sE oq bS bE bL rp)) := by
  refine Met.ofW (cc := b_Mo_decade) (maxL := 3) (ret := (some .int)) pn_Mo rfl ?_
  intro p e s m args below meth c s₁ B hml hv
  obtain ⟨rfl, C, hP, hD, hS⟩ := enter "DecadeBridgeModel" rfl B hml hv
  obtain ⟨hx, hb, hr, hml, hown, hlk, hts, hK, hZo, hZ⟩ := id C
  refine entryW (lv := [(0, .ref mo), (1, .int p1), (2, .int p2)]) rfl (Nat.le_of_ble_eq_true rfl) (fun ls hl => ?_)
  obtain ⟨z, hz⟩ : ∃ z, z = sp_Mo_decade p1 p2 o now := ⟨_, rfl⟩
  rw [← hz]
  unfold sp_Mo_decade at hz
  unfold ok_Mo_decade at hok
  refine lv_aload_n hx hb d_Mo_decade_0 rfl (lv_at hl 0 rfl) ?_
  refine lv_iload_n hx hb d_Mo_decade_1 rfl (lv_at hl 1 rfl) ?_
  refine lv_i2l hx hb d_Mo_decade_2 rfl ?_
  refine lv_lconst (v := 0) hx hb d_Mo_decade_3 (by decide) ?_
  refine lv_aload_n hx hb d_Mo_decade_4 rfl (lv_at hl 0 rfl) ?_
  have hB : SubW g (inW (wMo g mo a o now dr pa sa iS bu tq rT wT sK sA sB sE oq bS bE bL rp)) s (wMo g mo a o now dr pa sa iS bu tq rT wT sK sA sB sE oq bS bE bL rp) _ (List.range _) _ _ := (subF hP hD hS)
  refine goI0 hB (run_v C mf_Mo_decades qm_Mo_130 (c_Mo_decades l g mo a o now dr pa sa iS bu tq rT wT sK sA sB sE oq bS bE bL rp) rfl rfl ⟨Nat.le_of_ble_eq_true rfl, Nat.le_of_ble_eq_true rfl⟩ ⟨Nat.le_of_ble_eq_true rfl, Nat.le_of_ble_eq_true rfl⟩ hB rfl rfl hl rfl rfl (Nat.le_of_ble_eq_true rfl) d_Mo_decade_5) (fun y1 ey1 H locs hP hS => ?_)
  have hz := lett_z hz ey1
  have hok := lett_o hok ey1
  refine lv_i2l hx hb d_Mo_decade_8 rfl ?_
  refine lv_lconst (v := 1) hx hb d_Mo_decade_9 (by decide) ?_
  refine lv_lsub hx hb d_Mo_decade_10 ?_
  have hB : SubW g (inW (wMo g mo a o now dr pa sa iS bu tq rT wT sK sA sB sE oq bS bE bL rp)) s (wMo g mo a o now dr pa sa iS bu tq rT wT sK sA sB sE oq bS bE bL rp) _ (List.range _) _ _ := (subF hP hD hS)
  refine goI0 hB (run_s C mf_Mo_in qm_Mo_118 (c_Mo_in l g mo a o now dr pa sa iS bu tq rT wT sK sA sB sE oq bS bE bL rp p1.toInt64 (0 : Int64) (y1.toInt64 - (1 : Int64))) rfl rfl ⟨Nat.le_of_ble_eq_true rfl, Nat.le_of_ble_eq_true rfl⟩ ⟨Nat.le_of_ble_eq_true rfl, Nat.le_of_ble_eq_true rfl⟩ hB hl rfl rfl (Nat.le_of_ble_eq_true rfl) d_Mo_decade_11) (fun y2 ey2 H locs hP hS => ?_)
  have hz := lett_z hz ey2
  have hok := lett_o hok ey2
  refine lv_if_ne (tgt := 21) hx hb d_Mo_decade_14 (by decide) (fun c3 => ?_) (fun c3 => ?_)
  · have hz := hz.trans (if_neg c3)
    have hok := hok.2 c3
    refine lv_iload_n hx hb d_Mo_decade_21 rfl (lv_at hl 2 rfl) ?_
    refine lv_i2l hx hb d_Mo_decade_22 rfl ?_
    refine lv_lconst (v := 0) hx hb d_Mo_decade_23 (by decide) ?_
    refine lv_ldc2 hx hb hown (hts _ qk_Mo_100) d_Mo_decade_24 ?_
    have hB : SubW g (inW (wMo g mo a o now dr pa sa iS bu tq rT wT sK sA sB sE oq bS bE bL rp)) s (wMo g mo a o now dr pa sa iS bu tq rT wT sK sA sB sE oq bS bE bL rp) _ (List.range _) _ _ := (subF hP hD hS)
    refine goI0 hB (run_s C mf_Mo_in qm_Mo_118 (c_Mo_in l g mo a o now dr pa sa iS bu tq rT wT sK sA sB sE oq bS bE bL rp p2.toInt64 (0 : Int64) (2 : Int64)) rfl rfl ⟨Nat.le_of_ble_eq_true rfl, Nat.le_of_ble_eq_true rfl⟩ ⟨Nat.le_of_ble_eq_true rfl, Nat.le_of_ble_eq_true rfl⟩ hB hl rfl rfl (Nat.le_of_ble_eq_true rfl) d_Mo_decade_27) (fun y4 ey4 H locs hP hS => ?_)
    have hz := lett_z hz ey4
    have hok := lett_o hok ey4
    refine lv_if_eq (tgt := 37) hx hb d_Mo_decade_30 (by decide) (fun c5 => ?_) (fun c5 => ?_)
    · have hz := hz.trans (if_pos c5)
      have hok := hok.1 c5
      refine lv_iconst (v := 2) hx hb d_Mo_decade_37 (by decide) ?_
      exact k_Mo_decade_38 C (2 : Int32) hok _ hz _ _ ls hP hD hS hl
    · have hz := hz.trans (if_neg c5)
      have hok := hok.2 c5
      refine lv_iconst (v := 0) hx hb d_Mo_decade_33 (by decide) ?_
      refine lv_goto (tgt := 38) hx hb d_Mo_decade_34 (by decide) ?_
      exact k_Mo_decade_38 C (0 : Int32) hok _ hz _ _ ls hP hD hS hl
  · have hz := hz.trans (if_pos c3)
    have hok := hok.1 c3
    refine lv_iconst (v := 1) hx hb d_Mo_decade_17 (by decide) ?_
    refine lv_goto (tgt := 38) hx hb d_Mo_decade_18 (by decide) ?_
    exact k_Mo_decade_38 C (1 : Int32) hok _ hz _ _ ls hP hD hS hl
abbrev rm_Mo_lead : Room := { frames := 1, cells := 0, slots := 0, locals := 25 }
def HL_Mo_lead_18 (p : Program) (l : Launch) (e : Env) (s : State) (m : MethodId) (args : Array Value) (below : List Frame) (meth : Method) (c : Code) (g : GX) (mo : Nat) (a : Nat → Nat) (ws0 : va_W) (o : IV) (now : LV) (dr : LV) (pa : LV) (sa : LV) (iS : IV) (bu : IV) (tq : IV) (rT : IV) (wT : IV) (sK : IV) (sA : IV) (sB : IV) (sE : IV) (oq : IV) (bS : IV) (bE : IV) (bL : IV) (rp : IV) (p1 : Int32) (sp : Int32 → (Int32 × IV)) (ok : Int32 → Prop) : Prop := ∀ (t1p18 : Int32), ok t1p18 → ∀ z : (Int32 × IV), z = sp t1p18 → ∀ (H : Heap) (locs : List Loc) (ls : Array Slot), va_P g.1 vwCl (wMo g mo a o now dr pa sa iS bu tq rT wT sK sA sB sE oq bS bE bL rp) H → va_D (inW ws0) (wMo g mo a o now dr pa sa iS bu tq rT wT sK sA sB sE oq bS bE bL rp) → va_S (inW ws0) s.heap H locs → lv_has ls 2 [(0, .ref mo), (1, .int p1)] → W p l e rm_Mo_lead s m args below meth c H locs 0 0 (MQ below (CI g ws0 (fun u : IV => wMo g mo a u now dr pa sa iS bu tq rT wT sK sA sB sE oq bS bE bL rp) z) args s 0 0 (inW ws0)) (F0 m 18 ls [.int t1p18, .ref mo])
noncomputable def sp_Mo_lead_18 (o : IV) (now : LV) (p1 : Int32)  (t1p18 : Int32) : Int32 × IV := lett (upd o 6 t1p18) fun (o_3 : IV) => if (o_3 6) ≤ 0 then (((now ((19 : Int32) + p1).toNatClampNeg).toInt32, o_3)) else (((0 : Int32), o_3))
def ok_Mo_lead_18 (o : IV) (now : LV) (p1 : Int32)   (t1p18 : Int32) : Prop := lett (upd o 6 t1p18) fun (o_3 : IV) => (((o_3 6) ≤ 0 → (vp_in ((19 : Int32) + p1) 215) ∧ True) ∧ (¬ ((o_3 6) ≤ 0) → True))
set_option maxRecDepth 100000 in
set_option maxHeartbeats 4000000 in
theorem k_Mo_lead_18 {p : Program} {l : Launch} {e : Env} {s : State} {m : MethodId} {args : Array Value} {below : List Frame} {meth : Method} {c : Code} {g : GX} {mo : Nat} {a : Nat → Nat} {ws0 : va_W} {o : IV} {now : LV} {dr : LV} {pa : LV} {sa : LV} {iS : IV} {bu : IV} {tq : IV} {rT : IV} {wT : IV} {sK : IV} {sA : IV} {sB : IV} {sE : IV} {oq : IV} {bS : IV} {bE : IV} {bL : IV} {rp : IV} {p1 : Int32}  (C : Cx p s m args meth c (inW ws0) g "DecadeBridgeModel" b_Mo_lead (some .int) 2)  : HL_Mo_lead_18 p l e s m args below meth c g mo a ws0 o now dr pa sa iS bu tq rT wT sK sA sB sE oq bS bE bL rp p1 (sp_Mo_lead_18 o now p1 ) (ok_Mo_lead_18 o now p1  ) := by
  intro t1p18 hok z hz H locs ls hP hD hS hl
  obtain ⟨hx, hb, hr, hml, hown, hlk, hts, hK, hZo, hZ⟩ := id C
  unfold sp_Mo_lead_18 at hz
  unfold ok_Mo_lead_18 at hok
  refine pfI C hP hD hS 0 6 fkMo rfl (by decide) rfl qf_Mo_107 rfl rfl rfl (Nat.le_of_ble_eq_true rfl) (ff := fun o => fMo a o) (sMo_6 _ _ _) d_Mo_lead_18 (fun o_3 eo_3 H locs hP hD hS => ?_)
  have hP : va_P g.1 vwCl (wMo g mo a o_3 now dr pa sa iS bu tq rT wT sK sA sB sE oq bS bE bL rp) H := hP
  have hD : va_D (inW ws0) (wMo g mo a o_3 now dr pa sa iS bu tq rT wT sK sA sB sE oq bS bE bL rp) := hD
  have hz := lett_z hz eo_3
  have hok := lett_o hok eo_3
  refine lv_aload_n hx hb d_Mo_lead_21 rfl (lv_at hl 0 rfl) ?_
  refine gf C hP 0 6 fkMo rfl (by decide) rfl qf_Mo_107 (gMo_6 _ _) d_Mo_lead_22 ?_
  refine lv_if_le (tgt := 32) hx hb d_Mo_lead_25 (by decide) (fun c4 => ?_) (fun c4 => ?_)
  · have hz := hz.trans (if_pos c4)
    have hok := hok.1 c4
    refine lv_aload_n hx hb d_Mo_lead_32 rfl (lv_at hl 0 rfl) ?_
    refine gf C hP 0 0 fkMo rfl (by decide) rfl qf_Mo_7 (gMo_0 _ _) d_Mo_lead_33 ?_
    refine lv_bipush (v := 19) hx hb d_Mo_lead_36 (by decide) ?_
    refine lv_iload_n hx hb d_Mo_lead_38 rfl (lv_at hl 1 rfl) ?_
    refine lv_iadd hx hb d_Mo_lead_39 ?_
    have hs5 := hok.1
    have hok := hok.2
    refine ldL C hP 1 rfl hs5 rfl d_Mo_lead_40 ?_
    refine lv_l2i hx hb d_Mo_lead_41 rfl ?_
    exact endI1 C hz hP hS d_Mo_lead_42
  · have hz := hz.trans (if_neg c4)
    refine lv_iconst (v := 0) hx hb d_Mo_lead_28 (by decide) ?_
    refine lv_goto (tgt := 42) hx hb d_Mo_lead_29 (by decide) ?_
    exact endI1 C hz hP hS d_Mo_lead_42
noncomputable def sp_Mo_lead (p1 : Int32) (o : IV) (now : LV) : Int32 × IV := lett (sp_Mo_in p1.toInt64 (0 : Int64) (2 : Int64)) fun (y1 : Int32) => if y1 = 0 then (sp_Mo_lead_18 o now p1 (1 : Int32)) else (sp_Mo_lead_18 o now p1 (0 : Int32))
def ok_Mo_lead (p1 : Int32) (o : IV) (now : LV) : Prop := lett (sp_Mo_in p1.toInt64 (0 : Int64) (2 : Int64)) fun (y1 : Int32) => ((y1 = 0 → ok_Mo_lead_18 o now p1 (1 : Int32)) ∧ (¬ (y1 = 0) → ok_Mo_lead_18 o now p1 (0 : Int32)))
set_option maxRecDepth 100000 in
set_option maxHeartbeats 4000000 in
theorem c_Mo_lead (l : Launch) (g : GX) (mo : Nat) (a : Nat → Nat) (o : IV) (now : LV) (dr : LV) (pa : LV) (sa : LV) (iS : IV) (bu : IV) (tq : IV) (rT : IV) (wT : IV) (sK : IV) (sA : IV) (sB : IV) (sE : IV) (oq : IV) (bS : IV) (bE : IV) (bL : IV) (rp : IV) (p1 : Int32) (hok : ok_Mo_lead p1 o now) : Met l y_Mo_lead (wsY y_Mo_lead b_Mo_lead 2 (some .int)) rm_Mo_lead (CP g [.ref mo, .int p1] (wMo g mo a o now dr pa sa iS bu tq rT wT sK sA sB sE oq bS bE bL rp)) (CI g (wMo g mo a o now dr pa sa iS bu tq rT wT sK sA sB sE oq bS bE bL rp) (fun u : IV => wMo g mo a u now dr pa sa iS bu tq rT wT sK sA sB sE oq bS bE bL rp) (sp_Mo_lead p1 o now)) 0 0 (inW (wMo g mo a o now dr pa sa iS bu tq rT wT sK sA sB sE oq bS bE bL rp)) := by
  refine Met.ofW (cc := b_Mo_lead) (maxL := 2) (ret := (some .int)) pn_Mo rfl ?_
  intro p e s m args below meth c s₁ B hml hv
  obtain ⟨rfl, C, hP, hD, hS⟩ := enter "DecadeBridgeModel" rfl B hml hv
  obtain ⟨hx, hb, hr, hml, hown, hlk, hts, hK, hZo, hZ⟩ := id C
  refine entryW (lv := [(0, .ref mo), (1, .int p1)]) rfl (Nat.le_of_ble_eq_true rfl) (fun ls hl => ?_)
  obtain ⟨z, hz⟩ : ∃ z, z = sp_Mo_lead p1 o now := ⟨_, rfl⟩
  rw [← hz]
  unfold sp_Mo_lead at hz
  unfold ok_Mo_lead at hok
  refine lv_aload_n hx hb d_Mo_lead_0 rfl (lv_at hl 0 rfl) ?_
  refine lv_iload_n hx hb d_Mo_lead_1 rfl (lv_at hl 1 rfl) ?_
  refine lv_i2l hx hb d_Mo_lead_2 rfl ?_
  refine lv_lconst (v := 0) hx hb d_Mo_lead_3 (by decide) ?_
  refine lv_ldc2 hx hb hown (hts _ qk_Mo_100) d_Mo_lead_4 ?_
  have hB : SubW g (inW (wMo g mo a o now dr pa sa iS bu tq rT wT sK sA sB sE oq bS bE bL rp)) s (wMo g mo a o now dr pa sa iS bu tq rT wT sK sA sB sE oq bS bE bL rp) _ (List.range _) _ _ := (subF hP hD hS)
  refine goI0 hB (run_s C mf_Mo_in qm_Mo_118 (c_Mo_in l g mo a o now dr pa sa iS bu tq rT wT sK sA sB sE oq bS bE bL rp p1.toInt64 (0 : Int64) (2 : Int64)) rfl rfl ⟨Nat.le_of_ble_eq_true rfl, Nat.le_of_ble_eq_true rfl⟩ ⟨Nat.le_of_ble_eq_true rfl, Nat.le_of_ble_eq_true rfl⟩ hB hl rfl rfl (Nat.le_of_ble_eq_true rfl) d_Mo_lead_7) (fun y1 ey1 H locs hP hS => ?_)
  have hz := lett_z hz ey1
  have hok := lett_o hok ey1
  refine lv_if_eq (tgt := 17) hx hb d_Mo_lead_10 (by decide) (fun c2 => ?_) (fun c2 => ?_)
  · have hz := hz.trans (if_pos c2)
    have hok := hok.1 c2
    refine lv_iconst (v := 1) hx hb d_Mo_lead_17 (by decide) ?_
    exact k_Mo_lead_18 C (1 : Int32) hok _ hz _ _ ls hP hD hS hl
  · have hz := hz.trans (if_neg c2)
    have hok := hok.2 c2
    refine lv_iconst (v := 0) hx hb d_Mo_lead_13 (by decide) ?_
    refine lv_goto (tgt := 18) hx hb d_Mo_lead_14 (by decide) ?_
    exact k_Mo_lead_18 C (0 : Int32) hok _ hz _ _ ls hP hD hS hl
