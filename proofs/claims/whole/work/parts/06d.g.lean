abbrev rm_Mo_setNow : Room := { frames := 3, cells := 0, slots := 0, locals := 64 }
noncomputable def sp_Mo_setNow (p1 : Int32) (now : LV) : Int32 × LV := lett (sp_Mo_isSetting p1 now) fun (y2 : Int32) => if y2 = 0 then (((-2 : Int32), now)) else (lett (sp_Mo_setting now) fun (y5 : Int32) => lett (sp_Mo_laySetting p1 now) fun (y7 : LV) => (y5, y7))
def ok_Mo_setNow (p1 : Int32) (now : LV) : Prop := (ok_Mo_isSetting p1 now) ∧ lett (sp_Mo_isSetting p1 now) fun (y2 : Int32) => ((y2 = 0 → True) ∧ (¬ (y2 = 0) → (ok_Mo_setting now) ∧ lett (sp_Mo_setting now) fun (y5 : Int32) => (ok_Mo_laySetting p1 now) ∧ True))
set_option maxRecDepth 100000 in
set_option maxHeartbeats 4000000 in
theorem c_Mo_setNow (l : Launch) (g : GX) (mo : Nat) (a : Nat → Nat) (o : IV) (now : LV) (dr : LV) (pa : LV) (sa : LV) (iS : IV) (bu : IV) (tq : IV) (rT : IV) (wT : IV) (sK : IV) (sA : IV) (sB : IV) (sE : IV) (oq : IV) (bS : IV) (bE : IV) (bL : IV) (rp : IV) (p1 : Int32) (hok : ok_Mo_setNow p1 now) : Met l y_Mo_setNow (wsY y_Mo_setNow b_Mo_setNow 3 (some .int)) rm_Mo_setNow (CP g [.ref mo, .int p1] (wMo g mo a o now dr pa sa iS bu tq rT wT sK sA sB sE oq bS bE bL rp)) (CI g (wMo g mo a o now dr pa sa iS bu tq rT wT sK sA sB sE oq bS bE bL rp) (fun u : LV => wMo g mo a o u dr pa sa iS bu tq rT wT sK sA sB sE oq bS bE bL rp) (sp_Mo_setNow p1 now)) 0 0 (inW (wMo g mo a o now dr pa sa iS bu tq rT wT sK sA sB sE oq bS bE bL rp)) := by
  refine Met.ofW (cc := b_Mo_setNow) (maxL := 3) (ret := (some .int)) pn_Mo rfl ?_
  intro p e s m args below meth c s₁ B hml hv
  obtain ⟨rfl, C, hP, hD, hS⟩ := enter "DecadeBridgeModel" rfl B hml hv
  obtain ⟨hx, hb, hr, hml, hown, hlk, hts, hK, hZo, hZ⟩ := id C
  refine entryW (lv := [(0, .ref mo), (1, .int p1)]) rfl (Nat.le_of_ble_eq_true rfl) (fun ls hl => ?_)
  obtain ⟨z, hz⟩ : ∃ z, z = sp_Mo_setNow p1 now := ⟨_, rfl⟩
  rw [← hz]
  unfold sp_Mo_setNow at hz
  unfold ok_Mo_setNow at hok
  refine lv_aload_n hx hb d_Mo_setNow_0 rfl (lv_at hl 0 rfl) ?_
  refine lv_iload_n hx hb d_Mo_setNow_1 rfl (lv_at hl 1 rfl) ?_
  have hs1 := hok.1
  have hok := hok.2
  have hB : SubW g (inW (wMo g mo a o now dr pa sa iS bu tq rT wT sK sA sB sE oq bS bE bL rp)) s (wMo g mo a o now dr pa sa iS bu tq rT wT sK sA sB sE oq bS bE bL rp) _ (List.range _) _ _ := (subF hP hD hS)
  refine goI0 hB (run_v C mf_Mo_isSetting qm_Mo_426 (c_Mo_isSetting l g mo a o now dr pa sa iS bu tq rT wT sK sA sB sE oq bS bE bL rp p1 hs1) rfl rfl ⟨Nat.le_of_ble_eq_true rfl, Nat.le_of_ble_eq_true rfl⟩ ⟨Nat.le_of_ble_eq_true rfl, Nat.le_of_ble_eq_true rfl⟩ hB rfl rfl hl rfl rfl (Nat.le_of_ble_eq_true rfl) d_Mo_setNow_2) (fun y2 ey2 H locs hP hS => ?_)
  have hz := lett_z hz ey2
  have hok := lett_o hok ey2
  refine lv_if_ne (tgt := 11) hx hb d_Mo_setNow_5 (by decide) (fun c3 => ?_) (fun c3 => ?_)
  · have hz := hz.trans (if_neg c3)
    have hok := hok.2 c3
    refine lv_aload_n hx hb d_Mo_setNow_11 rfl (lv_at hl 0 rfl) ?_
    have hs4 := hok.1
    have hok := hok.2
    have hB : SubW g (inW (wMo g mo a o now dr pa sa iS bu tq rT wT sK sA sB sE oq bS bE bL rp)) s (wMo g mo a o now dr pa sa iS bu tq rT wT sK sA sB sE oq bS bE bL rp) _ (List.range _) _ _ := (subF hP hD hS)
    refine goI0 hB (run_v C mf_Mo_setting qm_Mo_176 (c_Mo_setting l g mo a o now dr pa sa iS bu tq rT wT sK sA sB sE oq bS bE bL rp hs4) rfl rfl ⟨Nat.le_of_ble_eq_true rfl, Nat.le_of_ble_eq_true rfl⟩ ⟨Nat.le_of_ble_eq_true rfl, Nat.le_of_ble_eq_true rfl⟩ hB rfl rfl hl rfl rfl (Nat.le_of_ble_eq_true rfl) d_Mo_setNow_12) (fun y5 ey5 H locs hP hS => ?_)
    have hz := lett_z hz ey5
    have hok := lett_o hok ey5
    refine lv_istore_n (lv' := [(2, .int y5), (0, .ref mo), (1, .int p1)]) hx hb d_Mo_setNow_15 rfl hl (by decide) rfl (fun ls hl => ?_)
    refine lv_aload_n hx hb d_Mo_setNow_16 rfl (lv_at hl 1 rfl) ?_
    refine lv_iload_n hx hb d_Mo_setNow_17 rfl (lv_at hl 2 rfl) ?_
    have hs6 := hok.1
    have hok := hok.2
    have hB : SubW g (inW (wMo g mo a o now dr pa sa iS bu tq rT wT sK sA sB sE oq bS bE bL rp)) s (wMo g mo a o now dr pa sa iS bu tq rT wT sK sA sB sE oq bS bE bL rp) _ (List.range _) _ _ := (subF hP hD hS)
    refine goVF hB (run_v C mf_Mo_laySetting qm_Mo_248 (c_Mo_laySetting l g mo a o now dr pa sa iS bu tq rT wT sK sA sB sE oq bS bE bL rp p1 hs6) rfl rfl ⟨Nat.le_of_ble_eq_true rfl, Nat.le_of_ble_eq_true rfl⟩ ⟨Nat.le_of_ble_eq_true rfl, Nat.le_of_ble_eq_true rfl⟩ hB rfl rfl hl rfl rfl (Nat.le_of_ble_eq_true rfl) d_Mo_setNow_18) (fun _ => rfl) (fun y7 ey7 H locs hP hD hS => ?_)
    have hP : va_P g.1 vwCl (wMo g mo a o y7 dr pa sa iS bu tq rT wT sK sA sB sE oq bS bE bL rp) H := hP
    have hD : va_D (inW (wMo g mo a o now dr pa sa iS bu tq rT wT sK sA sB sE oq bS bE bL rp)) (wMo g mo a o y7 dr pa sa iS bu tq rT wT sK sA sB sE oq bS bE bL rp) := hD
    have hz := lett_z hz ey7
    refine lv_iload_n hx hb d_Mo_setNow_21 rfl (lv_at hl 0 rfl) ?_
    exact endI1 C hz hP hS d_Mo_setNow_22
  · have hz := hz.trans (if_pos c3)
    refine lv_bipush (v := -2) hx hb d_Mo_setNow_8 (by decide) ?_
    exact endI1 C hz hP hS d_Mo_setNow_10
abbrev rm_Mo_turnNow : Room := { frames := 0, cells := 0, slots := 0, locals := 0 }
noncomputable def sp_Mo_turnNow (now : LV) : Int32 × LV := lett (vp_updL now 31 ((1 : Int64) - (now 31))) fun (now_1 : LV) => ((now_1 31).toInt32, now_1)
set_option maxRecDepth 100000 in
set_option maxHeartbeats 4000000 in
theorem c_Mo_turnNow (l : Launch) (g : GX) (mo : Nat) (a : Nat → Nat) (o : IV) (now : LV) (dr : LV) (pa : LV) (sa : LV) (iS : IV) (bu : IV) (tq : IV) (rT : IV) (wT : IV) (sK : IV) (sA : IV) (sB : IV) (sE : IV) (oq : IV) (bS : IV) (bE : IV) (bL : IV) (rp : IV)  : Met l y_Mo_turnNow (wsY y_Mo_turnNow b_Mo_turnNow 1 (some .int)) rm_Mo_turnNow (CP g [.ref mo] (wMo g mo a o now dr pa sa iS bu tq rT wT sK sA sB sE oq bS bE bL rp)) (CI g (wMo g mo a o now dr pa sa iS bu tq rT wT sK sA sB sE oq bS bE bL rp) (fun u : LV => wMo g mo a o u dr pa sa iS bu tq rT wT sK sA sB sE oq bS bE bL rp) (sp_Mo_turnNow now)) 0 0 (inW (wMo g mo a o now dr pa sa iS bu tq rT wT sK sA sB sE oq bS bE bL rp)) := by
  refine Met.ofW (cc := b_Mo_turnNow) (maxL := 1) (ret := (some .int)) pn_Mo rfl ?_
  intro p e s m args below meth c s₁ B hml hv
  obtain ⟨rfl, C, hP, hD, hS⟩ := enter "DecadeBridgeModel" rfl B hml hv
  obtain ⟨hx, hb, hr, hml, hown, hlk, hts, hK, hZo, hZ⟩ := id C
  refine entryW (lv := [(0, .ref mo)]) rfl (Nat.le_of_ble_eq_true rfl) (fun ls hl => ?_)
  obtain ⟨z, hz⟩ : ∃ z, z = sp_Mo_turnNow now := ⟨_, rfl⟩
  rw [← hz]
  unfold sp_Mo_turnNow at hz
  refine lv_aload_n hx hb d_Mo_turnNow_0 rfl (lv_at hl 0 rfl) ?_
  refine gf C hP 0 0 fkMo rfl (by decide) rfl qf_Mo_7 (gMo_0 _ _) d_Mo_turnNow_1 ?_
  refine lv_bipush (v := 31) hx hb d_Mo_turnNow_4 (by decide) ?_
  refine lv_lconst (v := 1) hx hb d_Mo_turnNow_6 (by decide) ?_
  refine lv_aload_n hx hb d_Mo_turnNow_7 rfl (lv_at hl 0 rfl) ?_
  refine gf C hP 0 0 fkMo rfl (by decide) rfl qf_Mo_7 (gMo_0 _ _) d_Mo_turnNow_8 ?_
  refine lv_bipush (v := 31) hx hb d_Mo_turnNow_11 (by decide) ?_
  refine ldL C hP 1 rfl vi_31_215 cn_31 d_Mo_turnNow_13 ?_
  refine lv_lsub hx hb d_Mo_turnNow_14 ?_
  refine stL C hP hD hS 1 rfl vi_31_215 cn_31 d_Mo_turnNow_15 (fun now_1 enow_1 H locs hP hD hS => ?_)
  have hP : va_P g.1 vwCl (wMo g mo a o now_1 dr pa sa iS bu tq rT wT sK sA sB sE oq bS bE bL rp) H := hP
  have hD : va_D (inW (wMo g mo a o now dr pa sa iS bu tq rT wT sK sA sB sE oq bS bE bL rp)) (wMo g mo a o now_1 dr pa sa iS bu tq rT wT sK sA sB sE oq bS bE bL rp) := hD
  have hz := lett_z hz enow_1
  refine lv_aload_n hx hb d_Mo_turnNow_16 rfl (lv_at hl 0 rfl) ?_
  refine gf C hP 0 0 fkMo rfl (by decide) rfl qf_Mo_7 (gMo_0 _ _) d_Mo_turnNow_17 ?_
  refine lv_bipush (v := 31) hx hb d_Mo_turnNow_20 (by decide) ?_
  refine ldL C hP 1 rfl vi_31_215 cn_31 d_Mo_turnNow_22 ?_
  refine lv_l2i hx hb d_Mo_turnNow_23 rfl ?_
  exact endI1 C hz hP hS d_Mo_turnNow_24
abbrev rm_Mo_restNow : Room := { frames := 9, cells := 0, slots := 0, locals := 207 }
def HL_Mo_restNow_2 (p : Program) (l : Launch) (e : Env) (s : State) (m : MethodId) (args : Array Value) (below : List Frame) (meth : Method) (c : Code) (g : GX) (mo : Nat) (a : Nat → Nat) (ws0 : va_W) (o : IV) (dr : LV) (pa : LV) (sa : LV) (iS : IV) (bu : IV) (tq : IV) (rT : IV) (wT : IV) (sK : IV) (sA : IV) (sB : IV) (sE : IV) (oq : IV) (bS : IV) (bE : IV) (bL : IV) (rp : IV) (p1 : Int32) (sp : Int32 → LV → (Int32 × LV)) (ok : Int32 → LV → Prop) : Prop := ∀ (x2p2 : Int32) (nowp2 : LV), ok x2p2 nowp2 → ∀ z : (Int32 × LV), z = sp x2p2 nowp2 → ∀ (H : Heap) (locs : List Loc) (ls : Array Slot), va_P g.1 vwCl (wMo g mo a o nowp2 dr pa sa iS bu tq rT wT sK sA sB sE oq bS bE bL rp) H → va_D (inW ws0) (wMo g mo a o nowp2 dr pa sa iS bu tq rT wT sK sA sB sE oq bS bE bL rp) → va_S (inW ws0) s.heap H locs → lv_has ls 3 [(0, .ref mo), (1, .int p1), (2, .int x2p2)] → W p l e rm_Mo_restNow s m args below meth c H locs 0 0 (MQ below (CI g ws0 (fun u : LV => wMo g mo a o u dr pa sa iS bu tq rT wT sK sA sB sE oq bS bE bL rp) z) args s 0 0 (inW ws0)) (F0 m 2 ls [])
def HL_Mo_restNow_18 (p : Program) (l : Launch) (e : Env) (s : State) (m : MethodId) (args : Array Value) (below : List Frame) (meth : Method) (c : Code) (g : GX) (mo : Nat) (a : Nat → Nat) (ws0 : va_W) (o : IV) (nowp2 : LV) (dr : LV) (pa : LV) (sa : LV) (iS : IV) (bu : IV) (tq : IV) (rT : IV) (wT : IV) (sK : IV) (sA : IV) (sB : IV) (sE : IV) (oq : IV) (bS : IV) (bE : IV) (bL : IV) (rp : IV) (sp : (Int32 × LV)) (ok : Prop) : Prop := ∀ (_ : Unit), ok → ∀ z : (Int32 × LV), z = sp → ∀ (H : Heap) (locs : List Loc) (ls : Array Slot), va_P g.1 vwCl (wMo g mo a o nowp2 dr pa sa iS bu tq rT wT sK sA sB sE oq bS bE bL rp) H → va_D (inW ws0) (wMo g mo a o nowp2 dr pa sa iS bu tq rT wT sK sA sB sE oq bS bE bL rp) → va_S (inW ws0) s.heap H locs → lv_has ls 3 [(0, .ref mo)] → W p l e rm_Mo_restNow s m args below meth c H locs 0 0 (MQ below (CI g ws0 (fun u : LV => wMo g mo a o u dr pa sa iS bu tq rT wT sK sA sB sE oq bS bE bL rp) z) args s 0 0 (inW ws0)) (F0 m 18 ls [])
noncomputable def sp_Mo_restNow_18 (nowp2 : LV)   : Int32 × LV := ((nowp2 39).toInt32, nowp2)
def ok_Mo_restNow_18 (nowp2 : LV)    : Prop := True
set_option maxRecDepth 100000 in
set_option maxHeartbeats 4000000 in
theorem k_Mo_restNow_18 {p : Program} {l : Launch} {e : Env} {s : State} {m : MethodId} {args : Array Value} {below : List Frame} {meth : Method} {c : Code} {g : GX} {mo : Nat} {a : Nat → Nat} {ws0 : va_W} {o : IV} {nowp2 : LV} {dr : LV} {pa : LV} {sa : LV} {iS : IV} {bu : IV} {tq : IV} {rT : IV} {wT : IV} {sK : IV} {sA : IV} {sB : IV} {sE : IV} {oq : IV} {bS : IV} {bE : IV} {bL : IV} {rp : IV}  (C : Cx p s m args meth c (inW ws0) g "DecadeBridgeModel" b_Mo_restNow (some .int) 3)  : HL_Mo_restNow_18 p l e s m args below meth c g mo a ws0 o nowp2 dr pa sa iS bu tq rT wT sK sA sB sE oq bS bE bL rp (sp_Mo_restNow_18 nowp2 ) (ok_Mo_restNow_18 nowp2  ) := by
  intro _ hok z hz H locs ls hP hD hS hl
  obtain ⟨hx, hb, hr, hml, hown, hlk, hts, hK, hZo, hZ⟩ := id C
  unfold sp_Mo_restNow_18 at hz
  refine lv_aload_n hx hb d_Mo_restNow_18 rfl (lv_at hl 0 rfl) ?_
  refine gf C hP 0 0 fkMo rfl (by decide) rfl qf_Mo_7 (gMo_0 _ _) d_Mo_restNow_19 ?_
  refine lv_bipush (v := 39) hx hb d_Mo_restNow_22 (by decide) ?_
  refine ldL C hP 1 rfl vi_39_215 cn_39 d_Mo_restNow_24 ?_
  refine lv_l2i hx hb d_Mo_restNow_25 rfl ?_
  exact endI1 C hz hP hS d_Mo_restNow_26
noncomputable def bd_Mo_restNow_2 (p1 : Int32) (r2 : Int32 → LV → (Int32 × LV)) (x2p2 : Int32) (nowp2 : LV) : Int32 × LV := if p1 ≤ x2p2 then (sp_Mo_restNow_18 nowp2) else (lett (sp_Mo_tick (0 : Int32) nowp2) fun (y3 : LV) => lett (x2p2 + (1 : Int32)) fun (v4 : Int32) => r2 v4 y3)
def okb_Mo_restNow_2 (p1 : Int32) (r2 : Int32 → LV → (Int32 × LV)) (q2 : Int32 → LV → Prop) (x2p2 : Int32) (nowp2 : LV) : Prop := ((p1 ≤ x2p2 → True) ∧ (¬ (p1 ≤ x2p2) → (ok_Mo_tick (0 : Int32) nowp2) ∧ lett (sp_Mo_tick (0 : Int32) nowp2) fun (y3 : LV) => lett (x2p2 + (1 : Int32)) fun (v4 : Int32) => q2 v4 y3))
noncomputable def sp_Mo_restNow_2 (p1 : Int32)  : Nat → Int32 → LV → (Int32 × LV)
  | 0 => fun _ _ => default
  | f + 1 => bd_Mo_restNow_2 p1  (sp_Mo_restNow_2 p1  f)
def ok_Mo_restNow_2 (p1 : Int32)   : Nat → Int32 → LV → Prop
  | 0 => fun _ _ => False
  | f + 1 => okb_Mo_restNow_2 p1  (sp_Mo_restNow_2 p1  f)  (ok_Mo_restNow_2 p1   f)
set_option maxRecDepth 100000 in
set_option maxHeartbeats 4000000 in
theorem kb_Mo_restNow_2 {p : Program} {l : Launch} {e : Env} {s : State} {m : MethodId} {args : Array Value} {below : List Frame} {meth : Method} {c : Code} {g : GX} {mo : Nat} {a : Nat → Nat} {ws0 : va_W} {o : IV} {dr : LV} {pa : LV} {sa : LV} {iS : IV} {bu : IV} {tq : IV} {rT : IV} {wT : IV} {sK : IV} {sA : IV} {sB : IV} {sE : IV} {oq : IV} {bS : IV} {bE : IV} {bL : IV} {rp : IV} {p1 : Int32}  (C : Cx p s m args meth c (inW ws0) g "DecadeBridgeModel" b_Mo_restNow (some .int) 3) {r2 : Int32 → LV → (Int32 × LV)} {q2 : Int32 → LV → Prop}  (ih2 : HL_Mo_restNow_2 p l e s m args below meth c g mo a ws0 o dr pa sa iS bu tq rT wT sK sA sB sE oq bS bE bL rp p1 r2 q2) : HL_Mo_restNow_2 p l e s m args below meth c g mo a ws0 o dr pa sa iS bu tq rT wT sK sA sB sE oq bS bE bL rp p1 (bd_Mo_restNow_2 p1  r2) (okb_Mo_restNow_2 p1  r2  q2) := by
  intro x2p2 nowp2 hok z hz H locs ls hP hD hS hl
  obtain ⟨hx, hb, hr, hml, hown, hlk, hts, hK, hZo, hZ⟩ := id C
  unfold bd_Mo_restNow_2 at hz
  unfold okb_Mo_restNow_2 at hok
  refine lv_iload_n hx hb d_Mo_restNow_2 rfl (lv_at hl 2 rfl) ?_
  refine lv_iload_n hx hb d_Mo_restNow_3 rfl (lv_at hl 1 rfl) ?_
  refine lv_icmp_ge (tgt := 18) hx hb d_Mo_restNow_4 (by decide) (fun c1 => ?_) (fun c1 => ?_)
  · have hz := hz.trans (if_pos c1)
    exact k_Mo_restNow_18 C () trivial _ hz _ _ ls hP hD hS (lv_sub hl [0] rfl)
  · have hz := hz.trans (if_neg c1)
    have hok := hok.2 c1
    refine lv_aload_n hx hb d_Mo_restNow_7 rfl (lv_at hl 0 rfl) ?_
    refine lv_iconst (v := 0) hx hb d_Mo_restNow_8 (by decide) ?_
    have hs2 := hok.1
    have hok := hok.2
    have hB : SubW g (inW ws0) s (wMo g mo a o nowp2 dr pa sa iS bu tq rT wT sK sA sB sE oq bS bE bL rp) _ (List.range _) _ _ := (subF hP hD hS)
    refine goVF hB (run_v C mf_Mo_tick qm_Mo_227 (c_Mo_tick l g mo a o nowp2 dr pa sa iS bu tq rT wT sK sA sB sE oq bS bE bL rp (0 : Int32) hs2) rfl rfl ⟨Nat.le_of_ble_eq_true rfl, Nat.le_of_ble_eq_true rfl⟩ ⟨Nat.le_of_ble_eq_true rfl, Nat.le_of_ble_eq_true rfl⟩ hB rfl rfl hl rfl rfl (Nat.le_of_ble_eq_true rfl) d_Mo_restNow_9) (fun _ => rfl) (fun y3 ey3 H locs hP hD hS => ?_)
    have hP : va_P g.1 vwCl (wMo g mo a o y3 dr pa sa iS bu tq rT wT sK sA sB sE oq bS bE bL rp) H := hP
    have hD : va_D (inW ws0) (wMo g mo a o y3 dr pa sa iS bu tq rT wT sK sA sB sE oq bS bE bL rp) := hD
    have hz := lett_z hz ey3
    have hok := lett_o hok ey3
    obtain ⟨v4, ev4⟩ : ∃ y : Int32, y = x2p2 + (1 : Int32) := ⟨_, rfl⟩
    have hz := lett_z hz ev4
    have hok := lett_o hok ev4
    refine lv_iinc (v := v4) (lv' := [(2, .int v4), (0, .ref mo), (1, .int p1)]) hx hb d_Mo_restNow_12 hl (k := 2) rfl (by rw [ev4]; rfl) (by decide) rfl (fun ls hl => ?_)
    refine lv_goto (tgt := 2) hx hb d_Mo_restNow_15 (by decide) ?_
    exact ih2 v4 y3 hok _ hz _ _ ls hP hD hS (lv_sub hl [1, 2, 0] rfl)
theorem k_Mo_restNow_2 {p : Program} {l : Launch} {e : Env} {s : State} {m : MethodId} {args : Array Value} {below : List Frame} {meth : Method} {c : Code} {g : GX} {mo : Nat} {a : Nat → Nat} {ws0 : va_W} {o : IV} {dr : LV} {pa : LV} {sa : LV} {iS : IV} {bu : IV} {tq : IV} {rT : IV} {wT : IV} {sK : IV} {sA : IV} {sB : IV} {sE : IV} {oq : IV} {bS : IV} {bE : IV} {bL : IV} {rp : IV} {p1 : Int32}  (C : Cx p s m args meth c (inW ws0) g "DecadeBridgeModel" b_Mo_restNow (some .int) 3) (f : Nat)  : HL_Mo_restNow_2 p l e s m args below meth c g mo a ws0 o dr pa sa iS bu tq rT wT sK sA sB sE oq bS bE bL rp p1 (sp_Mo_restNow_2 p1  f) (ok_Mo_restNow_2 p1   f) := by
  induction f with
  | zero => intro x2p2 nowp2 hok; exact False.elim hok
  | succ f ih => exact kb_Mo_restNow_2 C  ih
noncomputable def sp_Mo_restNow (p1 : Int32) (now : LV) : Int32 × LV := sp_Mo_restNow_2 p1 big (0 : Int32) now
def ok_Mo_restNow (p1 : Int32) (now : LV) : Prop := ok_Mo_restNow_2 p1 big (0 : Int32) now
set_option maxRecDepth 100000 in
set_option maxHeartbeats 4000000 in
theorem c_Mo_restNow (l : Launch) (g : GX) (mo : Nat) (a : Nat → Nat) (o : IV) (now : LV) (dr : LV) (pa : LV) (sa : LV) (iS : IV) (bu : IV) (tq : IV) (rT : IV) (wT : IV) (sK : IV) (sA : IV) (sB : IV) (sE : IV) (oq : IV) (bS : IV) (bE : IV) (bL : IV) (rp : IV) (p1 : Int32) (hok : ok_Mo_restNow p1 now) : Met l y_Mo_restNow (wsY y_Mo_restNow b_Mo_restNow 3 (some .int)) rm_Mo_restNow (CP g [.ref mo, .int p1] (wMo g mo a o now dr pa sa iS bu tq rT wT sK sA sB sE oq bS bE bL rp)) (CI g (wMo g mo a o now dr pa sa iS bu tq rT wT sK sA sB sE oq bS bE bL rp) (fun u : LV => wMo g mo a o u dr pa sa iS bu tq rT wT sK sA sB sE oq bS bE bL rp) (sp_Mo_restNow p1 now)) 0 0 (inW (wMo g mo a o now dr pa sa iS bu tq rT wT sK sA sB sE oq bS bE bL rp)) := by
  refine Met.ofW (cc := b_Mo_restNow) (maxL := 3) (ret := (some .int)) pn_Mo rfl ?_
  intro p e s m args below meth c s₁ B hml hv
  obtain ⟨rfl, C, hP, hD, hS⟩ := enter "DecadeBridgeModel" rfl B hml hv
  obtain ⟨hx, hb, hr, hml, hown, hlk, hts, hK, hZo, hZ⟩ := id C
  refine entryW (lv := [(0, .ref mo), (1, .int p1)]) rfl (Nat.le_of_ble_eq_true rfl) (fun ls hl => ?_)
  obtain ⟨z, hz⟩ : ∃ z, z = sp_Mo_restNow p1 now := ⟨_, rfl⟩
  rw [← hz]
  unfold sp_Mo_restNow at hz
  unfold ok_Mo_restNow at hok
  refine lv_iconst (v := 0) hx hb d_Mo_restNow_0 (by decide) ?_
  refine lv_istore_n (lv' := [(2, .int (0 : Int32)), (0, .ref mo), (1, .int p1)]) hx hb d_Mo_restNow_1 rfl hl (by decide) rfl (fun ls hl => ?_)
  exact k_Mo_restNow_2 C big (0 : Int32) now hok _ hz _ _ ls hP hD hS (lv_sub hl [1, 2, 0] rfl)
abbrev rm_Mo_whyNotRead : Room := { frames := 7, cells := 0, slots := 0, locals := 153 }
noncomputable def sp_Mo_whyNotRead (now : LV) : Int32 := if (now 22) = (0 : Int64) then ((-2 : Int32)) else (lett (sp_Mo_canRead now) fun (y3 : Int32) => if y3 = 0 then ((-3 : Int32)) else ((0 : Int32)))
def ok_Mo_whyNotRead (now : LV) : Prop := (((now 22) = (0 : Int64) → True) ∧ (¬ ((now 22) = (0 : Int64)) → (ok_Mo_canRead now) ∧ True))
set_option maxRecDepth 100000 in
set_option maxHeartbeats 4000000 in
theorem c_Mo_whyNotRead (l : Launch) (g : GX) (mo : Nat) (a : Nat → Nat) (o : IV) (now : LV) (dr : LV) (pa : LV) (sa : LV) (iS : IV) (bu : IV) (tq : IV) (rT : IV) (wT : IV) (sK : IV) (sA : IV) (sB : IV) (sE : IV) (oq : IV) (bS : IV) (bE : IV) (bL : IV) (rp : IV)  (hok : ok_Mo_whyNotRead now) : Met l y_Mo_whyNotRead (wsY y_Mo_whyNotRead b_Mo_whyNotRead 1 (some .int)) rm_Mo_whyNotRead (CP g [.ref mo] (wMo g mo a o now dr pa sa iS bu tq rT wT sK sA sB sE oq bS bE bL rp)) (CI0 g (wMo g mo a o now dr pa sa iS bu tq rT wT sK sA sB sE oq bS bE bL rp) (sp_Mo_whyNotRead now)) 0 0 (inW (wMo g mo a o now dr pa sa iS bu tq rT wT sK sA sB sE oq bS bE bL rp)) := by
  refine Met.ofW (cc := b_Mo_whyNotRead) (maxL := 1) (ret := (some .int)) pn_Mo rfl ?_
  intro p e s m args below meth c s₁ B hml hv
  obtain ⟨rfl, C, hP, hD, hS⟩ := enter "DecadeBridgeModel" rfl B hml hv
  obtain ⟨hx, hb, hr, hml, hown, hlk, hts, hK, hZo, hZ⟩ := id C
  refine entryW (lv := [(0, .ref mo)]) rfl (Nat.le_of_ble_eq_true rfl) (fun ls hl => ?_)
  obtain ⟨z, hz⟩ : ∃ z, z = sp_Mo_whyNotRead now := ⟨_, rfl⟩
  rw [← hz]
  unfold sp_Mo_whyNotRead at hz
  unfold ok_Mo_whyNotRead at hok
  refine lv_aload_n hx hb d_Mo_whyNotRead_0 rfl (lv_at hl 0 rfl) ?_
  refine gf C hP 0 0 fkMo rfl (by decide) rfl qf_Mo_7 (gMo_0 _ _) d_Mo_whyNotRead_1 ?_
  refine lv_bipush (v := 22) hx hb d_Mo_whyNotRead_4 (by decide) ?_
  refine ldL C hP 1 rfl vi_22_215 cn_22 d_Mo_whyNotRead_6 ?_
  refine lv_lconst (v := 0) hx hb d_Mo_whyNotRead_7 (by decide) ?_
  refine lc_ne (tgt := 17) hx hb d_Mo_whyNotRead_8 d_Mo_whyNotRead_9 (by decide) (fun c1 => ?_) (fun c1 => ?_)
  · have hz := hz.trans (if_neg c1)
    have hok := hok.2 c1
    refine lv_aload_n hx hb d_Mo_whyNotRead_17 rfl (lv_at hl 0 rfl) ?_
    have hs2 := hok.1
    have hok := hok.2
    have hB : SubW g (inW (wMo g mo a o now dr pa sa iS bu tq rT wT sK sA sB sE oq bS bE bL rp)) s (wMo g mo a o now dr pa sa iS bu tq rT wT sK sA sB sE oq bS bE bL rp) _ (List.range _) _ _ := (subF hP hD hS)
    refine goI0 hB (run_v C mf_Mo_canRead qm_Mo_234 (c_Mo_canRead l g mo a o now dr pa sa iS bu tq rT wT sK sA sB sE oq bS bE bL rp hs2) rfl rfl ⟨Nat.le_of_ble_eq_true rfl, Nat.le_of_ble_eq_true rfl⟩ ⟨Nat.le_of_ble_eq_true rfl, Nat.le_of_ble_eq_true rfl⟩ hB rfl rfl hl rfl rfl (Nat.le_of_ble_eq_true rfl) d_Mo_whyNotRead_18) (fun y3 ey3 H locs hP hS => ?_)
    have hz := lett_z hz ey3
    refine lv_if_eq (tgt := 28) hx hb d_Mo_whyNotRead_21 (by decide) (fun c4 => ?_) (fun c4 => ?_)
    · have hz := hz.trans (if_pos c4)
      refine lv_bipush (v := -3) hx hb d_Mo_whyNotRead_28 (by decide) ?_
      exact endI0 C hz hP hS d_Mo_whyNotRead_30
    · have hz := hz.trans (if_neg c4)
      refine lv_iconst (v := 0) hx hb d_Mo_whyNotRead_24 (by decide) ?_
      refine lv_goto (tgt := 30) hx hb d_Mo_whyNotRead_25 (by decide) ?_
      exact endI0 C hz hP hS d_Mo_whyNotRead_30
  · have hz := hz.trans (if_pos c1)
    refine lv_bipush (v := -2) hx hb d_Mo_whyNotRead_12 (by decide) ?_
    refine lv_goto (tgt := 30) hx hb d_Mo_whyNotRead_14 (by decide) ?_
    exact endI0 C hz hP hS d_Mo_whyNotRead_30
abbrev rm_Mo_setArms : Room := { frames := 2, cells := 0, slots := 0, locals := 49 }
def HL_Mo_setArms_21 (p : Program) (l : Launch) (e : Env) (s : State) (m : MethodId) (args : Array Value) (below : List Frame) (meth : Method) (c : Code) (g : GX) (mo : Nat) (a : Nat → Nat) (ws0 : va_W) (o : IV) (now : LV) (dr : LV) (pa : LV) (sa : LV) (iS : IV) (bu : IV) (tq : IV) (rT : IV) (wT : IV) (sK : IV) (sA : IV) (sB : IV) (sE : IV) (oq : IV) (bS : IV) (bE : IV) (bL : IV) (rp : IV) (p1 : Int32) (p2 : Int32) (sp : (Int32 × IV × LV × LV)) (ok : Prop) : Prop := ∀ (_ : Unit), ok → ∀ z : (Int32 × IV × LV × LV), z = sp → ∀ (H : Heap) (locs : List Loc) (ls : Array Slot), va_P g.1 vwCl (wMo g mo a o now dr pa sa iS bu tq rT wT sK sA sB sE oq bS bE bL rp) H → va_D (inW ws0) (wMo g mo a o now dr pa sa iS bu tq rT wT sK sA sB sE oq bS bE bL rp) → va_S (inW ws0) s.heap H locs → lv_has ls 3 [(0, .ref mo), (1, .int p1), (2, .int p2)] → W p l e rm_Mo_setArms s m args below meth c H locs 0 0 (MQ below (CI g ws0 (fun u : IV × LV × LV => wMo g mo a u.1 u.2.1 dr u.2.2 sa iS bu tq rT wT sK sA sB sE oq bS bE bL rp) z) args s 0 0 (inW ws0)) (F0 m 21 ls [.ref mo])
def HL_Mo_setArms_22 (p : Program) (l : Launch) (e : Env) (s : State) (m : MethodId) (args : Array Value) (below : List Frame) (meth : Method) (c : Code) (g : GX) (mo : Nat) (a : Nat → Nat) (ws0 : va_W) (o : IV) (now : LV) (dr : LV) (pa : LV) (sa : LV) (iS : IV) (bu : IV) (tq : IV) (rT : IV) (wT : IV) (sK : IV) (sA : IV) (sB : IV) (sE : IV) (oq : IV) (bS : IV) (bE : IV) (bL : IV) (rp : IV) (p1 : Int32) (p2 : Int32) (sp : Int32 → (Int32 × IV × LV × LV)) (ok : Int32 → Prop) : Prop := ∀ (t1p22 : Int32), ok t1p22 → ∀ z : (Int32 × IV × LV × LV), z = sp t1p22 → ∀ (H : Heap) (locs : List Loc) (ls : Array Slot), va_P g.1 vwCl (wMo g mo a o now dr pa sa iS bu tq rT wT sK sA sB sE oq bS bE bL rp) H → va_D (inW ws0) (wMo g mo a o now dr pa sa iS bu tq rT wT sK sA sB sE oq bS bE bL rp) → va_S (inW ws0) s.heap H locs → lv_has ls 3 [(0, .ref mo), (1, .int p1), (2, .int p2)] → W p l e rm_Mo_setArms s m args below meth c H locs 0 0 (MQ below (CI g ws0 (fun u : IV × LV × LV => wMo g mo a u.1 u.2.1 dr u.2.2 sa iS bu tq rT wT sK sA sB sE oq bS bE bL rp) z) args s 0 0 (inW ws0)) (F0 m 22 ls [.int t1p22, .ref mo])
noncomputable def sp_Mo_setArms_22 (o : IV) (now : LV) (pa : LV) (p1 : Int32) (p2 : Int32)  (t1p22 : Int32) : Int32 × IV × LV × LV := lett (upd o 6 t1p22) fun (o_7 : IV) => if (o_7 6) ≤ 0 then (lett (sp_Mo_record o_7 now pa) fun (y10 : IV × LV) => lett (sp_Mo_armsNow p1.toInt64 p2.toInt64 now) fun (y12 : Int32 × LV) => (y12.1, (y10.1, y12.2, y10.2))) else (((0 : Int32), (o_7, now, pa)))
def ok_Mo_setArms_22 (o : IV) (now : LV) (pa : LV) (p1 : Int32) (p2 : Int32)   (t1p22 : Int32) : Prop := lett (upd o 6 t1p22) fun (o_7 : IV) => (((o_7 6) ≤ 0 → (ok_Mo_record o_7 now pa) ∧ lett (sp_Mo_record o_7 now pa) fun (y10 : IV × LV) => (ok_Mo_armsNow p1.toInt64 p2.toInt64 now) ∧ True) ∧ (¬ ((o_7 6) ≤ 0) → True))
set_option maxRecDepth 100000 in
set_option maxHeartbeats 4000000 in
theorem k_Mo_setArms_22 {p : Program} {l : Launch} {e : Env} {s : State} {m : MethodId} {args : Array Value} {below : List Frame} {meth : Method} {c : Code} {g : GX} {mo : Nat} {a : Nat → Nat} {ws0 : va_W} {o : IV} {now : LV} {dr : LV} {pa : LV} {sa : LV} {iS : IV} {bu : IV} {tq : IV} {rT : IV} {wT : IV} {sK : IV} {sA : IV} {sB : IV} {sE : IV} {oq : IV} {bS : IV} {bE : IV} {bL : IV} {rp : IV} {p1 : Int32} {p2 : Int32}  (C : Cx p s m args meth c (inW ws0) g "DecadeBridgeModel" b_Mo_setArms (some .int) 3)  : HL_Mo_setArms_22 p l e s m args below meth c g mo a ws0 o now dr pa sa iS bu tq rT wT sK sA sB sE oq bS bE bL rp p1 p2 (sp_Mo_setArms_22 o now pa p1 p2 ) (ok_Mo_setArms_22 o now pa p1 p2  ) := by
  intro t1p22 hok z hz H locs ls hP hD hS hl
  obtain ⟨hx, hb, hr, hml, hown, hlk, hts, hK, hZo, hZ⟩ := id C
  unfold sp_Mo_setArms_22 at hz
  unfold ok_Mo_setArms_22 at hok
  refine pfI C hP hD hS 0 6 fkMo rfl (by decide) rfl qf_Mo_107 rfl rfl rfl (Nat.le_of_ble_eq_true rfl) (ff := fun o => fMo a o) (sMo_6 _ _ _) d_Mo_setArms_22 (fun o_7 eo_7 H locs hP hD hS => ?_)
  have hP : va_P g.1 vwCl (wMo g mo a o_7 now dr pa sa iS bu tq rT wT sK sA sB sE oq bS bE bL rp) H := hP
  have hD : va_D (inW ws0) (wMo g mo a o_7 now dr pa sa iS bu tq rT wT sK sA sB sE oq bS bE bL rp) := hD
  have hz := lett_z hz eo_7
  have hok := lett_o hok eo_7
  refine lv_aload_n hx hb d_Mo_setArms_25 rfl (lv_at hl 0 rfl) ?_
  refine gf C hP 0 6 fkMo rfl (by decide) rfl qf_Mo_107 (gMo_6 _ _) d_Mo_setArms_26 ?_
  refine lv_if_le (tgt := 34) hx hb d_Mo_setArms_29 (by decide) (fun c8 => ?_) (fun c8 => ?_)
  · have hz := hz.trans (if_pos c8)
    have hok := hok.1 c8
    refine lv_aload_n hx hb d_Mo_setArms_34 rfl (lv_at hl 0 rfl) ?_
    have hs9 := hok.1
    have hok := hok.2
    have hB : SubW g (inW ws0) s (wMo g mo a o_7 now dr pa sa iS bu tq rT wT sK sA sB sE oq bS bE bL rp) _ (List.range _) _ _ := (subF hP hD hS)
    refine goVF hB (run_v C mf_Mo_record qm_Mo_484 (c_Mo_record l g mo a o_7 now dr pa sa iS bu tq rT wT sK sA sB sE oq bS bE bL rp hs9) rfl rfl ⟨Nat.le_of_ble_eq_true rfl, Nat.le_of_ble_eq_true rfl⟩ ⟨Nat.le_of_ble_eq_true rfl, Nat.le_of_ble_eq_true rfl⟩ hB rfl rfl hl rfl rfl (Nat.le_of_ble_eq_true rfl) d_Mo_setArms_35) (fun _ => rfl) (fun y10 ey10 H locs hP hD hS => ?_)
    have hP : va_P g.1 vwCl (wMo g mo a y10.1 now dr y10.2 sa iS bu tq rT wT sK sA sB sE oq bS bE bL rp) H := hP
    have hD : va_D (inW ws0) (wMo g mo a y10.1 now dr y10.2 sa iS bu tq rT wT sK sA sB sE oq bS bE bL rp) := hD
    have hz := lett_z hz ey10
    have hok := lett_o hok ey10
    refine lv_aload_n hx hb d_Mo_setArms_38 rfl (lv_at hl 0 rfl) ?_
    refine lv_iload_n hx hb d_Mo_setArms_39 rfl (lv_at hl 1 rfl) ?_
    refine lv_i2l hx hb d_Mo_setArms_40 rfl ?_
    refine lv_iload_n hx hb d_Mo_setArms_41 rfl (lv_at hl 2 rfl) ?_
    refine lv_i2l hx hb d_Mo_setArms_42 rfl ?_
    have hs11 := hok.1
    have hok := hok.2
    have hB : SubW g (inW ws0) s (wMo g mo a y10.1 now dr y10.2 sa iS bu tq rT wT sK sA sB sE oq bS bE bL rp) _ (List.range _) _ _ := (subF hP hD hS)
    refine goIF hB (run_v C mf_Mo_armsNow qm_Mo_487 (c_Mo_armsNow l g mo a y10.1 now dr y10.2 sa iS bu tq rT wT sK sA sB sE oq bS bE bL rp p1.toInt64 p2.toInt64 hs11) rfl rfl ⟨Nat.le_of_ble_eq_true rfl, Nat.le_of_ble_eq_true rfl⟩ ⟨Nat.le_of_ble_eq_true rfl, Nat.le_of_ble_eq_true rfl⟩ hB rfl rfl hl rfl rfl (Nat.le_of_ble_eq_true rfl) d_Mo_setArms_43) (fun _ => rfl) (fun y12 ey12 H locs hP hD hS => ?_)
    have hP : va_P g.1 vwCl (wMo g mo a y10.1 y12.2 dr y10.2 sa iS bu tq rT wT sK sA sB sE oq bS bE bL rp) H := hP
    have hD : va_D (inW ws0) (wMo g mo a y10.1 y12.2 dr y10.2 sa iS bu tq rT wT sK sA sB sE oq bS bE bL rp) := hD
    have hz := lett_z hz ey12
    exact endI1 C hz hP hS d_Mo_setArms_46
  · have hz := hz.trans (if_neg c8)
    refine lv_iconst (v := 0) hx hb d_Mo_setArms_32 (by decide) ?_
    exact endI1 C hz hP hS d_Mo_setArms_33
noncomputable def sp_Mo_setArms_21 (o : IV) (now : LV) (pa : LV) (p1 : Int32) (p2 : Int32)   : Int32 × IV × LV × LV := sp_Mo_setArms_22 o now pa p1 p2 (1 : Int32)
def ok_Mo_setArms_21 (o : IV) (now : LV) (pa : LV) (p1 : Int32) (p2 : Int32)    : Prop := ok_Mo_setArms_22 o now pa p1 p2 (1 : Int32)
set_option maxRecDepth 100000 in
set_option maxHeartbeats 4000000 in
theorem k_Mo_setArms_21 {p : Program} {l : Launch} {e : Env} {s : State} {m : MethodId} {args : Array Value} {below : List Frame} {meth : Method} {c : Code} {g : GX} {mo : Nat} {a : Nat → Nat} {ws0 : va_W} {o : IV} {now : LV} {dr : LV} {pa : LV} {sa : LV} {iS : IV} {bu : IV} {tq : IV} {rT : IV} {wT : IV} {sK : IV} {sA : IV} {sB : IV} {sE : IV} {oq : IV} {bS : IV} {bE : IV} {bL : IV} {rp : IV} {p1 : Int32} {p2 : Int32}  (C : Cx p s m args meth c (inW ws0) g "DecadeBridgeModel" b_Mo_setArms (some .int) 3)  : HL_Mo_setArms_21 p l e s m args below meth c g mo a ws0 o now dr pa sa iS bu tq rT wT sK sA sB sE oq bS bE bL rp p1 p2 (sp_Mo_setArms_21 o now pa p1 p2 ) (ok_Mo_setArms_21 o now pa p1 p2  ) := by
  intro _ hok z hz H locs ls hP hD hS hl
  obtain ⟨hx, hb, hr, hml, hown, hlk, hts, hK, hZo, hZ⟩ := id C
  unfold sp_Mo_setArms_21 at hz
  unfold ok_Mo_setArms_21 at hok
  refine lv_iconst (v := 1) hx hb d_Mo_setArms_21 (by decide) ?_
  exact k_Mo_setArms_22 C (1 : Int32) hok _ hz _ _ ls hP hD hS hl
noncomputable def sp_Mo_setArms (p1 : Int32) (p2 : Int32) (o : IV) (now : LV) (pa : LV) : Int32 × IV × LV × LV := lett (sp_Mo_isKind p1.toInt64) fun (y2 : Int32) => if y2 = 0 then (sp_Mo_setArms_21 o now pa p1 p2) else (lett (sp_Mo_isKind p2.toInt64) fun (y5 : Int32) => if y5 = 0 then (sp_Mo_setArms_21 o now pa p1 p2) else (sp_Mo_setArms_22 o now pa p1 p2 (0 : Int32)))
def ok_Mo_setArms (p1 : Int32) (p2 : Int32) (o : IV) (now : LV) (pa : LV) : Prop := (ok_Mo_isKind p1.toInt64) ∧ lett (sp_Mo_isKind p1.toInt64) fun (y2 : Int32) => ((y2 = 0 → ok_Mo_setArms_21 o now pa p1 p2) ∧ (¬ (y2 = 0) → (ok_Mo_isKind p2.toInt64) ∧ lett (sp_Mo_isKind p2.toInt64) fun (y5 : Int32) => ((y5 = 0 → ok_Mo_setArms_21 o now pa p1 p2) ∧ (¬ (y5 = 0) → ok_Mo_setArms_22 o now pa p1 p2 (0 : Int32)))))
set_option maxRecDepth 100000 in
set_option maxHeartbeats 4000000 in
theorem c_Mo_setArms (l : Launch) (g : GX) (mo : Nat) (a : Nat → Nat) (o : IV) (now : LV) (dr : LV) (pa : LV) (sa : LV) (iS : IV) (bu : IV) (tq : IV) (rT : IV) (wT : IV) (sK : IV) (sA : IV) (sB : IV) (sE : IV) (oq : IV) (bS : IV) (bE : IV) (bL : IV) (rp : IV) (p1 : Int32) (p2 : Int32) (hok : ok_Mo_setArms p1 p2 o now pa) : Met l y_Mo_setArms (wsY y_Mo_setArms b_Mo_setArms 3 (some .int)) rm_Mo_setArms (CP g [.ref mo, .int p1, .int p2] (wMo g mo a o now dr pa sa iS bu tq rT wT sK sA sB sE oq bS bE bL rp)) (CI g (wMo g mo a o now dr pa sa iS bu tq rT wT sK sA sB sE oq bS bE bL rp) (fun u : IV × LV × LV => wMo g mo a u.1 u.2.1 dr u.2.2 sa iS bu tq rT wT sK sA sB sE oq bS bE bL rp) (sp_Mo_setArms p1 p2 o now pa)) 0 0 (inW (wMo g mo a o now dr pa sa iS bu tq rT wT sK sA sB sE oq bS bE bL rp)) := by
  refine Met.ofW (cc := b_Mo_setArms) (maxL := 3) (ret := (some .int)) pn_Mo rfl ?_
  intro p e s m args below meth c s₁ B hml hv
  obtain ⟨rfl, C, hP, hD, hS⟩ := enter "DecadeBridgeModel" rfl B hml hv
  obtain ⟨hx, hb, hr, hml, hown, hlk, hts, hK, hZo, hZ⟩ := id C
  refine entryW (lv := [(0, .ref mo), (1, .int p1), (2, .int p2)]) rfl (Nat.le_of_ble_eq_true rfl) (fun ls hl => ?_)
  obtain ⟨z, hz⟩ : ∃ z, z = sp_Mo_setArms p1 p2 o now pa := ⟨_, rfl⟩
  rw [← hz]
  unfold sp_Mo_setArms at hz
  unfold ok_Mo_setArms at hok
  refine lv_aload_n hx hb d_Mo_setArms_0 rfl (lv_at hl 0 rfl) ?_
  refine lv_iload_n hx hb d_Mo_setArms_1 rfl (lv_at hl 1 rfl) ?_
  refine lv_i2l hx hb d_Mo_setArms_2 rfl ?_
  have hs1 := hok.1
  have hok := hok.2
  have hB : SubW g (inW (wMo g mo a o now dr pa sa iS bu tq rT wT sK sA sB sE oq bS bE bL rp)) s (wMo g mo a o now dr pa sa iS bu tq rT wT sK sA sB sE oq bS bE bL rp) _ (List.range _) _ _ := (subF hP hD hS)
  refine goI0 hB (run_s C mf_Mo_isKind qm_Mo_423 (c_Mo_isKind l g mo a o now dr pa sa iS bu tq rT wT sK sA sB sE oq bS bE bL rp p1.toInt64 hs1) rfl rfl ⟨Nat.le_of_ble_eq_true rfl, Nat.le_of_ble_eq_true rfl⟩ ⟨Nat.le_of_ble_eq_true rfl, Nat.le_of_ble_eq_true rfl⟩ hB hl rfl rfl (Nat.le_of_ble_eq_true rfl) d_Mo_setArms_3) (fun y2 ey2 H locs hP hS => ?_)
  have hz := lett_z hz ey2
  have hok := lett_o hok ey2
  refine lv_if_eq (tgt := 21) hx hb d_Mo_setArms_6 (by decide) (fun c3 => ?_) (fun c3 => ?_)
  · have hz := hz.trans (if_pos c3)
    have hok := hok.1 c3
    exact k_Mo_setArms_21 C () hok _ hz _ _ ls hP hD hS hl
  · have hz := hz.trans (if_neg c3)
    have hok := hok.2 c3
    refine lv_iload_n hx hb d_Mo_setArms_9 rfl (lv_at hl 2 rfl) ?_
    refine lv_i2l hx hb d_Mo_setArms_10 rfl ?_
    have hs4 := hok.1
    have hok := hok.2
    have hB : SubW g (inW (wMo g mo a o now dr pa sa iS bu tq rT wT sK sA sB sE oq bS bE bL rp)) s (wMo g mo a o now dr pa sa iS bu tq rT wT sK sA sB sE oq bS bE bL rp) _ (List.range _) _ _ := (subF hP hD hS)
    refine goI0 hB (run_s C mf_Mo_isKind qm_Mo_423 (c_Mo_isKind l g mo a o now dr pa sa iS bu tq rT wT sK sA sB sE oq bS bE bL rp p2.toInt64 hs4) rfl rfl ⟨Nat.le_of_ble_eq_true rfl, Nat.le_of_ble_eq_true rfl⟩ ⟨Nat.le_of_ble_eq_true rfl, Nat.le_of_ble_eq_true rfl⟩ hB hl rfl rfl (Nat.le_of_ble_eq_true rfl) d_Mo_setArms_11) (fun y5 ey5 H locs hP hS => ?_)
    have hz := lett_z hz ey5
    have hok := lett_o hok ey5
    refine lv_if_eq (tgt := 21) hx hb d_Mo_setArms_14 (by decide) (fun c6 => ?_) (fun c6 => ?_)
    · have hz := hz.trans (if_pos c6)
      have hok := hok.1 c6
      exact k_Mo_setArms_21 C () hok _ hz _ _ ls hP hD hS hl
    · have hz := hz.trans (if_neg c6)
      have hok := hok.2 c6
      refine lv_iconst (v := 0) hx hb d_Mo_setArms_17 (by decide) ?_
      refine lv_goto (tgt := 22) hx hb d_Mo_setArms_18 (by decide) ?_
      exact k_Mo_setArms_22 C (0 : Int32) hok _ hz _ _ ls hP hD hS hl
abbrev rm_Mo_setVolts : Room := { frames := 2, cells := 0, slots := 0, locals := 45 }
def HL_Mo_setVolts_18 (p : Program) (l : Launch) (e : Env) (s : State) (m : MethodId) (args : Array Value) (below : List Frame) (meth : Method) (c : Code) (g : GX) (mo : Nat) (a : Nat → Nat) (ws0 : va_W) (o : IV) (now : LV) (dr : LV) (pa : LV) (sa : LV) (iS : IV) (bu : IV) (tq : IV) (rT : IV) (wT : IV) (sK : IV) (sA : IV) (sB : IV) (sE : IV) (oq : IV) (bS : IV) (bE : IV) (bL : IV) (rp : IV) (p1 : Int32) (sp : Int32 → (Int32 × IV × LV × LV)) (ok : Int32 → Prop) : Prop := ∀ (t1p18 : Int32), ok t1p18 → ∀ z : (Int32 × IV × LV × LV), z = sp t1p18 → ∀ (H : Heap) (locs : List Loc) (ls : Array Slot), va_P g.1 vwCl (wMo g mo a o now dr pa sa iS bu tq rT wT sK sA sB sE oq bS bE bL rp) H → va_D (inW ws0) (wMo g mo a o now dr pa sa iS bu tq rT wT sK sA sB sE oq bS bE bL rp) → va_S (inW ws0) s.heap H locs → lv_has ls 2 [(0, .ref mo), (1, .int p1)] → W p l e rm_Mo_setVolts s m args below meth c H locs 0 0 (MQ below (CI g ws0 (fun u : IV × LV × LV => wMo g mo a u.1 u.2.1 dr u.2.2 sa iS bu tq rT wT sK sA sB sE oq bS bE bL rp) z) args s 0 0 (inW ws0)) (F0 m 18 ls [.int t1p18, .ref mo])
noncomputable def sp_Mo_setVolts_18 (o : IV) (now : LV) (pa : LV) (p1 : Int32)  (t1p18 : Int32) : Int32 × IV × LV × LV := lett (upd o 6 t1p18) fun (o_3 : IV) => if (o_3 6) ≤ 0 then (lett (sp_Mo_record o_3 now pa) fun (y6 : IV × LV) => lett (sp_Mo_change (22 : Int32) p1.toInt64 now) fun (y8 : Int32 × LV) => (y8.1, (y6.1, y8.2, y6.2))) else (((0 : Int32), (o_3, now, pa)))
def ok_Mo_setVolts_18 (o : IV) (now : LV) (pa : LV) (p1 : Int32)   (t1p18 : Int32) : Prop := lett (upd o 6 t1p18) fun (o_3 : IV) => (((o_3 6) ≤ 0 → (ok_Mo_record o_3 now pa) ∧ lett (sp_Mo_record o_3 now pa) fun (y6 : IV × LV) => (ok_Mo_change (22 : Int32) p1.toInt64) ∧ True) ∧ (¬ ((o_3 6) ≤ 0) → True))
set_option maxRecDepth 100000 in
set_option maxHeartbeats 4000000 in
theorem k_Mo_setVolts_18 {p : Program} {l : Launch} {e : Env} {s : State} {m : MethodId} {args : Array Value} {below : List Frame} {meth : Method} {c : Code} {g : GX} {mo : Nat} {a : Nat → Nat} {ws0 : va_W} {o : IV} {now : LV} {dr : LV} {pa : LV} {sa : LV} {iS : IV} {bu : IV} {tq : IV} {rT : IV} {wT : IV} {sK : IV} {sA : IV} {sB : IV} {sE : IV} {oq : IV} {bS : IV} {bE : IV} {bL : IV} {rp : IV} {p1 : Int32}  (C : Cx p s m args meth c (inW ws0) g "DecadeBridgeModel" b_Mo_setVolts (some .int) 2)  : HL_Mo_setVolts_18 p l e s m args below meth c g mo a ws0 o now dr pa sa iS bu tq rT wT sK sA sB sE oq bS bE bL rp p1 (sp_Mo_setVolts_18 o now pa p1 ) (ok_Mo_setVolts_18 o now pa p1  ) := by
  intro t1p18 hok z hz H locs ls hP hD hS hl
  obtain ⟨hx, hb, hr, hml, hown, hlk, hts, hK, hZo, hZ⟩ := id C
  unfold sp_Mo_setVolts_18 at hz
  unfold ok_Mo_setVolts_18 at hok
  refine pfI C hP hD hS 0 6 fkMo rfl (by decide) rfl qf_Mo_107 rfl rfl rfl (Nat.le_of_ble_eq_true rfl) (ff := fun o => fMo a o) (sMo_6 _ _ _) d_Mo_setVolts_18 (fun o_3 eo_3 H locs hP hD hS => ?_)
  have hP : va_P g.1 vwCl (wMo g mo a o_3 now dr pa sa iS bu tq rT wT sK sA sB sE oq bS bE bL rp) H := hP
  have hD : va_D (inW ws0) (wMo g mo a o_3 now dr pa sa iS bu tq rT wT sK sA sB sE oq bS bE bL rp) := hD
  have hz := lett_z hz eo_3
  have hok := lett_o hok eo_3
  refine lv_aload_n hx hb d_Mo_setVolts_21 rfl (lv_at hl 0 rfl) ?_
  refine gf C hP 0 6 fkMo rfl (by decide) rfl qf_Mo_107 (gMo_6 _ _) d_Mo_setVolts_22 ?_
  refine lv_if_le (tgt := 30) hx hb d_Mo_setVolts_25 (by decide) (fun c4 => ?_) (fun c4 => ?_)
  · have hz := hz.trans (if_pos c4)
    have hok := hok.1 c4
    refine lv_aload_n hx hb d_Mo_setVolts_30 rfl (lv_at hl 0 rfl) ?_
    have hs5 := hok.1
    have hok := hok.2
    have hB : SubW g (inW ws0) s (wMo g mo a o_3 now dr pa sa iS bu tq rT wT sK sA sB sE oq bS bE bL rp) _ (List.range _) _ _ := (subF hP hD hS)
    refine goVF hB (run_v C mf_Mo_record qm_Mo_484 (c_Mo_record l g mo a o_3 now dr pa sa iS bu tq rT wT sK sA sB sE oq bS bE bL rp hs5) rfl rfl ⟨Nat.le_of_ble_eq_true rfl, Nat.le_of_ble_eq_true rfl⟩ ⟨Nat.le_of_ble_eq_true rfl, Nat.le_of_ble_eq_true rfl⟩ hB rfl rfl hl rfl rfl (Nat.le_of_ble_eq_true rfl) d_Mo_setVolts_31) (fun _ => rfl) (fun y6 ey6 H locs hP hD hS => ?_)
    have hP : va_P g.1 vwCl (wMo g mo a y6.1 now dr y6.2 sa iS bu tq rT wT sK sA sB sE oq bS bE bL rp) H := hP
    have hD : va_D (inW ws0) (wMo g mo a y6.1 now dr y6.2 sa iS bu tq rT wT sK sA sB sE oq bS bE bL rp) := hD
    have hz := lett_z hz ey6
    have hok := lett_o hok ey6
    refine lv_aload_n hx hb d_Mo_setVolts_34 rfl (lv_at hl 0 rfl) ?_
    refine lv_bipush (v := 22) hx hb d_Mo_setVolts_35 (by decide) ?_
    refine lv_iload_n hx hb d_Mo_setVolts_37 rfl (lv_at hl 1 rfl) ?_
    refine lv_i2l hx hb d_Mo_setVolts_38 rfl ?_
    have hs7 := hok.1
    have hok := hok.2
    have hB : SubW g (inW ws0) s (wMo g mo a y6.1 now dr y6.2 sa iS bu tq rT wT sK sA sB sE oq bS bE bL rp) _ (List.range _) _ _ := (subF hP hD hS)
    refine goIF hB (run_v C mf_Mo_change qm_Mo_480 (c_Mo_change l g mo a y6.1 now dr y6.2 sa iS bu tq rT wT sK sA sB sE oq bS bE bL rp (22 : Int32) p1.toInt64 hs7) rfl rfl ⟨Nat.le_of_ble_eq_true rfl, Nat.le_of_ble_eq_true rfl⟩ ⟨Nat.le_of_ble_eq_true rfl, Nat.le_of_ble_eq_true rfl⟩ hB rfl rfl hl rfl rfl (Nat.le_of_ble_eq_true rfl) d_Mo_setVolts_39) (fun _ => rfl) (fun y8 ey8 H locs hP hD hS => ?_)
    have hP : va_P g.1 vwCl (wMo g mo a y6.1 y8.2 dr y6.2 sa iS bu tq rT wT sK sA sB sE oq bS bE bL rp) H := hP
    have hD : va_D (inW ws0) (wMo g mo a y6.1 y8.2 dr y6.2 sa iS bu tq rT wT sK sA sB sE oq bS bE bL rp) := hD
    have hz := lett_z hz ey8
    exact endI1 C hz hP hS d_Mo_setVolts_42
  · have hz := hz.trans (if_neg c4)
    refine lv_iconst (v := 0) hx hb d_Mo_setVolts_28 (by decide) ?_
    exact endI1 C hz hP hS d_Mo_setVolts_29
noncomputable def sp_Mo_setVolts (p1 : Int32) (o : IV) (now : LV) (pa : LV) : Int32 × IV × LV × LV := lett (sp_Mo_in p1.toInt64 (0 : Int64) (20000 : Int64)) fun (y1 : Int32) => if y1 = 0 then (sp_Mo_setVolts_18 o now pa p1 (1 : Int32)) else (sp_Mo_setVolts_18 o now pa p1 (0 : Int32))
def ok_Mo_setVolts (p1 : Int32) (o : IV) (now : LV) (pa : LV) : Prop := lett (sp_Mo_in p1.toInt64 (0 : Int64) (20000 : Int64)) fun (y1 : Int32) => ((y1 = 0 → ok_Mo_setVolts_18 o now pa p1 (1 : Int32)) ∧ (¬ (y1 = 0) → ok_Mo_setVolts_18 o now pa p1 (0 : Int32)))
set_option maxRecDepth 100000 in
set_option maxHeartbeats 4000000 in
theorem c_Mo_setVolts (l : Launch) (g : GX) (mo : Nat) (a : Nat → Nat) (o : IV) (now : LV) (dr : LV) (pa : LV) (sa : LV) (iS : IV) (bu : IV) (tq : IV) (rT : IV) (wT : IV) (sK : IV) (sA : IV) (sB : IV) (sE : IV) (oq : IV) (bS : IV) (bE : IV) (bL : IV) (rp : IV) (p1 : Int32) (hok : ok_Mo_setVolts p1 o now pa) : Met l y_Mo_setVolts (wsY y_Mo_setVolts b_Mo_setVolts 2 (some .int)) rm_Mo_setVolts (CP g [.ref mo, .int p1] (wMo g mo a o now dr pa sa iS bu tq rT wT sK sA sB sE oq bS bE bL rp)) (CI g (wMo g mo a o now dr pa sa iS bu tq rT wT sK sA sB sE oq bS bE bL rp) (fun u : IV × LV × LV => wMo g mo a u.1 u.2.1 dr u.2.2 sa iS bu tq rT wT sK sA sB sE oq bS bE bL rp) (sp_Mo_setVolts p1 o now pa)) 0 0 (inW (wMo g mo a o now dr pa sa iS bu tq rT wT sK sA sB sE oq bS bE bL rp)) := by
  refine Met.ofW (cc := b_Mo_setVolts) (maxL := 2) (ret := (some .int)) pn_Mo rfl ?_
  intro p e s m args below meth c s₁ B hml hv
  obtain ⟨rfl, C, hP, hD, hS⟩ := enter "DecadeBridgeModel" rfl B hml hv
  obtain ⟨hx, hb, hr, hml, hown, hlk, hts, hK, hZo, hZ⟩ := id C
  refine entryW (lv := [(0, .ref mo), (1, .int p1)]) rfl (Nat.le_of_ble_eq_true rfl) (fun ls hl => ?_)
  obtain ⟨z, hz⟩ : ∃ z, z = sp_Mo_setVolts p1 o now pa := ⟨_, rfl⟩
  rw [← hz]
  unfold sp_Mo_setVolts at hz
  unfold ok_Mo_setVolts at hok
  refine lv_aload_n hx hb d_Mo_setVolts_0 rfl (lv_at hl 0 rfl) ?_
  refine lv_iload_n hx hb d_Mo_setVolts_1 rfl (lv_at hl 1 rfl) ?_
  refine lv_i2l hx hb d_Mo_setVolts_2 rfl ?_
  refine lv_lconst (v := 0) hx hb d_Mo_setVolts_3 (by decide) ?_
  refine lv_ldc2 hx hb hown (hts _ qk_Mo_356) d_Mo_setVolts_4 ?_
  have hB : SubW g (inW (wMo g mo a o now dr pa sa iS bu tq rT wT sK sA sB sE oq bS bE bL rp)) s (wMo g mo a o now dr pa sa iS bu tq rT wT sK sA sB sE oq bS bE bL rp) _ (List.range _) _ _ := (subF hP hD hS)
  refine goI0 hB (run_s C mf_Mo_in qm_Mo_118 (c_Mo_in l g mo a o now dr pa sa iS bu tq rT wT sK sA sB sE oq bS bE bL rp p1.toInt64 (0 : Int64) (20000 : Int64)) rfl rfl ⟨Nat.le_of_ble_eq_true rfl, Nat.le_of_ble_eq_true rfl⟩ ⟨Nat.le_of_ble_eq_true rfl, Nat.le_of_ble_eq_true rfl⟩ hB hl rfl rfl (Nat.le_of_ble_eq_true rfl) d_Mo_setVolts_7) (fun y1 ey1 H locs hP hS => ?_)
  have hz := lett_z hz ey1
  have hok := lett_o hok ey1
  refine lv_if_eq (tgt := 17) hx hb d_Mo_setVolts_10 (by decide) (fun c2 => ?_) (fun c2 => ?_)
  · have hz := hz.trans (if_pos c2)
    have hok := hok.1 c2
    refine lv_iconst (v := 1) hx hb d_Mo_setVolts_17 (by decide) ?_
    exact k_Mo_setVolts_18 C (1 : Int32) hok _ hz _ _ ls hP hD hS hl
  · have hz := hz.trans (if_neg c2)
    have hok := hok.2 c2
    refine lv_iconst (v := 0) hx hb d_Mo_setVolts_13 (by decide) ?_
    refine lv_goto (tgt := 18) hx hb d_Mo_setVolts_14 (by decide) ?_
    exact k_Mo_setVolts_18 C (0 : Int32) hok _ hz _ _ ls hP hD hS hl
abbrev rm_Mo_setTo : Room := { frames := 4, cells := 0, slots := 0, locals := 86 }
def HL_Mo_setTo_10 (p : Program) (l : Launch) (e : Env) (s : State) (m : MethodId) (args : Array Value) (below : List Frame) (meth : Method) (c : Code) (g : GX) (mo : Nat) (a : Nat → Nat) (ws0 : va_W) (o : IV) (now : LV) (dr : LV) (pa : LV) (sa : LV) (iS : IV) (bu : IV) (tq : IV) (rT : IV) (wT : IV) (sK : IV) (sA : IV) (sB : IV) (sE : IV) (oq : IV) (bS : IV) (bE : IV) (bL : IV) (rp : IV) (p1 : Int32) (sp : Int32 → (Int32 × IV × LV × LV)) (ok : Int32 → Prop) : Prop := ∀ (t1p10 : Int32), ok t1p10 → ∀ z : (Int32 × IV × LV × LV), z = sp t1p10 → ∀ (H : Heap) (locs : List Loc) (ls : Array Slot), va_P g.1 vwCl (wMo g mo a o now dr pa sa iS bu tq rT wT sK sA sB sE oq bS bE bL rp) H → va_D (inW ws0) (wMo g mo a o now dr pa sa iS bu tq rT wT sK sA sB sE oq bS bE bL rp) → va_S (inW ws0) s.heap H locs → lv_has ls 2 [(0, .ref mo), (1, .int p1)] → W p l e rm_Mo_setTo s m args below meth c H locs 0 0 (MQ below (CI g ws0 (fun u : IV × LV × LV => wMo g mo a u.1 u.2.1 dr u.2.2 sa iS bu tq rT wT sK sA sB sE oq bS bE bL rp) z) args s 0 0 (inW ws0)) (F0 m 10 ls [.int t1p10, .ref mo])
noncomputable def sp_Mo_setTo_10 (o : IV) (p1 : Int32) (now : LV) (pa : LV)  (t1p10 : Int32) : Int32 × IV × LV × LV := lett (upd o 6 t1p10) fun (o_2 : IV) => if (o_2 6) ≤ 0 then (lett (sp_Mo_isSetting p1 now) fun (y5 : Int32) => if y5 = 0 then (((-2 : Int32), (o_2, now, pa))) else (lett (sp_Mo_record o_2 now pa) fun (y8 : IV × LV) => lett (sp_Mo_setNow p1 now) fun (y10 : Int32 × LV) => (y10.1, (y8.1, y10.2, y8.2)))) else (((0 : Int32), (o_2, now, pa)))
def ok_Mo_setTo_10 (o : IV) (p1 : Int32) (now : LV) (pa : LV)   (t1p10 : Int32) : Prop := lett (upd o 6 t1p10) fun (o_2 : IV) => (((o_2 6) ≤ 0 → (ok_Mo_isSetting p1 now) ∧ lett (sp_Mo_isSetting p1 now) fun (y5 : Int32) => ((y5 = 0 → True) ∧ (¬ (y5 = 0) → (ok_Mo_record o_2 now pa) ∧ lett (sp_Mo_record o_2 now pa) fun (y8 : IV × LV) => (ok_Mo_setNow p1 now) ∧ True))) ∧ (¬ ((o_2 6) ≤ 0) → True))
set_option maxRecDepth 100000 in
set_option maxHeartbeats 4000000 in
theorem k_Mo_setTo_10 {p : Program} {l : Launch} {e : Env} {s : State} {m : MethodId} {args : Array Value} {below : List Frame} {meth : Method} {c : Code} {g : GX} {mo : Nat} {a : Nat → Nat} {ws0 : va_W} {o : IV} {now : LV} {dr : LV} {pa : LV} {sa : LV} {iS : IV} {bu : IV} {tq : IV} {rT : IV} {wT : IV} {sK : IV} {sA : IV} {sB : IV} {sE : IV} {oq : IV} {bS : IV} {bE : IV} {bL : IV} {rp : IV} {p1 : Int32}  (C : Cx p s m args meth c (inW ws0) g "DecadeBridgeModel" b_Mo_setTo (some .int) 2)  : HL_Mo_setTo_10 p l e s m args below meth c g mo a ws0 o now dr pa sa iS bu tq rT wT sK sA sB sE oq bS bE bL rp p1 (sp_Mo_setTo_10 o p1 now pa ) (ok_Mo_setTo_10 o p1 now pa  ) := by
  intro t1p10 hok z hz H locs ls hP hD hS hl
  obtain ⟨hx, hb, hr, hml, hown, hlk, hts, hK, hZo, hZ⟩ := id C
  unfold sp_Mo_setTo_10 at hz
  unfold ok_Mo_setTo_10 at hok
  refine pfI C hP hD hS 0 6 fkMo rfl (by decide) rfl qf_Mo_107 rfl rfl rfl (Nat.le_of_ble_eq_true rfl) (ff := fun o => fMo a o) (sMo_6 _ _ _) d_Mo_setTo_10 (fun o_2 eo_2 H locs hP hD hS => ?_)
  have hP : va_P g.1 vwCl (wMo g mo a o_2 now dr pa sa iS bu tq rT wT sK sA sB sE oq bS bE bL rp) H := hP
  have hD : va_D (inW ws0) (wMo g mo a o_2 now dr pa sa iS bu tq rT wT sK sA sB sE oq bS bE bL rp) := hD
  have hz := lett_z hz eo_2
  have hok := lett_o hok eo_2
  refine lv_aload_n hx hb d_Mo_setTo_13 rfl (lv_at hl 0 rfl) ?_
  refine gf C hP 0 6 fkMo rfl (by decide) rfl qf_Mo_107 (gMo_6 _ _) d_Mo_setTo_14 ?_
  refine lv_if_le (tgt := 22) hx hb d_Mo_setTo_17 (by decide) (fun c3 => ?_) (fun c3 => ?_)
  · have hz := hz.trans (if_pos c3)
    have hok := hok.1 c3
    refine lv_aload_n hx hb d_Mo_setTo_22 rfl (lv_at hl 0 rfl) ?_
    refine lv_iload_n hx hb d_Mo_setTo_23 rfl (lv_at hl 1 rfl) ?_
    have hs4 := hok.1
    have hok := hok.2
    have hB : SubW g (inW ws0) s (wMo g mo a o_2 now dr pa sa iS bu tq rT wT sK sA sB sE oq bS bE bL rp) _ (List.range _) _ _ := (subF hP hD hS)
    refine goI0 hB (run_v C mf_Mo_isSetting qm_Mo_426 (c_Mo_isSetting l g mo a o_2 now dr pa sa iS bu tq rT wT sK sA sB sE oq bS bE bL rp p1 hs4) rfl rfl ⟨Nat.le_of_ble_eq_true rfl, Nat.le_of_ble_eq_true rfl⟩ ⟨Nat.le_of_ble_eq_true rfl, Nat.le_of_ble_eq_true rfl⟩ hB rfl rfl hl rfl rfl (Nat.le_of_ble_eq_true rfl) d_Mo_setTo_24) (fun y5 ey5 H locs hP hS => ?_)
    have hz := lett_z hz ey5
    have hok := lett_o hok ey5
    refine lv_if_ne (tgt := 33) hx hb d_Mo_setTo_27 (by decide) (fun c6 => ?_) (fun c6 => ?_)
    · have hz := hz.trans (if_neg c6)
      have hok := hok.2 c6
      refine lv_aload_n hx hb d_Mo_setTo_33 rfl (lv_at hl 0 rfl) ?_
      have hs7 := hok.1
      have hok := hok.2
      have hB : SubW g (inW ws0) s (wMo g mo a o_2 now dr pa sa iS bu tq rT wT sK sA sB sE oq bS bE bL rp) _ (List.range _) _ _ := (subF hP hD hS)
      refine goVF hB (run_v C mf_Mo_record qm_Mo_484 (c_Mo_record l g mo a o_2 now dr pa sa iS bu tq rT wT sK sA sB sE oq bS bE bL rp hs7) rfl rfl ⟨Nat.le_of_ble_eq_true rfl, Nat.le_of_ble_eq_true rfl⟩ ⟨Nat.le_of_ble_eq_true rfl, Nat.le_of_ble_eq_true rfl⟩ hB rfl rfl hl rfl rfl (Nat.le_of_ble_eq_true rfl) d_Mo_setTo_34) (fun _ => rfl) (fun y8 ey8 H locs hP hD hS => ?_)
      have hP : va_P g.1 vwCl (wMo g mo a y8.1 now dr y8.2 sa iS bu tq rT wT sK sA sB sE oq bS bE bL rp) H := hP
      have hD : va_D (inW ws0) (wMo g mo a y8.1 now dr y8.2 sa iS bu tq rT wT sK sA sB sE oq bS bE bL rp) := hD
      have hz := lett_z hz ey8
      have hok := lett_o hok ey8
      refine lv_aload_n hx hb d_Mo_setTo_37 rfl (lv_at hl 0 rfl) ?_
      refine lv_iload_n hx hb d_Mo_setTo_38 rfl (lv_at hl 1 rfl) ?_
      have hs9 := hok.1
      have hok := hok.2
      have hB : SubW g (inW ws0) s (wMo g mo a y8.1 now dr y8.2 sa iS bu tq rT wT sK sA sB sE oq bS bE bL rp) _ (List.range _) _ _ := (subF hP hD hS)
      refine goIF hB (run_v C mf_Mo_setNow qm_Mo_491 (c_Mo_setNow l g mo a y8.1 now dr y8.2 sa iS bu tq rT wT sK sA sB sE oq bS bE bL rp p1 hs9) rfl rfl ⟨Nat.le_of_ble_eq_true rfl, Nat.le_of_ble_eq_true rfl⟩ ⟨Nat.le_of_ble_eq_true rfl, Nat.le_of_ble_eq_true rfl⟩ hB rfl rfl hl rfl rfl (Nat.le_of_ble_eq_true rfl) d_Mo_setTo_39) (fun _ => rfl) (fun y10 ey10 H locs hP hD hS => ?_)
      have hP : va_P g.1 vwCl (wMo g mo a y8.1 y10.2 dr y8.2 sa iS bu tq rT wT sK sA sB sE oq bS bE bL rp) H := hP
      have hD : va_D (inW ws0) (wMo g mo a y8.1 y10.2 dr y8.2 sa iS bu tq rT wT sK sA sB sE oq bS bE bL rp) := hD
      have hz := lett_z hz ey10
      exact endI1 C hz hP hS d_Mo_setTo_42
    · have hz := hz.trans (if_pos c6)
      refine lv_bipush (v := -2) hx hb d_Mo_setTo_30 (by decide) ?_
      exact endI1 C hz hP hS d_Mo_setTo_32
  · have hz := hz.trans (if_neg c3)
    refine lv_iconst (v := 0) hx hb d_Mo_setTo_20 (by decide) ?_
    exact endI1 C hz hP hS d_Mo_setTo_21
noncomputable def sp_Mo_setTo (p1 : Int32) (o : IV) (now : LV) (pa : LV) : Int32 × IV × LV × LV := if p1 < 0 then (sp_Mo_setTo_10 o p1 now pa (1 : Int32)) else (sp_Mo_setTo_10 o p1 now pa (0 : Int32))
def ok_Mo_setTo (p1 : Int32) (o : IV) (now : LV) (pa : LV) : Prop := ((p1 < 0 → ok_Mo_setTo_10 o p1 now pa (1 : Int32)) ∧ (¬ (p1 < 0) → ok_Mo_setTo_10 o p1 now pa (0 : Int32)))
set_option maxRecDepth 100000 in
set_option maxHeartbeats 4000000 in
theorem c_Mo_setTo (l : Launch) (g : GX) (mo : Nat) (a : Nat → Nat) (o : IV) (now : LV) (dr : LV) (pa : LV) (sa : LV) (iS : IV) (bu : IV) (tq : IV) (rT : IV) (wT : IV) (sK : IV) (sA : IV) (sB : IV) (sE : IV) (oq : IV) (bS : IV) (bE : IV) (bL : IV) (rp : IV) (p1 : Int32) (hok : ok_Mo_setTo p1 o now pa) : Met l y_Mo_setTo (wsY y_Mo_setTo b_Mo_setTo 2 (some .int)) rm_Mo_setTo (CP g [.ref mo, .int p1] (wMo g mo a o now dr pa sa iS bu tq rT wT sK sA sB sE oq bS bE bL rp)) (CI g (wMo g mo a o now dr pa sa iS bu tq rT wT sK sA sB sE oq bS bE bL rp) (fun u : IV × LV × LV => wMo g mo a u.1 u.2.1 dr u.2.2 sa iS bu tq rT wT sK sA sB sE oq bS bE bL rp) (sp_Mo_setTo p1 o now pa)) 0 0 (inW (wMo g mo a o now dr pa sa iS bu tq rT wT sK sA sB sE oq bS bE bL rp)) := by
  refine Met.ofW (cc := b_Mo_setTo) (maxL := 2) (ret := (some .int)) pn_Mo rfl ?_
  intro p e s m args below meth c s₁ B hml hv
  obtain ⟨rfl, C, hP, hD, hS⟩ := enter "DecadeBridgeModel" rfl B hml hv
  obtain ⟨hx, hb, hr, hml, hown, hlk, hts, hK, hZo, hZ⟩ := id C
  refine entryW (lv := [(0, .ref mo), (1, .int p1)]) rfl (Nat.le_of_ble_eq_true rfl) (fun ls hl => ?_)
  obtain ⟨z, hz⟩ : ∃ z, z = sp_Mo_setTo p1 o now pa := ⟨_, rfl⟩
  rw [← hz]
  unfold sp_Mo_setTo at hz
  unfold ok_Mo_setTo at hok
  refine lv_aload_n hx hb d_Mo_setTo_0 rfl (lv_at hl 0 rfl) ?_
  refine lv_iload_n hx hb d_Mo_setTo_1 rfl (lv_at hl 1 rfl) ?_
  refine lv_if_lt (tgt := 9) hx hb d_Mo_setTo_2 (by decide) (fun c1 => ?_) (fun c1 => ?_)
  · have hz := hz.trans (if_pos c1)
    have hok := hok.1 c1
    refine lv_iconst (v := 1) hx hb d_Mo_setTo_9 (by decide) ?_
    exact k_Mo_setTo_10 C (1 : Int32) hok _ hz _ _ ls hP hD hS hl
  · have hz := hz.trans (if_neg c1)
    have hok := hok.2 c1
    refine lv_iconst (v := 0) hx hb d_Mo_setTo_5 (by decide) ?_
    refine lv_goto (tgt := 10) hx hb d_Mo_setTo_6 (by decide) ?_
    exact k_Mo_setTo_10 C (0 : Int32) hok _ hz _ _ ls hP hD hS hl
abbrev rm_Mo_setDigit : Room := { frames := 2, cells := 0, slots := 0, locals := 45 }
def HL_Mo_setDigit_38 (p : Program) (l : Launch) (e : Env) (s : State) (m : MethodId) (args : Array Value) (below : List Frame) (meth : Method) (c : Code) (g : GX) (mo : Nat) (a : Nat → Nat) (ws0 : va_W) (o : IV) (now : LV) (dr : LV) (pa : LV) (sa : LV) (iS : IV) (bu : IV) (tq : IV) (rT : IV) (wT : IV) (sK : IV) (sA : IV) (sB : IV) (sE : IV) (oq : IV) (bS : IV) (bE : IV) (bL : IV) (rp : IV) (p1 : Int32) (p2 : Int32) (sp : Int32 → (Int32 × IV × LV × LV)) (ok : Int32 → Prop) : Prop := ∀ (t1p38 : Int32), ok t1p38 → ∀ z : (Int32 × IV × LV × LV), z = sp t1p38 → ∀ (H : Heap) (locs : List Loc) (ls : Array Slot), va_P g.1 vwCl (wMo g mo a o now dr pa sa iS bu tq rT wT sK sA sB sE oq bS bE bL rp) H → va_D (inW ws0) (wMo g mo a o now dr pa sa iS bu tq rT wT sK sA sB sE oq bS bE bL rp) → va_S (inW ws0) s.heap H locs → lv_has ls 3 [(0, .ref mo), (1, .int p1), (2, .int p2)] → W p l e rm_Mo_setDigit s m args below meth c H locs 0 0 (MQ below (CI g ws0 (fun u : IV × LV × LV => wMo g mo a u.1 u.2.1 dr u.2.2 sa iS bu tq rT wT sK sA sB sE oq bS bE bL rp) z) args s 0 0 (inW ws0)) (F0 m 38 ls [.int t1p38, .ref mo])
noncomputable def sp_Mo_setDigit_38 (o : IV) (now : LV) (pa : LV) (p1 : Int32) (p2 : Int32)  (t1p38 : Int32) : Int32 × IV × LV × LV := lett (upd o 6 t1p38) fun (o_6 : IV) => if (o_6 6) ≤ 0 then (lett (sp_Mo_record o_6 now pa) fun (y9 : IV × LV) => lett (vp_updL now ((33 : Int32) + p1).toNatClampNeg p2.toInt64) fun (now_11 : LV) => lett (sp_Mo_setting now_11) fun (y13 : Int32) => (y13, (y9.1, now_11, y9.2))) else (((0 : Int32), (o_6, now, pa)))
def ok_Mo_setDigit_38 (o : IV) (now : LV) (pa : LV) (p1 : Int32) (p2 : Int32)   (t1p38 : Int32) : Prop := lett (upd o 6 t1p38) fun (o_6 : IV) => (((o_6 6) ≤ 0 → (ok_Mo_record o_6 now pa) ∧ lett (sp_Mo_record o_6 now pa) fun (y9 : IV × LV) => (vp_in ((33 : Int32) + p1) 215) ∧ lett (vp_updL now ((33 : Int32) + p1).toNatClampNeg p2.toInt64) fun (now_11 : LV) => (ok_Mo_setting now_11) ∧ True) ∧ (¬ ((o_6 6) ≤ 0) → True))
set_option maxRecDepth 100000 in
set_option maxHeartbeats 4000000 in
theorem k_Mo_setDigit_38 {p : Program} {l : Launch} {e : Env} {s : State} {m : MethodId} {args : Array Value} {below : List Frame} {meth : Method} {c : Code} {g : GX} {mo : Nat} {a : Nat → Nat} {ws0 : va_W} {o : IV} {now : LV} {dr : LV} {pa : LV} {sa : LV} {iS : IV} {bu : IV} {tq : IV} {rT : IV} {wT : IV} {sK : IV} {sA : IV} {sB : IV} {sE : IV} {oq : IV} {bS : IV} {bE : IV} {bL : IV} {rp : IV} {p1 : Int32} {p2 : Int32}  (C : Cx p s m args meth c (inW ws0) g "DecadeBridgeModel" b_Mo_setDigit (some .int) 3)  : HL_Mo_setDigit_38 p l e s m args below meth c g mo a ws0 o now dr pa sa iS bu tq rT wT sK sA sB sE oq bS bE bL rp p1 p2 (sp_Mo_setDigit_38 o now pa p1 p2 ) (ok_Mo_setDigit_38 o now pa p1 p2  ) := by
  intro t1p38 hok z hz H locs ls hP hD hS hl
  obtain ⟨hx, hb, hr, hml, hown, hlk, hts, hK, hZo, hZ⟩ := id C
  unfold sp_Mo_setDigit_38 at hz
  unfold ok_Mo_setDigit_38 at hok
  refine pfI C hP hD hS 0 6 fkMo rfl (by decide) rfl qf_Mo_107 rfl rfl rfl (Nat.le_of_ble_eq_true rfl) (ff := fun o => fMo a o) (sMo_6 _ _ _) d_Mo_setDigit_38 (fun o_6 eo_6 H locs hP hD hS => ?_)
  have hP : va_P g.1 vwCl (wMo g mo a o_6 now dr pa sa iS bu tq rT wT sK sA sB sE oq bS bE bL rp) H := hP
  have hD : va_D (inW ws0) (wMo g mo a o_6 now dr pa sa iS bu tq rT wT sK sA sB sE oq bS bE bL rp) := hD
  have hz := lett_z hz eo_6
  have hok := lett_o hok eo_6
  refine lv_aload_n hx hb d_Mo_setDigit_41 rfl (lv_at hl 0 rfl) ?_
  refine gf C hP 0 6 fkMo rfl (by decide) rfl qf_Mo_107 (gMo_6 _ _) d_Mo_setDigit_42 ?_
  refine lv_if_le (tgt := 50) hx hb d_Mo_setDigit_45 (by decide) (fun c7 => ?_) (fun c7 => ?_)
  · have hz := hz.trans (if_pos c7)
    have hok := hok.1 c7
    refine lv_aload_n hx hb d_Mo_setDigit_50 rfl (lv_at hl 0 rfl) ?_
    have hs8 := hok.1
    have hok := hok.2
    have hB : SubW g (inW ws0) s (wMo g mo a o_6 now dr pa sa iS bu tq rT wT sK sA sB sE oq bS bE bL rp) _ (List.range _) _ _ := (subF hP hD hS)
    refine goVF hB (run_v C mf_Mo_record qm_Mo_484 (c_Mo_record l g mo a o_6 now dr pa sa iS bu tq rT wT sK sA sB sE oq bS bE bL rp hs8) rfl rfl ⟨Nat.le_of_ble_eq_true rfl, Nat.le_of_ble_eq_true rfl⟩ ⟨Nat.le_of_ble_eq_true rfl, Nat.le_of_ble_eq_true rfl⟩ hB rfl rfl hl rfl rfl (Nat.le_of_ble_eq_true rfl) d_Mo_setDigit_51) (fun _ => rfl) (fun y9 ey9 H locs hP hD hS => ?_)
    have hP : va_P g.1 vwCl (wMo g mo a y9.1 now dr y9.2 sa iS bu tq rT wT sK sA sB sE oq bS bE bL rp) H := hP
    have hD : va_D (inW ws0) (wMo g mo a y9.1 now dr y9.2 sa iS bu tq rT wT sK sA sB sE oq bS bE bL rp) := hD
    have hz := lett_z hz ey9
    have hok := lett_o hok ey9
    refine lv_aload_n hx hb d_Mo_setDigit_54 rfl (lv_at hl 0 rfl) ?_
    refine gf C hP 0 0 fkMo rfl (by decide) rfl qf_Mo_7 (gMo_0 _ _) d_Mo_setDigit_55 ?_
    refine lv_bipush (v := 33) hx hb d_Mo_setDigit_58 (by decide) ?_
    refine lv_iload_n hx hb d_Mo_setDigit_60 rfl (lv_at hl 1 rfl) ?_
    refine lv_iadd hx hb d_Mo_setDigit_61 ?_
    refine lv_iload_n hx hb d_Mo_setDigit_62 rfl (lv_at hl 2 rfl) ?_
    refine lv_i2l hx hb d_Mo_setDigit_63 rfl ?_
    have hs10 := hok.1
    have hok := hok.2
    refine stL C hP hD hS 1 rfl hs10 rfl d_Mo_setDigit_64 (fun now_11 enow_11 H locs hP hD hS => ?_)
    have hP : va_P g.1 vwCl (wMo g mo a y9.1 now_11 dr y9.2 sa iS bu tq rT wT sK sA sB sE oq bS bE bL rp) H := hP
    have hD : va_D (inW ws0) (wMo g mo a y9.1 now_11 dr y9.2 sa iS bu tq rT wT sK sA sB sE oq bS bE bL rp) := hD
    have hz := lett_z hz enow_11
    have hok := lett_o hok enow_11
    refine lv_aload_n hx hb d_Mo_setDigit_65 rfl (lv_at hl 0 rfl) ?_
    have hs12 := hok.1
    have hok := hok.2
    have hB : SubW g (inW ws0) s (wMo g mo a y9.1 now_11 dr y9.2 sa iS bu tq rT wT sK sA sB sE oq bS bE bL rp) _ (List.range _) _ _ := (subF hP hD hS)
    refine goI0 hB (run_v C mf_Mo_setting qm_Mo_176 (c_Mo_setting l g mo a y9.1 now_11 dr y9.2 sa iS bu tq rT wT sK sA sB sE oq bS bE bL rp hs12) rfl rfl ⟨Nat.le_of_ble_eq_true rfl, Nat.le_of_ble_eq_true rfl⟩ ⟨Nat.le_of_ble_eq_true rfl, Nat.le_of_ble_eq_true rfl⟩ hB rfl rfl hl rfl rfl (Nat.le_of_ble_eq_true rfl) d_Mo_setDigit_66) (fun y13 ey13 H locs hP hS => ?_)
    have hz := lett_z hz ey13
    exact endI1 C hz hP hS d_Mo_setDigit_69
  · have hz := hz.trans (if_neg c7)
    refine lv_iconst (v := 0) hx hb d_Mo_setDigit_48 (by decide) ?_
    exact endI1 C hz hP hS d_Mo_setDigit_49
noncomputable def sp_Mo_setDigit (p1 : Int32) (p2 : Int32) (o : IV) (now : LV) (pa : LV) : Int32 × IV × LV × LV := lett (sp_Mo_decades now) fun (y1 : Int32) => lett (sp_Mo_in p1.toInt64 (0 : Int64) (y1.toInt64 - (1 : Int64))) fun (y2 : Int32) => if y2 = 0 then (sp_Mo_setDigit_38 o now pa p1 p2 (1 : Int32)) else (lett (sp_Mo_in p2.toInt64 (0 : Int64) (9 : Int64)) fun (y4 : Int32) => if y4 = 0 then (sp_Mo_setDigit_38 o now pa p1 p2 (2 : Int32)) else (sp_Mo_setDigit_38 o now pa p1 p2 (0 : Int32)))
def ok_Mo_setDigit (p1 : Int32) (p2 : Int32) (o : IV) (now : LV) (pa : LV) : Prop := lett (sp_Mo_decades now) fun (y1 : Int32) => lett (sp_Mo_in p1.toInt64 (0 : Int64) (y1.toInt64 - (1 : Int64))) fun (y2 : Int32) => ((y2 = 0 → ok_Mo_setDigit_38 o now pa p1 p2 (1 : Int32)) ∧ (¬ (y2 = 0) → lett (sp_Mo_in p2.toInt64 (0 : Int64) (9 : Int64)) fun (y4 : Int32) => ((y4 = 0 → ok_Mo_setDigit_38 o now pa p1 p2 (2 : Int32)) ∧ (¬ (y4 = 0) → ok_Mo_setDigit_38 o now pa p1 p2 (0 : Int32)))))
set_option maxRecDepth 100000 in
set_option maxHeartbeats 4000000 in
theorem c_Mo_setDigit (l : Launch) (g : GX) (mo : Nat) (a : Nat → Nat) (o : IV) (now : LV) (dr : LV) (pa : LV) (sa : LV) (iS : IV) (bu : IV) (tq : IV) (rT : IV) (wT : IV) (sK : IV) (sA : IV) (sB : IV) (sE : IV) (oq : IV) (bS : IV) (bE : IV) (bL : IV) (rp : IV) (p1 : Int32) (p2 : Int32) (hok : ok_Mo_setDigit p1 p2 o now pa) : Met l y_Mo_setDigit (wsY y_Mo_setDigit b_Mo_setDigit 3 (some .int)) rm_Mo_setDigit (CP g [.ref mo, .int p1, .int p2] (wMo g mo a o now dr pa sa iS bu tq rT wT sK sA sB sE oq bS bE bL rp)) (CI g (wMo g mo a o now dr pa sa iS bu tq rT wT sK sA sB sE oq bS bE bL rp) (fun u : IV × LV × LV => wMo g mo a u.1 u.2.1 dr u.2.2 sa iS bu tq rT wT sK sA sB sE oq bS bE bL rp) (sp_Mo_setDigit p1 p2 o now pa)) 0 0 (inW (wMo g mo a o now dr pa sa iS bu tq rT wT sK sA sB sE oq bS bE bL rp)) := by
  refine Met.ofW (cc := b_Mo_setDigit) (maxL := 3) (ret := (some .int)) pn_Mo rfl ?_
  intro p e s m args below meth c s₁ B hml hv
  obtain ⟨rfl, C, hP, hD, hS⟩ := enter "DecadeBridgeModel" rfl B hml hv
  obtain ⟨hx, hb, hr, hml, hown, hlk, hts, hK, hZo, hZ⟩ := id C
  refine entryW (lv := [(0, .ref mo), (1, .int p1), (2, .int p2)]) rfl (Nat.le_of_ble_eq_true rfl) (fun ls hl => ?_)
  obtain ⟨z, hz⟩ : ∃ z, z = sp_Mo_setDigit p1 p2 o now pa := ⟨_, rfl⟩
  rw [← hz]
  unfold sp_Mo_setDigit at hz
  unfold ok_Mo_setDigit at hok
  refine lv_aload_n hx hb d_Mo_setDigit_0 rfl (lv_at hl 0 rfl) ?_
  refine lv_iload_n hx hb d_Mo_setDigit_1 rfl (lv_at hl 1 rfl) ?_
  refine lv_i2l hx hb d_Mo_setDigit_2 rfl ?_
  refine lv_lconst (v := 0) hx hb d_Mo_setDigit_3 (by decide) ?_
  refine lv_aload_n hx hb d_Mo_setDigit_4 rfl (lv_at hl 0 rfl) ?_
  have hB : SubW g (inW (wMo g mo a o now dr pa sa iS bu tq rT wT sK sA sB sE oq bS bE bL rp)) s (wMo g mo a o now dr pa sa iS bu tq rT wT sK sA sB sE oq bS bE bL rp) _ (List.range _) _ _ := (subF hP hD hS)
  refine goI0 hB (run_v C mf_Mo_decades qm_Mo_130 (c_Mo_decades l g mo a o now dr pa sa iS bu tq rT wT sK sA sB sE oq bS bE bL rp) rfl rfl ⟨Nat.le_of_ble_eq_true rfl, Nat.le_of_ble_eq_true rfl⟩ ⟨Nat.le_of_ble_eq_true rfl, Nat.le_of_ble_eq_true rfl⟩ hB rfl rfl hl rfl rfl (Nat.le_of_ble_eq_true rfl) d_Mo_setDigit_5) (fun y1 ey1 H locs hP hS => ?_)
  have hz := lett_z hz ey1
  have hok := lett_o hok ey1
  refine lv_i2l hx hb d_Mo_setDigit_8 rfl ?_
  refine lv_lconst (v := 1) hx hb d_Mo_setDigit_9 (by decide) ?_
  refine lv_lsub hx hb d_Mo_setDigit_10 ?_
  have hB : SubW g (inW (wMo g mo a o now dr pa sa iS bu tq rT wT sK sA sB sE oq bS bE bL rp)) s (wMo g mo a o now dr pa sa iS bu tq rT wT sK sA sB sE oq bS bE bL rp) _ (List.range _) _ _ := (subF hP hD hS)
  refine goI0 hB (run_s C mf_Mo_in qm_Mo_118 (c_Mo_in l g mo a o now dr pa sa iS bu tq rT wT sK sA sB sE oq bS bE bL rp p1.toInt64 (0 : Int64) (y1.toInt64 - (1 : Int64))) rfl rfl ⟨Nat.le_of_ble_eq_true rfl, Nat.le_of_ble_eq_true rfl⟩ ⟨Nat.le_of_ble_eq_true rfl, Nat.le_of_ble_eq_true rfl⟩ hB hl rfl rfl (Nat.le_of_ble_eq_true rfl) d_Mo_setDigit_11) (fun y2 ey2 H locs hP hS => ?_)
  have hz := lett_z hz ey2
  have hok := lett_o hok ey2
  refine lv_if_ne (tgt := 21) hx hb d_Mo_setDigit_14 (by decide) (fun c3 => ?_) (fun c3 => ?_)
  · have hz := hz.trans (if_neg c3)
    have hok := hok.2 c3
    refine lv_iload_n hx hb d_Mo_setDigit_21 rfl (lv_at hl 2 rfl) ?_
    refine lv_i2l hx hb d_Mo_setDigit_22 rfl ?_
    refine lv_lconst (v := 0) hx hb d_Mo_setDigit_23 (by decide) ?_
    refine lv_ldc2 hx hb hown (hts _ qk_Mo_238) d_Mo_setDigit_24 ?_
    have hB : SubW g (inW (wMo g mo a o now dr pa sa iS bu tq rT wT sK sA sB sE oq bS bE bL rp)) s (wMo g mo a o now dr pa sa iS bu tq rT wT sK sA sB sE oq bS bE bL rp) _ (List.range _) _ _ := (subF hP hD hS)
    refine goI0 hB (run_s C mf_Mo_in qm_Mo_118 (c_Mo_in l g mo a o now dr pa sa iS bu tq rT wT sK sA sB sE oq bS bE bL rp p2.toInt64 (0 : Int64) (9 : Int64)) rfl rfl ⟨Nat.le_of_ble_eq_true rfl, Nat.le_of_ble_eq_true rfl⟩ ⟨Nat.le_of_ble_eq_true rfl, Nat.le_of_ble_eq_true rfl⟩ hB hl rfl rfl (Nat.le_of_ble_eq_true rfl) d_Mo_setDigit_27) (fun y4 ey4 H locs hP hS => ?_)
    have hz := lett_z hz ey4
    have hok := lett_o hok ey4
    refine lv_if_eq (tgt := 37) hx hb d_Mo_setDigit_30 (by decide) (fun c5 => ?_) (fun c5 => ?_)
    · have hz := hz.trans (if_pos c5)
      have hok := hok.1 c5
      refine lv_iconst (v := 2) hx hb d_Mo_setDigit_37 (by decide) ?_
      exact k_Mo_setDigit_38 C (2 : Int32) hok _ hz _ _ ls hP hD hS hl
    · have hz := hz.trans (if_neg c5)
      have hok := hok.2 c5
      refine lv_iconst (v := 0) hx hb d_Mo_setDigit_33 (by decide) ?_
      refine lv_goto (tgt := 38) hx hb d_Mo_setDigit_34 (by decide) ?_
      exact k_Mo_setDigit_38 C (0 : Int32) hok _ hz _ _ ls hP hD hS hl
  · have hz := hz.trans (if_pos c3)
    have hok := hok.1 c3
    refine lv_iconst (v := 1) hx hb d_Mo_setDigit_17 (by decide) ?_
    refine lv_goto (tgt := 38) hx hb d_Mo_setDigit_18 (by decide) ?_
    exact k_Mo_setDigit_38 C (1 : Int32) hok _ hz _ _ ls hP hD hS hl
abbrev rm_Mo_turn : Room := { frames := 2, cells := 0, slots := 0, locals := 45 }
noncomputable def sp_Mo_turn (o : IV) (now : LV) (pa : LV) : Int32 × IV × LV × LV := lett (upd o 6 (0 : Int32)) fun (o_1 : IV) => lett (sp_Mo_record o_1 now pa) fun (y3 : IV × LV) => lett (sp_Mo_turnNow now) fun (y4 : Int32 × LV) => (y4.1, (y3.1, y4.2, y3.2))
def ok_Mo_turn (o : IV) (now : LV) (pa : LV) : Prop := lett (upd o 6 (0 : Int32)) fun (o_1 : IV) => (ok_Mo_record o_1 now pa) ∧ True
set_option maxRecDepth 100000 in
set_option maxHeartbeats 4000000 in
theorem c_Mo_turn (l : Launch) (g : GX) (mo : Nat) (a : Nat → Nat) (o : IV) (now : LV) (dr : LV) (pa : LV) (sa : LV) (iS : IV) (bu : IV) (tq : IV) (rT : IV) (wT : IV) (sK : IV) (sA : IV) (sB : IV) (sE : IV) (oq : IV) (bS : IV) (bE : IV) (bL : IV) (rp : IV)  (hok : ok_Mo_turn o now pa) : Met l y_Mo_turn (wsY y_Mo_turn b_Mo_turn 1 (some .int)) rm_Mo_turn (CP g [.ref mo] (wMo g mo a o now dr pa sa iS bu tq rT wT sK sA sB sE oq bS bE bL rp)) (CI g (wMo g mo a o now dr pa sa iS bu tq rT wT sK sA sB sE oq bS bE bL rp) (fun u : IV × LV × LV => wMo g mo a u.1 u.2.1 dr u.2.2 sa iS bu tq rT wT sK sA sB sE oq bS bE bL rp) (sp_Mo_turn o now pa)) 0 0 (inW (wMo g mo a o now dr pa sa iS bu tq rT wT sK sA sB sE oq bS bE bL rp)) := by
  refine Met.ofW (cc := b_Mo_turn) (maxL := 1) (ret := (some .int)) pn_Mo rfl ?_
  intro p e s m args below meth c s₁ B hml hv
  obtain ⟨rfl, C, hP, hD, hS⟩ := enter "DecadeBridgeModel" rfl B hml hv
  obtain ⟨hx, hb, hr, hml, hown, hlk, hts, hK, hZo, hZ⟩ := id C
  refine entryW (lv := [(0, .ref mo)]) rfl (Nat.le_of_ble_eq_true rfl) (fun ls hl => ?_)
  obtain ⟨z, hz⟩ : ∃ z, z = sp_Mo_turn o now pa := ⟨_, rfl⟩
  rw [← hz]
  unfold sp_Mo_turn at hz
  unfold ok_Mo_turn at hok
  refine lv_aload_n hx hb d_Mo_turn_0 rfl (lv_at hl 0 rfl) ?_
  refine lv_iconst (v := 0) hx hb d_Mo_turn_1 (by decide) ?_
  refine pfI C hP hD hS 0 6 fkMo rfl (by decide) rfl qf_Mo_107 rfl rfl rfl (Nat.le_of_ble_eq_true rfl) (ff := fun o => fMo a o) (sMo_6 _ _ _) d_Mo_turn_2 (fun o_1 eo_1 H locs hP hD hS => ?_)
  have hP : va_P g.1 vwCl (wMo g mo a o_1 now dr pa sa iS bu tq rT wT sK sA sB sE oq bS bE bL rp) H := hP
  have hD : va_D (inW (wMo g mo a o now dr pa sa iS bu tq rT wT sK sA sB sE oq bS bE bL rp)) (wMo g mo a o_1 now dr pa sa iS bu tq rT wT sK sA sB sE oq bS bE bL rp) := hD
  have hz := lett_z hz eo_1
  have hok := lett_o hok eo_1
  refine lv_aload_n hx hb d_Mo_turn_5 rfl (lv_at hl 0 rfl) ?_
  have hs2 := hok.1
  have hok := hok.2
  have hB : SubW g (inW (wMo g mo a o now dr pa sa iS bu tq rT wT sK sA sB sE oq bS bE bL rp)) s (wMo g mo a o_1 now dr pa sa iS bu tq rT wT sK sA sB sE oq bS bE bL rp) _ (List.range _) _ _ := (subF hP hD hS)
  refine goVF hB (run_v C mf_Mo_record qm_Mo_484 (c_Mo_record l g mo a o_1 now dr pa sa iS bu tq rT wT sK sA sB sE oq bS bE bL rp hs2) rfl rfl ⟨Nat.le_of_ble_eq_true rfl, Nat.le_of_ble_eq_true rfl⟩ ⟨Nat.le_of_ble_eq_true rfl, Nat.le_of_ble_eq_true rfl⟩ hB rfl rfl hl rfl rfl (Nat.le_of_ble_eq_true rfl) d_Mo_turn_6) (fun _ => rfl) (fun y3 ey3 H locs hP hD hS => ?_)
  have hP : va_P g.1 vwCl (wMo g mo a y3.1 now dr y3.2 sa iS bu tq rT wT sK sA sB sE oq bS bE bL rp) H := hP
  have hD : va_D (inW (wMo g mo a o now dr pa sa iS bu tq rT wT sK sA sB sE oq bS bE bL rp)) (wMo g mo a y3.1 now dr y3.2 sa iS bu tq rT wT sK sA sB sE oq bS bE bL rp) := hD
  have hz := lett_z hz ey3
  refine lv_aload_n hx hb d_Mo_turn_9 rfl (lv_at hl 0 rfl) ?_
  have hB : SubW g (inW (wMo g mo a o now dr pa sa iS bu tq rT wT sK sA sB sE oq bS bE bL rp)) s (wMo g mo a y3.1 now dr y3.2 sa iS bu tq rT wT sK sA sB sE oq bS bE bL rp) _ (List.range _) _ _ := (subF hP hD hS)
  refine goIF hB (run_v C mf_Mo_turnNow qm_Mo_494 (c_Mo_turnNow l g mo a y3.1 now dr y3.2 sa iS bu tq rT wT sK sA sB sE oq bS bE bL rp) rfl rfl ⟨Nat.le_of_ble_eq_true rfl, Nat.le_of_ble_eq_true rfl⟩ ⟨Nat.le_of_ble_eq_true rfl, Nat.le_of_ble_eq_true rfl⟩ hB rfl rfl hl rfl rfl (Nat.le_of_ble_eq_true rfl) d_Mo_turn_10) (fun _ => rfl) (fun y4 ey4 H locs hP hD hS => ?_)
  have hP : va_P g.1 vwCl (wMo g mo a y3.1 y4.2 dr y3.2 sa iS bu tq rT wT sK sA sB sE oq bS bE bL rp) H := hP
  have hD : va_D (inW (wMo g mo a o now dr pa sa iS bu tq rT wT sK sA sB sE oq bS bE bL rp)) (wMo g mo a y3.1 y4.2 dr y3.2 sa iS bu tq rT wT sK sA sB sE oq bS bE bL rp) := hD
  have hz := lett_z hz ey4
  exact endI1 C hz hP hS d_Mo_turn_13
abbrev rm_Mo_connect : Room := { frames := 2, cells := 0, slots := 0, locals := 45 }
def HL_Mo_connect_20 (p : Program) (l : Launch) (e : Env) (s : State) (m : MethodId) (args : Array Value) (below : List Frame) (meth : Method) (c : Code) (g : GX) (mo : Nat) (a : Nat → Nat) (ws0 : va_W) (o : IV) (now : LV) (dr : LV) (pa : LV) (sa : LV) (iS : IV) (bu : IV) (tq : IV) (rT : IV) (wT : IV) (sK : IV) (sA : IV) (sB : IV) (sE : IV) (oq : IV) (bS : IV) (bE : IV) (bL : IV) (rp : IV) (p1 : Int32) (sp : Int32 → (Int32 × IV × LV × LV)) (ok : Int32 → Prop) : Prop := ∀ (t1p20 : Int32), ok t1p20 → ∀ z : (Int32 × IV × LV × LV), z = sp t1p20 → ∀ (H : Heap) (locs : List Loc) (ls : Array Slot), va_P g.1 vwCl (wMo g mo a o now dr pa sa iS bu tq rT wT sK sA sB sE oq bS bE bL rp) H → va_D (inW ws0) (wMo g mo a o now dr pa sa iS bu tq rT wT sK sA sB sE oq bS bE bL rp) → va_S (inW ws0) s.heap H locs → lv_has ls 2 [(0, .ref mo), (1, .int p1)] → W p l e rm_Mo_connect s m args below meth c H locs 0 0 (MQ below (CI g ws0 (fun u : IV × LV × LV => wMo g mo a u.1 u.2.1 dr u.2.2 sa iS bu tq rT wT sK sA sB sE oq bS bE bL rp) z) args s 0 0 (inW ws0)) (F0 m 20 ls [.int t1p20, .ref mo])
noncomputable def sp_Mo_connect_20 (o : IV) (now : LV) (pa : LV) (p1 : Int32)  (t1p20 : Int32) : Int32 × IV × LV × LV := lett (upd o 6 t1p20) fun (o_3 : IV) => if (o_3 6) ≤ 0 then (lett (sp_Mo_record o_3 now pa) fun (y6 : IV × LV) => lett (sp_Mo_change (32 : Int32) p1.toInt64 now) fun (y8 : Int32 × LV) => (y8.1, (y6.1, y8.2, y6.2))) else (((0 : Int32), (o_3, now, pa)))
def ok_Mo_connect_20 (o : IV) (now : LV) (pa : LV) (p1 : Int32)   (t1p20 : Int32) : Prop := lett (upd o 6 t1p20) fun (o_3 : IV) => (((o_3 6) ≤ 0 → (ok_Mo_record o_3 now pa) ∧ lett (sp_Mo_record o_3 now pa) fun (y6 : IV × LV) => (ok_Mo_change (32 : Int32) p1.toInt64) ∧ True) ∧ (¬ ((o_3 6) ≤ 0) → True))
set_option maxRecDepth 100000 in
set_option maxHeartbeats 4000000 in
theorem k_Mo_connect_20 {p : Program} {l : Launch} {e : Env} {s : State} {m : MethodId} {args : Array Value} {below : List Frame} {meth : Method} {c : Code} {g : GX} {mo : Nat} {a : Nat → Nat} {ws0 : va_W} {o : IV} {now : LV} {dr : LV} {pa : LV} {sa : LV} {iS : IV} {bu : IV} {tq : IV} {rT : IV} {wT : IV} {sK : IV} {sA : IV} {sB : IV} {sE : IV} {oq : IV} {bS : IV} {bE : IV} {bL : IV} {rp : IV} {p1 : Int32}  (C : Cx p s m args meth c (inW ws0) g "DecadeBridgeModel" b_Mo_connect (some .int) 2)  : HL_Mo_connect_20 p l e s m args below meth c g mo a ws0 o now dr pa sa iS bu tq rT wT sK sA sB sE oq bS bE bL rp p1 (sp_Mo_connect_20 o now pa p1 ) (ok_Mo_connect_20 o now pa p1  ) := by
  intro t1p20 hok z hz H locs ls hP hD hS hl
  obtain ⟨hx, hb, hr, hml, hown, hlk, hts, hK, hZo, hZ⟩ := id C
  unfold sp_Mo_connect_20 at hz
  unfold ok_Mo_connect_20 at hok
  refine pfI C hP hD hS 0 6 fkMo rfl (by decide) rfl qf_Mo_107 rfl rfl rfl (Nat.le_of_ble_eq_true rfl) (ff := fun o => fMo a o) (sMo_6 _ _ _) d_Mo_connect_20 (fun o_3 eo_3 H locs hP hD hS => ?_)
  have hP : va_P g.1 vwCl (wMo g mo a o_3 now dr pa sa iS bu tq rT wT sK sA sB sE oq bS bE bL rp) H := hP
  have hD : va_D (inW ws0) (wMo g mo a o_3 now dr pa sa iS bu tq rT wT sK sA sB sE oq bS bE bL rp) := hD
  have hz := lett_z hz eo_3
  have hok := lett_o hok eo_3
  refine lv_aload_n hx hb d_Mo_connect_23 rfl (lv_at hl 0 rfl) ?_
  refine gf C hP 0 6 fkMo rfl (by decide) rfl qf_Mo_107 (gMo_6 _ _) d_Mo_connect_24 ?_
  refine lv_if_le (tgt := 32) hx hb d_Mo_connect_27 (by decide) (fun c4 => ?_) (fun c4 => ?_)
  · have hz := hz.trans (if_pos c4)
    have hok := hok.1 c4
    refine lv_aload_n hx hb d_Mo_connect_32 rfl (lv_at hl 0 rfl) ?_
    have hs5 := hok.1
    have hok := hok.2
    have hB : SubW g (inW ws0) s (wMo g mo a o_3 now dr pa sa iS bu tq rT wT sK sA sB sE oq bS bE bL rp) _ (List.range _) _ _ := (subF hP hD hS)
    refine goVF hB (run_v C mf_Mo_record qm_Mo_484 (c_Mo_record l g mo a o_3 now dr pa sa iS bu tq rT wT sK sA sB sE oq bS bE bL rp hs5) rfl rfl ⟨Nat.le_of_ble_eq_true rfl, Nat.le_of_ble_eq_true rfl⟩ ⟨Nat.le_of_ble_eq_true rfl, Nat.le_of_ble_eq_true rfl⟩ hB rfl rfl hl rfl rfl (Nat.le_of_ble_eq_true rfl) d_Mo_connect_33) (fun _ => rfl) (fun y6 ey6 H locs hP hD hS => ?_)
    have hP : va_P g.1 vwCl (wMo g mo a y6.1 now dr y6.2 sa iS bu tq rT wT sK sA sB sE oq bS bE bL rp) H := hP
    have hD : va_D (inW ws0) (wMo g mo a y6.1 now dr y6.2 sa iS bu tq rT wT sK sA sB sE oq bS bE bL rp) := hD
    have hz := lett_z hz ey6
    have hok := lett_o hok ey6
    refine lv_aload_n hx hb d_Mo_connect_36 rfl (lv_at hl 0 rfl) ?_
    refine lv_bipush (v := 32) hx hb d_Mo_connect_37 (by decide) ?_
    refine lv_iload_n hx hb d_Mo_connect_39 rfl (lv_at hl 1 rfl) ?_
    refine lv_i2l hx hb d_Mo_connect_40 rfl ?_
    have hs7 := hok.1
    have hok := hok.2
    have hB : SubW g (inW ws0) s (wMo g mo a y6.1 now dr y6.2 sa iS bu tq rT wT sK sA sB sE oq bS bE bL rp) _ (List.range _) _ _ := (subF hP hD hS)
    refine goIF hB (run_v C mf_Mo_change qm_Mo_480 (c_Mo_change l g mo a y6.1 now dr y6.2 sa iS bu tq rT wT sK sA sB sE oq bS bE bL rp (32 : Int32) p1.toInt64 hs7) rfl rfl ⟨Nat.le_of_ble_eq_true rfl, Nat.le_of_ble_eq_true rfl⟩ ⟨Nat.le_of_ble_eq_true rfl, Nat.le_of_ble_eq_true rfl⟩ hB rfl rfl hl rfl rfl (Nat.le_of_ble_eq_true rfl) d_Mo_connect_41) (fun _ => rfl) (fun y8 ey8 H locs hP hD hS => ?_)
    have hP : va_P g.1 vwCl (wMo g mo a y6.1 y8.2 dr y6.2 sa iS bu tq rT wT sK sA sB sE oq bS bE bL rp) H := hP
    have hD : va_D (inW ws0) (wMo g mo a y6.1 y8.2 dr y6.2 sa iS bu tq rT wT sK sA sB sE oq bS bE bL rp) := hD
    have hz := lett_z hz ey8
    exact endI1 C hz hP hS d_Mo_connect_44
  · have hz := hz.trans (if_neg c4)
    refine lv_iconst (v := 0) hx hb d_Mo_connect_30 (by decide) ?_
    exact endI1 C hz hP hS d_Mo_connect_31
noncomputable def sp_Mo_connect (p1 : Int32) (o : IV) (now : LV) (pa : LV) : Int32 × IV × LV × LV := lett (sp_Mo_in p1.toInt64 (2 : Int64) (3 : Int64)) fun (y1 : Int32) => if y1 = 0 then (sp_Mo_connect_20 o now pa p1 (1 : Int32)) else (sp_Mo_connect_20 o now pa p1 (0 : Int32))
def ok_Mo_connect (p1 : Int32) (o : IV) (now : LV) (pa : LV) : Prop := lett (sp_Mo_in p1.toInt64 (2 : Int64) (3 : Int64)) fun (y1 : Int32) => ((y1 = 0 → ok_Mo_connect_20 o now pa p1 (1 : Int32)) ∧ (¬ (y1 = 0) → ok_Mo_connect_20 o now pa p1 (0 : Int32)))
set_option maxRecDepth 100000 in
set_option maxHeartbeats 4000000 in
theorem c_Mo_connect (l : Launch) (g : GX) (mo : Nat) (a : Nat → Nat) (o : IV) (now : LV) (dr : LV) (pa : LV) (sa : LV) (iS : IV) (bu : IV) (tq : IV) (rT : IV) (wT : IV) (sK : IV) (sA : IV) (sB : IV) (sE : IV) (oq : IV) (bS : IV) (bE : IV) (bL : IV) (rp : IV) (p1 : Int32) (hok : ok_Mo_connect p1 o now pa) : Met l y_Mo_connect (wsY y_Mo_connect b_Mo_connect 2 (some .int)) rm_Mo_connect (CP g [.ref mo, .int p1] (wMo g mo a o now dr pa sa iS bu tq rT wT sK sA sB sE oq bS bE bL rp)) (CI g (wMo g mo a o now dr pa sa iS bu tq rT wT sK sA sB sE oq bS bE bL rp) (fun u : IV × LV × LV => wMo g mo a u.1 u.2.1 dr u.2.2 sa iS bu tq rT wT sK sA sB sE oq bS bE bL rp) (sp_Mo_connect p1 o now pa)) 0 0 (inW (wMo g mo a o now dr pa sa iS bu tq rT wT sK sA sB sE oq bS bE bL rp)) := by
  refine Met.ofW (cc := b_Mo_connect) (maxL := 2) (ret := (some .int)) pn_Mo rfl ?_
  intro p e s m args below meth c s₁ B hml hv
  obtain ⟨rfl, C, hP, hD, hS⟩ := enter "DecadeBridgeModel" rfl B hml hv
  obtain ⟨hx, hb, hr, hml, hown, hlk, hts, hK, hZo, hZ⟩ := id C
  refine entryW (lv := [(0, .ref mo), (1, .int p1)]) rfl (Nat.le_of_ble_eq_true rfl) (fun ls hl => ?_)
  obtain ⟨z, hz⟩ : ∃ z, z = sp_Mo_connect p1 o now pa := ⟨_, rfl⟩
  rw [← hz]
  unfold sp_Mo_connect at hz
  unfold ok_Mo_connect at hok
  refine lv_aload_n hx hb d_Mo_connect_0 rfl (lv_at hl 0 rfl) ?_
  refine lv_iload_n hx hb d_Mo_connect_1 rfl (lv_at hl 1 rfl) ?_
  refine lv_i2l hx hb d_Mo_connect_2 rfl ?_
  refine lv_ldc2 hx hb hown (hts _ qk_Mo_100) d_Mo_connect_3 ?_
  refine lv_ldc2 hx hb hown (hts _ qk_Mo_153) d_Mo_connect_6 ?_
  have hB : SubW g (inW (wMo g mo a o now dr pa sa iS bu tq rT wT sK sA sB sE oq bS bE bL rp)) s (wMo g mo a o now dr pa sa iS bu tq rT wT sK sA sB sE oq bS bE bL rp) _ (List.range _) _ _ := (subF hP hD hS)
  refine goI0 hB (run_s C mf_Mo_in qm_Mo_118 (c_Mo_in l g mo a o now dr pa sa iS bu tq rT wT sK sA sB sE oq bS bE bL rp p1.toInt64 (2 : Int64) (3 : Int64)) rfl rfl ⟨Nat.le_of_ble_eq_true rfl, Nat.le_of_ble_eq_true rfl⟩ ⟨Nat.le_of_ble_eq_true rfl, Nat.le_of_ble_eq_true rfl⟩ hB hl rfl rfl (Nat.le_of_ble_eq_true rfl) d_Mo_connect_9) (fun y1 ey1 H locs hP hS => ?_)
  have hz := lett_z hz ey1
  have hok := lett_o hok ey1
  refine lv_if_eq (tgt := 19) hx hb d_Mo_connect_12 (by decide) (fun c2 => ?_) (fun c2 => ?_)
  · have hz := hz.trans (if_pos c2)
    have hok := hok.1 c2
    refine lv_iconst (v := 1) hx hb d_Mo_connect_19 (by decide) ?_
    exact k_Mo_connect_20 C (1 : Int32) hok _ hz _ _ ls hP hD hS hl
  · have hz := hz.trans (if_neg c2)
    have hok := hok.2 c2
    refine lv_iconst (v := 0) hx hb d_Mo_connect_15 (by decide) ?_
    refine lv_goto (tgt := 20) hx hb d_Mo_connect_16 (by decide) ?_
    exact k_Mo_connect_20 C (0 : Int32) hok _ hz _ _ ls hP hD hS hl
abbrev rm_Mo_rest : Room := { frames := 10, cells := 0, slots := 0, locals := 229 }
def HL_Mo_rest_18 (p : Program) (l : Launch) (e : Env) (s : State) (m : MethodId) (args : Array Value) (below : List Frame) (meth : Method) (c : Code) (g : GX) (mo : Nat) (a : Nat → Nat) (ws0 : va_W) (o : IV) (now : LV) (dr : LV) (pa : LV) (sa : LV) (iS : IV) (bu : IV) (tq : IV) (rT : IV) (wT : IV) (sK : IV) (sA : IV) (sB : IV) (sE : IV) (oq : IV) (bS : IV) (bE : IV) (bL : IV) (rp : IV) (p1 : Int32) (sp : Int32 → (Int32 × IV × LV × LV)) (ok : Int32 → Prop) : Prop := ∀ (t1p18 : Int32), ok t1p18 → ∀ z : (Int32 × IV × LV × LV), z = sp t1p18 → ∀ (H : Heap) (locs : List Loc) (ls : Array Slot), va_P g.1 vwCl (wMo g mo a o now dr pa sa iS bu tq rT wT sK sA sB sE oq bS bE bL rp) H → va_D (inW ws0) (wMo g mo a o now dr pa sa iS bu tq rT wT sK sA sB sE oq bS bE bL rp) → va_S (inW ws0) s.heap H locs → lv_has ls 2 [(0, .ref mo), (1, .int p1)] → W p l e rm_Mo_rest s m args below meth c H locs 0 0 (MQ below (CI g ws0 (fun u : IV × LV × LV => wMo g mo a u.1 u.2.1 dr u.2.2 sa iS bu tq rT wT sK sA sB sE oq bS bE bL rp) z) args s 0 0 (inW ws0)) (F0 m 18 ls [.int t1p18, .ref mo])
noncomputable def sp_Mo_rest_18 (o : IV) (now : LV) (pa : LV) (p1 : Int32)  (t1p18 : Int32) : Int32 × IV × LV × LV := lett (upd o 6 t1p18) fun (o_3 : IV) => if (o_3 6) ≤ 0 then (lett (sp_Mo_record o_3 now pa) fun (y6 : IV × LV) => lett (sp_Mo_restNow p1 now) fun (y8 : Int32 × LV) => (y8.1, (y6.1, y8.2, y6.2))) else (((0 : Int32), (o_3, now, pa)))
def ok_Mo_rest_18 (o : IV) (now : LV) (pa : LV) (p1 : Int32)   (t1p18 : Int32) : Prop := lett (upd o 6 t1p18) fun (o_3 : IV) => (((o_3 6) ≤ 0 → (ok_Mo_record o_3 now pa) ∧ lett (sp_Mo_record o_3 now pa) fun (y6 : IV × LV) => (ok_Mo_restNow p1 now) ∧ True) ∧ (¬ ((o_3 6) ≤ 0) → True))
set_option maxRecDepth 100000 in
set_option maxHeartbeats 4000000 in
theorem k_Mo_rest_18 {p : Program} {l : Launch} {e : Env} {s : State} {m : MethodId} {args : Array Value} {below : List Frame} {meth : Method} {c : Code} {g : GX} {mo : Nat} {a : Nat → Nat} {ws0 : va_W} {o : IV} {now : LV} {dr : LV} {pa : LV} {sa : LV} {iS : IV} {bu : IV} {tq : IV} {rT : IV} {wT : IV} {sK : IV} {sA : IV} {sB : IV} {sE : IV} {oq : IV} {bS : IV} {bE : IV} {bL : IV} {rp : IV} {p1 : Int32}  (C : Cx p s m args meth c (inW ws0) g "DecadeBridgeModel" b_Mo_rest (some .int) 2)  : HL_Mo_rest_18 p l e s m args below meth c g mo a ws0 o now dr pa sa iS bu tq rT wT sK sA sB sE oq bS bE bL rp p1 (sp_Mo_rest_18 o now pa p1 ) (ok_Mo_rest_18 o now pa p1  ) := by
  intro t1p18 hok z hz H locs ls hP hD hS hl
  obtain ⟨hx, hb, hr, hml, hown, hlk, hts, hK, hZo, hZ⟩ := id C
  unfold sp_Mo_rest_18 at hz
  unfold ok_Mo_rest_18 at hok
  refine pfI C hP hD hS 0 6 fkMo rfl (by decide) rfl qf_Mo_107 rfl rfl rfl (Nat.le_of_ble_eq_true rfl) (ff := fun o => fMo a o) (sMo_6 _ _ _) d_Mo_rest_18 (fun o_3 eo_3 H locs hP hD hS => ?_)
  have hP : va_P g.1 vwCl (wMo g mo a o_3 now dr pa sa iS bu tq rT wT sK sA sB sE oq bS bE bL rp) H := hP
  have hD : va_D (inW ws0) (wMo g mo a o_3 now dr pa sa iS bu tq rT wT sK sA sB sE oq bS bE bL rp) := hD
  have hz := lett_z hz eo_3
  have hok := lett_o hok eo_3
  refine lv_aload_n hx hb d_Mo_rest_21 rfl (lv_at hl 0 rfl) ?_
  refine gf C hP 0 6 fkMo rfl (by decide) rfl qf_Mo_107 (gMo_6 _ _) d_Mo_rest_22 ?_
  refine lv_if_le (tgt := 30) hx hb d_Mo_rest_25 (by decide) (fun c4 => ?_) (fun c4 => ?_)
  · have hz := hz.trans (if_pos c4)
    have hok := hok.1 c4
    refine lv_aload_n hx hb d_Mo_rest_30 rfl (lv_at hl 0 rfl) ?_
    have hs5 := hok.1
    have hok := hok.2
    have hB : SubW g (inW ws0) s (wMo g mo a o_3 now dr pa sa iS bu tq rT wT sK sA sB sE oq bS bE bL rp) _ (List.range _) _ _ := (subF hP hD hS)
    refine goVF hB (run_v C mf_Mo_record qm_Mo_484 (c_Mo_record l g mo a o_3 now dr pa sa iS bu tq rT wT sK sA sB sE oq bS bE bL rp hs5) rfl rfl ⟨Nat.le_of_ble_eq_true rfl, Nat.le_of_ble_eq_true rfl⟩ ⟨Nat.le_of_ble_eq_true rfl, Nat.le_of_ble_eq_true rfl⟩ hB rfl rfl hl rfl rfl (Nat.le_of_ble_eq_true rfl) d_Mo_rest_31) (fun _ => rfl) (fun y6 ey6 H locs hP hD hS => ?_)
    have hP : va_P g.1 vwCl (wMo g mo a y6.1 now dr y6.2 sa iS bu tq rT wT sK sA sB sE oq bS bE bL rp) H := hP
    have hD : va_D (inW ws0) (wMo g mo a y6.1 now dr y6.2 sa iS bu tq rT wT sK sA sB sE oq bS bE bL rp) := hD
    have hz := lett_z hz ey6
    have hok := lett_o hok ey6
    refine lv_aload_n hx hb d_Mo_rest_34 rfl (lv_at hl 0 rfl) ?_
    refine lv_iload_n hx hb d_Mo_rest_35 rfl (lv_at hl 1 rfl) ?_
    have hs7 := hok.1
    have hok := hok.2
    have hB : SubW g (inW ws0) s (wMo g mo a y6.1 now dr y6.2 sa iS bu tq rT wT sK sA sB sE oq bS bE bL rp) _ (List.range _) _ _ := (subF hP hD hS)
    refine goIF hB (run_v C mf_Mo_restNow qm_Mo_497 (c_Mo_restNow l g mo a y6.1 now dr y6.2 sa iS bu tq rT wT sK sA sB sE oq bS bE bL rp p1 hs7) rfl rfl ⟨Nat.le_of_ble_eq_true rfl, Nat.le_of_ble_eq_true rfl⟩ ⟨Nat.le_of_ble_eq_true rfl, Nat.le_of_ble_eq_true rfl⟩ hB rfl rfl hl rfl rfl (Nat.le_of_ble_eq_true rfl) d_Mo_rest_36) (fun _ => rfl) (fun y8 ey8 H locs hP hD hS => ?_)
    have hP : va_P g.1 vwCl (wMo g mo a y6.1 y8.2 dr y6.2 sa iS bu tq rT wT sK sA sB sE oq bS bE bL rp) H := hP
    have hD : va_D (inW ws0) (wMo g mo a y6.1 y8.2 dr y6.2 sa iS bu tq rT wT sK sA sB sE oq bS bE bL rp) := hD
    have hz := lett_z hz ey8
    exact endI1 C hz hP hS d_Mo_rest_39
  · have hz := hz.trans (if_neg c4)
    refine lv_iconst (v := 0) hx hb d_Mo_rest_28 (by decide) ?_
    exact endI1 C hz hP hS d_Mo_rest_29
noncomputable def sp_Mo_rest (p1 : Int32) (o : IV) (now : LV) (pa : LV) : Int32 × IV × LV × LV := lett (sp_Mo_in p1.toInt64 (1 : Int64) (99 : Int64)) fun (y1 : Int32) => if y1 = 0 then (sp_Mo_rest_18 o now pa p1 (1 : Int32)) else (sp_Mo_rest_18 o now pa p1 (0 : Int32))
def ok_Mo_rest (p1 : Int32) (o : IV) (now : LV) (pa : LV) : Prop := lett (sp_Mo_in p1.toInt64 (1 : Int64) (99 : Int64)) fun (y1 : Int32) => ((y1 = 0 → ok_Mo_rest_18 o now pa p1 (1 : Int32)) ∧ (¬ (y1 = 0) → ok_Mo_rest_18 o now pa p1 (0 : Int32)))
set_option maxRecDepth 100000 in
set_option maxHeartbeats 4000000 in
theorem c_Mo_rest (l : Launch) (g : GX) (mo : Nat) (a : Nat → Nat) (o : IV) (now : LV) (dr : LV) (pa : LV) (sa : LV) (iS : IV) (bu : IV) (tq : IV) (rT : IV) (wT : IV) (sK : IV) (sA : IV) (sB : IV) (sE : IV) (oq : IV) (bS : IV) (bE : IV) (bL : IV) (rp : IV) (p1 : Int32) (hok : ok_Mo_rest p1 o now pa) : Met l y_Mo_rest (wsY y_Mo_rest b_Mo_rest 2 (some .int)) rm_Mo_rest (CP g [.ref mo, .int p1] (wMo g mo a o now dr pa sa iS bu tq rT wT sK sA sB sE oq bS bE bL rp)) (CI g (wMo g mo a o now dr pa sa iS bu tq rT wT sK sA sB sE oq bS bE bL rp) (fun u : IV × LV × LV => wMo g mo a u.1 u.2.1 dr u.2.2 sa iS bu tq rT wT sK sA sB sE oq bS bE bL rp) (sp_Mo_rest p1 o now pa)) 0 0 (inW (wMo g mo a o now dr pa sa iS bu tq rT wT sK sA sB sE oq bS bE bL rp)) := by
  refine Met.ofW (cc := b_Mo_rest) (maxL := 2) (ret := (some .int)) pn_Mo rfl ?_
  intro p e s m args below meth c s₁ B hml hv
  obtain ⟨rfl, C, hP, hD, hS⟩ := enter "DecadeBridgeModel" rfl B hml hv
  obtain ⟨hx, hb, hr, hml, hown, hlk, hts, hK, hZo, hZ⟩ := id C
  refine entryW (lv := [(0, .ref mo), (1, .int p1)]) rfl (Nat.le_of_ble_eq_true rfl) (fun ls hl => ?_)
  obtain ⟨z, hz⟩ : ∃ z, z = sp_Mo_rest p1 o now pa := ⟨_, rfl⟩
  rw [← hz]
  unfold sp_Mo_rest at hz
  unfold ok_Mo_rest at hok
  refine lv_aload_n hx hb d_Mo_rest_0 rfl (lv_at hl 0 rfl) ?_
  refine lv_iload_n hx hb d_Mo_rest_1 rfl (lv_at hl 1 rfl) ?_
  refine lv_i2l hx hb d_Mo_rest_2 rfl ?_
  refine lv_lconst (v := 1) hx hb d_Mo_rest_3 (by decide) ?_
  refine lv_ldc2 hx hb hown (hts _ qk_Mo_354) d_Mo_rest_4 ?_
  have hB : SubW g (inW (wMo g mo a o now dr pa sa iS bu tq rT wT sK sA sB sE oq bS bE bL rp)) s (wMo g mo a o now dr pa sa iS bu tq rT wT sK sA sB sE oq bS bE bL rp) _ (List.range _) _ _ := (subF hP hD hS)
  refine goI0 hB (run_s C mf_Mo_in qm_Mo_118 (c_Mo_in l g mo a o now dr pa sa iS bu tq rT wT sK sA sB sE oq bS bE bL rp p1.toInt64 (1 : Int64) (99 : Int64)) rfl rfl ⟨Nat.le_of_ble_eq_true rfl, Nat.le_of_ble_eq_true rfl⟩ ⟨Nat.le_of_ble_eq_true rfl, Nat.le_of_ble_eq_true rfl⟩ hB hl rfl rfl (Nat.le_of_ble_eq_true rfl) d_Mo_rest_7) (fun y1 ey1 H locs hP hS => ?_)
  have hz := lett_z hz ey1
  have hok := lett_o hok ey1
  refine lv_if_eq (tgt := 17) hx hb d_Mo_rest_10 (by decide) (fun c2 => ?_) (fun c2 => ?_)
  · have hz := hz.trans (if_pos c2)
    have hok := hok.1 c2
    refine lv_iconst (v := 1) hx hb d_Mo_rest_17 (by decide) ?_
    exact k_Mo_rest_18 C (1 : Int32) hok _ hz _ _ ls hP hD hS hl
  · have hz := hz.trans (if_neg c2)
    have hok := hok.2 c2
    refine lv_iconst (v := 0) hx hb d_Mo_rest_13 (by decide) ?_
    refine lv_goto (tgt := 18) hx hb d_Mo_rest_14 (by decide) ?_
    exact k_Mo_rest_18 C (0 : Int32) hok _ hz _ _ ls hP hD hS hl
abbrev rm_Mo_read : Room := { frames := 10, cells := 0, slots := 0, locals := 233 }
noncomputable def sp_Mo_read (o : IV) (now : LV) (pa : LV) : Int32 × IV × LV × LV := lett (upd o 6 (0 : Int32)) fun (o_1 : IV) => lett (sp_Mo_whyNotRead now) fun (y3 : Int32) => if 0 ≤ y3 then (lett (sp_Mo_record o_1 now pa) fun (y6 : IV × LV) => lett (sp_Mo_makeReading now) fun (y8 : Int64 × LV) => ((y8.2 43).toInt32, (y6.1, y8.2, y6.2))) else (lett (sp_Mo_whyNotRead now) fun (y9 : Int32) => (y9, (o_1, now, pa)))
def ok_Mo_read (o : IV) (now : LV) (pa : LV) : Prop := lett (upd o 6 (0 : Int32)) fun (o_1 : IV) => (ok_Mo_whyNotRead now) ∧ lett (sp_Mo_whyNotRead now) fun (y3 : Int32) => ((0 ≤ y3 → (ok_Mo_record o_1 now pa) ∧ lett (sp_Mo_record o_1 now pa) fun (y6 : IV × LV) => (ok_Mo_makeReading now) ∧ True) ∧ (¬ (0 ≤ y3) → True))
set_option maxRecDepth 100000 in
set_option maxHeartbeats 4000000 in
theorem c_Mo_read (l : Launch) (g : GX) (mo : Nat) (a : Nat → Nat) (o : IV) (now : LV) (dr : LV) (pa : LV) (sa : LV) (iS : IV) (bu : IV) (tq : IV) (rT : IV) (wT : IV) (sK : IV) (sA : IV) (sB : IV) (sE : IV) (oq : IV) (bS : IV) (bE : IV) (bL : IV) (rp : IV)  (hok : ok_Mo_read o now pa) : Met l y_Mo_read (wsY y_Mo_read b_Mo_read 3 (some .int)) rm_Mo_read (CP g [.ref mo] (wMo g mo a o now dr pa sa iS bu tq rT wT sK sA sB sE oq bS bE bL rp)) (CI g (wMo g mo a o now dr pa sa iS bu tq rT wT sK sA sB sE oq bS bE bL rp) (fun u : IV × LV × LV => wMo g mo a u.1 u.2.1 dr u.2.2 sa iS bu tq rT wT sK sA sB sE oq bS bE bL rp) (sp_Mo_read o now pa)) 0 0 (inW (wMo g mo a o now dr pa sa iS bu tq rT wT sK sA sB sE oq bS bE bL rp)) := by
  refine Met.ofW (cc := b_Mo_read) (maxL := 3) (ret := (some .int)) pn_Mo rfl ?_
  intro p e s m args below meth c s₁ B hml hv
  obtain ⟨rfl, C, hP, hD, hS⟩ := enter "DecadeBridgeModel" rfl B hml hv
  obtain ⟨hx, hb, hr, hml, hown, hlk, hts, hK, hZo, hZ⟩ := id C
  refine entryW (lv := [(0, .ref mo)]) rfl (Nat.le_of_ble_eq_true rfl) (fun ls hl => ?_)
  obtain ⟨z, hz⟩ : ∃ z, z = sp_Mo_read o now pa := ⟨_, rfl⟩
  rw [← hz]
  unfold sp_Mo_read at hz
  unfold ok_Mo_read at hok
  refine lv_aload_n hx hb d_Mo_read_0 rfl (lv_at hl 0 rfl) ?_
  refine lv_iconst (v := 0) hx hb d_Mo_read_1 (by decide) ?_
  refine pfI C hP hD hS 0 6 fkMo rfl (by decide) rfl qf_Mo_107 rfl rfl rfl (Nat.le_of_ble_eq_true rfl) (ff := fun o => fMo a o) (sMo_6 _ _ _) d_Mo_read_2 (fun o_1 eo_1 H locs hP hD hS => ?_)
  have hP : va_P g.1 vwCl (wMo g mo a o_1 now dr pa sa iS bu tq rT wT sK sA sB sE oq bS bE bL rp) H := hP
  have hD : va_D (inW (wMo g mo a o now dr pa sa iS bu tq rT wT sK sA sB sE oq bS bE bL rp)) (wMo g mo a o_1 now dr pa sa iS bu tq rT wT sK sA sB sE oq bS bE bL rp) := hD
  have hz := lett_z hz eo_1
  have hok := lett_o hok eo_1
  refine lv_aload_n hx hb d_Mo_read_5 rfl (lv_at hl 0 rfl) ?_
  have hs2 := hok.1
  have hok := hok.2
  have hB : SubW g (inW (wMo g mo a o now dr pa sa iS bu tq rT wT sK sA sB sE oq bS bE bL rp)) s (wMo g mo a o_1 now dr pa sa iS bu tq rT wT sK sA sB sE oq bS bE bL rp) _ (List.range _) _ _ := (subF hP hD hS)
  refine goI0 hB (run_v C mf_Mo_whyNotRead qm_Mo_500 (c_Mo_whyNotRead l g mo a o_1 now dr pa sa iS bu tq rT wT sK sA sB sE oq bS bE bL rp hs2) rfl rfl ⟨Nat.le_of_ble_eq_true rfl, Nat.le_of_ble_eq_true rfl⟩ ⟨Nat.le_of_ble_eq_true rfl, Nat.le_of_ble_eq_true rfl⟩ hB rfl rfl hl rfl rfl (Nat.le_of_ble_eq_true rfl) d_Mo_read_6) (fun y3 ey3 H locs hP hS => ?_)
  have hz := lett_z hz ey3
  have hok := lett_o hok ey3
  refine lv_if_ge (tgt := 17) hx hb d_Mo_read_9 (by decide) (fun c4 => ?_) (fun c4 => ?_)
  · have hz := hz.trans (if_pos c4)
    have hok := hok.1 c4
    refine lv_aload_n hx hb d_Mo_read_17 rfl (lv_at hl 0 rfl) ?_
    have hs5 := hok.1
    have hok := hok.2
    have hB : SubW g (inW (wMo g mo a o now dr pa sa iS bu tq rT wT sK sA sB sE oq bS bE bL rp)) s (wMo g mo a o_1 now dr pa sa iS bu tq rT wT sK sA sB sE oq bS bE bL rp) _ (List.range _) _ _ := (subF hP hD hS)
    refine goVF hB (run_v C mf_Mo_record qm_Mo_484 (c_Mo_record l g mo a o_1 now dr pa sa iS bu tq rT wT sK sA sB sE oq bS bE bL rp hs5) rfl rfl ⟨Nat.le_of_ble_eq_true rfl, Nat.le_of_ble_eq_true rfl⟩ ⟨Nat.le_of_ble_eq_true rfl, Nat.le_of_ble_eq_true rfl⟩ hB rfl rfl hl rfl rfl (Nat.le_of_ble_eq_true rfl) d_Mo_read_18) (fun _ => rfl) (fun y6 ey6 H locs hP hD hS => ?_)
    have hP : va_P g.1 vwCl (wMo g mo a y6.1 now dr y6.2 sa iS bu tq rT wT sK sA sB sE oq bS bE bL rp) H := hP
    have hD : va_D (inW (wMo g mo a o now dr pa sa iS bu tq rT wT sK sA sB sE oq bS bE bL rp)) (wMo g mo a y6.1 now dr y6.2 sa iS bu tq rT wT sK sA sB sE oq bS bE bL rp) := hD
    have hz := lett_z hz ey6
    have hok := lett_o hok ey6
    refine lv_aload_n hx hb d_Mo_read_21 rfl (lv_at hl 0 rfl) ?_
    have hs7 := hok.1
    have hok := hok.2
    have hB : SubW g (inW (wMo g mo a o now dr pa sa iS bu tq rT wT sK sA sB sE oq bS bE bL rp)) s (wMo g mo a y6.1 now dr y6.2 sa iS bu tq rT wT sK sA sB sE oq bS bE bL rp) _ (List.range _) _ _ := (subF hP hD hS)
    refine goLF hB (run_v C mf_Mo_makeReading qm_Mo_231 (c_Mo_makeReading l g mo a y6.1 now dr y6.2 sa iS bu tq rT wT sK sA sB sE oq bS bE bL rp hs7) rfl rfl ⟨Nat.le_of_ble_eq_true rfl, Nat.le_of_ble_eq_true rfl⟩ ⟨Nat.le_of_ble_eq_true rfl, Nat.le_of_ble_eq_true rfl⟩ hB rfl rfl hl rfl rfl (Nat.le_of_ble_eq_true rfl) d_Mo_read_22) (fun _ => rfl) (fun y8 ey8 H locs hP hD hS => ?_)
    have hP : va_P g.1 vwCl (wMo g mo a y6.1 y8.2 dr y6.2 sa iS bu tq rT wT sK sA sB sE oq bS bE bL rp) H := hP
    have hD : va_D (inW (wMo g mo a o now dr pa sa iS bu tq rT wT sK sA sB sE oq bS bE bL rp)) (wMo g mo a y6.1 y8.2 dr y6.2 sa iS bu tq rT wT sK sA sB sE oq bS bE bL rp) := hD
    have hz := lett_z hz ey8
    refine lv_lstore_n (lv' := [(1, .long y8.1), (0, .ref mo)]) hx hb d_Mo_read_25 rfl hl (by decide) rfl (fun ls hl => ?_)
    refine lv_aload_n hx hb d_Mo_read_26 rfl (lv_at hl 1 rfl) ?_
    refine gf C hP 0 0 fkMo rfl (by decide) rfl qf_Mo_7 (gMo_0 _ _) d_Mo_read_27 ?_
    refine lv_bipush (v := 43) hx hb d_Mo_read_30 (by decide) ?_
    refine ldL C hP 1 rfl vi_43_215 cn_43 d_Mo_read_32 ?_
    refine lv_l2i hx hb d_Mo_read_33 rfl ?_
    exact endI1 C hz hP hS d_Mo_read_34
  · have hz := hz.trans (if_neg c4)
    refine lv_aload_n hx hb d_Mo_read_12 rfl (lv_at hl 0 rfl) ?_
    have hB : SubW g (inW (wMo g mo a o now dr pa sa iS bu tq rT wT sK sA sB sE oq bS bE bL rp)) s (wMo g mo a o_1 now dr pa sa iS bu tq rT wT sK sA sB sE oq bS bE bL rp) _ (List.range _) _ _ := (subF hP hD hS)
    refine goI0 hB (run_v C mf_Mo_whyNotRead qm_Mo_500 (c_Mo_whyNotRead l g mo a o_1 now dr pa sa iS bu tq rT wT sK sA sB sE oq bS bE bL rp hs2) rfl rfl ⟨Nat.le_of_ble_eq_true rfl, Nat.le_of_ble_eq_true rfl⟩ ⟨Nat.le_of_ble_eq_true rfl, Nat.le_of_ble_eq_true rfl⟩ hB rfl rfl hl rfl rfl (Nat.le_of_ble_eq_true rfl) d_Mo_read_13) (fun y9 ey9 H locs hP hS => ?_)
    have hz := lett_z hz ey9
    exact endI1 C hz hP hS d_Mo_read_16
abbrev rm_Mo_balance : Room := { frames := 13, cells := 0, slots := 0, locals := 305 }
noncomputable def sp_Mo_balance (p1 : Int32) (o : IV) (now : LV) (pa : LV) : Int32 × IV × LV × LV := lett (upd o 6 (0 : Int32)) fun (o_1 : IV) => if (now 22) = (0 : Int64) then (((-2 : Int32), (o_1, now, pa))) else (lett (sp_Mo_record o_1 now pa) fun (y4 : IV × LV) => lett (sp_Mo_balanceNow p1 now) fun (y6 : Int32 × LV) => (y6.1, (y4.1, y6.2, y4.2)))
def ok_Mo_balance (p1 : Int32) (o : IV) (now : LV) (pa : LV) : Prop := lett (upd o 6 (0 : Int32)) fun (o_1 : IV) => (((now 22) = (0 : Int64) → True) ∧ (¬ ((now 22) = (0 : Int64)) → (ok_Mo_record o_1 now pa) ∧ lett (sp_Mo_record o_1 now pa) fun (y4 : IV × LV) => (ok_Mo_balanceNow p1 now) ∧ True))
set_option maxRecDepth 100000 in
set_option maxHeartbeats 4000000 in
theorem c_Mo_balance (l : Launch) (g : GX) (mo : Nat) (a : Nat → Nat) (o : IV) (now : LV) (dr : LV) (pa : LV) (sa : LV) (iS : IV) (bu : IV) (tq : IV) (rT : IV) (wT : IV) (sK : IV) (sA : IV) (sB : IV) (sE : IV) (oq : IV) (bS : IV) (bE : IV) (bL : IV) (rp : IV) (p1 : Int32) (hok : ok_Mo_balance p1 o now pa) : Met l y_Mo_balance (wsY y_Mo_balance b_Mo_balance 2 (some .int)) rm_Mo_balance (CP g [.ref mo, .int p1] (wMo g mo a o now dr pa sa iS bu tq rT wT sK sA sB sE oq bS bE bL rp)) (CI g (wMo g mo a o now dr pa sa iS bu tq rT wT sK sA sB sE oq bS bE bL rp) (fun u : IV × LV × LV => wMo g mo a u.1 u.2.1 dr u.2.2 sa iS bu tq rT wT sK sA sB sE oq bS bE bL rp) (sp_Mo_balance p1 o now pa)) 0 0 (inW (wMo g mo a o now dr pa sa iS bu tq rT wT sK sA sB sE oq bS bE bL rp)) := by
  refine Met.ofW (cc := b_Mo_balance) (maxL := 2) (ret := (some .int)) pn_Mo rfl ?_
  intro p e s m args below meth c s₁ B hml hv
  obtain ⟨rfl, C, hP, hD, hS⟩ := enter "DecadeBridgeModel" rfl B hml hv
  obtain ⟨hx, hb, hr, hml, hown, hlk, hts, hK, hZo, hZ⟩ := id C
  refine entryW (lv := [(0, .ref mo), (1, .int p1)]) rfl (Nat.le_of_ble_eq_true rfl) (fun ls hl => ?_)
  obtain ⟨z, hz⟩ : ∃ z, z = sp_Mo_balance p1 o now pa := ⟨_, rfl⟩
  rw [← hz]
  unfold sp_Mo_balance at hz
  unfold ok_Mo_balance at hok
  refine lv_aload_n hx hb d_Mo_balance_0 rfl (lv_at hl 0 rfl) ?_
  refine lv_iconst (v := 0) hx hb d_Mo_balance_1 (by decide) ?_
  refine pfI C hP hD hS 0 6 fkMo rfl (by decide) rfl qf_Mo_107 rfl rfl rfl (Nat.le_of_ble_eq_true rfl) (ff := fun o => fMo a o) (sMo_6 _ _ _) d_Mo_balance_2 (fun o_1 eo_1 H locs hP hD hS => ?_)
  have hP : va_P g.1 vwCl (wMo g mo a o_1 now dr pa sa iS bu tq rT wT sK sA sB sE oq bS bE bL rp) H := hP
  have hD : va_D (inW (wMo g mo a o now dr pa sa iS bu tq rT wT sK sA sB sE oq bS bE bL rp)) (wMo g mo a o_1 now dr pa sa iS bu tq rT wT sK sA sB sE oq bS bE bL rp) := hD
  have hz := lett_z hz eo_1
  have hok := lett_o hok eo_1
  refine lv_aload_n hx hb d_Mo_balance_5 rfl (lv_at hl 0 rfl) ?_
  refine gf C hP 0 0 fkMo rfl (by decide) rfl qf_Mo_7 (gMo_0 _ _) d_Mo_balance_6 ?_
  refine lv_bipush (v := 22) hx hb d_Mo_balance_9 (by decide) ?_
  refine ldL C hP 1 rfl vi_22_215 cn_22 d_Mo_balance_11 ?_
  refine lv_lconst (v := 0) hx hb d_Mo_balance_12 (by decide) ?_
  refine lc_ne (tgt := 20) hx hb d_Mo_balance_13 d_Mo_balance_14 (by decide) (fun c2 => ?_) (fun c2 => ?_)
  · have hz := hz.trans (if_neg c2)
    have hok := hok.2 c2
    refine lv_aload_n hx hb d_Mo_balance_20 rfl (lv_at hl 0 rfl) ?_
    have hs3 := hok.1
    have hok := hok.2
    have hB : SubW g (inW (wMo g mo a o now dr pa sa iS bu tq rT wT sK sA sB sE oq bS bE bL rp)) s (wMo g mo a o_1 now dr pa sa iS bu tq rT wT sK sA sB sE oq bS bE bL rp) _ (List.range _) _ _ := (subF hP hD hS)
    refine goVF hB (run_v C mf_Mo_record qm_Mo_484 (c_Mo_record l g mo a o_1 now dr pa sa iS bu tq rT wT sK sA sB sE oq bS bE bL rp hs3) rfl rfl ⟨Nat.le_of_ble_eq_true rfl, Nat.le_of_ble_eq_true rfl⟩ ⟨Nat.le_of_ble_eq_true rfl, Nat.le_of_ble_eq_true rfl⟩ hB rfl rfl hl rfl rfl (Nat.le_of_ble_eq_true rfl) d_Mo_balance_21) (fun _ => rfl) (fun y4 ey4 H locs hP hD hS => ?_)
    have hP : va_P g.1 vwCl (wMo g mo a y4.1 now dr y4.2 sa iS bu tq rT wT sK sA sB sE oq bS bE bL rp) H := hP
    have hD : va_D (inW (wMo g mo a o now dr pa sa iS bu tq rT wT sK sA sB sE oq bS bE bL rp)) (wMo g mo a y4.1 now dr y4.2 sa iS bu tq rT wT sK sA sB sE oq bS bE bL rp) := hD
    have hz := lett_z hz ey4
    have hok := lett_o hok ey4
    refine lv_aload_n hx hb d_Mo_balance_24 rfl (lv_at hl 0 rfl) ?_
    refine lv_iload_n hx hb d_Mo_balance_25 rfl (lv_at hl 1 rfl) ?_
    have hs5 := hok.1
    have hok := hok.2
    have hB : SubW g (inW (wMo g mo a o now dr pa sa iS bu tq rT wT sK sA sB sE oq bS bE bL rp)) s (wMo g mo a y4.1 now dr y4.2 sa iS bu tq rT wT sK sA sB sE oq bS bE bL rp) _ (List.range _) _ _ := (subF hP hD hS)
    refine goIF hB (run_v C mf_Mo_balanceNow qm_Mo_503 (c_Mo_balanceNow l g mo a y4.1 now dr y4.2 sa iS bu tq rT wT sK sA sB sE oq bS bE bL rp p1 hs5) rfl rfl ⟨Nat.le_of_ble_eq_true rfl, Nat.le_of_ble_eq_true rfl⟩ ⟨Nat.le_of_ble_eq_true rfl, Nat.le_of_ble_eq_true rfl⟩ hB rfl rfl hl rfl rfl (Nat.le_of_ble_eq_true rfl) d_Mo_balance_26) (fun _ => rfl) (fun y6 ey6 H locs hP hD hS => ?_)
    have hP : va_P g.1 vwCl (wMo g mo a y4.1 y6.2 dr y4.2 sa iS bu tq rT wT sK sA sB sE oq bS bE bL rp) H := hP
    have hD : va_D (inW (wMo g mo a o now dr pa sa iS bu tq rT wT sK sA sB sE oq bS bE bL rp)) (wMo g mo a y4.1 y6.2 dr y4.2 sa iS bu tq rT wT sK sA sB sE oq bS bE bL rp) := hD
    have hz := lett_z hz ey6
    exact endI1 C hz hP hS d_Mo_balance_29
  · have hz := hz.trans (if_pos c2)
    refine lv_bipush (v := -2) hx hb d_Mo_balance_17 (by decide) ?_
    exact endI1 C hz hP hS d_Mo_balance_19
abbrev rm_Mo_stepHere : Room := { frames := 5, cells := 0, slots := 0, locals := 108 }
def HL_Mo_stepHere_2 (p : Program) (l : Launch) (e : Env) (s : State) (m : MethodId) (args : Array Value) (below : List Frame) (meth : Method) (c : Code) (g : GX) (mo : Nat) (a : Nat → Nat) (o : IV) (now : LV) (dr : LV) (pa : LV) (sa : LV) (iS : IV) (bu : IV) (tq : IV) (rT : IV) (wT : IV) (sK : IV) (sA : IV) (sB : IV) (sE : IV) (oq : IV) (bS : IV) (bE : IV) (bL : IV) (rp : IV) (sp : Int32 → Int32) (ok : Int32 → Prop) : Prop := ∀ (x1p2 : Int32), ok x1p2 → ∀ z : Int32, z = sp x1p2 → ∀ (H : Heap) (locs : List Loc) (ls : Array Slot), va_P g.1 vwCl (wMo g mo a o now dr pa sa iS bu tq rT wT sK sA sB sE oq bS bE bL rp) H → va_D (inW (wMo g mo a o now dr pa sa iS bu tq rT wT sK sA sB sE oq bS bE bL rp)) (wMo g mo a o now dr pa sa iS bu tq rT wT sK sA sB sE oq bS bE bL rp) → va_S (inW (wMo g mo a o now dr pa sa iS bu tq rT wT sK sA sB sE oq bS bE bL rp)) s.heap H locs → lv_has ls 2 [(0, .ref mo), (1, .int x1p2)] → W p l e rm_Mo_stepHere s m args below meth c H locs 0 0 (MQ below (CI0 g (wMo g mo a o now dr pa sa iS bu tq rT wT sK sA sB sE oq bS bE bL rp) z) args s 0 0 (inW (wMo g mo a o now dr pa sa iS bu tq rT wT sK sA sB sE oq bS bE bL rp))) (F0 m 2 ls [])
noncomputable def bd_Mo_stepHere_2 (o : IV) (bu : IV) (r2 : Int32 → Int32) (x1p2 : Int32) : Int32 := if (10 : Int32) ≤ x1p2 then ((-1 : Int32)) else (lett (sp_Mo_isWord (x1p2.toNatClampNeg + 8) o bu) fun (y4 : Int32) => if y4 = 0 then (lett (x1p2 + (1 : Int32)) fun (v6 : Int32) => r2 v6) else (x1p2))
def okb_Mo_stepHere_2 (o : IV) (bu : IV) (r2 : Int32 → Int32) (q2 : Int32 → Prop) (x1p2 : Int32) : Prop := (((10 : Int32) ≤ x1p2 → True) ∧ (¬ ((10 : Int32) ≤ x1p2) → (vp_in x1p2 10) ∧ (ok_Mo_isWord (x1p2.toNatClampNeg + 8) o bu) ∧ lett (sp_Mo_isWord (x1p2.toNatClampNeg + 8) o bu) fun (y4 : Int32) => ((y4 = 0 → lett (x1p2 + (1 : Int32)) fun (v6 : Int32) => q2 v6) ∧ (¬ (y4 = 0) → True))))
noncomputable def sp_Mo_stepHere_2 (o : IV) (bu : IV)  : Nat → Int32 → Int32
  | 0 => fun _ => default
  | f + 1 => bd_Mo_stepHere_2 o bu  (sp_Mo_stepHere_2 o bu  f)
def ok_Mo_stepHere_2 (o : IV) (bu : IV)   : Nat → Int32 → Prop
  | 0 => fun _ => False
  | f + 1 => okb_Mo_stepHere_2 o bu  (sp_Mo_stepHere_2 o bu  f)  (ok_Mo_stepHere_2 o bu   f)
set_option maxRecDepth 100000 in
set_option maxHeartbeats 4000000 in
theorem kb_Mo_stepHere_2 {p : Program} {l : Launch} {e : Env} {s : State} {m : MethodId} {args : Array Value} {below : List Frame} {meth : Method} {c : Code} {g : GX} {mo : Nat} {a : Nat → Nat} {o : IV} {now : LV} {dr : LV} {pa : LV} {sa : LV} {iS : IV} {bu : IV} {tq : IV} {rT : IV} {wT : IV} {sK : IV} {sA : IV} {sB : IV} {sE : IV} {oq : IV} {bS : IV} {bE : IV} {bL : IV} {rp : IV}  (C : Cx p s m args meth c (inW (wMo g mo a o now dr pa sa iS bu tq rT wT sK sA sB sE oq bS bE bL rp)) g "DecadeBridgeModel" b_Mo_stepHere (some .int) 2) {r2 : Int32 → Int32} {q2 : Int32 → Prop}  (ih2 : HL_Mo_stepHere_2 p l e s m args below meth c g mo a o now dr pa sa iS bu tq rT wT sK sA sB sE oq bS bE bL rp r2 q2) : HL_Mo_stepHere_2 p l e s m args below meth c g mo a o now dr pa sa iS bu tq rT wT sK sA sB sE oq bS bE bL rp (bd_Mo_stepHere_2 o bu  r2) (okb_Mo_stepHere_2 o bu  r2  q2) := by
  intro x1p2 hok z hz H locs ls hP hD hS hl
  obtain ⟨hx, hb, hr, hml, hown, hlk, hts, hK, hZo, hZ⟩ := id C
  unfold bd_Mo_stepHere_2 at hz
  unfold okb_Mo_stepHere_2 at hok
  refine lv_iload_n hx hb d_Mo_stepHere_2 rfl (lv_at hl 1 rfl) ?_
  refine lv_aload_n hx hb d_Mo_stepHere_3 rfl (lv_at hl 0 rfl) ?_
  refine gf C hP 0 17 fkMo rfl (by decide) rfl qf_Mo_65 (gMo_17 _ _) d_Mo_stepHere_4 ?_
  refine alen C hP 10 rfl (t0 := 6) rfl (v := 10) rfl d_Mo_stepHere_7 ?_
  refine lv_icmp_ge (tgt := 32) hx hb d_Mo_stepHere_8 (by decide) (fun c1 => ?_) (fun c1 => ?_)
  · have hz := hz.trans (if_pos c1)
    refine lv_iconst (v := -1) hx hb d_Mo_stepHere_32 (by decide) ?_
    exact endI0 C hz hP hS d_Mo_stepHere_33
  · have hz := hz.trans (if_neg c1)
    have hok := hok.2 c1
    refine lv_aload_n hx hb d_Mo_stepHere_11 rfl (lv_at hl 0 rfl) ?_
    refine lv_aload_n hx hb d_Mo_stepHere_12 rfl (lv_at hl 0 rfl) ?_
    refine gf C hP 0 17 fkMo rfl (by decide) rfl qf_Mo_65 (gMo_17 _ _) d_Mo_stepHere_13 ?_
    refine lv_iload_n hx hb d_Mo_stepHere_16 rfl (lv_at hl 1 rfl) ?_
    have hs2 := hok.1
    have hok := hok.2
    refine va_aldq hx hb hK hP 10 6 rfl rfl hs2 d_Mo_stepHere_17 ?_
    have hs3 := hok.1
    have hok := hok.2
    have hB : SubW g (inW (wMo g mo a o now dr pa sa iS bu tq rT wT sK sA sB sE oq bS bE bL rp)) s (wMo g mo a o now dr pa sa iS bu tq rT wT sK sA sB sE oq bS bE bL rp) _ (List.range _) _ _ := (subF hP hD hS)
    refine goI0 hB (run_v C mf_Mo_isWord qm_Mo_307 (c_Mo_isWord l g mo a o now dr pa sa iS bu tq rT wT sK sA sB sE oq bS bE bL rp (x1p2.toNatClampNeg + 8) hs3) rfl rfl ⟨Nat.le_of_ble_eq_true rfl, Nat.le_of_ble_eq_true rfl⟩ ⟨Nat.le_of_ble_eq_true rfl, Nat.le_of_ble_eq_true rfl⟩ hB rfl rfl hl rfl rfl (Nat.le_of_ble_eq_true rfl) d_Mo_stepHere_18) (fun y4 ey4 H locs hP hS => ?_)
    have hz := lett_z hz ey4
    have hok := lett_o hok ey4
    refine lv_if_eq (tgt := 26) hx hb d_Mo_stepHere_21 (by decide) (fun c5 => ?_) (fun c5 => ?_)
    · have hz := hz.trans (if_pos c5)
      have hok := hok.1 c5
      obtain ⟨v6, ev6⟩ : ∃ y : Int32, y = x1p2 + (1 : Int32) := ⟨_, rfl⟩
      have hz := lett_z hz ev6
      have hok := lett_o hok ev6
      refine lv_iinc (v := v6) (lv' := [(1, .int v6), (0, .ref mo)]) hx hb d_Mo_stepHere_26 hl (k := 1) rfl (by rw [ev6]; rfl) (by decide) rfl (fun ls hl => ?_)
      refine lv_goto (tgt := 2) hx hb d_Mo_stepHere_29 (by decide) ?_
      exact ih2 v6 hok _ hz _ _ ls hP hD hS (lv_sub hl [1, 0] rfl)
    · have hz := hz.trans (if_neg c5)
      refine lv_iload_n hx hb d_Mo_stepHere_24 rfl (lv_at hl 1 rfl) ?_
      exact endI0 C hz hP hS d_Mo_stepHere_25
theorem k_Mo_stepHere_2 {p : Program} {l : Launch} {e : Env} {s : State} {m : MethodId} {args : Array Value} {below : List Frame} {meth : Method} {c : Code} {g : GX} {mo : Nat} {a : Nat → Nat} {o : IV} {now : LV} {dr : LV} {pa : LV} {sa : LV} {iS : IV} {bu : IV} {tq : IV} {rT : IV} {wT : IV} {sK : IV} {sA : IV} {sB : IV} {sE : IV} {oq : IV} {bS : IV} {bE : IV} {bL : IV} {rp : IV}  (C : Cx p s m args meth c (inW (wMo g mo a o now dr pa sa iS bu tq rT wT sK sA sB sE oq bS bE bL rp)) g "DecadeBridgeModel" b_Mo_stepHere (some .int) 2) (f : Nat)  : HL_Mo_stepHere_2 p l e s m args below meth c g mo a o now dr pa sa iS bu tq rT wT sK sA sB sE oq bS bE bL rp (sp_Mo_stepHere_2 o bu  f) (ok_Mo_stepHere_2 o bu   f) := by
  induction f with
  | zero => intro x1p2 hok; exact False.elim hok
  | succ f ih => exact kb_Mo_stepHere_2 C  ih
noncomputable def sp_Mo_stepHere (o : IV) (bu : IV) : Int32 := sp_Mo_stepHere_2 o bu big (0 : Int32)
def ok_Mo_stepHere (o : IV) (bu : IV) : Prop := ok_Mo_stepHere_2 o bu big (0 : Int32)
set_option maxRecDepth 100000 in
set_option maxHeartbeats 4000000 in
theorem c_Mo_stepHere (l : Launch) (g : GX) (mo : Nat) (a : Nat → Nat) (o : IV) (now : LV) (dr : LV) (pa : LV) (sa : LV) (iS : IV) (bu : IV) (tq : IV) (rT : IV) (wT : IV) (sK : IV) (sA : IV) (sB : IV) (sE : IV) (oq : IV) (bS : IV) (bE : IV) (bL : IV) (rp : IV)  (hok : ok_Mo_stepHere o bu) : Met l y_Mo_stepHere (wsY y_Mo_stepHere b_Mo_stepHere 2 (some .int)) rm_Mo_stepHere (CP g [.ref mo] (wMo g mo a o now dr pa sa iS bu tq rT wT sK sA sB sE oq bS bE bL rp)) (CI0 g (wMo g mo a o now dr pa sa iS bu tq rT wT sK sA sB sE oq bS bE bL rp) (sp_Mo_stepHere o bu)) 0 0 (inW (wMo g mo a o now dr pa sa iS bu tq rT wT sK sA sB sE oq bS bE bL rp)) := by
  refine Met.ofW (cc := b_Mo_stepHere) (maxL := 2) (ret := (some .int)) pn_Mo rfl ?_
  intro p e s m args below meth c s₁ B hml hv
  obtain ⟨rfl, C, hP, hD, hS⟩ := enter "DecadeBridgeModel" rfl B hml hv
  obtain ⟨hx, hb, hr, hml, hown, hlk, hts, hK, hZo, hZ⟩ := id C
  refine entryW (lv := [(0, .ref mo)]) rfl (Nat.le_of_ble_eq_true rfl) (fun ls hl => ?_)
  obtain ⟨z, hz⟩ : ∃ z, z = sp_Mo_stepHere o bu := ⟨_, rfl⟩
  rw [← hz]
  unfold sp_Mo_stepHere at hz
  unfold ok_Mo_stepHere at hok
  refine lv_iconst (v := 0) hx hb d_Mo_stepHere_0 (by decide) ?_
  refine lv_istore_n (lv' := [(1, .int (0 : Int32)), (0, .ref mo)]) hx hb d_Mo_stepHere_1 rfl hl (by decide) rfl (fun ls hl => ?_)
  exact k_Mo_stepHere_2 C big (0 : Int32) hok _ hz _ _ ls hP hD hS (lv_sub hl [1, 0] rfl)
abbrev rm_Mo_first : Room := { frames := 6, cells := 0, slots := 0, locals := 130 }
noncomputable def sp_Mo_first (p1 : Int32) (o : IV) (bu : IV) : Int32 × IV := if p1 = (0 : Int32) then (lett (sp_Mo_number (0 : Int64) (4 : Int64) o bu) fun (y2 : Int64 × IV) => (y2.1.toInt32, y2.2)) else (if p1 = (1 : Int32) then (lett (sp_Mo_number (0 : Int64) (20000 : Int64) o bu) fun (y4 : Int64 × IV) => (y4.1.toInt32, y4.2)) else (if p1 = (2 : Int32) then (lett (sp_Mo_number (0 : Int64) (9999 : Int64) o bu) fun (y6 : Int64 × IV) => (y6.1.toInt32, y6.2)) else (if p1 = (3 : Int32) then (((0 : Int32), o)) else (if p1 = (4 : Int32) then (lett (sp_Mo_number (2 : Int64) (3 : Int64) o bu) fun (y8 : Int64 × IV) => (y8.1.toInt32, y8.2)) else (if p1 = (5 : Int32) then (lett (sp_Mo_number (1 : Int64) (99 : Int64) o bu) fun (y10 : Int64 × IV) => (y10.1.toInt32, y10.2)) else (if p1 = (6 : Int32) then (lett (sp_Mo_number (1 : Int64) (20 : Int64) o bu) fun (y12 : Int64 × IV) => (y12.1.toInt32, y12.2)) else (if p1 = (7 : Int32) then (lett (sp_Mo_takes 18 o bu) fun (y14 : Int32 × IV) => if y14.1 = 0 then (((0 : Int32), y14.2)) else (((1 : Int32), y14.2))) else (if p1 = (8 : Int32) then (lett (sp_Mo_number (0 : Int64) (20 : Int64) o bu) fun (y17 : Int64 × IV) => (y17.1.toInt32, y17.2)) else (((0 : Int32), o))))))))))
def ok_Mo_first (p1 : Int32) (o : IV) (bu : IV) : Prop := ((p1 = (0 : Int32) → (ok_Mo_number (0 : Int64) (4 : Int64) o bu) ∧ True) ∧ (¬ (p1 = (0 : Int32)) → ((p1 = (1 : Int32) → (ok_Mo_number (0 : Int64) (20000 : Int64) o bu) ∧ True) ∧ (¬ (p1 = (1 : Int32)) → ((p1 = (2 : Int32) → (ok_Mo_number (0 : Int64) (9999 : Int64) o bu) ∧ True) ∧ (¬ (p1 = (2 : Int32)) → ((p1 = (3 : Int32) → True) ∧ (¬ (p1 = (3 : Int32)) → ((p1 = (4 : Int32) → (ok_Mo_number (2 : Int64) (3 : Int64) o bu) ∧ True) ∧ (¬ (p1 = (4 : Int32)) → ((p1 = (5 : Int32) → (ok_Mo_number (1 : Int64) (99 : Int64) o bu) ∧ True) ∧ (¬ (p1 = (5 : Int32)) → ((p1 = (6 : Int32) → (ok_Mo_number (1 : Int64) (20 : Int64) o bu) ∧ True) ∧ (¬ (p1 = (6 : Int32)) → ((p1 = (7 : Int32) → (ok_Mo_takes 18 o bu) ∧ True) ∧ (¬ (p1 = (7 : Int32)) → ((p1 = (8 : Int32) → (ok_Mo_number (0 : Int64) (20 : Int64) o bu) ∧ True) ∧ (¬ (p1 = (8 : Int32)) → True))))))))))))))))))
set_option maxRecDepth 100000 in
set_option maxHeartbeats 4000000 in
theorem c_Mo_first (l : Launch) (g : GX) (mo : Nat) (a : Nat → Nat) (o : IV) (now : LV) (dr : LV) (pa : LV) (sa : LV) (iS : IV) (bu : IV) (tq : IV) (rT : IV) (wT : IV) (sK : IV) (sA : IV) (sB : IV) (sE : IV) (oq : IV) (bS : IV) (bE : IV) (bL : IV) (rp : IV) (p1 : Int32) (hok : ok_Mo_first p1 o bu) : Met l y_Mo_first (wsY y_Mo_first b_Mo_first 2 (some .int)) rm_Mo_first (CP g [.ref mo, .int p1] (wMo g mo a o now dr pa sa iS bu tq rT wT sK sA sB sE oq bS bE bL rp)) (CI g (wMo g mo a o now dr pa sa iS bu tq rT wT sK sA sB sE oq bS bE bL rp) (fun u : IV => wMo g mo a u now dr pa sa iS bu tq rT wT sK sA sB sE oq bS bE bL rp) (sp_Mo_first p1 o bu)) 0 0 (inW (wMo g mo a o now dr pa sa iS bu tq rT wT sK sA sB sE oq bS bE bL rp)) := by
  refine Met.ofW (cc := b_Mo_first) (maxL := 2) (ret := (some .int)) pn_Mo rfl ?_
  intro p e s m args below meth c s₁ B hml hv
  obtain ⟨rfl, C, hP, hD, hS⟩ := enter "DecadeBridgeModel" rfl B hml hv
  obtain ⟨hx, hb, hr, hml, hown, hlk, hts, hK, hZo, hZ⟩ := id C
  refine entryW (lv := [(0, .ref mo), (1, .int p1)]) rfl (Nat.le_of_ble_eq_true rfl) (fun ls hl => ?_)
  obtain ⟨z, hz⟩ : ∃ z, z = sp_Mo_first p1 o bu := ⟨_, rfl⟩
  rw [← hz]
  unfold sp_Mo_first at hz
  unfold ok_Mo_first at hok
  refine lv_iload_n hx hb d_Mo_first_0 rfl (lv_at hl 1 rfl) ?_
  by_cases c18_0 : p1 = (0 : Int32)
  · have hz := hz.trans (if_pos c18_0)
    have hok := hok.1 c18_0
    refine lv_tableIn (x := p1) (off := 51) (tgt := 52) hx hb d_Mo_first_1 (by rw [c18_0]; decide) (by rw [c18_0]; decide) (by rw [c18_0]; rfl) (by decide) ?_
    refine lv_aload_n hx hb d_Mo_first_52 rfl (lv_at hl 0 rfl) ?_
    refine lv_lconst (v := 0) hx hb d_Mo_first_53 (by decide) ?_
    refine lv_ldc2 hx hb hown (hts _ qk_Mo_116) d_Mo_first_54 ?_
    have hs1 := hok.1
    have hok := hok.2
    have hB : SubW g (inW (wMo g mo a o now dr pa sa iS bu tq rT wT sK sA sB sE oq bS bE bL rp)) s (wMo g mo a o now dr pa sa iS bu tq rT wT sK sA sB sE oq bS bE bL rp) _ (List.range _) _ _ := (subF hP hD hS)
    refine goLF hB (run_v C mf_Mo_number qm_Mo_334 (c_Mo_number l g mo a o now dr pa sa iS bu tq rT wT sK sA sB sE oq bS bE bL rp (0 : Int64) (4 : Int64) hs1) rfl rfl ⟨Nat.le_of_ble_eq_true rfl, Nat.le_of_ble_eq_true rfl⟩ ⟨Nat.le_of_ble_eq_true rfl, Nat.le_of_ble_eq_true rfl⟩ hB rfl rfl hl rfl rfl (Nat.le_of_ble_eq_true rfl) d_Mo_first_57) (fun _ => rfl) (fun y2 ey2 H locs hP hD hS => ?_)
    have hP : va_P g.1 vwCl (wMo g mo a y2.2 now dr pa sa iS bu tq rT wT sK sA sB sE oq bS bE bL rp) H := hP
    have hD : va_D (inW (wMo g mo a o now dr pa sa iS bu tq rT wT sK sA sB sE oq bS bE bL rp)) (wMo g mo a y2.2 now dr pa sa iS bu tq rT wT sK sA sB sE oq bS bE bL rp) := hD
    have hz := lett_z hz ey2
    refine lv_l2i hx hb d_Mo_first_60 rfl ?_
    exact endI1 C hz hP hS d_Mo_first_61
  have hz := hz.trans (if_neg c18_0)
  have hok := hok.2 c18_0
  by_cases c18_1 : p1 = (1 : Int32)
  · have hz := hz.trans (if_pos c18_1)
    have hok := hok.1 c18_1
    refine lv_tableIn (x := p1) (off := 61) (tgt := 62) hx hb d_Mo_first_1 (by rw [c18_1]; decide) (by rw [c18_1]; decide) (by rw [c18_1]; rfl) (by decide) ?_
    refine lv_aload_n hx hb d_Mo_first_62 rfl (lv_at hl 0 rfl) ?_
    refine lv_lconst (v := 0) hx hb d_Mo_first_63 (by decide) ?_
    refine lv_ldc2 hx hb hown (hts _ qk_Mo_356) d_Mo_first_64 ?_
    have hs3 := hok.1
    have hok := hok.2
    have hB : SubW g (inW (wMo g mo a o now dr pa sa iS bu tq rT wT sK sA sB sE oq bS bE bL rp)) s (wMo g mo a o now dr pa sa iS bu tq rT wT sK sA sB sE oq bS bE bL rp) _ (List.range _) _ _ := (subF hP hD hS)
    refine goLF hB (run_v C mf_Mo_number qm_Mo_334 (c_Mo_number l g mo a o now dr pa sa iS bu tq rT wT sK sA sB sE oq bS bE bL rp (0 : Int64) (20000 : Int64) hs3) rfl rfl ⟨Nat.le_of_ble_eq_true rfl, Nat.le_of_ble_eq_true rfl⟩ ⟨Nat.le_of_ble_eq_true rfl, Nat.le_of_ble_eq_true rfl⟩ hB rfl rfl hl rfl rfl (Nat.le_of_ble_eq_true rfl) d_Mo_first_67) (fun _ => rfl) (fun y4 ey4 H locs hP hD hS => ?_)
    have hP : va_P g.1 vwCl (wMo g mo a y4.2 now dr pa sa iS bu tq rT wT sK sA sB sE oq bS bE bL rp) H := hP
    have hD : va_D (inW (wMo g mo a o now dr pa sa iS bu tq rT wT sK sA sB sE oq bS bE bL rp)) (wMo g mo a y4.2 now dr pa sa iS bu tq rT wT sK sA sB sE oq bS bE bL rp) := hD
    have hz := lett_z hz ey4
    refine lv_l2i hx hb d_Mo_first_70 rfl ?_
    exact endI1 C hz hP hS d_Mo_first_71
  have hz := hz.trans (if_neg c18_1)
  have hok := hok.2 c18_1
  by_cases c18_2 : p1 = (2 : Int32)
  · have hz := hz.trans (if_pos c18_2)
    have hok := hok.1 c18_2
    refine lv_tableIn (x := p1) (off := 71) (tgt := 72) hx hb d_Mo_first_1 (by rw [c18_2]; decide) (by rw [c18_2]; decide) (by rw [c18_2]; rfl) (by decide) ?_
    refine lv_aload_n hx hb d_Mo_first_72 rfl (lv_at hl 0 rfl) ?_
    refine lv_lconst (v := 0) hx hb d_Mo_first_73 (by decide) ?_
    refine lv_ldc2 hx hb hown (hts _ qk_Mo_358) d_Mo_first_74 ?_
    have hs5 := hok.1
    have hok := hok.2
    have hB : SubW g (inW (wMo g mo a o now dr pa sa iS bu tq rT wT sK sA sB sE oq bS bE bL rp)) s (wMo g mo a o now dr pa sa iS bu tq rT wT sK sA sB sE oq bS bE bL rp) _ (List.range _) _ _ := (subF hP hD hS)
    refine goLF hB (run_v C mf_Mo_number qm_Mo_334 (c_Mo_number l g mo a o now dr pa sa iS bu tq rT wT sK sA sB sE oq bS bE bL rp (0 : Int64) (9999 : Int64) hs5) rfl rfl ⟨Nat.le_of_ble_eq_true rfl, Nat.le_of_ble_eq_true rfl⟩ ⟨Nat.le_of_ble_eq_true rfl, Nat.le_of_ble_eq_true rfl⟩ hB rfl rfl hl rfl rfl (Nat.le_of_ble_eq_true rfl) d_Mo_first_77) (fun _ => rfl) (fun y6 ey6 H locs hP hD hS => ?_)
    have hP : va_P g.1 vwCl (wMo g mo a y6.2 now dr pa sa iS bu tq rT wT sK sA sB sE oq bS bE bL rp) H := hP
    have hD : va_D (inW (wMo g mo a o now dr pa sa iS bu tq rT wT sK sA sB sE oq bS bE bL rp)) (wMo g mo a y6.2 now dr pa sa iS bu tq rT wT sK sA sB sE oq bS bE bL rp) := hD
    have hz := lett_z hz ey6
    refine lv_l2i hx hb d_Mo_first_80 rfl ?_
    exact endI1 C hz hP hS d_Mo_first_81
  have hz := hz.trans (if_neg c18_2)
  have hok := hok.2 c18_2
  by_cases c18_3 : p1 = (3 : Int32)
  · have hz := hz.trans (if_pos c18_3)
    have hok := hok.1 c18_3
    refine lv_tableIn (x := p1) (off := 139) (tgt := 140) hx hb d_Mo_first_1 (by rw [c18_3]; decide) (by rw [c18_3]; decide) (by rw [c18_3]; rfl) (by decide) ?_
    refine lv_iconst (v := 0) hx hb d_Mo_first_140 (by decide) ?_
    exact endI1 C hz hP hS d_Mo_first_141
  have hz := hz.trans (if_neg c18_3)
  have hok := hok.2 c18_3
  by_cases c18_4 : p1 = (4 : Int32)
  · have hz := hz.trans (if_pos c18_4)
    have hok := hok.1 c18_4
    refine lv_tableIn (x := p1) (off := 81) (tgt := 82) hx hb d_Mo_first_1 (by rw [c18_4]; decide) (by rw [c18_4]; decide) (by rw [c18_4]; rfl) (by decide) ?_
    refine lv_aload_n hx hb d_Mo_first_82 rfl (lv_at hl 0 rfl) ?_
    refine lv_ldc2 hx hb hown (hts _ qk_Mo_100) d_Mo_first_83 ?_
    refine lv_ldc2 hx hb hown (hts _ qk_Mo_153) d_Mo_first_86 ?_
    have hs7 := hok.1
    have hok := hok.2
    have hB : SubW g (inW (wMo g mo a o now dr pa sa iS bu tq rT wT sK sA sB sE oq bS bE bL rp)) s (wMo g mo a o now dr pa sa iS bu tq rT wT sK sA sB sE oq bS bE bL rp) _ (List.range _) _ _ := (subF hP hD hS)
    refine goLF hB (run_v C mf_Mo_number qm_Mo_334 (c_Mo_number l g mo a o now dr pa sa iS bu tq rT wT sK sA sB sE oq bS bE bL rp (2 : Int64) (3 : Int64) hs7) rfl rfl ⟨Nat.le_of_ble_eq_true rfl, Nat.le_of_ble_eq_true rfl⟩ ⟨Nat.le_of_ble_eq_true rfl, Nat.le_of_ble_eq_true rfl⟩ hB rfl rfl hl rfl rfl (Nat.le_of_ble_eq_true rfl) d_Mo_first_89) (fun _ => rfl) (fun y8 ey8 H locs hP hD hS => ?_)
    have hP : va_P g.1 vwCl (wMo g mo a y8.2 now dr pa sa iS bu tq rT wT sK sA sB sE oq bS bE bL rp) H := hP
    have hD : va_D (inW (wMo g mo a o now dr pa sa iS bu tq rT wT sK sA sB sE oq bS bE bL rp)) (wMo g mo a y8.2 now dr pa sa iS bu tq rT wT sK sA sB sE oq bS bE bL rp) := hD
    have hz := lett_z hz ey8
    refine lv_l2i hx hb d_Mo_first_92 rfl ?_
    exact endI1 C hz hP hS d_Mo_first_93
  have hz := hz.trans (if_neg c18_4)
  have hok := hok.2 c18_4
  by_cases c18_5 : p1 = (5 : Int32)
  · have hz := hz.trans (if_pos c18_5)
    have hok := hok.1 c18_5
    refine lv_tableIn (x := p1) (off := 93) (tgt := 94) hx hb d_Mo_first_1 (by rw [c18_5]; decide) (by rw [c18_5]; decide) (by rw [c18_5]; rfl) (by decide) ?_
    refine lv_aload_n hx hb d_Mo_first_94 rfl (lv_at hl 0 rfl) ?_
    refine lv_lconst (v := 1) hx hb d_Mo_first_95 (by decide) ?_
    refine lv_ldc2 hx hb hown (hts _ qk_Mo_354) d_Mo_first_96 ?_
    have hs9 := hok.1
    have hok := hok.2
    have hB : SubW g (inW (wMo g mo a o now dr pa sa iS bu tq rT wT sK sA sB sE oq bS bE bL rp)) s (wMo g mo a o now dr pa sa iS bu tq rT wT sK sA sB sE oq bS bE bL rp) _ (List.range _) _ _ := (subF hP hD hS)
    refine goLF hB (run_v C mf_Mo_number qm_Mo_334 (c_Mo_number l g mo a o now dr pa sa iS bu tq rT wT sK sA sB sE oq bS bE bL rp (1 : Int64) (99 : Int64) hs9) rfl rfl ⟨Nat.le_of_ble_eq_true rfl, Nat.le_of_ble_eq_true rfl⟩ ⟨Nat.le_of_ble_eq_true rfl, Nat.le_of_ble_eq_true rfl⟩ hB rfl rfl hl rfl rfl (Nat.le_of_ble_eq_true rfl) d_Mo_first_99) (fun _ => rfl) (fun y10 ey10 H locs hP hD hS => ?_)
    have hP : va_P g.1 vwCl (wMo g mo a y10.2 now dr pa sa iS bu tq rT wT sK sA sB sE oq bS bE bL rp) H := hP
    have hD : va_D (inW (wMo g mo a o now dr pa sa iS bu tq rT wT sK sA sB sE oq bS bE bL rp)) (wMo g mo a y10.2 now dr pa sa iS bu tq rT wT sK sA sB sE oq bS bE bL rp) := hD
    have hz := lett_z hz ey10
    refine lv_l2i hx hb d_Mo_first_102 rfl ?_
    exact endI1 C hz hP hS d_Mo_first_103
  have hz := hz.trans (if_neg c18_5)
  have hok := hok.2 c18_5
  by_cases c18_6 : p1 = (6 : Int32)
  · have hz := hz.trans (if_pos c18_6)
    have hok := hok.1 c18_6
    refine lv_tableIn (x := p1) (off := 103) (tgt := 104) hx hb d_Mo_first_1 (by rw [c18_6]; decide) (by rw [c18_6]; decide) (by rw [c18_6]; rfl) (by decide) ?_
    refine lv_aload_n hx hb d_Mo_first_104 rfl (lv_at hl 0 rfl) ?_
    refine lv_lconst (v := 1) hx hb d_Mo_first_105 (by decide) ?_
    refine lv_ldc2 hx hb hown (hts _ qk_Mo_243) d_Mo_first_106 ?_
    have hs11 := hok.1
    have hok := hok.2
    have hB : SubW g (inW (wMo g mo a o now dr pa sa iS bu tq rT wT sK sA sB sE oq bS bE bL rp)) s (wMo g mo a o now dr pa sa iS bu tq rT wT sK sA sB sE oq bS bE bL rp) _ (List.range _) _ _ := (subF hP hD hS)
    refine goLF hB (run_v C mf_Mo_number qm_Mo_334 (c_Mo_number l g mo a o now dr pa sa iS bu tq rT wT sK sA sB sE oq bS bE bL rp (1 : Int64) (20 : Int64) hs11) rfl rfl ⟨Nat.le_of_ble_eq_true rfl, Nat.le_of_ble_eq_true rfl⟩ ⟨Nat.le_of_ble_eq_true rfl, Nat.le_of_ble_eq_true rfl⟩ hB rfl rfl hl rfl rfl (Nat.le_of_ble_eq_true rfl) d_Mo_first_109) (fun _ => rfl) (fun y12 ey12 H locs hP hD hS => ?_)
    have hP : va_P g.1 vwCl (wMo g mo a y12.2 now dr pa sa iS bu tq rT wT sK sA sB sE oq bS bE bL rp) H := hP
    have hD : va_D (inW (wMo g mo a o now dr pa sa iS bu tq rT wT sK sA sB sE oq bS bE bL rp)) (wMo g mo a y12.2 now dr pa sa iS bu tq rT wT sK sA sB sE oq bS bE bL rp) := hD
    have hz := lett_z hz ey12
    refine lv_l2i hx hb d_Mo_first_112 rfl ?_
    exact endI1 C hz hP hS d_Mo_first_113
  have hz := hz.trans (if_neg c18_6)
  have hok := hok.2 c18_6
  by_cases c18_7 : p1 = (7 : Int32)
  · have hz := hz.trans (if_pos c18_7)
    have hok := hok.1 c18_7
    refine lv_tableIn (x := p1) (off := 113) (tgt := 114) hx hb d_Mo_first_1 (by rw [c18_7]; decide) (by rw [c18_7]; decide) (by rw [c18_7]; rfl) (by decide) ?_
    refine lv_aload_n hx hb d_Mo_first_114 rfl (lv_at hl 0 rfl) ?_
    refine va_ldcwS hx hb hown (zRef hZo hZ ("DecadeBridgeModel", 506, 18) (by decide +kernel)) d_Mo_first_115 ?_
    have hs13 := hok.1
    have hok := hok.2
    have hB : SubW g (inW (wMo g mo a o now dr pa sa iS bu tq rT wT sK sA sB sE oq bS bE bL rp)) s (wMo g mo a o now dr pa sa iS bu tq rT wT sK sA sB sE oq bS bE bL rp) _ (List.range _) _ _ := (subF hP hD hS)
    refine goIF hB (run_v C mf_Mo_takes qm_Mo_508 (c_Mo_takes l g mo a o now dr pa sa iS bu tq rT wT sK sA sB sE oq bS bE bL rp 18 hs13) rfl rfl ⟨Nat.le_of_ble_eq_true rfl, Nat.le_of_ble_eq_true rfl⟩ ⟨Nat.le_of_ble_eq_true rfl, Nat.le_of_ble_eq_true rfl⟩ hB rfl rfl hl rfl rfl (Nat.le_of_ble_eq_true rfl) d_Mo_first_118) (fun _ => rfl) (fun y14 ey14 H locs hP hD hS => ?_)
    have hP : va_P g.1 vwCl (wMo g mo a y14.2 now dr pa sa iS bu tq rT wT sK sA sB sE oq bS bE bL rp) H := hP
    have hD : va_D (inW (wMo g mo a o now dr pa sa iS bu tq rT wT sK sA sB sE oq bS bE bL rp)) (wMo g mo a y14.2 now dr pa sa iS bu tq rT wT sK sA sB sE oq bS bE bL rp) := hD
    have hz := lett_z hz ey14
    refine lv_if_eq (tgt := 128) hx hb d_Mo_first_121 (by decide) (fun c15 => ?_) (fun c15 => ?_)
    · have hz := hz.trans (if_pos c15)
      refine lv_iconst (v := 0) hx hb d_Mo_first_128 (by decide) ?_
      exact endI1 C hz hP hS d_Mo_first_129
    · have hz := hz.trans (if_neg c15)
      refine lv_iconst (v := 1) hx hb d_Mo_first_124 (by decide) ?_
      refine lv_goto (tgt := 129) hx hb d_Mo_first_125 (by decide) ?_
      exact endI1 C hz hP hS d_Mo_first_129
  have hz := hz.trans (if_neg c18_7)
  have hok := hok.2 c18_7
  by_cases c18_8 : p1 = (8 : Int32)
  · have hz := hz.trans (if_pos c18_8)
    have hok := hok.1 c18_8
    refine lv_tableIn (x := p1) (off := 129) (tgt := 130) hx hb d_Mo_first_1 (by rw [c18_8]; decide) (by rw [c18_8]; decide) (by rw [c18_8]; rfl) (by decide) ?_
    refine lv_aload_n hx hb d_Mo_first_130 rfl (lv_at hl 0 rfl) ?_
    refine lv_lconst (v := 0) hx hb d_Mo_first_131 (by decide) ?_
    refine lv_ldc2 hx hb hown (hts _ qk_Mo_243) d_Mo_first_132 ?_
    have hs16 := hok.1
    have hok := hok.2
    have hB : SubW g (inW (wMo g mo a o now dr pa sa iS bu tq rT wT sK sA sB sE oq bS bE bL rp)) s (wMo g mo a o now dr pa sa iS bu tq rT wT sK sA sB sE oq bS bE bL rp) _ (List.range _) _ _ := (subF hP hD hS)
    refine goLF hB (run_v C mf_Mo_number qm_Mo_334 (c_Mo_number l g mo a o now dr pa sa iS bu tq rT wT sK sA sB sE oq bS bE bL rp (0 : Int64) (20 : Int64) hs16) rfl rfl ⟨Nat.le_of_ble_eq_true rfl, Nat.le_of_ble_eq_true rfl⟩ ⟨Nat.le_of_ble_eq_true rfl, Nat.le_of_ble_eq_true rfl⟩ hB rfl rfl hl rfl rfl (Nat.le_of_ble_eq_true rfl) d_Mo_first_135) (fun _ => rfl) (fun y17 ey17 H locs hP hD hS => ?_)
    have hP : va_P g.1 vwCl (wMo g mo a y17.2 now dr pa sa iS bu tq rT wT sK sA sB sE oq bS bE bL rp) H := hP
    have hD : va_D (inW (wMo g mo a o now dr pa sa iS bu tq rT wT sK sA sB sE oq bS bE bL rp)) (wMo g mo a y17.2 now dr pa sa iS bu tq rT wT sK sA sB sE oq bS bE bL rp) := hD
    have hz := lett_z hz ey17
    refine lv_l2i hx hb d_Mo_first_138 rfl ?_
    exact endI1 C hz hP hS d_Mo_first_139
  have hz := hz.trans (if_neg c18_8)
  have hok := hok.2 c18_8
  refine lv_tableOut (x := p1) (tgt := 140) hx hb d_Mo_first_1 (tswL (x := p1) (lo := 0) (hi := 8) 9 [(0 : Int32), (1 : Int32), (2 : Int32), (3 : Int32), (4 : Int32), (5 : Int32), (6 : Int32), (7 : Int32), (8 : Int32)] (by decide) (by decide) (List.forall_mem_cons.mpr ⟨c18_0, List.forall_mem_cons.mpr ⟨c18_1, List.forall_mem_cons.mpr ⟨c18_2, List.forall_mem_cons.mpr ⟨c18_3, List.forall_mem_cons.mpr ⟨c18_4, List.forall_mem_cons.mpr ⟨c18_5, List.forall_mem_cons.mpr ⟨c18_6, List.forall_mem_cons.mpr ⟨c18_7, List.forall_mem_cons.mpr ⟨c18_8, fun _ h => absurd h List.not_mem_nil⟩⟩⟩⟩⟩⟩⟩⟩⟩)) (by decide) ?_
  refine lv_iconst (v := 0) hx hb d_Mo_first_140 (by decide) ?_
  exact endI1 C hz hP hS d_Mo_first_141
abbrev rm_Mo_readStep : Room := { frames := 7, cells := 0, slots := 0, locals := 151 }
def HL_Mo_readStep_16 (p : Program) (l : Launch) (e : Env) (s : State) (m : MethodId) (args : Array Value) (below : List Frame) (meth : Method) (c : Code) (g : GX) (mo : Nat) (a : Nat → Nat) (ws0 : va_W) (o : IV) (now : LV) (dr : LV) (pa : LV) (sa : LV) (iS : IV) (bu : IV) (tq : IV) (rT : IV) (wT : IV) (sK : IV) (sA : IV) (sB : IV) (sE : IV) (oq : IV) (bS : IV) (bE : IV) (bL : IV) (rp : IV) (p1 : Int32) (y2 : Int32) (sp : Int32 → (Int32 × IV × IV × IV × IV × IV)) (ok : Int32 → Prop) : Prop := ∀ (t1p16 : Int32), ok t1p16 → ∀ z : (Int32 × IV × IV × IV × IV × IV), z = sp t1p16 → ∀ (H : Heap) (locs : List Loc) (ls : Array Slot), va_P g.1 vwCl (wMo g mo a o now dr pa sa iS bu tq rT wT sK sA sB sE oq bS bE bL rp) H → va_D (inW ws0) (wMo g mo a o now dr pa sa iS bu tq rT wT sK sA sB sE oq bS bE bL rp) → va_S (inW ws0) s.heap H locs → lv_has ls 4 [(0, .ref mo), (1, .int p1), (2, .int y2)] → W p l e rm_Mo_readStep s m args below meth c H locs 0 0 (MQ below (CI g ws0 (fun u : IV × IV × IV × IV × IV => wMo g mo a u.1 now dr pa sa iS bu tq rT wT u.2.1 u.2.2.1 u.2.2.2.1 u.2.2.2.2 oq bS bE bL rp) z) args s 0 0 (inW ws0)) (F0 m 16 ls [.int t1p16, .ref mo])
def HL_Mo_readStep_35 (p : Program) (l : Launch) (e : Env) (s : State) (m : MethodId) (args : Array Value) (below : List Frame) (meth : Method) (c : Code) (g : GX) (mo : Nat) (a : Nat → Nat) (ws0 : va_W) (y4 : IV) (now : LV) (dr : LV) (pa : LV) (sa : LV) (iS : IV) (bu : IV) (tq : IV) (rT : IV) (wT : IV) (sK : IV) (sA : IV) (sB : IV) (sE : IV) (oq : IV) (bS : IV) (bE : IV) (bL : IV) (rp : IV) (p1 : Int32) (y2 : Int32) (sp : Int32 → (Int32 × IV × IV × IV × IV × IV)) (ok : Int32 → Prop) : Prop := ∀ (t1p35 : Int32), ok t1p35 → ∀ z : (Int32 × IV × IV × IV × IV × IV), z = sp t1p35 → ∀ (H : Heap) (locs : List Loc) (ls : Array Slot), va_P g.1 vwCl (wMo g mo a y4 now dr pa sa iS bu tq rT wT sK sA sB sE oq bS bE bL rp) H → va_D (inW ws0) (wMo g mo a y4 now dr pa sa iS bu tq rT wT sK sA sB sE oq bS bE bL rp) → va_S (inW ws0) s.heap H locs → lv_has ls 4 [(0, .ref mo), (1, .int p1), (2, .int y2)] → W p l e rm_Mo_readStep s m args below meth c H locs 0 0 (MQ below (CI g ws0 (fun u : IV × IV × IV × IV × IV => wMo g mo a u.1 now dr pa sa iS bu tq rT wT u.2.1 u.2.2.1 u.2.2.2.1 u.2.2.2.2 oq bS bE bL rp) z) args s 0 0 (inW ws0)) (F0 m 35 ls [.int t1p35, .ref mo])
def HL_Mo_readStep_92 (p : Program) (l : Launch) (e : Env) (s : State) (m : MethodId) (args : Array Value) (below : List Frame) (meth : Method) (c : Code) (g : GX) (mo : Nat) (a : Nat → Nat) (ws0 : va_W) (now : LV) (dr : LV) (pa : LV) (sa : LV) (iS : IV) (bu : IV) (tq : IV) (rT : IV) (wT : IV) (sK_14 : IV) (sA : IV) (sB : IV) (sE : IV) (oq : IV) (bS : IV) (bE : IV) (bL : IV) (rp : IV) (p1 : Int32) (y2 : Int32) (v9 : Int32) (sp : IV → (Int32 × IV × IV × IV × IV × IV)) (ok : IV → Prop) : Prop := ∀ (op92 : IV), ok op92 → ∀ z : (Int32 × IV × IV × IV × IV × IV), z = sp op92 → ∀ (H : Heap) (locs : List Loc) (ls : Array Slot), va_P g.1 vwCl (wMo g mo a op92 now dr pa sa iS bu tq rT wT sK_14 sA sB sE oq bS bE bL rp) H → va_D (inW ws0) (wMo g mo a op92 now dr pa sa iS bu tq rT wT sK_14 sA sB sE oq bS bE bL rp) → va_S (inW ws0) s.heap H locs → lv_has ls 4 [(0, .ref mo), (1, .int p1), (2, .int y2), (3, .int v9)] → W p l e rm_Mo_readStep s m args below meth c H locs 0 0 (MQ below (CI g ws0 (fun u : IV × IV × IV × IV × IV => wMo g mo a u.1 now dr pa sa iS bu tq rT wT u.2.1 u.2.2.1 u.2.2.2.1 u.2.2.2.2 oq bS bE bL rp) z) args s 0 0 (inW ws0)) (F0 m 92 ls [])
def HL_Mo_readStep_125 (p : Program) (l : Launch) (e : Env) (s : State) (m : MethodId) (args : Array Value) (below : List Frame) (meth : Method) (c : Code) (g : GX) (mo : Nat) (a : Nat → Nat) (ws0 : va_W) (now : LV) (dr : LV) (pa : LV) (sa : LV) (iS : IV) (bu : IV) (tq : IV) (rT : IV) (wT : IV) (sK_14 : IV) (sA_22 : IV) (sB : IV) (sE : IV) (oq : IV) (bS : IV) (bE : IV) (bL : IV) (rp : IV) (p1 : Int32) (y2 : Int32) (v9 : Int32) (sp : Int32 → IV → (Int32 × IV × IV × IV × IV × IV)) (ok : Int32 → IV → Prop) : Prop := ∀ (t2p125 : Int32) (op125 : IV), ok t2p125 op125 → ∀ z : (Int32 × IV × IV × IV × IV × IV), z = sp t2p125 op125 → ∀ (H : Heap) (locs : List Loc) (ls : Array Slot), va_P g.1 vwCl (wMo g mo a op125 now dr pa sa iS bu tq rT wT sK_14 sA_22 sB sE oq bS bE bL rp) H → va_D (inW ws0) (wMo g mo a op125 now dr pa sa iS bu tq rT wT sK_14 sA_22 sB sE oq bS bE bL rp) → va_S (inW ws0) s.heap H locs → lv_has ls 4 [(0, .ref mo), (1, .int p1), (2, .int y2), (3, .int v9)] → W p l e rm_Mo_readStep s m args below meth c H locs 0 0 (MQ below (CI g ws0 (fun u : IV × IV × IV × IV × IV => wMo g mo a u.1 now dr pa sa iS bu tq rT wT u.2.1 u.2.2.1 u.2.2.2.1 u.2.2.2.2 oq bS bE bL rp) z) args s 0 0 (inW ws0)) (F0 m 125 ls [.int t2p125, .int v9, .ref (a 20)])
def HL_Mo_readStep_166 (p : Program) (l : Launch) (e : Env) (s : State) (m : MethodId) (args : Array Value) (below : List Frame) (meth : Method) (c : Code) (g : GX) (mo : Nat) (a : Nat → Nat) (ws0 : va_W) (y32 : IV) (now : LV) (dr : LV) (pa : LV) (sa : LV) (iS : IV) (bu : IV) (tq : IV) (rT : IV) (wT : IV) (sK_14 : IV) (sA_22 : IV) (sB_27 : IV) (sE_28 : IV) (oq : IV) (bS : IV) (bE : IV) (bL : IV) (rp : IV) (sp : Int32 → (Int32 × IV × IV × IV × IV × IV)) (ok : Int32 → Prop) : Prop := ∀ (t1p166 : Int32), ok t1p166 → ∀ z : (Int32 × IV × IV × IV × IV × IV), z = sp t1p166 → ∀ (H : Heap) (locs : List Loc) (ls : Array Slot), va_P g.1 vwCl (wMo g mo a y32 now dr pa sa iS bu tq rT wT sK_14 sA_22 sB_27 sE_28 oq bS bE bL rp) H → va_D (inW ws0) (wMo g mo a y32 now dr pa sa iS bu tq rT wT sK_14 sA_22 sB_27 sE_28 oq bS bE bL rp) → va_S (inW ws0) s.heap H locs → lv_has ls 4 [(0, .ref mo)] → W p l e rm_Mo_readStep s m args below meth c H locs 0 0 (MQ below (CI g ws0 (fun u : IV × IV × IV × IV × IV => wMo g mo a u.1 now dr pa sa iS bu tq rT wT u.2.1 u.2.2.1 u.2.2.2.1 u.2.2.2.2 oq bS bE bL rp) z) args s 0 0 (inW ws0)) (F0 m 166 ls [.int t1p166, .ref mo])
noncomputable def sp_Mo_readStep_166 (y32 : IV) (bu : IV) (sK_14 : IV) (sA_22 : IV) (sB_27 : IV) (sE_28 : IV)  (t1p166 : Int32) : Int32 × IV × IV × IV × IV × IV := lett (sp_Mo_must t1p166 (3 : Int32) y32) fun (y34 : IV) => lett (sp_Mo_goOn y34 bu) fun (y36 : IV) => lett (sp_Mo_good y36) fun (y37 : Int32) => (y37, (y36, sK_14, sA_22, sB_27, sE_28))
def ok_Mo_readStep_166 (y32 : IV) (bu : IV) (sK_14 : IV) (sA_22 : IV) (sB_27 : IV) (sE_28 : IV)   (t1p166 : Int32) : Prop := lett (sp_Mo_must t1p166 (3 : Int32) y32) fun (y34 : IV) => (ok_Mo_goOn y34 bu) ∧ lett (sp_Mo_goOn y34 bu) fun (y36 : IV) => lett (sp_Mo_good y36) fun (y37 : Int32) => (isB y37) ∧ True
set_option maxRecDepth 100000 in
set_option maxHeartbeats 4000000 in
theorem k_Mo_readStep_166 {p : Program} {l : Launch} {e : Env} {s : State} {m : MethodId} {args : Array Value} {below : List Frame} {meth : Method} {c : Code} {g : GX} {mo : Nat} {a : Nat → Nat} {ws0 : va_W} {y32 : IV} {now : LV} {dr : LV} {pa : LV} {sa : LV} {iS : IV} {bu : IV} {tq : IV} {rT : IV} {wT : IV} {sK_14 : IV} {sA_22 : IV} {sB_27 : IV} {sE_28 : IV} {oq : IV} {bS : IV} {bE : IV} {bL : IV} {rp : IV}  (C : Cx p s m args meth c (inW ws0) g "DecadeBridgeModel" b_Mo_readStep (some .boolean) 4)  : HL_Mo_readStep_166 p l e s m args below meth c g mo a ws0 y32 now dr pa sa iS bu tq rT wT sK_14 sA_22 sB_27 sE_28 oq bS bE bL rp (sp_Mo_readStep_166 y32 bu sK_14 sA_22 sB_27 sE_28 ) (ok_Mo_readStep_166 y32 bu sK_14 sA_22 sB_27 sE_28  ) := by
  intro t1p166 hok z hz H locs ls hP hD hS hl
  obtain ⟨hx, hb, hr, hml, hown, hlk, hts, hK, hZo, hZ⟩ := id C
  unfold sp_Mo_readStep_166 at hz
  unfold ok_Mo_readStep_166 at hok
  refine lv_iconst (v := 3) hx hb d_Mo_readStep_166 (by decide) ?_
  have hB : SubW g (inW ws0) s (wMo g mo a y32 now dr pa sa iS bu tq rT wT sK_14 sA_22 sB_27 sE_28 oq bS bE bL rp) _ (List.range _) _ _ := (subF hP hD hS)
  refine goVF hB (run_v C mf_Mo_must qm_Mo_314 (c_Mo_must l g mo a y32 now dr pa sa iS bu tq rT wT sK_14 sA_22 sB_27 sE_28 oq bS bE bL rp t1p166 (3 : Int32)) rfl rfl ⟨Nat.le_of_ble_eq_true rfl, Nat.le_of_ble_eq_true rfl⟩ ⟨Nat.le_of_ble_eq_true rfl, Nat.le_of_ble_eq_true rfl⟩ hB rfl rfl hl rfl rfl (Nat.le_of_ble_eq_true rfl) d_Mo_readStep_167) (fun _ => rfl) (fun y34 ey34 H locs hP hD hS => ?_)
  have hP : va_P g.1 vwCl (wMo g mo a y34 now dr pa sa iS bu tq rT wT sK_14 sA_22 sB_27 sE_28 oq bS bE bL rp) H := hP
  have hD : va_D (inW ws0) (wMo g mo a y34 now dr pa sa iS bu tq rT wT sK_14 sA_22 sB_27 sE_28 oq bS bE bL rp) := hD
  have hz := lett_z hz ey34
  have hok := lett_o hok ey34
  refine lv_aload_n hx hb d_Mo_readStep_170 rfl (lv_at hl 0 rfl) ?_
  have hs35 := hok.1
  have hok := hok.2
  have hB : SubW g (inW ws0) s (wMo g mo a y34 now dr pa sa iS bu tq rT wT sK_14 sA_22 sB_27 sE_28 oq bS bE bL rp) _ (List.range _) _ _ := (subF hP hD hS)
  refine goVF hB (run_v C mf_Mo_goOn qm_Mo_318 (c_Mo_goOn l g mo a y34 now dr pa sa iS bu tq rT wT sK_14 sA_22 sB_27 sE_28 oq bS bE bL rp hs35) rfl rfl ⟨Nat.le_of_ble_eq_true rfl, Nat.le_of_ble_eq_true rfl⟩ ⟨Nat.le_of_ble_eq_true rfl, Nat.le_of_ble_eq_true rfl⟩ hB rfl rfl hl rfl rfl (Nat.le_of_ble_eq_true rfl) d_Mo_readStep_171) (fun _ => rfl) (fun y36 ey36 H locs hP hD hS => ?_)
  have hP : va_P g.1 vwCl (wMo g mo a y36 now dr pa sa iS bu tq rT wT sK_14 sA_22 sB_27 sE_28 oq bS bE bL rp) H := hP
  have hD : va_D (inW ws0) (wMo g mo a y36 now dr pa sa iS bu tq rT wT sK_14 sA_22 sB_27 sE_28 oq bS bE bL rp) := hD
  have hz := lett_z hz ey36
  have hok := lett_o hok ey36
  refine lv_aload_n hx hb d_Mo_readStep_174 rfl (lv_at hl 0 rfl) ?_
  have hB : SubW g (inW ws0) s (wMo g mo a y36 now dr pa sa iS bu tq rT wT sK_14 sA_22 sB_27 sE_28 oq bS bE bL rp) _ (List.range _) _ _ := (subF hP hD hS)
  refine goI0 hB (run_v C mf_Mo_good qm_Mo_297 (c_Mo_good l g mo a y36 now dr pa sa iS bu tq rT wT sK_14 sA_22 sB_27 sE_28 oq bS bE bL rp) rfl rfl ⟨Nat.le_of_ble_eq_true rfl, Nat.le_of_ble_eq_true rfl⟩ ⟨Nat.le_of_ble_eq_true rfl, Nat.le_of_ble_eq_true rfl⟩ hB rfl rfl hl rfl rfl (Nat.le_of_ble_eq_true rfl) d_Mo_readStep_175) (fun y37 ey37 H locs hP hS => ?_)
  have hz := lett_z hz ey37
  have hok := lett_o hok ey37
  have hs38 := hok.1
  have hok := hok.2
  exact endZ1 C hz hP hS (isB_nar hs38) d_Mo_readStep_178
noncomputable def sp_Mo_readStep_125 (sB : IV) (v9 : Int32) (sE : IV) (y2 : Int32) (bu : IV) (p1 : Int32) (sK_14 : IV) (sA_22 : IV)  (t2p125 : Int32) (op125 : IV) : Int32 × IV × IV × IV × IV × IV := lett (upd sB v9.toNatClampNeg t2p125) fun (sB_27 : IV) => lett (upd sE v9.toNatClampNeg (op125 22)) fun (sE_28 : IV) => if (8 : Int32) ≤ y2 then (lett (sp_Mo_isSign (40 : Int32) op125 bu) fun (y31 : Int32) => lett (sp_Mo_must y31 (1 : Int32) op125) fun (y32 : IV) => if (2 : Int32) ≤ p1 then (sp_Mo_readStep_166 y32 bu sK_14 sA_22 sB_27 sE_28 (0 : Int32)) else (sp_Mo_readStep_166 y32 bu sK_14 sA_22 sB_27 sE_28 (1 : Int32))) else (((0 : Int32), (op125, sK_14, sA_22, sB_27, sE_28)))
def ok_Mo_readStep_125 (sB : IV) (v9 : Int32) (sE : IV) (y2 : Int32) (bu : IV) (p1 : Int32) (sK_14 : IV) (sA_22 : IV)   (t2p125 : Int32) (op125 : IV) : Prop := (vp_in v9 30) ∧ lett (upd sB v9.toNatClampNeg t2p125) fun (sB_27 : IV) => lett (upd sE v9.toNatClampNeg (op125 22)) fun (sE_28 : IV) => (((8 : Int32) ≤ y2 → (ok_Mo_isSign (40 : Int32) op125) ∧ lett (sp_Mo_isSign (40 : Int32) op125 bu) fun (y31 : Int32) => lett (sp_Mo_must y31 (1 : Int32) op125) fun (y32 : IV) => (((2 : Int32) ≤ p1 → ok_Mo_readStep_166 y32 bu sK_14 sA_22 sB_27 sE_28 (0 : Int32)) ∧ (¬ ((2 : Int32) ≤ p1) → ok_Mo_readStep_166 y32 bu sK_14 sA_22 sB_27 sE_28 (1 : Int32)))) ∧ (¬ ((8 : Int32) ≤ y2) → True))
set_option maxRecDepth 100000 in
set_option maxHeartbeats 4000000 in
theorem k_Mo_readStep_125 {p : Program} {l : Launch} {e : Env} {s : State} {m : MethodId} {args : Array Value} {below : List Frame} {meth : Method} {c : Code} {g : GX} {mo : Nat} {a : Nat → Nat} {ws0 : va_W} {now : LV} {dr : LV} {pa : LV} {sa : LV} {iS : IV} {bu : IV} {tq : IV} {rT : IV} {wT : IV} {sK_14 : IV} {sA_22 : IV} {sB : IV} {sE : IV} {oq : IV} {bS : IV} {bE : IV} {bL : IV} {rp : IV} {p1 : Int32} {y2 : Int32} {v9 : Int32}  (C : Cx p s m args meth c (inW ws0) g "DecadeBridgeModel" b_Mo_readStep (some .boolean) 4)  : HL_Mo_readStep_125 p l e s m args below meth c g mo a ws0 now dr pa sa iS bu tq rT wT sK_14 sA_22 sB sE oq bS bE bL rp p1 y2 v9 (sp_Mo_readStep_125 sB v9 sE y2 bu p1 sK_14 sA_22 ) (ok_Mo_readStep_125 sB v9 sE y2 bu p1 sK_14 sA_22  ) := by
  intro t2p125 op125 hok z hz H locs ls hP hD hS hl
  obtain ⟨hx, hb, hr, hml, hown, hlk, hts, hK, hZo, hZ⟩ := id C
  unfold sp_Mo_readStep_125 at hz
  unfold ok_Mo_readStep_125 at hok
  have hs26 := hok.1
  have hok := hok.2
  refine stI C hP hD hS 13 rfl hs26 rfl d_Mo_readStep_125 (fun sB_27 esB_27 H locs hP hD hS => ?_)
  have hP : va_P g.1 vwCl (wMo g mo a op125 now dr pa sa iS bu tq rT wT sK_14 sA_22 sB_27 sE oq bS bE bL rp) H := hP
  have hD : va_D (inW ws0) (wMo g mo a op125 now dr pa sa iS bu tq rT wT sK_14 sA_22 sB_27 sE oq bS bE bL rp) := hD
  have hz := lett_z hz esB_27
  have hok := lett_o hok esB_27
  refine lv_aload_n hx hb d_Mo_readStep_126 rfl (lv_at hl 0 rfl) ?_
  refine gf C hP 0 21 fkMo rfl (by decide) rfl qf_Mo_78 (gMo_21 _ _) d_Mo_readStep_127 ?_
  refine lv_iload_n hx hb d_Mo_readStep_130 rfl (lv_at hl 3 rfl) ?_
  refine lv_aload_n hx hb d_Mo_readStep_131 rfl (lv_at hl 0 rfl) ?_
  refine gf C hP 0 22 fkMo rfl (by decide) rfl qf_Mo_514 (gMo_22 _ _) d_Mo_readStep_132 ?_
  refine stI C hP hD hS 14 rfl hs26 rfl d_Mo_readStep_135 (fun sE_28 esE_28 H locs hP hD hS => ?_)
  have hP : va_P g.1 vwCl (wMo g mo a op125 now dr pa sa iS bu tq rT wT sK_14 sA_22 sB_27 sE_28 oq bS bE bL rp) H := hP
  have hD : va_D (inW ws0) (wMo g mo a op125 now dr pa sa iS bu tq rT wT sK_14 sA_22 sB_27 sE_28 oq bS bE bL rp) := hD
  have hz := lett_z hz esE_28
  have hok := lett_o hok esE_28
  refine lv_iload_n hx hb d_Mo_readStep_136 rfl (lv_at hl 2 rfl) ?_
  refine lv_bipush (v := 8) hx hb d_Mo_readStep_137 (by decide) ?_
  refine lv_icmp_ge (tgt := 144) hx hb d_Mo_readStep_139 (by decide) (fun c29 => ?_) (fun c29 => ?_)
  · have hz := hz.trans (if_pos c29)
    have hok := hok.1 c29
    refine lv_aload_n hx hb d_Mo_readStep_144 rfl (lv_at hl 0 rfl) ?_
    refine lv_aload_n hx hb d_Mo_readStep_145 rfl (lv_at hl 0 rfl) ?_
    refine lv_bipush (v := 40) hx hb d_Mo_readStep_146 (by decide) ?_
    have hs30 := hok.1
    have hok := hok.2
    have hB : SubW g (inW ws0) s (wMo g mo a op125 now dr pa sa iS bu tq rT wT sK_14 sA_22 sB_27 sE_28 oq bS bE bL rp) _ (List.range _) _ _ := (subF hP hD hS)
    refine goI0 hB (run_v C mf_Mo_isSign qm_Mo_311 (c_Mo_isSign l g mo a op125 now dr pa sa iS bu tq rT wT sK_14 sA_22 sB_27 sE_28 oq bS bE bL rp (40 : Int32) hs30) rfl rfl ⟨Nat.le_of_ble_eq_true rfl, Nat.le_of_ble_eq_true rfl⟩ ⟨Nat.le_of_ble_eq_true rfl, Nat.le_of_ble_eq_true rfl⟩ hB rfl rfl hl rfl rfl (Nat.le_of_ble_eq_true rfl) d_Mo_readStep_148) (fun y31 ey31 H locs hP hS => ?_)
    have hz := lett_z hz ey31
    have hok := lett_o hok ey31
    refine lv_iconst (v := 1) hx hb d_Mo_readStep_151 (by decide) ?_
    have hB : SubW g (inW ws0) s (wMo g mo a op125 now dr pa sa iS bu tq rT wT sK_14 sA_22 sB_27 sE_28 oq bS bE bL rp) _ (List.range _) _ _ := (subF hP hD hS)
    refine goVF hB (run_v C mf_Mo_must qm_Mo_314 (c_Mo_must l g mo a op125 now dr pa sa iS bu tq rT wT sK_14 sA_22 sB_27 sE_28 oq bS bE bL rp y31 (1 : Int32)) rfl rfl ⟨Nat.le_of_ble_eq_true rfl, Nat.le_of_ble_eq_true rfl⟩ ⟨Nat.le_of_ble_eq_true rfl, Nat.le_of_ble_eq_true rfl⟩ hB rfl rfl hl rfl rfl (Nat.le_of_ble_eq_true rfl) d_Mo_readStep_152) (fun _ => rfl) (fun y32 ey32 H locs hP hD hS => ?_)
    have hP : va_P g.1 vwCl (wMo g mo a y32 now dr pa sa iS bu tq rT wT sK_14 sA_22 sB_27 sE_28 oq bS bE bL rp) H := hP
    have hD : va_D (inW ws0) (wMo g mo a y32 now dr pa sa iS bu tq rT wT sK_14 sA_22 sB_27 sE_28 oq bS bE bL rp) := hD
    have hz := lett_z hz ey32
    have hok := lett_o hok ey32
    refine lv_aload_n hx hb d_Mo_readStep_155 rfl (lv_at hl 0 rfl) ?_
    refine lv_iload_n hx hb d_Mo_readStep_156 rfl (lv_at hl 1 rfl) ?_
    refine lv_iconst (v := 2) hx hb d_Mo_readStep_157 (by decide) ?_
    refine lv_icmp_ge (tgt := 165) hx hb d_Mo_readStep_158 (by decide) (fun c33 => ?_) (fun c33 => ?_)
    · have hz := hz.trans (if_pos c33)
      have hok := hok.1 c33
      refine lv_iconst (v := 0) hx hb d_Mo_readStep_165 (by decide) ?_
      exact k_Mo_readStep_166 C (0 : Int32) hok _ hz _ _ ls hP hD hS (lv_sub hl [0] rfl)
    · have hz := hz.trans (if_neg c33)
      have hok := hok.2 c33
      refine lv_iconst (v := 1) hx hb d_Mo_readStep_161 (by decide) ?_
      refine lv_goto (tgt := 166) hx hb d_Mo_readStep_162 (by decide) ?_
      exact k_Mo_readStep_166 C (1 : Int32) hok _ hz _ _ ls hP hD hS (lv_sub hl [0] rfl)
  · have hz := hz.trans (if_neg c29)
    refine lv_iconst (v := 0) hx hb d_Mo_readStep_142 (by decide) ?_
    exact endZ1 C hz hP hS rfl d_Mo_readStep_143
noncomputable def sp_Mo_readStep_92 (y2 : Int32) (bu : IV) (sA : IV) (v9 : Int32) (sB : IV) (sE : IV) (p1 : Int32) (sK_14 : IV)  (op92 : IV) : Int32 × IV × IV × IV × IV × IV := lett (sp_Mo_first y2 op92 bu) fun (y20 : Int32 × IV) => lett (upd sA v9.toNatClampNeg y20.1) fun (sA_22 : IV) => if y2 = 0 then (lett (sp_Mo_number (0 : Int64) (4 : Int64) y20.2 bu) fun (y25 : Int64 × IV) => sp_Mo_readStep_125 sB v9 sE y2 bu p1 sK_14 sA_22 y25.1.toInt32 y25.2) else (sp_Mo_readStep_125 sB v9 sE y2 bu p1 sK_14 sA_22 (0 : Int32) y20.2)
def ok_Mo_readStep_92 (y2 : Int32) (bu : IV) (sA : IV) (v9 : Int32) (sB : IV) (sE : IV) (p1 : Int32) (sK_14 : IV)   (op92 : IV) : Prop := (ok_Mo_first y2 op92 bu) ∧ lett (sp_Mo_first y2 op92 bu) fun (y20 : Int32 × IV) => (vp_in v9 30) ∧ lett (upd sA v9.toNatClampNeg y20.1) fun (sA_22 : IV) => ((y2 = 0 → (ok_Mo_number (0 : Int64) (4 : Int64) y20.2 bu) ∧ lett (sp_Mo_number (0 : Int64) (4 : Int64) y20.2 bu) fun (y25 : Int64 × IV) => ok_Mo_readStep_125 sB v9 sE y2 bu p1 sK_14 sA_22 y25.1.toInt32 y25.2) ∧ (¬ (y2 = 0) → ok_Mo_readStep_125 sB v9 sE y2 bu p1 sK_14 sA_22 (0 : Int32) y20.2))
set_option maxRecDepth 100000 in
set_option maxHeartbeats 4000000 in
theorem k_Mo_readStep_92 {p : Program} {l : Launch} {e : Env} {s : State} {m : MethodId} {args : Array Value} {below : List Frame} {meth : Method} {c : Code} {g : GX} {mo : Nat} {a : Nat → Nat} {ws0 : va_W} {now : LV} {dr : LV} {pa : LV} {sa : LV} {iS : IV} {bu : IV} {tq : IV} {rT : IV} {wT : IV} {sK_14 : IV} {sA : IV} {sB : IV} {sE : IV} {oq : IV} {bS : IV} {bE : IV} {bL : IV} {rp : IV} {p1 : Int32} {y2 : Int32} {v9 : Int32}  (C : Cx p s m args meth c (inW ws0) g "DecadeBridgeModel" b_Mo_readStep (some .boolean) 4)  : HL_Mo_readStep_92 p l e s m args below meth c g mo a ws0 now dr pa sa iS bu tq rT wT sK_14 sA sB sE oq bS bE bL rp p1 y2 v9 (sp_Mo_readStep_92 y2 bu sA v9 sB sE p1 sK_14 ) (ok_Mo_readStep_92 y2 bu sA v9 sB sE p1 sK_14  ) := by
  intro op92 hok z hz H locs ls hP hD hS hl
  obtain ⟨hx, hb, hr, hml, hown, hlk, hts, hK, hZo, hZ⟩ := id C
  unfold sp_Mo_readStep_92 at hz
  unfold ok_Mo_readStep_92 at hok
  refine lv_aload_n hx hb d_Mo_readStep_92 rfl (lv_at hl 0 rfl) ?_
  refine gf C hP 0 19 fkMo rfl (by decide) rfl qf_Mo_72 (gMo_19 _ _) d_Mo_readStep_93 ?_
  refine lv_iload_n hx hb d_Mo_readStep_96 rfl (lv_at hl 3 rfl) ?_
  refine lv_aload_n hx hb d_Mo_readStep_97 rfl (lv_at hl 0 rfl) ?_
  refine lv_iload_n hx hb d_Mo_readStep_98 rfl (lv_at hl 2 rfl) ?_
  have hs19 := hok.1
  have hok := hok.2
  have hB : SubW g (inW ws0) s (wMo g mo a op92 now dr pa sa iS bu tq rT wT sK_14 sA sB sE oq bS bE bL rp) _ (List.range _) _ _ := (subF hP hD hS)
  refine goIF hB (run_v C mf_Mo_first qm_Mo_519 (c_Mo_first l g mo a op92 now dr pa sa iS bu tq rT wT sK_14 sA sB sE oq bS bE bL rp y2 hs19) rfl rfl ⟨Nat.le_of_ble_eq_true rfl, Nat.le_of_ble_eq_true rfl⟩ ⟨Nat.le_of_ble_eq_true rfl, Nat.le_of_ble_eq_true rfl⟩ hB rfl rfl hl rfl rfl (Nat.le_of_ble_eq_true rfl) d_Mo_readStep_99) (fun _ => rfl) (fun y20 ey20 H locs hP hD hS => ?_)
  have hP : va_P g.1 vwCl (wMo g mo a y20.2 now dr pa sa iS bu tq rT wT sK_14 sA sB sE oq bS bE bL rp) H := hP
  have hD : va_D (inW ws0) (wMo g mo a y20.2 now dr pa sa iS bu tq rT wT sK_14 sA sB sE oq bS bE bL rp) := hD
  have hz := lett_z hz ey20
  have hok := lett_o hok ey20
  have hs21 := hok.1
  have hok := hok.2
  refine stI C hP hD hS 12 rfl hs21 rfl d_Mo_readStep_102 (fun sA_22 esA_22 H locs hP hD hS => ?_)
  have hP : va_P g.1 vwCl (wMo g mo a y20.2 now dr pa sa iS bu tq rT wT sK_14 sA_22 sB sE oq bS bE bL rp) H := hP
  have hD : va_D (inW ws0) (wMo g mo a y20.2 now dr pa sa iS bu tq rT wT sK_14 sA_22 sB sE oq bS bE bL rp) := hD
  have hz := lett_z hz esA_22
  have hok := lett_o hok esA_22
  refine lv_aload_n hx hb d_Mo_readStep_103 rfl (lv_at hl 0 rfl) ?_
  refine gf C hP 0 20 fkMo rfl (by decide) rfl qf_Mo_75 (gMo_20 _ _) d_Mo_readStep_104 ?_
  refine lv_iload_n hx hb d_Mo_readStep_107 rfl (lv_at hl 3 rfl) ?_
  refine lv_iload_n hx hb d_Mo_readStep_108 rfl (lv_at hl 2 rfl) ?_
  refine lv_if_ne (tgt := 124) hx hb d_Mo_readStep_109 (by decide) (fun c23 => ?_) (fun c23 => ?_)
  · have hz := hz.trans (if_neg c23)
    have hok := hok.2 c23
    refine lv_iconst (v := 0) hx hb d_Mo_readStep_124 (by decide) ?_
    exact k_Mo_readStep_125 C (0 : Int32) y20.2 hok _ hz _ _ ls hP hD hS hl
  · have hz := hz.trans (if_pos c23)
    have hok := hok.1 c23
    refine lv_aload_n hx hb d_Mo_readStep_112 rfl (lv_at hl 0 rfl) ?_
    refine lv_lconst (v := 0) hx hb d_Mo_readStep_113 (by decide) ?_
    refine lv_ldc2 hx hb hown (hts _ qk_Mo_116) d_Mo_readStep_114 ?_
    have hs24 := hok.1
    have hok := hok.2
    have hB : SubW g (inW ws0) s (wMo g mo a y20.2 now dr pa sa iS bu tq rT wT sK_14 sA_22 sB sE oq bS bE bL rp) _ (List.range _) _ _ := (subF hP hD hS)
    refine goLF hB (run_v C mf_Mo_number qm_Mo_334 (c_Mo_number l g mo a y20.2 now dr pa sa iS bu tq rT wT sK_14 sA_22 sB sE oq bS bE bL rp (0 : Int64) (4 : Int64) hs24) rfl rfl ⟨Nat.le_of_ble_eq_true rfl, Nat.le_of_ble_eq_true rfl⟩ ⟨Nat.le_of_ble_eq_true rfl, Nat.le_of_ble_eq_true rfl⟩ hB rfl rfl hl rfl rfl (Nat.le_of_ble_eq_true rfl) d_Mo_readStep_117) (fun _ => rfl) (fun y25 ey25 H locs hP hD hS => ?_)
    have hP : va_P g.1 vwCl (wMo g mo a y25.2 now dr pa sa iS bu tq rT wT sK_14 sA_22 sB sE oq bS bE bL rp) H := hP
    have hD : va_D (inW ws0) (wMo g mo a y25.2 now dr pa sa iS bu tq rT wT sK_14 sA_22 sB sE oq bS bE bL rp) := hD
    have hz := lett_z hz ey25
    have hok := lett_o hok ey25
    refine lv_l2i hx hb d_Mo_readStep_120 rfl ?_
    refine lv_goto (tgt := 125) hx hb d_Mo_readStep_121 (by decide) ?_
    exact k_Mo_readStep_125 C y25.1.toInt32 y25.2 hok _ hz _ _ ls hP hD hS hl
noncomputable def sp_Mo_readStep_35 (y4 : IV) (sK : IV) (sA : IV) (sB : IV) (sE : IV) (bu : IV) (y2 : Int32) (p1 : Int32)  (t1p35 : Int32) : Int32 × IV × IV × IV × IV × IV := lett (sp_Mo_must t1p35 (4 : Int32) y4) fun (y6 : IV) => lett (sp_Mo_good y6) fun (y7 : Int32) => if y7 = 0 then (((0 : Int32), (y6, sK, sA, sB, sE))) else (lett (y6 22) fun (v9 : Int32) => lett (upd y6 22 ((y6 22) + (1 : Int32))) fun (o_10 : IV) => lett (sp_Mo_goOn o_10 bu) fun (y12 : IV) => lett (upd sK v9.toNatClampNeg y2) fun (sK_14 : IV) => if y2 = (9 : Int32) then (lett (sp_Mo_takes 19 y12 bu) fun (y17 : Int32 × IV) => lett (sp_Mo_must y17.1 (1 : Int32) y17.2) fun (y18 : IV) => sp_Mo_readStep_92 y2 bu sA v9 sB sE p1 sK_14 y18) else (sp_Mo_readStep_92 y2 bu sA v9 sB sE p1 sK_14 y12))
def ok_Mo_readStep_35 (y4 : IV) (sK : IV) (sA : IV) (sB : IV) (sE : IV) (bu : IV) (y2 : Int32) (p1 : Int32)   (t1p35 : Int32) : Prop := lett (sp_Mo_must t1p35 (4 : Int32) y4) fun (y6 : IV) => lett (sp_Mo_good y6) fun (y7 : Int32) => ((y7 = 0 → True) ∧ (¬ (y7 = 0) → lett (y6 22) fun (v9 : Int32) => lett (upd y6 22 ((y6 22) + (1 : Int32))) fun (o_10 : IV) => (ok_Mo_goOn o_10 bu) ∧ lett (sp_Mo_goOn o_10 bu) fun (y12 : IV) => (vp_in v9 30) ∧ lett (upd sK v9.toNatClampNeg y2) fun (sK_14 : IV) => ((y2 = (9 : Int32) → (ok_Mo_takes 19 y12 bu) ∧ lett (sp_Mo_takes 19 y12 bu) fun (y17 : Int32 × IV) => lett (sp_Mo_must y17.1 (1 : Int32) y17.2) fun (y18 : IV) => ok_Mo_readStep_92 y2 bu sA v9 sB sE p1 sK_14 y18) ∧ (¬ (y2 = (9 : Int32)) → ok_Mo_readStep_92 y2 bu sA v9 sB sE p1 sK_14 y12))))
set_option maxRecDepth 100000 in
set_option maxHeartbeats 4000000 in
theorem k_Mo_readStep_35 {p : Program} {l : Launch} {e : Env} {s : State} {m : MethodId} {args : Array Value} {below : List Frame} {meth : Method} {c : Code} {g : GX} {mo : Nat} {a : Nat → Nat} {ws0 : va_W} {y4 : IV} {now : LV} {dr : LV} {pa : LV} {sa : LV} {iS : IV} {bu : IV} {tq : IV} {rT : IV} {wT : IV} {sK : IV} {sA : IV} {sB : IV} {sE : IV} {oq : IV} {bS : IV} {bE : IV} {bL : IV} {rp : IV} {p1 : Int32} {y2 : Int32}  (C : Cx p s m args meth c (inW ws0) g "DecadeBridgeModel" b_Mo_readStep (some .boolean) 4)  : HL_Mo_readStep_35 p l e s m args below meth c g mo a ws0 y4 now dr pa sa iS bu tq rT wT sK sA sB sE oq bS bE bL rp p1 y2 (sp_Mo_readStep_35 y4 sK sA sB sE bu y2 p1 ) (ok_Mo_readStep_35 y4 sK sA sB sE bu y2 p1  ) := by
  intro t1p35 hok z hz H locs ls hP hD hS hl
  obtain ⟨hx, hb, hr, hml, hown, hlk, hts, hK, hZo, hZ⟩ := id C
  unfold sp_Mo_readStep_35 at hz
  unfold ok_Mo_readStep_35 at hok
  refine lv_iconst (v := 4) hx hb d_Mo_readStep_35 (by decide) ?_
  have hB : SubW g (inW ws0) s (wMo g mo a y4 now dr pa sa iS bu tq rT wT sK sA sB sE oq bS bE bL rp) _ (List.range _) _ _ := (subF hP hD hS)
  refine goVF hB (run_v C mf_Mo_must qm_Mo_314 (c_Mo_must l g mo a y4 now dr pa sa iS bu tq rT wT sK sA sB sE oq bS bE bL rp t1p35 (4 : Int32)) rfl rfl ⟨Nat.le_of_ble_eq_true rfl, Nat.le_of_ble_eq_true rfl⟩ ⟨Nat.le_of_ble_eq_true rfl, Nat.le_of_ble_eq_true rfl⟩ hB rfl rfl hl rfl rfl (Nat.le_of_ble_eq_true rfl) d_Mo_readStep_36) (fun _ => rfl) (fun y6 ey6 H locs hP hD hS => ?_)
  have hP : va_P g.1 vwCl (wMo g mo a y6 now dr pa sa iS bu tq rT wT sK sA sB sE oq bS bE bL rp) H := hP
  have hD : va_D (inW ws0) (wMo g mo a y6 now dr pa sa iS bu tq rT wT sK sA sB sE oq bS bE bL rp) := hD
  have hz := lett_z hz ey6
  have hok := lett_o hok ey6
  refine lv_aload_n hx hb d_Mo_readStep_39 rfl (lv_at hl 0 rfl) ?_
  have hB : SubW g (inW ws0) s (wMo g mo a y6 now dr pa sa iS bu tq rT wT sK sA sB sE oq bS bE bL rp) _ (List.range _) _ _ := (subF hP hD hS)
  refine goI0 hB (run_v C mf_Mo_good qm_Mo_297 (c_Mo_good l g mo a y6 now dr pa sa iS bu tq rT wT sK sA sB sE oq bS bE bL rp) rfl rfl ⟨Nat.le_of_ble_eq_true rfl, Nat.le_of_ble_eq_true rfl⟩ ⟨Nat.le_of_ble_eq_true rfl, Nat.le_of_ble_eq_true rfl⟩ hB rfl rfl hl rfl rfl (Nat.le_of_ble_eq_true rfl) d_Mo_readStep_40) (fun y7 ey7 H locs hP hS => ?_)
  have hz := lett_z hz ey7
  have hok := lett_o hok ey7
  refine lv_if_ne (tgt := 48) hx hb d_Mo_readStep_43 (by decide) (fun c8 => ?_) (fun c8 => ?_)
  · have hz := hz.trans (if_neg c8)
    have hok := hok.2 c8
    refine lv_aload_n hx hb d_Mo_readStep_48 rfl (lv_at hl 0 rfl) ?_
    refine gf C hP 0 22 fkMo rfl (by decide) rfl qf_Mo_514 (gMo_22 _ _) d_Mo_readStep_49 ?_
    refine lv_topi (fun v9 ev9 => ?_)
    have hz := lett_z hz ev9
    have hok := lett_o hok ev9
    refine lv_istore_n (lv' := [(3, .int v9), (0, .ref mo), (1, .int p1), (2, .int y2)]) hx hb d_Mo_readStep_52 rfl hl (by decide) rfl (fun ls hl => ?_)
    refine lv_aload_n hx hb d_Mo_readStep_53 rfl (lv_at hl 1 rfl) ?_
    refine lv_dup hx hb d_Mo_readStep_54 rfl ?_
    refine gf C hP 0 22 fkMo rfl (by decide) rfl qf_Mo_514 (gMo_22 _ _) d_Mo_readStep_55 ?_
    refine lv_iconst (v := 1) hx hb d_Mo_readStep_58 (by decide) ?_
    refine lv_iadd hx hb d_Mo_readStep_59 ?_
    refine pfI C hP hD hS 0 22 fkMo rfl (by decide) rfl qf_Mo_514 rfl rfl rfl (Nat.le_of_ble_eq_true rfl) (ff := fun o => fMo a o) (sMo_22 _ _ _) d_Mo_readStep_60 (fun o_10 eo_10 H locs hP hD hS => ?_)
    have hP : va_P g.1 vwCl (wMo g mo a o_10 now dr pa sa iS bu tq rT wT sK sA sB sE oq bS bE bL rp) H := hP
    have hD : va_D (inW ws0) (wMo g mo a o_10 now dr pa sa iS bu tq rT wT sK sA sB sE oq bS bE bL rp) := hD
    have hz := lett_z hz eo_10
    have hok := lett_o hok eo_10
    refine lv_aload_n hx hb d_Mo_readStep_63 rfl (lv_at hl 1 rfl) ?_
    have hs11 := hok.1
    have hok := hok.2
    have hB : SubW g (inW ws0) s (wMo g mo a o_10 now dr pa sa iS bu tq rT wT sK sA sB sE oq bS bE bL rp) _ (List.range _) _ _ := (subF hP hD hS)
    refine goVF hB (run_v C mf_Mo_goOn qm_Mo_318 (c_Mo_goOn l g mo a o_10 now dr pa sa iS bu tq rT wT sK sA sB sE oq bS bE bL rp hs11) rfl rfl ⟨Nat.le_of_ble_eq_true rfl, Nat.le_of_ble_eq_true rfl⟩ ⟨Nat.le_of_ble_eq_true rfl, Nat.le_of_ble_eq_true rfl⟩ hB rfl rfl hl rfl rfl (Nat.le_of_ble_eq_true rfl) d_Mo_readStep_64) (fun _ => rfl) (fun y12 ey12 H locs hP hD hS => ?_)
    have hP : va_P g.1 vwCl (wMo g mo a y12 now dr pa sa iS bu tq rT wT sK sA sB sE oq bS bE bL rp) H := hP
    have hD : va_D (inW ws0) (wMo g mo a y12 now dr pa sa iS bu tq rT wT sK sA sB sE oq bS bE bL rp) := hD
    have hz := lett_z hz ey12
    have hok := lett_o hok ey12
    refine lv_aload_n hx hb d_Mo_readStep_67 rfl (lv_at hl 1 rfl) ?_
    refine gf C hP 0 18 fkMo rfl (by decide) rfl qf_Mo_69 (gMo_18 _ _) d_Mo_readStep_68 ?_
    refine lv_iload_n hx hb d_Mo_readStep_71 rfl (lv_at hl 0 rfl) ?_
    refine lv_iload_n hx hb d_Mo_readStep_72 rfl (lv_at hl 3 rfl) ?_
    have hs13 := hok.1
    have hok := hok.2
    refine stI C hP hD hS 11 rfl hs13 rfl d_Mo_readStep_73 (fun sK_14 esK_14 H locs hP hD hS => ?_)
    have hP : va_P g.1 vwCl (wMo g mo a y12 now dr pa sa iS bu tq rT wT sK_14 sA sB sE oq bS bE bL rp) H := hP
    have hD : va_D (inW ws0) (wMo g mo a y12 now dr pa sa iS bu tq rT wT sK_14 sA sB sE oq bS bE bL rp) := hD
    have hz := lett_z hz esK_14
    have hok := lett_o hok esK_14
    refine lv_iload_n hx hb d_Mo_readStep_74 rfl (lv_at hl 3 rfl) ?_
    refine lv_bipush (v := 9) hx hb d_Mo_readStep_75 (by decide) ?_
    refine lv_icmp_ne (tgt := 92) hx hb d_Mo_readStep_77 (by decide) (fun c15 => ?_) (fun c15 => ?_)
    · have hz := hz.trans (if_neg c15)
      have hok := hok.2 c15
      exact k_Mo_readStep_92 C y12 hok _ hz _ _ ls hP hD hS (lv_sub hl [1, 2, 3, 0] rfl)
    · have hz := hz.trans (if_pos c15)
      have hok := hok.1 c15
      refine lv_aload_n hx hb d_Mo_readStep_80 rfl (lv_at hl 1 rfl) ?_
      refine lv_aload_n hx hb d_Mo_readStep_81 rfl (lv_at hl 1 rfl) ?_
      refine va_ldcwS hx hb hown (zRef hZo hZ ("DecadeBridgeModel", 517, 19) (by decide +kernel)) d_Mo_readStep_82 ?_
      have hs16 := hok.1
      have hok := hok.2
      have hB : SubW g (inW ws0) s (wMo g mo a y12 now dr pa sa iS bu tq rT wT sK_14 sA sB sE oq bS bE bL rp) _ (List.range _) _ _ := (subF hP hD hS)
      refine goIF hB (run_v C mf_Mo_takes qm_Mo_508 (c_Mo_takes l g mo a y12 now dr pa sa iS bu tq rT wT sK_14 sA sB sE oq bS bE bL rp 19 hs16) rfl rfl ⟨Nat.le_of_ble_eq_true rfl, Nat.le_of_ble_eq_true rfl⟩ ⟨Nat.le_of_ble_eq_true rfl, Nat.le_of_ble_eq_true rfl⟩ hB rfl rfl hl rfl rfl (Nat.le_of_ble_eq_true rfl) d_Mo_readStep_85) (fun _ => rfl) (fun y17 ey17 H locs hP hD hS => ?_)
      have hP : va_P g.1 vwCl (wMo g mo a y17.2 now dr pa sa iS bu tq rT wT sK_14 sA sB sE oq bS bE bL rp) H := hP
      have hD : va_D (inW ws0) (wMo g mo a y17.2 now dr pa sa iS bu tq rT wT sK_14 sA sB sE oq bS bE bL rp) := hD
      have hz := lett_z hz ey17
      have hok := lett_o hok ey17
      refine lv_iconst (v := 1) hx hb d_Mo_readStep_88 (by decide) ?_
      have hB : SubW g (inW ws0) s (wMo g mo a y17.2 now dr pa sa iS bu tq rT wT sK_14 sA sB sE oq bS bE bL rp) _ (List.range _) _ _ := (subF hP hD hS)
      refine goVF hB (run_v C mf_Mo_must qm_Mo_314 (c_Mo_must l g mo a y17.2 now dr pa sa iS bu tq rT wT sK_14 sA sB sE oq bS bE bL rp y17.1 (1 : Int32)) rfl rfl ⟨Nat.le_of_ble_eq_true rfl, Nat.le_of_ble_eq_true rfl⟩ ⟨Nat.le_of_ble_eq_true rfl, Nat.le_of_ble_eq_true rfl⟩ hB rfl rfl hl rfl rfl (Nat.le_of_ble_eq_true rfl) d_Mo_readStep_89) (fun _ => rfl) (fun y18 ey18 H locs hP hD hS => ?_)
      have hP : va_P g.1 vwCl (wMo g mo a y18 now dr pa sa iS bu tq rT wT sK_14 sA sB sE oq bS bE bL rp) H := hP
      have hD : va_D (inW ws0) (wMo g mo a y18 now dr pa sa iS bu tq rT wT sK_14 sA sB sE oq bS bE bL rp) := hD
      have hz := lett_z hz ey18
      have hok := lett_o hok ey18
      exact k_Mo_readStep_92 C y18 hok _ hz _ _ ls hP hD hS (lv_sub hl [1, 2, 3, 0] rfl)
  · have hz := hz.trans (if_pos c8)
    refine lv_iconst (v := 0) hx hb d_Mo_readStep_46 (by decide) ?_
    exact endZ1 C hz hP hS rfl d_Mo_readStep_47
noncomputable def sp_Mo_readStep_16 (o : IV) (sK : IV) (sA : IV) (sB : IV) (sE : IV) (bu : IV) (y2 : Int32) (p1 : Int32)  (t1p16 : Int32) : Int32 × IV × IV × IV × IV × IV := lett (sp_Mo_must t1p16 (1 : Int32) o) fun (y4 : IV) => if (30 : Int32) ≤ (y4 22) then (sp_Mo_readStep_35 y4 sK sA sB sE bu y2 p1 (0 : Int32)) else (sp_Mo_readStep_35 y4 sK sA sB sE bu y2 p1 (1 : Int32))
def ok_Mo_readStep_16 (o : IV) (sK : IV) (sA : IV) (sB : IV) (sE : IV) (bu : IV) (y2 : Int32) (p1 : Int32)   (t1p16 : Int32) : Prop := lett (sp_Mo_must t1p16 (1 : Int32) o) fun (y4 : IV) => (((30 : Int32) ≤ (y4 22) → ok_Mo_readStep_35 y4 sK sA sB sE bu y2 p1 (0 : Int32)) ∧ (¬ ((30 : Int32) ≤ (y4 22)) → ok_Mo_readStep_35 y4 sK sA sB sE bu y2 p1 (1 : Int32)))
set_option maxRecDepth 100000 in
set_option maxHeartbeats 4000000 in
theorem k_Mo_readStep_16 {p : Program} {l : Launch} {e : Env} {s : State} {m : MethodId} {args : Array Value} {below : List Frame} {meth : Method} {c : Code} {g : GX} {mo : Nat} {a : Nat → Nat} {ws0 : va_W} {o : IV} {now : LV} {dr : LV} {pa : LV} {sa : LV} {iS : IV} {bu : IV} {tq : IV} {rT : IV} {wT : IV} {sK : IV} {sA : IV} {sB : IV} {sE : IV} {oq : IV} {bS : IV} {bE : IV} {bL : IV} {rp : IV} {p1 : Int32} {y2 : Int32}  (C : Cx p s m args meth c (inW ws0) g "DecadeBridgeModel" b_Mo_readStep (some .boolean) 4)  : HL_Mo_readStep_16 p l e s m args below meth c g mo a ws0 o now dr pa sa iS bu tq rT wT sK sA sB sE oq bS bE bL rp p1 y2 (sp_Mo_readStep_16 o sK sA sB sE bu y2 p1 ) (ok_Mo_readStep_16 o sK sA sB sE bu y2 p1  ) := by
  intro t1p16 hok z hz H locs ls hP hD hS hl
  obtain ⟨hx, hb, hr, hml, hown, hlk, hts, hK, hZo, hZ⟩ := id C
  unfold sp_Mo_readStep_16 at hz
  unfold ok_Mo_readStep_16 at hok
  refine lv_iconst (v := 1) hx hb d_Mo_readStep_16 (by decide) ?_
  have hB : SubW g (inW ws0) s (wMo g mo a o now dr pa sa iS bu tq rT wT sK sA sB sE oq bS bE bL rp) _ (List.range _) _ _ := (subF hP hD hS)
  refine goVF hB (run_v C mf_Mo_must qm_Mo_314 (c_Mo_must l g mo a o now dr pa sa iS bu tq rT wT sK sA sB sE oq bS bE bL rp t1p16 (1 : Int32)) rfl rfl ⟨Nat.le_of_ble_eq_true rfl, Nat.le_of_ble_eq_true rfl⟩ ⟨Nat.le_of_ble_eq_true rfl, Nat.le_of_ble_eq_true rfl⟩ hB rfl rfl hl rfl rfl (Nat.le_of_ble_eq_true rfl) d_Mo_readStep_17) (fun _ => rfl) (fun y4 ey4 H locs hP hD hS => ?_)
  have hP : va_P g.1 vwCl (wMo g mo a y4 now dr pa sa iS bu tq rT wT sK sA sB sE oq bS bE bL rp) H := hP
  have hD : va_D (inW ws0) (wMo g mo a y4 now dr pa sa iS bu tq rT wT sK sA sB sE oq bS bE bL rp) := hD
  have hz := lett_z hz ey4
  have hok := lett_o hok ey4
  refine lv_aload_n hx hb d_Mo_readStep_20 rfl (lv_at hl 0 rfl) ?_
  refine lv_aload_n hx hb d_Mo_readStep_21 rfl (lv_at hl 0 rfl) ?_
  refine gf C hP 0 22 fkMo rfl (by decide) rfl qf_Mo_514 (gMo_22 _ _) d_Mo_readStep_22 ?_
  refine lv_bipush (v := 30) hx hb d_Mo_readStep_25 (by decide) ?_
  refine lv_icmp_ge (tgt := 34) hx hb d_Mo_readStep_27 (by decide) (fun c5 => ?_) (fun c5 => ?_)
  · have hz := hz.trans (if_pos c5)
    have hok := hok.1 c5
    refine lv_iconst (v := 0) hx hb d_Mo_readStep_34 (by decide) ?_
    exact k_Mo_readStep_35 C (0 : Int32) hok _ hz _ _ ls hP hD hS hl
  · have hz := hz.trans (if_neg c5)
    have hok := hok.2 c5
    refine lv_iconst (v := 1) hx hb d_Mo_readStep_30 (by decide) ?_
    refine lv_goto (tgt := 35) hx hb d_Mo_readStep_31 (by decide) ?_
    exact k_Mo_readStep_35 C (1 : Int32) hok _ hz _ _ ls hP hD hS hl
noncomputable def sp_Mo_readStep (p1 : Int32) (o : IV) (bu : IV) (sK : IV) (sA : IV) (sB : IV) (sE : IV) : Int32 × IV × IV × IV × IV × IV := lett (sp_Mo_stepHere o bu) fun (y2 : Int32) => if y2 = (-1 : Int32) then (sp_Mo_readStep_16 o sK sA sB sE bu y2 p1 (0 : Int32)) else (sp_Mo_readStep_16 o sK sA sB sE bu y2 p1 (1 : Int32))
def ok_Mo_readStep (p1 : Int32) (o : IV) (bu : IV) (sK : IV) (sA : IV) (sB : IV) (sE : IV) : Prop := (ok_Mo_stepHere o bu) ∧ lett (sp_Mo_stepHere o bu) fun (y2 : Int32) => ((y2 = (-1 : Int32) → ok_Mo_readStep_16 o sK sA sB sE bu y2 p1 (0 : Int32)) ∧ (¬ (y2 = (-1 : Int32)) → ok_Mo_readStep_16 o sK sA sB sE bu y2 p1 (1 : Int32)))
set_option maxRecDepth 100000 in
set_option maxHeartbeats 4000000 in
theorem c_Mo_readStep (l : Launch) (g : GX) (mo : Nat) (a : Nat → Nat) (o : IV) (now : LV) (dr : LV) (pa : LV) (sa : LV) (iS : IV) (bu : IV) (tq : IV) (rT : IV) (wT : IV) (sK : IV) (sA : IV) (sB : IV) (sE : IV) (oq : IV) (bS : IV) (bE : IV) (bL : IV) (rp : IV) (p1 : Int32) (hok : ok_Mo_readStep p1 o bu sK sA sB sE) : Met l y_Mo_readStep (wsY y_Mo_readStep b_Mo_readStep 4 (some .boolean)) rm_Mo_readStep (CP g [.ref mo, .int p1] (wMo g mo a o now dr pa sa iS bu tq rT wT sK sA sB sE oq bS bE bL rp)) (CI g (wMo g mo a o now dr pa sa iS bu tq rT wT sK sA sB sE oq bS bE bL rp) (fun u : IV × IV × IV × IV × IV => wMo g mo a u.1 now dr pa sa iS bu tq rT wT u.2.1 u.2.2.1 u.2.2.2.1 u.2.2.2.2 oq bS bE bL rp) (sp_Mo_readStep p1 o bu sK sA sB sE)) 0 0 (inW (wMo g mo a o now dr pa sa iS bu tq rT wT sK sA sB sE oq bS bE bL rp)) := by
  refine Met.ofW (cc := b_Mo_readStep) (maxL := 4) (ret := (some .boolean)) pn_Mo rfl ?_
  intro p e s m args below meth c s₁ B hml hv
  obtain ⟨rfl, C, hP, hD, hS⟩ := enter "DecadeBridgeModel" rfl B hml hv
  obtain ⟨hx, hb, hr, hml, hown, hlk, hts, hK, hZo, hZ⟩ := id C
  refine entryW (lv := [(0, .ref mo), (1, .int p1)]) rfl (Nat.le_of_ble_eq_true rfl) (fun ls hl => ?_)
  obtain ⟨z, hz⟩ : ∃ z, z = sp_Mo_readStep p1 o bu sK sA sB sE := ⟨_, rfl⟩
  rw [← hz]
  unfold sp_Mo_readStep at hz
  unfold ok_Mo_readStep at hok
  refine lv_aload_n hx hb d_Mo_readStep_0 rfl (lv_at hl 0 rfl) ?_
  have hs1 := hok.1
  have hok := hok.2
  have hB : SubW g (inW (wMo g mo a o now dr pa sa iS bu tq rT wT sK sA sB sE oq bS bE bL rp)) s (wMo g mo a o now dr pa sa iS bu tq rT wT sK sA sB sE oq bS bE bL rp) _ (List.range _) _ _ := (subF hP hD hS)
  refine goI0 hB (run_v C mf_Mo_stepHere qm_Mo_511 (c_Mo_stepHere l g mo a o now dr pa sa iS bu tq rT wT sK sA sB sE oq bS bE bL rp hs1) rfl rfl ⟨Nat.le_of_ble_eq_true rfl, Nat.le_of_ble_eq_true rfl⟩ ⟨Nat.le_of_ble_eq_true rfl, Nat.le_of_ble_eq_true rfl⟩ hB rfl rfl hl rfl rfl (Nat.le_of_ble_eq_true rfl) d_Mo_readStep_1) (fun y2 ey2 H locs hP hS => ?_)
  have hz := lett_z hz ey2
  have hok := lett_o hok ey2
  refine lv_istore_n (lv' := [(2, .int y2), (0, .ref mo), (1, .int p1)]) hx hb d_Mo_readStep_4 rfl hl (by decide) rfl (fun ls hl => ?_)
  refine lv_aload_n hx hb d_Mo_readStep_5 rfl (lv_at hl 1 rfl) ?_
  refine lv_iload_n hx hb d_Mo_readStep_6 rfl (lv_at hl 0 rfl) ?_
  refine lv_iconst (v := -1) hx hb d_Mo_readStep_7 (by decide) ?_
  refine lv_icmp_eq (tgt := 15) hx hb d_Mo_readStep_8 (by decide) (fun c3 => ?_) (fun c3 => ?_)
  · have hz := hz.trans (if_pos c3)
    have hok := hok.1 c3
    refine lv_iconst (v := 0) hx hb d_Mo_readStep_15 (by decide) ?_
    exact k_Mo_readStep_16 C (0 : Int32) hok _ hz _ _ ls hP hD hS (lv_sub hl [1, 2, 0] rfl)
  · have hz := hz.trans (if_neg c3)
    have hok := hok.2 c3
    refine lv_iconst (v := 1) hx hb d_Mo_readStep_11 (by decide) ?_
    refine lv_goto (tgt := 16) hx hb d_Mo_readStep_12 (by decide) ?_
    exact k_Mo_readStep_16 C (1 : Int32) hok _ hz _ _ ls hP hD hS (lv_sub hl [1, 2, 0] rfl)
abbrev rm_Mo_readProtocol : Room := { frames := 8, cells := 0, slots := 0, locals := 174 }
def HL_Mo_readProtocol_7 (p : Program) (l : Launch) (e : Env) (s : State) (m : MethodId) (args : Array Value) (below : List Frame) (meth : Method) (c : Code) (g : GX) (mo : Nat) (a : Nat → Nat) (ws0 : va_W) (now : LV) (dr : LV) (pa : LV) (sa : LV) (iS : IV) (bu : IV) (tq : IV) (rT : IV) (wT : IV) (bS : IV) (bE : IV) (bL : IV) (rp : IV) (sp : Int32 → IV → IV → IV → IV → IV → IV → (IV × IV × IV × IV × IV × IV)) (ok : Int32 → IV → IV → IV → IV → IV → IV → Prop) : Prop := ∀ (x1p7 : Int32) (op7 : IV) (sKp7 : IV) (sAp7 : IV) (sBp7 : IV) (sEp7 : IV) (oqp7 : IV), ok x1p7 op7 sKp7 sAp7 sBp7 sEp7 oqp7 → ∀ z : (IV × IV × IV × IV × IV × IV), z = sp x1p7 op7 sKp7 sAp7 sBp7 sEp7 oqp7 → ∀ (H : Heap) (locs : List Loc) (ls : Array Slot), va_P g.1 vwCl (wMo g mo a op7 now dr pa sa iS bu tq rT wT sKp7 sAp7 sBp7 sEp7 oqp7 bS bE bL rp) H → va_D (inW ws0) (wMo g mo a op7 now dr pa sa iS bu tq rT wT sKp7 sAp7 sBp7 sEp7 oqp7 bS bE bL rp) → va_S (inW ws0) s.heap H locs → lv_has ls 2 [(0, .ref mo), (1, .int x1p7)] → W p l e rm_Mo_readProtocol s m args below meth c H locs 0 0 (MQ below (CV g ws0 (fun u : IV × IV × IV × IV × IV × IV => wMo g mo a u.1 now dr pa sa iS bu tq rT wT u.2.1 u.2.2.1 u.2.2.2.1 u.2.2.2.2.1 u.2.2.2.2.2 bS bE bL rp) z) args s 0 0 (inW ws0)) (F0 m 7 ls [])
def HL_Mo_readProtocol_25 (p : Program) (l : Launch) (e : Env) (s : State) (m : MethodId) (args : Array Value) (below : List Frame) (meth : Method) (c : Code) (g : GX) (mo : Nat) (a : Nat → Nat) (ws0 : va_W) (op7 : IV) (now : LV) (dr : LV) (pa : LV) (sa : LV) (iS : IV) (bu : IV) (tq : IV) (rT : IV) (wT : IV) (sKp7 : IV) (sAp7 : IV) (sBp7 : IV) (sEp7 : IV) (oqp7 : IV) (bS : IV) (bE : IV) (bL : IV) (rp : IV) (x1p7 : Int32) (sp : (IV × IV × IV × IV × IV × IV)) (ok : Prop) : Prop := ∀ (_ : Unit), ok → ∀ z : (IV × IV × IV × IV × IV × IV), z = sp → ∀ (H : Heap) (locs : List Loc) (ls : Array Slot), va_P g.1 vwCl (wMo g mo a op7 now dr pa sa iS bu tq rT wT sKp7 sAp7 sBp7 sEp7 oqp7 bS bE bL rp) H → va_D (inW ws0) (wMo g mo a op7 now dr pa sa iS bu tq rT wT sKp7 sAp7 sBp7 sEp7 oqp7 bS bE bL rp) → va_S (inW ws0) s.heap H locs → lv_has ls 2 [(0, .ref mo), (1, .int x1p7)] → W p l e rm_Mo_readProtocol s m args below meth c H locs 0 0 (MQ below (CV g ws0 (fun u : IV × IV × IV × IV × IV × IV => wMo g mo a u.1 now dr pa sa iS bu tq rT wT u.2.1 u.2.2.1 u.2.2.2.1 u.2.2.2.2.1 u.2.2.2.2.2 bS bE bL rp) z) args s 0 0 (inW ws0)) (F0 m 25 ls [])
def HL_Mo_readProtocol_69 (p : Program) (l : Launch) (e : Env) (s : State) (m : MethodId) (args : Array Value) (below : List Frame) (meth : Method) (c : Code) (g : GX) (mo : Nat) (a : Nat → Nat) (ws0 : va_W) (op7 : IV) (now : LV) (dr : LV) (pa : LV) (sa : LV) (iS : IV) (bu : IV) (tq : IV) (rT : IV) (wT : IV) (sKp7 : IV) (sAp7 : IV) (sBp7 : IV) (sEp7 : IV) (oqp7 : IV) (bS : IV) (bE : IV) (bL : IV) (rp : IV) (x1p7 : Int32) (sp : (IV × IV × IV × IV × IV × IV)) (ok : Prop) : Prop := ∀ (_ : Unit), ok → ∀ z : (IV × IV × IV × IV × IV × IV), z = sp → ∀ (H : Heap) (locs : List Loc) (ls : Array Slot), va_P g.1 vwCl (wMo g mo a op7 now dr pa sa iS bu tq rT wT sKp7 sAp7 sBp7 sEp7 oqp7 bS bE bL rp) H → va_D (inW ws0) (wMo g mo a op7 now dr pa sa iS bu tq rT wT sKp7 sAp7 sBp7 sEp7 oqp7 bS bE bL rp) → va_S (inW ws0) s.heap H locs → lv_has ls 2 [(0, .ref mo), (1, .int x1p7)] → W p l e rm_Mo_readProtocol s m args below meth c H locs 0 0 (MQ below (CV g ws0 (fun u : IV × IV × IV × IV × IV × IV => wMo g mo a u.1 now dr pa sa iS bu tq rT wT u.2.1 u.2.2.1 u.2.2.2.1 u.2.2.2.2.1 u.2.2.2.2.2 bS bE bL rp) z) args s 0 0 (inW ws0)) (F0 m 69 ls [])
noncomputable def sp_Mo_readProtocol_69 (x1p7 : Int32) (op7 : IV) (bu : IV) (sKp7 : IV) (sAp7 : IV) (sBp7 : IV) (sEp7 : IV) (oqp7 : IV) (r7 : Int32 → IV → IV → IV → IV → IV → IV → (IV × IV × IV × IV × IV × IV))  : IV × IV × IV × IV × IV × IV := lett (sp_Mo_readStep x1p7 op7 bu sKp7 sAp7 sBp7 sEp7) fun (y19 : Int32 × IV × IV × IV × IV × IV) => if y19.1 = 0 then (lett (sp_Mo_sign (59 : Int32) y19.2.1 bu) fun (y22 : IV) => r7 x1p7 y22 y19.2.2.1 y19.2.2.2.1 y19.2.2.2.2.1 y19.2.2.2.2.2 oqp7) else (lett (upd oqp7 x1p7.toNatClampNeg ((y19.2.1 22) - (1 : Int32))) fun (oq_24 : IV) => lett (x1p7 + (1 : Int32)) fun (v25 : Int32) => r7 v25 y19.2.1 y19.2.2.1 y19.2.2.2.1 y19.2.2.2.2.1 y19.2.2.2.2.2 oq_24)
def ok_Mo_readProtocol_69 (x1p7 : Int32) (op7 : IV) (bu : IV) (sKp7 : IV) (sAp7 : IV) (sBp7 : IV) (sEp7 : IV) (oqp7 : IV) (r7 : Int32 → IV → IV → IV → IV → IV → IV → (IV × IV × IV × IV × IV × IV)) (q7 : Int32 → IV → IV → IV → IV → IV → IV → Prop)  : Prop := (ok_Mo_readStep x1p7 op7 bu sKp7 sAp7 sBp7 sEp7) ∧ lett (sp_Mo_readStep x1p7 op7 bu sKp7 sAp7 sBp7 sEp7) fun (y19 : Int32 × IV × IV × IV × IV × IV) => ((y19.1 = 0 → (ok_Mo_sign (59 : Int32) y19.2.1 bu) ∧ lett (sp_Mo_sign (59 : Int32) y19.2.1 bu) fun (y22 : IV) => q7 x1p7 y22 y19.2.2.1 y19.2.2.2.1 y19.2.2.2.2.1 y19.2.2.2.2.2 oqp7) ∧ (¬ (y19.1 = 0) → (vp_in x1p7 2) ∧ lett (upd oqp7 x1p7.toNatClampNeg ((y19.2.1 22) - (1 : Int32))) fun (oq_24 : IV) => lett (x1p7 + (1 : Int32)) fun (v25 : Int32) => q7 v25 y19.2.1 y19.2.2.1 y19.2.2.2.1 y19.2.2.2.2.1 y19.2.2.2.2.2 oq_24))
set_option maxRecDepth 100000 in
set_option maxHeartbeats 4000000 in
theorem k_Mo_readProtocol_69 {p : Program} {l : Launch} {e : Env} {s : State} {m : MethodId} {args : Array Value} {below : List Frame} {meth : Method} {c : Code} {g : GX} {mo : Nat} {a : Nat → Nat} {ws0 : va_W} {op7 : IV} {now : LV} {dr : LV} {pa : LV} {sa : LV} {iS : IV} {bu : IV} {tq : IV} {rT : IV} {wT : IV} {sKp7 : IV} {sAp7 : IV} {sBp7 : IV} {sEp7 : IV} {oqp7 : IV} {bS : IV} {bE : IV} {bL : IV} {rp : IV} {x1p7 : Int32} {r7 : Int32 → IV → IV → IV → IV → IV → IV → (IV × IV × IV × IV × IV × IV)} {q7 : Int32 → IV → IV → IV → IV → IV → IV → Prop} (C : Cx p s m args meth c (inW ws0) g "DecadeBridgeModel" b_Mo_readProtocol none 2) (ih7 : HL_Mo_readProtocol_7 p l e s m args below meth c g mo a ws0 now dr pa sa iS bu tq rT wT bS bE bL rp r7 q7) : HL_Mo_readProtocol_69 p l e s m args below meth c g mo a ws0 op7 now dr pa sa iS bu tq rT wT sKp7 sAp7 sBp7 sEp7 oqp7 bS bE bL rp x1p7 (sp_Mo_readProtocol_69 x1p7 op7 bu sKp7 sAp7 sBp7 sEp7 oqp7 r7) (ok_Mo_readProtocol_69 x1p7 op7 bu sKp7 sAp7 sBp7 sEp7 oqp7 r7 q7) := by
  intro _ hok z hz H locs ls hP hD hS hl
  obtain ⟨hx, hb, hr, hml, hown, hlk, hts, hK, hZo, hZ⟩ := id C
  unfold sp_Mo_readProtocol_69 at hz
  unfold ok_Mo_readProtocol_69 at hok
  refine lv_aload_n hx hb d_Mo_readProtocol_69 rfl (lv_at hl 0 rfl) ?_
  refine lv_iload_n hx hb d_Mo_readProtocol_70 rfl (lv_at hl 1 rfl) ?_
  have hs18 := hok.1
  have hok := hok.2
  have hB : SubW g (inW ws0) s (wMo g mo a op7 now dr pa sa iS bu tq rT wT sKp7 sAp7 sBp7 sEp7 oqp7 bS bE bL rp) _ (List.range _) _ _ := (subF hP hD hS)
  refine goIF hB (run_v C mf_Mo_readStep qm_Mo_525 (c_Mo_readStep l g mo a op7 now dr pa sa iS bu tq rT wT sKp7 sAp7 sBp7 sEp7 oqp7 bS bE bL rp x1p7 hs18) rfl rfl ⟨Nat.le_of_ble_eq_true rfl, Nat.le_of_ble_eq_true rfl⟩ ⟨Nat.le_of_ble_eq_true rfl, Nat.le_of_ble_eq_true rfl⟩ hB rfl rfl hl rfl rfl (Nat.le_of_ble_eq_true rfl) d_Mo_readProtocol_71) (fun _ => rfl) (fun y19 ey19 H locs hP hD hS => ?_)
  have hP : va_P g.1 vwCl (wMo g mo a y19.2.1 now dr pa sa iS bu tq rT wT y19.2.2.1 y19.2.2.2.1 y19.2.2.2.2.1 y19.2.2.2.2.2 oqp7 bS bE bL rp) H := hP
  have hD : va_D (inW ws0) (wMo g mo a y19.2.1 now dr pa sa iS bu tq rT wT y19.2.2.1 y19.2.2.2.1 y19.2.2.2.2.1 y19.2.2.2.2.2 oqp7 bS bE bL rp) := hD
  have hz := lett_z hz ey19
  have hok := lett_o hok ey19
  refine lv_if_eq (tgt := 95) hx hb d_Mo_readProtocol_74 (by decide) (fun c20 => ?_) (fun c20 => ?_)
  · have hz := hz.trans (if_pos c20)
    have hok := hok.1 c20
    refine lv_aload_n hx hb d_Mo_readProtocol_95 rfl (lv_at hl 0 rfl) ?_
    refine lv_bipush (v := 59) hx hb d_Mo_readProtocol_96 (by decide) ?_
    have hs21 := hok.1
    have hok := hok.2
    have hB : SubW g (inW ws0) s (wMo g mo a y19.2.1 now dr pa sa iS bu tq rT wT y19.2.2.1 y19.2.2.2.1 y19.2.2.2.2.1 y19.2.2.2.2.2 oqp7 bS bE bL rp) _ (List.range _) _ _ := (subF hP hD hS)
    refine goVF hB (run_v C mf_Mo_sign qm_Mo_522 (c_Mo_sign l g mo a y19.2.1 now dr pa sa iS bu tq rT wT y19.2.2.1 y19.2.2.2.1 y19.2.2.2.2.1 y19.2.2.2.2.2 oqp7 bS bE bL rp (59 : Int32) hs21) rfl rfl ⟨Nat.le_of_ble_eq_true rfl, Nat.le_of_ble_eq_true rfl⟩ ⟨Nat.le_of_ble_eq_true rfl, Nat.le_of_ble_eq_true rfl⟩ hB rfl rfl hl rfl rfl (Nat.le_of_ble_eq_true rfl) d_Mo_readProtocol_98) (fun _ => rfl) (fun y22 ey22 H locs hP hD hS => ?_)
    have hP : va_P g.1 vwCl (wMo g mo a y22 now dr pa sa iS bu tq rT wT y19.2.2.1 y19.2.2.2.1 y19.2.2.2.2.1 y19.2.2.2.2.2 oqp7 bS bE bL rp) H := hP
    have hD : va_D (inW ws0) (wMo g mo a y22 now dr pa sa iS bu tq rT wT y19.2.2.1 y19.2.2.2.1 y19.2.2.2.2.1 y19.2.2.2.2.2 oqp7 bS bE bL rp) := hD
    have hz := lett_z hz ey22
    have hok := lett_o hok ey22
    refine lv_goto (tgt := 7) hx hb d_Mo_readProtocol_101 (by decide) ?_
    exact ih7 x1p7 y22 y19.2.2.1 y19.2.2.2.1 y19.2.2.2.2.1 y19.2.2.2.2.2 oqp7 hok _ hz _ _ ls hP hD hS hl
  · have hz := hz.trans (if_neg c20)
    have hok := hok.2 c20
    refine lv_aload_n hx hb d_Mo_readProtocol_77 rfl (lv_at hl 0 rfl) ?_
    refine gf C hP 0 23 fkMo rfl (by decide) rfl qf_Mo_81 (gMo_23 _ _) d_Mo_readProtocol_78 ?_
    refine lv_iload_n hx hb d_Mo_readProtocol_81 rfl (lv_at hl 1 rfl) ?_
    refine lv_aload_n hx hb d_Mo_readProtocol_82 rfl (lv_at hl 0 rfl) ?_
    refine gf C hP 0 22 fkMo rfl (by decide) rfl qf_Mo_514 (gMo_22 _ _) d_Mo_readProtocol_83 ?_
    refine lv_iconst (v := 1) hx hb d_Mo_readProtocol_86 (by decide) ?_
    refine lv_isub hx hb d_Mo_readProtocol_87 ?_
    have hs23 := hok.1
    have hok := hok.2
    refine stI C hP hD hS 15 rfl hs23 rfl d_Mo_readProtocol_88 (fun oq_24 eoq_24 H locs hP hD hS => ?_)
    have hP : va_P g.1 vwCl (wMo g mo a y19.2.1 now dr pa sa iS bu tq rT wT y19.2.2.1 y19.2.2.2.1 y19.2.2.2.2.1 y19.2.2.2.2.2 oq_24 bS bE bL rp) H := hP
    have hD : va_D (inW ws0) (wMo g mo a y19.2.1 now dr pa sa iS bu tq rT wT y19.2.2.1 y19.2.2.2.1 y19.2.2.2.2.1 y19.2.2.2.2.2 oq_24 bS bE bL rp) := hD
    have hz := lett_z hz eoq_24
    have hok := lett_o hok eoq_24
    obtain ⟨v25, ev25⟩ : ∃ y : Int32, y = x1p7 + (1 : Int32) := ⟨_, rfl⟩
    have hz := lett_z hz ev25
    have hok := lett_o hok ev25
    refine lv_iinc (v := v25) (lv' := [(1, .int v25), (0, .ref mo)]) hx hb d_Mo_readProtocol_89 hl (k := 1) rfl (by rw [ev25]; rfl) (by decide) rfl (fun ls hl => ?_)
    refine lv_goto (tgt := 7) hx hb d_Mo_readProtocol_92 (by decide) ?_
    exact ih7 v25 y19.2.1 y19.2.2.1 y19.2.2.2.1 y19.2.2.2.2.1 y19.2.2.2.2.2 oq_24 hok _ hz _ _ ls hP hD hS (lv_sub hl [1, 0] rfl)
noncomputable def sp_Mo_readProtocol_25 (x1p7 : Int32) (op7 : IV) (bu : IV) (sKp7 : IV) (sAp7 : IV) (sBp7 : IV) (sEp7 : IV) (oqp7 : IV) (r7 : Int32 → IV → IV → IV → IV → IV → IV → (IV × IV × IV × IV × IV × IV))  : IV × IV × IV × IV × IV × IV := if x1p7 ≤ 0 then (sp_Mo_readProtocol_69 x1p7 op7 bu sKp7 sAp7 sBp7 sEp7 oqp7 r7) else (lett (sp_Mo_isSign (41 : Int32) op7 bu) fun (y8 : Int32) => if y8 = 0 then (sp_Mo_readProtocol_69 x1p7 op7 bu sKp7 sAp7 sBp7 sEp7 oqp7 r7) else (lett (x1p7 + (-1 : Int32)) fun (v10 : Int32) => lett (upd sEp7 (oqp7 v10.toNatClampNeg).toNatClampNeg (op7 22)) fun (sE_13 : IV) => lett (sp_Mo_goOn op7 bu) fun (y15 : IV) => lett (sp_Mo_sign (59 : Int32) y15 bu) fun (y17 : IV) => r7 v10 y17 sKp7 sAp7 sBp7 sE_13 oqp7))
def ok_Mo_readProtocol_25 (x1p7 : Int32) (op7 : IV) (bu : IV) (sKp7 : IV) (sAp7 : IV) (sBp7 : IV) (sEp7 : IV) (oqp7 : IV) (r7 : Int32 → IV → IV → IV → IV → IV → IV → (IV × IV × IV × IV × IV × IV)) (q7 : Int32 → IV → IV → IV → IV → IV → IV → Prop)  : Prop := ((x1p7 ≤ 0 → ok_Mo_readProtocol_69 x1p7 op7 bu sKp7 sAp7 sBp7 sEp7 oqp7 r7 q7) ∧ (¬ (x1p7 ≤ 0) → (ok_Mo_isSign (41 : Int32) op7) ∧ lett (sp_Mo_isSign (41 : Int32) op7 bu) fun (y8 : Int32) => ((y8 = 0 → ok_Mo_readProtocol_69 x1p7 op7 bu sKp7 sAp7 sBp7 sEp7 oqp7 r7 q7) ∧ (¬ (y8 = 0) → lett (x1p7 + (-1 : Int32)) fun (v10 : Int32) => (vp_in v10 2) ∧ (vp_in (oqp7 v10.toNatClampNeg) 30) ∧ lett (upd sEp7 (oqp7 v10.toNatClampNeg).toNatClampNeg (op7 22)) fun (sE_13 : IV) => (ok_Mo_goOn op7 bu) ∧ lett (sp_Mo_goOn op7 bu) fun (y15 : IV) => (ok_Mo_sign (59 : Int32) y15 bu) ∧ lett (sp_Mo_sign (59 : Int32) y15 bu) fun (y17 : IV) => q7 v10 y17 sKp7 sAp7 sBp7 sE_13 oqp7))))
set_option maxRecDepth 100000 in
set_option maxHeartbeats 4000000 in
theorem k_Mo_readProtocol_25 {p : Program} {l : Launch} {e : Env} {s : State} {m : MethodId} {args : Array Value} {below : List Frame} {meth : Method} {c : Code} {g : GX} {mo : Nat} {a : Nat → Nat} {ws0 : va_W} {op7 : IV} {now : LV} {dr : LV} {pa : LV} {sa : LV} {iS : IV} {bu : IV} {tq : IV} {rT : IV} {wT : IV} {sKp7 : IV} {sAp7 : IV} {sBp7 : IV} {sEp7 : IV} {oqp7 : IV} {bS : IV} {bE : IV} {bL : IV} {rp : IV} {x1p7 : Int32} {r7 : Int32 → IV → IV → IV → IV → IV → IV → (IV × IV × IV × IV × IV × IV)} {q7 : Int32 → IV → IV → IV → IV → IV → IV → Prop} (C : Cx p s m args meth c (inW ws0) g "DecadeBridgeModel" b_Mo_readProtocol none 2) (ih7 : HL_Mo_readProtocol_7 p l e s m args below meth c g mo a ws0 now dr pa sa iS bu tq rT wT bS bE bL rp r7 q7) : HL_Mo_readProtocol_25 p l e s m args below meth c g mo a ws0 op7 now dr pa sa iS bu tq rT wT sKp7 sAp7 sBp7 sEp7 oqp7 bS bE bL rp x1p7 (sp_Mo_readProtocol_25 x1p7 op7 bu sKp7 sAp7 sBp7 sEp7 oqp7 r7) (ok_Mo_readProtocol_25 x1p7 op7 bu sKp7 sAp7 sBp7 sEp7 oqp7 r7 q7) := by
  intro _ hok z hz H locs ls hP hD hS hl
  obtain ⟨hx, hb, hr, hml, hown, hlk, hts, hK, hZo, hZ⟩ := id C
  unfold sp_Mo_readProtocol_25 at hz
  unfold ok_Mo_readProtocol_25 at hok
  refine lv_iload_n hx hb d_Mo_readProtocol_25 rfl (lv_at hl 1 rfl) ?_
  refine lv_if_le (tgt := 69) hx hb d_Mo_readProtocol_26 (by decide) (fun c6 => ?_) (fun c6 => ?_)
  · have hz := hz.trans (if_pos c6)
    have hok := hok.1 c6
    exact k_Mo_readProtocol_69 C ih7 () hok _ hz _ _ ls hP hD hS hl
  · have hz := hz.trans (if_neg c6)
    have hok := hok.2 c6
    refine lv_aload_n hx hb d_Mo_readProtocol_29 rfl (lv_at hl 0 rfl) ?_
    refine lv_bipush (v := 41) hx hb d_Mo_readProtocol_30 (by decide) ?_
    have hs7 := hok.1
    have hok := hok.2
    have hB : SubW g (inW ws0) s (wMo g mo a op7 now dr pa sa iS bu tq rT wT sKp7 sAp7 sBp7 sEp7 oqp7 bS bE bL rp) _ (List.range _) _ _ := (subF hP hD hS)
    refine goI0 hB (run_v C mf_Mo_isSign qm_Mo_311 (c_Mo_isSign l g mo a op7 now dr pa sa iS bu tq rT wT sKp7 sAp7 sBp7 sEp7 oqp7 bS bE bL rp (41 : Int32) hs7) rfl rfl ⟨Nat.le_of_ble_eq_true rfl, Nat.le_of_ble_eq_true rfl⟩ ⟨Nat.le_of_ble_eq_true rfl, Nat.le_of_ble_eq_true rfl⟩ hB rfl rfl hl rfl rfl (Nat.le_of_ble_eq_true rfl) d_Mo_readProtocol_32) (fun y8 ey8 H locs hP hS => ?_)
    have hz := lett_z hz ey8
    have hok := lett_o hok ey8
    refine lv_if_eq (tgt := 69) hx hb d_Mo_readProtocol_35 (by decide) (fun c9 => ?_) (fun c9 => ?_)
    · have hz := hz.trans (if_pos c9)
      have hok := hok.1 c9
      exact k_Mo_readProtocol_69 C ih7 () hok _ hz _ _ ls hP hD hS hl
    · have hz := hz.trans (if_neg c9)
      have hok := hok.2 c9
      obtain ⟨v10, ev10⟩ : ∃ y : Int32, y = x1p7 + (-1 : Int32) := ⟨_, rfl⟩
      have hz := lett_z hz ev10
      have hok := lett_o hok ev10
      refine lv_iinc (v := v10) (lv' := [(1, .int v10), (0, .ref mo)]) hx hb d_Mo_readProtocol_38 hl (k := 1) rfl (by rw [ev10]; rfl) (by decide) rfl (fun ls hl => ?_)
      refine lv_aload_n hx hb d_Mo_readProtocol_41 rfl (lv_at hl 1 rfl) ?_
      refine gf C hP 0 21 fkMo rfl (by decide) rfl qf_Mo_78 (gMo_21 _ _) d_Mo_readProtocol_42 ?_
      refine lv_aload_n hx hb d_Mo_readProtocol_45 rfl (lv_at hl 1 rfl) ?_
      refine gf C hP 0 23 fkMo rfl (by decide) rfl qf_Mo_81 (gMo_23 _ _) d_Mo_readProtocol_46 ?_
      refine lv_iload_n hx hb d_Mo_readProtocol_49 rfl (lv_at hl 0 rfl) ?_
      have hs11 := hok.1
      have hok := hok.2
      refine ldI C hP 15 rfl hs11 rfl d_Mo_readProtocol_50 ?_
      refine lv_aload_n hx hb d_Mo_readProtocol_51 rfl (lv_at hl 1 rfl) ?_
      refine gf C hP 0 22 fkMo rfl (by decide) rfl qf_Mo_514 (gMo_22 _ _) d_Mo_readProtocol_52 ?_
      have hs12 := hok.1
      have hok := hok.2
      refine stI C hP hD hS 14 rfl hs12 rfl d_Mo_readProtocol_55 (fun sE_13 esE_13 H locs hP hD hS => ?_)
      have hP : va_P g.1 vwCl (wMo g mo a op7 now dr pa sa iS bu tq rT wT sKp7 sAp7 sBp7 sE_13 oqp7 bS bE bL rp) H := hP
      have hD : va_D (inW ws0) (wMo g mo a op7 now dr pa sa iS bu tq rT wT sKp7 sAp7 sBp7 sE_13 oqp7 bS bE bL rp) := hD
      have hz := lett_z hz esE_13
      have hok := lett_o hok esE_13
      refine lv_aload_n hx hb d_Mo_readProtocol_56 rfl (lv_at hl 1 rfl) ?_
      have hs14 := hok.1
      have hok := hok.2
      have hB : SubW g (inW ws0) s (wMo g mo a op7 now dr pa sa iS bu tq rT wT sKp7 sAp7 sBp7 sE_13 oqp7 bS bE bL rp) _ (List.range _) _ _ := (subF hP hD hS)
      refine goVF hB (run_v C mf_Mo_goOn qm_Mo_318 (c_Mo_goOn l g mo a op7 now dr pa sa iS bu tq rT wT sKp7 sAp7 sBp7 sE_13 oqp7 bS bE bL rp hs14) rfl rfl ⟨Nat.le_of_ble_eq_true rfl, Nat.le_of_ble_eq_true rfl⟩ ⟨Nat.le_of_ble_eq_true rfl, Nat.le_of_ble_eq_true rfl⟩ hB rfl rfl hl rfl rfl (Nat.le_of_ble_eq_true rfl) d_Mo_readProtocol_57) (fun _ => rfl) (fun y15 ey15 H locs hP hD hS => ?_)
      have hP : va_P g.1 vwCl (wMo g mo a y15 now dr pa sa iS bu tq rT wT sKp7 sAp7 sBp7 sE_13 oqp7 bS bE bL rp) H := hP
      have hD : va_D (inW ws0) (wMo g mo a y15 now dr pa sa iS bu tq rT wT sKp7 sAp7 sBp7 sE_13 oqp7 bS bE bL rp) := hD
      have hz := lett_z hz ey15
      have hok := lett_o hok ey15
      refine lv_aload_n hx hb d_Mo_readProtocol_60 rfl (lv_at hl 1 rfl) ?_
      refine lv_bipush (v := 59) hx hb d_Mo_readProtocol_61 (by decide) ?_
      have hs16 := hok.1
      have hok := hok.2
      have hB : SubW g (inW ws0) s (wMo g mo a y15 now dr pa sa iS bu tq rT wT sKp7 sAp7 sBp7 sE_13 oqp7 bS bE bL rp) _ (List.range _) _ _ := (subF hP hD hS)
      refine goVF hB (run_v C mf_Mo_sign qm_Mo_522 (c_Mo_sign l g mo a y15 now dr pa sa iS bu tq rT wT sKp7 sAp7 sBp7 sE_13 oqp7 bS bE bL rp (59 : Int32) hs16) rfl rfl ⟨Nat.le_of_ble_eq_true rfl, Nat.le_of_ble_eq_true rfl⟩ ⟨Nat.le_of_ble_eq_true rfl, Nat.le_of_ble_eq_true rfl⟩ hB rfl rfl hl rfl rfl (Nat.le_of_ble_eq_true rfl) d_Mo_readProtocol_63) (fun _ => rfl) (fun y17 ey17 H locs hP hD hS => ?_)
      have hP : va_P g.1 vwCl (wMo g mo a y17 now dr pa sa iS bu tq rT wT sKp7 sAp7 sBp7 sE_13 oqp7 bS bE bL rp) H := hP
      have hD : va_D (inW ws0) (wMo g mo a y17 now dr pa sa iS bu tq rT wT sKp7 sAp7 sBp7 sE_13 oqp7 bS bE bL rp) := hD
      have hz := lett_z hz ey17
      have hok := lett_o hok ey17
      refine lv_goto (tgt := 7) hx hb d_Mo_readProtocol_66 (by decide) ?_
      exact ih7 v10 y17 sKp7 sAp7 sBp7 sE_13 oqp7 hok _ hz _ _ ls hP hD hS (lv_sub hl [1, 0] rfl)
noncomputable def bd_Mo_readProtocol_7 (bu : IV) (r7 : Int32 → IV → IV → IV → IV → IV → IV → (IV × IV × IV × IV × IV × IV)) (x1p7 : Int32) (op7 : IV) (sKp7 : IV) (sAp7 : IV) (sBp7 : IV) (sEp7 : IV) (oqp7 : IV) : IV × IV × IV × IV × IV × IV := lett (sp_Mo_good op7) fun (y2 : Int32) => if y2 = 0 then ((op7, sKp7, sAp7, sBp7, sEp7, oqp7)) else (if 0 < x1p7 then (sp_Mo_readProtocol_25 x1p7 op7 bu sKp7 sAp7 sBp7 sEp7 oqp7 r7) else (if (op7 11) = 0 then ((op7, sKp7, sAp7, sBp7, sEp7, oqp7)) else (sp_Mo_readProtocol_25 x1p7 op7 bu sKp7 sAp7 sBp7 sEp7 oqp7 r7)))
def okb_Mo_readProtocol_7 (bu : IV) (r7 : Int32 → IV → IV → IV → IV → IV → IV → (IV × IV × IV × IV × IV × IV)) (q7 : Int32 → IV → IV → IV → IV → IV → IV → Prop) (x1p7 : Int32) (op7 : IV) (sKp7 : IV) (sAp7 : IV) (sBp7 : IV) (sEp7 : IV) (oqp7 : IV) : Prop := lett (sp_Mo_good op7) fun (y2 : Int32) => ((y2 = 0 → True) ∧ (¬ (y2 = 0) → ((0 < x1p7 → ok_Mo_readProtocol_25 x1p7 op7 bu sKp7 sAp7 sBp7 sEp7 oqp7 r7 q7) ∧ (¬ (0 < x1p7) → (((op7 11) = 0 → True) ∧ (¬ ((op7 11) = 0) → ok_Mo_readProtocol_25 x1p7 op7 bu sKp7 sAp7 sBp7 sEp7 oqp7 r7 q7))))))
noncomputable def sp_Mo_readProtocol_7 (bu : IV)  : Nat → Int32 → IV → IV → IV → IV → IV → IV → (IV × IV × IV × IV × IV × IV)
  | 0 => fun _ _ _ _ _ _ _ => default
  | f + 1 => bd_Mo_readProtocol_7 bu  (sp_Mo_readProtocol_7 bu  f)
def ok_Mo_readProtocol_7 (bu : IV)   : Nat → Int32 → IV → IV → IV → IV → IV → IV → Prop
  | 0 => fun _ _ _ _ _ _ _ => False
  | f + 1 => okb_Mo_readProtocol_7 bu  (sp_Mo_readProtocol_7 bu  f)  (ok_Mo_readProtocol_7 bu   f)
set_option maxRecDepth 100000 in
set_option maxHeartbeats 4000000 in
theorem kb_Mo_readProtocol_7 {p : Program} {l : Launch} {e : Env} {s : State} {m : MethodId} {args : Array Value} {below : List Frame} {meth : Method} {c : Code} {g : GX} {mo : Nat} {a : Nat → Nat} {ws0 : va_W} {now : LV} {dr : LV} {pa : LV} {sa : LV} {iS : IV} {bu : IV} {tq : IV} {rT : IV} {wT : IV} {bS : IV} {bE : IV} {bL : IV} {rp : IV}  (C : Cx p s m args meth c (inW ws0) g "DecadeBridgeModel" b_Mo_readProtocol none 2) {r7 : Int32 → IV → IV → IV → IV → IV → IV → (IV × IV × IV × IV × IV × IV)} {q7 : Int32 → IV → IV → IV → IV → IV → IV → Prop}  (ih7 : HL_Mo_readProtocol_7 p l e s m args below meth c g mo a ws0 now dr pa sa iS bu tq rT wT bS bE bL rp r7 q7) : HL_Mo_readProtocol_7 p l e s m args below meth c g mo a ws0 now dr pa sa iS bu tq rT wT bS bE bL rp (bd_Mo_readProtocol_7 bu  r7) (okb_Mo_readProtocol_7 bu  r7  q7) := by
  intro x1p7 op7 sKp7 sAp7 sBp7 sEp7 oqp7 hok z hz H locs ls hP hD hS hl
  obtain ⟨hx, hb, hr, hml, hown, hlk, hts, hK, hZo, hZ⟩ := id C
  unfold bd_Mo_readProtocol_7 at hz
  unfold okb_Mo_readProtocol_7 at hok
  refine lv_aload_n hx hb d_Mo_readProtocol_7 rfl (lv_at hl 0 rfl) ?_
  have hB : SubW g (inW ws0) s (wMo g mo a op7 now dr pa sa iS bu tq rT wT sKp7 sAp7 sBp7 sEp7 oqp7 bS bE bL rp) _ (List.range _) _ _ := (subF hP hD hS)
  refine goI0 hB (run_v C mf_Mo_good qm_Mo_297 (c_Mo_good l g mo a op7 now dr pa sa iS bu tq rT wT sKp7 sAp7 sBp7 sEp7 oqp7 bS bE bL rp) rfl rfl ⟨Nat.le_of_ble_eq_true rfl, Nat.le_of_ble_eq_true rfl⟩ ⟨Nat.le_of_ble_eq_true rfl, Nat.le_of_ble_eq_true rfl⟩ hB rfl rfl hl rfl rfl (Nat.le_of_ble_eq_true rfl) d_Mo_readProtocol_8) (fun y2 ey2 H locs hP hS => ?_)
  have hz := lett_z hz ey2
  have hok := lett_o hok ey2
  refine lv_if_eq (tgt := 104) hx hb d_Mo_readProtocol_11 (by decide) (fun c3 => ?_) (fun c3 => ?_)
  · have hz := hz.trans (if_pos c3)
    exact endV C hz hP hS d_Mo_readProtocol_104
  · have hz := hz.trans (if_neg c3)
    have hok := hok.2 c3
    refine lv_iload_n hx hb d_Mo_readProtocol_14 rfl (lv_at hl 1 rfl) ?_
    refine lv_if_gt (tgt := 25) hx hb d_Mo_readProtocol_15 (by decide) (fun c4 => ?_) (fun c4 => ?_)
    · have hz := hz.trans (if_pos c4)
      have hok := hok.1 c4
      exact k_Mo_readProtocol_25 C ih7 () hok _ hz _ _ ls hP hD hS hl
    · have hz := hz.trans (if_neg c4)
      have hok := hok.2 c4
      refine lv_aload_n hx hb d_Mo_readProtocol_18 rfl (lv_at hl 0 rfl) ?_
      refine gf C hP 0 11 fkMo rfl (by decide) rfl qf_Mo_288 (gMo_11 _ _) d_Mo_readProtocol_19 ?_
      refine lv_if_eq (tgt := 104) hx hb d_Mo_readProtocol_22 (by decide) (fun c5 => ?_) (fun c5 => ?_)
      · have hz := hz.trans (if_pos c5)
        exact endV C hz hP hS d_Mo_readProtocol_104
      · have hz := hz.trans (if_neg c5)
        have hok := hok.2 c5
        exact k_Mo_readProtocol_25 C ih7 () hok _ hz _ _ ls hP hD hS hl
theorem k_Mo_readProtocol_7 {p : Program} {l : Launch} {e : Env} {s : State} {m : MethodId} {args : Array Value} {below : List Frame} {meth : Method} {c : Code} {g : GX} {mo : Nat} {a : Nat → Nat} {ws0 : va_W} {now : LV} {dr : LV} {pa : LV} {sa : LV} {iS : IV} {bu : IV} {tq : IV} {rT : IV} {wT : IV} {bS : IV} {bE : IV} {bL : IV} {rp : IV}  (C : Cx p s m args meth c (inW ws0) g "DecadeBridgeModel" b_Mo_readProtocol none 2) (f : Nat)  : HL_Mo_readProtocol_7 p l e s m args below meth c g mo a ws0 now dr pa sa iS bu tq rT wT bS bE bL rp (sp_Mo_readProtocol_7 bu  f) (ok_Mo_readProtocol_7 bu   f) := by
  induction f with
  | zero => intro x1p7 op7 sKp7 sAp7 sBp7 sEp7 oqp7 hok; exact False.elim hok
  | succ f ih => exact kb_Mo_readProtocol_7 C  ih
noncomputable def sp_Mo_readProtocol (o : IV) (bu : IV) (sK : IV) (sA : IV) (sB : IV) (sE : IV) (oq : IV) : IV × IV × IV × IV × IV × IV := lett (upd o 22 (0 : Int32)) fun (o_1 : IV) => sp_Mo_readProtocol_7 bu big (0 : Int32) o_1 sK sA sB sE oq
def ok_Mo_readProtocol (o : IV) (bu : IV) (sK : IV) (sA : IV) (sB : IV) (sE : IV) (oq : IV) : Prop := lett (upd o 22 (0 : Int32)) fun (o_1 : IV) => ok_Mo_readProtocol_7 bu big (0 : Int32) o_1 sK sA sB sE oq
set_option maxRecDepth 100000 in
set_option maxHeartbeats 4000000 in
theorem c_Mo_readProtocol (l : Launch) (g : GX) (mo : Nat) (a : Nat → Nat) (o : IV) (now : LV) (dr : LV) (pa : LV) (sa : LV) (iS : IV) (bu : IV) (tq : IV) (rT : IV) (wT : IV) (sK : IV) (sA : IV) (sB : IV) (sE : IV) (oq : IV) (bS : IV) (bE : IV) (bL : IV) (rp : IV)  (hok : ok_Mo_readProtocol o bu sK sA sB sE oq) : Met l y_Mo_readProtocol (wsY y_Mo_readProtocol b_Mo_readProtocol 2 none) rm_Mo_readProtocol (CP g [.ref mo] (wMo g mo a o now dr pa sa iS bu tq rT wT sK sA sB sE oq bS bE bL rp)) (CV g (wMo g mo a o now dr pa sa iS bu tq rT wT sK sA sB sE oq bS bE bL rp) (fun u : IV × IV × IV × IV × IV × IV => wMo g mo a u.1 now dr pa sa iS bu tq rT wT u.2.1 u.2.2.1 u.2.2.2.1 u.2.2.2.2.1 u.2.2.2.2.2 bS bE bL rp) (sp_Mo_readProtocol o bu sK sA sB sE oq)) 0 0 (inW (wMo g mo a o now dr pa sa iS bu tq rT wT sK sA sB sE oq bS bE bL rp)) := by
  refine Met.ofW (cc := b_Mo_readProtocol) (maxL := 2) (ret := none) pn_Mo rfl ?_
  intro p e s m args below meth c s₁ B hml hv
  obtain ⟨rfl, C, hP, hD, hS⟩ := enter "DecadeBridgeModel" rfl B hml hv
  obtain ⟨hx, hb, hr, hml, hown, hlk, hts, hK, hZo, hZ⟩ := id C
  refine entryW (lv := [(0, .ref mo)]) rfl (Nat.le_of_ble_eq_true rfl) (fun ls hl => ?_)
  obtain ⟨z, hz⟩ : ∃ z, z = sp_Mo_readProtocol o bu sK sA sB sE oq := ⟨_, rfl⟩
  rw [← hz]
  unfold sp_Mo_readProtocol at hz
  unfold ok_Mo_readProtocol at hok
  refine lv_iconst (v := 0) hx hb d_Mo_readProtocol_0 (by decide) ?_
  refine lv_istore_n (lv' := [(1, .int (0 : Int32)), (0, .ref mo)]) hx hb d_Mo_readProtocol_1 rfl hl (by decide) rfl (fun ls hl => ?_)
  refine lv_aload_n hx hb d_Mo_readProtocol_2 rfl (lv_at hl 1 rfl) ?_
  refine lv_iconst (v := 0) hx hb d_Mo_readProtocol_3 (by decide) ?_
  refine pfI C hP hD hS 0 22 fkMo rfl (by decide) rfl qf_Mo_514 rfl rfl rfl (Nat.le_of_ble_eq_true rfl) (ff := fun o => fMo a o) (sMo_22 _ _ _) d_Mo_readProtocol_4 (fun o_1 eo_1 H locs hP hD hS => ?_)
  have hP : va_P g.1 vwCl (wMo g mo a o_1 now dr pa sa iS bu tq rT wT sK sA sB sE oq bS bE bL rp) H := hP
  have hD : va_D (inW (wMo g mo a o now dr pa sa iS bu tq rT wT sK sA sB sE oq bS bE bL rp)) (wMo g mo a o_1 now dr pa sa iS bu tq rT wT sK sA sB sE oq bS bE bL rp) := hD
  have hz := lett_z hz eo_1
  have hok := lett_o hok eo_1
  exact k_Mo_readProtocol_7 C big (0 : Int32) o_1 sK sA sB sE oq hok _ hz _ _ ls hP hD hS (lv_sub hl [1, 0] rfl)
abbrev rm_Mo_readsNow : Room := { frames := 10, cells := 0, slots := 0, locals := 233 }
def HL_Mo_readsNow_2 (p : Program) (l : Launch) (e : Env) (s : State) (m : MethodId) (args : Array Value) (below : List Frame) (meth : Method) (c : Code) (g : GX) (mo : Nat) (a : Nat → Nat) (ws0 : va_W) (o : IV) (dr : LV) (pa : LV) (sa : LV) (iS : IV) (bu : IV) (tq : IV) (rT : IV) (wT : IV) (sK : IV) (sA : IV) (sB : IV) (sE : IV) (oq : IV) (bS : IV) (bE : IV) (bL : IV) (rp : IV) (p1 : Int32) (sp : Int32 → LV → (Int32 × LV)) (ok : Int32 → LV → Prop) : Prop := ∀ (x2p2 : Int32) (nowp2 : LV), ok x2p2 nowp2 → ∀ z : (Int32 × LV), z = sp x2p2 nowp2 → ∀ (H : Heap) (locs : List Loc) (ls : Array Slot), va_P g.1 vwCl (wMo g mo a o nowp2 dr pa sa iS bu tq rT wT sK sA sB sE oq bS bE bL rp) H → va_D (inW ws0) (wMo g mo a o nowp2 dr pa sa iS bu tq rT wT sK sA sB sE oq bS bE bL rp) → va_S (inW ws0) s.heap H locs → lv_has ls 5 [(0, .ref mo), (1, .int p1), (2, .int x2p2)] → W p l e rm_Mo_readsNow s m args below meth c H locs 0 0 (MQ below (CI g ws0 (fun u : LV => wMo g mo a o u dr pa sa iS bu tq rT wT sK sA sB sE oq bS bE bL rp) z) args s 0 0 (inW ws0)) (F0 m 2 ls [])
def HL_Mo_readsNow_14 (p : Program) (l : Launch) (e : Env) (s : State) (m : MethodId) (args : Array Value) (below : List Frame) (meth : Method) (c : Code) (g : GX) (mo : Nat) (a : Nat → Nat) (ws0 : va_W) (o : IV) (nowp2 : LV) (dr : LV) (pa : LV) (sa : LV) (iS : IV) (bu : IV) (tq : IV) (rT : IV) (wT : IV) (sK : IV) (sA : IV) (sB : IV) (sE : IV) (oq : IV) (bS : IV) (bE : IV) (bL : IV) (rp : IV) (sp : (Int32 × LV)) (ok : Prop) : Prop := ∀ (_ : Unit), ok → ∀ z : (Int32 × LV), z = sp → ∀ (H : Heap) (locs : List Loc) (ls : Array Slot), va_P g.1 vwCl (wMo g mo a o nowp2 dr pa sa iS bu tq rT wT sK sA sB sE oq bS bE bL rp) H → va_D (inW ws0) (wMo g mo a o nowp2 dr pa sa iS bu tq rT wT sK sA sB sE oq bS bE bL rp) → va_S (inW ws0) s.heap H locs → lv_has ls 5 [(0, .ref mo)] → W p l e rm_Mo_readsNow s m args below meth c H locs 0 0 (MQ below (CI g ws0 (fun u : LV => wMo g mo a o u dr pa sa iS bu tq rT wT sK sA sB sE oq bS bE bL rp) z) args s 0 0 (inW ws0)) (F0 m 14 ls [])
noncomputable def sp_Mo_readsNow_14 (nowp2 : LV)   : Int32 × LV := lett (sp_Mo_whyNotRead nowp2) fun (y9 : Int32) => (y9, nowp2)
def ok_Mo_readsNow_14 (nowp2 : LV)    : Prop := (ok_Mo_whyNotRead nowp2) ∧ True
set_option maxRecDepth 100000 in
set_option maxHeartbeats 4000000 in
theorem k_Mo_readsNow_14 {p : Program} {l : Launch} {e : Env} {s : State} {m : MethodId} {args : Array Value} {below : List Frame} {meth : Method} {c : Code} {g : GX} {mo : Nat} {a : Nat → Nat} {ws0 : va_W} {o : IV} {nowp2 : LV} {dr : LV} {pa : LV} {sa : LV} {iS : IV} {bu : IV} {tq : IV} {rT : IV} {wT : IV} {sK : IV} {sA : IV} {sB : IV} {sE : IV} {oq : IV} {bS : IV} {bE : IV} {bL : IV} {rp : IV}  (C : Cx p s m args meth c (inW ws0) g "DecadeBridgeModel" b_Mo_readsNow (some .int) 5)  : HL_Mo_readsNow_14 p l e s m args below meth c g mo a ws0 o nowp2 dr pa sa iS bu tq rT wT sK sA sB sE oq bS bE bL rp (sp_Mo_readsNow_14 nowp2 ) (ok_Mo_readsNow_14 nowp2  ) := by
  intro _ hok z hz H locs ls hP hD hS hl
  obtain ⟨hx, hb, hr, hml, hown, hlk, hts, hK, hZo, hZ⟩ := id C
  unfold sp_Mo_readsNow_14 at hz
  unfold ok_Mo_readsNow_14 at hok
  refine lv_aload_n hx hb d_Mo_readsNow_14 rfl (lv_at hl 0 rfl) ?_
  have hs8 := hok.1
  have hok := hok.2
  have hB : SubW g (inW ws0) s (wMo g mo a o nowp2 dr pa sa iS bu tq rT wT sK sA sB sE oq bS bE bL rp) _ (List.range _) _ _ := (subF hP hD hS)
  refine goI0 hB (run_v C mf_Mo_whyNotRead qm_Mo_500 (c_Mo_whyNotRead l g mo a o nowp2 dr pa sa iS bu tq rT wT sK sA sB sE oq bS bE bL rp hs8) rfl rfl ⟨Nat.le_of_ble_eq_true rfl, Nat.le_of_ble_eq_true rfl⟩ ⟨Nat.le_of_ble_eq_true rfl, Nat.le_of_ble_eq_true rfl⟩ hB rfl rfl hl rfl rfl (Nat.le_of_ble_eq_true rfl) d_Mo_readsNow_15) (fun y9 ey9 H locs hP hS => ?_)
  have hz := lett_z hz ey9
  exact endI1 C hz hP hS d_Mo_readsNow_18
noncomputable def bd_Mo_readsNow_2 (p1 : Int32) (r2 : Int32 → LV → (Int32 × LV)) (x2p2 : Int32) (nowp2 : LV) : Int32 × LV := if p1 ≤ x2p2 then (((0 : Int32), nowp2)) else (lett (sp_Mo_whyNotRead nowp2) fun (y3 : Int32) => if 0 ≤ y3 then (lett (sp_Mo_makeReading nowp2) fun (y6 : Int64 × LV) => lett (x2p2 + (1 : Int32)) fun (v7 : Int32) => r2 v7 y6.2) else (sp_Mo_readsNow_14 nowp2))
def okb_Mo_readsNow_2 (p1 : Int32) (r2 : Int32 → LV → (Int32 × LV)) (q2 : Int32 → LV → Prop) (x2p2 : Int32) (nowp2 : LV) : Prop := ((p1 ≤ x2p2 → True) ∧ (¬ (p1 ≤ x2p2) → (ok_Mo_whyNotRead nowp2) ∧ lett (sp_Mo_whyNotRead nowp2) fun (y3 : Int32) => ((0 ≤ y3 → (ok_Mo_makeReading nowp2) ∧ lett (sp_Mo_makeReading nowp2) fun (y6 : Int64 × LV) => lett (x2p2 + (1 : Int32)) fun (v7 : Int32) => q2 v7 y6.2) ∧ (¬ (0 ≤ y3) → ok_Mo_readsNow_14 nowp2))))
noncomputable def sp_Mo_readsNow_2 (p1 : Int32)  : Nat → Int32 → LV → (Int32 × LV)
  | 0 => fun _ _ => default
  | f + 1 => bd_Mo_readsNow_2 p1  (sp_Mo_readsNow_2 p1  f)
def ok_Mo_readsNow_2 (p1 : Int32)   : Nat → Int32 → LV → Prop
  | 0 => fun _ _ => False
  | f + 1 => okb_Mo_readsNow_2 p1  (sp_Mo_readsNow_2 p1  f)  (ok_Mo_readsNow_2 p1   f)
set_option maxRecDepth 100000 in
set_option maxHeartbeats 4000000 in
theorem kb_Mo_readsNow_2 {p : Program} {l : Launch} {e : Env} {s : State} {m : MethodId} {args : Array Value} {below : List Frame} {meth : Method} {c : Code} {g : GX} {mo : Nat} {a : Nat → Nat} {ws0 : va_W} {o : IV} {dr : LV} {pa : LV} {sa : LV} {iS : IV} {bu : IV} {tq : IV} {rT : IV} {wT : IV} {sK : IV} {sA : IV} {sB : IV} {sE : IV} {oq : IV} {bS : IV} {bE : IV} {bL : IV} {rp : IV} {p1 : Int32}  (C : Cx p s m args meth c (inW ws0) g "DecadeBridgeModel" b_Mo_readsNow (some .int) 5) {r2 : Int32 → LV → (Int32 × LV)} {q2 : Int32 → LV → Prop}  (ih2 : HL_Mo_readsNow_2 p l e s m args below meth c g mo a ws0 o dr pa sa iS bu tq rT wT sK sA sB sE oq bS bE bL rp p1 r2 q2) : HL_Mo_readsNow_2 p l e s m args below meth c g mo a ws0 o dr pa sa iS bu tq rT wT sK sA sB sE oq bS bE bL rp p1 (bd_Mo_readsNow_2 p1  r2) (okb_Mo_readsNow_2 p1  r2  q2) := by
  intro x2p2 nowp2 hok z hz H locs ls hP hD hS hl
  obtain ⟨hx, hb, hr, hml, hown, hlk, hts, hK, hZo, hZ⟩ := id C
  unfold bd_Mo_readsNow_2 at hz
  unfold okb_Mo_readsNow_2 at hok
  refine lv_iload_n hx hb d_Mo_readsNow_2 rfl (lv_at hl 2 rfl) ?_
  refine lv_iload_n hx hb d_Mo_readsNow_3 rfl (lv_at hl 1 rfl) ?_
  refine lv_icmp_ge (tgt := 30) hx hb d_Mo_readsNow_4 (by decide) (fun c1 => ?_) (fun c1 => ?_)
  · have hz := hz.trans (if_pos c1)
    refine lv_iconst (v := 0) hx hb d_Mo_readsNow_30 (by decide) ?_
    exact endI1 C hz hP hS d_Mo_readsNow_31
  · have hz := hz.trans (if_neg c1)
    have hok := hok.2 c1
    refine lv_aload_n hx hb d_Mo_readsNow_7 rfl (lv_at hl 0 rfl) ?_
    have hs2 := hok.1
    have hok := hok.2
    have hB : SubW g (inW ws0) s (wMo g mo a o nowp2 dr pa sa iS bu tq rT wT sK sA sB sE oq bS bE bL rp) _ (List.range _) _ _ := (subF hP hD hS)
    refine goI0 hB (run_v C mf_Mo_whyNotRead qm_Mo_500 (c_Mo_whyNotRead l g mo a o nowp2 dr pa sa iS bu tq rT wT sK sA sB sE oq bS bE bL rp hs2) rfl rfl ⟨Nat.le_of_ble_eq_true rfl, Nat.le_of_ble_eq_true rfl⟩ ⟨Nat.le_of_ble_eq_true rfl, Nat.le_of_ble_eq_true rfl⟩ hB rfl rfl hl rfl rfl (Nat.le_of_ble_eq_true rfl) d_Mo_readsNow_8) (fun y3 ey3 H locs hP hS => ?_)
    have hz := lett_z hz ey3
    have hok := lett_o hok ey3
    refine lv_if_ge (tgt := 19) hx hb d_Mo_readsNow_11 (by decide) (fun c4 => ?_) (fun c4 => ?_)
    · have hz := hz.trans (if_pos c4)
      have hok := hok.1 c4
      refine lv_aload_n hx hb d_Mo_readsNow_19 rfl (lv_at hl 0 rfl) ?_
      have hs5 := hok.1
      have hok := hok.2
      have hB : SubW g (inW ws0) s (wMo g mo a o nowp2 dr pa sa iS bu tq rT wT sK sA sB sE oq bS bE bL rp) _ (List.range _) _ _ := (subF hP hD hS)
      refine goLF hB (run_v C mf_Mo_makeReading qm_Mo_231 (c_Mo_makeReading l g mo a o nowp2 dr pa sa iS bu tq rT wT sK sA sB sE oq bS bE bL rp hs5) rfl rfl ⟨Nat.le_of_ble_eq_true rfl, Nat.le_of_ble_eq_true rfl⟩ ⟨Nat.le_of_ble_eq_true rfl, Nat.le_of_ble_eq_true rfl⟩ hB rfl rfl hl rfl rfl (Nat.le_of_ble_eq_true rfl) d_Mo_readsNow_20) (fun _ => rfl) (fun y6 ey6 H locs hP hD hS => ?_)
      have hP : va_P g.1 vwCl (wMo g mo a o y6.2 dr pa sa iS bu tq rT wT sK sA sB sE oq bS bE bL rp) H := hP
      have hD : va_D (inW ws0) (wMo g mo a o y6.2 dr pa sa iS bu tq rT wT sK sA sB sE oq bS bE bL rp) := hD
      have hz := lett_z hz ey6
      have hok := lett_o hok ey6
      refine lv_lstore_n (lv' := [(3, .long y6.1), (0, .ref mo), (1, .int p1), (2, .int x2p2)]) hx hb d_Mo_readsNow_23 rfl hl (by decide) rfl (fun ls hl => ?_)
      obtain ⟨v7, ev7⟩ : ∃ y : Int32, y = x2p2 + (1 : Int32) := ⟨_, rfl⟩
      have hz := lett_z hz ev7
      have hok := lett_o hok ev7
      refine lv_iinc (v := v7) (lv' := [(2, .int v7), (3, .long y6.1), (0, .ref mo), (1, .int p1)]) hx hb d_Mo_readsNow_24 hl (k := 3) rfl (by rw [ev7]; rfl) (by decide) rfl (fun ls hl => ?_)
      refine lv_goto (tgt := 2) hx hb d_Mo_readsNow_27 (by decide) ?_
      exact ih2 v7 y6.2 hok _ hz _ _ ls hP hD hS (lv_sub hl [2, 3, 0] rfl)
    · have hz := hz.trans (if_neg c4)
      have hok := hok.2 c4
      exact k_Mo_readsNow_14 C () hok _ hz _ _ ls hP hD hS (lv_sub hl [0] rfl)
theorem k_Mo_readsNow_2 {p : Program} {l : Launch} {e : Env} {s : State} {m : MethodId} {args : Array Value} {below : List Frame} {meth : Method} {c : Code} {g : GX} {mo : Nat} {a : Nat → Nat} {ws0 : va_W} {o : IV} {dr : LV} {pa : LV} {sa : LV} {iS : IV} {bu : IV} {tq : IV} {rT : IV} {wT : IV} {sK : IV} {sA : IV} {sB : IV} {sE : IV} {oq : IV} {bS : IV} {bE : IV} {bL : IV} {rp : IV} {p1 : Int32}  (C : Cx p s m args meth c (inW ws0) g "DecadeBridgeModel" b_Mo_readsNow (some .int) 5) (f : Nat)  : HL_Mo_readsNow_2 p l e s m args below meth c g mo a ws0 o dr pa sa iS bu tq rT wT sK sA sB sE oq bS bE bL rp p1 (sp_Mo_readsNow_2 p1  f) (ok_Mo_readsNow_2 p1   f) := by
  induction f with
  | zero => intro x2p2 nowp2 hok; exact False.elim hok
  | succ f ih => exact kb_Mo_readsNow_2 C  ih
noncomputable def sp_Mo_readsNow (p1 : Int32) (now : LV) : Int32 × LV := sp_Mo_readsNow_2 p1 big (0 : Int32) now
def ok_Mo_readsNow (p1 : Int32) (now : LV) : Prop := ok_Mo_readsNow_2 p1 big (0 : Int32) now
set_option maxRecDepth 100000 in
set_option maxHeartbeats 4000000 in
theorem c_Mo_readsNow (l : Launch) (g : GX) (mo : Nat) (a : Nat → Nat) (o : IV) (now : LV) (dr : LV) (pa : LV) (sa : LV) (iS : IV) (bu : IV) (tq : IV) (rT : IV) (wT : IV) (sK : IV) (sA : IV) (sB : IV) (sE : IV) (oq : IV) (bS : IV) (bE : IV) (bL : IV) (rp : IV) (p1 : Int32) (hok : ok_Mo_readsNow p1 now) : Met l y_Mo_readsNow (wsY y_Mo_readsNow b_Mo_readsNow 5 (some .int)) rm_Mo_readsNow (CP g [.ref mo, .int p1] (wMo g mo a o now dr pa sa iS bu tq rT wT sK sA sB sE oq bS bE bL rp)) (CI g (wMo g mo a o now dr pa sa iS bu tq rT wT sK sA sB sE oq bS bE bL rp) (fun u : LV => wMo g mo a o u dr pa sa iS bu tq rT wT sK sA sB sE oq bS bE bL rp) (sp_Mo_readsNow p1 now)) 0 0 (inW (wMo g mo a o now dr pa sa iS bu tq rT wT sK sA sB sE oq bS bE bL rp)) := by
  refine Met.ofW (cc := b_Mo_readsNow) (maxL := 5) (ret := (some .int)) pn_Mo rfl ?_
  intro p e s m args below meth c s₁ B hml hv
  obtain ⟨rfl, C, hP, hD, hS⟩ := enter "DecadeBridgeModel" rfl B hml hv
  obtain ⟨hx, hb, hr, hml, hown, hlk, hts, hK, hZo, hZ⟩ := id C
  refine entryW (lv := [(0, .ref mo), (1, .int p1)]) rfl (Nat.le_of_ble_eq_true rfl) (fun ls hl => ?_)
  obtain ⟨z, hz⟩ : ∃ z, z = sp_Mo_readsNow p1 now := ⟨_, rfl⟩
  rw [← hz]
  unfold sp_Mo_readsNow at hz
  unfold ok_Mo_readsNow at hok
  refine lv_iconst (v := 0) hx hb d_Mo_readsNow_0 (by decide) ?_
  refine lv_istore_n (lv' := [(2, .int (0 : Int32)), (0, .ref mo), (1, .int p1)]) hx hb d_Mo_readsNow_1 rfl hl (by decide) rfl (fun ls hl => ?_)
  exact k_Mo_readsNow_2 C big (0 : Int32) now hok _ hz _ _ ls hP hD hS (lv_sub hl [1, 2, 0] rfl)
abbrev rm_Mo_doStep : Room := { frames := 13, cells := 0, slots := 0, locals := 305 }
def HL_Mo_doStep_149 (p : Program) (l : Launch) (e : Env) (s : State) (m : MethodId) (args : Array Value) (below : List Frame) (meth : Method) (c : Code) (g : GX) (mo : Nat) (a : Nat → Nat) (ws0 : va_W) (o : IV) (now : LV) (dr : LV) (pa : LV) (sa : LV) (iS : IV) (bu : IV) (tq : IV) (rT : IV) (wT : IV) (sK : IV) (sA : IV) (sB : IV) (sE : IV) (oq : IV) (bS : IV) (bE : IV) (bL : IV) (rp : IV) (sp : Int32 → (Int32 × LV)) (ok : Int32 → Prop) : Prop := ∀ (t1p149 : Int32), ok t1p149 → ∀ z : (Int32 × LV), z = sp t1p149 → ∀ (H : Heap) (locs : List Loc) (ls : Array Slot), va_P g.1 vwCl (wMo g mo a o now dr pa sa iS bu tq rT wT sK sA sB sE oq bS bE bL rp) H → va_D (inW ws0) (wMo g mo a o now dr pa sa iS bu tq rT wT sK sA sB sE oq bS bE bL rp) → va_S (inW ws0) s.heap H locs → lv_has ls 2 [] → W p l e rm_Mo_doStep s m args below meth c H locs 0 0 (MQ below (CI g ws0 (fun u : LV => wMo g mo a o u dr pa sa iS bu tq rT wT sK sA sB sE oq bS bE bL rp) z) args s 0 0 (inW ws0)) (F0 m 149 ls [.int t1p149, .ref mo])
noncomputable def sp_Mo_doStep_149 (now : LV)  (t1p149 : Int32) : Int32 × LV := lett (sp_Mo_balanceNow t1p149 now) fun (y18 : Int32 × LV) => (y18.1, y18.2)
def ok_Mo_doStep_149 (now : LV)   (t1p149 : Int32) : Prop := (ok_Mo_balanceNow t1p149 now) ∧ True
set_option maxRecDepth 100000 in
set_option maxHeartbeats 4000000 in
theorem k_Mo_doStep_149 {p : Program} {l : Launch} {e : Env} {s : State} {m : MethodId} {args : Array Value} {below : List Frame} {meth : Method} {c : Code} {g : GX} {mo : Nat} {a : Nat → Nat} {ws0 : va_W} {o : IV} {now : LV} {dr : LV} {pa : LV} {sa : LV} {iS : IV} {bu : IV} {tq : IV} {rT : IV} {wT : IV} {sK : IV} {sA : IV} {sB : IV} {sE : IV} {oq : IV} {bS : IV} {bE : IV} {bL : IV} {rp : IV}  (C : Cx p s m args meth c (inW ws0) g "DecadeBridgeModel" b_Mo_doStep (some .int) 2)  : HL_Mo_doStep_149 p l e s m args below meth c g mo a ws0 o now dr pa sa iS bu tq rT wT sK sA sB sE oq bS bE bL rp (sp_Mo_doStep_149 now ) (ok_Mo_doStep_149 now  ) := by
  intro t1p149 hok z hz H locs ls hP hD hS hl
  obtain ⟨hx, hb, hr, hml, hown, hlk, hts, hK, hZo, hZ⟩ := id C
  unfold sp_Mo_doStep_149 at hz
  unfold ok_Mo_doStep_149 at hok
  have hs17 := hok.1
  have hok := hok.2
  have hB : SubW g (inW ws0) s (wMo g mo a o now dr pa sa iS bu tq rT wT sK sA sB sE oq bS bE bL rp) _ (List.range _) _ _ := (subF hP hD hS)
  refine goIF hB (run_v C mf_Mo_balanceNow qm_Mo_503 (c_Mo_balanceNow l g mo a o now dr pa sa iS bu tq rT wT sK sA sB sE oq bS bE bL rp t1p149 hs17) rfl rfl ⟨Nat.le_of_ble_eq_true rfl, Nat.le_of_ble_eq_true rfl⟩ ⟨Nat.le_of_ble_eq_true rfl, Nat.le_of_ble_eq_true rfl⟩ hB rfl rfl hl rfl rfl (Nat.le_of_ble_eq_true rfl) d_Mo_doStep_149) (fun _ => rfl) (fun y18 ey18 H locs hP hD hS => ?_)
  have hP : va_P g.1 vwCl (wMo g mo a o y18.2 dr pa sa iS bu tq rT wT sK sA sB sE oq bS bE bL rp) H := hP
  have hD : va_D (inW ws0) (wMo g mo a o y18.2 dr pa sa iS bu tq rT wT sK sA sB sE oq bS bE bL rp) := hD
  have hz := lett_z hz ey18
  exact endI1 C hz hP hS d_Mo_doStep_152
noncomputable def sp_Mo_doStep (p1 : Int32) (now : LV) (sK : IV) (sA : IV) (sB : IV) : Int32 × LV := if sK p1.toNatClampNeg = (0 : Int32) then (lett (sp_Mo_armsNow ((sA p1.toNatClampNeg).toInt64) ((sB p1.toNatClampNeg).toInt64) now) fun (y3 : Int32 × LV) => (y3.1, y3.2)) else (if sK p1.toNatClampNeg = (1 : Int32) then (lett (sp_Mo_change (22 : Int32) ((sA p1.toNatClampNeg).toInt64) now) fun (y5 : Int32 × LV) => (y5.1, y5.2)) else (if sK p1.toNatClampNeg = (2 : Int32) then (lett (sp_Mo_setNow (sA p1.toNatClampNeg) now) fun (y7 : Int32 × LV) => (y7.1, y7.2)) else (if sK p1.toNatClampNeg = (3 : Int32) then (lett (sp_Mo_turnNow now) fun (y8 : Int32 × LV) => (y8.1, y8.2)) else (if sK p1.toNatClampNeg = (4 : Int32) then (lett (sp_Mo_change (32 : Int32) ((sA p1.toNatClampNeg).toInt64) now) fun (y10 : Int32 × LV) => (y10.1, y10.2)) else (if sK p1.toNatClampNeg = (5 : Int32) then (lett (sp_Mo_restNow (sA p1.toNatClampNeg) now) fun (y12 : Int32 × LV) => (y12.1, y12.2)) else (if sK p1.toNatClampNeg = (6 : Int32) then (lett (sp_Mo_readsNow (sA p1.toNatClampNeg) now) fun (y14 : Int32 × LV) => (y14.1, y14.2)) else (if (sA p1.toNatClampNeg) = (1 : Int32) then (sp_Mo_doStep_149 now (1 : Int32)) else (sp_Mo_doStep_149 now (0 : Int32)))))))))
def ok_Mo_doStep (p1 : Int32) (now : LV) (sK : IV) (sA : IV) (sB : IV) : Prop := (vp_in p1 30) ∧ ((sK p1.toNatClampNeg = (0 : Int32) → (ok_Mo_armsNow ((sA p1.toNatClampNeg).toInt64) ((sB p1.toNatClampNeg).toInt64) now) ∧ True) ∧ (¬ (sK p1.toNatClampNeg = (0 : Int32)) → ((sK p1.toNatClampNeg = (1 : Int32) → (ok_Mo_change (22 : Int32) ((sA p1.toNatClampNeg).toInt64)) ∧ True) ∧ (¬ (sK p1.toNatClampNeg = (1 : Int32)) → ((sK p1.toNatClampNeg = (2 : Int32) → (ok_Mo_setNow (sA p1.toNatClampNeg) now) ∧ True) ∧ (¬ (sK p1.toNatClampNeg = (2 : Int32)) → ((sK p1.toNatClampNeg = (3 : Int32) → True) ∧ (¬ (sK p1.toNatClampNeg = (3 : Int32)) → ((sK p1.toNatClampNeg = (4 : Int32) → (ok_Mo_change (32 : Int32) ((sA p1.toNatClampNeg).toInt64)) ∧ True) ∧ (¬ (sK p1.toNatClampNeg = (4 : Int32)) → ((sK p1.toNatClampNeg = (5 : Int32) → (ok_Mo_restNow (sA p1.toNatClampNeg) now) ∧ True) ∧ (¬ (sK p1.toNatClampNeg = (5 : Int32)) → ((sK p1.toNatClampNeg = (6 : Int32) → (ok_Mo_readsNow (sA p1.toNatClampNeg) now) ∧ True) ∧ (¬ (sK p1.toNatClampNeg = (6 : Int32)) → (((sA p1.toNatClampNeg) = (1 : Int32) → ok_Mo_doStep_149 now (1 : Int32)) ∧ (¬ ((sA p1.toNatClampNeg) = (1 : Int32)) → ok_Mo_doStep_149 now (0 : Int32)))))))))))))))))
set_option maxRecDepth 100000 in
set_option maxHeartbeats 4000000 in
theorem c_Mo_doStep (l : Launch) (g : GX) (mo : Nat) (a : Nat → Nat) (o : IV) (now : LV) (dr : LV) (pa : LV) (sa : LV) (iS : IV) (bu : IV) (tq : IV) (rT : IV) (wT : IV) (sK : IV) (sA : IV) (sB : IV) (sE : IV) (oq : IV) (bS : IV) (bE : IV) (bL : IV) (rp : IV) (p1 : Int32) (hok : ok_Mo_doStep p1 now sK sA sB) : Met l y_Mo_doStep (wsY y_Mo_doStep b_Mo_doStep 2 (some .int)) rm_Mo_doStep (CP g [.ref mo, .int p1] (wMo g mo a o now dr pa sa iS bu tq rT wT sK sA sB sE oq bS bE bL rp)) (CI g (wMo g mo a o now dr pa sa iS bu tq rT wT sK sA sB sE oq bS bE bL rp) (fun u : LV => wMo g mo a o u dr pa sa iS bu tq rT wT sK sA sB sE oq bS bE bL rp) (sp_Mo_doStep p1 now sK sA sB)) 0 0 (inW (wMo g mo a o now dr pa sa iS bu tq rT wT sK sA sB sE oq bS bE bL rp)) := by
  refine Met.ofW (cc := b_Mo_doStep) (maxL := 2) (ret := (some .int)) pn_Mo rfl ?_
  intro p e s m args below meth c s₁ B hml hv
  obtain ⟨rfl, C, hP, hD, hS⟩ := enter "DecadeBridgeModel" rfl B hml hv
  obtain ⟨hx, hb, hr, hml, hown, hlk, hts, hK, hZo, hZ⟩ := id C
  refine entryW (lv := [(0, .ref mo), (1, .int p1)]) rfl (Nat.le_of_ble_eq_true rfl) (fun ls hl => ?_)
  obtain ⟨z, hz⟩ : ∃ z, z = sp_Mo_doStep p1 now sK sA sB := ⟨_, rfl⟩
  rw [← hz]
  unfold sp_Mo_doStep at hz
  unfold ok_Mo_doStep at hok
  refine lv_aload_n hx hb d_Mo_doStep_0 rfl (lv_at hl 0 rfl) ?_
  refine gf C hP 0 18 fkMo rfl (by decide) rfl qf_Mo_69 (gMo_18 _ _) d_Mo_doStep_1 ?_
  refine lv_iload_n hx hb d_Mo_doStep_4 rfl (lv_at hl 1 rfl) ?_
  have hs1 := hok.1
  have hok := hok.2
  refine ldI C hP 11 rfl hs1 rfl d_Mo_doStep_5 ?_
  by_cases c16_0 : sK p1.toNatClampNeg = (0 : Int32)
  · have hz := hz.trans (if_pos c16_0)
    have hok := hok.1 c16_0
    refine lv_tableIn (x := sK p1.toNatClampNeg) (off := 42) (tgt := 48) hx hb d_Mo_doStep_6 (by rw [c16_0]; decide) (by rw [c16_0]; decide) (by rw [c16_0]; rfl) (by decide) ?_
    refine lv_aload_n hx hb d_Mo_doStep_48 rfl (lv_at hl 0 rfl) ?_
    refine lv_aload_n hx hb d_Mo_doStep_49 rfl (lv_at hl 0 rfl) ?_
    refine gf C hP 0 19 fkMo rfl (by decide) rfl qf_Mo_72 (gMo_19 _ _) d_Mo_doStep_50 ?_
    refine lv_iload_n hx hb d_Mo_doStep_53 rfl (lv_at hl 1 rfl) ?_
    refine ldI C hP 12 rfl hs1 rfl d_Mo_doStep_54 ?_
    refine lv_i2l hx hb d_Mo_doStep_55 rfl ?_
    refine lv_aload_n hx hb d_Mo_doStep_56 rfl (lv_at hl 0 rfl) ?_
    refine gf C hP 0 20 fkMo rfl (by decide) rfl qf_Mo_75 (gMo_20 _ _) d_Mo_doStep_57 ?_
    refine lv_iload_n hx hb d_Mo_doStep_60 rfl (lv_at hl 1 rfl) ?_
    refine ldI C hP 13 rfl hs1 rfl d_Mo_doStep_61 ?_
    refine lv_i2l hx hb d_Mo_doStep_62 rfl ?_
    have hs2 := hok.1
    have hok := hok.2
    have hB : SubW g (inW (wMo g mo a o now dr pa sa iS bu tq rT wT sK sA sB sE oq bS bE bL rp)) s (wMo g mo a o now dr pa sa iS bu tq rT wT sK sA sB sE oq bS bE bL rp) _ (List.range _) _ _ := (subF hP hD hS)
    refine goIF hB (run_v C mf_Mo_armsNow qm_Mo_487 (c_Mo_armsNow l g mo a o now dr pa sa iS bu tq rT wT sK sA sB sE oq bS bE bL rp ((sA p1.toNatClampNeg).toInt64) ((sB p1.toNatClampNeg).toInt64) hs2) rfl rfl ⟨Nat.le_of_ble_eq_true rfl, Nat.le_of_ble_eq_true rfl⟩ ⟨Nat.le_of_ble_eq_true rfl, Nat.le_of_ble_eq_true rfl⟩ hB rfl rfl hl rfl rfl (Nat.le_of_ble_eq_true rfl) d_Mo_doStep_63) (fun _ => rfl) (fun y3 ey3 H locs hP hD hS => ?_)
    have hP : va_P g.1 vwCl (wMo g mo a o y3.2 dr pa sa iS bu tq rT wT sK sA sB sE oq bS bE bL rp) H := hP
    have hD : va_D (inW (wMo g mo a o now dr pa sa iS bu tq rT wT sK sA sB sE oq bS bE bL rp)) (wMo g mo a o y3.2 dr pa sa iS bu tq rT wT sK sA sB sE oq bS bE bL rp) := hD
    have hz := lett_z hz ey3
    exact endI1 C hz hP hS d_Mo_doStep_66
  have hz := hz.trans (if_neg c16_0)
  have hok := hok.2 c16_0
  by_cases c16_1 : sK p1.toNatClampNeg = (1 : Int32)
  · have hz := hz.trans (if_pos c16_1)
    have hok := hok.1 c16_1
    refine lv_tableIn (x := sK p1.toNatClampNeg) (off := 61) (tgt := 67) hx hb d_Mo_doStep_6 (by rw [c16_1]; decide) (by rw [c16_1]; decide) (by rw [c16_1]; rfl) (by decide) ?_
    refine lv_aload_n hx hb d_Mo_doStep_67 rfl (lv_at hl 0 rfl) ?_
    refine lv_bipush (v := 22) hx hb d_Mo_doStep_68 (by decide) ?_
    refine lv_aload_n hx hb d_Mo_doStep_70 rfl (lv_at hl 0 rfl) ?_
    refine gf C hP 0 19 fkMo rfl (by decide) rfl qf_Mo_72 (gMo_19 _ _) d_Mo_doStep_71 ?_
    refine lv_iload_n hx hb d_Mo_doStep_74 rfl (lv_at hl 1 rfl) ?_
    refine ldI C hP 12 rfl hs1 rfl d_Mo_doStep_75 ?_
    refine lv_i2l hx hb d_Mo_doStep_76 rfl ?_
    have hs4 := hok.1
    have hok := hok.2
    have hB : SubW g (inW (wMo g mo a o now dr pa sa iS bu tq rT wT sK sA sB sE oq bS bE bL rp)) s (wMo g mo a o now dr pa sa iS bu tq rT wT sK sA sB sE oq bS bE bL rp) _ (List.range _) _ _ := (subF hP hD hS)
    refine goIF hB (run_v C mf_Mo_change qm_Mo_480 (c_Mo_change l g mo a o now dr pa sa iS bu tq rT wT sK sA sB sE oq bS bE bL rp (22 : Int32) ((sA p1.toNatClampNeg).toInt64) hs4) rfl rfl ⟨Nat.le_of_ble_eq_true rfl, Nat.le_of_ble_eq_true rfl⟩ ⟨Nat.le_of_ble_eq_true rfl, Nat.le_of_ble_eq_true rfl⟩ hB rfl rfl hl rfl rfl (Nat.le_of_ble_eq_true rfl) d_Mo_doStep_77) (fun _ => rfl) (fun y5 ey5 H locs hP hD hS => ?_)
    have hP : va_P g.1 vwCl (wMo g mo a o y5.2 dr pa sa iS bu tq rT wT sK sA sB sE oq bS bE bL rp) H := hP
    have hD : va_D (inW (wMo g mo a o now dr pa sa iS bu tq rT wT sK sA sB sE oq bS bE bL rp)) (wMo g mo a o y5.2 dr pa sa iS bu tq rT wT sK sA sB sE oq bS bE bL rp) := hD
    have hz := lett_z hz ey5
    exact endI1 C hz hP hS d_Mo_doStep_80
  have hz := hz.trans (if_neg c16_1)
  have hok := hok.2 c16_1
  by_cases c16_2 : sK p1.toNatClampNeg = (2 : Int32)
  · have hz := hz.trans (if_pos c16_2)
    have hok := hok.1 c16_2
    refine lv_tableIn (x := sK p1.toNatClampNeg) (off := 75) (tgt := 81) hx hb d_Mo_doStep_6 (by rw [c16_2]; decide) (by rw [c16_2]; decide) (by rw [c16_2]; rfl) (by decide) ?_
    refine lv_aload_n hx hb d_Mo_doStep_81 rfl (lv_at hl 0 rfl) ?_
    refine lv_aload_n hx hb d_Mo_doStep_82 rfl (lv_at hl 0 rfl) ?_
    refine gf C hP 0 19 fkMo rfl (by decide) rfl qf_Mo_72 (gMo_19 _ _) d_Mo_doStep_83 ?_
    refine lv_iload_n hx hb d_Mo_doStep_86 rfl (lv_at hl 1 rfl) ?_
    refine ldI C hP 12 rfl hs1 rfl d_Mo_doStep_87 ?_
    have hs6 := hok.1
    have hok := hok.2
    have hB : SubW g (inW (wMo g mo a o now dr pa sa iS bu tq rT wT sK sA sB sE oq bS bE bL rp)) s (wMo g mo a o now dr pa sa iS bu tq rT wT sK sA sB sE oq bS bE bL rp) _ (List.range _) _ _ := (subF hP hD hS)
    refine goIF hB (run_v C mf_Mo_setNow qm_Mo_491 (c_Mo_setNow l g mo a o now dr pa sa iS bu tq rT wT sK sA sB sE oq bS bE bL rp (sA p1.toNatClampNeg) hs6) rfl rfl ⟨Nat.le_of_ble_eq_true rfl, Nat.le_of_ble_eq_true rfl⟩ ⟨Nat.le_of_ble_eq_true rfl, Nat.le_of_ble_eq_true rfl⟩ hB rfl rfl hl rfl rfl (Nat.le_of_ble_eq_true rfl) d_Mo_doStep_88) (fun _ => rfl) (fun y7 ey7 H locs hP hD hS => ?_)
    have hP : va_P g.1 vwCl (wMo g mo a o y7.2 dr pa sa iS bu tq rT wT sK sA sB sE oq bS bE bL rp) H := hP
    have hD : va_D (inW (wMo g mo a o now dr pa sa iS bu tq rT wT sK sA sB sE oq bS bE bL rp)) (wMo g mo a o y7.2 dr pa sa iS bu tq rT wT sK sA sB sE oq bS bE bL rp) := hD
    have hz := lett_z hz ey7
    exact endI1 C hz hP hS d_Mo_doStep_91
  have hz := hz.trans (if_neg c16_2)
  have hok := hok.2 c16_2
  by_cases c16_3 : sK p1.toNatClampNeg = (3 : Int32)
  · have hz := hz.trans (if_pos c16_3)
    have hok := hok.1 c16_3
    refine lv_tableIn (x := sK p1.toNatClampNeg) (off := 86) (tgt := 92) hx hb d_Mo_doStep_6 (by rw [c16_3]; decide) (by rw [c16_3]; decide) (by rw [c16_3]; rfl) (by decide) ?_
    refine lv_aload_n hx hb d_Mo_doStep_92 rfl (lv_at hl 0 rfl) ?_
    have hB : SubW g (inW (wMo g mo a o now dr pa sa iS bu tq rT wT sK sA sB sE oq bS bE bL rp)) s (wMo g mo a o now dr pa sa iS bu tq rT wT sK sA sB sE oq bS bE bL rp) _ (List.range _) _ _ := (subF hP hD hS)
    refine goIF hB (run_v C mf_Mo_turnNow qm_Mo_494 (c_Mo_turnNow l g mo a o now dr pa sa iS bu tq rT wT sK sA sB sE oq bS bE bL rp) rfl rfl ⟨Nat.le_of_ble_eq_true rfl, Nat.le_of_ble_eq_true rfl⟩ ⟨Nat.le_of_ble_eq_true rfl, Nat.le_of_ble_eq_true rfl⟩ hB rfl rfl hl rfl rfl (Nat.le_of_ble_eq_true rfl) d_Mo_doStep_93) (fun _ => rfl) (fun y8 ey8 H locs hP hD hS => ?_)
    have hP : va_P g.1 vwCl (wMo g mo a o y8.2 dr pa sa iS bu tq rT wT sK sA sB sE oq bS bE bL rp) H := hP
    have hD : va_D (inW (wMo g mo a o now dr pa sa iS bu tq rT wT sK sA sB sE oq bS bE bL rp)) (wMo g mo a o y8.2 dr pa sa iS bu tq rT wT sK sA sB sE oq bS bE bL rp) := hD
    have hz := lett_z hz ey8
    exact endI1 C hz hP hS d_Mo_doStep_96
  have hz := hz.trans (if_neg c16_3)
  have hok := hok.2 c16_3
  by_cases c16_4 : sK p1.toNatClampNeg = (4 : Int32)
  · have hz := hz.trans (if_pos c16_4)
    have hok := hok.1 c16_4
    refine lv_tableIn (x := sK p1.toNatClampNeg) (off := 91) (tgt := 97) hx hb d_Mo_doStep_6 (by rw [c16_4]; decide) (by rw [c16_4]; decide) (by rw [c16_4]; rfl) (by decide) ?_
    refine lv_aload_n hx hb d_Mo_doStep_97 rfl (lv_at hl 0 rfl) ?_
    refine lv_bipush (v := 32) hx hb d_Mo_doStep_98 (by decide) ?_
    refine lv_aload_n hx hb d_Mo_doStep_100 rfl (lv_at hl 0 rfl) ?_
    refine gf C hP 0 19 fkMo rfl (by decide) rfl qf_Mo_72 (gMo_19 _ _) d_Mo_doStep_101 ?_
    refine lv_iload_n hx hb d_Mo_doStep_104 rfl (lv_at hl 1 rfl) ?_
    refine ldI C hP 12 rfl hs1 rfl d_Mo_doStep_105 ?_
    refine lv_i2l hx hb d_Mo_doStep_106 rfl ?_
    have hs9 := hok.1
    have hok := hok.2
    have hB : SubW g (inW (wMo g mo a o now dr pa sa iS bu tq rT wT sK sA sB sE oq bS bE bL rp)) s (wMo g mo a o now dr pa sa iS bu tq rT wT sK sA sB sE oq bS bE bL rp) _ (List.range _) _ _ := (subF hP hD hS)
    refine goIF hB (run_v C mf_Mo_change qm_Mo_480 (c_Mo_change l g mo a o now dr pa sa iS bu tq rT wT sK sA sB sE oq bS bE bL rp (32 : Int32) ((sA p1.toNatClampNeg).toInt64) hs9) rfl rfl ⟨Nat.le_of_ble_eq_true rfl, Nat.le_of_ble_eq_true rfl⟩ ⟨Nat.le_of_ble_eq_true rfl, Nat.le_of_ble_eq_true rfl⟩ hB rfl rfl hl rfl rfl (Nat.le_of_ble_eq_true rfl) d_Mo_doStep_107) (fun _ => rfl) (fun y10 ey10 H locs hP hD hS => ?_)
    have hP : va_P g.1 vwCl (wMo g mo a o y10.2 dr pa sa iS bu tq rT wT sK sA sB sE oq bS bE bL rp) H := hP
    have hD : va_D (inW (wMo g mo a o now dr pa sa iS bu tq rT wT sK sA sB sE oq bS bE bL rp)) (wMo g mo a o y10.2 dr pa sa iS bu tq rT wT sK sA sB sE oq bS bE bL rp) := hD
    have hz := lett_z hz ey10
    exact endI1 C hz hP hS d_Mo_doStep_110
  have hz := hz.trans (if_neg c16_4)
  have hok := hok.2 c16_4
  by_cases c16_5 : sK p1.toNatClampNeg = (5 : Int32)
  · have hz := hz.trans (if_pos c16_5)
    have hok := hok.1 c16_5
    refine lv_tableIn (x := sK p1.toNatClampNeg) (off := 105) (tgt := 111) hx hb d_Mo_doStep_6 (by rw [c16_5]; decide) (by rw [c16_5]; decide) (by rw [c16_5]; rfl) (by decide) ?_
    refine lv_aload_n hx hb d_Mo_doStep_111 rfl (lv_at hl 0 rfl) ?_
    refine lv_aload_n hx hb d_Mo_doStep_112 rfl (lv_at hl 0 rfl) ?_
    refine gf C hP 0 19 fkMo rfl (by decide) rfl qf_Mo_72 (gMo_19 _ _) d_Mo_doStep_113 ?_
    refine lv_iload_n hx hb d_Mo_doStep_116 rfl (lv_at hl 1 rfl) ?_
    refine ldI C hP 12 rfl hs1 rfl d_Mo_doStep_117 ?_
    have hs11 := hok.1
    have hok := hok.2
    have hB : SubW g (inW (wMo g mo a o now dr pa sa iS bu tq rT wT sK sA sB sE oq bS bE bL rp)) s (wMo g mo a o now dr pa sa iS bu tq rT wT sK sA sB sE oq bS bE bL rp) _ (List.range _) _ _ := (subF hP hD hS)
    refine goIF hB (run_v C mf_Mo_restNow qm_Mo_497 (c_Mo_restNow l g mo a o now dr pa sa iS bu tq rT wT sK sA sB sE oq bS bE bL rp (sA p1.toNatClampNeg) hs11) rfl rfl ⟨Nat.le_of_ble_eq_true rfl, Nat.le_of_ble_eq_true rfl⟩ ⟨Nat.le_of_ble_eq_true rfl, Nat.le_of_ble_eq_true rfl⟩ hB rfl rfl hl rfl rfl (Nat.le_of_ble_eq_true rfl) d_Mo_doStep_118) (fun _ => rfl) (fun y12 ey12 H locs hP hD hS => ?_)
    have hP : va_P g.1 vwCl (wMo g mo a o y12.2 dr pa sa iS bu tq rT wT sK sA sB sE oq bS bE bL rp) H := hP
    have hD : va_D (inW (wMo g mo a o now dr pa sa iS bu tq rT wT sK sA sB sE oq bS bE bL rp)) (wMo g mo a o y12.2 dr pa sa iS bu tq rT wT sK sA sB sE oq bS bE bL rp) := hD
    have hz := lett_z hz ey12
    exact endI1 C hz hP hS d_Mo_doStep_121
  have hz := hz.trans (if_neg c16_5)
  have hok := hok.2 c16_5
  by_cases c16_6 : sK p1.toNatClampNeg = (6 : Int32)
  · have hz := hz.trans (if_pos c16_6)
    have hok := hok.1 c16_6
    refine lv_tableIn (x := sK p1.toNatClampNeg) (off := 116) (tgt := 122) hx hb d_Mo_doStep_6 (by rw [c16_6]; decide) (by rw [c16_6]; decide) (by rw [c16_6]; rfl) (by decide) ?_
    refine lv_aload_n hx hb d_Mo_doStep_122 rfl (lv_at hl 0 rfl) ?_
    refine lv_aload_n hx hb d_Mo_doStep_123 rfl (lv_at hl 0 rfl) ?_
    refine gf C hP 0 19 fkMo rfl (by decide) rfl qf_Mo_72 (gMo_19 _ _) d_Mo_doStep_124 ?_
    refine lv_iload_n hx hb d_Mo_doStep_127 rfl (lv_at hl 1 rfl) ?_
    refine ldI C hP 12 rfl hs1 rfl d_Mo_doStep_128 ?_
    have hs13 := hok.1
    have hok := hok.2
    have hB : SubW g (inW (wMo g mo a o now dr pa sa iS bu tq rT wT sK sA sB sE oq bS bE bL rp)) s (wMo g mo a o now dr pa sa iS bu tq rT wT sK sA sB sE oq bS bE bL rp) _ (List.range _) _ _ := (subF hP hD hS)
    refine goIF hB (run_v C mf_Mo_readsNow qm_Mo_528 (c_Mo_readsNow l g mo a o now dr pa sa iS bu tq rT wT sK sA sB sE oq bS bE bL rp (sA p1.toNatClampNeg) hs13) rfl rfl ⟨Nat.le_of_ble_eq_true rfl, Nat.le_of_ble_eq_true rfl⟩ ⟨Nat.le_of_ble_eq_true rfl, Nat.le_of_ble_eq_true rfl⟩ hB rfl rfl hl rfl rfl (Nat.le_of_ble_eq_true rfl) d_Mo_doStep_129) (fun _ => rfl) (fun y14 ey14 H locs hP hD hS => ?_)
    have hP : va_P g.1 vwCl (wMo g mo a o y14.2 dr pa sa iS bu tq rT wT sK sA sB sE oq bS bE bL rp) H := hP
    have hD : va_D (inW (wMo g mo a o now dr pa sa iS bu tq rT wT sK sA sB sE oq bS bE bL rp)) (wMo g mo a o y14.2 dr pa sa iS bu tq rT wT sK sA sB sE oq bS bE bL rp) := hD
    have hz := lett_z hz ey14
    exact endI1 C hz hP hS d_Mo_doStep_132
  have hz := hz.trans (if_neg c16_6)
  have hok := hok.2 c16_6
  refine lv_tableOut (x := sK p1.toNatClampNeg) (tgt := 133) hx hb d_Mo_doStep_6 (tswL (x := sK p1.toNatClampNeg) (lo := 0) (hi := 6) 7 [(0 : Int32), (1 : Int32), (2 : Int32), (3 : Int32), (4 : Int32), (5 : Int32), (6 : Int32)] (by decide) (by decide) (List.forall_mem_cons.mpr ⟨c16_0, List.forall_mem_cons.mpr ⟨c16_1, List.forall_mem_cons.mpr ⟨c16_2, List.forall_mem_cons.mpr ⟨c16_3, List.forall_mem_cons.mpr ⟨c16_4, List.forall_mem_cons.mpr ⟨c16_5, List.forall_mem_cons.mpr ⟨c16_6, fun _ h => absurd h List.not_mem_nil⟩⟩⟩⟩⟩⟩⟩)) (by decide) ?_
  refine lv_aload_n hx hb d_Mo_doStep_133 rfl (lv_at hl 0 rfl) ?_
  refine lv_aload_n hx hb d_Mo_doStep_134 rfl (lv_at hl 0 rfl) ?_
  refine gf C hP 0 19 fkMo rfl (by decide) rfl qf_Mo_72 (gMo_19 _ _) d_Mo_doStep_135 ?_
  refine lv_iload_n hx hb d_Mo_doStep_138 rfl (lv_at hl 1 rfl) ?_
  refine ldI C hP 12 rfl hs1 rfl d_Mo_doStep_139 ?_
  refine lv_iconst (v := 1) hx hb d_Mo_doStep_140 (by decide) ?_
  refine lv_icmp_ne (tgt := 148) hx hb d_Mo_doStep_141 (by decide) (fun c15 => ?_) (fun c15 => ?_)
  · have hz := hz.trans (if_neg c15)
    have hok := hok.2 c15
    refine lv_iconst (v := 0) hx hb d_Mo_doStep_148 (by decide) ?_
    exact k_Mo_doStep_149 C (0 : Int32) hok _ hz _ _ ls hP hD hS (lv_sub hl [] rfl)
  · have hz := hz.trans (if_pos c15)
    have hok := hok.1 c15
    refine lv_iconst (v := 1) hx hb d_Mo_doStep_144 (by decide) ?_
    refine lv_goto (tgt := 149) hx hb d_Mo_doStep_145 (by decide) ?_
    exact k_Mo_doStep_149 C (1 : Int32) hok _ hz _ _ ls hP hD hS (lv_sub hl [] rfl)
abbrev rm_Mo_timesOf : Room := { frames := 2, cells := 0, slots := 0, locals := 43 }
def HL_Mo_timesOf_30 (p : Program) (l : Launch) (e : Env) (s : State) (m : MethodId) (args : Array Value) (below : List Frame) (meth : Method) (c : Code) (g : GX) (mo : Nat) (a : Nat → Nat) (o : IV) (now : LV) (dr : LV) (pa : LV) (sa : LV) (iS : IV) (bu : IV) (tq : IV) (rT : IV) (wT : IV) (sK : IV) (sA : IV) (sB : IV) (sE : IV) (oq : IV) (bS : IV) (bE : IV) (bL : IV) (rp : IV) (p1 : Int32) (sp : Int32) (ok : Prop) : Prop := ∀ (_ : Unit), ok → ∀ z : Int32, z = sp → ∀ (H : Heap) (locs : List Loc) (ls : Array Slot), va_P g.1 vwCl (wMo g mo a o now dr pa sa iS bu tq rT wT sK sA sB sE oq bS bE bL rp) H → va_D (inW (wMo g mo a o now dr pa sa iS bu tq rT wT sK sA sB sE oq bS bE bL rp)) (wMo g mo a o now dr pa sa iS bu tq rT wT sK sA sB sE oq bS bE bL rp) → va_S (inW (wMo g mo a o now dr pa sa iS bu tq rT wT sK sA sB sE oq bS bE bL rp)) s.heap H locs → lv_has ls 3 [(0, .ref mo), (1, .int p1)] → W p l e rm_Mo_timesOf s m args below meth c H locs 0 0 (MQ below (CI0 g (wMo g mo a o now dr pa sa iS bu tq rT wT sK sA sB sE oq bS bE bL rp) z) args s 0 0 (inW (wMo g mo a o now dr pa sa iS bu tq rT wT sK sA sB sE oq bS bE bL rp))) (F0 m 30 ls [])
def HL_Mo_timesOf_31 (p : Program) (l : Launch) (e : Env) (s : State) (m : MethodId) (args : Array Value) (below : List Frame) (meth : Method) (c : Code) (g : GX) (mo : Nat) (a : Nat → Nat) (o : IV) (now : LV) (dr : LV) (pa : LV) (sa : LV) (iS : IV) (bu : IV) (tq : IV) (rT : IV) (wT : IV) (sK : IV) (sA : IV) (sB : IV) (sE : IV) (oq : IV) (bS : IV) (bE : IV) (bL : IV) (rp : IV) (p1 : Int32) (sp : Int32 → Int32) (ok : Int32 → Prop) : Prop := ∀ (t0p31 : Int32), ok t0p31 → ∀ z : Int32, z = sp t0p31 → ∀ (H : Heap) (locs : List Loc) (ls : Array Slot), va_P g.1 vwCl (wMo g mo a o now dr pa sa iS bu tq rT wT sK sA sB sE oq bS bE bL rp) H → va_D (inW (wMo g mo a o now dr pa sa iS bu tq rT wT sK sA sB sE oq bS bE bL rp)) (wMo g mo a o now dr pa sa iS bu tq rT wT sK sA sB sE oq bS bE bL rp) → va_S (inW (wMo g mo a o now dr pa sa iS bu tq rT wT sK sA sB sE oq bS bE bL rp)) s.heap H locs → lv_has ls 3 [(0, .ref mo), (1, .int p1)] → W p l e rm_Mo_timesOf s m args below meth c H locs 0 0 (MQ below (CI0 g (wMo g mo a o now dr pa sa iS bu tq rT wT sK sA sB sE oq bS bE bL rp) z) args s 0 0 (inW (wMo g mo a o now dr pa sa iS bu tq rT wT sK sA sB sE oq bS bE bL rp))) (F0 m 31 ls [.int t0p31])
noncomputable def sp_Mo_timesOf_31 (sK : IV) (p1 : Int32) (sA : IV)  (t0p31 : Int32) : Int32 := if (sK p1.toNatClampNeg) = (8 : Int32) then (sA p1.toNatClampNeg) else (if t0p31 = 0 then ((1 : Int32)) else ((0 : Int32)))
def ok_Mo_timesOf_31 (sK : IV) (p1 : Int32) (sA : IV)   (t0p31 : Int32) : Prop := (vp_in p1 30) ∧ True
set_option maxRecDepth 100000 in
set_option maxHeartbeats 4000000 in
theorem k_Mo_timesOf_31 {p : Program} {l : Launch} {e : Env} {s : State} {m : MethodId} {args : Array Value} {below : List Frame} {meth : Method} {c : Code} {g : GX} {mo : Nat} {a : Nat → Nat} {o : IV} {now : LV} {dr : LV} {pa : LV} {sa : LV} {iS : IV} {bu : IV} {tq : IV} {rT : IV} {wT : IV} {sK : IV} {sA : IV} {sB : IV} {sE : IV} {oq : IV} {bS : IV} {bE : IV} {bL : IV} {rp : IV} {p1 : Int32}  (C : Cx p s m args meth c (inW (wMo g mo a o now dr pa sa iS bu tq rT wT sK sA sB sE oq bS bE bL rp)) g "DecadeBridgeModel" b_Mo_timesOf (some .int) 3)  : HL_Mo_timesOf_31 p l e s m args below meth c g mo a o now dr pa sa iS bu tq rT wT sK sA sB sE oq bS bE bL rp p1 (sp_Mo_timesOf_31 sK p1 sA ) (ok_Mo_timesOf_31 sK p1 sA  ) := by
  intro t0p31 hok z hz H locs ls hP hD hS hl
  obtain ⟨hx, hb, hr, hml, hown, hlk, hts, hK, hZo, hZ⟩ := id C
  unfold sp_Mo_timesOf_31 at hz
  unfold ok_Mo_timesOf_31 at hok
  refine lv_istore_n (lv' := [(2, .int t0p31), (0, .ref mo), (1, .int p1)]) hx hb d_Mo_timesOf_31 rfl hl (by decide) rfl (fun ls hl => ?_)
  refine lv_aload_n hx hb d_Mo_timesOf_32 rfl (lv_at hl 1 rfl) ?_
  refine gf C hP 0 18 fkMo rfl (by decide) rfl qf_Mo_69 (gMo_18 _ _) d_Mo_timesOf_33 ?_
  refine lv_iload_n hx hb d_Mo_timesOf_36 rfl (lv_at hl 2 rfl) ?_
  have hs4 := hok.1
  have hok := hok.2
  refine ldI C hP 11 rfl hs4 rfl d_Mo_timesOf_37 ?_
  refine lv_bipush (v := 8) hx hb d_Mo_timesOf_38 (by decide) ?_
  refine lv_icmp_ne (tgt := 52) hx hb d_Mo_timesOf_40 (by decide) (fun c5 => ?_) (fun c5 => ?_)
  · have hz := hz.trans (if_neg c5)
    refine lv_iload_n hx hb d_Mo_timesOf_52 rfl (lv_at hl 0 rfl) ?_
    refine lv_if_eq (tgt := 60) hx hb d_Mo_timesOf_53 (by decide) (fun c6 => ?_) (fun c6 => ?_)
    · have hz := hz.trans (if_pos c6)
      refine lv_iconst (v := 1) hx hb d_Mo_timesOf_60 (by decide) ?_
      exact endI0 C hz hP hS d_Mo_timesOf_61
    · have hz := hz.trans (if_neg c6)
      refine lv_iconst (v := 0) hx hb d_Mo_timesOf_56 (by decide) ?_
      refine lv_goto (tgt := 61) hx hb d_Mo_timesOf_57 (by decide) ?_
      exact endI0 C hz hP hS d_Mo_timesOf_61
  · have hz := hz.trans (if_pos c5)
    refine lv_aload_n hx hb d_Mo_timesOf_43 rfl (lv_at hl 1 rfl) ?_
    refine gf C hP 0 19 fkMo rfl (by decide) rfl qf_Mo_72 (gMo_19 _ _) d_Mo_timesOf_44 ?_
    refine lv_iload_n hx hb d_Mo_timesOf_47 rfl (lv_at hl 2 rfl) ?_
    refine ldI C hP 12 rfl hs4 rfl d_Mo_timesOf_48 ?_
    refine lv_goto (tgt := 61) hx hb d_Mo_timesOf_49 (by decide) ?_
    exact endI0 C hz hP hS d_Mo_timesOf_61
noncomputable def sp_Mo_timesOf_30 (sK : IV) (p1 : Int32) (sA : IV)   : Int32 := sp_Mo_timesOf_31 sK p1 sA (0 : Int32)
def ok_Mo_timesOf_30 (sK : IV) (p1 : Int32) (sA : IV)    : Prop := ok_Mo_timesOf_31 sK p1 sA (0 : Int32)
set_option maxRecDepth 100000 in
set_option maxHeartbeats 4000000 in
theorem k_Mo_timesOf_30 {p : Program} {l : Launch} {e : Env} {s : State} {m : MethodId} {args : Array Value} {below : List Frame} {meth : Method} {c : Code} {g : GX} {mo : Nat} {a : Nat → Nat} {o : IV} {now : LV} {dr : LV} {pa : LV} {sa : LV} {iS : IV} {bu : IV} {tq : IV} {rT : IV} {wT : IV} {sK : IV} {sA : IV} {sB : IV} {sE : IV} {oq : IV} {bS : IV} {bE : IV} {bL : IV} {rp : IV} {p1 : Int32}  (C : Cx p s m args meth c (inW (wMo g mo a o now dr pa sa iS bu tq rT wT sK sA sB sE oq bS bE bL rp)) g "DecadeBridgeModel" b_Mo_timesOf (some .int) 3)  : HL_Mo_timesOf_30 p l e s m args below meth c g mo a o now dr pa sa iS bu tq rT wT sK sA sB sE oq bS bE bL rp p1 (sp_Mo_timesOf_30 sK p1 sA ) (ok_Mo_timesOf_30 sK p1 sA  ) := by
  intro _ hok z hz H locs ls hP hD hS hl
  obtain ⟨hx, hb, hr, hml, hown, hlk, hts, hK, hZo, hZ⟩ := id C
  unfold sp_Mo_timesOf_30 at hz
  unfold ok_Mo_timesOf_30 at hok
  refine lv_iconst (v := 0) hx hb d_Mo_timesOf_30 (by decide) ?_
  exact k_Mo_timesOf_31 C (0 : Int32) hok _ hz _ _ ls hP hD hS hl
noncomputable def sp_Mo_timesOf (p1 : Int32) (now : LV) (sK : IV) (sA : IV) : Int32 := if (now 43) ≤ (0 : Int64) then (sp_Mo_timesOf_30 sK p1 sA) else (lett (sp_Mo_isNull (now 44) now) fun (y2 : Int32) => if y2 = 0 then (sp_Mo_timesOf_30 sK p1 sA) else (sp_Mo_timesOf_31 sK p1 sA (1 : Int32)))
def ok_Mo_timesOf (p1 : Int32) (now : LV) (sK : IV) (sA : IV) : Prop := (((now 43) ≤ (0 : Int64) → ok_Mo_timesOf_30 sK p1 sA) ∧ (¬ ((now 43) ≤ (0 : Int64)) → lett (sp_Mo_isNull (now 44) now) fun (y2 : Int32) => ((y2 = 0 → ok_Mo_timesOf_30 sK p1 sA) ∧ (¬ (y2 = 0) → ok_Mo_timesOf_31 sK p1 sA (1 : Int32)))))
set_option maxRecDepth 100000 in
set_option maxHeartbeats 4000000 in
theorem c_Mo_timesOf (l : Launch) (g : GX) (mo : Nat) (a : Nat → Nat) (o : IV) (now : LV) (dr : LV) (pa : LV) (sa : LV) (iS : IV) (bu : IV) (tq : IV) (rT : IV) (wT : IV) (sK : IV) (sA : IV) (sB : IV) (sE : IV) (oq : IV) (bS : IV) (bE : IV) (bL : IV) (rp : IV) (p1 : Int32) (hok : ok_Mo_timesOf p1 now sK sA) : Met l y_Mo_timesOf (wsY y_Mo_timesOf b_Mo_timesOf 3 (some .int)) rm_Mo_timesOf (CP g [.ref mo, .int p1] (wMo g mo a o now dr pa sa iS bu tq rT wT sK sA sB sE oq bS bE bL rp)) (CI0 g (wMo g mo a o now dr pa sa iS bu tq rT wT sK sA sB sE oq bS bE bL rp) (sp_Mo_timesOf p1 now sK sA)) 0 0 (inW (wMo g mo a o now dr pa sa iS bu tq rT wT sK sA sB sE oq bS bE bL rp)) := by
  refine Met.ofW (cc := b_Mo_timesOf) (maxL := 3) (ret := (some .int)) pn_Mo rfl ?_
  intro p e s m args below meth c s₁ B hml hv
  obtain ⟨rfl, C, hP, hD, hS⟩ := enter "DecadeBridgeModel" rfl B hml hv
  obtain ⟨hx, hb, hr, hml, hown, hlk, hts, hK, hZo, hZ⟩ := id C
  refine entryW (lv := [(0, .ref mo), (1, .int p1)]) rfl (Nat.le_of_ble_eq_true rfl) (fun ls hl => ?_)
  obtain ⟨z, hz⟩ : ∃ z, z = sp_Mo_timesOf p1 now sK sA := ⟨_, rfl⟩
  rw [← hz]
  unfold sp_Mo_timesOf at hz
  unfold ok_Mo_timesOf at hok
  refine lv_aload_n hx hb d_Mo_timesOf_0 rfl (lv_at hl 0 rfl) ?_
  refine gf C hP 0 0 fkMo rfl (by decide) rfl qf_Mo_7 (gMo_0 _ _) d_Mo_timesOf_1 ?_
  refine lv_bipush (v := 43) hx hb d_Mo_timesOf_4 (by decide) ?_
  refine ldL C hP 1 rfl vi_43_215 cn_43 d_Mo_timesOf_6 ?_
  refine lv_lconst (v := 0) hx hb d_Mo_timesOf_7 (by decide) ?_
  refine lc_le (tgt := 30) hx hb d_Mo_timesOf_8 d_Mo_timesOf_9 (by decide) (fun c1 => ?_) (fun c1 => ?_)
  · have hz := hz.trans (if_pos c1)
    have hok := hok.1 c1
    exact k_Mo_timesOf_30 C () hok _ hz _ _ ls hP hD hS hl
  · have hz := hz.trans (if_neg c1)
    have hok := hok.2 c1
    refine lv_aload_n hx hb d_Mo_timesOf_12 rfl (lv_at hl 0 rfl) ?_
    refine lv_aload_n hx hb d_Mo_timesOf_13 rfl (lv_at hl 0 rfl) ?_
    refine gf C hP 0 0 fkMo rfl (by decide) rfl qf_Mo_7 (gMo_0 _ _) d_Mo_timesOf_14 ?_
    refine lv_bipush (v := 44) hx hb d_Mo_timesOf_17 (by decide) ?_
    refine ldL C hP 1 rfl vi_44_215 cn_44 d_Mo_timesOf_19 ?_
    have hB : SubW g (inW (wMo g mo a o now dr pa sa iS bu tq rT wT sK sA sB sE oq bS bE bL rp)) s (wMo g mo a o now dr pa sa iS bu tq rT wT sK sA sB sE oq bS bE bL rp) _ (List.range _) _ _ := (subF hP hD hS)
    refine goI0 hB (run_v C mf_Mo_isNull qm_Mo_223 (c_Mo_isNull l g mo a o now dr pa sa iS bu tq rT wT sK sA sB sE oq bS bE bL rp (now 44)) rfl rfl ⟨Nat.le_of_ble_eq_true rfl, Nat.le_of_ble_eq_true rfl⟩ ⟨Nat.le_of_ble_eq_true rfl, Nat.le_of_ble_eq_true rfl⟩ hB rfl rfl hl rfl rfl (Nat.le_of_ble_eq_true rfl) d_Mo_timesOf_20) (fun y2 ey2 H locs hP hS => ?_)
    have hz := lett_z hz ey2
    have hok := lett_o hok ey2
    refine lv_if_eq (tgt := 30) hx hb d_Mo_timesOf_23 (by decide) (fun c3 => ?_) (fun c3 => ?_)
    · have hz := hz.trans (if_pos c3)
      have hok := hok.1 c3
      exact k_Mo_timesOf_30 C () hok _ hz _ _ ls hP hD hS hl
    · have hz := hz.trans (if_neg c3)
      have hok := hok.2 c3
      refine lv_iconst (v := 1) hx hb d_Mo_timesOf_26 (by decide) ?_
      refine lv_goto (tgt := 31) hx hb d_Mo_timesOf_27 (by decide) ?_
      exact k_Mo_timesOf_31 C (1 : Int32) hok _ hz _ _ ls hP hD hS hl
abbrev rm_Mo_doSteps : Room := { frames := 14, cells := 0, slots := 0, locals := 326 }
def HL_Mo_doSteps_6 (p : Program) (l : Launch) (e : Env) (s : State) (m : MethodId) (args : Array Value) (below : List Frame) (meth : Method) (c : Code) (g : GX) (mo : Nat) (a : Nat → Nat) (ws0 : va_W) (o : IV) (dr : LV) (pa : LV) (sa : LV) (iS : IV) (bu : IV) (tq : IV) (rT : IV) (wT : IV) (sK : IV) (sA : IV) (sB : IV) (sE : IV) (oq : IV) (rp : IV) (sp : Int32 → Int32 → Int32 → LV → IV → IV → IV → (Int32 × LV × IV × IV × IV)) (ok : Int32 → Int32 → Int32 → LV → IV → IV → IV → Prop) : Prop := ∀ (x1p6 : Int32) (x2p6 : Int32) (x3p6 : Int32) (nowp6 : LV) (bSp6 : IV) (bEp6 : IV) (bLp6 : IV), ok x1p6 x2p6 x3p6 nowp6 bSp6 bEp6 bLp6 → ∀ z : (Int32 × LV × IV × IV × IV), z = sp x1p6 x2p6 x3p6 nowp6 bSp6 bEp6 bLp6 → ∀ (H : Heap) (locs : List Loc) (ls : Array Slot), va_P g.1 vwCl (wMo g mo a o nowp6 dr pa sa iS bu tq rT wT sK sA sB sE oq bSp6 bEp6 bLp6 rp) H → va_D (inW ws0) (wMo g mo a o nowp6 dr pa sa iS bu tq rT wT sK sA sB sE oq bSp6 bEp6 bLp6 rp) → va_S (inW ws0) s.heap H locs → lv_has ls 5 [(0, .ref mo), (1, .int x1p6), (2, .int x2p6), (3, .int x3p6)] → W p l e rm_Mo_doSteps s m args below meth c H locs 0 0 (MQ below (CI g ws0 (fun u : LV × IV × IV × IV => wMo g mo a o u.1 dr pa sa iS bu tq rT wT sK sA sB sE oq u.2.1 u.2.2.1 u.2.2.2 rp) z) args s 0 0 (inW ws0)) (F0 m 6 ls [])
def HL_Mo_doSteps_24 (p : Program) (l : Launch) (e : Env) (s : State) (m : MethodId) (args : Array Value) (below : List Frame) (meth : Method) (c : Code) (g : GX) (mo : Nat) (a : Nat → Nat) (ws0 : va_W) (o : IV) (nowp6 : LV) (dr : LV) (pa : LV) (sa : LV) (iS : IV) (bu : IV) (tq : IV) (rT : IV) (wT : IV) (sK : IV) (sA : IV) (sB : IV) (sE : IV) (oq : IV) (bSp6 : IV) (bEp6 : IV) (bLp6 : IV) (rp : IV) (x1p6 : Int32) (x2p6 : Int32) (x3p6 : Int32) (sp : (Int32 × LV × IV × IV × IV)) (ok : Prop) : Prop := ∀ (_ : Unit), ok → ∀ z : (Int32 × LV × IV × IV × IV), z = sp → ∀ (H : Heap) (locs : List Loc) (ls : Array Slot), va_P g.1 vwCl (wMo g mo a o nowp6 dr pa sa iS bu tq rT wT sK sA sB sE oq bSp6 bEp6 bLp6 rp) H → va_D (inW ws0) (wMo g mo a o nowp6 dr pa sa iS bu tq rT wT sK sA sB sE oq bSp6 bEp6 bLp6 rp) → va_S (inW ws0) s.heap H locs → lv_has ls 5 [(0, .ref mo), (1, .int x1p6), (2, .int x2p6), (3, .int x3p6)] → W p l e rm_Mo_doSteps s m args below meth c H locs 0 0 (MQ below (CI g ws0 (fun u : LV × IV × IV × IV => wMo g mo a o u.1 dr pa sa iS bu tq rT wT sK sA sB sE oq u.2.1 u.2.2.1 u.2.2.2 rp) z) args s 0 0 (inW ws0)) (F0 m 24 ls [])
def HL_Mo_doSteps_75 (p : Program) (l : Launch) (e : Env) (s : State) (m : MethodId) (args : Array Value) (below : List Frame) (meth : Method) (c : Code) (g : GX) (mo : Nat) (a : Nat → Nat) (ws0 : va_W) (o : IV) (nowp6 : LV) (dr : LV) (pa : LV) (sa : LV) (iS : IV) (bu : IV) (tq : IV) (rT : IV) (wT : IV) (sK : IV) (sA : IV) (sB : IV) (sE : IV) (oq : IV) (bSp6 : IV) (bEp6 : IV) (bL_7 : IV) (rp : IV) (x1p6 : Int32) (x2p6 : Int32) (sp : Int32 → (Int32 × LV × IV × IV × IV)) (ok : Int32 → Prop) : Prop := ∀ (t0p75 : Int32), ok t0p75 → ∀ z : (Int32 × LV × IV × IV × IV), z = sp t0p75 → ∀ (H : Heap) (locs : List Loc) (ls : Array Slot), va_P g.1 vwCl (wMo g mo a o nowp6 dr pa sa iS bu tq rT wT sK sA sB sE oq bSp6 bEp6 bL_7 rp) H → va_D (inW ws0) (wMo g mo a o nowp6 dr pa sa iS bu tq rT wT sK sA sB sE oq bSp6 bEp6 bL_7 rp) → va_S (inW ws0) s.heap H locs → lv_has ls 5 [(0, .ref mo), (1, .int x1p6), (2, .int x2p6)] → W p l e rm_Mo_doSteps s m args below meth c H locs 0 0 (MQ below (CI g ws0 (fun u : LV × IV × IV × IV => wMo g mo a o u.1 dr pa sa iS bu tq rT wT sK sA sB sE oq u.2.1 u.2.2.1 u.2.2.2 rp) z) args s 0 0 (inW ws0)) (F0 m 75 ls [.int t0p75])
def HL_Mo_doSteps_93 (p : Program) (l : Launch) (e : Env) (s : State) (m : MethodId) (args : Array Value) (below : List Frame) (meth : Method) (c : Code) (g : GX) (mo : Nat) (a : Nat → Nat) (ws0 : va_W) (o : IV) (nowp6 : LV) (dr : LV) (pa : LV) (sa : LV) (iS : IV) (bu : IV) (tq : IV) (rT : IV) (wT : IV) (sK : IV) (sA : IV) (sB : IV) (sE : IV) (oq : IV) (bSp6 : IV) (bEp6 : IV) (bL_7 : IV) (rp : IV) (x1p6 : Int32) (t0p75 : Int32) (x2p6 : Int32) (sp : Int32 → (Int32 × LV × IV × IV × IV)) (ok : Int32 → Prop) : Prop := ∀ (t1p93 : Int32), ok t1p93 → ∀ z : (Int32 × LV × IV × IV × IV), z = sp t1p93 → ∀ (H : Heap) (locs : List Loc) (ls : Array Slot), va_P g.1 vwCl (wMo g mo a o nowp6 dr pa sa iS bu tq rT wT sK sA sB sE oq bSp6 bEp6 bL_7 rp) H → va_D (inW ws0) (wMo g mo a o nowp6 dr pa sa iS bu tq rT wT sK sA sB sE oq bSp6 bEp6 bL_7 rp) → va_S (inW ws0) s.heap H locs → lv_has ls 5 [(0, .ref mo), (1, .int x1p6), (3, .int t0p75)] → W p l e rm_Mo_doSteps s m args below meth c H locs 0 0 (MQ below (CI g ws0 (fun u : LV × IV × IV × IV => wMo g mo a o u.1 dr pa sa iS bu tq rT wT sK sA sB sE oq u.2.1 u.2.2.1 u.2.2.2 rp) z) args s 0 0 (inW ws0)) (F0 m 93 ls [.int t1p93, .int x2p6])
def HL_Mo_doSteps_98 (p : Program) (l : Launch) (e : Env) (s : State) (m : MethodId) (args : Array Value) (below : List Frame) (meth : Method) (c : Code) (g : GX) (mo : Nat) (a : Nat → Nat) (ws0 : va_W) (o : IV) (nowp6 : LV) (dr : LV) (pa : LV) (sa : LV) (iS : IV) (bu : IV) (tq : IV) (rT : IV) (wT : IV) (sK : IV) (sA : IV) (sB : IV) (sE : IV) (oq : IV) (bSp6 : IV) (bEp6 : IV) (bLp6 : IV) (rp : IV) (x1p6 : Int32) (x2p6 : Int32) (x3p6 : Int32) (sp : (Int32 × LV × IV × IV × IV)) (ok : Prop) : Prop := ∀ (_ : Unit), ok → ∀ z : (Int32 × LV × IV × IV × IV), z = sp → ∀ (H : Heap) (locs : List Loc) (ls : Array Slot), va_P g.1 vwCl (wMo g mo a o nowp6 dr pa sa iS bu tq rT wT sK sA sB sE oq bSp6 bEp6 bLp6 rp) H → va_D (inW ws0) (wMo g mo a o nowp6 dr pa sa iS bu tq rT wT sK sA sB sE oq bSp6 bEp6 bLp6 rp) → va_S (inW ws0) s.heap H locs → lv_has ls 5 [(0, .ref mo), (1, .int x1p6), (2, .int x2p6), (3, .int x3p6)] → W p l e rm_Mo_doSteps s m args below meth c H locs 0 0 (MQ below (CI g ws0 (fun u : LV × IV × IV × IV => wMo g mo a o u.1 dr pa sa iS bu tq rT wT sK sA sB sE oq u.2.1 u.2.2.1 u.2.2.2 rp) z) args s 0 0 (inW ws0)) (F0 m 98 ls [])
def HL_Mo_doSteps_153 (p : Program) (l : Launch) (e : Env) (s : State) (m : MethodId) (args : Array Value) (below : List Frame) (meth : Method) (c : Code) (g : GX) (mo : Nat) (a : Nat → Nat) (ws0 : va_W) (o : IV) (nowp6 : LV) (dr : LV) (pa : LV) (sa : LV) (iS : IV) (bu : IV) (tq : IV) (rT : IV) (wT : IV) (sK : IV) (sA : IV) (sB : IV) (sE : IV) (oq : IV) (rp : IV) (x1p6 : Int32) (x3p6 : Int32) (y20 : Int32) (sp : Int32 → IV → IV → IV → (Int32 × LV × IV × IV × IV)) (ok : Int32 → IV → IV → IV → Prop) : Prop := ∀ (x2p153 : Int32) (bSp153 : IV) (bEp153 : IV) (bLp153 : IV), ok x2p153 bSp153 bEp153 bLp153 → ∀ z : (Int32 × LV × IV × IV × IV), z = sp x2p153 bSp153 bEp153 bLp153 → ∀ (H : Heap) (locs : List Loc) (ls : Array Slot), va_P g.1 vwCl (wMo g mo a o nowp6 dr pa sa iS bu tq rT wT sK sA sB sE oq bSp153 bEp153 bLp153 rp) H → va_D (inW ws0) (wMo g mo a o nowp6 dr pa sa iS bu tq rT wT sK sA sB sE oq bSp153 bEp153 bLp153 rp) → va_S (inW ws0) s.heap H locs → lv_has ls 5 [(0, .ref mo), (1, .int x1p6), (2, .int x2p153), (3, .int x3p6), (4, .int y20)] → W p l e rm_Mo_doSteps s m args below meth c H locs 0 0 (MQ below (CI g ws0 (fun u : LV × IV × IV × IV => wMo g mo a o u.1 dr pa sa iS bu tq rT wT sK sA sB sE oq u.2.1 u.2.2.1 u.2.2.2 rp) z) args s 0 0 (inW ws0)) (F0 m 153 ls [])
def HL_Mo_doSteps_170 (p : Program) (l : Launch) (e : Env) (s : State) (m : MethodId) (args : Array Value) (below : List Frame) (meth : Method) (c : Code) (g : GX) (mo : Nat) (a : Nat → Nat) (ws0 : va_W) (o : IV) (nowp6 : LV) (dr : LV) (pa : LV) (sa : LV) (iS : IV) (bu : IV) (tq : IV) (rT : IV) (wT : IV) (sK : IV) (sA : IV) (sB : IV) (sE : IV) (oq : IV) (bSp153 : IV) (bEp153 : IV) (bLp153 : IV) (rp : IV) (x1p6 : Int32) (x2p153 : Int32) (sp : Int32 → (Int32 × LV × IV × IV × IV)) (ok : Int32 → Prop) : Prop := ∀ (t0p170 : Int32), ok t0p170 → ∀ z : (Int32 × LV × IV × IV × IV), z = sp t0p170 → ∀ (H : Heap) (locs : List Loc) (ls : Array Slot), va_P g.1 vwCl (wMo g mo a o nowp6 dr pa sa iS bu tq rT wT sK sA sB sE oq bSp153 bEp153 bLp153 rp) H → va_D (inW ws0) (wMo g mo a o nowp6 dr pa sa iS bu tq rT wT sK sA sB sE oq bSp153 bEp153 bLp153 rp) → va_S (inW ws0) s.heap H locs → lv_has ls 5 [(0, .ref mo), (1, .int x1p6), (2, .int x2p153)] → W p l e rm_Mo_doSteps s m args below meth c H locs 0 0 (MQ below (CI g ws0 (fun u : LV × IV × IV × IV => wMo g mo a o u.1 dr pa sa iS bu tq rT wT sK sA sB sE oq u.2.1 u.2.2.1 u.2.2.2 rp) z) args s 0 0 (inW ws0)) (F0 m 170 ls [.int t0p170])
noncomputable def sp_Mo_doSteps_170 (x1p6 : Int32) (x2p153 : Int32) (nowp6 : LV) (bSp153 : IV) (bEp153 : IV) (bLp153 : IV) (r6 : Int32 → Int32 → Int32 → LV → IV → IV → IV → (Int32 × LV × IV × IV × IV)) (t0p170 : Int32) : Int32 × LV × IV × IV × IV := r6 x1p6 x2p153 t0p170 nowp6 bSp153 bEp153 bLp153
def ok_Mo_doSteps_170 (x1p6 : Int32) (x2p153 : Int32) (nowp6 : LV) (bSp153 : IV) (bEp153 : IV) (bLp153 : IV) (r6 : Int32 → Int32 → Int32 → LV → IV → IV → IV → (Int32 × LV × IV × IV × IV)) (q6 : Int32 → Int32 → Int32 → LV → IV → IV → IV → Prop) (t0p170 : Int32) : Prop := q6 x1p6 x2p153 t0p170 nowp6 bSp153 bEp153 bLp153
set_option maxRecDepth 100000 in
set_option maxHeartbeats 4000000 in
theorem k_Mo_doSteps_170 {p : Program} {l : Launch} {e : Env} {s : State} {m : MethodId} {args : Array Value} {below : List Frame} {meth : Method} {c : Code} {g : GX} {mo : Nat} {a : Nat → Nat} {ws0 : va_W} {o : IV} {nowp6 : LV} {dr : LV} {pa : LV} {sa : LV} {iS : IV} {bu : IV} {tq : IV} {rT : IV} {wT : IV} {sK : IV} {sA : IV} {sB : IV} {sE : IV} {oq : IV} {bSp153 : IV} {bEp153 : IV} {bLp153 : IV} {rp : IV} {x1p6 : Int32} {x2p153 : Int32} {r6 : Int32 → Int32 → Int32 → LV → IV → IV → IV → (Int32 × LV × IV × IV × IV)} {q6 : Int32 → Int32 → Int32 → LV → IV → IV → IV → Prop} (C : Cx p s m args meth c (inW ws0) g "DecadeBridgeModel" b_Mo_doSteps (some .int) 5) (ih6 : HL_Mo_doSteps_6 p l e s m args below meth c g mo a ws0 o dr pa sa iS bu tq rT wT sK sA sB sE oq rp r6 q6) : HL_Mo_doSteps_170 p l e s m args below meth c g mo a ws0 o nowp6 dr pa sa iS bu tq rT wT sK sA sB sE oq bSp153 bEp153 bLp153 rp x1p6 x2p153 (sp_Mo_doSteps_170 x1p6 x2p153 nowp6 bSp153 bEp153 bLp153 r6) (ok_Mo_doSteps_170 x1p6 x2p153 nowp6 bSp153 bEp153 bLp153 r6 q6) := by
  intro t0p170 hok z hz H locs ls hP hD hS hl
  obtain ⟨hx, hb, hr, hml, hown, hlk, hts, hK, hZo, hZ⟩ := id C
  unfold sp_Mo_doSteps_170 at hz
  unfold ok_Mo_doSteps_170 at hok
  refine lv_istore_n (lv' := [(3, .int t0p170), (0, .ref mo), (1, .int x1p6), (2, .int x2p153)]) hx hb d_Mo_doSteps_170 rfl hl (by decide) rfl (fun ls hl => ?_)
  refine lv_goto (tgt := 6) hx hb d_Mo_doSteps_171 (by decide) ?_
  exact ih6 x1p6 x2p153 t0p170 nowp6 bSp153 bEp153 bLp153 hok _ hz _ _ ls hP hD hS (lv_sub hl [1, 2, 3, 0] rfl)
noncomputable def sp_Mo_doSteps_153 (y20 : Int32) (x1p6 : Int32) (nowp6 : LV) (sE : IV) (x3p6 : Int32) (r6 : Int32 → Int32 → Int32 → LV → IV → IV → IV → (Int32 × LV × IV × IV × IV)) (x2p153 : Int32) (bSp153 : IV) (bEp153 : IV) (bLp153 : IV) : Int32 × LV × IV × IV × IV := if y20 ≤ 0 then (sp_Mo_doSteps_170 x1p6 x2p153 nowp6 bSp153 bEp153 bLp153 r6 (sE x3p6.toNatClampNeg)) else (sp_Mo_doSteps_170 x1p6 x2p153 nowp6 bSp153 bEp153 bLp153 r6 (x3p6 + (1 : Int32)))
def ok_Mo_doSteps_153 (y20 : Int32) (x1p6 : Int32) (nowp6 : LV) (sE : IV) (x3p6 : Int32) (r6 : Int32 → Int32 → Int32 → LV → IV → IV → IV → (Int32 × LV × IV × IV × IV)) (q6 : Int32 → Int32 → Int32 → LV → IV → IV → IV → Prop) (x2p153 : Int32) (bSp153 : IV) (bEp153 : IV) (bLp153 : IV) : Prop := ((y20 ≤ 0 → (vp_in x3p6 30) ∧ ok_Mo_doSteps_170 x1p6 x2p153 nowp6 bSp153 bEp153 bLp153 r6 q6 (sE x3p6.toNatClampNeg)) ∧ (¬ (y20 ≤ 0) → ok_Mo_doSteps_170 x1p6 x2p153 nowp6 bSp153 bEp153 bLp153 r6 q6 (x3p6 + (1 : Int32))))
set_option maxRecDepth 100000 in
set_option maxHeartbeats 4000000 in
theorem k_Mo_doSteps_153 {p : Program} {l : Launch} {e : Env} {s : State} {m : MethodId} {args : Array Value} {below : List Frame} {meth : Method} {c : Code} {g : GX} {mo : Nat} {a : Nat → Nat} {ws0 : va_W} {o : IV} {nowp6 : LV} {dr : LV} {pa : LV} {sa : LV} {iS : IV} {bu : IV} {tq : IV} {rT : IV} {wT : IV} {sK : IV} {sA : IV} {sB : IV} {sE : IV} {oq : IV} {rp : IV} {x1p6 : Int32} {x3p6 : Int32} {y20 : Int32} {r6 : Int32 → Int32 → Int32 → LV → IV → IV → IV → (Int32 × LV × IV × IV × IV)} {q6 : Int32 → Int32 → Int32 → LV → IV → IV → IV → Prop} (C : Cx p s m args meth c (inW ws0) g "DecadeBridgeModel" b_Mo_doSteps (some .int) 5) (ih6 : HL_Mo_doSteps_6 p l e s m args below meth c g mo a ws0 o dr pa sa iS bu tq rT wT sK sA sB sE oq rp r6 q6) : HL_Mo_doSteps_153 p l e s m args below meth c g mo a ws0 o nowp6 dr pa sa iS bu tq rT wT sK sA sB sE oq rp x1p6 x3p6 y20 (sp_Mo_doSteps_153 y20 x1p6 nowp6 sE x3p6 r6) (ok_Mo_doSteps_153 y20 x1p6 nowp6 sE x3p6 r6 q6) := by
  intro x2p153 bSp153 bEp153 bLp153 hok z hz H locs ls hP hD hS hl
  obtain ⟨hx, hb, hr, hml, hown, hlk, hts, hK, hZo, hZ⟩ := id C
  unfold sp_Mo_doSteps_153 at hz
  unfold ok_Mo_doSteps_153 at hok
  refine lv_iload hx hb d_Mo_doSteps_153 (lv_at hl 4 rfl) ?_
  refine lv_if_le (tgt := 164) hx hb d_Mo_doSteps_155 (by decide) (fun c27 => ?_) (fun c27 => ?_)
  · have hz := hz.trans (if_pos c27)
    have hok := hok.1 c27
    refine lv_aload_n hx hb d_Mo_doSteps_164 rfl (lv_at hl 0 rfl) ?_
    refine gf C hP 0 21 fkMo rfl (by decide) rfl qf_Mo_78 (gMo_21 _ _) d_Mo_doSteps_165 ?_
    refine lv_iload_n hx hb d_Mo_doSteps_168 rfl (lv_at hl 3 rfl) ?_
    have hs28 := hok.1
    have hok := hok.2
    refine ldI C hP 14 rfl hs28 rfl d_Mo_doSteps_169 ?_
    exact k_Mo_doSteps_170 C ih6 (sE x3p6.toNatClampNeg) hok _ hz _ _ ls hP hD hS (lv_sub hl [0, 1, 2] rfl)
  · have hz := hz.trans (if_neg c27)
    have hok := hok.2 c27
    refine lv_iload_n hx hb d_Mo_doSteps_158 rfl (lv_at hl 3 rfl) ?_
    refine lv_iconst (v := 1) hx hb d_Mo_doSteps_159 (by decide) ?_
    refine lv_iadd hx hb d_Mo_doSteps_160 ?_
    refine lv_goto (tgt := 170) hx hb d_Mo_doSteps_161 (by decide) ?_
    exact k_Mo_doSteps_170 C ih6 (x3p6 + (1 : Int32)) hok _ hz _ _ ls hP hD hS (lv_sub hl [0, 1, 2] rfl)
noncomputable def sp_Mo_doSteps_98 (sK : IV) (x3p6 : Int32) (nowp6 : LV) (sA : IV) (sB : IV) (x1p6 : Int32) (x2p6 : Int32) (bSp6 : IV) (bEp6 : IV) (bLp6 : IV) (sE : IV) (r6 : Int32 → Int32 → Int32 → LV → IV → IV → IV → (Int32 × LV × IV × IV × IV))  : Int32 × LV × IV × IV × IV := if (sK x3p6.toNatClampNeg) < (8 : Int32) then (lett (sp_Mo_doStep x3p6 nowp6 sK sA sB) fun (y15 : Int32 × LV) => if 0 ≤ y15.1 then (lett (x1p6 + (1 : Int32)) fun (v17 : Int32) => lett (x3p6 + (1 : Int32)) fun (v18 : Int32) => r6 v17 x2p6 v18 y15.2 bSp6 bEp6 bLp6) else ((x1p6, (y15.2, bSp6, bEp6, bLp6)))) else (lett (sp_Mo_timesOf x3p6 nowp6 sK sA) fun (y20 : Int32) => if y20 ≤ 0 then (sp_Mo_doSteps_153 y20 x1p6 nowp6 sE x3p6 r6 x2p6 bSp6 bEp6 bLp6) else (lett (upd bSp6 x2p6.toNatClampNeg (x3p6 + (1 : Int32))) fun (bS_23 : IV) => lett (upd bEp6 x2p6.toNatClampNeg (sE x3p6.toNatClampNeg)) fun (bE_24 : IV) => lett (upd bLp6 x2p6.toNatClampNeg y20) fun (bL_25 : IV) => lett (x2p6 + (1 : Int32)) fun (v26 : Int32) => sp_Mo_doSteps_153 y20 x1p6 nowp6 sE x3p6 r6 v26 bS_23 bE_24 bL_25))
def ok_Mo_doSteps_98 (sK : IV) (x3p6 : Int32) (nowp6 : LV) (sA : IV) (sB : IV) (x1p6 : Int32) (x2p6 : Int32) (bSp6 : IV) (bEp6 : IV) (bLp6 : IV) (sE : IV) (r6 : Int32 → Int32 → Int32 → LV → IV → IV → IV → (Int32 × LV × IV × IV × IV)) (q6 : Int32 → Int32 → Int32 → LV → IV → IV → IV → Prop)  : Prop := (vp_in x3p6 30) ∧ (((sK x3p6.toNatClampNeg) < (8 : Int32) → (ok_Mo_doStep x3p6 nowp6 sK sA sB) ∧ lett (sp_Mo_doStep x3p6 nowp6 sK sA sB) fun (y15 : Int32 × LV) => ((0 ≤ y15.1 → lett (x1p6 + (1 : Int32)) fun (v17 : Int32) => lett (x3p6 + (1 : Int32)) fun (v18 : Int32) => q6 v17 x2p6 v18 y15.2 bSp6 bEp6 bLp6) ∧ (¬ (0 ≤ y15.1) → True))) ∧ (¬ ((sK x3p6.toNatClampNeg) < (8 : Int32)) → (ok_Mo_timesOf x3p6 nowp6 sK sA) ∧ lett (sp_Mo_timesOf x3p6 nowp6 sK sA) fun (y20 : Int32) => ((y20 ≤ 0 → ok_Mo_doSteps_153 y20 x1p6 nowp6 sE x3p6 r6 q6 x2p6 bSp6 bEp6 bLp6) ∧ (¬ (y20 ≤ 0) → (vp_in x2p6 2) ∧ lett (upd bSp6 x2p6.toNatClampNeg (x3p6 + (1 : Int32))) fun (bS_23 : IV) => lett (upd bEp6 x2p6.toNatClampNeg (sE x3p6.toNatClampNeg)) fun (bE_24 : IV) => lett (upd bLp6 x2p6.toNatClampNeg y20) fun (bL_25 : IV) => lett (x2p6 + (1 : Int32)) fun (v26 : Int32) => ok_Mo_doSteps_153 y20 x1p6 nowp6 sE x3p6 r6 q6 v26 bS_23 bE_24 bL_25))))
set_option maxRecDepth 100000 in
set_option maxHeartbeats 4000000 in
theorem k_Mo_doSteps_98 {p : Program} {l : Launch} {e : Env} {s : State} {m : MethodId} {args : Array Value} {below : List Frame} {meth : Method} {c : Code} {g : GX} {mo : Nat} {a : Nat → Nat} {ws0 : va_W} {o : IV} {nowp6 : LV} {dr : LV} {pa : LV} {sa : LV} {iS : IV} {bu : IV} {tq : IV} {rT : IV} {wT : IV} {sK : IV} {sA : IV} {sB : IV} {sE : IV} {oq : IV} {bSp6 : IV} {bEp6 : IV} {bLp6 : IV} {rp : IV} {x1p6 : Int32} {x2p6 : Int32} {x3p6 : Int32} {r6 : Int32 → Int32 → Int32 → LV → IV → IV → IV → (Int32 × LV × IV × IV × IV)} {q6 : Int32 → Int32 → Int32 → LV → IV → IV → IV → Prop} (C : Cx p s m args meth c (inW ws0) g "DecadeBridgeModel" b_Mo_doSteps (some .int) 5) (ih6 : HL_Mo_doSteps_6 p l e s m args below meth c g mo a ws0 o dr pa sa iS bu tq rT wT sK sA sB sE oq rp r6 q6) : HL_Mo_doSteps_98 p l e s m args below meth c g mo a ws0 o nowp6 dr pa sa iS bu tq rT wT sK sA sB sE oq bSp6 bEp6 bLp6 rp x1p6 x2p6 x3p6 (sp_Mo_doSteps_98 sK x3p6 nowp6 sA sB x1p6 x2p6 bSp6 bEp6 bLp6 sE r6) (ok_Mo_doSteps_98 sK x3p6 nowp6 sA sB x1p6 x2p6 bSp6 bEp6 bLp6 sE r6 q6) := by
  intro _ hok z hz H locs ls hP hD hS hl
  obtain ⟨hx, hb, hr, hml, hown, hlk, hts, hK, hZo, hZ⟩ := id C
  unfold sp_Mo_doSteps_98 at hz
  unfold ok_Mo_doSteps_98 at hok
  refine lv_aload_n hx hb d_Mo_doSteps_98 rfl (lv_at hl 0 rfl) ?_
  refine gf C hP 0 18 fkMo rfl (by decide) rfl qf_Mo_69 (gMo_18 _ _) d_Mo_doSteps_99 ?_
  refine lv_iload_n hx hb d_Mo_doSteps_102 rfl (lv_at hl 3 rfl) ?_
  have hs12 := hok.1
  have hok := hok.2
  refine ldI C hP 11 rfl hs12 rfl d_Mo_doSteps_103 ?_
  refine lv_bipush (v := 8) hx hb d_Mo_doSteps_104 (by decide) ?_
  refine lv_icmp_lt (tgt := 174) hx hb d_Mo_doSteps_106 (by decide) (fun c13 => ?_) (fun c13 => ?_)
  · have hz := hz.trans (if_pos c13)
    have hok := hok.1 c13
    refine lv_aload_n hx hb d_Mo_doSteps_174 rfl (lv_at hl 0 rfl) ?_
    refine lv_iload_n hx hb d_Mo_doSteps_175 rfl (lv_at hl 3 rfl) ?_
    have hs14 := hok.1
    have hok := hok.2
    have hB : SubW g (inW ws0) s (wMo g mo a o nowp6 dr pa sa iS bu tq rT wT sK sA sB sE oq bSp6 bEp6 bLp6 rp) _ (List.range _) _ _ := (subF hP hD hS)
    refine goIF hB (run_v C mf_Mo_doStep qm_Mo_534 (c_Mo_doStep l g mo a o nowp6 dr pa sa iS bu tq rT wT sK sA sB sE oq bSp6 bEp6 bLp6 rp x3p6 hs14) rfl rfl ⟨Nat.le_of_ble_eq_true rfl, Nat.le_of_ble_eq_true rfl⟩ ⟨Nat.le_of_ble_eq_true rfl, Nat.le_of_ble_eq_true rfl⟩ hB rfl rfl hl rfl rfl (Nat.le_of_ble_eq_true rfl) d_Mo_doSteps_176) (fun _ => rfl) (fun y15 ey15 H locs hP hD hS => ?_)
    have hP : va_P g.1 vwCl (wMo g mo a o y15.2 dr pa sa iS bu tq rT wT sK sA sB sE oq bSp6 bEp6 bLp6 rp) H := hP
    have hD : va_D (inW ws0) (wMo g mo a o y15.2 dr pa sa iS bu tq rT wT sK sA sB sE oq bSp6 bEp6 bLp6 rp) := hD
    have hz := lett_z hz ey15
    have hok := lett_o hok ey15
    refine lv_if_ge (tgt := 184) hx hb d_Mo_doSteps_179 (by decide) (fun c16 => ?_) (fun c16 => ?_)
    · have hz := hz.trans (if_pos c16)
      have hok := hok.1 c16
      obtain ⟨v17, ev17⟩ : ∃ y : Int32, y = x1p6 + (1 : Int32) := ⟨_, rfl⟩
      have hz := lett_z hz ev17
      have hok := lett_o hok ev17
      refine lv_iinc (v := v17) (lv' := [(1, .int v17), (0, .ref mo), (2, .int x2p6), (3, .int x3p6)]) hx hb d_Mo_doSteps_184 hl (k := 1) rfl (by rw [ev17]; rfl) (by decide) rfl (fun ls hl => ?_)
      obtain ⟨v18, ev18⟩ : ∃ y : Int32, y = x3p6 + (1 : Int32) := ⟨_, rfl⟩
      have hz := lett_z hz ev18
      have hok := lett_o hok ev18
      refine lv_iinc (v := v18) (lv' := [(3, .int v18), (1, .int v17), (0, .ref mo), (2, .int x2p6)]) hx hb d_Mo_doSteps_187 hl (k := 3) rfl (by rw [ev18]; rfl) (by decide) rfl (fun ls hl => ?_)
      refine lv_goto (tgt := 6) hx hb d_Mo_doSteps_190 (by decide) ?_
      exact ih6 v17 x2p6 v18 y15.2 bSp6 bEp6 bLp6 hok _ hz _ _ ls hP hD hS (lv_sub hl [2, 1, 3, 0] rfl)
    · have hz := hz.trans (if_neg c16)
      refine lv_iload_n hx hb d_Mo_doSteps_182 rfl (lv_at hl 1 rfl) ?_
      exact endI1 C hz hP hS d_Mo_doSteps_183
  · have hz := hz.trans (if_neg c13)
    have hok := hok.2 c13
    refine lv_aload_n hx hb d_Mo_doSteps_109 rfl (lv_at hl 0 rfl) ?_
    refine lv_iload_n hx hb d_Mo_doSteps_110 rfl (lv_at hl 3 rfl) ?_
    have hs19 := hok.1
    have hok := hok.2
    have hB : SubW g (inW ws0) s (wMo g mo a o nowp6 dr pa sa iS bu tq rT wT sK sA sB sE oq bSp6 bEp6 bLp6 rp) _ (List.range _) _ _ := (subF hP hD hS)
    refine goI0 hB (run_v C mf_Mo_timesOf qm_Mo_531 (c_Mo_timesOf l g mo a o nowp6 dr pa sa iS bu tq rT wT sK sA sB sE oq bSp6 bEp6 bLp6 rp x3p6 hs19) rfl rfl ⟨Nat.le_of_ble_eq_true rfl, Nat.le_of_ble_eq_true rfl⟩ ⟨Nat.le_of_ble_eq_true rfl, Nat.le_of_ble_eq_true rfl⟩ hB rfl rfl hl rfl rfl (Nat.le_of_ble_eq_true rfl) d_Mo_doSteps_111) (fun y20 ey20 H locs hP hS => ?_)
    have hz := lett_z hz ey20
    have hok := lett_o hok ey20
    refine lv_istore (lv' := [(4, .int y20), (0, .ref mo), (1, .int x1p6), (2, .int x2p6), (3, .int x3p6)]) hx hb d_Mo_doSteps_114 hl (by decide) rfl (fun ls hl => ?_)
    refine lv_iload hx hb d_Mo_doSteps_116 (lv_at hl 0 rfl) ?_
    refine lv_if_le (tgt := 153) hx hb d_Mo_doSteps_118 (by decide) (fun c21 => ?_) (fun c21 => ?_)
    · have hz := hz.trans (if_pos c21)
      have hok := hok.1 c21
      exact k_Mo_doSteps_153 C ih6 x2p6 bSp6 bEp6 bLp6 hok _ hz _ _ ls hP hD hS (lv_sub hl [1, 2, 3, 4, 0] rfl)
    · have hz := hz.trans (if_neg c21)
      have hok := hok.2 c21
      refine lv_aload_n hx hb d_Mo_doSteps_121 rfl (lv_at hl 1 rfl) ?_
      refine gf C hP 0 24 fkMo rfl (by decide) rfl qf_Mo_84 (gMo_24 _ _) d_Mo_doSteps_122 ?_
      refine lv_iload_n hx hb d_Mo_doSteps_125 rfl (lv_at hl 3 rfl) ?_
      refine lv_iload_n hx hb d_Mo_doSteps_126 rfl (lv_at hl 4 rfl) ?_
      refine lv_iconst (v := 1) hx hb d_Mo_doSteps_127 (by decide) ?_
      refine lv_iadd hx hb d_Mo_doSteps_128 ?_
      have hs22 := hok.1
      have hok := hok.2
      refine stI C hP hD hS 16 rfl hs22 rfl d_Mo_doSteps_129 (fun bS_23 ebS_23 H locs hP hD hS => ?_)
      have hP : va_P g.1 vwCl (wMo g mo a o nowp6 dr pa sa iS bu tq rT wT sK sA sB sE oq bS_23 bEp6 bLp6 rp) H := hP
      have hD : va_D (inW ws0) (wMo g mo a o nowp6 dr pa sa iS bu tq rT wT sK sA sB sE oq bS_23 bEp6 bLp6 rp) := hD
      have hz := lett_z hz ebS_23
      have hok := lett_o hok ebS_23
      refine lv_aload_n hx hb d_Mo_doSteps_130 rfl (lv_at hl 1 rfl) ?_
      refine gf C hP 0 25 fkMo rfl (by decide) rfl qf_Mo_87 (gMo_25 _ _) d_Mo_doSteps_131 ?_
      refine lv_iload_n hx hb d_Mo_doSteps_134 rfl (lv_at hl 3 rfl) ?_
      refine lv_aload_n hx hb d_Mo_doSteps_135 rfl (lv_at hl 1 rfl) ?_
      refine gf C hP 0 21 fkMo rfl (by decide) rfl qf_Mo_78 (gMo_21 _ _) d_Mo_doSteps_136 ?_
      refine lv_iload_n hx hb d_Mo_doSteps_139 rfl (lv_at hl 4 rfl) ?_
      refine ldI C hP 14 rfl hs12 rfl d_Mo_doSteps_140 ?_
      refine stI C hP hD hS 17 rfl hs22 rfl d_Mo_doSteps_141 (fun bE_24 ebE_24 H locs hP hD hS => ?_)
      have hP : va_P g.1 vwCl (wMo g mo a o nowp6 dr pa sa iS bu tq rT wT sK sA sB sE oq bS_23 bE_24 bLp6 rp) H := hP
      have hD : va_D (inW ws0) (wMo g mo a o nowp6 dr pa sa iS bu tq rT wT sK sA sB sE oq bS_23 bE_24 bLp6 rp) := hD
      have hz := lett_z hz ebE_24
      have hok := lett_o hok ebE_24
      refine lv_aload_n hx hb d_Mo_doSteps_142 rfl (lv_at hl 1 rfl) ?_
      refine gf C hP 0 26 fkMo rfl (by decide) rfl qf_Mo_90 (gMo_26 _ _) d_Mo_doSteps_143 ?_
      refine lv_iload_n hx hb d_Mo_doSteps_146 rfl (lv_at hl 3 rfl) ?_
      refine lv_iload hx hb d_Mo_doSteps_147 (lv_at hl 0 rfl) ?_
      refine stI C hP hD hS 18 rfl hs22 rfl d_Mo_doSteps_149 (fun bL_25 ebL_25 H locs hP hD hS => ?_)
      have hP : va_P g.1 vwCl (wMo g mo a o nowp6 dr pa sa iS bu tq rT wT sK sA sB sE oq bS_23 bE_24 bL_25 rp) H := hP
      have hD : va_D (inW ws0) (wMo g mo a o nowp6 dr pa sa iS bu tq rT wT sK sA sB sE oq bS_23 bE_24 bL_25 rp) := hD
      have hz := lett_z hz ebL_25
      have hok := lett_o hok ebL_25
      obtain ⟨v26, ev26⟩ : ∃ y : Int32, y = x2p6 + (1 : Int32) := ⟨_, rfl⟩
      have hz := lett_z hz ev26
      have hok := lett_o hok ev26
      refine lv_iinc (v := v26) (lv' := [(2, .int v26), (4, .int y20), (0, .ref mo), (1, .int x1p6), (3, .int x3p6)]) hx hb d_Mo_doSteps_150 hl (k := 3) rfl (by rw [ev26]; rfl) (by decide) rfl (fun ls hl => ?_)
      exact k_Mo_doSteps_153 C ih6 v26 bS_23 bE_24 bL_25 hok _ hz _ _ ls hP hD hS (lv_sub hl [2, 3, 0, 4, 1] rfl)
noncomputable def sp_Mo_doSteps_93 (x2p6 : Int32) (x1p6 : Int32) (t0p75 : Int32) (nowp6 : LV) (bSp6 : IV) (bEp6 : IV) (bL_7 : IV) (r6 : Int32 → Int32 → Int32 → LV → IV → IV → IV → (Int32 × LV × IV × IV × IV)) (t1p93 : Int32) : Int32 × LV × IV × IV × IV := lett (x2p6 - t1p93) fun (v11 : Int32) => r6 x1p6 v11 t0p75 nowp6 bSp6 bEp6 bL_7
def ok_Mo_doSteps_93 (x2p6 : Int32) (x1p6 : Int32) (t0p75 : Int32) (nowp6 : LV) (bSp6 : IV) (bEp6 : IV) (bL_7 : IV) (r6 : Int32 → Int32 → Int32 → LV → IV → IV → IV → (Int32 × LV × IV × IV × IV)) (q6 : Int32 → Int32 → Int32 → LV → IV → IV → IV → Prop) (t1p93 : Int32) : Prop := lett (x2p6 - t1p93) fun (v11 : Int32) => q6 x1p6 v11 t0p75 nowp6 bSp6 bEp6 bL_7
set_option maxRecDepth 100000 in
set_option maxHeartbeats 4000000 in
theorem k_Mo_doSteps_93 {p : Program} {l : Launch} {e : Env} {s : State} {m : MethodId} {args : Array Value} {below : List Frame} {meth : Method} {c : Code} {g : GX} {mo : Nat} {a : Nat → Nat} {ws0 : va_W} {o : IV} {nowp6 : LV} {dr : LV} {pa : LV} {sa : LV} {iS : IV} {bu : IV} {tq : IV} {rT : IV} {wT : IV} {sK : IV} {sA : IV} {sB : IV} {sE : IV} {oq : IV} {bSp6 : IV} {bEp6 : IV} {bL_7 : IV} {rp : IV} {x1p6 : Int32} {t0p75 : Int32} {x2p6 : Int32} {r6 : Int32 → Int32 → Int32 → LV → IV → IV → IV → (Int32 × LV × IV × IV × IV)} {q6 : Int32 → Int32 → Int32 → LV → IV → IV → IV → Prop} (C : Cx p s m args meth c (inW ws0) g "DecadeBridgeModel" b_Mo_doSteps (some .int) 5) (ih6 : HL_Mo_doSteps_6 p l e s m args below meth c g mo a ws0 o dr pa sa iS bu tq rT wT sK sA sB sE oq rp r6 q6) : HL_Mo_doSteps_93 p l e s m args below meth c g mo a ws0 o nowp6 dr pa sa iS bu tq rT wT sK sA sB sE oq bSp6 bEp6 bL_7 rp x1p6 t0p75 x2p6 (sp_Mo_doSteps_93 x2p6 x1p6 t0p75 nowp6 bSp6 bEp6 bL_7 r6) (ok_Mo_doSteps_93 x2p6 x1p6 t0p75 nowp6 bSp6 bEp6 bL_7 r6 q6) := by
  intro t1p93 hok z hz H locs ls hP hD hS hl
  obtain ⟨hx, hb, hr, hml, hown, hlk, hts, hK, hZo, hZ⟩ := id C
  unfold sp_Mo_doSteps_93 at hz
  unfold ok_Mo_doSteps_93 at hok
  refine lv_isub hx hb d_Mo_doSteps_93 ?_
  refine lv_topi (fun v11 ev11 => ?_)
  have hz := lett_z hz ev11
  have hok := lett_o hok ev11
  refine lv_istore_n (lv' := [(2, .int v11), (0, .ref mo), (1, .int x1p6), (3, .int t0p75)]) hx hb d_Mo_doSteps_94 rfl hl (by decide) rfl (fun ls hl => ?_)
  refine lv_goto (tgt := 6) hx hb d_Mo_doSteps_95 (by decide) ?_
  exact ih6 x1p6 v11 t0p75 nowp6 bSp6 bEp6 bL_7 hok _ hz _ _ ls hP hD hS (lv_sub hl [1, 2, 0, 3] rfl)
noncomputable def sp_Mo_doSteps_75 (bL_7 : IV) (x2p6 : Int32) (x1p6 : Int32) (nowp6 : LV) (bSp6 : IV) (bEp6 : IV) (r6 : Int32 → Int32 → Int32 → LV → IV → IV → IV → (Int32 × LV × IV × IV × IV)) (t0p75 : Int32) : Int32 × LV × IV × IV × IV := if (bL_7 (x2p6 - (1 : Int32)).toNatClampNeg) ≤ 0 then (sp_Mo_doSteps_93 x2p6 x1p6 t0p75 nowp6 bSp6 bEp6 bL_7 r6 (1 : Int32)) else (sp_Mo_doSteps_93 x2p6 x1p6 t0p75 nowp6 bSp6 bEp6 bL_7 r6 (0 : Int32))
def ok_Mo_doSteps_75 (bL_7 : IV) (x2p6 : Int32) (x1p6 : Int32) (nowp6 : LV) (bSp6 : IV) (bEp6 : IV) (r6 : Int32 → Int32 → Int32 → LV → IV → IV → IV → (Int32 × LV × IV × IV × IV)) (q6 : Int32 → Int32 → Int32 → LV → IV → IV → IV → Prop) (t0p75 : Int32) : Prop := (vp_in (x2p6 - (1 : Int32)) 2) ∧ (((bL_7 (x2p6 - (1 : Int32)).toNatClampNeg) ≤ 0 → ok_Mo_doSteps_93 x2p6 x1p6 t0p75 nowp6 bSp6 bEp6 bL_7 r6 q6 (1 : Int32)) ∧ (¬ ((bL_7 (x2p6 - (1 : Int32)).toNatClampNeg) ≤ 0) → ok_Mo_doSteps_93 x2p6 x1p6 t0p75 nowp6 bSp6 bEp6 bL_7 r6 q6 (0 : Int32)))
set_option maxRecDepth 100000 in
set_option maxHeartbeats 4000000 in
theorem k_Mo_doSteps_75 {p : Program} {l : Launch} {e : Env} {s : State} {m : MethodId} {args : Array Value} {below : List Frame} {meth : Method} {c : Code} {g : GX} {mo : Nat} {a : Nat → Nat} {ws0 : va_W} {o : IV} {nowp6 : LV} {dr : LV} {pa : LV} {sa : LV} {iS : IV} {bu : IV} {tq : IV} {rT : IV} {wT : IV} {sK : IV} {sA : IV} {sB : IV} {sE : IV} {oq : IV} {bSp6 : IV} {bEp6 : IV} {bL_7 : IV} {rp : IV} {x1p6 : Int32} {x2p6 : Int32} {r6 : Int32 → Int32 → Int32 → LV → IV → IV → IV → (Int32 × LV × IV × IV × IV)} {q6 : Int32 → Int32 → Int32 → LV → IV → IV → IV → Prop} (C : Cx p s m args meth c (inW ws0) g "DecadeBridgeModel" b_Mo_doSteps (some .int) 5) (ih6 : HL_Mo_doSteps_6 p l e s m args below meth c g mo a ws0 o dr pa sa iS bu tq rT wT sK sA sB sE oq rp r6 q6) : HL_Mo_doSteps_75 p l e s m args below meth c g mo a ws0 o nowp6 dr pa sa iS bu tq rT wT sK sA sB sE oq bSp6 bEp6 bL_7 rp x1p6 x2p6 (sp_Mo_doSteps_75 bL_7 x2p6 x1p6 nowp6 bSp6 bEp6 r6) (ok_Mo_doSteps_75 bL_7 x2p6 x1p6 nowp6 bSp6 bEp6 r6 q6) := by
  intro t0p75 hok z hz H locs ls hP hD hS hl
  obtain ⟨hx, hb, hr, hml, hown, hlk, hts, hK, hZo, hZ⟩ := id C
  unfold sp_Mo_doSteps_75 at hz
  unfold ok_Mo_doSteps_75 at hok
  refine lv_istore_n (lv' := [(3, .int t0p75), (0, .ref mo), (1, .int x1p6), (2, .int x2p6)]) hx hb d_Mo_doSteps_75 rfl hl (by decide) rfl (fun ls hl => ?_)
  refine lv_iload_n hx hb d_Mo_doSteps_76 rfl (lv_at hl 3 rfl) ?_
  refine lv_aload_n hx hb d_Mo_doSteps_77 rfl (lv_at hl 1 rfl) ?_
  refine gf C hP 0 26 fkMo rfl (by decide) rfl qf_Mo_90 (gMo_26 _ _) d_Mo_doSteps_78 ?_
  refine lv_iload_n hx hb d_Mo_doSteps_81 rfl (lv_at hl 3 rfl) ?_
  refine lv_iconst (v := 1) hx hb d_Mo_doSteps_82 (by decide) ?_
  refine lv_isub hx hb d_Mo_doSteps_83 ?_
  have hs9 := hok.1
  have hok := hok.2
  refine ldI C hP 18 rfl hs9 rfl d_Mo_doSteps_84 ?_
  refine lv_if_le (tgt := 92) hx hb d_Mo_doSteps_85 (by decide) (fun c10 => ?_) (fun c10 => ?_)
  · have hz := hz.trans (if_pos c10)
    have hok := hok.1 c10
    refine lv_iconst (v := 1) hx hb d_Mo_doSteps_92 (by decide) ?_
    exact k_Mo_doSteps_93 C ih6 (1 : Int32) hok _ hz _ _ ls hP hD hS (lv_sub hl [1, 2, 0] rfl)
  · have hz := hz.trans (if_neg c10)
    have hok := hok.2 c10
    refine lv_iconst (v := 0) hx hb d_Mo_doSteps_88 (by decide) ?_
    refine lv_goto (tgt := 93) hx hb d_Mo_doSteps_89 (by decide) ?_
    exact k_Mo_doSteps_93 C ih6 (0 : Int32) hok _ hz _ _ ls hP hD hS (lv_sub hl [1, 2, 0] rfl)
noncomputable def sp_Mo_doSteps_24 (x2p6 : Int32) (sK : IV) (x3p6 : Int32) (nowp6 : LV) (sA : IV) (sB : IV) (x1p6 : Int32) (bSp6 : IV) (bEp6 : IV) (bLp6 : IV) (sE : IV) (r6 : Int32 → Int32 → Int32 → LV → IV → IV → IV → (Int32 × LV × IV × IV × IV))  : Int32 × LV × IV × IV × IV := if x2p6 ≤ 0 then (sp_Mo_doSteps_98 sK x3p6 nowp6 sA sB x1p6 x2p6 bSp6 bEp6 bLp6 sE r6) else (if x3p6 = (bEp6 (x2p6 - (1 : Int32)).toNatClampNeg) then (lett (upd bLp6 (x2p6 - (1 : Int32)).toNatClampNeg ((bLp6 (x2p6 - (1 : Int32)).toNatClampNeg) - (1 : Int32))) fun (bL_7 : IV) => if (bL_7 (x2p6 - (1 : Int32)).toNatClampNeg) ≤ 0 then (sp_Mo_doSteps_75 bL_7 x2p6 x1p6 nowp6 bSp6 bEp6 r6 x3p6) else (sp_Mo_doSteps_75 bL_7 x2p6 x1p6 nowp6 bSp6 bEp6 r6 (bSp6 (x2p6 - (1 : Int32)).toNatClampNeg))) else (sp_Mo_doSteps_98 sK x3p6 nowp6 sA sB x1p6 x2p6 bSp6 bEp6 bLp6 sE r6))
def ok_Mo_doSteps_24 (x2p6 : Int32) (sK : IV) (x3p6 : Int32) (nowp6 : LV) (sA : IV) (sB : IV) (x1p6 : Int32) (bSp6 : IV) (bEp6 : IV) (bLp6 : IV) (sE : IV) (r6 : Int32 → Int32 → Int32 → LV → IV → IV → IV → (Int32 × LV × IV × IV × IV)) (q6 : Int32 → Int32 → Int32 → LV → IV → IV → IV → Prop)  : Prop := ((x2p6 ≤ 0 → ok_Mo_doSteps_98 sK x3p6 nowp6 sA sB x1p6 x2p6 bSp6 bEp6 bLp6 sE r6 q6) ∧ (¬ (x2p6 ≤ 0) → (vp_in (x2p6 - (1 : Int32)) 2) ∧ ((x3p6 = (bEp6 (x2p6 - (1 : Int32)).toNatClampNeg) → lett (upd bLp6 (x2p6 - (1 : Int32)).toNatClampNeg ((bLp6 (x2p6 - (1 : Int32)).toNatClampNeg) - (1 : Int32))) fun (bL_7 : IV) => (((bL_7 (x2p6 - (1 : Int32)).toNatClampNeg) ≤ 0 → ok_Mo_doSteps_75 bL_7 x2p6 x1p6 nowp6 bSp6 bEp6 r6 q6 x3p6) ∧ (¬ ((bL_7 (x2p6 - (1 : Int32)).toNatClampNeg) ≤ 0) → ok_Mo_doSteps_75 bL_7 x2p6 x1p6 nowp6 bSp6 bEp6 r6 q6 (bSp6 (x2p6 - (1 : Int32)).toNatClampNeg)))) ∧ (¬ (x3p6 = (bEp6 (x2p6 - (1 : Int32)).toNatClampNeg)) → ok_Mo_doSteps_98 sK x3p6 nowp6 sA sB x1p6 x2p6 bSp6 bEp6 bLp6 sE r6 q6))))
set_option maxRecDepth 100000 in
set_option maxHeartbeats 4000000 in
theorem k_Mo_doSteps_24 {p : Program} {l : Launch} {e : Env} {s : State} {m : MethodId} {args : Array Value} {below : List Frame} {meth : Method} {c : Code} {g : GX} {mo : Nat} {a : Nat → Nat} {ws0 : va_W} {o : IV} {nowp6 : LV} {dr : LV} {pa : LV} {sa : LV} {iS : IV} {bu : IV} {tq : IV} {rT : IV} {wT : IV} {sK : IV} {sA : IV} {sB : IV} {sE : IV} {oq : IV} {bSp6 : IV} {bEp6 : IV} {bLp6 : IV} {rp : IV} {x1p6 : Int32} {x2p6 : Int32} {x3p6 : Int32} {r6 : Int32 → Int32 → Int32 → LV → IV → IV → IV → (Int32 × LV × IV × IV × IV)} {q6 : Int32 → Int32 → Int32 → LV → IV → IV → IV → Prop} (C : Cx p s m args meth c (inW ws0) g "DecadeBridgeModel" b_Mo_doSteps (some .int) 5) (ih6 : HL_Mo_doSteps_6 p l e s m args below meth c g mo a ws0 o dr pa sa iS bu tq rT wT sK sA sB sE oq rp r6 q6) : HL_Mo_doSteps_24 p l e s m args below meth c g mo a ws0 o nowp6 dr pa sa iS bu tq rT wT sK sA sB sE oq bSp6 bEp6 bLp6 rp x1p6 x2p6 x3p6 (sp_Mo_doSteps_24 x2p6 sK x3p6 nowp6 sA sB x1p6 bSp6 bEp6 bLp6 sE r6) (ok_Mo_doSteps_24 x2p6 sK x3p6 nowp6 sA sB x1p6 bSp6 bEp6 bLp6 sE r6 q6) := by
  intro _ hok z hz H locs ls hP hD hS hl
  obtain ⟨hx, hb, hr, hml, hown, hlk, hts, hK, hZo, hZ⟩ := id C
  unfold sp_Mo_doSteps_24 at hz
  unfold ok_Mo_doSteps_24 at hok
  refine lv_iload_n hx hb d_Mo_doSteps_24 rfl (lv_at hl 2 rfl) ?_
  refine lv_if_le (tgt := 98) hx hb d_Mo_doSteps_25 (by decide) (fun c4 => ?_) (fun c4 => ?_)
  · have hz := hz.trans (if_pos c4)
    have hok := hok.1 c4
    exact k_Mo_doSteps_98 C ih6 () hok _ hz _ _ ls hP hD hS hl
  · have hz := hz.trans (if_neg c4)
    have hok := hok.2 c4
    refine lv_iload_n hx hb d_Mo_doSteps_28 rfl (lv_at hl 3 rfl) ?_
    refine lv_aload_n hx hb d_Mo_doSteps_29 rfl (lv_at hl 0 rfl) ?_
    refine gf C hP 0 25 fkMo rfl (by decide) rfl qf_Mo_87 (gMo_25 _ _) d_Mo_doSteps_30 ?_
    refine lv_iload_n hx hb d_Mo_doSteps_33 rfl (lv_at hl 2 rfl) ?_
    refine lv_iconst (v := 1) hx hb d_Mo_doSteps_34 (by decide) ?_
    refine lv_isub hx hb d_Mo_doSteps_35 ?_
    have hs5 := hok.1
    have hok := hok.2
    refine ldI C hP 17 rfl hs5 rfl d_Mo_doSteps_36 ?_
    refine lv_icmp_ne (tgt := 98) hx hb d_Mo_doSteps_37 (by decide) (fun c6 => ?_) (fun c6 => ?_)
    · have hz := hz.trans (if_neg c6)
      have hok := hok.2 c6
      exact k_Mo_doSteps_98 C ih6 () hok _ hz _ _ ls hP hD hS hl
    · have hz := hz.trans (if_pos c6)
      have hok := hok.1 c6
      refine lv_aload_n hx hb d_Mo_doSteps_40 rfl (lv_at hl 0 rfl) ?_
      refine gf C hP 0 26 fkMo rfl (by decide) rfl qf_Mo_90 (gMo_26 _ _) d_Mo_doSteps_41 ?_
      refine lv_iload_n hx hb d_Mo_doSteps_44 rfl (lv_at hl 2 rfl) ?_
      refine lv_iconst (v := 1) hx hb d_Mo_doSteps_45 (by decide) ?_
      refine lv_isub hx hb d_Mo_doSteps_46 ?_
      refine lv_dup2_11 hx hb d_Mo_doSteps_47 rfl rfl ?_
      refine ldI C hP 18 rfl hs5 rfl d_Mo_doSteps_48 ?_
      refine lv_iconst (v := 1) hx hb d_Mo_doSteps_49 (by decide) ?_
      refine lv_isub hx hb d_Mo_doSteps_50 ?_
      refine stI C hP hD hS 18 rfl hs5 rfl d_Mo_doSteps_51 (fun bL_7 ebL_7 H locs hP hD hS => ?_)
      have hP : va_P g.1 vwCl (wMo g mo a o nowp6 dr pa sa iS bu tq rT wT sK sA sB sE oq bSp6 bEp6 bL_7 rp) H := hP
      have hD : va_D (inW ws0) (wMo g mo a o nowp6 dr pa sa iS bu tq rT wT sK sA sB sE oq bSp6 bEp6 bL_7 rp) := hD
      have hz := lett_z hz ebL_7
      have hok := lett_o hok ebL_7
      refine lv_aload_n hx hb d_Mo_doSteps_52 rfl (lv_at hl 0 rfl) ?_
      refine gf C hP 0 26 fkMo rfl (by decide) rfl qf_Mo_90 (gMo_26 _ _) d_Mo_doSteps_53 ?_
      refine lv_iload_n hx hb d_Mo_doSteps_56 rfl (lv_at hl 2 rfl) ?_
      refine lv_iconst (v := 1) hx hb d_Mo_doSteps_57 (by decide) ?_
      refine lv_isub hx hb d_Mo_doSteps_58 ?_
      refine ldI C hP 18 rfl hs5 rfl d_Mo_doSteps_59 ?_
      refine lv_if_le (tgt := 74) hx hb d_Mo_doSteps_60 (by decide) (fun c8 => ?_) (fun c8 => ?_)
      · have hz := hz.trans (if_pos c8)
        have hok := hok.1 c8
        refine lv_iload_n hx hb d_Mo_doSteps_74 rfl (lv_at hl 3 rfl) ?_
        exact k_Mo_doSteps_75 C ih6 x3p6 hok _ hz _ _ ls hP hD hS (lv_sub hl [0, 1, 2] rfl)
      · have hz := hz.trans (if_neg c8)
        have hok := hok.2 c8
        refine lv_aload_n hx hb d_Mo_doSteps_63 rfl (lv_at hl 0 rfl) ?_
        refine gf C hP 0 24 fkMo rfl (by decide) rfl qf_Mo_84 (gMo_24 _ _) d_Mo_doSteps_64 ?_
        refine lv_iload_n hx hb d_Mo_doSteps_67 rfl (lv_at hl 2 rfl) ?_
        refine lv_iconst (v := 1) hx hb d_Mo_doSteps_68 (by decide) ?_
        refine lv_isub hx hb d_Mo_doSteps_69 ?_
        refine ldI C hP 16 rfl hs5 rfl d_Mo_doSteps_70 ?_
        refine lv_goto (tgt := 75) hx hb d_Mo_doSteps_71 (by decide) ?_
        exact k_Mo_doSteps_75 C ih6 (bSp6 (x2p6 - (1 : Int32)).toNatClampNeg) hok _ hz _ _ ls hP hD hS (lv_sub hl [0, 1, 2] rfl)
noncomputable def bd_Mo_doSteps_6 (sK : IV) (sA : IV) (sB : IV) (sE : IV) (o : IV) (r6 : Int32 → Int32 → Int32 → LV → IV → IV → IV → (Int32 × LV × IV × IV × IV)) (x1p6 : Int32) (x2p6 : Int32) (x3p6 : Int32) (nowp6 : LV) (bSp6 : IV) (bEp6 : IV) (bLp6 : IV) : Int32 × LV × IV × IV × IV := if (60 : Int32) ≤ x1p6 then ((x1p6, (nowp6, bSp6, bEp6, bLp6))) else (if 0 < x2p6 then (sp_Mo_doSteps_24 x2p6 sK x3p6 nowp6 sA sB x1p6 bSp6 bEp6 bLp6 sE r6) else (if (o 22) ≤ x3p6 then ((x1p6, (nowp6, bSp6, bEp6, bLp6))) else (sp_Mo_doSteps_24 x2p6 sK x3p6 nowp6 sA sB x1p6 bSp6 bEp6 bLp6 sE r6)))
def okb_Mo_doSteps_6 (sK : IV) (sA : IV) (sB : IV) (sE : IV) (o : IV) (r6 : Int32 → Int32 → Int32 → LV → IV → IV → IV → (Int32 × LV × IV × IV × IV)) (q6 : Int32 → Int32 → Int32 → LV → IV → IV → IV → Prop) (x1p6 : Int32) (x2p6 : Int32) (x3p6 : Int32) (nowp6 : LV) (bSp6 : IV) (bEp6 : IV) (bLp6 : IV) : Prop := (((60 : Int32) ≤ x1p6 → True) ∧ (¬ ((60 : Int32) ≤ x1p6) → ((0 < x2p6 → ok_Mo_doSteps_24 x2p6 sK x3p6 nowp6 sA sB x1p6 bSp6 bEp6 bLp6 sE r6 q6) ∧ (¬ (0 < x2p6) → (((o 22) ≤ x3p6 → True) ∧ (¬ ((o 22) ≤ x3p6) → ok_Mo_doSteps_24 x2p6 sK x3p6 nowp6 sA sB x1p6 bSp6 bEp6 bLp6 sE r6 q6))))))
noncomputable def sp_Mo_doSteps_6 (sK : IV) (sA : IV) (sB : IV) (sE : IV) (o : IV)  : Nat → Int32 → Int32 → Int32 → LV → IV → IV → IV → (Int32 × LV × IV × IV × IV)
  | 0 => fun _ _ _ _ _ _ _ => default
  | f + 1 => bd_Mo_doSteps_6 sK sA sB sE o  (sp_Mo_doSteps_6 sK sA sB sE o  f)
def ok_Mo_doSteps_6 (sK : IV) (sA : IV) (sB : IV) (sE : IV) (o : IV)   : Nat → Int32 → Int32 → Int32 → LV → IV → IV → IV → Prop
  | 0 => fun _ _ _ _ _ _ _ => False
  | f + 1 => okb_Mo_doSteps_6 sK sA sB sE o  (sp_Mo_doSteps_6 sK sA sB sE o  f)  (ok_Mo_doSteps_6 sK sA sB sE o   f)
set_option maxRecDepth 100000 in
set_option maxHeartbeats 4000000 in
theorem kb_Mo_doSteps_6 {p : Program} {l : Launch} {e : Env} {s : State} {m : MethodId} {args : Array Value} {below : List Frame} {meth : Method} {c : Code} {g : GX} {mo : Nat} {a : Nat → Nat} {ws0 : va_W} {o : IV} {dr : LV} {pa : LV} {sa : LV} {iS : IV} {bu : IV} {tq : IV} {rT : IV} {wT : IV} {sK : IV} {sA : IV} {sB : IV} {sE : IV} {oq : IV} {rp : IV}  (C : Cx p s m args meth c (inW ws0) g "DecadeBridgeModel" b_Mo_doSteps (some .int) 5) {r6 : Int32 → Int32 → Int32 → LV → IV → IV → IV → (Int32 × LV × IV × IV × IV)} {q6 : Int32 → Int32 → Int32 → LV → IV → IV → IV → Prop}  (ih6 : HL_Mo_doSteps_6 p l e s m args below meth c g mo a ws0 o dr pa sa iS bu tq rT wT sK sA sB sE oq rp r6 q6) : HL_Mo_doSteps_6 p l e s m args below meth c g mo a ws0 o dr pa sa iS bu tq rT wT sK sA sB sE oq rp (bd_Mo_doSteps_6 sK sA sB sE o  r6) (okb_Mo_doSteps_6 sK sA sB sE o  r6  q6) := by
  intro x1p6 x2p6 x3p6 nowp6 bSp6 bEp6 bLp6 hok z hz H locs ls hP hD hS hl
  obtain ⟨hx, hb, hr, hml, hown, hlk, hts, hK, hZo, hZ⟩ := id C
  unfold bd_Mo_doSteps_6 at hz
  unfold okb_Mo_doSteps_6 at hok
  refine lv_iload_n hx hb d_Mo_doSteps_6 rfl (lv_at hl 1 rfl) ?_
  refine lv_bipush (v := 60) hx hb d_Mo_doSteps_7 (by decide) ?_
  refine lv_icmp_ge (tgt := 193) hx hb d_Mo_doSteps_9 (by decide) (fun c1 => ?_) (fun c1 => ?_)
  · have hz := hz.trans (if_pos c1)
    refine lv_iload_n hx hb d_Mo_doSteps_193 rfl (lv_at hl 1 rfl) ?_
    exact endI1 C hz hP hS d_Mo_doSteps_194
  · have hz := hz.trans (if_neg c1)
    have hok := hok.2 c1
    refine lv_iload_n hx hb d_Mo_doSteps_12 rfl (lv_at hl 2 rfl) ?_
    refine lv_if_gt (tgt := 24) hx hb d_Mo_doSteps_13 (by decide) (fun c2 => ?_) (fun c2 => ?_)
    · have hz := hz.trans (if_pos c2)
      have hok := hok.1 c2
      exact k_Mo_doSteps_24 C ih6 () hok _ hz _ _ ls hP hD hS hl
    · have hz := hz.trans (if_neg c2)
      have hok := hok.2 c2
      refine lv_iload_n hx hb d_Mo_doSteps_16 rfl (lv_at hl 3 rfl) ?_
      refine lv_aload_n hx hb d_Mo_doSteps_17 rfl (lv_at hl 0 rfl) ?_
      refine gf C hP 0 22 fkMo rfl (by decide) rfl qf_Mo_514 (gMo_22 _ _) d_Mo_doSteps_18 ?_
      refine lv_icmp_ge (tgt := 193) hx hb d_Mo_doSteps_21 (by decide) (fun c3 => ?_) (fun c3 => ?_)
      · have hz := hz.trans (if_pos c3)
        refine lv_iload_n hx hb d_Mo_doSteps_193 rfl (lv_at hl 1 rfl) ?_
        exact endI1 C hz hP hS d_Mo_doSteps_194
      · have hz := hz.trans (if_neg c3)
        have hok := hok.2 c3
        exact k_Mo_doSteps_24 C ih6 () hok _ hz _ _ ls hP hD hS hl
theorem k_Mo_doSteps_6 {p : Program} {l : Launch} {e : Env} {s : State} {m : MethodId} {args : Array Value} {below : List Frame} {meth : Method} {c : Code} {g : GX} {mo : Nat} {a : Nat → Nat} {ws0 : va_W} {o : IV} {dr : LV} {pa : LV} {sa : LV} {iS : IV} {bu : IV} {tq : IV} {rT : IV} {wT : IV} {sK : IV} {sA : IV} {sB : IV} {sE : IV} {oq : IV} {rp : IV}  (C : Cx p s m args meth c (inW ws0) g "DecadeBridgeModel" b_Mo_doSteps (some .int) 5) (f : Nat)  : HL_Mo_doSteps_6 p l e s m args below meth c g mo a ws0 o dr pa sa iS bu tq rT wT sK sA sB sE oq rp (sp_Mo_doSteps_6 sK sA sB sE o  f) (ok_Mo_doSteps_6 sK sA sB sE o   f) := by
  induction f with
  | zero => intro x1p6 x2p6 x3p6 nowp6 bSp6 bEp6 bLp6 hok; exact False.elim hok
  | succ f ih => exact kb_Mo_doSteps_6 C  ih
noncomputable def sp_Mo_doSteps (o : IV) (now : LV) (sK : IV) (sA : IV) (sB : IV) (sE : IV) (bS : IV) (bE : IV) (bL : IV) : Int32 × LV × IV × IV × IV := sp_Mo_doSteps_6 sK sA sB sE o big (0 : Int32) (0 : Int32) (0 : Int32) now bS bE bL
def ok_Mo_doSteps (o : IV) (now : LV) (sK : IV) (sA : IV) (sB : IV) (sE : IV) (bS : IV) (bE : IV) (bL : IV) : Prop := ok_Mo_doSteps_6 sK sA sB sE o big (0 : Int32) (0 : Int32) (0 : Int32) now bS bE bL
set_option maxRecDepth 100000 in
set_option maxHeartbeats 4000000 in
theorem c_Mo_doSteps (l : Launch) (g : GX) (mo : Nat) (a : Nat → Nat) (o : IV) (now : LV) (dr : LV) (pa : LV) (sa : LV) (iS : IV) (bu : IV) (tq : IV) (rT : IV) (wT : IV) (sK : IV) (sA : IV) (sB : IV) (sE : IV) (oq : IV) (bS : IV) (bE : IV) (bL : IV) (rp : IV)  (hok : ok_Mo_doSteps o now sK sA sB sE bS bE bL) : Met l y_Mo_doSteps (wsY y_Mo_doSteps b_Mo_doSteps 5 (some .int)) rm_Mo_doSteps (CP g [.ref mo] (wMo g mo a o now dr pa sa iS bu tq rT wT sK sA sB sE oq bS bE bL rp)) (CI g (wMo g mo a o now dr pa sa iS bu tq rT wT sK sA sB sE oq bS bE bL rp) (fun u : LV × IV × IV × IV => wMo g mo a o u.1 dr pa sa iS bu tq rT wT sK sA sB sE oq u.2.1 u.2.2.1 u.2.2.2 rp) (sp_Mo_doSteps o now sK sA sB sE bS bE bL)) 0 0 (inW (wMo g mo a o now dr pa sa iS bu tq rT wT sK sA sB sE oq bS bE bL rp)) := by
  refine Met.ofW (cc := b_Mo_doSteps) (maxL := 5) (ret := (some .int)) pn_Mo rfl ?_
  intro p e s m args below meth c s₁ B hml hv
  obtain ⟨rfl, C, hP, hD, hS⟩ := enter "DecadeBridgeModel" rfl B hml hv
  obtain ⟨hx, hb, hr, hml, hown, hlk, hts, hK, hZo, hZ⟩ := id C
  refine entryW (lv := [(0, .ref mo)]) rfl (Nat.le_of_ble_eq_true rfl) (fun ls hl => ?_)
  obtain ⟨z, hz⟩ : ∃ z, z = sp_Mo_doSteps o now sK sA sB sE bS bE bL := ⟨_, rfl⟩
  rw [← hz]
  unfold sp_Mo_doSteps at hz
  unfold ok_Mo_doSteps at hok
  refine lv_iconst (v := 0) hx hb d_Mo_doSteps_0 (by decide) ?_
  refine lv_istore_n (lv' := [(1, .int (0 : Int32)), (0, .ref mo)]) hx hb d_Mo_doSteps_1 rfl hl (by decide) rfl (fun ls hl => ?_)
  refine lv_iconst (v := 0) hx hb d_Mo_doSteps_2 (by decide) ?_
  refine lv_istore_n (lv' := [(2, .int (0 : Int32)), (1, .int (0 : Int32)), (0, .ref mo)]) hx hb d_Mo_doSteps_3 rfl hl (by decide) rfl (fun ls hl => ?_)
  refine lv_iconst (v := 0) hx hb d_Mo_doSteps_4 (by decide) ?_
  refine lv_istore_n (lv' := [(3, .int (0 : Int32)), (2, .int (0 : Int32)), (1, .int (0 : Int32)), (0, .ref mo)]) hx hb d_Mo_doSteps_5 rfl hl (by decide) rfl (fun ls hl => ?_)
  exact k_Mo_doSteps_6 C big (0 : Int32) (0 : Int32) (0 : Int32) now bS bE bL hok _ hz _ _ ls hP hD hS (lv_sub hl [3, 2, 1, 0] rfl)
abbrev rm_Mo_run : Room := { frames := 15, cells := 0, slots := 0, locals := 350 }
noncomputable def sp_Mo_run (o : IV) (now : LV) (pa : LV) (bu : IV) (sK : IV) (sA : IV) (sB : IV) (sE : IV) (oq : IV) (bS : IV) (bE : IV) (bL : IV) : Int32 × IV × LV × LV × IV × IV × IV × IV × IV × IV × IV × IV := lett (upd o 6 (0 : Int32)) fun (o_1 : IV) => lett (sp_Mo_startText o_1 bu) fun (y3 : IV) => lett (sp_Mo_readProtocol y3 bu sK sA sB sE oq) fun (y5 : IV × IV × IV × IV × IV × IV) => lett (upd y5.1 8 (0 : Int32)) fun (o_6 : IV) => lett (sp_Mo_good o_6) fun (y7 : Int32) => if y7 = 0 then (((-10 : Int32) - (o_6 12), (o_6, now, pa, y5.2.1, y5.2.2.1, y5.2.2.2.1, y5.2.2.2.2.1, y5.2.2.2.2.2, bS, bE, bL))) else (lett (sp_Mo_record o_6 now pa) fun (y10 : IV × LV) => lett (sp_Mo_doSteps y10.1 now y5.2.1 y5.2.2.1 y5.2.2.2.1 y5.2.2.2.2.1 bS bE bL) fun (y12 : Int32 × LV × IV × IV × IV) => (y12.1, (y10.1, y12.2.1, y10.2, y5.2.1, y5.2.2.1, y5.2.2.2.1, y5.2.2.2.2.1, y5.2.2.2.2.2, y12.2.2.1, y12.2.2.2.1, y12.2.2.2.2)))
def ok_Mo_run (o : IV) (now : LV) (pa : LV) (bu : IV) (sK : IV) (sA : IV) (sB : IV) (sE : IV) (oq : IV) (bS : IV) (bE : IV) (bL : IV) : Prop := lett (upd o 6 (0 : Int32)) fun (o_1 : IV) => (ok_Mo_startText o_1 bu) ∧ lett (sp_Mo_startText o_1 bu) fun (y3 : IV) => (ok_Mo_readProtocol y3 bu sK sA sB sE oq) ∧ lett (sp_Mo_readProtocol y3 bu sK sA sB sE oq) fun (y5 : IV × IV × IV × IV × IV × IV) => lett (upd y5.1 8 (0 : Int32)) fun (o_6 : IV) => lett (sp_Mo_good o_6) fun (y7 : Int32) => ((y7 = 0 → True) ∧ (¬ (y7 = 0) → (ok_Mo_record o_6 now pa) ∧ lett (sp_Mo_record o_6 now pa) fun (y10 : IV × LV) => (ok_Mo_doSteps y10.1 now y5.2.1 y5.2.2.1 y5.2.2.2.1 y5.2.2.2.2.1 bS bE bL) ∧ True))
set_option maxRecDepth 100000 in
set_option maxHeartbeats 4000000 in
theorem c_Mo_run (l : Launch) (g : GX) (mo : Nat) (a : Nat → Nat) (o : IV) (now : LV) (dr : LV) (pa : LV) (sa : LV) (iS : IV) (bu : IV) (tq : IV) (rT : IV) (wT : IV) (sK : IV) (sA : IV) (sB : IV) (sE : IV) (oq : IV) (bS : IV) (bE : IV) (bL : IV) (rp : IV)  (hok : ok_Mo_run o now pa bu sK sA sB sE oq bS bE bL) : Met l y_Mo_run (wsY y_Mo_run b_Mo_run 1 (some .int)) rm_Mo_run (CP g [.ref mo] (wMo g mo a o now dr pa sa iS bu tq rT wT sK sA sB sE oq bS bE bL rp)) (CI g (wMo g mo a o now dr pa sa iS bu tq rT wT sK sA sB sE oq bS bE bL rp) (fun u : IV × LV × LV × IV × IV × IV × IV × IV × IV × IV × IV => wMo g mo a u.1 u.2.1 dr u.2.2.1 sa iS bu tq rT wT u.2.2.2.1 u.2.2.2.2.1 u.2.2.2.2.2.1 u.2.2.2.2.2.2.1 u.2.2.2.2.2.2.2.1 u.2.2.2.2.2.2.2.2.1 u.2.2.2.2.2.2.2.2.2.1 u.2.2.2.2.2.2.2.2.2.2 rp) (sp_Mo_run o now pa bu sK sA sB sE oq bS bE bL)) 0 0 (inW (wMo g mo a o now dr pa sa iS bu tq rT wT sK sA sB sE oq bS bE bL rp)) := by
  refine Met.ofW (cc := b_Mo_run) (maxL := 1) (ret := (some .int)) pn_Mo rfl ?_
  intro p e s m args below meth c s₁ B hml hv
  obtain ⟨rfl, C, hP, hD, hS⟩ := enter "DecadeBridgeModel" rfl B hml hv
  obtain ⟨hx, hb, hr, hml, hown, hlk, hts, hK, hZo, hZ⟩ := id C
  refine entryW (lv := [(0, .ref mo)]) rfl (Nat.le_of_ble_eq_true rfl) (fun ls hl => ?_)
  obtain ⟨z, hz⟩ : ∃ z, z = sp_Mo_run o now pa bu sK sA sB sE oq bS bE bL := ⟨_, rfl⟩
  rw [← hz]
  unfold sp_Mo_run at hz
  unfold ok_Mo_run at hok
  refine lv_aload_n hx hb d_Mo_run_0 rfl (lv_at hl 0 rfl) ?_
  refine lv_iconst (v := 0) hx hb d_Mo_run_1 (by decide) ?_
  refine pfI C hP hD hS 0 6 fkMo rfl (by decide) rfl qf_Mo_107 rfl rfl rfl (Nat.le_of_ble_eq_true rfl) (ff := fun o => fMo a o) (sMo_6 _ _ _) d_Mo_run_2 (fun o_1 eo_1 H locs hP hD hS => ?_)
  have hP : va_P g.1 vwCl (wMo g mo a o_1 now dr pa sa iS bu tq rT wT sK sA sB sE oq bS bE bL rp) H := hP
  have hD : va_D (inW (wMo g mo a o now dr pa sa iS bu tq rT wT sK sA sB sE oq bS bE bL rp)) (wMo g mo a o_1 now dr pa sa iS bu tq rT wT sK sA sB sE oq bS bE bL rp) := hD
  have hz := lett_z hz eo_1
  have hok := lett_o hok eo_1
  refine lv_aload_n hx hb d_Mo_run_5 rfl (lv_at hl 0 rfl) ?_
  have hs2 := hok.1
  have hok := hok.2
  have hB : SubW g (inW (wMo g mo a o now dr pa sa iS bu tq rT wT sK sA sB sE oq bS bE bL rp)) s (wMo g mo a o_1 now dr pa sa iS bu tq rT wT sK sA sB sE oq bS bE bL rp) _ (List.range _) _ _ := (subF hP hD hS)
  refine goVF hB (run_v C mf_Mo_startText qm_Mo_391 (c_Mo_startText l g mo a o_1 now dr pa sa iS bu tq rT wT sK sA sB sE oq bS bE bL rp hs2) rfl rfl ⟨Nat.le_of_ble_eq_true rfl, Nat.le_of_ble_eq_true rfl⟩ ⟨Nat.le_of_ble_eq_true rfl, Nat.le_of_ble_eq_true rfl⟩ hB rfl rfl hl rfl rfl (Nat.le_of_ble_eq_true rfl) d_Mo_run_6) (fun _ => rfl) (fun y3 ey3 H locs hP hD hS => ?_)
  have hP : va_P g.1 vwCl (wMo g mo a y3 now dr pa sa iS bu tq rT wT sK sA sB sE oq bS bE bL rp) H := hP
  have hD : va_D (inW (wMo g mo a o now dr pa sa iS bu tq rT wT sK sA sB sE oq bS bE bL rp)) (wMo g mo a y3 now dr pa sa iS bu tq rT wT sK sA sB sE oq bS bE bL rp) := hD
  have hz := lett_z hz ey3
  have hok := lett_o hok ey3
  refine lv_aload_n hx hb d_Mo_run_9 rfl (lv_at hl 0 rfl) ?_
  have hs4 := hok.1
  have hok := hok.2
  have hB : SubW g (inW (wMo g mo a o now dr pa sa iS bu tq rT wT sK sA sB sE oq bS bE bL rp)) s (wMo g mo a y3 now dr pa sa iS bu tq rT wT sK sA sB sE oq bS bE bL rp) _ (List.range _) _ _ := (subF hP hD hS)
  refine goVF hB (run_v C mf_Mo_readProtocol qm_Mo_537 (c_Mo_readProtocol l g mo a y3 now dr pa sa iS bu tq rT wT sK sA sB sE oq bS bE bL rp hs4) rfl rfl ⟨Nat.le_of_ble_eq_true rfl, Nat.le_of_ble_eq_true rfl⟩ ⟨Nat.le_of_ble_eq_true rfl, Nat.le_of_ble_eq_true rfl⟩ hB rfl rfl hl rfl rfl (Nat.le_of_ble_eq_true rfl) d_Mo_run_10) (fun _ => rfl) (fun y5 ey5 H locs hP hD hS => ?_)
  have hP : va_P g.1 vwCl (wMo g mo a y5.1 now dr pa sa iS bu tq rT wT y5.2.1 y5.2.2.1 y5.2.2.2.1 y5.2.2.2.2.1 y5.2.2.2.2.2 bS bE bL rp) H := hP
  have hD : va_D (inW (wMo g mo a o now dr pa sa iS bu tq rT wT sK sA sB sE oq bS bE bL rp)) (wMo g mo a y5.1 now dr pa sa iS bu tq rT wT y5.2.1 y5.2.2.1 y5.2.2.2.1 y5.2.2.2.2.1 y5.2.2.2.2.2 bS bE bL rp) := hD
  have hz := lett_z hz ey5
  have hok := lett_o hok ey5
  refine lv_aload_n hx hb d_Mo_run_13 rfl (lv_at hl 0 rfl) ?_
  refine lv_iconst (v := 0) hx hb d_Mo_run_14 (by decide) ?_
  refine pfI C hP hD hS 0 8 fkMo rfl (by decide) rfl qf_Mo_262 rfl rfl rfl (Nat.le_of_ble_eq_true rfl) (ff := fun o => fMo a o) (sMo_8 _ _ _) d_Mo_run_15 (fun o_6 eo_6 H locs hP hD hS => ?_)
  have hP : va_P g.1 vwCl (wMo g mo a o_6 now dr pa sa iS bu tq rT wT y5.2.1 y5.2.2.1 y5.2.2.2.1 y5.2.2.2.2.1 y5.2.2.2.2.2 bS bE bL rp) H := hP
  have hD : va_D (inW (wMo g mo a o now dr pa sa iS bu tq rT wT sK sA sB sE oq bS bE bL rp)) (wMo g mo a o_6 now dr pa sa iS bu tq rT wT y5.2.1 y5.2.2.1 y5.2.2.2.1 y5.2.2.2.2.1 y5.2.2.2.2.2 bS bE bL rp) := hD
  have hz := lett_z hz eo_6
  have hok := lett_o hok eo_6
  refine lv_aload_n hx hb d_Mo_run_18 rfl (lv_at hl 0 rfl) ?_
  have hB : SubW g (inW (wMo g mo a o now dr pa sa iS bu tq rT wT sK sA sB sE oq bS bE bL rp)) s (wMo g mo a o_6 now dr pa sa iS bu tq rT wT y5.2.1 y5.2.2.1 y5.2.2.2.1 y5.2.2.2.2.1 y5.2.2.2.2.2 bS bE bL rp) _ (List.range _) _ _ := (subF hP hD hS)
  refine goI0 hB (run_v C mf_Mo_good qm_Mo_297 (c_Mo_good l g mo a o_6 now dr pa sa iS bu tq rT wT y5.2.1 y5.2.2.1 y5.2.2.2.1 y5.2.2.2.2.1 y5.2.2.2.2.2 bS bE bL rp) rfl rfl ⟨Nat.le_of_ble_eq_true rfl, Nat.le_of_ble_eq_true rfl⟩ ⟨Nat.le_of_ble_eq_true rfl, Nat.le_of_ble_eq_true rfl⟩ hB rfl rfl hl rfl rfl (Nat.le_of_ble_eq_true rfl) d_Mo_run_19) (fun y7 ey7 H locs hP hS => ?_)
  have hz := lett_z hz ey7
  have hok := lett_o hok ey7
  refine lv_if_ne (tgt := 33) hx hb d_Mo_run_22 (by decide) (fun c8 => ?_) (fun c8 => ?_)
  · have hz := hz.trans (if_neg c8)
    have hok := hok.2 c8
    refine lv_aload_n hx hb d_Mo_run_33 rfl (lv_at hl 0 rfl) ?_
    have hs9 := hok.1
    have hok := hok.2
    have hB : SubW g (inW (wMo g mo a o now dr pa sa iS bu tq rT wT sK sA sB sE oq bS bE bL rp)) s (wMo g mo a o_6 now dr pa sa iS bu tq rT wT y5.2.1 y5.2.2.1 y5.2.2.2.1 y5.2.2.2.2.1 y5.2.2.2.2.2 bS bE bL rp) _ (List.range _) _ _ := (subF hP hD hS)
    refine goVF hB (run_v C mf_Mo_record qm_Mo_484 (c_Mo_record l g mo a o_6 now dr pa sa iS bu tq rT wT y5.2.1 y5.2.2.1 y5.2.2.2.1 y5.2.2.2.2.1 y5.2.2.2.2.2 bS bE bL rp hs9) rfl rfl ⟨Nat.le_of_ble_eq_true rfl, Nat.le_of_ble_eq_true rfl⟩ ⟨Nat.le_of_ble_eq_true rfl, Nat.le_of_ble_eq_true rfl⟩ hB rfl rfl hl rfl rfl (Nat.le_of_ble_eq_true rfl) d_Mo_run_34) (fun _ => rfl) (fun y10 ey10 H locs hP hD hS => ?_)
    have hP : va_P g.1 vwCl (wMo g mo a y10.1 now dr y10.2 sa iS bu tq rT wT y5.2.1 y5.2.2.1 y5.2.2.2.1 y5.2.2.2.2.1 y5.2.2.2.2.2 bS bE bL rp) H := hP
    have hD : va_D (inW (wMo g mo a o now dr pa sa iS bu tq rT wT sK sA sB sE oq bS bE bL rp)) (wMo g mo a y10.1 now dr y10.2 sa iS bu tq rT wT y5.2.1 y5.2.2.1 y5.2.2.2.1 y5.2.2.2.2.1 y5.2.2.2.2.2 bS bE bL rp) := hD
    have hz := lett_z hz ey10
    have hok := lett_o hok ey10
    refine lv_aload_n hx hb d_Mo_run_37 rfl (lv_at hl 0 rfl) ?_
    have hs11 := hok.1
    have hok := hok.2
    have hB : SubW g (inW (wMo g mo a o now dr pa sa iS bu tq rT wT sK sA sB sE oq bS bE bL rp)) s (wMo g mo a y10.1 now dr y10.2 sa iS bu tq rT wT y5.2.1 y5.2.2.1 y5.2.2.2.1 y5.2.2.2.2.1 y5.2.2.2.2.2 bS bE bL rp) _ (List.range _) _ _ := (subF hP hD hS)
    refine goIF hB (run_v C mf_Mo_doSteps qm_Mo_540 (c_Mo_doSteps l g mo a y10.1 now dr y10.2 sa iS bu tq rT wT y5.2.1 y5.2.2.1 y5.2.2.2.1 y5.2.2.2.2.1 y5.2.2.2.2.2 bS bE bL rp hs11) rfl rfl ⟨Nat.le_of_ble_eq_true rfl, Nat.le_of_ble_eq_true rfl⟩ ⟨Nat.le_of_ble_eq_true rfl, Nat.le_of_ble_eq_true rfl⟩ hB rfl rfl hl rfl rfl (Nat.le_of_ble_eq_true rfl) d_Mo_run_38) (fun _ => rfl) (fun y12 ey12 H locs hP hD hS => ?_)
    have hP : va_P g.1 vwCl (wMo g mo a y10.1 y12.2.1 dr y10.2 sa iS bu tq rT wT y5.2.1 y5.2.2.1 y5.2.2.2.1 y5.2.2.2.2.1 y5.2.2.2.2.2 y12.2.2.1 y12.2.2.2.1 y12.2.2.2.2 rp) H := hP
    have hD : va_D (inW (wMo g mo a o now dr pa sa iS bu tq rT wT sK sA sB sE oq bS bE bL rp)) (wMo g mo a y10.1 y12.2.1 dr y10.2 sa iS bu tq rT wT y5.2.1 y5.2.2.1 y5.2.2.2.1 y5.2.2.2.2.1 y5.2.2.2.2.2 y12.2.2.1 y12.2.2.2.1 y12.2.2.2.2 rp) := hD
    have hz := lett_z hz ey12
    exact endI1 C hz hP hS d_Mo_run_41
  · have hz := hz.trans (if_pos c8)
    refine lv_bipush (v := -10) hx hb d_Mo_run_25 (by decide) ?_
    refine lv_aload_n hx hb d_Mo_run_27 rfl (lv_at hl 0 rfl) ?_
    refine gf C hP 0 12 fkMo rfl (by decide) rfl qf_Mo_291 (gMo_12 _ _) d_Mo_run_28 ?_
    refine lv_isub hx hb d_Mo_run_31 ?_
    exact endI1 C hz hP hS d_Mo_run_32
abbrev rm_Mo_write : Room := { frames := 0, cells := 0, slots := 0, locals := 0 }
noncomputable def sp_Mo_write (p1 : Int32) (o : IV) (rp : IV) : IV × IV := lett (upd rp (o 28).toNatClampNeg (vp_nar .byte p1.toInt8.toInt32)) fun (rp_2 : IV) => lett (upd o 28 ((o 28) + (1 : Int32))) fun (o_3 : IV) => (o_3, rp_2)
def ok_Mo_write (p1 : Int32) (o : IV) : Prop := (vp_in (o 28) 2000) ∧ True
set_option maxRecDepth 100000 in
set_option maxHeartbeats 4000000 in
theorem c_Mo_write (l : Launch) (g : GX) (mo : Nat) (a : Nat → Nat) (o : IV) (now : LV) (dr : LV) (pa : LV) (sa : LV) (iS : IV) (bu : IV) (tq : IV) (rT : IV) (wT : IV) (sK : IV) (sA : IV) (sB : IV) (sE : IV) (oq : IV) (bS : IV) (bE : IV) (bL : IV) (rp : IV) (p1 : Int32) (hok : ok_Mo_write p1 o) : Met l y_Mo_write (wsY y_Mo_write b_Mo_write 2 none) rm_Mo_write (CP g [.ref mo, .int p1] (wMo g mo a o now dr pa sa iS bu tq rT wT sK sA sB sE oq bS bE bL rp)) (CV g (wMo g mo a o now dr pa sa iS bu tq rT wT sK sA sB sE oq bS bE bL rp) (fun u : IV × IV => wMo g mo a u.1 now dr pa sa iS bu tq rT wT sK sA sB sE oq bS bE bL u.2) (sp_Mo_write p1 o rp)) 0 0 (inW (wMo g mo a o now dr pa sa iS bu tq rT wT sK sA sB sE oq bS bE bL rp)) := by
  refine Met.ofW (cc := b_Mo_write) (maxL := 2) (ret := none) pn_Mo rfl ?_
  intro p e s m args below meth c s₁ B hml hv
  obtain ⟨rfl, C, hP, hD, hS⟩ := enter "DecadeBridgeModel" rfl B hml hv
  obtain ⟨hx, hb, hr, hml, hown, hlk, hts, hK, hZo, hZ⟩ := id C
  refine entryW (lv := [(0, .ref mo), (1, .int p1)]) rfl (Nat.le_of_ble_eq_true rfl) (fun ls hl => ?_)
  obtain ⟨z, hz⟩ : ∃ z, z = sp_Mo_write p1 o rp := ⟨_, rfl⟩
  rw [← hz]
  unfold sp_Mo_write at hz
  unfold ok_Mo_write at hok
  refine lv_aload_n hx hb d_Mo_write_0 rfl (lv_at hl 0 rfl) ?_
  refine gf C hP 0 27 fkMo rfl (by decide) rfl qf_Mo_93 (gMo_27 _ _) d_Mo_write_1 ?_
  refine lv_aload_n hx hb d_Mo_write_4 rfl (lv_at hl 0 rfl) ?_
  refine gf C hP 0 28 fkMo rfl (by decide) rfl qf_Mo_543 (gMo_28 _ _) d_Mo_write_5 ?_
  refine lv_iload_n hx hb d_Mo_write_8 rfl (lv_at hl 1 rfl) ?_
  refine lv_i2b hx hb d_Mo_write_9 rfl ?_
  have hs1 := hok.1
  have hok := hok.2
  refine stB C hP hD hS 19 rfl hs1 rfl d_Mo_write_10 (fun rp_2 erp_2 H locs hP hD hS => ?_)
  have hP : va_P g.1 vwCl (wMo g mo a o now dr pa sa iS bu tq rT wT sK sA sB sE oq bS bE bL rp_2) H := hP
  have hD : va_D (inW (wMo g mo a o now dr pa sa iS bu tq rT wT sK sA sB sE oq bS bE bL rp)) (wMo g mo a o now dr pa sa iS bu tq rT wT sK sA sB sE oq bS bE bL rp_2) := hD
  have hz := lett_z hz erp_2
  refine lv_aload_n hx hb d_Mo_write_11 rfl (lv_at hl 0 rfl) ?_
  refine lv_dup hx hb d_Mo_write_12 rfl ?_
  refine gf C hP 0 28 fkMo rfl (by decide) rfl qf_Mo_543 (gMo_28 _ _) d_Mo_write_13 ?_
  refine lv_iconst (v := 1) hx hb d_Mo_write_16 (by decide) ?_
  refine lv_iadd hx hb d_Mo_write_17 ?_
  refine pfI C hP hD hS 0 28 fkMo rfl (by decide) rfl qf_Mo_543 rfl rfl rfl (Nat.le_of_ble_eq_true rfl) (ff := fun o => fMo a o) (sMo_28 _ _ _) d_Mo_write_18 (fun o_3 eo_3 H locs hP hD hS => ?_)
  have hP : va_P g.1 vwCl (wMo g mo a o_3 now dr pa sa iS bu tq rT wT sK sA sB sE oq bS bE bL rp_2) H := hP
  have hD : va_D (inW (wMo g mo a o now dr pa sa iS bu tq rT wT sK sA sB sE oq bS bE bL rp)) (wMo g mo a o_3 now dr pa sa iS bu tq rT wT sK sA sB sE oq bS bE bL rp_2) := hD
  have hz := lett_z hz eo_3
  exact endV C hz hP hS d_Mo_write_21
abbrev rm_Mo_writeNumber : Room := { frames := 1, cells := 0, slots := 0, locals := 23 }
def HL_Mo_writeNumber_3 (p : Program) (l : Launch) (e : Env) (s : State) (m : MethodId) (args : Array Value) (below : List Frame) (meth : Method) (c : Code) (g : GX) (mo : Nat) (a : Nat → Nat) (ws0 : va_W) (o : IV) (now : LV) (dr : LV) (pa : LV) (sa : LV) (iS : IV) (bu : IV) (tq : IV) (rT : IV) (wT : IV) (sK : IV) (sA : IV) (sB : IV) (sE : IV) (oq : IV) (bS : IV) (bE : IV) (bL : IV) (rp : IV) (p1 : Int64) (p2 : Int32) (sp : Int32 → (IV × IV)) (ok : Int32 → Prop) : Prop := ∀ (x4p3 : Int32), ok x4p3 → ∀ z : (IV × IV), z = sp x4p3 → ∀ (H : Heap) (locs : List Loc) (ls : Array Slot), va_P g.1 vwCl (wMo g mo a o now dr pa sa iS bu tq rT wT sK sA sB sE oq bS bE bL rp) H → va_D (inW ws0) (wMo g mo a o now dr pa sa iS bu tq rT wT sK sA sB sE oq bS bE bL rp) → va_S (inW ws0) s.heap H locs → lv_has ls 6 [(0, .ref mo), (1, .long p1), (3, .int p2), (4, .int x4p3)] → W p l e rm_Mo_writeNumber s m args below meth c H locs 0 0 (MQ below (CV g ws0 (fun u : IV × IV => wMo g mo a u.1 now dr pa sa iS bu tq rT wT sK sA sB sE oq bS bE bL u.2) z) args s 0 0 (inW ws0)) (F0 m 3 ls [])
def HL_Mo_writeNumber_25 (p : Program) (l : Launch) (e : Env) (s : State) (m : MethodId) (args : Array Value) (below : List Frame) (meth : Method) (c : Code) (g : GX) (mo : Nat) (a : Nat → Nat) (ws0 : va_W) (o : IV) (now : LV) (dr : LV) (pa : LV) (sa : LV) (iS : IV) (bu : IV) (tq : IV) (rT : IV) (wT : IV) (sK : IV) (sA : IV) (sB : IV) (sE : IV) (oq : IV) (bS : IV) (bE : IV) (bL : IV) (rp : IV) (p1 : Int64) (x4p3 : Int32) (sp : (IV × IV)) (ok : Prop) : Prop := ∀ (_ : Unit), ok → ∀ z : (IV × IV), z = sp → ∀ (H : Heap) (locs : List Loc) (ls : Array Slot), va_P g.1 vwCl (wMo g mo a o now dr pa sa iS bu tq rT wT sK sA sB sE oq bS bE bL rp) H → va_D (inW ws0) (wMo g mo a o now dr pa sa iS bu tq rT wT sK sA sB sE oq bS bE bL rp) → va_S (inW ws0) s.heap H locs → lv_has ls 6 [(0, .ref mo), (1, .long p1), (4, .int x4p3)] → W p l e rm_Mo_writeNumber s m args below meth c H locs 0 0 (MQ below (CV g ws0 (fun u : IV × IV => wMo g mo a u.1 now dr pa sa iS bu tq rT wT sK sA sB sE oq bS bE bL u.2) z) args s 0 0 (inW ws0)) (F0 m 25 ls [])
def HL_Mo_writeNumber_31 (p : Program) (l : Launch) (e : Env) (s : State) (m : MethodId) (args : Array Value) (below : List Frame) (meth : Method) (c : Code) (g : GX) (mo : Nat) (a : Nat → Nat) (ws0 : va_W) (now : LV) (dr : LV) (pa : LV) (sa : LV) (iS : IV) (bu : IV) (tq : IV) (rT : IV) (wT : IV) (sK : IV) (sA : IV) (sB : IV) (sE : IV) (oq : IV) (bS : IV) (bE : IV) (bL : IV) (p1 : Int64) (sp : Int32 → IV → IV → (IV × IV)) (ok : Int32 → IV → IV → Prop) : Prop := ∀ (x5p31 : Int32) (op31 : IV) (rpp31 : IV), ok x5p31 op31 rpp31 → ∀ z : (IV × IV), z = sp x5p31 op31 rpp31 → ∀ (H : Heap) (locs : List Loc) (ls : Array Slot), va_P g.1 vwCl (wMo g mo a op31 now dr pa sa iS bu tq rT wT sK sA sB sE oq bS bE bL rpp31) H → va_D (inW ws0) (wMo g mo a op31 now dr pa sa iS bu tq rT wT sK sA sB sE oq bS bE bL rpp31) → va_S (inW ws0) s.heap H locs → lv_has ls 6 [(0, .ref mo), (1, .long p1), (5, .int x5p31)] → W p l e rm_Mo_writeNumber s m args below meth c H locs 0 0 (MQ below (CV g ws0 (fun u : IV × IV => wMo g mo a u.1 now dr pa sa iS bu tq rT wT sK sA sB sE oq bS bE bL u.2) z) args s 0 0 (inW ws0)) (F0 m 31 ls [])
def HL_Mo_writeNumber_19 (p : Program) (l : Launch) (e : Env) (s : State) (m : MethodId) (args : Array Value) (below : List Frame) (meth : Method) (c : Code) (g : GX) (mo : Nat) (a : Nat → Nat) (ws0 : va_W) (o : IV) (now : LV) (dr : LV) (pa : LV) (sa : LV) (iS : IV) (bu : IV) (tq : IV) (rT : IV) (wT : IV) (sK : IV) (sA : IV) (sB : IV) (sE : IV) (oq : IV) (bS : IV) (bE : IV) (bL : IV) (rp : IV) (p1 : Int64) (p2 : Int32) (x4p3 : Int32) (sp : (IV × IV)) (ok : Prop) : Prop := ∀ (_ : Unit), ok → ∀ z : (IV × IV), z = sp → ∀ (H : Heap) (locs : List Loc) (ls : Array Slot), va_P g.1 vwCl (wMo g mo a o now dr pa sa iS bu tq rT wT sK sA sB sE oq bS bE bL rp) H → va_D (inW ws0) (wMo g mo a o now dr pa sa iS bu tq rT wT sK sA sB sE oq bS bE bL rp) → va_S (inW ws0) s.heap H locs → lv_has ls 6 [(0, .ref mo), (1, .long p1), (3, .int p2), (4, .int x4p3)] → W p l e rm_Mo_writeNumber s m args below meth c H locs 0 0 (MQ below (CV g ws0 (fun u : IV × IV => wMo g mo a u.1 now dr pa sa iS bu tq rT wT sK sA sB sE oq bS bE bL u.2) z) args s 0 0 (inW ws0)) (F0 m 19 ls [])
noncomputable def sp_Mo_writeNumber_19 (x4p3 : Int32) (r3 : Int32 → (IV × IV))  : IV × IV := lett (x4p3 + (1 : Int32)) fun (v13 : Int32) => r3 v13
def ok_Mo_writeNumber_19 (x4p3 : Int32) (r3 : Int32 → (IV × IV)) (q3 : Int32 → Prop)  : Prop := lett (x4p3 + (1 : Int32)) fun (v13 : Int32) => q3 v13
set_option maxRecDepth 100000 in
set_option maxHeartbeats 4000000 in
theorem k_Mo_writeNumber_19 {p : Program} {l : Launch} {e : Env} {s : State} {m : MethodId} {args : Array Value} {below : List Frame} {meth : Method} {c : Code} {g : GX} {mo : Nat} {a : Nat → Nat} {ws0 : va_W} {o : IV} {now : LV} {dr : LV} {pa : LV} {sa : LV} {iS : IV} {bu : IV} {tq : IV} {rT : IV} {wT : IV} {sK : IV} {sA : IV} {sB : IV} {sE : IV} {oq : IV} {bS : IV} {bE : IV} {bL : IV} {rp : IV} {p1 : Int64} {p2 : Int32} {x4p3 : Int32} {r3 : Int32 → (IV × IV)} {q3 : Int32 → Prop} (C : Cx p s m args meth c (inW ws0) g "DecadeBridgeModel" b_Mo_writeNumber none 6) (ih3 : HL_Mo_writeNumber_3 p l e s m args below meth c g mo a ws0 o now dr pa sa iS bu tq rT wT sK sA sB sE oq bS bE bL rp p1 p2 r3 q3) : HL_Mo_writeNumber_19 p l e s m args below meth c g mo a ws0 o now dr pa sa iS bu tq rT wT sK sA sB sE oq bS bE bL rp p1 p2 x4p3 (sp_Mo_writeNumber_19 x4p3 r3) (ok_Mo_writeNumber_19 x4p3 r3 q3) := by
  intro _ hok z hz H locs ls hP hD hS hl
  obtain ⟨hx, hb, hr, hml, hown, hlk, hts, hK, hZo, hZ⟩ := id C
  unfold sp_Mo_writeNumber_19 at hz
  unfold ok_Mo_writeNumber_19 at hok
  obtain ⟨v13, ev13⟩ : ∃ y : Int32, y = x4p3 + (1 : Int32) := ⟨_, rfl⟩
  have hz := lett_z hz ev13
  have hok := lett_o hok ev13
  refine lv_iinc (v := v13) (lv' := [(4, .int v13), (0, .ref mo), (1, .long p1), (3, .int p2)]) hx hb d_Mo_writeNumber_19 hl (k := 3) rfl (by rw [ev13]; rfl) (by decide) rfl (fun ls hl => ?_)
  refine lv_goto (tgt := 3) hx hb d_Mo_writeNumber_22 (by decide) ?_
  exact ih3 v13 hok _ hz _ _ ls hP hD hS (lv_sub hl [1, 2, 3, 0] rfl)
noncomputable def bd_Mo_writeNumber_31 (p1 : Int64) (r31 : Int32 → IV → IV → (IV × IV)) (x5p31 : Int32) (op31 : IV) (rpp31 : IV) : IV × IV := if x5p31 < 0 then ((op31, rpp31)) else (lett (sp_Mo_tenTo x5p31) fun (y8 : Int64) => lett (sp_Mo_write ((48 : Int32) + (((p1 / y8) - (p1 / y8) / (10 : Int64) * (10 : Int64)).toInt32)) op31 rpp31) fun (y11 : IV × IV) => lett (x5p31 + (-1 : Int32)) fun (v12 : Int32) => r31 v12 y11.1 y11.2)
def okb_Mo_writeNumber_31 (p1 : Int64) (r31 : Int32 → IV → IV → (IV × IV)) (q31 : Int32 → IV → IV → Prop) (x5p31 : Int32) (op31 : IV) (rpp31 : IV) : Prop := ((x5p31 < 0 → True) ∧ (¬ (x5p31 < 0) → (ok_Mo_tenTo x5p31) ∧ lett (sp_Mo_tenTo x5p31) fun (y8 : Int64) => (¬ y8 = 0) ∧ (ok_Mo_write ((48 : Int32) + (((p1 / y8) - (p1 / y8) / (10 : Int64) * (10 : Int64)).toInt32)) op31) ∧ lett (sp_Mo_write ((48 : Int32) + (((p1 / y8) - (p1 / y8) / (10 : Int64) * (10 : Int64)).toInt32)) op31 rpp31) fun (y11 : IV × IV) => lett (x5p31 + (-1 : Int32)) fun (v12 : Int32) => q31 v12 y11.1 y11.2))
noncomputable def sp_Mo_writeNumber_31 (p1 : Int64)  : Nat → Int32 → IV → IV → (IV × IV)
  | 0 => fun _ _ _ => default
  | f + 1 => bd_Mo_writeNumber_31 p1  (sp_Mo_writeNumber_31 p1  f)
def ok_Mo_writeNumber_31 (p1 : Int64)   : Nat → Int32 → IV → IV → Prop
  | 0 => fun _ _ _ => False
  | f + 1 => okb_Mo_writeNumber_31 p1  (sp_Mo_writeNumber_31 p1  f)  (ok_Mo_writeNumber_31 p1   f)
set_option maxRecDepth 100000 in
set_option maxHeartbeats 4000000 in
theorem kb_Mo_writeNumber_31 {p : Program} {l : Launch} {e : Env} {s : State} {m : MethodId} {args : Array Value} {below : List Frame} {meth : Method} {c : Code} {g : GX} {mo : Nat} {a : Nat → Nat} {ws0 : va_W} {now : LV} {dr : LV} {pa : LV} {sa : LV} {iS : IV} {bu : IV} {tq : IV} {rT : IV} {wT : IV} {sK : IV} {sA : IV} {sB : IV} {sE : IV} {oq : IV} {bS : IV} {bE : IV} {bL : IV} {p1 : Int64}  (C : Cx p s m args meth c (inW ws0) g "DecadeBridgeModel" b_Mo_writeNumber none 6) {r31 : Int32 → IV → IV → (IV × IV)} {q31 : Int32 → IV → IV → Prop}  (ih31 : HL_Mo_writeNumber_31 p l e s m args below meth c g mo a ws0 now dr pa sa iS bu tq rT wT sK sA sB sE oq bS bE bL p1 r31 q31) : HL_Mo_writeNumber_31 p l e s m args below meth c g mo a ws0 now dr pa sa iS bu tq rT wT sK sA sB sE oq bS bE bL p1 (bd_Mo_writeNumber_31 p1  r31) (okb_Mo_writeNumber_31 p1  r31  q31) := by
  intro x5p31 op31 rpp31 hok z hz H locs ls hP hD hS hl
  obtain ⟨hx, hb, hr, hml, hown, hlk, hts, hK, hZo, hZ⟩ := id C
  unfold bd_Mo_writeNumber_31 at hz
  unfold okb_Mo_writeNumber_31 at hok
  refine lv_iload hx hb d_Mo_writeNumber_31 (lv_at hl 2 rfl) ?_
  refine lv_if_lt (tgt := 61) hx hb d_Mo_writeNumber_33 (by decide) (fun c6 => ?_) (fun c6 => ?_)
  · have hz := hz.trans (if_pos c6)
    exact endV C hz hP hS d_Mo_writeNumber_61
  · have hz := hz.trans (if_neg c6)
    have hok := hok.2 c6
    refine lv_aload_n hx hb d_Mo_writeNumber_36 rfl (lv_at hl 0 rfl) ?_
    refine lv_bipush (v := 48) hx hb d_Mo_writeNumber_37 (by decide) ?_
    refine lv_lload_n hx hb d_Mo_writeNumber_39 rfl (lv_at hl 1 rfl) ?_
    refine lv_iload hx hb d_Mo_writeNumber_40 (lv_at hl 2 rfl) ?_
    have hs7 := hok.1
    have hok := hok.2
    have hB : SubW g (inW ws0) s (wMo g mo a op31 now dr pa sa iS bu tq rT wT sK sA sB sE oq bS bE bL rpp31) _ (List.range _) _ _ := (subF hP hD hS)
    refine goL0 hB (run_s C mf_Mo_tenTo qm_Mo_122 (c_Mo_tenTo l g mo a op31 now dr pa sa iS bu tq rT wT sK sA sB sE oq bS bE bL rpp31 x5p31 hs7) rfl rfl ⟨Nat.le_of_ble_eq_true rfl, Nat.le_of_ble_eq_true rfl⟩ ⟨Nat.le_of_ble_eq_true rfl, Nat.le_of_ble_eq_true rfl⟩ hB hl rfl rfl (Nat.le_of_ble_eq_true rfl) d_Mo_writeNumber_42) (fun y8 ey8 H locs hP hS => ?_)
    have hz := lett_z hz ey8
    have hok := lett_o hok ey8
    have hs9 := hok.1
    have hok := hok.2
    refine lv_ldiv hx hb d_Mo_writeNumber_45 hs9 ?_
    refine lv_ldc2 hx hb hown (hts _ qk_Mo_110) d_Mo_writeNumber_46 ?_
    refine lv_lrem hx hb d_Mo_writeNumber_49 (by decide) ?_
    refine lv_l2i hx hb d_Mo_writeNumber_50 rfl ?_
    refine lv_iadd hx hb d_Mo_writeNumber_51 ?_
    have hs10 := hok.1
    have hok := hok.2
    have hB : SubW g (inW ws0) s (wMo g mo a op31 now dr pa sa iS bu tq rT wT sK sA sB sE oq bS bE bL rpp31) _ (List.range _) _ _ := (subF hP hD hS)
    refine goVF hB (run_v C mf_Mo_write qm_Mo_546 (c_Mo_write l g mo a op31 now dr pa sa iS bu tq rT wT sK sA sB sE oq bS bE bL rpp31 ((48 : Int32) + (((p1 / y8) - (p1 / y8) / (10 : Int64) * (10 : Int64)).toInt32)) hs10) rfl rfl ⟨Nat.le_of_ble_eq_true rfl, Nat.le_of_ble_eq_true rfl⟩ ⟨Nat.le_of_ble_eq_true rfl, Nat.le_of_ble_eq_true rfl⟩ hB rfl rfl hl rfl rfl (Nat.le_of_ble_eq_true rfl) d_Mo_writeNumber_52) (fun _ => rfl) (fun y11 ey11 H locs hP hD hS => ?_)
    have hP : va_P g.1 vwCl (wMo g mo a y11.1 now dr pa sa iS bu tq rT wT sK sA sB sE oq bS bE bL y11.2) H := hP
    have hD : va_D (inW ws0) (wMo g mo a y11.1 now dr pa sa iS bu tq rT wT sK sA sB sE oq bS bE bL y11.2) := hD
    have hz := lett_z hz ey11
    have hok := lett_o hok ey11
    obtain ⟨v12, ev12⟩ : ∃ y : Int32, y = x5p31 + (-1 : Int32) := ⟨_, rfl⟩
    have hz := lett_z hz ev12
    have hok := lett_o hok ev12
    refine lv_iinc (v := v12) (lv' := [(5, .int v12), (0, .ref mo), (1, .long p1)]) hx hb d_Mo_writeNumber_55 hl (k := 2) rfl (by rw [ev12]; rfl) (by decide) rfl (fun ls hl => ?_)
    refine lv_goto (tgt := 31) hx hb d_Mo_writeNumber_58 (by decide) ?_
    exact ih31 v12 y11.1 y11.2 hok _ hz _ _ ls hP hD hS (lv_sub hl [1, 2, 0] rfl)
theorem k_Mo_writeNumber_31 {p : Program} {l : Launch} {e : Env} {s : State} {m : MethodId} {args : Array Value} {below : List Frame} {meth : Method} {c : Code} {g : GX} {mo : Nat} {a : Nat → Nat} {ws0 : va_W} {now : LV} {dr : LV} {pa : LV} {sa : LV} {iS : IV} {bu : IV} {tq : IV} {rT : IV} {wT : IV} {sK : IV} {sA : IV} {sB : IV} {sE : IV} {oq : IV} {bS : IV} {bE : IV} {bL : IV} {p1 : Int64}  (C : Cx p s m args meth c (inW ws0) g "DecadeBridgeModel" b_Mo_writeNumber none 6) (f : Nat)  : HL_Mo_writeNumber_31 p l e s m args below meth c g mo a ws0 now dr pa sa iS bu tq rT wT sK sA sB sE oq bS bE bL p1 (sp_Mo_writeNumber_31 p1  f) (ok_Mo_writeNumber_31 p1   f) := by
  induction f with
  | zero => intro x5p31 op31 rpp31 hok; exact False.elim hok
  | succ f ih => exact kb_Mo_writeNumber_31 C  ih
noncomputable def sp_Mo_writeNumber_25 (x4p3 : Int32) (p1 : Int64) (o : IV) (rp : IV)   : IV × IV := lett (x4p3 - (1 : Int32)) fun (v5 : Int32) => sp_Mo_writeNumber_31 p1 big v5 o rp
def ok_Mo_writeNumber_25 (x4p3 : Int32) (p1 : Int64) (o : IV) (rp : IV)    : Prop := lett (x4p3 - (1 : Int32)) fun (v5 : Int32) => ok_Mo_writeNumber_31 p1 big v5 o rp
set_option maxRecDepth 100000 in
set_option maxHeartbeats 4000000 in
theorem k_Mo_writeNumber_25 {p : Program} {l : Launch} {e : Env} {s : State} {m : MethodId} {args : Array Value} {below : List Frame} {meth : Method} {c : Code} {g : GX} {mo : Nat} {a : Nat → Nat} {ws0 : va_W} {o : IV} {now : LV} {dr : LV} {pa : LV} {sa : LV} {iS : IV} {bu : IV} {tq : IV} {rT : IV} {wT : IV} {sK : IV} {sA : IV} {sB : IV} {sE : IV} {oq : IV} {bS : IV} {bE : IV} {bL : IV} {rp : IV} {p1 : Int64} {x4p3 : Int32}  (C : Cx p s m args meth c (inW ws0) g "DecadeBridgeModel" b_Mo_writeNumber none 6)  : HL_Mo_writeNumber_25 p l e s m args below meth c g mo a ws0 o now dr pa sa iS bu tq rT wT sK sA sB sE oq bS bE bL rp p1 x4p3 (sp_Mo_writeNumber_25 x4p3 p1 o rp ) (ok_Mo_writeNumber_25 x4p3 p1 o rp  ) := by
  intro _ hok z hz H locs ls hP hD hS hl
  obtain ⟨hx, hb, hr, hml, hown, hlk, hts, hK, hZo, hZ⟩ := id C
  unfold sp_Mo_writeNumber_25 at hz
  unfold ok_Mo_writeNumber_25 at hok
  refine lv_iload hx hb d_Mo_writeNumber_25 (lv_at hl 2 rfl) ?_
  refine lv_iconst (v := 1) hx hb d_Mo_writeNumber_27 (by decide) ?_
  refine lv_isub hx hb d_Mo_writeNumber_28 ?_
  refine lv_topi (fun v5 ev5 => ?_)
  have hz := lett_z hz ev5
  have hok := lett_o hok ev5
  refine lv_istore (lv' := [(5, .int v5), (0, .ref mo), (1, .long p1), (4, .int x4p3)]) hx hb d_Mo_writeNumber_29 hl (by decide) rfl (fun ls hl => ?_)
  exact k_Mo_writeNumber_31 C big v5 o rp hok _ hz _ _ ls hP hD hS (lv_sub hl [1, 2, 0] rfl)
noncomputable def bd_Mo_writeNumber_3 (p2 : Int32) (p1 : Int64) (o : IV) (rp : IV) (r3 : Int32 → (IV × IV)) (x4p3 : Int32) : IV × IV := if x4p3 < p2 then (sp_Mo_writeNumber_19 x4p3 r3) else (lett (sp_Mo_tenTo x4p3) fun (y3 : Int64) => if p1 < y3 then (sp_Mo_writeNumber_25 x4p3 p1 o rp) else (sp_Mo_writeNumber_19 x4p3 r3))
def okb_Mo_writeNumber_3 (p2 : Int32) (p1 : Int64) (o : IV) (rp : IV) (r3 : Int32 → (IV × IV)) (q3 : Int32 → Prop) (x4p3 : Int32) : Prop := ((x4p3 < p2 → ok_Mo_writeNumber_19 x4p3 r3 q3) ∧ (¬ (x4p3 < p2) → (ok_Mo_tenTo x4p3) ∧ lett (sp_Mo_tenTo x4p3) fun (y3 : Int64) => ((p1 < y3 → ok_Mo_writeNumber_25 x4p3 p1 o rp) ∧ (¬ (p1 < y3) → ok_Mo_writeNumber_19 x4p3 r3 q3))))
noncomputable def sp_Mo_writeNumber_3 (p2 : Int32) (p1 : Int64) (o : IV) (rp : IV)  : Nat → Int32 → (IV × IV)
  | 0 => fun _ => default
  | f + 1 => bd_Mo_writeNumber_3 p2 p1 o rp  (sp_Mo_writeNumber_3 p2 p1 o rp  f)
def ok_Mo_writeNumber_3 (p2 : Int32) (p1 : Int64) (o : IV) (rp : IV)   : Nat → Int32 → Prop
  | 0 => fun _ => False
  | f + 1 => okb_Mo_writeNumber_3 p2 p1 o rp  (sp_Mo_writeNumber_3 p2 p1 o rp  f)  (ok_Mo_writeNumber_3 p2 p1 o rp   f)
set_option maxRecDepth 100000 in
set_option maxHeartbeats 4000000 in
theorem kb_Mo_writeNumber_3 {p : Program} {l : Launch} {e : Env} {s : State} {m : MethodId} {args : Array Value} {below : List Frame} {meth : Method} {c : Code} {g : GX} {mo : Nat} {a : Nat → Nat} {ws0 : va_W} {o : IV} {now : LV} {dr : LV} {pa : LV} {sa : LV} {iS : IV} {bu : IV} {tq : IV} {rT : IV} {wT : IV} {sK : IV} {sA : IV} {sB : IV} {sE : IV} {oq : IV} {bS : IV} {bE : IV} {bL : IV} {rp : IV} {p1 : Int64} {p2 : Int32}  (C : Cx p s m args meth c (inW ws0) g "DecadeBridgeModel" b_Mo_writeNumber none 6) {r3 : Int32 → (IV × IV)} {q3 : Int32 → Prop}  (ih3 : HL_Mo_writeNumber_3 p l e s m args below meth c g mo a ws0 o now dr pa sa iS bu tq rT wT sK sA sB sE oq bS bE bL rp p1 p2 r3 q3) : HL_Mo_writeNumber_3 p l e s m args below meth c g mo a ws0 o now dr pa sa iS bu tq rT wT sK sA sB sE oq bS bE bL rp p1 p2 (bd_Mo_writeNumber_3 p2 p1 o rp  r3) (okb_Mo_writeNumber_3 p2 p1 o rp  r3  q3) := by
  intro x4p3 hok z hz H locs ls hP hD hS hl
  obtain ⟨hx, hb, hr, hml, hown, hlk, hts, hK, hZo, hZ⟩ := id C
  unfold bd_Mo_writeNumber_3 at hz
  unfold okb_Mo_writeNumber_3 at hok
  refine lv_iload hx hb d_Mo_writeNumber_3 (lv_at hl 3 rfl) ?_
  refine lv_iload_n hx hb d_Mo_writeNumber_5 rfl (lv_at hl 2 rfl) ?_
  refine lv_icmp_lt (tgt := 19) hx hb d_Mo_writeNumber_6 (by decide) (fun c1 => ?_) (fun c1 => ?_)
  · have hz := hz.trans (if_pos c1)
    have hok := hok.1 c1
    exact k_Mo_writeNumber_19 C ih3 () hok _ hz _ _ ls hP hD hS hl
  · have hz := hz.trans (if_neg c1)
    have hok := hok.2 c1
    refine lv_iload hx hb d_Mo_writeNumber_9 (lv_at hl 3 rfl) ?_
    have hs2 := hok.1
    have hok := hok.2
    have hB : SubW g (inW ws0) s (wMo g mo a o now dr pa sa iS bu tq rT wT sK sA sB sE oq bS bE bL rp) _ (List.range _) _ _ := (subF hP hD hS)
    refine goL0 hB (run_s C mf_Mo_tenTo qm_Mo_122 (c_Mo_tenTo l g mo a o now dr pa sa iS bu tq rT wT sK sA sB sE oq bS bE bL rp x4p3 hs2) rfl rfl ⟨Nat.le_of_ble_eq_true rfl, Nat.le_of_ble_eq_true rfl⟩ ⟨Nat.le_of_ble_eq_true rfl, Nat.le_of_ble_eq_true rfl⟩ hB hl rfl rfl (Nat.le_of_ble_eq_true rfl) d_Mo_writeNumber_11) (fun y3 ey3 H locs hP hS => ?_)
    have hz := lett_z hz ey3
    have hok := lett_o hok ey3
    refine lv_lload_n hx hb d_Mo_writeNumber_14 rfl (lv_at hl 1 rfl) ?_
    refine lc_gt (tgt := 25) hx hb d_Mo_writeNumber_15 d_Mo_writeNumber_16 (by decide) (fun c4 => ?_) (fun c4 => ?_)
    · have hz := hz.trans (if_pos c4)
      have hok := hok.1 c4
      exact k_Mo_writeNumber_25 C () hok _ hz _ _ ls hP hD hS (lv_sub hl [0, 1, 3] rfl)
    · have hz := hz.trans (if_neg c4)
      have hok := hok.2 c4
      exact k_Mo_writeNumber_19 C ih3 () hok _ hz _ _ ls hP hD hS hl
theorem k_Mo_writeNumber_3 {p : Program} {l : Launch} {e : Env} {s : State} {m : MethodId} {args : Array Value} {below : List Frame} {meth : Method} {c : Code} {g : GX} {mo : Nat} {a : Nat → Nat} {ws0 : va_W} {o : IV} {now : LV} {dr : LV} {pa : LV} {sa : LV} {iS : IV} {bu : IV} {tq : IV} {rT : IV} {wT : IV} {sK : IV} {sA : IV} {sB : IV} {sE : IV} {oq : IV} {bS : IV} {bE : IV} {bL : IV} {rp : IV} {p1 : Int64} {p2 : Int32}  (C : Cx p s m args meth c (inW ws0) g "DecadeBridgeModel" b_Mo_writeNumber none 6) (f : Nat)  : HL_Mo_writeNumber_3 p l e s m args below meth c g mo a ws0 o now dr pa sa iS bu tq rT wT sK sA sB sE oq bS bE bL rp p1 p2 (sp_Mo_writeNumber_3 p2 p1 o rp  f) (ok_Mo_writeNumber_3 p2 p1 o rp   f) := by
  induction f with
  | zero => intro x4p3 hok; exact False.elim hok
  | succ f ih => exact kb_Mo_writeNumber_3 C  ih
noncomputable def sp_Mo_writeNumber (p1 : Int64) (p2 : Int32) (o : IV) (rp : IV) : IV × IV := sp_Mo_writeNumber_3 p2 p1 o rp big (1 : Int32)
def ok_Mo_writeNumber (p1 : Int64) (p2 : Int32) (o : IV) (rp : IV) : Prop := ok_Mo_writeNumber_3 p2 p1 o rp big (1 : Int32)
set_option maxRecDepth 100000 in
set_option maxHeartbeats 4000000 in
theorem c_Mo_writeNumber (l : Launch) (g : GX) (mo : Nat) (a : Nat → Nat) (o : IV) (now : LV) (dr : LV) (pa : LV) (sa : LV) (iS : IV) (bu : IV) (tq : IV) (rT : IV) (wT : IV) (sK : IV) (sA : IV) (sB : IV) (sE : IV) (oq : IV) (bS : IV) (bE : IV) (bL : IV) (rp : IV) (p1 : Int64) (p2 : Int32) (hok : ok_Mo_writeNumber p1 p2 o rp) : Met l y_Mo_writeNumber (wsY y_Mo_writeNumber b_Mo_writeNumber 6 none) rm_Mo_writeNumber (CP g [.ref mo, .long p1, .int p2] (wMo g mo a o now dr pa sa iS bu tq rT wT sK sA sB sE oq bS bE bL rp)) (CV g (wMo g mo a o now dr pa sa iS bu tq rT wT sK sA sB sE oq bS bE bL rp) (fun u : IV × IV => wMo g mo a u.1 now dr pa sa iS bu tq rT wT sK sA sB sE oq bS bE bL u.2) (sp_Mo_writeNumber p1 p2 o rp)) 0 0 (inW (wMo g mo a o now dr pa sa iS bu tq rT wT sK sA sB sE oq bS bE bL rp)) := by
  refine Met.ofW (cc := b_Mo_writeNumber) (maxL := 6) (ret := none) pn_Mo rfl ?_
  intro p e s m args below meth c s₁ B hml hv
  obtain ⟨rfl, C, hP, hD, hS⟩ := enter "DecadeBridgeModel" rfl B hml hv
  obtain ⟨hx, hb, hr, hml, hown, hlk, hts, hK, hZo, hZ⟩ := id C
  refine entryW (lv := [(0, .ref mo), (1, .long p1), (3, .int p2)]) rfl (Nat.le_of_ble_eq_true rfl) (fun ls hl => ?_)
  obtain ⟨z, hz⟩ : ∃ z, z = sp_Mo_writeNumber p1 p2 o rp := ⟨_, rfl⟩
  rw [← hz]
  unfold sp_Mo_writeNumber at hz
  unfold ok_Mo_writeNumber at hok
  refine lv_iconst (v := 1) hx hb d_Mo_writeNumber_0 (by decide) ?_
  refine lv_istore (lv' := [(4, .int (1 : Int32)), (0, .ref mo), (1, .long p1), (3, .int p2)]) hx hb d_Mo_writeNumber_1 hl (by decide) rfl (fun ls hl => ?_)
  exact k_Mo_writeNumber_3 C big (1 : Int32) hok _ hz _ _ ls hP hD hS (lv_sub hl [1, 2, 3, 0] rfl)
abbrev rm_Mo_writeResult : Room := { frames := 2, cells := 0, slots := 0, locals := 48 }
def HL_Mo_writeResult_56 (p : Program) (l : Launch) (e : Env) (s : State) (m : MethodId) (args : Array Value) (below : List Frame) (meth : Method) (c : Code) (g : GX) (mo : Nat) (a : Nat → Nat) (ws0 : va_W) (now : LV) (dr : LV) (pa : LV) (sa : LV) (iS : IV) (bu : IV) (tq : IV) (rT : IV) (wT : IV) (sK : IV) (sA : IV) (sB : IV) (sE : IV) (oq : IV) (bS : IV) (bE : IV) (bL : IV) (p1 : Int32) (sp : Int32 → IV → IV → (IV × IV)) (ok : Int32 → IV → IV → Prop) : Prop := ∀ (x2p56 : Int32) (op56 : IV) (rpp56 : IV), ok x2p56 op56 rpp56 → ∀ z : (IV × IV), z = sp x2p56 op56 rpp56 → ∀ (H : Heap) (locs : List Loc) (ls : Array Slot), va_P g.1 vwCl (wMo g mo a op56 now dr pa sa iS bu tq rT wT sK sA sB sE oq bS bE bL rpp56) H → va_D (inW ws0) (wMo g mo a op56 now dr pa sa iS bu tq rT wT sK sA sB sE oq bS bE bL rpp56) → va_S (inW ws0) s.heap H locs → lv_has ls 4 [(0, .ref mo), (1, .int p1), (2, .int x2p56)] → W p l e rm_Mo_writeResult s m args below meth c H locs 0 0 (MQ below (CV g ws0 (fun u : IV × IV => wMo g mo a u.1 now dr pa sa iS bu tq rT wT sK sA sB sE oq bS bE bL u.2) z) args s 0 0 (inW ws0)) (F0 m 56 ls [])
def HL_Mo_writeResult_80 (p : Program) (l : Launch) (e : Env) (s : State) (m : MethodId) (args : Array Value) (below : List Frame) (meth : Method) (c : Code) (g : GX) (mo : Nat) (a : Nat → Nat) (ws0 : va_W) (op56 : IV) (now : LV) (dr : LV) (pa : LV) (sa : LV) (iS : IV) (bu : IV) (tq : IV) (rT : IV) (wT : IV) (sK : IV) (sA : IV) (sB : IV) (sE : IV) (oq : IV) (bS : IV) (bE : IV) (bL : IV) (rpp56 : IV) (p1 : Int32) (sp : (IV × IV)) (ok : Prop) : Prop := ∀ (_ : Unit), ok → ∀ z : (IV × IV), z = sp → ∀ (H : Heap) (locs : List Loc) (ls : Array Slot), va_P g.1 vwCl (wMo g mo a op56 now dr pa sa iS bu tq rT wT sK sA sB sE oq bS bE bL rpp56) H → va_D (inW ws0) (wMo g mo a op56 now dr pa sa iS bu tq rT wT sK sA sB sE oq bS bE bL rpp56) → va_S (inW ws0) s.heap H locs → lv_has ls 4 [(0, .ref mo), (1, .int p1)] → W p l e rm_Mo_writeResult s m args below meth c H locs 0 0 (MQ below (CV g ws0 (fun u : IV × IV => wMo g mo a u.1 now dr pa sa iS bu tq rT wT sK sA sB sE oq bS bE bL u.2) z) args s 0 0 (inW ws0)) (F0 m 80 ls [])
def HL_Mo_writeResult_106 (p : Program) (l : Launch) (e : Env) (s : State) (m : MethodId) (args : Array Value) (below : List Frame) (meth : Method) (c : Code) (g : GX) (mo : Nat) (a : Nat → Nat) (ws0 : va_W) (now : LV) (dr : LV) (pa : LV) (sa : LV) (iS : IV) (bu : IV) (tq : IV) (rT : IV) (wT : IV) (sK : IV) (sA : IV) (sB : IV) (sE : IV) (oq : IV) (bS : IV) (bE : IV) (bL : IV) (p1 : Int32) (y29 : Int64) (sp : IV → IV → (IV × IV)) (ok : IV → IV → Prop) : Prop := ∀ (op106 : IV) (rpp106 : IV), ok op106 rpp106 → ∀ z : (IV × IV), z = sp op106 rpp106 → ∀ (H : Heap) (locs : List Loc) (ls : Array Slot), va_P g.1 vwCl (wMo g mo a op106 now dr pa sa iS bu tq rT wT sK sA sB sE oq bS bE bL rpp106) H → va_D (inW ws0) (wMo g mo a op106 now dr pa sa iS bu tq rT wT sK sA sB sE oq bS bE bL rpp106) → va_S (inW ws0) s.heap H locs → lv_has ls 4 [(0, .ref mo), (1, .int p1), (2, .long y29)] → W p l e rm_Mo_writeResult s m args below meth c H locs 0 0 (MQ below (CV g ws0 (fun u : IV × IV => wMo g mo a u.1 now dr pa sa iS bu tq rT wT sK sA sB sE oq bS bE bL u.2) z) args s 0 0 (inW ws0)) (F0 m 106 ls [])
def HL_Mo_writeResult_132 (p : Program) (l : Launch) (e : Env) (s : State) (m : MethodId) (args : Array Value) (below : List Frame) (meth : Method) (c : Code) (g : GX) (mo : Nat) (a : Nat → Nat) (ws0 : va_W) (now : LV) (dr : LV) (pa : LV) (sa : LV) (iS : IV) (bu : IV) (tq : IV) (rT : IV) (wT : IV) (sK : IV) (sA : IV) (sB : IV) (sE : IV) (oq : IV) (bS : IV) (bE : IV) (bL : IV) (sp : IV → IV → (IV × IV)) (ok : IV → IV → Prop) : Prop := ∀ (op132 : IV) (rpp132 : IV), ok op132 rpp132 → ∀ z : (IV × IV), z = sp op132 rpp132 → ∀ (H : Heap) (locs : List Loc) (ls : Array Slot), va_P g.1 vwCl (wMo g mo a op132 now dr pa sa iS bu tq rT wT sK sA sB sE oq bS bE bL rpp132) H → va_D (inW ws0) (wMo g mo a op132 now dr pa sa iS bu tq rT wT sK sA sB sE oq bS bE bL rpp132) → va_S (inW ws0) s.heap H locs → lv_has ls 4 [(0, .ref mo)] → W p l e rm_Mo_writeResult s m args below meth c H locs 0 0 (MQ below (CV g ws0 (fun u : IV × IV => wMo g mo a u.1 now dr pa sa iS bu tq rT wT sK sA sB sE oq bS bE bL u.2) z) args s 0 0 (inW ws0)) (F0 m 132 ls [])
noncomputable def sp_Mo_writeResult_132   (op132 : IV) (rpp132 : IV) : IV × IV := lett (sp_Mo_write (10 : Int32) op132 rpp132) fun (y42 : IV × IV) => (y42.1, y42.2)
def ok_Mo_writeResult_132    (op132 : IV) (rpp132 : IV) : Prop := (ok_Mo_write (10 : Int32) op132) ∧ True
set_option maxRecDepth 100000 in
set_option maxHeartbeats 4000000 in
theorem k_Mo_writeResult_132 {p : Program} {l : Launch} {e : Env} {s : State} {m : MethodId} {args : Array Value} {below : List Frame} {meth : Method} {c : Code} {g : GX} {mo : Nat} {a : Nat → Nat} {ws0 : va_W} {now : LV} {dr : LV} {pa : LV} {sa : LV} {iS : IV} {bu : IV} {tq : IV} {rT : IV} {wT : IV} {sK : IV} {sA : IV} {sB : IV} {sE : IV} {oq : IV} {bS : IV} {bE : IV} {bL : IV}  (C : Cx p s m args meth c (inW ws0) g "DecadeBridgeModel" b_Mo_writeResult none 4)  : HL_Mo_writeResult_132 p l e s m args below meth c g mo a ws0 now dr pa sa iS bu tq rT wT sK sA sB sE oq bS bE bL (sp_Mo_writeResult_132  ) (ok_Mo_writeResult_132   ) := by
  intro op132 rpp132 hok z hz H locs ls hP hD hS hl
  obtain ⟨hx, hb, hr, hml, hown, hlk, hts, hK, hZo, hZ⟩ := id C
  unfold sp_Mo_writeResult_132 at hz
  unfold ok_Mo_writeResult_132 at hok
  refine lv_aload_n hx hb d_Mo_writeResult_132 rfl (lv_at hl 0 rfl) ?_
  refine lv_bipush (v := 10) hx hb d_Mo_writeResult_133 (by decide) ?_
  have hs41 := hok.1
  have hok := hok.2
  have hB : SubW g (inW ws0) s (wMo g mo a op132 now dr pa sa iS bu tq rT wT sK sA sB sE oq bS bE bL rpp132) _ (List.range _) _ _ := (subF hP hD hS)
  refine goVF hB (run_v C mf_Mo_write qm_Mo_546 (c_Mo_write l g mo a op132 now dr pa sa iS bu tq rT wT sK sA sB sE oq bS bE bL rpp132 (10 : Int32) hs41) rfl rfl ⟨Nat.le_of_ble_eq_true rfl, Nat.le_of_ble_eq_true rfl⟩ ⟨Nat.le_of_ble_eq_true rfl, Nat.le_of_ble_eq_true rfl⟩ hB rfl rfl hl rfl rfl (Nat.le_of_ble_eq_true rfl) d_Mo_writeResult_135) (fun _ => rfl) (fun y42 ey42 H locs hP hD hS => ?_)
  have hP : va_P g.1 vwCl (wMo g mo a y42.1 now dr pa sa iS bu tq rT wT sK sA sB sE oq bS bE bL y42.2) H := hP
  have hD : va_D (inW ws0) (wMo g mo a y42.1 now dr pa sa iS bu tq rT wT sK sA sB sE oq bS bE bL y42.2) := hD
  have hz := lett_z hz ey42
  exact endV C hz hP hS d_Mo_writeResult_138
noncomputable def sp_Mo_writeResult_106 (y29 : Int64) (p1 : Int32) (now : LV)  (op106 : IV) (rpp106 : IV) : IV × IV := lett (sp_Mo_amount y29) fun (y33 : Int64) => lett (sp_Mo_writeNumber y33 (1 : Int32) op106 rpp106) fun (y35 : IV × IV) => lett (sp_Mo_ofResult p1 (5 : Int32) now) fun (y37 : Int64) => if y37 = (1 : Int64) then (lett (sp_Mo_write (42 : Int32) y35.1 y35.2) fun (y40 : IV × IV) => sp_Mo_writeResult_132 y40.1 y40.2) else (sp_Mo_writeResult_132 y35.1 y35.2)
def ok_Mo_writeResult_106 (y29 : Int64) (p1 : Int32) (now : LV)   (op106 : IV) (rpp106 : IV) : Prop := lett (sp_Mo_amount y29) fun (y33 : Int64) => (ok_Mo_writeNumber y33 (1 : Int32) op106 rpp106) ∧ lett (sp_Mo_writeNumber y33 (1 : Int32) op106 rpp106) fun (y35 : IV × IV) => (ok_Mo_ofResult p1 (5 : Int32)) ∧ lett (sp_Mo_ofResult p1 (5 : Int32) now) fun (y37 : Int64) => ((y37 = (1 : Int64) → (ok_Mo_write (42 : Int32) y35.1) ∧ lett (sp_Mo_write (42 : Int32) y35.1 y35.2) fun (y40 : IV × IV) => ok_Mo_writeResult_132 y40.1 y40.2) ∧ (¬ (y37 = (1 : Int64)) → ok_Mo_writeResult_132 y35.1 y35.2))
set_option maxRecDepth 100000 in
set_option maxHeartbeats 4000000 in
theorem k_Mo_writeResult_106 {p : Program} {l : Launch} {e : Env} {s : State} {m : MethodId} {args : Array Value} {below : List Frame} {meth : Method} {c : Code} {g : GX} {mo : Nat} {a : Nat → Nat} {ws0 : va_W} {now : LV} {dr : LV} {pa : LV} {sa : LV} {iS : IV} {bu : IV} {tq : IV} {rT : IV} {wT : IV} {sK : IV} {sA : IV} {sB : IV} {sE : IV} {oq : IV} {bS : IV} {bE : IV} {bL : IV} {p1 : Int32} {y29 : Int64}  (C : Cx p s m args meth c (inW ws0) g "DecadeBridgeModel" b_Mo_writeResult none 4)  : HL_Mo_writeResult_106 p l e s m args below meth c g mo a ws0 now dr pa sa iS bu tq rT wT sK sA sB sE oq bS bE bL p1 y29 (sp_Mo_writeResult_106 y29 p1 now ) (ok_Mo_writeResult_106 y29 p1 now  ) := by
  intro op106 rpp106 hok z hz H locs ls hP hD hS hl
  obtain ⟨hx, hb, hr, hml, hown, hlk, hts, hK, hZo, hZ⟩ := id C
  unfold sp_Mo_writeResult_106 at hz
  unfold ok_Mo_writeResult_106 at hok
  refine lv_aload_n hx hb d_Mo_writeResult_106 rfl (lv_at hl 0 rfl) ?_
  refine lv_lload_n hx hb d_Mo_writeResult_107 rfl (lv_at hl 2 rfl) ?_
  have hB : SubW g (inW ws0) s (wMo g mo a op106 now dr pa sa iS bu tq rT wT sK sA sB sE oq bS bE bL rpp106) _ (List.range _) _ _ := (subF hP hD hS)
  refine goL0 hB (run_s C mf_Mo_amount qm_Mo_217 (c_Mo_amount l g mo a op106 now dr pa sa iS bu tq rT wT sK sA sB sE oq bS bE bL rpp106 y29) rfl rfl ⟨Nat.le_of_ble_eq_true rfl, Nat.le_of_ble_eq_true rfl⟩ ⟨Nat.le_of_ble_eq_true rfl, Nat.le_of_ble_eq_true rfl⟩ hB hl rfl rfl (Nat.le_of_ble_eq_true rfl) d_Mo_writeResult_108) (fun y33 ey33 H locs hP hS => ?_)
  have hz := lett_z hz ey33
  have hok := lett_o hok ey33
  refine lv_iconst (v := 1) hx hb d_Mo_writeResult_111 (by decide) ?_
  have hs34 := hok.1
  have hok := hok.2
  have hB : SubW g (inW ws0) s (wMo g mo a op106 now dr pa sa iS bu tq rT wT sK sA sB sE oq bS bE bL rpp106) _ (List.range _) _ _ := (subF hP hD hS)
  refine goVF hB (run_v C mf_Mo_writeNumber qm_Mo_549 (c_Mo_writeNumber l g mo a op106 now dr pa sa iS bu tq rT wT sK sA sB sE oq bS bE bL rpp106 y33 (1 : Int32) hs34) rfl rfl ⟨Nat.le_of_ble_eq_true rfl, Nat.le_of_ble_eq_true rfl⟩ ⟨Nat.le_of_ble_eq_true rfl, Nat.le_of_ble_eq_true rfl⟩ hB rfl rfl hl rfl rfl (Nat.le_of_ble_eq_true rfl) d_Mo_writeResult_112) (fun _ => rfl) (fun y35 ey35 H locs hP hD hS => ?_)
  have hP : va_P g.1 vwCl (wMo g mo a y35.1 now dr pa sa iS bu tq rT wT sK sA sB sE oq bS bE bL y35.2) H := hP
  have hD : va_D (inW ws0) (wMo g mo a y35.1 now dr pa sa iS bu tq rT wT sK sA sB sE oq bS bE bL y35.2) := hD
  have hz := lett_z hz ey35
  have hok := lett_o hok ey35
  refine lv_aload_n hx hb d_Mo_writeResult_115 rfl (lv_at hl 0 rfl) ?_
  refine lv_iload_n hx hb d_Mo_writeResult_116 rfl (lv_at hl 1 rfl) ?_
  refine lv_iconst (v := 5) hx hb d_Mo_writeResult_117 (by decide) ?_
  have hs36 := hok.1
  have hok := hok.2
  have hB : SubW g (inW ws0) s (wMo g mo a y35.1 now dr pa sa iS bu tq rT wT sK sA sB sE oq bS bE bL y35.2) _ (List.range _) _ _ := (subF hP hD hS)
  refine goL0 hB (run_v C mf_Mo_ofResult qm_Mo_406 (c_Mo_ofResult l g mo a y35.1 now dr pa sa iS bu tq rT wT sK sA sB sE oq bS bE bL y35.2 p1 (5 : Int32) hs36) rfl rfl ⟨Nat.le_of_ble_eq_true rfl, Nat.le_of_ble_eq_true rfl⟩ ⟨Nat.le_of_ble_eq_true rfl, Nat.le_of_ble_eq_true rfl⟩ hB rfl rfl hl rfl rfl (Nat.le_of_ble_eq_true rfl) d_Mo_writeResult_118) (fun y37 ey37 H locs hP hS => ?_)
  have hz := lett_z hz ey37
  have hok := lett_o hok ey37
  refine lv_lconst (v := 1) hx hb d_Mo_writeResult_121 (by decide) ?_
  refine lc_ne (tgt := 132) hx hb d_Mo_writeResult_122 d_Mo_writeResult_123 (by decide) (fun c38 => ?_) (fun c38 => ?_)
  · have hz := hz.trans (if_neg c38)
    have hok := hok.2 c38
    exact k_Mo_writeResult_132 C y35.1 y35.2 hok _ hz _ _ ls hP hD hS (lv_sub hl [0] rfl)
  · have hz := hz.trans (if_pos c38)
    have hok := hok.1 c38
    refine lv_aload_n hx hb d_Mo_writeResult_126 rfl (lv_at hl 0 rfl) ?_
    refine lv_bipush (v := 42) hx hb d_Mo_writeResult_127 (by decide) ?_
    have hs39 := hok.1
    have hok := hok.2
    have hB : SubW g (inW ws0) s (wMo g mo a y35.1 now dr pa sa iS bu tq rT wT sK sA sB sE oq bS bE bL y35.2) _ (List.range _) _ _ := (subF hP hD hS)
    refine goVF hB (run_v C mf_Mo_write qm_Mo_546 (c_Mo_write l g mo a y35.1 now dr pa sa iS bu tq rT wT sK sA sB sE oq bS bE bL y35.2 (42 : Int32) hs39) rfl rfl ⟨Nat.le_of_ble_eq_true rfl, Nat.le_of_ble_eq_true rfl⟩ ⟨Nat.le_of_ble_eq_true rfl, Nat.le_of_ble_eq_true rfl⟩ hB rfl rfl hl rfl rfl (Nat.le_of_ble_eq_true rfl) d_Mo_writeResult_129) (fun _ => rfl) (fun y40 ey40 H locs hP hD hS => ?_)
    have hP : va_P g.1 vwCl (wMo g mo a y40.1 now dr pa sa iS bu tq rT wT sK sA sB sE oq bS bE bL y40.2) H := hP
    have hD : va_D (inW ws0) (wMo g mo a y40.1 now dr pa sa iS bu tq rT wT sK sA sB sE oq bS bE bL y40.2) := hD
    have hz := lett_z hz ey40
    have hok := lett_o hok ey40
    exact k_Mo_writeResult_132 C y40.1 y40.2 hok _ hz _ _ ls hP hD hS (lv_sub hl [0] rfl)
noncomputable def sp_Mo_writeResult_80 (op56 : IV) (rpp56 : IV) (p1 : Int32) (now : LV)   : IV × IV := lett (sp_Mo_write (32 : Int32) op56 rpp56) fun (y27 : IV × IV) => lett (sp_Mo_ofResult p1 (7 : Int32) now) fun (y29 : Int64) => if (0 : Int64) ≤ y29 then (sp_Mo_writeResult_106 y29 p1 now y27.1 y27.2) else (lett (sp_Mo_write (45 : Int32) y27.1 y27.2) fun (y32 : IV × IV) => sp_Mo_writeResult_106 y29 p1 now y32.1 y32.2)
def ok_Mo_writeResult_80 (op56 : IV) (rpp56 : IV) (p1 : Int32) (now : LV)    : Prop := (ok_Mo_write (32 : Int32) op56) ∧ lett (sp_Mo_write (32 : Int32) op56 rpp56) fun (y27 : IV × IV) => (ok_Mo_ofResult p1 (7 : Int32)) ∧ lett (sp_Mo_ofResult p1 (7 : Int32) now) fun (y29 : Int64) => (((0 : Int64) ≤ y29 → ok_Mo_writeResult_106 y29 p1 now y27.1 y27.2) ∧ (¬ ((0 : Int64) ≤ y29) → (ok_Mo_write (45 : Int32) y27.1) ∧ lett (sp_Mo_write (45 : Int32) y27.1 y27.2) fun (y32 : IV × IV) => ok_Mo_writeResult_106 y29 p1 now y32.1 y32.2))
set_option maxRecDepth 100000 in
set_option maxHeartbeats 4000000 in
theorem k_Mo_writeResult_80 {p : Program} {l : Launch} {e : Env} {s : State} {m : MethodId} {args : Array Value} {below : List Frame} {meth : Method} {c : Code} {g : GX} {mo : Nat} {a : Nat → Nat} {ws0 : va_W} {op56 : IV} {now : LV} {dr : LV} {pa : LV} {sa : LV} {iS : IV} {bu : IV} {tq : IV} {rT : IV} {wT : IV} {sK : IV} {sA : IV} {sB : IV} {sE : IV} {oq : IV} {bS : IV} {bE : IV} {bL : IV} {rpp56 : IV} {p1 : Int32}  (C : Cx p s m args meth c (inW ws0) g "DecadeBridgeModel" b_Mo_writeResult none 4)  : HL_Mo_writeResult_80 p l e s m args below meth c g mo a ws0 op56 now dr pa sa iS bu tq rT wT sK sA sB sE oq bS bE bL rpp56 p1 (sp_Mo_writeResult_80 op56 rpp56 p1 now ) (ok_Mo_writeResult_80 op56 rpp56 p1 now  ) := by
  intro _ hok z hz H locs ls hP hD hS hl
  obtain ⟨hx, hb, hr, hml, hown, hlk, hts, hK, hZo, hZ⟩ := id C
  unfold sp_Mo_writeResult_80 at hz
  unfold ok_Mo_writeResult_80 at hok
  refine lv_aload_n hx hb d_Mo_writeResult_80 rfl (lv_at hl 0 rfl) ?_
  refine lv_bipush (v := 32) hx hb d_Mo_writeResult_81 (by decide) ?_
  have hs26 := hok.1
  have hok := hok.2
  have hB : SubW g (inW ws0) s (wMo g mo a op56 now dr pa sa iS bu tq rT wT sK sA sB sE oq bS bE bL rpp56) _ (List.range _) _ _ := (subF hP hD hS)
  refine goVF hB (run_v C mf_Mo_write qm_Mo_546 (c_Mo_write l g mo a op56 now dr pa sa iS bu tq rT wT sK sA sB sE oq bS bE bL rpp56 (32 : Int32) hs26) rfl rfl ⟨Nat.le_of_ble_eq_true rfl, Nat.le_of_ble_eq_true rfl⟩ ⟨Nat.le_of_ble_eq_true rfl, Nat.le_of_ble_eq_true rfl⟩ hB rfl rfl hl rfl rfl (Nat.le_of_ble_eq_true rfl) d_Mo_writeResult_83) (fun _ => rfl) (fun y27 ey27 H locs hP hD hS => ?_)
  have hP : va_P g.1 vwCl (wMo g mo a y27.1 now dr pa sa iS bu tq rT wT sK sA sB sE oq bS bE bL y27.2) H := hP
  have hD : va_D (inW ws0) (wMo g mo a y27.1 now dr pa sa iS bu tq rT wT sK sA sB sE oq bS bE bL y27.2) := hD
  have hz := lett_z hz ey27
  have hok := lett_o hok ey27
  refine lv_aload_n hx hb d_Mo_writeResult_86 rfl (lv_at hl 0 rfl) ?_
  refine lv_iload_n hx hb d_Mo_writeResult_87 rfl (lv_at hl 1 rfl) ?_
  refine lv_bipush (v := 7) hx hb d_Mo_writeResult_88 (by decide) ?_
  have hs28 := hok.1
  have hok := hok.2
  have hB : SubW g (inW ws0) s (wMo g mo a y27.1 now dr pa sa iS bu tq rT wT sK sA sB sE oq bS bE bL y27.2) _ (List.range _) _ _ := (subF hP hD hS)
  refine goL0 hB (run_v C mf_Mo_ofResult qm_Mo_406 (c_Mo_ofResult l g mo a y27.1 now dr pa sa iS bu tq rT wT sK sA sB sE oq bS bE bL y27.2 p1 (7 : Int32) hs28) rfl rfl ⟨Nat.le_of_ble_eq_true rfl, Nat.le_of_ble_eq_true rfl⟩ ⟨Nat.le_of_ble_eq_true rfl, Nat.le_of_ble_eq_true rfl⟩ hB rfl rfl hl rfl rfl (Nat.le_of_ble_eq_true rfl) d_Mo_writeResult_90) (fun y29 ey29 H locs hP hS => ?_)
  have hz := lett_z hz ey29
  have hok := lett_o hok ey29
  refine lv_lstore_n (lv' := [(2, .long y29), (0, .ref mo), (1, .int p1)]) hx hb d_Mo_writeResult_93 rfl hl (by decide) rfl (fun ls hl => ?_)
  refine lv_lload_n hx hb d_Mo_writeResult_94 rfl (lv_at hl 0 rfl) ?_
  refine lv_lconst (v := 0) hx hb d_Mo_writeResult_95 (by decide) ?_
  refine lc_ge (tgt := 106) hx hb d_Mo_writeResult_96 d_Mo_writeResult_97 (by decide) (fun c30 => ?_) (fun c30 => ?_)
  · have hz := hz.trans (if_pos c30)
    have hok := hok.1 c30
    exact k_Mo_writeResult_106 C y27.1 y27.2 hok _ hz _ _ ls hP hD hS (lv_sub hl [1, 2, 0] rfl)
  · have hz := hz.trans (if_neg c30)
    have hok := hok.2 c30
    refine lv_aload_n hx hb d_Mo_writeResult_100 rfl (lv_at hl 1 rfl) ?_
    refine lv_bipush (v := 45) hx hb d_Mo_writeResult_101 (by decide) ?_
    have hs31 := hok.1
    have hok := hok.2
    have hB : SubW g (inW ws0) s (wMo g mo a y27.1 now dr pa sa iS bu tq rT wT sK sA sB sE oq bS bE bL y27.2) _ (List.range _) _ _ := (subF hP hD hS)
    refine goVF hB (run_v C mf_Mo_write qm_Mo_546 (c_Mo_write l g mo a y27.1 now dr pa sa iS bu tq rT wT sK sA sB sE oq bS bE bL y27.2 (45 : Int32) hs31) rfl rfl ⟨Nat.le_of_ble_eq_true rfl, Nat.le_of_ble_eq_true rfl⟩ ⟨Nat.le_of_ble_eq_true rfl, Nat.le_of_ble_eq_true rfl⟩ hB rfl rfl hl rfl rfl (Nat.le_of_ble_eq_true rfl) d_Mo_writeResult_103) (fun _ => rfl) (fun y32 ey32 H locs hP hD hS => ?_)
    have hP : va_P g.1 vwCl (wMo g mo a y32.1 now dr pa sa iS bu tq rT wT sK sA sB sE oq bS bE bL y32.2) H := hP
    have hD : va_D (inW ws0) (wMo g mo a y32.1 now dr pa sa iS bu tq rT wT sK sA sB sE oq bS bE bL y32.2) := hD
    have hz := lett_z hz ey32
    have hok := lett_o hok ey32
    exact k_Mo_writeResult_106 C y32.1 y32.2 hok _ hz _ _ ls hP hD hS (lv_sub hl [1, 2, 0] rfl)
noncomputable def bd_Mo_writeResult_56 (p1 : Int32) (now : LV) (r56 : Int32 → IV → IV → (IV × IV)) (x2p56 : Int32) (op56 : IV) (rpp56 : IV) : IV × IV := lett (sp_Mo_ofResult p1 (2 : Int32) now) fun (y21 : Int64) => if y21 ≤ x2p56.toInt64 then (sp_Mo_writeResult_80 op56 rpp56 p1 now) else (lett (sp_Mo_write (119 : Int32) op56 rpp56) fun (y24 : IV × IV) => lett (x2p56 + (1 : Int32)) fun (v25 : Int32) => r56 v25 y24.1 y24.2)
def okb_Mo_writeResult_56 (p1 : Int32) (now : LV) (r56 : Int32 → IV → IV → (IV × IV)) (q56 : Int32 → IV → IV → Prop) (x2p56 : Int32) (op56 : IV) (rpp56 : IV) : Prop := (ok_Mo_ofResult p1 (2 : Int32)) ∧ lett (sp_Mo_ofResult p1 (2 : Int32) now) fun (y21 : Int64) => ((y21 ≤ x2p56.toInt64 → ok_Mo_writeResult_80 op56 rpp56 p1 now) ∧ (¬ (y21 ≤ x2p56.toInt64) → (ok_Mo_write (119 : Int32) op56) ∧ lett (sp_Mo_write (119 : Int32) op56 rpp56) fun (y24 : IV × IV) => lett (x2p56 + (1 : Int32)) fun (v25 : Int32) => q56 v25 y24.1 y24.2))
noncomputable def sp_Mo_writeResult_56 (p1 : Int32) (now : LV)  : Nat → Int32 → IV → IV → (IV × IV)
  | 0 => fun _ _ _ => default
  | f + 1 => bd_Mo_writeResult_56 p1 now  (sp_Mo_writeResult_56 p1 now  f)
def ok_Mo_writeResult_56 (p1 : Int32) (now : LV)   : Nat → Int32 → IV → IV → Prop
  | 0 => fun _ _ _ => False
  | f + 1 => okb_Mo_writeResult_56 p1 now  (sp_Mo_writeResult_56 p1 now  f)  (ok_Mo_writeResult_56 p1 now   f)
set_option maxRecDepth 100000 in
set_option maxHeartbeats 4000000 in
theorem kb_Mo_writeResult_56 {p : Program} {l : Launch} {e : Env} {s : State} {m : MethodId} {args : Array Value} {below : List Frame} {meth : Method} {c : Code} {g : GX} {mo : Nat} {a : Nat → Nat} {ws0 : va_W} {now : LV} {dr : LV} {pa : LV} {sa : LV} {iS : IV} {bu : IV} {tq : IV} {rT : IV} {wT : IV} {sK : IV} {sA : IV} {sB : IV} {sE : IV} {oq : IV} {bS : IV} {bE : IV} {bL : IV} {p1 : Int32}  (C : Cx p s m args meth c (inW ws0) g "DecadeBridgeModel" b_Mo_writeResult none 4) {r56 : Int32 → IV → IV → (IV × IV)} {q56 : Int32 → IV → IV → Prop}  (ih56 : HL_Mo_writeResult_56 p l e s m args below meth c g mo a ws0 now dr pa sa iS bu tq rT wT sK sA sB sE oq bS bE bL p1 r56 q56) : HL_Mo_writeResult_56 p l e s m args below meth c g mo a ws0 now dr pa sa iS bu tq rT wT sK sA sB sE oq bS bE bL p1 (bd_Mo_writeResult_56 p1 now  r56) (okb_Mo_writeResult_56 p1 now  r56  q56) := by
  intro x2p56 op56 rpp56 hok z hz H locs ls hP hD hS hl
  obtain ⟨hx, hb, hr, hml, hown, hlk, hts, hK, hZo, hZ⟩ := id C
  unfold bd_Mo_writeResult_56 at hz
  unfold okb_Mo_writeResult_56 at hok
  refine lv_iload_n hx hb d_Mo_writeResult_56 rfl (lv_at hl 2 rfl) ?_
  refine lv_i2l hx hb d_Mo_writeResult_57 rfl ?_
  refine lv_aload_n hx hb d_Mo_writeResult_58 rfl (lv_at hl 0 rfl) ?_
  refine lv_iload_n hx hb d_Mo_writeResult_59 rfl (lv_at hl 1 rfl) ?_
  refine lv_iconst (v := 2) hx hb d_Mo_writeResult_60 (by decide) ?_
  have hs20 := hok.1
  have hok := hok.2
  have hB : SubW g (inW ws0) s (wMo g mo a op56 now dr pa sa iS bu tq rT wT sK sA sB sE oq bS bE bL rpp56) _ (List.range _) _ _ := (subF hP hD hS)
  refine goL0 hB (run_v C mf_Mo_ofResult qm_Mo_406 (c_Mo_ofResult l g mo a op56 now dr pa sa iS bu tq rT wT sK sA sB sE oq bS bE bL rpp56 p1 (2 : Int32) hs20) rfl rfl ⟨Nat.le_of_ble_eq_true rfl, Nat.le_of_ble_eq_true rfl⟩ ⟨Nat.le_of_ble_eq_true rfl, Nat.le_of_ble_eq_true rfl⟩ hB rfl rfl hl rfl rfl (Nat.le_of_ble_eq_true rfl) d_Mo_writeResult_61) (fun y21 ey21 H locs hP hS => ?_)
  have hz := lett_z hz ey21
  have hok := lett_o hok ey21
  refine lc_ge (tgt := 80) hx hb d_Mo_writeResult_64 d_Mo_writeResult_65 (by decide) (fun c22 => ?_) (fun c22 => ?_)
  · have hz := hz.trans (if_pos c22)
    have hok := hok.1 c22
    exact k_Mo_writeResult_80 C () hok _ hz _ _ ls hP hD hS (lv_sub hl [0, 1] rfl)
  · have hz := hz.trans (if_neg c22)
    have hok := hok.2 c22
    refine lv_aload_n hx hb d_Mo_writeResult_68 rfl (lv_at hl 0 rfl) ?_
    refine lv_bipush (v := 119) hx hb d_Mo_writeResult_69 (by decide) ?_
    have hs23 := hok.1
    have hok := hok.2
    have hB : SubW g (inW ws0) s (wMo g mo a op56 now dr pa sa iS bu tq rT wT sK sA sB sE oq bS bE bL rpp56) _ (List.range _) _ _ := (subF hP hD hS)
    refine goVF hB (run_v C mf_Mo_write qm_Mo_546 (c_Mo_write l g mo a op56 now dr pa sa iS bu tq rT wT sK sA sB sE oq bS bE bL rpp56 (119 : Int32) hs23) rfl rfl ⟨Nat.le_of_ble_eq_true rfl, Nat.le_of_ble_eq_true rfl⟩ ⟨Nat.le_of_ble_eq_true rfl, Nat.le_of_ble_eq_true rfl⟩ hB rfl rfl hl rfl rfl (Nat.le_of_ble_eq_true rfl) d_Mo_writeResult_71) (fun _ => rfl) (fun y24 ey24 H locs hP hD hS => ?_)
    have hP : va_P g.1 vwCl (wMo g mo a y24.1 now dr pa sa iS bu tq rT wT sK sA sB sE oq bS bE bL y24.2) H := hP
    have hD : va_D (inW ws0) (wMo g mo a y24.1 now dr pa sa iS bu tq rT wT sK sA sB sE oq bS bE bL y24.2) := hD
    have hz := lett_z hz ey24
    have hok := lett_o hok ey24
    obtain ⟨v25, ev25⟩ : ∃ y : Int32, y = x2p56 + (1 : Int32) := ⟨_, rfl⟩
    have hz := lett_z hz ev25
    have hok := lett_o hok ev25
    refine lv_iinc (v := v25) (lv' := [(2, .int v25), (0, .ref mo), (1, .int p1)]) hx hb d_Mo_writeResult_74 hl (k := 2) rfl (by rw [ev25]; rfl) (by decide) rfl (fun ls hl => ?_)
    refine lv_goto (tgt := 56) hx hb d_Mo_writeResult_77 (by decide) ?_
    exact ih56 v25 y24.1 y24.2 hok _ hz _ _ ls hP hD hS (lv_sub hl [1, 2, 0] rfl)
theorem k_Mo_writeResult_56 {p : Program} {l : Launch} {e : Env} {s : State} {m : MethodId} {args : Array Value} {below : List Frame} {meth : Method} {c : Code} {g : GX} {mo : Nat} {a : Nat → Nat} {ws0 : va_W} {now : LV} {dr : LV} {pa : LV} {sa : LV} {iS : IV} {bu : IV} {tq : IV} {rT : IV} {wT : IV} {sK : IV} {sA : IV} {sB : IV} {sE : IV} {oq : IV} {bS : IV} {bE : IV} {bL : IV} {p1 : Int32}  (C : Cx p s m args meth c (inW ws0) g "DecadeBridgeModel" b_Mo_writeResult none 4) (f : Nat)  : HL_Mo_writeResult_56 p l e s m args below meth c g mo a ws0 now dr pa sa iS bu tq rT wT sK sA sB sE oq bS bE bL p1 (sp_Mo_writeResult_56 p1 now  f) (ok_Mo_writeResult_56 p1 now   f) := by
  induction f with
  | zero => intro x2p56 op56 rpp56 hok; exact False.elim hok
  | succ f ih => exact kb_Mo_writeResult_56 C  ih
noncomputable def sp_Mo_writeResult (p1 : Int32) (o : IV) (now : LV) (rp : IV) : IV × IV := lett (sp_Mo_ofResult p1 (3 : Int32) now) fun (y2 : Int64) => lett (sp_Mo_decades now) fun (y3 : Int32) => lett (sp_Mo_writeNumber y2 y3 o rp) fun (y5 : IV × IV) => lett (sp_Mo_write (32 : Int32) y5.1 y5.2) fun (y7 : IV × IV) => lett (sp_Mo_ofResult p1 (0 : Int32) now) fun (y9 : Int64) => lett (sp_Mo_writeNumber y9 (1 : Int32) y7.1 y7.2) fun (y11 : IV × IV) => lett (sp_Mo_write (47 : Int32) y11.1 y11.2) fun (y13 : IV × IV) => lett (sp_Mo_ofResult p1 (1 : Int32) now) fun (y15 : Int64) => lett (sp_Mo_writeNumber y15 (1 : Int32) y13.1 y13.2) fun (y17 : IV × IV) => lett (sp_Mo_write (32 : Int32) y17.1 y17.2) fun (y19 : IV × IV) => sp_Mo_writeResult_56 p1 now big (0 : Int32) y19.1 y19.2
def ok_Mo_writeResult (p1 : Int32) (o : IV) (now : LV) (rp : IV) : Prop := (ok_Mo_ofResult p1 (3 : Int32)) ∧ lett (sp_Mo_ofResult p1 (3 : Int32) now) fun (y2 : Int64) => lett (sp_Mo_decades now) fun (y3 : Int32) => (ok_Mo_writeNumber y2 y3 o rp) ∧ lett (sp_Mo_writeNumber y2 y3 o rp) fun (y5 : IV × IV) => (ok_Mo_write (32 : Int32) y5.1) ∧ lett (sp_Mo_write (32 : Int32) y5.1 y5.2) fun (y7 : IV × IV) => (ok_Mo_ofResult p1 (0 : Int32)) ∧ lett (sp_Mo_ofResult p1 (0 : Int32) now) fun (y9 : Int64) => (ok_Mo_writeNumber y9 (1 : Int32) y7.1 y7.2) ∧ lett (sp_Mo_writeNumber y9 (1 : Int32) y7.1 y7.2) fun (y11 : IV × IV) => (ok_Mo_write (47 : Int32) y11.1) ∧ lett (sp_Mo_write (47 : Int32) y11.1 y11.2) fun (y13 : IV × IV) => (ok_Mo_ofResult p1 (1 : Int32)) ∧ lett (sp_Mo_ofResult p1 (1 : Int32) now) fun (y15 : Int64) => (ok_Mo_writeNumber y15 (1 : Int32) y13.1 y13.2) ∧ lett (sp_Mo_writeNumber y15 (1 : Int32) y13.1 y13.2) fun (y17 : IV × IV) => (ok_Mo_write (32 : Int32) y17.1) ∧ lett (sp_Mo_write (32 : Int32) y17.1 y17.2) fun (y19 : IV × IV) => ok_Mo_writeResult_56 p1 now big (0 : Int32) y19.1 y19.2
set_option maxRecDepth 100000 in
set_option maxHeartbeats 4000000 in
theorem c_Mo_writeResult (l : Launch) (g : GX) (mo : Nat) (a : Nat → Nat) (o : IV) (now : LV) (dr : LV) (pa : LV) (sa : LV) (iS : IV) (bu : IV) (tq : IV) (rT : IV) (wT : IV) (sK : IV) (sA : IV) (sB : IV) (sE : IV) (oq : IV) (bS : IV) (bE : IV) (bL : IV) (rp : IV) (p1 : Int32) (hok : ok_Mo_writeResult p1 o now rp) : Met l y_Mo_writeResult (wsY y_Mo_writeResult b_Mo_writeResult 4 none) rm_Mo_writeResult (CP g [.ref mo, .int p1] (wMo g mo a o now dr pa sa iS bu tq rT wT sK sA sB sE oq bS bE bL rp)) (CV g (wMo g mo a o now dr pa sa iS bu tq rT wT sK sA sB sE oq bS bE bL rp) (fun u : IV × IV => wMo g mo a u.1 now dr pa sa iS bu tq rT wT sK sA sB sE oq bS bE bL u.2) (sp_Mo_writeResult p1 o now rp)) 0 0 (inW (wMo g mo a o now dr pa sa iS bu tq rT wT sK sA sB sE oq bS bE bL rp)) := by
  refine Met.ofW (cc := b_Mo_writeResult) (maxL := 4) (ret := none) pn_Mo rfl ?_
  intro p e s m args below meth c s₁ B hml hv
  obtain ⟨rfl, C, hP, hD, hS⟩ := enter "DecadeBridgeModel" rfl B hml hv
  obtain ⟨hx, hb, hr, hml, hown, hlk, hts, hK, hZo, hZ⟩ := id C
  refine entryW (lv := [(0, .ref mo), (1, .int p1)]) rfl (Nat.le_of_ble_eq_true rfl) (fun ls hl => ?_)
  obtain ⟨z, hz⟩ : ∃ z, z = sp_Mo_writeResult p1 o now rp := ⟨_, rfl⟩
  rw [← hz]
  unfold sp_Mo_writeResult at hz
  unfold ok_Mo_writeResult at hok
  refine lv_aload_n hx hb d_Mo_writeResult_0 rfl (lv_at hl 0 rfl) ?_
  refine lv_aload_n hx hb d_Mo_writeResult_1 rfl (lv_at hl 0 rfl) ?_
  refine lv_iload_n hx hb d_Mo_writeResult_2 rfl (lv_at hl 1 rfl) ?_
  refine lv_iconst (v := 3) hx hb d_Mo_writeResult_3 (by decide) ?_
  have hs1 := hok.1
  have hok := hok.2
  have hB : SubW g (inW (wMo g mo a o now dr pa sa iS bu tq rT wT sK sA sB sE oq bS bE bL rp)) s (wMo g mo a o now dr pa sa iS bu tq rT wT sK sA sB sE oq bS bE bL rp) _ (List.range _) _ _ := (subF hP hD hS)
  refine goL0 hB (run_v C mf_Mo_ofResult qm_Mo_406 (c_Mo_ofResult l g mo a o now dr pa sa iS bu tq rT wT sK sA sB sE oq bS bE bL rp p1 (3 : Int32) hs1) rfl rfl ⟨Nat.le_of_ble_eq_true rfl, Nat.le_of_ble_eq_true rfl⟩ ⟨Nat.le_of_ble_eq_true rfl, Nat.le_of_ble_eq_true rfl⟩ hB rfl rfl hl rfl rfl (Nat.le_of_ble_eq_true rfl) d_Mo_writeResult_4) (fun y2 ey2 H locs hP hS => ?_)
  have hz := lett_z hz ey2
  have hok := lett_o hok ey2
  refine lv_aload_n hx hb d_Mo_writeResult_7 rfl (lv_at hl 0 rfl) ?_
  have hB : SubW g (inW (wMo g mo a o now dr pa sa iS bu tq rT wT sK sA sB sE oq bS bE bL rp)) s (wMo g mo a o now dr pa sa iS bu tq rT wT sK sA sB sE oq bS bE bL rp) _ (List.range _) _ _ := (subF hP hD hS)
  refine goI0 hB (run_v C mf_Mo_decades qm_Mo_130 (c_Mo_decades l g mo a o now dr pa sa iS bu tq rT wT sK sA sB sE oq bS bE bL rp) rfl rfl ⟨Nat.le_of_ble_eq_true rfl, Nat.le_of_ble_eq_true rfl⟩ ⟨Nat.le_of_ble_eq_true rfl, Nat.le_of_ble_eq_true rfl⟩ hB rfl rfl hl rfl rfl (Nat.le_of_ble_eq_true rfl) d_Mo_writeResult_8) (fun y3 ey3 H locs hP hS => ?_)
  have hz := lett_z hz ey3
  have hok := lett_o hok ey3
  have hs4 := hok.1
  have hok := hok.2
  have hB : SubW g (inW (wMo g mo a o now dr pa sa iS bu tq rT wT sK sA sB sE oq bS bE bL rp)) s (wMo g mo a o now dr pa sa iS bu tq rT wT sK sA sB sE oq bS bE bL rp) _ (List.range _) _ _ := (subF hP hD hS)
  refine goVF hB (run_v C mf_Mo_writeNumber qm_Mo_549 (c_Mo_writeNumber l g mo a o now dr pa sa iS bu tq rT wT sK sA sB sE oq bS bE bL rp y2 y3 hs4) rfl rfl ⟨Nat.le_of_ble_eq_true rfl, Nat.le_of_ble_eq_true rfl⟩ ⟨Nat.le_of_ble_eq_true rfl, Nat.le_of_ble_eq_true rfl⟩ hB rfl rfl hl rfl rfl (Nat.le_of_ble_eq_true rfl) d_Mo_writeResult_11) (fun _ => rfl) (fun y5 ey5 H locs hP hD hS => ?_)
  have hP : va_P g.1 vwCl (wMo g mo a y5.1 now dr pa sa iS bu tq rT wT sK sA sB sE oq bS bE bL y5.2) H := hP
  have hD : va_D (inW (wMo g mo a o now dr pa sa iS bu tq rT wT sK sA sB sE oq bS bE bL rp)) (wMo g mo a y5.1 now dr pa sa iS bu tq rT wT sK sA sB sE oq bS bE bL y5.2) := hD
  have hz := lett_z hz ey5
  have hok := lett_o hok ey5
  refine lv_aload_n hx hb d_Mo_writeResult_14 rfl (lv_at hl 0 rfl) ?_
  refine lv_bipush (v := 32) hx hb d_Mo_writeResult_15 (by decide) ?_
  have hs6 := hok.1
  have hok := hok.2
  have hB : SubW g (inW (wMo g mo a o now dr pa sa iS bu tq rT wT sK sA sB sE oq bS bE bL rp)) s (wMo g mo a y5.1 now dr pa sa iS bu tq rT wT sK sA sB sE oq bS bE bL y5.2) _ (List.range _) _ _ := (subF hP hD hS)
  refine goVF hB (run_v C mf_Mo_write qm_Mo_546 (c_Mo_write l g mo a y5.1 now dr pa sa iS bu tq rT wT sK sA sB sE oq bS bE bL y5.2 (32 : Int32) hs6) rfl rfl ⟨Nat.le_of_ble_eq_true rfl, Nat.le_of_ble_eq_true rfl⟩ ⟨Nat.le_of_ble_eq_true rfl, Nat.le_of_ble_eq_true rfl⟩ hB rfl rfl hl rfl rfl (Nat.le_of_ble_eq_true rfl) d_Mo_writeResult_17) (fun _ => rfl) (fun y7 ey7 H locs hP hD hS => ?_)
  have hP : va_P g.1 vwCl (wMo g mo a y7.1 now dr pa sa iS bu tq rT wT sK sA sB sE oq bS bE bL y7.2) H := hP
  have hD : va_D (inW (wMo g mo a o now dr pa sa iS bu tq rT wT sK sA sB sE oq bS bE bL rp)) (wMo g mo a y7.1 now dr pa sa iS bu tq rT wT sK sA sB sE oq bS bE bL y7.2) := hD
  have hz := lett_z hz ey7
  have hok := lett_o hok ey7
  refine lv_aload_n hx hb d_Mo_writeResult_20 rfl (lv_at hl 0 rfl) ?_
  refine lv_aload_n hx hb d_Mo_writeResult_21 rfl (lv_at hl 0 rfl) ?_
  refine lv_iload_n hx hb d_Mo_writeResult_22 rfl (lv_at hl 1 rfl) ?_
  refine lv_iconst (v := 0) hx hb d_Mo_writeResult_23 (by decide) ?_
  have hs8 := hok.1
  have hok := hok.2
  have hB : SubW g (inW (wMo g mo a o now dr pa sa iS bu tq rT wT sK sA sB sE oq bS bE bL rp)) s (wMo g mo a y7.1 now dr pa sa iS bu tq rT wT sK sA sB sE oq bS bE bL y7.2) _ (List.range _) _ _ := (subF hP hD hS)
  refine goL0 hB (run_v C mf_Mo_ofResult qm_Mo_406 (c_Mo_ofResult l g mo a y7.1 now dr pa sa iS bu tq rT wT sK sA sB sE oq bS bE bL y7.2 p1 (0 : Int32) hs8) rfl rfl ⟨Nat.le_of_ble_eq_true rfl, Nat.le_of_ble_eq_true rfl⟩ ⟨Nat.le_of_ble_eq_true rfl, Nat.le_of_ble_eq_true rfl⟩ hB rfl rfl hl rfl rfl (Nat.le_of_ble_eq_true rfl) d_Mo_writeResult_24) (fun y9 ey9 H locs hP hS => ?_)
  have hz := lett_z hz ey9
  have hok := lett_o hok ey9
  refine lv_iconst (v := 1) hx hb d_Mo_writeResult_27 (by decide) ?_
  have hs10 := hok.1
  have hok := hok.2
  have hB : SubW g (inW (wMo g mo a o now dr pa sa iS bu tq rT wT sK sA sB sE oq bS bE bL rp)) s (wMo g mo a y7.1 now dr pa sa iS bu tq rT wT sK sA sB sE oq bS bE bL y7.2) _ (List.range _) _ _ := (subF hP hD hS)
  refine goVF hB (run_v C mf_Mo_writeNumber qm_Mo_549 (c_Mo_writeNumber l g mo a y7.1 now dr pa sa iS bu tq rT wT sK sA sB sE oq bS bE bL y7.2 y9 (1 : Int32) hs10) rfl rfl ⟨Nat.le_of_ble_eq_true rfl, Nat.le_of_ble_eq_true rfl⟩ ⟨Nat.le_of_ble_eq_true rfl, Nat.le_of_ble_eq_true rfl⟩ hB rfl rfl hl rfl rfl (Nat.le_of_ble_eq_true rfl) d_Mo_writeResult_28) (fun _ => rfl) (fun y11 ey11 H locs hP hD hS => ?_)
  have hP : va_P g.1 vwCl (wMo g mo a y11.1 now dr pa sa iS bu tq rT wT sK sA sB sE oq bS bE bL y11.2) H := hP
  have hD : va_D (inW (wMo g mo a o now dr pa sa iS bu tq rT wT sK sA sB sE oq bS bE bL rp)) (wMo g mo a y11.1 now dr pa sa iS bu tq rT wT sK sA sB sE oq bS bE bL y11.2) := hD
  have hz := lett_z hz ey11
  have hok := lett_o hok ey11
  refine lv_aload_n hx hb d_Mo_writeResult_31 rfl (lv_at hl 0 rfl) ?_
  refine lv_bipush (v := 47) hx hb d_Mo_writeResult_32 (by decide) ?_
  have hs12 := hok.1
  have hok := hok.2
  have hB : SubW g (inW (wMo g mo a o now dr pa sa iS bu tq rT wT sK sA sB sE oq bS bE bL rp)) s (wMo g mo a y11.1 now dr pa sa iS bu tq rT wT sK sA sB sE oq bS bE bL y11.2) _ (List.range _) _ _ := (subF hP hD hS)
  refine goVF hB (run_v C mf_Mo_write qm_Mo_546 (c_Mo_write l g mo a y11.1 now dr pa sa iS bu tq rT wT sK sA sB sE oq bS bE bL y11.2 (47 : Int32) hs12) rfl rfl ⟨Nat.le_of_ble_eq_true rfl, Nat.le_of_ble_eq_true rfl⟩ ⟨Nat.le_of_ble_eq_true rfl, Nat.le_of_ble_eq_true rfl⟩ hB rfl rfl hl rfl rfl (Nat.le_of_ble_eq_true rfl) d_Mo_writeResult_34) (fun _ => rfl) (fun y13 ey13 H locs hP hD hS => ?_)
  have hP : va_P g.1 vwCl (wMo g mo a y13.1 now dr pa sa iS bu tq rT wT sK sA sB sE oq bS bE bL y13.2) H := hP
  have hD : va_D (inW (wMo g mo a o now dr pa sa iS bu tq rT wT sK sA sB sE oq bS bE bL rp)) (wMo g mo a y13.1 now dr pa sa iS bu tq rT wT sK sA sB sE oq bS bE bL y13.2) := hD
  have hz := lett_z hz ey13
  have hok := lett_o hok ey13
  refine lv_aload_n hx hb d_Mo_writeResult_37 rfl (lv_at hl 0 rfl) ?_
  refine lv_aload_n hx hb d_Mo_writeResult_38 rfl (lv_at hl 0 rfl) ?_
  refine lv_iload_n hx hb d_Mo_writeResult_39 rfl (lv_at hl 1 rfl) ?_
  refine lv_iconst (v := 1) hx hb d_Mo_writeResult_40 (by decide) ?_
  have hs14 := hok.1
  have hok := hok.2
  have hB : SubW g (inW (wMo g mo a o now dr pa sa iS bu tq rT wT sK sA sB sE oq bS bE bL rp)) s (wMo g mo a y13.1 now dr pa sa iS bu tq rT wT sK sA sB sE oq bS bE bL y13.2) _ (List.range _) _ _ := (subF hP hD hS)
  refine goL0 hB (run_v C mf_Mo_ofResult qm_Mo_406 (c_Mo_ofResult l g mo a y13.1 now dr pa sa iS bu tq rT wT sK sA sB sE oq bS bE bL y13.2 p1 (1 : Int32) hs14) rfl rfl ⟨Nat.le_of_ble_eq_true rfl, Nat.le_of_ble_eq_true rfl⟩ ⟨Nat.le_of_ble_eq_true rfl, Nat.le_of_ble_eq_true rfl⟩ hB rfl rfl hl rfl rfl (Nat.le_of_ble_eq_true rfl) d_Mo_writeResult_41) (fun y15 ey15 H locs hP hS => ?_)
  have hz := lett_z hz ey15
  have hok := lett_o hok ey15
  refine lv_iconst (v := 1) hx hb d_Mo_writeResult_44 (by decide) ?_
  have hs16 := hok.1
  have hok := hok.2
  have hB : SubW g (inW (wMo g mo a o now dr pa sa iS bu tq rT wT sK sA sB sE oq bS bE bL rp)) s (wMo g mo a y13.1 now dr pa sa iS bu tq rT wT sK sA sB sE oq bS bE bL y13.2) _ (List.range _) _ _ := (subF hP hD hS)
  refine goVF hB (run_v C mf_Mo_writeNumber qm_Mo_549 (c_Mo_writeNumber l g mo a y13.1 now dr pa sa iS bu tq rT wT sK sA sB sE oq bS bE bL y13.2 y15 (1 : Int32) hs16) rfl rfl ⟨Nat.le_of_ble_eq_true rfl, Nat.le_of_ble_eq_true rfl⟩ ⟨Nat.le_of_ble_eq_true rfl, Nat.le_of_ble_eq_true rfl⟩ hB rfl rfl hl rfl rfl (Nat.le_of_ble_eq_true rfl) d_Mo_writeResult_45) (fun _ => rfl) (fun y17 ey17 H locs hP hD hS => ?_)
  have hP : va_P g.1 vwCl (wMo g mo a y17.1 now dr pa sa iS bu tq rT wT sK sA sB sE oq bS bE bL y17.2) H := hP
  have hD : va_D (inW (wMo g mo a o now dr pa sa iS bu tq rT wT sK sA sB sE oq bS bE bL rp)) (wMo g mo a y17.1 now dr pa sa iS bu tq rT wT sK sA sB sE oq bS bE bL y17.2) := hD
  have hz := lett_z hz ey17
  have hok := lett_o hok ey17
  refine lv_aload_n hx hb d_Mo_writeResult_48 rfl (lv_at hl 0 rfl) ?_
  refine lv_bipush (v := 32) hx hb d_Mo_writeResult_49 (by decide) ?_
  have hs18 := hok.1
  have hok := hok.2
  have hB : SubW g (inW (wMo g mo a o now dr pa sa iS bu tq rT wT sK sA sB sE oq bS bE bL rp)) s (wMo g mo a y17.1 now dr pa sa iS bu tq rT wT sK sA sB sE oq bS bE bL y17.2) _ (List.range _) _ _ := (subF hP hD hS)
  refine goVF hB (run_v C mf_Mo_write qm_Mo_546 (c_Mo_write l g mo a y17.1 now dr pa sa iS bu tq rT wT sK sA sB sE oq bS bE bL y17.2 (32 : Int32) hs18) rfl rfl ⟨Nat.le_of_ble_eq_true rfl, Nat.le_of_ble_eq_true rfl⟩ ⟨Nat.le_of_ble_eq_true rfl, Nat.le_of_ble_eq_true rfl⟩ hB rfl rfl hl rfl rfl (Nat.le_of_ble_eq_true rfl) d_Mo_writeResult_51) (fun _ => rfl) (fun y19 ey19 H locs hP hD hS => ?_)
  have hP : va_P g.1 vwCl (wMo g mo a y19.1 now dr pa sa iS bu tq rT wT sK sA sB sE oq bS bE bL y19.2) H := hP
  have hD : va_D (inW (wMo g mo a o now dr pa sa iS bu tq rT wT sK sA sB sE oq bS bE bL rp)) (wMo g mo a y19.1 now dr pa sa iS bu tq rT wT sK sA sB sE oq bS bE bL y19.2) := hD
  have hz := lett_z hz ey19
  have hok := lett_o hok ey19
  refine lv_iconst (v := 0) hx hb d_Mo_writeResult_54 (by decide) ?_
  refine lv_istore_n (lv' := [(2, .int (0 : Int32)), (0, .ref mo), (1, .int p1)]) hx hb d_Mo_writeResult_55 rfl hl (by decide) rfl (fun ls hl => ?_)
  exact k_Mo_writeResult_56 C big (0 : Int32) y19.1 y19.2 hok _ hz _ _ ls hP hD hS (lv_sub hl [1, 2, 0] rfl)
abbrev rm_Mo_report : Room := { frames := 3, cells := 0, slots := 0, locals := 71 }
def HL_Mo_report_12 (p : Program) (l : Launch) (e : Env) (s : State) (m : MethodId) (args : Array Value) (below : List Frame) (meth : Method) (c : Code) (g : GX) (mo : Nat) (a : Nat → Nat) (ws0 : va_W) (now : LV) (dr : LV) (pa : LV) (sa : LV) (iS : IV) (bu : IV) (tq : IV) (rT : IV) (wT : IV) (sK : IV) (sA : IV) (sB : IV) (sE : IV) (oq : IV) (bS : IV) (bE : IV) (bL : IV) (sp : Int32 → IV → IV → (Int32 × IV × IV)) (ok : Int32 → IV → IV → Prop) : Prop := ∀ (x1p12 : Int32) (op12 : IV) (rpp12 : IV), ok x1p12 op12 rpp12 → ∀ z : (Int32 × IV × IV), z = sp x1p12 op12 rpp12 → ∀ (H : Heap) (locs : List Loc) (ls : Array Slot), va_P g.1 vwCl (wMo g mo a op12 now dr pa sa iS bu tq rT wT sK sA sB sE oq bS bE bL rpp12) H → va_D (inW ws0) (wMo g mo a op12 now dr pa sa iS bu tq rT wT sK sA sB sE oq bS bE bL rpp12) → va_S (inW ws0) s.heap H locs → lv_has ls 2 [(0, .ref mo), (1, .int x1p12)] → W p l e rm_Mo_report s m args below meth c H locs 0 0 (MQ below (CI g ws0 (fun u : IV × IV => wMo g mo a u.1 now dr pa sa iS bu tq rT wT sK sA sB sE oq bS bE bL u.2) z) args s 0 0 (inW ws0)) (F0 m 12 ls [])
def HL_Mo_report_36 (p : Program) (l : Launch) (e : Env) (s : State) (m : MethodId) (args : Array Value) (below : List Frame) (meth : Method) (c : Code) (g : GX) (mo : Nat) (a : Nat → Nat) (ws0 : va_W) (op12 : IV) (now : LV) (dr : LV) (pa : LV) (sa : LV) (iS : IV) (bu : IV) (tq : IV) (rT : IV) (wT : IV) (sK : IV) (sA : IV) (sB : IV) (sE : IV) (oq : IV) (bS : IV) (bE : IV) (bL : IV) (rpp12 : IV) (sp : (Int32 × IV × IV)) (ok : Prop) : Prop := ∀ (_ : Unit), ok → ∀ z : (Int32 × IV × IV), z = sp → ∀ (H : Heap) (locs : List Loc) (ls : Array Slot), va_P g.1 vwCl (wMo g mo a op12 now dr pa sa iS bu tq rT wT sK sA sB sE oq bS bE bL rpp12) H → va_D (inW ws0) (wMo g mo a op12 now dr pa sa iS bu tq rT wT sK sA sB sE oq bS bE bL rpp12) → va_S (inW ws0) s.heap H locs → lv_has ls 2 [(0, .ref mo)] → W p l e rm_Mo_report s m args below meth c H locs 0 0 (MQ below (CI g ws0 (fun u : IV × IV => wMo g mo a u.1 now dr pa sa iS bu tq rT wT sK sA sB sE oq bS bE bL u.2) z) args s 0 0 (inW ws0)) (F0 m 36 ls [])
noncomputable def sp_Mo_report_36 (op12 : IV) (rpp12 : IV)   : Int32 × IV × IV := (op12 28, (op12, rpp12))
def ok_Mo_report_36 (op12 : IV) (rpp12 : IV)    : Prop := True
set_option maxRecDepth 100000 in
set_option maxHeartbeats 4000000 in
theorem k_Mo_report_36 {p : Program} {l : Launch} {e : Env} {s : State} {m : MethodId} {args : Array Value} {below : List Frame} {meth : Method} {c : Code} {g : GX} {mo : Nat} {a : Nat → Nat} {ws0 : va_W} {op12 : IV} {now : LV} {dr : LV} {pa : LV} {sa : LV} {iS : IV} {bu : IV} {tq : IV} {rT : IV} {wT : IV} {sK : IV} {sA : IV} {sB : IV} {sE : IV} {oq : IV} {bS : IV} {bE : IV} {bL : IV} {rpp12 : IV}  (C : Cx p s m args meth c (inW ws0) g "DecadeBridgeModel" b_Mo_report (some .int) 2)  : HL_Mo_report_36 p l e s m args below meth c g mo a ws0 op12 now dr pa sa iS bu tq rT wT sK sA sB sE oq bS bE bL rpp12 (sp_Mo_report_36 op12 rpp12 ) (ok_Mo_report_36 op12 rpp12  ) := by
  intro _ hok z hz H locs ls hP hD hS hl
  obtain ⟨hx, hb, hr, hml, hown, hlk, hts, hK, hZo, hZ⟩ := id C
  unfold sp_Mo_report_36 at hz
  refine lv_aload_n hx hb d_Mo_report_36 rfl (lv_at hl 0 rfl) ?_
  refine gf C hP 0 28 fkMo rfl (by decide) rfl qf_Mo_543 (gMo_28 _ _) d_Mo_report_37 ?_
  exact endI1 C hz hP hS d_Mo_report_40
noncomputable def bd_Mo_report_12 (now : LV) (r12 : Int32 → IV → IV → (Int32 × IV × IV)) (x1p12 : Int32) (op12 : IV) (rpp12 : IV) : Int32 × IV × IV := if (now 54) ≤ x1p12.toInt64 then (sp_Mo_report_36 op12 rpp12) else (lett (sp_Mo_writeResult x1p12 op12 now rpp12) fun (y5 : IV × IV) => lett (x1p12 + (1 : Int32)) fun (v6 : Int32) => r12 v6 y5.1 y5.2)
def okb_Mo_report_12 (now : LV) (r12 : Int32 → IV → IV → (Int32 × IV × IV)) (q12 : Int32 → IV → IV → Prop) (x1p12 : Int32) (op12 : IV) (rpp12 : IV) : Prop := (((now 54) ≤ x1p12.toInt64 → True) ∧ (¬ ((now 54) ≤ x1p12.toInt64) → (ok_Mo_writeResult x1p12 op12 now rpp12) ∧ lett (sp_Mo_writeResult x1p12 op12 now rpp12) fun (y5 : IV × IV) => lett (x1p12 + (1 : Int32)) fun (v6 : Int32) => q12 v6 y5.1 y5.2))
noncomputable def sp_Mo_report_12 (now : LV)  : Nat → Int32 → IV → IV → (Int32 × IV × IV)
  | 0 => fun _ _ _ => default
  | f + 1 => bd_Mo_report_12 now  (sp_Mo_report_12 now  f)
def ok_Mo_report_12 (now : LV)   : Nat → Int32 → IV → IV → Prop
  | 0 => fun _ _ _ => False
  | f + 1 => okb_Mo_report_12 now  (sp_Mo_report_12 now  f)  (ok_Mo_report_12 now   f)
set_option maxRecDepth 100000 in
set_option maxHeartbeats 4000000 in
theorem kb_Mo_report_12 {p : Program} {l : Launch} {e : Env} {s : State} {m : MethodId} {args : Array Value} {below : List Frame} {meth : Method} {c : Code} {g : GX} {mo : Nat} {a : Nat → Nat} {ws0 : va_W} {now : LV} {dr : LV} {pa : LV} {sa : LV} {iS : IV} {bu : IV} {tq : IV} {rT : IV} {wT : IV} {sK : IV} {sA : IV} {sB : IV} {sE : IV} {oq : IV} {bS : IV} {bE : IV} {bL : IV}  (C : Cx p s m args meth c (inW ws0) g "DecadeBridgeModel" b_Mo_report (some .int) 2) {r12 : Int32 → IV → IV → (Int32 × IV × IV)} {q12 : Int32 → IV → IV → Prop}  (ih12 : HL_Mo_report_12 p l e s m args below meth c g mo a ws0 now dr pa sa iS bu tq rT wT sK sA sB sE oq bS bE bL r12 q12) : HL_Mo_report_12 p l e s m args below meth c g mo a ws0 now dr pa sa iS bu tq rT wT sK sA sB sE oq bS bE bL (bd_Mo_report_12 now  r12) (okb_Mo_report_12 now  r12  q12) := by
  intro x1p12 op12 rpp12 hok z hz H locs ls hP hD hS hl
  obtain ⟨hx, hb, hr, hml, hown, hlk, hts, hK, hZo, hZ⟩ := id C
  unfold bd_Mo_report_12 at hz
  unfold okb_Mo_report_12 at hok
  refine lv_iload_n hx hb d_Mo_report_12 rfl (lv_at hl 1 rfl) ?_
  refine lv_i2l hx hb d_Mo_report_13 rfl ?_
  refine lv_aload_n hx hb d_Mo_report_14 rfl (lv_at hl 0 rfl) ?_
  refine gf C hP 0 0 fkMo rfl (by decide) rfl qf_Mo_7 (gMo_0 _ _) d_Mo_report_15 ?_
  refine lv_bipush (v := 54) hx hb d_Mo_report_18 (by decide) ?_
  refine ldL C hP 1 rfl vi_54_215 cn_54 d_Mo_report_20 ?_
  refine lc_ge (tgt := 36) hx hb d_Mo_report_21 d_Mo_report_22 (by decide) (fun c3 => ?_) (fun c3 => ?_)
  · have hz := hz.trans (if_pos c3)
    exact k_Mo_report_36 C () trivial _ hz _ _ ls hP hD hS (lv_sub hl [0] rfl)
  · have hz := hz.trans (if_neg c3)
    have hok := hok.2 c3
    refine lv_aload_n hx hb d_Mo_report_25 rfl (lv_at hl 0 rfl) ?_
    refine lv_iload_n hx hb d_Mo_report_26 rfl (lv_at hl 1 rfl) ?_
    have hs4 := hok.1
    have hok := hok.2
    have hB : SubW g (inW ws0) s (wMo g mo a op12 now dr pa sa iS bu tq rT wT sK sA sB sE oq bS bE bL rpp12) _ (List.range _) _ _ := (subF hP hD hS)
    refine goVF hB (run_v C mf_Mo_writeResult qm_Mo_553 (c_Mo_writeResult l g mo a op12 now dr pa sa iS bu tq rT wT sK sA sB sE oq bS bE bL rpp12 x1p12 hs4) rfl rfl ⟨Nat.le_of_ble_eq_true rfl, Nat.le_of_ble_eq_true rfl⟩ ⟨Nat.le_of_ble_eq_true rfl, Nat.le_of_ble_eq_true rfl⟩ hB rfl rfl hl rfl rfl (Nat.le_of_ble_eq_true rfl) d_Mo_report_27) (fun _ => rfl) (fun y5 ey5 H locs hP hD hS => ?_)
    have hP : va_P g.1 vwCl (wMo g mo a y5.1 now dr pa sa iS bu tq rT wT sK sA sB sE oq bS bE bL y5.2) H := hP
    have hD : va_D (inW ws0) (wMo g mo a y5.1 now dr pa sa iS bu tq rT wT sK sA sB sE oq bS bE bL y5.2) := hD
    have hz := lett_z hz ey5
    have hok := lett_o hok ey5
    obtain ⟨v6, ev6⟩ : ∃ y : Int32, y = x1p12 + (1 : Int32) := ⟨_, rfl⟩
    have hz := lett_z hz ev6
    have hok := lett_o hok ev6
    refine lv_iinc (v := v6) (lv' := [(1, .int v6), (0, .ref mo)]) hx hb d_Mo_report_30 hl (k := 1) rfl (by rw [ev6]; rfl) (by decide) rfl (fun ls hl => ?_)
    refine lv_goto (tgt := 12) hx hb d_Mo_report_33 (by decide) ?_
    exact ih12 v6 y5.1 y5.2 hok _ hz _ _ ls hP hD hS (lv_sub hl [1, 0] rfl)
theorem k_Mo_report_12 {p : Program} {l : Launch} {e : Env} {s : State} {m : MethodId} {args : Array Value} {below : List Frame} {meth : Method} {c : Code} {g : GX} {mo : Nat} {a : Nat → Nat} {ws0 : va_W} {now : LV} {dr : LV} {pa : LV} {sa : LV} {iS : IV} {bu : IV} {tq : IV} {rT : IV} {wT : IV} {sK : IV} {sA : IV} {sB : IV} {sE : IV} {oq : IV} {bS : IV} {bE : IV} {bL : IV}  (C : Cx p s m args meth c (inW ws0) g "DecadeBridgeModel" b_Mo_report (some .int) 2) (f : Nat)  : HL_Mo_report_12 p l e s m args below meth c g mo a ws0 now dr pa sa iS bu tq rT wT sK sA sB sE oq bS bE bL (sp_Mo_report_12 now  f) (ok_Mo_report_12 now   f) := by
  induction f with
  | zero => intro x1p12 op12 rpp12 hok; exact False.elim hok
  | succ f ih => exact kb_Mo_report_12 C  ih
noncomputable def sp_Mo_report (o : IV) (now : LV) (rp : IV) : Int32 × IV × IV := lett (upd o 6 (0 : Int32)) fun (o_1 : IV) => lett (upd o_1 28 (0 : Int32)) fun (o_2 : IV) => sp_Mo_report_12 now big (0 : Int32) o_2 rp
def ok_Mo_report (o : IV) (now : LV) (rp : IV) : Prop := lett (upd o 6 (0 : Int32)) fun (o_1 : IV) => lett (upd o_1 28 (0 : Int32)) fun (o_2 : IV) => ok_Mo_report_12 now big (0 : Int32) o_2 rp
set_option maxRecDepth 100000 in
set_option maxHeartbeats 4000000 in
theorem c_Mo_report (l : Launch) (g : GX) (mo : Nat) (a : Nat → Nat) (o : IV) (now : LV) (dr : LV) (pa : LV) (sa : LV) (iS : IV) (bu : IV) (tq : IV) (rT : IV) (wT : IV) (sK : IV) (sA : IV) (sB : IV) (sE : IV) (oq : IV) (bS : IV) (bE : IV) (bL : IV) (rp : IV)  (hok : ok_Mo_report o now rp) : Met l y_Mo_report (wsY y_Mo_report b_Mo_report 2 (some .int)) rm_Mo_report (CP g [.ref mo] (wMo g mo a o now dr pa sa iS bu tq rT wT sK sA sB sE oq bS bE bL rp)) (CI g (wMo g mo a o now dr pa sa iS bu tq rT wT sK sA sB sE oq bS bE bL rp) (fun u : IV × IV => wMo g mo a u.1 now dr pa sa iS bu tq rT wT sK sA sB sE oq bS bE bL u.2) (sp_Mo_report o now rp)) 0 0 (inW (wMo g mo a o now dr pa sa iS bu tq rT wT sK sA sB sE oq bS bE bL rp)) := by
  refine Met.ofW (cc := b_Mo_report) (maxL := 2) (ret := (some .int)) pn_Mo rfl ?_
  intro p e s m args below meth c s₁ B hml hv
  obtain ⟨rfl, C, hP, hD, hS⟩ := enter "DecadeBridgeModel" rfl B hml hv
  obtain ⟨hx, hb, hr, hml, hown, hlk, hts, hK, hZo, hZ⟩ := id C
  refine entryW (lv := [(0, .ref mo)]) rfl (Nat.le_of_ble_eq_true rfl) (fun ls hl => ?_)
  obtain ⟨z, hz⟩ : ∃ z, z = sp_Mo_report o now rp := ⟨_, rfl⟩
  rw [← hz]
  unfold sp_Mo_report at hz
  unfold ok_Mo_report at hok
  refine lv_aload_n hx hb d_Mo_report_0 rfl (lv_at hl 0 rfl) ?_
  refine lv_iconst (v := 0) hx hb d_Mo_report_1 (by decide) ?_
  refine pfI C hP hD hS 0 6 fkMo rfl (by decide) rfl qf_Mo_107 rfl rfl rfl (Nat.le_of_ble_eq_true rfl) (ff := fun o => fMo a o) (sMo_6 _ _ _) d_Mo_report_2 (fun o_1 eo_1 H locs hP hD hS => ?_)
  have hP : va_P g.1 vwCl (wMo g mo a o_1 now dr pa sa iS bu tq rT wT sK sA sB sE oq bS bE bL rp) H := hP
  have hD : va_D (inW (wMo g mo a o now dr pa sa iS bu tq rT wT sK sA sB sE oq bS bE bL rp)) (wMo g mo a o_1 now dr pa sa iS bu tq rT wT sK sA sB sE oq bS bE bL rp) := hD
  have hz := lett_z hz eo_1
  have hok := lett_o hok eo_1
  refine lv_aload_n hx hb d_Mo_report_5 rfl (lv_at hl 0 rfl) ?_
  refine lv_iconst (v := 0) hx hb d_Mo_report_6 (by decide) ?_
  refine pfI C hP hD hS 0 28 fkMo rfl (by decide) rfl qf_Mo_543 rfl rfl rfl (Nat.le_of_ble_eq_true rfl) (ff := fun o => fMo a o) (sMo_28 _ _ _) d_Mo_report_7 (fun o_2 eo_2 H locs hP hD hS => ?_)
  have hP : va_P g.1 vwCl (wMo g mo a o_2 now dr pa sa iS bu tq rT wT sK sA sB sE oq bS bE bL rp) H := hP
  have hD : va_D (inW (wMo g mo a o now dr pa sa iS bu tq rT wT sK sA sB sE oq bS bE bL rp)) (wMo g mo a o_2 now dr pa sa iS bu tq rT wT sK sA sB sE oq bS bE bL rp) := hD
  have hz := lett_z hz eo_2
  have hok := lett_o hok eo_2
  refine lv_iconst (v := 0) hx hb d_Mo_report_10 (by decide) ?_
  refine lv_istore_n (lv' := [(1, .int (0 : Int32)), (0, .ref mo)]) hx hb d_Mo_report_11 rfl hl (by decide) rfl (fun ls hl => ?_)
  exact k_Mo_report_12 C big (0 : Int32) o_2 rp hok _ hz _ _ ls hP hD hS (lv_sub hl [1, 0] rfl)
abbrev rm_Mo_reportByte : Room := { frames := 1, cells := 0, slots := 0, locals := 25 }
noncomputable def sp_Mo_reportByte (p1 : Int32) (o : IV) (rp : IV) : Int32 × IV := lett (upd o 6 (0 : Int32)) fun (o_1 : IV) => lett (sp_Mo_in p1.toInt64 (0 : Int64) (((o_1 28).toInt64) - (1 : Int64))) fun (y2 : Int32) => if y2 = 0 then (((-1 : Int32), o_1)) else ((rp p1.toNatClampNeg, o_1))
def ok_Mo_reportByte (p1 : Int32) (o : IV) : Prop := lett (upd o 6 (0 : Int32)) fun (o_1 : IV) => lett (sp_Mo_in p1.toInt64 (0 : Int64) (((o_1 28).toInt64) - (1 : Int64))) fun (y2 : Int32) => ((y2 = 0 → True) ∧ (¬ (y2 = 0) → (vp_in p1 2000) ∧ True))
set_option maxRecDepth 100000 in
set_option maxHeartbeats 4000000 in
theorem c_Mo_reportByte (l : Launch) (g : GX) (mo : Nat) (a : Nat → Nat) (o : IV) (now : LV) (dr : LV) (pa : LV) (sa : LV) (iS : IV) (bu : IV) (tq : IV) (rT : IV) (wT : IV) (sK : IV) (sA : IV) (sB : IV) (sE : IV) (oq : IV) (bS : IV) (bE : IV) (bL : IV) (rp : IV) (p1 : Int32) (hok : ok_Mo_reportByte p1 o) : Met l y_Mo_reportByte (wsY y_Mo_reportByte b_Mo_reportByte 2 (some .int)) rm_Mo_reportByte (CP g [.ref mo, .int p1] (wMo g mo a o now dr pa sa iS bu tq rT wT sK sA sB sE oq bS bE bL rp)) (CI g (wMo g mo a o now dr pa sa iS bu tq rT wT sK sA sB sE oq bS bE bL rp) (fun u : IV => wMo g mo a u now dr pa sa iS bu tq rT wT sK sA sB sE oq bS bE bL rp) (sp_Mo_reportByte p1 o rp)) 0 0 (inW (wMo g mo a o now dr pa sa iS bu tq rT wT sK sA sB sE oq bS bE bL rp)) := by
  refine Met.ofW (cc := b_Mo_reportByte) (maxL := 2) (ret := (some .int)) pn_Mo rfl ?_
  intro p e s m args below meth c s₁ B hml hv
  obtain ⟨rfl, C, hP, hD, hS⟩ := enter "DecadeBridgeModel" rfl B hml hv
  obtain ⟨hx, hb, hr, hml, hown, hlk, hts, hK, hZo, hZ⟩ := id C
  refine entryW (lv := [(0, .ref mo), (1, .int p1)]) rfl (Nat.le_of_ble_eq_true rfl) (fun ls hl => ?_)
  obtain ⟨z, hz⟩ : ∃ z, z = sp_Mo_reportByte p1 o rp := ⟨_, rfl⟩
  rw [← hz]
  unfold sp_Mo_reportByte at hz
  unfold ok_Mo_reportByte at hok
  refine lv_aload_n hx hb d_Mo_reportByte_0 rfl (lv_at hl 0 rfl) ?_
  refine lv_iconst (v := 0) hx hb d_Mo_reportByte_1 (by decide) ?_
  refine pfI C hP hD hS 0 6 fkMo rfl (by decide) rfl qf_Mo_107 rfl rfl rfl (Nat.le_of_ble_eq_true rfl) (ff := fun o => fMo a o) (sMo_6 _ _ _) d_Mo_reportByte_2 (fun o_1 eo_1 H locs hP hD hS => ?_)
  have hP : va_P g.1 vwCl (wMo g mo a o_1 now dr pa sa iS bu tq rT wT sK sA sB sE oq bS bE bL rp) H := hP
  have hD : va_D (inW (wMo g mo a o now dr pa sa iS bu tq rT wT sK sA sB sE oq bS bE bL rp)) (wMo g mo a o_1 now dr pa sa iS bu tq rT wT sK sA sB sE oq bS bE bL rp) := hD
  have hz := lett_z hz eo_1
  have hok := lett_o hok eo_1
  refine lv_iload_n hx hb d_Mo_reportByte_5 rfl (lv_at hl 1 rfl) ?_
  refine lv_i2l hx hb d_Mo_reportByte_6 rfl ?_
  refine lv_lconst (v := 0) hx hb d_Mo_reportByte_7 (by decide) ?_
  refine lv_aload_n hx hb d_Mo_reportByte_8 rfl (lv_at hl 0 rfl) ?_
  refine gf C hP 0 28 fkMo rfl (by decide) rfl qf_Mo_543 (gMo_28 _ _) d_Mo_reportByte_9 ?_
  refine lv_i2l hx hb d_Mo_reportByte_12 rfl ?_
  refine lv_lconst (v := 1) hx hb d_Mo_reportByte_13 (by decide) ?_
  refine lv_lsub hx hb d_Mo_reportByte_14 ?_
  have hB : SubW g (inW (wMo g mo a o now dr pa sa iS bu tq rT wT sK sA sB sE oq bS bE bL rp)) s (wMo g mo a o_1 now dr pa sa iS bu tq rT wT sK sA sB sE oq bS bE bL rp) _ (List.range _) _ _ := (subF hP hD hS)
  refine goI0 hB (run_s C mf_Mo_in qm_Mo_118 (c_Mo_in l g mo a o_1 now dr pa sa iS bu tq rT wT sK sA sB sE oq bS bE bL rp p1.toInt64 (0 : Int64) (((o_1 28).toInt64) - (1 : Int64))) rfl rfl ⟨Nat.le_of_ble_eq_true rfl, Nat.le_of_ble_eq_true rfl⟩ ⟨Nat.le_of_ble_eq_true rfl, Nat.le_of_ble_eq_true rfl⟩ hB hl rfl rfl (Nat.le_of_ble_eq_true rfl) d_Mo_reportByte_15) (fun y2 ey2 H locs hP hS => ?_)
  have hz := lett_z hz ey2
  have hok := lett_o hok ey2
  refine lv_if_eq (tgt := 30) hx hb d_Mo_reportByte_18 (by decide) (fun c3 => ?_) (fun c3 => ?_)
  · have hz := hz.trans (if_pos c3)
    refine lv_iconst (v := -1) hx hb d_Mo_reportByte_30 (by decide) ?_
    exact endI1 C hz hP hS d_Mo_reportByte_31
  · have hz := hz.trans (if_neg c3)
    have hok := hok.2 c3
    refine lv_aload_n hx hb d_Mo_reportByte_21 rfl (lv_at hl 0 rfl) ?_
    refine gf C hP 0 27 fkMo rfl (by decide) rfl qf_Mo_93 (gMo_27 _ _) d_Mo_reportByte_22 ?_
    refine lv_iload_n hx hb d_Mo_reportByte_25 rfl (lv_at hl 1 rfl) ?_
    have hs4 := hok.1
    have hok := hok.2
    refine ldB C hP 19 rfl hs4 rfl d_Mo_reportByte_26 ?_
    refine lv_goto (tgt := 31) hx hb d_Mo_reportByte_27 (by decide) ?_
    exact endI1 C hz hP hS d_Mo_reportByte_31
abbrev rm_Mo_undo : Room := { frames := 1, cells := 0, slots := 0, locals := 24 }
noncomputable def sp_Mo_undo (o : IV) (now : LV) (pa : LV) : Int32 × IV × LV := lett (upd o 6 (0 : Int32)) fun (o_1 : IV) => if (o_1 5) = 0 then (((-1 : Int32), (o_1, now))) else (lett (upd o_1 5 ((o_1 5) - (1 : Int32))) fun (o_3 : IV) => lett (sp_Mo_copy_pn (o_3 5) (0 : Int32) now pa) fun (y5 : LV) => (o_3 5, (o_3, y5)))
def ok_Mo_undo (o : IV) (now : LV) (pa : LV) : Prop := lett (upd o 6 (0 : Int32)) fun (o_1 : IV) => (((o_1 5) = 0 → True) ∧ (¬ ((o_1 5) = 0) → lett (upd o_1 5 ((o_1 5) - (1 : Int32))) fun (o_3 : IV) => (ok_Mo_copy_pn (o_3 5) (0 : Int32) now pa) ∧ True))
set_option maxRecDepth 100000 in
set_option maxHeartbeats 4000000 in
theorem c_Mo_undo (l : Launch) (g : GX) (mo : Nat) (a : Nat → Nat) (o : IV) (now : LV) (dr : LV) (pa : LV) (sa : LV) (iS : IV) (bu : IV) (tq : IV) (rT : IV) (wT : IV) (sK : IV) (sA : IV) (sB : IV) (sE : IV) (oq : IV) (bS : IV) (bE : IV) (bL : IV) (rp : IV)  (hok : ok_Mo_undo o now pa) : Met l y_Mo_undo (wsY y_Mo_undo b_Mo_undo 1 (some .int)) rm_Mo_undo (CP g [.ref mo] (wMo g mo a o now dr pa sa iS bu tq rT wT sK sA sB sE oq bS bE bL rp)) (CI g (wMo g mo a o now dr pa sa iS bu tq rT wT sK sA sB sE oq bS bE bL rp) (fun u : IV × LV => wMo g mo a u.1 u.2 dr pa sa iS bu tq rT wT sK sA sB sE oq bS bE bL rp) (sp_Mo_undo o now pa)) 0 0 (inW (wMo g mo a o now dr pa sa iS bu tq rT wT sK sA sB sE oq bS bE bL rp)) := by
  refine Met.ofW (cc := b_Mo_undo) (maxL := 1) (ret := (some .int)) pn_Mo rfl ?_
  intro p e s m args below meth c s₁ B hml hv
  obtain ⟨rfl, C, hP, hD, hS⟩ := enter "DecadeBridgeModel" rfl B hml hv
  obtain ⟨hx, hb, hr, hml, hown, hlk, hts, hK, hZo, hZ⟩ := id C
  refine entryW (lv := [(0, .ref mo)]) rfl (Nat.le_of_ble_eq_true rfl) (fun ls hl => ?_)
  obtain ⟨z, hz⟩ : ∃ z, z = sp_Mo_undo o now pa := ⟨_, rfl⟩
  rw [← hz]
  unfold sp_Mo_undo at hz
  unfold ok_Mo_undo at hok
  refine lv_aload_n hx hb d_Mo_undo_0 rfl (lv_at hl 0 rfl) ?_
  refine lv_iconst (v := 0) hx hb d_Mo_undo_1 (by decide) ?_
  refine pfI C hP hD hS 0 6 fkMo rfl (by decide) rfl qf_Mo_107 rfl rfl rfl (Nat.le_of_ble_eq_true rfl) (ff := fun o => fMo a o) (sMo_6 _ _ _) d_Mo_undo_2 (fun o_1 eo_1 H locs hP hD hS => ?_)
  have hP : va_P g.1 vwCl (wMo g mo a o_1 now dr pa sa iS bu tq rT wT sK sA sB sE oq bS bE bL rp) H := hP
  have hD : va_D (inW (wMo g mo a o now dr pa sa iS bu tq rT wT sK sA sB sE oq bS bE bL rp)) (wMo g mo a o_1 now dr pa sa iS bu tq rT wT sK sA sB sE oq bS bE bL rp) := hD
  have hz := lett_z hz eo_1
  have hok := lett_o hok eo_1
  refine lv_aload_n hx hb d_Mo_undo_5 rfl (lv_at hl 0 rfl) ?_
  refine gf C hP 0 5 fkMo rfl (by decide) rfl qf_Mo_400 (gMo_5 _ _) d_Mo_undo_6 ?_
  refine lv_if_ne (tgt := 14) hx hb d_Mo_undo_9 (by decide) (fun c2 => ?_) (fun c2 => ?_)
  · have hz := hz.trans (if_neg c2)
    have hok := hok.2 c2
    refine lv_aload_n hx hb d_Mo_undo_14 rfl (lv_at hl 0 rfl) ?_
    refine lv_dup hx hb d_Mo_undo_15 rfl ?_
    refine gf C hP 0 5 fkMo rfl (by decide) rfl qf_Mo_400 (gMo_5 _ _) d_Mo_undo_16 ?_
    refine lv_iconst (v := 1) hx hb d_Mo_undo_19 (by decide) ?_
    refine lv_isub hx hb d_Mo_undo_20 ?_
    refine pfI C hP hD hS 0 5 fkMo rfl (by decide) rfl qf_Mo_400 rfl rfl rfl (Nat.le_of_ble_eq_true rfl) (ff := fun o => fMo a o) (sMo_5 _ _ _) d_Mo_undo_21 (fun o_3 eo_3 H locs hP hD hS => ?_)
    have hP : va_P g.1 vwCl (wMo g mo a o_3 now dr pa sa iS bu tq rT wT sK sA sB sE oq bS bE bL rp) H := hP
    have hD : va_D (inW (wMo g mo a o now dr pa sa iS bu tq rT wT sK sA sB sE oq bS bE bL rp)) (wMo g mo a o_3 now dr pa sa iS bu tq rT wT sK sA sB sE oq bS bE bL rp) := hD
    have hz := lett_z hz eo_3
    have hok := lett_o hok eo_3
    refine lv_aload_n hx hb d_Mo_undo_24 rfl (lv_at hl 0 rfl) ?_
    refine gf C hP 0 2 fkMo rfl (by decide) rfl qf_Mo_16 (gMo_2 _ _) d_Mo_undo_25 ?_
    refine lv_aload_n hx hb d_Mo_undo_28 rfl (lv_at hl 0 rfl) ?_
    refine gf C hP 0 5 fkMo rfl (by decide) rfl qf_Mo_400 (gMo_5 _ _) d_Mo_undo_29 ?_
    refine lv_aload_n hx hb d_Mo_undo_32 rfl (lv_at hl 0 rfl) ?_
    refine gf C hP 0 0 fkMo rfl (by decide) rfl qf_Mo_7 (gMo_0 _ _) d_Mo_undo_33 ?_
    refine lv_iconst (v := 0) hx hb d_Mo_undo_36 (by decide) ?_
    have hs4 := hok.1
    have hok := hok.2
    have hB : SubW g (inW (wMo g mo a o now dr pa sa iS bu tq rT wT sK sA sB sE oq bS bE bL rp)) s (wMo g mo a o_3 now dr pa sa iS bu tq rT wT sK sA sB sE oq bS bE bL rp) _ (List.range _) _ _ := (subF hP hD hS)
    refine goVF hB (run_s C mf_Mo_copy qm_Mo_476 (c_Mo_copy_pn l g mo a o_3 now dr pa sa iS bu tq rT wT sK sA sB sE oq bS bE bL rp (o_3 5) (0 : Int32) hs4) rfl rfl ⟨Nat.le_of_ble_eq_true rfl, Nat.le_of_ble_eq_true rfl⟩ ⟨Nat.le_of_ble_eq_true rfl, Nat.le_of_ble_eq_true rfl⟩ hB hl rfl rfl (Nat.le_of_ble_eq_true rfl) d_Mo_undo_37) (fun _ => rfl) (fun y5 ey5 H locs hP hD hS => ?_)
    have hP : va_P g.1 vwCl (wMo g mo a o_3 y5 dr pa sa iS bu tq rT wT sK sA sB sE oq bS bE bL rp) H := hP
    have hD : va_D (inW (wMo g mo a o now dr pa sa iS bu tq rT wT sK sA sB sE oq bS bE bL rp)) (wMo g mo a o_3 y5 dr pa sa iS bu tq rT wT sK sA sB sE oq bS bE bL rp) := hD
    have hz := lett_z hz ey5
    refine lv_aload_n hx hb d_Mo_undo_40 rfl (lv_at hl 0 rfl) ?_
    refine gf C hP 0 5 fkMo rfl (by decide) rfl qf_Mo_400 (gMo_5 _ _) d_Mo_undo_41 ?_
    exact endI1 C hz hP hS d_Mo_undo_44
  · have hz := hz.trans (if_pos c2)
    refine lv_iconst (v := -1) hx hb d_Mo_undo_12 (by decide) ?_
    exact endI1 C hz hP hS d_Mo_undo_13
abbrev rm_Mo_isSlot : Room := { frames := 1, cells := 0, slots := 0, locals := 25 }
noncomputable def sp_Mo_isSlot (p1 : Int32) : Int32 := lett (sp_Mo_in p1.toInt64 (0 : Int64) (1 : Int64)) fun (y1 : Int32) => y1
def ok_Mo_isSlot (p1 : Int32) : Prop := lett (sp_Mo_in p1.toInt64 (0 : Int64) (1 : Int64)) fun (y1 : Int32) => (isB y1) ∧ True
set_option maxRecDepth 100000 in
set_option maxHeartbeats 4000000 in
theorem c_Mo_isSlot (l : Launch) (g : GX) (mo : Nat) (a : Nat → Nat) (o : IV) (now : LV) (dr : LV) (pa : LV) (sa : LV) (iS : IV) (bu : IV) (tq : IV) (rT : IV) (wT : IV) (sK : IV) (sA : IV) (sB : IV) (sE : IV) (oq : IV) (bS : IV) (bE : IV) (bL : IV) (rp : IV) (p1 : Int32) (hok : ok_Mo_isSlot p1) : Met l y_Mo_isSlot (wsY y_Mo_isSlot b_Mo_isSlot 1 (some .boolean)) rm_Mo_isSlot (CP g [.int p1] (wMo g mo a o now dr pa sa iS bu tq rT wT sK sA sB sE oq bS bE bL rp)) (CI0 g (wMo g mo a o now dr pa sa iS bu tq rT wT sK sA sB sE oq bS bE bL rp) (sp_Mo_isSlot p1)) 0 0 (inW (wMo g mo a o now dr pa sa iS bu tq rT wT sK sA sB sE oq bS bE bL rp)) := by
  refine Met.ofW (cc := b_Mo_isSlot) (maxL := 1) (ret := (some .boolean)) pn_Mo rfl ?_
  intro p e s m args below meth c s₁ B hml hv
  obtain ⟨rfl, C, hP, hD, hS⟩ := enter "DecadeBridgeModel" rfl B hml hv
  obtain ⟨hx, hb, hr, hml, hown, hlk, hts, hK, hZo, hZ⟩ := id C
  refine entryW (lv := [(0, .int p1)]) rfl (Nat.le_of_ble_eq_true rfl) (fun ls hl => ?_)
  obtain ⟨z, hz⟩ : ∃ z, z = sp_Mo_isSlot p1 := ⟨_, rfl⟩
  rw [← hz]
  unfold sp_Mo_isSlot at hz
  unfold ok_Mo_isSlot at hok
  refine lv_iload_n hx hb d_Mo_isSlot_0 rfl (lv_at hl 0 rfl) ?_
  refine lv_i2l hx hb d_Mo_isSlot_1 rfl ?_
  refine lv_lconst (v := 0) hx hb d_Mo_isSlot_2 (by decide) ?_
  refine lv_lconst (v := 1) hx hb d_Mo_isSlot_3 (by decide) ?_
  have hB : SubW g (inW (wMo g mo a o now dr pa sa iS bu tq rT wT sK sA sB sE oq bS bE bL rp)) s (wMo g mo a o now dr pa sa iS bu tq rT wT sK sA sB sE oq bS bE bL rp) _ (List.range _) _ _ := (subF hP hD hS)
  refine goI0 hB (run_s C mf_Mo_in qm_Mo_118 (c_Mo_in l g mo a o now dr pa sa iS bu tq rT wT sK sA sB sE oq bS bE bL rp p1.toInt64 (0 : Int64) (1 : Int64)) rfl rfl ⟨Nat.le_of_ble_eq_true rfl, Nat.le_of_ble_eq_true rfl⟩ ⟨Nat.le_of_ble_eq_true rfl, Nat.le_of_ble_eq_true rfl⟩ hB hl rfl rfl (Nat.le_of_ble_eq_true rfl) d_Mo_isSlot_4) (fun y1 ey1 H locs hP hS => ?_)
  have hz := lett_z hz ey1
  have hok := lett_o hok ey1
  have hs2 := hok.1
  have hok := hok.2
  exact endZ0 C hz hP hS (isB_nar hs2) d_Mo_isSlot_7
abbrev rm_Mo_save : Room := { frames := 2, cells := 0, slots := 0, locals := 45 }
def HL_Mo_save_13 (p : Program) (l : Launch) (e : Env) (s : State) (m : MethodId) (args : Array Value) (below : List Frame) (meth : Method) (c : Code) (g : GX) (mo : Nat) (a : Nat → Nat) (ws0 : va_W) (o : IV) (now : LV) (dr : LV) (pa : LV) (sa : LV) (iS : IV) (bu : IV) (tq : IV) (rT : IV) (wT : IV) (sK : IV) (sA : IV) (sB : IV) (sE : IV) (oq : IV) (bS : IV) (bE : IV) (bL : IV) (rp : IV) (p1 : Int32) (sp : Int32 → (Int32 × IV × LV × IV)) (ok : Int32 → Prop) : Prop := ∀ (t1p13 : Int32), ok t1p13 → ∀ z : (Int32 × IV × LV × IV), z = sp t1p13 → ∀ (H : Heap) (locs : List Loc) (ls : Array Slot), va_P g.1 vwCl (wMo g mo a o now dr pa sa iS bu tq rT wT sK sA sB sE oq bS bE bL rp) H → va_D (inW ws0) (wMo g mo a o now dr pa sa iS bu tq rT wT sK sA sB sE oq bS bE bL rp) → va_S (inW ws0) s.heap H locs → lv_has ls 2 [(0, .ref mo), (1, .int p1)] → W p l e rm_Mo_save s m args below meth c H locs 0 0 (MQ below (CI g ws0 (fun u : IV × LV × IV => wMo g mo a u.1 now dr pa u.2.1 u.2.2 bu tq rT wT sK sA sB sE oq bS bE bL rp) z) args s 0 0 (inW ws0)) (F0 m 13 ls [.int t1p13, .ref mo])
noncomputable def sp_Mo_save_13 (o : IV) (p1 : Int32) (now : LV) (sa : LV) (iS : IV)  (t1p13 : Int32) : Int32 × IV × LV × IV := lett (upd o 6 t1p13) fun (o_4 : IV) => if (o_4 6) ≤ 0 then (lett (sp_Mo_copy_ns (0 : Int32) p1 now sa) fun (y7 : LV) => lett (upd iS p1.toNatClampNeg (vp_nar .boolean (1 : Int32))) fun (iS_9 : IV) => ((now 39).toInt32, (o_4, y7, iS_9))) else (((0 : Int32), (o_4, sa, iS)))
def ok_Mo_save_13 (o : IV) (p1 : Int32) (now : LV) (sa : LV) (iS : IV)   (t1p13 : Int32) : Prop := lett (upd o 6 t1p13) fun (o_4 : IV) => (((o_4 6) ≤ 0 → (ok_Mo_copy_ns (0 : Int32) p1 now sa) ∧ lett (sp_Mo_copy_ns (0 : Int32) p1 now sa) fun (y7 : LV) => (vp_in p1 2) ∧ True) ∧ (¬ ((o_4 6) ≤ 0) → True))
set_option maxRecDepth 100000 in
set_option maxHeartbeats 4000000 in
theorem k_Mo_save_13 {p : Program} {l : Launch} {e : Env} {s : State} {m : MethodId} {args : Array Value} {below : List Frame} {meth : Method} {c : Code} {g : GX} {mo : Nat} {a : Nat → Nat} {ws0 : va_W} {o : IV} {now : LV} {dr : LV} {pa : LV} {sa : LV} {iS : IV} {bu : IV} {tq : IV} {rT : IV} {wT : IV} {sK : IV} {sA : IV} {sB : IV} {sE : IV} {oq : IV} {bS : IV} {bE : IV} {bL : IV} {rp : IV} {p1 : Int32}  (C : Cx p s m args meth c (inW ws0) g "DecadeBridgeModel" b_Mo_save (some .int) 2)  : HL_Mo_save_13 p l e s m args below meth c g mo a ws0 o now dr pa sa iS bu tq rT wT sK sA sB sE oq bS bE bL rp p1 (sp_Mo_save_13 o p1 now sa iS ) (ok_Mo_save_13 o p1 now sa iS  ) := by
  intro t1p13 hok z hz H locs ls hP hD hS hl
  obtain ⟨hx, hb, hr, hml, hown, hlk, hts, hK, hZo, hZ⟩ := id C
  unfold sp_Mo_save_13 at hz
  unfold ok_Mo_save_13 at hok
  refine pfI C hP hD hS 0 6 fkMo rfl (by decide) rfl qf_Mo_107 rfl rfl rfl (Nat.le_of_ble_eq_true rfl) (ff := fun o => fMo a o) (sMo_6 _ _ _) d_Mo_save_13 (fun o_4 eo_4 H locs hP hD hS => ?_)
  have hP : va_P g.1 vwCl (wMo g mo a o_4 now dr pa sa iS bu tq rT wT sK sA sB sE oq bS bE bL rp) H := hP
  have hD : va_D (inW ws0) (wMo g mo a o_4 now dr pa sa iS bu tq rT wT sK sA sB sE oq bS bE bL rp) := hD
  have hz := lett_z hz eo_4
  have hok := lett_o hok eo_4
  refine lv_aload_n hx hb d_Mo_save_16 rfl (lv_at hl 0 rfl) ?_
  refine gf C hP 0 6 fkMo rfl (by decide) rfl qf_Mo_107 (gMo_6 _ _) d_Mo_save_17 ?_
  refine lv_if_le (tgt := 25) hx hb d_Mo_save_20 (by decide) (fun c5 => ?_) (fun c5 => ?_)
  · have hz := hz.trans (if_pos c5)
    have hok := hok.1 c5
    refine lv_aload_n hx hb d_Mo_save_25 rfl (lv_at hl 0 rfl) ?_
    refine gf C hP 0 0 fkMo rfl (by decide) rfl qf_Mo_7 (gMo_0 _ _) d_Mo_save_26 ?_
    refine lv_iconst (v := 0) hx hb d_Mo_save_29 (by decide) ?_
    refine lv_aload_n hx hb d_Mo_save_30 rfl (lv_at hl 0 rfl) ?_
    refine gf C hP 0 3 fkMo rfl (by decide) rfl qf_Mo_19 (gMo_3 _ _) d_Mo_save_31 ?_
    refine lv_iload_n hx hb d_Mo_save_34 rfl (lv_at hl 1 rfl) ?_
    have hs6 := hok.1
    have hok := hok.2
    have hB : SubW g (inW ws0) s (wMo g mo a o_4 now dr pa sa iS bu tq rT wT sK sA sB sE oq bS bE bL rp) _ (List.range _) _ _ := (subF hP hD hS)
    refine goVF hB (run_s C mf_Mo_copy qm_Mo_476 (c_Mo_copy_ns l g mo a o_4 now dr pa sa iS bu tq rT wT sK sA sB sE oq bS bE bL rp (0 : Int32) p1 hs6) rfl rfl ⟨Nat.le_of_ble_eq_true rfl, Nat.le_of_ble_eq_true rfl⟩ ⟨Nat.le_of_ble_eq_true rfl, Nat.le_of_ble_eq_true rfl⟩ hB hl rfl rfl (Nat.le_of_ble_eq_true rfl) d_Mo_save_35) (fun _ => rfl) (fun y7 ey7 H locs hP hD hS => ?_)
    have hP : va_P g.1 vwCl (wMo g mo a o_4 now dr pa y7 iS bu tq rT wT sK sA sB sE oq bS bE bL rp) H := hP
    have hD : va_D (inW ws0) (wMo g mo a o_4 now dr pa y7 iS bu tq rT wT sK sA sB sE oq bS bE bL rp) := hD
    have hz := lett_z hz ey7
    have hok := lett_o hok ey7
    refine lv_aload_n hx hb d_Mo_save_38 rfl (lv_at hl 0 rfl) ?_
    refine gf C hP 0 4 fkMo rfl (by decide) rfl qf_Mo_22 (gMo_4 _ _) d_Mo_save_39 ?_
    refine lv_iload_n hx hb d_Mo_save_42 rfl (lv_at hl 1 rfl) ?_
    refine lv_iconst (v := 1) hx hb d_Mo_save_43 (by decide) ?_
    have hs8 := hok.1
    have hok := hok.2
    refine stZ C hP hD hS 5 rfl hs8 rfl d_Mo_save_44 (fun iS_9 eiS_9 H locs hP hD hS => ?_)
    have hP : va_P g.1 vwCl (wMo g mo a o_4 now dr pa y7 iS_9 bu tq rT wT sK sA sB sE oq bS bE bL rp) H := hP
    have hD : va_D (inW ws0) (wMo g mo a o_4 now dr pa y7 iS_9 bu tq rT wT sK sA sB sE oq bS bE bL rp) := hD
    have hz := lett_z hz eiS_9
    refine lv_aload_n hx hb d_Mo_save_45 rfl (lv_at hl 0 rfl) ?_
    refine gf C hP 0 0 fkMo rfl (by decide) rfl qf_Mo_7 (gMo_0 _ _) d_Mo_save_46 ?_
    refine lv_bipush (v := 39) hx hb d_Mo_save_49 (by decide) ?_
    refine ldL C hP 1 rfl vi_39_215 cn_39 d_Mo_save_51 ?_
    refine lv_l2i hx hb d_Mo_save_52 rfl ?_
    exact endI1 C hz hP hS d_Mo_save_53
  · have hz := hz.trans (if_neg c5)
    refine lv_iconst (v := 0) hx hb d_Mo_save_23 (by decide) ?_
    exact endI1 C hz hP hS d_Mo_save_24
noncomputable def sp_Mo_save (p1 : Int32) (o : IV) (now : LV) (sa : LV) (iS : IV) : Int32 × IV × LV × IV := lett (sp_Mo_isSlot p1) fun (y2 : Int32) => if y2 = 0 then (sp_Mo_save_13 o p1 now sa iS (1 : Int32)) else (sp_Mo_save_13 o p1 now sa iS (0 : Int32))
def ok_Mo_save (p1 : Int32) (o : IV) (now : LV) (sa : LV) (iS : IV) : Prop := (ok_Mo_isSlot p1) ∧ lett (sp_Mo_isSlot p1) fun (y2 : Int32) => ((y2 = 0 → ok_Mo_save_13 o p1 now sa iS (1 : Int32)) ∧ (¬ (y2 = 0) → ok_Mo_save_13 o p1 now sa iS (0 : Int32)))
set_option maxRecDepth 100000 in
set_option maxHeartbeats 4000000 in
theorem c_Mo_save (l : Launch) (g : GX) (mo : Nat) (a : Nat → Nat) (o : IV) (now : LV) (dr : LV) (pa : LV) (sa : LV) (iS : IV) (bu : IV) (tq : IV) (rT : IV) (wT : IV) (sK : IV) (sA : IV) (sB : IV) (sE : IV) (oq : IV) (bS : IV) (bE : IV) (bL : IV) (rp : IV) (p1 : Int32) (hok : ok_Mo_save p1 o now sa iS) : Met l y_Mo_save (wsY y_Mo_save b_Mo_save 2 (some .int)) rm_Mo_save (CP g [.ref mo, .int p1] (wMo g mo a o now dr pa sa iS bu tq rT wT sK sA sB sE oq bS bE bL rp)) (CI g (wMo g mo a o now dr pa sa iS bu tq rT wT sK sA sB sE oq bS bE bL rp) (fun u : IV × LV × IV => wMo g mo a u.1 now dr pa u.2.1 u.2.2 bu tq rT wT sK sA sB sE oq bS bE bL rp) (sp_Mo_save p1 o now sa iS)) 0 0 (inW (wMo g mo a o now dr pa sa iS bu tq rT wT sK sA sB sE oq bS bE bL rp)) := by
  refine Met.ofW (cc := b_Mo_save) (maxL := 2) (ret := (some .int)) pn_Mo rfl ?_
  intro p e s m args below meth c s₁ B hml hv
  obtain ⟨rfl, C, hP, hD, hS⟩ := enter "DecadeBridgeModel" rfl B hml hv
  obtain ⟨hx, hb, hr, hml, hown, hlk, hts, hK, hZo, hZ⟩ := id C
  refine entryW (lv := [(0, .ref mo), (1, .int p1)]) rfl (Nat.le_of_ble_eq_true rfl) (fun ls hl => ?_)
  obtain ⟨z, hz⟩ : ∃ z, z = sp_Mo_save p1 o now sa iS := ⟨_, rfl⟩
  rw [← hz]
  unfold sp_Mo_save at hz
  unfold ok_Mo_save at hok
  refine lv_aload_n hx hb d_Mo_save_0 rfl (lv_at hl 0 rfl) ?_
  refine lv_iload_n hx hb d_Mo_save_1 rfl (lv_at hl 1 rfl) ?_
  have hs1 := hok.1
  have hok := hok.2
  have hB : SubW g (inW (wMo g mo a o now dr pa sa iS bu tq rT wT sK sA sB sE oq bS bE bL rp)) s (wMo g mo a o now dr pa sa iS bu tq rT wT sK sA sB sE oq bS bE bL rp) _ (List.range _) _ _ := (subF hP hD hS)
  refine goI0 hB (run_s C mf_Mo_isSlot qm_Mo_556 (c_Mo_isSlot l g mo a o now dr pa sa iS bu tq rT wT sK sA sB sE oq bS bE bL rp p1 hs1) rfl rfl ⟨Nat.le_of_ble_eq_true rfl, Nat.le_of_ble_eq_true rfl⟩ ⟨Nat.le_of_ble_eq_true rfl, Nat.le_of_ble_eq_true rfl⟩ hB hl rfl rfl (Nat.le_of_ble_eq_true rfl) d_Mo_save_2) (fun y2 ey2 H locs hP hS => ?_)
  have hz := lett_z hz ey2
  have hok := lett_o hok ey2
  refine lv_if_eq (tgt := 12) hx hb d_Mo_save_5 (by decide) (fun c3 => ?_) (fun c3 => ?_)
  · have hz := hz.trans (if_pos c3)
    have hok := hok.1 c3
    refine lv_iconst (v := 1) hx hb d_Mo_save_12 (by decide) ?_
    exact k_Mo_save_13 C (1 : Int32) hok _ hz _ _ ls hP hD hS hl
  · have hz := hz.trans (if_neg c3)
    have hok := hok.2 c3
    refine lv_iconst (v := 0) hx hb d_Mo_save_8 (by decide) ?_
    refine lv_goto (tgt := 13) hx hb d_Mo_save_9 (by decide) ?_
    exact k_Mo_save_13 C (0 : Int32) hok _ hz _ _ ls hP hD hS hl
abbrev rm_Mo_restore : Room := { frames := 2, cells := 0, slots := 0, locals := 45 }
def HL_Mo_restore_13 (p : Program) (l : Launch) (e : Env) (s : State) (m : MethodId) (args : Array Value) (below : List Frame) (meth : Method) (c : Code) (g : GX) (mo : Nat) (a : Nat → Nat) (ws0 : va_W) (o : IV) (now : LV) (dr : LV) (pa : LV) (sa : LV) (iS : IV) (bu : IV) (tq : IV) (rT : IV) (wT : IV) (sK : IV) (sA : IV) (sB : IV) (sE : IV) (oq : IV) (bS : IV) (bE : IV) (bL : IV) (rp : IV) (p1 : Int32) (sp : Int32 → (Int32 × IV × LV)) (ok : Int32 → Prop) : Prop := ∀ (t1p13 : Int32), ok t1p13 → ∀ z : (Int32 × IV × LV), z = sp t1p13 → ∀ (H : Heap) (locs : List Loc) (ls : Array Slot), va_P g.1 vwCl (wMo g mo a o now dr pa sa iS bu tq rT wT sK sA sB sE oq bS bE bL rp) H → va_D (inW ws0) (wMo g mo a o now dr pa sa iS bu tq rT wT sK sA sB sE oq bS bE bL rp) → va_S (inW ws0) s.heap H locs → lv_has ls 2 [(0, .ref mo), (1, .int p1)] → W p l e rm_Mo_restore s m args below meth c H locs 0 0 (MQ below (CI g ws0 (fun u : IV × LV => wMo g mo a u.1 u.2 dr pa sa iS bu tq rT wT sK sA sB sE oq bS bE bL rp) z) args s 0 0 (inW ws0)) (F0 m 13 ls [.int t1p13, .ref mo])
noncomputable def sp_Mo_restore_13 (o : IV) (iS : IV) (p1 : Int32) (now : LV) (sa : LV)  (t1p13 : Int32) : Int32 × IV × LV := lett (upd o 6 t1p13) fun (o_4 : IV) => if (o_4 6) ≤ 0 then (if (iS p1.toNatClampNeg) = 0 then (((-1 : Int32), (o_4, now))) else (lett (sp_Mo_copy_sn p1 (0 : Int32) now sa) fun (y9 : LV) => lett (upd o_4 5 (0 : Int32)) fun (o_10 : IV) => ((y9 39).toInt32, (o_10, y9)))) else (((0 : Int32), (o_4, now)))
def ok_Mo_restore_13 (o : IV) (iS : IV) (p1 : Int32) (now : LV) (sa : LV)   (t1p13 : Int32) : Prop := lett (upd o 6 t1p13) fun (o_4 : IV) => (((o_4 6) ≤ 0 → (vp_in p1 2) ∧ (((iS p1.toNatClampNeg) = 0 → True) ∧ (¬ ((iS p1.toNatClampNeg) = 0) → (ok_Mo_copy_sn p1 (0 : Int32) now sa) ∧ True))) ∧ (¬ ((o_4 6) ≤ 0) → True))
set_option maxRecDepth 100000 in
set_option maxHeartbeats 4000000 in
theorem k_Mo_restore_13 {p : Program} {l : Launch} {e : Env} {s : State} {m : MethodId} {args : Array Value} {below : List Frame} {meth : Method} {c : Code} {g : GX} {mo : Nat} {a : Nat → Nat} {ws0 : va_W} {o : IV} {now : LV} {dr : LV} {pa : LV} {sa : LV} {iS : IV} {bu : IV} {tq : IV} {rT : IV} {wT : IV} {sK : IV} {sA : IV} {sB : IV} {sE : IV} {oq : IV} {bS : IV} {bE : IV} {bL : IV} {rp : IV} {p1 : Int32}  (C : Cx p s m args meth c (inW ws0) g "DecadeBridgeModel" b_Mo_restore (some .int) 2)  : HL_Mo_restore_13 p l e s m args below meth c g mo a ws0 o now dr pa sa iS bu tq rT wT sK sA sB sE oq bS bE bL rp p1 (sp_Mo_restore_13 o iS p1 now sa ) (ok_Mo_restore_13 o iS p1 now sa  ) := by
  intro t1p13 hok z hz H locs ls hP hD hS hl
  obtain ⟨hx, hb, hr, hml, hown, hlk, hts, hK, hZo, hZ⟩ := id C
  unfold sp_Mo_restore_13 at hz
  unfold ok_Mo_restore_13 at hok
  refine pfI C hP hD hS 0 6 fkMo rfl (by decide) rfl qf_Mo_107 rfl rfl rfl (Nat.le_of_ble_eq_true rfl) (ff := fun o => fMo a o) (sMo_6 _ _ _) d_Mo_restore_13 (fun o_4 eo_4 H locs hP hD hS => ?_)
  have hP : va_P g.1 vwCl (wMo g mo a o_4 now dr pa sa iS bu tq rT wT sK sA sB sE oq bS bE bL rp) H := hP
  have hD : va_D (inW ws0) (wMo g mo a o_4 now dr pa sa iS bu tq rT wT sK sA sB sE oq bS bE bL rp) := hD
  have hz := lett_z hz eo_4
  have hok := lett_o hok eo_4
  refine lv_aload_n hx hb d_Mo_restore_16 rfl (lv_at hl 0 rfl) ?_
  refine gf C hP 0 6 fkMo rfl (by decide) rfl qf_Mo_107 (gMo_6 _ _) d_Mo_restore_17 ?_
  refine lv_if_le (tgt := 25) hx hb d_Mo_restore_20 (by decide) (fun c5 => ?_) (fun c5 => ?_)
  · have hz := hz.trans (if_pos c5)
    have hok := hok.1 c5
    refine lv_aload_n hx hb d_Mo_restore_25 rfl (lv_at hl 0 rfl) ?_
    refine gf C hP 0 4 fkMo rfl (by decide) rfl qf_Mo_22 (gMo_4 _ _) d_Mo_restore_26 ?_
    refine lv_iload_n hx hb d_Mo_restore_29 rfl (lv_at hl 1 rfl) ?_
    have hs6 := hok.1
    have hok := hok.2
    refine ldZ C hP 5 rfl hs6 rfl d_Mo_restore_30 ?_
    refine lv_if_ne (tgt := 36) hx hb d_Mo_restore_31 (by decide) (fun c7 => ?_) (fun c7 => ?_)
    · have hz := hz.trans (if_neg c7)
      have hok := hok.2 c7
      refine lv_aload_n hx hb d_Mo_restore_36 rfl (lv_at hl 0 rfl) ?_
      refine gf C hP 0 3 fkMo rfl (by decide) rfl qf_Mo_19 (gMo_3 _ _) d_Mo_restore_37 ?_
      refine lv_iload_n hx hb d_Mo_restore_40 rfl (lv_at hl 1 rfl) ?_
      refine lv_aload_n hx hb d_Mo_restore_41 rfl (lv_at hl 0 rfl) ?_
      refine gf C hP 0 0 fkMo rfl (by decide) rfl qf_Mo_7 (gMo_0 _ _) d_Mo_restore_42 ?_
      refine lv_iconst (v := 0) hx hb d_Mo_restore_45 (by decide) ?_
      have hs8 := hok.1
      have hok := hok.2
      have hB : SubW g (inW ws0) s (wMo g mo a o_4 now dr pa sa iS bu tq rT wT sK sA sB sE oq bS bE bL rp) _ (List.range _) _ _ := (subF hP hD hS)
      refine goVF hB (run_s C mf_Mo_copy qm_Mo_476 (c_Mo_copy_sn l g mo a o_4 now dr pa sa iS bu tq rT wT sK sA sB sE oq bS bE bL rp p1 (0 : Int32) hs8) rfl rfl ⟨Nat.le_of_ble_eq_true rfl, Nat.le_of_ble_eq_true rfl⟩ ⟨Nat.le_of_ble_eq_true rfl, Nat.le_of_ble_eq_true rfl⟩ hB hl rfl rfl (Nat.le_of_ble_eq_true rfl) d_Mo_restore_46) (fun _ => rfl) (fun y9 ey9 H locs hP hD hS => ?_)
      have hP : va_P g.1 vwCl (wMo g mo a o_4 y9 dr pa sa iS bu tq rT wT sK sA sB sE oq bS bE bL rp) H := hP
      have hD : va_D (inW ws0) (wMo g mo a o_4 y9 dr pa sa iS bu tq rT wT sK sA sB sE oq bS bE bL rp) := hD
      have hz := lett_z hz ey9
      refine lv_aload_n hx hb d_Mo_restore_49 rfl (lv_at hl 0 rfl) ?_
      refine lv_iconst (v := 0) hx hb d_Mo_restore_50 (by decide) ?_
      refine pfI C hP hD hS 0 5 fkMo rfl (by decide) rfl qf_Mo_400 rfl rfl rfl (Nat.le_of_ble_eq_true rfl) (ff := fun o => fMo a o) (sMo_5 _ _ _) d_Mo_restore_51 (fun o_10 eo_10 H locs hP hD hS => ?_)
      have hP : va_P g.1 vwCl (wMo g mo a o_10 y9 dr pa sa iS bu tq rT wT sK sA sB sE oq bS bE bL rp) H := hP
      have hD : va_D (inW ws0) (wMo g mo a o_10 y9 dr pa sa iS bu tq rT wT sK sA sB sE oq bS bE bL rp) := hD
      have hz := lett_z hz eo_10
      refine lv_aload_n hx hb d_Mo_restore_54 rfl (lv_at hl 0 rfl) ?_
      refine gf C hP 0 0 fkMo rfl (by decide) rfl qf_Mo_7 (gMo_0 _ _) d_Mo_restore_55 ?_
      refine lv_bipush (v := 39) hx hb d_Mo_restore_58 (by decide) ?_
      refine ldL C hP 1 rfl vi_39_215 cn_39 d_Mo_restore_60 ?_
      refine lv_l2i hx hb d_Mo_restore_61 rfl ?_
      exact endI1 C hz hP hS d_Mo_restore_62
    · have hz := hz.trans (if_pos c7)
      refine lv_iconst (v := -1) hx hb d_Mo_restore_34 (by decide) ?_
      exact endI1 C hz hP hS d_Mo_restore_35
  · have hz := hz.trans (if_neg c5)
    refine lv_iconst (v := 0) hx hb d_Mo_restore_23 (by decide) ?_
    exact endI1 C hz hP hS d_Mo_restore_24
noncomputable def sp_Mo_restore (p1 : Int32) (o : IV) (now : LV) (sa : LV) (iS : IV) : Int32 × IV × LV := lett (sp_Mo_isSlot p1) fun (y2 : Int32) => if y2 = 0 then (sp_Mo_restore_13 o iS p1 now sa (1 : Int32)) else (sp_Mo_restore_13 o iS p1 now sa (0 : Int32))
def ok_Mo_restore (p1 : Int32) (o : IV) (now : LV) (sa : LV) (iS : IV) : Prop := (ok_Mo_isSlot p1) ∧ lett (sp_Mo_isSlot p1) fun (y2 : Int32) => ((y2 = 0 → ok_Mo_restore_13 o iS p1 now sa (1 : Int32)) ∧ (¬ (y2 = 0) → ok_Mo_restore_13 o iS p1 now sa (0 : Int32)))
set_option maxRecDepth 100000 in
set_option maxHeartbeats 4000000 in
theorem c_Mo_restore (l : Launch) (g : GX) (mo : Nat) (a : Nat → Nat) (o : IV) (now : LV) (dr : LV) (pa : LV) (sa : LV) (iS : IV) (bu : IV) (tq : IV) (rT : IV) (wT : IV) (sK : IV) (sA : IV) (sB : IV) (sE : IV) (oq : IV) (bS : IV) (bE : IV) (bL : IV) (rp : IV) (p1 : Int32) (hok : ok_Mo_restore p1 o now sa iS) : Met l y_Mo_restore (wsY y_Mo_restore b_Mo_restore 2 (some .int)) rm_Mo_restore (CP g [.ref mo, .int p1] (wMo g mo a o now dr pa sa iS bu tq rT wT sK sA sB sE oq bS bE bL rp)) (CI g (wMo g mo a o now dr pa sa iS bu tq rT wT sK sA sB sE oq bS bE bL rp) (fun u : IV × LV => wMo g mo a u.1 u.2 dr pa sa iS bu tq rT wT sK sA sB sE oq bS bE bL rp) (sp_Mo_restore p1 o now sa iS)) 0 0 (inW (wMo g mo a o now dr pa sa iS bu tq rT wT sK sA sB sE oq bS bE bL rp)) := by
  refine Met.ofW (cc := b_Mo_restore) (maxL := 2) (ret := (some .int)) pn_Mo rfl ?_
  intro p e s m args below meth c s₁ B hml hv
  obtain ⟨rfl, C, hP, hD, hS⟩ := enter "DecadeBridgeModel" rfl B hml hv
  obtain ⟨hx, hb, hr, hml, hown, hlk, hts, hK, hZo, hZ⟩ := id C
  refine entryW (lv := [(0, .ref mo), (1, .int p1)]) rfl (Nat.le_of_ble_eq_true rfl) (fun ls hl => ?_)
  obtain ⟨z, hz⟩ : ∃ z, z = sp_Mo_restore p1 o now sa iS := ⟨_, rfl⟩
  rw [← hz]
  unfold sp_Mo_restore at hz
  unfold ok_Mo_restore at hok
  refine lv_aload_n hx hb d_Mo_restore_0 rfl (lv_at hl 0 rfl) ?_
  refine lv_iload_n hx hb d_Mo_restore_1 rfl (lv_at hl 1 rfl) ?_
  have hs1 := hok.1
  have hok := hok.2
  have hB : SubW g (inW (wMo g mo a o now dr pa sa iS bu tq rT wT sK sA sB sE oq bS bE bL rp)) s (wMo g mo a o now dr pa sa iS bu tq rT wT sK sA sB sE oq bS bE bL rp) _ (List.range _) _ _ := (subF hP hD hS)
  refine goI0 hB (run_s C mf_Mo_isSlot qm_Mo_556 (c_Mo_isSlot l g mo a o now dr pa sa iS bu tq rT wT sK sA sB sE oq bS bE bL rp p1 hs1) rfl rfl ⟨Nat.le_of_ble_eq_true rfl, Nat.le_of_ble_eq_true rfl⟩ ⟨Nat.le_of_ble_eq_true rfl, Nat.le_of_ble_eq_true rfl⟩ hB hl rfl rfl (Nat.le_of_ble_eq_true rfl) d_Mo_restore_2) (fun y2 ey2 H locs hP hS => ?_)
  have hz := lett_z hz ey2
  have hok := lett_o hok ey2
  refine lv_if_eq (tgt := 12) hx hb d_Mo_restore_5 (by decide) (fun c3 => ?_) (fun c3 => ?_)
  · have hz := hz.trans (if_pos c3)
    have hok := hok.1 c3
    refine lv_iconst (v := 1) hx hb d_Mo_restore_12 (by decide) ?_
    exact k_Mo_restore_13 C (1 : Int32) hok _ hz _ _ ls hP hD hS hl
  · have hz := hz.trans (if_neg c3)
    have hok := hok.2 c3
    refine lv_iconst (v := 0) hx hb d_Mo_restore_8 (by decide) ?_
    refine lv_goto (tgt := 13) hx hb d_Mo_restore_9 (by decide) ?_
    exact k_Mo_restore_13 C (0 : Int32) hok _ hz _ _ ls hP hD hS hl
abbrev rm_Mo_manners : Room := { frames := 4, cells := 0, slots := 0, locals := 87 }
def HL_Mo_manners_4 (p : Program) (l : Launch) (e : Env) (s : State) (m : MethodId) (args : Array Value) (below : List Frame) (meth : Method) (c : Code) (g : GX) (mo : Nat) (a : Nat → Nat) (o : IV) (now : LV) (dr : LV) (pa : LV) (sa : LV) (iS : IV) (bu : IV) (tq : IV) (rT : IV) (wT : IV) (sK : IV) (sA : IV) (sB : IV) (sE : IV) (oq : IV) (bS : IV) (bE : IV) (bL : IV) (rp : IV) (sp : Int32 → Int32 → Int32) (ok : Int32 → Int32 → Prop) : Prop := ∀ (x1p4 : Int32) (x2p4 : Int32), ok x1p4 x2p4 → ∀ z : Int32, z = sp x1p4 x2p4 → ∀ (H : Heap) (locs : List Loc) (ls : Array Slot), va_P g.1 vwCl (wMo g mo a o now dr pa sa iS bu tq rT wT sK sA sB sE oq bS bE bL rp) H → va_D (inW (wMo g mo a o now dr pa sa iS bu tq rT wT sK sA sB sE oq bS bE bL rp)) (wMo g mo a o now dr pa sa iS bu tq rT wT sK sA sB sE oq bS bE bL rp) → va_S (inW (wMo g mo a o now dr pa sa iS bu tq rT wT sK sA sB sE oq bS bE bL rp)) s.heap H locs → lv_has ls 3 [(0, .ref mo), (1, .int x1p4), (2, .int x2p4)] → W p l e rm_Mo_manners s m args below meth c H locs 0 0 (MQ below (CI0 g (wMo g mo a o now dr pa sa iS bu tq rT wT sK sA sB sE oq bS bE bL rp) z) args s 0 0 (inW (wMo g mo a o now dr pa sa iS bu tq rT wT sK sA sB sE oq bS bE bL rp))) (F0 m 4 ls [])
def HL_Mo_manners_31 (p : Program) (l : Launch) (e : Env) (s : State) (m : MethodId) (args : Array Value) (below : List Frame) (meth : Method) (c : Code) (g : GX) (mo : Nat) (a : Nat → Nat) (o : IV) (now : LV) (dr : LV) (pa : LV) (sa : LV) (iS : IV) (bu : IV) (tq : IV) (rT : IV) (wT : IV) (sK : IV) (sA : IV) (sB : IV) (sE : IV) (oq : IV) (bS : IV) (bE : IV) (bL : IV) (rp : IV) (x2p4 : Int32) (x1p4 : Int32) (sp : Int32 → Int32) (ok : Int32 → Prop) : Prop := ∀ (t1p31 : Int32), ok t1p31 → ∀ z : Int32, z = sp t1p31 → ∀ (H : Heap) (locs : List Loc) (ls : Array Slot), va_P g.1 vwCl (wMo g mo a o now dr pa sa iS bu tq rT wT sK sA sB sE oq bS bE bL rp) H → va_D (inW (wMo g mo a o now dr pa sa iS bu tq rT wT sK sA sB sE oq bS bE bL rp)) (wMo g mo a o now dr pa sa iS bu tq rT wT sK sA sB sE oq bS bE bL rp) → va_S (inW (wMo g mo a o now dr pa sa iS bu tq rT wT sK sA sB sE oq bS bE bL rp)) s.heap H locs → lv_has ls 3 [(0, .ref mo), (2, .int x2p4)] → W p l e rm_Mo_manners s m args below meth c H locs 0 0 (MQ below (CI0 g (wMo g mo a o now dr pa sa iS bu tq rT wT sK sA sB sE oq bS bE bL rp) z) args s 0 0 (inW (wMo g mo a o now dr pa sa iS bu tq rT wT sK sA sB sE oq bS bE bL rp))) (F0 m 31 ls [.int t1p31, .int x1p4])
noncomputable def sp_Mo_manners_31 (x1p4 : Int32) (x2p4 : Int32) (r4 : Int32 → Int32 → Int32) (t1p31 : Int32) : Int32 := lett (x1p4 + t1p31) fun (v5 : Int32) => lett (x2p4 + (1 : Int32)) fun (v6 : Int32) => r4 v5 v6
def ok_Mo_manners_31 (x1p4 : Int32) (x2p4 : Int32) (r4 : Int32 → Int32 → Int32) (q4 : Int32 → Int32 → Prop) (t1p31 : Int32) : Prop := lett (x1p4 + t1p31) fun (v5 : Int32) => lett (x2p4 + (1 : Int32)) fun (v6 : Int32) => q4 v5 v6
set_option maxRecDepth 100000 in
set_option maxHeartbeats 4000000 in
theorem k_Mo_manners_31 {p : Program} {l : Launch} {e : Env} {s : State} {m : MethodId} {args : Array Value} {below : List Frame} {meth : Method} {c : Code} {g : GX} {mo : Nat} {a : Nat → Nat} {o : IV} {now : LV} {dr : LV} {pa : LV} {sa : LV} {iS : IV} {bu : IV} {tq : IV} {rT : IV} {wT : IV} {sK : IV} {sA : IV} {sB : IV} {sE : IV} {oq : IV} {bS : IV} {bE : IV} {bL : IV} {rp : IV} {x2p4 : Int32} {x1p4 : Int32} {r4 : Int32 → Int32 → Int32} {q4 : Int32 → Int32 → Prop} (C : Cx p s m args meth c (inW (wMo g mo a o now dr pa sa iS bu tq rT wT sK sA sB sE oq bS bE bL rp)) g "DecadeBridgeModel" b_Mo_manners (some .int) 3) (ih4 : HL_Mo_manners_4 p l e s m args below meth c g mo a o now dr pa sa iS bu tq rT wT sK sA sB sE oq bS bE bL rp r4 q4) : HL_Mo_manners_31 p l e s m args below meth c g mo a o now dr pa sa iS bu tq rT wT sK sA sB sE oq bS bE bL rp x2p4 x1p4 (sp_Mo_manners_31 x1p4 x2p4 r4) (ok_Mo_manners_31 x1p4 x2p4 r4 q4) := by
  intro t1p31 hok z hz H locs ls hP hD hS hl
  obtain ⟨hx, hb, hr, hml, hown, hlk, hts, hK, hZo, hZ⟩ := id C
  unfold sp_Mo_manners_31 at hz
  unfold ok_Mo_manners_31 at hok
  refine lv_iadd hx hb d_Mo_manners_31 ?_
  refine lv_topi (fun v5 ev5 => ?_)
  have hz := lett_z hz ev5
  have hok := lett_o hok ev5
  refine lv_istore_n (lv' := [(1, .int v5), (0, .ref mo), (2, .int x2p4)]) hx hb d_Mo_manners_32 rfl hl (by decide) rfl (fun ls hl => ?_)
  obtain ⟨v6, ev6⟩ : ∃ y : Int32, y = x2p4 + (1 : Int32) := ⟨_, rfl⟩
  have hz := lett_z hz ev6
  have hok := lett_o hok ev6
  refine lv_iinc (v := v6) (lv' := [(2, .int v6), (1, .int v5), (0, .ref mo)]) hx hb d_Mo_manners_33 hl (k := 2) rfl (by rw [ev6]; rfl) (by decide) rfl (fun ls hl => ?_)
  refine lv_goto (tgt := 4) hx hb d_Mo_manners_36 (by decide) ?_
  exact ih4 v5 v6 hok _ hz _ _ ls hP hD hS (lv_sub hl [2, 1, 0] rfl)
noncomputable def bd_Mo_manners_4 (now : LV) (r4 : Int32 → Int32 → Int32) (x1p4 : Int32) (x2p4 : Int32) : Int32 := if (now 54) ≤ x2p4.toInt64 then (x1p4) else (lett (sp_Mo_isEarliest x2p4 now) fun (y3 : Int32) => if y3 = 0 then (sp_Mo_manners_31 x1p4 x2p4 r4 (0 : Int32)) else (sp_Mo_manners_31 x1p4 x2p4 r4 (1 : Int32)))
def okb_Mo_manners_4 (now : LV) (r4 : Int32 → Int32 → Int32) (q4 : Int32 → Int32 → Prop) (x1p4 : Int32) (x2p4 : Int32) : Prop := (((now 54) ≤ x2p4.toInt64 → True) ∧ (¬ ((now 54) ≤ x2p4.toInt64) → (ok_Mo_isEarliest x2p4 now) ∧ lett (sp_Mo_isEarliest x2p4 now) fun (y3 : Int32) => ((y3 = 0 → ok_Mo_manners_31 x1p4 x2p4 r4 q4 (0 : Int32)) ∧ (¬ (y3 = 0) → ok_Mo_manners_31 x1p4 x2p4 r4 q4 (1 : Int32)))))
noncomputable def sp_Mo_manners_4 (now : LV)  : Nat → Int32 → Int32 → Int32
  | 0 => fun _ _ => default
  | f + 1 => bd_Mo_manners_4 now  (sp_Mo_manners_4 now  f)
def ok_Mo_manners_4 (now : LV)   : Nat → Int32 → Int32 → Prop
  | 0 => fun _ _ => False
  | f + 1 => okb_Mo_manners_4 now  (sp_Mo_manners_4 now  f)  (ok_Mo_manners_4 now   f)
set_option maxRecDepth 100000 in
set_option maxHeartbeats 4000000 in
theorem kb_Mo_manners_4 {p : Program} {l : Launch} {e : Env} {s : State} {m : MethodId} {args : Array Value} {below : List Frame} {meth : Method} {c : Code} {g : GX} {mo : Nat} {a : Nat → Nat} {o : IV} {now : LV} {dr : LV} {pa : LV} {sa : LV} {iS : IV} {bu : IV} {tq : IV} {rT : IV} {wT : IV} {sK : IV} {sA : IV} {sB : IV} {sE : IV} {oq : IV} {bS : IV} {bE : IV} {bL : IV} {rp : IV}  (C : Cx p s m args meth c (inW (wMo g mo a o now dr pa sa iS bu tq rT wT sK sA sB sE oq bS bE bL rp)) g "DecadeBridgeModel" b_Mo_manners (some .int) 3) {r4 : Int32 → Int32 → Int32} {q4 : Int32 → Int32 → Prop}  (ih4 : HL_Mo_manners_4 p l e s m args below meth c g mo a o now dr pa sa iS bu tq rT wT sK sA sB sE oq bS bE bL rp r4 q4) : HL_Mo_manners_4 p l e s m args below meth c g mo a o now dr pa sa iS bu tq rT wT sK sA sB sE oq bS bE bL rp (bd_Mo_manners_4 now  r4) (okb_Mo_manners_4 now  r4  q4) := by
  intro x1p4 x2p4 hok z hz H locs ls hP hD hS hl
  obtain ⟨hx, hb, hr, hml, hown, hlk, hts, hK, hZo, hZ⟩ := id C
  unfold bd_Mo_manners_4 at hz
  unfold okb_Mo_manners_4 at hok
  refine lv_iload_n hx hb d_Mo_manners_4 rfl (lv_at hl 2 rfl) ?_
  refine lv_i2l hx hb d_Mo_manners_5 rfl ?_
  refine lv_aload_n hx hb d_Mo_manners_6 rfl (lv_at hl 0 rfl) ?_
  refine gf C hP 0 0 fkMo rfl (by decide) rfl qf_Mo_7 (gMo_0 _ _) d_Mo_manners_7 ?_
  refine lv_bipush (v := 54) hx hb d_Mo_manners_10 (by decide) ?_
  refine ldL C hP 1 rfl vi_54_215 cn_54 d_Mo_manners_12 ?_
  refine lc_ge (tgt := 39) hx hb d_Mo_manners_13 d_Mo_manners_14 (by decide) (fun c1 => ?_) (fun c1 => ?_)
  · have hz := hz.trans (if_pos c1)
    refine lv_iload_n hx hb d_Mo_manners_39 rfl (lv_at hl 1 rfl) ?_
    exact endI0 C hz hP hS d_Mo_manners_40
  · have hz := hz.trans (if_neg c1)
    have hok := hok.2 c1
    refine lv_iload_n hx hb d_Mo_manners_17 rfl (lv_at hl 1 rfl) ?_
    refine lv_aload_n hx hb d_Mo_manners_18 rfl (lv_at hl 0 rfl) ?_
    refine lv_iload_n hx hb d_Mo_manners_19 rfl (lv_at hl 2 rfl) ?_
    have hs2 := hok.1
    have hok := hok.2
    have hB : SubW g (inW (wMo g mo a o now dr pa sa iS bu tq rT wT sK sA sB sE oq bS bE bL rp)) s (wMo g mo a o now dr pa sa iS bu tq rT wT sK sA sB sE oq bS bE bL rp) _ (List.range _) _ _ := (subF hP hD hS)
    refine goI0 hB (run_v C mf_Mo_isEarliest qm_Mo_403 (c_Mo_isEarliest l g mo a o now dr pa sa iS bu tq rT wT sK sA sB sE oq bS bE bL rp x2p4 hs2) rfl rfl ⟨Nat.le_of_ble_eq_true rfl, Nat.le_of_ble_eq_true rfl⟩ ⟨Nat.le_of_ble_eq_true rfl, Nat.le_of_ble_eq_true rfl⟩ hB rfl rfl hl rfl rfl (Nat.le_of_ble_eq_true rfl) d_Mo_manners_20) (fun y3 ey3 H locs hP hS => ?_)
    have hz := lett_z hz ey3
    have hok := lett_o hok ey3
    refine lv_if_eq (tgt := 30) hx hb d_Mo_manners_23 (by decide) (fun c4 => ?_) (fun c4 => ?_)
    · have hz := hz.trans (if_pos c4)
      have hok := hok.1 c4
      refine lv_iconst (v := 0) hx hb d_Mo_manners_30 (by decide) ?_
      exact k_Mo_manners_31 C ih4 (0 : Int32) hok _ hz _ _ ls hP hD hS (lv_sub hl [0, 2] rfl)
    · have hz := hz.trans (if_neg c4)
      have hok := hok.2 c4
      refine lv_iconst (v := 1) hx hb d_Mo_manners_26 (by decide) ?_
      refine lv_goto (tgt := 31) hx hb d_Mo_manners_27 (by decide) ?_
      exact k_Mo_manners_31 C ih4 (1 : Int32) hok _ hz _ _ ls hP hD hS (lv_sub hl [0, 2] rfl)
theorem k_Mo_manners_4 {p : Program} {l : Launch} {e : Env} {s : State} {m : MethodId} {args : Array Value} {below : List Frame} {meth : Method} {c : Code} {g : GX} {mo : Nat} {a : Nat → Nat} {o : IV} {now : LV} {dr : LV} {pa : LV} {sa : LV} {iS : IV} {bu : IV} {tq : IV} {rT : IV} {wT : IV} {sK : IV} {sA : IV} {sB : IV} {sE : IV} {oq : IV} {bS : IV} {bE : IV} {bL : IV} {rp : IV}  (C : Cx p s m args meth c (inW (wMo g mo a o now dr pa sa iS bu tq rT wT sK sA sB sE oq bS bE bL rp)) g "DecadeBridgeModel" b_Mo_manners (some .int) 3) (f : Nat)  : HL_Mo_manners_4 p l e s m args below meth c g mo a o now dr pa sa iS bu tq rT wT sK sA sB sE oq bS bE bL rp (sp_Mo_manners_4 now  f) (ok_Mo_manners_4 now   f) := by
  induction f with
  | zero => intro x1p4 x2p4 hok; exact False.elim hok
  | succ f ih => exact kb_Mo_manners_4 C  ih
noncomputable def sp_Mo_manners (now : LV) : Int32 := sp_Mo_manners_4 now big (0 : Int32) (0 : Int32)
def ok_Mo_manners (now : LV) : Prop := ok_Mo_manners_4 now big (0 : Int32) (0 : Int32)
set_option maxRecDepth 100000 in
set_option maxHeartbeats 4000000 in
theorem c_Mo_manners (l : Launch) (g : GX) (mo : Nat) (a : Nat → Nat) (o : IV) (now : LV) (dr : LV) (pa : LV) (sa : LV) (iS : IV) (bu : IV) (tq : IV) (rT : IV) (wT : IV) (sK : IV) (sA : IV) (sB : IV) (sE : IV) (oq : IV) (bS : IV) (bE : IV) (bL : IV) (rp : IV)  (hok : ok_Mo_manners now) : Met l y_Mo_manners (wsY y_Mo_manners b_Mo_manners 3 (some .int)) rm_Mo_manners (CP g [.ref mo] (wMo g mo a o now dr pa sa iS bu tq rT wT sK sA sB sE oq bS bE bL rp)) (CI0 g (wMo g mo a o now dr pa sa iS bu tq rT wT sK sA sB sE oq bS bE bL rp) (sp_Mo_manners now)) 0 0 (inW (wMo g mo a o now dr pa sa iS bu tq rT wT sK sA sB sE oq bS bE bL rp)) := by
  refine Met.ofW (cc := b_Mo_manners) (maxL := 3) (ret := (some .int)) pn_Mo rfl ?_
  intro p e s m args below meth c s₁ B hml hv
  obtain ⟨rfl, C, hP, hD, hS⟩ := enter "DecadeBridgeModel" rfl B hml hv
  obtain ⟨hx, hb, hr, hml, hown, hlk, hts, hK, hZo, hZ⟩ := id C
  refine entryW (lv := [(0, .ref mo)]) rfl (Nat.le_of_ble_eq_true rfl) (fun ls hl => ?_)
  obtain ⟨z, hz⟩ : ∃ z, z = sp_Mo_manners now := ⟨_, rfl⟩
  rw [← hz]
  unfold sp_Mo_manners at hz
  unfold ok_Mo_manners at hok
  refine lv_iconst (v := 0) hx hb d_Mo_manners_0 (by decide) ?_
  refine lv_istore_n (lv' := [(1, .int (0 : Int32)), (0, .ref mo)]) hx hb d_Mo_manners_1 rfl hl (by decide) rfl (fun ls hl => ?_)
  refine lv_iconst (v := 0) hx hb d_Mo_manners_2 (by decide) ?_
  refine lv_istore_n (lv' := [(2, .int (0 : Int32)), (1, .int (0 : Int32)), (0, .ref mo)]) hx hb d_Mo_manners_3 rfl hl (by decide) rfl (fun ls hl => ?_)
  exact k_Mo_manners_4 C big (0 : Int32) (0 : Int32) hok _ hz _ _ ls hP hD hS (lv_sub hl [2, 1, 0] rfl)
abbrev rm_Mo_size : Room := { frames := 5, cells := 0, slots := 0, locals := 109 }
noncomputable def sp_Mo_size (p1 : Int32) (o : IV) (now : LV) : Int32 × IV := lett (upd o 6 (0 : Int32)) fun (o_1 : IV) => if p1 = (0 : Int32) then (lett (sp_Mo_decades now) fun (y2 : Int32) => (y2, o_1)) else (if p1 = (1 : Int32) then (((now 1).toInt32, o_1)) else (if p1 = (2 : Int32) then (((now 2).toInt32, o_1)) else (if p1 = (3 : Int32) then (((now (((22 : Int32) + p1) - (3 : Int32)).toNatClampNeg).toInt32, o_1)) else (if p1 = (4 : Int32) then (((now (((22 : Int32) + p1) - (3 : Int32)).toNatClampNeg).toInt32, o_1)) else (if p1 = (5 : Int32) then (((now (((22 : Int32) + p1) - (3 : Int32)).toNatClampNeg).toInt32, o_1)) else (if p1 = (6 : Int32) then (((now (((22 : Int32) + p1) - (3 : Int32)).toNatClampNeg).toInt32, o_1)) else (if p1 = (7 : Int32) then (((now (((22 : Int32) + p1) - (3 : Int32)).toNatClampNeg).toInt32, o_1)) else (if p1 = (8 : Int32) then (((now (((22 : Int32) + p1) - (3 : Int32)).toNatClampNeg).toInt32, o_1)) else (if p1 = (9 : Int32) then (((now 39).toInt32, o_1)) else (if p1 = (10 : Int32) then (((now 29).toInt32, o_1)) else (if p1 = (11 : Int32) then (((now 30).toInt32, o_1)) else (if p1 = (12 : Int32) then (((now 31).toInt32, o_1)) else (if p1 = (13 : Int32) then (((now 32).toInt32, o_1)) else (if p1 = (14 : Int32) then (lett (sp_Mo_setting now) fun (y10 : Int32) => (y10, o_1)) else (if p1 = (15 : Int32) then (((now 41).toInt32, o_1)) else (if p1 = (16 : Int32) then (((now 42).toInt32, o_1)) else (if p1 = (17 : Int32) then (((now 54).toInt32, o_1)) else (if p1 = (18 : Int32) then (lett (sp_Mo_manners now) fun (y12 : Int32) => (y12, o_1)) else (if p1 = (19 : Int32) then ((o_1 5, o_1)) else (lett (sp_Mo_raise (1 : Int32) o_1) fun (y13 : Int32 × IV) => (y13.1, y13.2)))))))))))))))))))))
def ok_Mo_size (p1 : Int32) (o : IV) (now : LV) : Prop := lett (upd o 6 (0 : Int32)) fun (o_1 : IV) => ((p1 = (0 : Int32) → True) ∧ (¬ (p1 = (0 : Int32)) → ((p1 = (1 : Int32) → True) ∧ (¬ (p1 = (1 : Int32)) → ((p1 = (2 : Int32) → True) ∧ (¬ (p1 = (2 : Int32)) → ((p1 = (3 : Int32) → (vp_in (((22 : Int32) + p1) - (3 : Int32)) 215) ∧ True) ∧ (¬ (p1 = (3 : Int32)) → ((p1 = (4 : Int32) → (vp_in (((22 : Int32) + p1) - (3 : Int32)) 215) ∧ True) ∧ (¬ (p1 = (4 : Int32)) → ((p1 = (5 : Int32) → (vp_in (((22 : Int32) + p1) - (3 : Int32)) 215) ∧ True) ∧ (¬ (p1 = (5 : Int32)) → ((p1 = (6 : Int32) → (vp_in (((22 : Int32) + p1) - (3 : Int32)) 215) ∧ True) ∧ (¬ (p1 = (6 : Int32)) → ((p1 = (7 : Int32) → (vp_in (((22 : Int32) + p1) - (3 : Int32)) 215) ∧ True) ∧ (¬ (p1 = (7 : Int32)) → ((p1 = (8 : Int32) → (vp_in (((22 : Int32) + p1) - (3 : Int32)) 215) ∧ True) ∧ (¬ (p1 = (8 : Int32)) → ((p1 = (9 : Int32) → True) ∧ (¬ (p1 = (9 : Int32)) → ((p1 = (10 : Int32) → True) ∧ (¬ (p1 = (10 : Int32)) → ((p1 = (11 : Int32) → True) ∧ (¬ (p1 = (11 : Int32)) → ((p1 = (12 : Int32) → True) ∧ (¬ (p1 = (12 : Int32)) → ((p1 = (13 : Int32) → True) ∧ (¬ (p1 = (13 : Int32)) → ((p1 = (14 : Int32) → (ok_Mo_setting now) ∧ True) ∧ (¬ (p1 = (14 : Int32)) → ((p1 = (15 : Int32) → True) ∧ (¬ (p1 = (15 : Int32)) → ((p1 = (16 : Int32) → True) ∧ (¬ (p1 = (16 : Int32)) → ((p1 = (17 : Int32) → True) ∧ (¬ (p1 = (17 : Int32)) → ((p1 = (18 : Int32) → (ok_Mo_manners now) ∧ True) ∧ (¬ (p1 = (18 : Int32)) → ((p1 = (19 : Int32) → True) ∧ (¬ (p1 = (19 : Int32)) → True))))))))))))))))))))))))))))))))))))))))
set_option maxRecDepth 100000 in
set_option maxHeartbeats 4000000 in
theorem c_Mo_size (l : Launch) (g : GX) (mo : Nat) (a : Nat → Nat) (o : IV) (now : LV) (dr : LV) (pa : LV) (sa : LV) (iS : IV) (bu : IV) (tq : IV) (rT : IV) (wT : IV) (sK : IV) (sA : IV) (sB : IV) (sE : IV) (oq : IV) (bS : IV) (bE : IV) (bL : IV) (rp : IV) (p1 : Int32) (hok : ok_Mo_size p1 o now) : Met l y_Mo_size (wsY y_Mo_size b_Mo_size 2 (some .int)) rm_Mo_size (CP g [.ref mo, .int p1] (wMo g mo a o now dr pa sa iS bu tq rT wT sK sA sB sE oq bS bE bL rp)) (CI g (wMo g mo a o now dr pa sa iS bu tq rT wT sK sA sB sE oq bS bE bL rp) (fun u : IV => wMo g mo a u now dr pa sa iS bu tq rT wT sK sA sB sE oq bS bE bL rp) (sp_Mo_size p1 o now)) 0 0 (inW (wMo g mo a o now dr pa sa iS bu tq rT wT sK sA sB sE oq bS bE bL rp)) := by
  refine Met.ofW (cc := b_Mo_size) (maxL := 2) (ret := (some .int)) pn_Mo rfl ?_
  intro p e s m args below meth c s₁ B hml hv
  obtain ⟨rfl, C, hP, hD, hS⟩ := enter "DecadeBridgeModel" rfl B hml hv
  obtain ⟨hx, hb, hr, hml, hown, hlk, hts, hK, hZo, hZ⟩ := id C
  refine entryW (lv := [(0, .ref mo), (1, .int p1)]) rfl (Nat.le_of_ble_eq_true rfl) (fun ls hl => ?_)
  obtain ⟨z, hz⟩ : ∃ z, z = sp_Mo_size p1 o now := ⟨_, rfl⟩
  rw [← hz]
  unfold sp_Mo_size at hz
  unfold ok_Mo_size at hok
  refine lv_aload_n hx hb d_Mo_size_0 rfl (lv_at hl 0 rfl) ?_
  refine lv_iconst (v := 0) hx hb d_Mo_size_1 (by decide) ?_
  refine pfI C hP hD hS 0 6 fkMo rfl (by decide) rfl qf_Mo_107 rfl rfl rfl (Nat.le_of_ble_eq_true rfl) (ff := fun o => fMo a o) (sMo_6 _ _ _) d_Mo_size_2 (fun o_1 eo_1 H locs hP hD hS => ?_)
  have hP : va_P g.1 vwCl (wMo g mo a o_1 now dr pa sa iS bu tq rT wT sK sA sB sE oq bS bE bL rp) H := hP
  have hD : va_D (inW (wMo g mo a o now dr pa sa iS bu tq rT wT sK sA sB sE oq bS bE bL rp)) (wMo g mo a o_1 now dr pa sa iS bu tq rT wT sK sA sB sE oq bS bE bL rp) := hD
  have hz := lett_z hz eo_1
  have hok := lett_o hok eo_1
  refine lv_iload_n hx hb d_Mo_size_5 rfl (lv_at hl 1 rfl) ?_
  by_cases c14_0 : p1 = (0 : Int32)
  · have hz := hz.trans (if_pos c14_0)
    have hok := hok.1 c14_0
    refine lv_tableIn (x := p1) (off := 94) (tgt := 100) hx hb d_Mo_size_6 (by rw [c14_0]; decide) (by rw [c14_0]; decide) (by rw [c14_0]; rfl) (by decide) ?_
    refine lv_aload_n hx hb d_Mo_size_100 rfl (lv_at hl 0 rfl) ?_
    have hB : SubW g (inW (wMo g mo a o now dr pa sa iS bu tq rT wT sK sA sB sE oq bS bE bL rp)) s (wMo g mo a o_1 now dr pa sa iS bu tq rT wT sK sA sB sE oq bS bE bL rp) _ (List.range _) _ _ := (subF hP hD hS)
    refine goI0 hB (run_v C mf_Mo_decades qm_Mo_130 (c_Mo_decades l g mo a o_1 now dr pa sa iS bu tq rT wT sK sA sB sE oq bS bE bL rp) rfl rfl ⟨Nat.le_of_ble_eq_true rfl, Nat.le_of_ble_eq_true rfl⟩ ⟨Nat.le_of_ble_eq_true rfl, Nat.le_of_ble_eq_true rfl⟩ hB rfl rfl hl rfl rfl (Nat.le_of_ble_eq_true rfl) d_Mo_size_101) (fun y2 ey2 H locs hP hS => ?_)
    have hz := lett_z hz ey2
    exact endI1 C hz hP hS d_Mo_size_104
  have hz := hz.trans (if_neg c14_0)
  have hok := hok.2 c14_0
  by_cases c14_1 : p1 = (1 : Int32)
  · have hz := hz.trans (if_pos c14_1)
    have hok := hok.1 c14_1
    refine lv_tableIn (x := p1) (off := 99) (tgt := 105) hx hb d_Mo_size_6 (by rw [c14_1]; decide) (by rw [c14_1]; decide) (by rw [c14_1]; rfl) (by decide) ?_
    refine lv_aload_n hx hb d_Mo_size_105 rfl (lv_at hl 0 rfl) ?_
    refine gf C hP 0 0 fkMo rfl (by decide) rfl qf_Mo_7 (gMo_0 _ _) d_Mo_size_106 ?_
    refine lv_iconst (v := 1) hx hb d_Mo_size_109 (by decide) ?_
    refine ldL C hP 1 rfl vi_1_215 cn_1 d_Mo_size_110 ?_
    refine lv_l2i hx hb d_Mo_size_111 rfl ?_
    exact endI1 C hz hP hS d_Mo_size_112
  have hz := hz.trans (if_neg c14_1)
  have hok := hok.2 c14_1
  by_cases c14_2 : p1 = (2 : Int32)
  · have hz := hz.trans (if_pos c14_2)
    have hok := hok.1 c14_2
    refine lv_tableIn (x := p1) (off := 107) (tgt := 113) hx hb d_Mo_size_6 (by rw [c14_2]; decide) (by rw [c14_2]; decide) (by rw [c14_2]; rfl) (by decide) ?_
    refine lv_aload_n hx hb d_Mo_size_113 rfl (lv_at hl 0 rfl) ?_
    refine gf C hP 0 0 fkMo rfl (by decide) rfl qf_Mo_7 (gMo_0 _ _) d_Mo_size_114 ?_
    refine lv_iconst (v := 2) hx hb d_Mo_size_117 (by decide) ?_
    refine ldL C hP 1 rfl vi_2_215 cn_2 d_Mo_size_118 ?_
    refine lv_l2i hx hb d_Mo_size_119 rfl ?_
    exact endI1 C hz hP hS d_Mo_size_120
  have hz := hz.trans (if_neg c14_2)
  have hok := hok.2 c14_2
  by_cases c14_3 : p1 = (3 : Int32)
  · have hz := hz.trans (if_pos c14_3)
    have hok := hok.1 c14_3
    refine lv_tableIn (x := p1) (off := 115) (tgt := 121) hx hb d_Mo_size_6 (by rw [c14_3]; decide) (by rw [c14_3]; decide) (by rw [c14_3]; rfl) (by decide) ?_
    refine lv_aload_n hx hb d_Mo_size_121 rfl (lv_at hl 0 rfl) ?_
    refine gf C hP 0 0 fkMo rfl (by decide) rfl qf_Mo_7 (gMo_0 _ _) d_Mo_size_122 ?_
    refine lv_bipush (v := 22) hx hb d_Mo_size_125 (by decide) ?_
    refine lv_iload_n hx hb d_Mo_size_127 rfl (lv_at hl 1 rfl) ?_
    refine lv_iadd hx hb d_Mo_size_128 ?_
    refine lv_iconst (v := 3) hx hb d_Mo_size_129 (by decide) ?_
    refine lv_isub hx hb d_Mo_size_130 ?_
    have hs3 := hok.1
    have hok := hok.2
    refine ldL C hP 1 rfl hs3 rfl d_Mo_size_131 ?_
    refine lv_l2i hx hb d_Mo_size_132 rfl ?_
    exact endI1 C hz hP hS d_Mo_size_133
  have hz := hz.trans (if_neg c14_3)
  have hok := hok.2 c14_3
  by_cases c14_4 : p1 = (4 : Int32)
  · have hz := hz.trans (if_pos c14_4)
    have hok := hok.1 c14_4
    refine lv_tableIn (x := p1) (off := 115) (tgt := 121) hx hb d_Mo_size_6 (by rw [c14_4]; decide) (by rw [c14_4]; decide) (by rw [c14_4]; rfl) (by decide) ?_
    refine lv_aload_n hx hb d_Mo_size_121 rfl (lv_at hl 0 rfl) ?_
    refine gf C hP 0 0 fkMo rfl (by decide) rfl qf_Mo_7 (gMo_0 _ _) d_Mo_size_122 ?_
    refine lv_bipush (v := 22) hx hb d_Mo_size_125 (by decide) ?_
    refine lv_iload_n hx hb d_Mo_size_127 rfl (lv_at hl 1 rfl) ?_
    refine lv_iadd hx hb d_Mo_size_128 ?_
    refine lv_iconst (v := 3) hx hb d_Mo_size_129 (by decide) ?_
    refine lv_isub hx hb d_Mo_size_130 ?_
    have hs4 := hok.1
    have hok := hok.2
    refine ldL C hP 1 rfl hs4 rfl d_Mo_size_131 ?_
    refine lv_l2i hx hb d_Mo_size_132 rfl ?_
    exact endI1 C hz hP hS d_Mo_size_133
  have hz := hz.trans (if_neg c14_4)
  have hok := hok.2 c14_4
  by_cases c14_5 : p1 = (5 : Int32)
  · have hz := hz.trans (if_pos c14_5)
    have hok := hok.1 c14_5
    refine lv_tableIn (x := p1) (off := 115) (tgt := 121) hx hb d_Mo_size_6 (by rw [c14_5]; decide) (by rw [c14_5]; decide) (by rw [c14_5]; rfl) (by decide) ?_
    refine lv_aload_n hx hb d_Mo_size_121 rfl (lv_at hl 0 rfl) ?_
    refine gf C hP 0 0 fkMo rfl (by decide) rfl qf_Mo_7 (gMo_0 _ _) d_Mo_size_122 ?_
    refine lv_bipush (v := 22) hx hb d_Mo_size_125 (by decide) ?_
    refine lv_iload_n hx hb d_Mo_size_127 rfl (lv_at hl 1 rfl) ?_
    refine lv_iadd hx hb d_Mo_size_128 ?_
    refine lv_iconst (v := 3) hx hb d_Mo_size_129 (by decide) ?_
    refine lv_isub hx hb d_Mo_size_130 ?_
    have hs5 := hok.1
    have hok := hok.2
    refine ldL C hP 1 rfl hs5 rfl d_Mo_size_131 ?_
    refine lv_l2i hx hb d_Mo_size_132 rfl ?_
    exact endI1 C hz hP hS d_Mo_size_133
  have hz := hz.trans (if_neg c14_5)
  have hok := hok.2 c14_5
  by_cases c14_6 : p1 = (6 : Int32)
  · have hz := hz.trans (if_pos c14_6)
    have hok := hok.1 c14_6
    refine lv_tableIn (x := p1) (off := 115) (tgt := 121) hx hb d_Mo_size_6 (by rw [c14_6]; decide) (by rw [c14_6]; decide) (by rw [c14_6]; rfl) (by decide) ?_
    refine lv_aload_n hx hb d_Mo_size_121 rfl (lv_at hl 0 rfl) ?_
    refine gf C hP 0 0 fkMo rfl (by decide) rfl qf_Mo_7 (gMo_0 _ _) d_Mo_size_122 ?_
    refine lv_bipush (v := 22) hx hb d_Mo_size_125 (by decide) ?_
    refine lv_iload_n hx hb d_Mo_size_127 rfl (lv_at hl 1 rfl) ?_
    refine lv_iadd hx hb d_Mo_size_128 ?_
    refine lv_iconst (v := 3) hx hb d_Mo_size_129 (by decide) ?_
    refine lv_isub hx hb d_Mo_size_130 ?_
    have hs6 := hok.1
    have hok := hok.2
    refine ldL C hP 1 rfl hs6 rfl d_Mo_size_131 ?_
    refine lv_l2i hx hb d_Mo_size_132 rfl ?_
    exact endI1 C hz hP hS d_Mo_size_133
  have hz := hz.trans (if_neg c14_6)
  have hok := hok.2 c14_6
  by_cases c14_7 : p1 = (7 : Int32)
  · have hz := hz.trans (if_pos c14_7)
    have hok := hok.1 c14_7
    refine lv_tableIn (x := p1) (off := 115) (tgt := 121) hx hb d_Mo_size_6 (by rw [c14_7]; decide) (by rw [c14_7]; decide) (by rw [c14_7]; rfl) (by decide) ?_
    refine lv_aload_n hx hb d_Mo_size_121 rfl (lv_at hl 0 rfl) ?_
    refine gf C hP 0 0 fkMo rfl (by decide) rfl qf_Mo_7 (gMo_0 _ _) d_Mo_size_122 ?_
    refine lv_bipush (v := 22) hx hb d_Mo_size_125 (by decide) ?_
    refine lv_iload_n hx hb d_Mo_size_127 rfl (lv_at hl 1 rfl) ?_
    refine lv_iadd hx hb d_Mo_size_128 ?_
    refine lv_iconst (v := 3) hx hb d_Mo_size_129 (by decide) ?_
    refine lv_isub hx hb d_Mo_size_130 ?_
    have hs7 := hok.1
    have hok := hok.2
    refine ldL C hP 1 rfl hs7 rfl d_Mo_size_131 ?_
    refine lv_l2i hx hb d_Mo_size_132 rfl ?_
    exact endI1 C hz hP hS d_Mo_size_133
  have hz := hz.trans (if_neg c14_7)
  have hok := hok.2 c14_7
  by_cases c14_8 : p1 = (8 : Int32)
  · have hz := hz.trans (if_pos c14_8)
    have hok := hok.1 c14_8
    refine lv_tableIn (x := p1) (off := 115) (tgt := 121) hx hb d_Mo_size_6 (by rw [c14_8]; decide) (by rw [c14_8]; decide) (by rw [c14_8]; rfl) (by decide) ?_
    refine lv_aload_n hx hb d_Mo_size_121 rfl (lv_at hl 0 rfl) ?_
    refine gf C hP 0 0 fkMo rfl (by decide) rfl qf_Mo_7 (gMo_0 _ _) d_Mo_size_122 ?_
    refine lv_bipush (v := 22) hx hb d_Mo_size_125 (by decide) ?_
    refine lv_iload_n hx hb d_Mo_size_127 rfl (lv_at hl 1 rfl) ?_
    refine lv_iadd hx hb d_Mo_size_128 ?_
    refine lv_iconst (v := 3) hx hb d_Mo_size_129 (by decide) ?_
    refine lv_isub hx hb d_Mo_size_130 ?_
    have hs8 := hok.1
    have hok := hok.2
    refine ldL C hP 1 rfl hs8 rfl d_Mo_size_131 ?_
    refine lv_l2i hx hb d_Mo_size_132 rfl ?_
    exact endI1 C hz hP hS d_Mo_size_133
  have hz := hz.trans (if_neg c14_8)
  have hok := hok.2 c14_8
  by_cases c14_9 : p1 = (9 : Int32)
  · have hz := hz.trans (if_pos c14_9)
    have hok := hok.1 c14_9
    refine lv_tableIn (x := p1) (off := 128) (tgt := 134) hx hb d_Mo_size_6 (by rw [c14_9]; decide) (by rw [c14_9]; decide) (by rw [c14_9]; rfl) (by decide) ?_
    refine lv_aload_n hx hb d_Mo_size_134 rfl (lv_at hl 0 rfl) ?_
    refine gf C hP 0 0 fkMo rfl (by decide) rfl qf_Mo_7 (gMo_0 _ _) d_Mo_size_135 ?_
    refine lv_bipush (v := 39) hx hb d_Mo_size_138 (by decide) ?_
    refine ldL C hP 1 rfl vi_39_215 cn_39 d_Mo_size_140 ?_
    refine lv_l2i hx hb d_Mo_size_141 rfl ?_
    exact endI1 C hz hP hS d_Mo_size_142
  have hz := hz.trans (if_neg c14_9)
  have hok := hok.2 c14_9
  by_cases c14_10 : p1 = (10 : Int32)
  · have hz := hz.trans (if_pos c14_10)
    have hok := hok.1 c14_10
    refine lv_tableIn (x := p1) (off := 137) (tgt := 143) hx hb d_Mo_size_6 (by rw [c14_10]; decide) (by rw [c14_10]; decide) (by rw [c14_10]; rfl) (by decide) ?_
    refine lv_aload_n hx hb d_Mo_size_143 rfl (lv_at hl 0 rfl) ?_
    refine gf C hP 0 0 fkMo rfl (by decide) rfl qf_Mo_7 (gMo_0 _ _) d_Mo_size_144 ?_
    refine lv_bipush (v := 29) hx hb d_Mo_size_147 (by decide) ?_
    refine ldL C hP 1 rfl vi_29_215 cn_29 d_Mo_size_149 ?_
    refine lv_l2i hx hb d_Mo_size_150 rfl ?_
    exact endI1 C hz hP hS d_Mo_size_151
  have hz := hz.trans (if_neg c14_10)
  have hok := hok.2 c14_10
  by_cases c14_11 : p1 = (11 : Int32)
  · have hz := hz.trans (if_pos c14_11)
    have hok := hok.1 c14_11
    refine lv_tableIn (x := p1) (off := 146) (tgt := 152) hx hb d_Mo_size_6 (by rw [c14_11]; decide) (by rw [c14_11]; decide) (by rw [c14_11]; rfl) (by decide) ?_
    refine lv_aload_n hx hb d_Mo_size_152 rfl (lv_at hl 0 rfl) ?_
    refine gf C hP 0 0 fkMo rfl (by decide) rfl qf_Mo_7 (gMo_0 _ _) d_Mo_size_153 ?_
    refine lv_bipush (v := 30) hx hb d_Mo_size_156 (by decide) ?_
    refine ldL C hP 1 rfl vi_30_215 cn_30 d_Mo_size_158 ?_
    refine lv_l2i hx hb d_Mo_size_159 rfl ?_
    exact endI1 C hz hP hS d_Mo_size_160
  have hz := hz.trans (if_neg c14_11)
  have hok := hok.2 c14_11
  by_cases c14_12 : p1 = (12 : Int32)
  · have hz := hz.trans (if_pos c14_12)
    have hok := hok.1 c14_12
    refine lv_tableIn (x := p1) (off := 155) (tgt := 161) hx hb d_Mo_size_6 (by rw [c14_12]; decide) (by rw [c14_12]; decide) (by rw [c14_12]; rfl) (by decide) ?_
    refine lv_aload_n hx hb d_Mo_size_161 rfl (lv_at hl 0 rfl) ?_
    refine gf C hP 0 0 fkMo rfl (by decide) rfl qf_Mo_7 (gMo_0 _ _) d_Mo_size_162 ?_
    refine lv_bipush (v := 31) hx hb d_Mo_size_165 (by decide) ?_
    refine ldL C hP 1 rfl vi_31_215 cn_31 d_Mo_size_167 ?_
    refine lv_l2i hx hb d_Mo_size_168 rfl ?_
    exact endI1 C hz hP hS d_Mo_size_169
  have hz := hz.trans (if_neg c14_12)
  have hok := hok.2 c14_12
  by_cases c14_13 : p1 = (13 : Int32)
  · have hz := hz.trans (if_pos c14_13)
    have hok := hok.1 c14_13
    refine lv_tableIn (x := p1) (off := 164) (tgt := 170) hx hb d_Mo_size_6 (by rw [c14_13]; decide) (by rw [c14_13]; decide) (by rw [c14_13]; rfl) (by decide) ?_
    refine lv_aload_n hx hb d_Mo_size_170 rfl (lv_at hl 0 rfl) ?_
    refine gf C hP 0 0 fkMo rfl (by decide) rfl qf_Mo_7 (gMo_0 _ _) d_Mo_size_171 ?_
    refine lv_bipush (v := 32) hx hb d_Mo_size_174 (by decide) ?_
    refine ldL C hP 1 rfl vi_32_215 cn_32 d_Mo_size_176 ?_
    refine lv_l2i hx hb d_Mo_size_177 rfl ?_
    exact endI1 C hz hP hS d_Mo_size_178
  have hz := hz.trans (if_neg c14_13)
  have hok := hok.2 c14_13
  by_cases c14_14 : p1 = (14 : Int32)
  · have hz := hz.trans (if_pos c14_14)
    have hok := hok.1 c14_14
    refine lv_tableIn (x := p1) (off := 173) (tgt := 179) hx hb d_Mo_size_6 (by rw [c14_14]; decide) (by rw [c14_14]; decide) (by rw [c14_14]; rfl) (by decide) ?_
    refine lv_aload_n hx hb d_Mo_size_179 rfl (lv_at hl 0 rfl) ?_
    have hs9 := hok.1
    have hok := hok.2
    have hB : SubW g (inW (wMo g mo a o now dr pa sa iS bu tq rT wT sK sA sB sE oq bS bE bL rp)) s (wMo g mo a o_1 now dr pa sa iS bu tq rT wT sK sA sB sE oq bS bE bL rp) _ (List.range _) _ _ := (subF hP hD hS)
    refine goI0 hB (run_v C mf_Mo_setting qm_Mo_176 (c_Mo_setting l g mo a o_1 now dr pa sa iS bu tq rT wT sK sA sB sE oq bS bE bL rp hs9) rfl rfl ⟨Nat.le_of_ble_eq_true rfl, Nat.le_of_ble_eq_true rfl⟩ ⟨Nat.le_of_ble_eq_true rfl, Nat.le_of_ble_eq_true rfl⟩ hB rfl rfl hl rfl rfl (Nat.le_of_ble_eq_true rfl) d_Mo_size_180) (fun y10 ey10 H locs hP hS => ?_)
    have hz := lett_z hz ey10
    exact endI1 C hz hP hS d_Mo_size_183
  have hz := hz.trans (if_neg c14_14)
  have hok := hok.2 c14_14
  by_cases c14_15 : p1 = (15 : Int32)
  · have hz := hz.trans (if_pos c14_15)
    have hok := hok.1 c14_15
    refine lv_tableIn (x := p1) (off := 178) (tgt := 184) hx hb d_Mo_size_6 (by rw [c14_15]; decide) (by rw [c14_15]; decide) (by rw [c14_15]; rfl) (by decide) ?_
    refine lv_aload_n hx hb d_Mo_size_184 rfl (lv_at hl 0 rfl) ?_
    refine gf C hP 0 0 fkMo rfl (by decide) rfl qf_Mo_7 (gMo_0 _ _) d_Mo_size_185 ?_
    refine lv_bipush (v := 41) hx hb d_Mo_size_188 (by decide) ?_
    refine ldL C hP 1 rfl vi_41_215 cn_41 d_Mo_size_190 ?_
    refine lv_l2i hx hb d_Mo_size_191 rfl ?_
    exact endI1 C hz hP hS d_Mo_size_192
  have hz := hz.trans (if_neg c14_15)
  have hok := hok.2 c14_15
  by_cases c14_16 : p1 = (16 : Int32)
  · have hz := hz.trans (if_pos c14_16)
    have hok := hok.1 c14_16
    refine lv_tableIn (x := p1) (off := 187) (tgt := 193) hx hb d_Mo_size_6 (by rw [c14_16]; decide) (by rw [c14_16]; decide) (by rw [c14_16]; rfl) (by decide) ?_
    refine lv_aload_n hx hb d_Mo_size_193 rfl (lv_at hl 0 rfl) ?_
    refine gf C hP 0 0 fkMo rfl (by decide) rfl qf_Mo_7 (gMo_0 _ _) d_Mo_size_194 ?_
    refine lv_bipush (v := 42) hx hb d_Mo_size_197 (by decide) ?_
    refine ldL C hP 1 rfl vi_42_215 cn_42 d_Mo_size_199 ?_
    refine lv_l2i hx hb d_Mo_size_200 rfl ?_
    exact endI1 C hz hP hS d_Mo_size_201
  have hz := hz.trans (if_neg c14_16)
  have hok := hok.2 c14_16
  by_cases c14_17 : p1 = (17 : Int32)
  · have hz := hz.trans (if_pos c14_17)
    have hok := hok.1 c14_17
    refine lv_tableIn (x := p1) (off := 196) (tgt := 202) hx hb d_Mo_size_6 (by rw [c14_17]; decide) (by rw [c14_17]; decide) (by rw [c14_17]; rfl) (by decide) ?_
    refine lv_aload_n hx hb d_Mo_size_202 rfl (lv_at hl 0 rfl) ?_
    refine gf C hP 0 0 fkMo rfl (by decide) rfl qf_Mo_7 (gMo_0 _ _) d_Mo_size_203 ?_
    refine lv_bipush (v := 54) hx hb d_Mo_size_206 (by decide) ?_
    refine ldL C hP 1 rfl vi_54_215 cn_54 d_Mo_size_208 ?_
    refine lv_l2i hx hb d_Mo_size_209 rfl ?_
    exact endI1 C hz hP hS d_Mo_size_210
  have hz := hz.trans (if_neg c14_17)
  have hok := hok.2 c14_17
  by_cases c14_18 : p1 = (18 : Int32)
  · have hz := hz.trans (if_pos c14_18)
    have hok := hok.1 c14_18
    refine lv_tableIn (x := p1) (off := 205) (tgt := 211) hx hb d_Mo_size_6 (by rw [c14_18]; decide) (by rw [c14_18]; decide) (by rw [c14_18]; rfl) (by decide) ?_
    refine lv_aload_n hx hb d_Mo_size_211 rfl (lv_at hl 0 rfl) ?_
    have hs11 := hok.1
    have hok := hok.2
    have hB : SubW g (inW (wMo g mo a o now dr pa sa iS bu tq rT wT sK sA sB sE oq bS bE bL rp)) s (wMo g mo a o_1 now dr pa sa iS bu tq rT wT sK sA sB sE oq bS bE bL rp) _ (List.range _) _ _ := (subF hP hD hS)
    refine goI0 hB (run_v C mf_Mo_manners qm_Mo_417 (c_Mo_manners l g mo a o_1 now dr pa sa iS bu tq rT wT sK sA sB sE oq bS bE bL rp hs11) rfl rfl ⟨Nat.le_of_ble_eq_true rfl, Nat.le_of_ble_eq_true rfl⟩ ⟨Nat.le_of_ble_eq_true rfl, Nat.le_of_ble_eq_true rfl⟩ hB rfl rfl hl rfl rfl (Nat.le_of_ble_eq_true rfl) d_Mo_size_212) (fun y12 ey12 H locs hP hS => ?_)
    have hz := lett_z hz ey12
    exact endI1 C hz hP hS d_Mo_size_215
  have hz := hz.trans (if_neg c14_18)
  have hok := hok.2 c14_18
  by_cases c14_19 : p1 = (19 : Int32)
  · have hz := hz.trans (if_pos c14_19)
    have hok := hok.1 c14_19
    refine lv_tableIn (x := p1) (off := 210) (tgt := 216) hx hb d_Mo_size_6 (by rw [c14_19]; decide) (by rw [c14_19]; decide) (by rw [c14_19]; rfl) (by decide) ?_
    refine lv_aload_n hx hb d_Mo_size_216 rfl (lv_at hl 0 rfl) ?_
    refine gf C hP 0 5 fkMo rfl (by decide) rfl qf_Mo_400 (gMo_5 _ _) d_Mo_size_217 ?_
    exact endI1 C hz hP hS d_Mo_size_220
  have hz := hz.trans (if_neg c14_19)
  have hok := hok.2 c14_19
  refine lv_tableOut (x := p1) (tgt := 221) hx hb d_Mo_size_6 (tswL (x := p1) (lo := 0) (hi := 19) 20 [(0 : Int32), (1 : Int32), (2 : Int32), (3 : Int32), (4 : Int32), (5 : Int32), (6 : Int32), (7 : Int32), (8 : Int32), (9 : Int32), (10 : Int32), (11 : Int32), (12 : Int32), (13 : Int32), (14 : Int32), (15 : Int32), (16 : Int32), (17 : Int32), (18 : Int32), (19 : Int32)] (by decide) (by decide) (List.forall_mem_cons.mpr ⟨c14_0, List.forall_mem_cons.mpr ⟨c14_1, List.forall_mem_cons.mpr ⟨c14_2, List.forall_mem_cons.mpr ⟨c14_3, List.forall_mem_cons.mpr ⟨c14_4, List.forall_mem_cons.mpr ⟨c14_5, List.forall_mem_cons.mpr ⟨c14_6, List.forall_mem_cons.mpr ⟨c14_7, List.forall_mem_cons.mpr ⟨c14_8, List.forall_mem_cons.mpr ⟨c14_9, List.forall_mem_cons.mpr ⟨c14_10, List.forall_mem_cons.mpr ⟨c14_11, List.forall_mem_cons.mpr ⟨c14_12, List.forall_mem_cons.mpr ⟨c14_13, List.forall_mem_cons.mpr ⟨c14_14, List.forall_mem_cons.mpr ⟨c14_15, List.forall_mem_cons.mpr ⟨c14_16, List.forall_mem_cons.mpr ⟨c14_17, List.forall_mem_cons.mpr ⟨c14_18, List.forall_mem_cons.mpr ⟨c14_19, fun _ h => absurd h List.not_mem_nil⟩⟩⟩⟩⟩⟩⟩⟩⟩⟩⟩⟩⟩⟩⟩⟩⟩⟩⟩⟩)) (by decide) ?_
  refine lv_aload_n hx hb d_Mo_size_221 rfl (lv_at hl 0 rfl) ?_
  refine lv_iconst (v := 1) hx hb d_Mo_size_222 (by decide) ?_
  have hB : SubW g (inW (wMo g mo a o now dr pa sa iS bu tq rT wT sK sA sB sE oq bS bE bL rp)) s (wMo g mo a o_1 now dr pa sa iS bu tq rT wT sK sA sB sE oq bS bE bL rp) _ (List.range _) _ _ := (subF hP hD hS)
  refine goIF hB (run_v C mf_Mo_raise qm_Mo_420 (c_Mo_raise l g mo a o_1 now dr pa sa iS bu tq rT wT sK sA sB sE oq bS bE bL rp (1 : Int32)) rfl rfl ⟨Nat.le_of_ble_eq_true rfl, Nat.le_of_ble_eq_true rfl⟩ ⟨Nat.le_of_ble_eq_true rfl, Nat.le_of_ble_eq_true rfl⟩ hB rfl rfl hl rfl rfl (Nat.le_of_ble_eq_true rfl) d_Mo_size_223) (fun _ => rfl) (fun y13 ey13 H locs hP hD hS => ?_)
  have hP : va_P g.1 vwCl (wMo g mo a y13.2 now dr pa sa iS bu tq rT wT sK sA sB sE oq bS bE bL rp) H := hP
  have hD : va_D (inW (wMo g mo a o now dr pa sa iS bu tq rT wT sK sA sB sE oq bS bE bL rp)) (wMo g mo a y13.2 now dr pa sa iS bu tq rT wT sK sA sB sE oq bS bE bL rp) := hD
  have hz := lett_z hz ey13
  exact endI1 C hz hP hS d_Mo_size_226
abbrev rm_Mo_isManner : Room := { frames := 5, cells := 0, slots := 0, locals := 109 }
noncomputable def sp_Mo_isManner (p1 : Int32) (now : LV) : Int32 := lett (sp_Mo_manners now) fun (y2 : Int32) => lett (sp_Mo_in p1.toInt64 (0 : Int64) (y2.toInt64 - (1 : Int64))) fun (y3 : Int32) => y3
def ok_Mo_isManner (p1 : Int32) (now : LV) : Prop := (ok_Mo_manners now) ∧ lett (sp_Mo_manners now) fun (y2 : Int32) => lett (sp_Mo_in p1.toInt64 (0 : Int64) (y2.toInt64 - (1 : Int64))) fun (y3 : Int32) => (isB y3) ∧ True
set_option maxRecDepth 100000 in
set_option maxHeartbeats 4000000 in
theorem c_Mo_isManner (l : Launch) (g : GX) (mo : Nat) (a : Nat → Nat) (o : IV) (now : LV) (dr : LV) (pa : LV) (sa : LV) (iS : IV) (bu : IV) (tq : IV) (rT : IV) (wT : IV) (sK : IV) (sA : IV) (sB : IV) (sE : IV) (oq : IV) (bS : IV) (bE : IV) (bL : IV) (rp : IV) (p1 : Int32) (hok : ok_Mo_isManner p1 now) : Met l y_Mo_isManner (wsY y_Mo_isManner b_Mo_isManner 2 (some .boolean)) rm_Mo_isManner (CP g [.ref mo, .int p1] (wMo g mo a o now dr pa sa iS bu tq rT wT sK sA sB sE oq bS bE bL rp)) (CI0 g (wMo g mo a o now dr pa sa iS bu tq rT wT sK sA sB sE oq bS bE bL rp) (sp_Mo_isManner p1 now)) 0 0 (inW (wMo g mo a o now dr pa sa iS bu tq rT wT sK sA sB sE oq bS bE bL rp)) := by
  refine Met.ofW (cc := b_Mo_isManner) (maxL := 2) (ret := (some .boolean)) pn_Mo rfl ?_
  intro p e s m args below meth c s₁ B hml hv
  obtain ⟨rfl, C, hP, hD, hS⟩ := enter "DecadeBridgeModel" rfl B hml hv
  obtain ⟨hx, hb, hr, hml, hown, hlk, hts, hK, hZo, hZ⟩ := id C
  refine entryW (lv := [(0, .ref mo), (1, .int p1)]) rfl (Nat.le_of_ble_eq_true rfl) (fun ls hl => ?_)
  obtain ⟨z, hz⟩ : ∃ z, z = sp_Mo_isManner p1 now := ⟨_, rfl⟩
  rw [← hz]
  unfold sp_Mo_isManner at hz
  unfold ok_Mo_isManner at hok
  refine lv_iload_n hx hb d_Mo_isManner_0 rfl (lv_at hl 1 rfl) ?_
  refine lv_i2l hx hb d_Mo_isManner_1 rfl ?_
  refine lv_lconst (v := 0) hx hb d_Mo_isManner_2 (by decide) ?_
  refine lv_aload_n hx hb d_Mo_isManner_3 rfl (lv_at hl 0 rfl) ?_
  have hs1 := hok.1
  have hok := hok.2
  have hB : SubW g (inW (wMo g mo a o now dr pa sa iS bu tq rT wT sK sA sB sE oq bS bE bL rp)) s (wMo g mo a o now dr pa sa iS bu tq rT wT sK sA sB sE oq bS bE bL rp) _ (List.range _) _ _ := (subF hP hD hS)
  refine goI0 hB (run_v C mf_Mo_manners qm_Mo_417 (c_Mo_manners l g mo a o now dr pa sa iS bu tq rT wT sK sA sB sE oq bS bE bL rp hs1) rfl rfl ⟨Nat.le_of_ble_eq_true rfl, Nat.le_of_ble_eq_true rfl⟩ ⟨Nat.le_of_ble_eq_true rfl, Nat.le_of_ble_eq_true rfl⟩ hB rfl rfl hl rfl rfl (Nat.le_of_ble_eq_true rfl) d_Mo_isManner_4) (fun y2 ey2 H locs hP hS => ?_)
  have hz := lett_z hz ey2
  have hok := lett_o hok ey2
  refine lv_i2l hx hb d_Mo_isManner_7 rfl ?_
  refine lv_lconst (v := 1) hx hb d_Mo_isManner_8 (by decide) ?_
  refine lv_lsub hx hb d_Mo_isManner_9 ?_
  have hB : SubW g (inW (wMo g mo a o now dr pa sa iS bu tq rT wT sK sA sB sE oq bS bE bL rp)) s (wMo g mo a o now dr pa sa iS bu tq rT wT sK sA sB sE oq bS bE bL rp) _ (List.range _) _ _ := (subF hP hD hS)
  refine goI0 hB (run_s C mf_Mo_in qm_Mo_118 (c_Mo_in l g mo a o now dr pa sa iS bu tq rT wT sK sA sB sE oq bS bE bL rp p1.toInt64 (0 : Int64) (y2.toInt64 - (1 : Int64))) rfl rfl ⟨Nat.le_of_ble_eq_true rfl, Nat.le_of_ble_eq_true rfl⟩ ⟨Nat.le_of_ble_eq_true rfl, Nat.le_of_ble_eq_true rfl⟩ hB hl rfl rfl (Nat.le_of_ble_eq_true rfl) d_Mo_isManner_10) (fun y3 ey3 H locs hP hS => ?_)
  have hz := lett_z hz ey3
  have hok := lett_o hok ey3
  have hs4 := hok.1
  have hok := hok.2
  exact endZ0 C hz hP hS (isB_nar hs4) d_Mo_isManner_13
abbrev rm_Mo_manner : Room := { frames := 6, cells := 0, slots := 0, locals := 130 }
def HL_Mo_manner_30 (p : Program) (l : Launch) (e : Env) (s : State) (m : MethodId) (args : Array Value) (below : List Frame) (meth : Method) (c : Code) (g : GX) (mo : Nat) (a : Nat → Nat) (ws0 : va_W) (o : IV) (now : LV) (dr : LV) (pa : LV) (sa : LV) (iS : IV) (bu : IV) (tq : IV) (rT : IV) (wT : IV) (sK : IV) (sA : IV) (sB : IV) (sE : IV) (oq : IV) (bS : IV) (bE : IV) (bL : IV) (rp : IV) (p1 : Int32) (p2 : Int32) (sp : Int32 → (Int32 × IV)) (ok : Int32 → Prop) : Prop := ∀ (t1p30 : Int32), ok t1p30 → ∀ z : (Int32 × IV), z = sp t1p30 → ∀ (H : Heap) (locs : List Loc) (ls : Array Slot), va_P g.1 vwCl (wMo g mo a o now dr pa sa iS bu tq rT wT sK sA sB sE oq bS bE bL rp) H → va_D (inW ws0) (wMo g mo a o now dr pa sa iS bu tq rT wT sK sA sB sE oq bS bE bL rp) → va_S (inW ws0) s.heap H locs → lv_has ls 4 [(0, .ref mo), (1, .int p1), (2, .int p2)] → W p l e rm_Mo_manner s m args below meth c H locs 0 0 (MQ below (CI g ws0 (fun u : IV => wMo g mo a u now dr pa sa iS bu tq rT wT sK sA sB sE oq bS bE bL rp) z) args s 0 0 (inW ws0)) (F0 m 30 ls [.int t1p30, .ref mo])
noncomputable def sp_Mo_manner_30 (o : IV) (p1 : Int32) (now : LV) (p2 : Int32)  (t1p30 : Int32) : Int32 × IV := lett (upd o 6 t1p30) fun (o_6 : IV) => if (o_6 6) ≤ 0 then (lett (sp_Mo_earliestOf p1 now) fun (y9 : Int32) => if p2 = (3 : Int32) then (lett (sp_Mo_resultsOf y9 now) fun (y11 : Int32) => (y11, o_6)) else (if p2 = (4 : Int32) then ((y9, o_6)) else (if p2 = (5 : Int32) then (lett (sp_Mo_latest y9 now) fun (y13 : Int32) => (y13, o_6)) else (lett (sp_Mo_ofResult y9 p2 now) fun (y15 : Int64) => (y15.toInt32, o_6))))) else (((0 : Int32), o_6))
def ok_Mo_manner_30 (o : IV) (p1 : Int32) (now : LV) (p2 : Int32)   (t1p30 : Int32) : Prop := lett (upd o 6 t1p30) fun (o_6 : IV) => (((o_6 6) ≤ 0 → (ok_Mo_earliestOf p1 now) ∧ lett (sp_Mo_earliestOf p1 now) fun (y9 : Int32) => ((p2 = (3 : Int32) → (ok_Mo_resultsOf y9 now) ∧ True) ∧ (¬ (p2 = (3 : Int32)) → ((p2 = (4 : Int32) → True) ∧ (¬ (p2 = (4 : Int32)) → ((p2 = (5 : Int32) → (ok_Mo_latest y9 now) ∧ True) ∧ (¬ (p2 = (5 : Int32)) → (ok_Mo_ofResult y9 p2) ∧ True))))))) ∧ (¬ ((o_6 6) ≤ 0) → True))
set_option maxRecDepth 100000 in
set_option maxHeartbeats 4000000 in
theorem k_Mo_manner_30 {p : Program} {l : Launch} {e : Env} {s : State} {m : MethodId} {args : Array Value} {below : List Frame} {meth : Method} {c : Code} {g : GX} {mo : Nat} {a : Nat → Nat} {ws0 : va_W} {o : IV} {now : LV} {dr : LV} {pa : LV} {sa : LV} {iS : IV} {bu : IV} {tq : IV} {rT : IV} {wT : IV} {sK : IV} {sA : IV} {sB : IV} {sE : IV} {oq : IV} {bS : IV} {bE : IV} {bL : IV} {rp : IV} {p1 : Int32} {p2 : Int32}  (C : Cx p s m args meth c (inW ws0) g "DecadeBridgeModel" b_Mo_manner (some .int) 4)  : HL_Mo_manner_30 p l e s m args below meth c g mo a ws0 o now dr pa sa iS bu tq rT wT sK sA sB sE oq bS bE bL rp p1 p2 (sp_Mo_manner_30 o p1 now p2 ) (ok_Mo_manner_30 o p1 now p2  ) := by
  intro t1p30 hok z hz H locs ls hP hD hS hl
  obtain ⟨hx, hb, hr, hml, hown, hlk, hts, hK, hZo, hZ⟩ := id C
  unfold sp_Mo_manner_30 at hz
  unfold ok_Mo_manner_30 at hok
  refine pfI C hP hD hS 0 6 fkMo rfl (by decide) rfl qf_Mo_107 rfl rfl rfl (Nat.le_of_ble_eq_true rfl) (ff := fun o => fMo a o) (sMo_6 _ _ _) d_Mo_manner_30 (fun o_6 eo_6 H locs hP hD hS => ?_)
  have hP : va_P g.1 vwCl (wMo g mo a o_6 now dr pa sa iS bu tq rT wT sK sA sB sE oq bS bE bL rp) H := hP
  have hD : va_D (inW ws0) (wMo g mo a o_6 now dr pa sa iS bu tq rT wT sK sA sB sE oq bS bE bL rp) := hD
  have hz := lett_z hz eo_6
  have hok := lett_o hok eo_6
  refine lv_aload_n hx hb d_Mo_manner_33 rfl (lv_at hl 0 rfl) ?_
  refine gf C hP 0 6 fkMo rfl (by decide) rfl qf_Mo_107 (gMo_6 _ _) d_Mo_manner_34 ?_
  refine lv_if_le (tgt := 42) hx hb d_Mo_manner_37 (by decide) (fun c7 => ?_) (fun c7 => ?_)
  · have hz := hz.trans (if_pos c7)
    have hok := hok.1 c7
    refine lv_aload_n hx hb d_Mo_manner_42 rfl (lv_at hl 0 rfl) ?_
    refine lv_iload_n hx hb d_Mo_manner_43 rfl (lv_at hl 1 rfl) ?_
    have hs8 := hok.1
    have hok := hok.2
    have hB : SubW g (inW ws0) s (wMo g mo a o_6 now dr pa sa iS bu tq rT wT sK sA sB sE oq bS bE bL rp) _ (List.range _) _ _ := (subF hP hD hS)
    refine goI0 hB (run_v C mf_Mo_earliestOf qm_Mo_446 (c_Mo_earliestOf l g mo a o_6 now dr pa sa iS bu tq rT wT sK sA sB sE oq bS bE bL rp p1 hs8) rfl rfl ⟨Nat.le_of_ble_eq_true rfl, Nat.le_of_ble_eq_true rfl⟩ ⟨Nat.le_of_ble_eq_true rfl, Nat.le_of_ble_eq_true rfl⟩ hB rfl rfl hl rfl rfl (Nat.le_of_ble_eq_true rfl) d_Mo_manner_44) (fun y9 ey9 H locs hP hS => ?_)
    have hz := lett_z hz ey9
    have hok := lett_o hok ey9
    refine lv_istore_n (lv' := [(3, .int y9), (0, .ref mo), (1, .int p1), (2, .int p2)]) hx hb d_Mo_manner_47 rfl hl (by decide) rfl (fun ls hl => ?_)
    refine lv_iload_n hx hb d_Mo_manner_48 rfl (lv_at hl 3 rfl) ?_
    by_cases c16_0 : p2 = (3 : Int32)
    · have hz := hz.trans (if_pos c16_0)
      have hok := hok.1 c16_0
      refine lv_tableIn (x := p2) (off := 27) (tgt := 76) hx hb d_Mo_manner_49 (by rw [c16_0]; decide) (by rw [c16_0]; decide) (by rw [c16_0]; rfl) (by decide) ?_
      refine lv_aload_n hx hb d_Mo_manner_76 rfl (lv_at hl 1 rfl) ?_
      refine lv_iload_n hx hb d_Mo_manner_77 rfl (lv_at hl 0 rfl) ?_
      have hs10 := hok.1
      have hok := hok.2
      have hB : SubW g (inW ws0) s (wMo g mo a o_6 now dr pa sa iS bu tq rT wT sK sA sB sE oq bS bE bL rp) _ (List.range _) _ _ := (subF hP hD hS)
      refine goI0 hB (run_v C mf_Mo_resultsOf qm_Mo_449 (c_Mo_resultsOf l g mo a o_6 now dr pa sa iS bu tq rT wT sK sA sB sE oq bS bE bL rp y9 hs10) rfl rfl ⟨Nat.le_of_ble_eq_true rfl, Nat.le_of_ble_eq_true rfl⟩ ⟨Nat.le_of_ble_eq_true rfl, Nat.le_of_ble_eq_true rfl⟩ hB rfl rfl hl rfl rfl (Nat.le_of_ble_eq_true rfl) d_Mo_manner_78) (fun y11 ey11 H locs hP hS => ?_)
      have hz := lett_z hz ey11
      exact endI1 C hz hP hS d_Mo_manner_81
    have hz := hz.trans (if_neg c16_0)
    have hok := hok.2 c16_0
    by_cases c16_1 : p2 = (4 : Int32)
    · have hz := hz.trans (if_pos c16_1)
      have hok := hok.1 c16_1
      refine lv_tableIn (x := p2) (off := 33) (tgt := 82) hx hb d_Mo_manner_49 (by rw [c16_1]; decide) (by rw [c16_1]; decide) (by rw [c16_1]; rfl) (by decide) ?_
      refine lv_iload_n hx hb d_Mo_manner_82 rfl (lv_at hl 0 rfl) ?_
      exact endI1 C hz hP hS d_Mo_manner_83
    have hz := hz.trans (if_neg c16_1)
    have hok := hok.2 c16_1
    by_cases c16_2 : p2 = (5 : Int32)
    · have hz := hz.trans (if_pos c16_2)
      have hok := hok.1 c16_2
      refine lv_tableIn (x := p2) (off := 35) (tgt := 84) hx hb d_Mo_manner_49 (by rw [c16_2]; decide) (by rw [c16_2]; decide) (by rw [c16_2]; rfl) (by decide) ?_
      refine lv_aload_n hx hb d_Mo_manner_84 rfl (lv_at hl 1 rfl) ?_
      refine lv_iload_n hx hb d_Mo_manner_85 rfl (lv_at hl 0 rfl) ?_
      have hs12 := hok.1
      have hok := hok.2
      have hB : SubW g (inW ws0) s (wMo g mo a o_6 now dr pa sa iS bu tq rT wT sK sA sB sE oq bS bE bL rp) _ (List.range _) _ _ := (subF hP hD hS)
      refine goI0 hB (run_v C mf_Mo_latest qm_Mo_452 (c_Mo_latest l g mo a o_6 now dr pa sa iS bu tq rT wT sK sA sB sE oq bS bE bL rp y9 hs12) rfl rfl ⟨Nat.le_of_ble_eq_true rfl, Nat.le_of_ble_eq_true rfl⟩ ⟨Nat.le_of_ble_eq_true rfl, Nat.le_of_ble_eq_true rfl⟩ hB rfl rfl hl rfl rfl (Nat.le_of_ble_eq_true rfl) d_Mo_manner_86) (fun y13 ey13 H locs hP hS => ?_)
      have hz := lett_z hz ey13
      exact endI1 C hz hP hS d_Mo_manner_89
    have hz := hz.trans (if_neg c16_2)
    have hok := hok.2 c16_2
    refine lv_tableOut (x := p2) (tgt := 90) hx hb d_Mo_manner_49 (tswL (x := p2) (lo := 3) (hi := 5) 3 [(3 : Int32), (4 : Int32), (5 : Int32)] (by decide) (by decide) (List.forall_mem_cons.mpr ⟨c16_0, List.forall_mem_cons.mpr ⟨c16_1, List.forall_mem_cons.mpr ⟨c16_2, fun _ h => absurd h List.not_mem_nil⟩⟩⟩)) (by decide) ?_
    refine lv_aload_n hx hb d_Mo_manner_90 rfl (lv_at hl 1 rfl) ?_
    refine lv_iload_n hx hb d_Mo_manner_91 rfl (lv_at hl 0 rfl) ?_
    refine lv_iload_n hx hb d_Mo_manner_92 rfl (lv_at hl 3 rfl) ?_
    have hs14 := hok.1
    have hok := hok.2
    have hB : SubW g (inW ws0) s (wMo g mo a o_6 now dr pa sa iS bu tq rT wT sK sA sB sE oq bS bE bL rp) _ (List.range _) _ _ := (subF hP hD hS)
    refine goL0 hB (run_v C mf_Mo_ofResult qm_Mo_406 (c_Mo_ofResult l g mo a o_6 now dr pa sa iS bu tq rT wT sK sA sB sE oq bS bE bL rp y9 p2 hs14) rfl rfl ⟨Nat.le_of_ble_eq_true rfl, Nat.le_of_ble_eq_true rfl⟩ ⟨Nat.le_of_ble_eq_true rfl, Nat.le_of_ble_eq_true rfl⟩ hB rfl rfl hl rfl rfl (Nat.le_of_ble_eq_true rfl) d_Mo_manner_93) (fun y15 ey15 H locs hP hS => ?_)
    have hz := lett_z hz ey15
    refine lv_l2i hx hb d_Mo_manner_96 rfl ?_
    exact endI1 C hz hP hS d_Mo_manner_97
  · have hz := hz.trans (if_neg c7)
    refine lv_iconst (v := 0) hx hb d_Mo_manner_40 (by decide) ?_
    exact endI1 C hz hP hS d_Mo_manner_41
noncomputable def sp_Mo_manner (p1 : Int32) (p2 : Int32) (o : IV) (now : LV) : Int32 × IV := lett (sp_Mo_isManner p1 now) fun (y2 : Int32) => if y2 = 0 then (sp_Mo_manner_30 o p1 now p2 (1 : Int32)) else (lett (sp_Mo_in p2.toInt64 (0 : Int64) (5 : Int64)) fun (y4 : Int32) => if y4 = 0 then (sp_Mo_manner_30 o p1 now p2 (2 : Int32)) else (sp_Mo_manner_30 o p1 now p2 (0 : Int32)))
def ok_Mo_manner (p1 : Int32) (p2 : Int32) (o : IV) (now : LV) : Prop := (ok_Mo_isManner p1 now) ∧ lett (sp_Mo_isManner p1 now) fun (y2 : Int32) => ((y2 = 0 → ok_Mo_manner_30 o p1 now p2 (1 : Int32)) ∧ (¬ (y2 = 0) → lett (sp_Mo_in p2.toInt64 (0 : Int64) (5 : Int64)) fun (y4 : Int32) => ((y4 = 0 → ok_Mo_manner_30 o p1 now p2 (2 : Int32)) ∧ (¬ (y4 = 0) → ok_Mo_manner_30 o p1 now p2 (0 : Int32)))))
set_option maxRecDepth 100000 in
set_option maxHeartbeats 4000000 in
theorem c_Mo_manner (l : Launch) (g : GX) (mo : Nat) (a : Nat → Nat) (o : IV) (now : LV) (dr : LV) (pa : LV) (sa : LV) (iS : IV) (bu : IV) (tq : IV) (rT : IV) (wT : IV) (sK : IV) (sA : IV) (sB : IV) (sE : IV) (oq : IV) (bS : IV) (bE : IV) (bL : IV) (rp : IV) (p1 : Int32) (p2 : Int32) (hok : ok_Mo_manner p1 p2 o now) : Met l y_Mo_manner (wsY y_Mo_manner b_Mo_manner 4 (some .int)) rm_Mo_manner (CP g [.ref mo, .int p1, .int p2] (wMo g mo a o now dr pa sa iS bu tq rT wT sK sA sB sE oq bS bE bL rp)) (CI g (wMo g mo a o now dr pa sa iS bu tq rT wT sK sA sB sE oq bS bE bL rp) (fun u : IV => wMo g mo a u now dr pa sa iS bu tq rT wT sK sA sB sE oq bS bE bL rp) (sp_Mo_manner p1 p2 o now)) 0 0 (inW (wMo g mo a o now dr pa sa iS bu tq rT wT sK sA sB sE oq bS bE bL rp)) := by
  refine Met.ofW (cc := b_Mo_manner) (maxL := 4) (ret := (some .int)) pn_Mo rfl ?_
  intro p e s m args below meth c s₁ B hml hv
  obtain ⟨rfl, C, hP, hD, hS⟩ := enter "DecadeBridgeModel" rfl B hml hv
  obtain ⟨hx, hb, hr, hml, hown, hlk, hts, hK, hZo, hZ⟩ := id C
  refine entryW (lv := [(0, .ref mo), (1, .int p1), (2, .int p2)]) rfl (Nat.le_of_ble_eq_true rfl) (fun ls hl => ?_)
  obtain ⟨z, hz⟩ : ∃ z, z = sp_Mo_manner p1 p2 o now := ⟨_, rfl⟩
  rw [← hz]
  unfold sp_Mo_manner at hz
  unfold ok_Mo_manner at hok
  refine lv_aload_n hx hb d_Mo_manner_0 rfl (lv_at hl 0 rfl) ?_
  refine lv_aload_n hx hb d_Mo_manner_1 rfl (lv_at hl 0 rfl) ?_
  refine lv_iload_n hx hb d_Mo_manner_2 rfl (lv_at hl 1 rfl) ?_
  have hs1 := hok.1
  have hok := hok.2
  have hB : SubW g (inW (wMo g mo a o now dr pa sa iS bu tq rT wT sK sA sB sE oq bS bE bL rp)) s (wMo g mo a o now dr pa sa iS bu tq rT wT sK sA sB sE oq bS bE bL rp) _ (List.range _) _ _ := (subF hP hD hS)
  refine goI0 hB (run_v C mf_Mo_isManner qm_Mo_441 (c_Mo_isManner l g mo a o now dr pa sa iS bu tq rT wT sK sA sB sE oq bS bE bL rp p1 hs1) rfl rfl ⟨Nat.le_of_ble_eq_true rfl, Nat.le_of_ble_eq_true rfl⟩ ⟨Nat.le_of_ble_eq_true rfl, Nat.le_of_ble_eq_true rfl⟩ hB rfl rfl hl rfl rfl (Nat.le_of_ble_eq_true rfl) d_Mo_manner_3) (fun y2 ey2 H locs hP hS => ?_)
  have hz := lett_z hz ey2
  have hok := lett_o hok ey2
  refine lv_if_ne (tgt := 13) hx hb d_Mo_manner_6 (by decide) (fun c3 => ?_) (fun c3 => ?_)
  · have hz := hz.trans (if_neg c3)
    have hok := hok.2 c3
    refine lv_iload_n hx hb d_Mo_manner_13 rfl (lv_at hl 2 rfl) ?_
    refine lv_i2l hx hb d_Mo_manner_14 rfl ?_
    refine lv_lconst (v := 0) hx hb d_Mo_manner_15 (by decide) ?_
    refine lv_ldc2 hx hb hown (hts _ qk_Mo_444) d_Mo_manner_16 ?_
    have hB : SubW g (inW (wMo g mo a o now dr pa sa iS bu tq rT wT sK sA sB sE oq bS bE bL rp)) s (wMo g mo a o now dr pa sa iS bu tq rT wT sK sA sB sE oq bS bE bL rp) _ (List.range _) _ _ := (subF hP hD hS)
    refine goI0 hB (run_s C mf_Mo_in qm_Mo_118 (c_Mo_in l g mo a o now dr pa sa iS bu tq rT wT sK sA sB sE oq bS bE bL rp p2.toInt64 (0 : Int64) (5 : Int64)) rfl rfl ⟨Nat.le_of_ble_eq_true rfl, Nat.le_of_ble_eq_true rfl⟩ ⟨Nat.le_of_ble_eq_true rfl, Nat.le_of_ble_eq_true rfl⟩ hB hl rfl rfl (Nat.le_of_ble_eq_true rfl) d_Mo_manner_19) (fun y4 ey4 H locs hP hS => ?_)
    have hz := lett_z hz ey4
    have hok := lett_o hok ey4
    refine lv_if_eq (tgt := 29) hx hb d_Mo_manner_22 (by decide) (fun c5 => ?_) (fun c5 => ?_)
    · have hz := hz.trans (if_pos c5)
      have hok := hok.1 c5
      refine lv_iconst (v := 2) hx hb d_Mo_manner_29 (by decide) ?_
      exact k_Mo_manner_30 C (2 : Int32) hok _ hz _ _ ls hP hD hS hl
    · have hz := hz.trans (if_neg c5)
      have hok := hok.2 c5
      refine lv_iconst (v := 0) hx hb d_Mo_manner_25 (by decide) ?_
      refine lv_goto (tgt := 30) hx hb d_Mo_manner_26 (by decide) ?_
      exact k_Mo_manner_30 C (0 : Int32) hok _ hz _ _ ls hP hD hS hl
  · have hz := hz.trans (if_pos c3)
    have hok := hok.1 c3
    refine lv_iconst (v := 1) hx hb d_Mo_manner_9 (by decide) ?_
    refine lv_goto (tgt := 30) hx hb d_Mo_manner_10 (by decide) ?_
    exact k_Mo_manner_30 C (1 : Int32) hok _ hz _ _ ls hP hD hS hl
abbrev rm_Mo_meanOf : Room := { frames := 6, cells := 0, slots := 0, locals := 130 }
def HL_Mo_meanOf_14 (p : Program) (l : Launch) (e : Env) (s : State) (m : MethodId) (args : Array Value) (below : List Frame) (meth : Method) (c : Code) (g : GX) (mo : Nat) (a : Nat → Nat) (ws0 : va_W) (o : IV) (now : LV) (dr : LV) (pa : LV) (sa : LV) (iS : IV) (bu : IV) (tq : IV) (rT : IV) (wT : IV) (sK : IV) (sA : IV) (sB : IV) (sE : IV) (oq : IV) (bS : IV) (bE : IV) (bL : IV) (rp : IV) (p1 : Int32) (sp : Int32 → (UInt64 × IV)) (ok : Int32 → Prop) : Prop := ∀ (t1p14 : Int32), ok t1p14 → ∀ z : (UInt64 × IV), z = sp t1p14 → ∀ (H : Heap) (locs : List Loc) (ls : Array Slot), va_P g.1 vwCl (wMo g mo a o now dr pa sa iS bu tq rT wT sK sA sB sE oq bS bE bL rp) H → va_D (inW ws0) (wMo g mo a o now dr pa sa iS bu tq rT wT sK sA sB sE oq bS bE bL rp) → va_S (inW ws0) s.heap H locs → lv_has ls 6 [(0, .ref mo), (1, .int p1)] → W p l e rm_Mo_meanOf s m args below meth c H locs 0 0 (MQ below (CD g ws0 (fun u : IV => wMo g mo a u now dr pa sa iS bu tq rT wT sK sA sB sE oq bS bE bL rp) z) args s 0 0 (inW ws0)) (F0 m 14 ls [.int t1p14, .ref mo])
def HL_Mo_meanOf_37 (p : Program) (l : Launch) (e : Env) (s : State) (m : MethodId) (args : Array Value) (below : List Frame) (meth : Method) (c : Code) (g : GX) (mo : Nat) (a : Nat → Nat) (ws0 : va_W) (o_4 : IV) (now : LV) (dr : LV) (pa : LV) (sa : LV) (iS : IV) (bu : IV) (tq : IV) (rT : IV) (wT : IV) (sK : IV) (sA : IV) (sB : IV) (sE : IV) (oq : IV) (bS : IV) (bE : IV) (bL : IV) (rp : IV) (y7 : Int32) (sp : Int64 → Int32 → (UInt64 × IV)) (ok : Int64 → Int32 → Prop) : Prop := ∀ (x3p37 : Int64) (x5p37 : Int32), ok x3p37 x5p37 → ∀ z : (UInt64 × IV), z = sp x3p37 x5p37 → ∀ (H : Heap) (locs : List Loc) (ls : Array Slot), va_P g.1 vwCl (wMo g mo a o_4 now dr pa sa iS bu tq rT wT sK sA sB sE oq bS bE bL rp) H → va_D (inW ws0) (wMo g mo a o_4 now dr pa sa iS bu tq rT wT sK sA sB sE oq bS bE bL rp) → va_S (inW ws0) s.heap H locs → lv_has ls 6 [(0, .ref mo), (2, .int y7), (3, .long x3p37), (5, .int x5p37)] → W p l e rm_Mo_meanOf s m args below meth c H locs 0 0 (MQ below (CD g ws0 (fun u : IV => wMo g mo a u now dr pa sa iS bu tq rT wT sK sA sB sE oq bS bE bL rp) z) args s 0 0 (inW ws0)) (F0 m 37 ls [])
def HL_Mo_meanOf_74 (p : Program) (l : Launch) (e : Env) (s : State) (m : MethodId) (args : Array Value) (below : List Frame) (meth : Method) (c : Code) (g : GX) (mo : Nat) (a : Nat → Nat) (ws0 : va_W) (o_4 : IV) (now : LV) (dr : LV) (pa : LV) (sa : LV) (iS : IV) (bu : IV) (tq : IV) (rT : IV) (wT : IV) (sK : IV) (sA : IV) (sB : IV) (sE : IV) (oq : IV) (bS : IV) (bE : IV) (bL : IV) (rp : IV) (y7 : Int32) (x5p37 : Int32) (x3p37 : Int64) (sp : Int64 → (UInt64 × IV)) (ok : Int64 → Prop) : Prop := ∀ (t1p74 : Int64), ok t1p74 → ∀ z : (UInt64 × IV), z = sp t1p74 → ∀ (H : Heap) (locs : List Loc) (ls : Array Slot), va_P g.1 vwCl (wMo g mo a o_4 now dr pa sa iS bu tq rT wT sK sA sB sE oq bS bE bL rp) H → va_D (inW ws0) (wMo g mo a o_4 now dr pa sa iS bu tq rT wT sK sA sB sE oq bS bE bL rp) → va_S (inW ws0) s.heap H locs → lv_has ls 6 [(0, .ref mo), (2, .int y7), (5, .int x5p37)] → W p l e rm_Mo_meanOf s m args below meth c H locs 0 0 (MQ below (CD g ws0 (fun u : IV => wMo g mo a u now dr pa sa iS bu tq rT wT sK sA sB sE oq bS bE bL rp) z) args s 0 0 (inW ws0)) (F0 m 74 ls [.long t1p74, .long x3p37])
def HL_Mo_meanOf_82 (p : Program) (l : Launch) (e : Env) (s : State) (m : MethodId) (args : Array Value) (below : List Frame) (meth : Method) (c : Code) (g : GX) (mo : Nat) (a : Nat → Nat) (ws0 : va_W) (o_4 : IV) (now : LV) (dr : LV) (pa : LV) (sa : LV) (iS : IV) (bu : IV) (tq : IV) (rT : IV) (wT : IV) (sK : IV) (sA : IV) (sB : IV) (sE : IV) (oq : IV) (bS : IV) (bE : IV) (bL : IV) (rp : IV) (y7 : Int32) (x3p37 : Int64) (sp : (UInt64 × IV)) (ok : Prop) : Prop := ∀ (_ : Unit), ok → ∀ z : (UInt64 × IV), z = sp → ∀ (H : Heap) (locs : List Loc) (ls : Array Slot), va_P g.1 vwCl (wMo g mo a o_4 now dr pa sa iS bu tq rT wT sK sA sB sE oq bS bE bL rp) H → va_D (inW ws0) (wMo g mo a o_4 now dr pa sa iS bu tq rT wT sK sA sB sE oq bS bE bL rp) → va_S (inW ws0) s.heap H locs → lv_has ls 6 [(0, .ref mo), (2, .int y7), (3, .long x3p37)] → W p l e rm_Mo_meanOf s m args below meth c H locs 0 0 (MQ below (CD g ws0 (fun u : IV => wMo g mo a u now dr pa sa iS bu tq rT wT sK sA sB sE oq bS bE bL rp) z) args s 0 0 (inW ws0)) (F0 m 82 ls [])
noncomputable def sp_Mo_meanOf_82 (y7 : Int32) (now : LV) (x3p37 : Int64) (o_4 : IV)   : UInt64 × IV := lett (sp_Mo_resultsOf y7 now) fun (y17 : Int32) => (FP.ddiv (FP.l2d x3p37) (FP.i2d y17), o_4)
def ok_Mo_meanOf_82 (y7 : Int32) (now : LV) (x3p37 : Int64) (o_4 : IV)    : Prop := (ok_Mo_resultsOf y7 now) ∧ lett (sp_Mo_resultsOf y7 now) fun (y17 : Int32) => (vf_n64 (FP.ddiv (FP.l2d x3p37) (FP.i2d y17))) ∧ True
set_option maxRecDepth 100000 in
set_option maxHeartbeats 4000000 in
theorem k_Mo_meanOf_82 {p : Program} {l : Launch} {e : Env} {s : State} {m : MethodId} {args : Array Value} {below : List Frame} {meth : Method} {c : Code} {g : GX} {mo : Nat} {a : Nat → Nat} {ws0 : va_W} {o_4 : IV} {now : LV} {dr : LV} {pa : LV} {sa : LV} {iS : IV} {bu : IV} {tq : IV} {rT : IV} {wT : IV} {sK : IV} {sA : IV} {sB : IV} {sE : IV} {oq : IV} {bS : IV} {bE : IV} {bL : IV} {rp : IV} {y7 : Int32} {x3p37 : Int64}  (C : Cx p s m args meth c (inW ws0) g "DecadeBridgeModel" b_Mo_meanOf (some .double) 6)  : HL_Mo_meanOf_82 p l e s m args below meth c g mo a ws0 o_4 now dr pa sa iS bu tq rT wT sK sA sB sE oq bS bE bL rp y7 x3p37 (sp_Mo_meanOf_82 y7 now x3p37 o_4 ) (ok_Mo_meanOf_82 y7 now x3p37 o_4  ) := by
  intro _ hok z hz H locs ls hP hD hS hl
  obtain ⟨hx, hb, hr, hml, hown, hlk, hts, hK, hZo, hZ⟩ := id C
  unfold sp_Mo_meanOf_82 at hz
  unfold ok_Mo_meanOf_82 at hok
  refine lv_lload_n hx hb d_Mo_meanOf_82 rfl (lv_at hl 2 rfl) ?_
  refine lv_l2d hx hb d_Mo_meanOf_83 ?_
  refine lv_aload_n hx hb d_Mo_meanOf_84 rfl (lv_at hl 0 rfl) ?_
  refine lv_iload_n hx hb d_Mo_meanOf_85 rfl (lv_at hl 1 rfl) ?_
  have hs16 := hok.1
  have hok := hok.2
  have hB : SubW g (inW ws0) s (wMo g mo a o_4 now dr pa sa iS bu tq rT wT sK sA sB sE oq bS bE bL rp) _ (List.range _) _ _ := (subF hP hD hS)
  refine goI0 hB (run_v C mf_Mo_resultsOf qm_Mo_449 (c_Mo_resultsOf l g mo a o_4 now dr pa sa iS bu tq rT wT sK sA sB sE oq bS bE bL rp y7 hs16) rfl rfl ⟨Nat.le_of_ble_eq_true rfl, Nat.le_of_ble_eq_true rfl⟩ ⟨Nat.le_of_ble_eq_true rfl, Nat.le_of_ble_eq_true rfl⟩ hB rfl rfl hl rfl rfl (Nat.le_of_ble_eq_true rfl) d_Mo_meanOf_86) (fun y17 ey17 H locs hP hS => ?_)
  have hz := lett_z hz ey17
  have hok := lett_o hok ey17
  refine lv_i2d hx hb d_Mo_meanOf_89 ?_
  have hs18 := hok.1
  have hok := hok.2
  refine lv_ddiv hx hb d_Mo_meanOf_90 hs18 ?_
  exact endD1 C hz hP hS d_Mo_meanOf_91
noncomputable def sp_Mo_meanOf_74 (x3p37 : Int64) (x5p37 : Int32) (r37 : Int64 → Int32 → (UInt64 × IV)) (t1p74 : Int64) : UInt64 × IV := lett (x3p37 + t1p74) fun (v14 : Int64) => lett (x5p37 + (1 : Int32)) fun (v15 : Int32) => r37 v14 v15
def ok_Mo_meanOf_74 (x3p37 : Int64) (x5p37 : Int32) (r37 : Int64 → Int32 → (UInt64 × IV)) (q37 : Int64 → Int32 → Prop) (t1p74 : Int64) : Prop := lett (x3p37 + t1p74) fun (v14 : Int64) => lett (x5p37 + (1 : Int32)) fun (v15 : Int32) => q37 v14 v15
set_option maxRecDepth 100000 in
set_option maxHeartbeats 4000000 in
theorem k_Mo_meanOf_74 {p : Program} {l : Launch} {e : Env} {s : State} {m : MethodId} {args : Array Value} {below : List Frame} {meth : Method} {c : Code} {g : GX} {mo : Nat} {a : Nat → Nat} {ws0 : va_W} {o_4 : IV} {now : LV} {dr : LV} {pa : LV} {sa : LV} {iS : IV} {bu : IV} {tq : IV} {rT : IV} {wT : IV} {sK : IV} {sA : IV} {sB : IV} {sE : IV} {oq : IV} {bS : IV} {bE : IV} {bL : IV} {rp : IV} {y7 : Int32} {x5p37 : Int32} {x3p37 : Int64} {r37 : Int64 → Int32 → (UInt64 × IV)} {q37 : Int64 → Int32 → Prop} (C : Cx p s m args meth c (inW ws0) g "DecadeBridgeModel" b_Mo_meanOf (some .double) 6) (ih37 : HL_Mo_meanOf_37 p l e s m args below meth c g mo a ws0 o_4 now dr pa sa iS bu tq rT wT sK sA sB sE oq bS bE bL rp y7 r37 q37) : HL_Mo_meanOf_74 p l e s m args below meth c g mo a ws0 o_4 now dr pa sa iS bu tq rT wT sK sA sB sE oq bS bE bL rp y7 x5p37 x3p37 (sp_Mo_meanOf_74 x3p37 x5p37 r37) (ok_Mo_meanOf_74 x3p37 x5p37 r37 q37) := by
  intro t1p74 hok z hz H locs ls hP hD hS hl
  obtain ⟨hx, hb, hr, hml, hown, hlk, hts, hK, hZo, hZ⟩ := id C
  unfold sp_Mo_meanOf_74 at hz
  unfold ok_Mo_meanOf_74 at hok
  refine lv_ladd hx hb d_Mo_meanOf_74 ?_
  refine lv_topl (fun v14 ev14 => ?_)
  have hz := lett_z hz ev14
  have hok := lett_o hok ev14
  refine lv_lstore_n (lv' := [(3, .long v14), (0, .ref mo), (2, .int y7), (5, .int x5p37)]) hx hb d_Mo_meanOf_75 rfl hl (by decide) rfl (fun ls hl => ?_)
  obtain ⟨v15, ev15⟩ : ∃ y : Int32, y = x5p37 + (1 : Int32) := ⟨_, rfl⟩
  have hz := lett_z hz ev15
  have hok := lett_o hok ev15
  refine lv_iinc (v := v15) (lv' := [(5, .int v15), (3, .long v14), (0, .ref mo), (2, .int y7)]) hx hb d_Mo_meanOf_76 hl (k := 3) rfl (by rw [ev15]; rfl) (by decide) rfl (fun ls hl => ?_)
  refine lv_goto (tgt := 37) hx hb d_Mo_meanOf_79 (by decide) ?_
  exact ih37 v14 v15 hok _ hz _ _ ls hP hD hS (lv_sub hl [2, 3, 1, 0] rfl)
noncomputable def bd_Mo_meanOf_37 (now : LV) (y7 : Int32) (o_4 : IV) (r37 : Int64 → Int32 → (UInt64 × IV)) (x3p37 : Int64) (x5p37 : Int32) : UInt64 × IV := if (now 54) ≤ x5p37.toInt64 then (sp_Mo_meanOf_82 y7 now x3p37 o_4) else (lett (sp_Mo_isAlike y7 x5p37 now) fun (y10 : Int32) => if y10 = 0 then (sp_Mo_meanOf_74 x3p37 x5p37 r37 (0 : Int64)) else (lett (sp_Mo_ofResult x5p37 (7 : Int32) now) fun (y13 : Int64) => sp_Mo_meanOf_74 x3p37 x5p37 r37 y13))
def okb_Mo_meanOf_37 (now : LV) (y7 : Int32) (o_4 : IV) (r37 : Int64 → Int32 → (UInt64 × IV)) (q37 : Int64 → Int32 → Prop) (x3p37 : Int64) (x5p37 : Int32) : Prop := (((now 54) ≤ x5p37.toInt64 → ok_Mo_meanOf_82 y7 now x3p37 o_4) ∧ (¬ ((now 54) ≤ x5p37.toInt64) → (ok_Mo_isAlike y7 x5p37 now) ∧ lett (sp_Mo_isAlike y7 x5p37 now) fun (y10 : Int32) => ((y10 = 0 → ok_Mo_meanOf_74 x3p37 x5p37 r37 q37 (0 : Int64)) ∧ (¬ (y10 = 0) → (ok_Mo_ofResult x5p37 (7 : Int32)) ∧ lett (sp_Mo_ofResult x5p37 (7 : Int32) now) fun (y13 : Int64) => ok_Mo_meanOf_74 x3p37 x5p37 r37 q37 y13))))
noncomputable def sp_Mo_meanOf_37 (now : LV) (y7 : Int32) (o_4 : IV)  : Nat → Int64 → Int32 → (UInt64 × IV)
  | 0 => fun _ _ => default
  | f + 1 => bd_Mo_meanOf_37 now y7 o_4  (sp_Mo_meanOf_37 now y7 o_4  f)
def ok_Mo_meanOf_37 (now : LV) (y7 : Int32) (o_4 : IV)   : Nat → Int64 → Int32 → Prop
  | 0 => fun _ _ => False
  | f + 1 => okb_Mo_meanOf_37 now y7 o_4  (sp_Mo_meanOf_37 now y7 o_4  f)  (ok_Mo_meanOf_37 now y7 o_4   f)
set_option maxRecDepth 100000 in
set_option maxHeartbeats 4000000 in
theorem kb_Mo_meanOf_37 {p : Program} {l : Launch} {e : Env} {s : State} {m : MethodId} {args : Array Value} {below : List Frame} {meth : Method} {c : Code} {g : GX} {mo : Nat} {a : Nat → Nat} {ws0 : va_W} {o_4 : IV} {now : LV} {dr : LV} {pa : LV} {sa : LV} {iS : IV} {bu : IV} {tq : IV} {rT : IV} {wT : IV} {sK : IV} {sA : IV} {sB : IV} {sE : IV} {oq : IV} {bS : IV} {bE : IV} {bL : IV} {rp : IV} {y7 : Int32}  (C : Cx p s m args meth c (inW ws0) g "DecadeBridgeModel" b_Mo_meanOf (some .double) 6) {r37 : Int64 → Int32 → (UInt64 × IV)} {q37 : Int64 → Int32 → Prop}  (ih37 : HL_Mo_meanOf_37 p l e s m args below meth c g mo a ws0 o_4 now dr pa sa iS bu tq rT wT sK sA sB sE oq bS bE bL rp y7 r37 q37) : HL_Mo_meanOf_37 p l e s m args below meth c g mo a ws0 o_4 now dr pa sa iS bu tq rT wT sK sA sB sE oq bS bE bL rp y7 (bd_Mo_meanOf_37 now y7 o_4  r37) (okb_Mo_meanOf_37 now y7 o_4  r37  q37) := by
  intro x3p37 x5p37 hok z hz H locs ls hP hD hS hl
  obtain ⟨hx, hb, hr, hml, hown, hlk, hts, hK, hZo, hZ⟩ := id C
  unfold bd_Mo_meanOf_37 at hz
  unfold okb_Mo_meanOf_37 at hok
  refine lv_iload hx hb d_Mo_meanOf_37 (lv_at hl 3 rfl) ?_
  refine lv_i2l hx hb d_Mo_meanOf_39 rfl ?_
  refine lv_aload_n hx hb d_Mo_meanOf_40 rfl (lv_at hl 0 rfl) ?_
  refine gf C hP 0 0 fkMo rfl (by decide) rfl qf_Mo_7 (gMo_0 _ _) d_Mo_meanOf_41 ?_
  refine lv_bipush (v := 54) hx hb d_Mo_meanOf_44 (by decide) ?_
  refine ldL C hP 1 rfl vi_54_215 cn_54 d_Mo_meanOf_46 ?_
  refine lc_ge (tgt := 82) hx hb d_Mo_meanOf_47 d_Mo_meanOf_48 (by decide) (fun c8 => ?_) (fun c8 => ?_)
  · have hz := hz.trans (if_pos c8)
    have hok := hok.1 c8
    exact k_Mo_meanOf_82 C () hok _ hz _ _ ls hP hD hS (lv_sub hl [0, 1, 2] rfl)
  · have hz := hz.trans (if_neg c8)
    have hok := hok.2 c8
    refine lv_lload_n hx hb d_Mo_meanOf_51 rfl (lv_at hl 2 rfl) ?_
    refine lv_aload_n hx hb d_Mo_meanOf_52 rfl (lv_at hl 0 rfl) ?_
    refine lv_iload_n hx hb d_Mo_meanOf_53 rfl (lv_at hl 1 rfl) ?_
    refine lv_iload hx hb d_Mo_meanOf_54 (lv_at hl 3 rfl) ?_
    have hs9 := hok.1
    have hok := hok.2
    have hB : SubW g (inW ws0) s (wMo g mo a o_4 now dr pa sa iS bu tq rT wT sK sA sB sE oq bS bE bL rp) _ (List.range _) _ _ := (subF hP hD hS)
    refine goI0 hB (run_v C mf_Mo_isAlike qm_Mo_410 (c_Mo_isAlike l g mo a o_4 now dr pa sa iS bu tq rT wT sK sA sB sE oq bS bE bL rp y7 x5p37 hs9) rfl rfl ⟨Nat.le_of_ble_eq_true rfl, Nat.le_of_ble_eq_true rfl⟩ ⟨Nat.le_of_ble_eq_true rfl, Nat.le_of_ble_eq_true rfl⟩ hB rfl rfl hl rfl rfl (Nat.le_of_ble_eq_true rfl) d_Mo_meanOf_56) (fun y10 ey10 H locs hP hS => ?_)
    have hz := lett_z hz ey10
    have hok := lett_o hok ey10
    refine lv_if_eq (tgt := 73) hx hb d_Mo_meanOf_59 (by decide) (fun c11 => ?_) (fun c11 => ?_)
    · have hz := hz.trans (if_pos c11)
      have hok := hok.1 c11
      refine lv_lconst (v := 0) hx hb d_Mo_meanOf_73 (by decide) ?_
      exact k_Mo_meanOf_74 C ih37 (0 : Int64) hok _ hz _ _ ls hP hD hS (lv_sub hl [0, 1, 3] rfl)
    · have hz := hz.trans (if_neg c11)
      have hok := hok.2 c11
      refine lv_aload_n hx hb d_Mo_meanOf_62 rfl (lv_at hl 0 rfl) ?_
      refine lv_iload hx hb d_Mo_meanOf_63 (lv_at hl 3 rfl) ?_
      refine lv_bipush (v := 7) hx hb d_Mo_meanOf_65 (by decide) ?_
      have hs12 := hok.1
      have hok := hok.2
      have hB : SubW g (inW ws0) s (wMo g mo a o_4 now dr pa sa iS bu tq rT wT sK sA sB sE oq bS bE bL rp) _ (List.range _) _ _ := (subF hP hD hS)
      refine goL0 hB (run_v C mf_Mo_ofResult qm_Mo_406 (c_Mo_ofResult l g mo a o_4 now dr pa sa iS bu tq rT wT sK sA sB sE oq bS bE bL rp x5p37 (7 : Int32) hs12) rfl rfl ⟨Nat.le_of_ble_eq_true rfl, Nat.le_of_ble_eq_true rfl⟩ ⟨Nat.le_of_ble_eq_true rfl, Nat.le_of_ble_eq_true rfl⟩ hB rfl rfl hl rfl rfl (Nat.le_of_ble_eq_true rfl) d_Mo_meanOf_67) (fun y13 ey13 H locs hP hS => ?_)
      have hz := lett_z hz ey13
      have hok := lett_o hok ey13
      refine lv_goto (tgt := 74) hx hb d_Mo_meanOf_70 (by decide) ?_
      exact k_Mo_meanOf_74 C ih37 y13 hok _ hz _ _ ls hP hD hS (lv_sub hl [0, 1, 3] rfl)
theorem k_Mo_meanOf_37 {p : Program} {l : Launch} {e : Env} {s : State} {m : MethodId} {args : Array Value} {below : List Frame} {meth : Method} {c : Code} {g : GX} {mo : Nat} {a : Nat → Nat} {ws0 : va_W} {o_4 : IV} {now : LV} {dr : LV} {pa : LV} {sa : LV} {iS : IV} {bu : IV} {tq : IV} {rT : IV} {wT : IV} {sK : IV} {sA : IV} {sB : IV} {sE : IV} {oq : IV} {bS : IV} {bE : IV} {bL : IV} {rp : IV} {y7 : Int32}  (C : Cx p s m args meth c (inW ws0) g "DecadeBridgeModel" b_Mo_meanOf (some .double) 6) (f : Nat)  : HL_Mo_meanOf_37 p l e s m args below meth c g mo a ws0 o_4 now dr pa sa iS bu tq rT wT sK sA sB sE oq bS bE bL rp y7 (sp_Mo_meanOf_37 now y7 o_4  f) (ok_Mo_meanOf_37 now y7 o_4   f) := by
  induction f with
  | zero => intro x3p37 x5p37 hok; exact False.elim hok
  | succ f ih => exact kb_Mo_meanOf_37 C  ih
noncomputable def sp_Mo_meanOf_14 (o : IV) (p1 : Int32) (now : LV)  (t1p14 : Int32) : UInt64 × IV := lett (upd o 6 t1p14) fun (o_4 : IV) => if (o_4 6) ≤ 0 then (lett (sp_Mo_earliestOf p1 now) fun (y7 : Int32) => sp_Mo_meanOf_37 now y7 o_4 big (0 : Int64) y7) else ((FP.dconst0, o_4))
def ok_Mo_meanOf_14 (o : IV) (p1 : Int32) (now : LV)   (t1p14 : Int32) : Prop := lett (upd o 6 t1p14) fun (o_4 : IV) => (((o_4 6) ≤ 0 → (ok_Mo_earliestOf p1 now) ∧ lett (sp_Mo_earliestOf p1 now) fun (y7 : Int32) => ok_Mo_meanOf_37 now y7 o_4 big (0 : Int64) y7) ∧ (¬ ((o_4 6) ≤ 0) → True))
set_option maxRecDepth 100000 in
set_option maxHeartbeats 4000000 in
theorem k_Mo_meanOf_14 {p : Program} {l : Launch} {e : Env} {s : State} {m : MethodId} {args : Array Value} {below : List Frame} {meth : Method} {c : Code} {g : GX} {mo : Nat} {a : Nat → Nat} {ws0 : va_W} {o : IV} {now : LV} {dr : LV} {pa : LV} {sa : LV} {iS : IV} {bu : IV} {tq : IV} {rT : IV} {wT : IV} {sK : IV} {sA : IV} {sB : IV} {sE : IV} {oq : IV} {bS : IV} {bE : IV} {bL : IV} {rp : IV} {p1 : Int32}  (C : Cx p s m args meth c (inW ws0) g "DecadeBridgeModel" b_Mo_meanOf (some .double) 6)  : HL_Mo_meanOf_14 p l e s m args below meth c g mo a ws0 o now dr pa sa iS bu tq rT wT sK sA sB sE oq bS bE bL rp p1 (sp_Mo_meanOf_14 o p1 now ) (ok_Mo_meanOf_14 o p1 now  ) := by
  intro t1p14 hok z hz H locs ls hP hD hS hl
  obtain ⟨hx, hb, hr, hml, hown, hlk, hts, hK, hZo, hZ⟩ := id C
  unfold sp_Mo_meanOf_14 at hz
  unfold ok_Mo_meanOf_14 at hok
  refine pfI C hP hD hS 0 6 fkMo rfl (by decide) rfl qf_Mo_107 rfl rfl rfl (Nat.le_of_ble_eq_true rfl) (ff := fun o => fMo a o) (sMo_6 _ _ _) d_Mo_meanOf_14 (fun o_4 eo_4 H locs hP hD hS => ?_)
  have hP : va_P g.1 vwCl (wMo g mo a o_4 now dr pa sa iS bu tq rT wT sK sA sB sE oq bS bE bL rp) H := hP
  have hD : va_D (inW ws0) (wMo g mo a o_4 now dr pa sa iS bu tq rT wT sK sA sB sE oq bS bE bL rp) := hD
  have hz := lett_z hz eo_4
  have hok := lett_o hok eo_4
  refine lv_aload_n hx hb d_Mo_meanOf_17 rfl (lv_at hl 0 rfl) ?_
  refine gf C hP 0 6 fkMo rfl (by decide) rfl qf_Mo_107 (gMo_6 _ _) d_Mo_meanOf_18 ?_
  refine lv_if_le (tgt := 26) hx hb d_Mo_meanOf_21 (by decide) (fun c5 => ?_) (fun c5 => ?_)
  · have hz := hz.trans (if_pos c5)
    have hok := hok.1 c5
    refine lv_aload_n hx hb d_Mo_meanOf_26 rfl (lv_at hl 0 rfl) ?_
    refine lv_iload_n hx hb d_Mo_meanOf_27 rfl (lv_at hl 1 rfl) ?_
    have hs6 := hok.1
    have hok := hok.2
    have hB : SubW g (inW ws0) s (wMo g mo a o_4 now dr pa sa iS bu tq rT wT sK sA sB sE oq bS bE bL rp) _ (List.range _) _ _ := (subF hP hD hS)
    refine goI0 hB (run_v C mf_Mo_earliestOf qm_Mo_446 (c_Mo_earliestOf l g mo a o_4 now dr pa sa iS bu tq rT wT sK sA sB sE oq bS bE bL rp p1 hs6) rfl rfl ⟨Nat.le_of_ble_eq_true rfl, Nat.le_of_ble_eq_true rfl⟩ ⟨Nat.le_of_ble_eq_true rfl, Nat.le_of_ble_eq_true rfl⟩ hB rfl rfl hl rfl rfl (Nat.le_of_ble_eq_true rfl) d_Mo_meanOf_28) (fun y7 ey7 H locs hP hS => ?_)
    have hz := lett_z hz ey7
    have hok := lett_o hok ey7
    refine lv_istore_n (lv' := [(2, .int y7), (0, .ref mo), (1, .int p1)]) hx hb d_Mo_meanOf_31 rfl hl (by decide) rfl (fun ls hl => ?_)
    refine lv_lconst (v := 0) hx hb d_Mo_meanOf_32 (by decide) ?_
    refine lv_lstore_n (lv' := [(3, .long (0 : Int64)), (2, .int y7), (0, .ref mo), (1, .int p1)]) hx hb d_Mo_meanOf_33 rfl hl (by decide) rfl (fun ls hl => ?_)
    refine lv_iload_n hx hb d_Mo_meanOf_34 rfl (lv_at hl 1 rfl) ?_
    refine lv_istore (lv' := [(5, .int y7), (3, .long (0 : Int64)), (2, .int y7), (0, .ref mo), (1, .int p1)]) hx hb d_Mo_meanOf_35 hl (by decide) rfl (fun ls hl => ?_)
    exact k_Mo_meanOf_37 C big (0 : Int64) y7 hok _ hz _ _ ls hP hD hS (lv_sub hl [3, 2, 1, 0] rfl)
  · have hz := hz.trans (if_neg c5)
    refine lv_dconst0 hx hb d_Mo_meanOf_24 ?_
    exact endD1 C hz hP hS d_Mo_meanOf_25
noncomputable def sp_Mo_meanOf (p1 : Int32) (o : IV) (now : LV) : UInt64 × IV := lett (sp_Mo_isManner p1 now) fun (y2 : Int32) => if y2 = 0 then (sp_Mo_meanOf_14 o p1 now (1 : Int32)) else (sp_Mo_meanOf_14 o p1 now (0 : Int32))
def ok_Mo_meanOf (p1 : Int32) (o : IV) (now : LV) : Prop := (ok_Mo_isManner p1 now) ∧ lett (sp_Mo_isManner p1 now) fun (y2 : Int32) => ((y2 = 0 → ok_Mo_meanOf_14 o p1 now (1 : Int32)) ∧ (¬ (y2 = 0) → ok_Mo_meanOf_14 o p1 now (0 : Int32)))
set_option maxRecDepth 100000 in
set_option maxHeartbeats 4000000 in
theorem c_Mo_meanOf (l : Launch) (g : GX) (mo : Nat) (a : Nat → Nat) (o : IV) (now : LV) (dr : LV) (pa : LV) (sa : LV) (iS : IV) (bu : IV) (tq : IV) (rT : IV) (wT : IV) (sK : IV) (sA : IV) (sB : IV) (sE : IV) (oq : IV) (bS : IV) (bE : IV) (bL : IV) (rp : IV) (p1 : Int32) (hok : ok_Mo_meanOf p1 o now) : Met l y_Mo_meanOf (wsY y_Mo_meanOf b_Mo_meanOf 6 (some .double)) rm_Mo_meanOf (CP g [.ref mo, .int p1] (wMo g mo a o now dr pa sa iS bu tq rT wT sK sA sB sE oq bS bE bL rp)) (CD g (wMo g mo a o now dr pa sa iS bu tq rT wT sK sA sB sE oq bS bE bL rp) (fun u : IV => wMo g mo a u now dr pa sa iS bu tq rT wT sK sA sB sE oq bS bE bL rp) (sp_Mo_meanOf p1 o now)) 0 0 (inW (wMo g mo a o now dr pa sa iS bu tq rT wT sK sA sB sE oq bS bE bL rp)) := by
  refine Met.ofW (cc := b_Mo_meanOf) (maxL := 6) (ret := (some .double)) pn_Mo rfl ?_
  intro p e s m args below meth c s₁ B hml hv
  obtain ⟨rfl, C, hP, hD, hS⟩ := enter "DecadeBridgeModel" rfl B hml hv
  obtain ⟨hx, hb, hr, hml, hown, hlk, hts, hK, hZo, hZ⟩ := id C
  refine entryW (lv := [(0, .ref mo), (1, .int p1)]) rfl (Nat.le_of_ble_eq_true rfl) (fun ls hl => ?_)
  obtain ⟨z, hz⟩ : ∃ z, z = sp_Mo_meanOf p1 o now := ⟨_, rfl⟩
  rw [← hz]
  unfold sp_Mo_meanOf at hz
  unfold ok_Mo_meanOf at hok
  refine lv_aload_n hx hb d_Mo_meanOf_0 rfl (lv_at hl 0 rfl) ?_
  refine lv_aload_n hx hb d_Mo_meanOf_1 rfl (lv_at hl 0 rfl) ?_
  refine lv_iload_n hx hb d_Mo_meanOf_2 rfl (lv_at hl 1 rfl) ?_
  have hs1 := hok.1
  have hok := hok.2
  have hB : SubW g (inW (wMo g mo a o now dr pa sa iS bu tq rT wT sK sA sB sE oq bS bE bL rp)) s (wMo g mo a o now dr pa sa iS bu tq rT wT sK sA sB sE oq bS bE bL rp) _ (List.range _) _ _ := (subF hP hD hS)
  refine goI0 hB (run_v C mf_Mo_isManner qm_Mo_441 (c_Mo_isManner l g mo a o now dr pa sa iS bu tq rT wT sK sA sB sE oq bS bE bL rp p1 hs1) rfl rfl ⟨Nat.le_of_ble_eq_true rfl, Nat.le_of_ble_eq_true rfl⟩ ⟨Nat.le_of_ble_eq_true rfl, Nat.le_of_ble_eq_true rfl⟩ hB rfl rfl hl rfl rfl (Nat.le_of_ble_eq_true rfl) d_Mo_meanOf_3) (fun y2 ey2 H locs hP hS => ?_)
  have hz := lett_z hz ey2
  have hok := lett_o hok ey2
  refine lv_if_eq (tgt := 13) hx hb d_Mo_meanOf_6 (by decide) (fun c3 => ?_) (fun c3 => ?_)
  · have hz := hz.trans (if_pos c3)
    have hok := hok.1 c3
    refine lv_iconst (v := 1) hx hb d_Mo_meanOf_13 (by decide) ?_
    exact k_Mo_meanOf_14 C (1 : Int32) hok _ hz _ _ ls hP hD hS hl
  · have hz := hz.trans (if_neg c3)
    have hok := hok.2 c3
    refine lv_iconst (v := 0) hx hb d_Mo_meanOf_9 (by decide) ?_
    refine lv_goto (tgt := 14) hx hb d_Mo_meanOf_10 (by decide) ?_
    exact k_Mo_meanOf_14 C (0 : Int32) hok _ hz _ _ ls hP hD hS hl
abbrev rm_Mo_spreadOf : Room := { frames := 6, cells := 0, slots := 0, locals := 130 }
def HL_Mo_spreadOf_14 (p : Program) (l : Launch) (e : Env) (s : State) (m : MethodId) (args : Array Value) (below : List Frame) (meth : Method) (c : Code) (g : GX) (mo : Nat) (a : Nat → Nat) (ws0 : va_W) (o : IV) (now : LV) (dr : LV) (pa : LV) (sa : LV) (iS : IV) (bu : IV) (tq : IV) (rT : IV) (wT : IV) (sK : IV) (sA : IV) (sB : IV) (sE : IV) (oq : IV) (bS : IV) (bE : IV) (bL : IV) (rp : IV) (p1 : Int32) (sp : Int32 → (Int64 × IV)) (ok : Int32 → Prop) : Prop := ∀ (t1p14 : Int32), ok t1p14 → ∀ z : (Int64 × IV), z = sp t1p14 → ∀ (H : Heap) (locs : List Loc) (ls : Array Slot), va_P g.1 vwCl (wMo g mo a o now dr pa sa iS bu tq rT wT sK sA sB sE oq bS bE bL rp) H → va_D (inW ws0) (wMo g mo a o now dr pa sa iS bu tq rT wT sK sA sB sE oq bS bE bL rp) → va_S (inW ws0) s.heap H locs → lv_has ls 2 [(0, .ref mo), (1, .int p1)] → W p l e rm_Mo_spreadOf s m args below meth c H locs 0 0 (MQ below (CL g ws0 (fun u : IV => wMo g mo a u now dr pa sa iS bu tq rT wT sK sA sB sE oq bS bE bL rp) z) args s 0 0 (inW ws0)) (F0 m 14 ls [.int t1p14, .ref mo])
noncomputable def sp_Mo_spreadOf_14 (o : IV) (p1 : Int32) (now : LV)  (t1p14 : Int32) : Int64 × IV := lett (upd o 6 t1p14) fun (o_4 : IV) => if (o_4 6) ≤ 0 then (lett (sp_Mo_earliestOf p1 now) fun (y7 : Int32) => lett (sp_Mo_spreadFrom y7 now) fun (y9 : Int64) => (y9, o_4)) else (((0 : Int64), o_4))
def ok_Mo_spreadOf_14 (o : IV) (p1 : Int32) (now : LV)   (t1p14 : Int32) : Prop := lett (upd o 6 t1p14) fun (o_4 : IV) => (((o_4 6) ≤ 0 → (ok_Mo_earliestOf p1 now) ∧ lett (sp_Mo_earliestOf p1 now) fun (y7 : Int32) => (ok_Mo_spreadFrom y7 now) ∧ True) ∧ (¬ ((o_4 6) ≤ 0) → True))
set_option maxRecDepth 100000 in
set_option maxHeartbeats 4000000 in
theorem k_Mo_spreadOf_14 {p : Program} {l : Launch} {e : Env} {s : State} {m : MethodId} {args : Array Value} {below : List Frame} {meth : Method} {c : Code} {g : GX} {mo : Nat} {a : Nat → Nat} {ws0 : va_W} {o : IV} {now : LV} {dr : LV} {pa : LV} {sa : LV} {iS : IV} {bu : IV} {tq : IV} {rT : IV} {wT : IV} {sK : IV} {sA : IV} {sB : IV} {sE : IV} {oq : IV} {bS : IV} {bE : IV} {bL : IV} {rp : IV} {p1 : Int32}  (C : Cx p s m args meth c (inW ws0) g "DecadeBridgeModel" b_Mo_spreadOf (some .long) 2)  : HL_Mo_spreadOf_14 p l e s m args below meth c g mo a ws0 o now dr pa sa iS bu tq rT wT sK sA sB sE oq bS bE bL rp p1 (sp_Mo_spreadOf_14 o p1 now ) (ok_Mo_spreadOf_14 o p1 now  ) := by
  intro t1p14 hok z hz H locs ls hP hD hS hl
  obtain ⟨hx, hb, hr, hml, hown, hlk, hts, hK, hZo, hZ⟩ := id C
  unfold sp_Mo_spreadOf_14 at hz
  unfold ok_Mo_spreadOf_14 at hok
  refine pfI C hP hD hS 0 6 fkMo rfl (by decide) rfl qf_Mo_107 rfl rfl rfl (Nat.le_of_ble_eq_true rfl) (ff := fun o => fMo a o) (sMo_6 _ _ _) d_Mo_spreadOf_14 (fun o_4 eo_4 H locs hP hD hS => ?_)
  have hP : va_P g.1 vwCl (wMo g mo a o_4 now dr pa sa iS bu tq rT wT sK sA sB sE oq bS bE bL rp) H := hP
  have hD : va_D (inW ws0) (wMo g mo a o_4 now dr pa sa iS bu tq rT wT sK sA sB sE oq bS bE bL rp) := hD
  have hz := lett_z hz eo_4
  have hok := lett_o hok eo_4
  refine lv_aload_n hx hb d_Mo_spreadOf_17 rfl (lv_at hl 0 rfl) ?_
  refine gf C hP 0 6 fkMo rfl (by decide) rfl qf_Mo_107 (gMo_6 _ _) d_Mo_spreadOf_18 ?_
  refine lv_if_le (tgt := 28) hx hb d_Mo_spreadOf_21 (by decide) (fun c5 => ?_) (fun c5 => ?_)
  · have hz := hz.trans (if_pos c5)
    have hok := hok.1 c5
    refine lv_aload_n hx hb d_Mo_spreadOf_28 rfl (lv_at hl 0 rfl) ?_
    refine lv_aload_n hx hb d_Mo_spreadOf_29 rfl (lv_at hl 0 rfl) ?_
    refine lv_iload_n hx hb d_Mo_spreadOf_30 rfl (lv_at hl 1 rfl) ?_
    have hs6 := hok.1
    have hok := hok.2
    have hB : SubW g (inW ws0) s (wMo g mo a o_4 now dr pa sa iS bu tq rT wT sK sA sB sE oq bS bE bL rp) _ (List.range _) _ _ := (subF hP hD hS)
    refine goI0 hB (run_v C mf_Mo_earliestOf qm_Mo_446 (c_Mo_earliestOf l g mo a o_4 now dr pa sa iS bu tq rT wT sK sA sB sE oq bS bE bL rp p1 hs6) rfl rfl ⟨Nat.le_of_ble_eq_true rfl, Nat.le_of_ble_eq_true rfl⟩ ⟨Nat.le_of_ble_eq_true rfl, Nat.le_of_ble_eq_true rfl⟩ hB rfl rfl hl rfl rfl (Nat.le_of_ble_eq_true rfl) d_Mo_spreadOf_31) (fun y7 ey7 H locs hP hS => ?_)
    have hz := lett_z hz ey7
    have hok := lett_o hok ey7
    have hs8 := hok.1
    have hok := hok.2
    have hB : SubW g (inW ws0) s (wMo g mo a o_4 now dr pa sa iS bu tq rT wT sK sA sB sE oq bS bE bL rp) _ (List.range _) _ _ := (subF hP hD hS)
    refine goL0 hB (run_v C mf_Mo_spreadFrom qm_Mo_455 (c_Mo_spreadFrom l g mo a o_4 now dr pa sa iS bu tq rT wT sK sA sB sE oq bS bE bL rp y7 hs8) rfl rfl ⟨Nat.le_of_ble_eq_true rfl, Nat.le_of_ble_eq_true rfl⟩ ⟨Nat.le_of_ble_eq_true rfl, Nat.le_of_ble_eq_true rfl⟩ hB rfl rfl hl rfl rfl (Nat.le_of_ble_eq_true rfl) d_Mo_spreadOf_34) (fun y9 ey9 H locs hP hS => ?_)
    have hz := lett_z hz ey9
    exact endL1 C hz hP hS d_Mo_spreadOf_37
  · have hz := hz.trans (if_neg c5)
    refine lv_lconst (v := 0) hx hb d_Mo_spreadOf_24 (by decide) ?_
    refine lv_goto (tgt := 37) hx hb d_Mo_spreadOf_25 (by decide) ?_
    exact endL1 C hz hP hS d_Mo_spreadOf_37
noncomputable def sp_Mo_spreadOf (p1 : Int32) (o : IV) (now : LV) : Int64 × IV := lett (sp_Mo_isManner p1 now) fun (y2 : Int32) => if y2 = 0 then (sp_Mo_spreadOf_14 o p1 now (1 : Int32)) else (sp_Mo_spreadOf_14 o p1 now (0 : Int32))
def ok_Mo_spreadOf (p1 : Int32) (o : IV) (now : LV) : Prop := (ok_Mo_isManner p1 now) ∧ lett (sp_Mo_isManner p1 now) fun (y2 : Int32) => ((y2 = 0 → ok_Mo_spreadOf_14 o p1 now (1 : Int32)) ∧ (¬ (y2 = 0) → ok_Mo_spreadOf_14 o p1 now (0 : Int32)))
set_option maxRecDepth 100000 in
set_option maxHeartbeats 4000000 in
theorem c_Mo_spreadOf (l : Launch) (g : GX) (mo : Nat) (a : Nat → Nat) (o : IV) (now : LV) (dr : LV) (pa : LV) (sa : LV) (iS : IV) (bu : IV) (tq : IV) (rT : IV) (wT : IV) (sK : IV) (sA : IV) (sB : IV) (sE : IV) (oq : IV) (bS : IV) (bE : IV) (bL : IV) (rp : IV) (p1 : Int32) (hok : ok_Mo_spreadOf p1 o now) : Met l y_Mo_spreadOf (wsY y_Mo_spreadOf b_Mo_spreadOf 2 (some .long)) rm_Mo_spreadOf (CP g [.ref mo, .int p1] (wMo g mo a o now dr pa sa iS bu tq rT wT sK sA sB sE oq bS bE bL rp)) (CL g (wMo g mo a o now dr pa sa iS bu tq rT wT sK sA sB sE oq bS bE bL rp) (fun u : IV => wMo g mo a u now dr pa sa iS bu tq rT wT sK sA sB sE oq bS bE bL rp) (sp_Mo_spreadOf p1 o now)) 0 0 (inW (wMo g mo a o now dr pa sa iS bu tq rT wT sK sA sB sE oq bS bE bL rp)) := by
  refine Met.ofW (cc := b_Mo_spreadOf) (maxL := 2) (ret := (some .long)) pn_Mo rfl ?_
  intro p e s m args below meth c s₁ B hml hv
  obtain ⟨rfl, C, hP, hD, hS⟩ := enter "DecadeBridgeModel" rfl B hml hv
  obtain ⟨hx, hb, hr, hml, hown, hlk, hts, hK, hZo, hZ⟩ := id C
  refine entryW (lv := [(0, .ref mo), (1, .int p1)]) rfl (Nat.le_of_ble_eq_true rfl) (fun ls hl => ?_)
  obtain ⟨z, hz⟩ : ∃ z, z = sp_Mo_spreadOf p1 o now := ⟨_, rfl⟩
  rw [← hz]
  unfold sp_Mo_spreadOf at hz
  unfold ok_Mo_spreadOf at hok
  refine lv_aload_n hx hb d_Mo_spreadOf_0 rfl (lv_at hl 0 rfl) ?_
  refine lv_aload_n hx hb d_Mo_spreadOf_1 rfl (lv_at hl 0 rfl) ?_
  refine lv_iload_n hx hb d_Mo_spreadOf_2 rfl (lv_at hl 1 rfl) ?_
  have hs1 := hok.1
  have hok := hok.2
  have hB : SubW g (inW (wMo g mo a o now dr pa sa iS bu tq rT wT sK sA sB sE oq bS bE bL rp)) s (wMo g mo a o now dr pa sa iS bu tq rT wT sK sA sB sE oq bS bE bL rp) _ (List.range _) _ _ := (subF hP hD hS)
  refine goI0 hB (run_v C mf_Mo_isManner qm_Mo_441 (c_Mo_isManner l g mo a o now dr pa sa iS bu tq rT wT sK sA sB sE oq bS bE bL rp p1 hs1) rfl rfl ⟨Nat.le_of_ble_eq_true rfl, Nat.le_of_ble_eq_true rfl⟩ ⟨Nat.le_of_ble_eq_true rfl, Nat.le_of_ble_eq_true rfl⟩ hB rfl rfl hl rfl rfl (Nat.le_of_ble_eq_true rfl) d_Mo_spreadOf_3) (fun y2 ey2 H locs hP hS => ?_)
  have hz := lett_z hz ey2
  have hok := lett_o hok ey2
  refine lv_if_eq (tgt := 13) hx hb d_Mo_spreadOf_6 (by decide) (fun c3 => ?_) (fun c3 => ?_)
  · have hz := hz.trans (if_pos c3)
    have hok := hok.1 c3
    refine lv_iconst (v := 1) hx hb d_Mo_spreadOf_13 (by decide) ?_
    exact k_Mo_spreadOf_14 C (1 : Int32) hok _ hz _ _ ls hP hD hS hl
  · have hz := hz.trans (if_neg c3)
    have hok := hok.2 c3
    refine lv_iconst (v := 0) hx hb d_Mo_spreadOf_9 (by decide) ?_
    refine lv_goto (tgt := 14) hx hb d_Mo_spreadOf_10 (by decide) ?_
    exact k_Mo_spreadOf_14 C (0 : Int32) hok _ hz _ _ ls hP hD hS hl
abbrev rm_Mo_steadiest : Room := { frames := 5, cells := 0, slots := 0, locals := 110 }
def HL_Mo_steadiest_9 (p : Program) (l : Launch) (e : Env) (s : State) (m : MethodId) (args : Array Value) (below : List Frame) (meth : Method) (c : Code) (g : GX) (mo : Nat) (a : Nat → Nat) (ws0 : va_W) (o_1 : IV) (now : LV) (dr : LV) (pa : LV) (sa : LV) (iS : IV) (bu : IV) (tq : IV) (rT : IV) (wT : IV) (sK : IV) (sA : IV) (sB : IV) (sE : IV) (oq : IV) (bS : IV) (bE : IV) (bL : IV) (rp : IV) (sp : Int32 → Int32 → (Int32 × IV)) (ok : Int32 → Int32 → Prop) : Prop := ∀ (x1p9 : Int32) (x2p9 : Int32), ok x1p9 x2p9 → ∀ z : (Int32 × IV), z = sp x1p9 x2p9 → ∀ (H : Heap) (locs : List Loc) (ls : Array Slot), va_P g.1 vwCl (wMo g mo a o_1 now dr pa sa iS bu tq rT wT sK sA sB sE oq bS bE bL rp) H → va_D (inW ws0) (wMo g mo a o_1 now dr pa sa iS bu tq rT wT sK sA sB sE oq bS bE bL rp) → va_S (inW ws0) s.heap H locs → lv_has ls 4 [(0, .ref mo), (1, .int x1p9), (2, .int x2p9)] → W p l e rm_Mo_steadiest s m args below meth c H locs 0 0 (MQ below (CI g ws0 (fun u : IV => wMo g mo a u now dr pa sa iS bu tq rT wT sK sA sB sE oq bS bE bL rp) z) args s 0 0 (inW ws0)) (F0 m 9 ls [])
def HL_Mo_steadiest_35 (p : Program) (l : Launch) (e : Env) (s : State) (m : MethodId) (args : Array Value) (below : List Frame) (meth : Method) (c : Code) (g : GX) (mo : Nat) (a : Nat → Nat) (ws0 : va_W) (o_1 : IV) (now : LV) (dr : LV) (pa : LV) (sa : LV) (iS : IV) (bu : IV) (tq : IV) (rT : IV) (wT : IV) (sK : IV) (sA : IV) (sB : IV) (sE : IV) (oq : IV) (bS : IV) (bE : IV) (bL : IV) (rp : IV) (x1p9 : Int32) (x2p9 : Int32) (sp : Int32 → (Int32 × IV)) (ok : Int32 → Prop) : Prop := ∀ (t0p35 : Int32), ok t0p35 → ∀ z : (Int32 × IV), z = sp t0p35 → ∀ (H : Heap) (locs : List Loc) (ls : Array Slot), va_P g.1 vwCl (wMo g mo a o_1 now dr pa sa iS bu tq rT wT sK sA sB sE oq bS bE bL rp) H → va_D (inW ws0) (wMo g mo a o_1 now dr pa sa iS bu tq rT wT sK sA sB sE oq bS bE bL rp) → va_S (inW ws0) s.heap H locs → lv_has ls 4 [(0, .ref mo), (1, .int x1p9), (2, .int x2p9)] → W p l e rm_Mo_steadiest s m args below meth c H locs 0 0 (MQ below (CI g ws0 (fun u : IV => wMo g mo a u now dr pa sa iS bu tq rT wT sK sA sB sE oq bS bE bL rp) z) args s 0 0 (inW ws0)) (F0 m 35 ls [.int t0p35])
def HL_Mo_steadiest_67 (p : Program) (l : Launch) (e : Env) (s : State) (m : MethodId) (args : Array Value) (below : List Frame) (meth : Method) (c : Code) (g : GX) (mo : Nat) (a : Nat → Nat) (ws0 : va_W) (o_1 : IV) (now : LV) (dr : LV) (pa : LV) (sa : LV) (iS : IV) (bu : IV) (tq : IV) (rT : IV) (wT : IV) (sK : IV) (sA : IV) (sB : IV) (sE : IV) (oq : IV) (bS : IV) (bE : IV) (bL : IV) (rp : IV) (x2p9 : Int32) (sp : (Int32 × IV)) (ok : Prop) : Prop := ∀ (_ : Unit), ok → ∀ z : (Int32 × IV), z = sp → ∀ (H : Heap) (locs : List Loc) (ls : Array Slot), va_P g.1 vwCl (wMo g mo a o_1 now dr pa sa iS bu tq rT wT sK sA sB sE oq bS bE bL rp) H → va_D (inW ws0) (wMo g mo a o_1 now dr pa sa iS bu tq rT wT sK sA sB sE oq bS bE bL rp) → va_S (inW ws0) s.heap H locs → lv_has ls 4 [(0, .ref mo), (2, .int x2p9)] → W p l e rm_Mo_steadiest s m args below meth c H locs 0 0 (MQ below (CI g ws0 (fun u : IV => wMo g mo a u now dr pa sa iS bu tq rT wT sK sA sB sE oq bS bE bL rp) z) args s 0 0 (inW ws0)) (F0 m 67 ls [])
def HL_Mo_steadiest_71 (p : Program) (l : Launch) (e : Env) (s : State) (m : MethodId) (args : Array Value) (below : List Frame) (meth : Method) (c : Code) (g : GX) (mo : Nat) (a : Nat → Nat) (ws0 : va_W) (o_1 : IV) (now : LV) (dr : LV) (pa : LV) (sa : LV) (iS : IV) (bu : IV) (tq : IV) (rT : IV) (wT : IV) (sK : IV) (sA : IV) (sB : IV) (sE : IV) (oq : IV) (bS : IV) (bE : IV) (bL : IV) (rp : IV) (x1p9 : Int32) (x2p9 : Int32) (sp : (Int32 × IV)) (ok : Prop) : Prop := ∀ (_ : Unit), ok → ∀ z : (Int32 × IV), z = sp → ∀ (H : Heap) (locs : List Loc) (ls : Array Slot), va_P g.1 vwCl (wMo g mo a o_1 now dr pa sa iS bu tq rT wT sK sA sB sE oq bS bE bL rp) H → va_D (inW ws0) (wMo g mo a o_1 now dr pa sa iS bu tq rT wT sK sA sB sE oq bS bE bL rp) → va_S (inW ws0) s.heap H locs → lv_has ls 4 [(0, .ref mo), (1, .int x1p9), (2, .int x2p9)] → W p l e rm_Mo_steadiest s m args below meth c H locs 0 0 (MQ below (CI g ws0 (fun u : IV => wMo g mo a u now dr pa sa iS bu tq rT wT sK sA sB sE oq bS bE bL rp) z) args s 0 0 (inW ws0)) (F0 m 71 ls [])
def HL_Mo_steadiest_72 (p : Program) (l : Launch) (e : Env) (s : State) (m : MethodId) (args : Array Value) (below : List Frame) (meth : Method) (c : Code) (g : GX) (mo : Nat) (a : Nat → Nat) (ws0 : va_W) (o_1 : IV) (now : LV) (dr : LV) (pa : LV) (sa : LV) (iS : IV) (bu : IV) (tq : IV) (rT : IV) (wT : IV) (sK : IV) (sA : IV) (sB : IV) (sE : IV) (oq : IV) (bS : IV) (bE : IV) (bL : IV) (rp : IV) (x2p9 : Int32) (sp : Int32 → (Int32 × IV)) (ok : Int32 → Prop) : Prop := ∀ (t0p72 : Int32), ok t0p72 → ∀ z : (Int32 × IV), z = sp t0p72 → ∀ (H : Heap) (locs : List Loc) (ls : Array Slot), va_P g.1 vwCl (wMo g mo a o_1 now dr pa sa iS bu tq rT wT sK sA sB sE oq bS bE bL rp) H → va_D (inW ws0) (wMo g mo a o_1 now dr pa sa iS bu tq rT wT sK sA sB sE oq bS bE bL rp) → va_S (inW ws0) s.heap H locs → lv_has ls 4 [(0, .ref mo), (2, .int x2p9)] → W p l e rm_Mo_steadiest s m args below meth c H locs 0 0 (MQ below (CI g ws0 (fun u : IV => wMo g mo a u now dr pa sa iS bu tq rT wT sK sA sB sE oq bS bE bL rp) z) args s 0 0 (inW ws0)) (F0 m 72 ls [.int t0p72])
noncomputable def sp_Mo_steadiest_72 (x2p9 : Int32) (r9 : Int32 → Int32 → (Int32 × IV)) (t0p72 : Int32) : Int32 × IV := lett (x2p9 + (1 : Int32)) fun (v21 : Int32) => r9 t0p72 v21
def ok_Mo_steadiest_72 (x2p9 : Int32) (r9 : Int32 → Int32 → (Int32 × IV)) (q9 : Int32 → Int32 → Prop) (t0p72 : Int32) : Prop := lett (x2p9 + (1 : Int32)) fun (v21 : Int32) => q9 t0p72 v21
set_option maxRecDepth 100000 in
set_option maxHeartbeats 4000000 in
theorem k_Mo_steadiest_72 {p : Program} {l : Launch} {e : Env} {s : State} {m : MethodId} {args : Array Value} {below : List Frame} {meth : Method} {c : Code} {g : GX} {mo : Nat} {a : Nat → Nat} {ws0 : va_W} {o_1 : IV} {now : LV} {dr : LV} {pa : LV} {sa : LV} {iS : IV} {bu : IV} {tq : IV} {rT : IV} {wT : IV} {sK : IV} {sA : IV} {sB : IV} {sE : IV} {oq : IV} {bS : IV} {bE : IV} {bL : IV} {rp : IV} {x2p9 : Int32} {r9 : Int32 → Int32 → (Int32 × IV)} {q9 : Int32 → Int32 → Prop} (C : Cx p s m args meth c (inW ws0) g "DecadeBridgeModel" b_Mo_steadiest (some .int) 4) (ih9 : HL_Mo_steadiest_9 p l e s m args below meth c g mo a ws0 o_1 now dr pa sa iS bu tq rT wT sK sA sB sE oq bS bE bL rp r9 q9) : HL_Mo_steadiest_72 p l e s m args below meth c g mo a ws0 o_1 now dr pa sa iS bu tq rT wT sK sA sB sE oq bS bE bL rp x2p9 (sp_Mo_steadiest_72 x2p9 r9) (ok_Mo_steadiest_72 x2p9 r9 q9) := by
  intro t0p72 hok z hz H locs ls hP hD hS hl
  obtain ⟨hx, hb, hr, hml, hown, hlk, hts, hK, hZo, hZ⟩ := id C
  unfold sp_Mo_steadiest_72 at hz
  unfold ok_Mo_steadiest_72 at hok
  refine lv_istore_n (lv' := [(1, .int t0p72), (0, .ref mo), (2, .int x2p9)]) hx hb d_Mo_steadiest_72 rfl hl (by decide) rfl (fun ls hl => ?_)
  obtain ⟨v21, ev21⟩ : ∃ y : Int32, y = x2p9 + (1 : Int32) := ⟨_, rfl⟩
  have hz := lett_z hz ev21
  have hok := lett_o hok ev21
  refine lv_iinc (v := v21) (lv' := [(2, .int v21), (1, .int t0p72), (0, .ref mo)]) hx hb d_Mo_steadiest_73 hl (k := 2) rfl (by rw [ev21]; rfl) (by decide) rfl (fun ls hl => ?_)
  refine lv_goto (tgt := 9) hx hb d_Mo_steadiest_76 (by decide) ?_
  exact ih9 t0p72 v21 hok _ hz _ _ ls hP hD hS (lv_sub hl [2, 1, 0] rfl)
noncomputable def sp_Mo_steadiest_71 (x2p9 : Int32) (x1p9 : Int32) (r9 : Int32 → Int32 → (Int32 × IV))  : Int32 × IV := sp_Mo_steadiest_72 x2p9 r9 x1p9
def ok_Mo_steadiest_71 (x2p9 : Int32) (x1p9 : Int32) (r9 : Int32 → Int32 → (Int32 × IV)) (q9 : Int32 → Int32 → Prop)  : Prop := ok_Mo_steadiest_72 x2p9 r9 q9 x1p9
set_option maxRecDepth 100000 in
set_option maxHeartbeats 4000000 in
theorem k_Mo_steadiest_71 {p : Program} {l : Launch} {e : Env} {s : State} {m : MethodId} {args : Array Value} {below : List Frame} {meth : Method} {c : Code} {g : GX} {mo : Nat} {a : Nat → Nat} {ws0 : va_W} {o_1 : IV} {now : LV} {dr : LV} {pa : LV} {sa : LV} {iS : IV} {bu : IV} {tq : IV} {rT : IV} {wT : IV} {sK : IV} {sA : IV} {sB : IV} {sE : IV} {oq : IV} {bS : IV} {bE : IV} {bL : IV} {rp : IV} {x1p9 : Int32} {x2p9 : Int32} {r9 : Int32 → Int32 → (Int32 × IV)} {q9 : Int32 → Int32 → Prop} (C : Cx p s m args meth c (inW ws0) g "DecadeBridgeModel" b_Mo_steadiest (some .int) 4) (ih9 : HL_Mo_steadiest_9 p l e s m args below meth c g mo a ws0 o_1 now dr pa sa iS bu tq rT wT sK sA sB sE oq bS bE bL rp r9 q9) : HL_Mo_steadiest_71 p l e s m args below meth c g mo a ws0 o_1 now dr pa sa iS bu tq rT wT sK sA sB sE oq bS bE bL rp x1p9 x2p9 (sp_Mo_steadiest_71 x2p9 x1p9 r9) (ok_Mo_steadiest_71 x2p9 x1p9 r9 q9) := by
  intro _ hok z hz H locs ls hP hD hS hl
  obtain ⟨hx, hb, hr, hml, hown, hlk, hts, hK, hZo, hZ⟩ := id C
  unfold sp_Mo_steadiest_71 at hz
  unfold ok_Mo_steadiest_71 at hok
  refine lv_iload_n hx hb d_Mo_steadiest_71 rfl (lv_at hl 1 rfl) ?_
  exact k_Mo_steadiest_72 C ih9 x1p9 hok _ hz _ _ ls hP hD hS (lv_sub hl [0, 2] rfl)
noncomputable def sp_Mo_steadiest_67 (x2p9 : Int32) (r9 : Int32 → Int32 → (Int32 × IV))  : Int32 × IV := sp_Mo_steadiest_72 x2p9 r9 x2p9
def ok_Mo_steadiest_67 (x2p9 : Int32) (r9 : Int32 → Int32 → (Int32 × IV)) (q9 : Int32 → Int32 → Prop)  : Prop := ok_Mo_steadiest_72 x2p9 r9 q9 x2p9
set_option maxRecDepth 100000 in
set_option maxHeartbeats 4000000 in
theorem k_Mo_steadiest_67 {p : Program} {l : Launch} {e : Env} {s : State} {m : MethodId} {args : Array Value} {below : List Frame} {meth : Method} {c : Code} {g : GX} {mo : Nat} {a : Nat → Nat} {ws0 : va_W} {o_1 : IV} {now : LV} {dr : LV} {pa : LV} {sa : LV} {iS : IV} {bu : IV} {tq : IV} {rT : IV} {wT : IV} {sK : IV} {sA : IV} {sB : IV} {sE : IV} {oq : IV} {bS : IV} {bE : IV} {bL : IV} {rp : IV} {x2p9 : Int32} {r9 : Int32 → Int32 → (Int32 × IV)} {q9 : Int32 → Int32 → Prop} (C : Cx p s m args meth c (inW ws0) g "DecadeBridgeModel" b_Mo_steadiest (some .int) 4) (ih9 : HL_Mo_steadiest_9 p l e s m args below meth c g mo a ws0 o_1 now dr pa sa iS bu tq rT wT sK sA sB sE oq bS bE bL rp r9 q9) : HL_Mo_steadiest_67 p l e s m args below meth c g mo a ws0 o_1 now dr pa sa iS bu tq rT wT sK sA sB sE oq bS bE bL rp x2p9 (sp_Mo_steadiest_67 x2p9 r9) (ok_Mo_steadiest_67 x2p9 r9 q9) := by
  intro _ hok z hz H locs ls hP hD hS hl
  obtain ⟨hx, hb, hr, hml, hown, hlk, hts, hK, hZo, hZ⟩ := id C
  unfold sp_Mo_steadiest_67 at hz
  unfold ok_Mo_steadiest_67 at hok
  refine lv_iload_n hx hb d_Mo_steadiest_67 rfl (lv_at hl 1 rfl) ?_
  refine lv_goto (tgt := 72) hx hb d_Mo_steadiest_68 (by decide) ?_
  exact k_Mo_steadiest_72 C ih9 x2p9 hok _ hz _ _ ls hP hD hS hl
noncomputable def sp_Mo_steadiest_35 (x2p9 : Int32) (x1p9 : Int32) (now : LV) (r9 : Int32 → Int32 → (Int32 × IV)) (t0p35 : Int32) : Int32 × IV := if t0p35 = 0 then (sp_Mo_steadiest_71 x2p9 x1p9 r9) else (if x1p9 = (-1 : Int32) then (sp_Mo_steadiest_67 x2p9 r9) else (lett (sp_Mo_earliestOf x2p9 now) fun (y13 : Int32) => lett (sp_Mo_spreadFrom y13 now) fun (y15 : Int64) => lett (sp_Mo_earliestOf x1p9 now) fun (y17 : Int32) => lett (sp_Mo_spreadFrom y17 now) fun (y19 : Int64) => if y19 ≤ y15 then (sp_Mo_steadiest_71 x2p9 x1p9 r9) else (sp_Mo_steadiest_67 x2p9 r9)))
def ok_Mo_steadiest_35 (x2p9 : Int32) (x1p9 : Int32) (now : LV) (r9 : Int32 → Int32 → (Int32 × IV)) (q9 : Int32 → Int32 → Prop) (t0p35 : Int32) : Prop := ((t0p35 = 0 → ok_Mo_steadiest_71 x2p9 x1p9 r9 q9) ∧ (¬ (t0p35 = 0) → ((x1p9 = (-1 : Int32) → ok_Mo_steadiest_67 x2p9 r9 q9) ∧ (¬ (x1p9 = (-1 : Int32)) → (ok_Mo_earliestOf x2p9 now) ∧ lett (sp_Mo_earliestOf x2p9 now) fun (y13 : Int32) => (ok_Mo_spreadFrom y13 now) ∧ lett (sp_Mo_spreadFrom y13 now) fun (y15 : Int64) => (ok_Mo_earliestOf x1p9 now) ∧ lett (sp_Mo_earliestOf x1p9 now) fun (y17 : Int32) => (ok_Mo_spreadFrom y17 now) ∧ lett (sp_Mo_spreadFrom y17 now) fun (y19 : Int64) => ((y19 ≤ y15 → ok_Mo_steadiest_71 x2p9 x1p9 r9 q9) ∧ (¬ (y19 ≤ y15) → ok_Mo_steadiest_67 x2p9 r9 q9))))))
set_option maxRecDepth 100000 in
set_option maxHeartbeats 4000000 in
theorem k_Mo_steadiest_35 {p : Program} {l : Launch} {e : Env} {s : State} {m : MethodId} {args : Array Value} {below : List Frame} {meth : Method} {c : Code} {g : GX} {mo : Nat} {a : Nat → Nat} {ws0 : va_W} {o_1 : IV} {now : LV} {dr : LV} {pa : LV} {sa : LV} {iS : IV} {bu : IV} {tq : IV} {rT : IV} {wT : IV} {sK : IV} {sA : IV} {sB : IV} {sE : IV} {oq : IV} {bS : IV} {bE : IV} {bL : IV} {rp : IV} {x1p9 : Int32} {x2p9 : Int32} {r9 : Int32 → Int32 → (Int32 × IV)} {q9 : Int32 → Int32 → Prop} (C : Cx p s m args meth c (inW ws0) g "DecadeBridgeModel" b_Mo_steadiest (some .int) 4) (ih9 : HL_Mo_steadiest_9 p l e s m args below meth c g mo a ws0 o_1 now dr pa sa iS bu tq rT wT sK sA sB sE oq bS bE bL rp r9 q9) : HL_Mo_steadiest_35 p l e s m args below meth c g mo a ws0 o_1 now dr pa sa iS bu tq rT wT sK sA sB sE oq bS bE bL rp x1p9 x2p9 (sp_Mo_steadiest_35 x2p9 x1p9 now r9) (ok_Mo_steadiest_35 x2p9 x1p9 now r9 q9) := by
  intro t0p35 hok z hz H locs ls hP hD hS hl
  obtain ⟨hx, hb, hr, hml, hown, hlk, hts, hK, hZo, hZ⟩ := id C
  unfold sp_Mo_steadiest_35 at hz
  unfold ok_Mo_steadiest_35 at hok
  refine lv_istore_n (lv' := [(3, .int t0p35), (0, .ref mo), (1, .int x1p9), (2, .int x2p9)]) hx hb d_Mo_steadiest_35 rfl hl (by decide) rfl (fun ls hl => ?_)
  refine lv_iload_n hx hb d_Mo_steadiest_36 rfl (lv_at hl 0 rfl) ?_
  refine lv_if_eq (tgt := 71) hx hb d_Mo_steadiest_37 (by decide) (fun c10 => ?_) (fun c10 => ?_)
  · have hz := hz.trans (if_pos c10)
    have hok := hok.1 c10
    exact k_Mo_steadiest_71 C ih9 () hok _ hz _ _ ls hP hD hS (lv_sub hl [1, 2, 3] rfl)
  · have hz := hz.trans (if_neg c10)
    have hok := hok.2 c10
    refine lv_iload_n hx hb d_Mo_steadiest_40 rfl (lv_at hl 2 rfl) ?_
    refine lv_iconst (v := -1) hx hb d_Mo_steadiest_41 (by decide) ?_
    refine lv_icmp_eq (tgt := 67) hx hb d_Mo_steadiest_42 (by decide) (fun c11 => ?_) (fun c11 => ?_)
    · have hz := hz.trans (if_pos c11)
      have hok := hok.1 c11
      exact k_Mo_steadiest_67 C ih9 () hok _ hz _ _ ls hP hD hS (lv_sub hl [1, 3] rfl)
    · have hz := hz.trans (if_neg c11)
      have hok := hok.2 c11
      refine lv_aload_n hx hb d_Mo_steadiest_45 rfl (lv_at hl 1 rfl) ?_
      refine lv_aload_n hx hb d_Mo_steadiest_46 rfl (lv_at hl 1 rfl) ?_
      refine lv_iload_n hx hb d_Mo_steadiest_47 rfl (lv_at hl 3 rfl) ?_
      have hs12 := hok.1
      have hok := hok.2
      have hB : SubW g (inW ws0) s (wMo g mo a o_1 now dr pa sa iS bu tq rT wT sK sA sB sE oq bS bE bL rp) _ (List.range _) _ _ := (subF hP hD hS)
      refine goI0 hB (run_v C mf_Mo_earliestOf qm_Mo_446 (c_Mo_earliestOf l g mo a o_1 now dr pa sa iS bu tq rT wT sK sA sB sE oq bS bE bL rp x2p9 hs12) rfl rfl ⟨Nat.le_of_ble_eq_true rfl, Nat.le_of_ble_eq_true rfl⟩ ⟨Nat.le_of_ble_eq_true rfl, Nat.le_of_ble_eq_true rfl⟩ hB rfl rfl hl rfl rfl (Nat.le_of_ble_eq_true rfl) d_Mo_steadiest_48) (fun y13 ey13 H locs hP hS => ?_)
      have hz := lett_z hz ey13
      have hok := lett_o hok ey13
      have hs14 := hok.1
      have hok := hok.2
      have hB : SubW g (inW ws0) s (wMo g mo a o_1 now dr pa sa iS bu tq rT wT sK sA sB sE oq bS bE bL rp) _ (List.range _) _ _ := (subF hP hD hS)
      refine goL0 hB (run_v C mf_Mo_spreadFrom qm_Mo_455 (c_Mo_spreadFrom l g mo a o_1 now dr pa sa iS bu tq rT wT sK sA sB sE oq bS bE bL rp y13 hs14) rfl rfl ⟨Nat.le_of_ble_eq_true rfl, Nat.le_of_ble_eq_true rfl⟩ ⟨Nat.le_of_ble_eq_true rfl, Nat.le_of_ble_eq_true rfl⟩ hB rfl rfl hl rfl rfl (Nat.le_of_ble_eq_true rfl) d_Mo_steadiest_51) (fun y15 ey15 H locs hP hS => ?_)
      have hz := lett_z hz ey15
      have hok := lett_o hok ey15
      refine lv_aload_n hx hb d_Mo_steadiest_54 rfl (lv_at hl 1 rfl) ?_
      refine lv_aload_n hx hb d_Mo_steadiest_55 rfl (lv_at hl 1 rfl) ?_
      refine lv_iload_n hx hb d_Mo_steadiest_56 rfl (lv_at hl 2 rfl) ?_
      have hs16 := hok.1
      have hok := hok.2
      have hB : SubW g (inW ws0) s (wMo g mo a o_1 now dr pa sa iS bu tq rT wT sK sA sB sE oq bS bE bL rp) _ (List.range _) _ _ := (subF hP hD hS)
      refine goI0 hB (run_v C mf_Mo_earliestOf qm_Mo_446 (c_Mo_earliestOf l g mo a o_1 now dr pa sa iS bu tq rT wT sK sA sB sE oq bS bE bL rp x1p9 hs16) rfl rfl ⟨Nat.le_of_ble_eq_true rfl, Nat.le_of_ble_eq_true rfl⟩ ⟨Nat.le_of_ble_eq_true rfl, Nat.le_of_ble_eq_true rfl⟩ hB rfl rfl hl rfl rfl (Nat.le_of_ble_eq_true rfl) d_Mo_steadiest_57) (fun y17 ey17 H locs hP hS => ?_)
      have hz := lett_z hz ey17
      have hok := lett_o hok ey17
      have hs18 := hok.1
      have hok := hok.2
      have hB : SubW g (inW ws0) s (wMo g mo a o_1 now dr pa sa iS bu tq rT wT sK sA sB sE oq bS bE bL rp) _ (List.range _) _ _ := (subF hP hD hS)
      refine goL0 hB (run_v C mf_Mo_spreadFrom qm_Mo_455 (c_Mo_spreadFrom l g mo a o_1 now dr pa sa iS bu tq rT wT sK sA sB sE oq bS bE bL rp y17 hs18) rfl rfl ⟨Nat.le_of_ble_eq_true rfl, Nat.le_of_ble_eq_true rfl⟩ ⟨Nat.le_of_ble_eq_true rfl, Nat.le_of_ble_eq_true rfl⟩ hB rfl rfl hl rfl rfl (Nat.le_of_ble_eq_true rfl) d_Mo_steadiest_60) (fun y19 ey19 H locs hP hS => ?_)
      have hz := lett_z hz ey19
      have hok := lett_o hok ey19
      refine lc_ge (tgt := 71) hx hb d_Mo_steadiest_63 d_Mo_steadiest_64 (by decide) (fun c20 => ?_) (fun c20 => ?_)
      · have hz := hz.trans (if_pos c20)
        have hok := hok.1 c20
        exact k_Mo_steadiest_71 C ih9 () hok _ hz _ _ ls hP hD hS (lv_sub hl [1, 2, 3] rfl)
      · have hz := hz.trans (if_neg c20)
        have hok := hok.2 c20
        exact k_Mo_steadiest_67 C ih9 () hok _ hz _ _ ls hP hD hS (lv_sub hl [1, 3] rfl)
noncomputable def bd_Mo_steadiest_9 (now : LV) (o_1 : IV) (r9 : Int32 → Int32 → (Int32 × IV)) (x1p9 : Int32) (x2p9 : Int32) : Int32 × IV := lett (sp_Mo_manners now) fun (y3 : Int32) => if y3 ≤ x2p9 then ((x1p9, o_1)) else (lett (sp_Mo_earliestOf x2p9 now) fun (y6 : Int32) => lett (sp_Mo_resultsOf y6 now) fun (y8 : Int32) => if y8 ≤ (1 : Int32) then (sp_Mo_steadiest_35 x2p9 x1p9 now r9 (0 : Int32)) else (sp_Mo_steadiest_35 x2p9 x1p9 now r9 (1 : Int32)))
def okb_Mo_steadiest_9 (now : LV) (o_1 : IV) (r9 : Int32 → Int32 → (Int32 × IV)) (q9 : Int32 → Int32 → Prop) (x1p9 : Int32) (x2p9 : Int32) : Prop := (ok_Mo_manners now) ∧ lett (sp_Mo_manners now) fun (y3 : Int32) => ((y3 ≤ x2p9 → True) ∧ (¬ (y3 ≤ x2p9) → (ok_Mo_earliestOf x2p9 now) ∧ lett (sp_Mo_earliestOf x2p9 now) fun (y6 : Int32) => (ok_Mo_resultsOf y6 now) ∧ lett (sp_Mo_resultsOf y6 now) fun (y8 : Int32) => ((y8 ≤ (1 : Int32) → ok_Mo_steadiest_35 x2p9 x1p9 now r9 q9 (0 : Int32)) ∧ (¬ (y8 ≤ (1 : Int32)) → ok_Mo_steadiest_35 x2p9 x1p9 now r9 q9 (1 : Int32)))))
noncomputable def sp_Mo_steadiest_9 (now : LV) (o_1 : IV)  : Nat → Int32 → Int32 → (Int32 × IV)
  | 0 => fun _ _ => default
  | f + 1 => bd_Mo_steadiest_9 now o_1  (sp_Mo_steadiest_9 now o_1  f)
def ok_Mo_steadiest_9 (now : LV) (o_1 : IV)   : Nat → Int32 → Int32 → Prop
  | 0 => fun _ _ => False
  | f + 1 => okb_Mo_steadiest_9 now o_1  (sp_Mo_steadiest_9 now o_1  f)  (ok_Mo_steadiest_9 now o_1   f)
set_option maxRecDepth 100000 in
set_option maxHeartbeats 4000000 in
theorem kb_Mo_steadiest_9 {p : Program} {l : Launch} {e : Env} {s : State} {m : MethodId} {args : Array Value} {below : List Frame} {meth : Method} {c : Code} {g : GX} {mo : Nat} {a : Nat → Nat} {ws0 : va_W} {o_1 : IV} {now : LV} {dr : LV} {pa : LV} {sa : LV} {iS : IV} {bu : IV} {tq : IV} {rT : IV} {wT : IV} {sK : IV} {sA : IV} {sB : IV} {sE : IV} {oq : IV} {bS : IV} {bE : IV} {bL : IV} {rp : IV}  (C : Cx p s m args meth c (inW ws0) g "DecadeBridgeModel" b_Mo_steadiest (some .int) 4) {r9 : Int32 → Int32 → (Int32 × IV)} {q9 : Int32 → Int32 → Prop}  (ih9 : HL_Mo_steadiest_9 p l e s m args below meth c g mo a ws0 o_1 now dr pa sa iS bu tq rT wT sK sA sB sE oq bS bE bL rp r9 q9) : HL_Mo_steadiest_9 p l e s m args below meth c g mo a ws0 o_1 now dr pa sa iS bu tq rT wT sK sA sB sE oq bS bE bL rp (bd_Mo_steadiest_9 now o_1  r9) (okb_Mo_steadiest_9 now o_1  r9  q9) := by
  intro x1p9 x2p9 hok z hz H locs ls hP hD hS hl
  obtain ⟨hx, hb, hr, hml, hown, hlk, hts, hK, hZo, hZ⟩ := id C
  unfold bd_Mo_steadiest_9 at hz
  unfold okb_Mo_steadiest_9 at hok
  refine lv_iload_n hx hb d_Mo_steadiest_9 rfl (lv_at hl 2 rfl) ?_
  refine lv_aload_n hx hb d_Mo_steadiest_10 rfl (lv_at hl 0 rfl) ?_
  have hs2 := hok.1
  have hok := hok.2
  have hB : SubW g (inW ws0) s (wMo g mo a o_1 now dr pa sa iS bu tq rT wT sK sA sB sE oq bS bE bL rp) _ (List.range _) _ _ := (subF hP hD hS)
  refine goI0 hB (run_v C mf_Mo_manners qm_Mo_417 (c_Mo_manners l g mo a o_1 now dr pa sa iS bu tq rT wT sK sA sB sE oq bS bE bL rp hs2) rfl rfl ⟨Nat.le_of_ble_eq_true rfl, Nat.le_of_ble_eq_true rfl⟩ ⟨Nat.le_of_ble_eq_true rfl, Nat.le_of_ble_eq_true rfl⟩ hB rfl rfl hl rfl rfl (Nat.le_of_ble_eq_true rfl) d_Mo_steadiest_11) (fun y3 ey3 H locs hP hS => ?_)
  have hz := lett_z hz ey3
  have hok := lett_o hok ey3
  refine lv_icmp_ge (tgt := 79) hx hb d_Mo_steadiest_14 (by decide) (fun c4 => ?_) (fun c4 => ?_)
  · have hz := hz.trans (if_pos c4)
    refine lv_iload_n hx hb d_Mo_steadiest_79 rfl (lv_at hl 1 rfl) ?_
    exact endI1 C hz hP hS d_Mo_steadiest_80
  · have hz := hz.trans (if_neg c4)
    have hok := hok.2 c4
    refine lv_aload_n hx hb d_Mo_steadiest_17 rfl (lv_at hl 0 rfl) ?_
    refine lv_aload_n hx hb d_Mo_steadiest_18 rfl (lv_at hl 0 rfl) ?_
    refine lv_iload_n hx hb d_Mo_steadiest_19 rfl (lv_at hl 2 rfl) ?_
    have hs5 := hok.1
    have hok := hok.2
    have hB : SubW g (inW ws0) s (wMo g mo a o_1 now dr pa sa iS bu tq rT wT sK sA sB sE oq bS bE bL rp) _ (List.range _) _ _ := (subF hP hD hS)
    refine goI0 hB (run_v C mf_Mo_earliestOf qm_Mo_446 (c_Mo_earliestOf l g mo a o_1 now dr pa sa iS bu tq rT wT sK sA sB sE oq bS bE bL rp x2p9 hs5) rfl rfl ⟨Nat.le_of_ble_eq_true rfl, Nat.le_of_ble_eq_true rfl⟩ ⟨Nat.le_of_ble_eq_true rfl, Nat.le_of_ble_eq_true rfl⟩ hB rfl rfl hl rfl rfl (Nat.le_of_ble_eq_true rfl) d_Mo_steadiest_20) (fun y6 ey6 H locs hP hS => ?_)
    have hz := lett_z hz ey6
    have hok := lett_o hok ey6
    have hs7 := hok.1
    have hok := hok.2
    have hB : SubW g (inW ws0) s (wMo g mo a o_1 now dr pa sa iS bu tq rT wT sK sA sB sE oq bS bE bL rp) _ (List.range _) _ _ := (subF hP hD hS)
    refine goI0 hB (run_v C mf_Mo_resultsOf qm_Mo_449 (c_Mo_resultsOf l g mo a o_1 now dr pa sa iS bu tq rT wT sK sA sB sE oq bS bE bL rp y6 hs7) rfl rfl ⟨Nat.le_of_ble_eq_true rfl, Nat.le_of_ble_eq_true rfl⟩ ⟨Nat.le_of_ble_eq_true rfl, Nat.le_of_ble_eq_true rfl⟩ hB rfl rfl hl rfl rfl (Nat.le_of_ble_eq_true rfl) d_Mo_steadiest_23) (fun y8 ey8 H locs hP hS => ?_)
    have hz := lett_z hz ey8
    have hok := lett_o hok ey8
    refine lv_iconst (v := 1) hx hb d_Mo_steadiest_26 (by decide) ?_
    refine lv_icmp_le (tgt := 34) hx hb d_Mo_steadiest_27 (by decide) (fun c9 => ?_) (fun c9 => ?_)
    · have hz := hz.trans (if_pos c9)
      have hok := hok.1 c9
      refine lv_iconst (v := 0) hx hb d_Mo_steadiest_34 (by decide) ?_
      exact k_Mo_steadiest_35 C ih9 (0 : Int32) hok _ hz _ _ ls hP hD hS hl
    · have hz := hz.trans (if_neg c9)
      have hok := hok.2 c9
      refine lv_iconst (v := 1) hx hb d_Mo_steadiest_30 (by decide) ?_
      refine lv_goto (tgt := 35) hx hb d_Mo_steadiest_31 (by decide) ?_
      exact k_Mo_steadiest_35 C ih9 (1 : Int32) hok _ hz _ _ ls hP hD hS hl
theorem k_Mo_steadiest_9 {p : Program} {l : Launch} {e : Env} {s : State} {m : MethodId} {args : Array Value} {below : List Frame} {meth : Method} {c : Code} {g : GX} {mo : Nat} {a : Nat → Nat} {ws0 : va_W} {o_1 : IV} {now : LV} {dr : LV} {pa : LV} {sa : LV} {iS : IV} {bu : IV} {tq : IV} {rT : IV} {wT : IV} {sK : IV} {sA : IV} {sB : IV} {sE : IV} {oq : IV} {bS : IV} {bE : IV} {bL : IV} {rp : IV}  (C : Cx p s m args meth c (inW ws0) g "DecadeBridgeModel" b_Mo_steadiest (some .int) 4) (f : Nat)  : HL_Mo_steadiest_9 p l e s m args below meth c g mo a ws0 o_1 now dr pa sa iS bu tq rT wT sK sA sB sE oq bS bE bL rp (sp_Mo_steadiest_9 now o_1  f) (ok_Mo_steadiest_9 now o_1   f) := by
  induction f with
  | zero => intro x1p9 x2p9 hok; exact False.elim hok
  | succ f ih => exact kb_Mo_steadiest_9 C  ih
noncomputable def sp_Mo_steadiest (o : IV) (now : LV) : Int32 × IV := lett (upd o 6 (0 : Int32)) fun (o_1 : IV) => sp_Mo_steadiest_9 now o_1 big (-1 : Int32) (0 : Int32)
def ok_Mo_steadiest (o : IV) (now : LV) : Prop := lett (upd o 6 (0 : Int32)) fun (o_1 : IV) => ok_Mo_steadiest_9 now o_1 big (-1 : Int32) (0 : Int32)
set_option maxRecDepth 100000 in
set_option maxHeartbeats 4000000 in
theorem c_Mo_steadiest (l : Launch) (g : GX) (mo : Nat) (a : Nat → Nat) (o : IV) (now : LV) (dr : LV) (pa : LV) (sa : LV) (iS : IV) (bu : IV) (tq : IV) (rT : IV) (wT : IV) (sK : IV) (sA : IV) (sB : IV) (sE : IV) (oq : IV) (bS : IV) (bE : IV) (bL : IV) (rp : IV)  (hok : ok_Mo_steadiest o now) : Met l y_Mo_steadiest (wsY y_Mo_steadiest b_Mo_steadiest 4 (some .int)) rm_Mo_steadiest (CP g [.ref mo] (wMo g mo a o now dr pa sa iS bu tq rT wT sK sA sB sE oq bS bE bL rp)) (CI g (wMo g mo a o now dr pa sa iS bu tq rT wT sK sA sB sE oq bS bE bL rp) (fun u : IV => wMo g mo a u now dr pa sa iS bu tq rT wT sK sA sB sE oq bS bE bL rp) (sp_Mo_steadiest o now)) 0 0 (inW (wMo g mo a o now dr pa sa iS bu tq rT wT sK sA sB sE oq bS bE bL rp)) := by
  refine Met.ofW (cc := b_Mo_steadiest) (maxL := 4) (ret := (some .int)) pn_Mo rfl ?_
  intro p e s m args below meth c s₁ B hml hv
  obtain ⟨rfl, C, hP, hD, hS⟩ := enter "DecadeBridgeModel" rfl B hml hv
  obtain ⟨hx, hb, hr, hml, hown, hlk, hts, hK, hZo, hZ⟩ := id C
  refine entryW (lv := [(0, .ref mo)]) rfl (Nat.le_of_ble_eq_true rfl) (fun ls hl => ?_)
  obtain ⟨z, hz⟩ : ∃ z, z = sp_Mo_steadiest o now := ⟨_, rfl⟩
  rw [← hz]
  unfold sp_Mo_steadiest at hz
  unfold ok_Mo_steadiest at hok
  refine lv_aload_n hx hb d_Mo_steadiest_0 rfl (lv_at hl 0 rfl) ?_
  refine lv_iconst (v := 0) hx hb d_Mo_steadiest_1 (by decide) ?_
  refine pfI C hP hD hS 0 6 fkMo rfl (by decide) rfl qf_Mo_107 rfl rfl rfl (Nat.le_of_ble_eq_true rfl) (ff := fun o => fMo a o) (sMo_6 _ _ _) d_Mo_steadiest_2 (fun o_1 eo_1 H locs hP hD hS => ?_)
  have hP : va_P g.1 vwCl (wMo g mo a o_1 now dr pa sa iS bu tq rT wT sK sA sB sE oq bS bE bL rp) H := hP
  have hD : va_D (inW (wMo g mo a o now dr pa sa iS bu tq rT wT sK sA sB sE oq bS bE bL rp)) (wMo g mo a o_1 now dr pa sa iS bu tq rT wT sK sA sB sE oq bS bE bL rp) := hD
  have hz := lett_z hz eo_1
  have hok := lett_o hok eo_1
  refine lv_iconst (v := -1) hx hb d_Mo_steadiest_5 (by decide) ?_
  refine lv_istore_n (lv' := [(1, .int (-1 : Int32)), (0, .ref mo)]) hx hb d_Mo_steadiest_6 rfl hl (by decide) rfl (fun ls hl => ?_)
  refine lv_iconst (v := 0) hx hb d_Mo_steadiest_7 (by decide) ?_
  refine lv_istore_n (lv' := [(2, .int (0 : Int32)), (1, .int (-1 : Int32)), (0, .ref mo)]) hx hb d_Mo_steadiest_8 rfl hl (by decide) rfl (fun ls hl => ?_)
  exact k_Mo_steadiest_9 C big (-1 : Int32) (0 : Int32) hok _ hz _ _ ls hP hD hS (lv_sub hl [2, 1, 0] rfl)
