abbrev rm_Mo_layBack : Room := { frames := 0, cells := 0, slots := 0, locals := 0 }
noncomputable def sp_Mo_layBack (p1 : Int64) (p2 : Int64) (p3 : Int64) (now : LV) : Int64 × LV := lett (vp_updL now 37 p1) fun (now_1 : LV) => lett (vp_updL now_1 38 p2) fun (now_2 : LV) => (p3, now_2)
set_option maxRecDepth 100000 in
set_option maxHeartbeats 4000000 in
theorem c_Mo_layBack (l : Launch) (g : GX) (mo : Nat) (a : Nat → Nat) (o : IV) (now : LV) (dr : LV) (pa : LV) (sa : LV) (iS : IV) (bu : IV) (tq : IV) (rT : IV) (wT : IV) (wo : Nat → Option Nat) (sK : IV) (sA : IV) (sB : IV) (sE : IV) (oq : IV) (bS : IV) (bE : IV) (bL : IV) (rp : IV) (p1 : Int64) (p2 : Int64) (p3 : Int64) : Met l y_Mo_layBack (wsY y_Mo_layBack b_Mo_layBack 7 (some .long)) rm_Mo_layBack (CP g [.ref mo, .long p1, .long p2, .long p3] (wMo g mo a o now dr pa sa iS bu tq rT wT wo sK sA sB sE oq bS bE bL rp)) (CL g (wMo g mo a o now dr pa sa iS bu tq rT wT wo sK sA sB sE oq bS bE bL rp) (fun u : LV => wMo g mo a o u dr pa sa iS bu tq rT wT wo sK sA sB sE oq bS bE bL rp) (sp_Mo_layBack p1 p2 p3 now)) 0 0 (inW (wMo g mo a o now dr pa sa iS bu tq rT wT wo sK sA sB sE oq bS bE bL rp)) := by
  refine Met.ofW (cc := b_Mo_layBack) (maxL := 7) (ret := (some .long)) pn_Mo rfl ?_
  intro p e s m args below meth c s₁ B hml hv
  obtain ⟨rfl, C, hP, hD, hS⟩ := enter "DecadeBridgeModel" rfl B hml hv
  obtain ⟨hx, hb, hr, hml, hown, hlk, hts, hK, hZo, hZ⟩ := id C
  refine entryW (lv := [(0, .ref mo), (1, .long p1), (3, .long p2), (5, .long p3)]) rfl (Nat.le_of_ble_eq_true rfl) (fun ls hl => ?_)
  obtain ⟨z, hz⟩ : ∃ z, z = sp_Mo_layBack p1 p2 p3 now := ⟨_, rfl⟩
  rw [← hz]
  unfold sp_Mo_layBack at hz
  refine lv_aload_n hx hb d_Mo_layBack_0 rfl (lv_at hl 0 rfl) ?_
  refine gf C hP 0 0 fkMo rfl (by decide) rfl qf_Mo_7 (gMo_0 _ _) d_Mo_layBack_1 ?_
  refine lv_bipush (v := 37) hx hb d_Mo_layBack_4 (by decide) ?_
  refine lv_lload_n hx hb d_Mo_layBack_6 rfl (lv_at hl 1 rfl) ?_
  refine stL C hP hD hS 1 rfl vi_37_215 cn_37 d_Mo_layBack_7 (fun now_1 enow_1 H locs hP hD hS => ?_)
  have hP : va_P g.1 vwCl (wMo g mo a o now_1 dr pa sa iS bu tq rT wT wo sK sA sB sE oq bS bE bL rp) H := hP
  have hD : va_D (inW (wMo g mo a o now dr pa sa iS bu tq rT wT wo sK sA sB sE oq bS bE bL rp)) (wMo g mo a o now_1 dr pa sa iS bu tq rT wT wo sK sA sB sE oq bS bE bL rp) := hD
  have hz := lett_z hz enow_1
  refine lv_aload_n hx hb d_Mo_layBack_8 rfl (lv_at hl 0 rfl) ?_
  refine gf C hP 0 0 fkMo rfl (by decide) rfl qf_Mo_7 (gMo_0 _ _) d_Mo_layBack_9 ?_
  refine lv_bipush (v := 38) hx hb d_Mo_layBack_12 (by decide) ?_
  refine lv_lload_n hx hb d_Mo_layBack_14 rfl (lv_at hl 2 rfl) ?_
  refine stL C hP hD hS 1 rfl vi_38_215 cn_38 d_Mo_layBack_15 (fun now_2 enow_2 H locs hP hD hS => ?_)
  have hP : va_P g.1 vwCl (wMo g mo a o now_2 dr pa sa iS bu tq rT wT wo sK sA sB sE oq bS bE bL rp) H := hP
  have hD : va_D (inW (wMo g mo a o now dr pa sa iS bu tq rT wT wo sK sA sB sE oq bS bE bL rp)) (wMo g mo a o now_2 dr pa sa iS bu tq rT wT wo sK sA sB sE oq bS bE bL rp) := hD
  have hz := lett_z hz enow_2
  refine lv_lload hx hb d_Mo_layBack_16 (lv_at hl 3 rfl) ?_
  exact endL1 C hz hP hS d_Mo_layBack_18
abbrev rm_Mo_foretold : Room := { frames := 9, cells := 0, slots := 0, locals := 208 }
def HL_Mo_foretold_29 (p : Program) (l : Launch) (e : Env) (s : State) (m : MethodId) (args : Array Value) (below : List Frame) (meth : Method) (c : Code) (g : GX) (mo : Nat) (a : Nat → Nat) (ws0 : va_W) (o : IV) (now : LV) (dr : LV) (pa : LV) (sa : LV) (iS : IV) (bu : IV) (tq : IV) (rT : IV) (wT : IV) (wo : Nat → Option Nat) (sK : IV) (sA : IV) (sB : IV) (sE : IV) (oq : IV) (bS : IV) (bE : IV) (bL : IV) (rp : IV) (p1 : Int32) (p2 : Int32) (sp : (Int64 × IV × LV)) (ok : Prop) : Prop := ∀ (_ : Unit), ok → ∀ z : (Int64 × IV × LV), z = sp → ∀ (H : Heap) (locs : List Loc) (ls : Array Slot), va_P g.1 vwCl (wMo g mo a o now dr pa sa iS bu tq rT wT wo sK sA sB sE oq bS bE bL rp) H → va_D (inW ws0) (wMo g mo a o now dr pa sa iS bu tq rT wT wo sK sA sB sE oq bS bE bL rp) → va_S (inW ws0) s.heap H locs → lv_has ls 9 [(0, .ref mo), (1, .int p1), (2, .int p2)] → W p l e rm_Mo_foretold s m args below meth c H locs 0 0 (MQ below (CL g ws0 (fun u : IV × LV => wMo g mo a u.1 u.2 dr pa sa iS bu tq rT wT wo sK sA sB sE oq bS bE bL rp) z) args s 0 0 (inW ws0)) (F0 m 29 ls [.ref mo])
def HL_Mo_foretold_30 (p : Program) (l : Launch) (e : Env) (s : State) (m : MethodId) (args : Array Value) (below : List Frame) (meth : Method) (c : Code) (g : GX) (mo : Nat) (a : Nat → Nat) (ws0 : va_W) (o : IV) (now : LV) (dr : LV) (pa : LV) (sa : LV) (iS : IV) (bu : IV) (tq : IV) (rT : IV) (wT : IV) (wo : Nat → Option Nat) (sK : IV) (sA : IV) (sB : IV) (sE : IV) (oq : IV) (bS : IV) (bE : IV) (bL : IV) (rp : IV) (p1 : Int32) (p2 : Int32) (sp : Int32 → (Int64 × IV × LV)) (ok : Int32 → Prop) : Prop := ∀ (t1p30 : Int32), ok t1p30 → ∀ z : (Int64 × IV × LV), z = sp t1p30 → ∀ (H : Heap) (locs : List Loc) (ls : Array Slot), va_P g.1 vwCl (wMo g mo a o now dr pa sa iS bu tq rT wT wo sK sA sB sE oq bS bE bL rp) H → va_D (inW ws0) (wMo g mo a o now dr pa sa iS bu tq rT wT wo sK sA sB sE oq bS bE bL rp) → va_S (inW ws0) s.heap H locs → lv_has ls 9 [(0, .ref mo), (1, .int p1), (2, .int p2)] → W p l e rm_Mo_foretold s m args below meth c H locs 0 0 (MQ below (CL g ws0 (fun u : IV × LV => wMo g mo a u.1 u.2 dr pa sa iS bu tq rT wT wo sK sA sB sE oq bS bE bL rp) z) args s 0 0 (inW ws0)) (F0 m 30 ls [.int t1p30, .ref mo])
def HL_Mo_foretold_62 (p : Program) (l : Launch) (e : Env) (s : State) (m : MethodId) (args : Array Value) (below : List Frame) (meth : Method) (c : Code) (g : GX) (mo : Nat) (a : Nat → Nat) (ws0 : va_W) (o_5 : IV) (dr : LV) (pa : LV) (sa : LV) (iS : IV) (bu : IV) (tq : IV) (rT : IV) (wT : IV) (wo : Nat → Option Nat) (sK : IV) (sA : IV) (sB : IV) (sE : IV) (oq : IV) (bS : IV) (bE : IV) (bL : IV) (rp : IV) (p1 : Int32) (p2 : Int32) (v7 : Int64) (v8 : Int64) (sp : Int32 → LV → (Int64 × IV × LV)) (ok : Int32 → LV → Prop) : Prop := ∀ (x7p62 : Int32) (nowp62 : LV), ok x7p62 nowp62 → ∀ z : (Int64 × IV × LV), z = sp x7p62 nowp62 → ∀ (H : Heap) (locs : List Loc) (ls : Array Slot), va_P g.1 vwCl (wMo g mo a o_5 nowp62 dr pa sa iS bu tq rT wT wo sK sA sB sE oq bS bE bL rp) H → va_D (inW ws0) (wMo g mo a o_5 nowp62 dr pa sa iS bu tq rT wT wo sK sA sB sE oq bS bE bL rp) → va_S (inW ws0) s.heap H locs → lv_has ls 9 [(0, .ref mo), (1, .int p1), (2, .int p2), (3, .long v7), (5, .long v8), (7, .int x7p62)] → W p l e rm_Mo_foretold s m args below meth c H locs 0 0 (MQ below (CL g ws0 (fun u : IV × LV => wMo g mo a u.1 u.2 dr pa sa iS bu tq rT wT wo sK sA sB sE oq bS bE bL rp) z) args s 0 0 (inW ws0)) (F0 m 62 ls [])
def HL_Mo_foretold_81 (p : Program) (l : Launch) (e : Env) (s : State) (m : MethodId) (args : Array Value) (below : List Frame) (meth : Method) (c : Code) (g : GX) (mo : Nat) (a : Nat → Nat) (ws0 : va_W) (o_5 : IV) (nowp62 : LV) (dr : LV) (pa : LV) (sa : LV) (iS : IV) (bu : IV) (tq : IV) (rT : IV) (wT : IV) (wo : Nat → Option Nat) (sK : IV) (sA : IV) (sB : IV) (sE : IV) (oq : IV) (bS : IV) (bE : IV) (bL : IV) (rp : IV) (p2 : Int32) (v7 : Int64) (v8 : Int64) (sp : (Int64 × IV × LV)) (ok : Prop) : Prop := ∀ (_ : Unit), ok → ∀ z : (Int64 × IV × LV), z = sp → ∀ (H : Heap) (locs : List Loc) (ls : Array Slot), va_P g.1 vwCl (wMo g mo a o_5 nowp62 dr pa sa iS bu tq rT wT wo sK sA sB sE oq bS bE bL rp) H → va_D (inW ws0) (wMo g mo a o_5 nowp62 dr pa sa iS bu tq rT wT wo sK sA sB sE oq bS bE bL rp) → va_S (inW ws0) s.heap H locs → lv_has ls 9 [(0, .ref mo), (2, .int p2), (3, .long v7), (5, .long v8)] → W p l e rm_Mo_foretold s m args below meth c H locs 0 0 (MQ below (CL g ws0 (fun u : IV × LV => wMo g mo a u.1 u.2 dr pa sa iS bu tq rT wT wo sK sA sB sE oq bS bE bL rp) z) args s 0 0 (inW ws0)) (F0 m 81 ls [])
def HL_Mo_foretold_118 (p : Program) (l : Launch) (e : Env) (s : State) (m : MethodId) (args : Array Value) (below : List Frame) (meth : Method) (c : Code) (g : GX) (mo : Nat) (a : Nat → Nat) (ws0 : va_W) (o_5 : IV) (nowp62 : LV) (dr : LV) (pa : LV) (sa : LV) (iS : IV) (bu : IV) (tq : IV) (rT : IV) (wT : IV) (wo : Nat → Option Nat) (sK : IV) (sA : IV) (sB : IV) (sE : IV) (oq : IV) (bS : IV) (bE : IV) (bL : IV) (rp : IV) (v8 : Int64) (v7 : Int64) (sp : Int64 → (Int64 × IV × LV)) (ok : Int64 → Prop) : Prop := ∀ (t3p118 : Int64), ok t3p118 → ∀ z : (Int64 × IV × LV), z = sp t3p118 → ∀ (H : Heap) (locs : List Loc) (ls : Array Slot), va_P g.1 vwCl (wMo g mo a o_5 nowp62 dr pa sa iS bu tq rT wT wo sK sA sB sE oq bS bE bL rp) H → va_D (inW ws0) (wMo g mo a o_5 nowp62 dr pa sa iS bu tq rT wT wo sK sA sB sE oq bS bE bL rp) → va_S (inW ws0) s.heap H locs → lv_has ls 9 [] → W p l e rm_Mo_foretold s m args below meth c H locs 0 0 (MQ below (CL g ws0 (fun u : IV × LV => wMo g mo a u.1 u.2 dr pa sa iS bu tq rT wT wo sK sA sB sE oq bS bE bL rp) z) args s 0 0 (inW ws0)) (F0 m 118 ls [.long t3p118, .long v8, .long v7, .ref mo])
noncomputable def sp_Mo_foretold_118 (v7 : Int64) (v8 : Int64) (nowp62 : LV) (o_5 : IV)  (t3p118 : Int64) : Int64 × IV × LV := lett (sp_Mo_layBack v7 v8 t3p118 nowp62) fun (y17 : Int64 × LV) => (y17.1, (o_5, y17.2))
def ok_Mo_foretold_118 (v7 : Int64) (v8 : Int64) (nowp62 : LV) (o_5 : IV)   (t3p118 : Int64) : Prop := True
set_option maxRecDepth 100000 in
set_option maxHeartbeats 4000000 in
theorem k_Mo_foretold_118 {p : Program} {l : Launch} {e : Env} {s : State} {m : MethodId} {args : Array Value} {below : List Frame} {meth : Method} {c : Code} {g : GX} {mo : Nat} {a : Nat → Nat} {ws0 : va_W} {o_5 : IV} {nowp62 : LV} {dr : LV} {pa : LV} {sa : LV} {iS : IV} {bu : IV} {tq : IV} {rT : IV} {wT : IV} {wo : Nat → Option Nat} {sK : IV} {sA : IV} {sB : IV} {sE : IV} {oq : IV} {bS : IV} {bE : IV} {bL : IV} {rp : IV} {v8 : Int64} {v7 : Int64}  (C : Cx p s m args meth c (inW ws0) g "DecadeBridgeModel" b_Mo_foretold (some .long) 9)  : HL_Mo_foretold_118 p l e s m args below meth c g mo a ws0 o_5 nowp62 dr pa sa iS bu tq rT wT wo sK sA sB sE oq bS bE bL rp v8 v7 (sp_Mo_foretold_118 v7 v8 nowp62 o_5 ) (ok_Mo_foretold_118 v7 v8 nowp62 o_5  ) := by
  intro t3p118 hok z hz H locs ls hP hD hS hl
  obtain ⟨hx, hb, hr, hml, hown, hlk, hts, hK, hZo, hZ⟩ := id C
  unfold sp_Mo_foretold_118 at hz
  have hB : SubW g (inW ws0) s (wMo g mo a o_5 nowp62 dr pa sa iS bu tq rT wT wo sK sA sB sE oq bS bE bL rp) _ (List.range _) _ _ := (subF hP hD hS)
  refine goLF hB (run_v C mf_Mo_layBack qm_Mo_467 (c_Mo_layBack l g mo a o_5 nowp62 dr pa sa iS bu tq rT wT wo sK sA sB sE oq bS bE bL rp v7 v8 t3p118) rfl rfl ⟨Nat.le_of_ble_eq_true rfl, Nat.le_of_ble_eq_true rfl⟩ ⟨Nat.le_of_ble_eq_true rfl, Nat.le_of_ble_eq_true rfl⟩ hB rfl rfl hl rfl rfl (Nat.le_of_ble_eq_true rfl) d_Mo_foretold_118) (fun _ => rfl) (fun y17 ey17 H locs hP hD hS => ?_)
  have hP : va_P g.1 vwCl (wMo g mo a o_5 y17.2 dr pa sa iS bu tq rT wT wo sK sA sB sE oq bS bE bL rp) H := hP
  have hD : va_D (inW ws0) (wMo g mo a o_5 y17.2 dr pa sa iS bu tq rT wT wo sK sA sB sE oq bS bE bL rp) := hD
  have hz := lett_z hz ey17
  exact endL1 C hz hP hS d_Mo_foretold_121
noncomputable def sp_Mo_foretold_81 (p2 : Int32) (v7 : Int64) (v8 : Int64) (nowp62 : LV) (o_5 : IV)   : Int64 × IV × LV := if p2 = 0 then (sp_Mo_foretold_118 v7 v8 nowp62 o_5 (nowp62 37)) else (if p2 = (1 : Int32) then (sp_Mo_foretold_118 v7 v8 nowp62 o_5 (nowp62 38)) else (lett (sp_Mo_deflectionNow nowp62) fun (y16 : Int64) => sp_Mo_foretold_118 v7 v8 nowp62 o_5 y16))
def ok_Mo_foretold_81 (p2 : Int32) (v7 : Int64) (v8 : Int64) (nowp62 : LV) (o_5 : IV)    : Prop := ((p2 = 0 → True) ∧ (¬ (p2 = 0) → ((p2 = (1 : Int32) → True) ∧ (¬ (p2 = (1 : Int32)) → (ok_Mo_deflectionNow nowp62) ∧ True))))
set_option maxRecDepth 100000 in
set_option maxHeartbeats 4000000 in
theorem k_Mo_foretold_81 {p : Program} {l : Launch} {e : Env} {s : State} {m : MethodId} {args : Array Value} {below : List Frame} {meth : Method} {c : Code} {g : GX} {mo : Nat} {a : Nat → Nat} {ws0 : va_W} {o_5 : IV} {nowp62 : LV} {dr : LV} {pa : LV} {sa : LV} {iS : IV} {bu : IV} {tq : IV} {rT : IV} {wT : IV} {wo : Nat → Option Nat} {sK : IV} {sA : IV} {sB : IV} {sE : IV} {oq : IV} {bS : IV} {bE : IV} {bL : IV} {rp : IV} {p2 : Int32} {v7 : Int64} {v8 : Int64}  (C : Cx p s m args meth c (inW ws0) g "DecadeBridgeModel" b_Mo_foretold (some .long) 9)  : HL_Mo_foretold_81 p l e s m args below meth c g mo a ws0 o_5 nowp62 dr pa sa iS bu tq rT wT wo sK sA sB sE oq bS bE bL rp p2 v7 v8 (sp_Mo_foretold_81 p2 v7 v8 nowp62 o_5 ) (ok_Mo_foretold_81 p2 v7 v8 nowp62 o_5  ) := by
  intro _ hok z hz H locs ls hP hD hS hl
  obtain ⟨hx, hb, hr, hml, hown, hlk, hts, hK, hZo, hZ⟩ := id C
  unfold sp_Mo_foretold_81 at hz
  unfold ok_Mo_foretold_81 at hok
  refine lv_aload_n hx hb d_Mo_foretold_81 rfl (lv_at hl 0 rfl) ?_
  refine lv_lload_n hx hb d_Mo_foretold_82 rfl (lv_at hl 2 rfl) ?_
  refine lv_lload hx hb d_Mo_foretold_83 (lv_at hl 3 rfl) ?_
  refine lv_iload_n hx hb d_Mo_foretold_85 rfl (lv_at hl 1 rfl) ?_
  refine lv_if_ne (tgt := 99) hx hb d_Mo_foretold_86 (by decide) (fun c13 => ?_) (fun c13 => ?_)
  · have hz := hz.trans (if_neg c13)
    have hok := hok.2 c13
    refine lv_iload_n hx hb d_Mo_foretold_99 rfl (lv_at hl 1 rfl) ?_
    refine lv_iconst (v := 1) hx hb d_Mo_foretold_100 (by decide) ?_
    refine lv_icmp_ne (tgt := 114) hx hb d_Mo_foretold_101 (by decide) (fun c14 => ?_) (fun c14 => ?_)
    · have hz := hz.trans (if_neg c14)
      have hok := hok.2 c14
      refine lv_aload_n hx hb d_Mo_foretold_114 rfl (lv_at hl 0 rfl) ?_
      have hs15 := hok.1
      have hok := hok.2
      have hB : SubW g (inW ws0) s (wMo g mo a o_5 nowp62 dr pa sa iS bu tq rT wT wo sK sA sB sE oq bS bE bL rp) _ (List.range _) _ _ := (subF hP hD hS)
      refine goL0 hB (run_v C mf_Mo_deflectionNow qm_Mo_220 (c_Mo_deflectionNow l g mo a o_5 nowp62 dr pa sa iS bu tq rT wT wo sK sA sB sE oq bS bE bL rp hs15) rfl rfl ⟨Nat.le_of_ble_eq_true rfl, Nat.le_of_ble_eq_true rfl⟩ ⟨Nat.le_of_ble_eq_true rfl, Nat.le_of_ble_eq_true rfl⟩ hB rfl rfl hl rfl rfl (Nat.le_of_ble_eq_true rfl) d_Mo_foretold_115) (fun y16 ey16 H locs hP hS => ?_)
      have hz := lett_z hz ey16
      exact k_Mo_foretold_118 C y16 trivial _ hz _ _ ls hP hD hS (lv_sub hl [] rfl)
    · have hz := hz.trans (if_pos c14)
      refine lv_aload_n hx hb d_Mo_foretold_104 rfl (lv_at hl 0 rfl) ?_
      refine gf C hP 0 0 fkMo rfl (by decide) rfl qf_Mo_7 (gMo_0 _ _) d_Mo_foretold_105 ?_
      refine lv_bipush (v := 38) hx hb d_Mo_foretold_108 (by decide) ?_
      refine ldL C hP 1 rfl vi_38_215 cn_38 d_Mo_foretold_110 ?_
      refine lv_goto (tgt := 118) hx hb d_Mo_foretold_111 (by decide) ?_
      exact k_Mo_foretold_118 C (nowp62 38) trivial _ hz _ _ ls hP hD hS (lv_sub hl [] rfl)
  · have hz := hz.trans (if_pos c13)
    refine lv_aload_n hx hb d_Mo_foretold_89 rfl (lv_at hl 0 rfl) ?_
    refine gf C hP 0 0 fkMo rfl (by decide) rfl qf_Mo_7 (gMo_0 _ _) d_Mo_foretold_90 ?_
    refine lv_bipush (v := 37) hx hb d_Mo_foretold_93 (by decide) ?_
    refine ldL C hP 1 rfl vi_37_215 cn_37 d_Mo_foretold_95 ?_
    refine lv_goto (tgt := 118) hx hb d_Mo_foretold_96 (by decide) ?_
    exact k_Mo_foretold_118 C (nowp62 37) trivial _ hz _ _ ls hP hD hS (lv_sub hl [] rfl)
noncomputable def bd_Mo_foretold_62 (p1 : Int32) (p2 : Int32) (v7 : Int64) (v8 : Int64) (o_5 : IV) (r62 : Int32 → LV → (Int64 × IV × LV)) (x7p62 : Int32) (nowp62 : LV) : Int64 × IV × LV := if p1 ≤ x7p62 then (sp_Mo_foretold_81 p2 v7 v8 nowp62 o_5) else (lett (sp_Mo_heats (1 : Int32) nowp62) fun (y11 : Int32 × LV) => lett (x7p62 + (1 : Int32)) fun (v12 : Int32) => r62 v12 y11.2)
def okb_Mo_foretold_62 (p1 : Int32) (p2 : Int32) (v7 : Int64) (v8 : Int64) (o_5 : IV) (r62 : Int32 → LV → (Int64 × IV × LV)) (q62 : Int32 → LV → Prop) (x7p62 : Int32) (nowp62 : LV) : Prop := ((p1 ≤ x7p62 → ok_Mo_foretold_81 p2 v7 v8 nowp62 o_5) ∧ (¬ (p1 ≤ x7p62) → (ok_Mo_heats (1 : Int32) nowp62) ∧ lett (sp_Mo_heats (1 : Int32) nowp62) fun (y11 : Int32 × LV) => lett (x7p62 + (1 : Int32)) fun (v12 : Int32) => q62 v12 y11.2))
noncomputable def sp_Mo_foretold_62 (p1 : Int32) (p2 : Int32) (v7 : Int64) (v8 : Int64) (o_5 : IV)  : Nat → Int32 → LV → (Int64 × IV × LV)
  | 0 => fun _ _ => default
  | f + 1 => bd_Mo_foretold_62 p1 p2 v7 v8 o_5  (sp_Mo_foretold_62 p1 p2 v7 v8 o_5  f)
def ok_Mo_foretold_62 (p1 : Int32) (p2 : Int32) (v7 : Int64) (v8 : Int64) (o_5 : IV)   : Nat → Int32 → LV → Prop
  | 0 => fun _ _ => False
  | f + 1 => okb_Mo_foretold_62 p1 p2 v7 v8 o_5  (sp_Mo_foretold_62 p1 p2 v7 v8 o_5  f)  (ok_Mo_foretold_62 p1 p2 v7 v8 o_5   f)
set_option maxRecDepth 100000 in
set_option maxHeartbeats 4000000 in
theorem kb_Mo_foretold_62 {p : Program} {l : Launch} {e : Env} {s : State} {m : MethodId} {args : Array Value} {below : List Frame} {meth : Method} {c : Code} {g : GX} {mo : Nat} {a : Nat → Nat} {ws0 : va_W} {o_5 : IV} {dr : LV} {pa : LV} {sa : LV} {iS : IV} {bu : IV} {tq : IV} {rT : IV} {wT : IV} {wo : Nat → Option Nat} {sK : IV} {sA : IV} {sB : IV} {sE : IV} {oq : IV} {bS : IV} {bE : IV} {bL : IV} {rp : IV} {p1 : Int32} {p2 : Int32} {v7 : Int64} {v8 : Int64}  (C : Cx p s m args meth c (inW ws0) g "DecadeBridgeModel" b_Mo_foretold (some .long) 9) {r62 : Int32 → LV → (Int64 × IV × LV)} {q62 : Int32 → LV → Prop}  (ih62 : HL_Mo_foretold_62 p l e s m args below meth c g mo a ws0 o_5 dr pa sa iS bu tq rT wT wo sK sA sB sE oq bS bE bL rp p1 p2 v7 v8 r62 q62) : HL_Mo_foretold_62 p l e s m args below meth c g mo a ws0 o_5 dr pa sa iS bu tq rT wT wo sK sA sB sE oq bS bE bL rp p1 p2 v7 v8 (bd_Mo_foretold_62 p1 p2 v7 v8 o_5  r62) (okb_Mo_foretold_62 p1 p2 v7 v8 o_5  r62  q62) := by
  intro x7p62 nowp62 hok z hz H locs ls hP hD hS hl
  obtain ⟨hx, hb, hr, hml, hown, hlk, hts, hK, hZo, hZ⟩ := id C
  unfold bd_Mo_foretold_62 at hz
  unfold okb_Mo_foretold_62 at hok
  refine lv_iload hx hb d_Mo_foretold_62 (lv_at hl 5 rfl) ?_
  refine lv_iload_n hx hb d_Mo_foretold_64 rfl (lv_at hl 1 rfl) ?_
  refine lv_icmp_ge (tgt := 81) hx hb d_Mo_foretold_65 (by decide) (fun c9 => ?_) (fun c9 => ?_)
  · have hz := hz.trans (if_pos c9)
    have hok := hok.1 c9
    exact k_Mo_foretold_81 C () hok _ hz _ _ ls hP hD hS (lv_sub hl [0, 2, 3, 4] rfl)
  · have hz := hz.trans (if_neg c9)
    have hok := hok.2 c9
    refine lv_aload_n hx hb d_Mo_foretold_68 rfl (lv_at hl 0 rfl) ?_
    refine lv_iconst (v := 1) hx hb d_Mo_foretold_69 (by decide) ?_
    have hs10 := hok.1
    have hok := hok.2
    have hB : SubW g (inW ws0) s (wMo g mo a o_5 nowp62 dr pa sa iS bu tq rT wT wo sK sA sB sE oq bS bE bL rp) _ (List.range _) _ _ := (subF hP hD hS)
    refine goIF hB (run_v C mf_Mo_heats qm_Mo_206 (c_Mo_heats l g mo a o_5 nowp62 dr pa sa iS bu tq rT wT wo sK sA sB sE oq bS bE bL rp (1 : Int32) hs10) rfl rfl ⟨Nat.le_of_ble_eq_true rfl, Nat.le_of_ble_eq_true rfl⟩ ⟨Nat.le_of_ble_eq_true rfl, Nat.le_of_ble_eq_true rfl⟩ hB rfl rfl hl rfl rfl (Nat.le_of_ble_eq_true rfl) d_Mo_foretold_70) (fun _ => rfl) (fun y11 ey11 H locs hP hD hS => ?_)
    have hP : va_P g.1 vwCl (wMo g mo a o_5 y11.2 dr pa sa iS bu tq rT wT wo sK sA sB sE oq bS bE bL rp) H := hP
    have hD : va_D (inW ws0) (wMo g mo a o_5 y11.2 dr pa sa iS bu tq rT wT wo sK sA sB sE oq bS bE bL rp) := hD
    have hz := lett_z hz ey11
    have hok := lett_o hok ey11
    refine lv_istore (lv' := [(8, .int y11.1), (0, .ref mo), (1, .int p1), (2, .int p2), (3, .long v7), (5, .long v8), (7, .int x7p62)]) hx hb d_Mo_foretold_73 hl (by decide) rfl (fun ls hl => ?_)
    obtain ⟨v12, ev12⟩ : ∃ y : Int32, y = x7p62 + (1 : Int32) := ⟨_, rfl⟩
    have hz := lett_z hz ev12
    have hok := lett_o hok ev12
    refine lv_iinc (v := v12) (lv' := [(7, .int v12), (8, .int y11.1), (0, .ref mo), (1, .int p1), (2, .int p2), (3, .long v7), (5, .long v8)]) hx hb d_Mo_foretold_75 hl (k := 6) rfl (by rw [ev12]; rfl) (by decide) rfl (fun ls hl => ?_)
    refine lv_goto (tgt := 62) hx hb d_Mo_foretold_78 (by decide) ?_
    exact ih62 v12 y11.2 hok _ hz _ _ ls hP hD hS (lv_sub hl [2, 3, 4, 5, 6, 0] rfl)
theorem k_Mo_foretold_62 {p : Program} {l : Launch} {e : Env} {s : State} {m : MethodId} {args : Array Value} {below : List Frame} {meth : Method} {c : Code} {g : GX} {mo : Nat} {a : Nat → Nat} {ws0 : va_W} {o_5 : IV} {dr : LV} {pa : LV} {sa : LV} {iS : IV} {bu : IV} {tq : IV} {rT : IV} {wT : IV} {wo : Nat → Option Nat} {sK : IV} {sA : IV} {sB : IV} {sE : IV} {oq : IV} {bS : IV} {bE : IV} {bL : IV} {rp : IV} {p1 : Int32} {p2 : Int32} {v7 : Int64} {v8 : Int64}  (C : Cx p s m args meth c (inW ws0) g "DecadeBridgeModel" b_Mo_foretold (some .long) 9) (f : Nat)  : HL_Mo_foretold_62 p l e s m args below meth c g mo a ws0 o_5 dr pa sa iS bu tq rT wT wo sK sA sB sE oq bS bE bL rp p1 p2 v7 v8 (sp_Mo_foretold_62 p1 p2 v7 v8 o_5  f) (ok_Mo_foretold_62 p1 p2 v7 v8 o_5   f) := by
  induction f with
  | zero => intro x7p62 nowp62 hok; exact False.elim hok
  | succ f ih => exact kb_Mo_foretold_62 C  ih
noncomputable def sp_Mo_foretold_30 (o : IV) (now : LV) (p1 : Int32) (p2 : Int32)  (t1p30 : Int32) : Int64 × IV × LV := lett (upd o 6 t1p30) fun (o_5 : IV) => if (o_5 6) ≤ 0 then (lett (now 37) fun (v7 : Int64) => lett (now 38) fun (v8 : Int64) => sp_Mo_foretold_62 p1 p2 v7 v8 o_5 big (0 : Int32) now) else (((0 : Int64), (o_5, now)))
def ok_Mo_foretold_30 (o : IV) (now : LV) (p1 : Int32) (p2 : Int32)   (t1p30 : Int32) : Prop := lett (upd o 6 t1p30) fun (o_5 : IV) => (((o_5 6) ≤ 0 → lett (now 37) fun (v7 : Int64) => lett (now 38) fun (v8 : Int64) => ok_Mo_foretold_62 p1 p2 v7 v8 o_5 big (0 : Int32) now) ∧ (¬ ((o_5 6) ≤ 0) → True))
set_option maxRecDepth 100000 in
set_option maxHeartbeats 4000000 in
theorem k_Mo_foretold_30 {p : Program} {l : Launch} {e : Env} {s : State} {m : MethodId} {args : Array Value} {below : List Frame} {meth : Method} {c : Code} {g : GX} {mo : Nat} {a : Nat → Nat} {ws0 : va_W} {o : IV} {now : LV} {dr : LV} {pa : LV} {sa : LV} {iS : IV} {bu : IV} {tq : IV} {rT : IV} {wT : IV} {wo : Nat → Option Nat} {sK : IV} {sA : IV} {sB : IV} {sE : IV} {oq : IV} {bS : IV} {bE : IV} {bL : IV} {rp : IV} {p1 : Int32} {p2 : Int32}  (C : Cx p s m args meth c (inW ws0) g "DecadeBridgeModel" b_Mo_foretold (some .long) 9)  : HL_Mo_foretold_30 p l e s m args below meth c g mo a ws0 o now dr pa sa iS bu tq rT wT wo sK sA sB sE oq bS bE bL rp p1 p2 (sp_Mo_foretold_30 o now p1 p2 ) (ok_Mo_foretold_30 o now p1 p2  ) := by
  intro t1p30 hok z hz H locs ls hP hD hS hl
  obtain ⟨hx, hb, hr, hml, hown, hlk, hts, hK, hZo, hZ⟩ := id C
  unfold sp_Mo_foretold_30 at hz
  unfold ok_Mo_foretold_30 at hok
  refine pfI C hP hD hS 0 6 fkMo rfl (by decide) rfl qf_Mo_107 rfl rfl rfl (Nat.le_of_ble_eq_true rfl) (ff := fun o => fMo a o) (sMo_6 _ _ _) d_Mo_foretold_30 (fun o_5 eo_5 H locs hP hD hS => ?_)
  have hP : va_P g.1 vwCl (wMo g mo a o_5 now dr pa sa iS bu tq rT wT wo sK sA sB sE oq bS bE bL rp) H := hP
  have hD : va_D (inW ws0) (wMo g mo a o_5 now dr pa sa iS bu tq rT wT wo sK sA sB sE oq bS bE bL rp) := hD
  have hz := lett_z hz eo_5
  have hok := lett_o hok eo_5
  refine lv_aload_n hx hb d_Mo_foretold_33 rfl (lv_at hl 0 rfl) ?_
  refine gf C hP 0 6 fkMo rfl (by decide) rfl qf_Mo_107 (gMo_6 _ _) d_Mo_foretold_34 ?_
  refine lv_if_le (tgt := 42) hx hb d_Mo_foretold_37 (by decide) (fun c6 => ?_) (fun c6 => ?_)
  · have hz := hz.trans (if_pos c6)
    have hok := hok.1 c6
    refine lv_aload_n hx hb d_Mo_foretold_42 rfl (lv_at hl 0 rfl) ?_
    refine gf C hP 0 0 fkMo rfl (by decide) rfl qf_Mo_7 (gMo_0 _ _) d_Mo_foretold_43 ?_
    refine lv_bipush (v := 37) hx hb d_Mo_foretold_46 (by decide) ?_
    refine ldL C hP 1 rfl vi_37_215 cn_37 d_Mo_foretold_48 ?_
    refine lv_topl (fun v7 ev7 => ?_)
    have hz := lett_z hz ev7
    have hok := lett_o hok ev7
    refine lv_lstore_n (lv' := [(3, .long v7), (0, .ref mo), (1, .int p1), (2, .int p2)]) hx hb d_Mo_foretold_49 rfl hl (by decide) rfl (fun ls hl => ?_)
    refine lv_aload_n hx hb d_Mo_foretold_50 rfl (lv_at hl 1 rfl) ?_
    refine gf C hP 0 0 fkMo rfl (by decide) rfl qf_Mo_7 (gMo_0 _ _) d_Mo_foretold_51 ?_
    refine lv_bipush (v := 38) hx hb d_Mo_foretold_54 (by decide) ?_
    refine ldL C hP 1 rfl vi_38_215 cn_38 d_Mo_foretold_56 ?_
    refine lv_topl (fun v8 ev8 => ?_)
    have hz := lett_z hz ev8
    have hok := lett_o hok ev8
    refine lv_lstore (lv' := [(5, .long v8), (3, .long v7), (0, .ref mo), (1, .int p1), (2, .int p2)]) hx hb d_Mo_foretold_57 hl (by decide) rfl (fun ls hl => ?_)
    refine lv_iconst (v := 0) hx hb d_Mo_foretold_59 (by decide) ?_
    refine lv_istore (lv' := [(7, .int (0 : Int32)), (5, .long v8), (3, .long v7), (0, .ref mo), (1, .int p1), (2, .int p2)]) hx hb d_Mo_foretold_60 hl (by decide) rfl (fun ls hl => ?_)
    exact k_Mo_foretold_62 C big (0 : Int32) now hok _ hz _ _ ls hP hD hS (lv_sub hl [3, 4, 5, 2, 1, 0] rfl)
  · have hz := hz.trans (if_neg c6)
    refine lv_lconst (v := 0) hx hb d_Mo_foretold_40 (by decide) ?_
    exact endL1 C hz hP hS d_Mo_foretold_41
noncomputable def sp_Mo_foretold_29 (o : IV) (now : LV) (p1 : Int32) (p2 : Int32)   : Int64 × IV × LV := sp_Mo_foretold_30 o now p1 p2 (1 : Int32)
def ok_Mo_foretold_29 (o : IV) (now : LV) (p1 : Int32) (p2 : Int32)    : Prop := ok_Mo_foretold_30 o now p1 p2 (1 : Int32)
set_option maxRecDepth 100000 in
set_option maxHeartbeats 4000000 in
theorem k_Mo_foretold_29 {p : Program} {l : Launch} {e : Env} {s : State} {m : MethodId} {args : Array Value} {below : List Frame} {meth : Method} {c : Code} {g : GX} {mo : Nat} {a : Nat → Nat} {ws0 : va_W} {o : IV} {now : LV} {dr : LV} {pa : LV} {sa : LV} {iS : IV} {bu : IV} {tq : IV} {rT : IV} {wT : IV} {wo : Nat → Option Nat} {sK : IV} {sA : IV} {sB : IV} {sE : IV} {oq : IV} {bS : IV} {bE : IV} {bL : IV} {rp : IV} {p1 : Int32} {p2 : Int32}  (C : Cx p s m args meth c (inW ws0) g "DecadeBridgeModel" b_Mo_foretold (some .long) 9)  : HL_Mo_foretold_29 p l e s m args below meth c g mo a ws0 o now dr pa sa iS bu tq rT wT wo sK sA sB sE oq bS bE bL rp p1 p2 (sp_Mo_foretold_29 o now p1 p2 ) (ok_Mo_foretold_29 o now p1 p2  ) := by
  intro _ hok z hz H locs ls hP hD hS hl
  obtain ⟨hx, hb, hr, hml, hown, hlk, hts, hK, hZo, hZ⟩ := id C
  unfold sp_Mo_foretold_29 at hz
  unfold ok_Mo_foretold_29 at hok
  refine lv_iconst (v := 1) hx hb d_Mo_foretold_29 (by decide) ?_
  exact k_Mo_foretold_30 C (1 : Int32) hok _ hz _ _ ls hP hD hS hl
noncomputable def sp_Mo_foretold (p1 : Int32) (p2 : Int32) (o : IV) (now : LV) : Int64 × IV × LV := lett (sp_Mo_in p1.toInt64 (0 : Int64) (300 : Int64)) fun (y1 : Int32) => if y1 = 0 then (sp_Mo_foretold_29 o now p1 p2) else (lett (sp_Mo_in p2.toInt64 (0 : Int64) (2 : Int64)) fun (y3 : Int32) => if y3 = 0 then (sp_Mo_foretold_29 o now p1 p2) else (sp_Mo_foretold_30 o now p1 p2 (0 : Int32)))
def ok_Mo_foretold (p1 : Int32) (p2 : Int32) (o : IV) (now : LV) : Prop := lett (sp_Mo_in p1.toInt64 (0 : Int64) (300 : Int64)) fun (y1 : Int32) => ((y1 = 0 → ok_Mo_foretold_29 o now p1 p2) ∧ (¬ (y1 = 0) → lett (sp_Mo_in p2.toInt64 (0 : Int64) (2 : Int64)) fun (y3 : Int32) => ((y3 = 0 → ok_Mo_foretold_29 o now p1 p2) ∧ (¬ (y3 = 0) → ok_Mo_foretold_30 o now p1 p2 (0 : Int32)))))
set_option maxRecDepth 100000 in
set_option maxHeartbeats 4000000 in
theorem c_Mo_foretold (l : Launch) (g : GX) (mo : Nat) (a : Nat → Nat) (o : IV) (now : LV) (dr : LV) (pa : LV) (sa : LV) (iS : IV) (bu : IV) (tq : IV) (rT : IV) (wT : IV) (wo : Nat → Option Nat) (sK : IV) (sA : IV) (sB : IV) (sE : IV) (oq : IV) (bS : IV) (bE : IV) (bL : IV) (rp : IV) (p1 : Int32) (p2 : Int32) (hok : ok_Mo_foretold p1 p2 o now) : Met l y_Mo_foretold (wsY y_Mo_foretold b_Mo_foretold 9 (some .long)) rm_Mo_foretold (CP g [.ref mo, .int p1, .int p2] (wMo g mo a o now dr pa sa iS bu tq rT wT wo sK sA sB sE oq bS bE bL rp)) (CL g (wMo g mo a o now dr pa sa iS bu tq rT wT wo sK sA sB sE oq bS bE bL rp) (fun u : IV × LV => wMo g mo a u.1 u.2 dr pa sa iS bu tq rT wT wo sK sA sB sE oq bS bE bL rp) (sp_Mo_foretold p1 p2 o now)) 0 0 (inW (wMo g mo a o now dr pa sa iS bu tq rT wT wo sK sA sB sE oq bS bE bL rp)) := by
  refine Met.ofW (cc := b_Mo_foretold) (maxL := 9) (ret := (some .long)) pn_Mo rfl ?_
  intro p e s m args below meth c s₁ B hml hv
  obtain ⟨rfl, C, hP, hD, hS⟩ := enter "DecadeBridgeModel" rfl B hml hv
  obtain ⟨hx, hb, hr, hml, hown, hlk, hts, hK, hZo, hZ⟩ := id C
  refine entryW (lv := [(0, .ref mo), (1, .int p1), (2, .int p2)]) rfl (Nat.le_of_ble_eq_true rfl) (fun ls hl => ?_)
  obtain ⟨z, hz⟩ : ∃ z, z = sp_Mo_foretold p1 p2 o now := ⟨_, rfl⟩
  rw [← hz]
  unfold sp_Mo_foretold at hz
  unfold ok_Mo_foretold at hok
  refine lv_aload_n hx hb d_Mo_foretold_0 rfl (lv_at hl 0 rfl) ?_
  refine lv_iload_n hx hb d_Mo_foretold_1 rfl (lv_at hl 1 rfl) ?_
  refine lv_i2l hx hb d_Mo_foretold_2 rfl ?_
  refine lv_lconst (v := 0) hx hb d_Mo_foretold_3 (by decide) ?_
  refine lv_ldc2 hx hb hown (hts _ qk_Mo_465) d_Mo_foretold_4 ?_
  have hB : SubW g (inW (wMo g mo a o now dr pa sa iS bu tq rT wT wo sK sA sB sE oq bS bE bL rp)) s (wMo g mo a o now dr pa sa iS bu tq rT wT wo sK sA sB sE oq bS bE bL rp) _ (List.range _) _ _ := (subF hP hD hS)
  refine goI0 hB (run_s C mf_Mo_in qm_Mo_118 (c_Mo_in l g mo a o now dr pa sa iS bu tq rT wT wo sK sA sB sE oq bS bE bL rp p1.toInt64 (0 : Int64) (300 : Int64)) rfl rfl ⟨Nat.le_of_ble_eq_true rfl, Nat.le_of_ble_eq_true rfl⟩ ⟨Nat.le_of_ble_eq_true rfl, Nat.le_of_ble_eq_true rfl⟩ hB hl rfl rfl (Nat.le_of_ble_eq_true rfl) d_Mo_foretold_7) (fun y1 ey1 H locs hP hS => ?_)
  have hz := lett_z hz ey1
  have hok := lett_o hok ey1
  refine lv_if_eq (tgt := 29) hx hb d_Mo_foretold_10 (by decide) (fun c2 => ?_) (fun c2 => ?_)
  · have hz := hz.trans (if_pos c2)
    have hok := hok.1 c2
    exact k_Mo_foretold_29 C () hok _ hz _ _ ls hP hD hS hl
  · have hz := hz.trans (if_neg c2)
    have hok := hok.2 c2
    refine lv_iload_n hx hb d_Mo_foretold_13 rfl (lv_at hl 2 rfl) ?_
    refine lv_i2l hx hb d_Mo_foretold_14 rfl ?_
    refine lv_lconst (v := 0) hx hb d_Mo_foretold_15 (by decide) ?_
    refine lv_ldc2 hx hb hown (hts _ qk_Mo_100) d_Mo_foretold_16 ?_
    have hB : SubW g (inW (wMo g mo a o now dr pa sa iS bu tq rT wT wo sK sA sB sE oq bS bE bL rp)) s (wMo g mo a o now dr pa sa iS bu tq rT wT wo sK sA sB sE oq bS bE bL rp) _ (List.range _) _ _ := (subF hP hD hS)
    refine goI0 hB (run_s C mf_Mo_in qm_Mo_118 (c_Mo_in l g mo a o now dr pa sa iS bu tq rT wT wo sK sA sB sE oq bS bE bL rp p2.toInt64 (0 : Int64) (2 : Int64)) rfl rfl ⟨Nat.le_of_ble_eq_true rfl, Nat.le_of_ble_eq_true rfl⟩ ⟨Nat.le_of_ble_eq_true rfl, Nat.le_of_ble_eq_true rfl⟩ hB hl rfl rfl (Nat.le_of_ble_eq_true rfl) d_Mo_foretold_19) (fun y3 ey3 H locs hP hS => ?_)
    have hz := lett_z hz ey3
    have hok := lett_o hok ey3
    refine lv_if_eq (tgt := 29) hx hb d_Mo_foretold_22 (by decide) (fun c4 => ?_) (fun c4 => ?_)
    · have hz := hz.trans (if_pos c4)
      have hok := hok.1 c4
      exact k_Mo_foretold_29 C () hok _ hz _ _ ls hP hD hS hl
    · have hz := hz.trans (if_neg c4)
      have hok := hok.2 c4
      refine lv_iconst (v := 0) hx hb d_Mo_foretold_25 (by decide) ?_
      refine lv_goto (tgt := 30) hx hb d_Mo_foretold_26 (by decide) ?_
      exact k_Mo_foretold_30 C (0 : Int32) hok _ hz _ _ ls hP hD hS hl
abbrev rm_Mo_stillIn : Room := { frames := 8, cells := 0, slots := 0, locals := 185 }
def HL_Mo_stillIn_20 (p : Program) (l : Launch) (e : Env) (s : State) (m : MethodId) (args : Array Value) (below : List Frame) (meth : Method) (c : Code) (g : GX) (mo : Nat) (a : Nat → Nat) (ws0 : va_W) (o : IV) (dr : LV) (pa : LV) (sa : LV) (iS : IV) (bu : IV) (tq : IV) (rT : IV) (wT : IV) (wo : Nat → Option Nat) (sK : IV) (sA : IV) (sB : IV) (sE : IV) (oq : IV) (bS : IV) (bE : IV) (bL : IV) (rp : IV) (p1 : Int32) (v1 : Int64) (v2 : Int64) (sp : Int32 → LV → (Int32 × LV)) (ok : Int32 → LV → Prop) : Prop := ∀ (x6p20 : Int32) (nowp20 : LV), ok x6p20 nowp20 → ∀ z : (Int32 × LV), z = sp x6p20 nowp20 → ∀ (H : Heap) (locs : List Loc) (ls : Array Slot), va_P g.1 vwCl (wMo g mo a o nowp20 dr pa sa iS bu tq rT wT wo sK sA sB sE oq bS bE bL rp) H → va_D (inW ws0) (wMo g mo a o nowp20 dr pa sa iS bu tq rT wT wo sK sA sB sE oq bS bE bL rp) → va_S (inW ws0) s.heap H locs → lv_has ls 7 [(0, .ref mo), (1, .int p1), (2, .long v1), (4, .long v2), (6, .int x6p20)] → W p l e rm_Mo_stillIn s m args below meth c H locs 0 0 (MQ below (CI g ws0 (fun u : LV => wMo g mo a o u dr pa sa iS bu tq rT wT wo sK sA sB sE oq bS bE bL rp) z) args s 0 0 (inW ws0)) (F0 m 20 ls [])
def HL_Mo_stillIn_42 (p : Program) (l : Launch) (e : Env) (s : State) (m : MethodId) (args : Array Value) (below : List Frame) (meth : Method) (c : Code) (g : GX) (mo : Nat) (a : Nat → Nat) (ws0 : va_W) (o : IV) (dr : LV) (pa : LV) (sa : LV) (iS : IV) (bu : IV) (tq : IV) (rT : IV) (wT : IV) (wo : Nat → Option Nat) (sK : IV) (sA : IV) (sB : IV) (sE : IV) (oq : IV) (bS : IV) (bE : IV) (bL : IV) (rp : IV) (v1 : Int64) (v2 : Int64) (x6p20 : Int32) (sp : LV → (Int32 × LV)) (ok : LV → Prop) : Prop := ∀ (nowp42 : LV), ok nowp42 → ∀ z : (Int32 × LV), z = sp nowp42 → ∀ (H : Heap) (locs : List Loc) (ls : Array Slot), va_P g.1 vwCl (wMo g mo a o nowp42 dr pa sa iS bu tq rT wT wo sK sA sB sE oq bS bE bL rp) H → va_D (inW ws0) (wMo g mo a o nowp42 dr pa sa iS bu tq rT wT wo sK sA sB sE oq bS bE bL rp) → va_S (inW ws0) s.heap H locs → lv_has ls 7 [(0, .ref mo), (2, .long v1), (4, .long v2), (6, .int x6p20)] → W p l e rm_Mo_stillIn s m args below meth c H locs 0 0 (MQ below (CI g ws0 (fun u : LV => wMo g mo a o u dr pa sa iS bu tq rT wT wo sK sA sB sE oq bS bE bL rp) z) args s 0 0 (inW ws0)) (F0 m 42 ls [])
def HL_Mo_stillIn_63 (p : Program) (l : Launch) (e : Env) (s : State) (m : MethodId) (args : Array Value) (below : List Frame) (meth : Method) (c : Code) (g : GX) (mo : Nat) (a : Nat → Nat) (ws0 : va_W) (o : IV) (nowp42 : LV) (dr : LV) (pa : LV) (sa : LV) (iS : IV) (bu : IV) (tq : IV) (rT : IV) (wT : IV) (wo : Nat → Option Nat) (sK : IV) (sA : IV) (sB : IV) (sE : IV) (oq : IV) (bS : IV) (bE : IV) (bL : IV) (rp : IV) (v2 : Int64) (v1 : Int64) (sp : Int64 → (Int32 × LV)) (ok : Int64 → Prop) : Prop := ∀ (t3p63 : Int64), ok t3p63 → ∀ z : (Int32 × LV), z = sp t3p63 → ∀ (H : Heap) (locs : List Loc) (ls : Array Slot), va_P g.1 vwCl (wMo g mo a o nowp42 dr pa sa iS bu tq rT wT wo sK sA sB sE oq bS bE bL rp) H → va_D (inW ws0) (wMo g mo a o nowp42 dr pa sa iS bu tq rT wT wo sK sA sB sE oq bS bE bL rp) → va_S (inW ws0) s.heap H locs → lv_has ls 7 [] → W p l e rm_Mo_stillIn s m args below meth c H locs 0 0 (MQ below (CI g ws0 (fun u : LV => wMo g mo a o u dr pa sa iS bu tq rT wT wo sK sA sB sE oq bS bE bL rp) z) args s 0 0 (inW ws0)) (F0 m 63 ls [.long t3p63, .long v2, .long v1, .ref mo])
noncomputable def sp_Mo_stillIn_63 (v1 : Int64) (v2 : Int64) (nowp42 : LV)  (t3p63 : Int64) : Int32 × LV := lett (sp_Mo_layBack v1 v2 t3p63 nowp42) fun (y9 : Int64 × LV) => (y9.1.toInt32, y9.2)
def ok_Mo_stillIn_63 (v1 : Int64) (v2 : Int64) (nowp42 : LV)   (t3p63 : Int64) : Prop := True
set_option maxRecDepth 100000 in
set_option maxHeartbeats 4000000 in
theorem k_Mo_stillIn_63 {p : Program} {l : Launch} {e : Env} {s : State} {m : MethodId} {args : Array Value} {below : List Frame} {meth : Method} {c : Code} {g : GX} {mo : Nat} {a : Nat → Nat} {ws0 : va_W} {o : IV} {nowp42 : LV} {dr : LV} {pa : LV} {sa : LV} {iS : IV} {bu : IV} {tq : IV} {rT : IV} {wT : IV} {wo : Nat → Option Nat} {sK : IV} {sA : IV} {sB : IV} {sE : IV} {oq : IV} {bS : IV} {bE : IV} {bL : IV} {rp : IV} {v2 : Int64} {v1 : Int64}  (C : Cx p s m args meth c (inW ws0) g "DecadeBridgeModel" b_Mo_stillIn (some .int) 7)  : HL_Mo_stillIn_63 p l e s m args below meth c g mo a ws0 o nowp42 dr pa sa iS bu tq rT wT wo sK sA sB sE oq bS bE bL rp v2 v1 (sp_Mo_stillIn_63 v1 v2 nowp42 ) (ok_Mo_stillIn_63 v1 v2 nowp42  ) := by
  intro t3p63 hok z hz H locs ls hP hD hS hl
  obtain ⟨hx, hb, hr, hml, hown, hlk, hts, hK, hZo, hZ⟩ := id C
  unfold sp_Mo_stillIn_63 at hz
  have hB : SubW g (inW ws0) s (wMo g mo a o nowp42 dr pa sa iS bu tq rT wT wo sK sA sB sE oq bS bE bL rp) _ (List.range _) _ _ := (subF hP hD hS)
  refine goLF hB (run_v C mf_Mo_layBack qm_Mo_467 (c_Mo_layBack l g mo a o nowp42 dr pa sa iS bu tq rT wT wo sK sA sB sE oq bS bE bL rp v1 v2 t3p63) rfl rfl ⟨Nat.le_of_ble_eq_true rfl, Nat.le_of_ble_eq_true rfl⟩ ⟨Nat.le_of_ble_eq_true rfl, Nat.le_of_ble_eq_true rfl⟩ hB rfl rfl hl rfl rfl (Nat.le_of_ble_eq_true rfl) d_Mo_stillIn_63) (fun _ => rfl) (fun y9 ey9 H locs hP hD hS => ?_)
  have hP : va_P g.1 vwCl (wMo g mo a o y9.2 dr pa sa iS bu tq rT wT wo sK sA sB sE oq bS bE bL rp) H := hP
  have hD : va_D (inW ws0) (wMo g mo a o y9.2 dr pa sa iS bu tq rT wT wo sK sA sB sE oq bS bE bL rp) := hD
  have hz := lett_z hz ey9
  refine lv_l2i hx hb d_Mo_stillIn_66 rfl ?_
  exact endI1 C hz hP hS d_Mo_stillIn_67
noncomputable def sp_Mo_stillIn_42 (x6p20 : Int32) (v1 : Int64) (v2 : Int64)  (nowp42 : LV) : Int32 × LV := if (300 : Int32) < x6p20 then (sp_Mo_stillIn_63 v1 v2 nowp42 (-1 : Int64)) else (sp_Mo_stillIn_63 v1 v2 nowp42 x6p20.toInt64)
def ok_Mo_stillIn_42 (x6p20 : Int32) (v1 : Int64) (v2 : Int64)   (nowp42 : LV) : Prop := True
set_option maxRecDepth 100000 in
set_option maxHeartbeats 4000000 in
theorem k_Mo_stillIn_42 {p : Program} {l : Launch} {e : Env} {s : State} {m : MethodId} {args : Array Value} {below : List Frame} {meth : Method} {c : Code} {g : GX} {mo : Nat} {a : Nat → Nat} {ws0 : va_W} {o : IV} {dr : LV} {pa : LV} {sa : LV} {iS : IV} {bu : IV} {tq : IV} {rT : IV} {wT : IV} {wo : Nat → Option Nat} {sK : IV} {sA : IV} {sB : IV} {sE : IV} {oq : IV} {bS : IV} {bE : IV} {bL : IV} {rp : IV} {v1 : Int64} {v2 : Int64} {x6p20 : Int32}  (C : Cx p s m args meth c (inW ws0) g "DecadeBridgeModel" b_Mo_stillIn (some .int) 7)  : HL_Mo_stillIn_42 p l e s m args below meth c g mo a ws0 o dr pa sa iS bu tq rT wT wo sK sA sB sE oq bS bE bL rp v1 v2 x6p20 (sp_Mo_stillIn_42 x6p20 v1 v2 ) (ok_Mo_stillIn_42 x6p20 v1 v2  ) := by
  intro nowp42 hok z hz H locs ls hP hD hS hl
  obtain ⟨hx, hb, hr, hml, hown, hlk, hts, hK, hZo, hZ⟩ := id C
  unfold sp_Mo_stillIn_42 at hz
  refine lv_aload_n hx hb d_Mo_stillIn_42 rfl (lv_at hl 0 rfl) ?_
  refine lv_lload_n hx hb d_Mo_stillIn_43 rfl (lv_at hl 1 rfl) ?_
  refine lv_lload hx hb d_Mo_stillIn_44 (lv_at hl 2 rfl) ?_
  refine lv_iload hx hb d_Mo_stillIn_46 (lv_at hl 3 rfl) ?_
  refine lv_sipush (v := 300) hx hb d_Mo_stillIn_48 (by decide) ?_
  refine lv_icmp_gt (tgt := 60) hx hb d_Mo_stillIn_51 (by decide) (fun c8 => ?_) (fun c8 => ?_)
  · have hz := hz.trans (if_pos c8)
    refine lv_ldc2 hx hb hown (hts _ qk_Mo_470) d_Mo_stillIn_60 ?_
    exact k_Mo_stillIn_63 C (-1 : Int64) trivial _ hz _ _ ls hP hD hS (lv_sub hl [] rfl)
  · have hz := hz.trans (if_neg c8)
    refine lv_iload hx hb d_Mo_stillIn_54 (lv_at hl 3 rfl) ?_
    refine lv_i2l hx hb d_Mo_stillIn_56 rfl ?_
    refine lv_goto (tgt := 63) hx hb d_Mo_stillIn_57 (by decide) ?_
    exact k_Mo_stillIn_63 C x6p20.toInt64 trivial _ hz _ _ ls hP hD hS (lv_sub hl [] rfl)
noncomputable def bd_Mo_stillIn_20 (v1 : Int64) (v2 : Int64) (p1 : Int32) (r20 : Int32 → LV → (Int32 × LV)) (x6p20 : Int32) (nowp20 : LV) : Int32 × LV := if (300 : Int32) < x6p20 then (sp_Mo_stillIn_42 x6p20 v1 v2 nowp20) else (lett (sp_Mo_heats p1 nowp20) fun (y5 : Int32 × LV) => if y5.1 = 0 then (sp_Mo_stillIn_42 x6p20 v1 v2 y5.2) else (lett (x6p20 + (1 : Int32)) fun (v7 : Int32) => r20 v7 y5.2))
def okb_Mo_stillIn_20 (v1 : Int64) (v2 : Int64) (p1 : Int32) (r20 : Int32 → LV → (Int32 × LV)) (q20 : Int32 → LV → Prop) (x6p20 : Int32) (nowp20 : LV) : Prop := (((300 : Int32) < x6p20 → True) ∧ (¬ ((300 : Int32) < x6p20) → (ok_Mo_heats p1 nowp20) ∧ lett (sp_Mo_heats p1 nowp20) fun (y5 : Int32 × LV) => ((y5.1 = 0 → True) ∧ (¬ (y5.1 = 0) → lett (x6p20 + (1 : Int32)) fun (v7 : Int32) => q20 v7 y5.2))))
noncomputable def sp_Mo_stillIn_20 (v1 : Int64) (v2 : Int64) (p1 : Int32)  : Nat → Int32 → LV → (Int32 × LV)
  | 0 => fun _ _ => default
  | f + 1 => bd_Mo_stillIn_20 v1 v2 p1  (sp_Mo_stillIn_20 v1 v2 p1  f)
def ok_Mo_stillIn_20 (v1 : Int64) (v2 : Int64) (p1 : Int32)   : Nat → Int32 → LV → Prop
  | 0 => fun _ _ => False
  | f + 1 => okb_Mo_stillIn_20 v1 v2 p1  (sp_Mo_stillIn_20 v1 v2 p1  f)  (ok_Mo_stillIn_20 v1 v2 p1   f)
set_option maxRecDepth 100000 in
set_option maxHeartbeats 4000000 in
theorem kb_Mo_stillIn_20 {p : Program} {l : Launch} {e : Env} {s : State} {m : MethodId} {args : Array Value} {below : List Frame} {meth : Method} {c : Code} {g : GX} {mo : Nat} {a : Nat → Nat} {ws0 : va_W} {o : IV} {dr : LV} {pa : LV} {sa : LV} {iS : IV} {bu : IV} {tq : IV} {rT : IV} {wT : IV} {wo : Nat → Option Nat} {sK : IV} {sA : IV} {sB : IV} {sE : IV} {oq : IV} {bS : IV} {bE : IV} {bL : IV} {rp : IV} {p1 : Int32} {v1 : Int64} {v2 : Int64}  (C : Cx p s m args meth c (inW ws0) g "DecadeBridgeModel" b_Mo_stillIn (some .int) 7) {r20 : Int32 → LV → (Int32 × LV)} {q20 : Int32 → LV → Prop}  (ih20 : HL_Mo_stillIn_20 p l e s m args below meth c g mo a ws0 o dr pa sa iS bu tq rT wT wo sK sA sB sE oq bS bE bL rp p1 v1 v2 r20 q20) : HL_Mo_stillIn_20 p l e s m args below meth c g mo a ws0 o dr pa sa iS bu tq rT wT wo sK sA sB sE oq bS bE bL rp p1 v1 v2 (bd_Mo_stillIn_20 v1 v2 p1  r20) (okb_Mo_stillIn_20 v1 v2 p1  r20  q20) := by
  intro x6p20 nowp20 hok z hz H locs ls hP hD hS hl
  obtain ⟨hx, hb, hr, hml, hown, hlk, hts, hK, hZo, hZ⟩ := id C
  unfold bd_Mo_stillIn_20 at hz
  unfold okb_Mo_stillIn_20 at hok
  refine lv_iload hx hb d_Mo_stillIn_20 (lv_at hl 4 rfl) ?_
  refine lv_sipush (v := 300) hx hb d_Mo_stillIn_22 (by decide) ?_
  refine lv_icmp_gt (tgt := 42) hx hb d_Mo_stillIn_25 (by decide) (fun c3 => ?_) (fun c3 => ?_)
  · have hz := hz.trans (if_pos c3)
    exact k_Mo_stillIn_42 C nowp20 trivial _ hz _ _ ls hP hD hS (lv_sub hl [0, 2, 3, 4] rfl)
  · have hz := hz.trans (if_neg c3)
    have hok := hok.2 c3
    refine lv_aload_n hx hb d_Mo_stillIn_28 rfl (lv_at hl 0 rfl) ?_
    refine lv_iload_n hx hb d_Mo_stillIn_29 rfl (lv_at hl 1 rfl) ?_
    have hs4 := hok.1
    have hok := hok.2
    have hB : SubW g (inW ws0) s (wMo g mo a o nowp20 dr pa sa iS bu tq rT wT wo sK sA sB sE oq bS bE bL rp) _ (List.range _) _ _ := (subF hP hD hS)
    refine goIF hB (run_v C mf_Mo_heats qm_Mo_206 (c_Mo_heats l g mo a o nowp20 dr pa sa iS bu tq rT wT wo sK sA sB sE oq bS bE bL rp p1 hs4) rfl rfl ⟨Nat.le_of_ble_eq_true rfl, Nat.le_of_ble_eq_true rfl⟩ ⟨Nat.le_of_ble_eq_true rfl, Nat.le_of_ble_eq_true rfl⟩ hB rfl rfl hl rfl rfl (Nat.le_of_ble_eq_true rfl) d_Mo_stillIn_30) (fun _ => rfl) (fun y5 ey5 H locs hP hD hS => ?_)
    have hP : va_P g.1 vwCl (wMo g mo a o y5.2 dr pa sa iS bu tq rT wT wo sK sA sB sE oq bS bE bL rp) H := hP
    have hD : va_D (inW ws0) (wMo g mo a o y5.2 dr pa sa iS bu tq rT wT wo sK sA sB sE oq bS bE bL rp) := hD
    have hz := lett_z hz ey5
    have hok := lett_o hok ey5
    refine lv_if_eq (tgt := 42) hx hb d_Mo_stillIn_33 (by decide) (fun c6 => ?_) (fun c6 => ?_)
    · have hz := hz.trans (if_pos c6)
      exact k_Mo_stillIn_42 C y5.2 trivial _ hz _ _ ls hP hD hS (lv_sub hl [0, 2, 3, 4] rfl)
    · have hz := hz.trans (if_neg c6)
      have hok := hok.2 c6
      obtain ⟨v7, ev7⟩ : ∃ y : Int32, y = x6p20 + (1 : Int32) := ⟨_, rfl⟩
      have hz := lett_z hz ev7
      have hok := lett_o hok ev7
      refine lv_iinc (v := v7) (lv' := [(6, .int v7), (0, .ref mo), (1, .int p1), (2, .long v1), (4, .long v2)]) hx hb d_Mo_stillIn_36 hl (k := 4) rfl (by rw [ev7]; rfl) (by decide) rfl (fun ls hl => ?_)
      refine lv_goto (tgt := 20) hx hb d_Mo_stillIn_39 (by decide) ?_
      exact ih20 v7 y5.2 hok _ hz _ _ ls hP hD hS (lv_sub hl [1, 2, 3, 4, 0] rfl)
theorem k_Mo_stillIn_20 {p : Program} {l : Launch} {e : Env} {s : State} {m : MethodId} {args : Array Value} {below : List Frame} {meth : Method} {c : Code} {g : GX} {mo : Nat} {a : Nat → Nat} {ws0 : va_W} {o : IV} {dr : LV} {pa : LV} {sa : LV} {iS : IV} {bu : IV} {tq : IV} {rT : IV} {wT : IV} {wo : Nat → Option Nat} {sK : IV} {sA : IV} {sB : IV} {sE : IV} {oq : IV} {bS : IV} {bE : IV} {bL : IV} {rp : IV} {p1 : Int32} {v1 : Int64} {v2 : Int64}  (C : Cx p s m args meth c (inW ws0) g "DecadeBridgeModel" b_Mo_stillIn (some .int) 7) (f : Nat)  : HL_Mo_stillIn_20 p l e s m args below meth c g mo a ws0 o dr pa sa iS bu tq rT wT wo sK sA sB sE oq bS bE bL rp p1 v1 v2 (sp_Mo_stillIn_20 v1 v2 p1  f) (ok_Mo_stillIn_20 v1 v2 p1   f) := by
  induction f with
  | zero => intro x6p20 nowp20 hok; exact False.elim hok
  | succ f ih => exact kb_Mo_stillIn_20 C  ih
noncomputable def sp_Mo_stillIn (p1 : Int32) (now : LV) : Int32 × LV := lett (now 37) fun (v1 : Int64) => lett (now 38) fun (v2 : Int64) => sp_Mo_stillIn_20 v1 v2 p1 big (0 : Int32) now
def ok_Mo_stillIn (p1 : Int32) (now : LV) : Prop := lett (now 37) fun (v1 : Int64) => lett (now 38) fun (v2 : Int64) => ok_Mo_stillIn_20 v1 v2 p1 big (0 : Int32) now
set_option maxRecDepth 100000 in
set_option maxHeartbeats 4000000 in
theorem c_Mo_stillIn (l : Launch) (g : GX) (mo : Nat) (a : Nat → Nat) (o : IV) (now : LV) (dr : LV) (pa : LV) (sa : LV) (iS : IV) (bu : IV) (tq : IV) (rT : IV) (wT : IV) (wo : Nat → Option Nat) (sK : IV) (sA : IV) (sB : IV) (sE : IV) (oq : IV) (bS : IV) (bE : IV) (bL : IV) (rp : IV) (p1 : Int32) (hok : ok_Mo_stillIn p1 now) : Met l y_Mo_stillIn (wsY y_Mo_stillIn b_Mo_stillIn 7 (some .int)) rm_Mo_stillIn (CP g [.ref mo, .int p1] (wMo g mo a o now dr pa sa iS bu tq rT wT wo sK sA sB sE oq bS bE bL rp)) (CI g (wMo g mo a o now dr pa sa iS bu tq rT wT wo sK sA sB sE oq bS bE bL rp) (fun u : LV => wMo g mo a o u dr pa sa iS bu tq rT wT wo sK sA sB sE oq bS bE bL rp) (sp_Mo_stillIn p1 now)) 0 0 (inW (wMo g mo a o now dr pa sa iS bu tq rT wT wo sK sA sB sE oq bS bE bL rp)) := by
  refine Met.ofW (cc := b_Mo_stillIn) (maxL := 7) (ret := (some .int)) pn_Mo rfl ?_
  intro p e s m args below meth c s₁ B hml hv
  obtain ⟨rfl, C, hP, hD, hS⟩ := enter "DecadeBridgeModel" rfl B hml hv
  obtain ⟨hx, hb, hr, hml, hown, hlk, hts, hK, hZo, hZ⟩ := id C
  refine entryW (lv := [(0, .ref mo), (1, .int p1)]) rfl (Nat.le_of_ble_eq_true rfl) (fun ls hl => ?_)
  obtain ⟨z, hz⟩ : ∃ z, z = sp_Mo_stillIn p1 now := ⟨_, rfl⟩
  rw [← hz]
  unfold sp_Mo_stillIn at hz
  unfold ok_Mo_stillIn at hok
  refine lv_aload_n hx hb d_Mo_stillIn_0 rfl (lv_at hl 0 rfl) ?_
  refine gf C hP 0 0 fkMo rfl (by decide) rfl qf_Mo_7 (gMo_0 _ _) d_Mo_stillIn_1 ?_
  refine lv_bipush (v := 37) hx hb d_Mo_stillIn_4 (by decide) ?_
  refine ldL C hP 1 rfl vi_37_215 cn_37 d_Mo_stillIn_6 ?_
  refine lv_topl (fun v1 ev1 => ?_)
  have hz := lett_z hz ev1
  have hok := lett_o hok ev1
  refine lv_lstore_n (lv' := [(2, .long v1), (0, .ref mo), (1, .int p1)]) hx hb d_Mo_stillIn_7 rfl hl (by decide) rfl (fun ls hl => ?_)
  refine lv_aload_n hx hb d_Mo_stillIn_8 rfl (lv_at hl 1 rfl) ?_
  refine gf C hP 0 0 fkMo rfl (by decide) rfl qf_Mo_7 (gMo_0 _ _) d_Mo_stillIn_9 ?_
  refine lv_bipush (v := 38) hx hb d_Mo_stillIn_12 (by decide) ?_
  refine ldL C hP 1 rfl vi_38_215 cn_38 d_Mo_stillIn_14 ?_
  refine lv_topl (fun v2 ev2 => ?_)
  have hz := lett_z hz ev2
  have hok := lett_o hok ev2
  refine lv_lstore (lv' := [(4, .long v2), (2, .long v1), (0, .ref mo), (1, .int p1)]) hx hb d_Mo_stillIn_15 hl (by decide) rfl (fun ls hl => ?_)
  refine lv_iconst (v := 0) hx hb d_Mo_stillIn_17 (by decide) ?_
  refine lv_istore (lv' := [(6, .int (0 : Int32)), (4, .long v2), (2, .long v1), (0, .ref mo), (1, .int p1)]) hx hb d_Mo_stillIn_18 hl (by decide) rfl (fun ls hl => ?_)
  exact k_Mo_stillIn_20 C big (0 : Int32) now hok _ hz _ _ ls hP hD hS (lv_sub hl [3, 4, 2, 1, 0] rfl)
abbrev rm_Mo_steadyIn : Room := { frames := 9, cells := 0, slots := 0, locals := 211 }
noncomputable def sp_Mo_steadyIn (o : IV) (now : LV) : Int32 × IV × LV := lett (upd o 6 (0 : Int32)) fun (o_1 : IV) => lett (sp_Mo_stillIn (1 : Int32) now) fun (y3 : Int32 × LV) => (y3.1, (o_1, y3.2))
def ok_Mo_steadyIn (o : IV) (now : LV) : Prop := lett (upd o 6 (0 : Int32)) fun (o_1 : IV) => (ok_Mo_stillIn (1 : Int32) now) ∧ True
set_option maxRecDepth 100000 in
set_option maxHeartbeats 4000000 in
theorem c_Mo_steadyIn (l : Launch) (g : GX) (mo : Nat) (a : Nat → Nat) (o : IV) (now : LV) (dr : LV) (pa : LV) (sa : LV) (iS : IV) (bu : IV) (tq : IV) (rT : IV) (wT : IV) (wo : Nat → Option Nat) (sK : IV) (sA : IV) (sB : IV) (sE : IV) (oq : IV) (bS : IV) (bE : IV) (bL : IV) (rp : IV)  (hok : ok_Mo_steadyIn o now) : Met l y_Mo_steadyIn (wsY y_Mo_steadyIn b_Mo_steadyIn 1 (some .int)) rm_Mo_steadyIn (CP g [.ref mo] (wMo g mo a o now dr pa sa iS bu tq rT wT wo sK sA sB sE oq bS bE bL rp)) (CI g (wMo g mo a o now dr pa sa iS bu tq rT wT wo sK sA sB sE oq bS bE bL rp) (fun u : IV × LV => wMo g mo a u.1 u.2 dr pa sa iS bu tq rT wT wo sK sA sB sE oq bS bE bL rp) (sp_Mo_steadyIn o now)) 0 0 (inW (wMo g mo a o now dr pa sa iS bu tq rT wT wo sK sA sB sE oq bS bE bL rp)) := by
  refine Met.ofW (cc := b_Mo_steadyIn) (maxL := 1) (ret := (some .int)) pn_Mo rfl ?_
  intro p e s m args below meth c s₁ B hml hv
  obtain ⟨rfl, C, hP, hD, hS⟩ := enter "DecadeBridgeModel" rfl B hml hv
  obtain ⟨hx, hb, hr, hml, hown, hlk, hts, hK, hZo, hZ⟩ := id C
  refine entryW (lv := [(0, .ref mo)]) rfl (Nat.le_of_ble_eq_true rfl) (fun ls hl => ?_)
  obtain ⟨z, hz⟩ : ∃ z, z = sp_Mo_steadyIn o now := ⟨_, rfl⟩
  rw [← hz]
  unfold sp_Mo_steadyIn at hz
  unfold ok_Mo_steadyIn at hok
  refine lv_aload_n hx hb d_Mo_steadyIn_0 rfl (lv_at hl 0 rfl) ?_
  refine lv_iconst (v := 0) hx hb d_Mo_steadyIn_1 (by decide) ?_
  refine pfI C hP hD hS 0 6 fkMo rfl (by decide) rfl qf_Mo_107 rfl rfl rfl (Nat.le_of_ble_eq_true rfl) (ff := fun o => fMo a o) (sMo_6 _ _ _) d_Mo_steadyIn_2 (fun o_1 eo_1 H locs hP hD hS => ?_)
  have hP : va_P g.1 vwCl (wMo g mo a o_1 now dr pa sa iS bu tq rT wT wo sK sA sB sE oq bS bE bL rp) H := hP
  have hD : va_D (inW (wMo g mo a o now dr pa sa iS bu tq rT wT wo sK sA sB sE oq bS bE bL rp)) (wMo g mo a o_1 now dr pa sa iS bu tq rT wT wo sK sA sB sE oq bS bE bL rp) := hD
  have hz := lett_z hz eo_1
  have hok := lett_o hok eo_1
  refine lv_aload_n hx hb d_Mo_steadyIn_5 rfl (lv_at hl 0 rfl) ?_
  refine lv_iconst (v := 1) hx hb d_Mo_steadyIn_6 (by decide) ?_
  have hs2 := hok.1
  have hok := hok.2
  have hB : SubW g (inW (wMo g mo a o now dr pa sa iS bu tq rT wT wo sK sA sB sE oq bS bE bL rp)) s (wMo g mo a o_1 now dr pa sa iS bu tq rT wT wo sK sA sB sE oq bS bE bL rp) _ (List.range _) _ _ := (subF hP hD hS)
  refine goIF hB (run_v C mf_Mo_stillIn qm_Mo_472 (c_Mo_stillIn l g mo a o_1 now dr pa sa iS bu tq rT wT wo sK sA sB sE oq bS bE bL rp (1 : Int32) hs2) rfl rfl ⟨Nat.le_of_ble_eq_true rfl, Nat.le_of_ble_eq_true rfl⟩ ⟨Nat.le_of_ble_eq_true rfl, Nat.le_of_ble_eq_true rfl⟩ hB rfl rfl hl rfl rfl (Nat.le_of_ble_eq_true rfl) d_Mo_steadyIn_7) (fun _ => rfl) (fun y3 ey3 H locs hP hD hS => ?_)
  have hP : va_P g.1 vwCl (wMo g mo a o_1 y3.2 dr pa sa iS bu tq rT wT wo sK sA sB sE oq bS bE bL rp) H := hP
  have hD : va_D (inW (wMo g mo a o now dr pa sa iS bu tq rT wT wo sK sA sB sE oq bS bE bL rp)) (wMo g mo a o_1 y3.2 dr pa sa iS bu tq rT wT wo sK sA sB sE oq bS bE bL rp) := hD
  have hz := lett_z hz ey3
  exact endI1 C hz hP hS d_Mo_steadyIn_10
abbrev rm_Mo_cooledIn : Room := { frames := 9, cells := 0, slots := 0, locals := 211 }
noncomputable def sp_Mo_cooledIn (o : IV) (now : LV) : Int32 × IV × LV := lett (upd o 6 (0 : Int32)) fun (o_1 : IV) => lett (sp_Mo_stillIn (0 : Int32) now) fun (y3 : Int32 × LV) => (y3.1, (o_1, y3.2))
def ok_Mo_cooledIn (o : IV) (now : LV) : Prop := lett (upd o 6 (0 : Int32)) fun (o_1 : IV) => (ok_Mo_stillIn (0 : Int32) now) ∧ True
set_option maxRecDepth 100000 in
set_option maxHeartbeats 4000000 in
theorem c_Mo_cooledIn (l : Launch) (g : GX) (mo : Nat) (a : Nat → Nat) (o : IV) (now : LV) (dr : LV) (pa : LV) (sa : LV) (iS : IV) (bu : IV) (tq : IV) (rT : IV) (wT : IV) (wo : Nat → Option Nat) (sK : IV) (sA : IV) (sB : IV) (sE : IV) (oq : IV) (bS : IV) (bE : IV) (bL : IV) (rp : IV)  (hok : ok_Mo_cooledIn o now) : Met l y_Mo_cooledIn (wsY y_Mo_cooledIn b_Mo_cooledIn 1 (some .int)) rm_Mo_cooledIn (CP g [.ref mo] (wMo g mo a o now dr pa sa iS bu tq rT wT wo sK sA sB sE oq bS bE bL rp)) (CI g (wMo g mo a o now dr pa sa iS bu tq rT wT wo sK sA sB sE oq bS bE bL rp) (fun u : IV × LV => wMo g mo a u.1 u.2 dr pa sa iS bu tq rT wT wo sK sA sB sE oq bS bE bL rp) (sp_Mo_cooledIn o now)) 0 0 (inW (wMo g mo a o now dr pa sa iS bu tq rT wT wo sK sA sB sE oq bS bE bL rp)) := by
  refine Met.ofW (cc := b_Mo_cooledIn) (maxL := 1) (ret := (some .int)) pn_Mo rfl ?_
  intro p e s m args below meth c s₁ B hml hv
  obtain ⟨rfl, C, hP, hD, hS⟩ := enter "DecadeBridgeModel" rfl B hml hv
  obtain ⟨hx, hb, hr, hml, hown, hlk, hts, hK, hZo, hZ⟩ := id C
  refine entryW (lv := [(0, .ref mo)]) rfl (Nat.le_of_ble_eq_true rfl) (fun ls hl => ?_)
  obtain ⟨z, hz⟩ : ∃ z, z = sp_Mo_cooledIn o now := ⟨_, rfl⟩
  rw [← hz]
  unfold sp_Mo_cooledIn at hz
  unfold ok_Mo_cooledIn at hok
  refine lv_aload_n hx hb d_Mo_cooledIn_0 rfl (lv_at hl 0 rfl) ?_
  refine lv_iconst (v := 0) hx hb d_Mo_cooledIn_1 (by decide) ?_
  refine pfI C hP hD hS 0 6 fkMo rfl (by decide) rfl qf_Mo_107 rfl rfl rfl (Nat.le_of_ble_eq_true rfl) (ff := fun o => fMo a o) (sMo_6 _ _ _) d_Mo_cooledIn_2 (fun o_1 eo_1 H locs hP hD hS => ?_)
  have hP : va_P g.1 vwCl (wMo g mo a o_1 now dr pa sa iS bu tq rT wT wo sK sA sB sE oq bS bE bL rp) H := hP
  have hD : va_D (inW (wMo g mo a o now dr pa sa iS bu tq rT wT wo sK sA sB sE oq bS bE bL rp)) (wMo g mo a o_1 now dr pa sa iS bu tq rT wT wo sK sA sB sE oq bS bE bL rp) := hD
  have hz := lett_z hz eo_1
  have hok := lett_o hok eo_1
  refine lv_aload_n hx hb d_Mo_cooledIn_5 rfl (lv_at hl 0 rfl) ?_
  refine lv_iconst (v := 0) hx hb d_Mo_cooledIn_6 (by decide) ?_
  have hs2 := hok.1
  have hok := hok.2
  have hB : SubW g (inW (wMo g mo a o now dr pa sa iS bu tq rT wT wo sK sA sB sE oq bS bE bL rp)) s (wMo g mo a o_1 now dr pa sa iS bu tq rT wT wo sK sA sB sE oq bS bE bL rp) _ (List.range _) _ _ := (subF hP hD hS)
  refine goIF hB (run_v C mf_Mo_stillIn qm_Mo_472 (c_Mo_stillIn l g mo a o_1 now dr pa sa iS bu tq rT wT wo sK sA sB sE oq bS bE bL rp (0 : Int32) hs2) rfl rfl ⟨Nat.le_of_ble_eq_true rfl, Nat.le_of_ble_eq_true rfl⟩ ⟨Nat.le_of_ble_eq_true rfl, Nat.le_of_ble_eq_true rfl⟩ hB rfl rfl hl rfl rfl (Nat.le_of_ble_eq_true rfl) d_Mo_cooledIn_7) (fun _ => rfl) (fun y3 ey3 H locs hP hD hS => ?_)
  have hP : va_P g.1 vwCl (wMo g mo a o_1 y3.2 dr pa sa iS bu tq rT wT wo sK sA sB sE oq bS bE bL rp) H := hP
  have hD : va_D (inW (wMo g mo a o now dr pa sa iS bu tq rT wT wo sK sA sB sE oq bS bE bL rp)) (wMo g mo a o_1 y3.2 dr pa sa iS bu tq rT wT wo sK sA sB sE oq bS bE bL rp) := hD
  have hz := lett_z hz ey3
  exact endI1 C hz hP hS d_Mo_cooledIn_10
abbrev rm_Mo_copy_pp : Room := { frames := 0, cells := 0, slots := 0, locals := 0 }
def HL_Mo_copy_pp_3 (p : Program) (l : Launch) (e : Env) (s : State) (m : MethodId) (args : Array Value) (below : List Frame) (meth : Method) (c : Code) (g : GX) (mo : Nat) (a : Nat → Nat) (ws0 : va_W) (o : IV) (now : LV) (dr : LV) (sa : LV) (iS : IV) (bu : IV) (tq : IV) (rT : IV) (wT : IV) (wo : Nat → Option Nat) (sK : IV) (sA : IV) (sB : IV) (sE : IV) (oq : IV) (bS : IV) (bE : IV) (bL : IV) (rp : IV) (p2 : Int32) (p4 : Int32) (sp : Int32 → LV → LV) (ok : Int32 → LV → Prop) : Prop := ∀ (x4p3 : Int32) (pap3 : LV), ok x4p3 pap3 → ∀ z : LV, z = sp x4p3 pap3 → ∀ (H : Heap) (locs : List Loc) (ls : Array Slot), va_P g.1 vwCl (wMo g mo a o now dr pap3 sa iS bu tq rT wT wo sK sA sB sE oq bS bE bL rp) H → va_D (inW ws0) (wMo g mo a o now dr pap3 sa iS bu tq rT wT wo sK sA sB sE oq bS bE bL rp) → va_S (inW ws0) s.heap H locs → lv_has ls 5 [(0, .ref (a 2)), (1, .int p2), (2, .ref (a 2)), (3, .int p4), (4, .int x4p3)] → W p l e rm_Mo_copy_pp s m args below meth c H locs 0 0 (MQ below (CV g ws0 (fun u : LV => wMo g mo a o now dr u sa iS bu tq rT wT wo sK sA sB sE oq bS bE bL rp) z) args s 0 0 (inW ws0)) (F0 m 3 ls [])
noncomputable def bd_Mo_copy_pp_3 (p4 : Int32) (p2 : Int32) (r3 : Int32 → LV → LV) (x4p3 : Int32) (pap3 : LV) : LV := if (215 : Int32) ≤ x4p3 then (pap3) else (lett (vp_updL pap3 (((215 : Int32) * p4) + x4p3).toNatClampNeg (pap3 (((215 : Int32) * p2) + x4p3).toNatClampNeg)) fun (pa_4 : LV) => lett (x4p3 + (1 : Int32)) fun (v5 : Int32) => r3 v5 pa_4)
def okb_Mo_copy_pp_3 (p4 : Int32) (p2 : Int32) (r3 : Int32 → LV → LV) (q3 : Int32 → LV → Prop) (x4p3 : Int32) (pap3 : LV) : Prop := (((215 : Int32) ≤ x4p3 → True) ∧ (¬ ((215 : Int32) ≤ x4p3) → (vp_in (((215 : Int32) * p2) + x4p3) 1720) ∧ (vp_in (((215 : Int32) * p4) + x4p3) 1720) ∧ lett (vp_updL pap3 (((215 : Int32) * p4) + x4p3).toNatClampNeg (pap3 (((215 : Int32) * p2) + x4p3).toNatClampNeg)) fun (pa_4 : LV) => lett (x4p3 + (1 : Int32)) fun (v5 : Int32) => q3 v5 pa_4))
noncomputable def sp_Mo_copy_pp_3 (p4 : Int32) (p2 : Int32)  : Nat → Int32 → LV → LV
  | 0 => fun _ _ => default
  | f + 1 => bd_Mo_copy_pp_3 p4 p2  (sp_Mo_copy_pp_3 p4 p2  f)
def ok_Mo_copy_pp_3 (p4 : Int32) (p2 : Int32)   : Nat → Int32 → LV → Prop
  | 0 => fun _ _ => False
  | f + 1 => okb_Mo_copy_pp_3 p4 p2  (sp_Mo_copy_pp_3 p4 p2  f)  (ok_Mo_copy_pp_3 p4 p2   f)
set_option maxRecDepth 100000 in
set_option maxHeartbeats 4000000 in
theorem kb_Mo_copy_pp_3 {p : Program} {l : Launch} {e : Env} {s : State} {m : MethodId} {args : Array Value} {below : List Frame} {meth : Method} {c : Code} {g : GX} {mo : Nat} {a : Nat → Nat} {ws0 : va_W} {o : IV} {now : LV} {dr : LV} {sa : LV} {iS : IV} {bu : IV} {tq : IV} {rT : IV} {wT : IV} {wo : Nat → Option Nat} {sK : IV} {sA : IV} {sB : IV} {sE : IV} {oq : IV} {bS : IV} {bE : IV} {bL : IV} {rp : IV} {p2 : Int32} {p4 : Int32}  (C : Cx p s m args meth c (inW ws0) g "DecadeBridgeModel" b_Mo_copy none 5) {r3 : Int32 → LV → LV} {q3 : Int32 → LV → Prop}  (ih3 : HL_Mo_copy_pp_3 p l e s m args below meth c g mo a ws0 o now dr sa iS bu tq rT wT wo sK sA sB sE oq bS bE bL rp p2 p4 r3 q3) : HL_Mo_copy_pp_3 p l e s m args below meth c g mo a ws0 o now dr sa iS bu tq rT wT wo sK sA sB sE oq bS bE bL rp p2 p4 (bd_Mo_copy_pp_3 p4 p2  r3) (okb_Mo_copy_pp_3 p4 p2  r3  q3) := by
  intro x4p3 pap3 hok z hz H locs ls hP hD hS hl
  obtain ⟨hx, hb, hr, hml, hown, hlk, hts, hK, hZo, hZ⟩ := id C
  unfold bd_Mo_copy_pp_3 at hz
  unfold okb_Mo_copy_pp_3 at hok
  refine lv_iload hx hb d_Mo_copy_3 (lv_at hl 4 rfl) ?_
  refine lv_sipush (v := 215) hx hb d_Mo_copy_5 (by decide) ?_
  refine lv_icmp_ge (tgt := 37) hx hb d_Mo_copy_8 (by decide) (fun c1 => ?_) (fun c1 => ?_)
  · have hz := hz.trans (if_pos c1)
    exact endV C hz hP hS d_Mo_copy_37
  · have hz := hz.trans (if_neg c1)
    have hok := hok.2 c1
    refine lv_aload_n hx hb d_Mo_copy_11 rfl (lv_at hl 2 rfl) ?_
    refine lv_sipush (v := 215) hx hb d_Mo_copy_12 (by decide) ?_
    refine lv_iload_n hx hb d_Mo_copy_15 rfl (lv_at hl 3 rfl) ?_
    refine lv_imul hx hb d_Mo_copy_16 ?_
    refine lv_iload hx hb d_Mo_copy_17 (lv_at hl 4 rfl) ?_
    refine lv_iadd hx hb d_Mo_copy_19 ?_
    refine lv_aload_n hx hb d_Mo_copy_20 rfl (lv_at hl 0 rfl) ?_
    refine lv_sipush (v := 215) hx hb d_Mo_copy_21 (by decide) ?_
    refine lv_iload_n hx hb d_Mo_copy_24 rfl (lv_at hl 1 rfl) ?_
    refine lv_imul hx hb d_Mo_copy_25 ?_
    refine lv_iload hx hb d_Mo_copy_26 (lv_at hl 4 rfl) ?_
    refine lv_iadd hx hb d_Mo_copy_28 ?_
    have hs2 := hok.1
    have hok := hok.2
    refine ldL C hP 3 rfl hs2 rfl d_Mo_copy_29 ?_
    have hs3 := hok.1
    have hok := hok.2
    refine stL C hP hD hS 3 rfl hs3 rfl d_Mo_copy_30 (fun pa_4 epa_4 H locs hP hD hS => ?_)
    have hP : va_P g.1 vwCl (wMo g mo a o now dr pa_4 sa iS bu tq rT wT wo sK sA sB sE oq bS bE bL rp) H := hP
    have hD : va_D (inW ws0) (wMo g mo a o now dr pa_4 sa iS bu tq rT wT wo sK sA sB sE oq bS bE bL rp) := hD
    have hz := lett_z hz epa_4
    have hok := lett_o hok epa_4
    obtain ⟨v5, ev5⟩ : ∃ y : Int32, y = x4p3 + (1 : Int32) := ⟨_, rfl⟩
    have hz := lett_z hz ev5
    have hok := lett_o hok ev5
    refine lv_iinc (v := v5) (lv' := [(4, .int v5), (0, .ref (a 2)), (1, .int p2), (2, .ref (a 2)), (3, .int p4)]) hx hb d_Mo_copy_31 hl (k := 4) rfl (by rw [ev5]; rfl) (by decide) rfl (fun ls hl => ?_)
    refine lv_goto (tgt := 3) hx hb d_Mo_copy_34 (by decide) ?_
    exact ih3 v5 pa_4 hok _ hz _ _ ls hP hD hS (lv_sub hl [1, 2, 3, 4, 0] rfl)
theorem k_Mo_copy_pp_3 {p : Program} {l : Launch} {e : Env} {s : State} {m : MethodId} {args : Array Value} {below : List Frame} {meth : Method} {c : Code} {g : GX} {mo : Nat} {a : Nat → Nat} {ws0 : va_W} {o : IV} {now : LV} {dr : LV} {sa : LV} {iS : IV} {bu : IV} {tq : IV} {rT : IV} {wT : IV} {wo : Nat → Option Nat} {sK : IV} {sA : IV} {sB : IV} {sE : IV} {oq : IV} {bS : IV} {bE : IV} {bL : IV} {rp : IV} {p2 : Int32} {p4 : Int32}  (C : Cx p s m args meth c (inW ws0) g "DecadeBridgeModel" b_Mo_copy none 5) (f : Nat)  : HL_Mo_copy_pp_3 p l e s m args below meth c g mo a ws0 o now dr sa iS bu tq rT wT wo sK sA sB sE oq bS bE bL rp p2 p4 (sp_Mo_copy_pp_3 p4 p2  f) (ok_Mo_copy_pp_3 p4 p2   f) := by
  induction f with
  | zero => intro x4p3 pap3 hok; exact False.elim hok
  | succ f ih => exact kb_Mo_copy_pp_3 C  ih
noncomputable def sp_Mo_copy_pp (p2 : Int32) (p4 : Int32) (pa : LV) : LV := sp_Mo_copy_pp_3 p4 p2 big (0 : Int32) pa
def ok_Mo_copy_pp (p2 : Int32) (p4 : Int32) (pa : LV) : Prop := ok_Mo_copy_pp_3 p4 p2 big (0 : Int32) pa
set_option maxRecDepth 100000 in
set_option maxHeartbeats 4000000 in
theorem c_Mo_copy_pp (l : Launch) (g : GX) (mo : Nat) (a : Nat → Nat) (o : IV) (now : LV) (dr : LV) (pa : LV) (sa : LV) (iS : IV) (bu : IV) (tq : IV) (rT : IV) (wT : IV) (wo : Nat → Option Nat) (sK : IV) (sA : IV) (sB : IV) (sE : IV) (oq : IV) (bS : IV) (bE : IV) (bL : IV) (rp : IV) (p2 : Int32) (p4 : Int32) (hok : ok_Mo_copy_pp p2 p4 pa) : Met l y_Mo_copy (wsY y_Mo_copy b_Mo_copy 5 none) rm_Mo_copy_pp (CP g [.ref (a 2), .int p2, .ref (a 2), .int p4] (wMo g mo a o now dr pa sa iS bu tq rT wT wo sK sA sB sE oq bS bE bL rp)) (CV g (wMo g mo a o now dr pa sa iS bu tq rT wT wo sK sA sB sE oq bS bE bL rp) (fun u : LV => wMo g mo a o now dr u sa iS bu tq rT wT wo sK sA sB sE oq bS bE bL rp) (sp_Mo_copy_pp p2 p4 pa)) 0 0 (inW (wMo g mo a o now dr pa sa iS bu tq rT wT wo sK sA sB sE oq bS bE bL rp)) := by
  refine Met.ofW (cc := b_Mo_copy) (maxL := 5) (ret := none) pn_Mo rfl ?_
  intro p e s m args below meth c s₁ B hml hv
  obtain ⟨rfl, C, hP, hD, hS⟩ := enter "DecadeBridgeModel" rfl B hml hv
  obtain ⟨hx, hb, hr, hml, hown, hlk, hts, hK, hZo, hZ⟩ := id C
  refine entryW (lv := [(0, .ref (a 2)), (1, .int p2), (2, .ref (a 2)), (3, .int p4)]) rfl (Nat.le_of_ble_eq_true rfl) (fun ls hl => ?_)
  obtain ⟨z, hz⟩ : ∃ z, z = sp_Mo_copy_pp p2 p4 pa := ⟨_, rfl⟩
  rw [← hz]
  unfold sp_Mo_copy_pp at hz
  unfold ok_Mo_copy_pp at hok
  refine lv_iconst (v := 0) hx hb d_Mo_copy_0 (by decide) ?_
  refine lv_istore (lv' := [(4, .int (0 : Int32)), (0, .ref (a 2)), (1, .int p2), (2, .ref (a 2)), (3, .int p4)]) hx hb d_Mo_copy_1 hl (by decide) rfl (fun ls hl => ?_)
  exact k_Mo_copy_pp_3 C big (0 : Int32) pa hok _ hz _ _ ls hP hD hS (lv_sub hl [1, 2, 3, 4, 0] rfl)
abbrev rm_Mo_copy_np : Room := { frames := 0, cells := 0, slots := 0, locals := 0 }
def HL_Mo_copy_np_3 (p : Program) (l : Launch) (e : Env) (s : State) (m : MethodId) (args : Array Value) (below : List Frame) (meth : Method) (c : Code) (g : GX) (mo : Nat) (a : Nat → Nat) (ws0 : va_W) (o : IV) (now : LV) (dr : LV) (sa : LV) (iS : IV) (bu : IV) (tq : IV) (rT : IV) (wT : IV) (wo : Nat → Option Nat) (sK : IV) (sA : IV) (sB : IV) (sE : IV) (oq : IV) (bS : IV) (bE : IV) (bL : IV) (rp : IV) (p2 : Int32) (p4 : Int32) (sp : Int32 → LV → LV) (ok : Int32 → LV → Prop) : Prop := ∀ (x4p3 : Int32) (pap3 : LV), ok x4p3 pap3 → ∀ z : LV, z = sp x4p3 pap3 → ∀ (H : Heap) (locs : List Loc) (ls : Array Slot), va_P g.1 vwCl (wMo g mo a o now dr pap3 sa iS bu tq rT wT wo sK sA sB sE oq bS bE bL rp) H → va_D (inW ws0) (wMo g mo a o now dr pap3 sa iS bu tq rT wT wo sK sA sB sE oq bS bE bL rp) → va_S (inW ws0) s.heap H locs → lv_has ls 5 [(0, .ref (a 0)), (1, .int p2), (2, .ref (a 2)), (3, .int p4), (4, .int x4p3)] → W p l e rm_Mo_copy_np s m args below meth c H locs 0 0 (MQ below (CV g ws0 (fun u : LV => wMo g mo a o now dr u sa iS bu tq rT wT wo sK sA sB sE oq bS bE bL rp) z) args s 0 0 (inW ws0)) (F0 m 3 ls [])
noncomputable def bd_Mo_copy_np_3 (p4 : Int32) (now : LV) (p2 : Int32) (r3 : Int32 → LV → LV) (x4p3 : Int32) (pap3 : LV) : LV := if (215 : Int32) ≤ x4p3 then (pap3) else (lett (vp_updL pap3 (((215 : Int32) * p4) + x4p3).toNatClampNeg (now (((215 : Int32) * p2) + x4p3).toNatClampNeg)) fun (pa_4 : LV) => lett (x4p3 + (1 : Int32)) fun (v5 : Int32) => r3 v5 pa_4)
def okb_Mo_copy_np_3 (p4 : Int32) (now : LV) (p2 : Int32) (r3 : Int32 → LV → LV) (q3 : Int32 → LV → Prop) (x4p3 : Int32) (pap3 : LV) : Prop := (((215 : Int32) ≤ x4p3 → True) ∧ (¬ ((215 : Int32) ≤ x4p3) → (vp_in (((215 : Int32) * p2) + x4p3) 215) ∧ (vp_in (((215 : Int32) * p4) + x4p3) 1720) ∧ lett (vp_updL pap3 (((215 : Int32) * p4) + x4p3).toNatClampNeg (now (((215 : Int32) * p2) + x4p3).toNatClampNeg)) fun (pa_4 : LV) => lett (x4p3 + (1 : Int32)) fun (v5 : Int32) => q3 v5 pa_4))
noncomputable def sp_Mo_copy_np_3 (p4 : Int32) (now : LV) (p2 : Int32)  : Nat → Int32 → LV → LV
  | 0 => fun _ _ => default
  | f + 1 => bd_Mo_copy_np_3 p4 now p2  (sp_Mo_copy_np_3 p4 now p2  f)
def ok_Mo_copy_np_3 (p4 : Int32) (now : LV) (p2 : Int32)   : Nat → Int32 → LV → Prop
  | 0 => fun _ _ => False
  | f + 1 => okb_Mo_copy_np_3 p4 now p2  (sp_Mo_copy_np_3 p4 now p2  f)  (ok_Mo_copy_np_3 p4 now p2   f)
set_option maxRecDepth 100000 in
set_option maxHeartbeats 4000000 in
theorem kb_Mo_copy_np_3 {p : Program} {l : Launch} {e : Env} {s : State} {m : MethodId} {args : Array Value} {below : List Frame} {meth : Method} {c : Code} {g : GX} {mo : Nat} {a : Nat → Nat} {ws0 : va_W} {o : IV} {now : LV} {dr : LV} {sa : LV} {iS : IV} {bu : IV} {tq : IV} {rT : IV} {wT : IV} {wo : Nat → Option Nat} {sK : IV} {sA : IV} {sB : IV} {sE : IV} {oq : IV} {bS : IV} {bE : IV} {bL : IV} {rp : IV} {p2 : Int32} {p4 : Int32}  (C : Cx p s m args meth c (inW ws0) g "DecadeBridgeModel" b_Mo_copy none 5) {r3 : Int32 → LV → LV} {q3 : Int32 → LV → Prop}  (ih3 : HL_Mo_copy_np_3 p l e s m args below meth c g mo a ws0 o now dr sa iS bu tq rT wT wo sK sA sB sE oq bS bE bL rp p2 p4 r3 q3) : HL_Mo_copy_np_3 p l e s m args below meth c g mo a ws0 o now dr sa iS bu tq rT wT wo sK sA sB sE oq bS bE bL rp p2 p4 (bd_Mo_copy_np_3 p4 now p2  r3) (okb_Mo_copy_np_3 p4 now p2  r3  q3) := by
  intro x4p3 pap3 hok z hz H locs ls hP hD hS hl
  obtain ⟨hx, hb, hr, hml, hown, hlk, hts, hK, hZo, hZ⟩ := id C
  unfold bd_Mo_copy_np_3 at hz
  unfold okb_Mo_copy_np_3 at hok
  refine lv_iload hx hb d_Mo_copy_3 (lv_at hl 4 rfl) ?_
  refine lv_sipush (v := 215) hx hb d_Mo_copy_5 (by decide) ?_
  refine lv_icmp_ge (tgt := 37) hx hb d_Mo_copy_8 (by decide) (fun c1 => ?_) (fun c1 => ?_)
  · have hz := hz.trans (if_pos c1)
    exact endV C hz hP hS d_Mo_copy_37
  · have hz := hz.trans (if_neg c1)
    have hok := hok.2 c1
    refine lv_aload_n hx hb d_Mo_copy_11 rfl (lv_at hl 2 rfl) ?_
    refine lv_sipush (v := 215) hx hb d_Mo_copy_12 (by decide) ?_
    refine lv_iload_n hx hb d_Mo_copy_15 rfl (lv_at hl 3 rfl) ?_
    refine lv_imul hx hb d_Mo_copy_16 ?_
    refine lv_iload hx hb d_Mo_copy_17 (lv_at hl 4 rfl) ?_
    refine lv_iadd hx hb d_Mo_copy_19 ?_
    refine lv_aload_n hx hb d_Mo_copy_20 rfl (lv_at hl 0 rfl) ?_
    refine lv_sipush (v := 215) hx hb d_Mo_copy_21 (by decide) ?_
    refine lv_iload_n hx hb d_Mo_copy_24 rfl (lv_at hl 1 rfl) ?_
    refine lv_imul hx hb d_Mo_copy_25 ?_
    refine lv_iload hx hb d_Mo_copy_26 (lv_at hl 4 rfl) ?_
    refine lv_iadd hx hb d_Mo_copy_28 ?_
    have hs2 := hok.1
    have hok := hok.2
    refine ldL C hP 1 rfl hs2 rfl d_Mo_copy_29 ?_
    have hs3 := hok.1
    have hok := hok.2
    refine stL C hP hD hS 3 rfl hs3 rfl d_Mo_copy_30 (fun pa_4 epa_4 H locs hP hD hS => ?_)
    have hP : va_P g.1 vwCl (wMo g mo a o now dr pa_4 sa iS bu tq rT wT wo sK sA sB sE oq bS bE bL rp) H := hP
    have hD : va_D (inW ws0) (wMo g mo a o now dr pa_4 sa iS bu tq rT wT wo sK sA sB sE oq bS bE bL rp) := hD
    have hz := lett_z hz epa_4
    have hok := lett_o hok epa_4
    obtain ⟨v5, ev5⟩ : ∃ y : Int32, y = x4p3 + (1 : Int32) := ⟨_, rfl⟩
    have hz := lett_z hz ev5
    have hok := lett_o hok ev5
    refine lv_iinc (v := v5) (lv' := [(4, .int v5), (0, .ref (a 0)), (1, .int p2), (2, .ref (a 2)), (3, .int p4)]) hx hb d_Mo_copy_31 hl (k := 4) rfl (by rw [ev5]; rfl) (by decide) rfl (fun ls hl => ?_)
    refine lv_goto (tgt := 3) hx hb d_Mo_copy_34 (by decide) ?_
    exact ih3 v5 pa_4 hok _ hz _ _ ls hP hD hS (lv_sub hl [1, 2, 3, 4, 0] rfl)
theorem k_Mo_copy_np_3 {p : Program} {l : Launch} {e : Env} {s : State} {m : MethodId} {args : Array Value} {below : List Frame} {meth : Method} {c : Code} {g : GX} {mo : Nat} {a : Nat → Nat} {ws0 : va_W} {o : IV} {now : LV} {dr : LV} {sa : LV} {iS : IV} {bu : IV} {tq : IV} {rT : IV} {wT : IV} {wo : Nat → Option Nat} {sK : IV} {sA : IV} {sB : IV} {sE : IV} {oq : IV} {bS : IV} {bE : IV} {bL : IV} {rp : IV} {p2 : Int32} {p4 : Int32}  (C : Cx p s m args meth c (inW ws0) g "DecadeBridgeModel" b_Mo_copy none 5) (f : Nat)  : HL_Mo_copy_np_3 p l e s m args below meth c g mo a ws0 o now dr sa iS bu tq rT wT wo sK sA sB sE oq bS bE bL rp p2 p4 (sp_Mo_copy_np_3 p4 now p2  f) (ok_Mo_copy_np_3 p4 now p2   f) := by
  induction f with
  | zero => intro x4p3 pap3 hok; exact False.elim hok
  | succ f ih => exact kb_Mo_copy_np_3 C  ih
noncomputable def sp_Mo_copy_np (p2 : Int32) (p4 : Int32) (now : LV) (pa : LV) : LV := sp_Mo_copy_np_3 p4 now p2 big (0 : Int32) pa
def ok_Mo_copy_np (p2 : Int32) (p4 : Int32) (now : LV) (pa : LV) : Prop := ok_Mo_copy_np_3 p4 now p2 big (0 : Int32) pa
set_option maxRecDepth 100000 in
set_option maxHeartbeats 4000000 in
theorem c_Mo_copy_np (l : Launch) (g : GX) (mo : Nat) (a : Nat → Nat) (o : IV) (now : LV) (dr : LV) (pa : LV) (sa : LV) (iS : IV) (bu : IV) (tq : IV) (rT : IV) (wT : IV) (wo : Nat → Option Nat) (sK : IV) (sA : IV) (sB : IV) (sE : IV) (oq : IV) (bS : IV) (bE : IV) (bL : IV) (rp : IV) (p2 : Int32) (p4 : Int32) (hok : ok_Mo_copy_np p2 p4 now pa) : Met l y_Mo_copy (wsY y_Mo_copy b_Mo_copy 5 none) rm_Mo_copy_np (CP g [.ref (a 0), .int p2, .ref (a 2), .int p4] (wMo g mo a o now dr pa sa iS bu tq rT wT wo sK sA sB sE oq bS bE bL rp)) (CV g (wMo g mo a o now dr pa sa iS bu tq rT wT wo sK sA sB sE oq bS bE bL rp) (fun u : LV => wMo g mo a o now dr u sa iS bu tq rT wT wo sK sA sB sE oq bS bE bL rp) (sp_Mo_copy_np p2 p4 now pa)) 0 0 (inW (wMo g mo a o now dr pa sa iS bu tq rT wT wo sK sA sB sE oq bS bE bL rp)) := by
  refine Met.ofW (cc := b_Mo_copy) (maxL := 5) (ret := none) pn_Mo rfl ?_
  intro p e s m args below meth c s₁ B hml hv
  obtain ⟨rfl, C, hP, hD, hS⟩ := enter "DecadeBridgeModel" rfl B hml hv
  obtain ⟨hx, hb, hr, hml, hown, hlk, hts, hK, hZo, hZ⟩ := id C
  refine entryW (lv := [(0, .ref (a 0)), (1, .int p2), (2, .ref (a 2)), (3, .int p4)]) rfl (Nat.le_of_ble_eq_true rfl) (fun ls hl => ?_)
  obtain ⟨z, hz⟩ : ∃ z, z = sp_Mo_copy_np p2 p4 now pa := ⟨_, rfl⟩
  rw [← hz]
  unfold sp_Mo_copy_np at hz
  unfold ok_Mo_copy_np at hok
  refine lv_iconst (v := 0) hx hb d_Mo_copy_0 (by decide) ?_
  refine lv_istore (lv' := [(4, .int (0 : Int32)), (0, .ref (a 0)), (1, .int p2), (2, .ref (a 2)), (3, .int p4)]) hx hb d_Mo_copy_1 hl (by decide) rfl (fun ls hl => ?_)
  exact k_Mo_copy_np_3 C big (0 : Int32) pa hok _ hz _ _ ls hP hD hS (lv_sub hl [1, 2, 3, 4, 0] rfl)
abbrev rm_Mo_copy_pn : Room := { frames := 0, cells := 0, slots := 0, locals := 0 }
def HL_Mo_copy_pn_3 (p : Program) (l : Launch) (e : Env) (s : State) (m : MethodId) (args : Array Value) (below : List Frame) (meth : Method) (c : Code) (g : GX) (mo : Nat) (a : Nat → Nat) (ws0 : va_W) (o : IV) (dr : LV) (pa : LV) (sa : LV) (iS : IV) (bu : IV) (tq : IV) (rT : IV) (wT : IV) (wo : Nat → Option Nat) (sK : IV) (sA : IV) (sB : IV) (sE : IV) (oq : IV) (bS : IV) (bE : IV) (bL : IV) (rp : IV) (p2 : Int32) (p4 : Int32) (sp : Int32 → LV → LV) (ok : Int32 → LV → Prop) : Prop := ∀ (x4p3 : Int32) (nowp3 : LV), ok x4p3 nowp3 → ∀ z : LV, z = sp x4p3 nowp3 → ∀ (H : Heap) (locs : List Loc) (ls : Array Slot), va_P g.1 vwCl (wMo g mo a o nowp3 dr pa sa iS bu tq rT wT wo sK sA sB sE oq bS bE bL rp) H → va_D (inW ws0) (wMo g mo a o nowp3 dr pa sa iS bu tq rT wT wo sK sA sB sE oq bS bE bL rp) → va_S (inW ws0) s.heap H locs → lv_has ls 5 [(0, .ref (a 2)), (1, .int p2), (2, .ref (a 0)), (3, .int p4), (4, .int x4p3)] → W p l e rm_Mo_copy_pn s m args below meth c H locs 0 0 (MQ below (CV g ws0 (fun u : LV => wMo g mo a o u dr pa sa iS bu tq rT wT wo sK sA sB sE oq bS bE bL rp) z) args s 0 0 (inW ws0)) (F0 m 3 ls [])
noncomputable def bd_Mo_copy_pn_3 (p4 : Int32) (pa : LV) (p2 : Int32) (r3 : Int32 → LV → LV) (x4p3 : Int32) (nowp3 : LV) : LV := if (215 : Int32) ≤ x4p3 then (nowp3) else (lett (vp_updL nowp3 (((215 : Int32) * p4) + x4p3).toNatClampNeg (pa (((215 : Int32) * p2) + x4p3).toNatClampNeg)) fun (now_4 : LV) => lett (x4p3 + (1 : Int32)) fun (v5 : Int32) => r3 v5 now_4)
def okb_Mo_copy_pn_3 (p4 : Int32) (pa : LV) (p2 : Int32) (r3 : Int32 → LV → LV) (q3 : Int32 → LV → Prop) (x4p3 : Int32) (nowp3 : LV) : Prop := (((215 : Int32) ≤ x4p3 → True) ∧ (¬ ((215 : Int32) ≤ x4p3) → (vp_in (((215 : Int32) * p2) + x4p3) 1720) ∧ (vp_in (((215 : Int32) * p4) + x4p3) 215) ∧ lett (vp_updL nowp3 (((215 : Int32) * p4) + x4p3).toNatClampNeg (pa (((215 : Int32) * p2) + x4p3).toNatClampNeg)) fun (now_4 : LV) => lett (x4p3 + (1 : Int32)) fun (v5 : Int32) => q3 v5 now_4))
noncomputable def sp_Mo_copy_pn_3 (p4 : Int32) (pa : LV) (p2 : Int32)  : Nat → Int32 → LV → LV
  | 0 => fun _ _ => default
  | f + 1 => bd_Mo_copy_pn_3 p4 pa p2  (sp_Mo_copy_pn_3 p4 pa p2  f)
def ok_Mo_copy_pn_3 (p4 : Int32) (pa : LV) (p2 : Int32)   : Nat → Int32 → LV → Prop
  | 0 => fun _ _ => False
  | f + 1 => okb_Mo_copy_pn_3 p4 pa p2  (sp_Mo_copy_pn_3 p4 pa p2  f)  (ok_Mo_copy_pn_3 p4 pa p2   f)
set_option maxRecDepth 100000 in
set_option maxHeartbeats 4000000 in
theorem kb_Mo_copy_pn_3 {p : Program} {l : Launch} {e : Env} {s : State} {m : MethodId} {args : Array Value} {below : List Frame} {meth : Method} {c : Code} {g : GX} {mo : Nat} {a : Nat → Nat} {ws0 : va_W} {o : IV} {dr : LV} {pa : LV} {sa : LV} {iS : IV} {bu : IV} {tq : IV} {rT : IV} {wT : IV} {wo : Nat → Option Nat} {sK : IV} {sA : IV} {sB : IV} {sE : IV} {oq : IV} {bS : IV} {bE : IV} {bL : IV} {rp : IV} {p2 : Int32} {p4 : Int32}  (C : Cx p s m args meth c (inW ws0) g "DecadeBridgeModel" b_Mo_copy none 5) {r3 : Int32 → LV → LV} {q3 : Int32 → LV → Prop}  (ih3 : HL_Mo_copy_pn_3 p l e s m args below meth c g mo a ws0 o dr pa sa iS bu tq rT wT wo sK sA sB sE oq bS bE bL rp p2 p4 r3 q3) : HL_Mo_copy_pn_3 p l e s m args below meth c g mo a ws0 o dr pa sa iS bu tq rT wT wo sK sA sB sE oq bS bE bL rp p2 p4 (bd_Mo_copy_pn_3 p4 pa p2  r3) (okb_Mo_copy_pn_3 p4 pa p2  r3  q3) := by
  intro x4p3 nowp3 hok z hz H locs ls hP hD hS hl
  obtain ⟨hx, hb, hr, hml, hown, hlk, hts, hK, hZo, hZ⟩ := id C
  unfold bd_Mo_copy_pn_3 at hz
  unfold okb_Mo_copy_pn_3 at hok
  refine lv_iload hx hb d_Mo_copy_3 (lv_at hl 4 rfl) ?_
  refine lv_sipush (v := 215) hx hb d_Mo_copy_5 (by decide) ?_
  refine lv_icmp_ge (tgt := 37) hx hb d_Mo_copy_8 (by decide) (fun c1 => ?_) (fun c1 => ?_)
  · have hz := hz.trans (if_pos c1)
    exact endV C hz hP hS d_Mo_copy_37
  · have hz := hz.trans (if_neg c1)
    have hok := hok.2 c1
    refine lv_aload_n hx hb d_Mo_copy_11 rfl (lv_at hl 2 rfl) ?_
    refine lv_sipush (v := 215) hx hb d_Mo_copy_12 (by decide) ?_
    refine lv_iload_n hx hb d_Mo_copy_15 rfl (lv_at hl 3 rfl) ?_
    refine lv_imul hx hb d_Mo_copy_16 ?_
    refine lv_iload hx hb d_Mo_copy_17 (lv_at hl 4 rfl) ?_
    refine lv_iadd hx hb d_Mo_copy_19 ?_
    refine lv_aload_n hx hb d_Mo_copy_20 rfl (lv_at hl 0 rfl) ?_
    refine lv_sipush (v := 215) hx hb d_Mo_copy_21 (by decide) ?_
    refine lv_iload_n hx hb d_Mo_copy_24 rfl (lv_at hl 1 rfl) ?_
    refine lv_imul hx hb d_Mo_copy_25 ?_
    refine lv_iload hx hb d_Mo_copy_26 (lv_at hl 4 rfl) ?_
    refine lv_iadd hx hb d_Mo_copy_28 ?_
    have hs2 := hok.1
    have hok := hok.2
    refine ldL C hP 3 rfl hs2 rfl d_Mo_copy_29 ?_
    have hs3 := hok.1
    have hok := hok.2
    refine stL C hP hD hS 1 rfl hs3 rfl d_Mo_copy_30 (fun now_4 enow_4 H locs hP hD hS => ?_)
    have hP : va_P g.1 vwCl (wMo g mo a o now_4 dr pa sa iS bu tq rT wT wo sK sA sB sE oq bS bE bL rp) H := hP
    have hD : va_D (inW ws0) (wMo g mo a o now_4 dr pa sa iS bu tq rT wT wo sK sA sB sE oq bS bE bL rp) := hD
    have hz := lett_z hz enow_4
    have hok := lett_o hok enow_4
    obtain ⟨v5, ev5⟩ : ∃ y : Int32, y = x4p3 + (1 : Int32) := ⟨_, rfl⟩
    have hz := lett_z hz ev5
    have hok := lett_o hok ev5
    refine lv_iinc (v := v5) (lv' := [(4, .int v5), (0, .ref (a 2)), (1, .int p2), (2, .ref (a 0)), (3, .int p4)]) hx hb d_Mo_copy_31 hl (k := 4) rfl (by rw [ev5]; rfl) (by decide) rfl (fun ls hl => ?_)
    refine lv_goto (tgt := 3) hx hb d_Mo_copy_34 (by decide) ?_
    exact ih3 v5 now_4 hok _ hz _ _ ls hP hD hS (lv_sub hl [1, 2, 3, 4, 0] rfl)
theorem k_Mo_copy_pn_3 {p : Program} {l : Launch} {e : Env} {s : State} {m : MethodId} {args : Array Value} {below : List Frame} {meth : Method} {c : Code} {g : GX} {mo : Nat} {a : Nat → Nat} {ws0 : va_W} {o : IV} {dr : LV} {pa : LV} {sa : LV} {iS : IV} {bu : IV} {tq : IV} {rT : IV} {wT : IV} {wo : Nat → Option Nat} {sK : IV} {sA : IV} {sB : IV} {sE : IV} {oq : IV} {bS : IV} {bE : IV} {bL : IV} {rp : IV} {p2 : Int32} {p4 : Int32}  (C : Cx p s m args meth c (inW ws0) g "DecadeBridgeModel" b_Mo_copy none 5) (f : Nat)  : HL_Mo_copy_pn_3 p l e s m args below meth c g mo a ws0 o dr pa sa iS bu tq rT wT wo sK sA sB sE oq bS bE bL rp p2 p4 (sp_Mo_copy_pn_3 p4 pa p2  f) (ok_Mo_copy_pn_3 p4 pa p2   f) := by
  induction f with
  | zero => intro x4p3 nowp3 hok; exact False.elim hok
  | succ f ih => exact kb_Mo_copy_pn_3 C  ih
noncomputable def sp_Mo_copy_pn (p2 : Int32) (p4 : Int32) (now : LV) (pa : LV) : LV := sp_Mo_copy_pn_3 p4 pa p2 big (0 : Int32) now
def ok_Mo_copy_pn (p2 : Int32) (p4 : Int32) (now : LV) (pa : LV) : Prop := ok_Mo_copy_pn_3 p4 pa p2 big (0 : Int32) now
set_option maxRecDepth 100000 in
set_option maxHeartbeats 4000000 in
theorem c_Mo_copy_pn (l : Launch) (g : GX) (mo : Nat) (a : Nat → Nat) (o : IV) (now : LV) (dr : LV) (pa : LV) (sa : LV) (iS : IV) (bu : IV) (tq : IV) (rT : IV) (wT : IV) (wo : Nat → Option Nat) (sK : IV) (sA : IV) (sB : IV) (sE : IV) (oq : IV) (bS : IV) (bE : IV) (bL : IV) (rp : IV) (p2 : Int32) (p4 : Int32) (hok : ok_Mo_copy_pn p2 p4 now pa) : Met l y_Mo_copy (wsY y_Mo_copy b_Mo_copy 5 none) rm_Mo_copy_pn (CP g [.ref (a 2), .int p2, .ref (a 0), .int p4] (wMo g mo a o now dr pa sa iS bu tq rT wT wo sK sA sB sE oq bS bE bL rp)) (CV g (wMo g mo a o now dr pa sa iS bu tq rT wT wo sK sA sB sE oq bS bE bL rp) (fun u : LV => wMo g mo a o u dr pa sa iS bu tq rT wT wo sK sA sB sE oq bS bE bL rp) (sp_Mo_copy_pn p2 p4 now pa)) 0 0 (inW (wMo g mo a o now dr pa sa iS bu tq rT wT wo sK sA sB sE oq bS bE bL rp)) := by
  refine Met.ofW (cc := b_Mo_copy) (maxL := 5) (ret := none) pn_Mo rfl ?_
  intro p e s m args below meth c s₁ B hml hv
  obtain ⟨rfl, C, hP, hD, hS⟩ := enter "DecadeBridgeModel" rfl B hml hv
  obtain ⟨hx, hb, hr, hml, hown, hlk, hts, hK, hZo, hZ⟩ := id C
  refine entryW (lv := [(0, .ref (a 2)), (1, .int p2), (2, .ref (a 0)), (3, .int p4)]) rfl (Nat.le_of_ble_eq_true rfl) (fun ls hl => ?_)
  obtain ⟨z, hz⟩ : ∃ z, z = sp_Mo_copy_pn p2 p4 now pa := ⟨_, rfl⟩
  rw [← hz]
  unfold sp_Mo_copy_pn at hz
  unfold ok_Mo_copy_pn at hok
  refine lv_iconst (v := 0) hx hb d_Mo_copy_0 (by decide) ?_
  refine lv_istore (lv' := [(4, .int (0 : Int32)), (0, .ref (a 2)), (1, .int p2), (2, .ref (a 0)), (3, .int p4)]) hx hb d_Mo_copy_1 hl (by decide) rfl (fun ls hl => ?_)
  exact k_Mo_copy_pn_3 C big (0 : Int32) now hok _ hz _ _ ls hP hD hS (lv_sub hl [1, 2, 3, 4, 0] rfl)
abbrev rm_Mo_copy_ns : Room := { frames := 0, cells := 0, slots := 0, locals := 0 }
def HL_Mo_copy_ns_3 (p : Program) (l : Launch) (e : Env) (s : State) (m : MethodId) (args : Array Value) (below : List Frame) (meth : Method) (c : Code) (g : GX) (mo : Nat) (a : Nat → Nat) (ws0 : va_W) (o : IV) (now : LV) (dr : LV) (pa : LV) (iS : IV) (bu : IV) (tq : IV) (rT : IV) (wT : IV) (wo : Nat → Option Nat) (sK : IV) (sA : IV) (sB : IV) (sE : IV) (oq : IV) (bS : IV) (bE : IV) (bL : IV) (rp : IV) (p2 : Int32) (p4 : Int32) (sp : Int32 → LV → LV) (ok : Int32 → LV → Prop) : Prop := ∀ (x4p3 : Int32) (sap3 : LV), ok x4p3 sap3 → ∀ z : LV, z = sp x4p3 sap3 → ∀ (H : Heap) (locs : List Loc) (ls : Array Slot), va_P g.1 vwCl (wMo g mo a o now dr pa sap3 iS bu tq rT wT wo sK sA sB sE oq bS bE bL rp) H → va_D (inW ws0) (wMo g mo a o now dr pa sap3 iS bu tq rT wT wo sK sA sB sE oq bS bE bL rp) → va_S (inW ws0) s.heap H locs → lv_has ls 5 [(0, .ref (a 0)), (1, .int p2), (2, .ref (a 3)), (3, .int p4), (4, .int x4p3)] → W p l e rm_Mo_copy_ns s m args below meth c H locs 0 0 (MQ below (CV g ws0 (fun u : LV => wMo g mo a o now dr pa u iS bu tq rT wT wo sK sA sB sE oq bS bE bL rp) z) args s 0 0 (inW ws0)) (F0 m 3 ls [])
noncomputable def bd_Mo_copy_ns_3 (p4 : Int32) (now : LV) (p2 : Int32) (r3 : Int32 → LV → LV) (x4p3 : Int32) (sap3 : LV) : LV := if (215 : Int32) ≤ x4p3 then (sap3) else (lett (vp_updL sap3 (((215 : Int32) * p4) + x4p3).toNatClampNeg (now (((215 : Int32) * p2) + x4p3).toNatClampNeg)) fun (sa_4 : LV) => lett (x4p3 + (1 : Int32)) fun (v5 : Int32) => r3 v5 sa_4)
def okb_Mo_copy_ns_3 (p4 : Int32) (now : LV) (p2 : Int32) (r3 : Int32 → LV → LV) (q3 : Int32 → LV → Prop) (x4p3 : Int32) (sap3 : LV) : Prop := (((215 : Int32) ≤ x4p3 → True) ∧ (¬ ((215 : Int32) ≤ x4p3) → (vp_in (((215 : Int32) * p2) + x4p3) 215) ∧ (vp_in (((215 : Int32) * p4) + x4p3) 430) ∧ lett (vp_updL sap3 (((215 : Int32) * p4) + x4p3).toNatClampNeg (now (((215 : Int32) * p2) + x4p3).toNatClampNeg)) fun (sa_4 : LV) => lett (x4p3 + (1 : Int32)) fun (v5 : Int32) => q3 v5 sa_4))
noncomputable def sp_Mo_copy_ns_3 (p4 : Int32) (now : LV) (p2 : Int32)  : Nat → Int32 → LV → LV
  | 0 => fun _ _ => default
  | f + 1 => bd_Mo_copy_ns_3 p4 now p2  (sp_Mo_copy_ns_3 p4 now p2  f)
def ok_Mo_copy_ns_3 (p4 : Int32) (now : LV) (p2 : Int32)   : Nat → Int32 → LV → Prop
  | 0 => fun _ _ => False
  | f + 1 => okb_Mo_copy_ns_3 p4 now p2  (sp_Mo_copy_ns_3 p4 now p2  f)  (ok_Mo_copy_ns_3 p4 now p2   f)
set_option maxRecDepth 100000 in
set_option maxHeartbeats 4000000 in
theorem kb_Mo_copy_ns_3 {p : Program} {l : Launch} {e : Env} {s : State} {m : MethodId} {args : Array Value} {below : List Frame} {meth : Method} {c : Code} {g : GX} {mo : Nat} {a : Nat → Nat} {ws0 : va_W} {o : IV} {now : LV} {dr : LV} {pa : LV} {iS : IV} {bu : IV} {tq : IV} {rT : IV} {wT : IV} {wo : Nat → Option Nat} {sK : IV} {sA : IV} {sB : IV} {sE : IV} {oq : IV} {bS : IV} {bE : IV} {bL : IV} {rp : IV} {p2 : Int32} {p4 : Int32}  (C : Cx p s m args meth c (inW ws0) g "DecadeBridgeModel" b_Mo_copy none 5) {r3 : Int32 → LV → LV} {q3 : Int32 → LV → Prop}  (ih3 : HL_Mo_copy_ns_3 p l e s m args below meth c g mo a ws0 o now dr pa iS bu tq rT wT wo sK sA sB sE oq bS bE bL rp p2 p4 r3 q3) : HL_Mo_copy_ns_3 p l e s m args below meth c g mo a ws0 o now dr pa iS bu tq rT wT wo sK sA sB sE oq bS bE bL rp p2 p4 (bd_Mo_copy_ns_3 p4 now p2  r3) (okb_Mo_copy_ns_3 p4 now p2  r3  q3) := by
  intro x4p3 sap3 hok z hz H locs ls hP hD hS hl
  obtain ⟨hx, hb, hr, hml, hown, hlk, hts, hK, hZo, hZ⟩ := id C
  unfold bd_Mo_copy_ns_3 at hz
  unfold okb_Mo_copy_ns_3 at hok
  refine lv_iload hx hb d_Mo_copy_3 (lv_at hl 4 rfl) ?_
  refine lv_sipush (v := 215) hx hb d_Mo_copy_5 (by decide) ?_
  refine lv_icmp_ge (tgt := 37) hx hb d_Mo_copy_8 (by decide) (fun c1 => ?_) (fun c1 => ?_)
  · have hz := hz.trans (if_pos c1)
    exact endV C hz hP hS d_Mo_copy_37
  · have hz := hz.trans (if_neg c1)
    have hok := hok.2 c1
    refine lv_aload_n hx hb d_Mo_copy_11 rfl (lv_at hl 2 rfl) ?_
    refine lv_sipush (v := 215) hx hb d_Mo_copy_12 (by decide) ?_
    refine lv_iload_n hx hb d_Mo_copy_15 rfl (lv_at hl 3 rfl) ?_
    refine lv_imul hx hb d_Mo_copy_16 ?_
    refine lv_iload hx hb d_Mo_copy_17 (lv_at hl 4 rfl) ?_
    refine lv_iadd hx hb d_Mo_copy_19 ?_
    refine lv_aload_n hx hb d_Mo_copy_20 rfl (lv_at hl 0 rfl) ?_
    refine lv_sipush (v := 215) hx hb d_Mo_copy_21 (by decide) ?_
    refine lv_iload_n hx hb d_Mo_copy_24 rfl (lv_at hl 1 rfl) ?_
    refine lv_imul hx hb d_Mo_copy_25 ?_
    refine lv_iload hx hb d_Mo_copy_26 (lv_at hl 4 rfl) ?_
    refine lv_iadd hx hb d_Mo_copy_28 ?_
    have hs2 := hok.1
    have hok := hok.2
    refine ldL C hP 1 rfl hs2 rfl d_Mo_copy_29 ?_
    have hs3 := hok.1
    have hok := hok.2
    refine stL C hP hD hS 4 rfl hs3 rfl d_Mo_copy_30 (fun sa_4 esa_4 H locs hP hD hS => ?_)
    have hP : va_P g.1 vwCl (wMo g mo a o now dr pa sa_4 iS bu tq rT wT wo sK sA sB sE oq bS bE bL rp) H := hP
    have hD : va_D (inW ws0) (wMo g mo a o now dr pa sa_4 iS bu tq rT wT wo sK sA sB sE oq bS bE bL rp) := hD
    have hz := lett_z hz esa_4
    have hok := lett_o hok esa_4
    obtain ⟨v5, ev5⟩ : ∃ y : Int32, y = x4p3 + (1 : Int32) := ⟨_, rfl⟩
    have hz := lett_z hz ev5
    have hok := lett_o hok ev5
    refine lv_iinc (v := v5) (lv' := [(4, .int v5), (0, .ref (a 0)), (1, .int p2), (2, .ref (a 3)), (3, .int p4)]) hx hb d_Mo_copy_31 hl (k := 4) rfl (by rw [ev5]; rfl) (by decide) rfl (fun ls hl => ?_)
    refine lv_goto (tgt := 3) hx hb d_Mo_copy_34 (by decide) ?_
    exact ih3 v5 sa_4 hok _ hz _ _ ls hP hD hS (lv_sub hl [1, 2, 3, 4, 0] rfl)
theorem k_Mo_copy_ns_3 {p : Program} {l : Launch} {e : Env} {s : State} {m : MethodId} {args : Array Value} {below : List Frame} {meth : Method} {c : Code} {g : GX} {mo : Nat} {a : Nat → Nat} {ws0 : va_W} {o : IV} {now : LV} {dr : LV} {pa : LV} {iS : IV} {bu : IV} {tq : IV} {rT : IV} {wT : IV} {wo : Nat → Option Nat} {sK : IV} {sA : IV} {sB : IV} {sE : IV} {oq : IV} {bS : IV} {bE : IV} {bL : IV} {rp : IV} {p2 : Int32} {p4 : Int32}  (C : Cx p s m args meth c (inW ws0) g "DecadeBridgeModel" b_Mo_copy none 5) (f : Nat)  : HL_Mo_copy_ns_3 p l e s m args below meth c g mo a ws0 o now dr pa iS bu tq rT wT wo sK sA sB sE oq bS bE bL rp p2 p4 (sp_Mo_copy_ns_3 p4 now p2  f) (ok_Mo_copy_ns_3 p4 now p2   f) := by
  induction f with
  | zero => intro x4p3 sap3 hok; exact False.elim hok
  | succ f ih => exact kb_Mo_copy_ns_3 C  ih
noncomputable def sp_Mo_copy_ns (p2 : Int32) (p4 : Int32) (now : LV) (sa : LV) : LV := sp_Mo_copy_ns_3 p4 now p2 big (0 : Int32) sa
def ok_Mo_copy_ns (p2 : Int32) (p4 : Int32) (now : LV) (sa : LV) : Prop := ok_Mo_copy_ns_3 p4 now p2 big (0 : Int32) sa
set_option maxRecDepth 100000 in
set_option maxHeartbeats 4000000 in
theorem c_Mo_copy_ns (l : Launch) (g : GX) (mo : Nat) (a : Nat → Nat) (o : IV) (now : LV) (dr : LV) (pa : LV) (sa : LV) (iS : IV) (bu : IV) (tq : IV) (rT : IV) (wT : IV) (wo : Nat → Option Nat) (sK : IV) (sA : IV) (sB : IV) (sE : IV) (oq : IV) (bS : IV) (bE : IV) (bL : IV) (rp : IV) (p2 : Int32) (p4 : Int32) (hok : ok_Mo_copy_ns p2 p4 now sa) : Met l y_Mo_copy (wsY y_Mo_copy b_Mo_copy 5 none) rm_Mo_copy_ns (CP g [.ref (a 0), .int p2, .ref (a 3), .int p4] (wMo g mo a o now dr pa sa iS bu tq rT wT wo sK sA sB sE oq bS bE bL rp)) (CV g (wMo g mo a o now dr pa sa iS bu tq rT wT wo sK sA sB sE oq bS bE bL rp) (fun u : LV => wMo g mo a o now dr pa u iS bu tq rT wT wo sK sA sB sE oq bS bE bL rp) (sp_Mo_copy_ns p2 p4 now sa)) 0 0 (inW (wMo g mo a o now dr pa sa iS bu tq rT wT wo sK sA sB sE oq bS bE bL rp)) := by
  refine Met.ofW (cc := b_Mo_copy) (maxL := 5) (ret := none) pn_Mo rfl ?_
  intro p e s m args below meth c s₁ B hml hv
  obtain ⟨rfl, C, hP, hD, hS⟩ := enter "DecadeBridgeModel" rfl B hml hv
  obtain ⟨hx, hb, hr, hml, hown, hlk, hts, hK, hZo, hZ⟩ := id C
  refine entryW (lv := [(0, .ref (a 0)), (1, .int p2), (2, .ref (a 3)), (3, .int p4)]) rfl (Nat.le_of_ble_eq_true rfl) (fun ls hl => ?_)
  obtain ⟨z, hz⟩ : ∃ z, z = sp_Mo_copy_ns p2 p4 now sa := ⟨_, rfl⟩
  rw [← hz]
  unfold sp_Mo_copy_ns at hz
  unfold ok_Mo_copy_ns at hok
  refine lv_iconst (v := 0) hx hb d_Mo_copy_0 (by decide) ?_
  refine lv_istore (lv' := [(4, .int (0 : Int32)), (0, .ref (a 0)), (1, .int p2), (2, .ref (a 3)), (3, .int p4)]) hx hb d_Mo_copy_1 hl (by decide) rfl (fun ls hl => ?_)
  exact k_Mo_copy_ns_3 C big (0 : Int32) sa hok _ hz _ _ ls hP hD hS (lv_sub hl [1, 2, 3, 4, 0] rfl)
abbrev rm_Mo_copy_sn : Room := { frames := 0, cells := 0, slots := 0, locals := 0 }
def HL_Mo_copy_sn_3 (p : Program) (l : Launch) (e : Env) (s : State) (m : MethodId) (args : Array Value) (below : List Frame) (meth : Method) (c : Code) (g : GX) (mo : Nat) (a : Nat → Nat) (ws0 : va_W) (o : IV) (dr : LV) (pa : LV) (sa : LV) (iS : IV) (bu : IV) (tq : IV) (rT : IV) (wT : IV) (wo : Nat → Option Nat) (sK : IV) (sA : IV) (sB : IV) (sE : IV) (oq : IV) (bS : IV) (bE : IV) (bL : IV) (rp : IV) (p2 : Int32) (p4 : Int32) (sp : Int32 → LV → LV) (ok : Int32 → LV → Prop) : Prop := ∀ (x4p3 : Int32) (nowp3 : LV), ok x4p3 nowp3 → ∀ z : LV, z = sp x4p3 nowp3 → ∀ (H : Heap) (locs : List Loc) (ls : Array Slot), va_P g.1 vwCl (wMo g mo a o nowp3 dr pa sa iS bu tq rT wT wo sK sA sB sE oq bS bE bL rp) H → va_D (inW ws0) (wMo g mo a o nowp3 dr pa sa iS bu tq rT wT wo sK sA sB sE oq bS bE bL rp) → va_S (inW ws0) s.heap H locs → lv_has ls 5 [(0, .ref (a 3)), (1, .int p2), (2, .ref (a 0)), (3, .int p4), (4, .int x4p3)] → W p l e rm_Mo_copy_sn s m args below meth c H locs 0 0 (MQ below (CV g ws0 (fun u : LV => wMo g mo a o u dr pa sa iS bu tq rT wT wo sK sA sB sE oq bS bE bL rp) z) args s 0 0 (inW ws0)) (F0 m 3 ls [])
noncomputable def bd_Mo_copy_sn_3 (p4 : Int32) (sa : LV) (p2 : Int32) (r3 : Int32 → LV → LV) (x4p3 : Int32) (nowp3 : LV) : LV := if (215 : Int32) ≤ x4p3 then (nowp3) else (lett (vp_updL nowp3 (((215 : Int32) * p4) + x4p3).toNatClampNeg (sa (((215 : Int32) * p2) + x4p3).toNatClampNeg)) fun (now_4 : LV) => lett (x4p3 + (1 : Int32)) fun (v5 : Int32) => r3 v5 now_4)
def okb_Mo_copy_sn_3 (p4 : Int32) (sa : LV) (p2 : Int32) (r3 : Int32 → LV → LV) (q3 : Int32 → LV → Prop) (x4p3 : Int32) (nowp3 : LV) : Prop := (((215 : Int32) ≤ x4p3 → True) ∧ (¬ ((215 : Int32) ≤ x4p3) → (vp_in (((215 : Int32) * p2) + x4p3) 430) ∧ (vp_in (((215 : Int32) * p4) + x4p3) 215) ∧ lett (vp_updL nowp3 (((215 : Int32) * p4) + x4p3).toNatClampNeg (sa (((215 : Int32) * p2) + x4p3).toNatClampNeg)) fun (now_4 : LV) => lett (x4p3 + (1 : Int32)) fun (v5 : Int32) => q3 v5 now_4))
noncomputable def sp_Mo_copy_sn_3 (p4 : Int32) (sa : LV) (p2 : Int32)  : Nat → Int32 → LV → LV
  | 0 => fun _ _ => default
  | f + 1 => bd_Mo_copy_sn_3 p4 sa p2  (sp_Mo_copy_sn_3 p4 sa p2  f)
def ok_Mo_copy_sn_3 (p4 : Int32) (sa : LV) (p2 : Int32)   : Nat → Int32 → LV → Prop
  | 0 => fun _ _ => False
  | f + 1 => okb_Mo_copy_sn_3 p4 sa p2  (sp_Mo_copy_sn_3 p4 sa p2  f)  (ok_Mo_copy_sn_3 p4 sa p2   f)
set_option maxRecDepth 100000 in
set_option maxHeartbeats 4000000 in
theorem kb_Mo_copy_sn_3 {p : Program} {l : Launch} {e : Env} {s : State} {m : MethodId} {args : Array Value} {below : List Frame} {meth : Method} {c : Code} {g : GX} {mo : Nat} {a : Nat → Nat} {ws0 : va_W} {o : IV} {dr : LV} {pa : LV} {sa : LV} {iS : IV} {bu : IV} {tq : IV} {rT : IV} {wT : IV} {wo : Nat → Option Nat} {sK : IV} {sA : IV} {sB : IV} {sE : IV} {oq : IV} {bS : IV} {bE : IV} {bL : IV} {rp : IV} {p2 : Int32} {p4 : Int32}  (C : Cx p s m args meth c (inW ws0) g "DecadeBridgeModel" b_Mo_copy none 5) {r3 : Int32 → LV → LV} {q3 : Int32 → LV → Prop}  (ih3 : HL_Mo_copy_sn_3 p l e s m args below meth c g mo a ws0 o dr pa sa iS bu tq rT wT wo sK sA sB sE oq bS bE bL rp p2 p4 r3 q3) : HL_Mo_copy_sn_3 p l e s m args below meth c g mo a ws0 o dr pa sa iS bu tq rT wT wo sK sA sB sE oq bS bE bL rp p2 p4 (bd_Mo_copy_sn_3 p4 sa p2  r3) (okb_Mo_copy_sn_3 p4 sa p2  r3  q3) := by
  intro x4p3 nowp3 hok z hz H locs ls hP hD hS hl
  obtain ⟨hx, hb, hr, hml, hown, hlk, hts, hK, hZo, hZ⟩ := id C
  unfold bd_Mo_copy_sn_3 at hz
  unfold okb_Mo_copy_sn_3 at hok
  refine lv_iload hx hb d_Mo_copy_3 (lv_at hl 4 rfl) ?_
  refine lv_sipush (v := 215) hx hb d_Mo_copy_5 (by decide) ?_
  refine lv_icmp_ge (tgt := 37) hx hb d_Mo_copy_8 (by decide) (fun c1 => ?_) (fun c1 => ?_)
  · have hz := hz.trans (if_pos c1)
    exact endV C hz hP hS d_Mo_copy_37
  · have hz := hz.trans (if_neg c1)
    have hok := hok.2 c1
    refine lv_aload_n hx hb d_Mo_copy_11 rfl (lv_at hl 2 rfl) ?_
    refine lv_sipush (v := 215) hx hb d_Mo_copy_12 (by decide) ?_
    refine lv_iload_n hx hb d_Mo_copy_15 rfl (lv_at hl 3 rfl) ?_
    refine lv_imul hx hb d_Mo_copy_16 ?_
    refine lv_iload hx hb d_Mo_copy_17 (lv_at hl 4 rfl) ?_
    refine lv_iadd hx hb d_Mo_copy_19 ?_
    refine lv_aload_n hx hb d_Mo_copy_20 rfl (lv_at hl 0 rfl) ?_
    refine lv_sipush (v := 215) hx hb d_Mo_copy_21 (by decide) ?_
    refine lv_iload_n hx hb d_Mo_copy_24 rfl (lv_at hl 1 rfl) ?_
    refine lv_imul hx hb d_Mo_copy_25 ?_
    refine lv_iload hx hb d_Mo_copy_26 (lv_at hl 4 rfl) ?_
    refine lv_iadd hx hb d_Mo_copy_28 ?_
    have hs2 := hok.1
    have hok := hok.2
    refine ldL C hP 4 rfl hs2 rfl d_Mo_copy_29 ?_
    have hs3 := hok.1
    have hok := hok.2
    refine stL C hP hD hS 1 rfl hs3 rfl d_Mo_copy_30 (fun now_4 enow_4 H locs hP hD hS => ?_)
    have hP : va_P g.1 vwCl (wMo g mo a o now_4 dr pa sa iS bu tq rT wT wo sK sA sB sE oq bS bE bL rp) H := hP
    have hD : va_D (inW ws0) (wMo g mo a o now_4 dr pa sa iS bu tq rT wT wo sK sA sB sE oq bS bE bL rp) := hD
    have hz := lett_z hz enow_4
    have hok := lett_o hok enow_4
    obtain ⟨v5, ev5⟩ : ∃ y : Int32, y = x4p3 + (1 : Int32) := ⟨_, rfl⟩
    have hz := lett_z hz ev5
    have hok := lett_o hok ev5
    refine lv_iinc (v := v5) (lv' := [(4, .int v5), (0, .ref (a 3)), (1, .int p2), (2, .ref (a 0)), (3, .int p4)]) hx hb d_Mo_copy_31 hl (k := 4) rfl (by rw [ev5]; rfl) (by decide) rfl (fun ls hl => ?_)
    refine lv_goto (tgt := 3) hx hb d_Mo_copy_34 (by decide) ?_
    exact ih3 v5 now_4 hok _ hz _ _ ls hP hD hS (lv_sub hl [1, 2, 3, 4, 0] rfl)
theorem k_Mo_copy_sn_3 {p : Program} {l : Launch} {e : Env} {s : State} {m : MethodId} {args : Array Value} {below : List Frame} {meth : Method} {c : Code} {g : GX} {mo : Nat} {a : Nat → Nat} {ws0 : va_W} {o : IV} {dr : LV} {pa : LV} {sa : LV} {iS : IV} {bu : IV} {tq : IV} {rT : IV} {wT : IV} {wo : Nat → Option Nat} {sK : IV} {sA : IV} {sB : IV} {sE : IV} {oq : IV} {bS : IV} {bE : IV} {bL : IV} {rp : IV} {p2 : Int32} {p4 : Int32}  (C : Cx p s m args meth c (inW ws0) g "DecadeBridgeModel" b_Mo_copy none 5) (f : Nat)  : HL_Mo_copy_sn_3 p l e s m args below meth c g mo a ws0 o dr pa sa iS bu tq rT wT wo sK sA sB sE oq bS bE bL rp p2 p4 (sp_Mo_copy_sn_3 p4 sa p2  f) (ok_Mo_copy_sn_3 p4 sa p2   f) := by
  induction f with
  | zero => intro x4p3 nowp3 hok; exact False.elim hok
  | succ f ih => exact kb_Mo_copy_sn_3 C  ih
noncomputable def sp_Mo_copy_sn (p2 : Int32) (p4 : Int32) (now : LV) (sa : LV) : LV := sp_Mo_copy_sn_3 p4 sa p2 big (0 : Int32) now
def ok_Mo_copy_sn (p2 : Int32) (p4 : Int32) (now : LV) (sa : LV) : Prop := ok_Mo_copy_sn_3 p4 sa p2 big (0 : Int32) now
set_option maxRecDepth 100000 in
set_option maxHeartbeats 4000000 in
theorem c_Mo_copy_sn (l : Launch) (g : GX) (mo : Nat) (a : Nat → Nat) (o : IV) (now : LV) (dr : LV) (pa : LV) (sa : LV) (iS : IV) (bu : IV) (tq : IV) (rT : IV) (wT : IV) (wo : Nat → Option Nat) (sK : IV) (sA : IV) (sB : IV) (sE : IV) (oq : IV) (bS : IV) (bE : IV) (bL : IV) (rp : IV) (p2 : Int32) (p4 : Int32) (hok : ok_Mo_copy_sn p2 p4 now sa) : Met l y_Mo_copy (wsY y_Mo_copy b_Mo_copy 5 none) rm_Mo_copy_sn (CP g [.ref (a 3), .int p2, .ref (a 0), .int p4] (wMo g mo a o now dr pa sa iS bu tq rT wT wo sK sA sB sE oq bS bE bL rp)) (CV g (wMo g mo a o now dr pa sa iS bu tq rT wT wo sK sA sB sE oq bS bE bL rp) (fun u : LV => wMo g mo a o u dr pa sa iS bu tq rT wT wo sK sA sB sE oq bS bE bL rp) (sp_Mo_copy_sn p2 p4 now sa)) 0 0 (inW (wMo g mo a o now dr pa sa iS bu tq rT wT wo sK sA sB sE oq bS bE bL rp)) := by
  refine Met.ofW (cc := b_Mo_copy) (maxL := 5) (ret := none) pn_Mo rfl ?_
  intro p e s m args below meth c s₁ B hml hv
  obtain ⟨rfl, C, hP, hD, hS⟩ := enter "DecadeBridgeModel" rfl B hml hv
  obtain ⟨hx, hb, hr, hml, hown, hlk, hts, hK, hZo, hZ⟩ := id C
  refine entryW (lv := [(0, .ref (a 3)), (1, .int p2), (2, .ref (a 0)), (3, .int p4)]) rfl (Nat.le_of_ble_eq_true rfl) (fun ls hl => ?_)
  obtain ⟨z, hz⟩ : ∃ z, z = sp_Mo_copy_sn p2 p4 now sa := ⟨_, rfl⟩
  rw [← hz]
  unfold sp_Mo_copy_sn at hz
  unfold ok_Mo_copy_sn at hok
  refine lv_iconst (v := 0) hx hb d_Mo_copy_0 (by decide) ?_
  refine lv_istore (lv' := [(4, .int (0 : Int32)), (0, .ref (a 3)), (1, .int p2), (2, .ref (a 0)), (3, .int p4)]) hx hb d_Mo_copy_1 hl (by decide) rfl (fun ls hl => ?_)
  exact k_Mo_copy_sn_3 C big (0 : Int32) now hok _ hz _ _ ls hP hD hS (lv_sub hl [1, 2, 3, 4, 0] rfl)
abbrev rm_Mo_record : Room := { frames := 1, cells := 0, slots := 0, locals := 24 }
def HL_Mo_record_11 (p : Program) (l : Launch) (e : Env) (s : State) (m : MethodId) (args : Array Value) (below : List Frame) (meth : Method) (c : Code) (g : GX) (mo : Nat) (a : Nat → Nat) (ws0 : va_W) (o : IV) (now : LV) (dr : LV) (sa : LV) (iS : IV) (bu : IV) (tq : IV) (rT : IV) (wT : IV) (wo : Nat → Option Nat) (sK : IV) (sA : IV) (sB : IV) (sE : IV) (oq : IV) (bS : IV) (bE : IV) (bL : IV) (rp : IV) (sp : Int32 → LV → (IV × LV)) (ok : Int32 → LV → Prop) : Prop := ∀ (x1p11 : Int32) (pap11 : LV), ok x1p11 pap11 → ∀ z : (IV × LV), z = sp x1p11 pap11 → ∀ (H : Heap) (locs : List Loc) (ls : Array Slot), va_P g.1 vwCl (wMo g mo a o now dr pap11 sa iS bu tq rT wT wo sK sA sB sE oq bS bE bL rp) H → va_D (inW ws0) (wMo g mo a o now dr pap11 sa iS bu tq rT wT wo sK sA sB sE oq bS bE bL rp) → va_S (inW ws0) s.heap H locs → lv_has ls 2 [(0, .ref mo), (1, .int x1p11)] → W p l e rm_Mo_record s m args below meth c H locs 0 0 (MQ below (CV g ws0 (fun u : IV × LV => wMo g mo a u.1 now dr u.2 sa iS bu tq rT wT wo sK sA sB sE oq bS bE bL rp) z) args s 0 0 (inW ws0)) (F0 m 11 ls [])
def HL_Mo_record_38 (p : Program) (l : Launch) (e : Env) (s : State) (m : MethodId) (args : Array Value) (below : List Frame) (meth : Method) (c : Code) (g : GX) (mo : Nat) (a : Nat → Nat) (ws0 : va_W) (o : IV) (now : LV) (dr : LV) (pap11 : LV) (sa : LV) (iS : IV) (bu : IV) (tq : IV) (rT : IV) (wT : IV) (wo : Nat → Option Nat) (sK : IV) (sA : IV) (sB : IV) (sE : IV) (oq : IV) (bS : IV) (bE : IV) (bL : IV) (rp : IV) (sp : (IV × LV)) (ok : Prop) : Prop := ∀ (_ : Unit), ok → ∀ z : (IV × LV), z = sp → ∀ (H : Heap) (locs : List Loc) (ls : Array Slot), va_P g.1 vwCl (wMo g mo a o now dr pap11 sa iS bu tq rT wT wo sK sA sB sE oq bS bE bL rp) H → va_D (inW ws0) (wMo g mo a o now dr pap11 sa iS bu tq rT wT wo sK sA sB sE oq bS bE bL rp) → va_S (inW ws0) s.heap H locs → lv_has ls 2 [(0, .ref mo)] → W p l e rm_Mo_record s m args below meth c H locs 0 0 (MQ below (CV g ws0 (fun u : IV × LV => wMo g mo a u.1 now dr u.2 sa iS bu tq rT wT wo sK sA sB sE oq bS bE bL rp) z) args s 0 0 (inW ws0)) (F0 m 38 ls [])
def HL_Mo_record_48 (p : Program) (l : Launch) (e : Env) (s : State) (m : MethodId) (args : Array Value) (below : List Frame) (meth : Method) (c : Code) (g : GX) (mo : Nat) (a : Nat → Nat) (ws0 : va_W) (now : LV) (dr : LV) (sa : LV) (iS : IV) (bu : IV) (tq : IV) (rT : IV) (wT : IV) (wo : Nat → Option Nat) (sK : IV) (sA : IV) (sB : IV) (sE : IV) (oq : IV) (bS : IV) (bE : IV) (bL : IV) (rp : IV) (sp : IV → LV → (IV × LV)) (ok : IV → LV → Prop) : Prop := ∀ (op48 : IV) (pap48 : LV), ok op48 pap48 → ∀ z : (IV × LV), z = sp op48 pap48 → ∀ (H : Heap) (locs : List Loc) (ls : Array Slot), va_P g.1 vwCl (wMo g mo a op48 now dr pap48 sa iS bu tq rT wT wo sK sA sB sE oq bS bE bL rp) H → va_D (inW ws0) (wMo g mo a op48 now dr pap48 sa iS bu tq rT wT wo sK sA sB sE oq bS bE bL rp) → va_S (inW ws0) s.heap H locs → lv_has ls 2 [(0, .ref mo)] → W p l e rm_Mo_record s m args below meth c H locs 0 0 (MQ below (CV g ws0 (fun u : IV × LV => wMo g mo a u.1 now dr u.2 sa iS bu tq rT wT wo sK sA sB sE oq bS bE bL rp) z) args s 0 0 (inW ws0)) (F0 m 48 ls [])
noncomputable def sp_Mo_record_48 (now : LV)  (op48 : IV) (pap48 : LV) : IV × LV := lett (sp_Mo_copy_np (0 : Int32) (op48 5) now pap48) fun (y8 : LV) => lett (upd op48 5 ((op48 5) + (1 : Int32))) fun (o_9 : IV) => (o_9, y8)
def ok_Mo_record_48 (now : LV)   (op48 : IV) (pap48 : LV) : Prop := (ok_Mo_copy_np (0 : Int32) (op48 5) now pap48) ∧ True
set_option maxRecDepth 100000 in
set_option maxHeartbeats 4000000 in
theorem k_Mo_record_48 {p : Program} {l : Launch} {e : Env} {s : State} {m : MethodId} {args : Array Value} {below : List Frame} {meth : Method} {c : Code} {g : GX} {mo : Nat} {a : Nat → Nat} {ws0 : va_W} {now : LV} {dr : LV} {sa : LV} {iS : IV} {bu : IV} {tq : IV} {rT : IV} {wT : IV} {wo : Nat → Option Nat} {sK : IV} {sA : IV} {sB : IV} {sE : IV} {oq : IV} {bS : IV} {bE : IV} {bL : IV} {rp : IV}  (C : Cx p s m args meth c (inW ws0) g "DecadeBridgeModel" b_Mo_record none 2)  : HL_Mo_record_48 p l e s m args below meth c g mo a ws0 now dr sa iS bu tq rT wT wo sK sA sB sE oq bS bE bL rp (sp_Mo_record_48 now ) (ok_Mo_record_48 now  ) := by
  intro op48 pap48 hok z hz H locs ls hP hD hS hl
  obtain ⟨hx, hb, hr, hml, hown, hlk, hts, hK, hZo, hZ⟩ := id C
  unfold sp_Mo_record_48 at hz
  unfold ok_Mo_record_48 at hok
  refine lv_aload_n hx hb d_Mo_record_48 rfl (lv_at hl 0 rfl) ?_
  refine gf C hP 0 0 fkMo rfl (by decide) rfl qf_Mo_7 (gMo_0 _ _) d_Mo_record_49 ?_
  refine lv_iconst (v := 0) hx hb d_Mo_record_52 (by decide) ?_
  refine lv_aload_n hx hb d_Mo_record_53 rfl (lv_at hl 0 rfl) ?_
  refine gf C hP 0 2 fkMo rfl (by decide) rfl qf_Mo_16 (gMo_2 _ _) d_Mo_record_54 ?_
  refine lv_aload_n hx hb d_Mo_record_57 rfl (lv_at hl 0 rfl) ?_
  refine gf C hP 0 5 fkMo rfl (by decide) rfl qf_Mo_400 (gMo_5 _ _) d_Mo_record_58 ?_
  have hs7 := hok.1
  have hok := hok.2
  have hB : SubW g (inW ws0) s (wMo g mo a op48 now dr pap48 sa iS bu tq rT wT wo sK sA sB sE oq bS bE bL rp) _ (List.range _) _ _ := (subF hP hD hS)
  refine goVF hB (run_s C mf_Mo_copy qm_Mo_476 (c_Mo_copy_np l g mo a op48 now dr pap48 sa iS bu tq rT wT wo sK sA sB sE oq bS bE bL rp (0 : Int32) (op48 5) hs7) rfl rfl ⟨Nat.le_of_ble_eq_true rfl, Nat.le_of_ble_eq_true rfl⟩ ⟨Nat.le_of_ble_eq_true rfl, Nat.le_of_ble_eq_true rfl⟩ hB hl rfl rfl (Nat.le_of_ble_eq_true rfl) d_Mo_record_61) (fun _ => rfl) (fun y8 ey8 H locs hP hD hS => ?_)
  have hP : va_P g.1 vwCl (wMo g mo a op48 now dr y8 sa iS bu tq rT wT wo sK sA sB sE oq bS bE bL rp) H := hP
  have hD : va_D (inW ws0) (wMo g mo a op48 now dr y8 sa iS bu tq rT wT wo sK sA sB sE oq bS bE bL rp) := hD
  have hz := lett_z hz ey8
  refine lv_aload_n hx hb d_Mo_record_64 rfl (lv_at hl 0 rfl) ?_
  refine lv_dup hx hb d_Mo_record_65 rfl ?_
  refine gf C hP 0 5 fkMo rfl (by decide) rfl qf_Mo_400 (gMo_5 _ _) d_Mo_record_66 ?_
  refine lv_iconst (v := 1) hx hb d_Mo_record_69 (by decide) ?_
  refine lv_iadd hx hb d_Mo_record_70 ?_
  refine pfI C hP hD hS 0 5 fkMo rfl (by decide) rfl qf_Mo_400 rfl rfl rfl (Nat.le_of_ble_eq_true rfl) (ff := fun o => fMo a o) (sMo_5 _ _ _) d_Mo_record_71 (fun o_9 eo_9 H locs hP hD hS => ?_)
  have hP : va_P g.1 vwCl (wMo g mo a o_9 now dr y8 sa iS bu tq rT wT wo sK sA sB sE oq bS bE bL rp) H := hP
  have hD : va_D (inW ws0) (wMo g mo a o_9 now dr y8 sa iS bu tq rT wT wo sK sA sB sE oq bS bE bL rp) := hD
  have hz := lett_z hz eo_9
  exact endV C hz hP hS d_Mo_record_74
noncomputable def sp_Mo_record_38 (o : IV) (now : LV) (pap11 : LV)   : IV × LV := lett (upd o 5 ((o 5) - (1 : Int32))) fun (o_6 : IV) => sp_Mo_record_48 now o_6 pap11
def ok_Mo_record_38 (o : IV) (now : LV) (pap11 : LV)    : Prop := lett (upd o 5 ((o 5) - (1 : Int32))) fun (o_6 : IV) => ok_Mo_record_48 now o_6 pap11
set_option maxRecDepth 100000 in
set_option maxHeartbeats 4000000 in
theorem k_Mo_record_38 {p : Program} {l : Launch} {e : Env} {s : State} {m : MethodId} {args : Array Value} {below : List Frame} {meth : Method} {c : Code} {g : GX} {mo : Nat} {a : Nat → Nat} {ws0 : va_W} {o : IV} {now : LV} {dr : LV} {pap11 : LV} {sa : LV} {iS : IV} {bu : IV} {tq : IV} {rT : IV} {wT : IV} {wo : Nat → Option Nat} {sK : IV} {sA : IV} {sB : IV} {sE : IV} {oq : IV} {bS : IV} {bE : IV} {bL : IV} {rp : IV}  (C : Cx p s m args meth c (inW ws0) g "DecadeBridgeModel" b_Mo_record none 2)  : HL_Mo_record_38 p l e s m args below meth c g mo a ws0 o now dr pap11 sa iS bu tq rT wT wo sK sA sB sE oq bS bE bL rp (sp_Mo_record_38 o now pap11 ) (ok_Mo_record_38 o now pap11  ) := by
  intro _ hok z hz H locs ls hP hD hS hl
  obtain ⟨hx, hb, hr, hml, hown, hlk, hts, hK, hZo, hZ⟩ := id C
  unfold sp_Mo_record_38 at hz
  unfold ok_Mo_record_38 at hok
  refine lv_aload_n hx hb d_Mo_record_38 rfl (lv_at hl 0 rfl) ?_
  refine lv_dup hx hb d_Mo_record_39 rfl ?_
  refine gf C hP 0 5 fkMo rfl (by decide) rfl qf_Mo_400 (gMo_5 _ _) d_Mo_record_40 ?_
  refine lv_iconst (v := 1) hx hb d_Mo_record_43 (by decide) ?_
  refine lv_isub hx hb d_Mo_record_44 ?_
  refine pfI C hP hD hS 0 5 fkMo rfl (by decide) rfl qf_Mo_400 rfl rfl rfl (Nat.le_of_ble_eq_true rfl) (ff := fun o => fMo a o) (sMo_5 _ _ _) d_Mo_record_45 (fun o_6 eo_6 H locs hP hD hS => ?_)
  have hP : va_P g.1 vwCl (wMo g mo a o_6 now dr pap11 sa iS bu tq rT wT wo sK sA sB sE oq bS bE bL rp) H := hP
  have hD : va_D (inW ws0) (wMo g mo a o_6 now dr pap11 sa iS bu tq rT wT wo sK sA sB sE oq bS bE bL rp) := hD
  have hz := lett_z hz eo_6
  have hok := lett_o hok eo_6
  exact k_Mo_record_48 C o_6 pap11 hok _ hz _ _ ls hP hD hS hl
noncomputable def bd_Mo_record_11 (o : IV) (now : LV) (r11 : Int32 → LV → (IV × LV)) (x1p11 : Int32) (pap11 : LV) : IV × LV := if (8 : Int32) ≤ x1p11 then (sp_Mo_record_38 o now pap11) else (lett (sp_Mo_copy_pp x1p11 (x1p11 - (1 : Int32)) pap11) fun (y4 : LV) => lett (x1p11 + (1 : Int32)) fun (v5 : Int32) => r11 v5 y4)
def okb_Mo_record_11 (o : IV) (now : LV) (r11 : Int32 → LV → (IV × LV)) (q11 : Int32 → LV → Prop) (x1p11 : Int32) (pap11 : LV) : Prop := (((8 : Int32) ≤ x1p11 → ok_Mo_record_38 o now pap11) ∧ (¬ ((8 : Int32) ≤ x1p11) → (ok_Mo_copy_pp x1p11 (x1p11 - (1 : Int32)) pap11) ∧ lett (sp_Mo_copy_pp x1p11 (x1p11 - (1 : Int32)) pap11) fun (y4 : LV) => lett (x1p11 + (1 : Int32)) fun (v5 : Int32) => q11 v5 y4))
noncomputable def sp_Mo_record_11 (o : IV) (now : LV)  : Nat → Int32 → LV → (IV × LV)
  | 0 => fun _ _ => default
  | f + 1 => bd_Mo_record_11 o now  (sp_Mo_record_11 o now  f)
def ok_Mo_record_11 (o : IV) (now : LV)   : Nat → Int32 → LV → Prop
  | 0 => fun _ _ => False
  | f + 1 => okb_Mo_record_11 o now  (sp_Mo_record_11 o now  f)  (ok_Mo_record_11 o now   f)
set_option maxRecDepth 100000 in
set_option maxHeartbeats 4000000 in
theorem kb_Mo_record_11 {p : Program} {l : Launch} {e : Env} {s : State} {m : MethodId} {args : Array Value} {below : List Frame} {meth : Method} {c : Code} {g : GX} {mo : Nat} {a : Nat → Nat} {ws0 : va_W} {o : IV} {now : LV} {dr : LV} {sa : LV} {iS : IV} {bu : IV} {tq : IV} {rT : IV} {wT : IV} {wo : Nat → Option Nat} {sK : IV} {sA : IV} {sB : IV} {sE : IV} {oq : IV} {bS : IV} {bE : IV} {bL : IV} {rp : IV}  (C : Cx p s m args meth c (inW ws0) g "DecadeBridgeModel" b_Mo_record none 2) {r11 : Int32 → LV → (IV × LV)} {q11 : Int32 → LV → Prop}  (ih11 : HL_Mo_record_11 p l e s m args below meth c g mo a ws0 o now dr sa iS bu tq rT wT wo sK sA sB sE oq bS bE bL rp r11 q11) : HL_Mo_record_11 p l e s m args below meth c g mo a ws0 o now dr sa iS bu tq rT wT wo sK sA sB sE oq bS bE bL rp (bd_Mo_record_11 o now  r11) (okb_Mo_record_11 o now  r11  q11) := by
  intro x1p11 pap11 hok z hz H locs ls hP hD hS hl
  obtain ⟨hx, hb, hr, hml, hown, hlk, hts, hK, hZo, hZ⟩ := id C
  unfold bd_Mo_record_11 at hz
  unfold okb_Mo_record_11 at hok
  refine lv_iload_n hx hb d_Mo_record_11 rfl (lv_at hl 1 rfl) ?_
  refine lv_bipush (v := 8) hx hb d_Mo_record_12 (by decide) ?_
  refine lv_icmp_ge (tgt := 38) hx hb d_Mo_record_14 (by decide) (fun c2 => ?_) (fun c2 => ?_)
  · have hz := hz.trans (if_pos c2)
    have hok := hok.1 c2
    exact k_Mo_record_38 C () hok _ hz _ _ ls hP hD hS (lv_sub hl [0] rfl)
  · have hz := hz.trans (if_neg c2)
    have hok := hok.2 c2
    refine lv_aload_n hx hb d_Mo_record_17 rfl (lv_at hl 0 rfl) ?_
    refine gf C hP 0 2 fkMo rfl (by decide) rfl qf_Mo_16 (gMo_2 _ _) d_Mo_record_18 ?_
    refine lv_iload_n hx hb d_Mo_record_21 rfl (lv_at hl 1 rfl) ?_
    refine lv_aload_n hx hb d_Mo_record_22 rfl (lv_at hl 0 rfl) ?_
    refine gf C hP 0 2 fkMo rfl (by decide) rfl qf_Mo_16 (gMo_2 _ _) d_Mo_record_23 ?_
    refine lv_iload_n hx hb d_Mo_record_26 rfl (lv_at hl 1 rfl) ?_
    refine lv_iconst (v := 1) hx hb d_Mo_record_27 (by decide) ?_
    refine lv_isub hx hb d_Mo_record_28 ?_
    have hs3 := hok.1
    have hok := hok.2
    have hB : SubW g (inW ws0) s (wMo g mo a o now dr pap11 sa iS bu tq rT wT wo sK sA sB sE oq bS bE bL rp) _ (List.range _) _ _ := (subF hP hD hS)
    refine goVF hB (run_s C mf_Mo_copy qm_Mo_476 (c_Mo_copy_pp l g mo a o now dr pap11 sa iS bu tq rT wT wo sK sA sB sE oq bS bE bL rp x1p11 (x1p11 - (1 : Int32)) hs3) rfl rfl ⟨Nat.le_of_ble_eq_true rfl, Nat.le_of_ble_eq_true rfl⟩ ⟨Nat.le_of_ble_eq_true rfl, Nat.le_of_ble_eq_true rfl⟩ hB hl rfl rfl (Nat.le_of_ble_eq_true rfl) d_Mo_record_29) (fun _ => rfl) (fun y4 ey4 H locs hP hD hS => ?_)
    have hP : va_P g.1 vwCl (wMo g mo a o now dr y4 sa iS bu tq rT wT wo sK sA sB sE oq bS bE bL rp) H := hP
    have hD : va_D (inW ws0) (wMo g mo a o now dr y4 sa iS bu tq rT wT wo sK sA sB sE oq bS bE bL rp) := hD
    have hz := lett_z hz ey4
    have hok := lett_o hok ey4
    obtain ⟨v5, ev5⟩ : ∃ y : Int32, y = x1p11 + (1 : Int32) := ⟨_, rfl⟩
    have hz := lett_z hz ev5
    have hok := lett_o hok ev5
    refine lv_iinc (v := v5) (lv' := [(1, .int v5), (0, .ref mo)]) hx hb d_Mo_record_32 hl (k := 1) rfl (by rw [ev5]; rfl) (by decide) rfl (fun ls hl => ?_)
    refine lv_goto (tgt := 11) hx hb d_Mo_record_35 (by decide) ?_
    exact ih11 v5 y4 hok _ hz _ _ ls hP hD hS (lv_sub hl [1, 0] rfl)
theorem k_Mo_record_11 {p : Program} {l : Launch} {e : Env} {s : State} {m : MethodId} {args : Array Value} {below : List Frame} {meth : Method} {c : Code} {g : GX} {mo : Nat} {a : Nat → Nat} {ws0 : va_W} {o : IV} {now : LV} {dr : LV} {sa : LV} {iS : IV} {bu : IV} {tq : IV} {rT : IV} {wT : IV} {wo : Nat → Option Nat} {sK : IV} {sA : IV} {sB : IV} {sE : IV} {oq : IV} {bS : IV} {bE : IV} {bL : IV} {rp : IV}  (C : Cx p s m args meth c (inW ws0) g "DecadeBridgeModel" b_Mo_record none 2) (f : Nat)  : HL_Mo_record_11 p l e s m args below meth c g mo a ws0 o now dr sa iS bu tq rT wT wo sK sA sB sE oq bS bE bL rp (sp_Mo_record_11 o now  f) (ok_Mo_record_11 o now   f) := by
  induction f with
  | zero => intro x1p11 pap11 hok; exact False.elim hok
  | succ f ih => exact kb_Mo_record_11 C  ih
noncomputable def sp_Mo_record (o : IV) (now : LV) (pa : LV) : IV × LV := if (o 5) = (8 : Int32) then (sp_Mo_record_11 o now big (1 : Int32) pa) else (sp_Mo_record_48 now o pa)
def ok_Mo_record (o : IV) (now : LV) (pa : LV) : Prop := (((o 5) = (8 : Int32) → ok_Mo_record_11 o now big (1 : Int32) pa) ∧ (¬ ((o 5) = (8 : Int32)) → ok_Mo_record_48 now o pa))
set_option maxRecDepth 100000 in
set_option maxHeartbeats 4000000 in
theorem c_Mo_record (l : Launch) (g : GX) (mo : Nat) (a : Nat → Nat) (o : IV) (now : LV) (dr : LV) (pa : LV) (sa : LV) (iS : IV) (bu : IV) (tq : IV) (rT : IV) (wT : IV) (wo : Nat → Option Nat) (sK : IV) (sA : IV) (sB : IV) (sE : IV) (oq : IV) (bS : IV) (bE : IV) (bL : IV) (rp : IV)  (hok : ok_Mo_record o now pa) : Met l y_Mo_record (wsY y_Mo_record b_Mo_record 2 none) rm_Mo_record (CP g [.ref mo] (wMo g mo a o now dr pa sa iS bu tq rT wT wo sK sA sB sE oq bS bE bL rp)) (CV g (wMo g mo a o now dr pa sa iS bu tq rT wT wo sK sA sB sE oq bS bE bL rp) (fun u : IV × LV => wMo g mo a u.1 now dr u.2 sa iS bu tq rT wT wo sK sA sB sE oq bS bE bL rp) (sp_Mo_record o now pa)) 0 0 (inW (wMo g mo a o now dr pa sa iS bu tq rT wT wo sK sA sB sE oq bS bE bL rp)) := by
  refine Met.ofW (cc := b_Mo_record) (maxL := 2) (ret := none) pn_Mo rfl ?_
  intro p e s m args below meth c s₁ B hml hv
  obtain ⟨rfl, C, hP, hD, hS⟩ := enter "DecadeBridgeModel" rfl B hml hv
  obtain ⟨hx, hb, hr, hml, hown, hlk, hts, hK, hZo, hZ⟩ := id C
  refine entryW (lv := [(0, .ref mo)]) rfl (Nat.le_of_ble_eq_true rfl) (fun ls hl => ?_)
  obtain ⟨z, hz⟩ : ∃ z, z = sp_Mo_record o now pa := ⟨_, rfl⟩
  rw [← hz]
  unfold sp_Mo_record at hz
  unfold ok_Mo_record at hok
  refine lv_aload_n hx hb d_Mo_record_0 rfl (lv_at hl 0 rfl) ?_
  refine gf C hP 0 5 fkMo rfl (by decide) rfl qf_Mo_400 (gMo_5 _ _) d_Mo_record_1 ?_
  refine lv_bipush (v := 8) hx hb d_Mo_record_4 (by decide) ?_
  refine lv_icmp_ne (tgt := 48) hx hb d_Mo_record_6 (by decide) (fun c1 => ?_) (fun c1 => ?_)
  · have hz := hz.trans (if_neg c1)
    have hok := hok.2 c1
    exact k_Mo_record_48 C o pa hok _ hz _ _ ls hP hD hS hl
  · have hz := hz.trans (if_pos c1)
    have hok := hok.1 c1
    refine lv_iconst (v := 1) hx hb d_Mo_record_9 (by decide) ?_
    refine lv_istore_n (lv' := [(1, .int (1 : Int32)), (0, .ref mo)]) hx hb d_Mo_record_10 rfl hl (by decide) rfl (fun ls hl => ?_)
    exact k_Mo_record_11 C big (1 : Int32) pa hok _ hz _ _ ls hP hD hS (lv_sub hl [1, 0] rfl)
abbrev rm_Mo_change : Room := { frames := 0, cells := 0, slots := 0, locals := 0 }
noncomputable def sp_Mo_change (p1 : Int32) (p2 : Int64) (now : LV) : Int32 × LV := lett ((now p1.toNatClampNeg).toInt32) fun (v2 : Int32) => lett (vp_updL now p1.toNatClampNeg p2) fun (now_3 : LV) => (v2, now_3)
def ok_Mo_change (p1 : Int32) (p2 : Int64) : Prop := (vp_in p1 215) ∧ True
set_option maxRecDepth 100000 in
set_option maxHeartbeats 4000000 in
theorem c_Mo_change (l : Launch) (g : GX) (mo : Nat) (a : Nat → Nat) (o : IV) (now : LV) (dr : LV) (pa : LV) (sa : LV) (iS : IV) (bu : IV) (tq : IV) (rT : IV) (wT : IV) (wo : Nat → Option Nat) (sK : IV) (sA : IV) (sB : IV) (sE : IV) (oq : IV) (bS : IV) (bE : IV) (bL : IV) (rp : IV) (p1 : Int32) (p2 : Int64) (hok : ok_Mo_change p1 p2) : Met l y_Mo_change (wsY y_Mo_change b_Mo_change 5 (some .int)) rm_Mo_change (CP g [.ref mo, .int p1, .long p2] (wMo g mo a o now dr pa sa iS bu tq rT wT wo sK sA sB sE oq bS bE bL rp)) (CI g (wMo g mo a o now dr pa sa iS bu tq rT wT wo sK sA sB sE oq bS bE bL rp) (fun u : LV => wMo g mo a o u dr pa sa iS bu tq rT wT wo sK sA sB sE oq bS bE bL rp) (sp_Mo_change p1 p2 now)) 0 0 (inW (wMo g mo a o now dr pa sa iS bu tq rT wT wo sK sA sB sE oq bS bE bL rp)) := by
  refine Met.ofW (cc := b_Mo_change) (maxL := 5) (ret := (some .int)) pn_Mo rfl ?_
  intro p e s m args below meth c s₁ B hml hv
  obtain ⟨rfl, C, hP, hD, hS⟩ := enter "DecadeBridgeModel" rfl B hml hv
  obtain ⟨hx, hb, hr, hml, hown, hlk, hts, hK, hZo, hZ⟩ := id C
  refine entryW (lv := [(0, .ref mo), (1, .int p1), (2, .long p2)]) rfl (Nat.le_of_ble_eq_true rfl) (fun ls hl => ?_)
  obtain ⟨z, hz⟩ : ∃ z, z = sp_Mo_change p1 p2 now := ⟨_, rfl⟩
  rw [← hz]
  unfold sp_Mo_change at hz
  unfold ok_Mo_change at hok
  refine lv_aload_n hx hb d_Mo_change_0 rfl (lv_at hl 0 rfl) ?_
  refine gf C hP 0 0 fkMo rfl (by decide) rfl qf_Mo_7 (gMo_0 _ _) d_Mo_change_1 ?_
  refine lv_iload_n hx hb d_Mo_change_4 rfl (lv_at hl 1 rfl) ?_
  have hs1 := hok.1
  have hok := hok.2
  refine ldL C hP 1 rfl hs1 rfl d_Mo_change_5 ?_
  refine lv_l2i hx hb d_Mo_change_6 rfl ?_
  refine lv_topi (fun v2 ev2 => ?_)
  have hz := lett_z hz ev2
  refine lv_istore (lv' := [(4, .int v2), (0, .ref mo), (1, .int p1), (2, .long p2)]) hx hb d_Mo_change_7 hl (by decide) rfl (fun ls hl => ?_)
  refine lv_aload_n hx hb d_Mo_change_9 rfl (lv_at hl 1 rfl) ?_
  refine gf C hP 0 0 fkMo rfl (by decide) rfl qf_Mo_7 (gMo_0 _ _) d_Mo_change_10 ?_
  refine lv_iload_n hx hb d_Mo_change_13 rfl (lv_at hl 2 rfl) ?_
  refine lv_lload_n hx hb d_Mo_change_14 rfl (lv_at hl 3 rfl) ?_
  refine stL C hP hD hS 1 rfl hs1 rfl d_Mo_change_15 (fun now_3 enow_3 H locs hP hD hS => ?_)
  have hP : va_P g.1 vwCl (wMo g mo a o now_3 dr pa sa iS bu tq rT wT wo sK sA sB sE oq bS bE bL rp) H := hP
  have hD : va_D (inW (wMo g mo a o now dr pa sa iS bu tq rT wT wo sK sA sB sE oq bS bE bL rp)) (wMo g mo a o now_3 dr pa sa iS bu tq rT wT wo sK sA sB sE oq bS bE bL rp) := hD
  have hz := lett_z hz enow_3
  refine lv_iload hx hb d_Mo_change_16 (lv_at hl 0 rfl) ?_
  exact endI1 C hz hP hS d_Mo_change_18
abbrev rm_Mo_armsNow : Room := { frames := 1, cells := 0, slots := 0, locals := 24 }
noncomputable def sp_Mo_armsNow (p1 : Int64) (p2 : Int64) (now : LV) : Int32 × LV := lett (sp_Mo_change (29 : Int32) p1 now) fun (y2 : Int32 × LV) => lett ((10 : Int32) * y2.1) fun (v3 : Int32) => lett (sp_Mo_change (30 : Int32) p2 y2.2) fun (y5 : Int32 × LV) => (v3 + y5.1, y5.2)
def ok_Mo_armsNow (p1 : Int64) (p2 : Int64) (now : LV) : Prop := (ok_Mo_change (29 : Int32) p1) ∧ lett (sp_Mo_change (29 : Int32) p1 now) fun (y2 : Int32 × LV) => lett ((10 : Int32) * y2.1) fun (v3 : Int32) => (ok_Mo_change (30 : Int32) p2) ∧ True
set_option maxRecDepth 100000 in
set_option maxHeartbeats 4000000 in
theorem c_Mo_armsNow (l : Launch) (g : GX) (mo : Nat) (a : Nat → Nat) (o : IV) (now : LV) (dr : LV) (pa : LV) (sa : LV) (iS : IV) (bu : IV) (tq : IV) (rT : IV) (wT : IV) (wo : Nat → Option Nat) (sK : IV) (sA : IV) (sB : IV) (sE : IV) (oq : IV) (bS : IV) (bE : IV) (bL : IV) (rp : IV) (p1 : Int64) (p2 : Int64) (hok : ok_Mo_armsNow p1 p2 now) : Met l y_Mo_armsNow (wsY y_Mo_armsNow b_Mo_armsNow 6 (some .int)) rm_Mo_armsNow (CP g [.ref mo, .long p1, .long p2] (wMo g mo a o now dr pa sa iS bu tq rT wT wo sK sA sB sE oq bS bE bL rp)) (CI g (wMo g mo a o now dr pa sa iS bu tq rT wT wo sK sA sB sE oq bS bE bL rp) (fun u : LV => wMo g mo a o u dr pa sa iS bu tq rT wT wo sK sA sB sE oq bS bE bL rp) (sp_Mo_armsNow p1 p2 now)) 0 0 (inW (wMo g mo a o now dr pa sa iS bu tq rT wT wo sK sA sB sE oq bS bE bL rp)) := by
  refine Met.ofW (cc := b_Mo_armsNow) (maxL := 6) (ret := (some .int)) pn_Mo rfl ?_
  intro p e s m args below meth c s₁ B hml hv
  obtain ⟨rfl, C, hP, hD, hS⟩ := enter "DecadeBridgeModel" rfl B hml hv
  obtain ⟨hx, hb, hr, hml, hown, hlk, hts, hK, hZo, hZ⟩ := id C
  refine entryW (lv := [(0, .ref mo), (1, .long p1), (3, .long p2)]) rfl (Nat.le_of_ble_eq_true rfl) (fun ls hl => ?_)
  obtain ⟨z, hz⟩ : ∃ z, z = sp_Mo_armsNow p1 p2 now := ⟨_, rfl⟩
  rw [← hz]
  unfold sp_Mo_armsNow at hz
  unfold ok_Mo_armsNow at hok
  refine lv_bipush (v := 10) hx hb d_Mo_armsNow_0 (by decide) ?_
  refine lv_aload_n hx hb d_Mo_armsNow_2 rfl (lv_at hl 0 rfl) ?_
  refine lv_bipush (v := 29) hx hb d_Mo_armsNow_3 (by decide) ?_
  refine lv_lload_n hx hb d_Mo_armsNow_5 rfl (lv_at hl 1 rfl) ?_
  have hs1 := hok.1
  have hok := hok.2
  have hB : SubW g (inW (wMo g mo a o now dr pa sa iS bu tq rT wT wo sK sA sB sE oq bS bE bL rp)) s (wMo g mo a o now dr pa sa iS bu tq rT wT wo sK sA sB sE oq bS bE bL rp) _ (List.range _) _ _ := (subF hP hD hS)
  refine goIF hB (run_v C mf_Mo_change qm_Mo_480 (c_Mo_change l g mo a o now dr pa sa iS bu tq rT wT wo sK sA sB sE oq bS bE bL rp (29 : Int32) p1 hs1) rfl rfl ⟨Nat.le_of_ble_eq_true rfl, Nat.le_of_ble_eq_true rfl⟩ ⟨Nat.le_of_ble_eq_true rfl, Nat.le_of_ble_eq_true rfl⟩ hB rfl rfl hl rfl rfl (Nat.le_of_ble_eq_true rfl) d_Mo_armsNow_6) (fun _ => rfl) (fun y2 ey2 H locs hP hD hS => ?_)
  have hP : va_P g.1 vwCl (wMo g mo a o y2.2 dr pa sa iS bu tq rT wT wo sK sA sB sE oq bS bE bL rp) H := hP
  have hD : va_D (inW (wMo g mo a o now dr pa sa iS bu tq rT wT wo sK sA sB sE oq bS bE bL rp)) (wMo g mo a o y2.2 dr pa sa iS bu tq rT wT wo sK sA sB sE oq bS bE bL rp) := hD
  have hz := lett_z hz ey2
  have hok := lett_o hok ey2
  refine lv_imul hx hb d_Mo_armsNow_9 ?_
  refine lv_topi (fun v3 ev3 => ?_)
  have hz := lett_z hz ev3
  have hok := lett_o hok ev3
  refine lv_istore (lv' := [(5, .int v3), (0, .ref mo), (1, .long p1), (3, .long p2)]) hx hb d_Mo_armsNow_10 hl (by decide) rfl (fun ls hl => ?_)
  refine lv_iload hx hb d_Mo_armsNow_12 (lv_at hl 0 rfl) ?_
  refine lv_aload_n hx hb d_Mo_armsNow_14 rfl (lv_at hl 1 rfl) ?_
  refine lv_bipush (v := 30) hx hb d_Mo_armsNow_15 (by decide) ?_
  refine lv_lload_n hx hb d_Mo_armsNow_17 rfl (lv_at hl 3 rfl) ?_
  have hs4 := hok.1
  have hok := hok.2
  have hB : SubW g (inW (wMo g mo a o now dr pa sa iS bu tq rT wT wo sK sA sB sE oq bS bE bL rp)) s (wMo g mo a o y2.2 dr pa sa iS bu tq rT wT wo sK sA sB sE oq bS bE bL rp) _ (List.range _) _ _ := (subF hP hD hS)
  refine goIF hB (run_v C mf_Mo_change qm_Mo_480 (c_Mo_change l g mo a o y2.2 dr pa sa iS bu tq rT wT wo sK sA sB sE oq bS bE bL rp (30 : Int32) p2 hs4) rfl rfl ⟨Nat.le_of_ble_eq_true rfl, Nat.le_of_ble_eq_true rfl⟩ ⟨Nat.le_of_ble_eq_true rfl, Nat.le_of_ble_eq_true rfl⟩ hB rfl rfl hl rfl rfl (Nat.le_of_ble_eq_true rfl) d_Mo_armsNow_18) (fun _ => rfl) (fun y5 ey5 H locs hP hD hS => ?_)
  have hP : va_P g.1 vwCl (wMo g mo a o y5.2 dr pa sa iS bu tq rT wT wo sK sA sB sE oq bS bE bL rp) H := hP
  have hD : va_D (inW (wMo g mo a o now dr pa sa iS bu tq rT wT wo sK sA sB sE oq bS bE bL rp)) (wMo g mo a o y5.2 dr pa sa iS bu tq rT wT wo sK sA sB sE oq bS bE bL rp) := hD
  have hz := lett_z hz ey5
  refine lv_iadd hx hb d_Mo_armsNow_21 ?_
  exact endI1 C hz hP hS d_Mo_armsNow_22
abbrev rm_Mo_setNow : Room := { frames := 3, cells := 0, slots := 0, locals := 64 }
noncomputable def sp_Mo_setNow (p1 : Int32) (now : LV) : Int32 × LV := lett (sp_Mo_isSetting p1 now) fun (y2 : Int32) => if y2 = 0 then (((-2 : Int32), now)) else (lett (sp_Mo_setting now) fun (y5 : Int32) => lett (sp_Mo_laySetting p1 now) fun (y7 : LV) => (y5, y7))
def ok_Mo_setNow (p1 : Int32) (now : LV) : Prop := (ok_Mo_isSetting p1 now) ∧ lett (sp_Mo_isSetting p1 now) fun (y2 : Int32) => ((y2 = 0 → True) ∧ (¬ (y2 = 0) → (ok_Mo_setting now) ∧ lett (sp_Mo_setting now) fun (y5 : Int32) => (ok_Mo_laySetting p1 now) ∧ True))
set_option maxRecDepth 100000 in
set_option maxHeartbeats 4000000 in
theorem c_Mo_setNow (l : Launch) (g : GX) (mo : Nat) (a : Nat → Nat) (o : IV) (now : LV) (dr : LV) (pa : LV) (sa : LV) (iS : IV) (bu : IV) (tq : IV) (rT : IV) (wT : IV) (wo : Nat → Option Nat) (sK : IV) (sA : IV) (sB : IV) (sE : IV) (oq : IV) (bS : IV) (bE : IV) (bL : IV) (rp : IV) (p1 : Int32) (hok : ok_Mo_setNow p1 now) : Met l y_Mo_setNow (wsY y_Mo_setNow b_Mo_setNow 3 (some .int)) rm_Mo_setNow (CP g [.ref mo, .int p1] (wMo g mo a o now dr pa sa iS bu tq rT wT wo sK sA sB sE oq bS bE bL rp)) (CI g (wMo g mo a o now dr pa sa iS bu tq rT wT wo sK sA sB sE oq bS bE bL rp) (fun u : LV => wMo g mo a o u dr pa sa iS bu tq rT wT wo sK sA sB sE oq bS bE bL rp) (sp_Mo_setNow p1 now)) 0 0 (inW (wMo g mo a o now dr pa sa iS bu tq rT wT wo sK sA sB sE oq bS bE bL rp)) := by
  refine Met.ofW (cc := b_Mo_setNow) (maxL := 3) (ret := (some .int)) pn_Mo rfl ?_
  intro p e s m args below meth c s₁ B hml hv
  obtain ⟨rfl, C, hP, hD, hS⟩ := enter "DecadeBridgeModel" rfl B hml hv
  obtain ⟨hx, hb, hr, hml, hown, hlk, hts, hK, hZo, hZ⟩ := id C
  refine entryW (lv := [(0, .ref mo), (1, .int p1)]) rfl (Nat.le_of_ble_eq_true rfl) (fun ls hl => ?_)
  obtain ⟨z, hz⟩ : ∃ z, z = sp_Mo_setNow p1 now := ⟨_, rfl⟩
  rw [← hz]
  unfold sp_Mo_setNow at hz
  unfold ok_Mo_setNow at hok
  refine lv_aload_n hx hb d_Mo_setNow_0 rfl (lv_at hl 0 rfl) ?_
  refine lv_iload_n hx hb d_Mo_setNow_1 rfl (lv_at hl 1 rfl) ?_
  have hs1 := hok.1
  have hok := hok.2
  have hB : SubW g (inW (wMo g mo a o now dr pa sa iS bu tq rT wT wo sK sA sB sE oq bS bE bL rp)) s (wMo g mo a o now dr pa sa iS bu tq rT wT wo sK sA sB sE oq bS bE bL rp) _ (List.range _) _ _ := (subF hP hD hS)
  refine goI0 hB (run_v C mf_Mo_isSetting qm_Mo_426 (c_Mo_isSetting l g mo a o now dr pa sa iS bu tq rT wT wo sK sA sB sE oq bS bE bL rp p1 hs1) rfl rfl ⟨Nat.le_of_ble_eq_true rfl, Nat.le_of_ble_eq_true rfl⟩ ⟨Nat.le_of_ble_eq_true rfl, Nat.le_of_ble_eq_true rfl⟩ hB rfl rfl hl rfl rfl (Nat.le_of_ble_eq_true rfl) d_Mo_setNow_2) (fun y2 ey2 H locs hP hS => ?_)
  have hz := lett_z hz ey2
  have hok := lett_o hok ey2
  refine lv_if_ne (tgt := 11) hx hb d_Mo_setNow_5 (by decide) (fun c3 => ?_) (fun c3 => ?_)
  · have hz := hz.trans (if_neg c3)
    have hok := hok.2 c3
    refine lv_aload_n hx hb d_Mo_setNow_11 rfl (lv_at hl 0 rfl) ?_
    have hs4 := hok.1
    have hok := hok.2
    have hB : SubW g (inW (wMo g mo a o now dr pa sa iS bu tq rT wT wo sK sA sB sE oq bS bE bL rp)) s (wMo g mo a o now dr pa sa iS bu tq rT wT wo sK sA sB sE oq bS bE bL rp) _ (List.range _) _ _ := (subF hP hD hS)
    refine goI0 hB (run_v C mf_Mo_setting qm_Mo_176 (c_Mo_setting l g mo a o now dr pa sa iS bu tq rT wT wo sK sA sB sE oq bS bE bL rp hs4) rfl rfl ⟨Nat.le_of_ble_eq_true rfl, Nat.le_of_ble_eq_true rfl⟩ ⟨Nat.le_of_ble_eq_true rfl, Nat.le_of_ble_eq_true rfl⟩ hB rfl rfl hl rfl rfl (Nat.le_of_ble_eq_true rfl) d_Mo_setNow_12) (fun y5 ey5 H locs hP hS => ?_)
    have hz := lett_z hz ey5
    have hok := lett_o hok ey5
    refine lv_istore_n (lv' := [(2, .int y5), (0, .ref mo), (1, .int p1)]) hx hb d_Mo_setNow_15 rfl hl (by decide) rfl (fun ls hl => ?_)
    refine lv_aload_n hx hb d_Mo_setNow_16 rfl (lv_at hl 1 rfl) ?_
    refine lv_iload_n hx hb d_Mo_setNow_17 rfl (lv_at hl 2 rfl) ?_
    have hs6 := hok.1
    have hok := hok.2
    have hB : SubW g (inW (wMo g mo a o now dr pa sa iS bu tq rT wT wo sK sA sB sE oq bS bE bL rp)) s (wMo g mo a o now dr pa sa iS bu tq rT wT wo sK sA sB sE oq bS bE bL rp) _ (List.range _) _ _ := (subF hP hD hS)
    refine goVF hB (run_v C mf_Mo_laySetting qm_Mo_248 (c_Mo_laySetting l g mo a o now dr pa sa iS bu tq rT wT wo sK sA sB sE oq bS bE bL rp p1 hs6) rfl rfl ⟨Nat.le_of_ble_eq_true rfl, Nat.le_of_ble_eq_true rfl⟩ ⟨Nat.le_of_ble_eq_true rfl, Nat.le_of_ble_eq_true rfl⟩ hB rfl rfl hl rfl rfl (Nat.le_of_ble_eq_true rfl) d_Mo_setNow_18) (fun _ => rfl) (fun y7 ey7 H locs hP hD hS => ?_)
    have hP : va_P g.1 vwCl (wMo g mo a o y7 dr pa sa iS bu tq rT wT wo sK sA sB sE oq bS bE bL rp) H := hP
    have hD : va_D (inW (wMo g mo a o now dr pa sa iS bu tq rT wT wo sK sA sB sE oq bS bE bL rp)) (wMo g mo a o y7 dr pa sa iS bu tq rT wT wo sK sA sB sE oq bS bE bL rp) := hD
    have hz := lett_z hz ey7
    refine lv_iload_n hx hb d_Mo_setNow_21 rfl (lv_at hl 0 rfl) ?_
    exact endI1 C hz hP hS d_Mo_setNow_22
  · have hz := hz.trans (if_pos c3)
    refine lv_bipush (v := -2) hx hb d_Mo_setNow_8 (by decide) ?_
    exact endI1 C hz hP hS d_Mo_setNow_10
abbrev rm_Mo_turnNow : Room := { frames := 0, cells := 0, slots := 0, locals := 0 }
noncomputable def sp_Mo_turnNow (now : LV) : Int32 × LV := lett (vp_updL now 31 ((1 : Int64) - (now 31))) fun (now_1 : LV) => ((now_1 31).toInt32, now_1)
set_option maxRecDepth 100000 in
set_option maxHeartbeats 4000000 in
theorem c_Mo_turnNow (l : Launch) (g : GX) (mo : Nat) (a : Nat → Nat) (o : IV) (now : LV) (dr : LV) (pa : LV) (sa : LV) (iS : IV) (bu : IV) (tq : IV) (rT : IV) (wT : IV) (wo : Nat → Option Nat) (sK : IV) (sA : IV) (sB : IV) (sE : IV) (oq : IV) (bS : IV) (bE : IV) (bL : IV) (rp : IV)  : Met l y_Mo_turnNow (wsY y_Mo_turnNow b_Mo_turnNow 1 (some .int)) rm_Mo_turnNow (CP g [.ref mo] (wMo g mo a o now dr pa sa iS bu tq rT wT wo sK sA sB sE oq bS bE bL rp)) (CI g (wMo g mo a o now dr pa sa iS bu tq rT wT wo sK sA sB sE oq bS bE bL rp) (fun u : LV => wMo g mo a o u dr pa sa iS bu tq rT wT wo sK sA sB sE oq bS bE bL rp) (sp_Mo_turnNow now)) 0 0 (inW (wMo g mo a o now dr pa sa iS bu tq rT wT wo sK sA sB sE oq bS bE bL rp)) := by
  refine Met.ofW (cc := b_Mo_turnNow) (maxL := 1) (ret := (some .int)) pn_Mo rfl ?_
  intro p e s m args below meth c s₁ B hml hv
  obtain ⟨rfl, C, hP, hD, hS⟩ := enter "DecadeBridgeModel" rfl B hml hv
  obtain ⟨hx, hb, hr, hml, hown, hlk, hts, hK, hZo, hZ⟩ := id C
  refine entryW (lv := [(0, .ref mo)]) rfl (Nat.le_of_ble_eq_true rfl) (fun ls hl => ?_)
  obtain ⟨z, hz⟩ : ∃ z, z = sp_Mo_turnNow now := ⟨_, rfl⟩
  rw [← hz]
  unfold sp_Mo_turnNow at hz
  refine lv_aload_n hx hb d_Mo_turnNow_0 rfl (lv_at hl 0 rfl) ?_
  refine gf C hP 0 0 fkMo rfl (by decide) rfl qf_Mo_7 (gMo_0 _ _) d_Mo_turnNow_1 ?_
  refine lv_bipush (v := 31) hx hb d_Mo_turnNow_4 (by decide) ?_
  refine lv_lconst (v := 1) hx hb d_Mo_turnNow_6 (by decide) ?_
  refine lv_aload_n hx hb d_Mo_turnNow_7 rfl (lv_at hl 0 rfl) ?_
  refine gf C hP 0 0 fkMo rfl (by decide) rfl qf_Mo_7 (gMo_0 _ _) d_Mo_turnNow_8 ?_
  refine lv_bipush (v := 31) hx hb d_Mo_turnNow_11 (by decide) ?_
  refine ldL C hP 1 rfl vi_31_215 cn_31 d_Mo_turnNow_13 ?_
  refine lv_lsub hx hb d_Mo_turnNow_14 ?_
  refine stL C hP hD hS 1 rfl vi_31_215 cn_31 d_Mo_turnNow_15 (fun now_1 enow_1 H locs hP hD hS => ?_)
  have hP : va_P g.1 vwCl (wMo g mo a o now_1 dr pa sa iS bu tq rT wT wo sK sA sB sE oq bS bE bL rp) H := hP
  have hD : va_D (inW (wMo g mo a o now dr pa sa iS bu tq rT wT wo sK sA sB sE oq bS bE bL rp)) (wMo g mo a o now_1 dr pa sa iS bu tq rT wT wo sK sA sB sE oq bS bE bL rp) := hD
  have hz := lett_z hz enow_1
  refine lv_aload_n hx hb d_Mo_turnNow_16 rfl (lv_at hl 0 rfl) ?_
  refine gf C hP 0 0 fkMo rfl (by decide) rfl qf_Mo_7 (gMo_0 _ _) d_Mo_turnNow_17 ?_
  refine lv_bipush (v := 31) hx hb d_Mo_turnNow_20 (by decide) ?_
  refine ldL C hP 1 rfl vi_31_215 cn_31 d_Mo_turnNow_22 ?_
  refine lv_l2i hx hb d_Mo_turnNow_23 rfl ?_
  exact endI1 C hz hP hS d_Mo_turnNow_24
abbrev rm_Mo_restNow : Room := { frames := 9, cells := 0, slots := 0, locals := 207 }
def HL_Mo_restNow_2 (p : Program) (l : Launch) (e : Env) (s : State) (m : MethodId) (args : Array Value) (below : List Frame) (meth : Method) (c : Code) (g : GX) (mo : Nat) (a : Nat → Nat) (ws0 : va_W) (o : IV) (dr : LV) (pa : LV) (sa : LV) (iS : IV) (bu : IV) (tq : IV) (rT : IV) (wT : IV) (wo : Nat → Option Nat) (sK : IV) (sA : IV) (sB : IV) (sE : IV) (oq : IV) (bS : IV) (bE : IV) (bL : IV) (rp : IV) (p1 : Int32) (sp : Int32 → LV → (Int32 × LV)) (ok : Int32 → LV → Prop) : Prop := ∀ (x2p2 : Int32) (nowp2 : LV), ok x2p2 nowp2 → ∀ z : (Int32 × LV), z = sp x2p2 nowp2 → ∀ (H : Heap) (locs : List Loc) (ls : Array Slot), va_P g.1 vwCl (wMo g mo a o nowp2 dr pa sa iS bu tq rT wT wo sK sA sB sE oq bS bE bL rp) H → va_D (inW ws0) (wMo g mo a o nowp2 dr pa sa iS bu tq rT wT wo sK sA sB sE oq bS bE bL rp) → va_S (inW ws0) s.heap H locs → lv_has ls 3 [(0, .ref mo), (1, .int p1), (2, .int x2p2)] → W p l e rm_Mo_restNow s m args below meth c H locs 0 0 (MQ below (CI g ws0 (fun u : LV => wMo g mo a o u dr pa sa iS bu tq rT wT wo sK sA sB sE oq bS bE bL rp) z) args s 0 0 (inW ws0)) (F0 m 2 ls [])
def HL_Mo_restNow_18 (p : Program) (l : Launch) (e : Env) (s : State) (m : MethodId) (args : Array Value) (below : List Frame) (meth : Method) (c : Code) (g : GX) (mo : Nat) (a : Nat → Nat) (ws0 : va_W) (o : IV) (nowp2 : LV) (dr : LV) (pa : LV) (sa : LV) (iS : IV) (bu : IV) (tq : IV) (rT : IV) (wT : IV) (wo : Nat → Option Nat) (sK : IV) (sA : IV) (sB : IV) (sE : IV) (oq : IV) (bS : IV) (bE : IV) (bL : IV) (rp : IV) (sp : (Int32 × LV)) (ok : Prop) : Prop := ∀ (_ : Unit), ok → ∀ z : (Int32 × LV), z = sp → ∀ (H : Heap) (locs : List Loc) (ls : Array Slot), va_P g.1 vwCl (wMo g mo a o nowp2 dr pa sa iS bu tq rT wT wo sK sA sB sE oq bS bE bL rp) H → va_D (inW ws0) (wMo g mo a o nowp2 dr pa sa iS bu tq rT wT wo sK sA sB sE oq bS bE bL rp) → va_S (inW ws0) s.heap H locs → lv_has ls 3 [(0, .ref mo)] → W p l e rm_Mo_restNow s m args below meth c H locs 0 0 (MQ below (CI g ws0 (fun u : LV => wMo g mo a o u dr pa sa iS bu tq rT wT wo sK sA sB sE oq bS bE bL rp) z) args s 0 0 (inW ws0)) (F0 m 18 ls [])
noncomputable def sp_Mo_restNow_18 (nowp2 : LV)   : Int32 × LV := ((nowp2 39).toInt32, nowp2)
def ok_Mo_restNow_18 (nowp2 : LV)    : Prop := True
set_option maxRecDepth 100000 in
set_option maxHeartbeats 4000000 in
theorem k_Mo_restNow_18 {p : Program} {l : Launch} {e : Env} {s : State} {m : MethodId} {args : Array Value} {below : List Frame} {meth : Method} {c : Code} {g : GX} {mo : Nat} {a : Nat → Nat} {ws0 : va_W} {o : IV} {nowp2 : LV} {dr : LV} {pa : LV} {sa : LV} {iS : IV} {bu : IV} {tq : IV} {rT : IV} {wT : IV} {wo : Nat → Option Nat} {sK : IV} {sA : IV} {sB : IV} {sE : IV} {oq : IV} {bS : IV} {bE : IV} {bL : IV} {rp : IV}  (C : Cx p s m args meth c (inW ws0) g "DecadeBridgeModel" b_Mo_restNow (some .int) 3)  : HL_Mo_restNow_18 p l e s m args below meth c g mo a ws0 o nowp2 dr pa sa iS bu tq rT wT wo sK sA sB sE oq bS bE bL rp (sp_Mo_restNow_18 nowp2 ) (ok_Mo_restNow_18 nowp2  ) := by
  intro _ hok z hz H locs ls hP hD hS hl
  obtain ⟨hx, hb, hr, hml, hown, hlk, hts, hK, hZo, hZ⟩ := id C
  unfold sp_Mo_restNow_18 at hz
  refine lv_aload_n hx hb d_Mo_restNow_18 rfl (lv_at hl 0 rfl) ?_
  refine gf C hP 0 0 fkMo rfl (by decide) rfl qf_Mo_7 (gMo_0 _ _) d_Mo_restNow_19 ?_
  refine lv_bipush (v := 39) hx hb d_Mo_restNow_22 (by decide) ?_
  refine ldL C hP 1 rfl vi_39_215 cn_39 d_Mo_restNow_24 ?_
  refine lv_l2i hx hb d_Mo_restNow_25 rfl ?_
  exact endI1 C hz hP hS d_Mo_restNow_26
noncomputable def bd_Mo_restNow_2 (p1 : Int32) (r2 : Int32 → LV → (Int32 × LV)) (x2p2 : Int32) (nowp2 : LV) : Int32 × LV := if p1 ≤ x2p2 then (sp_Mo_restNow_18 nowp2) else (lett (sp_Mo_tick (0 : Int32) nowp2) fun (y3 : LV) => lett (x2p2 + (1 : Int32)) fun (v4 : Int32) => r2 v4 y3)
def okb_Mo_restNow_2 (p1 : Int32) (r2 : Int32 → LV → (Int32 × LV)) (q2 : Int32 → LV → Prop) (x2p2 : Int32) (nowp2 : LV) : Prop := ((p1 ≤ x2p2 → True) ∧ (¬ (p1 ≤ x2p2) → (ok_Mo_tick (0 : Int32) nowp2) ∧ lett (sp_Mo_tick (0 : Int32) nowp2) fun (y3 : LV) => lett (x2p2 + (1 : Int32)) fun (v4 : Int32) => q2 v4 y3))
noncomputable def sp_Mo_restNow_2 (p1 : Int32)  : Nat → Int32 → LV → (Int32 × LV)
  | 0 => fun _ _ => default
  | f + 1 => bd_Mo_restNow_2 p1  (sp_Mo_restNow_2 p1  f)
def ok_Mo_restNow_2 (p1 : Int32)   : Nat → Int32 → LV → Prop
  | 0 => fun _ _ => False
  | f + 1 => okb_Mo_restNow_2 p1  (sp_Mo_restNow_2 p1  f)  (ok_Mo_restNow_2 p1   f)
set_option maxRecDepth 100000 in
set_option maxHeartbeats 4000000 in
theorem kb_Mo_restNow_2 {p : Program} {l : Launch} {e : Env} {s : State} {m : MethodId} {args : Array Value} {below : List Frame} {meth : Method} {c : Code} {g : GX} {mo : Nat} {a : Nat → Nat} {ws0 : va_W} {o : IV} {dr : LV} {pa : LV} {sa : LV} {iS : IV} {bu : IV} {tq : IV} {rT : IV} {wT : IV} {wo : Nat → Option Nat} {sK : IV} {sA : IV} {sB : IV} {sE : IV} {oq : IV} {bS : IV} {bE : IV} {bL : IV} {rp : IV} {p1 : Int32}  (C : Cx p s m args meth c (inW ws0) g "DecadeBridgeModel" b_Mo_restNow (some .int) 3) {r2 : Int32 → LV → (Int32 × LV)} {q2 : Int32 → LV → Prop}  (ih2 : HL_Mo_restNow_2 p l e s m args below meth c g mo a ws0 o dr pa sa iS bu tq rT wT wo sK sA sB sE oq bS bE bL rp p1 r2 q2) : HL_Mo_restNow_2 p l e s m args below meth c g mo a ws0 o dr pa sa iS bu tq rT wT wo sK sA sB sE oq bS bE bL rp p1 (bd_Mo_restNow_2 p1  r2) (okb_Mo_restNow_2 p1  r2  q2) := by
  intro x2p2 nowp2 hok z hz H locs ls hP hD hS hl
  obtain ⟨hx, hb, hr, hml, hown, hlk, hts, hK, hZo, hZ⟩ := id C
  unfold bd_Mo_restNow_2 at hz
  unfold okb_Mo_restNow_2 at hok
  refine lv_iload_n hx hb d_Mo_restNow_2 rfl (lv_at hl 2 rfl) ?_
  refine lv_iload_n hx hb d_Mo_restNow_3 rfl (lv_at hl 1 rfl) ?_
  refine lv_icmp_ge (tgt := 18) hx hb d_Mo_restNow_4 (by decide) (fun c1 => ?_) (fun c1 => ?_)
  · have hz := hz.trans (if_pos c1)
    exact k_Mo_restNow_18 C () trivial _ hz _ _ ls hP hD hS (lv_sub hl [0] rfl)
  · have hz := hz.trans (if_neg c1)
    have hok := hok.2 c1
    refine lv_aload_n hx hb d_Mo_restNow_7 rfl (lv_at hl 0 rfl) ?_
    refine lv_iconst (v := 0) hx hb d_Mo_restNow_8 (by decide) ?_
    have hs2 := hok.1
    have hok := hok.2
    have hB : SubW g (inW ws0) s (wMo g mo a o nowp2 dr pa sa iS bu tq rT wT wo sK sA sB sE oq bS bE bL rp) _ (List.range _) _ _ := (subF hP hD hS)
    refine goVF hB (run_v C mf_Mo_tick qm_Mo_227 (c_Mo_tick l g mo a o nowp2 dr pa sa iS bu tq rT wT wo sK sA sB sE oq bS bE bL rp (0 : Int32) hs2) rfl rfl ⟨Nat.le_of_ble_eq_true rfl, Nat.le_of_ble_eq_true rfl⟩ ⟨Nat.le_of_ble_eq_true rfl, Nat.le_of_ble_eq_true rfl⟩ hB rfl rfl hl rfl rfl (Nat.le_of_ble_eq_true rfl) d_Mo_restNow_9) (fun _ => rfl) (fun y3 ey3 H locs hP hD hS => ?_)
    have hP : va_P g.1 vwCl (wMo g mo a o y3 dr pa sa iS bu tq rT wT wo sK sA sB sE oq bS bE bL rp) H := hP
    have hD : va_D (inW ws0) (wMo g mo a o y3 dr pa sa iS bu tq rT wT wo sK sA sB sE oq bS bE bL rp) := hD
    have hz := lett_z hz ey3
    have hok := lett_o hok ey3
    obtain ⟨v4, ev4⟩ : ∃ y : Int32, y = x2p2 + (1 : Int32) := ⟨_, rfl⟩
    have hz := lett_z hz ev4
    have hok := lett_o hok ev4
    refine lv_iinc (v := v4) (lv' := [(2, .int v4), (0, .ref mo), (1, .int p1)]) hx hb d_Mo_restNow_12 hl (k := 2) rfl (by rw [ev4]; rfl) (by decide) rfl (fun ls hl => ?_)
    refine lv_goto (tgt := 2) hx hb d_Mo_restNow_15 (by decide) ?_
    exact ih2 v4 y3 hok _ hz _ _ ls hP hD hS (lv_sub hl [1, 2, 0] rfl)
theorem k_Mo_restNow_2 {p : Program} {l : Launch} {e : Env} {s : State} {m : MethodId} {args : Array Value} {below : List Frame} {meth : Method} {c : Code} {g : GX} {mo : Nat} {a : Nat → Nat} {ws0 : va_W} {o : IV} {dr : LV} {pa : LV} {sa : LV} {iS : IV} {bu : IV} {tq : IV} {rT : IV} {wT : IV} {wo : Nat → Option Nat} {sK : IV} {sA : IV} {sB : IV} {sE : IV} {oq : IV} {bS : IV} {bE : IV} {bL : IV} {rp : IV} {p1 : Int32}  (C : Cx p s m args meth c (inW ws0) g "DecadeBridgeModel" b_Mo_restNow (some .int) 3) (f : Nat)  : HL_Mo_restNow_2 p l e s m args below meth c g mo a ws0 o dr pa sa iS bu tq rT wT wo sK sA sB sE oq bS bE bL rp p1 (sp_Mo_restNow_2 p1  f) (ok_Mo_restNow_2 p1   f) := by
  induction f with
  | zero => intro x2p2 nowp2 hok; exact False.elim hok
  | succ f ih => exact kb_Mo_restNow_2 C  ih
noncomputable def sp_Mo_restNow (p1 : Int32) (now : LV) : Int32 × LV := sp_Mo_restNow_2 p1 big (0 : Int32) now
def ok_Mo_restNow (p1 : Int32) (now : LV) : Prop := ok_Mo_restNow_2 p1 big (0 : Int32) now
set_option maxRecDepth 100000 in
set_option maxHeartbeats 4000000 in
theorem c_Mo_restNow (l : Launch) (g : GX) (mo : Nat) (a : Nat → Nat) (o : IV) (now : LV) (dr : LV) (pa : LV) (sa : LV) (iS : IV) (bu : IV) (tq : IV) (rT : IV) (wT : IV) (wo : Nat → Option Nat) (sK : IV) (sA : IV) (sB : IV) (sE : IV) (oq : IV) (bS : IV) (bE : IV) (bL : IV) (rp : IV) (p1 : Int32) (hok : ok_Mo_restNow p1 now) : Met l y_Mo_restNow (wsY y_Mo_restNow b_Mo_restNow 3 (some .int)) rm_Mo_restNow (CP g [.ref mo, .int p1] (wMo g mo a o now dr pa sa iS bu tq rT wT wo sK sA sB sE oq bS bE bL rp)) (CI g (wMo g mo a o now dr pa sa iS bu tq rT wT wo sK sA sB sE oq bS bE bL rp) (fun u : LV => wMo g mo a o u dr pa sa iS bu tq rT wT wo sK sA sB sE oq bS bE bL rp) (sp_Mo_restNow p1 now)) 0 0 (inW (wMo g mo a o now dr pa sa iS bu tq rT wT wo sK sA sB sE oq bS bE bL rp)) := by
  refine Met.ofW (cc := b_Mo_restNow) (maxL := 3) (ret := (some .int)) pn_Mo rfl ?_
  intro p e s m args below meth c s₁ B hml hv
  obtain ⟨rfl, C, hP, hD, hS⟩ := enter "DecadeBridgeModel" rfl B hml hv
  obtain ⟨hx, hb, hr, hml, hown, hlk, hts, hK, hZo, hZ⟩ := id C
  refine entryW (lv := [(0, .ref mo), (1, .int p1)]) rfl (Nat.le_of_ble_eq_true rfl) (fun ls hl => ?_)
  obtain ⟨z, hz⟩ : ∃ z, z = sp_Mo_restNow p1 now := ⟨_, rfl⟩
  rw [← hz]
  unfold sp_Mo_restNow at hz
  unfold ok_Mo_restNow at hok
  refine lv_iconst (v := 0) hx hb d_Mo_restNow_0 (by decide) ?_
  refine lv_istore_n (lv' := [(2, .int (0 : Int32)), (0, .ref mo), (1, .int p1)]) hx hb d_Mo_restNow_1 rfl hl (by decide) rfl (fun ls hl => ?_)
  exact k_Mo_restNow_2 C big (0 : Int32) now hok _ hz _ _ ls hP hD hS (lv_sub hl [1, 2, 0] rfl)
abbrev rm_Mo_whyNotRead : Room := { frames := 7, cells := 0, slots := 0, locals := 153 }
noncomputable def sp_Mo_whyNotRead (now : LV) : Int32 := if (now 22) = (0 : Int64) then ((-2 : Int32)) else (lett (sp_Mo_canRead now) fun (y3 : Int32) => if y3 = 0 then ((-3 : Int32)) else ((0 : Int32)))
def ok_Mo_whyNotRead (now : LV) : Prop := (((now 22) = (0 : Int64) → True) ∧ (¬ ((now 22) = (0 : Int64)) → (ok_Mo_canRead now) ∧ True))
set_option maxRecDepth 100000 in
set_option maxHeartbeats 4000000 in
theorem c_Mo_whyNotRead (l : Launch) (g : GX) (mo : Nat) (a : Nat → Nat) (o : IV) (now : LV) (dr : LV) (pa : LV) (sa : LV) (iS : IV) (bu : IV) (tq : IV) (rT : IV) (wT : IV) (wo : Nat → Option Nat) (sK : IV) (sA : IV) (sB : IV) (sE : IV) (oq : IV) (bS : IV) (bE : IV) (bL : IV) (rp : IV)  (hok : ok_Mo_whyNotRead now) : Met l y_Mo_whyNotRead (wsY y_Mo_whyNotRead b_Mo_whyNotRead 1 (some .int)) rm_Mo_whyNotRead (CP g [.ref mo] (wMo g mo a o now dr pa sa iS bu tq rT wT wo sK sA sB sE oq bS bE bL rp)) (CI0 g (wMo g mo a o now dr pa sa iS bu tq rT wT wo sK sA sB sE oq bS bE bL rp) (sp_Mo_whyNotRead now)) 0 0 (inW (wMo g mo a o now dr pa sa iS bu tq rT wT wo sK sA sB sE oq bS bE bL rp)) := by
  refine Met.ofW (cc := b_Mo_whyNotRead) (maxL := 1) (ret := (some .int)) pn_Mo rfl ?_
  intro p e s m args below meth c s₁ B hml hv
  obtain ⟨rfl, C, hP, hD, hS⟩ := enter "DecadeBridgeModel" rfl B hml hv
  obtain ⟨hx, hb, hr, hml, hown, hlk, hts, hK, hZo, hZ⟩ := id C
  refine entryW (lv := [(0, .ref mo)]) rfl (Nat.le_of_ble_eq_true rfl) (fun ls hl => ?_)
  obtain ⟨z, hz⟩ : ∃ z, z = sp_Mo_whyNotRead now := ⟨_, rfl⟩
  rw [← hz]
  unfold sp_Mo_whyNotRead at hz
  unfold ok_Mo_whyNotRead at hok
  refine lv_aload_n hx hb d_Mo_whyNotRead_0 rfl (lv_at hl 0 rfl) ?_
  refine gf C hP 0 0 fkMo rfl (by decide) rfl qf_Mo_7 (gMo_0 _ _) d_Mo_whyNotRead_1 ?_
  refine lv_bipush (v := 22) hx hb d_Mo_whyNotRead_4 (by decide) ?_
  refine ldL C hP 1 rfl vi_22_215 cn_22 d_Mo_whyNotRead_6 ?_
  refine lv_lconst (v := 0) hx hb d_Mo_whyNotRead_7 (by decide) ?_
  refine lc_ne (tgt := 17) hx hb d_Mo_whyNotRead_8 d_Mo_whyNotRead_9 (by decide) (fun c1 => ?_) (fun c1 => ?_)
  · have hz := hz.trans (if_neg c1)
    have hok := hok.2 c1
    refine lv_aload_n hx hb d_Mo_whyNotRead_17 rfl (lv_at hl 0 rfl) ?_
    have hs2 := hok.1
    have hok := hok.2
    have hB : SubW g (inW (wMo g mo a o now dr pa sa iS bu tq rT wT wo sK sA sB sE oq bS bE bL rp)) s (wMo g mo a o now dr pa sa iS bu tq rT wT wo sK sA sB sE oq bS bE bL rp) _ (List.range _) _ _ := (subF hP hD hS)
    refine goI0 hB (run_v C mf_Mo_canRead qm_Mo_234 (c_Mo_canRead l g mo a o now dr pa sa iS bu tq rT wT wo sK sA sB sE oq bS bE bL rp hs2) rfl rfl ⟨Nat.le_of_ble_eq_true rfl, Nat.le_of_ble_eq_true rfl⟩ ⟨Nat.le_of_ble_eq_true rfl, Nat.le_of_ble_eq_true rfl⟩ hB rfl rfl hl rfl rfl (Nat.le_of_ble_eq_true rfl) d_Mo_whyNotRead_18) (fun y3 ey3 H locs hP hS => ?_)
    have hz := lett_z hz ey3
    refine lv_if_eq (tgt := 28) hx hb d_Mo_whyNotRead_21 (by decide) (fun c4 => ?_) (fun c4 => ?_)
    · have hz := hz.trans (if_pos c4)
      refine lv_bipush (v := -3) hx hb d_Mo_whyNotRead_28 (by decide) ?_
      exact endI0 C hz hP hS d_Mo_whyNotRead_30
    · have hz := hz.trans (if_neg c4)
      refine lv_iconst (v := 0) hx hb d_Mo_whyNotRead_24 (by decide) ?_
      refine lv_goto (tgt := 30) hx hb d_Mo_whyNotRead_25 (by decide) ?_
      exact endI0 C hz hP hS d_Mo_whyNotRead_30
  · have hz := hz.trans (if_pos c1)
    refine lv_bipush (v := -2) hx hb d_Mo_whyNotRead_12 (by decide) ?_
    refine lv_goto (tgt := 30) hx hb d_Mo_whyNotRead_14 (by decide) ?_
    exact endI0 C hz hP hS d_Mo_whyNotRead_30
abbrev rm_Mo_setArms : Room := { frames := 2, cells := 0, slots := 0, locals := 49 }
def HL_Mo_setArms_21 (p : Program) (l : Launch) (e : Env) (s : State) (m : MethodId) (args : Array Value) (below : List Frame) (meth : Method) (c : Code) (g : GX) (mo : Nat) (a : Nat → Nat) (ws0 : va_W) (o : IV) (now : LV) (dr : LV) (pa : LV) (sa : LV) (iS : IV) (bu : IV) (tq : IV) (rT : IV) (wT : IV) (wo : Nat → Option Nat) (sK : IV) (sA : IV) (sB : IV) (sE : IV) (oq : IV) (bS : IV) (bE : IV) (bL : IV) (rp : IV) (p1 : Int32) (p2 : Int32) (sp : (Int32 × IV × LV × LV)) (ok : Prop) : Prop := ∀ (_ : Unit), ok → ∀ z : (Int32 × IV × LV × LV), z = sp → ∀ (H : Heap) (locs : List Loc) (ls : Array Slot), va_P g.1 vwCl (wMo g mo a o now dr pa sa iS bu tq rT wT wo sK sA sB sE oq bS bE bL rp) H → va_D (inW ws0) (wMo g mo a o now dr pa sa iS bu tq rT wT wo sK sA sB sE oq bS bE bL rp) → va_S (inW ws0) s.heap H locs → lv_has ls 3 [(0, .ref mo), (1, .int p1), (2, .int p2)] → W p l e rm_Mo_setArms s m args below meth c H locs 0 0 (MQ below (CI g ws0 (fun u : IV × LV × LV => wMo g mo a u.1 u.2.1 dr u.2.2 sa iS bu tq rT wT wo sK sA sB sE oq bS bE bL rp) z) args s 0 0 (inW ws0)) (F0 m 21 ls [.ref mo])
def HL_Mo_setArms_22 (p : Program) (l : Launch) (e : Env) (s : State) (m : MethodId) (args : Array Value) (below : List Frame) (meth : Method) (c : Code) (g : GX) (mo : Nat) (a : Nat → Nat) (ws0 : va_W) (o : IV) (now : LV) (dr : LV) (pa : LV) (sa : LV) (iS : IV) (bu : IV) (tq : IV) (rT : IV) (wT : IV) (wo : Nat → Option Nat) (sK : IV) (sA : IV) (sB : IV) (sE : IV) (oq : IV) (bS : IV) (bE : IV) (bL : IV) (rp : IV) (p1 : Int32) (p2 : Int32) (sp : Int32 → (Int32 × IV × LV × LV)) (ok : Int32 → Prop) : Prop := ∀ (t1p22 : Int32), ok t1p22 → ∀ z : (Int32 × IV × LV × LV), z = sp t1p22 → ∀ (H : Heap) (locs : List Loc) (ls : Array Slot), va_P g.1 vwCl (wMo g mo a o now dr pa sa iS bu tq rT wT wo sK sA sB sE oq bS bE bL rp) H → va_D (inW ws0) (wMo g mo a o now dr pa sa iS bu tq rT wT wo sK sA sB sE oq bS bE bL rp) → va_S (inW ws0) s.heap H locs → lv_has ls 3 [(0, .ref mo), (1, .int p1), (2, .int p2)] → W p l e rm_Mo_setArms s m args below meth c H locs 0 0 (MQ below (CI g ws0 (fun u : IV × LV × LV => wMo g mo a u.1 u.2.1 dr u.2.2 sa iS bu tq rT wT wo sK sA sB sE oq bS bE bL rp) z) args s 0 0 (inW ws0)) (F0 m 22 ls [.int t1p22, .ref mo])
noncomputable def sp_Mo_setArms_22 (o : IV) (now : LV) (pa : LV) (p1 : Int32) (p2 : Int32)  (t1p22 : Int32) : Int32 × IV × LV × LV := lett (upd o 6 t1p22) fun (o_7 : IV) => if (o_7 6) ≤ 0 then (lett (sp_Mo_record o_7 now pa) fun (y10 : IV × LV) => lett (sp_Mo_armsNow p1.toInt64 p2.toInt64 now) fun (y12 : Int32 × LV) => (y12.1, (y10.1, y12.2, y10.2))) else (((0 : Int32), (o_7, now, pa)))
def ok_Mo_setArms_22 (o : IV) (now : LV) (pa : LV) (p1 : Int32) (p2 : Int32)   (t1p22 : Int32) : Prop := lett (upd o 6 t1p22) fun (o_7 : IV) => (((o_7 6) ≤ 0 → (ok_Mo_record o_7 now pa) ∧ lett (sp_Mo_record o_7 now pa) fun (y10 : IV × LV) => (ok_Mo_armsNow p1.toInt64 p2.toInt64 now) ∧ True) ∧ (¬ ((o_7 6) ≤ 0) → True))
set_option maxRecDepth 100000 in
set_option maxHeartbeats 4000000 in
theorem k_Mo_setArms_22 {p : Program} {l : Launch} {e : Env} {s : State} {m : MethodId} {args : Array Value} {below : List Frame} {meth : Method} {c : Code} {g : GX} {mo : Nat} {a : Nat → Nat} {ws0 : va_W} {o : IV} {now : LV} {dr : LV} {pa : LV} {sa : LV} {iS : IV} {bu : IV} {tq : IV} {rT : IV} {wT : IV} {wo : Nat → Option Nat} {sK : IV} {sA : IV} {sB : IV} {sE : IV} {oq : IV} {bS : IV} {bE : IV} {bL : IV} {rp : IV} {p1 : Int32} {p2 : Int32}  (C : Cx p s m args meth c (inW ws0) g "DecadeBridgeModel" b_Mo_setArms (some .int) 3)  : HL_Mo_setArms_22 p l e s m args below meth c g mo a ws0 o now dr pa sa iS bu tq rT wT wo sK sA sB sE oq bS bE bL rp p1 p2 (sp_Mo_setArms_22 o now pa p1 p2 ) (ok_Mo_setArms_22 o now pa p1 p2  ) := by
  intro t1p22 hok z hz H locs ls hP hD hS hl
  obtain ⟨hx, hb, hr, hml, hown, hlk, hts, hK, hZo, hZ⟩ := id C
  unfold sp_Mo_setArms_22 at hz
  unfold ok_Mo_setArms_22 at hok
  refine pfI C hP hD hS 0 6 fkMo rfl (by decide) rfl qf_Mo_107 rfl rfl rfl (Nat.le_of_ble_eq_true rfl) (ff := fun o => fMo a o) (sMo_6 _ _ _) d_Mo_setArms_22 (fun o_7 eo_7 H locs hP hD hS => ?_)
  have hP : va_P g.1 vwCl (wMo g mo a o_7 now dr pa sa iS bu tq rT wT wo sK sA sB sE oq bS bE bL rp) H := hP
  have hD : va_D (inW ws0) (wMo g mo a o_7 now dr pa sa iS bu tq rT wT wo sK sA sB sE oq bS bE bL rp) := hD
  have hz := lett_z hz eo_7
  have hok := lett_o hok eo_7
  refine lv_aload_n hx hb d_Mo_setArms_25 rfl (lv_at hl 0 rfl) ?_
  refine gf C hP 0 6 fkMo rfl (by decide) rfl qf_Mo_107 (gMo_6 _ _) d_Mo_setArms_26 ?_
  refine lv_if_le (tgt := 34) hx hb d_Mo_setArms_29 (by decide) (fun c8 => ?_) (fun c8 => ?_)
  · have hz := hz.trans (if_pos c8)
    have hok := hok.1 c8
    refine lv_aload_n hx hb d_Mo_setArms_34 rfl (lv_at hl 0 rfl) ?_
    have hs9 := hok.1
    have hok := hok.2
    have hB : SubW g (inW ws0) s (wMo g mo a o_7 now dr pa sa iS bu tq rT wT wo sK sA sB sE oq bS bE bL rp) _ (List.range _) _ _ := (subF hP hD hS)
    refine goVF hB (run_v C mf_Mo_record qm_Mo_484 (c_Mo_record l g mo a o_7 now dr pa sa iS bu tq rT wT wo sK sA sB sE oq bS bE bL rp hs9) rfl rfl ⟨Nat.le_of_ble_eq_true rfl, Nat.le_of_ble_eq_true rfl⟩ ⟨Nat.le_of_ble_eq_true rfl, Nat.le_of_ble_eq_true rfl⟩ hB rfl rfl hl rfl rfl (Nat.le_of_ble_eq_true rfl) d_Mo_setArms_35) (fun _ => rfl) (fun y10 ey10 H locs hP hD hS => ?_)
    have hP : va_P g.1 vwCl (wMo g mo a y10.1 now dr y10.2 sa iS bu tq rT wT wo sK sA sB sE oq bS bE bL rp) H := hP
    have hD : va_D (inW ws0) (wMo g mo a y10.1 now dr y10.2 sa iS bu tq rT wT wo sK sA sB sE oq bS bE bL rp) := hD
    have hz := lett_z hz ey10
    have hok := lett_o hok ey10
    refine lv_aload_n hx hb d_Mo_setArms_38 rfl (lv_at hl 0 rfl) ?_
    refine lv_iload_n hx hb d_Mo_setArms_39 rfl (lv_at hl 1 rfl) ?_
    refine lv_i2l hx hb d_Mo_setArms_40 rfl ?_
    refine lv_iload_n hx hb d_Mo_setArms_41 rfl (lv_at hl 2 rfl) ?_
    refine lv_i2l hx hb d_Mo_setArms_42 rfl ?_
    have hs11 := hok.1
    have hok := hok.2
    have hB : SubW g (inW ws0) s (wMo g mo a y10.1 now dr y10.2 sa iS bu tq rT wT wo sK sA sB sE oq bS bE bL rp) _ (List.range _) _ _ := (subF hP hD hS)
    refine goIF hB (run_v C mf_Mo_armsNow qm_Mo_487 (c_Mo_armsNow l g mo a y10.1 now dr y10.2 sa iS bu tq rT wT wo sK sA sB sE oq bS bE bL rp p1.toInt64 p2.toInt64 hs11) rfl rfl ⟨Nat.le_of_ble_eq_true rfl, Nat.le_of_ble_eq_true rfl⟩ ⟨Nat.le_of_ble_eq_true rfl, Nat.le_of_ble_eq_true rfl⟩ hB rfl rfl hl rfl rfl (Nat.le_of_ble_eq_true rfl) d_Mo_setArms_43) (fun _ => rfl) (fun y12 ey12 H locs hP hD hS => ?_)
    have hP : va_P g.1 vwCl (wMo g mo a y10.1 y12.2 dr y10.2 sa iS bu tq rT wT wo sK sA sB sE oq bS bE bL rp) H := hP
    have hD : va_D (inW ws0) (wMo g mo a y10.1 y12.2 dr y10.2 sa iS bu tq rT wT wo sK sA sB sE oq bS bE bL rp) := hD
    have hz := lett_z hz ey12
    exact endI1 C hz hP hS d_Mo_setArms_46
  · have hz := hz.trans (if_neg c8)
    refine lv_iconst (v := 0) hx hb d_Mo_setArms_32 (by decide) ?_
    exact endI1 C hz hP hS d_Mo_setArms_33
noncomputable def sp_Mo_setArms_21 (o : IV) (now : LV) (pa : LV) (p1 : Int32) (p2 : Int32)   : Int32 × IV × LV × LV := sp_Mo_setArms_22 o now pa p1 p2 (1 : Int32)
def ok_Mo_setArms_21 (o : IV) (now : LV) (pa : LV) (p1 : Int32) (p2 : Int32)    : Prop := ok_Mo_setArms_22 o now pa p1 p2 (1 : Int32)
set_option maxRecDepth 100000 in
set_option maxHeartbeats 4000000 in
theorem k_Mo_setArms_21 {p : Program} {l : Launch} {e : Env} {s : State} {m : MethodId} {args : Array Value} {below : List Frame} {meth : Method} {c : Code} {g : GX} {mo : Nat} {a : Nat → Nat} {ws0 : va_W} {o : IV} {now : LV} {dr : LV} {pa : LV} {sa : LV} {iS : IV} {bu : IV} {tq : IV} {rT : IV} {wT : IV} {wo : Nat → Option Nat} {sK : IV} {sA : IV} {sB : IV} {sE : IV} {oq : IV} {bS : IV} {bE : IV} {bL : IV} {rp : IV} {p1 : Int32} {p2 : Int32}  (C : Cx p s m args meth c (inW ws0) g "DecadeBridgeModel" b_Mo_setArms (some .int) 3)  : HL_Mo_setArms_21 p l e s m args below meth c g mo a ws0 o now dr pa sa iS bu tq rT wT wo sK sA sB sE oq bS bE bL rp p1 p2 (sp_Mo_setArms_21 o now pa p1 p2 ) (ok_Mo_setArms_21 o now pa p1 p2  ) := by
  intro _ hok z hz H locs ls hP hD hS hl
  obtain ⟨hx, hb, hr, hml, hown, hlk, hts, hK, hZo, hZ⟩ := id C
  unfold sp_Mo_setArms_21 at hz
  unfold ok_Mo_setArms_21 at hok
  refine lv_iconst (v := 1) hx hb d_Mo_setArms_21 (by decide) ?_
  exact k_Mo_setArms_22 C (1 : Int32) hok _ hz _ _ ls hP hD hS hl
noncomputable def sp_Mo_setArms (p1 : Int32) (p2 : Int32) (o : IV) (now : LV) (pa : LV) : Int32 × IV × LV × LV := lett (sp_Mo_isKind p1.toInt64) fun (y2 : Int32) => if y2 = 0 then (sp_Mo_setArms_21 o now pa p1 p2) else (lett (sp_Mo_isKind p2.toInt64) fun (y5 : Int32) => if y5 = 0 then (sp_Mo_setArms_21 o now pa p1 p2) else (sp_Mo_setArms_22 o now pa p1 p2 (0 : Int32)))
def ok_Mo_setArms (p1 : Int32) (p2 : Int32) (o : IV) (now : LV) (pa : LV) : Prop := (ok_Mo_isKind p1.toInt64) ∧ lett (sp_Mo_isKind p1.toInt64) fun (y2 : Int32) => ((y2 = 0 → ok_Mo_setArms_21 o now pa p1 p2) ∧ (¬ (y2 = 0) → (ok_Mo_isKind p2.toInt64) ∧ lett (sp_Mo_isKind p2.toInt64) fun (y5 : Int32) => ((y5 = 0 → ok_Mo_setArms_21 o now pa p1 p2) ∧ (¬ (y5 = 0) → ok_Mo_setArms_22 o now pa p1 p2 (0 : Int32)))))
set_option maxRecDepth 100000 in
set_option maxHeartbeats 4000000 in
theorem c_Mo_setArms (l : Launch) (g : GX) (mo : Nat) (a : Nat → Nat) (o : IV) (now : LV) (dr : LV) (pa : LV) (sa : LV) (iS : IV) (bu : IV) (tq : IV) (rT : IV) (wT : IV) (wo : Nat → Option Nat) (sK : IV) (sA : IV) (sB : IV) (sE : IV) (oq : IV) (bS : IV) (bE : IV) (bL : IV) (rp : IV) (p1 : Int32) (p2 : Int32) (hok : ok_Mo_setArms p1 p2 o now pa) : Met l y_Mo_setArms (wsY y_Mo_setArms b_Mo_setArms 3 (some .int)) rm_Mo_setArms (CP g [.ref mo, .int p1, .int p2] (wMo g mo a o now dr pa sa iS bu tq rT wT wo sK sA sB sE oq bS bE bL rp)) (CI g (wMo g mo a o now dr pa sa iS bu tq rT wT wo sK sA sB sE oq bS bE bL rp) (fun u : IV × LV × LV => wMo g mo a u.1 u.2.1 dr u.2.2 sa iS bu tq rT wT wo sK sA sB sE oq bS bE bL rp) (sp_Mo_setArms p1 p2 o now pa)) 0 0 (inW (wMo g mo a o now dr pa sa iS bu tq rT wT wo sK sA sB sE oq bS bE bL rp)) := by
  refine Met.ofW (cc := b_Mo_setArms) (maxL := 3) (ret := (some .int)) pn_Mo rfl ?_
  intro p e s m args below meth c s₁ B hml hv
  obtain ⟨rfl, C, hP, hD, hS⟩ := enter "DecadeBridgeModel" rfl B hml hv
  obtain ⟨hx, hb, hr, hml, hown, hlk, hts, hK, hZo, hZ⟩ := id C
  refine entryW (lv := [(0, .ref mo), (1, .int p1), (2, .int p2)]) rfl (Nat.le_of_ble_eq_true rfl) (fun ls hl => ?_)
  obtain ⟨z, hz⟩ : ∃ z, z = sp_Mo_setArms p1 p2 o now pa := ⟨_, rfl⟩
  rw [← hz]
  unfold sp_Mo_setArms at hz
  unfold ok_Mo_setArms at hok
  refine lv_aload_n hx hb d_Mo_setArms_0 rfl (lv_at hl 0 rfl) ?_
  refine lv_iload_n hx hb d_Mo_setArms_1 rfl (lv_at hl 1 rfl) ?_
  refine lv_i2l hx hb d_Mo_setArms_2 rfl ?_
  have hs1 := hok.1
  have hok := hok.2
  have hB : SubW g (inW (wMo g mo a o now dr pa sa iS bu tq rT wT wo sK sA sB sE oq bS bE bL rp)) s (wMo g mo a o now dr pa sa iS bu tq rT wT wo sK sA sB sE oq bS bE bL rp) _ (List.range _) _ _ := (subF hP hD hS)
  refine goI0 hB (run_s C mf_Mo_isKind qm_Mo_423 (c_Mo_isKind l g mo a o now dr pa sa iS bu tq rT wT wo sK sA sB sE oq bS bE bL rp p1.toInt64 hs1) rfl rfl ⟨Nat.le_of_ble_eq_true rfl, Nat.le_of_ble_eq_true rfl⟩ ⟨Nat.le_of_ble_eq_true rfl, Nat.le_of_ble_eq_true rfl⟩ hB hl rfl rfl (Nat.le_of_ble_eq_true rfl) d_Mo_setArms_3) (fun y2 ey2 H locs hP hS => ?_)
  have hz := lett_z hz ey2
  have hok := lett_o hok ey2
  refine lv_if_eq (tgt := 21) hx hb d_Mo_setArms_6 (by decide) (fun c3 => ?_) (fun c3 => ?_)
  · have hz := hz.trans (if_pos c3)
    have hok := hok.1 c3
    exact k_Mo_setArms_21 C () hok _ hz _ _ ls hP hD hS hl
  · have hz := hz.trans (if_neg c3)
    have hok := hok.2 c3
    refine lv_iload_n hx hb d_Mo_setArms_9 rfl (lv_at hl 2 rfl) ?_
    refine lv_i2l hx hb d_Mo_setArms_10 rfl ?_
    have hs4 := hok.1
    have hok := hok.2
    have hB : SubW g (inW (wMo g mo a o now dr pa sa iS bu tq rT wT wo sK sA sB sE oq bS bE bL rp)) s (wMo g mo a o now dr pa sa iS bu tq rT wT wo sK sA sB sE oq bS bE bL rp) _ (List.range _) _ _ := (subF hP hD hS)
    refine goI0 hB (run_s C mf_Mo_isKind qm_Mo_423 (c_Mo_isKind l g mo a o now dr pa sa iS bu tq rT wT wo sK sA sB sE oq bS bE bL rp p2.toInt64 hs4) rfl rfl ⟨Nat.le_of_ble_eq_true rfl, Nat.le_of_ble_eq_true rfl⟩ ⟨Nat.le_of_ble_eq_true rfl, Nat.le_of_ble_eq_true rfl⟩ hB hl rfl rfl (Nat.le_of_ble_eq_true rfl) d_Mo_setArms_11) (fun y5 ey5 H locs hP hS => ?_)
    have hz := lett_z hz ey5
    have hok := lett_o hok ey5
    refine lv_if_eq (tgt := 21) hx hb d_Mo_setArms_14 (by decide) (fun c6 => ?_) (fun c6 => ?_)
    · have hz := hz.trans (if_pos c6)
      have hok := hok.1 c6
      exact k_Mo_setArms_21 C () hok _ hz _ _ ls hP hD hS hl
    · have hz := hz.trans (if_neg c6)
      have hok := hok.2 c6
      refine lv_iconst (v := 0) hx hb d_Mo_setArms_17 (by decide) ?_
      refine lv_goto (tgt := 22) hx hb d_Mo_setArms_18 (by decide) ?_
      exact k_Mo_setArms_22 C (0 : Int32) hok _ hz _ _ ls hP hD hS hl
abbrev rm_Mo_setVolts : Room := { frames := 2, cells := 0, slots := 0, locals := 45 }
def HL_Mo_setVolts_18 (p : Program) (l : Launch) (e : Env) (s : State) (m : MethodId) (args : Array Value) (below : List Frame) (meth : Method) (c : Code) (g : GX) (mo : Nat) (a : Nat → Nat) (ws0 : va_W) (o : IV) (now : LV) (dr : LV) (pa : LV) (sa : LV) (iS : IV) (bu : IV) (tq : IV) (rT : IV) (wT : IV) (wo : Nat → Option Nat) (sK : IV) (sA : IV) (sB : IV) (sE : IV) (oq : IV) (bS : IV) (bE : IV) (bL : IV) (rp : IV) (p1 : Int32) (sp : Int32 → (Int32 × IV × LV × LV)) (ok : Int32 → Prop) : Prop := ∀ (t1p18 : Int32), ok t1p18 → ∀ z : (Int32 × IV × LV × LV), z = sp t1p18 → ∀ (H : Heap) (locs : List Loc) (ls : Array Slot), va_P g.1 vwCl (wMo g mo a o now dr pa sa iS bu tq rT wT wo sK sA sB sE oq bS bE bL rp) H → va_D (inW ws0) (wMo g mo a o now dr pa sa iS bu tq rT wT wo sK sA sB sE oq bS bE bL rp) → va_S (inW ws0) s.heap H locs → lv_has ls 2 [(0, .ref mo), (1, .int p1)] → W p l e rm_Mo_setVolts s m args below meth c H locs 0 0 (MQ below (CI g ws0 (fun u : IV × LV × LV => wMo g mo a u.1 u.2.1 dr u.2.2 sa iS bu tq rT wT wo sK sA sB sE oq bS bE bL rp) z) args s 0 0 (inW ws0)) (F0 m 18 ls [.int t1p18, .ref mo])
noncomputable def sp_Mo_setVolts_18 (o : IV) (now : LV) (pa : LV) (p1 : Int32)  (t1p18 : Int32) : Int32 × IV × LV × LV := lett (upd o 6 t1p18) fun (o_3 : IV) => if (o_3 6) ≤ 0 then (lett (sp_Mo_record o_3 now pa) fun (y6 : IV × LV) => lett (sp_Mo_change (22 : Int32) p1.toInt64 now) fun (y8 : Int32 × LV) => (y8.1, (y6.1, y8.2, y6.2))) else (((0 : Int32), (o_3, now, pa)))
def ok_Mo_setVolts_18 (o : IV) (now : LV) (pa : LV) (p1 : Int32)   (t1p18 : Int32) : Prop := lett (upd o 6 t1p18) fun (o_3 : IV) => (((o_3 6) ≤ 0 → (ok_Mo_record o_3 now pa) ∧ lett (sp_Mo_record o_3 now pa) fun (y6 : IV × LV) => (ok_Mo_change (22 : Int32) p1.toInt64) ∧ True) ∧ (¬ ((o_3 6) ≤ 0) → True))
set_option maxRecDepth 100000 in
set_option maxHeartbeats 4000000 in
theorem k_Mo_setVolts_18 {p : Program} {l : Launch} {e : Env} {s : State} {m : MethodId} {args : Array Value} {below : List Frame} {meth : Method} {c : Code} {g : GX} {mo : Nat} {a : Nat → Nat} {ws0 : va_W} {o : IV} {now : LV} {dr : LV} {pa : LV} {sa : LV} {iS : IV} {bu : IV} {tq : IV} {rT : IV} {wT : IV} {wo : Nat → Option Nat} {sK : IV} {sA : IV} {sB : IV} {sE : IV} {oq : IV} {bS : IV} {bE : IV} {bL : IV} {rp : IV} {p1 : Int32}  (C : Cx p s m args meth c (inW ws0) g "DecadeBridgeModel" b_Mo_setVolts (some .int) 2)  : HL_Mo_setVolts_18 p l e s m args below meth c g mo a ws0 o now dr pa sa iS bu tq rT wT wo sK sA sB sE oq bS bE bL rp p1 (sp_Mo_setVolts_18 o now pa p1 ) (ok_Mo_setVolts_18 o now pa p1  ) := by
  intro t1p18 hok z hz H locs ls hP hD hS hl
  obtain ⟨hx, hb, hr, hml, hown, hlk, hts, hK, hZo, hZ⟩ := id C
  unfold sp_Mo_setVolts_18 at hz
  unfold ok_Mo_setVolts_18 at hok
  refine pfI C hP hD hS 0 6 fkMo rfl (by decide) rfl qf_Mo_107 rfl rfl rfl (Nat.le_of_ble_eq_true rfl) (ff := fun o => fMo a o) (sMo_6 _ _ _) d_Mo_setVolts_18 (fun o_3 eo_3 H locs hP hD hS => ?_)
  have hP : va_P g.1 vwCl (wMo g mo a o_3 now dr pa sa iS bu tq rT wT wo sK sA sB sE oq bS bE bL rp) H := hP
  have hD : va_D (inW ws0) (wMo g mo a o_3 now dr pa sa iS bu tq rT wT wo sK sA sB sE oq bS bE bL rp) := hD
  have hz := lett_z hz eo_3
  have hok := lett_o hok eo_3
  refine lv_aload_n hx hb d_Mo_setVolts_21 rfl (lv_at hl 0 rfl) ?_
  refine gf C hP 0 6 fkMo rfl (by decide) rfl qf_Mo_107 (gMo_6 _ _) d_Mo_setVolts_22 ?_
  refine lv_if_le (tgt := 30) hx hb d_Mo_setVolts_25 (by decide) (fun c4 => ?_) (fun c4 => ?_)
  · have hz := hz.trans (if_pos c4)
    have hok := hok.1 c4
    refine lv_aload_n hx hb d_Mo_setVolts_30 rfl (lv_at hl 0 rfl) ?_
    have hs5 := hok.1
    have hok := hok.2
    have hB : SubW g (inW ws0) s (wMo g mo a o_3 now dr pa sa iS bu tq rT wT wo sK sA sB sE oq bS bE bL rp) _ (List.range _) _ _ := (subF hP hD hS)
    refine goVF hB (run_v C mf_Mo_record qm_Mo_484 (c_Mo_record l g mo a o_3 now dr pa sa iS bu tq rT wT wo sK sA sB sE oq bS bE bL rp hs5) rfl rfl ⟨Nat.le_of_ble_eq_true rfl, Nat.le_of_ble_eq_true rfl⟩ ⟨Nat.le_of_ble_eq_true rfl, Nat.le_of_ble_eq_true rfl⟩ hB rfl rfl hl rfl rfl (Nat.le_of_ble_eq_true rfl) d_Mo_setVolts_31) (fun _ => rfl) (fun y6 ey6 H locs hP hD hS => ?_)
    have hP : va_P g.1 vwCl (wMo g mo a y6.1 now dr y6.2 sa iS bu tq rT wT wo sK sA sB sE oq bS bE bL rp) H := hP
    have hD : va_D (inW ws0) (wMo g mo a y6.1 now dr y6.2 sa iS bu tq rT wT wo sK sA sB sE oq bS bE bL rp) := hD
    have hz := lett_z hz ey6
    have hok := lett_o hok ey6
    refine lv_aload_n hx hb d_Mo_setVolts_34 rfl (lv_at hl 0 rfl) ?_
    refine lv_bipush (v := 22) hx hb d_Mo_setVolts_35 (by decide) ?_
    refine lv_iload_n hx hb d_Mo_setVolts_37 rfl (lv_at hl 1 rfl) ?_
    refine lv_i2l hx hb d_Mo_setVolts_38 rfl ?_
    have hs7 := hok.1
    have hok := hok.2
    have hB : SubW g (inW ws0) s (wMo g mo a y6.1 now dr y6.2 sa iS bu tq rT wT wo sK sA sB sE oq bS bE bL rp) _ (List.range _) _ _ := (subF hP hD hS)
    refine goIF hB (run_v C mf_Mo_change qm_Mo_480 (c_Mo_change l g mo a y6.1 now dr y6.2 sa iS bu tq rT wT wo sK sA sB sE oq bS bE bL rp (22 : Int32) p1.toInt64 hs7) rfl rfl ⟨Nat.le_of_ble_eq_true rfl, Nat.le_of_ble_eq_true rfl⟩ ⟨Nat.le_of_ble_eq_true rfl, Nat.le_of_ble_eq_true rfl⟩ hB rfl rfl hl rfl rfl (Nat.le_of_ble_eq_true rfl) d_Mo_setVolts_39) (fun _ => rfl) (fun y8 ey8 H locs hP hD hS => ?_)
    have hP : va_P g.1 vwCl (wMo g mo a y6.1 y8.2 dr y6.2 sa iS bu tq rT wT wo sK sA sB sE oq bS bE bL rp) H := hP
    have hD : va_D (inW ws0) (wMo g mo a y6.1 y8.2 dr y6.2 sa iS bu tq rT wT wo sK sA sB sE oq bS bE bL rp) := hD
    have hz := lett_z hz ey8
    exact endI1 C hz hP hS d_Mo_setVolts_42
  · have hz := hz.trans (if_neg c4)
    refine lv_iconst (v := 0) hx hb d_Mo_setVolts_28 (by decide) ?_
    exact endI1 C hz hP hS d_Mo_setVolts_29
noncomputable def sp_Mo_setVolts (p1 : Int32) (o : IV) (now : LV) (pa : LV) : Int32 × IV × LV × LV := lett (sp_Mo_in p1.toInt64 (0 : Int64) (20000 : Int64)) fun (y1 : Int32) => if y1 = 0 then (sp_Mo_setVolts_18 o now pa p1 (1 : Int32)) else (sp_Mo_setVolts_18 o now pa p1 (0 : Int32))
def ok_Mo_setVolts (p1 : Int32) (o : IV) (now : LV) (pa : LV) : Prop := lett (sp_Mo_in p1.toInt64 (0 : Int64) (20000 : Int64)) fun (y1 : Int32) => ((y1 = 0 → ok_Mo_setVolts_18 o now pa p1 (1 : Int32)) ∧ (¬ (y1 = 0) → ok_Mo_setVolts_18 o now pa p1 (0 : Int32)))
set_option maxRecDepth 100000 in
set_option maxHeartbeats 4000000 in
theorem c_Mo_setVolts (l : Launch) (g : GX) (mo : Nat) (a : Nat → Nat) (o : IV) (now : LV) (dr : LV) (pa : LV) (sa : LV) (iS : IV) (bu : IV) (tq : IV) (rT : IV) (wT : IV) (wo : Nat → Option Nat) (sK : IV) (sA : IV) (sB : IV) (sE : IV) (oq : IV) (bS : IV) (bE : IV) (bL : IV) (rp : IV) (p1 : Int32) (hok : ok_Mo_setVolts p1 o now pa) : Met l y_Mo_setVolts (wsY y_Mo_setVolts b_Mo_setVolts 2 (some .int)) rm_Mo_setVolts (CP g [.ref mo, .int p1] (wMo g mo a o now dr pa sa iS bu tq rT wT wo sK sA sB sE oq bS bE bL rp)) (CI g (wMo g mo a o now dr pa sa iS bu tq rT wT wo sK sA sB sE oq bS bE bL rp) (fun u : IV × LV × LV => wMo g mo a u.1 u.2.1 dr u.2.2 sa iS bu tq rT wT wo sK sA sB sE oq bS bE bL rp) (sp_Mo_setVolts p1 o now pa)) 0 0 (inW (wMo g mo a o now dr pa sa iS bu tq rT wT wo sK sA sB sE oq bS bE bL rp)) := by
  refine Met.ofW (cc := b_Mo_setVolts) (maxL := 2) (ret := (some .int)) pn_Mo rfl ?_
  intro p e s m args below meth c s₁ B hml hv
  obtain ⟨rfl, C, hP, hD, hS⟩ := enter "DecadeBridgeModel" rfl B hml hv
  obtain ⟨hx, hb, hr, hml, hown, hlk, hts, hK, hZo, hZ⟩ := id C
  refine entryW (lv := [(0, .ref mo), (1, .int p1)]) rfl (Nat.le_of_ble_eq_true rfl) (fun ls hl => ?_)
  obtain ⟨z, hz⟩ : ∃ z, z = sp_Mo_setVolts p1 o now pa := ⟨_, rfl⟩
  rw [← hz]
  unfold sp_Mo_setVolts at hz
  unfold ok_Mo_setVolts at hok
  refine lv_aload_n hx hb d_Mo_setVolts_0 rfl (lv_at hl 0 rfl) ?_
  refine lv_iload_n hx hb d_Mo_setVolts_1 rfl (lv_at hl 1 rfl) ?_
  refine lv_i2l hx hb d_Mo_setVolts_2 rfl ?_
  refine lv_lconst (v := 0) hx hb d_Mo_setVolts_3 (by decide) ?_
  refine lv_ldc2 hx hb hown (hts _ qk_Mo_356) d_Mo_setVolts_4 ?_
  have hB : SubW g (inW (wMo g mo a o now dr pa sa iS bu tq rT wT wo sK sA sB sE oq bS bE bL rp)) s (wMo g mo a o now dr pa sa iS bu tq rT wT wo sK sA sB sE oq bS bE bL rp) _ (List.range _) _ _ := (subF hP hD hS)
  refine goI0 hB (run_s C mf_Mo_in qm_Mo_118 (c_Mo_in l g mo a o now dr pa sa iS bu tq rT wT wo sK sA sB sE oq bS bE bL rp p1.toInt64 (0 : Int64) (20000 : Int64)) rfl rfl ⟨Nat.le_of_ble_eq_true rfl, Nat.le_of_ble_eq_true rfl⟩ ⟨Nat.le_of_ble_eq_true rfl, Nat.le_of_ble_eq_true rfl⟩ hB hl rfl rfl (Nat.le_of_ble_eq_true rfl) d_Mo_setVolts_7) (fun y1 ey1 H locs hP hS => ?_)
  have hz := lett_z hz ey1
  have hok := lett_o hok ey1
  refine lv_if_eq (tgt := 17) hx hb d_Mo_setVolts_10 (by decide) (fun c2 => ?_) (fun c2 => ?_)
  · have hz := hz.trans (if_pos c2)
    have hok := hok.1 c2
    refine lv_iconst (v := 1) hx hb d_Mo_setVolts_17 (by decide) ?_
    exact k_Mo_setVolts_18 C (1 : Int32) hok _ hz _ _ ls hP hD hS hl
  · have hz := hz.trans (if_neg c2)
    have hok := hok.2 c2
    refine lv_iconst (v := 0) hx hb d_Mo_setVolts_13 (by decide) ?_
    refine lv_goto (tgt := 18) hx hb d_Mo_setVolts_14 (by decide) ?_
    exact k_Mo_setVolts_18 C (0 : Int32) hok _ hz _ _ ls hP hD hS hl
abbrev rm_Mo_setTo : Room := { frames := 4, cells := 0, slots := 0, locals := 86 }
def HL_Mo_setTo_10 (p : Program) (l : Launch) (e : Env) (s : State) (m : MethodId) (args : Array Value) (below : List Frame) (meth : Method) (c : Code) (g : GX) (mo : Nat) (a : Nat → Nat) (ws0 : va_W) (o : IV) (now : LV) (dr : LV) (pa : LV) (sa : LV) (iS : IV) (bu : IV) (tq : IV) (rT : IV) (wT : IV) (wo : Nat → Option Nat) (sK : IV) (sA : IV) (sB : IV) (sE : IV) (oq : IV) (bS : IV) (bE : IV) (bL : IV) (rp : IV) (p1 : Int32) (sp : Int32 → (Int32 × IV × LV × LV)) (ok : Int32 → Prop) : Prop := ∀ (t1p10 : Int32), ok t1p10 → ∀ z : (Int32 × IV × LV × LV), z = sp t1p10 → ∀ (H : Heap) (locs : List Loc) (ls : Array Slot), va_P g.1 vwCl (wMo g mo a o now dr pa sa iS bu tq rT wT wo sK sA sB sE oq bS bE bL rp) H → va_D (inW ws0) (wMo g mo a o now dr pa sa iS bu tq rT wT wo sK sA sB sE oq bS bE bL rp) → va_S (inW ws0) s.heap H locs → lv_has ls 2 [(0, .ref mo), (1, .int p1)] → W p l e rm_Mo_setTo s m args below meth c H locs 0 0 (MQ below (CI g ws0 (fun u : IV × LV × LV => wMo g mo a u.1 u.2.1 dr u.2.2 sa iS bu tq rT wT wo sK sA sB sE oq bS bE bL rp) z) args s 0 0 (inW ws0)) (F0 m 10 ls [.int t1p10, .ref mo])
noncomputable def sp_Mo_setTo_10 (o : IV) (p1 : Int32) (now : LV) (pa : LV)  (t1p10 : Int32) : Int32 × IV × LV × LV := lett (upd o 6 t1p10) fun (o_2 : IV) => if (o_2 6) ≤ 0 then (lett (sp_Mo_isSetting p1 now) fun (y5 : Int32) => if y5 = 0 then (((-2 : Int32), (o_2, now, pa))) else (lett (sp_Mo_record o_2 now pa) fun (y8 : IV × LV) => lett (sp_Mo_setNow p1 now) fun (y10 : Int32 × LV) => (y10.1, (y8.1, y10.2, y8.2)))) else (((0 : Int32), (o_2, now, pa)))
def ok_Mo_setTo_10 (o : IV) (p1 : Int32) (now : LV) (pa : LV)   (t1p10 : Int32) : Prop := lett (upd o 6 t1p10) fun (o_2 : IV) => (((o_2 6) ≤ 0 → (ok_Mo_isSetting p1 now) ∧ lett (sp_Mo_isSetting p1 now) fun (y5 : Int32) => ((y5 = 0 → True) ∧ (¬ (y5 = 0) → (ok_Mo_record o_2 now pa) ∧ lett (sp_Mo_record o_2 now pa) fun (y8 : IV × LV) => (ok_Mo_setNow p1 now) ∧ True))) ∧ (¬ ((o_2 6) ≤ 0) → True))
set_option maxRecDepth 100000 in
set_option maxHeartbeats 4000000 in
theorem k_Mo_setTo_10 {p : Program} {l : Launch} {e : Env} {s : State} {m : MethodId} {args : Array Value} {below : List Frame} {meth : Method} {c : Code} {g : GX} {mo : Nat} {a : Nat → Nat} {ws0 : va_W} {o : IV} {now : LV} {dr : LV} {pa : LV} {sa : LV} {iS : IV} {bu : IV} {tq : IV} {rT : IV} {wT : IV} {wo : Nat → Option Nat} {sK : IV} {sA : IV} {sB : IV} {sE : IV} {oq : IV} {bS : IV} {bE : IV} {bL : IV} {rp : IV} {p1 : Int32}  (C : Cx p s m args meth c (inW ws0) g "DecadeBridgeModel" b_Mo_setTo (some .int) 2)  : HL_Mo_setTo_10 p l e s m args below meth c g mo a ws0 o now dr pa sa iS bu tq rT wT wo sK sA sB sE oq bS bE bL rp p1 (sp_Mo_setTo_10 o p1 now pa ) (ok_Mo_setTo_10 o p1 now pa  ) := by
  intro t1p10 hok z hz H locs ls hP hD hS hl
  obtain ⟨hx, hb, hr, hml, hown, hlk, hts, hK, hZo, hZ⟩ := id C
  unfold sp_Mo_setTo_10 at hz
  unfold ok_Mo_setTo_10 at hok
  refine pfI C hP hD hS 0 6 fkMo rfl (by decide) rfl qf_Mo_107 rfl rfl rfl (Nat.le_of_ble_eq_true rfl) (ff := fun o => fMo a o) (sMo_6 _ _ _) d_Mo_setTo_10 (fun o_2 eo_2 H locs hP hD hS => ?_)
  have hP : va_P g.1 vwCl (wMo g mo a o_2 now dr pa sa iS bu tq rT wT wo sK sA sB sE oq bS bE bL rp) H := hP
  have hD : va_D (inW ws0) (wMo g mo a o_2 now dr pa sa iS bu tq rT wT wo sK sA sB sE oq bS bE bL rp) := hD
  have hz := lett_z hz eo_2
  have hok := lett_o hok eo_2
  refine lv_aload_n hx hb d_Mo_setTo_13 rfl (lv_at hl 0 rfl) ?_
  refine gf C hP 0 6 fkMo rfl (by decide) rfl qf_Mo_107 (gMo_6 _ _) d_Mo_setTo_14 ?_
  refine lv_if_le (tgt := 22) hx hb d_Mo_setTo_17 (by decide) (fun c3 => ?_) (fun c3 => ?_)
  · have hz := hz.trans (if_pos c3)
    have hok := hok.1 c3
    refine lv_aload_n hx hb d_Mo_setTo_22 rfl (lv_at hl 0 rfl) ?_
    refine lv_iload_n hx hb d_Mo_setTo_23 rfl (lv_at hl 1 rfl) ?_
    have hs4 := hok.1
    have hok := hok.2
    have hB : SubW g (inW ws0) s (wMo g mo a o_2 now dr pa sa iS bu tq rT wT wo sK sA sB sE oq bS bE bL rp) _ (List.range _) _ _ := (subF hP hD hS)
    refine goI0 hB (run_v C mf_Mo_isSetting qm_Mo_426 (c_Mo_isSetting l g mo a o_2 now dr pa sa iS bu tq rT wT wo sK sA sB sE oq bS bE bL rp p1 hs4) rfl rfl ⟨Nat.le_of_ble_eq_true rfl, Nat.le_of_ble_eq_true rfl⟩ ⟨Nat.le_of_ble_eq_true rfl, Nat.le_of_ble_eq_true rfl⟩ hB rfl rfl hl rfl rfl (Nat.le_of_ble_eq_true rfl) d_Mo_setTo_24) (fun y5 ey5 H locs hP hS => ?_)
    have hz := lett_z hz ey5
    have hok := lett_o hok ey5
    refine lv_if_ne (tgt := 33) hx hb d_Mo_setTo_27 (by decide) (fun c6 => ?_) (fun c6 => ?_)
    · have hz := hz.trans (if_neg c6)
      have hok := hok.2 c6
      refine lv_aload_n hx hb d_Mo_setTo_33 rfl (lv_at hl 0 rfl) ?_
      have hs7 := hok.1
      have hok := hok.2
      have hB : SubW g (inW ws0) s (wMo g mo a o_2 now dr pa sa iS bu tq rT wT wo sK sA sB sE oq bS bE bL rp) _ (List.range _) _ _ := (subF hP hD hS)
      refine goVF hB (run_v C mf_Mo_record qm_Mo_484 (c_Mo_record l g mo a o_2 now dr pa sa iS bu tq rT wT wo sK sA sB sE oq bS bE bL rp hs7) rfl rfl ⟨Nat.le_of_ble_eq_true rfl, Nat.le_of_ble_eq_true rfl⟩ ⟨Nat.le_of_ble_eq_true rfl, Nat.le_of_ble_eq_true rfl⟩ hB rfl rfl hl rfl rfl (Nat.le_of_ble_eq_true rfl) d_Mo_setTo_34) (fun _ => rfl) (fun y8 ey8 H locs hP hD hS => ?_)
      have hP : va_P g.1 vwCl (wMo g mo a y8.1 now dr y8.2 sa iS bu tq rT wT wo sK sA sB sE oq bS bE bL rp) H := hP
      have hD : va_D (inW ws0) (wMo g mo a y8.1 now dr y8.2 sa iS bu tq rT wT wo sK sA sB sE oq bS bE bL rp) := hD
      have hz := lett_z hz ey8
      have hok := lett_o hok ey8
      refine lv_aload_n hx hb d_Mo_setTo_37 rfl (lv_at hl 0 rfl) ?_
      refine lv_iload_n hx hb d_Mo_setTo_38 rfl (lv_at hl 1 rfl) ?_
      have hs9 := hok.1
      have hok := hok.2
      have hB : SubW g (inW ws0) s (wMo g mo a y8.1 now dr y8.2 sa iS bu tq rT wT wo sK sA sB sE oq bS bE bL rp) _ (List.range _) _ _ := (subF hP hD hS)
      refine goIF hB (run_v C mf_Mo_setNow qm_Mo_491 (c_Mo_setNow l g mo a y8.1 now dr y8.2 sa iS bu tq rT wT wo sK sA sB sE oq bS bE bL rp p1 hs9) rfl rfl ⟨Nat.le_of_ble_eq_true rfl, Nat.le_of_ble_eq_true rfl⟩ ⟨Nat.le_of_ble_eq_true rfl, Nat.le_of_ble_eq_true rfl⟩ hB rfl rfl hl rfl rfl (Nat.le_of_ble_eq_true rfl) d_Mo_setTo_39) (fun _ => rfl) (fun y10 ey10 H locs hP hD hS => ?_)
      have hP : va_P g.1 vwCl (wMo g mo a y8.1 y10.2 dr y8.2 sa iS bu tq rT wT wo sK sA sB sE oq bS bE bL rp) H := hP
      have hD : va_D (inW ws0) (wMo g mo a y8.1 y10.2 dr y8.2 sa iS bu tq rT wT wo sK sA sB sE oq bS bE bL rp) := hD
      have hz := lett_z hz ey10
      exact endI1 C hz hP hS d_Mo_setTo_42
    · have hz := hz.trans (if_pos c6)
      refine lv_bipush (v := -2) hx hb d_Mo_setTo_30 (by decide) ?_
      exact endI1 C hz hP hS d_Mo_setTo_32
  · have hz := hz.trans (if_neg c3)
    refine lv_iconst (v := 0) hx hb d_Mo_setTo_20 (by decide) ?_
    exact endI1 C hz hP hS d_Mo_setTo_21
noncomputable def sp_Mo_setTo (p1 : Int32) (o : IV) (now : LV) (pa : LV) : Int32 × IV × LV × LV := if p1 < 0 then (sp_Mo_setTo_10 o p1 now pa (1 : Int32)) else (sp_Mo_setTo_10 o p1 now pa (0 : Int32))
def ok_Mo_setTo (p1 : Int32) (o : IV) (now : LV) (pa : LV) : Prop := ((p1 < 0 → ok_Mo_setTo_10 o p1 now pa (1 : Int32)) ∧ (¬ (p1 < 0) → ok_Mo_setTo_10 o p1 now pa (0 : Int32)))
set_option maxRecDepth 100000 in
set_option maxHeartbeats 4000000 in
theorem c_Mo_setTo (l : Launch) (g : GX) (mo : Nat) (a : Nat → Nat) (o : IV) (now : LV) (dr : LV) (pa : LV) (sa : LV) (iS : IV) (bu : IV) (tq : IV) (rT : IV) (wT : IV) (wo : Nat → Option Nat) (sK : IV) (sA : IV) (sB : IV) (sE : IV) (oq : IV) (bS : IV) (bE : IV) (bL : IV) (rp : IV) (p1 : Int32) (hok : ok_Mo_setTo p1 o now pa) : Met l y_Mo_setTo (wsY y_Mo_setTo b_Mo_setTo 2 (some .int)) rm_Mo_setTo (CP g [.ref mo, .int p1] (wMo g mo a o now dr pa sa iS bu tq rT wT wo sK sA sB sE oq bS bE bL rp)) (CI g (wMo g mo a o now dr pa sa iS bu tq rT wT wo sK sA sB sE oq bS bE bL rp) (fun u : IV × LV × LV => wMo g mo a u.1 u.2.1 dr u.2.2 sa iS bu tq rT wT wo sK sA sB sE oq bS bE bL rp) (sp_Mo_setTo p1 o now pa)) 0 0 (inW (wMo g mo a o now dr pa sa iS bu tq rT wT wo sK sA sB sE oq bS bE bL rp)) := by
  refine Met.ofW (cc := b_Mo_setTo) (maxL := 2) (ret := (some .int)) pn_Mo rfl ?_
  intro p e s m args below meth c s₁ B hml hv
  obtain ⟨rfl, C, hP, hD, hS⟩ := enter "DecadeBridgeModel" rfl B hml hv
  obtain ⟨hx, hb, hr, hml, hown, hlk, hts, hK, hZo, hZ⟩ := id C
  refine entryW (lv := [(0, .ref mo), (1, .int p1)]) rfl (Nat.le_of_ble_eq_true rfl) (fun ls hl => ?_)
  obtain ⟨z, hz⟩ : ∃ z, z = sp_Mo_setTo p1 o now pa := ⟨_, rfl⟩
  rw [← hz]
  unfold sp_Mo_setTo at hz
  unfold ok_Mo_setTo at hok
  refine lv_aload_n hx hb d_Mo_setTo_0 rfl (lv_at hl 0 rfl) ?_
  refine lv_iload_n hx hb d_Mo_setTo_1 rfl (lv_at hl 1 rfl) ?_
  refine lv_if_lt (tgt := 9) hx hb d_Mo_setTo_2 (by decide) (fun c1 => ?_) (fun c1 => ?_)
  · have hz := hz.trans (if_pos c1)
    have hok := hok.1 c1
    refine lv_iconst (v := 1) hx hb d_Mo_setTo_9 (by decide) ?_
    exact k_Mo_setTo_10 C (1 : Int32) hok _ hz _ _ ls hP hD hS hl
  · have hz := hz.trans (if_neg c1)
    have hok := hok.2 c1
    refine lv_iconst (v := 0) hx hb d_Mo_setTo_5 (by decide) ?_
    refine lv_goto (tgt := 10) hx hb d_Mo_setTo_6 (by decide) ?_
    exact k_Mo_setTo_10 C (0 : Int32) hok _ hz _ _ ls hP hD hS hl
