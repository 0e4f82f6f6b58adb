abbrev rm_Mo_part : Room := { frames := 5, cells := 0, slots := 0, locals := 113 }
def HL_Mo_part_16 (p : Program) (l : Launch) (e : Env) (s : State) (m : MethodId) (args : Array Value) (below : List Frame) (meth : Method) (c : Code) (g : GX) (mo : Nat) (a : Nat → Nat) (ws0 : va_W) (o_1 : IV) (now : LV) (dr : LV) (pa : LV) (sa : LV) (iS : IV) (bu : IV) (tq : IV) (rT : IV) (wT : IV) (sK : IV) (sA : IV) (sB : IV) (sE : IV) (oq : IV) (bS : IV) (bE : IV) (bL : IV) (rp : IV) (p1 : Int32) (p2 : Int32) (sp : Int32 → (Int32 × IV)) (ok : Int32 → Prop) : Prop := ∀ (t0p16 : Int32), ok t0p16 → ∀ z : (Int32 × IV), z = sp t0p16 → ∀ (H : Heap) (locs : List Loc) (ls : Array Slot), va_P g.1 vwCl (wMo g mo a o_1 now dr pa sa iS bu tq rT wT sK sA sB sE oq bS bE bL rp) H → va_D (inW ws0) (wMo g mo a o_1 now dr pa sa iS bu tq rT wT sK sA sB sE oq bS bE bL rp) → va_S (inW ws0) s.heap H locs → lv_has ls 4 [(0, .ref mo), (1, .int p1), (2, .int p2)] → W p l e rm_Mo_part s m args below meth c H locs 0 0 (MQ below (CI g ws0 (fun u : IV => wMo g mo a u now dr pa sa iS bu tq rT wT sK sA sB sE oq bS bE bL rp) z) args s 0 0 (inW ws0)) (F0 m 16 ls [.int t0p16])
def HL_Mo_part_168 (p : Program) (l : Launch) (e : Env) (s : State) (m : MethodId) (args : Array Value) (below : List Frame) (meth : Method) (c : Code) (g : GX) (mo : Nat) (a : Nat → Nat) (ws0 : va_W) (o_1 : IV) (now : LV) (dr : LV) (pa : LV) (sa : LV) (iS : IV) (bu : IV) (tq : IV) (rT : IV) (wT : IV) (sK : IV) (sA : IV) (sB : IV) (sE : IV) (oq : IV) (bS : IV) (bE : IV) (bL : IV) (rp : IV) (sp : Int64 → (Int32 × IV)) (ok : Int64 → Prop) : Prop := ∀ (t0p168 : Int64), ok t0p168 → ∀ z : (Int32 × IV), z = sp t0p168 → ∀ (H : Heap) (locs : List Loc) (ls : Array Slot), va_P g.1 vwCl (wMo g mo a o_1 now dr pa sa iS bu tq rT wT sK sA sB sE oq bS bE bL rp) H → va_D (inW ws0) (wMo g mo a o_1 now dr pa sa iS bu tq rT wT sK sA sB sE oq bS bE bL rp) → va_S (inW ws0) s.heap H locs → lv_has ls 4 [] → W p l e rm_Mo_part s m args below meth c H locs 0 0 (MQ below (CI g ws0 (fun u : IV => wMo g mo a u now dr pa sa iS bu tq rT wT sK sA sB sE oq bS bE bL rp) z) args s 0 0 (inW ws0)) (F0 m 168 ls [.long t0p168])
def HL_Mo_part_132 (p : Program) (l : Launch) (e : Env) (s : State) (m : MethodId) (args : Array Value) (below : List Frame) (meth : Method) (c : Code) (g : GX) (mo : Nat) (a : Nat → Nat) (ws0 : va_W) (o_1 : IV) (now : LV) (dr : LV) (pa : LV) (sa : LV) (iS : IV) (bu : IV) (tq : IV) (rT : IV) (wT : IV) (sK : IV) (sA : IV) (sB : IV) (sE : IV) (oq : IV) (bS : IV) (bE : IV) (bL : IV) (rp : IV) (sp : Int32 → (Int32 × IV)) (ok : Int32 → Prop) : Prop := ∀ (t1p132 : Int32), ok t1p132 → ∀ z : (Int32 × IV), z = sp t1p132 → ∀ (H : Heap) (locs : List Loc) (ls : Array Slot), va_P g.1 vwCl (wMo g mo a o_1 now dr pa sa iS bu tq rT wT sK sA sB sE oq bS bE bL rp) H → va_D (inW ws0) (wMo g mo a o_1 now dr pa sa iS bu tq rT wT sK sA sB sE oq bS bE bL rp) → va_S (inW ws0) s.heap H locs → lv_has ls 4 [] → W p l e rm_Mo_part s m args below meth c H locs 0 0 (MQ below (CI g ws0 (fun u : IV => wMo g mo a u now dr pa sa iS bu tq rT wT sK sA sB sE oq bS bE bL rp) z) args s 0 0 (inW ws0)) (F0 m 132 ls [.int t1p132, .ref (a 0)])
def HL_Mo_part_103 (p : Program) (l : Launch) (e : Env) (s : State) (m : MethodId) (args : Array Value) (below : List Frame) (meth : Method) (c : Code) (g : GX) (mo : Nat) (a : Nat → Nat) (ws0 : va_W) (o_1 : IV) (now : LV) (dr : LV) (pa : LV) (sa : LV) (iS : IV) (bu : IV) (tq : IV) (rT : IV) (wT : IV) (sK : IV) (sA : IV) (sB : IV) (sE : IV) (oq : IV) (bS : IV) (bE : IV) (bL : IV) (rp : IV) (sp : Int64 → (Int32 × IV)) (ok : Int64 → Prop) : Prop := ∀ (t0p103 : Int64), ok t0p103 → ∀ z : (Int32 × IV), z = sp t0p103 → ∀ (H : Heap) (locs : List Loc) (ls : Array Slot), va_P g.1 vwCl (wMo g mo a o_1 now dr pa sa iS bu tq rT wT sK sA sB sE oq bS bE bL rp) H → va_D (inW ws0) (wMo g mo a o_1 now dr pa sa iS bu tq rT wT sK sA sB sE oq bS bE bL rp) → va_S (inW ws0) s.heap H locs → lv_has ls 4 [] → W p l e rm_Mo_part s m args below meth c H locs 0 0 (MQ below (CI g ws0 (fun u : IV => wMo g mo a u now dr pa sa iS bu tq rT wT sK sA sB sE oq bS bE bL rp) z) args s 0 0 (inW ws0)) (F0 m 103 ls [.long t0p103])
def HL_Mo_part_82 (p : Program) (l : Launch) (e : Env) (s : State) (m : MethodId) (args : Array Value) (below : List Frame) (meth : Method) (c : Code) (g : GX) (mo : Nat) (a : Nat → Nat) (ws0 : va_W) (o_1 : IV) (now : LV) (dr : LV) (pa : LV) (sa : LV) (iS : IV) (bu : IV) (tq : IV) (rT : IV) (wT : IV) (sK : IV) (sA : IV) (sB : IV) (sE : IV) (oq : IV) (bS : IV) (bE : IV) (bL : IV) (rp : IV) (sp : Int64 → (Int32 × IV)) (ok : Int64 → Prop) : Prop := ∀ (t0p82 : Int64), ok t0p82 → ∀ z : (Int32 × IV), z = sp t0p82 → ∀ (H : Heap) (locs : List Loc) (ls : Array Slot), va_P g.1 vwCl (wMo g mo a o_1 now dr pa sa iS bu tq rT wT sK sA sB sE oq bS bE bL rp) H → va_D (inW ws0) (wMo g mo a o_1 now dr pa sa iS bu tq rT wT sK sA sB sE oq bS bE bL rp) → va_S (inW ws0) s.heap H locs → lv_has ls 4 [] → W p l e rm_Mo_part s m args below meth c H locs 0 0 (MQ below (CI g ws0 (fun u : IV => wMo g mo a u now dr pa sa iS bu tq rT wT sK sA sB sE oq bS bE bL rp) z) args s 0 0 (inW ws0)) (F0 m 82 ls [.long t0p82])
noncomputable def sp_Mo_part_82 (o_1 : IV)  (t0p82 : Int64) : Int32 × IV := (t0p82.toInt32, o_1)
def ok_Mo_part_82 (o_1 : IV)   (t0p82 : Int64) : Prop := True
set_option maxRecDepth 100000 in
set_option maxHeartbeats 4000000 in
theorem k_Mo_part_82 {p : Program} {l : Launch} {e : Env} {s : State} {m : MethodId} {args : Array Value} {below : List Frame} {meth : Method} {c : Code} {g : GX} {mo : Nat} {a : Nat → Nat} {ws0 : va_W} {o_1 : IV} {now : LV} {dr : LV} {pa : LV} {sa : LV} {iS : IV} {bu : IV} {tq : IV} {rT : IV} {wT : IV} {sK : IV} {sA : IV} {sB : IV} {sE : IV} {oq : IV} {bS : IV} {bE : IV} {bL : IV} {rp : IV}  (C : Cx p s m args meth c (inW ws0) g "DecadeBridgeModel" b_Mo_part (some .int) 4)  : HL_Mo_part_82 p l e s m args below meth c g mo a ws0 o_1 now dr pa sa iS bu tq rT wT sK sA sB sE oq bS bE bL rp (sp_Mo_part_82 o_1 ) (ok_Mo_part_82 o_1  ) := by
  intro t0p82 hok z hz H locs ls hP hD hS hl
  obtain ⟨hx, hb, hr, hml, hown, hlk, hts, hK, hZo, hZ⟩ := id C
  unfold sp_Mo_part_82 at hz
  refine lv_l2i hx hb d_Mo_part_82 rfl ?_
  exact endI1 C hz hP hS d_Mo_part_83
noncomputable def sp_Mo_part_103 (o_1 : IV)  (t0p103 : Int64) : Int32 × IV := (t0p103.toInt32, o_1)
def ok_Mo_part_103 (o_1 : IV)   (t0p103 : Int64) : Prop := True
set_option maxRecDepth 100000 in
set_option maxHeartbeats 4000000 in
theorem k_Mo_part_103 {p : Program} {l : Launch} {e : Env} {s : State} {m : MethodId} {args : Array Value} {below : List Frame} {meth : Method} {c : Code} {g : GX} {mo : Nat} {a : Nat → Nat} {ws0 : va_W} {o_1 : IV} {now : LV} {dr : LV} {pa : LV} {sa : LV} {iS : IV} {bu : IV} {tq : IV} {rT : IV} {wT : IV} {sK : IV} {sA : IV} {sB : IV} {sE : IV} {oq : IV} {bS : IV} {bE : IV} {bL : IV} {rp : IV}  (C : Cx p s m args meth c (inW ws0) g "DecadeBridgeModel" b_Mo_part (some .int) 4)  : HL_Mo_part_103 p l e s m args below meth c g mo a ws0 o_1 now dr pa sa iS bu tq rT wT sK sA sB sE oq bS bE bL rp (sp_Mo_part_103 o_1 ) (ok_Mo_part_103 o_1  ) := by
  intro t0p103 hok z hz H locs ls hP hD hS hl
  obtain ⟨hx, hb, hr, hml, hown, hlk, hts, hK, hZo, hZ⟩ := id C
  unfold sp_Mo_part_103 at hz
  refine lv_l2i hx hb d_Mo_part_103 rfl ?_
  exact endI1 C hz hP hS d_Mo_part_104
noncomputable def sp_Mo_part_132 (now : LV) (o_1 : IV)  (t1p132 : Int32) : Int32 × IV := ((now t1p132.toNatClampNeg).toInt32, o_1)
def ok_Mo_part_132 (now : LV) (o_1 : IV)   (t1p132 : Int32) : Prop := (vp_in t1p132 215) ∧ True
set_option maxRecDepth 100000 in
set_option maxHeartbeats 4000000 in
theorem k_Mo_part_132 {p : Program} {l : Launch} {e : Env} {s : State} {m : MethodId} {args : Array Value} {below : List Frame} {meth : Method} {c : Code} {g : GX} {mo : Nat} {a : Nat → Nat} {ws0 : va_W} {o_1 : IV} {now : LV} {dr : LV} {pa : LV} {sa : LV} {iS : IV} {bu : IV} {tq : IV} {rT : IV} {wT : IV} {sK : IV} {sA : IV} {sB : IV} {sE : IV} {oq : IV} {bS : IV} {bE : IV} {bL : IV} {rp : IV}  (C : Cx p s m args meth c (inW ws0) g "DecadeBridgeModel" b_Mo_part (some .int) 4)  : HL_Mo_part_132 p l e s m args below meth c g mo a ws0 o_1 now dr pa sa iS bu tq rT wT sK sA sB sE oq bS bE bL rp (sp_Mo_part_132 now o_1 ) (ok_Mo_part_132 now o_1  ) := by
  intro t1p132 hok z hz H locs ls hP hD hS hl
  obtain ⟨hx, hb, hr, hml, hown, hlk, hts, hK, hZo, hZ⟩ := id C
  unfold sp_Mo_part_132 at hz
  unfold ok_Mo_part_132 at hok
  have hs26 := hok.1
  have hok := hok.2
  refine ldL C hP 1 rfl hs26 rfl d_Mo_part_132 ?_
  refine lv_l2i hx hb d_Mo_part_133 rfl ?_
  exact endI1 C hz hP hS d_Mo_part_134
noncomputable def sp_Mo_part_168 (o_1 : IV)  (t0p168 : Int64) : Int32 × IV := (t0p168.toInt32, o_1)
def ok_Mo_part_168 (o_1 : IV)   (t0p168 : Int64) : Prop := True
set_option maxRecDepth 100000 in
set_option maxHeartbeats 4000000 in
theorem k_Mo_part_168 {p : Program} {l : Launch} {e : Env} {s : State} {m : MethodId} {args : Array Value} {below : List Frame} {meth : Method} {c : Code} {g : GX} {mo : Nat} {a : Nat → Nat} {ws0 : va_W} {o_1 : IV} {now : LV} {dr : LV} {pa : LV} {sa : LV} {iS : IV} {bu : IV} {tq : IV} {rT : IV} {wT : IV} {sK : IV} {sA : IV} {sB : IV} {sE : IV} {oq : IV} {bS : IV} {bE : IV} {bL : IV} {rp : IV}  (C : Cx p s m args meth c (inW ws0) g "DecadeBridgeModel" b_Mo_part (some .int) 4)  : HL_Mo_part_168 p l e s m args below meth c g mo a ws0 o_1 now dr pa sa iS bu tq rT wT sK sA sB sE oq bS bE bL rp (sp_Mo_part_168 o_1 ) (ok_Mo_part_168 o_1  ) := by
  intro t0p168 hok z hz H locs ls hP hD hS hl
  obtain ⟨hx, hb, hr, hml, hown, hlk, hts, hK, hZo, hZ⟩ := id C
  unfold sp_Mo_part_168 at hz
  refine lv_l2i hx hb d_Mo_part_168 rfl ?_
  exact endI1 C hz hP hS d_Mo_part_169
noncomputable def sp_Mo_part_16 (p2 : Int32) (p1 : Int32) (o_1 : IV) (now : LV)  (t0p16 : Int32) : Int32 × IV := if p2 = (0 : Int32) then (if p1 = 0 then (sp_Mo_part_82 o_1 (now 12)) else (lett (sp_Mo_setting now) fun (y5 : Int32) => lett (sp_Mo_coldBy y5 now) fun (y7 : Int64) => sp_Mo_part_82 o_1 y7)) else (if p2 = (1 : Int32) then (if p1 = 0 then (lett (sp_Mo_unknownWarm now) fun (y9 : Int64) => sp_Mo_part_103 o_1 y9) else (lett (sp_Mo_setting now) fun (y11 : Int32) => lett (sp_Mo_boxWarm y11 now) fun (y13 : Int64) => sp_Mo_part_103 o_1 y13)) else (if p2 = (2 : Int32) then (((now ((t0p16 + p2) - (2 : Int32)).toNatClampNeg).toInt32, o_1)) else (if p2 = (3 : Int32) then (((now ((t0p16 + p2) - (2 : Int32)).toNatClampNeg).toInt32, o_1)) else (if p2 = (4 : Int32) then (((now ((t0p16 + p2) - (2 : Int32)).toNatClampNeg).toInt32, o_1)) else (if p2 = (5 : Int32) then (if p1 = 0 then (sp_Mo_part_132 now o_1 (37 : Int32)) else (sp_Mo_part_132 now o_1 (38 : Int32))) else (if p2 = (6 : Int32) then (if p1 = 0 then (lett (sp_Mo_unknownSide (now 32) now) fun (y19 : Int64) => sp_Mo_part_168 o_1 y19) else (lett (sp_Mo_setting now) fun (y21 : Int32) => lett (sp_Mo_boxSide y21 (now 32) now) fun (y23 : Int64) => sp_Mo_part_168 o_1 y23)) else (lett (sp_Mo_raise (1 : Int32) o_1) fun (y24 : Int32 × IV) => (y24.1, y24.2))))))))
def ok_Mo_part_16 (p2 : Int32) (p1 : Int32) (o_1 : IV) (now : LV)   (t0p16 : Int32) : Prop := ((p2 = (0 : Int32) → ((p1 = 0 → True) ∧ (¬ (p1 = 0) → (ok_Mo_setting now) ∧ lett (sp_Mo_setting now) fun (y5 : Int32) => (ok_Mo_coldBy y5 now) ∧ True))) ∧ (¬ (p2 = (0 : Int32)) → ((p2 = (1 : Int32) → ((p1 = 0 → True) ∧ (¬ (p1 = 0) → (ok_Mo_setting now) ∧ lett (sp_Mo_setting now) fun (y11 : Int32) => (ok_Mo_boxWarm y11 now) ∧ True))) ∧ (¬ (p2 = (1 : Int32)) → ((p2 = (2 : Int32) → (vp_in ((t0p16 + p2) - (2 : Int32)) 215) ∧ True) ∧ (¬ (p2 = (2 : Int32)) → ((p2 = (3 : Int32) → (vp_in ((t0p16 + p2) - (2 : Int32)) 215) ∧ True) ∧ (¬ (p2 = (3 : Int32)) → ((p2 = (4 : Int32) → (vp_in ((t0p16 + p2) - (2 : Int32)) 215) ∧ True) ∧ (¬ (p2 = (4 : Int32)) → ((p2 = (5 : Int32) → ((p1 = 0 → ok_Mo_part_132 now o_1 (37 : Int32)) ∧ (¬ (p1 = 0) → ok_Mo_part_132 now o_1 (38 : Int32)))) ∧ (¬ (p2 = (5 : Int32)) → ((p2 = (6 : Int32) → ((p1 = 0 → True) ∧ (¬ (p1 = 0) → (ok_Mo_setting now) ∧ lett (sp_Mo_setting now) fun (y21 : Int32) => (ok_Mo_boxSide y21 (now 32) now) ∧ True))) ∧ (¬ (p2 = (6 : Int32)) → True))))))))))))))
set_option maxRecDepth 100000 in
set_option maxHeartbeats 4000000 in
theorem k_Mo_part_16 {p : Program} {l : Launch} {e : Env} {s : State} {m : MethodId} {args : Array Value} {below : List Frame} {meth : Method} {c : Code} {g : GX} {mo : Nat} {a : Nat → Nat} {ws0 : va_W} {o_1 : IV} {now : LV} {dr : LV} {pa : LV} {sa : LV} {iS : IV} {bu : IV} {tq : IV} {rT : IV} {wT : IV} {sK : IV} {sA : IV} {sB : IV} {sE : IV} {oq : IV} {bS : IV} {bE : IV} {bL : IV} {rp : IV} {p1 : Int32} {p2 : Int32}  (C : Cx p s m args meth c (inW ws0) g "DecadeBridgeModel" b_Mo_part (some .int) 4)  : HL_Mo_part_16 p l e s m args below meth c g mo a ws0 o_1 now dr pa sa iS bu tq rT wT sK sA sB sE oq bS bE bL rp p1 p2 (sp_Mo_part_16 p2 p1 o_1 now ) (ok_Mo_part_16 p2 p1 o_1 now  ) := by
  intro t0p16 hok z hz H locs ls hP hD hS hl
  obtain ⟨hx, hb, hr, hml, hown, hlk, hts, hK, hZo, hZ⟩ := id C
  unfold sp_Mo_part_16 at hz
  unfold ok_Mo_part_16 at hok
  refine lv_istore_n (lv' := [(3, .int t0p16), (0, .ref mo), (1, .int p1), (2, .int p2)]) hx hb d_Mo_part_16 rfl hl (by decide) rfl (fun ls hl => ?_)
  refine lv_iload_n hx hb d_Mo_part_17 rfl (lv_at hl 3 rfl) ?_
  by_cases c25_0 : p2 = (0 : Int32)
  · have hz := hz.trans (if_pos c25_0)
    have hok := hok.1 c25_0
    refine lv_tableIn (x := p2) (off := 42) (tgt := 60) hx hb d_Mo_part_18 (by rw [c25_0]; decide) (by rw [c25_0]; decide) (by rw [c25_0]; rfl) (by decide) ?_
    refine lv_iload_n hx hb d_Mo_part_60 rfl (lv_at hl 2 rfl) ?_
    refine lv_if_eq (tgt := 75) hx hb d_Mo_part_61 (by decide) (fun c3 => ?_) (fun c3 => ?_)
    · have hz := hz.trans (if_pos c3)
      refine lv_aload_n hx hb d_Mo_part_75 rfl (lv_at hl 1 rfl) ?_
      refine gf C hP 0 0 fkMo rfl (by decide) rfl qf_Mo_7 (gMo_0 _ _) d_Mo_part_76 ?_
      refine lv_bipush (v := 12) hx hb d_Mo_part_79 (by decide) ?_
      refine ldL C hP 1 rfl vi_12_215 cn_12 d_Mo_part_81 ?_
      exact k_Mo_part_82 C (now 12) trivial _ hz _ _ ls hP hD hS (lv_sub hl [] rfl)
    · have hz := hz.trans (if_neg c3)
      have hok := hok.2 c3
      refine lv_aload_n hx hb d_Mo_part_64 rfl (lv_at hl 1 rfl) ?_
      refine lv_aload_n hx hb d_Mo_part_65 rfl (lv_at hl 1 rfl) ?_
      have hs4 := hok.1
      have hok := hok.2
      have hB : SubW g (inW ws0) s (wMo g mo a o_1 now dr pa sa iS bu tq rT wT sK sA sB sE oq bS bE bL rp) _ (List.range _) _ _ := (subF hP hD hS)
      refine goI0 hB (run_v C mf_Mo_setting qm_Mo_176 (c_Mo_setting l g mo a o_1 now dr pa sa iS bu tq rT wT sK sA sB sE oq bS bE bL rp hs4) rfl rfl ⟨Nat.le_of_ble_eq_true rfl, Nat.le_of_ble_eq_true rfl⟩ ⟨Nat.le_of_ble_eq_true rfl, Nat.le_of_ble_eq_true rfl⟩ hB rfl rfl hl rfl rfl (Nat.le_of_ble_eq_true rfl) d_Mo_part_66) (fun y5 ey5 H locs hP hS => ?_)
      have hz := lett_z hz ey5
      have hok := lett_o hok ey5
      have hs6 := hok.1
      have hok := hok.2
      have hB : SubW g (inW ws0) s (wMo g mo a o_1 now dr pa sa iS bu tq rT wT sK sA sB sE oq bS bE bL rp) _ (List.range _) _ _ := (subF hP hD hS)
      refine goL0 hB (run_v C mf_Mo_coldBy qm_Mo_143 (c_Mo_coldBy l g mo a o_1 now dr pa sa iS bu tq rT wT sK sA sB sE oq bS bE bL rp y5 hs6) rfl rfl ⟨Nat.le_of_ble_eq_true rfl, Nat.le_of_ble_eq_true rfl⟩ ⟨Nat.le_of_ble_eq_true rfl, Nat.le_of_ble_eq_true rfl⟩ hB rfl rfl hl rfl rfl (Nat.le_of_ble_eq_true rfl) d_Mo_part_69) (fun y7 ey7 H locs hP hS => ?_)
      have hz := lett_z hz ey7
      refine lv_goto (tgt := 82) hx hb d_Mo_part_72 (by decide) ?_
      exact k_Mo_part_82 C y7 trivial _ hz _ _ ls hP hD hS (lv_sub hl [] rfl)
  have hz := hz.trans (if_neg c25_0)
  have hok := hok.2 c25_0
  by_cases c25_1 : p2 = (1 : Int32)
  · have hz := hz.trans (if_pos c25_1)
    have hok := hok.1 c25_1
    refine lv_tableIn (x := p2) (off := 66) (tgt := 84) hx hb d_Mo_part_18 (by rw [c25_1]; decide) (by rw [c25_1]; decide) (by rw [c25_1]; rfl) (by decide) ?_
    refine lv_iload_n hx hb d_Mo_part_84 rfl (lv_at hl 2 rfl) ?_
    refine lv_if_eq (tgt := 99) hx hb d_Mo_part_85 (by decide) (fun c8 => ?_) (fun c8 => ?_)
    · have hz := hz.trans (if_pos c8)
      refine lv_aload_n hx hb d_Mo_part_99 rfl (lv_at hl 1 rfl) ?_
      have hB : SubW g (inW ws0) s (wMo g mo a o_1 now dr pa sa iS bu tq rT wT sK sA sB sE oq bS bE bL rp) _ (List.range _) _ _ := (subF hP hD hS)
      refine goL0 hB (run_v C mf_Mo_unknownWarm qm_Mo_146 (c_Mo_unknownWarm l g mo a o_1 now dr pa sa iS bu tq rT wT sK sA sB sE oq bS bE bL rp) rfl rfl ⟨Nat.le_of_ble_eq_true rfl, Nat.le_of_ble_eq_true rfl⟩ ⟨Nat.le_of_ble_eq_true rfl, Nat.le_of_ble_eq_true rfl⟩ hB rfl rfl hl rfl rfl (Nat.le_of_ble_eq_true rfl) d_Mo_part_100) (fun y9 ey9 H locs hP hS => ?_)
      have hz := lett_z hz ey9
      exact k_Mo_part_103 C y9 trivial _ hz _ _ ls hP hD hS (lv_sub hl [] rfl)
    · have hz := hz.trans (if_neg c8)
      have hok := hok.2 c8
      refine lv_aload_n hx hb d_Mo_part_88 rfl (lv_at hl 1 rfl) ?_
      refine lv_aload_n hx hb d_Mo_part_89 rfl (lv_at hl 1 rfl) ?_
      have hs10 := hok.1
      have hok := hok.2
      have hB : SubW g (inW ws0) s (wMo g mo a o_1 now dr pa sa iS bu tq rT wT sK sA sB sE oq bS bE bL rp) _ (List.range _) _ _ := (subF hP hD hS)
      refine goI0 hB (run_v C mf_Mo_setting qm_Mo_176 (c_Mo_setting l g mo a o_1 now dr pa sa iS bu tq rT wT sK sA sB sE oq bS bE bL rp hs10) rfl rfl ⟨Nat.le_of_ble_eq_true rfl, Nat.le_of_ble_eq_true rfl⟩ ⟨Nat.le_of_ble_eq_true rfl, Nat.le_of_ble_eq_true rfl⟩ hB rfl rfl hl rfl rfl (Nat.le_of_ble_eq_true rfl) d_Mo_part_90) (fun y11 ey11 H locs hP hS => ?_)
      have hz := lett_z hz ey11
      have hok := lett_o hok ey11
      have hs12 := hok.1
      have hok := hok.2
      have hB : SubW g (inW ws0) s (wMo g mo a o_1 now dr pa sa iS bu tq rT wT sK sA sB sE oq bS bE bL rp) _ (List.range _) _ _ := (subF hP hD hS)
      refine goL0 hB (run_v C mf_Mo_boxWarm qm_Mo_150 (c_Mo_boxWarm l g mo a o_1 now dr pa sa iS bu tq rT wT sK sA sB sE oq bS bE bL rp y11 hs12) rfl rfl ⟨Nat.le_of_ble_eq_true rfl, Nat.le_of_ble_eq_true rfl⟩ ⟨Nat.le_of_ble_eq_true rfl, Nat.le_of_ble_eq_true rfl⟩ hB rfl rfl hl rfl rfl (Nat.le_of_ble_eq_true rfl) d_Mo_part_93) (fun y13 ey13 H locs hP hS => ?_)
      have hz := lett_z hz ey13
      refine lv_goto (tgt := 103) hx hb d_Mo_part_96 (by decide) ?_
      exact k_Mo_part_103 C y13 trivial _ hz _ _ ls hP hD hS (lv_sub hl [] rfl)
  have hz := hz.trans (if_neg c25_1)
  have hok := hok.2 c25_1
  by_cases c25_2 : p2 = (2 : Int32)
  · have hz := hz.trans (if_pos c25_2)
    have hok := hok.1 c25_2
    refine lv_tableIn (x := p2) (off := 87) (tgt := 105) hx hb d_Mo_part_18 (by rw [c25_2]; decide) (by rw [c25_2]; decide) (by rw [c25_2]; rfl) (by decide) ?_
    refine lv_aload_n hx hb d_Mo_part_105 rfl (lv_at hl 1 rfl) ?_
    refine gf C hP 0 0 fkMo rfl (by decide) rfl qf_Mo_7 (gMo_0 _ _) d_Mo_part_106 ?_
    refine lv_iload_n hx hb d_Mo_part_109 rfl (lv_at hl 0 rfl) ?_
    refine lv_iload_n hx hb d_Mo_part_110 rfl (lv_at hl 3 rfl) ?_
    refine lv_iadd hx hb d_Mo_part_111 ?_
    refine lv_iconst (v := 2) hx hb d_Mo_part_112 (by decide) ?_
    refine lv_isub hx hb d_Mo_part_113 ?_
    have hs14 := hok.1
    have hok := hok.2
    refine ldL C hP 1 rfl hs14 rfl d_Mo_part_114 ?_
    refine lv_l2i hx hb d_Mo_part_115 rfl ?_
    exact endI1 C hz hP hS d_Mo_part_116
  have hz := hz.trans (if_neg c25_2)
  have hok := hok.2 c25_2
  by_cases c25_3 : p2 = (3 : Int32)
  · have hz := hz.trans (if_pos c25_3)
    have hok := hok.1 c25_3
    refine lv_tableIn (x := p2) (off := 87) (tgt := 105) hx hb d_Mo_part_18 (by rw [c25_3]; decide) (by rw [c25_3]; decide) (by rw [c25_3]; rfl) (by decide) ?_
    refine lv_aload_n hx hb d_Mo_part_105 rfl (lv_at hl 1 rfl) ?_
    refine gf C hP 0 0 fkMo rfl (by decide) rfl qf_Mo_7 (gMo_0 _ _) d_Mo_part_106 ?_
    refine lv_iload_n hx hb d_Mo_part_109 rfl (lv_at hl 0 rfl) ?_
    refine lv_iload_n hx hb d_Mo_part_110 rfl (lv_at hl 3 rfl) ?_
    refine lv_iadd hx hb d_Mo_part_111 ?_
    refine lv_iconst (v := 2) hx hb d_Mo_part_112 (by decide) ?_
    refine lv_isub hx hb d_Mo_part_113 ?_
    have hs15 := hok.1
    have hok := hok.2
    refine ldL C hP 1 rfl hs15 rfl d_Mo_part_114 ?_
    refine lv_l2i hx hb d_Mo_part_115 rfl ?_
    exact endI1 C hz hP hS d_Mo_part_116
  have hz := hz.trans (if_neg c25_3)
  have hok := hok.2 c25_3
  by_cases c25_4 : p2 = (4 : Int32)
  · have hz := hz.trans (if_pos c25_4)
    have hok := hok.1 c25_4
    refine lv_tableIn (x := p2) (off := 87) (tgt := 105) hx hb d_Mo_part_18 (by rw [c25_4]; decide) (by rw [c25_4]; decide) (by rw [c25_4]; rfl) (by decide) ?_
    refine lv_aload_n hx hb d_Mo_part_105 rfl (lv_at hl 1 rfl) ?_
    refine gf C hP 0 0 fkMo rfl (by decide) rfl qf_Mo_7 (gMo_0 _ _) d_Mo_part_106 ?_
    refine lv_iload_n hx hb d_Mo_part_109 rfl (lv_at hl 0 rfl) ?_
    refine lv_iload_n hx hb d_Mo_part_110 rfl (lv_at hl 3 rfl) ?_
    refine lv_iadd hx hb d_Mo_part_111 ?_
    refine lv_iconst (v := 2) hx hb d_Mo_part_112 (by decide) ?_
    refine lv_isub hx hb d_Mo_part_113 ?_
    have hs16 := hok.1
    have hok := hok.2
    refine ldL C hP 1 rfl hs16 rfl d_Mo_part_114 ?_
    refine lv_l2i hx hb d_Mo_part_115 rfl ?_
    exact endI1 C hz hP hS d_Mo_part_116
  have hz := hz.trans (if_neg c25_4)
  have hok := hok.2 c25_4
  by_cases c25_5 : p2 = (5 : Int32)
  · have hz := hz.trans (if_pos c25_5)
    have hok := hok.1 c25_5
    refine lv_tableIn (x := p2) (off := 99) (tgt := 117) hx hb d_Mo_part_18 (by rw [c25_5]; decide) (by rw [c25_5]; decide) (by rw [c25_5]; rfl) (by decide) ?_
    refine lv_aload_n hx hb d_Mo_part_117 rfl (lv_at hl 1 rfl) ?_
    refine gf C hP 0 0 fkMo rfl (by decide) rfl qf_Mo_7 (gMo_0 _ _) d_Mo_part_118 ?_
    refine lv_iload_n hx hb d_Mo_part_121 rfl (lv_at hl 2 rfl) ?_
    refine lv_if_eq (tgt := 130) hx hb d_Mo_part_122 (by decide) (fun c17 => ?_) (fun c17 => ?_)
    · have hz := hz.trans (if_pos c17)
      have hok := hok.1 c17
      refine lv_bipush (v := 37) hx hb d_Mo_part_130 (by decide) ?_
      exact k_Mo_part_132 C (37 : Int32) hok _ hz _ _ ls hP hD hS (lv_sub hl [] rfl)
    · have hz := hz.trans (if_neg c17)
      have hok := hok.2 c17
      refine lv_bipush (v := 38) hx hb d_Mo_part_125 (by decide) ?_
      refine lv_goto (tgt := 132) hx hb d_Mo_part_127 (by decide) ?_
      exact k_Mo_part_132 C (38 : Int32) hok _ hz _ _ ls hP hD hS (lv_sub hl [] rfl)
  have hz := hz.trans (if_neg c25_5)
  have hok := hok.2 c25_5
  by_cases c25_6 : p2 = (6 : Int32)
  · have hz := hz.trans (if_pos c25_6)
    have hok := hok.1 c25_6
    refine lv_tableIn (x := p2) (off := 117) (tgt := 135) hx hb d_Mo_part_18 (by rw [c25_6]; decide) (by rw [c25_6]; decide) (by rw [c25_6]; rfl) (by decide) ?_
    refine lv_iload_n hx hb d_Mo_part_135 rfl (lv_at hl 2 rfl) ?_
    refine lv_if_eq (tgt := 157) hx hb d_Mo_part_136 (by decide) (fun c18 => ?_) (fun c18 => ?_)
    · have hz := hz.trans (if_pos c18)
      refine lv_aload_n hx hb d_Mo_part_157 rfl (lv_at hl 1 rfl) ?_
      refine lv_aload_n hx hb d_Mo_part_158 rfl (lv_at hl 1 rfl) ?_
      refine gf C hP 0 0 fkMo rfl (by decide) rfl qf_Mo_7 (gMo_0 _ _) d_Mo_part_159 ?_
      refine lv_bipush (v := 32) hx hb d_Mo_part_162 (by decide) ?_
      refine ldL C hP 1 rfl vi_32_215 cn_32 d_Mo_part_164 ?_
      have hB : SubW g (inW ws0) s (wMo g mo a o_1 now dr pa sa iS bu tq rT wT sK sA sB sE oq bS bE bL rp) _ (List.range _) _ _ := (subF hP hD hS)
      refine goL0 hB (run_v C mf_Mo_unknownSide qm_Mo_155 (c_Mo_unknownSide l g mo a o_1 now dr pa sa iS bu tq rT wT sK sA sB sE oq bS bE bL rp (now 32)) rfl rfl ⟨Nat.le_of_ble_eq_true rfl, Nat.le_of_ble_eq_true rfl⟩ ⟨Nat.le_of_ble_eq_true rfl, Nat.le_of_ble_eq_true rfl⟩ hB rfl rfl hl rfl rfl (Nat.le_of_ble_eq_true rfl) d_Mo_part_165) (fun y19 ey19 H locs hP hS => ?_)
      have hz := lett_z hz ey19
      exact k_Mo_part_168 C y19 trivial _ hz _ _ ls hP hD hS (lv_sub hl [] rfl)
    · have hz := hz.trans (if_neg c18)
      have hok := hok.2 c18
      refine lv_aload_n hx hb d_Mo_part_139 rfl (lv_at hl 1 rfl) ?_
      refine lv_aload_n hx hb d_Mo_part_140 rfl (lv_at hl 1 rfl) ?_
      have hs20 := hok.1
      have hok := hok.2
      have hB : SubW g (inW ws0) s (wMo g mo a o_1 now dr pa sa iS bu tq rT wT sK sA sB sE oq bS bE bL rp) _ (List.range _) _ _ := (subF hP hD hS)
      refine goI0 hB (run_v C mf_Mo_setting qm_Mo_176 (c_Mo_setting l g mo a o_1 now dr pa sa iS bu tq rT wT sK sA sB sE oq bS bE bL rp hs20) rfl rfl ⟨Nat.le_of_ble_eq_true rfl, Nat.le_of_ble_eq_true rfl⟩ ⟨Nat.le_of_ble_eq_true rfl, Nat.le_of_ble_eq_true rfl⟩ hB rfl rfl hl rfl rfl (Nat.le_of_ble_eq_true rfl) d_Mo_part_141) (fun y21 ey21 H locs hP hS => ?_)
      have hz := lett_z hz ey21
      have hok := lett_o hok ey21
      refine lv_aload_n hx hb d_Mo_part_144 rfl (lv_at hl 1 rfl) ?_
      refine gf C hP 0 0 fkMo rfl (by decide) rfl qf_Mo_7 (gMo_0 _ _) d_Mo_part_145 ?_
      refine lv_bipush (v := 32) hx hb d_Mo_part_148 (by decide) ?_
      refine ldL C hP 1 rfl vi_32_215 cn_32 d_Mo_part_150 ?_
      have hs22 := hok.1
      have hok := hok.2
      have hB : SubW g (inW ws0) s (wMo g mo a o_1 now dr pa sa iS bu tq rT wT sK sA sB sE oq bS bE bL rp) _ (List.range _) _ _ := (subF hP hD hS)
      refine goL0 hB (run_v C mf_Mo_boxSide qm_Mo_158 (c_Mo_boxSide l g mo a o_1 now dr pa sa iS bu tq rT wT sK sA sB sE oq bS bE bL rp y21 (now 32) hs22) rfl rfl ⟨Nat.le_of_ble_eq_true rfl, Nat.le_of_ble_eq_true rfl⟩ ⟨Nat.le_of_ble_eq_true rfl, Nat.le_of_ble_eq_true rfl⟩ hB rfl rfl hl rfl rfl (Nat.le_of_ble_eq_true rfl) d_Mo_part_151) (fun y23 ey23 H locs hP hS => ?_)
      have hz := lett_z hz ey23
      refine lv_goto (tgt := 168) hx hb d_Mo_part_154 (by decide) ?_
      exact k_Mo_part_168 C y23 trivial _ hz _ _ ls hP hD hS (lv_sub hl [] rfl)
  have hz := hz.trans (if_neg c25_6)
  have hok := hok.2 c25_6
  refine lv_tableOut (x := p2) (tgt := 170) hx hb d_Mo_part_18 (tswL (x := p2) (lo := 0) (hi := 6) 7 [(0 : Int32), (1 : Int32), (2 : Int32), (3 : Int32), (4 : Int32), (5 : Int32), (6 : Int32)] (by decide) (by decide) (List.forall_mem_cons.mpr ⟨c25_0, List.forall_mem_cons.mpr ⟨c25_1, List.forall_mem_cons.mpr ⟨c25_2, List.forall_mem_cons.mpr ⟨c25_3, List.forall_mem_cons.mpr ⟨c25_4, List.forall_mem_cons.mpr ⟨c25_5, List.forall_mem_cons.mpr ⟨c25_6, fun _ h => absurd h List.not_mem_nil⟩⟩⟩⟩⟩⟩⟩)) (by decide) ?_
  refine lv_aload_n hx hb d_Mo_part_170 rfl (lv_at hl 1 rfl) ?_
  refine lv_iconst (v := 1) hx hb d_Mo_part_171 (by decide) ?_
  have hB : SubW g (inW ws0) s (wMo g mo a o_1 now dr pa sa iS bu tq rT wT sK sA sB sE oq bS bE bL rp) _ (List.range _) _ _ := (subF hP hD hS)
  refine goIF hB (run_v C mf_Mo_raise qm_Mo_420 (c_Mo_raise l g mo a o_1 now dr pa sa iS bu tq rT wT sK sA sB sE oq bS bE bL rp (1 : Int32)) rfl rfl ⟨Nat.le_of_ble_eq_true rfl, Nat.le_of_ble_eq_true rfl⟩ ⟨Nat.le_of_ble_eq_true rfl, Nat.le_of_ble_eq_true rfl⟩ hB rfl rfl hl rfl rfl (Nat.le_of_ble_eq_true rfl) d_Mo_part_172) (fun _ => rfl) (fun y24 ey24 H locs hP hD hS => ?_)
  have hP : va_P g.1 vwCl (wMo g mo a y24.2 now dr pa sa iS bu tq rT wT sK sA sB sE oq bS bE bL rp) H := hP
  have hD : va_D (inW ws0) (wMo g mo a y24.2 now dr pa sa iS bu tq rT wT sK sA sB sE oq bS bE bL rp) := hD
  have hz := lett_z hz ey24
  exact endI1 C hz hP hS d_Mo_part_175
noncomputable def sp_Mo_part (p1 : Int32) (p2 : Int32) (o : IV) (now : LV) : Int32 × IV := lett (upd o 6 (0 : Int32)) fun (o_1 : IV) => if p1 = 0 then (sp_Mo_part_16 p2 p1 o_1 now (13 : Int32)) else (sp_Mo_part_16 p2 p1 o_1 now (16 : Int32))
def ok_Mo_part (p1 : Int32) (p2 : Int32) (o : IV) (now : LV) : Prop := lett (upd o 6 (0 : Int32)) fun (o_1 : IV) => ((p1 = 0 → ok_Mo_part_16 p2 p1 o_1 now (13 : Int32)) ∧ (¬ (p1 = 0) → ok_Mo_part_16 p2 p1 o_1 now (16 : Int32)))
set_option maxRecDepth 100000 in
set_option maxHeartbeats 4000000 in
theorem c_Mo_part (l : Launch) (g : GX) (mo : Nat) (a : Nat → Nat) (o : IV) (now : LV) (dr : LV) (pa : LV) (sa : LV) (iS : IV) (bu : IV) (tq : IV) (rT : IV) (wT : IV) (sK : IV) (sA : IV) (sB : IV) (sE : IV) (oq : IV) (bS : IV) (bE : IV) (bL : IV) (rp : IV) (p1 : Int32) (p2 : Int32) (hok : ok_Mo_part p1 p2 o now) : Met l y_Mo_part (wsY y_Mo_part b_Mo_part 4 (some .int)) rm_Mo_part (CP g [.ref mo, .int p1, .int p2] (wMo g mo a o now dr pa sa iS bu tq rT wT sK sA sB sE oq bS bE bL rp)) (CI g (wMo g mo a o now dr pa sa iS bu tq rT wT sK sA sB sE oq bS bE bL rp) (fun u : IV => wMo g mo a u now dr pa sa iS bu tq rT wT sK sA sB sE oq bS bE bL rp) (sp_Mo_part p1 p2 o now)) 0 0 (inW (wMo g mo a o now dr pa sa iS bu tq rT wT sK sA sB sE oq bS bE bL rp)) := by
  refine Met.ofW (cc := b_Mo_part) (maxL := 4) (ret := (some .int)) pn_Mo rfl ?_
  intro p e s m args below meth c s₁ B hml hv
  obtain ⟨rfl, C, hP, hD, hS⟩ := enter "DecadeBridgeModel" rfl B hml hv
  obtain ⟨hx, hb, hr, hml, hown, hlk, hts, hK, hZo, hZ⟩ := id C
  refine entryW (lv := [(0, .ref mo), (1, .int p1), (2, .int p2)]) rfl (Nat.le_of_ble_eq_true rfl) (fun ls hl => ?_)
  obtain ⟨z, hz⟩ : ∃ z, z = sp_Mo_part p1 p2 o now := ⟨_, rfl⟩
  rw [← hz]
  unfold sp_Mo_part at hz
  unfold ok_Mo_part at hok
  refine lv_aload_n hx hb d_Mo_part_0 rfl (lv_at hl 0 rfl) ?_
  refine lv_iconst (v := 0) hx hb d_Mo_part_1 (by decide) ?_
  refine pfI C hP hD hS 0 6 fkMo rfl (by decide) rfl qf_Mo_107 rfl rfl rfl (Nat.le_of_ble_eq_true rfl) (ff := fun o => fMo a o) (sMo_6 _ _ _) d_Mo_part_2 (fun o_1 eo_1 H locs hP hD hS => ?_)
  have hP : va_P g.1 vwCl (wMo g mo a o_1 now dr pa sa iS bu tq rT wT sK sA sB sE oq bS bE bL rp) H := hP
  have hD : va_D (inW (wMo g mo a o now dr pa sa iS bu tq rT wT sK sA sB sE oq bS bE bL rp)) (wMo g mo a o_1 now dr pa sa iS bu tq rT wT sK sA sB sE oq bS bE bL rp) := hD
  have hz := lett_z hz eo_1
  have hok := lett_o hok eo_1
  refine lv_iload_n hx hb d_Mo_part_5 rfl (lv_at hl 1 rfl) ?_
  refine lv_if_eq (tgt := 14) hx hb d_Mo_part_6 (by decide) (fun c2 => ?_) (fun c2 => ?_)
  · have hz := hz.trans (if_pos c2)
    have hok := hok.1 c2
    refine lv_bipush (v := 13) hx hb d_Mo_part_14 (by decide) ?_
    exact k_Mo_part_16 C (13 : Int32) hok _ hz _ _ ls hP hD hS hl
  · have hz := hz.trans (if_neg c2)
    have hok := hok.2 c2
    refine lv_bipush (v := 16) hx hb d_Mo_part_9 (by decide) ?_
    refine lv_goto (tgt := 16) hx hb d_Mo_part_11 (by decide) ?_
    exact k_Mo_part_16 C (16 : Int32) hok _ hz _ _ ls hP hD hS hl
abbrev rm_Mo_isSetting : Room := { frames := 2, cells := 0, slots := 0, locals := 43 }
noncomputable def sp_Mo_isSetting (p1 : Int32) (now : LV) : Int32 := lett (sp_Mo_settings now) fun (y2 : Int32) => lett (sp_Mo_in p1.toInt64 (0 : Int64) (y2.toInt64 - (1 : Int64))) fun (y3 : Int32) => y3
def ok_Mo_isSetting (p1 : Int32) (now : LV) : Prop := (ok_Mo_settings now) ∧ lett (sp_Mo_settings now) fun (y2 : Int32) => lett (sp_Mo_in p1.toInt64 (0 : Int64) (y2.toInt64 - (1 : Int64))) fun (y3 : Int32) => (isB y3) ∧ True
set_option maxRecDepth 100000 in
set_option maxHeartbeats 4000000 in
theorem c_Mo_isSetting (l : Launch) (g : GX) (mo : Nat) (a : Nat → Nat) (o : IV) (now : LV) (dr : LV) (pa : LV) (sa : LV) (iS : IV) (bu : IV) (tq : IV) (rT : IV) (wT : IV) (sK : IV) (sA : IV) (sB : IV) (sE : IV) (oq : IV) (bS : IV) (bE : IV) (bL : IV) (rp : IV) (p1 : Int32) (hok : ok_Mo_isSetting p1 now) : Met l y_Mo_isSetting (wsY y_Mo_isSetting b_Mo_isSetting 2 (some .boolean)) rm_Mo_isSetting (CP g [.ref mo, .int p1] (wMo g mo a o now dr pa sa iS bu tq rT wT sK sA sB sE oq bS bE bL rp)) (CI0 g (wMo g mo a o now dr pa sa iS bu tq rT wT sK sA sB sE oq bS bE bL rp) (sp_Mo_isSetting p1 now)) 0 0 (inW (wMo g mo a o now dr pa sa iS bu tq rT wT sK sA sB sE oq bS bE bL rp)) := by
  refine Met.ofW (cc := b_Mo_isSetting) (maxL := 2) (ret := (some .boolean)) pn_Mo rfl ?_
  intro p e s m args below meth c s₁ B hml hv
  obtain ⟨rfl, C, hP, hD, hS⟩ := enter "DecadeBridgeModel" rfl B hml hv
  obtain ⟨hx, hb, hr, hml, hown, hlk, hts, hK, hZo, hZ⟩ := id C
  refine entryW (lv := [(0, .ref mo), (1, .int p1)]) rfl (Nat.le_of_ble_eq_true rfl) (fun ls hl => ?_)
  obtain ⟨z, hz⟩ : ∃ z, z = sp_Mo_isSetting p1 now := ⟨_, rfl⟩
  rw [← hz]
  unfold sp_Mo_isSetting at hz
  unfold ok_Mo_isSetting at hok
  refine lv_iload_n hx hb d_Mo_isSetting_0 rfl (lv_at hl 1 rfl) ?_
  refine lv_i2l hx hb d_Mo_isSetting_1 rfl ?_
  refine lv_lconst (v := 0) hx hb d_Mo_isSetting_2 (by decide) ?_
  refine lv_aload_n hx hb d_Mo_isSetting_3 rfl (lv_at hl 0 rfl) ?_
  have hs1 := hok.1
  have hok := hok.2
  have hB : SubW g (inW (wMo g mo a o now dr pa sa iS bu tq rT wT sK sA sB sE oq bS bE bL rp)) s (wMo g mo a o now dr pa sa iS bu tq rT wT sK sA sB sE oq bS bE bL rp) _ (List.range _) _ _ := (subF hP hD hS)
  refine goI0 hB (run_v C mf_Mo_settings qm_Mo_256 (c_Mo_settings l g mo a o now dr pa sa iS bu tq rT wT sK sA sB sE oq bS bE bL rp hs1) rfl rfl ⟨Nat.le_of_ble_eq_true rfl, Nat.le_of_ble_eq_true rfl⟩ ⟨Nat.le_of_ble_eq_true rfl, Nat.le_of_ble_eq_true rfl⟩ hB rfl rfl hl rfl rfl (Nat.le_of_ble_eq_true rfl) d_Mo_isSetting_4) (fun y2 ey2 H locs hP hS => ?_)
  have hz := lett_z hz ey2
  have hok := lett_o hok ey2
  refine lv_i2l hx hb d_Mo_isSetting_7 rfl ?_
  refine lv_lconst (v := 1) hx hb d_Mo_isSetting_8 (by decide) ?_
  refine lv_lsub hx hb d_Mo_isSetting_9 ?_
  have hB : SubW g (inW (wMo g mo a o now dr pa sa iS bu tq rT wT sK sA sB sE oq bS bE bL rp)) s (wMo g mo a o now dr pa sa iS bu tq rT wT sK sA sB sE oq bS bE bL rp) _ (List.range _) _ _ := (subF hP hD hS)
  refine goI0 hB (run_s C mf_Mo_in qm_Mo_118 (c_Mo_in l g mo a o now dr pa sa iS bu tq rT wT sK sA sB sE oq bS bE bL rp p1.toInt64 (0 : Int64) (y2.toInt64 - (1 : Int64))) rfl rfl ⟨Nat.le_of_ble_eq_true rfl, Nat.le_of_ble_eq_true rfl⟩ ⟨Nat.le_of_ble_eq_true rfl, Nat.le_of_ble_eq_true rfl⟩ hB hl rfl rfl (Nat.le_of_ble_eq_true rfl) d_Mo_isSetting_10) (fun y3 ey3 H locs hP hS => ?_)
  have hz := lett_z hz ey3
  have hok := lett_o hok ey3
  have hs4 := hok.1
  have hok := hok.2
  exact endZ0 C hz hP hS (isB_nar hs4) d_Mo_isSetting_13
abbrev rm_Mo_coldOf : Room := { frames := 3, cells := 0, slots := 0, locals := 69 }
def HL_Mo_coldOf_14 (p : Program) (l : Launch) (e : Env) (s : State) (m : MethodId) (args : Array Value) (below : List Frame) (meth : Method) (c : Code) (g : GX) (mo : Nat) (a : Nat → Nat) (ws0 : va_W) (o : IV) (now : LV) (dr : LV) (pa : LV) (sa : LV) (iS : IV) (bu : IV) (tq : IV) (rT : IV) (wT : IV) (sK : IV) (sA : IV) (sB : IV) (sE : IV) (oq : IV) (bS : IV) (bE : IV) (bL : IV) (rp : IV) (p1 : Int32) (sp : Int32 → (Int32 × IV)) (ok : Int32 → Prop) : Prop := ∀ (t1p14 : Int32), ok t1p14 → ∀ z : (Int32 × IV), z = sp t1p14 → ∀ (H : Heap) (locs : List Loc) (ls : Array Slot), va_P g.1 vwCl (wMo g mo a o now dr pa sa iS bu tq rT wT sK sA sB sE oq bS bE bL rp) H → va_D (inW ws0) (wMo g mo a o now dr pa sa iS bu tq rT wT sK sA sB sE oq bS bE bL rp) → va_S (inW ws0) s.heap H locs → lv_has ls 2 [(0, .ref mo), (1, .int p1)] → W p l e rm_Mo_coldOf s m args below meth c H locs 0 0 (MQ below (CI g ws0 (fun u : IV => wMo g mo a u now dr pa sa iS bu tq rT wT sK sA sB sE oq bS bE bL rp) z) args s 0 0 (inW ws0)) (F0 m 14 ls [.int t1p14, .ref mo])
noncomputable def sp_Mo_coldOf_14 (o : IV) (p1 : Int32) (now : LV)  (t1p14 : Int32) : Int32 × IV := lett (upd o 6 t1p14) fun (o_4 : IV) => if (o_4 6) ≤ 0 then (lett (sp_Mo_coldBy p1 now) fun (y7 : Int64) => (y7.toInt32, o_4)) else (((0 : Int32), o_4))
def ok_Mo_coldOf_14 (o : IV) (p1 : Int32) (now : LV)   (t1p14 : Int32) : Prop := lett (upd o 6 t1p14) fun (o_4 : IV) => (((o_4 6) ≤ 0 → (ok_Mo_coldBy p1 now) ∧ True) ∧ (¬ ((o_4 6) ≤ 0) → True))
set_option maxRecDepth 100000 in
set_option maxHeartbeats 4000000 in
theorem k_Mo_coldOf_14 {p : Program} {l : Launch} {e : Env} {s : State} {m : MethodId} {args : Array Value} {below : List Frame} {meth : Method} {c : Code} {g : GX} {mo : Nat} {a : Nat → Nat} {ws0 : va_W} {o : IV} {now : LV} {dr : LV} {pa : LV} {sa : LV} {iS : IV} {bu : IV} {tq : IV} {rT : IV} {wT : IV} {sK : IV} {sA : IV} {sB : IV} {sE : IV} {oq : IV} {bS : IV} {bE : IV} {bL : IV} {rp : IV} {p1 : Int32}  (C : Cx p s m args meth c (inW ws0) g "DecadeBridgeModel" b_Mo_coldOf (some .int) 2)  : HL_Mo_coldOf_14 p l e s m args below meth c g mo a ws0 o now dr pa sa iS bu tq rT wT sK sA sB sE oq bS bE bL rp p1 (sp_Mo_coldOf_14 o p1 now ) (ok_Mo_coldOf_14 o p1 now  ) := by
  intro t1p14 hok z hz H locs ls hP hD hS hl
  obtain ⟨hx, hb, hr, hml, hown, hlk, hts, hK, hZo, hZ⟩ := id C
  unfold sp_Mo_coldOf_14 at hz
  unfold ok_Mo_coldOf_14 at hok
  refine pfI C hP hD hS 0 6 fkMo rfl (by decide) rfl qf_Mo_107 rfl rfl rfl (Nat.le_of_ble_eq_true rfl) (ff := fun o => fMo a o) (sMo_6 _ _ _) d_Mo_coldOf_14 (fun o_4 eo_4 H locs hP hD hS => ?_)
  have hP : va_P g.1 vwCl (wMo g mo a o_4 now dr pa sa iS bu tq rT wT sK sA sB sE oq bS bE bL rp) H := hP
  have hD : va_D (inW ws0) (wMo g mo a o_4 now dr pa sa iS bu tq rT wT sK sA sB sE oq bS bE bL rp) := hD
  have hz := lett_z hz eo_4
  have hok := lett_o hok eo_4
  refine lv_aload_n hx hb d_Mo_coldOf_17 rfl (lv_at hl 0 rfl) ?_
  refine gf C hP 0 6 fkMo rfl (by decide) rfl qf_Mo_107 (gMo_6 _ _) d_Mo_coldOf_18 ?_
  refine lv_if_le (tgt := 28) hx hb d_Mo_coldOf_21 (by decide) (fun c5 => ?_) (fun c5 => ?_)
  · have hz := hz.trans (if_pos c5)
    have hok := hok.1 c5
    refine lv_aload_n hx hb d_Mo_coldOf_28 rfl (lv_at hl 0 rfl) ?_
    refine lv_iload_n hx hb d_Mo_coldOf_29 rfl (lv_at hl 1 rfl) ?_
    have hs6 := hok.1
    have hok := hok.2
    have hB : SubW g (inW ws0) s (wMo g mo a o_4 now dr pa sa iS bu tq rT wT sK sA sB sE oq bS bE bL rp) _ (List.range _) _ _ := (subF hP hD hS)
    refine goL0 hB (run_v C mf_Mo_coldBy qm_Mo_143 (c_Mo_coldBy l g mo a o_4 now dr pa sa iS bu tq rT wT sK sA sB sE oq bS bE bL rp p1 hs6) rfl rfl ⟨Nat.le_of_ble_eq_true rfl, Nat.le_of_ble_eq_true rfl⟩ ⟨Nat.le_of_ble_eq_true rfl, Nat.le_of_ble_eq_true rfl⟩ hB rfl rfl hl rfl rfl (Nat.le_of_ble_eq_true rfl) d_Mo_coldOf_30) (fun y7 ey7 H locs hP hS => ?_)
    have hz := lett_z hz ey7
    refine lv_l2i hx hb d_Mo_coldOf_33 rfl ?_
    exact endI1 C hz hP hS d_Mo_coldOf_34
  · have hz := hz.trans (if_neg c5)
    refine lv_iconst (v := 0) hx hb d_Mo_coldOf_24 (by decide) ?_
    refine lv_goto (tgt := 34) hx hb d_Mo_coldOf_25 (by decide) ?_
    exact endI1 C hz hP hS d_Mo_coldOf_34
noncomputable def sp_Mo_coldOf (p1 : Int32) (o : IV) (now : LV) : Int32 × IV := lett (sp_Mo_isSetting p1 now) fun (y2 : Int32) => if y2 = 0 then (sp_Mo_coldOf_14 o p1 now (1 : Int32)) else (sp_Mo_coldOf_14 o p1 now (0 : Int32))
def ok_Mo_coldOf (p1 : Int32) (o : IV) (now : LV) : Prop := (ok_Mo_isSetting p1 now) ∧ lett (sp_Mo_isSetting p1 now) fun (y2 : Int32) => ((y2 = 0 → ok_Mo_coldOf_14 o p1 now (1 : Int32)) ∧ (¬ (y2 = 0) → ok_Mo_coldOf_14 o p1 now (0 : Int32)))
set_option maxRecDepth 100000 in
set_option maxHeartbeats 4000000 in
theorem c_Mo_coldOf (l : Launch) (g : GX) (mo : Nat) (a : Nat → Nat) (o : IV) (now : LV) (dr : LV) (pa : LV) (sa : LV) (iS : IV) (bu : IV) (tq : IV) (rT : IV) (wT : IV) (sK : IV) (sA : IV) (sB : IV) (sE : IV) (oq : IV) (bS : IV) (bE : IV) (bL : IV) (rp : IV) (p1 : Int32) (hok : ok_Mo_coldOf p1 o now) : Met l y_Mo_coldOf (wsY y_Mo_coldOf b_Mo_coldOf 2 (some .int)) rm_Mo_coldOf (CP g [.ref mo, .int p1] (wMo g mo a o now dr pa sa iS bu tq rT wT sK sA sB sE oq bS bE bL rp)) (CI g (wMo g mo a o now dr pa sa iS bu tq rT wT sK sA sB sE oq bS bE bL rp) (fun u : IV => wMo g mo a u now dr pa sa iS bu tq rT wT sK sA sB sE oq bS bE bL rp) (sp_Mo_coldOf p1 o now)) 0 0 (inW (wMo g mo a o now dr pa sa iS bu tq rT wT sK sA sB sE oq bS bE bL rp)) := by
  refine Met.ofW (cc := b_Mo_coldOf) (maxL := 2) (ret := (some .int)) pn_Mo rfl ?_
  intro p e s m args below meth c s₁ B hml hv
  obtain ⟨rfl, C, hP, hD, hS⟩ := enter "DecadeBridgeModel" rfl B hml hv
  obtain ⟨hx, hb, hr, hml, hown, hlk, hts, hK, hZo, hZ⟩ := id C
  refine entryW (lv := [(0, .ref mo), (1, .int p1)]) rfl (Nat.le_of_ble_eq_true rfl) (fun ls hl => ?_)
  obtain ⟨z, hz⟩ : ∃ z, z = sp_Mo_coldOf p1 o now := ⟨_, rfl⟩
  rw [← hz]
  unfold sp_Mo_coldOf at hz
  unfold ok_Mo_coldOf at hok
  refine lv_aload_n hx hb d_Mo_coldOf_0 rfl (lv_at hl 0 rfl) ?_
  refine lv_aload_n hx hb d_Mo_coldOf_1 rfl (lv_at hl 0 rfl) ?_
  refine lv_iload_n hx hb d_Mo_coldOf_2 rfl (lv_at hl 1 rfl) ?_
  have hs1 := hok.1
  have hok := hok.2
  have hB : SubW g (inW (wMo g mo a o now dr pa sa iS bu tq rT wT sK sA sB sE oq bS bE bL rp)) s (wMo g mo a o now dr pa sa iS bu tq rT wT sK sA sB sE oq bS bE bL rp) _ (List.range _) _ _ := (subF hP hD hS)
  refine goI0 hB (run_v C mf_Mo_isSetting qm_Mo_426 (c_Mo_isSetting l g mo a o now dr pa sa iS bu tq rT wT sK sA sB sE oq bS bE bL rp p1 hs1) rfl rfl ⟨Nat.le_of_ble_eq_true rfl, Nat.le_of_ble_eq_true rfl⟩ ⟨Nat.le_of_ble_eq_true rfl, Nat.le_of_ble_eq_true rfl⟩ hB rfl rfl hl rfl rfl (Nat.le_of_ble_eq_true rfl) d_Mo_coldOf_3) (fun y2 ey2 H locs hP hS => ?_)
  have hz := lett_z hz ey2
  have hok := lett_o hok ey2
  refine lv_if_eq (tgt := 13) hx hb d_Mo_coldOf_6 (by decide) (fun c3 => ?_) (fun c3 => ?_)
  · have hz := hz.trans (if_pos c3)
    have hok := hok.1 c3
    refine lv_iconst (v := 1) hx hb d_Mo_coldOf_13 (by decide) ?_
    exact k_Mo_coldOf_14 C (1 : Int32) hok _ hz _ _ ls hP hD hS hl
  · have hz := hz.trans (if_neg c3)
    have hok := hok.2 c3
    refine lv_iconst (v := 0) hx hb d_Mo_coldOf_9 (by decide) ?_
    refine lv_goto (tgt := 14) hx hb d_Mo_coldOf_10 (by decide) ?_
    exact k_Mo_coldOf_14 C (0 : Int32) hok _ hz _ _ ls hP hD hS hl
abbrev rm_Mo_share : Room := { frames := 6, cells := 0, slots := 0, locals := 138 }
def HL_Mo_share_45 (p : Program) (l : Launch) (e : Env) (s : State) (m : MethodId) (args : Array Value) (below : List Frame) (meth : Method) (c : Code) (g : GX) (mo : Nat) (a : Nat → Nat) (ws0 : va_W) (o_1 : IV) (now : LV) (dr : LV) (pa : LV) (sa : LV) (iS : IV) (bu : IV) (tq : IV) (rT : IV) (wT : IV) (sK : IV) (sA : IV) (sB : IV) (sE : IV) (oq : IV) (bS : IV) (bE : IV) (bL : IV) (rp : IV) (sp : Int64 → (Int32 × IV)) (ok : Int64 → Prop) : Prop := ∀ (t0p45 : Int64), ok t0p45 → ∀ z : (Int32 × IV), z = sp t0p45 → ∀ (H : Heap) (locs : List Loc) (ls : Array Slot), va_P g.1 vwCl (wMo g mo a o_1 now dr pa sa iS bu tq rT wT sK sA sB sE oq bS bE bL rp) H → va_D (inW ws0) (wMo g mo a o_1 now dr pa sa iS bu tq rT wT sK sA sB sE oq bS bE bL rp) → va_S (inW ws0) s.heap H locs → lv_has ls 2 [] → W p l e rm_Mo_share s m args below meth c H locs 0 0 (MQ below (CI g ws0 (fun u : IV => wMo g mo a u now dr pa sa iS bu tq rT wT sK sA sB sE oq bS bE bL rp) z) args s 0 0 (inW ws0)) (F0 m 45 ls [.long t0p45])
noncomputable def sp_Mo_share_45 (o_1 : IV)  (t0p45 : Int64) : Int32 × IV := (t0p45.toInt32, o_1)
def ok_Mo_share_45 (o_1 : IV)   (t0p45 : Int64) : Prop := True
set_option maxRecDepth 100000 in
set_option maxHeartbeats 4000000 in
theorem k_Mo_share_45 {p : Program} {l : Launch} {e : Env} {s : State} {m : MethodId} {args : Array Value} {below : List Frame} {meth : Method} {c : Code} {g : GX} {mo : Nat} {a : Nat → Nat} {ws0 : va_W} {o_1 : IV} {now : LV} {dr : LV} {pa : LV} {sa : LV} {iS : IV} {bu : IV} {tq : IV} {rT : IV} {wT : IV} {sK : IV} {sA : IV} {sB : IV} {sE : IV} {oq : IV} {bS : IV} {bE : IV} {bL : IV} {rp : IV}  (C : Cx p s m args meth c (inW ws0) g "DecadeBridgeModel" b_Mo_share (some .int) 2)  : HL_Mo_share_45 p l e s m args below meth c g mo a ws0 o_1 now dr pa sa iS bu tq rT wT sK sA sB sE oq bS bE bL rp (sp_Mo_share_45 o_1 ) (ok_Mo_share_45 o_1  ) := by
  intro t0p45 hok z hz H locs ls hP hD hS hl
  obtain ⟨hx, hb, hr, hml, hown, hlk, hts, hK, hZo, hZ⟩ := id C
  unfold sp_Mo_share_45 at hz
  refine lv_l2i hx hb d_Mo_share_45 rfl ?_
  exact endI1 C hz hP hS d_Mo_share_46
noncomputable def sp_Mo_share (p1 : Int32) (o : IV) (now : LV) : Int32 × IV := lett (upd o 6 (0 : Int32)) fun (o_1 : IV) => if p1 = 0 then (lett (sp_Mo_setting now) fun (y4 : Int32) => lett (sp_Mo_unknownShare y4 (now 32) now) fun (y6 : Int64) => sp_Mo_share_45 o_1 y6) else (lett (sp_Mo_armsShare (now 29) (now 30) now) fun (y8 : Int64) => sp_Mo_share_45 o_1 y8)
def ok_Mo_share (p1 : Int32) (o : IV) (now : LV) : Prop := lett (upd o 6 (0 : Int32)) fun (o_1 : IV) => ((p1 = 0 → (ok_Mo_setting now) ∧ lett (sp_Mo_setting now) fun (y4 : Int32) => (ok_Mo_unknownShare y4 (now 32) now) ∧ True) ∧ (¬ (p1 = 0) → (ok_Mo_armsShare (now 29) (now 30) now) ∧ True))
set_option maxRecDepth 100000 in
set_option maxHeartbeats 4000000 in
theorem c_Mo_share (l : Launch) (g : GX) (mo : Nat) (a : Nat → Nat) (o : IV) (now : LV) (dr : LV) (pa : LV) (sa : LV) (iS : IV) (bu : IV) (tq : IV) (rT : IV) (wT : IV) (sK : IV) (sA : IV) (sB : IV) (sE : IV) (oq : IV) (bS : IV) (bE : IV) (bL : IV) (rp : IV) (p1 : Int32) (hok : ok_Mo_share p1 o now) : Met l y_Mo_share (wsY y_Mo_share b_Mo_share 2 (some .int)) rm_Mo_share (CP g [.ref mo, .int p1] (wMo g mo a o now dr pa sa iS bu tq rT wT sK sA sB sE oq bS bE bL rp)) (CI g (wMo g mo a o now dr pa sa iS bu tq rT wT sK sA sB sE oq bS bE bL rp) (fun u : IV => wMo g mo a u now dr pa sa iS bu tq rT wT sK sA sB sE oq bS bE bL rp) (sp_Mo_share p1 o now)) 0 0 (inW (wMo g mo a o now dr pa sa iS bu tq rT wT sK sA sB sE oq bS bE bL rp)) := by
  refine Met.ofW (cc := b_Mo_share) (maxL := 2) (ret := (some .int)) pn_Mo rfl ?_
  intro p e s m args below meth c s₁ B hml hv
  obtain ⟨rfl, C, hP, hD, hS⟩ := enter "DecadeBridgeModel" rfl B hml hv
  obtain ⟨hx, hb, hr, hml, hown, hlk, hts, hK, hZo, hZ⟩ := id C
  refine entryW (lv := [(0, .ref mo), (1, .int p1)]) rfl (Nat.le_of_ble_eq_true rfl) (fun ls hl => ?_)
  obtain ⟨z, hz⟩ : ∃ z, z = sp_Mo_share p1 o now := ⟨_, rfl⟩
  rw [← hz]
  unfold sp_Mo_share at hz
  unfold ok_Mo_share at hok
  refine lv_aload_n hx hb d_Mo_share_0 rfl (lv_at hl 0 rfl) ?_
  refine lv_iconst (v := 0) hx hb d_Mo_share_1 (by decide) ?_
  refine pfI C hP hD hS 0 6 fkMo rfl (by decide) rfl qf_Mo_107 rfl rfl rfl (Nat.le_of_ble_eq_true rfl) (ff := fun o => fMo a o) (sMo_6 _ _ _) d_Mo_share_2 (fun o_1 eo_1 H locs hP hD hS => ?_)
  have hP : va_P g.1 vwCl (wMo g mo a o_1 now dr pa sa iS bu tq rT wT sK sA sB sE oq bS bE bL rp) H := hP
  have hD : va_D (inW (wMo g mo a o now dr pa sa iS bu tq rT wT sK sA sB sE oq bS bE bL rp)) (wMo g mo a o_1 now dr pa sa iS bu tq rT wT sK sA sB sE oq bS bE bL rp) := hD
  have hz := lett_z hz eo_1
  have hok := lett_o hok eo_1
  refine lv_iload_n hx hb d_Mo_share_5 rfl (lv_at hl 1 rfl) ?_
  refine lv_if_eq (tgt := 30) hx hb d_Mo_share_6 (by decide) (fun c2 => ?_) (fun c2 => ?_)
  · have hz := hz.trans (if_pos c2)
    have hok := hok.1 c2
    refine lv_aload_n hx hb d_Mo_share_30 rfl (lv_at hl 0 rfl) ?_
    refine lv_aload_n hx hb d_Mo_share_31 rfl (lv_at hl 0 rfl) ?_
    have hs3 := hok.1
    have hok := hok.2
    have hB : SubW g (inW (wMo g mo a o now dr pa sa iS bu tq rT wT sK sA sB sE oq bS bE bL rp)) s (wMo g mo a o_1 now dr pa sa iS bu tq rT wT sK sA sB sE oq bS bE bL rp) _ (List.range _) _ _ := (subF hP hD hS)
    refine goI0 hB (run_v C mf_Mo_setting qm_Mo_176 (c_Mo_setting l g mo a o_1 now dr pa sa iS bu tq rT wT sK sA sB sE oq bS bE bL rp hs3) rfl rfl ⟨Nat.le_of_ble_eq_true rfl, Nat.le_of_ble_eq_true rfl⟩ ⟨Nat.le_of_ble_eq_true rfl, Nat.le_of_ble_eq_true rfl⟩ hB rfl rfl hl rfl rfl (Nat.le_of_ble_eq_true rfl) d_Mo_share_32) (fun y4 ey4 H locs hP hS => ?_)
    have hz := lett_z hz ey4
    have hok := lett_o hok ey4
    refine lv_aload_n hx hb d_Mo_share_35 rfl (lv_at hl 0 rfl) ?_
    refine gf C hP 0 0 fkMo rfl (by decide) rfl qf_Mo_7 (gMo_0 _ _) d_Mo_share_36 ?_
    refine lv_bipush (v := 32) hx hb d_Mo_share_39 (by decide) ?_
    refine ldL C hP 1 rfl vi_32_215 cn_32 d_Mo_share_41 ?_
    have hs5 := hok.1
    have hok := hok.2
    have hB : SubW g (inW (wMo g mo a o now dr pa sa iS bu tq rT wT sK sA sB sE oq bS bE bL rp)) s (wMo g mo a o_1 now dr pa sa iS bu tq rT wT sK sA sB sE oq bS bE bL rp) _ (List.range _) _ _ := (subF hP hD hS)
    refine goL0 hB (run_v C mf_Mo_unknownShare qm_Mo_165 (c_Mo_unknownShare l g mo a o_1 now dr pa sa iS bu tq rT wT sK sA sB sE oq bS bE bL rp y4 (now 32) hs5) rfl rfl ⟨Nat.le_of_ble_eq_true rfl, Nat.le_of_ble_eq_true rfl⟩ ⟨Nat.le_of_ble_eq_true rfl, Nat.le_of_ble_eq_true rfl⟩ hB rfl rfl hl rfl rfl (Nat.le_of_ble_eq_true rfl) d_Mo_share_42) (fun y6 ey6 H locs hP hS => ?_)
    have hz := lett_z hz ey6
    exact k_Mo_share_45 C y6 trivial _ hz _ _ ls hP hD hS (lv_sub hl [] rfl)
  · have hz := hz.trans (if_neg c2)
    have hok := hok.2 c2
    refine lv_aload_n hx hb d_Mo_share_9 rfl (lv_at hl 0 rfl) ?_
    refine lv_aload_n hx hb d_Mo_share_10 rfl (lv_at hl 0 rfl) ?_
    refine gf C hP 0 0 fkMo rfl (by decide) rfl qf_Mo_7 (gMo_0 _ _) d_Mo_share_11 ?_
    refine lv_bipush (v := 29) hx hb d_Mo_share_14 (by decide) ?_
    refine ldL C hP 1 rfl vi_29_215 cn_29 d_Mo_share_16 ?_
    refine lv_aload_n hx hb d_Mo_share_17 rfl (lv_at hl 0 rfl) ?_
    refine gf C hP 0 0 fkMo rfl (by decide) rfl qf_Mo_7 (gMo_0 _ _) d_Mo_share_18 ?_
    refine lv_bipush (v := 30) hx hb d_Mo_share_21 (by decide) ?_
    refine ldL C hP 1 rfl vi_30_215 cn_30 d_Mo_share_23 ?_
    have hs7 := hok.1
    have hok := hok.2
    have hB : SubW g (inW (wMo g mo a o now dr pa sa iS bu tq rT wT sK sA sB sE oq bS bE bL rp)) s (wMo g mo a o_1 now dr pa sa iS bu tq rT wT sK sA sB sE oq bS bE bL rp) _ (List.range _) _ _ := (subF hP hD hS)
    refine goL0 hB (run_v C mf_Mo_armsShare qm_Mo_168 (c_Mo_armsShare l g mo a o_1 now dr pa sa iS bu tq rT wT sK sA sB sE oq bS bE bL rp (now 29) (now 30) hs7) rfl rfl ⟨Nat.le_of_ble_eq_true rfl, Nat.le_of_ble_eq_true rfl⟩ ⟨Nat.le_of_ble_eq_true rfl, Nat.le_of_ble_eq_true rfl⟩ hB rfl rfl hl rfl rfl (Nat.le_of_ble_eq_true rfl) d_Mo_share_24) (fun y8 ey8 H locs hP hS => ?_)
    have hz := lett_z hz ey8
    refine lv_goto (tgt := 45) hx hb d_Mo_share_27 (by decide) ?_
    exact k_Mo_share_45 C y8 trivial _ hz _ _ ls hP hD hS (lv_sub hl [] rfl)
abbrev rm_Mo_deflection : Room := { frames := 9, cells := 0, slots := 0, locals := 208 }
noncomputable def sp_Mo_deflection (o : IV) (now : LV) : Int64 × IV := lett (upd o 6 (0 : Int32)) fun (o_1 : IV) => lett (sp_Mo_deflectionNow now) fun (y3 : Int64) => (y3, o_1)
def ok_Mo_deflection (o : IV) (now : LV) : Prop := lett (upd o 6 (0 : Int32)) fun (o_1 : IV) => (ok_Mo_deflectionNow now) ∧ True
set_option maxRecDepth 100000 in
set_option maxHeartbeats 4000000 in
theorem c_Mo_deflection (l : Launch) (g : GX) (mo : Nat) (a : Nat → Nat) (o : IV) (now : LV) (dr : LV) (pa : LV) (sa : LV) (iS : IV) (bu : IV) (tq : IV) (rT : IV) (wT : IV) (sK : IV) (sA : IV) (sB : IV) (sE : IV) (oq : IV) (bS : IV) (bE : IV) (bL : IV) (rp : IV)  (hok : ok_Mo_deflection o now) : Met l y_Mo_deflection (wsY y_Mo_deflection b_Mo_deflection 1 (some .long)) rm_Mo_deflection (CP g [.ref mo] (wMo g mo a o now dr pa sa iS bu tq rT wT sK sA sB sE oq bS bE bL rp)) (CL g (wMo g mo a o now dr pa sa iS bu tq rT wT sK sA sB sE oq bS bE bL rp) (fun u : IV => wMo g mo a u now dr pa sa iS bu tq rT wT sK sA sB sE oq bS bE bL rp) (sp_Mo_deflection o now)) 0 0 (inW (wMo g mo a o now dr pa sa iS bu tq rT wT sK sA sB sE oq bS bE bL rp)) := by
  refine Met.ofW (cc := b_Mo_deflection) (maxL := 1) (ret := (some .long)) pn_Mo rfl ?_
  intro p e s m args below meth c s₁ B hml hv
  obtain ⟨rfl, C, hP, hD, hS⟩ := enter "DecadeBridgeModel" rfl B hml hv
  obtain ⟨hx, hb, hr, hml, hown, hlk, hts, hK, hZo, hZ⟩ := id C
  refine entryW (lv := [(0, .ref mo)]) rfl (Nat.le_of_ble_eq_true rfl) (fun ls hl => ?_)
  obtain ⟨z, hz⟩ : ∃ z, z = sp_Mo_deflection o now := ⟨_, rfl⟩
  rw [← hz]
  unfold sp_Mo_deflection at hz
  unfold ok_Mo_deflection at hok
  refine lv_aload_n hx hb d_Mo_deflection_0 rfl (lv_at hl 0 rfl) ?_
  refine lv_iconst (v := 0) hx hb d_Mo_deflection_1 (by decide) ?_
  refine pfI C hP hD hS 0 6 fkMo rfl (by decide) rfl qf_Mo_107 rfl rfl rfl (Nat.le_of_ble_eq_true rfl) (ff := fun o => fMo a o) (sMo_6 _ _ _) d_Mo_deflection_2 (fun o_1 eo_1 H locs hP hD hS => ?_)
  have hP : va_P g.1 vwCl (wMo g mo a o_1 now dr pa sa iS bu tq rT wT sK sA sB sE oq bS bE bL rp) H := hP
  have hD : va_D (inW (wMo g mo a o now dr pa sa iS bu tq rT wT sK sA sB sE oq bS bE bL rp)) (wMo g mo a o_1 now dr pa sa iS bu tq rT wT sK sA sB sE oq bS bE bL rp) := hD
  have hz := lett_z hz eo_1
  have hok := lett_o hok eo_1
  refine lv_aload_n hx hb d_Mo_deflection_5 rfl (lv_at hl 0 rfl) ?_
  have hs2 := hok.1
  have hok := hok.2
  have hB : SubW g (inW (wMo g mo a o now dr pa sa iS bu tq rT wT sK sA sB sE oq bS bE bL rp)) s (wMo g mo a o_1 now dr pa sa iS bu tq rT wT sK sA sB sE oq bS bE bL rp) _ (List.range _) _ _ := (subF hP hD hS)
  refine goL0 hB (run_v C mf_Mo_deflectionNow qm_Mo_220 (c_Mo_deflectionNow l g mo a o_1 now dr pa sa iS bu tq rT wT sK sA sB sE oq bS bE bL rp hs2) rfl rfl ⟨Nat.le_of_ble_eq_true rfl, Nat.le_of_ble_eq_true rfl⟩ ⟨Nat.le_of_ble_eq_true rfl, Nat.le_of_ble_eq_true rfl⟩ hB rfl rfl hl rfl rfl (Nat.le_of_ble_eq_true rfl) d_Mo_deflection_6) (fun y3 ey3 H locs hP hS => ?_)
  have hz := lett_z hz ey3
  exact endL1 C hz hP hS d_Mo_deflection_9
abbrev rm_Mo_current : Room := { frames := 6, cells := 0, slots := 0, locals := 133 }
noncomputable def sp_Mo_current (o : IV) (now : LV) : Int64 × IV := lett (upd o 6 (0 : Int32)) fun (o_1 : IV) => lett (sp_Mo_currentNow now) fun (y3 : Int64) => (y3, o_1)
def ok_Mo_current (o : IV) (now : LV) : Prop := lett (upd o 6 (0 : Int32)) fun (o_1 : IV) => (ok_Mo_currentNow now) ∧ True
set_option maxRecDepth 100000 in
set_option maxHeartbeats 4000000 in
theorem c_Mo_current (l : Launch) (g : GX) (mo : Nat) (a : Nat → Nat) (o : IV) (now : LV) (dr : LV) (pa : LV) (sa : LV) (iS : IV) (bu : IV) (tq : IV) (rT : IV) (wT : IV) (sK : IV) (sA : IV) (sB : IV) (sE : IV) (oq : IV) (bS : IV) (bE : IV) (bL : IV) (rp : IV)  (hok : ok_Mo_current o now) : Met l y_Mo_current (wsY y_Mo_current b_Mo_current 1 (some .long)) rm_Mo_current (CP g [.ref mo] (wMo g mo a o now dr pa sa iS bu tq rT wT sK sA sB sE oq bS bE bL rp)) (CL g (wMo g mo a o now dr pa sa iS bu tq rT wT sK sA sB sE oq bS bE bL rp) (fun u : IV => wMo g mo a u now dr pa sa iS bu tq rT wT sK sA sB sE oq bS bE bL rp) (sp_Mo_current o now)) 0 0 (inW (wMo g mo a o now dr pa sa iS bu tq rT wT sK sA sB sE oq bS bE bL rp)) := by
  refine Met.ofW (cc := b_Mo_current) (maxL := 1) (ret := (some .long)) pn_Mo rfl ?_
  intro p e s m args below meth c s₁ B hml hv
  obtain ⟨rfl, C, hP, hD, hS⟩ := enter "DecadeBridgeModel" rfl B hml hv
  obtain ⟨hx, hb, hr, hml, hown, hlk, hts, hK, hZo, hZ⟩ := id C
  refine entryW (lv := [(0, .ref mo)]) rfl (Nat.le_of_ble_eq_true rfl) (fun ls hl => ?_)
  obtain ⟨z, hz⟩ : ∃ z, z = sp_Mo_current o now := ⟨_, rfl⟩
  rw [← hz]
  unfold sp_Mo_current at hz
  unfold ok_Mo_current at hok
  refine lv_aload_n hx hb d_Mo_current_0 rfl (lv_at hl 0 rfl) ?_
  refine lv_iconst (v := 0) hx hb d_Mo_current_1 (by decide) ?_
  refine pfI C hP hD hS 0 6 fkMo rfl (by decide) rfl qf_Mo_107 rfl rfl rfl (Nat.le_of_ble_eq_true rfl) (ff := fun o => fMo a o) (sMo_6 _ _ _) d_Mo_current_2 (fun o_1 eo_1 H locs hP hD hS => ?_)
  have hP : va_P g.1 vwCl (wMo g mo a o_1 now dr pa sa iS bu tq rT wT sK sA sB sE oq bS bE bL rp) H := hP
  have hD : va_D (inW (wMo g mo a o now dr pa sa iS bu tq rT wT sK sA sB sE oq bS bE bL rp)) (wMo g mo a o_1 now dr pa sa iS bu tq rT wT sK sA sB sE oq bS bE bL rp) := hD
  have hz := lett_z hz eo_1
  have hok := lett_o hok eo_1
  refine lv_aload_n hx hb d_Mo_current_5 rfl (lv_at hl 0 rfl) ?_
  have hs2 := hok.1
  have hok := hok.2
  have hB : SubW g (inW (wMo g mo a o now dr pa sa iS bu tq rT wT sK sA sB sE oq bS bE bL rp)) s (wMo g mo a o_1 now dr pa sa iS bu tq rT wT sK sA sB sE oq bS bE bL rp) _ (List.range _) _ _ := (subF hP hD hS)
  refine goL0 hB (run_v C mf_Mo_currentNow qm_Mo_182 (c_Mo_currentNow l g mo a o_1 now dr pa sa iS bu tq rT wT sK sA sB sE oq bS bE bL rp hs2) rfl rfl ⟨Nat.le_of_ble_eq_true rfl, Nat.le_of_ble_eq_true rfl⟩ ⟨Nat.le_of_ble_eq_true rfl, Nat.le_of_ble_eq_true rfl⟩ hB rfl rfl hl rfl rfl (Nat.le_of_ble_eq_true rfl) d_Mo_current_6) (fun y3 ey3 H locs hP hS => ?_)
  have hz := lett_z hz ey3
  exact endL1 C hz hP hS d_Mo_current_9
abbrev rm_Mo_power : Room := { frames := 7, cells := 0, slots := 0, locals := 156 }
noncomputable def sp_Mo_power (p1 : Int32) (o : IV) (now : LV) : Int64 × IV := lett (upd o 6 (0 : Int32)) fun (o_1 : IV) => lett (sp_Mo_powerOf p1 now) fun (y3 : Int64) => (y3, o_1)
def ok_Mo_power (p1 : Int32) (o : IV) (now : LV) : Prop := lett (upd o 6 (0 : Int32)) fun (o_1 : IV) => (ok_Mo_powerOf p1 now) ∧ True
set_option maxRecDepth 100000 in
set_option maxHeartbeats 4000000 in
theorem c_Mo_power (l : Launch) (g : GX) (mo : Nat) (a : Nat → Nat) (o : IV) (now : LV) (dr : LV) (pa : LV) (sa : LV) (iS : IV) (bu : IV) (tq : IV) (rT : IV) (wT : IV) (sK : IV) (sA : IV) (sB : IV) (sE : IV) (oq : IV) (bS : IV) (bE : IV) (bL : IV) (rp : IV) (p1 : Int32) (hok : ok_Mo_power p1 o now) : Met l y_Mo_power (wsY y_Mo_power b_Mo_power 2 (some .long)) rm_Mo_power (CP g [.ref mo, .int p1] (wMo g mo a o now dr pa sa iS bu tq rT wT sK sA sB sE oq bS bE bL rp)) (CL g (wMo g mo a o now dr pa sa iS bu tq rT wT sK sA sB sE oq bS bE bL rp) (fun u : IV => wMo g mo a u now dr pa sa iS bu tq rT wT sK sA sB sE oq bS bE bL rp) (sp_Mo_power p1 o now)) 0 0 (inW (wMo g mo a o now dr pa sa iS bu tq rT wT sK sA sB sE oq bS bE bL rp)) := by
  refine Met.ofW (cc := b_Mo_power) (maxL := 2) (ret := (some .long)) pn_Mo rfl ?_
  intro p e s m args below meth c s₁ B hml hv
  obtain ⟨rfl, C, hP, hD, hS⟩ := enter "DecadeBridgeModel" rfl B hml hv
  obtain ⟨hx, hb, hr, hml, hown, hlk, hts, hK, hZo, hZ⟩ := id C
  refine entryW (lv := [(0, .ref mo), (1, .int p1)]) rfl (Nat.le_of_ble_eq_true rfl) (fun ls hl => ?_)
  obtain ⟨z, hz⟩ : ∃ z, z = sp_Mo_power p1 o now := ⟨_, rfl⟩
  rw [← hz]
  unfold sp_Mo_power at hz
  unfold ok_Mo_power at hok
  refine lv_aload_n hx hb d_Mo_power_0 rfl (lv_at hl 0 rfl) ?_
  refine lv_iconst (v := 0) hx hb d_Mo_power_1 (by decide) ?_
  refine pfI C hP hD hS 0 6 fkMo rfl (by decide) rfl qf_Mo_107 rfl rfl rfl (Nat.le_of_ble_eq_true rfl) (ff := fun o => fMo a o) (sMo_6 _ _ _) d_Mo_power_2 (fun o_1 eo_1 H locs hP hD hS => ?_)
  have hP : va_P g.1 vwCl (wMo g mo a o_1 now dr pa sa iS bu tq rT wT sK sA sB sE oq bS bE bL rp) H := hP
  have hD : va_D (inW (wMo g mo a o now dr pa sa iS bu tq rT wT sK sA sB sE oq bS bE bL rp)) (wMo g mo a o_1 now dr pa sa iS bu tq rT wT sK sA sB sE oq bS bE bL rp) := hD
  have hz := lett_z hz eo_1
  have hok := lett_o hok eo_1
  refine lv_aload_n hx hb d_Mo_power_5 rfl (lv_at hl 0 rfl) ?_
  refine lv_iload_n hx hb d_Mo_power_6 rfl (lv_at hl 1 rfl) ?_
  have hs2 := hok.1
  have hok := hok.2
  have hB : SubW g (inW (wMo g mo a o now dr pa sa iS bu tq rT wT sK sA sB sE oq bS bE bL rp)) s (wMo g mo a o_1 now dr pa sa iS bu tq rT wT sK sA sB sE oq bS bE bL rp) _ (List.range _) _ _ := (subF hP hD hS)
  refine goL0 hB (run_v C mf_Mo_powerOf qm_Mo_198 (c_Mo_powerOf l g mo a o_1 now dr pa sa iS bu tq rT wT sK sA sB sE oq bS bE bL rp p1 hs2) rfl rfl ⟨Nat.le_of_ble_eq_true rfl, Nat.le_of_ble_eq_true rfl⟩ ⟨Nat.le_of_ble_eq_true rfl, Nat.le_of_ble_eq_true rfl⟩ hB rfl rfl hl rfl rfl (Nat.le_of_ble_eq_true rfl) d_Mo_power_7) (fun y3 ey3 H locs hP hS => ?_)
  have hz := lett_z hz ey3
  exact endL1 C hz hP hS d_Mo_power_10
abbrev rm_Mo_whyNot : Room := { frames := 7, cells := 0, slots := 0, locals := 153 }
noncomputable def sp_Mo_whyNot (o : IV) (now : LV) : Int32 × IV := lett (upd o 6 (0 : Int32)) fun (o_1 : IV) => if (now 22) = (0 : Int64) then (((1 : Int32), o_1)) else (lett (sp_Mo_canRead now) fun (y4 : Int32) => if y4 = 0 then (((2 : Int32), o_1)) else (((0 : Int32), o_1)))
def ok_Mo_whyNot (o : IV) (now : LV) : Prop := lett (upd o 6 (0 : Int32)) fun (o_1 : IV) => (((now 22) = (0 : Int64) → True) ∧ (¬ ((now 22) = (0 : Int64)) → (ok_Mo_canRead now) ∧ True))
set_option maxRecDepth 100000 in
set_option maxHeartbeats 4000000 in
theorem c_Mo_whyNot (l : Launch) (g : GX) (mo : Nat) (a : Nat → Nat) (o : IV) (now : LV) (dr : LV) (pa : LV) (sa : LV) (iS : IV) (bu : IV) (tq : IV) (rT : IV) (wT : IV) (sK : IV) (sA : IV) (sB : IV) (sE : IV) (oq : IV) (bS : IV) (bE : IV) (bL : IV) (rp : IV)  (hok : ok_Mo_whyNot o now) : Met l y_Mo_whyNot (wsY y_Mo_whyNot b_Mo_whyNot 1 (some .int)) rm_Mo_whyNot (CP g [.ref mo] (wMo g mo a o now dr pa sa iS bu tq rT wT sK sA sB sE oq bS bE bL rp)) (CI g (wMo g mo a o now dr pa sa iS bu tq rT wT sK sA sB sE oq bS bE bL rp) (fun u : IV => wMo g mo a u now dr pa sa iS bu tq rT wT sK sA sB sE oq bS bE bL rp) (sp_Mo_whyNot o now)) 0 0 (inW (wMo g mo a o now dr pa sa iS bu tq rT wT sK sA sB sE oq bS bE bL rp)) := by
  refine Met.ofW (cc := b_Mo_whyNot) (maxL := 1) (ret := (some .int)) pn_Mo rfl ?_
  intro p e s m args below meth c s₁ B hml hv
  obtain ⟨rfl, C, hP, hD, hS⟩ := enter "DecadeBridgeModel" rfl B hml hv
  obtain ⟨hx, hb, hr, hml, hown, hlk, hts, hK, hZo, hZ⟩ := id C
  refine entryW (lv := [(0, .ref mo)]) rfl (Nat.le_of_ble_eq_true rfl) (fun ls hl => ?_)
  obtain ⟨z, hz⟩ : ∃ z, z = sp_Mo_whyNot o now := ⟨_, rfl⟩
  rw [← hz]
  unfold sp_Mo_whyNot at hz
  unfold ok_Mo_whyNot at hok
  refine lv_aload_n hx hb d_Mo_whyNot_0 rfl (lv_at hl 0 rfl) ?_
  refine lv_iconst (v := 0) hx hb d_Mo_whyNot_1 (by decide) ?_
  refine pfI C hP hD hS 0 6 fkMo rfl (by decide) rfl qf_Mo_107 rfl rfl rfl (Nat.le_of_ble_eq_true rfl) (ff := fun o => fMo a o) (sMo_6 _ _ _) d_Mo_whyNot_2 (fun o_1 eo_1 H locs hP hD hS => ?_)
  have hP : va_P g.1 vwCl (wMo g mo a o_1 now dr pa sa iS bu tq rT wT sK sA sB sE oq bS bE bL rp) H := hP
  have hD : va_D (inW (wMo g mo a o now dr pa sa iS bu tq rT wT sK sA sB sE oq bS bE bL rp)) (wMo g mo a o_1 now dr pa sa iS bu tq rT wT sK sA sB sE oq bS bE bL rp) := hD
  have hz := lett_z hz eo_1
  have hok := lett_o hok eo_1
  refine lv_aload_n hx hb d_Mo_whyNot_5 rfl (lv_at hl 0 rfl) ?_
  refine gf C hP 0 0 fkMo rfl (by decide) rfl qf_Mo_7 (gMo_0 _ _) d_Mo_whyNot_6 ?_
  refine lv_bipush (v := 22) hx hb d_Mo_whyNot_9 (by decide) ?_
  refine ldL C hP 1 rfl vi_22_215 cn_22 d_Mo_whyNot_11 ?_
  refine lv_lconst (v := 0) hx hb d_Mo_whyNot_12 (by decide) ?_
  refine lc_ne (tgt := 21) hx hb d_Mo_whyNot_13 d_Mo_whyNot_14 (by decide) (fun c2 => ?_) (fun c2 => ?_)
  · have hz := hz.trans (if_neg c2)
    have hok := hok.2 c2
    refine lv_aload_n hx hb d_Mo_whyNot_21 rfl (lv_at hl 0 rfl) ?_
    have hs3 := hok.1
    have hok := hok.2
    have hB : SubW g (inW (wMo g mo a o now dr pa sa iS bu tq rT wT sK sA sB sE oq bS bE bL rp)) s (wMo g mo a o_1 now dr pa sa iS bu tq rT wT sK sA sB sE oq bS bE bL rp) _ (List.range _) _ _ := (subF hP hD hS)
    refine goI0 hB (run_v C mf_Mo_canRead qm_Mo_234 (c_Mo_canRead l g mo a o_1 now dr pa sa iS bu tq rT wT sK sA sB sE oq bS bE bL rp hs3) rfl rfl ⟨Nat.le_of_ble_eq_true rfl, Nat.le_of_ble_eq_true rfl⟩ ⟨Nat.le_of_ble_eq_true rfl, Nat.le_of_ble_eq_true rfl⟩ hB rfl rfl hl rfl rfl (Nat.le_of_ble_eq_true rfl) d_Mo_whyNot_22) (fun y4 ey4 H locs hP hS => ?_)
    have hz := lett_z hz ey4
    refine lv_if_eq (tgt := 32) hx hb d_Mo_whyNot_25 (by decide) (fun c5 => ?_) (fun c5 => ?_)
    · have hz := hz.trans (if_pos c5)
      refine lv_iconst (v := 2) hx hb d_Mo_whyNot_32 (by decide) ?_
      exact endI1 C hz hP hS d_Mo_whyNot_33
    · have hz := hz.trans (if_neg c5)
      refine lv_iconst (v := 0) hx hb d_Mo_whyNot_28 (by decide) ?_
      refine lv_goto (tgt := 33) hx hb d_Mo_whyNot_29 (by decide) ?_
      exact endI1 C hz hP hS d_Mo_whyNot_33
  · have hz := hz.trans (if_pos c2)
    refine lv_iconst (v := 1) hx hb d_Mo_whyNot_17 (by decide) ?_
    refine lv_goto (tgt := 33) hx hb d_Mo_whyNot_18 (by decide) ?_
    exact endI1 C hz hP hS d_Mo_whyNot_33
abbrev rm_Mo_energy : Room := { frames := 0, cells := 0, slots := 0, locals := 0 }
noncomputable def sp_Mo_energy (o : IV) (now : LV) : Int64 × IV := lett (upd o 6 (0 : Int32)) fun (o_1 : IV) => (now 40, o_1)
set_option maxRecDepth 100000 in
set_option maxHeartbeats 4000000 in
theorem c_Mo_energy (l : Launch) (g : GX) (mo : Nat) (a : Nat → Nat) (o : IV) (now : LV) (dr : LV) (pa : LV) (sa : LV) (iS : IV) (bu : IV) (tq : IV) (rT : IV) (wT : IV) (sK : IV) (sA : IV) (sB : IV) (sE : IV) (oq : IV) (bS : IV) (bE : IV) (bL : IV) (rp : IV)  : Met l y_Mo_energy (wsY y_Mo_energy b_Mo_energy 1 (some .long)) rm_Mo_energy (CP g [.ref mo] (wMo g mo a o now dr pa sa iS bu tq rT wT sK sA sB sE oq bS bE bL rp)) (CL g (wMo g mo a o now dr pa sa iS bu tq rT wT sK sA sB sE oq bS bE bL rp) (fun u : IV => wMo g mo a u now dr pa sa iS bu tq rT wT sK sA sB sE oq bS bE bL rp) (sp_Mo_energy o now)) 0 0 (inW (wMo g mo a o now dr pa sa iS bu tq rT wT sK sA sB sE oq bS bE bL rp)) := by
  refine Met.ofW (cc := b_Mo_energy) (maxL := 1) (ret := (some .long)) pn_Mo rfl ?_
  intro p e s m args below meth c s₁ B hml hv
  obtain ⟨rfl, C, hP, hD, hS⟩ := enter "DecadeBridgeModel" rfl B hml hv
  obtain ⟨hx, hb, hr, hml, hown, hlk, hts, hK, hZo, hZ⟩ := id C
  refine entryW (lv := [(0, .ref mo)]) rfl (Nat.le_of_ble_eq_true rfl) (fun ls hl => ?_)
  obtain ⟨z, hz⟩ : ∃ z, z = sp_Mo_energy o now := ⟨_, rfl⟩
  rw [← hz]
  unfold sp_Mo_energy at hz
  refine lv_aload_n hx hb d_Mo_energy_0 rfl (lv_at hl 0 rfl) ?_
  refine lv_iconst (v := 0) hx hb d_Mo_energy_1 (by decide) ?_
  refine pfI C hP hD hS 0 6 fkMo rfl (by decide) rfl qf_Mo_107 rfl rfl rfl (Nat.le_of_ble_eq_true rfl) (ff := fun o => fMo a o) (sMo_6 _ _ _) d_Mo_energy_2 (fun o_1 eo_1 H locs hP hD hS => ?_)
  have hP : va_P g.1 vwCl (wMo g mo a o_1 now dr pa sa iS bu tq rT wT sK sA sB sE oq bS bE bL rp) H := hP
  have hD : va_D (inW (wMo g mo a o now dr pa sa iS bu tq rT wT sK sA sB sE oq bS bE bL rp)) (wMo g mo a o_1 now dr pa sa iS bu tq rT wT sK sA sB sE oq bS bE bL rp) := hD
  have hz := lett_z hz eo_1
  refine lv_aload_n hx hb d_Mo_energy_5 rfl (lv_at hl 0 rfl) ?_
  refine gf C hP 0 0 fkMo rfl (by decide) rfl qf_Mo_7 (gMo_0 _ _) d_Mo_energy_6 ?_
  refine lv_bipush (v := 40) hx hb d_Mo_energy_9 (by decide) ?_
  refine ldL C hP 1 rfl vi_40_215 cn_40 d_Mo_energy_11 ?_
  exact endL1 C hz hP hS d_Mo_energy_12
abbrev rm_Mo_reading : Room := { frames := 1, cells := 0, slots := 0, locals := 25 }
noncomputable def sp_Mo_reading (p1 : Int32) (o : IV) (now : LV) : Int32 × IV := lett (upd o 6 (0 : Int32)) fun (o_1 : IV) => lett (sp_Mo_in p1.toInt64 (0 : Int64) ((now 43) - (1 : Int64))) fun (y2 : Int32) => if y2 = 0 then (((-1000000000 : Int32), o_1)) else (((now ((44 : Int32) + p1).toNatClampNeg).toInt32, o_1))
def ok_Mo_reading (p1 : Int32) (o : IV) (now : LV) : Prop := lett (upd o 6 (0 : Int32)) fun (o_1 : IV) => lett (sp_Mo_in p1.toInt64 (0 : Int64) ((now 43) - (1 : Int64))) fun (y2 : Int32) => ((y2 = 0 → True) ∧ (¬ (y2 = 0) → (vp_in ((44 : Int32) + p1) 215) ∧ True))
set_option maxRecDepth 100000 in
set_option maxHeartbeats 4000000 in
theorem c_Mo_reading (l : Launch) (g : GX) (mo : Nat) (a : Nat → Nat) (o : IV) (now : LV) (dr : LV) (pa : LV) (sa : LV) (iS : IV) (bu : IV) (tq : IV) (rT : IV) (wT : IV) (sK : IV) (sA : IV) (sB : IV) (sE : IV) (oq : IV) (bS : IV) (bE : IV) (bL : IV) (rp : IV) (p1 : Int32) (hok : ok_Mo_reading p1 o now) : Met l y_Mo_reading (wsY y_Mo_reading b_Mo_reading 2 (some .int)) rm_Mo_reading (CP g [.ref mo, .int p1] (wMo g mo a o now dr pa sa iS bu tq rT wT sK sA sB sE oq bS bE bL rp)) (CI g (wMo g mo a o now dr pa sa iS bu tq rT wT sK sA sB sE oq bS bE bL rp) (fun u : IV => wMo g mo a u now dr pa sa iS bu tq rT wT sK sA sB sE oq bS bE bL rp) (sp_Mo_reading p1 o now)) 0 0 (inW (wMo g mo a o now dr pa sa iS bu tq rT wT sK sA sB sE oq bS bE bL rp)) := by
  refine Met.ofW (cc := b_Mo_reading) (maxL := 2) (ret := (some .int)) pn_Mo rfl ?_
  intro p e s m args below meth c s₁ B hml hv
  obtain ⟨rfl, C, hP, hD, hS⟩ := enter "DecadeBridgeModel" rfl B hml hv
  obtain ⟨hx, hb, hr, hml, hown, hlk, hts, hK, hZo, hZ⟩ := id C
  refine entryW (lv := [(0, .ref mo), (1, .int p1)]) rfl (Nat.le_of_ble_eq_true rfl) (fun ls hl => ?_)
  obtain ⟨z, hz⟩ : ∃ z, z = sp_Mo_reading p1 o now := ⟨_, rfl⟩
  rw [← hz]
  unfold sp_Mo_reading at hz
  unfold ok_Mo_reading at hok
  refine lv_aload_n hx hb d_Mo_reading_0 rfl (lv_at hl 0 rfl) ?_
  refine lv_iconst (v := 0) hx hb d_Mo_reading_1 (by decide) ?_
  refine pfI C hP hD hS 0 6 fkMo rfl (by decide) rfl qf_Mo_107 rfl rfl rfl (Nat.le_of_ble_eq_true rfl) (ff := fun o => fMo a o) (sMo_6 _ _ _) d_Mo_reading_2 (fun o_1 eo_1 H locs hP hD hS => ?_)
  have hP : va_P g.1 vwCl (wMo g mo a o_1 now dr pa sa iS bu tq rT wT sK sA sB sE oq bS bE bL rp) H := hP
  have hD : va_D (inW (wMo g mo a o now dr pa sa iS bu tq rT wT sK sA sB sE oq bS bE bL rp)) (wMo g mo a o_1 now dr pa sa iS bu tq rT wT sK sA sB sE oq bS bE bL rp) := hD
  have hz := lett_z hz eo_1
  have hok := lett_o hok eo_1
  refine lv_iload_n hx hb d_Mo_reading_5 rfl (lv_at hl 1 rfl) ?_
  refine lv_i2l hx hb d_Mo_reading_6 rfl ?_
  refine lv_lconst (v := 0) hx hb d_Mo_reading_7 (by decide) ?_
  refine lv_aload_n hx hb d_Mo_reading_8 rfl (lv_at hl 0 rfl) ?_
  refine gf C hP 0 0 fkMo rfl (by decide) rfl qf_Mo_7 (gMo_0 _ _) d_Mo_reading_9 ?_
  refine lv_bipush (v := 43) hx hb d_Mo_reading_12 (by decide) ?_
  refine ldL C hP 1 rfl vi_43_215 cn_43 d_Mo_reading_14 ?_
  refine lv_lconst (v := 1) hx hb d_Mo_reading_15 (by decide) ?_
  refine lv_lsub hx hb d_Mo_reading_16 ?_
  have hB : SubW g (inW (wMo g mo a o now dr pa sa iS bu tq rT wT sK sA sB sE oq bS bE bL rp)) s (wMo g mo a o_1 now dr pa sa iS bu tq rT wT sK sA sB sE oq bS bE bL rp) _ (List.range _) _ _ := (subF hP hD hS)
  refine goI0 hB (run_s C mf_Mo_in qm_Mo_118 (c_Mo_in l g mo a o_1 now dr pa sa iS bu tq rT wT sK sA sB sE oq bS bE bL rp p1.toInt64 (0 : Int64) ((now 43) - (1 : Int64))) rfl rfl ⟨Nat.le_of_ble_eq_true rfl, Nat.le_of_ble_eq_true rfl⟩ ⟨Nat.le_of_ble_eq_true rfl, Nat.le_of_ble_eq_true rfl⟩ hB hl rfl rfl (Nat.le_of_ble_eq_true rfl) d_Mo_reading_17) (fun y2 ey2 H locs hP hS => ?_)
  have hz := lett_z hz ey2
  have hok := lett_o hok ey2
  refine lv_if_eq (tgt := 36) hx hb d_Mo_reading_20 (by decide) (fun c3 => ?_) (fun c3 => ?_)
  · have hz := hz.trans (if_pos c3)
    refine lv_ldcw hx hb hown (hts _ qk_Mo_429) d_Mo_reading_36 ?_
    exact endI1 C hz hP hS d_Mo_reading_39
  · have hz := hz.trans (if_neg c3)
    have hok := hok.2 c3
    refine lv_aload_n hx hb d_Mo_reading_23 rfl (lv_at hl 0 rfl) ?_
    refine gf C hP 0 0 fkMo rfl (by decide) rfl qf_Mo_7 (gMo_0 _ _) d_Mo_reading_24 ?_
    refine lv_bipush (v := 44) hx hb d_Mo_reading_27 (by decide) ?_
    refine lv_iload_n hx hb d_Mo_reading_29 rfl (lv_at hl 1 rfl) ?_
    refine lv_iadd hx hb d_Mo_reading_30 ?_
    have hs4 := hok.1
    have hok := hok.2
    refine ldL C hP 1 rfl hs4 rfl d_Mo_reading_31 ?_
    refine lv_l2i hx hb d_Mo_reading_32 rfl ?_
    refine lv_goto (tgt := 39) hx hb d_Mo_reading_33 (by decide) ?_
    exact endI1 C hz hP hS d_Mo_reading_39
abbrev rm_Mo_meanReading : Room := { frames := 0, cells := 0, slots := 0, locals := 0 }
def HL_Mo_meanReading_9 (p : Program) (l : Launch) (e : Env) (s : State) (m : MethodId) (args : Array Value) (below : List Frame) (meth : Method) (c : Code) (g : GX) (mo : Nat) (a : Nat → Nat) (ws0 : va_W) (o_1 : IV) (now : LV) (dr : LV) (pa : LV) (sa : LV) (iS : IV) (bu : IV) (tq : IV) (rT : IV) (wT : IV) (sK : IV) (sA : IV) (sB : IV) (sE : IV) (oq : IV) (bS : IV) (bE : IV) (bL : IV) (rp : IV) (sp : Int64 → Int32 → (UInt64 × IV)) (ok : Int64 → Int32 → Prop) : Prop := ∀ (x1p9 : Int64) (x3p9 : Int32), ok x1p9 x3p9 → ∀ z : (UInt64 × IV), z = sp x1p9 x3p9 → ∀ (H : Heap) (locs : List Loc) (ls : Array Slot), va_P g.1 vwCl (wMo g mo a o_1 now dr pa sa iS bu tq rT wT sK sA sB sE oq bS bE bL rp) H → va_D (inW ws0) (wMo g mo a o_1 now dr pa sa iS bu tq rT wT sK sA sB sE oq bS bE bL rp) → va_S (inW ws0) s.heap H locs → lv_has ls 4 [(0, .ref mo), (1, .long x1p9), (3, .int x3p9)] → W p l e rm_Mo_meanReading s m args below meth c H locs 0 0 (MQ below (CD g ws0 (fun u : IV => wMo g mo a u now dr pa sa iS bu tq rT wT sK sA sB sE oq bS bE bL rp) z) args s 0 0 (inW ws0)) (F0 m 9 ls [])
def HL_Mo_meanReading_40 (p : Program) (l : Launch) (e : Env) (s : State) (m : MethodId) (args : Array Value) (below : List Frame) (meth : Method) (c : Code) (g : GX) (mo : Nat) (a : Nat → Nat) (ws0 : va_W) (o_1 : IV) (now : LV) (dr : LV) (pa : LV) (sa : LV) (iS : IV) (bu : IV) (tq : IV) (rT : IV) (wT : IV) (sK : IV) (sA : IV) (sB : IV) (sE : IV) (oq : IV) (bS : IV) (bE : IV) (bL : IV) (rp : IV) (x1p9 : Int64) (sp : (UInt64 × IV)) (ok : Prop) : Prop := ∀ (_ : Unit), ok → ∀ z : (UInt64 × IV), z = sp → ∀ (H : Heap) (locs : List Loc) (ls : Array Slot), va_P g.1 vwCl (wMo g mo a o_1 now dr pa sa iS bu tq rT wT sK sA sB sE oq bS bE bL rp) H → va_D (inW ws0) (wMo g mo a o_1 now dr pa sa iS bu tq rT wT sK sA sB sE oq bS bE bL rp) → va_S (inW ws0) s.heap H locs → lv_has ls 4 [(0, .ref mo), (1, .long x1p9)] → W p l e rm_Mo_meanReading s m args below meth c H locs 0 0 (MQ below (CD g ws0 (fun u : IV => wMo g mo a u now dr pa sa iS bu tq rT wT sK sA sB sE oq bS bE bL rp) z) args s 0 0 (inW ws0)) (F0 m 40 ls [])
noncomputable def sp_Mo_meanReading_40 (now : LV) (o_1 : IV) (x1p9 : Int64)   : UInt64 × IV := if (now 43) = (0 : Int64) then ((FP.dconst0, o_1)) else ((FP.ddiv (FP.l2d x1p9) (FP.l2d (now 43)), o_1))
def ok_Mo_meanReading_40 (now : LV) (o_1 : IV) (x1p9 : Int64)    : Prop := (((now 43) = (0 : Int64) → True) ∧ (¬ ((now 43) = (0 : Int64)) → (vf_n64 (FP.ddiv (FP.l2d x1p9) (FP.l2d (now 43)))) ∧ True))
set_option maxRecDepth 100000 in
set_option maxHeartbeats 4000000 in
theorem k_Mo_meanReading_40 {p : Program} {l : Launch} {e : Env} {s : State} {m : MethodId} {args : Array Value} {below : List Frame} {meth : Method} {c : Code} {g : GX} {mo : Nat} {a : Nat → Nat} {ws0 : va_W} {o_1 : IV} {now : LV} {dr : LV} {pa : LV} {sa : LV} {iS : IV} {bu : IV} {tq : IV} {rT : IV} {wT : IV} {sK : IV} {sA : IV} {sB : IV} {sE : IV} {oq : IV} {bS : IV} {bE : IV} {bL : IV} {rp : IV} {x1p9 : Int64}  (C : Cx p s m args meth c (inW ws0) g "DecadeBridgeModel" b_Mo_meanReading (some .double) 4)  : HL_Mo_meanReading_40 p l e s m args below meth c g mo a ws0 o_1 now dr pa sa iS bu tq rT wT sK sA sB sE oq bS bE bL rp x1p9 (sp_Mo_meanReading_40 now o_1 x1p9 ) (ok_Mo_meanReading_40 now o_1 x1p9  ) := by
  intro _ hok z hz H locs ls hP hD hS hl
  obtain ⟨hx, hb, hr, hml, hown, hlk, hts, hK, hZo, hZ⟩ := id C
  unfold sp_Mo_meanReading_40 at hz
  unfold ok_Mo_meanReading_40 at hok
  refine lv_aload_n hx hb d_Mo_meanReading_40 rfl (lv_at hl 0 rfl) ?_
  refine gf C hP 0 0 fkMo rfl (by decide) rfl qf_Mo_7 (gMo_0 _ _) d_Mo_meanReading_41 ?_
  refine lv_bipush (v := 43) hx hb d_Mo_meanReading_44 (by decide) ?_
  refine ldL C hP 1 rfl vi_43_215 cn_43 d_Mo_meanReading_46 ?_
  refine lv_lconst (v := 0) hx hb d_Mo_meanReading_47 (by decide) ?_
  refine lc_ne (tgt := 56) hx hb d_Mo_meanReading_48 d_Mo_meanReading_49 (by decide) (fun c6 => ?_) (fun c6 => ?_)
  · have hz := hz.trans (if_neg c6)
    have hok := hok.2 c6
    refine lv_lload_n hx hb d_Mo_meanReading_56 rfl (lv_at hl 1 rfl) ?_
    refine lv_l2d hx hb d_Mo_meanReading_57 ?_
    refine lv_aload_n hx hb d_Mo_meanReading_58 rfl (lv_at hl 0 rfl) ?_
    refine gf C hP 0 0 fkMo rfl (by decide) rfl qf_Mo_7 (gMo_0 _ _) d_Mo_meanReading_59 ?_
    refine lv_bipush (v := 43) hx hb d_Mo_meanReading_62 (by decide) ?_
    refine ldL C hP 1 rfl vi_43_215 cn_43 d_Mo_meanReading_64 ?_
    refine lv_l2d hx hb d_Mo_meanReading_65 ?_
    have hs7 := hok.1
    have hok := hok.2
    refine lv_ddiv hx hb d_Mo_meanReading_66 hs7 ?_
    exact endD1 C hz hP hS d_Mo_meanReading_67
  · have hz := hz.trans (if_pos c6)
    refine lv_dconst0 hx hb d_Mo_meanReading_52 ?_
    refine lv_goto (tgt := 67) hx hb d_Mo_meanReading_53 (by decide) ?_
    exact endD1 C hz hP hS d_Mo_meanReading_67
noncomputable def bd_Mo_meanReading_9 (now : LV) (o_1 : IV) (r9 : Int64 → Int32 → (UInt64 × IV)) (x1p9 : Int64) (x3p9 : Int32) : UInt64 × IV := if (now 43) ≤ x3p9.toInt64 then (sp_Mo_meanReading_40 now o_1 x1p9) else (lett (x1p9 + (now ((44 : Int32) + x3p9).toNatClampNeg)) fun (v4 : Int64) => lett (x3p9 + (1 : Int32)) fun (v5 : Int32) => r9 v4 v5)
def okb_Mo_meanReading_9 (now : LV) (o_1 : IV) (r9 : Int64 → Int32 → (UInt64 × IV)) (q9 : Int64 → Int32 → Prop) (x1p9 : Int64) (x3p9 : Int32) : Prop := (((now 43) ≤ x3p9.toInt64 → ok_Mo_meanReading_40 now o_1 x1p9) ∧ (¬ ((now 43) ≤ x3p9.toInt64) → (vp_in ((44 : Int32) + x3p9) 215) ∧ lett (x1p9 + (now ((44 : Int32) + x3p9).toNatClampNeg)) fun (v4 : Int64) => lett (x3p9 + (1 : Int32)) fun (v5 : Int32) => q9 v4 v5))
noncomputable def sp_Mo_meanReading_9 (now : LV) (o_1 : IV)  : Nat → Int64 → Int32 → (UInt64 × IV)
  | 0 => fun _ _ => default
  | f + 1 => bd_Mo_meanReading_9 now o_1  (sp_Mo_meanReading_9 now o_1  f)
def ok_Mo_meanReading_9 (now : LV) (o_1 : IV)   : Nat → Int64 → Int32 → Prop
  | 0 => fun _ _ => False
  | f + 1 => okb_Mo_meanReading_9 now o_1  (sp_Mo_meanReading_9 now o_1  f)  (ok_Mo_meanReading_9 now o_1   f)
set_option maxRecDepth 100000 in
set_option maxHeartbeats 4000000 in
theorem kb_Mo_meanReading_9 {p : Program} {l : Launch} {e : Env} {s : State} {m : MethodId} {args : Array Value} {below : List Frame} {meth : Method} {c : Code} {g : GX} {mo : Nat} {a : Nat → Nat} {ws0 : va_W} {o_1 : IV} {now : LV} {dr : LV} {pa : LV} {sa : LV} {iS : IV} {bu : IV} {tq : IV} {rT : IV} {wT : IV} {sK : IV} {sA : IV} {sB : IV} {sE : IV} {oq : IV} {bS : IV} {bE : IV} {bL : IV} {rp : IV}  (C : Cx p s m args meth c (inW ws0) g "DecadeBridgeModel" b_Mo_meanReading (some .double) 4) {r9 : Int64 → Int32 → (UInt64 × IV)} {q9 : Int64 → Int32 → Prop}  (ih9 : HL_Mo_meanReading_9 p l e s m args below meth c g mo a ws0 o_1 now dr pa sa iS bu tq rT wT sK sA sB sE oq bS bE bL rp r9 q9) : HL_Mo_meanReading_9 p l e s m args below meth c g mo a ws0 o_1 now dr pa sa iS bu tq rT wT sK sA sB sE oq bS bE bL rp (bd_Mo_meanReading_9 now o_1  r9) (okb_Mo_meanReading_9 now o_1  r9  q9) := by
  intro x1p9 x3p9 hok z hz H locs ls hP hD hS hl
  obtain ⟨hx, hb, hr, hml, hown, hlk, hts, hK, hZo, hZ⟩ := id C
  unfold bd_Mo_meanReading_9 at hz
  unfold okb_Mo_meanReading_9 at hok
  refine lv_iload_n hx hb d_Mo_meanReading_9 rfl (lv_at hl 2 rfl) ?_
  refine lv_i2l hx hb d_Mo_meanReading_10 rfl ?_
  refine lv_aload_n hx hb d_Mo_meanReading_11 rfl (lv_at hl 0 rfl) ?_
  refine gf C hP 0 0 fkMo rfl (by decide) rfl qf_Mo_7 (gMo_0 _ _) d_Mo_meanReading_12 ?_
  refine lv_bipush (v := 43) hx hb d_Mo_meanReading_15 (by decide) ?_
  refine ldL C hP 1 rfl vi_43_215 cn_43 d_Mo_meanReading_17 ?_
  refine lc_ge (tgt := 40) hx hb d_Mo_meanReading_18 d_Mo_meanReading_19 (by decide) (fun c2 => ?_) (fun c2 => ?_)
  · have hz := hz.trans (if_pos c2)
    have hok := hok.1 c2
    exact k_Mo_meanReading_40 C () hok _ hz _ _ ls hP hD hS (lv_sub hl [0, 1] rfl)
  · have hz := hz.trans (if_neg c2)
    have hok := hok.2 c2
    refine lv_lload_n hx hb d_Mo_meanReading_22 rfl (lv_at hl 1 rfl) ?_
    refine lv_aload_n hx hb d_Mo_meanReading_23 rfl (lv_at hl 0 rfl) ?_
    refine gf C hP 0 0 fkMo rfl (by decide) rfl qf_Mo_7 (gMo_0 _ _) d_Mo_meanReading_24 ?_
    refine lv_bipush (v := 44) hx hb d_Mo_meanReading_27 (by decide) ?_
    refine lv_iload_n hx hb d_Mo_meanReading_29 rfl (lv_at hl 2 rfl) ?_
    refine lv_iadd hx hb d_Mo_meanReading_30 ?_
    have hs3 := hok.1
    have hok := hok.2
    refine ldL C hP 1 rfl hs3 rfl d_Mo_meanReading_31 ?_
    refine lv_ladd hx hb d_Mo_meanReading_32 ?_
    refine lv_topl (fun v4 ev4 => ?_)
    have hz := lett_z hz ev4
    have hok := lett_o hok ev4
    refine lv_lstore_n (lv' := [(1, .long v4), (0, .ref mo), (3, .int x3p9)]) hx hb d_Mo_meanReading_33 rfl hl (by decide) rfl (fun ls hl => ?_)
    obtain ⟨v5, ev5⟩ : ∃ y : Int32, y = x3p9 + (1 : Int32) := ⟨_, rfl⟩
    have hz := lett_z hz ev5
    have hok := lett_o hok ev5
    refine lv_iinc (v := v5) (lv' := [(3, .int v5), (1, .long v4), (0, .ref mo)]) hx hb d_Mo_meanReading_34 hl (k := 2) rfl (by rw [ev5]; rfl) (by decide) rfl (fun ls hl => ?_)
    refine lv_goto (tgt := 9) hx hb d_Mo_meanReading_37 (by decide) ?_
    exact ih9 v4 v5 hok _ hz _ _ ls hP hD hS (lv_sub hl [2, 1, 0] rfl)
theorem k_Mo_meanReading_9 {p : Program} {l : Launch} {e : Env} {s : State} {m : MethodId} {args : Array Value} {below : List Frame} {meth : Method} {c : Code} {g : GX} {mo : Nat} {a : Nat → Nat} {ws0 : va_W} {o_1 : IV} {now : LV} {dr : LV} {pa : LV} {sa : LV} {iS : IV} {bu : IV} {tq : IV} {rT : IV} {wT : IV} {sK : IV} {sA : IV} {sB : IV} {sE : IV} {oq : IV} {bS : IV} {bE : IV} {bL : IV} {rp : IV}  (C : Cx p s m args meth c (inW ws0) g "DecadeBridgeModel" b_Mo_meanReading (some .double) 4) (f : Nat)  : HL_Mo_meanReading_9 p l e s m args below meth c g mo a ws0 o_1 now dr pa sa iS bu tq rT wT sK sA sB sE oq bS bE bL rp (sp_Mo_meanReading_9 now o_1  f) (ok_Mo_meanReading_9 now o_1   f) := by
  induction f with
  | zero => intro x1p9 x3p9 hok; exact False.elim hok
  | succ f ih => exact kb_Mo_meanReading_9 C  ih
noncomputable def sp_Mo_meanReading (o : IV) (now : LV) : UInt64 × IV := lett (upd o 6 (0 : Int32)) fun (o_1 : IV) => sp_Mo_meanReading_9 now o_1 big (0 : Int64) (0 : Int32)
def ok_Mo_meanReading (o : IV) (now : LV) : Prop := lett (upd o 6 (0 : Int32)) fun (o_1 : IV) => ok_Mo_meanReading_9 now o_1 big (0 : Int64) (0 : Int32)
set_option maxRecDepth 100000 in
set_option maxHeartbeats 4000000 in
theorem c_Mo_meanReading (l : Launch) (g : GX) (mo : Nat) (a : Nat → Nat) (o : IV) (now : LV) (dr : LV) (pa : LV) (sa : LV) (iS : IV) (bu : IV) (tq : IV) (rT : IV) (wT : IV) (sK : IV) (sA : IV) (sB : IV) (sE : IV) (oq : IV) (bS : IV) (bE : IV) (bL : IV) (rp : IV)  (hok : ok_Mo_meanReading o now) : Met l y_Mo_meanReading (wsY y_Mo_meanReading b_Mo_meanReading 4 (some .double)) rm_Mo_meanReading (CP g [.ref mo] (wMo g mo a o now dr pa sa iS bu tq rT wT sK sA sB sE oq bS bE bL rp)) (CD g (wMo g mo a o now dr pa sa iS bu tq rT wT sK sA sB sE oq bS bE bL rp) (fun u : IV => wMo g mo a u now dr pa sa iS bu tq rT wT sK sA sB sE oq bS bE bL rp) (sp_Mo_meanReading o now)) 0 0 (inW (wMo g mo a o now dr pa sa iS bu tq rT wT sK sA sB sE oq bS bE bL rp)) := by
  refine Met.ofW (cc := b_Mo_meanReading) (maxL := 4) (ret := (some .double)) pn_Mo rfl ?_
  intro p e s m args below meth c s₁ B hml hv
  obtain ⟨rfl, C, hP, hD, hS⟩ := enter "DecadeBridgeModel" rfl B hml hv
  obtain ⟨hx, hb, hr, hml, hown, hlk, hts, hK, hZo, hZ⟩ := id C
  refine entryW (lv := [(0, .ref mo)]) rfl (Nat.le_of_ble_eq_true rfl) (fun ls hl => ?_)
  obtain ⟨z, hz⟩ : ∃ z, z = sp_Mo_meanReading o now := ⟨_, rfl⟩
  rw [← hz]
  unfold sp_Mo_meanReading at hz
  unfold ok_Mo_meanReading at hok
  refine lv_aload_n hx hb d_Mo_meanReading_0 rfl (lv_at hl 0 rfl) ?_
  refine lv_iconst (v := 0) hx hb d_Mo_meanReading_1 (by decide) ?_
  refine pfI C hP hD hS 0 6 fkMo rfl (by decide) rfl qf_Mo_107 rfl rfl rfl (Nat.le_of_ble_eq_true rfl) (ff := fun o => fMo a o) (sMo_6 _ _ _) d_Mo_meanReading_2 (fun o_1 eo_1 H locs hP hD hS => ?_)
  have hP : va_P g.1 vwCl (wMo g mo a o_1 now dr pa sa iS bu tq rT wT sK sA sB sE oq bS bE bL rp) H := hP
  have hD : va_D (inW (wMo g mo a o now dr pa sa iS bu tq rT wT sK sA sB sE oq bS bE bL rp)) (wMo g mo a o_1 now dr pa sa iS bu tq rT wT sK sA sB sE oq bS bE bL rp) := hD
  have hz := lett_z hz eo_1
  have hok := lett_o hok eo_1
  refine lv_lconst (v := 0) hx hb d_Mo_meanReading_5 (by decide) ?_
  refine lv_lstore_n (lv' := [(1, .long (0 : Int64)), (0, .ref mo)]) hx hb d_Mo_meanReading_6 rfl hl (by decide) rfl (fun ls hl => ?_)
  refine lv_iconst (v := 0) hx hb d_Mo_meanReading_7 (by decide) ?_
  refine lv_istore_n (lv' := [(3, .int (0 : Int32)), (1, .long (0 : Int64)), (0, .ref mo)]) hx hb d_Mo_meanReading_8 rfl hl (by decide) rfl (fun ls hl => ?_)
  exact k_Mo_meanReading_9 C big (0 : Int64) (0 : Int32) hok _ hz _ _ ls hP hD hS (lv_sub hl [2, 1, 0] rfl)
abbrev rm_Mo_spread : Room := { frames := 1, cells := 0, slots := 0, locals := 30 }
def HL_Mo_spread_24 (p : Program) (l : Launch) (e : Env) (s : State) (m : MethodId) (args : Array Value) (below : List Frame) (meth : Method) (c : Code) (g : GX) (mo : Nat) (a : Nat → Nat) (ws0 : va_W) (o_1 : IV) (now : LV) (dr : LV) (pa : LV) (sa : LV) (iS : IV) (bu : IV) (tq : IV) (rT : IV) (wT : IV) (sK : IV) (sA : IV) (sB : IV) (sE : IV) (oq : IV) (bS : IV) (bE : IV) (bL : IV) (rp : IV) (sp : Int64 → Int64 → Int32 → (UInt32 × IV)) (ok : Int64 → Int64 → Int32 → Prop) : Prop := ∀ (x1p24 : Int64) (x3p24 : Int64) (x5p24 : Int32), ok x1p24 x3p24 x5p24 → ∀ z : (UInt32 × IV), z = sp x1p24 x3p24 x5p24 → ∀ (H : Heap) (locs : List Loc) (ls : Array Slot), va_P g.1 vwCl (wMo g mo a o_1 now dr pa sa iS bu tq rT wT sK sA sB sE oq bS bE bL rp) H → va_D (inW ws0) (wMo g mo a o_1 now dr pa sa iS bu tq rT wT sK sA sB sE oq bS bE bL rp) → va_S (inW ws0) s.heap H locs → lv_has ls 6 [(0, .ref mo), (1, .long x1p24), (3, .long x3p24), (5, .int x5p24)] → W p l e rm_Mo_spread s m args below meth c H locs 0 0 (MQ below (CF g ws0 (fun u : IV => wMo g mo a u now dr pa sa iS bu tq rT wT sK sA sB sE oq bS bE bL rp) z) args s 0 0 (inW ws0)) (F0 m 24 ls [])
def HL_Mo_spread_74 (p : Program) (l : Launch) (e : Env) (s : State) (m : MethodId) (args : Array Value) (below : List Frame) (meth : Method) (c : Code) (g : GX) (mo : Nat) (a : Nat → Nat) (ws0 : va_W) (o_1 : IV) (now : LV) (dr : LV) (pa : LV) (sa : LV) (iS : IV) (bu : IV) (tq : IV) (rT : IV) (wT : IV) (sK : IV) (sA : IV) (sB : IV) (sE : IV) (oq : IV) (bS : IV) (bE : IV) (bL : IV) (rp : IV) (x1p24 : Int64) (x3p24 : Int64) (sp : (UInt32 × IV)) (ok : Prop) : Prop := ∀ (_ : Unit), ok → ∀ z : (UInt32 × IV), z = sp → ∀ (H : Heap) (locs : List Loc) (ls : Array Slot), va_P g.1 vwCl (wMo g mo a o_1 now dr pa sa iS bu tq rT wT sK sA sB sE oq bS bE bL rp) H → va_D (inW ws0) (wMo g mo a o_1 now dr pa sa iS bu tq rT wT sK sA sB sE oq bS bE bL rp) → va_S (inW ws0) s.heap H locs → lv_has ls 6 [(0, .ref mo), (1, .long x1p24), (3, .long x3p24)] → W p l e rm_Mo_spread s m args below meth c H locs 0 0 (MQ below (CF g ws0 (fun u : IV => wMo g mo a u now dr pa sa iS bu tq rT wT sK sA sB sE oq bS bE bL rp) z) args s 0 0 (inW ws0)) (F0 m 74 ls [])
noncomputable def sp_Mo_spread_74 (now : LV) (o_1 : IV) (x1p24 : Int64) (x3p24 : Int64)   : UInt32 × IV := if (now 43) = (0 : Int64) then ((FP.fconst0, o_1)) else ((FP.l2f (x1p24 - x3p24), o_1))
def ok_Mo_spread_74 (now : LV) (o_1 : IV) (x1p24 : Int64) (x3p24 : Int64)    : Prop := True
set_option maxRecDepth 100000 in
set_option maxHeartbeats 4000000 in
theorem k_Mo_spread_74 {p : Program} {l : Launch} {e : Env} {s : State} {m : MethodId} {args : Array Value} {below : List Frame} {meth : Method} {c : Code} {g : GX} {mo : Nat} {a : Nat → Nat} {ws0 : va_W} {o_1 : IV} {now : LV} {dr : LV} {pa : LV} {sa : LV} {iS : IV} {bu : IV} {tq : IV} {rT : IV} {wT : IV} {sK : IV} {sA : IV} {sB : IV} {sE : IV} {oq : IV} {bS : IV} {bE : IV} {bL : IV} {rp : IV} {x1p24 : Int64} {x3p24 : Int64}  (C : Cx p s m args meth c (inW ws0) g "DecadeBridgeModel" b_Mo_spread (some .float) 6)  : HL_Mo_spread_74 p l e s m args below meth c g mo a ws0 o_1 now dr pa sa iS bu tq rT wT sK sA sB sE oq bS bE bL rp x1p24 x3p24 (sp_Mo_spread_74 now o_1 x1p24 x3p24 ) (ok_Mo_spread_74 now o_1 x1p24 x3p24  ) := by
  intro _ hok z hz H locs ls hP hD hS hl
  obtain ⟨hx, hb, hr, hml, hown, hlk, hts, hK, hZo, hZ⟩ := id C
  unfold sp_Mo_spread_74 at hz
  refine lv_aload_n hx hb d_Mo_spread_74 rfl (lv_at hl 0 rfl) ?_
  refine gf C hP 0 0 fkMo rfl (by decide) rfl qf_Mo_7 (gMo_0 _ _) d_Mo_spread_75 ?_
  refine lv_bipush (v := 43) hx hb d_Mo_spread_78 (by decide) ?_
  refine ldL C hP 1 rfl vi_43_215 cn_43 d_Mo_spread_80 ?_
  refine lv_lconst (v := 0) hx hb d_Mo_spread_81 (by decide) ?_
  refine lc_ne (tgt := 90) hx hb d_Mo_spread_82 d_Mo_spread_83 (by decide) (fun c9 => ?_) (fun c9 => ?_)
  · have hz := hz.trans (if_neg c9)
    refine lv_lload_n hx hb d_Mo_spread_90 rfl (lv_at hl 1 rfl) ?_
    refine lv_lload_n hx hb d_Mo_spread_91 rfl (lv_at hl 2 rfl) ?_
    refine lv_lsub hx hb d_Mo_spread_92 ?_
    refine lv_l2f hx hb d_Mo_spread_93 ?_
    exact endF1 C hz hP hS d_Mo_spread_94
  · have hz := hz.trans (if_pos c9)
    refine lv_fconst0 hx hb d_Mo_spread_86 ?_
    refine lv_goto (tgt := 94) hx hb d_Mo_spread_87 (by decide) ?_
    exact endF1 C hz hP hS d_Mo_spread_94
noncomputable def bd_Mo_spread_24 (now : LV) (o_1 : IV) (r24 : Int64 → Int64 → Int32 → (UInt32 × IV)) (x1p24 : Int64) (x3p24 : Int64) (x5p24 : Int32) : UInt32 × IV := if (now 43) ≤ x5p24.toInt64 then (sp_Mo_spread_74 now o_1 x1p24 x3p24) else (lett (if (now ((44 : Int32) + x5p24).toNatClampNeg) < x1p24 then x1p24 else (now ((44 : Int32) + x5p24).toNatClampNeg)) fun (v6 : Int64) => lett (if (now ((44 : Int32) + x5p24).toNatClampNeg) < x3p24 then (now ((44 : Int32) + x5p24).toNatClampNeg) else x3p24) fun (v7 : Int64) => lett (x5p24 + (1 : Int32)) fun (v8 : Int32) => r24 v6 v7 v8)
def okb_Mo_spread_24 (now : LV) (o_1 : IV) (r24 : Int64 → Int64 → Int32 → (UInt32 × IV)) (q24 : Int64 → Int64 → Int32 → Prop) (x1p24 : Int64) (x3p24 : Int64) (x5p24 : Int32) : Prop := (((now 43) ≤ x5p24.toInt64 → True) ∧ (¬ ((now 43) ≤ x5p24.toInt64) → (vp_in ((44 : Int32) + x5p24) 215) ∧ lett (if (now ((44 : Int32) + x5p24).toNatClampNeg) < x1p24 then x1p24 else (now ((44 : Int32) + x5p24).toNatClampNeg)) fun (v6 : Int64) => lett (if (now ((44 : Int32) + x5p24).toNatClampNeg) < x3p24 then (now ((44 : Int32) + x5p24).toNatClampNeg) else x3p24) fun (v7 : Int64) => lett (x5p24 + (1 : Int32)) fun (v8 : Int32) => q24 v6 v7 v8))
noncomputable def sp_Mo_spread_24 (now : LV) (o_1 : IV)  : Nat → Int64 → Int64 → Int32 → (UInt32 × IV)
  | 0 => fun _ _ _ => default
  | f + 1 => bd_Mo_spread_24 now o_1  (sp_Mo_spread_24 now o_1  f)
def ok_Mo_spread_24 (now : LV) (o_1 : IV)   : Nat → Int64 → Int64 → Int32 → Prop
  | 0 => fun _ _ _ => False
  | f + 1 => okb_Mo_spread_24 now o_1  (sp_Mo_spread_24 now o_1  f)  (ok_Mo_spread_24 now o_1   f)
set_option maxRecDepth 100000 in
set_option maxHeartbeats 4000000 in
theorem kb_Mo_spread_24 {p : Program} {l : Launch} {e : Env} {s : State} {m : MethodId} {args : Array Value} {below : List Frame} {meth : Method} {c : Code} {g : GX} {mo : Nat} {a : Nat → Nat} {ws0 : va_W} {o_1 : IV} {now : LV} {dr : LV} {pa : LV} {sa : LV} {iS : IV} {bu : IV} {tq : IV} {rT : IV} {wT : IV} {sK : IV} {sA : IV} {sB : IV} {sE : IV} {oq : IV} {bS : IV} {bE : IV} {bL : IV} {rp : IV}  (C : Cx p s m args meth c (inW ws0) g "DecadeBridgeModel" b_Mo_spread (some .float) 6) {r24 : Int64 → Int64 → Int32 → (UInt32 × IV)} {q24 : Int64 → Int64 → Int32 → Prop}  (ih24 : HL_Mo_spread_24 p l e s m args below meth c g mo a ws0 o_1 now dr pa sa iS bu tq rT wT sK sA sB sE oq bS bE bL rp r24 q24) : HL_Mo_spread_24 p l e s m args below meth c g mo a ws0 o_1 now dr pa sa iS bu tq rT wT sK sA sB sE oq bS bE bL rp (bd_Mo_spread_24 now o_1  r24) (okb_Mo_spread_24 now o_1  r24  q24) := by
  intro x1p24 x3p24 x5p24 hok z hz H locs ls hP hD hS hl
  obtain ⟨hx, hb, hr, hml, hown, hlk, hts, hK, hZo, hZ⟩ := id C
  unfold bd_Mo_spread_24 at hz
  unfold okb_Mo_spread_24 at hok
  refine lv_iload hx hb d_Mo_spread_24 (lv_at hl 3 rfl) ?_
  refine lv_i2l hx hb d_Mo_spread_26 rfl ?_
  refine lv_aload_n hx hb d_Mo_spread_27 rfl (lv_at hl 0 rfl) ?_
  refine gf C hP 0 0 fkMo rfl (by decide) rfl qf_Mo_7 (gMo_0 _ _) d_Mo_spread_28 ?_
  refine lv_bipush (v := 43) hx hb d_Mo_spread_31 (by decide) ?_
  refine ldL C hP 1 rfl vi_43_215 cn_43 d_Mo_spread_33 ?_
  refine lc_ge (tgt := 74) hx hb d_Mo_spread_34 d_Mo_spread_35 (by decide) (fun c4 => ?_) (fun c4 => ?_)
  · have hz := hz.trans (if_pos c4)
    exact k_Mo_spread_74 C () trivial _ hz _ _ ls hP hD hS (lv_sub hl [0, 1, 2] rfl)
  · have hz := hz.trans (if_neg c4)
    have hok := hok.2 c4
    refine lv_lload_n hx hb d_Mo_spread_38 rfl (lv_at hl 1 rfl) ?_
    refine lv_aload_n hx hb d_Mo_spread_39 rfl (lv_at hl 0 rfl) ?_
    refine gf C hP 0 0 fkMo rfl (by decide) rfl qf_Mo_7 (gMo_0 _ _) d_Mo_spread_40 ?_
    refine lv_bipush (v := 44) hx hb d_Mo_spread_43 (by decide) ?_
    refine lv_iload hx hb d_Mo_spread_45 (lv_at hl 3 rfl) ?_
    refine lv_iadd hx hb d_Mo_spread_47 ?_
    have hs5 := hok.1
    have hok := hok.2
    refine ldL C hP 1 rfl hs5 rfl d_Mo_spread_48 ?_
    refine va_mmax_long hx hb (hml.trans hl.1.symm) hown (hts _ qm_Mo_430) (hts _ (mf_JM_max_JJJ).2) (hts _ (mf_JM_max_JJJ).1.2.1) (hts _ (mf_JM_max_JJJ).1.1) (Nat.le_of_ble_eq_true rfl) (Nat.le_of_ble_eq_true rfl) (Nat.le_of_ble_eq_true rfl) (Nat.le_of_ble_eq_true rfl) d_Mo_spread_49 ?_
    refine lv_topl (fun v6 ev6 => ?_)
    have hz := lett_z hz ev6
    have hok := lett_o hok ev6
    refine lv_lstore_n (lv' := [(1, .long v6), (0, .ref mo), (3, .long x3p24), (5, .int x5p24)]) hx hb d_Mo_spread_52 rfl hl (by decide) rfl (fun ls hl => ?_)
    refine lv_lload_n hx hb d_Mo_spread_53 rfl (lv_at hl 2 rfl) ?_
    refine lv_aload_n hx hb d_Mo_spread_54 rfl (lv_at hl 1 rfl) ?_
    refine gf C hP 0 0 fkMo rfl (by decide) rfl qf_Mo_7 (gMo_0 _ _) d_Mo_spread_55 ?_
    refine lv_bipush (v := 44) hx hb d_Mo_spread_58 (by decide) ?_
    refine lv_iload hx hb d_Mo_spread_60 (lv_at hl 3 rfl) ?_
    refine lv_iadd hx hb d_Mo_spread_62 ?_
    refine ldL C hP 1 rfl hs5 rfl d_Mo_spread_63 ?_
    refine va_mmin_long hx hb (hml.trans hl.1.symm) hown (hts _ qm_Mo_185) (hts _ (mf_JM_min_JJJ).2) (hts _ (mf_JM_min_JJJ).1.2.1) (hts _ (mf_JM_min_JJJ).1.1) (Nat.le_of_ble_eq_true rfl) (Nat.le_of_ble_eq_true rfl) (Nat.le_of_ble_eq_true rfl) (Nat.le_of_ble_eq_true rfl) d_Mo_spread_64 ?_
    refine lv_topl (fun v7 ev7 => ?_)
    have hz := lett_z hz ev7
    have hok := lett_o hok ev7
    refine lv_lstore_n (lv' := [(3, .long v7), (1, .long v6), (0, .ref mo), (5, .int x5p24)]) hx hb d_Mo_spread_67 rfl hl (by decide) rfl (fun ls hl => ?_)
    obtain ⟨v8, ev8⟩ : ∃ y : Int32, y = x5p24 + (1 : Int32) := ⟨_, rfl⟩
    have hz := lett_z hz ev8
    have hok := lett_o hok ev8
    refine lv_iinc (v := v8) (lv' := [(5, .int v8), (3, .long v7), (1, .long v6), (0, .ref mo)]) hx hb d_Mo_spread_68 hl (k := 3) rfl (by rw [ev8]; rfl) (by decide) rfl (fun ls hl => ?_)
    refine lv_goto (tgt := 24) hx hb d_Mo_spread_71 (by decide) ?_
    exact ih24 v6 v7 v8 hok _ hz _ _ ls hP hD hS (lv_sub hl [3, 2, 1, 0] rfl)
theorem k_Mo_spread_24 {p : Program} {l : Launch} {e : Env} {s : State} {m : MethodId} {args : Array Value} {below : List Frame} {meth : Method} {c : Code} {g : GX} {mo : Nat} {a : Nat → Nat} {ws0 : va_W} {o_1 : IV} {now : LV} {dr : LV} {pa : LV} {sa : LV} {iS : IV} {bu : IV} {tq : IV} {rT : IV} {wT : IV} {sK : IV} {sA : IV} {sB : IV} {sE : IV} {oq : IV} {bS : IV} {bE : IV} {bL : IV} {rp : IV}  (C : Cx p s m args meth c (inW ws0) g "DecadeBridgeModel" b_Mo_spread (some .float) 6) (f : Nat)  : HL_Mo_spread_24 p l e s m args below meth c g mo a ws0 o_1 now dr pa sa iS bu tq rT wT sK sA sB sE oq bS bE bL rp (sp_Mo_spread_24 now o_1  f) (ok_Mo_spread_24 now o_1   f) := by
  induction f with
  | zero => intro x1p24 x3p24 x5p24 hok; exact False.elim hok
  | succ f ih => exact kb_Mo_spread_24 C  ih
noncomputable def sp_Mo_spread (o : IV) (now : LV) : UInt32 × IV := lett (upd o 6 (0 : Int32)) fun (o_1 : IV) => lett (now 44) fun (v2 : Int64) => lett (now 44) fun (v3 : Int64) => sp_Mo_spread_24 now o_1 big v2 v3 (0 : Int32)
def ok_Mo_spread (o : IV) (now : LV) : Prop := lett (upd o 6 (0 : Int32)) fun (o_1 : IV) => lett (now 44) fun (v2 : Int64) => lett (now 44) fun (v3 : Int64) => ok_Mo_spread_24 now o_1 big v2 v3 (0 : Int32)
set_option maxRecDepth 100000 in
set_option maxHeartbeats 4000000 in
theorem c_Mo_spread (l : Launch) (g : GX) (mo : Nat) (a : Nat → Nat) (o : IV) (now : LV) (dr : LV) (pa : LV) (sa : LV) (iS : IV) (bu : IV) (tq : IV) (rT : IV) (wT : IV) (sK : IV) (sA : IV) (sB : IV) (sE : IV) (oq : IV) (bS : IV) (bE : IV) (bL : IV) (rp : IV)  (hok : ok_Mo_spread o now) : Met l y_Mo_spread (wsY y_Mo_spread b_Mo_spread 6 (some .float)) rm_Mo_spread (CP g [.ref mo] (wMo g mo a o now dr pa sa iS bu tq rT wT sK sA sB sE oq bS bE bL rp)) (CF g (wMo g mo a o now dr pa sa iS bu tq rT wT sK sA sB sE oq bS bE bL rp) (fun u : IV => wMo g mo a u now dr pa sa iS bu tq rT wT sK sA sB sE oq bS bE bL rp) (sp_Mo_spread o now)) 0 0 (inW (wMo g mo a o now dr pa sa iS bu tq rT wT sK sA sB sE oq bS bE bL rp)) := by
  refine Met.ofW (cc := b_Mo_spread) (maxL := 6) (ret := (some .float)) pn_Mo rfl ?_
  intro p e s m args below meth c s₁ B hml hv
  obtain ⟨rfl, C, hP, hD, hS⟩ := enter "DecadeBridgeModel" rfl B hml hv
  obtain ⟨hx, hb, hr, hml, hown, hlk, hts, hK, hZo, hZ⟩ := id C
  refine entryW (lv := [(0, .ref mo)]) rfl (Nat.le_of_ble_eq_true rfl) (fun ls hl => ?_)
  obtain ⟨z, hz⟩ : ∃ z, z = sp_Mo_spread o now := ⟨_, rfl⟩
  rw [← hz]
  unfold sp_Mo_spread at hz
  unfold ok_Mo_spread at hok
  refine lv_aload_n hx hb d_Mo_spread_0 rfl (lv_at hl 0 rfl) ?_
  refine lv_iconst (v := 0) hx hb d_Mo_spread_1 (by decide) ?_
  refine pfI C hP hD hS 0 6 fkMo rfl (by decide) rfl qf_Mo_107 rfl rfl rfl (Nat.le_of_ble_eq_true rfl) (ff := fun o => fMo a o) (sMo_6 _ _ _) d_Mo_spread_2 (fun o_1 eo_1 H locs hP hD hS => ?_)
  have hP : va_P g.1 vwCl (wMo g mo a o_1 now dr pa sa iS bu tq rT wT sK sA sB sE oq bS bE bL rp) H := hP
  have hD : va_D (inW (wMo g mo a o now dr pa sa iS bu tq rT wT sK sA sB sE oq bS bE bL rp)) (wMo g mo a o_1 now dr pa sa iS bu tq rT wT sK sA sB sE oq bS bE bL rp) := hD
  have hz := lett_z hz eo_1
  have hok := lett_o hok eo_1
  refine lv_aload_n hx hb d_Mo_spread_5 rfl (lv_at hl 0 rfl) ?_
  refine gf C hP 0 0 fkMo rfl (by decide) rfl qf_Mo_7 (gMo_0 _ _) d_Mo_spread_6 ?_
  refine lv_bipush (v := 44) hx hb d_Mo_spread_9 (by decide) ?_
  refine ldL C hP 1 rfl vi_44_215 cn_44 d_Mo_spread_11 ?_
  refine lv_topl (fun v2 ev2 => ?_)
  have hz := lett_z hz ev2
  have hok := lett_o hok ev2
  refine lv_lstore_n (lv' := [(1, .long v2), (0, .ref mo)]) hx hb d_Mo_spread_12 rfl hl (by decide) rfl (fun ls hl => ?_)
  refine lv_aload_n hx hb d_Mo_spread_13 rfl (lv_at hl 1 rfl) ?_
  refine gf C hP 0 0 fkMo rfl (by decide) rfl qf_Mo_7 (gMo_0 _ _) d_Mo_spread_14 ?_
  refine lv_bipush (v := 44) hx hb d_Mo_spread_17 (by decide) ?_
  refine ldL C hP 1 rfl vi_44_215 cn_44 d_Mo_spread_19 ?_
  refine lv_topl (fun v3 ev3 => ?_)
  have hz := lett_z hz ev3
  have hok := lett_o hok ev3
  refine lv_lstore_n (lv' := [(3, .long v3), (1, .long v2), (0, .ref mo)]) hx hb d_Mo_spread_20 rfl hl (by decide) rfl (fun ls hl => ?_)
  refine lv_iconst (v := 0) hx hb d_Mo_spread_21 (by decide) ?_
  refine lv_istore (lv' := [(5, .int (0 : Int32)), (3, .long v3), (1, .long v2), (0, .ref mo)]) hx hb d_Mo_spread_22 hl (by decide) rfl (fun ls hl => ?_)
  exact k_Mo_spread_24 C big v2 v3 (0 : Int32) hok _ hz _ _ ls hP hD hS (lv_sub hl [3, 2, 1, 0] rfl)
abbrev rm_Mo_isResult : Room := { frames := 1, cells := 0, slots := 0, locals := 25 }
noncomputable def sp_Mo_isResult (p1 : Int32) (now : LV) : Int32 := lett (sp_Mo_in p1.toInt64 (0 : Int64) ((now 54) - (1 : Int64))) fun (y1 : Int32) => y1
def ok_Mo_isResult (p1 : Int32) (now : LV) : Prop := lett (sp_Mo_in p1.toInt64 (0 : Int64) ((now 54) - (1 : Int64))) fun (y1 : Int32) => (isB y1) ∧ True
set_option maxRecDepth 100000 in
set_option maxHeartbeats 4000000 in
theorem c_Mo_isResult (l : Launch) (g : GX) (mo : Nat) (a : Nat → Nat) (o : IV) (now : LV) (dr : LV) (pa : LV) (sa : LV) (iS : IV) (bu : IV) (tq : IV) (rT : IV) (wT : IV) (sK : IV) (sA : IV) (sB : IV) (sE : IV) (oq : IV) (bS : IV) (bE : IV) (bL : IV) (rp : IV) (p1 : Int32) (hok : ok_Mo_isResult p1 now) : Met l y_Mo_isResult (wsY y_Mo_isResult b_Mo_isResult 2 (some .boolean)) rm_Mo_isResult (CP g [.ref mo, .int p1] (wMo g mo a o now dr pa sa iS bu tq rT wT sK sA sB sE oq bS bE bL rp)) (CI0 g (wMo g mo a o now dr pa sa iS bu tq rT wT sK sA sB sE oq bS bE bL rp) (sp_Mo_isResult p1 now)) 0 0 (inW (wMo g mo a o now dr pa sa iS bu tq rT wT sK sA sB sE oq bS bE bL rp)) := by
  refine Met.ofW (cc := b_Mo_isResult) (maxL := 2) (ret := (some .boolean)) pn_Mo rfl ?_
  intro p e s m args below meth c s₁ B hml hv
  obtain ⟨rfl, C, hP, hD, hS⟩ := enter "DecadeBridgeModel" rfl B hml hv
  obtain ⟨hx, hb, hr, hml, hown, hlk, hts, hK, hZo, hZ⟩ := id C
  refine entryW (lv := [(0, .ref mo), (1, .int p1)]) rfl (Nat.le_of_ble_eq_true rfl) (fun ls hl => ?_)
  obtain ⟨z, hz⟩ : ∃ z, z = sp_Mo_isResult p1 now := ⟨_, rfl⟩
  rw [← hz]
  unfold sp_Mo_isResult at hz
  unfold ok_Mo_isResult at hok
  refine lv_iload_n hx hb d_Mo_isResult_0 rfl (lv_at hl 1 rfl) ?_
  refine lv_i2l hx hb d_Mo_isResult_1 rfl ?_
  refine lv_lconst (v := 0) hx hb d_Mo_isResult_2 (by decide) ?_
  refine lv_aload_n hx hb d_Mo_isResult_3 rfl (lv_at hl 0 rfl) ?_
  refine gf C hP 0 0 fkMo rfl (by decide) rfl qf_Mo_7 (gMo_0 _ _) d_Mo_isResult_4 ?_
  refine lv_bipush (v := 54) hx hb d_Mo_isResult_7 (by decide) ?_
  refine ldL C hP 1 rfl vi_54_215 cn_54 d_Mo_isResult_9 ?_
  refine lv_lconst (v := 1) hx hb d_Mo_isResult_10 (by decide) ?_
  refine lv_lsub hx hb d_Mo_isResult_11 ?_
  have hB : SubW g (inW (wMo g mo a o now dr pa sa iS bu tq rT wT sK sA sB sE oq bS bE bL rp)) s (wMo g mo a o now dr pa sa iS bu tq rT wT sK sA sB sE oq bS bE bL rp) _ (List.range _) _ _ := (subF hP hD hS)
  refine goI0 hB (run_s C mf_Mo_in qm_Mo_118 (c_Mo_in l g mo a o now dr pa sa iS bu tq rT wT sK sA sB sE oq bS bE bL rp p1.toInt64 (0 : Int64) ((now 54) - (1 : Int64))) rfl rfl ⟨Nat.le_of_ble_eq_true rfl, Nat.le_of_ble_eq_true rfl⟩ ⟨Nat.le_of_ble_eq_true rfl, Nat.le_of_ble_eq_true rfl⟩ hB hl rfl rfl (Nat.le_of_ble_eq_true rfl) d_Mo_isResult_12) (fun y1 ey1 H locs hP hS => ?_)
  have hz := lett_z hz ey1
  have hok := lett_o hok ey1
  have hs2 := hok.1
  have hok := hok.2
  exact endZ0 C hz hP hS (isB_nar hs2) d_Mo_isResult_15
abbrev rm_Mo_result : Room := { frames := 5, cells := 0, slots := 0, locals := 110 }
def HL_Mo_result_30 (p : Program) (l : Launch) (e : Env) (s : State) (m : MethodId) (args : Array Value) (below : List Frame) (meth : Method) (c : Code) (g : GX) (mo : Nat) (a : Nat → Nat) (ws0 : va_W) (o : IV) (now : LV) (dr : LV) (pa : LV) (sa : LV) (iS : IV) (bu : IV) (tq : IV) (rT : IV) (wT : IV) (sK : IV) (sA : IV) (sB : IV) (sE : IV) (oq : IV) (bS : IV) (bE : IV) (bL : IV) (rp : IV) (p1 : Int32) (p2 : Int32) (sp : Int32 → (Int32 × IV)) (ok : Int32 → Prop) : Prop := ∀ (t1p30 : Int32), ok t1p30 → ∀ z : (Int32 × IV), z = sp t1p30 → ∀ (H : Heap) (locs : List Loc) (ls : Array Slot), va_P g.1 vwCl (wMo g mo a o now dr pa sa iS bu tq rT wT sK sA sB sE oq bS bE bL rp) H → va_D (inW ws0) (wMo g mo a o now dr pa sa iS bu tq rT wT sK sA sB sE oq bS bE bL rp) → va_S (inW ws0) s.heap H locs → lv_has ls 3 [(0, .ref mo), (1, .int p1), (2, .int p2)] → W p l e rm_Mo_result s m args below meth c H locs 0 0 (MQ below (CI g ws0 (fun u : IV => wMo g mo a u now dr pa sa iS bu tq rT wT sK sA sB sE oq bS bE bL rp) z) args s 0 0 (inW ws0)) (F0 m 30 ls [.int t1p30, .ref mo])
noncomputable def sp_Mo_result_30 (o : IV) (p2 : Int32) (p1 : Int32) (now : LV)  (t1p30 : Int32) : Int32 × IV := lett (upd o 6 t1p30) fun (o_6 : IV) => if (o_6 6) ≤ 0 then (if p2 = (6 : Int32) then (lett (sp_Mo_mannerOf p1 now) fun (y12 : Int32) => (y12, o_6)) else (lett (sp_Mo_ofResult p1 p2 now) fun (y10 : Int64) => (y10.toInt32, o_6))) else (((0 : Int32), o_6))
def ok_Mo_result_30 (o : IV) (p2 : Int32) (p1 : Int32) (now : LV)   (t1p30 : Int32) : Prop := lett (upd o 6 t1p30) fun (o_6 : IV) => (((o_6 6) ≤ 0 → ((p2 = (6 : Int32) → (ok_Mo_mannerOf p1 now) ∧ True) ∧ (¬ (p2 = (6 : Int32)) → (ok_Mo_ofResult p1 p2) ∧ True))) ∧ (¬ ((o_6 6) ≤ 0) → True))
set_option maxRecDepth 100000 in
set_option maxHeartbeats 4000000 in
theorem k_Mo_result_30 {p : Program} {l : Launch} {e : Env} {s : State} {m : MethodId} {args : Array Value} {below : List Frame} {meth : Method} {c : Code} {g : GX} {mo : Nat} {a : Nat → Nat} {ws0 : va_W} {o : IV} {now : LV} {dr : LV} {pa : LV} {sa : LV} {iS : IV} {bu : IV} {tq : IV} {rT : IV} {wT : IV} {sK : IV} {sA : IV} {sB : IV} {sE : IV} {oq : IV} {bS : IV} {bE : IV} {bL : IV} {rp : IV} {p1 : Int32} {p2 : Int32}  (C : Cx p s m args meth c (inW ws0) g "DecadeBridgeModel" b_Mo_result (some .int) 3)  : HL_Mo_result_30 p l e s m args below meth c g mo a ws0 o now dr pa sa iS bu tq rT wT sK sA sB sE oq bS bE bL rp p1 p2 (sp_Mo_result_30 o p2 p1 now ) (ok_Mo_result_30 o p2 p1 now  ) := by
  intro t1p30 hok z hz H locs ls hP hD hS hl
  obtain ⟨hx, hb, hr, hml, hown, hlk, hts, hK, hZo, hZ⟩ := id C
  unfold sp_Mo_result_30 at hz
  unfold ok_Mo_result_30 at hok
  refine pfI C hP hD hS 0 6 fkMo rfl (by decide) rfl qf_Mo_107 rfl rfl rfl (Nat.le_of_ble_eq_true rfl) (ff := fun o => fMo a o) (sMo_6 _ _ _) d_Mo_result_30 (fun o_6 eo_6 H locs hP hD hS => ?_)
  have hP : va_P g.1 vwCl (wMo g mo a o_6 now dr pa sa iS bu tq rT wT sK sA sB sE oq bS bE bL rp) H := hP
  have hD : va_D (inW ws0) (wMo g mo a o_6 now dr pa sa iS bu tq rT wT sK sA sB sE oq bS bE bL rp) := hD
  have hz := lett_z hz eo_6
  have hok := lett_o hok eo_6
  refine lv_aload_n hx hb d_Mo_result_33 rfl (lv_at hl 0 rfl) ?_
  refine gf C hP 0 6 fkMo rfl (by decide) rfl qf_Mo_107 (gMo_6 _ _) d_Mo_result_34 ?_
  refine lv_if_le (tgt := 42) hx hb d_Mo_result_37 (by decide) (fun c7 => ?_) (fun c7 => ?_)
  · have hz := hz.trans (if_pos c7)
    have hok := hok.1 c7
    refine lv_iload_n hx hb d_Mo_result_42 rfl (lv_at hl 2 rfl) ?_
    refine lv_bipush (v := 6) hx hb d_Mo_result_43 (by decide) ?_
    refine lv_icmp_ne (tgt := 56) hx hb d_Mo_result_45 (by decide) (fun c8 => ?_) (fun c8 => ?_)
    · have hz := hz.trans (if_neg c8)
      have hok := hok.2 c8
      refine lv_aload_n hx hb d_Mo_result_56 rfl (lv_at hl 0 rfl) ?_
      refine lv_iload_n hx hb d_Mo_result_57 rfl (lv_at hl 1 rfl) ?_
      refine lv_iload_n hx hb d_Mo_result_58 rfl (lv_at hl 2 rfl) ?_
      have hs9 := hok.1
      have hok := hok.2
      have hB : SubW g (inW ws0) s (wMo g mo a o_6 now dr pa sa iS bu tq rT wT sK sA sB sE oq bS bE bL rp) _ (List.range _) _ _ := (subF hP hD hS)
      refine goL0 hB (run_v C mf_Mo_ofResult qm_Mo_406 (c_Mo_ofResult l g mo a o_6 now dr pa sa iS bu tq rT wT sK sA sB sE oq bS bE bL rp p1 p2 hs9) rfl rfl ⟨Nat.le_of_ble_eq_true rfl, Nat.le_of_ble_eq_true rfl⟩ ⟨Nat.le_of_ble_eq_true rfl, Nat.le_of_ble_eq_true rfl⟩ hB rfl rfl hl rfl rfl (Nat.le_of_ble_eq_true rfl) d_Mo_result_59) (fun y10 ey10 H locs hP hS => ?_)
      have hz := lett_z hz ey10
      refine lv_l2i hx hb d_Mo_result_62 rfl ?_
      exact endI1 C hz hP hS d_Mo_result_63
    · have hz := hz.trans (if_pos c8)
      have hok := hok.1 c8
      refine lv_aload_n hx hb d_Mo_result_48 rfl (lv_at hl 0 rfl) ?_
      refine lv_iload_n hx hb d_Mo_result_49 rfl (lv_at hl 1 rfl) ?_
      have hs11 := hok.1
      have hok := hok.2
      have hB : SubW g (inW ws0) s (wMo g mo a o_6 now dr pa sa iS bu tq rT wT sK sA sB sE oq bS bE bL rp) _ (List.range _) _ _ := (subF hP hD hS)
      refine goI0 hB (run_v C mf_Mo_mannerOf qm_Mo_438 (c_Mo_mannerOf l g mo a o_6 now dr pa sa iS bu tq rT wT sK sA sB sE oq bS bE bL rp p1 hs11) rfl rfl ⟨Nat.le_of_ble_eq_true rfl, Nat.le_of_ble_eq_true rfl⟩ ⟨Nat.le_of_ble_eq_true rfl, Nat.le_of_ble_eq_true rfl⟩ hB rfl rfl hl rfl rfl (Nat.le_of_ble_eq_true rfl) d_Mo_result_50) (fun y12 ey12 H locs hP hS => ?_)
      have hz := lett_z hz ey12
      refine lv_goto (tgt := 63) hx hb d_Mo_result_53 (by decide) ?_
      exact endI1 C hz hP hS d_Mo_result_63
  · have hz := hz.trans (if_neg c7)
    refine lv_iconst (v := 0) hx hb d_Mo_result_40 (by decide) ?_
    exact endI1 C hz hP hS d_Mo_result_41
noncomputable def sp_Mo_result (p1 : Int32) (p2 : Int32) (o : IV) (now : LV) : Int32 × IV := lett (sp_Mo_isResult p1 now) fun (y2 : Int32) => if y2 = 0 then (sp_Mo_result_30 o p2 p1 now (1 : Int32)) else (lett (sp_Mo_in p2.toInt64 (0 : Int64) (6 : Int64)) fun (y4 : Int32) => if y4 = 0 then (sp_Mo_result_30 o p2 p1 now (2 : Int32)) else (sp_Mo_result_30 o p2 p1 now (0 : Int32)))
def ok_Mo_result (p1 : Int32) (p2 : Int32) (o : IV) (now : LV) : Prop := (ok_Mo_isResult p1 now) ∧ lett (sp_Mo_isResult p1 now) fun (y2 : Int32) => ((y2 = 0 → ok_Mo_result_30 o p2 p1 now (1 : Int32)) ∧ (¬ (y2 = 0) → lett (sp_Mo_in p2.toInt64 (0 : Int64) (6 : Int64)) fun (y4 : Int32) => ((y4 = 0 → ok_Mo_result_30 o p2 p1 now (2 : Int32)) ∧ (¬ (y4 = 0) → ok_Mo_result_30 o p2 p1 now (0 : Int32)))))
set_option maxRecDepth 100000 in
set_option maxHeartbeats 4000000 in
theorem c_Mo_result (l : Launch) (g : GX) (mo : Nat) (a : Nat → Nat) (o : IV) (now : LV) (dr : LV) (pa : LV) (sa : LV) (iS : IV) (bu : IV) (tq : IV) (rT : IV) (wT : IV) (sK : IV) (sA : IV) (sB : IV) (sE : IV) (oq : IV) (bS : IV) (bE : IV) (bL : IV) (rp : IV) (p1 : Int32) (p2 : Int32) (hok : ok_Mo_result p1 p2 o now) : Met l y_Mo_result (wsY y_Mo_result b_Mo_result 3 (some .int)) rm_Mo_result (CP g [.ref mo, .int p1, .int p2] (wMo g mo a o now dr pa sa iS bu tq rT wT sK sA sB sE oq bS bE bL rp)) (CI g (wMo g mo a o now dr pa sa iS bu tq rT wT sK sA sB sE oq bS bE bL rp) (fun u : IV => wMo g mo a u now dr pa sa iS bu tq rT wT sK sA sB sE oq bS bE bL rp) (sp_Mo_result p1 p2 o now)) 0 0 (inW (wMo g mo a o now dr pa sa iS bu tq rT wT sK sA sB sE oq bS bE bL rp)) := by
  refine Met.ofW (cc := b_Mo_result) (maxL := 3) (ret := (some .int)) pn_Mo rfl ?_
  intro p e s m args below meth c s₁ B hml hv
  obtain ⟨rfl, C, hP, hD, hS⟩ := enter "DecadeBridgeModel" rfl B hml hv
  obtain ⟨hx, hb, hr, hml, hown, hlk, hts, hK, hZo, hZ⟩ := id C
  refine entryW (lv := [(0, .ref mo), (1, .int p1), (2, .int p2)]) rfl (Nat.le_of_ble_eq_true rfl) (fun ls hl => ?_)
  obtain ⟨z, hz⟩ : ∃ z, z = sp_Mo_result p1 p2 o now := ⟨_, rfl⟩
  rw [← hz]
  unfold sp_Mo_result at hz
  unfold ok_Mo_result at hok
  refine lv_aload_n hx hb d_Mo_result_0 rfl (lv_at hl 0 rfl) ?_
  refine lv_aload_n hx hb d_Mo_result_1 rfl (lv_at hl 0 rfl) ?_
  refine lv_iload_n hx hb d_Mo_result_2 rfl (lv_at hl 1 rfl) ?_
  have hs1 := hok.1
  have hok := hok.2
  have hB : SubW g (inW (wMo g mo a o now dr pa sa iS bu tq rT wT sK sA sB sE oq bS bE bL rp)) s (wMo g mo a o now dr pa sa iS bu tq rT wT sK sA sB sE oq bS bE bL rp) _ (List.range _) _ _ := (subF hP hD hS)
  refine goI0 hB (run_v C mf_Mo_isResult qm_Mo_433 (c_Mo_isResult l g mo a o now dr pa sa iS bu tq rT wT sK sA sB sE oq bS bE bL rp p1 hs1) rfl rfl ⟨Nat.le_of_ble_eq_true rfl, Nat.le_of_ble_eq_true rfl⟩ ⟨Nat.le_of_ble_eq_true rfl, Nat.le_of_ble_eq_true rfl⟩ hB rfl rfl hl rfl rfl (Nat.le_of_ble_eq_true rfl) d_Mo_result_3) (fun y2 ey2 H locs hP hS => ?_)
  have hz := lett_z hz ey2
  have hok := lett_o hok ey2
  refine lv_if_ne (tgt := 13) hx hb d_Mo_result_6 (by decide) (fun c3 => ?_) (fun c3 => ?_)
  · have hz := hz.trans (if_neg c3)
    have hok := hok.2 c3
    refine lv_iload_n hx hb d_Mo_result_13 rfl (lv_at hl 2 rfl) ?_
    refine lv_i2l hx hb d_Mo_result_14 rfl ?_
    refine lv_lconst (v := 0) hx hb d_Mo_result_15 (by decide) ?_
    refine lv_ldc2 hx hb hown (hts _ qk_Mo_436) d_Mo_result_16 ?_
    have hB : SubW g (inW (wMo g mo a o now dr pa sa iS bu tq rT wT sK sA sB sE oq bS bE bL rp)) s (wMo g mo a o now dr pa sa iS bu tq rT wT sK sA sB sE oq bS bE bL rp) _ (List.range _) _ _ := (subF hP hD hS)
    refine goI0 hB (run_s C mf_Mo_in qm_Mo_118 (c_Mo_in l g mo a o now dr pa sa iS bu tq rT wT sK sA sB sE oq bS bE bL rp p2.toInt64 (0 : Int64) (6 : Int64)) rfl rfl ⟨Nat.le_of_ble_eq_true rfl, Nat.le_of_ble_eq_true rfl⟩ ⟨Nat.le_of_ble_eq_true rfl, Nat.le_of_ble_eq_true rfl⟩ hB hl rfl rfl (Nat.le_of_ble_eq_true rfl) d_Mo_result_19) (fun y4 ey4 H locs hP hS => ?_)
    have hz := lett_z hz ey4
    have hok := lett_o hok ey4
    refine lv_if_eq (tgt := 29) hx hb d_Mo_result_22 (by decide) (fun c5 => ?_) (fun c5 => ?_)
    · have hz := hz.trans (if_pos c5)
      have hok := hok.1 c5
      refine lv_iconst (v := 2) hx hb d_Mo_result_29 (by decide) ?_
      exact k_Mo_result_30 C (2 : Int32) hok _ hz _ _ ls hP hD hS hl
    · have hz := hz.trans (if_neg c5)
      have hok := hok.2 c5
      refine lv_iconst (v := 0) hx hb d_Mo_result_25 (by decide) ?_
      refine lv_goto (tgt := 30) hx hb d_Mo_result_26 (by decide) ?_
      exact k_Mo_result_30 C (0 : Int32) hok _ hz _ _ ls hP hD hS hl
  · have hz := hz.trans (if_pos c3)
    have hok := hok.1 c3
    refine lv_iconst (v := 1) hx hb d_Mo_result_9 (by decide) ?_
    refine lv_goto (tgt := 30) hx hb d_Mo_result_10 (by decide) ?_
    exact k_Mo_result_30 C (1 : Int32) hok _ hz _ _ ls hP hD hS hl
abbrev rm_Mo_valueOf : Room := { frames := 2, cells := 0, slots := 0, locals := 46 }
def HL_Mo_valueOf_14 (p : Program) (l : Launch) (e : Env) (s : State) (m : MethodId) (args : Array Value) (below : List Frame) (meth : Method) (c : Code) (g : GX) (mo : Nat) (a : Nat → Nat) (ws0 : va_W) (o : IV) (now : LV) (dr : LV) (pa : LV) (sa : LV) (iS : IV) (bu : IV) (tq : IV) (rT : IV) (wT : IV) (sK : IV) (sA : IV) (sB : IV) (sE : IV) (oq : IV) (bS : IV) (bE : IV) (bL : IV) (rp : IV) (p1 : Int32) (p2 : Int32) (sp : Int32 → (Int64 × IV)) (ok : Int32 → Prop) : Prop := ∀ (t1p14 : Int32), ok t1p14 → ∀ z : (Int64 × IV), z = sp t1p14 → ∀ (H : Heap) (locs : List Loc) (ls : Array Slot), va_P g.1 vwCl (wMo g mo a o now dr pa sa iS bu tq rT wT sK sA sB sE oq bS bE bL rp) H → va_D (inW ws0) (wMo g mo a o now dr pa sa iS bu tq rT wT sK sA sB sE oq bS bE bL rp) → va_S (inW ws0) s.heap H locs → lv_has ls 3 [(0, .ref mo), (1, .int p1), (2, .int p2)] → W p l e rm_Mo_valueOf s m args below meth c H locs 0 0 (MQ below (CL g ws0 (fun u : IV => wMo g mo a u now dr pa sa iS bu tq rT wT sK sA sB sE oq bS bE bL rp) z) args s 0 0 (inW ws0)) (F0 m 14 ls [.int t1p14, .ref mo])
def HL_Mo_valueOf_41 (p : Program) (l : Launch) (e : Env) (s : State) (m : MethodId) (args : Array Value) (below : List Frame) (meth : Method) (c : Code) (g : GX) (mo : Nat) (a : Nat → Nat) (ws0 : va_W) (o_4 : IV) (now : LV) (dr : LV) (pa : LV) (sa : LV) (iS : IV) (bu : IV) (tq : IV) (rT : IV) (wT : IV) (sK : IV) (sA : IV) (sB : IV) (sE : IV) (oq : IV) (bS : IV) (bE : IV) (bL : IV) (rp : IV) (p1 : Int32) (sp : Int32 → (Int64 × IV)) (ok : Int32 → Prop) : Prop := ∀ (t2p41 : Int32), ok t2p41 → ∀ z : (Int64 × IV), z = sp t2p41 → ∀ (H : Heap) (locs : List Loc) (ls : Array Slot), va_P g.1 vwCl (wMo g mo a o_4 now dr pa sa iS bu tq rT wT sK sA sB sE oq bS bE bL rp) H → va_D (inW ws0) (wMo g mo a o_4 now dr pa sa iS bu tq rT wT sK sA sB sE oq bS bE bL rp) → va_S (inW ws0) s.heap H locs → lv_has ls 3 [] → W p l e rm_Mo_valueOf s m args below meth c H locs 0 0 (MQ below (CL g ws0 (fun u : IV => wMo g mo a u now dr pa sa iS bu tq rT wT sK sA sB sE oq bS bE bL rp) z) args s 0 0 (inW ws0)) (F0 m 41 ls [.int t2p41, .int p1, .ref mo])
noncomputable def sp_Mo_valueOf_41 (p1 : Int32) (now : LV) (o_4 : IV)  (t2p41 : Int32) : Int64 × IV := lett (sp_Mo_ofResult p1 t2p41 now) fun (y8 : Int64) => (y8, o_4)
def ok_Mo_valueOf_41 (p1 : Int32) (now : LV) (o_4 : IV)   (t2p41 : Int32) : Prop := (ok_Mo_ofResult p1 t2p41) ∧ True
set_option maxRecDepth 100000 in
set_option maxHeartbeats 4000000 in
theorem k_Mo_valueOf_41 {p : Program} {l : Launch} {e : Env} {s : State} {m : MethodId} {args : Array Value} {below : List Frame} {meth : Method} {c : Code} {g : GX} {mo : Nat} {a : Nat → Nat} {ws0 : va_W} {o_4 : IV} {now : LV} {dr : LV} {pa : LV} {sa : LV} {iS : IV} {bu : IV} {tq : IV} {rT : IV} {wT : IV} {sK : IV} {sA : IV} {sB : IV} {sE : IV} {oq : IV} {bS : IV} {bE : IV} {bL : IV} {rp : IV} {p1 : Int32}  (C : Cx p s m args meth c (inW ws0) g "DecadeBridgeModel" b_Mo_valueOf (some .long) 3)  : HL_Mo_valueOf_41 p l e s m args below meth c g mo a ws0 o_4 now dr pa sa iS bu tq rT wT sK sA sB sE oq bS bE bL rp p1 (sp_Mo_valueOf_41 p1 now o_4 ) (ok_Mo_valueOf_41 p1 now o_4  ) := by
  intro t2p41 hok z hz H locs ls hP hD hS hl
  obtain ⟨hx, hb, hr, hml, hown, hlk, hts, hK, hZo, hZ⟩ := id C
  unfold sp_Mo_valueOf_41 at hz
  unfold ok_Mo_valueOf_41 at hok
  have hs7 := hok.1
  have hok := hok.2
  have hB : SubW g (inW ws0) s (wMo g mo a o_4 now dr pa sa iS bu tq rT wT sK sA sB sE oq bS bE bL rp) _ (List.range _) _ _ := (subF hP hD hS)
  refine goL0 hB (run_v C mf_Mo_ofResult qm_Mo_406 (c_Mo_ofResult l g mo a o_4 now dr pa sa iS bu tq rT wT sK sA sB sE oq bS bE bL rp p1 t2p41 hs7) rfl rfl ⟨Nat.le_of_ble_eq_true rfl, Nat.le_of_ble_eq_true rfl⟩ ⟨Nat.le_of_ble_eq_true rfl, Nat.le_of_ble_eq_true rfl⟩ hB rfl rfl hl rfl rfl (Nat.le_of_ble_eq_true rfl) d_Mo_valueOf_41) (fun y8 ey8 H locs hP hS => ?_)
  have hz := lett_z hz ey8
  exact endL1 C hz hP hS d_Mo_valueOf_44
noncomputable def sp_Mo_valueOf_14 (o : IV) (p2 : Int32) (p1 : Int32) (now : LV)  (t1p14 : Int32) : Int64 × IV := lett (upd o 6 t1p14) fun (o_4 : IV) => if (o_4 6) ≤ 0 then (if p2 = 0 then (sp_Mo_valueOf_41 p1 now o_4 (6 : Int32)) else (sp_Mo_valueOf_41 p1 now o_4 (7 : Int32))) else (((0 : Int64), o_4))
def ok_Mo_valueOf_14 (o : IV) (p2 : Int32) (p1 : Int32) (now : LV)   (t1p14 : Int32) : Prop := lett (upd o 6 t1p14) fun (o_4 : IV) => (((o_4 6) ≤ 0 → ((p2 = 0 → ok_Mo_valueOf_41 p1 now o_4 (6 : Int32)) ∧ (¬ (p2 = 0) → ok_Mo_valueOf_41 p1 now o_4 (7 : Int32)))) ∧ (¬ ((o_4 6) ≤ 0) → True))
set_option maxRecDepth 100000 in
set_option maxHeartbeats 4000000 in
theorem k_Mo_valueOf_14 {p : Program} {l : Launch} {e : Env} {s : State} {m : MethodId} {args : Array Value} {below : List Frame} {meth : Method} {c : Code} {g : GX} {mo : Nat} {a : Nat → Nat} {ws0 : va_W} {o : IV} {now : LV} {dr : LV} {pa : LV} {sa : LV} {iS : IV} {bu : IV} {tq : IV} {rT : IV} {wT : IV} {sK : IV} {sA : IV} {sB : IV} {sE : IV} {oq : IV} {bS : IV} {bE : IV} {bL : IV} {rp : IV} {p1 : Int32} {p2 : Int32}  (C : Cx p s m args meth c (inW ws0) g "DecadeBridgeModel" b_Mo_valueOf (some .long) 3)  : HL_Mo_valueOf_14 p l e s m args below meth c g mo a ws0 o now dr pa sa iS bu tq rT wT sK sA sB sE oq bS bE bL rp p1 p2 (sp_Mo_valueOf_14 o p2 p1 now ) (ok_Mo_valueOf_14 o p2 p1 now  ) := by
  intro t1p14 hok z hz H locs ls hP hD hS hl
  obtain ⟨hx, hb, hr, hml, hown, hlk, hts, hK, hZo, hZ⟩ := id C
  unfold sp_Mo_valueOf_14 at hz
  unfold ok_Mo_valueOf_14 at hok
  refine pfI C hP hD hS 0 6 fkMo rfl (by decide) rfl qf_Mo_107 rfl rfl rfl (Nat.le_of_ble_eq_true rfl) (ff := fun o => fMo a o) (sMo_6 _ _ _) d_Mo_valueOf_14 (fun o_4 eo_4 H locs hP hD hS => ?_)
  have hP : va_P g.1 vwCl (wMo g mo a o_4 now dr pa sa iS bu tq rT wT sK sA sB sE oq bS bE bL rp) H := hP
  have hD : va_D (inW ws0) (wMo g mo a o_4 now dr pa sa iS bu tq rT wT sK sA sB sE oq bS bE bL rp) := hD
  have hz := lett_z hz eo_4
  have hok := lett_o hok eo_4
  refine lv_aload_n hx hb d_Mo_valueOf_17 rfl (lv_at hl 0 rfl) ?_
  refine gf C hP 0 6 fkMo rfl (by decide) rfl qf_Mo_107 (gMo_6 _ _) d_Mo_valueOf_18 ?_
  refine lv_if_le (tgt := 28) hx hb d_Mo_valueOf_21 (by decide) (fun c5 => ?_) (fun c5 => ?_)
  · have hz := hz.trans (if_pos c5)
    have hok := hok.1 c5
    refine lv_aload_n hx hb d_Mo_valueOf_28 rfl (lv_at hl 0 rfl) ?_
    refine lv_iload_n hx hb d_Mo_valueOf_29 rfl (lv_at hl 1 rfl) ?_
    refine lv_iload_n hx hb d_Mo_valueOf_30 rfl (lv_at hl 2 rfl) ?_
    refine lv_if_eq (tgt := 39) hx hb d_Mo_valueOf_31 (by decide) (fun c6 => ?_) (fun c6 => ?_)
    · have hz := hz.trans (if_pos c6)
      have hok := hok.1 c6
      refine lv_bipush (v := 6) hx hb d_Mo_valueOf_39 (by decide) ?_
      exact k_Mo_valueOf_41 C (6 : Int32) hok _ hz _ _ ls hP hD hS (lv_sub hl [] rfl)
    · have hz := hz.trans (if_neg c6)
      have hok := hok.2 c6
      refine lv_bipush (v := 7) hx hb d_Mo_valueOf_34 (by decide) ?_
      refine lv_goto (tgt := 41) hx hb d_Mo_valueOf_36 (by decide) ?_
      exact k_Mo_valueOf_41 C (7 : Int32) hok _ hz _ _ ls hP hD hS (lv_sub hl [] rfl)
  · have hz := hz.trans (if_neg c5)
    refine lv_lconst (v := 0) hx hb d_Mo_valueOf_24 (by decide) ?_
    refine lv_goto (tgt := 44) hx hb d_Mo_valueOf_25 (by decide) ?_
    exact endL1 C hz hP hS d_Mo_valueOf_44
noncomputable def sp_Mo_valueOf (p1 : Int32) (p2 : Int32) (o : IV) (now : LV) : Int64 × IV := lett (sp_Mo_isResult p1 now) fun (y2 : Int32) => if y2 = 0 then (sp_Mo_valueOf_14 o p2 p1 now (1 : Int32)) else (sp_Mo_valueOf_14 o p2 p1 now (0 : Int32))
def ok_Mo_valueOf (p1 : Int32) (p2 : Int32) (o : IV) (now : LV) : Prop := (ok_Mo_isResult p1 now) ∧ lett (sp_Mo_isResult p1 now) fun (y2 : Int32) => ((y2 = 0 → ok_Mo_valueOf_14 o p2 p1 now (1 : Int32)) ∧ (¬ (y2 = 0) → ok_Mo_valueOf_14 o p2 p1 now (0 : Int32)))
set_option maxRecDepth 100000 in
set_option maxHeartbeats 4000000 in
theorem c_Mo_valueOf (l : Launch) (g : GX) (mo : Nat) (a : Nat → Nat) (o : IV) (now : LV) (dr : LV) (pa : LV) (sa : LV) (iS : IV) (bu : IV) (tq : IV) (rT : IV) (wT : IV) (sK : IV) (sA : IV) (sB : IV) (sE : IV) (oq : IV) (bS : IV) (bE : IV) (bL : IV) (rp : IV) (p1 : Int32) (p2 : Int32) (hok : ok_Mo_valueOf p1 p2 o now) : Met l y_Mo_valueOf (wsY y_Mo_valueOf b_Mo_valueOf 3 (some .long)) rm_Mo_valueOf (CP g [.ref mo, .int p1, .int p2] (wMo g mo a o now dr pa sa iS bu tq rT wT sK sA sB sE oq bS bE bL rp)) (CL g (wMo g mo a o now dr pa sa iS bu tq rT wT sK sA sB sE oq bS bE bL rp) (fun u : IV => wMo g mo a u now dr pa sa iS bu tq rT wT sK sA sB sE oq bS bE bL rp) (sp_Mo_valueOf p1 p2 o now)) 0 0 (inW (wMo g mo a o now dr pa sa iS bu tq rT wT sK sA sB sE oq bS bE bL rp)) := by
  refine Met.ofW (cc := b_Mo_valueOf) (maxL := 3) (ret := (some .long)) pn_Mo rfl ?_
  intro p e s m args below meth c s₁ B hml hv
  obtain ⟨rfl, C, hP, hD, hS⟩ := enter "DecadeBridgeModel" rfl B hml hv
  obtain ⟨hx, hb, hr, hml, hown, hlk, hts, hK, hZo, hZ⟩ := id C
  refine entryW (lv := [(0, .ref mo), (1, .int p1), (2, .int p2)]) rfl (Nat.le_of_ble_eq_true rfl) (fun ls hl => ?_)
  obtain ⟨z, hz⟩ : ∃ z, z = sp_Mo_valueOf p1 p2 o now := ⟨_, rfl⟩
  rw [← hz]
  unfold sp_Mo_valueOf at hz
  unfold ok_Mo_valueOf at hok
  refine lv_aload_n hx hb d_Mo_valueOf_0 rfl (lv_at hl 0 rfl) ?_
  refine lv_aload_n hx hb d_Mo_valueOf_1 rfl (lv_at hl 0 rfl) ?_
  refine lv_iload_n hx hb d_Mo_valueOf_2 rfl (lv_at hl 1 rfl) ?_
  have hs1 := hok.1
  have hok := hok.2
  have hB : SubW g (inW (wMo g mo a o now dr pa sa iS bu tq rT wT sK sA sB sE oq bS bE bL rp)) s (wMo g mo a o now dr pa sa iS bu tq rT wT sK sA sB sE oq bS bE bL rp) _ (List.range _) _ _ := (subF hP hD hS)
  refine goI0 hB (run_v C mf_Mo_isResult qm_Mo_433 (c_Mo_isResult l g mo a o now dr pa sa iS bu tq rT wT sK sA sB sE oq bS bE bL rp p1 hs1) rfl rfl ⟨Nat.le_of_ble_eq_true rfl, Nat.le_of_ble_eq_true rfl⟩ ⟨Nat.le_of_ble_eq_true rfl, Nat.le_of_ble_eq_true rfl⟩ hB rfl rfl hl rfl rfl (Nat.le_of_ble_eq_true rfl) d_Mo_valueOf_3) (fun y2 ey2 H locs hP hS => ?_)
  have hz := lett_z hz ey2
  have hok := lett_o hok ey2
  refine lv_if_eq (tgt := 13) hx hb d_Mo_valueOf_6 (by decide) (fun c3 => ?_) (fun c3 => ?_)
  · have hz := hz.trans (if_pos c3)
    have hok := hok.1 c3
    refine lv_iconst (v := 1) hx hb d_Mo_valueOf_13 (by decide) ?_
    exact k_Mo_valueOf_14 C (1 : Int32) hok _ hz _ _ ls hP hD hS hl
  · have hz := hz.trans (if_neg c3)
    have hok := hok.2 c3
    refine lv_iconst (v := 0) hx hb d_Mo_valueOf_9 (by decide) ?_
    refine lv_goto (tgt := 14) hx hb d_Mo_valueOf_10 (by decide) ?_
    exact k_Mo_valueOf_14 C (0 : Int32) hok _ hz _ _ ls hP hD hS hl
abbrev rm_Mo_resultsOf : Room := { frames := 2, cells := 0, slots := 0, locals := 44 }
def HL_Mo_resultsOf_4 (p : Program) (l : Launch) (e : Env) (s : State) (m : MethodId) (args : Array Value) (below : List Frame) (meth : Method) (c : Code) (g : GX) (mo : Nat) (a : Nat → Nat) (o : IV) (now : LV) (dr : LV) (pa : LV) (sa : LV) (iS : IV) (bu : IV) (tq : IV) (rT : IV) (wT : IV) (sK : IV) (sA : IV) (sB : IV) (sE : IV) (oq : IV) (bS : IV) (bE : IV) (bL : IV) (rp : IV) (p1 : Int32) (sp : Int32 → Int32 → Int32) (ok : Int32 → Int32 → Prop) : Prop := ∀ (x2p4 : Int32) (x3p4 : Int32), ok x2p4 x3p4 → ∀ z : Int32, z = sp x2p4 x3p4 → ∀ (H : Heap) (locs : List Loc) (ls : Array Slot), va_P g.1 vwCl (wMo g mo a o now dr pa sa iS bu tq rT wT sK sA sB sE oq bS bE bL rp) H → va_D (inW (wMo g mo a o now dr pa sa iS bu tq rT wT sK sA sB sE oq bS bE bL rp)) (wMo g mo a o now dr pa sa iS bu tq rT wT sK sA sB sE oq bS bE bL rp) → va_S (inW (wMo g mo a o now dr pa sa iS bu tq rT wT sK sA sB sE oq bS bE bL rp)) s.heap H locs → lv_has ls 4 [(0, .ref mo), (1, .int p1), (2, .int x2p4), (3, .int x3p4)] → W p l e rm_Mo_resultsOf s m args below meth c H locs 0 0 (MQ below (CI0 g (wMo g mo a o now dr pa sa iS bu tq rT wT sK sA sB sE oq bS bE bL rp) z) args s 0 0 (inW (wMo g mo a o now dr pa sa iS bu tq rT wT sK sA sB sE oq bS bE bL rp))) (F0 m 4 ls [])
def HL_Mo_resultsOf_32 (p : Program) (l : Launch) (e : Env) (s : State) (m : MethodId) (args : Array Value) (below : List Frame) (meth : Method) (c : Code) (g : GX) (mo : Nat) (a : Nat → Nat) (o : IV) (now : LV) (dr : LV) (pa : LV) (sa : LV) (iS : IV) (bu : IV) (tq : IV) (rT : IV) (wT : IV) (sK : IV) (sA : IV) (sB : IV) (sE : IV) (oq : IV) (bS : IV) (bE : IV) (bL : IV) (rp : IV) (p1 : Int32) (x3p4 : Int32) (x2p4 : Int32) (sp : Int32 → Int32) (ok : Int32 → Prop) : Prop := ∀ (t1p32 : Int32), ok t1p32 → ∀ z : Int32, z = sp t1p32 → ∀ (H : Heap) (locs : List Loc) (ls : Array Slot), va_P g.1 vwCl (wMo g mo a o now dr pa sa iS bu tq rT wT sK sA sB sE oq bS bE bL rp) H → va_D (inW (wMo g mo a o now dr pa sa iS bu tq rT wT sK sA sB sE oq bS bE bL rp)) (wMo g mo a o now dr pa sa iS bu tq rT wT sK sA sB sE oq bS bE bL rp) → va_S (inW (wMo g mo a o now dr pa sa iS bu tq rT wT sK sA sB sE oq bS bE bL rp)) s.heap H locs → lv_has ls 4 [(0, .ref mo), (1, .int p1), (3, .int x3p4)] → W p l e rm_Mo_resultsOf s m args below meth c H locs 0 0 (MQ below (CI0 g (wMo g mo a o now dr pa sa iS bu tq rT wT sK sA sB sE oq bS bE bL rp) z) args s 0 0 (inW (wMo g mo a o now dr pa sa iS bu tq rT wT sK sA sB sE oq bS bE bL rp))) (F0 m 32 ls [.int t1p32, .int x2p4])
noncomputable def sp_Mo_resultsOf_32 (x2p4 : Int32) (x3p4 : Int32) (r4 : Int32 → Int32 → Int32) (t1p32 : Int32) : Int32 := lett (x2p4 + t1p32) fun (v5 : Int32) => lett (x3p4 + (1 : Int32)) fun (v6 : Int32) => r4 v5 v6
def ok_Mo_resultsOf_32 (x2p4 : Int32) (x3p4 : Int32) (r4 : Int32 → Int32 → Int32) (q4 : Int32 → Int32 → Prop) (t1p32 : Int32) : Prop := lett (x2p4 + t1p32) fun (v5 : Int32) => lett (x3p4 + (1 : Int32)) fun (v6 : Int32) => q4 v5 v6
set_option maxRecDepth 100000 in
set_option maxHeartbeats 4000000 in
theorem k_Mo_resultsOf_32 {p : Program} {l : Launch} {e : Env} {s : State} {m : MethodId} {args : Array Value} {below : List Frame} {meth : Method} {c : Code} {g : GX} {mo : Nat} {a : Nat → Nat} {o : IV} {now : LV} {dr : LV} {pa : LV} {sa : LV} {iS : IV} {bu : IV} {tq : IV} {rT : IV} {wT : IV} {sK : IV} {sA : IV} {sB : IV} {sE : IV} {oq : IV} {bS : IV} {bE : IV} {bL : IV} {rp : IV} {p1 : Int32} {x3p4 : Int32} {x2p4 : Int32} {r4 : Int32 → Int32 → Int32} {q4 : Int32 → Int32 → Prop} (C : Cx p s m args meth c (inW (wMo g mo a o now dr pa sa iS bu tq rT wT sK sA sB sE oq bS bE bL rp)) g "DecadeBridgeModel" b_Mo_resultsOf (some .int) 4) (ih4 : HL_Mo_resultsOf_4 p l e s m args below meth c g mo a o now dr pa sa iS bu tq rT wT sK sA sB sE oq bS bE bL rp p1 r4 q4) : HL_Mo_resultsOf_32 p l e s m args below meth c g mo a o now dr pa sa iS bu tq rT wT sK sA sB sE oq bS bE bL rp p1 x3p4 x2p4 (sp_Mo_resultsOf_32 x2p4 x3p4 r4) (ok_Mo_resultsOf_32 x2p4 x3p4 r4 q4) := by
  intro t1p32 hok z hz H locs ls hP hD hS hl
  obtain ⟨hx, hb, hr, hml, hown, hlk, hts, hK, hZo, hZ⟩ := id C
  unfold sp_Mo_resultsOf_32 at hz
  unfold ok_Mo_resultsOf_32 at hok
  refine lv_iadd hx hb d_Mo_resultsOf_32 ?_
  refine lv_topi (fun v5 ev5 => ?_)
  have hz := lett_z hz ev5
  have hok := lett_o hok ev5
  refine lv_istore_n (lv' := [(2, .int v5), (0, .ref mo), (1, .int p1), (3, .int x3p4)]) hx hb d_Mo_resultsOf_33 rfl hl (by decide) rfl (fun ls hl => ?_)
  obtain ⟨v6, ev6⟩ : ∃ y : Int32, y = x3p4 + (1 : Int32) := ⟨_, rfl⟩
  have hz := lett_z hz ev6
  have hok := lett_o hok ev6
  refine lv_iinc (v := v6) (lv' := [(3, .int v6), (2, .int v5), (0, .ref mo), (1, .int p1)]) hx hb d_Mo_resultsOf_34 hl (k := 3) rfl (by rw [ev6]; rfl) (by decide) rfl (fun ls hl => ?_)
  refine lv_goto (tgt := 4) hx hb d_Mo_resultsOf_37 (by decide) ?_
  exact ih4 v5 v6 hok _ hz _ _ ls hP hD hS (lv_sub hl [2, 3, 1, 0] rfl)
noncomputable def bd_Mo_resultsOf_4 (now : LV) (p1 : Int32) (r4 : Int32 → Int32 → Int32) (x2p4 : Int32) (x3p4 : Int32) : Int32 := if (now 54) ≤ x3p4.toInt64 then (x2p4) else (lett (sp_Mo_isAlike p1 x3p4 now) fun (y3 : Int32) => if y3 = 0 then (sp_Mo_resultsOf_32 x2p4 x3p4 r4 (0 : Int32)) else (sp_Mo_resultsOf_32 x2p4 x3p4 r4 (1 : Int32)))
def okb_Mo_resultsOf_4 (now : LV) (p1 : Int32) (r4 : Int32 → Int32 → Int32) (q4 : Int32 → Int32 → Prop) (x2p4 : Int32) (x3p4 : Int32) : Prop := (((now 54) ≤ x3p4.toInt64 → True) ∧ (¬ ((now 54) ≤ x3p4.toInt64) → (ok_Mo_isAlike p1 x3p4 now) ∧ lett (sp_Mo_isAlike p1 x3p4 now) fun (y3 : Int32) => ((y3 = 0 → ok_Mo_resultsOf_32 x2p4 x3p4 r4 q4 (0 : Int32)) ∧ (¬ (y3 = 0) → ok_Mo_resultsOf_32 x2p4 x3p4 r4 q4 (1 : Int32)))))
noncomputable def sp_Mo_resultsOf_4 (now : LV) (p1 : Int32)  : Nat → Int32 → Int32 → Int32
  | 0 => fun _ _ => default
  | f + 1 => bd_Mo_resultsOf_4 now p1  (sp_Mo_resultsOf_4 now p1  f)
def ok_Mo_resultsOf_4 (now : LV) (p1 : Int32)   : Nat → Int32 → Int32 → Prop
  | 0 => fun _ _ => False
  | f + 1 => okb_Mo_resultsOf_4 now p1  (sp_Mo_resultsOf_4 now p1  f)  (ok_Mo_resultsOf_4 now p1   f)
set_option maxRecDepth 100000 in
set_option maxHeartbeats 4000000 in
theorem kb_Mo_resultsOf_4 {p : Program} {l : Launch} {e : Env} {s : State} {m : MethodId} {args : Array Value} {below : List Frame} {meth : Method} {c : Code} {g : GX} {mo : Nat} {a : Nat → Nat} {o : IV} {now : LV} {dr : LV} {pa : LV} {sa : LV} {iS : IV} {bu : IV} {tq : IV} {rT : IV} {wT : IV} {sK : IV} {sA : IV} {sB : IV} {sE : IV} {oq : IV} {bS : IV} {bE : IV} {bL : IV} {rp : IV} {p1 : Int32}  (C : Cx p s m args meth c (inW (wMo g mo a o now dr pa sa iS bu tq rT wT sK sA sB sE oq bS bE bL rp)) g "DecadeBridgeModel" b_Mo_resultsOf (some .int) 4) {r4 : Int32 → Int32 → Int32} {q4 : Int32 → Int32 → Prop}  (ih4 : HL_Mo_resultsOf_4 p l e s m args below meth c g mo a o now dr pa sa iS bu tq rT wT sK sA sB sE oq bS bE bL rp p1 r4 q4) : HL_Mo_resultsOf_4 p l e s m args below meth c g mo a o now dr pa sa iS bu tq rT wT sK sA sB sE oq bS bE bL rp p1 (bd_Mo_resultsOf_4 now p1  r4) (okb_Mo_resultsOf_4 now p1  r4  q4) := by
  intro x2p4 x3p4 hok z hz H locs ls hP hD hS hl
  obtain ⟨hx, hb, hr, hml, hown, hlk, hts, hK, hZo, hZ⟩ := id C
  unfold bd_Mo_resultsOf_4 at hz
  unfold okb_Mo_resultsOf_4 at hok
  refine lv_iload_n hx hb d_Mo_resultsOf_4 rfl (lv_at hl 3 rfl) ?_
  refine lv_i2l hx hb d_Mo_resultsOf_5 rfl ?_
  refine lv_aload_n hx hb d_Mo_resultsOf_6 rfl (lv_at hl 0 rfl) ?_
  refine gf C hP 0 0 fkMo rfl (by decide) rfl qf_Mo_7 (gMo_0 _ _) d_Mo_resultsOf_7 ?_
  refine lv_bipush (v := 54) hx hb d_Mo_resultsOf_10 (by decide) ?_
  refine ldL C hP 1 rfl vi_54_215 cn_54 d_Mo_resultsOf_12 ?_
  refine lc_ge (tgt := 40) hx hb d_Mo_resultsOf_13 d_Mo_resultsOf_14 (by decide) (fun c1 => ?_) (fun c1 => ?_)
  · have hz := hz.trans (if_pos c1)
    refine lv_iload_n hx hb d_Mo_resultsOf_40 rfl (lv_at hl 2 rfl) ?_
    exact endI0 C hz hP hS d_Mo_resultsOf_41
  · have hz := hz.trans (if_neg c1)
    have hok := hok.2 c1
    refine lv_iload_n hx hb d_Mo_resultsOf_17 rfl (lv_at hl 2 rfl) ?_
    refine lv_aload_n hx hb d_Mo_resultsOf_18 rfl (lv_at hl 0 rfl) ?_
    refine lv_iload_n hx hb d_Mo_resultsOf_19 rfl (lv_at hl 1 rfl) ?_
    refine lv_iload_n hx hb d_Mo_resultsOf_20 rfl (lv_at hl 3 rfl) ?_
    have hs2 := hok.1
    have hok := hok.2
    have hB : SubW g (inW (wMo g mo a o now dr pa sa iS bu tq rT wT sK sA sB sE oq bS bE bL rp)) s (wMo g mo a o now dr pa sa iS bu tq rT wT sK sA sB sE oq bS bE bL rp) _ (List.range _) _ _ := (subF hP hD hS)
    refine goI0 hB (run_v C mf_Mo_isAlike qm_Mo_410 (c_Mo_isAlike l g mo a o now dr pa sa iS bu tq rT wT sK sA sB sE oq bS bE bL rp p1 x3p4 hs2) rfl rfl ⟨Nat.le_of_ble_eq_true rfl, Nat.le_of_ble_eq_true rfl⟩ ⟨Nat.le_of_ble_eq_true rfl, Nat.le_of_ble_eq_true rfl⟩ hB rfl rfl hl rfl rfl (Nat.le_of_ble_eq_true rfl) d_Mo_resultsOf_21) (fun y3 ey3 H locs hP hS => ?_)
    have hz := lett_z hz ey3
    have hok := lett_o hok ey3
    refine lv_if_eq (tgt := 31) hx hb d_Mo_resultsOf_24 (by decide) (fun c4 => ?_) (fun c4 => ?_)
    · have hz := hz.trans (if_pos c4)
      have hok := hok.1 c4
      refine lv_iconst (v := 0) hx hb d_Mo_resultsOf_31 (by decide) ?_
      exact k_Mo_resultsOf_32 C ih4 (0 : Int32) hok _ hz _ _ ls hP hD hS (lv_sub hl [0, 1, 3] rfl)
    · have hz := hz.trans (if_neg c4)
      have hok := hok.2 c4
      refine lv_iconst (v := 1) hx hb d_Mo_resultsOf_27 (by decide) ?_
      refine lv_goto (tgt := 32) hx hb d_Mo_resultsOf_28 (by decide) ?_
      exact k_Mo_resultsOf_32 C ih4 (1 : Int32) hok _ hz _ _ ls hP hD hS (lv_sub hl [0, 1, 3] rfl)
theorem k_Mo_resultsOf_4 {p : Program} {l : Launch} {e : Env} {s : State} {m : MethodId} {args : Array Value} {below : List Frame} {meth : Method} {c : Code} {g : GX} {mo : Nat} {a : Nat → Nat} {o : IV} {now : LV} {dr : LV} {pa : LV} {sa : LV} {iS : IV} {bu : IV} {tq : IV} {rT : IV} {wT : IV} {sK : IV} {sA : IV} {sB : IV} {sE : IV} {oq : IV} {bS : IV} {bE : IV} {bL : IV} {rp : IV} {p1 : Int32}  (C : Cx p s m args meth c (inW (wMo g mo a o now dr pa sa iS bu tq rT wT sK sA sB sE oq bS bE bL rp)) g "DecadeBridgeModel" b_Mo_resultsOf (some .int) 4) (f : Nat)  : HL_Mo_resultsOf_4 p l e s m args below meth c g mo a o now dr pa sa iS bu tq rT wT sK sA sB sE oq bS bE bL rp p1 (sp_Mo_resultsOf_4 now p1  f) (ok_Mo_resultsOf_4 now p1   f) := by
  induction f with
  | zero => intro x2p4 x3p4 hok; exact False.elim hok
  | succ f ih => exact kb_Mo_resultsOf_4 C  ih
noncomputable def sp_Mo_resultsOf (p1 : Int32) (now : LV) : Int32 := sp_Mo_resultsOf_4 now p1 big (0 : Int32) p1
def ok_Mo_resultsOf (p1 : Int32) (now : LV) : Prop := ok_Mo_resultsOf_4 now p1 big (0 : Int32) p1
set_option maxRecDepth 100000 in
set_option maxHeartbeats 4000000 in
theorem c_Mo_resultsOf (l : Launch) (g : GX) (mo : Nat) (a : Nat → Nat) (o : IV) (now : LV) (dr : LV) (pa : LV) (sa : LV) (iS : IV) (bu : IV) (tq : IV) (rT : IV) (wT : IV) (sK : IV) (sA : IV) (sB : IV) (sE : IV) (oq : IV) (bS : IV) (bE : IV) (bL : IV) (rp : IV) (p1 : Int32) (hok : ok_Mo_resultsOf p1 now) : Met l y_Mo_resultsOf (wsY y_Mo_resultsOf b_Mo_resultsOf 4 (some .int)) rm_Mo_resultsOf (CP g [.ref mo, .int p1] (wMo g mo a o now dr pa sa iS bu tq rT wT sK sA sB sE oq bS bE bL rp)) (CI0 g (wMo g mo a o now dr pa sa iS bu tq rT wT sK sA sB sE oq bS bE bL rp) (sp_Mo_resultsOf p1 now)) 0 0 (inW (wMo g mo a o now dr pa sa iS bu tq rT wT sK sA sB sE oq bS bE bL rp)) := by
  refine Met.ofW (cc := b_Mo_resultsOf) (maxL := 4) (ret := (some .int)) pn_Mo rfl ?_
  intro p e s m args below meth c s₁ B hml hv
  obtain ⟨rfl, C, hP, hD, hS⟩ := enter "DecadeBridgeModel" rfl B hml hv
  obtain ⟨hx, hb, hr, hml, hown, hlk, hts, hK, hZo, hZ⟩ := id C
  refine entryW (lv := [(0, .ref mo), (1, .int p1)]) rfl (Nat.le_of_ble_eq_true rfl) (fun ls hl => ?_)
  obtain ⟨z, hz⟩ : ∃ z, z = sp_Mo_resultsOf p1 now := ⟨_, rfl⟩
  rw [← hz]
  unfold sp_Mo_resultsOf at hz
  unfold ok_Mo_resultsOf at hok
  refine lv_iconst (v := 0) hx hb d_Mo_resultsOf_0 (by decide) ?_
  refine lv_istore_n (lv' := [(2, .int (0 : Int32)), (0, .ref mo), (1, .int p1)]) hx hb d_Mo_resultsOf_1 rfl hl (by decide) rfl (fun ls hl => ?_)
  refine lv_iload_n hx hb d_Mo_resultsOf_2 rfl (lv_at hl 2 rfl) ?_
  refine lv_istore_n (lv' := [(3, .int p1), (2, .int (0 : Int32)), (0, .ref mo), (1, .int p1)]) hx hb d_Mo_resultsOf_3 rfl hl (by decide) rfl (fun ls hl => ?_)
  exact k_Mo_resultsOf_4 C big (0 : Int32) p1 hok _ hz _ _ ls hP hD hS (lv_sub hl [2, 3, 1, 0] rfl)
abbrev rm_Mo_latest : Room := { frames := 2, cells := 0, slots := 0, locals := 44 }
def HL_Mo_latest_11 (p : Program) (l : Launch) (e : Env) (s : State) (m : MethodId) (args : Array Value) (below : List Frame) (meth : Method) (c : Code) (g : GX) (mo : Nat) (a : Nat → Nat) (o : IV) (now : LV) (dr : LV) (pa : LV) (sa : LV) (iS : IV) (bu : IV) (tq : IV) (rT : IV) (wT : IV) (sK : IV) (sA : IV) (sB : IV) (sE : IV) (oq : IV) (bS : IV) (bE : IV) (bL : IV) (rp : IV) (p1 : Int32) (sp : Int32 → Int32) (ok : Int32 → Prop) : Prop := ∀ (x2p11 : Int32), ok x2p11 → ∀ z : Int32, z = sp x2p11 → ∀ (H : Heap) (locs : List Loc) (ls : Array Slot), va_P g.1 vwCl (wMo g mo a o now dr pa sa iS bu tq rT wT sK sA sB sE oq bS bE bL rp) H → va_D (inW (wMo g mo a o now dr pa sa iS bu tq rT wT sK sA sB sE oq bS bE bL rp)) (wMo g mo a o now dr pa sa iS bu tq rT wT sK sA sB sE oq bS bE bL rp) → va_S (inW (wMo g mo a o now dr pa sa iS bu tq rT wT sK sA sB sE oq bS bE bL rp)) s.heap H locs → lv_has ls 3 [(0, .ref mo), (1, .int p1), (2, .int x2p11)] → W p l e rm_Mo_latest s m args below meth c H locs 0 0 (MQ below (CI0 g (wMo g mo a o now dr pa sa iS bu tq rT wT sK sA sB sE oq bS bE bL rp) z) args s 0 0 (inW (wMo g mo a o now dr pa sa iS bu tq rT wT sK sA sB sE oq bS bE bL rp))) (F0 m 11 ls [])
noncomputable def bd_Mo_latest_11 (p1 : Int32) (now : LV) (r11 : Int32 → Int32) (x2p11 : Int32) : Int32 := lett (sp_Mo_isAlike p1 x2p11 now) fun (y3 : Int32) => if y3 = 0 then (lett (x2p11 + (-1 : Int32)) fun (v5 : Int32) => r11 v5) else (x2p11)
def okb_Mo_latest_11 (p1 : Int32) (now : LV) (r11 : Int32 → Int32) (q11 : Int32 → Prop) (x2p11 : Int32) : Prop := (ok_Mo_isAlike p1 x2p11 now) ∧ lett (sp_Mo_isAlike p1 x2p11 now) fun (y3 : Int32) => ((y3 = 0 → lett (x2p11 + (-1 : Int32)) fun (v5 : Int32) => q11 v5) ∧ (¬ (y3 = 0) → True))
noncomputable def sp_Mo_latest_11 (p1 : Int32) (now : LV)  : Nat → Int32 → Int32
  | 0 => fun _ => default
  | f + 1 => bd_Mo_latest_11 p1 now  (sp_Mo_latest_11 p1 now  f)
def ok_Mo_latest_11 (p1 : Int32) (now : LV)   : Nat → Int32 → Prop
  | 0 => fun _ => False
  | f + 1 => okb_Mo_latest_11 p1 now  (sp_Mo_latest_11 p1 now  f)  (ok_Mo_latest_11 p1 now   f)
set_option maxRecDepth 100000 in
set_option maxHeartbeats 4000000 in
theorem kb_Mo_latest_11 {p : Program} {l : Launch} {e : Env} {s : State} {m : MethodId} {args : Array Value} {below : List Frame} {meth : Method} {c : Code} {g : GX} {mo : Nat} {a : Nat → Nat} {o : IV} {now : LV} {dr : LV} {pa : LV} {sa : LV} {iS : IV} {bu : IV} {tq : IV} {rT : IV} {wT : IV} {sK : IV} {sA : IV} {sB : IV} {sE : IV} {oq : IV} {bS : IV} {bE : IV} {bL : IV} {rp : IV} {p1 : Int32}  (C : Cx p s m args meth c (inW (wMo g mo a o now dr pa sa iS bu tq rT wT sK sA sB sE oq bS bE bL rp)) g "DecadeBridgeModel" b_Mo_latest (some .int) 3) {r11 : Int32 → Int32} {q11 : Int32 → Prop}  (ih11 : HL_Mo_latest_11 p l e s m args below meth c g mo a o now dr pa sa iS bu tq rT wT sK sA sB sE oq bS bE bL rp p1 r11 q11) : HL_Mo_latest_11 p l e s m args below meth c g mo a o now dr pa sa iS bu tq rT wT sK sA sB sE oq bS bE bL rp p1 (bd_Mo_latest_11 p1 now  r11) (okb_Mo_latest_11 p1 now  r11  q11) := by
  intro x2p11 hok z hz H locs ls hP hD hS hl
  obtain ⟨hx, hb, hr, hml, hown, hlk, hts, hK, hZo, hZ⟩ := id C
  unfold bd_Mo_latest_11 at hz
  unfold okb_Mo_latest_11 at hok
  refine lv_aload_n hx hb d_Mo_latest_11 rfl (lv_at hl 0 rfl) ?_
  refine lv_iload_n hx hb d_Mo_latest_12 rfl (lv_at hl 1 rfl) ?_
  refine lv_iload_n hx hb d_Mo_latest_13 rfl (lv_at hl 2 rfl) ?_
  have hs2 := hok.1
  have hok := hok.2
  have hB : SubW g (inW (wMo g mo a o now dr pa sa iS bu tq rT wT sK sA sB sE oq bS bE bL rp)) s (wMo g mo a o now dr pa sa iS bu tq rT wT sK sA sB sE oq bS bE bL rp) _ (List.range _) _ _ := (subF hP hD hS)
  refine goI0 hB (run_v C mf_Mo_isAlike qm_Mo_410 (c_Mo_isAlike l g mo a o now dr pa sa iS bu tq rT wT sK sA sB sE oq bS bE bL rp p1 x2p11 hs2) rfl rfl ⟨Nat.le_of_ble_eq_true rfl, Nat.le_of_ble_eq_true rfl⟩ ⟨Nat.le_of_ble_eq_true rfl, Nat.le_of_ble_eq_true rfl⟩ hB rfl rfl hl rfl rfl (Nat.le_of_ble_eq_true rfl) d_Mo_latest_14) (fun y3 ey3 H locs hP hS => ?_)
  have hz := lett_z hz ey3
  have hok := lett_o hok ey3
  refine lv_if_ne (tgt := 26) hx hb d_Mo_latest_17 (by decide) (fun c4 => ?_) (fun c4 => ?_)
  · have hz := hz.trans (if_neg c4)
    refine lv_iload_n hx hb d_Mo_latest_26 rfl (lv_at hl 2 rfl) ?_
    exact endI0 C hz hP hS d_Mo_latest_27
  · have hz := hz.trans (if_pos c4)
    have hok := hok.1 c4
    obtain ⟨v5, ev5⟩ : ∃ y : Int32, y = x2p11 + (-1 : Int32) := ⟨_, rfl⟩
    have hz := lett_z hz ev5
    have hok := lett_o hok ev5
    refine lv_iinc (v := v5) (lv' := [(2, .int v5), (0, .ref mo), (1, .int p1)]) hx hb d_Mo_latest_20 hl (k := 2) rfl (by rw [ev5]; rfl) (by decide) rfl (fun ls hl => ?_)
    refine lv_goto (tgt := 11) hx hb d_Mo_latest_23 (by decide) ?_
    exact ih11 v5 hok _ hz _ _ ls hP hD hS (lv_sub hl [1, 2, 0] rfl)
theorem k_Mo_latest_11 {p : Program} {l : Launch} {e : Env} {s : State} {m : MethodId} {args : Array Value} {below : List Frame} {meth : Method} {c : Code} {g : GX} {mo : Nat} {a : Nat → Nat} {o : IV} {now : LV} {dr : LV} {pa : LV} {sa : LV} {iS : IV} {bu : IV} {tq : IV} {rT : IV} {wT : IV} {sK : IV} {sA : IV} {sB : IV} {sE : IV} {oq : IV} {bS : IV} {bE : IV} {bL : IV} {rp : IV} {p1 : Int32}  (C : Cx p s m args meth c (inW (wMo g mo a o now dr pa sa iS bu tq rT wT sK sA sB sE oq bS bE bL rp)) g "DecadeBridgeModel" b_Mo_latest (some .int) 3) (f : Nat)  : HL_Mo_latest_11 p l e s m args below meth c g mo a o now dr pa sa iS bu tq rT wT sK sA sB sE oq bS bE bL rp p1 (sp_Mo_latest_11 p1 now  f) (ok_Mo_latest_11 p1 now   f) := by
  induction f with
  | zero => intro x2p11 hok; exact False.elim hok
  | succ f ih => exact kb_Mo_latest_11 C  ih
noncomputable def sp_Mo_latest (p1 : Int32) (now : LV) : Int32 := lett (((now 54).toInt32) - (1 : Int32)) fun (v1 : Int32) => sp_Mo_latest_11 p1 now big v1
def ok_Mo_latest (p1 : Int32) (now : LV) : Prop := lett (((now 54).toInt32) - (1 : Int32)) fun (v1 : Int32) => ok_Mo_latest_11 p1 now big v1
set_option maxRecDepth 100000 in
set_option maxHeartbeats 4000000 in
theorem c_Mo_latest (l : Launch) (g : GX) (mo : Nat) (a : Nat → Nat) (o : IV) (now : LV) (dr : LV) (pa : LV) (sa : LV) (iS : IV) (bu : IV) (tq : IV) (rT : IV) (wT : IV) (sK : IV) (sA : IV) (sB : IV) (sE : IV) (oq : IV) (bS : IV) (bE : IV) (bL : IV) (rp : IV) (p1 : Int32) (hok : ok_Mo_latest p1 now) : Met l y_Mo_latest (wsY y_Mo_latest b_Mo_latest 3 (some .int)) rm_Mo_latest (CP g [.ref mo, .int p1] (wMo g mo a o now dr pa sa iS bu tq rT wT sK sA sB sE oq bS bE bL rp)) (CI0 g (wMo g mo a o now dr pa sa iS bu tq rT wT sK sA sB sE oq bS bE bL rp) (sp_Mo_latest p1 now)) 0 0 (inW (wMo g mo a o now dr pa sa iS bu tq rT wT sK sA sB sE oq bS bE bL rp)) := by
  refine Met.ofW (cc := b_Mo_latest) (maxL := 3) (ret := (some .int)) pn_Mo rfl ?_
  intro p e s m args below meth c s₁ B hml hv
  obtain ⟨rfl, C, hP, hD, hS⟩ := enter "DecadeBridgeModel" rfl B hml hv
  obtain ⟨hx, hb, hr, hml, hown, hlk, hts, hK, hZo, hZ⟩ := id C
  refine entryW (lv := [(0, .ref mo), (1, .int p1)]) rfl (Nat.le_of_ble_eq_true rfl) (fun ls hl => ?_)
  obtain ⟨z, hz⟩ : ∃ z, z = sp_Mo_latest p1 now := ⟨_, rfl⟩
  rw [← hz]
  unfold sp_Mo_latest at hz
  unfold ok_Mo_latest at hok
  refine lv_aload_n hx hb d_Mo_latest_0 rfl (lv_at hl 0 rfl) ?_
  refine gf C hP 0 0 fkMo rfl (by decide) rfl qf_Mo_7 (gMo_0 _ _) d_Mo_latest_1 ?_
  refine lv_bipush (v := 54) hx hb d_Mo_latest_4 (by decide) ?_
  refine ldL C hP 1 rfl vi_54_215 cn_54 d_Mo_latest_6 ?_
  refine lv_l2i hx hb d_Mo_latest_7 rfl ?_
  refine lv_iconst (v := 1) hx hb d_Mo_latest_8 (by decide) ?_
  refine lv_isub hx hb d_Mo_latest_9 ?_
  refine lv_topi (fun v1 ev1 => ?_)
  have hz := lett_z hz ev1
  have hok := lett_o hok ev1
  refine lv_istore_n (lv' := [(2, .int v1), (0, .ref mo), (1, .int p1)]) hx hb d_Mo_latest_10 rfl hl (by decide) rfl (fun ls hl => ?_)
  exact k_Mo_latest_11 C big v1 hok _ hz _ _ ls hP hD hS (lv_sub hl [1, 2, 0] rfl)
abbrev rm_Mo_spreadFrom : Room := { frames := 2, cells := 0, slots := 0, locals := 44 }
def HL_Mo_spreadFrom_14 (p : Program) (l : Launch) (e : Env) (s : State) (m : MethodId) (args : Array Value) (below : List Frame) (meth : Method) (c : Code) (g : GX) (mo : Nat) (a : Nat → Nat) (o : IV) (now : LV) (dr : LV) (pa : LV) (sa : LV) (iS : IV) (bu : IV) (tq : IV) (rT : IV) (wT : IV) (sK : IV) (sA : IV) (sB : IV) (sE : IV) (oq : IV) (bS : IV) (bE : IV) (bL : IV) (rp : IV) (p1 : Int32) (sp : Int64 → Int64 → Int32 → Int64) (ok : Int64 → Int64 → Int32 → Prop) : Prop := ∀ (x2p14 : Int64) (x4p14 : Int64) (x6p14 : Int32), ok x2p14 x4p14 x6p14 → ∀ z : Int64, z = sp x2p14 x4p14 x6p14 → ∀ (H : Heap) (locs : List Loc) (ls : Array Slot), va_P g.1 vwCl (wMo g mo a o now dr pa sa iS bu tq rT wT sK sA sB sE oq bS bE bL rp) H → va_D (inW (wMo g mo a o now dr pa sa iS bu tq rT wT sK sA sB sE oq bS bE bL rp)) (wMo g mo a o now dr pa sa iS bu tq rT wT sK sA sB sE oq bS bE bL rp) → va_S (inW (wMo g mo a o now dr pa sa iS bu tq rT wT sK sA sB sE oq bS bE bL rp)) s.heap H locs → lv_has ls 7 [(0, .ref mo), (1, .int p1), (2, .long x2p14), (4, .long x4p14), (6, .int x6p14)] → W p l e rm_Mo_spreadFrom s m args below meth c H locs 0 0 (MQ below (CL0 g (wMo g mo a o now dr pa sa iS bu tq rT wT sK sA sB sE oq bS bE bL rp) z) args s 0 0 (inW (wMo g mo a o now dr pa sa iS bu tq rT wT sK sA sB sE oq bS bE bL rp))) (F0 m 14 ls [])
def HL_Mo_spreadFrom_66 (p : Program) (l : Launch) (e : Env) (s : State) (m : MethodId) (args : Array Value) (below : List Frame) (meth : Method) (c : Code) (g : GX) (mo : Nat) (a : Nat → Nat) (o : IV) (now : LV) (dr : LV) (pa : LV) (sa : LV) (iS : IV) (bu : IV) (tq : IV) (rT : IV) (wT : IV) (sK : IV) (sA : IV) (sB : IV) (sE : IV) (oq : IV) (bS : IV) (bE : IV) (bL : IV) (rp : IV) (p1 : Int32) (x6p14 : Int32) (sp : Int64 → Int64 → Int64) (ok : Int64 → Int64 → Prop) : Prop := ∀ (x2p66 : Int64) (x4p66 : Int64), ok x2p66 x4p66 → ∀ z : Int64, z = sp x2p66 x4p66 → ∀ (H : Heap) (locs : List Loc) (ls : Array Slot), va_P g.1 vwCl (wMo g mo a o now dr pa sa iS bu tq rT wT sK sA sB sE oq bS bE bL rp) H → va_D (inW (wMo g mo a o now dr pa sa iS bu tq rT wT sK sA sB sE oq bS bE bL rp)) (wMo g mo a o now dr pa sa iS bu tq rT wT sK sA sB sE oq bS bE bL rp) → va_S (inW (wMo g mo a o now dr pa sa iS bu tq rT wT sK sA sB sE oq bS bE bL rp)) s.heap H locs → lv_has ls 7 [(0, .ref mo), (1, .int p1), (2, .long x2p66), (4, .long x4p66), (6, .int x6p14)] → W p l e rm_Mo_spreadFrom s m args below meth c H locs 0 0 (MQ below (CL0 g (wMo g mo a o now dr pa sa iS bu tq rT wT sK sA sB sE oq bS bE bL rp) z) args s 0 0 (inW (wMo g mo a o now dr pa sa iS bu tq rT wT sK sA sB sE oq bS bE bL rp))) (F0 m 66 ls [])
def HL_Mo_spreadFrom_72 (p : Program) (l : Launch) (e : Env) (s : State) (m : MethodId) (args : Array Value) (below : List Frame) (meth : Method) (c : Code) (g : GX) (mo : Nat) (a : Nat → Nat) (o : IV) (now : LV) (dr : LV) (pa : LV) (sa : LV) (iS : IV) (bu : IV) (tq : IV) (rT : IV) (wT : IV) (sK : IV) (sA : IV) (sB : IV) (sE : IV) (oq : IV) (bS : IV) (bE : IV) (bL : IV) (rp : IV) (x2p14 : Int64) (x4p14 : Int64) (sp : Int64) (ok : Prop) : Prop := ∀ (_ : Unit), ok → ∀ z : Int64, z = sp → ∀ (H : Heap) (locs : List Loc) (ls : Array Slot), va_P g.1 vwCl (wMo g mo a o now dr pa sa iS bu tq rT wT sK sA sB sE oq bS bE bL rp) H → va_D (inW (wMo g mo a o now dr pa sa iS bu tq rT wT sK sA sB sE oq bS bE bL rp)) (wMo g mo a o now dr pa sa iS bu tq rT wT sK sA sB sE oq bS bE bL rp) → va_S (inW (wMo g mo a o now dr pa sa iS bu tq rT wT sK sA sB sE oq bS bE bL rp)) s.heap H locs → lv_has ls 7 [(2, .long x2p14), (4, .long x4p14)] → W p l e rm_Mo_spreadFrom s m args below meth c H locs 0 0 (MQ below (CL0 g (wMo g mo a o now dr pa sa iS bu tq rT wT sK sA sB sE oq bS bE bL rp) z) args s 0 0 (inW (wMo g mo a o now dr pa sa iS bu tq rT wT sK sA sB sE oq bS bE bL rp))) (F0 m 72 ls [])
noncomputable def sp_Mo_spreadFrom_72 (x2p14 : Int64) (x4p14 : Int64)   : Int64 := x2p14 - x4p14
def ok_Mo_spreadFrom_72 (x2p14 : Int64) (x4p14 : Int64)    : Prop := True
set_option maxRecDepth 100000 in
set_option maxHeartbeats 4000000 in
theorem k_Mo_spreadFrom_72 {p : Program} {l : Launch} {e : Env} {s : State} {m : MethodId} {args : Array Value} {below : List Frame} {meth : Method} {c : Code} {g : GX} {mo : Nat} {a : Nat → Nat} {o : IV} {now : LV} {dr : LV} {pa : LV} {sa : LV} {iS : IV} {bu : IV} {tq : IV} {rT : IV} {wT : IV} {sK : IV} {sA : IV} {sB : IV} {sE : IV} {oq : IV} {bS : IV} {bE : IV} {bL : IV} {rp : IV} {x2p14 : Int64} {x4p14 : Int64}  (C : Cx p s m args meth c (inW (wMo g mo a o now dr pa sa iS bu tq rT wT sK sA sB sE oq bS bE bL rp)) g "DecadeBridgeModel" b_Mo_spreadFrom (some .long) 7)  : HL_Mo_spreadFrom_72 p l e s m args below meth c g mo a o now dr pa sa iS bu tq rT wT sK sA sB sE oq bS bE bL rp x2p14 x4p14 (sp_Mo_spreadFrom_72 x2p14 x4p14 ) (ok_Mo_spreadFrom_72 x2p14 x4p14  ) := by
  intro _ hok z hz H locs ls hP hD hS hl
  obtain ⟨hx, hb, hr, hml, hown, hlk, hts, hK, hZo, hZ⟩ := id C
  unfold sp_Mo_spreadFrom_72 at hz
  refine lv_lload_n hx hb d_Mo_spreadFrom_72 rfl (lv_at hl 0 rfl) ?_
  refine lv_lload hx hb d_Mo_spreadFrom_73 (lv_at hl 1 rfl) ?_
  refine lv_lsub hx hb d_Mo_spreadFrom_75 ?_
  exact endL0 C hz hP hS d_Mo_spreadFrom_76
noncomputable def sp_Mo_spreadFrom_66 (x6p14 : Int32) (r14 : Int64 → Int64 → Int32 → Int64) (x2p66 : Int64) (x4p66 : Int64) : Int64 := lett (x6p14 + (1 : Int32)) fun (v12 : Int32) => r14 x2p66 x4p66 v12
def ok_Mo_spreadFrom_66 (x6p14 : Int32) (r14 : Int64 → Int64 → Int32 → Int64) (q14 : Int64 → Int64 → Int32 → Prop) (x2p66 : Int64) (x4p66 : Int64) : Prop := lett (x6p14 + (1 : Int32)) fun (v12 : Int32) => q14 x2p66 x4p66 v12
set_option maxRecDepth 100000 in
set_option maxHeartbeats 4000000 in
theorem k_Mo_spreadFrom_66 {p : Program} {l : Launch} {e : Env} {s : State} {m : MethodId} {args : Array Value} {below : List Frame} {meth : Method} {c : Code} {g : GX} {mo : Nat} {a : Nat → Nat} {o : IV} {now : LV} {dr : LV} {pa : LV} {sa : LV} {iS : IV} {bu : IV} {tq : IV} {rT : IV} {wT : IV} {sK : IV} {sA : IV} {sB : IV} {sE : IV} {oq : IV} {bS : IV} {bE : IV} {bL : IV} {rp : IV} {p1 : Int32} {x6p14 : Int32} {r14 : Int64 → Int64 → Int32 → Int64} {q14 : Int64 → Int64 → Int32 → Prop} (C : Cx p s m args meth c (inW (wMo g mo a o now dr pa sa iS bu tq rT wT sK sA sB sE oq bS bE bL rp)) g "DecadeBridgeModel" b_Mo_spreadFrom (some .long) 7) (ih14 : HL_Mo_spreadFrom_14 p l e s m args below meth c g mo a o now dr pa sa iS bu tq rT wT sK sA sB sE oq bS bE bL rp p1 r14 q14) : HL_Mo_spreadFrom_66 p l e s m args below meth c g mo a o now dr pa sa iS bu tq rT wT sK sA sB sE oq bS bE bL rp p1 x6p14 (sp_Mo_spreadFrom_66 x6p14 r14) (ok_Mo_spreadFrom_66 x6p14 r14 q14) := by
  intro x2p66 x4p66 hok z hz H locs ls hP hD hS hl
  obtain ⟨hx, hb, hr, hml, hown, hlk, hts, hK, hZo, hZ⟩ := id C
  unfold sp_Mo_spreadFrom_66 at hz
  unfold ok_Mo_spreadFrom_66 at hok
  obtain ⟨v12, ev12⟩ : ∃ y : Int32, y = x6p14 + (1 : Int32) := ⟨_, rfl⟩
  have hz := lett_z hz ev12
  have hok := lett_o hok ev12
  refine lv_iinc (v := v12) (lv' := [(6, .int v12), (0, .ref mo), (1, .int p1), (2, .long x2p66), (4, .long x4p66)]) hx hb d_Mo_spreadFrom_66 hl (k := 4) rfl (by rw [ev12]; rfl) (by decide) rfl (fun ls hl => ?_)
  refine lv_goto (tgt := 14) hx hb d_Mo_spreadFrom_69 (by decide) ?_
  exact ih14 x2p66 x4p66 v12 hok _ hz _ _ ls hP hD hS (lv_sub hl [1, 2, 3, 4, 0] rfl)
noncomputable def bd_Mo_spreadFrom_14 (now : LV) (p1 : Int32) (r14 : Int64 → Int64 → Int32 → Int64) (x2p14 : Int64) (x4p14 : Int64) (x6p14 : Int32) : Int64 := if (now 54) ≤ x6p14.toInt64 then (sp_Mo_spreadFrom_72 x2p14 x4p14) else (lett (sp_Mo_isAlike p1 x6p14 now) fun (y5 : Int32) => if y5 = 0 then (sp_Mo_spreadFrom_66 x6p14 r14 x2p14 x4p14) else (lett (sp_Mo_ofResult x6p14 (7 : Int32) now) fun (y8 : Int64) => lett (if y8 < x2p14 then x2p14 else y8) fun (v9 : Int64) => lett (sp_Mo_ofResult x6p14 (7 : Int32) now) fun (y10 : Int64) => lett (if y10 < x4p14 then y10 else x4p14) fun (v11 : Int64) => sp_Mo_spreadFrom_66 x6p14 r14 v9 v11))
def okb_Mo_spreadFrom_14 (now : LV) (p1 : Int32) (r14 : Int64 → Int64 → Int32 → Int64) (q14 : Int64 → Int64 → Int32 → Prop) (x2p14 : Int64) (x4p14 : Int64) (x6p14 : Int32) : Prop := (((now 54) ≤ x6p14.toInt64 → True) ∧ (¬ ((now 54) ≤ x6p14.toInt64) → (ok_Mo_isAlike p1 x6p14 now) ∧ lett (sp_Mo_isAlike p1 x6p14 now) fun (y5 : Int32) => ((y5 = 0 → ok_Mo_spreadFrom_66 x6p14 r14 q14 x2p14 x4p14) ∧ (¬ (y5 = 0) → (ok_Mo_ofResult x6p14 (7 : Int32)) ∧ lett (sp_Mo_ofResult x6p14 (7 : Int32) now) fun (y8 : Int64) => lett (if y8 < x2p14 then x2p14 else y8) fun (v9 : Int64) => lett (sp_Mo_ofResult x6p14 (7 : Int32) now) fun (y10 : Int64) => lett (if y10 < x4p14 then y10 else x4p14) fun (v11 : Int64) => ok_Mo_spreadFrom_66 x6p14 r14 q14 v9 v11))))
noncomputable def sp_Mo_spreadFrom_14 (now : LV) (p1 : Int32)  : Nat → Int64 → Int64 → Int32 → Int64
  | 0 => fun _ _ _ => default
  | f + 1 => bd_Mo_spreadFrom_14 now p1  (sp_Mo_spreadFrom_14 now p1  f)
def ok_Mo_spreadFrom_14 (now : LV) (p1 : Int32)   : Nat → Int64 → Int64 → Int32 → Prop
  | 0 => fun _ _ _ => False
  | f + 1 => okb_Mo_spreadFrom_14 now p1  (sp_Mo_spreadFrom_14 now p1  f)  (ok_Mo_spreadFrom_14 now p1   f)
set_option maxRecDepth 100000 in
set_option maxHeartbeats 4000000 in
theorem kb_Mo_spreadFrom_14 {p : Program} {l : Launch} {e : Env} {s : State} {m : MethodId} {args : Array Value} {below : List Frame} {meth : Method} {c : Code} {g : GX} {mo : Nat} {a : Nat → Nat} {o : IV} {now : LV} {dr : LV} {pa : LV} {sa : LV} {iS : IV} {bu : IV} {tq : IV} {rT : IV} {wT : IV} {sK : IV} {sA : IV} {sB : IV} {sE : IV} {oq : IV} {bS : IV} {bE : IV} {bL : IV} {rp : IV} {p1 : Int32}  (C : Cx p s m args meth c (inW (wMo g mo a o now dr pa sa iS bu tq rT wT sK sA sB sE oq bS bE bL rp)) g "DecadeBridgeModel" b_Mo_spreadFrom (some .long) 7) {r14 : Int64 → Int64 → Int32 → Int64} {q14 : Int64 → Int64 → Int32 → Prop}  (ih14 : HL_Mo_spreadFrom_14 p l e s m args below meth c g mo a o now dr pa sa iS bu tq rT wT sK sA sB sE oq bS bE bL rp p1 r14 q14) : HL_Mo_spreadFrom_14 p l e s m args below meth c g mo a o now dr pa sa iS bu tq rT wT sK sA sB sE oq bS bE bL rp p1 (bd_Mo_spreadFrom_14 now p1  r14) (okb_Mo_spreadFrom_14 now p1  r14  q14) := by
  intro x2p14 x4p14 x6p14 hok z hz H locs ls hP hD hS hl
  obtain ⟨hx, hb, hr, hml, hown, hlk, hts, hK, hZo, hZ⟩ := id C
  unfold bd_Mo_spreadFrom_14 at hz
  unfold okb_Mo_spreadFrom_14 at hok
  refine lv_iload hx hb d_Mo_spreadFrom_14 (lv_at hl 4 rfl) ?_
  refine lv_i2l hx hb d_Mo_spreadFrom_16 rfl ?_
  refine lv_aload_n hx hb d_Mo_spreadFrom_17 rfl (lv_at hl 0 rfl) ?_
  refine gf C hP 0 0 fkMo rfl (by decide) rfl qf_Mo_7 (gMo_0 _ _) d_Mo_spreadFrom_18 ?_
  refine lv_bipush (v := 54) hx hb d_Mo_spreadFrom_21 (by decide) ?_
  refine ldL C hP 1 rfl vi_54_215 cn_54 d_Mo_spreadFrom_23 ?_
  refine lc_ge (tgt := 72) hx hb d_Mo_spreadFrom_24 d_Mo_spreadFrom_25 (by decide) (fun c3 => ?_) (fun c3 => ?_)
  · have hz := hz.trans (if_pos c3)
    exact k_Mo_spreadFrom_72 C () trivial _ hz _ _ ls hP hD hS (lv_sub hl [2, 3] rfl)
  · have hz := hz.trans (if_neg c3)
    have hok := hok.2 c3
    refine lv_aload_n hx hb d_Mo_spreadFrom_28 rfl (lv_at hl 0 rfl) ?_
    refine lv_iload_n hx hb d_Mo_spreadFrom_29 rfl (lv_at hl 1 rfl) ?_
    refine lv_iload hx hb d_Mo_spreadFrom_30 (lv_at hl 4 rfl) ?_
    have hs4 := hok.1
    have hok := hok.2
    have hB : SubW g (inW (wMo g mo a o now dr pa sa iS bu tq rT wT sK sA sB sE oq bS bE bL rp)) s (wMo g mo a o now dr pa sa iS bu tq rT wT sK sA sB sE oq bS bE bL rp) _ (List.range _) _ _ := (subF hP hD hS)
    refine goI0 hB (run_v C mf_Mo_isAlike qm_Mo_410 (c_Mo_isAlike l g mo a o now dr pa sa iS bu tq rT wT sK sA sB sE oq bS bE bL rp p1 x6p14 hs4) rfl rfl ⟨Nat.le_of_ble_eq_true rfl, Nat.le_of_ble_eq_true rfl⟩ ⟨Nat.le_of_ble_eq_true rfl, Nat.le_of_ble_eq_true rfl⟩ hB rfl rfl hl rfl rfl (Nat.le_of_ble_eq_true rfl) d_Mo_spreadFrom_32) (fun y5 ey5 H locs hP hS => ?_)
    have hz := lett_z hz ey5
    have hok := lett_o hok ey5
    refine lv_if_eq (tgt := 66) hx hb d_Mo_spreadFrom_35 (by decide) (fun c6 => ?_) (fun c6 => ?_)
    · have hz := hz.trans (if_pos c6)
      have hok := hok.1 c6
      exact k_Mo_spreadFrom_66 C ih14 x2p14 x4p14 hok _ hz _ _ ls hP hD hS hl
    · have hz := hz.trans (if_neg c6)
      have hok := hok.2 c6
      refine lv_lload_n hx hb d_Mo_spreadFrom_38 rfl (lv_at hl 2 rfl) ?_
      refine lv_aload_n hx hb d_Mo_spreadFrom_39 rfl (lv_at hl 0 rfl) ?_
      refine lv_iload hx hb d_Mo_spreadFrom_40 (lv_at hl 4 rfl) ?_
      refine lv_bipush (v := 7) hx hb d_Mo_spreadFrom_42 (by decide) ?_
      have hs7 := hok.1
      have hok := hok.2
      have hB : SubW g (inW (wMo g mo a o now dr pa sa iS bu tq rT wT sK sA sB sE oq bS bE bL rp)) s (wMo g mo a o now dr pa sa iS bu tq rT wT sK sA sB sE oq bS bE bL rp) _ (List.range _) _ _ := (subF hP hD hS)
      refine goL0 hB (run_v C mf_Mo_ofResult qm_Mo_406 (c_Mo_ofResult l g mo a o now dr pa sa iS bu tq rT wT sK sA sB sE oq bS bE bL rp x6p14 (7 : Int32) hs7) rfl rfl ⟨Nat.le_of_ble_eq_true rfl, Nat.le_of_ble_eq_true rfl⟩ ⟨Nat.le_of_ble_eq_true rfl, Nat.le_of_ble_eq_true rfl⟩ hB rfl rfl hl rfl rfl (Nat.le_of_ble_eq_true rfl) d_Mo_spreadFrom_44) (fun y8 ey8 H locs hP hS => ?_)
      have hz := lett_z hz ey8
      have hok := lett_o hok ey8
      refine va_mmax_long hx hb (hml.trans hl.1.symm) hown (hts _ qm_Mo_430) (hts _ (mf_JM_max_JJJ).2) (hts _ (mf_JM_max_JJJ).1.2.1) (hts _ (mf_JM_max_JJJ).1.1) (Nat.le_of_ble_eq_true rfl) (Nat.le_of_ble_eq_true rfl) (Nat.le_of_ble_eq_true rfl) (Nat.le_of_ble_eq_true rfl) d_Mo_spreadFrom_47 ?_
      refine lv_topl (fun v9 ev9 => ?_)
      have hz := lett_z hz ev9
      have hok := lett_o hok ev9
      refine lv_lstore_n (lv' := [(2, .long v9), (0, .ref mo), (1, .int p1), (4, .long x4p14), (6, .int x6p14)]) hx hb d_Mo_spreadFrom_50 rfl hl (by decide) rfl (fun ls hl => ?_)
      refine lv_lload hx hb d_Mo_spreadFrom_51 (lv_at hl 3 rfl) ?_
      refine lv_aload_n hx hb d_Mo_spreadFrom_53 rfl (lv_at hl 1 rfl) ?_
      refine lv_iload hx hb d_Mo_spreadFrom_54 (lv_at hl 4 rfl) ?_
      refine lv_bipush (v := 7) hx hb d_Mo_spreadFrom_56 (by decide) ?_
      have hB : SubW g (inW (wMo g mo a o now dr pa sa iS bu tq rT wT sK sA sB sE oq bS bE bL rp)) s (wMo g mo a o now dr pa sa iS bu tq rT wT sK sA sB sE oq bS bE bL rp) _ (List.range _) _ _ := (subF hP hD hS)
      refine goL0 hB (run_v C mf_Mo_ofResult qm_Mo_406 (c_Mo_ofResult l g mo a o now dr pa sa iS bu tq rT wT sK sA sB sE oq bS bE bL rp x6p14 (7 : Int32) hs7) rfl rfl ⟨Nat.le_of_ble_eq_true rfl, Nat.le_of_ble_eq_true rfl⟩ ⟨Nat.le_of_ble_eq_true rfl, Nat.le_of_ble_eq_true rfl⟩ hB rfl rfl hl rfl rfl (Nat.le_of_ble_eq_true rfl) d_Mo_spreadFrom_58) (fun y10 ey10 H locs hP hS => ?_)
      have hz := lett_z hz ey10
      have hok := lett_o hok ey10
      refine va_mmin_long hx hb (hml.trans hl.1.symm) hown (hts _ qm_Mo_185) (hts _ (mf_JM_min_JJJ).2) (hts _ (mf_JM_min_JJJ).1.2.1) (hts _ (mf_JM_min_JJJ).1.1) (Nat.le_of_ble_eq_true rfl) (Nat.le_of_ble_eq_true rfl) (Nat.le_of_ble_eq_true rfl) (Nat.le_of_ble_eq_true rfl) d_Mo_spreadFrom_61 ?_
      refine lv_topl (fun v11 ev11 => ?_)
      have hz := lett_z hz ev11
      have hok := lett_o hok ev11
      refine lv_lstore (lv' := [(4, .long v11), (2, .long v9), (0, .ref mo), (1, .int p1), (6, .int x6p14)]) hx hb d_Mo_spreadFrom_64 hl (by decide) rfl (fun ls hl => ?_)
      exact k_Mo_spreadFrom_66 C ih14 v9 v11 hok _ hz _ _ ls hP hD hS (lv_sub hl [2, 3, 1, 0, 4] rfl)
theorem k_Mo_spreadFrom_14 {p : Program} {l : Launch} {e : Env} {s : State} {m : MethodId} {args : Array Value} {below : List Frame} {meth : Method} {c : Code} {g : GX} {mo : Nat} {a : Nat → Nat} {o : IV} {now : LV} {dr : LV} {pa : LV} {sa : LV} {iS : IV} {bu : IV} {tq : IV} {rT : IV} {wT : IV} {sK : IV} {sA : IV} {sB : IV} {sE : IV} {oq : IV} {bS : IV} {bE : IV} {bL : IV} {rp : IV} {p1 : Int32}  (C : Cx p s m args meth c (inW (wMo g mo a o now dr pa sa iS bu tq rT wT sK sA sB sE oq bS bE bL rp)) g "DecadeBridgeModel" b_Mo_spreadFrom (some .long) 7) (f : Nat)  : HL_Mo_spreadFrom_14 p l e s m args below meth c g mo a o now dr pa sa iS bu tq rT wT sK sA sB sE oq bS bE bL rp p1 (sp_Mo_spreadFrom_14 now p1  f) (ok_Mo_spreadFrom_14 now p1   f) := by
  induction f with
  | zero => intro x2p14 x4p14 x6p14 hok; exact False.elim hok
  | succ f ih => exact kb_Mo_spreadFrom_14 C  ih
noncomputable def sp_Mo_spreadFrom (p1 : Int32) (now : LV) : Int64 := lett (sp_Mo_ofResult p1 (7 : Int32) now) fun (y2 : Int64) => sp_Mo_spreadFrom_14 now p1 big y2 y2 p1
def ok_Mo_spreadFrom (p1 : Int32) (now : LV) : Prop := (ok_Mo_ofResult p1 (7 : Int32)) ∧ lett (sp_Mo_ofResult p1 (7 : Int32) now) fun (y2 : Int64) => ok_Mo_spreadFrom_14 now p1 big y2 y2 p1
set_option maxRecDepth 100000 in
set_option maxHeartbeats 4000000 in
theorem c_Mo_spreadFrom (l : Launch) (g : GX) (mo : Nat) (a : Nat → Nat) (o : IV) (now : LV) (dr : LV) (pa : LV) (sa : LV) (iS : IV) (bu : IV) (tq : IV) (rT : IV) (wT : IV) (sK : IV) (sA : IV) (sB : IV) (sE : IV) (oq : IV) (bS : IV) (bE : IV) (bL : IV) (rp : IV) (p1 : Int32) (hok : ok_Mo_spreadFrom p1 now) : Met l y_Mo_spreadFrom (wsY y_Mo_spreadFrom b_Mo_spreadFrom 7 (some .long)) rm_Mo_spreadFrom (CP g [.ref mo, .int p1] (wMo g mo a o now dr pa sa iS bu tq rT wT sK sA sB sE oq bS bE bL rp)) (CL0 g (wMo g mo a o now dr pa sa iS bu tq rT wT sK sA sB sE oq bS bE bL rp) (sp_Mo_spreadFrom p1 now)) 0 0 (inW (wMo g mo a o now dr pa sa iS bu tq rT wT sK sA sB sE oq bS bE bL rp)) := by
  refine Met.ofW (cc := b_Mo_spreadFrom) (maxL := 7) (ret := (some .long)) pn_Mo rfl ?_
  intro p e s m args below meth c s₁ B hml hv
  obtain ⟨rfl, C, hP, hD, hS⟩ := enter "DecadeBridgeModel" rfl B hml hv
  obtain ⟨hx, hb, hr, hml, hown, hlk, hts, hK, hZo, hZ⟩ := id C
  refine entryW (lv := [(0, .ref mo), (1, .int p1)]) rfl (Nat.le_of_ble_eq_true rfl) (fun ls hl => ?_)
  obtain ⟨z, hz⟩ : ∃ z, z = sp_Mo_spreadFrom p1 now := ⟨_, rfl⟩
  rw [← hz]
  unfold sp_Mo_spreadFrom at hz
  unfold ok_Mo_spreadFrom at hok
  refine lv_aload_n hx hb d_Mo_spreadFrom_0 rfl (lv_at hl 0 rfl) ?_
  refine lv_iload_n hx hb d_Mo_spreadFrom_1 rfl (lv_at hl 1 rfl) ?_
  refine lv_bipush (v := 7) hx hb d_Mo_spreadFrom_2 (by decide) ?_
  have hs1 := hok.1
  have hok := hok.2
  have hB : SubW g (inW (wMo g mo a o now dr pa sa iS bu tq rT wT sK sA sB sE oq bS bE bL rp)) s (wMo g mo a o now dr pa sa iS bu tq rT wT sK sA sB sE oq bS bE bL rp) _ (List.range _) _ _ := (subF hP hD hS)
  refine goL0 hB (run_v C mf_Mo_ofResult qm_Mo_406 (c_Mo_ofResult l g mo a o now dr pa sa iS bu tq rT wT sK sA sB sE oq bS bE bL rp p1 (7 : Int32) hs1) rfl rfl ⟨Nat.le_of_ble_eq_true rfl, Nat.le_of_ble_eq_true rfl⟩ ⟨Nat.le_of_ble_eq_true rfl, Nat.le_of_ble_eq_true rfl⟩ hB rfl rfl hl rfl rfl (Nat.le_of_ble_eq_true rfl) d_Mo_spreadFrom_4) (fun y2 ey2 H locs hP hS => ?_)
  have hz := lett_z hz ey2
  have hok := lett_o hok ey2
  refine lv_lstore_n (lv' := [(2, .long y2), (0, .ref mo), (1, .int p1)]) hx hb d_Mo_spreadFrom_7 rfl hl (by decide) rfl (fun ls hl => ?_)
  refine lv_lload_n hx hb d_Mo_spreadFrom_8 rfl (lv_at hl 0 rfl) ?_
  refine lv_lstore (lv' := [(4, .long y2), (2, .long y2), (0, .ref mo), (1, .int p1)]) hx hb d_Mo_spreadFrom_9 hl (by decide) rfl (fun ls hl => ?_)
  refine lv_iload_n hx hb d_Mo_spreadFrom_11 rfl (lv_at hl 3 rfl) ?_
  refine lv_istore (lv' := [(6, .int p1), (4, .long y2), (2, .long y2), (0, .ref mo), (1, .int p1)]) hx hb d_Mo_spreadFrom_12 hl (by decide) rfl (fun ls hl => ?_)
  exact k_Mo_spreadFrom_14 C big y2 y2 p1 hok _ hz _ _ ls hP hD hS (lv_sub hl [3, 4, 2, 1, 0] rfl)
abbrev rm_Mo_bestOf : Room := { frames := 7, cells := 0, slots := 0, locals := 165 }
def HL_Mo_bestOf_20 (p : Program) (l : Launch) (e : Env) (s : State) (m : MethodId) (args : Array Value) (below : List Frame) (meth : Method) (c : Code) (g : GX) (mo : Nat) (a : Nat → Nat) (o : IV) (now : LV) (dr : LV) (pa : LV) (sa : LV) (iS : IV) (bu : IV) (tq : IV) (rT : IV) (wT : IV) (sK : IV) (sA : IV) (sB : IV) (sE : IV) (oq : IV) (bS : IV) (bE : IV) (bL : IV) (rp : IV) (p1 : Int64) (p2 : Int64) (p3 : Int64) (sp : Int32 → Int64 → Int32 → Int32) (ok : Int32 → Int64 → Int32 → Prop) : Prop := ∀ (x7p20 : Int32) (x8p20 : Int64) (x10p20 : Int32), ok x7p20 x8p20 x10p20 → ∀ z : Int32, z = sp x7p20 x8p20 x10p20 → ∀ (H : Heap) (locs : List Loc) (ls : Array Slot), va_P g.1 vwCl (wMo g mo a o now dr pa sa iS bu tq rT wT sK sA sB sE oq bS bE bL rp) H → va_D (inW (wMo g mo a o now dr pa sa iS bu tq rT wT sK sA sB sE oq bS bE bL rp)) (wMo g mo a o now dr pa sa iS bu tq rT wT sK sA sB sE oq bS bE bL rp) → va_S (inW (wMo g mo a o now dr pa sa iS bu tq rT wT sK sA sB sE oq bS bE bL rp)) s.heap H locs → lv_has ls 13 [(0, .ref mo), (1, .long p1), (3, .long p2), (5, .long p3), (7, .int x7p20), (8, .long x8p20), (10, .int x10p20)] → W p l e rm_Mo_bestOf s m args below meth c H locs 0 0 (MQ below (CI0 g (wMo g mo a o now dr pa sa iS bu tq rT wT sK sA sB sE oq bS bE bL rp) z) args s 0 0 (inW (wMo g mo a o now dr pa sa iS bu tq rT wT sK sA sB sE oq bS bE bL rp))) (F0 m 20 ls [])
def HL_Mo_bestOf_59 (p : Program) (l : Launch) (e : Env) (s : State) (m : MethodId) (args : Array Value) (below : List Frame) (meth : Method) (c : Code) (g : GX) (mo : Nat) (a : Nat → Nat) (o : IV) (now : LV) (dr : LV) (pa : LV) (sa : LV) (iS : IV) (bu : IV) (tq : IV) (rT : IV) (wT : IV) (sK : IV) (sA : IV) (sB : IV) (sE : IV) (oq : IV) (bS : IV) (bE : IV) (bL : IV) (rp : IV) (p1 : Int64) (p2 : Int64) (p3 : Int64) (x8p20 : Int64) (x10p20 : Int32) (y9 : Int64) (sp : Int32 → Int32) (ok : Int32 → Prop) : Prop := ∀ (t0p59 : Int32), ok t0p59 → ∀ z : Int32, z = sp t0p59 → ∀ (H : Heap) (locs : List Loc) (ls : Array Slot), va_P g.1 vwCl (wMo g mo a o now dr pa sa iS bu tq rT wT sK sA sB sE oq bS bE bL rp) H → va_D (inW (wMo g mo a o now dr pa sa iS bu tq rT wT sK sA sB sE oq bS bE bL rp)) (wMo g mo a o now dr pa sa iS bu tq rT wT sK sA sB sE oq bS bE bL rp) → va_S (inW (wMo g mo a o now dr pa sa iS bu tq rT wT sK sA sB sE oq bS bE bL rp)) s.heap H locs → lv_has ls 13 [(0, .ref mo), (1, .long p1), (3, .long p2), (5, .long p3), (8, .long x8p20), (10, .int x10p20), (11, .long y9)] → W p l e rm_Mo_bestOf s m args below meth c H locs 0 0 (MQ below (CI0 g (wMo g mo a o now dr pa sa iS bu tq rT wT sK sA sB sE oq bS bE bL rp) z) args s 0 0 (inW (wMo g mo a o now dr pa sa iS bu tq rT wT sK sA sB sE oq bS bE bL rp))) (F0 m 59 ls [.int t0p59])
noncomputable def sp_Mo_bestOf_59 (y9 : Int64) (x8p20 : Int64) (x10p20 : Int32) (r20 : Int32 → Int64 → Int32 → Int32) (t0p59 : Int32) : Int32 := lett (if y9 < x8p20 then y9 else x8p20) fun (v11 : Int64) => lett (x10p20 + (1 : Int32)) fun (v12 : Int32) => r20 t0p59 v11 v12
def ok_Mo_bestOf_59 (y9 : Int64) (x8p20 : Int64) (x10p20 : Int32) (r20 : Int32 → Int64 → Int32 → Int32) (q20 : Int32 → Int64 → Int32 → Prop) (t0p59 : Int32) : Prop := lett (if y9 < x8p20 then y9 else x8p20) fun (v11 : Int64) => lett (x10p20 + (1 : Int32)) fun (v12 : Int32) => q20 t0p59 v11 v12
set_option maxRecDepth 100000 in
set_option maxHeartbeats 4000000 in
theorem k_Mo_bestOf_59 {p : Program} {l : Launch} {e : Env} {s : State} {m : MethodId} {args : Array Value} {below : List Frame} {meth : Method} {c : Code} {g : GX} {mo : Nat} {a : Nat → Nat} {o : IV} {now : LV} {dr : LV} {pa : LV} {sa : LV} {iS : IV} {bu : IV} {tq : IV} {rT : IV} {wT : IV} {sK : IV} {sA : IV} {sB : IV} {sE : IV} {oq : IV} {bS : IV} {bE : IV} {bL : IV} {rp : IV} {p1 : Int64} {p2 : Int64} {p3 : Int64} {x8p20 : Int64} {x10p20 : Int32} {y9 : Int64} {r20 : Int32 → Int64 → Int32 → Int32} {q20 : Int32 → Int64 → Int32 → Prop} (C : Cx p s m args meth c (inW (wMo g mo a o now dr pa sa iS bu tq rT wT sK sA sB sE oq bS bE bL rp)) g "DecadeBridgeModel" b_Mo_bestOf (some .int) 13) (ih20 : HL_Mo_bestOf_20 p l e s m args below meth c g mo a o now dr pa sa iS bu tq rT wT sK sA sB sE oq bS bE bL rp p1 p2 p3 r20 q20) : HL_Mo_bestOf_59 p l e s m args below meth c g mo a o now dr pa sa iS bu tq rT wT sK sA sB sE oq bS bE bL rp p1 p2 p3 x8p20 x10p20 y9 (sp_Mo_bestOf_59 y9 x8p20 x10p20 r20) (ok_Mo_bestOf_59 y9 x8p20 x10p20 r20 q20) := by
  intro t0p59 hok z hz H locs ls hP hD hS hl
  obtain ⟨hx, hb, hr, hml, hown, hlk, hts, hK, hZo, hZ⟩ := id C
  unfold sp_Mo_bestOf_59 at hz
  unfold ok_Mo_bestOf_59 at hok
  refine lv_istore (lv' := [(7, .int t0p59), (0, .ref mo), (1, .long p1), (3, .long p2), (5, .long p3), (8, .long x8p20), (10, .int x10p20), (11, .long y9)]) hx hb d_Mo_bestOf_59 hl (by decide) rfl (fun ls hl => ?_)
  refine lv_lload hx hb d_Mo_bestOf_61 (lv_at hl 5 rfl) ?_
  refine lv_lload hx hb d_Mo_bestOf_63 (lv_at hl 7 rfl) ?_
  refine va_mmin_long hx hb (hml.trans hl.1.symm) hown (hts _ qm_Mo_185) (hts _ (mf_JM_min_JJJ).2) (hts _ (mf_JM_min_JJJ).1.2.1) (hts _ (mf_JM_min_JJJ).1.1) (Nat.le_of_ble_eq_true rfl) (Nat.le_of_ble_eq_true rfl) (Nat.le_of_ble_eq_true rfl) (Nat.le_of_ble_eq_true rfl) d_Mo_bestOf_65 ?_
  refine lv_topl (fun v11 ev11 => ?_)
  have hz := lett_z hz ev11
  have hok := lett_o hok ev11
  refine lv_lstore (lv' := [(8, .long v11), (7, .int t0p59), (0, .ref mo), (1, .long p1), (3, .long p2), (5, .long p3), (10, .int x10p20), (11, .long y9)]) hx hb d_Mo_bestOf_68 hl (by decide) rfl (fun ls hl => ?_)
  obtain ⟨v12, ev12⟩ : ∃ y : Int32, y = x10p20 + (1 : Int32) := ⟨_, rfl⟩
  have hz := lett_z hz ev12
  have hok := lett_o hok ev12
  refine lv_iinc (v := v12) (lv' := [(10, .int v12), (8, .long v11), (7, .int t0p59), (0, .ref mo), (1, .long p1), (3, .long p2), (5, .long p3), (11, .long y9)]) hx hb d_Mo_bestOf_70 hl (k := 6) rfl (by rw [ev12]; rfl) (by decide) rfl (fun ls hl => ?_)
  refine lv_goto (tgt := 20) hx hb d_Mo_bestOf_73 (by decide) ?_
  exact ih20 t0p59 v11 v12 hok _ hz _ _ ls hP hD hS (lv_sub hl [3, 4, 5, 6, 2, 1, 0] rfl)
noncomputable def bd_Mo_bestOf_20 (now : LV) (p1 : Int64) (p2 : Int64) (p3 : Int64) (r20 : Int32 → Int64 → Int32 → Int32) (x7p20 : Int32) (x8p20 : Int64) (x10p20 : Int32) : Int32 := lett (sp_Mo_settings now) fun (y5 : Int32) => if y5 ≤ x10p20 then (x7p20) else (lett (sp_Mo_plainDeflection x10p20 p1 p2 p3 now) fun (y8 : Int64) => lett (sp_Mo_amount y8) fun (y9 : Int64) => if x8p20 ≤ y9 then (sp_Mo_bestOf_59 y9 x8p20 x10p20 r20 x7p20) else (sp_Mo_bestOf_59 y9 x8p20 x10p20 r20 x10p20))
def okb_Mo_bestOf_20 (now : LV) (p1 : Int64) (p2 : Int64) (p3 : Int64) (r20 : Int32 → Int64 → Int32 → Int32) (q20 : Int32 → Int64 → Int32 → Prop) (x7p20 : Int32) (x8p20 : Int64) (x10p20 : Int32) : Prop := (ok_Mo_settings now) ∧ lett (sp_Mo_settings now) fun (y5 : Int32) => ((y5 ≤ x10p20 → True) ∧ (¬ (y5 ≤ x10p20) → (ok_Mo_plainDeflection x10p20 p1 p2 p3 now) ∧ lett (sp_Mo_plainDeflection x10p20 p1 p2 p3 now) fun (y8 : Int64) => lett (sp_Mo_amount y8) fun (y9 : Int64) => ((x8p20 ≤ y9 → ok_Mo_bestOf_59 y9 x8p20 x10p20 r20 q20 x7p20) ∧ (¬ (x8p20 ≤ y9) → ok_Mo_bestOf_59 y9 x8p20 x10p20 r20 q20 x10p20))))
noncomputable def sp_Mo_bestOf_20 (now : LV) (p1 : Int64) (p2 : Int64) (p3 : Int64)  : Nat → Int32 → Int64 → Int32 → Int32
  | 0 => fun _ _ _ => default
  | f + 1 => bd_Mo_bestOf_20 now p1 p2 p3  (sp_Mo_bestOf_20 now p1 p2 p3  f)
def ok_Mo_bestOf_20 (now : LV) (p1 : Int64) (p2 : Int64) (p3 : Int64)   : Nat → Int32 → Int64 → Int32 → Prop
  | 0 => fun _ _ _ => False
  | f + 1 => okb_Mo_bestOf_20 now p1 p2 p3  (sp_Mo_bestOf_20 now p1 p2 p3  f)  (ok_Mo_bestOf_20 now p1 p2 p3   f)
set_option maxRecDepth 100000 in
set_option maxHeartbeats 4000000 in
theorem kb_Mo_bestOf_20 {p : Program} {l : Launch} {e : Env} {s : State} {m : MethodId} {args : Array Value} {below : List Frame} {meth : Method} {c : Code} {g : GX} {mo : Nat} {a : Nat → Nat} {o : IV} {now : LV} {dr : LV} {pa : LV} {sa : LV} {iS : IV} {bu : IV} {tq : IV} {rT : IV} {wT : IV} {sK : IV} {sA : IV} {sB : IV} {sE : IV} {oq : IV} {bS : IV} {bE : IV} {bL : IV} {rp : IV} {p1 : Int64} {p2 : Int64} {p3 : Int64}  (C : Cx p s m args meth c (inW (wMo g mo a o now dr pa sa iS bu tq rT wT sK sA sB sE oq bS bE bL rp)) g "DecadeBridgeModel" b_Mo_bestOf (some .int) 13) {r20 : Int32 → Int64 → Int32 → Int32} {q20 : Int32 → Int64 → Int32 → Prop}  (ih20 : HL_Mo_bestOf_20 p l e s m args below meth c g mo a o now dr pa sa iS bu tq rT wT sK sA sB sE oq bS bE bL rp p1 p2 p3 r20 q20) : HL_Mo_bestOf_20 p l e s m args below meth c g mo a o now dr pa sa iS bu tq rT wT sK sA sB sE oq bS bE bL rp p1 p2 p3 (bd_Mo_bestOf_20 now p1 p2 p3  r20) (okb_Mo_bestOf_20 now p1 p2 p3  r20  q20) := by
  intro x7p20 x8p20 x10p20 hok z hz H locs ls hP hD hS hl
  obtain ⟨hx, hb, hr, hml, hown, hlk, hts, hK, hZo, hZ⟩ := id C
  unfold bd_Mo_bestOf_20 at hz
  unfold okb_Mo_bestOf_20 at hok
  refine lv_iload hx hb d_Mo_bestOf_20 (lv_at hl 6 rfl) ?_
  refine lv_aload_n hx hb d_Mo_bestOf_22 rfl (lv_at hl 0 rfl) ?_
  have hs4 := hok.1
  have hok := hok.2
  have hB : SubW g (inW (wMo g mo a o now dr pa sa iS bu tq rT wT sK sA sB sE oq bS bE bL rp)) s (wMo g mo a o now dr pa sa iS bu tq rT wT sK sA sB sE oq bS bE bL rp) _ (List.range _) _ _ := (subF hP hD hS)
  refine goI0 hB (run_v C mf_Mo_settings qm_Mo_256 (c_Mo_settings l g mo a o now dr pa sa iS bu tq rT wT sK sA sB sE oq bS bE bL rp hs4) rfl rfl ⟨Nat.le_of_ble_eq_true rfl, Nat.le_of_ble_eq_true rfl⟩ ⟨Nat.le_of_ble_eq_true rfl, Nat.le_of_ble_eq_true rfl⟩ hB rfl rfl hl rfl rfl (Nat.le_of_ble_eq_true rfl) d_Mo_bestOf_23) (fun y5 ey5 H locs hP hS => ?_)
  have hz := lett_z hz ey5
  have hok := lett_o hok ey5
  refine lv_icmp_ge (tgt := 76) hx hb d_Mo_bestOf_26 (by decide) (fun c6 => ?_) (fun c6 => ?_)
  · have hz := hz.trans (if_pos c6)
    refine lv_iload hx hb d_Mo_bestOf_76 (lv_at hl 4 rfl) ?_
    exact endI0 C hz hP hS d_Mo_bestOf_78
  · have hz := hz.trans (if_neg c6)
    have hok := hok.2 c6
    refine lv_aload_n hx hb d_Mo_bestOf_29 rfl (lv_at hl 0 rfl) ?_
    refine lv_iload hx hb d_Mo_bestOf_30 (lv_at hl 6 rfl) ?_
    refine lv_lload_n hx hb d_Mo_bestOf_32 rfl (lv_at hl 1 rfl) ?_
    refine lv_lload_n hx hb d_Mo_bestOf_33 rfl (lv_at hl 2 rfl) ?_
    refine lv_lload hx hb d_Mo_bestOf_34 (lv_at hl 3 rfl) ?_
    have hs7 := hok.1
    have hok := hok.2
    have hB : SubW g (inW (wMo g mo a o now dr pa sa iS bu tq rT wT sK sA sB sE oq bS bE bL rp)) s (wMo g mo a o now dr pa sa iS bu tq rT wT sK sA sB sE oq bS bE bL rp) _ (List.range _) _ _ := (subF hP hD hS)
    refine goL0 hB (run_v C mf_Mo_plainDeflection qm_Mo_172 (c_Mo_plainDeflection l g mo a o now dr pa sa iS bu tq rT wT sK sA sB sE oq bS bE bL rp x10p20 p1 p2 p3 hs7) rfl rfl ⟨Nat.le_of_ble_eq_true rfl, Nat.le_of_ble_eq_true rfl⟩ ⟨Nat.le_of_ble_eq_true rfl, Nat.le_of_ble_eq_true rfl⟩ hB rfl rfl hl rfl rfl (Nat.le_of_ble_eq_true rfl) d_Mo_bestOf_36) (fun y8 ey8 H locs hP hS => ?_)
    have hz := lett_z hz ey8
    have hok := lett_o hok ey8
    have hB : SubW g (inW (wMo g mo a o now dr pa sa iS bu tq rT wT sK sA sB sE oq bS bE bL rp)) s (wMo g mo a o now dr pa sa iS bu tq rT wT sK sA sB sE oq bS bE bL rp) _ (List.range _) _ _ := (subF hP hD hS)
    refine goL0 hB (run_s C mf_Mo_amount qm_Mo_217 (c_Mo_amount l g mo a o now dr pa sa iS bu tq rT wT sK sA sB sE oq bS bE bL rp y8) rfl rfl ⟨Nat.le_of_ble_eq_true rfl, Nat.le_of_ble_eq_true rfl⟩ ⟨Nat.le_of_ble_eq_true rfl, Nat.le_of_ble_eq_true rfl⟩ hB hl rfl rfl (Nat.le_of_ble_eq_true rfl) d_Mo_bestOf_39) (fun y9 ey9 H locs hP hS => ?_)
    have hz := lett_z hz ey9
    have hok := lett_o hok ey9
    refine lv_lstore (lv' := [(11, .long y9), (0, .ref mo), (1, .long p1), (3, .long p2), (5, .long p3), (7, .int x7p20), (8, .long x8p20), (10, .int x10p20)]) hx hb d_Mo_bestOf_42 hl (by decide) rfl (fun ls hl => ?_)
    refine lv_lload hx hb d_Mo_bestOf_44 (lv_at hl 0 rfl) ?_
    refine lv_lload hx hb d_Mo_bestOf_46 (lv_at hl 6 rfl) ?_
    refine lc_ge (tgt := 57) hx hb d_Mo_bestOf_48 d_Mo_bestOf_49 (by decide) (fun c10 => ?_) (fun c10 => ?_)
    · have hz := hz.trans (if_pos c10)
      have hok := hok.1 c10
      refine lv_iload hx hb d_Mo_bestOf_57 (lv_at hl 5 rfl) ?_
      exact k_Mo_bestOf_59 C ih20 x7p20 hok _ hz _ _ ls hP hD hS (lv_sub hl [1, 2, 3, 4, 6, 7, 0] rfl)
    · have hz := hz.trans (if_neg c10)
      have hok := hok.2 c10
      refine lv_iload hx hb d_Mo_bestOf_52 (lv_at hl 7 rfl) ?_
      refine lv_goto (tgt := 59) hx hb d_Mo_bestOf_54 (by decide) ?_
      exact k_Mo_bestOf_59 C ih20 x10p20 hok _ hz _ _ ls hP hD hS (lv_sub hl [1, 2, 3, 4, 6, 7, 0] rfl)
theorem k_Mo_bestOf_20 {p : Program} {l : Launch} {e : Env} {s : State} {m : MethodId} {args : Array Value} {below : List Frame} {meth : Method} {c : Code} {g : GX} {mo : Nat} {a : Nat → Nat} {o : IV} {now : LV} {dr : LV} {pa : LV} {sa : LV} {iS : IV} {bu : IV} {tq : IV} {rT : IV} {wT : IV} {sK : IV} {sA : IV} {sB : IV} {sE : IV} {oq : IV} {bS : IV} {bE : IV} {bL : IV} {rp : IV} {p1 : Int64} {p2 : Int64} {p3 : Int64}  (C : Cx p s m args meth c (inW (wMo g mo a o now dr pa sa iS bu tq rT wT sK sA sB sE oq bS bE bL rp)) g "DecadeBridgeModel" b_Mo_bestOf (some .int) 13) (f : Nat)  : HL_Mo_bestOf_20 p l e s m args below meth c g mo a o now dr pa sa iS bu tq rT wT sK sA sB sE oq bS bE bL rp p1 p2 p3 (sp_Mo_bestOf_20 now p1 p2 p3  f) (ok_Mo_bestOf_20 now p1 p2 p3   f) := by
  induction f with
  | zero => intro x7p20 x8p20 x10p20 hok; exact False.elim hok
  | succ f ih => exact kb_Mo_bestOf_20 C  ih
noncomputable def sp_Mo_bestOf (p1 : Int64) (p2 : Int64) (p3 : Int64) (now : LV) : Int32 := lett (sp_Mo_plainDeflection (0 : Int32) p1 p2 p3 now) fun (y2 : Int64) => lett (sp_Mo_amount y2) fun (y3 : Int64) => sp_Mo_bestOf_20 now p1 p2 p3 big (0 : Int32) y3 (1 : Int32)
def ok_Mo_bestOf (p1 : Int64) (p2 : Int64) (p3 : Int64) (now : LV) : Prop := (ok_Mo_plainDeflection (0 : Int32) p1 p2 p3 now) ∧ lett (sp_Mo_plainDeflection (0 : Int32) p1 p2 p3 now) fun (y2 : Int64) => lett (sp_Mo_amount y2) fun (y3 : Int64) => ok_Mo_bestOf_20 now p1 p2 p3 big (0 : Int32) y3 (1 : Int32)
set_option maxRecDepth 100000 in
set_option maxHeartbeats 4000000 in
theorem c_Mo_bestOf (l : Launch) (g : GX) (mo : Nat) (a : Nat → Nat) (o : IV) (now : LV) (dr : LV) (pa : LV) (sa : LV) (iS : IV) (bu : IV) (tq : IV) (rT : IV) (wT : IV) (sK : IV) (sA : IV) (sB : IV) (sE : IV) (oq : IV) (bS : IV) (bE : IV) (bL : IV) (rp : IV) (p1 : Int64) (p2 : Int64) (p3 : Int64) (hok : ok_Mo_bestOf p1 p2 p3 now) : Met l y_Mo_bestOf (wsY y_Mo_bestOf b_Mo_bestOf 13 (some .int)) rm_Mo_bestOf (CP g [.ref mo, .long p1, .long p2, .long p3] (wMo g mo a o now dr pa sa iS bu tq rT wT sK sA sB sE oq bS bE bL rp)) (CI0 g (wMo g mo a o now dr pa sa iS bu tq rT wT sK sA sB sE oq bS bE bL rp) (sp_Mo_bestOf p1 p2 p3 now)) 0 0 (inW (wMo g mo a o now dr pa sa iS bu tq rT wT sK sA sB sE oq bS bE bL rp)) := by
  refine Met.ofW (cc := b_Mo_bestOf) (maxL := 13) (ret := (some .int)) pn_Mo rfl ?_
  intro p e s m args below meth c s₁ B hml hv
  obtain ⟨rfl, C, hP, hD, hS⟩ := enter "DecadeBridgeModel" rfl B hml hv
  obtain ⟨hx, hb, hr, hml, hown, hlk, hts, hK, hZo, hZ⟩ := id C
  refine entryW (lv := [(0, .ref mo), (1, .long p1), (3, .long p2), (5, .long p3)]) rfl (Nat.le_of_ble_eq_true rfl) (fun ls hl => ?_)
  obtain ⟨z, hz⟩ : ∃ z, z = sp_Mo_bestOf p1 p2 p3 now := ⟨_, rfl⟩
  rw [← hz]
  unfold sp_Mo_bestOf at hz
  unfold ok_Mo_bestOf at hok
  refine lv_iconst (v := 0) hx hb d_Mo_bestOf_0 (by decide) ?_
  refine lv_istore (lv' := [(7, .int (0 : Int32)), (0, .ref mo), (1, .long p1), (3, .long p2), (5, .long p3)]) hx hb d_Mo_bestOf_1 hl (by decide) rfl (fun ls hl => ?_)
  refine lv_aload_n hx hb d_Mo_bestOf_3 rfl (lv_at hl 1 rfl) ?_
  refine lv_iconst (v := 0) hx hb d_Mo_bestOf_4 (by decide) ?_
  refine lv_lload_n hx hb d_Mo_bestOf_5 rfl (lv_at hl 2 rfl) ?_
  refine lv_lload_n hx hb d_Mo_bestOf_6 rfl (lv_at hl 3 rfl) ?_
  refine lv_lload hx hb d_Mo_bestOf_7 (lv_at hl 4 rfl) ?_
  have hs1 := hok.1
  have hok := hok.2
  have hB : SubW g (inW (wMo g mo a o now dr pa sa iS bu tq rT wT sK sA sB sE oq bS bE bL rp)) s (wMo g mo a o now dr pa sa iS bu tq rT wT sK sA sB sE oq bS bE bL rp) _ (List.range _) _ _ := (subF hP hD hS)
  refine goL0 hB (run_v C mf_Mo_plainDeflection qm_Mo_172 (c_Mo_plainDeflection l g mo a o now dr pa sa iS bu tq rT wT sK sA sB sE oq bS bE bL rp (0 : Int32) p1 p2 p3 hs1) rfl rfl ⟨Nat.le_of_ble_eq_true rfl, Nat.le_of_ble_eq_true rfl⟩ ⟨Nat.le_of_ble_eq_true rfl, Nat.le_of_ble_eq_true rfl⟩ hB rfl rfl hl rfl rfl (Nat.le_of_ble_eq_true rfl) d_Mo_bestOf_9) (fun y2 ey2 H locs hP hS => ?_)
  have hz := lett_z hz ey2
  have hok := lett_o hok ey2
  have hB : SubW g (inW (wMo g mo a o now dr pa sa iS bu tq rT wT sK sA sB sE oq bS bE bL rp)) s (wMo g mo a o now dr pa sa iS bu tq rT wT sK sA sB sE oq bS bE bL rp) _ (List.range _) _ _ := (subF hP hD hS)
  refine goL0 hB (run_s C mf_Mo_amount qm_Mo_217 (c_Mo_amount l g mo a o now dr pa sa iS bu tq rT wT sK sA sB sE oq bS bE bL rp y2) rfl rfl ⟨Nat.le_of_ble_eq_true rfl, Nat.le_of_ble_eq_true rfl⟩ ⟨Nat.le_of_ble_eq_true rfl, Nat.le_of_ble_eq_true rfl⟩ hB hl rfl rfl (Nat.le_of_ble_eq_true rfl) d_Mo_bestOf_12) (fun y3 ey3 H locs hP hS => ?_)
  have hz := lett_z hz ey3
  have hok := lett_o hok ey3
  refine lv_lstore (lv' := [(8, .long y3), (7, .int (0 : Int32)), (0, .ref mo), (1, .long p1), (3, .long p2), (5, .long p3)]) hx hb d_Mo_bestOf_15 hl (by decide) rfl (fun ls hl => ?_)
  refine lv_iconst (v := 1) hx hb d_Mo_bestOf_17 (by decide) ?_
  refine lv_istore (lv' := [(10, .int (1 : Int32)), (8, .long y3), (7, .int (0 : Int32)), (0, .ref mo), (1, .long p1), (3, .long p2), (5, .long p3)]) hx hb d_Mo_bestOf_18 hl (by decide) rfl (fun ls hl => ?_)
  exact k_Mo_bestOf_20 C big (0 : Int32) y3 (1 : Int32) hok _ hz _ _ ls hP hD hS (lv_sub hl [3, 4, 5, 6, 2, 1, 0] rfl)
abbrev rm_Mo_best : Room := { frames := 8, cells := 0, slots := 0, locals := 197 }
noncomputable def sp_Mo_best (o : IV) (now : LV) : Int32 × IV := lett (upd o 6 (0 : Int32)) fun (o_1 : IV) => lett (sp_Mo_bestOf (now 29) (now 30) (now 32) now) fun (y3 : Int32) => (y3, o_1)
def ok_Mo_best (o : IV) (now : LV) : Prop := lett (upd o 6 (0 : Int32)) fun (o_1 : IV) => (ok_Mo_bestOf (now 29) (now 30) (now 32) now) ∧ True
set_option maxRecDepth 100000 in
set_option maxHeartbeats 4000000 in
theorem c_Mo_best (l : Launch) (g : GX) (mo : Nat) (a : Nat → Nat) (o : IV) (now : LV) (dr : LV) (pa : LV) (sa : LV) (iS : IV) (bu : IV) (tq : IV) (rT : IV) (wT : IV) (sK : IV) (sA : IV) (sB : IV) (sE : IV) (oq : IV) (bS : IV) (bE : IV) (bL : IV) (rp : IV)  (hok : ok_Mo_best o now) : Met l y_Mo_best (wsY y_Mo_best b_Mo_best 1 (some .int)) rm_Mo_best (CP g [.ref mo] (wMo g mo a o now dr pa sa iS bu tq rT wT sK sA sB sE oq bS bE bL rp)) (CI g (wMo g mo a o now dr pa sa iS bu tq rT wT sK sA sB sE oq bS bE bL rp) (fun u : IV => wMo g mo a u now dr pa sa iS bu tq rT wT sK sA sB sE oq bS bE bL rp) (sp_Mo_best o now)) 0 0 (inW (wMo g mo a o now dr pa sa iS bu tq rT wT sK sA sB sE oq bS bE bL rp)) := by
  refine Met.ofW (cc := b_Mo_best) (maxL := 1) (ret := (some .int)) pn_Mo rfl ?_
  intro p e s m args below meth c s₁ B hml hv
  obtain ⟨rfl, C, hP, hD, hS⟩ := enter "DecadeBridgeModel" rfl B hml hv
  obtain ⟨hx, hb, hr, hml, hown, hlk, hts, hK, hZo, hZ⟩ := id C
  refine entryW (lv := [(0, .ref mo)]) rfl (Nat.le_of_ble_eq_true rfl) (fun ls hl => ?_)
  obtain ⟨z, hz⟩ : ∃ z, z = sp_Mo_best o now := ⟨_, rfl⟩
  rw [← hz]
  unfold sp_Mo_best at hz
  unfold ok_Mo_best at hok
  refine lv_aload_n hx hb d_Mo_best_0 rfl (lv_at hl 0 rfl) ?_
  refine lv_iconst (v := 0) hx hb d_Mo_best_1 (by decide) ?_
  refine pfI C hP hD hS 0 6 fkMo rfl (by decide) rfl qf_Mo_107 rfl rfl rfl (Nat.le_of_ble_eq_true rfl) (ff := fun o => fMo a o) (sMo_6 _ _ _) d_Mo_best_2 (fun o_1 eo_1 H locs hP hD hS => ?_)
  have hP : va_P g.1 vwCl (wMo g mo a o_1 now dr pa sa iS bu tq rT wT sK sA sB sE oq bS bE bL rp) H := hP
  have hD : va_D (inW (wMo g mo a o now dr pa sa iS bu tq rT wT sK sA sB sE oq bS bE bL rp)) (wMo g mo a o_1 now dr pa sa iS bu tq rT wT sK sA sB sE oq bS bE bL rp) := hD
  have hz := lett_z hz eo_1
  have hok := lett_o hok eo_1
  refine lv_aload_n hx hb d_Mo_best_5 rfl (lv_at hl 0 rfl) ?_
  refine lv_aload_n hx hb d_Mo_best_6 rfl (lv_at hl 0 rfl) ?_
  refine gf C hP 0 0 fkMo rfl (by decide) rfl qf_Mo_7 (gMo_0 _ _) d_Mo_best_7 ?_
  refine lv_bipush (v := 29) hx hb d_Mo_best_10 (by decide) ?_
  refine ldL C hP 1 rfl vi_29_215 cn_29 d_Mo_best_12 ?_
  refine lv_aload_n hx hb d_Mo_best_13 rfl (lv_at hl 0 rfl) ?_
  refine gf C hP 0 0 fkMo rfl (by decide) rfl qf_Mo_7 (gMo_0 _ _) d_Mo_best_14 ?_
  refine lv_bipush (v := 30) hx hb d_Mo_best_17 (by decide) ?_
  refine ldL C hP 1 rfl vi_30_215 cn_30 d_Mo_best_19 ?_
  refine lv_aload_n hx hb d_Mo_best_20 rfl (lv_at hl 0 rfl) ?_
  refine gf C hP 0 0 fkMo rfl (by decide) rfl qf_Mo_7 (gMo_0 _ _) d_Mo_best_21 ?_
  refine lv_bipush (v := 32) hx hb d_Mo_best_24 (by decide) ?_
  refine ldL C hP 1 rfl vi_32_215 cn_32 d_Mo_best_26 ?_
  have hs2 := hok.1
  have hok := hok.2
  have hB : SubW g (inW (wMo g mo a o now dr pa sa iS bu tq rT wT sK sA sB sE oq bS bE bL rp)) s (wMo g mo a o_1 now dr pa sa iS bu tq rT wT sK sA sB sE oq bS bE bL rp) _ (List.range _) _ _ := (subF hP hD hS)
  refine goI0 hB (run_v C mf_Mo_bestOf qm_Mo_458 (c_Mo_bestOf l g mo a o_1 now dr pa sa iS bu tq rT wT sK sA sB sE oq bS bE bL rp (now 29) (now 30) (now 32) hs2) rfl rfl ⟨Nat.le_of_ble_eq_true rfl, Nat.le_of_ble_eq_true rfl⟩ ⟨Nat.le_of_ble_eq_true rfl, Nat.le_of_ble_eq_true rfl⟩ hB rfl rfl hl rfl rfl (Nat.le_of_ble_eq_true rfl) d_Mo_best_27) (fun y3 ey3 H locs hP hS => ?_)
  have hz := lett_z hz ey3
  exact endI1 C hz hP hS d_Mo_best_30
abbrev rm_Mo_idealNow : Room := { frames := 8, cells := 0, slots := 0, locals := 186 }
def HL_Mo_idealNow_4 (p : Program) (l : Launch) (e : Env) (s : State) (m : MethodId) (args : Array Value) (below : List Frame) (meth : Method) (c : Code) (g : GX) (mo : Nat) (a : Nat → Nat) (o : IV) (now : LV) (dr : LV) (pa : LV) (sa : LV) (iS : IV) (bu : IV) (tq : IV) (rT : IV) (wT : IV) (sK : IV) (sA : IV) (sB : IV) (sE : IV) (oq : IV) (bS : IV) (bE : IV) (bL : IV) (rp : IV) (sp : Int32 → Int32 → Int32) (ok : Int32 → Int32 → Prop) : Prop := ∀ (x1p4 : Int32) (x2p4 : Int32), ok x1p4 x2p4 → ∀ z : Int32, z = sp x1p4 x2p4 → ∀ (H : Heap) (locs : List Loc) (ls : Array Slot), va_P g.1 vwCl (wMo g mo a o now dr pa sa iS bu tq rT wT sK sA sB sE oq bS bE bL rp) H → va_D (inW (wMo g mo a o now dr pa sa iS bu tq rT wT sK sA sB sE oq bS bE bL rp)) (wMo g mo a o now dr pa sa iS bu tq rT wT sK sA sB sE oq bS bE bL rp) → va_S (inW (wMo g mo a o now dr pa sa iS bu tq rT wT sK sA sB sE oq bS bE bL rp)) s.heap H locs → lv_has ls 8 [(0, .ref mo), (1, .int x1p4), (2, .int x2p4)] → W p l e rm_Mo_idealNow s m args below meth c H locs 0 0 (MQ below (CI0 g (wMo g mo a o now dr pa sa iS bu tq rT wT sK sA sB sE oq bS bE bL rp) z) args s 0 0 (inW (wMo g mo a o now dr pa sa iS bu tq rT wT sK sA sB sE oq bS bE bL rp))) (F0 m 4 ls [])
def HL_Mo_idealNow_31 (p : Program) (l : Launch) (e : Env) (s : State) (m : MethodId) (args : Array Value) (below : List Frame) (meth : Method) (c : Code) (g : GX) (mo : Nat) (a : Nat → Nat) (o : IV) (now : LV) (dr : LV) (pa : LV) (sa : LV) (iS : IV) (bu : IV) (tq : IV) (rT : IV) (wT : IV) (sK : IV) (sA : IV) (sB : IV) (sE : IV) (oq : IV) (bS : IV) (bE : IV) (bL : IV) (rp : IV) (x2p4 : Int32) (y5 : Int64) (sp : Int32 → Int32 → Int32 → Int32) (ok : Int32 → Int32 → Int32 → Prop) : Prop := ∀ (x1p31 : Int32) (x4p31 : Int32) (x5p31 : Int32), ok x1p31 x4p31 x5p31 → ∀ z : Int32, z = sp x1p31 x4p31 x5p31 → ∀ (H : Heap) (locs : List Loc) (ls : Array Slot), va_P g.1 vwCl (wMo g mo a o now dr pa sa iS bu tq rT wT sK sA sB sE oq bS bE bL rp) H → va_D (inW (wMo g mo a o now dr pa sa iS bu tq rT wT sK sA sB sE oq bS bE bL rp)) (wMo g mo a o now dr pa sa iS bu tq rT wT sK sA sB sE oq bS bE bL rp) → va_S (inW (wMo g mo a o now dr pa sa iS bu tq rT wT sK sA sB sE oq bS bE bL rp)) s.heap H locs → lv_has ls 8 [(0, .ref mo), (1, .int x1p31), (2, .int x2p4), (3, .int y5.toInt32), (4, .int x4p31), (5, .int x5p31)] → W p l e rm_Mo_idealNow s m args below meth c H locs 0 0 (MQ below (CI0 g (wMo g mo a o now dr pa sa iS bu tq rT wT sK sA sB sE oq bS bE bL rp) z) args s 0 0 (inW (wMo g mo a o now dr pa sa iS bu tq rT wT sK sA sB sE oq bS bE bL rp))) (F0 m 31 ls [])
def HL_Mo_idealNow_75 (p : Program) (l : Launch) (e : Env) (s : State) (m : MethodId) (args : Array Value) (below : List Frame) (meth : Method) (c : Code) (g : GX) (mo : Nat) (a : Nat → Nat) (o : IV) (now : LV) (dr : LV) (pa : LV) (sa : LV) (iS : IV) (bu : IV) (tq : IV) (rT : IV) (wT : IV) (sK : IV) (sA : IV) (sB : IV) (sE : IV) (oq : IV) (bS : IV) (bE : IV) (bL : IV) (rp : IV) (v8 : Int32) (x2p4 : Int32) (y5 : Int64) (x5p31 : Int32) (sp : Int32 → Int32) (ok : Int32 → Prop) : Prop := ∀ (t0p75 : Int32), ok t0p75 → ∀ z : Int32, z = sp t0p75 → ∀ (H : Heap) (locs : List Loc) (ls : Array Slot), va_P g.1 vwCl (wMo g mo a o now dr pa sa iS bu tq rT wT sK sA sB sE oq bS bE bL rp) H → va_D (inW (wMo g mo a o now dr pa sa iS bu tq rT wT sK sA sB sE oq bS bE bL rp)) (wMo g mo a o now dr pa sa iS bu tq rT wT sK sA sB sE oq bS bE bL rp) → va_S (inW (wMo g mo a o now dr pa sa iS bu tq rT wT sK sA sB sE oq bS bE bL rp)) s.heap H locs → lv_has ls 8 [(0, .ref mo), (1, .int v8), (2, .int x2p4), (3, .int y5.toInt32), (5, .int x5p31)] → W p l e rm_Mo_idealNow s m args below meth c H locs 0 0 (MQ below (CI0 g (wMo g mo a o now dr pa sa iS bu tq rT wT sK sA sB sE oq bS bE bL rp) z) args s 0 0 (inW (wMo g mo a o now dr pa sa iS bu tq rT wT sK sA sB sE oq bS bE bL rp))) (F0 m 75 ls [.int t0p75])
def HL_Mo_idealNow_83 (p : Program) (l : Launch) (e : Env) (s : State) (m : MethodId) (args : Array Value) (below : List Frame) (meth : Method) (c : Code) (g : GX) (mo : Nat) (a : Nat → Nat) (o : IV) (now : LV) (dr : LV) (pa : LV) (sa : LV) (iS : IV) (bu : IV) (tq : IV) (rT : IV) (wT : IV) (sK : IV) (sA : IV) (sB : IV) (sE : IV) (oq : IV) (bS : IV) (bE : IV) (bL : IV) (rp : IV) (x1p31 : Int32) (x2p4 : Int32) (y5 : Int64) (x4p31 : Int32) (sp : Int32) (ok : Prop) : Prop := ∀ (_ : Unit), ok → ∀ z : Int32, z = sp → ∀ (H : Heap) (locs : List Loc) (ls : Array Slot), va_P g.1 vwCl (wMo g mo a o now dr pa sa iS bu tq rT wT sK sA sB sE oq bS bE bL rp) H → va_D (inW (wMo g mo a o now dr pa sa iS bu tq rT wT sK sA sB sE oq bS bE bL rp)) (wMo g mo a o now dr pa sa iS bu tq rT wT sK sA sB sE oq bS bE bL rp) → va_S (inW (wMo g mo a o now dr pa sa iS bu tq rT wT sK sA sB sE oq bS bE bL rp)) s.heap H locs → lv_has ls 8 [(0, .ref mo), (1, .int x1p31), (2, .int x2p4), (3, .int y5.toInt32), (4, .int x4p31)] → W p l e rm_Mo_idealNow s m args below meth c H locs 0 0 (MQ below (CI0 g (wMo g mo a o now dr pa sa iS bu tq rT wT sK sA sB sE oq bS bE bL rp) z) args s 0 0 (inW (wMo g mo a o now dr pa sa iS bu tq rT wT sK sA sB sE oq bS bE bL rp))) (F0 m 83 ls [])
def HL_Mo_idealNow_94 (p : Program) (l : Launch) (e : Env) (s : State) (m : MethodId) (args : Array Value) (below : List Frame) (meth : Method) (c : Code) (g : GX) (mo : Nat) (a : Nat → Nat) (o : IV) (now : LV) (dr : LV) (pa : LV) (sa : LV) (iS : IV) (bu : IV) (tq : IV) (rT : IV) (wT : IV) (sK : IV) (sA : IV) (sB : IV) (sE : IV) (oq : IV) (bS : IV) (bE : IV) (bL : IV) (rp : IV) (x2p4 : Int32) (x1p31 : Int32) (sp : Int32 → Int32) (ok : Int32 → Prop) : Prop := ∀ (t1p94 : Int32), ok t1p94 → ∀ z : Int32, z = sp t1p94 → ∀ (H : Heap) (locs : List Loc) (ls : Array Slot), va_P g.1 vwCl (wMo g mo a o now dr pa sa iS bu tq rT wT sK sA sB sE oq bS bE bL rp) H → va_D (inW (wMo g mo a o now dr pa sa iS bu tq rT wT sK sA sB sE oq bS bE bL rp)) (wMo g mo a o now dr pa sa iS bu tq rT wT sK sA sB sE oq bS bE bL rp) → va_S (inW (wMo g mo a o now dr pa sa iS bu tq rT wT sK sA sB sE oq bS bE bL rp)) s.heap H locs → lv_has ls 8 [(0, .ref mo), (2, .int x2p4)] → W p l e rm_Mo_idealNow s m args below meth c H locs 0 0 (MQ below (CI0 g (wMo g mo a o now dr pa sa iS bu tq rT wT sK sA sB sE oq bS bE bL rp) z) args s 0 0 (inW (wMo g mo a o now dr pa sa iS bu tq rT wT sK sA sB sE oq bS bE bL rp))) (F0 m 94 ls [.int t1p94, .int x1p31])
noncomputable def sp_Mo_idealNow_94 (x1p31 : Int32) (x2p4 : Int32) (r4 : Int32 → Int32 → Int32) (t1p94 : Int32) : Int32 := lett (x1p31 - t1p94) fun (v15 : Int32) => lett (x2p4 + (1 : Int32)) fun (v16 : Int32) => r4 v15 v16
def ok_Mo_idealNow_94 (x1p31 : Int32) (x2p4 : Int32) (r4 : Int32 → Int32 → Int32) (q4 : Int32 → Int32 → Prop) (t1p94 : Int32) : Prop := lett (x1p31 - t1p94) fun (v15 : Int32) => lett (x2p4 + (1 : Int32)) fun (v16 : Int32) => q4 v15 v16
set_option maxRecDepth 100000 in
set_option maxHeartbeats 4000000 in
theorem k_Mo_idealNow_94 {p : Program} {l : Launch} {e : Env} {s : State} {m : MethodId} {args : Array Value} {below : List Frame} {meth : Method} {c : Code} {g : GX} {mo : Nat} {a : Nat → Nat} {o : IV} {now : LV} {dr : LV} {pa : LV} {sa : LV} {iS : IV} {bu : IV} {tq : IV} {rT : IV} {wT : IV} {sK : IV} {sA : IV} {sB : IV} {sE : IV} {oq : IV} {bS : IV} {bE : IV} {bL : IV} {rp : IV} {x2p4 : Int32} {x1p31 : Int32} {r4 : Int32 → Int32 → Int32} {q4 : Int32 → Int32 → Prop} (C : Cx p s m args meth c (inW (wMo g mo a o now dr pa sa iS bu tq rT wT sK sA sB sE oq bS bE bL rp)) g "DecadeBridgeModel" b_Mo_idealNow (some .int) 8) (ih4 : HL_Mo_idealNow_4 p l e s m args below meth c g mo a o now dr pa sa iS bu tq rT wT sK sA sB sE oq bS bE bL rp r4 q4) : HL_Mo_idealNow_94 p l e s m args below meth c g mo a o now dr pa sa iS bu tq rT wT sK sA sB sE oq bS bE bL rp x2p4 x1p31 (sp_Mo_idealNow_94 x1p31 x2p4 r4) (ok_Mo_idealNow_94 x1p31 x2p4 r4 q4) := by
  intro t1p94 hok z hz H locs ls hP hD hS hl
  obtain ⟨hx, hb, hr, hml, hown, hlk, hts, hK, hZo, hZ⟩ := id C
  unfold sp_Mo_idealNow_94 at hz
  unfold ok_Mo_idealNow_94 at hok
  refine lv_isub hx hb d_Mo_idealNow_94 ?_
  refine lv_topi (fun v15 ev15 => ?_)
  have hz := lett_z hz ev15
  have hok := lett_o hok ev15
  refine lv_istore_n (lv' := [(1, .int v15), (0, .ref mo), (2, .int x2p4)]) hx hb d_Mo_idealNow_95 rfl hl (by decide) rfl (fun ls hl => ?_)
  obtain ⟨v16, ev16⟩ : ∃ y : Int32, y = x2p4 + (1 : Int32) := ⟨_, rfl⟩
  have hz := lett_z hz ev16
  have hok := lett_o hok ev16
  refine lv_iinc (v := v16) (lv' := [(2, .int v16), (1, .int v15), (0, .ref mo)]) hx hb d_Mo_idealNow_96 hl (k := 2) rfl (by rw [ev16]; rfl) (by decide) rfl (fun ls hl => ?_)
  refine lv_goto (tgt := 4) hx hb d_Mo_idealNow_99 (by decide) ?_
  exact ih4 v15 v16 hok _ hz _ _ ls hP hD hS (lv_sub hl [2, 1, 0] rfl)
noncomputable def sp_Mo_idealNow_83 (x4p31 : Int32) (x1p31 : Int32) (x2p4 : Int32) (y5 : Int64) (r4 : Int32 → Int32 → Int32)  : Int32 := if x4p31 = 0 then (sp_Mo_idealNow_94 x1p31 x2p4 r4 y5.toInt32) else (sp_Mo_idealNow_94 x1p31 x2p4 r4 (0 : Int32))
def ok_Mo_idealNow_83 (x4p31 : Int32) (x1p31 : Int32) (x2p4 : Int32) (y5 : Int64) (r4 : Int32 → Int32 → Int32) (q4 : Int32 → Int32 → Prop)  : Prop := ((x4p31 = 0 → ok_Mo_idealNow_94 x1p31 x2p4 r4 q4 y5.toInt32) ∧ (¬ (x4p31 = 0) → ok_Mo_idealNow_94 x1p31 x2p4 r4 q4 (0 : Int32)))
set_option maxRecDepth 100000 in
set_option maxHeartbeats 4000000 in
theorem k_Mo_idealNow_83 {p : Program} {l : Launch} {e : Env} {s : State} {m : MethodId} {args : Array Value} {below : List Frame} {meth : Method} {c : Code} {g : GX} {mo : Nat} {a : Nat → Nat} {o : IV} {now : LV} {dr : LV} {pa : LV} {sa : LV} {iS : IV} {bu : IV} {tq : IV} {rT : IV} {wT : IV} {sK : IV} {sA : IV} {sB : IV} {sE : IV} {oq : IV} {bS : IV} {bE : IV} {bL : IV} {rp : IV} {x1p31 : Int32} {x2p4 : Int32} {y5 : Int64} {x4p31 : Int32} {r4 : Int32 → Int32 → Int32} {q4 : Int32 → Int32 → Prop} (C : Cx p s m args meth c (inW (wMo g mo a o now dr pa sa iS bu tq rT wT sK sA sB sE oq bS bE bL rp)) g "DecadeBridgeModel" b_Mo_idealNow (some .int) 8) (ih4 : HL_Mo_idealNow_4 p l e s m args below meth c g mo a o now dr pa sa iS bu tq rT wT sK sA sB sE oq bS bE bL rp r4 q4) : HL_Mo_idealNow_83 p l e s m args below meth c g mo a o now dr pa sa iS bu tq rT wT sK sA sB sE oq bS bE bL rp x1p31 x2p4 y5 x4p31 (sp_Mo_idealNow_83 x4p31 x1p31 x2p4 y5 r4) (ok_Mo_idealNow_83 x4p31 x1p31 x2p4 y5 r4 q4) := by
  intro _ hok z hz H locs ls hP hD hS hl
  obtain ⟨hx, hb, hr, hml, hown, hlk, hts, hK, hZo, hZ⟩ := id C
  unfold sp_Mo_idealNow_83 at hz
  unfold ok_Mo_idealNow_83 at hok
  refine lv_iload_n hx hb d_Mo_idealNow_83 rfl (lv_at hl 1 rfl) ?_
  refine lv_iload hx hb d_Mo_idealNow_84 (lv_at hl 4 rfl) ?_
  refine lv_if_eq (tgt := 93) hx hb d_Mo_idealNow_86 (by decide) (fun c14 => ?_) (fun c14 => ?_)
  · have hz := hz.trans (if_pos c14)
    have hok := hok.1 c14
    refine lv_iload_n hx hb d_Mo_idealNow_93 rfl (lv_at hl 3 rfl) ?_
    exact k_Mo_idealNow_94 C ih4 y5.toInt32 hok _ hz _ _ ls hP hD hS (lv_sub hl [0, 2] rfl)
  · have hz := hz.trans (if_neg c14)
    have hok := hok.2 c14
    refine lv_iconst (v := 0) hx hb d_Mo_idealNow_89 (by decide) ?_
    refine lv_goto (tgt := 94) hx hb d_Mo_idealNow_90 (by decide) ?_
    exact k_Mo_idealNow_94 C ih4 (0 : Int32) hok _ hz _ _ ls hP hD hS (lv_sub hl [0, 2] rfl)
noncomputable def sp_Mo_idealNow_75 (x5p31 : Int32) (v8 : Int32) (r4 : Int32 → Int32 → Int32) (r31 : Int32 → Int32 → Int32 → Int32) (t0p75 : Int32) : Int32 := lett (x5p31 + (1 : Int32)) fun (v13 : Int32) => r31 v8 t0p75 v13
def ok_Mo_idealNow_75 (x5p31 : Int32) (v8 : Int32) (r4 : Int32 → Int32 → Int32) (r31 : Int32 → Int32 → Int32 → Int32) (q4 : Int32 → Int32 → Prop) (q31 : Int32 → Int32 → Int32 → Prop) (t0p75 : Int32) : Prop := lett (x5p31 + (1 : Int32)) fun (v13 : Int32) => q31 v8 t0p75 v13
set_option maxRecDepth 100000 in
set_option maxHeartbeats 4000000 in
theorem k_Mo_idealNow_75 {p : Program} {l : Launch} {e : Env} {s : State} {m : MethodId} {args : Array Value} {below : List Frame} {meth : Method} {c : Code} {g : GX} {mo : Nat} {a : Nat → Nat} {o : IV} {now : LV} {dr : LV} {pa : LV} {sa : LV} {iS : IV} {bu : IV} {tq : IV} {rT : IV} {wT : IV} {sK : IV} {sA : IV} {sB : IV} {sE : IV} {oq : IV} {bS : IV} {bE : IV} {bL : IV} {rp : IV} {v8 : Int32} {x2p4 : Int32} {y5 : Int64} {x5p31 : Int32} {r4 : Int32 → Int32 → Int32} {q4 : Int32 → Int32 → Prop} {r31 : Int32 → Int32 → Int32 → Int32} {q31 : Int32 → Int32 → Int32 → Prop} (C : Cx p s m args meth c (inW (wMo g mo a o now dr pa sa iS bu tq rT wT sK sA sB sE oq bS bE bL rp)) g "DecadeBridgeModel" b_Mo_idealNow (some .int) 8) (ih4 : HL_Mo_idealNow_4 p l e s m args below meth c g mo a o now dr pa sa iS bu tq rT wT sK sA sB sE oq bS bE bL rp r4 q4) (ih31 : HL_Mo_idealNow_31 p l e s m args below meth c g mo a o now dr pa sa iS bu tq rT wT sK sA sB sE oq bS bE bL rp x2p4 y5 r31 q31) : HL_Mo_idealNow_75 p l e s m args below meth c g mo a o now dr pa sa iS bu tq rT wT sK sA sB sE oq bS bE bL rp v8 x2p4 y5 x5p31 (sp_Mo_idealNow_75 x5p31 v8 r4 r31) (ok_Mo_idealNow_75 x5p31 v8 r4 r31 q4 q31) := by
  intro t0p75 hok z hz H locs ls hP hD hS hl
  obtain ⟨hx, hb, hr, hml, hown, hlk, hts, hK, hZo, hZ⟩ := id C
  unfold sp_Mo_idealNow_75 at hz
  unfold ok_Mo_idealNow_75 at hok
  refine lv_istore (lv' := [(4, .int t0p75), (0, .ref mo), (1, .int v8), (2, .int x2p4), (3, .int y5.toInt32), (5, .int x5p31)]) hx hb d_Mo_idealNow_75 hl (by decide) rfl (fun ls hl => ?_)
  obtain ⟨v13, ev13⟩ : ∃ y : Int32, y = x5p31 + (1 : Int32) := ⟨_, rfl⟩
  have hz := lett_z hz ev13
  have hok := lett_o hok ev13
  refine lv_iinc (v := v13) (lv' := [(5, .int v13), (4, .int t0p75), (0, .ref mo), (1, .int v8), (2, .int x2p4), (3, .int y5.toInt32)]) hx hb d_Mo_idealNow_77 hl (k := 5) rfl (by rw [ev13]; rfl) (by decide) rfl (fun ls hl => ?_)
  refine lv_goto (tgt := 31) hx hb d_Mo_idealNow_80 (by decide) ?_
  exact ih31 v8 t0p75 v13 hok _ hz _ _ ls hP hD hS (lv_sub hl [2, 3, 4, 5, 1, 0] rfl)
noncomputable def bd_Mo_idealNow_31 (x2p4 : Int32) (y5 : Int64) (now : LV) (r4 : Int32 → Int32 → Int32) (r31 : Int32 → Int32 → Int32 → Int32) (x1p31 : Int32) (x4p31 : Int32) (x5p31 : Int32) : Int32 := if (9 : Int32) ≤ x5p31 then (sp_Mo_idealNow_83 x4p31 x1p31 x2p4 y5 r4) else (if x4p31 = 0 then (sp_Mo_idealNow_83 x4p31 x1p31 x2p4 y5 r4) else (lett (x1p31 + y5.toInt32) fun (v8 : Int32) => lett (sp_Mo_plainNow v8 now) fun (y10 : Int64) => if y10 = (0 : Int64) then (v8) else (if y10 ≤ (0 : Int64) then (sp_Mo_idealNow_75 x5p31 v8 r4 r31 (0 : Int32)) else (sp_Mo_idealNow_75 x5p31 v8 r4 r31 (1 : Int32)))))
def okb_Mo_idealNow_31 (x2p4 : Int32) (y5 : Int64) (now : LV) (r4 : Int32 → Int32 → Int32) (r31 : Int32 → Int32 → Int32 → Int32) (q4 : Int32 → Int32 → Prop) (q31 : Int32 → Int32 → Int32 → Prop) (x1p31 : Int32) (x4p31 : Int32) (x5p31 : Int32) : Prop := (((9 : Int32) ≤ x5p31 → ok_Mo_idealNow_83 x4p31 x1p31 x2p4 y5 r4 q4) ∧ (¬ ((9 : Int32) ≤ x5p31) → ((x4p31 = 0 → ok_Mo_idealNow_83 x4p31 x1p31 x2p4 y5 r4 q4) ∧ (¬ (x4p31 = 0) → lett (x1p31 + y5.toInt32) fun (v8 : Int32) => (ok_Mo_plainNow v8 now) ∧ lett (sp_Mo_plainNow v8 now) fun (y10 : Int64) => ((y10 = (0 : Int64) → True) ∧ (¬ (y10 = (0 : Int64)) → ((y10 ≤ (0 : Int64) → ok_Mo_idealNow_75 x5p31 v8 r4 r31 q4 q31 (0 : Int32)) ∧ (¬ (y10 ≤ (0 : Int64)) → ok_Mo_idealNow_75 x5p31 v8 r4 r31 q4 q31 (1 : Int32)))))))))
noncomputable def sp_Mo_idealNow_31 (x2p4 : Int32) (y5 : Int64) (now : LV) (r4 : Int32 → Int32 → Int32) : Nat → Int32 → Int32 → Int32 → Int32
  | 0 => fun _ _ _ => default
  | f + 1 => bd_Mo_idealNow_31 x2p4 y5 now r4 (sp_Mo_idealNow_31 x2p4 y5 now r4 f)
def ok_Mo_idealNow_31 (x2p4 : Int32) (y5 : Int64) (now : LV) (r4 : Int32 → Int32 → Int32) (q4 : Int32 → Int32 → Prop) : Nat → Int32 → Int32 → Int32 → Prop
  | 0 => fun _ _ _ => False
  | f + 1 => okb_Mo_idealNow_31 x2p4 y5 now r4 (sp_Mo_idealNow_31 x2p4 y5 now r4 f) q4 (ok_Mo_idealNow_31 x2p4 y5 now r4 q4 f)
set_option maxRecDepth 100000 in
set_option maxHeartbeats 4000000 in
theorem kb_Mo_idealNow_31 {p : Program} {l : Launch} {e : Env} {s : State} {m : MethodId} {args : Array Value} {below : List Frame} {meth : Method} {c : Code} {g : GX} {mo : Nat} {a : Nat → Nat} {o : IV} {now : LV} {dr : LV} {pa : LV} {sa : LV} {iS : IV} {bu : IV} {tq : IV} {rT : IV} {wT : IV} {sK : IV} {sA : IV} {sB : IV} {sE : IV} {oq : IV} {bS : IV} {bE : IV} {bL : IV} {rp : IV} {x2p4 : Int32} {y5 : Int64} {r4 : Int32 → Int32 → Int32} {q4 : Int32 → Int32 → Prop} (C : Cx p s m args meth c (inW (wMo g mo a o now dr pa sa iS bu tq rT wT sK sA sB sE oq bS bE bL rp)) g "DecadeBridgeModel" b_Mo_idealNow (some .int) 8) {r31 : Int32 → Int32 → Int32 → Int32} {q31 : Int32 → Int32 → Int32 → Prop} (ih4 : HL_Mo_idealNow_4 p l e s m args below meth c g mo a o now dr pa sa iS bu tq rT wT sK sA sB sE oq bS bE bL rp r4 q4) (ih31 : HL_Mo_idealNow_31 p l e s m args below meth c g mo a o now dr pa sa iS bu tq rT wT sK sA sB sE oq bS bE bL rp x2p4 y5 r31 q31) : HL_Mo_idealNow_31 p l e s m args below meth c g mo a o now dr pa sa iS bu tq rT wT sK sA sB sE oq bS bE bL rp x2p4 y5 (bd_Mo_idealNow_31 x2p4 y5 now r4 r31) (okb_Mo_idealNow_31 x2p4 y5 now r4 r31 q4 q31) := by
  intro x1p31 x4p31 x5p31 hok z hz H locs ls hP hD hS hl
  obtain ⟨hx, hb, hr, hml, hown, hlk, hts, hK, hZo, hZ⟩ := id C
  unfold bd_Mo_idealNow_31 at hz
  unfold okb_Mo_idealNow_31 at hok
  refine lv_iload hx hb d_Mo_idealNow_31 (lv_at hl 5 rfl) ?_
  refine lv_bipush (v := 9) hx hb d_Mo_idealNow_33 (by decide) ?_
  refine lv_icmp_ge (tgt := 83) hx hb d_Mo_idealNow_35 (by decide) (fun c6 => ?_) (fun c6 => ?_)
  · have hz := hz.trans (if_pos c6)
    have hok := hok.1 c6
    exact k_Mo_idealNow_83 C ih4 () hok _ hz _ _ ls hP hD hS (lv_sub hl [0, 1, 2, 3, 4] rfl)
  · have hz := hz.trans (if_neg c6)
    have hok := hok.2 c6
    refine lv_iload hx hb d_Mo_idealNow_38 (lv_at hl 4 rfl) ?_
    refine lv_if_eq (tgt := 83) hx hb d_Mo_idealNow_40 (by decide) (fun c7 => ?_) (fun c7 => ?_)
    · have hz := hz.trans (if_pos c7)
      have hok := hok.1 c7
      exact k_Mo_idealNow_83 C ih4 () hok _ hz _ _ ls hP hD hS (lv_sub hl [0, 1, 2, 3, 4] rfl)
    · have hz := hz.trans (if_neg c7)
      have hok := hok.2 c7
      refine lv_iload_n hx hb d_Mo_idealNow_43 rfl (lv_at hl 1 rfl) ?_
      refine lv_iload_n hx hb d_Mo_idealNow_44 rfl (lv_at hl 3 rfl) ?_
      refine lv_iadd hx hb d_Mo_idealNow_45 ?_
      refine lv_topi (fun v8 ev8 => ?_)
      have hz := lett_z hz ev8
      have hok := lett_o hok ev8
      refine lv_istore_n (lv' := [(1, .int v8), (0, .ref mo), (2, .int x2p4), (3, .int y5.toInt32), (4, .int x4p31), (5, .int x5p31)]) hx hb d_Mo_idealNow_46 rfl hl (by decide) rfl (fun ls hl => ?_)
      refine lv_aload_n hx hb d_Mo_idealNow_47 rfl (lv_at hl 1 rfl) ?_
      refine lv_iload_n hx hb d_Mo_idealNow_48 rfl (lv_at hl 0 rfl) ?_
      have hs9 := hok.1
      have hok := hok.2
      have hB : SubW g (inW (wMo g mo a o now dr pa sa iS bu tq rT wT sK sA sB sE oq bS bE bL rp)) s (wMo g mo a o now dr pa sa iS bu tq rT wT sK sA sB sE oq bS bE bL rp) _ (List.range _) _ _ := (subF hP hD hS)
      refine goL0 hB (run_v C mf_Mo_plainNow qm_Mo_179 (c_Mo_plainNow l g mo a o now dr pa sa iS bu tq rT wT sK sA sB sE oq bS bE bL rp v8 hs9) rfl rfl ⟨Nat.le_of_ble_eq_true rfl, Nat.le_of_ble_eq_true rfl⟩ ⟨Nat.le_of_ble_eq_true rfl, Nat.le_of_ble_eq_true rfl⟩ hB rfl rfl hl rfl rfl (Nat.le_of_ble_eq_true rfl) d_Mo_idealNow_49) (fun y10 ey10 H locs hP hS => ?_)
      have hz := lett_z hz ey10
      have hok := lett_o hok ey10
      refine lv_lstore (lv' := [(6, .long y10), (1, .int v8), (0, .ref mo), (2, .int x2p4), (3, .int y5.toInt32), (4, .int x4p31), (5, .int x5p31)]) hx hb d_Mo_idealNow_52 hl (by decide) rfl (fun ls hl => ?_)
      refine lv_lload hx hb d_Mo_idealNow_54 (lv_at hl 0 rfl) ?_
      refine lv_lconst (v := 0) hx hb d_Mo_idealNow_56 (by decide) ?_
      refine lc_ne (tgt := 63) hx hb d_Mo_idealNow_57 d_Mo_idealNow_58 (by decide) (fun c11 => ?_) (fun c11 => ?_)
      · have hz := hz.trans (if_neg c11)
        have hok := hok.2 c11
        refine lv_lload hx hb d_Mo_idealNow_63 (lv_at hl 0 rfl) ?_
        refine lv_lconst (v := 0) hx hb d_Mo_idealNow_65 (by decide) ?_
        refine lc_le (tgt := 74) hx hb d_Mo_idealNow_66 d_Mo_idealNow_67 (by decide) (fun c12 => ?_) (fun c12 => ?_)
        · have hz := hz.trans (if_pos c12)
          have hok := hok.1 c12
          refine lv_iconst (v := 0) hx hb d_Mo_idealNow_74 (by decide) ?_
          exact k_Mo_idealNow_75 C ih4 ih31 (0 : Int32) hok _ hz _ _ ls hP hD hS (lv_sub hl [2, 1, 3, 4, 6] rfl)
        · have hz := hz.trans (if_neg c12)
          have hok := hok.2 c12
          refine lv_iconst (v := 1) hx hb d_Mo_idealNow_70 (by decide) ?_
          refine lv_goto (tgt := 75) hx hb d_Mo_idealNow_71 (by decide) ?_
          exact k_Mo_idealNow_75 C ih4 ih31 (1 : Int32) hok _ hz _ _ ls hP hD hS (lv_sub hl [2, 1, 3, 4, 6] rfl)
      · have hz := hz.trans (if_pos c11)
        refine lv_iload_n hx hb d_Mo_idealNow_61 rfl (lv_at hl 1 rfl) ?_
        exact endI0 C hz hP hS d_Mo_idealNow_62
theorem k_Mo_idealNow_31 {p : Program} {l : Launch} {e : Env} {s : State} {m : MethodId} {args : Array Value} {below : List Frame} {meth : Method} {c : Code} {g : GX} {mo : Nat} {a : Nat → Nat} {o : IV} {now : LV} {dr : LV} {pa : LV} {sa : LV} {iS : IV} {bu : IV} {tq : IV} {rT : IV} {wT : IV} {sK : IV} {sA : IV} {sB : IV} {sE : IV} {oq : IV} {bS : IV} {bE : IV} {bL : IV} {rp : IV} {x2p4 : Int32} {y5 : Int64} {r4 : Int32 → Int32 → Int32} {q4 : Int32 → Int32 → Prop} (C : Cx p s m args meth c (inW (wMo g mo a o now dr pa sa iS bu tq rT wT sK sA sB sE oq bS bE bL rp)) g "DecadeBridgeModel" b_Mo_idealNow (some .int) 8) (f : Nat) (ih4 : HL_Mo_idealNow_4 p l e s m args below meth c g mo a o now dr pa sa iS bu tq rT wT sK sA sB sE oq bS bE bL rp r4 q4) : HL_Mo_idealNow_31 p l e s m args below meth c g mo a o now dr pa sa iS bu tq rT wT sK sA sB sE oq bS bE bL rp x2p4 y5 (sp_Mo_idealNow_31 x2p4 y5 now r4 f) (ok_Mo_idealNow_31 x2p4 y5 now r4 q4 f) := by
  induction f with
  | zero => intro x1p31 x4p31 x5p31 hok; exact False.elim hok
  | succ f ih => exact kb_Mo_idealNow_31 C ih4 ih
noncomputable def bd_Mo_idealNow_4 (now : LV) (r4 : Int32 → Int32 → Int32) (x1p4 : Int32) (x2p4 : Int32) : Int32 := lett (sp_Mo_decades now) fun (y1 : Int32) => if y1 ≤ x2p4 then (x1p4) else (lett (sp_Mo_decades now) fun (y3 : Int32) => lett (sp_Mo_tenTo ((y3 - (1 : Int32)) - x2p4)) fun (y5 : Int64) => sp_Mo_idealNow_31 x2p4 y5 now r4 big x1p4 (1 : Int32) (0 : Int32))
def okb_Mo_idealNow_4 (now : LV) (r4 : Int32 → Int32 → Int32) (q4 : Int32 → Int32 → Prop) (x1p4 : Int32) (x2p4 : Int32) : Prop := lett (sp_Mo_decades now) fun (y1 : Int32) => ((y1 ≤ x2p4 → True) ∧ (¬ (y1 ≤ x2p4) → lett (sp_Mo_decades now) fun (y3 : Int32) => (ok_Mo_tenTo ((y3 - (1 : Int32)) - x2p4)) ∧ lett (sp_Mo_tenTo ((y3 - (1 : Int32)) - x2p4)) fun (y5 : Int64) => ok_Mo_idealNow_31 x2p4 y5 now r4 q4 big x1p4 (1 : Int32) (0 : Int32)))
noncomputable def sp_Mo_idealNow_4 (now : LV)  : Nat → Int32 → Int32 → Int32
  | 0 => fun _ _ => default
  | f + 1 => bd_Mo_idealNow_4 now  (sp_Mo_idealNow_4 now  f)
def ok_Mo_idealNow_4 (now : LV)   : Nat → Int32 → Int32 → Prop
  | 0 => fun _ _ => False
  | f + 1 => okb_Mo_idealNow_4 now  (sp_Mo_idealNow_4 now  f)  (ok_Mo_idealNow_4 now   f)
set_option maxRecDepth 100000 in
set_option maxHeartbeats 4000000 in
theorem kb_Mo_idealNow_4 {p : Program} {l : Launch} {e : Env} {s : State} {m : MethodId} {args : Array Value} {below : List Frame} {meth : Method} {c : Code} {g : GX} {mo : Nat} {a : Nat → Nat} {o : IV} {now : LV} {dr : LV} {pa : LV} {sa : LV} {iS : IV} {bu : IV} {tq : IV} {rT : IV} {wT : IV} {sK : IV} {sA : IV} {sB : IV} {sE : IV} {oq : IV} {bS : IV} {bE : IV} {bL : IV} {rp : IV}  (C : Cx p s m args meth c (inW (wMo g mo a o now dr pa sa iS bu tq rT wT sK sA sB sE oq bS bE bL rp)) g "DecadeBridgeModel" b_Mo_idealNow (some .int) 8) {r4 : Int32 → Int32 → Int32} {q4 : Int32 → Int32 → Prop}  (ih4 : HL_Mo_idealNow_4 p l e s m args below meth c g mo a o now dr pa sa iS bu tq rT wT sK sA sB sE oq bS bE bL rp r4 q4) : HL_Mo_idealNow_4 p l e s m args below meth c g mo a o now dr pa sa iS bu tq rT wT sK sA sB sE oq bS bE bL rp (bd_Mo_idealNow_4 now  r4) (okb_Mo_idealNow_4 now  r4  q4) := by
  intro x1p4 x2p4 hok z hz H locs ls hP hD hS hl
  obtain ⟨hx, hb, hr, hml, hown, hlk, hts, hK, hZo, hZ⟩ := id C
  unfold bd_Mo_idealNow_4 at hz
  unfold okb_Mo_idealNow_4 at hok
  refine lv_iload_n hx hb d_Mo_idealNow_4 rfl (lv_at hl 2 rfl) ?_
  refine lv_aload_n hx hb d_Mo_idealNow_5 rfl (lv_at hl 0 rfl) ?_
  have hB : SubW g (inW (wMo g mo a o now dr pa sa iS bu tq rT wT sK sA sB sE oq bS bE bL rp)) s (wMo g mo a o now dr pa sa iS bu tq rT wT sK sA sB sE oq bS bE bL rp) _ (List.range _) _ _ := (subF hP hD hS)
  refine goI0 hB (run_v C mf_Mo_decades qm_Mo_130 (c_Mo_decades l g mo a o now dr pa sa iS bu tq rT wT sK sA sB sE oq bS bE bL rp) rfl rfl ⟨Nat.le_of_ble_eq_true rfl, Nat.le_of_ble_eq_true rfl⟩ ⟨Nat.le_of_ble_eq_true rfl, Nat.le_of_ble_eq_true rfl⟩ hB rfl rfl hl rfl rfl (Nat.le_of_ble_eq_true rfl) d_Mo_idealNow_6) (fun y1 ey1 H locs hP hS => ?_)
  have hz := lett_z hz ey1
  have hok := lett_o hok ey1
  refine lv_icmp_ge (tgt := 102) hx hb d_Mo_idealNow_9 (by decide) (fun c2 => ?_) (fun c2 => ?_)
  · have hz := hz.trans (if_pos c2)
    refine lv_iload_n hx hb d_Mo_idealNow_102 rfl (lv_at hl 1 rfl) ?_
    exact endI0 C hz hP hS d_Mo_idealNow_103
  · have hz := hz.trans (if_neg c2)
    have hok := hok.2 c2
    refine lv_aload_n hx hb d_Mo_idealNow_12 rfl (lv_at hl 0 rfl) ?_
    have hB : SubW g (inW (wMo g mo a o now dr pa sa iS bu tq rT wT sK sA sB sE oq bS bE bL rp)) s (wMo g mo a o now dr pa sa iS bu tq rT wT sK sA sB sE oq bS bE bL rp) _ (List.range _) _ _ := (subF hP hD hS)
    refine goI0 hB (run_v C mf_Mo_decades qm_Mo_130 (c_Mo_decades l g mo a o now dr pa sa iS bu tq rT wT sK sA sB sE oq bS bE bL rp) rfl rfl ⟨Nat.le_of_ble_eq_true rfl, Nat.le_of_ble_eq_true rfl⟩ ⟨Nat.le_of_ble_eq_true rfl, Nat.le_of_ble_eq_true rfl⟩ hB rfl rfl hl rfl rfl (Nat.le_of_ble_eq_true rfl) d_Mo_idealNow_13) (fun y3 ey3 H locs hP hS => ?_)
    have hz := lett_z hz ey3
    have hok := lett_o hok ey3
    refine lv_iconst (v := 1) hx hb d_Mo_idealNow_16 (by decide) ?_
    refine lv_isub hx hb d_Mo_idealNow_17 ?_
    refine lv_iload_n hx hb d_Mo_idealNow_18 rfl (lv_at hl 2 rfl) ?_
    refine lv_isub hx hb d_Mo_idealNow_19 ?_
    have hs4 := hok.1
    have hok := hok.2
    have hB : SubW g (inW (wMo g mo a o now dr pa sa iS bu tq rT wT sK sA sB sE oq bS bE bL rp)) s (wMo g mo a o now dr pa sa iS bu tq rT wT sK sA sB sE oq bS bE bL rp) _ (List.range _) _ _ := (subF hP hD hS)
    refine goL0 hB (run_s C mf_Mo_tenTo qm_Mo_122 (c_Mo_tenTo l g mo a o now dr pa sa iS bu tq rT wT sK sA sB sE oq bS bE bL rp ((y3 - (1 : Int32)) - x2p4) hs4) rfl rfl ⟨Nat.le_of_ble_eq_true rfl, Nat.le_of_ble_eq_true rfl⟩ ⟨Nat.le_of_ble_eq_true rfl, Nat.le_of_ble_eq_true rfl⟩ hB hl rfl rfl (Nat.le_of_ble_eq_true rfl) d_Mo_idealNow_20) (fun y5 ey5 H locs hP hS => ?_)
    have hz := lett_z hz ey5
    have hok := lett_o hok ey5
    refine lv_l2i hx hb d_Mo_idealNow_23 rfl ?_
    refine lv_istore_n (lv' := [(3, .int y5.toInt32), (0, .ref mo), (1, .int x1p4), (2, .int x2p4)]) hx hb d_Mo_idealNow_24 rfl hl (by decide) rfl (fun ls hl => ?_)
    refine lv_iconst (v := 1) hx hb d_Mo_idealNow_25 (by decide) ?_
    refine lv_istore (lv' := [(4, .int (1 : Int32)), (3, .int y5.toInt32), (0, .ref mo), (1, .int x1p4), (2, .int x2p4)]) hx hb d_Mo_idealNow_26 hl (by decide) rfl (fun ls hl => ?_)
    refine lv_iconst (v := 0) hx hb d_Mo_idealNow_28 (by decide) ?_
    refine lv_istore (lv' := [(5, .int (0 : Int32)), (4, .int (1 : Int32)), (3, .int y5.toInt32), (0, .ref mo), (1, .int x1p4), (2, .int x2p4)]) hx hb d_Mo_idealNow_29 hl (by decide) rfl (fun ls hl => ?_)
    exact k_Mo_idealNow_31 C big ih4 x1p4 (1 : Int32) (0 : Int32) hok _ hz _ _ ls hP hD hS (lv_sub hl [3, 4, 5, 2, 1, 0] rfl)
theorem k_Mo_idealNow_4 {p : Program} {l : Launch} {e : Env} {s : State} {m : MethodId} {args : Array Value} {below : List Frame} {meth : Method} {c : Code} {g : GX} {mo : Nat} {a : Nat → Nat} {o : IV} {now : LV} {dr : LV} {pa : LV} {sa : LV} {iS : IV} {bu : IV} {tq : IV} {rT : IV} {wT : IV} {sK : IV} {sA : IV} {sB : IV} {sE : IV} {oq : IV} {bS : IV} {bE : IV} {bL : IV} {rp : IV}  (C : Cx p s m args meth c (inW (wMo g mo a o now dr pa sa iS bu tq rT wT sK sA sB sE oq bS bE bL rp)) g "DecadeBridgeModel" b_Mo_idealNow (some .int) 8) (f : Nat)  : HL_Mo_idealNow_4 p l e s m args below meth c g mo a o now dr pa sa iS bu tq rT wT sK sA sB sE oq bS bE bL rp (sp_Mo_idealNow_4 now  f) (ok_Mo_idealNow_4 now   f) := by
  induction f with
  | zero => intro x1p4 x2p4 hok; exact False.elim hok
  | succ f ih => exact kb_Mo_idealNow_4 C  ih
noncomputable def sp_Mo_idealNow (now : LV) : Int32 := sp_Mo_idealNow_4 now big (0 : Int32) (0 : Int32)
def ok_Mo_idealNow (now : LV) : Prop := ok_Mo_idealNow_4 now big (0 : Int32) (0 : Int32)
set_option maxRecDepth 100000 in
set_option maxHeartbeats 4000000 in
theorem c_Mo_idealNow (l : Launch) (g : GX) (mo : Nat) (a : Nat → Nat) (o : IV) (now : LV) (dr : LV) (pa : LV) (sa : LV) (iS : IV) (bu : IV) (tq : IV) (rT : IV) (wT : IV) (sK : IV) (sA : IV) (sB : IV) (sE : IV) (oq : IV) (bS : IV) (bE : IV) (bL : IV) (rp : IV)  (hok : ok_Mo_idealNow now) : Met l y_Mo_idealNow (wsY y_Mo_idealNow b_Mo_idealNow 8 (some .int)) rm_Mo_idealNow (CP g [.ref mo] (wMo g mo a o now dr pa sa iS bu tq rT wT sK sA sB sE oq bS bE bL rp)) (CI0 g (wMo g mo a o now dr pa sa iS bu tq rT wT sK sA sB sE oq bS bE bL rp) (sp_Mo_idealNow now)) 0 0 (inW (wMo g mo a o now dr pa sa iS bu tq rT wT sK sA sB sE oq bS bE bL rp)) := by
  refine Met.ofW (cc := b_Mo_idealNow) (maxL := 8) (ret := (some .int)) pn_Mo rfl ?_
  intro p e s m args below meth c s₁ B hml hv
  obtain ⟨rfl, C, hP, hD, hS⟩ := enter "DecadeBridgeModel" rfl B hml hv
  obtain ⟨hx, hb, hr, hml, hown, hlk, hts, hK, hZo, hZ⟩ := id C
  refine entryW (lv := [(0, .ref mo)]) rfl (Nat.le_of_ble_eq_true rfl) (fun ls hl => ?_)
  obtain ⟨z, hz⟩ : ∃ z, z = sp_Mo_idealNow now := ⟨_, rfl⟩
  rw [← hz]
  unfold sp_Mo_idealNow at hz
  unfold ok_Mo_idealNow at hok
  refine lv_iconst (v := 0) hx hb d_Mo_idealNow_0 (by decide) ?_
  refine lv_istore_n (lv' := [(1, .int (0 : Int32)), (0, .ref mo)]) hx hb d_Mo_idealNow_1 rfl hl (by decide) rfl (fun ls hl => ?_)
  refine lv_iconst (v := 0) hx hb d_Mo_idealNow_2 (by decide) ?_
  refine lv_istore_n (lv' := [(2, .int (0 : Int32)), (1, .int (0 : Int32)), (0, .ref mo)]) hx hb d_Mo_idealNow_3 rfl hl (by decide) rfl (fun ls hl => ?_)
  exact k_Mo_idealNow_4 C big (0 : Int32) (0 : Int32) hok _ hz _ _ ls hP hD hS (lv_sub hl [2, 1, 0] rfl)
abbrev rm_Mo_ideal : Room := { frames := 9, cells := 0, slots := 0, locals := 213 }
noncomputable def sp_Mo_ideal (o : IV) (now : LV) : Int32 × IV := lett (upd o 6 (0 : Int32)) fun (o_1 : IV) => lett (sp_Mo_idealNow now) fun (y3 : Int32) => (y3, o_1)
def ok_Mo_ideal (o : IV) (now : LV) : Prop := lett (upd o 6 (0 : Int32)) fun (o_1 : IV) => (ok_Mo_idealNow now) ∧ True
set_option maxRecDepth 100000 in
set_option maxHeartbeats 4000000 in
theorem c_Mo_ideal (l : Launch) (g : GX) (mo : Nat) (a : Nat → Nat) (o : IV) (now : LV) (dr : LV) (pa : LV) (sa : LV) (iS : IV) (bu : IV) (tq : IV) (rT : IV) (wT : IV) (sK : IV) (sA : IV) (sB : IV) (sE : IV) (oq : IV) (bS : IV) (bE : IV) (bL : IV) (rp : IV)  (hok : ok_Mo_ideal o now) : Met l y_Mo_ideal (wsY y_Mo_ideal b_Mo_ideal 1 (some .int)) rm_Mo_ideal (CP g [.ref mo] (wMo g mo a o now dr pa sa iS bu tq rT wT sK sA sB sE oq bS bE bL rp)) (CI g (wMo g mo a o now dr pa sa iS bu tq rT wT sK sA sB sE oq bS bE bL rp) (fun u : IV => wMo g mo a u now dr pa sa iS bu tq rT wT sK sA sB sE oq bS bE bL rp) (sp_Mo_ideal o now)) 0 0 (inW (wMo g mo a o now dr pa sa iS bu tq rT wT sK sA sB sE oq bS bE bL rp)) := by
  refine Met.ofW (cc := b_Mo_ideal) (maxL := 1) (ret := (some .int)) pn_Mo rfl ?_
  intro p e s m args below meth c s₁ B hml hv
  obtain ⟨rfl, C, hP, hD, hS⟩ := enter "DecadeBridgeModel" rfl B hml hv
  obtain ⟨hx, hb, hr, hml, hown, hlk, hts, hK, hZo, hZ⟩ := id C
  refine entryW (lv := [(0, .ref mo)]) rfl (Nat.le_of_ble_eq_true rfl) (fun ls hl => ?_)
  obtain ⟨z, hz⟩ : ∃ z, z = sp_Mo_ideal o now := ⟨_, rfl⟩
  rw [← hz]
  unfold sp_Mo_ideal at hz
  unfold ok_Mo_ideal at hok
  refine lv_aload_n hx hb d_Mo_ideal_0 rfl (lv_at hl 0 rfl) ?_
  refine lv_iconst (v := 0) hx hb d_Mo_ideal_1 (by decide) ?_
  refine pfI C hP hD hS 0 6 fkMo rfl (by decide) rfl qf_Mo_107 rfl rfl rfl (Nat.le_of_ble_eq_true rfl) (ff := fun o => fMo a o) (sMo_6 _ _ _) d_Mo_ideal_2 (fun o_1 eo_1 H locs hP hD hS => ?_)
  have hP : va_P g.1 vwCl (wMo g mo a o_1 now dr pa sa iS bu tq rT wT sK sA sB sE oq bS bE bL rp) H := hP
  have hD : va_D (inW (wMo g mo a o now dr pa sa iS bu tq rT wT sK sA sB sE oq bS bE bL rp)) (wMo g mo a o_1 now dr pa sa iS bu tq rT wT sK sA sB sE oq bS bE bL rp) := hD
  have hz := lett_z hz eo_1
  have hok := lett_o hok eo_1
  refine lv_aload_n hx hb d_Mo_ideal_5 rfl (lv_at hl 0 rfl) ?_
  have hs2 := hok.1
  have hok := hok.2
  have hB : SubW g (inW (wMo g mo a o now dr pa sa iS bu tq rT wT sK sA sB sE oq bS bE bL rp)) s (wMo g mo a o_1 now dr pa sa iS bu tq rT wT sK sA sB sE oq bS bE bL rp) _ (List.range _) _ _ := (subF hP hD hS)
  refine goI0 hB (run_v C mf_Mo_idealNow qm_Mo_462 (c_Mo_idealNow l g mo a o_1 now dr pa sa iS bu tq rT wT sK sA sB sE oq bS bE bL rp hs2) rfl rfl ⟨Nat.le_of_ble_eq_true rfl, Nat.le_of_ble_eq_true rfl⟩ ⟨Nat.le_of_ble_eq_true rfl, Nat.le_of_ble_eq_true rfl⟩ hB rfl rfl hl rfl rfl (Nat.le_of_ble_eq_true rfl) d_Mo_ideal_6) (fun y3 ey3 H locs hP hS => ?_)
  have hz := lett_z hz ey3
  exact endI1 C hz hP hS d_Mo_ideal_9
abbrev rm_Mo_miss : Room := { frames := 9, cells := 0, slots := 0, locals := 213 }
noncomputable def sp_Mo_miss (o : IV) (now : LV) : Int64 × IV := lett (upd o 6 (0 : Int32)) fun (o_1 : IV) => lett (sp_Mo_idealNow now) fun (y3 : Int32) => lett (sp_Mo_plainNow y3 now) fun (y5 : Int64) => lett (sp_Mo_amount y5) fun (y6 : Int64) => lett (sp_Mo_bestOf (now 29) (now 30) (now 32) now) fun (y8 : Int32) => lett (sp_Mo_plainNow y8 now) fun (y10 : Int64) => lett (sp_Mo_amount y10) fun (y11 : Int64) => (y6 - y11, o_1)
def ok_Mo_miss (o : IV) (now : LV) : Prop := lett (upd o 6 (0 : Int32)) fun (o_1 : IV) => (ok_Mo_idealNow now) ∧ lett (sp_Mo_idealNow now) fun (y3 : Int32) => (ok_Mo_plainNow y3 now) ∧ lett (sp_Mo_plainNow y3 now) fun (y5 : Int64) => lett (sp_Mo_amount y5) fun (y6 : Int64) => (ok_Mo_bestOf (now 29) (now 30) (now 32) now) ∧ lett (sp_Mo_bestOf (now 29) (now 30) (now 32) now) fun (y8 : Int32) => (ok_Mo_plainNow y8 now) ∧ True
set_option maxRecDepth 100000 in
set_option maxHeartbeats 4000000 in
theorem c_Mo_miss (l : Launch) (g : GX) (mo : Nat) (a : Nat → Nat) (o : IV) (now : LV) (dr : LV) (pa : LV) (sa : LV) (iS : IV) (bu : IV) (tq : IV) (rT : IV) (wT : IV) (sK : IV) (sA : IV) (sB : IV) (sE : IV) (oq : IV) (bS : IV) (bE : IV) (bL : IV) (rp : IV)  (hok : ok_Mo_miss o now) : Met l y_Mo_miss (wsY y_Mo_miss b_Mo_miss 1 (some .long)) rm_Mo_miss (CP g [.ref mo] (wMo g mo a o now dr pa sa iS bu tq rT wT sK sA sB sE oq bS bE bL rp)) (CL g (wMo g mo a o now dr pa sa iS bu tq rT wT sK sA sB sE oq bS bE bL rp) (fun u : IV => wMo g mo a u now dr pa sa iS bu tq rT wT sK sA sB sE oq bS bE bL rp) (sp_Mo_miss o now)) 0 0 (inW (wMo g mo a o now dr pa sa iS bu tq rT wT sK sA sB sE oq bS bE bL rp)) := by
  refine Met.ofW (cc := b_Mo_miss) (maxL := 1) (ret := (some .long)) pn_Mo rfl ?_
  intro p e s m args below meth c s₁ B hml hv
  obtain ⟨rfl, C, hP, hD, hS⟩ := enter "DecadeBridgeModel" rfl B hml hv
  obtain ⟨hx, hb, hr, hml, hown, hlk, hts, hK, hZo, hZ⟩ := id C
  refine entryW (lv := [(0, .ref mo)]) rfl (Nat.le_of_ble_eq_true rfl) (fun ls hl => ?_)
  obtain ⟨z, hz⟩ : ∃ z, z = sp_Mo_miss o now := ⟨_, rfl⟩
  rw [← hz]
  unfold sp_Mo_miss at hz
  unfold ok_Mo_miss at hok
  refine lv_aload_n hx hb d_Mo_miss_0 rfl (lv_at hl 0 rfl) ?_
  refine lv_iconst (v := 0) hx hb d_Mo_miss_1 (by decide) ?_
  refine pfI C hP hD hS 0 6 fkMo rfl (by decide) rfl qf_Mo_107 rfl rfl rfl (Nat.le_of_ble_eq_true rfl) (ff := fun o => fMo a o) (sMo_6 _ _ _) d_Mo_miss_2 (fun o_1 eo_1 H locs hP hD hS => ?_)
  have hP : va_P g.1 vwCl (wMo g mo a o_1 now dr pa sa iS bu tq rT wT sK sA sB sE oq bS bE bL rp) H := hP
  have hD : va_D (inW (wMo g mo a o now dr pa sa iS bu tq rT wT sK sA sB sE oq bS bE bL rp)) (wMo g mo a o_1 now dr pa sa iS bu tq rT wT sK sA sB sE oq bS bE bL rp) := hD
  have hz := lett_z hz eo_1
  have hok := lett_o hok eo_1
  refine lv_aload_n hx hb d_Mo_miss_5 rfl (lv_at hl 0 rfl) ?_
  refine lv_aload_n hx hb d_Mo_miss_6 rfl (lv_at hl 0 rfl) ?_
  have hs2 := hok.1
  have hok := hok.2
  have hB : SubW g (inW (wMo g mo a o now dr pa sa iS bu tq rT wT sK sA sB sE oq bS bE bL rp)) s (wMo g mo a o_1 now dr pa sa iS bu tq rT wT sK sA sB sE oq bS bE bL rp) _ (List.range _) _ _ := (subF hP hD hS)
  refine goI0 hB (run_v C mf_Mo_idealNow qm_Mo_462 (c_Mo_idealNow l g mo a o_1 now dr pa sa iS bu tq rT wT sK sA sB sE oq bS bE bL rp hs2) rfl rfl ⟨Nat.le_of_ble_eq_true rfl, Nat.le_of_ble_eq_true rfl⟩ ⟨Nat.le_of_ble_eq_true rfl, Nat.le_of_ble_eq_true rfl⟩ hB rfl rfl hl rfl rfl (Nat.le_of_ble_eq_true rfl) d_Mo_miss_7) (fun y3 ey3 H locs hP hS => ?_)
  have hz := lett_z hz ey3
  have hok := lett_o hok ey3
  have hs4 := hok.1
  have hok := hok.2
  have hB : SubW g (inW (wMo g mo a o now dr pa sa iS bu tq rT wT sK sA sB sE oq bS bE bL rp)) s (wMo g mo a o_1 now dr pa sa iS bu tq rT wT sK sA sB sE oq bS bE bL rp) _ (List.range _) _ _ := (subF hP hD hS)
  refine goL0 hB (run_v C mf_Mo_plainNow qm_Mo_179 (c_Mo_plainNow l g mo a o_1 now dr pa sa iS bu tq rT wT sK sA sB sE oq bS bE bL rp y3 hs4) rfl rfl ⟨Nat.le_of_ble_eq_true rfl, Nat.le_of_ble_eq_true rfl⟩ ⟨Nat.le_of_ble_eq_true rfl, Nat.le_of_ble_eq_true rfl⟩ hB rfl rfl hl rfl rfl (Nat.le_of_ble_eq_true rfl) d_Mo_miss_10) (fun y5 ey5 H locs hP hS => ?_)
  have hz := lett_z hz ey5
  have hok := lett_o hok ey5
  have hB : SubW g (inW (wMo g mo a o now dr pa sa iS bu tq rT wT sK sA sB sE oq bS bE bL rp)) s (wMo g mo a o_1 now dr pa sa iS bu tq rT wT sK sA sB sE oq bS bE bL rp) _ (List.range _) _ _ := (subF hP hD hS)
  refine goL0 hB (run_s C mf_Mo_amount qm_Mo_217 (c_Mo_amount l g mo a o_1 now dr pa sa iS bu tq rT wT sK sA sB sE oq bS bE bL rp y5) rfl rfl ⟨Nat.le_of_ble_eq_true rfl, Nat.le_of_ble_eq_true rfl⟩ ⟨Nat.le_of_ble_eq_true rfl, Nat.le_of_ble_eq_true rfl⟩ hB hl rfl rfl (Nat.le_of_ble_eq_true rfl) d_Mo_miss_13) (fun y6 ey6 H locs hP hS => ?_)
  have hz := lett_z hz ey6
  have hok := lett_o hok ey6
  refine lv_aload_n hx hb d_Mo_miss_16 rfl (lv_at hl 0 rfl) ?_
  refine lv_aload_n hx hb d_Mo_miss_17 rfl (lv_at hl 0 rfl) ?_
  refine lv_aload_n hx hb d_Mo_miss_18 rfl (lv_at hl 0 rfl) ?_
  refine gf C hP 0 0 fkMo rfl (by decide) rfl qf_Mo_7 (gMo_0 _ _) d_Mo_miss_19 ?_
  refine lv_bipush (v := 29) hx hb d_Mo_miss_22 (by decide) ?_
  refine ldL C hP 1 rfl vi_29_215 cn_29 d_Mo_miss_24 ?_
  refine lv_aload_n hx hb d_Mo_miss_25 rfl (lv_at hl 0 rfl) ?_
  refine gf C hP 0 0 fkMo rfl (by decide) rfl qf_Mo_7 (gMo_0 _ _) d_Mo_miss_26 ?_
  refine lv_bipush (v := 30) hx hb d_Mo_miss_29 (by decide) ?_
  refine ldL C hP 1 rfl vi_30_215 cn_30 d_Mo_miss_31 ?_
  refine lv_aload_n hx hb d_Mo_miss_32 rfl (lv_at hl 0 rfl) ?_
  refine gf C hP 0 0 fkMo rfl (by decide) rfl qf_Mo_7 (gMo_0 _ _) d_Mo_miss_33 ?_
  refine lv_bipush (v := 32) hx hb d_Mo_miss_36 (by decide) ?_
  refine ldL C hP 1 rfl vi_32_215 cn_32 d_Mo_miss_38 ?_
  have hs7 := hok.1
  have hok := hok.2
  have hB : SubW g (inW (wMo g mo a o now dr pa sa iS bu tq rT wT sK sA sB sE oq bS bE bL rp)) s (wMo g mo a o_1 now dr pa sa iS bu tq rT wT sK sA sB sE oq bS bE bL rp) _ (List.range _) _ _ := (subF hP hD hS)
  refine goI0 hB (run_v C mf_Mo_bestOf qm_Mo_458 (c_Mo_bestOf l g mo a o_1 now dr pa sa iS bu tq rT wT sK sA sB sE oq bS bE bL rp (now 29) (now 30) (now 32) hs7) rfl rfl ⟨Nat.le_of_ble_eq_true rfl, Nat.le_of_ble_eq_true rfl⟩ ⟨Nat.le_of_ble_eq_true rfl, Nat.le_of_ble_eq_true rfl⟩ hB rfl rfl hl rfl rfl (Nat.le_of_ble_eq_true rfl) d_Mo_miss_39) (fun y8 ey8 H locs hP hS => ?_)
  have hz := lett_z hz ey8
  have hok := lett_o hok ey8
  have hs9 := hok.1
  have hok := hok.2
  have hB : SubW g (inW (wMo g mo a o now dr pa sa iS bu tq rT wT sK sA sB sE oq bS bE bL rp)) s (wMo g mo a o_1 now dr pa sa iS bu tq rT wT sK sA sB sE oq bS bE bL rp) _ (List.range _) _ _ := (subF hP hD hS)
  refine goL0 hB (run_v C mf_Mo_plainNow qm_Mo_179 (c_Mo_plainNow l g mo a o_1 now dr pa sa iS bu tq rT wT sK sA sB sE oq bS bE bL rp y8 hs9) rfl rfl ⟨Nat.le_of_ble_eq_true rfl, Nat.le_of_ble_eq_true rfl⟩ ⟨Nat.le_of_ble_eq_true rfl, Nat.le_of_ble_eq_true rfl⟩ hB rfl rfl hl rfl rfl (Nat.le_of_ble_eq_true rfl) d_Mo_miss_42) (fun y10 ey10 H locs hP hS => ?_)
  have hz := lett_z hz ey10
  have hB : SubW g (inW (wMo g mo a o now dr pa sa iS bu tq rT wT sK sA sB sE oq bS bE bL rp)) s (wMo g mo a o_1 now dr pa sa iS bu tq rT wT sK sA sB sE oq bS bE bL rp) _ (List.range _) _ _ := (subF hP hD hS)
  refine goL0 hB (run_s C mf_Mo_amount qm_Mo_217 (c_Mo_amount l g mo a o_1 now dr pa sa iS bu tq rT wT sK sA sB sE oq bS bE bL rp y10) rfl rfl ⟨Nat.le_of_ble_eq_true rfl, Nat.le_of_ble_eq_true rfl⟩ ⟨Nat.le_of_ble_eq_true rfl, Nat.le_of_ble_eq_true rfl⟩ hB hl rfl rfl (Nat.le_of_ble_eq_true rfl) d_Mo_miss_45) (fun y11 ey11 H locs hP hS => ?_)
  have hz := lett_z hz ey11
  refine lv_lsub hx hb d_Mo_miss_48 ?_
  exact endL1 C hz hP hS d_Mo_miss_49
abbrev rm_Mo_better : Room := { frames := 8, cells := 0, slots := 0, locals := 186 }
def HL_Mo_better_22 (p : Program) (l : Launch) (e : Env) (s : State) (m : MethodId) (args : Array Value) (below : List Frame) (meth : Method) (c : Code) (g : GX) (mo : Nat) (a : Nat → Nat) (ws0 : va_W) (o_1 : IV) (now : LV) (dr : LV) (pa : LV) (sa : LV) (iS : IV) (bu : IV) (tq : IV) (rT : IV) (wT : IV) (sK : IV) (sA : IV) (sB : IV) (sE : IV) (oq : IV) (bS : IV) (bE : IV) (bL : IV) (rp : IV) (y6 : Int64) (sp : Int32 → Int32 → (Int32 × IV)) (ok : Int32 → Int32 → Prop) : Prop := ∀ (x3p22 : Int32) (x4p22 : Int32), ok x3p22 x4p22 → ∀ z : (Int32 × IV), z = sp x3p22 x4p22 → ∀ (H : Heap) (locs : List Loc) (ls : Array Slot), va_P g.1 vwCl (wMo g mo a o_1 now dr pa sa iS bu tq rT wT sK sA sB sE oq bS bE bL rp) H → va_D (inW ws0) (wMo g mo a o_1 now dr pa sa iS bu tq rT wT sK sA sB sE oq bS bE bL rp) → va_S (inW ws0) s.heap H locs → lv_has ls 5 [(0, .ref mo), (1, .long y6), (3, .int x3p22), (4, .int x4p22)] → W p l e rm_Mo_better s m args below meth c H locs 0 0 (MQ below (CI g ws0 (fun u : IV => wMo g mo a u now dr pa sa iS bu tq rT wT sK sA sB sE oq bS bE bL rp) z) args s 0 0 (inW ws0)) (F0 m 22 ls [])
def HL_Mo_better_51 (p : Program) (l : Launch) (e : Env) (s : State) (m : MethodId) (args : Array Value) (below : List Frame) (meth : Method) (c : Code) (g : GX) (mo : Nat) (a : Nat → Nat) (ws0 : va_W) (o_1 : IV) (now : LV) (dr : LV) (pa : LV) (sa : LV) (iS : IV) (bu : IV) (tq : IV) (rT : IV) (wT : IV) (sK : IV) (sA : IV) (sB : IV) (sE : IV) (oq : IV) (bS : IV) (bE : IV) (bL : IV) (rp : IV) (y6 : Int64) (x4p22 : Int32) (x3p22 : Int32) (sp : Int32 → (Int32 × IV)) (ok : Int32 → Prop) : Prop := ∀ (t1p51 : Int32), ok t1p51 → ∀ z : (Int32 × IV), z = sp t1p51 → ∀ (H : Heap) (locs : List Loc) (ls : Array Slot), va_P g.1 vwCl (wMo g mo a o_1 now dr pa sa iS bu tq rT wT sK sA sB sE oq bS bE bL rp) H → va_D (inW ws0) (wMo g mo a o_1 now dr pa sa iS bu tq rT wT sK sA sB sE oq bS bE bL rp) → va_S (inW ws0) s.heap H locs → lv_has ls 5 [(0, .ref mo), (1, .long y6), (4, .int x4p22)] → W p l e rm_Mo_better s m args below meth c H locs 0 0 (MQ below (CI g ws0 (fun u : IV => wMo g mo a u now dr pa sa iS bu tq rT wT sK sA sB sE oq bS bE bL rp) z) args s 0 0 (inW ws0)) (F0 m 51 ls [.int t1p51, .int x3p22])
noncomputable def sp_Mo_better_51 (x3p22 : Int32) (x4p22 : Int32) (r22 : Int32 → Int32 → (Int32 × IV)) (t1p51 : Int32) : Int32 × IV := lett (x3p22 + t1p51) fun (v14 : Int32) => lett (x4p22 + (1 : Int32)) fun (v15 : Int32) => r22 v14 v15
def ok_Mo_better_51 (x3p22 : Int32) (x4p22 : Int32) (r22 : Int32 → Int32 → (Int32 × IV)) (q22 : Int32 → Int32 → Prop) (t1p51 : Int32) : Prop := lett (x3p22 + t1p51) fun (v14 : Int32) => lett (x4p22 + (1 : Int32)) fun (v15 : Int32) => q22 v14 v15
set_option maxRecDepth 100000 in
set_option maxHeartbeats 4000000 in
theorem k_Mo_better_51 {p : Program} {l : Launch} {e : Env} {s : State} {m : MethodId} {args : Array Value} {below : List Frame} {meth : Method} {c : Code} {g : GX} {mo : Nat} {a : Nat → Nat} {ws0 : va_W} {o_1 : IV} {now : LV} {dr : LV} {pa : LV} {sa : LV} {iS : IV} {bu : IV} {tq : IV} {rT : IV} {wT : IV} {sK : IV} {sA : IV} {sB : IV} {sE : IV} {oq : IV} {bS : IV} {bE : IV} {bL : IV} {rp : IV} {y6 : Int64} {x4p22 : Int32} {x3p22 : Int32} {r22 : Int32 → Int32 → (Int32 × IV)} {q22 : Int32 → Int32 → Prop} (C : Cx p s m args meth c (inW ws0) g "DecadeBridgeModel" b_Mo_better (some .int) 5) (ih22 : HL_Mo_better_22 p l e s m args below meth c g mo a ws0 o_1 now dr pa sa iS bu tq rT wT sK sA sB sE oq bS bE bL rp y6 r22 q22) : HL_Mo_better_51 p l e s m args below meth c g mo a ws0 o_1 now dr pa sa iS bu tq rT wT sK sA sB sE oq bS bE bL rp y6 x4p22 x3p22 (sp_Mo_better_51 x3p22 x4p22 r22) (ok_Mo_better_51 x3p22 x4p22 r22 q22) := by
  intro t1p51 hok z hz H locs ls hP hD hS hl
  obtain ⟨hx, hb, hr, hml, hown, hlk, hts, hK, hZo, hZ⟩ := id C
  unfold sp_Mo_better_51 at hz
  unfold ok_Mo_better_51 at hok
  refine lv_iadd hx hb d_Mo_better_51 ?_
  refine lv_topi (fun v14 ev14 => ?_)
  have hz := lett_z hz ev14
  have hok := lett_o hok ev14
  refine lv_istore_n (lv' := [(3, .int v14), (0, .ref mo), (1, .long y6), (4, .int x4p22)]) hx hb d_Mo_better_52 rfl hl (by decide) rfl (fun ls hl => ?_)
  obtain ⟨v15, ev15⟩ : ∃ y : Int32, y = x4p22 + (1 : Int32) := ⟨_, rfl⟩
  have hz := lett_z hz ev15
  have hok := lett_o hok ev15
  refine lv_iinc (v := v15) (lv' := [(4, .int v15), (3, .int v14), (0, .ref mo), (1, .long y6)]) hx hb d_Mo_better_53 hl (k := 3) rfl (by rw [ev15]; rfl) (by decide) rfl (fun ls hl => ?_)
  refine lv_goto (tgt := 22) hx hb d_Mo_better_56 (by decide) ?_
  exact ih22 v14 v15 hok _ hz _ _ ls hP hD hS (lv_sub hl [2, 3, 1, 0] rfl)
noncomputable def bd_Mo_better_22 (now : LV) (o_1 : IV) (y6 : Int64) (r22 : Int32 → Int32 → (Int32 × IV)) (x3p22 : Int32) (x4p22 : Int32) : Int32 × IV := lett (sp_Mo_settings now) fun (y8 : Int32) => if y8 ≤ x4p22 then ((x3p22, o_1)) else (lett (sp_Mo_plainNow x4p22 now) fun (y11 : Int64) => lett (sp_Mo_amount y11) fun (y12 : Int64) => if y6 ≤ y12 then (sp_Mo_better_51 x3p22 x4p22 r22 (0 : Int32)) else (sp_Mo_better_51 x3p22 x4p22 r22 (1 : Int32)))
def okb_Mo_better_22 (now : LV) (o_1 : IV) (y6 : Int64) (r22 : Int32 → Int32 → (Int32 × IV)) (q22 : Int32 → Int32 → Prop) (x3p22 : Int32) (x4p22 : Int32) : Prop := (ok_Mo_settings now) ∧ lett (sp_Mo_settings now) fun (y8 : Int32) => ((y8 ≤ x4p22 → True) ∧ (¬ (y8 ≤ x4p22) → (ok_Mo_plainNow x4p22 now) ∧ lett (sp_Mo_plainNow x4p22 now) fun (y11 : Int64) => lett (sp_Mo_amount y11) fun (y12 : Int64) => ((y6 ≤ y12 → ok_Mo_better_51 x3p22 x4p22 r22 q22 (0 : Int32)) ∧ (¬ (y6 ≤ y12) → ok_Mo_better_51 x3p22 x4p22 r22 q22 (1 : Int32)))))
noncomputable def sp_Mo_better_22 (now : LV) (o_1 : IV) (y6 : Int64)  : Nat → Int32 → Int32 → (Int32 × IV)
  | 0 => fun _ _ => default
  | f + 1 => bd_Mo_better_22 now o_1 y6  (sp_Mo_better_22 now o_1 y6  f)
def ok_Mo_better_22 (now : LV) (o_1 : IV) (y6 : Int64)   : Nat → Int32 → Int32 → Prop
  | 0 => fun _ _ => False
  | f + 1 => okb_Mo_better_22 now o_1 y6  (sp_Mo_better_22 now o_1 y6  f)  (ok_Mo_better_22 now o_1 y6   f)
set_option maxRecDepth 100000 in
set_option maxHeartbeats 4000000 in
theorem kb_Mo_better_22 {p : Program} {l : Launch} {e : Env} {s : State} {m : MethodId} {args : Array Value} {below : List Frame} {meth : Method} {c : Code} {g : GX} {mo : Nat} {a : Nat → Nat} {ws0 : va_W} {o_1 : IV} {now : LV} {dr : LV} {pa : LV} {sa : LV} {iS : IV} {bu : IV} {tq : IV} {rT : IV} {wT : IV} {sK : IV} {sA : IV} {sB : IV} {sE : IV} {oq : IV} {bS : IV} {bE : IV} {bL : IV} {rp : IV} {y6 : Int64}  (C : Cx p s m args meth c (inW ws0) g "DecadeBridgeModel" b_Mo_better (some .int) 5) {r22 : Int32 → Int32 → (Int32 × IV)} {q22 : Int32 → Int32 → Prop}  (ih22 : HL_Mo_better_22 p l e s m args below meth c g mo a ws0 o_1 now dr pa sa iS bu tq rT wT sK sA sB sE oq bS bE bL rp y6 r22 q22) : HL_Mo_better_22 p l e s m args below meth c g mo a ws0 o_1 now dr pa sa iS bu tq rT wT sK sA sB sE oq bS bE bL rp y6 (bd_Mo_better_22 now o_1 y6  r22) (okb_Mo_better_22 now o_1 y6  r22  q22) := by
  intro x3p22 x4p22 hok z hz H locs ls hP hD hS hl
  obtain ⟨hx, hb, hr, hml, hown, hlk, hts, hK, hZo, hZ⟩ := id C
  unfold bd_Mo_better_22 at hz
  unfold okb_Mo_better_22 at hok
  refine lv_iload hx hb d_Mo_better_22 (lv_at hl 3 rfl) ?_
  refine lv_aload_n hx hb d_Mo_better_24 rfl (lv_at hl 0 rfl) ?_
  have hs7 := hok.1
  have hok := hok.2
  have hB : SubW g (inW ws0) s (wMo g mo a o_1 now dr pa sa iS bu tq rT wT sK sA sB sE oq bS bE bL rp) _ (List.range _) _ _ := (subF hP hD hS)
  refine goI0 hB (run_v C mf_Mo_settings qm_Mo_256 (c_Mo_settings l g mo a o_1 now dr pa sa iS bu tq rT wT sK sA sB sE oq bS bE bL rp hs7) rfl rfl ⟨Nat.le_of_ble_eq_true rfl, Nat.le_of_ble_eq_true rfl⟩ ⟨Nat.le_of_ble_eq_true rfl, Nat.le_of_ble_eq_true rfl⟩ hB rfl rfl hl rfl rfl (Nat.le_of_ble_eq_true rfl) d_Mo_better_25) (fun y8 ey8 H locs hP hS => ?_)
  have hz := lett_z hz ey8
  have hok := lett_o hok ey8
  refine lv_icmp_ge (tgt := 59) hx hb d_Mo_better_28 (by decide) (fun c9 => ?_) (fun c9 => ?_)
  · have hz := hz.trans (if_pos c9)
    refine lv_iload_n hx hb d_Mo_better_59 rfl (lv_at hl 2 rfl) ?_
    exact endI1 C hz hP hS d_Mo_better_60
  · have hz := hz.trans (if_neg c9)
    have hok := hok.2 c9
    refine lv_iload_n hx hb d_Mo_better_31 rfl (lv_at hl 2 rfl) ?_
    refine lv_aload_n hx hb d_Mo_better_32 rfl (lv_at hl 0 rfl) ?_
    refine lv_iload hx hb d_Mo_better_33 (lv_at hl 3 rfl) ?_
    have hs10 := hok.1
    have hok := hok.2
    have hB : SubW g (inW ws0) s (wMo g mo a o_1 now dr pa sa iS bu tq rT wT sK sA sB sE oq bS bE bL rp) _ (List.range _) _ _ := (subF hP hD hS)
    refine goL0 hB (run_v C mf_Mo_plainNow qm_Mo_179 (c_Mo_plainNow l g mo a o_1 now dr pa sa iS bu tq rT wT sK sA sB sE oq bS bE bL rp x4p22 hs10) rfl rfl ⟨Nat.le_of_ble_eq_true rfl, Nat.le_of_ble_eq_true rfl⟩ ⟨Nat.le_of_ble_eq_true rfl, Nat.le_of_ble_eq_true rfl⟩ hB rfl rfl hl rfl rfl (Nat.le_of_ble_eq_true rfl) d_Mo_better_35) (fun y11 ey11 H locs hP hS => ?_)
    have hz := lett_z hz ey11
    have hok := lett_o hok ey11
    have hB : SubW g (inW ws0) s (wMo g mo a o_1 now dr pa sa iS bu tq rT wT sK sA sB sE oq bS bE bL rp) _ (List.range _) _ _ := (subF hP hD hS)
    refine goL0 hB (run_s C mf_Mo_amount qm_Mo_217 (c_Mo_amount l g mo a o_1 now dr pa sa iS bu tq rT wT sK sA sB sE oq bS bE bL rp y11) rfl rfl ⟨Nat.le_of_ble_eq_true rfl, Nat.le_of_ble_eq_true rfl⟩ ⟨Nat.le_of_ble_eq_true rfl, Nat.le_of_ble_eq_true rfl⟩ hB hl rfl rfl (Nat.le_of_ble_eq_true rfl) d_Mo_better_38) (fun y12 ey12 H locs hP hS => ?_)
    have hz := lett_z hz ey12
    have hok := lett_o hok ey12
    refine lv_lload_n hx hb d_Mo_better_41 rfl (lv_at hl 1 rfl) ?_
    refine lc_ge (tgt := 50) hx hb d_Mo_better_42 d_Mo_better_43 (by decide) (fun c13 => ?_) (fun c13 => ?_)
    · have hz := hz.trans (if_pos c13)
      have hok := hok.1 c13
      refine lv_iconst (v := 0) hx hb d_Mo_better_50 (by decide) ?_
      exact k_Mo_better_51 C ih22 (0 : Int32) hok _ hz _ _ ls hP hD hS (lv_sub hl [0, 1, 3] rfl)
    · have hz := hz.trans (if_neg c13)
      have hok := hok.2 c13
      refine lv_iconst (v := 1) hx hb d_Mo_better_46 (by decide) ?_
      refine lv_goto (tgt := 51) hx hb d_Mo_better_47 (by decide) ?_
      exact k_Mo_better_51 C ih22 (1 : Int32) hok _ hz _ _ ls hP hD hS (lv_sub hl [0, 1, 3] rfl)
theorem k_Mo_better_22 {p : Program} {l : Launch} {e : Env} {s : State} {m : MethodId} {args : Array Value} {below : List Frame} {meth : Method} {c : Code} {g : GX} {mo : Nat} {a : Nat → Nat} {ws0 : va_W} {o_1 : IV} {now : LV} {dr : LV} {pa : LV} {sa : LV} {iS : IV} {bu : IV} {tq : IV} {rT : IV} {wT : IV} {sK : IV} {sA : IV} {sB : IV} {sE : IV} {oq : IV} {bS : IV} {bE : IV} {bL : IV} {rp : IV} {y6 : Int64}  (C : Cx p s m args meth c (inW ws0) g "DecadeBridgeModel" b_Mo_better (some .int) 5) (f : Nat)  : HL_Mo_better_22 p l e s m args below meth c g mo a ws0 o_1 now dr pa sa iS bu tq rT wT sK sA sB sE oq bS bE bL rp y6 (sp_Mo_better_22 now o_1 y6  f) (ok_Mo_better_22 now o_1 y6   f) := by
  induction f with
  | zero => intro x3p22 x4p22 hok; exact False.elim hok
  | succ f ih => exact kb_Mo_better_22 C  ih
noncomputable def sp_Mo_better (o : IV) (now : LV) : Int32 × IV := lett (upd o 6 (0 : Int32)) fun (o_1 : IV) => lett (sp_Mo_setting now) fun (y3 : Int32) => lett (sp_Mo_plainNow y3 now) fun (y5 : Int64) => lett (sp_Mo_amount y5) fun (y6 : Int64) => sp_Mo_better_22 now o_1 y6 big (0 : Int32) (0 : Int32)
def ok_Mo_better (o : IV) (now : LV) : Prop := lett (upd o 6 (0 : Int32)) fun (o_1 : IV) => (ok_Mo_setting now) ∧ lett (sp_Mo_setting now) fun (y3 : Int32) => (ok_Mo_plainNow y3 now) ∧ lett (sp_Mo_plainNow y3 now) fun (y5 : Int64) => lett (sp_Mo_amount y5) fun (y6 : Int64) => ok_Mo_better_22 now o_1 y6 big (0 : Int32) (0 : Int32)
set_option maxRecDepth 100000 in
set_option maxHeartbeats 4000000 in
theorem c_Mo_better (l : Launch) (g : GX) (mo : Nat) (a : Nat → Nat) (o : IV) (now : LV) (dr : LV) (pa : LV) (sa : LV) (iS : IV) (bu : IV) (tq : IV) (rT : IV) (wT : IV) (sK : IV) (sA : IV) (sB : IV) (sE : IV) (oq : IV) (bS : IV) (bE : IV) (bL : IV) (rp : IV)  (hok : ok_Mo_better o now) : Met l y_Mo_better (wsY y_Mo_better b_Mo_better 5 (some .int)) rm_Mo_better (CP g [.ref mo] (wMo g mo a o now dr pa sa iS bu tq rT wT sK sA sB sE oq bS bE bL rp)) (CI g (wMo g mo a o now dr pa sa iS bu tq rT wT sK sA sB sE oq bS bE bL rp) (fun u : IV => wMo g mo a u now dr pa sa iS bu tq rT wT sK sA sB sE oq bS bE bL rp) (sp_Mo_better o now)) 0 0 (inW (wMo g mo a o now dr pa sa iS bu tq rT wT sK sA sB sE oq bS bE bL rp)) := by
  refine Met.ofW (cc := b_Mo_better) (maxL := 5) (ret := (some .int)) pn_Mo rfl ?_
  intro p e s m args below meth c s₁ B hml hv
  obtain ⟨rfl, C, hP, hD, hS⟩ := enter "DecadeBridgeModel" rfl B hml hv
  obtain ⟨hx, hb, hr, hml, hown, hlk, hts, hK, hZo, hZ⟩ := id C
  refine entryW (lv := [(0, .ref mo)]) rfl (Nat.le_of_ble_eq_true rfl) (fun ls hl => ?_)
  obtain ⟨z, hz⟩ : ∃ z, z = sp_Mo_better o now := ⟨_, rfl⟩
  rw [← hz]
  unfold sp_Mo_better at hz
  unfold ok_Mo_better at hok
  refine lv_aload_n hx hb d_Mo_better_0 rfl (lv_at hl 0 rfl) ?_
  refine lv_iconst (v := 0) hx hb d_Mo_better_1 (by decide) ?_
  refine pfI C hP hD hS 0 6 fkMo rfl (by decide) rfl qf_Mo_107 rfl rfl rfl (Nat.le_of_ble_eq_true rfl) (ff := fun o => fMo a o) (sMo_6 _ _ _) d_Mo_better_2 (fun o_1 eo_1 H locs hP hD hS => ?_)
  have hP : va_P g.1 vwCl (wMo g mo a o_1 now dr pa sa iS bu tq rT wT sK sA sB sE oq bS bE bL rp) H := hP
  have hD : va_D (inW (wMo g mo a o now dr pa sa iS bu tq rT wT sK sA sB sE oq bS bE bL rp)) (wMo g mo a o_1 now dr pa sa iS bu tq rT wT sK sA sB sE oq bS bE bL rp) := hD
  have hz := lett_z hz eo_1
  have hok := lett_o hok eo_1
  refine lv_aload_n hx hb d_Mo_better_5 rfl (lv_at hl 0 rfl) ?_
  refine lv_aload_n hx hb d_Mo_better_6 rfl (lv_at hl 0 rfl) ?_
  have hs2 := hok.1
  have hok := hok.2
  have hB : SubW g (inW (wMo g mo a o now dr pa sa iS bu tq rT wT sK sA sB sE oq bS bE bL rp)) s (wMo g mo a o_1 now dr pa sa iS bu tq rT wT sK sA sB sE oq bS bE bL rp) _ (List.range _) _ _ := (subF hP hD hS)
  refine goI0 hB (run_v C mf_Mo_setting qm_Mo_176 (c_Mo_setting l g mo a o_1 now dr pa sa iS bu tq rT wT sK sA sB sE oq bS bE bL rp hs2) rfl rfl ⟨Nat.le_of_ble_eq_true rfl, Nat.le_of_ble_eq_true rfl⟩ ⟨Nat.le_of_ble_eq_true rfl, Nat.le_of_ble_eq_true rfl⟩ hB rfl rfl hl rfl rfl (Nat.le_of_ble_eq_true rfl) d_Mo_better_7) (fun y3 ey3 H locs hP hS => ?_)
  have hz := lett_z hz ey3
  have hok := lett_o hok ey3
  have hs4 := hok.1
  have hok := hok.2
  have hB : SubW g (inW (wMo g mo a o now dr pa sa iS bu tq rT wT sK sA sB sE oq bS bE bL rp)) s (wMo g mo a o_1 now dr pa sa iS bu tq rT wT sK sA sB sE oq bS bE bL rp) _ (List.range _) _ _ := (subF hP hD hS)
  refine goL0 hB (run_v C mf_Mo_plainNow qm_Mo_179 (c_Mo_plainNow l g mo a o_1 now dr pa sa iS bu tq rT wT sK sA sB sE oq bS bE bL rp y3 hs4) rfl rfl ⟨Nat.le_of_ble_eq_true rfl, Nat.le_of_ble_eq_true rfl⟩ ⟨Nat.le_of_ble_eq_true rfl, Nat.le_of_ble_eq_true rfl⟩ hB rfl rfl hl rfl rfl (Nat.le_of_ble_eq_true rfl) d_Mo_better_10) (fun y5 ey5 H locs hP hS => ?_)
  have hz := lett_z hz ey5
  have hok := lett_o hok ey5
  have hB : SubW g (inW (wMo g mo a o now dr pa sa iS bu tq rT wT sK sA sB sE oq bS bE bL rp)) s (wMo g mo a o_1 now dr pa sa iS bu tq rT wT sK sA sB sE oq bS bE bL rp) _ (List.range _) _ _ := (subF hP hD hS)
  refine goL0 hB (run_s C mf_Mo_amount qm_Mo_217 (c_Mo_amount l g mo a o_1 now dr pa sa iS bu tq rT wT sK sA sB sE oq bS bE bL rp y5) rfl rfl ⟨Nat.le_of_ble_eq_true rfl, Nat.le_of_ble_eq_true rfl⟩ ⟨Nat.le_of_ble_eq_true rfl, Nat.le_of_ble_eq_true rfl⟩ hB hl rfl rfl (Nat.le_of_ble_eq_true rfl) d_Mo_better_13) (fun y6 ey6 H locs hP hS => ?_)
  have hz := lett_z hz ey6
  have hok := lett_o hok ey6
  refine lv_lstore_n (lv' := [(1, .long y6), (0, .ref mo)]) hx hb d_Mo_better_16 rfl hl (by decide) rfl (fun ls hl => ?_)
  refine lv_iconst (v := 0) hx hb d_Mo_better_17 (by decide) ?_
  refine lv_istore_n (lv' := [(3, .int (0 : Int32)), (1, .long y6), (0, .ref mo)]) hx hb d_Mo_better_18 rfl hl (by decide) rfl (fun ls hl => ?_)
  refine lv_iconst (v := 0) hx hb d_Mo_better_19 (by decide) ?_
  refine lv_istore (lv' := [(4, .int (0 : Int32)), (3, .int (0 : Int32)), (1, .long y6), (0, .ref mo)]) hx hb d_Mo_better_20 hl (by decide) rfl (fun ls hl => ?_)
  exact k_Mo_better_22 C big (0 : Int32) (0 : Int32) hok _ hz _ _ ls hP hD hS (lv_sub hl [3, 2, 1, 0] rfl)
abbrev rm_Mo_bestWith : Room := { frames := 8, cells := 0, slots := 0, locals := 197 }
def HL_Mo_bestWith_21 (p : Program) (l : Launch) (e : Env) (s : State) (m : MethodId) (args : Array Value) (below : List Frame) (meth : Method) (c : Code) (g : GX) (mo : Nat) (a : Nat → Nat) (ws0 : va_W) (o : IV) (now : LV) (dr : LV) (pa : LV) (sa : LV) (iS : IV) (bu : IV) (tq : IV) (rT : IV) (wT : IV) (sK : IV) (sA : IV) (sB : IV) (sE : IV) (oq : IV) (bS : IV) (bE : IV) (bL : IV) (rp : IV) (p1 : Int32) (p2 : Int32) (sp : (Int32 × IV)) (ok : Prop) : Prop := ∀ (_ : Unit), ok → ∀ z : (Int32 × IV), z = sp → ∀ (H : Heap) (locs : List Loc) (ls : Array Slot), va_P g.1 vwCl (wMo g mo a o now dr pa sa iS bu tq rT wT sK sA sB sE oq bS bE bL rp) H → va_D (inW ws0) (wMo g mo a o now dr pa sa iS bu tq rT wT sK sA sB sE oq bS bE bL rp) → va_S (inW ws0) s.heap H locs → lv_has ls 3 [(0, .ref mo), (1, .int p1), (2, .int p2)] → W p l e rm_Mo_bestWith s m args below meth c H locs 0 0 (MQ below (CI g ws0 (fun u : IV => wMo g mo a u now dr pa sa iS bu tq rT wT sK sA sB sE oq bS bE bL rp) z) args s 0 0 (inW ws0)) (F0 m 21 ls [.ref mo])
def HL_Mo_bestWith_22 (p : Program) (l : Launch) (e : Env) (s : State) (m : MethodId) (args : Array Value) (below : List Frame) (meth : Method) (c : Code) (g : GX) (mo : Nat) (a : Nat → Nat) (ws0 : va_W) (o : IV) (now : LV) (dr : LV) (pa : LV) (sa : LV) (iS : IV) (bu : IV) (tq : IV) (rT : IV) (wT : IV) (sK : IV) (sA : IV) (sB : IV) (sE : IV) (oq : IV) (bS : IV) (bE : IV) (bL : IV) (rp : IV) (p1 : Int32) (p2 : Int32) (sp : Int32 → (Int32 × IV)) (ok : Int32 → Prop) : Prop := ∀ (t1p22 : Int32), ok t1p22 → ∀ z : (Int32 × IV), z = sp t1p22 → ∀ (H : Heap) (locs : List Loc) (ls : Array Slot), va_P g.1 vwCl (wMo g mo a o now dr pa sa iS bu tq rT wT sK sA sB sE oq bS bE bL rp) H → va_D (inW ws0) (wMo g mo a o now dr pa sa iS bu tq rT wT sK sA sB sE oq bS bE bL rp) → va_S (inW ws0) s.heap H locs → lv_has ls 3 [(0, .ref mo), (1, .int p1), (2, .int p2)] → W p l e rm_Mo_bestWith s m args below meth c H locs 0 0 (MQ below (CI g ws0 (fun u : IV => wMo g mo a u now dr pa sa iS bu tq rT wT sK sA sB sE oq bS bE bL rp) z) args s 0 0 (inW ws0)) (F0 m 22 ls [.int t1p22, .ref mo])
noncomputable def sp_Mo_bestWith_22 (o : IV) (p1 : Int32) (p2 : Int32) (now : LV)  (t1p22 : Int32) : Int32 × IV := lett (upd o 6 t1p22) fun (o_7 : IV) => if (o_7 6) ≤ 0 then (lett (sp_Mo_bestOf p1.toInt64 p2.toInt64 (now 32) now) fun (y10 : Int32) => (y10, o_7)) else (((0 : Int32), o_7))
def ok_Mo_bestWith_22 (o : IV) (p1 : Int32) (p2 : Int32) (now : LV)   (t1p22 : Int32) : Prop := lett (upd o 6 t1p22) fun (o_7 : IV) => (((o_7 6) ≤ 0 → (ok_Mo_bestOf p1.toInt64 p2.toInt64 (now 32) now) ∧ True) ∧ (¬ ((o_7 6) ≤ 0) → True))
set_option maxRecDepth 100000 in
set_option maxHeartbeats 4000000 in
theorem k_Mo_bestWith_22 {p : Program} {l : Launch} {e : Env} {s : State} {m : MethodId} {args : Array Value} {below : List Frame} {meth : Method} {c : Code} {g : GX} {mo : Nat} {a : Nat → Nat} {ws0 : va_W} {o : IV} {now : LV} {dr : LV} {pa : LV} {sa : LV} {iS : IV} {bu : IV} {tq : IV} {rT : IV} {wT : IV} {sK : IV} {sA : IV} {sB : IV} {sE : IV} {oq : IV} {bS : IV} {bE : IV} {bL : IV} {rp : IV} {p1 : Int32} {p2 : Int32}  (C : Cx p s m args meth c (inW ws0) g "DecadeBridgeModel" b_Mo_bestWith (some .int) 3)  : HL_Mo_bestWith_22 p l e s m args below meth c g mo a ws0 o now dr pa sa iS bu tq rT wT sK sA sB sE oq bS bE bL rp p1 p2 (sp_Mo_bestWith_22 o p1 p2 now ) (ok_Mo_bestWith_22 o p1 p2 now  ) := by
  intro t1p22 hok z hz H locs ls hP hD hS hl
  obtain ⟨hx, hb, hr, hml, hown, hlk, hts, hK, hZo, hZ⟩ := id C
  unfold sp_Mo_bestWith_22 at hz
  unfold ok_Mo_bestWith_22 at hok
  refine pfI C hP hD hS 0 6 fkMo rfl (by decide) rfl qf_Mo_107 rfl rfl rfl (Nat.le_of_ble_eq_true rfl) (ff := fun o => fMo a o) (sMo_6 _ _ _) d_Mo_bestWith_22 (fun o_7 eo_7 H locs hP hD hS => ?_)
  have hP : va_P g.1 vwCl (wMo g mo a o_7 now dr pa sa iS bu tq rT wT sK sA sB sE oq bS bE bL rp) H := hP
  have hD : va_D (inW ws0) (wMo g mo a o_7 now dr pa sa iS bu tq rT wT sK sA sB sE oq bS bE bL rp) := hD
  have hz := lett_z hz eo_7
  have hok := lett_o hok eo_7
  refine lv_aload_n hx hb d_Mo_bestWith_25 rfl (lv_at hl 0 rfl) ?_
  refine gf C hP 0 6 fkMo rfl (by decide) rfl qf_Mo_107 (gMo_6 _ _) d_Mo_bestWith_26 ?_
  refine lv_if_le (tgt := 36) hx hb d_Mo_bestWith_29 (by decide) (fun c8 => ?_) (fun c8 => ?_)
  · have hz := hz.trans (if_pos c8)
    have hok := hok.1 c8
    refine lv_aload_n hx hb d_Mo_bestWith_36 rfl (lv_at hl 0 rfl) ?_
    refine lv_iload_n hx hb d_Mo_bestWith_37 rfl (lv_at hl 1 rfl) ?_
    refine lv_i2l hx hb d_Mo_bestWith_38 rfl ?_
    refine lv_iload_n hx hb d_Mo_bestWith_39 rfl (lv_at hl 2 rfl) ?_
    refine lv_i2l hx hb d_Mo_bestWith_40 rfl ?_
    refine lv_aload_n hx hb d_Mo_bestWith_41 rfl (lv_at hl 0 rfl) ?_
    refine gf C hP 0 0 fkMo rfl (by decide) rfl qf_Mo_7 (gMo_0 _ _) d_Mo_bestWith_42 ?_
    refine lv_bipush (v := 32) hx hb d_Mo_bestWith_45 (by decide) ?_
    refine ldL C hP 1 rfl vi_32_215 cn_32 d_Mo_bestWith_47 ?_
    have hs9 := hok.1
    have hok := hok.2
    have hB : SubW g (inW ws0) s (wMo g mo a o_7 now dr pa sa iS bu tq rT wT sK sA sB sE oq bS bE bL rp) _ (List.range _) _ _ := (subF hP hD hS)
    refine goI0 hB (run_v C mf_Mo_bestOf qm_Mo_458 (c_Mo_bestOf l g mo a o_7 now dr pa sa iS bu tq rT wT sK sA sB sE oq bS bE bL rp p1.toInt64 p2.toInt64 (now 32) hs9) rfl rfl ⟨Nat.le_of_ble_eq_true rfl, Nat.le_of_ble_eq_true rfl⟩ ⟨Nat.le_of_ble_eq_true rfl, Nat.le_of_ble_eq_true rfl⟩ hB rfl rfl hl rfl rfl (Nat.le_of_ble_eq_true rfl) d_Mo_bestWith_48) (fun y10 ey10 H locs hP hS => ?_)
    have hz := lett_z hz ey10
    exact endI1 C hz hP hS d_Mo_bestWith_51
  · have hz := hz.trans (if_neg c8)
    refine lv_iconst (v := 0) hx hb d_Mo_bestWith_32 (by decide) ?_
    refine lv_goto (tgt := 51) hx hb d_Mo_bestWith_33 (by decide) ?_
    exact endI1 C hz hP hS d_Mo_bestWith_51
noncomputable def sp_Mo_bestWith_21 (o : IV) (p1 : Int32) (p2 : Int32) (now : LV)   : Int32 × IV := sp_Mo_bestWith_22 o p1 p2 now (1 : Int32)
def ok_Mo_bestWith_21 (o : IV) (p1 : Int32) (p2 : Int32) (now : LV)    : Prop := ok_Mo_bestWith_22 o p1 p2 now (1 : Int32)
set_option maxRecDepth 100000 in
set_option maxHeartbeats 4000000 in
theorem k_Mo_bestWith_21 {p : Program} {l : Launch} {e : Env} {s : State} {m : MethodId} {args : Array Value} {below : List Frame} {meth : Method} {c : Code} {g : GX} {mo : Nat} {a : Nat → Nat} {ws0 : va_W} {o : IV} {now : LV} {dr : LV} {pa : LV} {sa : LV} {iS : IV} {bu : IV} {tq : IV} {rT : IV} {wT : IV} {sK : IV} {sA : IV} {sB : IV} {sE : IV} {oq : IV} {bS : IV} {bE : IV} {bL : IV} {rp : IV} {p1 : Int32} {p2 : Int32}  (C : Cx p s m args meth c (inW ws0) g "DecadeBridgeModel" b_Mo_bestWith (some .int) 3)  : HL_Mo_bestWith_21 p l e s m args below meth c g mo a ws0 o now dr pa sa iS bu tq rT wT sK sA sB sE oq bS bE bL rp p1 p2 (sp_Mo_bestWith_21 o p1 p2 now ) (ok_Mo_bestWith_21 o p1 p2 now  ) := by
  intro _ hok z hz H locs ls hP hD hS hl
  obtain ⟨hx, hb, hr, hml, hown, hlk, hts, hK, hZo, hZ⟩ := id C
  unfold sp_Mo_bestWith_21 at hz
  unfold ok_Mo_bestWith_21 at hok
  refine lv_iconst (v := 1) hx hb d_Mo_bestWith_21 (by decide) ?_
  exact k_Mo_bestWith_22 C (1 : Int32) hok _ hz _ _ ls hP hD hS hl
noncomputable def sp_Mo_bestWith (p1 : Int32) (p2 : Int32) (o : IV) (now : LV) : Int32 × IV := lett (sp_Mo_isKind p1.toInt64) fun (y2 : Int32) => if y2 = 0 then (sp_Mo_bestWith_21 o p1 p2 now) else (lett (sp_Mo_isKind p2.toInt64) fun (y5 : Int32) => if y5 = 0 then (sp_Mo_bestWith_21 o p1 p2 now) else (sp_Mo_bestWith_22 o p1 p2 now (0 : Int32)))
def ok_Mo_bestWith (p1 : Int32) (p2 : Int32) (o : IV) (now : LV) : Prop := (ok_Mo_isKind p1.toInt64) ∧ lett (sp_Mo_isKind p1.toInt64) fun (y2 : Int32) => ((y2 = 0 → ok_Mo_bestWith_21 o p1 p2 now) ∧ (¬ (y2 = 0) → (ok_Mo_isKind p2.toInt64) ∧ lett (sp_Mo_isKind p2.toInt64) fun (y5 : Int32) => ((y5 = 0 → ok_Mo_bestWith_21 o p1 p2 now) ∧ (¬ (y5 = 0) → ok_Mo_bestWith_22 o p1 p2 now (0 : Int32)))))
set_option maxRecDepth 100000 in
set_option maxHeartbeats 4000000 in
theorem c_Mo_bestWith (l : Launch) (g : GX) (mo : Nat) (a : Nat → Nat) (o : IV) (now : LV) (dr : LV) (pa : LV) (sa : LV) (iS : IV) (bu : IV) (tq : IV) (rT : IV) (wT : IV) (sK : IV) (sA : IV) (sB : IV) (sE : IV) (oq : IV) (bS : IV) (bE : IV) (bL : IV) (rp : IV) (p1 : Int32) (p2 : Int32) (hok : ok_Mo_bestWith p1 p2 o now) : Met l y_Mo_bestWith (wsY y_Mo_bestWith b_Mo_bestWith 3 (some .int)) rm_Mo_bestWith (CP g [.ref mo, .int p1, .int p2] (wMo g mo a o now dr pa sa iS bu tq rT wT sK sA sB sE oq bS bE bL rp)) (CI g (wMo g mo a o now dr pa sa iS bu tq rT wT sK sA sB sE oq bS bE bL rp) (fun u : IV => wMo g mo a u now dr pa sa iS bu tq rT wT sK sA sB sE oq bS bE bL rp) (sp_Mo_bestWith p1 p2 o now)) 0 0 (inW (wMo g mo a o now dr pa sa iS bu tq rT wT sK sA sB sE oq bS bE bL rp)) := by
  refine Met.ofW (cc := b_Mo_bestWith) (maxL := 3) (ret := (some .int)) pn_Mo rfl ?_
  intro p e s m args below meth c s₁ B hml hv
  obtain ⟨rfl, C, hP, hD, hS⟩ := enter "DecadeBridgeModel" rfl B hml hv
  obtain ⟨hx, hb, hr, hml, hown, hlk, hts, hK, hZo, hZ⟩ := id C
  refine entryW (lv := [(0, .ref mo), (1, .int p1), (2, .int p2)]) rfl (Nat.le_of_ble_eq_true rfl) (fun ls hl => ?_)
  obtain ⟨z, hz⟩ : ∃ z, z = sp_Mo_bestWith p1 p2 o now := ⟨_, rfl⟩
  rw [← hz]
  unfold sp_Mo_bestWith at hz
  unfold ok_Mo_bestWith at hok
  refine lv_aload_n hx hb d_Mo_bestWith_0 rfl (lv_at hl 0 rfl) ?_
  refine lv_iload_n hx hb d_Mo_bestWith_1 rfl (lv_at hl 1 rfl) ?_
  refine lv_i2l hx hb d_Mo_bestWith_2 rfl ?_
  have hs1 := hok.1
  have hok := hok.2
  have hB : SubW g (inW (wMo g mo a o now dr pa sa iS bu tq rT wT sK sA sB sE oq bS bE bL rp)) s (wMo g mo a o now dr pa sa iS bu tq rT wT sK sA sB sE oq bS bE bL rp) _ (List.range _) _ _ := (subF hP hD hS)
  refine goI0 hB (run_s C mf_Mo_isKind qm_Mo_423 (c_Mo_isKind l g mo a o now dr pa sa iS bu tq rT wT sK sA sB sE oq bS bE bL rp p1.toInt64 hs1) rfl rfl ⟨Nat.le_of_ble_eq_true rfl, Nat.le_of_ble_eq_true rfl⟩ ⟨Nat.le_of_ble_eq_true rfl, Nat.le_of_ble_eq_true rfl⟩ hB hl rfl rfl (Nat.le_of_ble_eq_true rfl) d_Mo_bestWith_3) (fun y2 ey2 H locs hP hS => ?_)
  have hz := lett_z hz ey2
  have hok := lett_o hok ey2
  refine lv_if_eq (tgt := 21) hx hb d_Mo_bestWith_6 (by decide) (fun c3 => ?_) (fun c3 => ?_)
  · have hz := hz.trans (if_pos c3)
    have hok := hok.1 c3
    exact k_Mo_bestWith_21 C () hok _ hz _ _ ls hP hD hS hl
  · have hz := hz.trans (if_neg c3)
    have hok := hok.2 c3
    refine lv_iload_n hx hb d_Mo_bestWith_9 rfl (lv_at hl 2 rfl) ?_
    refine lv_i2l hx hb d_Mo_bestWith_10 rfl ?_
    have hs4 := hok.1
    have hok := hok.2
    have hB : SubW g (inW (wMo g mo a o now dr pa sa iS bu tq rT wT sK sA sB sE oq bS bE bL rp)) s (wMo g mo a o now dr pa sa iS bu tq rT wT sK sA sB sE oq bS bE bL rp) _ (List.range _) _ _ := (subF hP hD hS)
    refine goI0 hB (run_s C mf_Mo_isKind qm_Mo_423 (c_Mo_isKind l g mo a o now dr pa sa iS bu tq rT wT sK sA sB sE oq bS bE bL rp p2.toInt64 hs4) rfl rfl ⟨Nat.le_of_ble_eq_true rfl, Nat.le_of_ble_eq_true rfl⟩ ⟨Nat.le_of_ble_eq_true rfl, Nat.le_of_ble_eq_true rfl⟩ hB hl rfl rfl (Nat.le_of_ble_eq_true rfl) d_Mo_bestWith_11) (fun y5 ey5 H locs hP hS => ?_)
    have hz := lett_z hz ey5
    have hok := lett_o hok ey5
    refine lv_if_eq (tgt := 21) hx hb d_Mo_bestWith_14 (by decide) (fun c6 => ?_) (fun c6 => ?_)
    · have hz := hz.trans (if_pos c6)
      have hok := hok.1 c6
      exact k_Mo_bestWith_21 C () hok _ hz _ _ ls hP hD hS hl
    · have hz := hz.trans (if_neg c6)
      have hok := hok.2 c6
      refine lv_iconst (v := 0) hx hb d_Mo_bestWith_17 (by decide) ?_
      refine lv_goto (tgt := 22) hx hb d_Mo_bestWith_18 (by decide) ?_
      exact k_Mo_bestWith_22 C (0 : Int32) hok _ hz _ _ ls hP hD hS hl
abbrev rm_Mo_bestArms : Room := { frames := 8, cells := 0, slots := 0, locals := 197 }
def HL_Mo_bestArms_12 (p : Program) (l : Launch) (e : Env) (s : State) (m : MethodId) (args : Array Value) (below : List Frame) (meth : Method) (c : Code) (g : GX) (mo : Nat) (a : Nat → Nat) (ws0 : va_W) (o_1 : IV) (now : LV) (dr : LV) (pa : LV) (sa : LV) (iS : IV) (bu : IV) (tq : IV) (rT : IV) (wT : IV) (sK : IV) (sA : IV) (sB : IV) (sE : IV) (oq : IV) (bS : IV) (bE : IV) (bL : IV) (rp : IV) (sp : Int32 → Int64 → Int32 → (Int32 × IV)) (ok : Int32 → Int64 → Int32 → Prop) : Prop := ∀ (x1p12 : Int32) (x2p12 : Int64) (x4p12 : Int32), ok x1p12 x2p12 x4p12 → ∀ z : (Int32 × IV), z = sp x1p12 x2p12 x4p12 → ∀ (H : Heap) (locs : List Loc) (ls : Array Slot), va_P g.1 vwCl (wMo g mo a o_1 now dr pa sa iS bu tq rT wT sK sA sB sE oq bS bE bL rp) H → va_D (inW ws0) (wMo g mo a o_1 now dr pa sa iS bu tq rT wT sK sA sB sE oq bS bE bL rp) → va_S (inW ws0) s.heap H locs → lv_has ls 8 [(0, .ref mo), (1, .int x1p12), (2, .long x2p12), (4, .int x4p12)] → W p l e rm_Mo_bestArms s m args below meth c H locs 0 0 (MQ below (CI g ws0 (fun u : IV => wMo g mo a u now dr pa sa iS bu tq rT wT sK sA sB sE oq bS bE bL rp) z) args s 0 0 (inW ws0)) (F0 m 12 ls [])
def HL_Mo_bestArms_87 (p : Program) (l : Launch) (e : Env) (s : State) (m : MethodId) (args : Array Value) (below : List Frame) (meth : Method) (c : Code) (g : GX) (mo : Nat) (a : Nat → Nat) (ws0 : va_W) (o_1 : IV) (now : LV) (dr : LV) (pa : LV) (sa : LV) (iS : IV) (bu : IV) (tq : IV) (rT : IV) (wT : IV) (sK : IV) (sA : IV) (sB : IV) (sE : IV) (oq : IV) (bS : IV) (bE : IV) (bL : IV) (rp : IV) (x2p12 : Int64) (x4p12 : Int32) (y8 : Int64) (sp : (Int32 × IV)) (ok : Prop) : Prop := ∀ (_ : Unit), ok → ∀ z : (Int32 × IV), z = sp → ∀ (H : Heap) (locs : List Loc) (ls : Array Slot), va_P g.1 vwCl (wMo g mo a o_1 now dr pa sa iS bu tq rT wT sK sA sB sE oq bS bE bL rp) H → va_D (inW ws0) (wMo g mo a o_1 now dr pa sa iS bu tq rT wT sK sA sB sE oq bS bE bL rp) → va_S (inW ws0) s.heap H locs → lv_has ls 8 [(0, .ref mo), (2, .long x2p12), (4, .int x4p12), (6, .long y8)] → W p l e rm_Mo_bestArms s m args below meth c H locs 0 0 (MQ below (CI g ws0 (fun u : IV => wMo g mo a u now dr pa sa iS bu tq rT wT sK sA sB sE oq bS bE bL rp) z) args s 0 0 (inW ws0)) (F0 m 87 ls [])
def HL_Mo_bestArms_103 (p : Program) (l : Launch) (e : Env) (s : State) (m : MethodId) (args : Array Value) (below : List Frame) (meth : Method) (c : Code) (g : GX) (mo : Nat) (a : Nat → Nat) (ws0 : va_W) (o_1 : IV) (now : LV) (dr : LV) (pa : LV) (sa : LV) (iS : IV) (bu : IV) (tq : IV) (rT : IV) (wT : IV) (sK : IV) (sA : IV) (sB : IV) (sE : IV) (oq : IV) (bS : IV) (bE : IV) (bL : IV) (rp : IV) (x2p12 : Int64) (x4p12 : Int32) (y8 : Int64) (sp : Int32 → (Int32 × IV)) (ok : Int32 → Prop) : Prop := ∀ (t0p103 : Int32), ok t0p103 → ∀ z : (Int32 × IV), z = sp t0p103 → ∀ (H : Heap) (locs : List Loc) (ls : Array Slot), va_P g.1 vwCl (wMo g mo a o_1 now dr pa sa iS bu tq rT wT sK sA sB sE oq bS bE bL rp) H → va_D (inW ws0) (wMo g mo a o_1 now dr pa sa iS bu tq rT wT sK sA sB sE oq bS bE bL rp) → va_S (inW ws0) s.heap H locs → lv_has ls 8 [(0, .ref mo), (2, .long x2p12), (4, .int x4p12), (6, .long y8)] → W p l e rm_Mo_bestArms s m args below meth c H locs 0 0 (MQ below (CI g ws0 (fun u : IV => wMo g mo a u now dr pa sa iS bu tq rT wT sK sA sB sE oq bS bE bL rp) z) args s 0 0 (inW ws0)) (F0 m 103 ls [.int t0p103])
def HL_Mo_bestArms_120 (p : Program) (l : Launch) (e : Env) (s : State) (m : MethodId) (args : Array Value) (below : List Frame) (meth : Method) (c : Code) (g : GX) (mo : Nat) (a : Nat → Nat) (ws0 : va_W) (o_1 : IV) (now : LV) (dr : LV) (pa : LV) (sa : LV) (iS : IV) (bu : IV) (tq : IV) (rT : IV) (wT : IV) (sK : IV) (sA : IV) (sB : IV) (sE : IV) (oq : IV) (bS : IV) (bE : IV) (bL : IV) (rp : IV) (t0p103 : Int32) (x4p12 : Int32) (sp : Int64 → (Int32 × IV)) (ok : Int64 → Prop) : Prop := ∀ (t0p120 : Int64), ok t0p120 → ∀ z : (Int32 × IV), z = sp t0p120 → ∀ (H : Heap) (locs : List Loc) (ls : Array Slot), va_P g.1 vwCl (wMo g mo a o_1 now dr pa sa iS bu tq rT wT sK sA sB sE oq bS bE bL rp) H → va_D (inW ws0) (wMo g mo a o_1 now dr pa sa iS bu tq rT wT sK sA sB sE oq bS bE bL rp) → va_S (inW ws0) s.heap H locs → lv_has ls 8 [(0, .ref mo), (1, .int t0p103), (4, .int x4p12)] → W p l e rm_Mo_bestArms s m args below meth c H locs 0 0 (MQ below (CI g ws0 (fun u : IV => wMo g mo a u now dr pa sa iS bu tq rT wT sK sA sB sE oq bS bE bL rp) z) args s 0 0 (inW ws0)) (F0 m 120 ls [.long t0p120])
noncomputable def sp_Mo_bestArms_120 (x4p12 : Int32) (t0p103 : Int32) (r12 : Int32 → Int64 → Int32 → (Int32 × IV)) (t0p120 : Int64) : Int32 × IV := lett (x4p12 + (1 : Int32)) fun (v12 : Int32) => r12 t0p103 t0p120 v12
def ok_Mo_bestArms_120 (x4p12 : Int32) (t0p103 : Int32) (r12 : Int32 → Int64 → Int32 → (Int32 × IV)) (q12 : Int32 → Int64 → Int32 → Prop) (t0p120 : Int64) : Prop := lett (x4p12 + (1 : Int32)) fun (v12 : Int32) => q12 t0p103 t0p120 v12
set_option maxRecDepth 100000 in
set_option maxHeartbeats 4000000 in
theorem k_Mo_bestArms_120 {p : Program} {l : Launch} {e : Env} {s : State} {m : MethodId} {args : Array Value} {below : List Frame} {meth : Method} {c : Code} {g : GX} {mo : Nat} {a : Nat → Nat} {ws0 : va_W} {o_1 : IV} {now : LV} {dr : LV} {pa : LV} {sa : LV} {iS : IV} {bu : IV} {tq : IV} {rT : IV} {wT : IV} {sK : IV} {sA : IV} {sB : IV} {sE : IV} {oq : IV} {bS : IV} {bE : IV} {bL : IV} {rp : IV} {t0p103 : Int32} {x4p12 : Int32} {r12 : Int32 → Int64 → Int32 → (Int32 × IV)} {q12 : Int32 → Int64 → Int32 → Prop} (C : Cx p s m args meth c (inW ws0) g "DecadeBridgeModel" b_Mo_bestArms (some .int) 8) (ih12 : HL_Mo_bestArms_12 p l e s m args below meth c g mo a ws0 o_1 now dr pa sa iS bu tq rT wT sK sA sB sE oq bS bE bL rp r12 q12) : HL_Mo_bestArms_120 p l e s m args below meth c g mo a ws0 o_1 now dr pa sa iS bu tq rT wT sK sA sB sE oq bS bE bL rp t0p103 x4p12 (sp_Mo_bestArms_120 x4p12 t0p103 r12) (ok_Mo_bestArms_120 x4p12 t0p103 r12 q12) := by
  intro t0p120 hok z hz H locs ls hP hD hS hl
  obtain ⟨hx, hb, hr, hml, hown, hlk, hts, hK, hZo, hZ⟩ := id C
  unfold sp_Mo_bestArms_120 at hz
  unfold ok_Mo_bestArms_120 at hok
  refine lv_lstore_n (lv' := [(2, .long t0p120), (0, .ref mo), (1, .int t0p103), (4, .int x4p12)]) hx hb d_Mo_bestArms_120 rfl hl (by decide) rfl (fun ls hl => ?_)
  obtain ⟨v12, ev12⟩ : ∃ y : Int32, y = x4p12 + (1 : Int32) := ⟨_, rfl⟩
  have hz := lett_z hz ev12
  have hok := lett_o hok ev12
  refine lv_iinc (v := v12) (lv' := [(4, .int v12), (2, .long t0p120), (0, .ref mo), (1, .int t0p103)]) hx hb d_Mo_bestArms_121 hl (k := 3) rfl (by rw [ev12]; rfl) (by decide) rfl (fun ls hl => ?_)
  refine lv_goto (tgt := 12) hx hb d_Mo_bestArms_124 (by decide) ?_
  exact ih12 t0p103 t0p120 v12 hok _ hz _ _ ls hP hD hS (lv_sub hl [2, 3, 1, 0] rfl)
noncomputable def sp_Mo_bestArms_103 (x4p12 : Int32) (y8 : Int64) (x2p12 : Int64) (r12 : Int32 → Int64 → Int32 → (Int32 × IV)) (t0p103 : Int32) : Int32 × IV := if x4p12 = 0 then (sp_Mo_bestArms_120 x4p12 t0p103 r12 y8) else (sp_Mo_bestArms_120 x4p12 t0p103 r12 (if y8 < x2p12 then y8 else x2p12))
def ok_Mo_bestArms_103 (x4p12 : Int32) (y8 : Int64) (x2p12 : Int64) (r12 : Int32 → Int64 → Int32 → (Int32 × IV)) (q12 : Int32 → Int64 → Int32 → Prop) (t0p103 : Int32) : Prop := ((x4p12 = 0 → ok_Mo_bestArms_120 x4p12 t0p103 r12 q12 y8) ∧ (¬ (x4p12 = 0) → ok_Mo_bestArms_120 x4p12 t0p103 r12 q12 (if y8 < x2p12 then y8 else x2p12)))
set_option maxRecDepth 100000 in
set_option maxHeartbeats 4000000 in
theorem k_Mo_bestArms_103 {p : Program} {l : Launch} {e : Env} {s : State} {m : MethodId} {args : Array Value} {below : List Frame} {meth : Method} {c : Code} {g : GX} {mo : Nat} {a : Nat → Nat} {ws0 : va_W} {o_1 : IV} {now : LV} {dr : LV} {pa : LV} {sa : LV} {iS : IV} {bu : IV} {tq : IV} {rT : IV} {wT : IV} {sK : IV} {sA : IV} {sB : IV} {sE : IV} {oq : IV} {bS : IV} {bE : IV} {bL : IV} {rp : IV} {x2p12 : Int64} {x4p12 : Int32} {y8 : Int64} {r12 : Int32 → Int64 → Int32 → (Int32 × IV)} {q12 : Int32 → Int64 → Int32 → Prop} (C : Cx p s m args meth c (inW ws0) g "DecadeBridgeModel" b_Mo_bestArms (some .int) 8) (ih12 : HL_Mo_bestArms_12 p l e s m args below meth c g mo a ws0 o_1 now dr pa sa iS bu tq rT wT sK sA sB sE oq bS bE bL rp r12 q12) : HL_Mo_bestArms_103 p l e s m args below meth c g mo a ws0 o_1 now dr pa sa iS bu tq rT wT sK sA sB sE oq bS bE bL rp x2p12 x4p12 y8 (sp_Mo_bestArms_103 x4p12 y8 x2p12 r12) (ok_Mo_bestArms_103 x4p12 y8 x2p12 r12 q12) := by
  intro t0p103 hok z hz H locs ls hP hD hS hl
  obtain ⟨hx, hb, hr, hml, hown, hlk, hts, hK, hZo, hZ⟩ := id C
  unfold sp_Mo_bestArms_103 at hz
  unfold ok_Mo_bestArms_103 at hok
  refine lv_istore_n (lv' := [(1, .int t0p103), (0, .ref mo), (2, .long x2p12), (4, .int x4p12), (6, .long y8)]) hx hb d_Mo_bestArms_103 rfl hl (by decide) rfl (fun ls hl => ?_)
  refine lv_iload hx hb d_Mo_bestArms_104 (lv_at hl 3 rfl) ?_
  refine lv_if_ne (tgt := 114) hx hb d_Mo_bestArms_106 (by decide) (fun c11 => ?_) (fun c11 => ?_)
  · have hz := hz.trans (if_neg c11)
    have hok := hok.2 c11
    refine lv_lload_n hx hb d_Mo_bestArms_114 rfl (lv_at hl 2 rfl) ?_
    refine lv_lload hx hb d_Mo_bestArms_115 (lv_at hl 4 rfl) ?_
    refine va_mmin_long hx hb (hml.trans hl.1.symm) hown (hts _ qm_Mo_185) (hts _ (mf_JM_min_JJJ).2) (hts _ (mf_JM_min_JJJ).1.2.1) (hts _ (mf_JM_min_JJJ).1.1) (Nat.le_of_ble_eq_true rfl) (Nat.le_of_ble_eq_true rfl) (Nat.le_of_ble_eq_true rfl) (Nat.le_of_ble_eq_true rfl) d_Mo_bestArms_117 ?_
    exact k_Mo_bestArms_120 C ih12 (if y8 < x2p12 then y8 else x2p12) hok _ hz _ _ ls hP hD hS (lv_sub hl [1, 0, 3] rfl)
  · have hz := hz.trans (if_pos c11)
    have hok := hok.1 c11
    refine lv_lload hx hb d_Mo_bestArms_109 (lv_at hl 4 rfl) ?_
    refine lv_goto (tgt := 120) hx hb d_Mo_bestArms_111 (by decide) ?_
    exact k_Mo_bestArms_120 C ih12 y8 hok _ hz _ _ ls hP hD hS (lv_sub hl [1, 0, 3] rfl)
noncomputable def sp_Mo_bestArms_87 (x4p12 : Int32) (y8 : Int64) (x2p12 : Int64) (r12 : Int32 → Int64 → Int32 → (Int32 × IV))  : Int32 × IV := sp_Mo_bestArms_103 x4p12 y8 x2p12 r12 (((10 : Int32) * (x4p12 / (5 : Int32))) + (x4p12 - x4p12 / (5 : Int32) * (5 : Int32)))
def ok_Mo_bestArms_87 (x4p12 : Int32) (y8 : Int64) (x2p12 : Int64) (r12 : Int32 → Int64 → Int32 → (Int32 × IV)) (q12 : Int32 → Int64 → Int32 → Prop)  : Prop := ok_Mo_bestArms_103 x4p12 y8 x2p12 r12 q12 (((10 : Int32) * (x4p12 / (5 : Int32))) + (x4p12 - x4p12 / (5 : Int32) * (5 : Int32)))
set_option maxRecDepth 100000 in
set_option maxHeartbeats 4000000 in
theorem k_Mo_bestArms_87 {p : Program} {l : Launch} {e : Env} {s : State} {m : MethodId} {args : Array Value} {below : List Frame} {meth : Method} {c : Code} {g : GX} {mo : Nat} {a : Nat → Nat} {ws0 : va_W} {o_1 : IV} {now : LV} {dr : LV} {pa : LV} {sa : LV} {iS : IV} {bu : IV} {tq : IV} {rT : IV} {wT : IV} {sK : IV} {sA : IV} {sB : IV} {sE : IV} {oq : IV} {bS : IV} {bE : IV} {bL : IV} {rp : IV} {x2p12 : Int64} {x4p12 : Int32} {y8 : Int64} {r12 : Int32 → Int64 → Int32 → (Int32 × IV)} {q12 : Int32 → Int64 → Int32 → Prop} (C : Cx p s m args meth c (inW ws0) g "DecadeBridgeModel" b_Mo_bestArms (some .int) 8) (ih12 : HL_Mo_bestArms_12 p l e s m args below meth c g mo a ws0 o_1 now dr pa sa iS bu tq rT wT sK sA sB sE oq bS bE bL rp r12 q12) : HL_Mo_bestArms_87 p l e s m args below meth c g mo a ws0 o_1 now dr pa sa iS bu tq rT wT sK sA sB sE oq bS bE bL rp x2p12 x4p12 y8 (sp_Mo_bestArms_87 x4p12 y8 x2p12 r12) (ok_Mo_bestArms_87 x4p12 y8 x2p12 r12 q12) := by
  intro _ hok z hz H locs ls hP hD hS hl
  obtain ⟨hx, hb, hr, hml, hown, hlk, hts, hK, hZo, hZ⟩ := id C
  unfold sp_Mo_bestArms_87 at hz
  unfold ok_Mo_bestArms_87 at hok
  refine lv_bipush (v := 10) hx hb d_Mo_bestArms_87 (by decide) ?_
  refine lv_iload hx hb d_Mo_bestArms_89 (lv_at hl 2 rfl) ?_
  refine lv_iconst (v := 5) hx hb d_Mo_bestArms_91 (by decide) ?_
  refine lv_idiv hx hb d_Mo_bestArms_92 (by decide) ?_
  refine lv_imul hx hb d_Mo_bestArms_93 ?_
  refine lv_iload hx hb d_Mo_bestArms_94 (lv_at hl 2 rfl) ?_
  refine lv_iconst (v := 5) hx hb d_Mo_bestArms_96 (by decide) ?_
  refine lv_irem hx hb d_Mo_bestArms_97 (by decide) ?_
  refine lv_iadd hx hb d_Mo_bestArms_98 ?_
  refine lv_goto (tgt := 103) hx hb d_Mo_bestArms_99 (by decide) ?_
  exact k_Mo_bestArms_103 C ih12 (((10 : Int32) * (x4p12 / (5 : Int32))) + (x4p12 - x4p12 / (5 : Int32) * (5 : Int32))) hok _ hz _ _ ls hP hD hS hl
noncomputable def bd_Mo_bestArms_12 (o_1 : IV) (now : LV) (r12 : Int32 → Int64 → Int32 → (Int32 × IV)) (x1p12 : Int32) (x2p12 : Int64) (x4p12 : Int32) : Int32 × IV := if (25 : Int32) ≤ x4p12 then ((x1p12, o_1)) else (lett (sp_Mo_bestOf ((x4p12 / (5 : Int32)).toInt64) ((x4p12 - x4p12 / (5 : Int32) * (5 : Int32)).toInt64) (now 32) now) fun (y4 : Int32) => lett (sp_Mo_correctedBy y4 ((x4p12 / (5 : Int32)).toInt64) ((x4p12 - x4p12 / (5 : Int32) * (5 : Int32)).toInt64) (now 32) now) fun (y6 : Int64) => lett (sp_Mo_unknownWarm now) fun (y7 : Int64) => lett (sp_Mo_amount (y6 - y7)) fun (y8 : Int64) => if x4p12 = 0 then (sp_Mo_bestArms_87 x4p12 y8 x2p12 r12) else (if x2p12 ≤ y8 then (sp_Mo_bestArms_103 x4p12 y8 x2p12 r12 x1p12) else (sp_Mo_bestArms_87 x4p12 y8 x2p12 r12)))
def okb_Mo_bestArms_12 (o_1 : IV) (now : LV) (r12 : Int32 → Int64 → Int32 → (Int32 × IV)) (q12 : Int32 → Int64 → Int32 → Prop) (x1p12 : Int32) (x2p12 : Int64) (x4p12 : Int32) : Prop := (((25 : Int32) ≤ x4p12 → True) ∧ (¬ ((25 : Int32) ≤ x4p12) → (ok_Mo_bestOf ((x4p12 / (5 : Int32)).toInt64) ((x4p12 - x4p12 / (5 : Int32) * (5 : Int32)).toInt64) (now 32) now) ∧ lett (sp_Mo_bestOf ((x4p12 / (5 : Int32)).toInt64) ((x4p12 - x4p12 / (5 : Int32) * (5 : Int32)).toInt64) (now 32) now) fun (y4 : Int32) => (ok_Mo_correctedBy y4 ((x4p12 / (5 : Int32)).toInt64) ((x4p12 - x4p12 / (5 : Int32) * (5 : Int32)).toInt64) (now 32) now) ∧ lett (sp_Mo_correctedBy y4 ((x4p12 / (5 : Int32)).toInt64) ((x4p12 - x4p12 / (5 : Int32) * (5 : Int32)).toInt64) (now 32) now) fun (y6 : Int64) => lett (sp_Mo_unknownWarm now) fun (y7 : Int64) => lett (sp_Mo_amount (y6 - y7)) fun (y8 : Int64) => ((x4p12 = 0 → ok_Mo_bestArms_87 x4p12 y8 x2p12 r12 q12) ∧ (¬ (x4p12 = 0) → ((x2p12 ≤ y8 → ok_Mo_bestArms_103 x4p12 y8 x2p12 r12 q12 x1p12) ∧ (¬ (x2p12 ≤ y8) → ok_Mo_bestArms_87 x4p12 y8 x2p12 r12 q12))))))
noncomputable def sp_Mo_bestArms_12 (o_1 : IV) (now : LV)  : Nat → Int32 → Int64 → Int32 → (Int32 × IV)
  | 0 => fun _ _ _ => default
  | f + 1 => bd_Mo_bestArms_12 o_1 now  (sp_Mo_bestArms_12 o_1 now  f)
def ok_Mo_bestArms_12 (o_1 : IV) (now : LV)   : Nat → Int32 → Int64 → Int32 → Prop
  | 0 => fun _ _ _ => False
  | f + 1 => okb_Mo_bestArms_12 o_1 now  (sp_Mo_bestArms_12 o_1 now  f)  (ok_Mo_bestArms_12 o_1 now   f)
set_option maxRecDepth 100000 in
set_option maxHeartbeats 4000000 in
theorem kb_Mo_bestArms_12 {p : Program} {l : Launch} {e : Env} {s : State} {m : MethodId} {args : Array Value} {below : List Frame} {meth : Method} {c : Code} {g : GX} {mo : Nat} {a : Nat → Nat} {ws0 : va_W} {o_1 : IV} {now : LV} {dr : LV} {pa : LV} {sa : LV} {iS : IV} {bu : IV} {tq : IV} {rT : IV} {wT : IV} {sK : IV} {sA : IV} {sB : IV} {sE : IV} {oq : IV} {bS : IV} {bE : IV} {bL : IV} {rp : IV}  (C : Cx p s m args meth c (inW ws0) g "DecadeBridgeModel" b_Mo_bestArms (some .int) 8) {r12 : Int32 → Int64 → Int32 → (Int32 × IV)} {q12 : Int32 → Int64 → Int32 → Prop}  (ih12 : HL_Mo_bestArms_12 p l e s m args below meth c g mo a ws0 o_1 now dr pa sa iS bu tq rT wT sK sA sB sE oq bS bE bL rp r12 q12) : HL_Mo_bestArms_12 p l e s m args below meth c g mo a ws0 o_1 now dr pa sa iS bu tq rT wT sK sA sB sE oq bS bE bL rp (bd_Mo_bestArms_12 o_1 now  r12) (okb_Mo_bestArms_12 o_1 now  r12  q12) := by
  intro x1p12 x2p12 x4p12 hok z hz H locs ls hP hD hS hl
  obtain ⟨hx, hb, hr, hml, hown, hlk, hts, hK, hZo, hZ⟩ := id C
  unfold bd_Mo_bestArms_12 at hz
  unfold okb_Mo_bestArms_12 at hok
  refine lv_iload hx hb d_Mo_bestArms_12 (lv_at hl 3 rfl) ?_
  refine lv_bipush (v := 25) hx hb d_Mo_bestArms_14 (by decide) ?_
  refine lv_icmp_ge (tgt := 127) hx hb d_Mo_bestArms_16 (by decide) (fun c2 => ?_) (fun c2 => ?_)
  · have hz := hz.trans (if_pos c2)
    refine lv_iload_n hx hb d_Mo_bestArms_127 rfl (lv_at hl 1 rfl) ?_
    exact endI1 C hz hP hS d_Mo_bestArms_128
  · have hz := hz.trans (if_neg c2)
    have hok := hok.2 c2
    refine lv_aload_n hx hb d_Mo_bestArms_19 rfl (lv_at hl 0 rfl) ?_
    refine lv_iload hx hb d_Mo_bestArms_20 (lv_at hl 3 rfl) ?_
    refine lv_iconst (v := 5) hx hb d_Mo_bestArms_22 (by decide) ?_
    refine lv_idiv hx hb d_Mo_bestArms_23 (by decide) ?_
    refine lv_i2l hx hb d_Mo_bestArms_24 rfl ?_
    refine lv_iload hx hb d_Mo_bestArms_25 (lv_at hl 3 rfl) ?_
    refine lv_iconst (v := 5) hx hb d_Mo_bestArms_27 (by decide) ?_
    refine lv_irem hx hb d_Mo_bestArms_28 (by decide) ?_
    refine lv_i2l hx hb d_Mo_bestArms_29 rfl ?_
    refine lv_aload_n hx hb d_Mo_bestArms_30 rfl (lv_at hl 0 rfl) ?_
    refine gf C hP 0 0 fkMo rfl (by decide) rfl qf_Mo_7 (gMo_0 _ _) d_Mo_bestArms_31 ?_
    refine lv_bipush (v := 32) hx hb d_Mo_bestArms_34 (by decide) ?_
    refine ldL C hP 1 rfl vi_32_215 cn_32 d_Mo_bestArms_36 ?_
    have hs3 := hok.1
    have hok := hok.2
    have hB : SubW g (inW ws0) s (wMo g mo a o_1 now dr pa sa iS bu tq rT wT sK sA sB sE oq bS bE bL rp) _ (List.range _) _ _ := (subF hP hD hS)
    refine goI0 hB (run_v C mf_Mo_bestOf qm_Mo_458 (c_Mo_bestOf l g mo a o_1 now dr pa sa iS bu tq rT wT sK sA sB sE oq bS bE bL rp ((x4p12 / (5 : Int32)).toInt64) ((x4p12 - x4p12 / (5 : Int32) * (5 : Int32)).toInt64) (now 32) hs3) rfl rfl ⟨Nat.le_of_ble_eq_true rfl, Nat.le_of_ble_eq_true rfl⟩ ⟨Nat.le_of_ble_eq_true rfl, Nat.le_of_ble_eq_true rfl⟩ hB rfl rfl hl rfl rfl (Nat.le_of_ble_eq_true rfl) d_Mo_bestArms_37) (fun y4 ey4 H locs hP hS => ?_)
    have hz := lett_z hz ey4
    have hok := lett_o hok ey4
    refine lv_istore (lv' := [(5, .int y4), (0, .ref mo), (1, .int x1p12), (2, .long x2p12), (4, .int x4p12)]) hx hb d_Mo_bestArms_40 hl (by decide) rfl (fun ls hl => ?_)
    refine lv_aload_n hx hb d_Mo_bestArms_42 rfl (lv_at hl 1 rfl) ?_
    refine lv_iload hx hb d_Mo_bestArms_43 (lv_at hl 0 rfl) ?_
    refine lv_iload hx hb d_Mo_bestArms_45 (lv_at hl 4 rfl) ?_
    refine lv_iconst (v := 5) hx hb d_Mo_bestArms_47 (by decide) ?_
    refine lv_idiv hx hb d_Mo_bestArms_48 (by decide) ?_
    refine lv_i2l hx hb d_Mo_bestArms_49 rfl ?_
    refine lv_iload hx hb d_Mo_bestArms_50 (lv_at hl 4 rfl) ?_
    refine lv_iconst (v := 5) hx hb d_Mo_bestArms_52 (by decide) ?_
    refine lv_irem hx hb d_Mo_bestArms_53 (by decide) ?_
    refine lv_i2l hx hb d_Mo_bestArms_54 rfl ?_
    refine lv_aload_n hx hb d_Mo_bestArms_55 rfl (lv_at hl 1 rfl) ?_
    refine gf C hP 0 0 fkMo rfl (by decide) rfl qf_Mo_7 (gMo_0 _ _) d_Mo_bestArms_56 ?_
    refine lv_bipush (v := 32) hx hb d_Mo_bestArms_59 (by decide) ?_
    refine ldL C hP 1 rfl vi_32_215 cn_32 d_Mo_bestArms_61 ?_
    have hs5 := hok.1
    have hok := hok.2
    have hB : SubW g (inW ws0) s (wMo g mo a o_1 now dr pa sa iS bu tq rT wT sK sA sB sE oq bS bE bL rp) _ (List.range _) _ _ := (subF hP hD hS)
    refine goL0 hB (run_v C mf_Mo_correctedBy qm_Mo_245 (c_Mo_correctedBy l g mo a o_1 now dr pa sa iS bu tq rT wT sK sA sB sE oq bS bE bL rp y4 ((x4p12 / (5 : Int32)).toInt64) ((x4p12 - x4p12 / (5 : Int32) * (5 : Int32)).toInt64) (now 32) hs5) rfl rfl ⟨Nat.le_of_ble_eq_true rfl, Nat.le_of_ble_eq_true rfl⟩ ⟨Nat.le_of_ble_eq_true rfl, Nat.le_of_ble_eq_true rfl⟩ hB rfl rfl hl rfl rfl (Nat.le_of_ble_eq_true rfl) d_Mo_bestArms_62) (fun y6 ey6 H locs hP hS => ?_)
    have hz := lett_z hz ey6
    have hok := lett_o hok ey6
    refine lv_aload_n hx hb d_Mo_bestArms_65 rfl (lv_at hl 1 rfl) ?_
    have hB : SubW g (inW ws0) s (wMo g mo a o_1 now dr pa sa iS bu tq rT wT sK sA sB sE oq bS bE bL rp) _ (List.range _) _ _ := (subF hP hD hS)
    refine goL0 hB (run_v C mf_Mo_unknownWarm qm_Mo_146 (c_Mo_unknownWarm l g mo a o_1 now dr pa sa iS bu tq rT wT sK sA sB sE oq bS bE bL rp) rfl rfl ⟨Nat.le_of_ble_eq_true rfl, Nat.le_of_ble_eq_true rfl⟩ ⟨Nat.le_of_ble_eq_true rfl, Nat.le_of_ble_eq_true rfl⟩ hB rfl rfl hl rfl rfl (Nat.le_of_ble_eq_true rfl) d_Mo_bestArms_66) (fun y7 ey7 H locs hP hS => ?_)
    have hz := lett_z hz ey7
    have hok := lett_o hok ey7
    refine lv_lsub hx hb d_Mo_bestArms_69 ?_
    have hB : SubW g (inW ws0) s (wMo g mo a o_1 now dr pa sa iS bu tq rT wT sK sA sB sE oq bS bE bL rp) _ (List.range _) _ _ := (subF hP hD hS)
    refine goL0 hB (run_s C mf_Mo_amount qm_Mo_217 (c_Mo_amount l g mo a o_1 now dr pa sa iS bu tq rT wT sK sA sB sE oq bS bE bL rp (y6 - y7)) rfl rfl ⟨Nat.le_of_ble_eq_true rfl, Nat.le_of_ble_eq_true rfl⟩ ⟨Nat.le_of_ble_eq_true rfl, Nat.le_of_ble_eq_true rfl⟩ hB hl rfl rfl (Nat.le_of_ble_eq_true rfl) d_Mo_bestArms_70) (fun y8 ey8 H locs hP hS => ?_)
    have hz := lett_z hz ey8
    have hok := lett_o hok ey8
    refine lv_lstore (lv' := [(6, .long y8), (5, .int y4), (0, .ref mo), (1, .int x1p12), (2, .long x2p12), (4, .int x4p12)]) hx hb d_Mo_bestArms_73 hl (by decide) rfl (fun ls hl => ?_)
    refine lv_iload hx hb d_Mo_bestArms_75 (lv_at hl 5 rfl) ?_
    refine lv_if_eq (tgt := 87) hx hb d_Mo_bestArms_77 (by decide) (fun c9 => ?_) (fun c9 => ?_)
    · have hz := hz.trans (if_pos c9)
      have hok := hok.1 c9
      exact k_Mo_bestArms_87 C ih12 () hok _ hz _ _ ls hP hD hS (lv_sub hl [2, 4, 5, 0] rfl)
    · have hz := hz.trans (if_neg c9)
      have hok := hok.2 c9
      refine lv_lload hx hb d_Mo_bestArms_80 (lv_at hl 0 rfl) ?_
      refine lv_lload_n hx hb d_Mo_bestArms_82 rfl (lv_at hl 4 rfl) ?_
      refine lc_ge (tgt := 102) hx hb d_Mo_bestArms_83 d_Mo_bestArms_84 (by decide) (fun c10 => ?_) (fun c10 => ?_)
      · have hz := hz.trans (if_pos c10)
        have hok := hok.1 c10
        refine lv_iload_n hx hb d_Mo_bestArms_102 rfl (lv_at hl 3 rfl) ?_
        exact k_Mo_bestArms_103 C ih12 x1p12 hok _ hz _ _ ls hP hD hS (lv_sub hl [2, 4, 5, 0] rfl)
      · have hz := hz.trans (if_neg c10)
        have hok := hok.2 c10
        exact k_Mo_bestArms_87 C ih12 () hok _ hz _ _ ls hP hD hS (lv_sub hl [2, 4, 5, 0] rfl)
theorem k_Mo_bestArms_12 {p : Program} {l : Launch} {e : Env} {s : State} {m : MethodId} {args : Array Value} {below : List Frame} {meth : Method} {c : Code} {g : GX} {mo : Nat} {a : Nat → Nat} {ws0 : va_W} {o_1 : IV} {now : LV} {dr : LV} {pa : LV} {sa : LV} {iS : IV} {bu : IV} {tq : IV} {rT : IV} {wT : IV} {sK : IV} {sA : IV} {sB : IV} {sE : IV} {oq : IV} {bS : IV} {bE : IV} {bL : IV} {rp : IV}  (C : Cx p s m args meth c (inW ws0) g "DecadeBridgeModel" b_Mo_bestArms (some .int) 8) (f : Nat)  : HL_Mo_bestArms_12 p l e s m args below meth c g mo a ws0 o_1 now dr pa sa iS bu tq rT wT sK sA sB sE oq bS bE bL rp (sp_Mo_bestArms_12 o_1 now  f) (ok_Mo_bestArms_12 o_1 now   f) := by
  induction f with
  | zero => intro x1p12 x2p12 x4p12 hok; exact False.elim hok
  | succ f ih => exact kb_Mo_bestArms_12 C  ih
noncomputable def sp_Mo_bestArms (o : IV) (now : LV) : Int32 × IV := lett (upd o 6 (0 : Int32)) fun (o_1 : IV) => sp_Mo_bestArms_12 o_1 now big (0 : Int32) (0 : Int64) (0 : Int32)
def ok_Mo_bestArms (o : IV) (now : LV) : Prop := lett (upd o 6 (0 : Int32)) fun (o_1 : IV) => ok_Mo_bestArms_12 o_1 now big (0 : Int32) (0 : Int64) (0 : Int32)
set_option maxRecDepth 100000 in
set_option maxHeartbeats 4000000 in
theorem c_Mo_bestArms (l : Launch) (g : GX) (mo : Nat) (a : Nat → Nat) (o : IV) (now : LV) (dr : LV) (pa : LV) (sa : LV) (iS : IV) (bu : IV) (tq : IV) (rT : IV) (wT : IV) (sK : IV) (sA : IV) (sB : IV) (sE : IV) (oq : IV) (bS : IV) (bE : IV) (bL : IV) (rp : IV)  (hok : ok_Mo_bestArms o now) : Met l y_Mo_bestArms (wsY y_Mo_bestArms b_Mo_bestArms 8 (some .int)) rm_Mo_bestArms (CP g [.ref mo] (wMo g mo a o now dr pa sa iS bu tq rT wT sK sA sB sE oq bS bE bL rp)) (CI g (wMo g mo a o now dr pa sa iS bu tq rT wT sK sA sB sE oq bS bE bL rp) (fun u : IV => wMo g mo a u now dr pa sa iS bu tq rT wT sK sA sB sE oq bS bE bL rp) (sp_Mo_bestArms o now)) 0 0 (inW (wMo g mo a o now dr pa sa iS bu tq rT wT sK sA sB sE oq bS bE bL rp)) := by
  refine Met.ofW (cc := b_Mo_bestArms) (maxL := 8) (ret := (some .int)) pn_Mo rfl ?_
  intro p e s m args below meth c s₁ B hml hv
  obtain ⟨rfl, C, hP, hD, hS⟩ := enter "DecadeBridgeModel" rfl B hml hv
  obtain ⟨hx, hb, hr, hml, hown, hlk, hts, hK, hZo, hZ⟩ := id C
  refine entryW (lv := [(0, .ref mo)]) rfl (Nat.le_of_ble_eq_true rfl) (fun ls hl => ?_)
  obtain ⟨z, hz⟩ : ∃ z, z = sp_Mo_bestArms o now := ⟨_, rfl⟩
  rw [← hz]
  unfold sp_Mo_bestArms at hz
  unfold ok_Mo_bestArms at hok
  refine lv_aload_n hx hb d_Mo_bestArms_0 rfl (lv_at hl 0 rfl) ?_
  refine lv_iconst (v := 0) hx hb d_Mo_bestArms_1 (by decide) ?_
  refine pfI C hP hD hS 0 6 fkMo rfl (by decide) rfl qf_Mo_107 rfl rfl rfl (Nat.le_of_ble_eq_true rfl) (ff := fun o => fMo a o) (sMo_6 _ _ _) d_Mo_bestArms_2 (fun o_1 eo_1 H locs hP hD hS => ?_)
  have hP : va_P g.1 vwCl (wMo g mo a o_1 now dr pa sa iS bu tq rT wT sK sA sB sE oq bS bE bL rp) H := hP
  have hD : va_D (inW (wMo g mo a o now dr pa sa iS bu tq rT wT sK sA sB sE oq bS bE bL rp)) (wMo g mo a o_1 now dr pa sa iS bu tq rT wT sK sA sB sE oq bS bE bL rp) := hD
  have hz := lett_z hz eo_1
  have hok := lett_o hok eo_1
  refine lv_iconst (v := 0) hx hb d_Mo_bestArms_5 (by decide) ?_
  refine lv_istore_n (lv' := [(1, .int (0 : Int32)), (0, .ref mo)]) hx hb d_Mo_bestArms_6 rfl hl (by decide) rfl (fun ls hl => ?_)
  refine lv_lconst (v := 0) hx hb d_Mo_bestArms_7 (by decide) ?_
  refine lv_lstore_n (lv' := [(2, .long (0 : Int64)), (1, .int (0 : Int32)), (0, .ref mo)]) hx hb d_Mo_bestArms_8 rfl hl (by decide) rfl (fun ls hl => ?_)
  refine lv_iconst (v := 0) hx hb d_Mo_bestArms_9 (by decide) ?_
  refine lv_istore (lv' := [(4, .int (0 : Int32)), (2, .long (0 : Int64)), (1, .int (0 : Int32)), (0, .ref mo)]) hx hb d_Mo_bestArms_10 hl (by decide) rfl (fun ls hl => ?_)
  exact k_Mo_bestArms_12 C big (0 : Int32) (0 : Int64) (0 : Int32) hok _ hz _ _ ls hP hD hS (lv_sub hl [3, 2, 1, 0] rfl)
abbrev rm_Mo_apparent : Room := { frames := 8, cells := 0, slots := 0, locals := 197 }
def HL_Mo_apparent_20 (p : Program) (l : Launch) (e : Env) (s : State) (m : MethodId) (args : Array Value) (below : List Frame) (meth : Method) (c : Code) (g : GX) (mo : Nat) (a : Nat → Nat) (ws0 : va_W) (o : IV) (now : LV) (dr : LV) (pa : LV) (sa : LV) (iS : IV) (bu : IV) (tq : IV) (rT : IV) (wT : IV) (sK : IV) (sA : IV) (sB : IV) (sE : IV) (oq : IV) (bS : IV) (bE : IV) (bL : IV) (rp : IV) (p1 : Int32) (sp : Int32 → (Int64 × IV)) (ok : Int32 → Prop) : Prop := ∀ (t1p20 : Int32), ok t1p20 → ∀ z : (Int64 × IV), z = sp t1p20 → ∀ (H : Heap) (locs : List Loc) (ls : Array Slot), va_P g.1 vwCl (wMo g mo a o now dr pa sa iS bu tq rT wT sK sA sB sE oq bS bE bL rp) H → va_D (inW ws0) (wMo g mo a o now dr pa sa iS bu tq rT wT sK sA sB sE oq bS bE bL rp) → va_S (inW ws0) s.heap H locs → lv_has ls 2 [(0, .ref mo), (1, .int p1)] → W p l e rm_Mo_apparent s m args below meth c H locs 0 0 (MQ below (CL g ws0 (fun u : IV => wMo g mo a u now dr pa sa iS bu tq rT wT sK sA sB sE oq bS bE bL rp) z) args s 0 0 (inW ws0)) (F0 m 20 ls [.int t1p20, .ref mo])
noncomputable def sp_Mo_apparent_20 (o : IV) (now : LV) (p1 : Int32)  (t1p20 : Int32) : Int64 × IV := lett (upd o 6 t1p20) fun (o_3 : IV) => if (o_3 6) ≤ 0 then (lett (sp_Mo_bestOf (now 29) (now 30) p1.toInt64 now) fun (y6 : Int32) => lett (sp_Mo_coldBy y6 now) fun (y8 : Int64) => lett (sp_Mo_ohmsOf (now 30) now) fun (y10 : Int64) => lett (sp_Mo_ohmsOf (now 29) now) fun (y12 : Int64) => ((y8 * y10) / y12, o_3)) else (((0 : Int64), o_3))
def ok_Mo_apparent_20 (o : IV) (now : LV) (p1 : Int32)   (t1p20 : Int32) : Prop := lett (upd o 6 t1p20) fun (o_3 : IV) => (((o_3 6) ≤ 0 → (ok_Mo_bestOf (now 29) (now 30) p1.toInt64 now) ∧ lett (sp_Mo_bestOf (now 29) (now 30) p1.toInt64 now) fun (y6 : Int32) => (ok_Mo_coldBy y6 now) ∧ lett (sp_Mo_coldBy y6 now) fun (y8 : Int64) => (ok_Mo_ohmsOf (now 30)) ∧ lett (sp_Mo_ohmsOf (now 30) now) fun (y10 : Int64) => (ok_Mo_ohmsOf (now 29)) ∧ lett (sp_Mo_ohmsOf (now 29) now) fun (y12 : Int64) => (¬ y12 = 0) ∧ True) ∧ (¬ ((o_3 6) ≤ 0) → True))
set_option maxRecDepth 100000 in
set_option maxHeartbeats 4000000 in
theorem k_Mo_apparent_20 {p : Program} {l : Launch} {e : Env} {s : State} {m : MethodId} {args : Array Value} {below : List Frame} {meth : Method} {c : Code} {g : GX} {mo : Nat} {a : Nat → Nat} {ws0 : va_W} {o : IV} {now : LV} {dr : LV} {pa : LV} {sa : LV} {iS : IV} {bu : IV} {tq : IV} {rT : IV} {wT : IV} {sK : IV} {sA : IV} {sB : IV} {sE : IV} {oq : IV} {bS : IV} {bE : IV} {bL : IV} {rp : IV} {p1 : Int32}  (C : Cx p s m args meth c (inW ws0) g "DecadeBridgeModel" b_Mo_apparent (some .long) 2)  : HL_Mo_apparent_20 p l e s m args below meth c g mo a ws0 o now dr pa sa iS bu tq rT wT sK sA sB sE oq bS bE bL rp p1 (sp_Mo_apparent_20 o now p1 ) (ok_Mo_apparent_20 o now p1  ) := by
  intro t1p20 hok z hz H locs ls hP hD hS hl
  obtain ⟨hx, hb, hr, hml, hown, hlk, hts, hK, hZo, hZ⟩ := id C
  unfold sp_Mo_apparent_20 at hz
  unfold ok_Mo_apparent_20 at hok
  refine pfI C hP hD hS 0 6 fkMo rfl (by decide) rfl qf_Mo_107 rfl rfl rfl (Nat.le_of_ble_eq_true rfl) (ff := fun o => fMo a o) (sMo_6 _ _ _) d_Mo_apparent_20 (fun o_3 eo_3 H locs hP hD hS => ?_)
  have hP : va_P g.1 vwCl (wMo g mo a o_3 now dr pa sa iS bu tq rT wT sK sA sB sE oq bS bE bL rp) H := hP
  have hD : va_D (inW ws0) (wMo g mo a o_3 now dr pa sa iS bu tq rT wT sK sA sB sE oq bS bE bL rp) := hD
  have hz := lett_z hz eo_3
  have hok := lett_o hok eo_3
  refine lv_aload_n hx hb d_Mo_apparent_23 rfl (lv_at hl 0 rfl) ?_
  refine gf C hP 0 6 fkMo rfl (by decide) rfl qf_Mo_107 (gMo_6 _ _) d_Mo_apparent_24 ?_
  refine lv_if_le (tgt := 32) hx hb d_Mo_apparent_27 (by decide) (fun c4 => ?_) (fun c4 => ?_)
  · have hz := hz.trans (if_pos c4)
    have hok := hok.1 c4
    refine lv_aload_n hx hb d_Mo_apparent_32 rfl (lv_at hl 0 rfl) ?_
    refine lv_aload_n hx hb d_Mo_apparent_33 rfl (lv_at hl 0 rfl) ?_
    refine lv_aload_n hx hb d_Mo_apparent_34 rfl (lv_at hl 0 rfl) ?_
    refine gf C hP 0 0 fkMo rfl (by decide) rfl qf_Mo_7 (gMo_0 _ _) d_Mo_apparent_35 ?_
    refine lv_bipush (v := 29) hx hb d_Mo_apparent_38 (by decide) ?_
    refine ldL C hP 1 rfl vi_29_215 cn_29 d_Mo_apparent_40 ?_
    refine lv_aload_n hx hb d_Mo_apparent_41 rfl (lv_at hl 0 rfl) ?_
    refine gf C hP 0 0 fkMo rfl (by decide) rfl qf_Mo_7 (gMo_0 _ _) d_Mo_apparent_42 ?_
    refine lv_bipush (v := 30) hx hb d_Mo_apparent_45 (by decide) ?_
    refine ldL C hP 1 rfl vi_30_215 cn_30 d_Mo_apparent_47 ?_
    refine lv_iload_n hx hb d_Mo_apparent_48 rfl (lv_at hl 1 rfl) ?_
    refine lv_i2l hx hb d_Mo_apparent_49 rfl ?_
    have hs5 := hok.1
    have hok := hok.2
    have hB : SubW g (inW ws0) s (wMo g mo a o_3 now dr pa sa iS bu tq rT wT sK sA sB sE oq bS bE bL rp) _ (List.range _) _ _ := (subF hP hD hS)
    refine goI0 hB (run_v C mf_Mo_bestOf qm_Mo_458 (c_Mo_bestOf l g mo a o_3 now dr pa sa iS bu tq rT wT sK sA sB sE oq bS bE bL rp (now 29) (now 30) p1.toInt64 hs5) rfl rfl ⟨Nat.le_of_ble_eq_true rfl, Nat.le_of_ble_eq_true rfl⟩ ⟨Nat.le_of_ble_eq_true rfl, Nat.le_of_ble_eq_true rfl⟩ hB rfl rfl hl rfl rfl (Nat.le_of_ble_eq_true rfl) d_Mo_apparent_50) (fun y6 ey6 H locs hP hS => ?_)
    have hz := lett_z hz ey6
    have hok := lett_o hok ey6
    have hs7 := hok.1
    have hok := hok.2
    have hB : SubW g (inW ws0) s (wMo g mo a o_3 now dr pa sa iS bu tq rT wT sK sA sB sE oq bS bE bL rp) _ (List.range _) _ _ := (subF hP hD hS)
    refine goL0 hB (run_v C mf_Mo_coldBy qm_Mo_143 (c_Mo_coldBy l g mo a o_3 now dr pa sa iS bu tq rT wT sK sA sB sE oq bS bE bL rp y6 hs7) rfl rfl ⟨Nat.le_of_ble_eq_true rfl, Nat.le_of_ble_eq_true rfl⟩ ⟨Nat.le_of_ble_eq_true rfl, Nat.le_of_ble_eq_true rfl⟩ hB rfl rfl hl rfl rfl (Nat.le_of_ble_eq_true rfl) d_Mo_apparent_53) (fun y8 ey8 H locs hP hS => ?_)
    have hz := lett_z hz ey8
    have hok := lett_o hok ey8
    refine lv_aload_n hx hb d_Mo_apparent_56 rfl (lv_at hl 0 rfl) ?_
    refine lv_aload_n hx hb d_Mo_apparent_57 rfl (lv_at hl 0 rfl) ?_
    refine gf C hP 0 0 fkMo rfl (by decide) rfl qf_Mo_7 (gMo_0 _ _) d_Mo_apparent_58 ?_
    refine lv_bipush (v := 30) hx hb d_Mo_apparent_61 (by decide) ?_
    refine ldL C hP 1 rfl vi_30_215 cn_30 d_Mo_apparent_63 ?_
    have hs9 := hok.1
    have hok := hok.2
    have hB : SubW g (inW ws0) s (wMo g mo a o_3 now dr pa sa iS bu tq rT wT sK sA sB sE oq bS bE bL rp) _ (List.range _) _ _ := (subF hP hD hS)
    refine goL0 hB (run_v C mf_Mo_ohmsOf qm_Mo_162 (c_Mo_ohmsOf l g mo a o_3 now dr pa sa iS bu tq rT wT sK sA sB sE oq bS bE bL rp (now 30) hs9) rfl rfl ⟨Nat.le_of_ble_eq_true rfl, Nat.le_of_ble_eq_true rfl⟩ ⟨Nat.le_of_ble_eq_true rfl, Nat.le_of_ble_eq_true rfl⟩ hB rfl rfl hl rfl rfl (Nat.le_of_ble_eq_true rfl) d_Mo_apparent_64) (fun y10 ey10 H locs hP hS => ?_)
    have hz := lett_z hz ey10
    have hok := lett_o hok ey10
    refine lv_lmul hx hb d_Mo_apparent_67 ?_
    refine lv_aload_n hx hb d_Mo_apparent_68 rfl (lv_at hl 0 rfl) ?_
    refine lv_aload_n hx hb d_Mo_apparent_69 rfl (lv_at hl 0 rfl) ?_
    refine gf C hP 0 0 fkMo rfl (by decide) rfl qf_Mo_7 (gMo_0 _ _) d_Mo_apparent_70 ?_
    refine lv_bipush (v := 29) hx hb d_Mo_apparent_73 (by decide) ?_
    refine ldL C hP 1 rfl vi_29_215 cn_29 d_Mo_apparent_75 ?_
    have hs11 := hok.1
    have hok := hok.2
    have hB : SubW g (inW ws0) s (wMo g mo a o_3 now dr pa sa iS bu tq rT wT sK sA sB sE oq bS bE bL rp) _ (List.range _) _ _ := (subF hP hD hS)
    refine goL0 hB (run_v C mf_Mo_ohmsOf qm_Mo_162 (c_Mo_ohmsOf l g mo a o_3 now dr pa sa iS bu tq rT wT sK sA sB sE oq bS bE bL rp (now 29) hs11) rfl rfl ⟨Nat.le_of_ble_eq_true rfl, Nat.le_of_ble_eq_true rfl⟩ ⟨Nat.le_of_ble_eq_true rfl, Nat.le_of_ble_eq_true rfl⟩ hB rfl rfl hl rfl rfl (Nat.le_of_ble_eq_true rfl) d_Mo_apparent_76) (fun y12 ey12 H locs hP hS => ?_)
    have hz := lett_z hz ey12
    have hok := lett_o hok ey12
    have hs13 := hok.1
    have hok := hok.2
    refine lv_ldiv hx hb d_Mo_apparent_79 hs13 ?_
    exact endL1 C hz hP hS d_Mo_apparent_80
  · have hz := hz.trans (if_neg c4)
    refine lv_lconst (v := 0) hx hb d_Mo_apparent_30 (by decide) ?_
    exact endL1 C hz hP hS d_Mo_apparent_31
noncomputable def sp_Mo_apparent (p1 : Int32) (o : IV) (now : LV) : Int64 × IV := lett (sp_Mo_in p1.toInt64 (2 : Int64) (3 : Int64)) fun (y1 : Int32) => if y1 = 0 then (sp_Mo_apparent_20 o now p1 (1 : Int32)) else (sp_Mo_apparent_20 o now p1 (0 : Int32))
def ok_Mo_apparent (p1 : Int32) (o : IV) (now : LV) : Prop := lett (sp_Mo_in p1.toInt64 (2 : Int64) (3 : Int64)) fun (y1 : Int32) => ((y1 = 0 → ok_Mo_apparent_20 o now p1 (1 : Int32)) ∧ (¬ (y1 = 0) → ok_Mo_apparent_20 o now p1 (0 : Int32)))
set_option maxRecDepth 100000 in
set_option maxHeartbeats 4000000 in
theorem c_Mo_apparent (l : Launch) (g : GX) (mo : Nat) (a : Nat → Nat) (o : IV) (now : LV) (dr : LV) (pa : LV) (sa : LV) (iS : IV) (bu : IV) (tq : IV) (rT : IV) (wT : IV) (sK : IV) (sA : IV) (sB : IV) (sE : IV) (oq : IV) (bS : IV) (bE : IV) (bL : IV) (rp : IV) (p1 : Int32) (hok : ok_Mo_apparent p1 o now) : Met l y_Mo_apparent (wsY y_Mo_apparent b_Mo_apparent 2 (some .long)) rm_Mo_apparent (CP g [.ref mo, .int p1] (wMo g mo a o now dr pa sa iS bu tq rT wT sK sA sB sE oq bS bE bL rp)) (CL g (wMo g mo a o now dr pa sa iS bu tq rT wT sK sA sB sE oq bS bE bL rp) (fun u : IV => wMo g mo a u now dr pa sa iS bu tq rT wT sK sA sB sE oq bS bE bL rp) (sp_Mo_apparent p1 o now)) 0 0 (inW (wMo g mo a o now dr pa sa iS bu tq rT wT sK sA sB sE oq bS bE bL rp)) := by
  refine Met.ofW (cc := b_Mo_apparent) (maxL := 2) (ret := (some .long)) pn_Mo rfl ?_
  intro p e s m args below meth c s₁ B hml hv
  obtain ⟨rfl, C, hP, hD, hS⟩ := enter "DecadeBridgeModel" rfl B hml hv
  obtain ⟨hx, hb, hr, hml, hown, hlk, hts, hK, hZo, hZ⟩ := id C
  refine entryW (lv := [(0, .ref mo), (1, .int p1)]) rfl (Nat.le_of_ble_eq_true rfl) (fun ls hl => ?_)
  obtain ⟨z, hz⟩ : ∃ z, z = sp_Mo_apparent p1 o now := ⟨_, rfl⟩
  rw [← hz]
  unfold sp_Mo_apparent at hz
  unfold ok_Mo_apparent at hok
  refine lv_aload_n hx hb d_Mo_apparent_0 rfl (lv_at hl 0 rfl) ?_
  refine lv_iload_n hx hb d_Mo_apparent_1 rfl (lv_at hl 1 rfl) ?_
  refine lv_i2l hx hb d_Mo_apparent_2 rfl ?_
  refine lv_ldc2 hx hb hown (hts _ qk_Mo_100) d_Mo_apparent_3 ?_
  refine lv_ldc2 hx hb hown (hts _ qk_Mo_153) d_Mo_apparent_6 ?_
  have hB : SubW g (inW (wMo g mo a o now dr pa sa iS bu tq rT wT sK sA sB sE oq bS bE bL rp)) s (wMo g mo a o now dr pa sa iS bu tq rT wT sK sA sB sE oq bS bE bL rp) _ (List.range _) _ _ := (subF hP hD hS)
  refine goI0 hB (run_s C mf_Mo_in qm_Mo_118 (c_Mo_in l g mo a o now dr pa sa iS bu tq rT wT sK sA sB sE oq bS bE bL rp p1.toInt64 (2 : Int64) (3 : Int64)) rfl rfl ⟨Nat.le_of_ble_eq_true rfl, Nat.le_of_ble_eq_true rfl⟩ ⟨Nat.le_of_ble_eq_true rfl, Nat.le_of_ble_eq_true rfl⟩ hB hl rfl rfl (Nat.le_of_ble_eq_true rfl) d_Mo_apparent_9) (fun y1 ey1 H locs hP hS => ?_)
  have hz := lett_z hz ey1
  have hok := lett_o hok ey1
  refine lv_if_eq (tgt := 19) hx hb d_Mo_apparent_12 (by decide) (fun c2 => ?_) (fun c2 => ?_)
  · have hz := hz.trans (if_pos c2)
    have hok := hok.1 c2
    refine lv_iconst (v := 1) hx hb d_Mo_apparent_19 (by decide) ?_
    exact k_Mo_apparent_20 C (1 : Int32) hok _ hz _ _ ls hP hD hS hl
  · have hz := hz.trans (if_neg c2)
    have hok := hok.2 c2
    refine lv_iconst (v := 0) hx hb d_Mo_apparent_15 (by decide) ?_
    refine lv_goto (tgt := 20) hx hb d_Mo_apparent_16 (by decide) ?_
    exact k_Mo_apparent_20 C (0 : Int32) hok _ hz _ _ ls hP hD hS hl
abbrev rm_Mo_layBack : Room := { frames := 0, cells := 0, slots := 0, locals := 0 }
noncomputable def sp_Mo_layBack (p1 : Int64) (p2 : Int64) (p3 : Int64) (now : LV) : Int64 × LV := lett (vp_updL now 37 p1) fun (now_1 : LV) => lett (vp_updL now_1 38 p2) fun (now_2 : LV) => (p3, now_2)
set_option maxRecDepth 100000 in
set_option maxHeartbeats 4000000 in
theorem c_Mo_layBack (l : Launch) (g : GX) (mo : Nat) (a : Nat → Nat) (o : IV) (now : LV) (dr : LV) (pa : LV) (sa : LV) (iS : IV) (bu : IV) (tq : IV) (rT : IV) (wT : IV) (sK : IV) (sA : IV) (sB : IV) (sE : IV) (oq : IV) (bS : IV) (bE : IV) (bL : IV) (rp : IV) (p1 : Int64) (p2 : Int64) (p3 : Int64) : Met l y_Mo_layBack (wsY y_Mo_layBack b_Mo_layBack 7 (some .long)) rm_Mo_layBack (CP g [.ref mo, .long p1, .long p2, .long p3] (wMo g mo a o now dr pa sa iS bu tq rT wT sK sA sB sE oq bS bE bL rp)) (CL g (wMo g mo a o now dr pa sa iS bu tq rT wT sK sA sB sE oq bS bE bL rp) (fun u : LV => wMo g mo a o u dr pa sa iS bu tq rT wT sK sA sB sE oq bS bE bL rp) (sp_Mo_layBack p1 p2 p3 now)) 0 0 (inW (wMo g mo a o now dr pa sa iS bu tq rT wT sK sA sB sE oq bS bE bL rp)) := by
  refine Met.ofW (cc := b_Mo_layBack) (maxL := 7) (ret := (some .long)) pn_Mo rfl ?_
  intro p e s m args below meth c s₁ B hml hv
  obtain ⟨rfl, C, hP, hD, hS⟩ := enter "DecadeBridgeModel" rfl B hml hv
  obtain ⟨hx, hb, hr, hml, hown, hlk, hts, hK, hZo, hZ⟩ := id C
  refine entryW (lv := [(0, .ref mo), (1, .long p1), (3, .long p2), (5, .long p3)]) rfl (Nat.le_of_ble_eq_true rfl) (fun ls hl => ?_)
  obtain ⟨z, hz⟩ : ∃ z, z = sp_Mo_layBack p1 p2 p3 now := ⟨_, rfl⟩
  rw [← hz]
  unfold sp_Mo_layBack at hz
  refine lv_aload_n hx hb d_Mo_layBack_0 rfl (lv_at hl 0 rfl) ?_
  refine gf C hP 0 0 fkMo rfl (by decide) rfl qf_Mo_7 (gMo_0 _ _) d_Mo_layBack_1 ?_
  refine lv_bipush (v := 37) hx hb d_Mo_layBack_4 (by decide) ?_
  refine lv_lload_n hx hb d_Mo_layBack_6 rfl (lv_at hl 1 rfl) ?_
  refine stL C hP hD hS 1 rfl vi_37_215 cn_37 d_Mo_layBack_7 (fun now_1 enow_1 H locs hP hD hS => ?_)
  have hP : va_P g.1 vwCl (wMo g mo a o now_1 dr pa sa iS bu tq rT wT sK sA sB sE oq bS bE bL rp) H := hP
  have hD : va_D (inW (wMo g mo a o now dr pa sa iS bu tq rT wT sK sA sB sE oq bS bE bL rp)) (wMo g mo a o now_1 dr pa sa iS bu tq rT wT sK sA sB sE oq bS bE bL rp) := hD
  have hz := lett_z hz enow_1
  refine lv_aload_n hx hb d_Mo_layBack_8 rfl (lv_at hl 0 rfl) ?_
  refine gf C hP 0 0 fkMo rfl (by decide) rfl qf_Mo_7 (gMo_0 _ _) d_Mo_layBack_9 ?_
  refine lv_bipush (v := 38) hx hb d_Mo_layBack_12 (by decide) ?_
  refine lv_lload_n hx hb d_Mo_layBack_14 rfl (lv_at hl 2 rfl) ?_
  refine stL C hP hD hS 1 rfl vi_38_215 cn_38 d_Mo_layBack_15 (fun now_2 enow_2 H locs hP hD hS => ?_)
  have hP : va_P g.1 vwCl (wMo g mo a o now_2 dr pa sa iS bu tq rT wT sK sA sB sE oq bS bE bL rp) H := hP
  have hD : va_D (inW (wMo g mo a o now dr pa sa iS bu tq rT wT sK sA sB sE oq bS bE bL rp)) (wMo g mo a o now_2 dr pa sa iS bu tq rT wT sK sA sB sE oq bS bE bL rp) := hD
  have hz := lett_z hz enow_2
  refine lv_lload hx hb d_Mo_layBack_16 (lv_at hl 3 rfl) ?_
  exact endL1 C hz hP hS d_Mo_layBack_18
abbrev rm_Mo_foretold : Room := { frames := 9, cells := 0, slots := 0, locals := 208 }
def HL_Mo_foretold_29 (p : Program) (l : Launch) (e : Env) (s : State) (m : MethodId) (args : Array Value) (below : List Frame) (meth : Method) (c : Code) (g : GX) (mo : Nat) (a : Nat → Nat) (ws0 : va_W) (o : IV) (now : LV) (dr : LV) (pa : LV) (sa : LV) (iS : IV) (bu : IV) (tq : IV) (rT : IV) (wT : IV) (sK : IV) (sA : IV) (sB : IV) (sE : IV) (oq : IV) (bS : IV) (bE : IV) (bL : IV) (rp : IV) (p1 : Int32) (p2 : Int32) (sp : (Int64 × IV × LV)) (ok : Prop) : Prop := ∀ (_ : Unit), ok → ∀ z : (Int64 × IV × LV), z = sp → ∀ (H : Heap) (locs : List Loc) (ls : Array Slot), va_P g.1 vwCl (wMo g mo a o now dr pa sa iS bu tq rT wT sK sA sB sE oq bS bE bL rp) H → va_D (inW ws0) (wMo g mo a o now dr pa sa iS bu tq rT wT sK sA sB sE oq bS bE bL rp) → va_S (inW ws0) s.heap H locs → lv_has ls 9 [(0, .ref mo), (1, .int p1), (2, .int p2)] → W p l e rm_Mo_foretold s m args below meth c H locs 0 0 (MQ below (CL g ws0 (fun u : IV × LV => wMo g mo a u.1 u.2 dr pa sa iS bu tq rT wT sK sA sB sE oq bS bE bL rp) z) args s 0 0 (inW ws0)) (F0 m 29 ls [.ref mo])
def HL_Mo_foretold_30 (p : Program) (l : Launch) (e : Env) (s : State) (m : MethodId) (args : Array Value) (below : List Frame) (meth : Method) (c : Code) (g : GX) (mo : Nat) (a : Nat → Nat) (ws0 : va_W) (o : IV) (now : LV) (dr : LV) (pa : LV) (sa : LV) (iS : IV) (bu : IV) (tq : IV) (rT : IV) (wT : IV) (sK : IV) (sA : IV) (sB : IV) (sE : IV) (oq : IV) (bS : IV) (bE : IV) (bL : IV) (rp : IV) (p1 : Int32) (p2 : Int32) (sp : Int32 → (Int64 × IV × LV)) (ok : Int32 → Prop) : Prop := ∀ (t1p30 : Int32), ok t1p30 → ∀ z : (Int64 × IV × LV), z = sp t1p30 → ∀ (H : Heap) (locs : List Loc) (ls : Array Slot), va_P g.1 vwCl (wMo g mo a o now dr pa sa iS bu tq rT wT sK sA sB sE oq bS bE bL rp) H → va_D (inW ws0) (wMo g mo a o now dr pa sa iS bu tq rT wT sK sA sB sE oq bS bE bL rp) → va_S (inW ws0) s.heap H locs → lv_has ls 9 [(0, .ref mo), (1, .int p1), (2, .int p2)] → W p l e rm_Mo_foretold s m args below meth c H locs 0 0 (MQ below (CL g ws0 (fun u : IV × LV => wMo g mo a u.1 u.2 dr pa sa iS bu tq rT wT sK sA sB sE oq bS bE bL rp) z) args s 0 0 (inW ws0)) (F0 m 30 ls [.int t1p30, .ref mo])
def HL_Mo_foretold_62 (p : Program) (l : Launch) (e : Env) (s : State) (m : MethodId) (args : Array Value) (below : List Frame) (meth : Method) (c : Code) (g : GX) (mo : Nat) (a : Nat → Nat) (ws0 : va_W) (o_5 : IV) (dr : LV) (pa : LV) (sa : LV) (iS : IV) (bu : IV) (tq : IV) (rT : IV) (wT : IV) (sK : IV) (sA : IV) (sB : IV) (sE : IV) (oq : IV) (bS : IV) (bE : IV) (bL : IV) (rp : IV) (p1 : Int32) (p2 : Int32) (v7 : Int64) (v8 : Int64) (sp : Int32 → LV → (Int64 × IV × LV)) (ok : Int32 → LV → Prop) : Prop := ∀ (x7p62 : Int32) (nowp62 : LV), ok x7p62 nowp62 → ∀ z : (Int64 × IV × LV), z = sp x7p62 nowp62 → ∀ (H : Heap) (locs : List Loc) (ls : Array Slot), va_P g.1 vwCl (wMo g mo a o_5 nowp62 dr pa sa iS bu tq rT wT sK sA sB sE oq bS bE bL rp) H → va_D (inW ws0) (wMo g mo a o_5 nowp62 dr pa sa iS bu tq rT wT sK sA sB sE oq bS bE bL rp) → va_S (inW ws0) s.heap H locs → lv_has ls 9 [(0, .ref mo), (1, .int p1), (2, .int p2), (3, .long v7), (5, .long v8), (7, .int x7p62)] → W p l e rm_Mo_foretold s m args below meth c H locs 0 0 (MQ below (CL g ws0 (fun u : IV × LV => wMo g mo a u.1 u.2 dr pa sa iS bu tq rT wT sK sA sB sE oq bS bE bL rp) z) args s 0 0 (inW ws0)) (F0 m 62 ls [])
def HL_Mo_foretold_81 (p : Program) (l : Launch) (e : Env) (s : State) (m : MethodId) (args : Array Value) (below : List Frame) (meth : Method) (c : Code) (g : GX) (mo : Nat) (a : Nat → Nat) (ws0 : va_W) (o_5 : IV) (nowp62 : LV) (dr : LV) (pa : LV) (sa : LV) (iS : IV) (bu : IV) (tq : IV) (rT : IV) (wT : IV) (sK : IV) (sA : IV) (sB : IV) (sE : IV) (oq : IV) (bS : IV) (bE : IV) (bL : IV) (rp : IV) (p2 : Int32) (v7 : Int64) (v8 : Int64) (sp : (Int64 × IV × LV)) (ok : Prop) : Prop := ∀ (_ : Unit), ok → ∀ z : (Int64 × IV × LV), z = sp → ∀ (H : Heap) (locs : List Loc) (ls : Array Slot), va_P g.1 vwCl (wMo g mo a o_5 nowp62 dr pa sa iS bu tq rT wT sK sA sB sE oq bS bE bL rp) H → va_D (inW ws0) (wMo g mo a o_5 nowp62 dr pa sa iS bu tq rT wT sK sA sB sE oq bS bE bL rp) → va_S (inW ws0) s.heap H locs → lv_has ls 9 [(0, .ref mo), (2, .int p2), (3, .long v7), (5, .long v8)] → W p l e rm_Mo_foretold s m args below meth c H locs 0 0 (MQ below (CL g ws0 (fun u : IV × LV => wMo g mo a u.1 u.2 dr pa sa iS bu tq rT wT sK sA sB sE oq bS bE bL rp) z) args s 0 0 (inW ws0)) (F0 m 81 ls [])
def HL_Mo_foretold_118 (p : Program) (l : Launch) (e : Env) (s : State) (m : MethodId) (args : Array Value) (below : List Frame) (meth : Method) (c : Code) (g : GX) (mo : Nat) (a : Nat → Nat) (ws0 : va_W) (o_5 : IV) (nowp62 : LV) (dr : LV) (pa : LV) (sa : LV) (iS : IV) (bu : IV) (tq : IV) (rT : IV) (wT : IV) (sK : IV) (sA : IV) (sB : IV) (sE : IV) (oq : IV) (bS : IV) (bE : IV) (bL : IV) (rp : IV) (v8 : Int64) (v7 : Int64) (sp : Int64 → (Int64 × IV × LV)) (ok : Int64 → Prop) : Prop := ∀ (t3p118 : Int64), ok t3p118 → ∀ z : (Int64 × IV × LV), z = sp t3p118 → ∀ (H : Heap) (locs : List Loc) (ls : Array Slot), va_P g.1 vwCl (wMo g mo a o_5 nowp62 dr pa sa iS bu tq rT wT sK sA sB sE oq bS bE bL rp) H → va_D (inW ws0) (wMo g mo a o_5 nowp62 dr pa sa iS bu tq rT wT sK sA sB sE oq bS bE bL rp) → va_S (inW ws0) s.heap H locs → lv_has ls 9 [] → W p l e rm_Mo_foretold s m args below meth c H locs 0 0 (MQ below (CL g ws0 (fun u : IV × LV => wMo g mo a u.1 u.2 dr pa sa iS bu tq rT wT sK sA sB sE oq bS bE bL rp) z) args s 0 0 (inW ws0)) (F0 m 118 ls [.long t3p118, .long v8, .long v7, .ref mo])
noncomputable def sp_Mo_foretold_118 (v7 : Int64) (v8 : Int64) (nowp62 : LV) (o_5 : IV)  (t3p118 : Int64) : Int64 × IV × LV := lett (sp_Mo_layBack v7 v8 t3p118 nowp62) fun (y17 : Int64 × LV) => (y17.1, (o_5, y17.2))
def ok_Mo_foretold_118 (v7 : Int64) (v8 : Int64) (nowp62 : LV) (o_5 : IV)   (t3p118 : Int64) : Prop := True
set_option maxRecDepth 100000 in
set_option maxHeartbeats 4000000 in
theorem k_Mo_foretold_118 {p : Program} {l : Launch} {e : Env} {s : State} {m : MethodId} {args : Array Value} {below : List Frame} {meth : Method} {c : Code} {g : GX} {mo : Nat} {a : Nat → Nat} {ws0 : va_W} {o_5 : IV} {nowp62 : LV} {dr : LV} {pa : LV} {sa : LV} {iS : IV} {bu : IV} {tq : IV} {rT : IV} {wT : IV} {sK : IV} {sA : IV} {sB : IV} {sE : IV} {oq : IV} {bS : IV} {bE : IV} {bL : IV} {rp : IV} {v8 : Int64} {v7 : Int64}  (C : Cx p s m args meth c (inW ws0) g "DecadeBridgeModel" b_Mo_foretold (some .long) 9)  : HL_Mo_foretold_118 p l e s m args below meth c g mo a ws0 o_5 nowp62 dr pa sa iS bu tq rT wT sK sA sB sE oq bS bE bL rp v8 v7 (sp_Mo_foretold_118 v7 v8 nowp62 o_5 ) (ok_Mo_foretold_118 v7 v8 nowp62 o_5  ) := by
  intro t3p118 hok z hz H locs ls hP hD hS hl
  obtain ⟨hx, hb, hr, hml, hown, hlk, hts, hK, hZo, hZ⟩ := id C
  unfold sp_Mo_foretold_118 at hz
  have hB : SubW g (inW ws0) s (wMo g mo a o_5 nowp62 dr pa sa iS bu tq rT wT sK sA sB sE oq bS bE bL rp) _ (List.range _) _ _ := (subF hP hD hS)
  refine goLF hB (run_v C mf_Mo_layBack qm_Mo_467 (c_Mo_layBack l g mo a o_5 nowp62 dr pa sa iS bu tq rT wT sK sA sB sE oq bS bE bL rp v7 v8 t3p118) rfl rfl ⟨Nat.le_of_ble_eq_true rfl, Nat.le_of_ble_eq_true rfl⟩ ⟨Nat.le_of_ble_eq_true rfl, Nat.le_of_ble_eq_true rfl⟩ hB rfl rfl hl rfl rfl (Nat.le_of_ble_eq_true rfl) d_Mo_foretold_118) (fun _ => rfl) (fun y17 ey17 H locs hP hD hS => ?_)
  have hP : va_P g.1 vwCl (wMo g mo a o_5 y17.2 dr pa sa iS bu tq rT wT sK sA sB sE oq bS bE bL rp) H := hP
  have hD : va_D (inW ws0) (wMo g mo a o_5 y17.2 dr pa sa iS bu tq rT wT sK sA sB sE oq bS bE bL rp) := hD
  have hz := lett_z hz ey17
  exact endL1 C hz hP hS d_Mo_foretold_121
noncomputable def sp_Mo_foretold_81 (p2 : Int32) (v7 : Int64) (v8 : Int64) (nowp62 : LV) (o_5 : IV)   : Int64 × IV × LV := if p2 = 0 then (sp_Mo_foretold_118 v7 v8 nowp62 o_5 (nowp62 37)) else (if p2 = (1 : Int32) then (sp_Mo_foretold_118 v7 v8 nowp62 o_5 (nowp62 38)) else (lett (sp_Mo_deflectionNow nowp62) fun (y16 : Int64) => sp_Mo_foretold_118 v7 v8 nowp62 o_5 y16))
def ok_Mo_foretold_81 (p2 : Int32) (v7 : Int64) (v8 : Int64) (nowp62 : LV) (o_5 : IV)    : Prop := ((p2 = 0 → True) ∧ (¬ (p2 = 0) → ((p2 = (1 : Int32) → True) ∧ (¬ (p2 = (1 : Int32)) → (ok_Mo_deflectionNow nowp62) ∧ True))))
set_option maxRecDepth 100000 in
set_option maxHeartbeats 4000000 in
theorem k_Mo_foretold_81 {p : Program} {l : Launch} {e : Env} {s : State} {m : MethodId} {args : Array Value} {below : List Frame} {meth : Method} {c : Code} {g : GX} {mo : Nat} {a : Nat → Nat} {ws0 : va_W} {o_5 : IV} {nowp62 : LV} {dr : LV} {pa : LV} {sa : LV} {iS : IV} {bu : IV} {tq : IV} {rT : IV} {wT : IV} {sK : IV} {sA : IV} {sB : IV} {sE : IV} {oq : IV} {bS : IV} {bE : IV} {bL : IV} {rp : IV} {p2 : Int32} {v7 : Int64} {v8 : Int64}  (C : Cx p s m args meth c (inW ws0) g "DecadeBridgeModel" b_Mo_foretold (some .long) 9)  : HL_Mo_foretold_81 p l e s m args below meth c g mo a ws0 o_5 nowp62 dr pa sa iS bu tq rT wT sK sA sB sE oq bS bE bL rp p2 v7 v8 (sp_Mo_foretold_81 p2 v7 v8 nowp62 o_5 ) (ok_Mo_foretold_81 p2 v7 v8 nowp62 o_5  ) := by
  intro _ hok z hz H locs ls hP hD hS hl
  obtain ⟨hx, hb, hr, hml, hown, hlk, hts, hK, hZo, hZ⟩ := id C
  unfold sp_Mo_foretold_81 at hz
  unfold ok_Mo_foretold_81 at hok
  refine lv_aload_n hx hb d_Mo_foretold_81 rfl (lv_at hl 0 rfl) ?_
  refine lv_lload_n hx hb d_Mo_foretold_82 rfl (lv_at hl 2 rfl) ?_
  refine lv_lload hx hb d_Mo_foretold_83 (lv_at hl 3 rfl) ?_
  refine lv_iload_n hx hb d_Mo_foretold_85 rfl (lv_at hl 1 rfl) ?_
  refine lv_if_ne (tgt := 99) hx hb d_Mo_foretold_86 (by decide) (fun c13 => ?_) (fun c13 => ?_)
  · have hz := hz.trans (if_neg c13)
    have hok := hok.2 c13
    refine lv_iload_n hx hb d_Mo_foretold_99 rfl (lv_at hl 1 rfl) ?_
    refine lv_iconst (v := 1) hx hb d_Mo_foretold_100 (by decide) ?_
    refine lv_icmp_ne (tgt := 114) hx hb d_Mo_foretold_101 (by decide) (fun c14 => ?_) (fun c14 => ?_)
    · have hz := hz.trans (if_neg c14)
      have hok := hok.2 c14
      refine lv_aload_n hx hb d_Mo_foretold_114 rfl (lv_at hl 0 rfl) ?_
      have hs15 := hok.1
      have hok := hok.2
      have hB : SubW g (inW ws0) s (wMo g mo a o_5 nowp62 dr pa sa iS bu tq rT wT sK sA sB sE oq bS bE bL rp) _ (List.range _) _ _ := (subF hP hD hS)
      refine goL0 hB (run_v C mf_Mo_deflectionNow qm_Mo_220 (c_Mo_deflectionNow l g mo a o_5 nowp62 dr pa sa iS bu tq rT wT sK sA sB sE oq bS bE bL rp hs15) rfl rfl ⟨Nat.le_of_ble_eq_true rfl, Nat.le_of_ble_eq_true rfl⟩ ⟨Nat.le_of_ble_eq_true rfl, Nat.le_of_ble_eq_true rfl⟩ hB rfl rfl hl rfl rfl (Nat.le_of_ble_eq_true rfl) d_Mo_foretold_115) (fun y16 ey16 H locs hP hS => ?_)
      have hz := lett_z hz ey16
      exact k_Mo_foretold_118 C y16 trivial _ hz _ _ ls hP hD hS (lv_sub hl [] rfl)
    · have hz := hz.trans (if_pos c14)
      refine lv_aload_n hx hb d_Mo_foretold_104 rfl (lv_at hl 0 rfl) ?_
      refine gf C hP 0 0 fkMo rfl (by decide) rfl qf_Mo_7 (gMo_0 _ _) d_Mo_foretold_105 ?_
      refine lv_bipush (v := 38) hx hb d_Mo_foretold_108 (by decide) ?_
      refine ldL C hP 1 rfl vi_38_215 cn_38 d_Mo_foretold_110 ?_
      refine lv_goto (tgt := 118) hx hb d_Mo_foretold_111 (by decide) ?_
      exact k_Mo_foretold_118 C (nowp62 38) trivial _ hz _ _ ls hP hD hS (lv_sub hl [] rfl)
  · have hz := hz.trans (if_pos c13)
    refine lv_aload_n hx hb d_Mo_foretold_89 rfl (lv_at hl 0 rfl) ?_
    refine gf C hP 0 0 fkMo rfl (by decide) rfl qf_Mo_7 (gMo_0 _ _) d_Mo_foretold_90 ?_
    refine lv_bipush (v := 37) hx hb d_Mo_foretold_93 (by decide) ?_
    refine ldL C hP 1 rfl vi_37_215 cn_37 d_Mo_foretold_95 ?_
    refine lv_goto (tgt := 118) hx hb d_Mo_foretold_96 (by decide) ?_
    exact k_Mo_foretold_118 C (nowp62 37) trivial _ hz _ _ ls hP hD hS (lv_sub hl [] rfl)
noncomputable def bd_Mo_foretold_62 (p1 : Int32) (p2 : Int32) (v7 : Int64) (v8 : Int64) (o_5 : IV) (r62 : Int32 → LV → (Int64 × IV × LV)) (x7p62 : Int32) (nowp62 : LV) : Int64 × IV × LV := if p1 ≤ x7p62 then (sp_Mo_foretold_81 p2 v7 v8 nowp62 o_5) else (lett (sp_Mo_heats (1 : Int32) nowp62) fun (y11 : Int32 × LV) => lett (x7p62 + (1 : Int32)) fun (v12 : Int32) => r62 v12 y11.2)
def okb_Mo_foretold_62 (p1 : Int32) (p2 : Int32) (v7 : Int64) (v8 : Int64) (o_5 : IV) (r62 : Int32 → LV → (Int64 × IV × LV)) (q62 : Int32 → LV → Prop) (x7p62 : Int32) (nowp62 : LV) : Prop := ((p1 ≤ x7p62 → ok_Mo_foretold_81 p2 v7 v8 nowp62 o_5) ∧ (¬ (p1 ≤ x7p62) → (ok_Mo_heats (1 : Int32) nowp62) ∧ lett (sp_Mo_heats (1 : Int32) nowp62) fun (y11 : Int32 × LV) => lett (x7p62 + (1 : Int32)) fun (v12 : Int32) => q62 v12 y11.2))
noncomputable def sp_Mo_foretold_62 (p1 : Int32) (p2 : Int32) (v7 : Int64) (v8 : Int64) (o_5 : IV)  : Nat → Int32 → LV → (Int64 × IV × LV)
  | 0 => fun _ _ => default
  | f + 1 => bd_Mo_foretold_62 p1 p2 v7 v8 o_5  (sp_Mo_foretold_62 p1 p2 v7 v8 o_5  f)
def ok_Mo_foretold_62 (p1 : Int32) (p2 : Int32) (v7 : Int64) (v8 : Int64) (o_5 : IV)   : Nat → Int32 → LV → Prop
  | 0 => fun _ _ => False
  | f + 1 => okb_Mo_foretold_62 p1 p2 v7 v8 o_5  (sp_Mo_foretold_62 p1 p2 v7 v8 o_5  f)  (ok_Mo_foretold_62 p1 p2 v7 v8 o_5   f)
set_option maxRecDepth 100000 in
set_option maxHeartbeats 4000000 in
theorem kb_Mo_foretold_62 {p : Program} {l : Launch} {e : Env} {s : State} {m : MethodId} {args : Array Value} {below : List Frame} {meth : Method} {c : Code} {g : GX} {mo : Nat} {a : Nat → Nat} {ws0 : va_W} {o_5 : IV} {dr : LV} {pa : LV} {sa : LV} {iS : IV} {bu : IV} {tq : IV} {rT : IV} {wT : IV} {sK : IV} {sA : IV} {sB : IV} {sE : IV} {oq : IV} {bS : IV} {bE : IV} {bL : IV} {rp : IV} {p1 : Int32} {p2 : Int32} {v7 : Int64} {v8 : Int64}  (C : Cx p s m args meth c (inW ws0) g "DecadeBridgeModel" b_Mo_foretold (some .long) 9) {r62 : Int32 → LV → (Int64 × IV × LV)} {q62 : Int32 → LV → Prop}  (ih62 : HL_Mo_foretold_62 p l e s m args below meth c g mo a ws0 o_5 dr pa sa iS bu tq rT wT sK sA sB sE oq bS bE bL rp p1 p2 v7 v8 r62 q62) : HL_Mo_foretold_62 p l e s m args below meth c g mo a ws0 o_5 dr pa sa iS bu tq rT wT sK sA sB sE oq bS bE bL rp p1 p2 v7 v8 (bd_Mo_foretold_62 p1 p2 v7 v8 o_5  r62) (okb_Mo_foretold_62 p1 p2 v7 v8 o_5  r62  q62) := by
  intro x7p62 nowp62 hok z hz H locs ls hP hD hS hl
  obtain ⟨hx, hb, hr, hml, hown, hlk, hts, hK, hZo, hZ⟩ := id C
  unfold bd_Mo_foretold_62 at hz
  unfold okb_Mo_foretold_62 at hok
  refine lv_iload hx hb d_Mo_foretold_62 (lv_at hl 5 rfl) ?_
  refine lv_iload_n hx hb d_Mo_foretold_64 rfl (lv_at hl 1 rfl) ?_
  refine lv_icmp_ge (tgt := 81) hx hb d_Mo_foretold_65 (by decide) (fun c9 => ?_) (fun c9 => ?_)
  · have hz := hz.trans (if_pos c9)
    have hok := hok.1 c9
    exact k_Mo_foretold_81 C () hok _ hz _ _ ls hP hD hS (lv_sub hl [0, 2, 3, 4] rfl)
  · have hz := hz.trans (if_neg c9)
    have hok := hok.2 c9
    refine lv_aload_n hx hb d_Mo_foretold_68 rfl (lv_at hl 0 rfl) ?_
    refine lv_iconst (v := 1) hx hb d_Mo_foretold_69 (by decide) ?_
    have hs10 := hok.1
    have hok := hok.2
    have hB : SubW g (inW ws0) s (wMo g mo a o_5 nowp62 dr pa sa iS bu tq rT wT sK sA sB sE oq bS bE bL rp) _ (List.range _) _ _ := (subF hP hD hS)
    refine goIF hB (run_v C mf_Mo_heats qm_Mo_206 (c_Mo_heats l g mo a o_5 nowp62 dr pa sa iS bu tq rT wT sK sA sB sE oq bS bE bL rp (1 : Int32) hs10) rfl rfl ⟨Nat.le_of_ble_eq_true rfl, Nat.le_of_ble_eq_true rfl⟩ ⟨Nat.le_of_ble_eq_true rfl, Nat.le_of_ble_eq_true rfl⟩ hB rfl rfl hl rfl rfl (Nat.le_of_ble_eq_true rfl) d_Mo_foretold_70) (fun _ => rfl) (fun y11 ey11 H locs hP hD hS => ?_)
    have hP : va_P g.1 vwCl (wMo g mo a o_5 y11.2 dr pa sa iS bu tq rT wT sK sA sB sE oq bS bE bL rp) H := hP
    have hD : va_D (inW ws0) (wMo g mo a o_5 y11.2 dr pa sa iS bu tq rT wT sK sA sB sE oq bS bE bL rp) := hD
    have hz := lett_z hz ey11
    have hok := lett_o hok ey11
    refine lv_istore (lv' := [(8, .int y11.1), (0, .ref mo), (1, .int p1), (2, .int p2), (3, .long v7), (5, .long v8), (7, .int x7p62)]) hx hb d_Mo_foretold_73 hl (by decide) rfl (fun ls hl => ?_)
    obtain ⟨v12, ev12⟩ : ∃ y : Int32, y = x7p62 + (1 : Int32) := ⟨_, rfl⟩
    have hz := lett_z hz ev12
    have hok := lett_o hok ev12
    refine lv_iinc (v := v12) (lv' := [(7, .int v12), (8, .int y11.1), (0, .ref mo), (1, .int p1), (2, .int p2), (3, .long v7), (5, .long v8)]) hx hb d_Mo_foretold_75 hl (k := 6) rfl (by rw [ev12]; rfl) (by decide) rfl (fun ls hl => ?_)
    refine lv_goto (tgt := 62) hx hb d_Mo_foretold_78 (by decide) ?_
    exact ih62 v12 y11.2 hok _ hz _ _ ls hP hD hS (lv_sub hl [2, 3, 4, 5, 6, 0] rfl)
theorem k_Mo_foretold_62 {p : Program} {l : Launch} {e : Env} {s : State} {m : MethodId} {args : Array Value} {below : List Frame} {meth : Method} {c : Code} {g : GX} {mo : Nat} {a : Nat → Nat} {ws0 : va_W} {o_5 : IV} {dr : LV} {pa : LV} {sa : LV} {iS : IV} {bu : IV} {tq : IV} {rT : IV} {wT : IV} {sK : IV} {sA : IV} {sB : IV} {sE : IV} {oq : IV} {bS : IV} {bE : IV} {bL : IV} {rp : IV} {p1 : Int32} {p2 : Int32} {v7 : Int64} {v8 : Int64}  (C : Cx p s m args meth c (inW ws0) g "DecadeBridgeModel" b_Mo_foretold (some .long) 9) (f : Nat)  : HL_Mo_foretold_62 p l e s m args below meth c g mo a ws0 o_5 dr pa sa iS bu tq rT wT sK sA sB sE oq bS bE bL rp p1 p2 v7 v8 (sp_Mo_foretold_62 p1 p2 v7 v8 o_5  f) (ok_Mo_foretold_62 p1 p2 v7 v8 o_5   f) := by
  induction f with
  | zero => intro x7p62 nowp62 hok; exact False.elim hok
  | succ f ih => exact kb_Mo_foretold_62 C  ih
noncomputable def sp_Mo_foretold_30 (o : IV) (now : LV) (p1 : Int32) (p2 : Int32)  (t1p30 : Int32) : Int64 × IV × LV := lett (upd o 6 t1p30) fun (o_5 : IV) => if (o_5 6) ≤ 0 then (lett (now 37) fun (v7 : Int64) => lett (now 38) fun (v8 : Int64) => sp_Mo_foretold_62 p1 p2 v7 v8 o_5 big (0 : Int32) now) else (((0 : Int64), (o_5, now)))
def ok_Mo_foretold_30 (o : IV) (now : LV) (p1 : Int32) (p2 : Int32)   (t1p30 : Int32) : Prop := lett (upd o 6 t1p30) fun (o_5 : IV) => (((o_5 6) ≤ 0 → lett (now 37) fun (v7 : Int64) => lett (now 38) fun (v8 : Int64) => ok_Mo_foretold_62 p1 p2 v7 v8 o_5 big (0 : Int32) now) ∧ (¬ ((o_5 6) ≤ 0) → True))
set_option maxRecDepth 100000 in
set_option maxHeartbeats 4000000 in
theorem k_Mo_foretold_30 {p : Program} {l : Launch} {e : Env} {s : State} {m : MethodId} {args : Array Value} {below : List Frame} {meth : Method} {c : Code} {g : GX} {mo : Nat} {a : Nat → Nat} {ws0 : va_W} {o : IV} {now : LV} {dr : LV} {pa : LV} {sa : LV} {iS : IV} {bu : IV} {tq : IV} {rT : IV} {wT : IV} {sK : IV} {sA : IV} {sB : IV} {sE : IV} {oq : IV} {bS : IV} {bE : IV} {bL : IV} {rp : IV} {p1 : Int32} {p2 : Int32}  (C : Cx p s m args meth c (inW ws0) g "DecadeBridgeModel" b_Mo_foretold (some .long) 9)  : HL_Mo_foretold_30 p l e s m args below meth c g mo a ws0 o now dr pa sa iS bu tq rT wT sK sA sB sE oq bS bE bL rp p1 p2 (sp_Mo_foretold_30 o now p1 p2 ) (ok_Mo_foretold_30 o now p1 p2  ) := by
  intro t1p30 hok z hz H locs ls hP hD hS hl
  obtain ⟨hx, hb, hr, hml, hown, hlk, hts, hK, hZo, hZ⟩ := id C
  unfold sp_Mo_foretold_30 at hz
  unfold ok_Mo_foretold_30 at hok
  refine pfI C hP hD hS 0 6 fkMo rfl (by decide) rfl qf_Mo_107 rfl rfl rfl (Nat.le_of_ble_eq_true rfl) (ff := fun o => fMo a o) (sMo_6 _ _ _) d_Mo_foretold_30 (fun o_5 eo_5 H locs hP hD hS => ?_)
  have hP : va_P g.1 vwCl (wMo g mo a o_5 now dr pa sa iS bu tq rT wT sK sA sB sE oq bS bE bL rp) H := hP
  have hD : va_D (inW ws0) (wMo g mo a o_5 now dr pa sa iS bu tq rT wT sK sA sB sE oq bS bE bL rp) := hD
  have hz := lett_z hz eo_5
  have hok := lett_o hok eo_5
  refine lv_aload_n hx hb d_Mo_foretold_33 rfl (lv_at hl 0 rfl) ?_
  refine gf C hP 0 6 fkMo rfl (by decide) rfl qf_Mo_107 (gMo_6 _ _) d_Mo_foretold_34 ?_
  refine lv_if_le (tgt := 42) hx hb d_Mo_foretold_37 (by decide) (fun c6 => ?_) (fun c6 => ?_)
  · have hz := hz.trans (if_pos c6)
    have hok := hok.1 c6
    refine lv_aload_n hx hb d_Mo_foretold_42 rfl (lv_at hl 0 rfl) ?_
    refine gf C hP 0 0 fkMo rfl (by decide) rfl qf_Mo_7 (gMo_0 _ _) d_Mo_foretold_43 ?_
    refine lv_bipush (v := 37) hx hb d_Mo_foretold_46 (by decide) ?_
    refine ldL C hP 1 rfl vi_37_215 cn_37 d_Mo_foretold_48 ?_
    refine lv_topl (fun v7 ev7 => ?_)
    have hz := lett_z hz ev7
    have hok := lett_o hok ev7
    refine lv_lstore_n (lv' := [(3, .long v7), (0, .ref mo), (1, .int p1), (2, .int p2)]) hx hb d_Mo_foretold_49 rfl hl (by decide) rfl (fun ls hl => ?_)
    refine lv_aload_n hx hb d_Mo_foretold_50 rfl (lv_at hl 1 rfl) ?_
    refine gf C hP 0 0 fkMo rfl (by decide) rfl qf_Mo_7 (gMo_0 _ _) d_Mo_foretold_51 ?_
    refine lv_bipush (v := 38) hx hb d_Mo_foretold_54 (by decide) ?_
    refine ldL C hP 1 rfl vi_38_215 cn_38 d_Mo_foretold_56 ?_
    refine lv_topl (fun v8 ev8 => ?_)
    have hz := lett_z hz ev8
    have hok := lett_o hok ev8
    refine lv_lstore (lv' := [(5, .long v8), (3, .long v7), (0, .ref mo), (1, .int p1), (2, .int p2)]) hx hb d_Mo_foretold_57 hl (by decide) rfl (fun ls hl => ?_)
    refine lv_iconst (v := 0) hx hb d_Mo_foretold_59 (by decide) ?_
    refine lv_istore (lv' := [(7, .int (0 : Int32)), (5, .long v8), (3, .long v7), (0, .ref mo), (1, .int p1), (2, .int p2)]) hx hb d_Mo_foretold_60 hl (by decide) rfl (fun ls hl => ?_)
    exact k_Mo_foretold_62 C big (0 : Int32) now hok _ hz _ _ ls hP hD hS (lv_sub hl [3, 4, 5, 2, 1, 0] rfl)
  · have hz := hz.trans (if_neg c6)
    refine lv_lconst (v := 0) hx hb d_Mo_foretold_40 (by decide) ?_
    exact endL1 C hz hP hS d_Mo_foretold_41
noncomputable def sp_Mo_foretold_29 (o : IV) (now : LV) (p1 : Int32) (p2 : Int32)   : Int64 × IV × LV := sp_Mo_foretold_30 o now p1 p2 (1 : Int32)
def ok_Mo_foretold_29 (o : IV) (now : LV) (p1 : Int32) (p2 : Int32)    : Prop := ok_Mo_foretold_30 o now p1 p2 (1 : Int32)
set_option maxRecDepth 100000 in
set_option maxHeartbeats 4000000 in
theorem k_Mo_foretold_29 {p : Program} {l : Launch} {e : Env} {s : State} {m : MethodId} {args : Array Value} {below : List Frame} {meth : Method} {c : Code} {g : GX} {mo : Nat} {a : Nat → Nat} {ws0 : va_W} {o : IV} {now : LV} {dr : LV} {pa : LV} {sa : LV} {iS : IV} {bu : IV} {tq : IV} {rT : IV} {wT : IV} {sK : IV} {sA : IV} {sB : IV} {sE : IV} {oq : IV} {bS : IV} {bE : IV} {bL : IV} {rp : IV} {p1 : Int32} {p2 : Int32}  (C : Cx p s m args meth c (inW ws0) g "DecadeBridgeModel" b_Mo_foretold (some .long) 9)  : HL_Mo_foretold_29 p l e s m args below meth c g mo a ws0 o now dr pa sa iS bu tq rT wT sK sA sB sE oq bS bE bL rp p1 p2 (sp_Mo_foretold_29 o now p1 p2 ) (ok_Mo_foretold_29 o now p1 p2  ) := by
  intro _ hok z hz H locs ls hP hD hS hl
  obtain ⟨hx, hb, hr, hml, hown, hlk, hts, hK, hZo, hZ⟩ := id C
  unfold sp_Mo_foretold_29 at hz
  unfold ok_Mo_foretold_29 at hok
  refine lv_iconst (v := 1) hx hb d_Mo_foretold_29 (by decide) ?_
  exact k_Mo_foretold_30 C (1 : Int32) hok _ hz _ _ ls hP hD hS hl
noncomputable def sp_Mo_foretold (p1 : Int32) (p2 : Int32) (o : IV) (now : LV) : Int64 × IV × LV := lett (sp_Mo_in p1.toInt64 (0 : Int64) (300 : Int64)) fun (y1 : Int32) => if y1 = 0 then (sp_Mo_foretold_29 o now p1 p2) else (lett (sp_Mo_in p2.toInt64 (0 : Int64) (2 : Int64)) fun (y3 : Int32) => if y3 = 0 then (sp_Mo_foretold_29 o now p1 p2) else (sp_Mo_foretold_30 o now p1 p2 (0 : Int32)))
def ok_Mo_foretold (p1 : Int32) (p2 : Int32) (o : IV) (now : LV) : Prop := lett (sp_Mo_in p1.toInt64 (0 : Int64) (300 : Int64)) fun (y1 : Int32) => ((y1 = 0 → ok_Mo_foretold_29 o now p1 p2) ∧ (¬ (y1 = 0) → lett (sp_Mo_in p2.toInt64 (0 : Int64) (2 : Int64)) fun (y3 : Int32) => ((y3 = 0 → ok_Mo_foretold_29 o now p1 p2) ∧ (¬ (y3 = 0) → ok_Mo_foretold_30 o now p1 p2 (0 : Int32)))))
set_option maxRecDepth 100000 in
set_option maxHeartbeats 4000000 in
theorem c_Mo_foretold (l : Launch) (g : GX) (mo : Nat) (a : Nat → Nat) (o : IV) (now : LV) (dr : LV) (pa : LV) (sa : LV) (iS : IV) (bu : IV) (tq : IV) (rT : IV) (wT : IV) (sK : IV) (sA : IV) (sB : IV) (sE : IV) (oq : IV) (bS : IV) (bE : IV) (bL : IV) (rp : IV) (p1 : Int32) (p2 : Int32) (hok : ok_Mo_foretold p1 p2 o now) : Met l y_Mo_foretold (wsY y_Mo_foretold b_Mo_foretold 9 (some .long)) rm_Mo_foretold (CP g [.ref mo, .int p1, .int p2] (wMo g mo a o now dr pa sa iS bu tq rT wT sK sA sB sE oq bS bE bL rp)) (CL g (wMo g mo a o now dr pa sa iS bu tq rT wT sK sA sB sE oq bS bE bL rp) (fun u : IV × LV => wMo g mo a u.1 u.2 dr pa sa iS bu tq rT wT sK sA sB sE oq bS bE bL rp) (sp_Mo_foretold p1 p2 o now)) 0 0 (inW (wMo g mo a o now dr pa sa iS bu tq rT wT sK sA sB sE oq bS bE bL rp)) := by
  refine Met.ofW (cc := b_Mo_foretold) (maxL := 9) (ret := (some .long)) pn_Mo rfl ?_
  intro p e s m args below meth c s₁ B hml hv
  obtain ⟨rfl, C, hP, hD, hS⟩ := enter "DecadeBridgeModel" rfl B hml hv
  obtain ⟨hx, hb, hr, hml, hown, hlk, hts, hK, hZo, hZ⟩ := id C
  refine entryW (lv := [(0, .ref mo), (1, .int p1), (2, .int p2)]) rfl (Nat.le_of_ble_eq_true rfl) (fun ls hl => ?_)
  obtain ⟨z, hz⟩ : ∃ z, z = sp_Mo_foretold p1 p2 o now := ⟨_, rfl⟩
  rw [← hz]
  unfold sp_Mo_foretold at hz
  unfold ok_Mo_foretold at hok
  refine lv_aload_n hx hb d_Mo_foretold_0 rfl (lv_at hl 0 rfl) ?_
  refine lv_iload_n hx hb d_Mo_foretold_1 rfl (lv_at hl 1 rfl) ?_
  refine lv_i2l hx hb d_Mo_foretold_2 rfl ?_
  refine lv_lconst (v := 0) hx hb d_Mo_foretold_3 (by decide) ?_
  refine lv_ldc2 hx hb hown (hts _ qk_Mo_465) d_Mo_foretold_4 ?_
  have hB : SubW g (inW (wMo g mo a o now dr pa sa iS bu tq rT wT sK sA sB sE oq bS bE bL rp)) s (wMo g mo a o now dr pa sa iS bu tq rT wT sK sA sB sE oq bS bE bL rp) _ (List.range _) _ _ := (subF hP hD hS)
  refine goI0 hB (run_s C mf_Mo_in qm_Mo_118 (c_Mo_in l g mo a o now dr pa sa iS bu tq rT wT sK sA sB sE oq bS bE bL rp p1.toInt64 (0 : Int64) (300 : Int64)) rfl rfl ⟨Nat.le_of_ble_eq_true rfl, Nat.le_of_ble_eq_true rfl⟩ ⟨Nat.le_of_ble_eq_true rfl, Nat.le_of_ble_eq_true rfl⟩ hB hl rfl rfl (Nat.le_of_ble_eq_true rfl) d_Mo_foretold_7) (fun y1 ey1 H locs hP hS => ?_)
  have hz := lett_z hz ey1
  have hok := lett_o hok ey1
  refine lv_if_eq (tgt := 29) hx hb d_Mo_foretold_10 (by decide) (fun c2 => ?_) (fun c2 => ?_)
  · have hz := hz.trans (if_pos c2)
    have hok := hok.1 c2
    exact k_Mo_foretold_29 C () hok _ hz _ _ ls hP hD hS hl
  · have hz := hz.trans (if_neg c2)
    have hok := hok.2 c2
    refine lv_iload_n hx hb d_Mo_foretold_13 rfl (lv_at hl 2 rfl) ?_
    refine lv_i2l hx hb d_Mo_foretold_14 rfl ?_
    refine lv_lconst (v := 0) hx hb d_Mo_foretold_15 (by decide) ?_
    refine lv_ldc2 hx hb hown (hts _ qk_Mo_100) d_Mo_foretold_16 ?_
    have hB : SubW g (inW (wMo g mo a o now dr pa sa iS bu tq rT wT sK sA sB sE oq bS bE bL rp)) s (wMo g mo a o now dr pa sa iS bu tq rT wT sK sA sB sE oq bS bE bL rp) _ (List.range _) _ _ := (subF hP hD hS)
    refine goI0 hB (run_s C mf_Mo_in qm_Mo_118 (c_Mo_in l g mo a o now dr pa sa iS bu tq rT wT sK sA sB sE oq bS bE bL rp p2.toInt64 (0 : Int64) (2 : Int64)) rfl rfl ⟨Nat.le_of_ble_eq_true rfl, Nat.le_of_ble_eq_true rfl⟩ ⟨Nat.le_of_ble_eq_true rfl, Nat.le_of_ble_eq_true rfl⟩ hB hl rfl rfl (Nat.le_of_ble_eq_true rfl) d_Mo_foretold_19) (fun y3 ey3 H locs hP hS => ?_)
    have hz := lett_z hz ey3
    have hok := lett_o hok ey3
    refine lv_if_eq (tgt := 29) hx hb d_Mo_foretold_22 (by decide) (fun c4 => ?_) (fun c4 => ?_)
    · have hz := hz.trans (if_pos c4)
      have hok := hok.1 c4
      exact k_Mo_foretold_29 C () hok _ hz _ _ ls hP hD hS hl
    · have hz := hz.trans (if_neg c4)
      have hok := hok.2 c4
      refine lv_iconst (v := 0) hx hb d_Mo_foretold_25 (by decide) ?_
      refine lv_goto (tgt := 30) hx hb d_Mo_foretold_26 (by decide) ?_
      exact k_Mo_foretold_30 C (0 : Int32) hok _ hz _ _ ls hP hD hS hl
abbrev rm_Mo_stillIn : Room := { frames := 8, cells := 0, slots := 0, locals := 185 }
def HL_Mo_stillIn_20 (p : Program) (l : Launch) (e : Env) (s : State) (m : MethodId) (args : Array Value) (below : List Frame) (meth : Method) (c : Code) (g : GX) (mo : Nat) (a : Nat → Nat) (ws0 : va_W) (o : IV) (dr : LV) (pa : LV) (sa : LV) (iS : IV) (bu : IV) (tq : IV) (rT : IV) (wT : IV) (sK : IV) (sA : IV) (sB : IV) (sE : IV) (oq : IV) (bS : IV) (bE : IV) (bL : IV) (rp : IV) (p1 : Int32) (v1 : Int64) (v2 : Int64) (sp : Int32 → LV → (Int32 × LV)) (ok : Int32 → LV → Prop) : Prop := ∀ (x6p20 : Int32) (nowp20 : LV), ok x6p20 nowp20 → ∀ z : (Int32 × LV), z = sp x6p20 nowp20 → ∀ (H : Heap) (locs : List Loc) (ls : Array Slot), va_P g.1 vwCl (wMo g mo a o nowp20 dr pa sa iS bu tq rT wT sK sA sB sE oq bS bE bL rp) H → va_D (inW ws0) (wMo g mo a o nowp20 dr pa sa iS bu tq rT wT sK sA sB sE oq bS bE bL rp) → va_S (inW ws0) s.heap H locs → lv_has ls 7 [(0, .ref mo), (1, .int p1), (2, .long v1), (4, .long v2), (6, .int x6p20)] → W p l e rm_Mo_stillIn s m args below meth c H locs 0 0 (MQ below (CI g ws0 (fun u : LV => wMo g mo a o u dr pa sa iS bu tq rT wT sK sA sB sE oq bS bE bL rp) z) args s 0 0 (inW ws0)) (F0 m 20 ls [])
def HL_Mo_stillIn_42 (p : Program) (l : Launch) (e : Env) (s : State) (m : MethodId) (args : Array Value) (below : List Frame) (meth : Method) (c : Code) (g : GX) (mo : Nat) (a : Nat → Nat) (ws0 : va_W) (o : IV) (dr : LV) (pa : LV) (sa : LV) (iS : IV) (bu : IV) (tq : IV) (rT : IV) (wT : IV) (sK : IV) (sA : IV) (sB : IV) (sE : IV) (oq : IV) (bS : IV) (bE : IV) (bL : IV) (rp : IV) (v1 : Int64) (v2 : Int64) (x6p20 : Int32) (sp : LV → (Int32 × LV)) (ok : LV → Prop) : Prop := ∀ (nowp42 : LV), ok nowp42 → ∀ z : (Int32 × LV), z = sp nowp42 → ∀ (H : Heap) (locs : List Loc) (ls : Array Slot), va_P g.1 vwCl (wMo g mo a o nowp42 dr pa sa iS bu tq rT wT sK sA sB sE oq bS bE bL rp) H → va_D (inW ws0) (wMo g mo a o nowp42 dr pa sa iS bu tq rT wT sK sA sB sE oq bS bE bL rp) → va_S (inW ws0) s.heap H locs → lv_has ls 7 [(0, .ref mo), (2, .long v1), (4, .long v2), (6, .int x6p20)] → W p l e rm_Mo_stillIn s m args below meth c H locs 0 0 (MQ below (CI g ws0 (fun u : LV => wMo g mo a o u dr pa sa iS bu tq rT wT sK sA sB sE oq bS bE bL rp) z) args s 0 0 (inW ws0)) (F0 m 42 ls [])
def HL_Mo_stillIn_63 (p : Program) (l : Launch) (e : Env) (s : State) (m : MethodId) (args : Array Value) (below : List Frame) (meth : Method) (c : Code) (g : GX) (mo : Nat) (a : Nat → Nat) (ws0 : va_W) (o : IV) (nowp42 : LV) (dr : LV) (pa : LV) (sa : LV) (iS : IV) (bu : IV) (tq : IV) (rT : IV) (wT : IV) (sK : IV) (sA : IV) (sB : IV) (sE : IV) (oq : IV) (bS : IV) (bE : IV) (bL : IV) (rp : IV) (v2 : Int64) (v1 : Int64) (sp : Int64 → (Int32 × LV)) (ok : Int64 → Prop) : Prop := ∀ (t3p63 : Int64), ok t3p63 → ∀ z : (Int32 × LV), z = sp t3p63 → ∀ (H : Heap) (locs : List Loc) (ls : Array Slot), va_P g.1 vwCl (wMo g mo a o nowp42 dr pa sa iS bu tq rT wT sK sA sB sE oq bS bE bL rp) H → va_D (inW ws0) (wMo g mo a o nowp42 dr pa sa iS bu tq rT wT sK sA sB sE oq bS bE bL rp) → va_S (inW ws0) s.heap H locs → lv_has ls 7 [] → W p l e rm_Mo_stillIn s m args below meth c H locs 0 0 (MQ below (CI g ws0 (fun u : LV => wMo g mo a o u dr pa sa iS bu tq rT wT sK sA sB sE oq bS bE bL rp) z) args s 0 0 (inW ws0)) (F0 m 63 ls [.long t3p63, .long v2, .long v1, .ref mo])
noncomputable def sp_Mo_stillIn_63 (v1 : Int64) (v2 : Int64) (nowp42 : LV)  (t3p63 : Int64) : Int32 × LV := lett (sp_Mo_layBack v1 v2 t3p63 nowp42) fun (y9 : Int64 × LV) => (y9.1.toInt32, y9.2)
def ok_Mo_stillIn_63 (v1 : Int64) (v2 : Int64) (nowp42 : LV)   (t3p63 : Int64) : Prop := True
set_option maxRecDepth 100000 in
set_option maxHeartbeats 4000000 in
theorem k_Mo_stillIn_63 {p : Program} {l : Launch} {e : Env} {s : State} {m : MethodId} {args : Array Value} {below : List Frame} {meth : Method} {c : Code} {g : GX} {mo : Nat} {a : Nat → Nat} {ws0 : va_W} {o : IV} {nowp42 : LV} {dr : LV} {pa : LV} {sa : LV} {iS : IV} {bu : IV} {tq : IV} {rT : IV} {wT : IV} {sK : IV} {sA : IV} {sB : IV} {sE : IV} {oq : IV} {bS : IV} {bE : IV} {bL : IV} {rp : IV} {v2 : Int64} {v1 : Int64}  (C : Cx p s m args meth c (inW ws0) g "DecadeBridgeModel" b_Mo_stillIn (some .int) 7)  : HL_Mo_stillIn_63 p l e s m args below meth c g mo a ws0 o nowp42 dr pa sa iS bu tq rT wT sK sA sB sE oq bS bE bL rp v2 v1 (sp_Mo_stillIn_63 v1 v2 nowp42 ) (ok_Mo_stillIn_63 v1 v2 nowp42  ) := by
  intro t3p63 hok z hz H locs ls hP hD hS hl
  obtain ⟨hx, hb, hr, hml, hown, hlk, hts, hK, hZo, hZ⟩ := id C
  unfold sp_Mo_stillIn_63 at hz
  have hB : SubW g (inW ws0) s (wMo g mo a o nowp42 dr pa sa iS bu tq rT wT sK sA sB sE oq bS bE bL rp) _ (List.range _) _ _ := (subF hP hD hS)
  refine goLF hB (run_v C mf_Mo_layBack qm_Mo_467 (c_Mo_layBack l g mo a o nowp42 dr pa sa iS bu tq rT wT sK sA sB sE oq bS bE bL rp v1 v2 t3p63) rfl rfl ⟨Nat.le_of_ble_eq_true rfl, Nat.le_of_ble_eq_true rfl⟩ ⟨Nat.le_of_ble_eq_true rfl, Nat.le_of_ble_eq_true rfl⟩ hB rfl rfl hl rfl rfl (Nat.le_of_ble_eq_true rfl) d_Mo_stillIn_63) (fun _ => rfl) (fun y9 ey9 H locs hP hD hS => ?_)
  have hP : va_P g.1 vwCl (wMo g mo a o y9.2 dr pa sa iS bu tq rT wT sK sA sB sE oq bS bE bL rp) H := hP
  have hD : va_D (inW ws0) (wMo g mo a o y9.2 dr pa sa iS bu tq rT wT sK sA sB sE oq bS bE bL rp) := hD
  have hz := lett_z hz ey9
  refine lv_l2i hx hb d_Mo_stillIn_66 rfl ?_
  exact endI1 C hz hP hS d_Mo_stillIn_67
noncomputable def sp_Mo_stillIn_42 (x6p20 : Int32) (v1 : Int64) (v2 : Int64)  (nowp42 : LV) : Int32 × LV := if (300 : Int32) < x6p20 then (sp_Mo_stillIn_63 v1 v2 nowp42 (-1 : Int64)) else (sp_Mo_stillIn_63 v1 v2 nowp42 x6p20.toInt64)
def ok_Mo_stillIn_42 (x6p20 : Int32) (v1 : Int64) (v2 : Int64)   (nowp42 : LV) : Prop := True
set_option maxRecDepth 100000 in
set_option maxHeartbeats 4000000 in
theorem k_Mo_stillIn_42 {p : Program} {l : Launch} {e : Env} {s : State} {m : MethodId} {args : Array Value} {below : List Frame} {meth : Method} {c : Code} {g : GX} {mo : Nat} {a : Nat → Nat} {ws0 : va_W} {o : IV} {dr : LV} {pa : LV} {sa : LV} {iS : IV} {bu : IV} {tq : IV} {rT : IV} {wT : IV} {sK : IV} {sA : IV} {sB : IV} {sE : IV} {oq : IV} {bS : IV} {bE : IV} {bL : IV} {rp : IV} {v1 : Int64} {v2 : Int64} {x6p20 : Int32}  (C : Cx p s m args meth c (inW ws0) g "DecadeBridgeModel" b_Mo_stillIn (some .int) 7)  : HL_Mo_stillIn_42 p l e s m args below meth c g mo a ws0 o dr pa sa iS bu tq rT wT sK sA sB sE oq bS bE bL rp v1 v2 x6p20 (sp_Mo_stillIn_42 x6p20 v1 v2 ) (ok_Mo_stillIn_42 x6p20 v1 v2  ) := by
  intro nowp42 hok z hz H locs ls hP hD hS hl
  obtain ⟨hx, hb, hr, hml, hown, hlk, hts, hK, hZo, hZ⟩ := id C
  unfold sp_Mo_stillIn_42 at hz
  refine lv_aload_n hx hb d_Mo_stillIn_42 rfl (lv_at hl 0 rfl) ?_
  refine lv_lload_n hx hb d_Mo_stillIn_43 rfl (lv_at hl 1 rfl) ?_
  refine lv_lload hx hb d_Mo_stillIn_44 (lv_at hl 2 rfl) ?_
  refine lv_iload hx hb d_Mo_stillIn_46 (lv_at hl 3 rfl) ?_
  refine lv_sipush (v := 300) hx hb d_Mo_stillIn_48 (by decide) ?_
  refine lv_icmp_gt (tgt := 60) hx hb d_Mo_stillIn_51 (by decide) (fun c8 => ?_) (fun c8 => ?_)
  · have hz := hz.trans (if_pos c8)
    refine lv_ldc2 hx hb hown (hts _ qk_Mo_470) d_Mo_stillIn_60 ?_
    exact k_Mo_stillIn_63 C (-1 : Int64) trivial _ hz _ _ ls hP hD hS (lv_sub hl [] rfl)
  · have hz := hz.trans (if_neg c8)
    refine lv_iload hx hb d_Mo_stillIn_54 (lv_at hl 3 rfl) ?_
    refine lv_i2l hx hb d_Mo_stillIn_56 rfl ?_
    refine lv_goto (tgt := 63) hx hb d_Mo_stillIn_57 (by decide) ?_
    exact k_Mo_stillIn_63 C x6p20.toInt64 trivial _ hz _ _ ls hP hD hS (lv_sub hl [] rfl)
noncomputable def bd_Mo_stillIn_20 (v1 : Int64) (v2 : Int64) (p1 : Int32) (r20 : Int32 → LV → (Int32 × LV)) (x6p20 : Int32) (nowp20 : LV) : Int32 × LV := if (300 : Int32) < x6p20 then (sp_Mo_stillIn_42 x6p20 v1 v2 nowp20) else (lett (sp_Mo_heats p1 nowp20) fun (y5 : Int32 × LV) => if y5.1 = 0 then (sp_Mo_stillIn_42 x6p20 v1 v2 y5.2) else (lett (x6p20 + (1 : Int32)) fun (v7 : Int32) => r20 v7 y5.2))
def okb_Mo_stillIn_20 (v1 : Int64) (v2 : Int64) (p1 : Int32) (r20 : Int32 → LV → (Int32 × LV)) (q20 : Int32 → LV → Prop) (x6p20 : Int32) (nowp20 : LV) : Prop := (((300 : Int32) < x6p20 → True) ∧ (¬ ((300 : Int32) < x6p20) → (ok_Mo_heats p1 nowp20) ∧ lett (sp_Mo_heats p1 nowp20) fun (y5 : Int32 × LV) => ((y5.1 = 0 → True) ∧ (¬ (y5.1 = 0) → lett (x6p20 + (1 : Int32)) fun (v7 : Int32) => q20 v7 y5.2))))
noncomputable def sp_Mo_stillIn_20 (v1 : Int64) (v2 : Int64) (p1 : Int32)  : Nat → Int32 → LV → (Int32 × LV)
  | 0 => fun _ _ => default
  | f + 1 => bd_Mo_stillIn_20 v1 v2 p1  (sp_Mo_stillIn_20 v1 v2 p1  f)
def ok_Mo_stillIn_20 (v1 : Int64) (v2 : Int64) (p1 : Int32)   : Nat → Int32 → LV → Prop
  | 0 => fun _ _ => False
  | f + 1 => okb_Mo_stillIn_20 v1 v2 p1  (sp_Mo_stillIn_20 v1 v2 p1  f)  (ok_Mo_stillIn_20 v1 v2 p1   f)
set_option maxRecDepth 100000 in
set_option maxHeartbeats 4000000 in
theorem kb_Mo_stillIn_20 {p : Program} {l : Launch} {e : Env} {s : State} {m : MethodId} {args : Array Value} {below : List Frame} {meth : Method} {c : Code} {g : GX} {mo : Nat} {a : Nat → Nat} {ws0 : va_W} {o : IV} {dr : LV} {pa : LV} {sa : LV} {iS : IV} {bu : IV} {tq : IV} {rT : IV} {wT : IV} {sK : IV} {sA : IV} {sB : IV} {sE : IV} {oq : IV} {bS : IV} {bE : IV} {bL : IV} {rp : IV} {p1 : Int32} {v1 : Int64} {v2 : Int64}  (C : Cx p s m args meth c (inW ws0) g "DecadeBridgeModel" b_Mo_stillIn (some .int) 7) {r20 : Int32 → LV → (Int32 × LV)} {q20 : Int32 → LV → Prop}  (ih20 : HL_Mo_stillIn_20 p l e s m args below meth c g mo a ws0 o dr pa sa iS bu tq rT wT sK sA sB sE oq bS bE bL rp p1 v1 v2 r20 q20) : HL_Mo_stillIn_20 p l e s m args below meth c g mo a ws0 o dr pa sa iS bu tq rT wT sK sA sB sE oq bS bE bL rp p1 v1 v2 (bd_Mo_stillIn_20 v1 v2 p1  r20) (okb_Mo_stillIn_20 v1 v2 p1  r20  q20) := by
  intro x6p20 nowp20 hok z hz H locs ls hP hD hS hl
  obtain ⟨hx, hb, hr, hml, hown, hlk, hts, hK, hZo, hZ⟩ := id C
  unfold bd_Mo_stillIn_20 at hz
  unfold okb_Mo_stillIn_20 at hok
  refine lv_iload hx hb d_Mo_stillIn_20 (lv_at hl 4 rfl) ?_
  refine lv_sipush (v := 300) hx hb d_Mo_stillIn_22 (by decide) ?_
  refine lv_icmp_gt (tgt := 42) hx hb d_Mo_stillIn_25 (by decide) (fun c3 => ?_) (fun c3 => ?_)
  · have hz := hz.trans (if_pos c3)
    exact k_Mo_stillIn_42 C nowp20 trivial _ hz _ _ ls hP hD hS (lv_sub hl [0, 2, 3, 4] rfl)
  · have hz := hz.trans (if_neg c3)
    have hok := hok.2 c3
    refine lv_aload_n hx hb d_Mo_stillIn_28 rfl (lv_at hl 0 rfl) ?_
    refine lv_iload_n hx hb d_Mo_stillIn_29 rfl (lv_at hl 1 rfl) ?_
    have hs4 := hok.1
    have hok := hok.2
    have hB : SubW g (inW ws0) s (wMo g mo a o nowp20 dr pa sa iS bu tq rT wT sK sA sB sE oq bS bE bL rp) _ (List.range _) _ _ := (subF hP hD hS)
    refine goIF hB (run_v C mf_Mo_heats qm_Mo_206 (c_Mo_heats l g mo a o nowp20 dr pa sa iS bu tq rT wT sK sA sB sE oq bS bE bL rp p1 hs4) rfl rfl ⟨Nat.le_of_ble_eq_true rfl, Nat.le_of_ble_eq_true rfl⟩ ⟨Nat.le_of_ble_eq_true rfl, Nat.le_of_ble_eq_true rfl⟩ hB rfl rfl hl rfl rfl (Nat.le_of_ble_eq_true rfl) d_Mo_stillIn_30) (fun _ => rfl) (fun y5 ey5 H locs hP hD hS => ?_)
    have hP : va_P g.1 vwCl (wMo g mo a o y5.2 dr pa sa iS bu tq rT wT sK sA sB sE oq bS bE bL rp) H := hP
    have hD : va_D (inW ws0) (wMo g mo a o y5.2 dr pa sa iS bu tq rT wT sK sA sB sE oq bS bE bL rp) := hD
    have hz := lett_z hz ey5
    have hok := lett_o hok ey5
    refine lv_if_eq (tgt := 42) hx hb d_Mo_stillIn_33 (by decide) (fun c6 => ?_) (fun c6 => ?_)
    · have hz := hz.trans (if_pos c6)
      exact k_Mo_stillIn_42 C y5.2 trivial _ hz _ _ ls hP hD hS (lv_sub hl [0, 2, 3, 4] rfl)
    · have hz := hz.trans (if_neg c6)
      have hok := hok.2 c6
      obtain ⟨v7, ev7⟩ : ∃ y : Int32, y = x6p20 + (1 : Int32) := ⟨_, rfl⟩
      have hz := lett_z hz ev7
      have hok := lett_o hok ev7
      refine lv_iinc (v := v7) (lv' := [(6, .int v7), (0, .ref mo), (1, .int p1), (2, .long v1), (4, .long v2)]) hx hb d_Mo_stillIn_36 hl (k := 4) rfl (by rw [ev7]; rfl) (by decide) rfl (fun ls hl => ?_)
      refine lv_goto (tgt := 20) hx hb d_Mo_stillIn_39 (by decide) ?_
      exact ih20 v7 y5.2 hok _ hz _ _ ls hP hD hS (lv_sub hl [1, 2, 3, 4, 0] rfl)
theorem k_Mo_stillIn_20 {p : Program} {l : Launch} {e : Env} {s : State} {m : MethodId} {args : Array Value} {below : List Frame} {meth : Method} {c : Code} {g : GX} {mo : Nat} {a : Nat → Nat} {ws0 : va_W} {o : IV} {dr : LV} {pa : LV} {sa : LV} {iS : IV} {bu : IV} {tq : IV} {rT : IV} {wT : IV} {sK : IV} {sA : IV} {sB : IV} {sE : IV} {oq : IV} {bS : IV} {bE : IV} {bL : IV} {rp : IV} {p1 : Int32} {v1 : Int64} {v2 : Int64}  (C : Cx p s m args meth c (inW ws0) g "DecadeBridgeModel" b_Mo_stillIn (some .int) 7) (f : Nat)  : HL_Mo_stillIn_20 p l e s m args below meth c g mo a ws0 o dr pa sa iS bu tq rT wT sK sA sB sE oq bS bE bL rp p1 v1 v2 (sp_Mo_stillIn_20 v1 v2 p1  f) (ok_Mo_stillIn_20 v1 v2 p1   f) := by
  induction f with
  | zero => intro x6p20 nowp20 hok; exact False.elim hok
  | succ f ih => exact kb_Mo_stillIn_20 C  ih
noncomputable def sp_Mo_stillIn (p1 : Int32) (now : LV) : Int32 × LV := lett (now 37) fun (v1 : Int64) => lett (now 38) fun (v2 : Int64) => sp_Mo_stillIn_20 v1 v2 p1 big (0 : Int32) now
def ok_Mo_stillIn (p1 : Int32) (now : LV) : Prop := lett (now 37) fun (v1 : Int64) => lett (now 38) fun (v2 : Int64) => ok_Mo_stillIn_20 v1 v2 p1 big (0 : Int32) now
set_option maxRecDepth 100000 in
set_option maxHeartbeats 4000000 in
theorem c_Mo_stillIn (l : Launch) (g : GX) (mo : Nat) (a : Nat → Nat) (o : IV) (now : LV) (dr : LV) (pa : LV) (sa : LV) (iS : IV) (bu : IV) (tq : IV) (rT : IV) (wT : IV) (sK : IV) (sA : IV) (sB : IV) (sE : IV) (oq : IV) (bS : IV) (bE : IV) (bL : IV) (rp : IV) (p1 : Int32) (hok : ok_Mo_stillIn p1 now) : Met l y_Mo_stillIn (wsY y_Mo_stillIn b_Mo_stillIn 7 (some .int)) rm_Mo_stillIn (CP g [.ref mo, .int p1] (wMo g mo a o now dr pa sa iS bu tq rT wT sK sA sB sE oq bS bE bL rp)) (CI g (wMo g mo a o now dr pa sa iS bu tq rT wT sK sA sB sE oq bS bE bL rp) (fun u : LV => wMo g mo a o u dr pa sa iS bu tq rT wT sK sA sB sE oq bS bE bL rp) (sp_Mo_stillIn p1 now)) 0 0 (inW (wMo g mo a o now dr pa sa iS bu tq rT wT sK sA sB sE oq bS bE bL rp)) := by
  refine Met.ofW (cc := b_Mo_stillIn) (maxL := 7) (ret := (some .int)) pn_Mo rfl ?_
  intro p e s m args below meth c s₁ B hml hv
  obtain ⟨rfl, C, hP, hD, hS⟩ := enter "DecadeBridgeModel" rfl B hml hv
  obtain ⟨hx, hb, hr, hml, hown, hlk, hts, hK, hZo, hZ⟩ := id C
  refine entryW (lv := [(0, .ref mo), (1, .int p1)]) rfl (Nat.le_of_ble_eq_true rfl) (fun ls hl => ?_)
  obtain ⟨z, hz⟩ : ∃ z, z = sp_Mo_stillIn p1 now := ⟨_, rfl⟩
  rw [← hz]
  unfold sp_Mo_stillIn at hz
  unfold ok_Mo_stillIn at hok
  refine lv_aload_n hx hb d_Mo_stillIn_0 rfl (lv_at hl 0 rfl) ?_
  refine gf C hP 0 0 fkMo rfl (by decide) rfl qf_Mo_7 (gMo_0 _ _) d_Mo_stillIn_1 ?_
  refine lv_bipush (v := 37) hx hb d_Mo_stillIn_4 (by decide) ?_
  refine ldL C hP 1 rfl vi_37_215 cn_37 d_Mo_stillIn_6 ?_
  refine lv_topl (fun v1 ev1 => ?_)
  have hz := lett_z hz ev1
  have hok := lett_o hok ev1
  refine lv_lstore_n (lv' := [(2, .long v1), (0, .ref mo), (1, .int p1)]) hx hb d_Mo_stillIn_7 rfl hl (by decide) rfl (fun ls hl => ?_)
  refine lv_aload_n hx hb d_Mo_stillIn_8 rfl (lv_at hl 1 rfl) ?_
  refine gf C hP 0 0 fkMo rfl (by decide) rfl qf_Mo_7 (gMo_0 _ _) d_Mo_stillIn_9 ?_
  refine lv_bipush (v := 38) hx hb d_Mo_stillIn_12 (by decide) ?_
  refine ldL C hP 1 rfl vi_38_215 cn_38 d_Mo_stillIn_14 ?_
  refine lv_topl (fun v2 ev2 => ?_)
  have hz := lett_z hz ev2
  have hok := lett_o hok ev2
  refine lv_lstore (lv' := [(4, .long v2), (2, .long v1), (0, .ref mo), (1, .int p1)]) hx hb d_Mo_stillIn_15 hl (by decide) rfl (fun ls hl => ?_)
  refine lv_iconst (v := 0) hx hb d_Mo_stillIn_17 (by decide) ?_
  refine lv_istore (lv' := [(6, .int (0 : Int32)), (4, .long v2), (2, .long v1), (0, .ref mo), (1, .int p1)]) hx hb d_Mo_stillIn_18 hl (by decide) rfl (fun ls hl => ?_)
  exact k_Mo_stillIn_20 C big (0 : Int32) now hok _ hz _ _ ls hP hD hS (lv_sub hl [3, 4, 2, 1, 0] rfl)
abbrev rm_Mo_steadyIn : Room := { frames := 9, cells := 0, slots := 0, locals := 211 }
noncomputable def sp_Mo_steadyIn (o : IV) (now : LV) : Int32 × IV × LV := lett (upd o 6 (0 : Int32)) fun (o_1 : IV) => lett (sp_Mo_stillIn (1 : Int32) now) fun (y3 : Int32 × LV) => (y3.1, (o_1, y3.2))
def ok_Mo_steadyIn (o : IV) (now : LV) : Prop := lett (upd o 6 (0 : Int32)) fun (o_1 : IV) => (ok_Mo_stillIn (1 : Int32) now) ∧ True
set_option maxRecDepth 100000 in
set_option maxHeartbeats 4000000 in
theorem c_Mo_steadyIn (l : Launch) (g : GX) (mo : Nat) (a : Nat → Nat) (o : IV) (now : LV) (dr : LV) (pa : LV) (sa : LV) (iS : IV) (bu : IV) (tq : IV) (rT : IV) (wT : IV) (sK : IV) (sA : IV) (sB : IV) (sE : IV) (oq : IV) (bS : IV) (bE : IV) (bL : IV) (rp : IV)  (hok : ok_Mo_steadyIn o now) : Met l y_Mo_steadyIn (wsY y_Mo_steadyIn b_Mo_steadyIn 1 (some .int)) rm_Mo_steadyIn (CP g [.ref mo] (wMo g mo a o now dr pa sa iS bu tq rT wT sK sA sB sE oq bS bE bL rp)) (CI g (wMo g mo a o now dr pa sa iS bu tq rT wT sK sA sB sE oq bS bE bL rp) (fun u : IV × LV => wMo g mo a u.1 u.2 dr pa sa iS bu tq rT wT sK sA sB sE oq bS bE bL rp) (sp_Mo_steadyIn o now)) 0 0 (inW (wMo g mo a o now dr pa sa iS bu tq rT wT sK sA sB sE oq bS bE bL rp)) := by
  refine Met.ofW (cc := b_Mo_steadyIn) (maxL := 1) (ret := (some .int)) pn_Mo rfl ?_
  intro p e s m args below meth c s₁ B hml hv
  obtain ⟨rfl, C, hP, hD, hS⟩ := enter "DecadeBridgeModel" rfl B hml hv
  obtain ⟨hx, hb, hr, hml, hown, hlk, hts, hK, hZo, hZ⟩ := id C
  refine entryW (lv := [(0, .ref mo)]) rfl (Nat.le_of_ble_eq_true rfl) (fun ls hl => ?_)
  obtain ⟨z, hz⟩ : ∃ z, z = sp_Mo_steadyIn o now := ⟨_, rfl⟩
  rw [← hz]
  unfold sp_Mo_steadyIn at hz
  unfold ok_Mo_steadyIn at hok
  refine lv_aload_n hx hb d_Mo_steadyIn_0 rfl (lv_at hl 0 rfl) ?_
  refine lv_iconst (v := 0) hx hb d_Mo_steadyIn_1 (by decide) ?_
  refine pfI C hP hD hS 0 6 fkMo rfl (by decide) rfl qf_Mo_107 rfl rfl rfl (Nat.le_of_ble_eq_true rfl) (ff := fun o => fMo a o) (sMo_6 _ _ _) d_Mo_steadyIn_2 (fun o_1 eo_1 H locs hP hD hS => ?_)
  have hP : va_P g.1 vwCl (wMo g mo a o_1 now dr pa sa iS bu tq rT wT sK sA sB sE oq bS bE bL rp) H := hP
  have hD : va_D (inW (wMo g mo a o now dr pa sa iS bu tq rT wT sK sA sB sE oq bS bE bL rp)) (wMo g mo a o_1 now dr pa sa iS bu tq rT wT sK sA sB sE oq bS bE bL rp) := hD
  have hz := lett_z hz eo_1
  have hok := lett_o hok eo_1
  refine lv_aload_n hx hb d_Mo_steadyIn_5 rfl (lv_at hl 0 rfl) ?_
  refine lv_iconst (v := 1) hx hb d_Mo_steadyIn_6 (by decide) ?_
  have hs2 := hok.1
  have hok := hok.2
  have hB : SubW g (inW (wMo g mo a o now dr pa sa iS bu tq rT wT sK sA sB sE oq bS bE bL rp)) s (wMo g mo a o_1 now dr pa sa iS bu tq rT wT sK sA sB sE oq bS bE bL rp) _ (List.range _) _ _ := (subF hP hD hS)
  refine goIF hB (run_v C mf_Mo_stillIn qm_Mo_472 (c_Mo_stillIn l g mo a o_1 now dr pa sa iS bu tq rT wT sK sA sB sE oq bS bE bL rp (1 : Int32) hs2) rfl rfl ⟨Nat.le_of_ble_eq_true rfl, Nat.le_of_ble_eq_true rfl⟩ ⟨Nat.le_of_ble_eq_true rfl, Nat.le_of_ble_eq_true rfl⟩ hB rfl rfl hl rfl rfl (Nat.le_of_ble_eq_true rfl) d_Mo_steadyIn_7) (fun _ => rfl) (fun y3 ey3 H locs hP hD hS => ?_)
  have hP : va_P g.1 vwCl (wMo g mo a o_1 y3.2 dr pa sa iS bu tq rT wT sK sA sB sE oq bS bE bL rp) H := hP
  have hD : va_D (inW (wMo g mo a o now dr pa sa iS bu tq rT wT sK sA sB sE oq bS bE bL rp)) (wMo g mo a o_1 y3.2 dr pa sa iS bu tq rT wT sK sA sB sE oq bS bE bL rp) := hD
  have hz := lett_z hz ey3
  exact endI1 C hz hP hS d_Mo_steadyIn_10
abbrev rm_Mo_cooledIn : Room := { frames := 9, cells := 0, slots := 0, locals := 211 }
noncomputable def sp_Mo_cooledIn (o : IV) (now : LV) : Int32 × IV × LV := lett (upd o 6 (0 : Int32)) fun (o_1 : IV) => lett (sp_Mo_stillIn (0 : Int32) now) fun (y3 : Int32 × LV) => (y3.1, (o_1, y3.2))
def ok_Mo_cooledIn (o : IV) (now : LV) : Prop := lett (upd o 6 (0 : Int32)) fun (o_1 : IV) => (ok_Mo_stillIn (0 : Int32) now) ∧ True
set_option maxRecDepth 100000 in
set_option maxHeartbeats 4000000 in
theorem c_Mo_cooledIn (l : Launch) (g : GX) (mo : Nat) (a : Nat → Nat) (o : IV) (now : LV) (dr : LV) (pa : LV) (sa : LV) (iS : IV) (bu : IV) (tq : IV) (rT : IV) (wT : IV) (sK : IV) (sA : IV) (sB : IV) (sE : IV) (oq : IV) (bS : IV) (bE : IV) (bL : IV) (rp : IV)  (hok : ok_Mo_cooledIn o now) : Met l y_Mo_cooledIn (wsY y_Mo_cooledIn b_Mo_cooledIn 1 (some .int)) rm_Mo_cooledIn (CP g [.ref mo] (wMo g mo a o now dr pa sa iS bu tq rT wT sK sA sB sE oq bS bE bL rp)) (CI g (wMo g mo a o now dr pa sa iS bu tq rT wT sK sA sB sE oq bS bE bL rp) (fun u : IV × LV => wMo g mo a u.1 u.2 dr pa sa iS bu tq rT wT sK sA sB sE oq bS bE bL rp) (sp_Mo_cooledIn o now)) 0 0 (inW (wMo g mo a o now dr pa sa iS bu tq rT wT sK sA sB sE oq bS bE bL rp)) := by
  refine Met.ofW (cc := b_Mo_cooledIn) (maxL := 1) (ret := (some .int)) pn_Mo rfl ?_
  intro p e s m args below meth c s₁ B hml hv
  obtain ⟨rfl, C, hP, hD, hS⟩ := enter "DecadeBridgeModel" rfl B hml hv
  obtain ⟨hx, hb, hr, hml, hown, hlk, hts, hK, hZo, hZ⟩ := id C
  refine entryW (lv := [(0, .ref mo)]) rfl (Nat.le_of_ble_eq_true rfl) (fun ls hl => ?_)
  obtain ⟨z, hz⟩ : ∃ z, z = sp_Mo_cooledIn o now := ⟨_, rfl⟩
  rw [← hz]
  unfold sp_Mo_cooledIn at hz
  unfold ok_Mo_cooledIn at hok
  refine lv_aload_n hx hb d_Mo_cooledIn_0 rfl (lv_at hl 0 rfl) ?_
  refine lv_iconst (v := 0) hx hb d_Mo_cooledIn_1 (by decide) ?_
  refine pfI C hP hD hS 0 6 fkMo rfl (by decide) rfl qf_Mo_107 rfl rfl rfl (Nat.le_of_ble_eq_true rfl) (ff := fun o => fMo a o) (sMo_6 _ _ _) d_Mo_cooledIn_2 (fun o_1 eo_1 H locs hP hD hS => ?_)
  have hP : va_P g.1 vwCl (wMo g mo a o_1 now dr pa sa iS bu tq rT wT sK sA sB sE oq bS bE bL rp) H := hP
  have hD : va_D (inW (wMo g mo a o now dr pa sa iS bu tq rT wT sK sA sB sE oq bS bE bL rp)) (wMo g mo a o_1 now dr pa sa iS bu tq rT wT sK sA sB sE oq bS bE bL rp) := hD
  have hz := lett_z hz eo_1
  have hok := lett_o hok eo_1
  refine lv_aload_n hx hb d_Mo_cooledIn_5 rfl (lv_at hl 0 rfl) ?_
  refine lv_iconst (v := 0) hx hb d_Mo_cooledIn_6 (by decide) ?_
  have hs2 := hok.1
  have hok := hok.2
  have hB : SubW g (inW (wMo g mo a o now dr pa sa iS bu tq rT wT sK sA sB sE oq bS bE bL rp)) s (wMo g mo a o_1 now dr pa sa iS bu tq rT wT sK sA sB sE oq bS bE bL rp) _ (List.range _) _ _ := (subF hP hD hS)
  refine goIF hB (run_v C mf_Mo_stillIn qm_Mo_472 (c_Mo_stillIn l g mo a o_1 now dr pa sa iS bu tq rT wT sK sA sB sE oq bS bE bL rp (0 : Int32) hs2) rfl rfl ⟨Nat.le_of_ble_eq_true rfl, Nat.le_of_ble_eq_true rfl⟩ ⟨Nat.le_of_ble_eq_true rfl, Nat.le_of_ble_eq_true rfl⟩ hB rfl rfl hl rfl rfl (Nat.le_of_ble_eq_true rfl) d_Mo_cooledIn_7) (fun _ => rfl) (fun y3 ey3 H locs hP hD hS => ?_)
  have hP : va_P g.1 vwCl (wMo g mo a o_1 y3.2 dr pa sa iS bu tq rT wT sK sA sB sE oq bS bE bL rp) H := hP
  have hD : va_D (inW (wMo g mo a o now dr pa sa iS bu tq rT wT sK sA sB sE oq bS bE bL rp)) (wMo g mo a o_1 y3.2 dr pa sa iS bu tq rT wT sK sA sB sE oq bS bE bL rp) := hD
  have hz := lett_z hz ey3
  exact endI1 C hz hP hS d_Mo_cooledIn_10
abbrev rm_Mo_copy_pp : Room := { frames := 0, cells := 0, slots := 0, locals := 0 }
def HL_Mo_copy_pp_3 (p : Program) (l : Launch) (e : Env) (s : State) (m : MethodId) (args : Array Value) (below : List Frame) (meth : Method) (c : Code) (g : GX) (mo : Nat) (a : Nat → Nat) (ws0 : va_W) (o : IV) (now : LV) (dr : LV) (sa : LV) (iS : IV) (bu : IV) (tq : IV) (rT : IV) (wT : IV) (sK : IV) (sA : IV) (sB : IV) (sE : IV) (oq : IV) (bS : IV) (bE : IV) (bL : IV) (rp : IV) (p2 : Int32) (p4 : Int32) (sp : Int32 → LV → LV) (ok : Int32 → LV → Prop) : Prop := ∀ (x4p3 : Int32) (pap3 : LV), ok x4p3 pap3 → ∀ z : LV, z = sp x4p3 pap3 → ∀ (H : Heap) (locs : List Loc) (ls : Array Slot), va_P g.1 vwCl (wMo g mo a o now dr pap3 sa iS bu tq rT wT sK sA sB sE oq bS bE bL rp) H → va_D (inW ws0) (wMo g mo a o now dr pap3 sa iS bu tq rT wT sK sA sB sE oq bS bE bL rp) → va_S (inW ws0) s.heap H locs → lv_has ls 5 [(0, .ref (a 2)), (1, .int p2), (2, .ref (a 2)), (3, .int p4), (4, .int x4p3)] → W p l e rm_Mo_copy_pp s m args below meth c H locs 0 0 (MQ below (CV g ws0 (fun u : LV => wMo g mo a o now dr u sa iS bu tq rT wT sK sA sB sE oq bS bE bL rp) z) args s 0 0 (inW ws0)) (F0 m 3 ls [])
noncomputable def bd_Mo_copy_pp_3 (p4 : Int32) (p2 : Int32) (r3 : Int32 → LV → LV) (x4p3 : Int32) (pap3 : LV) : LV := if (215 : Int32) ≤ x4p3 then (pap3) else (lett (vp_updL pap3 (((215 : Int32) * p4) + x4p3).toNatClampNeg (pap3 (((215 : Int32) * p2) + x4p3).toNatClampNeg)) fun (pa_4 : LV) => lett (x4p3 + (1 : Int32)) fun (v5 : Int32) => r3 v5 pa_4)
def okb_Mo_copy_pp_3 (p4 : Int32) (p2 : Int32) (r3 : Int32 → LV → LV) (q3 : Int32 → LV → Prop) (x4p3 : Int32) (pap3 : LV) : Prop := (((215 : Int32) ≤ x4p3 → True) ∧ (¬ ((215 : Int32) ≤ x4p3) → (vp_in (((215 : Int32) * p2) + x4p3) 1720) ∧ (vp_in (((215 : Int32) * p4) + x4p3) 1720) ∧ lett (vp_updL pap3 (((215 : Int32) * p4) + x4p3).toNatClampNeg (pap3 (((215 : Int32) * p2) + x4p3).toNatClampNeg)) fun (pa_4 : LV) => lett (x4p3 + (1 : Int32)) fun (v5 : Int32) => q3 v5 pa_4))
noncomputable def sp_Mo_copy_pp_3 (p4 : Int32) (p2 : Int32)  : Nat → Int32 → LV → LV
  | 0 => fun _ _ => default
  | f + 1 => bd_Mo_copy_pp_3 p4 p2  (sp_Mo_copy_pp_3 p4 p2  f)
def ok_Mo_copy_pp_3 (p4 : Int32) (p2 : Int32)   : Nat → Int32 → LV → Prop
  | 0 => fun _ _ => False
  | f + 1 => okb_Mo_copy_pp_3 p4 p2  (sp_Mo_copy_pp_3 p4 p2  f)  (ok_Mo_copy_pp_3 p4 p2   f)
set_option maxRecDepth 100000 in
set_option maxHeartbeats 4000000 in
theorem kb_Mo_copy_pp_3 {p : Program} {l : Launch} {e : Env} {s : State} {m : MethodId} {args : Array Value} {below : List Frame} {meth : Method} {c : Code} {g : GX} {mo : Nat} {a : Nat → Nat} {ws0 : va_W} {o : IV} {now : LV} {dr : LV} {sa : LV} {iS : IV} {bu : IV} {tq : IV} {rT : IV} {wT : IV} {sK : IV} {sA : IV} {sB : IV} {sE : IV} {oq : IV} {bS : IV} {bE : IV} {bL : IV} {rp : IV} {p2 : Int32} {p4 : Int32}  (C : Cx p s m args meth c (inW ws0) g "DecadeBridgeModel" b_Mo_copy none 5) {r3 : Int32 → LV → LV} {q3 : Int32 → LV → Prop}  (ih3 : HL_Mo_copy_pp_3 p l e s m args below meth c g mo a ws0 o now dr sa iS bu tq rT wT sK sA sB sE oq bS bE bL rp p2 p4 r3 q3) : HL_Mo_copy_pp_3 p l e s m args below meth c g mo a ws0 o now dr sa iS bu tq rT wT sK sA sB sE oq bS bE bL rp p2 p4 (bd_Mo_copy_pp_3 p4 p2  r3) (okb_Mo_copy_pp_3 p4 p2  r3  q3) := by
  intro x4p3 pap3 hok z hz H locs ls hP hD hS hl
  obtain ⟨hx, hb, hr, hml, hown, hlk, hts, hK, hZo, hZ⟩ := id C
  unfold bd_Mo_copy_pp_3 at hz
  unfold okb_Mo_copy_pp_3 at hok
  refine lv_iload hx hb d_Mo_copy_3 (lv_at hl 4 rfl) ?_
  refine lv_sipush (v := 215) hx hb d_Mo_copy_5 (by decide) ?_
  refine lv_icmp_ge (tgt := 37) hx hb d_Mo_copy_8 (by decide) (fun c1 => ?_) (fun c1 => ?_)
  · have hz := hz.trans (if_pos c1)
    exact endV C hz hP hS d_Mo_copy_37
  · have hz := hz.trans (if_neg c1)
    have hok := hok.2 c1
    refine lv_aload_n hx hb d_Mo_copy_11 rfl (lv_at hl 2 rfl) ?_
    refine lv_sipush (v := 215) hx hb d_Mo_copy_12 (by decide) ?_
    refine lv_iload_n hx hb d_Mo_copy_15 rfl (lv_at hl 3 rfl) ?_
    refine lv_imul hx hb d_Mo_copy_16 ?_
    refine lv_iload hx hb d_Mo_copy_17 (lv_at hl 4 rfl) ?_
    refine lv_iadd hx hb d_Mo_copy_19 ?_
    refine lv_aload_n hx hb d_Mo_copy_20 rfl (lv_at hl 0 rfl) ?_
    refine lv_sipush (v := 215) hx hb d_Mo_copy_21 (by decide) ?_
    refine lv_iload_n hx hb d_Mo_copy_24 rfl (lv_at hl 1 rfl) ?_
    refine lv_imul hx hb d_Mo_copy_25 ?_
    refine lv_iload hx hb d_Mo_copy_26 (lv_at hl 4 rfl) ?_
    refine lv_iadd hx hb d_Mo_copy_28 ?_
    have hs2 := hok.1
    have hok := hok.2
    refine ldL C hP 3 rfl hs2 rfl d_Mo_copy_29 ?_
    have hs3 := hok.1
    have hok := hok.2
    refine stL C hP hD hS 3 rfl hs3 rfl d_Mo_copy_30 (fun pa_4 epa_4 H locs hP hD hS => ?_)
    have hP : va_P g.1 vwCl (wMo g mo a o now dr pa_4 sa iS bu tq rT wT sK sA sB sE oq bS bE bL rp) H := hP
    have hD : va_D (inW ws0) (wMo g mo a o now dr pa_4 sa iS bu tq rT wT sK sA sB sE oq bS bE bL rp) := hD
    have hz := lett_z hz epa_4
    have hok := lett_o hok epa_4
    obtain ⟨v5, ev5⟩ : ∃ y : Int32, y = x4p3 + (1 : Int32) := ⟨_, rfl⟩
    have hz := lett_z hz ev5
    have hok := lett_o hok ev5
    refine lv_iinc (v := v5) (lv' := [(4, .int v5), (0, .ref (a 2)), (1, .int p2), (2, .ref (a 2)), (3, .int p4)]) hx hb d_Mo_copy_31 hl (k := 4) rfl (by rw [ev5]; rfl) (by decide) rfl (fun ls hl => ?_)
    refine lv_goto (tgt := 3) hx hb d_Mo_copy_34 (by decide) ?_
    exact ih3 v5 pa_4 hok _ hz _ _ ls hP hD hS (lv_sub hl [1, 2, 3, 4, 0] rfl)
theorem k_Mo_copy_pp_3 {p : Program} {l : Launch} {e : Env} {s : State} {m : MethodId} {args : Array Value} {below : List Frame} {meth : Method} {c : Code} {g : GX} {mo : Nat} {a : Nat → Nat} {ws0 : va_W} {o : IV} {now : LV} {dr : LV} {sa : LV} {iS : IV} {bu : IV} {tq : IV} {rT : IV} {wT : IV} {sK : IV} {sA : IV} {sB : IV} {sE : IV} {oq : IV} {bS : IV} {bE : IV} {bL : IV} {rp : IV} {p2 : Int32} {p4 : Int32}  (C : Cx p s m args meth c (inW ws0) g "DecadeBridgeModel" b_Mo_copy none 5) (f : Nat)  : HL_Mo_copy_pp_3 p l e s m args below meth c g mo a ws0 o now dr sa iS bu tq rT wT sK sA sB sE oq bS bE bL rp p2 p4 (sp_Mo_copy_pp_3 p4 p2  f) (ok_Mo_copy_pp_3 p4 p2   f) := by
  induction f with
  | zero => intro x4p3 pap3 hok; exact False.elim hok
  | succ f ih => exact kb_Mo_copy_pp_3 C  ih
noncomputable def sp_Mo_copy_pp (p2 : Int32) (p4 : Int32) (pa : LV) : LV := sp_Mo_copy_pp_3 p4 p2 big (0 : Int32) pa
def ok_Mo_copy_pp (p2 : Int32) (p4 : Int32) (pa : LV) : Prop := ok_Mo_copy_pp_3 p4 p2 big (0 : Int32) pa
set_option maxRecDepth 100000 in
set_option maxHeartbeats 4000000 in
theorem c_Mo_copy_pp (l : Launch) (g : GX) (mo : Nat) (a : Nat → Nat) (o : IV) (now : LV) (dr : LV) (pa : LV) (sa : LV) (iS : IV) (bu : IV) (tq : IV) (rT : IV) (wT : IV) (sK : IV) (sA : IV) (sB : IV) (sE : IV) (oq : IV) (bS : IV) (bE : IV) (bL : IV) (rp : IV) (p2 : Int32) (p4 : Int32) (hok : ok_Mo_copy_pp p2 p4 pa) : Met l y_Mo_copy (wsY y_Mo_copy b_Mo_copy 5 none) rm_Mo_copy_pp (CP g [.ref (a 2), .int p2, .ref (a 2), .int p4] (wMo g mo a o now dr pa sa iS bu tq rT wT sK sA sB sE oq bS bE bL rp)) (CV g (wMo g mo a o now dr pa sa iS bu tq rT wT sK sA sB sE oq bS bE bL rp) (fun u : LV => wMo g mo a o now dr u sa iS bu tq rT wT sK sA sB sE oq bS bE bL rp) (sp_Mo_copy_pp p2 p4 pa)) 0 0 (inW (wMo g mo a o now dr pa sa iS bu tq rT wT sK sA sB sE oq bS bE bL rp)) := by
  refine Met.ofW (cc := b_Mo_copy) (maxL := 5) (ret := none) pn_Mo rfl ?_
  intro p e s m args below meth c s₁ B hml hv
  obtain ⟨rfl, C, hP, hD, hS⟩ := enter "DecadeBridgeModel" rfl B hml hv
  obtain ⟨hx, hb, hr, hml, hown, hlk, hts, hK, hZo, hZ⟩ := id C
  refine entryW (lv := [(0, .ref (a 2)), (1, .int p2), (2, .ref (a 2)), (3, .int p4)]) rfl (Nat.le_of_ble_eq_true rfl) (fun ls hl => ?_)
  obtain ⟨z, hz⟩ : ∃ z, z = sp_Mo_copy_pp p2 p4 pa := ⟨_, rfl⟩
  rw [← hz]
  unfold sp_Mo_copy_pp at hz
  unfold ok_Mo_copy_pp at hok
  refine lv_iconst (v := 0) hx hb d_Mo_copy_0 (by decide) ?_
  refine lv_istore (lv' := [(4, .int (0 : Int32)), (0, .ref (a 2)), (1, .int p2), (2, .ref (a 2)), (3, .int p4)]) hx hb d_Mo_copy_1 hl (by decide) rfl (fun ls hl => ?_)
  exact k_Mo_copy_pp_3 C big (0 : Int32) pa hok _ hz _ _ ls hP hD hS (lv_sub hl [1, 2, 3, 4, 0] rfl)
abbrev rm_Mo_copy_np : Room := { frames := 0, cells := 0, slots := 0, locals := 0 }
def HL_Mo_copy_np_3 (p : Program) (l : Launch) (e : Env) (s : State) (m : MethodId) (args : Array Value) (below : List Frame) (meth : Method) (c : Code) (g : GX) (mo : Nat) (a : Nat → Nat) (ws0 : va_W) (o : IV) (now : LV) (dr : LV) (sa : LV) (iS : IV) (bu : IV) (tq : IV) (rT : IV) (wT : IV) (sK : IV) (sA : IV) (sB : IV) (sE : IV) (oq : IV) (bS : IV) (bE : IV) (bL : IV) (rp : IV) (p2 : Int32) (p4 : Int32) (sp : Int32 → LV → LV) (ok : Int32 → LV → Prop) : Prop := ∀ (x4p3 : Int32) (pap3 : LV), ok x4p3 pap3 → ∀ z : LV, z = sp x4p3 pap3 → ∀ (H : Heap) (locs : List Loc) (ls : Array Slot), va_P g.1 vwCl (wMo g mo a o now dr pap3 sa iS bu tq rT wT sK sA sB sE oq bS bE bL rp) H → va_D (inW ws0) (wMo g mo a o now dr pap3 sa iS bu tq rT wT sK sA sB sE oq bS bE bL rp) → va_S (inW ws0) s.heap H locs → lv_has ls 5 [(0, .ref (a 0)), (1, .int p2), (2, .ref (a 2)), (3, .int p4), (4, .int x4p3)] → W p l e rm_Mo_copy_np s m args below meth c H locs 0 0 (MQ below (CV g ws0 (fun u : LV => wMo g mo a o now dr u sa iS bu tq rT wT sK sA sB sE oq bS bE bL rp) z) args s 0 0 (inW ws0)) (F0 m 3 ls [])
noncomputable def bd_Mo_copy_np_3 (p4 : Int32) (now : LV) (p2 : Int32) (r3 : Int32 → LV → LV) (x4p3 : Int32) (pap3 : LV) : LV := if (215 : Int32) ≤ x4p3 then (pap3) else (lett (vp_updL pap3 (((215 : Int32) * p4) + x4p3).toNatClampNeg (now (((215 : Int32) * p2) + x4p3).toNatClampNeg)) fun (pa_4 : LV) => lett (x4p3 + (1 : Int32)) fun (v5 : Int32) => r3 v5 pa_4)
def okb_Mo_copy_np_3 (p4 : Int32) (now : LV) (p2 : Int32) (r3 : Int32 → LV → LV) (q3 : Int32 → LV → Prop) (x4p3 : Int32) (pap3 : LV) : Prop := (((215 : Int32) ≤ x4p3 → True) ∧ (¬ ((215 : Int32) ≤ x4p3) → (vp_in (((215 : Int32) * p2) + x4p3) 215) ∧ (vp_in (((215 : Int32) * p4) + x4p3) 1720) ∧ lett (vp_updL pap3 (((215 : Int32) * p4) + x4p3).toNatClampNeg (now (((215 : Int32) * p2) + x4p3).toNatClampNeg)) fun (pa_4 : LV) => lett (x4p3 + (1 : Int32)) fun (v5 : Int32) => q3 v5 pa_4))
noncomputable def sp_Mo_copy_np_3 (p4 : Int32) (now : LV) (p2 : Int32)  : Nat → Int32 → LV → LV
  | 0 => fun _ _ => default
  | f + 1 => bd_Mo_copy_np_3 p4 now p2  (sp_Mo_copy_np_3 p4 now p2  f)
def ok_Mo_copy_np_3 (p4 : Int32) (now : LV) (p2 : Int32)   : Nat → Int32 → LV → Prop
  | 0 => fun _ _ => False
  | f + 1 => okb_Mo_copy_np_3 p4 now p2  (sp_Mo_copy_np_3 p4 now p2  f)  (ok_Mo_copy_np_3 p4 now p2   f)
set_option maxRecDepth 100000 in
set_option maxHeartbeats 4000000 in
theorem kb_Mo_copy_np_3 {p : Program} {l : Launch} {e : Env} {s : State} {m : MethodId} {args : Array Value} {below : List Frame} {meth : Method} {c : Code} {g : GX} {mo : Nat} {a : Nat → Nat} {ws0 : va_W} {o : IV} {now : LV} {dr : LV} {sa : LV} {iS : IV} {bu : IV} {tq : IV} {rT : IV} {wT : IV} {sK : IV} {sA : IV} {sB : IV} {sE : IV} {oq : IV} {bS : IV} {bE : IV} {bL : IV} {rp : IV} {p2 : Int32} {p4 : Int32}  (C : Cx p s m args meth c (inW ws0) g "DecadeBridgeModel" b_Mo_copy none 5) {r3 : Int32 → LV → LV} {q3 : Int32 → LV → Prop}  (ih3 : HL_Mo_copy_np_3 p l e s m args below meth c g mo a ws0 o now dr sa iS bu tq rT wT sK sA sB sE oq bS bE bL rp p2 p4 r3 q3) : HL_Mo_copy_np_3 p l e s m args below meth c g mo a ws0 o now dr sa iS bu tq rT wT sK sA sB sE oq bS bE bL rp p2 p4 (bd_Mo_copy_np_3 p4 now p2  r3) (okb_Mo_copy_np_3 p4 now p2  r3  q3) := by
  intro x4p3 pap3 hok z hz H locs ls hP hD hS hl
  obtain ⟨hx, hb, hr, hml, hown, hlk, hts, hK, hZo, hZ⟩ := id C
  unfold bd_Mo_copy_np_3 at hz
  unfold okb_Mo_copy_np_3 at hok
  refine lv_iload hx hb d_Mo_copy_3 (lv_at hl 4 rfl) ?_
  refine lv_sipush (v := 215) hx hb d_Mo_copy_5 (by decide) ?_
  refine lv_icmp_ge (tgt := 37) hx hb d_Mo_copy_8 (by decide) (fun c1 => ?_) (fun c1 => ?_)
  · have hz := hz.trans (if_pos c1)
    exact endV C hz hP hS d_Mo_copy_37
  · have hz := hz.trans (if_neg c1)
    have hok := hok.2 c1
    refine lv_aload_n hx hb d_Mo_copy_11 rfl (lv_at hl 2 rfl) ?_
    refine lv_sipush (v := 215) hx hb d_Mo_copy_12 (by decide) ?_
    refine lv_iload_n hx hb d_Mo_copy_15 rfl (lv_at hl 3 rfl) ?_
    refine lv_imul hx hb d_Mo_copy_16 ?_
    refine lv_iload hx hb d_Mo_copy_17 (lv_at hl 4 rfl) ?_
    refine lv_iadd hx hb d_Mo_copy_19 ?_
    refine lv_aload_n hx hb d_Mo_copy_20 rfl (lv_at hl 0 rfl) ?_
    refine lv_sipush (v := 215) hx hb d_Mo_copy_21 (by decide) ?_
    refine lv_iload_n hx hb d_Mo_copy_24 rfl (lv_at hl 1 rfl) ?_
    refine lv_imul hx hb d_Mo_copy_25 ?_
    refine lv_iload hx hb d_Mo_copy_26 (lv_at hl 4 rfl) ?_
    refine lv_iadd hx hb d_Mo_copy_28 ?_
    have hs2 := hok.1
    have hok := hok.2
    refine ldL C hP 1 rfl hs2 rfl d_Mo_copy_29 ?_
    have hs3 := hok.1
    have hok := hok.2
    refine stL C hP hD hS 3 rfl hs3 rfl d_Mo_copy_30 (fun pa_4 epa_4 H locs hP hD hS => ?_)
    have hP : va_P g.1 vwCl (wMo g mo a o now dr pa_4 sa iS bu tq rT wT sK sA sB sE oq bS bE bL rp) H := hP
    have hD : va_D (inW ws0) (wMo g mo a o now dr pa_4 sa iS bu tq rT wT sK sA sB sE oq bS bE bL rp) := hD
    have hz := lett_z hz epa_4
    have hok := lett_o hok epa_4
    obtain ⟨v5, ev5⟩ : ∃ y : Int32, y = x4p3 + (1 : Int32) := ⟨_, rfl⟩
    have hz := lett_z hz ev5
    have hok := lett_o hok ev5
    refine lv_iinc (v := v5) (lv' := [(4, .int v5), (0, .ref (a 0)), (1, .int p2), (2, .ref (a 2)), (3, .int p4)]) hx hb d_Mo_copy_31 hl (k := 4) rfl (by rw [ev5]; rfl) (by decide) rfl (fun ls hl => ?_)
    refine lv_goto (tgt := 3) hx hb d_Mo_copy_34 (by decide) ?_
    exact ih3 v5 pa_4 hok _ hz _ _ ls hP hD hS (lv_sub hl [1, 2, 3, 4, 0] rfl)
theorem k_Mo_copy_np_3 {p : Program} {l : Launch} {e : Env} {s : State} {m : MethodId} {args : Array Value} {below : List Frame} {meth : Method} {c : Code} {g : GX} {mo : Nat} {a : Nat → Nat} {ws0 : va_W} {o : IV} {now : LV} {dr : LV} {sa : LV} {iS : IV} {bu : IV} {tq : IV} {rT : IV} {wT : IV} {sK : IV} {sA : IV} {sB : IV} {sE : IV} {oq : IV} {bS : IV} {bE : IV} {bL : IV} {rp : IV} {p2 : Int32} {p4 : Int32}  (C : Cx p s m args meth c (inW ws0) g "DecadeBridgeModel" b_Mo_copy none 5) (f : Nat)  : HL_Mo_copy_np_3 p l e s m args below meth c g mo a ws0 o now dr sa iS bu tq rT wT sK sA sB sE oq bS bE bL rp p2 p4 (sp_Mo_copy_np_3 p4 now p2  f) (ok_Mo_copy_np_3 p4 now p2   f) := by
  induction f with
  | zero => intro x4p3 pap3 hok; exact False.elim hok
  | succ f ih => exact kb_Mo_copy_np_3 C  ih
noncomputable def sp_Mo_copy_np (p2 : Int32) (p4 : Int32) (now : LV) (pa : LV) : LV := sp_Mo_copy_np_3 p4 now p2 big (0 : Int32) pa
def ok_Mo_copy_np (p2 : Int32) (p4 : Int32) (now : LV) (pa : LV) : Prop := ok_Mo_copy_np_3 p4 now p2 big (0 : Int32) pa
set_option maxRecDepth 100000 in
set_option maxHeartbeats 4000000 in
theorem c_Mo_copy_np (l : Launch) (g : GX) (mo : Nat) (a : Nat → Nat) (o : IV) (now : LV) (dr : LV) (pa : LV) (sa : LV) (iS : IV) (bu : IV) (tq : IV) (rT : IV) (wT : IV) (sK : IV) (sA : IV) (sB : IV) (sE : IV) (oq : IV) (bS : IV) (bE : IV) (bL : IV) (rp : IV) (p2 : Int32) (p4 : Int32) (hok : ok_Mo_copy_np p2 p4 now pa) : Met l y_Mo_copy (wsY y_Mo_copy b_Mo_copy 5 none) rm_Mo_copy_np (CP g [.ref (a 0), .int p2, .ref (a 2), .int p4] (wMo g mo a o now dr pa sa iS bu tq rT wT sK sA sB sE oq bS bE bL rp)) (CV g (wMo g mo a o now dr pa sa iS bu tq rT wT sK sA sB sE oq bS bE bL rp) (fun u : LV => wMo g mo a o now dr u sa iS bu tq rT wT sK sA sB sE oq bS bE bL rp) (sp_Mo_copy_np p2 p4 now pa)) 0 0 (inW (wMo g mo a o now dr pa sa iS bu tq rT wT sK sA sB sE oq bS bE bL rp)) := by
  refine Met.ofW (cc := b_Mo_copy) (maxL := 5) (ret := none) pn_Mo rfl ?_
  intro p e s m args below meth c s₁ B hml hv
  obtain ⟨rfl, C, hP, hD, hS⟩ := enter "DecadeBridgeModel" rfl B hml hv
  obtain ⟨hx, hb, hr, hml, hown, hlk, hts, hK, hZo, hZ⟩ := id C
  refine entryW (lv := [(0, .ref (a 0)), (1, .int p2), (2, .ref (a 2)), (3, .int p4)]) rfl (Nat.le_of_ble_eq_true rfl) (fun ls hl => ?_)
  obtain ⟨z, hz⟩ : ∃ z, z = sp_Mo_copy_np p2 p4 now pa := ⟨_, rfl⟩
  rw [← hz]
  unfold sp_Mo_copy_np at hz
  unfold ok_Mo_copy_np at hok
  refine lv_iconst (v := 0) hx hb d_Mo_copy_0 (by decide) ?_
  refine lv_istore (lv' := [(4, .int (0 : Int32)), (0, .ref (a 0)), (1, .int p2), (2, .ref (a 2)), (3, .int p4)]) hx hb d_Mo_copy_1 hl (by decide) rfl (fun ls hl => ?_)
  exact k_Mo_copy_np_3 C big (0 : Int32) pa hok _ hz _ _ ls hP hD hS (lv_sub hl [1, 2, 3, 4, 0] rfl)
abbrev rm_Mo_copy_pn : Room := { frames := 0, cells := 0, slots := 0, locals := 0 }
def HL_Mo_copy_pn_3 (p : Program) (l : Launch) (e : Env) (s : State) (m : MethodId) (args : Array Value) (below : List Frame) (meth : Method) (c : Code) (g : GX) (mo : Nat) (a : Nat → Nat) (ws0 : va_W) (o : IV) (dr : LV) (pa : LV) (sa : LV) (iS : IV) (bu : IV) (tq : IV) (rT : IV) (wT : IV) (sK : IV) (sA : IV) (sB : IV) (sE : IV) (oq : IV) (bS : IV) (bE : IV) (bL : IV) (rp : IV) (p2 : Int32) (p4 : Int32) (sp : Int32 → LV → LV) (ok : Int32 → LV → Prop) : Prop := ∀ (x4p3 : Int32) (nowp3 : LV), ok x4p3 nowp3 → ∀ z : LV, z = sp x4p3 nowp3 → ∀ (H : Heap) (locs : List Loc) (ls : Array Slot), va_P g.1 vwCl (wMo g mo a o nowp3 dr pa sa iS bu tq rT wT sK sA sB sE oq bS bE bL rp) H → va_D (inW ws0) (wMo g mo a o nowp3 dr pa sa iS bu tq rT wT sK sA sB sE oq bS bE bL rp) → va_S (inW ws0) s.heap H locs → lv_has ls 5 [(0, .ref (a 2)), (1, .int p2), (2, .ref (a 0)), (3, .int p4), (4, .int x4p3)] → W p l e rm_Mo_copy_pn s m args below meth c H locs 0 0 (MQ below (CV g ws0 (fun u : LV => wMo g mo a o u dr pa sa iS bu tq rT wT sK sA sB sE oq bS bE bL rp) z) args s 0 0 (inW ws0)) (F0 m 3 ls [])
noncomputable def bd_Mo_copy_pn_3 (p4 : Int32) (pa : LV) (p2 : Int32) (r3 : Int32 → LV → LV) (x4p3 : Int32) (nowp3 : LV) : LV := if (215 : Int32) ≤ x4p3 then (nowp3) else (lett (vp_updL nowp3 (((215 : Int32) * p4) + x4p3).toNatClampNeg (pa (((215 : Int32) * p2) + x4p3).toNatClampNeg)) fun (now_4 : LV) => lett (x4p3 + (1 : Int32)) fun (v5 : Int32) => r3 v5 now_4)
def okb_Mo_copy_pn_3 (p4 : Int32) (pa : LV) (p2 : Int32) (r3 : Int32 → LV → LV) (q3 : Int32 → LV → Prop) (x4p3 : Int32) (nowp3 : LV) : Prop := (((215 : Int32) ≤ x4p3 → True) ∧ (¬ ((215 : Int32) ≤ x4p3) → (vp_in (((215 : Int32) * p2) + x4p3) 1720) ∧ (vp_in (((215 : Int32) * p4) + x4p3) 215) ∧ lett (vp_updL nowp3 (((215 : Int32) * p4) + x4p3).toNatClampNeg (pa (((215 : Int32) * p2) + x4p3).toNatClampNeg)) fun (now_4 : LV) => lett (x4p3 + (1 : Int32)) fun (v5 : Int32) => q3 v5 now_4))
noncomputable def sp_Mo_copy_pn_3 (p4 : Int32) (pa : LV) (p2 : Int32)  : Nat → Int32 → LV → LV
  | 0 => fun _ _ => default
  | f + 1 => bd_Mo_copy_pn_3 p4 pa p2  (sp_Mo_copy_pn_3 p4 pa p2  f)
def ok_Mo_copy_pn_3 (p4 : Int32) (pa : LV) (p2 : Int32)   : Nat → Int32 → LV → Prop
  | 0 => fun _ _ => False
  | f + 1 => okb_Mo_copy_pn_3 p4 pa p2  (sp_Mo_copy_pn_3 p4 pa p2  f)  (ok_Mo_copy_pn_3 p4 pa p2   f)
set_option maxRecDepth 100000 in
set_option maxHeartbeats 4000000 in
theorem kb_Mo_copy_pn_3 {p : Program} {l : Launch} {e : Env} {s : State} {m : MethodId} {args : Array Value} {below : List Frame} {meth : Method} {c : Code} {g : GX} {mo : Nat} {a : Nat → Nat} {ws0 : va_W} {o : IV} {dr : LV} {pa : LV} {sa : LV} {iS : IV} {bu : IV} {tq : IV} {rT : IV} {wT : IV} {sK : IV} {sA : IV} {sB : IV} {sE : IV} {oq : IV} {bS : IV} {bE : IV} {bL : IV} {rp : IV} {p2 : Int32} {p4 : Int32}  (C : Cx p s m args meth c (inW ws0) g "DecadeBridgeModel" b_Mo_copy none 5) {r3 : Int32 → LV → LV} {q3 : Int32 → LV → Prop}  (ih3 : HL_Mo_copy_pn_3 p l e s m args below meth c g mo a ws0 o dr pa sa iS bu tq rT wT sK sA sB sE oq bS bE bL rp p2 p4 r3 q3) : HL_Mo_copy_pn_3 p l e s m args below meth c g mo a ws0 o dr pa sa iS bu tq rT wT sK sA sB sE oq bS bE bL rp p2 p4 (bd_Mo_copy_pn_3 p4 pa p2  r3) (okb_Mo_copy_pn_3 p4 pa p2  r3  q3) := by
  intro x4p3 nowp3 hok z hz H locs ls hP hD hS hl
  obtain ⟨hx, hb, hr, hml, hown, hlk, hts, hK, hZo, hZ⟩ := id C
  unfold bd_Mo_copy_pn_3 at hz
  unfold okb_Mo_copy_pn_3 at hok
  refine lv_iload hx hb d_Mo_copy_3 (lv_at hl 4 rfl) ?_
  refine lv_sipush (v := 215) hx hb d_Mo_copy_5 (by decide) ?_
  refine lv_icmp_ge (tgt := 37) hx hb d_Mo_copy_8 (by decide) (fun c1 => ?_) (fun c1 => ?_)
  · have hz := hz.trans (if_pos c1)
    exact endV C hz hP hS d_Mo_copy_37
  · have hz := hz.trans (if_neg c1)
    have hok := hok.2 c1
    refine lv_aload_n hx hb d_Mo_copy_11 rfl (lv_at hl 2 rfl) ?_
    refine lv_sipush (v := 215) hx hb d_Mo_copy_12 (by decide) ?_
    refine lv_iload_n hx hb d_Mo_copy_15 rfl (lv_at hl 3 rfl) ?_
    refine lv_imul hx hb d_Mo_copy_16 ?_
    refine lv_iload hx hb d_Mo_copy_17 (lv_at hl 4 rfl) ?_
    refine lv_iadd hx hb d_Mo_copy_19 ?_
    refine lv_aload_n hx hb d_Mo_copy_20 rfl (lv_at hl 0 rfl) ?_
    refine lv_sipush (v := 215) hx hb d_Mo_copy_21 (by decide) ?_
    refine lv_iload_n hx hb d_Mo_copy_24 rfl (lv_at hl 1 rfl) ?_
    refine lv_imul hx hb d_Mo_copy_25 ?_
    refine lv_iload hx hb d_Mo_copy_26 (lv_at hl 4 rfl) ?_
    refine lv_iadd hx hb d_Mo_copy_28 ?_
    have hs2 := hok.1
    have hok := hok.2
    refine ldL C hP 3 rfl hs2 rfl d_Mo_copy_29 ?_
    have hs3 := hok.1
    have hok := hok.2
    refine stL C hP hD hS 1 rfl hs3 rfl d_Mo_copy_30 (fun now_4 enow_4 H locs hP hD hS => ?_)
    have hP : va_P g.1 vwCl (wMo g mo a o now_4 dr pa sa iS bu tq rT wT sK sA sB sE oq bS bE bL rp) H := hP
    have hD : va_D (inW ws0) (wMo g mo a o now_4 dr pa sa iS bu tq rT wT sK sA sB sE oq bS bE bL rp) := hD
    have hz := lett_z hz enow_4
    have hok := lett_o hok enow_4
    obtain ⟨v5, ev5⟩ : ∃ y : Int32, y = x4p3 + (1 : Int32) := ⟨_, rfl⟩
    have hz := lett_z hz ev5
    have hok := lett_o hok ev5
    refine lv_iinc (v := v5) (lv' := [(4, .int v5), (0, .ref (a 2)), (1, .int p2), (2, .ref (a 0)), (3, .int p4)]) hx hb d_Mo_copy_31 hl (k := 4) rfl (by rw [ev5]; rfl) (by decide) rfl (fun ls hl => ?_)
    refine lv_goto (tgt := 3) hx hb d_Mo_copy_34 (by decide) ?_
    exact ih3 v5 now_4 hok _ hz _ _ ls hP hD hS (lv_sub hl [1, 2, 3, 4, 0] rfl)
theorem k_Mo_copy_pn_3 {p : Program} {l : Launch} {e : Env} {s : State} {m : MethodId} {args : Array Value} {below : List Frame} {meth : Method} {c : Code} {g : GX} {mo : Nat} {a : Nat → Nat} {ws0 : va_W} {o : IV} {dr : LV} {pa : LV} {sa : LV} {iS : IV} {bu : IV} {tq : IV} {rT : IV} {wT : IV} {sK : IV} {sA : IV} {sB : IV} {sE : IV} {oq : IV} {bS : IV} {bE : IV} {bL : IV} {rp : IV} {p2 : Int32} {p4 : Int32}  (C : Cx p s m args meth c (inW ws0) g "DecadeBridgeModel" b_Mo_copy none 5) (f : Nat)  : HL_Mo_copy_pn_3 p l e s m args below meth c g mo a ws0 o dr pa sa iS bu tq rT wT sK sA sB sE oq bS bE bL rp p2 p4 (sp_Mo_copy_pn_3 p4 pa p2  f) (ok_Mo_copy_pn_3 p4 pa p2   f) := by
  induction f with
  | zero => intro x4p3 nowp3 hok; exact False.elim hok
  | succ f ih => exact kb_Mo_copy_pn_3 C  ih
noncomputable def sp_Mo_copy_pn (p2 : Int32) (p4 : Int32) (now : LV) (pa : LV) : LV := sp_Mo_copy_pn_3 p4 pa p2 big (0 : Int32) now
def ok_Mo_copy_pn (p2 : Int32) (p4 : Int32) (now : LV) (pa : LV) : Prop := ok_Mo_copy_pn_3 p4 pa p2 big (0 : Int32) now
set_option maxRecDepth 100000 in
set_option maxHeartbeats 4000000 in
theorem c_Mo_copy_pn (l : Launch) (g : GX) (mo : Nat) (a : Nat → Nat) (o : IV) (now : LV) (dr : LV) (pa : LV) (sa : LV) (iS : IV) (bu : IV) (tq : IV) (rT : IV) (wT : IV) (sK : IV) (sA : IV) (sB : IV) (sE : IV) (oq : IV) (bS : IV) (bE : IV) (bL : IV) (rp : IV) (p2 : Int32) (p4 : Int32) (hok : ok_Mo_copy_pn p2 p4 now pa) : Met l y_Mo_copy (wsY y_Mo_copy b_Mo_copy 5 none) rm_Mo_copy_pn (CP g [.ref (a 2), .int p2, .ref (a 0), .int p4] (wMo g mo a o now dr pa sa iS bu tq rT wT sK sA sB sE oq bS bE bL rp)) (CV g (wMo g mo a o now dr pa sa iS bu tq rT wT sK sA sB sE oq bS bE bL rp) (fun u : LV => wMo g mo a o u dr pa sa iS bu tq rT wT sK sA sB sE oq bS bE bL rp) (sp_Mo_copy_pn p2 p4 now pa)) 0 0 (inW (wMo g mo a o now dr pa sa iS bu tq rT wT sK sA sB sE oq bS bE bL rp)) := by
  refine Met.ofW (cc := b_Mo_copy) (maxL := 5) (ret := none) pn_Mo rfl ?_
  intro p e s m args below meth c s₁ B hml hv
  obtain ⟨rfl, C, hP, hD, hS⟩ := enter "DecadeBridgeModel" rfl B hml hv
  obtain ⟨hx, hb, hr, hml, hown, hlk, hts, hK, hZo, hZ⟩ := id C
  refine entryW (lv := [(0, .ref (a 2)), (1, .int p2), (2, .ref (a 0)), (3, .int p4)]) rfl (Nat.le_of_ble_eq_true rfl) (fun ls hl => ?_)
  obtain ⟨z, hz⟩ : ∃ z, z = sp_Mo_copy_pn p2 p4 now pa := ⟨_, rfl⟩
  rw [← hz]
  unfold sp_Mo_copy_pn at hz
  unfold ok_Mo_copy_pn at hok
  refine lv_iconst (v := 0) hx hb d_Mo_copy_0 (by decide) ?_
  refine lv_istore (lv' := [(4, .int (0 : Int32)), (0, .ref (a 2)), (1, .int p2), (2, .ref (a 0)), (3, .int p4)]) hx hb d_Mo_copy_1 hl (by decide) rfl (fun ls hl => ?_)
  exact k_Mo_copy_pn_3 C big (0 : Int32) now hok _ hz _ _ ls hP hD hS (lv_sub hl [1, 2, 3, 4, 0] rfl)
abbrev rm_Mo_copy_ns : Room := { frames := 0, cells := 0, slots := 0, locals := 0 }
def HL_Mo_copy_ns_3 (p : Program) (l : Launch) (e : Env) (s : State) (m : MethodId) (args : Array Value) (below : List Frame) (meth : Method) (c : Code) (g : GX) (mo : Nat) (a : Nat → Nat) (ws0 : va_W) (o : IV) (now : LV) (dr : LV) (pa : LV) (iS : IV) (bu : IV) (tq : IV) (rT : IV) (wT : IV) (sK : IV) (sA : IV) (sB : IV) (sE : IV) (oq : IV) (bS : IV) (bE : IV) (bL : IV) (rp : IV) (p2 : Int32) (p4 : Int32) (sp : Int32 → LV → LV) (ok : Int32 → LV → Prop) : Prop := ∀ (x4p3 : Int32) (sap3 : LV), ok x4p3 sap3 → ∀ z : LV, z = sp x4p3 sap3 → ∀ (H : Heap) (locs : List Loc) (ls : Array Slot), va_P g.1 vwCl (wMo g mo a o now dr pa sap3 iS bu tq rT wT sK sA sB sE oq bS bE bL rp) H → va_D (inW ws0) (wMo g mo a o now dr pa sap3 iS bu tq rT wT sK sA sB sE oq bS bE bL rp) → va_S (inW ws0) s.heap H locs → lv_has ls 5 [(0, .ref (a 0)), (1, .int p2), (2, .ref (a 3)), (3, .int p4), (4, .int x4p3)] → W p l e rm_Mo_copy_ns s m args below meth c H locs 0 0 (MQ below (CV g ws0 (fun u : LV => wMo g mo a o now dr pa u iS bu tq rT wT sK sA sB sE oq bS bE bL rp) z) args s 0 0 (inW ws0)) (F0 m 3 ls [])
noncomputable def bd_Mo_copy_ns_3 (p4 : Int32) (now : LV) (p2 : Int32) (r3 : Int32 → LV → LV) (x4p3 : Int32) (sap3 : LV) : LV := if (215 : Int32) ≤ x4p3 then (sap3) else (lett (vp_updL sap3 (((215 : Int32) * p4) + x4p3).toNatClampNeg (now (((215 : Int32) * p2) + x4p3).toNatClampNeg)) fun (sa_4 : LV) => lett (x4p3 + (1 : Int32)) fun (v5 : Int32) => r3 v5 sa_4)
def okb_Mo_copy_ns_3 (p4 : Int32) (now : LV) (p2 : Int32) (r3 : Int32 → LV → LV) (q3 : Int32 → LV → Prop) (x4p3 : Int32) (sap3 : LV) : Prop := (((215 : Int32) ≤ x4p3 → True) ∧ (¬ ((215 : Int32) ≤ x4p3) → (vp_in (((215 : Int32) * p2) + x4p3) 215) ∧ (vp_in (((215 : Int32) * p4) + x4p3) 430) ∧ lett (vp_updL sap3 (((215 : Int32) * p4) + x4p3).toNatClampNeg (now (((215 : Int32) * p2) + x4p3).toNatClampNeg)) fun (sa_4 : LV) => lett (x4p3 + (1 : Int32)) fun (v5 : Int32) => q3 v5 sa_4))
noncomputable def sp_Mo_copy_ns_3 (p4 : Int32) (now : LV) (p2 : Int32)  : Nat → Int32 → LV → LV
  | 0 => fun _ _ => default
  | f + 1 => bd_Mo_copy_ns_3 p4 now p2  (sp_Mo_copy_ns_3 p4 now p2  f)
def ok_Mo_copy_ns_3 (p4 : Int32) (now : LV) (p2 : Int32)   : Nat → Int32 → LV → Prop
  | 0 => fun _ _ => False
  | f + 1 => okb_Mo_copy_ns_3 p4 now p2  (sp_Mo_copy_ns_3 p4 now p2  f)  (ok_Mo_copy_ns_3 p4 now p2   f)
set_option maxRecDepth 100000 in
set_option maxHeartbeats 4000000 in
theorem kb_Mo_copy_ns_3 {p : Program} {l : Launch} {e : Env} {s : State} {m : MethodId} {args : Array Value} {below : List Frame} {meth : Method} {c : Code} {g : GX} {mo : Nat} {a : Nat → Nat} {ws0 : va_W} {o : IV} {now : LV} {dr : LV} {pa : LV} {iS : IV} {bu : IV} {tq : IV} {rT : IV} {wT : IV} {sK : IV} {sA : IV} {sB : IV} {sE : IV} {oq : IV} {bS : IV} {bE : IV} {bL : IV} {rp : IV} {p2 : Int32} {p4 : Int32}  (C : Cx p s m args meth c (inW ws0) g "DecadeBridgeModel" b_Mo_copy none 5) {r3 : Int32 → LV → LV} {q3 : Int32 → LV → Prop}  (ih3 : HL_Mo_copy_ns_3 p l e s m args below meth c g mo a ws0 o now dr pa iS bu tq rT wT sK sA sB sE oq bS bE bL rp p2 p4 r3 q3) : HL_Mo_copy_ns_3 p l e s m args below meth c g mo a ws0 o now dr pa iS bu tq rT wT sK sA sB sE oq bS bE bL rp p2 p4 (bd_Mo_copy_ns_3 p4 now p2  r3) (okb_Mo_copy_ns_3 p4 now p2  r3  q3) := by
  intro x4p3 sap3 hok z hz H locs ls hP hD hS hl
  obtain ⟨hx, hb, hr, hml, hown, hlk, hts, hK, hZo, hZ⟩ := id C
  unfold bd_Mo_copy_ns_3 at hz
  unfold okb_Mo_copy_ns_3 at hok
  refine lv_iload hx hb d_Mo_copy_3 (lv_at hl 4 rfl) ?_
  refine lv_sipush (v := 215) hx hb d_Mo_copy_5 (by decide) ?_
  refine lv_icmp_ge (tgt := 37) hx hb d_Mo_copy_8 (by decide) (fun c1 => ?_) (fun c1 => ?_)
  · have hz := hz.trans (if_pos c1)
    exact endV C hz hP hS d_Mo_copy_37
  · have hz := hz.trans (if_neg c1)
    have hok := hok.2 c1
    refine lv_aload_n hx hb d_Mo_copy_11 rfl (lv_at hl 2 rfl) ?_
    refine lv_sipush (v := 215) hx hb d_Mo_copy_12 (by decide) ?_
    refine lv_iload_n hx hb d_Mo_copy_15 rfl (lv_at hl 3 rfl) ?_
    refine lv_imul hx hb d_Mo_copy_16 ?_
    refine lv_iload hx hb d_Mo_copy_17 (lv_at hl 4 rfl) ?_
    refine lv_iadd hx hb d_Mo_copy_19 ?_
    refine lv_aload_n hx hb d_Mo_copy_20 rfl (lv_at hl 0 rfl) ?_
    refine lv_sipush (v := 215) hx hb d_Mo_copy_21 (by decide) ?_
    refine lv_iload_n hx hb d_Mo_copy_24 rfl (lv_at hl 1 rfl) ?_
    refine lv_imul hx hb d_Mo_copy_25 ?_
    refine lv_iload hx hb d_Mo_copy_26 (lv_at hl 4 rfl) ?_
    refine lv_iadd hx hb d_Mo_copy_28 ?_
    have hs2 := hok.1
    have hok := hok.2
    refine ldL C hP 1 rfl hs2 rfl d_Mo_copy_29 ?_
    have hs3 := hok.1
    have hok := hok.2
    refine stL C hP hD hS 4 rfl hs3 rfl d_Mo_copy_30 (fun sa_4 esa_4 H locs hP hD hS => ?_)
    have hP : va_P g.1 vwCl (wMo g mo a o now dr pa sa_4 iS bu tq rT wT sK sA sB sE oq bS bE bL rp) H := hP
    have hD : va_D (inW ws0) (wMo g mo a o now dr pa sa_4 iS bu tq rT wT sK sA sB sE oq bS bE bL rp) := hD
    have hz := lett_z hz esa_4
    have hok := lett_o hok esa_4
    obtain ⟨v5, ev5⟩ : ∃ y : Int32, y = x4p3 + (1 : Int32) := ⟨_, rfl⟩
    have hz := lett_z hz ev5
    have hok := lett_o hok ev5
    refine lv_iinc (v := v5) (lv' := [(4, .int v5), (0, .ref (a 0)), (1, .int p2), (2, .ref (a 3)), (3, .int p4)]) hx hb d_Mo_copy_31 hl (k := 4) rfl (by rw [ev5]; rfl) (by decide) rfl (fun ls hl => ?_)
    refine lv_goto (tgt := 3) hx hb d_Mo_copy_34 (by decide) ?_
    exact ih3 v5 sa_4 hok _ hz _ _ ls hP hD hS (lv_sub hl [1, 2, 3, 4, 0] rfl)
theorem k_Mo_copy_ns_3 {p : Program} {l : Launch} {e : Env} {s : State} {m : MethodId} {args : Array Value} {below : List Frame} {meth : Method} {c : Code} {g : GX} {mo : Nat} {a : Nat → Nat} {ws0 : va_W} {o : IV} {now : LV} {dr : LV} {pa : LV} {iS : IV} {bu : IV} {tq : IV} {rT : IV} {wT : IV} {sK : IV} {sA : IV} {sB : IV} {sE : IV} {oq : IV} {bS : IV} {bE : IV} {bL : IV} {rp : IV} {p2 : Int32} {p4 : Int32}  (C : Cx p s m args meth c (inW ws0) g "DecadeBridgeModel" b_Mo_copy none 5) (f : Nat)  : HL_Mo_copy_ns_3 p l e s m args below meth c g mo a ws0 o now dr pa iS bu tq rT wT sK sA sB sE oq bS bE bL rp p2 p4 (sp_Mo_copy_ns_3 p4 now p2  f) (ok_Mo_copy_ns_3 p4 now p2   f) := by
  induction f with
  | zero => intro x4p3 sap3 hok; exact False.elim hok
  | succ f ih => exact kb_Mo_copy_ns_3 C  ih
noncomputable def sp_Mo_copy_ns (p2 : Int32) (p4 : Int32) (now : LV) (sa : LV) : LV := sp_Mo_copy_ns_3 p4 now p2 big (0 : Int32) sa
def ok_Mo_copy_ns (p2 : Int32) (p4 : Int32) (now : LV) (sa : LV) : Prop := ok_Mo_copy_ns_3 p4 now p2 big (0 : Int32) sa
set_option maxRecDepth 100000 in
set_option maxHeartbeats 4000000 in
theorem c_Mo_copy_ns (l : Launch) (g : GX) (mo : Nat) (a : Nat → Nat) (o : IV) (now : LV) (dr : LV) (pa : LV) (sa : LV) (iS : IV) (bu : IV) (tq : IV) (rT : IV) (wT : IV) (sK : IV) (sA : IV) (sB : IV) (sE : IV) (oq : IV) (bS : IV) (bE : IV) (bL : IV) (rp : IV) (p2 : Int32) (p4 : Int32) (hok : ok_Mo_copy_ns p2 p4 now sa) : Met l y_Mo_copy (wsY y_Mo_copy b_Mo_copy 5 none) rm_Mo_copy_ns (CP g [.ref (a 0), .int p2, .ref (a 3), .int p4] (wMo g mo a o now dr pa sa iS bu tq rT wT sK sA sB sE oq bS bE bL rp)) (CV g (wMo g mo a o now dr pa sa iS bu tq rT wT sK sA sB sE oq bS bE bL rp) (fun u : LV => wMo g mo a o now dr pa u iS bu tq rT wT sK sA sB sE oq bS bE bL rp) (sp_Mo_copy_ns p2 p4 now sa)) 0 0 (inW (wMo g mo a o now dr pa sa iS bu tq rT wT sK sA sB sE oq bS bE bL rp)) := by
  refine Met.ofW (cc := b_Mo_copy) (maxL := 5) (ret := none) pn_Mo rfl ?_
  intro p e s m args below meth c s₁ B hml hv
  obtain ⟨rfl, C, hP, hD, hS⟩ := enter "DecadeBridgeModel" rfl B hml hv
  obtain ⟨hx, hb, hr, hml, hown, hlk, hts, hK, hZo, hZ⟩ := id C
  refine entryW (lv := [(0, .ref (a 0)), (1, .int p2), (2, .ref (a 3)), (3, .int p4)]) rfl (Nat.le_of_ble_eq_true rfl) (fun ls hl => ?_)
  obtain ⟨z, hz⟩ : ∃ z, z = sp_Mo_copy_ns p2 p4 now sa := ⟨_, rfl⟩
  rw [← hz]
  unfold sp_Mo_copy_ns at hz
  unfold ok_Mo_copy_ns at hok
  refine lv_iconst (v := 0) hx hb d_Mo_copy_0 (by decide) ?_
  refine lv_istore (lv' := [(4, .int (0 : Int32)), (0, .ref (a 0)), (1, .int p2), (2, .ref (a 3)), (3, .int p4)]) hx hb d_Mo_copy_1 hl (by decide) rfl (fun ls hl => ?_)
  exact k_Mo_copy_ns_3 C big (0 : Int32) sa hok _ hz _ _ ls hP hD hS (lv_sub hl [1, 2, 3, 4, 0] rfl)
abbrev rm_Mo_copy_sn : Room := { frames := 0, cells := 0, slots := 0, locals := 0 }
def HL_Mo_copy_sn_3 (p : Program) (l : Launch) (e : Env) (s : State) (m : MethodId) (args : Array Value) (below : List Frame) (meth : Method) (c : Code) (g : GX) (mo : Nat) (a : Nat → Nat) (ws0 : va_W) (o : IV) (dr : LV) (pa : LV) (sa : LV) (iS : IV) (bu : IV) (tq : IV) (rT : IV) (wT : IV) (sK : IV) (sA : IV) (sB : IV) (sE : IV) (oq : IV) (bS : IV) (bE : IV) (bL : IV) (rp : IV) (p2 : Int32) (p4 : Int32) (sp : Int32 → LV → LV) (ok : Int32 → LV → Prop) : Prop := ∀ (x4p3 : Int32) (nowp3 : LV), ok x4p3 nowp3 → ∀ z : LV, z = sp x4p3 nowp3 → ∀ (H : Heap) (locs : List Loc) (ls : Array Slot), va_P g.1 vwCl (wMo g mo a o nowp3 dr pa sa iS bu tq rT wT sK sA sB sE oq bS bE bL rp) H → va_D (inW ws0) (wMo g mo a o nowp3 dr pa sa iS bu tq rT wT sK sA sB sE oq bS bE bL rp) → va_S (inW ws0) s.heap H locs → lv_has ls 5 [(0, .ref (a 3)), (1, .int p2), (2, .ref (a 0)), (3, .int p4), (4, .int x4p3)] → W p l e rm_Mo_copy_sn s m args below meth c H locs 0 0 (MQ below (CV g ws0 (fun u : LV => wMo g mo a o u dr pa sa iS bu tq rT wT sK sA sB sE oq bS bE bL rp) z) args s 0 0 (inW ws0)) (F0 m 3 ls [])
noncomputable def bd_Mo_copy_sn_3 (p4 : Int32) (sa : LV) (p2 : Int32) (r3 : Int32 → LV → LV) (x4p3 : Int32) (nowp3 : LV) : LV := if (215 : Int32) ≤ x4p3 then (nowp3) else (lett (vp_updL nowp3 (((215 : Int32) * p4) + x4p3).toNatClampNeg (sa (((215 : Int32) * p2) + x4p3).toNatClampNeg)) fun (now_4 : LV) => lett (x4p3 + (1 : Int32)) fun (v5 : Int32) => r3 v5 now_4)
def okb_Mo_copy_sn_3 (p4 : Int32) (sa : LV) (p2 : Int32) (r3 : Int32 → LV → LV) (q3 : Int32 → LV → Prop) (x4p3 : Int32) (nowp3 : LV) : Prop := (((215 : Int32) ≤ x4p3 → True) ∧ (¬ ((215 : Int32) ≤ x4p3) → (vp_in (((215 : Int32) * p2) + x4p3) 430) ∧ (vp_in (((215 : Int32) * p4) + x4p3) 215) ∧ lett (vp_updL nowp3 (((215 : Int32) * p4) + x4p3).toNatClampNeg (sa (((215 : Int32) * p2) + x4p3).toNatClampNeg)) fun (now_4 : LV) => lett (x4p3 + (1 : Int32)) fun (v5 : Int32) => q3 v5 now_4))
noncomputable def sp_Mo_copy_sn_3 (p4 : Int32) (sa : LV) (p2 : Int32)  : Nat → Int32 → LV → LV
  | 0 => fun _ _ => default
  | f + 1 => bd_Mo_copy_sn_3 p4 sa p2  (sp_Mo_copy_sn_3 p4 sa p2  f)
def ok_Mo_copy_sn_3 (p4 : Int32) (sa : LV) (p2 : Int32)   : Nat → Int32 → LV → Prop
  | 0 => fun _ _ => False
  | f + 1 => okb_Mo_copy_sn_3 p4 sa p2  (sp_Mo_copy_sn_3 p4 sa p2  f)  (ok_Mo_copy_sn_3 p4 sa p2   f)
set_option maxRecDepth 100000 in
set_option maxHeartbeats 4000000 in
theorem kb_Mo_copy_sn_3 {p : Program} {l : Launch} {e : Env} {s : State} {m : MethodId} {args : Array Value} {below : List Frame} {meth : Method} {c : Code} {g : GX} {mo : Nat} {a : Nat → Nat} {ws0 : va_W} {o : IV} {dr : LV} {pa : LV} {sa : LV} {iS : IV} {bu : IV} {tq : IV} {rT : IV} {wT : IV} {sK : IV} {sA : IV} {sB : IV} {sE : IV} {oq : IV} {bS : IV} {bE : IV} {bL : IV} {rp : IV} {p2 : Int32} {p4 : Int32}  (C : Cx p s m args meth c (inW ws0) g "DecadeBridgeModel" b_Mo_copy none 5) {r3 : Int32 → LV → LV} {q3 : Int32 → LV → Prop}  (ih3 : HL_Mo_copy_sn_3 p l e s m args below meth c g mo a ws0 o dr pa sa iS bu tq rT wT sK sA sB sE oq bS bE bL rp p2 p4 r3 q3) : HL_Mo_copy_sn_3 p l e s m args below meth c g mo a ws0 o dr pa sa iS bu tq rT wT sK sA sB sE oq bS bE bL rp p2 p4 (bd_Mo_copy_sn_3 p4 sa p2  r3) (okb_Mo_copy_sn_3 p4 sa p2  r3  q3) := by
  intro x4p3 nowp3 hok z hz H locs ls hP hD hS hl
  obtain ⟨hx, hb, hr, hml, hown, hlk, hts, hK, hZo, hZ⟩ := id C
  unfold bd_Mo_copy_sn_3 at hz
  unfold okb_Mo_copy_sn_3 at hok
  refine lv_iload hx hb d_Mo_copy_3 (lv_at hl 4 rfl) ?_
  refine lv_sipush (v := 215) hx hb d_Mo_copy_5 (by decide) ?_
  refine lv_icmp_ge (tgt := 37) hx hb d_Mo_copy_8 (by decide) (fun c1 => ?_) (fun c1 => ?_)
  · have hz := hz.trans (if_pos c1)
    exact endV C hz hP hS d_Mo_copy_37
  · have hz := hz.trans (if_neg c1)
    have hok := hok.2 c1
    refine lv_aload_n hx hb d_Mo_copy_11 rfl (lv_at hl 2 rfl) ?_
    refine lv_sipush (v := 215) hx hb d_Mo_copy_12 (by decide) ?_
    refine lv_iload_n hx hb d_Mo_copy_15 rfl (lv_at hl 3 rfl) ?_
    refine lv_imul hx hb d_Mo_copy_16 ?_
    refine lv_iload hx hb d_Mo_copy_17 (lv_at hl 4 rfl) ?_
    refine lv_iadd hx hb d_Mo_copy_19 ?_
    refine lv_aload_n hx hb d_Mo_copy_20 rfl (lv_at hl 0 rfl) ?_
    refine lv_sipush (v := 215) hx hb d_Mo_copy_21 (by decide) ?_
    refine lv_iload_n hx hb d_Mo_copy_24 rfl (lv_at hl 1 rfl) ?_
    refine lv_imul hx hb d_Mo_copy_25 ?_
    refine lv_iload hx hb d_Mo_copy_26 (lv_at hl 4 rfl) ?_
    refine lv_iadd hx hb d_Mo_copy_28 ?_
    have hs2 := hok.1
    have hok := hok.2
    refine ldL C hP 4 rfl hs2 rfl d_Mo_copy_29 ?_
    have hs3 := hok.1
    have hok := hok.2
    refine stL C hP hD hS 1 rfl hs3 rfl d_Mo_copy_30 (fun now_4 enow_4 H locs hP hD hS => ?_)
    have hP : va_P g.1 vwCl (wMo g mo a o now_4 dr pa sa iS bu tq rT wT sK sA sB sE oq bS bE bL rp) H := hP
    have hD : va_D (inW ws0) (wMo g mo a o now_4 dr pa sa iS bu tq rT wT sK sA sB sE oq bS bE bL rp) := hD
    have hz := lett_z hz enow_4
    have hok := lett_o hok enow_4
    obtain ⟨v5, ev5⟩ : ∃ y : Int32, y = x4p3 + (1 : Int32) := ⟨_, rfl⟩
    have hz := lett_z hz ev5
    have hok := lett_o hok ev5
    refine lv_iinc (v := v5) (lv' := [(4, .int v5), (0, .ref (a 3)), (1, .int p2), (2, .ref (a 0)), (3, .int p4)]) hx hb d_Mo_copy_31 hl (k := 4) rfl (by rw [ev5]; rfl) (by decide) rfl (fun ls hl => ?_)
    refine lv_goto (tgt := 3) hx hb d_Mo_copy_34 (by decide) ?_
    exact ih3 v5 now_4 hok _ hz _ _ ls hP hD hS (lv_sub hl [1, 2, 3, 4, 0] rfl)
theorem k_Mo_copy_sn_3 {p : Program} {l : Launch} {e : Env} {s : State} {m : MethodId} {args : Array Value} {below : List Frame} {meth : Method} {c : Code} {g : GX} {mo : Nat} {a : Nat → Nat} {ws0 : va_W} {o : IV} {dr : LV} {pa : LV} {sa : LV} {iS : IV} {bu : IV} {tq : IV} {rT : IV} {wT : IV} {sK : IV} {sA : IV} {sB : IV} {sE : IV} {oq : IV} {bS : IV} {bE : IV} {bL : IV} {rp : IV} {p2 : Int32} {p4 : Int32}  (C : Cx p s m args meth c (inW ws0) g "DecadeBridgeModel" b_Mo_copy none 5) (f : Nat)  : HL_Mo_copy_sn_3 p l e s m args below meth c g mo a ws0 o dr pa sa iS bu tq rT wT sK sA sB sE oq bS bE bL rp p2 p4 (sp_Mo_copy_sn_3 p4 sa p2  f) (ok_Mo_copy_sn_3 p4 sa p2   f) := by
  induction f with
  | zero => intro x4p3 nowp3 hok; exact False.elim hok
  | succ f ih => exact kb_Mo_copy_sn_3 C  ih
noncomputable def sp_Mo_copy_sn (p2 : Int32) (p4 : Int32) (now : LV) (sa : LV) : LV := sp_Mo_copy_sn_3 p4 sa p2 big (0 : Int32) now
def ok_Mo_copy_sn (p2 : Int32) (p4 : Int32) (now : LV) (sa : LV) : Prop := ok_Mo_copy_sn_3 p4 sa p2 big (0 : Int32) now
set_option maxRecDepth 100000 in
set_option maxHeartbeats 4000000 in
theorem c_Mo_copy_sn (l : Launch) (g : GX) (mo : Nat) (a : Nat → Nat) (o : IV) (now : LV) (dr : LV) (pa : LV) (sa : LV) (iS : IV) (bu : IV) (tq : IV) (rT : IV) (wT : IV) (sK : IV) (sA : IV) (sB : IV) (sE : IV) (oq : IV) (bS : IV) (bE : IV) (bL : IV) (rp : IV) (p2 : Int32) (p4 : Int32) (hok : ok_Mo_copy_sn p2 p4 now sa) : Met l y_Mo_copy (wsY y_Mo_copy b_Mo_copy 5 none) rm_Mo_copy_sn (CP g [.ref (a 3), .int p2, .ref (a 0), .int p4] (wMo g mo a o now dr pa sa iS bu tq rT wT sK sA sB sE oq bS bE bL rp)) (CV g (wMo g mo a o now dr pa sa iS bu tq rT wT sK sA sB sE oq bS bE bL rp) (fun u : LV => wMo g mo a o u dr pa sa iS bu tq rT wT sK sA sB sE oq bS bE bL rp) (sp_Mo_copy_sn p2 p4 now sa)) 0 0 (inW (wMo g mo a o now dr pa sa iS bu tq rT wT sK sA sB sE oq bS bE bL rp)) := by
  refine Met.ofW (cc := b_Mo_copy) (maxL := 5) (ret := none) pn_Mo rfl ?_
  intro p e s m args below meth c s₁ B hml hv
  obtain ⟨rfl, C, hP, hD, hS⟩ := enter "DecadeBridgeModel" rfl B hml hv
  obtain ⟨hx, hb, hr, hml, hown, hlk, hts, hK, hZo, hZ⟩ := id C
  refine entryW (lv := [(0, .ref (a 3)), (1, .int p2), (2, .ref (a 0)), (3, .int p4)]) rfl (Nat.le_of_ble_eq_true rfl) (fun ls hl => ?_)
  obtain ⟨z, hz⟩ : ∃ z, z = sp_Mo_copy_sn p2 p4 now sa := ⟨_, rfl⟩
  rw [← hz]
  unfold sp_Mo_copy_sn at hz
  unfold ok_Mo_copy_sn at hok
  refine lv_iconst (v := 0) hx hb d_Mo_copy_0 (by decide) ?_
  refine lv_istore (lv' := [(4, .int (0 : Int32)), (0, .ref (a 3)), (1, .int p2), (2, .ref (a 0)), (3, .int p4)]) hx hb d_Mo_copy_1 hl (by decide) rfl (fun ls hl => ?_)
  exact k_Mo_copy_sn_3 C big (0 : Int32) now hok _ hz _ _ ls hP hD hS (lv_sub hl [1, 2, 3, 4, 0] rfl)
abbrev rm_Mo_record : Room := { frames := 1, cells := 0, slots := 0, locals := 24 }
def HL_Mo_record_11 (p : Program) (l : Launch) (e : Env) (s : State) (m : MethodId) (args : Array Value) (below : List Frame) (meth : Method) (c : Code) (g : GX) (mo : Nat) (a : Nat → Nat) (ws0 : va_W) (o : IV) (now : LV) (dr : LV) (sa : LV) (iS : IV) (bu : IV) (tq : IV) (rT : IV) (wT : IV) (sK : IV) (sA : IV) (sB : IV) (sE : IV) (oq : IV) (bS : IV) (bE : IV) (bL : IV) (rp : IV) (sp : Int32 → LV → (IV × LV)) (ok : Int32 → LV → Prop) : Prop := ∀ (x1p11 : Int32) (pap11 : LV), ok x1p11 pap11 → ∀ z : (IV × LV), z = sp x1p11 pap11 → ∀ (H : Heap) (locs : List Loc) (ls : Array Slot), va_P g.1 vwCl (wMo g mo a o now dr pap11 sa iS bu tq rT wT sK sA sB sE oq bS bE bL rp) H → va_D (inW ws0) (wMo g mo a o now dr pap11 sa iS bu tq rT wT sK sA sB sE oq bS bE bL rp) → va_S (inW ws0) s.heap H locs → lv_has ls 2 [(0, .ref mo), (1, .int x1p11)] → W p l e rm_Mo_record s m args below meth c H locs 0 0 (MQ below (CV g ws0 (fun u : IV × LV => wMo g mo a u.1 now dr u.2 sa iS bu tq rT wT sK sA sB sE oq bS bE bL rp) z) args s 0 0 (inW ws0)) (F0 m 11 ls [])
def HL_Mo_record_38 (p : Program) (l : Launch) (e : Env) (s : State) (m : MethodId) (args : Array Value) (below : List Frame) (meth : Method) (c : Code) (g : GX) (mo : Nat) (a : Nat → Nat) (ws0 : va_W) (o : IV) (now : LV) (dr : LV) (pap11 : LV) (sa : LV) (iS : IV) (bu : IV) (tq : IV) (rT : IV) (wT : IV) (sK : IV) (sA : IV) (sB : IV) (sE : IV) (oq : IV) (bS : IV) (bE : IV) (bL : IV) (rp : IV) (sp : (IV × LV)) (ok : Prop) : Prop := ∀ (_ : Unit), ok → ∀ z : (IV × LV), z = sp → ∀ (H : Heap) (locs : List Loc) (ls : Array Slot), va_P g.1 vwCl (wMo g mo a o now dr pap11 sa iS bu tq rT wT sK sA sB sE oq bS bE bL rp) H → va_D (inW ws0) (wMo g mo a o now dr pap11 sa iS bu tq rT wT sK sA sB sE oq bS bE bL rp) → va_S (inW ws0) s.heap H locs → lv_has ls 2 [(0, .ref mo)] → W p l e rm_Mo_record s m args below meth c H locs 0 0 (MQ below (CV g ws0 (fun u : IV × LV => wMo g mo a u.1 now dr u.2 sa iS bu tq rT wT sK sA sB sE oq bS bE bL rp) z) args s 0 0 (inW ws0)) (F0 m 38 ls [])
def HL_Mo_record_48 (p : Program) (l : Launch) (e : Env) (s : State) (m : MethodId) (args : Array Value) (below : List Frame) (meth : Method) (c : Code) (g : GX) (mo : Nat) (a : Nat → Nat) (ws0 : va_W) (now : LV) (dr : LV) (sa : LV) (iS : IV) (bu : IV) (tq : IV) (rT : IV) (wT : IV) (sK : IV) (sA : IV) (sB : IV) (sE : IV) (oq : IV) (bS : IV) (bE : IV) (bL : IV) (rp : IV) (sp : IV → LV → (IV × LV)) (ok : IV → LV → Prop) : Prop := ∀ (op48 : IV) (pap48 : LV), ok op48 pap48 → ∀ z : (IV × LV), z = sp op48 pap48 → ∀ (H : Heap) (locs : List Loc) (ls : Array Slot), va_P g.1 vwCl (wMo g mo a op48 now dr pap48 sa iS bu tq rT wT sK sA sB sE oq bS bE bL rp) H → va_D (inW ws0) (wMo g mo a op48 now dr pap48 sa iS bu tq rT wT sK sA sB sE oq bS bE bL rp) → va_S (inW ws0) s.heap H locs → lv_has ls 2 [(0, .ref mo)] → W p l e rm_Mo_record s m args below meth c H locs 0 0 (MQ below (CV g ws0 (fun u : IV × LV => wMo g mo a u.1 now dr u.2 sa iS bu tq rT wT sK sA sB sE oq bS bE bL rp) z) args s 0 0 (inW ws0)) (F0 m 48 ls [])
noncomputable def sp_Mo_record_48 (now : LV)  (op48 : IV) (pap48 : LV) : IV × LV := lett (sp_Mo_copy_np (0 : Int32) (op48 5) now pap48) fun (y8 : LV) => lett (upd op48 5 ((op48 5) + (1 : Int32))) fun (o_9 : IV) => (o_9, y8)
def ok_Mo_record_48 (now : LV)   (op48 : IV) (pap48 : LV) : Prop := (ok_Mo_copy_np (0 : Int32) (op48 5) now pap48) ∧ True
set_option maxRecDepth 100000 in
set_option maxHeartbeats 4000000 in
theorem k_Mo_record_48 {p : Program} {l : Launch} {e : Env} {s : State} {m : MethodId} {args : Array Value} {below : List Frame} {meth : Method} {c : Code} {g : GX} {mo : Nat} {a : Nat → Nat} {ws0 : va_W} {now : LV} {dr : LV} {sa : LV} {iS : IV} {bu : IV} {tq : IV} {rT : IV} {wT : IV} {sK : IV} {sA : IV} {sB : IV} {sE : IV} {oq : IV} {bS : IV} {bE : IV} {bL : IV} {rp : IV}  (C : Cx p s m args meth c (inW ws0) g "DecadeBridgeModel" b_Mo_record none 2)  : HL_Mo_record_48 p l e s m args below meth c g mo a ws0 now dr sa iS bu tq rT wT sK sA sB sE oq bS bE bL rp (sp_Mo_record_48 now ) (ok_Mo_record_48 now  ) := by
  intro op48 pap48 hok z hz H locs ls hP hD hS hl
  obtain ⟨hx, hb, hr, hml, hown, hlk, hts, hK, hZo, hZ⟩ := id C
  unfold sp_Mo_record_48 at hz
  unfold ok_Mo_record_48 at hok
  refine lv_aload_n hx hb d_Mo_record_48 rfl (lv_at hl 0 rfl) ?_
  refine gf C hP 0 0 fkMo rfl (by decide) rfl qf_Mo_7 (gMo_0 _ _) d_Mo_record_49 ?_
  refine lv_iconst (v := 0) hx hb d_Mo_record_52 (by decide) ?_
  refine lv_aload_n hx hb d_Mo_record_53 rfl (lv_at hl 0 rfl) ?_
  refine gf C hP 0 2 fkMo rfl (by decide) rfl qf_Mo_16 (gMo_2 _ _) d_Mo_record_54 ?_
  refine lv_aload_n hx hb d_Mo_record_57 rfl (lv_at hl 0 rfl) ?_
  refine gf C hP 0 5 fkMo rfl (by decide) rfl qf_Mo_400 (gMo_5 _ _) d_Mo_record_58 ?_
  have hs7 := hok.1
  have hok := hok.2
  have hB : SubW g (inW ws0) s (wMo g mo a op48 now dr pap48 sa iS bu tq rT wT sK sA sB sE oq bS bE bL rp) _ (List.range _) _ _ := (subF hP hD hS)
  refine goVF hB (run_s C mf_Mo_copy qm_Mo_476 (c_Mo_copy_np l g mo a op48 now dr pap48 sa iS bu tq rT wT sK sA sB sE oq bS bE bL rp (0 : Int32) (op48 5) hs7) rfl rfl ⟨Nat.le_of_ble_eq_true rfl, Nat.le_of_ble_eq_true rfl⟩ ⟨Nat.le_of_ble_eq_true rfl, Nat.le_of_ble_eq_true rfl⟩ hB hl rfl rfl (Nat.le_of_ble_eq_true rfl) d_Mo_record_61) (fun _ => rfl) (fun y8 ey8 H locs hP hD hS => ?_)
  have hP : va_P g.1 vwCl (wMo g mo a op48 now dr y8 sa iS bu tq rT wT sK sA sB sE oq bS bE bL rp) H := hP
  have hD : va_D (inW ws0) (wMo g mo a op48 now dr y8 sa iS bu tq rT wT sK sA sB sE oq bS bE bL rp) := hD
  have hz := lett_z hz ey8
  refine lv_aload_n hx hb d_Mo_record_64 rfl (lv_at hl 0 rfl) ?_
  refine lv_dup hx hb d_Mo_record_65 rfl ?_
  refine gf C hP 0 5 fkMo rfl (by decide) rfl qf_Mo_400 (gMo_5 _ _) d_Mo_record_66 ?_
  refine lv_iconst (v := 1) hx hb d_Mo_record_69 (by decide) ?_
  refine lv_iadd hx hb d_Mo_record_70 ?_
  refine pfI C hP hD hS 0 5 fkMo rfl (by decide) rfl qf_Mo_400 rfl rfl rfl (Nat.le_of_ble_eq_true rfl) (ff := fun o => fMo a o) (sMo_5 _ _ _) d_Mo_record_71 (fun o_9 eo_9 H locs hP hD hS => ?_)
  have hP : va_P g.1 vwCl (wMo g mo a o_9 now dr y8 sa iS bu tq rT wT sK sA sB sE oq bS bE bL rp) H := hP
  have hD : va_D (inW ws0) (wMo g mo a o_9 now dr y8 sa iS bu tq rT wT sK sA sB sE oq bS bE bL rp) := hD
  have hz := lett_z hz eo_9
  exact endV C hz hP hS d_Mo_record_74
noncomputable def sp_Mo_record_38 (o : IV) (now : LV) (pap11 : LV)   : IV × LV := lett (upd o 5 ((o 5) - (1 : Int32))) fun (o_6 : IV) => sp_Mo_record_48 now o_6 pap11
def ok_Mo_record_38 (o : IV) (now : LV) (pap11 : LV)    : Prop := lett (upd o 5 ((o 5) - (1 : Int32))) fun (o_6 : IV) => ok_Mo_record_48 now o_6 pap11
set_option maxRecDepth 100000 in
set_option maxHeartbeats 4000000 in
theorem k_Mo_record_38 {p : Program} {l : Launch} {e : Env} {s : State} {m : MethodId} {args : Array Value} {below : List Frame} {meth : Method} {c : Code} {g : GX} {mo : Nat} {a : Nat → Nat} {ws0 : va_W} {o : IV} {now : LV} {dr : LV} {pap11 : LV} {sa : LV} {iS : IV} {bu : IV} {tq : IV} {rT : IV} {wT : IV} {sK : IV} {sA : IV} {sB : IV} {sE : IV} {oq : IV} {bS : IV} {bE : IV} {bL : IV} {rp : IV}  (C : Cx p s m args meth c (inW ws0) g "DecadeBridgeModel" b_Mo_record none 2)  : HL_Mo_record_38 p l e s m args below meth c g mo a ws0 o now dr pap11 sa iS bu tq rT wT sK sA sB sE oq bS bE bL rp (sp_Mo_record_38 o now pap11 ) (ok_Mo_record_38 o now pap11  ) := by
  intro _ hok z hz H locs ls hP hD hS hl
  obtain ⟨hx, hb, hr, hml, hown, hlk, hts, hK, hZo, hZ⟩ := id C
  unfold sp_Mo_record_38 at hz
  unfold ok_Mo_record_38 at hok
  refine lv_aload_n hx hb d_Mo_record_38 rfl (lv_at hl 0 rfl) ?_
  refine lv_dup hx hb d_Mo_record_39 rfl ?_
  refine gf C hP 0 5 fkMo rfl (by decide) rfl qf_Mo_400 (gMo_5 _ _) d_Mo_record_40 ?_
  refine lv_iconst (v := 1) hx hb d_Mo_record_43 (by decide) ?_
  refine lv_isub hx hb d_Mo_record_44 ?_
  refine pfI C hP hD hS 0 5 fkMo rfl (by decide) rfl qf_Mo_400 rfl rfl rfl (Nat.le_of_ble_eq_true rfl) (ff := fun o => fMo a o) (sMo_5 _ _ _) d_Mo_record_45 (fun o_6 eo_6 H locs hP hD hS => ?_)
  have hP : va_P g.1 vwCl (wMo g mo a o_6 now dr pap11 sa iS bu tq rT wT sK sA sB sE oq bS bE bL rp) H := hP
  have hD : va_D (inW ws0) (wMo g mo a o_6 now dr pap11 sa iS bu tq rT wT sK sA sB sE oq bS bE bL rp) := hD
  have hz := lett_z hz eo_6
  have hok := lett_o hok eo_6
  exact k_Mo_record_48 C o_6 pap11 hok _ hz _ _ ls hP hD hS hl
noncomputable def bd_Mo_record_11 (o : IV) (now : LV) (r11 : Int32 → LV → (IV × LV)) (x1p11 : Int32) (pap11 : LV) : IV × LV := if (8 : Int32) ≤ x1p11 then (sp_Mo_record_38 o now pap11) else (lett (sp_Mo_copy_pp x1p11 (x1p11 - (1 : Int32)) pap11) fun (y4 : LV) => lett (x1p11 + (1 : Int32)) fun (v5 : Int32) => r11 v5 y4)
def okb_Mo_record_11 (o : IV) (now : LV) (r11 : Int32 → LV → (IV × LV)) (q11 : Int32 → LV → Prop) (x1p11 : Int32) (pap11 : LV) : Prop := (((8 : Int32) ≤ x1p11 → ok_Mo_record_38 o now pap11) ∧ (¬ ((8 : Int32) ≤ x1p11) → (ok_Mo_copy_pp x1p11 (x1p11 - (1 : Int32)) pap11) ∧ lett (sp_Mo_copy_pp x1p11 (x1p11 - (1 : Int32)) pap11) fun (y4 : LV) => lett (x1p11 + (1 : Int32)) fun (v5 : Int32) => q11 v5 y4))
noncomputable def sp_Mo_record_11 (o : IV) (now : LV)  : Nat → Int32 → LV → (IV × LV)
  | 0 => fun _ _ => default
  | f + 1 => bd_Mo_record_11 o now  (sp_Mo_record_11 o now  f)
def ok_Mo_record_11 (o : IV) (now : LV)   : Nat → Int32 → LV → Prop
  | 0 => fun _ _ => False
  | f + 1 => okb_Mo_record_11 o now  (sp_Mo_record_11 o now  f)  (ok_Mo_record_11 o now   f)
set_option maxRecDepth 100000 in
set_option maxHeartbeats 4000000 in
theorem kb_Mo_record_11 {p : Program} {l : Launch} {e : Env} {s : State} {m : MethodId} {args : Array Value} {below : List Frame} {meth : Method} {c : Code} {g : GX} {mo : Nat} {a : Nat → Nat} {ws0 : va_W} {o : IV} {now : LV} {dr : LV} {sa : LV} {iS : IV} {bu : IV} {tq : IV} {rT : IV} {wT : IV} {sK : IV} {sA : IV} {sB : IV} {sE : IV} {oq : IV} {bS : IV} {bE : IV} {bL : IV} {rp : IV}  (C : Cx p s m args meth c (inW ws0) g "DecadeBridgeModel" b_Mo_record none 2) {r11 : Int32 → LV → (IV × LV)} {q11 : Int32 → LV → Prop}  (ih11 : HL_Mo_record_11 p l e s m args below meth c g mo a ws0 o now dr sa iS bu tq rT wT sK sA sB sE oq bS bE bL rp r11 q11) : HL_Mo_record_11 p l e s m args below meth c g mo a ws0 o now dr sa iS bu tq rT wT sK sA sB sE oq bS bE bL rp (bd_Mo_record_11 o now  r11) (okb_Mo_record_11 o now  r11  q11) := by
  intro x1p11 pap11 hok z hz H locs ls hP hD hS hl
  obtain ⟨hx, hb, hr, hml, hown, hlk, hts, hK, hZo, hZ⟩ := id C
  unfold bd_Mo_record_11 at hz
  unfold okb_Mo_record_11 at hok
  refine lv_iload_n hx hb d_Mo_record_11 rfl (lv_at hl 1 rfl) ?_
  refine lv_bipush (v := 8) hx hb d_Mo_record_12 (by decide) ?_
  refine lv_icmp_ge (tgt := 38) hx hb d_Mo_record_14 (by decide) (fun c2 => ?_) (fun c2 => ?_)
  · have hz := hz.trans (if_pos c2)
    have hok := hok.1 c2
    exact k_Mo_record_38 C () hok _ hz _ _ ls hP hD hS (lv_sub hl [0] rfl)
  · have hz := hz.trans (if_neg c2)
    have hok := hok.2 c2
    refine lv_aload_n hx hb d_Mo_record_17 rfl (lv_at hl 0 rfl) ?_
    refine gf C hP 0 2 fkMo rfl (by decide) rfl qf_Mo_16 (gMo_2 _ _) d_Mo_record_18 ?_
    refine lv_iload_n hx hb d_Mo_record_21 rfl (lv_at hl 1 rfl) ?_
    refine lv_aload_n hx hb d_Mo_record_22 rfl (lv_at hl 0 rfl) ?_
    refine gf C hP 0 2 fkMo rfl (by decide) rfl qf_Mo_16 (gMo_2 _ _) d_Mo_record_23 ?_
    refine lv_iload_n hx hb d_Mo_record_26 rfl (lv_at hl 1 rfl) ?_
    refine lv_iconst (v := 1) hx hb d_Mo_record_27 (by decide) ?_
    refine lv_isub hx hb d_Mo_record_28 ?_
    have hs3 := hok.1
    have hok := hok.2
    have hB : SubW g (inW ws0) s (wMo g mo a o now dr pap11 sa iS bu tq rT wT sK sA sB sE oq bS bE bL rp) _ (List.range _) _ _ := (subF hP hD hS)
    refine goVF hB (run_s C mf_Mo_copy qm_Mo_476 (c_Mo_copy_pp l g mo a o now dr pap11 sa iS bu tq rT wT sK sA sB sE oq bS bE bL rp x1p11 (x1p11 - (1 : Int32)) hs3) rfl rfl ⟨Nat.le_of_ble_eq_true rfl, Nat.le_of_ble_eq_true rfl⟩ ⟨Nat.le_of_ble_eq_true rfl, Nat.le_of_ble_eq_true rfl⟩ hB hl rfl rfl (Nat.le_of_ble_eq_true rfl) d_Mo_record_29) (fun _ => rfl) (fun y4 ey4 H locs hP hD hS => ?_)
    have hP : va_P g.1 vwCl (wMo g mo a o now dr y4 sa iS bu tq rT wT sK sA sB sE oq bS bE bL rp) H := hP
    have hD : va_D (inW ws0) (wMo g mo a o now dr y4 sa iS bu tq rT wT sK sA sB sE oq bS bE bL rp) := hD
    have hz := lett_z hz ey4
    have hok := lett_o hok ey4
    obtain ⟨v5, ev5⟩ : ∃ y : Int32, y = x1p11 + (1 : Int32) := ⟨_, rfl⟩
    have hz := lett_z hz ev5
    have hok := lett_o hok ev5
    refine lv_iinc (v := v5) (lv' := [(1, .int v5), (0, .ref mo)]) hx hb d_Mo_record_32 hl (k := 1) rfl (by rw [ev5]; rfl) (by decide) rfl (fun ls hl => ?_)
    refine lv_goto (tgt := 11) hx hb d_Mo_record_35 (by decide) ?_
    exact ih11 v5 y4 hok _ hz _ _ ls hP hD hS (lv_sub hl [1, 0] rfl)
theorem k_Mo_record_11 {p : Program} {l : Launch} {e : Env} {s : State} {m : MethodId} {args : Array Value} {below : List Frame} {meth : Method} {c : Code} {g : GX} {mo : Nat} {a : Nat → Nat} {ws0 : va_W} {o : IV} {now : LV} {dr : LV} {sa : LV} {iS : IV} {bu : IV} {tq : IV} {rT : IV} {wT : IV} {sK : IV} {sA : IV} {sB : IV} {sE : IV} {oq : IV} {bS : IV} {bE : IV} {bL : IV} {rp : IV}  (C : Cx p s m args meth c (inW ws0) g "DecadeBridgeModel" b_Mo_record none 2) (f : Nat)  : HL_Mo_record_11 p l e s m args below meth c g mo a ws0 o now dr sa iS bu tq rT wT sK sA sB sE oq bS bE bL rp (sp_Mo_record_11 o now  f) (ok_Mo_record_11 o now   f) := by
  induction f with
  | zero => intro x1p11 pap11 hok; exact False.elim hok
  | succ f ih => exact kb_Mo_record_11 C  ih
noncomputable def sp_Mo_record (o : IV) (now : LV) (pa : LV) : IV × LV := if (o 5) = (8 : Int32) then (sp_Mo_record_11 o now big (1 : Int32) pa) else (sp_Mo_record_48 now o pa)
def ok_Mo_record (o : IV) (now : LV) (pa : LV) : Prop := (((o 5) = (8 : Int32) → ok_Mo_record_11 o now big (1 : Int32) pa) ∧ (¬ ((o 5) = (8 : Int32)) → ok_Mo_record_48 now o pa))
set_option maxRecDepth 100000 in
set_option maxHeartbeats 4000000 in
theorem c_Mo_record (l : Launch) (g : GX) (mo : Nat) (a : Nat → Nat) (o : IV) (now : LV) (dr : LV) (pa : LV) (sa : LV) (iS : IV) (bu : IV) (tq : IV) (rT : IV) (wT : IV) (sK : IV) (sA : IV) (sB : IV) (sE : IV) (oq : IV) (bS : IV) (bE : IV) (bL : IV) (rp : IV)  (hok : ok_Mo_record o now pa) : Met l y_Mo_record (wsY y_Mo_record b_Mo_record 2 none) rm_Mo_record (CP g [.ref mo] (wMo g mo a o now dr pa sa iS bu tq rT wT sK sA sB sE oq bS bE bL rp)) (CV g (wMo g mo a o now dr pa sa iS bu tq rT wT sK sA sB sE oq bS bE bL rp) (fun u : IV × LV => wMo g mo a u.1 now dr u.2 sa iS bu tq rT wT sK sA sB sE oq bS bE bL rp) (sp_Mo_record o now pa)) 0 0 (inW (wMo g mo a o now dr pa sa iS bu tq rT wT sK sA sB sE oq bS bE bL rp)) := by
  refine Met.ofW (cc := b_Mo_record) (maxL := 2) (ret := none) pn_Mo rfl ?_
  intro p e s m args below meth c s₁ B hml hv
  obtain ⟨rfl, C, hP, hD, hS⟩ := enter "DecadeBridgeModel" rfl B hml hv
  obtain ⟨hx, hb, hr, hml, hown, hlk, hts, hK, hZo, hZ⟩ := id C
  refine entryW (lv := [(0, .ref mo)]) rfl (Nat.le_of_ble_eq_true rfl) (fun ls hl => ?_)
  obtain ⟨z, hz⟩ : ∃ z, z = sp_Mo_record o now pa := ⟨_, rfl⟩
  rw [← hz]
  unfold sp_Mo_record at hz
  unfold ok_Mo_record at hok
  refine lv_aload_n hx hb d_Mo_record_0 rfl (lv_at hl 0 rfl) ?_
  refine gf C hP 0 5 fkMo rfl (by decide) rfl qf_Mo_400 (gMo_5 _ _) d_Mo_record_1 ?_
  refine lv_bipush (v := 8) hx hb d_Mo_record_4 (by decide) ?_
  refine lv_icmp_ne (tgt := 48) hx hb d_Mo_record_6 (by decide) (fun c1 => ?_) (fun c1 => ?_)
  · have hz := hz.trans (if_neg c1)
    have hok := hok.2 c1
    exact k_Mo_record_48 C o pa hok _ hz _ _ ls hP hD hS hl
  · have hz := hz.trans (if_pos c1)
    have hok := hok.1 c1
    refine lv_iconst (v := 1) hx hb d_Mo_record_9 (by decide) ?_
    refine lv_istore_n (lv' := [(1, .int (1 : Int32)), (0, .ref mo)]) hx hb d_Mo_record_10 rfl hl (by decide) rfl (fun ls hl => ?_)
    exact k_Mo_record_11 C big (1 : Int32) pa hok _ hz _ _ ls hP hD hS (lv_sub hl [1, 0] rfl)
abbrev rm_Mo_change : Room := { frames := 0, cells := 0, slots := 0, locals := 0 }
noncomputable def sp_Mo_change (p1 : Int32) (p2 : Int64) (now : LV) : Int32 × LV := lett ((now p1.toNatClampNeg).toInt32) fun (v2 : Int32) => lett (vp_updL now p1.toNatClampNeg p2) fun (now_3 : LV) => (v2, now_3)
def ok_Mo_change (p1 : Int32) (p2 : Int64) : Prop := (vp_in p1 215) ∧ True
set_option maxRecDepth 100000 in
set_option maxHeartbeats 4000000 in
theorem c_Mo_change (l : Launch) (g : GX) (mo : Nat) (a : Nat → Nat) (o : IV) (now : LV) (dr : LV) (pa : LV) (sa : LV) (iS : IV) (bu : IV) (tq : IV) (rT : IV) (wT : IV) (sK : IV) (sA : IV) (sB : IV) (sE : IV) (oq : IV) (bS : IV) (bE : IV) (bL : IV) (rp : IV) (p1 : Int32) (p2 : Int64) (hok : ok_Mo_change p1 p2) : Met l y_Mo_change (wsY y_Mo_change b_Mo_change 5 (some .int)) rm_Mo_change (CP g [.ref mo, .int p1, .long p2] (wMo g mo a o now dr pa sa iS bu tq rT wT sK sA sB sE oq bS bE bL rp)) (CI g (wMo g mo a o now dr pa sa iS bu tq rT wT sK sA sB sE oq bS bE bL rp) (fun u : LV => wMo g mo a o u dr pa sa iS bu tq rT wT sK sA sB sE oq bS bE bL rp) (sp_Mo_change p1 p2 now)) 0 0 (inW (wMo g mo a o now dr pa sa iS bu tq rT wT sK sA sB sE oq bS bE bL rp)) := by
  refine Met.ofW (cc := b_Mo_change) (maxL := 5) (ret := (some .int)) pn_Mo rfl ?_
  intro p e s m args below meth c s₁ B hml hv
  obtain ⟨rfl, C, hP, hD, hS⟩ := enter "DecadeBridgeModel" rfl B hml hv
  obtain ⟨hx, hb, hr, hml, hown, hlk, hts, hK, hZo, hZ⟩ := id C
  refine entryW (lv := [(0, .ref mo), (1, .int p1), (2, .long p2)]) rfl (Nat.le_of_ble_eq_true rfl) (fun ls hl => ?_)
  obtain ⟨z, hz⟩ : ∃ z, z = sp_Mo_change p1 p2 now := ⟨_, rfl⟩
  rw [← hz]
  unfold sp_Mo_change at hz
  unfold ok_Mo_change at hok
  refine lv_aload_n hx hb d_Mo_change_0 rfl (lv_at hl 0 rfl) ?_
  refine gf C hP 0 0 fkMo rfl (by decide) rfl qf_Mo_7 (gMo_0 _ _) d_Mo_change_1 ?_
  refine lv_iload_n hx hb d_Mo_change_4 rfl (lv_at hl 1 rfl) ?_
  have hs1 := hok.1
  have hok := hok.2
  refine ldL C hP 1 rfl hs1 rfl d_Mo_change_5 ?_
  refine lv_l2i hx hb d_Mo_change_6 rfl ?_
  refine lv_topi (fun v2 ev2 => ?_)
  have hz := lett_z hz ev2
  refine lv_istore (lv' := [(4, .int v2), (0, .ref mo), (1, .int p1), (2, .long p2)]) hx hb d_Mo_change_7 hl (by decide) rfl (fun ls hl => ?_)
  refine lv_aload_n hx hb d_Mo_change_9 rfl (lv_at hl 1 rfl) ?_
  refine gf C hP 0 0 fkMo rfl (by decide) rfl qf_Mo_7 (gMo_0 _ _) d_Mo_change_10 ?_
  refine lv_iload_n hx hb d_Mo_change_13 rfl (lv_at hl 2 rfl) ?_
  refine lv_lload_n hx hb d_Mo_change_14 rfl (lv_at hl 3 rfl) ?_
  refine stL C hP hD hS 1 rfl hs1 rfl d_Mo_change_15 (fun now_3 enow_3 H locs hP hD hS => ?_)
  have hP : va_P g.1 vwCl (wMo g mo a o now_3 dr pa sa iS bu tq rT wT sK sA sB sE oq bS bE bL rp) H := hP
  have hD : va_D (inW (wMo g mo a o now dr pa sa iS bu tq rT wT sK sA sB sE oq bS bE bL rp)) (wMo g mo a o now_3 dr pa sa iS bu tq rT wT sK sA sB sE oq bS bE bL rp) := hD
  have hz := lett_z hz enow_3
  refine lv_iload hx hb d_Mo_change_16 (lv_at hl 0 rfl) ?_
  exact endI1 C hz hP hS d_Mo_change_18
abbrev rm_Mo_armsNow : Room := { frames := 1, cells := 0, slots := 0, locals := 24 }
noncomputable def sp_Mo_armsNow (p1 : Int64) (p2 : Int64) (now : LV) : Int32 × LV := lett (sp_Mo_change (29 : Int32) p1 now) fun (y2 : Int32 × LV) => lett ((10 : Int32) * y2.1) fun (v3 : Int32) => lett (sp_Mo_change (30 : Int32) p2 y2.2) fun (y5 : Int32 × LV) => (v3 + y5.1, y5.2)
def ok_Mo_armsNow (p1 : Int64) (p2 : Int64) (now : LV) : Prop := (ok_Mo_change (29 : Int32) p1) ∧ lett (sp_Mo_change (29 : Int32) p1 now) fun (y2 : Int32 × LV) => lett ((10 : Int32) * y2.1) fun (v3 : Int32) => (ok_Mo_change (30 : Int32) p2) ∧ True
set_option maxRecDepth 100000 in
set_option maxHeartbeats 4000000 in
theorem c_Mo_armsNow (l : Launch) (g : GX) (mo : Nat) (a : Nat → Nat) (o : IV) (now : LV) (dr : LV) (pa : LV) (sa : LV) (iS : IV) (bu : IV) (tq : IV) (rT : IV) (wT : IV) (sK : IV) (sA : IV) (sB : IV) (sE : IV) (oq : IV) (bS : IV) (bE : IV) (bL : IV) (rp : IV) (p1 : Int64) (p2 : Int64) (hok : ok_Mo_armsNow p1 p2 now) : Met l y_Mo_armsNow (wsY y_Mo_armsNow b_Mo_armsNow 6 (some .int)) rm_Mo_armsNow (CP g [.ref mo, .long p1, .long p2] (wMo g mo a o now dr pa sa iS bu tq rT wT sK sA sB sE oq bS bE bL rp)) (CI g (wMo g mo a o now dr pa sa iS bu tq rT wT sK sA sB sE oq bS bE bL rp) (fun u : LV => wMo g mo a o u dr pa sa iS bu tq rT wT sK sA sB sE oq bS bE bL rp) (sp_Mo_armsNow p1 p2 now)) 0 0 (inW (wMo g mo a o now dr pa sa iS bu tq rT wT sK sA sB sE oq bS bE bL rp)) := by
  refine Met.ofW (cc := b_Mo_armsNow) (maxL := 6) (ret := (some .int)) pn_Mo rfl ?_
  intro p e s m args below meth c s₁ B hml hv
  obtain ⟨rfl, C, hP, hD, hS⟩ := enter "DecadeBridgeModel" rfl B hml hv
  obtain ⟨hx, hb, hr, hml, hown, hlk, hts, hK, hZo, hZ⟩ := id C
  refine entryW (lv := [(0, .ref mo), (1, .long p1), (3, .long p2)]) rfl (Nat.le_of_ble_eq_true rfl) (fun ls hl => ?_)
  obtain ⟨z, hz⟩ : ∃ z, z = sp_Mo_armsNow p1 p2 now := ⟨_, rfl⟩
  rw [← hz]
  unfold sp_Mo_armsNow at hz
  unfold ok_Mo_armsNow at hok
  refine lv_bipush (v := 10) hx hb d_Mo_armsNow_0 (by decide) ?_
  refine lv_aload_n hx hb d_Mo_armsNow_2 rfl (lv_at hl 0 rfl) ?_
  refine lv_bipush (v := 29) hx hb d_Mo_armsNow_3 (by decide) ?_
  refine lv_lload_n hx hb d_Mo_armsNow_5 rfl (lv_at hl 1 rfl) ?_
  have hs1 := hok.1
  have hok := hok.2
  have hB : SubW g (inW (wMo g mo a o now dr pa sa iS bu tq rT wT sK sA sB sE oq bS bE bL rp)) s (wMo g mo a o now dr pa sa iS bu tq rT wT sK sA sB sE oq bS bE bL rp) _ (List.range _) _ _ := (subF hP hD hS)
  refine goIF hB (run_v C mf_Mo_change qm_Mo_480 (c_Mo_change l g mo a o now dr pa sa iS bu tq rT wT sK sA sB sE oq bS bE bL rp (29 : Int32) p1 hs1) rfl rfl ⟨Nat.le_of_ble_eq_true rfl, Nat.le_of_ble_eq_true rfl⟩ ⟨Nat.le_of_ble_eq_true rfl, Nat.le_of_ble_eq_true rfl⟩ hB rfl rfl hl rfl rfl (Nat.le_of_ble_eq_true rfl) d_Mo_armsNow_6) (fun _ => rfl) (fun y2 ey2 H locs hP hD hS => ?_)
  have hP : va_P g.1 vwCl (wMo g mo a o y2.2 dr pa sa iS bu tq rT wT sK sA sB sE oq bS bE bL rp) H := hP
  have hD : va_D (inW (wMo g mo a o now dr pa sa iS bu tq rT wT sK sA sB sE oq bS bE bL rp)) (wMo g mo a o y2.2 dr pa sa iS bu tq rT wT sK sA sB sE oq bS bE bL rp) := hD
  have hz := lett_z hz ey2
  have hok := lett_o hok ey2
  refine lv_imul hx hb d_Mo_armsNow_9 ?_
  refine lv_topi (fun v3 ev3 => ?_)
  have hz := lett_z hz ev3
  have hok := lett_o hok ev3
  refine lv_istore (lv' := [(5, .int v3), (0, .ref mo), (1, .long p1), (3, .long p2)]) hx hb d_Mo_armsNow_10 hl (by decide) rfl (fun ls hl => ?_)
  refine lv_iload hx hb d_Mo_armsNow_12 (lv_at hl 0 rfl) ?_
  refine lv_aload_n hx hb d_Mo_armsNow_14 rfl (lv_at hl 1 rfl) ?_
  refine lv_bipush (v := 30) hx hb d_Mo_armsNow_15 (by decide) ?_
  refine lv_lload_n hx hb d_Mo_armsNow_17 rfl (lv_at hl 3 rfl) ?_
  have hs4 := hok.1
  have hok := hok.2
  have hB : SubW g (inW (wMo g mo a o now dr pa sa iS bu tq rT wT sK sA sB sE oq bS bE bL rp)) s (wMo g mo a o y2.2 dr pa sa iS bu tq rT wT sK sA sB sE oq bS bE bL rp) _ (List.range _) _ _ := (subF hP hD hS)
  refine goIF hB (run_v C mf_Mo_change qm_Mo_480 (c_Mo_change l g mo a o y2.2 dr pa sa iS bu tq rT wT sK sA sB sE oq bS bE bL rp (30 : Int32) p2 hs4) rfl rfl ⟨Nat.le_of_ble_eq_true rfl, Nat.le_of_ble_eq_true rfl⟩ ⟨Nat.le_of_ble_eq_true rfl, Nat.le_of_ble_eq_true rfl⟩ hB rfl rfl hl rfl rfl (Nat.le_of_ble_eq_true rfl) d_Mo_armsNow_18) (fun _ => rfl) (fun y5 ey5 H locs hP hD hS => ?_)
  have hP : va_P g.1 vwCl (wMo g mo a o y5.2 dr pa sa iS bu tq rT wT sK sA sB sE oq bS bE bL rp) H := hP
  have hD : va_D (inW (wMo g mo a o now dr pa sa iS bu tq rT wT sK sA sB sE oq bS bE bL rp)) (wMo g mo a o y5.2 dr pa sa iS bu tq rT wT sK sA sB sE oq bS bE bL rp) := hD
  have hz := lett_z hz ey5
  refine lv_iadd hx hb d_Mo_armsNow_21 ?_
  exact endI1 C hz hP hS d_Mo_armsNow_22
