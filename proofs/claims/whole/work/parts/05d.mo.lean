abbrev rm_Mo_readBox : Room := { frames := 4, cells := 0, slots := 0, locals := 92 }
def HL_Mo_readBox_71 (p : Program) (l : Launch) (e : Env) (s : State) (m : MethodId) (args : Array Value) (below : List Frame) (meth : Method) (c : Code) (g : GX) (mo : Nat) (a : Nat → Nat) (ws0 : va_W) (now : LV) (pa : LV) (sa : LV) (iS : IV) (bu : IV) (y2 : IV × IV) (rT : IV) (wT : IV) (wo : Nat → Option Nat) (sK : IV) (sA : IV) (sB : IV) (sE : IV) (oq : IV) (bS : IV) (bE : IV) (bL : IV) (rp : IV) (sp : Int32 → IV → LV → (IV × LV × IV)) (ok : Int32 → IV → LV → Prop) : Prop := ∀ (x1p71 : Int32) (op71 : IV) (drp71 : LV), ok x1p71 op71 drp71 → ∀ z : (IV × LV × IV), z = sp x1p71 op71 drp71 → ∀ (H : Heap) (locs : List Loc) (ls : Array Slot), va_P g.1 vwCl (wMo g mo a op71 now drp71 pa sa iS bu y2.2 rT wT wo sK sA sB sE oq bS bE bL rp) H → va_D (inW ws0) (wMo g mo a op71 now drp71 pa sa iS bu y2.2 rT wT wo sK sA sB sE oq bS bE bL rp) → va_S (inW ws0) s.heap H locs → lv_has ls 2 [(0, .ref mo), (1, .int x1p71)] → W p l e rm_Mo_readBox s m args below meth c H locs 0 0 (MQ below (CV g ws0 (fun u : IV × LV × IV => wMo g mo a u.1 now u.2.1 pa sa iS bu u.2.2 rT wT wo sK sA sB sE oq bS bE bL rp) z) args s 0 0 (inW ws0)) (F0 m 71 ls [])
def HL_Mo_readBox_100 (p : Program) (l : Launch) (e : Env) (s : State) (m : MethodId) (args : Array Value) (below : List Frame) (meth : Method) (c : Code) (g : GX) (mo : Nat) (a : Nat → Nat) (ws0 : va_W) (op71 : IV) (now : LV) (drp71 : LV) (pa : LV) (sa : LV) (iS : IV) (bu : IV) (y2 : IV × IV) (rT : IV) (wT : IV) (wo : Nat → Option Nat) (sK : IV) (sA : IV) (sB : IV) (sE : IV) (oq : IV) (bS : IV) (bE : IV) (bL : IV) (rp : IV) (x1p71 : Int32) (sp : (IV × LV × IV)) (ok : Prop) : Prop := ∀ (_ : Unit), ok → ∀ z : (IV × LV × IV), z = sp → ∀ (H : Heap) (locs : List Loc) (ls : Array Slot), va_P g.1 vwCl (wMo g mo a op71 now drp71 pa sa iS bu y2.2 rT wT wo sK sA sB sE oq bS bE bL rp) H → va_D (inW ws0) (wMo g mo a op71 now drp71 pa sa iS bu y2.2 rT wT wo sK sA sB sE oq bS bE bL rp) → va_S (inW ws0) s.heap H locs → lv_has ls 2 [(0, .ref mo), (1, .int x1p71)] → W p l e rm_Mo_readBox s m args below meth c H locs 0 0 (MQ below (CV g ws0 (fun u : IV × LV × IV => wMo g mo a u.1 now u.2.1 pa sa iS bu u.2.2 rT wT wo sK sA sB sE oq bS bE bL rp) z) args s 0 0 (inW ws0)) (F0 m 100 ls [])
def HL_Mo_readBox_124 (p : Program) (l : Launch) (e : Env) (s : State) (m : MethodId) (args : Array Value) (below : List Frame) (meth : Method) (c : Code) (g : GX) (mo : Nat) (a : Nat → Nat) (ws0 : va_W) (op71 : IV) (now : LV) (drp71 : LV) (pa : LV) (sa : LV) (iS : IV) (bu : IV) (y2 : IV × IV) (rT : IV) (wT : IV) (wo : Nat → Option Nat) (sK : IV) (sA : IV) (sB : IV) (sE : IV) (oq : IV) (bS : IV) (bE : IV) (bL : IV) (rp : IV) (x1p71 : Int32) (sp : (IV × LV × IV)) (ok : Prop) : Prop := ∀ (_ : Unit), ok → ∀ z : (IV × LV × IV), z = sp → ∀ (H : Heap) (locs : List Loc) (ls : Array Slot), va_P g.1 vwCl (wMo g mo a op71 now drp71 pa sa iS bu y2.2 rT wT wo sK sA sB sE oq bS bE bL rp) H → va_D (inW ws0) (wMo g mo a op71 now drp71 pa sa iS bu y2.2 rT wT wo sK sA sB sE oq bS bE bL rp) → va_S (inW ws0) s.heap H locs → lv_has ls 2 [(0, .ref mo), (1, .int x1p71)] → W p l e rm_Mo_readBox s m args below meth c H locs 0 0 (MQ below (CV g ws0 (fun u : IV × LV × IV => wMo g mo a u.1 now u.2.1 pa sa iS bu u.2.2 rT wT wo sK sA sB sE oq bS bE bL rp) z) args s 0 0 (inW ws0)) (F0 m 124 ls [])
noncomputable def sp_Mo_readBox_124 (drp71 : LV) (x1p71 : Int32) (op71 : IV) (y2 : IV × IV)   : IV × LV × IV := lett (vp_updL drp71 0 x1p71.toInt64) fun (dr_29 : LV) => (op71, dr_29, y2.2)
def ok_Mo_readBox_124 (drp71 : LV) (x1p71 : Int32) (op71 : IV) (y2 : IV × IV)    : Prop := True
set_option maxRecDepth 100000 in
set_option maxHeartbeats 4000000 in
theorem k_Mo_readBox_124 {p : Program} {l : Launch} {e : Env} {s : State} {m : MethodId} {args : Array Value} {below : List Frame} {meth : Method} {c : Code} {g : GX} {mo : Nat} {a : Nat → Nat} {ws0 : va_W} {op71 : IV} {now : LV} {drp71 : LV} {pa : LV} {sa : LV} {iS : IV} {bu : IV} {y2 : IV × IV} {rT : IV} {wT : IV} {wo : Nat → Option Nat} {sK : IV} {sA : IV} {sB : IV} {sE : IV} {oq : IV} {bS : IV} {bE : IV} {bL : IV} {rp : IV} {x1p71 : Int32}  (C : Cx p s m args meth c (inW ws0) g "DecadeBridgeModel" b_Mo_readBox none 2)  : HL_Mo_readBox_124 p l e s m args below meth c g mo a ws0 op71 now drp71 pa sa iS bu y2 rT wT wo sK sA sB sE oq bS bE bL rp x1p71 (sp_Mo_readBox_124 drp71 x1p71 op71 y2 ) (ok_Mo_readBox_124 drp71 x1p71 op71 y2  ) := by
  intro _ hok z hz H locs ls hP hD hS hl
  obtain ⟨hx, hb, hr, hml, hown, hlk, hts, hK, hZo, hZ⟩ := id C
  unfold sp_Mo_readBox_124 at hz
  refine lv_aload_n hx hb d_Mo_readBox_124 rfl (lv_at hl 0 rfl) ?_
  refine gf C hP 0 1 fkMo rfl (by decide) rfl qf_Mo_13 (gMo_1 _ _) d_Mo_readBox_125 ?_
  refine lv_iconst (v := 0) hx hb d_Mo_readBox_128 (by decide) ?_
  refine lv_iload_n hx hb d_Mo_readBox_129 rfl (lv_at hl 1 rfl) ?_
  refine lv_i2l hx hb d_Mo_readBox_130 rfl ?_
  refine stL C hP hD hS 2 rfl vi_0_215 cn_0 d_Mo_readBox_131 (fun dr_29 edr_29 H locs hP hD hS => ?_)
  have hP : va_P g.1 vwCl (wMo g mo a op71 now dr_29 pa sa iS bu y2.2 rT wT wo sK sA sB sE oq bS bE bL rp) H := hP
  have hD : va_D (inW ws0) (wMo g mo a op71 now dr_29 pa sa iS bu y2.2 rT wT wo sK sA sB sE oq bS bE bL rp) := hD
  have hz := lett_z hz edr_29
  exact endV C hz hP hS d_Mo_readBox_132
noncomputable def sp_Mo_readBox_100 (op71 : IV) (bu : IV) (drp71 : LV) (x1p71 : Int32) (r71 : Int32 → IV → LV → (IV × LV × IV))  : IV × LV × IV := lett (sp_Mo_signed (-50000 : Int64) (50000 : Int64) op71 bu) fun (y25 : Int64 × IV) => lett (vp_updL drp71 ((3 : Int32) + x1p71).toNatClampNeg y25.1) fun (dr_27 : LV) => lett (x1p71 + (1 : Int32)) fun (v28 : Int32) => r71 v28 y25.2 dr_27
def ok_Mo_readBox_100 (op71 : IV) (bu : IV) (drp71 : LV) (x1p71 : Int32) (r71 : Int32 → IV → LV → (IV × LV × IV)) (q71 : Int32 → IV → LV → Prop)  : Prop := (ok_Mo_signed (-50000 : Int64) (50000 : Int64) op71 bu) ∧ lett (sp_Mo_signed (-50000 : Int64) (50000 : Int64) op71 bu) fun (y25 : Int64 × IV) => (vp_in ((3 : Int32) + x1p71) 215) ∧ lett (vp_updL drp71 ((3 : Int32) + x1p71).toNatClampNeg y25.1) fun (dr_27 : LV) => lett (x1p71 + (1 : Int32)) fun (v28 : Int32) => q71 v28 y25.2 dr_27
set_option maxRecDepth 100000 in
set_option maxHeartbeats 4000000 in
theorem k_Mo_readBox_100 {p : Program} {l : Launch} {e : Env} {s : State} {m : MethodId} {args : Array Value} {below : List Frame} {meth : Method} {c : Code} {g : GX} {mo : Nat} {a : Nat → Nat} {ws0 : va_W} {op71 : IV} {now : LV} {drp71 : LV} {pa : LV} {sa : LV} {iS : IV} {bu : IV} {y2 : IV × IV} {rT : IV} {wT : IV} {wo : Nat → Option Nat} {sK : IV} {sA : IV} {sB : IV} {sE : IV} {oq : IV} {bS : IV} {bE : IV} {bL : IV} {rp : IV} {x1p71 : Int32} {r71 : Int32 → IV → LV → (IV × LV × IV)} {q71 : Int32 → IV → LV → Prop} (C : Cx p s m args meth c (inW ws0) g "DecadeBridgeModel" b_Mo_readBox none 2) (ih71 : HL_Mo_readBox_71 p l e s m args below meth c g mo a ws0 now pa sa iS bu y2 rT wT wo sK sA sB sE oq bS bE bL rp r71 q71) : HL_Mo_readBox_100 p l e s m args below meth c g mo a ws0 op71 now drp71 pa sa iS bu y2 rT wT wo sK sA sB sE oq bS bE bL rp x1p71 (sp_Mo_readBox_100 op71 bu drp71 x1p71 r71) (ok_Mo_readBox_100 op71 bu drp71 x1p71 r71 q71) := by
  intro _ hok z hz H locs ls hP hD hS hl
  obtain ⟨hx, hb, hr, hml, hown, hlk, hts, hK, hZo, hZ⟩ := id C
  unfold sp_Mo_readBox_100 at hz
  unfold ok_Mo_readBox_100 at hok
  refine lv_aload_n hx hb d_Mo_readBox_100 rfl (lv_at hl 0 rfl) ?_
  refine gf C hP 0 1 fkMo rfl (by decide) rfl qf_Mo_13 (gMo_1 _ _) d_Mo_readBox_101 ?_
  refine lv_iconst (v := 3) hx hb d_Mo_readBox_104 (by decide) ?_
  refine lv_iload_n hx hb d_Mo_readBox_105 rfl (lv_at hl 1 rfl) ?_
  refine lv_iadd hx hb d_Mo_readBox_106 ?_
  refine lv_aload_n hx hb d_Mo_readBox_107 rfl (lv_at hl 0 rfl) ?_
  refine lv_ldc2 hx hb hown (hts _ qk_Mo_339) d_Mo_readBox_108 ?_
  refine lv_ldc2 hx hb hown (hts _ qk_Mo_341) d_Mo_readBox_111 ?_
  have hs24 := hok.1
  have hok := hok.2
  have hB : SubW g (inW ws0) s (wMo g mo a op71 now drp71 pa sa iS bu y2.2 rT wT wo sK sA sB sE oq bS bE bL rp) _ (List.range _) _ _ := (subF hP hD hS)
  refine goLF hB (run_v C mf_Mo_signed qm_Mo_343 (c_Mo_signed l g mo a op71 now drp71 pa sa iS bu y2.2 rT wT wo sK sA sB sE oq bS bE bL rp (-50000 : Int64) (50000 : Int64) hs24) rfl rfl ⟨Nat.le_of_ble_eq_true rfl, Nat.le_of_ble_eq_true rfl⟩ ⟨Nat.le_of_ble_eq_true rfl, Nat.le_of_ble_eq_true rfl⟩ hB rfl rfl hl rfl rfl (Nat.le_of_ble_eq_true rfl) d_Mo_readBox_114) (fun _ => rfl) (fun y25 ey25 H locs hP hD hS => ?_)
  have hP : va_P g.1 vwCl (wMo g mo a y25.2 now drp71 pa sa iS bu y2.2 rT wT wo sK sA sB sE oq bS bE bL rp) H := hP
  have hD : va_D (inW ws0) (wMo g mo a y25.2 now drp71 pa sa iS bu y2.2 rT wT wo sK sA sB sE oq bS bE bL rp) := hD
  have hz := lett_z hz ey25
  have hok := lett_o hok ey25
  have hs26 := hok.1
  have hok := hok.2
  refine stL C hP hD hS 2 rfl hs26 rfl d_Mo_readBox_117 (fun dr_27 edr_27 H locs hP hD hS => ?_)
  have hP : va_P g.1 vwCl (wMo g mo a y25.2 now dr_27 pa sa iS bu y2.2 rT wT wo sK sA sB sE oq bS bE bL rp) H := hP
  have hD : va_D (inW ws0) (wMo g mo a y25.2 now dr_27 pa sa iS bu y2.2 rT wT wo sK sA sB sE oq bS bE bL rp) := hD
  have hz := lett_z hz edr_27
  have hok := lett_o hok edr_27
  obtain ⟨v28, ev28⟩ : ∃ y : Int32, y = x1p71 + (1 : Int32) := ⟨_, rfl⟩
  have hz := lett_z hz ev28
  have hok := lett_o hok ev28
  refine lv_iinc (v := v28) (lv' := [(1, .int v28), (0, .ref mo)]) hx hb d_Mo_readBox_118 hl (k := 1) rfl (by rw [ev28]; rfl) (by decide) rfl (fun ls hl => ?_)
  refine lv_goto (tgt := 71) hx hb d_Mo_readBox_121 (by decide) ?_
  exact ih71 v28 y25.2 dr_27 hok _ hz _ _ ls hP hD hS (lv_sub hl [1, 0] rfl)
noncomputable def bd_Mo_readBox_71 (y2 : IV × IV) (bu : IV) (r71 : Int32 → IV → LV → (IV × LV × IV)) (x1p71 : Int32) (op71 : IV) (drp71 : LV) : IV × LV × IV := lett (sp_Mo_good op71) fun (y17 : Int32) => if y17 = 0 then (sp_Mo_readBox_124 drp71 x1p71 op71 y2) else (if (4 : Int32) ≤ x1p71 then (sp_Mo_readBox_124 drp71 x1p71 op71 y2) else (if (op71 11) = (2 : Int32) then (sp_Mo_readBox_100 op71 bu drp71 x1p71 r71) else (lett (sp_Mo_isSign (45 : Int32) op71 bu) fun (y22 : Int32) => if y22 = 0 then (sp_Mo_readBox_124 drp71 x1p71 op71 y2) else (sp_Mo_readBox_100 op71 bu drp71 x1p71 r71))))
def okb_Mo_readBox_71 (y2 : IV × IV) (bu : IV) (r71 : Int32 → IV → LV → (IV × LV × IV)) (q71 : Int32 → IV → LV → Prop) (x1p71 : Int32) (op71 : IV) (drp71 : LV) : Prop := lett (sp_Mo_good op71) fun (y17 : Int32) => ((y17 = 0 → True) ∧ (¬ (y17 = 0) → (((4 : Int32) ≤ x1p71 → True) ∧ (¬ ((4 : Int32) ≤ x1p71) → (((op71 11) = (2 : Int32) → ok_Mo_readBox_100 op71 bu drp71 x1p71 r71 q71) ∧ (¬ ((op71 11) = (2 : Int32)) → (ok_Mo_isSign (45 : Int32) op71) ∧ lett (sp_Mo_isSign (45 : Int32) op71 bu) fun (y22 : Int32) => ((y22 = 0 → True) ∧ (¬ (y22 = 0) → ok_Mo_readBox_100 op71 bu drp71 x1p71 r71 q71))))))))
noncomputable def sp_Mo_readBox_71 (y2 : IV × IV) (bu : IV)  : Nat → Int32 → IV → LV → (IV × LV × IV)
  | 0 => fun _ _ _ => default
  | f + 1 => bd_Mo_readBox_71 y2 bu  (sp_Mo_readBox_71 y2 bu  f)
def ok_Mo_readBox_71 (y2 : IV × IV) (bu : IV)   : Nat → Int32 → IV → LV → Prop
  | 0 => fun _ _ _ => False
  | f + 1 => okb_Mo_readBox_71 y2 bu  (sp_Mo_readBox_71 y2 bu  f)  (ok_Mo_readBox_71 y2 bu   f)
set_option maxRecDepth 100000 in
set_option maxHeartbeats 4000000 in
theorem kb_Mo_readBox_71 {p : Program} {l : Launch} {e : Env} {s : State} {m : MethodId} {args : Array Value} {below : List Frame} {meth : Method} {c : Code} {g : GX} {mo : Nat} {a : Nat → Nat} {ws0 : va_W} {now : LV} {pa : LV} {sa : LV} {iS : IV} {bu : IV} {y2 : IV × IV} {rT : IV} {wT : IV} {wo : Nat → Option Nat} {sK : IV} {sA : IV} {sB : IV} {sE : IV} {oq : IV} {bS : IV} {bE : IV} {bL : IV} {rp : IV}  (C : Cx p s m args meth c (inW ws0) g "DecadeBridgeModel" b_Mo_readBox none 2) {r71 : Int32 → IV → LV → (IV × LV × IV)} {q71 : Int32 → IV → LV → Prop}  (ih71 : HL_Mo_readBox_71 p l e s m args below meth c g mo a ws0 now pa sa iS bu y2 rT wT wo sK sA sB sE oq bS bE bL rp r71 q71) : HL_Mo_readBox_71 p l e s m args below meth c g mo a ws0 now pa sa iS bu y2 rT wT wo sK sA sB sE oq bS bE bL rp (bd_Mo_readBox_71 y2 bu  r71) (okb_Mo_readBox_71 y2 bu  r71  q71) := by
  intro x1p71 op71 drp71 hok z hz H locs ls hP hD hS hl
  obtain ⟨hx, hb, hr, hml, hown, hlk, hts, hK, hZo, hZ⟩ := id C
  unfold bd_Mo_readBox_71 at hz
  unfold okb_Mo_readBox_71 at hok
  refine lv_aload_n hx hb d_Mo_readBox_71 rfl (lv_at hl 0 rfl) ?_
  have hB : SubW g (inW ws0) s (wMo g mo a op71 now drp71 pa sa iS bu y2.2 rT wT wo sK sA sB sE oq bS bE bL rp) _ (List.range _) _ _ := (subF hP hD hS)
  refine goI0 hB (run_v C mf_Mo_good qm_Mo_297 (c_Mo_good l g mo a op71 now drp71 pa sa iS bu y2.2 rT wT wo sK sA sB sE oq bS bE bL rp) rfl rfl ⟨Nat.le_of_ble_eq_true rfl, Nat.le_of_ble_eq_true rfl⟩ ⟨Nat.le_of_ble_eq_true rfl, Nat.le_of_ble_eq_true rfl⟩ hB rfl rfl hl rfl rfl (Nat.le_of_ble_eq_true rfl) d_Mo_readBox_72) (fun y17 ey17 H locs hP hS => ?_)
  have hz := lett_z hz ey17
  have hok := lett_o hok ey17
  refine lv_if_eq (tgt := 124) hx hb d_Mo_readBox_75 (by decide) (fun c18 => ?_) (fun c18 => ?_)
  · have hz := hz.trans (if_pos c18)
    exact k_Mo_readBox_124 C () trivial _ hz _ _ ls hP hD hS hl
  · have hz := hz.trans (if_neg c18)
    have hok := hok.2 c18
    refine lv_iload_n hx hb d_Mo_readBox_78 rfl (lv_at hl 1 rfl) ?_
    refine lv_iconst (v := 4) hx hb d_Mo_readBox_79 (by decide) ?_
    refine lv_icmp_ge (tgt := 124) hx hb d_Mo_readBox_80 (by decide) (fun c19 => ?_) (fun c19 => ?_)
    · have hz := hz.trans (if_pos c19)
      exact k_Mo_readBox_124 C () trivial _ hz _ _ ls hP hD hS hl
    · have hz := hz.trans (if_neg c19)
      have hok := hok.2 c19
      refine lv_aload_n hx hb d_Mo_readBox_83 rfl (lv_at hl 0 rfl) ?_
      refine gf C hP 0 11 fkMo rfl (by decide) rfl qf_Mo_288 (gMo_11 _ _) d_Mo_readBox_84 ?_
      refine lv_iconst (v := 2) hx hb d_Mo_readBox_87 (by decide) ?_
      refine lv_icmp_eq (tgt := 100) hx hb d_Mo_readBox_88 (by decide) (fun c20 => ?_) (fun c20 => ?_)
      · have hz := hz.trans (if_pos c20)
        have hok := hok.1 c20
        exact k_Mo_readBox_100 C ih71 () hok _ hz _ _ ls hP hD hS hl
      · have hz := hz.trans (if_neg c20)
        have hok := hok.2 c20
        refine lv_aload_n hx hb d_Mo_readBox_91 rfl (lv_at hl 0 rfl) ?_
        refine lv_bipush (v := 45) hx hb d_Mo_readBox_92 (by decide) ?_
        have hs21 := hok.1
        have hok := hok.2
        have hB : SubW g (inW ws0) s (wMo g mo a op71 now drp71 pa sa iS bu y2.2 rT wT wo sK sA sB sE oq bS bE bL rp) _ (List.range _) _ _ := (subF hP hD hS)
        refine goI0 hB (run_v C mf_Mo_isSign qm_Mo_311 (c_Mo_isSign l g mo a op71 now drp71 pa sa iS bu y2.2 rT wT wo sK sA sB sE oq bS bE bL rp (45 : Int32) hs21) rfl rfl ⟨Nat.le_of_ble_eq_true rfl, Nat.le_of_ble_eq_true rfl⟩ ⟨Nat.le_of_ble_eq_true rfl, Nat.le_of_ble_eq_true rfl⟩ hB rfl rfl hl rfl rfl (Nat.le_of_ble_eq_true rfl) d_Mo_readBox_94) (fun y22 ey22 H locs hP hS => ?_)
        have hz := lett_z hz ey22
        have hok := lett_o hok ey22
        refine lv_if_eq (tgt := 124) hx hb d_Mo_readBox_97 (by decide) (fun c23 => ?_) (fun c23 => ?_)
        · have hz := hz.trans (if_pos c23)
          exact k_Mo_readBox_124 C () trivial _ hz _ _ ls hP hD hS hl
        · have hz := hz.trans (if_neg c23)
          have hok := hok.2 c23
          exact k_Mo_readBox_100 C ih71 () hok _ hz _ _ ls hP hD hS hl
theorem k_Mo_readBox_71 {p : Program} {l : Launch} {e : Env} {s : State} {m : MethodId} {args : Array Value} {below : List Frame} {meth : Method} {c : Code} {g : GX} {mo : Nat} {a : Nat → Nat} {ws0 : va_W} {now : LV} {pa : LV} {sa : LV} {iS : IV} {bu : IV} {y2 : IV × IV} {rT : IV} {wT : IV} {wo : Nat → Option Nat} {sK : IV} {sA : IV} {sB : IV} {sE : IV} {oq : IV} {bS : IV} {bE : IV} {bL : IV} {rp : IV}  (C : Cx p s m args meth c (inW ws0) g "DecadeBridgeModel" b_Mo_readBox none 2) (f : Nat)  : HL_Mo_readBox_71 p l e s m args below meth c g mo a ws0 now pa sa iS bu y2 rT wT wo sK sA sB sE oq bS bE bL rp (sp_Mo_readBox_71 y2 bu  f) (ok_Mo_readBox_71 y2 bu   f) := by
  induction f with
  | zero => intro x1p71 op71 drp71 hok; exact False.elim hok
  | succ f ih => exact kb_Mo_readBox_71 C  ih
noncomputable def sp_Mo_readBox (o : IV) (dr : LV) (bu : IV) (tq : IV) : IV × LV × IV := lett (sp_Mo_once (0 : Int32) o bu tq) fun (y2 : IV × IV) => lett (sp_Mo_number (0 : Int64) (4 : Int64) y2.1 bu) fun (y4 : Int64 × IV) => lett (sp_Mo_tenTo y4.1.toInt32) fun (y6 : Int64) => lett (vp_updL dr 1 y6) fun (dr_7 : LV) => lett (sp_Mo_number (0 : Int64) (999 : Int64) y4.2 bu) fun (y9 : Int64 × IV) => lett (vp_updL dr_7 2 y9.1) fun (dr_10 : LV) => lett (sp_Mo_signed (-50000 : Int64) (50000 : Int64) y9.2 bu) fun (y12 : Int64 × IV) => lett (vp_updL dr_10 3 y12.1) fun (dr_13 : LV) => lett (sp_Mo_signed (-50000 : Int64) (50000 : Int64) y12.2 bu) fun (y15 : Int64 × IV) => lett (vp_updL dr_13 4 y15.1) fun (dr_16 : LV) => sp_Mo_readBox_71 y2 bu big (2 : Int32) y15.2 dr_16
def ok_Mo_readBox (o : IV) (dr : LV) (bu : IV) (tq : IV) : Prop := (ok_Mo_once (0 : Int32) o bu tq) ∧ lett (sp_Mo_once (0 : Int32) o bu tq) fun (y2 : IV × IV) => (ok_Mo_number (0 : Int64) (4 : Int64) y2.1 bu) ∧ lett (sp_Mo_number (0 : Int64) (4 : Int64) y2.1 bu) fun (y4 : Int64 × IV) => (ok_Mo_tenTo y4.1.toInt32) ∧ lett (sp_Mo_tenTo y4.1.toInt32) fun (y6 : Int64) => lett (vp_updL dr 1 y6) fun (dr_7 : LV) => (ok_Mo_number (0 : Int64) (999 : Int64) y4.2 bu) ∧ lett (sp_Mo_number (0 : Int64) (999 : Int64) y4.2 bu) fun (y9 : Int64 × IV) => lett (vp_updL dr_7 2 y9.1) fun (dr_10 : LV) => (ok_Mo_signed (-50000 : Int64) (50000 : Int64) y9.2 bu) ∧ lett (sp_Mo_signed (-50000 : Int64) (50000 : Int64) y9.2 bu) fun (y12 : Int64 × IV) => lett (vp_updL dr_10 3 y12.1) fun (dr_13 : LV) => (ok_Mo_signed (-50000 : Int64) (50000 : Int64) y12.2 bu) ∧ lett (sp_Mo_signed (-50000 : Int64) (50000 : Int64) y12.2 bu) fun (y15 : Int64 × IV) => lett (vp_updL dr_13 4 y15.1) fun (dr_16 : LV) => ok_Mo_readBox_71 y2 bu big (2 : Int32) y15.2 dr_16
set_option maxRecDepth 100000 in
set_option maxHeartbeats 4000000 in
theorem c_Mo_readBox (l : Launch) (g : GX) (mo : Nat) (a : Nat → Nat) (o : IV) (now : LV) (dr : LV) (pa : LV) (sa : LV) (iS : IV) (bu : IV) (tq : IV) (rT : IV) (wT : IV) (wo : Nat → Option Nat) (sK : IV) (sA : IV) (sB : IV) (sE : IV) (oq : IV) (bS : IV) (bE : IV) (bL : IV) (rp : IV)  (hok : ok_Mo_readBox o dr bu tq) : Met l y_Mo_readBox (wsY y_Mo_readBox b_Mo_readBox 2 none) rm_Mo_readBox (CP g [.ref mo] (wMo g mo a o now dr pa sa iS bu tq rT wT wo sK sA sB sE oq bS bE bL rp)) (CV g (wMo g mo a o now dr pa sa iS bu tq rT wT wo sK sA sB sE oq bS bE bL rp) (fun u : IV × LV × IV => wMo g mo a u.1 now u.2.1 pa sa iS bu u.2.2 rT wT wo sK sA sB sE oq bS bE bL rp) (sp_Mo_readBox o dr bu tq)) 0 0 (inW (wMo g mo a o now dr pa sa iS bu tq rT wT wo sK sA sB sE oq bS bE bL rp)) := by
  refine Met.ofW (cc := b_Mo_readBox) (maxL := 2) (ret := none) pn_Mo rfl ?_
  intro p e s m args below meth c s₁ B hml hv
  obtain ⟨rfl, C, hP, hD, hS⟩ := enter "DecadeBridgeModel" rfl B hml hv
  obtain ⟨hx, hb, hr, hml, hown, hlk, hts, hK, hZo, hZ⟩ := id C
  refine entryW (lv := [(0, .ref mo)]) rfl (Nat.le_of_ble_eq_true rfl) (fun ls hl => ?_)
  obtain ⟨z, hz⟩ : ∃ z, z = sp_Mo_readBox o dr bu tq := ⟨_, rfl⟩
  rw [← hz]
  unfold sp_Mo_readBox at hz
  unfold ok_Mo_readBox at hok
  refine lv_aload_n hx hb d_Mo_readBox_0 rfl (lv_at hl 0 rfl) ?_
  refine lv_iconst (v := 0) hx hb d_Mo_readBox_1 (by decide) ?_
  have hs1 := hok.1
  have hok := hok.2
  have hB : SubW g (inW (wMo g mo a o now dr pa sa iS bu tq rT wT wo sK sA sB sE oq bS bE bL rp)) s (wMo g mo a o now dr pa sa iS bu tq rT wT wo sK sA sB sE oq bS bE bL rp) _ (List.range _) _ _ := (subF hP hD hS)
  refine goVF hB (run_v C mf_Mo_once qm_Mo_331 (c_Mo_once l g mo a o now dr pa sa iS bu tq rT wT wo sK sA sB sE oq bS bE bL rp (0 : Int32) hs1) rfl rfl ⟨Nat.le_of_ble_eq_true rfl, Nat.le_of_ble_eq_true rfl⟩ ⟨Nat.le_of_ble_eq_true rfl, Nat.le_of_ble_eq_true rfl⟩ hB rfl rfl hl rfl rfl (Nat.le_of_ble_eq_true rfl) d_Mo_readBox_2) (fun _ => rfl) (fun y2 ey2 H locs hP hD hS => ?_)
  have hP : va_P g.1 vwCl (wMo g mo a y2.1 now dr pa sa iS bu y2.2 rT wT wo sK sA sB sE oq bS bE bL rp) H := hP
  have hD : va_D (inW (wMo g mo a o now dr pa sa iS bu tq rT wT wo sK sA sB sE oq bS bE bL rp)) (wMo g mo a y2.1 now dr pa sa iS bu y2.2 rT wT wo sK sA sB sE oq bS bE bL rp) := hD
  have hz := lett_z hz ey2
  have hok := lett_o hok ey2
  refine lv_aload_n hx hb d_Mo_readBox_5 rfl (lv_at hl 0 rfl) ?_
  refine gf C hP 0 1 fkMo rfl (by decide) rfl qf_Mo_13 (gMo_1 _ _) d_Mo_readBox_6 ?_
  refine lv_iconst (v := 1) hx hb d_Mo_readBox_9 (by decide) ?_
  refine lv_aload_n hx hb d_Mo_readBox_10 rfl (lv_at hl 0 rfl) ?_
  refine lv_lconst (v := 0) hx hb d_Mo_readBox_11 (by decide) ?_
  refine lv_ldc2 hx hb hown (hts _ qk_Mo_116) d_Mo_readBox_12 ?_
  have hs3 := hok.1
  have hok := hok.2
  have hB : SubW g (inW (wMo g mo a o now dr pa sa iS bu tq rT wT wo sK sA sB sE oq bS bE bL rp)) s (wMo g mo a y2.1 now dr pa sa iS bu y2.2 rT wT wo sK sA sB sE oq bS bE bL rp) _ (List.range _) _ _ := (subF hP hD hS)
  refine goLF hB (run_v C mf_Mo_number qm_Mo_334 (c_Mo_number l g mo a y2.1 now dr pa sa iS bu y2.2 rT wT wo sK sA sB sE oq bS bE bL rp (0 : Int64) (4 : Int64) hs3) rfl rfl ⟨Nat.le_of_ble_eq_true rfl, Nat.le_of_ble_eq_true rfl⟩ ⟨Nat.le_of_ble_eq_true rfl, Nat.le_of_ble_eq_true rfl⟩ hB rfl rfl hl rfl rfl (Nat.le_of_ble_eq_true rfl) d_Mo_readBox_15) (fun _ => rfl) (fun y4 ey4 H locs hP hD hS => ?_)
  have hP : va_P g.1 vwCl (wMo g mo a y4.2 now dr pa sa iS bu y2.2 rT wT wo sK sA sB sE oq bS bE bL rp) H := hP
  have hD : va_D (inW (wMo g mo a o now dr pa sa iS bu tq rT wT wo sK sA sB sE oq bS bE bL rp)) (wMo g mo a y4.2 now dr pa sa iS bu y2.2 rT wT wo sK sA sB sE oq bS bE bL rp) := hD
  have hz := lett_z hz ey4
  have hok := lett_o hok ey4
  refine lv_l2i hx hb d_Mo_readBox_18 rfl ?_
  have hs5 := hok.1
  have hok := hok.2
  have hB : SubW g (inW (wMo g mo a o now dr pa sa iS bu tq rT wT wo sK sA sB sE oq bS bE bL rp)) s (wMo g mo a y4.2 now dr pa sa iS bu y2.2 rT wT wo sK sA sB sE oq bS bE bL rp) _ (List.range _) _ _ := (subF hP hD hS)
  refine goL0 hB (run_s C mf_Mo_tenTo qm_Mo_122 (c_Mo_tenTo l g mo a y4.2 now dr pa sa iS bu y2.2 rT wT wo sK sA sB sE oq bS bE bL rp y4.1.toInt32 hs5) rfl rfl ⟨Nat.le_of_ble_eq_true rfl, Nat.le_of_ble_eq_true rfl⟩ ⟨Nat.le_of_ble_eq_true rfl, Nat.le_of_ble_eq_true rfl⟩ hB hl rfl rfl (Nat.le_of_ble_eq_true rfl) d_Mo_readBox_19) (fun y6 ey6 H locs hP hS => ?_)
  have hz := lett_z hz ey6
  have hok := lett_o hok ey6
  refine stL C hP hD hS 2 rfl vi_1_215 cn_1 d_Mo_readBox_22 (fun dr_7 edr_7 H locs hP hD hS => ?_)
  have hP : va_P g.1 vwCl (wMo g mo a y4.2 now dr_7 pa sa iS bu y2.2 rT wT wo sK sA sB sE oq bS bE bL rp) H := hP
  have hD : va_D (inW (wMo g mo a o now dr pa sa iS bu tq rT wT wo sK sA sB sE oq bS bE bL rp)) (wMo g mo a y4.2 now dr_7 pa sa iS bu y2.2 rT wT wo sK sA sB sE oq bS bE bL rp) := hD
  have hz := lett_z hz edr_7
  have hok := lett_o hok edr_7
  refine lv_aload_n hx hb d_Mo_readBox_23 rfl (lv_at hl 0 rfl) ?_
  refine gf C hP 0 1 fkMo rfl (by decide) rfl qf_Mo_13 (gMo_1 _ _) d_Mo_readBox_24 ?_
  refine lv_iconst (v := 2) hx hb d_Mo_readBox_27 (by decide) ?_
  refine lv_aload_n hx hb d_Mo_readBox_28 rfl (lv_at hl 0 rfl) ?_
  refine lv_lconst (v := 0) hx hb d_Mo_readBox_29 (by decide) ?_
  refine lv_ldc2 hx hb hown (hts _ qk_Mo_337) d_Mo_readBox_30 ?_
  have hs8 := hok.1
  have hok := hok.2
  have hB : SubW g (inW (wMo g mo a o now dr pa sa iS bu tq rT wT wo sK sA sB sE oq bS bE bL rp)) s (wMo g mo a y4.2 now dr_7 pa sa iS bu y2.2 rT wT wo sK sA sB sE oq bS bE bL rp) _ (List.range _) _ _ := (subF hP hD hS)
  refine goLF hB (run_v C mf_Mo_number qm_Mo_334 (c_Mo_number l g mo a y4.2 now dr_7 pa sa iS bu y2.2 rT wT wo sK sA sB sE oq bS bE bL rp (0 : Int64) (999 : Int64) hs8) rfl rfl ⟨Nat.le_of_ble_eq_true rfl, Nat.le_of_ble_eq_true rfl⟩ ⟨Nat.le_of_ble_eq_true rfl, Nat.le_of_ble_eq_true rfl⟩ hB rfl rfl hl rfl rfl (Nat.le_of_ble_eq_true rfl) d_Mo_readBox_33) (fun _ => rfl) (fun y9 ey9 H locs hP hD hS => ?_)
  have hP : va_P g.1 vwCl (wMo g mo a y9.2 now dr_7 pa sa iS bu y2.2 rT wT wo sK sA sB sE oq bS bE bL rp) H := hP
  have hD : va_D (inW (wMo g mo a o now dr pa sa iS bu tq rT wT wo sK sA sB sE oq bS bE bL rp)) (wMo g mo a y9.2 now dr_7 pa sa iS bu y2.2 rT wT wo sK sA sB sE oq bS bE bL rp) := hD
  have hz := lett_z hz ey9
  have hok := lett_o hok ey9
  refine stL C hP hD hS 2 rfl vi_2_215 cn_2 d_Mo_readBox_36 (fun dr_10 edr_10 H locs hP hD hS => ?_)
  have hP : va_P g.1 vwCl (wMo g mo a y9.2 now dr_10 pa sa iS bu y2.2 rT wT wo sK sA sB sE oq bS bE bL rp) H := hP
  have hD : va_D (inW (wMo g mo a o now dr pa sa iS bu tq rT wT wo sK sA sB sE oq bS bE bL rp)) (wMo g mo a y9.2 now dr_10 pa sa iS bu y2.2 rT wT wo sK sA sB sE oq bS bE bL rp) := hD
  have hz := lett_z hz edr_10
  have hok := lett_o hok edr_10
  refine lv_aload_n hx hb d_Mo_readBox_37 rfl (lv_at hl 0 rfl) ?_
  refine gf C hP 0 1 fkMo rfl (by decide) rfl qf_Mo_13 (gMo_1 _ _) d_Mo_readBox_38 ?_
  refine lv_iconst (v := 3) hx hb d_Mo_readBox_41 (by decide) ?_
  refine lv_aload_n hx hb d_Mo_readBox_42 rfl (lv_at hl 0 rfl) ?_
  refine lv_ldc2 hx hb hown (hts _ qk_Mo_339) d_Mo_readBox_43 ?_
  refine lv_ldc2 hx hb hown (hts _ qk_Mo_341) d_Mo_readBox_46 ?_
  have hs11 := hok.1
  have hok := hok.2
  have hB : SubW g (inW (wMo g mo a o now dr pa sa iS bu tq rT wT wo sK sA sB sE oq bS bE bL rp)) s (wMo g mo a y9.2 now dr_10 pa sa iS bu y2.2 rT wT wo sK sA sB sE oq bS bE bL rp) _ (List.range _) _ _ := (subF hP hD hS)
  refine goLF hB (run_v C mf_Mo_signed qm_Mo_343 (c_Mo_signed l g mo a y9.2 now dr_10 pa sa iS bu y2.2 rT wT wo sK sA sB sE oq bS bE bL rp (-50000 : Int64) (50000 : Int64) hs11) rfl rfl ⟨Nat.le_of_ble_eq_true rfl, Nat.le_of_ble_eq_true rfl⟩ ⟨Nat.le_of_ble_eq_true rfl, Nat.le_of_ble_eq_true rfl⟩ hB rfl rfl hl rfl rfl (Nat.le_of_ble_eq_true rfl) d_Mo_readBox_49) (fun _ => rfl) (fun y12 ey12 H locs hP hD hS => ?_)
  have hP : va_P g.1 vwCl (wMo g mo a y12.2 now dr_10 pa sa iS bu y2.2 rT wT wo sK sA sB sE oq bS bE bL rp) H := hP
  have hD : va_D (inW (wMo g mo a o now dr pa sa iS bu tq rT wT wo sK sA sB sE oq bS bE bL rp)) (wMo g mo a y12.2 now dr_10 pa sa iS bu y2.2 rT wT wo sK sA sB sE oq bS bE bL rp) := hD
  have hz := lett_z hz ey12
  have hok := lett_o hok ey12
  refine stL C hP hD hS 2 rfl vi_3_215 cn_3 d_Mo_readBox_52 (fun dr_13 edr_13 H locs hP hD hS => ?_)
  have hP : va_P g.1 vwCl (wMo g mo a y12.2 now dr_13 pa sa iS bu y2.2 rT wT wo sK sA sB sE oq bS bE bL rp) H := hP
  have hD : va_D (inW (wMo g mo a o now dr pa sa iS bu tq rT wT wo sK sA sB sE oq bS bE bL rp)) (wMo g mo a y12.2 now dr_13 pa sa iS bu y2.2 rT wT wo sK sA sB sE oq bS bE bL rp) := hD
  have hz := lett_z hz edr_13
  have hok := lett_o hok edr_13
  refine lv_aload_n hx hb d_Mo_readBox_53 rfl (lv_at hl 0 rfl) ?_
  refine gf C hP 0 1 fkMo rfl (by decide) rfl qf_Mo_13 (gMo_1 _ _) d_Mo_readBox_54 ?_
  refine lv_iconst (v := 4) hx hb d_Mo_readBox_57 (by decide) ?_
  refine lv_aload_n hx hb d_Mo_readBox_58 rfl (lv_at hl 0 rfl) ?_
  refine lv_ldc2 hx hb hown (hts _ qk_Mo_339) d_Mo_readBox_59 ?_
  refine lv_ldc2 hx hb hown (hts _ qk_Mo_341) d_Mo_readBox_62 ?_
  have hs14 := hok.1
  have hok := hok.2
  have hB : SubW g (inW (wMo g mo a o now dr pa sa iS bu tq rT wT wo sK sA sB sE oq bS bE bL rp)) s (wMo g mo a y12.2 now dr_13 pa sa iS bu y2.2 rT wT wo sK sA sB sE oq bS bE bL rp) _ (List.range _) _ _ := (subF hP hD hS)
  refine goLF hB (run_v C mf_Mo_signed qm_Mo_343 (c_Mo_signed l g mo a y12.2 now dr_13 pa sa iS bu y2.2 rT wT wo sK sA sB sE oq bS bE bL rp (-50000 : Int64) (50000 : Int64) hs14) rfl rfl ⟨Nat.le_of_ble_eq_true rfl, Nat.le_of_ble_eq_true rfl⟩ ⟨Nat.le_of_ble_eq_true rfl, Nat.le_of_ble_eq_true rfl⟩ hB rfl rfl hl rfl rfl (Nat.le_of_ble_eq_true rfl) d_Mo_readBox_65) (fun _ => rfl) (fun y15 ey15 H locs hP hD hS => ?_)
  have hP : va_P g.1 vwCl (wMo g mo a y15.2 now dr_13 pa sa iS bu y2.2 rT wT wo sK sA sB sE oq bS bE bL rp) H := hP
  have hD : va_D (inW (wMo g mo a o now dr pa sa iS bu tq rT wT wo sK sA sB sE oq bS bE bL rp)) (wMo g mo a y15.2 now dr_13 pa sa iS bu y2.2 rT wT wo sK sA sB sE oq bS bE bL rp) := hD
  have hz := lett_z hz ey15
  have hok := lett_o hok ey15
  refine stL C hP hD hS 2 rfl vi_4_215 cn_4 d_Mo_readBox_68 (fun dr_16 edr_16 H locs hP hD hS => ?_)
  have hP : va_P g.1 vwCl (wMo g mo a y15.2 now dr_16 pa sa iS bu y2.2 rT wT wo sK sA sB sE oq bS bE bL rp) H := hP
  have hD : va_D (inW (wMo g mo a o now dr pa sa iS bu tq rT wT wo sK sA sB sE oq bS bE bL rp)) (wMo g mo a y15.2 now dr_16 pa sa iS bu y2.2 rT wT wo sK sA sB sE oq bS bE bL rp) := hD
  have hz := lett_z hz edr_16
  have hok := lett_o hok edr_16
  refine lv_iconst (v := 2) hx hb d_Mo_readBox_69 (by decide) ?_
  refine lv_istore_n (lv' := [(1, .int (2 : Int32)), (0, .ref mo)]) hx hb d_Mo_readBox_70 rfl hl (by decide) rfl (fun ls hl => ?_)
  exact k_Mo_readBox_71 C big (2 : Int32) y15.2 dr_16 hok _ hz _ _ ls hP hD hS (lv_sub hl [1, 0] rfl)
abbrev rm_Mo_readRatio : Room := { frames := 4, cells := 0, slots := 0, locals := 89 }
def HL_Mo_readRatio_29 (p : Program) (l : Launch) (e : Env) (s : State) (m : MethodId) (args : Array Value) (below : List Frame) (meth : Method) (c : Code) (g : GX) (mo : Nat) (a : Nat → Nat) (ws0 : va_W) (y4 : Int64 × IV) (now : LV) (dr : LV) (pa : LV) (sa : LV) (iS : IV) (bu : IV) (tq : IV) (rT : IV) (wT : IV) (wo : Nat → Option Nat) (sK : IV) (sA : IV) (sB : IV) (sE : IV) (oq : IV) (bS : IV) (bE : IV) (bL : IV) (rp : IV) (sp : Int32 → (IV × LV × IV)) (ok : Int32 → Prop) : Prop := ∀ (t1p29 : Int32), ok t1p29 → ∀ z : (IV × LV × IV), z = sp t1p29 → ∀ (H : Heap) (locs : List Loc) (ls : Array Slot), va_P g.1 vwCl (wMo g mo a y4.2 now dr pa sa iS bu tq rT wT wo sK sA sB sE oq bS bE bL rp) H → va_D (inW ws0) (wMo g mo a y4.2 now dr pa sa iS bu tq rT wT wo sK sA sB sE oq bS bE bL rp) → va_S (inW ws0) s.heap H locs → lv_has ls 2 [(0, .ref mo), (1, .int y4.1.toInt32)] → W p l e rm_Mo_readRatio s m args below meth c H locs 0 0 (MQ below (CV g ws0 (fun u : IV × LV × IV => wMo g mo a u.1 now u.2.1 pa sa iS bu tq u.2.2 wT wo sK sA sB sE oq bS bE bL rp) z) args s 0 0 (inW ws0)) (F0 m 29 ls [.int t1p29, .ref mo])
noncomputable def sp_Mo_readRatio_29 (y4 : Int64 × IV) (bu : IV) (rT : IV) (dr : LV)  (t1p29 : Int32) : IV × LV × IV := lett (sp_Mo_must t1p29 (3 : Int32) y4.2) fun (y7 : IV) => lett (sp_Mo_goOn y7 bu) fun (y9 : IV) => lett (upd rT y4.1.toInt32.toNatClampNeg (vp_nar .boolean (1 : Int32))) fun (rT_11 : IV) => lett (sp_Mo_signed (-50000 : Int64) (50000 : Int64) y9 bu) fun (y13 : Int64 × IV) => lett (vp_updL dr ((7 : Int32) + y4.1.toInt32).toNatClampNeg y13.1) fun (dr_15 : LV) => (y13.2, dr_15, rT_11)
def ok_Mo_readRatio_29 (y4 : Int64 × IV) (bu : IV) (rT : IV) (dr : LV)   (t1p29 : Int32) : Prop := lett (sp_Mo_must t1p29 (3 : Int32) y4.2) fun (y7 : IV) => (ok_Mo_goOn y7 bu) ∧ lett (sp_Mo_goOn y7 bu) fun (y9 : IV) => (vp_in y4.1.toInt32 5) ∧ lett (upd rT y4.1.toInt32.toNatClampNeg (vp_nar .boolean (1 : Int32))) fun (rT_11 : IV) => (ok_Mo_signed (-50000 : Int64) (50000 : Int64) y9 bu) ∧ lett (sp_Mo_signed (-50000 : Int64) (50000 : Int64) y9 bu) fun (y13 : Int64 × IV) => (vp_in ((7 : Int32) + y4.1.toInt32) 215) ∧ True
set_option maxRecDepth 100000 in
set_option maxHeartbeats 4000000 in
theorem k_Mo_readRatio_29 {p : Program} {l : Launch} {e : Env} {s : State} {m : MethodId} {args : Array Value} {below : List Frame} {meth : Method} {c : Code} {g : GX} {mo : Nat} {a : Nat → Nat} {ws0 : va_W} {y4 : Int64 × IV} {now : LV} {dr : LV} {pa : LV} {sa : LV} {iS : IV} {bu : IV} {tq : IV} {rT : IV} {wT : IV} {wo : Nat → Option Nat} {sK : IV} {sA : IV} {sB : IV} {sE : IV} {oq : IV} {bS : IV} {bE : IV} {bL : IV} {rp : IV}  (C : Cx p s m args meth c (inW ws0) g "DecadeBridgeModel" b_Mo_readRatio none 2)  : HL_Mo_readRatio_29 p l e s m args below meth c g mo a ws0 y4 now dr pa sa iS bu tq rT wT wo sK sA sB sE oq bS bE bL rp (sp_Mo_readRatio_29 y4 bu rT dr ) (ok_Mo_readRatio_29 y4 bu rT dr  ) := by
  intro t1p29 hok z hz H locs ls hP hD hS hl
  obtain ⟨hx, hb, hr, hml, hown, hlk, hts, hK, hZo, hZ⟩ := id C
  unfold sp_Mo_readRatio_29 at hz
  unfold ok_Mo_readRatio_29 at hok
  refine lv_iconst (v := 3) hx hb d_Mo_readRatio_29 (by decide) ?_
  have hB : SubW g (inW ws0) s (wMo g mo a y4.2 now dr pa sa iS bu tq rT wT wo sK sA sB sE oq bS bE bL rp) _ (List.range _) _ _ := (subF hP hD hS)
  refine goVF hB (run_v C mf_Mo_must qm_Mo_314 (c_Mo_must l g mo a y4.2 now dr pa sa iS bu tq rT wT wo sK sA sB sE oq bS bE bL rp t1p29 (3 : Int32)) rfl rfl ⟨Nat.le_of_ble_eq_true rfl, Nat.le_of_ble_eq_true rfl⟩ ⟨Nat.le_of_ble_eq_true rfl, Nat.le_of_ble_eq_true rfl⟩ hB rfl rfl hl rfl rfl (Nat.le_of_ble_eq_true rfl) d_Mo_readRatio_30) (fun _ => rfl) (fun y7 ey7 H locs hP hD hS => ?_)
  have hP : va_P g.1 vwCl (wMo g mo a y7 now dr pa sa iS bu tq rT wT wo sK sA sB sE oq bS bE bL rp) H := hP
  have hD : va_D (inW ws0) (wMo g mo a y7 now dr pa sa iS bu tq rT wT wo sK sA sB sE oq bS bE bL rp) := hD
  have hz := lett_z hz ey7
  have hok := lett_o hok ey7
  refine lv_aload_n hx hb d_Mo_readRatio_33 rfl (lv_at hl 0 rfl) ?_
  have hs8 := hok.1
  have hok := hok.2
  have hB : SubW g (inW ws0) s (wMo g mo a y7 now dr pa sa iS bu tq rT wT wo sK sA sB sE oq bS bE bL rp) _ (List.range _) _ _ := (subF hP hD hS)
  refine goVF hB (run_v C mf_Mo_goOn qm_Mo_318 (c_Mo_goOn l g mo a y7 now dr pa sa iS bu tq rT wT wo sK sA sB sE oq bS bE bL rp hs8) rfl rfl ⟨Nat.le_of_ble_eq_true rfl, Nat.le_of_ble_eq_true rfl⟩ ⟨Nat.le_of_ble_eq_true rfl, Nat.le_of_ble_eq_true rfl⟩ hB rfl rfl hl rfl rfl (Nat.le_of_ble_eq_true rfl) d_Mo_readRatio_34) (fun _ => rfl) (fun y9 ey9 H locs hP hD hS => ?_)
  have hP : va_P g.1 vwCl (wMo g mo a y9 now dr pa sa iS bu tq rT wT wo sK sA sB sE oq bS bE bL rp) H := hP
  have hD : va_D (inW ws0) (wMo g mo a y9 now dr pa sa iS bu tq rT wT wo sK sA sB sE oq bS bE bL rp) := hD
  have hz := lett_z hz ey9
  have hok := lett_o hok ey9
  refine lv_aload_n hx hb d_Mo_readRatio_37 rfl (lv_at hl 0 rfl) ?_
  refine gf C hP 0 15 fkMo rfl (by decide) rfl qf_Mo_37 (gMo_15 _ _) d_Mo_readRatio_38 ?_
  refine lv_iload_n hx hb d_Mo_readRatio_41 rfl (lv_at hl 1 rfl) ?_
  refine lv_iconst (v := 1) hx hb d_Mo_readRatio_42 (by decide) ?_
  have hs10 := hok.1
  have hok := hok.2
  refine stZ C hP hD hS 8 rfl hs10 rfl d_Mo_readRatio_43 (fun rT_11 erT_11 H locs hP hD hS => ?_)
  have hP : va_P g.1 vwCl (wMo g mo a y9 now dr pa sa iS bu tq rT_11 wT wo sK sA sB sE oq bS bE bL rp) H := hP
  have hD : va_D (inW ws0) (wMo g mo a y9 now dr pa sa iS bu tq rT_11 wT wo sK sA sB sE oq bS bE bL rp) := hD
  have hz := lett_z hz erT_11
  have hok := lett_o hok erT_11
  refine lv_aload_n hx hb d_Mo_readRatio_44 rfl (lv_at hl 0 rfl) ?_
  refine gf C hP 0 1 fkMo rfl (by decide) rfl qf_Mo_13 (gMo_1 _ _) d_Mo_readRatio_45 ?_
  refine lv_bipush (v := 7) hx hb d_Mo_readRatio_48 (by decide) ?_
  refine lv_iload_n hx hb d_Mo_readRatio_50 rfl (lv_at hl 1 rfl) ?_
  refine lv_iadd hx hb d_Mo_readRatio_51 ?_
  refine lv_aload_n hx hb d_Mo_readRatio_52 rfl (lv_at hl 0 rfl) ?_
  refine lv_ldc2 hx hb hown (hts _ qk_Mo_339) d_Mo_readRatio_53 ?_
  refine lv_ldc2 hx hb hown (hts _ qk_Mo_341) d_Mo_readRatio_56 ?_
  have hs12 := hok.1
  have hok := hok.2
  have hB : SubW g (inW ws0) s (wMo g mo a y9 now dr pa sa iS bu tq rT_11 wT wo sK sA sB sE oq bS bE bL rp) _ (List.range _) _ _ := (subF hP hD hS)
  refine goLF hB (run_v C mf_Mo_signed qm_Mo_343 (c_Mo_signed l g mo a y9 now dr pa sa iS bu tq rT_11 wT wo sK sA sB sE oq bS bE bL rp (-50000 : Int64) (50000 : Int64) hs12) rfl rfl ⟨Nat.le_of_ble_eq_true rfl, Nat.le_of_ble_eq_true rfl⟩ ⟨Nat.le_of_ble_eq_true rfl, Nat.le_of_ble_eq_true rfl⟩ hB rfl rfl hl rfl rfl (Nat.le_of_ble_eq_true rfl) d_Mo_readRatio_59) (fun _ => rfl) (fun y13 ey13 H locs hP hD hS => ?_)
  have hP : va_P g.1 vwCl (wMo g mo a y13.2 now dr pa sa iS bu tq rT_11 wT wo sK sA sB sE oq bS bE bL rp) H := hP
  have hD : va_D (inW ws0) (wMo g mo a y13.2 now dr pa sa iS bu tq rT_11 wT wo sK sA sB sE oq bS bE bL rp) := hD
  have hz := lett_z hz ey13
  have hok := lett_o hok ey13
  have hs14 := hok.1
  have hok := hok.2
  refine stL C hP hD hS 2 rfl hs14 rfl d_Mo_readRatio_62 (fun dr_15 edr_15 H locs hP hD hS => ?_)
  have hP : va_P g.1 vwCl (wMo g mo a y13.2 now dr_15 pa sa iS bu tq rT_11 wT wo sK sA sB sE oq bS bE bL rp) H := hP
  have hD : va_D (inW ws0) (wMo g mo a y13.2 now dr_15 pa sa iS bu tq rT_11 wT wo sK sA sB sE oq bS bE bL rp) := hD
  have hz := lett_z hz edr_15
  exact endV C hz hP hS d_Mo_readRatio_63
noncomputable def sp_Mo_readRatio (o : IV) (dr : LV) (bu : IV) (rT : IV) : IV × LV × IV := lett (sp_Mo_goOn o bu) fun (y2 : IV) => lett (sp_Mo_numberAhead (0 : Int64) (4 : Int64) y2 bu) fun (y4 : Int64 × IV) => if (rT y4.1.toInt32.toNatClampNeg) = 0 then (sp_Mo_readRatio_29 y4 bu rT dr (1 : Int32)) else (sp_Mo_readRatio_29 y4 bu rT dr (0 : Int32))
def ok_Mo_readRatio (o : IV) (dr : LV) (bu : IV) (rT : IV) : Prop := (ok_Mo_goOn o bu) ∧ lett (sp_Mo_goOn o bu) fun (y2 : IV) => (ok_Mo_numberAhead (0 : Int64) (4 : Int64) y2 bu) ∧ lett (sp_Mo_numberAhead (0 : Int64) (4 : Int64) y2 bu) fun (y4 : Int64 × IV) => (vp_in y4.1.toInt32 5) ∧ (((rT y4.1.toInt32.toNatClampNeg) = 0 → ok_Mo_readRatio_29 y4 bu rT dr (1 : Int32)) ∧ (¬ ((rT y4.1.toInt32.toNatClampNeg) = 0) → ok_Mo_readRatio_29 y4 bu rT dr (0 : Int32)))
set_option maxRecDepth 100000 in
set_option maxHeartbeats 4000000 in
theorem c_Mo_readRatio (l : Launch) (g : GX) (mo : Nat) (a : Nat → Nat) (o : IV) (now : LV) (dr : LV) (pa : LV) (sa : LV) (iS : IV) (bu : IV) (tq : IV) (rT : IV) (wT : IV) (wo : Nat → Option Nat) (sK : IV) (sA : IV) (sB : IV) (sE : IV) (oq : IV) (bS : IV) (bE : IV) (bL : IV) (rp : IV)  (hok : ok_Mo_readRatio o dr bu rT) : Met l y_Mo_readRatio (wsY y_Mo_readRatio b_Mo_readRatio 2 none) rm_Mo_readRatio (CP g [.ref mo] (wMo g mo a o now dr pa sa iS bu tq rT wT wo sK sA sB sE oq bS bE bL rp)) (CV g (wMo g mo a o now dr pa sa iS bu tq rT wT wo sK sA sB sE oq bS bE bL rp) (fun u : IV × LV × IV => wMo g mo a u.1 now u.2.1 pa sa iS bu tq u.2.2 wT wo sK sA sB sE oq bS bE bL rp) (sp_Mo_readRatio o dr bu rT)) 0 0 (inW (wMo g mo a o now dr pa sa iS bu tq rT wT wo sK sA sB sE oq bS bE bL rp)) := by
  refine Met.ofW (cc := b_Mo_readRatio) (maxL := 2) (ret := none) pn_Mo rfl ?_
  intro p e s m args below meth c s₁ B hml hv
  obtain ⟨rfl, C, hP, hD, hS⟩ := enter "DecadeBridgeModel" rfl B hml hv
  obtain ⟨hx, hb, hr, hml, hown, hlk, hts, hK, hZo, hZ⟩ := id C
  refine entryW (lv := [(0, .ref mo)]) rfl (Nat.le_of_ble_eq_true rfl) (fun ls hl => ?_)
  obtain ⟨z, hz⟩ : ∃ z, z = sp_Mo_readRatio o dr bu rT := ⟨_, rfl⟩
  rw [← hz]
  unfold sp_Mo_readRatio at hz
  unfold ok_Mo_readRatio at hok
  refine lv_aload_n hx hb d_Mo_readRatio_0 rfl (lv_at hl 0 rfl) ?_
  have hs1 := hok.1
  have hok := hok.2
  have hB : SubW g (inW (wMo g mo a o now dr pa sa iS bu tq rT wT wo sK sA sB sE oq bS bE bL rp)) s (wMo g mo a o now dr pa sa iS bu tq rT wT wo sK sA sB sE oq bS bE bL rp) _ (List.range _) _ _ := (subF hP hD hS)
  refine goVF hB (run_v C mf_Mo_goOn qm_Mo_318 (c_Mo_goOn l g mo a o now dr pa sa iS bu tq rT wT wo sK sA sB sE oq bS bE bL rp hs1) rfl rfl ⟨Nat.le_of_ble_eq_true rfl, Nat.le_of_ble_eq_true rfl⟩ ⟨Nat.le_of_ble_eq_true rfl, Nat.le_of_ble_eq_true rfl⟩ hB rfl rfl hl rfl rfl (Nat.le_of_ble_eq_true rfl) d_Mo_readRatio_1) (fun _ => rfl) (fun y2 ey2 H locs hP hD hS => ?_)
  have hP : va_P g.1 vwCl (wMo g mo a y2 now dr pa sa iS bu tq rT wT wo sK sA sB sE oq bS bE bL rp) H := hP
  have hD : va_D (inW (wMo g mo a o now dr pa sa iS bu tq rT wT wo sK sA sB sE oq bS bE bL rp)) (wMo g mo a y2 now dr pa sa iS bu tq rT wT wo sK sA sB sE oq bS bE bL rp) := hD
  have hz := lett_z hz ey2
  have hok := lett_o hok ey2
  refine lv_aload_n hx hb d_Mo_readRatio_4 rfl (lv_at hl 0 rfl) ?_
  refine lv_lconst (v := 0) hx hb d_Mo_readRatio_5 (by decide) ?_
  refine lv_ldc2 hx hb hown (hts _ qk_Mo_116) d_Mo_readRatio_6 ?_
  have hs3 := hok.1
  have hok := hok.2
  have hB : SubW g (inW (wMo g mo a o now dr pa sa iS bu tq rT wT wo sK sA sB sE oq bS bE bL rp)) s (wMo g mo a y2 now dr pa sa iS bu tq rT wT wo sK sA sB sE oq bS bE bL rp) _ (List.range _) _ _ := (subF hP hD hS)
  refine goLF hB (run_v C mf_Mo_numberAhead qm_Mo_328 (c_Mo_numberAhead l g mo a y2 now dr pa sa iS bu tq rT wT wo sK sA sB sE oq bS bE bL rp (0 : Int64) (4 : Int64) hs3) rfl rfl ⟨Nat.le_of_ble_eq_true rfl, Nat.le_of_ble_eq_true rfl⟩ ⟨Nat.le_of_ble_eq_true rfl, Nat.le_of_ble_eq_true rfl⟩ hB rfl rfl hl rfl rfl (Nat.le_of_ble_eq_true rfl) d_Mo_readRatio_9) (fun _ => rfl) (fun y4 ey4 H locs hP hD hS => ?_)
  have hP : va_P g.1 vwCl (wMo g mo a y4.2 now dr pa sa iS bu tq rT wT wo sK sA sB sE oq bS bE bL rp) H := hP
  have hD : va_D (inW (wMo g mo a o now dr pa sa iS bu tq rT wT wo sK sA sB sE oq bS bE bL rp)) (wMo g mo a y4.2 now dr pa sa iS bu tq rT wT wo sK sA sB sE oq bS bE bL rp) := hD
  have hz := lett_z hz ey4
  have hok := lett_o hok ey4
  refine lv_l2i hx hb d_Mo_readRatio_12 rfl ?_
  refine lv_istore_n (lv' := [(1, .int y4.1.toInt32), (0, .ref mo)]) hx hb d_Mo_readRatio_13 rfl hl (by decide) rfl (fun ls hl => ?_)
  refine lv_aload_n hx hb d_Mo_readRatio_14 rfl (lv_at hl 1 rfl) ?_
  refine lv_aload_n hx hb d_Mo_readRatio_15 rfl (lv_at hl 1 rfl) ?_
  refine gf C hP 0 15 fkMo rfl (by decide) rfl qf_Mo_37 (gMo_15 _ _) d_Mo_readRatio_16 ?_
  refine lv_iload_n hx hb d_Mo_readRatio_19 rfl (lv_at hl 0 rfl) ?_
  have hs5 := hok.1
  have hok := hok.2
  refine ldZ C hP 8 rfl hs5 rfl d_Mo_readRatio_20 ?_
  refine lv_if_ne (tgt := 28) hx hb d_Mo_readRatio_21 (by decide) (fun c6 => ?_) (fun c6 => ?_)
  · have hz := hz.trans (if_neg c6)
    have hok := hok.2 c6
    refine lv_iconst (v := 0) hx hb d_Mo_readRatio_28 (by decide) ?_
    exact k_Mo_readRatio_29 C (0 : Int32) hok _ hz _ _ ls hP hD hS (lv_sub hl [1, 0] rfl)
  · have hz := hz.trans (if_pos c6)
    have hok := hok.1 c6
    refine lv_iconst (v := 1) hx hb d_Mo_readRatio_24 (by decide) ?_
    refine lv_goto (tgt := 29) hx hb d_Mo_readRatio_25 (by decide) ?_
    exact k_Mo_readRatio_29 C (1 : Int32) hok _ hz _ _ ls hP hD hS (lv_sub hl [1, 0] rfl)
abbrev rm_Mo_readLeads : Room := { frames := 4, cells := 0, slots := 0, locals := 92 }
def HL_Mo_readLeads_7 (p : Program) (l : Launch) (e : Env) (s : State) (m : MethodId) (args : Array Value) (below : List Frame) (meth : Method) (c : Code) (g : GX) (mo : Nat) (a : Nat → Nat) (ws0 : va_W) (now : LV) (pa : LV) (sa : LV) (iS : IV) (bu : IV) (y2 : IV × IV) (rT : IV) (wT : IV) (wo : Nat → Option Nat) (sK : IV) (sA : IV) (sB : IV) (sE : IV) (oq : IV) (bS : IV) (bE : IV) (bL : IV) (rp : IV) (sp : Int32 → IV → LV → (IV × LV × IV)) (ok : Int32 → IV → LV → Prop) : Prop := ∀ (x1p7 : Int32) (op7 : IV) (drp7 : LV), ok x1p7 op7 drp7 → ∀ z : (IV × LV × IV), z = sp x1p7 op7 drp7 → ∀ (H : Heap) (locs : List Loc) (ls : Array Slot), va_P g.1 vwCl (wMo g mo a op7 now drp7 pa sa iS bu y2.2 rT wT wo sK sA sB sE oq bS bE bL rp) H → va_D (inW ws0) (wMo g mo a op7 now drp7 pa sa iS bu y2.2 rT wT wo sK sA sB sE oq bS bE bL rp) → va_S (inW ws0) s.heap H locs → lv_has ls 2 [(0, .ref mo), (1, .int x1p7)] → W p l e rm_Mo_readLeads s m args below meth c H locs 0 0 (MQ below (CV g ws0 (fun u : IV × LV × IV => wMo g mo a u.1 now u.2.1 pa sa iS bu u.2.2 rT wT wo sK sA sB sE oq bS bE bL rp) z) args s 0 0 (inW ws0)) (F0 m 7 ls [])
noncomputable def bd_Mo_readLeads_7 (y2 : IV × IV) (bu : IV) (r7 : Int32 → IV → LV → (IV × LV × IV)) (x1p7 : Int32) (op7 : IV) (drp7 : LV) : IV × LV × IV := if (3 : Int32) ≤ x1p7 then ((op7, drp7, y2.2)) else (lett (sp_Mo_number (0 : Int64) (99999 : Int64) op7 bu) fun (y5 : Int64 × IV) => lett (vp_updL drp7 ((19 : Int32) + x1p7).toNatClampNeg y5.1) fun (dr_7 : LV) => lett (x1p7 + (1 : Int32)) fun (v8 : Int32) => r7 v8 y5.2 dr_7)
def okb_Mo_readLeads_7 (y2 : IV × IV) (bu : IV) (r7 : Int32 → IV → LV → (IV × LV × IV)) (q7 : Int32 → IV → LV → Prop) (x1p7 : Int32) (op7 : IV) (drp7 : LV) : Prop := (((3 : Int32) ≤ x1p7 → True) ∧ (¬ ((3 : Int32) ≤ x1p7) → (ok_Mo_number (0 : Int64) (99999 : Int64) op7 bu) ∧ lett (sp_Mo_number (0 : Int64) (99999 : Int64) op7 bu) fun (y5 : Int64 × IV) => (vp_in ((19 : Int32) + x1p7) 215) ∧ lett (vp_updL drp7 ((19 : Int32) + x1p7).toNatClampNeg y5.1) fun (dr_7 : LV) => lett (x1p7 + (1 : Int32)) fun (v8 : Int32) => q7 v8 y5.2 dr_7))
noncomputable def sp_Mo_readLeads_7 (y2 : IV × IV) (bu : IV)  : Nat → Int32 → IV → LV → (IV × LV × IV)
  | 0 => fun _ _ _ => default
  | f + 1 => bd_Mo_readLeads_7 y2 bu  (sp_Mo_readLeads_7 y2 bu  f)
def ok_Mo_readLeads_7 (y2 : IV × IV) (bu : IV)   : Nat → Int32 → IV → LV → Prop
  | 0 => fun _ _ _ => False
  | f + 1 => okb_Mo_readLeads_7 y2 bu  (sp_Mo_readLeads_7 y2 bu  f)  (ok_Mo_readLeads_7 y2 bu   f)
set_option maxRecDepth 100000 in
set_option maxHeartbeats 4000000 in
theorem kb_Mo_readLeads_7 {p : Program} {l : Launch} {e : Env} {s : State} {m : MethodId} {args : Array Value} {below : List Frame} {meth : Method} {c : Code} {g : GX} {mo : Nat} {a : Nat → Nat} {ws0 : va_W} {now : LV} {pa : LV} {sa : LV} {iS : IV} {bu : IV} {y2 : IV × IV} {rT : IV} {wT : IV} {wo : Nat → Option Nat} {sK : IV} {sA : IV} {sB : IV} {sE : IV} {oq : IV} {bS : IV} {bE : IV} {bL : IV} {rp : IV}  (C : Cx p s m args meth c (inW ws0) g "DecadeBridgeModel" b_Mo_readLeads none 2) {r7 : Int32 → IV → LV → (IV × LV × IV)} {q7 : Int32 → IV → LV → Prop}  (ih7 : HL_Mo_readLeads_7 p l e s m args below meth c g mo a ws0 now pa sa iS bu y2 rT wT wo sK sA sB sE oq bS bE bL rp r7 q7) : HL_Mo_readLeads_7 p l e s m args below meth c g mo a ws0 now pa sa iS bu y2 rT wT wo sK sA sB sE oq bS bE bL rp (bd_Mo_readLeads_7 y2 bu  r7) (okb_Mo_readLeads_7 y2 bu  r7  q7) := by
  intro x1p7 op7 drp7 hok z hz H locs ls hP hD hS hl
  obtain ⟨hx, hb, hr, hml, hown, hlk, hts, hK, hZo, hZ⟩ := id C
  unfold bd_Mo_readLeads_7 at hz
  unfold okb_Mo_readLeads_7 at hok
  refine lv_iload_n hx hb d_Mo_readLeads_7 rfl (lv_at hl 1 rfl) ?_
  refine lv_iconst (v := 3) hx hb d_Mo_readLeads_8 (by decide) ?_
  refine lv_icmp_ge (tgt := 35) hx hb d_Mo_readLeads_9 (by decide) (fun c3 => ?_) (fun c3 => ?_)
  · have hz := hz.trans (if_pos c3)
    exact endV C hz hP hS d_Mo_readLeads_35
  · have hz := hz.trans (if_neg c3)
    have hok := hok.2 c3
    refine lv_aload_n hx hb d_Mo_readLeads_12 rfl (lv_at hl 0 rfl) ?_
    refine gf C hP 0 1 fkMo rfl (by decide) rfl qf_Mo_13 (gMo_1 _ _) d_Mo_readLeads_13 ?_
    refine lv_bipush (v := 19) hx hb d_Mo_readLeads_16 (by decide) ?_
    refine lv_iload_n hx hb d_Mo_readLeads_18 rfl (lv_at hl 1 rfl) ?_
    refine lv_iadd hx hb d_Mo_readLeads_19 ?_
    refine lv_aload_n hx hb d_Mo_readLeads_20 rfl (lv_at hl 0 rfl) ?_
    refine lv_lconst (v := 0) hx hb d_Mo_readLeads_21 (by decide) ?_
    refine lv_ldc2 hx hb hown (hts _ qk_Mo_215) d_Mo_readLeads_22 ?_
    have hs4 := hok.1
    have hok := hok.2
    have hB : SubW g (inW ws0) s (wMo g mo a op7 now drp7 pa sa iS bu y2.2 rT wT wo sK sA sB sE oq bS bE bL rp) _ (List.range _) _ _ := (subF hP hD hS)
    refine goLF hB (run_v C mf_Mo_number qm_Mo_334 (c_Mo_number l g mo a op7 now drp7 pa sa iS bu y2.2 rT wT wo sK sA sB sE oq bS bE bL rp (0 : Int64) (99999 : Int64) hs4) rfl rfl ⟨Nat.le_of_ble_eq_true rfl, Nat.le_of_ble_eq_true rfl⟩ ⟨Nat.le_of_ble_eq_true rfl, Nat.le_of_ble_eq_true rfl⟩ hB rfl rfl hl rfl rfl (Nat.le_of_ble_eq_true rfl) d_Mo_readLeads_25) (fun _ => rfl) (fun y5 ey5 H locs hP hD hS => ?_)
    have hP : va_P g.1 vwCl (wMo g mo a y5.2 now drp7 pa sa iS bu y2.2 rT wT wo sK sA sB sE oq bS bE bL rp) H := hP
    have hD : va_D (inW ws0) (wMo g mo a y5.2 now drp7 pa sa iS bu y2.2 rT wT wo sK sA sB sE oq bS bE bL rp) := hD
    have hz := lett_z hz ey5
    have hok := lett_o hok ey5
    have hs6 := hok.1
    have hok := hok.2
    refine stL C hP hD hS 2 rfl hs6 rfl d_Mo_readLeads_28 (fun dr_7 edr_7 H locs hP hD hS => ?_)
    have hP : va_P g.1 vwCl (wMo g mo a y5.2 now dr_7 pa sa iS bu y2.2 rT wT wo sK sA sB sE oq bS bE bL rp) H := hP
    have hD : va_D (inW ws0) (wMo g mo a y5.2 now dr_7 pa sa iS bu y2.2 rT wT wo sK sA sB sE oq bS bE bL rp) := hD
    have hz := lett_z hz edr_7
    have hok := lett_o hok edr_7
    obtain ⟨v8, ev8⟩ : ∃ y : Int32, y = x1p7 + (1 : Int32) := ⟨_, rfl⟩
    have hz := lett_z hz ev8
    have hok := lett_o hok ev8
    refine lv_iinc (v := v8) (lv' := [(1, .int v8), (0, .ref mo)]) hx hb d_Mo_readLeads_29 hl (k := 1) rfl (by rw [ev8]; rfl) (by decide) rfl (fun ls hl => ?_)
    refine lv_goto (tgt := 7) hx hb d_Mo_readLeads_32 (by decide) ?_
    exact ih7 v8 y5.2 dr_7 hok _ hz _ _ ls hP hD hS (lv_sub hl [1, 0] rfl)
theorem k_Mo_readLeads_7 {p : Program} {l : Launch} {e : Env} {s : State} {m : MethodId} {args : Array Value} {below : List Frame} {meth : Method} {c : Code} {g : GX} {mo : Nat} {a : Nat → Nat} {ws0 : va_W} {now : LV} {pa : LV} {sa : LV} {iS : IV} {bu : IV} {y2 : IV × IV} {rT : IV} {wT : IV} {wo : Nat → Option Nat} {sK : IV} {sA : IV} {sB : IV} {sE : IV} {oq : IV} {bS : IV} {bE : IV} {bL : IV} {rp : IV}  (C : Cx p s m args meth c (inW ws0) g "DecadeBridgeModel" b_Mo_readLeads none 2) (f : Nat)  : HL_Mo_readLeads_7 p l e s m args below meth c g mo a ws0 now pa sa iS bu y2 rT wT wo sK sA sB sE oq bS bE bL rp (sp_Mo_readLeads_7 y2 bu  f) (ok_Mo_readLeads_7 y2 bu   f) := by
  induction f with
  | zero => intro x1p7 op7 drp7 hok; exact False.elim hok
  | succ f ih => exact kb_Mo_readLeads_7 C  ih
noncomputable def sp_Mo_readLeads (o : IV) (dr : LV) (bu : IV) (tq : IV) : IV × LV × IV := lett (sp_Mo_once (2 : Int32) o bu tq) fun (y2 : IV × IV) => sp_Mo_readLeads_7 y2 bu big (0 : Int32) y2.1 dr
def ok_Mo_readLeads (o : IV) (dr : LV) (bu : IV) (tq : IV) : Prop := (ok_Mo_once (2 : Int32) o bu tq) ∧ lett (sp_Mo_once (2 : Int32) o bu tq) fun (y2 : IV × IV) => ok_Mo_readLeads_7 y2 bu big (0 : Int32) y2.1 dr
set_option maxRecDepth 100000 in
set_option maxHeartbeats 4000000 in
theorem c_Mo_readLeads (l : Launch) (g : GX) (mo : Nat) (a : Nat → Nat) (o : IV) (now : LV) (dr : LV) (pa : LV) (sa : LV) (iS : IV) (bu : IV) (tq : IV) (rT : IV) (wT : IV) (wo : Nat → Option Nat) (sK : IV) (sA : IV) (sB : IV) (sE : IV) (oq : IV) (bS : IV) (bE : IV) (bL : IV) (rp : IV)  (hok : ok_Mo_readLeads o dr bu tq) : Met l y_Mo_readLeads (wsY y_Mo_readLeads b_Mo_readLeads 2 none) rm_Mo_readLeads (CP g [.ref mo] (wMo g mo a o now dr pa sa iS bu tq rT wT wo sK sA sB sE oq bS bE bL rp)) (CV g (wMo g mo a o now dr pa sa iS bu tq rT wT wo sK sA sB sE oq bS bE bL rp) (fun u : IV × LV × IV => wMo g mo a u.1 now u.2.1 pa sa iS bu u.2.2 rT wT wo sK sA sB sE oq bS bE bL rp) (sp_Mo_readLeads o dr bu tq)) 0 0 (inW (wMo g mo a o now dr pa sa iS bu tq rT wT wo sK sA sB sE oq bS bE bL rp)) := by
  refine Met.ofW (cc := b_Mo_readLeads) (maxL := 2) (ret := none) pn_Mo rfl ?_
  intro p e s m args below meth c s₁ B hml hv
  obtain ⟨rfl, C, hP, hD, hS⟩ := enter "DecadeBridgeModel" rfl B hml hv
  obtain ⟨hx, hb, hr, hml, hown, hlk, hts, hK, hZo, hZ⟩ := id C
  refine entryW (lv := [(0, .ref mo)]) rfl (Nat.le_of_ble_eq_true rfl) (fun ls hl => ?_)
  obtain ⟨z, hz⟩ : ∃ z, z = sp_Mo_readLeads o dr bu tq := ⟨_, rfl⟩
  rw [← hz]
  unfold sp_Mo_readLeads at hz
  unfold ok_Mo_readLeads at hok
  refine lv_aload_n hx hb d_Mo_readLeads_0 rfl (lv_at hl 0 rfl) ?_
  refine lv_iconst (v := 2) hx hb d_Mo_readLeads_1 (by decide) ?_
  have hs1 := hok.1
  have hok := hok.2
  have hB : SubW g (inW (wMo g mo a o now dr pa sa iS bu tq rT wT wo sK sA sB sE oq bS bE bL rp)) s (wMo g mo a o now dr pa sa iS bu tq rT wT wo sK sA sB sE oq bS bE bL rp) _ (List.range _) _ _ := (subF hP hD hS)
  refine goVF hB (run_v C mf_Mo_once qm_Mo_331 (c_Mo_once l g mo a o now dr pa sa iS bu tq rT wT wo sK sA sB sE oq bS bE bL rp (2 : Int32) hs1) rfl rfl ⟨Nat.le_of_ble_eq_true rfl, Nat.le_of_ble_eq_true rfl⟩ ⟨Nat.le_of_ble_eq_true rfl, Nat.le_of_ble_eq_true rfl⟩ hB rfl rfl hl rfl rfl (Nat.le_of_ble_eq_true rfl) d_Mo_readLeads_2) (fun _ => rfl) (fun y2 ey2 H locs hP hD hS => ?_)
  have hP : va_P g.1 vwCl (wMo g mo a y2.1 now dr pa sa iS bu y2.2 rT wT wo sK sA sB sE oq bS bE bL rp) H := hP
  have hD : va_D (inW (wMo g mo a o now dr pa sa iS bu tq rT wT wo sK sA sB sE oq bS bE bL rp)) (wMo g mo a y2.1 now dr pa sa iS bu y2.2 rT wT wo sK sA sB sE oq bS bE bL rp) := hD
  have hz := lett_z hz ey2
  have hok := lett_o hok ey2
  refine lv_iconst (v := 0) hx hb d_Mo_readLeads_5 (by decide) ?_
  refine lv_istore_n (lv' := [(1, .int (0 : Int32)), (0, .ref mo)]) hx hb d_Mo_readLeads_6 rfl hl (by decide) rfl (fun ls hl => ?_)
  exact k_Mo_readLeads_7 C big (0 : Int32) y2.1 dr hok _ hz _ _ ls hP hD hS (lv_sub hl [1, 0] rfl)
abbrev rm_Mo_readSupply : Room := { frames := 4, cells := 0, slots := 0, locals := 92 }
noncomputable def sp_Mo_readSupply (o : IV) (dr : LV) (bu : IV) (tq : IV) : IV × LV × IV := lett (sp_Mo_once (3 : Int32) o bu tq) fun (y2 : IV × IV) => lett (sp_Mo_number (0 : Int64) (20000 : Int64) y2.1 bu) fun (y4 : Int64 × IV) => lett (vp_updL dr 22 y4.1) fun (dr_5 : LV) => lett (sp_Mo_number (1 : Int64) (1000000 : Int64) y4.2 bu) fun (y7 : Int64 × IV) => lett (vp_updL dr_5 23 y7.1) fun (dr_8 : LV) => (y7.2, dr_8, y2.2)
def ok_Mo_readSupply (o : IV) (dr : LV) (bu : IV) (tq : IV) : Prop := (ok_Mo_once (3 : Int32) o bu tq) ∧ lett (sp_Mo_once (3 : Int32) o bu tq) fun (y2 : IV × IV) => (ok_Mo_number (0 : Int64) (20000 : Int64) y2.1 bu) ∧ lett (sp_Mo_number (0 : Int64) (20000 : Int64) y2.1 bu) fun (y4 : Int64 × IV) => lett (vp_updL dr 22 y4.1) fun (dr_5 : LV) => (ok_Mo_number (1 : Int64) (1000000 : Int64) y4.2 bu) ∧ True
set_option maxRecDepth 100000 in
set_option maxHeartbeats 4000000 in
theorem c_Mo_readSupply (l : Launch) (g : GX) (mo : Nat) (a : Nat → Nat) (o : IV) (now : LV) (dr : LV) (pa : LV) (sa : LV) (iS : IV) (bu : IV) (tq : IV) (rT : IV) (wT : IV) (wo : Nat → Option Nat) (sK : IV) (sA : IV) (sB : IV) (sE : IV) (oq : IV) (bS : IV) (bE : IV) (bL : IV) (rp : IV)  (hok : ok_Mo_readSupply o dr bu tq) : Met l y_Mo_readSupply (wsY y_Mo_readSupply b_Mo_readSupply 1 none) rm_Mo_readSupply (CP g [.ref mo] (wMo g mo a o now dr pa sa iS bu tq rT wT wo sK sA sB sE oq bS bE bL rp)) (CV g (wMo g mo a o now dr pa sa iS bu tq rT wT wo sK sA sB sE oq bS bE bL rp) (fun u : IV × LV × IV => wMo g mo a u.1 now u.2.1 pa sa iS bu u.2.2 rT wT wo sK sA sB sE oq bS bE bL rp) (sp_Mo_readSupply o dr bu tq)) 0 0 (inW (wMo g mo a o now dr pa sa iS bu tq rT wT wo sK sA sB sE oq bS bE bL rp)) := by
  refine Met.ofW (cc := b_Mo_readSupply) (maxL := 1) (ret := none) pn_Mo rfl ?_
  intro p e s m args below meth c s₁ B hml hv
  obtain ⟨rfl, C, hP, hD, hS⟩ := enter "DecadeBridgeModel" rfl B hml hv
  obtain ⟨hx, hb, hr, hml, hown, hlk, hts, hK, hZo, hZ⟩ := id C
  refine entryW (lv := [(0, .ref mo)]) rfl (Nat.le_of_ble_eq_true rfl) (fun ls hl => ?_)
  obtain ⟨z, hz⟩ : ∃ z, z = sp_Mo_readSupply o dr bu tq := ⟨_, rfl⟩
  rw [← hz]
  unfold sp_Mo_readSupply at hz
  unfold ok_Mo_readSupply at hok
  refine lv_aload_n hx hb d_Mo_readSupply_0 rfl (lv_at hl 0 rfl) ?_
  refine lv_iconst (v := 3) hx hb d_Mo_readSupply_1 (by decide) ?_
  have hs1 := hok.1
  have hok := hok.2
  have hB : SubW g (inW (wMo g mo a o now dr pa sa iS bu tq rT wT wo sK sA sB sE oq bS bE bL rp)) s (wMo g mo a o now dr pa sa iS bu tq rT wT wo sK sA sB sE oq bS bE bL rp) _ (List.range _) _ _ := (subF hP hD hS)
  refine goVF hB (run_v C mf_Mo_once qm_Mo_331 (c_Mo_once l g mo a o now dr pa sa iS bu tq rT wT wo sK sA sB sE oq bS bE bL rp (3 : Int32) hs1) rfl rfl ⟨Nat.le_of_ble_eq_true rfl, Nat.le_of_ble_eq_true rfl⟩ ⟨Nat.le_of_ble_eq_true rfl, Nat.le_of_ble_eq_true rfl⟩ hB rfl rfl hl rfl rfl (Nat.le_of_ble_eq_true rfl) d_Mo_readSupply_2) (fun _ => rfl) (fun y2 ey2 H locs hP hD hS => ?_)
  have hP : va_P g.1 vwCl (wMo g mo a y2.1 now dr pa sa iS bu y2.2 rT wT wo sK sA sB sE oq bS bE bL rp) H := hP
  have hD : va_D (inW (wMo g mo a o now dr pa sa iS bu tq rT wT wo sK sA sB sE oq bS bE bL rp)) (wMo g mo a y2.1 now dr pa sa iS bu y2.2 rT wT wo sK sA sB sE oq bS bE bL rp) := hD
  have hz := lett_z hz ey2
  have hok := lett_o hok ey2
  refine lv_aload_n hx hb d_Mo_readSupply_5 rfl (lv_at hl 0 rfl) ?_
  refine gf C hP 0 1 fkMo rfl (by decide) rfl qf_Mo_13 (gMo_1 _ _) d_Mo_readSupply_6 ?_
  refine lv_bipush (v := 22) hx hb d_Mo_readSupply_9 (by decide) ?_
  refine lv_aload_n hx hb d_Mo_readSupply_11 rfl (lv_at hl 0 rfl) ?_
  refine lv_lconst (v := 0) hx hb d_Mo_readSupply_12 (by decide) ?_
  refine lv_ldc2 hx hb hown (hts _ qk_Mo_356) d_Mo_readSupply_13 ?_
  have hs3 := hok.1
  have hok := hok.2
  have hB : SubW g (inW (wMo g mo a o now dr pa sa iS bu tq rT wT wo sK sA sB sE oq bS bE bL rp)) s (wMo g mo a y2.1 now dr pa sa iS bu y2.2 rT wT wo sK sA sB sE oq bS bE bL rp) _ (List.range _) _ _ := (subF hP hD hS)
  refine goLF hB (run_v C mf_Mo_number qm_Mo_334 (c_Mo_number l g mo a y2.1 now dr pa sa iS bu y2.2 rT wT wo sK sA sB sE oq bS bE bL rp (0 : Int64) (20000 : Int64) hs3) rfl rfl ⟨Nat.le_of_ble_eq_true rfl, Nat.le_of_ble_eq_true rfl⟩ ⟨Nat.le_of_ble_eq_true rfl, Nat.le_of_ble_eq_true rfl⟩ hB rfl rfl hl rfl rfl (Nat.le_of_ble_eq_true rfl) d_Mo_readSupply_16) (fun _ => rfl) (fun y4 ey4 H locs hP hD hS => ?_)
  have hP : va_P g.1 vwCl (wMo g mo a y4.2 now dr pa sa iS bu y2.2 rT wT wo sK sA sB sE oq bS bE bL rp) H := hP
  have hD : va_D (inW (wMo g mo a o now dr pa sa iS bu tq rT wT wo sK sA sB sE oq bS bE bL rp)) (wMo g mo a y4.2 now dr pa sa iS bu y2.2 rT wT wo sK sA sB sE oq bS bE bL rp) := hD
  have hz := lett_z hz ey4
  have hok := lett_o hok ey4
  refine stL C hP hD hS 2 rfl vi_22_215 cn_22 d_Mo_readSupply_19 (fun dr_5 edr_5 H locs hP hD hS => ?_)
  have hP : va_P g.1 vwCl (wMo g mo a y4.2 now dr_5 pa sa iS bu y2.2 rT wT wo sK sA sB sE oq bS bE bL rp) H := hP
  have hD : va_D (inW (wMo g mo a o now dr pa sa iS bu tq rT wT wo sK sA sB sE oq bS bE bL rp)) (wMo g mo a y4.2 now dr_5 pa sa iS bu y2.2 rT wT wo sK sA sB sE oq bS bE bL rp) := hD
  have hz := lett_z hz edr_5
  have hok := lett_o hok edr_5
  refine lv_aload_n hx hb d_Mo_readSupply_20 rfl (lv_at hl 0 rfl) ?_
  refine gf C hP 0 1 fkMo rfl (by decide) rfl qf_Mo_13 (gMo_1 _ _) d_Mo_readSupply_21 ?_
  refine lv_bipush (v := 23) hx hb d_Mo_readSupply_24 (by decide) ?_
  refine lv_aload_n hx hb d_Mo_readSupply_26 rfl (lv_at hl 0 rfl) ?_
  refine lv_lconst (v := 1) hx hb d_Mo_readSupply_27 (by decide) ?_
  refine lv_ldc2 hx hb hown (hts _ qk_Mo_112) d_Mo_readSupply_28 ?_
  have hs6 := hok.1
  have hok := hok.2
  have hB : SubW g (inW (wMo g mo a o now dr pa sa iS bu tq rT wT wo sK sA sB sE oq bS bE bL rp)) s (wMo g mo a y4.2 now dr_5 pa sa iS bu y2.2 rT wT wo sK sA sB sE oq bS bE bL rp) _ (List.range _) _ _ := (subF hP hD hS)
  refine goLF hB (run_v C mf_Mo_number qm_Mo_334 (c_Mo_number l g mo a y4.2 now dr_5 pa sa iS bu y2.2 rT wT wo sK sA sB sE oq bS bE bL rp (1 : Int64) (1000000 : Int64) hs6) rfl rfl ⟨Nat.le_of_ble_eq_true rfl, Nat.le_of_ble_eq_true rfl⟩ ⟨Nat.le_of_ble_eq_true rfl, Nat.le_of_ble_eq_true rfl⟩ hB rfl rfl hl rfl rfl (Nat.le_of_ble_eq_true rfl) d_Mo_readSupply_31) (fun _ => rfl) (fun y7 ey7 H locs hP hD hS => ?_)
  have hP : va_P g.1 vwCl (wMo g mo a y7.2 now dr_5 pa sa iS bu y2.2 rT wT wo sK sA sB sE oq bS bE bL rp) H := hP
  have hD : va_D (inW (wMo g mo a o now dr pa sa iS bu tq rT wT wo sK sA sB sE oq bS bE bL rp)) (wMo g mo a y7.2 now dr_5 pa sa iS bu y2.2 rT wT wo sK sA sB sE oq bS bE bL rp) := hD
  have hz := lett_z hz ey7
  refine stL C hP hD hS 2 rfl vi_23_215 cn_23 d_Mo_readSupply_34 (fun dr_8 edr_8 H locs hP hD hS => ?_)
  have hP : va_P g.1 vwCl (wMo g mo a y7.2 now dr_8 pa sa iS bu y2.2 rT wT wo sK sA sB sE oq bS bE bL rp) H := hP
  have hD : va_D (inW (wMo g mo a o now dr pa sa iS bu tq rT wT wo sK sA sB sE oq bS bE bL rp)) (wMo g mo a y7.2 now dr_8 pa sa iS bu y2.2 rT wT wo sK sA sB sE oq bS bE bL rp) := hD
  have hz := lett_z hz edr_8
  exact endV C hz hP hS d_Mo_readSupply_35
abbrev rm_Mo_readDetector : Room := { frames := 4, cells := 0, slots := 0, locals := 92 }
noncomputable def sp_Mo_readDetector (o : IV) (dr : LV) (bu : IV) (tq : IV) : IV × LV × IV := lett (sp_Mo_once (4 : Int32) o bu tq) fun (y2 : IV × IV) => lett (sp_Mo_number (1 : Int64) (9999999 : Int64) y2.1 bu) fun (y4 : Int64 × IV) => lett (vp_updL dr 24 y4.1) fun (dr_5 : LV) => lett (sp_Mo_number (0 : Int64) (9999 : Int64) y4.2 bu) fun (y7 : Int64 × IV) => lett (vp_updL dr_5 25 y7.1) fun (dr_8 : LV) => lett (sp_Mo_number (0 : Int64) (999 : Int64) y7.2 bu) fun (y10 : Int64 × IV) => lett (vp_updL dr_8 26 y10.1) fun (dr_11 : LV) => lett (sp_Mo_signed (-99999 : Int64) (99999 : Int64) y10.2 bu) fun (y13 : Int64 × IV) => lett (vp_updL dr_11 27 y13.1) fun (dr_14 : LV) => (y13.2, dr_14, y2.2)
def ok_Mo_readDetector (o : IV) (dr : LV) (bu : IV) (tq : IV) : Prop := (ok_Mo_once (4 : Int32) o bu tq) ∧ lett (sp_Mo_once (4 : Int32) o bu tq) fun (y2 : IV × IV) => (ok_Mo_number (1 : Int64) (9999999 : Int64) y2.1 bu) ∧ lett (sp_Mo_number (1 : Int64) (9999999 : Int64) y2.1 bu) fun (y4 : Int64 × IV) => lett (vp_updL dr 24 y4.1) fun (dr_5 : LV) => (ok_Mo_number (0 : Int64) (9999 : Int64) y4.2 bu) ∧ lett (sp_Mo_number (0 : Int64) (9999 : Int64) y4.2 bu) fun (y7 : Int64 × IV) => lett (vp_updL dr_5 25 y7.1) fun (dr_8 : LV) => (ok_Mo_number (0 : Int64) (999 : Int64) y7.2 bu) ∧ lett (sp_Mo_number (0 : Int64) (999 : Int64) y7.2 bu) fun (y10 : Int64 × IV) => lett (vp_updL dr_8 26 y10.1) fun (dr_11 : LV) => (ok_Mo_signed (-99999 : Int64) (99999 : Int64) y10.2 bu) ∧ True
set_option maxRecDepth 100000 in
set_option maxHeartbeats 4000000 in
theorem c_Mo_readDetector (l : Launch) (g : GX) (mo : Nat) (a : Nat → Nat) (o : IV) (now : LV) (dr : LV) (pa : LV) (sa : LV) (iS : IV) (bu : IV) (tq : IV) (rT : IV) (wT : IV) (wo : Nat → Option Nat) (sK : IV) (sA : IV) (sB : IV) (sE : IV) (oq : IV) (bS : IV) (bE : IV) (bL : IV) (rp : IV)  (hok : ok_Mo_readDetector o dr bu tq) : Met l y_Mo_readDetector (wsY y_Mo_readDetector b_Mo_readDetector 1 none) rm_Mo_readDetector (CP g [.ref mo] (wMo g mo a o now dr pa sa iS bu tq rT wT wo sK sA sB sE oq bS bE bL rp)) (CV g (wMo g mo a o now dr pa sa iS bu tq rT wT wo sK sA sB sE oq bS bE bL rp) (fun u : IV × LV × IV => wMo g mo a u.1 now u.2.1 pa sa iS bu u.2.2 rT wT wo sK sA sB sE oq bS bE bL rp) (sp_Mo_readDetector o dr bu tq)) 0 0 (inW (wMo g mo a o now dr pa sa iS bu tq rT wT wo sK sA sB sE oq bS bE bL rp)) := by
  refine Met.ofW (cc := b_Mo_readDetector) (maxL := 1) (ret := none) pn_Mo rfl ?_
  intro p e s m args below meth c s₁ B hml hv
  obtain ⟨rfl, C, hP, hD, hS⟩ := enter "DecadeBridgeModel" rfl B hml hv
  obtain ⟨hx, hb, hr, hml, hown, hlk, hts, hK, hZo, hZ⟩ := id C
  refine entryW (lv := [(0, .ref mo)]) rfl (Nat.le_of_ble_eq_true rfl) (fun ls hl => ?_)
  obtain ⟨z, hz⟩ : ∃ z, z = sp_Mo_readDetector o dr bu tq := ⟨_, rfl⟩
  rw [← hz]
  unfold sp_Mo_readDetector at hz
  unfold ok_Mo_readDetector at hok
  refine lv_aload_n hx hb d_Mo_readDetector_0 rfl (lv_at hl 0 rfl) ?_
  refine lv_iconst (v := 4) hx hb d_Mo_readDetector_1 (by decide) ?_
  have hs1 := hok.1
  have hok := hok.2
  have hB : SubW g (inW (wMo g mo a o now dr pa sa iS bu tq rT wT wo sK sA sB sE oq bS bE bL rp)) s (wMo g mo a o now dr pa sa iS bu tq rT wT wo sK sA sB sE oq bS bE bL rp) _ (List.range _) _ _ := (subF hP hD hS)
  refine goVF hB (run_v C mf_Mo_once qm_Mo_331 (c_Mo_once l g mo a o now dr pa sa iS bu tq rT wT wo sK sA sB sE oq bS bE bL rp (4 : Int32) hs1) rfl rfl ⟨Nat.le_of_ble_eq_true rfl, Nat.le_of_ble_eq_true rfl⟩ ⟨Nat.le_of_ble_eq_true rfl, Nat.le_of_ble_eq_true rfl⟩ hB rfl rfl hl rfl rfl (Nat.le_of_ble_eq_true rfl) d_Mo_readDetector_2) (fun _ => rfl) (fun y2 ey2 H locs hP hD hS => ?_)
  have hP : va_P g.1 vwCl (wMo g mo a y2.1 now dr pa sa iS bu y2.2 rT wT wo sK sA sB sE oq bS bE bL rp) H := hP
  have hD : va_D (inW (wMo g mo a o now dr pa sa iS bu tq rT wT wo sK sA sB sE oq bS bE bL rp)) (wMo g mo a y2.1 now dr pa sa iS bu y2.2 rT wT wo sK sA sB sE oq bS bE bL rp) := hD
  have hz := lett_z hz ey2
  have hok := lett_o hok ey2
  refine lv_aload_n hx hb d_Mo_readDetector_5 rfl (lv_at hl 0 rfl) ?_
  refine gf C hP 0 1 fkMo rfl (by decide) rfl qf_Mo_13 (gMo_1 _ _) d_Mo_readDetector_6 ?_
  refine lv_bipush (v := 24) hx hb d_Mo_readDetector_9 (by decide) ?_
  refine lv_aload_n hx hb d_Mo_readDetector_11 rfl (lv_at hl 0 rfl) ?_
  refine lv_lconst (v := 1) hx hb d_Mo_readDetector_12 (by decide) ?_
  refine lv_ldc2 hx hb hown (hts _ qk_Mo_114) d_Mo_readDetector_13 ?_
  have hs3 := hok.1
  have hok := hok.2
  have hB : SubW g (inW (wMo g mo a o now dr pa sa iS bu tq rT wT wo sK sA sB sE oq bS bE bL rp)) s (wMo g mo a y2.1 now dr pa sa iS bu y2.2 rT wT wo sK sA sB sE oq bS bE bL rp) _ (List.range _) _ _ := (subF hP hD hS)
  refine goLF hB (run_v C mf_Mo_number qm_Mo_334 (c_Mo_number l g mo a y2.1 now dr pa sa iS bu y2.2 rT wT wo sK sA sB sE oq bS bE bL rp (1 : Int64) (9999999 : Int64) hs3) rfl rfl ⟨Nat.le_of_ble_eq_true rfl, Nat.le_of_ble_eq_true rfl⟩ ⟨Nat.le_of_ble_eq_true rfl, Nat.le_of_ble_eq_true rfl⟩ hB rfl rfl hl rfl rfl (Nat.le_of_ble_eq_true rfl) d_Mo_readDetector_16) (fun _ => rfl) (fun y4 ey4 H locs hP hD hS => ?_)
  have hP : va_P g.1 vwCl (wMo g mo a y4.2 now dr pa sa iS bu y2.2 rT wT wo sK sA sB sE oq bS bE bL rp) H := hP
  have hD : va_D (inW (wMo g mo a o now dr pa sa iS bu tq rT wT wo sK sA sB sE oq bS bE bL rp)) (wMo g mo a y4.2 now dr pa sa iS bu y2.2 rT wT wo sK sA sB sE oq bS bE bL rp) := hD
  have hz := lett_z hz ey4
  have hok := lett_o hok ey4
  refine stL C hP hD hS 2 rfl vi_24_215 cn_24 d_Mo_readDetector_19 (fun dr_5 edr_5 H locs hP hD hS => ?_)
  have hP : va_P g.1 vwCl (wMo g mo a y4.2 now dr_5 pa sa iS bu y2.2 rT wT wo sK sA sB sE oq bS bE bL rp) H := hP
  have hD : va_D (inW (wMo g mo a o now dr pa sa iS bu tq rT wT wo sK sA sB sE oq bS bE bL rp)) (wMo g mo a y4.2 now dr_5 pa sa iS bu y2.2 rT wT wo sK sA sB sE oq bS bE bL rp) := hD
  have hz := lett_z hz edr_5
  have hok := lett_o hok edr_5
  refine lv_aload_n hx hb d_Mo_readDetector_20 rfl (lv_at hl 0 rfl) ?_
  refine gf C hP 0 1 fkMo rfl (by decide) rfl qf_Mo_13 (gMo_1 _ _) d_Mo_readDetector_21 ?_
  refine lv_bipush (v := 25) hx hb d_Mo_readDetector_24 (by decide) ?_
  refine lv_aload_n hx hb d_Mo_readDetector_26 rfl (lv_at hl 0 rfl) ?_
  refine lv_lconst (v := 0) hx hb d_Mo_readDetector_27 (by decide) ?_
  refine lv_ldc2 hx hb hown (hts _ qk_Mo_358) d_Mo_readDetector_28 ?_
  have hs6 := hok.1
  have hok := hok.2
  have hB : SubW g (inW (wMo g mo a o now dr pa sa iS bu tq rT wT wo sK sA sB sE oq bS bE bL rp)) s (wMo g mo a y4.2 now dr_5 pa sa iS bu y2.2 rT wT wo sK sA sB sE oq bS bE bL rp) _ (List.range _) _ _ := (subF hP hD hS)
  refine goLF hB (run_v C mf_Mo_number qm_Mo_334 (c_Mo_number l g mo a y4.2 now dr_5 pa sa iS bu y2.2 rT wT wo sK sA sB sE oq bS bE bL rp (0 : Int64) (9999 : Int64) hs6) rfl rfl ⟨Nat.le_of_ble_eq_true rfl, Nat.le_of_ble_eq_true rfl⟩ ⟨Nat.le_of_ble_eq_true rfl, Nat.le_of_ble_eq_true rfl⟩ hB rfl rfl hl rfl rfl (Nat.le_of_ble_eq_true rfl) d_Mo_readDetector_31) (fun _ => rfl) (fun y7 ey7 H locs hP hD hS => ?_)
  have hP : va_P g.1 vwCl (wMo g mo a y7.2 now dr_5 pa sa iS bu y2.2 rT wT wo sK sA sB sE oq bS bE bL rp) H := hP
  have hD : va_D (inW (wMo g mo a o now dr pa sa iS bu tq rT wT wo sK sA sB sE oq bS bE bL rp)) (wMo g mo a y7.2 now dr_5 pa sa iS bu y2.2 rT wT wo sK sA sB sE oq bS bE bL rp) := hD
  have hz := lett_z hz ey7
  have hok := lett_o hok ey7
  refine stL C hP hD hS 2 rfl vi_25_215 cn_25 d_Mo_readDetector_34 (fun dr_8 edr_8 H locs hP hD hS => ?_)
  have hP : va_P g.1 vwCl (wMo g mo a y7.2 now dr_8 pa sa iS bu y2.2 rT wT wo sK sA sB sE oq bS bE bL rp) H := hP
  have hD : va_D (inW (wMo g mo a o now dr pa sa iS bu tq rT wT wo sK sA sB sE oq bS bE bL rp)) (wMo g mo a y7.2 now dr_8 pa sa iS bu y2.2 rT wT wo sK sA sB sE oq bS bE bL rp) := hD
  have hz := lett_z hz edr_8
  have hok := lett_o hok edr_8
  refine lv_aload_n hx hb d_Mo_readDetector_35 rfl (lv_at hl 0 rfl) ?_
  refine gf C hP 0 1 fkMo rfl (by decide) rfl qf_Mo_13 (gMo_1 _ _) d_Mo_readDetector_36 ?_
  refine lv_bipush (v := 26) hx hb d_Mo_readDetector_39 (by decide) ?_
  refine lv_aload_n hx hb d_Mo_readDetector_41 rfl (lv_at hl 0 rfl) ?_
  refine lv_lconst (v := 0) hx hb d_Mo_readDetector_42 (by decide) ?_
  refine lv_ldc2 hx hb hown (hts _ qk_Mo_337) d_Mo_readDetector_43 ?_
  have hs9 := hok.1
  have hok := hok.2
  have hB : SubW g (inW (wMo g mo a o now dr pa sa iS bu tq rT wT wo sK sA sB sE oq bS bE bL rp)) s (wMo g mo a y7.2 now dr_8 pa sa iS bu y2.2 rT wT wo sK sA sB sE oq bS bE bL rp) _ (List.range _) _ _ := (subF hP hD hS)
  refine goLF hB (run_v C mf_Mo_number qm_Mo_334 (c_Mo_number l g mo a y7.2 now dr_8 pa sa iS bu y2.2 rT wT wo sK sA sB sE oq bS bE bL rp (0 : Int64) (999 : Int64) hs9) rfl rfl ⟨Nat.le_of_ble_eq_true rfl, Nat.le_of_ble_eq_true rfl⟩ ⟨Nat.le_of_ble_eq_true rfl, Nat.le_of_ble_eq_true rfl⟩ hB rfl rfl hl rfl rfl (Nat.le_of_ble_eq_true rfl) d_Mo_readDetector_46) (fun _ => rfl) (fun y10 ey10 H locs hP hD hS => ?_)
  have hP : va_P g.1 vwCl (wMo g mo a y10.2 now dr_8 pa sa iS bu y2.2 rT wT wo sK sA sB sE oq bS bE bL rp) H := hP
  have hD : va_D (inW (wMo g mo a o now dr pa sa iS bu tq rT wT wo sK sA sB sE oq bS bE bL rp)) (wMo g mo a y10.2 now dr_8 pa sa iS bu y2.2 rT wT wo sK sA sB sE oq bS bE bL rp) := hD
  have hz := lett_z hz ey10
  have hok := lett_o hok ey10
  refine stL C hP hD hS 2 rfl vi_26_215 cn_26 d_Mo_readDetector_49 (fun dr_11 edr_11 H locs hP hD hS => ?_)
  have hP : va_P g.1 vwCl (wMo g mo a y10.2 now dr_11 pa sa iS bu y2.2 rT wT wo sK sA sB sE oq bS bE bL rp) H := hP
  have hD : va_D (inW (wMo g mo a o now dr pa sa iS bu tq rT wT wo sK sA sB sE oq bS bE bL rp)) (wMo g mo a y10.2 now dr_11 pa sa iS bu y2.2 rT wT wo sK sA sB sE oq bS bE bL rp) := hD
  have hz := lett_z hz edr_11
  have hok := lett_o hok edr_11
  refine lv_aload_n hx hb d_Mo_readDetector_50 rfl (lv_at hl 0 rfl) ?_
  refine gf C hP 0 1 fkMo rfl (by decide) rfl qf_Mo_13 (gMo_1 _ _) d_Mo_readDetector_51 ?_
  refine lv_bipush (v := 27) hx hb d_Mo_readDetector_54 (by decide) ?_
  refine lv_aload_n hx hb d_Mo_readDetector_56 rfl (lv_at hl 0 rfl) ?_
  refine lv_ldc2 hx hb hown (hts _ qk_Mo_213) d_Mo_readDetector_57 ?_
  refine lv_ldc2 hx hb hown (hts _ qk_Mo_215) d_Mo_readDetector_60 ?_
  have hs12 := hok.1
  have hok := hok.2
  have hB : SubW g (inW (wMo g mo a o now dr pa sa iS bu tq rT wT wo sK sA sB sE oq bS bE bL rp)) s (wMo g mo a y10.2 now dr_11 pa sa iS bu y2.2 rT wT wo sK sA sB sE oq bS bE bL rp) _ (List.range _) _ _ := (subF hP hD hS)
  refine goLF hB (run_v C mf_Mo_signed qm_Mo_343 (c_Mo_signed l g mo a y10.2 now dr_11 pa sa iS bu y2.2 rT wT wo sK sA sB sE oq bS bE bL rp (-99999 : Int64) (99999 : Int64) hs12) rfl rfl ⟨Nat.le_of_ble_eq_true rfl, Nat.le_of_ble_eq_true rfl⟩ ⟨Nat.le_of_ble_eq_true rfl, Nat.le_of_ble_eq_true rfl⟩ hB rfl rfl hl rfl rfl (Nat.le_of_ble_eq_true rfl) d_Mo_readDetector_63) (fun _ => rfl) (fun y13 ey13 H locs hP hD hS => ?_)
  have hP : va_P g.1 vwCl (wMo g mo a y13.2 now dr_11 pa sa iS bu y2.2 rT wT wo sK sA sB sE oq bS bE bL rp) H := hP
  have hD : va_D (inW (wMo g mo a o now dr pa sa iS bu tq rT wT wo sK sA sB sE oq bS bE bL rp)) (wMo g mo a y13.2 now dr_11 pa sa iS bu y2.2 rT wT wo sK sA sB sE oq bS bE bL rp) := hD
  have hz := lett_z hz ey13
  refine stL C hP hD hS 2 rfl vi_27_215 cn_27 d_Mo_readDetector_66 (fun dr_14 edr_14 H locs hP hD hS => ?_)
  have hP : va_P g.1 vwCl (wMo g mo a y13.2 now dr_14 pa sa iS bu y2.2 rT wT wo sK sA sB sE oq bS bE bL rp) H := hP
  have hD : va_D (inW (wMo g mo a o now dr pa sa iS bu tq rT wT wo sK sA sB sE oq bS bE bL rp)) (wMo g mo a y13.2 now dr_14 pa sa iS bu y2.2 rT wT wo sK sA sB sE oq bS bE bL rp) := hD
  have hz := lett_z hz edr_14
  exact endV C hz hP hS d_Mo_readDetector_67
abbrev rm_Mo_forgetTold : Room := { frames := 0, cells := 0, slots := 0, locals := 0 }
def HL_Mo_forgetTold_2 (p : Program) (l : Launch) (e : Env) (s : State) (m : MethodId) (args : Array Value) (below : List Frame) (meth : Method) (c : Code) (g : GX) (mo : Nat) (a : Nat → Nat) (ws0 : va_W) (o : IV) (now : LV) (dr : LV) (pa : LV) (sa : LV) (iS : IV) (bu : IV) (rT : IV) (wT : IV) (wo : Nat → Option Nat) (sK : IV) (sA : IV) (sB : IV) (sE : IV) (oq : IV) (bS : IV) (bE : IV) (bL : IV) (rp : IV) (sp : Int32 → IV → (IV × IV × IV)) (ok : Int32 → IV → Prop) : Prop := ∀ (x1p2 : Int32) (tqp2 : IV), ok x1p2 tqp2 → ∀ z : (IV × IV × IV), z = sp x1p2 tqp2 → ∀ (H : Heap) (locs : List Loc) (ls : Array Slot), va_P g.1 vwCl (wMo g mo a o now dr pa sa iS bu tqp2 rT wT wo sK sA sB sE oq bS bE bL rp) H → va_D (inW ws0) (wMo g mo a o now dr pa sa iS bu tqp2 rT wT wo sK sA sB sE oq bS bE bL rp) → va_S (inW ws0) s.heap H locs → lv_has ls 2 [(0, .ref mo), (1, .int x1p2)] → W p l e rm_Mo_forgetTold s m args below meth c H locs 0 0 (MQ below (CV g ws0 (fun u : IV × IV × IV => wMo g mo a o now dr pa sa iS bu u.1 u.2.1 u.2.2 wo sK sA sB sE oq bS bE bL rp) z) args s 0 0 (inW ws0)) (F0 m 2 ls [])
def HL_Mo_forgetTold_21 (p : Program) (l : Launch) (e : Env) (s : State) (m : MethodId) (args : Array Value) (below : List Frame) (meth : Method) (c : Code) (g : GX) (mo : Nat) (a : Nat → Nat) (ws0 : va_W) (o : IV) (now : LV) (dr : LV) (pa : LV) (sa : LV) (iS : IV) (bu : IV) (tqp2 : IV) (rT : IV) (wT : IV) (wo : Nat → Option Nat) (sK : IV) (sA : IV) (sB : IV) (sE : IV) (oq : IV) (bS : IV) (bE : IV) (bL : IV) (rp : IV) (sp : (IV × IV × IV)) (ok : Prop) : Prop := ∀ (_ : Unit), ok → ∀ z : (IV × IV × IV), z = sp → ∀ (H : Heap) (locs : List Loc) (ls : Array Slot), va_P g.1 vwCl (wMo g mo a o now dr pa sa iS bu tqp2 rT wT wo sK sA sB sE oq bS bE bL rp) H → va_D (inW ws0) (wMo g mo a o now dr pa sa iS bu tqp2 rT wT wo sK sA sB sE oq bS bE bL rp) → va_S (inW ws0) s.heap H locs → lv_has ls 2 [(0, .ref mo)] → W p l e rm_Mo_forgetTold s m args below meth c H locs 0 0 (MQ below (CV g ws0 (fun u : IV × IV × IV => wMo g mo a o now dr pa sa iS bu u.1 u.2.1 u.2.2 wo sK sA sB sE oq bS bE bL rp) z) args s 0 0 (inW ws0)) (F0 m 21 ls [])
def HL_Mo_forgetTold_23 (p : Program) (l : Launch) (e : Env) (s : State) (m : MethodId) (args : Array Value) (below : List Frame) (meth : Method) (c : Code) (g : GX) (mo : Nat) (a : Nat → Nat) (ws0 : va_W) (o : IV) (now : LV) (dr : LV) (pa : LV) (sa : LV) (iS : IV) (bu : IV) (tqp2 : IV) (wT : IV) (wo : Nat → Option Nat) (sK : IV) (sA : IV) (sB : IV) (sE : IV) (oq : IV) (bS : IV) (bE : IV) (bL : IV) (rp : IV) (sp : Int32 → IV → (IV × IV × IV)) (ok : Int32 → IV → Prop) : Prop := ∀ (x1p23 : Int32) (rTp23 : IV), ok x1p23 rTp23 → ∀ z : (IV × IV × IV), z = sp x1p23 rTp23 → ∀ (H : Heap) (locs : List Loc) (ls : Array Slot), va_P g.1 vwCl (wMo g mo a o now dr pa sa iS bu tqp2 rTp23 wT wo sK sA sB sE oq bS bE bL rp) H → va_D (inW ws0) (wMo g mo a o now dr pa sa iS bu tqp2 rTp23 wT wo sK sA sB sE oq bS bE bL rp) → va_S (inW ws0) s.heap H locs → lv_has ls 2 [(0, .ref mo), (1, .int x1p23)] → W p l e rm_Mo_forgetTold s m args below meth c H locs 0 0 (MQ below (CV g ws0 (fun u : IV × IV × IV => wMo g mo a o now dr pa sa iS bu u.1 u.2.1 u.2.2 wo sK sA sB sE oq bS bE bL rp) z) args s 0 0 (inW ws0)) (F0 m 23 ls [])
def HL_Mo_forgetTold_41 (p : Program) (l : Launch) (e : Env) (s : State) (m : MethodId) (args : Array Value) (below : List Frame) (meth : Method) (c : Code) (g : GX) (mo : Nat) (a : Nat → Nat) (ws0 : va_W) (o : IV) (now : LV) (dr : LV) (pa : LV) (sa : LV) (iS : IV) (bu : IV) (tqp2 : IV) (rTp23 : IV) (wT : IV) (wo : Nat → Option Nat) (sK : IV) (sA : IV) (sB : IV) (sE : IV) (oq : IV) (bS : IV) (bE : IV) (bL : IV) (rp : IV) (sp : (IV × IV × IV)) (ok : Prop) : Prop := ∀ (_ : Unit), ok → ∀ z : (IV × IV × IV), z = sp → ∀ (H : Heap) (locs : List Loc) (ls : Array Slot), va_P g.1 vwCl (wMo g mo a o now dr pa sa iS bu tqp2 rTp23 wT wo sK sA sB sE oq bS bE bL rp) H → va_D (inW ws0) (wMo g mo a o now dr pa sa iS bu tqp2 rTp23 wT wo sK sA sB sE oq bS bE bL rp) → va_S (inW ws0) s.heap H locs → lv_has ls 2 [(0, .ref mo)] → W p l e rm_Mo_forgetTold s m args below meth c H locs 0 0 (MQ below (CV g ws0 (fun u : IV × IV × IV => wMo g mo a o now dr pa sa iS bu u.1 u.2.1 u.2.2 wo sK sA sB sE oq bS bE bL rp) z) args s 0 0 (inW ws0)) (F0 m 41 ls [])
noncomputable def sp_Mo_forgetTold_41 (wT : IV) (tqp2 : IV) (rTp23 : IV)   : IV × IV × IV := lett (upd wT 0 (vp_nar .boolean (0 : Int32))) fun (wT_9 : IV) => lett (upd wT_9 1 (vp_nar .boolean (0 : Int32))) fun (wT_10 : IV) => (tqp2, rTp23, wT_10)
def ok_Mo_forgetTold_41 (wT : IV) (tqp2 : IV) (rTp23 : IV)    : Prop := True
set_option maxRecDepth 100000 in
set_option maxHeartbeats 4000000 in
theorem k_Mo_forgetTold_41 {p : Program} {l : Launch} {e : Env} {s : State} {m : MethodId} {args : Array Value} {below : List Frame} {meth : Method} {c : Code} {g : GX} {mo : Nat} {a : Nat → Nat} {ws0 : va_W} {o : IV} {now : LV} {dr : LV} {pa : LV} {sa : LV} {iS : IV} {bu : IV} {tqp2 : IV} {rTp23 : IV} {wT : IV} {wo : Nat → Option Nat} {sK : IV} {sA : IV} {sB : IV} {sE : IV} {oq : IV} {bS : IV} {bE : IV} {bL : IV} {rp : IV}  (C : Cx p s m args meth c (inW ws0) g "DecadeBridgeModel" b_Mo_forgetTold none 2)  : HL_Mo_forgetTold_41 p l e s m args below meth c g mo a ws0 o now dr pa sa iS bu tqp2 rTp23 wT wo sK sA sB sE oq bS bE bL rp (sp_Mo_forgetTold_41 wT tqp2 rTp23 ) (ok_Mo_forgetTold_41 wT tqp2 rTp23  ) := by
  intro _ hok z hz H locs ls hP hD hS hl
  obtain ⟨hx, hb, hr, hml, hown, hlk, hts, hK, hZo, hZ⟩ := id C
  unfold sp_Mo_forgetTold_41 at hz
  refine lv_aload_n hx hb d_Mo_forgetTold_41 rfl (lv_at hl 0 rfl) ?_
  refine gf C hP 0 16 fkMo rfl (by decide) rfl qf_Mo_40 (gMo_16 _ _) d_Mo_forgetTold_42 ?_
  refine lv_iconst (v := 0) hx hb d_Mo_forgetTold_45 (by decide) ?_
  refine lv_iconst (v := 0) hx hb d_Mo_forgetTold_46 (by decide) ?_
  refine stZ C hP hD hS 9 rfl vi_0_2 cn_0 d_Mo_forgetTold_47 (fun wT_9 ewT_9 H locs hP hD hS => ?_)
  have hP : va_P g.1 vwCl (wMo g mo a o now dr pa sa iS bu tqp2 rTp23 wT_9 wo sK sA sB sE oq bS bE bL rp) H := hP
  have hD : va_D (inW ws0) (wMo g mo a o now dr pa sa iS bu tqp2 rTp23 wT_9 wo sK sA sB sE oq bS bE bL rp) := hD
  have hz := lett_z hz ewT_9
  refine lv_aload_n hx hb d_Mo_forgetTold_48 rfl (lv_at hl 0 rfl) ?_
  refine gf C hP 0 16 fkMo rfl (by decide) rfl qf_Mo_40 (gMo_16 _ _) d_Mo_forgetTold_49 ?_
  refine lv_iconst (v := 1) hx hb d_Mo_forgetTold_52 (by decide) ?_
  refine lv_iconst (v := 0) hx hb d_Mo_forgetTold_53 (by decide) ?_
  refine stZ C hP hD hS 9 rfl vi_1_2 cn_1 d_Mo_forgetTold_54 (fun wT_10 ewT_10 H locs hP hD hS => ?_)
  have hP : va_P g.1 vwCl (wMo g mo a o now dr pa sa iS bu tqp2 rTp23 wT_10 wo sK sA sB sE oq bS bE bL rp) H := hP
  have hD : va_D (inW ws0) (wMo g mo a o now dr pa sa iS bu tqp2 rTp23 wT_10 wo sK sA sB sE oq bS bE bL rp) := hD
  have hz := lett_z hz ewT_10
  exact endV C hz hP hS d_Mo_forgetTold_55
noncomputable def bd_Mo_forgetTold_23 (wT : IV) (tqp2 : IV) (r23 : Int32 → IV → (IV × IV × IV)) (x1p23 : Int32) (rTp23 : IV) : IV × IV × IV := if (5 : Int32) ≤ x1p23 then (sp_Mo_forgetTold_41 wT tqp2 rTp23) else (lett (upd rTp23 x1p23.toNatClampNeg (vp_nar .boolean (0 : Int32))) fun (rT_7 : IV) => lett (x1p23 + (1 : Int32)) fun (v8 : Int32) => r23 v8 rT_7)
def okb_Mo_forgetTold_23 (wT : IV) (tqp2 : IV) (r23 : Int32 → IV → (IV × IV × IV)) (q23 : Int32 → IV → Prop) (x1p23 : Int32) (rTp23 : IV) : Prop := (((5 : Int32) ≤ x1p23 → True) ∧ (¬ ((5 : Int32) ≤ x1p23) → (vp_in x1p23 5) ∧ lett (upd rTp23 x1p23.toNatClampNeg (vp_nar .boolean (0 : Int32))) fun (rT_7 : IV) => lett (x1p23 + (1 : Int32)) fun (v8 : Int32) => q23 v8 rT_7))
noncomputable def sp_Mo_forgetTold_23 (wT : IV) (tqp2 : IV)  : Nat → Int32 → IV → (IV × IV × IV)
  | 0 => fun _ _ => default
  | f + 1 => bd_Mo_forgetTold_23 wT tqp2  (sp_Mo_forgetTold_23 wT tqp2  f)
def ok_Mo_forgetTold_23 (wT : IV) (tqp2 : IV)   : Nat → Int32 → IV → Prop
  | 0 => fun _ _ => False
  | f + 1 => okb_Mo_forgetTold_23 wT tqp2  (sp_Mo_forgetTold_23 wT tqp2  f)  (ok_Mo_forgetTold_23 wT tqp2   f)
set_option maxRecDepth 100000 in
set_option maxHeartbeats 4000000 in
theorem kb_Mo_forgetTold_23 {p : Program} {l : Launch} {e : Env} {s : State} {m : MethodId} {args : Array Value} {below : List Frame} {meth : Method} {c : Code} {g : GX} {mo : Nat} {a : Nat → Nat} {ws0 : va_W} {o : IV} {now : LV} {dr : LV} {pa : LV} {sa : LV} {iS : IV} {bu : IV} {tqp2 : IV} {wT : IV} {wo : Nat → Option Nat} {sK : IV} {sA : IV} {sB : IV} {sE : IV} {oq : IV} {bS : IV} {bE : IV} {bL : IV} {rp : IV}  (C : Cx p s m args meth c (inW ws0) g "DecadeBridgeModel" b_Mo_forgetTold none 2) {r23 : Int32 → IV → (IV × IV × IV)} {q23 : Int32 → IV → Prop}  (ih23 : HL_Mo_forgetTold_23 p l e s m args below meth c g mo a ws0 o now dr pa sa iS bu tqp2 wT wo sK sA sB sE oq bS bE bL rp r23 q23) : HL_Mo_forgetTold_23 p l e s m args below meth c g mo a ws0 o now dr pa sa iS bu tqp2 wT wo sK sA sB sE oq bS bE bL rp (bd_Mo_forgetTold_23 wT tqp2  r23) (okb_Mo_forgetTold_23 wT tqp2  r23  q23) := by
  intro x1p23 rTp23 hok z hz H locs ls hP hD hS hl
  obtain ⟨hx, hb, hr, hml, hown, hlk, hts, hK, hZo, hZ⟩ := id C
  unfold bd_Mo_forgetTold_23 at hz
  unfold okb_Mo_forgetTold_23 at hok
  refine lv_iload_n hx hb d_Mo_forgetTold_23 rfl (lv_at hl 1 rfl) ?_
  refine lv_iconst (v := 5) hx hb d_Mo_forgetTold_24 (by decide) ?_
  refine lv_icmp_ge (tgt := 41) hx hb d_Mo_forgetTold_25 (by decide) (fun c5 => ?_) (fun c5 => ?_)
  · have hz := hz.trans (if_pos c5)
    exact k_Mo_forgetTold_41 C () trivial _ hz _ _ ls hP hD hS (lv_sub hl [0] rfl)
  · have hz := hz.trans (if_neg c5)
    have hok := hok.2 c5
    refine lv_aload_n hx hb d_Mo_forgetTold_28 rfl (lv_at hl 0 rfl) ?_
    refine gf C hP 0 15 fkMo rfl (by decide) rfl qf_Mo_37 (gMo_15 _ _) d_Mo_forgetTold_29 ?_
    refine lv_iload_n hx hb d_Mo_forgetTold_32 rfl (lv_at hl 1 rfl) ?_
    refine lv_iconst (v := 0) hx hb d_Mo_forgetTold_33 (by decide) ?_
    have hs6 := hok.1
    have hok := hok.2
    refine stZ C hP hD hS 8 rfl hs6 rfl d_Mo_forgetTold_34 (fun rT_7 erT_7 H locs hP hD hS => ?_)
    have hP : va_P g.1 vwCl (wMo g mo a o now dr pa sa iS bu tqp2 rT_7 wT wo sK sA sB sE oq bS bE bL rp) H := hP
    have hD : va_D (inW ws0) (wMo g mo a o now dr pa sa iS bu tqp2 rT_7 wT wo sK sA sB sE oq bS bE bL rp) := hD
    have hz := lett_z hz erT_7
    have hok := lett_o hok erT_7
    obtain ⟨v8, ev8⟩ : ∃ y : Int32, y = x1p23 + (1 : Int32) := ⟨_, rfl⟩
    have hz := lett_z hz ev8
    have hok := lett_o hok ev8
    refine lv_iinc (v := v8) (lv' := [(1, .int v8), (0, .ref mo)]) hx hb d_Mo_forgetTold_35 hl (k := 1) rfl (by rw [ev8]; rfl) (by decide) rfl (fun ls hl => ?_)
    refine lv_goto (tgt := 23) hx hb d_Mo_forgetTold_38 (by decide) ?_
    exact ih23 v8 rT_7 hok _ hz _ _ ls hP hD hS (lv_sub hl [1, 0] rfl)
theorem k_Mo_forgetTold_23 {p : Program} {l : Launch} {e : Env} {s : State} {m : MethodId} {args : Array Value} {below : List Frame} {meth : Method} {c : Code} {g : GX} {mo : Nat} {a : Nat → Nat} {ws0 : va_W} {o : IV} {now : LV} {dr : LV} {pa : LV} {sa : LV} {iS : IV} {bu : IV} {tqp2 : IV} {wT : IV} {wo : Nat → Option Nat} {sK : IV} {sA : IV} {sB : IV} {sE : IV} {oq : IV} {bS : IV} {bE : IV} {bL : IV} {rp : IV}  (C : Cx p s m args meth c (inW ws0) g "DecadeBridgeModel" b_Mo_forgetTold none 2) (f : Nat)  : HL_Mo_forgetTold_23 p l e s m args below meth c g mo a ws0 o now dr pa sa iS bu tqp2 wT wo sK sA sB sE oq bS bE bL rp (sp_Mo_forgetTold_23 wT tqp2  f) (ok_Mo_forgetTold_23 wT tqp2   f) := by
  induction f with
  | zero => intro x1p23 rTp23 hok; exact False.elim hok
  | succ f ih => exact kb_Mo_forgetTold_23 C  ih
noncomputable def sp_Mo_forgetTold_21 (wT : IV) (tqp2 : IV) (rT : IV)   : IV × IV × IV := sp_Mo_forgetTold_23 wT tqp2 big (0 : Int32) rT
def ok_Mo_forgetTold_21 (wT : IV) (tqp2 : IV) (rT : IV)    : Prop := ok_Mo_forgetTold_23 wT tqp2 big (0 : Int32) rT
set_option maxRecDepth 100000 in
set_option maxHeartbeats 4000000 in
theorem k_Mo_forgetTold_21 {p : Program} {l : Launch} {e : Env} {s : State} {m : MethodId} {args : Array Value} {below : List Frame} {meth : Method} {c : Code} {g : GX} {mo : Nat} {a : Nat → Nat} {ws0 : va_W} {o : IV} {now : LV} {dr : LV} {pa : LV} {sa : LV} {iS : IV} {bu : IV} {tqp2 : IV} {rT : IV} {wT : IV} {wo : Nat → Option Nat} {sK : IV} {sA : IV} {sB : IV} {sE : IV} {oq : IV} {bS : IV} {bE : IV} {bL : IV} {rp : IV}  (C : Cx p s m args meth c (inW ws0) g "DecadeBridgeModel" b_Mo_forgetTold none 2)  : HL_Mo_forgetTold_21 p l e s m args below meth c g mo a ws0 o now dr pa sa iS bu tqp2 rT wT wo sK sA sB sE oq bS bE bL rp (sp_Mo_forgetTold_21 wT tqp2 rT ) (ok_Mo_forgetTold_21 wT tqp2 rT  ) := by
  intro _ hok z hz H locs ls hP hD hS hl
  obtain ⟨hx, hb, hr, hml, hown, hlk, hts, hK, hZo, hZ⟩ := id C
  unfold sp_Mo_forgetTold_21 at hz
  unfold ok_Mo_forgetTold_21 at hok
  refine lv_iconst (v := 0) hx hb d_Mo_forgetTold_21 (by decide) ?_
  refine lv_istore_n (lv' := [(1, .int (0 : Int32)), (0, .ref mo)]) hx hb d_Mo_forgetTold_22 rfl hl (by decide) rfl (fun ls hl => ?_)
  exact k_Mo_forgetTold_23 C big (0 : Int32) rT hok _ hz _ _ ls hP hD hS (lv_sub hl [1, 0] rfl)
noncomputable def bd_Mo_forgetTold_2 (wT : IV) (rT : IV) (r2 : Int32 → IV → (IV × IV × IV)) (x1p2 : Int32) (tqp2 : IV) : IV × IV × IV := if (6 : Int32) ≤ x1p2 then (sp_Mo_forgetTold_21 wT tqp2 rT) else (lett (upd tqp2 x1p2.toNatClampNeg (vp_nar .boolean (0 : Int32))) fun (tq_3 : IV) => lett (x1p2 + (1 : Int32)) fun (v4 : Int32) => r2 v4 tq_3)
def okb_Mo_forgetTold_2 (wT : IV) (rT : IV) (r2 : Int32 → IV → (IV × IV × IV)) (q2 : Int32 → IV → Prop) (x1p2 : Int32) (tqp2 : IV) : Prop := (((6 : Int32) ≤ x1p2 → ok_Mo_forgetTold_21 wT tqp2 rT) ∧ (¬ ((6 : Int32) ≤ x1p2) → (vp_in x1p2 6) ∧ lett (upd tqp2 x1p2.toNatClampNeg (vp_nar .boolean (0 : Int32))) fun (tq_3 : IV) => lett (x1p2 + (1 : Int32)) fun (v4 : Int32) => q2 v4 tq_3))
noncomputable def sp_Mo_forgetTold_2 (wT : IV) (rT : IV)  : Nat → Int32 → IV → (IV × IV × IV)
  | 0 => fun _ _ => default
  | f + 1 => bd_Mo_forgetTold_2 wT rT  (sp_Mo_forgetTold_2 wT rT  f)
def ok_Mo_forgetTold_2 (wT : IV) (rT : IV)   : Nat → Int32 → IV → Prop
  | 0 => fun _ _ => False
  | f + 1 => okb_Mo_forgetTold_2 wT rT  (sp_Mo_forgetTold_2 wT rT  f)  (ok_Mo_forgetTold_2 wT rT   f)
set_option maxRecDepth 100000 in
set_option maxHeartbeats 4000000 in
theorem kb_Mo_forgetTold_2 {p : Program} {l : Launch} {e : Env} {s : State} {m : MethodId} {args : Array Value} {below : List Frame} {meth : Method} {c : Code} {g : GX} {mo : Nat} {a : Nat → Nat} {ws0 : va_W} {o : IV} {now : LV} {dr : LV} {pa : LV} {sa : LV} {iS : IV} {bu : IV} {rT : IV} {wT : IV} {wo : Nat → Option Nat} {sK : IV} {sA : IV} {sB : IV} {sE : IV} {oq : IV} {bS : IV} {bE : IV} {bL : IV} {rp : IV}  (C : Cx p s m args meth c (inW ws0) g "DecadeBridgeModel" b_Mo_forgetTold none 2) {r2 : Int32 → IV → (IV × IV × IV)} {q2 : Int32 → IV → Prop}  (ih2 : HL_Mo_forgetTold_2 p l e s m args below meth c g mo a ws0 o now dr pa sa iS bu rT wT wo sK sA sB sE oq bS bE bL rp r2 q2) : HL_Mo_forgetTold_2 p l e s m args below meth c g mo a ws0 o now dr pa sa iS bu rT wT wo sK sA sB sE oq bS bE bL rp (bd_Mo_forgetTold_2 wT rT  r2) (okb_Mo_forgetTold_2 wT rT  r2  q2) := by
  intro x1p2 tqp2 hok z hz H locs ls hP hD hS hl
  obtain ⟨hx, hb, hr, hml, hown, hlk, hts, hK, hZo, hZ⟩ := id C
  unfold bd_Mo_forgetTold_2 at hz
  unfold okb_Mo_forgetTold_2 at hok
  refine lv_iload_n hx hb d_Mo_forgetTold_2 rfl (lv_at hl 1 rfl) ?_
  refine lv_bipush (v := 6) hx hb d_Mo_forgetTold_3 (by decide) ?_
  refine lv_icmp_ge (tgt := 21) hx hb d_Mo_forgetTold_5 (by decide) (fun c1 => ?_) (fun c1 => ?_)
  · have hz := hz.trans (if_pos c1)
    have hok := hok.1 c1
    exact k_Mo_forgetTold_21 C () hok _ hz _ _ ls hP hD hS (lv_sub hl [0] rfl)
  · have hz := hz.trans (if_neg c1)
    have hok := hok.2 c1
    refine lv_aload_n hx hb d_Mo_forgetTold_8 rfl (lv_at hl 0 rfl) ?_
    refine gf C hP 0 14 fkMo rfl (by decide) rfl qf_Mo_34 (gMo_14 _ _) d_Mo_forgetTold_9 ?_
    refine lv_iload_n hx hb d_Mo_forgetTold_12 rfl (lv_at hl 1 rfl) ?_
    refine lv_iconst (v := 0) hx hb d_Mo_forgetTold_13 (by decide) ?_
    have hs2 := hok.1
    have hok := hok.2
    refine stZ C hP hD hS 7 rfl hs2 rfl d_Mo_forgetTold_14 (fun tq_3 etq_3 H locs hP hD hS => ?_)
    have hP : va_P g.1 vwCl (wMo g mo a o now dr pa sa iS bu tq_3 rT wT wo sK sA sB sE oq bS bE bL rp) H := hP
    have hD : va_D (inW ws0) (wMo g mo a o now dr pa sa iS bu tq_3 rT wT wo sK sA sB sE oq bS bE bL rp) := hD
    have hz := lett_z hz etq_3
    have hok := lett_o hok etq_3
    obtain ⟨v4, ev4⟩ : ∃ y : Int32, y = x1p2 + (1 : Int32) := ⟨_, rfl⟩
    have hz := lett_z hz ev4
    have hok := lett_o hok ev4
    refine lv_iinc (v := v4) (lv' := [(1, .int v4), (0, .ref mo)]) hx hb d_Mo_forgetTold_15 hl (k := 1) rfl (by rw [ev4]; rfl) (by decide) rfl (fun ls hl => ?_)
    refine lv_goto (tgt := 2) hx hb d_Mo_forgetTold_18 (by decide) ?_
    exact ih2 v4 tq_3 hok _ hz _ _ ls hP hD hS (lv_sub hl [1, 0] rfl)
theorem k_Mo_forgetTold_2 {p : Program} {l : Launch} {e : Env} {s : State} {m : MethodId} {args : Array Value} {below : List Frame} {meth : Method} {c : Code} {g : GX} {mo : Nat} {a : Nat → Nat} {ws0 : va_W} {o : IV} {now : LV} {dr : LV} {pa : LV} {sa : LV} {iS : IV} {bu : IV} {rT : IV} {wT : IV} {wo : Nat → Option Nat} {sK : IV} {sA : IV} {sB : IV} {sE : IV} {oq : IV} {bS : IV} {bE : IV} {bL : IV} {rp : IV}  (C : Cx p s m args meth c (inW ws0) g "DecadeBridgeModel" b_Mo_forgetTold none 2) (f : Nat)  : HL_Mo_forgetTold_2 p l e s m args below meth c g mo a ws0 o now dr pa sa iS bu rT wT wo sK sA sB sE oq bS bE bL rp (sp_Mo_forgetTold_2 wT rT  f) (ok_Mo_forgetTold_2 wT rT   f) := by
  induction f with
  | zero => intro x1p2 tqp2 hok; exact False.elim hok
  | succ f ih => exact kb_Mo_forgetTold_2 C  ih
noncomputable def sp_Mo_forgetTold (tq : IV) (rT : IV) (wT : IV) : IV × IV × IV := sp_Mo_forgetTold_2 wT rT big (0 : Int32) tq
def ok_Mo_forgetTold (tq : IV) (rT : IV) (wT : IV) : Prop := ok_Mo_forgetTold_2 wT rT big (0 : Int32) tq
set_option maxRecDepth 100000 in
set_option maxHeartbeats 4000000 in
theorem c_Mo_forgetTold (l : Launch) (g : GX) (mo : Nat) (a : Nat → Nat) (o : IV) (now : LV) (dr : LV) (pa : LV) (sa : LV) (iS : IV) (bu : IV) (tq : IV) (rT : IV) (wT : IV) (wo : Nat → Option Nat) (sK : IV) (sA : IV) (sB : IV) (sE : IV) (oq : IV) (bS : IV) (bE : IV) (bL : IV) (rp : IV)  (hok : ok_Mo_forgetTold tq rT wT) : Met l y_Mo_forgetTold (wsY y_Mo_forgetTold b_Mo_forgetTold 2 none) rm_Mo_forgetTold (CP g [.ref mo] (wMo g mo a o now dr pa sa iS bu tq rT wT wo sK sA sB sE oq bS bE bL rp)) (CV g (wMo g mo a o now dr pa sa iS bu tq rT wT wo sK sA sB sE oq bS bE bL rp) (fun u : IV × IV × IV => wMo g mo a o now dr pa sa iS bu u.1 u.2.1 u.2.2 wo sK sA sB sE oq bS bE bL rp) (sp_Mo_forgetTold tq rT wT)) 0 0 (inW (wMo g mo a o now dr pa sa iS bu tq rT wT wo sK sA sB sE oq bS bE bL rp)) := by
  refine Met.ofW (cc := b_Mo_forgetTold) (maxL := 2) (ret := none) pn_Mo rfl ?_
  intro p e s m args below meth c s₁ B hml hv
  obtain ⟨rfl, C, hP, hD, hS⟩ := enter "DecadeBridgeModel" rfl B hml hv
  obtain ⟨hx, hb, hr, hml, hown, hlk, hts, hK, hZo, hZ⟩ := id C
  refine entryW (lv := [(0, .ref mo)]) rfl (Nat.le_of_ble_eq_true rfl) (fun ls hl => ?_)
  obtain ⟨z, hz⟩ : ∃ z, z = sp_Mo_forgetTold tq rT wT := ⟨_, rfl⟩
  rw [← hz]
  unfold sp_Mo_forgetTold at hz
  unfold ok_Mo_forgetTold at hok
  refine lv_iconst (v := 0) hx hb d_Mo_forgetTold_0 (by decide) ?_
  refine lv_istore_n (lv' := [(1, .int (0 : Int32)), (0, .ref mo)]) hx hb d_Mo_forgetTold_1 rfl hl (by decide) rfl (fun ls hl => ?_)
  exact k_Mo_forgetTold_2 C big (0 : Int32) tq hok _ hz _ _ ls hP hD hS (lv_sub hl [1, 0] rfl)
abbrev rm_Mo_errorPosition : Room := { frames := 0, cells := 0, slots := 0, locals := 0 }
noncomputable def sp_Mo_errorPosition (o : IV) : Int32 × IV := lett (upd o 6 (0 : Int32)) fun (o_1 : IV) => (o_1 13, o_1)
set_option maxRecDepth 100000 in
set_option maxHeartbeats 4000000 in
theorem c_Mo_errorPosition (l : Launch) (g : GX) (mo : Nat) (a : Nat → Nat) (o : IV) (now : LV) (dr : LV) (pa : LV) (sa : LV) (iS : IV) (bu : IV) (tq : IV) (rT : IV) (wT : IV) (wo : Nat → Option Nat) (sK : IV) (sA : IV) (sB : IV) (sE : IV) (oq : IV) (bS : IV) (bE : IV) (bL : IV) (rp : IV)  : Met l y_Mo_errorPosition (wsY y_Mo_errorPosition b_Mo_errorPosition 1 (some .int)) rm_Mo_errorPosition (CP g [.ref mo] (wMo g mo a o now dr pa sa iS bu tq rT wT wo sK sA sB sE oq bS bE bL rp)) (CI g (wMo g mo a o now dr pa sa iS bu tq rT wT wo sK sA sB sE oq bS bE bL rp) (fun u : IV => wMo g mo a u now dr pa sa iS bu tq rT wT wo sK sA sB sE oq bS bE bL rp) (sp_Mo_errorPosition o)) 0 0 (inW (wMo g mo a o now dr pa sa iS bu tq rT wT wo sK sA sB sE oq bS bE bL rp)) := by
  refine Met.ofW (cc := b_Mo_errorPosition) (maxL := 1) (ret := (some .int)) pn_Mo rfl ?_
  intro p e s m args below meth c s₁ B hml hv
  obtain ⟨rfl, C, hP, hD, hS⟩ := enter "DecadeBridgeModel" rfl B hml hv
  obtain ⟨hx, hb, hr, hml, hown, hlk, hts, hK, hZo, hZ⟩ := id C
  refine entryW (lv := [(0, .ref mo)]) rfl (Nat.le_of_ble_eq_true rfl) (fun ls hl => ?_)
  obtain ⟨z, hz⟩ : ∃ z, z = sp_Mo_errorPosition o := ⟨_, rfl⟩
  rw [← hz]
  unfold sp_Mo_errorPosition at hz
  refine lv_aload_n hx hb d_Mo_errorPosition_0 rfl (lv_at hl 0 rfl) ?_
  refine lv_iconst (v := 0) hx hb d_Mo_errorPosition_1 (by decide) ?_
  refine pfI C hP hD hS 0 6 fkMo rfl (by decide) rfl qf_Mo_107 rfl rfl rfl (Nat.le_of_ble_eq_true rfl) (ff := fun o => fMo a o) (sMo_6 _ _ _) d_Mo_errorPosition_2 (fun o_1 eo_1 H locs hP hD hS => ?_)
  have hP : va_P g.1 vwCl (wMo g mo a o_1 now dr pa sa iS bu tq rT wT wo sK sA sB sE oq bS bE bL rp) H := hP
  have hD : va_D (inW (wMo g mo a o now dr pa sa iS bu tq rT wT wo sK sA sB sE oq bS bE bL rp)) (wMo g mo a o_1 now dr pa sa iS bu tq rT wT wo sK sA sB sE oq bS bE bL rp) := hD
  have hz := lett_z hz eo_1
  refine lv_aload_n hx hb d_Mo_errorPosition_5 rfl (lv_at hl 0 rfl) ?_
  refine gf C hP 0 13 fkMo rfl (by decide) rfl qf_Mo_30 (gMo_13 _ _) d_Mo_errorPosition_6 ?_
  exact endI1 C hz hP hS d_Mo_errorPosition_9
abbrev rm_Mo_isAlike : Room := { frames := 1, cells := 0, slots := 0, locals := 22 }
def HL_Mo_isAlike_52 (p : Program) (l : Launch) (e : Env) (s : State) (m : MethodId) (args : Array Value) (below : List Frame) (meth : Method) (c : Code) (g : GX) (mo : Nat) (a : Nat → Nat) (o : IV) (now : LV) (dr : LV) (pa : LV) (sa : LV) (iS : IV) (bu : IV) (tq : IV) (rT : IV) (wT : IV) (wo : Nat → Option Nat) (sK : IV) (sA : IV) (sB : IV) (sE : IV) (oq : IV) (bS : IV) (bE : IV) (bL : IV) (rp : IV) (sp : Int32) (ok : Prop) : Prop := ∀ (_ : Unit), ok → ∀ z : Int32, z = sp → ∀ (H : Heap) (locs : List Loc) (ls : Array Slot), va_P g.1 vwCl (wMo g mo a o now dr pa sa iS bu tq rT wT wo sK sA sB sE oq bS bE bL rp) H → va_D (inW (wMo g mo a o now dr pa sa iS bu tq rT wT wo sK sA sB sE oq bS bE bL rp)) (wMo g mo a o now dr pa sa iS bu tq rT wT wo sK sA sB sE oq bS bE bL rp) → va_S (inW (wMo g mo a o now dr pa sa iS bu tq rT wT wo sK sA sB sE oq bS bE bL rp)) s.heap H locs → lv_has ls 3 [] → W p l e rm_Mo_isAlike s m args below meth c H locs 0 0 (MQ below (CI0 g (wMo g mo a o now dr pa sa iS bu tq rT wT wo sK sA sB sE oq bS bE bL rp) z) args s 0 0 (inW (wMo g mo a o now dr pa sa iS bu tq rT wT wo sK sA sB sE oq bS bE bL rp))) (F0 m 52 ls [])
noncomputable def sp_Mo_isAlike_52    : Int32 := (0 : Int32)
def ok_Mo_isAlike_52     : Prop := True
set_option maxRecDepth 100000 in
set_option maxHeartbeats 4000000 in
theorem k_Mo_isAlike_52 {p : Program} {l : Launch} {e : Env} {s : State} {m : MethodId} {args : Array Value} {below : List Frame} {meth : Method} {c : Code} {g : GX} {mo : Nat} {a : Nat → Nat} {o : IV} {now : LV} {dr : LV} {pa : LV} {sa : LV} {iS : IV} {bu : IV} {tq : IV} {rT : IV} {wT : IV} {wo : Nat → Option Nat} {sK : IV} {sA : IV} {sB : IV} {sE : IV} {oq : IV} {bS : IV} {bE : IV} {bL : IV} {rp : IV}  (C : Cx p s m args meth c (inW (wMo g mo a o now dr pa sa iS bu tq rT wT wo sK sA sB sE oq bS bE bL rp)) g "DecadeBridgeModel" b_Mo_isAlike (some .boolean) 3)  : HL_Mo_isAlike_52 p l e s m args below meth c g mo a o now dr pa sa iS bu tq rT wT wo sK sA sB sE oq bS bE bL rp (sp_Mo_isAlike_52  ) (ok_Mo_isAlike_52   ) := by
  intro _ hok z hz H locs ls hP hD hS hl
  obtain ⟨hx, hb, hr, hml, hown, hlk, hts, hK, hZo, hZ⟩ := id C
  unfold sp_Mo_isAlike_52 at hz
  refine lv_iconst (v := 0) hx hb d_Mo_isAlike_52 (by decide) ?_
  exact endZ0 C hz hP hS rfl d_Mo_isAlike_53
noncomputable def sp_Mo_isAlike (p1 : Int32) (p2 : Int32) (now : LV) : Int32 := lett (sp_Mo_ofResult p1 (0 : Int32) now) fun (y2 : Int64) => lett (sp_Mo_ofResult p2 (0 : Int32) now) fun (y4 : Int64) => if y2 = y4 then (lett (sp_Mo_ofResult p1 (1 : Int32) now) fun (y7 : Int64) => lett (sp_Mo_ofResult p2 (1 : Int32) now) fun (y9 : Int64) => if y7 = y9 then (lett (sp_Mo_ofResult p1 (2 : Int32) now) fun (y12 : Int64) => lett (sp_Mo_ofResult p2 (2 : Int32) now) fun (y14 : Int64) => if y12 = y14 then ((1 : Int32)) else (sp_Mo_isAlike_52)) else (sp_Mo_isAlike_52)) else (sp_Mo_isAlike_52)
def ok_Mo_isAlike (p1 : Int32) (p2 : Int32) (now : LV) : Prop := (ok_Mo_ofResult p1 (0 : Int32)) ∧ lett (sp_Mo_ofResult p1 (0 : Int32) now) fun (y2 : Int64) => (ok_Mo_ofResult p2 (0 : Int32)) ∧ lett (sp_Mo_ofResult p2 (0 : Int32) now) fun (y4 : Int64) => ((y2 = y4 → (ok_Mo_ofResult p1 (1 : Int32)) ∧ lett (sp_Mo_ofResult p1 (1 : Int32) now) fun (y7 : Int64) => (ok_Mo_ofResult p2 (1 : Int32)) ∧ lett (sp_Mo_ofResult p2 (1 : Int32) now) fun (y9 : Int64) => ((y7 = y9 → (ok_Mo_ofResult p1 (2 : Int32)) ∧ lett (sp_Mo_ofResult p1 (2 : Int32) now) fun (y12 : Int64) => (ok_Mo_ofResult p2 (2 : Int32)) ∧ True) ∧ (¬ (y7 = y9) → True))) ∧ (¬ (y2 = y4) → True))
set_option maxRecDepth 100000 in
set_option maxHeartbeats 4000000 in
theorem c_Mo_isAlike (l : Launch) (g : GX) (mo : Nat) (a : Nat → Nat) (o : IV) (now : LV) (dr : LV) (pa : LV) (sa : LV) (iS : IV) (bu : IV) (tq : IV) (rT : IV) (wT : IV) (wo : Nat → Option Nat) (sK : IV) (sA : IV) (sB : IV) (sE : IV) (oq : IV) (bS : IV) (bE : IV) (bL : IV) (rp : IV) (p1 : Int32) (p2 : Int32) (hok : ok_Mo_isAlike p1 p2 now) : Met l y_Mo_isAlike (wsY y_Mo_isAlike b_Mo_isAlike 3 (some .boolean)) rm_Mo_isAlike (CP g [.ref mo, .int p1, .int p2] (wMo g mo a o now dr pa sa iS bu tq rT wT wo sK sA sB sE oq bS bE bL rp)) (CI0 g (wMo g mo a o now dr pa sa iS bu tq rT wT wo sK sA sB sE oq bS bE bL rp) (sp_Mo_isAlike p1 p2 now)) 0 0 (inW (wMo g mo a o now dr pa sa iS bu tq rT wT wo sK sA sB sE oq bS bE bL rp)) := by
  refine Met.ofW (cc := b_Mo_isAlike) (maxL := 3) (ret := (some .boolean)) pn_Mo rfl ?_
  intro p e s m args below meth c s₁ B hml hv
  obtain ⟨rfl, C, hP, hD, hS⟩ := enter "DecadeBridgeModel" rfl B hml hv
  obtain ⟨hx, hb, hr, hml, hown, hlk, hts, hK, hZo, hZ⟩ := id C
  refine entryW (lv := [(0, .ref mo), (1, .int p1), (2, .int p2)]) rfl (Nat.le_of_ble_eq_true rfl) (fun ls hl => ?_)
  obtain ⟨z, hz⟩ : ∃ z, z = sp_Mo_isAlike p1 p2 now := ⟨_, rfl⟩
  rw [← hz]
  unfold sp_Mo_isAlike at hz
  unfold ok_Mo_isAlike at hok
  refine lv_aload_n hx hb d_Mo_isAlike_0 rfl (lv_at hl 0 rfl) ?_
  refine lv_iload_n hx hb d_Mo_isAlike_1 rfl (lv_at hl 1 rfl) ?_
  refine lv_iconst (v := 0) hx hb d_Mo_isAlike_2 (by decide) ?_
  have hs1 := hok.1
  have hok := hok.2
  have hB : SubW g (inW (wMo g mo a o now dr pa sa iS bu tq rT wT wo sK sA sB sE oq bS bE bL rp)) s (wMo g mo a o now dr pa sa iS bu tq rT wT wo sK sA sB sE oq bS bE bL rp) _ (List.range _) _ _ := (subF hP hD hS)
  refine goL0 hB (run_v C mf_Mo_ofResult qm_Mo_406 (c_Mo_ofResult l g mo a o now dr pa sa iS bu tq rT wT wo sK sA sB sE oq bS bE bL rp p1 (0 : Int32) hs1) rfl rfl ⟨Nat.le_of_ble_eq_true rfl, Nat.le_of_ble_eq_true rfl⟩ ⟨Nat.le_of_ble_eq_true rfl, Nat.le_of_ble_eq_true rfl⟩ hB rfl rfl hl rfl rfl (Nat.le_of_ble_eq_true rfl) d_Mo_isAlike_3) (fun y2 ey2 H locs hP hS => ?_)
  have hz := lett_z hz ey2
  have hok := lett_o hok ey2
  refine lv_aload_n hx hb d_Mo_isAlike_6 rfl (lv_at hl 0 rfl) ?_
  refine lv_iload_n hx hb d_Mo_isAlike_7 rfl (lv_at hl 2 rfl) ?_
  refine lv_iconst (v := 0) hx hb d_Mo_isAlike_8 (by decide) ?_
  have hs3 := hok.1
  have hok := hok.2
  have hB : SubW g (inW (wMo g mo a o now dr pa sa iS bu tq rT wT wo sK sA sB sE oq bS bE bL rp)) s (wMo g mo a o now dr pa sa iS bu tq rT wT wo sK sA sB sE oq bS bE bL rp) _ (List.range _) _ _ := (subF hP hD hS)
  refine goL0 hB (run_v C mf_Mo_ofResult qm_Mo_406 (c_Mo_ofResult l g mo a o now dr pa sa iS bu tq rT wT wo sK sA sB sE oq bS bE bL rp p2 (0 : Int32) hs3) rfl rfl ⟨Nat.le_of_ble_eq_true rfl, Nat.le_of_ble_eq_true rfl⟩ ⟨Nat.le_of_ble_eq_true rfl, Nat.le_of_ble_eq_true rfl⟩ hB rfl rfl hl rfl rfl (Nat.le_of_ble_eq_true rfl) d_Mo_isAlike_9) (fun y4 ey4 H locs hP hS => ?_)
  have hz := lett_z hz ey4
  have hok := lett_o hok ey4
  refine lc_ne (tgt := 52) hx hb d_Mo_isAlike_12 d_Mo_isAlike_13 (by decide) (fun c5 => ?_) (fun c5 => ?_)
  · have hz := hz.trans (if_neg c5)
    exact k_Mo_isAlike_52 C () trivial _ hz _ _ ls hP hD hS (lv_sub hl [] rfl)
  · have hz := hz.trans (if_pos c5)
    have hok := hok.1 c5
    refine lv_aload_n hx hb d_Mo_isAlike_16 rfl (lv_at hl 0 rfl) ?_
    refine lv_iload_n hx hb d_Mo_isAlike_17 rfl (lv_at hl 1 rfl) ?_
    refine lv_iconst (v := 1) hx hb d_Mo_isAlike_18 (by decide) ?_
    have hs6 := hok.1
    have hok := hok.2
    have hB : SubW g (inW (wMo g mo a o now dr pa sa iS bu tq rT wT wo sK sA sB sE oq bS bE bL rp)) s (wMo g mo a o now dr pa sa iS bu tq rT wT wo sK sA sB sE oq bS bE bL rp) _ (List.range _) _ _ := (subF hP hD hS)
    refine goL0 hB (run_v C mf_Mo_ofResult qm_Mo_406 (c_Mo_ofResult l g mo a o now dr pa sa iS bu tq rT wT wo sK sA sB sE oq bS bE bL rp p1 (1 : Int32) hs6) rfl rfl ⟨Nat.le_of_ble_eq_true rfl, Nat.le_of_ble_eq_true rfl⟩ ⟨Nat.le_of_ble_eq_true rfl, Nat.le_of_ble_eq_true rfl⟩ hB rfl rfl hl rfl rfl (Nat.le_of_ble_eq_true rfl) d_Mo_isAlike_19) (fun y7 ey7 H locs hP hS => ?_)
    have hz := lett_z hz ey7
    have hok := lett_o hok ey7
    refine lv_aload_n hx hb d_Mo_isAlike_22 rfl (lv_at hl 0 rfl) ?_
    refine lv_iload_n hx hb d_Mo_isAlike_23 rfl (lv_at hl 2 rfl) ?_
    refine lv_iconst (v := 1) hx hb d_Mo_isAlike_24 (by decide) ?_
    have hs8 := hok.1
    have hok := hok.2
    have hB : SubW g (inW (wMo g mo a o now dr pa sa iS bu tq rT wT wo sK sA sB sE oq bS bE bL rp)) s (wMo g mo a o now dr pa sa iS bu tq rT wT wo sK sA sB sE oq bS bE bL rp) _ (List.range _) _ _ := (subF hP hD hS)
    refine goL0 hB (run_v C mf_Mo_ofResult qm_Mo_406 (c_Mo_ofResult l g mo a o now dr pa sa iS bu tq rT wT wo sK sA sB sE oq bS bE bL rp p2 (1 : Int32) hs8) rfl rfl ⟨Nat.le_of_ble_eq_true rfl, Nat.le_of_ble_eq_true rfl⟩ ⟨Nat.le_of_ble_eq_true rfl, Nat.le_of_ble_eq_true rfl⟩ hB rfl rfl hl rfl rfl (Nat.le_of_ble_eq_true rfl) d_Mo_isAlike_25) (fun y9 ey9 H locs hP hS => ?_)
    have hz := lett_z hz ey9
    have hok := lett_o hok ey9
    refine lc_ne (tgt := 52) hx hb d_Mo_isAlike_28 d_Mo_isAlike_29 (by decide) (fun c10 => ?_) (fun c10 => ?_)
    · have hz := hz.trans (if_neg c10)
      exact k_Mo_isAlike_52 C () trivial _ hz _ _ ls hP hD hS (lv_sub hl [] rfl)
    · have hz := hz.trans (if_pos c10)
      have hok := hok.1 c10
      refine lv_aload_n hx hb d_Mo_isAlike_32 rfl (lv_at hl 0 rfl) ?_
      refine lv_iload_n hx hb d_Mo_isAlike_33 rfl (lv_at hl 1 rfl) ?_
      refine lv_iconst (v := 2) hx hb d_Mo_isAlike_34 (by decide) ?_
      have hs11 := hok.1
      have hok := hok.2
      have hB : SubW g (inW (wMo g mo a o now dr pa sa iS bu tq rT wT wo sK sA sB sE oq bS bE bL rp)) s (wMo g mo a o now dr pa sa iS bu tq rT wT wo sK sA sB sE oq bS bE bL rp) _ (List.range _) _ _ := (subF hP hD hS)
      refine goL0 hB (run_v C mf_Mo_ofResult qm_Mo_406 (c_Mo_ofResult l g mo a o now dr pa sa iS bu tq rT wT wo sK sA sB sE oq bS bE bL rp p1 (2 : Int32) hs11) rfl rfl ⟨Nat.le_of_ble_eq_true rfl, Nat.le_of_ble_eq_true rfl⟩ ⟨Nat.le_of_ble_eq_true rfl, Nat.le_of_ble_eq_true rfl⟩ hB rfl rfl hl rfl rfl (Nat.le_of_ble_eq_true rfl) d_Mo_isAlike_35) (fun y12 ey12 H locs hP hS => ?_)
      have hz := lett_z hz ey12
      have hok := lett_o hok ey12
      refine lv_aload_n hx hb d_Mo_isAlike_38 rfl (lv_at hl 0 rfl) ?_
      refine lv_iload_n hx hb d_Mo_isAlike_39 rfl (lv_at hl 2 rfl) ?_
      refine lv_iconst (v := 2) hx hb d_Mo_isAlike_40 (by decide) ?_
      have hs13 := hok.1
      have hok := hok.2
      have hB : SubW g (inW (wMo g mo a o now dr pa sa iS bu tq rT wT wo sK sA sB sE oq bS bE bL rp)) s (wMo g mo a o now dr pa sa iS bu tq rT wT wo sK sA sB sE oq bS bE bL rp) _ (List.range _) _ _ := (subF hP hD hS)
      refine goL0 hB (run_v C mf_Mo_ofResult qm_Mo_406 (c_Mo_ofResult l g mo a o now dr pa sa iS bu tq rT wT wo sK sA sB sE oq bS bE bL rp p2 (2 : Int32) hs13) rfl rfl ⟨Nat.le_of_ble_eq_true rfl, Nat.le_of_ble_eq_true rfl⟩ ⟨Nat.le_of_ble_eq_true rfl, Nat.le_of_ble_eq_true rfl⟩ hB rfl rfl hl rfl rfl (Nat.le_of_ble_eq_true rfl) d_Mo_isAlike_41) (fun y14 ey14 H locs hP hS => ?_)
      have hz := lett_z hz ey14
      refine lc_ne (tgt := 52) hx hb d_Mo_isAlike_44 d_Mo_isAlike_45 (by decide) (fun c15 => ?_) (fun c15 => ?_)
      · have hz := hz.trans (if_neg c15)
        exact k_Mo_isAlike_52 C () trivial _ hz _ _ ls hP hD hS (lv_sub hl [] rfl)
      · have hz := hz.trans (if_pos c15)
        refine lv_iconst (v := 1) hx hb d_Mo_isAlike_48 (by decide) ?_
        refine lv_goto (tgt := 53) hx hb d_Mo_isAlike_49 (by decide) ?_
        exact endZ0 C hz hP hS rfl d_Mo_isAlike_53
abbrev rm_Mo_earliest : Room := { frames := 2, cells := 0, slots := 0, locals := 44 }
def HL_Mo_earliest_2 (p : Program) (l : Launch) (e : Env) (s : State) (m : MethodId) (args : Array Value) (below : List Frame) (meth : Method) (c : Code) (g : GX) (mo : Nat) (a : Nat → Nat) (o : IV) (now : LV) (dr : LV) (pa : LV) (sa : LV) (iS : IV) (bu : IV) (tq : IV) (rT : IV) (wT : IV) (wo : Nat → Option Nat) (sK : IV) (sA : IV) (sB : IV) (sE : IV) (oq : IV) (bS : IV) (bE : IV) (bL : IV) (rp : IV) (p1 : Int32) (sp : Int32 → Int32) (ok : Int32 → Prop) : Prop := ∀ (x2p2 : Int32), ok x2p2 → ∀ z : Int32, z = sp x2p2 → ∀ (H : Heap) (locs : List Loc) (ls : Array Slot), va_P g.1 vwCl (wMo g mo a o now dr pa sa iS bu tq rT wT wo sK sA sB sE oq bS bE bL rp) H → va_D (inW (wMo g mo a o now dr pa sa iS bu tq rT wT wo sK sA sB sE oq bS bE bL rp)) (wMo g mo a o now dr pa sa iS bu tq rT wT wo sK sA sB sE oq bS bE bL rp) → va_S (inW (wMo g mo a o now dr pa sa iS bu tq rT wT wo sK sA sB sE oq bS bE bL rp)) s.heap H locs → lv_has ls 3 [(0, .ref mo), (1, .int p1), (2, .int x2p2)] → W p l e rm_Mo_earliest s m args below meth c H locs 0 0 (MQ below (CI0 g (wMo g mo a o now dr pa sa iS bu tq rT wT wo sK sA sB sE oq bS bE bL rp) z) args s 0 0 (inW (wMo g mo a o now dr pa sa iS bu tq rT wT wo sK sA sB sE oq bS bE bL rp))) (F0 m 2 ls [])
noncomputable def bd_Mo_earliest_2 (p1 : Int32) (now : LV) (r2 : Int32 → Int32) (x2p2 : Int32) : Int32 := lett (sp_Mo_isAlike x2p2 p1 now) fun (y2 : Int32) => if y2 = 0 then (lett (x2p2 + (1 : Int32)) fun (v4 : Int32) => r2 v4) else (x2p2)
def okb_Mo_earliest_2 (p1 : Int32) (now : LV) (r2 : Int32 → Int32) (q2 : Int32 → Prop) (x2p2 : Int32) : Prop := (ok_Mo_isAlike x2p2 p1 now) ∧ lett (sp_Mo_isAlike x2p2 p1 now) fun (y2 : Int32) => ((y2 = 0 → lett (x2p2 + (1 : Int32)) fun (v4 : Int32) => q2 v4) ∧ (¬ (y2 = 0) → True))
noncomputable def sp_Mo_earliest_2 (p1 : Int32) (now : LV)  : Nat → Int32 → Int32
  | 0 => fun _ => default
  | f + 1 => bd_Mo_earliest_2 p1 now  (sp_Mo_earliest_2 p1 now  f)
def ok_Mo_earliest_2 (p1 : Int32) (now : LV)   : Nat → Int32 → Prop
  | 0 => fun _ => False
  | f + 1 => okb_Mo_earliest_2 p1 now  (sp_Mo_earliest_2 p1 now  f)  (ok_Mo_earliest_2 p1 now   f)
set_option maxRecDepth 100000 in
set_option maxHeartbeats 4000000 in
theorem kb_Mo_earliest_2 {p : Program} {l : Launch} {e : Env} {s : State} {m : MethodId} {args : Array Value} {below : List Frame} {meth : Method} {c : Code} {g : GX} {mo : Nat} {a : Nat → Nat} {o : IV} {now : LV} {dr : LV} {pa : LV} {sa : LV} {iS : IV} {bu : IV} {tq : IV} {rT : IV} {wT : IV} {wo : Nat → Option Nat} {sK : IV} {sA : IV} {sB : IV} {sE : IV} {oq : IV} {bS : IV} {bE : IV} {bL : IV} {rp : IV} {p1 : Int32}  (C : Cx p s m args meth c (inW (wMo g mo a o now dr pa sa iS bu tq rT wT wo sK sA sB sE oq bS bE bL rp)) g "DecadeBridgeModel" b_Mo_earliest (some .int) 3) {r2 : Int32 → Int32} {q2 : Int32 → Prop}  (ih2 : HL_Mo_earliest_2 p l e s m args below meth c g mo a o now dr pa sa iS bu tq rT wT wo sK sA sB sE oq bS bE bL rp p1 r2 q2) : HL_Mo_earliest_2 p l e s m args below meth c g mo a o now dr pa sa iS bu tq rT wT wo sK sA sB sE oq bS bE bL rp p1 (bd_Mo_earliest_2 p1 now  r2) (okb_Mo_earliest_2 p1 now  r2  q2) := by
  intro x2p2 hok z hz H locs ls hP hD hS hl
  obtain ⟨hx, hb, hr, hml, hown, hlk, hts, hK, hZo, hZ⟩ := id C
  unfold bd_Mo_earliest_2 at hz
  unfold okb_Mo_earliest_2 at hok
  refine lv_aload_n hx hb d_Mo_earliest_2 rfl (lv_at hl 0 rfl) ?_
  refine lv_iload_n hx hb d_Mo_earliest_3 rfl (lv_at hl 2 rfl) ?_
  refine lv_iload_n hx hb d_Mo_earliest_4 rfl (lv_at hl 1 rfl) ?_
  have hs1 := hok.1
  have hok := hok.2
  have hB : SubW g (inW (wMo g mo a o now dr pa sa iS bu tq rT wT wo sK sA sB sE oq bS bE bL rp)) s (wMo g mo a o now dr pa sa iS bu tq rT wT wo sK sA sB sE oq bS bE bL rp) _ (List.range _) _ _ := (subF hP hD hS)
  refine goI0 hB (run_v C mf_Mo_isAlike qm_Mo_410 (c_Mo_isAlike l g mo a o now dr pa sa iS bu tq rT wT wo sK sA sB sE oq bS bE bL rp x2p2 p1 hs1) rfl rfl ⟨Nat.le_of_ble_eq_true rfl, Nat.le_of_ble_eq_true rfl⟩ ⟨Nat.le_of_ble_eq_true rfl, Nat.le_of_ble_eq_true rfl⟩ hB rfl rfl hl rfl rfl (Nat.le_of_ble_eq_true rfl) d_Mo_earliest_5) (fun y2 ey2 H locs hP hS => ?_)
  have hz := lett_z hz ey2
  have hok := lett_o hok ey2
  refine lv_if_ne (tgt := 17) hx hb d_Mo_earliest_8 (by decide) (fun c3 => ?_) (fun c3 => ?_)
  · have hz := hz.trans (if_neg c3)
    refine lv_iload_n hx hb d_Mo_earliest_17 rfl (lv_at hl 2 rfl) ?_
    exact endI0 C hz hP hS d_Mo_earliest_18
  · have hz := hz.trans (if_pos c3)
    have hok := hok.1 c3
    obtain ⟨v4, ev4⟩ : ∃ y : Int32, y = x2p2 + (1 : Int32) := ⟨_, rfl⟩
    have hz := lett_z hz ev4
    have hok := lett_o hok ev4
    refine lv_iinc (v := v4) (lv' := [(2, .int v4), (0, .ref mo), (1, .int p1)]) hx hb d_Mo_earliest_11 hl (k := 2) rfl (by rw [ev4]; rfl) (by decide) rfl (fun ls hl => ?_)
    refine lv_goto (tgt := 2) hx hb d_Mo_earliest_14 (by decide) ?_
    exact ih2 v4 hok _ hz _ _ ls hP hD hS (lv_sub hl [1, 2, 0] rfl)
theorem k_Mo_earliest_2 {p : Program} {l : Launch} {e : Env} {s : State} {m : MethodId} {args : Array Value} {below : List Frame} {meth : Method} {c : Code} {g : GX} {mo : Nat} {a : Nat → Nat} {o : IV} {now : LV} {dr : LV} {pa : LV} {sa : LV} {iS : IV} {bu : IV} {tq : IV} {rT : IV} {wT : IV} {wo : Nat → Option Nat} {sK : IV} {sA : IV} {sB : IV} {sE : IV} {oq : IV} {bS : IV} {bE : IV} {bL : IV} {rp : IV} {p1 : Int32}  (C : Cx p s m args meth c (inW (wMo g mo a o now dr pa sa iS bu tq rT wT wo sK sA sB sE oq bS bE bL rp)) g "DecadeBridgeModel" b_Mo_earliest (some .int) 3) (f : Nat)  : HL_Mo_earliest_2 p l e s m args below meth c g mo a o now dr pa sa iS bu tq rT wT wo sK sA sB sE oq bS bE bL rp p1 (sp_Mo_earliest_2 p1 now  f) (ok_Mo_earliest_2 p1 now   f) := by
  induction f with
  | zero => intro x2p2 hok; exact False.elim hok
  | succ f ih => exact kb_Mo_earliest_2 C  ih
noncomputable def sp_Mo_earliest (p1 : Int32) (now : LV) : Int32 := sp_Mo_earliest_2 p1 now big (0 : Int32)
def ok_Mo_earliest (p1 : Int32) (now : LV) : Prop := ok_Mo_earliest_2 p1 now big (0 : Int32)
set_option maxRecDepth 100000 in
set_option maxHeartbeats 4000000 in
theorem c_Mo_earliest (l : Launch) (g : GX) (mo : Nat) (a : Nat → Nat) (o : IV) (now : LV) (dr : LV) (pa : LV) (sa : LV) (iS : IV) (bu : IV) (tq : IV) (rT : IV) (wT : IV) (wo : Nat → Option Nat) (sK : IV) (sA : IV) (sB : IV) (sE : IV) (oq : IV) (bS : IV) (bE : IV) (bL : IV) (rp : IV) (p1 : Int32) (hok : ok_Mo_earliest p1 now) : Met l y_Mo_earliest (wsY y_Mo_earliest b_Mo_earliest 3 (some .int)) rm_Mo_earliest (CP g [.ref mo, .int p1] (wMo g mo a o now dr pa sa iS bu tq rT wT wo sK sA sB sE oq bS bE bL rp)) (CI0 g (wMo g mo a o now dr pa sa iS bu tq rT wT wo sK sA sB sE oq bS bE bL rp) (sp_Mo_earliest p1 now)) 0 0 (inW (wMo g mo a o now dr pa sa iS bu tq rT wT wo sK sA sB sE oq bS bE bL rp)) := by
  refine Met.ofW (cc := b_Mo_earliest) (maxL := 3) (ret := (some .int)) pn_Mo rfl ?_
  intro p e s m args below meth c s₁ B hml hv
  obtain ⟨rfl, C, hP, hD, hS⟩ := enter "DecadeBridgeModel" rfl B hml hv
  obtain ⟨hx, hb, hr, hml, hown, hlk, hts, hK, hZo, hZ⟩ := id C
  refine entryW (lv := [(0, .ref mo), (1, .int p1)]) rfl (Nat.le_of_ble_eq_true rfl) (fun ls hl => ?_)
  obtain ⟨z, hz⟩ : ∃ z, z = sp_Mo_earliest p1 now := ⟨_, rfl⟩
  rw [← hz]
  unfold sp_Mo_earliest at hz
  unfold ok_Mo_earliest at hok
  refine lv_iconst (v := 0) hx hb d_Mo_earliest_0 (by decide) ?_
  refine lv_istore_n (lv' := [(2, .int (0 : Int32)), (0, .ref mo), (1, .int p1)]) hx hb d_Mo_earliest_1 rfl hl (by decide) rfl (fun ls hl => ?_)
  exact k_Mo_earliest_2 C big (0 : Int32) hok _ hz _ _ ls hP hD hS (lv_sub hl [1, 2, 0] rfl)
abbrev rm_Mo_isEarliest : Room := { frames := 3, cells := 0, slots := 0, locals := 66 }
noncomputable def sp_Mo_isEarliest (p1 : Int32) (now : LV) : Int32 := lett (sp_Mo_earliest p1 now) fun (y2 : Int32) => if y2 = p1 then ((1 : Int32)) else ((0 : Int32))
def ok_Mo_isEarliest (p1 : Int32) (now : LV) : Prop := (ok_Mo_earliest p1 now) ∧ True
set_option maxRecDepth 100000 in
set_option maxHeartbeats 4000000 in
theorem c_Mo_isEarliest (l : Launch) (g : GX) (mo : Nat) (a : Nat → Nat) (o : IV) (now : LV) (dr : LV) (pa : LV) (sa : LV) (iS : IV) (bu : IV) (tq : IV) (rT : IV) (wT : IV) (wo : Nat → Option Nat) (sK : IV) (sA : IV) (sB : IV) (sE : IV) (oq : IV) (bS : IV) (bE : IV) (bL : IV) (rp : IV) (p1 : Int32) (hok : ok_Mo_isEarliest p1 now) : Met l y_Mo_isEarliest (wsY y_Mo_isEarliest b_Mo_isEarliest 2 (some .boolean)) rm_Mo_isEarliest (CP g [.ref mo, .int p1] (wMo g mo a o now dr pa sa iS bu tq rT wT wo sK sA sB sE oq bS bE bL rp)) (CI0 g (wMo g mo a o now dr pa sa iS bu tq rT wT wo sK sA sB sE oq bS bE bL rp) (sp_Mo_isEarliest p1 now)) 0 0 (inW (wMo g mo a o now dr pa sa iS bu tq rT wT wo sK sA sB sE oq bS bE bL rp)) := by
  refine Met.ofW (cc := b_Mo_isEarliest) (maxL := 2) (ret := (some .boolean)) pn_Mo rfl ?_
  intro p e s m args below meth c s₁ B hml hv
  obtain ⟨rfl, C, hP, hD, hS⟩ := enter "DecadeBridgeModel" rfl B hml hv
  obtain ⟨hx, hb, hr, hml, hown, hlk, hts, hK, hZo, hZ⟩ := id C
  refine entryW (lv := [(0, .ref mo), (1, .int p1)]) rfl (Nat.le_of_ble_eq_true rfl) (fun ls hl => ?_)
  obtain ⟨z, hz⟩ : ∃ z, z = sp_Mo_isEarliest p1 now := ⟨_, rfl⟩
  rw [← hz]
  unfold sp_Mo_isEarliest at hz
  unfold ok_Mo_isEarliest at hok
  refine lv_aload_n hx hb d_Mo_isEarliest_0 rfl (lv_at hl 0 rfl) ?_
  refine lv_iload_n hx hb d_Mo_isEarliest_1 rfl (lv_at hl 1 rfl) ?_
  have hs1 := hok.1
  have hok := hok.2
  have hB : SubW g (inW (wMo g mo a o now dr pa sa iS bu tq rT wT wo sK sA sB sE oq bS bE bL rp)) s (wMo g mo a o now dr pa sa iS bu tq rT wT wo sK sA sB sE oq bS bE bL rp) _ (List.range _) _ _ := (subF hP hD hS)
  refine goI0 hB (run_v C mf_Mo_earliest qm_Mo_414 (c_Mo_earliest l g mo a o now dr pa sa iS bu tq rT wT wo sK sA sB sE oq bS bE bL rp p1 hs1) rfl rfl ⟨Nat.le_of_ble_eq_true rfl, Nat.le_of_ble_eq_true rfl⟩ ⟨Nat.le_of_ble_eq_true rfl, Nat.le_of_ble_eq_true rfl⟩ hB rfl rfl hl rfl rfl (Nat.le_of_ble_eq_true rfl) d_Mo_isEarliest_2) (fun y2 ey2 H locs hP hS => ?_)
  have hz := lett_z hz ey2
  refine lv_iload_n hx hb d_Mo_isEarliest_5 rfl (lv_at hl 1 rfl) ?_
  refine lv_icmp_ne (tgt := 13) hx hb d_Mo_isEarliest_6 (by decide) (fun c3 => ?_) (fun c3 => ?_)
  · have hz := hz.trans (if_neg c3)
    refine lv_iconst (v := 0) hx hb d_Mo_isEarliest_13 (by decide) ?_
    exact endZ0 C hz hP hS rfl d_Mo_isEarliest_14
  · have hz := hz.trans (if_pos c3)
    refine lv_iconst (v := 1) hx hb d_Mo_isEarliest_9 (by decide) ?_
    refine lv_goto (tgt := 14) hx hb d_Mo_isEarliest_10 (by decide) ?_
    exact endZ0 C hz hP hS rfl d_Mo_isEarliest_14
abbrev rm_Mo_earliestOf : Room := { frames := 4, cells := 0, slots := 0, locals := 87 }
def HL_Mo_earliestOf_4 (p : Program) (l : Launch) (e : Env) (s : State) (m : MethodId) (args : Array Value) (below : List Frame) (meth : Method) (c : Code) (g : GX) (mo : Nat) (a : Nat → Nat) (o : IV) (now : LV) (dr : LV) (pa : LV) (sa : LV) (iS : IV) (bu : IV) (tq : IV) (rT : IV) (wT : IV) (wo : Nat → Option Nat) (sK : IV) (sA : IV) (sB : IV) (sE : IV) (oq : IV) (bS : IV) (bE : IV) (bL : IV) (rp : IV) (p1 : Int32) (sp : Int32 → Int32 → Int32) (ok : Int32 → Int32 → Prop) : Prop := ∀ (x2p4 : Int32) (x3p4 : Int32), ok x2p4 x3p4 → ∀ z : Int32, z = sp x2p4 x3p4 → ∀ (H : Heap) (locs : List Loc) (ls : Array Slot), va_P g.1 vwCl (wMo g mo a o now dr pa sa iS bu tq rT wT wo sK sA sB sE oq bS bE bL rp) H → va_D (inW (wMo g mo a o now dr pa sa iS bu tq rT wT wo sK sA sB sE oq bS bE bL rp)) (wMo g mo a o now dr pa sa iS bu tq rT wT wo sK sA sB sE oq bS bE bL rp) → va_S (inW (wMo g mo a o now dr pa sa iS bu tq rT wT wo sK sA sB sE oq bS bE bL rp)) s.heap H locs → lv_has ls 4 [(0, .ref mo), (1, .int p1), (2, .int x2p4), (3, .int x3p4)] → W p l e rm_Mo_earliestOf s m args below meth c H locs 0 0 (MQ below (CI0 g (wMo g mo a o now dr pa sa iS bu tq rT wT wo sK sA sB sE oq bS bE bL rp) z) args s 0 0 (inW (wMo g mo a o now dr pa sa iS bu tq rT wT wo sK sA sB sE oq bS bE bL rp))) (F0 m 4 ls [])
def HL_Mo_earliestOf_23 (p : Program) (l : Launch) (e : Env) (s : State) (m : MethodId) (args : Array Value) (below : List Frame) (meth : Method) (c : Code) (g : GX) (mo : Nat) (a : Nat → Nat) (o : IV) (now : LV) (dr : LV) (pa : LV) (sa : LV) (iS : IV) (bu : IV) (tq : IV) (rT : IV) (wT : IV) (wo : Nat → Option Nat) (sK : IV) (sA : IV) (sB : IV) (sE : IV) (oq : IV) (bS : IV) (bE : IV) (bL : IV) (rp : IV) (p1 : Int32) (x2p4 : Int32) (x3p4 : Int32) (sp : Int32 → Int32) (ok : Int32 → Prop) : Prop := ∀ (t1p23 : Int32), ok t1p23 → ∀ z : Int32, z = sp t1p23 → ∀ (H : Heap) (locs : List Loc) (ls : Array Slot), va_P g.1 vwCl (wMo g mo a o now dr pa sa iS bu tq rT wT wo sK sA sB sE oq bS bE bL rp) H → va_D (inW (wMo g mo a o now dr pa sa iS bu tq rT wT wo sK sA sB sE oq bS bE bL rp)) (wMo g mo a o now dr pa sa iS bu tq rT wT wo sK sA sB sE oq bS bE bL rp) → va_S (inW (wMo g mo a o now dr pa sa iS bu tq rT wT wo sK sA sB sE oq bS bE bL rp)) s.heap H locs → lv_has ls 4 [(0, .ref mo), (1, .int p1), (2, .int x2p4)] → W p l e rm_Mo_earliestOf s m args below meth c H locs 0 0 (MQ below (CI0 g (wMo g mo a o now dr pa sa iS bu tq rT wT wo sK sA sB sE oq bS bE bL rp) z) args s 0 0 (inW (wMo g mo a o now dr pa sa iS bu tq rT wT wo sK sA sB sE oq bS bE bL rp))) (F0 m 23 ls [.int t1p23, .int x3p4])
def HL_Mo_earliestOf_31 (p : Program) (l : Launch) (e : Env) (s : State) (m : MethodId) (args : Array Value) (below : List Frame) (meth : Method) (c : Code) (g : GX) (mo : Nat) (a : Nat → Nat) (o : IV) (now : LV) (dr : LV) (pa : LV) (sa : LV) (iS : IV) (bu : IV) (tq : IV) (rT : IV) (wT : IV) (wo : Nat → Option Nat) (sK : IV) (sA : IV) (sB : IV) (sE : IV) (oq : IV) (bS : IV) (bE : IV) (bL : IV) (rp : IV) (x2p4 : Int32) (sp : Int32) (ok : Prop) : Prop := ∀ (_ : Unit), ok → ∀ z : Int32, z = sp → ∀ (H : Heap) (locs : List Loc) (ls : Array Slot), va_P g.1 vwCl (wMo g mo a o now dr pa sa iS bu tq rT wT wo sK sA sB sE oq bS bE bL rp) H → va_D (inW (wMo g mo a o now dr pa sa iS bu tq rT wT wo sK sA sB sE oq bS bE bL rp)) (wMo g mo a o now dr pa sa iS bu tq rT wT wo sK sA sB sE oq bS bE bL rp) → va_S (inW (wMo g mo a o now dr pa sa iS bu tq rT wT wo sK sA sB sE oq bS bE bL rp)) s.heap H locs → lv_has ls 4 [(2, .int x2p4)] → W p l e rm_Mo_earliestOf s m args below meth c H locs 0 0 (MQ below (CI0 g (wMo g mo a o now dr pa sa iS bu tq rT wT wo sK sA sB sE oq bS bE bL rp) z) args s 0 0 (inW (wMo g mo a o now dr pa sa iS bu tq rT wT wo sK sA sB sE oq bS bE bL rp))) (F0 m 31 ls [])
noncomputable def sp_Mo_earliestOf_31 (x2p4 : Int32)   : Int32 := x2p4 - (1 : Int32)
def ok_Mo_earliestOf_31 (x2p4 : Int32)    : Prop := True
set_option maxRecDepth 100000 in
set_option maxHeartbeats 4000000 in
theorem k_Mo_earliestOf_31 {p : Program} {l : Launch} {e : Env} {s : State} {m : MethodId} {args : Array Value} {below : List Frame} {meth : Method} {c : Code} {g : GX} {mo : Nat} {a : Nat → Nat} {o : IV} {now : LV} {dr : LV} {pa : LV} {sa : LV} {iS : IV} {bu : IV} {tq : IV} {rT : IV} {wT : IV} {wo : Nat → Option Nat} {sK : IV} {sA : IV} {sB : IV} {sE : IV} {oq : IV} {bS : IV} {bE : IV} {bL : IV} {rp : IV} {x2p4 : Int32}  (C : Cx p s m args meth c (inW (wMo g mo a o now dr pa sa iS bu tq rT wT wo sK sA sB sE oq bS bE bL rp)) g "DecadeBridgeModel" b_Mo_earliestOf (some .int) 4)  : HL_Mo_earliestOf_31 p l e s m args below meth c g mo a o now dr pa sa iS bu tq rT wT wo sK sA sB sE oq bS bE bL rp x2p4 (sp_Mo_earliestOf_31 x2p4 ) (ok_Mo_earliestOf_31 x2p4  ) := by
  intro _ hok z hz H locs ls hP hD hS hl
  obtain ⟨hx, hb, hr, hml, hown, hlk, hts, hK, hZo, hZ⟩ := id C
  unfold sp_Mo_earliestOf_31 at hz
  refine lv_iload_n hx hb d_Mo_earliestOf_31 rfl (lv_at hl 0 rfl) ?_
  refine lv_iconst (v := 1) hx hb d_Mo_earliestOf_32 (by decide) ?_
  refine lv_isub hx hb d_Mo_earliestOf_33 ?_
  exact endI0 C hz hP hS d_Mo_earliestOf_34
noncomputable def sp_Mo_earliestOf_23 (x3p4 : Int32) (x2p4 : Int32) (r4 : Int32 → Int32 → Int32) (t1p23 : Int32) : Int32 := lett (x3p4 + t1p23) fun (v5 : Int32) => lett (x2p4 + (1 : Int32)) fun (v6 : Int32) => r4 v6 v5
def ok_Mo_earliestOf_23 (x3p4 : Int32) (x2p4 : Int32) (r4 : Int32 → Int32 → Int32) (q4 : Int32 → Int32 → Prop) (t1p23 : Int32) : Prop := lett (x3p4 + t1p23) fun (v5 : Int32) => lett (x2p4 + (1 : Int32)) fun (v6 : Int32) => q4 v6 v5
set_option maxRecDepth 100000 in
set_option maxHeartbeats 4000000 in
theorem k_Mo_earliestOf_23 {p : Program} {l : Launch} {e : Env} {s : State} {m : MethodId} {args : Array Value} {below : List Frame} {meth : Method} {c : Code} {g : GX} {mo : Nat} {a : Nat → Nat} {o : IV} {now : LV} {dr : LV} {pa : LV} {sa : LV} {iS : IV} {bu : IV} {tq : IV} {rT : IV} {wT : IV} {wo : Nat → Option Nat} {sK : IV} {sA : IV} {sB : IV} {sE : IV} {oq : IV} {bS : IV} {bE : IV} {bL : IV} {rp : IV} {p1 : Int32} {x2p4 : Int32} {x3p4 : Int32} {r4 : Int32 → Int32 → Int32} {q4 : Int32 → Int32 → Prop} (C : Cx p s m args meth c (inW (wMo g mo a o now dr pa sa iS bu tq rT wT wo sK sA sB sE oq bS bE bL rp)) g "DecadeBridgeModel" b_Mo_earliestOf (some .int) 4) (ih4 : HL_Mo_earliestOf_4 p l e s m args below meth c g mo a o now dr pa sa iS bu tq rT wT wo sK sA sB sE oq bS bE bL rp p1 r4 q4) : HL_Mo_earliestOf_23 p l e s m args below meth c g mo a o now dr pa sa iS bu tq rT wT wo sK sA sB sE oq bS bE bL rp p1 x2p4 x3p4 (sp_Mo_earliestOf_23 x3p4 x2p4 r4) (ok_Mo_earliestOf_23 x3p4 x2p4 r4 q4) := by
  intro t1p23 hok z hz H locs ls hP hD hS hl
  obtain ⟨hx, hb, hr, hml, hown, hlk, hts, hK, hZo, hZ⟩ := id C
  unfold sp_Mo_earliestOf_23 at hz
  unfold ok_Mo_earliestOf_23 at hok
  refine lv_iadd hx hb d_Mo_earliestOf_23 ?_
  refine lv_topi (fun v5 ev5 => ?_)
  have hz := lett_z hz ev5
  have hok := lett_o hok ev5
  refine lv_istore_n (lv' := [(3, .int v5), (0, .ref mo), (1, .int p1), (2, .int x2p4)]) hx hb d_Mo_earliestOf_24 rfl hl (by decide) rfl (fun ls hl => ?_)
  obtain ⟨v6, ev6⟩ : ∃ y : Int32, y = x2p4 + (1 : Int32) := ⟨_, rfl⟩
  have hz := lett_z hz ev6
  have hok := lett_o hok ev6
  refine lv_iinc (v := v6) (lv' := [(2, .int v6), (3, .int v5), (0, .ref mo), (1, .int p1)]) hx hb d_Mo_earliestOf_25 hl (k := 3) rfl (by rw [ev6]; rfl) (by decide) rfl (fun ls hl => ?_)
  refine lv_goto (tgt := 4) hx hb d_Mo_earliestOf_28 (by decide) ?_
  exact ih4 v6 v5 hok _ hz _ _ ls hP hD hS (lv_sub hl [2, 3, 0, 1] rfl)
noncomputable def bd_Mo_earliestOf_4 (p1 : Int32) (now : LV) (r4 : Int32 → Int32 → Int32) (x2p4 : Int32) (x3p4 : Int32) : Int32 := if p1 < x3p4 then (sp_Mo_earliestOf_31 x2p4) else (lett (sp_Mo_isEarliest x2p4 now) fun (y3 : Int32) => if y3 = 0 then (sp_Mo_earliestOf_23 x3p4 x2p4 r4 (0 : Int32)) else (sp_Mo_earliestOf_23 x3p4 x2p4 r4 (1 : Int32)))
def okb_Mo_earliestOf_4 (p1 : Int32) (now : LV) (r4 : Int32 → Int32 → Int32) (q4 : Int32 → Int32 → Prop) (x2p4 : Int32) (x3p4 : Int32) : Prop := ((p1 < x3p4 → True) ∧ (¬ (p1 < x3p4) → (ok_Mo_isEarliest x2p4 now) ∧ lett (sp_Mo_isEarliest x2p4 now) fun (y3 : Int32) => ((y3 = 0 → ok_Mo_earliestOf_23 x3p4 x2p4 r4 q4 (0 : Int32)) ∧ (¬ (y3 = 0) → ok_Mo_earliestOf_23 x3p4 x2p4 r4 q4 (1 : Int32)))))
noncomputable def sp_Mo_earliestOf_4 (p1 : Int32) (now : LV)  : Nat → Int32 → Int32 → Int32
  | 0 => fun _ _ => default
  | f + 1 => bd_Mo_earliestOf_4 p1 now  (sp_Mo_earliestOf_4 p1 now  f)
def ok_Mo_earliestOf_4 (p1 : Int32) (now : LV)   : Nat → Int32 → Int32 → Prop
  | 0 => fun _ _ => False
  | f + 1 => okb_Mo_earliestOf_4 p1 now  (sp_Mo_earliestOf_4 p1 now  f)  (ok_Mo_earliestOf_4 p1 now   f)
set_option maxRecDepth 100000 in
set_option maxHeartbeats 4000000 in
theorem kb_Mo_earliestOf_4 {p : Program} {l : Launch} {e : Env} {s : State} {m : MethodId} {args : Array Value} {below : List Frame} {meth : Method} {c : Code} {g : GX} {mo : Nat} {a : Nat → Nat} {o : IV} {now : LV} {dr : LV} {pa : LV} {sa : LV} {iS : IV} {bu : IV} {tq : IV} {rT : IV} {wT : IV} {wo : Nat → Option Nat} {sK : IV} {sA : IV} {sB : IV} {sE : IV} {oq : IV} {bS : IV} {bE : IV} {bL : IV} {rp : IV} {p1 : Int32}  (C : Cx p s m args meth c (inW (wMo g mo a o now dr pa sa iS bu tq rT wT wo sK sA sB sE oq bS bE bL rp)) g "DecadeBridgeModel" b_Mo_earliestOf (some .int) 4) {r4 : Int32 → Int32 → Int32} {q4 : Int32 → Int32 → Prop}  (ih4 : HL_Mo_earliestOf_4 p l e s m args below meth c g mo a o now dr pa sa iS bu tq rT wT wo sK sA sB sE oq bS bE bL rp p1 r4 q4) : HL_Mo_earliestOf_4 p l e s m args below meth c g mo a o now dr pa sa iS bu tq rT wT wo sK sA sB sE oq bS bE bL rp p1 (bd_Mo_earliestOf_4 p1 now  r4) (okb_Mo_earliestOf_4 p1 now  r4  q4) := by
  intro x2p4 x3p4 hok z hz H locs ls hP hD hS hl
  obtain ⟨hx, hb, hr, hml, hown, hlk, hts, hK, hZo, hZ⟩ := id C
  unfold bd_Mo_earliestOf_4 at hz
  unfold okb_Mo_earliestOf_4 at hok
  refine lv_iload_n hx hb d_Mo_earliestOf_4 rfl (lv_at hl 3 rfl) ?_
  refine lv_iload_n hx hb d_Mo_earliestOf_5 rfl (lv_at hl 1 rfl) ?_
  refine lv_icmp_gt (tgt := 31) hx hb d_Mo_earliestOf_6 (by decide) (fun c1 => ?_) (fun c1 => ?_)
  · have hz := hz.trans (if_pos c1)
    exact k_Mo_earliestOf_31 C () trivial _ hz _ _ ls hP hD hS (lv_sub hl [2] rfl)
  · have hz := hz.trans (if_neg c1)
    have hok := hok.2 c1
    refine lv_iload_n hx hb d_Mo_earliestOf_9 rfl (lv_at hl 3 rfl) ?_
    refine lv_aload_n hx hb d_Mo_earliestOf_10 rfl (lv_at hl 0 rfl) ?_
    refine lv_iload_n hx hb d_Mo_earliestOf_11 rfl (lv_at hl 2 rfl) ?_
    have hs2 := hok.1
    have hok := hok.2
    have hB : SubW g (inW (wMo g mo a o now dr pa sa iS bu tq rT wT wo sK sA sB sE oq bS bE bL rp)) s (wMo g mo a o now dr pa sa iS bu tq rT wT wo sK sA sB sE oq bS bE bL rp) _ (List.range _) _ _ := (subF hP hD hS)
    refine goI0 hB (run_v C mf_Mo_isEarliest qm_Mo_403 (c_Mo_isEarliest l g mo a o now dr pa sa iS bu tq rT wT wo sK sA sB sE oq bS bE bL rp x2p4 hs2) rfl rfl ⟨Nat.le_of_ble_eq_true rfl, Nat.le_of_ble_eq_true rfl⟩ ⟨Nat.le_of_ble_eq_true rfl, Nat.le_of_ble_eq_true rfl⟩ hB rfl rfl hl rfl rfl (Nat.le_of_ble_eq_true rfl) d_Mo_earliestOf_12) (fun y3 ey3 H locs hP hS => ?_)
    have hz := lett_z hz ey3
    have hok := lett_o hok ey3
    refine lv_if_eq (tgt := 22) hx hb d_Mo_earliestOf_15 (by decide) (fun c4 => ?_) (fun c4 => ?_)
    · have hz := hz.trans (if_pos c4)
      have hok := hok.1 c4
      refine lv_iconst (v := 0) hx hb d_Mo_earliestOf_22 (by decide) ?_
      exact k_Mo_earliestOf_23 C ih4 (0 : Int32) hok _ hz _ _ ls hP hD hS (lv_sub hl [0, 1, 2] rfl)
    · have hz := hz.trans (if_neg c4)
      have hok := hok.2 c4
      refine lv_iconst (v := 1) hx hb d_Mo_earliestOf_18 (by decide) ?_
      refine lv_goto (tgt := 23) hx hb d_Mo_earliestOf_19 (by decide) ?_
      exact k_Mo_earliestOf_23 C ih4 (1 : Int32) hok _ hz _ _ ls hP hD hS (lv_sub hl [0, 1, 2] rfl)
theorem k_Mo_earliestOf_4 {p : Program} {l : Launch} {e : Env} {s : State} {m : MethodId} {args : Array Value} {below : List Frame} {meth : Method} {c : Code} {g : GX} {mo : Nat} {a : Nat → Nat} {o : IV} {now : LV} {dr : LV} {pa : LV} {sa : LV} {iS : IV} {bu : IV} {tq : IV} {rT : IV} {wT : IV} {wo : Nat → Option Nat} {sK : IV} {sA : IV} {sB : IV} {sE : IV} {oq : IV} {bS : IV} {bE : IV} {bL : IV} {rp : IV} {p1 : Int32}  (C : Cx p s m args meth c (inW (wMo g mo a o now dr pa sa iS bu tq rT wT wo sK sA sB sE oq bS bE bL rp)) g "DecadeBridgeModel" b_Mo_earliestOf (some .int) 4) (f : Nat)  : HL_Mo_earliestOf_4 p l e s m args below meth c g mo a o now dr pa sa iS bu tq rT wT wo sK sA sB sE oq bS bE bL rp p1 (sp_Mo_earliestOf_4 p1 now  f) (ok_Mo_earliestOf_4 p1 now   f) := by
  induction f with
  | zero => intro x2p4 x3p4 hok; exact False.elim hok
  | succ f ih => exact kb_Mo_earliestOf_4 C  ih
noncomputable def sp_Mo_earliestOf (p1 : Int32) (now : LV) : Int32 := sp_Mo_earliestOf_4 p1 now big (0 : Int32) (0 : Int32)
def ok_Mo_earliestOf (p1 : Int32) (now : LV) : Prop := ok_Mo_earliestOf_4 p1 now big (0 : Int32) (0 : Int32)
set_option maxRecDepth 100000 in
set_option maxHeartbeats 4000000 in
theorem c_Mo_earliestOf (l : Launch) (g : GX) (mo : Nat) (a : Nat → Nat) (o : IV) (now : LV) (dr : LV) (pa : LV) (sa : LV) (iS : IV) (bu : IV) (tq : IV) (rT : IV) (wT : IV) (wo : Nat → Option Nat) (sK : IV) (sA : IV) (sB : IV) (sE : IV) (oq : IV) (bS : IV) (bE : IV) (bL : IV) (rp : IV) (p1 : Int32) (hok : ok_Mo_earliestOf p1 now) : Met l y_Mo_earliestOf (wsY y_Mo_earliestOf b_Mo_earliestOf 4 (some .int)) rm_Mo_earliestOf (CP g [.ref mo, .int p1] (wMo g mo a o now dr pa sa iS bu tq rT wT wo sK sA sB sE oq bS bE bL rp)) (CI0 g (wMo g mo a o now dr pa sa iS bu tq rT wT wo sK sA sB sE oq bS bE bL rp) (sp_Mo_earliestOf p1 now)) 0 0 (inW (wMo g mo a o now dr pa sa iS bu tq rT wT wo sK sA sB sE oq bS bE bL rp)) := by
  refine Met.ofW (cc := b_Mo_earliestOf) (maxL := 4) (ret := (some .int)) pn_Mo rfl ?_
  intro p e s m args below meth c s₁ B hml hv
  obtain ⟨rfl, C, hP, hD, hS⟩ := enter "DecadeBridgeModel" rfl B hml hv
  obtain ⟨hx, hb, hr, hml, hown, hlk, hts, hK, hZo, hZ⟩ := id C
  refine entryW (lv := [(0, .ref mo), (1, .int p1)]) rfl (Nat.le_of_ble_eq_true rfl) (fun ls hl => ?_)
  obtain ⟨z, hz⟩ : ∃ z, z = sp_Mo_earliestOf p1 now := ⟨_, rfl⟩
  rw [← hz]
  unfold sp_Mo_earliestOf at hz
  unfold ok_Mo_earliestOf at hok
  refine lv_iconst (v := 0) hx hb d_Mo_earliestOf_0 (by decide) ?_
  refine lv_istore_n (lv' := [(2, .int (0 : Int32)), (0, .ref mo), (1, .int p1)]) hx hb d_Mo_earliestOf_1 rfl hl (by decide) rfl (fun ls hl => ?_)
  refine lv_iconst (v := 0) hx hb d_Mo_earliestOf_2 (by decide) ?_
  refine lv_istore_n (lv' := [(3, .int (0 : Int32)), (2, .int (0 : Int32)), (0, .ref mo), (1, .int p1)]) hx hb d_Mo_earliestOf_3 rfl hl (by decide) rfl (fun ls hl => ?_)
  exact k_Mo_earliestOf_4 C big (0 : Int32) (0 : Int32) hok _ hz _ _ ls hP hD hS (lv_sub hl [2, 3, 1, 0] rfl)
abbrev rm_Mo_mannerOf : Room := { frames := 4, cells := 0, slots := 0, locals := 87 }
def HL_Mo_mannerOf_4 (p : Program) (l : Launch) (e : Env) (s : State) (m : MethodId) (args : Array Value) (below : List Frame) (meth : Method) (c : Code) (g : GX) (mo : Nat) (a : Nat → Nat) (o : IV) (now : LV) (dr : LV) (pa : LV) (sa : LV) (iS : IV) (bu : IV) (tq : IV) (rT : IV) (wT : IV) (wo : Nat → Option Nat) (sK : IV) (sA : IV) (sB : IV) (sE : IV) (oq : IV) (bS : IV) (bE : IV) (bL : IV) (rp : IV) (p1 : Int32) (sp : Int32 → Int32 → Int32) (ok : Int32 → Int32 → Prop) : Prop := ∀ (x2p4 : Int32) (x3p4 : Int32), ok x2p4 x3p4 → ∀ z : Int32, z = sp x2p4 x3p4 → ∀ (H : Heap) (locs : List Loc) (ls : Array Slot), va_P g.1 vwCl (wMo g mo a o now dr pa sa iS bu tq rT wT wo sK sA sB sE oq bS bE bL rp) H → va_D (inW (wMo g mo a o now dr pa sa iS bu tq rT wT wo sK sA sB sE oq bS bE bL rp)) (wMo g mo a o now dr pa sa iS bu tq rT wT wo sK sA sB sE oq bS bE bL rp) → va_S (inW (wMo g mo a o now dr pa sa iS bu tq rT wT wo sK sA sB sE oq bS bE bL rp)) s.heap H locs → lv_has ls 4 [(0, .ref mo), (1, .int p1), (2, .int x2p4), (3, .int x3p4)] → W p l e rm_Mo_mannerOf s m args below meth c H locs 0 0 (MQ below (CI0 g (wMo g mo a o now dr pa sa iS bu tq rT wT wo sK sA sB sE oq bS bE bL rp) z) args s 0 0 (inW (wMo g mo a o now dr pa sa iS bu tq rT wT wo sK sA sB sE oq bS bE bL rp))) (F0 m 4 ls [])
def HL_Mo_mannerOf_27 (p : Program) (l : Launch) (e : Env) (s : State) (m : MethodId) (args : Array Value) (below : List Frame) (meth : Method) (c : Code) (g : GX) (mo : Nat) (a : Nat → Nat) (o : IV) (now : LV) (dr : LV) (pa : LV) (sa : LV) (iS : IV) (bu : IV) (tq : IV) (rT : IV) (wT : IV) (wo : Nat → Option Nat) (sK : IV) (sA : IV) (sB : IV) (sE : IV) (oq : IV) (bS : IV) (bE : IV) (bL : IV) (rp : IV) (p1 : Int32) (x3p4 : Int32) (x2p4 : Int32) (sp : Int32 → Int32) (ok : Int32 → Prop) : Prop := ∀ (t1p27 : Int32), ok t1p27 → ∀ z : Int32, z = sp t1p27 → ∀ (H : Heap) (locs : List Loc) (ls : Array Slot), va_P g.1 vwCl (wMo g mo a o now dr pa sa iS bu tq rT wT wo sK sA sB sE oq bS bE bL rp) H → va_D (inW (wMo g mo a o now dr pa sa iS bu tq rT wT wo sK sA sB sE oq bS bE bL rp)) (wMo g mo a o now dr pa sa iS bu tq rT wT wo sK sA sB sE oq bS bE bL rp) → va_S (inW (wMo g mo a o now dr pa sa iS bu tq rT wT wo sK sA sB sE oq bS bE bL rp)) s.heap H locs → lv_has ls 4 [(0, .ref mo), (1, .int p1), (3, .int x3p4)] → W p l e rm_Mo_mannerOf s m args below meth c H locs 0 0 (MQ below (CI0 g (wMo g mo a o now dr pa sa iS bu tq rT wT wo sK sA sB sE oq bS bE bL rp) z) args s 0 0 (inW (wMo g mo a o now dr pa sa iS bu tq rT wT wo sK sA sB sE oq bS bE bL rp))) (F0 m 27 ls [.int t1p27, .int x2p4])
noncomputable def sp_Mo_mannerOf_27 (x2p4 : Int32) (x3p4 : Int32) (r4 : Int32 → Int32 → Int32) (t1p27 : Int32) : Int32 := lett (x2p4 + t1p27) fun (v7 : Int32) => lett (x3p4 + (1 : Int32)) fun (v8 : Int32) => r4 v7 v8
def ok_Mo_mannerOf_27 (x2p4 : Int32) (x3p4 : Int32) (r4 : Int32 → Int32 → Int32) (q4 : Int32 → Int32 → Prop) (t1p27 : Int32) : Prop := lett (x2p4 + t1p27) fun (v7 : Int32) => lett (x3p4 + (1 : Int32)) fun (v8 : Int32) => q4 v7 v8
set_option maxRecDepth 100000 in
set_option maxHeartbeats 4000000 in
theorem k_Mo_mannerOf_27 {p : Program} {l : Launch} {e : Env} {s : State} {m : MethodId} {args : Array Value} {below : List Frame} {meth : Method} {c : Code} {g : GX} {mo : Nat} {a : Nat → Nat} {o : IV} {now : LV} {dr : LV} {pa : LV} {sa : LV} {iS : IV} {bu : IV} {tq : IV} {rT : IV} {wT : IV} {wo : Nat → Option Nat} {sK : IV} {sA : IV} {sB : IV} {sE : IV} {oq : IV} {bS : IV} {bE : IV} {bL : IV} {rp : IV} {p1 : Int32} {x3p4 : Int32} {x2p4 : Int32} {r4 : Int32 → Int32 → Int32} {q4 : Int32 → Int32 → Prop} (C : Cx p s m args meth c (inW (wMo g mo a o now dr pa sa iS bu tq rT wT wo sK sA sB sE oq bS bE bL rp)) g "DecadeBridgeModel" b_Mo_mannerOf (some .int) 4) (ih4 : HL_Mo_mannerOf_4 p l e s m args below meth c g mo a o now dr pa sa iS bu tq rT wT wo sK sA sB sE oq bS bE bL rp p1 r4 q4) : HL_Mo_mannerOf_27 p l e s m args below meth c g mo a o now dr pa sa iS bu tq rT wT wo sK sA sB sE oq bS bE bL rp p1 x3p4 x2p4 (sp_Mo_mannerOf_27 x2p4 x3p4 r4) (ok_Mo_mannerOf_27 x2p4 x3p4 r4 q4) := by
  intro t1p27 hok z hz H locs ls hP hD hS hl
  obtain ⟨hx, hb, hr, hml, hown, hlk, hts, hK, hZo, hZ⟩ := id C
  unfold sp_Mo_mannerOf_27 at hz
  unfold ok_Mo_mannerOf_27 at hok
  refine lv_iadd hx hb d_Mo_mannerOf_27 ?_
  refine lv_topi (fun v7 ev7 => ?_)
  have hz := lett_z hz ev7
  have hok := lett_o hok ev7
  refine lv_istore_n (lv' := [(2, .int v7), (0, .ref mo), (1, .int p1), (3, .int x3p4)]) hx hb d_Mo_mannerOf_28 rfl hl (by decide) rfl (fun ls hl => ?_)
  obtain ⟨v8, ev8⟩ : ∃ y : Int32, y = x3p4 + (1 : Int32) := ⟨_, rfl⟩
  have hz := lett_z hz ev8
  have hok := lett_o hok ev8
  refine lv_iinc (v := v8) (lv' := [(3, .int v8), (2, .int v7), (0, .ref mo), (1, .int p1)]) hx hb d_Mo_mannerOf_29 hl (k := 3) rfl (by rw [ev8]; rfl) (by decide) rfl (fun ls hl => ?_)
  refine lv_goto (tgt := 4) hx hb d_Mo_mannerOf_32 (by decide) ?_
  exact ih4 v7 v8 hok _ hz _ _ ls hP hD hS (lv_sub hl [2, 3, 1, 0] rfl)
noncomputable def bd_Mo_mannerOf_4 (p1 : Int32) (now : LV) (r4 : Int32 → Int32 → Int32) (x2p4 : Int32) (x3p4 : Int32) : Int32 := lett (sp_Mo_earliest p1 now) fun (y2 : Int32) => if y2 ≤ x3p4 then (x2p4) else (lett (sp_Mo_isEarliest x3p4 now) fun (y5 : Int32) => if y5 = 0 then (sp_Mo_mannerOf_27 x2p4 x3p4 r4 (0 : Int32)) else (sp_Mo_mannerOf_27 x2p4 x3p4 r4 (1 : Int32)))
def okb_Mo_mannerOf_4 (p1 : Int32) (now : LV) (r4 : Int32 → Int32 → Int32) (q4 : Int32 → Int32 → Prop) (x2p4 : Int32) (x3p4 : Int32) : Prop := (ok_Mo_earliest p1 now) ∧ lett (sp_Mo_earliest p1 now) fun (y2 : Int32) => ((y2 ≤ x3p4 → True) ∧ (¬ (y2 ≤ x3p4) → (ok_Mo_isEarliest x3p4 now) ∧ lett (sp_Mo_isEarliest x3p4 now) fun (y5 : Int32) => ((y5 = 0 → ok_Mo_mannerOf_27 x2p4 x3p4 r4 q4 (0 : Int32)) ∧ (¬ (y5 = 0) → ok_Mo_mannerOf_27 x2p4 x3p4 r4 q4 (1 : Int32)))))
noncomputable def sp_Mo_mannerOf_4 (p1 : Int32) (now : LV)  : Nat → Int32 → Int32 → Int32
  | 0 => fun _ _ => default
  | f + 1 => bd_Mo_mannerOf_4 p1 now  (sp_Mo_mannerOf_4 p1 now  f)
def ok_Mo_mannerOf_4 (p1 : Int32) (now : LV)   : Nat → Int32 → Int32 → Prop
  | 0 => fun _ _ => False
  | f + 1 => okb_Mo_mannerOf_4 p1 now  (sp_Mo_mannerOf_4 p1 now  f)  (ok_Mo_mannerOf_4 p1 now   f)
set_option maxRecDepth 100000 in
set_option maxHeartbeats 4000000 in
theorem kb_Mo_mannerOf_4 {p : Program} {l : Launch} {e : Env} {s : State} {m : MethodId} {args : Array Value} {below : List Frame} {meth : Method} {c : Code} {g : GX} {mo : Nat} {a : Nat → Nat} {o : IV} {now : LV} {dr : LV} {pa : LV} {sa : LV} {iS : IV} {bu : IV} {tq : IV} {rT : IV} {wT : IV} {wo : Nat → Option Nat} {sK : IV} {sA : IV} {sB : IV} {sE : IV} {oq : IV} {bS : IV} {bE : IV} {bL : IV} {rp : IV} {p1 : Int32}  (C : Cx p s m args meth c (inW (wMo g mo a o now dr pa sa iS bu tq rT wT wo sK sA sB sE oq bS bE bL rp)) g "DecadeBridgeModel" b_Mo_mannerOf (some .int) 4) {r4 : Int32 → Int32 → Int32} {q4 : Int32 → Int32 → Prop}  (ih4 : HL_Mo_mannerOf_4 p l e s m args below meth c g mo a o now dr pa sa iS bu tq rT wT wo sK sA sB sE oq bS bE bL rp p1 r4 q4) : HL_Mo_mannerOf_4 p l e s m args below meth c g mo a o now dr pa sa iS bu tq rT wT wo sK sA sB sE oq bS bE bL rp p1 (bd_Mo_mannerOf_4 p1 now  r4) (okb_Mo_mannerOf_4 p1 now  r4  q4) := by
  intro x2p4 x3p4 hok z hz H locs ls hP hD hS hl
  obtain ⟨hx, hb, hr, hml, hown, hlk, hts, hK, hZo, hZ⟩ := id C
  unfold bd_Mo_mannerOf_4 at hz
  unfold okb_Mo_mannerOf_4 at hok
  refine lv_iload_n hx hb d_Mo_mannerOf_4 rfl (lv_at hl 3 rfl) ?_
  refine lv_aload_n hx hb d_Mo_mannerOf_5 rfl (lv_at hl 0 rfl) ?_
  refine lv_iload_n hx hb d_Mo_mannerOf_6 rfl (lv_at hl 1 rfl) ?_
  have hs1 := hok.1
  have hok := hok.2
  have hB : SubW g (inW (wMo g mo a o now dr pa sa iS bu tq rT wT wo sK sA sB sE oq bS bE bL rp)) s (wMo g mo a o now dr pa sa iS bu tq rT wT wo sK sA sB sE oq bS bE bL rp) _ (List.range _) _ _ := (subF hP hD hS)
  refine goI0 hB (run_v C mf_Mo_earliest qm_Mo_414 (c_Mo_earliest l g mo a o now dr pa sa iS bu tq rT wT wo sK sA sB sE oq bS bE bL rp p1 hs1) rfl rfl ⟨Nat.le_of_ble_eq_true rfl, Nat.le_of_ble_eq_true rfl⟩ ⟨Nat.le_of_ble_eq_true rfl, Nat.le_of_ble_eq_true rfl⟩ hB rfl rfl hl rfl rfl (Nat.le_of_ble_eq_true rfl) d_Mo_mannerOf_7) (fun y2 ey2 H locs hP hS => ?_)
  have hz := lett_z hz ey2
  have hok := lett_o hok ey2
  refine lv_icmp_ge (tgt := 35) hx hb d_Mo_mannerOf_10 (by decide) (fun c3 => ?_) (fun c3 => ?_)
  · have hz := hz.trans (if_pos c3)
    refine lv_iload_n hx hb d_Mo_mannerOf_35 rfl (lv_at hl 2 rfl) ?_
    exact endI0 C hz hP hS d_Mo_mannerOf_36
  · have hz := hz.trans (if_neg c3)
    have hok := hok.2 c3
    refine lv_iload_n hx hb d_Mo_mannerOf_13 rfl (lv_at hl 2 rfl) ?_
    refine lv_aload_n hx hb d_Mo_mannerOf_14 rfl (lv_at hl 0 rfl) ?_
    refine lv_iload_n hx hb d_Mo_mannerOf_15 rfl (lv_at hl 3 rfl) ?_
    have hs4 := hok.1
    have hok := hok.2
    have hB : SubW g (inW (wMo g mo a o now dr pa sa iS bu tq rT wT wo sK sA sB sE oq bS bE bL rp)) s (wMo g mo a o now dr pa sa iS bu tq rT wT wo sK sA sB sE oq bS bE bL rp) _ (List.range _) _ _ := (subF hP hD hS)
    refine goI0 hB (run_v C mf_Mo_isEarliest qm_Mo_403 (c_Mo_isEarliest l g mo a o now dr pa sa iS bu tq rT wT wo sK sA sB sE oq bS bE bL rp x3p4 hs4) rfl rfl ⟨Nat.le_of_ble_eq_true rfl, Nat.le_of_ble_eq_true rfl⟩ ⟨Nat.le_of_ble_eq_true rfl, Nat.le_of_ble_eq_true rfl⟩ hB rfl rfl hl rfl rfl (Nat.le_of_ble_eq_true rfl) d_Mo_mannerOf_16) (fun y5 ey5 H locs hP hS => ?_)
    have hz := lett_z hz ey5
    have hok := lett_o hok ey5
    refine lv_if_eq (tgt := 26) hx hb d_Mo_mannerOf_19 (by decide) (fun c6 => ?_) (fun c6 => ?_)
    · have hz := hz.trans (if_pos c6)
      have hok := hok.1 c6
      refine lv_iconst (v := 0) hx hb d_Mo_mannerOf_26 (by decide) ?_
      exact k_Mo_mannerOf_27 C ih4 (0 : Int32) hok _ hz _ _ ls hP hD hS (lv_sub hl [0, 1, 3] rfl)
    · have hz := hz.trans (if_neg c6)
      have hok := hok.2 c6
      refine lv_iconst (v := 1) hx hb d_Mo_mannerOf_22 (by decide) ?_
      refine lv_goto (tgt := 27) hx hb d_Mo_mannerOf_23 (by decide) ?_
      exact k_Mo_mannerOf_27 C ih4 (1 : Int32) hok _ hz _ _ ls hP hD hS (lv_sub hl [0, 1, 3] rfl)
theorem k_Mo_mannerOf_4 {p : Program} {l : Launch} {e : Env} {s : State} {m : MethodId} {args : Array Value} {below : List Frame} {meth : Method} {c : Code} {g : GX} {mo : Nat} {a : Nat → Nat} {o : IV} {now : LV} {dr : LV} {pa : LV} {sa : LV} {iS : IV} {bu : IV} {tq : IV} {rT : IV} {wT : IV} {wo : Nat → Option Nat} {sK : IV} {sA : IV} {sB : IV} {sE : IV} {oq : IV} {bS : IV} {bE : IV} {bL : IV} {rp : IV} {p1 : Int32}  (C : Cx p s m args meth c (inW (wMo g mo a o now dr pa sa iS bu tq rT wT wo sK sA sB sE oq bS bE bL rp)) g "DecadeBridgeModel" b_Mo_mannerOf (some .int) 4) (f : Nat)  : HL_Mo_mannerOf_4 p l e s m args below meth c g mo a o now dr pa sa iS bu tq rT wT wo sK sA sB sE oq bS bE bL rp p1 (sp_Mo_mannerOf_4 p1 now  f) (ok_Mo_mannerOf_4 p1 now   f) := by
  induction f with
  | zero => intro x2p4 x3p4 hok; exact False.elim hok
  | succ f ih => exact kb_Mo_mannerOf_4 C  ih
noncomputable def sp_Mo_mannerOf (p1 : Int32) (now : LV) : Int32 := sp_Mo_mannerOf_4 p1 now big (0 : Int32) (0 : Int32)
def ok_Mo_mannerOf (p1 : Int32) (now : LV) : Prop := ok_Mo_mannerOf_4 p1 now big (0 : Int32) (0 : Int32)
set_option maxRecDepth 100000 in
set_option maxHeartbeats 4000000 in
theorem c_Mo_mannerOf (l : Launch) (g : GX) (mo : Nat) (a : Nat → Nat) (o : IV) (now : LV) (dr : LV) (pa : LV) (sa : LV) (iS : IV) (bu : IV) (tq : IV) (rT : IV) (wT : IV) (wo : Nat → Option Nat) (sK : IV) (sA : IV) (sB : IV) (sE : IV) (oq : IV) (bS : IV) (bE : IV) (bL : IV) (rp : IV) (p1 : Int32) (hok : ok_Mo_mannerOf p1 now) : Met l y_Mo_mannerOf (wsY y_Mo_mannerOf b_Mo_mannerOf 4 (some .int)) rm_Mo_mannerOf (CP g [.ref mo, .int p1] (wMo g mo a o now dr pa sa iS bu tq rT wT wo sK sA sB sE oq bS bE bL rp)) (CI0 g (wMo g mo a o now dr pa sa iS bu tq rT wT wo sK sA sB sE oq bS bE bL rp) (sp_Mo_mannerOf p1 now)) 0 0 (inW (wMo g mo a o now dr pa sa iS bu tq rT wT wo sK sA sB sE oq bS bE bL rp)) := by
  refine Met.ofW (cc := b_Mo_mannerOf) (maxL := 4) (ret := (some .int)) pn_Mo rfl ?_
  intro p e s m args below meth c s₁ B hml hv
  obtain ⟨rfl, C, hP, hD, hS⟩ := enter "DecadeBridgeModel" rfl B hml hv
  obtain ⟨hx, hb, hr, hml, hown, hlk, hts, hK, hZo, hZ⟩ := id C
  refine entryW (lv := [(0, .ref mo), (1, .int p1)]) rfl (Nat.le_of_ble_eq_true rfl) (fun ls hl => ?_)
  obtain ⟨z, hz⟩ : ∃ z, z = sp_Mo_mannerOf p1 now := ⟨_, rfl⟩
  rw [← hz]
  unfold sp_Mo_mannerOf at hz
  unfold ok_Mo_mannerOf at hok
  refine lv_iconst (v := 0) hx hb d_Mo_mannerOf_0 (by decide) ?_
  refine lv_istore_n (lv' := [(2, .int (0 : Int32)), (0, .ref mo), (1, .int p1)]) hx hb d_Mo_mannerOf_1 rfl hl (by decide) rfl (fun ls hl => ?_)
  refine lv_iconst (v := 0) hx hb d_Mo_mannerOf_2 (by decide) ?_
  refine lv_istore_n (lv' := [(3, .int (0 : Int32)), (2, .int (0 : Int32)), (0, .ref mo), (1, .int p1)]) hx hb d_Mo_mannerOf_3 rfl hl (by decide) rfl (fun ls hl => ?_)
  exact k_Mo_mannerOf_4 C big (0 : Int32) (0 : Int32) hok _ hz _ _ ls hP hD hS (lv_sub hl [2, 3, 1, 0] rfl)
abbrev rm_Mo_ratio : Room := { frames := 3, cells := 0, slots := 0, locals := 66 }
def HL_Mo_ratio_30 (p : Program) (l : Launch) (e : Env) (s : State) (m : MethodId) (args : Array Value) (below : List Frame) (meth : Method) (c : Code) (g : GX) (mo : Nat) (a : Nat → Nat) (ws0 : va_W) (o : IV) (now : LV) (dr : LV) (pa : LV) (sa : LV) (iS : IV) (bu : IV) (tq : IV) (rT : IV) (wT : IV) (wo : Nat → Option Nat) (sK : IV) (sA : IV) (sB : IV) (sE : IV) (oq : IV) (bS : IV) (bE : IV) (bL : IV) (rp : IV) (p1 : Int32) (p2 : Int32) (sp : Int32 → (Int32 × IV)) (ok : Int32 → Prop) : Prop := ∀ (t1p30 : Int32), ok t1p30 → ∀ z : (Int32 × IV), z = sp t1p30 → ∀ (H : Heap) (locs : List Loc) (ls : Array Slot), va_P g.1 vwCl (wMo g mo a o now dr pa sa iS bu tq rT wT wo sK sA sB sE oq bS bE bL rp) H → va_D (inW ws0) (wMo g mo a o now dr pa sa iS bu tq rT wT wo sK sA sB sE oq bS bE bL rp) → va_S (inW ws0) s.heap H locs → lv_has ls 3 [(0, .ref mo), (1, .int p1), (2, .int p2)] → W p l e rm_Mo_ratio s m args below meth c H locs 0 0 (MQ below (CI g ws0 (fun u : IV => wMo g mo a u now dr pa sa iS bu tq rT wT wo sK sA sB sE oq bS bE bL rp) z) args s 0 0 (inW ws0)) (F0 m 30 ls [.int t1p30, .ref mo])
def HL_Mo_ratio_77 (p : Program) (l : Launch) (e : Env) (s : State) (m : MethodId) (args : Array Value) (below : List Frame) (meth : Method) (c : Code) (g : GX) (mo : Nat) (a : Nat → Nat) (ws0 : va_W) (o_6 : IV) (now : LV) (dr : LV) (pa : LV) (sa : LV) (iS : IV) (bu : IV) (tq : IV) (rT : IV) (wT : IV) (wo : Nat → Option Nat) (sK : IV) (sA : IV) (sB : IV) (sE : IV) (oq : IV) (bS : IV) (bE : IV) (bL : IV) (rp : IV) (sp : Int64 → (Int32 × IV)) (ok : Int64 → Prop) : Prop := ∀ (t0p77 : Int64), ok t0p77 → ∀ z : (Int32 × IV), z = sp t0p77 → ∀ (H : Heap) (locs : List Loc) (ls : Array Slot), va_P g.1 vwCl (wMo g mo a o_6 now dr pa sa iS bu tq rT wT wo sK sA sB sE oq bS bE bL rp) H → va_D (inW ws0) (wMo g mo a o_6 now dr pa sa iS bu tq rT wT wo sK sA sB sE oq bS bE bL rp) → va_S (inW ws0) s.heap H locs → lv_has ls 3 [] → W p l e rm_Mo_ratio s m args below meth c H locs 0 0 (MQ below (CI g ws0 (fun u : IV => wMo g mo a u now dr pa sa iS bu tq rT wT wo sK sA sB sE oq bS bE bL rp) z) args s 0 0 (inW ws0)) (F0 m 77 ls [.long t0p77])
noncomputable def sp_Mo_ratio_77 (o_6 : IV)  (t0p77 : Int64) : Int32 × IV := (t0p77.toInt32, o_6)
def ok_Mo_ratio_77 (o_6 : IV)   (t0p77 : Int64) : Prop := True
set_option maxRecDepth 100000 in
set_option maxHeartbeats 4000000 in
theorem k_Mo_ratio_77 {p : Program} {l : Launch} {e : Env} {s : State} {m : MethodId} {args : Array Value} {below : List Frame} {meth : Method} {c : Code} {g : GX} {mo : Nat} {a : Nat → Nat} {ws0 : va_W} {o_6 : IV} {now : LV} {dr : LV} {pa : LV} {sa : LV} {iS : IV} {bu : IV} {tq : IV} {rT : IV} {wT : IV} {wo : Nat → Option Nat} {sK : IV} {sA : IV} {sB : IV} {sE : IV} {oq : IV} {bS : IV} {bE : IV} {bL : IV} {rp : IV}  (C : Cx p s m args meth c (inW ws0) g "DecadeBridgeModel" b_Mo_ratio (some .int) 3)  : HL_Mo_ratio_77 p l e s m args below meth c g mo a ws0 o_6 now dr pa sa iS bu tq rT wT wo sK sA sB sE oq bS bE bL rp (sp_Mo_ratio_77 o_6 ) (ok_Mo_ratio_77 o_6  ) := by
  intro t0p77 hok z hz H locs ls hP hD hS hl
  obtain ⟨hx, hb, hr, hml, hown, hlk, hts, hK, hZo, hZ⟩ := id C
  unfold sp_Mo_ratio_77 at hz
  refine lv_l2i hx hb d_Mo_ratio_77 rfl ?_
  exact endI1 C hz hP hS d_Mo_ratio_78
noncomputable def sp_Mo_ratio_30 (o : IV) (p2 : Int32) (p1 : Int32) (now : LV)  (t1p30 : Int32) : Int32 × IV := lett (upd o 6 t1p30) fun (o_6 : IV) => if (o_6 6) ≤ 0 then (if p2 = 0 then (lett (sp_Mo_nominal p1.toInt64) fun (y14 : Int64) => sp_Mo_ratio_77 o_6 y14) else (if p2 = (1 : Int32) then (sp_Mo_ratio_77 o_6 (now ((7 : Int32) + p1).toNatClampNeg)) else (lett (sp_Mo_ohmsOf p1.toInt64 now) fun (y11 : Int64) => sp_Mo_ratio_77 o_6 y11))) else (((0 : Int32), o_6))
def ok_Mo_ratio_30 (o : IV) (p2 : Int32) (p1 : Int32) (now : LV)   (t1p30 : Int32) : Prop := lett (upd o 6 t1p30) fun (o_6 : IV) => (((o_6 6) ≤ 0 → ((p2 = 0 → (ok_Mo_nominal p1.toInt64) ∧ True) ∧ (¬ (p2 = 0) → ((p2 = (1 : Int32) → (vp_in ((7 : Int32) + p1) 215) ∧ True) ∧ (¬ (p2 = (1 : Int32)) → (ok_Mo_ohmsOf p1.toInt64) ∧ True))))) ∧ (¬ ((o_6 6) ≤ 0) → True))
set_option maxRecDepth 100000 in
set_option maxHeartbeats 4000000 in
theorem k_Mo_ratio_30 {p : Program} {l : Launch} {e : Env} {s : State} {m : MethodId} {args : Array Value} {below : List Frame} {meth : Method} {c : Code} {g : GX} {mo : Nat} {a : Nat → Nat} {ws0 : va_W} {o : IV} {now : LV} {dr : LV} {pa : LV} {sa : LV} {iS : IV} {bu : IV} {tq : IV} {rT : IV} {wT : IV} {wo : Nat → Option Nat} {sK : IV} {sA : IV} {sB : IV} {sE : IV} {oq : IV} {bS : IV} {bE : IV} {bL : IV} {rp : IV} {p1 : Int32} {p2 : Int32}  (C : Cx p s m args meth c (inW ws0) g "DecadeBridgeModel" b_Mo_ratio (some .int) 3)  : HL_Mo_ratio_30 p l e s m args below meth c g mo a ws0 o now dr pa sa iS bu tq rT wT wo sK sA sB sE oq bS bE bL rp p1 p2 (sp_Mo_ratio_30 o p2 p1 now ) (ok_Mo_ratio_30 o p2 p1 now  ) := by
  intro t1p30 hok z hz H locs ls hP hD hS hl
  obtain ⟨hx, hb, hr, hml, hown, hlk, hts, hK, hZo, hZ⟩ := id C
  unfold sp_Mo_ratio_30 at hz
  unfold ok_Mo_ratio_30 at hok
  refine pfI C hP hD hS 0 6 fkMo rfl (by decide) rfl qf_Mo_107 rfl rfl rfl (Nat.le_of_ble_eq_true rfl) (ff := fun o => fMo a o) (sMo_6 _ _ _) d_Mo_ratio_30 (fun o_6 eo_6 H locs hP hD hS => ?_)
  have hP : va_P g.1 vwCl (wMo g mo a o_6 now dr pa sa iS bu tq rT wT wo sK sA sB sE oq bS bE bL rp) H := hP
  have hD : va_D (inW ws0) (wMo g mo a o_6 now dr pa sa iS bu tq rT wT wo sK sA sB sE oq bS bE bL rp) := hD
  have hz := lett_z hz eo_6
  have hok := lett_o hok eo_6
  refine lv_aload_n hx hb d_Mo_ratio_33 rfl (lv_at hl 0 rfl) ?_
  refine gf C hP 0 6 fkMo rfl (by decide) rfl qf_Mo_107 (gMo_6 _ _) d_Mo_ratio_34 ?_
  refine lv_if_le (tgt := 42) hx hb d_Mo_ratio_37 (by decide) (fun c7 => ?_) (fun c7 => ?_)
  · have hz := hz.trans (if_pos c7)
    have hok := hok.1 c7
    refine lv_iload_n hx hb d_Mo_ratio_42 rfl (lv_at hl 2 rfl) ?_
    refine lv_if_ne (tgt := 54) hx hb d_Mo_ratio_43 (by decide) (fun c8 => ?_) (fun c8 => ?_)
    · have hz := hz.trans (if_neg c8)
      have hok := hok.2 c8
      refine lv_iload_n hx hb d_Mo_ratio_54 rfl (lv_at hl 2 rfl) ?_
      refine lv_iconst (v := 1) hx hb d_Mo_ratio_55 (by decide) ?_
      refine lv_icmp_ne (tgt := 71) hx hb d_Mo_ratio_56 (by decide) (fun c9 => ?_) (fun c9 => ?_)
      · have hz := hz.trans (if_neg c9)
        have hok := hok.2 c9
        refine lv_aload_n hx hb d_Mo_ratio_71 rfl (lv_at hl 0 rfl) ?_
        refine lv_iload_n hx hb d_Mo_ratio_72 rfl (lv_at hl 1 rfl) ?_
        refine lv_i2l hx hb d_Mo_ratio_73 rfl ?_
        have hs10 := hok.1
        have hok := hok.2
        have hB : SubW g (inW ws0) s (wMo g mo a o_6 now dr pa sa iS bu tq rT wT wo sK sA sB sE oq bS bE bL rp) _ (List.range _) _ _ := (subF hP hD hS)
        refine goL0 hB (run_v C mf_Mo_ohmsOf qm_Mo_162 (c_Mo_ohmsOf l g mo a o_6 now dr pa sa iS bu tq rT wT wo sK sA sB sE oq bS bE bL rp p1.toInt64 hs10) rfl rfl ⟨Nat.le_of_ble_eq_true rfl, Nat.le_of_ble_eq_true rfl⟩ ⟨Nat.le_of_ble_eq_true rfl, Nat.le_of_ble_eq_true rfl⟩ hB rfl rfl hl rfl rfl (Nat.le_of_ble_eq_true rfl) d_Mo_ratio_74) (fun y11 ey11 H locs hP hS => ?_)
        have hz := lett_z hz ey11
        exact k_Mo_ratio_77 C y11 trivial _ hz _ _ ls hP hD hS (lv_sub hl [] rfl)
      · have hz := hz.trans (if_pos c9)
        have hok := hok.1 c9
        refine lv_aload_n hx hb d_Mo_ratio_59 rfl (lv_at hl 0 rfl) ?_
        refine gf C hP 0 0 fkMo rfl (by decide) rfl qf_Mo_7 (gMo_0 _ _) d_Mo_ratio_60 ?_
        refine lv_bipush (v := 7) hx hb d_Mo_ratio_63 (by decide) ?_
        refine lv_iload_n hx hb d_Mo_ratio_65 rfl (lv_at hl 1 rfl) ?_
        refine lv_iadd hx hb d_Mo_ratio_66 ?_
        have hs12 := hok.1
        have hok := hok.2
        refine ldL C hP 1 rfl hs12 rfl d_Mo_ratio_67 ?_
        refine lv_goto (tgt := 77) hx hb d_Mo_ratio_68 (by decide) ?_
        exact k_Mo_ratio_77 C (now ((7 : Int32) + p1).toNatClampNeg) trivial _ hz _ _ ls hP hD hS (lv_sub hl [] rfl)
    · have hz := hz.trans (if_pos c8)
      have hok := hok.1 c8
      refine lv_iload_n hx hb d_Mo_ratio_46 rfl (lv_at hl 1 rfl) ?_
      refine lv_i2l hx hb d_Mo_ratio_47 rfl ?_
      have hs13 := hok.1
      have hok := hok.2
      have hB : SubW g (inW ws0) s (wMo g mo a o_6 now dr pa sa iS bu tq rT wT wo sK sA sB sE oq bS bE bL rp) _ (List.range _) _ _ := (subF hP hD hS)
      refine goL0 hB (run_s C mf_Mo_nominal qm_Mo_126 (c_Mo_nominal l g mo a o_6 now dr pa sa iS bu tq rT wT wo sK sA sB sE oq bS bE bL rp p1.toInt64 hs13) rfl rfl ⟨Nat.le_of_ble_eq_true rfl, Nat.le_of_ble_eq_true rfl⟩ ⟨Nat.le_of_ble_eq_true rfl, Nat.le_of_ble_eq_true rfl⟩ hB hl rfl rfl (Nat.le_of_ble_eq_true rfl) d_Mo_ratio_48) (fun y14 ey14 H locs hP hS => ?_)
      have hz := lett_z hz ey14
      refine lv_goto (tgt := 77) hx hb d_Mo_ratio_51 (by decide) ?_
      exact k_Mo_ratio_77 C y14 trivial _ hz _ _ ls hP hD hS (lv_sub hl [] rfl)
  · have hz := hz.trans (if_neg c7)
    refine lv_iconst (v := 0) hx hb d_Mo_ratio_40 (by decide) ?_
    exact endI1 C hz hP hS d_Mo_ratio_41
noncomputable def sp_Mo_ratio (p1 : Int32) (p2 : Int32) (o : IV) (now : LV) : Int32 × IV := lett (sp_Mo_isKind p1.toInt64) fun (y2 : Int32) => if y2 = 0 then (sp_Mo_ratio_30 o p2 p1 now (1 : Int32)) else (lett (sp_Mo_in p2.toInt64 (0 : Int64) (2 : Int64)) fun (y4 : Int32) => if y4 = 0 then (sp_Mo_ratio_30 o p2 p1 now (2 : Int32)) else (sp_Mo_ratio_30 o p2 p1 now (0 : Int32)))
def ok_Mo_ratio (p1 : Int32) (p2 : Int32) (o : IV) (now : LV) : Prop := (ok_Mo_isKind p1.toInt64) ∧ lett (sp_Mo_isKind p1.toInt64) fun (y2 : Int32) => ((y2 = 0 → ok_Mo_ratio_30 o p2 p1 now (1 : Int32)) ∧ (¬ (y2 = 0) → lett (sp_Mo_in p2.toInt64 (0 : Int64) (2 : Int64)) fun (y4 : Int32) => ((y4 = 0 → ok_Mo_ratio_30 o p2 p1 now (2 : Int32)) ∧ (¬ (y4 = 0) → ok_Mo_ratio_30 o p2 p1 now (0 : Int32)))))
set_option maxRecDepth 100000 in
set_option maxHeartbeats 4000000 in
theorem c_Mo_ratio (l : Launch) (g : GX) (mo : Nat) (a : Nat → Nat) (o : IV) (now : LV) (dr : LV) (pa : LV) (sa : LV) (iS : IV) (bu : IV) (tq : IV) (rT : IV) (wT : IV) (wo : Nat → Option Nat) (sK : IV) (sA : IV) (sB : IV) (sE : IV) (oq : IV) (bS : IV) (bE : IV) (bL : IV) (rp : IV) (p1 : Int32) (p2 : Int32) (hok : ok_Mo_ratio p1 p2 o now) : Met l y_Mo_ratio (wsY y_Mo_ratio b_Mo_ratio 3 (some .int)) rm_Mo_ratio (CP g [.ref mo, .int p1, .int p2] (wMo g mo a o now dr pa sa iS bu tq rT wT wo sK sA sB sE oq bS bE bL rp)) (CI g (wMo g mo a o now dr pa sa iS bu tq rT wT wo sK sA sB sE oq bS bE bL rp) (fun u : IV => wMo g mo a u now dr pa sa iS bu tq rT wT wo sK sA sB sE oq bS bE bL rp) (sp_Mo_ratio p1 p2 o now)) 0 0 (inW (wMo g mo a o now dr pa sa iS bu tq rT wT wo sK sA sB sE oq bS bE bL rp)) := by
  refine Met.ofW (cc := b_Mo_ratio) (maxL := 3) (ret := (some .int)) pn_Mo rfl ?_
  intro p e s m args below meth c s₁ B hml hv
  obtain ⟨rfl, C, hP, hD, hS⟩ := enter "DecadeBridgeModel" rfl B hml hv
  obtain ⟨hx, hb, hr, hml, hown, hlk, hts, hK, hZo, hZ⟩ := id C
  refine entryW (lv := [(0, .ref mo), (1, .int p1), (2, .int p2)]) rfl (Nat.le_of_ble_eq_true rfl) (fun ls hl => ?_)
  obtain ⟨z, hz⟩ : ∃ z, z = sp_Mo_ratio p1 p2 o now := ⟨_, rfl⟩
  rw [← hz]
  unfold sp_Mo_ratio at hz
  unfold ok_Mo_ratio at hok
  refine lv_aload_n hx hb d_Mo_ratio_0 rfl (lv_at hl 0 rfl) ?_
  refine lv_iload_n hx hb d_Mo_ratio_1 rfl (lv_at hl 1 rfl) ?_
  refine lv_i2l hx hb d_Mo_ratio_2 rfl ?_
  have hs1 := hok.1
  have hok := hok.2
  have hB : SubW g (inW (wMo g mo a o now dr pa sa iS bu tq rT wT wo sK sA sB sE oq bS bE bL rp)) s (wMo g mo a o now dr pa sa iS bu tq rT wT wo sK sA sB sE oq bS bE bL rp) _ (List.range _) _ _ := (subF hP hD hS)
  refine goI0 hB (run_s C mf_Mo_isKind qm_Mo_423 (c_Mo_isKind l g mo a o now dr pa sa iS bu tq rT wT wo sK sA sB sE oq bS bE bL rp p1.toInt64 hs1) rfl rfl ⟨Nat.le_of_ble_eq_true rfl, Nat.le_of_ble_eq_true rfl⟩ ⟨Nat.le_of_ble_eq_true rfl, Nat.le_of_ble_eq_true rfl⟩ hB hl rfl rfl (Nat.le_of_ble_eq_true rfl) d_Mo_ratio_3) (fun y2 ey2 H locs hP hS => ?_)
  have hz := lett_z hz ey2
  have hok := lett_o hok ey2
  refine lv_if_ne (tgt := 13) hx hb d_Mo_ratio_6 (by decide) (fun c3 => ?_) (fun c3 => ?_)
  · have hz := hz.trans (if_neg c3)
    have hok := hok.2 c3
    refine lv_iload_n hx hb d_Mo_ratio_13 rfl (lv_at hl 2 rfl) ?_
    refine lv_i2l hx hb d_Mo_ratio_14 rfl ?_
    refine lv_lconst (v := 0) hx hb d_Mo_ratio_15 (by decide) ?_
    refine lv_ldc2 hx hb hown (hts _ qk_Mo_100) d_Mo_ratio_16 ?_
    have hB : SubW g (inW (wMo g mo a o now dr pa sa iS bu tq rT wT wo sK sA sB sE oq bS bE bL rp)) s (wMo g mo a o now dr pa sa iS bu tq rT wT wo sK sA sB sE oq bS bE bL rp) _ (List.range _) _ _ := (subF hP hD hS)
    refine goI0 hB (run_s C mf_Mo_in qm_Mo_118 (c_Mo_in l g mo a o now dr pa sa iS bu tq rT wT wo sK sA sB sE oq bS bE bL rp p2.toInt64 (0 : Int64) (2 : Int64)) rfl rfl ⟨Nat.le_of_ble_eq_true rfl, Nat.le_of_ble_eq_true rfl⟩ ⟨Nat.le_of_ble_eq_true rfl, Nat.le_of_ble_eq_true rfl⟩ hB hl rfl rfl (Nat.le_of_ble_eq_true rfl) d_Mo_ratio_19) (fun y4 ey4 H locs hP hS => ?_)
    have hz := lett_z hz ey4
    have hok := lett_o hok ey4
    refine lv_if_eq (tgt := 29) hx hb d_Mo_ratio_22 (by decide) (fun c5 => ?_) (fun c5 => ?_)
    · have hz := hz.trans (if_pos c5)
      have hok := hok.1 c5
      refine lv_iconst (v := 2) hx hb d_Mo_ratio_29 (by decide) ?_
      exact k_Mo_ratio_30 C (2 : Int32) hok _ hz _ _ ls hP hD hS hl
    · have hz := hz.trans (if_neg c5)
      have hok := hok.2 c5
      refine lv_iconst (v := 0) hx hb d_Mo_ratio_25 (by decide) ?_
      refine lv_goto (tgt := 30) hx hb d_Mo_ratio_26 (by decide) ?_
      exact k_Mo_ratio_30 C (0 : Int32) hok _ hz _ _ ls hP hD hS hl
  · have hz := hz.trans (if_pos c3)
    have hok := hok.1 c3
    refine lv_iconst (v := 1) hx hb d_Mo_ratio_9 (by decide) ?_
    refine lv_goto (tgt := 30) hx hb d_Mo_ratio_10 (by decide) ?_
    exact k_Mo_ratio_30 C (1 : Int32) hok _ hz _ _ ls hP hD hS hl
abbrev rm_Mo_decade : Room := { frames := 2, cells := 0, slots := 0, locals := 44 }
def HL_Mo_decade_38 (p : Program) (l : Launch) (e : Env) (s : State) (m : MethodId) (args : Array Value) (below : List Frame) (meth : Method) (c : Code) (g : GX) (mo : Nat) (a : Nat → Nat) (ws0 : va_W) (o : IV) (now : LV) (dr : LV) (pa : LV) (sa : LV) (iS : IV) (bu : IV) (tq : IV) (rT : IV) (wT : IV) (wo : Nat → Option Nat) (sK : IV) (sA : IV) (sB : IV) (sE : IV) (oq : IV) (bS : IV) (bE : IV) (bL : IV) (rp : IV) (p1 : Int32) (p2 : Int32) (sp : Int32 → (Int32 × IV)) (ok : Int32 → Prop) : Prop := ∀ (t1p38 : Int32), ok t1p38 → ∀ z : (Int32 × IV), z = sp t1p38 → ∀ (H : Heap) (locs : List Loc) (ls : Array Slot), va_P g.1 vwCl (wMo g mo a o now dr pa sa iS bu tq rT wT wo sK sA sB sE oq bS bE bL rp) H → va_D (inW ws0) (wMo g mo a o now dr pa sa iS bu tq rT wT wo sK sA sB sE oq bS bE bL rp) → va_S (inW ws0) s.heap H locs → lv_has ls 3 [(0, .ref mo), (1, .int p1), (2, .int p2)] → W p l e rm_Mo_decade s m args below meth c H locs 0 0 (MQ below (CI g ws0 (fun u : IV => wMo g mo a u now dr pa sa iS bu tq rT wT wo sK sA sB sE oq bS bE bL rp) z) args s 0 0 (inW ws0)) (F0 m 38 ls [.int t1p38, .ref mo])
def HL_Mo_decade_87 (p : Program) (l : Launch) (e : Env) (s : State) (m : MethodId) (args : Array Value) (below : List Frame) (meth : Method) (c : Code) (g : GX) (mo : Nat) (a : Nat → Nat) (ws0 : va_W) (o_6 : IV) (now : LV) (dr : LV) (pa : LV) (sa : LV) (iS : IV) (bu : IV) (tq : IV) (rT : IV) (wT : IV) (wo : Nat → Option Nat) (sK : IV) (sA : IV) (sB : IV) (sE : IV) (oq : IV) (bS : IV) (bE : IV) (bL : IV) (rp : IV) (sp : Int64 → (Int32 × IV)) (ok : Int64 → Prop) : Prop := ∀ (t0p87 : Int64), ok t0p87 → ∀ z : (Int32 × IV), z = sp t0p87 → ∀ (H : Heap) (locs : List Loc) (ls : Array Slot), va_P g.1 vwCl (wMo g mo a o_6 now dr pa sa iS bu tq rT wT wo sK sA sB sE oq bS bE bL rp) H → va_D (inW ws0) (wMo g mo a o_6 now dr pa sa iS bu tq rT wT wo sK sA sB sE oq bS bE bL rp) → va_S (inW ws0) s.heap H locs → lv_has ls 3 [] → W p l e rm_Mo_decade s m args below meth c H locs 0 0 (MQ below (CI g ws0 (fun u : IV => wMo g mo a u now dr pa sa iS bu tq rT wT wo sK sA sB sE oq bS bE bL rp) z) args s 0 0 (inW ws0)) (F0 m 87 ls [.long t0p87])
noncomputable def sp_Mo_decade_87 (o_6 : IV)  (t0p87 : Int64) : Int32 × IV := (t0p87.toInt32, o_6)
def ok_Mo_decade_87 (o_6 : IV)   (t0p87 : Int64) : Prop := True
set_option maxRecDepth 100000 in
set_option maxHeartbeats 4000000 in
theorem k_Mo_decade_87 {p : Program} {l : Launch} {e : Env} {s : State} {m : MethodId} {args : Array Value} {below : List Frame} {meth : Method} {c : Code} {g : GX} {mo : Nat} {a : Nat → Nat} {ws0 : va_W} {o_6 : IV} {now : LV} {dr : LV} {pa : LV} {sa : LV} {iS : IV} {bu : IV} {tq : IV} {rT : IV} {wT : IV} {wo : Nat → Option Nat} {sK : IV} {sA : IV} {sB : IV} {sE : IV} {oq : IV} {bS : IV} {bE : IV} {bL : IV} {rp : IV}  (C : Cx p s m args meth c (inW ws0) g "DecadeBridgeModel" b_Mo_decade (some .int) 3)  : HL_Mo_decade_87 p l e s m args below meth c g mo a ws0 o_6 now dr pa sa iS bu tq rT wT wo sK sA sB sE oq bS bE bL rp (sp_Mo_decade_87 o_6 ) (ok_Mo_decade_87 o_6  ) := by
  intro t0p87 hok z hz H locs ls hP hD hS hl
  obtain ⟨hx, hb, hr, hml, hown, hlk, hts, hK, hZo, hZ⟩ := id C
  unfold sp_Mo_decade_87 at hz
  refine lv_l2i hx hb d_Mo_decade_87 rfl ?_
  exact endI1 C hz hP hS d_Mo_decade_88
noncomputable def sp_Mo_decade_38 (o : IV) (p2 : Int32) (p1 : Int32) (now : LV)  (t1p38 : Int32) : Int32 × IV := lett (upd o 6 t1p38) fun (o_6 : IV) => if (o_6 6) ≤ 0 then (if p2 = 0 then (lett (sp_Mo_stepOf p1 now) fun (y13 : Int64) => sp_Mo_decade_87 o_6 y13) else (if p2 = (1 : Int32) then (sp_Mo_decade_87 o_6 (now ((3 : Int32) + p1).toNatClampNeg)) else (sp_Mo_decade_87 o_6 (now ((33 : Int32) + p1).toNatClampNeg)))) else (((0 : Int32), o_6))
def ok_Mo_decade_38 (o : IV) (p2 : Int32) (p1 : Int32) (now : LV)   (t1p38 : Int32) : Prop := lett (upd o 6 t1p38) fun (o_6 : IV) => (((o_6 6) ≤ 0 → ((p2 = 0 → (ok_Mo_stepOf p1 now) ∧ True) ∧ (¬ (p2 = 0) → ((p2 = (1 : Int32) → (vp_in ((3 : Int32) + p1) 215) ∧ True) ∧ (¬ (p2 = (1 : Int32)) → (vp_in ((33 : Int32) + p1) 215) ∧ True))))) ∧ (¬ ((o_6 6) ≤ 0) → True))
set_option maxRecDepth 100000 in
set_option maxHeartbeats 4000000 in
theorem k_Mo_decade_38 {p : Program} {l : Launch} {e : Env} {s : State} {m : MethodId} {args : Array Value} {below : List Frame} {meth : Method} {c : Code} {g : GX} {mo : Nat} {a : Nat → Nat} {ws0 : va_W} {o : IV} {now : LV} {dr : LV} {pa : LV} {sa : LV} {iS : IV} {bu : IV} {tq : IV} {rT : IV} {wT : IV} {wo : Nat → Option Nat} {sK : IV} {sA : IV} {sB : IV} {sE : IV} {oq : IV} {bS : IV} {bE : IV} {bL : IV} {rp : IV} {p1 : Int32} {p2 : Int32}  (C : Cx p s m args meth c (inW ws0) g "DecadeBridgeModel" b_Mo_decade (some .int) 3)  : HL_Mo_decade_38 p l e s m args below meth c g mo a ws0 o now dr pa sa iS bu tq rT wT wo sK sA sB sE oq bS bE bL rp p1 p2 (sp_Mo_decade_38 o p2 p1 now ) (ok_Mo_decade_38 o p2 p1 now  ) := by
  intro t1p38 hok z hz H locs ls hP hD hS hl
  obtain ⟨hx, hb, hr, hml, hown, hlk, hts, hK, hZo, hZ⟩ := id C
  unfold sp_Mo_decade_38 at hz
  unfold ok_Mo_decade_38 at hok
  refine pfI C hP hD hS 0 6 fkMo rfl (by decide) rfl qf_Mo_107 rfl rfl rfl (Nat.le_of_ble_eq_true rfl) (ff := fun o => fMo a o) (sMo_6 _ _ _) d_Mo_decade_38 (fun o_6 eo_6 H locs hP hD hS => ?_)
  have hP : va_P g.1 vwCl (wMo g mo a o_6 now dr pa sa iS bu tq rT wT wo sK sA sB sE oq bS bE bL rp) H := hP
  have hD : va_D (inW ws0) (wMo g mo a o_6 now dr pa sa iS bu tq rT wT wo sK sA sB sE oq bS bE bL rp) := hD
  have hz := lett_z hz eo_6
  have hok := lett_o hok eo_6
  refine lv_aload_n hx hb d_Mo_decade_41 rfl (lv_at hl 0 rfl) ?_
  refine gf C hP 0 6 fkMo rfl (by decide) rfl qf_Mo_107 (gMo_6 _ _) d_Mo_decade_42 ?_
  refine lv_if_le (tgt := 50) hx hb d_Mo_decade_45 (by decide) (fun c7 => ?_) (fun c7 => ?_)
  · have hz := hz.trans (if_pos c7)
    have hok := hok.1 c7
    refine lv_iload_n hx hb d_Mo_decade_50 rfl (lv_at hl 2 rfl) ?_
    refine lv_if_ne (tgt := 62) hx hb d_Mo_decade_51 (by decide) (fun c8 => ?_) (fun c8 => ?_)
    · have hz := hz.trans (if_neg c8)
      have hok := hok.2 c8
      refine lv_iload_n hx hb d_Mo_decade_62 rfl (lv_at hl 2 rfl) ?_
      refine lv_iconst (v := 1) hx hb d_Mo_decade_63 (by decide) ?_
      refine lv_icmp_ne (tgt := 78) hx hb d_Mo_decade_64 (by decide) (fun c9 => ?_) (fun c9 => ?_)
      · have hz := hz.trans (if_neg c9)
        have hok := hok.2 c9
        refine lv_aload_n hx hb d_Mo_decade_78 rfl (lv_at hl 0 rfl) ?_
        refine gf C hP 0 0 fkMo rfl (by decide) rfl qf_Mo_7 (gMo_0 _ _) d_Mo_decade_79 ?_
        refine lv_bipush (v := 33) hx hb d_Mo_decade_82 (by decide) ?_
        refine lv_iload_n hx hb d_Mo_decade_84 rfl (lv_at hl 1 rfl) ?_
        refine lv_iadd hx hb d_Mo_decade_85 ?_
        have hs10 := hok.1
        have hok := hok.2
        refine ldL C hP 1 rfl hs10 rfl d_Mo_decade_86 ?_
        exact k_Mo_decade_87 C (now ((33 : Int32) + p1).toNatClampNeg) trivial _ hz _ _ ls hP hD hS (lv_sub hl [] rfl)
      · have hz := hz.trans (if_pos c9)
        have hok := hok.1 c9
        refine lv_aload_n hx hb d_Mo_decade_67 rfl (lv_at hl 0 rfl) ?_
        refine gf C hP 0 0 fkMo rfl (by decide) rfl qf_Mo_7 (gMo_0 _ _) d_Mo_decade_68 ?_
        refine lv_iconst (v := 3) hx hb d_Mo_decade_71 (by decide) ?_
        refine lv_iload_n hx hb d_Mo_decade_72 rfl (lv_at hl 1 rfl) ?_
        refine lv_iadd hx hb d_Mo_decade_73 ?_
        have hs11 := hok.1
        have hok := hok.2
        refine ldL C hP 1 rfl hs11 rfl d_Mo_decade_74 ?_
        refine lv_goto (tgt := 87) hx hb d_Mo_decade_75 (by decide) ?_
        exact k_Mo_decade_87 C (now ((3 : Int32) + p1).toNatClampNeg) trivial _ hz _ _ ls hP hD hS (lv_sub hl [] rfl)
    · have hz := hz.trans (if_pos c8)
      have hok := hok.1 c8
      refine lv_aload_n hx hb d_Mo_decade_54 rfl (lv_at hl 0 rfl) ?_
      refine lv_iload_n hx hb d_Mo_decade_55 rfl (lv_at hl 1 rfl) ?_
      have hs12 := hok.1
      have hok := hok.2
      have hB : SubW g (inW ws0) s (wMo g mo a o_6 now dr pa sa iS bu tq rT wT wo sK sA sB sE oq bS bE bL rp) _ (List.range _) _ _ := (subF hP hD hS)
      refine goL0 hB (run_v C mf_Mo_stepOf qm_Mo_134 (c_Mo_stepOf l g mo a o_6 now dr pa sa iS bu tq rT wT wo sK sA sB sE oq bS bE bL rp p1 hs12) rfl rfl ⟨Nat.le_of_ble_eq_true rfl, Nat.le_of_ble_eq_true rfl⟩ ⟨Nat.le_of_ble_eq_true rfl, Nat.le_of_ble_eq_true rfl⟩ hB rfl rfl hl rfl rfl (Nat.le_of_ble_eq_true rfl) d_Mo_decade_56) (fun y13 ey13 H locs hP hS => ?_)
      have hz := lett_z hz ey13
      refine lv_goto (tgt := 87) hx hb d_Mo_decade_59 (by decide) ?_
      exact k_Mo_decade_87 C y13 trivial _ hz _ _ ls hP hD hS (lv_sub hl [] rfl)
  · have hz := hz.trans (if_neg c7)
    refine lv_iconst (v := 0) hx hb d_Mo_decade_48 (by decide) ?_
    exact endI1 C hz hP hS d_Mo_decade_49
noncomputable def sp_Mo_decade (p1 : Int32) (p2 : Int32) (o : IV) (now : LV) : Int32 × IV := lett (sp_Mo_decades now) fun (y1 : Int32) => lett (sp_Mo_in p1.toInt64 (0 : Int64) (y1.toInt64 - (1 : Int64))) fun (y2 : Int32) => if y2 = 0 then (sp_Mo_decade_38 o p2 p1 now (1 : Int32)) else (lett (sp_Mo_in p2.toInt64 (0 : Int64) (2 : Int64)) fun (y4 : Int32) => if y4 = 0 then (sp_Mo_decade_38 o p2 p1 now (2 : Int32)) else (sp_Mo_decade_38 o p2 p1 now (0 : Int32)))
def ok_Mo_decade (p1 : Int32) (p2 : Int32) (o : IV) (now : LV) : Prop := lett (sp_Mo_decades now) fun (y1 : Int32) => lett (sp_Mo_in p1.toInt64 (0 : Int64) (y1.toInt64 - (1 : Int64))) fun (y2 : Int32) => ((y2 = 0 → ok_Mo_decade_38 o p2 p1 now (1 : Int32)) ∧ (¬ (y2 = 0) → lett (sp_Mo_in p2.toInt64 (0 : Int64) (2 : Int64)) fun (y4 : Int32) => ((y4 = 0 → ok_Mo_decade_38 o p2 p1 now (2 : Int32)) ∧ (¬ (y4 = 0) → ok_Mo_decade_38 o p2 p1 now (0 : Int32)))))
set_option maxRecDepth 100000 in
set_option maxHeartbeats 4000000 in
theorem c_Mo_decade (l : Launch) (g : GX) (mo : Nat) (a : Nat → Nat) (o : IV) (now : LV) (dr : LV) (pa : LV) (sa : LV) (iS : IV) (bu : IV) (tq : IV) (rT : IV) (wT : IV) (wo : Nat → Option Nat) (sK : IV) (sA : IV) (sB : IV) (sE : IV) (oq : IV) (bS : IV) (bE : IV) (bL : IV) (rp : IV) (p1 : Int32) (p2 : Int32) (hok : ok_Mo_decade p1 p2 o now) : Met l y_Mo_decade (wsY y_Mo_decade b_Mo_decade 3 (some .int)) rm_Mo_decade (CP g [.ref mo, .int p1, .int p2] (wMo g mo a o now dr pa sa iS bu tq rT wT wo sK sA sB sE oq bS bE bL rp)) (CI g (wMo g mo a o now dr pa sa iS bu tq rT wT wo sK sA sB sE oq bS bE bL rp) (fun u : IV => wMo g mo a u now dr pa sa iS bu tq rT wT wo sK sA sB sE oq bS bE bL rp) (sp_Mo_decade p1 p2 o now)) 0 0 (inW (wMo g mo a o now dr pa sa iS bu tq rT wT wo sK sA sB sE oq bS bE bL rp)) := by
  refine Met.ofW (cc := b_Mo_decade) (maxL := 3) (ret := (some .int)) pn_Mo rfl ?_
  intro p e s m args below meth c s₁ B hml hv
  obtain ⟨rfl, C, hP, hD, hS⟩ := enter "DecadeBridgeModel" rfl B hml hv
  obtain ⟨hx, hb, hr, hml, hown, hlk, hts, hK, hZo, hZ⟩ := id C
  refine entryW (lv := [(0, .ref mo), (1, .int p1), (2, .int p2)]) rfl (Nat.le_of_ble_eq_true rfl) (fun ls hl => ?_)
  obtain ⟨z, hz⟩ : ∃ z, z = sp_Mo_decade p1 p2 o now := ⟨_, rfl⟩
  rw [← hz]
  unfold sp_Mo_decade at hz
  unfold ok_Mo_decade at hok
  refine lv_aload_n hx hb d_Mo_decade_0 rfl (lv_at hl 0 rfl) ?_
  refine lv_iload_n hx hb d_Mo_decade_1 rfl (lv_at hl 1 rfl) ?_
  refine lv_i2l hx hb d_Mo_decade_2 rfl ?_
  refine lv_lconst (v := 0) hx hb d_Mo_decade_3 (by decide) ?_
  refine lv_aload_n hx hb d_Mo_decade_4 rfl (lv_at hl 0 rfl) ?_
  have hB : SubW g (inW (wMo g mo a o now dr pa sa iS bu tq rT wT wo sK sA sB sE oq bS bE bL rp)) s (wMo g mo a o now dr pa sa iS bu tq rT wT wo sK sA sB sE oq bS bE bL rp) _ (List.range _) _ _ := (subF hP hD hS)
  refine goI0 hB (run_v C mf_Mo_decades qm_Mo_130 (c_Mo_decades l g mo a o now dr pa sa iS bu tq rT wT wo sK sA sB sE oq bS bE bL rp) rfl rfl ⟨Nat.le_of_ble_eq_true rfl, Nat.le_of_ble_eq_true rfl⟩ ⟨Nat.le_of_ble_eq_true rfl, Nat.le_of_ble_eq_true rfl⟩ hB rfl rfl hl rfl rfl (Nat.le_of_ble_eq_true rfl) d_Mo_decade_5) (fun y1 ey1 H locs hP hS => ?_)
  have hz := lett_z hz ey1
  have hok := lett_o hok ey1
  refine lv_i2l hx hb d_Mo_decade_8 rfl ?_
  refine lv_lconst (v := 1) hx hb d_Mo_decade_9 (by decide) ?_
  refine lv_lsub hx hb d_Mo_decade_10 ?_
  have hB : SubW g (inW (wMo g mo a o now dr pa sa iS bu tq rT wT wo sK sA sB sE oq bS bE bL rp)) s (wMo g mo a o now dr pa sa iS bu tq rT wT wo sK sA sB sE oq bS bE bL rp) _ (List.range _) _ _ := (subF hP hD hS)
  refine goI0 hB (run_s C mf_Mo_in qm_Mo_118 (c_Mo_in l g mo a o now dr pa sa iS bu tq rT wT wo sK sA sB sE oq bS bE bL rp p1.toInt64 (0 : Int64) (y1.toInt64 - (1 : Int64))) rfl rfl ⟨Nat.le_of_ble_eq_true rfl, Nat.le_of_ble_eq_true rfl⟩ ⟨Nat.le_of_ble_eq_true rfl, Nat.le_of_ble_eq_true rfl⟩ hB hl rfl rfl (Nat.le_of_ble_eq_true rfl) d_Mo_decade_11) (fun y2 ey2 H locs hP hS => ?_)
  have hz := lett_z hz ey2
  have hok := lett_o hok ey2
  refine lv_if_ne (tgt := 21) hx hb d_Mo_decade_14 (by decide) (fun c3 => ?_) (fun c3 => ?_)
  · have hz := hz.trans (if_neg c3)
    have hok := hok.2 c3
    refine lv_iload_n hx hb d_Mo_decade_21 rfl (lv_at hl 2 rfl) ?_
    refine lv_i2l hx hb d_Mo_decade_22 rfl ?_
    refine lv_lconst (v := 0) hx hb d_Mo_decade_23 (by decide) ?_
    refine lv_ldc2 hx hb hown (hts _ qk_Mo_100) d_Mo_decade_24 ?_
    have hB : SubW g (inW (wMo g mo a o now dr pa sa iS bu tq rT wT wo sK sA sB sE oq bS bE bL rp)) s (wMo g mo a o now dr pa sa iS bu tq rT wT wo sK sA sB sE oq bS bE bL rp) _ (List.range _) _ _ := (subF hP hD hS)
    refine goI0 hB (run_s C mf_Mo_in qm_Mo_118 (c_Mo_in l g mo a o now dr pa sa iS bu tq rT wT wo sK sA sB sE oq bS bE bL rp p2.toInt64 (0 : Int64) (2 : Int64)) rfl rfl ⟨Nat.le_of_ble_eq_true rfl, Nat.le_of_ble_eq_true rfl⟩ ⟨Nat.le_of_ble_eq_true rfl, Nat.le_of_ble_eq_true rfl⟩ hB hl rfl rfl (Nat.le_of_ble_eq_true rfl) d_Mo_decade_27) (fun y4 ey4 H locs hP hS => ?_)
    have hz := lett_z hz ey4
    have hok := lett_o hok ey4
    refine lv_if_eq (tgt := 37) hx hb d_Mo_decade_30 (by decide) (fun c5 => ?_) (fun c5 => ?_)
    · have hz := hz.trans (if_pos c5)
      have hok := hok.1 c5
      refine lv_iconst (v := 2) hx hb d_Mo_decade_37 (by decide) ?_
      exact k_Mo_decade_38 C (2 : Int32) hok _ hz _ _ ls hP hD hS hl
    · have hz := hz.trans (if_neg c5)
      have hok := hok.2 c5
      refine lv_iconst (v := 0) hx hb d_Mo_decade_33 (by decide) ?_
      refine lv_goto (tgt := 38) hx hb d_Mo_decade_34 (by decide) ?_
      exact k_Mo_decade_38 C (0 : Int32) hok _ hz _ _ ls hP hD hS hl
  · have hz := hz.trans (if_pos c3)
    have hok := hok.1 c3
    refine lv_iconst (v := 1) hx hb d_Mo_decade_17 (by decide) ?_
    refine lv_goto (tgt := 38) hx hb d_Mo_decade_18 (by decide) ?_
    exact k_Mo_decade_38 C (1 : Int32) hok _ hz _ _ ls hP hD hS hl
abbrev rm_Mo_lead : Room := { frames := 1, cells := 0, slots := 0, locals := 25 }
def HL_Mo_lead_18 (p : Program) (l : Launch) (e : Env) (s : State) (m : MethodId) (args : Array Value) (below : List Frame) (meth : Method) (c : Code) (g : GX) (mo : Nat) (a : Nat → Nat) (ws0 : va_W) (o : IV) (now : LV) (dr : LV) (pa : LV) (sa : LV) (iS : IV) (bu : IV) (tq : IV) (rT : IV) (wT : IV) (wo : Nat → Option Nat) (sK : IV) (sA : IV) (sB : IV) (sE : IV) (oq : IV) (bS : IV) (bE : IV) (bL : IV) (rp : IV) (p1 : Int32) (sp : Int32 → (Int32 × IV)) (ok : Int32 → Prop) : Prop := ∀ (t1p18 : Int32), ok t1p18 → ∀ z : (Int32 × IV), z = sp t1p18 → ∀ (H : Heap) (locs : List Loc) (ls : Array Slot), va_P g.1 vwCl (wMo g mo a o now dr pa sa iS bu tq rT wT wo sK sA sB sE oq bS bE bL rp) H → va_D (inW ws0) (wMo g mo a o now dr pa sa iS bu tq rT wT wo sK sA sB sE oq bS bE bL rp) → va_S (inW ws0) s.heap H locs → lv_has ls 2 [(0, .ref mo), (1, .int p1)] → W p l e rm_Mo_lead s m args below meth c H locs 0 0 (MQ below (CI g ws0 (fun u : IV => wMo g mo a u now dr pa sa iS bu tq rT wT wo sK sA sB sE oq bS bE bL rp) z) args s 0 0 (inW ws0)) (F0 m 18 ls [.int t1p18, .ref mo])
noncomputable def sp_Mo_lead_18 (o : IV) (now : LV) (p1 : Int32)  (t1p18 : Int32) : Int32 × IV := lett (upd o 6 t1p18) fun (o_3 : IV) => if (o_3 6) ≤ 0 then (((now ((19 : Int32) + p1).toNatClampNeg).toInt32, o_3)) else (((0 : Int32), o_3))
def ok_Mo_lead_18 (o : IV) (now : LV) (p1 : Int32)   (t1p18 : Int32) : Prop := lett (upd o 6 t1p18) fun (o_3 : IV) => (((o_3 6) ≤ 0 → (vp_in ((19 : Int32) + p1) 215) ∧ True) ∧ (¬ ((o_3 6) ≤ 0) → True))
set_option maxRecDepth 100000 in
set_option maxHeartbeats 4000000 in
theorem k_Mo_lead_18 {p : Program} {l : Launch} {e : Env} {s : State} {m : MethodId} {args : Array Value} {below : List Frame} {meth : Method} {c : Code} {g : GX} {mo : Nat} {a : Nat → Nat} {ws0 : va_W} {o : IV} {now : LV} {dr : LV} {pa : LV} {sa : LV} {iS : IV} {bu : IV} {tq : IV} {rT : IV} {wT : IV} {wo : Nat → Option Nat} {sK : IV} {sA : IV} {sB : IV} {sE : IV} {oq : IV} {bS : IV} {bE : IV} {bL : IV} {rp : IV} {p1 : Int32}  (C : Cx p s m args meth c (inW ws0) g "DecadeBridgeModel" b_Mo_lead (some .int) 2)  : HL_Mo_lead_18 p l e s m args below meth c g mo a ws0 o now dr pa sa iS bu tq rT wT wo sK sA sB sE oq bS bE bL rp p1 (sp_Mo_lead_18 o now p1 ) (ok_Mo_lead_18 o now p1  ) := by
  intro t1p18 hok z hz H locs ls hP hD hS hl
  obtain ⟨hx, hb, hr, hml, hown, hlk, hts, hK, hZo, hZ⟩ := id C
  unfold sp_Mo_lead_18 at hz
  unfold ok_Mo_lead_18 at hok
  refine pfI C hP hD hS 0 6 fkMo rfl (by decide) rfl qf_Mo_107 rfl rfl rfl (Nat.le_of_ble_eq_true rfl) (ff := fun o => fMo a o) (sMo_6 _ _ _) d_Mo_lead_18 (fun o_3 eo_3 H locs hP hD hS => ?_)
  have hP : va_P g.1 vwCl (wMo g mo a o_3 now dr pa sa iS bu tq rT wT wo sK sA sB sE oq bS bE bL rp) H := hP
  have hD : va_D (inW ws0) (wMo g mo a o_3 now dr pa sa iS bu tq rT wT wo sK sA sB sE oq bS bE bL rp) := hD
  have hz := lett_z hz eo_3
  have hok := lett_o hok eo_3
  refine lv_aload_n hx hb d_Mo_lead_21 rfl (lv_at hl 0 rfl) ?_
  refine gf C hP 0 6 fkMo rfl (by decide) rfl qf_Mo_107 (gMo_6 _ _) d_Mo_lead_22 ?_
  refine lv_if_le (tgt := 32) hx hb d_Mo_lead_25 (by decide) (fun c4 => ?_) (fun c4 => ?_)
  · have hz := hz.trans (if_pos c4)
    have hok := hok.1 c4
    refine lv_aload_n hx hb d_Mo_lead_32 rfl (lv_at hl 0 rfl) ?_
    refine gf C hP 0 0 fkMo rfl (by decide) rfl qf_Mo_7 (gMo_0 _ _) d_Mo_lead_33 ?_
    refine lv_bipush (v := 19) hx hb d_Mo_lead_36 (by decide) ?_
    refine lv_iload_n hx hb d_Mo_lead_38 rfl (lv_at hl 1 rfl) ?_
    refine lv_iadd hx hb d_Mo_lead_39 ?_
    have hs5 := hok.1
    have hok := hok.2
    refine ldL C hP 1 rfl hs5 rfl d_Mo_lead_40 ?_
    refine lv_l2i hx hb d_Mo_lead_41 rfl ?_
    exact endI1 C hz hP hS d_Mo_lead_42
  · have hz := hz.trans (if_neg c4)
    refine lv_iconst (v := 0) hx hb d_Mo_lead_28 (by decide) ?_
    refine lv_goto (tgt := 42) hx hb d_Mo_lead_29 (by decide) ?_
    exact endI1 C hz hP hS d_Mo_lead_42
noncomputable def sp_Mo_lead (p1 : Int32) (o : IV) (now : LV) : Int32 × IV := lett (sp_Mo_in p1.toInt64 (0 : Int64) (2 : Int64)) fun (y1 : Int32) => if y1 = 0 then (sp_Mo_lead_18 o now p1 (1 : Int32)) else (sp_Mo_lead_18 o now p1 (0 : Int32))
def ok_Mo_lead (p1 : Int32) (o : IV) (now : LV) : Prop := lett (sp_Mo_in p1.toInt64 (0 : Int64) (2 : Int64)) fun (y1 : Int32) => ((y1 = 0 → ok_Mo_lead_18 o now p1 (1 : Int32)) ∧ (¬ (y1 = 0) → ok_Mo_lead_18 o now p1 (0 : Int32)))
set_option maxRecDepth 100000 in
set_option maxHeartbeats 4000000 in
theorem c_Mo_lead (l : Launch) (g : GX) (mo : Nat) (a : Nat → Nat) (o : IV) (now : LV) (dr : LV) (pa : LV) (sa : LV) (iS : IV) (bu : IV) (tq : IV) (rT : IV) (wT : IV) (wo : Nat → Option Nat) (sK : IV) (sA : IV) (sB : IV) (sE : IV) (oq : IV) (bS : IV) (bE : IV) (bL : IV) (rp : IV) (p1 : Int32) (hok : ok_Mo_lead p1 o now) : Met l y_Mo_lead (wsY y_Mo_lead b_Mo_lead 2 (some .int)) rm_Mo_lead (CP g [.ref mo, .int p1] (wMo g mo a o now dr pa sa iS bu tq rT wT wo sK sA sB sE oq bS bE bL rp)) (CI g (wMo g mo a o now dr pa sa iS bu tq rT wT wo sK sA sB sE oq bS bE bL rp) (fun u : IV => wMo g mo a u now dr pa sa iS bu tq rT wT wo sK sA sB sE oq bS bE bL rp) (sp_Mo_lead p1 o now)) 0 0 (inW (wMo g mo a o now dr pa sa iS bu tq rT wT wo sK sA sB sE oq bS bE bL rp)) := by
  refine Met.ofW (cc := b_Mo_lead) (maxL := 2) (ret := (some .int)) pn_Mo rfl ?_
  intro p e s m args below meth c s₁ B hml hv
  obtain ⟨rfl, C, hP, hD, hS⟩ := enter "DecadeBridgeModel" rfl B hml hv
  obtain ⟨hx, hb, hr, hml, hown, hlk, hts, hK, hZo, hZ⟩ := id C
  refine entryW (lv := [(0, .ref mo), (1, .int p1)]) rfl (Nat.le_of_ble_eq_true rfl) (fun ls hl => ?_)
  obtain ⟨z, hz⟩ : ∃ z, z = sp_Mo_lead p1 o now := ⟨_, rfl⟩
  rw [← hz]
  unfold sp_Mo_lead at hz
  unfold ok_Mo_lead at hok
  refine lv_aload_n hx hb d_Mo_lead_0 rfl (lv_at hl 0 rfl) ?_
  refine lv_iload_n hx hb d_Mo_lead_1 rfl (lv_at hl 1 rfl) ?_
  refine lv_i2l hx hb d_Mo_lead_2 rfl ?_
  refine lv_lconst (v := 0) hx hb d_Mo_lead_3 (by decide) ?_
  refine lv_ldc2 hx hb hown (hts _ qk_Mo_100) d_Mo_lead_4 ?_
  have hB : SubW g (inW (wMo g mo a o now dr pa sa iS bu tq rT wT wo sK sA sB sE oq bS bE bL rp)) s (wMo g mo a o now dr pa sa iS bu tq rT wT wo sK sA sB sE oq bS bE bL rp) _ (List.range _) _ _ := (subF hP hD hS)
  refine goI0 hB (run_s C mf_Mo_in qm_Mo_118 (c_Mo_in l g mo a o now dr pa sa iS bu tq rT wT wo sK sA sB sE oq bS bE bL rp p1.toInt64 (0 : Int64) (2 : Int64)) rfl rfl ⟨Nat.le_of_ble_eq_true rfl, Nat.le_of_ble_eq_true rfl⟩ ⟨Nat.le_of_ble_eq_true rfl, Nat.le_of_ble_eq_true rfl⟩ hB hl rfl rfl (Nat.le_of_ble_eq_true rfl) d_Mo_lead_7) (fun y1 ey1 H locs hP hS => ?_)
  have hz := lett_z hz ey1
  have hok := lett_o hok ey1
  refine lv_if_eq (tgt := 17) hx hb d_Mo_lead_10 (by decide) (fun c2 => ?_) (fun c2 => ?_)
  · have hz := hz.trans (if_pos c2)
    have hok := hok.1 c2
    refine lv_iconst (v := 1) hx hb d_Mo_lead_17 (by decide) ?_
    exact k_Mo_lead_18 C (1 : Int32) hok _ hz _ _ ls hP hD hS hl
  · have hz := hz.trans (if_neg c2)
    have hok := hok.2 c2
    refine lv_iconst (v := 0) hx hb d_Mo_lead_13 (by decide) ?_
    refine lv_goto (tgt := 18) hx hb d_Mo_lead_14 (by decide) ?_
    exact k_Mo_lead_18 C (0 : Int32) hok _ hz _ _ ls hP hD hS hl
abbrev rm_Mo_part : Room := { frames := 5, cells := 0, slots := 0, locals := 113 }
def HL_Mo_part_16 (p : Program) (l : Launch) (e : Env) (s : State) (m : MethodId) (args : Array Value) (below : List Frame) (meth : Method) (c : Code) (g : GX) (mo : Nat) (a : Nat → Nat) (ws0 : va_W) (o_1 : IV) (now : LV) (dr : LV) (pa : LV) (sa : LV) (iS : IV) (bu : IV) (tq : IV) (rT : IV) (wT : IV) (wo : Nat → Option Nat) (sK : IV) (sA : IV) (sB : IV) (sE : IV) (oq : IV) (bS : IV) (bE : IV) (bL : IV) (rp : IV) (p1 : Int32) (p2 : Int32) (sp : Int32 → (Int32 × IV)) (ok : Int32 → Prop) : Prop := ∀ (t0p16 : Int32), ok t0p16 → ∀ z : (Int32 × IV), z = sp t0p16 → ∀ (H : Heap) (locs : List Loc) (ls : Array Slot), va_P g.1 vwCl (wMo g mo a o_1 now dr pa sa iS bu tq rT wT wo sK sA sB sE oq bS bE bL rp) H → va_D (inW ws0) (wMo g mo a o_1 now dr pa sa iS bu tq rT wT wo sK sA sB sE oq bS bE bL rp) → va_S (inW ws0) s.heap H locs → lv_has ls 4 [(0, .ref mo), (1, .int p1), (2, .int p2)] → W p l e rm_Mo_part s m args below meth c H locs 0 0 (MQ below (CI g ws0 (fun u : IV => wMo g mo a u now dr pa sa iS bu tq rT wT wo sK sA sB sE oq bS bE bL rp) z) args s 0 0 (inW ws0)) (F0 m 16 ls [.int t0p16])
def HL_Mo_part_168 (p : Program) (l : Launch) (e : Env) (s : State) (m : MethodId) (args : Array Value) (below : List Frame) (meth : Method) (c : Code) (g : GX) (mo : Nat) (a : Nat → Nat) (ws0 : va_W) (o_1 : IV) (now : LV) (dr : LV) (pa : LV) (sa : LV) (iS : IV) (bu : IV) (tq : IV) (rT : IV) (wT : IV) (wo : Nat → Option Nat) (sK : IV) (sA : IV) (sB : IV) (sE : IV) (oq : IV) (bS : IV) (bE : IV) (bL : IV) (rp : IV) (sp : Int64 → (Int32 × IV)) (ok : Int64 → Prop) : Prop := ∀ (t0p168 : Int64), ok t0p168 → ∀ z : (Int32 × IV), z = sp t0p168 → ∀ (H : Heap) (locs : List Loc) (ls : Array Slot), va_P g.1 vwCl (wMo g mo a o_1 now dr pa sa iS bu tq rT wT wo sK sA sB sE oq bS bE bL rp) H → va_D (inW ws0) (wMo g mo a o_1 now dr pa sa iS bu tq rT wT wo sK sA sB sE oq bS bE bL rp) → va_S (inW ws0) s.heap H locs → lv_has ls 4 [] → W p l e rm_Mo_part s m args below meth c H locs 0 0 (MQ below (CI g ws0 (fun u : IV => wMo g mo a u now dr pa sa iS bu tq rT wT wo sK sA sB sE oq bS bE bL rp) z) args s 0 0 (inW ws0)) (F0 m 168 ls [.long t0p168])
def HL_Mo_part_132 (p : Program) (l : Launch) (e : Env) (s : State) (m : MethodId) (args : Array Value) (below : List Frame) (meth : Method) (c : Code) (g : GX) (mo : Nat) (a : Nat → Nat) (ws0 : va_W) (o_1 : IV) (now : LV) (dr : LV) (pa : LV) (sa : LV) (iS : IV) (bu : IV) (tq : IV) (rT : IV) (wT : IV) (wo : Nat → Option Nat) (sK : IV) (sA : IV) (sB : IV) (sE : IV) (oq : IV) (bS : IV) (bE : IV) (bL : IV) (rp : IV) (sp : Int32 → (Int32 × IV)) (ok : Int32 → Prop) : Prop := ∀ (t1p132 : Int32), ok t1p132 → ∀ z : (Int32 × IV), z = sp t1p132 → ∀ (H : Heap) (locs : List Loc) (ls : Array Slot), va_P g.1 vwCl (wMo g mo a o_1 now dr pa sa iS bu tq rT wT wo sK sA sB sE oq bS bE bL rp) H → va_D (inW ws0) (wMo g mo a o_1 now dr pa sa iS bu tq rT wT wo sK sA sB sE oq bS bE bL rp) → va_S (inW ws0) s.heap H locs → lv_has ls 4 [] → W p l e rm_Mo_part s m args below meth c H locs 0 0 (MQ below (CI g ws0 (fun u : IV => wMo g mo a u now dr pa sa iS bu tq rT wT wo sK sA sB sE oq bS bE bL rp) z) args s 0 0 (inW ws0)) (F0 m 132 ls [.int t1p132, .ref (a 0)])
def HL_Mo_part_103 (p : Program) (l : Launch) (e : Env) (s : State) (m : MethodId) (args : Array Value) (below : List Frame) (meth : Method) (c : Code) (g : GX) (mo : Nat) (a : Nat → Nat) (ws0 : va_W) (o_1 : IV) (now : LV) (dr : LV) (pa : LV) (sa : LV) (iS : IV) (bu : IV) (tq : IV) (rT : IV) (wT : IV) (wo : Nat → Option Nat) (sK : IV) (sA : IV) (sB : IV) (sE : IV) (oq : IV) (bS : IV) (bE : IV) (bL : IV) (rp : IV) (sp : Int64 → (Int32 × IV)) (ok : Int64 → Prop) : Prop := ∀ (t0p103 : Int64), ok t0p103 → ∀ z : (Int32 × IV), z = sp t0p103 → ∀ (H : Heap) (locs : List Loc) (ls : Array Slot), va_P g.1 vwCl (wMo g mo a o_1 now dr pa sa iS bu tq rT wT wo sK sA sB sE oq bS bE bL rp) H → va_D (inW ws0) (wMo g mo a o_1 now dr pa sa iS bu tq rT wT wo sK sA sB sE oq bS bE bL rp) → va_S (inW ws0) s.heap H locs → lv_has ls 4 [] → W p l e rm_Mo_part s m args below meth c H locs 0 0 (MQ below (CI g ws0 (fun u : IV => wMo g mo a u now dr pa sa iS bu tq rT wT wo sK sA sB sE oq bS bE bL rp) z) args s 0 0 (inW ws0)) (F0 m 103 ls [.long t0p103])
def HL_Mo_part_82 (p : Program) (l : Launch) (e : Env) (s : State) (m : MethodId) (args : Array Value) (below : List Frame) (meth : Method) (c : Code) (g : GX) (mo : Nat) (a : Nat → Nat) (ws0 : va_W) (o_1 : IV) (now : LV) (dr : LV) (pa : LV) (sa : LV) (iS : IV) (bu : IV) (tq : IV) (rT : IV) (wT : IV) (wo : Nat → Option Nat) (sK : IV) (sA : IV) (sB : IV) (sE : IV) (oq : IV) (bS : IV) (bE : IV) (bL : IV) (rp : IV) (sp : Int64 → (Int32 × IV)) (ok : Int64 → Prop) : Prop := ∀ (t0p82 : Int64), ok t0p82 → ∀ z : (Int32 × IV), z = sp t0p82 → ∀ (H : Heap) (locs : List Loc) (ls : Array Slot), va_P g.1 vwCl (wMo g mo a o_1 now dr pa sa iS bu tq rT wT wo sK sA sB sE oq bS bE bL rp) H → va_D (inW ws0) (wMo g mo a o_1 now dr pa sa iS bu tq rT wT wo sK sA sB sE oq bS bE bL rp) → va_S (inW ws0) s.heap H locs → lv_has ls 4 [] → W p l e rm_Mo_part s m args below meth c H locs 0 0 (MQ below (CI g ws0 (fun u : IV => wMo g mo a u now dr pa sa iS bu tq rT wT wo sK sA sB sE oq bS bE bL rp) z) args s 0 0 (inW ws0)) (F0 m 82 ls [.long t0p82])
noncomputable def sp_Mo_part_82 (o_1 : IV)  (t0p82 : Int64) : Int32 × IV := (t0p82.toInt32, o_1)
def ok_Mo_part_82 (o_1 : IV)   (t0p82 : Int64) : Prop := True
set_option maxRecDepth 100000 in
set_option maxHeartbeats 4000000 in
theorem k_Mo_part_82 {p : Program} {l : Launch} {e : Env} {s : State} {m : MethodId} {args : Array Value} {below : List Frame} {meth : Method} {c : Code} {g : GX} {mo : Nat} {a : Nat → Nat} {ws0 : va_W} {o_1 : IV} {now : LV} {dr : LV} {pa : LV} {sa : LV} {iS : IV} {bu : IV} {tq : IV} {rT : IV} {wT : IV} {wo : Nat → Option Nat} {sK : IV} {sA : IV} {sB : IV} {sE : IV} {oq : IV} {bS : IV} {bE : IV} {bL : IV} {rp : IV}  (C : Cx p s m args meth c (inW ws0) g "DecadeBridgeModel" b_Mo_part (some .int) 4)  : HL_Mo_part_82 p l e s m args below meth c g mo a ws0 o_1 now dr pa sa iS bu tq rT wT wo sK sA sB sE oq bS bE bL rp (sp_Mo_part_82 o_1 ) (ok_Mo_part_82 o_1  ) := by
  intro t0p82 hok z hz H locs ls hP hD hS hl
  obtain ⟨hx, hb, hr, hml, hown, hlk, hts, hK, hZo, hZ⟩ := id C
  unfold sp_Mo_part_82 at hz
  refine lv_l2i hx hb d_Mo_part_82 rfl ?_
  exact endI1 C hz hP hS d_Mo_part_83
noncomputable def sp_Mo_part_103 (o_1 : IV)  (t0p103 : Int64) : Int32 × IV := (t0p103.toInt32, o_1)
def ok_Mo_part_103 (o_1 : IV)   (t0p103 : Int64) : Prop := True
set_option maxRecDepth 100000 in
set_option maxHeartbeats 4000000 in
theorem k_Mo_part_103 {p : Program} {l : Launch} {e : Env} {s : State} {m : MethodId} {args : Array Value} {below : List Frame} {meth : Method} {c : Code} {g : GX} {mo : Nat} {a : Nat → Nat} {ws0 : va_W} {o_1 : IV} {now : LV} {dr : LV} {pa : LV} {sa : LV} {iS : IV} {bu : IV} {tq : IV} {rT : IV} {wT : IV} {wo : Nat → Option Nat} {sK : IV} {sA : IV} {sB : IV} {sE : IV} {oq : IV} {bS : IV} {bE : IV} {bL : IV} {rp : IV}  (C : Cx p s m args meth c (inW ws0) g "DecadeBridgeModel" b_Mo_part (some .int) 4)  : HL_Mo_part_103 p l e s m args below meth c g mo a ws0 o_1 now dr pa sa iS bu tq rT wT wo sK sA sB sE oq bS bE bL rp (sp_Mo_part_103 o_1 ) (ok_Mo_part_103 o_1  ) := by
  intro t0p103 hok z hz H locs ls hP hD hS hl
  obtain ⟨hx, hb, hr, hml, hown, hlk, hts, hK, hZo, hZ⟩ := id C
  unfold sp_Mo_part_103 at hz
  refine lv_l2i hx hb d_Mo_part_103 rfl ?_
  exact endI1 C hz hP hS d_Mo_part_104
noncomputable def sp_Mo_part_132 (now : LV) (o_1 : IV)  (t1p132 : Int32) : Int32 × IV := ((now t1p132.toNatClampNeg).toInt32, o_1)
def ok_Mo_part_132 (now : LV) (o_1 : IV)   (t1p132 : Int32) : Prop := (vp_in t1p132 215) ∧ True
set_option maxRecDepth 100000 in
set_option maxHeartbeats 4000000 in
theorem k_Mo_part_132 {p : Program} {l : Launch} {e : Env} {s : State} {m : MethodId} {args : Array Value} {below : List Frame} {meth : Method} {c : Code} {g : GX} {mo : Nat} {a : Nat → Nat} {ws0 : va_W} {o_1 : IV} {now : LV} {dr : LV} {pa : LV} {sa : LV} {iS : IV} {bu : IV} {tq : IV} {rT : IV} {wT : IV} {wo : Nat → Option Nat} {sK : IV} {sA : IV} {sB : IV} {sE : IV} {oq : IV} {bS : IV} {bE : IV} {bL : IV} {rp : IV}  (C : Cx p s m args meth c (inW ws0) g "DecadeBridgeModel" b_Mo_part (some .int) 4)  : HL_Mo_part_132 p l e s m args below meth c g mo a ws0 o_1 now dr pa sa iS bu tq rT wT wo sK sA sB sE oq bS bE bL rp (sp_Mo_part_132 now o_1 ) (ok_Mo_part_132 now o_1  ) := by
  intro t1p132 hok z hz H locs ls hP hD hS hl
  obtain ⟨hx, hb, hr, hml, hown, hlk, hts, hK, hZo, hZ⟩ := id C
  unfold sp_Mo_part_132 at hz
  unfold ok_Mo_part_132 at hok
  have hs26 := hok.1
  have hok := hok.2
  refine ldL C hP 1 rfl hs26 rfl d_Mo_part_132 ?_
  refine lv_l2i hx hb d_Mo_part_133 rfl ?_
  exact endI1 C hz hP hS d_Mo_part_134
noncomputable def sp_Mo_part_168 (o_1 : IV)  (t0p168 : Int64) : Int32 × IV := (t0p168.toInt32, o_1)
def ok_Mo_part_168 (o_1 : IV)   (t0p168 : Int64) : Prop := True
set_option maxRecDepth 100000 in
set_option maxHeartbeats 4000000 in
theorem k_Mo_part_168 {p : Program} {l : Launch} {e : Env} {s : State} {m : MethodId} {args : Array Value} {below : List Frame} {meth : Method} {c : Code} {g : GX} {mo : Nat} {a : Nat → Nat} {ws0 : va_W} {o_1 : IV} {now : LV} {dr : LV} {pa : LV} {sa : LV} {iS : IV} {bu : IV} {tq : IV} {rT : IV} {wT : IV} {wo : Nat → Option Nat} {sK : IV} {sA : IV} {sB : IV} {sE : IV} {oq : IV} {bS : IV} {bE : IV} {bL : IV} {rp : IV}  (C : Cx p s m args meth c (inW ws0) g "DecadeBridgeModel" b_Mo_part (some .int) 4)  : HL_Mo_part_168 p l e s m args below meth c g mo a ws0 o_1 now dr pa sa iS bu tq rT wT wo sK sA sB sE oq bS bE bL rp (sp_Mo_part_168 o_1 ) (ok_Mo_part_168 o_1  ) := by
  intro t0p168 hok z hz H locs ls hP hD hS hl
  obtain ⟨hx, hb, hr, hml, hown, hlk, hts, hK, hZo, hZ⟩ := id C
  unfold sp_Mo_part_168 at hz
  refine lv_l2i hx hb d_Mo_part_168 rfl ?_
  exact endI1 C hz hP hS d_Mo_part_169
noncomputable def sp_Mo_part_16 (p2 : Int32) (p1 : Int32) (o_1 : IV) (now : LV)  (t0p16 : Int32) : Int32 × IV := if p2 = (0 : Int32) then (if p1 = 0 then (sp_Mo_part_82 o_1 (now 12)) else (lett (sp_Mo_setting now) fun (y5 : Int32) => lett (sp_Mo_coldBy y5 now) fun (y7 : Int64) => sp_Mo_part_82 o_1 y7)) else (if p2 = (1 : Int32) then (if p1 = 0 then (lett (sp_Mo_unknownWarm now) fun (y9 : Int64) => sp_Mo_part_103 o_1 y9) else (lett (sp_Mo_setting now) fun (y11 : Int32) => lett (sp_Mo_boxWarm y11 now) fun (y13 : Int64) => sp_Mo_part_103 o_1 y13)) else (if p2 = (2 : Int32) then (((now ((t0p16 + p2) - (2 : Int32)).toNatClampNeg).toInt32, o_1)) else (if p2 = (3 : Int32) then (((now ((t0p16 + p2) - (2 : Int32)).toNatClampNeg).toInt32, o_1)) else (if p2 = (4 : Int32) then (((now ((t0p16 + p2) - (2 : Int32)).toNatClampNeg).toInt32, o_1)) else (if p2 = (5 : Int32) then (if p1 = 0 then (sp_Mo_part_132 now o_1 (37 : Int32)) else (sp_Mo_part_132 now o_1 (38 : Int32))) else (if p2 = (6 : Int32) then (if p1 = 0 then (lett (sp_Mo_unknownSide (now 32) now) fun (y19 : Int64) => sp_Mo_part_168 o_1 y19) else (lett (sp_Mo_setting now) fun (y21 : Int32) => lett (sp_Mo_boxSide y21 (now 32) now) fun (y23 : Int64) => sp_Mo_part_168 o_1 y23)) else (lett (sp_Mo_raise (1 : Int32) o_1) fun (y24 : Int32 × IV) => (y24.1, y24.2))))))))
def ok_Mo_part_16 (p2 : Int32) (p1 : Int32) (o_1 : IV) (now : LV)   (t0p16 : Int32) : Prop := ((p2 = (0 : Int32) → ((p1 = 0 → True) ∧ (¬ (p1 = 0) → (ok_Mo_setting now) ∧ lett (sp_Mo_setting now) fun (y5 : Int32) => (ok_Mo_coldBy y5 now) ∧ True))) ∧ (¬ (p2 = (0 : Int32)) → ((p2 = (1 : Int32) → ((p1 = 0 → True) ∧ (¬ (p1 = 0) → (ok_Mo_setting now) ∧ lett (sp_Mo_setting now) fun (y11 : Int32) => (ok_Mo_boxWarm y11 now) ∧ True))) ∧ (¬ (p2 = (1 : Int32)) → ((p2 = (2 : Int32) → (vp_in ((t0p16 + p2) - (2 : Int32)) 215) ∧ True) ∧ (¬ (p2 = (2 : Int32)) → ((p2 = (3 : Int32) → (vp_in ((t0p16 + p2) - (2 : Int32)) 215) ∧ True) ∧ (¬ (p2 = (3 : Int32)) → ((p2 = (4 : Int32) → (vp_in ((t0p16 + p2) - (2 : Int32)) 215) ∧ True) ∧ (¬ (p2 = (4 : Int32)) → ((p2 = (5 : Int32) → ((p1 = 0 → ok_Mo_part_132 now o_1 (37 : Int32)) ∧ (¬ (p1 = 0) → ok_Mo_part_132 now o_1 (38 : Int32)))) ∧ (¬ (p2 = (5 : Int32)) → ((p2 = (6 : Int32) → ((p1 = 0 → True) ∧ (¬ (p1 = 0) → (ok_Mo_setting now) ∧ lett (sp_Mo_setting now) fun (y21 : Int32) => (ok_Mo_boxSide y21 (now 32) now) ∧ True))) ∧ (¬ (p2 = (6 : Int32)) → True))))))))))))))
set_option maxRecDepth 100000 in
set_option maxHeartbeats 4000000 in
theorem k_Mo_part_16 {p : Program} {l : Launch} {e : Env} {s : State} {m : MethodId} {args : Array Value} {below : List Frame} {meth : Method} {c : Code} {g : GX} {mo : Nat} {a : Nat → Nat} {ws0 : va_W} {o_1 : IV} {now : LV} {dr : LV} {pa : LV} {sa : LV} {iS : IV} {bu : IV} {tq : IV} {rT : IV} {wT : IV} {wo : Nat → Option Nat} {sK : IV} {sA : IV} {sB : IV} {sE : IV} {oq : IV} {bS : IV} {bE : IV} {bL : IV} {rp : IV} {p1 : Int32} {p2 : Int32}  (C : Cx p s m args meth c (inW ws0) g "DecadeBridgeModel" b_Mo_part (some .int) 4)  : HL_Mo_part_16 p l e s m args below meth c g mo a ws0 o_1 now dr pa sa iS bu tq rT wT wo sK sA sB sE oq bS bE bL rp p1 p2 (sp_Mo_part_16 p2 p1 o_1 now ) (ok_Mo_part_16 p2 p1 o_1 now  ) := by
  intro t0p16 hok z hz H locs ls hP hD hS hl
  obtain ⟨hx, hb, hr, hml, hown, hlk, hts, hK, hZo, hZ⟩ := id C
  unfold sp_Mo_part_16 at hz
  unfold ok_Mo_part_16 at hok
  refine lv_istore_n (lv' := [(3, .int t0p16), (0, .ref mo), (1, .int p1), (2, .int p2)]) hx hb d_Mo_part_16 rfl hl (by decide) rfl (fun ls hl => ?_)
  refine lv_iload_n hx hb d_Mo_part_17 rfl (lv_at hl 3 rfl) ?_
  by_cases c25_0 : p2 = (0 : Int32)
  · have hz := hz.trans (if_pos c25_0)
    have hok := hok.1 c25_0
    refine lv_tableIn (x := p2) (off := 42) (tgt := 60) hx hb d_Mo_part_18 (by rw [c25_0]; decide) (by rw [c25_0]; decide) (by rw [c25_0]; rfl) (by decide) ?_
    refine lv_iload_n hx hb d_Mo_part_60 rfl (lv_at hl 2 rfl) ?_
    refine lv_if_eq (tgt := 75) hx hb d_Mo_part_61 (by decide) (fun c3 => ?_) (fun c3 => ?_)
    · have hz := hz.trans (if_pos c3)
      refine lv_aload_n hx hb d_Mo_part_75 rfl (lv_at hl 1 rfl) ?_
      refine gf C hP 0 0 fkMo rfl (by decide) rfl qf_Mo_7 (gMo_0 _ _) d_Mo_part_76 ?_
      refine lv_bipush (v := 12) hx hb d_Mo_part_79 (by decide) ?_
      refine ldL C hP 1 rfl vi_12_215 cn_12 d_Mo_part_81 ?_
      exact k_Mo_part_82 C (now 12) trivial _ hz _ _ ls hP hD hS (lv_sub hl [] rfl)
    · have hz := hz.trans (if_neg c3)
      have hok := hok.2 c3
      refine lv_aload_n hx hb d_Mo_part_64 rfl (lv_at hl 1 rfl) ?_
      refine lv_aload_n hx hb d_Mo_part_65 rfl (lv_at hl 1 rfl) ?_
      have hs4 := hok.1
      have hok := hok.2
      have hB : SubW g (inW ws0) s (wMo g mo a o_1 now dr pa sa iS bu tq rT wT wo sK sA sB sE oq bS bE bL rp) _ (List.range _) _ _ := (subF hP hD hS)
      refine goI0 hB (run_v C mf_Mo_setting qm_Mo_176 (c_Mo_setting l g mo a o_1 now dr pa sa iS bu tq rT wT wo sK sA sB sE oq bS bE bL rp hs4) rfl rfl ⟨Nat.le_of_ble_eq_true rfl, Nat.le_of_ble_eq_true rfl⟩ ⟨Nat.le_of_ble_eq_true rfl, Nat.le_of_ble_eq_true rfl⟩ hB rfl rfl hl rfl rfl (Nat.le_of_ble_eq_true rfl) d_Mo_part_66) (fun y5 ey5 H locs hP hS => ?_)
      have hz := lett_z hz ey5
      have hok := lett_o hok ey5
      have hs6 := hok.1
      have hok := hok.2
      have hB : SubW g (inW ws0) s (wMo g mo a o_1 now dr pa sa iS bu tq rT wT wo sK sA sB sE oq bS bE bL rp) _ (List.range _) _ _ := (subF hP hD hS)
      refine goL0 hB (run_v C mf_Mo_coldBy qm_Mo_143 (c_Mo_coldBy l g mo a o_1 now dr pa sa iS bu tq rT wT wo sK sA sB sE oq bS bE bL rp y5 hs6) rfl rfl ⟨Nat.le_of_ble_eq_true rfl, Nat.le_of_ble_eq_true rfl⟩ ⟨Nat.le_of_ble_eq_true rfl, Nat.le_of_ble_eq_true rfl⟩ hB rfl rfl hl rfl rfl (Nat.le_of_ble_eq_true rfl) d_Mo_part_69) (fun y7 ey7 H locs hP hS => ?_)
      have hz := lett_z hz ey7
      refine lv_goto (tgt := 82) hx hb d_Mo_part_72 (by decide) ?_
      exact k_Mo_part_82 C y7 trivial _ hz _ _ ls hP hD hS (lv_sub hl [] rfl)
  have hz := hz.trans (if_neg c25_0)
  have hok := hok.2 c25_0
  by_cases c25_1 : p2 = (1 : Int32)
  · have hz := hz.trans (if_pos c25_1)
    have hok := hok.1 c25_1
    refine lv_tableIn (x := p2) (off := 66) (tgt := 84) hx hb d_Mo_part_18 (by rw [c25_1]; decide) (by rw [c25_1]; decide) (by rw [c25_1]; rfl) (by decide) ?_
    refine lv_iload_n hx hb d_Mo_part_84 rfl (lv_at hl 2 rfl) ?_
    refine lv_if_eq (tgt := 99) hx hb d_Mo_part_85 (by decide) (fun c8 => ?_) (fun c8 => ?_)
    · have hz := hz.trans (if_pos c8)
      refine lv_aload_n hx hb d_Mo_part_99 rfl (lv_at hl 1 rfl) ?_
      have hB : SubW g (inW ws0) s (wMo g mo a o_1 now dr pa sa iS bu tq rT wT wo sK sA sB sE oq bS bE bL rp) _ (List.range _) _ _ := (subF hP hD hS)
      refine goL0 hB (run_v C mf_Mo_unknownWarm qm_Mo_146 (c_Mo_unknownWarm l g mo a o_1 now dr pa sa iS bu tq rT wT wo sK sA sB sE oq bS bE bL rp) rfl rfl ⟨Nat.le_of_ble_eq_true rfl, Nat.le_of_ble_eq_true rfl⟩ ⟨Nat.le_of_ble_eq_true rfl, Nat.le_of_ble_eq_true rfl⟩ hB rfl rfl hl rfl rfl (Nat.le_of_ble_eq_true rfl) d_Mo_part_100) (fun y9 ey9 H locs hP hS => ?_)
      have hz := lett_z hz ey9
      exact k_Mo_part_103 C y9 trivial _ hz _ _ ls hP hD hS (lv_sub hl [] rfl)
    · have hz := hz.trans (if_neg c8)
      have hok := hok.2 c8
      refine lv_aload_n hx hb d_Mo_part_88 rfl (lv_at hl 1 rfl) ?_
      refine lv_aload_n hx hb d_Mo_part_89 rfl (lv_at hl 1 rfl) ?_
      have hs10 := hok.1
      have hok := hok.2
      have hB : SubW g (inW ws0) s (wMo g mo a o_1 now dr pa sa iS bu tq rT wT wo sK sA sB sE oq bS bE bL rp) _ (List.range _) _ _ := (subF hP hD hS)
      refine goI0 hB (run_v C mf_Mo_setting qm_Mo_176 (c_Mo_setting l g mo a o_1 now dr pa sa iS bu tq rT wT wo sK sA sB sE oq bS bE bL rp hs10) rfl rfl ⟨Nat.le_of_ble_eq_true rfl, Nat.le_of_ble_eq_true rfl⟩ ⟨Nat.le_of_ble_eq_true rfl, Nat.le_of_ble_eq_true rfl⟩ hB rfl rfl hl rfl rfl (Nat.le_of_ble_eq_true rfl) d_Mo_part_90) (fun y11 ey11 H locs hP hS => ?_)
      have hz := lett_z hz ey11
      have hok := lett_o hok ey11
      have hs12 := hok.1
      have hok := hok.2
      have hB : SubW g (inW ws0) s (wMo g mo a o_1 now dr pa sa iS bu tq rT wT wo sK sA sB sE oq bS bE bL rp) _ (List.range _) _ _ := (subF hP hD hS)
      refine goL0 hB (run_v C mf_Mo_boxWarm qm_Mo_150 (c_Mo_boxWarm l g mo a o_1 now dr pa sa iS bu tq rT wT wo sK sA sB sE oq bS bE bL rp y11 hs12) rfl rfl ⟨Nat.le_of_ble_eq_true rfl, Nat.le_of_ble_eq_true rfl⟩ ⟨Nat.le_of_ble_eq_true rfl, Nat.le_of_ble_eq_true rfl⟩ hB rfl rfl hl rfl rfl (Nat.le_of_ble_eq_true rfl) d_Mo_part_93) (fun y13 ey13 H locs hP hS => ?_)
      have hz := lett_z hz ey13
      refine lv_goto (tgt := 103) hx hb d_Mo_part_96 (by decide) ?_
      exact k_Mo_part_103 C y13 trivial _ hz _ _ ls hP hD hS (lv_sub hl [] rfl)
  have hz := hz.trans (if_neg c25_1)
  have hok := hok.2 c25_1
  by_cases c25_2 : p2 = (2 : Int32)
  · have hz := hz.trans (if_pos c25_2)
    have hok := hok.1 c25_2
    refine lv_tableIn (x := p2) (off := 87) (tgt := 105) hx hb d_Mo_part_18 (by rw [c25_2]; decide) (by rw [c25_2]; decide) (by rw [c25_2]; rfl) (by decide) ?_
    refine lv_aload_n hx hb d_Mo_part_105 rfl (lv_at hl 1 rfl) ?_
    refine gf C hP 0 0 fkMo rfl (by decide) rfl qf_Mo_7 (gMo_0 _ _) d_Mo_part_106 ?_
    refine lv_iload_n hx hb d_Mo_part_109 rfl (lv_at hl 0 rfl) ?_
    refine lv_iload_n hx hb d_Mo_part_110 rfl (lv_at hl 3 rfl) ?_
    refine lv_iadd hx hb d_Mo_part_111 ?_
    refine lv_iconst (v := 2) hx hb d_Mo_part_112 (by decide) ?_
    refine lv_isub hx hb d_Mo_part_113 ?_
    have hs14 := hok.1
    have hok := hok.2
    refine ldL C hP 1 rfl hs14 rfl d_Mo_part_114 ?_
    refine lv_l2i hx hb d_Mo_part_115 rfl ?_
    exact endI1 C hz hP hS d_Mo_part_116
  have hz := hz.trans (if_neg c25_2)
  have hok := hok.2 c25_2
  by_cases c25_3 : p2 = (3 : Int32)
  · have hz := hz.trans (if_pos c25_3)
    have hok := hok.1 c25_3
    refine lv_tableIn (x := p2) (off := 87) (tgt := 105) hx hb d_Mo_part_18 (by rw [c25_3]; decide) (by rw [c25_3]; decide) (by rw [c25_3]; rfl) (by decide) ?_
    refine lv_aload_n hx hb d_Mo_part_105 rfl (lv_at hl 1 rfl) ?_
    refine gf C hP 0 0 fkMo rfl (by decide) rfl qf_Mo_7 (gMo_0 _ _) d_Mo_part_106 ?_
    refine lv_iload_n hx hb d_Mo_part_109 rfl (lv_at hl 0 rfl) ?_
    refine lv_iload_n hx hb d_Mo_part_110 rfl (lv_at hl 3 rfl) ?_
    refine lv_iadd hx hb d_Mo_part_111 ?_
    refine lv_iconst (v := 2) hx hb d_Mo_part_112 (by decide) ?_
    refine lv_isub hx hb d_Mo_part_113 ?_
    have hs15 := hok.1
    have hok := hok.2
    refine ldL C hP 1 rfl hs15 rfl d_Mo_part_114 ?_
    refine lv_l2i hx hb d_Mo_part_115 rfl ?_
    exact endI1 C hz hP hS d_Mo_part_116
  have hz := hz.trans (if_neg c25_3)
  have hok := hok.2 c25_3
  by_cases c25_4 : p2 = (4 : Int32)
  · have hz := hz.trans (if_pos c25_4)
    have hok := hok.1 c25_4
    refine lv_tableIn (x := p2) (off := 87) (tgt := 105) hx hb d_Mo_part_18 (by rw [c25_4]; decide) (by rw [c25_4]; decide) (by rw [c25_4]; rfl) (by decide) ?_
    refine lv_aload_n hx hb d_Mo_part_105 rfl (lv_at hl 1 rfl) ?_
    refine gf C hP 0 0 fkMo rfl (by decide) rfl qf_Mo_7 (gMo_0 _ _) d_Mo_part_106 ?_
    refine lv_iload_n hx hb d_Mo_part_109 rfl (lv_at hl 0 rfl) ?_
    refine lv_iload_n hx hb d_Mo_part_110 rfl (lv_at hl 3 rfl) ?_
    refine lv_iadd hx hb d_Mo_part_111 ?_
    refine lv_iconst (v := 2) hx hb d_Mo_part_112 (by decide) ?_
    refine lv_isub hx hb d_Mo_part_113 ?_
    have hs16 := hok.1
    have hok := hok.2
    refine ldL C hP 1 rfl hs16 rfl d_Mo_part_114 ?_
    refine lv_l2i hx hb d_Mo_part_115 rfl ?_
    exact endI1 C hz hP hS d_Mo_part_116
  have hz := hz.trans (if_neg c25_4)
  have hok := hok.2 c25_4
  by_cases c25_5 : p2 = (5 : Int32)
  · have hz := hz.trans (if_pos c25_5)
    have hok := hok.1 c25_5
    refine lv_tableIn (x := p2) (off := 99) (tgt := 117) hx hb d_Mo_part_18 (by rw [c25_5]; decide) (by rw [c25_5]; decide) (by rw [c25_5]; rfl) (by decide) ?_
    refine lv_aload_n hx hb d_Mo_part_117 rfl (lv_at hl 1 rfl) ?_
    refine gf C hP 0 0 fkMo rfl (by decide) rfl qf_Mo_7 (gMo_0 _ _) d_Mo_part_118 ?_
    refine lv_iload_n hx hb d_Mo_part_121 rfl (lv_at hl 2 rfl) ?_
    refine lv_if_eq (tgt := 130) hx hb d_Mo_part_122 (by decide) (fun c17 => ?_) (fun c17 => ?_)
    · have hz := hz.trans (if_pos c17)
      have hok := hok.1 c17
      refine lv_bipush (v := 37) hx hb d_Mo_part_130 (by decide) ?_
      exact k_Mo_part_132 C (37 : Int32) hok _ hz _ _ ls hP hD hS (lv_sub hl [] rfl)
    · have hz := hz.trans (if_neg c17)
      have hok := hok.2 c17
      refine lv_bipush (v := 38) hx hb d_Mo_part_125 (by decide) ?_
      refine lv_goto (tgt := 132) hx hb d_Mo_part_127 (by decide) ?_
      exact k_Mo_part_132 C (38 : Int32) hok _ hz _ _ ls hP hD hS (lv_sub hl [] rfl)
  have hz := hz.trans (if_neg c25_5)
  have hok := hok.2 c25_5
  by_cases c25_6 : p2 = (6 : Int32)
  · have hz := hz.trans (if_pos c25_6)
    have hok := hok.1 c25_6
    refine lv_tableIn (x := p2) (off := 117) (tgt := 135) hx hb d_Mo_part_18 (by rw [c25_6]; decide) (by rw [c25_6]; decide) (by rw [c25_6]; rfl) (by decide) ?_
    refine lv_iload_n hx hb d_Mo_part_135 rfl (lv_at hl 2 rfl) ?_
    refine lv_if_eq (tgt := 157) hx hb d_Mo_part_136 (by decide) (fun c18 => ?_) (fun c18 => ?_)
    · have hz := hz.trans (if_pos c18)
      refine lv_aload_n hx hb d_Mo_part_157 rfl (lv_at hl 1 rfl) ?_
      refine lv_aload_n hx hb d_Mo_part_158 rfl (lv_at hl 1 rfl) ?_
      refine gf C hP 0 0 fkMo rfl (by decide) rfl qf_Mo_7 (gMo_0 _ _) d_Mo_part_159 ?_
      refine lv_bipush (v := 32) hx hb d_Mo_part_162 (by decide) ?_
      refine ldL C hP 1 rfl vi_32_215 cn_32 d_Mo_part_164 ?_
      have hB : SubW g (inW ws0) s (wMo g mo a o_1 now dr pa sa iS bu tq rT wT wo sK sA sB sE oq bS bE bL rp) _ (List.range _) _ _ := (subF hP hD hS)
      refine goL0 hB (run_v C mf_Mo_unknownSide qm_Mo_155 (c_Mo_unknownSide l g mo a o_1 now dr pa sa iS bu tq rT wT wo sK sA sB sE oq bS bE bL rp (now 32)) rfl rfl ⟨Nat.le_of_ble_eq_true rfl, Nat.le_of_ble_eq_true rfl⟩ ⟨Nat.le_of_ble_eq_true rfl, Nat.le_of_ble_eq_true rfl⟩ hB rfl rfl hl rfl rfl (Nat.le_of_ble_eq_true rfl) d_Mo_part_165) (fun y19 ey19 H locs hP hS => ?_)
      have hz := lett_z hz ey19
      exact k_Mo_part_168 C y19 trivial _ hz _ _ ls hP hD hS (lv_sub hl [] rfl)
    · have hz := hz.trans (if_neg c18)
      have hok := hok.2 c18
      refine lv_aload_n hx hb d_Mo_part_139 rfl (lv_at hl 1 rfl) ?_
      refine lv_aload_n hx hb d_Mo_part_140 rfl (lv_at hl 1 rfl) ?_
      have hs20 := hok.1
      have hok := hok.2
      have hB : SubW g (inW ws0) s (wMo g mo a o_1 now dr pa sa iS bu tq rT wT wo sK sA sB sE oq bS bE bL rp) _ (List.range _) _ _ := (subF hP hD hS)
      refine goI0 hB (run_v C mf_Mo_setting qm_Mo_176 (c_Mo_setting l g mo a o_1 now dr pa sa iS bu tq rT wT wo sK sA sB sE oq bS bE bL rp hs20) rfl rfl ⟨Nat.le_of_ble_eq_true rfl, Nat.le_of_ble_eq_true rfl⟩ ⟨Nat.le_of_ble_eq_true rfl, Nat.le_of_ble_eq_true rfl⟩ hB rfl rfl hl rfl rfl (Nat.le_of_ble_eq_true rfl) d_Mo_part_141) (fun y21 ey21 H locs hP hS => ?_)
      have hz := lett_z hz ey21
      have hok := lett_o hok ey21
      refine lv_aload_n hx hb d_Mo_part_144 rfl (lv_at hl 1 rfl) ?_
      refine gf C hP 0 0 fkMo rfl (by decide) rfl qf_Mo_7 (gMo_0 _ _) d_Mo_part_145 ?_
      refine lv_bipush (v := 32) hx hb d_Mo_part_148 (by decide) ?_
      refine ldL C hP 1 rfl vi_32_215 cn_32 d_Mo_part_150 ?_
      have hs22 := hok.1
      have hok := hok.2
      have hB : SubW g (inW ws0) s (wMo g mo a o_1 now dr pa sa iS bu tq rT wT wo sK sA sB sE oq bS bE bL rp) _ (List.range _) _ _ := (subF hP hD hS)
      refine goL0 hB (run_v C mf_Mo_boxSide qm_Mo_158 (c_Mo_boxSide l g mo a o_1 now dr pa sa iS bu tq rT wT wo sK sA sB sE oq bS bE bL rp y21 (now 32) hs22) rfl rfl ⟨Nat.le_of_ble_eq_true rfl, Nat.le_of_ble_eq_true rfl⟩ ⟨Nat.le_of_ble_eq_true rfl, Nat.le_of_ble_eq_true rfl⟩ hB rfl rfl hl rfl rfl (Nat.le_of_ble_eq_true rfl) d_Mo_part_151) (fun y23 ey23 H locs hP hS => ?_)
      have hz := lett_z hz ey23
      refine lv_goto (tgt := 168) hx hb d_Mo_part_154 (by decide) ?_
      exact k_Mo_part_168 C y23 trivial _ hz _ _ ls hP hD hS (lv_sub hl [] rfl)
  have hz := hz.trans (if_neg c25_6)
  have hok := hok.2 c25_6
  refine lv_tableOut (x := p2) (tgt := 170) hx hb d_Mo_part_18 (tswL (x := p2) (lo := 0) (hi := 6) 7 [(0 : Int32), (1 : Int32), (2 : Int32), (3 : Int32), (4 : Int32), (5 : Int32), (6 : Int32)] (by decide) (by decide) (List.forall_mem_cons.mpr ⟨c25_0, List.forall_mem_cons.mpr ⟨c25_1, List.forall_mem_cons.mpr ⟨c25_2, List.forall_mem_cons.mpr ⟨c25_3, List.forall_mem_cons.mpr ⟨c25_4, List.forall_mem_cons.mpr ⟨c25_5, List.forall_mem_cons.mpr ⟨c25_6, fun _ h => absurd h List.not_mem_nil⟩⟩⟩⟩⟩⟩⟩)) (by decide) ?_
  refine lv_aload_n hx hb d_Mo_part_170 rfl (lv_at hl 1 rfl) ?_
  refine lv_iconst (v := 1) hx hb d_Mo_part_171 (by decide) ?_
  have hB : SubW g (inW ws0) s (wMo g mo a o_1 now dr pa sa iS bu tq rT wT wo sK sA sB sE oq bS bE bL rp) _ (List.range _) _ _ := (subF hP hD hS)
  refine goIF hB (run_v C mf_Mo_raise qm_Mo_420 (c_Mo_raise l g mo a o_1 now dr pa sa iS bu tq rT wT wo sK sA sB sE oq bS bE bL rp (1 : Int32)) rfl rfl ⟨Nat.le_of_ble_eq_true rfl, Nat.le_of_ble_eq_true rfl⟩ ⟨Nat.le_of_ble_eq_true rfl, Nat.le_of_ble_eq_true rfl⟩ hB rfl rfl hl rfl rfl (Nat.le_of_ble_eq_true rfl) d_Mo_part_172) (fun _ => rfl) (fun y24 ey24 H locs hP hD hS => ?_)
  have hP : va_P g.1 vwCl (wMo g mo a y24.2 now dr pa sa iS bu tq rT wT wo sK sA sB sE oq bS bE bL rp) H := hP
  have hD : va_D (inW ws0) (wMo g mo a y24.2 now dr pa sa iS bu tq rT wT wo sK sA sB sE oq bS bE bL rp) := hD
  have hz := lett_z hz ey24
  exact endI1 C hz hP hS d_Mo_part_175
noncomputable def sp_Mo_part (p1 : Int32) (p2 : Int32) (o : IV) (now : LV) : Int32 × IV := lett (upd o 6 (0 : Int32)) fun (o_1 : IV) => if p1 = 0 then (sp_Mo_part_16 p2 p1 o_1 now (13 : Int32)) else (sp_Mo_part_16 p2 p1 o_1 now (16 : Int32))
def ok_Mo_part (p1 : Int32) (p2 : Int32) (o : IV) (now : LV) : Prop := lett (upd o 6 (0 : Int32)) fun (o_1 : IV) => ((p1 = 0 → ok_Mo_part_16 p2 p1 o_1 now (13 : Int32)) ∧ (¬ (p1 = 0) → ok_Mo_part_16 p2 p1 o_1 now (16 : Int32)))
set_option maxRecDepth 100000 in
set_option maxHeartbeats 4000000 in
theorem c_Mo_part (l : Launch) (g : GX) (mo : Nat) (a : Nat → Nat) (o : IV) (now : LV) (dr : LV) (pa : LV) (sa : LV) (iS : IV) (bu : IV) (tq : IV) (rT : IV) (wT : IV) (wo : Nat → Option Nat) (sK : IV) (sA : IV) (sB : IV) (sE : IV) (oq : IV) (bS : IV) (bE : IV) (bL : IV) (rp : IV) (p1 : Int32) (p2 : Int32) (hok : ok_Mo_part p1 p2 o now) : Met l y_Mo_part (wsY y_Mo_part b_Mo_part 4 (some .int)) rm_Mo_part (CP g [.ref mo, .int p1, .int p2] (wMo g mo a o now dr pa sa iS bu tq rT wT wo sK sA sB sE oq bS bE bL rp)) (CI g (wMo g mo a o now dr pa sa iS bu tq rT wT wo sK sA sB sE oq bS bE bL rp) (fun u : IV => wMo g mo a u now dr pa sa iS bu tq rT wT wo sK sA sB sE oq bS bE bL rp) (sp_Mo_part p1 p2 o now)) 0 0 (inW (wMo g mo a o now dr pa sa iS bu tq rT wT wo sK sA sB sE oq bS bE bL rp)) := by
  refine Met.ofW (cc := b_Mo_part) (maxL := 4) (ret := (some .int)) pn_Mo rfl ?_
  intro p e s m args below meth c s₁ B hml hv
  obtain ⟨rfl, C, hP, hD, hS⟩ := enter "DecadeBridgeModel" rfl B hml hv
  obtain ⟨hx, hb, hr, hml, hown, hlk, hts, hK, hZo, hZ⟩ := id C
  refine entryW (lv := [(0, .ref mo), (1, .int p1), (2, .int p2)]) rfl (Nat.le_of_ble_eq_true rfl) (fun ls hl => ?_)
  obtain ⟨z, hz⟩ : ∃ z, z = sp_Mo_part p1 p2 o now := ⟨_, rfl⟩
  rw [← hz]
  unfold sp_Mo_part at hz
  unfold ok_Mo_part at hok
  refine lv_aload_n hx hb d_Mo_part_0 rfl (lv_at hl 0 rfl) ?_
  refine lv_iconst (v := 0) hx hb d_Mo_part_1 (by decide) ?_
  refine pfI C hP hD hS 0 6 fkMo rfl (by decide) rfl qf_Mo_107 rfl rfl rfl (Nat.le_of_ble_eq_true rfl) (ff := fun o => fMo a o) (sMo_6 _ _ _) d_Mo_part_2 (fun o_1 eo_1 H locs hP hD hS => ?_)
  have hP : va_P g.1 vwCl (wMo g mo a o_1 now dr pa sa iS bu tq rT wT wo sK sA sB sE oq bS bE bL rp) H := hP
  have hD : va_D (inW (wMo g mo a o now dr pa sa iS bu tq rT wT wo sK sA sB sE oq bS bE bL rp)) (wMo g mo a o_1 now dr pa sa iS bu tq rT wT wo sK sA sB sE oq bS bE bL rp) := hD
  have hz := lett_z hz eo_1
  have hok := lett_o hok eo_1
  refine lv_iload_n hx hb d_Mo_part_5 rfl (lv_at hl 1 rfl) ?_
  refine lv_if_eq (tgt := 14) hx hb d_Mo_part_6 (by decide) (fun c2 => ?_) (fun c2 => ?_)
  · have hz := hz.trans (if_pos c2)
    have hok := hok.1 c2
    refine lv_bipush (v := 13) hx hb d_Mo_part_14 (by decide) ?_
    exact k_Mo_part_16 C (13 : Int32) hok _ hz _ _ ls hP hD hS hl
  · have hz := hz.trans (if_neg c2)
    have hok := hok.2 c2
    refine lv_bipush (v := 16) hx hb d_Mo_part_9 (by decide) ?_
    refine lv_goto (tgt := 16) hx hb d_Mo_part_11 (by decide) ?_
    exact k_Mo_part_16 C (16 : Int32) hok _ hz _ _ ls hP hD hS hl
abbrev rm_Mo_isSetting : Room := { frames := 2, cells := 0, slots := 0, locals := 43 }
noncomputable def sp_Mo_isSetting (p1 : Int32) (now : LV) : Int32 := lett (sp_Mo_settings now) fun (y2 : Int32) => lett (sp_Mo_in p1.toInt64 (0 : Int64) (y2.toInt64 - (1 : Int64))) fun (y3 : Int32) => y3
def ok_Mo_isSetting (p1 : Int32) (now : LV) : Prop := (ok_Mo_settings now) ∧ lett (sp_Mo_settings now) fun (y2 : Int32) => lett (sp_Mo_in p1.toInt64 (0 : Int64) (y2.toInt64 - (1 : Int64))) fun (y3 : Int32) => (isB y3) ∧ True
set_option maxRecDepth 100000 in
set_option maxHeartbeats 4000000 in
theorem c_Mo_isSetting (l : Launch) (g : GX) (mo : Nat) (a : Nat → Nat) (o : IV) (now : LV) (dr : LV) (pa : LV) (sa : LV) (iS : IV) (bu : IV) (tq : IV) (rT : IV) (wT : IV) (wo : Nat → Option Nat) (sK : IV) (sA : IV) (sB : IV) (sE : IV) (oq : IV) (bS : IV) (bE : IV) (bL : IV) (rp : IV) (p1 : Int32) (hok : ok_Mo_isSetting p1 now) : Met l y_Mo_isSetting (wsY y_Mo_isSetting b_Mo_isSetting 2 (some .boolean)) rm_Mo_isSetting (CP g [.ref mo, .int p1] (wMo g mo a o now dr pa sa iS bu tq rT wT wo sK sA sB sE oq bS bE bL rp)) (CI0 g (wMo g mo a o now dr pa sa iS bu tq rT wT wo sK sA sB sE oq bS bE bL rp) (sp_Mo_isSetting p1 now)) 0 0 (inW (wMo g mo a o now dr pa sa iS bu tq rT wT wo sK sA sB sE oq bS bE bL rp)) := by
  refine Met.ofW (cc := b_Mo_isSetting) (maxL := 2) (ret := (some .boolean)) pn_Mo rfl ?_
  intro p e s m args below meth c s₁ B hml hv
  obtain ⟨rfl, C, hP, hD, hS⟩ := enter "DecadeBridgeModel" rfl B hml hv
  obtain ⟨hx, hb, hr, hml, hown, hlk, hts, hK, hZo, hZ⟩ := id C
  refine entryW (lv := [(0, .ref mo), (1, .int p1)]) rfl (Nat.le_of_ble_eq_true rfl) (fun ls hl => ?_)
  obtain ⟨z, hz⟩ : ∃ z, z = sp_Mo_isSetting p1 now := ⟨_, rfl⟩
  rw [← hz]
  unfold sp_Mo_isSetting at hz
  unfold ok_Mo_isSetting at hok
  refine lv_iload_n hx hb d_Mo_isSetting_0 rfl (lv_at hl 1 rfl) ?_
  refine lv_i2l hx hb d_Mo_isSetting_1 rfl ?_
  refine lv_lconst (v := 0) hx hb d_Mo_isSetting_2 (by decide) ?_
  refine lv_aload_n hx hb d_Mo_isSetting_3 rfl (lv_at hl 0 rfl) ?_
  have hs1 := hok.1
  have hok := hok.2
  have hB : SubW g (inW (wMo g mo a o now dr pa sa iS bu tq rT wT wo sK sA sB sE oq bS bE bL rp)) s (wMo g mo a o now dr pa sa iS bu tq rT wT wo sK sA sB sE oq bS bE bL rp) _ (List.range _) _ _ := (subF hP hD hS)
  refine goI0 hB (run_v C mf_Mo_settings qm_Mo_256 (c_Mo_settings l g mo a o now dr pa sa iS bu tq rT wT wo sK sA sB sE oq bS bE bL rp hs1) rfl rfl ⟨Nat.le_of_ble_eq_true rfl, Nat.le_of_ble_eq_true rfl⟩ ⟨Nat.le_of_ble_eq_true rfl, Nat.le_of_ble_eq_true rfl⟩ hB rfl rfl hl rfl rfl (Nat.le_of_ble_eq_true rfl) d_Mo_isSetting_4) (fun y2 ey2 H locs hP hS => ?_)
  have hz := lett_z hz ey2
  have hok := lett_o hok ey2
  refine lv_i2l hx hb d_Mo_isSetting_7 rfl ?_
  refine lv_lconst (v := 1) hx hb d_Mo_isSetting_8 (by decide) ?_
  refine lv_lsub hx hb d_Mo_isSetting_9 ?_
  have hB : SubW g (inW (wMo g mo a o now dr pa sa iS bu tq rT wT wo sK sA sB sE oq bS bE bL rp)) s (wMo g mo a o now dr pa sa iS bu tq rT wT wo sK sA sB sE oq bS bE bL rp) _ (List.range _) _ _ := (subF hP hD hS)
  refine goI0 hB (run_s C mf_Mo_in qm_Mo_118 (c_Mo_in l g mo a o now dr pa sa iS bu tq rT wT wo sK sA sB sE oq bS bE bL rp p1.toInt64 (0 : Int64) (y2.toInt64 - (1 : Int64))) rfl rfl ⟨Nat.le_of_ble_eq_true rfl, Nat.le_of_ble_eq_true rfl⟩ ⟨Nat.le_of_ble_eq_true rfl, Nat.le_of_ble_eq_true rfl⟩ hB hl rfl rfl (Nat.le_of_ble_eq_true rfl) d_Mo_isSetting_10) (fun y3 ey3 H locs hP hS => ?_)
  have hz := lett_z hz ey3
  have hok := lett_o hok ey3
  have hs4 := hok.1
  have hok := hok.2
  exact endZ0 C hz hP hS (isB_nar hs4) d_Mo_isSetting_13
abbrev rm_Mo_coldOf : Room := { frames := 3, cells := 0, slots := 0, locals := 69 }
def HL_Mo_coldOf_14 (p : Program) (l : Launch) (e : Env) (s : State) (m : MethodId) (args : Array Value) (below : List Frame) (meth : Method) (c : Code) (g : GX) (mo : Nat) (a : Nat → Nat) (ws0 : va_W) (o : IV) (now : LV) (dr : LV) (pa : LV) (sa : LV) (iS : IV) (bu : IV) (tq : IV) (rT : IV) (wT : IV) (wo : Nat → Option Nat) (sK : IV) (sA : IV) (sB : IV) (sE : IV) (oq : IV) (bS : IV) (bE : IV) (bL : IV) (rp : IV) (p1 : Int32) (sp : Int32 → (Int32 × IV)) (ok : Int32 → Prop) : Prop := ∀ (t1p14 : Int32), ok t1p14 → ∀ z : (Int32 × IV), z = sp t1p14 → ∀ (H : Heap) (locs : List Loc) (ls : Array Slot), va_P g.1 vwCl (wMo g mo a o now dr pa sa iS bu tq rT wT wo sK sA sB sE oq bS bE bL rp) H → va_D (inW ws0) (wMo g mo a o now dr pa sa iS bu tq rT wT wo sK sA sB sE oq bS bE bL rp) → va_S (inW ws0) s.heap H locs → lv_has ls 2 [(0, .ref mo), (1, .int p1)] → W p l e rm_Mo_coldOf s m args below meth c H locs 0 0 (MQ below (CI g ws0 (fun u : IV => wMo g mo a u now dr pa sa iS bu tq rT wT wo sK sA sB sE oq bS bE bL rp) z) args s 0 0 (inW ws0)) (F0 m 14 ls [.int t1p14, .ref mo])
noncomputable def sp_Mo_coldOf_14 (o : IV) (p1 : Int32) (now : LV)  (t1p14 : Int32) : Int32 × IV := lett (upd o 6 t1p14) fun (o_4 : IV) => if (o_4 6) ≤ 0 then (lett (sp_Mo_coldBy p1 now) fun (y7 : Int64) => (y7.toInt32, o_4)) else (((0 : Int32), o_4))
def ok_Mo_coldOf_14 (o : IV) (p1 : Int32) (now : LV)   (t1p14 : Int32) : Prop := lett (upd o 6 t1p14) fun (o_4 : IV) => (((o_4 6) ≤ 0 → (ok_Mo_coldBy p1 now) ∧ True) ∧ (¬ ((o_4 6) ≤ 0) → True))
set_option maxRecDepth 100000 in
set_option maxHeartbeats 4000000 in
theorem k_Mo_coldOf_14 {p : Program} {l : Launch} {e : Env} {s : State} {m : MethodId} {args : Array Value} {below : List Frame} {meth : Method} {c : Code} {g : GX} {mo : Nat} {a : Nat → Nat} {ws0 : va_W} {o : IV} {now : LV} {dr : LV} {pa : LV} {sa : LV} {iS : IV} {bu : IV} {tq : IV} {rT : IV} {wT : IV} {wo : Nat → Option Nat} {sK : IV} {sA : IV} {sB : IV} {sE : IV} {oq : IV} {bS : IV} {bE : IV} {bL : IV} {rp : IV} {p1 : Int32}  (C : Cx p s m args meth c (inW ws0) g "DecadeBridgeModel" b_Mo_coldOf (some .int) 2)  : HL_Mo_coldOf_14 p l e s m args below meth c g mo a ws0 o now dr pa sa iS bu tq rT wT wo sK sA sB sE oq bS bE bL rp p1 (sp_Mo_coldOf_14 o p1 now ) (ok_Mo_coldOf_14 o p1 now  ) := by
  intro t1p14 hok z hz H locs ls hP hD hS hl
  obtain ⟨hx, hb, hr, hml, hown, hlk, hts, hK, hZo, hZ⟩ := id C
  unfold sp_Mo_coldOf_14 at hz
  unfold ok_Mo_coldOf_14 at hok
  refine pfI C hP hD hS 0 6 fkMo rfl (by decide) rfl qf_Mo_107 rfl rfl rfl (Nat.le_of_ble_eq_true rfl) (ff := fun o => fMo a o) (sMo_6 _ _ _) d_Mo_coldOf_14 (fun o_4 eo_4 H locs hP hD hS => ?_)
  have hP : va_P g.1 vwCl (wMo g mo a o_4 now dr pa sa iS bu tq rT wT wo sK sA sB sE oq bS bE bL rp) H := hP
  have hD : va_D (inW ws0) (wMo g mo a o_4 now dr pa sa iS bu tq rT wT wo sK sA sB sE oq bS bE bL rp) := hD
  have hz := lett_z hz eo_4
  have hok := lett_o hok eo_4
  refine lv_aload_n hx hb d_Mo_coldOf_17 rfl (lv_at hl 0 rfl) ?_
  refine gf C hP 0 6 fkMo rfl (by decide) rfl qf_Mo_107 (gMo_6 _ _) d_Mo_coldOf_18 ?_
  refine lv_if_le (tgt := 28) hx hb d_Mo_coldOf_21 (by decide) (fun c5 => ?_) (fun c5 => ?_)
  · have hz := hz.trans (if_pos c5)
    have hok := hok.1 c5
    refine lv_aload_n hx hb d_Mo_coldOf_28 rfl (lv_at hl 0 rfl) ?_
    refine lv_iload_n hx hb d_Mo_coldOf_29 rfl (lv_at hl 1 rfl) ?_
    have hs6 := hok.1
    have hok := hok.2
    have hB : SubW g (inW ws0) s (wMo g mo a o_4 now dr pa sa iS bu tq rT wT wo sK sA sB sE oq bS bE bL rp) _ (List.range _) _ _ := (subF hP hD hS)
    refine goL0 hB (run_v C mf_Mo_coldBy qm_Mo_143 (c_Mo_coldBy l g mo a o_4 now dr pa sa iS bu tq rT wT wo sK sA sB sE oq bS bE bL rp p1 hs6) rfl rfl ⟨Nat.le_of_ble_eq_true rfl, Nat.le_of_ble_eq_true rfl⟩ ⟨Nat.le_of_ble_eq_true rfl, Nat.le_of_ble_eq_true rfl⟩ hB rfl rfl hl rfl rfl (Nat.le_of_ble_eq_true rfl) d_Mo_coldOf_30) (fun y7 ey7 H locs hP hS => ?_)
    have hz := lett_z hz ey7
    refine lv_l2i hx hb d_Mo_coldOf_33 rfl ?_
    exact endI1 C hz hP hS d_Mo_coldOf_34
  · have hz := hz.trans (if_neg c5)
    refine lv_iconst (v := 0) hx hb d_Mo_coldOf_24 (by decide) ?_
    refine lv_goto (tgt := 34) hx hb d_Mo_coldOf_25 (by decide) ?_
    exact endI1 C hz hP hS d_Mo_coldOf_34
noncomputable def sp_Mo_coldOf (p1 : Int32) (o : IV) (now : LV) : Int32 × IV := lett (sp_Mo_isSetting p1 now) fun (y2 : Int32) => if y2 = 0 then (sp_Mo_coldOf_14 o p1 now (1 : Int32)) else (sp_Mo_coldOf_14 o p1 now (0 : Int32))
def ok_Mo_coldOf (p1 : Int32) (o : IV) (now : LV) : Prop := (ok_Mo_isSetting p1 now) ∧ lett (sp_Mo_isSetting p1 now) fun (y2 : Int32) => ((y2 = 0 → ok_Mo_coldOf_14 o p1 now (1 : Int32)) ∧ (¬ (y2 = 0) → ok_Mo_coldOf_14 o p1 now (0 : Int32)))
set_option maxRecDepth 100000 in
set_option maxHeartbeats 4000000 in
theorem c_Mo_coldOf (l : Launch) (g : GX) (mo : Nat) (a : Nat → Nat) (o : IV) (now : LV) (dr : LV) (pa : LV) (sa : LV) (iS : IV) (bu : IV) (tq : IV) (rT : IV) (wT : IV) (wo : Nat → Option Nat) (sK : IV) (sA : IV) (sB : IV) (sE : IV) (oq : IV) (bS : IV) (bE : IV) (bL : IV) (rp : IV) (p1 : Int32) (hok : ok_Mo_coldOf p1 o now) : Met l y_Mo_coldOf (wsY y_Mo_coldOf b_Mo_coldOf 2 (some .int)) rm_Mo_coldOf (CP g [.ref mo, .int p1] (wMo g mo a o now dr pa sa iS bu tq rT wT wo sK sA sB sE oq bS bE bL rp)) (CI g (wMo g mo a o now dr pa sa iS bu tq rT wT wo sK sA sB sE oq bS bE bL rp) (fun u : IV => wMo g mo a u now dr pa sa iS bu tq rT wT wo sK sA sB sE oq bS bE bL rp) (sp_Mo_coldOf p1 o now)) 0 0 (inW (wMo g mo a o now dr pa sa iS bu tq rT wT wo sK sA sB sE oq bS bE bL rp)) := by
  refine Met.ofW (cc := b_Mo_coldOf) (maxL := 2) (ret := (some .int)) pn_Mo rfl ?_
  intro p e s m args below meth c s₁ B hml hv
  obtain ⟨rfl, C, hP, hD, hS⟩ := enter "DecadeBridgeModel" rfl B hml hv
  obtain ⟨hx, hb, hr, hml, hown, hlk, hts, hK, hZo, hZ⟩ := id C
  refine entryW (lv := [(0, .ref mo), (1, .int p1)]) rfl (Nat.le_of_ble_eq_true rfl) (fun ls hl => ?_)
  obtain ⟨z, hz⟩ : ∃ z, z = sp_Mo_coldOf p1 o now := ⟨_, rfl⟩
  rw [← hz]
  unfold sp_Mo_coldOf at hz
  unfold ok_Mo_coldOf at hok
  refine lv_aload_n hx hb d_Mo_coldOf_0 rfl (lv_at hl 0 rfl) ?_
  refine lv_aload_n hx hb d_Mo_coldOf_1 rfl (lv_at hl 0 rfl) ?_
  refine lv_iload_n hx hb d_Mo_coldOf_2 rfl (lv_at hl 1 rfl) ?_
  have hs1 := hok.1
  have hok := hok.2
  have hB : SubW g (inW (wMo g mo a o now dr pa sa iS bu tq rT wT wo sK sA sB sE oq bS bE bL rp)) s (wMo g mo a o now dr pa sa iS bu tq rT wT wo sK sA sB sE oq bS bE bL rp) _ (List.range _) _ _ := (subF hP hD hS)
  refine goI0 hB (run_v C mf_Mo_isSetting qm_Mo_426 (c_Mo_isSetting l g mo a o now dr pa sa iS bu tq rT wT wo sK sA sB sE oq bS bE bL rp p1 hs1) rfl rfl ⟨Nat.le_of_ble_eq_true rfl, Nat.le_of_ble_eq_true rfl⟩ ⟨Nat.le_of_ble_eq_true rfl, Nat.le_of_ble_eq_true rfl⟩ hB rfl rfl hl rfl rfl (Nat.le_of_ble_eq_true rfl) d_Mo_coldOf_3) (fun y2 ey2 H locs hP hS => ?_)
  have hz := lett_z hz ey2
  have hok := lett_o hok ey2
  refine lv_if_eq (tgt := 13) hx hb d_Mo_coldOf_6 (by decide) (fun c3 => ?_) (fun c3 => ?_)
  · have hz := hz.trans (if_pos c3)
    have hok := hok.1 c3
    refine lv_iconst (v := 1) hx hb d_Mo_coldOf_13 (by decide) ?_
    exact k_Mo_coldOf_14 C (1 : Int32) hok _ hz _ _ ls hP hD hS hl
  · have hz := hz.trans (if_neg c3)
    have hok := hok.2 c3
    refine lv_iconst (v := 0) hx hb d_Mo_coldOf_9 (by decide) ?_
    refine lv_goto (tgt := 14) hx hb d_Mo_coldOf_10 (by decide) ?_
    exact k_Mo_coldOf_14 C (0 : Int32) hok _ hz _ _ ls hP hD hS hl
abbrev rm_Mo_share : Room := { frames := 6, cells := 0, slots := 0, locals := 138 }
def HL_Mo_share_45 (p : Program) (l : Launch) (e : Env) (s : State) (m : MethodId) (args : Array Value) (below : List Frame) (meth : Method) (c : Code) (g : GX) (mo : Nat) (a : Nat → Nat) (ws0 : va_W) (o_1 : IV) (now : LV) (dr : LV) (pa : LV) (sa : LV) (iS : IV) (bu : IV) (tq : IV) (rT : IV) (wT : IV) (wo : Nat → Option Nat) (sK : IV) (sA : IV) (sB : IV) (sE : IV) (oq : IV) (bS : IV) (bE : IV) (bL : IV) (rp : IV) (sp : Int64 → (Int32 × IV)) (ok : Int64 → Prop) : Prop := ∀ (t0p45 : Int64), ok t0p45 → ∀ z : (Int32 × IV), z = sp t0p45 → ∀ (H : Heap) (locs : List Loc) (ls : Array Slot), va_P g.1 vwCl (wMo g mo a o_1 now dr pa sa iS bu tq rT wT wo sK sA sB sE oq bS bE bL rp) H → va_D (inW ws0) (wMo g mo a o_1 now dr pa sa iS bu tq rT wT wo sK sA sB sE oq bS bE bL rp) → va_S (inW ws0) s.heap H locs → lv_has ls 2 [] → W p l e rm_Mo_share s m args below meth c H locs 0 0 (MQ below (CI g ws0 (fun u : IV => wMo g mo a u now dr pa sa iS bu tq rT wT wo sK sA sB sE oq bS bE bL rp) z) args s 0 0 (inW ws0)) (F0 m 45 ls [.long t0p45])
noncomputable def sp_Mo_share_45 (o_1 : IV)  (t0p45 : Int64) : Int32 × IV := (t0p45.toInt32, o_1)
def ok_Mo_share_45 (o_1 : IV)   (t0p45 : Int64) : Prop := True
set_option maxRecDepth 100000 in
set_option maxHeartbeats 4000000 in
theorem k_Mo_share_45 {p : Program} {l : Launch} {e : Env} {s : State} {m : MethodId} {args : Array Value} {below : List Frame} {meth : Method} {c : Code} {g : GX} {mo : Nat} {a : Nat → Nat} {ws0 : va_W} {o_1 : IV} {now : LV} {dr : LV} {pa : LV} {sa : LV} {iS : IV} {bu : IV} {tq : IV} {rT : IV} {wT : IV} {wo : Nat → Option Nat} {sK : IV} {sA : IV} {sB : IV} {sE : IV} {oq : IV} {bS : IV} {bE : IV} {bL : IV} {rp : IV}  (C : Cx p s m args meth c (inW ws0) g "DecadeBridgeModel" b_Mo_share (some .int) 2)  : HL_Mo_share_45 p l e s m args below meth c g mo a ws0 o_1 now dr pa sa iS bu tq rT wT wo sK sA sB sE oq bS bE bL rp (sp_Mo_share_45 o_1 ) (ok_Mo_share_45 o_1  ) := by
  intro t0p45 hok z hz H locs ls hP hD hS hl
  obtain ⟨hx, hb, hr, hml, hown, hlk, hts, hK, hZo, hZ⟩ := id C
  unfold sp_Mo_share_45 at hz
  refine lv_l2i hx hb d_Mo_share_45 rfl ?_
  exact endI1 C hz hP hS d_Mo_share_46
noncomputable def sp_Mo_share (p1 : Int32) (o : IV) (now : LV) : Int32 × IV := lett (upd o 6 (0 : Int32)) fun (o_1 : IV) => if p1 = 0 then (lett (sp_Mo_setting now) fun (y4 : Int32) => lett (sp_Mo_unknownShare y4 (now 32) now) fun (y6 : Int64) => sp_Mo_share_45 o_1 y6) else (lett (sp_Mo_armsShare (now 29) (now 30) now) fun (y8 : Int64) => sp_Mo_share_45 o_1 y8)
def ok_Mo_share (p1 : Int32) (o : IV) (now : LV) : Prop := lett (upd o 6 (0 : Int32)) fun (o_1 : IV) => ((p1 = 0 → (ok_Mo_setting now) ∧ lett (sp_Mo_setting now) fun (y4 : Int32) => (ok_Mo_unknownShare y4 (now 32) now) ∧ True) ∧ (¬ (p1 = 0) → (ok_Mo_armsShare (now 29) (now 30) now) ∧ True))
set_option maxRecDepth 100000 in
set_option maxHeartbeats 4000000 in
theorem c_Mo_share (l : Launch) (g : GX) (mo : Nat) (a : Nat → Nat) (o : IV) (now : LV) (dr : LV) (pa : LV) (sa : LV) (iS : IV) (bu : IV) (tq : IV) (rT : IV) (wT : IV) (wo : Nat → Option Nat) (sK : IV) (sA : IV) (sB : IV) (sE : IV) (oq : IV) (bS : IV) (bE : IV) (bL : IV) (rp : IV) (p1 : Int32) (hok : ok_Mo_share p1 o now) : Met l y_Mo_share (wsY y_Mo_share b_Mo_share 2 (some .int)) rm_Mo_share (CP g [.ref mo, .int p1] (wMo g mo a o now dr pa sa iS bu tq rT wT wo sK sA sB sE oq bS bE bL rp)) (CI g (wMo g mo a o now dr pa sa iS bu tq rT wT wo sK sA sB sE oq bS bE bL rp) (fun u : IV => wMo g mo a u now dr pa sa iS bu tq rT wT wo sK sA sB sE oq bS bE bL rp) (sp_Mo_share p1 o now)) 0 0 (inW (wMo g mo a o now dr pa sa iS bu tq rT wT wo sK sA sB sE oq bS bE bL rp)) := by
  refine Met.ofW (cc := b_Mo_share) (maxL := 2) (ret := (some .int)) pn_Mo rfl ?_
  intro p e s m args below meth c s₁ B hml hv
  obtain ⟨rfl, C, hP, hD, hS⟩ := enter "DecadeBridgeModel" rfl B hml hv
  obtain ⟨hx, hb, hr, hml, hown, hlk, hts, hK, hZo, hZ⟩ := id C
  refine entryW (lv := [(0, .ref mo), (1, .int p1)]) rfl (Nat.le_of_ble_eq_true rfl) (fun ls hl => ?_)
  obtain ⟨z, hz⟩ : ∃ z, z = sp_Mo_share p1 o now := ⟨_, rfl⟩
  rw [← hz]
  unfold sp_Mo_share at hz
  unfold ok_Mo_share at hok
  refine lv_aload_n hx hb d_Mo_share_0 rfl (lv_at hl 0 rfl) ?_
  refine lv_iconst (v := 0) hx hb d_Mo_share_1 (by decide) ?_
  refine pfI C hP hD hS 0 6 fkMo rfl (by decide) rfl qf_Mo_107 rfl rfl rfl (Nat.le_of_ble_eq_true rfl) (ff := fun o => fMo a o) (sMo_6 _ _ _) d_Mo_share_2 (fun o_1 eo_1 H locs hP hD hS => ?_)
  have hP : va_P g.1 vwCl (wMo g mo a o_1 now dr pa sa iS bu tq rT wT wo sK sA sB sE oq bS bE bL rp) H := hP
  have hD : va_D (inW (wMo g mo a o now dr pa sa iS bu tq rT wT wo sK sA sB sE oq bS bE bL rp)) (wMo g mo a o_1 now dr pa sa iS bu tq rT wT wo sK sA sB sE oq bS bE bL rp) := hD
  have hz := lett_z hz eo_1
  have hok := lett_o hok eo_1
  refine lv_iload_n hx hb d_Mo_share_5 rfl (lv_at hl 1 rfl) ?_
  refine lv_if_eq (tgt := 30) hx hb d_Mo_share_6 (by decide) (fun c2 => ?_) (fun c2 => ?_)
  · have hz := hz.trans (if_pos c2)
    have hok := hok.1 c2
    refine lv_aload_n hx hb d_Mo_share_30 rfl (lv_at hl 0 rfl) ?_
    refine lv_aload_n hx hb d_Mo_share_31 rfl (lv_at hl 0 rfl) ?_
    have hs3 := hok.1
    have hok := hok.2
    have hB : SubW g (inW (wMo g mo a o now dr pa sa iS bu tq rT wT wo sK sA sB sE oq bS bE bL rp)) s (wMo g mo a o_1 now dr pa sa iS bu tq rT wT wo sK sA sB sE oq bS bE bL rp) _ (List.range _) _ _ := (subF hP hD hS)
    refine goI0 hB (run_v C mf_Mo_setting qm_Mo_176 (c_Mo_setting l g mo a o_1 now dr pa sa iS bu tq rT wT wo sK sA sB sE oq bS bE bL rp hs3) rfl rfl ⟨Nat.le_of_ble_eq_true rfl, Nat.le_of_ble_eq_true rfl⟩ ⟨Nat.le_of_ble_eq_true rfl, Nat.le_of_ble_eq_true rfl⟩ hB rfl rfl hl rfl rfl (Nat.le_of_ble_eq_true rfl) d_Mo_share_32) (fun y4 ey4 H locs hP hS => ?_)
    have hz := lett_z hz ey4
    have hok := lett_o hok ey4
    refine lv_aload_n hx hb d_Mo_share_35 rfl (lv_at hl 0 rfl) ?_
    refine gf C hP 0 0 fkMo rfl (by decide) rfl qf_Mo_7 (gMo_0 _ _) d_Mo_share_36 ?_
    refine lv_bipush (v := 32) hx hb d_Mo_share_39 (by decide) ?_
    refine ldL C hP 1 rfl vi_32_215 cn_32 d_Mo_share_41 ?_
    have hs5 := hok.1
    have hok := hok.2
    have hB : SubW g (inW (wMo g mo a o now dr pa sa iS bu tq rT wT wo sK sA sB sE oq bS bE bL rp)) s (wMo g mo a o_1 now dr pa sa iS bu tq rT wT wo sK sA sB sE oq bS bE bL rp) _ (List.range _) _ _ := (subF hP hD hS)
    refine goL0 hB (run_v C mf_Mo_unknownShare qm_Mo_165 (c_Mo_unknownShare l g mo a o_1 now dr pa sa iS bu tq rT wT wo sK sA sB sE oq bS bE bL rp y4 (now 32) hs5) rfl rfl ⟨Nat.le_of_ble_eq_true rfl, Nat.le_of_ble_eq_true rfl⟩ ⟨Nat.le_of_ble_eq_true rfl, Nat.le_of_ble_eq_true rfl⟩ hB rfl rfl hl rfl rfl (Nat.le_of_ble_eq_true rfl) d_Mo_share_42) (fun y6 ey6 H locs hP hS => ?_)
    have hz := lett_z hz ey6
    exact k_Mo_share_45 C y6 trivial _ hz _ _ ls hP hD hS (lv_sub hl [] rfl)
  · have hz := hz.trans (if_neg c2)
    have hok := hok.2 c2
    refine lv_aload_n hx hb d_Mo_share_9 rfl (lv_at hl 0 rfl) ?_
    refine lv_aload_n hx hb d_Mo_share_10 rfl (lv_at hl 0 rfl) ?_
    refine gf C hP 0 0 fkMo rfl (by decide) rfl qf_Mo_7 (gMo_0 _ _) d_Mo_share_11 ?_
    refine lv_bipush (v := 29) hx hb d_Mo_share_14 (by decide) ?_
    refine ldL C hP 1 rfl vi_29_215 cn_29 d_Mo_share_16 ?_
    refine lv_aload_n hx hb d_Mo_share_17 rfl (lv_at hl 0 rfl) ?_
    refine gf C hP 0 0 fkMo rfl (by decide) rfl qf_Mo_7 (gMo_0 _ _) d_Mo_share_18 ?_
    refine lv_bipush (v := 30) hx hb d_Mo_share_21 (by decide) ?_
    refine ldL C hP 1 rfl vi_30_215 cn_30 d_Mo_share_23 ?_
    have hs7 := hok.1
    have hok := hok.2
    have hB : SubW g (inW (wMo g mo a o now dr pa sa iS bu tq rT wT wo sK sA sB sE oq bS bE bL rp)) s (wMo g mo a o_1 now dr pa sa iS bu tq rT wT wo sK sA sB sE oq bS bE bL rp) _ (List.range _) _ _ := (subF hP hD hS)
    refine goL0 hB (run_v C mf_Mo_armsShare qm_Mo_168 (c_Mo_armsShare l g mo a o_1 now dr pa sa iS bu tq rT wT wo sK sA sB sE oq bS bE bL rp (now 29) (now 30) hs7) rfl rfl ⟨Nat.le_of_ble_eq_true rfl, Nat.le_of_ble_eq_true rfl⟩ ⟨Nat.le_of_ble_eq_true rfl, Nat.le_of_ble_eq_true rfl⟩ hB rfl rfl hl rfl rfl (Nat.le_of_ble_eq_true rfl) d_Mo_share_24) (fun y8 ey8 H locs hP hS => ?_)
    have hz := lett_z hz ey8
    refine lv_goto (tgt := 45) hx hb d_Mo_share_27 (by decide) ?_
    exact k_Mo_share_45 C y8 trivial _ hz _ _ ls hP hD hS (lv_sub hl [] rfl)
abbrev rm_Mo_deflection : Room := { frames := 9, cells := 0, slots := 0, locals := 208 }
noncomputable def sp_Mo_deflection (o : IV) (now : LV) : Int64 × IV := lett (upd o 6 (0 : Int32)) fun (o_1 : IV) => lett (sp_Mo_deflectionNow now) fun (y3 : Int64) => (y3, o_1)
def ok_Mo_deflection (o : IV) (now : LV) : Prop := lett (upd o 6 (0 : Int32)) fun (o_1 : IV) => (ok_Mo_deflectionNow now) ∧ True
set_option maxRecDepth 100000 in
set_option maxHeartbeats 4000000 in
theorem c_Mo_deflection (l : Launch) (g : GX) (mo : Nat) (a : Nat → Nat) (o : IV) (now : LV) (dr : LV) (pa : LV) (sa : LV) (iS : IV) (bu : IV) (tq : IV) (rT : IV) (wT : IV) (wo : Nat → Option Nat) (sK : IV) (sA : IV) (sB : IV) (sE : IV) (oq : IV) (bS : IV) (bE : IV) (bL : IV) (rp : IV)  (hok : ok_Mo_deflection o now) : Met l y_Mo_deflection (wsY y_Mo_deflection b_Mo_deflection 1 (some .long)) rm_Mo_deflection (CP g [.ref mo] (wMo g mo a o now dr pa sa iS bu tq rT wT wo sK sA sB sE oq bS bE bL rp)) (CL g (wMo g mo a o now dr pa sa iS bu tq rT wT wo sK sA sB sE oq bS bE bL rp) (fun u : IV => wMo g mo a u now dr pa sa iS bu tq rT wT wo sK sA sB sE oq bS bE bL rp) (sp_Mo_deflection o now)) 0 0 (inW (wMo g mo a o now dr pa sa iS bu tq rT wT wo sK sA sB sE oq bS bE bL rp)) := by
  refine Met.ofW (cc := b_Mo_deflection) (maxL := 1) (ret := (some .long)) pn_Mo rfl ?_
  intro p e s m args below meth c s₁ B hml hv
  obtain ⟨rfl, C, hP, hD, hS⟩ := enter "DecadeBridgeModel" rfl B hml hv
  obtain ⟨hx, hb, hr, hml, hown, hlk, hts, hK, hZo, hZ⟩ := id C
  refine entryW (lv := [(0, .ref mo)]) rfl (Nat.le_of_ble_eq_true rfl) (fun ls hl => ?_)
  obtain ⟨z, hz⟩ : ∃ z, z = sp_Mo_deflection o now := ⟨_, rfl⟩
  rw [← hz]
  unfold sp_Mo_deflection at hz
  unfold ok_Mo_deflection at hok
  refine lv_aload_n hx hb d_Mo_deflection_0 rfl (lv_at hl 0 rfl) ?_
  refine lv_iconst (v := 0) hx hb d_Mo_deflection_1 (by decide) ?_
  refine pfI C hP hD hS 0 6 fkMo rfl (by decide) rfl qf_Mo_107 rfl rfl rfl (Nat.le_of_ble_eq_true rfl) (ff := fun o => fMo a o) (sMo_6 _ _ _) d_Mo_deflection_2 (fun o_1 eo_1 H locs hP hD hS => ?_)
  have hP : va_P g.1 vwCl (wMo g mo a o_1 now dr pa sa iS bu tq rT wT wo sK sA sB sE oq bS bE bL rp) H := hP
  have hD : va_D (inW (wMo g mo a o now dr pa sa iS bu tq rT wT wo sK sA sB sE oq bS bE bL rp)) (wMo g mo a o_1 now dr pa sa iS bu tq rT wT wo sK sA sB sE oq bS bE bL rp) := hD
  have hz := lett_z hz eo_1
  have hok := lett_o hok eo_1
  refine lv_aload_n hx hb d_Mo_deflection_5 rfl (lv_at hl 0 rfl) ?_
  have hs2 := hok.1
  have hok := hok.2
  have hB : SubW g (inW (wMo g mo a o now dr pa sa iS bu tq rT wT wo sK sA sB sE oq bS bE bL rp)) s (wMo g mo a o_1 now dr pa sa iS bu tq rT wT wo sK sA sB sE oq bS bE bL rp) _ (List.range _) _ _ := (subF hP hD hS)
  refine goL0 hB (run_v C mf_Mo_deflectionNow qm_Mo_220 (c_Mo_deflectionNow l g mo a o_1 now dr pa sa iS bu tq rT wT wo sK sA sB sE oq bS bE bL rp hs2) rfl rfl ⟨Nat.le_of_ble_eq_true rfl, Nat.le_of_ble_eq_true rfl⟩ ⟨Nat.le_of_ble_eq_true rfl, Nat.le_of_ble_eq_true rfl⟩ hB rfl rfl hl rfl rfl (Nat.le_of_ble_eq_true rfl) d_Mo_deflection_6) (fun y3 ey3 H locs hP hS => ?_)
  have hz := lett_z hz ey3
  exact endL1 C hz hP hS d_Mo_deflection_9
